/-! waves: add, take -/
theorem wp_I {st : tt_St} {W o f : Nat} {a b c : Int32} : tt_I (wa_put st W a b c) o f = (if o = W ∧ f < 3 then (if f = 0 then a else if f = 1 then b else c) else tt_I st o f) := by
  unfold wa_put
  by_cases q : o = W ∧ f < 3
  · rw [if_pos q]
    obtain ⟨rfl, hf⟩ := q
    by_cases f2 : f = 2
    · subst f2; rw [px_I1]; rfl
    · rw [px_I (by omega)]
      by_cases f1 : f = 1
      · subst f1; rw [px_I1]; rfl
      · rw [px_I (by omega)]
        have f0 : f = 0 := by omega
        subst f0; rw [px_I1]; rfl
  · rw [if_neg q, px_I (by omega), px_I (by omega), px_I (by omega)]
theorem wp_A {st : tt_St} {W : Nat} {a b c : Int32} : (wa_put st W a b c).2 = st.2 := rfl
theorem ix_0 {p w : Nat} (hp : p < 4) (hw : w < 3) : Int32.toNatClampNeg ((9 * nI p) + (3 * nI w)) = 9 * p + 3 * w := by
  have := eq_ix hp hw (f := 0) (by omega) (x := 0) rfl
  rw [Int32.add_zero] at this
  exact this
theorem eq_add_c {k : Nat} {sc sm : tt_St} (h : rl k sc sm) (a x y z : Int32) : (tb_add sc a x y z).1 = (mo_add sm a x y z).1 ∧ rl k (tb_add sc a x y z).2 (mo_add sm a x y z).2 := by
  rw [tb_add, mo_add]
  rcases h.knows a with ⟨c1, c2⟩ | ⟨c1, c2, p, hp, hp4, rfl⟩
  · rw [if_pos c1, if_pos c2]; exact ⟨rfl, h⟩
  · rw [if_neg c1, if_neg c2, mo_isNumber, eq_within, eq_within, eq_within, nI_clamp (by omega)]
    by_cases d1 : mo_within x 1 99 = 0
    · rw [if_pos d1, if_pos d1]; exact ⟨rfl, h⟩
    · rw [if_neg d1, if_neg d1]
      by_cases d2 : mo_within y 0 99 = 0
      · rw [if_pos d2, if_pos d2]; exact ⟨rfl, h⟩
      · rw [if_neg d2, if_neg d2]
        by_cases d3 : mo_within z 0 63 = 0
        · rw [if_pos d3, if_pos d3]; exact ⟨rfl, h⟩
        · rw [if_neg d3, if_neg d3]
          have h1 := h.1.1 (9 + p) (tt_ci_po (by omega) (by omega))
          have hq := h.port hp
          have e6 : tt_I sc (9 + p) 6 = tt_A sm 54 p := hq.1.1.2.2.2.2
          have e3 : (3 : Int32).toInt = 3 := rfl
          have e1 : (1 : Int32).toInt = 1 := rfl
          by_cases c : tt_I sc (9 + p) 6 < 3
          · have c' := c
            rw [tt_lt, e3] at c'
            have nc : ¬ tt_A sm 54 p = 3 := by rw [← e6, tt_eq, e3]; omega
            have nc2 : ¬ 3 ≤ tt_I sc (9 + p) 6 := by rw [tt_le, e3]; omega
            rw [if_pos c, if_neg nc, po_putWave, if_neg nc2]
            obtain ⟨m, hm⟩ : ∃ m, m = (tt_I sc (9 + p) 6).toNatClampNeg := ⟨_, rfl⟩
            have hm3 : m < 3 := by rw [hm, tt_clamp]; omega
            have em : tt_I sc (9 + p) 6 = nI m := by rw [hm]; exact (tt_nIc h1.1).symm
            have em' : tt_A sm 54 p = nI m := by rw [← e6, em]
            have wI : tt_I (wa_put sc (tt_wv (9 + p) m) x y z) (9 + p) 6 = nI m := by
              rw [wp_I, if_neg (by omega), em]
            rw [em, em', nI_clamp (by omega), wI, px_I1, ix_0 hp4 hm3, eq_ix hp4 hm3 (f := 1) (x := 1) (by omega) rfl, eq_ix hp4 hm3 (f := 2) (x := 2) (by omega) rfl]
            have aI : ∀ v1 v2 v3 : Int32, tt_A (tt_pA (tt_pA (tt_pA sm 55 (9 * p + 3 * m) v1) 55 (9 * p + 3 * m + 1) v2) 55 (9 * p + 3 * m + 2) v3) 54 p = nI m := fun v1 v2 v3 => by
              rw [px_A (by omega), px_A (by omega), px_A (by omega), em']
            rw [aI, px_A1]
            refine ⟨rfl, ?_⟩
            have W : tt_wv (9 + p) m = 25 + 3 * p + m := by unfold tt_wv; omega
            have WI : ∀ o f, ¬ (o = 9 + p ∧ f = 6) → tt_I (tt_pI (wa_put sc (tt_wv (9 + p) m) x y z) (9 + p) 6 (nI m + 1)) o f = (if o = 25 + 3 * p + m ∧ f < 3 then (if f = 0 then x else if f = 1 then y else z) else tt_I sc o f) := fun o f ho => by
              rw [px_I ho, wp_I, W]
            have m6 : tt_I (tt_pI (wa_put sc (tt_wv (9 + p) m) x y z) (9 + p) 6 (nI m + 1)) (9 + p) 6 = nI (m + 1) := by rw [px_I1, nI_1]
            have fI : ∀ f, ¬ f = 6 → tt_I (tt_pI (wa_put sc (tt_wv (9 + p) m) x y z) (9 + p) 6 (nI m + 1)) (9 + p) f = tt_I sc (9 + p) f := fun f hf => by rw [WI _ _ (by omega), if_neg (by omega)]
            have vI : ∀ w f, w < 3 → w < m + 1 → f < 3 → tt_I (tt_pI (wa_put sc (tt_wv (9 + p) m) x y z) (9 + p) 6 (nI m + 1)) (tt_wv (9 + p) w) f = (if w = m then (if f = 0 then x else if f = 1 then y else z) else tt_I sc (tt_wv (9 + p) w) f) := fun w f hw hwm hf => by
              have W2 : tt_wv (9 + p) w = 25 + 3 * p + w := by unfold tt_wv; omega
              rw [W2, WI _ _ (by omega)]
              by_cases q : w = m
              · rw [if_pos q, if_pos (by omega)]
              · rw [if_neg q, if_neg (by omega)]
            have y99 := wi99 d2
            refine h.upd hp (fun o f q1 q2 => ?_) (fun j => rfl) (fun f => rfl) (fun b j q1 q2 => ?_) ⟨⟨?_, ?_, ?_, ?_, ?_⟩, fun w f hw hwm hf => ?_⟩ ⟨?_, ?_, ?_, ?_, fun w hw hwm => ?_⟩ ?_ ?_
            · rw [WI _ _ (by omega), if_neg (by omega)]
            · rw [px_A (by omega), px_A (by omega), px_A (by omega), px_A (by omega)]
            · rw [fI 0 (by omega), px_A (by omega), px_A (by omega), px_A (by omega), px_A (by omega)]; exact hq.1.1.1
            · rw [fI 1 (by omega), px_A (by omega), px_A (by omega), px_A (by omega), px_A (by omega)]; exact hq.1.1.2.1
            · rw [fI 2 (by omega), px_A (by omega), px_A (by omega), px_A (by omega), px_A (by omega)]; exact hq.1.1.2.2.1
            · rw [fI 3 (by omega), px_A (by omega), px_A (by omega), px_A (by omega), px_A (by omega)]; exact hq.1.1.2.2.2.1
            · rw [m6, px_A1, nI_1]
            · rw [m6, nI_clamp (by omega)] at hwm
              rw [vI w f hw hwm hf]
              by_cases q : w = m
              · subst q
                rw [if_pos rfl, px_A (by omega)]
                by_cases f0 : f = 0
                · subst f0; rw [px_A (by omega), px_A (by omega), if_pos rfl]; exact px_A1.symm
                · by_cases f1 : f = 1
                  · subst f1; rw [px_A (by omega), if_neg f0, if_pos rfl]; exact px_A1.symm
                  · have f2 : f = 2 := by omega
                    subst f2; rw [if_neg f0, if_neg f1]; exact px_A1.symm
              · rw [if_neg q, px_A (by omega), px_A (by omega), px_A (by omega), px_A (by omega)]
                exact hq.1.2 w f hw (by omega) hf
            · rw [fI 0 (by omega)]; exact hq.2.1
            · rw [fI 1 (by omega)]; exact hq.2.2.1
            · rw [fI 2 (by omega)]; exact hq.2.2.2.1
            · rw [fI 3 (by omega)]; exact hq.2.2.2.2.1
            · rw [m6, nI_clamp (by omega)] at hwm
              rw [vI w 1 hw hwm (by omega)]
              by_cases q : w = m
              · rw [if_pos q]; exact y99
              · rw [if_neg q]; exact hq.2.2.2.2.2 w hw (by omega)
            · rw [m6, nI_toInt (by omega)]; omega
            · rintro rfl
              rw [show (9 : Nat) = 9 + 0 from rfl, fI 0 (by omega)]; exact h.2.2.2.2.1.2.2 hp
          · have c' := c
            rw [tt_lt, e3] at c'
            have nc : tt_A sm 54 p = 3 := by rw [← e6, tt_eq, e3]; omega
            rw [if_neg c, if_pos nc]; exact ⟨rfl, h⟩
theorem tk_m {p w : Nat} (hp : p < 4) (hw : w < 3) : ∀ (n j : Nat) (st : tt_St), j + n = 6 - 3 * w → (mo_take_l22 (nI p) (nI w) n j st).1 = st.1 ∧ (∀ b, ¬ b = 55 → (mo_take_l22 (nI p) (nI w) n j st).2.2 b = st.2.2 b) ∧ ∀ i, tt_A (mo_take_l22 (nI p) (nI w) n j st) 55 i = (if 9 * p + 3 * w + j ≤ i ∧ i < 9 * p + 3 * w + j + n then tt_A st 55 (i + 3) else tt_A st 55 i) := by
  intro n
  induction n with
  | zero => intro j st _; exact ⟨rfl, fun b _ => rfl, fun i => by rw [if_neg (by omega)]; rfl⟩
  | succ n ih =>
    intro j st hj
    have t := tt_tk (p := nI p) (w := nI w) (j := j) ⟨tt_in (by rw [nI_toInt (by omega)]; omega) (by rw [nI_toInt (by omega)]; omega), tt_in (by rw [nI_toInt (by omega)]; omega) (by rw [nI_toInt (by omega)]; omega)⟩ (by omega)
    rw [nI_toInt (by omega), nI_toInt (by omega)] at t
    have e1 : Int32.toNatClampNeg (((9 * nI p) + (3 * nI w)) + nI j) = 9 * p + 3 * w + j := by rw [tt_clamp, t.1]; omega
    have e2 : Int32.toNatClampNeg ((((9 * nI p) + (3 * nI w)) + nI j) + 3) = 9 * p + 3 * w + j + 3 := by rw [tt_clamp, t.2.2.1]; omega
    rw [mo_take_l22, e1, e2]
    obtain ⟨i1, i2, i3⟩ := ih (j + 1) (tt_pA st 55 (9 * p + 3 * w + j) (tt_A st 55 (9 * p + 3 * w + j + 3))) (by omega)
    refine ⟨i1, fun b hb => ?_, fun i => ?_⟩
    · rw [i2 b hb]
      funext i
      exact px_A (a' := b) (j' := i) (by omega)
    · rw [i3 i]
      by_cases c : i = 9 * p + 3 * w + j
      · rw [if_neg (by omega), if_pos (by omega), c, px_A1]
      · by_cases c2 : 9 * p + 3 * w + (j + 1) ≤ i ∧ i < 9 * p + 3 * w + (j + 1) + n
        · rw [if_pos c2, if_pos (by omega), px_A (by omega)]
        · rw [if_neg c2, if_neg (by omega), px_A (by omega)]
theorem tk_c {p w m : Nat} (hp : p < 4) (hw : w < m) (hm : m ≤ 3) : ∀ (n j : Nat) (st : tt_St), j + n = m - 1 - w → (po_dropWave_l2 (9 + p) (nI w) m n j st).2 = st.2 ∧ ∀ o f, tt_I (po_dropWave_l2 (9 + p) (nI w) m n j st) o f = (if 25 + 3 * p + w + j ≤ o ∧ o < 25 + 3 * p + w + j + n ∧ f < 3 then tt_I st (o + 1) f else tt_I st o f) := by
  intro n
  induction n with
  | zero => intro j st _; exact ⟨rfl, fun o f => by rw [if_neg (by omega)]; rfl⟩
  | succ n ih =>
    intro j st hj
    have e1 : tt_wv (9 + p) (Int32.toNatClampNeg (nI w + nI j)) = 25 + 3 * p + w + j := by
      rw [nI_add, nI_clamp (by omega)]; unfold tt_wv; omega
    have e2 : tt_wv (9 + p) (Int32.toNatClampNeg ((nI w + nI j) + 1)) = 25 + 3 * p + w + j + 1 := by
      rw [nI_add, nI_1, nI_clamp (by omega)]; unfold tt_wv; omega
    rw [po_dropWave_l2, e1, e2]
    obtain ⟨i1, i2⟩ := ih (j + 1) (wa_put st (25 + 3 * p + w + j) (tt_I st (25 + 3 * p + w + j + 1) 0) (tt_I st (25 + 3 * p + w + j + 1) 1) (tt_I st (25 + 3 * p + w + j + 1) 2)) (by omega)
    refine ⟨i1, fun o f => ?_⟩
    rw [i2 o f, wp_I, wp_I]
    by_cases c : o = 25 + 3 * p + w + j ∧ f < 3
    · have nA : ¬ (25 + 3 * p + w + (j + 1) ≤ o ∧ o < 25 + 3 * p + w + (j + 1) + n ∧ f < 3) := by omega
      have hB : 25 + 3 * p + w + j ≤ o ∧ o < 25 + 3 * p + w + j + (n + 1) ∧ f < 3 := by omega
      rw [if_neg nA, if_pos c, if_pos hB, c.1]
      by_cases f0 : f = 0
      · subst f0; rw [if_pos rfl]
      · by_cases f1 : f = 1
        · subst f1; rw [if_neg f0, if_pos rfl]
        · have f2 : f = 2 := by omega
          subst f2; rw [if_neg f0, if_neg f1]
    · by_cases c2 : 25 + 3 * p + w + (j + 1) ≤ o ∧ o < 25 + 3 * p + w + (j + 1) + n ∧ f < 3
      · have hB : 25 + 3 * p + w + j ≤ o ∧ o < 25 + 3 * p + w + j + (n + 1) ∧ f < 3 := by omega
        have hC : ¬ (o + 1 = 25 + 3 * p + w + j ∧ f < 3) := by omega
        rw [if_pos c2, if_pos hB, if_neg hC]
      · have hB : ¬ (25 + 3 * p + w + j ≤ o ∧ o < 25 + 3 * p + w + j + (n + 1) ∧ f < 3) := by omega
        rw [if_neg c2, if_neg c, if_neg hB]
theorem eq_take_c {k : Nat} {sc sm : tt_St} (h : rl k sc sm) (a b : Int32) : (tb_take sc a b).1 = (mo_take sm a b).1 ∧ rl k (tb_take sc a b).2 (mo_take sm a b).2 := by
  rw [tb_take, mo_take]
  rcases h.knows a with ⟨c1, c2⟩ | ⟨c1, c2, p, hp, hp4, rfl⟩
  · rw [if_pos c1, mo_isWave, if_pos c2, if_pos rfl]; exact ⟨rfl, h⟩
  · rw [if_neg c1, nI_clamp (by omega)]
    rcases h.wave hp c2 b with ⟨d1, d2⟩ | ⟨d1, d2, w, hw3, hw, rfl⟩
    · rw [if_pos d1, if_pos d2]; exact ⟨rfl, h⟩
    · rw [if_neg d1, if_neg d2]
      have h1 := h.1.1 (9 + p) (tt_ci_po (by omega) (by omega))
      have hq := h.port hp
      have e6 : tt_I sc (9 + p) 6 = tt_A sm 54 p := hq.1.1.2.2.2.2
      obtain ⟨m, hm⟩ : ∃ m, m = (tt_I sc (9 + p) 6).toNatClampNeg := ⟨_, rfl⟩
      have hm3 : m ≤ 3 := by rw [hm, tt_clamp]; omega
      have em : tt_I sc (9 + p) 6 = nI m := by rw [hm]; exact (tt_nIc h1.1).symm
      have em' : tt_A sm 54 p = nI m := by rw [← e6, em]
      rw [← hm] at hw
      rw [po_dropWave, em, nI_clamp (by omega), nI_clamp (by omega)]
      obtain ⟨v1, v2⟩ := tk_c hp4 hw hm3 (m - 1 - w) 0 sc (by omega)
      obtain ⟨u1, u2, u3⟩ := tk_m hp4 hw3 (6 - 3 * w) 0 sm (by omega)
      generalize po_dropWave_l2 (9 + p) (nI w) m (m - 1 - w) 0 sc = s1 at v1 v2 ⊢
      generalize mo_take_l22 (nI p) (nI w) (6 - 3 * w) 0 sm = s2 at u1 u2 u3 ⊢
      have x6 : tt_I s1 (9 + p) 6 = nI m := by rw [v2, if_neg (by omega), em]
      have y6 : tt_A s2 54 p = nI m := by
        have : tt_A s2 54 p = tt_A sm 54 p := congrFun (u2 54 (by decide)) p
        rw [this, em']
      rw [x6, y6, px_I1, px_A1]
      refine ⟨rfl, ?_⟩
      obtain ⟨i, rfl⟩ : ∃ i, m = i + 1 := ⟨m - 1, by omega⟩
      rw [nI_pred]
      have fI : ∀ f, ¬ f = 6 → tt_I (tt_pI s1 (9 + p) 6 (nI i)) (9 + p) f = tt_I sc (9 + p) f := fun f hf => by rw [px_I (by omega), v2, if_neg (by omega)]
      have m6 : tt_I (tt_pI s1 (9 + p) 6 (nI i)) (9 + p) 6 = nI i := px_I1
      have fA : ∀ x j, ¬ x = 55 → ¬ (x = 54 ∧ j = p) → tt_A (tt_pA s2 54 p (nI i)) x j = tt_A sm x j := fun x j hx hj => by
        rw [px_A hj]; exact congrFun (u2 x hx) j
      have vI : ∀ v f, v < 3 → v < i → f < 3 → tt_I (tt_pI s1 (9 + p) 6 (nI i)) (tt_wv (9 + p) v) f = (if w ≤ v then tt_I sc (tt_wv (9 + p) (v + 1)) f else tt_I sc (tt_wv (9 + p) v) f) := fun v f hv hvi hf => by
        have W2 : tt_wv (9 + p) v = 25 + 3 * p + v := by unfold tt_wv; omega
        have W3 : tt_wv (9 + p) (v + 1) = 25 + 3 * p + v + 1 := by unfold tt_wv; omega
        rw [W2, W3, px_I (by omega), v2]
        by_cases q : w ≤ v
        · rw [if_pos q, if_pos (by omega)]
        · rw [if_neg q, if_neg (by omega)]
      refine h.upd hp (fun o f q1 q2 => ?_) (fun j => ?_) (fun f => ?_) (fun b j q1 q2 => ?_) ⟨⟨?_, ?_, ?_, ?_, ?_⟩, fun v f hv hvm hf => ?_⟩ ⟨?_, ?_, ?_, ?_, fun v hv hvm => ?_⟩ ?_ ?_
      · rw [px_I (by omega), v2, if_neg (by omega)]
      · exact congrFun (congrFun (congrArg Prod.snd v1) 2) j
      · exact congrFun (congrFun u1 49) f
      · by_cases q : b = 55
        · subst q
          rw [px_A (by omega), u3, if_neg (by omega)]
        · exact fA b j q (by omega)
      · rw [fI 0 (by omega), fA _ _ (by omega) (by omega)]; exact hq.1.1.1
      · rw [fI 1 (by omega), fA _ _ (by omega) (by omega)]; exact hq.1.1.2.1
      · rw [fI 2 (by omega), fA _ _ (by omega) (by omega)]; exact hq.1.1.2.2.1
      · rw [fI 3 (by omega), fA _ _ (by omega) (by omega)]; exact hq.1.1.2.2.2.1
      · rw [m6]; exact px_A1.symm
      · rw [m6, nI_clamp (by omega)] at hvm
        rw [vI v f hv hvm hf, px_A (by omega), show (50 : Nat) + 5 = 55 from rfl, u3]
        by_cases q : w ≤ v
        · rw [if_pos q, if_pos (by omega), show 9 * p + 3 * v + f + 3 = 9 * p + 3 * (v + 1) + f from by omega]
          exact hq.1.2 (v + 1) f (by omega) (by omega) hf
        · rw [if_neg q, if_neg (by omega)]
          exact hq.1.2 v f hv (by omega) hf
      · rw [fI 0 (by omega)]; exact hq.2.1
      · rw [fI 1 (by omega)]; exact hq.2.2.1
      · rw [fI 2 (by omega)]; exact hq.2.2.2.1
      · rw [fI 3 (by omega)]; exact hq.2.2.2.2.1
      · rw [m6, nI_clamp (by omega)] at hvm
        rw [vI v 1 hv hvm (by omega)]
        by_cases q : w ≤ v
        · rw [if_pos q]; exact hq.2.2.2.2.2 (v + 1) (by omega) (by omega)
        · rw [if_neg q]; exact hq.2.2.2.2.2 v hv (by omega)
      · rw [m6, nI_toInt (by omega)]; omega
      · rintro rfl
        rw [show (9 : Nat) = 9 + 0 from rfl, fI 0 (by omega)]; exact h.2.2.2.2.1.2.2 hp

/-! one number of a port -/
theorem fi_I {sc : tt_St} {o i f : Nat} {v : Int32} : tt_I (tt_pI sc o i v) o f = (if f = i then v else tt_I sc o f) := by
  by_cases c : f = i
  · rw [if_pos c, c, px_I1]
  · rw [if_neg c, px_I (by omega)]
theorem fi_A {sm : tt_St} {i f p : Nat} {v : Int32} : tt_A (tt_pA sm (50 + i) p v) (50 + f) p = (if f = i then v else tt_A sm (50 + f) p) := by
  by_cases c : f = i
  · rw [if_pos c, c, px_A1]
  · rw [if_neg c, px_A (by omega)]
theorem rl.fld {k : Nat} {sc sm : tt_St} (h : rl k sc sm) {p i : Nat} {v : Int32} (hp : p < (tt_I sc 3 1).toNatClampNeg) (hi : i < 4) (hv : 0 ≤ v.toInt ∧ v.toInt ≤ 99 ∧ (i = 0 → v.toInt ≤ 4)) (h0 : p = 0 → i = 0 → ¬ v = 3) : rl k (tt_pI sc (9 + p) i v) (tt_pA sm (50 + i) p v) := by
  have h4 := h.many.1
  have hq := h.port hp
  have wv : ∀ w f, w < 3 → tt_I (tt_pI sc (9 + p) i v) (tt_wv (9 + p) w) f = tt_I sc (tt_wv (9 + p) w) f := fun w f hw => px_I (by unfold tt_wv; omega)
  have m6 : tt_I (tt_pI sc (9 + p) i v) (9 + p) 6 = tt_I sc (9 + p) 6 := px_I (by omega)
  refine h.upd hp (fun o f h1 h2 => px_I (by omega)) (fun j => rfl) (fun f => rfl) (fun a j h1 h2 => px_A (by omega)) ⟨⟨?_, ?_, ?_, ?_, ?_⟩, fun w f hw hm hf => ?_⟩ ⟨?_, ?_, ?_, ?_, fun w hw hm => ?_⟩ ?_ ?_
  · rw [fi_I, show tt_A (tt_pA sm (50 + i) p v) 50 p = tt_A (tt_pA sm (50 + i) p v) (50 + 0) p from rfl, fi_A]
    by_cases c : 0 = i
    · rw [if_pos c, if_pos c]
    · rw [if_neg c, if_neg c]; exact hq.1.1.1
  · rw [fi_I, fi_A]
    by_cases c : 1 = i
    · rw [if_pos c, if_pos c]
    · rw [if_neg c, if_neg c]; exact hq.1.1.2.1
  · rw [fi_I, fi_A]
    by_cases c : 2 = i
    · rw [if_pos c, if_pos c]
    · rw [if_neg c, if_neg c]; exact hq.1.1.2.2.1
  · rw [fi_I, fi_A]
    by_cases c : 3 = i
    · rw [if_pos c, if_pos c]
    · rw [if_neg c, if_neg c]; exact hq.1.1.2.2.2.1
  · rw [m6, fi_A, if_neg (by omega)]; exact hq.1.1.2.2.2.2
  · rw [m6] at hm
    rw [wv w f hw, px_A (by omega)]; exact hq.1.2 w f hw hm hf
  · rw [fi_I]
    by_cases c : 0 = i
    · rw [if_pos c]; exact ⟨hv.1, hv.2.2 c.symm⟩
    · rw [if_neg c]; exact hq.2.1
  · rw [fi_I]
    by_cases c : 1 = i
    · rw [if_pos c]; exact ⟨hv.1, hv.2.1⟩
    · rw [if_neg c]; exact hq.2.2.1
  · rw [fi_I]
    by_cases c : 2 = i
    · rw [if_pos c]; exact ⟨hv.1, hv.2.1⟩
    · rw [if_neg c]; exact hq.2.2.2.1
  · rw [fi_I]
    by_cases c : 3 = i
    · rw [if_pos c]; exact ⟨hv.1, hv.2.1⟩
    · rw [if_neg c]; exact hq.2.2.2.2.1
  · rw [m6] at hm
    rw [wv w 1 hw]; exact hq.2.2.2.2.2 w hw hm
  · rw [m6]; exact h.1.1 _ (tt_ci_po (by omega) (by omega))
  · rintro rfl
    rw [show tt_I (tt_pI sc (9 + 0) i v) 9 0 = tt_I (tt_pI sc (9 + 0) i v) (9 + 0) 0 from rfl, fi_I]
    by_cases c : 0 = i
    · rw [if_pos c]; exact h0 rfl c.symm
    · rw [if_neg c]; exact h.2.2.2.2.1.2.2 hp
theorem wi99 {v : Int32} (h : ¬ mo_within v 0 99 = 0) : 0 ≤ v.toInt ∧ v.toInt ≤ 99 := by
  have := mo_within_1.mp h
  have e0 : (0 : Int32).toInt = 0 := rfl
  have e9 : (99 : Int32).toInt = 99 := rfl
  omega
theorem eq_mean_c {k : Nat} {sc sm : tt_St} (h : rl k sc sm) (a v : Int32) : (tb_mean sc a v).1 = (mo_mean sm a v).1 ∧ rl k (tb_mean sc a v).2 (mo_mean sm a v).2 := by
  rw [tb_mean, mo_mean]
  rcases h.knows a with ⟨c1, c2⟩ | ⟨c1, c2, p, hp, hp4, rfl⟩
  · rw [if_pos c1, if_pos c2]; exact ⟨rfl, h⟩
  · rw [if_neg c1, if_neg c2, mo_isNumber, eq_within, nI_clamp (by omega)]
    by_cases d1 : mo_within v 0 99 = 0
    · rw [if_pos d1, if_pos d1]; exact ⟨rfl, h⟩
    · rw [if_neg d1, if_neg d1]
      have := wi99 d1
      exact ⟨(h.port hp).1.1.2.1, h.fld (i := 1) hp (by omega) (by omega) (fun _ q => absurd q (by decide))⟩
theorem eq_mark_c {k : Nat} {sc sm : tt_St} (h : rl k sc sm) (a v : Int32) : (tb_mark sc a v).1 = (mo_mark sm a v).1 ∧ rl k (tb_mark sc a v).2 (mo_mark sm a v).2 := by
  rw [tb_mark, mo_mark]
  rcases h.knows a with ⟨c1, c2⟩ | ⟨c1, c2, p, hp, hp4, rfl⟩
  · rw [if_pos c1, if_pos c2]; exact ⟨rfl, h⟩
  · rw [if_neg c1, if_neg c2, mo_isNumber, eq_within, nI_clamp (by omega)]
    by_cases d1 : mo_within v 0 99 = 0
    · rw [if_pos d1, if_pos d1]; exact ⟨rfl, h⟩
    · rw [if_neg d1, if_neg d1]
      have := wi99 d1
      exact ⟨(h.port hp).1.1.2.2.1, h.fld (i := 2) hp (by omega) (by omega) (fun _ q => absurd q (by decide))⟩
theorem eq_ratio_c {k : Nat} {sc sm : tt_St} (h : rl k sc sm) (a v : Int32) : (tb_ratio sc a v).1 = (mo_ratio sm a v).1 ∧ rl k (tb_ratio sc a v).2 (mo_ratio sm a v).2 := by
  rw [tb_ratio, mo_ratio]
  rcases h.knows a with ⟨c1, c2⟩ | ⟨c1, c2, p, hp, hp4, rfl⟩
  · rw [if_pos c1, if_pos c2]; exact ⟨rfl, h⟩
  · rw [if_neg c1, if_neg c2, mo_isNumber, eq_within, nI_clamp (by omega)]
    by_cases d1 : mo_within v 0 99 = 0
    · rw [if_pos d1, if_pos d1]; exact ⟨rfl, h⟩
    · rw [if_neg d1, if_neg d1]
      have := wi99 d1
      exact ⟨(h.port hp).1.1.2.2.2.1, h.fld (i := 3) hp (by omega) (by omega) (fun _ q => absurd q (by decide))⟩
theorem eq_be_c {k : Nat} {sc sm : tt_St} (h : rl k sc sm) (a v : Int32) : (tb_be sc a v).1 = (mo_be sm a v).1 ∧ rl k (tb_be sc a v).2 (mo_be sm a v).2 := by
  rw [tb_be, mo_be]
  rcases h.knows a with ⟨c1, c2⟩ | ⟨c1, c2, p, hp, hp4, rfl⟩
  · rw [if_pos c1, if_pos c2]; exact ⟨rfl, h⟩
  · rw [if_neg c1, if_neg c2, eq_within, nI_clamp (by omega)]
    by_cases d1 : mo_within v 0 4 = 0
    · rw [if_pos d1, if_pos d1]; exact ⟨rfl, h⟩
    · rw [if_neg d1, if_neg d1]
      have hv := mo_within_1.mp d1
      have e0 : (0 : Int32).toInt = 0 := rfl
      have e9 : (4 : Int32).toInt = 4 := rfl
      by_cases c0 : nI p = 0
      · rw [if_pos c0, if_pos c0]
        by_cases c3 : v = 3
        · rw [if_pos c3, if_pos c3]; exact ⟨rfl, h⟩
        · rw [if_neg c3, if_neg c3]
          exact ⟨(h.port hp).1.1.1, h.fld (i := 0) hp (by omega) (by omega) (fun _ _ => c3)⟩
      · rw [if_neg c0, if_neg c0]
        refine ⟨(h.port hp).1.1.1, h.fld (i := 0) hp (by omega) (by omega) (fun q _ => absurd ?_ c0)⟩
        rw [q]; rfl
/-! the page -/
theorem lt_byte {a : Int32} (h : ¬ mo_within a 32 126 = 0) : vp_nar .byte (Int8.toInt32 (Int32.toInt8 a)) = a := by
  have hv := mo_within_1.mp h
  have e0 : (32 : Int32).toInt = 32 := rfl
  have e9 : (126 : Int32).toInt = 126 := rfl
  have h0 : 0 ≤ a.toInt := by omega
  have e : a = nI a.toNatClampNeg := (tt_nIc h0).symm
  have hb : a.toNatClampNeg < 127 := by rw [tt_clamp]; omega
  rw [e]
  generalize a.toNatClampNeg = n at hb
  have all : ∀ n : Fin 127, vp_nar .byte (Int8.toInt32 (Int32.toInt8 (nI n.1))) = nI n.1 := by decide +kernel
  exact all ⟨n, hb⟩
theorem eq_letter_c {k : Nat} {sc sm : tt_St} (h : rl k sc sm) (a : Int32) : (tb_letter sc a).1 = (mo_letter sm a).1 ∧ rl k (tb_letter sc a).2 (mo_letter sm a).2 := by
  rw [tb_letter, mo_letter, eq_within]
  by_cases d1 : mo_within a 32 126 = 0
  · rw [if_pos d1, if_pos d1]; exact ⟨rfl, h⟩
  · rw [if_neg d1, if_neg d1, lt_byte d1]
    have h4 := h.many.1
    obtain ⟨b1, b2, b3, b4, b5, b6, b7, b8⟩ := h
    have eN : tt_I sc 1 1 = tt_I sm 49 13 := b4.1
    have hn := b1.2.2
    have e1 : (1 : Int32).toInt = 1 := rfl
    by_cases c : tt_I sc 1 1 < 96
    · have c' := c
      rw [tt_lt, show (96 : Int32).toInt = 96 from rfl] at c'
      have nc : ¬ tt_I sm 49 13 = 96 := by rw [← eN, tt_eq, show (96 : Int32).toInt = 96 from rfl]; omega
      rw [if_pos c, if_neg nc, px_I1, px_I1]
      have t1 : ∀ (s : tt_St) (x y : Nat) (v : Int32) (o f : Nat), tt_I (tt_pA s x y v) o f = tt_I s o f := fun _ _ _ _ _ _ => rfl
      rw [t1, t1, eN]
      rw [eN] at hn c'
      have es : (tt_I sm 49 13 + 1).toInt = (tt_I sm 49 13).toInt + 1 := by rw [tt_add] <;> rw [e1] <;> omega
      have en : (tt_I sm 49 13 + 1).toNatClampNeg = (tt_I sm 49 13).toNatClampNeg + 1 := by rw [tt_clamp, tt_clamp, es]; omega
      refine ⟨rfl, ⟨fun o ho => ?_, fun o ho => ?_, ?_⟩, ⟨b2.1, b2.2.1, ?_, b2.2.2.2⟩, b3, ?_, cg_sea b5 (px_I (by omega)) h4 (fun o f ho => px_I (by omega)) (fun o f ho => px_I (by omega)) (px_I (by omega)) (fun x j hx => px_A (by omega)), cg_seen b6 (px_I (by omega)) (px_I (by omega)) h4 (fun o ho => px_I (by omega)) (px_I (by omega)) (fun x j hx => px_A (by omega)), cg_reads b7 (px_I (by omega)) (px_I (by omega)), cg_kept b8 h4 (fun o f ho => px_I (by omega)) (fun f hf => px_I (by omega)) (fun x j hx => px_A (by omega))⟩
      · rw [px_I (by omega)]; exact b1.1 o ho
      · rw [px_I (by intro q; rw [q.1] at ho; exact absurd ho (by decide))]; exact b1.2.1 o ho
      · rw [px_I1, es]; omega
      · rw [px_I1, es]; omega
      · refine ⟨by rw [px_I1, px_I1], fun j hj => ?_⟩
        rw [px_I1, en] at hj
        have t2 : ∀ (s : tt_St) (x y : Nat) (v : Int32) (o f : Nat), tt_A (tt_pI s x y v) o f = tt_A s o f := fun _ _ _ _ _ _ => rfl
        rw [t2, t2]
        by_cases cj : j = (tt_I sm 49 13).toNatClampNeg
        · rw [cj, px_A1, px_A1]
          have hv := mo_within_1.mp d1
          have e32 : (32 : Int32).toInt = 32 := rfl
          have e126 : (126 : Int32).toInt = 126 := rfl
          exact ⟨rfl, by omega, by omega⟩
        · rw [px_A (by omega), px_A (by omega)]
          exact b4.2 j (by rw [eN]; omega)
    · have c' := c
      rw [tt_lt, show (96 : Int32).toInt = 96 from rfl] at c'
      have nc : tt_I sm 49 13 = 96 := by rw [← eN, tt_eq, show (96 : Int32).toInt = 96 from rfl]; omega
      rw [if_neg c, if_pos nc]
      exact ⟨rfl, b1, b2, b3, b4, b5, b6, b7, b8⟩
theorem eq_blank_c {k : Nat} {sc sm : tt_St} (h : rl k sc sm) : (tb_blank sc).1 = (mo_blank sm).1 ∧ rl k (tb_blank sc).2 (mo_blank sm).2 := by
  have h4 := h.many.1
  obtain ⟨b1, b2, b3, b4, b5, b6, b7, b8⟩ := h
  have eN : tt_I sc 1 1 = tt_I sm 49 13 := b4.1
  rw [tb_blank, mo_blank, eN]
  refine ⟨rfl, ⟨fun o ho => ?_, fun o ho => ?_, ?_⟩, ⟨b2.1, b2.2.1, ?_, b2.2.2.2⟩, b3, ⟨?_, fun j hj => ?_⟩, cg_sea b5 (px_I (by omega)) h4 (fun o f ho => px_I (by omega)) (fun o f ho => px_I (by omega)) (px_I (by omega)) (fun x j hx => rfl), cg_seen b6 (px_I (by omega)) (px_I (by omega)) h4 (fun o ho => px_I (by omega)) (px_I (by omega)) (fun x j hx => rfl), cg_reads b7 (px_I (by omega)) (px_I (by omega)), cg_kept b8 h4 (fun o f ho => px_I (by omega)) (fun f hf => px_I (by omega)) (fun x j hx => rfl)⟩
  · rw [px_I (by omega)]; exact b1.1 o ho
  · rw [px_I (by intro q; rw [q.1] at ho; exact absurd ho (by decide))]; exact b1.2.1 o ho
  · rw [px_I1]; decide
  · rw [px_I1]; decide
  · rw [px_I1, px_I1]
  · rw [px_I1] at hj; exact absurd hj (by decide +revert)

/-! image, restore -/
theorem c2_sob {sm sm' : tt_St} {a b : Nat} {p : Int32} : ∀ n, (∀ i j, i < 3 → j < n → tt_A sm' (b + i) j = tt_A sm (a + i) j) → so_b sm' b p n = so_b sm a p n := by
  intro n
  induction n with
  | zero => intro _; rfl
  | succ n ih =>
    intro h
    rw [so_b, so_b, ih (fun i j hi hj => h i j hi (by omega)), show tt_A sm' b n = tt_A sm a n from h 0 n (by omega) (by omega), h 1 n (by omega) (by omega), h 2 n (by omega) (by omega)]
theorem c2_sok {sm sm' : tt_St} {a b n : Nat} (h : so_ok sm a n) (h2 : ∀ i j, i < 3 → j < n → tt_A sm' (b + i) j = tt_A sm (a + i) j) : so_ok sm' b n := fun j hj => by
  rw [h2 1 j (by omega) hj, h2 2 j (by omega) hj]; exact h j hj
theorem c2_port {sc sc' sm sm' : tt_St} {o o' a b p : Nat} (h : rl_port sc sm o a p) (h1 : ∀ f, f < 4 ∨ f = 6 → tt_I sc' o' f = tt_I sc o f) (h2 : ∀ w f, w < 3 → w < (tt_I sc o 6).toNatClampNeg → f < 3 → tt_I sc' (tt_wv o' w) f = tt_I sc (tt_wv o w) f) (m1 : ∀ i, i < 5 → tt_A sm' (b + i) p = tt_A sm (a + i) p) (m2 : ∀ w f, w < 3 → f < 3 → tt_A sm' (b + 5) (9 * p + 3 * w + f) = tt_A sm (a + 5) (9 * p + 3 * w + f)) : rl_port sc' sm' o' b p := by
  refine ⟨⟨?_, ?_, ?_, ?_, ?_⟩, fun w f hw hm hf => ?_⟩
  · rw [h1 0 (by omega), show tt_A sm' b p = tt_A sm a p from m1 0 (by omega)]; exact h.1.1
  · rw [h1 1 (by omega), m1 1 (by omega)]; exact h.1.2.1
  · rw [h1 2 (by omega), m1 2 (by omega)]; exact h.1.2.2.1
  · rw [h1 3 (by omega), m1 3 (by omega)]; exact h.1.2.2.2.1
  · rw [h1 6 (by omega), m1 4 (by omega)]; exact h.1.2.2.2.2
  · rw [h1 6 (by omega)] at hm
    rw [h2 w f hw hm hf, m2 w f hw hf]; exact h.2 w f hw hm hf
theorem c2_range {sc sc' : tt_St} {o o' : Nat} (h : rg_port sc o) (h1 : ∀ f, f < 4 ∨ f = 6 → tt_I sc' o' f = tt_I sc o f) (h2 : ∀ w f, w < 3 → w < (tt_I sc o 6).toNatClampNeg → f < 3 → tt_I sc' (tt_wv o' w) f = tt_I sc (tt_wv o w) f) : rg_port sc' o' := by
  refine ⟨?_, ?_, ?_, ?_, fun w hw hm => ?_⟩
  · rw [h1 0 (by omega)]; exact h.1
  · rw [h1 1 (by omega)]; exact h.2.1
  · rw [h1 2 (by omega)]; exact h.2.2.1
  · rw [h1 3 (by omega)]; exact h.2.2.2.1
  · rw [h1 6 (by omega)] at hm
    rw [h2 w 1 hw hm (by omega)]; exact h.2.2.2.2 w hw hm
theorem eq_image_c {k : Nat} {sc sm : tt_St} (h : rl k sc sm) : (tb_image sc).1 = (mo_image sm).1 ∧ rl k (tb_image sc).2 (mo_image sm).2 := by
  have e1 : tt_I sm 49 1 = tt_I sc 3 1 := h.2.2.2.2.1.1.symm
  rw [tb_image, mo_image, e1]
  by_cases c : tt_I sc 3 1 = 0
  · rw [if_pos c, if_pos c]; exact ⟨rfl, h⟩
  rw [if_neg c, if_neg c]
  have h4 := h.many.1
  have hpos : 0 < (tt_I sc 3 1).toNatClampNeg := by
    have := (h.1.2.1 3 rfl).1
    rw [tt_eq, show (0 : Int32).toInt = 0 from rfl] at c
    rw [tt_clamp]; omega
  have i0 : tt_I (tt_pI sm 49 26 1) 49 0 = tt_I sm 49 0 := px_I (by omega)
  have i9 : ∀ v, tt_I (tt_pI (tt_pI sm 49 26 1) 49 27 v) 49 9 = tt_I sm 49 9 := fun v => by rw [px_I (by omega), px_I (by omega)]
  rw [i0, i9]
  obtain ⟨m1, mA⟩ := im_A (tt_pI (tt_pI (tt_pI sm 49 26 1) 49 27 (tt_I sm 49 0)) 49 28 (tt_I sm 49 9))
  have mI : ∀ f, ¬ f = 26 → ¬ f = 27 → ¬ f = 28 → tt_I (mo_image_l133 6 0 (mo_image_l107 36 0 (mo_image_l34 4 0 (tt_pI (tt_pI (tt_pI sm 49 26 1) 49 27 (tt_I sm 49 0)) 49 28 (tt_I sm 49 9))))) 49 f = tt_I sm 49 f := fun f n1 n2 n3 => by
    rw [tt_I1 m1, px_I (by omega), px_I (by omega), px_I (by omega)]
  have m26 : tt_I (mo_image_l133 6 0 (mo_image_l107 36 0 (mo_image_l34 4 0 (tt_pI (tt_pI (tt_pI sm 49 26 1) 49 27 (tt_I sm 49 0)) 49 28 (tt_I sm 49 9))))) 49 26 = 1 := by
    rw [tt_I1 m1, px_I (by omega), px_I (by omega), px_I1]
  have m27 : tt_I (mo_image_l133 6 0 (mo_image_l107 36 0 (mo_image_l34 4 0 (tt_pI (tt_pI (tt_pI sm 49 26 1) 49 27 (tt_I sm 49 0)) 49 28 (tt_I sm 49 9))))) 49 27 = tt_I sm 49 0 := by
    rw [tt_I1 m1, px_I (by omega), px_I1]
  have m28 : tt_I (mo_image_l133 6 0 (mo_image_l107 36 0 (mo_image_l34 4 0 (tt_pI (tt_pI (tt_pI sm 49 26 1) 49 27 (tt_I sm 49 0)) 49 28 (tt_I sm 49 9))))) 49 28 = tt_I sm 49 9 := by
    rw [tt_I1 m1, px_I1]
  have mA : ∀ a i, tt_A (mo_image_l133 6 0 (mo_image_l107 36 0 (mo_image_l34 4 0 (tt_pI (tt_pI (tt_pI sm 49 26 1) 49 27 (tt_I sm 49 0)) 49 28 (tt_I sm 49 9))))) a i = (if 67 ≤ a ∧ a < 72 ∧ i < 4 then tt_A sm (a - 17) i else if a = 72 ∧ i < 36 then tt_A sm 55 i else if 73 ≤ a ∧ a < 76 ∧ i < 6 then tt_A sm (a - 16) i else tt_A sm a i) := mA
  generalize mo_image_l133 6 0 (mo_image_l107 36 0 (mo_image_l34 4 0 (tt_pI (tt_pI (tt_pI sm 49 26 1) 49 27 (tt_I sm 49 0)) 49 28 (tt_I sm 49 9)))) = s2 at mI m26 m27 m28 mA ⊢
  have mA0 : ∀ a i, a < 67 → tt_A s2 a i = tt_A sm a i := fun a i ha => by
    rw [mA, if_neg (by omega), if_neg (by omega), if_neg (by omega)]
  have mA5 : ∀ i p, i < 5 → p < 4 → tt_A s2 (67 + i) p = tt_A sm (50 + i) p := fun i p hi hp => by
    rw [mA, if_pos (by omega), show 67 + i - 17 = 50 + i from by omega]
  have mAw : ∀ i, i < 36 → tt_A s2 72 i = tt_A sm 55 i := fun i hi => by
    rw [mA, if_neg (by omega), if_pos ⟨rfl, hi⟩]
  have mAs : ∀ i j, i < 3 → j < 6 → tt_A s2 (73 + i) j = tt_A sm (57 + i) j := fun i j hi hj => by
    rw [mA, if_neg (by omega), if_neg (by omega), if_pos (by omega), show 73 + i - 16 = 57 + i from by omega]
  obtain ⟨s1, s2', s3, s4, s5, s6, s7⟩ := sb_I (B := 13) (C := 9) (O := 4) (A := 3) (st := sc) (by omega) (by omega) (by omega) rfl rfl h.1
  have cA : ∀ j, tt_A (tt_pI (se_become sc 4 3) 0 3 1) 2 j = tt_A sc 2 j := fun j => congrFun (congrFun (congrArg Prod.snd s1) 2) j
  have c03 : tt_I (tt_pI (se_become sc 4 3) 0 3 1) 0 3 = 1 := px_I1
  have cK : ∀ o f, ¬ (o = 0 ∧ f = 3) → tt_I (tt_pI (se_become sc 4 3) 0 3 1) o f = tt_I (se_become sc 4 3) o f := fun o f n => px_I n
  generalize tt_pI (se_become sc 4 3) 0 3 1 = t1 at cA c03 cK ⊢
  have c0 : ∀ o f, ¬ (o = 0 ∧ f = 3) → ¬ (o = 4 ∧ (f = 1 ∨ f = 2)) → ¬ (13 ≤ o ∧ o < 17) → ¬ (37 ≤ o ∧ o < 49) → tt_I t1 o f = tt_I sc o f := fun o f n1 n2 n3 n4 => by
    rw [cK o f n1, s2' o f (by omega) (by omega) (by omega)]
  have hn9 := h.seen6
  have h28 := h.2.1.2.1
  have h1 := h
  obtain ⟨b1, b2, b3, b4, b5, b6, b7, b8⟩ := h1
  refine ⟨?_, ⟨fun o ho => ?_, fun o ho => ?_, ?_⟩, cg_mo b2 (fun f hf => mI f (by omega) (by omega) (by omega)) (fun p hp => mA0 54 p (by omega)), cg_rounds b3 (fun j _ => mA0 56 j (by omega)), cg_page b4 (c0 1 1 (by omega) (by omega) (by omega) (by omega)) cA (mI 13 (by omega) (by omega) (by omega)) (fun j => mA0 60 j (by omega)), cg_sea b5 (c0 3 1 (by omega) (by omega) (by omega) (by omega)) h4 (fun o f ho => c0 o f (by omega) (by omega) (by omega) (by omega)) (fun o f ho => c0 o f (by omega) (by omega) (by omega) (by omega)) (mI 1 (by omega) (by omega) (by omega)) (fun a j ha => mA0 a j (by omega)), cg_seen b6 (c0 3 1 (by omega) (by omega) (by omega) (by omega)) (c0 3 2 (by omega) (by omega) (by omega) (by omega)) h4 (fun o ho => c0 o 4 (by omega) (by omega) (by omega) (by omega)) (mI 9 (by omega) (by omega) (by omega)) (fun a j ha => mA0 a j (by omega)), cg_reads b7 (c0 0 4 (by omega) (by omega) (by omega) (by omega)) (mI 0 (by omega) (by omega) (by omega)), ⟨?_, ?_, fun p hp => ?_, ?_, fun _ => ⟨?_, ?_, ?_, ?_, fun p hp => ?_, ?_⟩⟩⟩
  · show tt_I t1 3 1 = tt_I s2 49 1
    rw [c0 3 1 (by omega) (by omega) (by omega) (by omega), mI 1 (by omega) (by omega) (by omega), e1]
  · have hr := tt_po_rng ho
    by_cases q : 13 ≤ o
    · obtain ⟨p, rfl⟩ : ∃ p, o = 13 + p := ⟨o - 13, by omega⟩
      rw [cK _ _ (by omega)]
      by_cases qp : p < (tt_I sc 3 1).toNatClampNeg
      · rw [s5 p 6 qp (by omega)]; exact b1.1 _ (tt_ci_po (by omega) (by omega))
      · rw [s7 p (by omega) (by omega) 6]; exact b1.1 _ ho
    · rw [c0 o 6 (by omega) (by omega) (by omega) (by omega)]; exact b1.1 o ho
  · rcases tt_se_rng ho with rfl | rfl
    · rw [c0 3 1 (by omega) (by omega) (by omega) (by omega)]; exact b1.2.1 3 rfl
    · rw [cK _ _ (by omega), s3]; exact b1.2.1 3 rfl
  · rw [c0 1 1 (by omega) (by omega) (by omega) (by omega)]; exact b1.2.2
  · rw [c03, m26, m27, mI 0 (by omega) (by omega) (by omega)]
    exact ⟨fun _ => ⟨by decide, rfl⟩, fun _ => by decide⟩
  · rw [m27, mI 0 (by omega) (by omega) (by omega)]; intro _; omega
  · rw [mA5 4 p (by omega) hp]; exact b2.2.2.2 p hp
  · rw [m28]; exact h28
  · rw [cK 4 1 (by omega), s3, c0 3 1 (by omega) (by omega) (by omega) (by omega)]
  · rw [c0 3 1 (by omega) (by omega) (by omega) (by omega)]; exact hpos
  · rw [cK 4 2 (by omega), s4, m28]; exact b6.1
  · rw [m28]; exact c2_sok b6.2.1 (fun i j hi hj => mAs i j hi (by omega))
  · rw [c0 3 1 (by omega) (by omega) (by omega) (by omega)] at hp
    have hq := b5.2.1 p hp
    have f1 : ∀ f, f < 4 ∨ f = 6 → tt_I t1 (13 + p) f = tt_I sc (9 + p) f := fun f hf => by rw [cK _ _ (by omega), s5 p f hp (by omega)]
    have f2 : ∀ w f, w < 3 → w < (tt_I sc (9 + p) 6).toNatClampNeg → f < 3 → tt_I t1 (tt_wv (13 + p) w) f = tt_I sc (tt_wv (9 + p) w) f := fun w f hw hwm hf => by
      have W1 : tt_wv (13 + p) w = 25 + 3 * (13 - 9) + 3 * p + w := by unfold tt_wv; omega
      have W2 : tt_wv (9 + p) w = 25 + 3 * (9 - 9) + 3 * p + w := by unfold tt_wv; omega
      rw [W1, W2, cK _ _ (by omega)]; exact s6 p w f hp hwm hf
    refine ⟨c2_port hq.1 f1 f2 (fun i hi => mA5 i p hi (by omega)) (fun w f hw hf => mAw _ (by omega)), c2_range hq.2 f1 f2, ?_⟩
    rw [cK _ _ (by omega), s5 p 4 hp (by omega), m28, b6.2.2 p hp]
    exact (c2_sob _ (fun i j hi hj => mAs i j hi (by omega))).symm
  · rw [cK 13 0 (by omega), show (13 : Nat) = 13 + 0 from rfl, s5 0 0 hpos (by omega)]; exact b5.2.2 hpos
theorem eq_restore_c {k : Nat} {sc sm : tt_St} (h : rl k sc sm) : (tb_restore sc).1 = (mo_restore sm).1 ∧ rl k (tb_restore sc).2 (mo_restore sm).2 := by
  have h4 := h.many.1
  have h1 := h
  obtain ⟨b1, b2, b3, b4, b5, b6, b7, b8⟩ := h1
  rw [tb_restore, mo_restore]
  by_cases c : tt_I sc 0 3 = 0
  · rw [if_pos c]
    by_cases c1 : tt_I sm 49 26 = 0
    · rw [if_pos c1]; exact ⟨rfl, h⟩
    · have c2 : ¬ tt_I sm 49 27 = tt_I sm 49 0 := fun q => (b8.1.mpr ⟨c1, q⟩) c
      rw [if_neg c1, if_neg c2]; exact ⟨rfl, h⟩
  have k1 := b8.1.mp c
  rw [if_neg c, if_neg k1.1, if_pos k1.2]
  obtain ⟨j1, j2, j3, j4, j5, j6⟩ := b8.2.2.2.2 c
  have h28 := b8.2.2.2.1
  have hn9 : (tt_I sm 49 28).toNatClampNeg ≤ 6 := tt_cle h28.2
  obtain ⟨m1, mA⟩ := re_A (tt_pI sm 49 9 (tt_I sm 49 28))
  have mI : ∀ f, ¬ f = 9 → tt_I (mo_restore_l131 6 0 (mo_restore_l105 36 0 (mo_restore_l32 4 0 (tt_pI sm 49 9 (tt_I sm 49 28))))) 49 f = tt_I sm 49 f := fun f n1 => by
    rw [tt_I1 m1, px_I (by omega)]
  have m9 : tt_I (mo_restore_l131 6 0 (mo_restore_l105 36 0 (mo_restore_l32 4 0 (tt_pI sm 49 9 (tt_I sm 49 28))))) 49 9 = tt_I sm 49 28 := by
    rw [tt_I1 m1, px_I1]
  have mA : ∀ a i, tt_A (mo_restore_l131 6 0 (mo_restore_l105 36 0 (mo_restore_l32 4 0 (tt_pI sm 49 9 (tt_I sm 49 28))))) a i = (if 50 ≤ a ∧ a < 55 ∧ i < 4 then tt_A sm (a + 17) i else if a = 55 ∧ i < 36 then tt_A sm 72 i else if 57 ≤ a ∧ a < 60 ∧ i < 6 then tt_A sm (a + 16) i else tt_A sm a i) := mA
  generalize mo_restore_l131 6 0 (mo_restore_l105 36 0 (mo_restore_l32 4 0 (tt_pI sm 49 9 (tt_I sm 49 28)))) = s2 at mI m9 mA ⊢
  have mA0 : ∀ a i, a = 56 ∨ 60 ≤ a → tt_A s2 a i = tt_A sm a i := fun a i ha => by
    rw [mA, if_neg (by omega), if_neg (by omega), if_neg (by omega)]
  have mA5 : ∀ i p, i < 5 → p < 4 → tt_A s2 (50 + i) p = tt_A sm (67 + i) p := fun i p hi hp => by
    rw [mA, if_pos (by omega), show 50 + i + 17 = 67 + i from by omega]
  have mAw : ∀ i, i < 36 → tt_A s2 55 i = tt_A sm 72 i := fun i hi => by
    rw [mA, if_neg (by omega), if_pos ⟨rfl, hi⟩]
  have mAs : ∀ i j, i < 3 → j < 6 → tt_A s2 (57 + i) j = tt_A sm (73 + i) j := fun i j hi hj => by
    rw [mA, if_neg (by omega), if_neg (by omega), if_pos (by omega), show 57 + i + 16 = 73 + i from by omega]
  obtain ⟨s1, s2', s3, s4, s5, s6, s7⟩ := sb_I (B := 9) (C := 13) (O := 3) (A := 4) (st := sc) (by omega) (by omega) (by omega) rfl rfl b1
  rw [j1] at s3 s5 s6 s7
  rw [j3] at s4
  have cA : ∀ j, tt_A (se_become sc 3 4) 2 j = tt_A sc 2 j := fun j => congrFun (congrFun (congrArg Prod.snd s1) 2) j
  generalize se_become sc 3 4 = t1 at cA s2' s3 s4 s5 s6 s7 ⊢
  have c0 : ∀ o f, ¬ (o = 3 ∧ f = 2) → ¬ (9 ≤ o ∧ o < 13) → ¬ (25 ≤ o ∧ o < 37) → tt_I t1 o f = tt_I sc o f := fun o f n1 n2 n3 => by
    by_cases q : o = 3 ∧ f = 1
    · rw [q.1, q.2, s3]
    · exact s2' o f (by omega) (by omega) (by omega)
  have e1 : tt_I sc 3 1 = tt_I sm 49 1 := b5.1
  refine ⟨?_, ⟨fun o ho => ?_, fun o ho => ?_, ?_⟩, ⟨?_, ?_, ?_, fun p hp => ?_⟩, cg_rounds b3 (fun j _ => mA0 56 j (by omega)), cg_page b4 (c0 1 1 (by omega) (by omega) (by omega)) cA (mI 13 (by omega)) (fun j => mA0 60 j (by omega)), ⟨?_, fun p hp => ?_, fun _ => ?_⟩, ⟨?_, ?_, fun p hp => ?_⟩, cg_reads b7 (c0 0 4 (by omega) (by omega) (by omega)) (mI 0 (by omega)), cg_kept b8 h4 (fun o f ho => c0 o f (by omega) (by omega) (by omega)) (fun f hf => mI f (by omega)) (fun a j ha => mA0 a j (by omega))⟩
  · show tt_I t1 3 1 = tt_I s2 49 1
    rw [s3, mI 1 (by omega), e1]
  · have hr := tt_po_rng ho
    by_cases q : o < 13
    · obtain ⟨p, rfl⟩ : ∃ p, o = 9 + p := ⟨o - 9, by omega⟩
      by_cases qp : p < (tt_I sc 3 1).toNatClampNeg
      · rw [s5 p 6 qp (by omega)]; exact b1.1 _ (tt_ci_po (by omega) (by omega))
      · rw [s7 p (by omega) (by omega) 6]; exact b1.1 _ ho
    · rw [c0 o 6 (by omega) (by omega) (by omega)]; exact b1.1 o ho
  · have := b1.2.1 o ho
    rcases tt_se_rng ho with rfl | rfl
    · rw [s3]; exact this
    · rw [c0 4 1 (by omega) (by omega) (by omega)]; exact this
  · rw [c0 1 1 (by omega) (by omega) (by omega)]; exact b1.2.2
  · rw [mI 1 (by omega)]; exact b2.1
  · rw [m9]; exact h28
  · rw [mI 13 (by omega)]; exact b2.2.2.1
  · rw [show (54 : Nat) = 50 + 4 from rfl, mA5 4 p (by omega) hp]; exact b8.2.2.1 p hp
  · rw [s3, mI 1 (by omega)]; exact e1
  · rw [s3] at hp
    obtain ⟨i1, i2, i3⟩ := j5 p hp
    have f1 : ∀ f, f < 4 ∨ f = 6 → tt_I t1 (9 + p) f = tt_I sc (13 + p) f := fun f hf => s5 p f hp (by omega)
    have f2 : ∀ w f, w < 3 → w < (tt_I sc (13 + p) 6).toNatClampNeg → f < 3 → tt_I t1 (tt_wv (9 + p) w) f = tt_I sc (tt_wv (13 + p) w) f := fun w f hw hwm hf => by
      have W1 : tt_wv (13 + p) w = 25 + 3 * (13 - 9) + 3 * p + w := by unfold tt_wv; omega
      have W2 : tt_wv (9 + p) w = 25 + 3 * (9 - 9) + 3 * p + w := by unfold tt_wv; omega
      rw [W1, W2]; exact s6 p w f hp hwm hf
    exact ⟨c2_port i1 f1 f2 (fun i hi => mA5 i p hi (by omega)) (fun w f hw hf => mAw _ (by omega)), c2_range i2 f1 f2⟩
  · rw [show (9 : Nat) = 9 + 0 from rfl, s5 0 0 j2 (by omega)]; exact j6
  · rw [s4, m9]
  · rw [m9]; exact c2_sok j4 (fun i j hi hj => mAs i j hi (by omega))
  · rw [s3] at hp
    rw [s5 p 4 hp (by omega), m9, (j5 p hp).2.2]
    exact (c2_sob _ (fun i j hi hj => mAs i j hi (by omega))).symm

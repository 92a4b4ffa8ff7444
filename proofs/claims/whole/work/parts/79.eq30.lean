/-! fault -/
theorem rl.sy {k : Nat} {sc sc' sm : tt_St} (h : rl k sc sm) (g : sy sc sc') : rl k sc' sm := by
  have h4 := h.many.1
  obtain ⟨b1, b2, b3, b4, b5, b6, b7, b8⟩ := h
  have gA : ∀ j, tt_A sc' 2 j = tt_A sc 2 j := fun j => congrFun (congrFun (congrArg Prod.snd g.1) 2) j
  exact ⟨cg_tb b1 (fun o f ho => g.2 o f (by omega)), b2, b3, cg_page b4 (g.2 1 1 (by omega)) gA (Eq.refl _) (fun _ => Eq.refl _), cg_sea b5 (g.2 3 1 (by omega)) h4 (fun o f ho => g.2 o f (by omega)) (fun o f ho => g.2 o f (by omega)) (Eq.refl _) (fun _ _ _ => Eq.refl _), cg_seen b6 (g.2 3 1 (by omega)) (g.2 3 2 (by omega)) h4 (fun o ho => g.2 o 4 (by omega)) (Eq.refl _) (fun _ _ _ => Eq.refl _), cg_reads b7 (g.2 0 4 (by omega)) (Eq.refl _), cg_kept b8 h4 (fun o f ho => g.2 o f (by omega)) (fun _ _ => Eq.refl _) (fun _ _ _ => Eq.refl _)⟩
theorem cq_read {st : tt_St} {c : Nat → Int32} {N : Nat} (h : cx st c N 0 0) : (cW N 0 st).1 = nI (tx_read c N).1 ∧ (tx_read c N).1 ≤ N ∧ sy st (cW N 0 st).2 ∧ (((tx_read c N).2.1 = true ∧ (tx_read c N).1 = N) ↔ ((tx_read c N).1 = N ∧ ¬ pg_canEndAhead (cW N 0 st).2 (nI N) = 0)) := by
  obtain ⟨k1, k2⟩ := cq_port h
  rw [tx_read]
  by_cases c2 : (tx_port c N 0 0).2 = false
  · obtain ⟨m1, m2⟩ := k1.1 c2
    rw [if_pos c2, m1]
    exact ⟨Eq.refl _, tx_port_N (Nat.zero_le _) c2, ⟨Eq.refl _, fun _ _ _ => Eq.refl _⟩, fun q => Bool.noConfusion q.1, fun q => absurd (m2 q.1) q.2⟩
  · have c2' : (tx_port c N 0 0).2 = true := by simpa using c2
    obtain ⟨m1, m2⟩ := k1.2 c2'
    obtain ⟨u1, u2⟩ := k2 c2'
    rw [if_neg c2, m1]
    exact cq_rest 3 0 (tx_port c N 0 0).1 0 st (by omega) h m2 u1 u2
/-- the text of a page in both -/
theorem rl.text {k : Nat} {sc sm : tt_St} (h : rl k sc sm) : tx_of sm (tt_A sc 2) (tt_I sc 1 1).toNatClampNeg ∧ cx (tt_pI (tt_pI sc 1 2 0) 1 3 0) (tt_A sc 2) (tt_I sc 1 1).toNatClampNeg 0 0 := by
  have h1 := h.1.2.2
  have b4 := h.2.2.2.1
  have hN : (tt_I sc 1 1).toNatClampNeg ≤ 96 := tt_cle h1.2
  have e : tt_I sc 1 1 = nI (tt_I sc 1 1).toNatClampNeg := (tt_nIc h1.1).symm
  refine ⟨⟨b4.1.symm.trans e, hN, fun j hj => (b4.2 j hj).1.symm, fun j hj => (b4.2 j hj).2⟩, ⟨?_, hN, fun j hj => Eq.refl _, fun j hj => (b4.2 j hj).2, ?_, ?_, by omega, by omega⟩⟩
  · rw [px_I (by omega), px_I (by omega)]; exact e
  · rw [px_I (by omega), px_I1]; rfl
  · rw [px_I1]; rfl
theorem pg_look (sc : tt_St) : pg_firstWrong sc = cW (tt_I sc 1 1).toNatClampNeg 0 (tt_pI (tt_pI sc 1 2 0) 1 3 0) := rfl
theorem sy_0 (sc : tt_St) : sy sc (tt_pI (tt_pI sc 1 2 0) 1 3 0) := ⟨Eq.refl _, fun o f q => by rw [px_I (by omega), px_I (by omega)]⟩
theorem sy.trans {s s' s'' : tt_St} (h : sy s s') (g : sy s' s'') : sy s s'' := ⟨g.1.trans h.1, fun o f q => (g.2 o f q).trans (h.2 o f q)⟩
theorem eq_fault_c {k : Nat} {sc sm : tt_St} (h : rl k sc sm) : (tb_fault sc).1 = (mo_fault sm).1 ∧ rl k (tb_fault sc).2 (mo_fault sm).2 := by
  obtain ⟨t1, t2⟩ := h.text
  obtain ⟨a1, a2, a3, a4⟩ := cq_read t2
  obtain ⟨b1, b2, _⟩ := mr_read t1
  have hs := (sy_0 sc).trans a3
  clear a3 a4 t2
  rw [tb_fault, mo_fault, pg_look]
  generalize cW (tt_I sc 1 1).toNatClampNeg 0 (tt_pI (tt_pI sc 1 2 0) 1 3 0) = r1 at a1 hs ⊢
  generalize mo_read sm = r2 at b1 b2 ⊢
  generalize nI (tx_read (tt_A sc 2) (tt_I sc 1 1).toNatClampNeg).1 = z at a1 b1
  obtain ⟨y1, F1⟩ := r1
  obtain ⟨y2, F2⟩ := r2
  have e : y1 = y2 := a1.trans b1.symm
  have r : rl k F1 F2 := (h.sy hs).sx b2
  exact ⟨e, r⟩
/-- a page is whole for both or for none -/
theorem eq_whole {k : Nat} {sc sm : tt_St} (h : rl k sc sm) : sy sc (pg_isWhole sc).2 ∧ (¬ (pg_isWhole sc).1 = 0 ↔ ((tx_read (tt_A sc 2) (tt_I sc 1 1).toNatClampNeg).2.1 = true ∧ (tx_read (tt_A sc 2) (tt_I sc 1 1).toNatClampNeg).1 = (tt_I sc 1 1).toNatClampNeg)) := by
  obtain ⟨t1, t2⟩ := h.text
  obtain ⟨a1, a2, a3, a4⟩ := cq_read t2
  have hN : (tt_I sc 1 1).toNatClampNeg ≤ 96 := tt_cle h.1.2.2.2
  have e : tt_I sc 1 1 = nI (tt_I sc 1 1).toNatClampNeg := (tt_nIc h.1.2.2.1).symm
  rw [pg_isWhole, pg_look]
  have hs := (sy_0 sc).trans a3
  generalize cW (tt_I sc 1 1).toNatClampNeg 0 (tt_pI (tt_pI sc 1 2 0) 1 3 0) = r at a1 a3 a4 hs ⊢
  obtain ⟨y, F⟩ := r
  have e11 : tt_I F 1 1 = nI (tt_I sc 1 1).toNatClampNeg := (hs.2 1 1 (by omega)).trans e
  have a1' : y = nI (tx_read (tt_A sc 2) (tt_I sc 1 1).toNatClampNeg).1 := a1
  have a4' : ((tx_read (tt_A sc 2) (tt_I sc 1 1).toNatClampNeg).2.1 = true ∧ (tx_read (tt_A sc 2) (tt_I sc 1 1).toNatClampNeg).1 = (tt_I sc 1 1).toNatClampNeg) ↔ ((tx_read (tt_A sc 2) (tt_I sc 1 1).toNatClampNeg).1 = (tt_I sc 1 1).toNatClampNeg ∧ ¬ pg_canEndAhead F (nI (tt_I sc 1 1).toNatClampNeg) = 0) := a4
  show sy sc (pg_isWhole_k4 y F).2 ∧ (¬ (pg_isWhole_k4 y F).1 = 0 ↔ _)
  rw [a4', pg_isWhole_k4, e11, a1']
  generalize (tx_read (tt_A sc 2) (tt_I sc 1 1).toNatClampNeg).1 = X at a2 ⊢
  generalize (tt_I sc 1 1).toNatClampNeg = N at a2 hN ⊢
  have eX : nI X = nI N ↔ X = N := ⟨fun q => by
    have := congrArg Int32.toNatClampNeg q
    rw [nI_clamp (by omega), nI_clamp (by omega)] at this
    exact this, fun q => by rw [q]⟩
  by_cases c1 : X = N
  · rw [if_pos (eX.mpr c1)]
    by_cases c2 : pg_canEndAhead F (nI N) = 0
    · rw [if_pos c2]; exact ⟨hs, fun q => absurd (Eq.refl _) q, fun q => absurd c2 q.2⟩
    · rw [if_neg c2]; exact ⟨hs, fun _ => ⟨c1, c2⟩, fun _ => (show ¬ (1 : Int32) = 0 from by decide)⟩
  · rw [if_neg (fun q => c1 (eX.mp q))]
    exact ⟨hs, fun q => absurd (Eq.refl _) q, fun q => absurd q.1 c1⟩

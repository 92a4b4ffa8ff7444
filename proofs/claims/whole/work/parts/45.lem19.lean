theorem se_become_l {o a1 m : Nat} (ho : tt_ci o = 2) (hm : m ≤ 4) : ∀ (n j : Nat) (st : tt_St), j + n = m → tb_ok st → tb_ok (se_become_l18 o a1 m n j st) ∧ ∀ o' f, tt_ci o' ≠ 1 → tt_ci o' ≠ 3 → tt_I (se_become_l18 o a1 m n j st) o' f = tt_I st o' f := by
  intro n
  induction n with
  | zero => intro j st hj h; exact ⟨h, fun _ _ _ _ => rfl⟩
  | succ n ih =>
    intro j st hj h
    rw [se_become_l18]
    have hb : vp_in (nI j) 4 := vp_in_nI (by omega) (by omega)
    obtain ⟨h1, h2⟩ := ih (j + 1) _ (by omega) (po_become_ok (a1 := (tt_po a1 (Int32.toNatClampNeg (nI j)))) h (tt_po_ci ho hb))
    exact ⟨h1, fun o' f hn h3 => (h2 o' f hn h3).trans (po_become_ne h (tt_po_ci ho hb) (fun e => hn (by rw [e]; exact tt_po_ci ho hb)) h3)⟩
theorem se_become_ok {o a1 : Nat} {st : tt_St} (h : tb_ok st) (ho : tt_ci o = 2) (h1 : tt_ci a1 = 2) : tb_ok (se_become st o a1) := by
  rw [se_become]
  exact (se_become_l ho (tt_cle (h.2.1 a1 h1).2) _ _ _ (by omega) (tb_ok_pI (tb_ok_s1 h ho (h.2.1 a1 h1)) (by decide) (by decide))).1
theorem pg_rpl {a1 : Int32} {a2 : Nat} {x3 : Int32} (h2 : tt_ci a2 = 1) : ∀ (n : Nat) (x4 : Int32) (st : tt_St), tb_ok st → (0 ≤ x4.toInt ∧ x4.toInt ≤ 101 ∧ 102 ≤ x4.toInt + 6 * (n : Int)) → tb_ok (pg_readPort_l71 a1 a2 n x4 st).2 ∧ (0 ≤ (pg_readPort_l71 a1 a2 n x4 st).1.toInt ∧ (pg_readPort_l71 a1 a2 n x4 st).1.toInt ≤ 110) ∧ ∀ o' f, o' ≠ a2 → tt_ci o' ≠ 3 → tt_I (pg_readPort_l71 a1 a2 n x4 st).2 o' f = tt_I st o' f := by
  intro n
  induction n with
  | zero => intro x4 st h hx; exact absurd hx (by omega)
  | succ n ih =>
    intro x4 st h hx
    rw [pg_readPort_l71]
    let Q : Int32 × tt_St → Prop := fun r => tb_ok r.2 ∧ (0 ≤ r.1.toInt ∧ r.1.toInt ≤ 110) ∧ ∀ o' f, o' ≠ a2 → tt_ci o' ≠ 3 → tt_I r.2 o' f = tt_I st o' f
    have q1 : Q (x4, st) := ⟨h, by show 0 ≤ x4.toInt ∧ x4.toInt ≤ 110; omega, fun _ _ _ _ => rfl⟩
    by_cases c : tt_I st 1 1 ≤ x4
    · rw [if_pos c]; exact q1
    · rw [if_neg c]
      refine tt_iteQ Q q1 ?_
      obtain ⟨b1, b2, b3⟩ := ih (x4 + 6) _ (po_putWave_ok (a := pg_numberAt st x4) (b := pg_numberAt st (x4 + 2)) (c := pg_numberAt st (x4 + 4)) h h2) (pg_rp_s h hx c)
      exact ⟨b1, b2, fun o' f hn h3 => (b3 o' f hn h3).trans (po_putWave_ne h2 hn h3 h)⟩
theorem pg_rp {st : tt_St} {a1 : Int32} {a2 : Nat} (hI : tb_ok st) (hp : vp_in a1 96) (h2 : tt_ci a2 = 1) : tb_ok (pg_readPort st a1 a2).2 ∧ (0 ≤ (pg_readPort st a1 a2).1.toInt ∧ (pg_readPort st a1 a2).1.toInt ≤ 110) ∧ ∀ o' f, o' ≠ a2 → tt_ci o' ≠ 3 → tt_I (pg_readPort st a1 a2).2 o' f = tt_I st o' f := by
  have h9 := tt_in_lt hp
  have e7 := tt_addn (a := a1) (b := 7) (n := 7) rfl (by omega) (by omega)
  have e5 := tt_addn (a := a1) (b := 5) (n := 5) rfl (by omega) (by omega)
  rw [pg_readPort]
  let Q : Int32 × tt_St → Prop := fun r => tb_ok r.2 ∧ (0 ≤ r.1.toInt ∧ r.1.toInt ≤ 110) ∧ ∀ o' f, o' ≠ a2 → tt_ci o' ≠ 3 → tt_I r.2 o' f = tt_I st o' f
  have q1 : ∀ a b c d, Q (a1 + 7, po_begin st a2 a b c d) := fun a b c d => ⟨po_begin_ok hI h2, by show 0 ≤ (a1 + 7).toInt ∧ (a1 + 7).toInt ≤ 110; omega, fun o' f hn _ => po_begin_ne hn⟩
  have q2 : ∀ a b c d, Q ((pg_readPort_l71 a1 a2 17 (a1 + 5) (po_begin st a2 a b c d)).1, (pg_readPort_l71 a1 a2 17 (a1 + 5) (po_begin st a2 a b c d)).2) := fun a b c d => by
    obtain ⟨b1, b2, b3⟩ := pg_rpl (a1 := a1) (x3 := 0) h2 17 (a1 + 5) (po_begin st a2 a b c d) (po_begin_ok hI h2) (by omega)
    exact ⟨b1, b2, fun o' f hn h3 => (b3 o' f hn h3).trans (po_begin_ne hn)⟩
  exact tt_iteQ Q (q1 _ _ _ _) (q2 _ _ _ _)
theorem pg_ri_m {st : tt_St} {x2 : Int32} {a1 q : Nat} {n : Nat} (hI : tb_ok st) (h1 : tt_ci a1 = 2) (hp : vp_in x2 96) (hq : tt_ci q = 1) (hm : 0 ≤ (tt_I st a1 1).toInt ∧ (tt_I st a1 1).toInt ≤ 4 ∧ 5 ≤ (tt_I st a1 1).toInt + ((n + 1 : Nat) : Int)) (c : ¬ 4 ≤ tt_I st a1 1) :
    tb_ok (tt_pI (pg_readPort st x2 q).2 a1 1 (tt_I (pg_readPort st x2 q).2 a1 1 + 1)) ∧ (0 ≤ ((pg_readPort st x2 q).1 + 1).toInt ∧ ((pg_readPort st x2 q).1 + 1).toInt ≤ 111) ∧ (0 ≤ (tt_I (tt_pI (pg_readPort st x2 q).2 a1 1 (tt_I (pg_readPort st x2 q).2 a1 1 + 1)) a1 1).toInt ∧ (tt_I (tt_pI (pg_readPort st x2 q).2 a1 1 (tt_I (pg_readPort st x2 q).2 a1 1 + 1)) a1 1).toInt ≤ 4 ∧ 5 ≤ (tt_I (tt_pI (pg_readPort st x2 q).2 a1 1 (tt_I (pg_readPort st x2 q).2 a1 1 + 1)) a1 1).toInt + (n : Int)) := by
  obtain ⟨b1, b2, b3⟩ := pg_rp hI hp hq
  have e4 : (4 : Int32).toInt = 4 := rfl
  rw [tt_le, e4] at c
  have e := b3 a1 1 (tt_se_nepo h1 hq) (by omega)
  have e1 := tt_addn (a := tt_I st a1 1) (b := 1) (n := 1) rfl (by omega) (by omega)
  have e2 := tt_addn (a := (pg_readPort st x2 q).1) (b := 1) (n := 1) rfl (by omega) (by omega)
  have e3 : tt_I (tt_pI (pg_readPort st x2 q).2 a1 1 (tt_I (pg_readPort st x2 q).2 a1 1 + 1)) a1 1 = tt_I st a1 1 + 1 := by
    rw [e]; simp [tt_I, tt_pI]
  rw [e3]
  refine ⟨tb_ok_s1 b1 h1 (by rw [e]; omega), by omega, by omega⟩
theorem pg_iw_ok {st : tt_St} (hI : tb_ok st) : tb_ok (pg_isWhole st).2 := by
  rw [pg_isWhole, pg_isWhole_k4]
  have h := (pg_fw hI).1
  exact tt_iteQ (fun r : Int32 × tt_St => tb_ok r.2) (tt_iteQ (fun r : Int32 × tt_St => tb_ok r.2) h h) h

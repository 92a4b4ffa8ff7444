theorem po_become_l {o a1 m : Nat} (ho : tt_ci o = 1) : ∀ (n j : Nat) (st : tt_St), tb_ok st → tb_ok (po_become_l30 o a1 m n j st) ∧ ∀ o' f, o' ≠ o → tt_ci o' ≠ 3 → tt_I (po_become_l30 o a1 m n j st) o' f = tt_I st o' f := by
  intro n
  induction n with
  | zero => intro j st h; exact ⟨h, fun _ _ _ _ => rfl⟩
  | succ n ih =>
    intro j st h
    rw [po_become_l30]
    obtain ⟨h1, h2⟩ := ih (j + 1) _ (po_putWave_ok (a := (tt_I st (tt_wv a1 (Int32.toNatClampNeg (nI j))) 0)) (b := (tt_I st (tt_wv a1 (Int32.toNatClampNeg (nI j))) 1)) (c := (tt_I st (tt_wv a1 (Int32.toNatClampNeg (nI j))) 2)) h ho)
    exact ⟨h1, fun o' f hn h3 => (h2 o' f hn h3).trans (po_putWave_ne ho hn h3 h)⟩
theorem po_become_ok {o a1 : Nat} {st : tt_St} (h : tb_ok st) (ho : tt_ci o = 1) : tb_ok (po_become st o a1) := by
  rw [po_become]
  exact (po_become_l ho _ _ _ (tb_ok_pI (po_begin_ok h ho) (by decide) (by decide))).1
theorem po_become_ne {o a1 o' f : Nat} {st : tt_St} (h : tb_ok st) (ho : tt_ci o = 1) (hn : o' ≠ o) (h3 : tt_ci o' ≠ 3) : tt_I (po_become st o a1) o' f = tt_I st o' f := by
  rw [po_become, (po_become_l ho _ _ _ (tb_ok_pI (po_begin_ok h ho) (by decide) (by decide))).2 o' f hn h3, tt_pI_ne hn, po_begin_ne hn]
theorem tt_se_nepo {o q : Nat} (ho : tt_ci o = 2) (hq : tt_ci q = 1) : o ≠ q := fun e => by rw [e, hq] at ho; exact absurd ho (by decide)
theorem se_b0 {st : tt_St} {o a1 : Nat} (hne : a1 ≠ o) : tt_I (tt_pI (tt_pI st o 1 (tt_I st a1 1)) o 2 (tt_I (tt_pI st o 1 (tt_I st a1 1)) a1 2)) o 1 = tt_I st a1 1 := by
  rw [tt_pI_nf (by decide)]
  simp [tt_I, tt_pI]
/-- the reading of letters: what stays -/
theorem pg_fw_l {m : Nat} (hm : m ≤ 96) : ∀ (n j : Nat) (st : tt_St), j + n = m → tb_ok st → (0 ≤ (tt_I st 1 2).toInt ∧ (tt_I st 1 2).toInt ≤ (j : Int)) → tb_ok (pg_firstWrong_l12 m n j st).2 ∧ (0 ≤ (tt_I (pg_firstWrong_l12 m n j st).2 1 2).toInt ∧ (tt_I (pg_firstWrong_l12 m n j st).2 1 2).toInt ≤ 96) := by
  intro n
  induction n with
  | zero => intro j st hj h hs; exact ⟨h, by show 0 ≤ (tt_I st 1 2).toInt ∧ (tt_I st 1 2).toInt ≤ 96; omega⟩
  | succ n ih =>
    intro j st hj h hs
    rw [pg_firstWrong_l12]
    let Q : Int32 × tt_St → Prop := fun r => tb_ok r.2 ∧ (0 ≤ (tt_I r.2 1 2).toInt ∧ (tt_I r.2 1 2).toInt ≤ 96)
    have q1 : Q (nI j, st) := ⟨h, by show 0 ≤ (tt_I st 1 2).toInt ∧ (tt_I st 1 2).toInt ≤ 96; omega⟩
    have q2 : Q (pg_firstWrong_l12 m n (j + 1) st) := ih (j + 1) st (by omega) h (by omega)
    have q3 : Q (pg_firstWrong_l12 m n (j + 1) (tt_pI (tt_pI st 1 2 ((nI j) + 1)) 1 3 ((tt_I (tt_pI st 1 2 ((nI j) + 1)) 1 3) + 1))) := ih (j + 1) _ (by omega) (tb_ok_pI (tb_ok_pI h (by decide) (by decide)) (by decide) (by decide)) (pg_hsA (by omega))
    exact tt_iteQ Q (tt_iteQ Q (tt_iteQ Q q1 q2) (tt_iteQ Q (tt_iteQ Q q1 q2) q3)) (tt_iteQ Q q1 q2)
theorem pg_fw {st : tt_St} (hI : tb_ok st) : tb_ok (pg_firstWrong st).2 ∧ (0 ≤ (tt_I (pg_firstWrong st).2 1 2).toInt ∧ (tt_I (pg_firstWrong st).2 1 2).toInt ≤ 96) := by
  rw [pg_firstWrong]
  exact pg_fw_l (tt_cle hI.2.2.2) _ _ _ (by omega) (tb_ok_pI (tb_ok_pI hI (by decide) (by decide)) (by decide) (by decide)) (show 0 ≤ (0 : Int32).toInt ∧ (0 : Int32).toInt ≤ ((0 : Nat) : Int) from by decide)

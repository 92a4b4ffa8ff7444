theorem mo_rwl_k {a1 x2 : Int32} : ∀ (n j : Nat) (x3 : Int32) (st : tt_St), (0 ≤ x3.toInt ∧ x3.toInt + 2 * (n : Int) ≤ 1000) → x3.toInt ≤ (mo_readWave_l25 a1 x2 n j x3 st).1.toInt ∧ (mo_readWave_l25 a1 x2 n j x3 st).1.toInt ≤ x3.toInt + 2 * (n : Int) := by
  intro n
  induction n with
  | zero => intro j x3 st h; exact ⟨Int.le_refl _, by show x3.toInt ≤ _; omega⟩
  | succ n ih =>
    intro j x3 st h
    rw [mo_readWave_l25]
    refine tt_iteQ (fun r : Int32 × tt_St => x3.toInt ≤ r.1.toInt ∧ r.1.toInt ≤ x3.toInt + 2 * ((n + 1 : Nat) : Int)) ?_ ⟨Int.le_refl _, by show x3.toInt ≤ _; omega⟩
    have h1 := mo_rn_k (st := st) (k := x3) (l := (if (nI j) = 0 then 1 else 0 : Int32)) (m := (if (nI j) = 2 then 63 else 99 : Int32)) (by omega)
    have h2 := ih (j + 1) (mo_readNumber st x3 (if (nI j) = 0 then 1 else 0 : Int32) (if (nI j) = 2 then 63 else 99 : Int32)).1 (tt_pA (mo_readNumber st x3 (if (nI j) = 0 then 1 else 0 : Int32) (if (nI j) = 2 then 63 else 99 : Int32)).2 66 (Int32.toNatClampNeg (x2 + (nI j))) (tt_I (mo_readNumber st x3 (if (nI j) = 0 then 1 else 0 : Int32) (if (nI j) = 2 then 63 else 99 : Int32)).2 49 24)) (by omega)
    omega
theorem mo_rw_I {st : tt_St} {k : Int32} {f : Nat} (h : f ≠ 16) (h2 : f ≠ 24) : tt_I (mo_readWave st k).2 49 f = tt_I st 49 f := by
  rw [mo_readWave]
  exact (mo_readWave_pres 3 0 k st).1 f h h2
theorem mo_rw_pl {st : tt_St} {k : Int32} (hl : mo_pl st) : mo_pl (mo_readWave st k).2 := by
  unfold mo_pl
  rw [mo_rw_I (by decide) (by decide)]
  exact hl
theorem mo_rw_np {st : tt_St} {k : Int32} (hn : vp_in (tt_I st 49 17) 4) : vp_in (tt_I (mo_readWave st k).2 49 17) 4 := by
  rw [mo_rw_I (by decide) (by decide)]
  exact hn
theorem mo_rw_65 {st : tt_St} {k : Int32} : tt_A (mo_readWave st k).2 65 (Int32.toNatClampNeg (tt_I (mo_readWave st k).2 49 17)) = tt_A st 65 (Int32.toNatClampNeg (tt_I st 49 17)) + 1 := by
  rw [mo_rw_I (by decide) (by decide), mo_readWave]
  obtain ⟨h1, h2⟩ := mo_readWave_pres (a1 := k) (x2 := ((9 * (tt_I st 49 17)) + (3 * (tt_A st 65 (Int32.toNatClampNeg (tt_I st 49 17)))))) 3 0 k st
  have e1 := h1 17 (by decide) (by decide)
  have e2 := h2 65 (by decide)
  show tt_A (tt_pA _ 65 _ _) 65 _ = _
  rw [tt_A_pA, e1, e2]
  simp [upd]
theorem mo_rw_k {st : tt_St} {x : Int32} {n : Nat} (hk : 0 ≤ x.toInt ∧ x.toInt + 6 * ((n + 1 : Nat) : Int) ≤ 700) : 0 ≤ (mo_readWave st x).1.toInt ∧ (mo_readWave st x).1.toInt + 6 * (n : Int) ≤ 700 := by
  have h := mo_rwl_k (a1 := x) (x2 := ((9 * (tt_I st 49 17)) + (3 * (tt_A st 65 (Int32.toNatClampNeg (tt_I st 49 17)))))) 3 0 x st (by omega)
  rw [mo_readWave]
  show 0 ≤ (mo_readWave_l25 x _ 3 0 x st).1.toInt ∧ (mo_readWave_l25 x _ 3 0 x st).1.toInt + 6 * (n : Int) ≤ 700
  omega
theorem mo_rw_kk {st : tt_St} {x : Int32} (hk : 0 ≤ x.toInt ∧ x.toInt ≤ 900) : x.toInt ≤ (mo_readWave st x).1.toInt ∧ (mo_readWave st x).1.toInt ≤ x.toInt + 6 := by
  have h := mo_rwl_k (a1 := x) (x2 := ((9 * (tt_I st 49 17)) + (3 * (tt_A st 65 (Int32.toNatClampNeg (tt_I st 49 17)))))) 3 0 x st (by omega)
  rw [mo_readWave]
  show x.toInt ≤ (mo_readWave_l25 x _ 3 0 x st).1.toInt ∧ (mo_readWave_l25 x _ 3 0 x st).1.toInt ≤ x.toInt + 6
  omega
theorem mo_rp_in {w : Int32} {n : Nat} (hw : 0 ≤ w.toInt ∧ w.toInt ≤ 3 ∧ 4 ≤ w.toInt + (n : Int)) (h : ¬ 3 ≤ w) : vp_in w 3 := by
  have e : (3 : Int32).toInt = 3 := rfl
  rw [tt_le, e] at h
  exact tt_in hw.1 (by omega)
theorem mo_rw_w {st : tt_St} {k : Int32} {n : Nat} (hw : 0 ≤ (tt_A st 65 (Int32.toNatClampNeg (tt_I st 49 17))).toInt ∧ (tt_A st 65 (Int32.toNatClampNeg (tt_I st 49 17))).toInt ≤ 3 ∧ 4 ≤ (tt_A st 65 (Int32.toNatClampNeg (tt_I st 49 17))).toInt + ((n + 1 : Nat) : Int)) (h : ¬ 3 ≤ tt_A st 65 (Int32.toNatClampNeg (tt_I st 49 17))) :
    0 ≤ (tt_A (mo_readWave st k).2 65 (Int32.toNatClampNeg (tt_I (mo_readWave st k).2 49 17))).toInt ∧ (tt_A (mo_readWave st k).2 65 (Int32.toNatClampNeg (tt_I (mo_readWave st k).2 49 17))).toInt ≤ 3 ∧ 4 ≤ (tt_A (mo_readWave st k).2 65 (Int32.toNatClampNeg (tt_I (mo_readWave st k).2 49 17))).toInt + (n : Int) := by
  rw [mo_rw_65]
  have e : (3 : Int32).toInt = 3 := rfl
  rw [tt_le, e] at h
  have e1 := tt_addn (a := tt_A st 65 (Int32.toNatClampNeg (tt_I st 49 17))) (b := 1) (n := 1) rfl (by omega) (by omega)
  rw [e1]
  omega
theorem mo_rp_w {w : Int32} (h : w = 0) : 0 ≤ w.toInt ∧ w.toInt ≤ 3 ∧ 4 ≤ w.toInt + ((4 : Nat) : Int) := by
  subst h; decide
theorem mo_rp_k {st : tt_St} {a l m : Int32} (hk : 0 ≤ a.toInt ∧ a.toInt ≤ 500) : 0 ≤ (mo_readNumber st (a + 1) l m).1.toInt ∧ (mo_readNumber st (a + 1) l m).1.toInt ≤ 503 := by
  have e := tt_addn (a := a) (b := 1) (n := 1) rfl (by omega) (by omega)
  have := mo_rn_k (st := st) (k := a + 1) (l := l) (m := m) (by omega)
  omega
theorem mo_rp_k2 {st : tt_St} {y l m : Int32} {B C : Int} (hk : 0 ≤ y.toInt ∧ y.toInt ≤ B) (hB : B ≤ 990) (hC : B + 2 ≤ C) : 0 ≤ (mo_readNumber st y l m).1.toInt ∧ (mo_readNumber st y l m).1.toInt ≤ C := by
  have := mo_rn_k (st := st) (k := y) (l := l) (m := m) (by omega)
  omega

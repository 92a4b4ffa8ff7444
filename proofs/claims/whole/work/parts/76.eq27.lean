/-! the class's look, step by step -/
def ce (f : Bool) (x : Int32) : Int32 := if 7 ≤ x then (if f = true then (if x = 7 then 1 else 0) else (if ((x - 5) - (x - 5) / 6 * 6) = 0 then 1 else 0)) else 0
theorem pc_r {st : tt_St} {c : Nat → Int32} {N a n r : Nat} (h : cx st c N a n) (f : Bool) (hf : f = decide (tx_at c N a = 102)) (hN : a + r ≤ N) : pg_canEndAhead st (nI (a + r)) = ce f (nI r) := by
  have hN96 := h.2.1
  have e1 : nI (a + r) - nI a = nI r := by rw [← nI_add, Int32.add_comm, Int32.add_sub_cancel]
  rw [pg_canEndAhead, ce, h.2.2.2.2.1, e1]
  by_cases c7 : (7 : Int32) ≤ nI r
  · have r7 : 7 ≤ r := by
      rw [tt_le, nI_toInt (by omega), show (7 : Int32).toInt = 7 from rfl] at c7; omega
    rw [if_pos c7, if_pos c7, nI_clamp (by omega), cx_at h (by omega)]
    cases f with
    | false =>
      have nc : ¬ tx_at c N a = 102 := by simpa using hf.symm
      rw [if_neg nc, if_neg (show ¬ false = true from by decide)]
    | true =>
      have nc : tx_at c N a = 102 := by simpa using hf.symm
      rw [if_pos nc, if_pos (Eq.refl _)]
  · rw [if_neg c7, if_neg c7]
theorem ce_t : ∀ r : Fin 24, ce true (nI r.1) = (if r.1 = 7 then 1 else 0) ∧ ce false (nI r.1) = (if r.1 = 11 ∨ r.1 = 17 ∨ r.1 = 23 then 1 else 0) := by decide +kernel
theorem ce_even {f : Bool} {i : Nat} (hi : 2 * i < 24) : ce f (nI (2 * i)) = 0 := by
  have k := ce_t ⟨2 * i, hi⟩
  cases f with
  | false => rw [k.2, if_neg (by simp only; omega)]
  | true => rw [k.1, if_neg (by simp only; omega)]
def cW (N k : Nat) (st : tt_St) : Int32 × tt_St := pg_firstWrong_l12 N (N - k) k st
theorem cW_end {st : tt_St} {c : Nat → Int32} {N a n : Nat} (h : cx st c N a n) : cW N N st = (nI N, st) := by
  rw [cW, Nat.sub_self, pg_firstWrong_l12, h.1]
theorem cW_n {n : Nat} (hn : n < 4) : (4 : Int32) ≤ nI n + 1 ↔ n = 3 := by
  rw [nI_1, tt_le, nI_toInt (by omega), show (4 : Int32).toInt = 4 from rfl]; omega
theorem cW_bad {st : tt_St} {c : Nat → Int32} {N a n k : Nat} (h : cx st c N a n) (hk : k < N) (hf : pg_fits st (nI k) = 0) (hc : tx_at c N k = 44 → pg_canEndAhead st (nI k) = 0 ∨ n = 3) : cW N k st = (nI k, st) := by
  have hN96 := h.2.1
  rw [cW, show N - k = (N - k - 1) + 1 from by omega, pg_firstWrong_l12, nI_clamp (by omega), cx_at h hk, h.2.2.2.2.2.1, hf]
  by_cases c1 : tx_at c N k = 44
  · rw [if_pos c1]
    by_cases c2 : (4 : Int32) ≤ nI n + 1
    · rw [if_pos c2, if_pos (Eq.refl _)]
    · have c3 : pg_canEndAhead st (nI k) = 0 := (hc c1).resolve_right (fun q => c2 ((cW_n h.2.2.2.2.2.2.2).mpr q))
      rw [if_neg c2, if_pos c3, if_pos (Eq.refl _)]
  · rw [if_neg c1, if_pos (Eq.refl _)]
theorem cW_ok {st : tt_St} {c : Nat → Int32} {N a n k : Nat} (h : cx st c N a n) (hk : k < N) (hf : ¬ pg_fits st (nI k) = 0) (hc : ¬ tx_at c N k = 44) : cW N k st = cW N (k + 1) st := by
  have hN96 := h.2.1
  rw [cW, show N - k = (N - (k + 1)) + 1 from by omega, pg_firstWrong_l12, nI_clamp (by omega), cx_at h hk, if_neg hc, if_neg hf, cW]
theorem cW_comma {st : tt_St} {c : Nat → Int32} {N a n k : Nat} (h : cx st c N a n) (hk : k < N) (hc : tx_at c N k = 44) (hn : n < 3) (he : ¬ pg_canEndAhead st (nI k) = 0) : cW N k st = cW N (k + 1) (tt_pI (tt_pI st 1 2 (nI (k + 1))) 1 3 (nI (n + 1))) := by
  have hN96 := h.2.1
  have n4 : ¬ (4 : Int32) ≤ nI n + 1 := fun q => absurd ((cW_n (by omega)).mp q) (by omega)
  have i3 : ∀ v, tt_I (tt_pI st 1 2 v) 1 3 = nI n := fun v => by rw [px_I (by omega), h.2.2.2.2.2.1]
  rw [cW, show N - k = (N - (k + 1)) + 1 from by omega, pg_firstWrong_l12, nI_clamp (by omega), cx_at h hk, if_pos hc, h.2.2.2.2.2.1, if_neg n4, if_neg he, i3, nI_1, nI_1, cW]
theorem fg_44 {c : Nat → Int32} {N k : Nat} (h : tx_fig c N k = true) : ¬ tx_at c N k = 44 := by
  intro q
  rw [tx_fig, decide_eq_true_iff, q] at h
  exact absurd h (by decide)
theorem fg_w {c : Nat → Int32} {N k : Nat} : tb_within (tx_at c N k) 48 57 = 0 ↔ tx_fig c N k = false := by
  rw [tx_fig, decide_eq_false_iff_not]
  have := tb_within_1 (a := tx_at c N k) (b := 48) (c := 57)
  rw [show (48 : Int32).toInt = 48 from rfl, show (57 : Int32).toInt = 57 from rfl] at this
  constructor
  · intro q z; exact (this.mpr z) q
  · intro q; apply Classical.not_not.mp; intro z; exact q (this.mp z)
theorem fg_end {c : Nat → Int32} {N : Nat} : tx_fig c N N = false := by
  rw [tx_fig, tx_at, if_pos (Nat.le_refl _)]; decide
theorem tp_1 : ∀ (f : Bool) (i : Fin 11), (nI (2 * i.1) - nI (2 * i.1) / 2 * 2 = 0) ∧ ¬ (nI (2 * i.1 + 1) - nI (2 * i.1 + 1) / 2 * 2 = 0) ∧ thi f (nI (2 * i.1)) = thi f (nI (2 * i.1 + 1)) := by decide +kernel
theorem cw_num {st : tt_St} {c : Nat → Int32} {N a n i : Nat} (h : cx st c N a n) (f : Bool) (hf : f = decide (tx_at c N a = 102)) (hL : 2 * i + 3 ≤ (if f = false then 23 else 7)) (hk : a + (2 * i + 1) ≤ N) (hc : tx_fig c N (a + (2 * i + 1)) = true ∨ pg_canEndAhead st (nI (a + (2 * i + 1))) = 0) (lo hi : Int32) (el : tlo f (nI (2 * i + 1)) = lo) (eh : thi f (nI (2 * i + 1)) = hi) :
    ((tx_num c N (a + (2 * i + 1)) lo hi).2 = false → cW N (a + (2 * i + 1)) st = (nI (tx_num c N (a + (2 * i + 1)) lo hi).1, st)) ∧ ((tx_num c N (a + (2 * i + 1)) lo hi).2 = true → cW N (a + (2 * i + 1)) st = cW N (a + (2 * i + 3)) st ∧ a + (2 * i + 3) ≤ N) := by
  have hN96 := h.2.1
  have hi11 : i < 11 := by
    cases f with
    | false => simp only [if_true] at hL; omega
    | true => simp only [Bool.true_eq_false, if_false] at hL; omega
  obtain ⟨p1, p2, p3⟩ := tp_1 f ⟨i, hi11⟩
  have p1' : nI (2 * i) - nI (2 * i) / 2 * 2 = 0 := p1
  have p2' : ¬ nI (2 * i + 1) - nI (2 * i + 1) / 2 * 2 = 0 := p2
  have p3' : thi f (nI (2 * i)) = hi := (show thi f (nI (2 * i)) = thi f (nI (2 * i + 1)) from p3).trans eh
  have hh : hi = 63 ∨ hi = 99 := by
    rw [← eh, thi]
    by_cases q : tu f (nI (2 * i + 1)) = 2
    · rw [if_pos q]; exact Or.inl (Eq.refl _)
    · rw [if_neg q]; exact Or.inr (Eq.refl _)
  have nL : ∀ r, r < 2 * i + 3 → ¬ (if f = false then 23 else 7 : Int32) ≤ nI r := fun r hr => by
    cases f with
    | false =>
      simp only [if_true] at hL ⊢
      exact nI_ge (b := 23) (by omega) (by omega)
    | true =>
      simp only [Bool.true_eq_false, if_false] at hL ⊢
      exact nI_ge (b := 7) (by omega) (by omega)
  rw [tx_num]
  by_cases kN : a + (2 * i + 1) = N
  · have z : tx_fig c N (a + (2 * i + 1)) = false := by rw [kN]; exact fg_end
    rw [if_pos z]
    refine ⟨fun _ => ?_, fun q => Bool.noConfusion q⟩
    rw [kN]; exact cW_end h
  have hkN : a + (2 * i + 1) < N := by omega
  have F1 := pf_r h f hf (r := 2 * i + 1) (by omega) hkN
  rw [show 2 * i + 1 - 1 = 2 * i from rfl, if_neg (nL _ (by omega)), if_pos p1', p3'] at F1
  by_cases c1 : tx_fig c N (a + (2 * i + 1)) = false
  · rw [if_pos c1]
    rw [if_pos (fg_w.mpr c1)] at F1
    refine ⟨fun _ => cW_bad h hkN F1 (fun _ => Or.inl (hc.resolve_left (fun q => by rw [c1] at q; exact Bool.noConfusion q))), fun q => Bool.noConfusion q⟩
  have c1' : tx_fig c N (a + (2 * i + 1)) = true := by simpa using c1
  rw [if_neg c1]
  rw [if_neg (fun q => c1 (fg_w.mp q))] at F1
  have rg := cx_rg h (a + (2 * i + 1))
  have fg := c1'
  rw [tx_fig, decide_eq_true_iff] at fg
  have e48 : (48 : Int32).toInt = 48 := rfl
  have e10 : (10 : Int32).toInt = 10 := rfl
  have ed : (tx_at c N (a + (2 * i + 1)) - 48).toInt = (tx_at c N (a + (2 * i + 1))).toInt - 48 := by rw [tt_sub] <;> rw [e48] <;> omega
  have em : (10 * (tx_at c N (a + (2 * i + 1)) - 48)).toInt = 10 * ((tx_at c N (a + (2 * i + 1))).toInt - 48) := by rw [tt_mul] <;> rw [e10, ed] <;> omega
  have tens : hi < 10 * (tx_at c N (a + (2 * i + 1)) - 48) ↔ hi / 10 < tx_at c N (a + (2 * i + 1)) - 48 := by
    rw [tt_lt, tt_lt, em, ed]
    rcases hh with rfl | rfl
    · rw [show (63 : Int32).toInt = 63 from rfl, show (63 / 10 : Int32).toInt = 6 from by decide]; omega
    · rw [show (99 : Int32).toInt = 99 from rfl, show (99 / 10 : Int32).toInt = 9 from by decide]; omega
  by_cases c2 : hi / 10 < tx_at c N (a + (2 * i + 1)) - 48
  · rw [if_pos c2]
    rw [if_pos (tens.mpr c2)] at F1
    exact ⟨fun _ => cW_bad h hkN F1 (fun q => absurd q (fg_44 c1')), fun q => Bool.noConfusion q⟩
  rw [if_neg c2]
  rw [if_neg (fun q => c2 (tens.mp q))] at F1
  have step1 : cW N (a + (2 * i + 1)) st = cW N (a + (2 * i + 2)) st := cW_ok h hkN (by rw [F1]; decide) (fg_44 c1')
  rw [step1, show a + (2 * i + 1) + 1 = a + (2 * i + 2) from rfl]
  by_cases kN2 : a + (2 * i + 2) = N
  · have z : tx_fig c N (a + (2 * i + 2)) = false := by rw [kN2]; exact fg_end
    rw [if_pos z]
    refine ⟨fun _ => ?_, fun q => Bool.noConfusion q⟩
    rw [kN2]; exact cW_end h
  have hkN2 : a + (2 * i + 2) < N := by omega
  have F2 := pf_r h f hf (r := 2 * i + 2) (by omega) hkN2
  rw [show 2 * i + 2 - 1 = 2 * i + 1 from rfl, if_neg (nL _ (by omega)), if_neg p2', el, eh, show a + (2 * i + 2) - 1 = a + (2 * i + 1) from rfl] at F2
  by_cases c3 : tx_fig c N (a + (2 * i + 2)) = false
  · rw [if_pos c3]
    rw [if_pos (fg_w.mpr c3)] at F2
    refine ⟨fun _ => cW_bad h hkN2 F2 (fun _ => Or.inl ?_), fun q => Bool.noConfusion q⟩
    rw [pc_r h f hf (by omega), show 2 * i + 2 = 2 * (i + 1) from by omega]
    exact ce_even (by omega)
  have c3' : tx_fig c N (a + (2 * i + 2)) = true := by simpa using c3
  rw [if_neg c3]
  rw [if_neg (fun q => c3 (fg_w.mp q)), eq_within] at F2
  have en : (10 * (tx_at c N (a + (2 * i + 1)) - 48)) + (tx_at c N (a + (2 * i + 2)) - 48) = tx_nm c N (a + (2 * i + 1)) := by
    show _ = ((10 * (tx_at c N (a + (2 * i + 1)) - 48)) + tx_at c N (a + (2 * i + 2))) - 48
    generalize 10 * (tx_at c N (a + (2 * i + 1)) - 48) = u
    generalize tx_at c N (a + (2 * i + 2)) = v
    rw [Int32.sub_eq_add_neg, Int32.sub_eq_add_neg, Int32.add_assoc]
  rw [en] at F2
  by_cases c4 : mo_within (tx_nm c N (a + (2 * i + 1))) lo hi = 0
  · rw [if_pos c4]
    exact ⟨fun _ => cW_bad h hkN2 (F2.trans c4) (fun q => absurd q (fg_44 c3')), fun q => Bool.noConfusion q⟩
  · rw [if_neg c4]
    refine ⟨fun q => Bool.noConfusion q, fun _ => ⟨cW_ok h hkN2 (by rw [F2]; exact c4) (fg_44 c3'), by omega⟩⟩

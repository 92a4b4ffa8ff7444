theorem tt_iteQ {β : Type} (Q : β → Prop) {c : Prop} [Decidable c] {a b : β} (h1 : Q a) (h2 : Q b) : Q (if c then a else b) := by
  by_cases h : c
  · rw [if_pos h]; exact h1
  · rw [if_neg h]; exact h2
theorem mo_rn_cases {st : tt_St} {k l m : Int32} (Q : Int32 × tt_St → Prop) (h1 : Q (k, tt_pI st 49 16 1)) (h2 : ∀ v, Q (k + 1, tt_pI (tt_pI st 49 24 v) 49 16 1)) (h3 : ∀ v, Q (k + 2, tt_pI st 49 24 v)) : Q (mo_readNumber st k l m) := by
  rw [mo_readNumber]
  exact tt_iteQ Q h1 (tt_iteQ Q (tt_iteQ Q (h2 _) (tt_iteQ Q (h2 _) (h3 _))) h1)
theorem mo_rn_I {st : tt_St} {k l m : Int32} {f : Nat} (h : f ≠ 16) (h2 : f ≠ 24) : tt_I (mo_readNumber st k l m).2 49 f = tt_I st 49 f := by
  refine mo_rn_cases (fun r => tt_I r.2 49 f = tt_I st 49 f) ?_ (fun v => ?_) (fun v => ?_) <;> simp [tt_I, tt_pI, h, h2]
theorem mo_rn_A {st : tt_St} {k l m : Int32} : tt_A (mo_readNumber st k l m).2 = tt_A st := by
  exact mo_rn_cases (fun r => tt_A r.2 = tt_A st) rfl (fun v => rfl) (fun v => rfl)
theorem mo_rn_pl {st : tt_St} {k l m : Int32} (hl : mo_pl st) : mo_pl (mo_readNumber st k l m).2 := by
  unfold mo_pl
  rw [mo_rn_I (by decide) (by decide)]
  exact hl
theorem mo_rn_np {st : tt_St} {k l m : Int32} (hn : vp_in (tt_I st 49 17) 4) : vp_in (tt_I (mo_readNumber st k l m).2 49 17) 4 := by
  rw [mo_rn_I (by decide) (by decide)]
  exact hn
theorem mo_rn_k {st : tt_St} {k l m : Int32} (hk : 0 ≤ k.toInt ∧ k.toInt ≤ 1000) : k.toInt ≤ (mo_readNumber st k l m).1.toInt ∧ (mo_readNumber st k l m).1.toInt ≤ k.toInt + 2 := by
  have e1 : (k + 1).toInt = k.toInt + 1 := tt_addn rfl (by omega) (by omega)
  have e2 : (k + 2).toInt = k.toInt + 2 := tt_addn rfl (by omega) (by omega)
  refine mo_rn_cases (fun r => k.toInt ≤ r.1.toInt ∧ r.1.toInt ≤ k.toInt + 2) ?_ (fun v => ?_) (fun v => ?_)
  · show k.toInt ≤ k.toInt ∧ k.toInt ≤ k.toInt + 2; omega
  · show k.toInt ≤ (k + 1).toInt ∧ (k + 1).toInt ≤ k.toInt + 2; omega
  · show k.toInt ≤ (k + 2).toInt ∧ (k + 2).toInt ≤ k.toInt + 2; omega
theorem mo_rn_step {st : tt_St} {x l m : Int32} {j : Nat} (hk : 0 ≤ x.toInt ∧ x.toInt ≤ 900 + 2 * (j : Int)) (hj : j < 3) : 0 ≤ (mo_readNumber st x l m).1.toInt ∧ (mo_readNumber st x l m).1.toInt ≤ 900 + 2 * ((j + 1 : Nat) : Int) := by
  have := mo_rn_k (st := st) (k := x) (l := l) (m := m) (by omega)
  omega

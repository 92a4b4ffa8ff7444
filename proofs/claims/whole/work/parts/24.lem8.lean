theorem r_iret_si {G : tt_G} {κ : tt_X (Int32 × tt_St)} {st : tt_St} {pc : Nat} {lv : List (Nat × Value)} {cc : ByteArray} {own : String} {nL fr lo : Nat} {v : Int32} {ty : FieldType} (hC : tt_Cx G κ cc own nL fr lo) (hR : tt_Rt G κ (some ty) (fun r => (some (.int r.1), r.2))) (hd : decode cc pc = .ok (.ireturn, 1)) (hn : narrow ty (.int v) = .int v) : tt_V G κ (v, st) st pc lv [.int v] := r_iret hC hR hd hn rfl
theorem r_iret_pi {G : tt_G} {κ : tt_X Int32} {st : tt_St} {pc : Nat} {lv : List (Nat × Value)} {cc : ByteArray} {own : String} {nL fr lo : Nat} {v : Int32} {ty : FieldType} (hC : tt_Cx G κ cc own nL fr lo) (hR : tt_Rt G κ (some ty) (fun r => (some (.int r), st))) (hd : decode cc pc = .ok (.ireturn, 1)) (hn : narrow ty (.int v) = .int v) : tt_V G κ v st pc lv [.int v] := r_iret hC hR hd hn rfl
theorem r_lret_sl {G : tt_G} {κ : tt_X (Int64 × tt_St)} {st : tt_St} {pc : Nat} {lv : List (Nat × Value)} {cc : ByteArray} {own : String} {nL fr lo : Nat} {v : Int64} (hC : tt_Cx G κ cc own nL fr lo) (hR : tt_Rt G κ (some .long) (fun r => (some (.long r.1), r.2))) (hd : decode cc pc = .ok (.lreturn, 1)) : tt_V G κ (v, st) st pc lv [.long v] := r_lret hC hR hd rfl
theorem r_lret_pl {G : tt_G} {κ : tt_X Int64} {st : tt_St} {pc : Nat} {lv : List (Nat × Value)} {cc : ByteArray} {own : String} {nL fr lo : Nat} {v : Int64} (hC : tt_Cx G κ cc own nL fr lo) (hR : tt_Rt G κ (some .long) (fun r => (some (.long r), st))) (hd : decode cc pc = .ok (.lreturn, 1)) : tt_V G κ v st pc lv [.long v] := r_lret hC hR hd rfl
theorem r_vret_sv {G : tt_G} {κ : tt_X tt_St} {st : tt_St} {pc : Nat} {lv : List (Nat × Value)} {cc : ByteArray} {own : String} {nL fr lo : Nat} (hC : tt_Cx G κ cc own nL fr lo) (hR : tt_Rt G κ none (fun r => (none, r))) (hd : decode cc pc = .ok (.return_, 1)) : tt_V G κ st st pc lv [] := r_vret hC hR hd rfl
theorem mo_rdl_np : ∀ (n : Nat) (x1 : Int32) (st : tt_St), (0 ≤ x1.toInt ∧ x1.toInt + 40 * (n : Int) ≤ 400) → mo_rdM st n → 0 ≤ (tt_I (mo_read_l21 n x1 st).2 49 17).toInt ∧ (tt_I (mo_read_l21 n x1 st).2 49 17).toInt ≤ 4 := by
  intro n
  induction n with
  | zero => intro x1 st hk hm; exact absurd hm.1 (by omega)
  | succ n ih =>
    intro x1 st hk hm
    rw [mo_read_l21]
    by_cases c1 : tt_I st 49 16 = 0
    · rw [if_pos c1]
      by_cases c2 : 4 ≤ tt_I st 49 17
      · rw [if_pos c2]; exact hm.2.2
      · rw [if_neg c2]
        by_cases c3 : mo_at st x1 = 44
        · rw [if_pos c3]; exact ih _ _ (mo_rd_k hk) (mo_rd_step hm hk c1 c2)
        · rw [if_neg c3]; exact hm.2.2
    · rw [if_neg c1]; exact hm.2.2
theorem mo_read_np {st : tt_St} : 0 ≤ (tt_I (mo_read st).2 49 17).toInt ∧ (tt_I (mo_read st).2 49 17).toInt ≤ 4 := by
  let Q : Int32 × tt_St → Prop := fun r => 0 ≤ (tt_I r.2 49 17).toInt ∧ (tt_I r.2 49 17).toInt ≤ 4
  have hq : ∀ (S : tt_St) (v k : Int32), (0 ≤ (tt_I S 49 17).toInt ∧ (tt_I S 49 17).toInt ≤ 4) → Q (k, tt_pI S 49 15 v) := fun _ _ _ h => h
  have key := mo_rdl_np 5 (mo_readPort (tt_pI (tt_pI (tt_pI st 49 15 0) 49 16 0) 49 17 0) 0).1 (mo_readPort (tt_pI (tt_pI (tt_pI st 49 15 0) 49 16 0) 49 17 0) 0).2 mo_rd0_k (mo_rdM_step (n := 5) (by decide) (by decide) (show 0 ≤ (0 : Int32).toInt ∧ (0 : Int32).toInt ≤ 3 from by decide) (show 5 ≤ (0 : Int32).toInt + ((5 + 1 : Nat) : Int) from by decide))
  show Q (mo_read st)
  rw [mo_read]
  exact tt_iteQ Q (tt_iteQ Q (hq _ _ _ key) (hq _ _ _ key)) (hq _ _ _ key)
/-- only the longs may differ -/
def mo_sm (st st' : tt_St) : Prop := st'.1 = st.1 ∧ st'.2.2 = st.2.2
theorem mo_sm.ok {st st' : tt_St} (h : mo_sm st st') (hI : mo_ok st) : mo_ok st' := by
  unfold mo_ok tt_I tt_A at *
  rw [h.1, h.2]
  exact hI
theorem mo_sm.trans {a b c : tt_St} (h : mo_sm a b) (h2 : mo_sm b c) : mo_sm a c := ⟨h2.1.trans h.1, h2.2.trans h.2⟩
theorem mo_sm.I {st st' : tt_St} (h : mo_sm st st') (o f : Nat) : tt_I st' o f = tt_I st o f := by unfold tt_I; rw [h.1]
theorem mo_sm.A {st st' : tt_St} (h : mo_sm st st') (o f : Nat) : tt_A st' o f = tt_A st o f := by unfold tt_A; rw [h.2]
theorem mo_z64 {x : Int32} (h : ¬ x = 0) : ¬ x.toInt64 = 0 := by
  intro q
  apply h
  have e : x.toInt64.toInt = x.toInt := Int32.toInt_toInt64 x
  rw [q] at e
  rw [tt_eq]
  exact e.symm
theorem tt_9 {x : Int32} {j : Nat} (hx : vp_in x 4) (hj : j < 9) : vp_in ((9 * x) + nI j) 36 := by
  obtain ⟨a, ha, rfl⟩ := vp_in_of hx (by decide)
  have e : (9 * nI a) + nI j = nI (9 * a + j) := by rw [← nI_add, ← pk_mul]; rfl
  rw [e]
  exact vp_in_nI (by omega) (by omega)
theorem mo_3w {st : tt_St} {x : Int32} (hI : mo_ok st) (hx : vp_in x 4) : 0 ≤ (3 * tt_A st 54 x.toNatClampNeg).toInt ∧ (3 * tt_A st 54 x.toNatClampNeg).toInt ≤ 9 := by
  have h := hI.2.2.2 _ (tt_inN hx)
  have e3 : (3 : Int32).toInt = 3 := rfl
  have e : (3 * tt_A st 54 x.toNatClampNeg).toInt = 3 * (tt_A st 54 x.toNatClampNeg).toInt := by
    rw [tt_mul] <;> rw [e3] <;> omega
  omega
theorem mo_dr_t {a : Int32} (h : ¬ mo_within a 1 50 = 0) : 0 ≤ a.toInt := by
  have h1 := mo_within_1.mp h
  have e : (1 : Int32).toInt = 1 := rfl
  omega

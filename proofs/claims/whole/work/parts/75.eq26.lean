/-! the class looks at the page -/
/-- a page as the text of the class, with where its look stands: the port's first letter and number -/
def cx (st : tt_St) (c : Nat → Int32) (N a n : Nat) : Prop := tt_I st 1 1 = nI N ∧ N ≤ 96 ∧ (∀ j, j < N → tt_A st 2 j = c j) ∧ (∀ j, j < N → 32 ≤ (c j).toInt ∧ (c j).toInt ≤ 126) ∧ tt_I st 1 2 = nI a ∧ tt_I st 1 3 = nI n ∧ a ≤ N ∧ n < 4
theorem cx_at {st : tt_St} {c : Nat → Int32} {N a n j : Nat} (h : cx st c N a n) (hj : j < N) : tt_A st 2 j = tx_at c N j := by
  rw [h.2.2.1 j hj, tx_at, if_neg (by omega)]
theorem cx_rg {st : tt_St} {c : Nat → Int32} {N a n : Nat} (h : cx st c N a n) (j : Nat) : 0 ≤ (tx_at c N j).toInt ∧ (tx_at c N j).toInt ≤ 126 := by
  unfold tx_at
  by_cases q : N ≤ j
  · rw [if_pos q]; decide
  · rw [if_neg q]; have := h.2.2.2.1 j (by omega); omega
theorem kd_all : ∀ v : Fin 127, (pg_kindOf (nI v.1) < 0 ↔ mo_kindBy (nI v.1) = -10001) ∧ (mo_kindBy (nI v.1) = 3 ↔ nI v.1 = 102) ∧ (¬ mo_kindBy (nI v.1) = -10001 → pg_kindOf (nI v.1) = mo_kindBy (nI v.1)) := by decide +kernel
theorem kd_of {x : Int32} (h : 0 ≤ x.toInt ∧ x.toInt ≤ 126) : (pg_kindOf x < 0 ↔ mo_kindBy x = -10001) ∧ (mo_kindBy x = 3 ↔ x = 102) ∧ (¬ mo_kindBy x = -10001 → pg_kindOf x = mo_kindBy x) := by
  have e : x = nI x.toNatClampNeg := (tt_nIc h.1).symm
  have hb : x.toNatClampNeg < 127 := by rw [tt_clamp]; omega
  have k := kd_all ⟨x.toNatClampNeg, hb⟩
  rw [e]; exact k
/-- the first letter of a port -/
theorem pf_0 {st : tt_St} {c : Nat → Int32} {N a n : Nat} (h : cx st c N a n) (ha : a < N) : pg_fits st (nI a) = 0 ↔ (mo_kindBy (tx_at c N a) = -10001 ∨ (mo_kindBy (tx_at c N a) = 3 ∧ n = 0)) := by
  have hr := cx_rg h a
  have hN := h.2.1
  obtain ⟨k1, k2, k3⟩ := kd_of hr
  have n0 : nI n ≤ 0 ↔ n = 0 := by
    rw [tt_le, nI_toInt (by have := h.2.2.2.2.2.2.2; omega), show (0 : Int32).toInt = 0 from rfl]; omega
  rw [pg_fits, h.2.2.2.2.1, if_pos (Eq.refl _), nI_clamp (by omega), cx_at h ha, h.2.2.2.2.2.1]
  by_cases c1 : tx_at c N a = 102
  · have c2 := k2.mpr c1
    rw [if_pos c1]
    by_cases c3 : nI n ≤ 0
    · rw [if_pos c3]; exact ⟨fun _ => Or.inr ⟨c2, n0.mp c3⟩, fun _ => Eq.refl _⟩
    · rw [if_neg c3]
      refine ⟨fun q => absurd q (by decide), fun q => ?_⟩
      rcases q with q | q
      · rw [c2] at q; exact absurd q (by decide)
      · exact absurd (n0.mpr q.2) c3
  · have c2 : ¬ mo_kindBy (tx_at c N a) = 3 := fun q => c1 (k2.mp q)
    rw [if_neg c1]
    by_cases c3 : pg_kindOf (tx_at c N a) < 0
    · rw [if_pos c3]; exact ⟨fun _ => Or.inl (k1.mp c3), fun _ => Eq.refl _⟩
    · rw [if_neg c3]
      refine ⟨fun q => absurd q (by decide), fun q => ?_⟩
      rcases q with q | q
      · exact absurd (k1.mpr q) c3
      · exact absurd q.1 c2
/-- which number of a port, by the letters behind its first one -/
def tu (f : Bool) (x : Int32) : Int32 := if f = false then (if 4 ≤ x then (((x - 4) / 2) - ((x - 4) / 2) / 3 * 3) else (-10001)) else (-10001)
def tlo (f : Bool) (x : Int32) : Int32 := if tu f x = 0 then 1 else 0
def thi (f : Bool) (x : Int32) : Int32 := if tu f x = 2 then 63 else 99
/-- a letter behind the first one -/
theorem pf_r {st : tt_St} {c : Nat → Int32} {N a n r : Nat} (h : cx st c N a n) (f : Bool) (hf : f = decide (tx_at c N a = 102)) (hr : 1 ≤ r) (hN : a + r < N) : pg_fits st (nI (a + r)) = (if (if f = false then 23 else 7 : Int32) ≤ nI r then 0 else (if (tb_within (tx_at c N (a + r)) 48 57) = 0 then 0 else (if (nI (r - 1) - nI (r - 1) / 2 * 2) = 0 then (if thi f (nI (r - 1)) < (10 * (tx_at c N (a + r) - 48)) then 0 else 1) else (tb_within ((10 * (tx_at c N (a + r - 1) - 48)) + (tx_at c N (a + r) - 48)) (tlo f (nI (r - 1))) (thi f (nI (r - 1))))))) := by
  have hN96 := h.2.1
  have e1 : nI (a + r) - nI a = nI r := by rw [← nI_add, Int32.add_comm, Int32.add_sub_cancel]
  have e2 : nI r - 1 = nI (r - 1) := by
    obtain ⟨i, rfl⟩ : ∃ i, r = i + 1 := ⟨r - 1, by omega⟩
    rw [nI_pred]; rfl
  have e3 : nI (r - 1) + 1 = nI r := by rw [nI_1, show r - 1 + 1 = r from by omega]
  have e4 : nI (a + r) - 1 = nI (a + r - 1) := by
    obtain ⟨i, rfl⟩ : ∃ i, r = i + 1 := ⟨r - 1, by omega⟩
    rw [show a + (i + 1) = (a + i) + 1 from rfl, nI_pred]; rfl
  have ne : ¬ nI (a + r) = nI a := fun q => by
    have := congrArg Int32.toNatClampNeg q
    rw [nI_clamp (by omega), nI_clamp (by omega)] at this
    omega
  rw [pg_fits, h.2.2.2.2.1, if_neg ne, e1, e2, e3, e4, nI_clamp (by omega), nI_clamp (by omega), nI_clamp (by omega), cx_at h (by omega), cx_at h hN, cx_at h (by omega)]
  cases f with
  | false =>
    have nc : ¬ tx_at c N a = 102 := by simpa using hf.symm
    simp only [if_neg nc, tlo, thi, tu, if_true]
  | true =>
    have nc : tx_at c N a = 102 := by simpa using hf.symm
    have z1 : ¬ (1 : Int32) = 0 := by decide
    have z2 : ¬ true = false := by decide
    simp only [if_pos nc, if_neg z1, if_neg z2, tlo, thi, tu]

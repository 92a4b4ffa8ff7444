/-! ids of ports and waves -/
def tt_wv (o j : Nat) : Nat := 25 + 3 * (o - 9) + j
def tt_po (o j : Nat) : Nat := 9 + 4 * (o - 3) + j
theorem tt_po_rng {o : Nat} (h : tt_ci o = 1) : 9 ≤ o ∧ o < 17 := by
  have h1 : o < 76 := tt_ci_lt (by omega)
  have key : ∀ o : Fin 76, tt_ci o.val = 1 → 9 ≤ o.val ∧ o.val < 17 := by decide +kernel
  exact key ⟨o, h1⟩ h
theorem tt_se_rng {o : Nat} (h : tt_ci o = 2) : o = 3 ∨ o = 4 := by
  have h1 : o < 76 := tt_ci_lt (by omega)
  have key : ∀ o : Fin 76, tt_ci o.val = 2 → o.val = 3 ∨ o.val = 4 := by decide +kernel
  exact key ⟨o, h1⟩ h
theorem tt_ci_po {o : Nat} (h : 9 ≤ o) (h2 : o < 17) : tt_ci o = 1 := by
  have key : ∀ o : Fin 17, 9 ≤ o.val → tt_ci o.val = 1 := by decide +kernel
  exact key ⟨o, h2⟩ h
theorem tt_ci_wv {o : Nat} (h : 25 ≤ o) (h2 : o < 49) : tt_ci o = 3 := by
  have key : ∀ o : Fin 49, 25 ≤ o.val → tt_ci o.val = 3 := by decide +kernel
  exact key ⟨o, h2⟩ h
theorem tt_R_po {o : Nat} (h : tt_ci o = 1) : tt_R o 5 = o + 8 := by
  have := tt_po_rng h
  rw [tt_R, if_neg (by omega), if_pos (by omega)]
theorem tt_R_se {o : Nat} (h : tt_ci o = 2) : tt_R o 0 = o + 2 := by
  rcases tt_se_rng h with rfl | rfl <;> rfl
theorem tt_ar_po {o : Nat} (h : tt_ci o = 1) : tt_ci (o + 8) = 9 ∧ o + 8 < 76 ∧ tt_at (o + 8) = 3 ∧ tt_len (o + 8) = 3 := by
  have h1 := tt_po_rng h
  have key : ∀ o : Fin 17, 9 ≤ o.val → tt_ci (o.val + 8) = 9 ∧ o.val + 8 < 76 ∧ tt_at (o.val + 8) = 3 ∧ tt_len (o.val + 8) = 3 := by decide +kernel
  exact key ⟨o, h1.2⟩ h1.1
theorem tt_ar_se {o : Nat} (h : tt_ci o = 2) : tt_ci (o + 2) = 9 ∧ o + 2 < 76 ∧ tt_at (o + 2) = 2 ∧ tt_len (o + 2) = 4 := by
  rcases tt_se_rng h with rfl | rfl <;> exact ⟨rfl, by decide, rfl, rfl⟩
theorem tt_wv_RA {o j : Nat} (h : tt_ci o = 1) : tt_RA (o + 8) j = tt_wv o j := by
  have := tt_po_rng h
  rw [tt_RA, if_neg (by omega), if_neg (by omega), tt_wv]
  omega
theorem tt_po_RA {o j : Nat} (h : tt_ci o = 2) : tt_RA (o + 2) j = tt_po o j := by
  rcases tt_se_rng h with rfl | rfl
  · rw [tt_RA, if_pos rfl, tt_po]
  · rw [tt_RA, if_neg (by omega), if_pos rfl, tt_po]
theorem tt_inN {i : Int32} {n : Nat} (h : vp_in i n) : i.toNatClampNeg < n := by
  unfold vp_in at h
  omega
theorem tt_wv_ci {o : Nat} {i : Int32} (h : tt_ci o = 1) (hb : vp_in i 3) : tt_ci (tt_wv o i.toNatClampNeg) = 3 := by
  have h1 := tt_po_rng h
  have h2 := tt_inN hb
  exact tt_ci_wv (by unfold tt_wv; omega) (by unfold tt_wv; omega)
theorem tt_po_ci {o : Nat} {i : Int32} (h : tt_ci o = 2) (hb : vp_in i 4) : tt_ci (tt_po o i.toNatClampNeg) = 1 := by
  have h2 := tt_inN hb
  rcases tt_se_rng h with rfl | rfl
  · exact tt_ci_po (by unfold tt_po; omega) (by unfold tt_po; omega)
  · exact tt_ci_po (by unfold tt_po; omega) (by unfold tt_po; omega)
theorem tt_ci_5 {i : Int32} (hb : vp_in i 4) : tt_ci (9 + i.toNatClampNeg) = 1 := by
  have h2 := tt_inN hb
  exact tt_ci_po (by omega) (by omega)
theorem tt_ci_6 {i : Int32} (hb : vp_in i 4) : tt_ci (13 + i.toNatClampNeg) = 1 := by
  have h2 := tt_inN hb
  exact tt_ci_po (by omega) (by omega)
/-! numbers -/
theorem tt_lt {a b : Int32} : a < b ↔ a.toInt < b.toInt := Int32.lt_iff_toInt_lt
theorem tt_le {a b : Int32} : a ≤ b ↔ a.toInt ≤ b.toInt := Int32.le_iff_toInt_le
theorem tt_eq {a b : Int32} : a = b ↔ a.toInt = b.toInt := Int32.toInt_inj.symm
theorem tt_rg (a : Int32) : -2147483648 ≤ a.toInt ∧ a.toInt ≤ 2147483647 := by
  have h1 := Int32.le_toInt a
  have h2 := Int32.toInt_lt a
  omega
theorem tt_add {a b : Int32} (h1 : -2147483648 ≤ a.toInt + b.toInt) (h2 : a.toInt + b.toInt ≤ 2147483647) : (a + b).toInt = a.toInt + b.toInt := by
  rw [Int32.toInt_add, Int.bmod_def]; omega
theorem tt_sub {a b : Int32} (h1 : -2147483648 ≤ a.toInt - b.toInt) (h2 : a.toInt - b.toInt ≤ 2147483647) : (a - b).toInt = a.toInt - b.toInt := by
  rw [Int32.toInt_sub, Int.bmod_def]; omega
theorem tt_mul {a b : Int32} (h1 : -2147483648 ≤ a.toInt * b.toInt) (h2 : a.toInt * b.toInt ≤ 2147483647) : (a * b).toInt = a.toInt * b.toInt := by
  rw [Int32.toInt_mul, Int.bmod_def]; omega
theorem tt_ti_nI {n : Nat} (h : n < 2147483648) : (nI n).toInt = (n : Int) := nI_toInt h
theorem tt_clamp {a : Int32} : a.toNatClampNeg = a.toInt.toNat := rfl
theorem tt_nIc {y : Int32} (h : 0 ≤ y.toInt) : nI y.toNatClampNeg = y := by
  rw [tt_eq, nI_toInt (by rw [tt_clamp]; have := tt_rg y; omega), tt_clamp]
  omega
theorem tt_end {y : Int32} {j : Nat} (h : 0 ≤ y.toInt) (hj : y.toNatClampNeg ≤ j) (hj2 : j < 2147483648) : y ≤ nI j := by
  rw [tt_le, nI_toInt hj2]; rw [tt_clamp] at hj; omega
theorem tt_stay {y : Int32} {j : Nat} (hj : j < y.toNatClampNeg) : ¬ y ≤ nI j := by
  have := tt_rg y
  rw [tt_clamp] at hj
  rw [tt_le, nI_toInt (by omega)]; omega
theorem tt_nb {v : Int32} (h : v = 0 ∨ v = 1) : narrow .boolean (.int v) = .int v := by
  rcases h with rfl | rfl <;> rfl
theorem tt_fb {v : Int32} (h : v = 0 ∨ v = 1) : fits .boolean (.int v) = true := by
  rcases h with rfl | rfl <;> rfl
theorem tt_bool {c : Prop} [Decidable c] {a b : Int32} (h1 : a = 0 ∨ a = 1) (h2 : b = 0 ∨ b = 1) : (if c then a else b) = 0 ∨ (if c then a else b) = 1 := by
  by_cases h : c
  · rw [if_pos h]; exact h1
  · rw [if_neg h]; exact h2
/-- the rest of a division is the rest -/
theorem tt_div {x d : Int32} (hd : 0 < d.toInt) : (x / d).toInt = x.toInt.tdiv d.toInt := by
  have h := tt_rg x
  rw [Int32.toInt_div]
  have h1 : -2147483648 ≤ x.toInt.tdiv d.toInt ∧ x.toInt.tdiv d.toInt ≤ 2147483647 := by
    rcases Int.le_total 0 x.toInt with q | q
    · have a1 := Int.tdiv_nonneg q (Int.le_of_lt hd)
      have a2 := Int.tdiv_le_self (b := d.toInt) q
      omega
    · have a1 := Int.tdiv_nonneg (a := -x.toInt) (b := d.toInt) (by omega) (Int.le_of_lt hd)
      have a2 := Int.tdiv_le_self (a := -x.toInt) (b := d.toInt) (by omega)
      rw [Int.neg_tdiv] at a1 a2
      omega
  rw [Int.bmod_def]; omega
theorem tt_rem {x d : Int32} (hd : 0 < d.toInt) : (x - x / d * d).toInt = x.toInt.tmod d.toInt := by
  have h := tt_rg x
  have hdr := tt_rg d
  have e := Int.tmod_def x.toInt d.toInt
  have h1 : -d.toInt < x.toInt.tmod d.toInt ∧ x.toInt.tmod d.toInt < d.toInt := by
    rcases Int.le_total 0 x.toInt with q | q
    · have a1 := Int.tmod_nonneg d.toInt q
      have a2 := Int.tmod_lt_of_pos x.toInt hd
      omega
    · have a1 := Int.tmod_nonneg d.toInt (a := -x.toInt) (by omega)
      have a2 := Int.tmod_lt_of_pos (-x.toInt) hd
      rw [Int.neg_tmod] at a1 a2
      omega
  have hs : 0 ≤ x.toInt → 0 ≤ x.toInt.tmod d.toInt := fun q => Int.tmod_nonneg d.toInt q
  have hs2 : x.toInt ≤ 0 → x.toInt.tmod d.toInt ≤ 0 := fun q => by
    have a1 := Int.tmod_nonneg d.toInt (a := -x.toInt) (by omega)
    rw [Int.neg_tmod] at a1
    omega
  have hb : -2147483648 ≤ d.toInt * x.toInt.tdiv d.toInt ∧ d.toInt * x.toInt.tdiv d.toInt ≤ 2147483647 := by
    rcases Int.le_total 0 x.toInt with q | q
    · have := hs q; omega
    · have := hs2 q; omega
  have hm : (x / d * d).toInt = d.toInt * x.toInt.tdiv d.toInt := by
    rw [tt_mul]
    · rw [tt_div hd, Int.mul_comm]
    · rw [tt_div hd, Int.mul_comm]; exact hb.1
    · rw [tt_div hd, Int.mul_comm]; exact hb.2
  rw [tt_sub]
  · rw [hm]; omega
  · rw [hm]; omega
  · rw [hm]; omega
theorem tt_remb {x d : Int32} (hd : 0 < d.toInt) : -d.toInt < (x - x / d * d).toInt ∧ (x - x / d * d).toInt < d.toInt := by
  rw [tt_rem hd]
  rcases Int.le_total 0 x.toInt with q | q
  · have a1 := Int.tmod_nonneg d.toInt q
    have a2 := Int.tmod_lt_of_pos x.toInt hd
    omega
  · have a1 := Int.tmod_nonneg d.toInt (a := -x.toInt) (by omega)
    have a2 := Int.tmod_lt_of_pos (-x.toInt) hd
    rw [Int.neg_tmod] at a1 a2
    omega
/-- (x % d + d) % d lies in 0 .. d-1 -/
theorem tt_wrap {x d : Int32} (hd : 0 < d.toInt) (hd2 : d.toInt ≤ 1000000000) : 0 ≤ ((x - x / d * d) + d - ((x - x / d * d) + d) / d * d).toInt ∧ ((x - x / d * d) + d - ((x - x / d * d) + d) / d * d).toInt < d.toInt := by
  have h1 := tt_remb (x := x) hd
  have h2 : ((x - x / d * d) + d).toInt = (x - x / d * d).toInt + d.toInt := tt_add (by omega) (by omega)
  have h3 := tt_remb (x := (x - x / d * d) + d) hd
  refine ⟨?_, h3.2⟩
  rw [tt_rem hd]
  exact Int.tmod_nonneg _ (by omega)
theorem tt_in {x : Int32} {n : Nat} (h1 : 0 ≤ x.toInt) (h2 : x.toInt < n) : vp_in x n := vp_in_iff.mpr ⟨h1, h2⟩
theorem tt_in_lt {x : Int32} {n : Nat} (h : vp_in x n) : 0 ≤ x.toInt ∧ x.toInt < n := vp_in_iff.mp h
theorem tt_cle {y : Int32} {n : Nat} (h : y.toInt ≤ n) : y.toNatClampNeg ≤ n := by
  rw [tt_clamp]; omega
theorem tt_ix3 {p w q : Int32} (hp : vp_in p 4) (hw : vp_in w 3) (hq : vp_in q 3) : vp_in (((9 * p) + (3 * w)) + q) 36 := by
  obtain ⟨a, ha, rfl⟩ := vp_in_of hp (by decide)
  obtain ⟨b, hb, rfl⟩ := vp_in_of hw (by decide)
  obtain ⟨c, hc, rfl⟩ := vp_in_of hq (by decide)
  have e : ((9 * nI a) + (3 * nI b)) + nI c = nI (9 * a + 3 * b + c) := by
    rw [← nI_add, ← nI_add, ← pk_mul, ← pk_mul]; rfl
  rw [e]
  exact vp_in_nI (by omega) (by omega)
theorem tt_ix16 {a : Int32} (ha : vp_in a 1024) : vp_in (a / 16) 65 ∧ vp_in (a / 16 + 1) 65 := by
  obtain ⟨x, hx, rfl⟩ := vp_in_of ha (by decide)
  have e : nI x / 16 = nI (x / 16) := pk_div (by omega) (by decide) (by decide)
  rw [e, nI_1]
  exact ⟨vp_in_nI (by omega) (by omega), vp_in_nI (by omega) (by omega)⟩
theorem tt_dayE {d : Int32} {j : Nat} (hd : vp_in d 10) (h : 144 ≤ j) (h2 : j < 100000) : 144 * (d + 1) ≤ (144 * d) + nI j := by
  obtain ⟨x, hx, rfl⟩ := vp_in_of hd (by decide)
  have e1 : (144 : Int32) * (nI x + 1) = nI (144 * (x + 1)) := by rw [nI_1, ← pk_mul]; rfl
  have e2 : (144 : Int32) * nI x + nI j = nI (144 * x + j) := by rw [← nI_add, ← pk_mul]; rfl
  rw [e1, e2]
  exact nI_le (by omega) (by omega)
theorem tt_dayS {d : Int32} {j : Nat} (hd : vp_in d 10) (h : j < 144) : ¬ 144 * (d + 1) ≤ (144 * d) + nI j := by
  obtain ⟨x, hx, rfl⟩ := vp_in_of hd (by decide)
  have e1 : (144 : Int32) * (nI x + 1) = nI (144 * (x + 1)) := by rw [nI_1, ← pk_mul]; rfl
  have e2 : (144 : Int32) * nI x + nI j = nI (144 * x + j) := by rw [← nI_add, ← pk_mul]; rfl
  rw [e1, e2]
  exact nI_ge (by omega) (by omega)
theorem tt_offE {d : Int32} {j : Nat} (hd : vp_in d 1440) (h : 144 ≤ j) (h2 : j < 100000) : d + 144 ≤ d + nI j := by
  obtain ⟨x, hx, rfl⟩ := vp_in_of hd (by decide)
  have e1 : nI x + (144 : Int32) = nI (x + 144) := by rw [← nI_add]; rfl
  rw [e1, nI_add]
  exact nI_le (by omega) (by omega)
theorem tt_offS {d : Int32} {j : Nat} (hd : vp_in d 1440) (h : j < 144) : ¬ d + 144 ≤ d + nI j := by
  obtain ⟨x, hx, rfl⟩ := vp_in_of hd (by decide)
  have e1 : nI x + (144 : Int32) = nI (x + 144) := by rw [← nI_add]; rfl
  rw [e1, nI_add]
  exact nI_ge (by omega) (by omega)
theorem tt_k1 {a : Int32} (h : 0 ≤ a.toInt ∧ a.toInt ≤ 1000) : 0 ≤ (a + 1).toInt := by
  have e : (1 : Int32).toInt = 1 := rfl
  rw [tt_add] <;> rw [e] <;> omega
theorem tt_addn {a b : Int32} {n : Int} (hb : b.toInt = n) (h1 : -2147483648 ≤ a.toInt + n) (h2 : a.toInt + n ≤ 2147483647) : (a + b).toInt = a.toInt + n := by
  rw [tt_add] <;> rw [hb] <;> omega
theorem tt_w36 {x : Int32} {j : Nat} (hw : 0 ≤ x.toInt ∧ x.toInt ≤ 33) (hj : j < 3) : vp_in (x + nI j) 36 := by
  have e : (x + nI j).toInt = x.toInt + (j : Int) := tt_addn (nI_toInt (by omega)) (by omega) (by omega)
  exact tt_in (by omega) (by omega)
theorem tt_w33 {p w : Int32} (hp : vp_in p 4) (hw : vp_in w 3) : 0 ≤ ((9 * p) + (3 * w)).toInt ∧ ((9 * p) + (3 * w)).toInt ≤ 33 := by
  obtain ⟨a, ha, rfl⟩ := vp_in_of hp (by decide)
  obtain ⟨b, hb, rfl⟩ := vp_in_of hw (by decide)
  have e : (9 * nI a) + (3 * nI b) = nI (9 * a + 3 * b) := by
    rw [← nI_add, ← pk_mul, ← pk_mul]; rfl
  rw [e, nI_toInt (by omega)]
  omega
theorem tt_k36 {p w : Int32} (hp : vp_in p 4) (hw : vp_in w 3) : vp_in ((9 * p) + (3 * w)) 36 ∧ vp_in (((9 * p) + (3 * w)) + 1) 36 ∧ vp_in (((9 * p) + (3 * w)) + 2) 36 := by
  have h := tt_w33 hp hw
  have e1 : (((9 * p) + (3 * w)) + 1).toInt = ((9 * p) + (3 * w)).toInt + 1 := tt_addn rfl (by omega) (by omega)
  have e2 : (((9 * p) + (3 * w)) + 2).toInt = ((9 * p) + (3 * w)).toInt + 2 := tt_addn rfl (by omega) (by omega)
  exact ⟨tt_in (by omega) (by omega), tt_in (by omega) (by omega), tt_in (by omega) (by omega)⟩
theorem tt_tk {p w : Int32} {j : Nat} (h : vp_in p 4 ∧ vp_in w 3) (hj : j < 100) : (((9 * p) + (3 * w)) + nI j).toInt = 9 * p.toInt + 3 * w.toInt + (j : Int) ∧ ((9 * p) + 6).toInt = 9 * p.toInt + 6 ∧ ((((9 * p) + (3 * w)) + nI j) + 3).toInt = 9 * p.toInt + 3 * w.toInt + (j : Int) + 3 ∧ 0 ≤ p.toInt ∧ p.toInt < 4 ∧ 0 ≤ w.toInt ∧ w.toInt < 3 ∧ w.toNatClampNeg = w.toInt.toNat := by
  obtain ⟨a, ha, rfl⟩ := vp_in_of h.1 (by decide)
  obtain ⟨b, hb, rfl⟩ := vp_in_of h.2 (by decide)
  have e : ((9 * nI a) + (3 * nI b)) + nI j = nI (9 * a + 3 * b + j) := by
    rw [← nI_add, ← nI_add, ← pk_mul, ← pk_mul]; rfl
  have e2 : (9 * nI a) + 6 = nI (9 * a + 6) := by rw [← nI_add, ← pk_mul]; rfl
  have e3 : nI (9 * a + 3 * b + j) + 3 = nI (9 * a + 3 * b + j + 3) := by rw [← nI_add (9 * a + 3 * b + j) 3]; rfl
  rw [e, e2, e3, nI_toInt (by omega), nI_toInt (by omega), nI_toInt (by omega), nI_toInt (by omega), nI_toInt (by omega)]
  refine ⟨by omega, by omega, by omega, by omega, by omega, by omega, by omega, by rw [nI_clamp (by omega)]; rfl⟩
theorem tt_tkE {p w : Int32} {j : Nat} (h : vp_in p 4 ∧ vp_in w 3) (hj : 6 - 3 * w.toNatClampNeg ≤ j) (h2 : j < 100) : (9 * p) + 6 ≤ ((9 * p) + (3 * w)) + nI j := by
  obtain ⟨e1, e2, e3, a1, a2, a3, a4, a5⟩ := tt_tk h h2
  rw [tt_le, e1, e2]
  omega
theorem tt_tkS {p w : Int32} {j : Nat} (h : vp_in p 4 ∧ vp_in w 3) (hj : j < 6 - 3 * w.toNatClampNeg) : ¬ (9 * p) + 6 ≤ ((9 * p) + (3 * w)) + nI j := by
  obtain ⟨e1, e2, e3, a1, a2, a3, a4, a5⟩ := tt_tk (j := j) h (by omega)
  rw [tt_le, e1, e2]
  omega
theorem tt_tkI {p w : Int32} {j : Nat} (h : vp_in p 4 ∧ vp_in w 3) (hj : j < 6 - 3 * w.toNatClampNeg) : vp_in (((9 * p) + (3 * w)) + nI j) 36 ∧ vp_in ((((9 * p) + (3 * w)) + nI j) + 3) 36 := by
  obtain ⟨e1, e2, e3, a1, a2, a3, a4, a5⟩ := tt_tk (j := j) h (by omega)
  exact ⟨tt_in (by omega) (by omega), tt_in (by omega) (by omega)⟩

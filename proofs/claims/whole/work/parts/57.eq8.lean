/-! how high it can be: a rough bound is enough, since a wave's part is a hundredth of a number -/
theorem hb_fd (v : Int32) : -21474837 ≤ (ma_floorDiv v 100).toInt ∧ (ma_floorDiv v 100).toInt ≤ 21474836 := by
  have hv := tt_rg v
  rw [eq_fd (by decide), eq_by (by decide), show (100 : Int32).toInt = 100 from rfl]
  omega
theorem hb_gives (st : tt_St) (o : Nat) (t : Int32) : -21474837 ≤ (wa_givesAt st o t).toInt ∧ (wa_givesAt st o t).toInt ≤ 21474836 := by
  rw [wa_givesAt]; exact hb_fd _
theorem hb_sum_l (st : tt_St) (o : Nat) (t : Int32) : ∀ (n j : Nat) (x : Int32) (b : Int), n ≤ 3 → -b ≤ x.toInt ∧ x.toInt ≤ b → b ≤ 1000000 + 22000000 * (3 - n : Int) → -1000000 - 66000000 ≤ (po_sumAt_l10 st o t n j x).toInt ∧ (po_sumAt_l10 st o t n j x).toInt ≤ 1000000 + 66000000 := by
  intro n
  induction n with
  | zero => intro j x b _ h hb; rw [po_sumAt_l10]; omega
  | succ n ih =>
    intro j x b hn h hb
    have hg := hb_gives st (tt_wv o (Int32.toNatClampNeg (nI j))) t
    rw [po_sumAt_l10]
    have e : (x + wa_givesAt st (tt_wv o (Int32.toNatClampNeg (nI j))) t).toInt = x.toInt + (wa_givesAt st (tt_wv o (Int32.toNatClampNeg (nI j))) t).toInt := by rw [tt_add] <;> omega
    exact ih _ _ (b + 22000000) (by omega) (by rw [e]; omega) (by omega)
theorem hb_10 {x : Int32} (h : 0 ≤ x.toInt ∧ x.toInt ≤ 99) : 0 ≤ (10 * x).toInt ∧ (10 * x).toInt ≤ 990 := by
  have e : (10 : Int32).toInt = 10 := rfl
  rw [tt_mul] <;> rw [e] <;> omega
theorem hb_sum {st : tt_St} {o : Nat} (h3 : (tt_I st o 6).toNatClampNeg ≤ 3) (h1 : 0 ≤ (tt_I st o 1).toInt ∧ (tt_I st o 1).toInt ≤ 99) (t : Int32) : -67000000 ≤ (po_sumAt st o t).toInt ∧ (po_sumAt st o t).toInt ≤ 67000000 := by
  rw [po_sumAt]
  have h := hb_10 h1
  have := hb_sum_l st o t (tt_I st o 6).toNatClampNeg 0 (10 * tt_I st o 1) 1000000 h3 (by omega) (by omega)
  omega
theorem hb_max {a b : Int32} {x y : Int} (ha : x ≤ a.toInt ∧ a.toInt ≤ y) (hb : x ≤ b.toInt ∧ b.toInt ≤ y) : x ≤ (ma_max a b).toInt ∧ (ma_max a b).toInt ≤ y := by
  rw [eq_maxI]; omega
theorem hb_own_l {st : tt_St} {o : Nat} (h3 : (tt_I st o 6).toNatClampNeg ≤ 3) (h1 : 0 ≤ (tt_I st o 1).toInt ∧ (tt_I st o 1).toInt ≤ 99) (t x3 : Int32) : ∀ (n j : Nat) (x : Int32), -68000000 ≤ x.toInt ∧ x.toInt ≤ 68000000 → -68000000 ≤ (po_ownHeightAt_l66 st o t x3 n j x).toInt ∧ (po_ownHeightAt_l66 st o t x3 n j x).toInt ≤ 68000000 := by
  intro n
  induction n with
  | zero => intro j x h; rw [po_ownHeightAt_l66]; exact h
  | succ n ih =>
    intro j x h
    rw [po_ownHeightAt_l66]
    have := hb_sum h3 h1 (t - nI j)
    exact ih _ _ (hb_max h (by omega))
theorem hb_own {st : tt_St} {o : Nat} (h3 : (tt_I st o 6).toNatClampNeg ≤ 3) (h1 : 0 ≤ (tt_I st o 1).toInt ∧ (tt_I st o 1).toInt ≤ 99) (h2 : 0 ≤ (tt_I st o 2).toInt ∧ (tt_I st o 2).toInt ≤ 99) (t : Int32) : -68000000 ≤ (po_ownHeightAt st o t).toInt ∧ (po_ownHeightAt st o t).toInt ≤ 68000000 := by
  rw [po_ownHeightAt]
  have hs := hb_sum h3 h1 t
  have ha : (po_sumAt st o t + tt_I st o 2).toInt = (po_sumAt st o t).toInt + (tt_I st o 2).toInt := by rw [tt_add] <;> omega
  have hx : -68000000 ≤ (if (tt_I st o 0) = 4 then (if (po_isOddDay t) = 0 then (po_sumAt st o t) else ((po_sumAt st o t) + (tt_I st o 2)) : Int32) else (po_sumAt st o t) : Int32).toInt ∧ (if (tt_I st o 0) = 4 then (if (po_isOddDay t) = 0 then (po_sumAt st o t) else ((po_sumAt st o t) + (tt_I st o 2)) : Int32) else (po_sumAt st o t) : Int32).toInt ≤ 68000000 := by
    by_cases c : tt_I st o 0 = 4
    · rw [if_pos c]
      by_cases c1 : po_isOddDay t = 0
      · rw [if_pos c1]; omega
      · rw [if_neg c1]; omega
    · rw [if_neg c]; omega
  refine hb_own_l h3 h1 _ _ _ _ _ ?_
  by_cases c : po_isA st o 1 = 0
  · rw [if_pos c]; exact hx
  · rw [if_neg c]
    have := hb_10 h2
    exact hb_max hx (by omega)
theorem rl.hb {k : Nat} {sc sm : tt_St} (h : rl k sc sm) {p : Nat} (hp : p < (tt_I sc 3 1).toNatClampNeg) (t : Int32) : -100000000 ≤ (mo_heightAt sm (nI p) t).toInt ∧ (mo_heightAt sm (nI p) t).toInt ≤ 100000000 := by
  rw [← h.height hp, se_heightAt]
  have h4 := h.many.1
  have hpo : ∀ j, tt_po 3 j = 9 + j := fun j => by unfold tt_po; omega
  have own : ∀ q, q < (tt_I sc 3 1).toNatClampNeg → ∀ t, -68000000 ≤ (po_ownHeightAt sc (9 + q) t).toInt ∧ (po_ownHeightAt sc (9 + q) t).toInt ≤ 68000000 := fun q hq t => by
    obtain ⟨_, g⟩ := h.port hq
    exact hb_own (h.w3 (tt_ci_po (by omega) (by omega))) g.2.1 g.2.2.1 t
  by_cases c : se_knows sc 3 (nI p) = 0
  · rw [if_pos c]; decide
  · rw [if_neg c, nI_clamp (by omega)]
    simp only [hpo]
    by_cases c1 : tt_I sc (9 + p) 0 = 3
    · rw [if_pos c1]
      have hm := hb_10 (h.port hp).2.2.1
      have hf := hb_fd (po_ownHeightAt sc (9 + Int32.toNatClampNeg 0) (t - tt_I sc (9 + p) 2) * tt_I sc (9 + p) 3)
      rw [tt_add] <;> omega
    · rw [if_neg c1]
      have := own p hp t
      omega
/-! tide -/
def sg (x : Int) : Int32 := if x = 0 then 0 else if 0 < x then 1 else -1
theorem sg_compare (a b : Int32) : in_compare a b = sg (a.toInt - b.toInt) := by
  rw [in_compare, sg]
  by_cases c : b ≤ a
  · rw [if_pos c]
    by_cases c1 : a = b
    · rw [if_pos c1, if_pos (by rw [c1]; omega)]
    · have c2 := c1
      rw [tt_eq] at c2
      rw [tt_le] at c
      rw [if_neg c1, if_neg (by omega), if_pos (by omega)]
  · rw [if_neg c]
    rw [tt_le] at c
    rw [if_neg (by omega), if_neg (by omega)]
theorem eq_then {s1 sm : tt_St} {a t : Int32} {j : Nat} (hj : 1 ≤ j ∧ j ≤ 144) (hb : ∀ t, -100000000 ≤ (mo_heightAt sm a t).toInt ∧ (mo_heightAt sm a t).toInt ≤ 100000000) (hrow : ∀ i, i ≤ 144 → tt_A s1 7 (j + i) = mo_heightAt sm a (t + nI i)) (h0 : tt_A s1 7 j = mo_heightAt sm a t) : ∀ (n i : Nat), 1 ≤ i → i + n = 144 → sg ((tt_A s1 7 (Int32.toNatClampNeg (tb_turnAt_l34 s1 (nI j) (n + 1) (nI (j + i))))).toInt - (mo_heightAt sm a t).toInt) = sg (mo_then_l10 sm a t (mo_heightAt sm a t) (n + 1) i).toInt := by
  intro n
  induction n with
  | zero =>
    intro i hi hn
    have hbi := hb (t + nI i)
    have hbt := hb t
    have es : (mo_heightAt sm a (t + nI i) - mo_heightAt sm a t).toInt = (mo_heightAt sm a (t + nI i)).toInt - (mo_heightAt sm a t).toInt := by rw [tt_sub] <;> omega
    have hle : nI j + 144 ≤ nI (j + i) := by rw [show (144 : Int32) = nI 144 from rfl, nI_add]; exact nI_le (by omega) (by omega)
    rw [tb_turnAt_l34, if_pos hle, nI_clamp (by omega), hrow i (by omega), mo_then_l10]
    by_cases c : mo_heightAt sm a (t + nI i) = mo_heightAt sm a t
    · rw [if_pos c, c, mo_then_l10, Int.sub_self]; rfl
    · rw [if_neg c, es]
  | succ n ih =>
    intro i hi hn
    have hbi := hb (t + nI i)
    have hbt := hb t
    have es : (mo_heightAt sm a (t + nI i) - mo_heightAt sm a t).toInt = (mo_heightAt sm a (t + nI i)).toInt - (mo_heightAt sm a t).toInt := by rw [tt_sub] <;> omega
    have hle : ¬ nI j + 144 ≤ nI (j + i) := by rw [show (144 : Int32) = nI 144 from rfl, nI_add]; exact nI_ge (by omega) (by omega)
    rw [tb_turnAt_l34, if_neg hle, nI_clamp (by omega), nI_clamp (by omega), hrow i (by omega), h0, mo_then_l10]
    by_cases c : mo_heightAt sm a (t + nI i) = mo_heightAt sm a t
    · rw [if_pos c, if_pos c, nI_1]
      exact ih (i + 1) (by omega) (by omega)
    · rw [if_neg c, if_neg c, es, nI_clamp (by omega), hrow i (by omega)]
theorem eq_turns {s1 sm : tt_St} {a t : Int32} {j : Nat} (hj : 1 ≤ j ∧ j ≤ 144) (hb : ∀ t, -100000000 ≤ (mo_heightAt sm a t).toInt ∧ (mo_heightAt sm a t).toInt ≤ 100000000) (hrow : ∀ i, i ≤ 144 → tt_A s1 7 (j + i) = mo_heightAt sm a (t + nI i)) (h0 : tt_A s1 7 j = mo_heightAt sm a t) (h1 : tt_A s1 7 (j - 1) = mo_heightAt sm a (t - 1)) : (tb_turnAt s1 (nI j) = 0 ∧ mo_turnsAt sm a t = -10001) ∨ (tb_turnAt s1 (nI j) = 1 ∧ mo_turnsAt sm a t = 1) ∨ (tb_turnAt s1 (nI j) = -1 ∧ mo_turnsAt sm a t = 0) := by
  have hbi := hb (t - 1)
  have hbt := hb t
  have e0 : (0 : Int32).toInt = 0 := rfl
  have e := eq_then hj hb hrow h0 143 1 (by omega) (by omega)
  have es : (mo_heightAt sm a t - mo_heightAt sm a (t - 1)).toInt = (mo_heightAt sm a t).toInt - (mo_heightAt sm a (t - 1)).toInt := by rw [tt_sub] <;> omega
  have hw : ¬ tb_within (nI j) 1 144 = 0 := by
    rw [tb_within_1, nI_toInt (by omega), show (1 : Int32).toInt = 1 from rfl, show (144 : Int32).toInt = 144 from rfl]; omega
  have hpr : nI j - 1 = nI (j - 1) := by
    obtain ⟨i, rfl⟩ : ∃ i, j = i + 1 := ⟨j - 1, by omega⟩
    rw [nI_pred]; rfl
  rw [tb_turnAt, if_neg hw, hpr, nI_clamp (by omega), nI_clamp (by omega), h0, h1, mo_turnsAt, mo_then]
  rw [nI_1, sg_compare, sg_compare, e]
  rw [← es]
  have hz : mo_heightAt sm a t = mo_heightAt sm a (t - 1) ↔ mo_heightAt sm a t - mo_heightAt sm a (t - 1) = 0 := by
    rw [tt_eq, tt_eq, es, e0]; omega
  generalize mo_heightAt sm a t - mo_heightAt sm a (t - 1) = r at hz ⊢
  generalize mo_then_l10 sm a t (mo_heightAt sm a t) (143 + 1) 1 = q
  by_cases c0 : r = 0
  · left; rw [if_pos (hz.mpr c0), if_pos c0]; exact ⟨rfl, rfl⟩
  · rw [if_neg (fun z => c0 (hz.mp z)), if_neg c0]
    have c0' := c0
    rw [tt_eq, e0] at c0'
    by_cases c1 : r ≤ 0
    · have c1' := c1
      rw [tt_le, e0] at c1'
      have n1 : ¬ 0 ≤ r := by rw [tt_le, e0]; omega
      have s1 : sg r.toInt = -1 := by rw [sg, if_neg (by omega), if_neg (by omega)]
      rw [if_pos c1, if_neg n1, s1]
      by_cases c2 : q ≤ 0
      · left
        have c2' := c2
        rw [tt_le, e0] at c2'
        rw [if_pos c2]
        refine ⟨if_neg ?_, rfl⟩
        rw [sg]
        by_cases c3 : q.toInt = 0
        · rw [if_pos c3]; decide
        · rw [if_neg c3, if_neg (by omega)]; decide
      · right; right
        have c2' := c2
        rw [tt_le, e0] at c2'
        rw [if_neg c2]
        refine ⟨if_pos ?_, rfl⟩
        rw [sg, if_neg (by omega), if_pos (by omega)]
    · have c1' := c1
      rw [tt_le, e0] at c1'
      have n1 : 0 ≤ r := by rw [tt_le, e0]; omega
      have s1 : sg r.toInt = 1 := by rw [sg, if_neg (by omega), if_pos (by omega)]
      rw [if_neg c1, if_pos n1, s1]
      by_cases c2 : 0 ≤ q
      · left
        have c2' := c2
        rw [tt_le, e0] at c2'
        rw [if_pos c2]
        refine ⟨if_neg ?_, rfl⟩
        rw [sg]
        by_cases c3 : q.toInt = 0
        · rw [if_pos c3]; decide
        · rw [if_neg c3, if_pos (by omega)]; decide
      · right; left
        have c2' := c2
        rw [tt_le, e0] at c2'
        rw [if_neg c2]
        refine ⟨if_pos ?_, rfl⟩
        rw [sg, if_neg (by omega), if_neg (by omega)]; rfl
theorem eq_place_l {s1 sm : tt_St} {a d g : Int32} (hg : ¬ g < 0) (ht : ∀ j, j < 144 → (tb_turnAt s1 (nI (j + 1)) = 0 ∧ mo_turnsAt sm a ((144 * d) + nI j) = -10001) ∨ (¬ tb_turnAt s1 (nI (j + 1)) = 0 ∧ ¬ mo_turnsAt sm a ((144 * d) + nI j) = -10001)) : ∀ (n j : Nat) (x y : Int32), j + n = 144 → y = g - x →
    (tb_placeOfTide_l4 s1 g n (j + 1) x = -10001 ∧ ∀ w, mo_tideNow_l10 sm a d g w n j y = -10101) ∨ (∃ i, i < 144 ∧ tb_placeOfTide_l4 s1 g n (j + 1) x = nI (i + 1) ∧ ¬ tb_turnAt s1 (nI (i + 1)) = 0 ∧ ∀ w, mo_tideNow_l10 sm a d g w n j y = (if w = 0 then ((144 * d) + nI i) else (if w = 1 then (mo_turnsAt sm a ((144 * d) + nI i)) else (mo_heightAt sm a ((144 * d) + nI i))))) := by
  intro n
  induction n with
  | zero => intro j x y _ _; left; exact ⟨rfl, fun w => rfl⟩
  | succ n ih =>
    intro j x y hj hy
    rw [tb_placeOfTide_l4]
    simp only [mo_tideNow_l10]
    simp only [if_neg hg]
    rcases ht j (by omega) with ⟨t1, t2⟩ | ⟨t1, t2⟩
    · simp only [if_pos t1, if_pos t2, Int32.sub_zero]
      exact ih (j + 1) x y (by omega) hy
    · simp only [if_neg t1, if_neg t2]
      by_cases c : x = g
      · have cy : y = 0 := by rw [hy, c, Int32.sub_self]
        simp only [if_pos c, if_pos cy]
        right
        exact ⟨j, by omega, rfl, t1, fun w => rfl⟩
      · have cy : ¬ y = 0 := by
          intro q
          apply c
          rw [hy] at q
          have := congrArg (· + x) q
          simp only [Int32.sub_add_cancel, Int32.zero_add] at this
          exact this.symm
        simp only [if_neg c, if_neg cy]
        refine ih (j + 1) (x + 1) (y - 1) (by omega) ?_
        rw [hy]
        grind
theorem eq_place_n {s1 : tt_St} {g : Int32} (hg : g < 0) : ∀ (n j : Nat) (x : Int32), j + n = 145 → 0 ≤ x.toInt ∧ x.toInt ≤ j → tb_placeOfTide_l4 s1 g n j x = -10001 := by
  have e0 : (0 : Int32).toInt = 0 := rfl
  have e1 : (1 : Int32).toInt = 1 := rfl
  rw [tt_lt, e0] at hg
  intro n
  induction n with
  | zero => intro j x _ _; rfl
  | succ n ih =>
    intro j x hj hx
    rw [tb_placeOfTide_l4]
    have ea : (x + 1).toInt = x.toInt + 1 := by rw [tt_add] <;> rw [e1] <;> omega
    rw [ih _ x (by omega) (by omega), ih _ (x + 1) (by omega) (by rw [ea]; omega), if_neg (show ¬ x = g from by rw [tt_eq]; omega)]
    exact ite_self _
theorem eq_tide_n {s1 sm : tt_St} {a d g : Int32} (hb : ∀ t, -100000000 ≤ (mo_heightAt sm a t).toInt ∧ (mo_heightAt sm a t).toInt ≤ 100000000) (hrow : ∀ i, i < 289 → tt_A s1 7 i = mo_heightAt sm a (((144 * d) - 1) + nI i)) :
    (tb_placeOfTide s1 g = -10001 ∧ ∀ w, mo_tideNow sm a d g w = -10101) ∨ (∃ i, i < 144 ∧ tb_placeOfTide s1 g = nI (i + 1) ∧ ¬ tb_turnAt s1 (nI (i + 1)) = 0 ∧ ∀ w, mo_tideNow sm a d g w = (if w = 0 then ((144 * d) + nI i) else (if w = 1 then (if tb_turnAt s1 (nI (i + 1)) ≤ 0 then 0 else 1) else tt_A s1 7 (i + 1)))) := by
  have tn : ∀ j, j < 144 → (tb_turnAt s1 (nI (j + 1)) = 0 ∧ mo_turnsAt sm a ((144 * d) + nI j) = -10001) ∨ (tb_turnAt s1 (nI (j + 1)) = 1 ∧ mo_turnsAt sm a ((144 * d) + nI j) = 1) ∨ (tb_turnAt s1 (nI (j + 1)) = -1 ∧ mo_turnsAt sm a ((144 * d) + nI j) = 0) := by
    intro j hj
    refine eq_turns (by omega) hb (fun i hi => ?_) ?_ ?_
    · rw [hrow _ (by omega), show j + 1 + i = (j + i) + 1 from by omega, sh_1, ← nI_add, Int32.add_assoc]
    · rw [hrow _ (by omega), sh_1]
    · rw [show j + 1 - 1 = j from rfl, hrow _ (by omega), sh_2]
  by_cases hg : g < 0
  · left
    refine ⟨eq_place_n hg 144 1 0 (by omega) (by decide), fun w => ?_⟩
    rw [mo_tideNow, show (144 : Nat) = 143 + 1 from rfl, mo_tideNow_l10, if_pos hg]
  · have ht : ∀ j, j < 144 → (tb_turnAt s1 (nI (j + 1)) = 0 ∧ mo_turnsAt sm a ((144 * d) + nI j) = -10001) ∨ (¬ tb_turnAt s1 (nI (j + 1)) = 0 ∧ ¬ mo_turnsAt sm a ((144 * d) + nI j) = -10001) := by
      intro j hj
      rcases tn j hj with ⟨t1, t2⟩ | ⟨t1, t2⟩ | ⟨t1, t2⟩
      · left; exact ⟨t1, t2⟩
      · right; rw [t1, t2]; decide
      · right; rw [t1, t2]; decide
    rcases eq_place_l hg ht 144 0 0 g (by omega) (by rw [Int32.sub_zero]) with q | ⟨i, hi, q1, q2, q3⟩
    · left; exact q
    · right
      refine ⟨i, hi, q1, q2, fun w => ?_⟩
      rw [mo_tideNow, q3, hrow (i + 1) (by omega), sh_1]
      rcases tn i hi with ⟨t1, t2⟩ | ⟨t1, t2⟩ | ⟨t1, t2⟩
      · exact absurd t1 q2
      · rw [t1, t2, if_neg (show ¬ (1 : Int32) ≤ 0 from by decide)]
      · rw [t1, t2, if_pos (show (-1 : Int32) ≤ 0 from by decide)]
theorem eq_tide_c {k : Nat} {sc sm : tt_St} (h : rl k sc sm) (a d g w : Int32) : (tb_tide sc a d g w).1 = mo_tide sm a d g w ∧ rl k (tb_tide sc a d g w).2 sm := by
  rw [tb_tide, mo_tide]
  rcases h.knows a with ⟨c1, c2⟩ | ⟨c1, c2, p, hp, hp4, rfl⟩
  · rw [if_pos c1, if_pos c2]; exact ⟨rfl, h⟩
  · rw [if_neg c1, if_neg c2, mo_isDay, eq_within]
    by_cases d1 : mo_within d 0 9 = 0
    · rw [if_pos d1, if_pos d1]; exact ⟨rfl, h⟩
    · rw [if_neg d1, if_neg d1, tb_tide_k55, eq_day]
      have hr : ∀ i, i < 289 → tt_A (se_fill sc 3 7 (nI p) ((144 * d) - 1) 289) 7 i = mo_heightAt sm (nI p) (((144 * d) - 1) + nI i) := fun i hi => by
        rw [fl_row (by decide) (by rw [show Int32.toNatClampNeg 289 = 289 from by decide]; exact hi), h.height hp]
      have f := h.fill 3 7 (nI p) ((144 * d) - 1) 289 (by decide)
      generalize se_fill sc 3 7 (nI p) ((144 * d) - 1) 289 = s1 at hr f ⊢
      rcases eq_tide_n (g := g) (h.hb hp) hr with ⟨q1, q2⟩ | ⟨i, hi, q1, q2, q3⟩
      · rw [if_pos q1, if_pos (q2 0)]; exact ⟨rfl, f⟩
      · have hd2 := mo_within_1.mp d1
        have e0 : (0 : Int32).toInt = 0 := rfl
        have e9 : (9 : Int32).toInt = 9 := rfl
        have e144 : (144 : Int32).toInt = 144 := rfl
        have hm : (144 * d).toInt = 144 * d.toInt := by rw [tt_mul] <;> rw [e144] <;> omega
        have hs : ((144 * d) + nI i).toInt = 144 * d.toInt + (i : Int) := by rw [tt_add] <;> rw [hm, nI_toInt (by omega)] <;> omega
        have n2 : ¬ (144 * d) + nI i = -10101 := by rw [tt_eq, hs, show (-10101 : Int32).toInt = -10101 from rfl]; omega
        have n1 : ¬ tb_placeOfTide s1 g = -10001 := by
          rw [q1, tt_eq, nI_toInt (by omega), show (-10001 : Int32).toInt = -10001 from rfl]; omega
        have n3 : ¬ mo_tideNow sm (nI p) d g 0 = -10101 := by rw [q3, if_pos rfl]; exact n2
        rw [if_neg n1, if_neg n3, q1, sh_1, nI_clamp (by omega)]
        by_cases w0 : w = 0
        · have hw : ¬ mo_within w 0 2 = 0 := by rw [w0]; decide
          rw [if_pos w0, if_neg hw, q3, if_pos w0]; exact ⟨rfl, f⟩
        · rw [if_neg w0]
          by_cases w1 : w = 1
          · have hw : ¬ mo_within w 0 2 = 0 := by rw [w1]; decide
            rw [if_pos w1, if_neg hw, q3, if_neg w0, if_pos w1]
            by_cases c : tb_turnAt s1 (nI (i + 1)) ≤ 0
            · rw [if_pos c, if_pos c]; exact ⟨rfl, f⟩
            · rw [if_neg c, if_neg c]; exact ⟨rfl, f⟩
          · rw [if_neg w1]
            by_cases w2 : w = 2
            · have hw : ¬ mo_within w 0 2 = 0 := by rw [w2]; decide
              rw [if_pos w2, if_neg hw, q3, if_neg w0, if_neg w1]; exact ⟨rfl, f⟩
            · have hw : mo_within w 0 2 = 0 := by
                apply Classical.not_not.mp
                intro q
                have h9 := mo_within_1.mp q
                have g1 : (1 : Int32).toInt = 1 := rfl
                have g2 : (2 : Int32).toInt = 2 := rfl
                rw [tt_eq] at w0 w1 w2
                omega
              rw [if_neg w2, if_pos hw]; exact ⟨rfl, f⟩

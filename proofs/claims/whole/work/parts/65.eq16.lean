/-! one sea becomes another -/
theorem sb_l {B C m O A : Nat} (hB : B = 9 ∨ B = 13) (hC : C = 9 ∨ C = 13) (hne : B ≠ C) (hm : m ≤ 4) (eO : ∀ j, tt_po O j = B + j) (eA : ∀ j, tt_po A j = C + j) : ∀ (n j : Nat) (st : tt_St), j + n = m → (∀ q, q < 4 → 0 ≤ (tt_I st (C + q) 6).toInt ∧ (tt_I st (C + q) 6).toInt ≤ 3) →
    (se_become_l18 O A m n j st).2 = st.2 ∧
    (∀ o f, ¬ (B + j ≤ o ∧ o < B + m) → ¬ (25 + 3 * (B - 9) + 3 * j ≤ o ∧ o < 25 + 3 * (B - 9) + 3 * m) → tt_I (se_become_l18 O A m n j st) o f = tt_I st o f) ∧
    (∀ q f, j ≤ q → q < m → (f < 5 ∨ f = 6) → tt_I (se_become_l18 O A m n j st) (B + q) f = tt_I st (C + q) f) ∧
    (∀ q w f, j ≤ q → q < m → w < (tt_I st (C + q) 6).toNatClampNeg → f < 3 → tt_I (se_become_l18 O A m n j st) (25 + 3 * (B - 9) + 3 * q + w) f = tt_I st (25 + 3 * (C - 9) + 3 * q + w) f) := by
  intro n
  induction n with
  | zero => intro j st hj h6; exact ⟨rfl, fun _ _ _ _ => rfl, fun q f h1 h2 => absurd h2 (by omega), fun q w f h1 h2 => absurd h2 (by omega)⟩
  | succ n ih =>
    intro j st hj h6
    rw [se_become_l18, nI_clamp (by omega), eO, eA]
    have h3 : ∀ q, q < 4 → (tt_I st (C + q) 6).toNatClampNeg ≤ 3 := fun q hq => tt_cle (h6 q hq).2
    obtain ⟨p1, p2⟩ := pb_I (o := B + j) (a := C + j) (st := st) (by omega) (by omega) (by omega) (h6 j (by omega))
    generalize po_become st (B + j) (C + j) = s1 at p1 p2 ⊢
    have W : ∀ w, tt_wv (B + j) w = 25 + 3 * (B - 9) + 3 * j + w := fun w => by unfold tt_wv; omega
    have keep : ∀ o f, ¬ (o = B + j) → ¬ (25 + 3 * (B - 9) + 3 * j ≤ o ∧ o < 25 + 3 * (B - 9) + 3 * j + 3) → tt_I s1 o f = tt_I st o f := fun o f n1 n2 => by
      have := h3 j (by omega)
      rw [p2, if_neg (by omega), W, W, if_neg (by omega)]
    have k6 : ∀ q f, q < 4 → tt_I s1 (C + q) f = tt_I st (C + q) f := fun q f hq => keep _ _ (by omega) (by omega)
    obtain ⟨i1, i2, i3, i4⟩ := ih (j + 1) s1 (by omega) (fun q hq => by rw [k6 q 6 hq]; exact h6 q hq)
    refine ⟨i1.trans p1, fun o f n1 n2 => ?_, fun q f h1 h2 hf => ?_, fun q w f h1 h2 hw hf => ?_⟩
    · rw [i2 o f (by omega) (by omega), keep o f (by omega) (by omega)]
    · by_cases c : q = j
      · subst c
        rw [i2 _ f (by omega) (by omega), p2, if_pos ⟨rfl, hf⟩]
      · rw [i3 q f (by omega) h2 hf, k6 q f (by omega)]
    · have := h3 q (by omega)
      by_cases c : q = j
      · subst c
        have n1 : ¬ (25 + 3 * (B - 9) + 3 * q + w = B + q ∧ (f < 5 ∨ f = 6)) := by omega
        have n2 : 25 + 3 * (B - 9) + 3 * q + 0 ≤ 25 + 3 * (B - 9) + 3 * q + w ∧ 25 + 3 * (B - 9) + 3 * q + w < 25 + 3 * (B - 9) + 3 * q + (tt_I st (C + q) 6).toNatClampNeg ∧ f < 3 := by omega
        rw [i2 _ f (by omega) (by omega), p2, if_neg n1, W, W, if_pos n2, show 25 + 3 * (B - 9) + 3 * q + w + 3 * (C + q) - 3 * (B + q) = 25 + 3 * (C - 9) + 3 * q + w from by omega]
      · rw [i4 q w f (by omega) h2 (by rw [k6 q 6 (by omega)]; exact hw) hf, keep _ _ (by omega) (by omega)]
/-- what becoming another sea does -/
theorem sb_I {B C O A : Nat} {st : tt_St} (hO : O = 3 ∨ O = 4) (hA : A = 3 ∨ A = 4) (hOA : O ≠ A) (hB : B = 9 + 4 * (O - 3)) (hC : C = 9 + 4 * (A - 3)) (h : tb_ok st) :
    (se_become st O A).2 = st.2 ∧
    (∀ o f, ¬ (o = O ∧ (f = 1 ∨ f = 2)) → ¬ (B ≤ o ∧ o < B + 4) → ¬ (25 + 3 * (B - 9) ≤ o ∧ o < 25 + 3 * (B - 9) + 12) → tt_I (se_become st O A) o f = tt_I st o f) ∧
    tt_I (se_become st O A) O 1 = tt_I st A 1 ∧ tt_I (se_become st O A) O 2 = tt_I st A 2 ∧
    (∀ q f, q < (tt_I st A 1).toNatClampNeg → (f < 5 ∨ f = 6) → tt_I (se_become st O A) (B + q) f = tt_I st (C + q) f) ∧
    (∀ q w f, q < (tt_I st A 1).toNatClampNeg → w < (tt_I st (C + q) 6).toNatClampNeg → f < 3 → tt_I (se_become st O A) (25 + 3 * (B - 9) + 3 * q + w) f = tt_I st (25 + 3 * (C - 9) + 3 * q + w) f) ∧
    (∀ q, (tt_I st A 1).toNatClampNeg ≤ q → q < 4 → ∀ f, tt_I (se_become st O A) (B + q) f = tt_I st (B + q) f) := by
  have hm : (tt_I st A 1).toNatClampNeg ≤ 4 := by
    rcases hA with rfl | rfl
    · exact tt_cle (h.2.1 3 rfl).2
    · exact tt_cle (h.2.1 4 rfl).2
  have e2 : tt_I (tt_pI st O 1 (tt_I st A 1)) A 2 = tt_I st A 2 := px_I (by omega)
  rw [se_become, e2]
  have keep : ∀ o f, ¬ (o = O ∧ (f = 1 ∨ f = 2)) → tt_I (tt_pI (tt_pI st O 1 (tt_I st A 1)) O 2 (tt_I st A 2)) o f = tt_I st o f := fun o f n => by
    rw [px_I (by omega), px_I (by omega)]
  have k1 : tt_I (tt_pI (tt_pI st O 1 (tt_I st A 1)) O 2 (tt_I st A 2)) O 1 = tt_I st A 1 := by rw [px_I (by omega), px_I1]
  have k2 : tt_I (tt_pI (tt_pI st O 1 (tt_I st A 1)) O 2 (tt_I st A 2)) O 2 = tt_I st A 2 := px_I1
  have s2 : (tt_pI (tt_pI st O 1 (tt_I st A 1)) O 2 (tt_I st A 2)).2 = st.2 := rfl
  generalize tt_pI (tt_pI st O 1 (tt_I st A 1)) O 2 (tt_I st A 2) = s1 at keep k1 k2 s2 ⊢
  have hci : ∀ q, q < 4 → tt_ci (C + q) = 1 := fun q hq => tt_ci_po (by omega) (by omega)
  obtain ⟨i1, i2, i3, i4⟩ := sb_l (B := B) (C := C) (O := O) (A := A) (m := (tt_I st A 1).toNatClampNeg) (by omega) (by omega) (by omega) hm (fun j => by unfold tt_po; omega) (fun j => by unfold tt_po; omega) (tt_I st A 1).toNatClampNeg 0 s1 (by omega) (fun q hq => by rw [keep _ _ (by omega)]; exact h.1 _ (hci q hq))
  refine ⟨i1.trans s2, fun o f n1 n2 n3 => ?_, ?_, ?_, fun q f hq hf => ?_, fun q w f hq hw hf => ?_, fun q hq hq4 f => ?_⟩
  · rw [i2 o f (by omega) (by omega), keep o f n1]
  · rw [i2 O 1 (by omega) (by omega), k1]
  · rw [i2 O 2 (by omega) (by omega), k2]
  · rw [i3 q f (by omega) hq hf, keep _ _ (by omega)]
  · rw [i4 q w f (by omega) hq (by rw [keep _ _ (by omega)]; exact hw) hf, keep _ _ (by omega)]
  · rw [i2 _ f (by omega) (by omega), keep _ _ (by omega)]
/-! the reference's copies -/
theorem cp_5 {st : tt_St} {x y j : Nat} (hxy : x + 5 ≤ y ∨ y + 5 ≤ x) : ∀ a i, tt_A (tt_pA (tt_pA (tt_pA (tt_pA (tt_pA st x j (tt_A st y j)) (x + 1) j (tt_A (tt_pA st x j (tt_A st y j)) (y + 1) j)) (x + 2) j (tt_A (tt_pA (tt_pA st x j (tt_A st y j)) (x + 1) j (tt_A (tt_pA st x j (tt_A st y j)) (y + 1) j)) (y + 2) j)) (x + 3) j (tt_A (tt_pA (tt_pA (tt_pA st x j (tt_A st y j)) (x + 1) j (tt_A (tt_pA st x j (tt_A st y j)) (y + 1) j)) (x + 2) j (tt_A (tt_pA (tt_pA st x j (tt_A st y j)) (x + 1) j (tt_A (tt_pA st x j (tt_A st y j)) (y + 1) j)) (y + 2) j)) (y + 3) j)) (x + 4) j (tt_A (tt_pA (tt_pA (tt_pA (tt_pA st x j (tt_A st y j)) (x + 1) j (tt_A (tt_pA st x j (tt_A st y j)) (y + 1) j)) (x + 2) j (tt_A (tt_pA (tt_pA st x j (tt_A st y j)) (x + 1) j (tt_A (tt_pA st x j (tt_A st y j)) (y + 1) j)) (y + 2) j)) (x + 3) j (tt_A (tt_pA (tt_pA (tt_pA st x j (tt_A st y j)) (x + 1) j (tt_A (tt_pA st x j (tt_A st y j)) (y + 1) j)) (x + 2) j (tt_A (tt_pA (tt_pA st x j (tt_A st y j)) (x + 1) j (tt_A (tt_pA st x j (tt_A st y j)) (y + 1) j)) (y + 2) j)) (y + 3) j)) (y + 4) j)) a i = (if x ≤ a ∧ a < x + 5 ∧ i = j then tt_A st (a + y - x) j else tt_A st a i) := by
  intro a i
  have r1 : tt_A (tt_pA st x j (tt_A st y j)) (y + 1) j = tt_A st (y + 1) j := px_A (by omega)
  rw [r1]
  have r2 : tt_A (tt_pA (tt_pA st x j (tt_A st y j)) (x + 1) j (tt_A st (y + 1) j)) (y + 2) j = tt_A st (y + 2) j := by rw [px_A (by omega), px_A (by omega)]
  rw [r2]
  have r3 : tt_A (tt_pA (tt_pA (tt_pA st x j (tt_A st y j)) (x + 1) j (tt_A st (y + 1) j)) (x + 2) j (tt_A st (y + 2) j)) (y + 3) j = tt_A st (y + 3) j := by rw [px_A (by omega), px_A (by omega), px_A (by omega)]
  rw [r3]
  have r4 : tt_A (tt_pA (tt_pA (tt_pA (tt_pA st x j (tt_A st y j)) (x + 1) j (tt_A st (y + 1) j)) (x + 2) j (tt_A st (y + 2) j)) (x + 3) j (tt_A st (y + 3) j)) (y + 4) j = tt_A st (y + 4) j := by rw [px_A (by omega), px_A (by omega), px_A (by omega), px_A (by omega)]
  rw [r4]
  by_cases c : x ≤ a ∧ a < x + 5 ∧ i = j
  · rw [if_pos c]
    obtain ⟨c1, c2, rfl⟩ := c
    by_cases a0 : a = x
    · subst a0; rw [px_A (by omega), px_A (by omega), px_A (by omega), px_A (by omega), px_A1, show a + y - a = y from by omega]
    by_cases a1 : a = x + 1
    · subst a1; rw [px_A (by omega), px_A (by omega), px_A (by omega), px_A1, show x + 1 + y - x = y + 1 from by omega]
    by_cases a2 : a = x + 2
    · subst a2; rw [px_A (by omega), px_A (by omega), px_A1, show x + 2 + y - x = y + 2 from by omega]
    by_cases a3 : a = x + 3
    · subst a3; rw [px_A (by omega), px_A1, show x + 3 + y - x = y + 3 from by omega]
    have a4 : a = x + 4 := by omega
    subst a4; rw [px_A1, show x + 4 + y - x = y + 4 from by omega]
  · rw [if_neg c, px_A (by omega), px_A (by omega), px_A (by omega), px_A (by omega), px_A (by omega)]
theorem cp_3 {st : tt_St} {x y j : Nat} (hxy : x + 3 ≤ y ∨ y + 3 ≤ x) : ∀ a i, tt_A (tt_pA (tt_pA (tt_pA st x j (tt_A st y j)) (x + 1) j (tt_A (tt_pA st x j (tt_A st y j)) (y + 1) j)) (x + 2) j (tt_A (tt_pA (tt_pA st x j (tt_A st y j)) (x + 1) j (tt_A (tt_pA st x j (tt_A st y j)) (y + 1) j)) (y + 2) j)) a i = (if x ≤ a ∧ a < x + 3 ∧ i = j then tt_A st (a + y - x) j else tt_A st a i) := by
  intro a i
  have r1 : tt_A (tt_pA st x j (tt_A st y j)) (y + 1) j = tt_A st (y + 1) j := px_A (by omega)
  rw [r1]
  have r2 : tt_A (tt_pA (tt_pA st x j (tt_A st y j)) (x + 1) j (tt_A st (y + 1) j)) (y + 2) j = tt_A st (y + 2) j := by rw [px_A (by omega), px_A (by omega)]
  rw [r2]
  by_cases c : x ≤ a ∧ a < x + 3 ∧ i = j
  · rw [if_pos c]
    obtain ⟨c1, c2, rfl⟩ := c
    by_cases a0 : a = x
    · subst a0; rw [px_A (by omega), px_A (by omega), px_A1, show a + y - a = y from by omega]
    by_cases a1 : a = x + 1
    · subst a1; rw [px_A (by omega), px_A1, show x + 1 + y - x = y + 1 from by omega]
    have a2 : a = x + 2 := by omega
    subst a2; rw [px_A1, show x + 2 + y - x = y + 2 from by omega]
  · rw [if_neg c, px_A (by omega), px_A (by omega), px_A (by omega)]

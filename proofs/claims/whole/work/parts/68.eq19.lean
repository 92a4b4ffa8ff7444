/-! the text of a page: what both readers make of it -/
/-- the letter at a place, 0 behind the end -/
def tx_at (c : Nat → Int32) (N j : Nat) : Int32 := if N ≤ j then 0 else c j
def tx_fig (c : Nat → Int32) (N j : Nat) : Bool := decide (48 ≤ (tx_at c N j).toInt ∧ (tx_at c N j).toInt ≤ 57)
def tx_nm (c : Nat → Int32) (N j : Nat) : Int32 := ((10 * (tx_at c N j - 48)) + tx_at c N (j + 1)) - 48
/-- a number of two figures: where the reading stands behind it, and whether it was one -/
def tx_num (c : Nat → Int32) (N j : Nat) (lo hi : Int32) : Nat × Bool :=
  if tx_fig c N j = false then (j, false) else if hi / 10 < tx_at c N j - 48 then (j, false) else if tx_fig c N (j + 1) = false then (j + 1, false) else if mo_within (tx_nm c N j) lo hi = 0 then (j + 1, false) else (j + 2, true)
def tx_wave (c : Nat → Int32) (N j : Nat) : Nat × Bool :=
  if (tx_num c N j 1 99).2 = false then tx_num c N j 1 99 else if (tx_num c N (j + 2) 0 99).2 = false then tx_num c N (j + 2) 0 99 else tx_num c N (j + 4) 0 63
def tx_waves (c : Nat → Int32) (N : Nat) : Nat → Nat → Nat → Nat × Bool
  | 0, _, j => (j, true)
  | n + 1, w, j => if ¬ w = 0 ∧ tx_fig c N j = false then (j, true) else if (tx_wave c N j).2 = false then tx_wave c N j else tx_waves c N n (w + 1) (j + 6)
/-- how many waves -/
def tx_many (c : Nat → Int32) (N : Nat) : Nat → Nat → Nat → Nat
  | 0, w, _ => w
  | n + 1, w, j => if ¬ w = 0 ∧ tx_fig c N j = false then w else tx_many c N n (w + 1) (j + 6)
def tx_port (c : Nat → Int32) (N n k : Nat) : Nat × Bool :=
  if mo_kindBy (tx_at c N k) = -10001 then (k, false) else if mo_kindBy (tx_at c N k) = 3 ∧ n = 0 then (k, false) else
  if (tx_num c N (k + 1) 0 99).2 = false then tx_num c N (k + 1) 0 99 else if (tx_num c N (k + 3) 0 99).2 = false then tx_num c N (k + 3) 0 99 else
  if mo_kindBy (tx_at c N k) = 3 then tx_num c N (k + 5) 0 99 else tx_waves c N 3 0 (k + 5)
/-- a page as the text of the reference -/
def tx_of (s : tt_St) (c : Nat → Int32) (N : Nat) : Prop := tt_I s 49 13 = nI N ∧ N ≤ 96 ∧ (∀ j, j < N → tt_A s 60 j = c j) ∧ ∀ j, j < N → 32 ≤ (c j).toInt ∧ (c j).toInt ≤ 126
theorem tx_rg {s : tt_St} {c : Nat → Int32} {N : Nat} (h : tx_of s c N) (j : Nat) : 0 ≤ (tx_at c N j).toInt ∧ (tx_at c N j).toInt ≤ 126 := by
  unfold tx_at
  by_cases q : N ≤ j
  · rw [if_pos q]; decide
  · rw [if_neg q]; have := h.2.2.2 j (by omega); omega
theorem tx_mo {s : tt_St} {c : Nat → Int32} {N : Nat} (h : tx_of s c N) {j : Nat} (hj : j < 1000) : mo_at s (nI j) = tx_at c N j := by
  obtain ⟨h1, h2, h3, h4⟩ := h
  rw [mo_at, h1, tx_at]
  by_cases q : N ≤ j
  · rw [if_pos q, if_pos (nI_le q (by omega))]
  · rw [if_neg q, if_neg (nI_ge (by omega) (by omega)), nI_clamp (by omega), h3 j (by omega)]
theorem tx_isf {s : tt_St} {c : Nat → Int32} {N : Nat} (h : tx_of s c N) {j : Nat} (hj : j < 1000) : mo_isFigure s (nI j) = 0 ↔ tx_fig c N j = false := by
  have hr := tx_rg h j
  rw [mo_isFigure, tx_mo h hj, tx_fig, decide_eq_false_iff_not]
  have e48 : (48 : Int32).toInt = 48 := rfl
  have es : (tx_at c N j - 48).toInt = (tx_at c N j).toInt - 48 := by rw [tt_sub] <;> rw [e48] <;> omega
  have := mo_within_1 (a := tx_at c N j - 48) (b := 0) (c := 9)
  rw [es, show (0 : Int32).toInt = 0 from rfl, show (9 : Int32).toInt = 9 from rfl] at this
  constructor
  · intro q z
    exact (this.mpr (by omega)) q
  · intro q
    apply Classical.not_not.mp
    intro z
    exact q (by have := this.mp z; omega)
/-- what a reading may change -/
def sx (s s' : tt_St) : Prop := (∀ f, ¬ (f = 15 ∨ f = 16 ∨ f = 17 ∨ f = 24) → tt_I s' 49 f = tt_I s 49 f) ∧ ∀ a j, ¬ (61 ≤ a ∧ a ≤ 66) → tt_A s' a j = tt_A s a j
theorem sx.rfl (s : tt_St) : sx s s := ⟨fun _ _ => Eq.refl _, fun _ _ _ => Eq.refl _⟩
theorem sx.trans {s s' s'' : tt_St} (h : sx s s') (g : sx s' s'') : sx s s'' := ⟨fun f hf => (g.1 f hf).trans (h.1 f hf), fun a j ha => (g.2 a j ha).trans (h.2 a j ha)⟩
theorem sx.pI (s : tt_St) {f : Nat} (v : Int32) (hf : f = 15 ∨ f = 16 ∨ f = 17 ∨ f = 24) : sx s (tt_pI s 49 f v) := ⟨fun g hg => px_I (by omega), fun _ _ _ => Eq.refl _⟩
theorem sx.pA (s : tt_St) {a j : Nat} (v : Int32) (ha : 61 ≤ a ∧ a ≤ 66) : sx s (tt_pA s a j v) := ⟨fun _ _ => Eq.refl _, fun b i hb => px_A (by omega)⟩
theorem sx.tx {s s' : tt_St} {c : Nat → Int32} {N : Nat} (h : sx s s') (g : tx_of s c N) : tx_of s' c N := by
  obtain ⟨g1, g2, g3, g4⟩ := g
  exact ⟨by rw [h.1 13 (by omega)]; exact g1, g2, fun j hj => by rw [h.2 60 j (by omega)]; exact g3 j hj, g4⟩
theorem rl.sx {k : Nat} {sc sm sm' : tt_St} (h : rl k sc sm) (g : sx sm sm') : rl k sc sm' := by
  have h4 := h.many.1
  obtain ⟨b1, b2, b3, b4, b5, b6, b7, b8⟩ := h
  exact ⟨b1, cg_mo b2 (fun f _ => g.1 f (by omega)) (fun p _ => g.2 _ _ (by omega)), cg_rounds b3 (fun j _ => g.2 _ _ (by omega)), cg_page b4 (Eq.refl _) (fun _ => Eq.refl _) (g.1 _ (by omega)) (fun _ => g.2 _ _ (by omega)), cg_sea b5 (Eq.refl _) h4 (fun _ _ _ => Eq.refl _) (fun _ _ _ => Eq.refl _) (g.1 _ (by omega)) (fun _ _ _ => g.2 _ _ (by omega)), cg_seen b6 (Eq.refl _) (Eq.refl _) h4 (fun _ _ => Eq.refl _) (g.1 _ (by omega)) (fun _ _ _ => g.2 _ _ (by omega)), cg_reads b7 (Eq.refl _) (g.1 _ (by omega)), cg_kept b8 h4 (fun _ _ _ => Eq.refl _) (fun _ _ => g.1 _ (by omega)) (fun _ _ _ => g.2 _ _ (by omega))⟩
/-- the reference's number -/
theorem mr_num {s : tt_St} {c : Nat → Int32} {N : Nat} (h : tx_of s c N) {j : Nat} (hj : j < 900) (lo hi : Int32) : (mo_readNumber s (nI j) lo hi).1 = nI (tx_num c N j lo hi).1 ∧ ((tx_num c N j lo hi).2 = true → (mo_readNumber s (nI j) lo hi).2 = tt_pI s 49 24 (tx_nm c N j)) ∧ ((tx_num c N j lo hi).2 = false → sx s (mo_readNumber s (nI j) lo hi).2 ∧ tt_I (mo_readNumber s (nI j) lo hi).2 49 16 = 1 ∧ tt_I (mo_readNumber s (nI j) lo hi).2 49 17 = tt_I s 49 17) := by
  have i1 := tx_isf h (j := j) (by omega)
  have i2 := tx_isf ((sx.pI s (tx_nm c N j) (f := 24) (by omega)).tx h) (j := j + 1) (by omega)
  rw [mo_readNumber, tx_num, tx_mo h (by omega), nI_1, tx_mo h (by omega), px_I1]
  have en : ((10 * (tx_at c N j - 48)) + tx_at c N (j + 1)) - 48 = tx_nm c N j := Eq.refl _
  rw [en]
  have flt : ∀ s', sx s s' → tt_I s' 49 17 = tt_I s 49 17 → ∀ v : Int32, ∀ m : Nat, v = nI m → ((v, tt_pI s' 49 16 1) : Int32 × tt_St).1 = nI ((m, false) : Nat × Bool).1 ∧ (((m, false) : Nat × Bool).2 = true → ((v, tt_pI s' 49 16 1) : Int32 × tt_St).2 = tt_pI s 49 24 (tx_nm c N j)) ∧ (((m, false) : Nat × Bool).2 = false → sx s ((v, tt_pI s' 49 16 1) : Int32 × tt_St).2 ∧ tt_I ((v, tt_pI s' 49 16 1) : Int32 × tt_St).2 49 16 = 1 ∧ tt_I ((v, tt_pI s' 49 16 1) : Int32 × tt_St).2 49 17 = tt_I s 49 17) := by
    intro s' g1 g2 v m hv
    refine ⟨hv, fun q => Bool.noConfusion q, fun _ => ⟨g1.trans (sx.pI s' 1 (by omega)), px_I1, ?_⟩⟩
    exact (px_I (by omega)).trans g2
  by_cases c1 : tx_fig c N j = false
  · rw [if_pos (i1.mpr c1), if_pos c1]
    exact flt s (sx.rfl s) (Eq.refl _) _ _ (Eq.refl _)
  · rw [if_neg (fun q => c1 (i1.mp q)), if_neg c1]
    by_cases c2 : hi / 10 < tx_at c N j - 48
    · have c3 : ¬ tx_at c N j - 48 ≤ hi / 10 := by rw [tt_le]; rw [tt_lt] at c2; omega
      rw [if_neg c3, if_pos c2]
      exact flt s (sx.rfl s) (Eq.refl _) _ _ (Eq.refl _)
    · have c3 : tx_at c N j - 48 ≤ hi / 10 := by rw [tt_le]; rw [tt_lt] at c2; omega
      rw [if_pos c3, if_neg c2]
      by_cases c4 : tx_fig c N (j + 1) = false
      · rw [if_pos (i2.mpr c4), if_pos c4]
        exact flt _ (sx.pI s _ (by omega)) (px_I (by omega)) _ _ (Eq.refl _)
      · rw [if_neg (fun q => c4 (i2.mp q)), if_neg c4]
        by_cases c5 : mo_within (tx_nm c N j) lo hi = 0
        · rw [if_pos c5, if_pos c5]
          exact flt _ (sx.pI s _ (by omega)) (px_I (by omega)) _ _ (Eq.refl _)
        · rw [if_neg c5, if_neg c5]
          refine ⟨?_, fun _ => Eq.refl _, fun q => Bool.noConfusion q⟩
          show nI j + 2 = nI (j + 2)
          rw [← nI_add]; rfl
theorem tx_num_ok {c : Nat → Int32} {N j : Nat} {lo hi : Int32} (h : (tx_num c N j lo hi).2 = true) : (tx_num c N j lo hi).1 = j + 2 ∧ tx_fig c N j = true ∧ ¬ hi / 10 < tx_at c N j - 48 ∧ tx_fig c N (j + 1) = true ∧ ¬ mo_within (tx_nm c N j) lo hi = 0 := by
  unfold tx_num at h ⊢
  by_cases c1 : tx_fig c N j = false
  · rw [if_pos c1] at h; exact Bool.noConfusion h
  rw [if_neg c1] at h ⊢
  by_cases c2 : hi / 10 < tx_at c N j - 48
  · rw [if_pos c2] at h; exact Bool.noConfusion h
  rw [if_neg c2] at h ⊢
  by_cases c4 : tx_fig c N (j + 1) = false
  · rw [if_pos c4] at h; exact Bool.noConfusion h
  rw [if_neg c4] at h ⊢
  by_cases c5 : mo_within (tx_nm c N j) lo hi = 0
  · rw [if_pos c5] at h; exact Bool.noConfusion h
  rw [if_neg c5]
  exact ⟨Eq.refl _, by simpa using c1, c2, by simpa using c4, c5⟩

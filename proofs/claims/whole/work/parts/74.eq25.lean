/-! the reference reads the page -/
def tx_b (c : Nat → Int32) (N : Nat) : Nat → Nat
  | 0 => 0
  | n + 1 => (tx_port c N n (tx_b c N n)).1 + 1
theorem tx_b_le {c : Nat → Int32} {N : Nat} : ∀ n, tx_b c N n ≤ 24 * n := by
  intro n
  induction n with
  | zero => exact Nat.le_refl _
  | succ n ih =>
    rw [tx_b]
    have := tx_port_le (c := c) (N := N) (n := n) (k := tx_b c N n)
    omega
theorem r21_stop {x : Int32} {st : tt_St} (h : tt_I st 49 16 = 1) : ∀ n, mo_read_l21 n x st = (x, st) := by
  intro n
  cases n with
  | zero => rfl
  | succ n => rw [mo_read_l21, if_neg (by rw [h]; decide)]
def rP (s : tt_St) (c : Nat → Int32) (N : Nat) (t : Nat × Bool × Nat) (r : Int32 × tt_St) : Prop := r.1 = nI t.1 ∧ sx s r.2 ∧ (t.2.1 = false → tt_I r.2 49 16 = 1) ∧ (t.2.1 = true → tt_I r.2 49 16 = 0 ∧ tt_I r.2 49 17 = nI t.2.2 ∧ (1 ≤ t.2.2 ∧ t.2.2 ≤ 4 ∧ t.1 + 1 = tx_b c N t.2.2) ∧ ∀ p, p < t.2.2 → tx_has r.2 r.2 c N p (tx_b c N p) ∧ (tx_port c N p (tx_b c N p)).2 = true)
theorem mr_rest {c : Nat → Int32} {N : Nat} : ∀ (m n x : Nat) (s : tt_St), n + m = 4 → 1 ≤ n → x + 1 = tx_b c N n → tx_of s c N → tt_I s 49 16 = 0 → tt_I s 49 17 = nI n → (∀ p, p < n → tx_has s s c N p (tx_b c N p) ∧ (tx_port c N p (tx_b c N p)).2 = true) → rP s c N (tx_rest c N m n x) (mo_read_l21 (m + 2) (nI x) s) := by
  intro m
  induction m with
  | zero =>
    intro n x s hn h1 hx h h16 h17 hA
    have n4 : n = 4 := by omega
    subst n4
    rw [mo_read_l21, if_pos h16, h17, if_pos (show (4 : Int32) ≤ nI 4 from by decide), tx_rest]
    exact ⟨Eq.refl _, sx.rfl s, fun q => Bool.noConfusion q, fun _ => ⟨h16, h17, ⟨h1, Nat.le_refl 4, hx⟩, hA⟩⟩
  | succ m ih =>
    intro n x s hn h1 hx h h16 h17 hA
    have hb := tx_b_le (c := c) (N := N) n
    have n4 : ¬ (4 : Int32) ≤ nI n := nI_ge (b := 4) (by omega) (by omega)
    rw [mo_read_l21, if_pos h16, h17, if_neg n4, tx_mo h (by omega), tx_rest]
    by_cases c1 : tx_at c N x = 44
    · rw [if_pos c1, if_pos c1, nI_1]
      have k := mr_port (p := n) (k := x + 1) h (by omega) (by omega) h16 h17
      generalize mo_readPort s (nI (x + 1)) = r at k ⊢
      obtain ⟨y, F⟩ := r
      obtain ⟨k1, k2, k3, k4⟩ := k
      have k1' : y = nI (tx_port c N n (x + 1)).1 := k1
      by_cases c2 : (tx_port c N n (x + 1)).2 = false
      · rw [if_pos c2]
        have f3 : tt_I F 49 16 = 1 := k3 c2
        show rP s c N _ (mo_read_l21 (m + 2) y F)
        rw [r21_stop f3]
        exact ⟨k1, k2, fun _ => f3, fun q => Bool.noConfusion q⟩
      · rw [if_neg c2]
        have c2' : (tx_port c N n (x + 1)).2 = true := by simpa using c2
        obtain ⟨m1, m2, m3⟩ := k4 c2'
        show rP s c N _ (mo_read_l21 (m + 2) y F)
        rw [k1']
        have hA' : ∀ p, p < n + 1 → tx_has F F c N p (tx_b c N p) ∧ (tx_port c N p (tx_b c N p)).2 = true := by
          intro p hp
          by_cases cp : p = n
          · subst cp
            have e : tx_b c N p = x + 1 := hx.symm
            rw [e]
            obtain ⟨g1, g2, g3, g4, g5, g6, g7⟩ := m3
            exact ⟨⟨g1, g2, g3, g4, g5, g6, fun _ _ _ _ => Eq.refl _⟩, c2'⟩
          · exact ⟨tx_keep (hA p (by omega)).1 m3 (by omega), (hA p (by omega)).2⟩
        obtain ⟨u1, u2, u3, u4⟩ := ih (n + 1) (tx_port c N n (x + 1)).1 F (by omega) (by omega) (by rw [tx_b, ← hx]) (k2.tx h) m1 m2 hA'
        exact ⟨u1, k2.trans u2, u3, u4⟩
    · rw [if_neg c1, if_neg c1]
      exact ⟨Eq.refl _, sx.rfl s, fun q => Bool.noConfusion q, fun _ => ⟨h16, h17, ⟨h1, (by omega : n ≤ 4), hx⟩, hA⟩⟩
/-- the whole page: where the reading ends, whether all was read, how many ports -/
def tx_read (c : Nat → Int32) (N : Nat) : Nat × Bool × Nat :=
  if (tx_port c N 0 0).2 = false then ((tx_port c N 0 0).1, false, 0) else tx_rest c N 3 1 (tx_port c N 0 0).1
theorem mr_read {s : tt_St} {c : Nat → Int32} {N : Nat} (h : tx_of s c N) : (mo_read s).1 = nI (tx_read c N).1 ∧ sx s (mo_read s).2 ∧
    (((tx_read c N).2.1 = true ∧ (tx_read c N).1 = N) → tt_I (mo_read s).2 49 15 = 1 ∧ tt_I (mo_read s).2 49 17 = nI (tx_read c N).2.2 ∧ (1 ≤ (tx_read c N).2.2 ∧ (tx_read c N).2.2 ≤ 4 ∧ (tx_read c N).1 + 1 = tx_b c N (tx_read c N).2.2) ∧ ∀ p, p < (tx_read c N).2.2 → tx_has (mo_read s).2 (mo_read s).2 c N p (tx_b c N p) ∧ (tx_port c N p (tx_b c N p)).2 = true) ∧
    (¬ ((tx_read c N).2.1 = true ∧ (tx_read c N).1 = N) → tt_I (mo_read s).2 49 15 = 0) := by
  have s1 : sx s (tt_pI (tt_pI (tt_pI s 49 15 0) 49 16 0) 49 17 0) := ((sx.pI s _ (by omega)).trans (sx.pI _ _ (by omega))).trans (sx.pI _ _ (by omega))
  have s16 : tt_I (tt_pI (tt_pI (tt_pI s 49 15 0) 49 16 0) 49 17 0) 49 16 = 0 := by rw [px_I (by omega), px_I1]
  have s17 : tt_I (tt_pI (tt_pI (tt_pI s 49 15 0) 49 16 0) 49 17 0) 49 17 = nI 0 := by rw [px_I1]; rfl
  have key : rP s c N (tx_read c N) (mo_read_l21 5 ((mo_readPort (tt_pI (tt_pI (tt_pI s 49 15 0) 49 16 0) 49 17 0) 0).1) ((mo_readPort (tt_pI (tt_pI (tt_pI s 49 15 0) 49 16 0) 49 17 0) 0).2)) := by
    generalize tt_pI (tt_pI (tt_pI s 49 15 0) 49 16 0) 49 17 0 = u at s1 s16 s17 ⊢
    have k : oP u c N 0 0 (tx_port c N 0 0) (mo_readPort u 0) := mr_port (p := 0) (k := 0) (s1.tx h) (by omega) (by omega) s16 s17
    generalize mo_readPort u 0 = r at k ⊢
    obtain ⟨y, F⟩ := r
    obtain ⟨k1, k2, k3, k4⟩ := k
    have k1' : y = nI (tx_port c N 0 0).1 := k1
    show rP s c N (tx_read c N) (mo_read_l21 5 y F)
    rw [tx_read]
    by_cases c2 : (tx_port c N 0 0).2 = false
    · have f3 : tt_I F 49 16 = 1 := k3 c2
      rw [if_pos c2, r21_stop f3]
      exact ⟨k1, s1.trans k2, fun _ => f3, fun q => Bool.noConfusion q⟩
    · have c2' : (tx_port c N 0 0).2 = true := by simpa using c2
      obtain ⟨m1, m2, m3⟩ := k4 c2'
      rw [if_neg c2, k1']
      obtain ⟨u1, u2, u3, u4⟩ := mr_rest (c := c) (N := N) 3 1 (tx_port c N 0 0).1 F (by omega) (by omega) (by rw [tx_b, tx_b]) ((s1.trans k2).tx h) m1 m2 (fun p hp => by
        have p0 : p = 0 := by omega
        subst p0
        obtain ⟨g1, g2, g3, g4, g5, g6, g7⟩ := m3
        exact ⟨⟨g1, g2, g3, g4, g5, g6, fun _ _ _ _ => Eq.refl _⟩, c2'⟩)
      exact ⟨u1, (s1.trans k2).trans u2, u3, u4⟩
  rw [mo_read]
  generalize mo_read_l21 5 ((mo_readPort (tt_pI (tt_pI (tt_pI s 49 15 0) 49 16 0) 49 17 0) 0).1) ((mo_readPort (tt_pI (tt_pI (tt_pI s 49 15 0) 49 16 0) 49 17 0) 0).2) = r at key ⊢
  obtain ⟨y, F⟩ := r
  obtain ⟨k1, k2, k3, k4⟩ := key
  have k1' : y = nI (tx_read c N).1 := k1
  have hF : tt_I F 49 13 = nI N := (k2.tx h).1
  have hN := h.2.1
  show (if tt_I F 49 16 = 0 then (if y = tt_I F 49 13 then (y, tt_pI F 49 15 1) else (y, tt_pI F 49 15 0)) else (y, tt_pI F 49 15 0)).1 = _ ∧ _
  by_cases c1 : (tx_read c N).2.1 = false
  · have f3 : tt_I F 49 16 = 1 := k3 c1
    have n0 : ¬ tt_I F 49 16 = 0 := by rw [f3]; decide
    simp only [if_neg n0]
    exact ⟨k1', k2.trans (sx.pI F _ (by omega)), fun q => by rw [c1] at q; exact Bool.noConfusion q.1, fun _ => px_I1⟩
  · have c1' : (tx_read c N).2.1 = true := by simpa using c1
    obtain ⟨m1, m2, m3, m4⟩ := k4 c1'
    have m1' : tt_I F 49 16 = 0 := m1
    simp only [if_pos m1']
    have hb := tx_b_le (c := c) (N := N) (tx_read c N).2.2
    have ey : y = tt_I F 49 13 ↔ (tx_read c N).1 = N := by
      rw [hF, k1']
      exact ⟨fun e => by have := congrArg Int32.toNatClampNeg e; rw [nI_clamp (by omega), nI_clamp (by omega)] at this; exact this, fun e => by rw [e]⟩
    by_cases c2 : (tx_read c N).1 = N
    · simp only [if_pos (ey.mpr c2)]
      exact ⟨k1', k2.trans (sx.pI F _ (by omega)), fun _ => ⟨px_I1, (px_I (by omega)).trans m2, m3, m4⟩, fun q => absurd ⟨c1', c2⟩ q⟩
    · simp only [if_neg (fun q => c2 (ey.mp q))]
      exact ⟨k1', k2.trans (sx.pI F _ (by omega)), fun q => absurd q.2 c2, fun _ => px_I1⟩

/-! the reference reads the page -/
/-- behind n ports that end at x: the rest of the page -/
def tx_rest (c : Nat → Int32) (N : Nat) : Nat → Nat → Nat → Nat × Bool × Nat
  | 0, n, x => (x, true, n)
  | m + 1, n, x => if tx_at c N x = 44 then (if (tx_port c N n (x + 1)).2 = false then ((tx_port c N n (x + 1)).1, false, n) else tx_rest c N m (n + 1) (tx_port c N n (x + 1)).1) else (x, true, n)
theorem tx_num_le {c : Nat → Int32} {N j : Nat} {lo hi : Int32} : (tx_num c N j lo hi).1 ≤ j + 2 := by
  unfold tx_num
  by_cases c1 : tx_fig c N j = false
  · rw [if_pos c1]; show j ≤ j + 2; omega
  rw [if_neg c1]
  by_cases c2 : hi / 10 < tx_at c N j - 48
  · rw [if_pos c2]; show j ≤ j + 2; omega
  rw [if_neg c2]
  by_cases c4 : tx_fig c N (j + 1) = false
  · rw [if_pos c4]; show j + 1 ≤ j + 2; omega
  rw [if_neg c4]
  by_cases c5 : mo_within (tx_nm c N j) lo hi = 0
  · rw [if_pos c5]; show j + 1 ≤ j + 2; omega
  rw [if_neg c5]; exact Nat.le_refl _
theorem tx_wave_le {c : Nat → Int32} {N j : Nat} : (tx_wave c N j).1 ≤ j + 6 := by
  unfold tx_wave
  by_cases c1 : (tx_num c N j 1 99).2 = false
  · rw [if_pos c1]; have := tx_num_le (c := c) (N := N) (j := j) (lo := 1) (hi := 99); omega
  rw [if_neg c1]
  by_cases c2 : (tx_num c N (j + 2) 0 99).2 = false
  · rw [if_pos c2]; have := tx_num_le (c := c) (N := N) (j := j + 2) (lo := 0) (hi := 99); omega
  rw [if_neg c2]
  have := tx_num_le (c := c) (N := N) (j := j + 4) (lo := 0) (hi := 63); omega
theorem tx_waves_le {c : Nat → Int32} {N : Nat} : ∀ n w j, (tx_waves c N n w j).1 ≤ j + 6 * n := by
  intro n
  induction n with
  | zero => intro w j; exact Nat.le_refl _
  | succ n ih =>
    intro w j
    rw [tx_waves]
    by_cases q : ¬ w = 0 ∧ tx_fig c N j = false
    · rw [if_pos q]; show j ≤ _; omega
    rw [if_neg q]
    by_cases c1 : (tx_wave c N j).2 = false
    · rw [if_pos c1]; have := tx_wave_le (c := c) (N := N) (j := j); omega
    · rw [if_neg c1]; have := ih (w + 1) (j + 6); omega
theorem tx_port_le {c : Nat → Int32} {N n k : Nat} : (tx_port c N n k).1 ≤ k + 23 := by
  unfold tx_port
  by_cases c0 : mo_kindBy (tx_at c N k) = -10001
  · rw [if_pos c0]; show k ≤ _; omega
  rw [if_neg c0]
  by_cases c1 : mo_kindBy (tx_at c N k) = 3 ∧ n = 0
  · rw [if_pos c1]; show k ≤ _; omega
  rw [if_neg c1]
  by_cases c2 : (tx_num c N (k + 1) 0 99).2 = false
  · rw [if_pos c2]; have := tx_num_le (c := c) (N := N) (j := k + 1) (lo := 0) (hi := 99); omega
  rw [if_neg c2]
  by_cases c3 : (tx_num c N (k + 3) 0 99).2 = false
  · rw [if_pos c3]; have := tx_num_le (c := c) (N := N) (j := k + 3) (lo := 0) (hi := 99); omega
  rw [if_neg c3]
  by_cases c4 : mo_kindBy (tx_at c N k) = 3
  · rw [if_pos c4]; have := tx_num_le (c := c) (N := N) (j := k + 5) (lo := 0) (hi := 99); omega
  · rw [if_neg c4]; have := tx_waves_le (c := c) (N := N) 3 0 (k + 5); omega
/-- where the ports begin -/
def tx_all (s : tt_St) (c : Nat → Int32) (N n : Nat) (b : Nat → Nat) : Prop := ∀ p, p < n → tx_has s s c N p (b p)
/-- a port that was read stays when a later one is -/
theorem tx_keep {s0 s s' : tt_St} {c : Nat → Int32} {N p q kp kq : Nat} (h : tx_has s0 s c N p kp) (g : tx_has s s' c N q kq) (hp : p < q) : tx_has s' s' c N p kp := by
  obtain ⟨h1, h2, h3, h4, h5, h6, _⟩ := h
  have hM : tx_M c N kp ≤ 3 := by
    unfold tx_M
    by_cases c3 : mo_kindBy (tx_at c N kp) = 3
    · rw [if_pos c3]; omega
    · rw [if_neg c3]; have := tx_many_b (c := c) (N := N) 3 0 (kp + 5); omega
  have k := g.2.2.2.2.2.2
  exact ⟨by rw [k 61 p (by omega) (by omega), h1], by rw [k 62 p (by omega) (by omega), h2], by rw [k 63 p (by omega) (by omega), h3], by rw [k 64 p (by omega) (by omega), h4], by rw [k 65 p (by omega) (by omega), h5], fun i q1 q2 => by rw [k 66 i (by omega) (by omega), h6 i q1 q2], fun _ _ _ _ => Eq.refl _⟩

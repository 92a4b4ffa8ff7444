/-! the reference reads a port -/
theorem p153_stop {a x x3 : Int32} {st : tt_St} (h : tt_I st 49 16 = 1) : ∀ n, mo_readPort_l153 a x n x3 st = (x3, st) := by
  intro n
  cases n with
  | zero => rfl
  | succ n => rw [mo_readPort_l153, if_neg (by rw [h]; decide)]
theorem tx_many_b {c : Nat → Int32} {N : Nat} : ∀ n w j, w ≤ tx_many c N n w j ∧ tx_many c N n w j ≤ w + n := by
  intro n
  induction n with
  | zero => intro w j; rw [tx_many]; omega
  | succ n ih =>
    intro w j
    rw [tx_many]
    by_cases q : ¬ w = 0 ∧ tx_fig c N j = false
    · rw [if_pos q]; omega
    · rw [if_neg q]; have := ih (w + 1) (j + 6); omega
def vP (s : tt_St) (c : Nat → Int32) (N p w j : Nat) (t : Nat × Bool) (M : Nat) (r : Int32 × tt_St) : Prop := r.1 = nI t.1 ∧ sx s r.2 ∧ (t.2 = false → tt_I r.2 49 16 = 1) ∧ (t.2 = true → t.1 = j + 6 * (M - w) ∧ tt_I r.2 49 16 = 0 ∧ tt_I r.2 49 17 = nI p ∧ ∀ a i, tt_A r.2 a i = (if a = 65 ∧ i = p then nI M else if a = 66 ∧ 9 * p + 3 * w ≤ i ∧ i < 9 * p + 3 * M then tx_nm c N (j + 2 * (i - (9 * p + 3 * w))) else tt_A s a i))
theorem mr_waves {c : Nat → Int32} {N p : Nat} {a1 x2 : Int32} (hp : p < 4) (hx : ¬ x2 = 3) : ∀ (n w j : Nat) (s : tt_St), w + n = 3 → j + 6 * n < 700 → tx_of s c N → tt_I s 49 16 = 0 → tt_I s 49 17 = nI p → tt_A s 65 p = nI w → vP s c N p w j (tx_waves c N n w j) (tx_many c N n w j) (mo_readPort_l153 a1 x2 (n + 1) (nI j) s) := by
  intro n
  induction n with
  | zero =>
    intro w j s hw hj h h16 h17 h65
    have w3 : w = 3 := by omega
    subst w3
    rw [mo_readPort_l153, if_pos h16, if_neg hx, h17, nI_clamp (by omega), h65, if_pos (show (3 : Int32) ≤ nI 3 from by decide), tx_waves, tx_many]
    refine ⟨Eq.refl _, sx.rfl s, fun q => Bool.noConfusion q, fun _ => ⟨by simp, h16, h17, fun a i => ?_⟩⟩
    by_cases q : a = 65 ∧ i = p
    · rw [if_pos q, q.1, q.2]; exact h65
    · rw [if_neg q, if_neg (by omega)]
  | succ n ih =>
    intro w j s hw hj h h16 h17 h65
    have n3 : ¬ (3 : Int32) ≤ nI w := nI_ge (b := 3) (by omega) (by omega)
    have w0 : nI w = 0 ↔ w = 0 := nI_inj4 (q := 0) (by omega) (by omega)
    rw [mo_readPort_l153, if_pos h16, if_neg hx, h17, nI_clamp (by omega), h65, if_neg n3, tx_waves, tx_many]
    have hf := tx_isf h (j := j) (by omega)
    have go : vP s c N p w j (if (tx_wave c N j).2 = false then tx_wave c N j else tx_waves c N n (w + 1) (j + 6)) (tx_many c N n (w + 1) (j + 6)) (mo_readPort_l153 a1 x2 (n + 1) ((mo_readWave s (nI j)).1) ((mo_readWave s (nI j)).2)) := by
      obtain ⟨k1, k2, k3, k4⟩ := mr_wave h (j := j) (p := p) (w := w) (by omega) hp (by omega) h16 h17 h65
      by_cases c1 : (tx_wave c N j).2 = false
      · rw [if_pos c1, p153_stop (k3 c1)]
        exact ⟨k1, k2, fun _ => k3 c1, fun q => by rw [c1] at q; exact Bool.noConfusion q⟩
      · have c1' : (tx_wave c N j).2 = true := by simpa using c1
        obtain ⟨m1, m2, m3, m4⟩ := k4 c1'
        rw [if_neg c1, k1, m1]
        obtain ⟨u1, u2, u3, u4⟩ := ih (w + 1) (j + 6) (mo_readWave s (nI j)).2 (by omega) (by omega) (k2.tx h) m2 m3 (by rw [m4, if_pos ⟨Eq.refl _, Eq.refl _⟩])
        refine ⟨u1, k2.trans u2, u3, fun q => ?_⟩
        obtain ⟨v1, v2, v3, v4⟩ := u4 q
        have hb := tx_many_b (c := c) (N := N) n (w + 1) (j + 6)
        refine ⟨by omega, v2, v3, fun a i => ?_⟩
        rw [v4]
        by_cases q1 : a = 65 ∧ i = p
        · rw [if_pos q1, if_pos q1]
        · rw [if_neg q1, if_neg q1, m4, if_neg q1]
          by_cases q2 : a = 66 ∧ 9 * p + 3 * (w + 1) ≤ i ∧ i < 9 * p + 3 * tx_many c N n (w + 1) (j + 6)
          · have q3 : a = 66 ∧ 9 * p + 3 * w ≤ i ∧ i < 9 * p + 3 * tx_many c N n (w + 1) (j + 6) := by omega
            rw [if_pos q2, if_pos q3, show j + 6 + 2 * (i - (9 * p + 3 * (w + 1))) = j + 2 * (i - (9 * p + 3 * w)) from by omega]
          · rw [if_neg q2]
            by_cases q4 : a = 66 ∧ 9 * p + 3 * w ≤ i ∧ i < 9 * p + 3 * w + 3
            · have q3 : a = 66 ∧ 9 * p + 3 * w ≤ i ∧ i < 9 * p + 3 * tx_many c N n (w + 1) (j + 6) := by omega
              rw [if_pos q4, if_pos q3]
            · have q3 : ¬ (a = 66 ∧ 9 * p + 3 * w ≤ i ∧ i < 9 * p + 3 * tx_many c N n (w + 1) (j + 6)) := by omega
              rw [if_neg q4, if_neg q3]
    by_cases c0 : w = 0
    · have nq : ¬ (¬ w = 0 ∧ tx_fig c N j = false) := fun q => q.1 c0
      rw [if_pos (w0.mpr c0), if_neg nq, if_neg nq]
      exact go
    · rw [if_neg (fun q => c0 (w0.mp q))]
      by_cases c2 : tx_fig c N j = false
      · rw [if_pos (hf.mpr c2), if_pos ⟨c0, c2⟩, if_pos ⟨c0, c2⟩]
        refine ⟨Eq.refl _, sx.rfl s, fun q => Bool.noConfusion q, fun _ => ⟨by simp, h16, h17, fun a i => ?_⟩⟩
        by_cases q : a = 65 ∧ i = p
        · rw [if_pos q, q.1, q.2]; exact h65
        · rw [if_neg q, if_neg (by omega)]
      · have nq : ¬ (¬ w = 0 ∧ tx_fig c N j = false) := fun q => c2 q.2
        rw [if_neg (fun q => c2 (hf.mp q)), if_neg nq, if_neg nq]
        exact go

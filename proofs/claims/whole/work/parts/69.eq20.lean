/-! the reference reads a wave -/
theorem w25_stop {a x x3 : Int32} {st : tt_St} (h : tt_I st 49 16 = 1) : ∀ n j, mo_readWave_l25 a x n j x3 st = (x3, st) := by
  intro n j
  cases n with
  | zero => rfl
  | succ n => rw [mo_readWave_l25, if_neg (by rw [h]; decide)]
theorem w25_step {a x x3 : Int32} {st : tt_St} (h : tt_I st 49 16 = 0) {n j : Nat} {lo hi : Int32} (e1 : (if (nI j) = 0 then 1 else 0 : Int32) = lo) (e2 : (if (nI j) = 2 then 63 else 99 : Int32) = hi) : mo_readWave_l25 a x (n + 1) j x3 st = mo_readWave_l25 a x n (j + 1) (mo_readNumber st x3 lo hi).1 (tt_pA (mo_readNumber st x3 lo hi).2 66 (Int32.toNatClampNeg (x + nI j)) (tt_I (mo_readNumber st x3 lo hi).2 49 24)) := by
  rw [mo_readWave_l25, if_pos h, e1, e2]
theorem w25_3 {a x x3 : Int32} {st : tt_St} (h : tt_I st 49 16 = 0) : mo_readWave_l25 a x 3 0 x3 st = mo_readWave_l25 a x 2 1 (mo_readNumber st x3 1 99).1 (tt_pA (mo_readNumber st x3 1 99).2 66 (Int32.toNatClampNeg (x + nI 0)) (tt_I (mo_readNumber st x3 1 99).2 49 24)) := w25_step (n := 2) (j := 0) h (by decide) (by decide)
theorem w25_2 {a x x3 : Int32} {st : tt_St} (h : tt_I st 49 16 = 0) : mo_readWave_l25 a x 2 1 x3 st = mo_readWave_l25 a x 1 2 (mo_readNumber st x3 0 99).1 (tt_pA (mo_readNumber st x3 0 99).2 66 (Int32.toNatClampNeg (x + nI 1)) (tt_I (mo_readNumber st x3 0 99).2 49 24)) := w25_step (n := 1) (j := 1) h (by decide) (by decide)
theorem w25_1 {a x x3 : Int32} {st : tt_St} (h : tt_I st 49 16 = 0) : mo_readWave_l25 a x 1 2 x3 st = mo_readWave_l25 a x 0 3 (mo_readNumber st x3 0 63).1 (tt_pA (mo_readNumber st x3 0 63).2 66 (Int32.toNatClampNeg (x + nI 2)) (tt_I (mo_readNumber st x3 0 63).2 49 24)) := w25_step (n := 0) (j := 2) h (by decide) (by decide)
def wP (s : tt_St) (c : Nat → Int32) (N j p w : Nat) (t : Nat × Bool) (r : Int32 × tt_St) : Prop := r.1 = nI t.1 ∧ sx s r.2 ∧ (t.2 = false → tt_I r.2 49 16 = 1) ∧ (t.2 = true → t.1 = j + 6 ∧ tt_I r.2 49 16 = 0 ∧ tt_I r.2 49 17 = nI p ∧ ∀ a i, tt_A r.2 a i = (if a = 66 ∧ 9 * p + 3 * w ≤ i ∧ i < 9 * p + 3 * w + 3 then tx_nm c N (j + 2 * (i - (9 * p + 3 * w))) else tt_A s a i))
theorem wP_bad {s F : tt_St} {c : Nat → Int32} {N j p w : Nat} {t : Nat × Bool} {x : Int32} (g1 : sx s F) (g2 : tt_I F 49 16 = 1) (g3 : x = nI t.1) (g4 : t.2 = false) : wP s c N j p w t (x, F) := ⟨g3, g1, fun _ => g2, fun q => by rw [g4] at q; exact Bool.noConfusion q⟩
theorem mr_w25 {s : tt_St} {c : Nat → Int32} {N : Nat} (h : tx_of s c N) {j p w : Nat} (hj : j < 800) (hp : p < 4) (hw : w < 3) (h16 : tt_I s 49 16 = 0) (h17 : tt_I s 49 17 = nI p) :
    wP s c N j p w (tx_wave c N j) (mo_readWave_l25 (nI j) ((9 * nI p) + (3 * nI w)) 3 0 (nI j) s) := by
  have ix : ∀ f, f < 3 → Int32.toNatClampNeg (((9 * nI p) + (3 * nI w)) + nI f) = 9 * p + 3 * w + f := fun f hf => eq_ix hp hw hf (Eq.refl _)
  rw [w25_3 h16, ix 0 (by omega)]
  obtain ⟨a1, a2, a3⟩ := mr_num h (j := j) (by omega) 1 99
  have t1 : ∀ (s : tt_St) (x y : Nat) (v : Int32) (o f : Nat), tt_I (tt_pA s x y v) o f = tt_I s o f := fun _ _ _ _ _ _ => Eq.refl _
  have t2 : ∀ (s : tt_St) (x y : Nat) (v : Int32) (o f : Nat), tt_A (tt_pI s x y v) o f = tt_A s o f := fun _ _ _ _ _ _ => Eq.refl _
  by_cases c1 : (tx_num c N j 1 99).2 = false
  · obtain ⟨b1, b2, b3⟩ := a3 c1
    have e : tx_wave c N j = tx_num c N j 1 99 := by rw [tx_wave, if_pos c1]
    rw [e, w25_stop (by rw [t1]; exact b2)]
    exact wP_bad (b1.trans (sx.pA _ _ (by omega))) (by rw [t1]; exact b2) a1 c1
  have c1' : (tx_num c N j 1 99).2 = true := by simpa using c1
  rw [a1, (tx_num_ok c1').1, a2 c1', px_I1]
  have g1 : sx s (tt_pA (tt_pI s 49 24 (tx_nm c N j)) 66 (9 * p + 3 * w + 0) (tx_nm c N j)) := (sx.pI s _ (by omega)).trans (sx.pA _ _ (by omega))
  have g16 : tt_I (tt_pA (tt_pI s 49 24 (tx_nm c N j)) 66 (9 * p + 3 * w + 0) (tx_nm c N j)) 49 16 = 0 := by rw [t1, px_I (by omega), h16]
  have g17 : tt_I (tt_pA (tt_pI s 49 24 (tx_nm c N j)) 66 (9 * p + 3 * w + 0) (tx_nm c N j)) 49 17 = nI p := by rw [t1, px_I (by omega), h17]
  have gA : ∀ a i, tt_A (tt_pA (tt_pI s 49 24 (tx_nm c N j)) 66 (9 * p + 3 * w + 0) (tx_nm c N j)) a i = (if a = 66 ∧ i = 9 * p + 3 * w + 0 then tx_nm c N j else tt_A s a i) := fun a i => by
    by_cases q : a = 66 ∧ i = 9 * p + 3 * w + 0
    · rw [if_pos q, q.1, q.2, px_A1]
    · rw [if_neg q, px_A q, t2]
  generalize tt_pA (tt_pI s 49 24 (tx_nm c N j)) 66 (9 * p + 3 * w + 0) (tx_nm c N j) = s1 at g1 g16 g17 gA ⊢
  rw [w25_2 g16, ix 1 (by omega)]
  obtain ⟨d1, d2, d3⟩ := mr_num (g1.tx h) (j := j + 2) (by omega) 0 99
  by_cases c2 : (tx_num c N (j + 2) 0 99).2 = false
  · obtain ⟨b1, b2, b3⟩ := d3 c2
    have e : tx_wave c N j = tx_num c N (j + 2) 0 99 := by rw [tx_wave, if_neg c1, if_pos c2]
    rw [e, w25_stop (by rw [t1]; exact b2)]
    exact wP_bad (g1.trans (b1.trans (sx.pA _ _ (by omega)))) (by rw [t1]; exact b2) d1 c2
  have c2' : (tx_num c N (j + 2) 0 99).2 = true := by simpa using c2
  rw [d1, (tx_num_ok c2').1, d2 c2', px_I1]
  have k1 : sx s (tt_pA (tt_pI s1 49 24 (tx_nm c N (j + 2))) 66 (9 * p + 3 * w + 1) (tx_nm c N (j + 2))) := g1.trans ((sx.pI s1 _ (by omega)).trans (sx.pA _ _ (by omega)))
  have k16 : tt_I (tt_pA (tt_pI s1 49 24 (tx_nm c N (j + 2))) 66 (9 * p + 3 * w + 1) (tx_nm c N (j + 2))) 49 16 = 0 := by rw [t1, px_I (by omega), g16]
  have k17 : tt_I (tt_pA (tt_pI s1 49 24 (tx_nm c N (j + 2))) 66 (9 * p + 3 * w + 1) (tx_nm c N (j + 2))) 49 17 = nI p := by rw [t1, px_I (by omega), g17]
  have kA : ∀ a i, tt_A (tt_pA (tt_pI s1 49 24 (tx_nm c N (j + 2))) 66 (9 * p + 3 * w + 1) (tx_nm c N (j + 2))) a i = (if a = 66 ∧ i = 9 * p + 3 * w + 1 then tx_nm c N (j + 2) else tt_A s1 a i) := fun a i => by
    by_cases q : a = 66 ∧ i = 9 * p + 3 * w + 1
    · rw [if_pos q, q.1, q.2, px_A1]
    · rw [if_neg q, px_A q, t2]
  generalize tt_pA (tt_pI s1 49 24 (tx_nm c N (j + 2))) 66 (9 * p + 3 * w + 1) (tx_nm c N (j + 2)) = s2 at k1 k16 k17 kA ⊢
  rw [w25_1 k16, ix 2 (by omega), show j + 2 + 2 = j + 4 from rfl]
  obtain ⟨e1, e2, e3⟩ := mr_num (k1.tx h) (j := j + 4) (by omega) 0 63
  have ew : tx_wave c N j = tx_num c N (j + 4) 0 63 := by rw [tx_wave, if_neg c1, if_neg c2]
  rw [mo_readWave_l25, ew]
  by_cases c3 : (tx_num c N (j + 4) 0 63).2 = false
  · obtain ⟨b1, b2, b3⟩ := e3 c3
    exact wP_bad (k1.trans (b1.trans (sx.pA _ _ (by omega)))) (by rw [t1]; exact b2) e1 c3
  have c3' : (tx_num c N (j + 4) 0 63).2 = true := by simpa using c3
  rw [e1, (tx_num_ok c3').1, e2 c3', px_I1]
  have f1 : sx s (tt_pA (tt_pI s2 49 24 (tx_nm c N (j + 4))) 66 (9 * p + 3 * w + 2) (tx_nm c N (j + 4))) := k1.trans ((sx.pI s2 _ (by omega)).trans (sx.pA _ _ (by omega)))
  have f16 : tt_I (tt_pA (tt_pI s2 49 24 (tx_nm c N (j + 4))) 66 (9 * p + 3 * w + 2) (tx_nm c N (j + 4))) 49 16 = 0 := by rw [t1, px_I (by omega), k16]
  have f17 : tt_I (tt_pA (tt_pI s2 49 24 (tx_nm c N (j + 4))) 66 (9 * p + 3 * w + 2) (tx_nm c N (j + 4))) 49 17 = nI p := by rw [t1, px_I (by omega), k17]
  have fA : ∀ a i, tt_A (tt_pA (tt_pI s2 49 24 (tx_nm c N (j + 4))) 66 (9 * p + 3 * w + 2) (tx_nm c N (j + 4))) a i = (if a = 66 ∧ i = 9 * p + 3 * w + 2 then tx_nm c N (j + 4) else tt_A s2 a i) := fun a i => by
    by_cases q : a = 66 ∧ i = 9 * p + 3 * w + 2
    · rw [if_pos q, q.1, q.2, px_A1]
    · rw [if_neg q, px_A q, t2]
  generalize tt_pA (tt_pI s2 49 24 (tx_nm c N (j + 4))) 66 (9 * p + 3 * w + 2) (tx_nm c N (j + 4)) = s3 at f1 f16 f17 fA ⊢
  refine ⟨by rw [(tx_num_ok c3').1], f1, fun q => absurd q (by rw [c3']; decide), fun _ => ⟨by rw [(tx_num_ok c3').1], f16, f17, fun a i => ?_⟩⟩
  show tt_A s3 a i = _
  by_cases q2 : a = 66 ∧ 9 * p + 3 * w ≤ i ∧ i < 9 * p + 3 * w + 3
  · rw [if_pos q2, fA]
    by_cases r2 : a = 66 ∧ i = 9 * p + 3 * w + 2
    · rw [if_pos r2, r2.2, show j + 2 * (9 * p + 3 * w + 2 - (9 * p + 3 * w)) = j + 4 from by omega]
    rw [if_neg r2, kA]
    by_cases r1 : a = 66 ∧ i = 9 * p + 3 * w + 1
    · rw [if_pos r1, r1.2, show j + 2 * (9 * p + 3 * w + 1 - (9 * p + 3 * w)) = j + 2 from by omega]
    have r0 : a = 66 ∧ i = 9 * p + 3 * w + 0 := by omega
    rw [if_neg r1, gA, if_pos r0, r0.2, show j + 2 * (9 * p + 3 * w + 0 - (9 * p + 3 * w)) = j from by omega]
  · rw [if_neg q2, fA, if_neg (by omega), kA, if_neg (by omega), gA, if_neg (by omega)]
theorem mr_wave {s : tt_St} {c : Nat → Int32} {N : Nat} (h : tx_of s c N) {j p w : Nat} (hj : j < 800) (hp : p < 4) (hw : w < 3) (h16 : tt_I s 49 16 = 0) (h17 : tt_I s 49 17 = nI p) (h65 : tt_A s 65 p = nI w) :
    (mo_readWave s (nI j)).1 = nI (tx_wave c N j).1 ∧ sx s (mo_readWave s (nI j)).2 ∧
    ((tx_wave c N j).2 = false → tt_I (mo_readWave s (nI j)).2 49 16 = 1) ∧
    ((tx_wave c N j).2 = true → (tx_wave c N j).1 = j + 6 ∧ tt_I (mo_readWave s (nI j)).2 49 16 = 0 ∧ tt_I (mo_readWave s (nI j)).2 49 17 = nI p ∧ ∀ a i, tt_A (mo_readWave s (nI j)).2 a i = (if a = 65 ∧ i = p then nI (w + 1) else if a = 66 ∧ 9 * p + 3 * w ≤ i ∧ i < 9 * p + 3 * w + 3 then tx_nm c N (j + 2 * (i - (9 * p + 3 * w))) else tt_A s a i)) := by
  have k := mr_w25 h hj hp hw h16 h17
  rw [mo_readWave, h17, nI_clamp (by omega), h65]
  generalize mo_readWave_l25 (nI j) ((9 * nI p) + (3 * nI w)) 3 0 (nI j) s = r at k ⊢
  obtain ⟨x, F⟩ := r
  obtain ⟨k1, k2, k3, k4⟩ := k
  refine ⟨k1, k2.trans (sx.pA F _ (by omega)), fun q => k3 q, fun q => ?_⟩
  obtain ⟨m1, m2, m3, m4⟩ := k4 q
  refine ⟨m1, m2, m3, fun a i => ?_⟩
  have m3' : tt_I F 49 17 = nI p := m3
  have m4' : ∀ a i, tt_A F a i = (if a = 66 ∧ 9 * p + 3 * w ≤ i ∧ i < 9 * p + 3 * w + 3 then tx_nm c N (j + 2 * (i - (9 * p + 3 * w))) else tt_A s a i) := m4
  show tt_A (tt_pA F 65 (Int32.toNatClampNeg (tt_I F 49 17)) (tt_A F 65 (Int32.toNatClampNeg (tt_I F 49 17)) + 1)) a i = _
  rw [m3', nI_clamp (by omega), m4' 65 p, if_neg (by omega), h65, nI_1]
  by_cases q1 : a = 65 ∧ i = p
  · rw [if_pos q1, q1.1, q1.2, px_A1]
  · rw [if_neg q1, px_A q1, m4']

theorem tb_ok_pI {st : tt_St} {o f : Nat} {v : Int32} (h : tb_ok st) (h6 : f ≠ 6) (h1 : f ≠ 1) : tb_ok (tt_pI st o f v) := by
  refine ⟨fun o' ho' => ?_, fun o' ho' => ?_, ?_⟩
  · rw [tt_pI_nf (fun q => h6 q.symm)]; exact h.1 o' ho'
  · rw [tt_pI_nf (fun q => h1 q.symm)]; exact h.2.1 o' ho'
  · rw [tt_pI_nf (fun q => h1 q.symm)]; exact h.2.2
theorem tb_ok_p6 {st : tt_St} {o : Nat} {v : Int32} (h : tb_ok st) (hv : 0 ≤ v.toInt ∧ v.toInt ≤ 3) : tb_ok (tt_pI st o 6 v) := by
  refine ⟨fun o' ho' => ?_, fun o' ho' => ?_, ?_⟩
  · by_cases q : o' = o
    · subst q
      have e : tt_I (tt_pI st o' 6 v) o' 6 = v := by simp [tt_I, tt_pI]
      rw [e]; exact hv
    · rw [tt_pI_ne q]; exact h.1 o' ho'
  · rw [tt_pI_nf (by decide)]; exact h.2.1 o' ho'
  · rw [tt_pI_nf (by decide)]; exact h.2.2
theorem tb_ok_p1 {st : tt_St} {o : Nat} {v : Int32} (h : tb_ok st) (h2 : tt_ci o ≠ 2) (h1 : o ≠ 1) : tb_ok (tt_pI st o 1 v) := by
  refine ⟨fun o' ho' => ?_, fun o' ho' => ?_, ?_⟩
  · rw [tt_pI_nf (by decide)]; exact h.1 o' ho'
  · have q : o' ≠ o := fun q => h2 (by rw [← q]; exact ho')
    rw [tt_pI_ne q]; exact h.2.1 o' ho'
  · have q : (1 : Nat) ≠ o := fun q => h1 q.symm
    rw [tt_pI_ne q]; exact h.2.2
theorem tb_ok_s1 {st : tt_St} {o : Nat} {v : Int32} (h : tb_ok st) (ho : tt_ci o = 2) (hv : 0 ≤ v.toInt ∧ v.toInt ≤ 4) : tb_ok (tt_pI st o 1 v) := by
  refine ⟨fun o' ho' => ?_, fun o' ho' => ?_, ?_⟩
  · rw [tt_pI_nf (by decide)]; exact h.1 o' ho'
  · by_cases q : o' = o
    · subst q
      have e : tt_I (tt_pI st o' 1 v) o' 1 = v := by simp [tt_I, tt_pI]
      rw [e]; exact hv
    · rw [tt_pI_ne q]; exact h.2.1 o' ho'
  · have q : (1 : Nat) ≠ o := fun q => by rw [← q] at ho; exact absurd ho (by decide)
    rw [tt_pI_ne q]; exact h.2.2
theorem wa_put_ok {st : tt_St} {o : Nat} {a b c : Int32} (h : tb_ok st) (ho : tt_ci o = 3) : tb_ok (wa_put st o a b c) := by
  have h1 : o ≠ 1 := fun q => by rw [q] at ho; exact absurd ho (by decide)
  have h2 : tt_ci o ≠ 2 := by omega
  rw [wa_put]
  exact tb_ok_pI (tb_ok_p1 (tb_ok_pI h (by decide) (by decide)) h2 h1) (by decide) (by decide)
theorem po_begin_ok {st : tt_St} {o : Nat} {a b c d : Int32} (h : tb_ok st) (ho : tt_ci o = 1) : tb_ok (po_begin st o a b c d) := by
  have h1 : o ≠ 1 := fun q => by rw [q] at ho; exact absurd ho (by decide)
  have h2 : tt_ci o ≠ 2 := by omega
  rw [po_begin]
  exact tb_ok_p6 (tb_ok_pI (tb_ok_pI (tb_ok_pI (tb_ok_p1 (tb_ok_pI h (by decide) (by decide)) h2 h1) (by decide) (by decide)) (by decide) (by decide)) (by decide) (by decide)) (by decide)
theorem po_begin_ne {st : tt_St} {o o' f : Nat} {a b c d : Int32} (h : o' ≠ o) : tt_I (po_begin st o a b c d) o' f = tt_I st o' f := by
  rw [po_begin, tt_pI_ne h, tt_pI_ne h, tt_pI_ne h, tt_pI_ne h, tt_pI_ne h, tt_pI_ne h]
theorem po_putWave_ok {st : tt_St} {o : Nat} {a b c : Int32} (h : tb_ok st) (ho : tt_ci o = 1) : tb_ok (po_putWave st o a b c) := by
  rw [po_putWave]
  by_cases q : 3 ≤ tt_I st o 6
  · rw [if_pos q]; exact h
  · rw [if_neg q]
    have hb := po_many_in h ho q
    have h9 := tt_in_lt hb
    refine tb_ok_p6 (wa_put_ok h (tt_wv_ci ho hb)) ?_
    rw [wa_put_ne (tt_wv_ne ho)]
    have e1 := tt_addn (a := tt_I st o 6) (b := 1) (n := 1) rfl (by omega) (by omega)
    omega
theorem po_putWave_ne {st : tt_St} {o o' f : Nat} {a b c : Int32} (ho : tt_ci o = 1) (h : o' ≠ o) (h3 : tt_ci o' ≠ 3) (hI : tb_ok st) : tt_I (po_putWave st o a b c) o' f = tt_I st o' f := by
  rw [po_putWave]
  by_cases q : 3 ≤ tt_I st o 6
  · rw [if_pos q]
  · rw [if_neg q]
    have hb := po_many_in hI ho q
    rw [tt_pI_ne h, wa_put_ne (fun z => h3 (by rw [z]; exact tt_wv_ci ho hb))]
theorem tt_po_ne {o a : Nat} {i : Int32} (ho : tt_ci o = 2) (h1 : tt_ci a = 2) (hne : a ≠ o) (hb : vp_in i 4) : tt_po a i.toNatClampNeg ≠ tt_po o i.toNatClampNeg := by
  have h2 := tt_inN hb
  unfold tt_po
  rcases tt_se_rng ho with rfl | rfl <;> rcases tt_se_rng h1 with rfl | rfl <;> omega
theorem pg_num_i {st : tt_St} {a : Int32} (hI : tb_ok st) (ha : a.toInt ≤ 1000) (c1 : ¬ a < 0) (c2 : a + 1 < tt_I st 1 1) : vp_in a 96 ∧ vp_in (a + 1) 96 := by
  have e0 : (0 : Int32).toInt = 0 := rfl
  rw [tt_lt, e0] at c1
  have e := tt_addn (a := a) (b := 1) (n := 1) rfl (by omega) (by omega)
  rw [tt_lt, e] at c2
  have h := hI.2.2
  exact ⟨tt_in (by omega) (by omega), tt_in (by omega) (by omega)⟩
theorem pg_cea {st : tt_St} {a : Int32} (hp : 0 ≤ a.toInt ∧ a.toInt ≤ 96) (hs : 0 ≤ (tt_I st 1 2).toInt ∧ (tt_I st 1 2).toInt ≤ 96) (c : 7 ≤ a - tt_I st 1 2) : vp_in (tt_I st 1 2) 96 := by
  have e7 : (7 : Int32).toInt = 7 := rfl
  have e : (a - tt_I st 1 2).toInt = a.toInt - (tt_I st 1 2).toInt := tt_sub (by omega) (by omega)
  rw [tt_le, e7, e] at c
  exact tt_in (by omega) (by omega)
theorem pg_fit1 {st : tt_St} {a : Int32} (hp : vp_in a 96) (hs : 0 ≤ (tt_I st 1 2).toInt ∧ (tt_I st 1 2).toInt ≤ a.toInt) : vp_in (tt_I st 1 2) 96 := by
  have := tt_in_lt hp
  exact tt_in (by omega) (by omega)
theorem pg_fit2 {st : tt_St} {a : Int32} (hp : vp_in a 96) (hs : 0 ≤ (tt_I st 1 2).toInt ∧ (tt_I st 1 2).toInt ≤ a.toInt) (c : ¬ a = tt_I st 1 2) : vp_in (a - 1) 96 := by
  have h := tt_in_lt hp
  rw [tt_eq] at c
  have e1 : (1 : Int32).toInt = 1 := rfl
  have e : (a - 1).toInt = a.toInt - 1 := by rw [tt_sub] <;> rw [e1] <;> omega
  exact tt_in (by omega) (by omega)
theorem pg_hsA {j : Nat} (hj : j < 1000) : 0 ≤ (nI j + 1).toInt ∧ (nI j + 1).toInt ≤ ((j + 1 : Nat) : Int) := by
  rw [nI_1, nI_toInt (by omega)]
  omega
theorem pg_rp_a {a b : Int32} {n : Int} (hb : b.toInt = n) (hp : 0 ≤ a.toInt ∧ a.toInt ≤ 200) (hn : 0 ≤ n ∧ n ≤ 100) : (a + b).toInt ≤ 1000 := by
  have := tt_addn (a := a) hb (by omega) (by omega)
  omega
theorem pg_rp_s {st : tt_St} {x : Int32} {n : Nat} (hI : tb_ok st) (hx : 0 ≤ x.toInt ∧ x.toInt ≤ 101 ∧ 102 ≤ x.toInt + 6 * ((n + 1 : Nat) : Int)) (c : ¬ tt_I st 1 1 ≤ x) : 0 ≤ (x + 6).toInt ∧ (x + 6).toInt ≤ 101 ∧ 102 ≤ (x + 6).toInt + 6 * (n : Int) := by
  have e := tt_addn (a := x) (b := 6) (n := 6) rfl (by omega) (by omega)
  rw [tt_le] at c
  have := hI.2.2
  omega
theorem pg_rp_i {st : tt_St} {x : Int32} (hI : tb_ok st) (hx : 0 ≤ x.toInt) (c : ¬ tt_I st 1 1 ≤ x) : vp_in x 96 := by
  rw [tt_le] at c
  have := hI.2.2
  exact tt_in hx (by omega)
theorem pg_sm_in {x : Int32} {n : Nat} (hm : 0 ≤ x.toInt ∧ x.toInt ≤ 4 ∧ 5 ≤ x.toInt + (n : Int)) (c : ¬ 4 ≤ x) : vp_in x 4 := by
  have e : (4 : Int32).toInt = 4 := rfl
  rw [tt_le, e] at c
  exact tt_in hm.1 (by omega)

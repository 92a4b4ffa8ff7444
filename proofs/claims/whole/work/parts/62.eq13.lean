/-! the relation reads no long number -/
theorem rl.cm {k : Nat} {sc sm sm' : tt_St} (h : rl k sc sm) (h1 : sm'.1 = sm.1) (h2 : sm'.2.2 = sm.2.2) : rl k sc sm' := by
  have h4 := h.many.1
  obtain ⟨b1, b2, b3, b4, b5, b6, b7, b8⟩ := h
  have mI : ∀ f, tt_I sm' 49 f = tt_I sm 49 f := fun f => tt_I1 h1 49 f
  have mA : ∀ a j, tt_A sm' a j = tt_A sm a j := fun a j => by unfold tt_A; rw [h2]
  exact ⟨b1, cg_mo b2 (fun f _ => mI f) (fun p _ => mA _ _), cg_rounds b3 (fun j _ => mA _ _), cg_page b4 rfl (fun _ => rfl) (mI _) (fun _ => mA _ _), cg_sea b5 rfl h4 (fun _ _ _ => rfl) (fun _ _ _ => rfl) (mI _) (fun _ _ _ => mA _ _), cg_seen b6 rfl rfl h4 (fun _ _ => rfl) (mI _) (fun _ _ _ => mA _ _), cg_reads b7 rfl (mI _), cg_kept b8 h4 (fun _ _ _ => rfl) (fun _ _ => mI _) (fun _ _ _ => mA _ _)⟩
theorem dr_land (z : Int64) : (z &&& 2147483647).toInt = z.toInt % 2147483648 := by
  have e : (z &&& 2147483647).toBitVec.toNat = z.toBitVec.toNat % 2 ^ 31 := by
    rw [Int64.toBitVec_and, BitVec.toNat_and]
    exact Nat.and_two_pow_sub_one_eq_mod _ 31
  have h : (z &&& 2147483647).toBitVec.toNat < 2147483648 := by rw [e]; exact Nat.mod_lt _ (by decide)
  have e2 : (z &&& 2147483647).toInt = (z &&& 2147483647).toBitVec.toInt := rfl
  have e3 : z.toInt = z.toBitVec.toInt := rfl
  rw [e2, BitVec.toInt_eq_toNat_of_lt (by omega), e, e3, BitVec.toInt_eq_toNat_cond]
  split <;> omega
theorem dr_iand (z : Int32) : (z &&& 2147483647).toInt = z.toInt % 2147483648 := by
  have e : (z &&& 2147483647).toBitVec.toNat = z.toBitVec.toNat % 2 ^ 31 := by
    rw [Int32.toBitVec_and, BitVec.toNat_and]
    exact Nat.and_two_pow_sub_one_eq_mod _ 31
  have h : (z &&& 2147483647).toBitVec.toNat < 2147483648 := by rw [e]; exact Nat.mod_lt _ (by decide)
  have e2 : (z &&& 2147483647).toInt = (z &&& 2147483647).toBitVec.toInt := rfl
  have e3 : z.toInt = z.toBitVec.toInt := rfl
  rw [e2, BitVec.toInt_eq_toNat_of_lt (by omega), e, e3, BitVec.toInt_eq_toNat_cond]
  split <;> omega
theorem dr_seed (x : Int32) : ((1103515245 * x.toInt64) + 12345) &&& 2147483647 = (tb_nextSeed x).toInt64 := by
  rw [← Int64.toInt_inj, dr_land, Int32.toInt_toInt64, tb_nextSeed, dr_iand, Int64.toInt_add, Int64.toInt_mul, Int32.toInt_add, Int32.toInt_mul, Int32.toInt_toInt64, show (1103515245 : Int64).toInt = 1103515245 from rfl, show (12345 : Int64).toInt = 12345 from rfl, show (1103515245 : Int32).toInt = 1103515245 from rfl, show (12345 : Int32).toInt = 12345 from rfl]
  have hx := tt_rg x
  rw [Int.bmod_def, Int.bmod_def, Int.bmod_def, Int.bmod_def]
  omega
theorem dr_draw {s : tt_St} {x n : Int32} (hs : tt_L s 49 25 = x.toInt64) (hn : 0 < n.toInt) : (mo_draw s n).1 = ((tb_nextSeed x) >>> ((16 : Int32) &&& 31)) - ((tb_nextSeed x) >>> ((16 : Int32) &&& 31)) / n * n ∧ (mo_draw s n).2 = tt_pL s 49 25 (tb_nextSeed x).toInt64 := by
  have hy := tb_seed_pos x
  have e : tt_L (tt_pL s 49 25 (tb_nextSeed x).toInt64) 49 25 = (tb_nextSeed x).toInt64 := by simp [tt_L, tt_pL]
  rw [mo_draw, hs, dr_seed, e]
  refine ⟨?_, rfl⟩
  show Int64.toInt32 _ = _
  generalize tb_nextSeed x = y at hy
  have h16 := tt_shr16 hy
  generalize y >>> ((16 : Int32) &&& 31) = q at h16
  have hr := tt_rg y
  have ey : y.toInt64.toInt = y.toInt := Int32.toInt_toInt64 y
  have en : n.toInt64.toInt = n.toInt := Int32.toInt_toInt64 n
  have eq : q.toInt64.toInt = q.toInt := Int32.toInt_toInt64 q
  have e65 : (65536 : Int64).toInt = 65536 := rfl
  have hq : y.toInt64 / 65536 = q.toInt64 := by
    rw [← Int64.toInt_inj, Int64.toInt_div, ey, e65, Int.tdiv_eq_ediv_of_nonneg hy, eq, h16, Int.bmod_def]; omega
  rw [hq, tt_eq, tt_rem hn, Int64.toInt_toInt32, tt_lrem (by rw [eq, h16]; omega) (by rw [en]; exact hn), eq, en, Int.tmod_eq_emod_of_nonneg (by rw [h16]; omega)]
  have h3 := Int.emod_nonneg q.toInt (by omega : n.toInt ≠ 0)
  have h4 := Int.emod_lt_of_pos q.toInt hn
  have hnr := tt_rg n
  rw [Int.bmod_def]; omega
theorem dr_l {k : Nat} {sc : tt_St} {a b c : Int32} (hz : 0 < (tt_I sc 3 1).toInt) : ∀ (n j : Nat) (x4 x5 x6 : Int32) (s : tt_St), rl k sc s → tt_L s 49 25 = x6.toInt64 → (tb_drawn_l53 sc a b c n j x4 x5 x6).1 = (mo_drawnNow_l15 a b c n j x4 x5 s).1 ∧ (tb_drawn_l53 sc a b c n j x4 x5 x6).2.1 = (mo_drawnNow_l15 a b c n j x4 x5 s).2.1 ∧ rl k sc (mo_drawnNow_l15 a b c n j x4 x5 s).2.2 ∧ tt_L (mo_drawnNow_l15 a b c n j x4 x5 s).2.2 49 25 = (tb_drawn_l53 sc a b c n j x4 x5 x6).2.2.toInt64 := by
  intro n
  induction n with
  | zero => intro j x4 x5 x6 s h hs; exact ⟨rfl, rfl, h, hs⟩
  | succ n ih =>
    intro j x4 x5 x6 s h hs
    have e1 : tt_I s 49 1 = tt_I sc 3 1 := h.2.2.2.2.1.1.symm
    obtain ⟨d1, d2⟩ := dr_draw hs (n := tt_I s 49 1) (by rw [e1]; exact hz)
    have hs2 : tt_L (mo_draw s (tt_I s 49 1)).2 49 25 = (tb_nextSeed x6).toInt64 := by rw [d2]; simp [tt_L, tt_pL]
    obtain ⟨d3, d4⟩ := dr_draw hs2 (n := 1440) (by decide)
    have hs3 : tt_L (mo_draw (mo_draw s (tt_I s 49 1)).2 1440).2 49 25 = (tb_nextSeed (tb_nextSeed x6)).toInt64 := by rw [d4]; simp [tt_L, tt_pL]
    have h' : rl k sc (mo_draw (mo_draw s (tt_I s 49 1)).2 1440).2 := h.cm (by rw [d4, d2]; rfl) (by rw [d4, d2]; rfl)
    rw [tb_drawn_l53, mo_drawnNow_l15]
    rw [e1] at d1
    have hin := tb_draw_in (x := x6) h.1 (fun q => by rw [q] at hz; exact absurd hz (by decide))
    have hlt : Int32.toNatClampNeg (((tb_nextSeed x6) >>> ((16 : Int32) &&& 31)) - ((tb_nextSeed x6) >>> ((16 : Int32) &&& 31)) / (tt_I sc 3 1) * (tt_I sc 3 1)) < (tt_I sc 3 1).toNatClampNeg := by
      have hr := tt_rem (x := (tb_nextSeed x6) >>> ((16 : Int32) &&& 31)) hz
      have hb := tt_remb (x := (tb_nextSeed x6) >>> ((16 : Int32) &&& 31)) hz
      rw [tt_clamp, tt_clamp]; omega
    obtain ⟨p, hp⟩ : ∃ p, p = Int32.toNatClampNeg (((tb_nextSeed x6) >>> ((16 : Int32) &&& 31)) - ((tb_nextSeed x6) >>> ((16 : Int32) &&& 31)) / (tt_I sc 3 1) * (tt_I sc 3 1)) := ⟨_, rfl⟩
    have ep : ((tb_nextSeed x6) >>> ((16 : Int32) &&& 31)) - ((tb_nextSeed x6) >>> ((16 : Int32) &&& 31)) / (tt_I sc 3 1) * (tt_I sc 3 1) = nI p := by rw [hp]; exact (tt_nIc (tt_in_lt hin).1).symm
    rw [e1] at d3 h' hs3 ⊢
    rw [← hp] at hlt
    rw [d1, d3, ep]
    have h4 := h.many.1
    have hh : ∀ t, mo_heightAt (mo_draw (mo_draw s (tt_I sc 3 1)).2 1440).2 (nI p) t = se_heightAt sc 3 (nI p) t := fun t => (h'.height hlt t).symm
    have hm : tt_A (mo_draw (mo_draw s (tt_I sc 3 1)).2 1440).2 51 (Int32.toNatClampNeg (nI p)) = tt_I sc (9 + Int32.toNatClampNeg (nI p)) 1 := by
      rw [nI_clamp (by omega)]; exact (h'.port hlt).1.1.2.1.symm
    rw [hh, hm]
    have hi : ∀ (P : Prop) [Decidable P], x4 + (if P then 0 else 1 : Int32) = (if P then x4 else x4 + 1 : Int32) := fun P _ => by
      by_cases c : P
      · rw [if_pos c, if_pos c, Int32.add_zero]
      · rw [if_neg c, if_neg c]
    rw [hi]
    exact ih _ _ _ _ _ h' hs3
theorem eq_drawn_c {k : Nat} {sc sm : tt_St} (h : rl k sc sm) (a b c : Int32) : tb_drawn sc a b c = (mo_drawn sm a b c).1 ∧ rl k sc (mo_drawn sm a b c).2 := by
  rw [tb_drawn, mo_drawn, eq_within, eq_within]
  by_cases d1 : mo_within a 1 50 = 0
  · rw [if_pos d1, if_pos d1]; exact ⟨rfl, h⟩
  rw [if_neg d1, if_neg d1]
  by_cases d2 : b < 0
  · rw [if_pos d2, if_pos d2]; exact ⟨rfl, h⟩
  rw [if_neg d2, if_neg d2]
  by_cases d3 : mo_within c 0 2 = 0
  · rw [if_pos d3, if_pos d3]; exact ⟨rfl, h⟩
  rw [if_neg d3, if_neg d3]
  have e1 : tt_I sm 49 1 = tt_I sc 3 1 := h.2.2.2.2.1.1.symm
  rw [e1]
  by_cases d4 : tt_I sc 3 1 = 0
  · rw [if_pos d4, if_pos d4]; exact ⟨rfl, h⟩
  rw [if_neg d4, if_neg d4, mo_drawnNow]
  have hz : 0 < (tt_I sc 3 1).toInt := by
    have := (h.1.2.1 3 rfl).1
    rw [tt_eq, show (0 : Int32).toInt = 0 from rfl] at d4
    omega
  obtain ⟨q1, q2, q3, q4⟩ := dr_l (k := k) (sc := sc) (a := a) (b := b) (c := c) hz (Int32.toNatClampNeg a) 0 0 0 b (tt_pL sm 49 25 (Int32.toInt64 b)) (h.cm rfl rfl) (by simp [tt_L, tt_pL])
  by_cases c0 : c = 0
  · rw [if_pos c0, if_pos c0]; exact ⟨q1, q3⟩
  rw [if_neg c0, if_neg c0]
  by_cases c1 : c = 1
  · rw [if_pos c1, if_pos c1]; exact ⟨q2, q3⟩
  rw [if_neg c1, if_neg c1]
  refine ⟨?_, q3⟩
  show _ = Int64.toInt32 _
  rw [q4, tt_eq, Int64.toInt_toInt32, Int32.toInt_toInt64]
  have := tt_rg (tb_drawn_l53 sc a b c (Int32.toNatClampNeg a) 0 0 0 b).2.2
  rw [Int.bmod_def]; omega

/-! sorts: as bits, out of what is seen -/
/-- the kinds that are left by one thing seen -/
def so_m (w c : Int32) : Int32 := if c = 1 then tt_sv 1 w.toNatClampNeg else (tt_sv 1 w.toNatClampNeg ^^^ (-1))
/-- the kinds that are left of port p by the first n things seen -/
def so_b (sm : tt_St) (a : Nat) (p : Int32) : Nat → Int32
  | 0 => 31
  | n + 1 => if tt_A sm a n = p then so_b sm a p n &&& so_m (tt_A sm (a + 1) n) (tt_A sm (a + 2) n) else so_b sm a p n
/-- what is seen is told rightly -/
def so_ok (sm : tt_St) (a n : Nat) : Prop := ∀ j, j < n → (0 ≤ (tt_A sm (a + 1) j).toInt ∧ (tt_A sm (a + 1) j).toInt ≤ 3) ∧ (tt_A sm (a + 2) j = 0 ∨ tt_A sm (a + 2) j = 1)
/-- bit k of a small set -/
def so_t (b : Int32) (k : Nat) : Bool := b.toBitVec.toNat.testBit k
theorem so_and (b c : Int32) (k : Nat) : so_t (b &&& c) k = (so_t b k && so_t c k) := by
  unfold so_t
  rw [Int32.toBitVec_and, BitVec.toNat_and, Nat.testBit_and]
theorem so_m_t {w c : Int32} {k : Nat} (hk : k < 5) (hw : 0 ≤ w.toInt ∧ w.toInt ≤ 3) (hc : c = 0 ∨ c = 1) : so_t (so_m w c) k = decide (mo_could (nI k) w = (if c = 1 then 1 else 0 : Int32)) := by
  obtain ⟨j, hj, rfl⟩ : ∃ j : Nat, j < 4 ∧ w = nI j := by
    obtain ⟨j, h1, h2⟩ := vp_in_of (x := w) (n := 4) (tt_in hw.1 (by omega)) (by decide)
    exact ⟨j, h1, h2⟩
  have key : ∀ (k : Fin 5) (j : Fin 4), so_t (so_m (nI j.val) 0) k.val = decide (mo_could (nI k.val) (nI j.val) = 0) ∧ so_t (so_m (nI j.val) 1) k.val = decide (mo_could (nI k.val) (nI j.val) = 1) := by decide +kernel
  obtain ⟨h0, h1⟩ := key ⟨k, hk⟩ ⟨j, hj⟩
  rcases hc with rfl | rfl
  · exact h0
  · exact h1
theorem so_in {sm : tt_St} {p x2 : Int32} {k : Nat} (hk : k < 5) : ∀ (n j : Nat) (x : Int32), j + n ≤ 6 → so_ok sm 57 (j + n) → x = (if so_t (so_b sm 57 p j) k = true then 1 else 0 : Int32) → mo_sortsOf_l15 sm p x2 (nI k) n j x = (if so_t (so_b sm 57 p (j + n)) k = true then 1 else 0 : Int32) := by
  intro n
  induction n with
  | zero => intro j x _ _ e; exact e
  | succ n ih =>
    intro j x h6 ho e
    have hj := ho j (by omega)
    have hm := so_m_t (w := tt_A sm 58 j) (c := tt_A sm 59 j) hk hj.1 hj.2
    rw [mo_sortsOf_l15, show j + (n + 1) = (j + 1) + n by omega]
    refine ih (j + 1) _ (by omega) (by rw [show j + 1 + n = j + (n + 1) by omega]; exact ho) ?_
    rw [nI_clamp (by omega), e, so_b]
    by_cases ht : so_t (so_b sm 57 p j) k = true
    · by_cases hp : tt_A sm 57 j = p
      · rw [if_pos hp, if_pos hp, so_and, ht, hm, if_pos rfl, if_neg (by decide)]
        simp
      · rw [if_neg hp, if_neg hp, ht]
        rfl
    · have hf : so_t (so_b sm 57 p j) k = false := by simpa using ht
      by_cases hp : tt_A sm 57 j = p
      · rw [if_pos hp, if_pos hp, so_and, hf]
        rfl
      · rw [if_neg hp, if_neg hp, hf]
        rfl
theorem so_lt {sm : tt_St} {a : Nat} {p : Int32} : ∀ n, ∃ b : Nat, b < 32 ∧ so_b sm a p n = nI b := by
  intro n
  induction n with
  | zero => exact ⟨31, by decide, rfl⟩
  | succ n ih =>
    obtain ⟨b, hb, e⟩ := ih
    rw [so_b]
    by_cases hp : tt_A sm a n = p
    · rw [if_pos hp, e]
      refine ⟨(nI b &&& so_m (tt_A sm (a + 1) n) (tt_A sm (a + 2) n)).toBitVec.toNat, ?_, ?_⟩
      · rw [Int32.toBitVec_and, BitVec.toNat_and]
        have h1 : (nI b).toBitVec.toNat = b := pk_tn (by omega)
        rw [h1]
        exact Nat.lt_of_le_of_lt Nat.and_le_left hb
      · exact Int32.toBitVec_inj.mp (by rw [show (nI (nI b &&& so_m (tt_A sm (a + 1) n) (tt_A sm (a + 2) n)).toBitVec.toNat).toBitVec = BitVec.ofNat 32 (nI b &&& so_m (tt_A sm (a + 1) n) (tt_A sm (a + 2) n)).toBitVec.toNat from rfl, BitVec.ofNat_toNat, BitVec.setWidth_eq])
    · rw [if_neg hp]; exact ⟨b, hb, e⟩
/-- the reference's sorts, told by bits -/
theorem so_eq {sm : tt_St} {p : Int32} (hn : (tt_I sm 49 9).toNatClampNeg ≤ 6) (ho : so_ok sm 57 (tt_I sm 49 9).toNatClampNeg) : mo_sortsOf sm p = so_b sm 57 p (tt_I sm 49 9).toNatClampNeg := by
  have hin : ∀ (k : Nat) (x2 : Int32), k < 5 → mo_sortsOf_l15 sm p x2 (nI k) (tt_I sm 49 9).toNatClampNeg 0 1 = (if so_t (so_b sm 57 p (tt_I sm 49 9).toNatClampNeg) k = true then 1 else 0 : Int32) := fun k x2 hk => by
    have h := so_in (sm := sm) (p := p) (x2 := x2) hk (tt_I sm 49 9).toNatClampNeg 0 1 (by omega) (by rw [Nat.zero_add]; exact ho) (by
      have key : ∀ k : Fin 5, so_t 31 k.val = true := by decide +kernel
      rw [so_b, key ⟨k, hk⟩]; rfl)
    rw [Nat.zero_add] at h
    exact h
  obtain ⟨b, hb, e⟩ := so_lt (sm := sm) (a := 57) (p := p) (tt_I sm 49 9).toNatClampNeg
  rw [mo_sortsOf]
  simp only [mo_sortsOf_l4]
  rw [hin 0 _ (by decide), hin 1 _ (by decide), hin 2 _ (by decide), hin 3 _ (by decide), hin 4 _ (by decide), e]
  have key : ∀ b : Fin 32, ((((((0 : Int32) ||| (if (if so_t (nI b.val) 0 = true then 1 else 0 : Int32) = 0 then 0 else (1 <<< ((nI 0) &&& 31)) : Int32)) ||| (if (if so_t (nI b.val) 1 = true then 1 else 0 : Int32) = 0 then 0 else (1 <<< ((nI (0 + 1)) &&& 31)) : Int32)) ||| (if (if so_t (nI b.val) 2 = true then 1 else 0 : Int32) = 0 then 0 else (1 <<< ((nI (0 + 1 + 1)) &&& 31)) : Int32)) ||| (if (if so_t (nI b.val) 3 = true then 1 else 0 : Int32) = 0 then 0 else (1 <<< ((nI (0 + 1 + 1 + 1)) &&& 31)) : Int32)) ||| (if (if so_t (nI b.val) 4 = true then 1 else 0 : Int32) = 0 then 0 else (1 <<< ((nI (0 + 1 + 1 + 1 + 1)) &&& 31)) : Int32)) = nI b.val := by decide +kernel
  exact key ⟨b, hb⟩
/-- what to ask next, by the bits alone -/
theorem so_ask {sm : tt_St} {p : Int32} {b : Nat} (hb : b < 32) (e : mo_sortsOf sm p = nI b) : mo_askOf sm p = tb_nextToAsk (nI b) := by
  obtain ⟨Y, yes⟩ : ∃ Y : Int32 → Int32 → Int32, ∀ (s : tt_St) (q x2 x3 x4 x5 : Int32), mo_askOf_l33 s q x2 x3 x4 x5 5 0 0 = Y x2 x5 := ⟨fun x2 x5 => mo_askOf_l33 (fun _ _ => 0, fun _ _ => 0, fun _ _ => 0) 0 x2 0 0 x5 5 0 0, fun _ _ _ _ _ _ => rfl⟩
  rw [mo_askOf, e]
  have l17 : ∀ (n j : Nat) (x3 x4 : Int32), mo_askOf_l17 sm p (nI b) n j x3 x4 = mo_askOf_l17 (fun _ _ => 0, fun _ _ => 0, fun _ _ => 0) 0 (nI b) n j x3 x4 := by
    intro n
    induction n with
    | zero => intro j x3 x4; rfl
    | succ n ih =>
      intro j x3 x4
      simp only [mo_askOf_l17, yes, ih]
  rw [l17]
  have key : ∀ b : Fin 32, (mo_askOf_l17 (fun _ _ => 0, fun _ _ => 0, fun _ _ => 0) 0 (nI b.val) 4 0 (-10001) 268435456).1 = tb_nextToAsk (nI b.val) := by decide +kernel
  exact key ⟨b, hb⟩

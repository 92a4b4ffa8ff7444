/-! the relation between the class's part of one state and the reference's part of another -/
def rg_port (sc : tt_St) (o : Nat) : Prop := (0 ≤ (tt_I sc o 0).toInt ∧ (tt_I sc o 0).toInt ≤ 4) ∧ (0 ≤ (tt_I sc o 1).toInt ∧ (tt_I sc o 1).toInt ≤ 99) ∧ (0 ≤ (tt_I sc o 2).toInt ∧ (tt_I sc o 2).toInt ≤ 99) ∧ (0 ≤ (tt_I sc o 3).toInt ∧ (tt_I sc o 3).toInt ≤ 99) ∧ ∀ w, w < 3 → w < (tt_I sc o 6).toNatClampNeg → 0 ≤ (tt_I sc (tt_wv o w) 1).toInt ∧ (tt_I sc (tt_wv o w) 1).toInt ≤ 99
def rl_page (sc sm : tt_St) : Prop := tt_I sc 1 1 = tt_I sm 49 13 ∧ ∀ j, j < (tt_I sc 1 1).toNatClampNeg → tt_A sc 2 j = tt_A sm 60 j ∧ 32 ≤ (tt_A sc 2 j).toInt ∧ (tt_A sc 2 j).toInt ≤ 126
def rl_sea (sc sm : tt_St) : Prop := tt_I sc 3 1 = tt_I sm 49 1 ∧ (∀ p, p < (tt_I sc 3 1).toNatClampNeg → rl_port sc sm (9 + p) 50 p ∧ rg_port sc (9 + p)) ∧ (0 < (tt_I sc 3 1).toNatClampNeg → ¬ tt_I sc 9 0 = 3)
def rl_seen (sc sm : tt_St) : Prop := tt_I sc 3 2 = tt_I sm 49 9 ∧ so_ok sm 57 (tt_I sm 49 9).toNatClampNeg ∧ ∀ p, p < (tt_I sc 3 1).toNatClampNeg → tt_I sc (9 + p) 4 = so_b sm 57 (nI p) (tt_I sm 49 9).toNatClampNeg
def rl_reads (k : Nat) (sc sm : tt_St) : Prop := tt_I sc 0 4 = tt_I sm 49 0 ∧ 0 ≤ (tt_I sm 49 0).toInt ∧ (tt_I sm 49 0).toInt ≤ (k : Int)
def rl_kept (sc sm : tt_St) : Prop := (¬ tt_I sc 0 3 = 0 ↔ (¬ tt_I sm 49 26 = 0 ∧ tt_I sm 49 27 = tt_I sm 49 0)) ∧ (¬ tt_I sm 49 26 = 0 → (tt_I sm 49 27).toInt ≤ (tt_I sm 49 0).toInt) ∧ (∀ p, p < 4 → 0 ≤ (tt_A sm 71 p).toInt ∧ (tt_A sm 71 p).toInt ≤ 3) ∧ (0 ≤ (tt_I sm 49 28).toInt ∧ (tt_I sm 49 28).toInt ≤ 6) ∧
  (¬ tt_I sc 0 3 = 0 → tt_I sc 4 1 = tt_I sc 3 1 ∧ 0 < (tt_I sc 3 1).toNatClampNeg ∧ tt_I sc 4 2 = tt_I sm 49 28 ∧ so_ok sm 73 (tt_I sm 49 28).toNatClampNeg ∧ (∀ p, p < (tt_I sc 3 1).toNatClampNeg → rl_port sc sm (13 + p) 67 p ∧ rg_port sc (13 + p) ∧ tt_I sc (13 + p) 4 = so_b sm 73 (nI p) (tt_I sm 49 28).toNatClampNeg) ∧ ¬ tt_I sc 13 0 = 3)
def rl (k : Nat) (sc sm : tt_St) : Prop := tb_ok sc ∧ mo_ok sm ∧ rl_rounds sm ∧ rl_page sc sm ∧ rl_sea sc sm ∧ rl_seen sc sm ∧ rl_reads k sc sm ∧ rl_kept sc sm
theorem eq_within (a b c : Int32) : tb_within a b c = mo_within a b c := rfl
theorem rl.many {k : Nat} {sc sm : tt_St} (h : rl k sc sm) : (tt_I sc 3 1).toNatClampNeg ≤ 4 ∧ tt_I sc 3 1 = nI (tt_I sc 3 1).toNatClampNeg := by
  have h1 := h.1.2.1 3 rfl
  exact ⟨tt_cle h1.2, (tt_nIc h1.1).symm⟩
theorem rl.seen6 {k : Nat} {sc sm : tt_St} (h : rl k sc sm) : (tt_I sm 49 9).toNatClampNeg ≤ 6 := tt_cle h.2.1.2.1.2
theorem rl.w3 {k : Nat} {sc sm : tt_St} (h : rl k sc sm) {o : Nat} (ho : tt_ci o = 1) : (tt_I sc o 6).toNatClampNeg ≤ 3 := tt_cle (h.1.1 o ho).2
/-- a known port -/
theorem rl.knows {k : Nat} {sc sm : tt_St} (h : rl k sc sm) (a : Int32) : (se_knows sc 3 a = 0 ∧ mo_isPort sm a = 0) ∨ (¬ se_knows sc 3 a = 0 ∧ ¬ mo_isPort sm a = 0 ∧ ∃ p : Nat, p < (tt_I sc 3 1).toNatClampNeg ∧ p < 4 ∧ a = nI p) := by
  have h1 := h.1.2.1 3 rfl
  have e0 : (0 : Int32).toInt = 0 := rfl
  have e1 : (1 : Int32).toInt = 1 := rfl
  have hp : tt_I sc 3 1 = tt_I sm 49 1 := h.2.2.2.2.1.1
  have es : (tt_I sm 49 1 - 1).toInt = (tt_I sm 49 1).toInt - 1 := by rw [← hp, tt_sub] <;> rw [e1] <;> omega
  have hw := mo_within_1 (a := a) (b := 0) (c := tt_I sm 49 1 - 1)
  rw [es, e0, ← hp] at hw
  have hq : mo_isPort sm a = mo_within a 0 (tt_I sm 49 1 - 1) := rfl
  rw [hq]
  rw [← hp]
  rw [← hp] at hq
  by_cases c : 0 ≤ a.toInt ∧ a.toInt ≤ (tt_I sc 3 1).toInt - 1
  · right
    refine ⟨?_, hw.mpr c, a.toNatClampNeg, ?_, ?_, (tt_nIc c.1).symm⟩
    · rw [se_knows, if_neg (by rw [tt_lt, e0]; omega), if_neg (by rw [tt_le]; omega)]; decide
    · rw [tt_clamp, tt_clamp]; omega
    · rw [tt_clamp]; omega
  · left
    refine ⟨?_, Classical.not_not.mp (fun q => c (hw.mp q))⟩
    rw [se_knows]
    by_cases c1 : a < 0
    · rw [if_pos c1]
    · rw [if_neg c1, if_pos]
      rw [tt_lt, e0] at c1
      rw [tt_le]
      omega
theorem rl.port {k : Nat} {sc sm : tt_St} (h : rl k sc sm) {p : Nat} (hp : p < (tt_I sc 3 1).toNatClampNeg) : rl_port sc sm (9 + p) 50 p ∧ rg_port sc (9 + p) := h.2.2.2.2.1.2.1 p hp
theorem rl.own {k : Nat} {sc sm : tt_St} (h : rl k sc sm) {p : Nat} (hp : p < (tt_I sc 3 1).toNatClampNeg) (t : Int32) : po_ownHeightAt sc (9 + p) t = mo_ownHeight sm (nI p) t ∧ po_sumAt sc (9 + p) t = mo_sumAt sm (nI p) t := by
  have h4 := h.many.1
  have h3 := h.w3 (o := 9 + p) (tt_ci_po (by omega) (by omega))
  exact ⟨eq_own h.2.2.1 (by omega) (h.port hp).1 h3 t, eq_sum h.2.2.1 (by omega) (h.port hp).1 h3 t⟩
theorem rl.height {k : Nat} {sc sm : tt_St} (h : rl k sc sm) {p : Nat} (hp : p < (tt_I sc 3 1).toNatClampNeg) (t : Int32) : se_heightAt sc 3 (nI p) t = mo_heightAt sm (nI p) t := by
  have h4 := h.many.1
  have hk : ¬ se_knows sc 3 (nI p) = 0 := by
    rw [se_knows, if_neg (nI_pos (by omega)), if_neg (tt_stay hp)]; decide
  obtain ⟨⟨k0, k1, k2, k3, k4⟩, _⟩ := (h.port hp).1
  have hpo : ∀ j, tt_po 3 j = 9 + j := fun j => by unfold tt_po; omega
  rw [se_heightAt, if_neg hk, mo_heightAt, nI_clamp (by omega)]
  simp only [hpo]
  have e0 : Int32.toNatClampNeg 0 = 0 := rfl
  rw [e0, k0, k1, k2, k3, (h.own hp t).1]
  have hz : po_ownHeightAt sc (9 + 0) (t - tt_A sm (50 + 2) p) = mo_ownHeight sm 0 (t - tt_A sm 52 p) := (h.own (p := 0) (by omega) _).1
  rw [hz, eq_fd (by decide)]
/-! calls that only read -/
theorem eq_sum_c {k : Nat} {sc sm : tt_St} (h : rl k sc sm) (a t : Int32) : tb_sum sc a t = mo_sum sm a t := by
  rw [tb_sum, mo_sum]
  rcases h.knows a with ⟨c1, c2⟩ | ⟨c1, c2, p, hp, hp4, rfl⟩
  · rw [if_pos c1, if_pos c2]
  · rw [if_neg c1, if_neg c2, nI_clamp (by omega), (h.own hp t).2]
    rfl
theorem eq_height_c {k : Nat} {sc sm : tt_St} (h : rl k sc sm) (a t : Int32) : tb_height sc a t = mo_height sm a t := by
  rw [tb_height, mo_height]
  rcases h.knows a with ⟨c1, c2⟩ | ⟨c1, c2, p, hp, hp4, rfl⟩
  · rw [if_pos c1, if_pos c2]
  · rw [if_neg c1, if_neg c2, h.height hp t]
    rfl
theorem eq_stream_c {k : Nat} {sc sm : tt_St} (h : rl k sc sm) (a b t : Int32) : tb_stream sc a b t = mo_stream sm a b t := by
  rw [tb_stream, mo_stream]
  rcases h.knows a with ⟨c1, c2⟩ | ⟨c1, c2, p, hp, hp4, rfl⟩
  · rw [if_pos c1, if_pos c2]
  · rw [if_neg c1, if_neg c2]
    rcases h.knows b with ⟨d1, d2⟩ | ⟨d1, d2, q, hq, hq4, rfl⟩
    · rw [if_pos d1, if_pos d2]
    · rw [if_neg d1, if_neg d2, h.height hp t, h.height hq t, mo_streamAt]
      rfl
theorem eq_round_c {k : Nat} {sc sm : tt_St} (h : rl k sc sm) (a : Int32) : tb_round a = mo_round sm a := by
  rw [tb_round, mo_round, eq_within]
  by_cases c : mo_within a 0 64 = 0
  · rw [if_pos c, if_pos c]
  · rw [if_neg c, if_neg c]
    obtain ⟨j, hj, rfl⟩ := vp_in_of (mo_within_in (n := 65) (by decide) c) (by decide)
    rw [nI_clamp (by omega), h.2.2.1 j (by omega)]
theorem eq_as_c {k : Nat} {sc sm : tt_St} (h : rl k sc sm) (a b : Int32) : tb_as sc a b = mo_as sm a b := by
  rw [tb_as, mo_as]
  rcases h.knows a with ⟨c1, c2⟩ | ⟨c1, c2, p, hp, hp4, rfl⟩
  · rw [if_pos c1, if_pos c2]
  · rw [if_neg c1, if_neg c2, eq_within, nI_clamp (by omega), po_isA, (h.port hp).1.1.1]
    by_cases c : mo_within b 0 4 = 0
    · rw [if_pos c, if_pos c]
    · rw [if_neg c, if_neg c]
      by_cases b0 : b = 0
      · simp only [b0, if_true, show ¬ (1 : Int32) = 0 from by decide, if_false]
      · simp only [b0, if_false]
        by_cases b1 : b = tt_A sm 50 p
        · simp only [b1, if_true, show ¬ (1 : Int32) = 0 from by decide, if_false]
        · have b1' : ¬ tt_A sm 50 p = b := fun q => b1 q.symm
          simp only [b1, b1', if_false]
          by_cases b2 : b = 1
          · simp only [b2, if_true]
            by_cases b3 : tt_A sm 50 p = 2
            · simp only [b3, if_true, show ¬ (1 : Int32) = 0 from by decide, if_false]
            · simp only [b3, if_false, if_true]
          · simp only [b2, if_false, if_true]

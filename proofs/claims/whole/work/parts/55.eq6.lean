/-! two rows side by side -/
theorem sh_1 (a : Int32) (j : Nat) : (a - 1) + nI (j + 1) = a + nI j := by
  rw [← nI_1, Int32.add_comm (nI j) 1, ← Int32.add_assoc, Int32.sub_add_cancel]
theorem sh_2 (a : Int32) (j : Nat) : (a - 1) + nI j = (a + nI j) - 1 := by
  rw [Int32.sub_eq_add_neg, Int32.sub_eq_add_neg, Int32.add_assoc, Int32.add_comm (-1), ← Int32.add_assoc]
theorem rl.two {k : Nat} {sc sm : tt_St} (h : rl k sc sm) {p q : Nat} (hp : p < (tt_I sc 3 1).toNatClampNeg) (hq : q < (tt_I sc 3 1).toNatClampNeg) (f len : Int32) (hl : 0 ≤ len.toInt ∧ len.toInt ≤ 344) :
    (∀ i, i < len.toNatClampNeg → tt_A (se_fill (se_fill sc 3 7 (nI p) f len) 3 8 (nI q) f len) 7 i = mo_heightAt sm (nI p) (f + nI i) ∧ tt_A (se_fill (se_fill sc 3 7 (nI p) f len) 3 8 (nI q) f len) 8 i = mo_heightAt sm (nI q) (f + nI i)) ∧ rl k (se_fill (se_fill sc 3 7 (nI p) f len) 3 8 (nI q) f len) sm := by
  refine ⟨fun i hi => ⟨?_, ?_⟩, (h.fill 3 7 (nI p) f len (by decide)).fill 3 8 (nI q) f len (by decide)⟩
  · rw [fl_other (by decide), fl_row hl hi, h.height hp]
  · rw [fl_row hl hi, hc_height se_fill_I, h.height hq]
theorem eq_slack_l {s1 sm : tt_St} {a b t : Int32} (hrow : ∀ i, i < 145 → tt_A s1 7 i = mo_heightAt sm a ((t - 1) + nI i) ∧ tt_A s1 8 i = mo_heightAt sm b ((t - 1) + nI i)) : ∀ (n j : Nat), j + n = 144 → tb_slack_l83 s1 a b t (t - 1) n (j + 1) = (mo_slackNow_l3 sm a b t n j, s1) := by
  intro n
  induction n with
  | zero => intro j _; rfl
  | succ n ih =>
    intro j hj
    rw [tb_slack_l83, mo_slackNow_l3, ih _ (by omega), nI_pred, nI_clamp (by omega), nI_clamp (by omega), (hrow j (by omega)).1, (hrow j (by omega)).2, (hrow (j + 1) (by omega)).1, (hrow (j + 1) (by omega)).2, sh_1, sh_2, mo_streamAt, mo_streamAt]
    generalize mo_slackNow_l3 sm a b t n (j + 1) = r
    generalize mo_heightAt sm a (t + nI j) - mo_heightAt sm b (t + nI j) = x
    generalize mo_heightAt sm a (t + nI j - 1) - mo_heightAt sm b (t + nI j - 1) = y
    by_cases c1 : x = 0
    · rw [if_pos c1, if_pos c1]
    · rw [if_neg c1, if_neg c1]
      by_cases c2 : x ≤ 0
      · rw [if_pos c2, if_pos c2]
        by_cases c3 : 0 ≤ x
        · rw [if_pos c3, if_pos c3]
        · rw [if_neg c3, if_neg c3]
          by_cases c4 : y ≤ 0
          · rw [if_pos c4, if_pos c4]
          · rw [if_neg c4, if_neg c4]
      · rw [if_neg c2, if_neg c2]
        by_cases c4 : y < 0
        · rw [if_pos c4, if_pos c4]
        · rw [if_neg c4, if_neg c4]
          by_cases c3 : 0 ≤ x
          · rw [if_pos c3, if_pos c3]
          · rw [if_neg c3, if_neg c3]
            by_cases c4 : y ≤ 0
            · rw [if_pos c4, if_pos c4]
            · rw [if_neg c4, if_neg c4]
theorem eq_slack_c {k : Nat} {sc sm : tt_St} (h : rl k sc sm) (a b t : Int32) : (tb_slack sc a b t).1 = mo_slack sm a b t ∧ rl k (tb_slack sc a b t).2 sm := by
  rw [tb_slack, mo_slack]
  rcases h.knows a with ⟨c1, c2⟩ | ⟨c1, c2, p, hp, hp4, rfl⟩
  · rw [if_pos c1, if_pos c2]; exact ⟨rfl, h⟩
  · rw [if_neg c1, if_neg c2]
    rcases h.knows b with ⟨d1, d2⟩ | ⟨d1, d2, q, hq, hq4, rfl⟩
    · rw [if_pos d1, if_pos d2]; exact ⟨rfl, h⟩
    · rw [if_neg d1, if_neg d2, mo_isTick, eq_within]
      by_cases d3 : mo_within t 0 1439 = 0
      · rw [if_pos d3, if_pos d3]; exact ⟨rfl, h⟩
      · rw [if_neg d3, if_neg d3, tb_slack_k80, mo_slackNow]
        obtain ⟨hr, f⟩ := h.two hp hq (t - 1) 145 (by decide)
        rw [show Int32.toNatClampNeg 145 = 145 from by decide] at hr
        generalize se_fill (se_fill sc 3 7 (nI p) (t - 1) 145) 3 8 (nI q) (t - 1) 145 = s1 at hr f ⊢
        rw [eq_slack_l hr 144 0 (by omega)]
        exact ⟨rfl, f⟩
/-! trip, leave -/
theorem eq_m0 (x : Int32) : ma_max 0 x = (if x ≤ 0 then 0 else x : Int32) := by
  rw [eq_max]
theorem eq_trip_l {s1 sm : tt_St} {a b f c : Int32} {o : Nat} (ho : o ≤ 144) (hrow : ∀ i, i < o + 200 → tt_A s1 7 i = mo_heightAt sm a (f + nI i) ∧ tt_A s1 8 i = mo_heightAt sm b (f + nI i)) : ∀ (n j : Nat) (x : Int32), j + n = 200 → tb_tripFrom_l5 s1 (nI o) c n (j + 1) x = mo_tripNow_l6 sm a b (f + nI o) c n j x := by
  intro n
  induction n with
  | zero => intro j x _; rfl
  | succ n ih =>
    intro j x hj
    have e1 : nI o + nI (j + 1) - 1 = nI (o + j) := by rw [nI_add, show o + (j + 1) = (o + j) + 1 from rfl, nI_pred]
    have e2 : f + nI o + nI j = f + nI (o + j) := by rw [Int32.add_assoc, nI_add]
    rw [tb_tripFrom_l5, mo_tripNow_l6, ih _ _ (by omega), e1, e2, nI_clamp (by omega), (hrow (o + j) (by omega)).1, (hrow (o + j) (by omega)).2, mo_streamAt, eq_m0, eq_fd (by decide), nI_1]
theorem eq_trip {s1 sm : tt_St} {a b f c : Int32} {o : Nat} (ho : o ≤ 144) (hrow : ∀ i, i < o + 200 → tt_A s1 7 i = mo_heightAt sm a (f + nI i) ∧ tt_A s1 8 i = mo_heightAt sm b (f + nI i)) : tb_tripFrom s1 (nI o) c = mo_tripNow sm a b (f + nI o) c := by
  rw [tb_tripFrom, mo_tripNow]
  exact eq_trip_l ho hrow 200 0 0 (by omega)
theorem eq_trip_c {k : Nat} {sc sm : tt_St} (h : rl k sc sm) (a b t c : Int32) : (tb_trip sc a b t c).1 = mo_trip sm a b t c ∧ rl k (tb_trip sc a b t c).2 sm := by
  rw [tb_trip, mo_trip]
  rcases h.knows a with ⟨c1, c2⟩ | ⟨c1, c2, p, hp, hp4, rfl⟩
  · rw [if_pos c1, if_pos c2]; exact ⟨rfl, h⟩
  · rw [if_neg c1, if_neg c2]
    rcases h.knows b with ⟨d1, d2⟩ | ⟨d1, d2, q, hq, hq4, rfl⟩
    · rw [if_pos d1, if_pos d2]; exact ⟨rfl, h⟩
    · rw [if_neg d1, if_neg d2, mo_isTick, mo_isPace, eq_within, eq_within]
      by_cases d3 : mo_within t 0 1439 = 0
      · rw [if_pos d3, if_pos d3]; exact ⟨rfl, h⟩
      · rw [if_neg d3, if_neg d3]
        by_cases d4 : mo_within c 1 30 = 0
        · rw [if_pos d4, if_pos d4]; exact ⟨rfl, h⟩
        · rw [if_neg d4, if_neg d4, tb_trip_k84]
          obtain ⟨hr, f⟩ := h.two hp hq t 200 (by decide)
          rw [show Int32.toNatClampNeg 200 = 200 from by decide] at hr
          generalize se_fill (se_fill sc 3 7 (nI p) t 200) 3 8 (nI q) t 200 = s1 at hr f ⊢
          have e := eq_trip (o := 0) (c := c) (by omega) (fun i hi => hr i (by omega))
          rw [nI_0, Int32.add_zero] at e
          exact ⟨e, f⟩
theorem eq_leave_l {s1 sm : tt_St} {a b d c x : Int32} (hrow : ∀ i, i < 344 → tt_A s1 7 i = mo_heightAt sm a ((144 * d) + nI i) ∧ tt_A s1 8 i = mo_heightAt sm b ((144 * d) + nI i)) : ∀ (n j : Nat), j + n = 144 → tb_leave_l108 s1 a b d c x n j = (mo_leaveNow_l7 sm a b d c x n j, s1) := by
  intro n
  induction n with
  | zero => intro j _; rfl
  | succ n ih =>
    intro j hj
    have e := eq_trip (o := j) (c := c) (by omega) (fun i hi => hrow i (by omega))
    rw [tb_leave_l108, mo_leaveNow_l7, ih _ (by omega)]
    by_cases c1 : tb_tripFrom s1 (nI j) c = -10001
    · rw [if_pos c1, if_pos (e ▸ c1)]
    · have hi := tb_leave_in (by omega : j < 144) c1
      have hn := tt_inN hi
      have e3 : nI j + tb_tripFrom s1 (nI j) c = nI (nI j + tb_tripFrom s1 (nI j) c).toNatClampNeg := (tt_nIc (tt_in_lt hi).1).symm
      have e4 : 144 * d + nI j + tb_tripFrom s1 (nI j) c = 144 * d + nI (nI j + tb_tripFrom s1 (nI j) c).toNatClampNeg := by rw [← e3, Int32.add_assoc]
      rw [if_neg c1, (hrow _ hn).2, ← e4, ← e, if_neg c1, eq_day]
      by_cases c2 : mo_heightAt sm b (144 * d + nI j + tb_tripFrom s1 (nI j) c) < x
      · rw [if_pos c2, if_pos c2]
      · rw [if_neg c2, if_neg c2]
theorem eq_leave_c {k : Nat} {sc sm : tt_St} (h : rl k sc sm) (a b d c x : Int32) : (tb_leave sc a b d c x).1 = mo_leave sm a b d c x ∧ rl k (tb_leave sc a b d c x).2 sm := by
  rw [tb_leave, mo_leave]
  rcases h.knows a with ⟨c1, c2⟩ | ⟨c1, c2, p, hp, hp4, rfl⟩
  · rw [if_pos c1, if_pos c2]; exact ⟨rfl, h⟩
  · rw [if_neg c1, if_neg c2]
    rcases h.knows b with ⟨d1, d2⟩ | ⟨d1, d2, q, hq, hq4, rfl⟩
    · rw [if_pos d1, if_pos d2]; exact ⟨rfl, h⟩
    · rw [if_neg d1, if_neg d2, mo_isDay, mo_isPace, mo_isNeed, eq_within, eq_within, eq_within]
      by_cases d3 : mo_within d 0 9 = 0
      · rw [if_pos d3, if_pos d3]; exact ⟨rfl, h⟩
      · rw [if_neg d3, if_neg d3]
        by_cases d4 : mo_within c 1 30 = 0
        · rw [if_pos d4, if_pos d4]; exact ⟨rfl, h⟩
        · rw [if_neg d4, if_neg d4]
          by_cases d5 : mo_within x (-2000) 4000 = 0
          · rw [if_pos d5, if_pos d5]; exact ⟨rfl, h⟩
          · rw [if_neg d5, if_neg d5, tb_leave_k105, mo_leaveNow]
            obtain ⟨hr, f⟩ := h.two hp hq (d * 144) 344 (by decide)
            rw [show Int32.toNatClampNeg 344 = 344 from by decide] at hr
            generalize se_fill (se_fill sc 3 7 (nI p) (d * 144) 344) 3 8 (nI q) (d * 144) 344 = s1 at hr f ⊢
            rw [eq_day] at hr
            have e := eq_leave_l (c := c) (x := x) hr 144 0 (by omega)
            generalize mo_leaveNow_l7 sm (nI p) (nI q) d c x 144 0 = r at e ⊢
            generalize tb_leave_l108 s1 (nI p) (nI q) d c x 144 0 = y at e ⊢
            subst e
            exact ⟨rfl, f⟩

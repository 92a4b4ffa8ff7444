/-! gate -/
theorem gs_closed {sm : tt_St} {a d c g w : Int32} (n j : Nat) (x6 x7 x8 x9 : Int32) (h : mo_heightAt sm a ((144 * d) + nI j) < c) : mo_gateNow_l23 sm a d c g w (n + 1) j x6 x7 x8 x9 = mo_gateNow_l23 sm a d c g w n (j + 1) x6 x7 x8 0 := by
  rw [mo_gateNow_l23]; simp only [if_pos h, if_true, Int32.add_zero]
theorem gs_start {sm : tt_St} {a d c g w : Int32} (n j : Nat) (x6 x7 x8 : Int32) (h : ¬ mo_heightAt sm a ((144 * d) + nI j) < c) : mo_gateNow_l23 sm a d c g w (n + 1) j x6 x7 x8 0 = mo_gateNow_l23 sm a d c g w n (j + 1) (x6 + 1) (if x6 + 1 = g then (144 * d) + nI j else x7) (if x6 + 1 = g then (144 * d) + nI j else x8) 1 := by
  have e1 : ¬ (1 : Int32) = 0 := by decide
  rw [mo_gateNow_l23]; simp only [if_neg h, if_neg e1, if_true]
theorem gs_in {sm : tt_St} {a d c g w : Int32} (n j : Nat) (x6 x7 x8 : Int32) (h : ¬ mo_heightAt sm a ((144 * d) + nI j) < c) : mo_gateNow_l23 sm a d c g w (n + 1) j x6 x7 x8 1 = mo_gateNow_l23 sm a d c g w n (j + 1) x6 x7 (if x6 = g then (144 * d) + nI j else x8) 1 := by
  have e1 : ¬ (1 : Int32) = 0 := by decide
  rw [mo_gateNow_l23]; simp only [if_neg h, if_neg e1, Int32.add_zero]
/-- after the gate -/
theorem gs_after {sm : tt_St} {a d c g w : Int32} : ∀ (n j : Nat) (x6 x7 x8 x9 : Int32), j + n = 144 → x6.toInt ≤ j → g.toInt ≤ x6.toInt → (x9 = 0 ∨ (x9 = 1 ∧ g.toInt < x6.toInt)) → (mo_gateNow_l23 sm a d c g w n j x6 x7 x8 x9).2.1 = x7 ∧ (mo_gateNow_l23 sm a d c g w n j x6 x7 x8 x9).2.2.1 = x8 := by
  intro n
  induction n with
  | zero => intro j x6 x7 x8 x9 _ _ _ _; exact ⟨rfl, rfl⟩
  | succ n ih =>
    intro j x6 x7 x8 x9 hj h6 hg h9
    have hr := tt_rg g
    have e1 : (1 : Int32).toInt = 1 := rfl
    by_cases c1 : mo_heightAt sm a ((144 * d) + nI j) < c
    · rw [gs_closed n j x6 x7 x8 x9 c1]
      exact ih _ _ _ _ _ (by omega) (by omega) hg (Or.inl rfl)
    · rcases h9 with rfl | ⟨rfl, h9⟩
      · have ea : (x6 + 1).toInt = x6.toInt + 1 := by rw [tt_add] <;> rw [e1] <;> omega
        have ng : ¬ x6 + 1 = g := by rw [tt_eq, ea]; omega
        rw [gs_start n j x6 x7 x8 c1, if_neg ng, if_neg ng]
        exact ih _ _ _ _ _ (by omega) (by omega) (by omega) (Or.inr ⟨rfl, by omega⟩)
      · have ng : ¬ x6 = g := by rw [tt_eq]; omega
        rw [gs_in n j x6 x7 x8 c1, if_neg ng]
        exact ih _ _ _ _ _ (by omega) (by omega) (by omega) (Or.inr ⟨rfl, by omega⟩)
/-- in the gate -/
theorem gs_within {s1 sm : tt_St} {a d c g w z : Int32} (hrow : ∀ i, i < 144 → tt_A s1 7 i = mo_heightAt sm a ((144 * d) + nI i)) : ∀ (n j m : Nat) (x7 : Int32), (j + 1) + n = 144 → n ≤ m → g.toInt ≤ j → (mo_gateNow_l23 sm a d c g w n (j + 1) g x7 ((144 * d) + nI j) 1).2.1 = x7 ∧ (mo_gateNow_l23 sm a d c g w n (j + 1) g x7 ((144 * d) + nI j) 1).2.2.1 = (144 * d) + tb_lastOfGate_l2 s1 c z m (nI j) := by
  intro n
  induction n with
  | zero =>
    intro j m x7 hj hm hg
    refine ⟨rfl, ?_⟩
    cases m with
    | zero => rfl
    | succ m => rw [tb_lastOfGate_l2, nI_1, if_pos (show (144 : Int32) ≤ nI (j + 1) from nI_le (a := 144) (b := j + 1) (by omega) (by omega))]; rfl
  | succ n ih =>
    intro j m x7 hj hm hg
    obtain ⟨m, rfl⟩ : ∃ q, m = q + 1 := ⟨m - 1, by omega⟩
    have hnle : ¬ (144 : Int32) ≤ nI (j + 1) := nI_ge (a := j + 1) (b := 144) (by omega) (by omega)
    rw [tb_lastOfGate_l2, nI_1, if_neg hnle, nI_clamp (by omega), hrow (j + 1) (by omega)]
    by_cases c1 : mo_heightAt sm a ((144 * d) + nI (j + 1)) < c
    · rw [if_pos c1, gs_closed n (j + 1) g x7 _ 1 c1]
      exact gs_after _ _ _ _ _ _ (by omega) (by omega) (by omega) (Or.inl rfl)
    · rw [if_neg c1, gs_in n (j + 1) g x7 _ c1, if_pos rfl]
      exact ih (j + 1) m x7 (by omega) (by omega) (by omega)
/-- ahead of the gate -/
theorem gs_ahead {s1 sm : tt_St} {a d c g w z : Int32} (hrow : ∀ i, i < 144 → tt_A s1 7 i = mo_heightAt sm a ((144 * d) + nI i)) : ∀ (n j : Nat) (x6 x9 : Int32), j + n = 144 → -1 ≤ x6.toInt ∧ x6.toInt + 1 ≤ j → (¬ x9 = 0 → ¬ x6 = g) → x9 = (if j = 0 then 0 else if mo_heightAt sm a ((144 * d) + nI (j - 1)) < c then 0 else 1 : Int32) →
    (tb_firstOfGate_l5 s1 c g n j (x6 + 1) = -10001 → (mo_gateNow_l23 sm a d c g w n j x6 (-10001) (-10001) x9).2.1 = -10001) ∧ (¬ tb_firstOfGate_l5 s1 c g n j (x6 + 1) = -10001 → (mo_gateNow_l23 sm a d c g w n j x6 (-10001) (-10001) x9).2.1 = (144 * d) + tb_firstOfGate_l5 s1 c g n j (x6 + 1) ∧ (mo_gateNow_l23 sm a d c g w n j x6 (-10001) (-10001) x9).2.2.1 = (144 * d) + tb_lastOfGate_l2 s1 c z 144 (tb_firstOfGate_l5 s1 c g n j (x6 + 1))) := by
  intro n
  induction n with
  | zero =>
    intro j x6 x9 _ _ _ _
    refine ⟨fun _ => rfl, fun q => absurd ?_ q⟩
    rfl
  | succ n ih =>
    intro j x6 x9 hj h6 h9 hx
    have e1 : (1 : Int32).toInt = 1 := rfl
    have ea : (x6 + 1).toInt = x6.toInt + 1 := by rw [tt_add] <;> rw [e1] <;> omega
    rw [tb_firstOfGate_l5, nI_clamp (by omega), hrow j (by omega)]
    by_cases c1 : mo_heightAt sm a ((144 * d) + nI j) < c
    · rw [if_pos c1, gs_closed n j x6 _ _ x9 c1]
      refine ih (j + 1) x6 0 (by omega) ⟨h6.1, by omega⟩ (fun q => absurd rfl q) ?_
      rw [if_neg (by omega), show j + 1 - 1 = j from rfl, if_pos c1]
    · rw [if_neg c1]
      have hnext : (1 : Int32) = (if j + 1 = 0 then 0 else if mo_heightAt sm a ((144 * d) + nI (j + 1 - 1)) < c then 0 else 1 : Int32) := by
        rw [if_neg (by omega), show j + 1 - 1 = j from rfl, if_neg c1]
      have start : x9 = 0 → (if x6 + 1 = g then nI j else tb_firstOfGate_l5 s1 c g n (j + 1) (x6 + 1 + 1)) = -10001 ∧ (mo_gateNow_l23 sm a d c g w (n + 1) j x6 (-10001) (-10001) x9).2.1 = -10001 ∨ ¬ (if x6 + 1 = g then nI j else tb_firstOfGate_l5 s1 c g n (j + 1) (x6 + 1 + 1)) = -10001 ∧ (mo_gateNow_l23 sm a d c g w (n + 1) j x6 (-10001) (-10001) x9).2.1 = (144 * d) + (if x6 + 1 = g then nI j else tb_firstOfGate_l5 s1 c g n (j + 1) (x6 + 1 + 1)) ∧ (mo_gateNow_l23 sm a d c g w (n + 1) j x6 (-10001) (-10001) x9).2.2.1 = (144 * d) + tb_lastOfGate_l2 s1 c z 144 (if x6 + 1 = g then nI j else tb_firstOfGate_l5 s1 c g n (j + 1) (x6 + 1 + 1)) := by
        rintro rfl
        rw [gs_start n j x6 _ _ c1]
        by_cases c2 : x6 + 1 = g
        · right
          rw [if_pos c2, if_pos c2, c2]
          refine ⟨?_, gs_within hrow n j 144 _ (by omega) (by omega) (by rw [← c2, ea]; omega)⟩
          intro q
          have := congrArg Int32.toInt q
          rw [nI_toInt (by omega)] at this
          have e2 : (-10001 : Int32).toInt = -10001 := rfl
          omega
        · rw [if_neg c2, if_neg c2]
          have q := ih (j + 1) (x6 + 1) 1 (by omega) ⟨by omega, by omega⟩ (fun _ => c2) hnext
          by_cases c3 : tb_firstOfGate_l5 s1 c g n (j + 1) (x6 + 1 + 1) = -10001
          · left; exact ⟨c3, q.1 c3⟩
          · right; exact ⟨c3, q.2 c3⟩
      have fin : ∀ F : Int32, (F = -10001 ∧ (mo_gateNow_l23 sm a d c g w (n + 1) j x6 (-10001) (-10001) x9).2.1 = -10001 ∨ ¬ F = -10001 ∧ (mo_gateNow_l23 sm a d c g w (n + 1) j x6 (-10001) (-10001) x9).2.1 = (144 * d) + F ∧ (mo_gateNow_l23 sm a d c g w (n + 1) j x6 (-10001) (-10001) x9).2.2.1 = (144 * d) + tb_lastOfGate_l2 s1 c z 144 F) → (F = -10001 → (mo_gateNow_l23 sm a d c g w (n + 1) j x6 (-10001) (-10001) x9).2.1 = -10001) ∧ (¬ F = -10001 → (mo_gateNow_l23 sm a d c g w (n + 1) j x6 (-10001) (-10001) x9).2.1 = (144 * d) + F ∧ (mo_gateNow_l23 sm a d c g w (n + 1) j x6 (-10001) (-10001) x9).2.2.1 = (144 * d) + tb_lastOfGate_l2 s1 c z 144 F) := by
        intro F q
        rcases q with ⟨q1, q2⟩ | ⟨q1, q2⟩
        · exact ⟨fun _ => q2, fun z => absurd q1 z⟩
        · exact ⟨fun z => absurd z q1, fun _ => q2⟩
      by_cases c2 : j = 0
      · subst c2
        rw [if_pos (show nI 0 = 0 from nI_0)]
        exact fin _ (start (by rw [hx, if_pos rfl]))
      · obtain ⟨i, rfl⟩ : ∃ i, j = i + 1 := ⟨j - 1, by omega⟩
        rw [if_neg (nI_ne0 (by omega) (by omega)), nI_pred, nI_clamp (by omega), hrow i (by omega)]
        rw [if_neg c2, show i + 1 - 1 = i from rfl] at hx
        by_cases c3 : mo_heightAt sm a ((144 * d) + nI i) < c
        · rw [if_pos c3] at hx
          rw [if_neg (by rw [tt_le]; rw [tt_lt] at c3; omega)]
          exact fin _ (start hx)
        · rw [if_neg c3] at hx
          subst hx
          have ng := h9 (by decide)
          rw [if_pos (by rw [tt_le]; rw [tt_lt] at c3; omega), gs_in n (i + 1) x6 _ _ c1, if_neg ng]
          exact ih (i + 1 + 1) x6 1 (by omega) ⟨h6.1, by omega⟩ (fun _ => ng) hnext
theorem eq_gate_n {s1 sm : tt_St} {a d c g : Int32} (hd : ¬ mo_within d 0 9 = 0) (hrow : ∀ i, i < 144 → tt_A s1 7 i = mo_heightAt sm a ((144 * d) + nI i)) : (tb_firstOfGate s1 c g = -10001 ∧ ∀ w, mo_gateNow sm a d c g w = -10101) ∨ (¬ tb_firstOfGate s1 c g = -10001 ∧ ∀ w, ¬ mo_gateNow sm a d c g w = -10101 ∨ ¬ w = 0) ∧ (∀ w, mo_gateNow sm a d c g w = (if w = 0 then (144 * d) + tb_firstOfGate s1 c g else (144 * d) + tb_lastOfGate s1 c (tb_firstOfGate s1 c g))) := by
  have hd2 := mo_within_1.mp hd
  have e0 : (0 : Int32).toInt = 0 := rfl
  have e9 : (9 : Int32).toInt = 9 := rfl
  have e144 : (144 : Int32).toInt = 144 := rfl
  have hm : (144 * d).toInt = 144 * d.toInt := by rw [tt_mul] <;> rw [e144] <;> omega
  have key := fun w => gs_ahead (s1 := s1) (sm := sm) (a := a) (d := d) (c := c) (g := g) (w := w) (z := tb_firstOfGate s1 c g) hrow 144 0 (-1) 0 (by omega) (by decide) (fun q => absurd rfl q) (by rw [if_pos rfl])
  rw [show (-1 : Int32) + 1 = 0 from by decide] at key
  by_cases c1 : tb_firstOfGate s1 c g = -10001
  · left
    refine ⟨c1, fun w => ?_⟩
    rw [mo_gateNow, if_pos ((key w).1 c1)]
  · right
    have hi := tt_in_lt (tb_first_in c1)
    have hs : ((144 * d) + tb_firstOfGate s1 c g).toInt = 144 * d.toInt + (tb_firstOfGate s1 c g).toInt := by rw [tt_add] <;> rw [hm] <;> omega
    have n1 : ¬ (144 * d) + tb_firstOfGate s1 c g = -10001 := by rw [tt_eq, hs, show (-10001 : Int32).toInt = -10001 from rfl]; omega
    have n2 : ¬ (144 * d) + tb_firstOfGate s1 c g = -10101 := by rw [tt_eq, hs, show (-10101 : Int32).toInt = -10101 from rfl]; omega
    have val : ∀ w, mo_gateNow sm a d c g w = (if w = 0 then (144 * d) + tb_firstOfGate s1 c g else (144 * d) + tb_lastOfGate s1 c (tb_firstOfGate s1 c g)) := by
      intro w
      have q := (key w).2 c1
      have q1 : (mo_gateNow_l23 sm a d c g w 144 0 (-1) (-10001) (-10001) 0).2.1 = (144 * d) + tb_firstOfGate s1 c g := q.1
      have q2 : (mo_gateNow_l23 sm a d c g w 144 0 (-1) (-10001) (-10001) 0).2.2.1 = (144 * d) + tb_lastOfGate s1 c (tb_firstOfGate s1 c g) := q.2
      rw [mo_gateNow, q1, q2, if_neg n1]
    refine ⟨⟨c1, fun w => ?_⟩, val⟩
    by_cases w0 : w = 0
    · left; rw [val, if_pos w0]; exact n2
    · right; exact w0
theorem eq_gate_c {k : Nat} {sc sm : tt_St} (h : rl k sc sm) (a d c g w : Int32) : (tb_gate sc a d c g w).1 = mo_gate sm a d c g w ∧ rl k (tb_gate sc a d c g w).2 sm := by
  rw [tb_gate, mo_gate]
  rcases h.knows a with ⟨c1, c2⟩ | ⟨c1, c2, p, hp, hp4, rfl⟩
  · rw [if_pos c1, if_pos c2]; exact ⟨rfl, h⟩
  · rw [if_neg c1, if_neg c2, mo_isDay, mo_isNeed, eq_within, eq_within]
    by_cases d1 : mo_within d 0 9 = 0
    · rw [if_pos d1, if_pos d1]; exact ⟨rfl, h⟩
    · rw [if_neg d1, if_neg d1]
      by_cases d2 : mo_within c (-2000) 4000 = 0
      · rw [if_pos d2, if_pos d2]; exact ⟨rfl, h⟩
      · rw [if_neg d2, if_neg d2, tb_gate_k62]
        have hr : ∀ i, i < 144 → tt_A (se_fill sc 3 7 (nI p) (d * 144) 144) 7 i = mo_heightAt sm (nI p) ((144 * d) + nI i) := fun i hi => by
          rw [fl_row (by decide) (by rw [show Int32.toNatClampNeg 144 = 144 from by decide]; exact hi), eq_day, h.height hp]
        have f := h.fill 3 7 (nI p) (d * 144) 144 (by decide)
        generalize se_fill sc 3 7 (nI p) (d * 144) 144 = s1 at hr f ⊢
        rcases eq_gate_n (c := c) (g := g) d1 hr with ⟨q1, q2⟩ | ⟨⟨q1, q2⟩, q3⟩
        · rw [if_pos q1, if_pos (q2 0)]; exact ⟨rfl, f⟩
        · have q4 : ¬ mo_gateNow sm (nI p) d c g 0 = -10101 := (q2 0).resolve_right (fun z => z rfl)
          rw [if_neg q1, if_neg q4, eq_day]
          by_cases w0 : w = 0
          · have hw : ¬ mo_within w 0 1 = 0 := by rw [w0]; decide
            rw [if_pos w0, if_neg hw, q3, if_pos w0]; exact ⟨rfl, f⟩
          · rw [if_neg w0]
            by_cases w1 : w = 1
            · have hw : ¬ mo_within w 0 1 = 0 := by rw [w1]; decide
              rw [if_pos w1, if_neg hw, q3, if_neg w0]; exact ⟨rfl, f⟩
            · have hw : mo_within w 0 1 = 0 := by
                apply Classical.not_not.mp
                intro q
                have h9 := mo_within_1.mp q
                have e0 : (0 : Int32).toInt = 0 := rfl
                have g1 : (1 : Int32).toInt = 1 := rfl
                rw [tt_eq] at w0 w1
                omega
              rw [if_neg w1, if_pos hw]; exact ⟨rfl, f⟩

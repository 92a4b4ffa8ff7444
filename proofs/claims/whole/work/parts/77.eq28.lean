/-! the class's look at a port -/
def qP (N : Nat) (st : tt_St) (k : Nat) (t : Nat × Bool) : Prop := (t.2 = false → cW N k st = (nI t.1, st) ∧ (t.1 = N → pg_canEndAhead st (nI N) = 0)) ∧ (t.2 = true → cW N k st = cW N t.1 st ∧ t.1 ≤ N)
theorem tx_num_bad {c : Nat → Int32} {N j : Nat} {lo hi : Int32} (h : (tx_num c N j lo hi).2 = false) : (tx_num c N j lo hi).1 = j ∨ (tx_num c N j lo hi).1 = j + 1 := by
  unfold tx_num at h ⊢
  by_cases c1 : tx_fig c N j = false
  · rw [if_pos c1]; exact Or.inl (Eq.refl _)
  rw [if_neg c1] at h ⊢
  by_cases c2 : hi / 10 < tx_at c N j - 48
  · rw [if_pos c2]; exact Or.inl (Eq.refl _)
  rw [if_neg c2] at h ⊢
  by_cases c4 : tx_fig c N (j + 1) = false
  · rw [if_pos c4]; exact Or.inr (Eq.refl _)
  rw [if_neg c4] at h ⊢
  by_cases c5 : mo_within (tx_nm c N j) lo hi = 0
  · rw [if_pos c5]; exact Or.inr (Eq.refl _)
  rw [if_neg c5] at h
  exact Bool.noConfusion h
theorem cq_num {st : tt_St} {c : Nat → Int32} {N a n i : Nat} (h : cx st c N a n) (f : Bool) (hf : f = decide (tx_at c N a = 102)) (hL : 2 * i + 3 ≤ (if f = false then 23 else 7)) (hk : a + (2 * i + 1) ≤ N) (hc : tx_fig c N (a + (2 * i + 1)) = true ∨ ce f (nI (2 * i + 1)) = 0) (lo hi : Int32) (el : tlo f (nI (2 * i + 1)) = lo) (eh : thi f (nI (2 * i + 1)) = hi) : qP N st (a + (2 * i + 1)) (tx_num c N (a + (2 * i + 1)) lo hi) := by
  have hi11 : i < 11 := by
    cases f with
    | false => simp only [if_true] at hL; omega
    | true => simp only [Bool.true_eq_false, if_false] at hL; omega
  have pe := pc_r h f hf hk
  obtain ⟨k1, k2⟩ := cw_num h f hf hL hk (hc.imp id (fun q => by rw [pe]; exact q)) lo hi el eh
  refine ⟨fun q => ⟨k1 q, fun e => ?_⟩, fun q => ?_⟩
  · rcases tx_num_bad q with z | z
    · rw [z] at e
      have hz : ce f (nI (2 * i + 1)) = 0 := hc.resolve_left (fun y => by rw [e, fg_end] at y; exact Bool.noConfusion y)
      rw [← hz, ← pe, e]
    · rw [z] at e
      have pe2 := pc_r h f hf (r := 2 * (i + 1)) (by omega)
      rw [show N = a + 2 * (i + 1) from by omega, pe2]
      exact ce_even (by omega)
  · have z := (tx_num_ok q).1
    obtain ⟨m1, m2⟩ := k2 q
    rw [z, m1]
    exact ⟨Eq.refl _, m2⟩
theorem tw_all : ∀ w : Fin 3, tlo false (nI (2 * (2 + 3 * w.1) + 1)) = 1 ∧ thi false (nI (2 * (2 + 3 * w.1) + 1)) = 99 ∧ tlo false (nI (2 * (3 + 3 * w.1) + 1)) = 0 ∧ thi false (nI (2 * (3 + 3 * w.1) + 1)) = 99 ∧ tlo false (nI (2 * (4 + 3 * w.1) + 1)) = 0 ∧ thi false (nI (2 * (4 + 3 * w.1) + 1)) = 63 ∧ ce false (nI (2 * (3 + 3 * w.1) + 1)) = 0 ∧ ce false (nI (2 * (4 + 3 * w.1) + 1)) = 0 := by decide +kernel
theorem cq_wave {st : tt_St} {c : Nat → Int32} {N a n w : Nat} (h : cx st c N a n) (hf : false = decide (tx_at c N a = 102)) (hw : w < 3) (hk : a + (5 + 6 * w) ≤ N) (hc : tx_fig c N (a + (5 + 6 * w)) = true ∨ w = 0) : qP N st (a + (5 + 6 * w)) (tx_wave c N (a + (5 + 6 * w))) := by
  obtain ⟨t1, t2, t3, t4, t5, t6, t7, t8⟩ := tw_all ⟨w, hw⟩
  have c0 : w = 0 → ce false (nI (2 * (2 + 3 * w) + 1)) = 0 := fun q => by subst q; decide
  have q1 := cq_num (i := 2 + 3 * w) h false hf (by simp only [if_true]; omega) (by omega) (by
    rcases hc with q | q
    · left; rw [show a + (2 * (2 + 3 * w) + 1) = a + (5 + 6 * w) from by omega]; exact q
    · right; exact c0 q) 1 99 t1 t2
  rw [show a + (2 * (2 + 3 * w) + 1) = a + (5 + 6 * w) from by omega] at q1
  rw [tx_wave]
  by_cases c1 : (tx_num c N (a + (5 + 6 * w)) 1 99).2 = false
  · rw [if_pos c1]; exact q1
  have c1' : (tx_num c N (a + (5 + 6 * w)) 1 99).2 = true := by simpa using c1
  obtain ⟨u1, u2⟩ := q1.2 c1'
  rw [(tx_num_ok c1').1] at u1 u2
  rw [if_neg c1]
  have q2 := cq_num (i := 3 + 3 * w) h false hf (by simp only [if_true]; omega) (by omega) (Or.inr t7) 0 99 t3 t4
  rw [show a + (2 * (3 + 3 * w) + 1) = a + (5 + 6 * w) + 2 from by omega] at q2
  by_cases c2 : (tx_num c N (a + (5 + 6 * w) + 2) 0 99).2 = false
  · rw [if_pos c2]
    exact ⟨fun q => ⟨u1.trans (q2.1 q).1, (q2.1 q).2⟩, fun q => ⟨u1.trans (q2.2 q).1, (q2.2 q).2⟩⟩
  have c2' : (tx_num c N (a + (5 + 6 * w) + 2) 0 99).2 = true := by simpa using c2
  obtain ⟨v1, v2⟩ := q2.2 c2'
  rw [(tx_num_ok c2').1] at v1 v2
  rw [if_neg c2]
  have q3 := cq_num (i := 4 + 3 * w) h false hf (by simp only [if_true]; omega) (by omega) (Or.inr t8) 0 63 t5 t6
  rw [show a + (2 * (4 + 3 * w) + 1) = a + (5 + 6 * w) + 4 from by omega] at q3
  exact ⟨fun q => ⟨u1.trans (v1.trans (q3.1 q).1), (q3.1 q).2⟩, fun q => ⟨u1.trans (v1.trans (q3.2 q).1), (q3.2 q).2⟩⟩
theorem tx_wave_ok {c : Nat → Int32} {N j : Nat} (h : (tx_wave c N j).2 = true) : (tx_wave c N j).1 = j + 6 := by
  unfold tx_wave at h ⊢
  by_cases c1 : (tx_num c N j 1 99).2 = false
  · rw [if_pos c1, c1] at h; exact Bool.noConfusion h
  rw [if_neg c1] at h ⊢
  by_cases c2 : (tx_num c N (j + 2) 0 99).2 = false
  · rw [if_pos c2, c2] at h; exact Bool.noConfusion h
  rw [if_neg c2] at h ⊢
  exact (tx_num_ok h).1
/-- the waves: where they end a port can end, and no letter but a comma goes on -/
theorem cq_waves {st : tt_St} {c : Nat → Int32} {N a n : Nat} (h : cx st c N a n) (hf : false = decide (tx_at c N a = 102)) : ∀ (m w : Nat), w + m = 3 → a + (5 + 6 * w) ≤ N → qP N st (a + (5 + 6 * w)) (tx_waves c N m w (a + (5 + 6 * w))) ∧ ((tx_waves c N m w (a + (5 + 6 * w))).2 = true → 1 ≤ w + m → (0 < w ∨ 0 < m) → ¬ pg_canEndAhead st (nI (tx_waves c N m w (a + (5 + 6 * w))).1) = 0 ∧ ((tx_waves c N m w (a + (5 + 6 * w))).1 < N → pg_fits st (nI (tx_waves c N m w (a + (5 + 6 * w))).1) = 0)) := by
  have hN96 := h.2.1
  have ends : ∀ w, 1 ≤ w → w ≤ 3 → a + (5 + 6 * w) ≤ N → ¬ pg_canEndAhead st (nI (a + (5 + 6 * w))) = 0 := fun w w1 w3 hk => by
    rw [pc_r h false hf hk]
    have k := (ce_t ⟨5 + 6 * w, by omega⟩).2
    have k' : ce false (nI (5 + 6 * w)) = (if 5 + 6 * w = 11 ∨ 5 + 6 * w = 17 ∨ 5 + 6 * w = 23 then 1 else 0) := k
    rw [k', if_pos (by omega)]; decide
  intro m
  induction m with
  | zero =>
    intro w hw hk
    have w3 : w = 3 := by omega
    subst w3
    rw [tx_waves]
    refine ⟨⟨fun q => Bool.noConfusion q, fun _ => ⟨Eq.refl _, hk⟩⟩, fun _ _ _ => ⟨ends 3 (by omega) (by omega) hk, fun q => ?_⟩⟩
    have q' : a + (5 + 6 * 3) < N := q
    show pg_fits st (nI (a + (5 + 6 * 3))) = 0
    rw [pf_r h false hf (by omega) q', if_pos (by decide)]
  | succ m ih =>
    intro w hw hk
    rw [tx_waves]
    by_cases c0 : ¬ w = 0 ∧ tx_fig c N (a + (5 + 6 * w)) = false
    · rw [if_pos c0]
      refine ⟨⟨fun q => Bool.noConfusion q, fun _ => ⟨Eq.refl _, hk⟩⟩, fun _ _ _ => ⟨ends w (by omega) (by omega) hk, fun q => ?_⟩⟩
      have q' : a + (5 + 6 * w) < N := q
      show pg_fits st (nI (a + (5 + 6 * w))) = 0
      rw [pf_r h false hf (by omega) q', if_pos (fg_w.mpr c0.2), ite_self]
    · rw [if_neg c0]
      have hc : tx_fig c N (a + (5 + 6 * w)) = true ∨ w = 0 := by
        by_cases z : w = 0
        · exact Or.inr z
        · left
          cases e : tx_fig c N (a + (5 + 6 * w)) with
          | true => rfl
          | false => exact absurd ⟨z, e⟩ c0
      have qw := cq_wave h hf (by omega) hk hc
      by_cases c1 : (tx_wave c N (a + (5 + 6 * w))).2 = false
      · rw [if_pos c1]
        exact ⟨qw, fun q => by rw [c1] at q; exact Bool.noConfusion q⟩
      · have c1' : (tx_wave c N (a + (5 + 6 * w))).2 = true := by simpa using c1
        obtain ⟨u1, u2⟩ := qw.2 c1'
        rw [tx_wave_ok c1', show a + (5 + 6 * w) + 6 = a + (5 + 6 * (w + 1)) from by omega] at u1 u2
        rw [if_neg c1, show a + (5 + 6 * w) + 6 = a + (5 + 6 * (w + 1)) from by omega]
        obtain ⟨i1, i2⟩ := ih (w + 1) (by omega) u2
        exact ⟨⟨fun q => ⟨u1.trans (i1.1 q).1, (i1.1 q).2⟩, fun q => ⟨u1.trans (i1.2 q).1, (i1.2 q).2⟩⟩, fun q _ _ => i2 q (by omega) (by omega)⟩

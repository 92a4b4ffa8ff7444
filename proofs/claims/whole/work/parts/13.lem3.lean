theorem mo_isWave_in {st : tt_St} {a b : Int32} (hI : mo_ok st) (h : ¬ mo_isWave st a b = 0) : vp_in a 4 ∧ vp_in b 3 := by
  unfold mo_isWave at h
  by_cases h1 : mo_isPort st a = 0
  · rw [if_pos h1] at h; exact absurd rfl h
  · rw [if_neg h1] at h
    have hp := mo_isPort_in hI h1
    refine ⟨hp, ?_⟩
    by_cases h2 : mo_within b 0 (tt_A st 54 a.toNatClampNeg - 1) = 0
    · rw [if_pos h2] at h; exact absurd rfl h
    · have h3 := mo_within_1.mp h2
      have h0 : (0 : Int32).toInt = 0 := rfl
      have hw := hI.2.2.2 _ (tt_inN hp)
      have h4 : (tt_A st 54 a.toNatClampNeg - 1).toInt = (tt_A st 54 a.toNatClampNeg).toInt - 1 := by
        have e : (1 : Int32).toInt = 1 := rfl
        rw [tt_sub] <;> rw [e] <;> omega
      exact tt_in (by omega) (by omega)

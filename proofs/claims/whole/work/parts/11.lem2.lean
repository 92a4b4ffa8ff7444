theorem mo_isPort_in {st : tt_St} {a : Int32} (hI : mo_ok st) (h : ¬ mo_isPort st a = 0) : vp_in a 4 := by
  have h1 := mo_within_1.mp h
  have h0 : (0 : Int32).toInt = 0 := rfl
  have h2 : (tt_I st 49 1 - 1).toInt = (tt_I st 49 1).toInt - 1 := by
    have e : (1 : Int32).toInt = 1 := rfl
    have := hI.1
    rw [tt_sub] <;> rw [e] <;> omega
  have := hI.1
  exact tt_in (by omega) (by omega)
theorem mo_isDay_in {a : Int32} (h : ¬ mo_isDay a = 0) : vp_in a 10 := mo_within_in (by decide) h
theorem mo_isTick_in {a : Int32} (h : ¬ mo_isTick a = 0) : vp_in a 1440 := mo_within_in (by decide) h

theorem mo_pl_in {st : tt_St} (hl : mo_pl st) (h : ¬ tt_I st 49 13 = 96) : vp_in (tt_I st 49 13) 96 := by
  have e : (96 : Int32).toInt = 96 := rfl
  rw [tt_eq, e] at h
  have := hl
  exact tt_in hl.1 (by have := hl.2; omega)
theorem mo_w_in {st : tt_St} {p : Int32} (hI : mo_ok st) (hp : vp_in p 4) (h : ¬ tt_A st 54 p.toNatClampNeg = 3) : vp_in (tt_A st 54 p.toNatClampNeg) 3 := by
  have e : (3 : Int32).toInt = 3 := rfl
  rw [tt_eq, e] at h
  have := hI.2.2.2 _ (tt_inN hp)
  exact tt_in this.1 (by omega)
theorem mo_seen_in {st : tt_St} (hI : mo_ok st) (h : ¬ tt_I st 49 9 = 6) : vp_in (tt_I st 49 9) 6 := by
  have e : (6 : Int32).toInt = 6 := rfl
  rw [tt_eq, e] at h
  have := hI.2.1
  exact tt_in this.1 (by omega)

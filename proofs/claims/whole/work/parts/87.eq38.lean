/-! the reference keeps the part of the class -/
def km (s s' : tt_St) : Prop := (∀ o f, o < 49 → tt_I s' o f = tt_I s o f) ∧ ∀ a i, a < 50 → tt_A s' a i = tt_A s a i
theorem km_rfl (s : tt_St) : km s s := ⟨fun _ _ _ => Eq.refl _, fun _ _ _ => Eq.refl _⟩
theorem km_pI {s t : tt_St} {f : Nat} {v : Int32} (h : km s t) : km s (tt_pI t 49 f v) := ⟨fun o g ho => (px_I (by omega)).trans (h.1 o g ho), h.2⟩
theorem km_pL {s t : tt_St} {o f : Nat} {v : Int64} (h : km s t) : km s (tt_pL t o f v) := ⟨h.1, h.2⟩
theorem km_pA {s t : tt_St} {a i : Nat} {v : Int32} (ha : 50 ≤ a) (h : km s t) : km s (tt_pA t a i v) := ⟨h.1, fun b j hb => (px_A (by omega)).trans (h.2 b j hb)⟩
theorem km_mk {α : Type} {s t : tt_St} {x : α} (h : km s t) : km s (x, t).2 := h
theorem km_ite {α : Type} {s : tt_St} {c : Prop} [Decidable c] {a b : α × tt_St} (h1 : km s a.2) (h2 : km s b.2) : km s (if c then a else b).2 := by
  by_cases q : c
  · rw [if_pos q]; exact h1
  · rw [if_neg q]; exact h2
theorem km_mo_letter {s st : tt_St} {a1 : Int32} (h : km s st) : km s (mo_letter st a1).2 := by
  unfold mo_letter
  repeat' (first | with_reducible assumption | with_reducible refine km_ite ?_ ?_ | with_reducible refine km_pI ?_ | with_reducible refine km_pL ?_ | with_reducible refine km_pA (by decide) ?_)
theorem km_mo_blank {s st : tt_St}  (h : km s st) : km s (mo_blank st).2 := by
  unfold mo_blank
  repeat' (first | with_reducible assumption | with_reducible refine km_ite ?_ ?_ | with_reducible refine km_pI ?_ | with_reducible refine km_pL ?_ | with_reducible refine km_pA (by decide) ?_)
theorem km_mo_readNumber {s st : tt_St} {a1 : Int32} {a2 : Int32} {a3 : Int32} (h : km s st) : km s (mo_readNumber st a1 a2 a3).2 := by
  unfold mo_readNumber
  repeat' (first | with_reducible assumption | with_reducible refine km_ite ?_ ?_ | with_reducible refine km_pI ?_ | with_reducible refine km_pL ?_ | with_reducible refine km_pA (by decide) ?_)
theorem km_mo_mean {s st : tt_St} {a1 : Int32} {a2 : Int32} (h : km s st) : km s (mo_mean st a1 a2).2 := by
  unfold mo_mean
  repeat' (first | with_reducible assumption | with_reducible refine km_ite ?_ ?_ | with_reducible refine km_pI ?_ | with_reducible refine km_pL ?_ | with_reducible refine km_pA (by decide) ?_)
theorem km_mo_mark {s st : tt_St} {a1 : Int32} {a2 : Int32} (h : km s st) : km s (mo_mark st a1 a2).2 := by
  unfold mo_mark
  repeat' (first | with_reducible assumption | with_reducible refine km_ite ?_ ?_ | with_reducible refine km_pI ?_ | with_reducible refine km_pL ?_ | with_reducible refine km_pA (by decide) ?_)
theorem km_mo_ratio {s st : tt_St} {a1 : Int32} {a2 : Int32} (h : km s st) : km s (mo_ratio st a1 a2).2 := by
  unfold mo_ratio
  repeat' (first | with_reducible assumption | with_reducible refine km_ite ?_ ?_ | with_reducible refine km_pI ?_ | with_reducible refine km_pL ?_ | with_reducible refine km_pA (by decide) ?_)
theorem km_mo_be {s st : tt_St} {a1 : Int32} {a2 : Int32} (h : km s st) : km s (mo_be st a1 a2).2 := by
  unfold mo_be
  repeat' (first | with_reducible assumption | with_reducible refine km_ite ?_ ?_ | with_reducible refine km_pI ?_ | with_reducible refine km_pL ?_ | with_reducible refine km_pA (by decide) ?_)
theorem km_mo_add {s st : tt_St} {a1 : Int32} {a2 : Int32} {a3 : Int32} {a4 : Int32} (h : km s st) : km s (mo_add st a1 a2 a3 a4).2 := by
  unfold mo_add
  repeat' (first | with_reducible assumption | with_reducible refine km_ite ?_ ?_ | with_reducible refine km_pI ?_ | with_reducible refine km_pL ?_ | with_reducible refine km_pA (by decide) ?_)
theorem kml_mo_take_l22 {s : tt_St} {a1 : Int32} {a2 : Int32} : ∀ (n : Nat) (j : Nat) (st : tt_St), km s st → km s (mo_take_l22 a1 a2 n j st) := by
  intro n
  induction n with
  | zero => intro j st h; rw [mo_take_l22]; exact h
  | succ n ih =>
    intro j st h
    rw [mo_take_l22]
    repeat' (first | with_reducible assumption | with_reducible refine km_ite ?_ ?_ | with_reducible refine km_pI ?_ | with_reducible refine km_pL ?_ | with_reducible refine km_pA (by decide) ?_ | with_reducible refine ih _ _ ?_)
theorem km_mo_take {s st : tt_St} {a1 : Int32} {a2 : Int32} (h : km s st) : km s (mo_take st a1 a2).2 := by
  unfold mo_take
  repeat' (first | with_reducible assumption | with_reducible refine km_ite ?_ ?_ | with_reducible refine km_pI ?_ | with_reducible refine km_pL ?_ | with_reducible refine km_pA (by decide) ?_ | with_reducible refine kml_mo_take_l22 _ _ _ ?_)
theorem km_mo_see {s st : tt_St} {a1 : Int32} {a2 : Int32} {a3 : Int32} (h : km s st) : km s (mo_see st a1 a2 a3).2 := by
  unfold mo_see
  repeat' (first | with_reducible assumption | with_reducible refine km_ite ?_ ?_ | with_reducible refine km_pI ?_ | with_reducible refine km_pL ?_ | with_reducible refine km_pA (by decide) ?_)
theorem km_mo_forget {s st : tt_St}  (h : km s st) : km s (mo_forget st).2 := by
  unfold mo_forget
  repeat' (first | with_reducible assumption | with_reducible refine km_ite ?_ ?_ | with_reducible refine km_pI ?_ | with_reducible refine km_pL ?_ | with_reducible refine km_pA (by decide) ?_)
theorem kml_mo_image_l34 {s : tt_St}  : ∀ (n : Nat) (j : Nat) (st : tt_St), km s st → km s (mo_image_l34  n j st) := by
  intro n
  induction n with
  | zero => intro j st h; rw [mo_image_l34]; exact h
  | succ n ih =>
    intro j st h
    rw [mo_image_l34]
    repeat' (first | with_reducible assumption | with_reducible refine km_ite ?_ ?_ | with_reducible refine km_pI ?_ | with_reducible refine km_pL ?_ | with_reducible refine km_pA (by decide) ?_ | with_reducible refine ih _ _ ?_)
theorem kml_mo_image_l107 {s : tt_St}  : ∀ (n : Nat) (j : Nat) (st : tt_St), km s st → km s (mo_image_l107  n j st) := by
  intro n
  induction n with
  | zero => intro j st h; rw [mo_image_l107]; exact h
  | succ n ih =>
    intro j st h
    rw [mo_image_l107]
    repeat' (first | with_reducible assumption | with_reducible refine km_ite ?_ ?_ | with_reducible refine km_pI ?_ | with_reducible refine km_pL ?_ | with_reducible refine km_pA (by decide) ?_ | with_reducible refine ih _ _ ?_)
theorem kml_mo_image_l133 {s : tt_St}  : ∀ (n : Nat) (j : Nat) (st : tt_St), km s st → km s (mo_image_l133  n j st) := by
  intro n
  induction n with
  | zero => intro j st h; rw [mo_image_l133]; exact h
  | succ n ih =>
    intro j st h
    rw [mo_image_l133]
    repeat' (first | with_reducible assumption | with_reducible refine km_ite ?_ ?_ | with_reducible refine km_pI ?_ | with_reducible refine km_pL ?_ | with_reducible refine km_pA (by decide) ?_ | with_reducible refine ih _ _ ?_)
theorem km_mo_image {s st : tt_St}  (h : km s st) : km s (mo_image st).2 := by
  unfold mo_image
  repeat' (first | with_reducible assumption | with_reducible refine km_ite ?_ ?_ | with_reducible refine km_pI ?_ | with_reducible refine km_pL ?_ | with_reducible refine km_pA (by decide) ?_ | with_reducible refine kml_mo_image_l34 _ _ _ ?_ | with_reducible refine kml_mo_image_l107 _ _ _ ?_ | with_reducible refine kml_mo_image_l133 _ _ _ ?_)
theorem kml_mo_restore_l32 {s : tt_St}  : ∀ (n : Nat) (j : Nat) (st : tt_St), km s st → km s (mo_restore_l32  n j st) := by
  intro n
  induction n with
  | zero => intro j st h; rw [mo_restore_l32]; exact h
  | succ n ih =>
    intro j st h
    rw [mo_restore_l32]
    repeat' (first | with_reducible assumption | with_reducible refine km_ite ?_ ?_ | with_reducible refine km_pI ?_ | with_reducible refine km_pL ?_ | with_reducible refine km_pA (by decide) ?_ | with_reducible refine ih _ _ ?_)
theorem kml_mo_restore_l105 {s : tt_St}  : ∀ (n : Nat) (j : Nat) (st : tt_St), km s st → km s (mo_restore_l105  n j st) := by
  intro n
  induction n with
  | zero => intro j st h; rw [mo_restore_l105]; exact h
  | succ n ih =>
    intro j st h
    rw [mo_restore_l105]
    repeat' (first | with_reducible assumption | with_reducible refine km_ite ?_ ?_ | with_reducible refine km_pI ?_ | with_reducible refine km_pL ?_ | with_reducible refine km_pA (by decide) ?_ | with_reducible refine ih _ _ ?_)
theorem kml_mo_restore_l131 {s : tt_St}  : ∀ (n : Nat) (j : Nat) (st : tt_St), km s st → km s (mo_restore_l131  n j st) := by
  intro n
  induction n with
  | zero => intro j st h; rw [mo_restore_l131]; exact h
  | succ n ih =>
    intro j st h
    rw [mo_restore_l131]
    repeat' (first | with_reducible assumption | with_reducible refine km_ite ?_ ?_ | with_reducible refine km_pI ?_ | with_reducible refine km_pL ?_ | with_reducible refine km_pA (by decide) ?_ | with_reducible refine ih _ _ ?_)
theorem km_mo_restore {s st : tt_St}  (h : km s st) : km s (mo_restore st).2 := by
  unfold mo_restore
  repeat' (first | with_reducible assumption | with_reducible refine km_ite ?_ ?_ | with_reducible refine km_pI ?_ | with_reducible refine km_pL ?_ | with_reducible refine km_pA (by decide) ?_ | with_reducible refine kml_mo_restore_l32 _ _ _ ?_ | with_reducible refine kml_mo_restore_l105 _ _ _ ?_ | with_reducible refine kml_mo_restore_l131 _ _ _ ?_)
theorem km_mo_mix {s st : tt_St} {a1 : Int64} (h : km s st) : km s (mo_mix st a1) := by
  unfold mo_mix
  repeat' (first | with_reducible assumption | with_reducible refine km_ite ?_ ?_ | with_reducible refine km_pI ?_ | with_reducible refine km_pL ?_ | with_reducible refine km_pA (by decide) ?_)
theorem kml_mo_readWave_l25 {s : tt_St} {a1 : Int32} {x2 : Int32} : ∀ (n : Nat) (j : Nat) (x3 : Int32) (st : tt_St), km s st → km s (mo_readWave_l25 a1 x2 n j x3 st).2 := by
  intro n
  induction n with
  | zero => intro j x3 st h; rw [mo_readWave_l25]; exact h
  | succ n ih =>
    intro j x3 st h
    rw [mo_readWave_l25]
    repeat' (first | with_reducible assumption | with_reducible refine km_ite ?_ ?_ | with_reducible refine km_pI ?_ | with_reducible refine km_pL ?_ | with_reducible refine km_pA (by decide) ?_ | with_reducible refine km_mo_readNumber ?_ | with_reducible refine ih _ _ _ ?_)
theorem km_mo_readWave {s st : tt_St} {a1 : Int32} (h : km s st) : km s (mo_readWave st a1).2 := by
  unfold mo_readWave
  repeat' (first | with_reducible assumption | with_reducible refine km_ite ?_ ?_ | with_reducible refine km_pI ?_ | with_reducible refine km_pL ?_ | with_reducible refine km_pA (by decide) ?_ | with_reducible refine kml_mo_readWave_l25 _ _ _ _ ?_)
theorem kml_mo_readPort_l153 {s : tt_St} {a1 : Int32} {x2 : Int32} : ∀ (n : Nat) (x3 : Int32) (st : tt_St), km s st → km s (mo_readPort_l153 a1 x2 n x3 st).2 := by
  intro n
  induction n with
  | zero => intro x3 st h; rw [mo_readPort_l153]; exact h
  | succ n ih =>
    intro x3 st h
    rw [mo_readPort_l153]
    repeat' (first | with_reducible assumption | with_reducible refine km_ite ?_ ?_ | with_reducible refine km_pI ?_ | with_reducible refine km_pL ?_ | with_reducible refine km_pA (by decide) ?_ | with_reducible refine km_mo_readWave ?_ | with_reducible refine ih _ _ ?_)
theorem km_mo_readPort_k139 {s st : tt_St} {a1 : Int32} {x2 : Int32} {y0 : Int32} (h : km s st) : km s (mo_readPort_k139 a1 x2 y0 st).2 := by
  unfold mo_readPort_k139
  repeat' (first | with_reducible assumption | with_reducible refine km_ite ?_ ?_ | with_reducible refine km_pI ?_ | with_reducible refine km_pL ?_ | with_reducible refine km_pA (by decide) ?_ | with_reducible refine kml_mo_readPort_l153 _ _ _ ?_)
theorem km_mo_readPort_k105 {s st : tt_St} {a1 : Int32} {x2 : Int32} {y0 : Int32} (h : km s st) : km s (mo_readPort_k105 a1 x2 y0 st).2 := by
  unfold mo_readPort_k105
  repeat' (first | with_reducible assumption | with_reducible refine km_ite ?_ ?_ | with_reducible refine km_pI ?_ | with_reducible refine km_pL ?_ | with_reducible refine km_pA (by decide) ?_ | with_reducible refine km_mo_readNumber ?_ | with_reducible refine kml_mo_readPort_l153 _ _ _ ?_ | with_reducible refine km_mo_readPort_k139 ?_)
theorem km_mo_readPort_k76 {s st : tt_St} {a1 : Int32} {x2 : Int32} {y0 : Int32} (h : km s st) : km s (mo_readPort_k76 a1 x2 y0 st).2 := by
  unfold mo_readPort_k76
  repeat' (first | with_reducible assumption | with_reducible refine km_ite ?_ ?_ | with_reducible refine km_pI ?_ | with_reducible refine km_pL ?_ | with_reducible refine km_pA (by decide) ?_ | with_reducible refine km_mo_readNumber ?_ | with_reducible refine kml_mo_readPort_l153 _ _ _ ?_ | with_reducible refine km_mo_readPort_k139 ?_ | with_reducible refine km_mo_readPort_k105 ?_)
theorem km_mo_readPort {s st : tt_St} {a1 : Int32} (h : km s st) : km s (mo_readPort st a1).2 := by
  unfold mo_readPort
  repeat' (first | with_reducible assumption | with_reducible refine km_ite ?_ ?_ | with_reducible refine km_pI ?_ | with_reducible refine km_pL ?_ | with_reducible refine km_pA (by decide) ?_ | with_reducible refine km_mo_readNumber ?_ | with_reducible refine km_mo_readPort_k76 ?_)
theorem kml_mo_read_l21 {s : tt_St}  : ∀ (n : Nat) (x1 : Int32) (st : tt_St), km s st → km s (mo_read_l21  n x1 st).2 := by
  intro n
  induction n with
  | zero => intro x1 st h; rw [mo_read_l21]; exact h
  | succ n ih =>
    intro x1 st h
    rw [mo_read_l21]
    repeat' (first | with_reducible assumption | with_reducible refine km_ite ?_ ?_ | with_reducible refine km_pI ?_ | with_reducible refine km_pL ?_ | with_reducible refine km_pA (by decide) ?_ | with_reducible refine km_mo_readPort ?_ | with_reducible refine ih _ _ ?_)
theorem km_mo_read {s st : tt_St}  (h : km s st) : km s (mo_read st).2 := by
  unfold mo_read
  repeat' (first | with_reducible assumption | with_reducible refine km_ite ?_ ?_ | with_reducible refine km_pI ?_ | with_reducible refine km_pL ?_ | with_reducible refine km_pA (by decide) ?_ | with_reducible refine km_mo_readPort ?_ | with_reducible refine kml_mo_read_l21 _ _ _ ?_)
theorem km_mo_fault {s st : tt_St}  (h : km s st) : km s (mo_fault st).2 := by
  unfold mo_fault
  repeat' (first | with_reducible assumption | with_reducible refine km_ite ?_ ?_ | with_reducible refine km_pI ?_ | with_reducible refine km_pL ?_ | with_reducible refine km_pA (by decide) ?_ | with_reducible refine km_mo_read ?_)
theorem kml_mo_ports_l26 {s : tt_St} {m : Nat} : ∀ (n : Nat) (j : Nat) (st : tt_St), km s st → km s (mo_ports_l26 m n j st) := by
  intro n
  induction n with
  | zero => intro j st h; rw [mo_ports_l26]; exact h
  | succ n ih =>
    intro j st h
    rw [mo_ports_l26]
    repeat' (first | with_reducible assumption | with_reducible refine km_ite ?_ ?_ | with_reducible refine km_pI ?_ | with_reducible refine km_pL ?_ | with_reducible refine km_pA (by decide) ?_ | with_reducible refine ih _ _ ?_)
theorem kml_mo_ports_l102 {s : tt_St}  : ∀ (n : Nat) (j : Nat) (st : tt_St), km s st → km s (mo_ports_l102  n j st) := by
  intro n
  induction n with
  | zero => intro j st h; rw [mo_ports_l102]; exact h
  | succ n ih =>
    intro j st h
    rw [mo_ports_l102]
    repeat' (first | with_reducible assumption | with_reducible refine km_ite ?_ ?_ | with_reducible refine km_pI ?_ | with_reducible refine km_pL ?_ | with_reducible refine km_pA (by decide) ?_ | with_reducible refine ih _ _ ?_)
theorem km_mo_ports_k4 {s st : tt_St} {y0 : Int32} (h : km s st) : km s (mo_ports_k4 y0 st).2 := by
  unfold mo_ports_k4
  repeat' (first | with_reducible assumption | with_reducible refine km_ite ?_ ?_ | with_reducible refine km_pI ?_ | with_reducible refine km_pL ?_ | with_reducible refine km_pA (by decide) ?_ | with_reducible refine kml_mo_ports_l26 _ _ _ ?_ | with_reducible refine kml_mo_ports_l102 _ _ _ ?_)
theorem km_mo_ports {s st : tt_St}  (h : km s st) : km s (mo_ports st).2 := by
  unfold mo_ports
  repeat' (first | with_reducible assumption | with_reducible refine km_ite ?_ ?_ | with_reducible refine km_pI ?_ | with_reducible refine km_pL ?_ | with_reducible refine km_pA (by decide) ?_ | with_reducible refine km_mo_read ?_ | with_reducible refine km_mo_ports_k4 ?_)
theorem km_mo_draw {s st : tt_St} {a1 : Int32} (h : km s st) : km s (mo_draw st a1).2 := by
  unfold mo_draw
  repeat' (first | with_reducible assumption | with_reducible refine km_ite ?_ ?_ | with_reducible refine km_pI ?_ | with_reducible refine km_pL ?_ | with_reducible refine km_pA (by decide) ?_)
theorem kml_mo_drawnNow_l15 {s : tt_St} {a1 : Int32} {a2 : Int32} {a3 : Int32} : ∀ (n : Nat) (j : Nat) (x4 : Int32) (x5 : Int32) (st : tt_St), km s st → km s (mo_drawnNow_l15 a1 a2 a3 n j x4 x5 st).2.2 := by
  intro n
  induction n with
  | zero => intro j x4 x5 st h; rw [mo_drawnNow_l15]; exact h
  | succ n ih =>
    intro j x4 x5 st h
    rw [mo_drawnNow_l15]
    repeat' (first | with_reducible assumption | with_reducible refine km_ite ?_ ?_ | with_reducible refine km_pI ?_ | with_reducible refine km_pL ?_ | with_reducible refine km_pA (by decide) ?_ | with_reducible refine km_mo_draw ?_ | with_reducible refine ih _ _ _ _ ?_)
theorem km_mo_drawnNow {s st : tt_St} {a1 : Int32} {a2 : Int32} {a3 : Int32} (h : km s st) : km s (mo_drawnNow st a1 a2 a3).2 := by
  unfold mo_drawnNow
  repeat' (first | with_reducible assumption | with_reducible refine km_ite ?_ ?_ | with_reducible refine km_pI ?_ | with_reducible refine km_pL ?_ | with_reducible refine km_pA (by decide) ?_ | with_reducible refine kml_mo_drawnNow_l15 _ _ _ _ _ ?_)
theorem km_mo_drawn {s st : tt_St} {a1 : Int32} {a2 : Int32} {a3 : Int32} (h : km s st) : km s (mo_drawn st a1 a2 a3).2 := by
  unfold mo_drawn
  repeat' (first | with_reducible assumption | with_reducible refine km_ite ?_ ?_ | with_reducible refine km_pI ?_ | with_reducible refine km_pL ?_ | with_reducible refine km_pA (by decide) ?_ | with_reducible refine km_mo_drawnNow ?_)
theorem kml_mo_digest_l19 {s : tt_St} {x1 : Int32} : ∀ (n : Nat) (j : Nat) (st : tt_St), km s st → km s (mo_digest_l19 x1 n j st) := by
  intro n
  induction n with
  | zero => intro j st h; rw [mo_digest_l19]; exact h
  | succ n ih =>
    intro j st h
    rw [mo_digest_l19]
    repeat' (first | with_reducible assumption | with_reducible refine km_ite ?_ ?_ | with_reducible refine km_pI ?_ | with_reducible refine km_pL ?_ | with_reducible refine km_pA (by decide) ?_ | with_reducible refine km_mo_mix ?_ | with_reducible refine ih _ _ ?_)
theorem kml_mo_digest_l44 {s : tt_St} {x1 : Int32} {w : Nat} : ∀ (n : Nat) (j : Nat) (st : tt_St), km s st → km s (mo_digest_l44 x1 w n j st) := by
  intro n
  induction n with
  | zero => intro j st h; rw [mo_digest_l44]; exact h
  | succ n ih =>
    intro j st h
    rw [mo_digest_l44]
    repeat' (first | with_reducible assumption | with_reducible refine km_ite ?_ ?_ | with_reducible refine km_pI ?_ | with_reducible refine km_pL ?_ | with_reducible refine km_pA (by decide) ?_ | with_reducible refine km_mo_mix ?_ | with_reducible refine ih _ _ ?_)
theorem kml_mo_digest_l80 {s : tt_St} {x1 : Int32} : ∀ (n : Nat) (j : Nat) (st : tt_St), km s st → km s (mo_digest_l80 x1 n j st) := by
  intro n
  induction n with
  | zero => intro j st h; rw [mo_digest_l80]; exact h
  | succ n ih =>
    intro j st h
    rw [mo_digest_l80]
    repeat' (first | with_reducible assumption | with_reducible refine km_ite ?_ ?_ | with_reducible refine km_pI ?_ | with_reducible refine km_pL ?_ | with_reducible refine km_pA (by decide) ?_ | with_reducible refine km_mo_mix ?_ | with_reducible refine ih _ _ ?_)
theorem kml_mo_digest_l9 {s : tt_St} {m : Nat} : ∀ (n : Nat) (j : Nat) (st : tt_St), km s st → km s (mo_digest_l9 m n j st) := by
  intro n
  induction n with
  | zero => intro j st h; rw [mo_digest_l9]; exact h
  | succ n ih =>
    intro j st h
    rw [mo_digest_l9]
    repeat' (first | with_reducible assumption | with_reducible refine km_ite ?_ ?_ | with_reducible refine km_pI ?_ | with_reducible refine km_pL ?_ | with_reducible refine km_pA (by decide) ?_ | with_reducible refine kml_mo_digest_l19 _ _ _ ?_ | with_reducible refine kml_mo_digest_l44 _ _ _ ?_ | with_reducible refine kml_mo_digest_l80 _ _ _ ?_ | with_reducible refine ih _ _ ?_)
theorem kml_mo_digest_l128 {s : tt_St} {m : Nat} : ∀ (n : Nat) (j : Nat) (st : tt_St), km s st → km s (mo_digest_l128 m n j st) := by
  intro n
  induction n with
  | zero => intro j st h; rw [mo_digest_l128]; exact h
  | succ n ih =>
    intro j st h
    rw [mo_digest_l128]
    repeat' (first | with_reducible assumption | with_reducible refine km_ite ?_ ?_ | with_reducible refine km_pI ?_ | with_reducible refine km_pL ?_ | with_reducible refine km_pA (by decide) ?_ | with_reducible refine km_mo_mix ?_ | with_reducible refine ih _ _ ?_)
theorem kml_mo_digest_l155 {s : tt_St}  : ∀ (n : Nat) (j : Nat) (st : tt_St), km s st → km s (mo_digest_l155  n j st) := by
  intro n
  induction n with
  | zero => intro j st h; rw [mo_digest_l155]; exact h
  | succ n ih =>
    intro j st h
    rw [mo_digest_l155]
    repeat' (first | with_reducible assumption | with_reducible refine km_ite ?_ ?_ | with_reducible refine km_pI ?_ | with_reducible refine km_pL ?_ | with_reducible refine km_pA (by decide) ?_ | with_reducible refine km_mo_mix ?_ | with_reducible refine ih _ _ ?_)
theorem km_mo_digest {s st : tt_St}  (h : km s st) : km s (mo_digest st).2 := by
  unfold mo_digest
  repeat' (first | with_reducible assumption | with_reducible refine km_ite ?_ ?_ | with_reducible refine km_pI ?_ | with_reducible refine km_pL ?_ | with_reducible refine km_pA (by decide) ?_ | with_reducible refine kml_mo_digest_l9 _ _ _ ?_ | with_reducible refine kml_mo_digest_l128 _ _ _ ?_ | with_reducible refine kml_mo_digest_l155 _ _ _ ?_)

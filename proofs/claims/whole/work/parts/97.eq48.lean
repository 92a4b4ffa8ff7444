/-! the first world -/
def zad (q0 : Nat) (u : Nat → Nat) (q1 : Nat) (v : Nat → Nat) : Nat → Nat := zl [q0, u 1, u 2, u 3, u 4, u 5, u 6, u 7, u 8, u 9, u 10, u 11, u 12, u 13, u 14, u 15, u 16, u 17, u 18, u 19, u 20, u 21, u 22, u 23, u 24, u 25, u 26, u 27, u 28, u 29, u 30, u 31, u 32, u 33, u 34, u 35, u 36, u 37, u 38, u 39, u 40, u 41, u 42, u 43, u 44, u 45, u 46, u 47, u 48, q1, v 0, v 1, v 2, v 3, v 4, v 5, v 6, v 7, v 8, v 9, v 10, v 11, v 12, v 13, v 14, v 15, v 16, v 17, v 18, v 19, v 20, v 21, v 22, v 23, v 24, v 25]
def zcA (t : zz_T) : Nat → ClassId := fun k => if k = 0 then t.1 else if k = 1 then t.2.1 else if k = 2 then t.2.2.1 else t.2.2.2
def zG (Γ : va_G) (t : zz_T) (sa : Nat → Nat) (q0 : Nat) (u : Nat → Nat) (q1 : Nat) (v : Nat → Nat) : tt_G := (Γ, zad q0 u q1 v, zcA t, sa)
def zst : tt_St := (fun o f => if f = 4 ∧ 9 ≤ o ∧ o < 17 then 31 else 0, fun _ _ => 0, fun a j => if a = 56 then tb_roundAt (nI j) else 0)
theorem zst_A {a : Nat} (h : ¬ a = 56) (j : Nat) : tt_A zst a j = 0 := by
  show (if a = 56 then tb_roundAt (nI j) else 0) = (0 : Int32)
  rw [if_neg h]
theorem zst_A56 (j : Nat) : tt_A zst 56 j = tb_roundAt (nI j) := by
  show (if 56 = 56 then tb_roundAt (nI j) else 0) = tb_roundAt (nI j)
  rw [if_pos rfl]
def zlike (e e' : va_E) : Prop := e = e' ∨ (∃ (c : ClassId) (n : Nat) (f g : Nat → Option Nat), e = .inl (c, n, .inr (.inr (.inr (.inr f)))) ∧ e' = .inl (c, n, .inr (.inr (.inr (.inr g)))) ∧ ∀ j, j < n → f j = g j) ∨ ∃ (c : ClassId) (n : Nat) (f g : Nat → Int32), e = .inl (c, n, .inl f) ∧ e' = .inl (c, n, .inl g) ∧ ∀ j, j < n → f j = g j
theorem zlike.at {D : va_G} {cl : List vw_C} {a : Nat} {e e' : va_E} {H : Heap} (h : zlike e e') (hv : va_at D cl (a, e) H) : va_at D cl (a, e') H := by
  rcases h with rfl | ⟨c, n, f, g, rfl, rfl, hfg⟩ | ⟨c, n, f, g, rfl, rfl, hfg⟩
  · exact hv
  · have ec : vp_cell c (n, .inr (.inr (.inr (.inr f)))) = vp_cell c (n, .inr (.inr (.inr (.inr g)))) := by
      rw [vp_cell_q, vp_cell_q]
      unfold arrV
      congr 1
      congr 1
      funext j
      show va_rf (f j.1) = va_rf (g j.1)
      rw [hfg j.1 j.2]
    show H[a]? = some (vp_cell c (n, .inr (.inr (.inr (.inr g)))))
    rw [← ec]
    exact hv
  · have ec : vp_cell c (n, .inl f) = vp_cell c (n, .inl g) := by
      rw [vp_cell_i, vp_cell_i]
      unfold arrV
      congr 1
      congr 1
      funext j
      show Value.int (f j.1) = Value.int (g j.1)
      rw [hfg j.1 j.2]
    show H[a]? = some (vp_cell c (n, .inl g))
    rw [← ec]
    exact hv
section ZW
variable {Γ : va_G} {t : zz_T} {sa : Nat → Nat} {q0 : Nat} {u : Nat → Nat} {q1 : Nat} {v : Nat → Nat}
def zW (Γ : va_G) (t : zz_T) (sa : Nat → Nat) (q0 : Nat) (u : Nat → Nat) (q1 : Nat) (v : Nat → Nat) (p k : Nat) : Prop := ∃ e : va_E, (zw_Tt t q0 u ++ zw_Mo t q1 v)[p]? = some (zad q0 u q1 v k, e) ∧ zlike e (tt_E (zG Γ t sa q0 u q1 v) zst k)
theorem zw_0 : zW Γ t sa q0 u q1 v 0 0 := ⟨_, rfl, Or.inl rfl⟩
theorem zw_1 : zW Γ t sa q0 u q1 v 1 1 := ⟨_, rfl, Or.inl rfl⟩
theorem zw_2 : zW Γ t sa q0 u q1 v 2 2 := ⟨_, rfl, Or.inr (Or.inr ⟨_, _, _, _, rfl, rfl, fun j _ => (zst_A (by decide) j).symm⟩)⟩
theorem zw_3 : zW Γ t sa q0 u q1 v 3 3 := ⟨_, rfl, Or.inl rfl⟩
theorem zw_4 : zW Γ t sa q0 u q1 v 25 4 := ⟨_, rfl, Or.inl rfl⟩
theorem zw_5 : zW Γ t sa q0 u q1 v 4 5 := ⟨_, rfl, Or.inr (Or.inl ⟨_, _, _, _, rfl, rfl, fun j hj => by
    match j, hj with
    | 0, _ => exact rfl
    | 1, _ => exact rfl
    | 2, _ => exact rfl
    | 3, _ => exact rfl
    | x + 4, h => exact absurd h (by omega)⟩)⟩
theorem zw_6 : zW Γ t sa q0 u q1 v 26 6 := ⟨_, rfl, Or.inr (Or.inl ⟨_, _, _, _, rfl, rfl, fun j hj => by
    match j, hj with
    | 0, _ => exact rfl
    | 1, _ => exact rfl
    | 2, _ => exact rfl
    | 3, _ => exact rfl
    | x + 4, h => exact absurd h (by omega)⟩)⟩
theorem zw_7 : zW Γ t sa q0 u q1 v 47 7 := ⟨_, rfl, Or.inr (Or.inr ⟨_, _, _, _, rfl, rfl, fun j _ => (zst_A (by decide) j).symm⟩)⟩
theorem zw_8 : zW Γ t sa q0 u q1 v 48 8 := ⟨_, rfl, Or.inr (Or.inr ⟨_, _, _, _, rfl, rfl, fun j _ => (zst_A (by decide) j).symm⟩)⟩
theorem zw_9 : zW Γ t sa q0 u q1 v 5 9 := ⟨_, rfl, Or.inl rfl⟩
theorem zw_10 : zW Γ t sa q0 u q1 v 10 10 := ⟨_, rfl, Or.inl rfl⟩
theorem zw_11 : zW Γ t sa q0 u q1 v 15 11 := ⟨_, rfl, Or.inl rfl⟩
theorem zw_12 : zW Γ t sa q0 u q1 v 20 12 := ⟨_, rfl, Or.inl rfl⟩
theorem zw_13 : zW Γ t sa q0 u q1 v 27 13 := ⟨_, rfl, Or.inl rfl⟩
theorem zw_14 : zW Γ t sa q0 u q1 v 32 14 := ⟨_, rfl, Or.inl rfl⟩
theorem zw_15 : zW Γ t sa q0 u q1 v 37 15 := ⟨_, rfl, Or.inl rfl⟩
theorem zw_16 : zW Γ t sa q0 u q1 v 42 16 := ⟨_, rfl, Or.inl rfl⟩
theorem zw_17 : zW Γ t sa q0 u q1 v 6 17 := ⟨_, rfl, Or.inr (Or.inl ⟨_, _, _, _, rfl, rfl, fun j hj => by
    match j, hj with
    | 0, _ => exact rfl
    | 1, _ => exact rfl
    | 2, _ => exact rfl
    | x + 3, h => exact absurd h (by omega)⟩)⟩
theorem zw_18 : zW Γ t sa q0 u q1 v 11 18 := ⟨_, rfl, Or.inr (Or.inl ⟨_, _, _, _, rfl, rfl, fun j hj => by
    match j, hj with
    | 0, _ => exact rfl
    | 1, _ => exact rfl
    | 2, _ => exact rfl
    | x + 3, h => exact absurd h (by omega)⟩)⟩
theorem zw_19 : zW Γ t sa q0 u q1 v 16 19 := ⟨_, rfl, Or.inr (Or.inl ⟨_, _, _, _, rfl, rfl, fun j hj => by
    match j, hj with
    | 0, _ => exact rfl
    | 1, _ => exact rfl
    | 2, _ => exact rfl
    | x + 3, h => exact absurd h (by omega)⟩)⟩
theorem zw_20 : zW Γ t sa q0 u q1 v 21 20 := ⟨_, rfl, Or.inr (Or.inl ⟨_, _, _, _, rfl, rfl, fun j hj => by
    match j, hj with
    | 0, _ => exact rfl
    | 1, _ => exact rfl
    | 2, _ => exact rfl
    | x + 3, h => exact absurd h (by omega)⟩)⟩
theorem zw_21 : zW Γ t sa q0 u q1 v 28 21 := ⟨_, rfl, Or.inr (Or.inl ⟨_, _, _, _, rfl, rfl, fun j hj => by
    match j, hj with
    | 0, _ => exact rfl
    | 1, _ => exact rfl
    | 2, _ => exact rfl
    | x + 3, h => exact absurd h (by omega)⟩)⟩
theorem zw_22 : zW Γ t sa q0 u q1 v 33 22 := ⟨_, rfl, Or.inr (Or.inl ⟨_, _, _, _, rfl, rfl, fun j hj => by
    match j, hj with
    | 0, _ => exact rfl
    | 1, _ => exact rfl
    | 2, _ => exact rfl
    | x + 3, h => exact absurd h (by omega)⟩)⟩
theorem zw_23 : zW Γ t sa q0 u q1 v 38 23 := ⟨_, rfl, Or.inr (Or.inl ⟨_, _, _, _, rfl, rfl, fun j hj => by
    match j, hj with
    | 0, _ => exact rfl
    | 1, _ => exact rfl
    | 2, _ => exact rfl
    | x + 3, h => exact absurd h (by omega)⟩)⟩
theorem zw_24 : zW Γ t sa q0 u q1 v 43 24 := ⟨_, rfl, Or.inr (Or.inl ⟨_, _, _, _, rfl, rfl, fun j hj => by
    match j, hj with
    | 0, _ => exact rfl
    | 1, _ => exact rfl
    | 2, _ => exact rfl
    | x + 3, h => exact absurd h (by omega)⟩)⟩
theorem zw_25 : zW Γ t sa q0 u q1 v 7 25 := ⟨_, rfl, Or.inl rfl⟩
theorem zw_26 : zW Γ t sa q0 u q1 v 8 26 := ⟨_, rfl, Or.inl rfl⟩
theorem zw_27 : zW Γ t sa q0 u q1 v 9 27 := ⟨_, rfl, Or.inl rfl⟩
theorem zw_28 : zW Γ t sa q0 u q1 v 12 28 := ⟨_, rfl, Or.inl rfl⟩
theorem zw_29 : zW Γ t sa q0 u q1 v 13 29 := ⟨_, rfl, Or.inl rfl⟩
theorem zw_30 : zW Γ t sa q0 u q1 v 14 30 := ⟨_, rfl, Or.inl rfl⟩
theorem zw_31 : zW Γ t sa q0 u q1 v 17 31 := ⟨_, rfl, Or.inl rfl⟩
theorem zw_32 : zW Γ t sa q0 u q1 v 18 32 := ⟨_, rfl, Or.inl rfl⟩
theorem zw_33 : zW Γ t sa q0 u q1 v 19 33 := ⟨_, rfl, Or.inl rfl⟩
theorem zw_34 : zW Γ t sa q0 u q1 v 22 34 := ⟨_, rfl, Or.inl rfl⟩
theorem zw_35 : zW Γ t sa q0 u q1 v 23 35 := ⟨_, rfl, Or.inl rfl⟩
theorem zw_36 : zW Γ t sa q0 u q1 v 24 36 := ⟨_, rfl, Or.inl rfl⟩
theorem zw_37 : zW Γ t sa q0 u q1 v 29 37 := ⟨_, rfl, Or.inl rfl⟩
theorem zw_38 : zW Γ t sa q0 u q1 v 30 38 := ⟨_, rfl, Or.inl rfl⟩
theorem zw_39 : zW Γ t sa q0 u q1 v 31 39 := ⟨_, rfl, Or.inl rfl⟩
theorem zw_40 : zW Γ t sa q0 u q1 v 34 40 := ⟨_, rfl, Or.inl rfl⟩
theorem zw_41 : zW Γ t sa q0 u q1 v 35 41 := ⟨_, rfl, Or.inl rfl⟩
theorem zw_42 : zW Γ t sa q0 u q1 v 36 42 := ⟨_, rfl, Or.inl rfl⟩
theorem zw_43 : zW Γ t sa q0 u q1 v 39 43 := ⟨_, rfl, Or.inl rfl⟩
theorem zw_44 : zW Γ t sa q0 u q1 v 40 44 := ⟨_, rfl, Or.inl rfl⟩
theorem zw_45 : zW Γ t sa q0 u q1 v 41 45 := ⟨_, rfl, Or.inl rfl⟩
theorem zw_46 : zW Γ t sa q0 u q1 v 44 46 := ⟨_, rfl, Or.inl rfl⟩
theorem zw_47 : zW Γ t sa q0 u q1 v 45 47 := ⟨_, rfl, Or.inl rfl⟩
theorem zw_48 : zW Γ t sa q0 u q1 v 46 48 := ⟨_, rfl, Or.inl rfl⟩
theorem zw_49 : zW Γ t sa q0 u q1 v 49 49 := ⟨_, rfl, Or.inl rfl⟩
theorem zw_50 : zW Γ t sa q0 u q1 v 50 50 := ⟨_, rfl, Or.inr (Or.inr ⟨_, _, _, _, rfl, rfl, fun j _ => (zst_A (by decide) j).symm⟩)⟩
theorem zw_51 : zW Γ t sa q0 u q1 v 51 51 := ⟨_, rfl, Or.inr (Or.inr ⟨_, _, _, _, rfl, rfl, fun j _ => (zst_A (by decide) j).symm⟩)⟩
theorem zw_52 : zW Γ t sa q0 u q1 v 52 52 := ⟨_, rfl, Or.inr (Or.inr ⟨_, _, _, _, rfl, rfl, fun j _ => (zst_A (by decide) j).symm⟩)⟩
theorem zw_53 : zW Γ t sa q0 u q1 v 53 53 := ⟨_, rfl, Or.inr (Or.inr ⟨_, _, _, _, rfl, rfl, fun j _ => (zst_A (by decide) j).symm⟩)⟩
theorem zw_54 : zW Γ t sa q0 u q1 v 54 54 := ⟨_, rfl, Or.inr (Or.inr ⟨_, _, _, _, rfl, rfl, fun j _ => (zst_A (by decide) j).symm⟩)⟩
theorem zw_55 : zW Γ t sa q0 u q1 v 55 55 := ⟨_, rfl, Or.inr (Or.inr ⟨_, _, _, _, rfl, rfl, fun j _ => (zst_A (by decide) j).symm⟩)⟩
theorem zw_56 : zW Γ t sa q0 u q1 v 56 56 := ⟨_, rfl, Or.inr (Or.inr ⟨_, _, _, _, rfl, rfl, fun j _ => (zst_A56 j).symm⟩)⟩
theorem zw_57 : zW Γ t sa q0 u q1 v 57 57 := ⟨_, rfl, Or.inr (Or.inr ⟨_, _, _, _, rfl, rfl, fun j _ => (zst_A (by decide) j).symm⟩)⟩
theorem zw_58 : zW Γ t sa q0 u q1 v 58 58 := ⟨_, rfl, Or.inr (Or.inr ⟨_, _, _, _, rfl, rfl, fun j _ => (zst_A (by decide) j).symm⟩)⟩
theorem zw_59 : zW Γ t sa q0 u q1 v 59 59 := ⟨_, rfl, Or.inr (Or.inr ⟨_, _, _, _, rfl, rfl, fun j _ => (zst_A (by decide) j).symm⟩)⟩
theorem zw_60 : zW Γ t sa q0 u q1 v 60 60 := ⟨_, rfl, Or.inr (Or.inr ⟨_, _, _, _, rfl, rfl, fun j _ => (zst_A (by decide) j).symm⟩)⟩
theorem zw_61 : zW Γ t sa q0 u q1 v 61 61 := ⟨_, rfl, Or.inr (Or.inr ⟨_, _, _, _, rfl, rfl, fun j _ => (zst_A (by decide) j).symm⟩)⟩
theorem zw_62 : zW Γ t sa q0 u q1 v 62 62 := ⟨_, rfl, Or.inr (Or.inr ⟨_, _, _, _, rfl, rfl, fun j _ => (zst_A (by decide) j).symm⟩)⟩
theorem zw_63 : zW Γ t sa q0 u q1 v 63 63 := ⟨_, rfl, Or.inr (Or.inr ⟨_, _, _, _, rfl, rfl, fun j _ => (zst_A (by decide) j).symm⟩)⟩
theorem zw_64 : zW Γ t sa q0 u q1 v 64 64 := ⟨_, rfl, Or.inr (Or.inr ⟨_, _, _, _, rfl, rfl, fun j _ => (zst_A (by decide) j).symm⟩)⟩
theorem zw_65 : zW Γ t sa q0 u q1 v 65 65 := ⟨_, rfl, Or.inr (Or.inr ⟨_, _, _, _, rfl, rfl, fun j _ => (zst_A (by decide) j).symm⟩)⟩
theorem zw_66 : zW Γ t sa q0 u q1 v 66 66 := ⟨_, rfl, Or.inr (Or.inr ⟨_, _, _, _, rfl, rfl, fun j _ => (zst_A (by decide) j).symm⟩)⟩
theorem zw_67 : zW Γ t sa q0 u q1 v 67 67 := ⟨_, rfl, Or.inr (Or.inr ⟨_, _, _, _, rfl, rfl, fun j _ => (zst_A (by decide) j).symm⟩)⟩
theorem zw_68 : zW Γ t sa q0 u q1 v 68 68 := ⟨_, rfl, Or.inr (Or.inr ⟨_, _, _, _, rfl, rfl, fun j _ => (zst_A (by decide) j).symm⟩)⟩
theorem zw_69 : zW Γ t sa q0 u q1 v 69 69 := ⟨_, rfl, Or.inr (Or.inr ⟨_, _, _, _, rfl, rfl, fun j _ => (zst_A (by decide) j).symm⟩)⟩
theorem zw_70 : zW Γ t sa q0 u q1 v 70 70 := ⟨_, rfl, Or.inr (Or.inr ⟨_, _, _, _, rfl, rfl, fun j _ => (zst_A (by decide) j).symm⟩)⟩
theorem zw_71 : zW Γ t sa q0 u q1 v 71 71 := ⟨_, rfl, Or.inr (Or.inr ⟨_, _, _, _, rfl, rfl, fun j _ => (zst_A (by decide) j).symm⟩)⟩
theorem zw_72 : zW Γ t sa q0 u q1 v 72 72 := ⟨_, rfl, Or.inr (Or.inr ⟨_, _, _, _, rfl, rfl, fun j _ => (zst_A (by decide) j).symm⟩)⟩
theorem zw_73 : zW Γ t sa q0 u q1 v 73 73 := ⟨_, rfl, Or.inr (Or.inr ⟨_, _, _, _, rfl, rfl, fun j _ => (zst_A (by decide) j).symm⟩)⟩
theorem zw_74 : zW Γ t sa q0 u q1 v 74 74 := ⟨_, rfl, Or.inr (Or.inr ⟨_, _, _, _, rfl, rfl, fun j _ => (zst_A (by decide) j).symm⟩)⟩
theorem zw_75 : zW Γ t sa q0 u q1 v 75 75 := ⟨_, rfl, Or.inr (Or.inr ⟨_, _, _, _, rfl, rfl, fun j _ => (zst_A (by decide) j).symm⟩)⟩
def zpi (k : Nat) : Nat := ([0, 1, 2, 3, 25, 4, 26, 47, 48, 5, 10, 15, 20, 27, 32, 37, 42, 6, 11, 16, 21, 28, 33, 38, 43, 7, 8, 9, 12, 13, 14, 17, 18, 19, 22, 23, 24, 29, 30, 31, 34, 35, 36, 39, 40, 41, 44, 45, 46, 49, 50, 51, 52, 53, 54, 55, 56, 57, 58, 59, 60, 61, 62, 63, 64, 65, 66, 67, 68, 69, 70, 71, 72, 73, 74, 75] : List Nat).getD k 0
theorem zpi_inj : ∀ i : Fin 76, ∀ j : Fin 76, zpi i.1 = zpi j.1 → i = j := by decide +kernel
theorem zw_all : ∀ k, k < 76 → zW Γ t sa q0 u q1 v (zpi k) k := by
  intro k hk
  match k, hk with
  | 0, _ => exact zw_0
  | 1, _ => exact zw_1
  | 2, _ => exact zw_2
  | 3, _ => exact zw_3
  | 4, _ => exact zw_4
  | 5, _ => exact zw_5
  | 6, _ => exact zw_6
  | 7, _ => exact zw_7
  | 8, _ => exact zw_8
  | 9, _ => exact zw_9
  | 10, _ => exact zw_10
  | 11, _ => exact zw_11
  | 12, _ => exact zw_12
  | 13, _ => exact zw_13
  | 14, _ => exact zw_14
  | 15, _ => exact zw_15
  | 16, _ => exact zw_16
  | 17, _ => exact zw_17
  | 18, _ => exact zw_18
  | 19, _ => exact zw_19
  | 20, _ => exact zw_20
  | 21, _ => exact zw_21
  | 22, _ => exact zw_22
  | 23, _ => exact zw_23
  | 24, _ => exact zw_24
  | 25, _ => exact zw_25
  | 26, _ => exact zw_26
  | 27, _ => exact zw_27
  | 28, _ => exact zw_28
  | 29, _ => exact zw_29
  | 30, _ => exact zw_30
  | 31, _ => exact zw_31
  | 32, _ => exact zw_32
  | 33, _ => exact zw_33
  | 34, _ => exact zw_34
  | 35, _ => exact zw_35
  | 36, _ => exact zw_36
  | 37, _ => exact zw_37
  | 38, _ => exact zw_38
  | 39, _ => exact zw_39
  | 40, _ => exact zw_40
  | 41, _ => exact zw_41
  | 42, _ => exact zw_42
  | 43, _ => exact zw_43
  | 44, _ => exact zw_44
  | 45, _ => exact zw_45
  | 46, _ => exact zw_46
  | 47, _ => exact zw_47
  | 48, _ => exact zw_48
  | 49, _ => exact zw_49
  | 50, _ => exact zw_50
  | 51, _ => exact zw_51
  | 52, _ => exact zw_52
  | 53, _ => exact zw_53
  | 54, _ => exact zw_54
  | 55, _ => exact zw_55
  | 56, _ => exact zw_56
  | 57, _ => exact zw_57
  | 58, _ => exact zw_58
  | 59, _ => exact zw_59
  | 60, _ => exact zw_60
  | 61, _ => exact zw_61
  | 62, _ => exact zw_62
  | 63, _ => exact zw_63
  | 64, _ => exact zw_64
  | 65, _ => exact zw_65
  | 66, _ => exact zw_66
  | 67, _ => exact zw_67
  | 68, _ => exact zw_68
  | 69, _ => exact zw_69
  | 70, _ => exact zw_70
  | 71, _ => exact zw_71
  | 72, _ => exact zw_72
  | 73, _ => exact zw_73
  | 74, _ => exact zw_74
  | 75, _ => exact zw_75
  | x + 76, h => exact absurd h (by omega)
theorem zw_P {H : Heap} (hP : va_P Γ tt_cl (zw_Tt t q0 u ++ zw_Mo t q1 v) H) : va_P (zG Γ t sa q0 u q1 v).1 tt_cl (tt_ws (zG Γ t sa q0 u q1 v) zst) H := by
  intro k q hq
  obtain ⟨h1, rfl⟩ := tt_ws_lt hq
  obtain ⟨e, h2, h3⟩ := zw_all (Γ := Γ) (t := t) (sa := sa) (q0 := q0) (u := u) (q1 := q1) (v := v) k h1
  exact h3.at (hP _ _ h2)
theorem zw_J {A : Nat → Prop} (hD : va_D A (zw_Tt t q0 u ++ zw_Mo t q1 v)) : tt_J (zG Γ t sa q0 u q1 v) ∧ ∀ q, tt_Ad (zG Γ t sa q0 u q1 v) q → A q := by
  refine ⟨fun i j hi hj h => ?_, fun q hq => ?_⟩
  · obtain ⟨e, h2, _⟩ := zw_all (Γ := Γ) (t := t) (sa := sa) (q0 := q0) (u := u) (q1 := q1) (v := v) i hi
    obtain ⟨e', h2', _⟩ := zw_all (Γ := Γ) (t := t) (sa := sa) (q0 := q0) (u := u) (q1 := q1) (v := v) j hj
    have := hD.1 _ _ _ _ h2 h2' h
    exact congrArg Fin.val (zpi_inj ⟨i, hi⟩ ⟨j, hj⟩ this)
  · obtain ⟨k, hk, rfl⟩ := hq
    obtain ⟨e, h2, _⟩ := zw_all (Γ := Γ) (t := t) (sa := sa) (q0 := q0) (u := u) (q1 := q1) (v := v) k hk
    exact hD.2 _ _ h2
end ZW
theorem zst_I {o f : Nat} (h : ¬ (f = 4 ∧ 9 ≤ o ∧ o < 17)) : tt_I zst o f = 0 := by
  show (if f = 4 ∧ 9 ≤ o ∧ o < 17 then (31 : Int32) else 0) = 0
  rw [if_neg h]
theorem zst_rl : rl 0 zst zst := by
  have e0 : (0 : Int32).toInt = 0 := rfl
  have c0 : Int32.toNatClampNeg 0 = 0 := rfl
  have z : ∀ o f, ¬ f = 4 → tt_I zst o f = 0 := fun o f h => zst_I (fun q => h q.1)
  have y : ∀ o f, 17 ≤ o → tt_I zst o f = 0 := fun o f h => zst_I (fun q => by omega)
  have x : ∀ o f, o < 9 → tt_I zst o f = 0 := fun o f h => zst_I (fun q => by omega)
  refine ⟨⟨fun o ho => ?_, fun o ho => ?_, ?_⟩, ⟨?_, ?_, ?_, fun p hp => ?_⟩, fun n hn => zst_A56 n, ⟨?_, fun j hj => ?_⟩, ⟨?_, fun p hp => ?_, fun hp => ?_⟩, ⟨?_, fun j hj => ?_, fun p hp => ?_⟩, ⟨?_, ?_⟩, ⟨?_, ?_, fun p hp => ?_, ?_, fun q => ?_⟩⟩
  · rw [z o 6 (by omega), e0]; omega
  · rw [z o 1 (by omega), e0]; omega
  · rw [z 1 1 (by omega), e0]; omega
  · rw [z 49 1 (by omega), e0]; omega
  · rw [z 49 9 (by omega), e0]; omega
  · rw [z 49 13 (by omega), e0]; omega
  · rw [zst_A (by omega) p, e0]; omega
  · rw [z 1 1 (by omega), z 49 13 (by omega)]
  · rw [z 1 1 (by omega), c0] at hj; omega
  · rw [z 3 1 (by omega), z 49 1 (by omega)]
  · rw [z 3 1 (by omega), c0] at hp; omega
  · rw [z 3 1 (by omega), c0] at hp; omega
  · rw [z 3 2 (by omega), z 49 9 (by omega)]
  · rw [z 49 9 (by omega), c0] at hj; omega
  · rw [z 3 1 (by omega), c0] at hp; omega
  · rw [x 0 4 (by omega), z 49 0 (by omega)]
  · rw [z 49 0 (by omega), e0]; omega
  · rw [z 0 3 (by omega), z 49 26 (by omega)]
    exact ⟨fun q => absurd (Eq.refl _) q, fun q => absurd (Eq.refl _) q.1⟩
  · rw [z 49 26 (by omega)]
    exact fun q => absurd (Eq.refl _) q
  · rw [zst_A (by omega) p, e0]; omega
  · rw [z 49 28 (by omega), e0]; omega
  · exact absurd (z 0 3 (by omega)) q

/-! the classes, by program out of the claim's names -/
def R_Pg : String := "TideTable$Page"
def F_Pg : u_T := fun k => match k with
  | 0 => ("TideTable$Page", "codes", "[I", true)
  | 1 => ("TideTable$Page", "many", "I", false)
  | 2 => ("TideTable$Page", "start", "I", false)
  | _ => ("TideTable$Page", "number", "I", false)
def t_Pg : Nat → FieldType := fun k => match k with
  | 0 => .array .int
  | 1 => .int
  | 2 => .int
  | _ => .int
theorem n_Pg : ∀ a, a < 4 → ∀ b, b < 4 → a ≠ b → (F_Pg a).2.1 ≠ (F_Pg b).2.1 := by decide +kernel
theorem t_Pg_ok : ∀ k, k < 4 → parseFieldDescriptor (F_Pg k).2.2.1 = some (t_Pg k) := by decide +kernel
theorem i_Pg : ∀ w ∈ u_ws R_Pg F_Pg 4, w ∈ tt_good := by decide +kernel
def R_Po : String := "TideTable$Port"
def F_Po : u_T := fun k => match k with
  | 0 => ("TideTable$Port", "kind", "I", false)
  | 1 => ("TideTable$Port", "mean", "I", false)
  | 2 => ("TideTable$Port", "mark", "I", false)
  | 3 => ("TideTable$Port", "ratio", "I", false)
  | 4 => ("TideTable$Port", "sorts", "I", false)
  | 5 => ("TideTable$Port", "waves", "[LTideTable$Wave;", true)
  | _ => ("TideTable$Port", "many", "I", false)
def t_Po : Nat → FieldType := fun k => match k with
  | 0 => .int
  | 1 => .int
  | 2 => .int
  | 3 => .int
  | 4 => .int
  | 5 => .array (.object "TideTable$Wave")
  | _ => .int
theorem n_Po : ∀ a, a < 7 → ∀ b, b < 7 → a ≠ b → (F_Po a).2.1 ≠ (F_Po b).2.1 := by decide +kernel
theorem t_Po_ok : ∀ k, k < 7 → parseFieldDescriptor (F_Po k).2.2.1 = some (t_Po k) := by decide +kernel
theorem i_Po : ∀ w ∈ u_ws R_Po F_Po 7, w ∈ tt_good := by decide +kernel
def R_Se : String := "TideTable$Sea"
def F_Se : u_T := fun k => match k with
  | 0 => ("TideTable$Sea", "harbours", "[LTideTable$Port;", true)
  | 1 => ("TideTable$Sea", "many", "I", false)
  | _ => ("TideTable$Sea", "seen", "I", false)
def t_Se : Nat → FieldType := fun k => match k with
  | 0 => .array (.object "TideTable$Port")
  | 1 => .int
  | _ => .int
theorem n_Se : ∀ a, a < 3 → ∀ b, b < 3 → a ≠ b → (F_Se a).2.1 ≠ (F_Se b).2.1 := by decide +kernel
theorem t_Se_ok : ∀ k, k < 3 → parseFieldDescriptor (F_Se k).2.2.1 = some (t_Se k) := by decide +kernel
theorem i_Se : ∀ w ∈ u_ws R_Se F_Se 3, w ∈ tt_good := by decide +kernel
def R_Wa : String := "TideTable$Wave"
def F_Wa : u_T := fun k => match k with
  | 0 => ("TideTable$Wave", "speed", "I", false)
  | 1 => ("TideTable$Wave", "size", "I", false)
  | _ => ("TideTable$Wave", "start", "I", false)
def t_Wa : Nat → FieldType := fun k => match k with
  | 0 => .int
  | 1 => .int
  | _ => .int
theorem n_Wa : ∀ a, a < 3 → ∀ b, b < 3 → a ≠ b → (F_Wa a).2.1 ≠ (F_Wa b).2.1 := by decide +kernel
theorem t_Wa_ok : ∀ k, k < 3 → parseFieldDescriptor (F_Wa k).2.2.1 = some (t_Wa k) := by decide +kernel
theorem i_Wa : ∀ w ∈ u_ws R_Wa F_Wa 3, w ∈ tt_good := by decide +kernel
def R_Tt : String := "TideTable"
def F_Tt : u_T := fun k => match k with
  | 0 => ("TideTable", "page", "LTideTable$Page;", true)
  | 1 => ("TideTable", "sea", "LTideTable$Sea;", true)
  | 2 => ("TideTable", "kept", "LTideTable$Sea;", true)
  | 3 => ("TideTable", "isKept", "Z", false)
  | 4 => ("TideTable", "readings", "I", false)
  | 5 => ("TideTable", "row", "[I", true)
  | _ => ("TideTable", "otherRow", "[I", true)
def t_Tt : Nat → FieldType := fun k => match k with
  | 0 => .object "TideTable$Page"
  | 1 => .object "TideTable$Sea"
  | 2 => .object "TideTable$Sea"
  | 3 => .boolean
  | 4 => .int
  | 5 => .array .int
  | _ => .array .int
theorem n_Tt : ∀ a, a < 7 → ∀ b, b < 7 → a ≠ b → (F_Tt a).2.1 ≠ (F_Tt b).2.1 := by decide +kernel
theorem t_Tt_ok : ∀ k, k < 7 → parseFieldDescriptor (F_Tt k).2.2.1 = some (t_Tt k) := by decide +kernel
theorem i_Tt : ∀ w ∈ u_ws R_Tt F_Tt 7, w ∈ tt_good := by decide +kernel
def R_Mo : String := "TideTableModel"
def F_Mo : u_T := fun k => match k with
  | 0 => ("TideTableModel", "reads", "I", false)
  | 1 => ("TideTableModel", "ports", "I", false)
  | 2 => ("TideTableModel", "kindOf", "[I", true)
  | 3 => ("TideTableModel", "mean", "[I", true)
  | 4 => ("TideTableModel", "mark", "[I", true)
  | 5 => ("TideTableModel", "ratio", "[I", true)
  | 6 => ("TideTableModel", "waves", "[I", true)
  | 7 => ("TideTableModel", "wave", "[I", true)
  | 8 => ("TideTableModel", "rounds", "[I", true)
  | 9 => ("TideTableModel", "seen", "I", false)
  | 10 => ("TideTableModel", "seenPort", "[I", true)
  | 11 => ("TideTableModel", "seenWhat", "[I", true)
  | 12 => ("TideTableModel", "seenCould", "[I", true)
  | 13 => ("TideTableModel", "pageLength", "I", false)
  | 14 => ("TideTableModel", "page", "[B", true)
  | 15 => ("TideTableModel", "isWhole", "Z", false)
  | 16 => ("TideTableModel", "isBroken", "Z", false)
  | 17 => ("TideTableModel", "newPorts", "I", false)
  | 18 => ("TideTableModel", "newKind", "[I", true)
  | 19 => ("TideTableModel", "newMean", "[I", true)
  | 20 => ("TideTableModel", "newMark", "[I", true)
  | 21 => ("TideTableModel", "newRatio", "[I", true)
  | 22 => ("TideTableModel", "newWaves", "[I", true)
  | 23 => ("TideTableModel", "newWave", "[I", true)
  | 24 => ("TideTableModel", "number", "I", false)
  | 25 => ("TideTableModel", "seedNow", "J", false)
  | 26 => ("TideTableModel", "isKept", "Z", false)
  | 27 => ("TideTableModel", "keptReads", "I", false)
  | 28 => ("TideTableModel", "keptSeen", "I", false)
  | 29 => ("TideTableModel", "keptKind", "[I", true)
  | 30 => ("TideTableModel", "keptMean", "[I", true)
  | 31 => ("TideTableModel", "keptMark", "[I", true)
  | 32 => ("TideTableModel", "keptRatio", "[I", true)
  | 33 => ("TideTableModel", "keptWaves", "[I", true)
  | 34 => ("TideTableModel", "keptWave", "[I", true)
  | 35 => ("TideTableModel", "keptPort", "[I", true)
  | 36 => ("TideTableModel", "keptWhat", "[I", true)
  | 37 => ("TideTableModel", "keptCould", "[I", true)
  | _ => ("TideTableModel", "h", "J", false)
def t_Mo : Nat → FieldType := fun k => match k with
  | 0 => .int
  | 1 => .int
  | 2 => .array .int
  | 3 => .array .int
  | 4 => .array .int
  | 5 => .array .int
  | 6 => .array .int
  | 7 => .array .int
  | 8 => .array .int
  | 9 => .int
  | 10 => .array .int
  | 11 => .array .int
  | 12 => .array .int
  | 13 => .int
  | 14 => .array .byte
  | 15 => .boolean
  | 16 => .boolean
  | 17 => .int
  | 18 => .array .int
  | 19 => .array .int
  | 20 => .array .int
  | 21 => .array .int
  | 22 => .array .int
  | 23 => .array .int
  | 24 => .int
  | 25 => .long
  | 26 => .boolean
  | 27 => .int
  | 28 => .int
  | 29 => .array .int
  | 30 => .array .int
  | 31 => .array .int
  | 32 => .array .int
  | 33 => .array .int
  | 34 => .array .int
  | 35 => .array .int
  | 36 => .array .int
  | 37 => .array .int
  | _ => .long
theorem n_Mo : ∀ a, a < 39 → ∀ b, b < 39 → a ≠ b → (F_Mo a).2.1 ≠ (F_Mo b).2.1 := by decide +kernel
theorem t_Mo_ok : ∀ k, k < 39 → parseFieldDescriptor (F_Mo k).2.2.1 = some (t_Mo k) := by decide +kernel
theorem i_Mo : ∀ w ∈ u_ws R_Mo F_Mo 39, w ∈ tt_good := by decide +kernel
abbrev tt_cl : List vw_C := [(R_Pg, F_Pg, 4), (R_Po, F_Po, 7), (R_Se, F_Se, 3), (R_Wa, F_Wa, 3), (R_Tt, F_Tt, 7), (R_Mo, F_Mo, 39)]
def tt_kd (ci f : Nat) : Nat := (([[1, 0, 0, 0], [0, 0, 0, 0, 0, 1, 0], [1, 0, 0], [0, 0, 0], [1, 1, 1, 0, 0, 1, 1], [0, 0, 1, 1, 1, 1, 1, 1, 1, 0, 1, 1, 1, 0, 1, 0, 0, 0, 1, 1, 1, 1, 1, 1, 0, 2, 0, 0, 0, 1, 1, 1, 1, 1, 1, 1, 1, 1, 2]] : List (List Nat)).getD ci []).getD f 9
def tt_nf (ci : Nat) : Nat := ([4, 7, 3, 3, 7, 39] : List Nat).getD ci 0
def tt_ci (k : Nat) : Nat := ([4, 0, 9, 2, 2, 9, 9, 9, 9, 1, 1, 1, 1, 1, 1, 1, 1, 9, 9, 9, 9, 9, 9, 9, 9, 3, 3, 3, 3, 3, 3, 3, 3, 3, 3, 3, 3, 3, 3, 3, 3, 3, 3, 3, 3, 3, 3, 3, 3, 5, 9, 9, 9, 9, 9, 9, 9, 9, 9, 9, 9, 9, 9, 9, 9, 9, 9, 9, 9, 9, 9, 9, 9, 9, 9, 9] : List Nat).getD k 9
def tt_len (k : Nat) : Nat := ([0, 0, 96, 0, 0, 4, 4, 344, 344, 0, 0, 0, 0, 0, 0, 0, 0, 3, 3, 3, 3, 3, 3, 3, 3, 0, 0, 0, 0, 0, 0, 0, 0, 0, 0, 0, 0, 0, 0, 0, 0, 0, 0, 0, 0, 0, 0, 0, 0, 0, 4, 4, 4, 4, 4, 36, 65, 6, 6, 6, 96, 4, 4, 4, 4, 4, 36, 4, 4, 4, 4, 4, 36, 6, 6, 6] : List Nat).getD k 0
def tt_mR (f : Nat) : Nat := ([0, 0, 50, 51, 52, 53, 54, 55, 56, 0, 57, 58, 59, 0, 60, 0, 0, 0, 61, 62, 63, 64, 65, 66, 0, 0, 0, 0, 0, 67, 68, 69, 70, 71, 72, 73, 74, 75, 0] : List Nat).getD f 0
def tt_R (k f : Nat) : Nat := if k = 49 then tt_mR f else if 9 ≤ k then k + 8 else if k = 0 then ([1, 3, 4, 0, 0, 7, 8] : List Nat).getD f 0 else if k = 1 then 2 else k + 2
def tt_RA (k j : Nat) : Nat := if k = 5 then 9 + j else if k = 6 then 13 + j else 25 + 3 * (k - 17) + j
def tt_at (k : Nat) : Nat := if k = 60 then 1 else if k = 5 then 2 else if k = 6 then 2 else if 17 ≤ k ∧ k < 25 then 3 else 0
/-- the state: ints of the objects' fields, longs of them, ints of the arrays -/
abbrev tt_St : Type := (Nat → Nat → Int32) × (Nat → Nat → Int64) × (Nat → Nat → Int32)
def tt_I (st : tt_St) (o f : Nat) : Int32 := st.1 o f
def tt_L (st : tt_St) (o f : Nat) : Int64 := st.2.1 o f
def tt_A (st : tt_St) (a j : Nat) : Int32 := st.2.2 a j
def tt_pI (st : tt_St) (o f : Nat) (v : Int32) : tt_St := (fun o' f' => if o' = o ∧ f' = f then v else st.1 o' f', st.2.1, st.2.2)
def tt_pL (st : tt_St) (o f : Nat) (v : Int64) : tt_St := (st.1, fun o' f' => if o' = o ∧ f' = f then v else st.2.1 o' f', st.2.2)
def tt_pA (st : tt_St) (a j : Nat) (v : Int32) : tt_St := (st.1, st.2.1, fun a' j' => if a' = a ∧ j' = j then v else st.2.2 a' j')
/-- the world's constants: classes and slots, where each cell lies, the arrays' classes, where the constants lie -/
abbrev tt_G : Type := va_G × (Nat → Nat) × (Nat → ClassId) × (Nat → Nat)
def tt_ad (G : tt_G) (k : Nat) : Nat := G.2.1 k
def tt_cA (G : tt_G) (k : Nat) : ClassId := G.2.2.1 k
def tt_sa (G : tt_G) (k : Nat) : Nat := G.2.2.2 k
def tt_tys (G : tt_G) : List (ClassId × FieldType) := [(tt_cA G 0, .int), (tt_cA G 1, .byte), (tt_cA G 2, .object "TideTable$Port"), (tt_cA G 3, .object "TideTable$Wave")]
def tt_fv (G : tt_G) (st : tt_St) (k f : Nat) : Value := if tt_kd (tt_ci k) f = 0 then .int (tt_I st k f) else if tt_kd (tt_ci k) f = 1 then .ref (tt_ad G (tt_R k f)) else .long (tt_L st k f)
def tt_fs (G : tt_G) (st : tt_St) (k : Nat) : List Value := (List.range (tt_nf (tt_ci k))).map (tt_fv G st k)
def tt_E (G : tt_G) (st : tt_St) (k : Nat) : va_E :=
  if tt_ci k < 6 then .inr (tt_ci k, tt_fs G st k) else if tt_at k ≤ 1 then .inl (tt_cA G (tt_at k), tt_len k, .inl (tt_A st k)) else .inl (tt_cA G (tt_at k), tt_len k, .inr (.inr (.inr (.inr (fun j => some (tt_ad G (tt_RA k j)))))))
def tt_ws (G : tt_G) (st : tt_St) : va_W := (List.range 76).map (fun k => (tt_ad G k, tt_E G st k))
def tt_Ad (G : tt_G) : Nat → Prop := fun q => ∃ k, k < 76 ∧ q = tt_ad G k
def tt_J (G : tt_G) : Prop := ∀ i j, i < 76 → j < 76 → tt_ad G i = tt_ad G j → i = j
theorem tt_ws_get (G : tt_G) (st : tt_St) {k : Nat} (h : k < 76) : (tt_ws G st)[k]? = some (tt_ad G k, tt_E G st k) := by
  rw [tt_ws, List.getElem?_map, List.getElem?_range h]; rfl
theorem tt_ws_lt {G : tt_G} {st : tt_St} {k : Nat} {q : Nat × va_E} (h : (tt_ws G st)[k]? = some q) : k < 76 ∧ q = (tt_ad G k, tt_E G st k) := by
  have h1 := (List.getElem?_eq_some_iff.mp h).1
  have h2 : k < 76 := by simpa [tt_ws] using h1
  rw [tt_ws_get G st h2] at h
  exact ⟨h2, (Option.some.inj h).symm⟩
theorem tt_ws_set {G : tt_G} {st st' : tt_St} {k : Nat} (h : k < 76) (ho : ∀ j, j ≠ k → tt_E G st' j = tt_E G st j) : (tt_ws G st).set k (tt_ad G k, tt_E G st' k) = tt_ws G st' := by
  apply List.ext_getElem?
  intro i
  have hl : (tt_ws G st).length = 76 := by simp [tt_ws]
  by_cases hi : i < 76
  · rw [tt_ws_get G st' hi, List.getElem?_set]
    by_cases hk : k = i
    · subst hk
      rw [if_pos rfl, if_pos (by rw [hl]; exact h)]
    · rw [if_neg hk, tt_ws_get G st hi, ho i (fun q => hk q.symm)]
  · rw [List.getElem?_eq_none (by rw [List.length_set, hl]; omega), List.getElem?_eq_none (by simp [tt_ws]; omega)]
theorem tt_D {G : tt_G} (hJ : tt_J G) (st : tt_St) : va_D (tt_Ad G) (tt_ws G st) := by
  refine ⟨fun i j p q hi hj hpq => ?_, fun k q hk => ?_⟩
  · obtain ⟨a1, a2⟩ := tt_ws_lt hi
    obtain ⟨b1, b2⟩ := tt_ws_lt hj
    rw [a2, b2] at hpq
    exact hJ i j a1 b1 hpq
  · obtain ⟨a1, a2⟩ := tt_ws_lt hk
    rw [a2]
    exact ⟨k, a1, rfl⟩
theorem tt_ci_lt {k : Nat} (h : tt_ci k < 6) : k < 76 := by
  rcases Nat.lt_or_ge k 76 with q | q
  · exact q
  · unfold tt_ci at h
    rw [List.getD_eq_getElem?_getD, List.getElem?_eq_none (by exact q)] at h
    simp at h
theorem tt_E_obj {G : tt_G} {st : tt_St} {k : Nat} (h : tt_ci k < 6) : tt_E G st k = .inr (tt_ci k, tt_fs G st k) := by rw [tt_E, if_pos h]
theorem tt_fs_get {G : tt_G} {st : tt_St} {k f : Nat} (h : f < tt_nf (tt_ci k)) : (tt_fs G st k)[f]? = some (tt_fv G st k f) := by
  rw [tt_fs, List.getElem?_map, List.getElem?_range h]; rfl
theorem tt_fs_len {G : tt_G} {st : tt_St} {k : Nat} : (tt_fs G st k).length = tt_nf (tt_ci k) := by simp [tt_fs]
theorem tt_E_pI {G : tt_G} {st : tt_St} {k f j : Nat} {v : Int32} (h : j ≠ k) : tt_E G (tt_pI st k f v) j = tt_E G st j := by
  have h1 : tt_fs G (tt_pI st k f v) j = tt_fs G st j := by
    unfold tt_fs
    congr 1
    funext f'
    simp [tt_fv, tt_I, tt_L, tt_pI, h]
  unfold tt_E
  rw [h1]
  rfl
theorem tt_E_pL {G : tt_G} {st : tt_St} {k f j : Nat} {v : Int64} (h : j ≠ k) : tt_E G (tt_pL st k f v) j = tt_E G st j := by
  have h1 : tt_fs G (tt_pL st k f v) j = tt_fs G st j := by
    unfold tt_fs
    congr 1
    funext f'
    simp [tt_fv, tt_I, tt_L, tt_pL, h]
  unfold tt_E
  rw [h1]
  rfl
theorem tt_E_pA {G : tt_G} {st : tt_St} {k i j : Nat} {v : Int32} (h : j ≠ k) : tt_E G (tt_pA st k i v) j = tt_E G st j := by
  have h1 : tt_A (tt_pA st k i v) j = tt_A st j := by
    funext j'
    simp [tt_A, tt_pA, h]
  unfold tt_E
  rw [h1]
  rfl
theorem tt_fs_pI {G : tt_G} {st : tt_St} {k f : Nat} {v : Int32} (hk : tt_kd (tt_ci k) f = 0) : tt_fs G (tt_pI st k f v) k = (tt_fs G st k).set f (.int v) := by
  apply List.ext_getElem?
  intro i
  by_cases hi : i < tt_nf (tt_ci k)
  · rw [tt_fs_get hi, List.getElem?_set]
    by_cases hf : f = i
    · subst hf
      rw [if_pos rfl, if_pos (by rw [tt_fs_len]; exact hi)]
      simp [tt_fv, hk, tt_I, tt_pI]
    · rw [if_neg hf, tt_fs_get hi]
      have : ¬ i = f := fun q => hf q.symm
      simp [tt_fv, tt_I, tt_L, tt_pI, this]
  · rw [List.getElem?_eq_none (by rw [tt_fs_len]; omega), List.getElem?_eq_none (by rw [List.length_set, tt_fs_len]; omega)]
theorem tt_fs_pL {G : tt_G} {st : tt_St} {k f : Nat} {v : Int64} (hk : tt_kd (tt_ci k) f = 2) : tt_fs G (tt_pL st k f v) k = (tt_fs G st k).set f (.long v) := by
  apply List.ext_getElem?
  intro i
  by_cases hi : i < tt_nf (tt_ci k)
  · rw [tt_fs_get hi, List.getElem?_set]
    by_cases hf : f = i
    · subst hf
      rw [if_pos rfl, if_pos (by rw [tt_fs_len]; exact hi)]
      simp [tt_fv, hk, tt_L, tt_pL]
    · rw [if_neg hf, tt_fs_get hi]
      have : ¬ i = f := fun q => hf q.symm
      simp [tt_fv, tt_I, tt_L, tt_pL, this]
  · rw [List.getElem?_eq_none (by rw [tt_fs_len]; omega), List.getElem?_eq_none (by rw [List.length_set, tt_fs_len]; omega)]
theorem tt_A_pA {st : tt_St} {k i : Nat} {v : Int32} : tt_A (tt_pA st k i v) k = upd (tt_A st k) i v := by
  funext j
  simp [tt_A, tt_pA, upd]


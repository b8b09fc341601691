/-! ===== a pure machine over numbered cells: what stands beside an instruction, tables, shapes, worlds ===== -/
abbrev pm_X : Type := (Nat × Nat) ⊕ (Int32 ⊕ (Int64 ⊕ MethodName))
abbrev pm_E : Type := Nat × Instr × Nat × pm_X
abbrev pm_M : Type := MethodName × ByteArray × Nat × Option FieldType × List pm_E
/-- a cell's shape: (0, class, fields: none an int, some r a reference), (1, n, []) ints, (2, n, []) booleans, (3, n, []) longs, (4, n, refs) references -/
abbrev pm_C : Type := Nat × Nat × List (Option (Option Nat))
abbrev pm_I : Type := Nat → Nat → Int32
abbrev pm_J : Type := Nat → Nat → Int64
abbrev pm_L : Type := List (Option Value)
abbrev pm_Po : Type := Option Value → List pm_C → pm_I → pm_J → Prop
abbrev pm_CX : Type := Launch × (Nat → ClassId) × (Nat → Nat → Nat) × (Nat → ClassId)
def pm_at (al : Nat → Nat) (v : Value) : Value := match v with
  | .ref k => .ref (al k)
  | v => v
def pm_fv (al : Nat → Nat) (f : Nat → Int32) (j : Nat) (o : Option (Option Nat)) : Value := match o with
  | none => .int (f j)
  | some none => .null
  | some (some k) => .ref (al k)
def pm_fl (al : Nat → Nat) (f : Nat → Int32) : Nat → List (Option (Option Nat)) → List Value
  | _, [] => []
  | j, o :: r => pm_fv al f j o :: pm_fl al f (j + 1) r
theorem pm_fl_get (al : Nat → Nat) (f : Nat → Int32) (fs : List (Option (Option Nat))) : ∀ (j0 j : Nat), (pm_fl al f j0 fs)[j]? = (fs[j]?).map (pm_fv al f (j0 + j)) := by
  induction fs with
  | nil => intro j0 j; simp [pm_fl]
  | cons o r ih =>
    intro j0 j
    cases j with
    | zero => simp [pm_fl]
    | succ j =>
      simp only [pm_fl, List.getElem?_cons_succ]
      rw [ih (j0 + 1) j, show j0 + 1 + j = j0 + (j + 1) by omega]
theorem pm_fl_len (al : Nat → Nat) (f : Nat → Int32) (fs : List (Option (Option Nat))) : ∀ j0, (pm_fl al f j0 fs).length = fs.length := by
  induction fs with
  | nil => intro j0; rfl
  | cons o r ih => intro j0; simp [pm_fl, ih]
def pm_rf (al : Nat → Nat) (rs : List (Option (Option Nat))) (j : Nat) : Option Nat := match rs[j]? with
  | some (some (some k)) => some (al k)
  | _ => none
def pm_wc (dT : Nat → ClassId) (al : Nat → Nat) (mu : pm_I) (nu : pm_J) (k : Nat) (c : pm_C) : va_E := match c with
  | (0, ci, fs) => .inr (ci, pm_fl al (mu k) 0 fs)
  | (1, n, _) => .inl (dT 0, n, .inl (mu k))
  | (2, n, _) => .inl (dT 1, n, .inl (mu k))
  | (3, n, _) => .inl (dT 2, n, .inr (.inl (nu k)))
  | (_, n, rs) => .inl (dT 3, n, .inr (.inr (.inr (.inr (pm_rf al rs)))))
def pm_W (dT : Nat → ClassId) (al : Nat → Nat) (mu : pm_I) (nu : pm_J) : Nat → List pm_C → va_W
  | _, [] => []
  | k, c :: r => (al k, pm_wc dT al mu nu k c) :: pm_W dT al mu nu (k + 1) r
theorem pm_W_get (dT : Nat → ClassId) (al : Nat → Nat) (mu : pm_I) (nu : pm_J) (sg : List pm_C) : ∀ (k0 k : Nat), (pm_W dT al mu nu k0 sg)[k]? = (sg[k]?).map (fun c => (al (k0 + k), pm_wc dT al mu nu (k0 + k) c)) := by
  induction sg with
  | nil => intro k0 k; simp [pm_W]
  | cons o r ih =>
    intro k0 k
    cases k with
    | zero => simp [pm_W]
    | succ k =>
      simp only [pm_W, List.getElem?_cons_succ]
      rw [ih (k0 + 1) k, show k0 + 1 + k = k0 + (k + 1) by omega]
theorem pm_W_at {dT : Nat → ClassId} {al : Nat → Nat} {mu : pm_I} {nu : pm_J} {sg : List pm_C} {k : Nat} {c : pm_C} (h : sg[k]? = some c) : (pm_W dT al mu nu 0 sg)[k]? = some (al k, pm_wc dT al mu nu k c) := by
  rw [pm_W_get, h]
  simp
theorem pm_W_len (dT : Nat → ClassId) (al : Nat → Nat) (mu : pm_I) (nu : pm_J) (sg : List pm_C) : ∀ k0, (pm_W dT al mu nu k0 sg).length = sg.length := by
  induction sg with
  | nil => intro k0; rfl
  | cons o r ih => intro k0; simp [pm_W, ih]
/-- one cell changed: its number k's own shape or contents -/
theorem pm_W_set {dT : Nat → ClassId} {al : Nat → Nat} {mu mu' : pm_I} {nu nu' : pm_J} {sg sg' : List pm_C} {k : Nat} {x : va_E}
    (hl : sg'.length = sg.length) (ho : ∀ j c, j ≠ k → sg[j]? = some c → sg'[j]? = some c ∧ mu' j = mu j ∧ nu' j = nu j) (hk : ∀ c, sg'[k]? = some c → pm_wc dT al mu' nu' k c = x) :
    (pm_W dT al mu nu 0 sg).set k (al k, x) = pm_W dT al mu' nu' 0 sg' := by
  apply List.ext_getElem?
  intro j
  rw [List.getElem?_set, pm_W_get, pm_W_get, pm_W_len]
  simp only [Nat.zero_add]
  by_cases hj : k = j
  · subst hj
    rw [if_pos rfl]
    by_cases hs : k < sg.length
    · rw [if_pos hs]
      have : k < sg'.length := by omega
      rw [List.getElem?_eq_getElem this]
      simp only [Option.map_some]
      rw [hk _ (List.getElem?_eq_getElem this)]
    · rw [if_neg hs]
      rw [List.getElem?_eq_none (by omega)]
      rfl
  · rw [if_neg hj]
    cases hc : sg[j]? with
    | none =>
      have h1 : sg.length ≤ j := by simpa using hc
      rw [List.getElem?_eq_none (by omega)]
      rfl
    | some c =>
      obtain ⟨h1, h2, h3⟩ := ho j c (fun q => hj q.symm) hc
      rw [h1]
      simp only [Option.map_some]
      congr 2
      unfold pm_wc
      rw [h2, h3]
/-- a place of the ints, of the longs changed -/
def pm_up (mu : pm_I) (k j : Nat) (v : Int32) : pm_I := fun a => if a = k then upd (mu k) j v else mu a
def pm_uq (nu : pm_J) (k j : Nat) (v : Int64) : pm_J := fun a => if a = k then vp_updL (nu k) j v else nu a
theorem pm_up_ne {mu : pm_I} {k j a : Nat} {v : Int32} (h : a ≠ k) : pm_up mu k j v a = mu a := by simp [pm_up, h]
theorem pm_up_eq {mu : pm_I} {k j : Nat} {v : Int32} : pm_up mu k j v k = upd (mu k) j v := by simp [pm_up]
theorem pm_uq_ne {nu : pm_J} {k j a : Nat} {v : Int64} (h : a ≠ k) : pm_uq nu k j v a = nu a := by simp [pm_uq, h]
theorem pm_uq_eq {nu : pm_J} {k j : Nat} {v : Int64} : pm_uq nu k j v k = vp_updL (nu k) j v := by simp [pm_uq]
theorem pm_fl_set (al : Nat → Nat) (f : Nat → Int32) (v : Int32) (fs : List (Option (Option Nat))) : ∀ (j0 j : Nat), fs[j]? = some none → (pm_fl al f j0 fs).set j (.int v) = pm_fl al (upd f (j0 + j) v) j0 fs := by
  intro j0 j hj
  apply List.ext_getElem?
  intro i
  rw [List.getElem?_set, pm_fl_get, pm_fl_get, pm_fl_len]
  have hlt : j < fs.length := (List.getElem?_eq_some_iff.mp hj).1
  by_cases h : j = i
  · subst h
    rw [if_pos rfl, if_pos hlt, hj]
    simp [pm_fv, upd]
  · rw [if_neg h]
    cases hi : fs[i]? with
    | none => rfl
    | some o =>
      simp only [Option.map_some]
      cases o with
      | none =>
        have : ¬ (j0 + i = j0 + j) := by omega
        simp [pm_fv, upd, this]
        intro q; omega
      | some o => cases o <;> rfl
/-! locals -/
def pm_lc (al : Nat → Nat) : Nat → pm_L → List (Nat × Value)
  | _, [] => []
  | i, none :: r => pm_lc al (i + 1) r
  | i, some v :: r => (i, pm_at al v) :: pm_lc al (i + 1) r
theorem pm_lc_mem (al : Nat → Nat) (L : pm_L) : ∀ (i0 : Nat) (q : Nat × Value), q ∈ pm_lc al i0 L ↔ ∃ (j : Nat) (v : Value), L[j]? = some (some v) ∧ q = (i0 + j, pm_at al v) := by
  induction L with
  | nil => intro i0 q; simp [pm_lc]
  | cons o r ih =>
    intro i0 q
    have key : (∃ (j : Nat) (v : Value), r[j]? = some (some v) ∧ q = (i0 + 1 + j, pm_at al v)) ↔ (∃ (j : Nat) (v : Value), (o :: r)[j + 1]? = some (some v) ∧ q = (i0 + (j + 1), pm_at al v)) := by
      constructor
      · rintro ⟨j, v, h1, h2⟩
        exact ⟨j, v, by simpa using h1, by rw [h2, show i0 + 1 + j = i0 + (j + 1) by omega]⟩
      · rintro ⟨j, v, h1, h2⟩
        exact ⟨j, v, by simpa using h1, by rw [h2, show i0 + 1 + j = i0 + (j + 1) by omega]⟩
    cases o with
    | none =>
      simp only [pm_lc]
      rw [ih (i0 + 1) q, key]
      constructor
      · rintro ⟨j, v, h⟩; exact ⟨j + 1, v, h⟩
      · rintro ⟨j, v, h1, h2⟩
        cases j with
        | zero => simp at h1
        | succ j => exact ⟨j, v, h1, h2⟩
    | some w =>
      simp only [pm_lc, List.mem_cons]
      rw [ih (i0 + 1) q, key]
      constructor
      · rintro (h | ⟨j, v, h⟩)
        · exact ⟨0, w, by simp, by simpa using h⟩
        · exact ⟨j + 1, v, h⟩
      · rintro ⟨j, v, h1, h2⟩
        cases j with
        | zero =>
          simp at h1
          subst h1
          exact Or.inl (by simpa using h2)
        | succ j => exact Or.inr ⟨j, v, h1, h2⟩
theorem pm_lc_at {al : Nat → Nat} {L : pm_L} {ls : Array Slot} {nL i : Nat} {v : Value} (h : lv_has ls nL (pm_lc al 0 L)) (hi : L[i]? = some (some v)) : ls[i]? = some (.val (pm_at al v)) :=
  h.2.2 (i, pm_at al v) ((pm_lc_mem al L 0 _).mpr ⟨i, v, hi, by simp⟩)
theorem pm_has_mono {ls : Array Slot} {nL : Nat} {l l' : List (Nat × Value)} (h : lv_has ls nL l) (hs : ∀ q ∈ l', q ∈ l) : lv_has ls nL l' := ⟨h.1, h.2.1, fun q hq => h.2.2 q (hs q hq)⟩
def pm_cat2 (o : Option Value) : Bool := match o with
  | some (.long _) => true
  | some (.double _) => true
  | _ => false
/-- a value of one slot is stored: a long ahead of it goes -/
def pm_st1 : pm_L → Nat → Value → pm_L
  | [], _, _ => []
  | _ :: r, 0, v => some v :: r
  | o :: r, 1, v => (match pm_cat2 o with | true => none | false => o) :: pm_st1 r 0 v
  | o :: r, i + 2, v => o :: pm_st1 r (i + 1) v
/-- a long is stored -/
def pm_st2 : pm_L → Nat → Value → pm_L
  | [], _, _ => []
  | _ :: [], 0, v => some v :: []
  | _ :: _ :: r, 0, v => some v :: none :: r
  | o :: r, 1, v => (match pm_cat2 o with | true => none | false => o) :: pm_st2 r 0 v
  | o :: r, i + 2, v => o :: pm_st2 r (i + 1) v
theorem pm_cat2_iff {v : Value} {al : Nat → Nat} : pm_cat2 (some v) = true ↔ (pm_at al v).category = 2 := by cases v <;> simp [pm_cat2, pm_at, Value.category]
theorem pm_st1_get (v : Value) : ∀ (L : pm_L) (i j : Nat) (w : Value), (pm_st1 L i v)[j]? = some (some w) → (j = i ∧ w = v) ∨ (j ≠ i ∧ L[j]? = some (some w) ∧ ¬ (j + 1 = i ∧ pm_cat2 (some w) = true)) := by
  intro L
  induction L with
  | nil => intro i j w h; simp [pm_st1] at h
  | cons o r ih =>
    intro i j w h
    match i with
    | 0 =>
      cases j with
      | zero => simp [pm_st1] at h; exact Or.inl ⟨rfl, h.symm⟩
      | succ j => simp [pm_st1] at h; exact Or.inr ⟨by omega, by simpa using h, by omega⟩
    | 1 =>
      cases j with
      | zero =>
        simp [pm_st1] at h
        refine Or.inr ⟨by omega, ?_, ?_⟩
        · cases hc : pm_cat2 o with
          | true => rw [hc] at h; cases h
          | false => rw [hc] at h; simpa using h
        · rintro ⟨-, hw⟩
          cases hc : pm_cat2 o with
          | true => rw [hc] at h; cases h
          | false =>
            rw [hc] at h
            have : o = some w := h
            rw [this, hw] at hc
            cases hc
      | succ j =>
        simp [pm_st1] at h
        rcases ih 0 j w h with ⟨h1, h2⟩ | ⟨h1, h2, h3⟩
        · exact Or.inl ⟨by omega, h2⟩
        · exact Or.inr ⟨by omega, by simpa using h2, by rintro ⟨q, -⟩; omega⟩
    | i + 2 =>
      cases j with
      | zero =>
        simp [pm_st1] at h
        exact Or.inr ⟨by omega, by simpa using h, by rintro ⟨q, -⟩; omega⟩
      | succ j =>
        simp [pm_st1] at h
        rcases ih (i + 1) j w h with ⟨h1, h2⟩ | ⟨h1, h2, h3⟩
        · exact Or.inl ⟨by omega, h2⟩
        · exact Or.inr ⟨by omega, by simpa using h2, by rintro ⟨q, hq⟩; exact h3 ⟨by omega, hq⟩⟩
theorem pm_st2_get (v : Value) : ∀ (L : pm_L) (i j : Nat) (w : Value), (pm_st2 L i v)[j]? = some (some w) → (j = i ∧ w = v) ∨ (j ≠ i ∧ j ≠ i + 1 ∧ L[j]? = some (some w) ∧ ¬ (j + 1 = i ∧ pm_cat2 (some w) = true)) := by
  intro L
  induction L with
  | nil => intro i j w h; simp [pm_st2] at h
  | cons o r ih =>
    intro i j w h
    match i with
    | 0 =>
      cases r with
      | nil =>
        cases j with
        | zero => simp [pm_st2] at h; exact Or.inl ⟨rfl, h.symm⟩
        | succ j => simp [pm_st2] at h
      | cons o2 r =>
        match j with
        | 0 => simp [pm_st2] at h; exact Or.inl ⟨rfl, h.symm⟩
        | 1 => simp [pm_st2] at h
        | j + 2 => simp [pm_st2] at h; exact Or.inr ⟨by omega, by omega, by simpa using h, by omega⟩
    | 1 =>
      cases j with
      | zero =>
        simp [pm_st2] at h
        refine Or.inr ⟨by omega, by omega, ?_, ?_⟩
        · cases hc : pm_cat2 o with
          | true => rw [hc] at h; cases h
          | false => rw [hc] at h; simpa using h
        · rintro ⟨-, hw⟩
          cases hc : pm_cat2 o with
          | true => rw [hc] at h; cases h
          | false =>
            rw [hc] at h
            have : o = some w := h
            rw [this, hw] at hc
            cases hc
      | succ j =>
        simp [pm_st2] at h
        rcases ih 0 j w h with ⟨h1, h2⟩ | ⟨h1, h2, h3, h4⟩
        · exact Or.inl ⟨by omega, h2⟩
        · exact Or.inr ⟨by omega, by omega, by simpa using h3, by rintro ⟨q, -⟩; omega⟩
    | i + 2 =>
      cases j with
      | zero =>
        simp [pm_st2] at h
        exact Or.inr ⟨by omega, by omega, by simpa using h, by rintro ⟨q, -⟩; omega⟩
      | succ j =>
        simp [pm_st2] at h
        rcases ih (i + 1) j w h with ⟨h1, h2⟩ | ⟨h1, h2, h3, h4⟩
        · exact Or.inl ⟨by omega, h2⟩
        · exact Or.inr ⟨by omega, by omega, by simpa using h3, by rintro ⟨q, hq⟩; exact h4 ⟨by omega, hq⟩⟩
theorem pm_st1_sub {al : Nat → Nat} {L : pm_L} {i : Nat} {v : Value} : ∀ q ∈ pm_lc al 0 (pm_st1 L i v), q ∈ (i, pm_at al v) :: (pm_lc al 0 L).filter (fun q => !(q.1 == i) && !(q.1 + 1 == i && q.2.category == 2)) := by
  intro q hq
  obtain ⟨j, w, h1, rfl⟩ := (pm_lc_mem al _ 0 q).mp hq
  rcases pm_st1_get v L i j w h1 with ⟨h2, h3⟩ | ⟨h2, h3, h4⟩
  · subst h2; subst h3; simp
  · refine List.mem_cons_of_mem _ (List.mem_filter.mpr ⟨(pm_lc_mem al L 0 _).mpr ⟨j, w, h3, rfl⟩, ?_⟩)
    simp only [Nat.zero_add, Bool.and_eq_true, Bool.not_eq_true', beq_eq_false_iff_ne, ne_eq, Bool.and_eq_false_iff]
    refine ⟨h2, ?_⟩
    by_cases h5 : j + 1 = i
    · exact Or.inr (fun h6 => h4 ⟨h5, pm_cat2_iff.mpr h6⟩)
    · exact Or.inl h5
theorem pm_st2_sub {al : Nat → Nat} {L : pm_L} {i : Nat} {v : Value} : ∀ q ∈ pm_lc al 0 (pm_st2 L i v), q ∈ (i, pm_at al v) :: (pm_lc al 0 L).filter (fun q => !(q.1 == i) && (!(q.1 == i + 1) && !(q.1 + 1 == i && q.2.category == 2))) := by
  intro q hq
  obtain ⟨j, w, h1, rfl⟩ := (pm_lc_mem al _ 0 q).mp hq
  rcases pm_st2_get v L i j w h1 with ⟨h2, h3⟩ | ⟨h2, h2', h3, h4⟩
  · subst h2; subst h3; simp
  · refine List.mem_cons_of_mem _ (List.mem_filter.mpr ⟨(pm_lc_mem al L 0 _).mpr ⟨j, w, h3, rfl⟩, ?_⟩)
    simp only [Nat.zero_add, Bool.and_eq_true, Bool.not_eq_true', beq_eq_false_iff_ne, ne_eq, Bool.and_eq_false_iff]
    refine ⟨h2, h2', ?_⟩
    by_cases h5 : j + 1 = i
    · exact Or.inr (fun h6 => h4 ⟨h5, pm_cat2_iff.mpr h6⟩)
    · exact Or.inl h5

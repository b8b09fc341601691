/-! ===== new cells: rules for new, newarray, anewarray, final fields, constructors ===== -/
def pm_z (mu : pm_I) (k : Nat) : pm_I := fun a => if a = k then (fun _ => 0) else mu a
def pm_zq (nu : pm_J) (k : Nat) : pm_J := fun a => if a = k then (fun _ => 0) else nu a
theorem pm_z_ne {mu : pm_I} {k a : Nat} (h : a ≠ k) : pm_z mu k a = mu a := if_neg h
theorem pm_z_eq {mu : pm_I} {k : Nat} : pm_z mu k k = fun _ => 0 := if_pos rfl
theorem pm_zq_ne {nu : pm_J} {k a : Nat} (h : a ≠ k) : pm_zq nu k a = nu a := if_neg h
theorem pm_zq_eq {nu : pm_J} {k : Nat} : pm_zq nu k k = fun _ => 0 := if_pos rfl
/-- the shapes' references are numbers of cells -/
def pm_sr (n : Nat) (o : Option (Option Nat)) : Bool := match o with
  | some (some q) => Nat.blt q n
  | _ => true
def pm_sw (sg : List pm_C) : Bool := sg.all (fun c => c.2.2.all (pm_sr sg.length))
theorem pm_fl_al {al al' : Nat → Nat} {n : Nat} (ha : ∀ k, k < n → al' k = al k) (f : Nat → Int32) : ∀ (fs : List (Option (Option Nat))) (j : Nat), fs.all (pm_sr n) = true → pm_fl al' f j fs = pm_fl al f j fs := by
  intro fs
  induction fs with
  | nil => intro j h; rfl
  | cons o r ih =>
    intro j h
    simp only [List.all_cons, Bool.and_eq_true] at h
    show pm_fv al' f j o :: pm_fl al' f (j + 1) r = pm_fv al f j o :: pm_fl al f (j + 1) r
    rw [ih (j + 1) h.2]
    congr 1
    match o, h.1 with
    | none, _ => rfl
    | some none, _ => rfl
    | some (some q), h1 =>
      show Value.ref (al' q) = Value.ref (al q)
      rw [ha q (Nat.le_of_ble_eq_true h1)]
theorem pm_rf_al {al al' : Nat → Nat} {n : Nat} (ha : ∀ k, k < n → al' k = al k) {rs : List (Option (Option Nat))} (h : rs.all (pm_sr n) = true) : pm_rf al' rs = pm_rf al rs := by
  funext j
  unfold pm_rf
  cases hj : rs[j]? with
  | none => rfl
  | some o =>
    have h1 := List.all_eq_true.mp h o (List.mem_of_getElem? hj)
    match o, h1 with
    | none, _ => rfl
    | some none, _ => rfl
    | some (some q), h1 =>
      show some (al' q) = some (al q)
      rw [ha q (Nat.le_of_ble_eq_true h1)]
theorem pm_wc_al {dT : Nat → ClassId} {al al' : Nat → Nat} {mu mu' : pm_I} {nu nu' : pm_J} {k n : Nat} {c : pm_C} (ha : ∀ k, k < n → al' k = al k) (hc : c.2.2.all (pm_sr n) = true) (hm : mu' k = mu k) (hn : nu' k = nu k) : pm_wc dT al' mu' nu' k c = pm_wc dT al mu nu k c := by
  unfold pm_wc
  split
  · rw [hm, pm_fl_al ha _ _ _ hc]
  · rw [hm]
  · rw [hm]
  · rw [hn]
  · rw [pm_rf_al ha hc]
def pm_an (al : Nat → Nat) (k q : Nat) : Nat → Nat := fun a => if a = k then q else al a
theorem pm_W_new {dT : Nat → ClassId} {al : Nat → Nat} {mu : pm_I} {nu : pm_J} {sg : List pm_C} {c : pm_C} {q : Nat} (hsw : pm_sw sg = true) : pm_W dT (pm_an al sg.length q) (pm_z mu sg.length) (pm_zq nu sg.length) 0 (sg ++ [c]) = pm_W dT al mu nu 0 sg ++ [(q, pm_wc dT (pm_an al sg.length q) (pm_z mu sg.length) (pm_zq nu sg.length) sg.length c)] := by
  apply List.ext_getElem?
  intro j
  rw [pm_W_get]
  simp only [Nat.zero_add]
  rcases Nat.lt_trichotomy j sg.length with h | h | h
  · rw [List.getElem?_append_left h, List.getElem?_append_left (by rw [pm_W_len]; exact h), pm_W_get]
    cases hc : sg[j]? with
    | none => rfl
    | some c0 =>
      simp only [Option.map_some, Nat.zero_add]
      rw [pm_wc_al (al := al) (al' := pm_an al sg.length q) (mu := mu) (nu := nu) (n := sg.length) (fun k hk => if_neg (Nat.ne_of_lt hk)) (List.all_eq_true.mp hsw c0 (List.mem_of_getElem? hc)) (pm_z_ne (Nat.ne_of_lt h)) (pm_zq_ne (Nat.ne_of_lt h))]
      congr 2
      exact if_neg (Nat.ne_of_lt h)
  · subst h
    rw [List.getElem?_append_right (Nat.le_refl _), List.getElem?_append_right (by rw [pm_W_len]; exact Nat.le_refl _), pm_W_len, Nat.sub_self]
    simp [pm_an]
  · rw [List.getElem?_eq_none (by simp; omega), List.getElem?_eq_none (by simp [pm_W_len]; omega)]
    rfl
section
variable {cx : pm_CX} {fx : pm_FX} {cells slots pc nx : Nat} {L : pm_L} {S : List Value} {sg : List pm_C} {mu : pm_I} {nu : pm_J}
/-- a cell is made -/
theorem pm_D.new {nL n0 : Nat} {s : State} {A : Nat → Prop} {al0 al : Nat → Nat} {H H1 : Heap} {locs : List Loc} {ls : Array Slot} {q : Nat} {c : pm_C} (hD : pm_D cx nL n0 s A al0 al H locs ls L sg mu nu) (hw : pm_wf sg L S = true) (hsw : pm_sw sg = true) (hP1 : va_P (cx.2.1, cx.2.2.1) vwCl (pm_W cx.2.2.2 al mu nu 0 sg ++ [(q, pm_wc cx.2.2.2 (pm_an al sg.length q) (pm_z mu sg.length) (pm_zq nu sg.length) sg.length c)]) H1) (hD1 : va_D A (pm_W cx.2.2.2 al mu nu 0 sg ++ [(q, pm_wc cx.2.2.2 (pm_an al sg.length q) (pm_z mu sg.length) (pm_zq nu sg.length) sg.length c)])) (hS1 : va_S A s.heap H1 locs) : pm_D cx nL n0 s A al0 (pm_an al sg.length q) H1 locs ls L (sg ++ [c]) (pm_z mu sg.length) (pm_zq nu sg.length) := by
  rw [← pm_W_new hsw] at hP1 hD1
  have ha : ∀ k, k < sg.length → pm_an al sg.length q k = al k := fun k hk => if_neg (Nat.ne_of_lt hk)
  exact ⟨fun k hk => (ha k (Nat.lt_of_lt_of_le hk hD.2.1)).trans (hD.1 k hk), Nat.le_trans hD.2.1 (by simp), hP1, hD1, hS1, pm_has_mono hD.2.2.2.2.2 (pm_wf_L hw ha)⟩
theorem pm_stk_new {al : Nat → Nat} {q : Nat} (hw : pm_wf sg L S = true) : (Value.ref sg.length :: S).map (pm_at (pm_an al sg.length q)) = Value.ref q :: S.map (pm_at al) := by
  rw [List.map_cons, pm_wf_S hw (al := al) (al' := pm_an al sg.length q) (fun k hk => if_neg (Nat.ne_of_lt hk))]
  show Value.ref (pm_an al sg.length q sg.length) :: _ = _
  unfold pm_an
  rw [if_pos rfl]
theorem pm_arr_int : Cond.arrayClass .int ∈ pm_tbl := by decide +kernel
theorem pm_arr_bool : Cond.arrayClass .boolean ∈ pm_tbl := by decide +kernel
theorem pm_arr_long : Cond.arrayClass .long ∈ pm_tbl := by decide +kernel
theorem pm_nai (hok : pm_ok fx.1 = true) {x : pm_X} {n k : Nat} (h : pm_ent fx.1.2.2.2.2 pc = some ((.newarray .int, 2, x), nx)) (hk : sg.length = k) (hw : pm_wf sg L S = true) (hsw : pm_sw sg = true) (hn : n < 100000) (hm : cells + 1 ≤ fx.2.2.1 ∧ slots + n ≤ fx.2.2.2.1) (kk : pm_G cx fx (cells + 1) (slots + n) nx L (.ref k :: S) (sg ++ [(1, n, [])]) (pm_z mu k) (pm_zq nu k)) : pm_G cx fx cells slots pc L (.int (nI n) :: S) sg mu nu := by
  obtain ⟨he, rfl⟩ := pm_ent_ok hok h
  subst hk
  intro p e s m args below meth c A al0 al H locs ls hS hD
  obtain ⟨hx, hb, hr, hml, hown, hts, hlk, hnam, hA, hK, hN⟩ := id hS
  have tw : ∀ {w : Cond}, w ∈ pm_tbl → w.before args s = true := fun hw => hts _ (List.mem_cons_of_mem _ hw)
  refine va_newa (atype := .int) (ty := .int) (N' := n) (a0 := (n, .inl (fun _ => 0))) hx hb (tw pm_arr_int) rfl hK hD.2.2.1 hD.2.2.2.1 hD.2.2.2.2.1 hA (fun cA => rfl) (fun q => by have := lt_toInt.mp q; rw [nI_toInt (by omega)] at this; have h3 : (0 : Int32).toInt = 0 := rfl; omega) (nI_clamp (by omega)) (by show n * 4 ≤ _; omega) hm.1 hm.2 (pm_dc he) (fun q cA H1 hK1 hP1 hD1 hS1 => ?_)
  have ec : cA = cx.2.2.2 0 := by
    have r1 : s.vm.findClass _ = some cA := (hK1.2 4 (cA, .int) rfl).2
    have r2 : s.vm.findClass _ = some (cx.2.2.2 0) := (hK.2 0 (cx.2.2.2 0, .int) rfl).2
    exact Option.some.inj (r1.symm.trans r2)
  subst ec
  have ew : (Sum.inl (cx.2.2.2 0, n, Sum.inl (fun _ => (0 : Int32))) : va_E) = pm_wc cx.2.2.2 (pm_an al sg.length q) (pm_z mu sg.length) (pm_zq nu sg.length) sg.length (1, n, []) := by
    show _ = Sum.inl (_, n, Sum.inl (pm_z mu sg.length sg.length))
    rw [pm_z_eq]
  rw [ew] at hP1 hD1
  have := kk p e s m args below meth c A al0 (pm_an al sg.length q) H1 locs ls hS (pm_D.new hD hw hsw hP1 hD1 hS1)
  rw [pm_stk_new hw] at this
  exact this
theorem pm_naz (hok : pm_ok fx.1 = true) {x : pm_X} {n k : Nat} (h : pm_ent fx.1.2.2.2.2 pc = some ((.newarray .boolean, 2, x), nx)) (hk : sg.length = k) (hw : pm_wf sg L S = true) (hsw : pm_sw sg = true) (hn : n < 100000) (hm : cells + 1 ≤ fx.2.2.1 ∧ slots + n ≤ fx.2.2.2.1) (kk : pm_G cx fx (cells + 1) (slots + n) nx L (.ref k :: S) (sg ++ [(2, n, [])]) (pm_z mu k) (pm_zq nu k)) : pm_G cx fx cells slots pc L (.int (nI n) :: S) sg mu nu := by
  obtain ⟨he, rfl⟩ := pm_ent_ok hok h
  subst hk
  intro p e s m args below meth c A al0 al H locs ls hS hD
  obtain ⟨hx, hb, hr, hml, hown, hts, hlk, hnam, hA, hK, hN⟩ := id hS
  have tw : ∀ {w : Cond}, w ∈ pm_tbl → w.before args s = true := fun hw => hts _ (List.mem_cons_of_mem _ hw)
  refine va_newa (atype := .boolean) (ty := .boolean) (N' := n) (a0 := (n, .inl (fun _ => 0))) hx hb (tw pm_arr_bool) rfl hK hD.2.2.1 hD.2.2.2.1 hD.2.2.2.2.1 hA (fun cA => rfl) (fun q => by have := lt_toInt.mp q; rw [nI_toInt (by omega)] at this; have h3 : (0 : Int32).toInt = 0 := rfl; omega) (nI_clamp (by omega)) (by show n * 1 ≤ _; omega) hm.1 hm.2 (pm_dc he) (fun q cA H1 hK1 hP1 hD1 hS1 => ?_)
  have ec : cA = cx.2.2.2 1 := by
    have r1 : s.vm.findClass _ = some cA := (hK1.2 4 (cA, .boolean) rfl).2
    have r2 : s.vm.findClass _ = some (cx.2.2.2 1) := (hK.2 1 (cx.2.2.2 1, .boolean) rfl).2
    exact Option.some.inj (r1.symm.trans r2)
  subst ec
  have ew : (Sum.inl (cx.2.2.2 1, n, Sum.inl (fun _ => (0 : Int32))) : va_E) = pm_wc cx.2.2.2 (pm_an al sg.length q) (pm_z mu sg.length) (pm_zq nu sg.length) sg.length (2, n, []) := by
    show _ = Sum.inl (_, n, Sum.inl (pm_z mu sg.length sg.length))
    rw [pm_z_eq]
  rw [ew] at hP1 hD1
  have := kk p e s m args below meth c A al0 (pm_an al sg.length q) H1 locs ls hS (pm_D.new hD hw hsw hP1 hD1 hS1)
  rw [pm_stk_new hw] at this
  exact this
theorem pm_nal (hok : pm_ok fx.1 = true) {x : pm_X} {n k : Nat} (h : pm_ent fx.1.2.2.2.2 pc = some ((.newarray .long, 2, x), nx)) (hk : sg.length = k) (hw : pm_wf sg L S = true) (hsw : pm_sw sg = true) (hn : n < 100000) (hm : cells + 1 ≤ fx.2.2.1 ∧ slots + n ≤ fx.2.2.2.1) (kk : pm_G cx fx (cells + 1) (slots + n) nx L (.ref k :: S) (sg ++ [(3, n, [])]) (pm_z mu k) (pm_zq nu k)) : pm_G cx fx cells slots pc L (.int (nI n) :: S) sg mu nu := by
  obtain ⟨he, rfl⟩ := pm_ent_ok hok h
  subst hk
  intro p e s m args below meth c A al0 al H locs ls hS hD
  obtain ⟨hx, hb, hr, hml, hown, hts, hlk, hnam, hA, hK, hN⟩ := id hS
  have tw : ∀ {w : Cond}, w ∈ pm_tbl → w.before args s = true := fun hw => hts _ (List.mem_cons_of_mem _ hw)
  refine va_newa (atype := .long) (ty := .long) (N' := n) (a0 := (n, .inr (.inl (fun _ => 0)))) hx hb (tw pm_arr_long) rfl hK hD.2.2.1 hD.2.2.2.1 hD.2.2.2.2.1 hA (fun cA => rfl) (fun q => by have := lt_toInt.mp q; rw [nI_toInt (by omega)] at this; have h3 : (0 : Int32).toInt = 0 := rfl; omega) (nI_clamp (by omega)) (by show n * 8 ≤ _; omega) hm.1 hm.2 (pm_dc he) (fun q cA H1 hK1 hP1 hD1 hS1 => ?_)
  have ec : cA = cx.2.2.2 2 := by
    have r1 : s.vm.findClass _ = some cA := (hK1.2 4 (cA, .long) rfl).2
    have r2 : s.vm.findClass _ = some (cx.2.2.2 2) := (hK.2 2 (cx.2.2.2 2, .long) rfl).2
    exact Option.some.inj (r1.symm.trans r2)
  subst ec
  have ew : (Sum.inl (cx.2.2.2 2, n, Sum.inr (Sum.inl (fun _ => (0 : Int64)))) : va_E) = pm_wc cx.2.2.2 (pm_an al sg.length q) (pm_z mu sg.length) (pm_zq nu sg.length) sg.length (3, n, []) := by
    show _ = Sum.inl (_, n, Sum.inr (Sum.inl (pm_zq nu sg.length sg.length)))
    rw [pm_zq_eq]
  rw [ew] at hP1 hD1
  have := kk p e s m args below meth c A al0 (pm_an al sg.length q) H1 locs ls hS (pm_D.new hD hw hsw hP1 hD1 hS1)
  rw [pm_stk_new hw] at this
  exact this
/-- an array of n nulls -/
theorem pm_naa (hok : pm_ok fx.1 = true) {idx u n k : Nat} (h : pm_ent fx.1.2.2.2.2 pc = some ((.anewarray idx, 3, .inl (1, u)), nx)) (hk : sg.length = k) (hw : pm_wf sg L S = true) (hsw : pm_sw sg = true) (hn : n < 100000) (hm : cells + 1 ≤ fx.2.2.1 ∧ slots + n ≤ fx.2.2.2.1) (kk : pm_G cx fx (cells + 1) (slots + n) nx L (.ref k :: S) (sg ++ [(4, n, List.replicate n (some none))]) (pm_z mu k) (pm_zq nu k)) : pm_G cx fx cells slots pc L (.int (nI n) :: S) sg mu nu := by
  obtain ⟨he, rfl⟩ := pm_ent_ok hok h
  have hcl : Cond.classLink fx.1.1.cls idx RX2 ∈ pm_tbl := of_decide_eq_true (Bool.and_eq_true_iff.mp he).2
  subst hk
  intro p e s m args below meth c A al0 al H locs ls hS hD
  obtain ⟨hx, hb, hr, hml, hown, hts, hlk, hnam, hA, hK, hN⟩ := id hS
  have tw : ∀ {w : Cond}, w ∈ pm_tbl → w.before args s = true := fun hw => hts _ (List.mem_cons_of_mem _ hw)
  refine va_newq (C := RX2) (N' := n) hx hb hown (tw hcl) hN.2 hK hD.2.2.1 hD.2.2.2.1 hD.2.2.2.2.1 hA (fun q => by have := lt_toInt.mp q; rw [nI_toInt (by omega)] at this; have h3 : (0 : Int32).toInt = 0 := rfl; omega) (nI_clamp (by omega)) (by omega) hm.1 hm.2 (pm_dc he) (fun q cA H1 hK1 hP1 hD1 hS1 => ?_)
  have ec : cA = cx.2.2.2 3 := by
    obtain ⟨kA, co, r1, r2, r3, r4⟩ : va_RA s cA (.object RX2) := (hK1.2 4 (cA, .object RX2) rfl).2
    obtain ⟨kA', co', q1, q2, q3, q4⟩ : va_RA s (cx.2.2.2 3) (.object RX2) := (hK.2 3 (cx.2.2.2 3, .object RX2) rfl).2
    exact Option.some.inj (r4.symm.trans q4)
  subst ec
  have ew : (Sum.inl (cx.2.2.2 3, n, Sum.inr (Sum.inr (Sum.inr (Sum.inr (fun _ => none))))) : va_E) = pm_wc cx.2.2.2 (pm_an al sg.length q) (pm_z mu sg.length) (pm_zq nu sg.length) sg.length (4, n, List.replicate n (some none)) := by
    show _ = Sum.inl (_, n, Sum.inr (Sum.inr (Sum.inr (Sum.inr (pm_rf (pm_an al sg.length q) (List.replicate n (some none)))))))
    congr 7
    funext j
    unfold pm_rf
    cases hj : (List.replicate n (some none : Option (Option Nat)))[j]? with
    | none => rfl
    | some o =>
      have := List.mem_of_getElem? hj
      rw [List.mem_replicate] at this
      rw [this.2]
  rw [ew] at hP1 hD1
  have := kk p e s m args below meth c A al0 (pm_an al sg.length q) H1 locs ls hS (pm_D.new hD hw hsw hP1 hD1 hS1)
  rw [pm_stk_new hw] at this
  exact this
/-- a new object's fields -/
def pm_dfl (ci : Nat) : List (Option (Option Nat)) := match ci with
  | 0 => [none, none, none, some none, some none]
  | 1 => [none, none, none, none, none, none, some none, some none, some none, some none, some none]
  | 2 => [some none, some none]
  | 3 => [none, some none]
  | 4 => [none, none, none, some none, some none]
  | 5 => [some none, some none, some none, some none, some none, some none]
  | 6 => [none, some none, some none, none, none, none, none, some none, none, none, some none, none, none, some none, none, none, none, some none, none, some none, some none, some none, some none, none, none, some none, some none, some none, some none, some none, some none, some none, some none, some none, some none]
  | _ => []
def pm_dfv (o : Option (Option Nat)) : Value := match o with
  | none => .int 0
  | _ => .null
def pm_dfr (ci : Nat) : Bool := (pm_dfl ci).all (fun o => match o with | some (some _) => false | _ => true)
theorem pm_dfr_ok : ∀ ci, ci < 7 → pm_dfr ci = true := by decide
theorem pm_fl_dfl (al : Nat → Nat) : ∀ (fs : List (Option (Option Nat))) (j : Nat), fs.all (fun o => match o with | some (some _) => false | _ => true) = true → pm_fl al (fun _ => 0) j fs = fs.map pm_dfv := by
  intro fs
  induction fs with
  | nil => intro j h; rfl
  | cons o r ih =>
    intro j h
    simp only [List.all_cons, Bool.and_eq_true] at h
    show pm_fv al (fun _ => 0) j o :: pm_fl al (fun _ => 0) (j + 1) r = pm_dfv o :: r.map pm_dfv
    rw [ih (j + 1) h.2]
    congr 1
    match o, h.1 with
    | none, _ => rfl
    | some none, _ => rfl
    | some (some q), h1 => cases h1
theorem pm_dfl_ok {ci : Nat} {q : vw_C} (h : vwCl[ci]? = some q) : ci < 7 ∧ q.2.2 = (pm_dfl ci).length ∧ ∃ ty0 : Nat → FieldType, (∀ k, k < q.2.2 → parseFieldDescriptor (q.2.1 k).2.2.1 = some (ty0 k)) ∧ ∀ j, j < q.2.2 → defaultValue (ty0 j) = vp_V ((pm_dfl ci).map pm_dfv) j := by
  match ci, h with
  | 0, h => cases h; exact ⟨by omega, rfl, tyX1, tyX1_ok, by decide +kernel⟩
  | 1, h => cases h; exact ⟨by omega, rfl, tyX2, tyX2_ok, by decide +kernel⟩
  | 2, h => cases h; exact ⟨by omega, rfl, tyX4, tyX4_ok, by decide +kernel⟩
  | 3, h => cases h; exact ⟨by omega, rfl, tyX7, tyX7_ok, by decide +kernel⟩
  | 4, h => cases h; exact ⟨by omega, rfl, tyX9, tyX9_ok, by decide +kernel⟩
  | 5, h => cases h; exact ⟨by omega, rfl, tyX10, tyX10_ok, by decide +kernel⟩
  | 6, h => cases h; exact ⟨by omega, rfl, tyX11, tyX11_ok, by decide +kernel⟩
  | k + 7, h => simp [vwCl] at h
theorem pm_newok {own : String} {k ci : Nat} (h : pm_nok own k ci = true) : ∃ q : vw_C, vwCl[ci]? = some q ∧ Cond.classLink own k q.1 ∈ pm_tbl ∧ Cond.instantiable q.1 q.2.2 ∈ pm_tbl ∧ Cond.initialized q.1 ∈ pm_tbl := by
  unfold pm_nok at h
  split at h
  · rename_i q hq
    simp only [Bool.and_eq_true, decide_eq_true_eq] at h
    exact ⟨q, hq, h.1, h.2.1, h.2.2⟩
  · cases h
theorem pm_new (hok : pm_ok fx.1 = true) {idx ci u N k : Nat} {fs : List (Option (Option Nat))} (h : pm_ent fx.1.2.2.2.2 pc = some ((.new idx, 3, .inl (ci, u)), nx)) (hfs : pm_dfl ci = fs) (hN : fs.length = N) (hk : sg.length = k) (hw : pm_wf sg L S = true) (hsw : pm_sw sg = true) (hm : cells + 1 ≤ fx.2.2.1 ∧ slots + N ≤ fx.2.2.2.1) (kk : pm_G cx fx (cells + 1) (slots + N) nx L (.ref k :: S) (sg ++ [(0, ci, fs)]) (pm_z mu k) (pm_zq nu k)) : pm_G cx fx cells slots pc L S sg mu nu := by
  obtain ⟨he, rfl⟩ := pm_ent_ok hok h
  have hn : pm_nok fx.1.1.cls idx ci = true := (Bool.and_eq_true_iff.mp he).2
  obtain ⟨q0, hq0, w1, w2, w3⟩ := pm_newok hn
  obtain ⟨c7, cN, ty0, hty, hdv⟩ := pm_dfl_ok hq0
  subst hk
  subst hN
  subst hfs
  intro p e s m args below meth c A al0 al H locs ls hS hD
  obtain ⟨hx, hb, hr, hml, hown, hts, hlk, hnam, hA, hK, hN⟩ := id hS
  have tw : ∀ {w : Cond}, w ∈ pm_tbl → w.before args s = true := fun hw => hts _ (List.mem_cons_of_mem _ hw)
  refine va_new (D := (cx.2.1, cx.2.2.1)) (ci := ci) (C := q0.1) (T := q0.2.1) (N := q0.2.2) (fs := (pm_dfl ci).map pm_dfv) hx hb hts (fun w hw => List.mem_cons_of_mem _ ((pm_cls hq0).1 w hw)) ty0 hty hown (tw w1) (tw w2) (tw w3) hK hD.2.2.1 hD.2.2.2.1 hD.2.2.2.2.1 hA hq0 hdv hm.1 (by rw [cN]; exact hm.2) (pm_dc he) (fun q H1 hP1 hD1 hS1 => ?_)
  rw [cN]
  have ew : (Sum.inr (ci, (pm_dfl ci).map pm_dfv) : va_E) = pm_wc cx.2.2.2 (pm_an al sg.length q) (pm_z mu sg.length) (pm_zq nu sg.length) sg.length (0, ci, pm_dfl ci) := by
    show _ = Sum.inr (ci, pm_fl (pm_an al sg.length q) (pm_z mu sg.length sg.length) 0 (pm_dfl ci))
    rw [pm_z_eq, pm_fl_dfl _ _ _ (pm_dfr_ok ci c7)]
  rw [ew] at hP1 hD1
  have := kk p e s m args below meth c A al0 (pm_an al sg.length q) H1 locs ls hS (pm_D.new hD hw hsw hP1 hD1 hS1)
  rw [pm_stk_new hw] at this
  exact this
end

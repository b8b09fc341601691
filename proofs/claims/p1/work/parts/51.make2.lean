/-! ===== final fields, Object.<init>, constructors, arrays of references ===== -/
theorem pm_fl_setr (al : Nat → Nat) (f : Nat → Int32) (q : Nat) (fs : List (Option (Option Nat))) (j0 j : Nat) : (pm_fl al f j0 fs).set j (.ref (al q)) = pm_fl al f j0 (fs.set j (some (some q))) := by
  apply List.ext_getElem?
  intro i
  rw [List.getElem?_set, pm_fl_get, pm_fl_get, pm_fl_len, List.getElem?_set]
  by_cases h : j = i
  · subst h
    rw [if_pos rfl, if_pos rfl]
    by_cases hl : j < fs.length
    · rw [if_pos hl, if_pos hl]
      rfl
    · rw [if_neg hl, if_neg hl]
      rfl
  · rw [if_neg h, if_neg h]
/-- the final fields: all references -/
def pm_isF (ci j : Nat) : Bool := match ci with
  | 0 => Nat.beq j 3 || Nat.beq j 4
  | 1 => Nat.blt 5 j && Nat.blt j 11
  | 2 => Nat.blt j 2
  | 3 => Nat.beq j 1
  | 4 => Nat.beq j 3 || Nat.beq j 4
  | 5 => Nat.blt j 6
  | 6 => [1, 2, 7, 10, 13, 17, 19, 20, 21, 22, 25, 26, 27, 28, 29, 30, 31, 32, 33, 34].any (Nat.beq j)
  | _ => false
def pm_refty (t : FieldType) : Bool := match t with
  | .object _ => true
  | .array _ => true
  | _ => false
theorem pm_refty_ok {t : FieldType} (h : pm_refty t = true) (a : Nat) : narrow t (.ref a) = .ref a ∧ fits t (.ref a) = true := by
  cases t <;> first | exact ⟨rfl, rfl⟩ | cases h
def pm_fin (q : vw_C) (j : Nat) : Prop := (q.2.1 j).2.2.2 = true ∧ (q.2.1 j).1 = q.1 ∧ (parseFieldDescriptor (q.2.1 j).2.2.1).any pm_refty = true
theorem pm_fin0 : ∀ j, j < 5 → pm_isF 0 j = true → (TX1 j).2.2.2 = true ∧ (TX1 j).1 = RX1 ∧ (parseFieldDescriptor (TX1 j).2.2.1).any pm_refty = true := by decide +kernel
theorem pm_fin1 : ∀ j, j < 11 → pm_isF 1 j = true → (TX2 j).2.2.2 = true ∧ (TX2 j).1 = RX2 ∧ (parseFieldDescriptor (TX2 j).2.2.1).any pm_refty = true := by decide +kernel
theorem pm_fin2 : ∀ j, j < 2 → pm_isF 2 j = true → (TX4 j).2.2.2 = true ∧ (TX4 j).1 = RX4 ∧ (parseFieldDescriptor (TX4 j).2.2.1).any pm_refty = true := by decide +kernel
theorem pm_fin3 : ∀ j, j < 2 → pm_isF 3 j = true → (TX7 j).2.2.2 = true ∧ (TX7 j).1 = RX7 ∧ (parseFieldDescriptor (TX7 j).2.2.1).any pm_refty = true := by decide +kernel
theorem pm_fin4 : ∀ j, j < 5 → pm_isF 4 j = true → (TX9 j).2.2.2 = true ∧ (TX9 j).1 = RX9 ∧ (parseFieldDescriptor (TX9 j).2.2.1).any pm_refty = true := by decide +kernel
theorem pm_fin5 : ∀ j, j < 6 → pm_isF 5 j = true → (TX10 j).2.2.2 = true ∧ (TX10 j).1 = RX10 ∧ (parseFieldDescriptor (TX10 j).2.2.1).any pm_refty = true := by decide +kernel
theorem pm_fin6 : ∀ j, j < 35 → pm_isF 6 j = true → (TX11 j).2.2.2 = true ∧ (TX11 j).1 = RX11 ∧ (parseFieldDescriptor (TX11 j).2.2.1).any pm_refty = true := by decide +kernel
theorem pm_isF_ok {ci j : Nat} {q : vw_C} (hq : vwCl[ci]? = some q) (hj : j < q.2.2) (h : pm_isF ci j = true) : (q.2.1 j).2.2.2 = true ∧ (q.2.1 j).1 = q.1 ∧ ∃ t, parseFieldDescriptor (q.2.1 j).2.2.1 = some t ∧ pm_refty t = true := by
  have key : (q.2.1 j).2.2.2 = true ∧ (q.2.1 j).1 = q.1 ∧ (parseFieldDescriptor (q.2.1 j).2.2.1).any pm_refty = true := by
    match ci, hq with
    | 0, hq => cases hq; exact pm_fin0 j hj h
    | 1, hq => cases hq; exact pm_fin1 j hj h
    | 2, hq => cases hq; exact pm_fin2 j hj h
    | 3, hq => cases hq; exact pm_fin3 j hj h
    | 4, hq => cases hq; exact pm_fin4 j hj h
    | 5, hq => cases hq; exact pm_fin5 j hj h
    | 6, hq => cases hq; exact pm_fin6 j hj h
    | k + 7, hq => simp [vwCl] at hq
  obtain ⟨k1, k2, k3⟩ := key
  refine ⟨k1, k2, ?_⟩
  cases hp : parseFieldDescriptor (q.2.1 j).2.2.1 with
  | none => rw [hp] at k3; cases k3
  | some t => rw [hp] at k3; exact ⟨t, rfl, k3⟩
theorem pm_nest_no : ∀ q ∈ pm_nest, q.2.2 ≠ Lib.objectInit := by decide +kernel
theorem pm_obj_in : Cond.code Lib.objectInit ⟨#[0xb1]⟩ 1 none ∈ pm_tbl := by decide +kernel
section
variable {cx : pm_CX} {fx : pm_FX} {cells slots pc nx : Nat} {L : pm_L} {S : List Value} {sg : List pm_C} {mu : pm_I} {nu : pm_J}
theorem pm_pfa (hok : pm_ok fx.1 = true) {idx ci j k q : Nat} {fs : List (Option (Option Nat))} (h : pm_ent fx.1.2.2.2.2 pc = some ((.putfield idx, 3, .inl (ci, j)), nx)) (hF : pm_isF ci j = true) (hni : fx.1.1.name = "<init>") (hcl : (vwCl[ci]?).map (fun q => q.1) = some fx.1.1.cls) (hsg : sg[k]? = some (0, ci, fs)) (hl : j < fs.length) (kk : pm_G cx fx cells slots nx L S (sg.set k (0, ci, fs.set j (some (some q)))) mu nu) : pm_G cx fx cells slots pc L (.ref q :: .ref k :: S) sg mu nu := by
  obtain ⟨he, rfl⟩ := pm_ent_ok hok h
  obtain ⟨q2, hq, hj, hlk⟩ := pm_fieldsP he
  obtain ⟨hfin, hdecl, t, hdesc, hrt⟩ := pm_isF_ok hq hj hF
  rw [hq] at hcl
  have hcl : q2.1 = fx.1.1.cls := Option.some.inj hcl
  obtain ⟨hin, ty0, hty, hnm⟩ := pm_cls hq
  intro p e s m args below meth c A al0 al H locs ls hS hD
  refine va_putF (D := (cx.2.1, cx.2.2.1)) (ci := ci) (v := .ref (al q)) (ty := t) (own := fx.1.1.cls) (C := q2.1) (T := q2.2.1) (N := q2.2.2) hS.1 hS.2.1 hS.2.2.2.2.2.1 (fun w hw => List.mem_cons_of_mem _ (hin w hw)) ty0 hty hnm hS.2.2.2.2.1 hS.2.2.2.2.2.2.2.2.2.1 hD.2.2.1 hD.2.2.2.1 hD.2.2.2.2.1 k (pm_W_at hsg) hq j hj (hS.2.2.2.2.2.1 _ (List.mem_cons_of_mem _ hlk)) (fun _ h9 => h9) hfin (by rw [hS.2.2.2.2.2.2.2.1]; exact hni) (by rw [hdecl, hcl]) hdesc (pm_refty_ok hrt _).1 (pm_refty_ok hrt _).2 (by rw [pm_fl_len]; exact hl) (pm_dc he) (fun H1 locs1 hP1 hD1 hS1 => ?_)
  have hlt : k < sg.length := (List.getElem?_eq_some_iff.mp hsg).1
  have e1 : (pm_W cx.2.2.2 al mu nu 0 sg).set k (al k, .inr (ci, (pm_fl al (mu k) 0 fs).set j (.ref (al q)))) = pm_W cx.2.2.2 al mu nu 0 (sg.set k (0, ci, fs.set j (some (some q)))) := by
    refine pm_W_set (by rw [List.length_set]) (fun a c ha hc => ⟨by rw [List.getElem?_set_ne (fun q => ha q.symm)]; exact hc, rfl, rfl⟩) (fun c hc => ?_)
    rw [List.getElem?_set_self hlt] at hc
    cases hc
    show Sum.inr _ = _
    rw [pm_fl_setr]
  rw [e1] at hP1 hD1
  exact kk p e s m args below meth c A al0 al H1 locs1 ls hS ⟨hD.1, by rw [List.length_set]; exact hD.2.1, hP1, hD1, hS1, hD.2.2.2.2.2⟩
/-- the call of Object's constructor -/
theorem pm_oi (hok : pm_ok fx.1 = true) {idx a : Nat} (h : pm_ent fx.1.2.2.2.2 pc = some ((.invokespecial idx, 3, .inr (.inr (.inr Lib.objectInit))), nx)) (hd : 1 ≤ fx.2.1) (hc : (S.map fun v => v.category).sum ≤ 8) (kk : pm_G cx fx cells slots nx L S sg mu nu) : pm_G cx fx cells slots pc L (.ref a :: S) sg mu nu := by
  obtain ⟨he, rfl⟩ := pm_ent_ok hok h
  have hw2 := (Bool.and_eq_true_iff.mp he).2
  replace hw2 : ((decide (Cond.methodLink fx.1.1.cls idx Lib.objectInit ∈ pm_tbl) || decide ((fx.1.1.cls, idx, Lib.objectInit) ∈ pm_nest)) && (decide (Cond.instanceMethod Lib.objectInit ∈ pm_tbl) && decide (Lib.objectInit = Lib.objectInit ∨ Cond.initialized Lib.objectInit.cls ∈ pm_tbl))) = true := hw2
  simp only [Bool.and_eq_true, Bool.or_eq_true, decide_eq_true_eq] at hw2
  obtain ⟨w1, w2, -⟩ := hw2
  have w1 : Cond.methodLink fx.1.1.cls idx Lib.objectInit ∈ pm_tbl := by
    rcases w1 with w | w
    · exact w
    · exact absurd rfl (pm_nest_no _ w)
  refine pm_G.stk (fun p e s m args below meth c A al0 al H locs ls Q hS hD kk => ?_) kk
  obtain ⟨hx, hb, hr, hml, hown, hts, hlk, hnam, hA, hK, hN⟩ := id hS
  have tw : ∀ {w : Cond}, w ∈ pm_tbl → w.before args s = true := fun hw => hts _ (List.mem_cons_of_mem _ hw)
  refine W.objInit (a := al a) (rest := S.map (pm_at al)) hx hb hown (tw w1) (tw w2) (tw pm_obj_in) rfl (by rw [hml]; exact hD.2.2.2.2.2.1) rfl (pm_dc he) hd ?_ kk
  have := pm_cats (al := al) hc
  show 2 * 0 + _ + 12 ≤ fx.2.1 * 64
  omega
/-- the call of a nest mate's private constructor -/
theorem pm_cin (hok : pm_ok fx.1 = true) {mj : pm_M} (hokj : pm_ok mj = true) {k d' mc' ms' kb : Nat} {as rest : List Value} {Q' : pm_Po}
    (h : pm_ent fx.1.2.2.2.2 pc = some ((.invokespecial k, 3, .inr (.inr (.inr mj.1))), nx)) (hne : (fx.1.1.cls, k, mj.1) ∈ pm_nest ∧ mj.1.name = "<init>" ∧ mj.2.2.2.1 = none ∧ mj.1 ≠ Lib.objectInit) (ha : (parseMethodDescriptor mj.1.desc).map (fun d => d.parameters.length) = some as.length)
    (hT : pm_T cx mj d' mc' ms' (.ref kb :: as) sg mu nu Q') (hS0 : S = as.reverse ++ .ref kb :: rest) (hd : d' + 1 ≤ fx.2.1) (hw : pm_wf sg L rest = true) (hc : (rest.map fun v => v.category).sum ≤ 8) (hm : cells + mc' ≤ fx.2.2.1 ∧ slots + ms' ≤ fx.2.2.2.1)
    (kk : ∀ r sg' mu' nu', Q' r sg' mu' nu' → sg.length ≤ sg'.length → pm_G cx fx (cells + mc') (slots + ms') nx L (r.toList ++ rest) sg' mu' nu') : pm_G cx fx cells slots pc L S sg mu nu := by
  subst hS0
  obtain ⟨he, rfl⟩ := pm_ent_ok hok h
  obtain ⟨-, hnm, hcd, hml45, -⟩ := pm_ok_parts hokj
  obtain ⟨n1, n2, n3, n4⟩ := hne
  have hw2 := (Bool.and_eq_true_iff.mp he).2
  replace hw2 : ((decide (Cond.methodLink fx.1.1.cls k mj.1 ∈ pm_tbl) || decide ((fx.1.1.cls, k, mj.1) ∈ pm_nest)) && (decide (Cond.instanceMethod mj.1 ∈ pm_tbl) && decide (mj.1 = Lib.objectInit ∨ Cond.initialized mj.1.cls ∈ pm_tbl))) = true := hw2
  simp only [Bool.and_eq_true, Bool.or_eq_true, decide_eq_true_eq] at hw2
  obtain ⟨-, w2, w3⟩ := hw2
  have w3 := w3.resolve_left n4
  intro p e s m args below meth c A al0 al H locs ls hS hD
  obtain ⟨hx, hb, hr, hml, hown, hts, hlk, hnam, hA, hK, hN⟩ := id hS
  have tw : ∀ {w : Cond}, w ∈ pm_tbl → w.before args s = true := fun hw => hts _ (List.mem_cons_of_mem _ hw)
  have hT2 := hT al H.size
  refine pm_after hS hD hw (va_runIN (As := as.map (pm_at al)) (rest := rest.map (pm_at al)) (b := al kb) (Ts := pm_ws fx.1) (host := "LastWatered") ⟨hx, hb, hml, hown, hts⟩ hT2 ⟨va_cnB (bytes := mj.2.1) (maxL := mj.2.2.1) (ret := none) (ws' := pm_tbl) as.length hts (pm_goodIn hcd) (by show pm_ws mj = _; rw [← n3]) rfl rfl (hN.1 _ n1) (tw w3) ⟨hnm.1, hnm.2, ha⟩ ⟨hd, ?_⟩, n2, tw w2⟩ ⟨pm_blind, fun U hU hW => ⟨rfl, by rw [hU], by rw [hU]; exact hD.2.2.1, va_K.moved hW.alike hK, hD.2.2.2.1.weaken (fun _ _ _ _ => trivial), pm_NN.warm hW hN⟩⟩ rfl (by simp) hD.2.2.2.2.2.1 (by rw [List.map_append, List.map_reverse]; rfl) (lv_room (pm_cats hc)) (pm_dc he) hm) kk
  show 8 + (mj.2.2.1 + 11) + d' * 64 ≤ fx.2.1 * 64
  omega
/-- a reference out of an array, into one -/
theorem pm_aal (hok : pm_ok fx.1 = true) {x : pm_X} {i : Int32} {k n : Nat} {rs : List (Option (Option Nat))} {o : Option Nat} (h : pm_ent fx.1.2.2.2.2 pc = some ((.aaload, 1, x), nx)) (hs : sg[k]? = some (4, n, rs)) (hin : vp_in i n) (ho : rs[i.toNatClampNeg]? = some (some o)) (kk : pm_G cx fx cells slots nx L (pm_ov (some o) 0 :: S) sg mu nu) : pm_G cx fx cells slots pc L (.int i :: .ref k :: S) sg mu nu := by
  obtain ⟨he, rfl⟩ := pm_ent_ok hok h
  refine pm_G.stk (fun p e s m args below meth c A al0 al H locs ls Q hS hD kk => va_aldq hS.1 hS.2.1 hS.2.2.2.2.2.2.2.2.2.1 hD.2.2.1 k 3 (pm_W_at hs) rfl hin (pm_dc he) ?_) kk
  have e1 : va_rf (pm_rf al rs i.toNatClampNeg) = pm_at al (pm_ov (some o) 0) := by
    unfold pm_rf
    rw [ho]
    cases o <;> rfl
  rw [e1]
  exact kk
theorem pm_aas (hok : pm_ok fx.1 = true) {x : pm_X} {i : Int32} {k n q : Nat} {rs fs : List (Option (Option Nat))} (h : pm_ent fx.1.2.2.2.2 pc = some ((.aastore, 1, x), nx)) (hs : sg[k]? = some (4, n, rs)) (hq : sg[q]? = some (0, 1, fs)) (hin : vp_in i n) (hl : i.toNatClampNeg < rs.length) (kk : pm_G cx fx cells slots nx L S (sg.set k (4, n, rs.set i.toNatClampNeg (some (some q)))) mu nu) : pm_G cx fx cells slots pc L (.ref q :: .int i :: .ref k :: S) sg mu nu := by
  obtain ⟨he, rfl⟩ := pm_ent_ok hok h
  intro p e s m args below meth c A al0 al H locs ls hS hD
  refine va_astq hS.1 hS.2.1 hS.2.2.2.2.2.2.2.2.2.1 hD.2.2.1 hD.2.2.2.1 hD.2.2.2.2.1 k 3 q 1 (r := (RX2, TX2, 11)) (pm_W_at hs) rfl (pm_W_at hq) rfl hin (pm_dc he) (fun H1 locs1 hP1 hD1 hS1 => ?_)
  have hlt : k < sg.length := (List.getElem?_eq_some_iff.mp hs).1
  have e1 : (pm_W cx.2.2.2 al mu nu 0 sg).set k (al k, .inl (cx.2.2.2 3, n, .inr (.inr (.inr (.inr (va_up (pm_rf al rs) i.toNatClampNeg (some (al q)))))))) = pm_W cx.2.2.2 al mu nu 0 (sg.set k (4, n, rs.set i.toNatClampNeg (some (some q)))) := by
    refine pm_W_set (by rw [List.length_set]) (fun a c ha hc => ⟨by rw [List.getElem?_set_ne (fun q => ha q.symm)]; exact hc, rfl, rfl⟩) (fun c hc => ?_)
    rw [List.getElem?_set_self hlt] at hc
    cases hc
    show Sum.inl (_, n, Sum.inr (Sum.inr (Sum.inr (Sum.inr (pm_rf al (rs.set i.toNatClampNeg (some (some q)))))))) = _
    congr 7
    funext j
    by_cases hj : j = i.toNatClampNeg
    · subst hj
      rw [va_up_at]
      unfold pm_rf
      rw [List.getElem?_set_self hl]
    · rw [va_up_of hj]
      unfold pm_rf
      rw [List.getElem?_set_ne (fun q => hj q.symm)]
  rw [e1] at hP1 hD1
  exact kk p e s m args below meth c A al0 al H1 locs1 ls hS ⟨hD.1, by rw [List.length_set]; exact hD.2.1, hP1, hD1, hS1, hD.2.2.2.2.2⟩
end

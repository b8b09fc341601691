/-! ===== calls out of the law ===== -/
/-- what stands through the law: its entry, the classes, the nest's words -/
def lw_C (cx : pm_CX) (p : Program) (s : State) (m : MethodId) (meth : Method) (c : Code) (b L : Nat) (xs : Nat → Int32) : Prop := lw_At p s m meth c b L xs ∧ va_K (cx.2.1, cx.2.2.1) vwCl (pm_ty cx.2.2.2) s ∧ pm_NN s
abbrev lw_A (s : State) : Nat → Prop := fun q => s.heap.size ≤ q
/-- the cells, and that nothing older was written -/
def lw_D (cx : pm_CX) (s : State) (al : Nat → Nat) (H : Heap) (locs : List Loc) (sg : List pm_C) (mu : pm_I) (nu : pm_J) : Prop := va_P (cx.2.1, cx.2.2.1) vwCl (pm_W cx.2.2.2 al mu nu 0 sg) H ∧ va_D (lw_A s) (pm_W cx.2.2.2 al mu nu 0 sg) ∧ va_S (lw_A s) s.heap H locs
theorem lw_good {mj : pm_M} (h : Cond.code mj.1 mj.2.1 mj.2.2.1 mj.2.2.2.1 ∈ pm_tbl) : GoodIn lw_tbl (pm_ws mj) := by
  intro w hw
  have hm : w ∈ pm_tbl := by
    rcases List.mem_cons.mp hw with q | q
    · rw [q]; exact h
    · exact q
  exact ⟨(List.mem_filter.mp hm).1, good_of_word (List.all_eq_true.mp pm_good_all w hm)⟩
def lw_vok (k : Nat) (y : MethodName) : Bool := decide (Cond.methodLink R_law k y ∈ lw_tbl) && (decide (Cond.instanceMethod y ∈ lw_tbl) && (decide (Cond.selects y.cls y y ∈ lw_tbl) && decide (Cond.initialized y.cls ∈ lw_tbl)))
def lw_iok (k : Nat) (y : MethodName) : Bool := decide (Cond.methodLink R_law k y ∈ lw_tbl) && (decide (Cond.instanceMethod y ∈ lw_tbl) && (decide (y.name = "<init>") && decide (Cond.initialized y.cls ∈ lw_tbl)))
section
variable {cx : pm_CX} {p : Program} {e : Env} {s : State} {m : MethodId} {below : List Frame} {meth : Method} {c : Code} {b L : Nat} {xs : Nat → Int32} {al : Nat → Nat} {H : Heap} {locs : List Loc} {sg : List pm_C} {mu : pm_I} {nu : pm_J} {cells slots pc : Nat} {ls : Array Slot}
theorem lw_after {st0 rest : List Value} {mc' ms' : Nat} {a : Array Value} {Q' : pm_Po}
    (hC : lw_C cx p s m meth c b L xs) (hD : lw_D cx s al H locs sg mu nu)
    (hr : va_Run p cx.1 e room_1 s m #[Value.ref b] below meth c H locs cells slots mc' ms' (F0 m pc ls st0) rest (pm_Q cx sg.length Q' (va_A (pm_W cx.2.2.2 al mu nu 0 sg) H.size) al a) (va_A (pm_W cx.2.2.2 al mu nu 0 sg) H.size))
    (kk : ∀ r sg' mu' nu' al' H' locs', Q' r sg' mu' nu' → (∀ k, k < sg.length → al' k = al k) → sg.length ≤ sg'.length → lw_D cx s al' H' locs' sg' mu' nu' → W p cx.1 e room_1 s m #[Value.ref b] below meth c H' locs' (cells + mc') (slots + ms') (lw_Z below #[Value.ref b] s) (F0 m (pc + 3) ls ((r.map (pm_at al')).toList ++ rest))) :
    W p cx.1 e room_1 s m #[Value.ref b] below meth c H locs cells slots (lw_Z below #[Value.ref b] s) (F0 m pc ls st0) := by
  intro T hT X
  obtain ⟨v, st₀, t, T', Lc, h0, X', hL, e1, e2, ⟨⟨r, sg', mu', nu', al', hQ, hal, hn, hv, hP', hD'⟩, hz, hk⟩, st⟩ := hr T hT X
  obtain ⟨hP, hDD, hSS⟩ := hD
  have hv' : v = r.map (pm_at al') := by injection hv
  subst hv'
  rw [h0] at hz hk
  have hfree : ∀ q, va_A (pm_W cx.2.2.2 al mu nu 0 sg) H.size q → lw_A s q := by
    intro q hq
    rcases hq with ⟨j, x, hj⟩ | hq
    · exact hDD.2 j _ hj
    · exact Nat.le_trans hSS.1 hq
  have hSS' : va_S (lw_A s) s.heap T'.heap (locs ++ Lc) := ⟨Nat.le_trans hSS.1 (by rw [e1]; exact hz), fun q g1 g2 => by rw [e1, hk q (Nat.lt_of_lt_of_le g1 hSS.1) (fun z => g2 (hfree q z))]; exact hSS.2.1 q g1 g2, fun q hq => by
      rcases List.mem_append.mp hq with h | h
      · exact hSS.2.2 q h
      · exact hfree _ (hL q h)⟩
  obtain ⟨t2, a1, b1⟩ := kk r sg' mu' nu' al' T'.heap (locs ++ Lc) hQ hal hn ⟨by rw [e1]; exact hP', hD'.weaken (fun _ q _ hq => hfree q.1 hq), hSS'⟩ T' rfl X'
  exact ⟨t2, st t2 a1, b1⟩
theorem lw_cv {mj : pm_M} (hokj : pm_ok mj = true) {k d' mc' ms' kb ci : Nat} {fs : List (Option (Option Nat))} {as st rest : List Value} {Q' : pm_Po}
    (hC : lw_C cx p s m meth c b L xs) (hD : lw_D cx s al H locs sg mu nu) (hls : ls.size = 4)
    (hdg : decode code pc = .ok (.invokevirtual k, 3)) (hw : lw_vok k mj.1 = true) (ha : (parseMethodDescriptor mj.1.desc).map (fun d => d.parameters.length) = some as.length)
    (hT : pm_T cx mj d' mc' ms' (.ref kb :: as) sg mu nu Q') (hb0 : sg[kb]? = some (0, ci, fs)) (hcl : (vwCl[ci]?).map (fun q => q.1) = some mj.1.cls) (hS0 : st = (as.map (pm_at al)).reverse ++ .ref (al kb) :: rest) (hd : d' ≤ 1000) (hc : (rest.map fun v => v.category).sum ≤ 8) (hm : cells + mc' ≤ 600000 ∧ slots + ms' ≤ 7302250)
    (kk : ∀ r sg' mu' nu' al' H' locs', Q' r sg' mu' nu' → (∀ k, k < sg.length → al' k = al k) → sg.length ≤ sg'.length → lw_D cx s al' H' locs' sg' mu' nu' → W p cx.1 e room_1 s m #[Value.ref b] below meth c H' locs' (cells + mc') (slots + ms') (lw_Z below #[Value.ref b] s) (F0 m (pc + 3) ls ((r.map (pm_at al')).toList ++ rest))) :
    W p cx.1 e room_1 s m #[Value.ref b] below meth c H locs cells slots (lw_Z below #[Value.ref b] s) (F0 m pc ls st) := by
  subst hS0
  obtain ⟨-, hnm, hcd, hml45, -⟩ := pm_ok_parts hokj
  unfold lw_vok at hw
  simp only [Bool.and_eq_true, decide_eq_true_eq] at hw
  obtain ⟨w1, w2, w3, w4⟩ := hw
  obtain ⟨⟨hx, hb, hr, hml, hown, hts, hX, hbl, hlocks, hgv⟩, hK, hN⟩ := id hC
  cases hci : vwCl[ci]? with
  | none => rw [hci] at hcl; cases hcl
  | some q =>
    rw [hci] at hcl
    have hcl : q.1 = mj.1.cls := Option.some.inj hcl
    have hrec := va_recv hK hD.1 hci (pm_W_at (dT := cx.2.2.2) (al := al) (mu := mu) (nu := nu) hb0)
    rw [hcl] at hrec
    refine lw_after hC hD (va_runV (As := as.map (pm_at al)) (rest := rest) (b := al kb) (C := mj.1.cls) (Ts := lw_tbl) ⟨hx, hb, hml, hown, hts⟩ (hT al H.size) ⟨callB_of (bytes := mj.2.1) (maxL := mj.2.2.1) (ret := mj.2.2.2.1) as.length hts (lw_good hcd) rfl rfl rfl (hts _ w4) (hts _ w1) ⟨hnm.1, hnm.2, ha⟩ ⟨?_, ?_⟩, hts _ w2, hts _ w3⟩ ⟨pm_blind, hrec, fun U hU hW => ⟨rfl, by rw [hU], by rw [hU]; exact hD.1, va_K.moved hW.alike hK, hD.2.1.weaken (fun _ _ _ _ => trivial), pm_NN.warm hW hN⟩⟩ rfl (by simp) hls rfl (lv_room hc) hdg hm) kk
    · show d' + 1 ≤ 2048
      omega
    · show 8 + (mj.2.2.1 + 11) + d' * 64 ≤ 84000
      omega
theorem lw_ci {mj : pm_M} (hokj : pm_ok mj = true) {k d' mc' ms' kb : Nat} {as st rest : List Value} {Q' : pm_Po}
    (hC : lw_C cx p s m meth c b L xs) (hD : lw_D cx s al H locs sg mu nu) (hls : ls.size = 4)
    (hdg : decode code pc = .ok (.invokespecial k, 3)) (hw : lw_iok k mj.1 = true) (hret : mj.2.2.2.1 = none) (ha : (parseMethodDescriptor mj.1.desc).map (fun d => d.parameters.length) = some as.length)
    (hT : pm_T cx mj d' mc' ms' (.ref kb :: as) sg mu nu Q') (hS0 : st = (as.map (pm_at al)).reverse ++ .ref (al kb) :: rest) (hd : d' ≤ 1000) (hc : (rest.map fun v => v.category).sum ≤ 8) (hm : cells + mc' ≤ 600000 ∧ slots + ms' ≤ 7302250)
    (kk : ∀ r sg' mu' nu' al' H' locs', Q' r sg' mu' nu' → (∀ k, k < sg.length → al' k = al k) → sg.length ≤ sg'.length → lw_D cx s al' H' locs' sg' mu' nu' → W p cx.1 e room_1 s m #[Value.ref b] below meth c H' locs' (cells + mc') (slots + ms') (lw_Z below #[Value.ref b] s) (F0 m (pc + 3) ls ((r.map (pm_at al')).toList ++ rest))) :
    W p cx.1 e room_1 s m #[Value.ref b] below meth c H locs cells slots (lw_Z below #[Value.ref b] s) (F0 m pc ls st) := by
  subst hS0
  obtain ⟨-, hnm, hcd, hml45, -⟩ := pm_ok_parts hokj
  unfold lw_iok at hw
  simp only [Bool.and_eq_true, decide_eq_true_eq] at hw
  obtain ⟨w1, w2, w3, w4⟩ := hw
  obtain ⟨⟨hx, hb, hr, hml, hown, hts, hX, hbl, hlocks, hgv⟩, hK, hN⟩ := id hC
  refine lw_after hC hD (va_runI (As := as.map (pm_at al)) (rest := rest) (b := al kb) (Ts := lw_tbl) ⟨hx, hb, hml, hown, hts⟩ (hT al H.size) ⟨callB_of (bytes := mj.2.1) (maxL := mj.2.2.1) (ret := none) (ws' := pm_tbl) as.length hts (lw_good hcd) (by show pm_ws mj = _; rw [← hret]) rfl rfl (hts _ w4) (hts _ w1) ⟨hnm.1, hnm.2, ha⟩ ⟨?_, ?_⟩, w3, hts _ w2⟩ ⟨pm_blind, fun U hU hW => ⟨rfl, by rw [hU], by rw [hU]; exact hD.1, va_K.moved hW.alike hK, hD.2.1.weaken (fun _ _ _ _ => trivial), pm_NN.warm hW hN⟩⟩ rfl (by simp) hls rfl (lv_room hc) hdg hm) kk
  · show d' + 1 ≤ 2048
    omega
  · show 8 + (mj.2.2.1 + 11) + d' * 64 ≤ 84000
    omega
/-- the law's end -/
theorem law_true (hC : lw_C cx p s m meth c b L xs) (hS : va_S (lw_A s) s.heap H locs) (hc : cells ≤ 600000) (hs : slots ≤ 7302250) : W p cx.1 e room_1 s m #[Value.ref b] below meth c H locs cells slots (lw_Z below #[Value.ref b] s) (F0 m 721 ls []) := by
  obtain ⟨⟨hx, hb, hr, hml, hown, hts, hX, hbl, hlocks, hgv⟩, hK, hN⟩ := id hC
  refine lv_iconst (v := 1) hx hb dL_law_721 (by decide) ?_
  refine va_forget hS.2.2 ?_
  refine W.widen hc hs ?_
  exact lw_ret hx hb hr hlocks dL_law_722
/-- behind the call -/
theorem law_next {r1 r2 : Nat} (hC : lw_C cx p s m meth c b 3 xs) (hS : va_S (lw_A s) s.heap H locs) (hl : lv_has ls 4 [(3, .int 0), (2, .ref r2), (1, .ref r1), (0, .ref b)]) (hc : cells ≤ 600000) (hs : slots ≤ 7302250) : W p cx.1 e room_1 s m #[Value.ref b] below meth c H locs cells slots (lw_Z below #[Value.ref b] s) (F0 m 715 ls []) := by
  obtain ⟨⟨hx, hb, hr, hml, hown, hts, hX, hbl, hlocks, hgv⟩, hK, hN⟩ := id hC
  have hbA : ¬ lw_A s b := Nat.not_le.mpr hbl
  refine lv_iinc (v := 3) (lv' := [(3, .int 3), (2, .ref r2), (1, .ref r1), (0, .ref b)]) hx hb dL_law_715 hl (k := 0) rfl (by decide) (by decide) rfl (fun ls hl => ?_)
  refine lv_goto (tgt := 18) hx hb dL_law_718 (by decide) ?_
  refine lv_iload_n hx hb dL_law_18 rfl (lv_at hl 0 rfl) ?_
  refine lv_aload_n hx hb dL_law_19 rfl (lv_at hl 3 rfl) ?_
  refine va_slen hx hb hX hbl hbA hS dL_law_20 ?_
  refine lv_iconst (v := 3) hx hb dL_law_21 (by decide) ?_
  refine lv_isub hx hb dL_law_22 ?_
  refine lv_icmp_gt (tgt := 721) hx hb dL_law_23 (by decide) (fun q => ?_) (fun q => ?_)
  · exact law_true hC hS hc hs
  · exact absurd (by decide) q
end

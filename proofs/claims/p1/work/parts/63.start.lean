/-! ===== the law from its entry ===== -/
theorem lw_sub {w : Cond} (h : w ∈ pm_tbl) : w ∈ lw_tbl := (List.mem_filter.mp h).1
theorem lw_n5 : pm_nok R_law 7 5 = true := by decide +kernel
theorem lw_n6 : pm_nok R_law 10 6 = true := by decide +kernel
theorem lw_insRX1 : Cond.instantiable RX1 5 ∈ lw_tbl := by decide +kernel
theorem lw_insRX2 : Cond.instantiable RX2 11 ∈ lw_tbl := by decide +kernel
theorem lw_insRX4 : Cond.instantiable RX4 2 ∈ lw_tbl := by decide +kernel
theorem lw_insRX7 : Cond.instantiable RX7 2 ∈ lw_tbl := by decide +kernel
theorem lw_insRX9 : Cond.instantiable RX9 5 ∈ lw_tbl := by decide +kernel
theorem lw_insRX10 : Cond.instantiable RX10 6 ∈ lw_tbl := by decide +kernel
theorem lw_insRX11 : Cond.instantiable RX11 35 ∈ lw_tbl := by decide +kernel
section
variable {cx : pm_CX} {p : Program} {e : Env} {s : State} {m : MethodId} {below : List Frame} {meth : Method} {c : Code} {b L : Nat} {xs : Nat → Int32} {al : Nat → Nat} {H : Heap} {locs : List Loc} {sg : List pm_C} {mu : pm_I} {nu : pm_J} {cells slots pc : Nat} {ls : Array Slot}
theorem lw_new {idx ci N k : Nat} {fs : List (Option (Option Nat))} {rest : List Value} (hC : lw_C cx p s m meth c b L xs) (hD : lw_D cx s al H locs sg mu nu) (hdg : decode code pc = .ok (.new idx, 3)) (hn : pm_nok R_law idx ci = true) (hfs : pm_dfl ci = fs) (hN : fs.length = N) (hk : sg.length = k) (hsw : pm_sw sg = true) (hm : cells + 1 ≤ 600000 ∧ slots + N ≤ 7302250)
    (kk : ∀ al' H', (∀ j, j < k → al' j = al j) → lw_D cx s al' H' locs (sg ++ [(0, ci, fs)]) (pm_z mu k) (pm_zq nu k) → W p cx.1 e room_1 s m #[Value.ref b] below meth c H' locs (cells + 1) (slots + N) (lw_Z below #[Value.ref b] s) (F0 m (pc + 3) ls (.ref (al' k) :: rest))) :
    W p cx.1 e room_1 s m #[Value.ref b] below meth c H locs cells slots (lw_Z below #[Value.ref b] s) (F0 m pc ls rest) := by
  obtain ⟨q0, hq0, w1, w2, w3⟩ := pm_newok hn
  obtain ⟨c7, cN, ty0, hty, hdv⟩ := pm_dfl_ok hq0
  subst hk
  subst hN
  subst hfs
  obtain ⟨⟨hx, hb, hr, hml, hown, hts, hX, hbl, hlocks, hgv⟩, hK, hNN⟩ := id hC
  refine va_new (D := (cx.2.1, cx.2.2.1)) (ci := ci) (C := q0.1) (T := q0.2.1) (N := q0.2.2) (fs := (pm_dfl ci).map pm_dfv) hx hb hts (fun w hw => lw_sub ((pm_cls hq0).1 w hw)) ty0 hty hown (hts _ (lw_sub w1)) (hts _ (lw_sub w2)) (hts _ (lw_sub w3)) hK hD.1 hD.2.1 hD.2.2 (fun q h => h) hq0 hdv hm.1 (by rw [cN]; exact hm.2) hdg (fun q H1 hP1 hD1 hS1 => ?_)
  rw [cN]
  have ew : (Sum.inr (ci, (pm_dfl ci).map pm_dfv) : va_E) = pm_wc cx.2.2.2 (pm_an al sg.length q) (pm_z mu sg.length) (pm_zq nu sg.length) sg.length (0, ci, pm_dfl ci) := by
    show _ = Sum.inr (ci, pm_fl (pm_an al sg.length q) (pm_z mu sg.length sg.length) 0 (pm_dfl ci))
    rw [pm_z_eq, pm_fl_dfl _ _ _ (pm_dfr_ok ci c7)]
  rw [ew, ← pm_W_new hsw] at hP1 hD1
  have := kk (pm_an al sg.length q) H1 (fun j hj => if_neg (Nat.ne_of_lt hj)) ⟨hP1, hD1, hS1⟩
  rw [show pm_an al sg.length q sg.length = q from if_pos rfl] at this
  exact this
/-- the head of the loop, at first -/
theorem law_head (hL : L ≤ 3) (hC : lw_C cx p s m meth c b L xs) (hD : lw_D cx s al H locs (sh_ none none []) mu nu) (hl : lv_has ls 4 [(3, .int 0), (2, .ref (al 19)), (1, .ref (al 0)), (0, .ref b)]) (hX0 : X0 mu) (hM : MA z0 mu) (hc : cells ≤ 1000) (hs : slots ≤ 1000000) : W p cx.1 e room_1 s m #[Value.ref b] below meth c H locs cells slots (lw_Z below #[Value.ref b] s) (F0 m 18 ls []) := by
  obtain ⟨⟨hx, hb, hr, hml, hown, hts, hX, hbl, hlocks, hgv⟩, hK, hN⟩ := id hC
  have hbA : ¬ lw_A s b := Nat.not_le.mpr hbl
  have hS := hD.2.2
  refine lv_iload_n hx hb dL_law_18 rfl (lv_at hl 0 rfl) ?_
  refine lv_aload_n hx hb dL_law_19 rfl (lv_at hl 3 rfl) ?_
  refine va_slen hx hb hX hbl hbA hS dL_law_20 ?_
  refine lv_iconst (v := 3) hx hb dL_law_21 (by decide) ?_
  refine lv_isub hx hb dL_law_22 ?_
  refine lv_icmp_gt (tgt := 721) hx hb dL_law_23 (by decide) (fun q => ?_) (fun q => ?_)
  · exact law_true hC hS (by omega) (by omega)
  · have h3 : L = 3 := by
      rcases (show L = 0 ∨ L = 1 ∨ L = 2 ∨ L = 3 by omega) with r | r | r | r
      · subst r; exact absurd (by decide) q
      · subst r; exact absurd (by decide) q
      · subst r; exact absurd (by decide) q
      · exact r
    subst h3
    refine lv_aload_n hx hb dL_law_26 rfl (lv_at hl 3 rfl) ?_
    refine lv_iload_n hx hb dL_law_27 rfl (lv_at hl 0 rfl) ?_
    refine va_sld hx hb hX hbl hbA hS (vp_in_nI (n := 0) (N := 3) (by omega) (by omega)) dL_law_28 ?_
    refine lv_bipush (v := 31) hx hb dL_law_29 (by decide) ?_
    refine lv_iand hx hb dL_law_31 ?_
    generalize xs (Int32.toNatClampNeg 0) &&& 31 = w
    by_cases e0 : w = 0
    · subst e0
      refine lv_tableIn (tgt := 148) hx hb dL_law_32 (by decide) (by decide) rfl (by decide) ?_
      exact law_c0 hC hD hl hX0 hM hc hs
    by_cases e1 : w = 1
    · subst e1
      refine lv_tableIn (tgt := 171) hx hb dL_law_32 (by decide) (by decide) rfl (by decide) ?_
      exact law_c1 hC hD hl hX0 hM hc hs
    by_cases e2 : w = 2
    · subst e2
      refine lv_tableIn (tgt := 204) hx hb dL_law_32 (by decide) (by decide) rfl (by decide) ?_
      exact law_c2 hC hD hl hX0 hM hc hs
    by_cases e3 : w = 3
    · subst e3
      refine lv_tableIn (tgt := 237) hx hb dL_law_32 (by decide) (by decide) rfl (by decide) ?_
      exact law_c3 hC hD hl hX0 hM hc hs
    by_cases e4 : w = 4
    · subst e4
      refine lv_tableIn (tgt := 270) hx hb dL_law_32 (by decide) (by decide) rfl (by decide) ?_
      exact law_c4 hC hD hl hX0 hM hc hs
    by_cases e5 : w = 5
    · subst e5
      refine lv_tableIn (tgt := 293) hx hb dL_law_32 (by decide) (by decide) rfl (by decide) ?_
      exact law_c5 hC hD hl hX0 hM hc hs
    by_cases e6 : w = 6
    · subst e6
      refine lv_tableIn (tgt := 306) hx hb dL_law_32 (by decide) (by decide) rfl (by decide) ?_
      exact law_c6 hC hD hl hX0 hM hc hs
    by_cases e7 : w = 7
    · subst e7
      refine lv_tableIn (tgt := 329) hx hb dL_law_32 (by decide) (by decide) rfl (by decide) ?_
      exact law_c7 hC hD hl hX0 hM hc hs
    by_cases e8 : w = 8
    · subst e8
      refine lv_tableIn (tgt := 352) hx hb dL_law_32 (by decide) (by decide) rfl (by decide) ?_
      exact law_c8 hC hD hl hX0 hM hc hs
    by_cases e9 : w = 9
    · subst e9
      refine lv_tableIn (tgt := 365) hx hb dL_law_32 (by decide) (by decide) rfl (by decide) ?_
      exact law_c9 hC hD hl hX0 hM hc hs
    by_cases e10 : w = 10
    · subst e10
      refine lv_tableIn (tgt := 388) hx hb dL_law_32 (by decide) (by decide) rfl (by decide) ?_
      exact law_c10 hC hD hl hX0 hM hc hs
    by_cases e11 : w = 11
    · subst e11
      refine lv_tableIn (tgt := 411) hx hb dL_law_32 (by decide) (by decide) rfl (by decide) ?_
      exact law_c11 hC hD hl hX0 hM hc hs
    by_cases e12 : w = 12
    · subst e12
      refine lv_tableIn (tgt := 424) hx hb dL_law_32 (by decide) (by decide) rfl (by decide) ?_
      exact law_c12 hC hD hl hX0 hM hc hs
    by_cases e13 : w = 13
    · subst e13
      refine lv_tableIn (tgt := 457) hx hb dL_law_32 (by decide) (by decide) rfl (by decide) ?_
      exact law_c13 hC hD hl hX0 hM hc hs
    by_cases e14 : w = 14
    · subst e14
      refine lv_tableIn (tgt := 470) hx hb dL_law_32 (by decide) (by decide) rfl (by decide) ?_
      exact law_c14 hC hD hl hX0 hM hc hs
    by_cases e15 : w = 15
    · subst e15
      refine lv_tableIn (tgt := 493) hx hb dL_law_32 (by decide) (by decide) rfl (by decide) ?_
      exact law_c15 hC hD hl hX0 hM hc hs
    by_cases e16 : w = 16
    · subst e16
      refine lv_tableIn (tgt := 506) hx hb dL_law_32 (by decide) (by decide) rfl (by decide) ?_
      exact law_c16 hC hD hl hX0 hM hc hs
    by_cases e17 : w = 17
    · subst e17
      refine lv_tableIn (tgt := 540) hx hb dL_law_32 (by decide) (by decide) rfl (by decide) ?_
      exact law_c17 hC hD hl hX0 hM hc hs
    by_cases e18 : w = 18
    · subst e18
      refine lv_tableIn (tgt := 563) hx hb dL_law_32 (by decide) (by decide) rfl (by decide) ?_
      exact law_c18 hC hD hl hX0 hM hc hs
    by_cases e19 : w = 19
    · subst e19
      refine lv_tableIn (tgt := 576) hx hb dL_law_32 (by decide) (by decide) rfl (by decide) ?_
      exact law_c19 hC hD hl hX0 hM hc hs
    by_cases e20 : w = 20
    · subst e20
      refine lv_tableIn (tgt := 599) hx hb dL_law_32 (by decide) (by decide) rfl (by decide) ?_
      exact law_c20 hC hD hl hX0 hM hc hs
    by_cases e21 : w = 21
    · subst e21
      refine lv_tableIn (tgt := 623) hx hb dL_law_32 (by decide) (by decide) rfl (by decide) ?_
      exact law_c21 hC hD hl hX0 hM hc hs
    by_cases e22 : w = 22
    · subst e22
      refine lv_tableIn (tgt := 646) hx hb dL_law_32 (by decide) (by decide) rfl (by decide) ?_
      exact law_c22 hC hD hl hX0 hM hc hs
    by_cases e23 : w = 23
    · subst e23
      refine lv_tableIn (tgt := 669) hx hb dL_law_32 (by decide) (by decide) rfl (by decide) ?_
      exact law_c23 hC hD hl hX0 hM hc hs
    by_cases e24 : w = 24
    · subst e24
      refine lv_tableIn (tgt := 692) hx hb dL_law_32 (by decide) (by decide) rfl (by decide) ?_
      exact law_c24 hC hD hl hX0 hM hc hs
    refine lv_tableOut (tgt := 715) hx hb dL_law_32 (ts_out (n := 24) (by omega) (fun k hk => ?_)) (by decide) ?_
    · rcases (show k = 0 ∨ k = 1 ∨ k = 2 ∨ k = 3 ∨ k = 4 ∨ k = 5 ∨ k = 6 ∨ k = 7 ∨ k = 8 ∨ k = 9 ∨ k = 10 ∨ k = 11 ∨ k = 12 ∨ k = 13 ∨ k = 14 ∨ k = 15 ∨ k = 16 ∨ k = 17 ∨ k = 18 ∨ k = 19 ∨ k = 20 ∨ k = 21 ∨ k = 22 ∨ k = 23 ∨ k = 24 by omega) with rfl | rfl | rfl | rfl | rfl | rfl | rfl | rfl | rfl | rfl | rfl | rfl | rfl | rfl | rfl | rfl | rfl | rfl | rfl | rfl | rfl | rfl | rfl | rfl | rfl
      · exact e0
      · exact e1
      · exact e2
      · exact e3
      · exact e4
      · exact e5
      · exact e6
      · exact e7
      · exact e8
      · exact e9
      · exact e10
      · exact e11
      · exact e12
      · exact e13
      · exact e14
      · exact e15
      · exact e16
      · exact e17
      · exact e18
      · exact e19
      · exact e20
      · exact e21
      · exact e22
      · exact e23
      · exact e24
    · exact law_next hC hS hl (by omega) (by omega)
end
theorem lw_arr {s : State} {A : Array Value} {ty : FieldType} (h : (Cond.arrayClass ty).before A s = true) (ht : ∀ cA : ClassId, s.vm.findClass ("[" ++ ty.toString) = some cA → va_RA s cA ty) : ∃ cA : ClassId, ArrOfT s cA ty ∧ va_RA s cA ty := by
  obtain ⟨cA, kA, comp, h1, h2, h3⟩ := Cond.arrayClass_spec h
  exact ⟨cA, fun n z => ⟨fun k h => (by cases h), kA, h2, comp, h3⟩, ht cA h1⟩
theorem lw_arrq {s : State} {A : Array Value} {C : String} (h : (Cond.arrayOver (.object C)).before A s = true) : ∃ cA : ClassId, ArrOfT s cA (.object C) ∧ va_RA s cA (.object C) := by
  obtain ⟨comp, cA, kA, h1, h2, h3, h4, h5⟩ := Cond.arrayOver_spec h
  exact ⟨cA, fun n z => ⟨fun k h => (by cases h), kA, h3, comp, h4⟩, kA, comp, h3, h4, h1, h5⟩
set_option maxRecDepth 100000 in
set_option maxHeartbeats 4000000 in
/-- THE LAW, from its entry -/
theorem whole_start {p : Program} {e : Env} {s : State} {m : MethodId} {below : List Frame} {meth : Method} {c : Code} (l : Launch) {b L : Nat} {xs : Nat → Int32} (hL : L ≤ 3) (C0 : lw_At p s m meth c b L xs) : W p l e room_1 s m #[Value.ref b] below meth c s.heap [] 0 0 (lw_Z below #[Value.ref b] s) (entryFrame m ([Value.ref b] : List Value).toArray 4) := by
  obtain ⟨hx, hb, hr, hml, hown, hts, hX, hbl, hlocks, hgv⟩ := id C0
  obtain ⟨c0, f0, k0⟩ := u_known (C := RX1) (T := TX1) (N := 5) (n := 5) hts (fun w hw => lw_sub (pm_in1 w hw)) (hts _ lw_insRX1)
  obtain ⟨c1, f1, k1⟩ := u_known (C := RX2) (T := TX2) (N := 11) (n := 11) hts (fun w hw => lw_sub (pm_in2 w hw)) (hts _ lw_insRX2)
  obtain ⟨c2, f2, k2⟩ := u_known (C := RX4) (T := TX4) (N := 2) (n := 2) hts (fun w hw => lw_sub (pm_in4 w hw)) (hts _ lw_insRX4)
  obtain ⟨c3, f3, k3⟩ := u_known (C := RX7) (T := TX7) (N := 2) (n := 2) hts (fun w hw => lw_sub (pm_in7 w hw)) (hts _ lw_insRX7)
  obtain ⟨c4, f4, k4⟩ := u_known (C := RX9) (T := TX9) (N := 5) (n := 5) hts (fun w hw => lw_sub (pm_in9 w hw)) (hts _ lw_insRX9)
  obtain ⟨c5, f5, k5⟩ := u_known (C := RX10) (T := TX10) (N := 6) (n := 6) hts (fun w hw => lw_sub (pm_in10 w hw)) (hts _ lw_insRX10)
  obtain ⟨c6, f6, k6⟩ := u_known (C := RX11) (T := TX11) (N := 35) (n := 35) hts (fun w hw => lw_sub (pm_in11 w hw)) (hts _ lw_insRX11)
  obtain ⟨t0, ta0, tb0⟩ := lw_arr (hts _ (lw_sub pm_arr_int)) (fun _ h => h)
  obtain ⟨t1, ta1, tb1⟩ := lw_arr (hts _ (lw_sub pm_arr_bool)) (fun _ h => h)
  obtain ⟨t2, ta2, tb2⟩ := lw_arr (hts _ (lw_sub pm_arr_long)) (fun _ h => h)
  obtain ⟨t3, ta3, tb3⟩ := lw_arrq (hts _ pm_over_in)
  have hNN : pm_NN s := ⟨fun q hq => va_any rfl (hts _ (pm_nest_in q hq)), va_AO.of (hts _ pm_over_in)⟩
  have hKn : ∃ (dC : Nat → ClassId) (dI : Nat → Nat → Nat), ∀ (k : Nat) (q : vw_C), vwCl[k]? = some q → u_Kn s q.1 q.2.1 q.2.2 (dC k) (dI k) := by
    refine ⟨fun k => if k = 0 then c0 else if k = 1 then c1 else if k = 2 then c2 else if k = 3 then c3 else if k = 4 then c4 else if k = 5 then c5 else c6, fun k => if k = 0 then f0 else if k = 1 then f1 else if k = 2 then f2 else if k = 3 then f3 else if k = 4 then f4 else if k = 5 then f5 else f6, ?_⟩
    intro k q hq
    match k, hq with
    | 0, hq => cases hq; exact k0
    | 1, hq => cases hq; exact k1
    | 2, hq => cases hq; exact k2
    | 3, hq => cases hq; exact k3
    | 4, hq => cases hq; exact k4
    | 5, hq => cases hq; exact k5
    | 6, hq => cases hq; exact k6
    | k + 7, hq => simp [vwCl] at hq
  obtain ⟨dC, dI, hKc⟩ := hKn
  have hK : va_K (dC, dI) vwCl (pm_ty (fun k => if k = 0 then t0 else if k = 1 then t1 else if k = 2 then t2 else t3)) s := by
    refine ⟨hKc, fun k q hq => ?_⟩
    match k, hq with
    | 0, hq => cases hq; exact ⟨ta0, tb0⟩
    | 1, hq => cases hq; exact ⟨ta1, tb1⟩
    | 2, hq => cases hq; exact ⟨ta2, tb2⟩
    | 3, hq => cases hq; exact ⟨ta3, tb3⟩
    | k + 4, hq => simp [pm_ty] at hq
  generalize hdT : (fun k => if k = 0 then t0 else if k = 1 then t1 else if k = 2 then t2 else t3 : Nat → ClassId) = dT at hK
  have hC : lw_C (l, dC, dI, dT) p s m meth c b L xs := ⟨C0, hK, hNN⟩
  have hD : lw_D (l, dC, dI, dT) s (fun _ => 0) s.heap [] [] (fun _ _ => 0) (fun _ _ => 0) := ⟨fun k q h => by simp [pm_W] at h, ⟨fun i j p q h => by simp [pm_W] at h, fun k q h => by simp [pm_W] at h⟩, va_S.rf⟩
  have hl := lv_entry ([.ref b]) (n := 4) (Nat.le_of_ble_eq_true rfl)
  rw [lg_entry_eq]
  generalize (lg_sl ([.ref b]) ++ List.replicate (4 - (lg_sl ([.ref b])).length) Slot.unset).toArray = ls at hl ⊢
  have hl : lv_has ls 4 [(0, .ref b)] := hl
  refine lw_new (cx := (l, dC, dI, dT)) (k := 0) hC hD dL_law_0 lw_n5 rfl rfl rfl rfl ⟨by decide, by decide⟩ (fun al1 H1 _ hD1 => ?_)
  refine lv_dup hx hb dL_law_3 rfl ?_
  refine lw_ci (mj := mX10_init) (k := 9) (kb := 0) (as := []) (rest := [.ref (al1 0)]) (by exact okX10_init) hC hD1 hl.1 dL_law_4 (by decide +kernel) rfl (by exact arX10_init) (K_class (d := 30) (by omega)) rfl (by omega) (Nat.le_of_ble_eq_true rfl) ⟨by decide, by decide⟩ (fun r sg' mu' nu' al' H' locs' hQ hal hn hD2 => ?_)
  obtain ⟨rfl, rfl, hX0⟩ := hQ
  have e0 : al' 0 = al1 0 := hal 0 (by decide)
  refine lv_astore_n (lv' := [(1, .ref (al1 0)), (0, .ref b)]) hx hb dL_law_7 rfl hl (by decide) rfl (fun ls hl => ?_)
  rw [← e0] at hl
  refine lw_new (cx := (l, dC, dI, dT)) (k := 19) hC hD2 dL_law_8 lw_n6 rfl rfl rfl rfl ⟨by decide, by decide⟩ (fun al3 H3 hal3 hD3 => ?_)
  refine lv_dup hx hb dL_law_11 rfl ?_
  refine lw_ci (mj := mX11_init) (k := 12) (kb := 19) (as := []) (rest := [.ref (al3 19)]) (by exact okX11_init) hC hD3 hl.1 dL_law_12 (by decide +kernel) rfl (by exact arX11_init) (K_model (d := 30) pm_z_eq (by omega)) rfl (by omega) (Nat.le_of_ble_eq_true rfl) ⟨by decide, by decide⟩ (fun r2 sg2 mu2 nu2 al4 H4 locs4 hQ2 hal4 hn4 hD4 => ?_)
  obtain ⟨rfl, rfl, hM, hfr⟩ := hQ2
  have e19 : al4 19 = al3 19 := hal4 19 (by decide)
  have e00 : al4 0 = al' 0 := (hal4 0 (by decide)).trans (hal3 0 (by omega))
  refine lv_astore_n (lv' := [(2, .ref (al3 19)), (1, .ref (al' 0)), (0, .ref b)]) hx hb dL_law_15 rfl hl (by decide) rfl (fun ls hl => ?_)
  refine lv_iconst (v := 0) hx hb dL_law_16 (by decide) ?_
  refine lv_istore_n (lv' := [(3, .int 0), (2, .ref (al3 19)), (1, .ref (al' 0)), (0, .ref b)]) hx hb dL_law_17 rfl hl (by decide) rfl (fun ls hl => ?_)
  rw [← e19, ← e00] at hl
  exact law_head hL hC hD4 hl (hX0.same _ (fun a ha => by rw [hfr a ha, pm_z_ne (by omega)])) hM (by decide) (by decide)

/-! ===== the law, case by case ===== -/
section
variable {cx : pm_CX} {p : Program} {e : Env} {s : State} {m : MethodId} {below : List Frame} {meth : Method} {c : Code} {b : Nat} {xs : Nat → Int32} {al : Nat → Nat} {H : Heap} {locs : List Loc} {mu : pm_I} {nu : pm_J} {cells slots : Nat} {ls : Array Slot}
-- row
set_option maxRecDepth 100000 in
set_option maxHeartbeats 2000000 in
theorem law_c9 (hC : lw_C cx p s m meth c b 3 xs) (hD : lw_D cx s al H locs (sh_ none none []) mu nu) (hl : lv_has ls 4 [(3, .int 0), (2, .ref (al 19)), (1, .ref (al 0)), (0, .ref b)]) (hX0 : X0 mu) (hM : MA z0 mu) (hc : cells ≤ 1000) (hs : slots ≤ 1000000) : W p cx.1 e room_1 s m #[Value.ref b] below meth c H locs cells slots (lw_Z below #[Value.ref b] s) (F0 m 365 ls []) := by
  obtain ⟨⟨hx, hb, hr, hml, hown, hts, hX, hbl, hlocks, hgv⟩, hK, hN⟩ := id hC
  have hbA : ¬ lw_A s b := Nat.not_le.mpr hbl
  have hS := hD.2.2
  refine lv_aload_n hx hb dL_law_365 rfl (lv_at hl 2 rfl) ?_
  refine lv_aload_n hx hb dL_law_366 rfl (lv_at hl 3 rfl) ?_
  refine lv_iload_n hx hb dL_law_367 rfl (lv_at hl 0 rfl) ?_
  refine lv_iconst (v := 1) hx hb dL_law_368 (by decide) ?_
  refine lv_iadd hx hb dL_law_369 ?_
  refine va_sld hx hb hX hbl hbA hS (vp_in_nI (n := 1) (N := 3) (by omega) (by omega)) dL_law_370 ?_
  refine lw_cv (mj := mX10_row) (k := 52) (kb := 0) (as := [.int (xs 1)]) (rest := []) (by exact okX10_row) hC hD hl.1 dL_law_371 (by decide +kernel) (by exact arX10_row) (P_row (d := 30) (xs 1) hX0 (by omega)) rfl rfl rfl (by omega) (Nat.le_of_ble_eq_true rfl) ⟨by omega, by omega⟩ (fun r sg' mu' nu' al' H' locs' hQ hal hn hD' => ?_)
  obtain ⟨rfl, ⟨i0, i1, ex, rfl⟩, hf⟩ := hQ
  have hl : lv_has ls 4 [(3, .int 0), (2, .ref (al' 19)), (1, .ref (al' 0)), (0, .ref b)] := by
    rw [hal 19 (Nat.le_of_ble_eq_true rfl), hal 0 (Nat.le_of_ble_eq_true rfl)]
    exact hl
  have hM : MA z0 mu' := hM.same (fun j hj => by rw [hf 19 (by omega) (by omega)]) (fun k h1 h2 => hf k (by omega) (by omega)) (hf 38 (by omega) (by omega)) (hf 39 (by omega) (by omega))
  have hS := hD'.2.2
  refine lv_aload_n hx hb dL_law_374 rfl (lv_at hl 1 rfl) ?_
  refine lv_aload_n hx hb dL_law_375 rfl (lv_at hl 3 rfl) ?_
  refine lv_iload_n hx hb dL_law_376 rfl (lv_at hl 0 rfl) ?_
  refine lv_iconst (v := 1) hx hb dL_law_377 (by decide) ?_
  refine lv_iadd hx hb dL_law_378 ?_
  refine va_sld hx hb hX hbl hbA hS (vp_in_nI (n := 1) (N := 3) (by omega) (by omega)) dL_law_379 ?_
  refine lw_cv (mj := mX11_row) (k := 55) (kb := 19) (as := [.int (xs 1)]) (rest := [.int (sp_row z0 (xs 1))]) (by exact okX11_row) hC hD' hl.1 dL_law_380 (by decide +kernel) (by exact arX11_row) (M_row (d := 30) (z := z0) (xs 1) (fun b hb => by cases hb) (by decide) hM (by omega)) rfl rfl rfl (by omega) (Nat.le_of_ble_eq_true rfl) ⟨by omega, by omega⟩ (fun r2 sg2 mu2 nu2 al2 H2 locs2 hQ2 hal2 hn2 hD2 => ?_)
  obtain ⟨rfl, rfl, -, -⟩ := hQ2
  have hl : lv_has ls 4 [(3, .int 0), (2, .ref (al2 19)), (1, .ref (al2 0)), (0, .ref b)] := by
    rw [hal2 19 (Nat.le_of_ble_eq_true rfl), hal2 0 (Nat.le_of_ble_eq_true rfl)]
    exact hl
  show W _ _ _ _ _ _ _ _ _ _ _ _ _ _ _ (F0 m 383 ls [.int (sp_row z0 (xs 1)), .int (sp_row z0 (xs 1))])
  refine lv_icmp_eq (tgt := 715) hx hb dL_law_383 (by decide) (fun q => ?_) (fun q => absurd rfl q)
  exact law_next hC hD2.2.2 hl (by omega) (by omega)
-- bloomed
set_option maxRecDepth 100000 in
set_option maxHeartbeats 2000000 in
theorem law_c10 (hC : lw_C cx p s m meth c b 3 xs) (hD : lw_D cx s al H locs (sh_ none none []) mu nu) (hl : lv_has ls 4 [(3, .int 0), (2, .ref (al 19)), (1, .ref (al 0)), (0, .ref b)]) (hX0 : X0 mu) (hM : MA z0 mu) (hc : cells ≤ 1000) (hs : slots ≤ 1000000) : W p cx.1 e room_1 s m #[Value.ref b] below meth c H locs cells slots (lw_Z below #[Value.ref b] s) (F0 m 388 ls []) := by
  obtain ⟨⟨hx, hb, hr, hml, hown, hts, hX, hbl, hlocks, hgv⟩, hK, hN⟩ := id hC
  have hbA : ¬ lw_A s b := Nat.not_le.mpr hbl
  have hS := hD.2.2
  refine lv_aload_n hx hb dL_law_388 rfl (lv_at hl 2 rfl) ?_
  refine lv_aload_n hx hb dL_law_389 rfl (lv_at hl 3 rfl) ?_
  refine lv_iload_n hx hb dL_law_390 rfl (lv_at hl 0 rfl) ?_
  refine lv_iconst (v := 1) hx hb dL_law_391 (by decide) ?_
  refine lv_iadd hx hb dL_law_392 ?_
  refine va_sld hx hb hX hbl hbA hS (vp_in_nI (n := 1) (N := 3) (by omega) (by omega)) dL_law_393 ?_
  refine lw_cv (mj := mX10_bloomed) (k := 56) (kb := 0) (as := [.int (xs 1)]) (rest := []) (by exact okX10_bloomed) hC hD hl.1 dL_law_394 (by decide +kernel) (by exact arX10_bloomed) (P_bloomed (d := 30) (xs 1) hX0 (by omega)) rfl rfl rfl (by omega) (Nat.le_of_ble_eq_true rfl) ⟨by omega, by omega⟩ (fun r sg' mu' nu' al' H' locs' hQ hal hn hD' => ?_)
  obtain ⟨rfl, ⟨i0, i1, ex, rfl⟩, hf⟩ := hQ
  have hl : lv_has ls 4 [(3, .int 0), (2, .ref (al' 19)), (1, .ref (al' 0)), (0, .ref b)] := by
    rw [hal 19 (Nat.le_of_ble_eq_true rfl), hal 0 (Nat.le_of_ble_eq_true rfl)]
    exact hl
  have hM : MA z0 mu' := hM.same (fun j hj => by rw [hf 19 (by omega) (by omega)]) (fun k h1 h2 => hf k (by omega) (by omega)) (hf 38 (by omega) (by omega)) (hf 39 (by omega) (by omega))
  have hS := hD'.2.2
  refine lv_aload_n hx hb dL_law_397 rfl (lv_at hl 1 rfl) ?_
  refine lv_aload_n hx hb dL_law_398 rfl (lv_at hl 3 rfl) ?_
  refine lv_iload_n hx hb dL_law_399 rfl (lv_at hl 0 rfl) ?_
  refine lv_iconst (v := 1) hx hb dL_law_400 (by decide) ?_
  refine lv_iadd hx hb dL_law_401 ?_
  refine va_sld hx hb hX hbl hbA hS (vp_in_nI (n := 1) (N := 3) (by omega) (by omega)) dL_law_402 ?_
  refine lw_cv (mj := mX11_bloomed) (k := 59) (kb := 19) (as := [.int (xs 1)]) (rest := [.int (sp_bloomed z0 (xs 1))]) (by exact okX11_bloomed) hC hD' hl.1 dL_law_403 (by decide +kernel) (by exact arX11_bloomed) (M_bloomed (d := 30) (z := z0) (xs 1) (by decide) hM (by omega)) rfl rfl rfl (by omega) (Nat.le_of_ble_eq_true rfl) ⟨by omega, by omega⟩ (fun r2 sg2 mu2 nu2 al2 H2 locs2 hQ2 hal2 hn2 hD2 => ?_)
  obtain ⟨rfl, rfl, -, -⟩ := hQ2
  have hl : lv_has ls 4 [(3, .int 0), (2, .ref (al2 19)), (1, .ref (al2 0)), (0, .ref b)] := by
    rw [hal2 19 (Nat.le_of_ble_eq_true rfl), hal2 0 (Nat.le_of_ble_eq_true rfl)]
    exact hl
  show W _ _ _ _ _ _ _ _ _ _ _ _ _ _ _ (F0 m 406 ls [.int (sp_bloomed z0 (xs 1)), .int (sp_bloomed z0 (xs 1))])
  refine lv_icmp_eq (tgt := 715) hx hb dL_law_406 (by decide) (fun q => ?_) (fun q => absurd rfl q)
  exact law_next hC hD2.2.2 hl (by omega) (by omega)
-- anew
set_option maxRecDepth 100000 in
set_option maxHeartbeats 2000000 in
theorem law_c11 (hC : lw_C cx p s m meth c b 3 xs) (hD : lw_D cx s al H locs (sh_ none none []) mu nu) (hl : lv_has ls 4 [(3, .int 0), (2, .ref (al 19)), (1, .ref (al 0)), (0, .ref b)]) (hX0 : X0 mu) (hM : MA z0 mu) (hc : cells ≤ 1000) (hs : slots ≤ 1000000) : W p cx.1 e room_1 s m #[Value.ref b] below meth c H locs cells slots (lw_Z below #[Value.ref b] s) (F0 m 411 ls []) := by
  obtain ⟨⟨hx, hb, hr, hml, hown, hts, hX, hbl, hlocks, hgv⟩, hK, hN⟩ := id hC
  have hbA : ¬ lw_A s b := Nat.not_le.mpr hbl
  have hS := hD.2.2
  refine lv_aload_n hx hb dL_law_411 rfl (lv_at hl 2 rfl) ?_
  refine lw_cv (mj := mX10_anew) (k := 60) (kb := 0) (as := []) (rest := []) (by exact okX10_anew) hC hD hl.1 dL_law_412 (by decide +kernel) (by exact arX10_anew) (P_anew (d := 30) hX0 (by omega)) rfl rfl rfl (by omega) (Nat.le_of_ble_eq_true rfl) ⟨by omega, by omega⟩ (fun r sg' mu' nu' al' H' locs' hQ hal hn hD' => ?_)
  obtain ⟨rfl, ⟨i0, i1, ex, rfl⟩, hf⟩ := hQ
  have hl : lv_has ls 4 [(3, .int 0), (2, .ref (al' 19)), (1, .ref (al' 0)), (0, .ref b)] := by
    rw [hal 19 (Nat.le_of_ble_eq_true rfl), hal 0 (Nat.le_of_ble_eq_true rfl)]
    exact hl
  have hM : MA z0 mu' := hM.same (fun j hj => by rw [hf 19 (by omega) (by omega)]) (fun k h1 h2 => hf k (by omega) (by omega)) (hf 38 (by omega) (by omega)) (hf 39 (by omega) (by omega))
  have hS := hD'.2.2
  refine lv_aload_n hx hb dL_law_415 rfl (lv_at hl 1 rfl) ?_
  refine lw_cv (mj := mX11_anew) (k := 63) (kb := 19) (as := []) (rest := [.int (nI (gK z0.1).length)]) (by exact okX11_anew) hC hD' hl.1 dL_law_416 (by decide +kernel) (by exact arX11_anew) (M_anew (d := 30) (z := z0) hM) rfl rfl rfl (by omega) (Nat.le_of_ble_eq_true rfl) ⟨by omega, by omega⟩ (fun r2 sg2 mu2 nu2 al2 H2 locs2 hQ2 hal2 hn2 hD2 => ?_)
  obtain ⟨rfl, rfl, -, -⟩ := hQ2
  have hl : lv_has ls 4 [(3, .int 0), (2, .ref (al2 19)), (1, .ref (al2 0)), (0, .ref b)] := by
    rw [hal2 19 (Nat.le_of_ble_eq_true rfl), hal2 0 (Nat.le_of_ble_eq_true rfl)]
    exact hl
  show W _ _ _ _ _ _ _ _ _ _ _ _ _ _ _ (F0 m 419 ls [.int (nI (gK z0.1).length), .int (nI (gK z0.1).length)])
  refine lv_icmp_eq (tgt := 715) hx hb dL_law_419 (by decide) (fun q => ?_) (fun q => absurd rfl q)
  exact law_next hC hD2.2.2 hl (by omega) (by omega)
-- seen
set_option maxRecDepth 100000 in
set_option maxHeartbeats 2000000 in
theorem law_c12 (hC : lw_C cx p s m meth c b 3 xs) (hD : lw_D cx s al H locs (sh_ none none []) mu nu) (hl : lv_has ls 4 [(3, .int 0), (2, .ref (al 19)), (1, .ref (al 0)), (0, .ref b)]) (hX0 : X0 mu) (hM : MA z0 mu) (hc : cells ≤ 1000) (hs : slots ≤ 1000000) : W p cx.1 e room_1 s m #[Value.ref b] below meth c H locs cells slots (lw_Z below #[Value.ref b] s) (F0 m 424 ls []) := by
  obtain ⟨⟨hx, hb, hr, hml, hown, hts, hX, hbl, hlocks, hgv⟩, hK, hN⟩ := id hC
  have hbA : ¬ lw_A s b := Nat.not_le.mpr hbl
  have hS := hD.2.2
  refine lv_aload_n hx hb dL_law_424 rfl (lv_at hl 2 rfl) ?_
  refine lv_aload_n hx hb dL_law_425 rfl (lv_at hl 3 rfl) ?_
  refine lv_iload_n hx hb dL_law_426 rfl (lv_at hl 0 rfl) ?_
  refine lv_iconst (v := 1) hx hb dL_law_427 (by decide) ?_
  refine lv_iadd hx hb dL_law_428 ?_
  refine va_sld hx hb hX hbl hbA hS (vp_in_nI (n := 1) (N := 3) (by omega) (by omega)) dL_law_429 ?_
  refine lv_aload_n hx hb dL_law_430 rfl (lv_at hl 3 rfl) ?_
  refine lv_iload_n hx hb dL_law_431 rfl (lv_at hl 0 rfl) ?_
  refine lv_iconst (v := 2) hx hb dL_law_432 (by decide) ?_
  refine lv_iadd hx hb dL_law_433 ?_
  refine va_sld hx hb hX hbl hbA hS (vp_in_nI (n := 2) (N := 3) (by omega) (by omega)) dL_law_434 ?_
  refine lw_cv (mj := mX10_seen) (k := 64) (kb := 0) (as := [.int (xs 1), .int (xs 2)]) (rest := []) (by exact okX10_seen) hC hD hl.1 dL_law_435 (by decide +kernel) (by exact arX10_seen) (P_seen (d := 30) (xs 1) (xs 2) hX0 (by omega)) rfl rfl rfl (by omega) (Nat.le_of_ble_eq_true rfl) ⟨by omega, by omega⟩ (fun r sg' mu' nu' al' H' locs' hQ hal hn hD' => ?_)
  obtain ⟨rfl, ⟨i0, i1, ex, rfl⟩, hf⟩ := hQ
  have hl : lv_has ls 4 [(3, .int 0), (2, .ref (al' 19)), (1, .ref (al' 0)), (0, .ref b)] := by
    rw [hal 19 (Nat.le_of_ble_eq_true rfl), hal 0 (Nat.le_of_ble_eq_true rfl)]
    exact hl
  have hM : MA z0 mu' := hM.same (fun j hj => by rw [hf 19 (by omega) (by omega)]) (fun k h1 h2 => hf k (by omega) (by omega)) (hf 38 (by omega) (by omega)) (hf 39 (by omega) (by omega))
  have hS := hD'.2.2
  refine lv_aload_n hx hb dL_law_438 rfl (lv_at hl 1 rfl) ?_
  refine lv_aload_n hx hb dL_law_439 rfl (lv_at hl 3 rfl) ?_
  refine lv_iload_n hx hb dL_law_440 rfl (lv_at hl 0 rfl) ?_
  refine lv_iconst (v := 1) hx hb dL_law_441 (by decide) ?_
  refine lv_iadd hx hb dL_law_442 ?_
  refine va_sld hx hb hX hbl hbA hS (vp_in_nI (n := 1) (N := 3) (by omega) (by omega)) dL_law_443 ?_
  refine lv_aload_n hx hb dL_law_444 rfl (lv_at hl 3 rfl) ?_
  refine lv_iload_n hx hb dL_law_445 rfl (lv_at hl 0 rfl) ?_
  refine lv_iconst (v := 2) hx hb dL_law_446 (by decide) ?_
  refine lv_iadd hx hb dL_law_447 ?_
  refine va_sld hx hb hX hbl hbA hS (vp_in_nI (n := 2) (N := 3) (by omega) (by omega)) dL_law_448 ?_
  refine lw_cv (mj := mX11_seen) (k := 67) (kb := 19) (as := [.int (xs 1), .int (xs 2)]) (rest := [.int (sp_seen z0 (xs 1) (xs 2)).1]) (by exact okX11_seen) hC hD' hl.1 dL_law_449 (by decide +kernel) (by exact arX11_seen) (M_seen (d := 30) (z := z0) (xs 1) (xs 2) z0_OK hM (by omega)) rfl rfl rfl (by omega) (Nat.le_of_ble_eq_true rfl) ⟨by omega, by omega⟩ (fun r2 sg2 mu2 nu2 al2 H2 locs2 hQ2 hal2 hn2 hD2 => ?_)
  obtain ⟨rfl, rfl, -, -⟩ := hQ2
  have hl : lv_has ls 4 [(3, .int 0), (2, .ref (al2 19)), (1, .ref (al2 0)), (0, .ref b)] := by
    rw [hal2 19 (Nat.le_of_ble_eq_true rfl), hal2 0 (Nat.le_of_ble_eq_true rfl)]
    exact hl
  show W _ _ _ _ _ _ _ _ _ _ _ _ _ _ _ (F0 m 452 ls [.int (sp_seen z0 (xs 1) (xs 2)).1, .int (sp_seen z0 (xs 1) (xs 2)).1])
  refine lv_icmp_eq (tgt := 715) hx hb dL_law_452 (by decide) (fun q => ?_) (fun q => absurd rfl q)
  exact law_next hC hD2.2.2 hl (by omega) (by omega)
-- forget
set_option maxRecDepth 100000 in
set_option maxHeartbeats 2000000 in
theorem law_c13 (hC : lw_C cx p s m meth c b 3 xs) (hD : lw_D cx s al H locs (sh_ none none []) mu nu) (hl : lv_has ls 4 [(3, .int 0), (2, .ref (al 19)), (1, .ref (al 0)), (0, .ref b)]) (hX0 : X0 mu) (hM : MA z0 mu) (hc : cells ≤ 1000) (hs : slots ≤ 1000000) : W p cx.1 e room_1 s m #[Value.ref b] below meth c H locs cells slots (lw_Z below #[Value.ref b] s) (F0 m 457 ls []) := by
  obtain ⟨⟨hx, hb, hr, hml, hown, hts, hX, hbl, hlocks, hgv⟩, hK, hN⟩ := id hC
  have hbA : ¬ lw_A s b := Nat.not_le.mpr hbl
  have hS := hD.2.2
  refine lv_aload_n hx hb dL_law_457 rfl (lv_at hl 2 rfl) ?_
  refine lw_cv (mj := mX10_forget) (k := 68) (kb := 0) (as := []) (rest := []) (by exact okX10_forget) hC hD hl.1 dL_law_458 (by decide +kernel) (by exact arX10_forget) (P_forget (d := 30) hX0 (by omega)) rfl rfl rfl (by omega) (Nat.le_of_ble_eq_true rfl) ⟨by omega, by omega⟩ (fun r sg' mu' nu' al' H' locs' hQ hal hn hD' => ?_)
  obtain ⟨rfl, ⟨i0, i1, ex, rfl⟩, hf⟩ := hQ
  have hl : lv_has ls 4 [(3, .int 0), (2, .ref (al' 19)), (1, .ref (al' 0)), (0, .ref b)] := by
    rw [hal 19 (Nat.le_of_ble_eq_true rfl), hal 0 (Nat.le_of_ble_eq_true rfl)]
    exact hl
  have hM : MA z0 mu' := hM.same (fun j hj => by rw [hf 19 (by omega) (by omega)]) (fun k h1 h2 => hf k (by omega) (by omega)) (hf 38 (by omega) (by omega)) (hf 39 (by omega) (by omega))
  have hS := hD'.2.2
  refine lv_aload_n hx hb dL_law_461 rfl (lv_at hl 1 rfl) ?_
  refine lw_cv (mj := mX11_forget) (k := 71) (kb := 19) (as := []) (rest := [.int (nI (gV z0.1).length)]) (by exact okX11_forget) hC hD' hl.1 dL_law_462 (by decide +kernel) (by exact arX11_forget) (M_forget (d := 30) (z := z0) hM) rfl rfl rfl (by omega) (Nat.le_of_ble_eq_true rfl) ⟨by omega, by omega⟩ (fun r2 sg2 mu2 nu2 al2 H2 locs2 hQ2 hal2 hn2 hD2 => ?_)
  obtain ⟨rfl, rfl, -, -⟩ := hQ2
  have hl : lv_has ls 4 [(3, .int 0), (2, .ref (al2 19)), (1, .ref (al2 0)), (0, .ref b)] := by
    rw [hal2 19 (Nat.le_of_ble_eq_true rfl), hal2 0 (Nat.le_of_ble_eq_true rfl)]
    exact hl
  show W _ _ _ _ _ _ _ _ _ _ _ _ _ _ _ (F0 m 465 ls [.int (nI (gV z0.1).length), .int (nI (gV z0.1).length)])
  refine lv_icmp_eq (tgt := 715) hx hb dL_law_465 (by decide) (fun q => ?_) (fun q => absurd rfl q)
  exact law_next hC hD2.2.2 hl (by omega) (by omega)
-- filled
set_option maxRecDepth 100000 in
set_option maxHeartbeats 2000000 in
theorem law_c14 (hC : lw_C cx p s m meth c b 3 xs) (hD : lw_D cx s al H locs (sh_ none none []) mu nu) (hl : lv_has ls 4 [(3, .int 0), (2, .ref (al 19)), (1, .ref (al 0)), (0, .ref b)]) (hX0 : X0 mu) (hM : MA z0 mu) (hc : cells ≤ 1000) (hs : slots ≤ 1000000) : W p cx.1 e room_1 s m #[Value.ref b] below meth c H locs cells slots (lw_Z below #[Value.ref b] s) (F0 m 470 ls []) := by
  obtain ⟨⟨hx, hb, hr, hml, hown, hts, hX, hbl, hlocks, hgv⟩, hK, hN⟩ := id hC
  have hbA : ¬ lw_A s b := Nat.not_le.mpr hbl
  have hS := hD.2.2
  refine lv_aload_n hx hb dL_law_470 rfl (lv_at hl 2 rfl) ?_
  refine lv_aload_n hx hb dL_law_471 rfl (lv_at hl 3 rfl) ?_
  refine lv_iload_n hx hb dL_law_472 rfl (lv_at hl 0 rfl) ?_
  refine lv_iconst (v := 1) hx hb dL_law_473 (by decide) ?_
  refine lv_iadd hx hb dL_law_474 ?_
  refine va_sld hx hb hX hbl hbA hS (vp_in_nI (n := 1) (N := 3) (by omega) (by omega)) dL_law_475 ?_
  refine lw_cv (mj := mX10_filled) (k := 72) (kb := 0) (as := [.int (xs 1)]) (rest := []) (by exact okX10_filled) hC hD hl.1 dL_law_476 (by decide +kernel) (by exact arX10_filled) (P_filled (d := 30) (xs 1) hX0 (by omega)) rfl rfl rfl (by omega) (Nat.le_of_ble_eq_true rfl) ⟨by omega, by omega⟩ (fun r sg' mu' nu' al' H' locs' hQ hal hn hD' => ?_)
  obtain ⟨rfl, ⟨i0, i1, ex, rfl⟩, hf⟩ := hQ
  have hl : lv_has ls 4 [(3, .int 0), (2, .ref (al' 19)), (1, .ref (al' 0)), (0, .ref b)] := by
    rw [hal 19 (Nat.le_of_ble_eq_true rfl), hal 0 (Nat.le_of_ble_eq_true rfl)]
    exact hl
  have hM : MA z0 mu' := hM.same (fun j hj => by rw [hf 19 (by omega) (by omega)]) (fun k h1 h2 => hf k (by omega) (by omega)) (hf 38 (by omega) (by omega)) (hf 39 (by omega) (by omega))
  have hS := hD'.2.2
  refine lv_aload_n hx hb dL_law_479 rfl (lv_at hl 1 rfl) ?_
  refine lv_aload_n hx hb dL_law_480 rfl (lv_at hl 3 rfl) ?_
  refine lv_iload_n hx hb dL_law_481 rfl (lv_at hl 0 rfl) ?_
  refine lv_iconst (v := 1) hx hb dL_law_482 (by decide) ?_
  refine lv_iadd hx hb dL_law_483 ?_
  refine va_sld hx hb hX hbl hbA hS (vp_in_nI (n := 1) (N := 3) (by omega) (by omega)) dL_law_484 ?_
  refine lw_cv (mj := mX11_filled) (k := 75) (kb := 19) (as := [.int (xs 1)]) (rest := [.int (sp_filled z0 (xs 1))]) (by exact okX11_filled) hC hD' hl.1 dL_law_485 (by decide +kernel) (by exact arX11_filled) (M_filled (d := 30) (z := z0) (xs 1) z0_OK hM (by omega)) rfl rfl rfl (by omega) (Nat.le_of_ble_eq_true rfl) ⟨by omega, by omega⟩ (fun r2 sg2 mu2 nu2 al2 H2 locs2 hQ2 hal2 hn2 hD2 => ?_)
  obtain ⟨rfl, rfl, -, -⟩ := hQ2
  have hl : lv_has ls 4 [(3, .int 0), (2, .ref (al2 19)), (1, .ref (al2 0)), (0, .ref b)] := by
    rw [hal2 19 (Nat.le_of_ble_eq_true rfl), hal2 0 (Nat.le_of_ble_eq_true rfl)]
    exact hl
  show W _ _ _ _ _ _ _ _ _ _ _ _ _ _ _ (F0 m 488 ls [.int (sp_filled z0 (xs 1)), .int (sp_filled z0 (xs 1))])
  refine lv_icmp_eq (tgt := 715) hx hb dL_law_488 (by decide) (fun q => ?_) (fun q => absurd rfl q)
  exact law_next hC hD2.2.2 hl (by omega) (by omega)
-- canBe
set_option maxRecDepth 100000 in
set_option maxHeartbeats 2000000 in
theorem law_c15 (hC : lw_C cx p s m meth c b 3 xs) (hD : lw_D cx s al H locs (sh_ none none []) mu nu) (hl : lv_has ls 4 [(3, .int 0), (2, .ref (al 19)), (1, .ref (al 0)), (0, .ref b)]) (hX0 : X0 mu) (hM : MA z0 mu) (hc : cells ≤ 1000) (hs : slots ≤ 1000000) : W p cx.1 e room_1 s m #[Value.ref b] below meth c H locs cells slots (lw_Z below #[Value.ref b] s) (F0 m 493 ls []) := by
  obtain ⟨⟨hx, hb, hr, hml, hown, hts, hX, hbl, hlocks, hgv⟩, hK, hN⟩ := id hC
  have hbA : ¬ lw_A s b := Nat.not_le.mpr hbl
  have hS := hD.2.2
  refine lv_aload_n hx hb dL_law_493 rfl (lv_at hl 2 rfl) ?_
  refine lw_cv (mj := mX10_canBe) (k := 76) (kb := 0) (as := []) (rest := []) (by exact okX10_canBe) hC hD hl.1 dL_law_494 (by decide +kernel) (by exact arX10_canBe) (P_canBe (d := 30) hX0 (by omega)) rfl rfl rfl (by omega) (Nat.le_of_ble_eq_true rfl) ⟨by omega, by omega⟩ (fun r sg' mu' nu' al' H' locs' hQ hal hn hD' => ?_)
  obtain ⟨rfl, ⟨i0, i1, ex, rfl⟩, hf⟩ := hQ
  have hl : lv_has ls 4 [(3, .int 0), (2, .ref (al' 19)), (1, .ref (al' 0)), (0, .ref b)] := by
    rw [hal 19 (Nat.le_of_ble_eq_true rfl), hal 0 (Nat.le_of_ble_eq_true rfl)]
    exact hl
  have hM : MA z0 mu' := hM.same (fun j hj => by rw [hf 19 (by omega) (by omega)]) (fun k h1 h2 => hf k (by omega) (by omega)) (hf 38 (by omega) (by omega)) (hf 39 (by omega) (by omega))
  have hS := hD'.2.2
  refine lv_aload_n hx hb dL_law_497 rfl (lv_at hl 1 rfl) ?_
  refine lw_cv (mj := mX11_canBe) (k := 79) (kb := 19) (as := []) (rest := [.int (sp_canBe z0)]) (by exact okX11_canBe) hC hD' hl.1 dL_law_498 (by decide +kernel) (by exact arX11_canBe) (M_canBe (d := 30) (z := z0) z0_OK hM (by omega)) rfl rfl rfl (by omega) (Nat.le_of_ble_eq_true rfl) ⟨by omega, by omega⟩ (fun r2 sg2 mu2 nu2 al2 H2 locs2 hQ2 hal2 hn2 hD2 => ?_)
  obtain ⟨rfl, rfl, -, -⟩ := hQ2
  have hl : lv_has ls 4 [(3, .int 0), (2, .ref (al2 19)), (1, .ref (al2 0)), (0, .ref b)] := by
    rw [hal2 19 (Nat.le_of_ble_eq_true rfl), hal2 0 (Nat.le_of_ble_eq_true rfl)]
    exact hl
  show W _ _ _ _ _ _ _ _ _ _ _ _ _ _ _ (F0 m 501 ls [.int (sp_canBe z0), .int (sp_canBe z0)])
  refine lv_icmp_eq (tgt := 715) hx hb dL_law_501 (by decide) (fun q => ?_) (fun q => absurd rfl q)
  exact law_next hC hD2.2.2 hl (by omega) (by omega)
-- orders
set_option maxRecDepth 100000 in
set_option maxHeartbeats 2000000 in
theorem law_c16 (hC : lw_C cx p s m meth c b 3 xs) (hD : lw_D cx s al H locs (sh_ none none []) mu nu) (hl : lv_has ls 4 [(3, .int 0), (2, .ref (al 19)), (1, .ref (al 0)), (0, .ref b)]) (hX0 : X0 mu) (hM : MA z0 mu) (hc : cells ≤ 1000) (hs : slots ≤ 1000000) : W p cx.1 e room_1 s m #[Value.ref b] below meth c H locs cells slots (lw_Z below #[Value.ref b] s) (F0 m 506 ls []) := by
  obtain ⟨⟨hx, hb, hr, hml, hown, hts, hX, hbl, hlocks, hgv⟩, hK, hN⟩ := id hC
  have hbA : ¬ lw_A s b := Nat.not_le.mpr hbl
  have hS := hD.2.2
  refine lv_aload_n hx hb dL_law_506 rfl (lv_at hl 2 rfl) ?_
  refine lv_aload_n hx hb dL_law_507 rfl (lv_at hl 3 rfl) ?_
  refine lv_iload_n hx hb dL_law_508 rfl (lv_at hl 0 rfl) ?_
  refine lv_iconst (v := 1) hx hb dL_law_509 (by decide) ?_
  refine lv_iadd hx hb dL_law_510 ?_
  refine va_sld hx hb hX hbl hbA hS (vp_in_nI (n := 1) (N := 3) (by omega) (by omega)) dL_law_511 ?_
  refine lv_aload_n hx hb dL_law_512 rfl (lv_at hl 3 rfl) ?_
  refine lv_iload_n hx hb dL_law_513 rfl (lv_at hl 0 rfl) ?_
  refine lv_iconst (v := 2) hx hb dL_law_514 (by decide) ?_
  refine lv_iadd hx hb dL_law_515 ?_
  refine va_sld hx hb hX hbl hbA hS (vp_in_nI (n := 2) (N := 3) (by omega) (by omega)) dL_law_516 ?_
  refine lw_cv (mj := mX10_orders) (k := 80) (kb := 0) (as := [.int (xs 1), .int (xs 2)]) (rest := []) (by exact okX10_orders) hC hD hl.1 dL_law_517 (by decide +kernel) (by exact arX10_orders) (P_orders (d := 30) (xs 1) (xs 2) (by omega)) rfl rfl rfl (by omega) (Nat.le_of_ble_eq_true rfl) ⟨by omega, by omega⟩ (fun r sg' mu' nu' al' H' locs' hQ hal hn hD' => ?_)
  obtain ⟨rfl, ⟨i0, i1, ex, rfl⟩, hf⟩ := hQ
  have hl : lv_has ls 4 [(3, .int 0), (2, .ref (al' 19)), (1, .ref (al' 0)), (0, .ref b)] := by
    rw [hal 19 (Nat.le_of_ble_eq_true rfl), hal 0 (Nat.le_of_ble_eq_true rfl)]
    exact hl
  have hM : MA z0 mu' := hM.same (fun j hj => by rw [hf 19 (by omega) (by omega)]) (fun k h1 h2 => hf k (by omega) (by omega)) (hf 38 (by omega) (by omega)) (hf 39 (by omega) (by omega))
  have hS := hD'.2.2
  refine lv_aload_n hx hb dL_law_520 rfl (lv_at hl 1 rfl) ?_
  refine lv_aload_n hx hb dL_law_521 rfl (lv_at hl 3 rfl) ?_
  refine lv_iload_n hx hb dL_law_522 rfl (lv_at hl 0 rfl) ?_
  refine lv_iconst (v := 1) hx hb dL_law_523 (by decide) ?_
  refine lv_iadd hx hb dL_law_524 ?_
  refine va_sld hx hb hX hbl hbA hS (vp_in_nI (n := 1) (N := 3) (by omega) (by omega)) dL_law_525 ?_
  refine lv_aload_n hx hb dL_law_526 rfl (lv_at hl 3 rfl) ?_
  refine lv_iload_n hx hb dL_law_527 rfl (lv_at hl 0 rfl) ?_
  refine lv_iconst (v := 2) hx hb dL_law_528 (by decide) ?_
  refine lv_iadd hx hb dL_law_529 ?_
  refine va_sld hx hb hX hbl hbA hS (vp_in_nI (n := 2) (N := 3) (by omega) (by omega)) dL_law_530 ?_
  refine lw_cv (mj := mX11_orders) (k := 84) (kb := 19) (as := [.int (xs 1), .int (xs 2)]) (rest := [.long (sp_orders (xs 1) (xs 2))]) (by exact okX11_orders) hC hD' hl.1 dL_law_531 (by decide +kernel) (by exact arX11_orders) (M_orders (d := 30) (z := z0) (xs 1) (xs 2) hM (by omega)) rfl rfl rfl (by omega) (Nat.le_of_ble_eq_true rfl) ⟨by omega, by omega⟩ (fun r2 sg2 mu2 nu2 al2 H2 locs2 hQ2 hal2 hn2 hD2 => ?_)
  obtain ⟨rfl, rfl, -, -⟩ := hQ2
  have hl : lv_has ls 4 [(3, .int 0), (2, .ref (al2 19)), (1, .ref (al2 0)), (0, .ref b)] := by
    rw [hal2 19 (Nat.le_of_ble_eq_true rfl), hal2 0 (Nat.le_of_ble_eq_true rfl)]
    exact hl
  show W _ _ _ _ _ _ _ _ _ _ _ _ _ _ _ (F0 m 534 ls [.long (sp_orders (xs 1) (xs 2)), .long (sp_orders (xs 1) (xs 2))])
  refine W.lcmp hx hb dL_law_534 ?_
  refine lv_if_eq (tgt := 715) hx hb dL_law_535 (by decide) (fun q => ?_) (fun q => absurd (lg_cmp_self _) q)
  exact law_next hC hD2.2.2 hl (by omega) (by omega)
end

/-! ===== the law, case by case ===== -/
section
variable {cx : pm_CX} {p : Program} {e : Env} {s : State} {m : MethodId} {below : List Frame} {meth : Method} {c : Code} {b : Nat} {xs : Nat → Int32} {al : Nat → Nat} {H : Heap} {locs : List Loc} {mu : pm_I} {nu : pm_J} {cells slots : Nat} {ls : Array Slot}
-- pattern
set_option maxRecDepth 100000 in
set_option maxHeartbeats 2000000 in
theorem law_c17 (hC : lw_C cx p s m meth c b 3 xs) (hD : lw_D cx s al H locs (sh_ none none []) mu nu) (hl : lv_has ls 4 [(3, .int 0), (2, .ref (al 19)), (1, .ref (al 0)), (0, .ref b)]) (hX0 : X0 mu) (hM : MA z0 mu) (hc : cells ≤ 1000) (hs : slots ≤ 1000000) : W p cx.1 e room_1 s m #[Value.ref b] below meth c H locs cells slots (lw_Z below #[Value.ref b] s) (F0 m 540 ls []) := by
  obtain ⟨⟨hx, hb, hr, hml, hown, hts, hX, hbl, hlocks, hgv⟩, hK, hN⟩ := id hC
  have hbA : ¬ lw_A s b := Nat.not_le.mpr hbl
  have hS := hD.2.2
  refine lv_aload_n hx hb dL_law_540 rfl (lv_at hl 2 rfl) ?_
  refine lv_aload_n hx hb dL_law_541 rfl (lv_at hl 3 rfl) ?_
  refine lv_iload_n hx hb dL_law_542 rfl (lv_at hl 0 rfl) ?_
  refine lv_iconst (v := 1) hx hb dL_law_543 (by decide) ?_
  refine lv_iadd hx hb dL_law_544 ?_
  refine va_sld hx hb hX hbl hbA hS (vp_in_nI (n := 1) (N := 3) (by omega) (by omega)) dL_law_545 ?_
  refine lw_cv (mj := mX10_pattern) (k := 85) (kb := 0) (as := [.int (xs 1)]) (rest := []) (by exact okX10_pattern) hC hD hl.1 dL_law_546 (by decide +kernel) (by exact arX10_pattern) (P_pattern (d := 30) (xs 1) hX0 (by omega)) rfl rfl rfl (by omega) (Nat.le_of_ble_eq_true rfl) ⟨by omega, by omega⟩ (fun r sg' mu' nu' al' H' locs' hQ hal hn hD' => ?_)
  obtain ⟨rfl, ⟨i0, i1, ex, rfl⟩, hf⟩ := hQ
  have hl : lv_has ls 4 [(3, .int 0), (2, .ref (al' 19)), (1, .ref (al' 0)), (0, .ref b)] := by
    rw [hal 19 (Nat.le_of_ble_eq_true rfl), hal 0 (Nat.le_of_ble_eq_true rfl)]
    exact hl
  have hM : MA z0 mu' := hM.same (fun j hj => by rw [hf 19 (by omega) (by omega)]) (fun k h1 h2 => hf k (by omega) (by omega)) (hf 38 (by omega) (by omega)) (hf 39 (by omega) (by omega))
  have hS := hD'.2.2
  refine lv_aload_n hx hb dL_law_549 rfl (lv_at hl 1 rfl) ?_
  refine lv_aload_n hx hb dL_law_550 rfl (lv_at hl 3 rfl) ?_
  refine lv_iload_n hx hb dL_law_551 rfl (lv_at hl 0 rfl) ?_
  refine lv_iconst (v := 1) hx hb dL_law_552 (by decide) ?_
  refine lv_iadd hx hb dL_law_553 ?_
  refine va_sld hx hb hX hbl hbA hS (vp_in_nI (n := 1) (N := 3) (by omega) (by omega)) dL_law_554 ?_
  refine lw_cv (mj := mX11_pattern) (k := 88) (kb := 19) (as := [.int (xs 1)]) (rest := [.int (sp_pattern z0 (xs 1))]) (by exact okX11_pattern) hC hD' hl.1 dL_law_555 (by decide +kernel) (by exact arX11_pattern) (M_pattern (d := 30) (z := z0) (xs 1) z0_OK hM (by omega)) rfl rfl rfl (by omega) (Nat.le_of_ble_eq_true rfl) ⟨by omega, by omega⟩ (fun r2 sg2 mu2 nu2 al2 H2 locs2 hQ2 hal2 hn2 hD2 => ?_)
  obtain ⟨rfl, rfl, -, -⟩ := hQ2
  have hl : lv_has ls 4 [(3, .int 0), (2, .ref (al2 19)), (1, .ref (al2 0)), (0, .ref b)] := by
    rw [hal2 19 (Nat.le_of_ble_eq_true rfl), hal2 0 (Nat.le_of_ble_eq_true rfl)]
    exact hl
  show W _ _ _ _ _ _ _ _ _ _ _ _ _ _ _ (F0 m 558 ls [.int (sp_pattern z0 (xs 1)), .int (sp_pattern z0 (xs 1))])
  refine lv_icmp_eq (tgt := 715) hx hb dL_law_558 (by decide) (fun q => ?_) (fun q => absurd rfl q)
  exact law_next hC hD2.2.2 hl (by omega) (by omega)
-- behind
set_option maxRecDepth 100000 in
set_option maxHeartbeats 2000000 in
theorem law_c18 (hC : lw_C cx p s m meth c b 3 xs) (hD : lw_D cx s al H locs (sh_ none none []) mu nu) (hl : lv_has ls 4 [(3, .int 0), (2, .ref (al 19)), (1, .ref (al 0)), (0, .ref b)]) (hX0 : X0 mu) (hM : MA z0 mu) (hc : cells ≤ 1000) (hs : slots ≤ 1000000) : W p cx.1 e room_1 s m #[Value.ref b] below meth c H locs cells slots (lw_Z below #[Value.ref b] s) (F0 m 563 ls []) := by
  obtain ⟨⟨hx, hb, hr, hml, hown, hts, hX, hbl, hlocks, hgv⟩, hK, hN⟩ := id hC
  have hbA : ¬ lw_A s b := Nat.not_le.mpr hbl
  have hS := hD.2.2
  refine lv_aload_n hx hb dL_law_563 rfl (lv_at hl 2 rfl) ?_
  refine lw_cv (mj := mX10_behind) (k := 89) (kb := 0) (as := []) (rest := []) (by exact okX10_behind) hC hD hl.1 dL_law_564 (by decide +kernel) (by exact arX10_behind) (P_behind (d := 30) hX0 (by omega)) rfl rfl rfl (by omega) (Nat.le_of_ble_eq_true rfl) ⟨by omega, by omega⟩ (fun r sg' mu' nu' al' H' locs' hQ hal hn hD' => ?_)
  obtain ⟨rfl, ⟨i0, i1, ex, rfl⟩, hf⟩ := hQ
  have hl : lv_has ls 4 [(3, .int 0), (2, .ref (al' 19)), (1, .ref (al' 0)), (0, .ref b)] := by
    rw [hal 19 (Nat.le_of_ble_eq_true rfl), hal 0 (Nat.le_of_ble_eq_true rfl)]
    exact hl
  have hM : MA z0 mu' := hM.same (fun j hj => by rw [hf 19 (by omega) (by omega)]) (fun k h1 h2 => hf k (by omega) (by omega)) (hf 38 (by omega) (by omega)) (hf 39 (by omega) (by omega))
  have hS := hD'.2.2
  refine lv_aload_n hx hb dL_law_567 rfl (lv_at hl 1 rfl) ?_
  refine lw_cv (mj := mX11_behind) (k := 92) (kb := 19) (as := []) (rest := [.int (-5)]) (by exact okX11_behind) hC hD' hl.1 dL_law_568 (by decide +kernel) (by exact arX11_behind) (R_behind (d := 30) hM (by omega)) rfl rfl rfl (by omega) (Nat.le_of_ble_eq_true rfl) ⟨by omega, by omega⟩ (fun r2 sg2 mu2 nu2 al2 H2 locs2 hQ2 hal2 hn2 hD2 => ?_)
  obtain ⟨rfl, rfl, -, -⟩ := hQ2
  have hl : lv_has ls 4 [(3, .int 0), (2, .ref (al2 19)), (1, .ref (al2 0)), (0, .ref b)] := by
    rw [hal2 19 (Nat.le_of_ble_eq_true rfl), hal2 0 (Nat.le_of_ble_eq_true rfl)]
    exact hl
  show W _ _ _ _ _ _ _ _ _ _ _ _ _ _ _ (F0 m 571 ls [.int (-5), .int (-5)])
  refine lv_icmp_eq (tgt := 715) hx hb dL_law_571 (by decide) (fun q => ?_) (fun q => absurd rfl q)
  exact law_next hC hD2.2.2 hl (by omega) (by omega)
-- fewest
set_option maxRecDepth 100000 in
set_option maxHeartbeats 2000000 in
theorem law_c19 (hC : lw_C cx p s m meth c b 3 xs) (hD : lw_D cx s al H locs (sh_ none none []) mu nu) (hl : lv_has ls 4 [(3, .int 0), (2, .ref (al 19)), (1, .ref (al 0)), (0, .ref b)]) (hX0 : X0 mu) (hM : MA z0 mu) (hc : cells ≤ 1000) (hs : slots ≤ 1000000) : W p cx.1 e room_1 s m #[Value.ref b] below meth c H locs cells slots (lw_Z below #[Value.ref b] s) (F0 m 576 ls []) := by
  obtain ⟨⟨hx, hb, hr, hml, hown, hts, hX, hbl, hlocks, hgv⟩, hK, hN⟩ := id hC
  have hbA : ¬ lw_A s b := Nat.not_le.mpr hbl
  have hS := hD.2.2
  refine lv_aload_n hx hb dL_law_576 rfl (lv_at hl 2 rfl) ?_
  refine lv_aload_n hx hb dL_law_577 rfl (lv_at hl 3 rfl) ?_
  refine lv_iload_n hx hb dL_law_578 rfl (lv_at hl 0 rfl) ?_
  refine lv_iconst (v := 1) hx hb dL_law_579 (by decide) ?_
  refine lv_iadd hx hb dL_law_580 ?_
  refine va_sld hx hb hX hbl hbA hS (vp_in_nI (n := 1) (N := 3) (by omega) (by omega)) dL_law_581 ?_
  refine lw_cv (mj := mX10_fewest) (k := 93) (kb := 0) (as := [.int (xs 1)]) (rest := []) (by exact okX10_fewest) hC hD hl.1 dL_law_582 (by decide +kernel) (by exact arX10_fewest) (P_fewest (d := 30) (xs 1) hX0 (by omega)) rfl rfl rfl (by omega) (Nat.le_of_ble_eq_true rfl) ⟨by omega, by omega⟩ (fun r sg' mu' nu' al' H' locs' hQ hal hn hD' => ?_)
  obtain ⟨rfl, ⟨i0, i1, ex, rfl⟩, hf⟩ := hQ
  have hl : lv_has ls 4 [(3, .int 0), (2, .ref (al' 19)), (1, .ref (al' 0)), (0, .ref b)] := by
    rw [hal 19 (Nat.le_of_ble_eq_true rfl), hal 0 (Nat.le_of_ble_eq_true rfl)]
    exact hl
  have hM : MA z0 mu' := hM.same (fun j hj => by rw [hf 19 (by omega) (by omega)]) (fun k h1 h2 => hf k (by omega) (by omega)) (hf 38 (by omega) (by omega)) (hf 39 (by omega) (by omega))
  have hS := hD'.2.2
  refine lv_aload_n hx hb dL_law_585 rfl (lv_at hl 1 rfl) ?_
  refine lv_aload_n hx hb dL_law_586 rfl (lv_at hl 3 rfl) ?_
  refine lv_iload_n hx hb dL_law_587 rfl (lv_at hl 0 rfl) ?_
  refine lv_iconst (v := 1) hx hb dL_law_588 (by decide) ?_
  refine lv_iadd hx hb dL_law_589 ?_
  refine va_sld hx hb hX hbl hbA hS (vp_in_nI (n := 1) (N := 3) (by omega) (by omega)) dL_law_590 ?_
  refine lw_cv (mj := mX11_fewest) (k := 96) (kb := 19) (as := [.int (xs 1)]) (rest := [.int (-5)]) (by exact okX11_fewest) hC hD' hl.1 dL_law_591 (by decide +kernel) (by exact arX11_fewest) (R_fewest (d := 30) (xs 1) hM (by omega)) rfl rfl rfl (by omega) (Nat.le_of_ble_eq_true rfl) ⟨by omega, by omega⟩ (fun r2 sg2 mu2 nu2 al2 H2 locs2 hQ2 hal2 hn2 hD2 => ?_)
  obtain ⟨rfl, rfl, -, -⟩ := hQ2
  have hl : lv_has ls 4 [(3, .int 0), (2, .ref (al2 19)), (1, .ref (al2 0)), (0, .ref b)] := by
    rw [hal2 19 (Nat.le_of_ble_eq_true rfl), hal2 0 (Nat.le_of_ble_eq_true rfl)]
    exact hl
  show W _ _ _ _ _ _ _ _ _ _ _ _ _ _ _ (F0 m 594 ls [.int (-5), .int (-5)])
  refine lv_icmp_eq (tgt := 715) hx hb dL_law_594 (by decide) (fun q => ?_) (fun q => absurd rfl q)
  exact law_next hC hD2.2.2 hl (by omega) (by omega)
-- chance
set_option maxRecDepth 100000 in
set_option maxHeartbeats 2000000 in
theorem law_c20 (hC : lw_C cx p s m meth c b 3 xs) (hD : lw_D cx s al H locs (sh_ none none []) mu nu) (hl : lv_has ls 4 [(3, .int 0), (2, .ref (al 19)), (1, .ref (al 0)), (0, .ref b)]) (hX0 : X0 mu) (hM : MA z0 mu) (hc : cells ≤ 1000) (hs : slots ≤ 1000000) : W p cx.1 e room_1 s m #[Value.ref b] below meth c H locs cells slots (lw_Z below #[Value.ref b] s) (F0 m 599 ls []) := by
  obtain ⟨⟨hx, hb, hr, hml, hown, hts, hX, hbl, hlocks, hgv⟩, hK, hN⟩ := id hC
  have hbA : ¬ lw_A s b := Nat.not_le.mpr hbl
  have hS := hD.2.2
  refine lv_aload_n hx hb dL_law_599 rfl (lv_at hl 2 rfl) ?_
  refine lv_aload_n hx hb dL_law_600 rfl (lv_at hl 3 rfl) ?_
  refine lv_iload_n hx hb dL_law_601 rfl (lv_at hl 0 rfl) ?_
  refine lv_iconst (v := 1) hx hb dL_law_602 (by decide) ?_
  refine lv_iadd hx hb dL_law_603 ?_
  refine va_sld hx hb hX hbl hbA hS (vp_in_nI (n := 1) (N := 3) (by omega) (by omega)) dL_law_604 ?_
  refine lw_cv (mj := mX10_chance) (k := 97) (kb := 0) (as := [.int (xs 1)]) (rest := []) (by exact okX10_chance) hC hD hl.1 dL_law_605 (by decide +kernel) (by exact arX10_chance) (P_chance (d := 30) (xs 1) hX0 (by omega)) rfl rfl rfl (by omega) (Nat.le_of_ble_eq_true rfl) ⟨by omega, by omega⟩ (fun r sg' mu' nu' al' H' locs' hQ hal hn hD' => ?_)
  obtain ⟨rfl, ⟨i0, i1, ex, rfl⟩, hf⟩ := hQ
  have hl : lv_has ls 4 [(3, .int 0), (2, .ref (al' 19)), (1, .ref (al' 0)), (0, .ref b)] := by
    rw [hal 19 (Nat.le_of_ble_eq_true rfl), hal 0 (Nat.le_of_ble_eq_true rfl)]
    exact hl
  have hM : MA z0 mu' := hM.same (fun j hj => by rw [hf 19 (by omega) (by omega)]) (fun k h1 h2 => hf k (by omega) (by omega)) (hf 38 (by omega) (by omega)) (hf 39 (by omega) (by omega))
  have hS := hD'.2.2
  refine lv_aload_n hx hb dL_law_608 rfl (lv_at hl 1 rfl) ?_
  refine lv_aload_n hx hb dL_law_609 rfl (lv_at hl 3 rfl) ?_
  refine lv_iload_n hx hb dL_law_610 rfl (lv_at hl 0 rfl) ?_
  refine lv_iconst (v := 1) hx hb dL_law_611 (by decide) ?_
  refine lv_iadd hx hb dL_law_612 ?_
  refine va_sld hx hb hX hbl hbA hS (vp_in_nI (n := 1) (N := 3) (by omega) (by omega)) dL_law_613 ?_
  refine lw_cv (mj := mX11_chance) (k := 101) (kb := 19) (as := [.int (xs 1)]) (rest := [.long (sp_chance z0 (xs 1))]) (by exact okX11_chance) hC hD' hl.1 dL_law_614 (by decide +kernel) (by exact arX11_chance) (M_chance (d := 30) (z := z0) (xs 1) z0_OK hM (by omega)) rfl rfl rfl (by omega) (Nat.le_of_ble_eq_true rfl) ⟨by omega, by omega⟩ (fun r2 sg2 mu2 nu2 al2 H2 locs2 hQ2 hal2 hn2 hD2 => ?_)
  obtain ⟨rfl, rfl, -, -⟩ := hQ2
  have hl : lv_has ls 4 [(3, .int 0), (2, .ref (al2 19)), (1, .ref (al2 0)), (0, .ref b)] := by
    rw [hal2 19 (Nat.le_of_ble_eq_true rfl), hal2 0 (Nat.le_of_ble_eq_true rfl)]
    exact hl
  show W _ _ _ _ _ _ _ _ _ _ _ _ _ _ _ (F0 m 617 ls [.long (sp_chance z0 (xs 1)), .long (sp_chance z0 (xs 1))])
  refine W.lcmp hx hb dL_law_617 ?_
  refine lv_if_eq (tgt := 715) hx hb dL_law_618 (by decide) (fun q => ?_) (fun q => absurd (lg_cmp_self _) q)
  exact law_next hC hD2.2.2 hl (by omega) (by omega)
-- turns
set_option maxRecDepth 100000 in
set_option maxHeartbeats 2000000 in
theorem law_c21 (hC : lw_C cx p s m meth c b 3 xs) (hD : lw_D cx s al H locs (sh_ none none []) mu nu) (hl : lv_has ls 4 [(3, .int 0), (2, .ref (al 19)), (1, .ref (al 0)), (0, .ref b)]) (hX0 : X0 mu) (hM : MA z0 mu) (hc : cells ≤ 1000) (hs : slots ≤ 1000000) : W p cx.1 e room_1 s m #[Value.ref b] below meth c H locs cells slots (lw_Z below #[Value.ref b] s) (F0 m 623 ls []) := by
  obtain ⟨⟨hx, hb, hr, hml, hown, hts, hX, hbl, hlocks, hgv⟩, hK, hN⟩ := id hC
  have hbA : ¬ lw_A s b := Nat.not_le.mpr hbl
  have hS := hD.2.2
  refine lv_aload_n hx hb dL_law_623 rfl (lv_at hl 2 rfl) ?_
  refine lv_aload_n hx hb dL_law_624 rfl (lv_at hl 3 rfl) ?_
  refine lv_iload_n hx hb dL_law_625 rfl (lv_at hl 0 rfl) ?_
  refine lv_iconst (v := 1) hx hb dL_law_626 (by decide) ?_
  refine lv_iadd hx hb dL_law_627 ?_
  refine va_sld hx hb hX hbl hbA hS (vp_in_nI (n := 1) (N := 3) (by omega) (by omega)) dL_law_628 ?_
  refine lw_cv (mj := mX10_turns) (k := 102) (kb := 0) (as := [.int (xs 1)]) (rest := []) (by exact okX10_turns) hC hD hl.1 dL_law_629 (by decide +kernel) (by exact arX10_turns) (P_turns (dd := 30) (xs 1) hX0 (by omega)) rfl rfl rfl (by omega) (Nat.le_of_ble_eq_true rfl) ⟨by omega, by omega⟩ (fun r sg' mu' nu' al' H' locs' hQ hal hn hD' => ?_)
  obtain ⟨rfl, ⟨i0, i1, ex, rfl⟩, hf⟩ := hQ
  have hl : lv_has ls 4 [(3, .int 0), (2, .ref (al' 19)), (1, .ref (al' 0)), (0, .ref b)] := by
    rw [hal 19 (Nat.le_of_ble_eq_true rfl), hal 0 (Nat.le_of_ble_eq_true rfl)]
    exact hl
  have hM : MA z0 mu' := hM.same (fun j hj => by rw [hf 19 (by omega) (by omega)]) (fun k h1 h2 => hf k (by omega) (by omega)) (hf 38 (by omega) (by omega)) (hf 39 (by omega) (by omega))
  have hS := hD'.2.2
  refine lv_aload_n hx hb dL_law_632 rfl (lv_at hl 1 rfl) ?_
  refine lv_aload_n hx hb dL_law_633 rfl (lv_at hl 3 rfl) ?_
  refine lv_iload_n hx hb dL_law_634 rfl (lv_at hl 0 rfl) ?_
  refine lv_iconst (v := 1) hx hb dL_law_635 (by decide) ?_
  refine lv_iadd hx hb dL_law_636 ?_
  refine va_sld hx hb hX hbl hbA hS (vp_in_nI (n := 1) (N := 3) (by omega) (by omega)) dL_law_637 ?_
  refine lw_cv (mj := mX11_turns) (k := 105) (kb := 19) (as := [.int (xs 1)]) (rest := [.int (sp_turns z0 (xs 1))]) (by exact okX11_turns) hC hD' hl.1 dL_law_638 (by decide +kernel) (by exact arX11_turns) (M_turns (d0 := 30) (z := z0) (xs 1) z0_OK hM (by omega)) rfl rfl rfl (by omega) (Nat.le_of_ble_eq_true rfl) ⟨by omega, by omega⟩ (fun r2 sg2 mu2 nu2 al2 H2 locs2 hQ2 hal2 hn2 hD2 => ?_)
  obtain ⟨rfl, rfl, -, -⟩ := hQ2
  have hl : lv_has ls 4 [(3, .int 0), (2, .ref (al2 19)), (1, .ref (al2 0)), (0, .ref b)] := by
    rw [hal2 19 (Nat.le_of_ble_eq_true rfl), hal2 0 (Nat.le_of_ble_eq_true rfl)]
    exact hl
  show W _ _ _ _ _ _ _ _ _ _ _ _ _ _ _ (F0 m 641 ls [.int (sp_turns z0 (xs 1)), .int (sp_turns z0 (xs 1))])
  refine lv_icmp_eq (tgt := 715) hx hb dL_law_641 (by decide) (fun q => ?_) (fun q => absurd rfl q)
  exact law_next hC hD2.2.2 hl (by omega) (by omega)
-- image
set_option maxRecDepth 100000 in
set_option maxHeartbeats 2000000 in
theorem law_c22 (hC : lw_C cx p s m meth c b 3 xs) (hD : lw_D cx s al H locs (sh_ none none []) mu nu) (hl : lv_has ls 4 [(3, .int 0), (2, .ref (al 19)), (1, .ref (al 0)), (0, .ref b)]) (hX0 : X0 mu) (hM : MA z0 mu) (hc : cells ≤ 1000) (hs : slots ≤ 1000000) : W p cx.1 e room_1 s m #[Value.ref b] below meth c H locs cells slots (lw_Z below #[Value.ref b] s) (F0 m 646 ls []) := by
  obtain ⟨⟨hx, hb, hr, hml, hown, hts, hX, hbl, hlocks, hgv⟩, hK, hN⟩ := id hC
  have hbA : ¬ lw_A s b := Nat.not_le.mpr hbl
  have hS := hD.2.2
  refine lv_aload_n hx hb dL_law_646 rfl (lv_at hl 2 rfl) ?_
  refine lv_aload_n hx hb dL_law_647 rfl (lv_at hl 3 rfl) ?_
  refine lv_iload_n hx hb dL_law_648 rfl (lv_at hl 0 rfl) ?_
  refine lv_iconst (v := 1) hx hb dL_law_649 (by decide) ?_
  refine lv_iadd hx hb dL_law_650 ?_
  refine va_sld hx hb hX hbl hbA hS (vp_in_nI (n := 1) (N := 3) (by omega) (by omega)) dL_law_651 ?_
  refine lw_cv (mj := mX10_image) (k := 106) (kb := 0) (as := [.int (xs 1)]) (rest := []) (by exact okX10_image) hC hD hl.1 dL_law_652 (by decide +kernel) (by exact arX10_image) (P_image (d := 30) (xs 1) hX0 (by omega)) rfl rfl rfl (by omega) (Nat.le_of_ble_eq_true rfl) ⟨by omega, by omega⟩ (fun r sg' mu' nu' al' H' locs' hQ hal hn hD' => ?_)
  obtain ⟨rfl, ⟨i0, i1, ex, rfl⟩, hf⟩ := hQ
  have hl : lv_has ls 4 [(3, .int 0), (2, .ref (al' 19)), (1, .ref (al' 0)), (0, .ref b)] := by
    rw [hal 19 (Nat.le_of_ble_eq_true rfl), hal 0 (Nat.le_of_ble_eq_true rfl)]
    exact hl
  have hM : MA z0 mu' := hM.same (fun j hj => by rw [hf 19 (by omega) (by omega)]) (fun k h1 h2 => hf k (by omega) (by omega)) (hf 38 (by omega) (by omega)) (hf 39 (by omega) (by omega))
  have hS := hD'.2.2
  refine lv_aload_n hx hb dL_law_655 rfl (lv_at hl 1 rfl) ?_
  refine lv_aload_n hx hb dL_law_656 rfl (lv_at hl 3 rfl) ?_
  refine lv_iload_n hx hb dL_law_657 rfl (lv_at hl 0 rfl) ?_
  refine lv_iconst (v := 1) hx hb dL_law_658 (by decide) ?_
  refine lv_iadd hx hb dL_law_659 ?_
  refine va_sld hx hb hX hbl hbA hS (vp_in_nI (n := 1) (N := 3) (by omega) (by omega)) dL_law_660 ?_
  refine lw_cv (mj := mX11_image) (k := 109) (kb := 19) (as := [.int (xs 1)]) (rest := [.int (sp_image z0 (xs 1)).1]) (by exact okX11_image) hC hD' hl.1 dL_law_661 (by decide +kernel) (by exact arX11_image) (M_image (d := 30) (z := z0) (xs 1) z0_OK hM (by omega)) rfl rfl rfl (by omega) (Nat.le_of_ble_eq_true rfl) ⟨by omega, by omega⟩ (fun r2 sg2 mu2 nu2 al2 H2 locs2 hQ2 hal2 hn2 hD2 => ?_)
  obtain ⟨rfl, rfl, -, -⟩ := hQ2
  have hl : lv_has ls 4 [(3, .int 0), (2, .ref (al2 19)), (1, .ref (al2 0)), (0, .ref b)] := by
    rw [hal2 19 (Nat.le_of_ble_eq_true rfl), hal2 0 (Nat.le_of_ble_eq_true rfl)]
    exact hl
  show W _ _ _ _ _ _ _ _ _ _ _ _ _ _ _ (F0 m 664 ls [.int (sp_image z0 (xs 1)).1, .int (sp_image z0 (xs 1)).1])
  refine lv_icmp_eq (tgt := 715) hx hb dL_law_664 (by decide) (fun q => ?_) (fun q => absurd rfl q)
  exact law_next hC hD2.2.2 hl (by omega) (by omega)
-- restore
set_option maxRecDepth 100000 in
set_option maxHeartbeats 2000000 in
theorem law_c23 (hC : lw_C cx p s m meth c b 3 xs) (hD : lw_D cx s al H locs (sh_ none none []) mu nu) (hl : lv_has ls 4 [(3, .int 0), (2, .ref (al 19)), (1, .ref (al 0)), (0, .ref b)]) (hX0 : X0 mu) (hM : MA z0 mu) (hc : cells ≤ 1000) (hs : slots ≤ 1000000) : W p cx.1 e room_1 s m #[Value.ref b] below meth c H locs cells slots (lw_Z below #[Value.ref b] s) (F0 m 669 ls []) := by
  obtain ⟨⟨hx, hb, hr, hml, hown, hts, hX, hbl, hlocks, hgv⟩, hK, hN⟩ := id hC
  have hbA : ¬ lw_A s b := Nat.not_le.mpr hbl
  have hS := hD.2.2
  refine lv_aload_n hx hb dL_law_669 rfl (lv_at hl 2 rfl) ?_
  refine lv_aload_n hx hb dL_law_670 rfl (lv_at hl 3 rfl) ?_
  refine lv_iload_n hx hb dL_law_671 rfl (lv_at hl 0 rfl) ?_
  refine lv_iconst (v := 1) hx hb dL_law_672 (by decide) ?_
  refine lv_iadd hx hb dL_law_673 ?_
  refine va_sld hx hb hX hbl hbA hS (vp_in_nI (n := 1) (N := 3) (by omega) (by omega)) dL_law_674 ?_
  refine lw_cv (mj := mX10_restore) (k := 110) (kb := 0) (as := [.int (xs 1)]) (rest := []) (by exact okX10_restore) hC hD hl.1 dL_law_675 (by decide +kernel) (by exact arX10_restore) (P_restore (d := 30) (xs 1) hX0 (by omega)) rfl rfl rfl (by omega) (Nat.le_of_ble_eq_true rfl) ⟨by omega, by omega⟩ (fun r sg' mu' nu' al' H' locs' hQ hal hn hD' => ?_)
  obtain ⟨rfl, ⟨i0, i1, ex, rfl⟩, hf⟩ := hQ
  have hl : lv_has ls 4 [(3, .int 0), (2, .ref (al' 19)), (1, .ref (al' 0)), (0, .ref b)] := by
    rw [hal 19 (Nat.le_of_ble_eq_true rfl), hal 0 (Nat.le_of_ble_eq_true rfl)]
    exact hl
  have hM : MA z0 mu' := hM.same (fun j hj => by rw [hf 19 (by omega) (by omega)]) (fun k h1 h2 => hf k (by omega) (by omega)) (hf 38 (by omega) (by omega)) (hf 39 (by omega) (by omega))
  have hS := hD'.2.2
  refine lv_aload_n hx hb dL_law_678 rfl (lv_at hl 1 rfl) ?_
  refine lv_aload_n hx hb dL_law_679 rfl (lv_at hl 3 rfl) ?_
  refine lv_iload_n hx hb dL_law_680 rfl (lv_at hl 0 rfl) ?_
  refine lv_iconst (v := 1) hx hb dL_law_681 (by decide) ?_
  refine lv_iadd hx hb dL_law_682 ?_
  refine va_sld hx hb hX hbl hbA hS (vp_in_nI (n := 1) (N := 3) (by omega) (by omega)) dL_law_683 ?_
  refine lw_cv (mj := mX11_restore) (k := 113) (kb := 19) (as := [.int (xs 1)]) (rest := [.int (sp_restore z0 (xs 1)).1]) (by exact okX11_restore) hC hD' hl.1 dL_law_684 (by decide +kernel) (by exact arX11_restore) (M_restore (d := 30) (z := z0) (xs 1) z0_OK hM (by omega)) rfl rfl rfl (by omega) (Nat.le_of_ble_eq_true rfl) ⟨by omega, by omega⟩ (fun r2 sg2 mu2 nu2 al2 H2 locs2 hQ2 hal2 hn2 hD2 => ?_)
  obtain ⟨rfl, rfl, -, -⟩ := hQ2
  have hl : lv_has ls 4 [(3, .int 0), (2, .ref (al2 19)), (1, .ref (al2 0)), (0, .ref b)] := by
    rw [hal2 19 (Nat.le_of_ble_eq_true rfl), hal2 0 (Nat.le_of_ble_eq_true rfl)]
    exact hl
  show W _ _ _ _ _ _ _ _ _ _ _ _ _ _ _ (F0 m 687 ls [.int (sp_restore z0 (xs 1)).1, .int (sp_restore z0 (xs 1)).1])
  refine lv_icmp_eq (tgt := 715) hx hb dL_law_687 (by decide) (fun q => ?_) (fun q => absurd rfl q)
  exact law_next hC hD2.2.2 hl (by omega) (by omega)
-- told
set_option maxRecDepth 100000 in
set_option maxHeartbeats 2000000 in
theorem law_c24 (hC : lw_C cx p s m meth c b 3 xs) (hD : lw_D cx s al H locs (sh_ none none []) mu nu) (hl : lv_has ls 4 [(3, .int 0), (2, .ref (al 19)), (1, .ref (al 0)), (0, .ref b)]) (hX0 : X0 mu) (hM : MA z0 mu) (hc : cells ≤ 1000) (hs : slots ≤ 1000000) : W p cx.1 e room_1 s m #[Value.ref b] below meth c H locs cells slots (lw_Z below #[Value.ref b] s) (F0 m 692 ls []) := by
  obtain ⟨⟨hx, hb, hr, hml, hown, hts, hX, hbl, hlocks, hgv⟩, hK, hN⟩ := id hC
  have hbA : ¬ lw_A s b := Nat.not_le.mpr hbl
  have hS := hD.2.2
  refine lv_aload_n hx hb dL_law_692 rfl (lv_at hl 2 rfl) ?_
  refine lv_aload_n hx hb dL_law_693 rfl (lv_at hl 3 rfl) ?_
  refine lv_iload_n hx hb dL_law_694 rfl (lv_at hl 0 rfl) ?_
  refine lv_iconst (v := 1) hx hb dL_law_695 (by decide) ?_
  refine lv_iadd hx hb dL_law_696 ?_
  refine va_sld hx hb hX hbl hbA hS (vp_in_nI (n := 1) (N := 3) (by omega) (by omega)) dL_law_697 ?_
  refine lw_cv (mj := mX10_told) (k := 114) (kb := 0) (as := [.int (xs 1)]) (rest := []) (by exact okX10_told) hC hD hl.1 dL_law_698 (by decide +kernel) (by exact arX10_told) (P_told (d := 30) (xs 1) hX0 (by omega)) rfl rfl rfl (by omega) (Nat.le_of_ble_eq_true rfl) ⟨by omega, by omega⟩ (fun r sg' mu' nu' al' H' locs' hQ hal hn hD' => ?_)
  obtain ⟨rfl, ⟨i0, i1, ex, rfl⟩, hf⟩ := hQ
  have hl : lv_has ls 4 [(3, .int 0), (2, .ref (al' 19)), (1, .ref (al' 0)), (0, .ref b)] := by
    rw [hal 19 (Nat.le_of_ble_eq_true rfl), hal 0 (Nat.le_of_ble_eq_true rfl)]
    exact hl
  have hM : MA z0 mu' := hM.same (fun j hj => by rw [hf 19 (by omega) (by omega)]) (fun k h1 h2 => hf k (by omega) (by omega)) (hf 38 (by omega) (by omega)) (hf 39 (by omega) (by omega))
  have hS := hD'.2.2
  refine lv_aload_n hx hb dL_law_701 rfl (lv_at hl 1 rfl) ?_
  refine lv_aload_n hx hb dL_law_702 rfl (lv_at hl 3 rfl) ?_
  refine lv_iload_n hx hb dL_law_703 rfl (lv_at hl 0 rfl) ?_
  refine lv_iconst (v := 1) hx hb dL_law_704 (by decide) ?_
  refine lv_iadd hx hb dL_law_705 ?_
  refine va_sld hx hb hX hbl hbA hS (vp_in_nI (n := 1) (N := 3) (by omega) (by omega)) dL_law_706 ?_
  refine lw_cv (mj := mX11_told) (k := 117) (kb := 19) (as := [.int (xs 1)]) (rest := [.int (sp_told z0 (xs 1))]) (by exact okX11_told) hC hD' hl.1 dL_law_707 (by decide +kernel) (by exact arX11_told) (M_told (d := 30) (z := z0) (xs 1) z0_OK hM (by omega)) rfl rfl rfl (by omega) (Nat.le_of_ble_eq_true rfl) ⟨by omega, by omega⟩ (fun r2 sg2 mu2 nu2 al2 H2 locs2 hQ2 hal2 hn2 hD2 => ?_)
  obtain ⟨rfl, rfl, -, -⟩ := hQ2
  have hl : lv_has ls 4 [(3, .int 0), (2, .ref (al2 19)), (1, .ref (al2 0)), (0, .ref b)] := by
    rw [hal2 19 (Nat.le_of_ble_eq_true rfl), hal2 0 (Nat.le_of_ble_eq_true rfl)]
    exact hl
  show W _ _ _ _ _ _ _ _ _ _ _ _ _ _ _ (F0 m 710 ls [.int (sp_told z0 (xs 1)), .int (sp_told z0 (xs 1))])
  refine lv_icmp_eq (tgt := 715) hx hb dL_law_710 (by decide) (fun q => ?_) (fun q => absurd rfl q)
  exact law_next hC hD2.2.2 hl (by omega) (by omega)
end

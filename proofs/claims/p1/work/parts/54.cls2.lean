/-! ===== more of the class's calls on a fresh object ===== -/
theorem ts_out {w : Int32} {n : Nat} (hn : n < 2 ^ 31) (h : ∀ k, k ≤ n → w ≠ nI k) : w.toInt < 0 ∨ (n : Int) < w.toInt := by
  by_cases h0 : w < 0
  · exact Or.inl (lt_toInt.mp h0)
  · obtain ⟨k, hk, rfl⟩ := nI_of h0
    rw [nI_toInt hk]
    rcases Nat.lt_or_ge n k with q | q
    · exact Or.inr (by omega)
    · exact absurd rfl (h k q)
theorem isB_0 {i : Int32} : ¬ isB 0 i := fun q => absurd q.1 (Int32.not_le.mpr q.2)
section
variable {cx : pm_CX} {d n0 : Nat} {i0 i1 : Option Nat} {ex : List pm_C} {mu : pm_I} {nu : pm_J}
set_option maxRecDepth 100000 in
set_option maxHeartbeats 1000000 in
theorem t_fWeek (h : X0 mu) (hd : 2 ≤ d) : pm_T cx mX10_isFaultyWeek d 0 0 [.ref 0] (sh_ i0 i1 ex) mu nu (pm_ret (some (.int 0)) (sh_ i0 i1 ex) mu nu) := by
  refine pm_enterN 0 (by exact okX10_isFaultyWeek) rfl ?_; dsimp only [pm_la, pm_cat2, List.replicate, List.cons_append, List.nil_append, List.append_nil]
  refine pm_go 9999 (by exact okX10_isFaultyWeek) rfl ?_; (try dsimp only [pm_st1, pm_st2, pm_cat2, pm_la, Option.toList, List.cons_append, List.nil_append])
  rw [show mu 3 0 = nI 6 from h.1.1]
  refine pm_cv (by exact okX10_isFaultyWeek) (by exact okX7_weekFault) rfl (by exact arX7_weekFault) (C_weekFault (d := 1) (B := 6) h.2.1 (by omega) d0_OK (by omega)) rfl rfl rfl (by dsimp only; omega) rfl (Nat.le_of_ble_eq_true rfl) ⟨Nat.zero_le _, Nat.zero_le _⟩ ?_
  rintro _ _ _ _ ⟨rfl, rfl, rfl, rfl⟩ -
  refine pm_go 9999 (by exact okX10_isFaultyWeek) rfl ?_; (try dsimp only [pm_st1, pm_st2, pm_cat2, pm_la, Option.toList, List.cons_append, List.nil_append])
  refine pm_ieq (by exact okX10_isFaultyWeek) rfl (fun h1 => ?_) (fun h1 => ?_)
  · refine pm_go 9999 (by exact okX10_isFaultyWeek) rfl ?_; (try dsimp only [pm_st1, pm_st2, pm_cat2, pm_la, Option.toList, List.cons_append, List.nil_append])
    refine pm_ri (by exact okX10_isFaultyWeek) rfl rfl rfl (Nat.le_refl _) (Nat.le_refl _) (⟨rfl, rfl, rfl, rfl⟩)
  · exact absurd rfl h1
set_option maxRecDepth 100000 in
set_option maxHeartbeats 1000000 in
theorem t_fOrder (h : X0 mu) (hd : 2 ≤ d) : pm_T cx mX10_isFaultyOrder d 0 0 [.ref 0] (sh_ i0 i1 ex) mu nu (pm_ret (some (.int 1)) (sh_ i0 i1 ex) mu nu) := by
  refine pm_enterN 0 (by exact okX10_isFaultyOrder) rfl ?_; dsimp only [pm_la, pm_cat2, List.replicate, List.cons_append, List.nil_append, List.append_nil]
  refine pm_go 9999 (by exact okX10_isFaultyOrder) rfl ?_; (try dsimp only [pm_st1, pm_st2, pm_cat2, pm_la, Option.toList, List.cons_append, List.nil_append])
  rw [show mu 3 0 = nI 6 from h.1.1]
  refine pm_cv (by exact okX10_isFaultyOrder) (by exact okX7_orderFault) rfl (by exact arX7_orderFault) (C_orderFault (d := 1) (B := 6) h.2.1 (by omega) d0_OK (by omega)) rfl rfl rfl (by dsimp only; omega) rfl (Nat.le_of_ble_eq_true rfl) ⟨Nat.zero_le _, Nat.zero_le _⟩ ?_
  rintro _ _ _ _ ⟨rfl, rfl, rfl, rfl⟩ -
  refine pm_go 9999 (by exact okX10_isFaultyOrder) rfl ?_; (try dsimp only [pm_st1, pm_st2, pm_cat2, pm_la, Option.toList, List.cons_append, List.nil_append])
  refine pm_ieq (by exact okX10_isFaultyOrder) rfl (fun h1 => ?_) (fun h1 => ?_)
  · exact absurd h1 (by decide)
  · refine pm_go 9999 (by exact okX10_isFaultyOrder) rfl ?_; (try dsimp only [pm_st1, pm_st2, pm_cat2, pm_la, Option.toList, List.cons_append, List.nil_append])
    refine pm_ri (by exact okX10_isFaultyOrder) rfl rfl rfl (Nat.le_refl _) (Nat.le_refl _) (⟨rfl, rfl, rfl, rfl⟩)
set_option maxRecDepth 100000 in
set_option maxHeartbeats 1000000 in
theorem t_fWish (h : X0 mu) (hd : 2 ≤ d) : pm_T cx mX10_isFaultyWish d 0 0 [.ref 0] (sh_ i0 i1 ex) mu nu (pm_ret (some (.int 1)) (sh_ i0 i1 ex) mu nu) := by
  refine pm_enterN 0 (by exact okX10_isFaultyWish) rfl ?_; dsimp only [pm_la, pm_cat2, List.replicate, List.cons_append, List.nil_append, List.append_nil]
  refine pm_go 9999 (by exact okX10_isFaultyWish) rfl ?_; (try dsimp only [pm_st1, pm_st2, pm_cat2, pm_la, Option.toList, List.cons_append, List.nil_append])
  rw [show mu 3 0 = nI 6 from h.1.1]
  refine pm_cv (by exact okX10_isFaultyWish) (by exact okX7_wishFault) rfl (by exact arX7_wishFault) (C_wishFault (d := 1) (B := 6) h.2.1 (by omega) d0_OK (by omega)) rfl rfl rfl (by dsimp only; omega) rfl (Nat.le_of_ble_eq_true rfl) ⟨Nat.zero_le _, Nat.zero_le _⟩ ?_
  rintro _ _ _ _ ⟨rfl, rfl, rfl, rfl⟩ -
  refine pm_go 9999 (by exact okX10_isFaultyWish) rfl ?_; (try dsimp only [pm_st1, pm_st2, pm_cat2, pm_la, Option.toList, List.cons_append, List.nil_append])
  refine pm_ieq (by exact okX10_isFaultyWish) rfl (fun h1 => ?_) (fun h1 => ?_)
  · exact absurd h1 (by decide)
  · refine pm_go 9999 (by exact okX10_isFaultyWish) rfl ?_; (try dsimp only [pm_st1, pm_st2, pm_cat2, pm_la, Option.toList, List.cons_append, List.nil_append])
    refine pm_ri (by exact okX10_isFaultyWish) rfl rfl rfl (Nat.le_refl _) (Nat.le_refl _) (⟨rfl, rfl, rfl, rfl⟩)
set_option maxRecDepth 100000 in
set_option maxHeartbeats 1000000 in
theorem P_fault (w : Int32) (h : X0 mu) (hd : 2 ≤ d) : pm_T cx mX10_fault d 0 0 [.ref 0, .int w] (sh_ i0 i1 ex) mu nu (cQ (.int (sp_fault z0 w)) mu) := by
  unfold sp_fault
  refine pm_enterN 0 (by exact okX10_fault) rfl ?_; dsimp only [pm_la, pm_cat2, List.replicate, List.cons_append, List.nil_append, List.append_nil]
  refine pm_go 9999 (by exact okX10_fault) rfl ?_; (try dsimp only [pm_st1, pm_st2, pm_cat2, pm_la, Option.toList, List.cons_append, List.nil_append])
  by_cases h0 : w = 0
  · subst h0
    refine pm_tsIn (tgt := 28) (by exact okX10_fault) rfl (by decide) (by decide) rfl (by decide) ?_
    rw [if_pos rfl]
    refine pm_go 9999 (by exact okX10_fault) rfl ?_; (try dsimp only [pm_st1, pm_st2, pm_cat2, pm_la, Option.toList, List.cons_append, List.nil_append])
    rw [show mu 3 0 = nI 6 from h.1.1]
    refine pm_cv (by exact okX10_fault) (by exact okX7_weekFault) rfl (by exact arX7_weekFault) (C_weekFault (d := 1) (B := 6) h.2.1 (by omega) d0_OK (by omega)) rfl rfl rfl (by dsimp only; omega) rfl (Nat.le_of_ble_eq_true rfl) ⟨Nat.zero_le _, Nat.zero_le _⟩ ?_
    rintro _ _ _ _ ⟨rfl, rfl, rfl, rfl⟩ -
    refine pm_go 9999 (by exact okX10_fault) rfl ?_; (try dsimp only [pm_st1, pm_st2, pm_cat2, pm_la, Option.toList, List.cons_append, List.nil_append])
    refine pm_ri (by exact okX10_fault) rfl rfl rfl (Nat.le_refl _) (Nat.le_refl _) (⟨rfl, ⟨_, _, _, rfl⟩, fX.rf⟩)
  · rw [if_neg h0]
    by_cases h1 : w = 1
    · subst h1
      refine pm_tsIn (tgt := 43) (by exact okX10_fault) rfl (by decide) (by decide) rfl (by decide) ?_
      rw [if_pos rfl]
      refine pm_go 9999 (by exact okX10_fault) rfl ?_; (try dsimp only [pm_st1, pm_st2, pm_cat2, pm_la, Option.toList, List.cons_append, List.nil_append])
      rw [show mu 3 0 = nI 6 from h.1.1]
      refine pm_cv (by exact okX10_fault) (by exact okX7_orderFault) rfl (by exact arX7_orderFault) (C_orderFault (d := 1) (B := 6) h.2.1 (by omega) d0_OK (by omega)) rfl rfl rfl (by dsimp only; omega) rfl (Nat.le_of_ble_eq_true rfl) ⟨Nat.zero_le _, Nat.zero_le _⟩ ?_
      rintro _ _ _ _ ⟨rfl, rfl, rfl, rfl⟩ -
      refine pm_go 9999 (by exact okX10_fault) rfl ?_; (try dsimp only [pm_st1, pm_st2, pm_cat2, pm_la, Option.toList, List.cons_append, List.nil_append])
      refine pm_ri (by exact okX10_fault) rfl rfl rfl (Nat.le_refl _) (Nat.le_refl _) (⟨rfl, ⟨_, _, _, rfl⟩, fX.rf⟩)
    · rw [if_neg h1]
      by_cases h2 : w = 2
      · subst h2
        refine pm_tsIn (tgt := 58) (by exact okX10_fault) rfl (by decide) (by decide) rfl (by decide) ?_
        rw [if_pos rfl]
        refine pm_go 9999 (by exact okX10_fault) rfl ?_; (try dsimp only [pm_st1, pm_st2, pm_cat2, pm_la, Option.toList, List.cons_append, List.nil_append])
        rw [show mu 3 0 = nI 6 from h.1.1]
        refine pm_cv (by exact okX10_fault) (by exact okX7_wishFault) rfl (by exact arX7_wishFault) (C_wishFault (d := 1) (B := 6) h.2.1 (by omega) d0_OK (by omega)) rfl rfl rfl (by dsimp only; omega) rfl (Nat.le_of_ble_eq_true rfl) ⟨Nat.zero_le _, Nat.zero_le _⟩ ?_
        rintro _ _ _ _ ⟨rfl, rfl, rfl, rfl⟩ -
        refine pm_go 9999 (by exact okX10_fault) rfl ?_; (try dsimp only [pm_st1, pm_st2, pm_cat2, pm_la, Option.toList, List.cons_append, List.nil_append])
        refine pm_ri (by exact okX10_fault) rfl rfl rfl (Nat.le_refl _) (Nat.le_refl _) (⟨rfl, ⟨_, _, _, rfl⟩, fX.rf⟩)
      · rw [if_neg h2]
        refine pm_tsOut (tgt := 73) (by exact okX10_fault) rfl (ts_out (n := 2) (by omega) (fun k hk => ?_)) (by decide) ?_
        · rcases (show k = 0 ∨ k = 1 ∨ k = 2 by omega) with rfl | rfl | rfl
          · exact h0
          · exact h1
          · exact h2
        · refine pm_go 9999 (by exact okX10_fault) rfl ?_; (try dsimp only [pm_st1, pm_st2, pm_cat2, pm_la, Option.toList, List.cons_append, List.nil_append])
          refine pm_ri (by exact okX10_fault) rfl rfl rfl (Nat.le_refl _) (Nat.le_refl _) (⟨rfl, ⟨_, _, _, rfl⟩, fX.rf⟩)
set_option maxRecDepth 100000 in
set_option maxHeartbeats 1000000 in
theorem P_judge (w : Int32) (h : X0 mu) (hd : 7 ≤ d) : pm_T cx mX10_judge d 0 0 [.ref 0, .int w] (sh_ i0 i1 ex) mu nu (cQ (.int (sp_judge z0 w)) mu) := by
  have out : ¬ (0 ≤ w ∧ w ≤ 1) → sp_judge z0 w = -2 := fun q => by unfold sp_judge; rw [if_pos q]
  have inn : (0 ≤ w ∧ w ≤ 1) → sp_judge z0 w = -6 := fun q => by unfold sp_judge; rw [if_neg (fun z => z q)]; rfl
  refine pm_enterN 0 (by exact okX10_judge) rfl ?_; dsimp only [pm_la, pm_cat2, List.replicate, List.cons_append, List.nil_append, List.append_nil]
  refine pm_go 9999 (by exact okX10_judge) rfl ?_; (try dsimp only [pm_st1, pm_st2, pm_cat2, pm_la, Option.toList, List.cons_append, List.nil_append])
  refine pm_zlt (by exact okX10_judge) rfl (fun h1 => ?_) (fun h1 => ?_)
  · rw [out (fun q => absurd q.1 (Int32.not_le.mpr h1))]
    refine pm_go 9999 (by exact okX10_judge) rfl ?_; (try dsimp only [pm_st1, pm_st2, pm_cat2, pm_la, Option.toList, List.cons_append, List.nil_append])
    refine pm_ri (by exact okX10_judge) rfl rfl rfl (Nat.le_refl _) (Nat.le_refl _) (⟨rfl, ⟨_, _, _, rfl⟩, fX.rf⟩)
  · refine pm_go 9999 (by exact okX10_judge) rfl ?_; (try dsimp only [pm_st1, pm_st2, pm_cat2, pm_la, Option.toList, List.cons_append, List.nil_append])
    refine pm_ile (by exact okX10_judge) rfl (fun h2 => ?_) (fun h2 => ?_)
    · rw [inn ⟨Int32.not_lt.mp h1, h2⟩]
      refine pm_go 9999 (by exact okX10_judge) rfl ?_; (try dsimp only [pm_st1, pm_st2, pm_cat2, pm_la, Option.toList, List.cons_append, List.nil_append])
      refine pm_cv (by exact okX10_judge) (by exact okX10_isFaultyWeek) rfl (by exact arX10_isFaultyWeek) (t_fWeek (d := 2) h (by omega)) rfl rfl rfl (by dsimp only; omega) rfl (Nat.le_of_ble_eq_true rfl) ⟨Nat.zero_le _, Nat.zero_le _⟩ ?_
      rintro _ _ _ _ ⟨rfl, rfl, rfl, rfl⟩ -
      refine pm_go 9999 (by exact okX10_judge) rfl ?_; (try dsimp only [pm_st1, pm_st2, pm_cat2, pm_la, Option.toList, List.cons_append, List.nil_append])
      refine pm_zeq (by exact okX10_judge) rfl (fun h3 => ?_) (fun h3 => ?_)
      · refine pm_go 9999 (by exact okX10_judge) rfl ?_; (try dsimp only [pm_st1, pm_st2, pm_cat2, pm_la, Option.toList, List.cons_append, List.nil_append])
        refine pm_cv (by exact okX10_judge) (by exact okX7_numberOf) rfl (by exact arX7_numberOf) (C_numberOf (d := 1) (c := 63) h.2.1 d0_OK (by omega) (by omega)) rfl rfl rfl (by dsimp only; omega) rfl (Nat.le_of_ble_eq_true rfl) ⟨Nat.zero_le _, Nat.zero_le _⟩ ?_
        rintro _ _ _ _ ⟨rfl, rfl, rfl, rfl⟩ -
        refine pm_go 9999 (by exact okX10_judge) rfl ?_; (try dsimp only [pm_st1, pm_st2, pm_cat2, pm_la, Option.toList, List.cons_append, List.nil_append])
        refine pm_zle (by exact okX10_judge) rfl (fun h4 => ?_) (fun h4 => ?_)
        · refine pm_go 9999 (by exact okX10_judge) rfl ?_; (try dsimp only [pm_st1, pm_st2, pm_cat2, pm_la, Option.toList, List.cons_append, List.nil_append])
          refine pm_zne (by exact okX10_judge) rfl (fun h5 => ?_) (fun h5 => ?_)
          · refine pm_go 9999 (by exact okX10_judge) rfl ?_; (try dsimp only [pm_st1, pm_st2, pm_cat2, pm_la, Option.toList, List.cons_append, List.nil_append])
            refine pm_cv (by exact okX10_judge) (by exact okX2_whyImpossible) rfl (by exact arX2_whyImpossible) (C_whyImpossible (d := 6) g0_OK h.1 h.2.1 d0_OK (fun c hc => by cases hc) (by omega)) rfl rfl rfl (by dsimp only; omega) rfl (Nat.le_of_ble_eq_true rfl) ⟨Nat.zero_le _, Nat.zero_le _⟩ ?_
            rintro _ _ _ _ ⟨rfl, rfl, rfl, rfl⟩ -
            refine pm_go 9999 (by exact okX10_judge) rfl ?_; (try dsimp only [pm_st1, pm_st2, pm_cat2, pm_la, Option.toList, List.cons_append, List.nil_append])
            refine pm_ri (by exact okX10_judge) rfl rfl rfl (Nat.le_refl _) (Nat.le_refl _) (⟨rfl, ⟨_, _, _, rfl⟩, fX.rf⟩)
          · refine pm_go 9999 (by exact okX10_judge) rfl ?_; (try dsimp only [pm_st1, pm_st2, pm_cat2, pm_la, Option.toList, List.cons_append, List.nil_append])
            refine pm_cv (by exact okX10_judge) (by exact okX2_firstImpossible) rfl (by exact arX2_firstImpossible) (C_firstImpossible (d := 6) g0_OK h.1 h.2.1 d0_OK (fun c hc => by cases hc) (by omega)) rfl rfl rfl (by dsimp only; omega) rfl (Nat.le_of_ble_eq_true rfl) ⟨Nat.zero_le _, Nat.zero_le _⟩ ?_
            rintro _ _ _ _ ⟨rfl, rfl, rfl, rfl⟩ -
            refine pm_go 9999 (by exact okX10_judge) rfl ?_; (try dsimp only [pm_st1, pm_st2, pm_cat2, pm_la, Option.toList, List.cons_append, List.nil_append])
            refine pm_ri (by exact okX10_judge) rfl rfl rfl (Nat.le_refl _) (Nat.le_refl _) (⟨rfl, ⟨_, _, _, rfl⟩, fX.rf⟩)
        · exact absurd (by decide) h4
      · exact absurd rfl h3
    · rw [out (fun q => h2 q.2)]
      refine pm_go 9999 (by exact okX10_judge) rfl ?_; (try dsimp only [pm_st1, pm_st2, pm_cat2, pm_la, Option.toList, List.cons_append, List.nil_append])
      refine pm_ri (by exact okX10_judge) rfl rfl rfl (Nat.le_refl _) (Nat.le_refl _) (⟨rfl, ⟨_, _, _, rfl⟩, fX.rf⟩)
set_option maxRecDepth 100000 in
set_option maxHeartbeats 1000000 in
theorem t_live0 (h : X0 mu) : pm_T cx mX2_live d 0 0 [.ref 3, .ref 1] (sh_ i0 i1 ex) mu nu (pm_ret none (sh_ i0 i1 ex) mu nu) := by
  refine pm_enterN 3 (by exact okX2_live) rfl ?_; dsimp only [pm_la, pm_cat2, List.replicate, List.cons_append, List.nil_append, List.append_nil]
  refine pm_go 9999 (by exact okX2_live) rfl ?_; (try dsimp only [pm_st1, pm_st2, pm_cat2, pm_la, Option.toList, List.cons_append, List.nil_append])
  rw [show mu 1 0 = 0 from h.2.1.1]
  refine pm_ige (by exact okX2_live) rfl (fun h1 => ?_) (fun h1 => ?_)
  · refine pm_go 9999 (by exact okX2_live) rfl ?_; (try dsimp only [pm_st1, pm_st2, pm_cat2, pm_la, Option.toList, List.cons_append, List.nil_append])
    refine pm_rv (by exact okX2_live) rfl rfl (Nat.le_refl _) (Nat.le_refl _) (⟨rfl, rfl, rfl, rfl⟩)
  · exact absurd (by decide) h1
set_option maxRecDepth 100000 in
set_option maxHeartbeats 1000000 in
theorem P_week (h : X0 mu) (hd : 7 ≤ d) : pm_T cx mX10_week d 0 0 [.ref 0] (sh_ i0 i1 ex) mu nu (cQ (.int (sp_week z0).1) mu) := by
  have a5 : mu 3 4 = nI (st_k [] 0) := h.1.2.2.2.2.1
  refine pm_enterN 1 (by exact okX10_week) rfl ?_; dsimp only [pm_la, pm_cat2, List.replicate, List.cons_append, List.nil_append, List.append_nil]
  refine pm_go 9999 (by exact okX10_week) rfl ?_; (try dsimp only [pm_st1, pm_st2, pm_cat2, pm_la, Option.toList, List.cons_append, List.nil_append])
  refine pm_cv (by exact okX10_week) (by exact okX10_isFaultyWeek) rfl (by exact arX10_isFaultyWeek) (t_fWeek (d := 2) h (by omega)) rfl rfl rfl (by dsimp only; omega) rfl (Nat.le_of_ble_eq_true rfl) ⟨Nat.zero_le _, Nat.zero_le _⟩ ?_
  rintro _ _ _ _ ⟨rfl, rfl, rfl, rfl⟩ -
  refine pm_go 9999 (by exact okX10_week) rfl ?_; (try dsimp only [pm_st1, pm_st2, pm_cat2, pm_la, Option.toList, List.cons_append, List.nil_append])
  refine pm_zeq (by exact okX10_week) rfl (fun h3 => ?_) (fun h3 => ?_)
  · refine pm_go 9999 (by exact okX10_week) rfl ?_; (try dsimp only [pm_st1, pm_st2, pm_cat2, pm_la, Option.toList, List.cons_append, List.nil_append])
    refine pm_cv (by exact okX10_week) (by exact okX7_numberOf) rfl (by exact arX7_numberOf) (C_numberOf (d := 1) (c := 63) h.2.1 d0_OK (by omega) (by omega)) rfl rfl rfl (by dsimp only; omega) rfl (Nat.le_of_ble_eq_true rfl) ⟨Nat.zero_le _, Nat.zero_le _⟩ ?_
    rintro _ _ _ _ ⟨rfl, rfl, rfl, rfl⟩ -
    refine pm_go 9999 (by exact okX10_week) rfl ?_; (try dsimp only [pm_st1, pm_st2, pm_cat2, pm_la, Option.toList, List.cons_append, List.nil_append])
    refine pm_zle (by exact okX10_week) rfl (fun h4 => ?_) (fun h4 => ?_)
    · refine pm_go 9999 (by exact okX10_week) rfl ?_; (try dsimp only [pm_st1, pm_st2, pm_cat2, pm_la, Option.toList, List.cons_append, List.nil_append])
      refine pm_cv (by exact okX10_week) (by exact okX2_firstImpossible) rfl (by exact arX2_firstImpossible) (C_firstImpossible (d := 6) g0_OK h.1 h.2.1 d0_OK (fun c hc => by cases hc) (by omega)) rfl rfl rfl (by dsimp only; omega) rfl (Nat.le_of_ble_eq_true rfl) ⟨Nat.zero_le _, Nat.zero_le _⟩ ?_
      rintro _ _ _ _ ⟨rfl, rfl, rfl, rfl⟩ -
      refine pm_go 9999 (by exact okX10_week) rfl ?_; (try dsimp only [pm_st1, pm_st2, pm_cat2, pm_la, Option.toList, List.cons_append, List.nil_append])
      refine pm_ieq (by exact okX10_week) rfl (fun h5 => ?_) (fun h5 => ?_)
      · refine pm_go 9999 (by exact okX10_week) rfl ?_; (try dsimp only [pm_st1, pm_st2, pm_cat2, pm_la, Option.toList, List.cons_append, List.nil_append])
        rw [a5]
        refine pm_cs (by exact okX10_week) (by exact okX8_numberBloomed) rfl (by exact arX8_numberBloomed) (t_numberBloomed (d := 1) g0_rOK (by omega) (by omega)) rfl (by dsimp only; omega) rfl (Nat.le_of_ble_eq_true rfl) ⟨Nat.zero_le _, Nat.zero_le _⟩ ?_
        rintro _ _ _ _ ⟨rfl, rfl, rfl, rfl⟩ -
        refine pm_go 9999 (by exact okX10_week) rfl ?_; (try dsimp only [pm_st1, pm_st2, pm_cat2, pm_la, Option.toList, List.cons_append, List.nil_append])
        refine pm_cv (by exact okX10_week) (by exact okX2_live) rfl (by exact arX2_live) (t_live0 (d := 0) h) rfl rfl rfl (by dsimp only; omega) rfl (Nat.le_of_ble_eq_true rfl) ⟨Nat.zero_le _, Nat.zero_le _⟩ ?_
        rintro _ _ _ _ ⟨rfl, rfl, rfl, rfl⟩ -
        refine pm_go 9999 (by exact okX10_week) rfl ?_; (try dsimp only [pm_st1, pm_st2, pm_cat2, pm_la, Option.toList, List.cons_append, List.nil_append])
        refine pm_cv (by exact okX10_week) (by exact okX10_dropAnswers) rfl (by exact arX10_dropAnswers) (t_drop (d := 0)) rfl rfl rfl (by dsimp only; omega) rfl (Nat.le_of_ble_eq_true rfl) ⟨Nat.zero_le _, Nat.zero_le _⟩ ?_
        rintro _ _ mu2 nu2 ⟨rfl, rfl, g2⟩ -
        refine pm_go 9999 (by exact okX10_week) rfl ?_; (try dsimp only [pm_st1, pm_st2, pm_cat2, pm_la, Option.toList, List.cons_append, List.nil_append])
        rw [show mu2 3 4 = nI (st_k [] 0) by rw [g2 3 (by omega) (by omega), pm_up_ne (by omega)]; exact a5]
        refine pm_cs (by exact okX10_week) (by exact okX8_numberBloomed) rfl (by exact arX8_numberBloomed) (t_numberBloomed (d := 1) g0_rOK (by omega) (by omega)) rfl (by dsimp only; omega) rfl (Nat.le_of_ble_eq_true rfl) ⟨Nat.zero_le _, Nat.zero_le _⟩ ?_
        rintro _ _ _ _ ⟨rfl, rfl, rfl, rfl⟩ -
        refine pm_go 9999 (by exact okX10_week) rfl ?_; (try dsimp only [pm_st1, pm_st2, pm_cat2, pm_la, Option.toList, List.cons_append, List.nil_append])
        refine pm_ri (by exact okX10_week) rfl rfl rfl (Nat.le_refl _) (Nat.le_refl _) (⟨rfl, ⟨_, _, _, rfl⟩, fun a q1 q2 => by rw [g2 a (by omega) (by omega), pm_up_ne (by omega)]⟩)
      · exact absurd rfl h5
    · exact absurd (by decide) h4
  · exact absurd rfl h3
set_option maxRecDepth 100000 in
set_option maxHeartbeats 1000000 in
theorem P_row (i : Int32) (h : X0 mu) (hd : 2 ≤ d) : pm_T cx mX10_row d 0 0 [.ref 0, .int i] (sh_ i0 i1 ex) mu nu (cQ (.int (sp_row z0 i)) mu) := by
  have a5 : mu 3 4 = nI (st_k [] 0) := h.1.2.2.2.2.1
  unfold sp_row
  refine pm_enterN 1 (by exact okX10_row) rfl ?_; dsimp only [pm_la, pm_cat2, List.replicate, List.cons_append, List.nil_append, List.append_nil]
  refine pm_go 9999 (by exact okX10_row) rfl ?_; (try dsimp only [pm_st1, pm_st2, pm_cat2, pm_la, Option.toList, List.cons_append, List.nil_append])
  rw [a5]
  refine pm_cs (by exact okX10_row) (by exact okX8_length) rfl (by exact arX8_length) (t_length (d := 1) g0_rOK (by omega) (by omega)) rfl (by dsimp only; omega) rfl (Nat.le_of_ble_eq_true rfl) ⟨Nat.zero_le _, Nat.zero_le _⟩ ?_
  rintro _ _ _ _ ⟨rfl, rfl, rfl, rfl⟩ -
  refine pm_go 9999 (by exact okX10_row) rfl ?_; (try dsimp only [pm_st1, pm_st2, pm_cat2, pm_la, Option.toList, List.cons_append, List.nil_append])
  refine pm_ine (by exact okX10_row) rfl (fun h1 => ?_) (fun h1 => ?_)
  · rw [if_neg h1, if_neg (show ¬ isB (gR g0).length i from isB_0)]
    refine pm_go 9999 (by exact okX10_row) rfl ?_; (try dsimp only [pm_st1, pm_st2, pm_cat2, pm_la, Option.toList, List.cons_append, List.nil_append])
    refine pm_zlt (by exact okX10_row) rfl (fun h2 => ?_) (fun h2 => ?_)
    · refine pm_go 9999 (by exact okX10_row) rfl ?_; (try dsimp only [pm_st1, pm_st2, pm_cat2, pm_la, Option.toList, List.cons_append, List.nil_append])
      refine pm_ri (by exact okX10_row) rfl rfl rfl (Nat.le_refl _) (Nat.le_refl _) (⟨rfl, ⟨_, _, _, rfl⟩, fX.rf⟩)
    · refine pm_go 9999 (by exact okX10_row) rfl ?_; (try dsimp only [pm_st1, pm_st2, pm_cat2, pm_la, Option.toList, List.cons_append, List.nil_append])
      refine pm_ige (by exact okX10_row) rfl (fun h3 => ?_) (fun h3 => ?_)
      · refine pm_go 9999 (by exact okX10_row) rfl ?_; (try dsimp only [pm_st1, pm_st2, pm_cat2, pm_la, Option.toList, List.cons_append, List.nil_append])
        refine pm_ri (by exact okX10_row) rfl rfl rfl (Nat.le_refl _) (Nat.le_refl _) (⟨rfl, ⟨_, _, _, rfl⟩, fX.rf⟩)
      · exact absurd (Int32.not_lt.mp h2) h3
  · rw [if_pos h1]
    refine pm_go 9999 (by exact okX10_row) rfl ?_; (try dsimp only [pm_st1, pm_st2, pm_cat2, pm_la, Option.toList, List.cons_append, List.nil_append])
    refine pm_ri (by exact okX10_row) rfl rfl rfl (Nat.le_refl _) (Nat.le_refl _) (⟨rfl, ⟨_, _, _, rfl⟩, fX.rf⟩)
set_option maxRecDepth 100000 in
set_option maxHeartbeats 1000000 in
theorem P_bloomed (i : Int32) (h : X0 mu) (hd : 2 ≤ d) : pm_T cx mX10_bloomed d 0 0 [.ref 0, .int i] (sh_ i0 i1 ex) mu nu (cQ (.int (sp_bloomed z0 i)) mu) := by
  have a5 : mu 3 4 = nI (st_k [] 0) := h.1.2.2.2.2.1
  unfold sp_bloomed
  refine pm_enterN 1 (by exact okX10_bloomed) rfl ?_; dsimp only [pm_la, pm_cat2, List.replicate, List.cons_append, List.nil_append, List.append_nil]
  refine pm_go 9999 (by exact okX10_bloomed) rfl ?_; (try dsimp only [pm_st1, pm_st2, pm_cat2, pm_la, Option.toList, List.cons_append, List.nil_append])
  rw [a5]
  refine pm_cs (by exact okX10_bloomed) (by exact okX8_numberBloomed) rfl (by exact arX8_numberBloomed) (t_numberBloomed (d := 1) g0_rOK (by omega) (by omega)) rfl (by dsimp only; omega) rfl (Nat.le_of_ble_eq_true rfl) ⟨Nat.zero_le _, Nat.zero_le _⟩ ?_
  rintro _ _ _ _ ⟨rfl, rfl, rfl, rfl⟩ -
  refine pm_go 9999 (by exact okX10_bloomed) rfl ?_; (try dsimp only [pm_st1, pm_st2, pm_cat2, pm_la, Option.toList, List.cons_append, List.nil_append])
  refine pm_ine (by exact okX10_bloomed) rfl (fun h1 => ?_) (fun h1 => ?_)
  · rw [if_neg h1, if_neg (show ¬ isB (gK g0).length i from isB_0)]
    refine pm_go 9999 (by exact okX10_bloomed) rfl ?_; (try dsimp only [pm_st1, pm_st2, pm_cat2, pm_la, Option.toList, List.cons_append, List.nil_append])
    refine pm_zlt (by exact okX10_bloomed) rfl (fun h2 => ?_) (fun h2 => ?_)
    · refine pm_go 9999 (by exact okX10_bloomed) rfl ?_; (try dsimp only [pm_st1, pm_st2, pm_cat2, pm_la, Option.toList, List.cons_append, List.nil_append])
      refine pm_ri (by exact okX10_bloomed) rfl rfl rfl (Nat.le_refl _) (Nat.le_refl _) (⟨rfl, ⟨_, _, _, rfl⟩, fX.rf⟩)
    · refine pm_go 9999 (by exact okX10_bloomed) rfl ?_; (try dsimp only [pm_st1, pm_st2, pm_cat2, pm_la, Option.toList, List.cons_append, List.nil_append])
      refine pm_ige (by exact okX10_bloomed) rfl (fun h3 => ?_) (fun h3 => ?_)
      · refine pm_go 9999 (by exact okX10_bloomed) rfl ?_; (try dsimp only [pm_st1, pm_st2, pm_cat2, pm_la, Option.toList, List.cons_append, List.nil_append])
        refine pm_ri (by exact okX10_bloomed) rfl rfl rfl (Nat.le_refl _) (Nat.le_refl _) (⟨rfl, ⟨_, _, _, rfl⟩, fX.rf⟩)
      · exact absurd (Int32.not_lt.mp h2) h3
  · rw [if_pos h1]
    refine pm_go 9999 (by exact okX10_bloomed) rfl ?_; (try dsimp only [pm_st1, pm_st2, pm_cat2, pm_la, Option.toList, List.cons_append, List.nil_append])
    refine pm_ri (by exact okX10_bloomed) rfl rfl rfl (Nat.le_refl _) (Nat.le_refl _) (⟨rfl, ⟨_, _, _, rfl⟩, fX.rf⟩)
set_option maxRecDepth 100000 in
set_option maxHeartbeats 1000000 in
theorem P_anew (h : X0 mu) (hd : 2 ≤ d) : pm_T cx mX10_anew d 0 0 [.ref 0] (sh_ i0 i1 ex) mu nu (cQ (.int (nI (gK z0.1).length)) mu) := by
  have a5 : mu 3 4 = nI (st_k [] 0) := h.1.2.2.2.2.1
  refine pm_enterN 1 (by exact okX10_anew) rfl ?_; dsimp only [pm_la, pm_cat2, List.replicate, List.cons_append, List.nil_append, List.append_nil]
  refine pm_go 9999 (by exact okX10_anew) rfl ?_; (try dsimp only [pm_st1, pm_st2, pm_cat2, pm_la, Option.toList, List.cons_append, List.nil_append])
  rw [a5]
  refine pm_cs (by exact okX10_anew) (by exact okX8_numberBloomed) rfl (by exact arX8_numberBloomed) (t_numberBloomed (d := 1) g0_rOK (by omega) (by omega)) rfl (by dsimp only; omega) rfl (Nat.le_of_ble_eq_true rfl) ⟨Nat.zero_le _, Nat.zero_le _⟩ ?_
  rintro _ _ _ _ ⟨rfl, rfl, rfl, rfl⟩ -
  refine pm_go 9999 (by exact okX10_anew) rfl ?_; (try dsimp only [pm_st1, pm_st2, pm_cat2, pm_la, Option.toList, List.cons_append, List.nil_append])
  refine pm_cv (by exact okX10_anew) (by exact okX10_dropAnswers) rfl (by exact arX10_dropAnswers) (t_drop (d := 0)) rfl rfl rfl (by dsimp only; omega) rfl (Nat.le_of_ble_eq_true rfl) ⟨Nat.zero_le _, Nat.zero_le _⟩ ?_
  rintro _ _ mu2 nu2 ⟨rfl, rfl, g2⟩ -
  refine pm_go 9999 (by exact okX10_anew) rfl ?_; (try dsimp only [pm_st1, pm_st2, pm_cat2, pm_la, Option.toList, List.cons_append, List.nil_append])
  refine pm_ri (by exact okX10_anew) rfl rfl rfl (Nat.le_refl _) (Nat.le_refl _) (⟨rfl, ⟨_, _, _, rfl⟩, fun a q1 q2 => by rw [g2 a (by omega) (by omega), pm_up_ne (by omega)]⟩)
set_option maxRecDepth 100000 in
set_option maxHeartbeats 1000000 in
theorem P_forget (h : X0 mu) (hd : 1 ≤ d) : pm_T cx mX10_forget d 0 0 [.ref 0] (sh_ i0 i1 ex) mu nu (cQ (.int (nI (gV z0.1).length)) mu) := by
  have a6 : mu 3 5 = nI 0 := h.1.2.2.2.2.2.1
  refine pm_enterN 1 (by exact okX10_forget) rfl ?_; dsimp only [pm_la, pm_cat2, List.replicate, List.cons_append, List.nil_append, List.append_nil]
  refine pm_go 9999 (by exact okX10_forget) rfl ?_; (try dsimp only [pm_st1, pm_st2, pm_cat2, pm_la, Option.toList, List.cons_append, List.nil_append])
  refine pm_cv (by exact okX10_forget) (by exact okX10_dropAnswers) rfl (by exact arX10_dropAnswers) (t_drop (d := 0)) rfl rfl rfl (by dsimp only; omega) rfl (Nat.le_of_ble_eq_true rfl) ⟨Nat.zero_le _, Nat.zero_le _⟩ ?_
  rintro _ _ mu2 nu2 ⟨rfl, rfl, g2⟩ -
  refine pm_go 9999 (by exact okX10_forget) rfl ?_; (try dsimp only [pm_st1, pm_st2, pm_cat2, pm_la, Option.toList, List.cons_append, List.nil_append])
  rw [a6]
  refine pm_ri (by exact okX10_forget) rfl rfl rfl (Nat.le_refl _) (Nat.le_refl _) (⟨rfl, ⟨_, _, _, rfl⟩, fun a q1 q2 => by rw [g2 a (by omega) (by omega), pm_up_ne (by omega)]⟩)
set_option maxRecDepth 100000 in
set_option maxHeartbeats 1000000 in
theorem t_see (m b : Int32) (h : X0 mu) : pm_T cx mX2_see d 0 0 [.ref 3, .int m, .int b] (sh_ i0 i1 ex) mu nu (fun r sg' mu' _ => r = some (.int 1) ∧ sg' = sh_ i0 i1 ex ∧ mu' 3 5 = 1 ∧ ∀ a, a ≠ 3 → a ≠ 7 → a ≠ 8 → mu' a = mu a) := by
  have a6 : mu 3 5 = 0 := h.1.2.2.2.2.2.1
  refine pm_enterN 0 (by exact okX2_see) rfl ?_; dsimp only [pm_la, pm_cat2, List.replicate, List.cons_append, List.nil_append, List.append_nil]
  refine pm_go 9999 (by exact okX2_see) rfl ?_; (try dsimp only [pm_st1, pm_st2, pm_cat2, pm_la, Option.toList, List.cons_append, List.nil_append])
  rw [a6]
  refine pm_zlt (by exact okX2_see) rfl (fun h1 => ?_) (fun h1 => ?_)
  · exact absurd h1 (by decide)
  · refine pm_go 9999 (by exact okX2_see) rfl ?_; (try dsimp only [pm_st1, pm_st2, pm_cat2, pm_la, Option.toList, List.cons_append, List.nil_append])
    rw [a6]
    refine pm_ilt (by exact okX2_see) rfl (fun h2 => ?_) (fun h2 => ?_)
    · refine pm_go 9999 (by exact okX2_see) rfl ?_; (try dsimp only [pm_st1, pm_st2, pm_cat2, pm_la, Option.toList, List.cons_append, List.nil_append])
      rw [a6]
      refine pm_ias (by exact okX2_see) rfl rfl (vp_in_nI (n := 0) (by omega) (by omega)) ?_
      refine pm_go 9999 (by exact okX2_see) rfl ?_; (try dsimp only [pm_st1, pm_st2, pm_cat2, pm_la, Option.toList, List.cons_append, List.nil_append])
      rw [show pm_up mu 7 (Int32.toNatClampNeg 0) m 3 5 = 0 from a6]
      refine pm_ias (by exact okX2_see) rfl rfl (vp_in_nI (n := 0) (by omega) (by omega)) ?_
      refine pm_go 9999 (by exact okX2_see) rfl ?_; (try dsimp only [pm_st1, pm_st2, pm_cat2, pm_la, Option.toList, List.cons_append, List.nil_append])
      refine pm_ri (by exact okX2_see) rfl rfl rfl (Nat.le_refl _) (Nat.le_refl _) (⟨rfl, rfl, ?_, fun a q1 q2 q3 => by rw [pm_up_ne q1, pm_up_ne q3, pm_up_ne q2]⟩)
      show mu 3 5 + 1 = 1
      rw [a6]
      rfl
    · exact absurd (by decide) h2
set_option maxRecDepth 100000 in
set_option maxHeartbeats 1000000 in
theorem P_seen (m b : Int32) (h : X0 mu) (hd : 1 ≤ d) : pm_T cx mX10_seen d 0 0 [.ref 0, .int m, .int b] (sh_ i0 i1 ex) mu nu (cQ (.int (sp_seen z0 m b).1) mu) := by
  refine pm_enterN 0 (by exact okX10_seen) rfl ?_; dsimp only [pm_la, pm_cat2, List.replicate, List.cons_append, List.nil_append, List.append_nil]
  refine pm_go 9999 (by exact okX10_seen) rfl ?_; (try dsimp only [pm_st1, pm_st2, pm_cat2, pm_la, Option.toList, List.cons_append, List.nil_append])
  refine pm_cv (by exact okX10_seen) (by exact okX2_isBed) rfl (by exact arX2_isBed) (C_isBed (d := 0) (B := 6) b h.1.1 (by omega)) rfl rfl rfl (by dsimp only; omega) rfl (Nat.le_of_ble_eq_true rfl) ⟨Nat.zero_le _, Nat.zero_le _⟩ ?_
  rintro _ _ _ _ ⟨rfl, rfl, rfl, rfl⟩ -
  refine pm_go 9999 (by exact okX10_seen) rfl ?_; (try dsimp only [pm_st1, pm_st2, pm_cat2, pm_la, Option.toList, List.cons_append, List.nil_append])
  refine pm_zne (by exact okX10_seen) rfl (fun h1 => ?_) (fun h1 => ?_)
  · have h1 := bI_n.mp h1
    have out : ¬ (0 ≤ m ∧ m ≤ 47) → (sp_seen z0 m b).1 = -2 := fun q => by unfold sp_seen; rw [if_pos h1, if_neg q]
    refine pm_go 9999 (by exact okX10_seen) rfl ?_; (try dsimp only [pm_st1, pm_st2, pm_cat2, pm_la, Option.toList, List.cons_append, List.nil_append])
    refine pm_zlt (by exact okX10_seen) rfl (fun h2 => ?_) (fun h2 => ?_)
    · rw [out (fun q => absurd q.1 (Int32.not_le.mpr h2))]
      refine pm_go 9999 (by exact okX10_seen) rfl ?_; (try dsimp only [pm_st1, pm_st2, pm_cat2, pm_la, Option.toList, List.cons_append, List.nil_append])
      refine pm_ri (by exact okX10_seen) rfl rfl rfl (Nat.le_refl _) (Nat.le_refl _) (⟨rfl, ⟨_, _, _, rfl⟩, fX.rf⟩)
    · refine pm_go 9999 (by exact okX10_seen) rfl ?_; (try dsimp only [pm_st1, pm_st2, pm_cat2, pm_la, Option.toList, List.cons_append, List.nil_append])
      refine pm_ilt (by exact okX10_seen) rfl (fun h3 => ?_) (fun h3 => ?_)
      · have e : (sp_seen z0 m b).1 = 1 := by unfold sp_seen; rw [if_pos h1, if_pos ⟨Int32.not_lt.mp h2, (lt_le (n := 47) (by omega)).mp h3⟩, if_neg (by decide)]; rfl
        rw [e]
        refine pm_go 9999 (by exact okX10_seen) rfl ?_; (try dsimp only [pm_st1, pm_st2, pm_cat2, pm_la, Option.toList, List.cons_append, List.nil_append])
        refine pm_cv (by exact okX10_seen) (by exact okX2_see) rfl (by exact arX2_see) (t_see (d := 0) m b h) rfl rfl rfl (by dsimp only; omega) rfl (Nat.le_of_ble_eq_true rfl) ⟨Nat.zero_le _, Nat.zero_le _⟩ ?_
        rintro _ _ mu1 nu1 ⟨rfl, rfl, g0, g1⟩ -
        refine pm_go 9999 (by exact okX10_seen) rfl ?_; (try dsimp only [pm_st1, pm_st2, pm_cat2, pm_la, Option.toList, List.cons_append, List.nil_append])
        refine pm_zne (by exact okX10_seen) rfl (fun h4 => ?_) (fun h4 => ?_)
        · refine pm_go 9999 (by exact okX10_seen) rfl ?_; (try dsimp only [pm_st1, pm_st2, pm_cat2, pm_la, Option.toList, List.cons_append, List.nil_append])
          refine pm_cv (by exact okX10_seen) (by exact okX10_dropAnswers) rfl (by exact arX10_dropAnswers) (t_drop (d := 0)) rfl rfl rfl (by dsimp only; omega) rfl (Nat.le_of_ble_eq_true rfl) ⟨Nat.zero_le _, Nat.zero_le _⟩ ?_
          rintro _ _ mu2 nu2 ⟨rfl, rfl, g2⟩ -
          refine pm_go 9999 (by exact okX10_seen) rfl ?_; (try dsimp only [pm_st1, pm_st2, pm_cat2, pm_la, Option.toList, List.cons_append, List.nil_append])
          rw [show mu2 3 5 = 1 by rw [g2 3 (by omega) (by omega)]; exact g0]
          refine pm_ri (by exact okX10_seen) rfl rfl rfl (Nat.le_refl _) (Nat.le_refl _) (⟨rfl, ⟨_, _, _, rfl⟩, fun a q1 q2 => by rw [g2 a (by omega) (by omega), g1 a (by omega) (by omega) (by omega)]⟩)
        · exact absurd h4 (by decide)
      · rw [out (fun q => h3 ((lt_le (n := 47) (by omega)).mpr q.2))]
        refine pm_go 9999 (by exact okX10_seen) rfl ?_; (try dsimp only [pm_st1, pm_st2, pm_cat2, pm_la, Option.toList, List.cons_append, List.nil_append])
        refine pm_ri (by exact okX10_seen) rfl rfl rfl (Nat.le_refl _) (Nat.le_refl _) (⟨rfl, ⟨_, _, _, rfl⟩, fX.rf⟩)
  · have h1 := bI_z.mp h1
    rw [show (sp_seen z0 m b).1 = -1 by unfold sp_seen; rw [if_neg h1]]
    refine pm_go 9999 (by exact okX10_seen) rfl ?_; (try dsimp only [pm_st1, pm_st2, pm_cat2, pm_la, Option.toList, List.cons_append, List.nil_append])
    refine pm_ri (by exact okX10_seen) rfl rfl rfl (Nat.le_refl _) (Nat.le_refl _) (⟨rfl, ⟨_, _, _, rfl⟩, fX.rf⟩)
set_option maxRecDepth 100000 in
set_option maxHeartbeats 1000000 in
theorem t_keep0 (h : mu 10 1 = 0) (hd : 1 ≤ d) : pm_T cx mX1_keepWay d 0 0 [.ref 10] (sh_ i0 i1 ex) mu nu (fun r sg' mu' _ => r = none ∧ sg' = sh_ i0 i1 ex ∧ mu' 10 1 = 1 ∧ mu' 10 2 = mu 10 2 ∧ ∀ a, a ≠ 10 → a ≠ 11 → mu' a = mu a) := by
  refine pm_enterN 0 (by exact okX1_keepWay) rfl ?_; dsimp only [pm_la, pm_cat2, List.replicate, List.cons_append, List.nil_append, List.append_nil]
  refine pm_go 9999 (by exact okX1_keepWay) rfl ?_; (try dsimp only [pm_st1, pm_st2, pm_cat2, pm_la, Option.toList, List.cons_append, List.nil_append])
  rw [h]
  refine pm_zne (by exact okX1_keepWay) rfl (fun h1 => ?_) (fun h1 => ?_)
  · exact absurd rfl h1
  · refine pm_go 9999 (by exact okX1_keepWay) rfl ?_; (try dsimp only [pm_st1, pm_st2, pm_cat2, pm_la, Option.toList, List.cons_append, List.nil_append])
    refine pm_cpy (a := 12) (b := 11) (n := 4) (by exact okX1_keepWay) rfl rfl rfl (by omega) (by omega) (by omega) (by dsimp only; omega) (Nat.le_of_ble_eq_true rfl) ?_
    refine pm_go 9999 (by exact okX1_keepWay) rfl ?_; (try dsimp only [pm_st1, pm_st2, pm_cat2, pm_la, Option.toList, List.cons_append, List.nil_append])
    refine pm_rv (by exact okX1_keepWay) rfl rfl (Nat.le_refl _) (Nat.le_refl _) (⟨rfl, rfl, ?_, rfl, fun a q1 q2 => by rw [pm_up_ne q1]; exact if_neg q2⟩)
    show mu 10 1 + 1 = 1
    rw [h]
    rfl
set_option maxRecDepth 100000 in
set_option maxHeartbeats 1000000 in
theorem t_goOn0 (st : Int32) (h1 : mu 1 0 = 0) (h : mu 10 1 = 0) (hd : 2 ≤ d) : pm_T cx mX1_goOn d 0 0 [.ref 10, .ref 3, .ref 1, .int 0, .int st, .int 0, .int 0] (sh_ i0 i1 ex) mu nu (fun r sg' mu' _ => r = none ∧ sg' = sh_ i0 i1 ex ∧ mu' 10 1 = 1 ∧ mu' 10 2 = mu 10 2 ∧ ∀ a, a ≠ 10 → a ≠ 11 → mu' a = mu a) := by
  refine pm_enterN 4 (by exact okX1_goOn) rfl ?_; dsimp only [pm_la, pm_cat2, List.replicate, List.cons_append, List.nil_append, List.append_nil]
  refine pm_go 9999 (by exact okX1_goOn) rfl ?_; (try dsimp only [pm_st1, pm_st2, pm_cat2, pm_la, Option.toList, List.cons_append, List.nil_append])
  rw [h1]
  refine pm_ige (by exact okX1_goOn) rfl (fun h2 => ?_) (fun h2 => ?_)
  · refine pm_go 9999 (by exact okX1_goOn) rfl ?_; (try dsimp only [pm_st1, pm_st2, pm_cat2, pm_la, Option.toList, List.cons_append, List.nil_append])
    refine pm_cv (by exact okX1_goOn) (by exact okX1_keepWay) rfl (by exact arX1_keepWay) (t_keep0 (d := 1) h (by omega)) rfl rfl rfl (by dsimp only; omega) rfl (Nat.le_of_ble_eq_true rfl) ⟨Nat.zero_le _, Nat.zero_le _⟩ ?_
    rintro _ _ mu2 nu2 ⟨rfl, rfl, g1, g2, g3⟩ -
    refine pm_go 9999 (by exact okX1_goOn) rfl ?_; (try dsimp only [pm_st1, pm_st2, pm_cat2, pm_la, Option.toList, List.cons_append, List.nil_append])
    refine pm_rv (by exact okX1_goOn) rfl rfl (Nat.le_refl _) (Nat.le_refl _) (⟨rfl, rfl, g1, g2, g3⟩)
  · exact absurd (by decide) h2
set_option maxRecDepth 100000 in
set_option maxHeartbeats 1000000 in
theorem t_saw0 (n : Int32) (h : mu 3 5 = 0) : pm_T cx mX2_sawNoMorningFrom d 0 0 [.ref 3, .int n] (sh_ i0 i1 ex) mu nu (pm_ret (some (.int 1)) (sh_ i0 i1 ex) mu nu) := by
  refine pm_enterN 1 (by exact okX2_sawNoMorningFrom) rfl ?_; dsimp only [pm_la, pm_cat2, List.replicate, List.cons_append, List.nil_append, List.append_nil]
  refine pm_go 9999 (by exact okX2_sawNoMorningFrom) rfl ?_; (try dsimp only [pm_st1, pm_st2, pm_cat2, pm_la, Option.toList, List.cons_append, List.nil_append])
  rw [h]
  refine pm_ige (by exact okX2_sawNoMorningFrom) rfl (fun h2 => ?_) (fun h2 => ?_)
  · refine pm_go 9999 (by exact okX2_sawNoMorningFrom) rfl ?_; (try dsimp only [pm_st1, pm_st2, pm_cat2, pm_la, Option.toList, List.cons_append, List.nil_append])
    refine pm_ri (by exact okX2_sawNoMorningFrom) rfl rfl rfl (Nat.le_refl _) (Nat.le_refl _) (⟨rfl, rfl, rfl, rfl⟩)
  · exact absurd (by decide) h2
set_option maxRecDepth 100000 in
set_option maxHeartbeats 1000000 in
theorem t_search0 (h : X0 mu) (hd : 3 ≤ d) : pm_T cx mX1_search d 0 0 [.ref 10, .ref 3, .ref 1] (sh_ i0 i1 ex) mu nu (fun r sg' mu' _ => r = none ∧ sg' = sh_ i0 i1 ex ∧ mu' 10 1 = 1 ∧ mu' 10 2 = 0 ∧ ∀ a, a ≠ 10 → a ≠ 11 → mu' a = mu a) := by
  have xp : ∀ m : pm_I, (∀ a, a ≠ 10 → m a = mu a) → XP [] m := fun m hm => ⟨by rw [hm 1 (by omega)]; exact h.2.1.1, fun k b hb => nil_get hb⟩
  refine pm_enterN 0 (by exact okX1_search) rfl ?_; dsimp only [pm_la, pm_cat2, List.replicate, List.cons_append, List.nil_append, List.append_nil]
  refine pm_go 9999 (by exact okX1_search) rfl ?_; (try dsimp only [pm_st1, pm_st2, pm_cat2, pm_la, Option.toList, List.cons_append, List.nil_append])
  refine pm_pz (by exact okX1_search) rfl rfl rfl rfl (Or.inr rfl) ?_
  refine pm_go 9999 (by exact okX1_search) rfl ?_; (try dsimp only [pm_st1, pm_st2, pm_cat2, pm_la, Option.toList, List.cons_append, List.nil_append])
  refine pm_cv (by exact okX1_search) (by exact okX7_numberOf) rfl (by exact arX7_numberOf) (C_numberOf (d := 1) (pd := []) (c := 63) (xp _ (fun a ha => by rw [pm_up_ne ha, pm_up_ne ha])) d0_OK (by omega) (by omega)) rfl rfl rfl (by dsimp only; omega) rfl (Nat.le_of_ble_eq_true rfl) ⟨Nat.zero_le _, Nat.zero_le _⟩ ?_
  rintro _ _ _ _ ⟨rfl, rfl, rfl, rfl⟩ -
  refine pm_go 9999 (by exact okX1_search) rfl ?_; (try dsimp only [pm_st1, pm_st2, pm_cat2, pm_la, Option.toList, List.cons_append, List.nil_append])
  refine pm_cv (by exact okX1_search) (by exact okX7_numberOf) rfl (by exact arX7_numberOf) (C_numberOf (d := 1) (pd := []) (c := 46) (xp _ (fun a ha => by rw [pm_up_ne ha, pm_up_ne ha, pm_up_ne ha])) d0_OK (by omega) (by omega)) rfl rfl rfl (by dsimp only; omega) rfl (Nat.le_of_ble_eq_true rfl) ⟨Nat.zero_le _, Nat.zero_le _⟩ ?_
  rintro _ _ _ _ ⟨rfl, rfl, rfl, rfl⟩ -
  refine pm_go 9999 (by exact okX1_search) rfl ?_; (try dsimp only [pm_st1, pm_st2, pm_cat2, pm_la, Option.toList, List.cons_append, List.nil_append])
  refine pm_cv (by exact okX1_search) (by exact okX2_sawNoMorningFrom) rfl (by exact arX2_sawNoMorningFrom) (t_saw0 (d := 0) _ (by exact h.1.2.2.2.2.2.1)) rfl rfl rfl (by dsimp only; omega) rfl (Nat.le_of_ble_eq_true rfl) ⟨Nat.zero_le _, Nat.zero_le _⟩ ?_
  rintro _ _ _ _ ⟨rfl, rfl, rfl, rfl⟩ -
  refine pm_go 9999 (by exact okX1_search) rfl ?_; (try dsimp only [pm_st1, pm_st2, pm_cat2, pm_la, Option.toList, List.cons_append, List.nil_append])
  refine pm_zeq (by exact okX1_search) rfl (fun h1 => ?_) (fun h1 => ?_)
  · exact absurd h1 (by decide)
  · refine pm_go 9999 (by exact okX1_search) rfl ?_; (try dsimp only [pm_st1, pm_st2, pm_cat2, pm_la, Option.toList, List.cons_append, List.nil_append])
    refine pm_cv (by exact okX1_search) (by exact okX1_goOn) rfl (by exact arX1_goOn) (t_goOn0 (d := 2) _ (by exact h.2.1.1) rfl (by omega)) rfl rfl rfl (by dsimp only; omega) rfl (Nat.le_of_ble_eq_true rfl) ⟨Nat.zero_le _, Nat.zero_le _⟩ ?_
    rintro _ _ mu2 nu2 ⟨rfl, rfl, g1, g2, g3⟩ -
    refine pm_go 9999 (by exact okX1_search) rfl ?_; (try dsimp only [pm_st1, pm_st2, pm_cat2, pm_la, Option.toList, List.cons_append, List.nil_append])
    refine pm_rv (by exact okX1_search) rfl rfl (Nat.le_refl _) (Nat.le_refl _) (⟨rfl, rfl, g1, by rw [g2]; rfl, fun a q1 q2 => by rw [g3 a q1 q2, pm_up_ne q1, pm_up_ne q1, pm_up_ne q1]⟩)
set_option maxRecDepth 100000 in
set_option maxHeartbeats 1000000 in
theorem t_firstAt0 (i : Int32) (h1 : mu 10 1 = 1) (h2 : mu 10 2 = 0) : pm_T cx mX1_firstAt d 0 0 [.ref 10, .int i] (sh_ i0 i1 ex) mu nu (pm_ret (some (.int (-6))) (sh_ i0 i1 ex) mu nu) := by
  refine pm_enterN 0 (by exact okX1_firstAt) rfl ?_; dsimp only [pm_la, pm_cat2, List.replicate, List.cons_append, List.nil_append, List.append_nil]
  refine pm_go 9999 (by exact okX1_firstAt) rfl ?_; (try dsimp only [pm_st1, pm_st2, pm_cat2, pm_la, Option.toList, List.cons_append, List.nil_append])
  rw [h1]
  refine pm_zle (by exact okX1_firstAt) rfl (fun q1 => ?_) (fun q1 => ?_)
  · exact absurd q1 (by decide)
  · refine pm_go 9999 (by exact okX1_firstAt) rfl ?_; (try dsimp only [pm_st1, pm_st2, pm_cat2, pm_la, Option.toList, List.cons_append, List.nil_append])
    refine pm_zlt (by exact okX1_firstAt) rfl (fun q2 => ?_) (fun q2 => ?_)
    · refine pm_go 9999 (by exact okX1_firstAt) rfl ?_; (try dsimp only [pm_st1, pm_st2, pm_cat2, pm_la, Option.toList, List.cons_append, List.nil_append])
      refine pm_ri (by exact okX1_firstAt) rfl rfl rfl (Nat.le_refl _) (Nat.le_refl _) (⟨rfl, rfl, rfl, rfl⟩)
    · refine pm_go 9999 (by exact okX1_firstAt) rfl ?_; (try dsimp only [pm_st1, pm_st2, pm_cat2, pm_la, Option.toList, List.cons_append, List.nil_append])
      rw [h2]
      refine pm_ige (by exact okX1_firstAt) rfl (fun q3 => ?_) (fun q3 => ?_)
      · refine pm_go 9999 (by exact okX1_firstAt) rfl ?_; (try dsimp only [pm_st1, pm_st2, pm_cat2, pm_la, Option.toList, List.cons_append, List.nil_append])
        refine pm_ri (by exact okX1_firstAt) rfl rfl rfl (Nat.le_refl _) (Nat.le_refl _) (⟨rfl, rfl, rfl, rfl⟩)
      · exact absurd (Int32.not_lt.mp q2) q3
set_option maxRecDepth 100000 in
set_option maxHeartbeats 1000000 in
theorem P_filled (i : Int32) (h : X0 mu) (hd : 4 ≤ d) : pm_T cx mX10_filled d 0 0 [.ref 0, .int i] (sh_ i0 i1 ex) mu nu (cQ (.int (sp_filled z0 i)) mu) := by
  have e : sp_filled z0 i = if i = -1 then 1 else -6 := by
    unfold sp_filled
    rw [if_neg (by decide)]
    have e1 : fb_ct (fl_b z0.1 z0.2.1) (gB z0.1 ^ pd_op z0.2.1) = 1 := by decide
    have e2 : fl_f (fl_b z0.1 z0.2.1) (gB z0.1 ^ pd_op z0.2.1) = some 0 := by decide
    rw [e1, e2]
    dsimp only
    rw [if_neg (show ¬ isB (pd_op []) i from isB_0)]
    rfl
  rw [e]
  refine pm_enterN 0 (by exact okX10_filled) rfl ?_; dsimp only [pm_la, pm_cat2, List.replicate, List.cons_append, List.nil_append, List.append_nil]
  refine pm_go 9999 (by exact okX10_filled) rfl ?_; (try dsimp only [pm_st1, pm_st2, pm_cat2, pm_la, Option.toList, List.cons_append, List.nil_append])
  refine pm_cv (by exact okX10_filled) (by exact okX10_isFaultyWeek) rfl (by exact arX10_isFaultyWeek) (t_fWeek (d := 2) h (by omega)) rfl rfl rfl (by dsimp only; omega) rfl (Nat.le_of_ble_eq_true rfl) ⟨Nat.zero_le _, Nat.zero_le _⟩ ?_
  rintro _ _ _ _ ⟨rfl, rfl, rfl, rfl⟩ -
  refine pm_go 9999 (by exact okX10_filled) rfl ?_; (try dsimp only [pm_st1, pm_st2, pm_cat2, pm_la, Option.toList, List.cons_append, List.nil_append])
  refine pm_zeq (by exact okX10_filled) rfl (fun h3 => ?_) (fun h3 => ?_)
  · refine pm_go 9999 (by exact okX10_filled) rfl ?_; (try dsimp only [pm_st1, pm_st2, pm_cat2, pm_la, Option.toList, List.cons_append, List.nil_append])
    rw [h.2.2]
    refine pm_zne (by exact okX10_filled) rfl (fun h4 => ?_) (fun h4 => ?_)
    · exact absurd rfl h4
    · refine pm_go 9999 (by exact okX10_filled) rfl ?_; (try dsimp only [pm_st1, pm_st2, pm_cat2, pm_la, Option.toList, List.cons_append, List.nil_append])
      refine pm_cv (by exact okX10_filled) (by exact okX1_search) rfl (by exact arX1_search) (t_search0 (d := 3) h (by omega)) rfl rfl rfl (by dsimp only; omega) rfl (Nat.le_of_ble_eq_true rfl) ⟨Nat.zero_le _, Nat.zero_le _⟩ ?_
      rintro _ _ mu2 nu2 ⟨rfl, rfl, g1, g2, g3⟩ -
      have hf : fX mu mu2 := fun a q1 q2 => g3 a (by omega) (by omega)
      refine pm_go 9999 (by exact okX10_filled) rfl ?_; (try dsimp only [pm_st1, pm_st2, pm_cat2, pm_la, Option.toList, List.cons_append, List.nil_append])
      refine pm_ine (by exact okX10_filled) rfl (fun h5 => ?_) (fun h5 => ?_)
      · rw [if_neg h5]
        refine pm_go 9999 (by exact okX10_filled) rfl ?_; (try dsimp only [pm_st1, pm_st2, pm_cat2, pm_la, Option.toList, List.cons_append, List.nil_append])
        refine pm_cv (by exact okX10_filled) (by exact okX1_firstAt) rfl (by exact arX1_firstAt) (t_firstAt0 (d := 0) i g1 g2) rfl rfl rfl (by dsimp only; omega) rfl (Nat.le_of_ble_eq_true rfl) ⟨Nat.zero_le _, Nat.zero_le _⟩ ?_
        rintro _ _ _ _ ⟨rfl, rfl, rfl, rfl⟩ -
        refine pm_go 9999 (by exact okX10_filled) rfl ?_; (try dsimp only [pm_st1, pm_st2, pm_cat2, pm_la, Option.toList, List.cons_append, List.nil_append])
        refine pm_ri (by exact okX10_filled) rfl rfl rfl (Nat.le_refl _) (Nat.le_refl _) (⟨rfl, ⟨_, _, _, rfl⟩, hf⟩)
      · rw [if_pos h5]
        refine pm_go 9999 (by exact okX10_filled) rfl ?_; (try dsimp only [pm_st1, pm_st2, pm_cat2, pm_la, Option.toList, List.cons_append, List.nil_append])
        rw [g1]
        refine pm_ri (by exact okX10_filled) rfl rfl rfl (Nat.le_refl _) (Nat.le_refl _) (⟨rfl, ⟨_, _, _, rfl⟩, hf⟩)
  · exact absurd rfl h3
end

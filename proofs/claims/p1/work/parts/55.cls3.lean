/-! ===== orders, wishes, images of the class on a fresh object ===== -/
section
variable {cx : pm_CX} {d n0 : Nat} {i0 i1 : Option Nat} {ex : List pm_C} {mu : pm_I} {nu : pm_J}
set_option maxRecDepth 100000 in
set_option maxHeartbeats 1000000 in
theorem P_canBe (h : X0 mu) (hd : 3 ≤ d) : pm_T cx mX10_canBe d 0 0 [.ref 0] (sh_ i0 i1 ex) mu nu (cQ (.int (sp_canBe z0)) mu) := by
  refine pm_enterN 0 (by exact okX10_canBe) rfl ?_; dsimp only [pm_la, pm_cat2, List.replicate, List.cons_append, List.nil_append, List.append_nil]
  refine pm_go 9999 (by exact okX10_canBe) rfl ?_; (try dsimp only [pm_st1, pm_st2, pm_cat2, pm_la, Option.toList, List.cons_append, List.nil_append])
  refine pm_cv (by exact okX10_canBe) (by exact okX10_isFaultyOrder) rfl (by exact arX10_isFaultyOrder) (t_fOrder (d := 2) h (by omega)) rfl rfl rfl (by dsimp only; omega) rfl (Nat.le_of_ble_eq_true rfl) ⟨Nat.zero_le _, Nat.zero_le _⟩ ?_
  rintro _ _ _ _ ⟨rfl, rfl, rfl, rfl⟩ -
  refine pm_go 9999 (by exact okX10_canBe) rfl ?_; (try dsimp only [pm_st1, pm_st2, pm_cat2, pm_la, Option.toList, List.cons_append, List.nil_append])
  refine pm_zeq (by exact okX10_canBe) rfl (fun h1 => ?_) (fun h1 => ?_)
  · exact absurd h1 (by decide)
  · refine pm_go 9999 (by exact okX10_canBe) rfl ?_; (try dsimp only [pm_st1, pm_st2, pm_cat2, pm_la, Option.toList, List.cons_append, List.nil_append])
    refine pm_ri (by exact okX10_canBe) rfl rfl rfl (Nat.le_refl _) (Nat.le_refl _) (⟨rfl, ⟨_, _, _, rfl⟩, fX.rf⟩)
set_option maxRecDepth 100000 in
set_option maxHeartbeats 1000000 in
theorem P_behind (h : X0 mu) (hd : 3 ≤ d) : pm_T cx mX10_behind d 0 0 [.ref 0] (sh_ i0 i1 ex) mu nu (cQ (.int (-5)) mu) := by
  refine pm_enterN 0 (by exact okX10_behind) rfl ?_; dsimp only [pm_la, pm_cat2, List.replicate, List.cons_append, List.nil_append, List.append_nil]
  refine pm_go 9999 (by exact okX10_behind) rfl ?_; (try dsimp only [pm_st1, pm_st2, pm_cat2, pm_la, Option.toList, List.cons_append, List.nil_append])
  refine pm_cv (by exact okX10_behind) (by exact okX10_isFaultyOrder) rfl (by exact arX10_isFaultyOrder) (t_fOrder (d := 2) h (by omega)) rfl rfl rfl (by dsimp only; omega) rfl (Nat.le_of_ble_eq_true rfl) ⟨Nat.zero_le _, Nat.zero_le _⟩ ?_
  rintro _ _ _ _ ⟨rfl, rfl, rfl, rfl⟩ -
  refine pm_go 9999 (by exact okX10_behind) rfl ?_; (try dsimp only [pm_st1, pm_st2, pm_cat2, pm_la, Option.toList, List.cons_append, List.nil_append])
  refine pm_zeq (by exact okX10_behind) rfl (fun h1 => ?_) (fun h1 => ?_)
  · exact absurd h1 (by decide)
  · refine pm_go 9999 (by exact okX10_behind) rfl ?_; (try dsimp only [pm_st1, pm_st2, pm_cat2, pm_la, Option.toList, List.cons_append, List.nil_append])
    refine pm_ri (by exact okX10_behind) rfl rfl rfl (Nat.le_refl _) (Nat.le_refl _) (⟨rfl, ⟨_, _, _, rfl⟩, fX.rf⟩)
set_option maxRecDepth 100000 in
set_option maxHeartbeats 1000000 in
theorem P_fewest (i : Int32) (h : X0 mu) (hd : 3 ≤ d) : pm_T cx mX10_fewest d 0 0 [.ref 0, .int i] (sh_ i0 i1 ex) mu nu (cQ (.int (-5)) mu) := by
  refine pm_enterN 0 (by exact okX10_fewest) rfl ?_; dsimp only [pm_la, pm_cat2, List.replicate, List.cons_append, List.nil_append, List.append_nil]
  refine pm_go 9999 (by exact okX10_fewest) rfl ?_; (try dsimp only [pm_st1, pm_st2, pm_cat2, pm_la, Option.toList, List.cons_append, List.nil_append])
  refine pm_cv (by exact okX10_fewest) (by exact okX10_isFaultyWish) rfl (by exact arX10_isFaultyWish) (t_fWish (d := 2) h (by omega)) rfl rfl rfl (by dsimp only; omega) rfl (Nat.le_of_ble_eq_true rfl) ⟨Nat.zero_le _, Nat.zero_le _⟩ ?_
  rintro _ _ _ _ ⟨rfl, rfl, rfl, rfl⟩ -
  refine pm_go 9999 (by exact okX10_fewest) rfl ?_; (try dsimp only [pm_st1, pm_st2, pm_cat2, pm_la, Option.toList, List.cons_append, List.nil_append])
  refine pm_zeq (by exact okX10_fewest) rfl (fun h1 => ?_) (fun h1 => ?_)
  · exact absurd h1 (by decide)
  · refine pm_go 9999 (by exact okX10_fewest) rfl ?_; (try dsimp only [pm_st1, pm_st2, pm_cat2, pm_la, Option.toList, List.cons_append, List.nil_append])
    refine pm_ri (by exact okX10_fewest) rfl rfl rfl (Nat.le_refl _) (Nat.le_refl _) (⟨rfl, ⟨_, _, _, rfl⟩, fX.rf⟩)
set_option maxRecDepth 100000 in
set_option maxHeartbeats 1000000 in
theorem P_pattern (i : Int32) (h : X0 mu) (hd : 3 ≤ d) : pm_T cx mX10_pattern d 0 0 [.ref 0, .int i] (sh_ i0 i1 ex) mu nu (cQ (.int (sp_pattern z0 i)) mu) := by
  have out : ¬ (0 ≤ i ∧ i ≤ 2) → sp_pattern z0 i = -2 := fun q => by unfold sp_pattern; rw [if_pos q]
  refine pm_enterN 1 (by exact okX10_pattern) rfl ?_; dsimp only [pm_la, pm_cat2, List.replicate, List.cons_append, List.nil_append, List.append_nil]
  refine pm_go 9999 (by exact okX10_pattern) rfl ?_; (try dsimp only [pm_st1, pm_st2, pm_cat2, pm_la, Option.toList, List.cons_append, List.nil_append])
  refine pm_zlt (by exact okX10_pattern) rfl (fun h1 => ?_) (fun h1 => ?_)
  · rw [out (fun q => absurd q.1 (Int32.not_le.mpr h1))]
    refine pm_go 9999 (by exact okX10_pattern) rfl ?_; (try dsimp only [pm_st1, pm_st2, pm_cat2, pm_la, Option.toList, List.cons_append, List.nil_append])
    refine pm_ri (by exact okX10_pattern) rfl rfl rfl (Nat.le_refl _) (Nat.le_refl _) (⟨rfl, ⟨_, _, _, rfl⟩, fX.rf⟩)
  · refine pm_go 9999 (by exact okX10_pattern) rfl ?_; (try dsimp only [pm_st1, pm_st2, pm_cat2, pm_la, Option.toList, List.cons_append, List.nil_append])
    refine pm_ilt (by exact okX10_pattern) rfl (fun h2 => ?_) (fun h2 => ?_)
    · rw [show sp_pattern z0 i = -5 by unfold sp_pattern; rw [if_neg (fun z => z ⟨Int32.not_lt.mp h1, (lt_le (n := 2) (by omega)).mp h2⟩), if_pos (by decide)]]
      refine pm_go 9999 (by exact okX10_pattern) rfl ?_; (try dsimp only [pm_st1, pm_st2, pm_cat2, pm_la, Option.toList, List.cons_append, List.nil_append])
      refine pm_cv (by exact okX10_pattern) (by exact okX10_isFaultyOrder) rfl (by exact arX10_isFaultyOrder) (t_fOrder (d := 2) h (by omega)) rfl rfl rfl (by dsimp only; omega) rfl (Nat.le_of_ble_eq_true rfl) ⟨Nat.zero_le _, Nat.zero_le _⟩ ?_
      rintro _ _ _ _ ⟨rfl, rfl, rfl, rfl⟩ -
      refine pm_go 9999 (by exact okX10_pattern) rfl ?_; (try dsimp only [pm_st1, pm_st2, pm_cat2, pm_la, Option.toList, List.cons_append, List.nil_append])
      refine pm_zeq (by exact okX10_pattern) rfl (fun h3 => ?_) (fun h3 => ?_)
      · exact absurd h3 (by decide)
      · refine pm_go 9999 (by exact okX10_pattern) rfl ?_; (try dsimp only [pm_st1, pm_st2, pm_cat2, pm_la, Option.toList, List.cons_append, List.nil_append])
        refine pm_ri (by exact okX10_pattern) rfl rfl rfl (Nat.le_refl _) (Nat.le_refl _) (⟨rfl, ⟨_, _, _, rfl⟩, fX.rf⟩)
    · rw [out (fun q => h2 ((lt_le (n := 2) (by omega)).mpr q.2))]
      refine pm_go 9999 (by exact okX10_pattern) rfl ?_; (try dsimp only [pm_st1, pm_st2, pm_cat2, pm_la, Option.toList, List.cons_append, List.nil_append])
      refine pm_ri (by exact okX10_pattern) rfl rfl rfl (Nat.le_refl _) (Nat.le_refl _) (⟨rfl, ⟨_, _, _, rfl⟩, fX.rf⟩)
set_option maxRecDepth 100000 in
set_option maxHeartbeats 1000000 in
theorem P_chance (i : Int32) (h : X0 mu) (hd : 3 ≤ d) : pm_T cx mX10_chance d 0 0 [.ref 0, .int i] (sh_ i0 i1 ex) mu nu (cQ (.long (sp_chance z0 i)) mu) := by
  have out : ¬ (0 ≤ i ∧ i ≤ 1) → sp_chance z0 i = -1000000000000000002 := fun q => by unfold sp_chance; rw [if_pos q]
  refine pm_enterN 4 (by exact okX10_chance) rfl ?_; dsimp only [pm_la, pm_cat2, List.replicate, List.cons_append, List.nil_append, List.append_nil]
  refine pm_go 9999 (by exact okX10_chance) rfl ?_; (try dsimp only [pm_st1, pm_st2, pm_cat2, pm_la, Option.toList, List.cons_append, List.nil_append])
  refine pm_zlt (by exact okX10_chance) rfl (fun h1 => ?_) (fun h1 => ?_)
  · rw [out (fun q => absurd q.1 (Int32.not_le.mpr h1))]
    refine pm_go 9999 (by exact okX10_chance) rfl ?_; (try dsimp only [pm_st1, pm_st2, pm_cat2, pm_la, Option.toList, List.cons_append, List.nil_append])
    refine pm_rl (by exact okX10_chance) rfl rfl (Nat.le_refl _) (Nat.le_refl _) (⟨rfl, ⟨_, _, _, rfl⟩, fX.rf⟩)
  · refine pm_go 9999 (by exact okX10_chance) rfl ?_; (try dsimp only [pm_st1, pm_st2, pm_cat2, pm_la, Option.toList, List.cons_append, List.nil_append])
    refine pm_ile (by exact okX10_chance) rfl (fun h2 => ?_) (fun h2 => ?_)
    · rw [show sp_chance z0 i = -1000000000000000005 by unfold sp_chance; rw [if_neg (fun z => z ⟨Int32.not_lt.mp h1, h2⟩), if_pos (by decide)]]
      refine pm_go 9999 (by exact okX10_chance) rfl ?_; (try dsimp only [pm_st1, pm_st2, pm_cat2, pm_la, Option.toList, List.cons_append, List.nil_append])
      refine pm_cv (by exact okX10_chance) (by exact okX10_isFaultyWish) rfl (by exact arX10_isFaultyWish) (t_fWish (d := 2) h (by omega)) rfl rfl rfl (by dsimp only; omega) rfl (Nat.le_of_ble_eq_true rfl) ⟨Nat.zero_le _, Nat.zero_le _⟩ ?_
      rintro _ _ _ _ ⟨rfl, rfl, rfl, rfl⟩ -
      refine pm_go 9999 (by exact okX10_chance) rfl ?_; (try dsimp only [pm_st1, pm_st2, pm_cat2, pm_la, Option.toList, List.cons_append, List.nil_append])
      refine pm_zeq (by exact okX10_chance) rfl (fun h3 => ?_) (fun h3 => ?_)
      · exact absurd h3 (by decide)
      · refine pm_go 9999 (by exact okX10_chance) rfl ?_; (try dsimp only [pm_st1, pm_st2, pm_cat2, pm_la, Option.toList, List.cons_append, List.nil_append])
        refine pm_rl (by exact okX10_chance) rfl rfl (Nat.le_refl _) (Nat.le_refl _) (⟨rfl, ⟨_, _, _, rfl⟩, fX.rf⟩)
    · rw [out (fun q => h2 q.2)]
      refine pm_go 9999 (by exact okX10_chance) rfl ?_; (try dsimp only [pm_st1, pm_st2, pm_cat2, pm_la, Option.toList, List.cons_append, List.nil_append])
      refine pm_rl (by exact okX10_chance) rfl rfl (Nat.le_refl _) (Nat.le_refl _) (⟨rfl, ⟨_, _, _, rfl⟩, fX.rf⟩)
set_option maxRecDepth 100000 in
set_option maxHeartbeats 1000000 in
theorem P_told (w : Int32) (h : X0 mu) (hd : 2 ≤ d) : pm_T cx mX10_told d 0 0 [.ref 0, .int w] (sh_ i0 i1 ex) mu nu (cQ (.int (sp_told z0 w)) mu) := by
  obtain ⟨⟨a1, a2, a3, a4, a5, a6, b1, b2, b3, b4⟩, ⟨p1, -⟩, k1⟩ := id h
  refine pm_enterN 0 (by exact okX10_told) rfl ?_; dsimp only [pm_la, pm_cat2, List.replicate, List.cons_append, List.nil_append, List.append_nil]
  refine pm_go 9999 (by exact okX10_told) rfl ?_; (try dsimp only [pm_st1, pm_st2, pm_cat2, pm_la, Option.toList, List.cons_append, List.nil_append])
  by_cases e0 : w = 0
  · subst e0
    refine pm_cv (by exact okX10_told) (by exact okX2_isBed) rfl (by exact arX2_isBed) (C_isBed (d := 0) (B := 6) (0 - 10) a1 (by omega)) rfl rfl rfl (by dsimp only; omega) rfl (Nat.le_of_ble_eq_true rfl) ⟨Nat.zero_le _, Nat.zero_le _⟩ ?_
    rintro _ _ _ _ ⟨rfl, rfl, rfl, rfl⟩ -
    rw [bI_0 (show ¬ isB 6 ((0 : Int32) - 10) by decide)]
    refine pm_go 9999 (by exact okX10_told) rfl ?_; (try dsimp only [pm_st1, pm_st2, pm_cat2, pm_la, Option.toList, List.cons_append, List.nil_append])
    refine pm_zeq (by exact okX10_told) rfl (fun h1 => ?_) (fun h1 => ?_)
    · refine pm_go 9999 (by exact okX10_told) rfl ?_; (try dsimp only [pm_st1, pm_st2, pm_cat2, pm_la, Option.toList, List.cons_append, List.nil_append])
      refine pm_cv (by exact okX10_told) (by exact okX2_isBed) rfl (by exact arX2_isBed) (C_isBed (d := 0) (B := 6) (0 - 20) a1 (by omega)) rfl rfl rfl (by dsimp only; omega) rfl (Nat.le_of_ble_eq_true rfl) ⟨Nat.zero_le _, Nat.zero_le _⟩ ?_
      rintro _ _ _ _ ⟨rfl, rfl, rfl, rfl⟩ -
      rw [bI_0 (show ¬ isB 6 ((0 : Int32) - 20) by decide)]
      refine pm_go 9999 (by exact okX10_told) rfl ?_; (try dsimp only [pm_st1, pm_st2, pm_cat2, pm_la, Option.toList, List.cons_append, List.nil_append])
      refine pm_zeq (by exact okX10_told) rfl (fun h2 => ?_) (fun h2 => ?_)
      · refine pm_go 9999 (by exact okX10_told) rfl ?_; (try dsimp only [pm_st1, pm_st2, pm_cat2, pm_la, Option.toList, List.cons_append, List.nil_append])
        refine pm_tsIn (tgt := 92) (by exact okX10_told) rfl (by decide) (by decide) rfl (by decide) ?_
        refine pm_go 9999 (by exact okX10_told) rfl ?_; (try dsimp only [pm_st1, pm_st2, pm_cat2, pm_la, Option.toList, List.cons_append, List.nil_append])
        rw [p1]
        refine pm_ri (by exact okX10_told) rfl rfl rfl (Nat.le_refl _) (Nat.le_refl _) (⟨rfl, ⟨_, _, _, rfl⟩, fX.rf⟩)
      · exact absurd rfl h2
    · exact absurd rfl h1
  by_cases e1 : w = 1
  · subst e1
    refine pm_cv (by exact okX10_told) (by exact okX2_isBed) rfl (by exact arX2_isBed) (C_isBed (d := 0) (B := 6) (1 - 10) a1 (by omega)) rfl rfl rfl (by dsimp only; omega) rfl (Nat.le_of_ble_eq_true rfl) ⟨Nat.zero_le _, Nat.zero_le _⟩ ?_
    rintro _ _ _ _ ⟨rfl, rfl, rfl, rfl⟩ -
    rw [bI_0 (show ¬ isB 6 ((1 : Int32) - 10) by decide)]
    refine pm_go 9999 (by exact okX10_told) rfl ?_; (try dsimp only [pm_st1, pm_st2, pm_cat2, pm_la, Option.toList, List.cons_append, List.nil_append])
    refine pm_zeq (by exact okX10_told) rfl (fun h1 => ?_) (fun h1 => ?_)
    · refine pm_go 9999 (by exact okX10_told) rfl ?_; (try dsimp only [pm_st1, pm_st2, pm_cat2, pm_la, Option.toList, List.cons_append, List.nil_append])
      refine pm_cv (by exact okX10_told) (by exact okX2_isBed) rfl (by exact arX2_isBed) (C_isBed (d := 0) (B := 6) (1 - 20) a1 (by omega)) rfl rfl rfl (by dsimp only; omega) rfl (Nat.le_of_ble_eq_true rfl) ⟨Nat.zero_le _, Nat.zero_le _⟩ ?_
      rintro _ _ _ _ ⟨rfl, rfl, rfl, rfl⟩ -
      rw [bI_0 (show ¬ isB 6 ((1 : Int32) - 20) by decide)]
      refine pm_go 9999 (by exact okX10_told) rfl ?_; (try dsimp only [pm_st1, pm_st2, pm_cat2, pm_la, Option.toList, List.cons_append, List.nil_append])
      refine pm_zeq (by exact okX10_told) rfl (fun h2 => ?_) (fun h2 => ?_)
      · refine pm_go 9999 (by exact okX10_told) rfl ?_; (try dsimp only [pm_st1, pm_st2, pm_cat2, pm_la, Option.toList, List.cons_append, List.nil_append])
        refine pm_tsIn (tgt := 100) (by exact okX10_told) rfl (by decide) (by decide) rfl (by decide) ?_
        refine pm_go 9999 (by exact okX10_told) rfl ?_; (try dsimp only [pm_st1, pm_st2, pm_cat2, pm_la, Option.toList, List.cons_append, List.nil_append])
        rw [a1]
        refine pm_ri (by exact okX10_told) rfl rfl rfl (Nat.le_refl _) (Nat.le_refl _) (⟨rfl, ⟨_, _, _, rfl⟩, fX.rf⟩)
      · exact absurd rfl h2
    · exact absurd rfl h1
  by_cases e2 : w = 2
  · subst e2
    refine pm_cv (by exact okX10_told) (by exact okX2_isBed) rfl (by exact arX2_isBed) (C_isBed (d := 0) (B := 6) (2 - 10) a1 (by omega)) rfl rfl rfl (by dsimp only; omega) rfl (Nat.le_of_ble_eq_true rfl) ⟨Nat.zero_le _, Nat.zero_le _⟩ ?_
    rintro _ _ _ _ ⟨rfl, rfl, rfl, rfl⟩ -
    rw [bI_0 (show ¬ isB 6 ((2 : Int32) - 10) by decide)]
    refine pm_go 9999 (by exact okX10_told) rfl ?_; (try dsimp only [pm_st1, pm_st2, pm_cat2, pm_la, Option.toList, List.cons_append, List.nil_append])
    refine pm_zeq (by exact okX10_told) rfl (fun h1 => ?_) (fun h1 => ?_)
    · refine pm_go 9999 (by exact okX10_told) rfl ?_; (try dsimp only [pm_st1, pm_st2, pm_cat2, pm_la, Option.toList, List.cons_append, List.nil_append])
      refine pm_cv (by exact okX10_told) (by exact okX2_isBed) rfl (by exact arX2_isBed) (C_isBed (d := 0) (B := 6) (2 - 20) a1 (by omega)) rfl rfl rfl (by dsimp only; omega) rfl (Nat.le_of_ble_eq_true rfl) ⟨Nat.zero_le _, Nat.zero_le _⟩ ?_
      rintro _ _ _ _ ⟨rfl, rfl, rfl, rfl⟩ -
      rw [bI_0 (show ¬ isB 6 ((2 : Int32) - 20) by decide)]
      refine pm_go 9999 (by exact okX10_told) rfl ?_; (try dsimp only [pm_st1, pm_st2, pm_cat2, pm_la, Option.toList, List.cons_append, List.nil_append])
      refine pm_zeq (by exact okX10_told) rfl (fun h2 => ?_) (fun h2 => ?_)
      · refine pm_go 9999 (by exact okX10_told) rfl ?_; (try dsimp only [pm_st1, pm_st2, pm_cat2, pm_la, Option.toList, List.cons_append, List.nil_append])
        refine pm_tsIn (tgt := 108) (by exact okX10_told) rfl (by decide) (by decide) rfl (by decide) ?_
        refine pm_go 9999 (by exact okX10_told) rfl ?_; (try dsimp only [pm_st1, pm_st2, pm_cat2, pm_la, Option.toList, List.cons_append, List.nil_append])
        rw [a2]
        refine pm_ri (by exact okX10_told) rfl rfl rfl (Nat.le_refl _) (Nat.le_refl _) (⟨rfl, ⟨_, _, _, rfl⟩, fX.rf⟩)
      · exact absurd rfl h2
    · exact absurd rfl h1
  by_cases e3 : w = 3
  · subst e3
    refine pm_cv (by exact okX10_told) (by exact okX2_isBed) rfl (by exact arX2_isBed) (C_isBed (d := 0) (B := 6) (3 - 10) a1 (by omega)) rfl rfl rfl (by dsimp only; omega) rfl (Nat.le_of_ble_eq_true rfl) ⟨Nat.zero_le _, Nat.zero_le _⟩ ?_
    rintro _ _ _ _ ⟨rfl, rfl, rfl, rfl⟩ -
    rw [bI_0 (show ¬ isB 6 ((3 : Int32) - 10) by decide)]
    refine pm_go 9999 (by exact okX10_told) rfl ?_; (try dsimp only [pm_st1, pm_st2, pm_cat2, pm_la, Option.toList, List.cons_append, List.nil_append])
    refine pm_zeq (by exact okX10_told) rfl (fun h1 => ?_) (fun h1 => ?_)
    · refine pm_go 9999 (by exact okX10_told) rfl ?_; (try dsimp only [pm_st1, pm_st2, pm_cat2, pm_la, Option.toList, List.cons_append, List.nil_append])
      refine pm_cv (by exact okX10_told) (by exact okX2_isBed) rfl (by exact arX2_isBed) (C_isBed (d := 0) (B := 6) (3 - 20) a1 (by omega)) rfl rfl rfl (by dsimp only; omega) rfl (Nat.le_of_ble_eq_true rfl) ⟨Nat.zero_le _, Nat.zero_le _⟩ ?_
      rintro _ _ _ _ ⟨rfl, rfl, rfl, rfl⟩ -
      rw [bI_0 (show ¬ isB 6 ((3 : Int32) - 20) by decide)]
      refine pm_go 9999 (by exact okX10_told) rfl ?_; (try dsimp only [pm_st1, pm_st2, pm_cat2, pm_la, Option.toList, List.cons_append, List.nil_append])
      refine pm_zeq (by exact okX10_told) rfl (fun h2 => ?_) (fun h2 => ?_)
      · refine pm_go 9999 (by exact okX10_told) rfl ?_; (try dsimp only [pm_st1, pm_st2, pm_cat2, pm_la, Option.toList, List.cons_append, List.nil_append])
        refine pm_tsIn (tgt := 116) (by exact okX10_told) rfl (by decide) (by decide) rfl (by decide) ?_
        refine pm_go 9999 (by exact okX10_told) rfl ?_; (try dsimp only [pm_st1, pm_st2, pm_cat2, pm_la, Option.toList, List.cons_append, List.nil_append])
        rw [a3]
        refine pm_ri (by exact okX10_told) rfl rfl rfl (Nat.le_refl _) (Nat.le_refl _) (⟨rfl, ⟨_, _, _, rfl⟩, fX.rf⟩)
      · exact absurd rfl h2
    · exact absurd rfl h1
  by_cases e4 : w = 4
  · subst e4
    refine pm_cv (by exact okX10_told) (by exact okX2_isBed) rfl (by exact arX2_isBed) (C_isBed (d := 0) (B := 6) (4 - 10) a1 (by omega)) rfl rfl rfl (by dsimp only; omega) rfl (Nat.le_of_ble_eq_true rfl) ⟨Nat.zero_le _, Nat.zero_le _⟩ ?_
    rintro _ _ _ _ ⟨rfl, rfl, rfl, rfl⟩ -
    rw [bI_0 (show ¬ isB 6 ((4 : Int32) - 10) by decide)]
    refine pm_go 9999 (by exact okX10_told) rfl ?_; (try dsimp only [pm_st1, pm_st2, pm_cat2, pm_la, Option.toList, List.cons_append, List.nil_append])
    refine pm_zeq (by exact okX10_told) rfl (fun h1 => ?_) (fun h1 => ?_)
    · refine pm_go 9999 (by exact okX10_told) rfl ?_; (try dsimp only [pm_st1, pm_st2, pm_cat2, pm_la, Option.toList, List.cons_append, List.nil_append])
      refine pm_cv (by exact okX10_told) (by exact okX2_isBed) rfl (by exact arX2_isBed) (C_isBed (d := 0) (B := 6) (4 - 20) a1 (by omega)) rfl rfl rfl (by dsimp only; omega) rfl (Nat.le_of_ble_eq_true rfl) ⟨Nat.zero_le _, Nat.zero_le _⟩ ?_
      rintro _ _ _ _ ⟨rfl, rfl, rfl, rfl⟩ -
      rw [bI_0 (show ¬ isB 6 ((4 : Int32) - 20) by decide)]
      refine pm_go 9999 (by exact okX10_told) rfl ?_; (try dsimp only [pm_st1, pm_st2, pm_cat2, pm_la, Option.toList, List.cons_append, List.nil_append])
      refine pm_zeq (by exact okX10_told) rfl (fun h2 => ?_) (fun h2 => ?_)
      · refine pm_go 9999 (by exact okX10_told) rfl ?_; (try dsimp only [pm_st1, pm_st2, pm_cat2, pm_la, Option.toList, List.cons_append, List.nil_append])
        refine pm_tsIn (tgt := 124) (by exact okX10_told) rfl (by decide) (by decide) rfl (by decide) ?_
        refine pm_go 9999 (by exact okX10_told) rfl ?_; (try dsimp only [pm_st1, pm_st2, pm_cat2, pm_la, Option.toList, List.cons_append, List.nil_append])
        rw [a4]
        refine pm_ri (by exact okX10_told) rfl rfl rfl (Nat.le_refl _) (Nat.le_refl _) (⟨rfl, ⟨_, _, _, rfl⟩, fX.rf⟩)
      · exact absurd rfl h2
    · exact absurd rfl h1
  by_cases e5 : w = 5
  · subst e5
    refine pm_cv (by exact okX10_told) (by exact okX2_isBed) rfl (by exact arX2_isBed) (C_isBed (d := 0) (B := 6) (5 - 10) a1 (by omega)) rfl rfl rfl (by dsimp only; omega) rfl (Nat.le_of_ble_eq_true rfl) ⟨Nat.zero_le _, Nat.zero_le _⟩ ?_
    rintro _ _ _ _ ⟨rfl, rfl, rfl, rfl⟩ -
    rw [bI_0 (show ¬ isB 6 ((5 : Int32) - 10) by decide)]
    refine pm_go 9999 (by exact okX10_told) rfl ?_; (try dsimp only [pm_st1, pm_st2, pm_cat2, pm_la, Option.toList, List.cons_append, List.nil_append])
    refine pm_zeq (by exact okX10_told) rfl (fun h1 => ?_) (fun h1 => ?_)
    · refine pm_go 9999 (by exact okX10_told) rfl ?_; (try dsimp only [pm_st1, pm_st2, pm_cat2, pm_la, Option.toList, List.cons_append, List.nil_append])
      refine pm_cv (by exact okX10_told) (by exact okX2_isBed) rfl (by exact arX2_isBed) (C_isBed (d := 0) (B := 6) (5 - 20) a1 (by omega)) rfl rfl rfl (by dsimp only; omega) rfl (Nat.le_of_ble_eq_true rfl) ⟨Nat.zero_le _, Nat.zero_le _⟩ ?_
      rintro _ _ _ _ ⟨rfl, rfl, rfl, rfl⟩ -
      rw [bI_0 (show ¬ isB 6 ((5 : Int32) - 20) by decide)]
      refine pm_go 9999 (by exact okX10_told) rfl ?_; (try dsimp only [pm_st1, pm_st2, pm_cat2, pm_la, Option.toList, List.cons_append, List.nil_append])
      refine pm_zeq (by exact okX10_told) rfl (fun h2 => ?_) (fun h2 => ?_)
      · refine pm_go 9999 (by exact okX10_told) rfl ?_; (try dsimp only [pm_st1, pm_st2, pm_cat2, pm_la, Option.toList, List.cons_append, List.nil_append])
        refine pm_tsIn (tgt := 132) (by exact okX10_told) rfl (by decide) (by decide) rfl (by decide) ?_
        refine pm_go 9999 (by exact okX10_told) rfl ?_; (try dsimp only [pm_st1, pm_st2, pm_cat2, pm_la, Option.toList, List.cons_append, List.nil_append])
        rw [a6]
        refine pm_ri (by exact okX10_told) rfl rfl rfl (Nat.le_refl _) (Nat.le_refl _) (⟨rfl, ⟨_, _, _, rfl⟩, fX.rf⟩)
      · exact absurd rfl h2
    · exact absurd rfl h1
  refine pm_cv (by exact okX10_told) (by exact okX2_isBed) rfl (by exact arX2_isBed) (C_isBed (d := 0) (B := 6) (w - 10) a1 (by omega)) rfl rfl rfl (by dsimp only; omega) rfl (Nat.le_of_ble_eq_true rfl) ⟨Nat.zero_le _, Nat.zero_le _⟩ ?_
  rintro _ _ _ _ ⟨rfl, rfl, rfl, rfl⟩ -
  refine pm_go 9999 (by exact okX10_told) rfl ?_; (try dsimp only [pm_st1, pm_st2, pm_cat2, pm_la, Option.toList, List.cons_append, List.nil_append])
  have e : sp_told z0 w = if isB 6 (w - 10) then nI 0 else if isB 6 (w - 20) then -6 else -2 := by
    unfold sp_told
    rw [if_neg e0, if_neg e1, if_neg e2, if_neg e3, if_neg e4, if_neg e5]
    rfl
  rw [e]
  refine pm_zeq (by exact okX10_told) rfl (fun h1 => ?_) (fun h1 => ?_)
  · have h1 := bI_z.mp h1
    rw [if_neg h1]
    refine pm_go 9999 (by exact okX10_told) rfl ?_; (try dsimp only [pm_st1, pm_st2, pm_cat2, pm_la, Option.toList, List.cons_append, List.nil_append])
    refine pm_cv (by exact okX10_told) (by exact okX2_isBed) rfl (by exact arX2_isBed) (C_isBed (d := 0) (B := 6) (w - 20) a1 (by omega)) rfl rfl rfl (by dsimp only; omega) rfl (Nat.le_of_ble_eq_true rfl) ⟨Nat.zero_le _, Nat.zero_le _⟩ ?_
    rintro _ _ _ _ ⟨rfl, rfl, rfl, rfl⟩ -
    refine pm_go 9999 (by exact okX10_told) rfl ?_; (try dsimp only [pm_st1, pm_st2, pm_cat2, pm_la, Option.toList, List.cons_append, List.nil_append])
    refine pm_zeq (by exact okX10_told) rfl (fun h2 => ?_) (fun h2 => ?_)
    · have h2 := bI_z.mp h2
      rw [if_neg h2]
      refine pm_go 9999 (by exact okX10_told) rfl ?_; (try dsimp only [pm_st1, pm_st2, pm_cat2, pm_la, Option.toList, List.cons_append, List.nil_append])
      refine pm_tsOut (tgt := 140) (by exact okX10_told) rfl (ts_out (n := 5) (by omega) (fun k hk => ?_)) (by decide) ?_
      · rcases (show k = 0 ∨ k = 1 ∨ k = 2 ∨ k = 3 ∨ k = 4 ∨ k = 5 by omega) with rfl | rfl | rfl | rfl | rfl | rfl
        · exact e0
        · exact e1
        · exact e2
        · exact e3
        · exact e4
        · exact e5
      · refine pm_go 9999 (by exact okX10_told) rfl ?_; (try dsimp only [pm_st1, pm_st2, pm_cat2, pm_la, Option.toList, List.cons_append, List.nil_append])
        refine pm_ri (by exact okX10_told) rfl rfl rfl (Nat.le_refl _) (Nat.le_refl _) (⟨rfl, ⟨_, _, _, rfl⟩, fX.rf⟩)
    · have h2 := bI_n.mp h2
      rw [if_pos h2]
      obtain ⟨k, hk, ek⟩ := isB_of (by omega) h2
      refine pm_go 9999 (by exact okX10_told) rfl ?_; (try dsimp only [pm_st1, pm_st2, pm_cat2, pm_la, Option.toList, List.cons_append, List.nil_append])
      rw [ek]
      refine pm_cv (by exact okX10_told) (by exact okX2_pastOf) rfl (by exact arX2_pastOf) (C_pastOf (d := 1) (g := g0) g0_OK h.1 hk (by omega)) rfl rfl rfl (by dsimp only; omega) rfl (Nat.le_of_ble_eq_true rfl) ⟨Nat.zero_le _, Nat.zero_le _⟩ ?_
      rintro _ _ _ _ ⟨rfl, rfl, rfl, rfl⟩ -
      refine pm_go 9999 (by exact okX10_told) rfl ?_; (try dsimp only [pm_st1, pm_st2, pm_cat2, pm_la, Option.toList, List.cons_append, List.nil_append])
      refine pm_ri (by exact okX10_told) rfl rfl rfl (Nat.le_refl _) (Nat.le_refl _) (⟨rfl, ⟨_, _, _, rfl⟩, fX.rf⟩)
  · have h1 := bI_n.mp h1
    rw [if_pos h1]
    obtain ⟨k, hk, ek⟩ := isB_of (by omega) h1
    refine pm_go 9999 (by exact okX10_told) rfl ?_; (try dsimp only [pm_st1, pm_st2, pm_cat2, pm_la, Option.toList, List.cons_append, List.nil_append])
    rw [ek]
    refine pm_ial (by exact okX10_told) rfl rfl (vp_in_nI (by omega) (by omega)) ?_
    refine pm_go 9999 (by exact okX10_told) rfl ?_; (try dsimp only [pm_st1, pm_st2, pm_cat2, pm_la, Option.toList, List.cons_append, List.nil_append])
    rw [nI_clamp (n := k) (by omega), show mu 4 k = nI 0 from b1 k hk]
    refine pm_ri (by exact okX10_told) rfl rfl rfl (Nat.le_refl _) (Nat.le_refl _) (⟨rfl, ⟨_, _, _, rfl⟩, fX.rf⟩)
set_option maxRecDepth 100000 in
set_option maxHeartbeats 1000000 in
theorem P_restore (n : Int32) (h : X0 mu) (hd : 1 ≤ d) : pm_T cx mX10_restore d 0 0 [.ref 0, .int n] (sh_ none none []) mu nu (cQ (.int (sp_restore z0 n).1) mu) := by
  have out : n ≠ 0 → n ≠ 1 → (sp_restore z0 n).1 = -2 := fun q1 q2 => by unfold sp_restore; rw [if_neg q1, if_neg q2]
  refine pm_enterN 0 (by exact okX10_restore) rfl ?_; dsimp only [pm_la, pm_cat2, List.replicate, List.cons_append, List.nil_append, List.append_nil]
  refine pm_go 9999 (by exact okX10_restore) rfl ?_; (try dsimp only [pm_st1, pm_st2, pm_cat2, pm_la, Option.toList, List.cons_append, List.nil_append])
  refine pm_zlt (by exact okX10_restore) rfl (fun h1 => ?_) (fun h1 => ?_)
  · rw [out (fun q => absurd (q ▸ h1) (by decide)) (fun q => absurd (q ▸ h1) (by decide))]
    refine pm_go 9999 (by exact okX10_restore) rfl ?_; (try dsimp only [pm_st1, pm_st2, pm_cat2, pm_la, Option.toList, List.cons_append, List.nil_append])
    refine pm_ri (by exact okX10_restore) rfl rfl rfl (Nat.le_refl _) (Nat.le_refl _) (⟨rfl, ⟨_, _, _, rfl⟩, fX.rf⟩)
  · refine pm_go 9999 (by exact okX10_restore) rfl ?_; (try dsimp only [pm_st1, pm_st2, pm_cat2, pm_la, Option.toList, List.cons_append, List.nil_append])
    refine pm_ilt (by exact okX10_restore) rfl (fun h2 => ?_) (fun h2 => ?_)
    · obtain ⟨k, k1, k2, rfl⟩ := rng_of (a := 0) (b := 1) (by omega) (by omega) ⟨Int32.not_lt.mp h1, (lt_le (n := 1) (by omega)).mp h2⟩
      rcases (show k = 0 ∨ k = 1 by omega) with rfl | rfl
      · refine pm_go 9999 (by exact okX10_restore) rfl ?_; (try dsimp only [pm_st1, pm_st2, pm_cat2, pm_la, Option.toList, List.cons_append, List.nil_append])
        refine pm_aal (o := none) (by exact okX10_restore) rfl rfl (vp_in_nI (n := 0) (by omega) (by omega)) rfl ?_
        refine pm_nnN (by exact okX10_restore) rfl ?_
        refine pm_go 9999 (by exact okX10_restore) rfl ?_; (try dsimp only [pm_st1, pm_st2, pm_cat2, pm_la, Option.toList, List.cons_append, List.nil_append])
        refine pm_ri (by exact okX10_restore) rfl rfl rfl (Nat.le_refl _) (Nat.le_refl _) (⟨rfl, ⟨_, _, _, rfl⟩, fX.rf⟩)
      · refine pm_go 9999 (by exact okX10_restore) rfl ?_; (try dsimp only [pm_st1, pm_st2, pm_cat2, pm_la, Option.toList, List.cons_append, List.nil_append])
        refine pm_aal (o := none) (by exact okX10_restore) rfl rfl (vp_in_nI (n := 1) (by omega) (by omega)) rfl ?_
        refine pm_nnN (by exact okX10_restore) rfl ?_
        refine pm_go 9999 (by exact okX10_restore) rfl ?_; (try dsimp only [pm_st1, pm_st2, pm_cat2, pm_la, Option.toList, List.cons_append, List.nil_append])
        refine pm_ri (by exact okX10_restore) rfl rfl rfl (Nat.le_refl _) (Nat.le_refl _) (⟨rfl, ⟨_, _, _, rfl⟩, fX.rf⟩)
    · rw [out (fun q => h2 (q ▸ by decide)) (fun q => h2 (q ▸ by decide))]
      refine pm_go 9999 (by exact okX10_restore) rfl ?_; (try dsimp only [pm_st1, pm_st2, pm_cat2, pm_la, Option.toList, List.cons_append, List.nil_append])
      refine pm_ri (by exact okX10_restore) rfl rfl rfl (Nat.le_refl _) (Nat.le_refl _) (⟨rfl, ⟨_, _, _, rfl⟩, fX.rf⟩)
set_option maxRecDepth 100000 in
set_option maxHeartbeats 1000000 in
theorem t_copy_a {Q : pm_Po} (kk : ∀ mu' : pm_I, (∀ a, a < 40 → mu' a = mu a) → pm_G cx (mX2_copyFrom, d, 0, 0, n0, Q) 0 0 98 [some (.ref 40), some (.ref 3), none] [] (sh_ i0 i1 [(0, 1, [none, none, none, none, none, none, some (some 41), some (some 42), some (some 43), some (some 44), some (some 45)]), (1, 6, []), (1, 6, []), (1, 6, []), (1, 6, []), (1, 6, [])]) mu' nu) : ∀ (j k : Nat) (mu1 : pm_I), k + j = 6 → (∀ a, a < 40 → mu1 a = mu a) → pm_G cx (mX2_copyFrom, d, 0, 0, n0, Q) 0 0 50 [some (.ref 40), some (.ref 3), some (.int (nI k))] [] (sh_ i0 i1 [(0, 1, [none, none, none, none, none, none, some (some 41), some (some 42), some (some 43), some (some 44), some (some 45)]), (1, 6, []), (1, 6, []), (1, 6, []), (1, 6, []), (1, 6, [])]) mu1 nu := by
  intro j
  induction j with
  | zero =>
    intro k mu1 hk hm
    have hk : k = 6 := by omega
    subst hk
    refine pm_go 9999 (by exact okX2_copyFrom) rfl ?_; (try dsimp only [pm_st1, pm_st2, pm_cat2, pm_la, Option.toList, List.cons_append, List.nil_append])
    refine pm_ige (by exact okX2_copyFrom) rfl (fun h1 => ?_) (fun h1 => ?_)
    · refine pm_G.fg [false, false, true] ?_; dsimp only [pm_fg]
      exact kk mu1 hm
    · exact absurd (by decide) h1
  | succ j ih =>
    intro k mu1 hk hm
    refine pm_go 9999 (by exact okX2_copyFrom) rfl ?_; (try dsimp only [pm_st1, pm_st2, pm_cat2, pm_la, Option.toList, List.cons_append, List.nil_append])
    refine pm_ige (by exact okX2_copyFrom) rfl (fun h1 => ?_) (fun h1 => ?_)
    · exact absurd h1 (nI_ge (a := k) (b := 6) (by omega) (by omega))
    · refine pm_go 9999 (by exact okX2_copyFrom) rfl ?_; (try dsimp only [pm_st1, pm_st2, pm_cat2, pm_la, Option.toList, List.cons_append, List.nil_append])
      refine pm_ial (by exact okX2_copyFrom) rfl rfl (vp_in_nI (by omega) (by omega)) ?_
      refine pm_go 9999 (by exact okX2_copyFrom) rfl ?_; (try dsimp only [pm_st1, pm_st2, pm_cat2, pm_la, Option.toList, List.cons_append, List.nil_append])
      refine pm_ias (by exact okX2_copyFrom) rfl rfl (vp_in_nI (by omega) (by omega)) ?_
      refine pm_go 9999 (by exact okX2_copyFrom) rfl ?_; (try dsimp only [pm_st1, pm_st2, pm_cat2, pm_la, Option.toList, List.cons_append, List.nil_append])
      refine pm_ial (by exact okX2_copyFrom) rfl rfl (vp_in_nI (by omega) (by omega)) ?_
      refine pm_go 9999 (by exact okX2_copyFrom) rfl ?_; (try dsimp only [pm_st1, pm_st2, pm_cat2, pm_la, Option.toList, List.cons_append, List.nil_append])
      refine pm_ias (by exact okX2_copyFrom) rfl rfl (vp_in_nI (by omega) (by omega)) ?_
      refine pm_go 9999 (by exact okX2_copyFrom) rfl ?_; (try dsimp only [pm_st1, pm_st2, pm_cat2, pm_la, Option.toList, List.cons_append, List.nil_append])
      refine pm_ial (by exact okX2_copyFrom) rfl rfl (vp_in_nI (by omega) (by omega)) ?_
      refine pm_go 9999 (by exact okX2_copyFrom) rfl ?_; (try dsimp only [pm_st1, pm_st2, pm_cat2, pm_la, Option.toList, List.cons_append, List.nil_append])
      refine pm_ias (by exact okX2_copyFrom) rfl rfl (vp_in_nI (by omega) (by omega)) ?_
      refine pm_go 50 (by exact okX2_copyFrom) rfl ?_; (try dsimp only [pm_st1, pm_st2, pm_cat2, pm_la, Option.toList, List.cons_append, List.nil_append])
      rw [nI_1]
      exact ih (k + 1) _ (by omega) (fun a ha => by rw [pm_up_ne (by omega), pm_up_ne (by omega), pm_up_ne (by omega)]; exact hm a ha)
set_option maxRecDepth 100000 in
set_option maxHeartbeats 1000000 in
theorem t_copy_b {Q : pm_Po} (kk : ∀ mu' : pm_I, (∀ a, a < 40 → mu' a = mu a) → pm_G cx (mX2_copyFrom, d, 0, 0, n0, Q) 0 0 136 [some (.ref 40), some (.ref 3), none] [] (sh_ i0 i1 [(0, 1, [none, none, none, none, none, none, some (some 41), some (some 42), some (some 43), some (some 44), some (some 45)]), (1, 6, []), (1, 6, []), (1, 6, []), (1, 6, []), (1, 6, [])]) mu' nu) : ∀ (j k : Nat) (mu1 : pm_I), k + j = 6 → (∀ a, a < 40 → mu1 a = mu a) → pm_G cx (mX2_copyFrom, d, 0, 0, n0, Q) 0 0 100 [some (.ref 40), some (.ref 3), some (.int (nI k))] [] (sh_ i0 i1 [(0, 1, [none, none, none, none, none, none, some (some 41), some (some 42), some (some 43), some (some 44), some (some 45)]), (1, 6, []), (1, 6, []), (1, 6, []), (1, 6, []), (1, 6, [])]) mu1 nu := by
  intro j
  induction j with
  | zero =>
    intro k mu1 hk hm
    have hk : k = 6 := by omega
    subst hk
    refine pm_go 9999 (by exact okX2_copyFrom) rfl ?_; (try dsimp only [pm_st1, pm_st2, pm_cat2, pm_la, Option.toList, List.cons_append, List.nil_append])
    refine pm_ige (by exact okX2_copyFrom) rfl (fun h1 => ?_) (fun h1 => ?_)
    · refine pm_G.fg [false, false, true] ?_; dsimp only [pm_fg]
      exact kk mu1 hm
    · exact absurd (by decide) h1
  | succ j ih =>
    intro k mu1 hk hm
    refine pm_go 9999 (by exact okX2_copyFrom) rfl ?_; (try dsimp only [pm_st1, pm_st2, pm_cat2, pm_la, Option.toList, List.cons_append, List.nil_append])
    refine pm_ige (by exact okX2_copyFrom) rfl (fun h1 => ?_) (fun h1 => ?_)
    · exact absurd h1 (nI_ge (a := k) (b := 6) (by omega) (by omega))
    · refine pm_go 9999 (by exact okX2_copyFrom) rfl ?_; (try dsimp only [pm_st1, pm_st2, pm_cat2, pm_la, Option.toList, List.cons_append, List.nil_append])
      refine pm_ial (by exact okX2_copyFrom) rfl rfl (vp_in_nI (by omega) (by omega)) ?_
      refine pm_go 9999 (by exact okX2_copyFrom) rfl ?_; (try dsimp only [pm_st1, pm_st2, pm_cat2, pm_la, Option.toList, List.cons_append, List.nil_append])
      refine pm_ias (by exact okX2_copyFrom) rfl rfl (vp_in_nI (by omega) (by omega)) ?_
      refine pm_go 9999 (by exact okX2_copyFrom) rfl ?_; (try dsimp only [pm_st1, pm_st2, pm_cat2, pm_la, Option.toList, List.cons_append, List.nil_append])
      refine pm_ial (by exact okX2_copyFrom) rfl rfl (vp_in_nI (by omega) (by omega)) ?_
      refine pm_go 9999 (by exact okX2_copyFrom) rfl ?_; (try dsimp only [pm_st1, pm_st2, pm_cat2, pm_la, Option.toList, List.cons_append, List.nil_append])
      refine pm_ias (by exact okX2_copyFrom) rfl rfl (vp_in_nI (by omega) (by omega)) ?_
      refine pm_go 100 (by exact okX2_copyFrom) rfl ?_; (try dsimp only [pm_st1, pm_st2, pm_cat2, pm_la, Option.toList, List.cons_append, List.nil_append])
      rw [nI_1]
      exact ih (k + 1) _ (by omega) (fun a ha => by rw [pm_up_ne (by omega), pm_up_ne (by omega)]; exact hm a ha)
set_option maxRecDepth 100000 in
set_option maxHeartbeats 1000000 in
theorem t_copy : pm_T cx mX2_copyFrom d 0 0 [.ref 40, .ref 3] (sh_ i0 i1 [(0, 1, [none, none, none, none, none, none, some (some 41), some (some 42), some (some 43), some (some 44), some (some 45)]), (1, 6, []), (1, 6, []), (1, 6, []), (1, 6, []), (1, 6, [])]) mu nu (fun r sg' mu' _ => r = none ∧ sg' = sh_ i0 i1 [(0, 1, [none, none, none, none, none, none, some (some 41), some (some 42), some (some 43), some (some 44), some (some 45)]), (1, 6, []), (1, 6, []), (1, 6, []), (1, 6, []), (1, 6, [])] ∧ ∀ a, a < 40 → mu' a = mu a) := by
  refine pm_enterN 1 (by exact okX2_copyFrom) rfl ?_; dsimp only [pm_la, pm_cat2, List.replicate, List.cons_append, List.nil_append, List.append_nil]
  refine pm_go 50 (by exact okX2_copyFrom) rfl ?_; (try dsimp only [pm_st1, pm_st2, pm_cat2, pm_la, Option.toList, List.cons_append, List.nil_append])
  refine t_copy_a (mu := mu) (fun mu2 h2 => ?_) 6 0 _ rfl (fun a ha => ?_)
  · refine pm_go 100 (by exact okX2_copyFrom) rfl ?_; (try dsimp only [pm_st1, pm_st2, pm_cat2, pm_la, Option.toList, List.cons_append, List.nil_append])
    refine t_copy_b (mu := mu) (fun mu3 h3 => ?_) 6 0 _ rfl h2
    refine pm_go 9999 (by exact okX2_copyFrom) rfl ?_; (try dsimp only [pm_st1, pm_st2, pm_cat2, pm_la, Option.toList, List.cons_append, List.nil_append])
    refine pm_rv (by exact okX2_copyFrom) rfl rfl (Nat.le_refl _) (Nat.le_refl _) (⟨rfl, rfl, h3⟩)
  · rw [pm_up_ne (by omega), pm_up_ne (by omega), pm_up_ne (by omega), pm_up_ne (by omega), pm_up_ne (by omega), pm_up_ne (by omega)]
set_option maxRecDepth 100000 in
set_option maxHeartbeats 1000000 in
theorem P_image (n : Int32) (h : X0 mu) (hd : 2 ≤ d) : pm_T cx mX10_image d 6 41 [.ref 0, .int n] (sh_ none none []) mu nu (cQ (.int (sp_image z0 n).1) mu) := by
  have out : n ≠ 0 → n ≠ 1 → (sp_image z0 n).1 = -2 := fun q1 q2 => by unfold sp_image; rw [if_neg q1, if_neg q2]
  refine pm_enterN 0 (by exact okX10_image) rfl ?_; dsimp only [pm_la, pm_cat2, List.replicate, List.cons_append, List.nil_append, List.append_nil]
  refine pm_go 9999 (by exact okX10_image) rfl ?_; (try dsimp only [pm_st1, pm_st2, pm_cat2, pm_la, Option.toList, List.cons_append, List.nil_append])
  refine pm_zlt (by exact okX10_image) rfl (fun h1 => ?_) (fun h1 => ?_)
  · rw [out (fun q => absurd (q ▸ h1) (by decide)) (fun q => absurd (q ▸ h1) (by decide))]
    refine pm_go 9999 (by exact okX10_image) rfl ?_; (try dsimp only [pm_st1, pm_st2, pm_cat2, pm_la, Option.toList, List.cons_append, List.nil_append])
    refine pm_ri (by exact okX10_image) rfl rfl rfl (Nat.le_of_ble_eq_true rfl) (Nat.le_of_ble_eq_true rfl) (⟨rfl, ⟨_, _, _, rfl⟩, fX.rf⟩)
  · refine pm_go 9999 (by exact okX10_image) rfl ?_; (try dsimp only [pm_st1, pm_st2, pm_cat2, pm_la, Option.toList, List.cons_append, List.nil_append])
    refine pm_ilt (by exact okX10_image) rfl (fun h2 => ?_) (fun h2 => ?_)
    · obtain ⟨k, k1, k2, rfl⟩ := rng_of (a := 0) (b := 1) (by omega) (by omega) ⟨Int32.not_lt.mp h1, (lt_le (n := 1) (by omega)).mp h2⟩
      rcases (show k = 0 ∨ k = 1 by omega) with rfl | rfl
      · refine pm_go 9999 (by exact okX10_image) rfl ?_; (try dsimp only [pm_st1, pm_st2, pm_cat2, pm_la, Option.toList, List.cons_append, List.nil_append])
        refine pm_aal (o := none) (by exact okX10_image) rfl rfl (vp_in_nI (n := 0) (by omega) (by omega)) rfl ?_
        refine pm_nnN (by exact okX10_image) rfl ?_
        refine pm_go 9999 (by exact okX10_image) rfl ?_; (try dsimp only [pm_st1, pm_st2, pm_cat2, pm_la, Option.toList, List.cons_append, List.nil_append])
        refine pm_new (k := 40) (by exact okX10_image) rfl rfl rfl rfl rfl rfl ⟨Nat.le_of_ble_eq_true rfl, Nat.le_of_ble_eq_true rfl⟩ ?_; dsimp only [List.cons_append, List.nil_append, List.set_cons_zero, List.set_cons_succ]
        dsimp only [sh_app, pm_dfl, List.nil_append]
        refine pm_go 9999 (by exact okX10_image) rfl ?_; (try dsimp only [pm_st1, pm_st2, pm_cat2, pm_la, Option.toList, List.cons_append, List.nil_append])
        refine pm_cin (by exact okX10_image) (by exact okX2_init) rfl (by dsimp only; decide +kernel) (by exact arX2_init) (K_garden2 (d := 1) (by omega)) rfl (by dsimp only; omega) rfl (Nat.le_of_ble_eq_true rfl) ⟨Nat.le_of_ble_eq_true rfl, Nat.le_of_ble_eq_true rfl⟩ ?_
        rintro _ _ mu2 nu2 ⟨rfl, rfl, b1, b2⟩ -
        refine pm_go 9999 (by exact okX10_image) rfl ?_; (try dsimp only [pm_st1, pm_st2, pm_cat2, pm_la, Option.toList, List.cons_append, List.nil_append])
        refine pm_aas (by exact okX10_image) rfl rfl rfl (vp_in_nI (n := 0) (by omega) (by omega)) (Nat.le_of_ble_eq_true rfl) ?_
        show pm_G _ _ _ _ _ _ _ (sh_ (some 40) none _) _ _
        refine pm_go 9999 (by exact okX10_image) rfl ?_; (try dsimp only [pm_st1, pm_st2, pm_cat2, pm_la, Option.toList, List.cons_append, List.nil_append])
        refine pm_aal (o := some 40) (by exact okX10_image) rfl rfl (vp_in_nI (n := 0) (by omega) (by omega)) rfl ?_
        dsimp only [pm_ov]
        refine pm_go 9999 (by exact okX10_image) rfl ?_; (try dsimp only [pm_st1, pm_st2, pm_cat2, pm_la, Option.toList, List.cons_append, List.nil_append])
        refine pm_cv (by exact okX10_image) (by exact okX2_copyFrom) rfl (by exact arX2_copyFrom) (t_copy (d := 0)) rfl rfl rfl (by dsimp only; omega) rfl (Nat.le_of_ble_eq_true rfl) ⟨Nat.le_of_ble_eq_true rfl, Nat.le_of_ble_eq_true rfl⟩ ?_
        rintro _ _ mu3 nu3 ⟨rfl, rfl, g3⟩ -
        refine pm_go 9999 (by exact okX10_image) rfl ?_; (try dsimp only [pm_st1, pm_st2, pm_cat2, pm_la, Option.toList, List.cons_append, List.nil_append])
        refine pm_ri (by exact okX10_image) rfl rfl rfl (Nat.le_of_ble_eq_true rfl) (Nat.le_of_ble_eq_true rfl) (⟨rfl, ⟨_, _, _, rfl⟩, fun a q1 q2 => by rw [g3 a (by omega), b2 a (by omega), pm_z_ne (by omega)]⟩)
      · refine pm_go 9999 (by exact okX10_image) rfl ?_; (try dsimp only [pm_st1, pm_st2, pm_cat2, pm_la, Option.toList, List.cons_append, List.nil_append])
        refine pm_aal (o := none) (by exact okX10_image) rfl rfl (vp_in_nI (n := 1) (by omega) (by omega)) rfl ?_
        refine pm_nnN (by exact okX10_image) rfl ?_
        refine pm_go 9999 (by exact okX10_image) rfl ?_; (try dsimp only [pm_st1, pm_st2, pm_cat2, pm_la, Option.toList, List.cons_append, List.nil_append])
        refine pm_new (k := 40) (by exact okX10_image) rfl rfl rfl rfl rfl rfl ⟨Nat.le_of_ble_eq_true rfl, Nat.le_of_ble_eq_true rfl⟩ ?_; dsimp only [List.cons_append, List.nil_append, List.set_cons_zero, List.set_cons_succ]
        dsimp only [sh_app, pm_dfl, List.nil_append]
        refine pm_go 9999 (by exact okX10_image) rfl ?_; (try dsimp only [pm_st1, pm_st2, pm_cat2, pm_la, Option.toList, List.cons_append, List.nil_append])
        refine pm_cin (by exact okX10_image) (by exact okX2_init) rfl (by dsimp only; decide +kernel) (by exact arX2_init) (K_garden2 (d := 1) (by omega)) rfl (by dsimp only; omega) rfl (Nat.le_of_ble_eq_true rfl) ⟨Nat.le_of_ble_eq_true rfl, Nat.le_of_ble_eq_true rfl⟩ ?_
        rintro _ _ mu2 nu2 ⟨rfl, rfl, b1, b2⟩ -
        refine pm_go 9999 (by exact okX10_image) rfl ?_; (try dsimp only [pm_st1, pm_st2, pm_cat2, pm_la, Option.toList, List.cons_append, List.nil_append])
        refine pm_aas (by exact okX10_image) rfl rfl rfl (vp_in_nI (n := 1) (by omega) (by omega)) (Nat.le_of_ble_eq_true rfl) ?_
        show pm_G _ _ _ _ _ _ _ (sh_ none (some 40) _) _ _
        refine pm_go 9999 (by exact okX10_image) rfl ?_; (try dsimp only [pm_st1, pm_st2, pm_cat2, pm_la, Option.toList, List.cons_append, List.nil_append])
        refine pm_aal (o := some 40) (by exact okX10_image) rfl rfl (vp_in_nI (n := 1) (by omega) (by omega)) rfl ?_
        dsimp only [pm_ov]
        refine pm_go 9999 (by exact okX10_image) rfl ?_; (try dsimp only [pm_st1, pm_st2, pm_cat2, pm_la, Option.toList, List.cons_append, List.nil_append])
        refine pm_cv (by exact okX10_image) (by exact okX2_copyFrom) rfl (by exact arX2_copyFrom) (t_copy (d := 0)) rfl rfl rfl (by dsimp only; omega) rfl (Nat.le_of_ble_eq_true rfl) ⟨Nat.le_of_ble_eq_true rfl, Nat.le_of_ble_eq_true rfl⟩ ?_
        rintro _ _ mu3 nu3 ⟨rfl, rfl, g3⟩ -
        refine pm_go 9999 (by exact okX10_image) rfl ?_; (try dsimp only [pm_st1, pm_st2, pm_cat2, pm_la, Option.toList, List.cons_append, List.nil_append])
        refine pm_ri (by exact okX10_image) rfl rfl rfl (Nat.le_of_ble_eq_true rfl) (Nat.le_of_ble_eq_true rfl) (⟨rfl, ⟨_, _, _, rfl⟩, fun a q1 q2 => by rw [g3 a (by omega), b2 a (by omega), pm_z_ne (by omega)]⟩)
    · rw [out (fun q => h2 (q ▸ by decide)) (fun q => h2 (q ▸ by decide))]
      refine pm_go 9999 (by exact okX10_image) rfl ?_; (try dsimp only [pm_st1, pm_st2, pm_cat2, pm_la, Option.toList, List.cons_append, List.nil_append])
      refine pm_ri (by exact okX10_image) rfl rfl rfl (Nat.le_of_ble_eq_true rfl) (Nat.le_of_ble_eq_true rfl) (⟨rfl, ⟨_, _, _, rfl⟩, fX.rf⟩)
end

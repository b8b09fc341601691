/-! ===== the constructors ===== -/
/-- a garden as at first -/
abbrev g0 : gS := ((6, 0, 6, 3), fun _ => 0, fun _ => none, [], 0, [], [])
/-- all as at first -/
abbrev z0 : mS := (g0, [], none, none)
theorem sh_app {i0 i1 : Option Nat} {ex l : List pm_C} : sh_ i0 i1 ex ++ l = sh_ i0 i1 (ex ++ l) := rfl
theorem sh_set {i0 i1 : Option Nat} {ex : List pm_C} {c : pm_C} : (sh_ i0 i1 ex).set 40 c = sh_ i0 i1 (ex.set 0 c) := rfl
section
variable {cx : pm_CX} {d n0 : Nat} {i0 i1 : Option Nat} {ex : List pm_C} {mu : pm_I} {nu : pm_J}
set_option maxRecDepth 100000 in
set_option maxHeartbeats 1000000 in
theorem K_pad (hd : 1 ≤ d) : pm_T cx mX7_init d 1 48 [.ref 1] [(0, 5, [some none, some none, some none, some none, some none, some none]), (0, 3, [none, some none])] mu nu (fun r sg' mu' _ => r = none ∧ sg' = [(0, 5, [some none, some none, some none, some none, some none, some none]), (0, 3, [none, some (some 2)]), (1, 48, [])] ∧ mu' 1 0 = 0 ∧ ∀ a, a ≠ 1 → a ≠ 2 → mu' a = mu a) := by
  refine pm_enterN 0 (by exact okX7_init) rfl ?_; dsimp only [pm_la, pm_cat2, List.replicate, List.cons_append, List.nil_append, List.append_nil]
  refine pm_go 9999 (by exact okX7_init) rfl ?_; (try dsimp only [pm_st1, pm_st2, pm_cat2, pm_la, Option.toList, List.cons_append, List.nil_append])
  refine pm_oi (by exact okX7_init) rfl (by dsimp only; omega) (Nat.le_of_ble_eq_true rfl) ?_
  refine pm_go 9999 (by exact okX7_init) rfl ?_; (try dsimp only [pm_st1, pm_st2, pm_cat2, pm_la, Option.toList, List.cons_append, List.nil_append])
  refine pm_nai (n := 48) (k := 2) (by exact okX7_init) rfl rfl rfl rfl (by omega) ⟨Nat.le_of_ble_eq_true rfl, Nat.le_of_ble_eq_true rfl⟩ ?_; dsimp only [List.cons_append, List.nil_append, List.set_cons_zero, List.set_cons_succ]
  refine pm_pfa (by exact okX7_init) rfl rfl rfl rfl rfl (Nat.le_of_ble_eq_true rfl) ?_; dsimp only [List.cons_append, List.nil_append, List.set_cons_zero, List.set_cons_succ]
  refine pm_go 9999 (by exact okX7_init) rfl ?_; (try dsimp only [pm_st1, pm_st2, pm_cat2, pm_la, Option.toList, List.cons_append, List.nil_append])
  refine pm_rv (by exact okX7_init) rfl rfl (Nat.le_of_ble_eq_true rfl) (Nat.le_of_ble_eq_true rfl) (⟨rfl, rfl, rfl, fun a h1 h2 => by rw [pm_z_ne h2, pm_up_ne h1]⟩)
set_option maxRecDepth 100000 in
set_option maxHeartbeats 1000000 in
theorem K_garden (hd : 1 ≤ d) : pm_T cx mX2_init d 5 30 [.ref 3] [(0, 5, [some (some 1), some none, some none, some none, some none, some none]), (0, 3, [none, some (some 2)]), (1, 48, []), (0, 1, [none, none, none, none, none, none, some none, some none, some none, some none, some none])] mu nu (fun r sg' mu' _ => r = none ∧ sg' = [(0, 5, [some (some 1), some none, some none, some none, some none, some none]), (0, 3, [none, some (some 2)]), (1, 48, []), (0, 1, [none, none, none, none, none, none, some (some 4), some (some 5), some (some 6), some (some 7), some (some 8)]), (1, 6, []), (1, 6, []), (1, 6, []), (1, 6, []), (1, 6, [])] ∧ XGo 3 g0 mu' ∧ ∀ a, a < 3 ∨ 9 ≤ a → mu' a = mu a) := by
  refine pm_enterN 0 (by exact okX2_init) rfl ?_; dsimp only [pm_la, pm_cat2, List.replicate, List.cons_append, List.nil_append, List.append_nil]
  refine pm_go 9999 (by exact okX2_init) rfl ?_; (try dsimp only [pm_st1, pm_st2, pm_cat2, pm_la, Option.toList, List.cons_append, List.nil_append])
  refine pm_oi (by exact okX2_init) rfl (by dsimp only; omega) (Nat.le_of_ble_eq_true rfl) ?_
  refine pm_go 9999 (by exact okX2_init) rfl ?_; (try dsimp only [pm_st1, pm_st2, pm_cat2, pm_la, Option.toList, List.cons_append, List.nil_append])
  refine pm_nai (n := 6) (k := 4) (by exact okX2_init) rfl rfl rfl rfl (by omega) ⟨Nat.le_of_ble_eq_true rfl, Nat.le_of_ble_eq_true rfl⟩ ?_; dsimp only [List.cons_append, List.nil_append, List.set_cons_zero, List.set_cons_succ]
  refine pm_pfa (by exact okX2_init) rfl rfl rfl rfl rfl (Nat.le_of_ble_eq_true rfl) ?_; dsimp only [List.cons_append, List.nil_append, List.set_cons_zero, List.set_cons_succ]
  refine pm_go 9999 (by exact okX2_init) rfl ?_; (try dsimp only [pm_st1, pm_st2, pm_cat2, pm_la, Option.toList, List.cons_append, List.nil_append])
  refine pm_nai (n := 6) (k := 5) (by exact okX2_init) rfl rfl rfl rfl (by omega) ⟨Nat.le_of_ble_eq_true rfl, Nat.le_of_ble_eq_true rfl⟩ ?_; dsimp only [List.cons_append, List.nil_append, List.set_cons_zero, List.set_cons_succ]
  refine pm_go 9999 (by exact okX2_init) rfl ?_; (try dsimp only [pm_st1, pm_st2, pm_cat2, pm_la, Option.toList, List.cons_append, List.nil_append])
  refine pm_ias (by exact okX2_init) rfl rfl (vp_in_nI (n := 0) (N := 6) (by omega) (by omega)) ?_
  refine pm_go 9999 (by exact okX2_init) rfl ?_; (try dsimp only [pm_st1, pm_st2, pm_cat2, pm_la, Option.toList, List.cons_append, List.nil_append])
  refine pm_ias (by exact okX2_init) rfl rfl (vp_in_nI (n := 1) (N := 6) (by omega) (by omega)) ?_
  refine pm_go 9999 (by exact okX2_init) rfl ?_; (try dsimp only [pm_st1, pm_st2, pm_cat2, pm_la, Option.toList, List.cons_append, List.nil_append])
  refine pm_ias (by exact okX2_init) rfl rfl (vp_in_nI (n := 2) (N := 6) (by omega) (by omega)) ?_
  refine pm_go 9999 (by exact okX2_init) rfl ?_; (try dsimp only [pm_st1, pm_st2, pm_cat2, pm_la, Option.toList, List.cons_append, List.nil_append])
  refine pm_ias (by exact okX2_init) rfl rfl (vp_in_nI (n := 3) (N := 6) (by omega) (by omega)) ?_
  refine pm_go 9999 (by exact okX2_init) rfl ?_; (try dsimp only [pm_st1, pm_st2, pm_cat2, pm_la, Option.toList, List.cons_append, List.nil_append])
  refine pm_ias (by exact okX2_init) rfl rfl (vp_in_nI (n := 4) (N := 6) (by omega) (by omega)) ?_
  refine pm_go 9999 (by exact okX2_init) rfl ?_; (try dsimp only [pm_st1, pm_st2, pm_cat2, pm_la, Option.toList, List.cons_append, List.nil_append])
  refine pm_ias (by exact okX2_init) rfl rfl (vp_in_nI (n := 5) (N := 6) (by omega) (by omega)) ?_
  refine pm_go 9999 (by exact okX2_init) rfl ?_; (try dsimp only [pm_st1, pm_st2, pm_cat2, pm_la, Option.toList, List.cons_append, List.nil_append])
  refine pm_pfa (by exact okX2_init) rfl rfl rfl rfl rfl (Nat.le_of_ble_eq_true rfl) ?_; dsimp only [List.cons_append, List.nil_append, List.set_cons_zero, List.set_cons_succ]
  refine pm_go 9999 (by exact okX2_init) rfl ?_; (try dsimp only [pm_st1, pm_st2, pm_cat2, pm_la, Option.toList, List.cons_append, List.nil_append])
  refine pm_nai (n := 6) (k := 6) (by exact okX2_init) rfl rfl rfl rfl (by omega) ⟨Nat.le_of_ble_eq_true rfl, Nat.le_of_ble_eq_true rfl⟩ ?_; dsimp only [List.cons_append, List.nil_append, List.set_cons_zero, List.set_cons_succ]
  refine pm_pfa (by exact okX2_init) rfl rfl rfl rfl rfl (Nat.le_of_ble_eq_true rfl) ?_; dsimp only [List.cons_append, List.nil_append, List.set_cons_zero, List.set_cons_succ]
  refine pm_go 9999 (by exact okX2_init) rfl ?_; (try dsimp only [pm_st1, pm_st2, pm_cat2, pm_la, Option.toList, List.cons_append, List.nil_append])
  refine pm_nai (n := 6) (k := 7) (by exact okX2_init) rfl rfl rfl rfl (by omega) ⟨Nat.le_of_ble_eq_true rfl, Nat.le_of_ble_eq_true rfl⟩ ?_; dsimp only [List.cons_append, List.nil_append, List.set_cons_zero, List.set_cons_succ]
  refine pm_pfa (by exact okX2_init) rfl rfl rfl rfl rfl (Nat.le_of_ble_eq_true rfl) ?_; dsimp only [List.cons_append, List.nil_append, List.set_cons_zero, List.set_cons_succ]
  refine pm_go 9999 (by exact okX2_init) rfl ?_; (try dsimp only [pm_st1, pm_st2, pm_cat2, pm_la, Option.toList, List.cons_append, List.nil_append])
  refine pm_nai (n := 6) (k := 8) (by exact okX2_init) rfl rfl rfl rfl (by omega) ⟨Nat.le_of_ble_eq_true rfl, Nat.le_of_ble_eq_true rfl⟩ ?_; dsimp only [List.cons_append, List.nil_append, List.set_cons_zero, List.set_cons_succ]
  refine pm_pfa (by exact okX2_init) rfl rfl rfl rfl rfl (Nat.le_of_ble_eq_true rfl) ?_; dsimp only [List.cons_append, List.nil_append, List.set_cons_zero, List.set_cons_succ]
  refine pm_go 9999 (by exact okX2_init) rfl ?_; (try dsimp only [pm_st1, pm_st2, pm_cat2, pm_la, Option.toList, List.cons_append, List.nil_append])
  refine pm_rv (by exact okX2_init) rfl rfl (Nat.le_of_ble_eq_true rfl) (Nat.le_of_ble_eq_true rfl) (⟨rfl, rfl, ⟨rfl, rfl, rfl, rfl, rfl, rfl, fun b hb => rfl, fun b hb => ?_, fun j b hb => nil_get hb, fun j b hb => nil_get hb⟩, fun a ha => ?_⟩)
  · rcases (show b = 0 ∨ b = 1 ∨ b = 2 ∨ b = 3 ∨ b = 4 ∨ b = 5 by omega) with rfl | rfl | rfl | rfl | rfl | rfl <;> rfl
  · simp only [pm_z_ne (show a ≠ 8 by omega), pm_z_ne (show a ≠ 7 by omega), pm_z_ne (show a ≠ 6 by omega), pm_z_ne (show a ≠ 5 by omega), pm_z_ne (show a ≠ 4 by omega), pm_up_ne (show a ≠ 5 by omega), pm_up_ne (show a ≠ 3 by omega)]
set_option maxRecDepth 100000 in
set_option maxHeartbeats 1000000 in
theorem K_garden2 (hd : 1 ≤ d) : pm_T cx mX2_init d 5 30 [.ref 40] (sh_ none none [(0, 1, [none, none, none, none, none, none, some none, some none, some none, some none, some none])]) mu nu (fun r sg' mu' _ => r = none ∧ sg' = sh_ none none [(0, 1, [none, none, none, none, none, none, some (some 41), some (some 42), some (some 43), some (some 44), some (some 45)]), (1, 6, []), (1, 6, []), (1, 6, []), (1, 6, []), (1, 6, [])] ∧ XGo 40 g0 mu' ∧ ∀ a, a < 40 ∨ 46 ≤ a → mu' a = mu a) := by
  refine pm_enterN 0 (by exact okX2_init) rfl ?_; dsimp only [pm_la, pm_cat2, List.replicate, List.cons_append, List.nil_append, List.append_nil]
  refine pm_go 9999 (by exact okX2_init) rfl ?_; (try dsimp only [pm_st1, pm_st2, pm_cat2, pm_la, Option.toList, List.cons_append, List.nil_append])
  refine pm_oi (by exact okX2_init) rfl (by dsimp only; omega) (Nat.le_of_ble_eq_true rfl) ?_
  refine pm_go 9999 (by exact okX2_init) rfl ?_; (try dsimp only [pm_st1, pm_st2, pm_cat2, pm_la, Option.toList, List.cons_append, List.nil_append])
  refine pm_nai (n := 6) (k := 41) (by exact okX2_init) rfl rfl rfl rfl (by omega) ⟨Nat.le_of_ble_eq_true rfl, Nat.le_of_ble_eq_true rfl⟩ ?_; dsimp only [List.cons_append, List.nil_append, List.set_cons_zero, List.set_cons_succ]
  dsimp only [sh_app, sh_set, List.cons_append, List.nil_append]
  refine pm_pfa (by exact okX2_init) rfl rfl rfl rfl rfl (Nat.le_of_ble_eq_true rfl) ?_; dsimp only [List.cons_append, List.nil_append, List.set_cons_zero, List.set_cons_succ]
  dsimp only [sh_app, sh_set, List.set_cons_zero, List.set_cons_succ]
  refine pm_go 9999 (by exact okX2_init) rfl ?_; (try dsimp only [pm_st1, pm_st2, pm_cat2, pm_la, Option.toList, List.cons_append, List.nil_append])
  refine pm_nai (n := 6) (k := 42) (by exact okX2_init) rfl rfl rfl rfl (by omega) ⟨Nat.le_of_ble_eq_true rfl, Nat.le_of_ble_eq_true rfl⟩ ?_; dsimp only [List.cons_append, List.nil_append, List.set_cons_zero, List.set_cons_succ]
  dsimp only [sh_app, sh_set, List.cons_append, List.nil_append]
  refine pm_go 9999 (by exact okX2_init) rfl ?_; (try dsimp only [pm_st1, pm_st2, pm_cat2, pm_la, Option.toList, List.cons_append, List.nil_append])
  refine pm_ias (by exact okX2_init) rfl rfl (vp_in_nI (n := 0) (N := 6) (by omega) (by omega)) ?_
  refine pm_go 9999 (by exact okX2_init) rfl ?_; (try dsimp only [pm_st1, pm_st2, pm_cat2, pm_la, Option.toList, List.cons_append, List.nil_append])
  refine pm_ias (by exact okX2_init) rfl rfl (vp_in_nI (n := 1) (N := 6) (by omega) (by omega)) ?_
  refine pm_go 9999 (by exact okX2_init) rfl ?_; (try dsimp only [pm_st1, pm_st2, pm_cat2, pm_la, Option.toList, List.cons_append, List.nil_append])
  refine pm_ias (by exact okX2_init) rfl rfl (vp_in_nI (n := 2) (N := 6) (by omega) (by omega)) ?_
  refine pm_go 9999 (by exact okX2_init) rfl ?_; (try dsimp only [pm_st1, pm_st2, pm_cat2, pm_la, Option.toList, List.cons_append, List.nil_append])
  refine pm_ias (by exact okX2_init) rfl rfl (vp_in_nI (n := 3) (N := 6) (by omega) (by omega)) ?_
  refine pm_go 9999 (by exact okX2_init) rfl ?_; (try dsimp only [pm_st1, pm_st2, pm_cat2, pm_la, Option.toList, List.cons_append, List.nil_append])
  refine pm_ias (by exact okX2_init) rfl rfl (vp_in_nI (n := 4) (N := 6) (by omega) (by omega)) ?_
  refine pm_go 9999 (by exact okX2_init) rfl ?_; (try dsimp only [pm_st1, pm_st2, pm_cat2, pm_la, Option.toList, List.cons_append, List.nil_append])
  refine pm_ias (by exact okX2_init) rfl rfl (vp_in_nI (n := 5) (N := 6) (by omega) (by omega)) ?_
  refine pm_go 9999 (by exact okX2_init) rfl ?_; (try dsimp only [pm_st1, pm_st2, pm_cat2, pm_la, Option.toList, List.cons_append, List.nil_append])
  refine pm_pfa (by exact okX2_init) rfl rfl rfl rfl rfl (Nat.le_of_ble_eq_true rfl) ?_; dsimp only [List.cons_append, List.nil_append, List.set_cons_zero, List.set_cons_succ]
  dsimp only [sh_app, sh_set, List.set_cons_zero, List.set_cons_succ]
  refine pm_go 9999 (by exact okX2_init) rfl ?_; (try dsimp only [pm_st1, pm_st2, pm_cat2, pm_la, Option.toList, List.cons_append, List.nil_append])
  refine pm_nai (n := 6) (k := 43) (by exact okX2_init) rfl rfl rfl rfl (by omega) ⟨Nat.le_of_ble_eq_true rfl, Nat.le_of_ble_eq_true rfl⟩ ?_; dsimp only [List.cons_append, List.nil_append, List.set_cons_zero, List.set_cons_succ]
  dsimp only [sh_app, sh_set, List.cons_append, List.nil_append]
  refine pm_pfa (by exact okX2_init) rfl rfl rfl rfl rfl (Nat.le_of_ble_eq_true rfl) ?_; dsimp only [List.cons_append, List.nil_append, List.set_cons_zero, List.set_cons_succ]
  dsimp only [sh_app, sh_set, List.set_cons_zero, List.set_cons_succ]
  refine pm_go 9999 (by exact okX2_init) rfl ?_; (try dsimp only [pm_st1, pm_st2, pm_cat2, pm_la, Option.toList, List.cons_append, List.nil_append])
  refine pm_nai (n := 6) (k := 44) (by exact okX2_init) rfl rfl rfl rfl (by omega) ⟨Nat.le_of_ble_eq_true rfl, Nat.le_of_ble_eq_true rfl⟩ ?_; dsimp only [List.cons_append, List.nil_append, List.set_cons_zero, List.set_cons_succ]
  dsimp only [sh_app, sh_set, List.cons_append, List.nil_append]
  refine pm_pfa (by exact okX2_init) rfl rfl rfl rfl rfl (Nat.le_of_ble_eq_true rfl) ?_; dsimp only [List.cons_append, List.nil_append, List.set_cons_zero, List.set_cons_succ]
  dsimp only [sh_app, sh_set, List.set_cons_zero, List.set_cons_succ]
  refine pm_go 9999 (by exact okX2_init) rfl ?_; (try dsimp only [pm_st1, pm_st2, pm_cat2, pm_la, Option.toList, List.cons_append, List.nil_append])
  refine pm_nai (n := 6) (k := 45) (by exact okX2_init) rfl rfl rfl rfl (by omega) ⟨Nat.le_of_ble_eq_true rfl, Nat.le_of_ble_eq_true rfl⟩ ?_; dsimp only [List.cons_append, List.nil_append, List.set_cons_zero, List.set_cons_succ]
  dsimp only [sh_app, sh_set, List.cons_append, List.nil_append]
  refine pm_pfa (by exact okX2_init) rfl rfl rfl rfl rfl (Nat.le_of_ble_eq_true rfl) ?_; dsimp only [List.cons_append, List.nil_append, List.set_cons_zero, List.set_cons_succ]
  dsimp only [sh_app, sh_set, List.set_cons_zero, List.set_cons_succ]
  refine pm_go 9999 (by exact okX2_init) rfl ?_; (try dsimp only [pm_st1, pm_st2, pm_cat2, pm_la, Option.toList, List.cons_append, List.nil_append])
  refine pm_rv (by exact okX2_init) rfl rfl (Nat.le_of_ble_eq_true rfl) (Nat.le_of_ble_eq_true rfl) (⟨rfl, rfl, ⟨rfl, rfl, rfl, rfl, rfl, rfl, fun b hb => rfl, fun b hb => ?_, fun j b hb => nil_get hb, fun j b hb => nil_get hb⟩, fun a ha => ?_⟩)
  · rcases (show b = 0 ∨ b = 1 ∨ b = 2 ∨ b = 3 ∨ b = 4 ∨ b = 5 by omega) with rfl | rfl | rfl | rfl | rfl | rfl <;> rfl
  · simp only [pm_z_ne (show a ≠ 45 by omega), pm_z_ne (show a ≠ 44 by omega), pm_z_ne (show a ≠ 43 by omega), pm_z_ne (show a ≠ 42 by omega), pm_z_ne (show a ≠ 41 by omega), pm_up_ne (show a ≠ 42 by omega), pm_up_ne (show a ≠ 40 by omega)]
set_option maxRecDepth 100000 in
set_option maxHeartbeats 1000000 in
theorem K_filling (hd : 1 ≤ d) : pm_T cx mX1_init d 2 8 [.ref 10] [(0, 5, [some (some 1), some (some 3), some (some 9), some none, some none, some none]), (0, 3, [none, some (some 2)]), (1, 48, []), (0, 1, [none, none, none, none, none, none, some (some 4), some (some 5), some (some 6), some (some 7), some (some 8)]), (1, 6, []), (1, 6, []), (1, 6, []), (1, 6, []), (1, 6, []), (4, 2, [some none, some none]), (0, 0, [none, none, none, some none, some none])] mu nu (fun r sg' mu' _ => r = none ∧ sg' = [(0, 5, [some (some 1), some (some 3), some (some 9), some none, some none, some none]), (0, 3, [none, some (some 2)]), (1, 48, []), (0, 1, [none, none, none, none, none, none, some (some 4), some (some 5), some (some 6), some (some 7), some (some 8)]), (1, 6, []), (1, 6, []), (1, 6, []), (1, 6, []), (1, 6, []), (4, 2, [some none, some none]), (0, 0, [none, none, none, some (some 11), some (some 12)]), (1, 4, []), (1, 4, [])] ∧ mu' 10 0 = 0 ∧ ∀ a, a < 10 ∨ 13 ≤ a → mu' a = mu a) := by
  refine pm_enterN 0 (by exact okX1_init) rfl ?_; dsimp only [pm_la, pm_cat2, List.replicate, List.cons_append, List.nil_append, List.append_nil]
  refine pm_go 9999 (by exact okX1_init) rfl ?_; (try dsimp only [pm_st1, pm_st2, pm_cat2, pm_la, Option.toList, List.cons_append, List.nil_append])
  refine pm_oi (by exact okX1_init) rfl (by dsimp only; omega) (Nat.le_of_ble_eq_true rfl) ?_
  refine pm_go 9999 (by exact okX1_init) rfl ?_; (try dsimp only [pm_st1, pm_st2, pm_cat2, pm_la, Option.toList, List.cons_append, List.nil_append])
  refine pm_pz (by exact okX1_init) rfl rfl rfl rfl (Or.inl rfl) ?_
  refine pm_go 9999 (by exact okX1_init) rfl ?_; (try dsimp only [pm_st1, pm_st2, pm_cat2, pm_la, Option.toList, List.cons_append, List.nil_append])
  refine pm_nai (n := 4) (k := 11) (by exact okX1_init) rfl rfl rfl rfl (by omega) ⟨Nat.le_of_ble_eq_true rfl, Nat.le_of_ble_eq_true rfl⟩ ?_; dsimp only [List.cons_append, List.nil_append, List.set_cons_zero, List.set_cons_succ]
  refine pm_pfa (by exact okX1_init) rfl rfl rfl rfl rfl (Nat.le_of_ble_eq_true rfl) ?_; dsimp only [List.cons_append, List.nil_append, List.set_cons_zero, List.set_cons_succ]
  refine pm_go 9999 (by exact okX1_init) rfl ?_; (try dsimp only [pm_st1, pm_st2, pm_cat2, pm_la, Option.toList, List.cons_append, List.nil_append])
  refine pm_nai (n := 4) (k := 12) (by exact okX1_init) rfl rfl rfl rfl (by omega) ⟨Nat.le_of_ble_eq_true rfl, Nat.le_of_ble_eq_true rfl⟩ ?_; dsimp only [List.cons_append, List.nil_append, List.set_cons_zero, List.set_cons_succ]
  refine pm_pfa (by exact okX1_init) rfl rfl rfl rfl rfl (Nat.le_of_ble_eq_true rfl) ?_; dsimp only [List.cons_append, List.nil_append, List.set_cons_zero, List.set_cons_succ]
  refine pm_go 9999 (by exact okX1_init) rfl ?_; (try dsimp only [pm_st1, pm_st2, pm_cat2, pm_la, Option.toList, List.cons_append, List.nil_append])
  refine pm_rv (by exact okX1_init) rfl rfl (Nat.le_of_ble_eq_true rfl) (Nat.le_of_ble_eq_true rfl) (⟨rfl, rfl, rfl, fun a ha => ?_⟩)
  simp only [pm_z_ne (show a ≠ 11 by omega), pm_z_ne (show a ≠ 12 by omega), pm_up_ne (show a ≠ 10 by omega)]
set_option maxRecDepth 100000 in
set_option maxHeartbeats 1000000 in
theorem K_memory (hd : 1 ≤ d) : pm_T cx mX4_init d 2 16384 [.ref 15] [(0, 5, [some (some 1), some (some 3), some (some 9), some (some 10), some none, some none]), (0, 3, [none, some (some 2)]), (1, 48, []), (0, 1, [none, none, none, none, none, none, some (some 4), some (some 5), some (some 6), some (some 7), some (some 8)]), (1, 6, []), (1, 6, []), (1, 6, []), (1, 6, []), (1, 6, []), (4, 2, [some none, some none]), (0, 0, [none, none, none, some (some 11), some (some 12)]), (1, 4, []), (1, 4, []), (0, 4, [none, none, none, some (some 14), some none]), (1, 13, []), (0, 2, [some none, some none])] mu nu (fun r sg' mu' _ => r = none ∧ sg' = [(0, 5, [some (some 1), some (some 3), some (some 9), some (some 10), some none, some none]), (0, 3, [none, some (some 2)]), (1, 48, []), (0, 1, [none, none, none, none, none, none, some (some 4), some (some 5), some (some 6), some (some 7), some (some 8)]), (1, 6, []), (1, 6, []), (1, 6, []), (1, 6, []), (1, 6, []), (4, 2, [some none, some none]), (0, 0, [none, none, none, some (some 11), some (some 12)]), (1, 4, []), (1, 4, []), (0, 4, [none, none, none, some (some 14), some none]), (1, 13, []), (0, 2, [some (some 16), some (some 17)]), (1, 8192, []), (1, 8192, [])] ∧ ∀ a, a < 15 ∨ 18 ≤ a → mu' a = mu a) := by
  refine pm_enterN 0 (by exact okX4_init) rfl ?_; dsimp only [pm_la, pm_cat2, List.replicate, List.cons_append, List.nil_append, List.append_nil]
  refine pm_go 9999 (by exact okX4_init) rfl ?_; (try dsimp only [pm_st1, pm_st2, pm_cat2, pm_la, Option.toList, List.cons_append, List.nil_append])
  refine pm_oi (by exact okX4_init) rfl (by dsimp only; omega) (Nat.le_of_ble_eq_true rfl) ?_
  refine pm_go 9999 (by exact okX4_init) rfl ?_; (try dsimp only [pm_st1, pm_st2, pm_cat2, pm_la, Option.toList, List.cons_append, List.nil_append])
  refine pm_nai (n := 8192) (k := 16) (by exact okX4_init) rfl rfl rfl rfl (by omega) ⟨Nat.le_of_ble_eq_true rfl, Nat.le_of_ble_eq_true rfl⟩ ?_; dsimp only [List.cons_append, List.nil_append, List.set_cons_zero, List.set_cons_succ]
  refine pm_pfa (by exact okX4_init) rfl rfl rfl rfl rfl (Nat.le_of_ble_eq_true rfl) ?_; dsimp only [List.cons_append, List.nil_append, List.set_cons_zero, List.set_cons_succ]
  refine pm_go 9999 (by exact okX4_init) rfl ?_; (try dsimp only [pm_st1, pm_st2, pm_cat2, pm_la, Option.toList, List.cons_append, List.nil_append])
  refine pm_nai (n := 8192) (k := 17) (by exact okX4_init) rfl rfl rfl rfl (by omega) ⟨Nat.le_of_ble_eq_true rfl, Nat.le_of_ble_eq_true rfl⟩ ?_; dsimp only [List.cons_append, List.nil_append, List.set_cons_zero, List.set_cons_succ]
  refine pm_pfa (by exact okX4_init) rfl rfl rfl rfl rfl (Nat.le_of_ble_eq_true rfl) ?_; dsimp only [List.cons_append, List.nil_append, List.set_cons_zero, List.set_cons_succ]
  refine pm_go 9999 (by exact okX4_init) rfl ?_; (try dsimp only [pm_st1, pm_st2, pm_cat2, pm_la, Option.toList, List.cons_append, List.nil_append])
  refine pm_rv (by exact okX4_init) rfl rfl (Nat.le_of_ble_eq_true rfl) (Nat.le_of_ble_eq_true rfl) (⟨rfl, rfl, fun a ha => ?_⟩)
  simp only [pm_z_ne (show a ≠ 16 by omega), pm_z_ne (show a ≠ 17 by omega)]
set_option maxRecDepth 100000 in
set_option maxHeartbeats 1000000 in
theorem K_wishing (hd : 2 ≤ d) : pm_T cx mX9_init d 4 16399 [.ref 13] [(0, 5, [some (some 1), some (some 3), some (some 9), some (some 10), some none, some none]), (0, 3, [none, some (some 2)]), (1, 48, []), (0, 1, [none, none, none, none, none, none, some (some 4), some (some 5), some (some 6), some (some 7), some (some 8)]), (1, 6, []), (1, 6, []), (1, 6, []), (1, 6, []), (1, 6, []), (4, 2, [some none, some none]), (0, 0, [none, none, none, some (some 11), some (some 12)]), (1, 4, []), (1, 4, []), (0, 4, [none, none, none, some none, some none])] mu nu (fun r sg' mu' _ => r = none ∧ sg' = [(0, 5, [some (some 1), some (some 3), some (some 9), some (some 10), some none, some none]), (0, 3, [none, some (some 2)]), (1, 48, []), (0, 1, [none, none, none, none, none, none, some (some 4), some (some 5), some (some 6), some (some 7), some (some 8)]), (1, 6, []), (1, 6, []), (1, 6, []), (1, 6, []), (1, 6, []), (4, 2, [some none, some none]), (0, 0, [none, none, none, some (some 11), some (some 12)]), (1, 4, []), (1, 4, []), (0, 4, [none, none, none, some (some 14), some (some 15)]), (1, 13, []), (0, 2, [some (some 16), some (some 17)]), (1, 8192, []), (1, 8192, [])] ∧ ∀ a, a < 13 ∨ 18 ≤ a → mu' a = mu a) := by
  refine pm_enterN 0 (by exact okX9_init) rfl ?_; dsimp only [pm_la, pm_cat2, List.replicate, List.cons_append, List.nil_append, List.append_nil]
  refine pm_go 9999 (by exact okX9_init) rfl ?_; (try dsimp only [pm_st1, pm_st2, pm_cat2, pm_la, Option.toList, List.cons_append, List.nil_append])
  refine pm_oi (by exact okX9_init) rfl (by dsimp only; omega) (Nat.le_of_ble_eq_true rfl) ?_
  refine pm_go 9999 (by exact okX9_init) rfl ?_; (try dsimp only [pm_st1, pm_st2, pm_cat2, pm_la, Option.toList, List.cons_append, List.nil_append])
  refine pm_pz (by exact okX9_init) rfl rfl rfl rfl (Or.inl rfl) ?_
  refine pm_go 9999 (by exact okX9_init) rfl ?_; (try dsimp only [pm_st1, pm_st2, pm_cat2, pm_la, Option.toList, List.cons_append, List.nil_append])
  refine pm_nai (n := 13) (k := 14) (by exact okX9_init) rfl rfl rfl rfl (by omega) ⟨Nat.le_of_ble_eq_true rfl, Nat.le_of_ble_eq_true rfl⟩ ?_; dsimp only [List.cons_append, List.nil_append, List.set_cons_zero, List.set_cons_succ]
  refine pm_pfa (by exact okX9_init) rfl rfl rfl rfl rfl (Nat.le_of_ble_eq_true rfl) ?_; dsimp only [List.cons_append, List.nil_append, List.set_cons_zero, List.set_cons_succ]
  refine pm_go 9999 (by exact okX9_init) rfl ?_; (try dsimp only [pm_st1, pm_st2, pm_cat2, pm_la, Option.toList, List.cons_append, List.nil_append])
  refine pm_new (k := 15) (by exact okX9_init) rfl rfl rfl rfl rfl rfl ⟨Nat.le_of_ble_eq_true rfl, Nat.le_of_ble_eq_true rfl⟩ ?_; dsimp only [List.cons_append, List.nil_append, List.set_cons_zero, List.set_cons_succ]
  refine pm_go 9999 (by exact okX9_init) rfl ?_; (try dsimp only [pm_st1, pm_st2, pm_cat2, pm_la, Option.toList, List.cons_append, List.nil_append])
  refine pm_cin (by exact okX9_init) (by exact okX4_init) rfl (by dsimp only; decide +kernel) (by exact arX4_init) (K_memory (d := 1) (by omega)) rfl (by dsimp only; omega) rfl (Nat.le_of_ble_eq_true rfl) ⟨Nat.le_of_ble_eq_true rfl, Nat.le_of_ble_eq_true rfl⟩ ?_
  rintro _ _ mu2 nu2 ⟨rfl, rfl, h2⟩ -
  refine pm_go 9999 (by exact okX9_init) rfl ?_; (try dsimp only [pm_st1, pm_st2, pm_cat2, pm_la, Option.toList, List.cons_append, List.nil_append])
  refine pm_pfa (by exact okX9_init) rfl rfl rfl rfl rfl (Nat.le_of_ble_eq_true rfl) ?_; dsimp only [List.cons_append, List.nil_append, List.set_cons_zero, List.set_cons_succ]
  refine pm_go 9999 (by exact okX9_init) rfl ?_; (try dsimp only [pm_st1, pm_st2, pm_cat2, pm_la, Option.toList, List.cons_append, List.nil_append])
  refine pm_rv (by exact okX9_init) rfl rfl (Nat.le_of_ble_eq_true rfl) (Nat.le_of_ble_eq_true rfl) (⟨rfl, rfl, fun a ha => ?_⟩)
  rw [h2 a (by omega)]
  simp only [pm_z_ne (show a ≠ 14 by omega), pm_z_ne (show a ≠ 15 by omega), pm_up_ne (show a ≠ 13 by omega)]
/-- the class's cells, made -/
abbrev sh19 : List pm_C := [(0, 5, [some (some 1), some (some 3), some (some 9), some (some 10), some (some 13), some (some 18)]), (0, 3, [none, some (some 2)]), (1, 48, []), (0, 1, [none, none, none, none, none, none, some (some 4), some (some 5), some (some 6), some (some 7), some (some 8)]), (1, 6, []), (1, 6, []), (1, 6, []), (1, 6, []), (1, 6, []), (4, 2, [some none, some none]), (0, 0, [none, none, none, some (some 11), some (some 12)]), (1, 4, []), (1, 4, []), (0, 4, [none, none, none, some (some 14), some (some 15)]), (1, 13, []), (0, 2, [some (some 16), some (some 17)]), (1, 8192, []), (1, 8192, []), (3, 31, [])]
/-- what the class's cells hold at first -/
def X0 (mu : pm_I) : Prop := XGo 3 g0 mu ∧ XP [] mu ∧ mu 10 0 = 0
theorem X0.same (mu' : pm_I) {mu : pm_I} (h : X0 mu) (he : ∀ a, a < 19 → mu' a = mu a) : X0 mu' := by
  refine ⟨h.1.same (fun j hj => he _ (by omega)), ⟨?_, fun k b hb => nil_get hb⟩, ?_⟩
  · rw [he 1 (by omega)]; exact h.2.1.1
  · rw [he 10 (by omega)]; exact h.2.2
set_option maxRecDepth 100000 in
set_option maxHeartbeats 1000000 in
theorem K_class (hd : 3 ≤ d) : pm_T cx mX10_init d 18 16541 [.ref 0] [(0, 5, [some none, some none, some none, some none, some none, some none])] mu nu (fun r sg' mu' _ => r = none ∧ sg' = sh19 ∧ X0 mu') := by
  refine pm_enterN 0 (by exact okX10_init) rfl ?_; dsimp only [pm_la, pm_cat2, List.replicate, List.cons_append, List.nil_append, List.append_nil]
  refine pm_go 9999 (by exact okX10_init) rfl ?_; (try dsimp only [pm_st1, pm_st2, pm_cat2, pm_la, Option.toList, List.cons_append, List.nil_append])
  refine pm_oi (by exact okX10_init) rfl (by dsimp only; omega) (Nat.le_of_ble_eq_true rfl) ?_
  refine pm_go 9999 (by exact okX10_init) rfl ?_; (try dsimp only [pm_st1, pm_st2, pm_cat2, pm_la, Option.toList, List.cons_append, List.nil_append])
  refine pm_new (k := 1) (by exact okX10_init) rfl rfl rfl rfl rfl rfl ⟨Nat.le_of_ble_eq_true rfl, Nat.le_of_ble_eq_true rfl⟩ ?_; dsimp only [List.cons_append, List.nil_append, List.set_cons_zero, List.set_cons_succ]
  refine pm_go 9999 (by exact okX10_init) rfl ?_; (try dsimp only [pm_st1, pm_st2, pm_cat2, pm_la, Option.toList, List.cons_append, List.nil_append])
  refine pm_cin (by exact okX10_init) (by exact okX7_init) rfl (by dsimp only; decide +kernel) (by exact arX7_init) (K_pad (d := 1) (by omega)) rfl (by dsimp only; omega) rfl (Nat.le_of_ble_eq_true rfl) ⟨Nat.le_of_ble_eq_true rfl, Nat.le_of_ble_eq_true rfl⟩ ?_
  rintro _ _ mu1 nu1 ⟨rfl, rfl, a1, a2⟩ -
  refine pm_go 9999 (by exact okX10_init) rfl ?_; (try dsimp only [pm_st1, pm_st2, pm_cat2, pm_la, Option.toList, List.cons_append, List.nil_append])
  refine pm_pfa (by exact okX10_init) rfl rfl rfl rfl rfl (Nat.le_of_ble_eq_true rfl) ?_; dsimp only [List.cons_append, List.nil_append, List.set_cons_zero, List.set_cons_succ]
  refine pm_go 9999 (by exact okX10_init) rfl ?_; (try dsimp only [pm_st1, pm_st2, pm_cat2, pm_la, Option.toList, List.cons_append, List.nil_append])
  refine pm_new (k := 3) (by exact okX10_init) rfl rfl rfl rfl rfl rfl ⟨Nat.le_of_ble_eq_true rfl, Nat.le_of_ble_eq_true rfl⟩ ?_; dsimp only [List.cons_append, List.nil_append, List.set_cons_zero, List.set_cons_succ]
  refine pm_go 9999 (by exact okX10_init) rfl ?_; (try dsimp only [pm_st1, pm_st2, pm_cat2, pm_la, Option.toList, List.cons_append, List.nil_append])
  refine pm_cin (by exact okX10_init) (by exact okX2_init) rfl (by dsimp only; decide +kernel) (by exact arX2_init) (K_garden (d := 1) (by omega)) rfl (by dsimp only; omega) rfl (Nat.le_of_ble_eq_true rfl) ⟨Nat.le_of_ble_eq_true rfl, Nat.le_of_ble_eq_true rfl⟩ ?_
  rintro _ _ mu2 nu2 ⟨rfl, rfl, b1, b2⟩ -
  refine pm_go 9999 (by exact okX10_init) rfl ?_; (try dsimp only [pm_st1, pm_st2, pm_cat2, pm_la, Option.toList, List.cons_append, List.nil_append])
  refine pm_pfa (by exact okX10_init) rfl rfl rfl rfl rfl (Nat.le_of_ble_eq_true rfl) ?_; dsimp only [List.cons_append, List.nil_append, List.set_cons_zero, List.set_cons_succ]
  refine pm_go 9999 (by exact okX10_init) rfl ?_; (try dsimp only [pm_st1, pm_st2, pm_cat2, pm_la, Option.toList, List.cons_append, List.nil_append])
  refine pm_naa (n := 2) (k := 9) (by exact okX10_init) rfl rfl rfl rfl (by omega) ⟨Nat.le_of_ble_eq_true rfl, Nat.le_of_ble_eq_true rfl⟩ ?_; dsimp only [List.cons_append, List.nil_append, List.set_cons_zero, List.set_cons_succ]
  refine pm_pfa (by exact okX10_init) rfl rfl rfl rfl rfl (Nat.le_of_ble_eq_true rfl) ?_; dsimp only [List.cons_append, List.nil_append, List.set_cons_zero, List.set_cons_succ]
  refine pm_go 9999 (by exact okX10_init) rfl ?_; (try dsimp only [pm_st1, pm_st2, pm_cat2, pm_la, Option.toList, List.cons_append, List.nil_append])
  refine pm_new (k := 10) (by exact okX10_init) rfl rfl rfl rfl rfl rfl ⟨Nat.le_of_ble_eq_true rfl, Nat.le_of_ble_eq_true rfl⟩ ?_; dsimp only [List.cons_append, List.nil_append, List.set_cons_zero, List.set_cons_succ]
  refine pm_go 9999 (by exact okX10_init) rfl ?_; (try dsimp only [pm_st1, pm_st2, pm_cat2, pm_la, Option.toList, List.cons_append, List.nil_append])
  refine pm_cin (by exact okX10_init) (by exact okX1_init) rfl (by dsimp only; decide +kernel) (by exact arX1_init) (K_filling (d := 1) (by omega)) rfl (by dsimp only; omega) rfl (Nat.le_of_ble_eq_true rfl) ⟨Nat.le_of_ble_eq_true rfl, Nat.le_of_ble_eq_true rfl⟩ ?_
  rintro _ _ mu3 nu3 ⟨rfl, rfl, c1, c2⟩ -
  refine pm_go 9999 (by exact okX10_init) rfl ?_; (try dsimp only [pm_st1, pm_st2, pm_cat2, pm_la, Option.toList, List.cons_append, List.nil_append])
  refine pm_pfa (by exact okX10_init) rfl rfl rfl rfl rfl (Nat.le_of_ble_eq_true rfl) ?_; dsimp only [List.cons_append, List.nil_append, List.set_cons_zero, List.set_cons_succ]
  refine pm_go 9999 (by exact okX10_init) rfl ?_; (try dsimp only [pm_st1, pm_st2, pm_cat2, pm_la, Option.toList, List.cons_append, List.nil_append])
  refine pm_new (k := 13) (by exact okX10_init) rfl rfl rfl rfl rfl rfl ⟨Nat.le_of_ble_eq_true rfl, Nat.le_of_ble_eq_true rfl⟩ ?_; dsimp only [List.cons_append, List.nil_append, List.set_cons_zero, List.set_cons_succ]
  refine pm_go 9999 (by exact okX10_init) rfl ?_; (try dsimp only [pm_st1, pm_st2, pm_cat2, pm_la, Option.toList, List.cons_append, List.nil_append])
  refine pm_cin (by exact okX10_init) (by exact okX9_init) rfl (by dsimp only; decide +kernel) (by exact arX9_init) (K_wishing (d := 2) (by omega)) rfl (by dsimp only; omega) rfl (Nat.le_of_ble_eq_true rfl) ⟨Nat.le_of_ble_eq_true rfl, Nat.le_of_ble_eq_true rfl⟩ ?_
  rintro _ _ mu4 nu4 ⟨rfl, rfl, e2⟩ -
  refine pm_go 9999 (by exact okX10_init) rfl ?_; (try dsimp only [pm_st1, pm_st2, pm_cat2, pm_la, Option.toList, List.cons_append, List.nil_append])
  refine pm_pfa (by exact okX10_init) rfl rfl rfl rfl rfl (Nat.le_of_ble_eq_true rfl) ?_; dsimp only [List.cons_append, List.nil_append, List.set_cons_zero, List.set_cons_succ]
  refine pm_go 9999 (by exact okX10_init) rfl ?_; (try dsimp only [pm_st1, pm_st2, pm_cat2, pm_la, Option.toList, List.cons_append, List.nil_append])
  refine pm_nal (n := 31) (k := 18) (by exact okX10_init) rfl rfl rfl rfl (by omega) ⟨Nat.le_of_ble_eq_true rfl, Nat.le_of_ble_eq_true rfl⟩ ?_; dsimp only [List.cons_append, List.nil_append, List.set_cons_zero, List.set_cons_succ]
  refine pm_pfa (by exact okX10_init) rfl rfl rfl rfl rfl (Nat.le_of_ble_eq_true rfl) ?_; dsimp only [List.cons_append, List.nil_append, List.set_cons_zero, List.set_cons_succ]
  refine pm_go 9999 (by exact okX10_init) rfl ?_; (try dsimp only [pm_st1, pm_st2, pm_cat2, pm_la, Option.toList, List.cons_append, List.nil_append])
  refine pm_rv (by exact okX10_init) rfl rfl (Nat.le_of_ble_eq_true rfl) (Nat.le_of_ble_eq_true rfl) (⟨rfl, rfl, b1.same (fun j hj => ?_), ⟨?_, fun k b hb => nil_get hb⟩, ?_⟩)
  · rw [pm_z_ne (by omega), e2 _ (by omega), pm_z_ne (by omega), c2 _ (by omega), pm_z_ne (by omega), pm_z_ne (by omega)]
  · rw [pm_z_ne (by omega), e2 _ (by omega), pm_z_ne (by omega), c2 _ (by omega), pm_z_ne (by omega), pm_z_ne (by omega), b2 _ (by omega), pm_z_ne (by omega)]
    exact a1
  · rw [pm_z_ne (by omega), e2 _ (by omega), pm_z_ne (by omega)]
    exact c1
set_option maxRecDepth 100000 in
set_option maxHeartbeats 1000000 in
theorem K_model (hz : mu 19 = fun _ => 0) (hd : 1 ≤ d) : pm_T cx mX11_init d 20 163971 [.ref 19] (sh19 ++ [(0, 6, pm_dfl 6)]) mu nu (fun r sg' mu' _ => r = none ∧ sg' = sh_ none none [] ∧ MA z0 mu' ∧ ∀ a, a < 19 → mu' a = mu a) := by
  dsimp only [sh19, pm_dfl, List.cons_append, List.nil_append]
  refine pm_enterN 0 (by exact okX11_init) rfl ?_; dsimp only [pm_la, pm_cat2, List.replicate, List.cons_append, List.nil_append, List.append_nil]
  refine pm_go 9999 (by exact okX11_init) rfl ?_; (try dsimp only [pm_st1, pm_st2, pm_cat2, pm_la, Option.toList, List.cons_append, List.nil_append])
  refine pm_oi (by exact okX11_init) rfl (by dsimp only; omega) (Nat.le_of_ble_eq_true rfl) ?_
  refine pm_go 9999 (by exact okX11_init) rfl ?_; (try dsimp only [pm_st1, pm_st2, pm_cat2, pm_la, Option.toList, List.cons_append, List.nil_append])
  refine pm_nai (n := 6) (k := 20) (by exact okX11_init) rfl rfl rfl rfl (by omega) ⟨Nat.le_of_ble_eq_true rfl, Nat.le_of_ble_eq_true rfl⟩ ?_; dsimp only [List.cons_append, List.nil_append, List.set_cons_zero, List.set_cons_succ]
  refine pm_pfa (by exact okX11_init) rfl rfl rfl rfl rfl (Nat.le_of_ble_eq_true rfl) ?_; dsimp only [List.cons_append, List.nil_append, List.set_cons_zero, List.set_cons_succ]
  refine pm_go 9999 (by exact okX11_init) rfl ?_; (try dsimp only [pm_st1, pm_st2, pm_cat2, pm_la, Option.toList, List.cons_append, List.nil_append])
  refine pm_nai (n := 6) (k := 21) (by exact okX11_init) rfl rfl rfl rfl (by omega) ⟨Nat.le_of_ble_eq_true rfl, Nat.le_of_ble_eq_true rfl⟩ ?_; dsimp only [List.cons_append, List.nil_append, List.set_cons_zero, List.set_cons_succ]
  refine pm_pfa (by exact okX11_init) rfl rfl rfl rfl rfl (Nat.le_of_ble_eq_true rfl) ?_; dsimp only [List.cons_append, List.nil_append, List.set_cons_zero, List.set_cons_succ]
  refine pm_go 9999 (by exact okX11_init) rfl ?_; (try dsimp only [pm_st1, pm_st2, pm_cat2, pm_la, Option.toList, List.cons_append, List.nil_append])
  refine pm_nai (n := 48) (k := 22) (by exact okX11_init) rfl rfl rfl rfl (by omega) ⟨Nat.le_of_ble_eq_true rfl, Nat.le_of_ble_eq_true rfl⟩ ?_; dsimp only [List.cons_append, List.nil_append, List.set_cons_zero, List.set_cons_succ]
  refine pm_pfa (by exact okX11_init) rfl rfl rfl rfl rfl (Nat.le_of_ble_eq_true rfl) ?_; dsimp only [List.cons_append, List.nil_append, List.set_cons_zero, List.set_cons_succ]
  refine pm_go 9999 (by exact okX11_init) rfl ?_; (try dsimp only [pm_st1, pm_st2, pm_cat2, pm_la, Option.toList, List.cons_append, List.nil_append])
  refine pm_nai (n := 6) (k := 23) (by exact okX11_init) rfl rfl rfl rfl (by omega) ⟨Nat.le_of_ble_eq_true rfl, Nat.le_of_ble_eq_true rfl⟩ ?_; dsimp only [List.cons_append, List.nil_append, List.set_cons_zero, List.set_cons_succ]
  refine pm_pfa (by exact okX11_init) rfl rfl rfl rfl rfl (Nat.le_of_ble_eq_true rfl) ?_; dsimp only [List.cons_append, List.nil_append, List.set_cons_zero, List.set_cons_succ]
  refine pm_go 9999 (by exact okX11_init) rfl ?_; (try dsimp only [pm_st1, pm_st2, pm_cat2, pm_la, Option.toList, List.cons_append, List.nil_append])
  refine pm_nai (n := 12) (k := 24) (by exact okX11_init) rfl rfl rfl rfl (by omega) ⟨Nat.le_of_ble_eq_true rfl, Nat.le_of_ble_eq_true rfl⟩ ?_; dsimp only [List.cons_append, List.nil_append, List.set_cons_zero, List.set_cons_succ]
  refine pm_pfa (by exact okX11_init) rfl rfl rfl rfl rfl (Nat.le_of_ble_eq_true rfl) ?_; dsimp only [List.cons_append, List.nil_append, List.set_cons_zero, List.set_cons_succ]
  refine pm_go 9999 (by exact okX11_init) rfl ?_; (try dsimp only [pm_st1, pm_st2, pm_cat2, pm_la, Option.toList, List.cons_append, List.nil_append])
  refine pm_nai (n := 6) (k := 25) (by exact okX11_init) rfl rfl rfl rfl (by omega) ⟨Nat.le_of_ble_eq_true rfl, Nat.le_of_ble_eq_true rfl⟩ ?_; dsimp only [List.cons_append, List.nil_append, List.set_cons_zero, List.set_cons_succ]
  refine pm_pfa (by exact okX11_init) rfl rfl rfl rfl rfl (Nat.le_of_ble_eq_true rfl) ?_; dsimp only [List.cons_append, List.nil_append, List.set_cons_zero, List.set_cons_succ]
  refine pm_go 9999 (by exact okX11_init) rfl ?_; (try dsimp only [pm_st1, pm_st2, pm_cat2, pm_la, Option.toList, List.cons_append, List.nil_append])
  refine pm_naz (n := 49) (k := 26) (by exact okX11_init) rfl rfl rfl rfl (by omega) ⟨Nat.le_of_ble_eq_true rfl, Nat.le_of_ble_eq_true rfl⟩ ?_; dsimp only [List.cons_append, List.nil_append, List.set_cons_zero, List.set_cons_succ]
  refine pm_pfa (by exact okX11_init) rfl rfl rfl rfl rfl (Nat.le_of_ble_eq_true rfl) ?_; dsimp only [List.cons_append, List.nil_append, List.set_cons_zero, List.set_cons_succ]
  refine pm_go 9999 (by exact okX11_init) rfl ?_; (try dsimp only [pm_st1, pm_st2, pm_cat2, pm_la, Option.toList, List.cons_append, List.nil_append])
  refine pm_nal (n := 32) (k := 27) (by exact okX11_init) rfl rfl rfl rfl (by omega) ⟨Nat.le_of_ble_eq_true rfl, Nat.le_of_ble_eq_true rfl⟩ ?_; dsimp only [List.cons_append, List.nil_append, List.set_cons_zero, List.set_cons_succ]
  refine pm_pfa (by exact okX11_init) rfl rfl rfl rfl rfl (Nat.le_of_ble_eq_true rfl) ?_; dsimp only [List.cons_append, List.nil_append, List.set_cons_zero, List.set_cons_succ]
  refine pm_go 9999 (by exact okX11_init) rfl ?_; (try dsimp only [pm_st1, pm_st2, pm_cat2, pm_la, Option.toList, List.cons_append, List.nil_append])
  refine pm_nal (n := 65536) (k := 28) (by exact okX11_init) rfl rfl rfl rfl (by omega) ⟨Nat.le_of_ble_eq_true rfl, Nat.le_of_ble_eq_true rfl⟩ ?_; dsimp only [List.cons_append, List.nil_append, List.set_cons_zero, List.set_cons_succ]
  refine pm_pfa (by exact okX11_init) rfl rfl rfl rfl rfl (Nat.le_of_ble_eq_true rfl) ?_; dsimp only [List.cons_append, List.nil_append, List.set_cons_zero, List.set_cons_succ]
  refine pm_go 9999 (by exact okX11_init) rfl ?_; (try dsimp only [pm_st1, pm_st2, pm_cat2, pm_la, Option.toList, List.cons_append, List.nil_append])
  refine pm_nal (n := 65536) (k := 29) (by exact okX11_init) rfl rfl rfl rfl (by omega) ⟨Nat.le_of_ble_eq_true rfl, Nat.le_of_ble_eq_true rfl⟩ ?_; dsimp only [List.cons_append, List.nil_append, List.set_cons_zero, List.set_cons_succ]
  refine pm_pfa (by exact okX11_init) rfl rfl rfl rfl rfl (Nat.le_of_ble_eq_true rfl) ?_; dsimp only [List.cons_append, List.nil_append, List.set_cons_zero, List.set_cons_succ]
  refine pm_go 9999 (by exact okX11_init) rfl ?_; (try dsimp only [pm_st1, pm_st2, pm_cat2, pm_la, Option.toList, List.cons_append, List.nil_append])
  refine pm_nai (n := 5400) (k := 30) (by exact okX11_init) rfl rfl rfl rfl (by omega) ⟨Nat.le_of_ble_eq_true rfl, Nat.le_of_ble_eq_true rfl⟩ ?_; dsimp only [List.cons_append, List.nil_append, List.set_cons_zero, List.set_cons_succ]
  refine pm_pfa (by exact okX11_init) rfl rfl rfl rfl rfl (Nat.le_of_ble_eq_true rfl) ?_; dsimp only [List.cons_append, List.nil_append, List.set_cons_zero, List.set_cons_succ]
  refine pm_go 9999 (by exact okX11_init) rfl ?_; (try dsimp only [pm_st1, pm_st2, pm_cat2, pm_la, Option.toList, List.cons_append, List.nil_append])
  refine pm_nai (n := 5400) (k := 31) (by exact okX11_init) rfl rfl rfl rfl (by omega) ⟨Nat.le_of_ble_eq_true rfl, Nat.le_of_ble_eq_true rfl⟩ ?_; dsimp only [List.cons_append, List.nil_append, List.set_cons_zero, List.set_cons_succ]
  refine pm_pfa (by exact okX11_init) rfl rfl rfl rfl rfl (Nat.le_of_ble_eq_true rfl) ?_; dsimp only [List.cons_append, List.nil_append, List.set_cons_zero, List.set_cons_succ]
  refine pm_go 9999 (by exact okX11_init) rfl ?_; (try dsimp only [pm_st1, pm_st2, pm_cat2, pm_la, Option.toList, List.cons_append, List.nil_append])
  refine pm_nai (n := 5400) (k := 32) (by exact okX11_init) rfl rfl rfl rfl (by omega) ⟨Nat.le_of_ble_eq_true rfl, Nat.le_of_ble_eq_true rfl⟩ ?_; dsimp only [List.cons_append, List.nil_append, List.set_cons_zero, List.set_cons_succ]
  refine pm_pfa (by exact okX11_init) rfl rfl rfl rfl rfl (Nat.le_of_ble_eq_true rfl) ?_; dsimp only [List.cons_append, List.nil_append, List.set_cons_zero, List.set_cons_succ]
  refine pm_go 9999 (by exact okX11_init) rfl ?_; (try dsimp only [pm_st1, pm_st2, pm_cat2, pm_la, Option.toList, List.cons_append, List.nil_append])
  refine pm_nai (n := 16384) (k := 33) (by exact okX11_init) rfl rfl rfl rfl (by omega) ⟨Nat.le_of_ble_eq_true rfl, Nat.le_of_ble_eq_true rfl⟩ ?_; dsimp only [List.cons_append, List.nil_append, List.set_cons_zero, List.set_cons_succ]
  refine pm_pfa (by exact okX11_init) rfl rfl rfl rfl rfl (Nat.le_of_ble_eq_true rfl) ?_; dsimp only [List.cons_append, List.nil_append, List.set_cons_zero, List.set_cons_succ]
  refine pm_go 9999 (by exact okX11_init) rfl ?_; (try dsimp only [pm_st1, pm_st2, pm_cat2, pm_la, Option.toList, List.cons_append, List.nil_append])
  refine pm_nai (n := 16) (k := 34) (by exact okX11_init) rfl rfl rfl rfl (by omega) ⟨Nat.le_of_ble_eq_true rfl, Nat.le_of_ble_eq_true rfl⟩ ?_; dsimp only [List.cons_append, List.nil_append, List.set_cons_zero, List.set_cons_succ]
  refine pm_pfa (by exact okX11_init) rfl rfl rfl rfl rfl (Nat.le_of_ble_eq_true rfl) ?_; dsimp only [List.cons_append, List.nil_append, List.set_cons_zero, List.set_cons_succ]
  refine pm_go 9999 (by exact okX11_init) rfl ?_; (try dsimp only [pm_st1, pm_st2, pm_cat2, pm_la, Option.toList, List.cons_append, List.nil_append])
  refine pm_nai (n := 16) (k := 35) (by exact okX11_init) rfl rfl rfl rfl (by omega) ⟨Nat.le_of_ble_eq_true rfl, Nat.le_of_ble_eq_true rfl⟩ ?_; dsimp only [List.cons_append, List.nil_append, List.set_cons_zero, List.set_cons_succ]
  refine pm_pfa (by exact okX11_init) rfl rfl rfl rfl rfl (Nat.le_of_ble_eq_true rfl) ?_; dsimp only [List.cons_append, List.nil_append, List.set_cons_zero, List.set_cons_succ]
  refine pm_go 9999 (by exact okX11_init) rfl ?_; (try dsimp only [pm_st1, pm_st2, pm_cat2, pm_la, Option.toList, List.cons_append, List.nil_append])
  refine pm_nai (n := 16) (k := 36) (by exact okX11_init) rfl rfl rfl rfl (by omega) ⟨Nat.le_of_ble_eq_true rfl, Nat.le_of_ble_eq_true rfl⟩ ?_; dsimp only [List.cons_append, List.nil_append, List.set_cons_zero, List.set_cons_succ]
  refine pm_pfa (by exact okX11_init) rfl rfl rfl rfl rfl (Nat.le_of_ble_eq_true rfl) ?_; dsimp only [List.cons_append, List.nil_append, List.set_cons_zero, List.set_cons_succ]
  refine pm_go 9999 (by exact okX11_init) rfl ?_; (try dsimp only [pm_st1, pm_st2, pm_cat2, pm_la, Option.toList, List.cons_append, List.nil_append])
  refine pm_nai (n := 16) (k := 37) (by exact okX11_init) rfl rfl rfl rfl (by omega) ⟨Nat.le_of_ble_eq_true rfl, Nat.le_of_ble_eq_true rfl⟩ ?_; dsimp only [List.cons_append, List.nil_append, List.set_cons_zero, List.set_cons_succ]
  refine pm_pfa (by exact okX11_init) rfl rfl rfl rfl rfl (Nat.le_of_ble_eq_true rfl) ?_; dsimp only [List.cons_append, List.nil_append, List.set_cons_zero, List.set_cons_succ]
  refine pm_go 9999 (by exact okX11_init) rfl ?_; (try dsimp only [pm_st1, pm_st2, pm_cat2, pm_la, Option.toList, List.cons_append, List.nil_append])
  refine pm_nai (n := 84) (k := 38) (by exact okX11_init) rfl rfl rfl rfl (by omega) ⟨Nat.le_of_ble_eq_true rfl, Nat.le_of_ble_eq_true rfl⟩ ?_; dsimp only [List.cons_append, List.nil_append, List.set_cons_zero, List.set_cons_succ]
  refine pm_pfa (by exact okX11_init) rfl rfl rfl rfl rfl (Nat.le_of_ble_eq_true rfl) ?_; dsimp only [List.cons_append, List.nil_append, List.set_cons_zero, List.set_cons_succ]
  refine pm_go 9999 (by exact okX11_init) rfl ?_; (try dsimp only [pm_st1, pm_st2, pm_cat2, pm_la, Option.toList, List.cons_append, List.nil_append])
  refine pm_naz (n := 2) (k := 39) (by exact okX11_init) rfl rfl rfl rfl (by omega) ⟨Nat.le_of_ble_eq_true rfl, Nat.le_of_ble_eq_true rfl⟩ ?_; dsimp only [List.cons_append, List.nil_append, List.set_cons_zero, List.set_cons_succ]
  refine pm_pfa (by exact okX11_init) rfl rfl rfl rfl rfl (Nat.le_of_ble_eq_true rfl) ?_; dsimp only [List.cons_append, List.nil_append, List.set_cons_zero, List.set_cons_succ]
  refine pm_go 9999 (by exact okX11_init) rfl ?_; (try dsimp only [pm_st1, pm_st2, pm_cat2, pm_la, Option.toList, List.cons_append, List.nil_append])
  refine pm_cv (by exact okX11_init) (by exact okX11_begin) rfl (by exact arX11_begin) (t_begin (d := 0) (i0 := none) (i1 := none) (ex := [])) rfl rfl rfl (by dsimp only; omega) rfl (Nat.le_of_ble_eq_true rfl) ⟨Nat.le_of_ble_eq_true rfl, Nat.le_of_ble_eq_true rfl⟩ ?_
  rintro _ _ mu2 nu2 ⟨rfl, rfl, g1, g2, g3, g4, g5, g6, g7⟩ -
  refine pm_go 9999 (by exact okX11_init) rfl ?_; (try dsimp only [pm_st1, pm_st2, pm_cat2, pm_la, Option.toList, List.cons_append, List.nil_append])
  refine pm_rv (by exact okX11_init) rfl rfl (Nat.le_of_ble_eq_true rfl) (Nat.le_of_ble_eq_true rfl) (⟨rfl, rfl, ⟨⟨by rw [g3 0 (by omega) (by omega) (by omega) (by omega)]; rfl, by rw [g3 3 (by omega) (by omega) (by omega) (by omega)]; exact congrFun hz 3, by rw [g3 4 (by omega) (by omega) (by omega) (by omega)]; rfl, by rw [g3 5 (by omega) (by omega) (by omega) (by omega)]; rfl, by rw [g3 6 (by omega) (by omega) (by omega) (by omega)]; exact congrFun hz 6, g4, g5, g6, g7, fun b hb => (g1 b hb).1, fun b hb => (g1 b hb).2, fun k b hb => nil_get hb, fun k b hb => nil_get hb, fun k b hb => nil_get hb⟩, ⟨by rw [g2 39 (by omega) (by omega) (by omega)]; exact (bI_0 (by decide)).symm, fun g hg => by cases hg⟩, ⟨by rw [g2 39 (by omega) (by omega) (by omega)]; exact (bI_0 (by decide)).symm, fun g hg => by cases hg⟩⟩, fun a ha => ?_⟩)
  rw [g2 a (by omega) (by omega) (by omega)]
  simp only [pm_z_ne (show a ≠ 20 by omega), pm_z_ne (show a ≠ 21 by omega), pm_z_ne (show a ≠ 22 by omega), pm_z_ne (show a ≠ 23 by omega), pm_z_ne (show a ≠ 24 by omega), pm_z_ne (show a ≠ 25 by omega), pm_z_ne (show a ≠ 26 by omega), pm_z_ne (show a ≠ 27 by omega), pm_z_ne (show a ≠ 28 by omega), pm_z_ne (show a ≠ 29 by omega), pm_z_ne (show a ≠ 30 by omega), pm_z_ne (show a ≠ 31 by omega), pm_z_ne (show a ≠ 32 by omega), pm_z_ne (show a ≠ 33 by omega), pm_z_ne (show a ≠ 34 by omega), pm_z_ne (show a ≠ 35 by omega), pm_z_ne (show a ≠ 36 by omega), pm_z_ne (show a ≠ 37 by omega), pm_z_ne (show a ≠ 38 by omega), pm_z_ne (show a ≠ 39 by omega), pm_up_ne (show a ≠ 19 by omega)]
end

/-! ===== the reference's behind and fewest on a fresh object ===== -/
section
variable {cx : pm_CX} {d n0 : Nat} {i0 i1 : Option Nat} {ex : List pm_C} {mu : pm_I} {nu : pm_J}
set_option maxRecDepth 100000 in
set_option maxHeartbeats 1000000 in
theorem R_behind (h : MA z0 mu) (hd : 3 ≤ d) : pm_T cx mX11_behind d 0 0 [.ref 19] (sh_ i0 i1 ex) mu nu (mQ (.int (-5)) z0 i0 i1 ex mu) := by
  obtain ⟨⟨a1, a2, a3, a4, a5, a6, a7, a8, a9, b1, b2, b3, b4, b5⟩, c1, c2⟩ := id h
  refine pm_enterN 1 (by exact okX11_behind) rfl ?_; dsimp only [pm_la, pm_cat2, List.replicate, List.cons_append, List.nil_append, List.append_nil]
  refine pm_go 9999 (by exact okX11_behind) rfl ?_; (try dsimp only [pm_st1, pm_st2, pm_cat2, pm_la, Option.toList, List.cons_append, List.nil_append])
  refine pm_cv (by exact okX11_behind) (by exact okX11_orderFault) rfl (by exact arX11_orderFault) (t_orderFault (d := 2) (B := 6) (pd := []) a1 (by omega) a5 b3 d0_OK (by omega)) rfl rfl rfl (by dsimp only; omega) rfl (Nat.le_of_ble_eq_true rfl) ⟨Nat.zero_le _, Nat.zero_le _⟩ ?_
  rintro _ _ _ _ ⟨rfl, rfl, rfl, rfl⟩ -
  refine pm_go 9999 (by exact okX11_behind) rfl ?_; (try dsimp only [pm_st1, pm_st2, pm_cat2, pm_la, Option.toList, List.cons_append, List.nil_append])
  refine pm_zlt (by exact okX11_behind) rfl (fun h1 => ?_) (fun h1 => ?_)
  · exact absurd h1 (by decide)
  · refine pm_go 9999 (by exact okX11_behind) rfl ?_; (try dsimp only [pm_st1, pm_st2, pm_cat2, pm_la, Option.toList, List.cons_append, List.nil_append])
    refine pm_ri (by exact okX11_behind) rfl rfl rfl (Nat.le_refl _) (Nat.le_refl _) (⟨rfl, rfl, h, fM.rf⟩)
set_option maxRecDepth 100000 in
set_option maxHeartbeats 1000000 in
theorem R_fewest (i : Int32) (h : MA z0 mu) (hd : 3 ≤ d) : pm_T cx mX11_fewest d 0 0 [.ref 19, .int i] (sh_ i0 i1 ex) mu nu (mQ (.int (-5)) z0 i0 i1 ex mu) := by
  obtain ⟨⟨a1, a2, a3, a4, a5, a6, a7, a8, a9, b1, b2, b3, b4, b5⟩, c1, c2⟩ := id h
  refine pm_enterN 6 (by exact okX11_fewest) rfl ?_; dsimp only [pm_la, pm_cat2, List.replicate, List.cons_append, List.nil_append, List.append_nil]
  refine pm_go 9999 (by exact okX11_fewest) rfl ?_; (try dsimp only [pm_st1, pm_st2, pm_cat2, pm_la, Option.toList, List.cons_append, List.nil_append])
  refine pm_cv (by exact okX11_fewest) (by exact okX11_wishFault) rfl (by exact arX11_wishFault) (t_wishFault (d := 2) (B := 6) (pd := []) a1 (by omega) a5 b3 d0_OK (by omega)) rfl rfl rfl (by dsimp only; omega) rfl (Nat.le_of_ble_eq_true rfl) ⟨Nat.zero_le _, Nat.zero_le _⟩ ?_
  rintro _ _ _ _ ⟨rfl, rfl, rfl, rfl⟩ -
  refine pm_go 9999 (by exact okX11_fewest) rfl ?_; (try dsimp only [pm_st1, pm_st2, pm_cat2, pm_la, Option.toList, List.cons_append, List.nil_append])
  refine pm_zlt (by exact okX11_fewest) rfl (fun h1 => ?_) (fun h1 => ?_)
  · exact absurd h1 (by decide)
  · refine pm_go 9999 (by exact okX11_fewest) rfl ?_; (try dsimp only [pm_st1, pm_st2, pm_cat2, pm_la, Option.toList, List.cons_append, List.nil_append])
    refine pm_ri (by exact okX11_fewest) rfl rfl rfl (Nat.le_refl _) (Nat.le_refl _) (⟨rfl, rfl, h, fM.rf⟩)
end

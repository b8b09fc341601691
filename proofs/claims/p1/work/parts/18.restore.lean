section
variable {cx : pm_CX} {d n0 : Nat} {i0 i1 : Option Nat} {ex : List pm_C} {mu : pm_I} {nu : pm_J}
set_option maxRecDepth 100000 in
set_option maxHeartbeats 1000000 in
theorem M_restore_a {Q : pm_Po} {to : Nat} {x1 : Int32} (ht : to ≤ 42) (kk : ∀ mu' : pm_I, (∀ a, a ≠ 20 → a ≠ 21 → a ≠ 23 → mu' a = mu a) → (∀ b, b < 6 → mu' 20 b = mu 38 (to + b) ∧ mu' 21 b = mu 38 (to + 6 + b) ∧ mu' 23 b = mu 38 (to + 12 + b)) → pm_G cx (mX11_restore, d, 0, 0, n0, Q) 0 0 91 [some (.ref 19), some (.int x1), some (.int (nI to)), none] [] (sh_ i0 i1 ex) mu' nu) : ∀ (j k : Nat) (mu' : pm_I), k + j = 6 → (∀ a, a ≠ 20 → a ≠ 21 → a ≠ 23 → mu' a = mu a) → (∀ b, b < k → mu' 20 b = mu 38 (to + b) ∧ mu' 21 b = mu 38 (to + 6 + b) ∧ mu' 23 b = mu 38 (to + 12 + b)) → pm_G cx (mX11_restore, d, 0, 0, n0, Q) 0 0 31 [some (.ref 19), some (.int x1), some (.int (nI to)), some (.int (nI k))] [] (sh_ i0 i1 ex) mu' nu := by
  intro j
  induction j with
  | zero =>
    intro k mu' hk h1 h3
    have hk : k = 6 := by omega
    subst hk
    refine pm_go 9999 (by exact okX11_restore) rfl ?_; (try dsimp only [pm_st1, pm_st2, pm_cat2, pm_la, Option.toList, List.cons_append, List.nil_append])
    refine pm_ige (by exact okX11_restore) rfl (fun h4 => ?_) (fun h4 => ?_)
    · refine pm_G.fg [false, false, false, true] ?_; dsimp only [pm_fg]
      exact kk mu' h1 h3
    · exact absurd (by decide) h4
  | succ j ih =>
    intro k mu' hk h1 h3
    have e6 : nI to + 6 + nI k = nI (to + 6 + k) := by rw [show (6 : Int32) = nI 6 from rfl, nI_add, nI_add]
    have e12 : nI to + 12 + nI k = nI (to + 12 + k) := by rw [show (12 : Int32) = nI 12 from rfl, nI_add, nI_add]
    have e38 := h1 38 (by omega) (by omega) (by omega)
    refine pm_go 9999 (by exact okX11_restore) rfl ?_; (try dsimp only [pm_st1, pm_st2, pm_cat2, pm_la, Option.toList, List.cons_append, List.nil_append])
    refine pm_ige (by exact okX11_restore) rfl (fun h4 => ?_) (fun h4 => ?_)
    · exact absurd h4 (nI_ge (a := k) (b := 6) (by omega) (by omega))
    · refine pm_go 9999 (by exact okX11_restore) rfl ?_; (try dsimp only [pm_st1, pm_st2, pm_cat2, pm_la, Option.toList, List.cons_append, List.nil_append])
      rw [nI_add]
      refine pm_ial (by exact okX11_restore) rfl rfl (vp_in_nI (by omega) (by omega)) ?_
      rw [nI_clamp (by omega), e38]
      refine pm_ias (by exact okX11_restore) rfl rfl (vp_in_nI (by omega) (by omega)) ?_
      rw [nI_clamp (by omega)]
      refine pm_go 9999 (by exact okX11_restore) rfl ?_; (try dsimp only [pm_st1, pm_st2, pm_cat2, pm_la, Option.toList, List.cons_append, List.nil_append])
      rw [e6]
      refine pm_ial (by exact okX11_restore) rfl rfl (vp_in_nI (by omega) (by omega)) ?_
      rw [nI_clamp (by omega), pm_up_o (by omega), e38]
      refine pm_ias (by exact okX11_restore) rfl rfl (vp_in_nI (by omega) (by omega)) ?_
      rw [nI_clamp (by omega)]
      refine pm_go 9999 (by exact okX11_restore) rfl ?_; (try dsimp only [pm_st1, pm_st2, pm_cat2, pm_la, Option.toList, List.cons_append, List.nil_append])
      rw [e12]
      refine pm_ial (by exact okX11_restore) rfl rfl (vp_in_nI (by omega) (by omega)) ?_
      rw [nI_clamp (by omega), pm_up_o (by omega), pm_up_o (by omega), e38]
      refine pm_ias (by exact okX11_restore) rfl rfl (vp_in_nI (by omega) (by omega)) ?_
      rw [nI_clamp (by omega)]
      refine pm_go 31 (by exact okX11_restore) rfl ?_; (try dsimp only [pm_st1, pm_st2, pm_cat2, pm_la, Option.toList, List.cons_append, List.nil_append])
      rw [nI_1]
      refine ih (k + 1) _ (by omega) (fun a q1 q2 q3 => by rw [pm_up_ne q3, pm_up_ne q2, pm_up_ne q1]; exact h1 a q1 q2 q3) (fun b hb => ?_)
      by_cases hbk : b = k
      · subst hbk
        refine ⟨?_, ?_, pm_up_at⟩
        · rw [pm_up_o (by omega), pm_up_o (by omega), pm_up_at]
        · rw [pm_up_o (by omega), pm_up_at]
      · obtain ⟨q1, q2, q3⟩ := h3 b (by omega)
        refine ⟨?_, ?_, ?_⟩
        · rw [pm_up_o (by omega), pm_up_o (by omega), pm_up_of hbk]; exact q1
        · rw [pm_up_o (by omega), pm_up_of hbk, pm_up_o (by omega)]; exact q2
        · rw [pm_up_of hbk, pm_up_o (by omega), pm_up_o (by omega)]; exact q3
set_option maxRecDepth 100000 in
set_option maxHeartbeats 1000000 in
theorem M_restore_b {Q : pm_Po} {to : Nat} {x1 : Int32} (ht : to ≤ 42) (kk : ∀ mu' : pm_I, (∀ a, a ≠ 24 → mu' a = mu a) → (∀ b, b < 12 → mu' 24 b = mu 38 (to + 18 + b)) → pm_G cx (mX11_restore, d, 0, 0, n0, Q) 0 0 122 [some (.ref 19), some (.int x1), some (.int (nI to)), none] [] (sh_ i0 i1 ex) mu' nu) : ∀ (j k : Nat) (mu' : pm_I), k + j = 12 → (∀ a, a ≠ 24 → mu' a = mu a) → (∀ b, b < k → mu' 24 b = mu 38 (to + 18 + b)) → pm_G cx (mX11_restore, d, 0, 0, n0, Q) 0 0 93 [some (.ref 19), some (.int x1), some (.int (nI to)), some (.int (nI k))] [] (sh_ i0 i1 ex) mu' nu := by
  intro j
  induction j with
  | zero =>
    intro k mu' hk h1 h3
    have hk : k = 12 := by omega
    subst hk
    refine pm_go 9999 (by exact okX11_restore) rfl ?_; (try dsimp only [pm_st1, pm_st2, pm_cat2, pm_la, Option.toList, List.cons_append, List.nil_append])
    refine pm_ige (by exact okX11_restore) rfl (fun h4 => ?_) (fun h4 => ?_)
    · refine pm_G.fg [false, false, false, true] ?_; dsimp only [pm_fg]
      exact kk mu' h1 h3
    · exact absurd (by decide) h4
  | succ j ih =>
    intro k mu' hk h1 h3
    have e18 : nI to + 18 + nI k = nI (to + 18 + k) := by rw [show (18 : Int32) = nI 18 from rfl, nI_add, nI_add]
    refine pm_go 9999 (by exact okX11_restore) rfl ?_; (try dsimp only [pm_st1, pm_st2, pm_cat2, pm_la, Option.toList, List.cons_append, List.nil_append])
    refine pm_ige (by exact okX11_restore) rfl (fun h4 => ?_) (fun h4 => ?_)
    · exact absurd h4 (nI_ge (a := k) (b := 12) (by omega) (by omega))
    · refine pm_go 9999 (by exact okX11_restore) rfl ?_; (try dsimp only [pm_st1, pm_st2, pm_cat2, pm_la, Option.toList, List.cons_append, List.nil_append])
      rw [e18]
      refine pm_ial (by exact okX11_restore) rfl rfl (vp_in_nI (by omega) (by omega)) ?_
      rw [nI_clamp (by omega), h1 38 (by omega)]
      refine pm_ias (by exact okX11_restore) rfl rfl (vp_in_nI (by omega) (by omega)) ?_
      rw [nI_clamp (by omega)]
      refine pm_go 93 (by exact okX11_restore) rfl ?_; (try dsimp only [pm_st1, pm_st2, pm_cat2, pm_la, Option.toList, List.cons_append, List.nil_append])
      rw [nI_1]
      refine ih (k + 1) _ (by omega) (fun a ha => by rw [pm_up_ne ha]; exact h1 a ha) (fun b hb => ?_)
      by_cases hbk : b = k
      · subst hbk; exact pm_up_at
      · rw [pm_up_of hbk]; exact h3 b (by omega)
set_option maxRecDepth 100000 in
set_option maxHeartbeats 1000000 in
theorem M_restore_c {Q : pm_Po} {n : Nat} {v0 v1 v2 v3 v4 v5 v6 v7 : Int32} (hn : n < 2) (e0 : mu 38 (42 * n + 30) = v0) (e1 : mu 38 (42 * n + 31) = v1) (e2 : mu 38 (42 * n + 32) = v2) (e3 : mu 38 (42 * n + 33) = v3) (e4 : mu 38 (42 * n + 34) = v4) (e5 : mu 38 (42 * n + 35) = v5) (e6 : mu 38 (42 * n + 36) = v6) (e7 : mu 38 (42 * n + 37) = v7) (kk : ∀ mu' : pm_I, (∀ a, a ≠ 19 → mu' a = mu a) → mu' 19 0 = v0 → mu' 19 3 = v1 → mu' 19 4 = v2 → mu' 19 5 = v3 → mu' 19 6 = mu 19 6 → mu' 19 8 = v4 → mu' 19 9 = v5 → mu' 19 11 = v6 → mu' 19 12 = v7 → Q (some (.int 1)) (sh_ i0 i1 ex) mu' nu) : pm_G cx (mX11_restore, d, 0, 0, n0, Q) 0 0 122 [some (.ref 19), some (.int (nI n)), some (.int (nI (42 * n))), none] [] (sh_ i0 i1 ex) mu nu := by
  have f : ∀ k : Nat, k < 50 → nI (42 * n) + nI k = nI (42 * n + k) := fun k _ => nI_add _ _
  refine pm_go 9999 (by exact okX11_restore) rfl ?_; (try dsimp only [pm_st1, pm_st2, pm_cat2, pm_la, Option.toList, List.cons_append, List.nil_append])
  rw [show nI (42 * n) + 30 = nI (42 * n + 30) from f 30 (by omega)]
  refine pm_ial (by exact okX11_restore) rfl rfl (vp_in_nI (by omega) (by omega)) ?_
  rw [nI_clamp (by omega), e0]
  refine pm_go 9999 (by exact okX11_restore) rfl ?_; (try dsimp only [pm_st1, pm_st2, pm_cat2, pm_la, Option.toList, List.cons_append, List.nil_append])
  rw [show nI (42 * n) + 31 = nI (42 * n + 31) from f 31 (by omega)]
  refine pm_ial (by exact okX11_restore) rfl rfl (vp_in_nI (by omega) (by omega)) ?_
  rw [nI_clamp (by omega), pm_up_o (by omega), e1]
  refine pm_go 9999 (by exact okX11_restore) rfl ?_; (try dsimp only [pm_st1, pm_st2, pm_cat2, pm_la, Option.toList, List.cons_append, List.nil_append])
  rw [show nI (42 * n) + 32 = nI (42 * n + 32) from f 32 (by omega)]
  refine pm_ial (by exact okX11_restore) rfl rfl (vp_in_nI (by omega) (by omega)) ?_
  rw [nI_clamp (by omega), pm_up_o (by omega), pm_up_o (by omega), e2]
  refine pm_go 9999 (by exact okX11_restore) rfl ?_; (try dsimp only [pm_st1, pm_st2, pm_cat2, pm_la, Option.toList, List.cons_append, List.nil_append])
  rw [show nI (42 * n) + 33 = nI (42 * n + 33) from f 33 (by omega)]
  refine pm_ial (by exact okX11_restore) rfl rfl (vp_in_nI (by omega) (by omega)) ?_
  rw [nI_clamp (by omega), pm_up_o (by omega), pm_up_o (by omega), pm_up_o (by omega), e3]
  refine pm_go 9999 (by exact okX11_restore) rfl ?_; (try dsimp only [pm_st1, pm_st2, pm_cat2, pm_la, Option.toList, List.cons_append, List.nil_append])
  rw [show nI (42 * n) + 34 = nI (42 * n + 34) from f 34 (by omega)]
  refine pm_ial (by exact okX11_restore) rfl rfl (vp_in_nI (by omega) (by omega)) ?_
  rw [nI_clamp (by omega), pm_up_o (by omega), pm_up_o (by omega), pm_up_o (by omega), pm_up_o (by omega), e4]
  refine pm_go 9999 (by exact okX11_restore) rfl ?_; (try dsimp only [pm_st1, pm_st2, pm_cat2, pm_la, Option.toList, List.cons_append, List.nil_append])
  rw [show nI (42 * n) + 35 = nI (42 * n + 35) from f 35 (by omega)]
  refine pm_ial (by exact okX11_restore) rfl rfl (vp_in_nI (by omega) (by omega)) ?_
  rw [nI_clamp (by omega), pm_up_o (by omega), pm_up_o (by omega), pm_up_o (by omega), pm_up_o (by omega), pm_up_o (by omega), e5]
  refine pm_go 9999 (by exact okX11_restore) rfl ?_; (try dsimp only [pm_st1, pm_st2, pm_cat2, pm_la, Option.toList, List.cons_append, List.nil_append])
  rw [show nI (42 * n) + 36 = nI (42 * n + 36) from f 36 (by omega)]
  refine pm_ial (by exact okX11_restore) rfl rfl (vp_in_nI (by omega) (by omega)) ?_
  rw [nI_clamp (by omega), pm_up_o (by omega), pm_up_o (by omega), pm_up_o (by omega), pm_up_o (by omega), pm_up_o (by omega), pm_up_o (by omega), e6]
  refine pm_go 9999 (by exact okX11_restore) rfl ?_; (try dsimp only [pm_st1, pm_st2, pm_cat2, pm_la, Option.toList, List.cons_append, List.nil_append])
  rw [show nI (42 * n) + 37 = nI (42 * n + 37) from f 37 (by omega)]
  refine pm_ial (by exact okX11_restore) rfl rfl (vp_in_nI (by omega) (by omega)) ?_
  rw [nI_clamp (by omega), pm_up_o (by omega), pm_up_o (by omega), pm_up_o (by omega), pm_up_o (by omega), pm_up_o (by omega), pm_up_o (by omega), pm_up_o (by omega), e7]
  refine pm_go 9999 (by exact okX11_restore) rfl ?_; (try dsimp only [pm_st1, pm_st2, pm_cat2, pm_la, Option.toList, List.cons_append, List.nil_append])
  refine pm_ri (by exact okX11_restore) rfl rfl rfl (Nat.le_refl _) (Nat.le_refl _) (kk _ (fun a h1 => by simp only [pm_up_ne h1]) ?_ ?_ ?_ ?_ ?_ ?_ ?_ ?_ pm_up_at)
  · rw [pm_up_of (by omega), pm_up_of (by omega), pm_up_of (by omega), pm_up_of (by omega), pm_up_of (by omega), pm_up_of (by omega), pm_up_of (by omega), pm_up_at]
  · rw [pm_up_of (by omega), pm_up_of (by omega), pm_up_of (by omega), pm_up_of (by omega), pm_up_of (by omega), pm_up_of (by omega), pm_up_at]
  · rw [pm_up_of (by omega), pm_up_of (by omega), pm_up_of (by omega), pm_up_of (by omega), pm_up_of (by omega), pm_up_at]
  · rw [pm_up_of (by omega), pm_up_of (by omega), pm_up_of (by omega), pm_up_of (by omega), pm_up_at]
  · rw [pm_up_of (by omega), pm_up_of (by omega), pm_up_of (by omega), pm_up_of (by omega), pm_up_of (by omega), pm_up_of (by omega), pm_up_of (by omega), pm_up_of (by omega)]
  · rw [pm_up_of (by omega), pm_up_of (by omega), pm_up_of (by omega), pm_up_at]
  · rw [pm_up_of (by omega), pm_up_of (by omega), pm_up_at]
  · rw [pm_up_of (by omega), pm_up_at]
set_option maxRecDepth 100000 in
set_option maxHeartbeats 1000000 in
theorem M_restore {z : mS} (n : Int32) (hz : zOK z) (h : MA z mu) (hd : 1 ≤ d) : pm_T cx mX11_restore d 0 0 [.ref 19, .int n] (sh_ i0 i1 ex) mu nu (mQ (.int (sp_restore z n).1) (sp_restore z n).2 i0 i1 ex mu) := by
  obtain ⟨⟨a1, a2, a3, a4, a5, a6, a7, a8, a9, b1, b2, b3, b4, b5⟩, c1, c2⟩ := id h
  obtain ⟨hg, hp, hi0, hi1⟩ := id hz
  have main : ∀ (k : Nat) (o : Option gS), k < 2 → MI k o mu → (∀ g, o = some g → gOK g) → sp_restore z (nI k) = (match o with
      | some g => (1, (g, z.2))
      | none => (-3, z)) → pm_G cx (mX11_restore, d, 0, 0, (sh_ i0 i1 ex).length, mQ (.int (sp_restore z (nI k)).1) (sp_restore z (nI k)).2 i0 i1 ex mu) 0 0 12 [some (.ref 19), some (.int (nI k)), none, none] [] (sh_ i0 i1 ex) mu nu := by
    intro k o hk hI hgo hs
    obtain ⟨I1, I2⟩ := hI
    rw [hs]
    refine pm_go 9999 (by exact okX11_restore) rfl ?_; (try dsimp only [pm_st1, pm_st2, pm_cat2, pm_la, Option.toList, List.cons_append, List.nil_append])
    refine pm_zal (by exact okX11_restore) rfl rfl (vp_in_nI hk (by omega)) ?_
    rw [nI_clamp (by omega), I1]
    cases o with
    | none =>
      refine pm_zne (by exact okX11_restore) rfl (fun h2 => ?_) (fun h2 => ?_)
      · exact absurd (bI_n.mp h2) (by simp)
      · refine pm_go 9999 (by exact okX11_restore) rfl ?_; (try dsimp only [pm_st1, pm_st2, pm_cat2, pm_la, Option.toList, List.cons_append, List.nil_append])
        refine pm_ri (by exact okX11_restore) rfl rfl rfl (Nat.le_refl _) (Nat.le_refl _) (⟨rfl, rfl, h, fM.rf⟩)
    | some g =>
      have hgg := hgo g rfl
      have hK : (gK g).length ≤ 6 := nodup_len hgg.2.2.2.2.2.2.2.2.1.1 (gOK_K6 hgg)
      have hV := hgg.2.2.2.2.2.2.2.2.2.1
      obtain ⟨g1, g2, g3, g4, g5, g6, g7, g8, g9, g10, g11, g12⟩ := I2 g rfl
      refine pm_zne (by exact okX11_restore) rfl (fun h2 => ?_) (fun h2 => ?_)
      · refine pm_go 31 (by exact okX11_restore) rfl ?_; (try dsimp only [pm_st1, pm_st2, pm_cat2, pm_la, Option.toList, List.cons_append, List.nil_append])
        rw [show (42 : Int32) = nI 42 from rfl, pk_mul]
        refine M_restore_a (mu := mu) (to := 42 * k) (by omega) (fun m1 f1 f3 => ?_) 6 0 mu rfl (fun _ _ _ _ => rfl) (fun b hb => absurd hb (by omega))
        refine pm_go 93 (by exact okX11_restore) rfl ?_; (try dsimp only [pm_st1, pm_st2, pm_cat2, pm_la, Option.toList, List.cons_append, List.nil_append])
        refine M_restore_b (mu := m1) (to := 42 * k) (by omega) (fun m2 p1 p3 => ?_) 12 0 m1 rfl (fun _ _ => rfl) (fun b hb => absurd hb (by omega))
        have q38 : m2 38 = mu 38 := by rw [p1 38 (by omega), f1 38 (by omega) (by omega) (by omega)]
        have q19 : m2 19 = mu 19 := by rw [p1 19 (by omega), f1 19 (by omega) (by omega) (by omega)]
        refine M_restore_c (n := k) hk (by rw [q38]; exact g5) (by rw [q38]; exact g6) (by rw [q38]; exact g7) (by rw [q38]; exact g8) (by rw [q38]; exact g9) (by rw [q38]; exact g10) (by rw [q38]; exact g11) (by rw [q38]; exact g12) (fun m3 r1 w0 w1 w2 w3 w4 w5 w6 w7 w8 => ⟨rfl, rfl, ⟨⟨w0, w1, w2, w3, ?_, w5, w6, w7, w8, fun b hb => ?_, fun b hb => ?_, fun j b hj => ?_, fun j b hj => ?_, fun j q hj => ?_⟩, ?_, ?_⟩, fun a ha => ?_⟩)
        · rw [w4, q19]; exact a5
        · rw [r1 20 (by omega), p1 20 (by omega), (f3 b hb).1]; exact g1 b hb
        · rw [r1 21 (by omega), p1 21 (by omega), (f3 b hb).2.1]; exact g2 b hb
        · rw [r1 22 (by omega), p1 22 (by omega), f1 22 (by omega) (by omega) (by omega)]; exact b3 j b hj
        · replace hj : (gK g)[j]? = some b := hj
          have hj6 := (List.getElem?_eq_some_iff.mp hj).1
          rw [r1 23 (by omega), p1 23 (by omega), (f3 j (by omega)).2.2]; exact g3 j b hj
        · replace hj : (gV g)[j]? = some q := hj
          have hj6 := (List.getElem?_eq_some_iff.mp hj).1
          rw [r1 24 (by omega), p3 (2 * j) (by omega), p3 (2 * j + 1) (by omega), f1 38 (by omega) (by omega) (by omega)]; exact g4 j q hj
        · exact c1.same (by rw [r1 38 (by omega), q38]) (by rw [r1 39 (by omega), p1 39 (by omega), f1 39 (by omega) (by omega) (by omega)])
        · exact c2.same (by rw [r1 38 (by omega), q38]) (by rw [r1 39 (by omega), p1 39 (by omega), f1 39 (by omega) (by omega) (by omega)])
        · rw [r1 a (by omega), p1 a (by omega), f1 a (by omega) (by omega) (by omega)]
      · exact absurd h2 (bI_n.mpr rfl)
  refine pm_enterN 2 (by exact okX11_restore) rfl ?_; dsimp only [pm_la, pm_cat2, List.replicate, List.cons_append, List.nil_append, List.append_nil]
  refine pm_go 9999 (by exact okX11_restore) rfl ?_; (try dsimp only [pm_st1, pm_st2, pm_cat2, pm_la, Option.toList, List.cons_append, List.nil_append])
  refine pm_cs (by exact okX11_restore) (by exact okX11_in) rfl (by exact arX11_in) (t_in (d := 0) n 0 1) rfl (by dsimp only; omega) rfl (Nat.le_of_ble_eq_true rfl) ⟨Nat.zero_le _, Nat.zero_le _⟩ ?_
  rintro _ _ _ _ ⟨rfl, rfl, rfl, rfl⟩ -
  refine pm_go 12 (by exact okX11_restore) rfl ?_; (try dsimp only [pm_st1, pm_st2, pm_cat2, pm_la, Option.toList, List.cons_append, List.nil_append])
  refine pm_zne (by exact okX11_restore) rfl (fun h1 => ?_) (fun h1 => ?_)
  · have h1 := bI_n.mp h1
    obtain ⟨k, -, hk, rfl⟩ := rng_of (a := 0) (b := 1) (by omega) (by omega) h1
    rcases (show k = 0 ∨ k = 1 by omega) with rfl | rfl
    · exact main 0 z.2.2.1 (by omega) c1 hi0 rfl
    · exact main 1 z.2.2.2 (by omega) c2 hi1 rfl
  · have h1 := bI_z.mp h1
    have hs : sp_restore z n = (-2, z) := by
      unfold sp_restore
      rw [if_neg, if_neg]
      · intro q; subst q; exact h1 (by decide)
      · intro q; subst q; exact h1 (by decide)
    rw [hs]
    refine pm_go 9999 (by exact okX11_restore) rfl ?_; (try dsimp only [pm_st1, pm_st2, pm_cat2, pm_la, Option.toList, List.cons_append, List.nil_append])
    refine pm_ri (by exact okX11_restore) rfl rfl rfl (Nat.le_refl _) (Nat.le_refl _) (⟨rfl, rfl, h, fM.rf⟩)
end

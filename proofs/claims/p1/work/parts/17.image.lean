/-! ===== the reference's images ===== -/
def sp_image (z : mS) (n : Int32) : Int32 × mS := if n = 0 then (1, (z.1, z.2.1, some z.1, z.2.2.2)) else if n = 1 then (1, (z.1, z.2.1, z.2.2.1, some z.1)) else (-2, z)
def sp_restore (z : mS) (n : Int32) : Int32 × mS := if n = 0 then (match z.2.2.1 with
    | some g => (1, (g, z.2))
    | none => (-3, z)) else if n = 1 then (match z.2.2.2 with
    | some g => (1, (g, z.2))
    | none => (-3, z)) else (-2, z)
theorem MI.part {n : Nat} {o : Option gS} {mu mu' : pm_I} (h : MI n o mu) (h38 : ∀ x, 42 * n ≤ x → x < 42 * n + 42 → mu' 38 x = mu 38 x) (h39 : mu' 39 n = mu 39 n) (hok : ∀ g, o = some g → gOK g) : MI n o mu' := by
  obtain ⟨h1, h2⟩ := h
  refine ⟨by rw [h39]; exact h1, fun g hg => ?_⟩
  obtain ⟨g1, g2, g3, g4, g5, g6, g7, g8, g9, g10, g11, g12⟩ := h2 g hg
  have hgo := hok g hg
  have hK : (gK g).length ≤ 6 := nodup_len hgo.2.2.2.2.2.2.2.2.1.1 (gOK_K6 hgo)
  have hV := hgo.2.2.2.2.2.2.2.2.2.1
  refine ⟨fun b hb => by rw [h38 _ (by omega) (by omega)]; exact g1 b hb, fun b hb => by rw [h38 _ (by omega) (by omega)]; exact g2 b hb, fun k b hk => ?_, fun k q hk => ?_, ?_, ?_, ?_, ?_, ?_, ?_, ?_, ?_⟩
  · have := (List.getElem?_eq_some_iff.mp hk).1
    rw [h38 _ (by omega) (by omega)]; exact g3 k b hk
  · have := (List.getElem?_eq_some_iff.mp hk).1
    rw [h38 _ (by omega) (by omega), h38 _ (by omega) (by omega)]; exact g4 k q hk
  · rw [h38 _ (by omega) (by omega)]; exact g5
  · rw [h38 _ (by omega) (by omega)]; exact g6
  · rw [h38 _ (by omega) (by omega)]; exact g7
  · rw [h38 _ (by omega) (by omega)]; exact g8
  · rw [h38 _ (by omega) (by omega)]; exact g9
  · rw [h38 _ (by omega) (by omega)]; exact g10
  · rw [h38 _ (by omega) (by omega)]; exact g11
  · rw [h38 _ (by omega) (by omega)]; exact g12
section
variable {cx : pm_CX} {d n0 : Nat} {i0 i1 : Option Nat} {ex : List pm_C} {mu : pm_I} {nu : pm_J}
set_option maxRecDepth 100000 in
set_option maxHeartbeats 1000000 in
theorem M_image_a {Q : pm_Po} {to : Nat} {x1 : Int32} (ht : to ≤ 42) (kk : ∀ mu' : pm_I, (∀ a, a ≠ 38 → mu' a = mu a) → (∀ x, x < to ∨ to + 42 ≤ x → mu' 38 x = mu 38 x) → (∀ b, b < 6 → mu' 38 (to + b) = mu 20 b ∧ mu' 38 (to + 6 + b) = mu 21 b ∧ mu' 38 (to + 12 + b) = mu 23 b) → pm_G cx (mX11_image, d, 0, 0, n0, Q) 0 0 79 [some (.ref 19), some (.int x1), some (.int (nI to)), none] [] (sh_ i0 i1 ex) mu' nu) : ∀ (j k : Nat) (mu' : pm_I), k + j = 6 → (∀ a, a ≠ 38 → mu' a = mu a) → (∀ x, x < to ∨ to + 42 ≤ x → mu' 38 x = mu 38 x) → (∀ b, b < k → mu' 38 (to + b) = mu 20 b ∧ mu' 38 (to + 6 + b) = mu 21 b ∧ mu' 38 (to + 12 + b) = mu 23 b) → pm_G cx (mX11_image, d, 0, 0, n0, Q) 0 0 19 [some (.ref 19), some (.int x1), some (.int (nI to)), some (.int (nI k))] [] (sh_ i0 i1 ex) mu' nu := by
  intro j
  induction j with
  | zero =>
    intro k mu' hk h1 h2 h3
    have hk : k = 6 := by omega
    subst hk
    refine pm_go 9999 (by exact okX11_image) rfl ?_; (try dsimp only [pm_st1, pm_st2, pm_cat2, pm_la, Option.toList, List.cons_append, List.nil_append])
    refine pm_ige (by exact okX11_image) rfl (fun h4 => ?_) (fun h4 => ?_)
    · refine pm_G.fg [false, false, false, true] ?_; dsimp only [pm_fg]
      exact kk mu' h1 h2 h3
    · exact absurd (by decide) h4
  | succ j ih =>
    intro k mu' hk h1 h2 h3
    have e6 : nI to + 6 + nI k = nI (to + 6 + k) := by rw [show (6 : Int32) = nI 6 from rfl, nI_add, nI_add]
    have e12 : nI to + 12 + nI k = nI (to + 12 + k) := by rw [show (12 : Int32) = nI 12 from rfl, nI_add, nI_add]
    refine pm_go 9999 (by exact okX11_image) rfl ?_; (try dsimp only [pm_st1, pm_st2, pm_cat2, pm_la, Option.toList, List.cons_append, List.nil_append])
    refine pm_ige (by exact okX11_image) rfl (fun h4 => ?_) (fun h4 => ?_)
    · exact absurd h4 (nI_ge (a := k) (b := 6) (by omega) (by omega))
    · refine pm_go 9999 (by exact okX11_image) rfl ?_; (try dsimp only [pm_st1, pm_st2, pm_cat2, pm_la, Option.toList, List.cons_append, List.nil_append])
      rw [nI_add]
      refine pm_ial (by exact okX11_image) rfl rfl (vp_in_nI (by omega) (by omega)) ?_
      rw [nI_clamp (by omega)]
      refine pm_ias (by exact okX11_image) rfl rfl (vp_in_nI (by omega) (by omega)) ?_
      rw [nI_clamp (by omega)]
      refine pm_go 9999 (by exact okX11_image) rfl ?_; (try dsimp only [pm_st1, pm_st2, pm_cat2, pm_la, Option.toList, List.cons_append, List.nil_append])
      rw [e6]
      refine pm_ial (by exact okX11_image) rfl rfl (vp_in_nI (by omega) (by omega)) ?_
      rw [nI_clamp (by omega)]
      refine pm_ias (by exact okX11_image) rfl rfl (vp_in_nI (by omega) (by omega)) ?_
      rw [nI_clamp (by omega)]
      refine pm_go 9999 (by exact okX11_image) rfl ?_; (try dsimp only [pm_st1, pm_st2, pm_cat2, pm_la, Option.toList, List.cons_append, List.nil_append])
      rw [e12]
      refine pm_ial (by exact okX11_image) rfl rfl (vp_in_nI (by omega) (by omega)) ?_
      rw [nI_clamp (by omega)]
      refine pm_ias (by exact okX11_image) rfl rfl (vp_in_nI (by omega) (by omega)) ?_
      rw [nI_clamp (by omega)]
      refine pm_go 19 (by exact okX11_image) rfl ?_; (try dsimp only [pm_st1, pm_st2, pm_cat2, pm_la, Option.toList, List.cons_append, List.nil_append])
      rw [nI_1]
      rw [show pm_up mu' 38 (to + k) (mu' 20 k) 21 k = mu 21 k by rw [pm_up_o (by omega), h1 21 (by omega)], show pm_up (pm_up mu' 38 (to + k) (mu' 20 k)) 38 (to + 6 + k) (mu 21 k) 23 k = mu 23 k by rw [pm_up_o (by omega), pm_up_o (by omega), h1 23 (by omega)], h1 20 (by omega)]
      refine ih (k + 1) _ (by omega) (fun a ha => by rw [pm_up_ne ha, pm_up_ne ha, pm_up_ne ha]; exact h1 a ha) (fun x hx => by rw [pm_up_of (by omega), pm_up_of (by omega), pm_up_of (by omega)]; exact h2 x hx) (fun b hb => ?_)
      by_cases hbk : b = k
      · subst hbk
        refine ⟨?_, ?_, pm_up_at⟩
        · rw [pm_up_of (by omega), pm_up_of (by omega), pm_up_at]
        · rw [pm_up_of (by omega), pm_up_at]
      · obtain ⟨q1, q2, q3⟩ := h3 b (by omega)
        refine ⟨?_, ?_, ?_⟩
        · rw [pm_up_of (by omega), pm_up_of (by omega), pm_up_of (by omega)]; exact q1
        · rw [pm_up_of (by omega), pm_up_of (by omega), pm_up_of (by omega)]; exact q2
        · rw [pm_up_of (by omega), pm_up_of (by omega), pm_up_of (by omega)]; exact q3
set_option maxRecDepth 100000 in
set_option maxHeartbeats 1000000 in
theorem M_image_b {Q : pm_Po} {to : Nat} {x1 : Int32} (ht : to ≤ 42) (kk : ∀ mu' : pm_I, (∀ a, a ≠ 38 → mu' a = mu a) → (∀ x, x < to + 18 ∨ to + 42 ≤ x → mu' 38 x = mu 38 x) → (∀ b, b < 12 → mu' 38 (to + 18 + b) = mu 24 b) → pm_G cx (mX11_image, d, 0, 0, n0, Q) 0 0 110 [some (.ref 19), some (.int x1), some (.int (nI to)), none] [] (sh_ i0 i1 ex) mu' nu) : ∀ (j k : Nat) (mu' : pm_I), k + j = 12 → (∀ a, a ≠ 38 → mu' a = mu a) → (∀ x, x < to + 18 ∨ to + 42 ≤ x → mu' 38 x = mu 38 x) → (∀ b, b < k → mu' 38 (to + 18 + b) = mu 24 b) → pm_G cx (mX11_image, d, 0, 0, n0, Q) 0 0 81 [some (.ref 19), some (.int x1), some (.int (nI to)), some (.int (nI k))] [] (sh_ i0 i1 ex) mu' nu := by
  intro j
  induction j with
  | zero =>
    intro k mu' hk h1 h2 h3
    have hk : k = 12 := by omega
    subst hk
    refine pm_go 9999 (by exact okX11_image) rfl ?_; (try dsimp only [pm_st1, pm_st2, pm_cat2, pm_la, Option.toList, List.cons_append, List.nil_append])
    refine pm_ige (by exact okX11_image) rfl (fun h4 => ?_) (fun h4 => ?_)
    · refine pm_G.fg [false, false, false, true] ?_; dsimp only [pm_fg]
      exact kk mu' h1 h2 h3
    · exact absurd (by decide) h4
  | succ j ih =>
    intro k mu' hk h1 h2 h3
    have e18 : nI to + 18 + nI k = nI (to + 18 + k) := by rw [show (18 : Int32) = nI 18 from rfl, nI_add, nI_add]
    refine pm_go 9999 (by exact okX11_image) rfl ?_; (try dsimp only [pm_st1, pm_st2, pm_cat2, pm_la, Option.toList, List.cons_append, List.nil_append])
    refine pm_ige (by exact okX11_image) rfl (fun h4 => ?_) (fun h4 => ?_)
    · exact absurd h4 (nI_ge (a := k) (b := 12) (by omega) (by omega))
    · refine pm_go 9999 (by exact okX11_image) rfl ?_; (try dsimp only [pm_st1, pm_st2, pm_cat2, pm_la, Option.toList, List.cons_append, List.nil_append])
      rw [e18]
      refine pm_ial (by exact okX11_image) rfl rfl (vp_in_nI (by omega) (by omega)) ?_
      rw [nI_clamp (by omega)]
      refine pm_ias (by exact okX11_image) rfl rfl (vp_in_nI (by omega) (by omega)) ?_
      rw [nI_clamp (by omega)]
      refine pm_go 81 (by exact okX11_image) rfl ?_; (try dsimp only [pm_st1, pm_st2, pm_cat2, pm_la, Option.toList, List.cons_append, List.nil_append])
      rw [nI_1, h1 24 (by omega)]
      refine ih (k + 1) _ (by omega) (fun a ha => by rw [pm_up_ne ha]; exact h1 a ha) (fun x hx => by rw [pm_up_of (by omega)]; exact h2 x hx) (fun b hb => ?_)
      by_cases hbk : b = k
      · subst hbk; exact pm_up_at
      · rw [pm_up_of (by omega)]; exact h3 b (by omega)
set_option maxRecDepth 100000 in
set_option maxHeartbeats 1000000 in
theorem M_image_c {Q : pm_Po} {n : Nat} {v0 v1 v2 v3 v4 v5 v6 v7 : Int32} (hn : n < 2) (e0 : mu 19 0 = v0) (e1 : mu 19 3 = v1) (e2 : mu 19 4 = v2) (e3 : mu 19 5 = v3) (e4 : mu 19 8 = v4) (e5 : mu 19 9 = v5) (e6 : mu 19 11 = v6) (e7 : mu 19 12 = v7) (kk : ∀ mu' : pm_I, (∀ a, a ≠ 38 → a ≠ 39 → mu' a = mu a) → (∀ x, x < 42 * n + 30 ∨ 42 * n + 42 ≤ x → mu' 38 x = mu 38 x) → mu' 38 (42 * n + 30) = v0 → mu' 38 (42 * n + 31) = v1 → mu' 38 (42 * n + 32) = v2 → mu' 38 (42 * n + 33) = v3 → mu' 38 (42 * n + 34) = v4 → mu' 38 (42 * n + 35) = v5 → mu' 38 (42 * n + 36) = v6 → mu' 38 (42 * n + 37) = v7 → mu' 39 n = 1 → (∀ j, j ≠ n → mu' 39 j = mu 39 j) → Q (some (.int 1)) (sh_ i0 i1 ex) mu' nu) : pm_G cx (mX11_image, d, 0, 0, n0, Q) 0 0 110 [some (.ref 19), some (.int (nI n)), some (.int (nI (42 * n))), none] [] (sh_ i0 i1 ex) mu nu := by
  have f : ∀ k : Nat, k < 50 → nI (42 * n) + nI k = nI (42 * n + k) := fun k _ => nI_add _ _
  refine pm_go 9999 (by exact okX11_image) rfl ?_; (try dsimp only [pm_st1, pm_st2, pm_cat2, pm_la, Option.toList, List.cons_append, List.nil_append])
  rw [e0, show nI (42 * n) + 30 = nI (42 * n + 30) from f 30 (by omega)]
  refine pm_ias (by exact okX11_image) rfl rfl (vp_in_nI (by omega) (by omega)) ?_
  rw [nI_clamp (by omega)]
  refine pm_go 9999 (by exact okX11_image) rfl ?_; (try dsimp only [pm_st1, pm_st2, pm_cat2, pm_la, Option.toList, List.cons_append, List.nil_append])
  rw [pm_up_o (by omega), e1, show nI (42 * n) + 31 = nI (42 * n + 31) from f 31 (by omega)]
  refine pm_ias (by exact okX11_image) rfl rfl (vp_in_nI (by omega) (by omega)) ?_
  rw [nI_clamp (by omega)]
  refine pm_go 9999 (by exact okX11_image) rfl ?_; (try dsimp only [pm_st1, pm_st2, pm_cat2, pm_la, Option.toList, List.cons_append, List.nil_append])
  rw [pm_up_o (by omega), pm_up_o (by omega), e2, show nI (42 * n) + 32 = nI (42 * n + 32) from f 32 (by omega)]
  refine pm_ias (by exact okX11_image) rfl rfl (vp_in_nI (by omega) (by omega)) ?_
  rw [nI_clamp (by omega)]
  refine pm_go 9999 (by exact okX11_image) rfl ?_; (try dsimp only [pm_st1, pm_st2, pm_cat2, pm_la, Option.toList, List.cons_append, List.nil_append])
  rw [pm_up_o (by omega), pm_up_o (by omega), pm_up_o (by omega), e3, show nI (42 * n) + 33 = nI (42 * n + 33) from f 33 (by omega)]
  refine pm_ias (by exact okX11_image) rfl rfl (vp_in_nI (by omega) (by omega)) ?_
  rw [nI_clamp (by omega)]
  refine pm_go 9999 (by exact okX11_image) rfl ?_; (try dsimp only [pm_st1, pm_st2, pm_cat2, pm_la, Option.toList, List.cons_append, List.nil_append])
  rw [pm_up_o (by omega), pm_up_o (by omega), pm_up_o (by omega), pm_up_o (by omega), e4, show nI (42 * n) + 34 = nI (42 * n + 34) from f 34 (by omega)]
  refine pm_ias (by exact okX11_image) rfl rfl (vp_in_nI (by omega) (by omega)) ?_
  rw [nI_clamp (by omega)]
  refine pm_go 9999 (by exact okX11_image) rfl ?_; (try dsimp only [pm_st1, pm_st2, pm_cat2, pm_la, Option.toList, List.cons_append, List.nil_append])
  rw [pm_up_o (by omega), pm_up_o (by omega), pm_up_o (by omega), pm_up_o (by omega), pm_up_o (by omega), e5, show nI (42 * n) + 35 = nI (42 * n + 35) from f 35 (by omega)]
  refine pm_ias (by exact okX11_image) rfl rfl (vp_in_nI (by omega) (by omega)) ?_
  rw [nI_clamp (by omega)]
  refine pm_go 9999 (by exact okX11_image) rfl ?_; (try dsimp only [pm_st1, pm_st2, pm_cat2, pm_la, Option.toList, List.cons_append, List.nil_append])
  rw [pm_up_o (by omega), pm_up_o (by omega), pm_up_o (by omega), pm_up_o (by omega), pm_up_o (by omega), pm_up_o (by omega), e6, show nI (42 * n) + 36 = nI (42 * n + 36) from f 36 (by omega)]
  refine pm_ias (by exact okX11_image) rfl rfl (vp_in_nI (by omega) (by omega)) ?_
  rw [nI_clamp (by omega)]
  refine pm_go 9999 (by exact okX11_image) rfl ?_; (try dsimp only [pm_st1, pm_st2, pm_cat2, pm_la, Option.toList, List.cons_append, List.nil_append])
  rw [pm_up_o (by omega), pm_up_o (by omega), pm_up_o (by omega), pm_up_o (by omega), pm_up_o (by omega), pm_up_o (by omega), pm_up_o (by omega), e7, show nI (42 * n) + 37 = nI (42 * n + 37) from f 37 (by omega)]
  refine pm_ias (by exact okX11_image) rfl rfl (vp_in_nI (by omega) (by omega)) ?_
  rw [nI_clamp (by omega)]
  refine pm_go 9999 (by exact okX11_image) rfl ?_; (try dsimp only [pm_st1, pm_st2, pm_cat2, pm_la, Option.toList, List.cons_append, List.nil_append])
  refine pm_zas (by exact okX11_image) rfl rfl (vp_in_nI hn (by omega)) ?_
  rw [nI_clamp (by omega), show vp_nar .boolean 1 = 1 from rfl]
  refine pm_go 9999 (by exact okX11_image) rfl ?_; (try dsimp only [pm_st1, pm_st2, pm_cat2, pm_la, Option.toList, List.cons_append, List.nil_append])
  refine pm_ri (by exact okX11_image) rfl rfl rfl (Nat.le_refl _) (Nat.le_refl _) (kk _ (fun a h1 h2 => by simp only [pm_up_ne h1, pm_up_ne h2]) (fun x hx => ?_) ?_ ?_ ?_ ?_ ?_ ?_ ?_ ?_ pm_up_at (fun j hj => ?_))
  · rw [pm_up_o (by omega), pm_up_of (by omega), pm_up_of (by omega), pm_up_of (by omega), pm_up_of (by omega), pm_up_of (by omega), pm_up_of (by omega), pm_up_of (by omega), pm_up_of (by omega)]
  · rw [pm_up_o (by omega), pm_up_of (by omega), pm_up_of (by omega), pm_up_of (by omega), pm_up_of (by omega), pm_up_of (by omega), pm_up_of (by omega), pm_up_of (by omega), pm_up_at]
  · rw [pm_up_o (by omega), pm_up_of (by omega), pm_up_of (by omega), pm_up_of (by omega), pm_up_of (by omega), pm_up_of (by omega), pm_up_of (by omega), pm_up_at]
  · rw [pm_up_o (by omega), pm_up_of (by omega), pm_up_of (by omega), pm_up_of (by omega), pm_up_of (by omega), pm_up_of (by omega), pm_up_at]
  · rw [pm_up_o (by omega), pm_up_of (by omega), pm_up_of (by omega), pm_up_of (by omega), pm_up_of (by omega), pm_up_at]
  · rw [pm_up_o (by omega), pm_up_of (by omega), pm_up_of (by omega), pm_up_of (by omega), pm_up_at]
  · rw [pm_up_o (by omega), pm_up_of (by omega), pm_up_of (by omega), pm_up_at]
  · rw [pm_up_o (by omega), pm_up_of (by omega), pm_up_at]
  · rw [pm_up_o (by omega), pm_up_at]
  · rw [pm_up_of hj, pm_up_o (by omega), pm_up_o (by omega), pm_up_o (by omega), pm_up_o (by omega), pm_up_o (by omega), pm_up_o (by omega), pm_up_o (by omega), pm_up_o (by omega)]
set_option maxRecDepth 100000 in
set_option maxHeartbeats 1000000 in
theorem M_image {z : mS} (n : Int32) (hz : zOK z) (h : MA z mu) (hd : 1 ≤ d) : pm_T cx mX11_image d 0 0 [.ref 19, .int n] (sh_ i0 i1 ex) mu nu (mQ (.int (sp_image z n).1) (sp_image z n).2 i0 i1 ex mu) := by
  obtain ⟨⟨a1, a2, a3, a4, a5, a6, a7, a8, a9, b1, b2, b3, b4, b5⟩, c1, c2⟩ := id h
  obtain ⟨hg, hp, hi0, hi1⟩ := id hz
  have hK : (gK z.1).length ≤ 6 := nodup_len hg.2.2.2.2.2.2.2.2.1.1 (gOK_K6 hg)
  have hV := hg.2.2.2.2.2.2.2.2.2.1
  refine pm_enterN 2 (by exact okX11_image) rfl ?_; dsimp only [pm_la, pm_cat2, List.replicate, List.cons_append, List.nil_append, List.append_nil]
  refine pm_go 9999 (by exact okX11_image) rfl ?_; (try dsimp only [pm_st1, pm_st2, pm_cat2, pm_la, Option.toList, List.cons_append, List.nil_append])
  refine pm_cs (by exact okX11_image) (by exact okX11_in) rfl (by exact arX11_in) (t_in (d := 0) n 0 1) rfl (by dsimp only; omega) rfl (Nat.le_of_ble_eq_true rfl) ⟨Nat.zero_le _, Nat.zero_le _⟩ ?_
  rintro _ _ _ _ ⟨rfl, rfl, rfl, rfl⟩ -
  refine pm_go 9999 (by exact okX11_image) rfl ?_; (try dsimp only [pm_st1, pm_st2, pm_cat2, pm_la, Option.toList, List.cons_append, List.nil_append])
  refine pm_zne (by exact okX11_image) rfl (fun h1 => ?_) (fun h1 => ?_)
  · have h1 := bI_n.mp h1
    obtain ⟨k, -, hk, rfl⟩ := rng_of (a := 0) (b := 1) (by omega) (by omega) h1
    have hs : sp_image z (nI k) = (1, if k = 0 then (z.1, z.2.1, some z.1, z.2.2.2) else (z.1, z.2.1, z.2.2.1, some z.1)) := by
      rcases (show k = 0 ∨ k = 1 by omega) with rfl | rfl
      · rfl
      · rfl
    rw [hs]
    refine pm_go 19 (by exact okX11_image) rfl ?_; (try dsimp only [pm_st1, pm_st2, pm_cat2, pm_la, Option.toList, List.cons_append, List.nil_append])
    rw [show (42 : Int32) = nI 42 from rfl, pk_mul]
    refine M_image_a (mu := mu) (to := 42 * k) (by omega) (fun m1 f1 f2 f3 => ?_) 6 0 mu rfl (fun _ _ => rfl) (fun _ _ => rfl) (fun b hb => absurd hb (by omega))
    refine pm_go 81 (by exact okX11_image) rfl ?_; (try dsimp only [pm_st1, pm_st2, pm_cat2, pm_la, Option.toList, List.cons_append, List.nil_append])
    refine M_image_b (mu := m1) (to := 42 * k) (by omega) (fun m2 p1 p2 p3 => ?_) 12 0 m1 rfl (fun _ _ => rfl) (fun _ _ => rfl) (fun b hb => absurd hb (by omega))
    have q19 : ∀ j, m2 19 j = mu 19 j := fun j => by rw [p1 19 (by omega), f1 19 (by omega)]
    refine M_image_c (n := k) (by omega) ((q19 0).trans a1) ((q19 3).trans a2) ((q19 4).trans a3) ((q19 5).trans a4) ((q19 8).trans a6) ((q19 9).trans a7) ((q19 11).trans a8) ((q19 12).trans a9) (fun m3 r1 r2 w0 w1 w2 w3 w4 w5 w6 w7 w8 w9 => ?_)
    have keep : ∀ a, a ≠ 38 → a ≠ 39 → m3 a = mu a := fun a x1 x2 => by rw [r1 a x1 x2, p1 a x1, f1 a x1]
    have own : MI k (some z.1) m3 := by
      refine ⟨by rw [w8]; rfl, fun g hgg => ?_⟩
      cases hgg
      refine ⟨fun b hb => ?_, fun b hb => ?_, fun j b hj => ?_, fun j q hj => ?_, w0, w1, w2, w3, w4, w5, w6, w7⟩
      · rw [r2 _ (by omega), p2 _ (by omega), (f3 b hb).1]; exact b1 b hb
      · rw [r2 _ (by omega), p2 _ (by omega), (f3 b hb).2.1]; exact b2 b hb
      · have hj6 := (List.getElem?_eq_some_iff.mp hj).1
        rw [r2 _ (by omega), p2 _ (by omega), (f3 j (by omega)).2.2]; exact b4 j b hj
      · have hj6 := (List.getElem?_eq_some_iff.mp hj).1
        rw [r2 _ (by omega), p3 (2 * j) (by omega), r2 _ (by omega), p3 (2 * j + 1) (by omega), f1 24 (by omega)]; exact b5 j q hj
    have hMR : MR z.1 z.2.1 m3 := by
      refine ⟨?_, ?_, ?_, ?_, ?_, ?_, ?_, ?_, ?_, ?_, ?_, ?_, ?_, ?_⟩
      · rw [keep 19 (by omega) (by omega)]; exact a1
      · rw [keep 19 (by omega) (by omega)]; exact a2
      · rw [keep 19 (by omega) (by omega)]; exact a3
      · rw [keep 19 (by omega) (by omega)]; exact a4
      · rw [keep 19 (by omega) (by omega)]; exact a5
      · rw [keep 19 (by omega) (by omega)]; exact a6
      · rw [keep 19 (by omega) (by omega)]; exact a7
      · rw [keep 19 (by omega) (by omega)]; exact a8
      · rw [keep 19 (by omega) (by omega)]; exact a9
      · rw [keep 20 (by omega) (by omega)]; exact b1
      · rw [keep 21 (by omega) (by omega)]; exact b2
      · rw [keep 22 (by omega) (by omega)]; exact b3
      · rw [keep 23 (by omega) (by omega)]; exact b4
      · rw [keep 24 (by omega) (by omega)]; exact b5
    have hfM : fM mu m3 := fun a ha => keep a (by omega) (by omega)
    rcases (show k = 0 ∨ k = 1 by omega) with rfl | rfl
    · refine ⟨rfl, rfl, ⟨hMR, own, c2.part (fun x x1 x2 => by rw [r2 x (by omega), p2 x (by omega), f2 x (by omega)]) (by rw [w9 1 (by omega), p1 39 (by omega), f1 39 (by omega)]) hi1⟩, hfM⟩
    · refine ⟨rfl, rfl, ⟨hMR, c1.part (fun x x1 x2 => by rw [r2 x (by omega), p2 x (by omega), f2 x (by omega)]) (by rw [w9 0 (by omega), p1 39 (by omega), f1 39 (by omega)]) hi0, own⟩, hfM⟩
  · have h1 := bI_z.mp h1
    have hs : sp_image z n = (-2, z) := by
      unfold sp_image
      rw [if_neg, if_neg]
      · intro q; subst q; exact h1 (by decide)
      · intro q; subst q; exact h1 (by decide)
    rw [hs]
    refine pm_go 9999 (by exact okX11_image) rfl ?_; (try dsimp only [pm_st1, pm_st2, pm_cat2, pm_la, Option.toList, List.cons_append, List.nil_append])
    refine pm_ri (by exact okX11_image) rfl rfl rfl (Nat.le_refl _) (Nat.le_refl _) (⟨rfl, rfl, h, fM.rf⟩)
end

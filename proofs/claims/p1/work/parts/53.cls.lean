/-! ===== the class's plain calls on a fresh object ===== -/
theorem g0_rOK : rOK 6 [] 0 := ⟨List.nodup_nil, fun b hb => (by cases hb), by decide⟩
theorem g0_OK : gOK g0 := ⟨⟨by decide, by decide⟩, by decide, ⟨by decide, by decide⟩, by decide, fun b hb => Nat.zero_le _, fun b o hb h => (by cases h), fun b hb o h => (by cases h), g0_rOK, ⟨List.nodup_nil, fun b => ⟨fun q => (by rw [Nat.zero_testBit] at q; cases q), fun q => (by cases q)⟩⟩, by decide, fun q hq => (by cases hq)⟩
theorem d0_OK : dOK [] := ⟨by decide, fun c hc => (by cases hc)⟩
theorem z0_OK : zOK z0 := ⟨g0_OK, d0_OK, fun g h => (by cases h), fun g h => (by cases h)⟩
/-- the reference's cells stay -/
def fX (mu mu' : pm_I) : Prop := ∀ a, 19 ≤ a → a < 40 → mu' a = mu a
theorem fX.rf {mu : pm_I} : fX mu mu := fun _ _ _ => rfl
theorem fX.up {mu mu' : pm_I} {k j : Nat} {v : Int32} (h : fX mu mu') (hk : k < 19 ∨ 40 ≤ k) : fX mu (pm_up mu' k j v) := fun a h1 h2 => by
  rw [pm_up_ne (by omega)]
  exact h a h1 h2
theorem fX.of {mu mu1 mu2 : pm_I} (h : fX mu mu1) (h2 : ∀ a, 19 ≤ a → mu2 a = mu1 a) : fX mu mu2 := fun a g1 g2 => (h2 a g1).trans (h a g1 g2)
/-- a call of the class: it answers v, and the reference's cells stay -/
abbrev cQ (v : Value) (mu : pm_I) : pm_Po := fun r sg' mu' _ => r = some v ∧ (∃ i0 i1 ex, sg' = sh_ i0 i1 ex) ∧ fX mu mu'
theorem lt_le {v : Int32} {n : Nat} (hn : n + 1 < 2 ^ 31) : v < nI (n + 1) ↔ v ≤ nI n := by
  rw [lt_toInt, le_toInt, nI_toInt hn, nI_toInt (by omega)]
  omega
section
variable {cx : pm_CX} {d n0 : Nat} {i0 i1 : Option Nat} {ex : List pm_C} {mu : pm_I} {nu : pm_J}
set_option maxRecDepth 100000 in
set_option maxHeartbeats 1000000 in
theorem t_drop : pm_T cx mX10_dropAnswers d 0 0 [.ref 0] (sh_ i0 i1 ex) mu nu (fun r sg' mu' _ => r = none ∧ sg' = sh_ i0 i1 ex ∧ ∀ a, a ≠ 10 → a ≠ 13 → mu' a = mu a) := by
  refine pm_enterN 0 (by exact okX10_dropAnswers) rfl ?_; dsimp only [pm_la, pm_cat2, List.replicate, List.cons_append, List.nil_append, List.append_nil]
  refine pm_go 9999 (by exact okX10_dropAnswers) rfl ?_; (try dsimp only [pm_st1, pm_st2, pm_cat2, pm_la, Option.toList, List.cons_append, List.nil_append])
  refine pm_pz (by exact okX10_dropAnswers) rfl rfl rfl rfl (Or.inl rfl) ?_
  refine pm_go 9999 (by exact okX10_dropAnswers) rfl ?_; (try dsimp only [pm_st1, pm_st2, pm_cat2, pm_la, Option.toList, List.cons_append, List.nil_append])
  refine pm_pz (by exact okX10_dropAnswers) rfl rfl rfl rfl (Or.inl rfl) ?_
  refine pm_go 9999 (by exact okX10_dropAnswers) rfl ?_; (try dsimp only [pm_st1, pm_st2, pm_cat2, pm_la, Option.toList, List.cons_append, List.nil_append])
  refine pm_rv (by exact okX10_dropAnswers) rfl rfl (Nat.le_refl _) (Nat.le_refl _) (⟨rfl, rfl, fun a h1 h2 => by rw [pm_up_ne h2, pm_up_ne h1]⟩)
set_option maxRecDepth 100000 in
set_option maxHeartbeats 1000000 in
theorem t_fill4_l {Q : pm_Po} {x1 : Int32} : ∀ (j k : Nat) (mu1 : pm_I), k + j = 6 → (∀ a, a ≠ 4 → mu1 a = mu a) → (∀ mu', (∀ a, a ≠ 4 → mu' a = mu a) → Q none (sh_ i0 i1 ex) mu' nu) → pm_G cx (mJ7_fill_53178, d, 0, 0, n0, Q) 0 0 5 [some (.ref 4), some (.int x1), some (.int (nI k)), some (.int (nI 6))] [] (sh_ i0 i1 ex) mu1 nu := by
  intro j
  induction j with
  | zero =>
    intro k mu1 hk hm hq
    have hk : k = 6 := by omega
    subst hk
    refine pm_go 9999 (by exact okJ7_fill_53178) rfl ?_; (try dsimp only [pm_st1, pm_st2, pm_cat2, pm_la, Option.toList, List.cons_append, List.nil_append])
    refine pm_ige (by exact okJ7_fill_53178) rfl (fun h1 => ?_) (fun h1 => ?_)
    · refine pm_go 9999 (by exact okJ7_fill_53178) rfl ?_; (try dsimp only [pm_st1, pm_st2, pm_cat2, pm_la, Option.toList, List.cons_append, List.nil_append])
      refine pm_rv (by exact okJ7_fill_53178) rfl rfl (Nat.le_refl _) (Nat.le_refl _) (hq mu1 hm)
    · exact absurd (by decide) h1
  | succ j ih =>
    intro k mu1 hk hm hq
    refine pm_go 9999 (by exact okJ7_fill_53178) rfl ?_; (try dsimp only [pm_st1, pm_st2, pm_cat2, pm_la, Option.toList, List.cons_append, List.nil_append])
    refine pm_ige (by exact okJ7_fill_53178) rfl (fun h1 => ?_) (fun h1 => ?_)
    · exact absurd h1 (nI_ge (a := k) (b := 6) (by omega) (by omega))
    · refine pm_go 9999 (by exact okJ7_fill_53178) rfl ?_; (try dsimp only [pm_st1, pm_st2, pm_cat2, pm_la, Option.toList, List.cons_append, List.nil_append])
      refine pm_ias (by exact okJ7_fill_53178) rfl rfl (vp_in_nI (by omega) (by omega)) ?_
      refine pm_go 5 (by exact okJ7_fill_53178) rfl ?_; (try dsimp only [pm_st1, pm_st2, pm_cat2, pm_la, Option.toList, List.cons_append, List.nil_append])
      rw [nI_clamp (by omega), nI_1]
      exact ih (k + 1) _ (by omega) (fun a ha => by rw [pm_up_ne ha]; exact hm a ha) hq
set_option maxRecDepth 100000 in
set_option maxHeartbeats 1000000 in
theorem t_fill4 (v : Int32) : pm_T cx mJ7_fill_53178 d 0 0 [.ref 4, .int v] (sh_ i0 i1 ex) mu nu (fun r sg' mu' _ => r = none ∧ sg' = sh_ i0 i1 ex ∧ ∀ a, a ≠ 4 → mu' a = mu a) := by
  refine pm_enterN 2 (by exact okJ7_fill_53178) rfl ?_; dsimp only [pm_la, pm_cat2, List.replicate, List.cons_append, List.nil_append, List.append_nil]
  refine pm_go 5 (by exact okJ7_fill_53178) rfl ?_; (try dsimp only [pm_st1, pm_st2, pm_cat2, pm_la, Option.toList, List.cons_append, List.nil_append])
  exact t_fill4_l 6 0 mu rfl (fun a _ => rfl) (fun mu' h => ⟨rfl, rfl, h⟩)
set_option maxRecDepth 100000 in
set_option maxHeartbeats 1000000 in
theorem t_fill5_l {Q : pm_Po} {x1 : Int32} : ∀ (j k : Nat) (mu1 : pm_I), k + j = 6 → (∀ a, a ≠ 5 → mu1 a = mu a) → (∀ mu', (∀ a, a ≠ 5 → mu' a = mu a) → Q none (sh_ i0 i1 ex) mu' nu) → pm_G cx (mJ7_fill_53178, d, 0, 0, n0, Q) 0 0 5 [some (.ref 5), some (.int x1), some (.int (nI k)), some (.int (nI 6))] [] (sh_ i0 i1 ex) mu1 nu := by
  intro j
  induction j with
  | zero =>
    intro k mu1 hk hm hq
    have hk : k = 6 := by omega
    subst hk
    refine pm_go 9999 (by exact okJ7_fill_53178) rfl ?_; (try dsimp only [pm_st1, pm_st2, pm_cat2, pm_la, Option.toList, List.cons_append, List.nil_append])
    refine pm_ige (by exact okJ7_fill_53178) rfl (fun h1 => ?_) (fun h1 => ?_)
    · refine pm_go 9999 (by exact okJ7_fill_53178) rfl ?_; (try dsimp only [pm_st1, pm_st2, pm_cat2, pm_la, Option.toList, List.cons_append, List.nil_append])
      refine pm_rv (by exact okJ7_fill_53178) rfl rfl (Nat.le_refl _) (Nat.le_refl _) (hq mu1 hm)
    · exact absurd (by decide) h1
  | succ j ih =>
    intro k mu1 hk hm hq
    refine pm_go 9999 (by exact okJ7_fill_53178) rfl ?_; (try dsimp only [pm_st1, pm_st2, pm_cat2, pm_la, Option.toList, List.cons_append, List.nil_append])
    refine pm_ige (by exact okJ7_fill_53178) rfl (fun h1 => ?_) (fun h1 => ?_)
    · exact absurd h1 (nI_ge (a := k) (b := 6) (by omega) (by omega))
    · refine pm_go 9999 (by exact okJ7_fill_53178) rfl ?_; (try dsimp only [pm_st1, pm_st2, pm_cat2, pm_la, Option.toList, List.cons_append, List.nil_append])
      refine pm_ias (by exact okJ7_fill_53178) rfl rfl (vp_in_nI (by omega) (by omega)) ?_
      refine pm_go 5 (by exact okJ7_fill_53178) rfl ?_; (try dsimp only [pm_st1, pm_st2, pm_cat2, pm_la, Option.toList, List.cons_append, List.nil_append])
      rw [nI_clamp (by omega), nI_1]
      exact ih (k + 1) _ (by omega) (fun a ha => by rw [pm_up_ne ha]; exact hm a ha) hq
set_option maxRecDepth 100000 in
set_option maxHeartbeats 1000000 in
theorem t_fill5 (v : Int32) : pm_T cx mJ7_fill_53178 d 0 0 [.ref 5, .int v] (sh_ i0 i1 ex) mu nu (fun r sg' mu' _ => r = none ∧ sg' = sh_ i0 i1 ex ∧ ∀ a, a ≠ 5 → mu' a = mu a) := by
  refine pm_enterN 2 (by exact okJ7_fill_53178) rfl ?_; dsimp only [pm_la, pm_cat2, List.replicate, List.cons_append, List.nil_append, List.append_nil]
  refine pm_go 5 (by exact okJ7_fill_53178) rfl ?_; (try dsimp only [pm_st1, pm_st2, pm_cat2, pm_la, Option.toList, List.cons_append, List.nil_append])
  exact t_fill5_l 6 0 mu rfl (fun a _ => rfl) (fun mu' h => ⟨rfl, rfl, h⟩)
set_option maxRecDepth 100000 in
set_option maxHeartbeats 1000000 in
theorem t_layOut (n : Int32) (hd : 1 ≤ d) : pm_T cx mX2_layOut d 0 0 [.ref 3, .int n] (sh_ i0 i1 ex) mu nu (fun r sg' mu' _ => r = none ∧ sg' = sh_ i0 i1 ex ∧ ∀ a, a < 3 ∨ 6 ≤ a → mu' a = mu a) := by
  refine pm_enterN 0 (by exact okX2_layOut) rfl ?_; dsimp only [pm_la, pm_cat2, List.replicate, List.cons_append, List.nil_append, List.append_nil]
  refine pm_go 9999 (by exact okX2_layOut) rfl ?_; (try dsimp only [pm_st1, pm_st2, pm_cat2, pm_la, Option.toList, List.cons_append, List.nil_append])
  refine pm_cs (by exact okX2_layOut) (by exact okJ7_fill_53178) rfl (by exact arJ7_fill_53178) (t_fill4 (d := 0) 0) rfl (by dsimp only; omega) rfl (Nat.le_of_ble_eq_true rfl) ⟨Nat.zero_le _, Nat.zero_le _⟩ ?_
  rintro _ _ mu1 nu1 ⟨rfl, rfl, h1⟩ -
  refine pm_go 9999 (by exact okX2_layOut) rfl ?_; (try dsimp only [pm_st1, pm_st2, pm_cat2, pm_la, Option.toList, List.cons_append, List.nil_append])
  refine pm_cs (by exact okX2_layOut) (by exact okJ7_fill_53178) rfl (by exact arJ7_fill_53178) (t_fill5 (d := 0) (-1)) rfl (by dsimp only; omega) rfl (Nat.le_of_ble_eq_true rfl) ⟨Nat.zero_le _, Nat.zero_le _⟩ ?_
  rintro _ _ mu2 nu2 ⟨rfl, rfl, h2⟩ -
  refine pm_go 9999 (by exact okX2_layOut) rfl ?_; (try dsimp only [pm_st1, pm_st2, pm_cat2, pm_la, Option.toList, List.cons_append, List.nil_append])
  refine pm_rv (by exact okX2_layOut) rfl rfl (Nat.le_refl _) (Nat.le_refl _) (⟨rfl, rfl, fun a ha => by rw [h2 a (by omega), h1 a (by omega), pm_up_ne (by omega), pm_up_ne (by omega), pm_up_ne (by omega)]⟩)
set_option maxRecDepth 100000 in
set_option maxHeartbeats 1000000 in
theorem P_beds (n : Int32) (h : X0 mu) (hd : 2 ≤ d) : pm_T cx mX10_beds d 0 0 [.ref 0, .int n] (sh_ i0 i1 ex) mu nu (cQ (.int (sp_beds z0 n).1) mu) := by
  obtain ⟨⟨a1, a2, a3, a4, a5, a6, b1, b2, b3, b4⟩, p1, k1⟩ := id h
  have out : ¬ (2 ≤ n ∧ n ≤ 6) → (sp_beds z0 n).1 = -2 := fun q => by unfold sp_beds; rw [if_neg q]
  refine pm_enterN 1 (by exact okX10_beds) rfl ?_; dsimp only [pm_la, pm_cat2, List.replicate, List.cons_append, List.nil_append, List.append_nil]
  refine pm_go 9999 (by exact okX10_beds) rfl ?_; (try dsimp only [pm_st1, pm_st2, pm_cat2, pm_la, Option.toList, List.cons_append, List.nil_append])
  refine pm_ilt (by exact okX10_beds) rfl (fun h1 => ?_) (fun h1 => ?_)
  · rw [out (fun q => absurd q.1 (Int32.not_le.mpr h1))]
    refine pm_go 9999 (by exact okX10_beds) rfl ?_; (try dsimp only [pm_st1, pm_st2, pm_cat2, pm_la, Option.toList, List.cons_append, List.nil_append])
    refine pm_ri (by exact okX10_beds) rfl rfl rfl (Nat.le_refl _) (Nat.le_refl _) (⟨rfl, ⟨_, _, _, rfl⟩, fX.rf⟩)
  · refine pm_go 9999 (by exact okX10_beds) rfl ?_; (try dsimp only [pm_st1, pm_st2, pm_cat2, pm_la, Option.toList, List.cons_append, List.nil_append])
    refine pm_ile (by exact okX10_beds) rfl (fun h2 => ?_) (fun h2 => ?_)
    · have e : (sp_beds z0 n).1 = nI 6 := by unfold sp_beds; rw [if_pos ⟨Int32.not_lt.mp h1, h2⟩]
      rw [e]
      refine pm_go 9999 (by exact okX10_beds) rfl ?_; (try dsimp only [pm_st1, pm_st2, pm_cat2, pm_la, Option.toList, List.cons_append, List.nil_append])
      refine pm_cv (by exact okX10_beds) (by exact okX2_layOut) rfl (by exact arX2_layOut) (t_layOut (d := 1) n (by omega)) rfl rfl rfl (by dsimp only; omega) rfl (Nat.le_of_ble_eq_true rfl) ⟨Nat.zero_le _, Nat.zero_le _⟩ ?_
      rintro _ _ mu1 nu1 ⟨rfl, rfl, g1⟩ -
      refine pm_go 9999 (by exact okX10_beds) rfl ?_; (try dsimp only [pm_st1, pm_st2, pm_cat2, pm_la, Option.toList, List.cons_append, List.nil_append])
      refine pm_cv (by exact okX10_beds) (by exact okX10_dropAnswers) rfl (by exact arX10_dropAnswers) (t_drop (d := 0)) rfl rfl rfl (by dsimp only; omega) rfl (Nat.le_of_ble_eq_true rfl) ⟨Nat.zero_le _, Nat.zero_le _⟩ ?_
      rintro _ _ mu2 nu2 ⟨rfl, rfl, g2⟩ -
      refine pm_go 9999 (by exact okX10_beds) rfl ?_; (try dsimp only [pm_st1, pm_st2, pm_cat2, pm_la, Option.toList, List.cons_append, List.nil_append])
      rw [a1]
      refine pm_ri (by exact okX10_beds) rfl rfl rfl (Nat.le_refl _) (Nat.le_refl _) (⟨rfl, ⟨_, _, _, rfl⟩, fun a q1 q2 => by rw [g2 a (by omega) (by omega), g1 a (by omega)]⟩)
    · rw [out (fun q => h2 q.2)]
      refine pm_go 9999 (by exact okX10_beds) rfl ?_; (try dsimp only [pm_st1, pm_st2, pm_cat2, pm_la, Option.toList, List.cons_append, List.nil_append])
      refine pm_ri (by exact okX10_beds) rfl rfl rfl (Nat.le_refl _) (Nat.le_refl _) (⟨rfl, ⟨_, _, _, rfl⟩, fX.rf⟩)
set_option maxRecDepth 100000 in
set_option maxHeartbeats 1000000 in
theorem P_colour (b v : Int32) (h : X0 mu) (hd : 1 ≤ d) : pm_T cx mX10_colour d 0 0 [.ref 0, .int b, .int v] (sh_ i0 i1 ex) mu nu (cQ (.int (sp_colour z0 b v).1) mu) := by
  obtain ⟨⟨a1, a2, a3, a4, a5, a6, b1, b2, b3, b4⟩, p1, k1⟩ := id h
  refine pm_enterN 1 (by exact okX10_colour) rfl ?_; dsimp only [pm_la, pm_cat2, List.replicate, List.cons_append, List.nil_append, List.append_nil]
  refine pm_go 9999 (by exact okX10_colour) rfl ?_; (try dsimp only [pm_st1, pm_st2, pm_cat2, pm_la, Option.toList, List.cons_append, List.nil_append])
  refine pm_cv (by exact okX10_colour) (by exact okX2_isBed) rfl (by exact arX2_isBed) (C_isBed (d := 0) (B := 6) b a1 (by omega)) rfl rfl rfl (by dsimp only; omega) rfl (Nat.le_of_ble_eq_true rfl) ⟨Nat.zero_le _, Nat.zero_le _⟩ ?_
  rintro _ _ _ _ ⟨rfl, rfl, rfl, rfl⟩ -
  refine pm_go 9999 (by exact okX10_colour) rfl ?_; (try dsimp only [pm_st1, pm_st2, pm_cat2, pm_la, Option.toList, List.cons_append, List.nil_append])
  refine pm_zne (by exact okX10_colour) rfl (fun h1 => ?_) (fun h1 => ?_)
  · have h1 := bI_n.mp h1
    obtain ⟨k, hk, rfl⟩ := isB_of (by omega) h1
    have out : ¬ (0 ≤ v ∧ v ≤ 3) → (sp_colour z0 (nI k) v).1 = -2 := fun q => by unfold sp_colour; rw [if_pos h1, if_neg q]
    refine pm_go 9999 (by exact okX10_colour) rfl ?_; (try dsimp only [pm_st1, pm_st2, pm_cat2, pm_la, Option.toList, List.cons_append, List.nil_append])
    refine pm_zlt (by exact okX10_colour) rfl (fun h2 => ?_) (fun h2 => ?_)
    · rw [out (fun q => absurd q.1 (Int32.not_le.mpr h2))]
      refine pm_go 9999 (by exact okX10_colour) rfl ?_; (try dsimp only [pm_st1, pm_st2, pm_cat2, pm_la, Option.toList, List.cons_append, List.nil_append])
      refine pm_ri (by exact okX10_colour) rfl rfl rfl (Nat.le_refl _) (Nat.le_refl _) (⟨rfl, ⟨_, _, _, rfl⟩, fX.rf⟩)
    · refine pm_go 9999 (by exact okX10_colour) rfl ?_; (try dsimp only [pm_st1, pm_st2, pm_cat2, pm_la, Option.toList, List.cons_append, List.nil_append])
      refine pm_ilt (by exact okX10_colour) rfl (fun h3 => ?_) (fun h3 => ?_)
      · have e : (sp_colour z0 (nI k) v).1 = nI 0 := by unfold sp_colour; rw [if_pos h1, if_pos ⟨Int32.not_lt.mp h2, (lt_le (n := 3) (by omega)).mp h3⟩]
        rw [e]
        refine pm_go 9999 (by exact okX10_colour) rfl ?_; (try dsimp only [pm_st1, pm_st2, pm_cat2, pm_la, Option.toList, List.cons_append, List.nil_append])
        refine pm_ial (by exact okX10_colour) rfl rfl (vp_in_nI (by omega) (by omega)) ?_
        refine pm_go 9999 (by exact okX10_colour) rfl ?_; (try dsimp only [pm_st1, pm_st2, pm_cat2, pm_la, Option.toList, List.cons_append, List.nil_append])
        refine pm_ias (by exact okX10_colour) rfl rfl (vp_in_nI (by omega) (by omega)) ?_
        refine pm_go 9999 (by exact okX10_colour) rfl ?_; (try dsimp only [pm_st1, pm_st2, pm_cat2, pm_la, Option.toList, List.cons_append, List.nil_append])
        rw [nI_clamp (n := k) (by omega), b1 k hk]
        refine pm_cv (by exact okX10_colour) (by exact okX10_dropAnswers) rfl (by exact arX10_dropAnswers) (t_drop (d := 0)) rfl rfl rfl (by dsimp only; omega) rfl (Nat.le_of_ble_eq_true rfl) ⟨Nat.zero_le _, Nat.zero_le _⟩ ?_
        rintro _ _ mu2 nu2 ⟨rfl, rfl, g2⟩ -
        refine pm_go 9999 (by exact okX10_colour) rfl ?_; (try dsimp only [pm_st1, pm_st2, pm_cat2, pm_la, Option.toList, List.cons_append, List.nil_append])
        refine pm_ri (by exact okX10_colour) rfl rfl rfl (Nat.le_refl _) (Nat.le_refl _) (⟨rfl, ⟨_, _, _, rfl⟩, fun a q1 q2 => by rw [g2 a (by omega) (by omega), pm_up_ne (by omega)]⟩)
      · rw [out (fun q => h3 ((lt_le (n := 3) (by omega)).mpr q.2))]
        refine pm_go 9999 (by exact okX10_colour) rfl ?_; (try dsimp only [pm_st1, pm_st2, pm_cat2, pm_la, Option.toList, List.cons_append, List.nil_append])
        refine pm_ri (by exact okX10_colour) rfl rfl rfl (Nat.le_refl _) (Nat.le_refl _) (⟨rfl, ⟨_, _, _, rfl⟩, fX.rf⟩)
  · have h1 := bI_z.mp h1
    have e : (sp_colour z0 b v).1 = -1 := by unfold sp_colour; rw [if_neg h1]
    rw [e]
    refine pm_go 9999 (by exact okX10_colour) rfl ?_; (try dsimp only [pm_st1, pm_st2, pm_cat2, pm_la, Option.toList, List.cons_append, List.nil_append])
    refine pm_ri (by exact okX10_colour) rfl rfl rfl (Nat.le_refl _) (Nat.le_refl _) (⟨rfl, ⟨_, _, _, rfl⟩, fX.rf⟩)
set_option maxRecDepth 100000 in
set_option maxHeartbeats 1000000 in
theorem t_irp (o b : Int32) (h : X0 mu) (hb : isB 6 b) (ho : o = -1 ∨ isB 6 o) (hd : 1 ≤ d) : pm_T cx mX2_isReachedPast d 0 0 [.ref 3, .int o, .int b] (sh_ i0 i1 ex) mu nu (pm_ret (some (.int 0)) (sh_ i0 i1 ex) mu nu) := by
  obtain ⟨⟨a1, a2, a3, a4, a5, a6, b1, b2, b3, b4⟩, p1, k1⟩ := id h
  have nb : ¬ isB 6 (-1) := by decide
  refine pm_enterN 2 (by exact okX2_isReachedPast) rfl ?_; dsimp only [pm_la, pm_cat2, List.replicate, List.cons_append, List.nil_append, List.append_nil]
  refine pm_go 9999 (by exact okX2_isReachedPast) rfl ?_; (try dsimp only [pm_st1, pm_st2, pm_cat2, pm_la, Option.toList, List.cons_append, List.nil_append])
  refine pm_ige (by exact okX2_isReachedPast) rfl (fun h1 => ?_) (fun h1 => ?_)
  · exact absurd h1 (by decide)
  · refine pm_go 9999 (by exact okX2_isReachedPast) rfl ?_; (try dsimp only [pm_st1, pm_st2, pm_cat2, pm_la, Option.toList, List.cons_append, List.nil_append])
    refine pm_cv (by exact okX2_isReachedPast) (by exact okX2_isBed) rfl (by exact arX2_isBed) (C_isBed (d := 0) (B := 6) o a1 (by omega)) rfl rfl rfl (by dsimp only; omega) rfl (Nat.le_of_ble_eq_true rfl) ⟨Nat.zero_le _, Nat.zero_le _⟩ ?_
    rintro _ _ _ _ ⟨rfl, rfl, rfl, rfl⟩ -
    refine pm_go 9999 (by exact okX2_isReachedPast) rfl ?_; (try dsimp only [pm_st1, pm_st2, pm_cat2, pm_la, Option.toList, List.cons_append, List.nil_append])
    refine pm_zeq (by exact okX2_isReachedPast) rfl (fun h2 => ?_) (fun h2 => ?_)
    · refine pm_go 9999 (by exact okX2_isReachedPast) rfl ?_; (try dsimp only [pm_st1, pm_st2, pm_cat2, pm_la, Option.toList, List.cons_append, List.nil_append])
      refine pm_ri (by exact okX2_isReachedPast) rfl rfl rfl (Nat.le_refl _) (Nat.le_refl _) (⟨rfl, rfl, rfl, rfl⟩)
    · have h2 := bI_n.mp h2
      obtain ⟨k, hk, rfl⟩ := isB_of (by omega) h2
      refine pm_go 9999 (by exact okX2_isReachedPast) rfl ?_; (try dsimp only [pm_st1, pm_st2, pm_cat2, pm_la, Option.toList, List.cons_append, List.nil_append])
      refine pm_ial (by exact okX2_isReachedPast) rfl rfl (vp_in_nI (by omega) (by omega)) ?_
      refine pm_go 9999 (by exact okX2_isReachedPast) rfl ?_; (try dsimp only [pm_st1, pm_st2, pm_cat2, pm_la, Option.toList, List.cons_append, List.nil_append])
      rw [nI_clamp (n := k) (by omega), show mu 5 k = -1 from b2 k hk]
      refine pm_ine (by exact okX2_isReachedPast) rfl (fun h3 => ?_) (fun h3 => ?_)
      · refine pm_go 9999 (by exact okX2_isReachedPast) rfl ?_; (try dsimp only [pm_st1, pm_st2, pm_cat2, pm_la, Option.toList, List.cons_append, List.nil_append])
        refine pm_ige (by exact okX2_isReachedPast) rfl (fun h4 => ?_) (fun h4 => ?_)
        · exact absurd h4 (by decide)
        · refine pm_go 9999 (by exact okX2_isReachedPast) rfl ?_; (try dsimp only [pm_st1, pm_st2, pm_cat2, pm_la, Option.toList, List.cons_append, List.nil_append])
          refine pm_cv (by exact okX2_isReachedPast) (by exact okX2_isBed) rfl (by exact arX2_isBed) (C_isBed (d := 0) (B := 6) (-1) a1 (by omega)) rfl rfl rfl (by dsimp only; omega) rfl (Nat.le_of_ble_eq_true rfl) ⟨Nat.zero_le _, Nat.zero_le _⟩ ?_
          rintro _ _ _ _ ⟨rfl, rfl, rfl, rfl⟩ -
          rw [bI_0 nb]
          refine pm_go 9999 (by exact okX2_isReachedPast) rfl ?_; (try dsimp only [pm_st1, pm_st2, pm_cat2, pm_la, Option.toList, List.cons_append, List.nil_append])
          refine pm_zeq (by exact okX2_isReachedPast) rfl (fun h5 => ?_) (fun h5 => ?_)
          · refine pm_go 9999 (by exact okX2_isReachedPast) rfl ?_; (try dsimp only [pm_st1, pm_st2, pm_cat2, pm_la, Option.toList, List.cons_append, List.nil_append])
            refine pm_ri (by exact okX2_isReachedPast) rfl rfl rfl (Nat.le_refl _) (Nat.le_refl _) (⟨rfl, rfl, rfl, rfl⟩)
          · exact absurd rfl h5
      · exact absurd (h3 ▸ hb) nb
set_option maxRecDepth 100000 in
set_option maxHeartbeats 1000000 in
theorem P_past (b o : Int32) (h : X0 mu) (hd : 2 ≤ d) : pm_T cx mX10_past d 0 0 [.ref 0, .int b, .int o] (sh_ i0 i1 ex) mu nu (cQ (.int (sp_past z0 b o).1) mu) := by
  obtain ⟨⟨a1, a2, a3, a4, a5, a6, b1, b2, b3, b4⟩, p1, k1⟩ := id h
  have bad : (¬ isB 6 b ∨ (o ≠ -1 ∧ ¬ isB 6 o) ∨ b = o) → (sp_past z0 b o).1 = -1 := fun q => by unfold sp_past; rw [if_pos q]
  have good : ¬ (¬ isB 6 b ∨ (o ≠ -1 ∧ ¬ isB 6 o) ∨ b = o) → (sp_past z0 b o).1 = -6 := fun q => by
    unfold sp_past
    rw [if_neg q, if_neg (by rintro ⟨-, q⟩; cases q)]
    rfl
  have rest : ∀ f : Int32, (f = 1 ∧ (o = -1 ∨ isB 6 o)) ∨ (f = 0 ∧ o ≠ -1 ∧ ¬ isB 6 o) → pm_G cx (mX10_past, d, 0, 0, (sh_ i0 i1 ex).length, cQ (.int (sp_past z0 b o).1) mu) 0 0 21 [some (.ref 0), some (.int b), some (.int o), none, none] [.int f] (sh_ i0 i1 ex) mu nu := by
    intro f hf
    refine pm_go 9999 (by exact okX10_past) rfl ?_; (try dsimp only [pm_st1, pm_st2, pm_cat2, pm_la, Option.toList, List.cons_append, List.nil_append])
    refine pm_cv (by exact okX10_past) (by exact okX2_isBed) rfl (by exact arX2_isBed) (C_isBed (d := 0) (B := 6) b a1 (by omega)) rfl rfl rfl (by dsimp only; omega) rfl (Nat.le_of_ble_eq_true rfl) ⟨Nat.zero_le _, Nat.zero_le _⟩ ?_
    rintro _ _ _ _ ⟨rfl, rfl, rfl, rfl⟩ -
    refine pm_go 9999 (by exact okX10_past) rfl ?_; (try dsimp only [pm_st1, pm_st2, pm_cat2, pm_la, Option.toList, List.cons_append, List.nil_append])
    refine pm_zeq (by exact okX10_past) rfl (fun h1 => ?_) (fun h1 => ?_)
    · have h1 := bI_z.mp h1
      rw [bad (Or.inl h1)]
      refine pm_go 9999 (by exact okX10_past) rfl ?_; (try dsimp only [pm_st1, pm_st2, pm_cat2, pm_la, Option.toList, List.cons_append, List.nil_append])
      refine pm_ri (by exact okX10_past) rfl rfl rfl (Nat.le_refl _) (Nat.le_refl _) (⟨rfl, ⟨_, _, _, rfl⟩, fX.rf⟩)
    · have h1 := bI_n.mp h1
      refine pm_go 9999 (by exact okX10_past) rfl ?_; (try dsimp only [pm_st1, pm_st2, pm_cat2, pm_la, Option.toList, List.cons_append, List.nil_append])
      refine pm_zeq (by exact okX10_past) rfl (fun h2 => ?_) (fun h2 => ?_)
      · rw [bad (Or.inr (Or.inl (hf.elim (fun q => absurd (q.1.symm.trans h2) (by decide)) (fun q => q.2))))]
        refine pm_go 9999 (by exact okX10_past) rfl ?_; (try dsimp only [pm_st1, pm_st2, pm_cat2, pm_la, Option.toList, List.cons_append, List.nil_append])
        refine pm_ri (by exact okX10_past) rfl rfl rfl (Nat.le_refl _) (Nat.le_refl _) (⟨rfl, ⟨_, _, _, rfl⟩, fX.rf⟩)
      · have ho : o = -1 ∨ isB 6 o := hf.elim (fun q => q.2) (fun q => absurd q.1 h2)
        refine pm_go 9999 (by exact okX10_past) rfl ?_; (try dsimp only [pm_st1, pm_st2, pm_cat2, pm_la, Option.toList, List.cons_append, List.nil_append])
        refine pm_ine (by exact okX10_past) rfl (fun h3 => ?_) (fun h3 => ?_)
        · rw [good (fun q => q.elim (fun q => q h1) (fun q => q.elim (fun q => q.2 (ho.resolve_left q.1)) (fun q => h3 q.symm)))]
          refine pm_go 9999 (by exact okX10_past) rfl ?_; (try dsimp only [pm_st1, pm_st2, pm_cat2, pm_la, Option.toList, List.cons_append, List.nil_append])
          refine pm_cv (by exact okX10_past) (by exact okX2_isReachedPast) rfl (by exact arX2_isReachedPast) (t_irp (d := 1) o b h h1 ho (by omega)) rfl rfl rfl (by dsimp only; omega) rfl (Nat.le_of_ble_eq_true rfl) ⟨Nat.zero_le _, Nat.zero_le _⟩ ?_
          rintro _ _ _ _ ⟨rfl, rfl, rfl, rfl⟩ -
          refine pm_go 9999 (by exact okX10_past) rfl ?_; (try dsimp only [pm_st1, pm_st2, pm_cat2, pm_la, Option.toList, List.cons_append, List.nil_append])
          refine pm_zeq (by exact okX10_past) rfl (fun h4 => ?_) (fun h4 => ?_)
          · obtain ⟨k, hk, rfl⟩ := isB_of (by omega) h1
            refine pm_go 9999 (by exact okX10_past) rfl ?_; (try dsimp only [pm_st1, pm_st2, pm_cat2, pm_la, Option.toList, List.cons_append, List.nil_append])
            refine pm_cv (by exact okX10_past) (by exact okX2_pastOf) rfl (by exact arX2_pastOf) (C_pastOf (d := 1) (g := g0) g0_OK h.1 hk (by omega)) rfl rfl rfl (by dsimp only; omega) rfl (Nat.le_of_ble_eq_true rfl) ⟨Nat.zero_le _, Nat.zero_le _⟩ ?_
            rintro _ _ _ _ ⟨rfl, rfl, rfl, rfl⟩ -
            refine pm_go 9999 (by exact okX10_past) rfl ?_; (try dsimp only [pm_st1, pm_st2, pm_cat2, pm_la, Option.toList, List.cons_append, List.nil_append])
            refine pm_ias (by exact okX10_past) rfl rfl (vp_in_nI (by omega) (by omega)) ?_
            refine pm_go 9999 (by exact okX10_past) rfl ?_; (try dsimp only [pm_st1, pm_st2, pm_cat2, pm_la, Option.toList, List.cons_append, List.nil_append])
            refine pm_cv (by exact okX10_past) (by exact okX10_dropAnswers) rfl (by exact arX10_dropAnswers) (t_drop (d := 0)) rfl rfl rfl (by dsimp only; omega) rfl (Nat.le_of_ble_eq_true rfl) ⟨Nat.zero_le _, Nat.zero_le _⟩ ?_
            rintro _ _ mu2 nu2 ⟨rfl, rfl, g2⟩ -
            refine pm_go 9999 (by exact okX10_past) rfl ?_; (try dsimp only [pm_st1, pm_st2, pm_cat2, pm_la, Option.toList, List.cons_append, List.nil_append])
            refine pm_ri (by exact okX10_past) rfl rfl rfl (Nat.le_refl _) (Nat.le_refl _) (⟨rfl, ⟨_, _, _, rfl⟩, fun a q1 q2 => by rw [g2 a (by omega) (by omega), pm_up_ne (by omega)]⟩)
          · exact absurd rfl h4
        · rw [bad (Or.inr (Or.inr h3.symm))]
          refine pm_go 9999 (by exact okX10_past) rfl ?_; (try dsimp only [pm_st1, pm_st2, pm_cat2, pm_la, Option.toList, List.cons_append, List.nil_append])
          refine pm_ri (by exact okX10_past) rfl rfl rfl (Nat.le_refl _) (Nat.le_refl _) (⟨rfl, ⟨_, _, _, rfl⟩, fX.rf⟩)
  refine pm_enterN 2 (by exact okX10_past) rfl ?_; dsimp only [pm_la, pm_cat2, List.replicate, List.cons_append, List.nil_append, List.append_nil]
  refine pm_go 9999 (by exact okX10_past) rfl ?_; (try dsimp only [pm_st1, pm_st2, pm_cat2, pm_la, Option.toList, List.cons_append, List.nil_append])
  refine pm_ieq (by exact okX10_past) rfl (fun h1 => ?_) (fun h1 => ?_)
  · refine pm_go 21 (by exact okX10_past) rfl ?_; (try dsimp only [pm_st1, pm_st2, pm_cat2, pm_la, Option.toList, List.cons_append, List.nil_append])
    exact rest 1 (Or.inl ⟨rfl, Or.inl h1⟩)
  · refine pm_go 9999 (by exact okX10_past) rfl ?_; (try dsimp only [pm_st1, pm_st2, pm_cat2, pm_la, Option.toList, List.cons_append, List.nil_append])
    refine pm_cv (by exact okX10_past) (by exact okX2_isBed) rfl (by exact arX2_isBed) (C_isBed (d := 0) (B := 6) o a1 (by omega)) rfl rfl rfl (by dsimp only; omega) rfl (Nat.le_of_ble_eq_true rfl) ⟨Nat.zero_le _, Nat.zero_le _⟩ ?_
    rintro _ _ _ _ ⟨rfl, rfl, rfl, rfl⟩ -
    refine pm_go 9999 (by exact okX10_past) rfl ?_; (try dsimp only [pm_st1, pm_st2, pm_cat2, pm_la, Option.toList, List.cons_append, List.nil_append])
    refine pm_zeq (by exact okX10_past) rfl (fun h2 => ?_) (fun h2 => ?_)
    · refine pm_go 21 (by exact okX10_past) rfl ?_; (try dsimp only [pm_st1, pm_st2, pm_cat2, pm_la, Option.toList, List.cons_append, List.nil_append])
      exact rest 0 (Or.inr ⟨rfl, h1, bI_z.mp h2⟩)
    · refine pm_go 21 (by exact okX10_past) rfl ?_; (try dsimp only [pm_st1, pm_st2, pm_cat2, pm_la, Option.toList, List.cons_append, List.nil_append])
      exact rest 1 (Or.inl ⟨rfl, Or.inr (bI_n.mp h2)⟩)
set_option maxRecDepth 100000 in
set_option maxHeartbeats 1000000 in
theorem P_set (w v : Int32) (h : X0 mu) (hd : 1 ≤ d) : pm_T cx mX10_set d 0 0 [.ref 0, .int w, .int v] (sh_ i0 i1 ex) mu nu (cQ (.int (sp_set z0 w v).1) mu) := by
  obtain ⟨⟨a1, a2, a3, a4, a5, a6, b1, b2, b3, b4⟩, p1, k1⟩ := id h
  have e : (sp_set z0 w v).1 = if w = 0 ∧ 0 ≤ v ∧ v ≤ 2 then 0 else if w = 1 ∧ 1 ≤ v ∧ v ≤ 6 then 6 else if w = 2 ∧ 0 ≤ v ∧ v ≤ 10 then 3 else -2 := by
    unfold sp_set
    repeat' split
    all_goals rfl
  rw [e]
  have last : ∀ (r : Int32) (mu1 : pm_I), fX mu mu1 → (if w = 0 ∧ 0 ≤ v ∧ v ≤ 2 then 0 else if w = 1 ∧ 1 ≤ v ∧ v ≤ 6 then 6 else if w = 2 ∧ 0 ≤ v ∧ v ≤ 10 then 3 else -2 : Int32) = r → pm_G cx (mX10_set, d, 0, 0, (sh_ i0 i1 ex).length, cQ (.int (if w = 0 ∧ 0 ≤ v ∧ v ≤ 2 then 0 else if w = 1 ∧ 1 ≤ v ∧ v ≤ 6 then 6 else if w = 2 ∧ 0 ≤ v ∧ v ≤ 10 then 3 else -2)) mu) 0 0 104 [some (.ref 0), some (.int w), some (.int v), some (.int r)] [] (sh_ i0 i1 ex) mu1 nu := by
    intro r mu1 hf hr
    rw [hr]
    refine pm_go 9999 (by exact okX10_set) rfl ?_; (try dsimp only [pm_st1, pm_st2, pm_cat2, pm_la, Option.toList, List.cons_append, List.nil_append])
    refine pm_cv (by exact okX10_set) (by exact okX10_dropAnswers) rfl (by exact arX10_dropAnswers) (t_drop (d := 0)) rfl rfl rfl (by dsimp only; omega) rfl (Nat.le_of_ble_eq_true rfl) ⟨Nat.zero_le _, Nat.zero_le _⟩ ?_
    rintro _ _ mu2 nu2 ⟨rfl, rfl, g2⟩ -
    refine pm_go 9999 (by exact okX10_set) rfl ?_; (try dsimp only [pm_st1, pm_st2, pm_cat2, pm_la, Option.toList, List.cons_append, List.nil_append])
    refine pm_ri (by exact okX10_set) rfl rfl rfl (Nat.le_refl _) (Nat.le_refl _) (⟨rfl, ⟨_, _, _, rfl⟩, hf.of (fun a q => g2 a (by omega) (by omega))⟩)
  have third : ¬ (w = 0 ∧ 0 ≤ v ∧ v ≤ 2) → ¬ (w = 1 ∧ 1 ≤ v ∧ v ≤ 6) → pm_G cx (mX10_set, d, 0, 0, (sh_ i0 i1 ex).length, cQ (.int (if w = 0 ∧ 0 ≤ v ∧ v ≤ 2 then 0 else if w = 1 ∧ 1 ≤ v ∧ v ≤ 6 then 6 else if w = 2 ∧ 0 ≤ v ∧ v ≤ 10 then 3 else -2)) mu) 0 0 67 [some (.ref 0), some (.int w), some (.int v), none] [] (sh_ i0 i1 ex) mu nu := by
    intro n1 n2
    have out : ¬ (w = 2 ∧ 0 ≤ v ∧ v ≤ 10) → pm_G cx (mX10_set, d, 0, 0, (sh_ i0 i1 ex).length, cQ (.int (if w = 0 ∧ 0 ≤ v ∧ v ≤ 2 then 0 else if w = 1 ∧ 1 ≤ v ∧ v ≤ 6 then 6 else if w = 2 ∧ 0 ≤ v ∧ v ≤ 10 then 3 else -2)) mu) 0 0 101 [some (.ref 0), some (.int w), some (.int v), none] [] (sh_ i0 i1 ex) mu nu := by
      intro n3
      rw [if_neg n1, if_neg n2, if_neg n3]
      refine pm_go 9999 (by exact okX10_set) rfl ?_; (try dsimp only [pm_st1, pm_st2, pm_cat2, pm_la, Option.toList, List.cons_append, List.nil_append])
      refine pm_ri (by exact okX10_set) rfl rfl rfl (Nat.le_refl _) (Nat.le_refl _) (⟨rfl, ⟨_, _, _, rfl⟩, fX.rf⟩)
    refine pm_go 9999 (by exact okX10_set) rfl ?_; (try dsimp only [pm_st1, pm_st2, pm_cat2, pm_la, Option.toList, List.cons_append, List.nil_append])
    refine pm_ine (by exact okX10_set) rfl (fun h1 => ?_) (fun h1 => ?_)
    · exact out (fun q => h1 q.1)
    · refine pm_go 9999 (by exact okX10_set) rfl ?_; (try dsimp only [pm_st1, pm_st2, pm_cat2, pm_la, Option.toList, List.cons_append, List.nil_append])
      refine pm_zlt (by exact okX10_set) rfl (fun h2 => ?_) (fun h2 => ?_)
      · exact out (fun q => absurd q.2.1 (Int32.not_le.mpr h2))
      · refine pm_go 9999 (by exact okX10_set) rfl ?_; (try dsimp only [pm_st1, pm_st2, pm_cat2, pm_la, Option.toList, List.cons_append, List.nil_append])
        refine pm_igt (by exact okX10_set) rfl (fun h3 => ?_) (fun h3 => ?_)
        · exact out (fun q => absurd q.2.2 (Int32.not_le.mpr h3))
        · refine pm_go 104 (by exact okX10_set) rfl ?_; (try dsimp only [pm_st1, pm_st2, pm_cat2, pm_la, Option.toList, List.cons_append, List.nil_append])
          rw [a4]
          exact last 3 _ (fX.rf.up (by omega)) (by rw [if_neg n1, if_neg n2, if_pos ⟨h1, Int32.not_lt.mp h2, Int32.not_lt.mp h3⟩])
  have second : ¬ (w = 0 ∧ 0 ≤ v ∧ v ≤ 2) → pm_G cx (mX10_set, d, 0, 0, (sh_ i0 i1 ex).length, cQ (.int (if w = 0 ∧ 0 ≤ v ∧ v ≤ 2 then 0 else if w = 1 ∧ 1 ≤ v ∧ v ≤ 6 then 6 else if w = 2 ∧ 0 ≤ v ∧ v ≤ 10 then 3 else -2)) mu) 0 0 32 [some (.ref 0), some (.int w), some (.int v), none] [] (sh_ i0 i1 ex) mu nu := by
    intro n1
    refine pm_go 9999 (by exact okX10_set) rfl ?_; (try dsimp only [pm_st1, pm_st2, pm_cat2, pm_la, Option.toList, List.cons_append, List.nil_append])
    refine pm_ine (by exact okX10_set) rfl (fun h1 => ?_) (fun h1 => ?_)
    · exact third n1 (fun q => h1 q.1)
    · refine pm_go 9999 (by exact okX10_set) rfl ?_; (try dsimp only [pm_st1, pm_st2, pm_cat2, pm_la, Option.toList, List.cons_append, List.nil_append])
      refine pm_ilt (by exact okX10_set) rfl (fun h2 => ?_) (fun h2 => ?_)
      · exact third n1 (fun q => absurd q.2.1 (Int32.not_le.mpr h2))
      · refine pm_go 9999 (by exact okX10_set) rfl ?_; (try dsimp only [pm_st1, pm_st2, pm_cat2, pm_la, Option.toList, List.cons_append, List.nil_append])
        refine pm_igt (by exact okX10_set) rfl (fun h3 => ?_) (fun h3 => ?_)
        · exact third n1 (fun q => absurd q.2.2 (Int32.not_le.mpr h3))
        · refine pm_go 104 (by exact okX10_set) rfl ?_; (try dsimp only [pm_st1, pm_st2, pm_cat2, pm_la, Option.toList, List.cons_append, List.nil_append])
          rw [a3]
          exact last 6 _ (fX.rf.up (by omega)) (by rw [if_neg n1, if_pos ⟨h1, Int32.not_lt.mp h2, Int32.not_lt.mp h3⟩])
  refine pm_enterN 1 (by exact okX10_set) rfl ?_; dsimp only [pm_la, pm_cat2, List.replicate, List.cons_append, List.nil_append, List.append_nil]
  refine pm_go 9999 (by exact okX10_set) rfl ?_; (try dsimp only [pm_st1, pm_st2, pm_cat2, pm_la, Option.toList, List.cons_append, List.nil_append])
  refine pm_zne (by exact okX10_set) rfl (fun h1 => ?_) (fun h1 => ?_)
  · exact second (fun q => h1 q.1)
  · refine pm_go 9999 (by exact okX10_set) rfl ?_; (try dsimp only [pm_st1, pm_st2, pm_cat2, pm_la, Option.toList, List.cons_append, List.nil_append])
    refine pm_zlt (by exact okX10_set) rfl (fun h2 => ?_) (fun h2 => ?_)
    · exact second (fun q => absurd q.2.1 (Int32.not_le.mpr h2))
    · refine pm_go 9999 (by exact okX10_set) rfl ?_; (try dsimp only [pm_st1, pm_st2, pm_cat2, pm_la, Option.toList, List.cons_append, List.nil_append])
      refine pm_ige (by exact okX10_set) rfl (fun h3 => ?_) (fun h3 => ?_)
      · exact second (fun q => absurd ((lt_le (n := 2) (by omega)).mpr q.2.2) (Int32.not_lt.mpr h3))
      · refine pm_go 104 (by exact okX10_set) rfl ?_; (try dsimp only [pm_st1, pm_st2, pm_cat2, pm_la, Option.toList, List.cons_append, List.nil_append])
        rw [a2]
        exact last 0 _ (fX.rf.up (by omega)) (by rw [if_pos ⟨h1, Int32.not_lt.mp h2, (lt_le (n := 2) (by omega)).mp (Int32.not_le.mp h3)⟩])
set_option maxRecDepth 100000 in
set_option maxHeartbeats 1000000 in
theorem t_write (s : Int32) (h : X0 mu) : pm_T cx mX7_write d 0 0 [.ref 1, .int s] (sh_ i0 i1 ex) mu nu (fun r sg' mu' _ => r = some (.int 1) ∧ sg' = sh_ i0 i1 ex ∧ mu' 1 0 = 1 ∧ ∀ a, a ≠ 1 → a ≠ 2 → mu' a = mu a) := by
  have p1 : mu 1 0 = 0 := h.2.1.1
  refine pm_enterN 0 (by exact okX7_write) rfl ?_; dsimp only [pm_la, pm_cat2, List.replicate, List.cons_append, List.nil_append, List.append_nil]
  refine pm_go 9999 (by exact okX7_write) rfl ?_; (try dsimp only [pm_st1, pm_st2, pm_cat2, pm_la, Option.toList, List.cons_append, List.nil_append])
  rw [p1]
  refine pm_zlt (by exact okX7_write) rfl (fun h1 => ?_) (fun h1 => ?_)
  · exact absurd h1 (by decide)
  · refine pm_go 9999 (by exact okX7_write) rfl ?_; (try dsimp only [pm_st1, pm_st2, pm_cat2, pm_la, Option.toList, List.cons_append, List.nil_append])
    rw [p1]
    refine pm_ilt (by exact okX7_write) rfl (fun h2 => ?_) (fun h2 => ?_)
    · refine pm_go 9999 (by exact okX7_write) rfl ?_; (try dsimp only [pm_st1, pm_st2, pm_cat2, pm_la, Option.toList, List.cons_append, List.nil_append])
      rw [p1]
      refine pm_ias (by exact okX7_write) rfl rfl (vp_in_nI (n := 0) (by omega) (by omega)) ?_
      refine pm_go 9999 (by exact okX7_write) rfl ?_; (try dsimp only [pm_st1, pm_st2, pm_cat2, pm_la, Option.toList, List.cons_append, List.nil_append])
      refine pm_ri (by exact okX7_write) rfl rfl rfl (Nat.le_refl _) (Nat.le_refl _) (⟨rfl, rfl, ?_, fun a q1 q2 => by rw [pm_up_ne q1, pm_up_ne q2]⟩)
      show mu 1 0 + 1 = 1
      rw [p1]
      rfl
    · exact absurd (by decide) h2
set_option maxRecDepth 100000 in
set_option maxHeartbeats 1000000 in
theorem P_say (s : Int32) (h : X0 mu) (hd : 1 ≤ d) : pm_T cx mX10_say d 0 0 [.ref 0, .int s] (sh_ i0 i1 ex) mu nu (cQ (.int (sp_say z0 s).1) mu) := by
  have out : ¬ (33 ≤ s ∧ s ≤ 126) → (sp_say z0 s).1 = -2 := fun q => by unfold sp_say; rw [if_neg q]
  refine pm_enterN 0 (by exact okX10_say) rfl ?_; dsimp only [pm_la, pm_cat2, List.replicate, List.cons_append, List.nil_append, List.append_nil]
  refine pm_go 9999 (by exact okX10_say) rfl ?_; (try dsimp only [pm_st1, pm_st2, pm_cat2, pm_la, Option.toList, List.cons_append, List.nil_append])
  refine pm_ilt (by exact okX10_say) rfl (fun h1 => ?_) (fun h1 => ?_)
  · rw [out (fun q => absurd q.1 (Int32.not_le.mpr h1))]
    refine pm_go 9999 (by exact okX10_say) rfl ?_; (try dsimp only [pm_st1, pm_st2, pm_cat2, pm_la, Option.toList, List.cons_append, List.nil_append])
    refine pm_ri (by exact okX10_say) rfl rfl rfl (Nat.le_refl _) (Nat.le_refl _) (⟨rfl, ⟨_, _, _, rfl⟩, fX.rf⟩)
  · refine pm_go 9999 (by exact okX10_say) rfl ?_; (try dsimp only [pm_st1, pm_st2, pm_cat2, pm_la, Option.toList, List.cons_append, List.nil_append])
    refine pm_ile (by exact okX10_say) rfl (fun h2 => ?_) (fun h2 => ?_)
    · have e : (sp_say z0 s).1 = 1 := by unfold sp_say; rw [if_pos ⟨Int32.not_lt.mp h1, h2⟩, if_neg (by decide)]; rfl
      rw [e]
      refine pm_go 9999 (by exact okX10_say) rfl ?_; (try dsimp only [pm_st1, pm_st2, pm_cat2, pm_la, Option.toList, List.cons_append, List.nil_append])
      refine pm_cv (by exact okX10_say) (by exact okX7_write) rfl (by exact arX7_write) (t_write (d := 0) s h) rfl rfl rfl (by dsimp only; omega) rfl (Nat.le_of_ble_eq_true rfl) ⟨Nat.zero_le _, Nat.zero_le _⟩ ?_
      rintro _ _ mu1 nu1 ⟨rfl, rfl, g0, g1⟩ -
      refine pm_go 9999 (by exact okX10_say) rfl ?_; (try dsimp only [pm_st1, pm_st2, pm_cat2, pm_la, Option.toList, List.cons_append, List.nil_append])
      refine pm_zne (by exact okX10_say) rfl (fun h3 => ?_) (fun h3 => ?_)
      · refine pm_go 9999 (by exact okX10_say) rfl ?_; (try dsimp only [pm_st1, pm_st2, pm_cat2, pm_la, Option.toList, List.cons_append, List.nil_append])
        refine pm_cv (by exact okX10_say) (by exact okX10_dropAnswers) rfl (by exact arX10_dropAnswers) (t_drop (d := 0)) rfl rfl rfl (by dsimp only; omega) rfl (Nat.le_of_ble_eq_true rfl) ⟨Nat.zero_le _, Nat.zero_le _⟩ ?_
        rintro _ _ mu2 nu2 ⟨rfl, rfl, g2⟩ -
        refine pm_go 9999 (by exact okX10_say) rfl ?_; (try dsimp only [pm_st1, pm_st2, pm_cat2, pm_la, Option.toList, List.cons_append, List.nil_append])
        rw [show mu2 1 0 = 1 by rw [g2 1 (by omega) (by omega)]; exact g0]
        refine pm_ri (by exact okX10_say) rfl rfl rfl (Nat.le_refl _) (Nat.le_refl _) (⟨rfl, ⟨_, _, _, rfl⟩, fun a q1 q2 => by rw [g2 a (by omega) (by omega), g1 a (by omega) (by omega)]⟩)
      · exact absurd h3 (by decide)
    · rw [out (fun q => h2 q.2)]
      refine pm_go 9999 (by exact okX10_say) rfl ?_; (try dsimp only [pm_st1, pm_st2, pm_cat2, pm_la, Option.toList, List.cons_append, List.nil_append])
      refine pm_ri (by exact okX10_say) rfl rfl rfl (Nat.le_refl _) (Nat.le_refl _) (⟨rfl, ⟨_, _, _, rfl⟩, fX.rf⟩)
set_option maxRecDepth 100000 in
set_option maxHeartbeats 1000000 in
theorem P_wipe (h : X0 mu) (hd : 1 ≤ d) : pm_T cx mX10_wipe d 0 0 [.ref 0] (sh_ i0 i1 ex) mu nu (cQ (.int (nI z0.2.1.length)) mu) := by
  have p1 : mu 1 0 = 0 := h.2.1.1
  refine pm_enterN 1 (by exact okX10_wipe) rfl ?_; dsimp only [pm_la, pm_cat2, List.replicate, List.cons_append, List.nil_append, List.append_nil]
  refine pm_go 9999 (by exact okX10_wipe) rfl ?_; (try dsimp only [pm_st1, pm_st2, pm_cat2, pm_la, Option.toList, List.cons_append, List.nil_append])
  refine pm_cv (by exact okX10_wipe) (by exact okX10_dropAnswers) rfl (by exact arX10_dropAnswers) (t_drop (d := 0)) rfl rfl rfl (by dsimp only; omega) rfl (Nat.le_of_ble_eq_true rfl) ⟨Nat.zero_le _, Nat.zero_le _⟩ ?_
  rintro _ _ mu2 nu2 ⟨rfl, rfl, g2⟩ -
  refine pm_go 9999 (by exact okX10_wipe) rfl ?_; (try dsimp only [pm_st1, pm_st2, pm_cat2, pm_la, Option.toList, List.cons_append, List.nil_append])
  rw [p1]
  refine pm_ri (by exact okX10_wipe) rfl rfl rfl (Nat.le_refl _) (Nat.le_refl _) (⟨rfl, ⟨_, _, _, rfl⟩, fun a q1 q2 => by rw [g2 a (by omega) (by omega), pm_up_ne (by omega)]⟩)
end

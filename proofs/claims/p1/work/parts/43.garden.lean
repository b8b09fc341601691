/-! ===== the class's garden: what its cells hold ===== -/
def nP (o : Option Nat) : Int32 := match o with
  | none => -1
  | some b => nI b
/-- a garden object at cell k, its five rows behind it -/
def XGo (k : Nat) (g : gS) (mu : pm_I) : Prop :=
  mu k 0 = nI (gB g) ∧ mu k 1 = nI (gL g) ∧ mu k 2 = nI (gG g) ∧ mu k 3 = nI (gW g) ∧ mu k 4 = nI (st_k (gR g) (gM g)) ∧ mu k 5 = nI (gV g).length ∧ (∀ b, b < 6 → mu (k + 1) b = nI (gC g b)) ∧ (∀ b, b < 6 → mu (k + 2) b = nP (gP g b)) ∧ (∀ j b, (gK g)[j]? = some b → mu (k + 3) j = nI b) ∧ (∀ j q, (gV g)[j]? = some q → mu (k + 4) j = nI q.1 ∧ mu (k + 5) j = nI q.2)
theorem XGo.same {k : Nat} {g : gS} {mu mu' : pm_I} (h : XGo k g mu) (he : ∀ j, j < 6 → mu' (k + j) = mu (k + j)) : XGo k g mu' := by
  unfold XGo at h ⊢
  have e0 : mu' k = mu k := he 0 (by omega)
  rw [e0, he 1 (by omega), he 2 (by omega), he 3 (by omega), he 4 (by omega), he 5 (by omega)]
  exact h
theorem nP_m1 {o : Option Nat} (h : ∀ b, o = some b → b < 6) : nP o = -1 ↔ o = none := by
  cases o with
  | none => exact ⟨fun _ => rfl, fun _ => rfl⟩
  | some b =>
    constructor
    · intro q
      exact absurd q (nI_ne_m (Nat.lt_trans (h b rfl) (by omega))).1
    · intro q; cases q
section
variable {cx : pm_CX} {d n0 : Nat} {i0 i1 : Option Nat} {ex : List pm_C} {mu : pm_I} {nu : pm_J}
set_option maxRecDepth 100000 in
set_option maxHeartbeats 1000000 in
theorem C_isBed {B : Nat} (b : Int32) (hB : mu 3 0 = nI B) (hB6 : B ≤ 6) : pm_T cx mX2_isBed d 0 0 [.ref 3, .int b] (sh_ i0 i1 ex) mu nu (pm_ret (some (.int (bI (isB B b)))) (sh_ i0 i1 ex) mu nu) := by
  refine pm_enterN 0 (by exact okX2_isBed) rfl ?_; dsimp only [pm_la, pm_cat2, List.replicate, List.cons_append, List.nil_append, List.append_nil]
  refine pm_go 9999 (by exact okX2_isBed) rfl ?_; (try dsimp only [pm_st1, pm_st2, pm_cat2, pm_la, Option.toList, List.cons_append, List.nil_append])
  refine pm_zlt (by exact okX2_isBed) rfl (fun h1 => ?_) (fun h1 => ?_)
  · refine pm_go 9999 (by exact okX2_isBed) rfl ?_; (try dsimp only [pm_st1, pm_st2, pm_cat2, pm_la, Option.toList, List.cons_append, List.nil_append])
    refine pm_ri (by exact okX2_isBed) rfl rfl rfl (Nat.le_refl _) (Nat.le_refl _) (⟨by rw [bI_0 (fun q => absurd h1 (by have := q.1; exact Int32.not_lt.mpr this))], rfl, rfl, rfl⟩)
  · refine pm_go 9999 (by exact okX2_isBed) rfl ?_; (try dsimp only [pm_st1, pm_st2, pm_cat2, pm_la, Option.toList, List.cons_append, List.nil_append])
    rw [hB]
    refine pm_ige (by exact okX2_isBed) rfl (fun h2 => ?_) (fun h2 => ?_)
    · refine pm_go 9999 (by exact okX2_isBed) rfl ?_; (try dsimp only [pm_st1, pm_st2, pm_cat2, pm_la, Option.toList, List.cons_append, List.nil_append])
      refine pm_ri (by exact okX2_isBed) rfl rfl rfl (Nat.le_refl _) (Nat.le_refl _) (⟨by rw [bI_0 (fun q => absurd q.2 (Int32.not_lt.mpr h2))], rfl, rfl, rfl⟩)
    · refine pm_go 9999 (by exact okX2_isBed) rfl ?_; (try dsimp only [pm_st1, pm_st2, pm_cat2, pm_la, Option.toList, List.cons_append, List.nil_append])
      refine pm_ige (by exact okX2_isBed) rfl (fun h3 => ?_) (fun h3 => ?_)
      · exfalso
        have h4 := le_toInt.mp h3
        have h5 := lt_toInt.mp (Int32.not_le.mp h2)
        rw [nI_toInt (by omega)] at h5
        have h6 : (6 : Int32).toInt = 6 := rfl
        omega
      · refine pm_go 9999 (by exact okX2_isBed) rfl ?_; (try dsimp only [pm_st1, pm_st2, pm_cat2, pm_la, Option.toList, List.cons_append, List.nil_append])
        refine pm_ri (by exact okX2_isBed) rfl rfl rfl (Nat.le_refl _) (Nat.le_refl _) (⟨by rw [bI_1 ⟨Int32.not_lt.mp h1, Int32.not_le.mp h2⟩], rfl, rfl, rfl⟩)
set_option maxRecDepth 100000 in
set_option maxHeartbeats 1000000 in
theorem C_pastOf {g : gS} {b : Nat} (hg : gOK g) (h : XGo 3 g mu) (hb : b < 6) (hd : 1 ≤ d) : pm_T cx mX2_pastOf d 0 0 [.ref 3, .int (nI b)] (sh_ i0 i1 ex) mu nu (pm_ret (some (.int (nO (gP g b)))) (sh_ i0 i1 ex) mu nu) := by
  obtain ⟨a1, a2, a3, a4, a5, a6, b1, b2, b3, b4⟩ := id h
  obtain ⟨⟨g1, g2⟩, g3, g4, g5, g6, g7, g8, g9, g10, g11⟩ := id hg
  have hp : mu 5 b = nP (gP g b) := b2 b hb
  refine pm_enterN 0 (by exact okX2_pastOf) rfl ?_; dsimp only [pm_la, pm_cat2, List.replicate, List.cons_append, List.nil_append, List.append_nil]
  refine pm_go 9999 (by exact okX2_pastOf) rfl ?_; (try dsimp only [pm_st1, pm_st2, pm_cat2, pm_la, Option.toList, List.cons_append, List.nil_append])
  refine pm_cv (by exact okX2_pastOf) (by exact okX2_isBed) rfl (by exact arX2_isBed) (C_isBed (d := 0) (nI b) a1 g2) rfl rfl rfl (by dsimp only; omega) rfl (Nat.le_of_ble_eq_true rfl) ⟨Nat.zero_le _, Nat.zero_le _⟩ ?_
  rintro _ _ _ _ ⟨rfl, rfl, rfl, rfl⟩ -
  refine pm_go 9999 (by exact okX2_pastOf) rfl ?_; (try dsimp only [pm_st1, pm_st2, pm_cat2, pm_la, Option.toList, List.cons_append, List.nil_append])
  refine pm_zeq (by exact okX2_pastOf) rfl (fun h1 => ?_) (fun h1 => ?_)
  · have h1 := bI_z.mp h1
    have e : gP g b = none := by
      cases hh : gP g b with
      | none => rfl
      | some o => exact absurd (isB_in g2 (g7 b o hb hh).1) h1
    refine pm_go 9999 (by exact okX2_pastOf) rfl ?_; (try dsimp only [pm_st1, pm_st2, pm_cat2, pm_la, Option.toList, List.cons_append, List.nil_append])
    refine pm_ri (by exact okX2_pastOf) rfl rfl rfl (Nat.le_refl _) (Nat.le_refl _) (⟨by rw [e]; rfl, rfl, rfl, rfl⟩)
  · refine pm_go 9999 (by exact okX2_pastOf) rfl ?_; (try dsimp only [pm_st1, pm_st2, pm_cat2, pm_la, Option.toList, List.cons_append, List.nil_append])
    refine pm_ial (by exact okX2_pastOf) rfl rfl (vp_in_nI (by omega) (by omega)) ?_
    refine pm_go 9999 (by exact okX2_pastOf) rfl ?_; (try dsimp only [pm_st1, pm_st2, pm_cat2, pm_la, Option.toList, List.cons_append, List.nil_append])
    rw [nI_clamp (by omega), hp]
    have hm := nP_m1 (o := gP g b) (fun o ho => by have := (g7 b o hb ho).2; omega)
    refine pm_ieq (by exact okX2_pastOf) rfl (fun h2 => ?_) (fun h2 => ?_)
    · refine pm_go 9999 (by exact okX2_pastOf) rfl ?_; (try dsimp only [pm_st1, pm_st2, pm_cat2, pm_la, Option.toList, List.cons_append, List.nil_append])
      refine pm_ri (by exact okX2_pastOf) rfl rfl rfl (Nat.le_refl _) (Nat.le_refl _) (⟨by rw [hm.mp h2]; rfl, rfl, rfl, rfl⟩)
    · refine pm_go 9999 (by exact okX2_pastOf) rfl ?_; (try dsimp only [pm_st1, pm_st2, pm_cat2, pm_la, Option.toList, List.cons_append, List.nil_append])
      refine pm_ial (by exact okX2_pastOf) rfl rfl (vp_in_nI (by omega) (by omega)) ?_
      refine pm_go 9999 (by exact okX2_pastOf) rfl ?_; (try dsimp only [pm_st1, pm_st2, pm_cat2, pm_la, Option.toList, List.cons_append, List.nil_append])
      rw [nI_clamp (by omega), hp]
      refine pm_ri (by exact okX2_pastOf) rfl rfl rfl (Nat.le_refl _) (Nat.le_refl _) (⟨by cases hh : gP g b with | none => exact absurd (hm.mpr hh) h2 | some o => rfl, rfl, rfl, rfl⟩)
set_option maxRecDepth 100000 in
set_option maxHeartbeats 1000000 in
theorem C_whyNotWater {g : gS} {r : List Nat} {s b : Nat} (hg : gOK g) (h : XGo 3 g mu) (hR : rOK (gB g) r s) (hb : b < 6) (hd : 2 ≤ d) : pm_T cx mX2_whyNotWater d 0 0 [.ref 3, .int (nI (st_k r s)), .int (nI b)] (sh_ i0 i1 ex) mu nu (pm_ret (some (.int (nI (gd_wy (gG g) (gP g) r s b)))) (sh_ i0 i1 ex) mu nu) := by
  obtain ⟨a1, a2, a3, a4, a5, a6, b1, b2, b3, b4⟩ := id h
  obtain ⟨⟨g1, g2⟩, g3, g4, g5, g6, g7, g8, g9, g10, g11⟩ := id hg
  have hln := rOK_len hR g2
  refine pm_enterN 1 (by exact okX2_whyNotWater) rfl ?_; dsimp only [pm_la, pm_cat2, List.replicate, List.cons_append, List.nil_append, List.append_nil]
  refine pm_go 9999 (by exact okX2_whyNotWater) rfl ?_; (try dsimp only [pm_st1, pm_st2, pm_cat2, pm_la, Option.toList, List.cons_append, List.nil_append])
  refine pm_cs (by exact okX2_whyNotWater) (by exact okX8_hasBloomed) rfl (by exact arX8_hasBloomed) (t_hasBloomed (d := 0) hR g2 hb) rfl (by dsimp only; omega) rfl (Nat.le_of_ble_eq_true rfl) ⟨Nat.zero_le _, Nat.zero_le _⟩ ?_
  rintro _ _ _ _ ⟨rfl, rfl, rfl, rfl⟩ -
  refine pm_go 9999 (by exact okX2_whyNotWater) rfl ?_; (try dsimp only [pm_st1, pm_st2, pm_cat2, pm_la, Option.toList, List.cons_append, List.nil_append])
  refine pm_zeq (by exact okX2_whyNotWater) rfl (fun h1 => ?_) (fun h1 => ?_)
  · have h1 := bI_z.mp h1
    refine pm_go 9999 (by exact okX2_whyNotWater) rfl ?_; (try dsimp only [pm_st1, pm_st2, pm_cat2, pm_la, Option.toList, List.cons_append, List.nil_append])
    refine pm_cs (by exact okX2_whyNotWater) (by exact okX8_isInRow) rfl (by exact arX8_isInRow) (t_isInRow (d := 0) hR g2 hb) rfl (by dsimp only; omega) rfl (Nat.le_of_ble_eq_true rfl) ⟨Nat.zero_le _, Nat.zero_le _⟩ ?_
    rintro _ _ _ _ ⟨rfl, rfl, rfl, rfl⟩ -
    refine pm_go 9999 (by exact okX2_whyNotWater) rfl ?_; (try dsimp only [pm_st1, pm_st2, pm_cat2, pm_la, Option.toList, List.cons_append, List.nil_append])
    have rest : ¬ (b ∉ r ∧ gG g ≤ r.length) → pm_G cx (mX2_whyNotWater, d, 0, 0, (sh_ i0 i1 ex).length, pm_ret (some (.int (nI (gd_wy (gG g) (gP g) r s b)))) (sh_ i0 i1 ex) mu nu) 0 0 31 [some (.ref 3), some (.int (nI (st_k r s))), some (.int (nI b)), none] [] (sh_ i0 i1 ex) mu nu := by
      intro h2
      refine pm_go 9999 (by exact okX2_whyNotWater) rfl ?_; (try dsimp only [pm_st1, pm_st2, pm_cat2, pm_la, Option.toList, List.cons_append, List.nil_append])
      refine pm_cv (by exact okX2_whyNotWater) (by exact okX2_pastOf) rfl (by exact arX2_pastOf) (C_pastOf (d := 1) hg h hb (by omega)) rfl rfl rfl (by dsimp only; omega) rfl (Nat.le_of_ble_eq_true rfl) ⟨Nat.zero_le _, Nat.zero_le _⟩ ?_
      rintro _ _ _ _ ⟨rfl, rfl, rfl, rfl⟩ -
      refine pm_go 9999 (by exact okX2_whyNotWater) rfl ?_; (try dsimp only [pm_st1, pm_st2, pm_cat2, pm_la, Option.toList, List.cons_append, List.nil_append])
      cases hh : gP g b with
      | none =>
        refine pm_ieq (by exact okX2_whyNotWater) rfl (fun h3 => ?_) (fun h3 => ?_)
        · refine pm_go 9999 (by exact okX2_whyNotWater) rfl ?_; (try dsimp only [pm_st1, pm_st2, pm_cat2, pm_la, Option.toList, List.cons_append, List.nil_append])
          refine pm_ri (by exact okX2_whyNotWater) rfl rfl rfl (Nat.le_refl _) (Nat.le_refl _) (⟨by rw [gd_wyn h1 h2 hh]; rfl, rfl, rfl, rfl⟩)
        · exact absurd rfl h3
      | some o =>
        have ho := (g7 b o hb hh).2
        rw [nO_some]
        refine pm_ieq (by exact okX2_whyNotWater) rfl (fun h3 => ?_) (fun h3 => ?_)
        · exact absurd h3 (nI_ne_m (by omega)).2
        · refine pm_go 9999 (by exact okX2_whyNotWater) rfl ?_; (try dsimp only [pm_st1, pm_st2, pm_cat2, pm_la, Option.toList, List.cons_append, List.nil_append])
          refine pm_cs (by exact okX2_whyNotWater) (by exact okX8_isInRow) rfl (by exact arX8_isInRow) (t_isInRow (d := 0) hR g2 (by omega)) rfl (by dsimp only; omega) rfl (Nat.le_of_ble_eq_true rfl) ⟨Nat.zero_le _, Nat.zero_le _⟩ ?_
          rintro _ _ _ _ ⟨rfl, rfl, rfl, rfl⟩ -
          refine pm_go 9999 (by exact okX2_whyNotWater) rfl ?_; (try dsimp only [pm_st1, pm_st2, pm_cat2, pm_la, Option.toList, List.cons_append, List.nil_append])
          refine pm_zne (by exact okX2_whyNotWater) rfl (fun h4 => ?_) (fun h4 => ?_)
          · have h4 := bI_n.mp h4
            refine pm_go 9999 (by exact okX2_whyNotWater) rfl ?_; (try dsimp only [pm_st1, pm_st2, pm_cat2, pm_la, Option.toList, List.cons_append, List.nil_append])
            refine pm_ri (by exact okX2_whyNotWater) rfl rfl rfl (Nat.le_refl _) (Nat.le_refl _) (⟨by rw [gd_wy0 h1 h2 hh (Or.inl h4)]; rfl, rfl, rfl, rfl⟩)
          · have h4 := bI_z.mp h4
            refine pm_go 9999 (by exact okX2_whyNotWater) rfl ?_; (try dsimp only [pm_st1, pm_st2, pm_cat2, pm_la, Option.toList, List.cons_append, List.nil_append])
            refine pm_cs (by exact okX2_whyNotWater) (by exact okX8_hasBloomed) rfl (by exact arX8_hasBloomed) (t_hasBloomed (d := 0) hR g2 (by omega)) rfl (by dsimp only; omega) rfl (Nat.le_of_ble_eq_true rfl) ⟨Nat.zero_le _, Nat.zero_le _⟩ ?_
            rintro _ _ _ _ ⟨rfl, rfl, rfl, rfl⟩ -
            refine pm_go 9999 (by exact okX2_whyNotWater) rfl ?_; (try dsimp only [pm_st1, pm_st2, pm_cat2, pm_la, Option.toList, List.cons_append, List.nil_append])
            refine pm_zeq (by exact okX2_whyNotWater) rfl (fun h5 => ?_) (fun h5 => ?_)
            · have h5 := bI_z.mp h5
              refine pm_go 9999 (by exact okX2_whyNotWater) rfl ?_; (try dsimp only [pm_st1, pm_st2, pm_cat2, pm_la, Option.toList, List.cons_append, List.nil_append])
              refine pm_ri (by exact okX2_whyNotWater) rfl rfl rfl (Nat.le_refl _) (Nat.le_refl _) (⟨by rw [gd_wy3 h1 h2 hh h4 h5]; rfl, rfl, rfl, rfl⟩)
            · have h5 := bI_n.mp h5
              refine pm_go 9999 (by exact okX2_whyNotWater) rfl ?_; (try dsimp only [pm_st1, pm_st2, pm_cat2, pm_la, Option.toList, List.cons_append, List.nil_append])
              refine pm_ri (by exact okX2_whyNotWater) rfl rfl rfl (Nat.le_refl _) (Nat.le_refl _) (⟨by rw [gd_wy0 h1 h2 hh (Or.inr h5)]; rfl, rfl, rfl, rfl⟩)
    refine pm_zne (by exact okX2_whyNotWater) rfl (fun h2 => ?_) (fun h2 => ?_)
    · have h2 := bI_n.mp h2
      exact rest (fun q => q.1 h2)
    · have h2 := bI_z.mp h2
      refine pm_go 9999 (by exact okX2_whyNotWater) rfl ?_; (try dsimp only [pm_st1, pm_st2, pm_cat2, pm_la, Option.toList, List.cons_append, List.nil_append])
      refine pm_cs (by exact okX2_whyNotWater) (by exact okX8_length) rfl (by exact arX8_length) (t_length (d := 1) hR g2 (by omega)) rfl (by dsimp only; omega) rfl (Nat.le_of_ble_eq_true rfl) ⟨Nat.zero_le _, Nat.zero_le _⟩ ?_
      rintro _ _ _ _ ⟨rfl, rfl, rfl, rfl⟩ -
      refine pm_go 9999 (by exact okX2_whyNotWater) rfl ?_; (try dsimp only [pm_st1, pm_st2, pm_cat2, pm_la, Option.toList, List.cons_append, List.nil_append])
      rw [a3]
      refine pm_ilt (by exact okX2_whyNotWater) rfl (fun h3 => ?_) (fun h3 => ?_)
      · have h3 := (nI_ltI (by omega) (by omega)).mp h3
        exact rest (fun q => by have := q.2; omega)
      · have h3 : ¬ r.length < gG g := fun q => h3 (nI_lt q (by omega))
        refine pm_go 9999 (by exact okX2_whyNotWater) rfl ?_; (try dsimp only [pm_st1, pm_st2, pm_cat2, pm_la, Option.toList, List.cons_append, List.nil_append])
        refine pm_ri (by exact okX2_whyNotWater) rfl rfl rfl (Nat.le_refl _) (Nat.le_refl _) (⟨by rw [gd_wy2 h1 ⟨h2, by omega⟩]; rfl, rfl, rfl, rfl⟩)
  · have h1 := bI_n.mp h1
    refine pm_go 9999 (by exact okX2_whyNotWater) rfl ?_; (try dsimp only [pm_st1, pm_st2, pm_cat2, pm_la, Option.toList, List.cons_append, List.nil_append])
    refine pm_ri (by exact okX2_whyNotWater) rfl rfl rfl (Nat.le_refl _) (Nat.le_refl _) (⟨by rw [gd_wy1 h1]; rfl, rfl, rfl, rfl⟩)
set_option maxRecDepth 100000 in
set_option maxHeartbeats 1000000 in
theorem C_nextPlace {law B : Nat} {r : List Nat} {s : Nat} (hL : mu 3 1 = nI law) (hlaw : law ≤ 2) (hB : B ≤ 6) (hR : rOK B r s) (hne : r ≠ []) (hd : 2 ≤ d) : pm_T cx mX2_nextPlace d 0 0 [.ref 3, .int (nI (st_k r s))] (sh_ i0 i1 ex) mu nu (pm_ret (some (.int (nI (r.length - 1 - gd_bh law r.length)))) (sh_ i0 i1 ex) mu nu) := by
  have hln := rOK_len hR hB
  have hpos : 0 < r.length := List.length_pos_iff.mpr hne
  have hmax : ∀ (n k p : Nat), 1 ≤ n → n ≤ 6 → k = 1 ∨ k = 3 → p = n - k → (if (0 : Int32) < nI n - nI k then nI n - nI k else 0) = nI p := by
    intro n k p h1 h2 h3 h4
    subst h4
    have : ∀ n, n < 7 → ∀ k, k < 4 → (if (0 : Int32) < nI n - nI k then nI n - nI k else 0) = nI (n - k) := by decide +kernel
    exact this n (by omega) k (by omega)
  refine pm_enterN 1 (by exact okX2_nextPlace) rfl ?_; dsimp only [pm_la, pm_cat2, List.replicate, List.cons_append, List.nil_append, List.append_nil]
  refine pm_go 9999 (by exact okX2_nextPlace) rfl ?_; (try dsimp only [pm_st1, pm_st2, pm_cat2, pm_la, Option.toList, List.cons_append, List.nil_append])
  rw [hL]
  refine pm_ine (by exact okX2_nextPlace) rfl (fun h1 => ?_) (fun h1 => ?_)
  · refine pm_go 9999 (by exact okX2_nextPlace) rfl ?_; (try dsimp only [pm_st1, pm_st2, pm_cat2, pm_la, Option.toList, List.cons_append, List.nil_append])
    rw [hL]
    refine pm_zne (by exact okX2_nextPlace) rfl (fun h2 => ?_) (fun h2 => ?_)
    · have e : law = 2 := by
        rcases (show law = 0 ∨ law = 1 ∨ law = 2 by omega) with q | q | q
        · subst q; exact absurd rfl h2
        · subst q; exact absurd rfl h1
        · exact q
      subst e
      refine pm_go 9999 (by exact okX2_nextPlace) rfl ?_; (try dsimp only [pm_st1, pm_st2, pm_cat2, pm_la, Option.toList, List.cons_append, List.nil_append])
      refine pm_cs (by exact okX2_nextPlace) (by exact okX8_length) rfl (by exact arX8_length) (t_length (d := 1) hR hB (by omega)) rfl (by dsimp only; omega) rfl (Nat.le_of_ble_eq_true rfl) ⟨Nat.zero_le _, Nat.zero_le _⟩ ?_
      rintro _ _ _ _ ⟨rfl, rfl, rfl, rfl⟩ -
      refine pm_go 9999 (by exact okX2_nextPlace) rfl ?_; (try dsimp only [pm_st1, pm_st2, pm_cat2, pm_la, Option.toList, List.cons_append, List.nil_append])
      refine pm_mmax (by exact okX2_nextPlace) rfl (by dsimp only; omega) (Nat.le_of_ble_eq_true rfl) ⟨Nat.zero_le _, Nat.zero_le _⟩ ?_
      rw [show (3 : Int32) = nI 3 from rfl, hmax r.length 3 (r.length - 1 - gd_bh 2 r.length) hpos hln (Or.inr rfl) (by unfold gd_bh; rw [if_neg (by omega), if_neg (by omega)]; split <;> omega)]
      refine pm_go 9999 (by exact okX2_nextPlace) rfl ?_; (try dsimp only [pm_st1, pm_st2, pm_cat2, pm_la, Option.toList, List.cons_append, List.nil_append])
      refine pm_ri (by exact okX2_nextPlace) rfl rfl rfl (Nat.le_refl _) (Nat.le_refl _) (⟨rfl, rfl, rfl, rfl⟩)
    · have e : law = 0 := by
        rcases (show law = 0 ∨ law = 1 ∨ law = 2 by omega) with q | q | q
        · exact q
        · subst q; exact absurd rfl h1
        · subst q; exact absurd h2 (by decide)
      subst e
      refine pm_go 9999 (by exact okX2_nextPlace) rfl ?_; (try dsimp only [pm_st1, pm_st2, pm_cat2, pm_la, Option.toList, List.cons_append, List.nil_append])
      refine pm_cs (by exact okX2_nextPlace) (by exact okX8_length) rfl (by exact arX8_length) (t_length (d := 1) hR hB (by omega)) rfl (by dsimp only; omega) rfl (Nat.le_of_ble_eq_true rfl) ⟨Nat.zero_le _, Nat.zero_le _⟩ ?_
      rintro _ _ _ _ ⟨rfl, rfl, rfl, rfl⟩ -
      refine pm_go 9999 (by exact okX2_nextPlace) rfl ?_; (try dsimp only [pm_st1, pm_st2, pm_cat2, pm_la, Option.toList, List.cons_append, List.nil_append])
      refine pm_mmax (by exact okX2_nextPlace) rfl (by dsimp only; omega) (Nat.le_of_ble_eq_true rfl) ⟨Nat.zero_le _, Nat.zero_le _⟩ ?_
      rw [show (1 : Int32) = nI 1 from rfl, hmax r.length 1 (r.length - 1 - gd_bh 0 r.length) hpos hln (Or.inl rfl) (by unfold gd_bh; rw [if_pos rfl]; omega)]
      refine pm_go 9999 (by exact okX2_nextPlace) rfl ?_; (try dsimp only [pm_st1, pm_st2, pm_cat2, pm_la, Option.toList, List.cons_append, List.nil_append])
      refine pm_ri (by exact okX2_nextPlace) rfl rfl rfl (Nat.le_refl _) (Nat.le_refl _) (⟨rfl, rfl, rfl, rfl⟩)
  · have e : law = 1 := (nI_eq (a := law) (b := 1) (by omega) (by omega)).mp h1
    subst e
    refine pm_go 9999 (by exact okX2_nextPlace) rfl ?_; (try dsimp only [pm_st1, pm_st2, pm_cat2, pm_la, Option.toList, List.cons_append, List.nil_append])
    refine pm_ri (by exact okX2_nextPlace) rfl rfl rfl (Nat.le_refl _) (Nat.le_refl _) (⟨by unfold gd_bh; rw [if_neg (by omega), if_pos rfl, Nat.sub_self]; rfl, rfl, rfl, rfl⟩)
theorem nx_at {law : Nat} {r : List Nat} (hne : r ≠ []) : ∃ x, gd_nx law r = some x ∧ r.length - 1 - gd_bh law r.length < r.length ∧ r.getD (r.length - 1 - (r.length - 1 - gd_bh law r.length)) 0 = x := by
  have hpos : 0 < r.length := List.length_pos_iff.mpr hne
  have hlt := gd_bh_lt (law := law) hpos
  refine ⟨r[gd_bh law r.length], List.getElem?_eq_getElem hlt, by omega, ?_⟩
  rw [show r.length - 1 - (r.length - 1 - gd_bh law r.length) = gd_bh law r.length by omega, List.getD_eq_getElem?_getD, List.getElem?_eq_getElem hlt, Option.getD_some]
set_option maxRecDepth 100000 in
set_option maxHeartbeats 1000000 in
theorem C_nextBed {law B : Nat} {r : List Nat} {s : Nat} (hL : mu 3 1 = nI law) (hlaw : law ≤ 2) (hB : B ≤ 6) (hR : rOK B r s) (hd : 3 ≤ d) : pm_T cx mX2_nextBed d 0 0 [.ref 3, .int (nI (st_k r s))] (sh_ i0 i1 ex) mu nu (pm_ret (some (.int (nO (gd_nx law r)))) (sh_ i0 i1 ex) mu nu) := by
  have hln := rOK_len hR hB
  have hk := st_k_lt hR hB
  refine pm_enterN 0 (by exact okX2_nextBed) rfl ?_; dsimp only [pm_la, pm_cat2, List.replicate, List.cons_append, List.nil_append, List.append_nil]
  refine pm_go 9999 (by exact okX2_nextBed) rfl ?_; (try dsimp only [pm_st1, pm_st2, pm_cat2, pm_la, Option.toList, List.cons_append, List.nil_append])
  refine pm_cs (by exact okX2_nextBed) (by exact okX8_length) rfl (by exact arX8_length) (t_length (d := 1) hR hB (by omega)) rfl (by dsimp only; omega) rfl (Nat.le_of_ble_eq_true rfl) ⟨Nat.zero_le _, Nat.zero_le _⟩ ?_
  rintro _ _ _ _ ⟨rfl, rfl, rfl, rfl⟩ -
  refine pm_go 9999 (by exact okX2_nextBed) rfl ?_; (try dsimp only [pm_st1, pm_st2, pm_cat2, pm_la, Option.toList, List.cons_append, List.nil_append])
  refine pm_zne (by exact okX2_nextBed) rfl (fun h1 => ?_) (fun h1 => ?_)
  · have hne : r ≠ [] := fun q => h1 (by rw [q]; rfl)
    obtain ⟨x, hx, hp, hg⟩ := nx_at (law := law) hne
    refine pm_go 9999 (by exact okX2_nextBed) rfl ?_; (try dsimp only [pm_st1, pm_st2, pm_cat2, pm_la, Option.toList, List.cons_append, List.nil_append])
    refine pm_cv (by exact okX2_nextBed) (by exact okX2_nextPlace) rfl (by exact arX2_nextPlace) (C_nextPlace (d := 2) hL hlaw hB hR hne (by omega)) rfl rfl rfl (by dsimp only; omega) rfl (Nat.le_of_ble_eq_true rfl) ⟨Nat.zero_le _, Nat.zero_le _⟩ ?_
    rintro _ _ _ _ ⟨rfl, rfl, rfl, rfl⟩ -
    refine pm_go 9999 (by exact okX2_nextBed) rfl ?_; (try dsimp only [pm_st1, pm_st2, pm_cat2, pm_la, Option.toList, List.cons_append, List.nil_append])
    refine pm_cs (by exact okX2_nextBed) (by exact okX8_bedAt) rfl (by exact arX8_bedAt) (t_bedAt (d := 1) (n := st_k r s) (p := r.length - 1 - gd_bh law r.length) (by omega) (by omega) (by omega)) rfl (by dsimp only; omega) rfl (Nat.le_of_ble_eq_true rfl) ⟨Nat.zero_le _, Nat.zero_le _⟩ ?_
    rintro _ _ _ _ ⟨rfl, rfl, rfl, rfl⟩ -
    rw [st_at hR hB hp, hg]
    refine pm_go 9999 (by exact okX2_nextBed) rfl ?_; (try dsimp only [pm_st1, pm_st2, pm_cat2, pm_la, Option.toList, List.cons_append, List.nil_append])
    refine pm_ri (by exact okX2_nextBed) rfl rfl rfl (Nat.le_refl _) (Nat.le_refl _) (⟨by rw [hx]; rfl, rfl, rfl, rfl⟩)
  · have hne : r = [] := by
      have := (nI_eq (a := r.length) (b := 0) (by omega) (by omega)).mp h1
      exact List.length_eq_zero_iff.mp this
    subst hne
    refine pm_go 9999 (by exact okX2_nextBed) rfl ?_; (try dsimp only [pm_st1, pm_st2, pm_cat2, pm_la, Option.toList, List.cons_append, List.nil_append])
    refine pm_ri (by exact okX2_nextBed) rfl rfl rfl (Nat.le_refl _) (Nat.le_refl _) (⟨rfl, rfl, rfl, rfl⟩)
set_option maxRecDepth 100000 in
set_option maxHeartbeats 1000000 in
theorem C_afterMorning {law B : Nat} {r : List Nat} {s : Nat} (hL : mu 3 1 = nI law) (hlaw : law ≤ 2) (hB : B ≤ 6) (hR : rOK B r s) (hd : 3 ≤ d) : pm_T cx mX2_afterMorning d 0 0 [.ref 3, .int (nI (st_k r s))] (sh_ i0 i1 ex) mu nu (pm_ret (some (.int (nI (st_k (gd_mo law r s).1 (gd_mo law r s).2)))) (sh_ i0 i1 ex) mu nu) := by
  have hln := rOK_len hR hB
  have hk := st_k_lt hR hB
  refine pm_enterN 0 (by exact okX2_afterMorning) rfl ?_; dsimp only [pm_la, pm_cat2, List.replicate, List.cons_append, List.nil_append, List.append_nil]
  refine pm_go 9999 (by exact okX2_afterMorning) rfl ?_; (try dsimp only [pm_st1, pm_st2, pm_cat2, pm_la, Option.toList, List.cons_append, List.nil_append])
  refine pm_cs (by exact okX2_afterMorning) (by exact okX8_length) rfl (by exact arX8_length) (t_length (d := 1) hR hB (by omega)) rfl (by dsimp only; omega) rfl (Nat.le_of_ble_eq_true rfl) ⟨Nat.zero_le _, Nat.zero_le _⟩ ?_
  rintro _ _ _ _ ⟨rfl, rfl, rfl, rfl⟩ -
  refine pm_go 9999 (by exact okX2_afterMorning) rfl ?_; (try dsimp only [pm_st1, pm_st2, pm_cat2, pm_la, Option.toList, List.cons_append, List.nil_append])
  refine pm_zne (by exact okX2_afterMorning) rfl (fun h1 => ?_) (fun h1 => ?_)
  · have hne : r ≠ [] := fun q => h1 (by rw [q]; rfl)
    obtain ⟨x, hx, hp, hg⟩ := nx_at (law := law) hne
    refine pm_go 9999 (by exact okX2_afterMorning) rfl ?_; (try dsimp only [pm_st1, pm_st2, pm_cat2, pm_la, Option.toList, List.cons_append, List.nil_append])
    refine pm_cv (by exact okX2_afterMorning) (by exact okX2_nextPlace) rfl (by exact arX2_nextPlace) (C_nextPlace (d := 2) hL hlaw hB hR hne (by omega)) rfl rfl rfl (by dsimp only; omega) rfl (Nat.le_of_ble_eq_true rfl) ⟨Nat.zero_le _, Nat.zero_le _⟩ ?_
    rintro _ _ _ _ ⟨rfl, rfl, rfl, rfl⟩ -
    refine pm_go 9999 (by exact okX2_afterMorning) rfl ?_; (try dsimp only [pm_st1, pm_st2, pm_cat2, pm_la, Option.toList, List.cons_append, List.nil_append])
    refine pm_cs (by exact okX2_afterMorning) (by exact okX8_afterBloom) rfl (by exact arX8_afterBloom) (t_afterBloom (d := 2) hR hB hp hg (by omega)) rfl (by dsimp only; omega) rfl (Nat.le_of_ble_eq_true rfl) ⟨Nat.zero_le _, Nat.zero_le _⟩ ?_
    rintro _ _ _ _ ⟨rfl, rfl, rfl, rfl⟩ -
    refine pm_go 9999 (by exact okX2_afterMorning) rfl ?_; (try dsimp only [pm_st1, pm_st2, pm_cat2, pm_la, Option.toList, List.cons_append, List.nil_append])
    refine pm_ri (by exact okX2_afterMorning) rfl rfl rfl (Nat.le_refl _) (Nat.le_refl _) (⟨by unfold gd_mo; rw [hx], rfl, rfl, rfl⟩)
  · have hne : r = [] := by
      have := (nI_eq (a := r.length) (b := 0) (by omega) (by omega)).mp h1
      exact List.length_eq_zero_iff.mp this
    subst hne
    refine pm_go 9999 (by exact okX2_afterMorning) rfl ?_; (try dsimp only [pm_st1, pm_st2, pm_cat2, pm_la, Option.toList, List.cons_append, List.nil_append])
    refine pm_ri (by exact okX2_afterMorning) rfl rfl rfl (Nat.le_refl _) (Nat.le_refl _) (⟨rfl, rfl, rfl, rfl⟩)
end

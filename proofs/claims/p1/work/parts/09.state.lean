/-! ===== the garden as a mathematical value; what the reference's cells hold of it ===== -/
/-- ((BEDS, LAW, GATE, WET), COLOURS, PAST, THE ROW (last first), BLOOMED as bits, BLOOMED in its order, SIGHTS) -/
abbrev gS : Type := (Nat × Nat × Nat × Nat) × (Nat → Nat) × (Nat → Option Nat) × List Nat × Nat × List Nat × List (Nat × Nat)
abbrev gB (g : gS) : Nat := g.1.1
abbrev gL (g : gS) : Nat := g.1.2.1
abbrev gG (g : gS) : Nat := g.1.2.2.1
abbrev gW (g : gS) : Nat := g.1.2.2.2
abbrev gC (g : gS) : Nat → Nat := g.2.1
abbrev gP (g : gS) : Nat → Option Nat := g.2.2.1
abbrev gR (g : gS) : List Nat := g.2.2.2.1
abbrev gM (g : gS) : Nat := g.2.2.2.2.1
abbrev gK (g : gS) : List Nat := g.2.2.2.2.2.1
abbrev gV (g : gS) : List (Nat × Nat) := g.2.2.2.2.2.2
/-- from b on, k steps past others end -/
def gd_dd (pa : Nat → Option Nat) : Nat → Nat → Prop
  | 0, _ => False
  | k + 1, b => ∀ o, pa b = some o → gd_dd pa k o
/-- THE ROW and what has BLOOMED fit -/
def rOK (n : Nat) (r : List Nat) (s : Nat) : Prop := r.Nodup ∧ (∀ b ∈ r, b < n ∧ s.testBit b = false) ∧ s < 2 ^ n
def gOK (g : gS) : Prop :=
  (2 ≤ gB g ∧ gB g ≤ 6) ∧ gL g ≤ 2 ∧ (1 ≤ gG g ∧ gG g ≤ 6) ∧ gW g ≤ 10 ∧ (∀ b, b < 6 → gC g b ≤ 3) ∧ (∀ b o, b < 6 → gP g b = some o → b < gB g ∧ o < gB g) ∧ (∀ b, b < 6 → gd_dd (gP g) 6 b) ∧ rOK (gB g) (gR g) (gM g) ∧ ((gK g).Nodup ∧ ∀ b, (gM g).testBit b = true ↔ b ∈ gK g) ∧ ((gV g).length ≤ 6 ∧ ∀ q ∈ gV g, q.1 < 48 ∧ q.2 < gB g)
def dOK (pd : List Nat) : Prop := pd.length ≤ 48 ∧ ∀ c ∈ pd, 33 ≤ c ∧ c ≤ 126
def MR (g : gS) (pd : List Nat) (mu : pm_I) : Prop :=
  mu 19 0 = nI (gB g) ∧ mu 19 3 = nI (gL g) ∧ mu 19 4 = nI (gG g) ∧ mu 19 5 = nI (gW g) ∧ mu 19 6 = nI pd.length ∧ mu 19 8 = nI (md_r7 (gR g)) ∧ mu 19 9 = nI (gM g) ∧ mu 19 11 = nI (gK g).length ∧ mu 19 12 = nI (gV g).length ∧ (∀ b, b < 6 → mu 20 b = nI (gC g b)) ∧ (∀ b, b < 6 → mu 21 b = nO (gP g b)) ∧ (∀ k b, pd[k]? = some b → mu 22 k = nI b) ∧ (∀ k b, (gK g)[k]? = some b → mu 23 k = nI b) ∧ (∀ k q, (gV g)[k]? = some q → mu 24 (2 * k) = nI q.1 ∧ mu 24 (2 * k + 1) = nI q.2)
/-- an image of the reference -/
def MI (n : Nat) (o : Option gS) (mu : pm_I) : Prop := mu 39 n = bI (o.isSome = true) ∧ ∀ g, o = some g →
  (∀ b, b < 6 → mu 38 (42 * n + b) = nI (gC g b)) ∧ (∀ b, b < 6 → mu 38 (42 * n + 6 + b) = nO (gP g b)) ∧ (∀ k b, (gK g)[k]? = some b → mu 38 (42 * n + 12 + k) = nI b) ∧ (∀ k q, (gV g)[k]? = some q → mu 38 (42 * n + 18 + 2 * k) = nI q.1 ∧ mu 38 (42 * n + 18 + (2 * k + 1)) = nI q.2) ∧
  mu 38 (42 * n + 30) = nI (gB g) ∧ mu 38 (42 * n + 31) = nI (gL g) ∧ mu 38 (42 * n + 32) = nI (gG g) ∧ mu 38 (42 * n + 33) = nI (gW g) ∧ mu 38 (42 * n + 34) = nI (md_r7 (gR g)) ∧ mu 38 (42 * n + 35) = nI (gM g) ∧ mu 38 (42 * n + 36) = nI (gK g).length ∧ mu 38 (42 * n + 37) = nI (gV g).length
/-- all that the reference holds -/
abbrev mS : Type := gS × List Nat × Option gS × Option gS
def MA (z : mS) (mu : pm_I) : Prop := MR z.1 z.2.1 mu ∧ MI 0 z.2.2.1 mu ∧ MI 1 z.2.2.2 mu
def zOK (z : mS) : Prop := gOK z.1 ∧ dOK z.2.1 ∧ (∀ g, z.2.2.1 = some g → gOK g) ∧ ∀ g, z.2.2.2 = some g → gOK g
/-- the class's cells stay -/
def fM (mu mu' : pm_I) : Prop := ∀ k, k < 19 ∨ 40 ≤ k → mu' k = mu k
/-- what a call of the reference does: it answers v, and holds z -/
abbrev mQ (v : Value) (z : mS) (i0 i1 : Option Nat) (ex : List pm_C) (mu : pm_I) : pm_Po := fun r sg' mu' _ => r = some v ∧ sg' = sh_ i0 i1 ex ∧ MA z mu' ∧ fM mu mu'
theorem pm_up_app {mu : pm_I} {k j a b : Nat} {v : Int32} : pm_up mu k j v a b = if a = k then (if b = j then v else mu a b) else mu a b := by
  unfold pm_up upd
  by_cases h : a = k
  · subst h; simp
  · simp [h]
theorem pm_up_at {mu : pm_I} {k j : Nat} {v : Int32} : pm_up mu k j v k j = v := by rw [pm_up_app, if_pos rfl, if_pos rfl]
theorem pm_up_of {mu : pm_I} {k j b : Nat} {v : Int32} (h : b ≠ j) : pm_up mu k j v k b = mu k b := by rw [pm_up_app, if_pos rfl, if_neg h]
theorem pm_up_o {mu : pm_I} {k j a b : Nat} {v : Int32} (h : a ≠ k) : pm_up mu k j v a b = mu a b := by rw [pm_up_app, if_neg h]
theorem va_up_at {R : Type} {f : Nat → R} {k : Nat} {v : R} : va_up f k v k = v := if_pos rfl
theorem va_up_of {R : Type} {f : Nat → R} {k j : Nat} {v : R} (h : j ≠ k) : va_up f k v j = f j := if_neg h
theorem fM.rf {mu : pm_I} : fM mu mu := fun _ _ => rfl
theorem fM.up {mu mu' : pm_I} {k j : Nat} {v : Int32} (h : fM mu mu') (hk : 19 ≤ k ∧ k < 40) : fM mu (pm_up mu' k j v) := fun a ha => by
  rw [pm_up_ne (by omega)]
  exact h a ha
/-- MA speaks of these places alone -/
theorem MA.same {z : mS} {mu mu' : pm_I} (h : MA z mu) (h19 : ∀ j, j < 14 → mu' 19 j = mu 19 j) (h2 : ∀ k, 20 ≤ k → k < 25 → mu' k = mu k) (h38 : mu' 38 = mu 38) (h39 : mu' 39 = mu 39) : MA z mu' := by
  obtain ⟨⟨a1, a2, a3, a4, a5, a6, a7, a8, a9, b1, b2, b3, b4, b5⟩, c1, c2⟩ := h
  refine ⟨⟨?_, ?_, ?_, ?_, ?_, ?_, ?_, ?_, ?_, ?_, ?_, ?_, ?_, ?_⟩, ?_, ?_⟩
  · rw [h19 0 (by omega)]; exact a1
  · rw [h19 3 (by omega)]; exact a2
  · rw [h19 4 (by omega)]; exact a3
  · rw [h19 5 (by omega)]; exact a4
  · rw [h19 6 (by omega)]; exact a5
  · rw [h19 8 (by omega)]; exact a6
  · rw [h19 9 (by omega)]; exact a7
  · rw [h19 11 (by omega)]; exact a8
  · rw [h19 12 (by omega)]; exact a9
  · rw [h2 20 (by omega) (by omega)]; exact b1
  · rw [h2 21 (by omega) (by omega)]; exact b2
  · rw [h2 22 (by omega) (by omega)]; exact b3
  · rw [h2 23 (by omega) (by omega)]; exact b4
  · rw [h2 24 (by omega) (by omega)]; exact b5
  · unfold MI at c1 ⊢; rw [h38, h39]; exact c1
  · unfold MI at c2 ⊢; rw [h38, h39]; exact c2
theorem MI.same {n : Nat} {o : Option gS} {mu mu' : pm_I} (h : MI n o mu) (h38 : mu' 38 = mu 38) (h39 : mu' 39 = mu 39) : MI n o mu' := by
  unfold MI at h ⊢; rw [h38, h39]; exact h
theorem nil_get {R : Type} {k : Nat} {b : R} {P : Prop} (h : ([] : List R)[k]? = some b) : P := by simp at h
theorem nO_none : nO none = -6 := rfl
theorem nO_some {b : Nat} : nO (some b) = nI b := rfl
section
variable {cx : pm_CX} {d n0 : Nat} {i0 i1 : Option Nat} {ex : List pm_C} {mu : pm_I} {nu : pm_J}
set_option maxRecDepth 100000 in
set_option maxHeartbeats 1000000 in
theorem M_wipe {z : mS} (h : MA z mu) : pm_T cx mX11_wipe d 0 0 [.ref 19] (sh_ i0 i1 ex) mu nu (mQ (.int (nI z.2.1.length)) (z.1, [], z.2.2) i0 i1 ex mu) := by
  obtain ⟨⟨a1, a2, a3, a4, a5, a6, a7, a8, a9, b1, b2, b3, b4, b5⟩, c1, c2⟩ := id h
  refine pm_enterN 1 (by exact okX11_wipe) rfl ?_; dsimp only [pm_la, pm_cat2, List.replicate, List.cons_append, List.nil_append, List.append_nil]
  refine pm_go 9999 (by exact okX11_wipe) rfl ?_; (try dsimp only [pm_st1, pm_st2, pm_cat2, pm_la, Option.toList, List.cons_append, List.nil_append])
  rw [a5]
  refine pm_ri (by exact okX11_wipe) rfl rfl rfl (Nat.le_refl _) (Nat.le_refl _) (⟨rfl, rfl, ⟨⟨a1, a2, a3, a4, rfl, a6, a7, a8, a9, b1, b2, fun k b hb => nil_get hb, b4, b5⟩, c1.same rfl rfl, c2.same rfl rfl⟩, fM.rf.up (by omega)⟩)
set_option maxRecDepth 100000 in
set_option maxHeartbeats 1000000 in
theorem M_forget {z : mS} (h : MA z mu) : pm_T cx mX11_forget d 0 0 [.ref 19] (sh_ i0 i1 ex) mu nu (mQ (.int (nI (gV z.1).length)) ((z.1.1, gC z.1, gP z.1, gR z.1, gM z.1, gK z.1, []), z.2) i0 i1 ex mu) := by
  obtain ⟨⟨a1, a2, a3, a4, a5, a6, a7, a8, a9, b1, b2, b3, b4, b5⟩, c1, c2⟩ := id h
  refine pm_enterN 1 (by exact okX11_forget) rfl ?_; dsimp only [pm_la, pm_cat2, List.replicate, List.cons_append, List.nil_append, List.append_nil]
  refine pm_go 9999 (by exact okX11_forget) rfl ?_; (try dsimp only [pm_st1, pm_st2, pm_cat2, pm_la, Option.toList, List.cons_append, List.nil_append])
  rw [a9]
  refine pm_ri (by exact okX11_forget) rfl rfl rfl (Nat.le_refl _) (Nat.le_refl _) (⟨rfl, rfl, ⟨⟨a1, a2, a3, a4, a5, a6, a7, a8, rfl, b1, b2, b3, b4, fun k b hb => nil_get hb⟩, c1.same rfl rfl, c2.same rfl rfl⟩, fM.rf.up (by omega)⟩)
set_option maxRecDepth 100000 in
set_option maxHeartbeats 1000000 in
theorem M_anew {z : mS} (h : MA z mu) : pm_T cx mX11_anew d 0 0 [.ref 19] (sh_ i0 i1 ex) mu nu (mQ (.int (nI (gK z.1).length)) ((z.1.1, gC z.1, gP z.1, [], 0, [], gV z.1), z.2) i0 i1 ex mu) := by
  obtain ⟨⟨a1, a2, a3, a4, a5, a6, a7, a8, a9, b1, b2, b3, b4, b5⟩, c1, c2⟩ := id h
  refine pm_enterN 1 (by exact okX11_anew) rfl ?_; dsimp only [pm_la, pm_cat2, List.replicate, List.cons_append, List.nil_append, List.append_nil]
  refine pm_go 9999 (by exact okX11_anew) rfl ?_; (try dsimp only [pm_st1, pm_st2, pm_cat2, pm_la, Option.toList, List.cons_append, List.nil_append])
  rw [a8]
  refine pm_ri (by exact okX11_anew) rfl rfl rfl (Nat.le_refl _) (Nat.le_refl _) (⟨rfl, rfl, ⟨⟨a1, a2, a3, a4, a5, rfl, rfl, rfl, a9, b1, b2, b3, fun k b hb => nil_get hb, b5⟩, c1.same rfl rfl, c2.same rfl rfl⟩, ((fM.rf.up (by omega)).up (by omega)).up (by omega)⟩)
set_option maxRecDepth 100000 in
set_option maxHeartbeats 1000000 in
theorem t_begin_l {Q : pm_Po} : ∀ (j k : Nat) (mu : pm_I), k + j = 6 → (∀ b, b < k → mu 20 b = 0 ∧ mu 21 b = -6) → (∀ mu' : pm_I, (∀ b, b < 6 → mu' 20 b = 0 ∧ mu' 21 b = -6) → (∀ a, a ≠ 20 → a ≠ 21 → a ≠ 19 → mu' a = mu a) → (∀ c, c ≠ 8 → c ≠ 9 → c ≠ 11 → c ≠ 12 → mu' 19 c = mu 19 c) → mu' 19 8 = 0 → mu' 19 9 = 0 → mu' 19 11 = 0 → mu' 19 12 = 0 → Q none (sh_ i0 i1 ex) mu' nu) → pm_G cx (mX11_begin, d, 0, 0, n0, Q) 0 0 2 [some (.ref 19), some (.int (nI k))] [] (sh_ i0 i1 ex) mu nu := by
  intro j
  induction j with
  | zero =>
    intro k mu hk hb hq
    have hk : k = 6 := by omega
    subst hk
    refine pm_go 9999 (by exact okX11_begin) rfl ?_; (try dsimp only [pm_st1, pm_st2, pm_cat2, pm_la, Option.toList, List.cons_append, List.nil_append])
    refine pm_ige (by exact okX11_begin) rfl (fun h1 => ?_) (fun h1 => ?_)
    · refine pm_go 9999 (by exact okX11_begin) rfl ?_; (try dsimp only [pm_st1, pm_st2, pm_cat2, pm_la, Option.toList, List.cons_append, List.nil_append])
      refine pm_rv (by exact okX11_begin) rfl rfl (Nat.le_refl _) (Nat.le_refl _) (hq _ (fun b h => hb b h) (fun a h1 h2 h3 => by rw [pm_up_ne h3, pm_up_ne h3, pm_up_ne h3, pm_up_ne h3]) (fun c h1 h2 h3 h4 => by simp [pm_up_app, h1, h2, h3, h4]) rfl rfl rfl rfl)
    · exact absurd (by decide) h1
  | succ j ih =>
    intro k mu hk hb hq
    refine pm_go 9999 (by exact okX11_begin) rfl ?_; (try dsimp only [pm_st1, pm_st2, pm_cat2, pm_la, Option.toList, List.cons_append, List.nil_append])
    refine pm_ige (by exact okX11_begin) rfl (fun h1 => ?_) (fun h1 => ?_)
    · exact absurd h1 (nI_ge (a := k) (b := 6) (by omega) (by omega))
    · refine pm_go 9999 (by exact okX11_begin) rfl ?_; (try dsimp only [pm_st1, pm_st2, pm_cat2, pm_la, Option.toList, List.cons_append, List.nil_append])
      refine pm_ias (by exact okX11_begin) rfl rfl (vp_in_nI (by omega) (by omega)) ?_
      refine pm_go 9999 (by exact okX11_begin) rfl ?_; (try dsimp only [pm_st1, pm_st2, pm_cat2, pm_la, Option.toList, List.cons_append, List.nil_append])
      refine pm_ias (by exact okX11_begin) rfl rfl (vp_in_nI (by omega) (by omega)) ?_
      refine pm_go 2 (by exact okX11_begin) rfl ?_; (try dsimp only [pm_st1, pm_st2, pm_cat2, pm_la, Option.toList, List.cons_append, List.nil_append])
      rw [nI_clamp (by omega), nI_1]
      refine ih (k + 1) _ (by omega) (fun b h => ?_) (fun mu' g1 g2 g3 => hq mu' g1 (fun a h1 h2 h3 => by rw [g2 a h1 h2 h3, pm_up_ne h2, pm_up_ne h1]) (fun c h1 h2 h3 h4 => by rw [g3 c h1 h2 h3 h4]; rfl))
      simp only [pm_up_app]
      by_cases hbk : b = k
      · simp [hbk]
      · have := hb b (by omega)
        simp [hbk, this]
set_option maxRecDepth 100000 in
set_option maxHeartbeats 1000000 in
theorem t_begin : pm_T cx mX11_begin d 0 0 [.ref 19] (sh_ i0 i1 ex) mu nu (fun r sg' mu' _ => r = none ∧ sg' = sh_ i0 i1 ex ∧ (∀ b, b < 6 → mu' 20 b = 0 ∧ mu' 21 b = -6) ∧ (∀ a, a ≠ 20 → a ≠ 21 → a ≠ 19 → mu' a = mu a) ∧ (∀ c, c ≠ 8 → c ≠ 9 → c ≠ 11 → c ≠ 12 → mu' 19 c = mu 19 c) ∧ mu' 19 8 = 0 ∧ mu' 19 9 = 0 ∧ mu' 19 11 = 0 ∧ mu' 19 12 = 0) := by
  refine pm_enterN 1 (by exact okX11_begin) rfl ?_; dsimp only [pm_la, pm_cat2, List.replicate, List.cons_append, List.nil_append, List.append_nil]
  refine pm_go 2 (by exact okX11_begin) rfl ?_; (try dsimp only [pm_st1, pm_st2, pm_cat2, pm_la, Option.toList, List.cons_append, List.nil_append])
  exact t_begin_l 6 0 mu rfl (fun b h => absurd h (by omega)) (fun mu' g1 g2 g3 g4 g5 g6 g7 => ⟨rfl, rfl, g1, g2, g3, g4, g5, g6, g7⟩)
/-- a garden of n BEDS as at first, but for LAW, GATE, WET -/
abbrev gNew (n : Nat) (g : gS) : gS := ((n, gL g, gG g, gW g), fun _ => 0, fun _ => none, [], 0, [], [])
def sp_beds (z : mS) (n : Int32) : Int32 × mS := if 2 ≤ n ∧ n ≤ 6 then (nI (gB z.1), (gNew n.toNatClampNeg z.1, z.2)) else (-2, z)
theorem rng_of {n : Int32} {a b : Nat} (ha : a < 2 ^ 31) (hb : b < 2 ^ 31) (h : nI a ≤ n ∧ n ≤ nI b) : ∃ k, a ≤ k ∧ k ≤ b ∧ n = nI k := by
  have h0 : ¬ n < 0 := fun q => by
    have h1 := (lt_toInt.mp q)
    have h2 := (le_toInt.mp h.1)
    rw [nI_toInt ha] at h2
    have h3 : (0 : Int32).toInt = 0 := rfl
    omega
  obtain ⟨k, hk, rfl⟩ := nI_of h0
  exact ⟨k, (nI_leI ha hk).mp h.1, (nI_leI hk hb).mp h.2, rfl⟩
set_option maxRecDepth 100000 in
set_option maxHeartbeats 1000000 in
theorem M_beds {z : mS} (n : Int32) (h : MA z mu) (hd : 1 ≤ d) : pm_T cx mX11_beds d 0 0 [.ref 19, .int n] (sh_ i0 i1 ex) mu nu (mQ (.int (sp_beds z n).1) (sp_beds z n).2 i0 i1 ex mu) := by
  obtain ⟨⟨a1, a2, a3, a4, a5, a6, a7, a8, a9, b1, b2, b3, b4, b5⟩, c1, c2⟩ := id h
  refine pm_enterN 1 (by exact okX11_beds) rfl ?_; dsimp only [pm_la, pm_cat2, List.replicate, List.cons_append, List.nil_append, List.append_nil]
  refine pm_go 9999 (by exact okX11_beds) rfl ?_; (try dsimp only [pm_st1, pm_st2, pm_cat2, pm_la, Option.toList, List.cons_append, List.nil_append])
  refine pm_cs (by exact okX11_beds) (by exact okX11_in) rfl (by exact arX11_in) (t_in (d := 0) n 2 6) rfl (by dsimp only; omega) rfl (Nat.le_of_ble_eq_true rfl) ⟨Nat.zero_le _, Nat.zero_le _⟩ ?_
  rintro _ _ _ _ ⟨rfl, rfl, rfl, rfl⟩ -
  refine pm_go 9999 (by exact okX11_beds) rfl ?_; (try dsimp only [pm_st1, pm_st2, pm_cat2, pm_la, Option.toList, List.cons_append, List.nil_append])
  refine pm_zne (by exact okX11_beds) rfl (fun h1 => ?_) (fun h1 => ?_)
  · have h1 := bI_n.mp h1
    obtain ⟨k, k1, k2, rfl⟩ := rng_of (a := 2) (b := 6) (by omega) (by omega) h1
    rw [show sp_beds z (nI k) = (nI (gB z.1), (gNew k z.1, z.2)) by unfold sp_beds; rw [if_pos h1, nI_clamp (by omega)]]
    refine pm_go 9999 (by exact okX11_beds) rfl ?_; (try dsimp only [pm_st1, pm_st2, pm_cat2, pm_la, Option.toList, List.cons_append, List.nil_append])
    refine pm_cv (by exact okX11_beds) (by exact okX11_begin) rfl (by exact arX11_begin) (t_begin (d := 0)) rfl rfl rfl (by dsimp only; omega) rfl (Nat.le_of_ble_eq_true rfl) ⟨Nat.zero_le _, Nat.zero_le _⟩ ?_
    rintro _ _ mu2 nu2 ⟨rfl, rfl, g1, g2, g3, g4, g5, g6, g7⟩ -
    refine pm_go 9999 (by exact okX11_beds) rfl ?_; (try dsimp only [pm_st1, pm_st2, pm_cat2, pm_la, Option.toList, List.cons_append, List.nil_append])
    rw [a1]
    refine pm_ri (by exact okX11_beds) rfl rfl rfl (Nat.le_refl _) (Nat.le_refl _) (⟨rfl, rfl, ⟨⟨by rw [g3 0 (by omega) (by omega) (by omega) (by omega)]; rfl, by rw [g3 3 (by omega) (by omega) (by omega) (by omega)]; exact a2, by rw [g3 4 (by omega) (by omega) (by omega) (by omega)]; exact a3, by rw [g3 5 (by omega) (by omega) (by omega) (by omega)]; exact a4, by rw [g3 6 (by omega) (by omega) (by omega) (by omega)]; exact a5, g4, g5, g6, g7, fun b hb => (g1 b hb).1, fun b hb => (g1 b hb).2, by rw [g2 22 (by omega) (by omega) (by omega)]; exact b3, fun k b hb => nil_get hb, fun k b hb => nil_get hb⟩, c1.same (g2 38 (by omega) (by omega) (by omega)) (g2 39 (by omega) (by omega) (by omega)), c2.same (g2 38 (by omega) (by omega) (by omega)) (g2 39 (by omega) (by omega) (by omega))⟩, fun a ha => by rw [g2 a (by omega) (by omega) (by omega), pm_up_ne (by omega)]⟩)
  · have h1 := bI_z.mp h1
    rw [show sp_beds z n = (-2, z) by unfold sp_beds; rw [if_neg h1]]
    refine pm_go 9999 (by exact okX11_beds) rfl ?_; (try dsimp only [pm_st1, pm_st2, pm_cat2, pm_la, Option.toList, List.cons_append, List.nil_append])
    refine pm_ri (by exact okX11_beds) rfl rfl rfl (Nat.le_refl _) (Nat.le_refl _) (⟨rfl, rfl, h, fM.rf⟩)
end

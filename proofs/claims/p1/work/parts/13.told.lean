/-- whether b is met from a on, in k steps -/
def gd_re (pa : Nat → Option Nat) (b : Nat) : Nat → Nat → Bool
  | 0, _ => false
  | k + 1, a => match pa a with
    | none => false
    | some o => if o = b then true else gd_re pa b k o
def sp_past (z : mS) (b o : Int32) : Int32 × mS :=
  if ¬ isB (gB z.1) b ∨ (o ≠ -1 ∧ ¬ isB (gB z.1) o) ∨ b = o then (-1, z)
  else if o ≠ -1 ∧ gd_re (gP z.1) b.toNatClampNeg 6 o.toNatClampNeg = true then (-3, z)
  else (nO (gP z.1 b.toNatClampNeg), ((z.1.1, gC z.1, va_up (gP z.1) b.toNatClampNeg (if o = -1 then none else some o.toNatClampNeg), z.1.2.2.2), z.2))
theorem nI_ne_m {n : Nat} (h : n < 2 ^ 31) : nI n ≠ -1 ∧ nI n ≠ -6 := by
  constructor
  · intro q; have := nI_pos (n := n) h; rw [q] at this; exact this (by decide)
  · intro q; have := nI_pos (n := n) h; rw [q] at this; exact this (by decide)
section
variable {cx : pm_CX} {d n0 : Nat} {i0 i1 : Option Nat} {ex : List pm_C} {mu : pm_I} {nu : pm_J}
set_option maxRecDepth 100000 in
set_option maxHeartbeats 1000000 in
theorem M_told {z : mS} (w : Int32) (hz : zOK z) (h : MA z mu) (hd : 2 ≤ d) : pm_T cx mX11_told d 0 0 [.ref 19, .int w] (sh_ i0 i1 ex) mu nu (mQ (.int (sp_told z w)) z i0 i1 ex mu) := by
  obtain ⟨⟨a1, a2, a3, a4, a5, a6, a7, a8, a9, b1, b2, b3, b4, b5⟩, c1, c2⟩ := id h
  obtain ⟨⟨hB6, -⟩, -⟩ := hz
  have rest : ¬ isB (gB z.1) (w - 10) → ¬ isB (gB z.1) (w - 20) → ∀ L2, pm_G cx (mX11_told, d, 0, 0, (sh_ i0 i1 ex).length, mQ (.int (sp_told z w)) z i0 i1 ex mu) 0 0 46 [some (.ref 19), some (.int w), L2] [] (sh_ i0 i1 ex) mu nu := by
    intro g1 g2 L2
    unfold sp_told
    refine pm_go 9999 (by exact okX11_told) rfl ?_; (try dsimp only [pm_st1, pm_st2, pm_cat2, pm_la, Option.toList, List.cons_append, List.nil_append])
    by_cases e0 : w = 0
    · subst e0
      refine pm_tsIn (tgt := 80) (by exact okX11_told) rfl (by decide) (by decide) rfl (by decide) ?_
      refine pm_go 9999 (by exact okX11_told) rfl ?_; (try dsimp only [pm_st1, pm_st2, pm_cat2, pm_la, Option.toList, List.cons_append, List.nil_append])
      rw [a5]
      refine pm_ri (by exact okX11_told) rfl rfl rfl (Nat.le_refl _) (Nat.le_refl _) (⟨rfl, rfl, h, fM.rf⟩)
    · rw [if_neg e0]
      by_cases e1 : w = 1
      · subst e1
        refine pm_tsIn (tgt := 85) (by exact okX11_told) rfl (by decide) (by decide) rfl (by decide) ?_
        refine pm_go 9999 (by exact okX11_told) rfl ?_; (try dsimp only [pm_st1, pm_st2, pm_cat2, pm_la, Option.toList, List.cons_append, List.nil_append])
        rw [a1]
        refine pm_ri (by exact okX11_told) rfl rfl rfl (Nat.le_refl _) (Nat.le_refl _) (⟨rfl, rfl, h, fM.rf⟩)
      · rw [if_neg e1]
        by_cases e2 : w = 2
        · subst e2
          refine pm_tsIn (tgt := 90) (by exact okX11_told) rfl (by decide) (by decide) rfl (by decide) ?_
          refine pm_go 9999 (by exact okX11_told) rfl ?_; (try dsimp only [pm_st1, pm_st2, pm_cat2, pm_la, Option.toList, List.cons_append, List.nil_append])
          rw [a2]
          refine pm_ri (by exact okX11_told) rfl rfl rfl (Nat.le_refl _) (Nat.le_refl _) (⟨rfl, rfl, h, fM.rf⟩)
        · rw [if_neg e2]
          by_cases e3 : w = 3
          · subst e3
            refine pm_tsIn (tgt := 95) (by exact okX11_told) rfl (by decide) (by decide) rfl (by decide) ?_
            refine pm_go 9999 (by exact okX11_told) rfl ?_; (try dsimp only [pm_st1, pm_st2, pm_cat2, pm_la, Option.toList, List.cons_append, List.nil_append])
            rw [a3]
            refine pm_ri (by exact okX11_told) rfl rfl rfl (Nat.le_refl _) (Nat.le_refl _) (⟨rfl, rfl, h, fM.rf⟩)
          · rw [if_neg e3]
            by_cases e4 : w = 4
            · subst e4
              refine pm_tsIn (tgt := 100) (by exact okX11_told) rfl (by decide) (by decide) rfl (by decide) ?_
              refine pm_go 9999 (by exact okX11_told) rfl ?_; (try dsimp only [pm_st1, pm_st2, pm_cat2, pm_la, Option.toList, List.cons_append, List.nil_append])
              rw [a4]
              refine pm_ri (by exact okX11_told) rfl rfl rfl (Nat.le_refl _) (Nat.le_refl _) (⟨rfl, rfl, h, fM.rf⟩)
            · rw [if_neg e4]
              have n0 : ¬ w.toInt = 0 := fun q => e0 ((fa_eq w 0).mpr q)
              have n1 : ¬ w.toInt = 1 := fun q => e1 ((fa_eq w 1).mpr q)
              have n2 : ¬ w.toInt = 2 := fun q => e2 ((fa_eq w 2).mpr q)
              have n3 : ¬ w.toInt = 3 := fun q => e3 ((fa_eq w 3).mpr q)
              have n4 : ¬ w.toInt = 4 := fun q => e4 ((fa_eq w 4).mpr q)
              refine pm_tsOut (tgt := 105) (by exact okX11_told) rfl (by omega) (by decide) ?_
              refine pm_go 9999 (by exact okX11_told) rfl ?_; (try dsimp only [pm_st1, pm_st2, pm_cat2, pm_la, Option.toList, List.cons_append, List.nil_append])
              refine pm_ine (by exact okX11_told) rfl (fun e5 => ?_) (fun e5 => ?_)
              · rw [if_neg e5, if_neg g1, if_neg g2]
                refine pm_go 9999 (by exact okX11_told) rfl ?_; (try dsimp only [pm_st1, pm_st2, pm_cat2, pm_la, Option.toList, List.cons_append, List.nil_append])
                refine pm_ri (by exact okX11_told) rfl rfl rfl (Nat.le_refl _) (Nat.le_refl _) (⟨rfl, rfl, h, fM.rf⟩)
              · rw [if_pos e5]
                refine pm_go 9999 (by exact okX11_told) rfl ?_; (try dsimp only [pm_st1, pm_st2, pm_cat2, pm_la, Option.toList, List.cons_append, List.nil_append])
                rw [a9]
                refine pm_ri (by exact okX11_told) rfl rfl rfl (Nat.le_refl _) (Nat.le_refl _) (⟨rfl, rfl, h, fM.rf⟩)
  refine pm_enterN 1 (by exact okX11_told) rfl ?_; dsimp only [pm_la, pm_cat2, List.replicate, List.cons_append, List.nil_append, List.append_nil]
  refine pm_go 9999 (by exact okX11_told) rfl ?_; (try dsimp only [pm_st1, pm_st2, pm_cat2, pm_la, Option.toList, List.cons_append, List.nil_append])
  refine pm_rem (by exact okX11_told) rfl (by decide) ?_
  refine pm_go 9999 (by exact okX11_told) rfl ?_; (try dsimp only [pm_st1, pm_st2, pm_cat2, pm_la, Option.toList, List.cons_append, List.nil_append])
  refine pm_cs (by exact okX11_told) (by exact okX11_in) rfl (by exact arX11_in) (t_in (d := 0) w 10 25) rfl (by dsimp only; omega) rfl (Nat.le_of_ble_eq_true rfl) ⟨Nat.zero_le _, Nat.zero_le _⟩ ?_
  rintro _ _ _ _ ⟨rfl, rfl, rfl, rfl⟩ -
  refine pm_go 9999 (by exact okX11_told) rfl ?_; (try dsimp only [pm_st1, pm_st2, pm_cat2, pm_la, Option.toList, List.cons_append, List.nil_append])
  have e10 : ∀ n, n < 100 → (isB (gB z.1) (nI n - 10) ↔ (10 ≤ n ∧ n < 10 + gB z.1)) := by
    intro n hn
    rcases Nat.lt_or_ge n 10 with q | q
    · constructor
      · intro h; exact absurd (pk_sneg (a := n) (b := 10) (by omega) q) (Int32.not_lt.mpr h.1)
      · intro h; omega
    · rw [show (10 : Int32) = nI 10 from rfl, pk_sub q]
      constructor
      · intro h; have := (nI_ltI (by omega) (by omega)).mp h.2; omega
      · intro h; exact isB_in hB6.2 (by omega)
  have e20 : ∀ n, n < 100 → (isB (gB z.1) (nI n - 20) ↔ (20 ≤ n ∧ n < 20 + gB z.1)) := by
    intro n hn
    rcases Nat.lt_or_ge n 20 with q | q
    · constructor
      · intro h; exact absurd (pk_sneg (a := n) (b := 20) (by omega) q) (Int32.not_lt.mpr h.1)
      · intro h; omega
    · rw [show (20 : Int32) = nI 20 from rfl, pk_sub q]
      constructor
      · intro h; have := (nI_ltI (by omega) (by omega)).mp h.2; omega
      · intro h; exact isB_in hB6.2 (by omega)
  refine pm_zeq (by exact okX11_told) rfl (fun h1 => ?_) (fun h1 => ?_)
  · have h1 := bI_z.mp h1
    refine rest ?_ ?_ _
    · rintro ⟨q1, q2⟩
      apply h1
      obtain ⟨k, hk, hw⟩ := isB_of hB6.2 ⟨q1, q2⟩
      have : w = nI (k + 10) := by rw [← nI_add, ← hw, show nI 10 = (10 : Int32) from rfl]; exact (Int32.sub_add_cancel w 10).symm
      rw [this]
      exact ⟨nI_le (a := 10) (by omega) (by omega), nI_le (b := 25) (by omega) (by omega)⟩
    · rintro ⟨q1, q2⟩
      apply h1
      obtain ⟨k, hk, hw⟩ := isB_of hB6.2 ⟨q1, q2⟩
      have : w = nI (k + 20) := by rw [← nI_add, ← hw, show nI 20 = (20 : Int32) from rfl]; exact (Int32.sub_add_cancel w 20).symm
      rw [this]
      exact ⟨nI_le (a := 10) (by omega) (by omega), nI_le (b := 25) (by omega) (by omega)⟩
  · have h1 := bI_n.mp h1
    obtain ⟨n, hn1, hn2, rfl⟩ := rng_of (a := 10) (b := 25) (by omega) (by omega) h1
    rw [show (10 : Int32) = nI 10 from rfl, pk_rem (by omega) (by omega) (by omega)]
    refine pm_go 9999 (by exact okX11_told) rfl ?_; (try dsimp only [pm_st1, pm_st2, pm_cat2, pm_la, Option.toList, List.cons_append, List.nil_append])
    refine pm_cv (by exact okX11_told) (by exact okX11_isBed) rfl (by exact arX11_isBed) (t_isBed (d := 1) (nI (n % 10)) a1 (by omega) (by omega)) rfl rfl rfl (by dsimp only; omega) rfl (Nat.le_of_ble_eq_true rfl) ⟨Nat.zero_le _, Nat.zero_le _⟩ ?_
    rintro _ _ _ _ ⟨rfl, rfl, rfl, rfl⟩ -
    refine pm_go 9999 (by exact okX11_told) rfl ?_; (try dsimp only [pm_st1, pm_st2, pm_cat2, pm_la, Option.toList, List.cons_append, List.nil_append])
    have en : isB (gB z.1) (nI (n % 10)) ↔ n % 10 < gB z.1 := by
      constructor
      · intro h; exact (nI_ltI (by omega) (by omega)).mp h.2
      · intro h; exact isB_in hB6.2 h
    refine pm_zeq (by exact okX11_told) rfl (fun h2 => ?_) (fun h2 => ?_)
    · have h2 := bI_z.mp h2
      rw [en] at h2
      exact rest (by rw [e10 n (by omega)]; omega) (by rw [e20 n (by omega)]; omega) _
    · have h2 := bI_n.mp h2
      rw [en] at h2
      unfold sp_told
      rw [if_neg (show ¬ nI n = 0 from fun q => absurd ((nI_eq (b := 0) (by omega) (by omega)).mp q) (by omega)), if_neg (show ¬ nI n = 1 from fun q => absurd ((nI_eq (b := 1) (by omega) (by omega)).mp q) (by omega)), if_neg (show ¬ nI n = 2 from fun q => absurd ((nI_eq (b := 2) (by omega) (by omega)).mp q) (by omega)), if_neg (show ¬ nI n = 3 from fun q => absurd ((nI_eq (b := 3) (by omega) (by omega)).mp q) (by omega)), if_neg (show ¬ nI n = 4 from fun q => absurd ((nI_eq (b := 4) (by omega) (by omega)).mp q) (by omega)), if_neg (show ¬ nI n = 5 from fun q => absurd ((nI_eq (b := 5) (by omega) (by omega)).mp q) (by omega))]
      refine pm_go 9999 (by exact okX11_told) rfl ?_; (try dsimp only [pm_st1, pm_st2, pm_cat2, pm_la, Option.toList, List.cons_append, List.nil_append])
      refine pm_ige (by exact okX11_told) rfl (fun h3 => ?_) (fun h3 => ?_)
      · have h4 : 20 ≤ n := (nI_leI (a := 20) (by omega) (by omega)).mp h3
        rw [if_neg (by rw [e10 n (by omega)]; omega), if_pos ((e20 n (by omega)).mpr (by omega)), show (20 : Int32) = nI 20 from rfl, pk_sub h4, nI_clamp (by omega)]
        refine pm_go 9999 (by exact okX11_told) rfl ?_; (try dsimp only [pm_st1, pm_st2, pm_cat2, pm_la, Option.toList, List.cons_append, List.nil_append])
        refine pm_ial (by exact okX11_told) rfl rfl (vp_in_nI (by omega) (by omega)) ?_
        refine pm_go 9999 (by exact okX11_told) rfl ?_; (try dsimp only [pm_st1, pm_st2, pm_cat2, pm_la, Option.toList, List.cons_append, List.nil_append])
        rw [nI_clamp (by omega), show n % 10 = n - 20 by omega, b2 _ (by omega)]
        refine pm_ri (by exact okX11_told) rfl rfl rfl (Nat.le_refl _) (Nat.le_refl _) (⟨rfl, rfl, h, fM.rf⟩)
      · have h4 : n < 20 := by
          rcases Nat.lt_or_ge n 20 with q | q
          · exact q
          · exact absurd (nI_le (a := 20) q (by omega)) h3
        rw [if_pos ((e10 n (by omega)).mpr (by omega)), show (10 : Int32) = nI 10 from rfl, pk_sub hn1, nI_clamp (by omega)]
        refine pm_go 9999 (by exact okX11_told) rfl ?_; (try dsimp only [pm_st1, pm_st2, pm_cat2, pm_la, Option.toList, List.cons_append, List.nil_append])
        refine pm_ial (by exact okX11_told) rfl rfl (vp_in_nI (by omega) (by omega)) ?_
        refine pm_go 9999 (by exact okX11_told) rfl ?_; (try dsimp only [pm_st1, pm_st2, pm_cat2, pm_la, Option.toList, List.cons_append, List.nil_append])
        rw [nI_clamp (by omega), show n % 10 = n - 10 by omega, b1 _ (by omega)]
        refine pm_ri (by exact okX11_told) rfl rfl rfl (Nat.le_refl _) (Nat.le_refl _) (⟨rfl, rfl, h, fM.rf⟩)
set_option maxRecDepth 100000 in
set_option maxHeartbeats 1000000 in
theorem M_past_l {Q : pm_Po} {pa : Nat → Option Nat} {b : Nat} {x2 : Int32} (hb : b < 6) (hP : ∀ k, k < 6 → mu 21 k = nO (pa k)) (hpa : ∀ k o, k < 6 → pa k = some o → o < 6) : ∀ (k a : Nat), a < 6 → gd_dd pa k a → (gd_re pa b k a = true → Q (some (.int (-3))) (sh_ i0 i1 ex) mu nu) → (gd_re pa b k a = false → pm_G cx (mX11_past, d, 0, 0, n0, Q) 0 0 49 [some (.ref 19), some (.int (nI b)), some (.int x2), none, none] [] (sh_ i0 i1 ex) mu nu) → pm_G cx (mX11_past, d, 0, 0, n0, Q) 0 0 30 [some (.ref 19), some (.int (nI b)), some (.int x2), some (.int (nI a)), none] [] (sh_ i0 i1 ex) mu nu := by
  intro k
  induction k with
  | zero => intro a ha hdd; exact absurd hdd (fun q => q)
  | succ k ih =>
    intro a ha hdd h1 h2
    simp only [gd_re] at h1 h2
    refine pm_go 9999 (by exact okX11_past) rfl ?_; (try dsimp only [pm_st1, pm_st2, pm_cat2, pm_la, Option.toList, List.cons_append, List.nil_append])
    refine pm_zlt (by exact okX11_past) rfl (fun h3 => ?_) (fun h3 => ?_)
    · exact absurd h3 (nI_pos (by omega))
    · refine pm_go 9999 (by exact okX11_past) rfl ?_; (try dsimp only [pm_st1, pm_st2, pm_cat2, pm_la, Option.toList, List.cons_append, List.nil_append])
      refine pm_ial (by exact okX11_past) rfl rfl (vp_in_nI (by omega) (by omega)) ?_
      rw [nI_clamp (by omega), hP a ha]
      cases hpb : pa a with
      | none =>
        rw [hpb] at h1 h2
        refine pm_go 30 (by exact okX11_past) rfl ?_; (try dsimp only [pm_st1, pm_st2, pm_cat2, pm_la, Option.toList, List.cons_append, List.nil_append])
        refine pm_ine (by exact okX11_past) rfl (fun h4 => ?_) (fun h4 => ?_)
        · refine pm_go 9999 (by exact okX11_past) rfl ?_; (try dsimp only [pm_st1, pm_st2, pm_cat2, pm_la, Option.toList, List.cons_append, List.nil_append])
          refine pm_zlt (by exact okX11_past) rfl (fun h5 => ?_) (fun h5 => ?_)
          · refine pm_G.fg [false, false, false, true, false] ?_; dsimp only [pm_fg]
            exact h2 rfl
          · exact absurd (by decide) h5
        · exact absurd h4.symm (nI_ne_m (by omega)).2
      | some o =>
        rw [hpb] at h1 h2
        have ho := hpa a o ha hpb
        refine pm_go 30 (by exact okX11_past) rfl ?_; (try dsimp only [pm_st1, pm_st2, pm_cat2, pm_la, Option.toList, List.cons_append, List.nil_append])
        rw [nO_some]
        refine pm_ine (by exact okX11_past) rfl (fun h4 => ?_) (fun h4 => ?_)
        · have h5 : ¬ o = b := fun q => h4 (by rw [q])
          simp only [if_neg h5] at h1 h2
          exact ih o ho (hdd o hpb) h1 h2
        · have h5 : o = b := (nI_eq (by omega) (by omega)).mp h4
          simp only [if_pos h5] at h1 h2
          refine pm_go 9999 (by exact okX11_past) rfl ?_; (try dsimp only [pm_st1, pm_st2, pm_cat2, pm_la, Option.toList, List.cons_append, List.nil_append])
          refine pm_ri (by exact okX11_past) rfl rfl rfl (Nat.le_refl _) (Nat.le_refl _) (h1 trivial)
set_option maxRecDepth 100000 in
set_option maxHeartbeats 1000000 in
theorem M_past {z : mS} (b o : Int32) (hz : zOK z) (h : MA z mu) (hd : 2 ≤ d) : pm_T cx mX11_past d 0 0 [.ref 19, .int b, .int o] (sh_ i0 i1 ex) mu nu (mQ (.int (sp_past z b o).1) (sp_past z b o).2 i0 i1 ex mu) := by
  obtain ⟨⟨a1, a2, a3, a4, a5, a6, a7, a8, a9, b1, b2, b3, b4, b5⟩, c1, c2⟩ := id h
  obtain ⟨⟨hB6, -, -, -, -, hpa, hdd, -⟩, -⟩ := hz
  have bad : sp_past z b o = (-1, z) → pm_G cx (mX11_past, d, 0, 0, (sh_ i0 i1 ex).length, mQ (.int (sp_past z b o).1) (sp_past z b o).2 i0 i1 ex mu) 0 0 26 [some (.ref 19), some (.int b), some (.int o), none, none] [] (sh_ i0 i1 ex) mu nu := by
    intro hs
    rw [hs]
    refine pm_go 9999 (by exact okX11_past) rfl ?_; (try dsimp only [pm_st1, pm_st2, pm_cat2, pm_la, Option.toList, List.cons_append, List.nil_append])
    refine pm_ri (by exact okX11_past) rfl rfl rfl (Nat.le_refl _) (Nat.le_refl _) (⟨rfl, rfl, h, fM.rf⟩)
  refine pm_enterN 2 (by exact okX11_past) rfl ?_; dsimp only [pm_la, pm_cat2, List.replicate, List.cons_append, List.nil_append, List.append_nil]
  refine pm_go 9999 (by exact okX11_past) rfl ?_; (try dsimp only [pm_st1, pm_st2, pm_cat2, pm_la, Option.toList, List.cons_append, List.nil_append])
  refine pm_cv (by exact okX11_past) (by exact okX11_isBed) rfl (by exact arX11_isBed) (t_isBed (d := 1) b a1 (by omega) (by omega)) rfl rfl rfl (by dsimp only; omega) rfl (Nat.le_of_ble_eq_true rfl) ⟨Nat.zero_le _, Nat.zero_le _⟩ ?_
  rintro _ _ _ _ ⟨rfl, rfl, rfl, rfl⟩ -
  refine pm_go 9999 (by exact okX11_past) rfl ?_; (try dsimp only [pm_st1, pm_st2, pm_cat2, pm_la, Option.toList, List.cons_append, List.nil_append])
  refine pm_zeq (by exact okX11_past) rfl (fun h1 => ?_) (fun h1 => ?_)
  · have h1 := bI_z.mp h1
    exact bad (by unfold sp_past; rw [if_pos (Or.inl h1)])
  · have h1 := bI_n.mp h1
    have mid : (o = -1 ∨ isB (gB z.1) o) → pm_G cx (mX11_past, d, 0, 0, (sh_ i0 i1 ex).length, mQ (.int (sp_past z b o).1) (sp_past z b o).2 i0 i1 ex mu) 0 0 21 [some (.ref 19), some (.int b), some (.int o), none, none] [] (sh_ i0 i1 ex) mu nu := by
      intro ho
      refine pm_go 9999 (by exact okX11_past) rfl ?_; (try dsimp only [pm_st1, pm_st2, pm_cat2, pm_la, Option.toList, List.cons_append, List.nil_append])
      refine pm_ine (by exact okX11_past) rfl (fun h3 => ?_) (fun h3 => ?_)
      · have hn1 : ¬ (¬ isB (gB z.1) b ∨ (o ≠ -1 ∧ ¬ isB (gB z.1) o) ∨ b = o) := by
          rintro (q | q | q)
          · exact q h1
          · exact ho.elim q.1 q.2
          · exact h3 q
        obtain ⟨k, hk, rfl⟩ := isB_of hB6.2 h1
        have last : ∀ (oo : Option Nat), oo = (if o = -1 then none else some o.toNatClampNeg) → sp_past z (nI k) o = (nO (gP z.1 k), ((z.1.1, gC z.1, va_up (gP z.1) k oo, z.1.2.2.2), z.2)) → pm_G cx (mX11_past, d, 0, 0, (sh_ i0 i1 ex).length, mQ (.int (sp_past z (nI k) o).1) (sp_past z (nI k) o).2 i0 i1 ex mu) 0 0 49 [some (.ref 19), some (.int (nI k)), some (.int o), none, none] [] (sh_ i0 i1 ex) mu nu := by
          intro oo hoo hs
          rw [hs]
          have fin : pm_G cx (mX11_past, d, 0, 0, (sh_ i0 i1 ex).length, mQ (.int (nO (gP z.1 k))) ((z.1.1, gC z.1, va_up (gP z.1) k oo, z.1.2.2.2), z.2) i0 i1 ex mu) 0 0 72 [some (.ref 19), some (.int (nI k)), some (.int o), none, some (.int (nO (gP z.1 k)))] [.int (nO oo), .int (nI k), .ref 21] (sh_ i0 i1 ex) mu nu := by
            refine pm_ias (by exact okX11_past) rfl rfl (vp_in_nI (by omega) (by omega)) ?_
            refine pm_go 9999 (by exact okX11_past) rfl ?_; (try dsimp only [pm_st1, pm_st2, pm_cat2, pm_la, Option.toList, List.cons_append, List.nil_append])
            rw [nI_clamp (by omega)]
            refine pm_ri (by exact okX11_past) rfl rfl rfl (Nat.le_refl _) (Nat.le_refl _) (⟨rfl, rfl, ⟨⟨a1, a2, a3, a4, a5, a6, a7, a8, a9, b1, fun j hj => ?_, b3, b4, b5⟩, c1.same rfl rfl, c2.same rfl rfl⟩, fM.rf.up (by omega)⟩)
            show pm_up mu 21 k (nO oo) 21 j = nO (va_up (gP z.1) k oo j)
            by_cases hjk : j = k
            · subst hjk; rw [pm_up_at, va_up_at]
            · rw [pm_up_of hjk, va_up_of hjk, b2 j hj]
          refine pm_go 9999 (by exact okX11_past) rfl ?_; (try dsimp only [pm_st1, pm_st2, pm_cat2, pm_la, Option.toList, List.cons_append, List.nil_append])
          refine pm_ial (by exact okX11_past) rfl rfl (vp_in_nI (by omega) (by omega)) ?_
          rw [nI_clamp (by omega), b2 k (by omega)]
          refine pm_go 9999 (by exact okX11_past) rfl ?_; (try dsimp only [pm_st1, pm_st2, pm_cat2, pm_la, Option.toList, List.cons_append, List.nil_append])
          rcases ho with ho | ho
          · rw [if_pos ho] at hoo
            subst hoo
            subst ho
            refine pm_zge (by exact okX11_past) rfl (fun h5 => ?_) (fun h5 => ?_)
            · exact absurd h5 (by decide)
            · refine pm_go 72 (by exact okX11_past) rfl ?_; (try dsimp only [pm_st1, pm_st2, pm_cat2, pm_la, Option.toList, List.cons_append, List.nil_append])
              exact fin
          · obtain ⟨q, hq, rfl⟩ := isB_of hB6.2 ho
            rw [if_neg (nI_ne_m (by omega)).1, nI_clamp (by omega)] at hoo
            subst hoo
            refine pm_zge (by exact okX11_past) rfl (fun h5 => ?_) (fun h5 => ?_)
            · refine pm_go 72 (by exact okX11_past) rfl ?_; (try dsimp only [pm_st1, pm_st2, pm_cat2, pm_la, Option.toList, List.cons_append, List.nil_append])
              exact fin
            · exact absurd (nI_pos' (by omega)) h5
        rcases ho with ho | ho
        · subst ho
          refine pm_go 9999 (by exact okX11_past) rfl ?_; (try dsimp only [pm_st1, pm_st2, pm_cat2, pm_la, Option.toList, List.cons_append, List.nil_append])
          refine pm_zlt (by exact okX11_past) rfl (fun h5 => ?_) (fun h5 => ?_)
          · refine pm_G.fg [false, false, false, true, false] ?_; dsimp only [pm_fg]
            refine last _ rfl ?_
            unfold sp_past
            rw [if_neg hn1, if_neg (fun q => q.1 rfl), nI_clamp (by omega)]
          · exact absurd (by decide) h5
        · obtain ⟨q, hq, rfl⟩ := isB_of hB6.2 ho
          have hq1 := (nI_ne_m (n := q) (by omega)).1
          refine pm_go 30 (by exact okX11_past) rfl ?_; (try dsimp only [pm_st1, pm_st2, pm_cat2, pm_la, Option.toList, List.cons_append, List.nil_append])
          refine M_past_l (pa := gP z.1) (by omega) b2 (fun k o hk ho => by have := (hpa k o hk ho).2; omega) 6 q (by omega) (hdd q (by omega)) (fun hre => ?_) (fun hre => ?_)
          · rw [show sp_past z (nI k) (nI q) = (-3, z) by unfold sp_past; rw [if_neg hn1, if_pos ⟨hq1, by rw [nI_clamp (by omega), nI_clamp (by omega)]; exact hre⟩]]
            exact ⟨rfl, rfl, h, fM.rf⟩
          · refine last _ rfl ?_
            unfold sp_past
            rw [if_neg hn1, if_neg (fun w => by rw [nI_clamp (by omega), nI_clamp (by omega), hre] at w; exact absurd w.2 (by decide)), nI_clamp (n := k) (by omega)]
      · exact bad (by unfold sp_past; rw [if_pos (Or.inr (Or.inr h3))])
    refine pm_go 9999 (by exact okX11_past) rfl ?_; (try dsimp only [pm_st1, pm_st2, pm_cat2, pm_la, Option.toList, List.cons_append, List.nil_append])
    refine pm_ieq (by exact okX11_past) rfl (fun h2 => ?_) (fun h2 => ?_)
    · exact mid (Or.inl h2)
    · refine pm_go 9999 (by exact okX11_past) rfl ?_; (try dsimp only [pm_st1, pm_st2, pm_cat2, pm_la, Option.toList, List.cons_append, List.nil_append])
      refine pm_cv (by exact okX11_past) (by exact okX11_isBed) rfl (by exact arX11_isBed) (t_isBed (d := 1) o a1 (by omega) (by omega)) rfl rfl rfl (by dsimp only; omega) rfl (Nat.le_of_ble_eq_true rfl) ⟨Nat.zero_le _, Nat.zero_le _⟩ ?_
      rintro _ _ _ _ ⟨rfl, rfl, rfl, rfl⟩ -
      refine pm_go 21 (by exact okX11_past) rfl ?_; (try dsimp only [pm_st1, pm_st2, pm_cat2, pm_la, Option.toList, List.cons_append, List.nil_append])
      refine pm_zeq (by exact okX11_past) rfl (fun h3 => ?_) (fun h3 => ?_)
      · have h3 := bI_z.mp h3
        exact bad (by unfold sp_past; rw [if_pos (Or.inr (Or.inl ⟨h2, h3⟩))])
      · have h3 := bI_n.mp h3
        exact mid (Or.inr h3)
end

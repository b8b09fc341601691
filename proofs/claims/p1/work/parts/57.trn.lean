/-! ===== the class's turns ===== -/
theorem tn_no {gate B : Nat} {pa : Nat → Option Nat} {d : Nat} {r : List Nat} {s : Nat} {ch : List Nat → Nat} (h : ¬ gd_cw gate pa r s B = true) : ∀ i, i ≤ B → tn_acc gate B pa d r s ch (i + 1) = some (ch r) := by
  intro i
  induction i with
  | zero => intro hi; rw [tn_acc_0, if_neg h]; rfl
  | succ i ih =>
    intro hi
    rw [tn_acc_b (by omega), if_neg (fun q => h ((gd_cw_iff B).mpr ⟨i, by omega, by rw [Nat.add_sub_cancel] at q; exact q⟩))]
    exact ih (by omega)
section
variable {cx : pm_CX} {dd n0 : Nat} {i0 i1 : Option Nat} {ex : List pm_C} {mu : pm_I} {nu : pm_J}
set_option maxRecDepth 100000 in
set_option maxHeartbeats 1000000 in
theorem t_better {sg : List pm_C} {d v : Nat} {acc : Option Nat} (ha : ∀ a, acc = some a → a < 100) (hv : v < 100) (hd : 1 ≤ dd) : pm_T cx mX3_better dd 0 0 [.int (nO acc), .int (nI v), .int (bI (d % 2 = 0))] sg mu nu (pm_ret (some (.int (nI (tn_k d acc v)))) sg mu nu) := by
  cases acc with
  | none =>
    refine pm_enterN 0 (by exact okX3_better) rfl ?_; dsimp only [pm_la, pm_cat2, List.replicate, List.cons_append, List.nil_append, List.append_nil]
    refine pm_go 9999 (by exact okX3_better) rfl ?_; (try dsimp only [pm_st1, pm_st2, pm_cat2, pm_la, Option.toList, List.cons_append, List.nil_append])
    refine pm_ine (by exact okX3_better) rfl (fun h1 => ?_) (fun h1 => ?_)
    · exact absurd rfl h1
    · refine pm_go 9999 (by exact okX3_better) rfl ?_; (try dsimp only [pm_st1, pm_st2, pm_cat2, pm_la, Option.toList, List.cons_append, List.nil_append])
      refine pm_ri (by exact okX3_better) rfl rfl rfl (Nat.le_refl _) (Nat.le_refl _) (⟨rfl, rfl, rfl, rfl⟩)
  | some a =>
    have ha := ha a rfl
    rw [nO_some, tn_k_some]
    refine pm_enterN 0 (by exact okX3_better) rfl ?_; dsimp only [pm_la, pm_cat2, List.replicate, List.cons_append, List.nil_append, List.append_nil]
    refine pm_go 9999 (by exact okX3_better) rfl ?_; (try dsimp only [pm_st1, pm_st2, pm_cat2, pm_la, Option.toList, List.cons_append, List.nil_append])
    refine pm_ine (by exact okX3_better) rfl (fun h1 => ?_) (fun h1 => ?_)
    · refine pm_go 9999 (by exact okX3_better) rfl ?_; (try dsimp only [pm_st1, pm_st2, pm_cat2, pm_la, Option.toList, List.cons_append, List.nil_append])
      refine pm_zeq (by exact okX3_better) rfl (fun h2 => ?_) (fun h2 => ?_)
      · have h2 := bI_z.mp h2
        rw [if_neg h2]
        refine pm_go 9999 (by exact okX3_better) rfl ?_; (try dsimp only [pm_st1, pm_st2, pm_cat2, pm_la, Option.toList, List.cons_append, List.nil_append])
        refine pm_mmax (by exact okX3_better) rfl (by dsimp only; omega) (Nat.le_of_ble_eq_true rfl) ⟨Nat.zero_le _, Nat.zero_le _⟩ ?_
        refine pm_go 9999 (by exact okX3_better) rfl ?_; (try dsimp only [pm_st1, pm_st2, pm_cat2, pm_la, Option.toList, List.cons_append, List.nil_append])
        by_cases q : a < v
        · rw [if_pos q, if_pos (nI_lt q (by omega))]
          refine pm_ri (by exact okX3_better) rfl rfl rfl (Nat.le_refl _) (Nat.le_refl _) (⟨rfl, rfl, rfl, rfl⟩)
        · rw [if_neg q, if_neg (fun z => q ((nI_ltI (by omega) (by omega)).mp z))]
          refine pm_ri (by exact okX3_better) rfl rfl rfl (Nat.le_refl _) (Nat.le_refl _) (⟨rfl, rfl, rfl, rfl⟩)
      · have h2 := bI_n.mp h2
        rw [if_pos h2]
        refine pm_go 9999 (by exact okX3_better) rfl ?_; (try dsimp only [pm_st1, pm_st2, pm_cat2, pm_la, Option.toList, List.cons_append, List.nil_append])
        refine pm_mmin (by exact okX3_better) rfl (by dsimp only; omega) (Nat.le_of_ble_eq_true rfl) ⟨Nat.zero_le _, Nat.zero_le _⟩ ?_
        refine pm_go 9999 (by exact okX3_better) rfl ?_; (try dsimp only [pm_st1, pm_st2, pm_cat2, pm_la, Option.toList, List.cons_append, List.nil_append])
        by_cases q : v < a
        · rw [if_pos q, if_pos (nI_lt q (by omega))]
          refine pm_ri (by exact okX3_better) rfl rfl rfl (Nat.le_refl _) (Nat.le_refl _) (⟨rfl, rfl, rfl, rfl⟩)
        · rw [if_neg q, if_neg (fun z => q ((nI_ltI (by omega) (by omega)).mp z))]
          refine pm_ri (by exact okX3_better) rfl rfl rfl (Nat.le_refl _) (Nat.le_refl _) (⟨rfl, rfl, rfl, rfl⟩)
    · exact absurd h1 (nI_ne_m (by omega)).2
set_option maxRecDepth 100000 in
set_option maxHeartbeats 1000000 in
theorem C_morningOf {g : gS} {bed : Nat} (hg : gOK g) (h : XGo 3 g mu) (hbed : bed < gB g) : ∀ (f d : Nat) (r : List Nat) (s dd : Nat), rOK (gB g) r s → s.testBit bed = false → (gd_rn s (gB g)).length ≤ f → d + f ≤ 6 → 2 * f + 4 ≤ dd → pm_T cx mX3_morningOf dd 0 0 [.ref 3, .int (nI (st_k r s)), .int (nI bed), .int (nI (d + 1))] (sh_ i0 i1 ex) mu nu (pm_ret (some (.int (nI (tn_v (gL g) (gG g) (gB g) (gP g) bed f d r s)))) (sh_ i0 i1 ex) mu nu) := by
  obtain ⟨a1, a2, a3, a4, a5, a6, b1, b2, b3, b4⟩ := id h
  obtain ⟨⟨g1, g2⟩, g3, g4, g5, g6, g7, g8, g9, g10, g11⟩ := id hg
  intro f
  induction f with
  | zero =>
    intro d r s dd hR hs hf
    have : bed ∈ gd_rn s (gB g) := (gd_rn_mem s (gB g) bed).mpr ⟨hbed, by rw [hs]; decide⟩
    have := List.length_pos_of_mem this
    omega
  | succ f ih =>
    intro d r s dd hR hs hf hdf hdd
    have aft : ∀ r1, rOK (gB g) r1 s → r1 ≠ [] → pm_T cx mX3_afterWatering (2 * f + 5) 0 0 [.ref 3, .int (nI (st_k r1 s)), .int (nI bed), .int (nI (d + 1))] (sh_ i0 i1 ex) mu nu (pm_ret (some (.int (nI (tn_c (gL g) (gG g) (gB g) (gP g) bed f d s r1)))) (sh_ i0 i1 ex) mu nu) := by
      intro r1 hR1 hne
      obtain ⟨m1, m2⟩ := gd_mo_ok (law := gL g) hR1 hne
      unfold tn_c
      refine pm_enterN 1 (by exact okX3_afterWatering) rfl ?_; dsimp only [pm_la, pm_cat2, List.replicate, List.cons_append, List.nil_append, List.append_nil]
      refine pm_go 9999 (by exact okX3_afterWatering) rfl ?_; (try dsimp only [pm_st1, pm_st2, pm_cat2, pm_la, Option.toList, List.cons_append, List.nil_append])
      refine pm_cv (by exact okX3_afterWatering) (by exact okX2_afterMorning) rfl (by exact arX2_afterMorning) (C_afterMorning (d := 3) a2 g3 g2 hR1 (by omega)) rfl rfl rfl (by dsimp only; omega) rfl (Nat.le_of_ble_eq_true rfl) ⟨Nat.zero_le _, Nat.zero_le _⟩ ?_
      rintro _ _ _ _ ⟨rfl, rfl, rfl, rfl⟩ -
      refine pm_go 9999 (by exact okX3_afterWatering) rfl ?_; (try dsimp only [pm_st1, pm_st2, pm_cat2, pm_la, Option.toList, List.cons_append, List.nil_append])
      refine pm_cs (by exact okX3_afterWatering) (by exact okX8_hasBloomed) rfl (by exact arX8_hasBloomed) (t_hasBloomed (d := 0) m1 g2 (by omega)) rfl (by dsimp only; omega) rfl (Nat.le_of_ble_eq_true rfl) ⟨Nat.zero_le _, Nat.zero_le _⟩ ?_
      rintro _ _ _ _ ⟨rfl, rfl, rfl, rfl⟩ -
      refine pm_go 9999 (by exact okX3_afterWatering) rfl ?_; (try dsimp only [pm_st1, pm_st2, pm_cat2, pm_la, Option.toList, List.cons_append, List.nil_append])
      refine pm_zeq (by exact okX3_afterWatering) rfl (fun h1 => ?_) (fun h1 => ?_)
      · have h1 := bI_z.mp h1
        rw [if_neg h1]
        refine pm_go 9999 (by exact okX3_afterWatering) rfl ?_; (try dsimp only [pm_st1, pm_st2, pm_cat2, pm_la, Option.toList, List.cons_append, List.nil_append])
        rw [nI_1]
        refine pm_cs (by exact okX3_afterWatering) (by exact okX3_morningOf) rfl (by exact arX3_morningOf) (ih (d + 1) _ _ (2 * f + 4) m1 (by simpa using h1) (by omega) (by omega) (Nat.le_refl _)) rfl (by dsimp only; omega) rfl (Nat.le_of_ble_eq_true rfl) ⟨Nat.zero_le _, Nat.zero_le _⟩ ?_
        rintro _ _ _ _ ⟨rfl, rfl, rfl, rfl⟩ -
        refine pm_go 9999 (by exact okX3_afterWatering) rfl ?_; (try dsimp only [pm_st1, pm_st2, pm_cat2, pm_la, Option.toList, List.cons_append, List.nil_append])
        refine pm_ri (by exact okX3_afterWatering) rfl rfl rfl (Nat.le_refl _) (Nat.le_refl _) (⟨rfl, rfl, rfl, rfl⟩)
      · have h1 := bI_n.mp h1
        rw [if_pos h1]
        refine pm_go 9999 (by exact okX3_afterWatering) rfl ?_; (try dsimp only [pm_st1, pm_st2, pm_cat2, pm_la, Option.toList, List.cons_append, List.nil_append])
        refine pm_ri (by exact okX3_afterWatering) rfl rfl rfl (Nat.le_refl _) (Nat.le_refl _) (⟨rfl, rfl, rfl, rfl⟩)
    have hcl : ∀ x, tn_c (gL g) (gG g) (gB g) (gP g) bed f d s x ≤ 50 := by
      intro x
      unfold tn_c
      split
      · omega
      · have := tn_v_le (law := gL g) (gate := gG g) (B := gB g) (pa := gP g) (bed := bed) f (d + 1) (gd_mo (gL g) x s).1 (gd_mo (gL g) x s).2
        omega
    have main : pm_G cx (mX3_morningOf, dd, 0, 0, (sh_ i0 i1 ex).length, pm_ret (some (.int (nI (tn_v (gL g) (gG g) (gB g) (gP g) bed (f + 1) d r s)))) (sh_ i0 i1 ex) mu nu) 0 0 30 [some (.ref 3), some (.int (nI (st_k r s))), some (.int (nI bed)), some (.int (nI (d + 1))), some (.int (bI (d % 2 = 0))), some (.int (-6)), some (.int (nI 0)), none] [] (sh_ i0 i1 ex) mu nu := by
      by_cases hcw : gd_cw (gG g) (gP g) r s (gB g) = true
      · have loop : ∀ (j b : Nat), b + j = gB g → pm_G cx (mX3_morningOf, dd, 0, 0, (sh_ i0 i1 ex).length, pm_ret (some (.int (nI (tn_v (gL g) (gG g) (gB g) (gP g) bed (f + 1) d r s)))) (sh_ i0 i1 ex) mu nu) 0 0 30 [some (.ref 3), some (.int (nI (st_k r s))), some (.int (nI bed)), some (.int (nI (d + 1))), some (.int (bI (d % 2 = 0))), some (.int (nO (tn_acc (gG g) (gB g) (gP g) d r s (tn_c (gL g) (gG g) (gB g) (gP g) bed f d s) (b + 1)))), some (.int (nI b)), none] [] (sh_ i0 i1 ex) mu nu := by
          intro j
          induction j with
          | zero =>
            intro b hb
            have hb : b = gB g := by omega
            cases hh : tn_acc (gG g) (gB g) (gP g) d r s (tn_c (gL g) (gG g) (gB g) (gP g) bed f d s) (b + 1) with
            | none => rw [hb] at hh; exact absurd hh tn_acc_some
            | some a =>
              have hal := tn_acc_le hcl _ _ hh
              have ev : tn_v (gL g) (gG g) (gB g) (gP g) bed (f + 1) d r s = a := by
                rw [tn_v]
                show (tn_acc (gG g) (gB g) (gP g) d r s (tn_c (gL g) (gG g) (gB g) (gP g) bed f d s) (gB g + 1)).getD 0 = a
                rw [hb] at hh
                rw [hh]
                rfl
              rw [ev, nO_some]
              refine pm_go 9999 (by exact okX3_morningOf) rfl ?_; (try dsimp only [pm_st1, pm_st2, pm_cat2, pm_la, Option.toList, List.cons_append, List.nil_append])
              rw [a1, hb]
              refine pm_ige (by exact okX3_morningOf) rfl (fun h1 => ?_) (fun h1 => ?_)
              · refine pm_go 9999 (by exact okX3_morningOf) rfl ?_; (try dsimp only [pm_st1, pm_st2, pm_cat2, pm_la, Option.toList, List.cons_append, List.nil_append])
                refine pm_ine (by exact okX3_morningOf) rfl (fun h2 => ?_) (fun h2 => ?_)
                · refine pm_go 9999 (by exact okX3_morningOf) rfl ?_; (try dsimp only [pm_st1, pm_st2, pm_cat2, pm_la, Option.toList, List.cons_append, List.nil_append])
                  refine pm_ri (by exact okX3_morningOf) rfl rfl rfl (Nat.le_refl _) (Nat.le_refl _) (⟨rfl, rfl, rfl, rfl⟩)
                · exact absurd h2 (nI_ne_m (by omega)).2
              · exact absurd (Int32.le_refl _) h1
          | succ j ihj =>
            intro b hb
            have hal : ∀ a, tn_acc (gG g) (gB g) (gP g) d r s (tn_c (gL g) (gG g) (gB g) (gP g) bed f d s) (b + 1) = some a → a < 100 := fun a ha => by
              have := tn_acc_le hcl _ a ha
              omega
            have hwl := gd_wy_le (gate := gG g) (pa := gP g) (r := r) (s := s) (b := b)
            have eb := tn_acc_b (gate := gG g) (B := gB g) (pa := gP g) (d := d) (i := b + 1) (r := r) (s := s) (ch := tn_c (gL g) (gG g) (gB g) (gP g) bed f d s) (by omega)
            rw [Nat.add_sub_cancel] at eb
            have nxt := ihj (b + 1) (by omega)
            refine pm_go 9999 (by exact okX3_morningOf) rfl ?_; (try dsimp only [pm_st1, pm_st2, pm_cat2, pm_la, Option.toList, List.cons_append, List.nil_append])
            rw [a1]
            refine pm_ige (by exact okX3_morningOf) rfl (fun h1 => ?_) (fun h1 => ?_)
            · exact absurd h1 (nI_ge (by omega) (by omega))
            · refine pm_go 9999 (by exact okX3_morningOf) rfl ?_; (try dsimp only [pm_st1, pm_st2, pm_cat2, pm_la, Option.toList, List.cons_append, List.nil_append])
              refine pm_cv (by exact okX3_morningOf) (by exact okX2_whyNotWater) rfl (by exact arX2_whyNotWater) (C_whyNotWater (d := 2) hg h hR (by omega) (by omega)) rfl rfl rfl (by dsimp only; omega) rfl (Nat.le_of_ble_eq_true rfl) ⟨Nat.zero_le _, Nat.zero_le _⟩ ?_
              rintro _ _ _ _ ⟨rfl, rfl, rfl, rfl⟩ -
              refine pm_go 9999 (by exact okX3_morningOf) rfl ?_; (try dsimp only [pm_st1, pm_st2, pm_cat2, pm_la, Option.toList, List.cons_append, List.nil_append])
              refine pm_zne (by exact okX3_morningOf) rfl (fun h2 => ?_) (fun h2 => ?_)
              · rw [if_neg (fun q => h2 (by rw [q]; rfl))] at eb
                rw [eb] at nxt
                refine pm_go 30 (by exact okX3_morningOf) rfl ?_; (try dsimp only [pm_st1, pm_st2, pm_cat2, pm_la, Option.toList, List.cons_append, List.nil_append])
                rw [nI_1]
                exact nxt
              · have h2 : gd_wy (gG g) (gP g) r s b = 0 := (nI_eq (b := 0) (by omega) (by omega)).mp h2
                have hnb := gd_wy_bit h2
                rw [if_pos h2] at eb
                rw [eb] at nxt
                have hR2 := rOK_water (b := b) hR (by omega) hnb
                refine pm_go 9999 (by exact okX3_morningOf) rfl ?_; (try dsimp only [pm_st1, pm_st2, pm_cat2, pm_la, Option.toList, List.cons_append, List.nil_append])
                refine pm_cs (by exact okX3_morningOf) (by exact okX8_watered) rfl (by exact arX8_watered) (t_wateredX (d := 3) hR g2 (by omega) hnb (by omega)) rfl (by dsimp only; omega) rfl (Nat.le_of_ble_eq_true rfl) ⟨Nat.zero_le _, Nat.zero_le _⟩ ?_
                rintro _ _ _ _ ⟨rfl, rfl, rfl, rfl⟩ -
                refine pm_go 9999 (by exact okX3_morningOf) rfl ?_; (try dsimp only [pm_st1, pm_st2, pm_cat2, pm_la, Option.toList, List.cons_append, List.nil_append])
                refine pm_cs (by exact okX3_morningOf) (by exact okX3_afterWatering) rfl (by exact arX3_afterWatering) (aft _ hR2 (by simp)) rfl (by dsimp only; omega) rfl (Nat.le_of_ble_eq_true rfl) ⟨Nat.zero_le _, Nat.zero_le _⟩ ?_
                rintro _ _ _ _ ⟨rfl, rfl, rfl, rfl⟩ -
                refine pm_go 9999 (by exact okX3_morningOf) rfl ?_; (try dsimp only [pm_st1, pm_st2, pm_cat2, pm_la, Option.toList, List.cons_append, List.nil_append])
                refine pm_cs (by exact okX3_morningOf) (by exact okX3_better) rfl (by exact arX3_better) (t_better (dd := 1) hal (by have := hcl (b :: r.filter (fun x => x != b)); omega) (by omega)) rfl (by dsimp only; omega) rfl (Nat.le_of_ble_eq_true rfl) ⟨Nat.zero_le _, Nat.zero_le _⟩ ?_
                rintro _ _ _ _ ⟨rfl, rfl, rfl, rfl⟩ -
                refine pm_go 30 (by exact okX3_morningOf) rfl ?_; (try dsimp only [pm_st1, pm_st2, pm_cat2, pm_la, Option.toList, List.cons_append, List.nil_append])
                refine pm_G.fg [false, false, false, false, false, false, false, true] ?_; dsimp only [pm_fg]
                rw [nI_1]
                exact nxt
        have l0 := loop (gB g) 0 (by omega)
        rw [tn_acc_0, if_pos hcw] at l0
        exact l0
      · have hne : r ≠ [] := fun q => hcw (by
          rw [q]
          exact gd_cw_nil g4.1 g7 g2 6 bed hbed (by rw [hs]; decide) (g8 bed (by omega)))
        have ev : tn_v (gL g) (gG g) (gB g) (gP g) bed (f + 1) d r s = tn_c (gL g) (gG g) (gB g) (gP g) bed f d s r := by
          rw [tn_v]
          show (tn_acc (gG g) (gB g) (gP g) d r s (tn_c (gL g) (gG g) (gB g) (gP g) bed f d s) (gB g + 1)).getD 0 = _
          rw [tn_no hcw (gB g) (Nat.le_refl _)]
          rfl
        rw [ev]
        have loop : ∀ (j b : Nat), b + j = gB g → pm_G cx (mX3_morningOf, dd, 0, 0, (sh_ i0 i1 ex).length, pm_ret (some (.int (nI (tn_c (gL g) (gG g) (gB g) (gP g) bed f d s r)))) (sh_ i0 i1 ex) mu nu) 0 0 30 [some (.ref 3), some (.int (nI (st_k r s))), some (.int (nI bed)), some (.int (nI (d + 1))), some (.int (bI (d % 2 = 0))), some (.int (-6)), some (.int (nI b)), none] [] (sh_ i0 i1 ex) mu nu := by
          intro j
          induction j with
          | zero =>
            intro b hb
            have hb : b = gB g := by omega
            refine pm_go 9999 (by exact okX3_morningOf) rfl ?_; (try dsimp only [pm_st1, pm_st2, pm_cat2, pm_la, Option.toList, List.cons_append, List.nil_append])
            rw [a1, hb]
            refine pm_ige (by exact okX3_morningOf) rfl (fun h1 => ?_) (fun h1 => ?_)
            · refine pm_go 9999 (by exact okX3_morningOf) rfl ?_; (try dsimp only [pm_st1, pm_st2, pm_cat2, pm_la, Option.toList, List.cons_append, List.nil_append])
              refine pm_ine (by exact okX3_morningOf) rfl (fun h2 => ?_) (fun h2 => ?_)
              · exact absurd rfl h2
              · refine pm_go 9999 (by exact okX3_morningOf) rfl ?_; (try dsimp only [pm_st1, pm_st2, pm_cat2, pm_la, Option.toList, List.cons_append, List.nil_append])
                refine pm_cs (by exact okX3_morningOf) (by exact okX3_afterWatering) rfl (by exact arX3_afterWatering) (aft r hR hne) rfl (by dsimp only; omega) rfl (Nat.le_of_ble_eq_true rfl) ⟨Nat.zero_le _, Nat.zero_le _⟩ ?_
                rintro _ _ _ _ ⟨rfl, rfl, rfl, rfl⟩ -
                refine pm_go 9999 (by exact okX3_morningOf) rfl ?_; (try dsimp only [pm_st1, pm_st2, pm_cat2, pm_la, Option.toList, List.cons_append, List.nil_append])
                refine pm_ri (by exact okX3_morningOf) rfl rfl rfl (Nat.le_refl _) (Nat.le_refl _) (⟨rfl, rfl, rfl, rfl⟩)
            · exact absurd (Int32.le_refl _) h1
          | succ j ihj =>
            intro b hb
            have hwl := gd_wy_le (gate := gG g) (pa := gP g) (r := r) (s := s) (b := b)
            have nxt := ihj (b + 1) (by omega)
            refine pm_go 9999 (by exact okX3_morningOf) rfl ?_; (try dsimp only [pm_st1, pm_st2, pm_cat2, pm_la, Option.toList, List.cons_append, List.nil_append])
            rw [a1]
            refine pm_ige (by exact okX3_morningOf) rfl (fun h1 => ?_) (fun h1 => ?_)
            · exact absurd h1 (nI_ge (by omega) (by omega))
            · refine pm_go 9999 (by exact okX3_morningOf) rfl ?_; (try dsimp only [pm_st1, pm_st2, pm_cat2, pm_la, Option.toList, List.cons_append, List.nil_append])
              refine pm_cv (by exact okX3_morningOf) (by exact okX2_whyNotWater) rfl (by exact arX2_whyNotWater) (C_whyNotWater (d := 2) hg h hR (by omega) (by omega)) rfl rfl rfl (by dsimp only; omega) rfl (Nat.le_of_ble_eq_true rfl) ⟨Nat.zero_le _, Nat.zero_le _⟩ ?_
              rintro _ _ _ _ ⟨rfl, rfl, rfl, rfl⟩ -
              refine pm_go 9999 (by exact okX3_morningOf) rfl ?_; (try dsimp only [pm_st1, pm_st2, pm_cat2, pm_la, Option.toList, List.cons_append, List.nil_append])
              refine pm_zne (by exact okX3_morningOf) rfl (fun h2 => ?_) (fun h2 => ?_)
              · refine pm_go 30 (by exact okX3_morningOf) rfl ?_; (try dsimp only [pm_st1, pm_st2, pm_cat2, pm_la, Option.toList, List.cons_append, List.nil_append])
                rw [nI_1]
                exact nxt
              · have h2 : gd_wy (gG g) (gP g) r s b = 0 := (nI_eq (b := 0) (by omega) (by omega)).mp h2
                exact absurd ((gd_cw_iff (gB g)).mpr ⟨b, by omega, h2⟩) hcw
        exact loop (gB g) 0 (by omega)
    refine pm_enterN 4 (by exact okX3_morningOf) rfl ?_; dsimp only [pm_la, pm_cat2, List.replicate, List.cons_append, List.nil_append, List.append_nil]
    refine pm_go 9999 (by exact okX3_morningOf) rfl ?_; (try dsimp only [pm_st1, pm_st2, pm_cat2, pm_la, Option.toList, List.cons_append, List.nil_append])
    refine pm_ile (by exact okX3_morningOf) rfl (fun h1 => ?_) (fun h1 => ?_)
    · refine pm_go 9999 (by exact okX3_morningOf) rfl ?_; (try dsimp only [pm_st1, pm_st2, pm_cat2, pm_la, Option.toList, List.cons_append, List.nil_append])
      refine pm_rem (by exact okX3_morningOf) rfl (by decide) ?_
      rw [show (2 : Int32) = nI 2 from rfl, pk_rem (by omega) (by omega) (by omega)]
      refine pm_go 9999 (by exact okX3_morningOf) rfl ?_; (try dsimp only [pm_st1, pm_st2, pm_cat2, pm_la, Option.toList, List.cons_append, List.nil_append])
      refine pm_ine (by exact okX3_morningOf) rfl (fun h2 => ?_) (fun h2 => ?_)
      · have e : ¬ d % 2 = 0 := fun q => h2 (by rw [show (d + 1) % 2 = 1 by omega]; rfl)
        rw [bI_0 e] at main
        refine pm_go 30 (by exact okX3_morningOf) rfl ?_; (try dsimp only [pm_st1, pm_st2, pm_cat2, pm_la, Option.toList, List.cons_append, List.nil_append])
        exact main
      · have h2 : (d + 1) % 2 = 1 := (nI_eq (b := 1) (by omega) (by omega)).mp h2
        have e : d % 2 = 0 := by omega
        rw [bI_1 e] at main
        refine pm_go 30 (by exact okX3_morningOf) rfl ?_; (try dsimp only [pm_st1, pm_st2, pm_cat2, pm_la, Option.toList, List.cons_append, List.nil_append])
        exact main
    · exact absurd (nI_le (a := d + 1) (b := 6) (by omega) (by omega)) h1
set_option maxRecDepth 100000 in
set_option maxHeartbeats 1000000 in
theorem C_morningOfBloom {g : gS} {bed : Nat} (hg : gOK g) (h : XGo 3 g mu) (hbed : bed < gB g) (hs : (gM g).testBit bed = false) (hd : 17 ≤ dd) : pm_T cx mX3_morningOfBloom dd 0 0 [.ref 3, .int (nI bed)] (sh_ i0 i1 ex) mu nu (pm_ret (some (.int (nI (tn_v (gL g) (gG g) (gB g) (gP g) bed 6 0 (gR g) (gM g))))) (sh_ i0 i1 ex) mu nu) := by
  obtain ⟨a1, a2, a3, a4, a5, a6, b1, b2, b3, b4⟩ := id h
  obtain ⟨⟨g1, g2⟩, g3, g4, g5, g6, g7, g8, g9, g10, g11⟩ := id hg
  refine pm_enterN 0 (by exact okX3_morningOfBloom) rfl ?_; dsimp only [pm_la, pm_cat2, List.replicate, List.cons_append, List.nil_append, List.append_nil]
  refine pm_go 9999 (by exact okX3_morningOfBloom) rfl ?_; (try dsimp only [pm_st1, pm_st2, pm_cat2, pm_la, Option.toList, List.cons_append, List.nil_append])
  rw [a5]
  refine pm_cs (by exact okX3_morningOfBloom) (by exact okX3_morningOf) rfl (by exact arX3_morningOf) (C_morningOf hg h hbed 6 0 (gR g) (gM g) 16 g9 hs (Nat.le_trans (gd_rn_len _ _) g2) (by omega) (by omega)) rfl (by dsimp only; omega) rfl (Nat.le_of_ble_eq_true rfl) ⟨Nat.zero_le _, Nat.zero_le _⟩ ?_
  rintro _ _ _ _ ⟨rfl, rfl, rfl, rfl⟩ -
  refine pm_go 9999 (by exact okX3_morningOfBloom) rfl ?_; (try dsimp only [pm_st1, pm_st2, pm_cat2, pm_la, Option.toList, List.cons_append, List.nil_append])
  refine pm_ri (by exact okX3_morningOfBloom) rfl rfl rfl (Nat.le_refl _) (Nat.le_refl _) (⟨rfl, rfl, rfl, rfl⟩)
set_option maxRecDepth 100000 in
set_option maxHeartbeats 1000000 in
theorem P_turns (b : Int32) (h : X0 mu) (hd : 18 ≤ dd) : pm_T cx mX10_turns dd 0 0 [.ref 0, .int b] (sh_ i0 i1 ex) mu nu (cQ (.int (sp_turns z0 b)) mu) := by
  have a5 : mu 3 4 = nI (st_k [] 0) := h.1.2.2.2.2.1
  unfold sp_turns
  refine pm_enterN 0 (by exact okX10_turns) rfl ?_; dsimp only [pm_la, pm_cat2, List.replicate, List.cons_append, List.nil_append, List.append_nil]
  refine pm_go 9999 (by exact okX10_turns) rfl ?_; (try dsimp only [pm_st1, pm_st2, pm_cat2, pm_la, Option.toList, List.cons_append, List.nil_append])
  refine pm_cv (by exact okX10_turns) (by exact okX2_isBed) rfl (by exact arX2_isBed) (C_isBed (d := 0) (B := 6) b h.1.1 (by omega)) rfl rfl rfl (by dsimp only; omega) rfl (Nat.le_of_ble_eq_true rfl) ⟨Nat.zero_le _, Nat.zero_le _⟩ ?_
  rintro _ _ _ _ ⟨rfl, rfl, rfl, rfl⟩ -
  refine pm_go 9999 (by exact okX10_turns) rfl ?_; (try dsimp only [pm_st1, pm_st2, pm_cat2, pm_la, Option.toList, List.cons_append, List.nil_append])
  refine pm_zne (by exact okX10_turns) rfl (fun h1 => ?_) (fun h1 => ?_)
  · have h1 := bI_n.mp h1
    rw [if_pos h1]
    obtain ⟨k, hk, rfl⟩ := isB_of (by omega) h1
    rw [nI_clamp (n := k) (by omega), if_neg (show ¬ (gM g0).testBit k = true from fun q => by rw [Nat.zero_testBit] at q; cases q)]
    refine pm_go 9999 (by exact okX10_turns) rfl ?_; (try dsimp only [pm_st1, pm_st2, pm_cat2, pm_la, Option.toList, List.cons_append, List.nil_append])
    rw [a5]
    refine pm_cs (by exact okX10_turns) (by exact okX8_hasBloomed) rfl (by exact arX8_hasBloomed) (t_hasBloomed (d := 0) g0_rOK (by omega) hk) rfl (by dsimp only; omega) rfl (Nat.le_of_ble_eq_true rfl) ⟨Nat.zero_le _, Nat.zero_le _⟩ ?_
    rintro _ _ _ _ ⟨rfl, rfl, rfl, rfl⟩ -
    rw [bI_0 (show ¬ Nat.testBit 0 k = true from fun q => by rw [Nat.zero_testBit] at q; cases q)]
    refine pm_go 9999 (by exact okX10_turns) rfl ?_; (try dsimp only [pm_st1, pm_st2, pm_cat2, pm_la, Option.toList, List.cons_append, List.nil_append])
    refine pm_zeq (by exact okX10_turns) rfl (fun h2 => ?_) (fun h2 => ?_)
    · refine pm_go 9999 (by exact okX10_turns) rfl ?_; (try dsimp only [pm_st1, pm_st2, pm_cat2, pm_la, Option.toList, List.cons_append, List.nil_append])
      refine pm_cs (by exact okX10_turns) (by exact okX3_morningOfBloom) rfl (by exact arX3_morningOfBloom) (C_morningOfBloom (dd := 17) (g := g0) g0_OK h.1 hk (Nat.zero_testBit k) (by omega)) rfl (by dsimp only; omega) rfl (Nat.le_of_ble_eq_true rfl) ⟨Nat.zero_le _, Nat.zero_le _⟩ ?_
      rintro _ _ _ _ ⟨rfl, rfl, rfl, rfl⟩ -
      refine pm_go 9999 (by exact okX10_turns) rfl ?_; (try dsimp only [pm_st1, pm_st2, pm_cat2, pm_la, Option.toList, List.cons_append, List.nil_append])
      refine pm_ri (by exact okX10_turns) rfl rfl rfl (Nat.le_refl _) (Nat.le_refl _) (⟨rfl, ⟨_, _, _, rfl⟩, fX.rf⟩)
    · exact absurd rfl h2
  · have h1 := bI_z.mp h1
    rw [if_neg h1]
    refine pm_go 9999 (by exact okX10_turns) rfl ?_; (try dsimp only [pm_st1, pm_st2, pm_cat2, pm_la, Option.toList, List.cons_append, List.nil_append])
    refine pm_ri (by exact okX10_turns) rfl rfl rfl (Nat.le_refl _) (Nat.le_refl _) (⟨rfl, ⟨_, _, _, rfl⟩, fX.rf⟩)
end

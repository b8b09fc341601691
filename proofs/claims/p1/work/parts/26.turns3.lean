theorem tn_acc_0 {gate B : Nat} {pa : Nat → Option Nat} {d : Nat} {r : List Nat} {s : Nat} {ch : List Nat → Nat} : tn_acc gate B pa d r s ch (0 + 1) = if gd_cw gate pa r s B = true then none else some (tn_k d none (ch r)) := rfl
theorem tn_acc_b {gate B : Nat} {pa : Nat → Option Nat} {d i : Nat} {r : List Nat} {s : Nat} {ch : List Nat → Nat} (hi : ¬ i = 0) : tn_acc gate B pa d r s ch (i + 1) = if gd_wy gate pa r s (i - 1) = 0 then some (tn_k d (tn_acc gate B pa d r s ch i) (ch (tn_o r (some (i - 1))))) else tn_acc gate B pa d r s ch i := by
  rw [tn_acc, if_neg hi]
section
variable {cx : pm_CX} {d0 n0 : Nat} {i0 i1 : Option Nat} {ex : List pm_C} {mu0 : pm_I} {nu : pm_J}
set_option maxRecDepth 100000 in
set_option maxHeartbeats 1000000 in
theorem M_turns_node {Q : pm_Po} {law gate B bed : Nat} {pa : Nat → Option Nat} (hB : mu0 19 0 = nI B) (hB6 : 2 ≤ B ∧ B ≤ 6) (hL : mu0 19 3 = nI law) (hlaw : law ≤ 2) (hG : mu0 19 4 = nI gate) (hg : 1 ≤ gate ∧ gate ≤ 6) (hPa : ∀ k, k < 6 → mu0 21 k = nO (pa k)) (hpa : ∀ b o, b < 6 → pa b = some o → b < B ∧ o < B) (hdd : ∀ b, b < 6 → gd_dd pa 6 b) (hbed : bed < B) (hd0 : 3 ≤ d0) :
    ∀ (f d : Nat) (r : List Nat) (s : Nat) (mu : pm_I), (∀ a, a < 34 ∨ 38 ≤ a → mu a = mu0 a) → mu 34 d = nI (md_r7 r) → mu 35 d = nI s → mu 36 d = 0 → mu 37 d = -6 → rOK B r s → s.testBit bed = false → (gd_rn s B).length ≤ f → d + f ≤ 10 →
    (∀ mu', tnF d mu mu' → mu' 36 d = nI (B + 1) → mu' 37 d = nI (tn_v law gate B pa bed f d r s) → pm_G cx (mX11_turns, d0, 0, 0, n0, Q) 0 0 61 [some (.ref 19), some (.int (nI bed)), some (.int (nI d)), none, none] [] (sh_ i0 i1 ex) mu' nu) →
    pm_G cx (mX11_turns, d0, 0, 0, n0, Q) 0 0 61 [some (.ref 19), some (.int (nI bed)), some (.int (nI d)), none, none] [] (sh_ i0 i1 ex) mu nu := by
  intro f
  induction f with
  | zero =>
    intro d r s mu hm h34 h35 h36 h37 hR hs hf
    have : bed ∈ gd_rn s B := (gd_rn_mem s B bed).mpr ⟨hbed, by rw [hs]; decide⟩
    have := List.length_pos_of_mem this
    omega
  | succ f ihf =>
    intro d r s mu hm h34 h35 h36 h37 hR hs hf hdf kk
    have hok := rOK_ok hR hB6.2
    have hln := rOK_len hR hB6.2
    have hs64 := rOK_s hR hB6.2
    -- from choice i on
    have inner : ∀ (j i : Nat) (mu1 : pm_I), i + j = B + 1 → tnF d mu mu1 → mu1 36 d = nI i → mu1 37 d = nO (tn_acc gate B pa d r s (tn_c law gate B pa bed f d s) i) → pm_G cx (mX11_turns, d0, 0, 0, n0, Q) 0 0 61 [some (.ref 19), some (.int (nI bed)), some (.int (nI d)), none, none] [] (sh_ i0 i1 ex) mu1 nu := by
      intro j
      induction j with
      | zero =>
        intro i mu1 hi hF q36 q37
        have hi : i = B + 1 := by omega
        subst hi
        refine kk mu1 hF q36 ?_
        rw [q37]
        cases hh : tn_acc gate B pa d r s (tn_c law gate B pa bed f d s) (B + 1) with
        | none => exact absurd hh tn_acc_some
        | some a =>
          have : tn_v law gate B pa bed (f + 1) d r s = a := by
            rw [tn_v]
            show (tn_acc gate B pa d r s (tn_c law gate B pa bed f d s) (B + 1)).getD 0 = a
            rw [hh]
            rfl
          rw [this]
          rfl
      | succ j ihj =>
        intro i mu1 hi hF q36 q37
        have hcl : ∀ x, tn_c law gate B pa bed f d s x ≤ 50 := by
          intro x
          unfold tn_c
          split
          · omega
          · have := tn_v_le (law := law) (gate := gate) (B := B) (pa := pa) (bed := bed) f (d + 1) (gd_mo law x s).1 (gd_mo law x s).2
            omega
        have hal : ∀ a, tn_acc gate B pa d r s (tn_c law gate B pa bed f d s) i = some a → a < 100 := fun a ha => by
          have := tn_acc_le hcl i a ha
          omega
        have m0 : ∀ a, a < 34 ∨ 38 ≤ a → mu1 a = mu0 a := fun a ha => (hF.1 a ha).trans (hm a ha)
        have f34 := ((hF.2.1 d (Nat.le_refl _)).1).trans h34
        have f35 := ((hF.2.1 d (Nat.le_refl _)).2).trans h35
        -- with the choice counted
        have cnt : tnF d mu (pm_up mu1 36 d (nI (i + 1))) := hF.u36
        -- not taken
        have skip : ∀ L3, tn_acc gate B pa d r s (tn_c law gate B pa bed f d s) (i + 1) = tn_acc gate B pa d r s (tn_c law gate B pa bed f d s) i → pm_G cx (mX11_turns, d0, 0, 0, n0, Q) 0 0 196 [some (.ref 19), some (.int (nI bed)), some (.int (nI d)), some (.int L3), none] [.int 0] (sh_ i0 i1 ex) (pm_up mu1 36 d (nI (i + 1))) nu := by
          intro L3 he
          refine pm_go 9999 (by exact okX11_turns) rfl ?_; (try dsimp only [pm_st1, pm_st2, pm_cat2, pm_la, Option.toList, List.cons_append, List.nil_append])
          refine pm_zeq (by exact okX11_turns) rfl (fun h1 => ?_) (fun h1 => ?_)
          · refine pm_go 61 (by exact okX11_turns) rfl ?_; (try dsimp only [pm_st1, pm_st2, pm_cat2, pm_la, Option.toList, List.cons_append, List.nil_append])
            refine pm_G.fg [false, false, false, true, true] ?_; dsimp only [pm_fg]
            exact ihj (i + 1) _ (by omega) cnt pm_up_at (by rw [pm_up_o (by omega), he]; exact q37)
          · exact absurd rfl h1
        -- taken
        have take : ∀ (o : Option Nat) (L3 : Int32), L3 = (match o with
            | none => -1
            | some x => nI x) → (∀ x, o = some x → x < B ∧ gd_wy gate pa r s x = 0) → tn_o r o ≠ [] → tn_acc gate B pa d r s (tn_c law gate B pa bed f d s) (i + 1) = some (tn_k d (tn_acc gate B pa d r s (tn_c law gate B pa bed f d s) i) (tn_c law gate B pa bed f d s (tn_o r o))) → pm_G cx (mX11_turns, d0, 0, 0, n0, Q) 0 0 196 [some (.ref 19), some (.int (nI bed)), some (.int (nI d)), some (.int L3), none] [.int 1] (sh_ i0 i1 ex) (pm_up mu1 36 d (nI (i + 1))) nu := by
          intro o L3 hL3 ho hne he
          have hR1 : rOK B (tn_o r o) s := by
            cases o with
            | none => exact hR
            | some x => exact rOK_water hR (ho x rfl).1 (gd_wy_bit (ho x rfl).2)
          obtain ⟨hR2, hu2⟩ := gd_mo_ok (law := law) hR1 hne
          -- behind the child
          have back : ∀ (v : Nat) (mu2 : pm_I), v = tn_c law gate B pa bed f d s (tn_o r o) → tnF d mu mu2 → mu2 36 d = nI (i + 1) → mu2 37 d = nO (tn_acc gate B pa d r s (tn_c law gate B pa bed f d s) i) → pm_G cx (mX11_turns, d0, 0, 0, n0, Q) 0 0 61 [some (.ref 19), some (.int (nI bed)), some (.int (nI d)), none, none] [] (sh_ i0 i1 ex) (pm_up mu2 37 d (nI (tn_k d (tn_acc gate B pa d r s (tn_c law gate B pa bed f d s) i) v))) nu := by
            intro v mu2 hv hF2 p36 p37
            exact ihj (i + 1) _ (by omega) hF2.u37 (by rw [pm_up_o (by omega)]; exact p36) (by rw [pm_up_at, he, hv]; rfl)
          refine pm_go 9999 (by exact okX11_turns) rfl ?_; (try dsimp only [pm_st1, pm_st2, pm_cat2, pm_la, Option.toList, List.cons_append, List.nil_append])
          refine pm_zeq (by exact okX11_turns) rfl (fun h1 => ?_) (fun h1 => ?_)
          · exact absurd h1 (by decide)
          · refine pm_go 9999 (by exact okX11_turns) rfl ?_; (try dsimp only [pm_st1, pm_st2, pm_cat2, pm_la, Option.toList, List.cons_append, List.nil_append])
            refine pm_cv (by exact okX11_turns) (by exact okX11_wake) rfl (by exact arX11_wake) (t_wake (d0 := 2) (d := d) (s := s) (law := law) (o := o) (r := r) (by omega) (by rw [pm_up_o (by omega), m0 19 (by omega)]; exact hL) hlaw (by rw [pm_up_o (by omega)]; exact f34) (by rw [pm_up_o (by omega)]; exact f35) hs64 hok hln hL3 (fun x hx => by have := (ho x hx).1; omega) (rOK_len hR1 hB6.2) (by omega)) rfl rfl rfl (by dsimp only; omega) rfl (Nat.le_of_ble_eq_true rfl) ⟨Nat.zero_le _, Nat.zero_le _⟩ ?_
            rintro _ _ _ _ ⟨rfl, rfl, rfl, rfl⟩ -
            refine pm_go 61 (by exact okX11_turns) rfl ?_; (try dsimp only [pm_st1, pm_st2, pm_cat2, pm_la, Option.toList, List.cons_append, List.nil_append])
            rw [nI_1]
            refine pm_G.fg [false, false, false, true, true] ?_; dsimp only [pm_fg]
            obtain ⟨w0, w34, w35, w36, w37, wd36, wd37⟩ := tn_w_F (mu := pm_up mu1 36 d (nI (i + 1))) (d := d) (x := gd_mo law (tn_o r o) s)
            have hFw : tnF d mu (tn_w (pm_up mu1 36 d (nI (i + 1))) d (gd_mo law (tn_o r o) s)) := cnt.tr w0
            have m0w : ∀ a, a < 34 ∨ 38 ≤ a → tn_w (pm_up mu1 36 d (nI (i + 1))) d (gd_mo law (tn_o r o) s) a = mu0 a := fun a ha => (hFw.1 a ha).trans (hm a ha)
            rw [pm_up_at] at wd36
            rw [pm_up_o (by omega), q37] at wd37
            generalize tn_w (pm_up mu1 36 d (nI (i + 1))) d (gd_mo law (tn_o r o) s) = muw at hFw m0w w34 w35 w36 w37 wd36 wd37 ⊢
            have hs2 := rOK_s hR2 hB6.2
            by_cases hbl : (gd_mo law (tn_o r o) s).2.testBit bed = true
            · have hv : tn_c law gate B pa bed f d s (tn_o r o) = d + 1 := if_pos hbl
              refine pm_go 9999 (by exact okX11_turns) rfl ?_; (try dsimp only [pm_st1, pm_st2, pm_cat2, pm_la, Option.toList, List.cons_append, List.nil_append])
              refine pm_zlt (by exact okX11_turns) rfl (fun h2 => ?_) (fun h2 => ?_)
              · exact absurd h2 (nI_pos (by omega))
              · refine pm_go 9999 (by exact okX11_turns) rfl ?_; (try dsimp only [pm_st1, pm_st2, pm_cat2, pm_la, Option.toList, List.cons_append, List.nil_append])
                refine pm_zle (by exact okX11_turns) rfl (fun h3 => ?_) (fun h3 => ?_)
                · exact absurd h3 (nI_nle (by omega) (by omega))
                · refine pm_go 9999 (by exact okX11_turns) rfl ?_; (try dsimp only [pm_st1, pm_st2, pm_cat2, pm_la, Option.toList, List.cons_append, List.nil_append])
                  refine pm_ial (by exact okX11_turns) rfl rfl (vp_in_nI (by omega) (by omega)) ?_
                  rw [nI_clamp (by omega), w35]
                  refine pm_go 9999 (by exact okX11_turns) rfl ?_; (try dsimp only [pm_st1, pm_st2, pm_cat2, pm_la, Option.toList, List.cons_append, List.nil_append])
                  refine pm_cs (by exact okX11_turns) (by exact okX11_has) rfl (by exact arX11_has) (t_has (d := 0) (s := (gd_mo law (tn_o r o) s).2) (k := bed) (by omega) (by omega)) rfl (by dsimp only; omega) rfl (Nat.le_of_ble_eq_true rfl) ⟨Nat.zero_le _, Nat.zero_le _⟩ ?_
                  rintro _ _ _ _ ⟨rfl, rfl, rfl, rfl⟩ -
                  refine pm_go 9999 (by exact okX11_turns) rfl ?_; (try dsimp only [pm_st1, pm_st2, pm_cat2, pm_la, Option.toList, List.cons_append, List.nil_append])
                  refine pm_zeq (by exact okX11_turns) rfl (fun h4 => ?_) (fun h4 => ?_)
                  · exact absurd hbl (bI_z.mp h4)
                  · refine pm_go 9999 (by exact okX11_turns) rfl ?_; (try dsimp only [pm_st1, pm_st2, pm_cat2, pm_la, Option.toList, List.cons_append, List.nil_append])
                    rw [nI_pred]
                    refine pm_cv (by exact okX11_turns) (by exact okX11_take) rfl (by exact arX11_take) (t_take (d0 := 0) (d := d) (v := d + 1) (acc := tn_acc gate B pa d r s (tn_c law gate B pa bed f d s) i) (by omega) (by omega) wd37 hal) rfl rfl rfl (by dsimp only; omega) rfl (Nat.le_of_ble_eq_true rfl) ⟨Nat.zero_le _, Nat.zero_le _⟩ ?_
                    rintro _ _ _ _ ⟨rfl, rfl, rfl, rfl⟩ -
                    refine pm_go 61 (by exact okX11_turns) rfl ?_; (try dsimp only [pm_st1, pm_st2, pm_cat2, pm_la, Option.toList, List.cons_append, List.nil_append])
                    rw [pk_m1]
                    exact back (d + 1) muw hv.symm hFw wd36 wd37
            · have hbl' : (gd_mo law (tn_o r o) s).2.testBit bed = false := by simpa using hbl
              have hv : tn_c law gate B pa bed f d s (tn_o r o) = tn_v law gate B pa bed f (d + 1) (gd_mo law (tn_o r o) s).1 (gd_mo law (tn_o r o) s).2 := if_neg hbl
              refine ihf (d + 1) (gd_mo law (tn_o r o) s).1 (gd_mo law (tn_o r o) s).2 muw m0w w34 w35 w36 w37 hR2 hbl' (by omega) (by omega) (fun mu3 hF3 z36 z37 => ?_)
              have hvl := tn_v_le (law := law) (gate := gate) (B := B) (pa := pa) (bed := bed) f (d + 1) (gd_mo law (tn_o r o) s).1 (gd_mo law (tn_o r o) s).2
              have e35 : mu3 35 (d + 1) = nI (gd_mo law (tn_o r o) s).2 := ((hF3.2.1 (d + 1) (Nat.le_refl _)).2).trans w35
              have e36 : mu3 36 d = nI (i + 1) := ((hF3.2.2 d (by omega)).1).trans wd36
              have e37 : mu3 37 d = nO (tn_acc gate B pa d r s (tn_c law gate B pa bed f d s) i) := ((hF3.2.2 d (by omega)).2).trans wd37
              have e19 : mu3 19 0 = nI B := by rw [hF3.1 19 (by omega), m0w 19 (by omega)]; exact hB
              refine pm_go 9999 (by exact okX11_turns) rfl ?_; (try dsimp only [pm_st1, pm_st2, pm_cat2, pm_la, Option.toList, List.cons_append, List.nil_append])
              refine pm_zlt (by exact okX11_turns) rfl (fun h2 => ?_) (fun h2 => ?_)
              · exact absurd h2 (nI_pos (by omega))
              · refine pm_go 9999 (by exact okX11_turns) rfl ?_; (try dsimp only [pm_st1, pm_st2, pm_cat2, pm_la, Option.toList, List.cons_append, List.nil_append])
                refine pm_zle (by exact okX11_turns) rfl (fun h3 => ?_) (fun h3 => ?_)
                · exact absurd h3 (nI_nle (by omega) (by omega))
                · refine pm_go 9999 (by exact okX11_turns) rfl ?_; (try dsimp only [pm_st1, pm_st2, pm_cat2, pm_la, Option.toList, List.cons_append, List.nil_append])
                  refine pm_ial (by exact okX11_turns) rfl rfl (vp_in_nI (by omega) (by omega)) ?_
                  rw [nI_clamp (by omega), e35]
                  refine pm_go 9999 (by exact okX11_turns) rfl ?_; (try dsimp only [pm_st1, pm_st2, pm_cat2, pm_la, Option.toList, List.cons_append, List.nil_append])
                  refine pm_cs (by exact okX11_turns) (by exact okX11_has) rfl (by exact arX11_has) (t_has (d := 0) (s := (gd_mo law (tn_o r o) s).2) (k := bed) (by omega) (by omega)) rfl (by dsimp only; omega) rfl (Nat.le_of_ble_eq_true rfl) ⟨Nat.zero_le _, Nat.zero_le _⟩ ?_
                  rintro _ _ _ _ ⟨rfl, rfl, rfl, rfl⟩ -
                  refine pm_go 9999 (by exact okX11_turns) rfl ?_; (try dsimp only [pm_st1, pm_st2, pm_cat2, pm_la, Option.toList, List.cons_append, List.nil_append])
                  refine pm_zeq (by exact okX11_turns) rfl (fun h4 => ?_) (fun h4 => ?_)
                  · refine pm_go 9999 (by exact okX11_turns) rfl ?_; (try dsimp only [pm_st1, pm_st2, pm_cat2, pm_la, Option.toList, List.cons_append, List.nil_append])
                    refine pm_ial (by exact okX11_turns) rfl rfl (vp_in_nI (by omega) (by omega)) ?_
                    rw [nI_clamp (by omega), z36]
                    refine pm_go 9999 (by exact okX11_turns) rfl ?_; (try dsimp only [pm_st1, pm_st2, pm_cat2, pm_la, Option.toList, List.cons_append, List.nil_append])
                    rw [e19]
                    refine pm_ile (by exact okX11_turns) rfl (fun h5 => ?_) (fun h5 => ?_)
                    · have := (nI_leI (by omega) (by omega)).mp h5
                      omega
                    · refine pm_go 9999 (by exact okX11_turns) rfl ?_; (try dsimp only [pm_st1, pm_st2, pm_cat2, pm_la, Option.toList, List.cons_append, List.nil_append])
                      refine pm_zle (by exact okX11_turns) rfl (fun h6 => ?_) (fun h6 => ?_)
                      · exact absurd h6 (nI_nle (by omega) (by omega))
                      · refine pm_go 9999 (by exact okX11_turns) rfl ?_; (try dsimp only [pm_st1, pm_st2, pm_cat2, pm_la, Option.toList, List.cons_append, List.nil_append])
                        rw [nI_pred]
                        refine pm_ial (by exact okX11_turns) rfl rfl (vp_in_nI (by omega) (by omega)) ?_
                        rw [nI_clamp (by omega), z37]
                        refine pm_cv (by exact okX11_turns) (by exact okX11_take) rfl (by exact arX11_take) (t_take (d0 := 0) (d := d) (v := tn_v law gate B pa bed f (d + 1) (gd_mo law (tn_o r o) s).1 (gd_mo law (tn_o r o) s).2) (acc := tn_acc gate B pa d r s (tn_c law gate B pa bed f d s) i) (by omega) (by omega) e37 hal) rfl rfl rfl (by dsimp only; omega) rfl (Nat.le_of_ble_eq_true rfl) ⟨Nat.zero_le _, Nat.zero_le _⟩ ?_
                        rintro _ _ _ _ ⟨rfl, rfl, rfl, rfl⟩ -
                        refine pm_go 61 (by exact okX11_turns) rfl ?_; (try dsimp only [pm_st1, pm_st2, pm_cat2, pm_la, Option.toList, List.cons_append, List.nil_append])
                        rw [pk_m1]
                        exact back _ mu3 hv.symm (hFw.tr hF3.dn) e36 e37
                  · exact absurd (bI_n.mp h4) hbl
        -- the loop's body
        have body : pm_G cx (mX11_turns, d0, 0, 0, n0, Q) 0 0 96 [some (.ref 19), some (.int (nI bed)), some (.int (nI d)), none, none] [] (sh_ i0 i1 ex) mu1 nu := by
          refine pm_go 9999 (by exact okX11_turns) rfl ?_; (try dsimp only [pm_st1, pm_st2, pm_cat2, pm_la, Option.toList, List.cons_append, List.nil_append])
          refine pm_ial (by exact okX11_turns) rfl rfl (vp_in_nI (by omega) (by omega)) ?_
          rw [nI_clamp (by omega), q36]
          refine pm_go 9999 (by exact okX11_turns) rfl ?_; (try dsimp only [pm_st1, pm_st2, pm_cat2, pm_la, Option.toList, List.cons_append, List.nil_append])
          rw [m0 19 (by omega), hB]
          refine pm_ile (by exact okX11_turns) rfl (fun h1 => ?_) (fun h1 => ?_)
          · refine pm_go 9999 (by exact okX11_turns) rfl ?_; (try dsimp only [pm_st1, pm_st2, pm_cat2, pm_la, Option.toList, List.cons_append, List.nil_append])
            refine pm_ial (by exact okX11_turns) rfl rfl (vp_in_nI (by omega) (by omega)) ?_
            rw [nI_clamp (by omega), q36]
            refine pm_go 9999 (by exact okX11_turns) rfl ?_; (try dsimp only [pm_st1, pm_st2, pm_cat2, pm_la, Option.toList, List.cons_append, List.nil_append])
            refine pm_ial (by exact okX11_turns) rfl rfl (vp_in_nI (by omega) (by omega)) ?_
            rw [nI_clamp (by omega), q36]
            refine pm_go 9999 (by exact okX11_turns) rfl ?_; (try dsimp only [pm_st1, pm_st2, pm_cat2, pm_la, Option.toList, List.cons_append, List.nil_append])
            rw [nI_1]
            refine pm_ias (by exact okX11_turns) rfl rfl (vp_in_nI (by omega) (by omega)) ?_
            rw [nI_clamp (by omega)]
            refine pm_go 9999 (by exact okX11_turns) rfl ?_; (try dsimp only [pm_st1, pm_st2, pm_cat2, pm_la, Option.toList, List.cons_append, List.nil_append])
            by_cases hi0 : i = 0
            · subst hi0
              rw [show nI 0 - 1 = -1 from rfl]
              refine pm_zge (by exact okX11_turns) rfl (fun h2 => ?_) (fun h2 => ?_)
              · exact absurd h2 (by decide)
              · refine pm_go 9999 (by exact okX11_turns) rfl ?_; (try dsimp only [pm_st1, pm_st2, pm_cat2, pm_la, Option.toList, List.cons_append, List.nil_append])
                refine pm_cv (by exact okX11_turns) (by exact okX11_canWater) rfl (by exact arX11_canWater) (t_canWater (d0 := 2) (d := d) (B := B) (gate := gate) (s := s) (pa := pa) (r := r) (by omega) (by rw [pm_up_o (by omega), m0 19 (by omega)]; exact hB) hB6.2 (by rw [pm_up_o (by omega), m0 19 (by omega)]; exact hG) hg.2 (fun k hk => by rw [pm_up_o (by omega), m0 21 (by omega)]; exact hPa k hk) (fun k o hk ho => by have := (hpa k o hk ho).2; omega) (by rw [pm_up_o (by omega)]; exact f34) (by rw [pm_up_o (by omega)]; exact f35) (by omega) hok hln (by omega)) rfl rfl rfl (by dsimp only; omega) rfl (Nat.le_of_ble_eq_true rfl) ⟨Nat.zero_le _, Nat.zero_le _⟩ ?_
                rintro _ _ _ _ ⟨rfl, rfl, rfl, rfl⟩ -
                refine pm_go 9999 (by exact okX11_turns) rfl ?_; (try dsimp only [pm_st1, pm_st2, pm_cat2, pm_la, Option.toList, List.cons_append, List.nil_append])
                refine pm_zne (by exact okX11_turns) rfl (fun h3 => ?_) (fun h3 => ?_)
                · have h3 := bI_n.mp h3
                  refine pm_go 196 (by exact okX11_turns) rfl ?_; (try dsimp only [pm_st1, pm_st2, pm_cat2, pm_la, Option.toList, List.cons_append, List.nil_append])
                  exact skip _ (by rw [tn_acc_0, if_pos h3]; rfl)
                · have h3 := bI_z.mp h3
                  refine pm_go 196 (by exact okX11_turns) rfl ?_; (try dsimp only [pm_st1, pm_st2, pm_cat2, pm_la, Option.toList, List.cons_append, List.nil_append])
                  refine take none _ rfl (fun x hx => by cases hx) (fun q => ?_) (by rw [tn_acc_0, if_neg h3]; rfl)
                  have q : r = [] := q
                  rw [q] at h3
                  exact h3 (gd_cw_nil hg.1 hpa hB6.2 6 bed hbed (by rw [hs]; decide) (hdd bed (by omega)))
            · rw [nI_m1 (by omega)]
              refine pm_zge (by exact okX11_turns) rfl (fun h2 => ?_) (fun h2 => ?_)
              · refine pm_go 9999 (by exact okX11_turns) rfl ?_; (try dsimp only [pm_st1, pm_st2, pm_cat2, pm_la, Option.toList, List.cons_append, List.nil_append])
                refine pm_ial (by exact okX11_turns) rfl rfl (vp_in_nI (by omega) (by omega)) ?_
                rw [nI_clamp (by omega), pm_up_o (by omega), f34]
                refine pm_go 9999 (by exact okX11_turns) rfl ?_; (try dsimp only [pm_st1, pm_st2, pm_cat2, pm_la, Option.toList, List.cons_append, List.nil_append])
                refine pm_ial (by exact okX11_turns) rfl rfl (vp_in_nI (by omega) (by omega)) ?_
                rw [nI_clamp (by omega), pm_up_o (by omega), f35]
                refine pm_go 9999 (by exact okX11_turns) rfl ?_; (try dsimp only [pm_st1, pm_st2, pm_cat2, pm_la, Option.toList, List.cons_append, List.nil_append])
                refine pm_cv (by exact okX11_turns) (by exact okX11_whyNot) rfl (by exact arX11_whyNot) (t_whyNot (d := 1) (gate := gate) (pa := pa) (r := r) (s := s) (b := i - 1) (by rw [pm_up_o (by omega), m0 19 (by omega)]; exact hG) hg.2 (fun k hk => by rw [pm_up_o (by omega), m0 21 (by omega)]; exact hPa k hk) (fun k o hk ho => by have := (hpa k o hk ho).2; omega) (by omega) (by omega) hok hln (by omega)) rfl rfl rfl (by dsimp only; omega) rfl (Nat.le_of_ble_eq_true rfl) ⟨Nat.zero_le _, Nat.zero_le _⟩ ?_
                rintro _ _ _ _ ⟨rfl, rfl, rfl, rfl⟩ -
                have hwl := gd_wy_le (gate := gate) (pa := pa) (r := r) (s := s) (b := i - 1)
                refine pm_go 9999 (by exact okX11_turns) rfl ?_; (try dsimp only [pm_st1, pm_st2, pm_cat2, pm_la, Option.toList, List.cons_append, List.nil_append])
                refine pm_zne (by exact okX11_turns) rfl (fun h4 => ?_) (fun h4 => ?_)
                · have h5 : ¬ gd_wy gate pa r s (i - 1) = 0 := fun q => h4 (by rw [q]; rfl)
                  refine pm_go 196 (by exact okX11_turns) rfl ?_; (try dsimp only [pm_st1, pm_st2, pm_cat2, pm_la, Option.toList, List.cons_append, List.nil_append])
                  exact skip _ (by rw [tn_acc_b hi0, if_neg h5])
                · have h5 : gd_wy gate pa r s (i - 1) = 0 := (nI_eq (b := 0) (by omega) (by omega)).mp h4
                  refine pm_go 196 (by exact okX11_turns) rfl ?_; (try dsimp only [pm_st1, pm_st2, pm_cat2, pm_la, Option.toList, List.cons_append, List.nil_append])
                  exact take (some (i - 1)) _ rfl (fun x hx => by cases hx; exact ⟨by omega, h5⟩) (fun q => by cases q) (by rw [tn_acc_b hi0, if_pos h5])
              · exact absurd (nI_pos' (by omega)) h2
          · exact absurd (nI_le (by omega) (by omega)) h1
        refine pm_go 9999 (by exact okX11_turns) rfl ?_; (try dsimp only [pm_st1, pm_st2, pm_cat2, pm_la, Option.toList, List.cons_append, List.nil_append])
        refine pm_zlt (by exact okX11_turns) rfl (fun h1 => ?_) (fun h1 => ?_)
        · exact absurd h1 (nI_pos (by omega))
        · refine pm_go 96 (by exact okX11_turns) rfl ?_; (try dsimp only [pm_st1, pm_st2, pm_cat2, pm_la, Option.toList, List.cons_append, List.nil_append])
          refine pm_zle (by exact okX11_turns) rfl (fun h2 => ?_) (fun h2 => ?_)
          · exact body
          · refine pm_go 9999 (by exact okX11_turns) rfl ?_; (try dsimp only [pm_st1, pm_st2, pm_cat2, pm_la, Option.toList, List.cons_append, List.nil_append])
            refine pm_ial (by exact okX11_turns) rfl rfl (vp_in_nI (by omega) (by omega)) ?_
            rw [nI_clamp (by omega), f35]
            refine pm_go 9999 (by exact okX11_turns) rfl ?_; (try dsimp only [pm_st1, pm_st2, pm_cat2, pm_la, Option.toList, List.cons_append, List.nil_append])
            refine pm_cs (by exact okX11_turns) (by exact okX11_has) rfl (by exact arX11_has) (t_has (d := 0) (s := s) (k := bed) (by omega) (by omega)) rfl (by dsimp only; omega) rfl (Nat.le_of_ble_eq_true rfl) ⟨Nat.zero_le _, Nat.zero_le _⟩ ?_
            rintro _ _ _ _ ⟨rfl, rfl, rfl, rfl⟩ -
            refine pm_go 96 (by exact okX11_turns) rfl ?_; (try dsimp only [pm_st1, pm_st2, pm_cat2, pm_la, Option.toList, List.cons_append, List.nil_append])
            refine pm_zeq (by exact okX11_turns) rfl (fun h3 => ?_) (fun h3 => ?_)
            · exact body
            · exact absurd (bI_n.mp h3) (by rw [hs]; decide)
    exact inner (B + 1) 0 mu (by omega) tnF.rf (by rw [h36]; rfl) (by rw [h37]; rfl)
def sp_turns (z : mS) (b : Int32) : Int32 := if isB (gB z.1) b then (if (gM z.1).testBit b.toNatClampNeg = true then -6 else nI (tn_v (gL z.1) (gG z.1) (gB z.1) (gP z.1) b.toNatClampNeg 6 0 (gR z.1) (gM z.1))) else -1
set_option maxRecDepth 100000 in
set_option maxHeartbeats 1000000 in
theorem M_turns {z : mS} {mu : pm_I} (b : Int32) (hz : zOK z) (h : MA z mu) (hd : 3 ≤ d0) : pm_T cx mX11_turns d0 0 0 [.ref 19, .int b] (sh_ i0 i1 ex) mu nu (mQ (.int (sp_turns z b)) z i0 i1 ex mu) := by
  obtain ⟨⟨a1, a2, a3, a4, a5, a6, a7, a8, a9, b1, b2, b3, b4, b5⟩, c1, c2⟩ := id h
  obtain ⟨⟨hB6, hlaw, hg, -, -, hpa, hdd, hR, -⟩, -⟩ := id hz
  have hs64 := rOK_s hR hB6.2
  unfold sp_turns
  refine pm_enterN 3 (by exact okX11_turns) rfl ?_; dsimp only [pm_la, pm_cat2, List.replicate, List.cons_append, List.nil_append, List.append_nil]
  refine pm_go 9999 (by exact okX11_turns) rfl ?_; (try dsimp only [pm_st1, pm_st2, pm_cat2, pm_la, Option.toList, List.cons_append, List.nil_append])
  refine pm_cv (by exact okX11_turns) (by exact okX11_isBed) rfl (by exact arX11_isBed) (t_isBed (d := 1) b a1 (by omega) (by omega)) rfl rfl rfl (by dsimp only; omega) rfl (Nat.le_of_ble_eq_true rfl) ⟨Nat.zero_le _, Nat.zero_le _⟩ ?_
  rintro _ _ _ _ ⟨rfl, rfl, rfl, rfl⟩ -
  refine pm_go 9999 (by exact okX11_turns) rfl ?_; (try dsimp only [pm_st1, pm_st2, pm_cat2, pm_la, Option.toList, List.cons_append, List.nil_append])
  refine pm_zne (by exact okX11_turns) rfl (fun h1 => ?_) (fun h1 => ?_)
  · have h1 := bI_n.mp h1
    rw [if_pos h1]
    obtain ⟨k, hk, rfl⟩ := isB_of hB6.2 h1
    rw [nI_clamp (n := k) (by omega)]
    refine pm_go 9999 (by exact okX11_turns) rfl ?_; (try dsimp only [pm_st1, pm_st2, pm_cat2, pm_la, Option.toList, List.cons_append, List.nil_append])
    rw [a7]
    refine pm_cs (by exact okX11_turns) (by exact okX11_has) rfl (by exact arX11_has) (t_has (d := 0) (s := gM z.1) (k := k) (by omega) (by omega)) rfl (by dsimp only; omega) rfl (Nat.le_of_ble_eq_true rfl) ⟨Nat.zero_le _, Nat.zero_le _⟩ ?_
    rintro _ _ _ _ ⟨rfl, rfl, rfl, rfl⟩ -
    refine pm_go 9999 (by exact okX11_turns) rfl ?_; (try dsimp only [pm_st1, pm_st2, pm_cat2, pm_la, Option.toList, List.cons_append, List.nil_append])
    refine pm_zeq (by exact okX11_turns) rfl (fun h2 => ?_) (fun h2 => ?_)
    · have h2 := bI_z.mp h2
      rw [if_neg h2]
      have h2' : (gM z.1).testBit k = false := by simpa using h2
      refine pm_go 9999 (by exact okX11_turns) rfl ?_; (try dsimp only [pm_st1, pm_st2, pm_cat2, pm_la, Option.toList, List.cons_append, List.nil_append])
      rw [a6]
      refine pm_ias (by exact okX11_turns) rfl rfl (vp_in_nI (n := 0) (by omega) (by omega)) ?_
      refine pm_go 9999 (by exact okX11_turns) rfl ?_; (try dsimp only [pm_st1, pm_st2, pm_cat2, pm_la, Option.toList, List.cons_append, List.nil_append])
      rw [pm_up_o (by omega), a7]
      refine pm_ias (by exact okX11_turns) rfl rfl (vp_in_nI (n := 0) (by omega) (by omega)) ?_
      refine pm_go 9999 (by exact okX11_turns) rfl ?_; (try dsimp only [pm_st1, pm_st2, pm_cat2, pm_la, Option.toList, List.cons_append, List.nil_append])
      refine pm_ias (by exact okX11_turns) rfl rfl (vp_in_nI (n := 0) (by omega) (by omega)) ?_
      refine pm_go 9999 (by exact okX11_turns) rfl ?_; (try dsimp only [pm_st1, pm_st2, pm_cat2, pm_la, Option.toList, List.cons_append, List.nil_append])
      refine pm_ias (by exact okX11_turns) rfl rfl (vp_in_nI (n := 0) (by omega) (by omega)) ?_
      rw [show (0 : Int32).toNatClampNeg = 0 from rfl]
      refine pm_go 61 (by exact okX11_turns) rfl ?_; (try dsimp only [pm_st1, pm_st2, pm_cat2, pm_la, Option.toList, List.cons_append, List.nil_append])
      refine pm_G.cast (L' := [some (.ref 19), some (.int (nI k)), some (.int (nI 0)), none, none]) (S' := []) (mu' := pm_up (pm_up (pm_up (pm_up mu 34 0 (nI (md_r7 (gR z.1)))) 35 0 (nI (gM z.1))) 36 0 0) 37 0 (-6)) (nu' := nu) ?_ rfl rfl rfl rfl
      have keep : ∀ a, a < 34 ∨ 38 ≤ a → pm_up (pm_up (pm_up (pm_up mu 34 0 (nI (md_r7 (gR z.1)))) 35 0 (nI (gM z.1))) 36 0 0) 37 0 (-6) a = mu a := fun a ha => by rw [pm_up_ne (by omega), pm_up_ne (by omega), pm_up_ne (by omega), pm_up_ne (by omega)]
      have hu : (gd_rn (gM z.1) (gB z.1)).length ≤ 6 := Nat.le_trans (gd_rn_len _ _) hB6.2
      refine M_turns_node (mu0 := mu) a1 hB6 a2 hlaw a3 hg b2 hpa hdd hk hd 6 0 (gR z.1) (gM z.1) _ keep (by rw [pm_up_o (by omega), pm_up_o (by omega), pm_up_o (by omega), pm_up_at]) (by rw [pm_up_o (by omega), pm_up_o (by omega), pm_up_at]) (by rw [pm_up_o (by omega), pm_up_at]) pm_up_at hR h2' hu (by omega) (fun mu3 hF3 z36 z37 => ?_)
      have m3 : ∀ a, a < 34 ∨ 38 ≤ a → mu3 a = mu a := fun a ha => (hF3.1 a ha).trans (keep a ha)
      have hMA : MA z mu3 := h.same (fun j hj => by rw [m3 19 (by omega)]) (fun a q1 q2 => m3 a (by omega)) (m3 38 (by omega)) (m3 39 (by omega))
      have hfm : fM mu mu3 := fun a ha => m3 a (by omega)
      refine pm_go 9999 (by exact okX11_turns) rfl ?_; (try dsimp only [pm_st1, pm_st2, pm_cat2, pm_la, Option.toList, List.cons_append, List.nil_append])
      refine pm_zlt (by exact okX11_turns) rfl (fun h3 => ?_) (fun h3 => ?_)
      · exact absurd h3 (by decide)
      · refine pm_go 9999 (by exact okX11_turns) rfl ?_; (try dsimp only [pm_st1, pm_st2, pm_cat2, pm_la, Option.toList, List.cons_append, List.nil_append])
        refine pm_zle (by exact okX11_turns) rfl (fun h4 => ?_) (fun h4 => ?_)
        · refine pm_go 9999 (by exact okX11_turns) rfl ?_; (try dsimp only [pm_st1, pm_st2, pm_cat2, pm_la, Option.toList, List.cons_append, List.nil_append])
          refine pm_ial (by exact okX11_turns) rfl rfl (vp_in_nI (n := 0) (by omega) (by omega)) ?_
          rw [show (nI 0).toNatClampNeg = 0 from rfl, z36]
          refine pm_go 9999 (by exact okX11_turns) rfl ?_; (try dsimp only [pm_st1, pm_st2, pm_cat2, pm_la, Option.toList, List.cons_append, List.nil_append])
          rw [m3 19 (by omega), a1]
          refine pm_ile (by exact okX11_turns) rfl (fun h5 => ?_) (fun h5 => ?_)
          · have := (nI_leI (by omega) (by omega)).mp h5
            omega
          · refine pm_go 9999 (by exact okX11_turns) rfl ?_; (try dsimp only [pm_st1, pm_st2, pm_cat2, pm_la, Option.toList, List.cons_append, List.nil_append])
            refine pm_zle (by exact okX11_turns) rfl (fun h6 => ?_) (fun h6 => ?_)
            · refine pm_go 9999 (by exact okX11_turns) rfl ?_; (try dsimp only [pm_st1, pm_st2, pm_cat2, pm_la, Option.toList, List.cons_append, List.nil_append])
              refine pm_zlt (by exact okX11_turns) rfl (fun h7 => ?_) (fun h7 => ?_)
              · refine pm_go 9999 (by exact okX11_turns) rfl ?_; (try dsimp only [pm_st1, pm_st2, pm_cat2, pm_la, Option.toList, List.cons_append, List.nil_append])
                refine pm_ial (by exact okX11_turns) rfl rfl (vp_in_nI (n := 0) (by omega) (by omega)) ?_
                rw [show (0 : Int32).toNatClampNeg = 0 from rfl, z37]
                refine pm_go 9999 (by exact okX11_turns) rfl ?_; (try dsimp only [pm_st1, pm_st2, pm_cat2, pm_la, Option.toList, List.cons_append, List.nil_append])
                refine pm_ri (by exact okX11_turns) rfl rfl rfl (Nat.le_refl _) (Nat.le_refl _) (⟨rfl, rfl, hMA, hfm⟩)
              · exact absurd (by decide) h7
            · exact absurd (by decide) h6
        · exact absurd (by decide) h4
    · have h2 := bI_n.mp h2
      rw [if_pos h2]
      refine pm_go 9999 (by exact okX11_turns) rfl ?_; (try dsimp only [pm_st1, pm_st2, pm_cat2, pm_la, Option.toList, List.cons_append, List.nil_append])
      refine pm_ri (by exact okX11_turns) rfl rfl rfl (Nat.le_refl _) (Nat.le_refl _) (⟨rfl, rfl, h, fM.rf⟩)
  · have h1 := bI_z.mp h1
    rw [if_neg h1]
    refine pm_go 9999 (by exact okX11_turns) rfl ?_; (try dsimp only [pm_st1, pm_st2, pm_cat2, pm_la, Option.toList, List.cons_append, List.nil_append])
    refine pm_ri (by exact okX11_turns) rfl rfl rfl (Nat.le_refl _) (Nat.le_refl _) (⟨rfl, rfl, h, fM.rf⟩)
end

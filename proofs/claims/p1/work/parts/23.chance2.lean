theorem lcmp0 {a : Nat} (ha : a < 2 ^ 63) : lg_cmp (lN a) 0 = 0 ↔ a = 0 := by
  unfold lg_cmp
  have e : ∀ b, b < 2 ^ 63 → (lN a = lN b ↔ a = b) := fun b hb => pk_lEQ ha hb
  have e0 := e 0 (by omega)
  have l0 : (0 : Int64) < lN a ↔ 0 < a := pk_lLT (a := 0) (b := a) (by omega) ha
  by_cases h : a = 0
  · subst h
    simp only [iff_true]
    rfl
  · rw [if_pos (l0.mpr (by omega))]
    exact ⟨fun q => absurd q (by decide), fun q => absurd q h⟩
section
variable {cx : pm_CX} {d n0 : Nat} {i0 i1 : Option Nat} {ex : List pm_C} {mu : pm_I} {nu : pm_J}
set_option maxRecDepth 100000 in
set_option maxHeartbeats 1000000 in
theorem M_chance_g {Q : pm_Po} {x1 : Int32} {up low G : Nat} (hup : up < 2 ^ 62) (hlow : low < 2 ^ 62) (hG : 0 < G) (kk : (x1 = 0 → Q (some (.long (lN (up / G)))) (sh_ i0 i1 ex) mu nu) ∧ (¬ x1 = 0 → Q (some (.long (lN (low / G)))) (sh_ i0 i1 ex) mu nu)) : ∀ (n b a : Nat), b ≤ n → b < 2 ^ 62 → a < 2 ^ 62 → Nat.gcd b a = G → pm_G cx (mX11_chance, d, 0, 0, n0, Q) 0 0 243 [some (.ref 19), some (.int x1), some (.long (lN up)), none, some (.long (lN low)), none, some (.long (lN a)), none, some (.long (lN b)), none, none, none, none] [] (sh_ i0 i1 ex) mu nu := by
  intro n
  induction n with
  | zero =>
    intro b a hb hb2 ha2 hg
    have hb : b = 0 := by omega
    subst hb
    rw [Nat.gcd_zero_left] at hg
    subst hg
    have hne : ¬ lN a = 0 := fun q => by
      have := (pk_lEQ (a := a) (b := 0) (by omega) (by omega)).mp q
      omega
    refine pm_go 9999 (by exact okX11_chance) rfl ?_; (try dsimp only [pm_st1, pm_st2, pm_cat2, pm_la, Option.toList, List.cons_append, List.nil_append])
    refine pm_zeq (by exact okX11_chance) rfl (fun h1 => ?_) (fun h1 => ?_)
    · refine pm_go 9999 (by exact okX11_chance) rfl ?_; (try dsimp only [pm_st1, pm_st2, pm_cat2, pm_la, Option.toList, List.cons_append, List.nil_append])
      refine pm_zne (by exact okX11_chance) rfl (fun h2 => ?_) (fun h2 => ?_)
      · refine pm_go 9999 (by exact okX11_chance) rfl ?_; (try dsimp only [pm_st1, pm_st2, pm_cat2, pm_la, Option.toList, List.cons_append, List.nil_append])
        refine pm_ldv (by exact okX11_chance) rfl (hne) ?_
        rw [pk_lDiv (by omega) hG (by omega)]
        refine pm_go 9999 (by exact okX11_chance) rfl ?_; (try dsimp only [pm_st1, pm_st2, pm_cat2, pm_la, Option.toList, List.cons_append, List.nil_append])
        refine pm_rl (by exact okX11_chance) rfl rfl (Nat.le_refl _) (Nat.le_refl _) (kk.2 h2)
      · refine pm_go 9999 (by exact okX11_chance) rfl ?_; (try dsimp only [pm_st1, pm_st2, pm_cat2, pm_la, Option.toList, List.cons_append, List.nil_append])
        refine pm_ldv (by exact okX11_chance) rfl (hne) ?_
        rw [pk_lDiv (by omega) hG (by omega)]
        refine pm_go 9999 (by exact okX11_chance) rfl ?_; (try dsimp only [pm_st1, pm_st2, pm_cat2, pm_la, Option.toList, List.cons_append, List.nil_append])
        refine pm_rl (by exact okX11_chance) rfl rfl (Nat.le_refl _) (Nat.le_refl _) (kk.1 h2)
    · exact absurd ((lcmp0 (by omega)).mpr rfl) h1
  | succ n ih =>
    intro b a hb hb2 ha2 hg
    rcases Nat.eq_zero_or_pos b with q | q
    · exact ih b a (by omega) hb2 ha2 hg
    · have hne : ¬ lN b = 0 := fun w => by
        have := (pk_lEQ (a := b) (b := 0) (by omega) (by omega)).mp w
        omega
      have hmod := Nat.mod_lt a q
      refine pm_go 9999 (by exact okX11_chance) rfl ?_; (try dsimp only [pm_st1, pm_st2, pm_cat2, pm_la, Option.toList, List.cons_append, List.nil_append])
      refine pm_zeq (by exact okX11_chance) rfl (fun h1 => ?_) (fun h1 => ?_)
      · have := (lcmp0 (by omega)).mp h1
        omega
      · refine pm_go 9999 (by exact okX11_chance) rfl ?_; (try dsimp only [pm_st1, pm_st2, pm_cat2, pm_la, Option.toList, List.cons_append, List.nil_append])
        refine pm_lrm (by exact okX11_chance) rfl (hne) ?_
        rw [pk_lRem (by omega) q (by omega)]
        refine pm_go 243 (by exact okX11_chance) rfl ?_; (try dsimp only [pm_st1, pm_st2, pm_cat2, pm_la, Option.toList, List.cons_append, List.nil_append])
        refine pm_G.fg [false, false, false, false, false, false, false, false, false, false, true, false, false] ?_; dsimp only [pm_fg]
        refine ih (a % b) b (by omega) (by omega) hb2 ?_
        rw [← Nat.gcd_rec]
        exact hg
set_option maxRecDepth 100000 in
set_option maxHeartbeats 1000000 in
theorem M_chance_o {Q : pm_Po} {z : mS} {x1 : Int32} {lo : Int64} (hz : zOK z) (h : MA z mu) (hw : pd_if (gB z.1) 0 z.2.1 = none) (hd : 2 ≤ d) (kk : pm_G cx (mX11_chance, d, 0, 0, n0, Q) 0 0 236 [some (.ref 19), some (.int x1), some (.long (lN (ch_up z.1 z.2.1))), none, some (.long lo), none, none, none, none, none, none, none, none] [] (sh_ i0 i1 ex) mu nu) : ∀ (j k : Nat), k + j = 2 ^ z.2.1.length → pm_G cx (mX11_chance, d, 0, 0, n0, Q) 0 0 58 [some (.ref 19), some (.int x1), some (.long (lN (fb_sm (fun rains => ch_go (gL z.1) (gB z.1) (gW z.1) (gC z.1) rains z.2.1 0 (gR z.1) (gM z.1) 1) k))), none, some (.long lo), none, some (.int (nI k)), none, none, none, none, none, none] [] (sh_ i0 i1 ex) mu nu := by
  obtain ⟨⟨a1, a2, a3, a4, a5, a6, a7, a8, a9, b1, b2, b3, b4, b5⟩, c1, c2⟩ := id h
  obtain ⟨⟨hB6, -, -, -, -, -, -, hR, -⟩, hp, -⟩ := id hz
  obtain ⟨hlen, hco, hpos⟩ := pd_if_ok z.2.1 0 hw (by omega)
  have hl6 : z.2.1.length ≤ 6 := by omega
  have hpw : 2 ^ z.2.1.length ≤ 2 ^ 6 := Nat.pow_le_pow_right (by omega) hl6
  intro j
  induction j with
  | zero =>
    intro k hk
    have hk : k = 2 ^ z.2.1.length := by omega
    subst hk
    refine pm_go 9999 (by exact okX11_chance) rfl ?_; (try dsimp only [pm_st1, pm_st2, pm_cat2, pm_la, Option.toList, List.cons_append, List.nil_append])
    rw [a5, nI_shl1 (by omega)]
    refine pm_ige (by exact okX11_chance) rfl (fun h1 => ?_) (fun h1 => ?_)
    · refine pm_G.fg [false, false, false, false, false, false, true, false, false, false, false, false, false] ?_; dsimp only [pm_fg]
      exact kk
    · exact absurd (nI_le (Nat.le_refl _) (by omega)) h1
  | succ j ih =>
    intro k hk
    refine pm_go 9999 (by exact okX11_chance) rfl ?_; (try dsimp only [pm_st1, pm_st2, pm_cat2, pm_la, Option.toList, List.cons_append, List.nil_append])
    rw [a5, nI_shl1 (by omega)]
    refine pm_ige (by exact okX11_chance) rfl (fun h1 => ?_) (fun h1 => ?_)
    · exact absurd h1 (nI_ge (by omega) (by omega))
    · refine pm_go 87 (by exact okX11_chance) rfl ?_; (try dsimp only [pm_st1, pm_st2, pm_cat2, pm_la, Option.toList, List.cons_append, List.nil_append])
      rw [a6, a7]
      refine pm_G.cast (L' := [some (.ref 19), some (.int x1), some (.long (lN (fb_sm (fun rains => ch_go (gL z.1) (gB z.1) (gW z.1) (gC z.1) rains z.2.1 0 (gR z.1) (gM z.1) 1) k))), none, some (.long lo), none, some (.int (nI k)), some (.int (nI (md_r7 (gR z.1)))), some (.int (nI (gM z.1))), some (.long (lN 1)), none, some (.int (nI 0)), none]) (S' := []) (mu' := mu) (nu' := nu) ?_ rfl rfl rfl rfl
      refine M_chance_in hz h hw (by omega) hd z.2.1 0 (gR z.1) (gM z.1) 1 rfl (by omega) hR (fun L7 L8 L12 => ?_)
      refine pm_go 58 (by exact okX11_chance) rfl ?_; (try dsimp only [pm_st1, pm_st2, pm_cat2, pm_la, Option.toList, List.cons_append, List.nil_append])
      rw [lN_add, nI_1]
      refine pm_G.fg [false, false, false, false, false, false, false, true, true, true, true, true, true] ?_; dsimp only [pm_fg]
      have := ih (k + 1) (by omega)
      rw [fb_sm_succ] at this
      exact this
set_option maxRecDepth 100000 in
set_option maxHeartbeats 1000000 in
theorem M_chance_l {Q : pm_Po} {pd : List Nat} {x1 : Int32} (hN : mu 19 6 = nI pd.length) (hp : pd.length ≤ 6) (kk : pm_G cx (mX11_chance, d, 0, 0, n0, Q) 0 0 55 [some (.ref 19), some (.int x1), some (.long 0), none, some (.long (lN (10 ^ pd.length))), none, none, none, none, none, none, none, none] [] (sh_ i0 i1 ex) mu nu) : ∀ (j k : Nat), k + j = pd.length → pm_G cx (mX11_chance, d, 0, 0, n0, Q) 0 0 32 [some (.ref 19), some (.int x1), some (.long 0), none, some (.long (lN (10 ^ k))), none, some (.int (nI k)), none, none, none, none, none, none] [] (sh_ i0 i1 ex) mu nu := by
  intro j
  induction j with
  | zero =>
    intro k hk
    have hk : k = pd.length := by omega
    subst hk
    refine pm_go 9999 (by exact okX11_chance) rfl ?_; (try dsimp only [pm_st1, pm_st2, pm_cat2, pm_la, Option.toList, List.cons_append, List.nil_append])
    rw [hN]
    refine pm_ige (by exact okX11_chance) rfl (fun h1 => ?_) (fun h1 => ?_)
    · refine pm_G.fg [false, false, false, false, false, false, true, false, false, false, false, false, false] ?_; dsimp only [pm_fg]
      exact kk
    · exact absurd (nI_le (Nat.le_refl _) (by omega)) h1
  | succ j ih =>
    intro k hk
    refine pm_go 9999 (by exact okX11_chance) rfl ?_; (try dsimp only [pm_st1, pm_st2, pm_cat2, pm_la, Option.toList, List.cons_append, List.nil_append])
    rw [hN]
    refine pm_ige (by exact okX11_chance) rfl (fun h1 => ?_) (fun h1 => ?_)
    · exact absurd h1 (nI_ge (by omega) (by omega))
    · refine pm_go 32 (by exact okX11_chance) rfl ?_; (try dsimp only [pm_st1, pm_st2, pm_cat2, pm_la, Option.toList, List.cons_append, List.nil_append])
      rw [nI_1, show (10 : Int64) = lN 10 from rfl, lN_mul, ← Nat.pow_succ]
      exact ih (k + 1) (by omega)
theorem fb_sm_bd (f : Nat → Nat) (M : Nat) (h : ∀ k, f k ≤ M) : ∀ n, fb_sm f n ≤ n * M := by
  intro n
  induction n with
  | zero => rw [Nat.zero_mul]; exact Nat.le_refl _
  | succ n ih => rw [fb_sm_succ, Nat.succ_mul]; have := h n; omega
theorem ch_up_le {g : gS} {pd : List Nat} (hw : gW g ≤ 10) (hl : pd.length ≤ 6) : ch_up g pd ≤ 64 * 1000000 := by
  have e2 : 2 ^ pd.length ≤ 64 := Nat.le_trans (Nat.pow_le_pow_right (n := 2) (by omega) hl) (by omega)
  have e3 : 10 ^ pd.length ≤ 1000000 := Nat.le_trans (Nat.pow_le_pow_right (n := 10) (by omega) hl) (by omega)
  refine Nat.le_trans (fb_sm_bd _ 1000000 (fun k => ?_) _) (Nat.mul_le_mul_right _ e2)
  refine Nat.le_trans (ch_go_le hw _ _ _ _ _) ?_
  rw [Nat.one_mul]
  exact e3
set_option maxRecDepth 100000 in
set_option maxHeartbeats 1000000 in
theorem M_chance {z : mS} (p : Int32) (hz : zOK z) (h : MA z mu) (hd : 2 ≤ d) : pm_T cx mX11_chance d 0 0 [.ref 19, .int p] (sh_ i0 i1 ex) mu nu (mQ (.long (sp_chance z p)) z i0 i1 ex mu) := by
  obtain ⟨⟨a1, a2, a3, a4, a5, a6, a7, a8, a9, b1, b2, b3, b4, b5⟩, c1, c2⟩ := id h
  obtain ⟨hg, hp, -⟩ := id hz
  have hB6 := hg.1
  have hp1 := hp.1
  unfold sp_chance
  refine pm_enterN 11 (by exact okX11_chance) rfl ?_; dsimp only [pm_la, pm_cat2, List.replicate, List.cons_append, List.nil_append, List.append_nil]
  refine pm_go 9999 (by exact okX11_chance) rfl ?_; (try dsimp only [pm_st1, pm_st2, pm_cat2, pm_la, Option.toList, List.cons_append, List.nil_append])
  refine pm_cs (by exact okX11_chance) (by exact okX11_in) rfl (by exact arX11_in) (t_in (d := 0) p 0 1) rfl (by dsimp only; omega) rfl (Nat.le_of_ble_eq_true rfl) ⟨Nat.zero_le _, Nat.zero_le _⟩ ?_
  rintro _ _ _ _ ⟨rfl, rfl, rfl, rfl⟩ -
  refine pm_go 9999 (by exact okX11_chance) rfl ?_; (try dsimp only [pm_st1, pm_st2, pm_cat2, pm_la, Option.toList, List.cons_append, List.nil_append])
  refine pm_zne (by exact okX11_chance) rfl (fun h1 => ?_) (fun h1 => ?_)
  · have h1 := bI_n.mp h1
    rw [if_neg (fun q => q h1)]
    refine pm_go 9999 (by exact okX11_chance) rfl ?_; (try dsimp only [pm_st1, pm_st2, pm_cat2, pm_la, Option.toList, List.cons_append, List.nil_append])
    refine pm_cv (by exact okX11_chance) (by exact okX11_wishFault) rfl (by exact arX11_wishFault) (t_wishFault (d := 1) a1 hB6 a5 b3 hp (by omega)) rfl rfl rfl (by dsimp only; omega) rfl (Nat.le_of_ble_eq_true rfl) ⟨Nat.zero_le _, Nat.zero_le _⟩ ?_
    rintro _ _ _ _ ⟨rfl, rfl, rfl, rfl⟩ -
    refine pm_go 9999 (by exact okX11_chance) rfl ?_; (try dsimp only [pm_st1, pm_st2, pm_cat2, pm_la, Option.toList, List.cons_append, List.nil_append])
    have eif := nO_neg (o := pd_if (gB z.1) 0 z.2.1) (n := 49) (fun b hb => by have := pd_if_lt _ _ _ hb; omega) (by omega)
    refine pm_zlt (by exact okX11_chance) rfl (fun h2 => ?_) (fun h2 => ?_)
    · have h2 := eif.mp h2
      rw [if_neg (fun q => q h2)]
      obtain ⟨hlen, hco, hpos⟩ := pd_if_ok z.2.1 0 h2 (by omega)
      have hl6 : z.2.1.length ≤ 6 := by omega
      have hup := ch_up_le (g := z.1) (pd := z.2.1) hg.2.2.2.1 hl6
      have e3 : 10 ^ z.2.1.length ≤ 1000000 := Nat.le_trans (Nat.pow_le_pow_right (n := 10) (by omega) hl6) (by omega)
      have e4 : 0 < 10 ^ z.2.1.length := Nat.pow_pos (by omega)
      refine pm_go 32 (by exact okX11_chance) rfl ?_; (try dsimp only [pm_st1, pm_st2, pm_cat2, pm_la, Option.toList, List.cons_append, List.nil_append])
      refine pm_G.cast (L' := [some (.ref 19), some (.int p), some (.long 0), none, some (.long (lN (10 ^ 0))), none, some (.int (nI 0)), none, none, none, none, none, none]) (S' := []) (mu' := mu) (nu' := nu) ?_ rfl rfl rfl rfl
      refine M_chance_l a5 hl6 ?_ z.2.1.length 0 (by omega)
      refine pm_go 58 (by exact okX11_chance) rfl ?_; (try dsimp only [pm_st1, pm_st2, pm_cat2, pm_la, Option.toList, List.cons_append, List.nil_append])
      refine pm_G.cast (L' := [some (.ref 19), some (.int p), some (.long (lN (fb_sm (fun rains => ch_go (gL z.1) (gB z.1) (gW z.1) (gC z.1) rains z.2.1 0 (gR z.1) (gM z.1) 1) 0))), none, some (.long (lN (10 ^ z.2.1.length))), none, some (.int (nI 0)), none, none, none, none, none, none]) (S' := []) (mu' := mu) (nu' := nu) ?_ rfl rfl rfl rfl
      refine M_chance_o hz h h2 hd ?_ (2 ^ z.2.1.length) 0 (by omega)
      refine pm_go 243 (by exact okX11_chance) rfl ?_; (try dsimp only [pm_st1, pm_st2, pm_cat2, pm_la, Option.toList, List.cons_append, List.nil_append])
      refine M_chance_g (G := Nat.gcd (10 ^ z.2.1.length) (ch_up z.1 z.2.1)) (by omega) (by omega) (Nat.gcd_pos_of_pos_left _ e4) ⟨fun q => ⟨by rw [if_pos q], rfl, h, fM.rf⟩, fun q => ⟨by rw [if_neg q], rfl, h, fM.rf⟩⟩ (10 ^ z.2.1.length) (10 ^ z.2.1.length) (ch_up z.1 z.2.1) (Nat.le_refl _) (by omega) (by omega) rfl
    · have h2 : pd_if (gB z.1) 0 z.2.1 ≠ none := fun q => h2 (eif.mpr q)
      rw [if_pos h2]
      refine pm_go 9999 (by exact okX11_chance) rfl ?_; (try dsimp only [pm_st1, pm_st2, pm_cat2, pm_la, Option.toList, List.cons_append, List.nil_append])
      refine pm_rl (by exact okX11_chance) rfl rfl (Nat.le_refl _) (Nat.le_refl _) (⟨rfl, rfl, h, fM.rf⟩)
  · have h1 := bI_z.mp h1
    rw [if_pos h1]
    refine pm_go 9999 (by exact okX11_chance) rfl ?_; (try dsimp only [pm_st1, pm_st2, pm_cat2, pm_la, Option.toList, List.cons_append, List.nil_append])
    refine pm_rl (by exact okX11_chance) rfl rfl (Nat.le_refl _) (Nat.le_refl _) (⟨rfl, rfl, h, fM.rf⟩)
end

/-! ===== the reference's chance ===== -/
/-- the sign of a WISH is pleased by a BED of this COLOUR -/
abbrev wsh (c col : Nat) : Prop := pd_co c = some 4 ∨ pd_co c = some col
theorem pd_if_ok {B : Nat} : ∀ (r : List Nat) (k : Nat), pd_if B k r = none → k ≤ B → k + r.length ≤ B ∧ (∀ c ∈ r, pd_co c ≠ none) ∧ 0 < k + r.length := by
  intro r
  induction r with
  | nil =>
    intro k h hk
    simp only [pd_if] at h
    split at h
    · cases h
    · exact ⟨by simp; omega, fun c hc => (List.not_mem_nil hc).elim, by simp; omega⟩
  | cons c r ih =>
    intro k h hk
    simp only [pd_if] at h
    split at h
    · cases h
    · rename_i hn
      obtain ⟨g1, g2, g3⟩ := ih (k + 1) h (by omega)
      refine ⟨by simp only [List.length_cons]; omega, fun x hx => ?_, by simp only [List.length_cons]; omega⟩
      rcases List.mem_cons.mp hx with rfl | hx
      · exact fun q => hn (Or.inr q)
      · exact g2 x hx
/-- one way of the weather: its weight, if it pleases -/
def ch_go (law B wet : Nat) (C : Nat → Nat) (rains : Nat) : List Nat → Nat → List Nat → Nat → Nat → Nat
  | [], _, _, _, own => own
  | c :: t, k, r, s, own => match gd_nx law (if rains.testBit k = true then gd_rn s B else r) with
    | none => ch_go law B wet C rains t (k + 1) (if rains.testBit k = true then gd_rn s B else r) s 0
    | some b => ch_go law B wet C rains t (k + 1) ((if rains.testBit k = true then gd_rn s B else r).filter (fun x => x != b)) (s ||| 2 ^ b) (if wsh c (C b) then own * (if rains.testBit k = true then wet else 10 - wet) else 0)
theorem ch_go_le {law B wet : Nat} {C : Nat → Nat} {rains : Nat} (hw : wet ≤ 10) : ∀ (t : List Nat) (k : Nat) (r : List Nat) (s own : Nat), ch_go law B wet C rains t k r s own ≤ own * 10 ^ t.length := by
  intro t
  induction t with
  | nil => intro k r s own; simp [ch_go]
  | cons c t ih =>
    intro k r s own
    have hf : (if rains.testBit k = true then wet else 10 - wet) ≤ 10 := by split <;> omega
    have e10 : own * 10 * 10 ^ t.length = own * 10 ^ (c :: t).length := by
      rw [List.length_cons, Nat.pow_succ, Nat.mul_assoc, Nat.mul_comm 10]
    simp only [ch_go]
    split
    · refine Nat.le_trans (ih _ _ _ _) ?_
      rw [Nat.zero_mul]
      exact Nat.zero_le _
    · refine Nat.le_trans (ih _ _ _ _) ?_
      rw [← e10]
      refine Nat.mul_le_mul_right _ ?_
      split
      · exact Nat.mul_le_mul_left _ hf
      · exact Nat.zero_le _
/-- the upper number ahead of reducing -/
def ch_up (g : gS) (pd : List Nat) : Nat := fb_sm (fun rains => ch_go (gL g) (gB g) (gW g) (gC g) rains pd 0 (gR g) (gM g) 1) (2 ^ pd.length)
def sp_chance (z : mS) (p : Int32) : Int64 :=
  if ¬ (0 ≤ p ∧ p ≤ 1) then -1000000000000000002 else if pd_if (gB z.1) 0 z.2.1 ≠ none then -1000000000000000005 else if p = 0 then lN (ch_up z.1 z.2.1 / Nat.gcd (10 ^ z.2.1.length) (ch_up z.1 z.2.1)) else lN (10 ^ z.2.1.length / Nat.gcd (10 ^ z.2.1.length) (ch_up z.1 z.2.1))
theorem pd_if_lt {B : Nat} : ∀ (r : List Nat) (k b : Nat), pd_if B k r = some b → b ≤ k + r.length := by
  intro r
  induction r with
  | nil =>
    intro k b h
    simp only [pd_if] at h
    split at h
    · cases h; omega
    · cases h
  | cons c r ih =>
    intro k b h
    simp only [pd_if] at h
    simp only [List.length_cons]
    split at h
    · cases h; omega
    · have := ih _ _ h; omega
section
variable {cx : pm_CX} {d n0 : Nat} {i0 i1 : Option Nat} {ex : List pm_C} {mu : pm_I} {nu : pm_J}
set_option maxRecDepth 100000 in
set_option maxHeartbeats 1000000 in
theorem t_isWished {k b c col : Nat} (hk : k < 48) (hb : b < 6) (h22 : mu 22 k = nI c) (hc : 33 ≤ c ∧ c ≤ 126) (hco : pd_co c ≠ none) (h20 : mu 20 b = nI col) (hcol : col ≤ 3) (hd : 1 ≤ d) : pm_T cx mX11_isWished d 0 0 [.ref 19, .int (nI k), .int (nI b)] (sh_ i0 i1 ex) mu nu (pm_ret (some (.int (bI (wsh c col)))) (sh_ i0 i1 ex) mu nu) := by
  obtain ⟨x, hx⟩ : ∃ x, pd_co c = some x := Option.ne_none_iff_exists'.mp hco
  have hx4 := pd_co_lt hx
  refine pm_enterN 1 (by exact okX11_isWished) rfl ?_; dsimp only [pm_la, pm_cat2, List.replicate, List.cons_append, List.nil_append, List.append_nil]
  refine pm_go 9999 (by exact okX11_isWished) rfl ?_; (try dsimp only [pm_st1, pm_st2, pm_cat2, pm_la, Option.toList, List.cons_append, List.nil_append])
  refine pm_ial (by exact okX11_isWished) rfl rfl (vp_in_nI (by omega) (by omega)) ?_
  rw [nI_clamp (by omega), h22]
  refine pm_cs (by exact okX11_isWished) (by exact okX11_colourOf) rfl (by exact arX11_colourOf) (t_mcolourOf (d := 0) (nI c)) rfl (by dsimp only; omega) rfl (Nat.le_of_ble_eq_true rfl) ⟨Nat.zero_le _, Nat.zero_le _⟩ ?_
  rintro _ _ _ _ ⟨rfl, rfl, rfl, rfl⟩ -
  rw [mcol_eq hc, show nO (pd_co c) = nI x by rw [hx]; rfl]
  refine pm_go 9999 (by exact okX11_isWished) rfl ?_; (try dsimp only [pm_st1, pm_st2, pm_cat2, pm_la, Option.toList, List.cons_append, List.nil_append])
  refine pm_ieq (by exact okX11_isWished) rfl (fun h1 => ?_) (fun h1 => ?_)
  · have h2 : x = 4 := (nI_eq (b := 4) (by omega) (by omega)).mp h1
    refine pm_go 9999 (by exact okX11_isWished) rfl ?_; (try dsimp only [pm_st1, pm_st2, pm_cat2, pm_la, Option.toList, List.cons_append, List.nil_append])
    refine pm_ri (by exact okX11_isWished) rfl rfl rfl (Nat.le_refl _) (Nat.le_refl _) (⟨by rw [bI_1]; left; rw [hx, h2], rfl, rfl, rfl⟩)
  · have h2 : ¬ x = 4 := fun q => h1 (by rw [q]; rfl)
    refine pm_go 9999 (by exact okX11_isWished) rfl ?_; (try dsimp only [pm_st1, pm_st2, pm_cat2, pm_la, Option.toList, List.cons_append, List.nil_append])
    refine pm_ial (by exact okX11_isWished) rfl rfl (vp_in_nI (by omega) (by omega)) ?_
    rw [nI_clamp (by omega), h20]
    refine pm_ine (by exact okX11_isWished) rfl (fun h3 => ?_) (fun h3 => ?_)
    · have h4 : ¬ x = col := fun q => h3 (by rw [q])
      refine pm_go 9999 (by exact okX11_isWished) rfl ?_; (try dsimp only [pm_st1, pm_st2, pm_cat2, pm_la, Option.toList, List.cons_append, List.nil_append])
      refine pm_ri (by exact okX11_isWished) rfl rfl rfl (Nat.le_refl _) (Nat.le_refl _) (⟨by rw [bI_0]; rintro (q | q); exact h2 (Option.some.inj (hx.symm.trans q)); exact h4 (Option.some.inj (hx.symm.trans q)), rfl, rfl, rfl⟩)
    · have h4 : x = col := (nI_eq (by omega) (by omega)).mp h3
      refine pm_go 9999 (by exact okX11_isWished) rfl ?_; (try dsimp only [pm_st1, pm_st2, pm_cat2, pm_la, Option.toList, List.cons_append, List.nil_append])
      refine pm_ri (by exact okX11_isWished) rfl rfl rfl (Nat.le_refl _) (Nat.le_refl _) (⟨by rw [bI_1]; right; rw [hx, h4], rfl, rfl, rfl⟩)
set_option maxRecDepth 100000 in
set_option maxHeartbeats 1000000 in
theorem M_chance_in {Q : pm_Po} {z : mS} {rains : Nat} {x1 : Int32} {u lo : Int64} (hz : zOK z) (h : MA z mu) (hw : pd_if (gB z.1) 0 z.2.1 = none) (hr : rains < 2 ^ 31) (hd : 2 ≤ d) : ∀ (t : List Nat) (k : Nat) (r : List Nat) (s own : Nat), z.2.1.drop k = t → k ≤ z.2.1.length → rOK (gB z.1) r s → (∀ L7 L8 L12, pm_G cx (mX11_chance, d, 0, 0, n0, Q) 0 0 225 [some (.ref 19), some (.int x1), some (.long u), none, some (.long lo), none, some (.int (nI rains)), some (.int L7), some (.int L8), some (.long (lN (ch_go (gL z.1) (gB z.1) (gW z.1) (gC z.1) rains t k r s own))), none, some (.int L12), none] [] (sh_ i0 i1 ex) mu nu) → pm_G cx (mX11_chance, d, 0, 0, n0, Q) 0 0 87 [some (.ref 19), some (.int x1), some (.long u), none, some (.long lo), none, some (.int (nI rains)), some (.int (nI (md_r7 r))), some (.int (nI s)), some (.long (lN own)), none, some (.int (nI k)), none] [] (sh_ i0 i1 ex) mu nu := by
  obtain ⟨⟨a1, a2, a3, a4, a5, a6, a7, a8, a9, b1, b2, b3, b4, b5⟩, c1, c2⟩ := id h
  obtain ⟨⟨hB6, hlaw, -, hwet, hC, -⟩, hp, -⟩ := hz
  have hp1 := hp.1
  obtain ⟨hlen, hco, hpos⟩ := pd_if_ok z.2.1 0 hw (by omega)
  intro t
  induction t with
  | nil =>
    intro k r s own ht hk hR kk
    have hk := drop_nil ht hk
    refine pm_go 9999 (by exact okX11_chance) rfl ?_; (try dsimp only [pm_st1, pm_st2, pm_cat2, pm_la, Option.toList, List.cons_append, List.nil_append])
    rw [a5]
    refine pm_ige (by exact okX11_chance) rfl (fun h1 => ?_) (fun h1 => ?_)
    · exact kk _ _ _
    · exact absurd (nI_le (by omega) (by omega)) h1
  | cons c t ih =>
    intro k r s own ht hk hR kk
    obtain ⟨g1, g2, g3⟩ := drop_get ht
    have hcm := mem_drop ht
    have hcb := hp.2 c hcm
    have hcc := hco c hcm
    have hok := rOK_ok hR hB6.2
    have hln := rOK_len hR hB6.2
    have hs64 := rOK_s hR hB6.2
    -- behind the weather
    have after : ∀ (r1 : List Nat) (own1 : Nat), r1 = (if rains.testBit k = true then gd_rn s (gB z.1) else r) → own1 = own * (if rains.testBit k = true then gW z.1 else 10 - gW z.1) → pm_G cx (mX11_chance, d, 0, 0, n0, Q) 0 0 148 [some (.ref 19), some (.int x1), some (.long u), none, some (.long lo), none, some (.int (nI rains)), some (.int (nI (md_r7 r))), some (.int (nI s)), some (.long (lN own1)), none, some (.int (nI k)), none] [.int (nI (md_r7 r1))] (sh_ i0 i1 ex) mu nu := by
      intro r1 own1 hr1 ho1
      have hR1 : rOK (gB z.1) r1 s := by
        rw [hr1]
        split
        · exact rOK_rain hR.2.2
        · exact hR
      have hok1 := rOK_ok hR1 hB6.2
      have hln1 := rOK_len hR1 hB6.2
      simp only [ch_go] at kk
      rw [← hr1, ← ho1] at kk
      refine pm_go 9999 (by exact okX11_chance) rfl ?_; (try dsimp only [pm_st1, pm_st2, pm_cat2, pm_la, Option.toList, List.cons_append, List.nil_append])
      refine pm_cv (by exact okX11_chance) (by exact okX11_nextOf) rfl (by exact arX11_nextOf) (t_nextOf (d := 1) (r := r1) a2 hlaw hok1 hln1 (by omega)) rfl rfl rfl (by dsimp only; omega) rfl (Nat.le_of_ble_eq_true rfl) ⟨Nat.zero_le _, Nat.zero_le _⟩ ?_
      rintro _ _ _ _ ⟨rfl, rfl, rfl, rfl⟩ -
      cases hnx : gd_nx (gL z.1) r1 with
      | none =>
        rw [hnx] at kk
        rw [nO_none]
        refine pm_go 9999 (by exact okX11_chance) rfl ?_; (try dsimp only [pm_st1, pm_st2, pm_cat2, pm_la, Option.toList, List.cons_append, List.nil_append])
        refine pm_zlt (by exact okX11_chance) rfl (fun h5 => ?_) (fun h5 => ?_)
        · refine pm_go 9999 (by exact okX11_chance) rfl ?_; (try dsimp only [pm_st1, pm_st2, pm_cat2, pm_la, Option.toList, List.cons_append, List.nil_append])
          refine pm_zge (by exact okX11_chance) rfl (fun h6 => ?_) (fun h6 => ?_)
          · exact absurd h6 (by decide)
          · refine pm_go 9999 (by exact okX11_chance) rfl ?_; (try dsimp only [pm_st1, pm_st2, pm_cat2, pm_la, Option.toList, List.cons_append, List.nil_append])
            refine pm_zge (by exact okX11_chance) rfl (fun h7 => ?_) (fun h7 => ?_)
            · exact absurd h7 (by decide)
            · refine pm_go 87 (by exact okX11_chance) rfl ?_; (try dsimp only [pm_st1, pm_st2, pm_cat2, pm_la, Option.toList, List.cons_append, List.nil_append])
              rw [nI_1, show nI s ||| 0 = nI s from by rw [show (0 : Int32) = nI 0 from rfl, nI_or, Nat.or_zero]]
              refine pm_G.fg [false, false, false, false, false, false, false, false, false, false, false, false, true] ?_; dsimp only [pm_fg]
              exact ih (k + 1) r1 s 0 g2 (by omega) hR1 kk
        · exact absurd (by decide) h5
      | some b =>
        rw [hnx] at kk
        rw [nO_some]
        have hbr := gd_nx_mem hnx
        have hb6 := hok1 b hbr
        have fin : ∀ own2, own2 = (if wsh c (gC z.1 b) then own1 else 0) → pm_G cx (mX11_chance, d, 0, 0, n0, Q) 0 0 180 [some (.ref 19), some (.int x1), some (.long u), none, some (.long lo), none, some (.int (nI rains)), some (.int (nI (md_r7 r1))), some (.int (nI s)), some (.long (lN own1)), none, some (.int (nI k)), some (.int (nI b))] [.long (lN own2)] (sh_ i0 i1 ex) mu nu := by
          intro own2 ho2
          refine pm_go 9999 (by exact okX11_chance) rfl ?_; (try dsimp only [pm_st1, pm_st2, pm_cat2, pm_la, Option.toList, List.cons_append, List.nil_append])
          refine pm_zge (by exact okX11_chance) rfl (fun h6 => ?_) (fun h6 => ?_)
          · refine pm_go 9999 (by exact okX11_chance) rfl ?_; (try dsimp only [pm_st1, pm_st2, pm_cat2, pm_la, Option.toList, List.cons_append, List.nil_append])
            refine pm_cs (by exact okX11_chance) (by exact okX11_without) rfl (by exact arX11_without) (t_without (d := 0) hok1 hln1 hb6) rfl (by dsimp only; omega) rfl (Nat.le_of_ble_eq_true rfl) ⟨Nat.zero_le _, Nat.zero_le _⟩ ?_
            rintro _ _ _ _ ⟨rfl, rfl, rfl, rfl⟩ -
            refine pm_go 9999 (by exact okX11_chance) rfl ?_; (try dsimp only [pm_st1, pm_st2, pm_cat2, pm_la, Option.toList, List.cons_append, List.nil_append])
            refine pm_zge (by exact okX11_chance) rfl (fun h7 => ?_) (fun h7 => ?_)
            · refine pm_go 87 (by exact okX11_chance) rfl ?_; (try dsimp only [pm_st1, pm_st2, pm_cat2, pm_la, Option.toList, List.cons_append, List.nil_append])
              rw [nI_1, nI_shl1 (by omega), nI_or]
              refine pm_G.fg [false, false, false, false, false, false, false, false, false, false, false, false, true] ?_; dsimp only [pm_fg]
              refine ih (k + 1) _ _ own2 g2 (by omega) (rOK_bloom hR1 hbr) ?_
              rw [ho2]
              exact kk
            · exact absurd (nI_pos' (by omega)) h7
          · exact absurd (nI_pos' (by omega)) h6
        refine pm_go 9999 (by exact okX11_chance) rfl ?_; (try dsimp only [pm_st1, pm_st2, pm_cat2, pm_la, Option.toList, List.cons_append, List.nil_append])
        refine pm_zlt (by exact okX11_chance) rfl (fun h5 => ?_) (fun h5 => ?_)
        · exact absurd h5 (nI_pos (by omega))
        · refine pm_go 9999 (by exact okX11_chance) rfl ?_; (try dsimp only [pm_st1, pm_st2, pm_cat2, pm_la, Option.toList, List.cons_append, List.nil_append])
          refine pm_cv (by exact okX11_chance) (by exact okX11_isWished) rfl (by exact arX11_isWished) (t_isWished (d := 1) (c := c) (col := gC z.1 b) (by omega) hb6 (b3 k c g1) hcb hcc (b1 b hb6) (hC b hb6) (by omega)) rfl rfl rfl (by dsimp only; omega) rfl (Nat.le_of_ble_eq_true rfl) ⟨Nat.zero_le _, Nat.zero_le _⟩ ?_
          rintro _ _ _ _ ⟨rfl, rfl, rfl, rfl⟩ -
          refine pm_go 9999 (by exact okX11_chance) rfl ?_; (try dsimp only [pm_st1, pm_st2, pm_cat2, pm_la, Option.toList, List.cons_append, List.nil_append])
          refine pm_zeq (by exact okX11_chance) rfl (fun h6 => ?_) (fun h6 => ?_)
          · have h6 := bI_z.mp h6
            refine pm_go 180 (by exact okX11_chance) rfl ?_; (try dsimp only [pm_st1, pm_st2, pm_cat2, pm_la, Option.toList, List.cons_append, List.nil_append])
            exact fin 0 (by rw [if_neg h6])
          · have h6 := bI_n.mp h6
            refine pm_go 180 (by exact okX11_chance) rfl ?_; (try dsimp only [pm_st1, pm_st2, pm_cat2, pm_la, Option.toList, List.cons_append, List.nil_append])
            exact fin own1 (by rw [if_pos h6])
    refine pm_go 9999 (by exact okX11_chance) rfl ?_; (try dsimp only [pm_st1, pm_st2, pm_cat2, pm_la, Option.toList, List.cons_append, List.nil_append])
    rw [a5]
    refine pm_ige (by exact okX11_chance) rfl (fun h1 => ?_) (fun h1 => ?_)
    · exact absurd h1 (nI_ge (by omega) (by omega))
    · refine pm_go 9999 (by exact okX11_chance) rfl ?_; (try dsimp only [pm_st1, pm_st2, pm_cat2, pm_la, Option.toList, List.cons_append, List.nil_append])
      refine pm_cs (by exact okX11_chance) (by exact okX11_has) rfl (by exact arX11_has) (t_has (d := 0) hr (k := k) (by omega)) rfl (by dsimp only; omega) rfl (Nat.le_of_ble_eq_true rfl) ⟨Nat.zero_le _, Nat.zero_le _⟩ ?_
      rintro _ _ _ _ ⟨rfl, rfl, rfl, rfl⟩ -
      refine pm_go 9999 (by exact okX11_chance) rfl ?_; (try dsimp only [pm_st1, pm_st2, pm_cat2, pm_la, Option.toList, List.cons_append, List.nil_append])
      refine pm_zeq (by exact okX11_chance) rfl (fun h2 => ?_) (fun h2 => ?_)
      · have h3 := bI_z.mp h2
        rw [if_neg h3, if_neg h3] at after
        refine pm_go 9999 (by exact okX11_chance) rfl ?_; (try dsimp only [pm_st1, pm_st2, pm_cat2, pm_la, Option.toList, List.cons_append, List.nil_append])
        rw [a4, show (10 : Int32) = nI 10 from rfl, pk_sub hwet, nI_l (by omega), lN_mul]
        refine pm_cs (by exact okX11_chance) (by exact okX11_has) rfl (by exact arX11_has) (t_has (d := 0) hr (k := k) (by omega)) rfl (by dsimp only; omega) rfl (Nat.le_of_ble_eq_true rfl) ⟨Nat.zero_le _, Nat.zero_le _⟩ ?_
        rintro _ _ _ _ ⟨rfl, rfl, rfl, rfl⟩ -
        refine pm_go 9999 (by exact okX11_chance) rfl ?_; (try dsimp only [pm_st1, pm_st2, pm_cat2, pm_la, Option.toList, List.cons_append, List.nil_append])
        refine pm_zeq (by exact okX11_chance) rfl (fun h4 => ?_) (fun h4 => ?_)
        · refine pm_go 148 (by exact okX11_chance) rfl ?_; (try dsimp only [pm_st1, pm_st2, pm_cat2, pm_la, Option.toList, List.cons_append, List.nil_append])
          exact after r _ rfl rfl
        · exact absurd (bI_n.mp h4) h3
      · have h3 := bI_n.mp h2
        rw [if_pos h3, if_pos h3] at after
        refine pm_go 9999 (by exact okX11_chance) rfl ?_; (try dsimp only [pm_st1, pm_st2, pm_cat2, pm_la, Option.toList, List.cons_append, List.nil_append])
        rw [a4, nI_l (by omega), lN_mul]
        refine pm_cs (by exact okX11_chance) (by exact okX11_has) rfl (by exact arX11_has) (t_has (d := 0) hr (k := k) (by omega)) rfl (by dsimp only; omega) rfl (Nat.le_of_ble_eq_true rfl) ⟨Nat.zero_le _, Nat.zero_le _⟩ ?_
        rintro _ _ _ _ ⟨rfl, rfl, rfl, rfl⟩ -
        refine pm_go 9999 (by exact okX11_chance) rfl ?_; (try dsimp only [pm_st1, pm_st2, pm_cat2, pm_la, Option.toList, List.cons_append, List.nil_append])
        refine pm_zeq (by exact okX11_chance) rfl (fun h4 => ?_) (fun h4 => ?_)
        · exact absurd h3 (bI_z.mp h4)
        · refine pm_go 9999 (by exact okX11_chance) rfl ?_; (try dsimp only [pm_st1, pm_st2, pm_cat2, pm_la, Option.toList, List.cons_append, List.nil_append])
          refine pm_cv (by exact okX11_chance) (by exact okX11_rained) rfl (by exact arX11_rained) (t_rained (d := 1) (n := gB z.1) (s := s) a1 hB6.2 (by omega) (by omega)) rfl rfl rfl (by dsimp only; omega) rfl (Nat.le_of_ble_eq_true rfl) ⟨Nat.zero_le _, Nat.zero_le _⟩ ?_
          rintro _ _ _ _ ⟨rfl, rfl, rfl, rfl⟩ -
          refine pm_go 148 (by exact okX11_chance) rfl ?_; (try dsimp only [pm_st1, pm_st2, pm_cat2, pm_la, Option.toList, List.cons_append, List.nil_append])
          exact after (gd_rn s (gB z.1)) _ rfl rfl
end

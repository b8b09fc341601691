/-! ===== the class's pad; a told sign ===== -/
def XP (pd : List Nat) (mu : pm_I) : Prop := mu 1 0 = nI pd.length ∧ ∀ k b, pd[k]? = some b → mu 2 k = nI b
/-- a sign of a WEEK that is told -/
abbrev tldc (B c : Nat) : Prop := c = 42 ∨ c = 46 ∨ (97 ≤ c ∧ c < 97 + B)
def sg_wy (g : gS) (c : Nat) (r : List Nat) (s : Nat) : Nat := if c = 42 then 0 else if c = 46 then (if r = [] then 4 else 0) else gd_wy (gG g) (gP g) r s (c - 97)
def sg_af (g : gS) (c : Nat) (r : List Nat) (s : Nat) : List Nat × Nat := if c = 42 then (gd_rn s (gB g), s) else if c = 46 then gd_mo (gL g) r s else ((c - 97) :: r.filter (fun x => x != c - 97), s)
def sg_cm (g : gS) (c : Nat) (r : List Nat) : List Nat := if c = 46 then (gd_nx (gL g) r).toList else []
theorem sg_af_ok {g : gS} {c s : Nat} {r : List Nat} (hc : tldc (gB g) c) (hR : rOK (gB g) r s) (hw : sg_wy g c r s = 0) : rOK (gB g) (sg_af g c r s).1 (sg_af g c r s).2 := by
  unfold sg_af sg_wy at *
  rcases hc with rfl | rfl | hc
  · exact rOK_rain hR.2.2
  · rw [if_neg (by omega), if_pos rfl] at hw ⊢
    by_cases hr : r = []
    · rw [if_pos hr] at hw; omega
    · exact (gd_mo_ok hR hr).1
  · rw [if_neg (by omega), if_neg (by omega)] at hw ⊢
    exact rOK_water hR (by omega) (gd_wy_bit hw)
/-- one sign of a week -/
theorem wk_step {g : gS} {c k s : Nat} {t ch r cm : List Nat} (hc : tldc (gB g) c) (hB : gB g ≤ 6) : wk_run (gL g) (gG g) (gB g) (gP g) (c :: t) ch r s cm k = if sg_wy g c r s = 0 then wk_run (gL g) (gG g) (gB g) (gP g) t ch (sg_af g c r s).1 (sg_af g c r s).2 (cm ++ sg_cm g c r) (k + 1) else (some (k, sg_wy g c r s), r, s, cm) := by
  unfold sg_wy sg_af sg_cm
  rcases hc with rfl | rfl | hc
  · show wk_run (gL g) (gG g) (gB g) (gP g) t ch (gd_rn s (gB g)) s cm (k + 1) = _
    simp
  · rw [wk_run_m]
    simp only [show ¬ (46 : Nat) = 42 by omega, if_false, if_true]
    cases hnx : gd_nx (gL g) r with
    | none =>
      have := gd_nx_none hnx
      subst this
      simp
    | some b =>
      have hne : r ≠ [] := fun q => by have := gd_nx_mem hnx; rw [q] at this; simp at this
      simp only [hne, if_false, if_true]
      unfold gd_mo
      rw [hnx]
      rfl
  · have e1 : ¬ c = 42 := by omega
    have e2 : ¬ c = 46 := by omega
    have e3 : ¬ c = 63 := by omega
    conv => lhs; unfold wk_run
    rw [if_neg e1, if_neg e2, if_neg e3, if_neg e1, if_neg e2, if_neg e1, if_neg e2, if_neg e2, List.append_nil]
theorem wk_ge {g : gS} (hB : gB g ≤ 6) : ∀ (t ch r : List Nat) (s : Nat) (cm : List Nat) (k : Nat), (∀ c ∈ t, tldc (gB g) c) → ∀ q, (wk_run (gL g) (gG g) (gB g) (gP g) t ch r s cm k).1 = some q → k ≤ q.1 ∧ q.1 < k + t.length := by
  intro t
  induction t with
  | nil => intro ch r s cm k _ q hq; simp [wk_run] at hq
  | cons c t ih =>
    intro ch r s cm k hc q hq
    rw [wk_step (hc c List.mem_cons_self) hB] at hq
    split at hq
    · have := ih _ _ _ _ _ (fun x hx => hc x (List.mem_cons_of_mem _ hx)) q hq
      simp only [List.length_cons]
      omega
    · cases hq
      simp only [List.length_cons]
      omega
theorem bc_len {s : Nat} {K : List Nat} (h : K.Nodup) (hm : ∀ b, s.testBit b = true ↔ b ∈ K) (hs : s < 64) : md_bc s 6 = K.length := by
  have hok : md_ok K := fun b hb => by
    rcases Nat.lt_or_ge b 6 with q | q
    · exact q
    · have h1 := (hm b).mpr hb
      rw [Nat.testBit_lt_two_pow (Nat.lt_of_lt_of_le hs (Nat.pow_le_pow_right (n := 2) (i := 6) (by omega) q))] at h1
      cases h1
  have e : st_s K = s := by
    apply Nat.eq_of_testBit_eq
    intro i
    rw [Bool.eq_iff_iff, st_s_bit, hm]
  rw [← e]
  exact st_s_bc K hok h
section
variable {cx : pm_CX} {d n0 : Nat} {i0 i1 : Option Nat} {ex : List pm_C} {mu : pm_I} {nu : pm_J}
set_option maxRecDepth 100000 in
set_option maxHeartbeats 1000000 in
theorem C_signAt {pd : List Nat} {k c : Nat} (h : XP pd mu) (hk : k < 48) (hc : pd[k]? = some c) : pm_T cx mX7_signAt d 0 0 [.ref 1, .int (nI k)] (sh_ i0 i1 ex) mu nu (pm_ret (some (.int (nI c))) (sh_ i0 i1 ex) mu nu) := by
  refine pm_enterN 0 (by exact okX7_signAt) rfl ?_; dsimp only [pm_la, pm_cat2, List.replicate, List.cons_append, List.nil_append, List.append_nil]
  refine pm_go 9999 (by exact okX7_signAt) rfl ?_; (try dsimp only [pm_st1, pm_st2, pm_cat2, pm_la, Option.toList, List.cons_append, List.nil_append])
  refine pm_zlt (by exact okX7_signAt) rfl (fun h1 => ?_) (fun h1 => ?_)
  · exact absurd h1 (nI_pos (by omega))
  · refine pm_go 9999 (by exact okX7_signAt) rfl ?_; (try dsimp only [pm_st1, pm_st2, pm_cat2, pm_la, Option.toList, List.cons_append, List.nil_append])
    refine pm_ige (by exact okX7_signAt) rfl (fun h2 => ?_) (fun h2 => ?_)
    · exact absurd h2 (nI_ge (a := k) (b := 48) (by omega) (by omega))
    · refine pm_go 9999 (by exact okX7_signAt) rfl ?_; (try dsimp only [pm_st1, pm_st2, pm_cat2, pm_la, Option.toList, List.cons_append, List.nil_append])
      refine pm_ial (by exact okX7_signAt) rfl rfl (vp_in_nI (by omega) (by omega)) ?_
      refine pm_go 9999 (by exact okX7_signAt) rfl ?_; (try dsimp only [pm_st1, pm_st2, pm_cat2, pm_la, Option.toList, List.cons_append, List.nil_append])
      rw [nI_clamp (by omega), h.2 k c hc]
      refine pm_ri (by exact okX7_signAt) rfl rfl rfl (Nat.le_refl _) (Nat.le_refl _) (⟨rfl, rfl, rfl, rfl⟩)
set_option maxRecDepth 100000 in
set_option maxHeartbeats 1000000 in
theorem C_whyNot {g : gS} {r : List Nat} {s c : Nat} (hg : gOK g) (h : XGo 3 g mu) (hR : rOK (gB g) r s) (hc : tldc (gB g) c) (hd : 3 ≤ d) : pm_T cx mX2_whyNot d 0 0 [.ref 3, .int (nI (st_k r s)), .int (nI c)] (sh_ i0 i1 ex) mu nu (pm_ret (some (.int (nI (sg_wy g c r s)))) (sh_ i0 i1 ex) mu nu) := by
  have hB := hg.1.2
  have hln := rOK_len hR hB
  have hc2 : c < 200 := by rcases hc with q | q | q <;> omega
  refine pm_enterN 0 (by exact okX2_whyNot) rfl ?_; dsimp only [pm_la, pm_cat2, List.replicate, List.cons_append, List.nil_append, List.append_nil]
  refine pm_go 9999 (by exact okX2_whyNot) rfl ?_; (try dsimp only [pm_st1, pm_st2, pm_cat2, pm_la, Option.toList, List.cons_append, List.nil_append])
  refine pm_ine (by exact okX2_whyNot) rfl (fun h1 => ?_) (fun h1 => ?_)
  · have h1 : ¬ c = 42 := fun q => h1 (by rw [q]; rfl)
    refine pm_go 9999 (by exact okX2_whyNot) rfl ?_; (try dsimp only [pm_st1, pm_st2, pm_cat2, pm_la, Option.toList, List.cons_append, List.nil_append])
    refine pm_ine (by exact okX2_whyNot) rfl (fun h2 => ?_) (fun h2 => ?_)
    · have h2 : ¬ c = 46 := fun q => h2 (by rw [q]; rfl)
      have h3 : 97 ≤ c ∧ c < 97 + gB g := by rcases hc with q | q | q <;> omega
      refine pm_go 9999 (by exact okX2_whyNot) rfl ?_; (try dsimp only [pm_st1, pm_st2, pm_cat2, pm_la, Option.toList, List.cons_append, List.nil_append])
      rw [show nI c - 97 = nI (c - 97) by rw [show (97 : Int32) = nI 97 from rfl, pk_sub (by omega)]]
      refine pm_cv (by exact okX2_whyNot) (by exact okX2_whyNotWater) rfl (by exact arX2_whyNotWater) (C_whyNotWater (d := 2) hg h hR (by omega) (by omega)) rfl rfl rfl (by dsimp only; omega) rfl (Nat.le_of_ble_eq_true rfl) ⟨Nat.zero_le _, Nat.zero_le _⟩ ?_
      rintro _ _ _ _ ⟨rfl, rfl, rfl, rfl⟩ -
      refine pm_go 9999 (by exact okX2_whyNot) rfl ?_; (try dsimp only [pm_st1, pm_st2, pm_cat2, pm_la, Option.toList, List.cons_append, List.nil_append])
      refine pm_ri (by exact okX2_whyNot) rfl rfl rfl (Nat.le_refl _) (Nat.le_refl _) (⟨by unfold sg_wy; rw [if_neg h1, if_neg h2], rfl, rfl, rfl⟩)
    · have h2 : c = 46 := (nI_eq (a := c) (b := 46) (by omega) (by omega)).mp h2
      subst h2
      refine pm_go 9999 (by exact okX2_whyNot) rfl ?_; (try dsimp only [pm_st1, pm_st2, pm_cat2, pm_la, Option.toList, List.cons_append, List.nil_append])
      refine pm_cs (by exact okX2_whyNot) (by exact okX8_length) rfl (by exact arX8_length) (t_length (d := 1) hR hB (by omega)) rfl (by dsimp only; omega) rfl (Nat.le_of_ble_eq_true rfl) ⟨Nat.zero_le _, Nat.zero_le _⟩ ?_
      rintro _ _ _ _ ⟨rfl, rfl, rfl, rfl⟩ -
      refine pm_go 9999 (by exact okX2_whyNot) rfl ?_; (try dsimp only [pm_st1, pm_st2, pm_cat2, pm_la, Option.toList, List.cons_append, List.nil_append])
      refine pm_zne (by exact okX2_whyNot) rfl (fun h3 => ?_) (fun h3 => ?_)
      · have h4 : r ≠ [] := fun q => h3 (by rw [q]; rfl)
        refine pm_go 9999 (by exact okX2_whyNot) rfl ?_; (try dsimp only [pm_st1, pm_st2, pm_cat2, pm_la, Option.toList, List.cons_append, List.nil_append])
        refine pm_ri (by exact okX2_whyNot) rfl rfl rfl (Nat.le_refl _) (Nat.le_refl _) (⟨by unfold sg_wy; rw [if_neg (by omega), if_pos rfl, if_neg h4]; rfl, rfl, rfl, rfl⟩)
      · have h4 : r = [] := List.length_eq_zero_iff.mp ((nI_eq (a := r.length) (b := 0) (by omega) (by omega)).mp h3)
        refine pm_go 9999 (by exact okX2_whyNot) rfl ?_; (try dsimp only [pm_st1, pm_st2, pm_cat2, pm_la, Option.toList, List.cons_append, List.nil_append])
        refine pm_ri (by exact okX2_whyNot) rfl rfl rfl (Nat.le_refl _) (Nat.le_refl _) (⟨by unfold sg_wy; rw [if_neg (by omega), if_pos rfl, if_pos h4]; rfl, rfl, rfl, rfl⟩)
  · have h1 : c = 42 := (nI_eq (a := c) (b := 42) (by omega) (by omega)).mp h1
    subst h1
    refine pm_go 9999 (by exact okX2_whyNot) rfl ?_; (try dsimp only [pm_st1, pm_st2, pm_cat2, pm_la, Option.toList, List.cons_append, List.nil_append])
    refine pm_ri (by exact okX2_whyNot) rfl rfl rfl (Nat.le_refl _) (Nat.le_refl _) (⟨rfl, rfl, rfl, rfl⟩)
set_option maxRecDepth 100000 in
set_option maxHeartbeats 1000000 in
theorem C_after {g : gS} {r : List Nat} {s c : Nat} (hg : gOK g) (h : XGo 3 g mu) (hR : rOK (gB g) r s) (hc : tldc (gB g) c) (hw : sg_wy g c r s = 0) (hd : 4 ≤ d) : pm_T cx mX2_after d 0 0 [.ref 3, .int (nI (st_k r s)), .int (nI c)] (sh_ i0 i1 ex) mu nu (pm_ret (some (.int (nI (st_k (sg_af g c r s).1 (sg_af g c r s).2)))) (sh_ i0 i1 ex) mu nu) := by
  have hB := hg.1.2
  have hln := rOK_len hR hB
  have hc2 : c < 200 := by rcases hc with q | q | q <;> omega
  obtain ⟨a1, a2, -⟩ := id h
  refine pm_enterN 0 (by exact okX2_after) rfl ?_; dsimp only [pm_la, pm_cat2, List.replicate, List.cons_append, List.nil_append, List.append_nil]
  refine pm_go 9999 (by exact okX2_after) rfl ?_; (try dsimp only [pm_st1, pm_st2, pm_cat2, pm_la, Option.toList, List.cons_append, List.nil_append])
  refine pm_ine (by exact okX2_after) rfl (fun h1 => ?_) (fun h1 => ?_)
  · have h1 : ¬ c = 42 := fun q => h1 (by rw [q]; rfl)
    refine pm_go 9999 (by exact okX2_after) rfl ?_; (try dsimp only [pm_st1, pm_st2, pm_cat2, pm_la, Option.toList, List.cons_append, List.nil_append])
    refine pm_ine (by exact okX2_after) rfl (fun h2 => ?_) (fun h2 => ?_)
    · have h2 : ¬ c = 46 := fun q => h2 (by rw [q]; rfl)
      have h3 : 97 ≤ c ∧ c < 97 + gB g := by rcases hc with q | q | q <;> omega
      have h4 : ¬ s.testBit (c - 97) = true := by
        unfold sg_wy at hw
        rw [if_neg h1, if_neg h2] at hw
        exact gd_wy_bit hw
      refine pm_go 9999 (by exact okX2_after) rfl ?_; (try dsimp only [pm_st1, pm_st2, pm_cat2, pm_la, Option.toList, List.cons_append, List.nil_append])
      rw [show nI c - 97 = nI (c - 97) by rw [show (97 : Int32) = nI 97 from rfl, pk_sub (by omega)]]
      refine pm_cs (by exact okX2_after) (by exact okX8_watered) rfl (by exact arX8_watered) (t_wateredX (d := 3) hR hB (by omega) h4 (by omega)) rfl (by dsimp only; omega) rfl (Nat.le_of_ble_eq_true rfl) ⟨Nat.zero_le _, Nat.zero_le _⟩ ?_
      rintro _ _ _ _ ⟨rfl, rfl, rfl, rfl⟩ -
      refine pm_go 9999 (by exact okX2_after) rfl ?_; (try dsimp only [pm_st1, pm_st2, pm_cat2, pm_la, Option.toList, List.cons_append, List.nil_append])
      refine pm_ri (by exact okX2_after) rfl rfl rfl (Nat.le_refl _) (Nat.le_refl _) (⟨by unfold sg_af; rw [if_neg h1, if_neg h2], rfl, rfl, rfl⟩)
    · have h2 : c = 46 := (nI_eq (a := c) (b := 46) (by omega) (by omega)).mp h2
      subst h2
      refine pm_go 9999 (by exact okX2_after) rfl ?_; (try dsimp only [pm_st1, pm_st2, pm_cat2, pm_la, Option.toList, List.cons_append, List.nil_append])
      refine pm_cv (by exact okX2_after) (by exact okX2_afterMorning) rfl (by exact arX2_afterMorning) (C_afterMorning (d := 3) a2 hg.2.1 hB hR (by omega)) rfl rfl rfl (by dsimp only; omega) rfl (Nat.le_of_ble_eq_true rfl) ⟨Nat.zero_le _, Nat.zero_le _⟩ ?_
      rintro _ _ _ _ ⟨rfl, rfl, rfl, rfl⟩ -
      refine pm_go 9999 (by exact okX2_after) rfl ?_; (try dsimp only [pm_st1, pm_st2, pm_cat2, pm_la, Option.toList, List.cons_append, List.nil_append])
      refine pm_ri (by exact okX2_after) rfl rfl rfl (Nat.le_refl _) (Nat.le_refl _) (⟨by unfold sg_af; rw [if_neg (by omega), if_pos rfl], rfl, rfl, rfl⟩)
  · have h1 : c = 42 := (nI_eq (a := c) (b := 42) (by omega) (by omega)).mp h1
    subst h1
    refine pm_go 9999 (by exact okX2_after) rfl ?_; (try dsimp only [pm_st1, pm_st2, pm_cat2, pm_la, Option.toList, List.cons_append, List.nil_append])
    rw [a1]
    refine pm_cs (by exact okX2_after) (by exact okX8_rained) rfl (by exact arX8_rained) (t_rainedX (d := 1) hR hB (by omega)) rfl (by dsimp only; omega) rfl (Nat.le_of_ble_eq_true rfl) ⟨Nat.zero_le _, Nat.zero_le _⟩ ?_
    rintro _ _ _ _ ⟨rfl, rfl, rfl, rfl⟩ -
    refine pm_go 9999 (by exact okX2_after) rfl ?_; (try dsimp only [pm_st1, pm_st2, pm_cat2, pm_la, Option.toList, List.cons_append, List.nil_append])
    refine pm_ri (by exact okX2_after) rfl rfl rfl (Nat.le_refl _) (Nat.le_refl _) (⟨by unfold sg_af; rw [if_pos rfl], rfl, rfl, rfl⟩)
set_option maxRecDepth 100000 in
set_option maxHeartbeats 1000000 in
theorem C_fi_l {Q : pm_Po} {g : gS} {pd : List Nat} (hg : gOK g) (h : XGo 3 g mu) (hp : XP pd mu) (hpd : dOK pd) (hc : ∀ c ∈ pd, tldc (gB g) c) (hd : 5 ≤ d) : ∀ (t : List Nat) (k : Nat) (r : List Nat) (s : Nat) (cm : List Nat), pd.drop k = t → k ≤ pd.length → rOK (gB g) r s → Q (some (.int (nO ((wk_run (gL g) (gG g) (gB g) (gP g) t [] r s cm k).1.map (fun q => q.1))))) (sh_ i0 i1 ex) mu nu → pm_G cx (mX2_firstImpossible, d, 0, 0, n0, Q) 0 0 7 [some (.ref 3), some (.ref 1), some (.int (nI (st_k r s))), some (.int (nI k)), none] [] (sh_ i0 i1 ex) mu nu := by
  have hl := hpd.1
  have hB := hg.1.2
  intro t
  induction t with
  | nil =>
    intro k r s cm ht hk hR hq
    have hk2 := drop_nil ht hk
    refine pm_go 9999 (by exact okX2_firstImpossible) rfl ?_; (try dsimp only [pm_st1, pm_st2, pm_cat2, pm_la, Option.toList, List.cons_append, List.nil_append])
    rw [hp.1]
    refine pm_ige (by exact okX2_firstImpossible) rfl (fun h1 => ?_) (fun h1 => ?_)
    · refine pm_go 9999 (by exact okX2_firstImpossible) rfl ?_; (try dsimp only [pm_st1, pm_st2, pm_cat2, pm_la, Option.toList, List.cons_append, List.nil_append])
      refine pm_ri (by exact okX2_firstImpossible) rfl rfl rfl (Nat.le_refl _) (Nat.le_refl _) (hq)
    · exact absurd (nI_le (by omega) (by omega)) h1
  | cons c t ih =>
    intro k r s cm ht hk hR hq
    obtain ⟨t1, t2, t3⟩ := drop_get ht
    have hcc := hc c (mem_drop ht)
    have hwle : sg_wy g c r s ≤ 4 := by
      unfold sg_wy
      have := gd_wy_le (gate := gG g) (pa := gP g) (r := r) (s := s) (b := c - 97)
      split
      · omega
      · split
        · split <;> omega
        · omega
    refine pm_go 9999 (by exact okX2_firstImpossible) rfl ?_; (try dsimp only [pm_st1, pm_st2, pm_cat2, pm_la, Option.toList, List.cons_append, List.nil_append])
    rw [hp.1]
    refine pm_ige (by exact okX2_firstImpossible) rfl (fun h1 => ?_) (fun h1 => ?_)
    · exact absurd h1 (nI_ge (by omega) (by omega))
    · refine pm_go 9999 (by exact okX2_firstImpossible) rfl ?_; (try dsimp only [pm_st1, pm_st2, pm_cat2, pm_la, Option.toList, List.cons_append, List.nil_append])
      refine pm_cv (by exact okX2_firstImpossible) (by exact okX7_signAt) rfl (by exact arX7_signAt) (C_signAt (d := 0) hp (by omega) t1) rfl rfl rfl (by dsimp only; omega) rfl (Nat.le_of_ble_eq_true rfl) ⟨Nat.zero_le _, Nat.zero_le _⟩ ?_
      rintro _ _ _ _ ⟨rfl, rfl, rfl, rfl⟩ -
      refine pm_go 9999 (by exact okX2_firstImpossible) rfl ?_; (try dsimp only [pm_st1, pm_st2, pm_cat2, pm_la, Option.toList, List.cons_append, List.nil_append])
      refine pm_cv (by exact okX2_firstImpossible) (by exact okX2_whyNot) rfl (by exact arX2_whyNot) (C_whyNot (d := 3) hg h hR hcc (by omega)) rfl rfl rfl (by dsimp only; omega) rfl (Nat.le_of_ble_eq_true rfl) ⟨Nat.zero_le _, Nat.zero_le _⟩ ?_
      rintro _ _ _ _ ⟨rfl, rfl, rfl, rfl⟩ -
      refine pm_go 9999 (by exact okX2_firstImpossible) rfl ?_; (try dsimp only [pm_st1, pm_st2, pm_cat2, pm_la, Option.toList, List.cons_append, List.nil_append])
      rw [wk_step hcc hB] at hq
      refine pm_zeq (by exact okX2_firstImpossible) rfl (fun h2 => ?_) (fun h2 => ?_)
      · have h2 : sg_wy g c r s = 0 := (nI_eq (b := 0) (by omega) (by omega)).mp h2
        rw [if_pos h2] at hq
        refine pm_go 9999 (by exact okX2_firstImpossible) rfl ?_; (try dsimp only [pm_st1, pm_st2, pm_cat2, pm_la, Option.toList, List.cons_append, List.nil_append])
        refine pm_cv (by exact okX2_firstImpossible) (by exact okX2_after) rfl (by exact arX2_after) (C_after (d := 4) hg h hR hcc h2 (by omega)) rfl rfl rfl (by dsimp only; omega) rfl (Nat.le_of_ble_eq_true rfl) ⟨Nat.zero_le _, Nat.zero_le _⟩ ?_
        rintro _ _ _ _ ⟨rfl, rfl, rfl, rfl⟩ -
        refine pm_go 7 (by exact okX2_firstImpossible) rfl ?_; (try dsimp only [pm_st1, pm_st2, pm_cat2, pm_la, Option.toList, List.cons_append, List.nil_append])
        refine pm_G.fg [false, false, false, false, true] ?_; dsimp only [pm_fg]
        rw [nI_1]
        exact ih (k + 1) _ _ _ t2 (by omega) (sg_af_ok hcc hR h2) hq
      · have h2 : ¬ sg_wy g c r s = 0 := fun q => h2 (by rw [q]; rfl)
        rw [if_neg h2] at hq
        refine pm_go 9999 (by exact okX2_firstImpossible) rfl ?_; (try dsimp only [pm_st1, pm_st2, pm_cat2, pm_la, Option.toList, List.cons_append, List.nil_append])
        refine pm_ri (by exact okX2_firstImpossible) rfl rfl rfl (Nat.le_refl _) (Nat.le_refl _) (hq)
theorem pd_op0 {B : Nat} {pd : List Nat} (h : pd_wf B 0 0 pd = none) (ho : pd_op pd = 0) : ∀ c ∈ pd, tldc B c := by
  intro c hc
  have h1 := (pd_wf_ok pd 0 0 (by omega) h).1 c hc
  rcases h1 with q | q | q | q
  · exact Or.inl q
  · exact Or.inr (Or.inl q)
  · exfalso
    unfold pd_op at ho
    have : c ∈ pd.filter (fun c => c == 63) := List.mem_filter.mpr ⟨hc, by simp [q]⟩
    rw [List.length_eq_zero_iff.mp ho] at this
    simp at this
  · exact Or.inr (Or.inr q)
theorem wk_of0 {g : gS} {pd : List Nat} (ho : pd_op pd = 0) : wk_of g pd 0 = wk_run (gL g) (gG g) (gB g) (gP g) pd [] (gR g) (gM g) [] 0 := by
  unfold wk_of
  rw [ho]
  rfl
set_option maxRecDepth 100000 in
set_option maxHeartbeats 1000000 in
theorem C_firstImpossible {g : gS} {pd : List Nat} (hg : gOK g) (h : XGo 3 g mu) (hp : XP pd mu) (hpd : dOK pd) (hc : ∀ c ∈ pd, tldc (gB g) c) (hd : 5 ≤ d) : pm_T cx mX2_firstImpossible d 0 0 [.ref 3, .ref 1] (sh_ i0 i1 ex) mu nu (pm_ret (some (.int (nO ((wk_run (gL g) (gG g) (gB g) (gP g) pd [] (gR g) (gM g) [] 0).1.map (fun q => q.1))))) (sh_ i0 i1 ex) mu nu) := by
  obtain ⟨a1, a2, a3, a4, a5, -⟩ := id h
  refine pm_enterN 3 (by exact okX2_firstImpossible) rfl ?_; dsimp only [pm_la, pm_cat2, List.replicate, List.cons_append, List.nil_append, List.append_nil]
  refine pm_go 7 (by exact okX2_firstImpossible) rfl ?_; (try dsimp only [pm_st1, pm_st2, pm_cat2, pm_la, Option.toList, List.cons_append, List.nil_append])
  rw [a5]
  exact C_fi_l hg h hp hpd hc hd pd 0 _ _ _ rfl (by omega) hg.2.2.2.2.2.2.2.1 ⟨rfl, rfl, rfl, rfl⟩
set_option maxRecDepth 100000 in
set_option maxHeartbeats 1000000 in
theorem C_wi_l {Q : pm_Po} {g : gS} {pd : List Nat} {f w : Nat} (hg : gOK g) (h : XGo 3 g mu) (hp : XP pd mu) (hpd : dOK pd) (hc : ∀ c ∈ pd, tldc (gB g) c) (hd : 5 ≤ d) (hf : f < 48) : ∀ (t : List Nat) (k : Nat) (r : List Nat) (s : Nat) (cm : List Nat), pd.drop k = t → k ≤ pd.length → rOK (gB g) r s → (wk_run (gL g) (gG g) (gB g) (gP g) t [] r s cm k).1 = some (f, w) → Q (some (.int (nI w))) (sh_ i0 i1 ex) mu nu → pm_G cx (mX2_whyImpossible, d, 0, 0, n0, Q) 0 0 14 [some (.ref 3), some (.ref 1), some (.int (nI f)), some (.int (nI (st_k r s))), some (.int (nI k))] [] (sh_ i0 i1 ex) mu nu := by
  have hl := hpd.1
  have hB := hg.1.2
  intro t
  induction t with
  | nil =>
    intro k r s cm ht hk hR hw hq
    simp [wk_run] at hw
  | cons c t ih =>
    intro k r s cm ht hk hR hw hq
    obtain ⟨t1, t2, t3⟩ := drop_get ht
    have hcc := hc c (mem_drop ht)
    have hct : ∀ x ∈ t, tldc (gB g) x := fun x hx => hc x (List.mem_of_mem_drop (i := k) (by rw [ht]; exact List.mem_cons_of_mem _ hx))
    rw [wk_step hcc hB] at hw
    by_cases h2 : sg_wy g c r s = 0
    · rw [if_pos h2] at hw
      have hkf := (wk_ge hB t _ _ _ _ _ hct _ hw).1
      dsimp only at hkf
      refine pm_go 9999 (by exact okX2_whyImpossible) rfl ?_; (try dsimp only [pm_st1, pm_st2, pm_cat2, pm_la, Option.toList, List.cons_append, List.nil_append])
      refine pm_ige (by exact okX2_whyImpossible) rfl (fun h1 => ?_) (fun h1 => ?_)
      · exact absurd h1 (nI_ge (by omega) (by omega))
      · refine pm_go 9999 (by exact okX2_whyImpossible) rfl ?_; (try dsimp only [pm_st1, pm_st2, pm_cat2, pm_la, Option.toList, List.cons_append, List.nil_append])
        refine pm_cv (by exact okX2_whyImpossible) (by exact okX7_signAt) rfl (by exact arX7_signAt) (C_signAt (d := 0) hp (by omega) t1) rfl rfl rfl (by dsimp only; omega) rfl (Nat.le_of_ble_eq_true rfl) ⟨Nat.zero_le _, Nat.zero_le _⟩ ?_
        rintro _ _ _ _ ⟨rfl, rfl, rfl, rfl⟩ -
        refine pm_cv (by exact okX2_whyImpossible) (by exact okX2_after) rfl (by exact arX2_after) (C_after (d := 4) hg h hR hcc h2 (by omega)) rfl rfl rfl (by dsimp only; omega) rfl (Nat.le_of_ble_eq_true rfl) ⟨Nat.zero_le _, Nat.zero_le _⟩ ?_
        rintro _ _ _ _ ⟨rfl, rfl, rfl, rfl⟩ -
        refine pm_go 14 (by exact okX2_whyImpossible) rfl ?_; (try dsimp only [pm_st1, pm_st2, pm_cat2, pm_la, Option.toList, List.cons_append, List.nil_append])
        rw [nI_1]
        exact ih (k + 1) _ _ _ t2 (by omega) (sg_af_ok hcc hR h2) hw hq
    · rw [if_neg h2] at hw
      injection hw with hw
      injection hw with e1 e2
      subst e1
      subst e2
      refine pm_go 9999 (by exact okX2_whyImpossible) rfl ?_; (try dsimp only [pm_st1, pm_st2, pm_cat2, pm_la, Option.toList, List.cons_append, List.nil_append])
      refine pm_ige (by exact okX2_whyImpossible) rfl (fun h1 => ?_) (fun h1 => ?_)
      · refine pm_go 9999 (by exact okX2_whyImpossible) rfl ?_; (try dsimp only [pm_st1, pm_st2, pm_cat2, pm_la, Option.toList, List.cons_append, List.nil_append])
        refine pm_ine (by exact okX2_whyImpossible) rfl (fun h3 => ?_) (fun h3 => ?_)
        · refine pm_go 9999 (by exact okX2_whyImpossible) rfl ?_; (try dsimp only [pm_st1, pm_st2, pm_cat2, pm_la, Option.toList, List.cons_append, List.nil_append])
          refine pm_cv (by exact okX2_whyImpossible) (by exact okX7_signAt) rfl (by exact arX7_signAt) (C_signAt (d := 0) hp (by omega) t1) rfl rfl rfl (by dsimp only; omega) rfl (Nat.le_of_ble_eq_true rfl) ⟨Nat.zero_le _, Nat.zero_le _⟩ ?_
          rintro _ _ _ _ ⟨rfl, rfl, rfl, rfl⟩ -
          refine pm_cv (by exact okX2_whyImpossible) (by exact okX2_whyNot) rfl (by exact arX2_whyNot) (C_whyNot (d := 3) hg h hR hcc (by omega)) rfl rfl rfl (by dsimp only; omega) rfl (Nat.le_of_ble_eq_true rfl) ⟨Nat.zero_le _, Nat.zero_le _⟩ ?_
          rintro _ _ _ _ ⟨rfl, rfl, rfl, rfl⟩ -
          refine pm_go 9999 (by exact okX2_whyImpossible) rfl ?_; (try dsimp only [pm_st1, pm_st2, pm_cat2, pm_la, Option.toList, List.cons_append, List.nil_append])
          refine pm_ri (by exact okX2_whyImpossible) rfl rfl rfl (Nat.le_refl _) (Nat.le_refl _) (hq)
        · exact absurd h3 (nI_ne_m (by omega)).2
      · exact absurd (nI_le (by omega) (by omega)) h1
set_option maxRecDepth 100000 in
set_option maxHeartbeats 1000000 in
theorem C_whyImpossible {g : gS} {pd : List Nat} (hg : gOK g) (h : XGo 3 g mu) (hp : XP pd mu) (hpd : dOK pd) (hc : ∀ c ∈ pd, tldc (gB g) c) (hd : 6 ≤ d) : pm_T cx mX2_whyImpossible d 0 0 [.ref 3, .ref 1] (sh_ i0 i1 ex) mu nu (pm_ret (some (.int (nO ((wk_run (gL g) (gG g) (gB g) (gP g) pd [] (gR g) (gM g) [] 0).1.map (fun q => q.2))))) (sh_ i0 i1 ex) mu nu) := by
  obtain ⟨a1, a2, a3, a4, a5, -⟩ := id h
  have hl := hpd.1
  refine pm_enterN 3 (by exact okX2_whyImpossible) rfl ?_; dsimp only [pm_la, pm_cat2, List.replicate, List.cons_append, List.nil_append, List.append_nil]
  refine pm_go 9999 (by exact okX2_whyImpossible) rfl ?_; (try dsimp only [pm_st1, pm_st2, pm_cat2, pm_la, Option.toList, List.cons_append, List.nil_append])
  refine pm_cv (by exact okX2_whyImpossible) (by exact okX2_firstImpossible) rfl (by exact arX2_firstImpossible) (C_firstImpossible (d := 5) hg h hp hpd hc (by omega)) rfl rfl rfl (by dsimp only; omega) rfl (Nat.le_of_ble_eq_true rfl) ⟨Nat.zero_le _, Nat.zero_le _⟩ ?_
  rintro _ _ _ _ ⟨rfl, rfl, rfl, rfl⟩ -
  refine pm_go 14 (by exact okX2_whyImpossible) rfl ?_; (try dsimp only [pm_st1, pm_st2, pm_cat2, pm_la, Option.toList, List.cons_append, List.nil_append])
  rw [a5]
  cases hw : (wk_run (gL g) (gG g) (gB g) (gP g) pd [] (gR g) (gM g) [] 0).1 with
  | none =>
    rw [Option.map_none, Option.map_none, nO_none]
    refine pm_go 9999 (by exact okX2_whyImpossible) rfl ?_; (try dsimp only [pm_st1, pm_st2, pm_cat2, pm_la, Option.toList, List.cons_append, List.nil_append])
    refine pm_ige (by exact okX2_whyImpossible) rfl (fun h1 => ?_) (fun h1 => ?_)
    · refine pm_go 9999 (by exact okX2_whyImpossible) rfl ?_; (try dsimp only [pm_st1, pm_st2, pm_cat2, pm_la, Option.toList, List.cons_append, List.nil_append])
      refine pm_ine (by exact okX2_whyImpossible) rfl (fun h3 => ?_) (fun h3 => ?_)
      · exact absurd rfl h3
      · refine pm_go 9999 (by exact okX2_whyImpossible) rfl ?_; (try dsimp only [pm_st1, pm_st2, pm_cat2, pm_la, Option.toList, List.cons_append, List.nil_append])
        refine pm_ri (by exact okX2_whyImpossible) rfl rfl rfl (Nat.le_refl _) (Nat.le_refl _) (⟨rfl, rfl, rfl, rfl⟩)
    · exact absurd (by decide) h1
  | some q =>
    obtain ⟨f, w⟩ := q
    have hf := (wk_ge hg.1.2 pd _ _ _ _ _ hc _ hw).2
    dsimp only at hf
    rw [Option.map_some, Option.map_some, nO_some, nO_some]
    exact C_wi_l hg h hp hpd hc (by omega) (by omega) pd 0 _ _ _ rfl (by omega) hg.2.2.2.2.2.2.2.1 hw ⟨rfl, rfl, rfl, rfl⟩
end

/-! ===== the class's orders ===== -/
/-- f j + f (j + 1) + .. , n of them -/
def cs_ (f : Nat → Nat) : Nat → Nat → Nat
  | 0, _ => 0
  | n + 1, j => f j + cs_ f n (j + 1)
/-- the class's heights after m waterings -/
def cH (k : Nat) : Nat → Nat → Nat
  | 0, h => if h = 0 then 1 else 0
  | m + 1, h => if h = 0 then cs_ (cH k m) k 0 else cs_ (cH k m) (k - (h - 1)) (h - 1)
theorem ow_0 {k h : Nat} (hh : 0 < h) : ow_ k 0 h = 0 := if_neg (by omega)
theorem cH_ow {k : Nat} (hk : 1 ≤ k) : ∀ (m h : Nat), h ≤ k → cH k m h = ow_ k (2 * m - h) h := by
  intro m
  induction m with
  | zero =>
    intro h hh
    rw [show 2 * 0 - h = 0 by omega]
    rfl
  | succ m ih =>
    have sum : ∀ (n h : Nat), h + (n + 1) = k → cs_ (cH k m) (n + 1) h = ow_ k (2 * m + 1 - h) (h + 1) := by
      intro n
      induction n with
      | zero =>
        intro h hh
        show cH k m h + 0 = _
        rw [ih h (by omega)]
        rcases Nat.lt_or_ge (2 * m) h with q | q
        · rw [show 2 * m - h = 0 by omega, show 2 * m + 1 - h = 0 by omega, ow_0 (by omega), ow_0 (by omega)]
        · rw [show 2 * m + 1 - h = (2 * m - h) + 1 by omega]
          show _ = (if h + 1 = 0 then 0 else ow_ k (2 * m - h) (h + 1 - 1)) + (if h + 1 < k then _ else 0)
          rw [if_neg (by omega), if_neg (by omega), Nat.add_sub_cancel]
      | succ n ihn =>
        intro h hh
        show cH k m h + cs_ (cH k m) (n + 1) (h + 1) = _
        rw [ih h (by omega), ihn (h + 1) (by omega), show 2 * m + 1 - (h + 1) = 2 * m - h by omega]
        rcases Nat.lt_or_ge (2 * m) h with q | q
        · rw [show 2 * m - h = 0 by omega, show 2 * m + 1 - h = 0 by omega, ow_0 (by omega), ow_0 (by omega), ow_0 (by omega)]
        · rw [show 2 * m + 1 - h = (2 * m - h) + 1 by omega]
          show _ = (if h + 1 = 0 then 0 else ow_ k (2 * m - h) (h + 1 - 1)) + (if h + 1 < k then ow_ k (2 * m - h) (h + 1 + 1) else 0)
          rw [if_neg (by omega), if_pos (by omega), Nat.add_sub_cancel]
    intro h hh
    show (if h = 0 then cs_ (cH k m) k 0 else cs_ (cH k m) (k - (h - 1)) (h - 1)) = _
    by_cases h0 : h = 0
    · subst h0
      rw [if_pos rfl]
      have e := sum (k - 1) 0 (by omega)
      rw [show k - 1 + 1 = k by omega] at e
      rw [e, show 2 * (m + 1) - 0 = (2 * m + 1 - 0) + 1 by omega]
      show _ = (if 0 = 0 then 0 else _) + (if 0 < k then ow_ k (2 * m + 1 - 0) (0 + 1) else 0)
      rw [if_pos rfl, if_pos (by omega)]
      exact (Nat.zero_add _).symm
    · rw [if_neg h0]
      have e := sum (k - (h - 1) - 1) (h - 1) (by omega)
      rw [show k - (h - 1) - 1 + 1 = k - (h - 1) by omega, show h - 1 + 1 = h by omega, show 2 * m + 1 - (h - 1) = 2 * (m + 1) - h by omega] at e
      exact e
section
variable {cx : pm_CX} {d n0 : Nat} {i0 i1 : Option Nat} {ex : List pm_C} {mu : pm_I} {nu : pm_J}
set_option maxRecDepth 100000 in
set_option maxHeartbeats 1000000 in
theorem t_fillL_l {Q : pm_Po} (kk : ∀ nu' : pm_J, (∀ h, h < 31 → nu' 18 h = 0) → Q none (sh_ i0 i1 ex) mu nu') : ∀ (j k : Nat) (nu1 : pm_J), k + j = 31 → (∀ h, h < k → nu1 18 h = 0) → pm_G cx (mJ7_fill_d0a16, d, 0, 0, n0, Q) 0 0 6 [some (.ref 18), some (.long 0), none, some (.int (nI k)), some (.int (nI 31))] [] (sh_ i0 i1 ex) mu nu1 := by
  intro j
  induction j with
  | zero =>
    intro k nu1 hk hm
    have hk : k = 31 := by omega
    subst hk
    refine pm_go 9999 (by exact okJ7_fill_d0a16) rfl ?_; (try dsimp only [pm_st1, pm_st2, pm_cat2, pm_la, Option.toList, List.cons_append, List.nil_append])
    refine pm_ige (by exact okJ7_fill_d0a16) rfl (fun h1 => ?_) (fun h1 => ?_)
    · refine pm_go 9999 (by exact okJ7_fill_d0a16) rfl ?_; (try dsimp only [pm_st1, pm_st2, pm_cat2, pm_la, Option.toList, List.cons_append, List.nil_append])
      refine pm_rv (by exact okJ7_fill_d0a16) rfl rfl (Nat.le_refl _) (Nat.le_refl _) (kk nu1 hm)
    · exact absurd (by decide) h1
  | succ j ih =>
    intro k nu1 hk hm
    refine pm_go 9999 (by exact okJ7_fill_d0a16) rfl ?_; (try dsimp only [pm_st1, pm_st2, pm_cat2, pm_la, Option.toList, List.cons_append, List.nil_append])
    refine pm_ige (by exact okJ7_fill_d0a16) rfl (fun h1 => ?_) (fun h1 => ?_)
    · exact absurd h1 (nI_ge (a := k) (b := 31) (by omega) (by omega))
    · refine pm_go 9999 (by exact okJ7_fill_d0a16) rfl ?_; (try dsimp only [pm_st1, pm_st2, pm_cat2, pm_la, Option.toList, List.cons_append, List.nil_append])
      refine pm_las (by exact okJ7_fill_d0a16) rfl rfl (vp_in_nI (by omega) (by omega)) ?_
      refine pm_go 6 (by exact okJ7_fill_d0a16) rfl ?_; (try dsimp only [pm_st1, pm_st2, pm_cat2, pm_la, Option.toList, List.cons_append, List.nil_append])
      rw [nI_clamp (by omega), nI_1]
      refine ih (k + 1) _ (by omega) (fun h hh => ?_)
      rw [pm_uq_app, if_pos rfl]
      by_cases e : h = k
      · rw [if_pos e]
      · rw [if_neg e]; exact hm h (by omega)
set_option maxRecDepth 100000 in
set_option maxHeartbeats 1000000 in
theorem t_fillL : pm_T cx mJ7_fill_d0a16 d 0 0 [.ref 18, .long 0] (sh_ i0 i1 ex) mu nu (fun r sg' mu' nu' => r = none ∧ sg' = sh_ i0 i1 ex ∧ mu' = mu ∧ ∀ h, h < 31 → nu' 18 h = 0) := by
  refine pm_enterN 2 (by exact okJ7_fill_d0a16) rfl ?_; dsimp only [pm_la, pm_cat2, List.replicate, List.cons_append, List.nil_append, List.append_nil]
  refine pm_go 6 (by exact okJ7_fill_d0a16) rfl ?_; (try dsimp only [pm_st1, pm_st2, pm_cat2, pm_la, Option.toList, List.cons_append, List.nil_append])
  exact t_fillL_l (fun nu' h => ⟨rfl, rfl, rfl, h⟩) 31 0 nu rfl (fun h hh => absurd hh (by omega))
-- one watering: from place j - 1 down
set_option maxRecDepth 100000 in
set_option maxHeartbeats 1000000 in
theorem t_num_in {Q : pm_Po} {x1 x2 x4 : Int32} {k m : Nat} (hk : 1 ≤ k ∧ k ≤ 30) (kk : ∀ nu' : pm_J, (∀ h, h < k → nu' 18 (h + 1) = lN (cs_ (cH k m) (k - h) h)) → pm_G cx (mX5_number, d, 0, 0, n0, Q) 0 0 70 [some (.ref 18), some (.int x1), some (.int x2), some (.int (nI k)), some (.int x4), some (.long (lN (cs_ (cH k m) k 0))), none, none] [] (sh_ i0 i1 ex) mu nu') : ∀ (j : Nat) (x7 : Int32) (nu1 : pm_J), j ≤ k → x7 = nI j - 1 → (∀ h, h < j → nu1 18 h = lN (cH k m h)) → (∀ h, j ≤ h → h < k → nu1 18 (h + 1) = lN (cs_ (cH k m) (k - h) h)) → pm_G cx (mX5_number, d, 0, 0, n0, Q) 0 0 42 [some (.ref 18), some (.int x1), some (.int x2), some (.int (nI k)), some (.int x4), some (.long (lN (cs_ (cH k m) (k - j) j))), none, some (.int x7)] [] (sh_ i0 i1 ex) mu nu1 := by
  intro j
  induction j with
  | zero =>
    intro x7 nu1 hj hx h1 h2
    subst hx
    refine pm_go 9999 (by exact okX5_number) rfl ?_; (try dsimp only [pm_st1, pm_st2, pm_cat2, pm_la, Option.toList, List.cons_append, List.nil_append])
    refine pm_zlt (by exact okX5_number) rfl (fun q1 => ?_) (fun q1 => ?_)
    · refine pm_G.fg [false, false, false, false, false, false, false, true] ?_; dsimp only [pm_fg]
      exact kk nu1 (fun h hh => h2 h (by omega) hh)
    · exact absurd (by decide) q1
  | succ j ih =>
    intro x7 nu1 hj hx h1 h2
    rw [nI_m1 (by omega), Nat.add_sub_cancel] at hx
    subst hx
    refine pm_go 9999 (by exact okX5_number) rfl ?_; (try dsimp only [pm_st1, pm_st2, pm_cat2, pm_la, Option.toList, List.cons_append, List.nil_append])
    refine pm_zlt (by exact okX5_number) rfl (fun q1 => ?_) (fun q1 => ?_)
    · exact absurd q1 (nI_pos (by omega))
    · refine pm_go 9999 (by exact okX5_number) rfl ?_; (try dsimp only [pm_st1, pm_st2, pm_cat2, pm_la, Option.toList, List.cons_append, List.nil_append])
      refine pm_lal (by exact okX5_number) rfl rfl (vp_in_nI (by omega) (by omega)) ?_
      rw [nI_clamp (by omega), h1 j (by omega)]
      refine pm_go 9999 (by exact okX5_number) rfl ?_; (try dsimp only [pm_st1, pm_st2, pm_cat2, pm_la, Option.toList, List.cons_append, List.nil_append])
      rw [nI_1]
      refine pm_las (by exact okX5_number) rfl rfl (vp_in_nI (by omega) (by omega)) ?_
      rw [nI_clamp (by omega), lN_add]
      refine pm_go 42 (by exact okX5_number) rfl ?_; (try dsimp only [pm_st1, pm_st2, pm_cat2, pm_la, Option.toList, List.cons_append, List.nil_append])
      have e : cs_ (cH k m) (k - (j + 1)) (j + 1) + cH k m j = cs_ (cH k m) (k - j) j := by
        rw [show k - j = (k - (j + 1)) + 1 by omega, Nat.add_comm]
        rfl
      rw [e]
      refine ih _ _ (by omega) (Int32.sub_eq_add_neg _ _).symm (fun h hh => ?_) (fun h q2 q3 => ?_)
      · rw [pm_uq_app, if_pos rfl, if_neg (by omega)]
        exact h1 h (by omega)
      · rw [pm_uq_app, if_pos rfl]
        by_cases e2 : h = j
        · subst e2
          rw [if_pos rfl]
        · rw [if_neg (by omega)]
          exact h2 h (by omega) q3
set_option maxRecDepth 100000 in
set_option maxHeartbeats 1000000 in
theorem t_num_out {Q : pm_Po} {x2 : Int32} {k M : Nat} (hk : 1 ≤ k ∧ k ≤ 30) (hM : M ≤ 30) (kk : ∀ nu' : pm_J, Q (some (.long (lN (cH k M 0)))) (sh_ i0 i1 ex) mu nu') : ∀ (j m : Nat) (nu1 : pm_J), m + j = M → (∀ h, h ≤ k → nu1 18 h = lN (cH k m h)) → pm_G cx (mX5_number, d, 0, 0, n0, Q) 0 0 28 [some (.ref 18), some (.int (nI M)), some (.int x2), some (.int (nI k)), some (.int (nI m)), none, none, none] [] (sh_ i0 i1 ex) mu nu1 := by
  intro j
  induction j with
  | zero =>
    intro m nu1 hm h1
    have hm : m = M := by omega
    subst hm
    refine pm_go 9999 (by exact okX5_number) rfl ?_; (try dsimp only [pm_st1, pm_st2, pm_cat2, pm_la, Option.toList, List.cons_append, List.nil_append])
    refine pm_ige (by exact okX5_number) rfl (fun q1 => ?_) (fun q1 => ?_)
    · refine pm_go 9999 (by exact okX5_number) rfl ?_; (try dsimp only [pm_st1, pm_st2, pm_cat2, pm_la, Option.toList, List.cons_append, List.nil_append])
      refine pm_lal (by exact okX5_number) rfl rfl (vp_in_nI (n := 0) (by omega) (by omega)) ?_
      rw [show nu1 18 (Int32.toNatClampNeg 0) = lN (cH k m 0) from h1 0 (by omega)]
      refine pm_rl (by exact okX5_number) rfl rfl (Nat.le_refl _) (Nat.le_refl _) (kk nu1)
    · exact absurd (Int32.le_refl _) q1
  | succ j ih =>
    intro m nu1 hm h1
    refine pm_go 9999 (by exact okX5_number) rfl ?_; (try dsimp only [pm_st1, pm_st2, pm_cat2, pm_la, Option.toList, List.cons_append, List.nil_append])
    refine pm_ige (by exact okX5_number) rfl (fun q1 => ?_) (fun q1 => ?_)
    · exact absurd q1 (nI_ge (by omega) (by omega))
    · refine pm_go 42 (by exact okX5_number) rfl ?_; (try dsimp only [pm_st1, pm_st2, pm_cat2, pm_la, Option.toList, List.cons_append, List.nil_append])
      have e0 : cs_ (cH k m) (k - k) k = 0 := by rw [Nat.sub_self]; rfl
      refine pm_G.cast (L' := [some (.ref 18), some (.int (nI M)), some (.int x2), some (.int (nI k)), some (.int (nI m)), some (.long (lN (cs_ (cH k m) (k - k) k))), none, some (.int (nI k - 1))]) (S' := []) (mu' := mu) (nu' := nu1) ?_ (by rw [e0]; rfl) rfl rfl rfl
      refine t_num_in hk (fun nu2 h2 => ?_) k _ nu1 (Nat.le_refl _) rfl (fun h hh => h1 h (by omega)) (fun h q2 q3 => absurd q3 (by omega))
      refine pm_go 9999 (by exact okX5_number) rfl ?_; (try dsimp only [pm_st1, pm_st2, pm_cat2, pm_la, Option.toList, List.cons_append, List.nil_append])
      refine pm_las (by exact okX5_number) rfl rfl (vp_in_nI (n := 0) (by omega) (by omega)) ?_
      refine pm_go 28 (by exact okX5_number) rfl ?_; (try dsimp only [pm_st1, pm_st2, pm_cat2, pm_la, Option.toList, List.cons_append, List.nil_append])
      refine pm_G.fg [false, false, false, false, false, true, true, true] ?_; dsimp only [pm_fg]
      rw [nI_1]
      refine ih (m + 1) _ (by omega) (fun h hh => ?_)
      rw [pm_uq_app, if_pos rfl]
      show (if h = 0 then lN (cs_ (cH k m) k 0) else nu2 18 h) = lN (if h = 0 then cs_ (cH k m) k 0 else cs_ (cH k m) (k - (h - 1)) (h - 1))
      by_cases e2 : h = 0
      · rw [if_pos e2, if_pos e2]
      · rw [if_neg e2, if_neg e2]
        have := h2 (h - 1) (by omega)
        rw [show h - 1 + 1 = h by omega] at this
        exact this
set_option maxRecDepth 100000 in
set_option maxHeartbeats 1000000 in
theorem t_number {k M : Nat} (hk : 1 ≤ k ∧ k ≤ 30) (hM : M ≤ 30) (hd : 1 ≤ d) : pm_T cx mX5_number d 0 0 [.ref 18, .int (nI M), .int (nI k)] (sh_ i0 i1 ex) mu nu (fun r sg' mu' _ => r = some (.long (lN (ow_ k (2 * M) 0))) ∧ sg' = sh_ i0 i1 ex ∧ mu' = mu) := by
  refine pm_enterN 5 (by exact okX5_number) rfl ?_; dsimp only [pm_la, pm_cat2, List.replicate, List.cons_append, List.nil_append, List.append_nil]
  refine pm_go 9999 (by exact okX5_number) rfl ?_; (try dsimp only [pm_st1, pm_st2, pm_cat2, pm_la, Option.toList, List.cons_append, List.nil_append])
  refine pm_mmin (by exact okX5_number) rfl (by dsimp only; omega) (Nat.le_of_ble_eq_true rfl) ⟨Nat.zero_le _, Nat.zero_le _⟩ ?_
  rw [show (Int32.ofNat 31 - 1) = nI 30 from rfl, if_neg (by exact nI_nlt hk.2 (by omega))]
  refine pm_go 9999 (by exact okX5_number) rfl ?_; (try dsimp only [pm_st1, pm_st2, pm_cat2, pm_la, Option.toList, List.cons_append, List.nil_append])
  refine pm_cs (by exact okX5_number) (by exact okJ7_fill_d0a16) rfl (by exact arJ7_fill_d0a16) (t_fillL (d := 0)) rfl (by dsimp only; omega) rfl (Nat.le_of_ble_eq_true rfl) ⟨Nat.zero_le _, Nat.zero_le _⟩ ?_
  rintro _ _ mu2 nu2 ⟨rfl, rfl, rfl, g1⟩ -
  refine pm_go 9999 (by exact okX5_number) rfl ?_; (try dsimp only [pm_st1, pm_st2, pm_cat2, pm_la, Option.toList, List.cons_append, List.nil_append])
  refine pm_ige (by exact okX5_number) rfl (fun q1 => ?_) (fun q1 => ?_)
  · refine pm_go 9999 (by exact okX5_number) rfl ?_; (try dsimp only [pm_st1, pm_st2, pm_cat2, pm_la, Option.toList, List.cons_append, List.nil_append])
    refine pm_las (by exact okX5_number) rfl rfl (vp_in_nI (n := 0) (by omega) (by omega)) ?_
    refine pm_go 28 (by exact okX5_number) rfl ?_; (try dsimp only [pm_st1, pm_st2, pm_cat2, pm_la, Option.toList, List.cons_append, List.nil_append])
    refine t_num_out hk hM (fun nu' => ⟨by rw [cH_ow hk.1 M 0 (by omega)]; rfl, rfl, rfl⟩) M 0 _ (by omega) (fun h hh => ?_)
    rw [pm_uq_app, if_pos rfl]
    show (if h = 0 then 1 else nu2 18 h) = lN (if h = 0 then 1 else 0)
    by_cases e : h = 0
    · rw [if_pos e, if_pos e]; rfl
    · rw [if_neg e, if_neg e, g1 h (by omega)]; rfl
  · exact absurd (nI_le (a := 1) hk.1 (by omega)) q1
set_option maxRecDepth 100000 in
set_option maxHeartbeats 1000000 in
theorem P_orders (m k : Int32) (hd : 2 ≤ d) : pm_T cx mX10_orders d 0 0 [.ref 0, .int m, .int k] (sh_ i0 i1 ex) mu nu (cQ (.long (sp_orders m k)) mu) := by
  have out : ¬ ((1 ≤ m ∧ m ≤ 30) ∧ 1 ≤ k ∧ k ≤ 30) → sp_orders m k = -2 := fun q => by unfold sp_orders; rw [if_neg q]
  refine pm_enterN 0 (by exact okX10_orders) rfl ?_; dsimp only [pm_la, pm_cat2, List.replicate, List.cons_append, List.nil_append, List.append_nil]
  refine pm_go 9999 (by exact okX10_orders) rfl ?_; (try dsimp only [pm_st1, pm_st2, pm_cat2, pm_la, Option.toList, List.cons_append, List.nil_append])
  refine pm_ilt (by exact okX10_orders) rfl (fun h1 => ?_) (fun h1 => ?_)
  · rw [out (fun q => absurd q.1.1 (Int32.not_le.mpr h1))]
    refine pm_go 9999 (by exact okX10_orders) rfl ?_; (try dsimp only [pm_st1, pm_st2, pm_cat2, pm_la, Option.toList, List.cons_append, List.nil_append])
    refine pm_rl (by exact okX10_orders) rfl rfl (Nat.le_refl _) (Nat.le_refl _) (⟨rfl, ⟨_, _, _, rfl⟩, fX.rf⟩)
  · refine pm_go 9999 (by exact okX10_orders) rfl ?_; (try dsimp only [pm_st1, pm_st2, pm_cat2, pm_la, Option.toList, List.cons_append, List.nil_append])
    refine pm_igt (by exact okX10_orders) rfl (fun h2 => ?_) (fun h2 => ?_)
    · rw [out (fun q => absurd q.1.2 (Int32.not_le.mpr h2))]
      refine pm_go 9999 (by exact okX10_orders) rfl ?_; (try dsimp only [pm_st1, pm_st2, pm_cat2, pm_la, Option.toList, List.cons_append, List.nil_append])
      refine pm_rl (by exact okX10_orders) rfl rfl (Nat.le_refl _) (Nat.le_refl _) (⟨rfl, ⟨_, _, _, rfl⟩, fX.rf⟩)
    · refine pm_go 9999 (by exact okX10_orders) rfl ?_; (try dsimp only [pm_st1, pm_st2, pm_cat2, pm_la, Option.toList, List.cons_append, List.nil_append])
      refine pm_ilt (by exact okX10_orders) rfl (fun h3 => ?_) (fun h3 => ?_)
      · rw [out (fun q => absurd q.2.1 (Int32.not_le.mpr h3))]
        refine pm_go 9999 (by exact okX10_orders) rfl ?_; (try dsimp only [pm_st1, pm_st2, pm_cat2, pm_la, Option.toList, List.cons_append, List.nil_append])
        refine pm_rl (by exact okX10_orders) rfl rfl (Nat.le_refl _) (Nat.le_refl _) (⟨rfl, ⟨_, _, _, rfl⟩, fX.rf⟩)
      · refine pm_go 9999 (by exact okX10_orders) rfl ?_; (try dsimp only [pm_st1, pm_st2, pm_cat2, pm_la, Option.toList, List.cons_append, List.nil_append])
        refine pm_ile (by exact okX10_orders) rfl (fun h4 => ?_) (fun h4 => ?_)
        · have hm := rng_of (a := 1) (b := 30) (by omega) (by omega) ⟨Int32.not_lt.mp h1, Int32.not_lt.mp h2⟩
          have hk := rng_of (a := 1) (b := 30) (by omega) (by omega) ⟨Int32.not_lt.mp h3, h4⟩
          rw [show sp_orders m k = lN (ow_ k.toNatClampNeg (2 * m.toNatClampNeg) 0) by unfold sp_orders; rw [if_pos ⟨⟨Int32.not_lt.mp h1, Int32.not_lt.mp h2⟩, Int32.not_lt.mp h3, h4⟩]]
          obtain ⟨M, m1, m2, rfl⟩ := hm
          obtain ⟨K, k1, k2, rfl⟩ := hk
          rw [nI_clamp (by omega), nI_clamp (by omega)]
          refine pm_go 9999 (by exact okX10_orders) rfl ?_; (try dsimp only [pm_st1, pm_st2, pm_cat2, pm_la, Option.toList, List.cons_append, List.nil_append])
          refine pm_cs (by exact okX10_orders) (by exact okX5_number) rfl (by exact arX5_number) (t_number (d := 1) ⟨k1, k2⟩ m2 (by omega)) rfl (by dsimp only; omega) rfl (Nat.le_of_ble_eq_true rfl) ⟨Nat.zero_le _, Nat.zero_le _⟩ ?_
          rintro _ _ mu2 nu2 ⟨rfl, rfl, rfl⟩ -
          refine pm_go 9999 (by exact okX10_orders) rfl ?_; (try dsimp only [pm_st1, pm_st2, pm_cat2, pm_la, Option.toList, List.cons_append, List.nil_append])
          refine pm_rl (by exact okX10_orders) rfl rfl (Nat.le_refl _) (Nat.le_refl _) (⟨rfl, ⟨_, _, _, rfl⟩, fX.rf⟩)
        · rw [out (fun q => h4 q.2.2)]
          refine pm_go 9999 (by exact okX10_orders) rfl ?_; (try dsimp only [pm_st1, pm_st2, pm_cat2, pm_la, Option.toList, List.cons_append, List.nil_append])
          refine pm_rl (by exact okX10_orders) rfl rfl (Nat.le_refl _) (Nat.le_refl _) (⟨rfl, ⟨_, _, _, rfl⟩, fX.rf⟩)
end

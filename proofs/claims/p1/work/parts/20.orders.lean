/-! ===== the reference's orders ===== -/
/-- ways of t steps up and down from 0 to h within 0 to k -/
def ow_ (k : Nat) : Nat → Nat → Nat
  | 0, h => if h = 0 then 1 else 0
  | t + 1, h => (if h = 0 then 0 else ow_ k t (h - 1)) + (if h < k then ow_ k t (h + 1) else 0)
def sp_orders (m k : Int32) : Int64 := if (1 ≤ m ∧ m ≤ 30) ∧ 1 ≤ k ∧ k ≤ 30 then lN (ow_ k.toNatClampNeg (2 * m.toNatClampNeg) 0) else -2
theorem pm_uq_app {nu : pm_J} {k j a b : Nat} {v : Int64} : pm_uq nu k j v a b = if a = k then (if b = j then v else nu a b) else nu a b := by
  unfold pm_uq vp_updL
  by_cases h : a = k
  · subst h; simp
  · simp [h]
theorem pm_uq_at {nu : pm_J} {k j : Nat} {v : Int64} : pm_uq nu k j v k j = v := by rw [pm_uq_app, if_pos rfl, if_pos rfl]
theorem pm_uq_of {nu : pm_J} {k j b : Nat} {v : Int64} (h : b ≠ j) : pm_uq nu k j v k b = nu k b := by rw [pm_uq_app, if_pos rfl, if_neg h]
section
variable {cx : pm_CX} {d n0 : Nat} {i0 i1 : Option Nat} {ex : List pm_C} {mu : pm_I} {nu : pm_J}
set_option maxRecDepth 100000 in
set_option maxHeartbeats 1000000 in
theorem M_orders_a {Q : pm_Po} {x1 x2 : Int32} {k : Nat} (kk : ∀ nu' : pm_J, (∀ h, h < 32 → nu' 27 h = lN (ow_ k 0 h)) → pm_G cx (mX11_orders, d, 0, 0, n0, Q) 0 0 53 [some (.ref 19), some (.int x1), some (.int x2), none, none, none, none, none, none] [] (sh_ i0 i1 ex) mu nu') : ∀ (j h : Nat) (nu' : pm_J), h + j = 32 → (∀ i, i < h → nu' 27 i = lN (ow_ k 0 i)) → pm_G cx (mX11_orders, d, 0, 0, n0, Q) 0 0 26 [some (.ref 19), some (.int x1), some (.int x2), some (.int (nI h)), none, none, none, none, none] [] (sh_ i0 i1 ex) mu nu' := by
  intro j
  induction j with
  | zero =>
    intro h nu' hh hi
    have hh : h = 32 := by omega
    subst hh
    refine pm_go 9999 (by exact okX11_orders) rfl ?_; (try dsimp only [pm_st1, pm_st2, pm_cat2, pm_la, Option.toList, List.cons_append, List.nil_append])
    refine pm_ige (by exact okX11_orders) rfl (fun h1 => ?_) (fun h1 => ?_)
    · refine pm_G.fg [false, false, false, true, false, false, false, false, false] ?_; dsimp only [pm_fg]
      exact kk nu' hi
    · exact absurd (by decide) h1
  | succ j ih =>
    intro h nu' hh hi
    have st : ∀ v : Int64, v = lN (ow_ k 0 h) → pm_G cx (mX11_orders, d, 0, 0, n0, Q) 0 0 46 [some (.ref 19), some (.int x1), some (.int x2), some (.int (nI h)), none, none, none, none, none] [.long v, .int (nI h), .ref 27] (sh_ i0 i1 ex) mu nu' := by
      intro v hv
      refine pm_las (by exact okX11_orders) rfl rfl (vp_in_nI (by omega) (by omega)) ?_
      rw [nI_clamp (by omega)]
      refine pm_go 26 (by exact okX11_orders) rfl ?_; (try dsimp only [pm_st1, pm_st2, pm_cat2, pm_la, Option.toList, List.cons_append, List.nil_append])
      rw [nI_1]
      refine ih (h + 1) _ (by omega) (fun i hi2 => ?_)
      by_cases e : i = h
      · subst e; rw [pm_uq_at, hv]
      · rw [pm_uq_of e]; exact hi i (by omega)
    refine pm_go 9999 (by exact okX11_orders) rfl ?_; (try dsimp only [pm_st1, pm_st2, pm_cat2, pm_la, Option.toList, List.cons_append, List.nil_append])
    refine pm_ige (by exact okX11_orders) rfl (fun h1 => ?_) (fun h1 => ?_)
    · exact absurd h1 (nI_ge (a := h) (b := 32) (by omega) (by omega))
    · refine pm_go 9999 (by exact okX11_orders) rfl ?_; (try dsimp only [pm_st1, pm_st2, pm_cat2, pm_la, Option.toList, List.cons_append, List.nil_append])
      refine pm_zne (by exact okX11_orders) rfl (fun h2 => ?_) (fun h2 => ?_)
      · have h3 : ¬ h = 0 := fun q => h2 (by rw [q]; rfl)
        refine pm_go 46 (by exact okX11_orders) rfl ?_; (try dsimp only [pm_st1, pm_st2, pm_cat2, pm_la, Option.toList, List.cons_append, List.nil_append])
        exact st 0 (by simp only [ow_]; rw [if_neg h3]; rfl)
      · have h3 : h = 0 := (nI_eq (b := 0) (by omega) (by omega)).mp h2
        refine pm_go 46 (by exact okX11_orders) rfl ?_; (try dsimp only [pm_st1, pm_st2, pm_cat2, pm_la, Option.toList, List.cons_append, List.nil_append])
        exact st 1 (by simp only [ow_]; rw [if_pos h3]; rfl)
set_option maxRecDepth 100000 in
set_option maxHeartbeats 1000000 in
theorem M_orders_b {Q : pm_Po} {x1 x3 : Int32} {k t : Nat} (hk : k ≤ 30) (kk : ∀ nu' : pm_J, (∀ h, h ≤ k → nu' 27 h = lN (ow_ k (t + 1) h)) → pm_G cx (mX11_orders, d, 0, 0, n0, Q) 0 0 122 [some (.ref 19), some (.int x1), some (.int (nI k)), some (.int x3), none, none, none, none, none] [] (sh_ i0 i1 ex) mu nu') : ∀ (j h : Nat) (nu' : pm_J), h + j = k + 1 → (∀ i, i < h → nu' 27 i = lN (ow_ k (t + 1) i)) → (∀ i, h ≤ i → i ≤ k → nu' 27 i = lN (ow_ k t i)) → pm_G cx (mX11_orders, d, 0, 0, n0, Q) 0 0 68 [some (.ref 19), some (.int x1), some (.int (nI k)), some (.int x3), some (.long (lN (if h = 0 then 0 else ow_ k t (h - 1)))), none, some (.int (nI h)), none, none] [] (sh_ i0 i1 ex) mu nu' := by
  intro j
  induction j with
  | zero =>
    intro h nu' hh h1 h2
    have hh : h = k + 1 := by omega
    subst hh
    refine pm_go 9999 (by exact okX11_orders) rfl ?_; (try dsimp only [pm_st1, pm_st2, pm_cat2, pm_la, Option.toList, List.cons_append, List.nil_append])
    refine pm_igt (by exact okX11_orders) rfl (fun h3 => ?_) (fun h3 => ?_)
    · refine pm_G.fg [false, false, false, false, true, true, true, true, true] ?_; dsimp only [pm_fg]
      exact kk nu' (fun i hi => h1 i (by omega))
    · exact absurd (nI_lt (by omega) (by omega)) h3
  | succ j ih =>
    intro h nu' hh h1 h2
    have st : ∀ w : Int64, w = lN (if h < k then ow_ k t (h + 1) else 0) → pm_G cx (mX11_orders, d, 0, 0, n0, Q) 0 0 110 [some (.ref 19), some (.int x1), some (.int (nI k)), some (.int x3), some (.long (lN (if h = 0 then 0 else ow_ k t (h - 1)))), none, some (.int (nI h)), some (.long (lN (ow_ k t h))), none] [.long w, .long (lN (if h = 0 then 0 else ow_ k t (h - 1))), .int (nI h), .ref 27] (sh_ i0 i1 ex) mu nu' := by
      intro w hw
      subst hw
      refine pm_go 9999 (by exact okX11_orders) rfl ?_; (try dsimp only [pm_st1, pm_st2, pm_cat2, pm_la, Option.toList, List.cons_append, List.nil_append])
      rw [lN_add]
      refine pm_las (by exact okX11_orders) rfl rfl (vp_in_nI (by omega) (by omega)) ?_
      rw [nI_clamp (by omega)]
      refine pm_go 68 (by exact okX11_orders) rfl ?_; (try dsimp only [pm_st1, pm_st2, pm_cat2, pm_la, Option.toList, List.cons_append, List.nil_append])
      rw [nI_1]
      refine pm_G.fg [false, false, false, false, false, false, false, true, true] ?_; dsimp only [pm_fg]
      have := ih (h + 1) (pm_uq nu' 27 h (lN ((if h = 0 then 0 else ow_ k t (h - 1)) + (if h < k then ow_ k t (h + 1) else 0)))) (by omega) (fun i hi => by
        by_cases e : i = h
        · subst e; rw [pm_uq_at]; rfl
        · rw [pm_uq_of e]; exact h1 i (by omega)) (fun i hi hi2 => by rw [pm_uq_of (by omega)]; exact h2 i (by omega) hi2)
      rw [if_neg (show ¬ h + 1 = 0 by omega), Nat.add_sub_cancel] at this
      exact this
    refine pm_go 9999 (by exact okX11_orders) rfl ?_; (try dsimp only [pm_st1, pm_st2, pm_cat2, pm_la, Option.toList, List.cons_append, List.nil_append])
    refine pm_igt (by exact okX11_orders) rfl (fun h3 => ?_) (fun h3 => ?_)
    · exact absurd h3 (nI_nlt (by omega) (by omega))
    · refine pm_go 9999 (by exact okX11_orders) rfl ?_; (try dsimp only [pm_st1, pm_st2, pm_cat2, pm_la, Option.toList, List.cons_append, List.nil_append])
      refine pm_lal (by exact okX11_orders) rfl rfl (vp_in_nI (by omega) (by omega)) ?_
      rw [nI_clamp (by omega), h2 h (Nat.le_refl _) (by omega)]
      refine pm_go 9999 (by exact okX11_orders) rfl ?_; (try dsimp only [pm_st1, pm_st2, pm_cat2, pm_la, Option.toList, List.cons_append, List.nil_append])
      refine pm_ige (by exact okX11_orders) rfl (fun h4 => ?_) (fun h4 => ?_)
      · have h5 : ¬ h < k := by
          have := (nI_leI (by omega) (by omega)).mp h4
          omega
        refine pm_go 110 (by exact okX11_orders) rfl ?_; (try dsimp only [pm_st1, pm_st2, pm_cat2, pm_la, Option.toList, List.cons_append, List.nil_append])
        exact st 0 (by rw [if_neg h5]; rfl)
      · have h5 : h < k := by
          rcases Nat.lt_or_ge h k with q | q
          · exact q
          · exact absurd (nI_le q (by omega)) h4
        refine pm_go 9999 (by exact okX11_orders) rfl ?_; (try dsimp only [pm_st1, pm_st2, pm_cat2, pm_la, Option.toList, List.cons_append, List.nil_append])
        rw [nI_1]
        refine pm_lal (by exact okX11_orders) rfl rfl (vp_in_nI (by omega) (by omega)) ?_
        rw [nI_clamp (by omega), h2 (h + 1) (by omega) (by omega)]
        refine pm_go 110 (by exact okX11_orders) rfl ?_; (try dsimp only [pm_st1, pm_st2, pm_cat2, pm_la, Option.toList, List.cons_append, List.nil_append])
        exact st _ (by rw [if_pos h5])
set_option maxRecDepth 100000 in
set_option maxHeartbeats 1000000 in
theorem M_orders_c {Q : pm_Po} {m k : Nat} (hm : m ≤ 30) (hk : k ≤ 30) (kk : ∀ nu' : pm_J, Q (some (.long (lN (ow_ k (2 * m) 0)))) (sh_ i0 i1 ex) mu nu') : ∀ (j t : Nat) (nu' : pm_J), t + j = 2 * m → (∀ h, h ≤ k → nu' 27 h = lN (ow_ k t h)) → pm_G cx (mX11_orders, d, 0, 0, n0, Q) 0 0 55 [some (.ref 19), some (.int (nI m)), some (.int (nI k)), some (.int (nI t)), none, none, none, none, none] [] (sh_ i0 i1 ex) mu nu' := by
  intro j
  have e2 : (2 : Int32) * nI m = nI (2 * m) := pk_mul 2 m
  induction j with
  | zero =>
    intro t nu' ht h1
    have ht : t = 2 * m := by omega
    subst ht
    refine pm_go 9999 (by exact okX11_orders) rfl ?_; (try dsimp only [pm_st1, pm_st2, pm_cat2, pm_la, Option.toList, List.cons_append, List.nil_append])
    rw [e2]
    refine pm_ige (by exact okX11_orders) rfl (fun h2 => ?_) (fun h2 => ?_)
    · refine pm_go 9999 (by exact okX11_orders) rfl ?_; (try dsimp only [pm_st1, pm_st2, pm_cat2, pm_la, Option.toList, List.cons_append, List.nil_append])
      refine pm_lal (by exact okX11_orders) rfl rfl (vp_in_nI (n := 0) (by omega) (by omega)) ?_
      refine pm_go 9999 (by exact okX11_orders) rfl ?_; (try dsimp only [pm_st1, pm_st2, pm_cat2, pm_la, Option.toList, List.cons_append, List.nil_append])
      rw [show (0 : Int32).toNatClampNeg = 0 from rfl, h1 0 (by omega)]
      refine pm_rl (by exact okX11_orders) rfl rfl (Nat.le_refl _) (Nat.le_refl _) (kk nu')
    · exact absurd (nI_le (by omega) (by omega)) h2
  | succ j ih =>
    intro t nu' ht h1
    refine pm_go 9999 (by exact okX11_orders) rfl ?_; (try dsimp only [pm_st1, pm_st2, pm_cat2, pm_la, Option.toList, List.cons_append, List.nil_append])
    rw [e2]
    refine pm_ige (by exact okX11_orders) rfl (fun h2 => ?_) (fun h2 => ?_)
    · exact absurd h2 (nI_ge (by omega) (by omega))
    · refine pm_go 68 (by exact okX11_orders) rfl ?_; (try dsimp only [pm_st1, pm_st2, pm_cat2, pm_la, Option.toList, List.cons_append, List.nil_append])
      refine pm_G.cast (L' := [some (.ref 19), some (.int (nI m)), some (.int (nI k)), some (.int (nI t)), some (.long (lN (if 0 = 0 then 0 else ow_ k t (0 - 1)))), none, some (.int (nI 0)), none, none]) (S' := []) (mu' := mu) (nu' := nu') ?_ rfl rfl rfl rfl
      refine M_orders_b hk (fun nu2 h3 => ?_) (k + 1) 0 nu' (by omega) (fun i hi => absurd hi (by omega)) (fun i hi hi2 => h1 i hi2)
      refine pm_go 55 (by exact okX11_orders) rfl ?_; (try dsimp only [pm_st1, pm_st2, pm_cat2, pm_la, Option.toList, List.cons_append, List.nil_append])
      rw [nI_1]
      exact ih (t + 1) nu2 (by omega) h3
set_option maxRecDepth 100000 in
set_option maxHeartbeats 1000000 in
theorem M_orders {z : mS} (m k : Int32) (h : MA z mu) (hd : 1 ≤ d) : pm_T cx mX11_orders d 0 0 [.ref 19, .int m, .int k] (sh_ i0 i1 ex) mu nu (mQ (.long (sp_orders m k)) z i0 i1 ex mu) := by
  unfold sp_orders
  have bad : ¬ ((1 ≤ m ∧ m ≤ 30) ∧ 1 ≤ k ∧ k ≤ 30) → pm_G cx (mX11_orders, d, 0, 0, (sh_ i0 i1 ex).length, mQ (.long (if (1 ≤ m ∧ m ≤ 30) ∧ 1 ≤ k ∧ k ≤ 30 then lN (ow_ k.toNatClampNeg (2 * m.toNatClampNeg) 0) else -2)) z i0 i1 ex mu) 0 0 20 [some (.ref 19), some (.int m), some (.int k), none, none, none, none, none, none] [] (sh_ i0 i1 ex) mu nu := by
    intro hn
    rw [if_neg hn]
    refine pm_go 9999 (by exact okX11_orders) rfl ?_; (try dsimp only [pm_st1, pm_st2, pm_cat2, pm_la, Option.toList, List.cons_append, List.nil_append])
    refine pm_rl (by exact okX11_orders) rfl rfl (Nat.le_refl _) (Nat.le_refl _) (⟨rfl, rfl, h, fM.rf⟩)
  refine pm_enterN 6 (by exact okX11_orders) rfl ?_; dsimp only [pm_la, pm_cat2, List.replicate, List.cons_append, List.nil_append, List.append_nil]
  refine pm_go 9999 (by exact okX11_orders) rfl ?_; (try dsimp only [pm_st1, pm_st2, pm_cat2, pm_la, Option.toList, List.cons_append, List.nil_append])
  refine pm_cs (by exact okX11_orders) (by exact okX11_in) rfl (by exact arX11_in) (t_in (d := 0) m 1 30) rfl (by dsimp only; omega) rfl (Nat.le_of_ble_eq_true rfl) ⟨Nat.zero_le _, Nat.zero_le _⟩ ?_
  rintro _ _ _ _ ⟨rfl, rfl, rfl, rfl⟩ -
  refine pm_go 9999 (by exact okX11_orders) rfl ?_; (try dsimp only [pm_st1, pm_st2, pm_cat2, pm_la, Option.toList, List.cons_append, List.nil_append])
  refine pm_zeq (by exact okX11_orders) rfl (fun h1 => ?_) (fun h1 => ?_)
  · have h1 := bI_z.mp h1
    exact bad (fun q => h1 q.1)
  · have h1 := bI_n.mp h1
    refine pm_go 9999 (by exact okX11_orders) rfl ?_; (try dsimp only [pm_st1, pm_st2, pm_cat2, pm_la, Option.toList, List.cons_append, List.nil_append])
    refine pm_cs (by exact okX11_orders) (by exact okX11_in) rfl (by exact arX11_in) (t_in (d := 0) k 1 30) rfl (by dsimp only; omega) rfl (Nat.le_of_ble_eq_true rfl) ⟨Nat.zero_le _, Nat.zero_le _⟩ ?_
    rintro _ _ _ _ ⟨rfl, rfl, rfl, rfl⟩ -
    refine pm_go 20 (by exact okX11_orders) rfl ?_; (try dsimp only [pm_st1, pm_st2, pm_cat2, pm_la, Option.toList, List.cons_append, List.nil_append])
    refine pm_zne (by exact okX11_orders) rfl (fun h2 => ?_) (fun h2 => ?_)
    · have h2 := bI_n.mp h2
      rw [if_pos ⟨h1, h2⟩]
      obtain ⟨m', -, hm, rfl⟩ := rng_of (a := 1) (b := 30) (by omega) (by omega) h1
      obtain ⟨k', -, hk, rfl⟩ := rng_of (a := 1) (b := 30) (by omega) (by omega) h2
      rw [nI_clamp (by omega), nI_clamp (by omega)]
      refine pm_go 26 (by exact okX11_orders) rfl ?_; (try dsimp only [pm_st1, pm_st2, pm_cat2, pm_la, Option.toList, List.cons_append, List.nil_append])
      refine pm_G.cast (L' := [some (.ref 19), some (.int (nI m')), some (.int (nI k')), some (.int (nI 0)), none, none, none, none, none]) (S' := []) (mu' := mu) (nu' := nu) ?_ rfl rfl rfl rfl
      refine M_orders_a (k := k') (fun nu1 g1 => ?_) 32 0 nu rfl (fun i hi => absurd hi (by omega))
      refine pm_go 55 (by exact okX11_orders) rfl ?_; (try dsimp only [pm_st1, pm_st2, pm_cat2, pm_la, Option.toList, List.cons_append, List.nil_append])
      exact M_orders_c hm hk (fun nu' => ⟨rfl, rfl, h, fM.rf⟩) (2 * m') 0 nu1 (by omega) (fun i hi => g1 i (by omega))
    · have h2 := bI_z.mp h2
      exact bad (fun q => h2 q.2)
end

/-! ===== the reference's turns ===== -/
/-- the better of two for whose turn it is -/
def tn_k (d : Nat) (acc : Option Nat) (v : Nat) : Nat := match acc with
  | none => v
  | some a => if d % 2 = 0 then (if v < a then v else a) else (if a < v then v else a)
theorem tn_k_some {d a v : Nat} : tn_k d (some a) v = if d % 2 = 0 then (if v < a then v else a) else (if a < v then v else a) := rfl
/-- a MORNING -/
def gd_mo (law : Nat) (r : List Nat) (s : Nat) : List Nat × Nat := match gd_nx law r with
  | none => (r, s)
  | some b => (r.filter (fun x => x != b), s ||| 2 ^ b)
/-- some BED can be watered -/
def gd_cw (gate : Nat) (pa : Nat → Option Nat) (r : List Nat) (s : Nat) : Nat → Bool
  | 0 => false
  | n + 1 => gd_cw gate pa r s n || decide (gd_wy gate pa r s n = 0)
section
variable {cx : pm_CX} {d0 n0 : Nat} {i0 i1 : Option Nat} {ex : List pm_C} {mu : pm_I} {nu : pm_J}
set_option maxRecDepth 100000 in
set_option maxHeartbeats 1000000 in
theorem t_take {d v : Nat} {acc : Option Nat} (hd : d < 16) (hv : v < 100) (h37 : mu 37 d = nO acc) (ha : ∀ a, acc = some a → a < 100) : pm_T cx mX11_take d0 0 0 [.ref 19, .int (nI d), .int (nI v)] (sh_ i0 i1 ex) mu nu (fun r sg' mu' nu' => r = none ∧ sg' = sh_ i0 i1 ex ∧ mu' = pm_up mu 37 d (nI (tn_k d acc v)) ∧ nu' = nu) := by
  have fin : ∀ w, w = tn_k d acc v → pm_G cx (mX11_take, d0, 0, 0, (sh_ i0 i1 ex).length, fun r sg' mu' nu' => r = none ∧ sg' = sh_ i0 i1 ex ∧ mu' = pm_up mu 37 d (nI (tn_k d acc v)) ∧ nu' = nu) 0 0 63 [some (.ref 19), some (.int (nI d)), some (.int (nI v)), none] [.int (nI w), .int (nI d), .ref 37] (sh_ i0 i1 ex) mu nu := by
    intro w hw
    refine pm_ias (by exact okX11_take) rfl rfl (vp_in_nI hd (by omega)) ?_
    rw [nI_clamp (by omega)]
    refine pm_go 9999 (by exact okX11_take) rfl ?_; (try dsimp only [pm_st1, pm_st2, pm_cat2, pm_la, Option.toList, List.cons_append, List.nil_append])
    refine pm_rv (by exact okX11_take) rfl rfl (Nat.le_refl _) (Nat.le_refl _) (⟨rfl, rfl, by rw [hw], rfl⟩)
  have yes : v = tn_k d acc v → pm_G cx (mX11_take, d0, 0, 0, (sh_ i0 i1 ex).length, fun r sg' mu' nu' => r = none ∧ sg' = sh_ i0 i1 ex ∧ mu' = pm_up mu 37 d (nI (tn_k d acc v)) ∧ nu' = nu) 0 0 38 [some (.ref 19), some (.int (nI d)), some (.int (nI v)), none] [] (sh_ i0 i1 ex) mu nu := by
    intro hw
    refine pm_go 9999 (by exact okX11_take) rfl ?_; (try dsimp only [pm_st1, pm_st2, pm_cat2, pm_la, Option.toList, List.cons_append, List.nil_append])
    refine pm_zeq (by exact okX11_take) rfl (fun h1 => ?_) (fun h1 => ?_)
    · exact absurd h1 (by decide)
    · refine pm_go 63 (by exact okX11_take) rfl ?_; (try dsimp only [pm_st1, pm_st2, pm_cat2, pm_la, Option.toList, List.cons_append, List.nil_append])
      refine pm_G.fg [false, false, false, true] ?_; dsimp only [pm_fg]
      exact fin v hw
  have no : ∀ a, acc = some a → a = tn_k d acc v → pm_G cx (mX11_take, d0, 0, 0, (sh_ i0 i1 ex).length, fun r sg' mu' nu' => r = none ∧ sg' = sh_ i0 i1 ex ∧ mu' = pm_up mu 37 d (nI (tn_k d acc v)) ∧ nu' = nu) 0 0 42 [some (.ref 19), some (.int (nI d)), some (.int (nI v)), none] [] (sh_ i0 i1 ex) mu nu := by
    intro a hacc hw
    refine pm_go 9999 (by exact okX11_take) rfl ?_; (try dsimp only [pm_st1, pm_st2, pm_cat2, pm_la, Option.toList, List.cons_append, List.nil_append])
    refine pm_zeq (by exact okX11_take) rfl (fun h1 => ?_) (fun h1 => ?_)
    · refine pm_go 9999 (by exact okX11_take) rfl ?_; (try dsimp only [pm_st1, pm_st2, pm_cat2, pm_la, Option.toList, List.cons_append, List.nil_append])
      refine pm_ial (by exact okX11_take) rfl rfl (vp_in_nI hd (by omega)) ?_
      rw [nI_clamp (by omega), h37, hacc, nO_some, ← hacc]
      refine pm_G.fg [false, false, false, true] ?_; dsimp only [pm_fg]
      exact fin a hw
    · exact absurd rfl h1
  refine pm_enterN 1 (by exact okX11_take) rfl ?_; dsimp only [pm_la, pm_cat2, List.replicate, List.cons_append, List.nil_append, List.append_nil]
  refine pm_go 9999 (by exact okX11_take) rfl ?_; (try dsimp only [pm_st1, pm_st2, pm_cat2, pm_la, Option.toList, List.cons_append, List.nil_append])
  refine pm_ial (by exact okX11_take) rfl rfl (vp_in_nI hd (by omega)) ?_
  rw [nI_clamp (by omega), h37]
  cases hacc : acc with
  | none =>
    rw [hacc] at yes
    refine pm_zlt (by exact okX11_take) rfl (fun h1 => ?_) (fun h1 => ?_)
    · exact yes rfl
    · exact absurd (by decide) h1
  | some a =>
    have ha2 := ha a hacc
    rw [hacc] at yes no h37
    rw [nO_some]
    refine pm_zlt (by exact okX11_take) rfl (fun h1 => ?_) (fun h1 => ?_)
    · exact absurd h1 (nI_pos (by omega))
    · refine pm_go 9999 (by exact okX11_take) rfl ?_; (try dsimp only [pm_st1, pm_st2, pm_cat2, pm_la, Option.toList, List.cons_append, List.nil_append])
      refine pm_rem (by exact okX11_take) rfl (by decide) ?_
      rw [show (2 : Int32) = nI 2 from rfl, pk_rem (by omega) (by omega) (by omega)]
      refine pm_zne (by exact okX11_take) rfl (fun h2 => ?_) (fun h2 => ?_)
      · have h3 : ¬ d % 2 = 0 := fun q => h2 (by rw [q]; rfl)
        refine pm_go 9999 (by exact okX11_take) rfl ?_; (try dsimp only [pm_st1, pm_st2, pm_cat2, pm_la, Option.toList, List.cons_append, List.nil_append])
        refine pm_ial (by exact okX11_take) rfl rfl (vp_in_nI hd (by omega)) ?_
        rw [nI_clamp (by omega), h37, nO_some]
        refine pm_ile (by exact okX11_take) rfl (fun h4 => ?_) (fun h4 => ?_)
        · have h5 := (nI_leI (by omega) (by omega)).mp h4
          exact no a rfl (by rw [tn_k_some, if_neg h3, if_neg (by omega)])
        · have h5 : a < v := by
            rcases Nat.lt_or_ge a v with q | q
            · exact q
            · exact absurd (nI_le q (by omega)) h4
          exact yes (by rw [tn_k_some, if_neg h3, if_pos h5])
      · have h3 : d % 2 = 0 := (nI_eq (b := 0) (by omega) (by omega)).mp h2
        refine pm_go 9999 (by exact okX11_take) rfl ?_; (try dsimp only [pm_st1, pm_st2, pm_cat2, pm_la, Option.toList, List.cons_append, List.nil_append])
        refine pm_ial (by exact okX11_take) rfl rfl (vp_in_nI hd (by omega)) ?_
        rw [nI_clamp (by omega), h37, nO_some]
        refine pm_ige (by exact okX11_take) rfl (fun h4 => ?_) (fun h4 => ?_)
        · have h5 := (nI_leI (by omega) (by omega)).mp h4
          exact no a rfl (by rw [tn_k_some, if_pos h3, if_neg (by omega)])
        · have h5 : v < a := by
            rcases Nat.lt_or_ge v a with q | q
            · exact q
            · exact absurd (nI_le q (by omega)) h4
          refine pm_go 38 (by exact okX11_take) rfl ?_; (try dsimp only [pm_st1, pm_st2, pm_cat2, pm_la, Option.toList, List.cons_append, List.nil_append])
          exact yes (by rw [tn_k_some, if_pos h3, if_pos h5])
set_option maxRecDepth 100000 in
set_option maxHeartbeats 1000000 in
theorem t_canWater_l {Q : pm_Po} {d B gate s : Nat} {pa : Nat → Option Nat} {r : List Nat} (hd : d < 16) (hB : mu 19 0 = nI B) (hB6 : B ≤ 6) (hG : mu 19 4 = nI gate) (hg : gate ≤ 6) (hPa : ∀ k, k < 6 → mu 21 k = nO (pa k)) (hpa : ∀ k o, k < 6 → pa k = some o → o < 6) (h34 : mu 34 d = nI (md_r7 r)) (h35 : mu 35 d = nI s) (hs : s < 2 ^ 31) (hok : md_ok r) (hln : r.length ≤ 6) (hd0 : 2 ≤ d0) : ∀ (j k : Nat), k + j = B → Q (some (.int (bI (gd_cw gate pa r s B = true)))) (sh_ i0 i1 ex) mu nu → pm_G cx (mX11_canWater, d0, 0, 0, n0, Q) 0 0 4 [some (.ref 19), some (.int (nI d)), some (.int (bI (gd_cw gate pa r s k = true))), some (.int (nI k))] [] (sh_ i0 i1 ex) mu nu := by
  intro j
  induction j with
  | zero =>
    intro k hk hq
    have hk : k = B := by omega
    subst hk
    refine pm_go 9999 (by exact okX11_canWater) rfl ?_; (try dsimp only [pm_st1, pm_st2, pm_cat2, pm_la, Option.toList, List.cons_append, List.nil_append])
    rw [hB]
    refine pm_ige (by exact okX11_canWater) rfl (fun h1 => ?_) (fun h1 => ?_)
    · refine pm_go 9999 (by exact okX11_canWater) rfl ?_; (try dsimp only [pm_st1, pm_st2, pm_cat2, pm_la, Option.toList, List.cons_append, List.nil_append])
      exact pm_ri (by exact okX11_canWater) rfl rfl bI_w (Nat.le_refl _) (Nat.le_refl _) hq
    · exact absurd (nI_le (Nat.le_refl _) (by omega)) h1
  | succ j ih =>
    intro k hk hq
    have nx := ih (k + 1) (by omega) hq
    refine pm_go 9999 (by exact okX11_canWater) rfl ?_; (try dsimp only [pm_st1, pm_st2, pm_cat2, pm_la, Option.toList, List.cons_append, List.nil_append])
    rw [hB]
    refine pm_ige (by exact okX11_canWater) rfl (fun h1 => ?_) (fun h1 => ?_)
    · exact absurd h1 (nI_ge (by omega) (by omega))
    · refine pm_go 9999 (by exact okX11_canWater) rfl ?_; (try dsimp only [pm_st1, pm_st2, pm_cat2, pm_la, Option.toList, List.cons_append, List.nil_append])
      refine pm_zne (by exact okX11_canWater) rfl (fun h2 => ?_) (fun h2 => ?_)
      · have h3 := bI_n.mp h2
        rw [bI_1 (show gd_cw gate pa r s (k + 1) = true by simp only [gd_cw]; rw [h3]; rfl)] at nx
        refine pm_go 4 (by exact okX11_canWater) rfl ?_; (try dsimp only [pm_st1, pm_st2, pm_cat2, pm_la, Option.toList, List.cons_append, List.nil_append])
        rw [nI_1]
        exact nx
      · have h3 := bI_z.mp h2
        have h3 : gd_cw gate pa r s k = false := by simpa using h3
        refine pm_go 9999 (by exact okX11_canWater) rfl ?_; (try dsimp only [pm_st1, pm_st2, pm_cat2, pm_la, Option.toList, List.cons_append, List.nil_append])
        refine pm_ial (by exact okX11_canWater) rfl rfl (vp_in_nI hd (by omega)) ?_
        rw [nI_clamp (by omega), h34]
        refine pm_go 9999 (by exact okX11_canWater) rfl ?_; (try dsimp only [pm_st1, pm_st2, pm_cat2, pm_la, Option.toList, List.cons_append, List.nil_append])
        refine pm_ial (by exact okX11_canWater) rfl rfl (vp_in_nI hd (by omega)) ?_
        rw [nI_clamp (by omega), h35]
        refine pm_go 9999 (by exact okX11_canWater) rfl ?_; (try dsimp only [pm_st1, pm_st2, pm_cat2, pm_la, Option.toList, List.cons_append, List.nil_append])
        refine pm_cv (by exact okX11_canWater) (by exact okX11_whyNot) rfl (by exact arX11_whyNot) (t_whyNot (d := 1) (gate := gate) (pa := pa) (b := k) hG hg hPa hpa hs (by omega) hok hln (by omega)) rfl rfl rfl (by dsimp only; omega) rfl (Nat.le_of_ble_eq_true rfl) ⟨Nat.zero_le _, Nat.zero_le _⟩ ?_
        rintro _ _ _ _ ⟨rfl, rfl, rfl, rfl⟩ -
        have hwl := gd_wy_le (gate := gate) (pa := pa) (r := r) (s := s) (b := k)
        refine pm_go 9999 (by exact okX11_canWater) rfl ?_; (try dsimp only [pm_st1, pm_st2, pm_cat2, pm_la, Option.toList, List.cons_append, List.nil_append])
        refine pm_zne (by exact okX11_canWater) rfl (fun h4 => ?_) (fun h4 => ?_)
        · have h5 : ¬ gd_wy gate pa r s k = 0 := fun q => h4 (by rw [q]; rfl)
          rw [bI_0 (show ¬ gd_cw gate pa r s (k + 1) = true by simp only [gd_cw]; rw [h3, decide_eq_false h5]; decide)] at nx
          refine pm_go 4 (by exact okX11_canWater) rfl ?_; (try dsimp only [pm_st1, pm_st2, pm_cat2, pm_la, Option.toList, List.cons_append, List.nil_append])
          rw [nI_1]
          exact nx
        · have h5 : gd_wy gate pa r s k = 0 := (nI_eq (b := 0) (by omega) (by omega)).mp h4
          rw [bI_1 (show gd_cw gate pa r s (k + 1) = true by simp only [gd_cw]; rw [decide_eq_true h5, Bool.or_true])] at nx
          refine pm_go 4 (by exact okX11_canWater) rfl ?_; (try dsimp only [pm_st1, pm_st2, pm_cat2, pm_la, Option.toList, List.cons_append, List.nil_append])
          rw [nI_1]
          exact nx
set_option maxRecDepth 100000 in
set_option maxHeartbeats 1000000 in
theorem t_canWater {d B gate s : Nat} {pa : Nat → Option Nat} {r : List Nat} (hd : d < 16) (hB : mu 19 0 = nI B) (hB6 : B ≤ 6) (hG : mu 19 4 = nI gate) (hg : gate ≤ 6) (hPa : ∀ k, k < 6 → mu 21 k = nO (pa k)) (hpa : ∀ k o, k < 6 → pa k = some o → o < 6) (h34 : mu 34 d = nI (md_r7 r)) (h35 : mu 35 d = nI s) (hs : s < 2 ^ 31) (hok : md_ok r) (hln : r.length ≤ 6) (hd0 : 2 ≤ d0) : pm_T cx mX11_canWater d0 0 0 [.ref 19, .int (nI d)] (sh_ i0 i1 ex) mu nu (pm_ret (some (.int (bI (gd_cw gate pa r s B = true)))) (sh_ i0 i1 ex) mu nu) := by
  refine pm_enterN 2 (by exact okX11_canWater) rfl ?_; dsimp only [pm_la, pm_cat2, List.replicate, List.cons_append, List.nil_append, List.append_nil]
  refine pm_go 4 (by exact okX11_canWater) rfl ?_; (try dsimp only [pm_st1, pm_st2, pm_cat2, pm_la, Option.toList, List.cons_append, List.nil_append])
  refine pm_G.cast (L' := [some (.ref 19), some (.int (nI d)), some (.int (bI (gd_cw gate pa r s 0 = true))), some (.int (nI 0))]) (S' := []) (mu' := mu) (nu' := nu) ?_ rfl rfl rfl rfl
  exact t_canWater_l hd hB hB6 hG hg hPa hpa h34 h35 hs hok hln hd0 B 0 (by omega) ⟨rfl, rfl, rfl, rfl⟩
/-- the next place of the reference's stack, anew -/
def tn_w (mu : pm_I) (d : Nat) (x : List Nat × Nat) : pm_I := pm_up (pm_up (pm_up (pm_up mu 34 (d + 1) (nI (md_r7 x.1))) 35 (d + 1) (nI x.2)) 36 (d + 1) 0) 37 (d + 1) (-6)
/-- what is watered; none: nothing -/
def tn_o (r : List Nat) (o : Option Nat) : List Nat := match o with
  | none => r
  | some b => b :: r.filter (fun x => x != b)
set_option maxRecDepth 100000 in
set_option maxHeartbeats 1000000 in
theorem t_wake {d s law : Nat} {o : Option Nat} {r : List Nat} {b : Int32} (hd : d + 1 < 16) (hL : mu 19 3 = nI law) (hlaw : law ≤ 2) (h34 : mu 34 d = nI (md_r7 r)) (h35 : mu 35 d = nI s) (hs : s < 64) (hok : md_ok r) (hln : r.length ≤ 6) (hb : b = (match o with
    | none => -1
    | some x => nI x)) (ho : ∀ x, o = some x → x < 6) (hln2 : (tn_o r o).length ≤ 6) (hd0 : 2 ≤ d0) : pm_T cx mX11_wake d0 0 0 [.ref 19, .int (nI d), .int b] (sh_ i0 i1 ex) mu nu (fun v sg' mu' nu' => v = none ∧ sg' = sh_ i0 i1 ex ∧ mu' = tn_w mu d (gd_mo law (tn_o r o) s) ∧ nu' = nu) := by
  have hok2 : md_ok (tn_o r o) := by
    cases o with
    | none => exact hok
    | some x =>
      intro y hy
      rcases List.mem_cons.mp hy with rfl | hy
      · exact ho _ rfl
      · exact hok y (List.mem_filter.mp hy).1
  have main : pm_G cx (mX11_wake, d0, 0, 0, (sh_ i0 i1 ex).length, fun v sg' mu' nu' => v = none ∧ sg' = sh_ i0 i1 ex ∧ mu' = tn_w mu d (gd_mo law (tn_o r o) s) ∧ nu' = nu) 0 0 23 [some (.ref 19), some (.int (nI d)), some (.int b), none, none, none] [.int (nI (md_r7 (tn_o r o)))] (sh_ i0 i1 ex) mu nu := by
    generalize tn_o r o = r1 at hok2 hln2
    refine pm_go 9999 (by exact okX11_wake) rfl ?_; (try dsimp only [pm_st1, pm_st2, pm_cat2, pm_la, Option.toList, List.cons_append, List.nil_append])
    refine pm_ial (by exact okX11_wake) rfl rfl (vp_in_nI (by omega) (by omega)) ?_
    rw [nI_clamp (by omega), h35]
    refine pm_go 9999 (by exact okX11_wake) rfl ?_; (try dsimp only [pm_st1, pm_st2, pm_cat2, pm_la, Option.toList, List.cons_append, List.nil_append])
    refine pm_cv (by exact okX11_wake) (by exact okX11_nextOf) rfl (by exact arX11_nextOf) (t_nextOf (d := 1) (r := r1) hL hlaw hok2 hln2 (by omega)) rfl rfl rfl (by dsimp only; omega) rfl (Nat.le_of_ble_eq_true rfl) ⟨Nat.zero_le _, Nat.zero_le _⟩ ?_
    rintro _ _ _ _ ⟨rfl, rfl, rfl, rfl⟩ -
    cases hnx : gd_nx law r1 with
    | none =>
      have e : gd_mo law r1 s = (r1, s) := by unfold gd_mo; rw [hnx]
      rw [e, nO_none]
      refine pm_go 9999 (by exact okX11_wake) rfl ?_; (try dsimp only [pm_st1, pm_st2, pm_cat2, pm_la, Option.toList, List.cons_append, List.nil_append])
      refine pm_zge (by exact okX11_wake) rfl (fun h1 => ?_) (fun h1 => ?_)
      · exact absurd h1 (by decide)
      · refine pm_go 9999 (by exact okX11_wake) rfl ?_; (try dsimp only [pm_st1, pm_st2, pm_cat2, pm_la, Option.toList, List.cons_append, List.nil_append])
        rw [nI_1]
        refine pm_ias (by exact okX11_wake) rfl rfl (vp_in_nI hd (by omega)) ?_
        rw [nI_clamp (by omega)]
        refine pm_go 9999 (by exact okX11_wake) rfl ?_; (try dsimp only [pm_st1, pm_st2, pm_cat2, pm_la, Option.toList, List.cons_append, List.nil_append])
        refine pm_zge (by exact okX11_wake) rfl (fun h2 => ?_) (fun h2 => ?_)
        · exact absurd h2 (by decide)
        · refine pm_go 9999 (by exact okX11_wake) rfl ?_; (try dsimp only [pm_st1, pm_st2, pm_cat2, pm_la, Option.toList, List.cons_append, List.nil_append])
          rw [nI_1]
          refine pm_ias (by exact okX11_wake) rfl rfl (vp_in_nI hd (by omega)) ?_
          rw [nI_clamp (by omega)]
          refine pm_go 9999 (by exact okX11_wake) rfl ?_; (try dsimp only [pm_st1, pm_st2, pm_cat2, pm_la, Option.toList, List.cons_append, List.nil_append])
          rw [nI_1]
          refine pm_ias (by exact okX11_wake) rfl rfl (vp_in_nI hd (by omega)) ?_
          rw [nI_clamp (by omega)]
          refine pm_go 9999 (by exact okX11_wake) rfl ?_; (try dsimp only [pm_st1, pm_st2, pm_cat2, pm_la, Option.toList, List.cons_append, List.nil_append])
          rw [nI_1]
          refine pm_ias (by exact okX11_wake) rfl rfl (vp_in_nI hd (by omega)) ?_
          rw [nI_clamp (by omega)]
          refine pm_go 9999 (by exact okX11_wake) rfl ?_; (try dsimp only [pm_st1, pm_st2, pm_cat2, pm_la, Option.toList, List.cons_append, List.nil_append])
          refine pm_rv (by exact okX11_wake) rfl rfl (Nat.le_refl _) (Nat.le_refl _) (⟨rfl, rfl, rfl, rfl⟩)
    | some c =>
      have hc6 := hok2 c (gd_nx_mem hnx)
      have e : gd_mo law r1 s = (r1.filter (fun x => x != c), s ||| 2 ^ c) := by unfold gd_mo; rw [hnx]
      rw [e, nO_some]
      refine pm_go 9999 (by exact okX11_wake) rfl ?_; (try dsimp only [pm_st1, pm_st2, pm_cat2, pm_la, Option.toList, List.cons_append, List.nil_append])
      refine pm_zge (by exact okX11_wake) rfl (fun h1 => ?_) (fun h1 => ?_)
      · refine pm_go 9999 (by exact okX11_wake) rfl ?_; (try dsimp only [pm_st1, pm_st2, pm_cat2, pm_la, Option.toList, List.cons_append, List.nil_append])
        refine pm_cs (by exact okX11_wake) (by exact okX11_without) rfl (by exact arX11_without) (t_without (d := 0) hok2 hln2 hc6) rfl (by dsimp only; omega) rfl (Nat.le_of_ble_eq_true rfl) ⟨Nat.zero_le _, Nat.zero_le _⟩ ?_
        rintro _ _ _ _ ⟨rfl, rfl, rfl, rfl⟩ -
        refine pm_go 9999 (by exact okX11_wake) rfl ?_; (try dsimp only [pm_st1, pm_st2, pm_cat2, pm_la, Option.toList, List.cons_append, List.nil_append])
        rw [nI_1]
        refine pm_ias (by exact okX11_wake) rfl rfl (vp_in_nI hd (by omega)) ?_
        rw [nI_clamp (by omega)]
        refine pm_go 9999 (by exact okX11_wake) rfl ?_; (try dsimp only [pm_st1, pm_st2, pm_cat2, pm_la, Option.toList, List.cons_append, List.nil_append])
        refine pm_zge (by exact okX11_wake) rfl (fun h2 => ?_) (fun h2 => ?_)
        · refine pm_go 9999 (by exact okX11_wake) rfl ?_; (try dsimp only [pm_st1, pm_st2, pm_cat2, pm_la, Option.toList, List.cons_append, List.nil_append])
          rw [nI_1, nI_shl1 (by omega), nI_or]
          refine pm_ias (by exact okX11_wake) rfl rfl (vp_in_nI hd (by omega)) ?_
          rw [nI_clamp (by omega)]
          refine pm_go 9999 (by exact okX11_wake) rfl ?_; (try dsimp only [pm_st1, pm_st2, pm_cat2, pm_la, Option.toList, List.cons_append, List.nil_append])
          rw [nI_1]
          refine pm_ias (by exact okX11_wake) rfl rfl (vp_in_nI hd (by omega)) ?_
          rw [nI_clamp (by omega)]
          refine pm_go 9999 (by exact okX11_wake) rfl ?_; (try dsimp only [pm_st1, pm_st2, pm_cat2, pm_la, Option.toList, List.cons_append, List.nil_append])
          rw [nI_1]
          refine pm_ias (by exact okX11_wake) rfl rfl (vp_in_nI hd (by omega)) ?_
          rw [nI_clamp (by omega)]
          refine pm_go 9999 (by exact okX11_wake) rfl ?_; (try dsimp only [pm_st1, pm_st2, pm_cat2, pm_la, Option.toList, List.cons_append, List.nil_append])
          refine pm_rv (by exact okX11_wake) rfl rfl (Nat.le_refl _) (Nat.le_refl _) (⟨rfl, rfl, rfl, rfl⟩)
        · exact absurd (nI_pos' (by omega)) h2
      · exact absurd (nI_pos' (by omega)) h1
  refine pm_enterN 3 (by exact okX11_wake) rfl ?_; dsimp only [pm_la, pm_cat2, List.replicate, List.cons_append, List.nil_append, List.append_nil]
  refine pm_go 9999 (by exact okX11_wake) rfl ?_; (try dsimp only [pm_st1, pm_st2, pm_cat2, pm_la, Option.toList, List.cons_append, List.nil_append])
  cases ho2 : o with
  | none =>
    rw [ho2] at hb main
    subst hb
    refine pm_zge (by exact okX11_wake) rfl (fun h1 => ?_) (fun h1 => ?_)
    · exact absurd h1 (by decide)
    · refine pm_go 9999 (by exact okX11_wake) rfl ?_; (try dsimp only [pm_st1, pm_st2, pm_cat2, pm_la, Option.toList, List.cons_append, List.nil_append])
      refine pm_ial (by exact okX11_wake) rfl rfl (vp_in_nI (by omega) (by omega)) ?_
      rw [nI_clamp (by omega), h34]
      refine pm_go 23 (by exact okX11_wake) rfl ?_; (try dsimp only [pm_st1, pm_st2, pm_cat2, pm_la, Option.toList, List.cons_append, List.nil_append])
      exact main
  | some x =>
    have hx := ho x ho2
    rw [ho2] at hb main
    subst hb
    show pm_G _ _ _ _ _ _ [.int (nI x)] _ _ _
    refine pm_zge (by exact okX11_wake) rfl (fun h1 => ?_) (fun h1 => ?_)
    · refine pm_go 9999 (by exact okX11_wake) rfl ?_; (try dsimp only [pm_st1, pm_st2, pm_cat2, pm_la, Option.toList, List.cons_append, List.nil_append])
      refine pm_ial (by exact okX11_wake) rfl rfl (vp_in_nI (by omega) (by omega)) ?_
      rw [nI_clamp (by omega), h34]
      refine pm_go 9999 (by exact okX11_wake) rfl ?_; (try dsimp only [pm_st1, pm_st2, pm_cat2, pm_la, Option.toList, List.cons_append, List.nil_append])
      refine pm_cs (by exact okX11_wake) (by exact okX11_watered) rfl (by exact arX11_watered) (t_watered (d := 1) hok hln hx (by omega)) rfl (by dsimp only; omega) rfl (Nat.le_of_ble_eq_true rfl) ⟨Nat.zero_le _, Nat.zero_le _⟩ ?_
      rintro _ _ _ _ ⟨rfl, rfl, rfl, rfl⟩ -
      exact main
    · exact absurd (nI_pos' (by omega)) h1
end

/-! ===== the reference's canBe ===== -/
/-- the first k BEDS of an ORDER, as bits -/
def os_ (pd : List Nat) : Nat → Nat
  | 0 => 0
  | k + 1 => os_ pd k ||| 2 ^ (pd.getD k 0 - 97)
/-- w BEDS watered, k in bloom: the next of the ORDER blooms -/
def cb_N (law : Nat) (pd : List Nat) (w k : Nat) : Bool := decide (gd_nx law (gd_rn (os_ pd k) w) = some (pd.getD k 0 - 97))
def cb_F (law gate : Nat) (pd : List Nat) : Nat → Nat → Nat → Bool
  | 0, w, k => decide (w = 0 ∧ k = 0)
  | n + 1, w, k => decide (w = 0 ∧ k = 0) || ((decide (1 ≤ w ∧ k ≤ w - 1 ∧ w - 1 - k < gate) && cb_F law gate pd n (w - 1) k) || (decide (1 ≤ k ∧ k - 1 < w) && (cb_N law pd w (k - 1) && cb_F law gate pd n w (k - 1))))
/-- it can come to w watered, k in bloom -/
def cbF (law gate : Nat) (pd : List Nat) (w k : Nat) : Bool := cb_F law gate pd (w + k) w k
def cbW (law gate : Nat) (pd : List Nat) (w k : Nat) : Bool := decide (1 ≤ w ∧ k ≤ w - 1 ∧ w - 1 - k < gate) && cbF law gate pd (w - 1) k
def cbB (law gate : Nat) (pd : List Nat) (w k : Nat) : Bool := decide (1 ≤ k ∧ k - 1 < w) && (cb_N law pd w (k - 1) && cbF law gate pd w (k - 1))
theorem cbF_eq (law gate : Nat) (pd : List Nat) (w k : Nat) : cbF law gate pd w k = (decide (w = 0 ∧ k = 0) || (cbW law gate pd w k || cbB law gate pd w k)) := by
  rcases Nat.eq_zero_or_pos (w + k) with h | h
  · have h1 : w = 0 := by omega
    have h2 : k = 0 := by omega
    subst h1; subst h2
    simp [cbF, cb_F]
  · obtain ⟨n, hn⟩ : ∃ n, w + k = n + 1 := ⟨w + k - 1, by omega⟩
    unfold cbF cbW cbB
    rw [hn]
    simp only [cb_F]
    congr 1
    congr 1
    · by_cases h1 : 1 ≤ w ∧ k ≤ w - 1 ∧ w - 1 - k < gate
      · unfold cbF; rw [show w - 1 + k = n by omega]
      · rw [decide_eq_false h1]; rfl
    · by_cases h1 : 1 ≤ k ∧ k - 1 < w
      · unfold cbF; rw [show w + (k - 1) = n by omega]
      · rw [decide_eq_false h1]; rfl
theorem cbF_out {law gate : Nat} {pd : List Nat} {w k : Nat} (h : w < k) : cbF law gate pd w k = false := by
  rw [cbF_eq]
  unfold cbW cbB
  rw [decide_eq_false (by omega), decide_eq_false (by omega), decide_eq_false (by omega)]
  rfl
theorem cbW_out {law gate : Nat} {pd : List Nat} {w k : Nat} (h : w ≤ k) : cbW law gate pd w k = false := by
  unfold cbW
  rw [decide_eq_false (by omega)]
  rfl
/-- the reference's table, in the midst of row w, at place k -/
def cb_v (law gate : Nat) (pd : List Nat) (w k w' j : Nat) : Bool :=
  if w' < w ∨ (w' = w ∧ j ≤ k) then cbF law gate pd w' j else if w' = w then cbW law gate pd w j else if w' = w + 1 ∧ j < k then cbW law gate pd (w + 1) j else false
def cb_T (law gate B : Nat) (pd : List Nat) (w k : Nat) (mu : pm_I) : Prop := ∀ w' j, w' ≤ B → j ≤ 6 → mu 26 (7 * w' + j) = bI (cb_v law gate pd w k w' j = true)
theorem cb_T_next {law gate B : Nat} {pd : List Nat} {w : Nat} {mu : pm_I} (h : cb_T law gate B pd w (w + 1) mu) : cb_T law gate B pd (w + 1) 0 mu := by
  intro w' j hw hj
  rw [h w' j hw hj]
  have e : cb_v law gate pd w (w + 1) w' j = cb_v law gate pd (w + 1) 0 w' j := by
    unfold cb_v
    by_cases h1 : w' < w
    · rw [if_pos (Or.inl h1), if_pos (Or.inl (by omega))]
    · by_cases h2 : w' = w
      · subst h2
        rw [if_pos (c := w' < w' + 1 ∨ _) (Or.inl (by omega))]
        by_cases h3 : j ≤ w' + 1
        · rw [if_pos (Or.inr ⟨rfl, h3⟩)]
        · rw [if_neg (by omega), if_pos rfl, cbW_out (by omega), cbF_out (by omega)]
      · by_cases h3 : w' = w + 1
        · subst h3
          rw [if_neg (by omega), if_neg (by omega)]
          by_cases h4 : j = 0
          · subst h4
            rw [if_pos ⟨rfl, by omega⟩, if_pos (Or.inr ⟨rfl, by omega⟩), cbF_eq]
            have : cbB law gate pd (w + 1) 0 = false := by unfold cbB; rw [decide_eq_false (by omega)]; rfl
            rw [this, decide_eq_false (by omega), Bool.or_false, Bool.false_or]
          · rw [if_neg (c := w + 1 < w + 1 ∨ _) (by omega), if_pos rfl]
            by_cases h5 : j < w + 1
            · rw [if_pos ⟨rfl, h5⟩]
            · rw [if_neg (by omega), cbW_out (by omega)]
        · rw [if_neg (by omega), if_neg h2, if_neg (by omega), if_neg (by omega), if_neg h3, if_neg (by omega)]
  rw [e]
theorem os_lt {pd : List Nat} {B : Nat} (hB : B ≤ 6) (hl : ∀ k, k < B → pd.getD k 0 - 97 < 6) : ∀ k, k ≤ B → os_ pd k < 64 := by
  intro k
  induction k with
  | zero => intro _; simp [os_]
  | succ k ih => intro hk; exact or_lt (ih (by omega)) (hl k (by omega))
section
variable {cx : pm_CX} {d n0 : Nat} {i0 i1 : Option Nat} {ex : List pm_C} {mu : pm_I} {nu : pm_J}
set_option maxRecDepth 100000 in
set_option maxHeartbeats 1000000 in
theorem t_nextBy_l {Q : pm_Po} {n s law : Nat} (hL : mu 19 3 = nI law) (hlaw : law ≤ 2) (hn : n ≤ 6) (hs : s < 2 ^ 31) (hd : 2 ≤ d) : ∀ (j k : Nat), k + j = n → Q (some (.int (nO (gd_nx law (gd_rn s n))))) (sh_ i0 i1 ex) mu nu → pm_G cx (mX11_nextBy, d, 0, 0, n0, Q) 0 0 5 [some (.ref 19), some (.int (nI n)), some (.int (nI s)), some (.int (nI (md_r7 (gd_rn s k)))), some (.int (nI k))] [] (sh_ i0 i1 ex) mu nu := by
  intro j
  induction j with
  | zero =>
    intro k hk hq
    have hk : k = n := by omega
    subst hk
    have hlt := gd_rn_lt s k
    have hln := gd_rn_len s k
    refine pm_go 9999 (by exact okX11_nextBy) rfl ?_; (try dsimp only [pm_st1, pm_st2, pm_cat2, pm_la, Option.toList, List.cons_append, List.nil_append])
    refine pm_ige (by exact okX11_nextBy) rfl (fun h1 => ?_) (fun h1 => ?_)
    · refine pm_go 9999 (by exact okX11_nextBy) rfl ?_; (try dsimp only [pm_st1, pm_st2, pm_cat2, pm_la, Option.toList, List.cons_append, List.nil_append])
      refine pm_cv (by exact okX11_nextBy) (by exact okX11_nextOf) rfl (by exact arX11_nextOf) (t_nextOf (d := 1) (r := gd_rn s k) hL hlaw (fun b hb => by have := hlt b hb; omega) (by omega) (by omega)) rfl rfl rfl (by dsimp only; omega) rfl (Nat.le_of_ble_eq_true rfl) ⟨Nat.zero_le _, Nat.zero_le _⟩ ?_
      rintro _ _ _ _ ⟨rfl, rfl, rfl, rfl⟩ -
      refine pm_go 9999 (by exact okX11_nextBy) rfl ?_; (try dsimp only [pm_st1, pm_st2, pm_cat2, pm_la, Option.toList, List.cons_append, List.nil_append])
      refine pm_ri (by exact okX11_nextBy) rfl rfl rfl (Nat.le_refl _) (Nat.le_refl _) (hq)
    · exact absurd (nI_le (Nat.le_refl _) (by omega)) h1
  | succ j ih =>
    intro k hk hq
    refine pm_go 9999 (by exact okX11_nextBy) rfl ?_; (try dsimp only [pm_st1, pm_st2, pm_cat2, pm_la, Option.toList, List.cons_append, List.nil_append])
    refine pm_ige (by exact okX11_nextBy) rfl (fun h1 => ?_) (fun h1 => ?_)
    · exact absurd h1 (nI_ge (by omega) (by omega))
    · refine pm_go 9999 (by exact okX11_nextBy) rfl ?_; (try dsimp only [pm_st1, pm_st2, pm_cat2, pm_la, Option.toList, List.cons_append, List.nil_append])
      refine pm_cs (by exact okX11_nextBy) (by exact okX11_has) rfl (by exact arX11_has) (t_has (d := 0) hs (by omega)) rfl (by dsimp only; omega) rfl (Nat.le_of_ble_eq_true rfl) ⟨Nat.zero_le _, Nat.zero_le _⟩ ?_
      rintro _ _ _ _ ⟨rfl, rfl, rfl, rfl⟩ -
      refine pm_go 9999 (by exact okX11_nextBy) rfl ?_; (try dsimp only [pm_st1, pm_st2, pm_cat2, pm_la, Option.toList, List.cons_append, List.nil_append])
      refine pm_zeq (by exact okX11_nextBy) rfl (fun h2 => ?_) (fun h2 => ?_)
      · have h3 := bI_z.mp h2
        refine pm_go 5 (by exact okX11_nextBy) rfl ?_; (try dsimp only [pm_st1, pm_st2, pm_cat2, pm_la, Option.toList, List.cons_append, List.nil_append])
        rw [show (7 : Int32) = nI 7 from rfl, pk_mul, nI_add, nI_1, nI_1]
        have e : gd_rn s (k + 1) = k :: gd_rn s k := by simp only [gd_rn]; rw [if_neg h3]
        have := ih (k + 1) (by omega) hq
        rw [e] at this
        exact this
      · have h3 := bI_n.mp h2
        refine pm_go 5 (by exact okX11_nextBy) rfl ?_; (try dsimp only [pm_st1, pm_st2, pm_cat2, pm_la, Option.toList, List.cons_append, List.nil_append])
        rw [nI_1]
        have e : gd_rn s (k + 1) = gd_rn s k := by simp only [gd_rn]; rw [if_pos h3]
        have := ih (k + 1) (by omega) hq
        rw [e] at this
        exact this
set_option maxRecDepth 100000 in
set_option maxHeartbeats 1000000 in
theorem t_nextBy {n s law : Nat} (hL : mu 19 3 = nI law) (hlaw : law ≤ 2) (hn : n ≤ 6) (hs : s < 2 ^ 31) (hd : 2 ≤ d) : pm_T cx mX11_nextBy d 0 0 [.ref 19, .int (nI n), .int (nI s)] (sh_ i0 i1 ex) mu nu (pm_ret (some (.int (nO (gd_nx law (gd_rn s n))))) (sh_ i0 i1 ex) mu nu) := by
  refine pm_enterN 2 (by exact okX11_nextBy) rfl ?_; dsimp only [pm_la, pm_cat2, List.replicate, List.cons_append, List.nil_append, List.append_nil]
  refine pm_go 5 (by exact okX11_nextBy) rfl ?_; (try dsimp only [pm_st1, pm_st2, pm_cat2, pm_la, Option.toList, List.cons_append, List.nil_append])
  exact t_nextBy_l hL hlaw hn hs hd n 0 (by omega) ⟨rfl, rfl, rfl, rfl⟩
/-- only cell 26 changes -/
def f26 (mu mu' : pm_I) : Prop := ∀ a, a ≠ 26 → mu' a = mu a
theorem f26.up {mu mu' : pm_I} {j : Nat} {v : Int32} (h : f26 mu mu') : f26 mu (pm_up mu' 26 j v) := fun a ha => by rw [pm_up_ne ha]; exact h a ha
set_option maxRecDepth 100000 in
set_option maxHeartbeats 1000000 in
theorem M_canBe_a {Q : pm_Po} {law gate B : Nat} {pd : List Nat} (hB6 : B ≤ 6) (kk : ∀ mu' : pm_I, f26 mu mu' → cb_T law gate B pd 0 0 mu' → pm_G cx (mX11_canBe, d, 0, 0, n0, Q) 0 0 39 [some (.ref 19), none, none, none] [] (sh_ i0 i1 ex) mu' nu) : ∀ (j k : Nat) (mu' : pm_I), k + j = 49 → f26 mu mu' → (∀ i, i < k → mu' 26 i = if i = 0 then 1 else 0) → pm_G cx (mX11_canBe, d, 0, 0, n0, Q) 0 0 12 [some (.ref 19), some (.int (nI k)), none, none] [] (sh_ i0 i1 ex) mu' nu := by
  intro j
  induction j with
  | zero =>
    intro k mu' hk hF hi
    have hk : k = 49 := by omega
    subst hk
    refine pm_go 9999 (by exact okX11_canBe) rfl ?_; (try dsimp only [pm_st1, pm_st2, pm_cat2, pm_la, Option.toList, List.cons_append, List.nil_append])
    refine pm_ige (by exact okX11_canBe) rfl (fun h1 => ?_) (fun h1 => ?_)
    · refine pm_G.fg [false, true, false, false] ?_; dsimp only [pm_fg]
      refine kk mu' hF (fun w' j hw hj => ?_)
      rw [hi _ (by omega)]
      unfold cb_v
      by_cases h2 : w' = 0
      · subst h2
        by_cases h3 : j = 0
        · subst h3
          rw [if_pos (by omega), if_pos (Or.inr ⟨rfl, by omega⟩)]
          rfl
        · rw [if_neg (by omega), if_neg (by omega), if_pos rfl, cbW_out (by omega)]
          rfl
      · rw [if_neg (by omega), if_neg (by omega), if_neg h2, if_neg (by omega)]
        rfl
    · exact absurd (by decide) h1
  | succ j ih =>
    intro k mu' hk hF hi
    have st : ∀ v : Int32, v = (if k = 0 then 1 else 0) → vp_nar .boolean v = v → pm_G cx (mX11_canBe, d, 0, 0, n0, Q) 0 0 32 [some (.ref 19), some (.int (nI k)), none, none] [.int v, .int (nI k), .ref 26] (sh_ i0 i1 ex) mu' nu := by
      intro v hv hn
      refine pm_zas (by exact okX11_canBe) rfl rfl (vp_in_nI (by omega) (by omega)) ?_
      rw [nI_clamp (by omega), hn]
      refine pm_go 12 (by exact okX11_canBe) rfl ?_; (try dsimp only [pm_st1, pm_st2, pm_cat2, pm_la, Option.toList, List.cons_append, List.nil_append])
      rw [nI_1]
      refine ih (k + 1) _ (by omega) hF.up (fun i hi2 => ?_)
      by_cases e : i = k
      · subst e; rw [pm_up_at, hv]
      · rw [pm_up_of e]; exact hi i (by omega)
    refine pm_go 9999 (by exact okX11_canBe) rfl ?_; (try dsimp only [pm_st1, pm_st2, pm_cat2, pm_la, Option.toList, List.cons_append, List.nil_append])
    refine pm_ige (by exact okX11_canBe) rfl (fun h1 => ?_) (fun h1 => ?_)
    · exact absurd h1 (nI_ge (a := k) (b := 49) (by omega) (by omega))
    · refine pm_go 9999 (by exact okX11_canBe) rfl ?_; (try dsimp only [pm_st1, pm_st2, pm_cat2, pm_la, Option.toList, List.cons_append, List.nil_append])
      refine pm_zne (by exact okX11_canBe) rfl (fun h2 => ?_) (fun h2 => ?_)
      · have h3 : ¬ k = 0 := fun q => h2 (by rw [q]; rfl)
        refine pm_go 32 (by exact okX11_canBe) rfl ?_; (try dsimp only [pm_st1, pm_st2, pm_cat2, pm_la, Option.toList, List.cons_append, List.nil_append])
        exact st 0 (by rw [if_neg h3]) rfl
      · have h3 : k = 0 := (nI_eq (b := 0) (by omega) (by omega)).mp h2
        refine pm_go 32 (by exact okX11_canBe) rfl ?_; (try dsimp only [pm_st1, pm_st2, pm_cat2, pm_la, Option.toList, List.cons_append, List.nil_append])
        exact st 1 (by rw [if_pos h3]) rfl
end

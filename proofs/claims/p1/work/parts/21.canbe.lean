/-! ===== the reference's canBe ===== -/
/-- the first k BEDS of an ORDER, as bits -/
def os_ (pd : List Nat) : Nat → Nat
  | 0 => 0
  | k + 1 => os_ pd k ||| 2 ^ (pd.getD k 0 - 97)
/-- w BEDS watered, k in bloom: the next of the ORDER blooms -/
def cb_N (law : Nat) (pd : List Nat) (w k : Nat) : Bool := decide (gd_nx law (gd_rn (os_ pd k) w) = some (pd.getD k 0 - 97))
def cb_F (law gate : Nat) (pd : List Nat) : Nat → Nat → Nat → Bool
  | 0, w, k => decide (w = 0 ∧ k = 0)
  | n + 1, w, k => decide (w = 0 ∧ k = 0) || ((decide (1 ≤ w ∧ k ≤ w - 1 ∧ w - 1 - k < gate) && cb_F law gate pd n (w - 1) k) || (decide (1 ≤ k ∧ k - 1 < w) && (cb_N law pd w (k - 1) && cb_F law gate pd n w (k - 1))))
/-- it can come to w watered, k in bloom -/
def cbF (law gate : Nat) (pd : List Nat) (w k : Nat) : Bool := cb_F law gate pd (w + k) w k
def cbW (law gate : Nat) (pd : List Nat) (w k : Nat) : Bool := decide (1 ≤ w ∧ k ≤ w - 1 ∧ w - 1 - k < gate) && cbF law gate pd (w - 1) k
def cbB (law gate : Nat) (pd : List Nat) (w k : Nat) : Bool := decide (1 ≤ k ∧ k - 1 < w) && (cb_N law pd w (k - 1) && cbF law gate pd w (k - 1))
theorem cbF_eq (law gate : Nat) (pd : List Nat) (w k : Nat) : cbF law gate pd w k = (decide (w = 0 ∧ k = 0) || (cbW law gate pd w k || cbB law gate pd w k)) := by
  rcases Nat.eq_zero_or_pos (w + k) with h | h
  · have h1 : w = 0 := by omega
    have h2 : k = 0 := by omega
    subst h1; subst h2
    simp [cbF, cb_F]
  · obtain ⟨n, hn⟩ : ∃ n, w + k = n + 1 := ⟨w + k - 1, by omega⟩
    unfold cbF cbW cbB
    rw [hn]
    simp only [cb_F]
    congr 1
    congr 1
    · by_cases h1 : 1 ≤ w ∧ k ≤ w - 1 ∧ w - 1 - k < gate
      · unfold cbF; rw [show w - 1 + k = n by omega]
      · rw [decide_eq_false h1]; rfl
    · by_cases h1 : 1 ≤ k ∧ k - 1 < w
      · unfold cbF; rw [show w + (k - 1) = n by omega]
      · rw [decide_eq_false h1]; rfl
theorem cbF_out {law gate : Nat} {pd : List Nat} {w k : Nat} (h : w < k) : cbF law gate pd w k = false := by
  rw [cbF_eq]
  unfold cbW cbB
  rw [decide_eq_false (by omega), decide_eq_false (by omega), decide_eq_false (by omega)]
  rfl
theorem cbW_out {law gate : Nat} {pd : List Nat} {w k : Nat} (h : w ≤ k) : cbW law gate pd w k = false := by
  unfold cbW
  rw [decide_eq_false (by omega)]
  rfl
/-- the reference's table, in the midst of row w, at place k -/
def cb_v (law gate : Nat) (pd : List Nat) (w k w' j : Nat) : Bool :=
  if w' < w ∨ (w' = w ∧ j ≤ k) then cbF law gate pd w' j else if w' = w then cbW law gate pd w j else if w' = w + 1 ∧ j < k then cbW law gate pd (w + 1) j else false
def cb_T (law gate B : Nat) (pd : List Nat) (w k : Nat) (mu : pm_I) : Prop := ∀ w' j, w' ≤ B → j ≤ 6 → mu 26 (7 * w' + j) = bI (cb_v law gate pd w k w' j = true)
theorem cb_T_next {law gate B : Nat} {pd : List Nat} {w : Nat} {mu : pm_I} (h : cb_T law gate B pd w (w + 1) mu) : cb_T law gate B pd (w + 1) 0 mu := by
  intro w' j hw hj
  rw [h w' j hw hj]
  have e : cb_v law gate pd w (w + 1) w' j = cb_v law gate pd (w + 1) 0 w' j := by
    unfold cb_v
    by_cases h1 : w' < w
    · rw [if_pos (Or.inl h1), if_pos (Or.inl (by omega))]
    · by_cases h2 : w' = w
      · subst h2
        rw [if_pos (c := w' < w' + 1 ∨ _) (Or.inl (by omega))]
        by_cases h3 : j ≤ w' + 1
        · rw [if_pos (Or.inr ⟨rfl, h3⟩)]
        · rw [if_neg (by omega), if_pos rfl, cbW_out (by omega), cbF_out (by omega)]
      · by_cases h3 : w' = w + 1
        · subst h3
          rw [if_neg (by omega), if_neg (by omega)]
          by_cases h4 : j = 0
          · subst h4
            rw [if_pos ⟨rfl, by omega⟩, if_pos (Or.inr ⟨rfl, by omega⟩), cbF_eq]
            have : cbB law gate pd (w + 1) 0 = false := by unfold cbB; rw [decide_eq_false (by omega)]; rfl
            rw [this, decide_eq_false (by omega), Bool.or_false, Bool.false_or]
          · rw [if_neg (c := w + 1 < w + 1 ∨ _) (by omega), if_pos rfl]
            by_cases h5 : j < w + 1
            · rw [if_pos ⟨rfl, h5⟩]
            · rw [if_neg (by omega), cbW_out (by omega)]
        · rw [if_neg (by omega), if_neg h2, if_neg (by omega), if_neg (by omega), if_neg h3, if_neg (by omega)]
  rw [e]
theorem os_lt {pd : List Nat} {B : Nat} (hB : B ≤ 6) (hl : ∀ k, k < B → pd.getD k 0 - 97 < 6) : ∀ k, k ≤ B → os_ pd k < 64 := by
  intro k
  induction k with
  | zero => intro _; simp [os_]
  | succ k ih => intro hk; exact or_lt (ih (by omega)) (hl k (by omega))
section
variable {cx : pm_CX} {d n0 : Nat} {i0 i1 : Option Nat} {ex : List pm_C} {mu : pm_I} {nu : pm_J}
set_option maxRecDepth 100000 in
set_option maxHeartbeats 1000000 in
theorem t_nextBy_l {Q : pm_Po} {n s law : Nat} (hL : mu 19 3 = nI law) (hlaw : law ≤ 2) (hn : n ≤ 6) (hs : s < 2 ^ 31) (hd : 2 ≤ d) : ∀ (j k : Nat), k + j = n → Q (some (.int (nO (gd_nx law (gd_rn s n))))) (sh_ i0 i1 ex) mu nu → pm_G cx (mX11_nextBy, d, 0, 0, n0, Q) 0 0 5 [some (.ref 19), some (.int (nI n)), some (.int (nI s)), some (.int (nI (md_r7 (gd_rn s k)))), some (.int (nI k))] [] (sh_ i0 i1 ex) mu nu := by
  intro j
  induction j with
  | zero =>
    intro k hk hq
    have hk : k = n := by omega
    subst hk
    have hlt := gd_rn_lt s k
    have hln := gd_rn_len s k
    refine pm_go 9999 (by exact okX11_nextBy) rfl ?_; (try dsimp only [pm_st1, pm_st2, pm_cat2, pm_la, Option.toList, List.cons_append, List.nil_append])
    refine pm_ige (by exact okX11_nextBy) rfl (fun h1 => ?_) (fun h1 => ?_)
    · refine pm_go 9999 (by exact okX11_nextBy) rfl ?_; (try dsimp only [pm_st1, pm_st2, pm_cat2, pm_la, Option.toList, List.cons_append, List.nil_append])
      refine pm_cv (by exact okX11_nextBy) (by exact okX11_nextOf) rfl (by exact arX11_nextOf) (t_nextOf (d := 1) (r := gd_rn s k) hL hlaw (fun b hb => by have := hlt b hb; omega) (by omega) (by omega)) rfl rfl rfl (by dsimp only; omega) rfl (Nat.le_of_ble_eq_true rfl) ⟨Nat.zero_le _, Nat.zero_le _⟩ ?_
      rintro _ _ _ _ ⟨rfl, rfl, rfl, rfl⟩ -
      refine pm_go 9999 (by exact okX11_nextBy) rfl ?_; (try dsimp only [pm_st1, pm_st2, pm_cat2, pm_la, Option.toList, List.cons_append, List.nil_append])
      refine pm_ri (by exact okX11_nextBy) rfl rfl rfl (Nat.le_refl _) (Nat.le_refl _) (hq)
    · exact absurd (nI_le (Nat.le_refl _) (by omega)) h1
  | succ j ih =>
    intro k hk hq
    refine pm_go 9999 (by exact okX11_nextBy) rfl ?_; (try dsimp only [pm_st1, pm_st2, pm_cat2, pm_la, Option.toList, List.cons_append, List.nil_append])
    refine pm_ige (by exact okX11_nextBy) rfl (fun h1 => ?_) (fun h1 => ?_)
    · exact absurd h1 (nI_ge (by omega) (by omega))
    · refine pm_go 9999 (by exact okX11_nextBy) rfl ?_; (try dsimp only [pm_st1, pm_st2, pm_cat2, pm_la, Option.toList, List.cons_append, List.nil_append])
      refine pm_cs (by exact okX11_nextBy) (by exact okX11_has) rfl (by exact arX11_has) (t_has (d := 0) hs (by omega)) rfl (by dsimp only; omega) rfl (Nat.le_of_ble_eq_true rfl) ⟨Nat.zero_le _, Nat.zero_le _⟩ ?_
      rintro _ _ _ _ ⟨rfl, rfl, rfl, rfl⟩ -
      refine pm_go 9999 (by exact okX11_nextBy) rfl ?_; (try dsimp only [pm_st1, pm_st2, pm_cat2, pm_la, Option.toList, List.cons_append, List.nil_append])
      refine pm_zeq (by exact okX11_nextBy) rfl (fun h2 => ?_) (fun h2 => ?_)
      · have h3 := bI_z.mp h2
        refine pm_go 5 (by exact okX11_nextBy) rfl ?_; (try dsimp only [pm_st1, pm_st2, pm_cat2, pm_la, Option.toList, List.cons_append, List.nil_append])
        rw [show (7 : Int32) = nI 7 from rfl, pk_mul, nI_add, nI_1, nI_1]
        have e : gd_rn s (k + 1) = k :: gd_rn s k := by simp only [gd_rn]; rw [if_neg h3]
        have := ih (k + 1) (by omega) hq
        rw [e] at this
        exact this
      · have h3 := bI_n.mp h2
        refine pm_go 5 (by exact okX11_nextBy) rfl ?_; (try dsimp only [pm_st1, pm_st2, pm_cat2, pm_la, Option.toList, List.cons_append, List.nil_append])
        rw [nI_1]
        have e : gd_rn s (k + 1) = gd_rn s k := by simp only [gd_rn]; rw [if_pos h3]
        have := ih (k + 1) (by omega) hq
        rw [e] at this
        exact this
set_option maxRecDepth 100000 in
set_option maxHeartbeats 1000000 in
theorem t_nextBy {n s law : Nat} (hL : mu 19 3 = nI law) (hlaw : law ≤ 2) (hn : n ≤ 6) (hs : s < 2 ^ 31) (hd : 2 ≤ d) : pm_T cx mX11_nextBy d 0 0 [.ref 19, .int (nI n), .int (nI s)] (sh_ i0 i1 ex) mu nu (pm_ret (some (.int (nO (gd_nx law (gd_rn s n))))) (sh_ i0 i1 ex) mu nu) := by
  refine pm_enterN 2 (by exact okX11_nextBy) rfl ?_; dsimp only [pm_la, pm_cat2, List.replicate, List.cons_append, List.nil_append, List.append_nil]
  refine pm_go 5 (by exact okX11_nextBy) rfl ?_; (try dsimp only [pm_st1, pm_st2, pm_cat2, pm_la, Option.toList, List.cons_append, List.nil_append])
  exact t_nextBy_l hL hlaw hn hs hd n 0 (by omega) ⟨rfl, rfl, rfl, rfl⟩
/-- only cell 26 changes -/
def f26 (mu mu' : pm_I) : Prop := ∀ a, a ≠ 26 → mu' a = mu a
theorem f26.up {mu mu' : pm_I} {j : Nat} {v : Int32} (h : f26 mu mu') : f26 mu (pm_up mu' 26 j v) := fun a ha => by rw [pm_up_ne ha]; exact h a ha
set_option maxRecDepth 100000 in
set_option maxHeartbeats 1000000 in
theorem M_canBe_a {Q : pm_Po} {law gate B : Nat} {pd : List Nat} (hB6 : B ≤ 6) (kk : ∀ mu' : pm_I, f26 mu mu' → cb_T law gate B pd 0 0 mu' → pm_G cx (mX11_canBe, d, 0, 0, n0, Q) 0 0 39 [some (.ref 19), none, none, none] [] (sh_ i0 i1 ex) mu' nu) : ∀ (j k : Nat) (mu' : pm_I), k + j = 49 → f26 mu mu' → (∀ i, i < k → mu' 26 i = if i = 0 then 1 else 0) → pm_G cx (mX11_canBe, d, 0, 0, n0, Q) 0 0 12 [some (.ref 19), some (.int (nI k)), none, none] [] (sh_ i0 i1 ex) mu' nu := by
  intro j
  induction j with
  | zero =>
    intro k mu' hk hF hi
    have hk : k = 49 := by omega
    subst hk
    refine pm_go 9999 (by exact okX11_canBe) rfl ?_; (try dsimp only [pm_st1, pm_st2, pm_cat2, pm_la, Option.toList, List.cons_append, List.nil_append])
    refine pm_ige (by exact okX11_canBe) rfl (fun h1 => ?_) (fun h1 => ?_)
    · refine pm_G.fg [false, true, false, false] ?_; dsimp only [pm_fg]
      refine kk mu' hF (fun w' j hw hj => ?_)
      rw [hi _ (by omega)]
      unfold cb_v
      by_cases h2 : w' = 0
      · subst h2
        by_cases h3 : j = 0
        · subst h3
          rw [if_pos (by omega), if_pos (Or.inr ⟨rfl, by omega⟩)]
          rfl
        · rw [if_neg (by omega), if_neg (by omega), if_pos rfl, cbW_out (by omega)]
          rfl
      · rw [if_neg (by omega), if_neg (by omega), if_neg h2, if_neg (by omega)]
        rfl
    · exact absurd (by decide) h1
  | succ j ih =>
    intro k mu' hk hF hi
    have st : ∀ v : Int32, v = (if k = 0 then 1 else 0) → vp_nar .boolean v = v → pm_G cx (mX11_canBe, d, 0, 0, n0, Q) 0 0 32 [some (.ref 19), some (.int (nI k)), none, none] [.int v, .int (nI k), .ref 26] (sh_ i0 i1 ex) mu' nu := by
      intro v hv hn
      refine pm_zas (by exact okX11_canBe) rfl rfl (vp_in_nI (by omega) (by omega)) ?_
      rw [nI_clamp (by omega), hn]
      refine pm_go 12 (by exact okX11_canBe) rfl ?_; (try dsimp only [pm_st1, pm_st2, pm_cat2, pm_la, Option.toList, List.cons_append, List.nil_append])
      rw [nI_1]
      refine ih (k + 1) _ (by omega) hF.up (fun i hi2 => ?_)
      by_cases e : i = k
      · subst e; rw [pm_up_at, hv]
      · rw [pm_up_of e]; exact hi i (by omega)
    refine pm_go 9999 (by exact okX11_canBe) rfl ?_; (try dsimp only [pm_st1, pm_st2, pm_cat2, pm_la, Option.toList, List.cons_append, List.nil_append])
    refine pm_ige (by exact okX11_canBe) rfl (fun h1 => ?_) (fun h1 => ?_)
    · exact absurd h1 (nI_ge (a := k) (b := 49) (by omega) (by omega))
    · refine pm_go 9999 (by exact okX11_canBe) rfl ?_; (try dsimp only [pm_st1, pm_st2, pm_cat2, pm_la, Option.toList, List.cons_append, List.nil_append])
      refine pm_zne (by exact okX11_canBe) rfl (fun h2 => ?_) (fun h2 => ?_)
      · have h3 : ¬ k = 0 := fun q => h2 (by rw [q]; rfl)
        refine pm_go 32 (by exact okX11_canBe) rfl ?_; (try dsimp only [pm_st1, pm_st2, pm_cat2, pm_la, Option.toList, List.cons_append, List.nil_append])
        exact st 0 (by rw [if_neg h3]) rfl
      · have h3 : k = 0 := (nI_eq (b := 0) (by omega) (by omega)).mp h2
        refine pm_go 32 (by exact okX11_canBe) rfl ?_; (try dsimp only [pm_st1, pm_st2, pm_cat2, pm_la, Option.toList, List.cons_append, List.nil_append])
        exact st 1 (by rw [if_pos h3]) rfl
/-- the table behind the first half of a step -/
def cb_T1 (law gate B : Nat) (pd : List Nat) (w k : Nat) (mu : pm_I) : Prop := ∀ w' j, w' ≤ B → j ≤ 6 → mu 26 (7 * w' + j) = bI ((if w' = w + 1 ∧ j = k then cbW law gate pd (w + 1) k else cb_v law gate pd w k w' j) = true)
theorem cb_v_here {law gate : Nat} {pd : List Nat} {w k : Nat} : cb_v law gate pd w k w k = cbF law gate pd w k := if_pos (Or.inr ⟨rfl, Nat.le_refl _⟩)
theorem cbW_succ {law gate : Nat} {pd : List Nat} {w k : Nat} (hk : k ≤ w) : cbW law gate pd (w + 1) k = (decide (w - k < gate) && cbF law gate pd w k) := by
  unfold cbW
  rw [Nat.add_sub_cancel]
  congr 1
  exact decide_eq_decide.mpr ⟨fun q => q.2.2, fun q => ⟨by omega, hk, q⟩⟩
theorem cbF_succ {law gate : Nat} {pd : List Nat} {w k : Nat} : cbF law gate pd w (k + 1) = (cbW law gate pd w (k + 1) || (decide (k < w) && (cb_N law pd w k && cbF law gate pd w k))) := by
  rw [cbF_eq, decide_eq_false (by omega), Bool.false_or]
  congr 1
  unfold cbB
  rw [Nat.add_sub_cancel]
  congr 1
  exact decide_eq_decide.mpr ⟨fun q => q.2, fun q => ⟨by omega, q⟩⟩
theorem cb_T_of1 {law gate B : Nat} {pd : List Nat} {w k : Nat} {mu mu' : pm_I} (hk : k ≤ 6) (h : cb_T1 law gate B pd w k mu) (h1 : ∀ i, ¬ (k + 1 ≤ 6 ∧ i = 7 * w + (k + 1)) → mu' 26 i = mu 26 i) (h2 : k + 1 ≤ 6 → mu' 26 (7 * w + (k + 1)) = bI (cbF law gate pd w (k + 1) = true)) : cb_T law gate B pd w (k + 1) mu' := by
  intro w' j hw hj
  by_cases e : k + 1 ≤ 6 ∧ 7 * w' + j = 7 * w + (k + 1)
  · have e1 : w' = w := by omega
    have e2 : j = k + 1 := by omega
    subst e1; subst e2
    rw [h2 hj, cb_v_here]
  · rw [h1 _ e, h w' j hw hj]
    have key : (if w' = w + 1 ∧ j = k then cbW law gate pd (w + 1) k else cb_v law gate pd w k w' j) = cb_v law gate pd w (k + 1) w' j := by
      unfold cb_v
      by_cases q1 : w' = w + 1 ∧ j = k
      · obtain ⟨rfl, rfl⟩ := q1
        rw [if_pos ⟨rfl, rfl⟩, if_neg (by omega), if_neg (by omega), if_pos ⟨rfl, by omega⟩]
      · rw [if_neg q1]
        by_cases q2 : w' < w ∨ (w' = w ∧ j ≤ k)
        · rw [if_pos q2, if_pos (by omega)]
        · rw [if_neg q2]
          by_cases q3 : w' = w
          · have : j ≠ k + 1 := fun q => e (by omega)
            rw [if_pos q3, if_neg (c := w' < w ∨ w' = w ∧ j ≤ k + 1) (by omega), if_pos q3]
          · simp only [if_neg q3, if_neg (show ¬ (w' < w ∨ w' = w ∧ j ≤ k + 1) by omega)]
            by_cases q4 : w' = w + 1 ∧ j < k
            · rw [if_pos q4, if_pos ⟨q4.1, by omega⟩]
            · rw [if_neg q4, if_neg (by omega)]
    rw [key]
set_option maxRecDepth 100000 in
set_option maxHeartbeats 1000000 in
theorem M_canBe_in {Q : pm_Po} {law gate B w : Nat} {pd : List Nat} (hB : mu 19 0 = nI B) (hB6 : 2 ≤ B ∧ B ≤ 6) (hL : mu 19 3 = nI law) (hlaw : law ≤ 2) (hG : mu 19 4 = nI gate) (hg : gate ≤ 6) (hpl : pd.length = B) (hP : ∀ k b, pd[k]? = some b → mu 22 k = nI b) (hlet : ∀ c ∈ pd, 97 ≤ c ∧ c < 97 + B) (hw : w ≤ B) (hd : 3 ≤ d) (kk : ∀ mu', f26 mu mu' → cb_T law gate B pd w (w + 1) mu' → pm_G cx (mX11_canBe, d, 0, 0, n0, Q) 0 0 185 [some (.ref 19), some (.int (nI w)), none, none] [] (sh_ i0 i1 ex) mu' nu) : ∀ (j k x : Nat) (mu' : pm_I), k + j = w + 1 → f26 mu mu' → cb_T law gate B pd w k mu' → (k ≤ w → x = os_ pd k) → x < 64 → pm_G cx (mX11_canBe, d, 0, 0, n0, Q) 0 0 53 [some (.ref 19), some (.int (nI w)), some (.int (nI x)), some (.int (nI k))] [] (sh_ i0 i1 ex) mu' nu := by
  have hget : ∀ k, k < B → mu 22 k = nI (pd.getD k 0) ∧ 97 ≤ pd.getD k 0 ∧ pd.getD k 0 < 97 + B := by
    intro k hk
    have h1 := List.getElem?_eq_getElem (l := pd) (i := k) (by omega)
    rw [List.getD_eq_getElem?_getD, h1, Option.getD_some]
    exact ⟨hP k _ h1, hlet _ (List.getElem_mem _)⟩
  intro j
  induction j with
  | zero =>
    intro k x mu' hk hF hT hx hx6
    have hk : k = w + 1 := by omega
    subst hk
    refine pm_go 9999 (by exact okX11_canBe) rfl ?_; (try dsimp only [pm_st1, pm_st2, pm_cat2, pm_la, Option.toList, List.cons_append, List.nil_append])
    refine pm_igt (by exact okX11_canBe) rfl (fun h1 => ?_) (fun h1 => ?_)
    · refine pm_G.fg [false, false, true, true] ?_; dsimp only [pm_fg]
      exact kk mu' hF hT
    · exact absurd (nI_lt (by omega) (by omega)) h1
  | succ j ih =>
    intro k x mu' hk hF hT hx hx6
    have hkw : k ≤ w := by omega
    have hxx := hx hkw
    have e7 : (7 : Int32) * nI w = nI (7 * w) := pk_mul 7 w
    -- the third part
    have stepC : ∀ mu2, f26 mu mu2 → cb_T law gate B pd w (k + 1) mu2 → pm_G cx (mX11_canBe, d, 0, 0, n0, Q) 0 0 156 [some (.ref 19), some (.int (nI w)), some (.int (nI x)), some (.int (nI k))] [] (sh_ i0 i1 ex) mu2 nu := by
      intro mu2 hF2 hT2
      refine pm_go 9999 (by exact okX11_canBe) rfl ?_; (try dsimp only [pm_st1, pm_st2, pm_cat2, pm_la, Option.toList, List.cons_append, List.nil_append])
      refine pm_ige (by exact okX11_canBe) rfl (fun h1 => ?_) (fun h1 => ?_)
      · have h2 : k = w := by
          have := (nI_leI (by omega) (by omega)).mp h1
          omega
        refine pm_go 53 (by exact okX11_canBe) rfl ?_; (try dsimp only [pm_st1, pm_st2, pm_cat2, pm_la, Option.toList, List.cons_append, List.nil_append])
        rw [nI_1, show nI x ||| 0 = nI x from by rw [show (0 : Int32) = nI 0 from rfl, nI_or, Nat.or_zero]]
        exact ih (k + 1) x mu2 (by omega) hF2 hT2 (fun q => by omega) hx6
      · have h2 : k < w := by
          rcases Nat.lt_or_ge k w with q | q
          · exact q
          · exact absurd (nI_le q (by omega)) h1
        obtain ⟨g1, g2, g3⟩ := hget k (by omega)
        refine pm_go 9999 (by exact okX11_canBe) rfl ?_; (try dsimp only [pm_st1, pm_st2, pm_cat2, pm_la, Option.toList, List.cons_append, List.nil_append])
        refine pm_ial (by exact okX11_canBe) rfl rfl (vp_in_nI (by omega) (by omega)) ?_
        rw [nI_clamp (by omega), hF2 22 (by omega), g1]
        refine pm_go 53 (by exact okX11_canBe) rfl ?_; (try dsimp only [pm_st1, pm_st2, pm_cat2, pm_la, Option.toList, List.cons_append, List.nil_append])
        rw [show (97 : Int32) = nI 97 from rfl, pk_sub g2, nI_shl1 (by omega), nI_or, nI_1]
        refine ih (k + 1) _ mu2 (by omega) hF2 hT2 (fun _ => ?_) (or_lt hx6 (by omega))
        rw [hxx]
        rfl
    -- the second part
    have stepB : ∀ mu1, f26 mu mu1 → cb_T1 law gate B pd w k mu1 → pm_G cx (mX11_canBe, d, 0, 0, n0, Q) 0 0 105 [some (.ref 19), some (.int (nI w)), some (.int (nI x)), some (.int (nI k))] [] (sh_ i0 i1 ex) mu1 nu := by
      intro mu1 hF1 hT1
      have here : mu1 26 (7 * w + k) = bI (cbF law gate pd w k = true) := by
        rw [hT1 w k hw (by omega), if_neg (by omega), cb_v_here]
      have stay : ¬ (k < w ∧ cb_N law pd w k = true ∧ cbF law gate pd w k = true) → pm_G cx (mX11_canBe, d, 0, 0, n0, Q) 0 0 156 [some (.ref 19), some (.int (nI w)), some (.int (nI x)), some (.int (nI k))] [] (sh_ i0 i1 ex) mu1 nu := by
        intro hn
        refine stepC mu1 hF1 (cb_T_of1 (by omega) hT1 (fun _ _ => rfl) (fun hk6 => ?_))
        have e : cbF law gate pd w (k + 1) = cbW law gate pd w (k + 1) := by
          rw [cbF_succ]
          by_cases q1 : k < w
          · have : (cb_N law pd w k && cbF law gate pd w k) = false := by
              cases q2 : cb_N law pd w k with
              | false => rfl
              | true =>
                cases q3 : cbF law gate pd w k with
                | false => rfl
                | true => exact absurd ⟨q1, q2, q3⟩ hn
            rw [this, Bool.and_false, Bool.or_false]
          · rw [decide_eq_false q1, Bool.false_and, Bool.or_false]
        rw [hT1 w (k + 1) hw hk6, if_neg (by omega), e]
        have : cb_v law gate pd w k w (k + 1) = cbW law gate pd w (k + 1) := by unfold cb_v; rw [if_neg (by omega), if_pos rfl]
        rw [this]
      refine pm_go 9999 (by exact okX11_canBe) rfl ?_; (try dsimp only [pm_st1, pm_st2, pm_cat2, pm_la, Option.toList, List.cons_append, List.nil_append])
      rw [e7, nI_add]
      refine pm_zal (by exact okX11_canBe) rfl rfl (vp_in_nI (by omega) (by omega)) ?_
      rw [nI_clamp (by omega), here]
      refine pm_zeq (by exact okX11_canBe) rfl (fun h1 => ?_) (fun h1 => ?_)
      · exact stay (fun q => bI_z.mp h1 q.2.2)
      · have h1 := bI_n.mp h1
        refine pm_go 9999 (by exact okX11_canBe) rfl ?_; (try dsimp only [pm_st1, pm_st2, pm_cat2, pm_la, Option.toList, List.cons_append, List.nil_append])
        refine pm_ige (by exact okX11_canBe) rfl (fun h2 => ?_) (fun h2 => ?_)
        · have := (nI_leI (by omega) (by omega)).mp h2
          exact stay (fun q => by omega)
        · have h3 : k < w := by
            rcases Nat.lt_or_ge k w with q | q
            · exact q
            · exact absurd (nI_le q (by omega)) h2
          obtain ⟨g1, g2, g3⟩ := hget k (by omega)
          refine pm_go 9999 (by exact okX11_canBe) rfl ?_; (try dsimp only [pm_st1, pm_st2, pm_cat2, pm_la, Option.toList, List.cons_append, List.nil_append])
          refine pm_cv (by exact okX11_canBe) (by exact okX11_nextBy) rfl (by exact arX11_nextBy) (t_nextBy (d := 2) (n := w) (s := x) (law := law) (by rw [hF1 19 (by omega)]; exact hL) hlaw (by omega) (by omega) (by omega)) rfl rfl rfl (by dsimp only; omega) rfl (Nat.le_of_ble_eq_true rfl) ⟨Nat.zero_le _, Nat.zero_le _⟩ ?_
          rintro _ _ _ _ ⟨rfl, rfl, rfl, rfl⟩ -
          refine pm_go 9999 (by exact okX11_canBe) rfl ?_; (try dsimp only [pm_st1, pm_st2, pm_cat2, pm_la, Option.toList, List.cons_append, List.nil_append])
          refine pm_ial (by exact okX11_canBe) rfl rfl (vp_in_nI (by omega) (by omega)) ?_
          rw [nI_clamp (by omega), hF1 22 (by omega), g1]
          refine pm_go 9999 (by exact okX11_canBe) rfl ?_; (try dsimp only [pm_st1, pm_st2, pm_cat2, pm_la, Option.toList, List.cons_append, List.nil_append])
          rw [show (97 : Int32) = nI 97 from rfl, pk_sub g2]
          have enx : nO (gd_nx law (gd_rn x w)) = nI (pd.getD k 0 - 97) ↔ cb_N law pd w k = true := by
            unfold cb_N
            rw [decide_eq_true_iff, ← hxx]
            cases hnx : gd_nx law (gd_rn x w) with
            | none => exact ⟨fun q => absurd q.symm (nI_ne_m (by omega)).2, fun q => by cases q⟩
            | some b =>
              have hb := gd_rn_lt x w b (gd_nx_mem hnx)
              rw [nO_some, nI_eq (by omega) (by omega)]
              exact ⟨fun q => by rw [q], fun q => Option.some.inj q⟩
          refine pm_ine (by exact okX11_canBe) rfl (fun h4 => ?_) (fun h4 => ?_)
          · exact stay (fun q => h4 (enx.mpr q.2.1))
          · have h5 := enx.mp h4
            refine pm_go 9999 (by exact okX11_canBe) rfl ?_; (try dsimp only [pm_st1, pm_st2, pm_cat2, pm_la, Option.toList, List.cons_append, List.nil_append])
            rw [e7, nI_add, nI_1]
            refine pm_zas (by exact okX11_canBe) rfl rfl (vp_in_nI (by omega) (by omega)) ?_
            rw [nI_clamp (by omega), show vp_nar .boolean 1 = 1 from rfl]
            refine stepC _ hF1.up (cb_T_of1 (by omega) hT1 (fun i hi => pm_up_of (fun q => hi ⟨by omega, by omega⟩)) (fun hk6 => ?_))
            rw [show 7 * w + (k + 1) = 7 * w + k + 1 by omega, pm_up_at, cbF_succ, decide_eq_true h3, h5, h1]
            rw [bI_1]
            simp
    -- the first part
    have here : mu' 26 (7 * w + k) = bI (cbF law gate pd w k = true) := by
      rw [hT w k hw (by omega), cb_v_here]
    have stay : ¬ (cbF law gate pd w k = true ∧ w < B ∧ w - k < gate) → pm_G cx (mX11_canBe, d, 0, 0, n0, Q) 0 0 105 [some (.ref 19), some (.int (nI w)), some (.int (nI x)), some (.int (nI k))] [] (sh_ i0 i1 ex) mu' nu := by
      intro hn
      refine stepB mu' hF (fun w' j hw' hj => ?_)
      rw [hT w' j hw' hj]
      by_cases q : w' = w + 1 ∧ j = k
      · obtain ⟨rfl, rfl⟩ := q
        rw [if_pos ⟨rfl, rfl⟩, cbW_succ hkw]
        have e1 : cb_v law gate pd w j (w + 1) j = false := by unfold cb_v; rw [if_neg (by omega), if_neg (by omega), if_neg (by omega)]
        have e2 : (decide (w - j < gate) && cbF law gate pd w j) = false := by
          cases q3 : cbF law gate pd w j with
          | false => rw [Bool.and_false]
          | true =>
            by_cases q4 : w - j < gate
            · exact absurd ⟨q3, by omega, q4⟩ hn
            · rw [decide_eq_false q4]; rfl
        rw [e1, e2]
      · rw [if_neg q]
    refine pm_go 9999 (by exact okX11_canBe) rfl ?_; (try dsimp only [pm_st1, pm_st2, pm_cat2, pm_la, Option.toList, List.cons_append, List.nil_append])
    refine pm_igt (by exact okX11_canBe) rfl (fun h1 => ?_) (fun h1 => ?_)
    · exact absurd h1 (nI_nlt (by omega) (by omega))
    · refine pm_go 9999 (by exact okX11_canBe) rfl ?_; (try dsimp only [pm_st1, pm_st2, pm_cat2, pm_la, Option.toList, List.cons_append, List.nil_append])
      rw [e7, nI_add]
      refine pm_zal (by exact okX11_canBe) rfl rfl (vp_in_nI (by omega) (by omega)) ?_
      rw [nI_clamp (by omega), here]
      refine pm_zeq (by exact okX11_canBe) rfl (fun h2 => ?_) (fun h2 => ?_)
      · exact stay (fun q => bI_z.mp h2 q.1)
      · have h2 := bI_n.mp h2
        refine pm_go 9999 (by exact okX11_canBe) rfl ?_; (try dsimp only [pm_st1, pm_st2, pm_cat2, pm_la, Option.toList, List.cons_append, List.nil_append])
        rw [hF 19 (by omega), hB]
        refine pm_ige (by exact okX11_canBe) rfl (fun h3 => ?_) (fun h3 => ?_)
        · have := (nI_leI (by omega) (by omega)).mp h3
          exact stay (fun q => by omega)
        · have h3 : w < B := by
            rcases Nat.lt_or_ge w B with q | q
            · exact q
            · exact absurd (nI_le q (by omega)) h3
          refine pm_go 9999 (by exact okX11_canBe) rfl ?_; (try dsimp only [pm_st1, pm_st2, pm_cat2, pm_la, Option.toList, List.cons_append, List.nil_append])
          rw [pk_sub hkw, hF 19 (by omega), hG]
          refine pm_ige (by exact okX11_canBe) rfl (fun h4 => ?_) (fun h4 => ?_)
          · have := (nI_leI (by omega) (by omega)).mp h4
            exact stay (fun q => by omega)
          · have h4 : w - k < gate := by
              rcases Nat.lt_or_ge (w - k) gate with q | q
              · exact q
              · exact absurd (nI_le q (by omega)) h4
            refine pm_go 9999 (by exact okX11_canBe) rfl ?_; (try dsimp only [pm_st1, pm_st2, pm_cat2, pm_la, Option.toList, List.cons_append, List.nil_append])
            rw [e7, show nI (7 * w) + 7 + nI k = nI (7 * w + 7 + k) by rw [show (7 : Int32) = nI 7 from rfl, nI_add, nI_add]]
            refine pm_zas (by exact okX11_canBe) rfl rfl (vp_in_nI (by omega) (by omega)) ?_
            rw [nI_clamp (by omega), show vp_nar .boolean 1 = 1 from rfl]
            refine stepB _ hF.up (fun w' j hw' hj => ?_)
            by_cases q : w' = w + 1 ∧ j = k
            · obtain ⟨rfl, rfl⟩ := q
              rw [if_pos ⟨rfl, rfl⟩, show 7 * (w + 1) + j = 7 * w + 7 + j by omega, pm_up_at, cbW_succ hkw, decide_eq_true h4, h2, bI_1]
              rfl
            · rw [if_neg q, pm_up_of (by omega)]
              exact hT w' j hw' hj
def sp_canBe (z : mS) : Int32 := if pd_of (gB z.1) 0 0 z.2.1 ≠ none then -5 else bI (cbF (gL z.1) (gG z.1) z.2.1 (gB z.1) (gB z.1) = true)
theorem MA.f26 {z : mS} {mu mu' : pm_I} (h : MA z mu) (hF : f26 mu mu') : MA z mu' := h.same (fun j hj => by rw [hF 19 (by omega)]) (fun k h1 h2 => hF k (by omega)) (hF 38 (by omega)) (hF 39 (by omega))
set_option maxRecDepth 100000 in
set_option maxHeartbeats 1000000 in
theorem M_canBe_out {Q : pm_Po} {law gate B : Nat} {pd : List Nat} (hB : mu 19 0 = nI B) (hB6 : 2 ≤ B ∧ B ≤ 6) (hL : mu 19 3 = nI law) (hlaw : law ≤ 2) (hG : mu 19 4 = nI gate) (hg : gate ≤ 6) (hpl : pd.length = B) (hP : ∀ k b, pd[k]? = some b → mu 22 k = nI b) (hlet : ∀ c ∈ pd, 97 ≤ c ∧ c < 97 + B) (hd : 3 ≤ d) (kk : ∀ mu', f26 mu mu' → mu' 26 (8 * B) = bI (cbF law gate pd B B = true) → pm_G cx (mX11_canBe, d, 0, 0, n0, Q) 0 0 191 [some (.ref 19), none, none, none] [] (sh_ i0 i1 ex) mu' nu) : ∀ (j w : Nat) (mu' : pm_I), w + j = B + 1 → f26 mu mu' → cb_T law gate B pd w 0 mu' → pm_G cx (mX11_canBe, d, 0, 0, n0, Q) 0 0 41 [some (.ref 19), some (.int (nI w)), none, none] [] (sh_ i0 i1 ex) mu' nu := by
  intro j
  induction j with
  | zero =>
    intro w mu' hw hF hT
    have hw : w = B + 1 := by omega
    subst hw
    refine pm_go 9999 (by exact okX11_canBe) rfl ?_; (try dsimp only [pm_st1, pm_st2, pm_cat2, pm_la, Option.toList, List.cons_append, List.nil_append])
    rw [hF 19 (by omega), hB]
    refine pm_igt (by exact okX11_canBe) rfl (fun h1 => ?_) (fun h1 => ?_)
    · refine pm_G.fg [false, true, true, true] ?_; dsimp only [pm_fg]
      refine kk mu' hF ?_
      rw [show 8 * B = 7 * B + B by omega, hT B B (Nat.le_refl _) (by omega)]
      have : cb_v law gate pd (B + 1) 0 B B = cbF law gate pd B B := if_pos (Or.inl (by omega))
      rw [this]
    · exact absurd (nI_lt (by omega) (by omega)) h1
  | succ j ih =>
    intro w mu' hw hF hT
    refine pm_go 9999 (by exact okX11_canBe) rfl ?_; (try dsimp only [pm_st1, pm_st2, pm_cat2, pm_la, Option.toList, List.cons_append, List.nil_append])
    rw [hF 19 (by omega), hB]
    refine pm_igt (by exact okX11_canBe) rfl (fun h1 => ?_) (fun h1 => ?_)
    · exact absurd h1 (nI_nlt (by omega) (by omega))
    · refine pm_go 53 (by exact okX11_canBe) rfl ?_; (try dsimp only [pm_st1, pm_st2, pm_cat2, pm_la, Option.toList, List.cons_append, List.nil_append])
      refine M_canBe_in (mu := mu) hB hB6 hL hlaw hG hg hpl hP hlet (show w ≤ B by omega) hd (fun mu2 hF2 hT2 => ?_) (w + 1) 0 0 mu' (by omega) hF hT (fun _ => rfl) (by omega)
      refine pm_go 41 (by exact okX11_canBe) rfl ?_; (try dsimp only [pm_st1, pm_st2, pm_cat2, pm_la, Option.toList, List.cons_append, List.nil_append])
      rw [nI_1]
      exact ih (w + 1) mu2 (by omega) hF2 (cb_T_next hT2)
set_option maxRecDepth 100000 in
set_option maxHeartbeats 1000000 in
theorem M_canBe {z : mS} (hz : zOK z) (h : MA z mu) (hd : 3 ≤ d) : pm_T cx mX11_canBe d 0 0 [.ref 19] (sh_ i0 i1 ex) mu nu (mQ (.int (sp_canBe z)) z i0 i1 ex mu) := by
  obtain ⟨⟨a1, a2, a3, a4, a5, a6, a7, a8, a9, b1, b2, b3, b4, b5⟩, c1, c2⟩ := id h
  obtain ⟨hg, hp, -⟩ := id hz
  have hB6 := hg.1
  have hp1 := hp.1
  unfold sp_canBe
  refine pm_enterN 3 (by exact okX11_canBe) rfl ?_; dsimp only [pm_la, pm_cat2, List.replicate, List.cons_append, List.nil_append, List.append_nil]
  refine pm_go 9999 (by exact okX11_canBe) rfl ?_; (try dsimp only [pm_st1, pm_st2, pm_cat2, pm_la, Option.toList, List.cons_append, List.nil_append])
  refine pm_cv (by exact okX11_canBe) (by exact okX11_orderFault) rfl (by exact arX11_orderFault) (t_orderFault (d := 2) a1 hB6 a5 b3 hp (by omega)) rfl rfl rfl (by dsimp only; omega) rfl (Nat.le_of_ble_eq_true rfl) ⟨Nat.zero_le _, Nat.zero_le _⟩ ?_
  rintro _ _ _ _ ⟨rfl, rfl, rfl, rfl⟩ -
  refine pm_go 9999 (by exact okX11_canBe) rfl ?_; (try dsimp only [pm_st1, pm_st2, pm_cat2, pm_la, Option.toList, List.cons_append, List.nil_append])
  have eof := nO_neg (o := pd_of (gB z.1) 0 0 z.2.1) (n := 49) (fun b hb => by have := pd_of_lt _ _ _ _ hb; omega) (by omega)
  refine pm_zlt (by exact okX11_canBe) rfl (fun h2 => ?_) (fun h2 => ?_)
  · have h2 := eof.mp h2
    rw [if_neg (fun q => q h2)]
    have hpl := pd_of_len h2 hB6.2
    obtain ⟨-, hlet, -, -⟩ := pd_of_ok _ _ _ h2
    refine pm_go 12 (by exact okX11_canBe) rfl ?_; (try dsimp only [pm_st1, pm_st2, pm_cat2, pm_la, Option.toList, List.cons_append, List.nil_append])
    refine pm_G.cast (L' := [some (.ref 19), some (.int (nI 0)), none, none]) (S' := []) (mu' := mu) (nu' := nu) ?_ rfl rfl rfl rfl
    refine M_canBe_a (law := gL z.1) (gate := gG z.1) (B := gB z.1) (pd := z.2.1) hB6.2 (fun mu1 hF1 hT1 => ?_) 49 0 mu rfl (fun _ _ => rfl) (fun i hi => absurd hi (by omega))
    refine pm_go 41 (by exact okX11_canBe) rfl ?_; (try dsimp only [pm_st1, pm_st2, pm_cat2, pm_la, Option.toList, List.cons_append, List.nil_append])
    refine M_canBe_out (mu := mu) a1 hB6 a2 hg.2.1 a3 hg.2.2.1.2 hpl b3 hlet hd (fun mu2 hF2 hv => ?_) (gB z.1 + 1) 0 mu1 (by omega) hF1 hT1
    refine pm_go 9999 (by exact okX11_canBe) rfl ?_; (try dsimp only [pm_st1, pm_st2, pm_cat2, pm_la, Option.toList, List.cons_append, List.nil_append])
    rw [hF2 19 (by omega), a1, show (8 : Int32) * nI (gB z.1) = nI (8 * gB z.1) from pk_mul 8 _]
    refine pm_zal (by exact okX11_canBe) rfl rfl (vp_in_nI (by omega) (by omega)) ?_
    rw [nI_clamp (by omega), hv]
    have hMA := h.f26 hF2
    have hfm : fM mu mu2 := fun a ha => hF2 a (by omega)
    refine pm_zeq (by exact okX11_canBe) rfl (fun h3 => ?_) (fun h3 => ?_)
    · have h3' := bI_z.mp h3
      rw [h3]
      refine pm_go 9999 (by exact okX11_canBe) rfl ?_; (try dsimp only [pm_st1, pm_st2, pm_cat2, pm_la, Option.toList, List.cons_append, List.nil_append])
      refine pm_ri (by exact okX11_canBe) rfl rfl rfl (Nat.le_refl _) (Nat.le_refl _) (⟨rfl, rfl, hMA, hfm⟩)
    · have h3 := bI_n.mp h3
      rw [bI_1 h3]
      refine pm_go 9999 (by exact okX11_canBe) rfl ?_; (try dsimp only [pm_st1, pm_st2, pm_cat2, pm_la, Option.toList, List.cons_append, List.nil_append])
      refine pm_ri (by exact okX11_canBe) rfl rfl rfl (Nat.le_refl _) (Nat.le_refl _) (⟨rfl, rfl, hMA, hfm⟩)
  · have h2 : pd_of (gB z.1) 0 0 z.2.1 ≠ none := fun q => h2 (eof.mpr q)
    rw [if_pos h2]
    refine pm_go 9999 (by exact okX11_canBe) rfl ?_; (try dsimp only [pm_st1, pm_st2, pm_cat2, pm_la, Option.toList, List.cons_append, List.nil_append])
    refine pm_ri (by exact okX11_canBe) rfl rfl rfl (Nat.le_refl _) (Nat.le_refl _) (⟨rfl, rfl, h, fM.rf⟩)
end

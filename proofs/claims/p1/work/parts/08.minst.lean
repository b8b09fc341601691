/-! ===== the reference's functions over its fields ===== -/
/-- rain: all BEDS below n that s hasn't, the last first -/
def gd_rn (s : Nat) : Nat → List Nat
  | 0 => []
  | n + 1 => if s.testBit n = true then gd_rn s n else n :: gd_rn s n
theorem gd_rn_lt (s : Nat) : ∀ (n : Nat), ∀ b ∈ gd_rn s n, b < n := by
  intro n
  induction n with
  | zero => intro b h; simp [gd_rn] at h
  | succ n ih =>
    intro b h
    unfold gd_rn at h
    split at h
    · exact Nat.lt_succ_of_lt (ih b h)
    · rcases List.mem_cons.mp h with rfl | h
      · exact Nat.lt_succ_self _
      · exact Nat.lt_succ_of_lt (ih b h)
theorem gd_rn_len (s : Nat) : ∀ (n : Nat), (gd_rn s n).length ≤ n := by
  intro n
  induction n with
  | zero => simp [gd_rn]
  | succ n ih =>
    unfold gd_rn
    split
    · omega
    · simp only [List.length_cons]; omega
/-- the place from the last on of the one that blooms next -/
def gd_bh (law n : Nat) : Nat := if law = 0 then 0 else if law = 1 then n - 1 else if n < 3 then n - 1 else 2
def gd_nx (law : Nat) (r : List Nat) : Option Nat := r[gd_bh law r.length]?
theorem gd_bh_lt {law n : Nat} (h : 0 < n) : gd_bh law n < n := by
  unfold gd_bh
  split
  · exact h
  · split
    · omega
    · split <;> omega
/-- what the reference holds for none -/
def nO (o : Option Nat) : Int32 := match o with
  | some b => nI b
  | none => -6
/-- the least reason for which a BED can not be watered; 0: it can -/
def gd_wy (gate : Nat) (pa : Nat → Option Nat) (r : List Nat) (s b : Nat) : Nat :=
  if s.testBit b = true then 1 else if b ∉ r ∧ gate ≤ r.length then 2 else match pa b with
    | some o => if o ∉ r ∧ ¬ s.testBit o = true then 3 else 0
    | none => 0
theorem gd_wy1 {gate : Nat} {pa : Nat → Option Nat} {r : List Nat} {s b : Nat} (h : s.testBit b = true) : gd_wy gate pa r s b = 1 := if_pos h
theorem gd_wy2 {gate : Nat} {pa : Nat → Option Nat} {r : List Nat} {s b : Nat} (h : ¬ s.testBit b = true) (h2 : b ∉ r ∧ gate ≤ r.length) : gd_wy gate pa r s b = 2 := by
  unfold gd_wy; rw [if_neg h, if_pos h2]
theorem gd_wyn {gate : Nat} {pa : Nat → Option Nat} {r : List Nat} {s b : Nat} (h : ¬ s.testBit b = true) (h2 : ¬ (b ∉ r ∧ gate ≤ r.length)) (h3 : pa b = none) : gd_wy gate pa r s b = 0 := by
  unfold gd_wy; rw [if_neg h, if_neg h2, h3]
theorem gd_wy0 {gate : Nat} {pa : Nat → Option Nat} {r : List Nat} {s b o : Nat} (h : ¬ s.testBit b = true) (h2 : ¬ (b ∉ r ∧ gate ≤ r.length)) (h3 : pa b = some o) (h4 : o ∈ r ∨ s.testBit o = true) : gd_wy gate pa r s b = 0 := by
  unfold gd_wy; rw [if_neg h, if_neg h2, h3]
  exact if_neg (fun q => h4.elim q.1 q.2)
theorem gd_wy3 {gate : Nat} {pa : Nat → Option Nat} {r : List Nat} {s b o : Nat} (h : ¬ s.testBit b = true) (h2 : ¬ (b ∉ r ∧ gate ≤ r.length)) (h3 : pa b = some o) (h4 : o ∉ r) (h5 : ¬ s.testBit o = true) : gd_wy gate pa r s b = 3 := by
  unfold gd_wy; rw [if_neg h, if_neg h2, h3]
  exact if_pos ⟨h4, h5⟩
/-- there is such a BED -/
abbrev isB (n : Nat) (b : Int32) : Prop := 0 ≤ b ∧ b < nI n
theorem isB_of {n : Nat} {b : Int32} (hn : n ≤ 6) (h : isB n b) : ∃ k, k < n ∧ b = nI k := by
  obtain ⟨k, hk, rfl⟩ := nI_of (x := b) (Int32.not_lt.mpr h.1)
  exact ⟨k, (nI_ltI hk (by omega)).mp h.2, rfl⟩
theorem isB_in {n k : Nat} (hn : n ≤ 6) (h : k < n) : isB n (nI k) := ⟨nI_pos' (by omega), nI_lt h (by omega)⟩
section
variable {cx : pm_CX} {d n0 : Nat} {i0 i1 : Option Nat} {ex : List pm_C} {mu : pm_I} {nu : pm_J}
set_option maxRecDepth 100000 in
set_option maxHeartbeats 1000000 in
theorem t_isBed {n : Nat} (b : Int32) (hB : mu 19 0 = nI n) (hn : 0 < n ∧ n ≤ 6) (hd : 1 ≤ d) : pm_T cx mX11_isBed d 0 0 [.ref 19, .int b] (sh_ i0 i1 ex) mu nu (pm_ret (some (.int (bI (isB n b)))) (sh_ i0 i1 ex) mu nu) := by
  have e1 : (0 ≤ b ∧ b ≤ nI (n - 1)) ↔ isB n b := by
    constructor
    · rintro ⟨h1, h2⟩
      obtain ⟨k, hk, rfl⟩ := nI_of (x := b) (Int32.not_lt.mpr h1)
      exact ⟨h1, nI_lt (by have := (nI_leI (by omega) (by omega)).mp h2; omega) (by omega)⟩
    · rintro ⟨h1, h2⟩
      obtain ⟨k, hk, rfl⟩ := nI_of (x := b) (Int32.not_lt.mpr h1)
      exact ⟨h1, nI_le (by have := (nI_ltI (by omega) (by omega)).mp h2; omega) (by omega)⟩
  refine pm_enterN 0 (by exact okX11_isBed) rfl ?_; dsimp only [pm_la, pm_cat2, List.replicate, List.cons_append, List.nil_append, List.append_nil]
  refine pm_go 9999 (by exact okX11_isBed) rfl ?_; (try dsimp only [pm_st1, pm_st2, pm_cat2, pm_la, Option.toList, List.cons_append, List.nil_append])
  rw [hB, nI_m1 hn.1]
  refine pm_cs (by exact okX11_isBed) (by exact okX11_in) rfl (by exact arX11_in) (t_in (d := 0) b 0 (nI (n - 1))) rfl (by dsimp only; omega) rfl (Nat.le_of_ble_eq_true rfl) ⟨Nat.zero_le _, Nat.zero_le _⟩ ?_
  rintro _ _ _ _ ⟨rfl, rfl, rfl, rfl⟩ -
  refine pm_go 9999 (by exact okX11_isBed) rfl ?_; (try dsimp only [pm_st1, pm_st2, pm_cat2, pm_la, Option.toList, List.cons_append, List.nil_append])
  rw [bI_c e1]
  exact pm_ri (by exact okX11_isBed) rfl rfl bI_w (Nat.le_refl _) (Nat.le_refl _) ⟨rfl, rfl, rfl, rfl⟩
set_option maxRecDepth 100000 in
set_option maxHeartbeats 1000000 in
theorem t_rained_l {Q : pm_Po} {n s : Nat} (hB : mu 19 0 = nI n) (hn : n ≤ 6) (hs : s < 2 ^ 31) (hd : 1 ≤ d) : ∀ (j k : Nat), k + j = n → Q (some (.int (nI (md_r7 (gd_rn s n))))) (sh_ i0 i1 ex) mu nu → pm_G cx (mX11_rained, d, 0, 0, n0, Q) 0 0 4 [some (.ref 19), some (.int (nI s)), some (.int (nI (md_r7 (gd_rn s k)))), some (.int (nI k))] [] (sh_ i0 i1 ex) mu nu := by
  intro j
  induction j with
  | zero =>
    intro k hk hq
    have hk : k = n := by omega
    subst hk
    refine pm_go 9999 (by exact okX11_rained) rfl ?_; (try dsimp only [pm_st1, pm_st2, pm_cat2, pm_la, Option.toList, List.cons_append, List.nil_append])
    rw [hB]
    refine pm_ige (by exact okX11_rained) rfl (fun h1 => ?_) (fun h1 => ?_)
    · refine pm_go 9999 (by exact okX11_rained) rfl ?_; (try dsimp only [pm_st1, pm_st2, pm_cat2, pm_la, Option.toList, List.cons_append, List.nil_append])
      refine pm_ri (by exact okX11_rained) rfl rfl rfl (Nat.le_refl _) (Nat.le_refl _) (hq)
    · exact absurd (nI_le (Nat.le_refl _) (by omega)) h1
  | succ j ih =>
    intro k hk hq
    refine pm_go 9999 (by exact okX11_rained) rfl ?_; (try dsimp only [pm_st1, pm_st2, pm_cat2, pm_la, Option.toList, List.cons_append, List.nil_append])
    rw [hB]
    refine pm_ige (by exact okX11_rained) rfl (fun h1 => ?_) (fun h1 => ?_)
    · exact absurd h1 (nI_ge (by omega) (by omega))
    · refine pm_go 9999 (by exact okX11_rained) rfl ?_; (try dsimp only [pm_st1, pm_st2, pm_cat2, pm_la, Option.toList, List.cons_append, List.nil_append])
      refine pm_cs (by exact okX11_rained) (by exact okX11_has) rfl (by exact arX11_has) (t_has (d := 0) hs (by omega)) rfl (by dsimp only; omega) rfl (Nat.le_of_ble_eq_true rfl) ⟨Nat.zero_le _, Nat.zero_le _⟩ ?_
      rintro _ _ _ _ ⟨rfl, rfl, rfl, rfl⟩ -
      refine pm_go 9999 (by exact okX11_rained) rfl ?_; (try dsimp only [pm_st1, pm_st2, pm_cat2, pm_la, Option.toList, List.cons_append, List.nil_append])
      refine pm_zeq (by exact okX11_rained) rfl (fun h2 => ?_) (fun h2 => ?_)
      · have h3 := bI_z.mp h2
        refine pm_go 4 (by exact okX11_rained) rfl ?_; (try dsimp only [pm_st1, pm_st2, pm_cat2, pm_la, Option.toList, List.cons_append, List.nil_append])
        rw [show (7 : Int32) = nI 7 from rfl, pk_mul, nI_add, nI_1, nI_1]
        have e : gd_rn s (k + 1) = k :: gd_rn s k := by simp only [gd_rn]; rw [if_neg h3]
        have := ih (k + 1) (by omega) hq
        rw [e] at this
        exact this
      · have h3 := bI_n.mp h2
        refine pm_go 4 (by exact okX11_rained) rfl ?_; (try dsimp only [pm_st1, pm_st2, pm_cat2, pm_la, Option.toList, List.cons_append, List.nil_append])
        rw [nI_1]
        have e : gd_rn s (k + 1) = gd_rn s k := by simp only [gd_rn]; rw [if_pos h3]
        have := ih (k + 1) (by omega) hq
        rw [e] at this
        exact this
set_option maxRecDepth 100000 in
set_option maxHeartbeats 1000000 in
theorem t_rained {n s : Nat} (hB : mu 19 0 = nI n) (hn : n ≤ 6) (hs : s < 2 ^ 31) (hd : 1 ≤ d) : pm_T cx mX11_rained d 0 0 [.ref 19, .int (nI s)] (sh_ i0 i1 ex) mu nu (pm_ret (some (.int (nI (md_r7 (gd_rn s n))))) (sh_ i0 i1 ex) mu nu) := by
  refine pm_enterN 2 (by exact okX11_rained) rfl ?_; dsimp only [pm_la, pm_cat2, List.replicate, List.cons_append, List.nil_append, List.append_nil]
  refine pm_go 4 (by exact okX11_rained) rfl ?_; (try dsimp only [pm_st1, pm_st2, pm_cat2, pm_la, Option.toList, List.cons_append, List.nil_append])
  exact t_rained_l hB hn hs hd n 0 (by omega) ⟨rfl, rfl, rfl, rfl⟩
set_option maxRecDepth 100000 in
set_option maxHeartbeats 1000000 in
theorem t_nextOf_l {Q : pm_Po} {x0 x2 : Int32} {bh : Nat} (hbh : bh < 2 ^ 31) : ∀ (r : List Nat) (k : Nat), md_ok r → r.length ≤ 6 → k ≤ bh → (∀ b, r[bh - k]? = some b → Q (some (.int (nI b))) (sh_ i0 i1 ex) mu nu) → bh - k < r.length → pm_G cx (mX11_nextOf, d, 0, 0, n0, Q) 0 0 56 [some (.ref 19), some (.int x0), some (.int x2), some (.int (nI bh)), some (.int (nI (md_r7 r))), some (.int (nI k))] [] (sh_ i0 i1 ex) mu nu := by
  intro r
  induction r with
  | nil => intro k h hl hk hq hlt; simp at hlt
  | cons b t ih =>
    intro k h hl hk hq hlt
    refine pm_go 9999 (by exact okX11_nextOf) rfl ?_; (try dsimp only [pm_st1, pm_st2, pm_cat2, pm_la, Option.toList, List.cons_append, List.nil_append])
    refine pm_ige (by exact okX11_nextOf) rfl (fun h1 => ?_) (fun h1 => ?_)
    · have h2 : k = bh := by have := (nI_leI hbh (by omega)).mp h1; omega
      subst h2
      refine pm_go 9999 (by exact okX11_nextOf) rfl ?_; (try dsimp only [pm_st1, pm_st2, pm_cat2, pm_la, Option.toList, List.cons_append, List.nil_append])
      refine pm_rem (by exact okX11_nextOf) rfl (by decide) ?_
      refine pm_go 9999 (by exact okX11_nextOf) rfl ?_; (try dsimp only [pm_st1, pm_st2, pm_cat2, pm_la, Option.toList, List.cons_append, List.nil_append])
      rw [md_rem h hl, nI_pred]
      refine pm_ri (by exact okX11_nextOf) rfl rfl rfl (Nat.le_refl _) (Nat.le_refl _) (hq b (by simp))
    · have h2 : k < bh := by
        rcases Nat.lt_or_ge k bh with q | q
        · exact q
        · exact absurd (nI_le q (by omega)) h1
      refine pm_go 9999 (by exact okX11_nextOf) rfl ?_; (try dsimp only [pm_st1, pm_st2, pm_cat2, pm_la, Option.toList, List.cons_append, List.nil_append])
      refine pm_div (by exact okX11_nextOf) rfl (by decide) ?_
      refine pm_go 56 (by exact okX11_nextOf) rfl ?_; (try dsimp only [pm_st1, pm_st2, pm_cat2, pm_la, Option.toList, List.cons_append, List.nil_append])
      rw [md_div h hl, nI_1]
      simp only [List.length_cons] at hl hlt
      refine ih (k + 1) (md_ok_t h) (by omega) h2 (fun c hc => hq c ?_) (by omega)
      rw [show bh - k = (bh - (k + 1)) + 1 by omega, List.getElem?_cons_succ]
      exact hc
set_option maxRecDepth 100000 in
set_option maxHeartbeats 1000000 in
theorem t_nextOf {r : List Nat} {law : Nat} (hL : mu 19 3 = nI law) (hlaw : law ≤ 2) (h : md_ok r) (hl : r.length ≤ 6) (hd : 1 ≤ d) : pm_T cx mX11_nextOf d 0 0 [.ref 19, .int (nI (md_r7 r))] (sh_ i0 i1 ex) mu nu (pm_ret (some (.int (nO (gd_nx law r)))) (sh_ i0 i1 ex) mu nu) := by
  refine pm_enterN 4 (by exact okX11_nextOf) rfl ?_; dsimp only [pm_la, pm_cat2, List.replicate, List.cons_append, List.nil_append, List.append_nil]
  refine pm_go 9999 (by exact okX11_nextOf) rfl ?_; (try dsimp only [pm_st1, pm_st2, pm_cat2, pm_la, Option.toList, List.cons_append, List.nil_append])
  refine pm_cs (by exact okX11_nextOf) (by exact okX11_sizeOf) rfl (by exact arX11_sizeOf) (t_sizeOf (d := 0) h hl) rfl (by dsimp only; omega) rfl (Nat.le_of_ble_eq_true rfl) ⟨Nat.zero_le _, Nat.zero_le _⟩ ?_
  rintro _ _ _ _ ⟨rfl, rfl, rfl, rfl⟩ -
  refine pm_go 9999 (by exact okX11_nextOf) rfl ?_; (try dsimp only [pm_st1, pm_st2, pm_cat2, pm_la, Option.toList, List.cons_append, List.nil_append])
  refine pm_zne (by exact okX11_nextOf) rfl (fun h1 => ?_) (fun h1 => ?_)
  · have hpos : 0 < r.length := by
      rcases Nat.eq_zero_or_pos r.length with q | q
      · exact absurd (by rw [q]; rfl) h1
      · exact q
    have key : ∀ bh, bh = gd_bh law r.length → pm_G cx (mX11_nextOf, d, 0, 0, (sh_ i0 i1 ex).length, pm_ret (some (.int (nO (gd_nx law r)))) (sh_ i0 i1 ex) mu nu) 0 0 49 [some (.ref 19), some (.int (nI (md_r7 r))), some (.int (nI r.length)), none, none, none] [.int (nI bh)] (sh_ i0 i1 ex) mu nu := by
      intro bh hbh
      have hlt := gd_bh_lt (law := law) hpos
      refine pm_go 56 (by exact okX11_nextOf) rfl ?_; (try dsimp only [pm_st1, pm_st2, pm_cat2, pm_la, Option.toList, List.cons_append, List.nil_append])
      refine t_nextOf_l (by omega) r 0 h hl (by omega) (fun b hb => ⟨?_, rfl, rfl, rfl⟩) (by omega)
      have : gd_nx law r = some b := by unfold gd_nx; rw [← hbh]; exact hb
      rw [this]
      rfl
    refine pm_go 9999 (by exact okX11_nextOf) rfl ?_; (try dsimp only [pm_st1, pm_st2, pm_cat2, pm_la, Option.toList, List.cons_append, List.nil_append])
    rw [hL]
    refine pm_zne (by exact okX11_nextOf) rfl (fun h2 => ?_) (fun h2 => ?_)
    · have hl0 : law ≠ 0 := fun q => h2 (by rw [q]; rfl)
      refine pm_go 9999 (by exact okX11_nextOf) rfl ?_; (try dsimp only [pm_st1, pm_st2, pm_cat2, pm_la, Option.toList, List.cons_append, List.nil_append])
      rw [hL]
      refine pm_ine (by exact okX11_nextOf) rfl (fun h3 => ?_) (fun h3 => ?_)
      · have hl1 : law ≠ 1 := fun q => h3 (by rw [q]; rfl)
        refine pm_go 9999 (by exact okX11_nextOf) rfl ?_; (try dsimp only [pm_st1, pm_st2, pm_cat2, pm_la, Option.toList, List.cons_append, List.nil_append])
        refine pm_ige (by exact okX11_nextOf) rfl (fun h4 => ?_) (fun h4 => ?_)
        · have h5 : ¬ r.length < 3 := by
            have := (nI_leI (a := 3) (b := r.length) (by omega) (by omega)).mp h4
            omega
          refine pm_go 49 (by exact okX11_nextOf) rfl ?_; (try dsimp only [pm_st1, pm_st2, pm_cat2, pm_la, Option.toList, List.cons_append, List.nil_append])
          exact key 2 (by unfold gd_bh; rw [if_neg hl0, if_neg hl1, if_neg h5])
        · have h5 : r.length < 3 := by
            rcases Nat.lt_or_ge r.length 3 with q | q
            · exact q
            · exact absurd (nI_le (a := 3) q (by omega)) h4
          refine pm_go 49 (by exact okX11_nextOf) rfl ?_; (try dsimp only [pm_st1, pm_st2, pm_cat2, pm_la, Option.toList, List.cons_append, List.nil_append])
          rw [nI_m1 hpos]
          exact key _ (by unfold gd_bh; rw [if_neg hl0, if_neg hl1, if_pos h5])
      · have hl1 : law = 1 := (nI_eq (b := 1) (by omega) (by omega)).mp h3
        refine pm_go 49 (by exact okX11_nextOf) rfl ?_; (try dsimp only [pm_st1, pm_st2, pm_cat2, pm_la, Option.toList, List.cons_append, List.nil_append])
        rw [nI_m1 hpos]
        exact key _ (by unfold gd_bh; rw [if_neg hl0, if_pos hl1])
    · have hl0 : law = 0 := (nI_eq (b := 0) (by omega) (by omega)).mp h2
      refine pm_go 49 (by exact okX11_nextOf) rfl ?_; (try dsimp only [pm_st1, pm_st2, pm_cat2, pm_la, Option.toList, List.cons_append, List.nil_append])
      exact key 0 (by unfold gd_bh; rw [if_pos hl0])
  · have h2 : r.length = 0 := (nI_eq (b := 0) (by omega) (by omega)).mp h1
    have h3 : r = [] := List.length_eq_zero_iff.mp h2
    subst h3
    refine pm_go 9999 (by exact okX11_nextOf) rfl ?_; (try dsimp only [pm_st1, pm_st2, pm_cat2, pm_la, Option.toList, List.cons_append, List.nil_append])
    refine pm_ri (by exact okX11_nextOf) rfl rfl rfl (Nat.le_refl _) (Nat.le_refl _) (⟨rfl, rfl, rfl, rfl⟩)
set_option maxRecDepth 100000 in
set_option maxHeartbeats 1000000 in
theorem t_whyNot {r : List Nat} {s b gate : Nat} {pa : Nat → Option Nat} (hG : mu 19 4 = nI gate) (hg : gate ≤ 6) (hP : ∀ k, k < 6 → mu 21 k = nO (pa k)) (hpa : ∀ k o, k < 6 → pa k = some o → o < 6) (hs : s < 2 ^ 31) (hb : b < 6) (h : md_ok r) (hl : r.length ≤ 6) (hd : 1 ≤ d) : pm_T cx mX11_whyNot d 0 0 [.ref 19, .int (nI (md_r7 r)), .int (nI s), .int (nI b)] (sh_ i0 i1 ex) mu nu (pm_ret (some (.int (nI (gd_wy gate pa r s b)))) (sh_ i0 i1 ex) mu nu) := by
  refine pm_enterN 1 (by exact okX11_whyNot) rfl ?_; dsimp only [pm_la, pm_cat2, List.replicate, List.cons_append, List.nil_append, List.append_nil]
  refine pm_go 9999 (by exact okX11_whyNot) rfl ?_; (try dsimp only [pm_st1, pm_st2, pm_cat2, pm_la, Option.toList, List.cons_append, List.nil_append])
  refine pm_cs (by exact okX11_whyNot) (by exact okX11_has) rfl (by exact arX11_has) (t_has (d := 0) hs (by omega)) rfl (by dsimp only; omega) rfl (Nat.le_of_ble_eq_true rfl) ⟨Nat.zero_le _, Nat.zero_le _⟩ ?_
  rintro _ _ _ _ ⟨rfl, rfl, rfl, rfl⟩ -
  refine pm_go 9999 (by exact okX11_whyNot) rfl ?_; (try dsimp only [pm_st1, pm_st2, pm_cat2, pm_la, Option.toList, List.cons_append, List.nil_append])
  refine pm_zeq (by exact okX11_whyNot) rfl (fun h1 => ?_) (fun h1 => ?_)
  · have h1 := bI_z.mp h1
    have key : ¬ (b ∉ r ∧ gate ≤ r.length) → pm_G cx (mX11_whyNot, d, 0, 0, (sh_ i0 i1 ex).length, pm_ret (some (.int (nI (gd_wy gate pa r s b)))) (sh_ i0 i1 ex) mu nu) 0 0 31 [some (.ref 19), some (.int (nI (md_r7 r))), some (.int (nI s)), some (.int (nI b)), none] [] (sh_ i0 i1 ex) mu nu := by
      intro h2
      refine pm_go 9999 (by exact okX11_whyNot) rfl ?_; (try dsimp only [pm_st1, pm_st2, pm_cat2, pm_la, Option.toList, List.cons_append, List.nil_append])
      refine pm_ial (by exact okX11_whyNot) rfl rfl (vp_in_nI hb (by omega)) ?_
      rw [nI_clamp (by omega), hP b hb]
      refine pm_go 9999 (by exact okX11_whyNot) rfl ?_; (try dsimp only [pm_st1, pm_st2, pm_cat2, pm_la, Option.toList, List.cons_append, List.nil_append])
      cases hpb : pa b with
      | none =>
        refine pm_zlt (by exact okX11_whyNot) rfl (fun h3 => ?_) (fun h3 => ?_)
        · refine pm_go 9999 (by exact okX11_whyNot) rfl ?_; (try dsimp only [pm_st1, pm_st2, pm_cat2, pm_la, Option.toList, List.cons_append, List.nil_append])
          refine pm_ri (by exact okX11_whyNot) rfl rfl rfl (Nat.le_refl _) (Nat.le_refl _) (⟨by rw [gd_wyn h1 h2 hpb]; rfl, rfl, rfl, rfl⟩)
        · exact absurd (by decide) h3
      | some o =>
        have ho := hpa b o hb hpb
        show pm_G _ _ _ _ _ [_, _, _, _, some (.int (nI o))] [.int (nI o)] _ _ _
        refine pm_zlt (by exact okX11_whyNot) rfl (fun h3 => ?_) (fun h3 => ?_)
        · exact absurd h3 (nI_pos (by omega))
        · refine pm_go 9999 (by exact okX11_whyNot) rfl ?_; (try dsimp only [pm_st1, pm_st2, pm_cat2, pm_la, Option.toList, List.cons_append, List.nil_append])
          refine pm_cs (by exact okX11_whyNot) (by exact okX11_isIn) rfl (by exact arX11_isIn) (t_isIn (d := 0) h hl ho) rfl (by dsimp only; omega) rfl (Nat.le_of_ble_eq_true rfl) ⟨Nat.zero_le _, Nat.zero_le _⟩ ?_
          rintro _ _ _ _ ⟨rfl, rfl, rfl, rfl⟩ -
          refine pm_go 9999 (by exact okX11_whyNot) rfl ?_; (try dsimp only [pm_st1, pm_st2, pm_cat2, pm_la, Option.toList, List.cons_append, List.nil_append])
          refine pm_zne (by exact okX11_whyNot) rfl (fun h4 => ?_) (fun h4 => ?_)
          · have h4 := bI_n.mp h4
            refine pm_go 9999 (by exact okX11_whyNot) rfl ?_; (try dsimp only [pm_st1, pm_st2, pm_cat2, pm_la, Option.toList, List.cons_append, List.nil_append])
            refine pm_ri (by exact okX11_whyNot) rfl rfl rfl (Nat.le_refl _) (Nat.le_refl _) (⟨by rw [gd_wy0 h1 h2 hpb (Or.inl h4)]; rfl, rfl, rfl, rfl⟩)
          · have h4 := bI_z.mp h4
            refine pm_go 9999 (by exact okX11_whyNot) rfl ?_; (try dsimp only [pm_st1, pm_st2, pm_cat2, pm_la, Option.toList, List.cons_append, List.nil_append])
            refine pm_cs (by exact okX11_whyNot) (by exact okX11_has) rfl (by exact arX11_has) (t_has (d := 0) hs (by omega)) rfl (by dsimp only; omega) rfl (Nat.le_of_ble_eq_true rfl) ⟨Nat.zero_le _, Nat.zero_le _⟩ ?_
            rintro _ _ _ _ ⟨rfl, rfl, rfl, rfl⟩ -
            refine pm_go 9999 (by exact okX11_whyNot) rfl ?_; (try dsimp only [pm_st1, pm_st2, pm_cat2, pm_la, Option.toList, List.cons_append, List.nil_append])
            refine pm_zne (by exact okX11_whyNot) rfl (fun h5 => ?_) (fun h5 => ?_)
            · have h5 := bI_n.mp h5
              refine pm_go 9999 (by exact okX11_whyNot) rfl ?_; (try dsimp only [pm_st1, pm_st2, pm_cat2, pm_la, Option.toList, List.cons_append, List.nil_append])
              refine pm_ri (by exact okX11_whyNot) rfl rfl rfl (Nat.le_refl _) (Nat.le_refl _) (⟨by rw [gd_wy0 h1 h2 hpb (Or.inr h5)]; rfl, rfl, rfl, rfl⟩)
            · have h5 := bI_z.mp h5
              refine pm_go 9999 (by exact okX11_whyNot) rfl ?_; (try dsimp only [pm_st1, pm_st2, pm_cat2, pm_la, Option.toList, List.cons_append, List.nil_append])
              refine pm_ri (by exact okX11_whyNot) rfl rfl rfl (Nat.le_refl _) (Nat.le_refl _) (⟨by rw [gd_wy3 h1 h2 hpb h4 h5]; rfl, rfl, rfl, rfl⟩)
    refine pm_go 9999 (by exact okX11_whyNot) rfl ?_; (try dsimp only [pm_st1, pm_st2, pm_cat2, pm_la, Option.toList, List.cons_append, List.nil_append])
    refine pm_cs (by exact okX11_whyNot) (by exact okX11_isIn) rfl (by exact arX11_isIn) (t_isIn (d := 0) h hl hb) rfl (by dsimp only; omega) rfl (Nat.le_of_ble_eq_true rfl) ⟨Nat.zero_le _, Nat.zero_le _⟩ ?_
    rintro _ _ _ _ ⟨rfl, rfl, rfl, rfl⟩ -
    refine pm_go 31 (by exact okX11_whyNot) rfl ?_; (try dsimp only [pm_st1, pm_st2, pm_cat2, pm_la, Option.toList, List.cons_append, List.nil_append])
    refine pm_zne (by exact okX11_whyNot) rfl (fun h2 => ?_) (fun h2 => ?_)
    · have h2 := bI_n.mp h2
      exact key (fun q => q.1 h2)
    · have h2 := bI_z.mp h2
      refine pm_go 9999 (by exact okX11_whyNot) rfl ?_; (try dsimp only [pm_st1, pm_st2, pm_cat2, pm_la, Option.toList, List.cons_append, List.nil_append])
      refine pm_cs (by exact okX11_whyNot) (by exact okX11_sizeOf) rfl (by exact arX11_sizeOf) (t_sizeOf (d := 0) h hl) rfl (by dsimp only; omega) rfl (Nat.le_of_ble_eq_true rfl) ⟨Nat.zero_le _, Nat.zero_le _⟩ ?_
      rintro _ _ _ _ ⟨rfl, rfl, rfl, rfl⟩ -
      refine pm_go 9999 (by exact okX11_whyNot) rfl ?_; (try dsimp only [pm_st1, pm_st2, pm_cat2, pm_la, Option.toList, List.cons_append, List.nil_append])
      rw [hG]
      refine pm_ilt (by exact okX11_whyNot) rfl (fun h3 => ?_) (fun h3 => ?_)
      · exact key (fun q => absurd h3 (nI_nlt q.2 (by omega)))
      · have h4 : gate ≤ r.length := by
          rcases Nat.lt_or_ge r.length gate with q | q
          · exact absurd (nI_lt q (by omega)) h3
          · exact q
        refine pm_go 9999 (by exact okX11_whyNot) rfl ?_; (try dsimp only [pm_st1, pm_st2, pm_cat2, pm_la, Option.toList, List.cons_append, List.nil_append])
        refine pm_ri (by exact okX11_whyNot) rfl rfl rfl (Nat.le_refl _) (Nat.le_refl _) (⟨by rw [gd_wy2 h1 ⟨h2, h4⟩]; rfl, rfl, rfl, rfl⟩)
  · have h1 := bI_n.mp h1
    refine pm_go 9999 (by exact okX11_whyNot) rfl ?_; (try dsimp only [pm_st1, pm_st2, pm_cat2, pm_la, Option.toList, List.cons_append, List.nil_append])
    refine pm_ri (by exact okX11_whyNot) rfl rfl rfl (Nat.le_refl _) (Nat.le_refl _) (⟨by rw [gd_wy1 h1]; rfl, rfl, rfl, rfl⟩)
end

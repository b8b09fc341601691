/-! ===== the class's pad: its reads ===== -/
def pd_n (c : Nat) (pd : List Nat) : Nat := (pd.filter (fun x => x == c)).length
theorem pd_n_op (pd : List Nat) : pd_n 63 pd = pd_op pd := rfl
theorem pd_n_app (c : Nat) (pd : List Nat) (x : Nat) : pd_n c (pd ++ [x]) = pd_n c pd + (if x = c then 1 else 0) := by
  unfold pd_n
  rw [List.filter_append, List.length_append]
  by_cases h : x = c
  · simp [h]
  · simp [h]
theorem pd_n_le (c : Nat) (pd : List Nat) : pd_n c pd ≤ pd.length := List.length_filter_le _ _
def pd_c4 (c : Nat) : Option Nat := if c = 114 then some 0 else if c = 119 then some 1 else if c = 121 then some 2 else if c = 112 then some 3 else none
theorem pd_c4_co {c : Nat} : pd_co c = if c = 63 then some 4 else pd_c4 c := by
  unfold pd_co pd_c4
  by_cases h : c = 63
  · subst h; rfl
  · rw [if_neg h, if_neg h]
theorem pd_c4_lt {c x : Nat} (h : pd_c4 c = some x) : x ≤ 3 := by
  unfold pd_c4 at h
  repeat' split at h
  all_goals first | (cases h; omega) | cases h
theorem nO_ne6 {o : Option Nat} (h : ∀ b, o = some b → b < 100) : nO o = -6 ↔ o = none := by
  cases o with
  | none => exact ⟨fun _ => rfl, fun _ => rfl⟩
  | some b =>
    constructor
    · intro q
      exact absurd q (nI_ne_m (Nat.lt_trans (h b rfl) (by omega))).2
    · intro q; cases q
theorem st_bit1 {n b : Nat} (hn : n < 2 ^ 31) (hb : b < 31) : pm_ushr (nI n) (nI b) &&& 1 = bI (n.testBit b = true) := by
  have := st_bit (n := n) (a := 0) (b := b) hn (by omega)
  rw [nI_add, Nat.zero_add] at this
  exact this
section
variable {cx : pm_CX} {d n0 : Nat} {i0 i1 : Option Nat} {ex : List pm_C} {mu : pm_I} {nu : pm_J}
set_option maxRecDepth 100000 in
set_option maxHeartbeats 1000000 in
theorem C_colourOf {sg : List pm_C} {c : Nat} (hc : 33 ≤ c ∧ c ≤ 126) : pm_T cx mX7_colourOf d 0 0 [.int (nI c)] sg mu nu (pm_ret (some (.int (nO (pd_c4 c)))) sg mu nu) := by
  refine pm_enterN 0 (by exact okX7_colourOf) rfl ?_; dsimp only [pm_la, pm_cat2, List.replicate, List.cons_append, List.nil_append, List.append_nil]
  refine pm_go 9999 (by exact okX7_colourOf) rfl ?_; (try dsimp only [pm_st1, pm_st2, pm_cat2, pm_la, Option.toList, List.cons_append, List.nil_append])
  by_cases h : 112 ≤ c ∧ c ≤ 121
  · rcases (show c = 112 ∨ c = 113 ∨ c = 114 ∨ c = 115 ∨ c = 116 ∨ c = 117 ∨ c = 118 ∨ c = 119 ∨ c = 120 ∨ c = 121 by omega) with rfl | rfl | rfl | rfl | rfl | rfl | rfl | rfl | rfl | rfl
    · refine pm_tsIn (tgt := 62) (by exact okX7_colourOf) rfl (by decide) (by decide) rfl (by decide) ?_
      refine pm_go 9999 (by exact okX7_colourOf) rfl ?_; (try dsimp only [pm_st1, pm_st2, pm_cat2, pm_la, Option.toList, List.cons_append, List.nil_append])
      refine pm_ri (by exact okX7_colourOf) rfl rfl rfl (Nat.le_refl _) (Nat.le_refl _) (⟨rfl, rfl, rfl, rfl⟩)
    · refine pm_tsIn (tgt := 64) (by exact okX7_colourOf) rfl (by decide) (by decide) rfl (by decide) ?_
      refine pm_go 9999 (by exact okX7_colourOf) rfl ?_; (try dsimp only [pm_st1, pm_st2, pm_cat2, pm_la, Option.toList, List.cons_append, List.nil_append])
      refine pm_ri (by exact okX7_colourOf) rfl rfl rfl (Nat.le_refl _) (Nat.le_refl _) (⟨rfl, rfl, rfl, rfl⟩)
    · refine pm_tsIn (tgt := 56) (by exact okX7_colourOf) rfl (by decide) (by decide) rfl (by decide) ?_
      refine pm_go 9999 (by exact okX7_colourOf) rfl ?_; (try dsimp only [pm_st1, pm_st2, pm_cat2, pm_la, Option.toList, List.cons_append, List.nil_append])
      refine pm_ri (by exact okX7_colourOf) rfl rfl rfl (Nat.le_refl _) (Nat.le_refl _) (⟨rfl, rfl, rfl, rfl⟩)
    · refine pm_tsIn (tgt := 64) (by exact okX7_colourOf) rfl (by decide) (by decide) rfl (by decide) ?_
      refine pm_go 9999 (by exact okX7_colourOf) rfl ?_; (try dsimp only [pm_st1, pm_st2, pm_cat2, pm_la, Option.toList, List.cons_append, List.nil_append])
      refine pm_ri (by exact okX7_colourOf) rfl rfl rfl (Nat.le_refl _) (Nat.le_refl _) (⟨rfl, rfl, rfl, rfl⟩)
    · refine pm_tsIn (tgt := 64) (by exact okX7_colourOf) rfl (by decide) (by decide) rfl (by decide) ?_
      refine pm_go 9999 (by exact okX7_colourOf) rfl ?_; (try dsimp only [pm_st1, pm_st2, pm_cat2, pm_la, Option.toList, List.cons_append, List.nil_append])
      refine pm_ri (by exact okX7_colourOf) rfl rfl rfl (Nat.le_refl _) (Nat.le_refl _) (⟨rfl, rfl, rfl, rfl⟩)
    · refine pm_tsIn (tgt := 64) (by exact okX7_colourOf) rfl (by decide) (by decide) rfl (by decide) ?_
      refine pm_go 9999 (by exact okX7_colourOf) rfl ?_; (try dsimp only [pm_st1, pm_st2, pm_cat2, pm_la, Option.toList, List.cons_append, List.nil_append])
      refine pm_ri (by exact okX7_colourOf) rfl rfl rfl (Nat.le_refl _) (Nat.le_refl _) (⟨rfl, rfl, rfl, rfl⟩)
    · refine pm_tsIn (tgt := 64) (by exact okX7_colourOf) rfl (by decide) (by decide) rfl (by decide) ?_
      refine pm_go 9999 (by exact okX7_colourOf) rfl ?_; (try dsimp only [pm_st1, pm_st2, pm_cat2, pm_la, Option.toList, List.cons_append, List.nil_append])
      refine pm_ri (by exact okX7_colourOf) rfl rfl rfl (Nat.le_refl _) (Nat.le_refl _) (⟨rfl, rfl, rfl, rfl⟩)
    · refine pm_tsIn (tgt := 58) (by exact okX7_colourOf) rfl (by decide) (by decide) rfl (by decide) ?_
      refine pm_go 9999 (by exact okX7_colourOf) rfl ?_; (try dsimp only [pm_st1, pm_st2, pm_cat2, pm_la, Option.toList, List.cons_append, List.nil_append])
      refine pm_ri (by exact okX7_colourOf) rfl rfl rfl (Nat.le_refl _) (Nat.le_refl _) (⟨rfl, rfl, rfl, rfl⟩)
    · refine pm_tsIn (tgt := 64) (by exact okX7_colourOf) rfl (by decide) (by decide) rfl (by decide) ?_
      refine pm_go 9999 (by exact okX7_colourOf) rfl ?_; (try dsimp only [pm_st1, pm_st2, pm_cat2, pm_la, Option.toList, List.cons_append, List.nil_append])
      refine pm_ri (by exact okX7_colourOf) rfl rfl rfl (Nat.le_refl _) (Nat.le_refl _) (⟨rfl, rfl, rfl, rfl⟩)
    · refine pm_tsIn (tgt := 60) (by exact okX7_colourOf) rfl (by decide) (by decide) rfl (by decide) ?_
      refine pm_go 9999 (by exact okX7_colourOf) rfl ?_; (try dsimp only [pm_st1, pm_st2, pm_cat2, pm_la, Option.toList, List.cons_append, List.nil_append])
      refine pm_ri (by exact okX7_colourOf) rfl rfl rfl (Nat.le_refl _) (Nat.le_refl _) (⟨rfl, rfl, rfl, rfl⟩)
  · have e : pd_c4 c = none := by
      unfold pd_c4
      rw [if_neg (by omega), if_neg (by omega), if_neg (by omega), if_neg (by omega)]
    rw [e]
    refine pm_tsOut (tgt := 64) (by exact okX7_colourOf) rfl (by rw [nI_toInt (by omega)]; omega) (by decide) ?_
    refine pm_go 9999 (by exact okX7_colourOf) rfl ?_; (try dsimp only [pm_st1, pm_st2, pm_cat2, pm_la, Option.toList, List.cons_append, List.nil_append])
    refine pm_ri (by exact okX7_colourOf) rfl rfl rfl (Nat.le_refl _) (Nat.le_refl _) (⟨rfl, rfl, rfl, rfl⟩)
set_option maxRecDepth 100000 in
set_option maxHeartbeats 1000000 in
theorem C_isLetter {sg : List pm_C} {c B : Nat} (hc : 33 ≤ c ∧ c ≤ 126) (hB : B ≤ 6) : pm_T cx mX7_isLetter d 0 0 [.int (nI c), .int (nI B)] sg mu nu (pm_ret (some (.int (bI (97 ≤ c ∧ c < 97 + B)))) sg mu nu) := by
  refine pm_enterN 0 (by exact okX7_isLetter) rfl ?_; dsimp only [pm_la, pm_cat2, List.replicate, List.cons_append, List.nil_append, List.append_nil]
  refine pm_go 9999 (by exact okX7_isLetter) rfl ?_; (try dsimp only [pm_st1, pm_st2, pm_cat2, pm_la, Option.toList, List.cons_append, List.nil_append])
  refine pm_ilt (by exact okX7_isLetter) rfl (fun h1 => ?_) (fun h1 => ?_)
  · have h1 := (nI_ltI (a := c) (b := 97) (by omega) (by omega)).mp h1
    refine pm_go 9999 (by exact okX7_isLetter) rfl ?_; (try dsimp only [pm_st1, pm_st2, pm_cat2, pm_la, Option.toList, List.cons_append, List.nil_append])
    refine pm_ri (by exact okX7_isLetter) rfl rfl rfl (Nat.le_refl _) (Nat.le_refl _) (⟨by rw [bI_0 (by omega)], rfl, rfl, rfl⟩)
  · have h1 : ¬ c < 97 := fun q => h1 (nI_lt (b := 97) q (by omega))
    refine pm_go 9999 (by exact okX7_isLetter) rfl ?_; (try dsimp only [pm_st1, pm_st2, pm_cat2, pm_la, Option.toList, List.cons_append, List.nil_append])
    rw [show (97 : Int32) + nI B = nI (97 + B) by rw [show (97 : Int32) = nI 97 from rfl, nI_add]]
    refine pm_ige (by exact okX7_isLetter) rfl (fun h2 => ?_) (fun h2 => ?_)
    · have h2 := (nI_leI (by omega) (by omega)).mp h2
      refine pm_go 9999 (by exact okX7_isLetter) rfl ?_; (try dsimp only [pm_st1, pm_st2, pm_cat2, pm_la, Option.toList, List.cons_append, List.nil_append])
      refine pm_ri (by exact okX7_isLetter) rfl rfl rfl (Nat.le_refl _) (Nat.le_refl _) (⟨by rw [bI_0 (by omega)], rfl, rfl, rfl⟩)
    · have h2 : ¬ 97 + B ≤ c := fun q => h2 (nI_le q (by omega))
      refine pm_go 9999 (by exact okX7_isLetter) rfl ?_; (try dsimp only [pm_st1, pm_st2, pm_cat2, pm_la, Option.toList, List.cons_append, List.nil_append])
      refine pm_ri (by exact okX7_isLetter) rfl rfl rfl (Nat.le_refl _) (Nat.le_refl _) (⟨by rw [bI_1 (by omega)], rfl, rfl, rfl⟩)
set_option maxRecDepth 100000 in
set_option maxHeartbeats 1000000 in
theorem C_numberOf_l {Q : pm_Po} {pd : List Nat} {c : Nat} (h : XP pd mu) (hp : dOK pd) (hc : c < 200) (hd : 1 ≤ d) : ∀ (j k : Nat), k + j = pd.length → Q (some (.int (nI (pd_n c pd)))) (sh_ i0 i1 ex) mu nu → pm_G cx (mX7_numberOf, d, 0, 0, n0, Q) 0 0 4 [some (.ref 1), some (.int (nI c)), some (.int (nI (pd_n c (pd.take k)))), some (.int (nI k))] [] (sh_ i0 i1 ex) mu nu := by
  have hp1 := hp.1
  intro j
  induction j with
  | zero =>
    intro k hk hq
    have hk : k = pd.length := by omega
    subst hk
    refine pm_go 9999 (by exact okX7_numberOf) rfl ?_; (try dsimp only [pm_st1, pm_st2, pm_cat2, pm_la, Option.toList, List.cons_append, List.nil_append])
    rw [h.1]
    refine pm_ige (by exact okX7_numberOf) rfl (fun h1 => ?_) (fun h1 => ?_)
    · refine pm_go 9999 (by exact okX7_numberOf) rfl ?_; (try dsimp only [pm_st1, pm_st2, pm_cat2, pm_la, Option.toList, List.cons_append, List.nil_append])
      rw [List.take_length]
      refine pm_ri (by exact okX7_numberOf) rfl rfl rfl (Nat.le_refl _) (Nat.le_refl _) (hq)
    · exact absurd (nI_le (by omega) (by omega)) h1
  | succ j ih =>
    intro k hk hq
    have hkl : k < pd.length := by omega
    have hget : pd[k]? = some pd[k] := List.getElem?_eq_getElem hkl
    have hx := hp.2 pd[k] (List.getElem_mem hkl)
    have e := pd_n_app c (pd.take k) pd[k]
    rw [← pd_take hget] at e
    refine pm_go 9999 (by exact okX7_numberOf) rfl ?_; (try dsimp only [pm_st1, pm_st2, pm_cat2, pm_la, Option.toList, List.cons_append, List.nil_append])
    rw [h.1]
    refine pm_ige (by exact okX7_numberOf) rfl (fun h1 => ?_) (fun h1 => ?_)
    · exact absurd h1 (nI_ge (by omega) (by omega))
    · refine pm_go 9999 (by exact okX7_numberOf) rfl ?_; (try dsimp only [pm_st1, pm_st2, pm_cat2, pm_la, Option.toList, List.cons_append, List.nil_append])
      refine pm_cv (by exact okX7_numberOf) (by exact okX7_signAt) rfl (by exact arX7_signAt) (C_signAt (d := 0) h (by omega) hget) rfl rfl rfl (by dsimp only; omega) rfl (Nat.le_of_ble_eq_true rfl) ⟨Nat.zero_le _, Nat.zero_le _⟩ ?_
      rintro _ _ _ _ ⟨rfl, rfl, rfl, rfl⟩ -
      refine pm_go 9999 (by exact okX7_numberOf) rfl ?_; (try dsimp only [pm_st1, pm_st2, pm_cat2, pm_la, Option.toList, List.cons_append, List.nil_append])
      refine pm_ine (by exact okX7_numberOf) rfl (fun h2 => ?_) (fun h2 => ?_)
      · have h2 : ¬ pd[k] = c := fun q => h2 (by rw [q])
        rw [if_neg h2] at e
        refine pm_go 4 (by exact okX7_numberOf) rfl ?_; (try dsimp only [pm_st1, pm_st2, pm_cat2, pm_la, Option.toList, List.cons_append, List.nil_append])
        rw [nI_1]
        refine (ih (k + 1) (by omega) hq).cast ?_ rfl rfl rfl
        rw [show pd_n c (pd.take (k + 1)) = pd_n c (pd.take k) from e]
      · have h2 : pd[k] = c := (nI_eq (by omega) (by omega)).mp h2
        rw [if_pos h2] at e
        refine pm_go 4 (by exact okX7_numberOf) rfl ?_; (try dsimp only [pm_st1, pm_st2, pm_cat2, pm_la, Option.toList, List.cons_append, List.nil_append])
        rw [nI_1, nI_1]
        refine (ih (k + 1) (by omega) hq).cast ?_ rfl rfl rfl
        rw [e]
set_option maxRecDepth 100000 in
set_option maxHeartbeats 1000000 in
theorem C_numberOf {pd : List Nat} {c : Nat} (h : XP pd mu) (hp : dOK pd) (hc : c < 200) (hd : 1 ≤ d) : pm_T cx mX7_numberOf d 0 0 [.ref 1, .int (nI c)] (sh_ i0 i1 ex) mu nu (pm_ret (some (.int (nI (pd_n c pd)))) (sh_ i0 i1 ex) mu nu) := by
  refine pm_enterN 2 (by exact okX7_numberOf) rfl ?_; dsimp only [pm_la, pm_cat2, List.replicate, List.cons_append, List.nil_append, List.append_nil]
  refine pm_go 4 (by exact okX7_numberOf) rfl ?_; (try dsimp only [pm_st1, pm_st2, pm_cat2, pm_la, Option.toList, List.cons_append, List.nil_append])
  exact C_numberOf_l h hp hc hd pd.length 0 (by omega) ⟨rfl, rfl, rfl, rfl⟩
set_option maxRecDepth 100000 in
set_option maxHeartbeats 1000000 in
theorem C_weekFault_l {Q : pm_Po} {pd : List Nat} {B : Nat} (h : XP pd mu) (hB6 : B ≤ 6) (hp : dOK pd) (hd : 1 ≤ d) : ∀ (r : List Nat) (k op : Nat), pd.drop k = r → k ≤ pd.length → op ≤ 4 → Q (some (.int (nO (pd_wf B k op r)))) (sh_ i0 i1 ex) mu nu → pm_G cx (mX7_weekFault, d, 0, 0, n0, Q) 0 0 4 [some (.ref 1), some (.int (nI B)), some (.int (nI op)), some (.int (nI k)), none, none] [] (sh_ i0 i1 ex) mu nu := by
  intro r
  have hp1 := hp.1
  induction r with
  | nil =>
    intro k op hr hk ho hq
    have hk := drop_nil hr hk
    refine pm_go 9999 (by exact okX7_weekFault) rfl ?_; (try dsimp only [pm_st1, pm_st2, pm_cat2, pm_la, Option.toList, List.cons_append, List.nil_append])
    rw [h.1]
    refine pm_ige (by exact okX7_weekFault) rfl (fun h1 => ?_) (fun h1 => ?_)
    · refine pm_go 9999 (by exact okX7_weekFault) rfl ?_; (try dsimp only [pm_st1, pm_st2, pm_cat2, pm_la, Option.toList, List.cons_append, List.nil_append])
      refine pm_ri (by exact okX7_weekFault) rfl rfl rfl (Nat.le_refl _) (Nat.le_refl _) (hq)
    · exact absurd (nI_le (by omega) (by omega)) h1
  | cons c r ih =>
    intro k op hr hk ho hq
    obtain ⟨g1, g2, g3⟩ := drop_get hr
    have hc := hp.2 c (mem_drop hr)
    have e : ∀ m, m < 127 → (nI c = nI m ↔ c = m) := fun m hm => nI_eq (by omega) (by omega)
    simp only [pd_wf] at hq
    have tail : ∀ (u : Nat), u ≤ 5 → (u ≤ 4 → Q (some (.int (nO (pd_wf B (k + 1) u r)))) (sh_ i0 i1 ex) mu nu) → (¬ u ≤ 4 → Q (some (.int (nI k))) (sh_ i0 i1 ex) mu nu) → pm_G cx (mX7_weekFault, d, 0, 0, n0, Q) 0 0 59 [some (.ref 1), some (.int (nI B)), some (.int (nI u)), some (.int (nI k)), some (.int (nI c)), none] [] (sh_ i0 i1 ex) mu nu := by
      intro u hu q1 q2
      refine pm_go 9999 (by exact okX7_weekFault) rfl ?_; (try dsimp only [pm_st1, pm_st2, pm_cat2, pm_la, Option.toList, List.cons_append, List.nil_append])
      refine pm_zeq (by exact okX7_weekFault) rfl (fun h2 => ?_) (fun h2 => ?_)
      · exact absurd h2 (by decide)
      · refine pm_go 9999 (by exact okX7_weekFault) rfl ?_; (try dsimp only [pm_st1, pm_st2, pm_cat2, pm_la, Option.toList, List.cons_append, List.nil_append])
        refine pm_ile (by exact okX7_weekFault) rfl (fun h3 => ?_) (fun h3 => ?_)
        · have h3 := (nI_leI (a := u) (b := 4) (by omega) (by omega)).mp h3
          refine pm_go 4 (by exact okX7_weekFault) rfl ?_; (try dsimp only [pm_st1, pm_st2, pm_cat2, pm_la, Option.toList, List.cons_append, List.nil_append])
          refine pm_G.fg [false, false, false, false, true, true] ?_; dsimp only [pm_fg]
          rw [nI_1]
          exact ih (k + 1) u g2 (by omega) h3 (q1 h3)
        · have h3 : ¬ u ≤ 4 := fun q => h3 (nI_le (b := 4) q (by omega))
          refine pm_go 9999 (by exact okX7_weekFault) rfl ?_; (try dsimp only [pm_st1, pm_st2, pm_cat2, pm_la, Option.toList, List.cons_append, List.nil_append])
          refine pm_ri (by exact okX7_weekFault) rfl rfl rfl (Nat.le_refl _) (Nat.le_refl _) (q2 h3)
    refine pm_go 9999 (by exact okX7_weekFault) rfl ?_; (try dsimp only [pm_st1, pm_st2, pm_cat2, pm_la, Option.toList, List.cons_append, List.nil_append])
    rw [h.1]
    refine pm_ige (by exact okX7_weekFault) rfl (fun h1 => ?_) (fun h1 => ?_)
    · exact absurd h1 (nI_ge (by omega) (by omega))
    · refine pm_go 9999 (by exact okX7_weekFault) rfl ?_; (try dsimp only [pm_st1, pm_st2, pm_cat2, pm_la, Option.toList, List.cons_append, List.nil_append])
      refine pm_cv (by exact okX7_weekFault) (by exact okX7_signAt) rfl (by exact arX7_signAt) (C_signAt (d := 0) h (by omega) g1) rfl rfl rfl (by dsimp only; omega) rfl (Nat.le_of_ble_eq_true rfl) ⟨Nat.zero_le _, Nat.zero_le _⟩ ?_
      rintro _ _ _ _ ⟨rfl, rfl, rfl, rfl⟩ -
      refine pm_go 9999 (by exact okX7_weekFault) rfl ?_; (try dsimp only [pm_st1, pm_st2, pm_cat2, pm_la, Option.toList, List.cons_append, List.nil_append])
      refine pm_ine (by exact okX7_weekFault) rfl (fun h2 => ?_) (fun h2 => ?_)
      · have h2 : ¬ c = 63 := fun q => h2 (by rw [q]; rfl)
        refine pm_go 9999 (by exact okX7_weekFault) rfl ?_; (try dsimp only [pm_st1, pm_st2, pm_cat2, pm_la, Option.toList, List.cons_append, List.nil_append])
        refine pm_ieq (by exact okX7_weekFault) rfl (fun h3 => ?_) (fun h3 => ?_)
        · exact absurd ((e 63 (by omega)).mp h3) h2
        · refine pm_go 9999 (by exact okX7_weekFault) rfl ?_; (try dsimp only [pm_st1, pm_st2, pm_cat2, pm_la, Option.toList, List.cons_append, List.nil_append])
          refine pm_ieq (by exact okX7_weekFault) rfl (fun h4 => ?_) (fun h4 => ?_)
          · have h4 := (e 42 (by omega)).mp h4
            rw [if_pos (Or.inr h4)] at hq
            exact tail op (by omega) (fun _ => hq) (fun q => absurd ho q)
          · have h4 : ¬ c = 42 := fun q => h4 (by rw [q]; rfl)
            refine pm_go 9999 (by exact okX7_weekFault) rfl ?_; (try dsimp only [pm_st1, pm_st2, pm_cat2, pm_la, Option.toList, List.cons_append, List.nil_append])
            refine pm_ieq (by exact okX7_weekFault) rfl (fun h5 => ?_) (fun h5 => ?_)
            · have h5 := (e 46 (by omega)).mp h5
              rw [if_pos (Or.inl h5)] at hq
              exact tail op (by omega) (fun _ => hq) (fun q => absurd ho q)
            · have h5 : ¬ c = 46 := fun q => h5 (by rw [q]; rfl)
              rw [if_neg (fun q => q.elim h5 h4), if_neg h2] at hq
              refine pm_go 9999 (by exact okX7_weekFault) rfl ?_; (try dsimp only [pm_st1, pm_st2, pm_cat2, pm_la, Option.toList, List.cons_append, List.nil_append])
              refine pm_cs (by exact okX7_weekFault) (by exact okX7_isLetter) rfl (by exact arX7_isLetter) (C_isLetter (d := 0) hc hB6) rfl (by dsimp only; omega) rfl (Nat.le_of_ble_eq_true rfl) ⟨Nat.zero_le _, Nat.zero_le _⟩ ?_
              rintro _ _ _ _ ⟨rfl, rfl, rfl, rfl⟩ -
              refine pm_go 9999 (by exact okX7_weekFault) rfl ?_; (try dsimp only [pm_st1, pm_st2, pm_cat2, pm_la, Option.toList, List.cons_append, List.nil_append])
              refine pm_zeq (by exact okX7_weekFault) rfl (fun h6 => ?_) (fun h6 => ?_)
              · have h6 := bI_z.mp h6
                rw [if_neg h6] at hq
                refine pm_go 9999 (by exact okX7_weekFault) rfl ?_; (try dsimp only [pm_st1, pm_st2, pm_cat2, pm_la, Option.toList, List.cons_append, List.nil_append])
                refine pm_zeq (by exact okX7_weekFault) rfl (fun h7 => ?_) (fun h7 => ?_)
                · refine pm_go 9999 (by exact okX7_weekFault) rfl ?_; (try dsimp only [pm_st1, pm_st2, pm_cat2, pm_la, Option.toList, List.cons_append, List.nil_append])
                  refine pm_ri (by exact okX7_weekFault) rfl rfl rfl (Nat.le_refl _) (Nat.le_refl _) (hq)
                · exact absurd rfl h7
              · have h6 := bI_n.mp h6
                rw [if_pos h6] at hq
                exact tail op (by omega) (fun _ => hq) (fun q => absurd ho q)
      · have h2 : c = 63 := (e 63 (by omega)).mp h2
        rw [if_neg (by omega), if_pos h2] at hq
        refine pm_go 9999 (by exact okX7_weekFault) rfl ?_; (try dsimp only [pm_st1, pm_st2, pm_cat2, pm_la, Option.toList, List.cons_append, List.nil_append])
        refine pm_ieq (by exact okX7_weekFault) rfl (fun h3 => ?_) (fun h3 => ?_)
        · rw [nI_1]
          refine tail (op + 1) (by omega) (fun q => ?_) (fun q => ?_)
          · rw [if_pos q] at hq; exact hq
          · rw [if_neg q] at hq; exact hq
        · exact absurd (by rw [h2]; rfl) h3
set_option maxRecDepth 100000 in
set_option maxHeartbeats 1000000 in
theorem C_weekFault {pd : List Nat} {B : Nat} (h : XP pd mu) (hB6 : B ≤ 6) (hp : dOK pd) (hd : 1 ≤ d) : pm_T cx mX7_weekFault d 0 0 [.ref 1, .int (nI B)] (sh_ i0 i1 ex) mu nu (pm_ret (some (.int (nO (pd_wf B 0 0 pd)))) (sh_ i0 i1 ex) mu nu) := by
  refine pm_enterN 4 (by exact okX7_weekFault) rfl ?_; dsimp only [pm_la, pm_cat2, List.replicate, List.cons_append, List.nil_append, List.append_nil]
  refine pm_go 4 (by exact okX7_weekFault) rfl ?_; (try dsimp only [pm_st1, pm_st2, pm_cat2, pm_la, Option.toList, List.cons_append, List.nil_append])
  exact C_weekFault_l h hB6 hp hd pd 0 0 rfl (by omega) (by omega) ⟨rfl, rfl, rfl, rfl⟩
set_option maxRecDepth 100000 in
set_option maxHeartbeats 1000000 in
theorem C_orderFault_l {Q : pm_Po} {pd : List Nat} {B : Nat} (h : XP pd mu) (hB6 : B ≤ 6) (hp : dOK pd) (hd : 1 ≤ d) : ∀ (r : List Nat) (k us : Nat), pd.drop k = r → k ≤ pd.length → us < 64 → Q (some (.int (nO (pd_of B k us r)))) (sh_ i0 i1 ex) mu nu → pm_G cx (mX7_orderFault, d, 0, 0, n0, Q) 0 0 4 [some (.ref 1), some (.int (nI B)), some (.int (nI us)), some (.int (nI k)), none] [] (sh_ i0 i1 ex) mu nu := by
  intro r
  have hp1 := hp.1
  induction r with
  | nil =>
    intro k us hr hk hu hq
    have hk := drop_nil hr hk
    simp only [pd_of] at hq
    refine pm_go 9999 (by exact okX7_orderFault) rfl ?_; (try dsimp only [pm_st1, pm_st2, pm_cat2, pm_la, Option.toList, List.cons_append, List.nil_append])
    rw [h.1]
    refine pm_ige (by exact okX7_orderFault) rfl (fun h1 => ?_) (fun h1 => ?_)
    · refine pm_go 9999 (by exact okX7_orderFault) rfl ?_; (try dsimp only [pm_st1, pm_st2, pm_cat2, pm_la, Option.toList, List.cons_append, List.nil_append])
      rw [h.1]
      refine pm_ige (by exact okX7_orderFault) rfl (fun h2 => ?_) (fun h2 => ?_)
      · have h3 : ¬ k < B := by
          have := (nI_leI (by omega) (by omega)).mp h2
          omega
        rw [if_neg h3] at hq
        refine pm_go 9999 (by exact okX7_orderFault) rfl ?_; (try dsimp only [pm_st1, pm_st2, pm_cat2, pm_la, Option.toList, List.cons_append, List.nil_append])
        refine pm_ri (by exact okX7_orderFault) rfl rfl rfl (Nat.le_refl _) (Nat.le_refl _) (hq)
      · have h3 : k < B := by
          rcases Nat.lt_or_ge k B with q | q
          · exact q
          · exact absurd (nI_le (by omega) (by omega)) h2
        rw [if_pos h3] at hq
        refine pm_go 9999 (by exact okX7_orderFault) rfl ?_; (try dsimp only [pm_st1, pm_st2, pm_cat2, pm_la, Option.toList, List.cons_append, List.nil_append])
        rw [h.1, ← hk]
        refine pm_ri (by exact okX7_orderFault) rfl rfl rfl (Nat.le_refl _) (Nat.le_refl _) (hq)
    · exact absurd (nI_le (by omega) (by omega)) h1
  | cons c r ih =>
    intro k us hr hk hu hq
    obtain ⟨g1, g2, g3⟩ := drop_get hr
    have hc := hp.2 c (mem_drop hr)
    simp only [pd_of] at hq
    refine pm_go 9999 (by exact okX7_orderFault) rfl ?_; (try dsimp only [pm_st1, pm_st2, pm_cat2, pm_la, Option.toList, List.cons_append, List.nil_append])
    rw [h.1]
    refine pm_ige (by exact okX7_orderFault) rfl (fun h1 => ?_) (fun h1 => ?_)
    · exact absurd h1 (nI_ge (by omega) (by omega))
    · refine pm_go 9999 (by exact okX7_orderFault) rfl ?_; (try dsimp only [pm_st1, pm_st2, pm_cat2, pm_la, Option.toList, List.cons_append, List.nil_append])
      refine pm_cv (by exact okX7_orderFault) (by exact okX7_signAt) rfl (by exact arX7_signAt) (C_signAt (d := 0) h (by omega) g1) rfl rfl rfl (by dsimp only; omega) rfl (Nat.le_of_ble_eq_true rfl) ⟨Nat.zero_le _, Nat.zero_le _⟩ ?_
      rintro _ _ _ _ ⟨rfl, rfl, rfl, rfl⟩ -
      refine pm_go 9999 (by exact okX7_orderFault) rfl ?_; (try dsimp only [pm_st1, pm_st2, pm_cat2, pm_la, Option.toList, List.cons_append, List.nil_append])
      refine pm_cs (by exact okX7_orderFault) (by exact okX7_isLetter) rfl (by exact arX7_isLetter) (C_isLetter (d := 0) hc hB6) rfl (by dsimp only; omega) rfl (Nat.le_of_ble_eq_true rfl) ⟨Nat.zero_le _, Nat.zero_le _⟩ ?_
      rintro _ _ _ _ ⟨rfl, rfl, rfl, rfl⟩ -
      refine pm_go 9999 (by exact okX7_orderFault) rfl ?_; (try dsimp only [pm_st1, pm_st2, pm_cat2, pm_la, Option.toList, List.cons_append, List.nil_append])
      refine pm_zeq (by exact okX7_orderFault) rfl (fun h9 => ?_) (fun h9 => ?_)
      · have h9 := bI_z.mp h9
        rw [if_neg (fun q => h9 q.1)] at hq
        refine pm_go 9999 (by exact okX7_orderFault) rfl ?_; (try dsimp only [pm_st1, pm_st2, pm_cat2, pm_la, Option.toList, List.cons_append, List.nil_append])
        refine pm_ri (by exact okX7_orderFault) rfl rfl rfl (Nat.le_refl _) (Nat.le_refl _) (hq)
      · have h9 := bI_n.mp h9
        refine pm_go 9999 (by exact okX7_orderFault) rfl ?_; (try dsimp only [pm_st1, pm_st2, pm_cat2, pm_la, Option.toList, List.cons_append, List.nil_append])
        rw [show nI c - 97 = nI (c - 97) by rw [show (97 : Int32) = nI 97 from rfl, pk_sub h9.1], st_bit1 (by omega) (by omega)]
        refine pm_ine (by exact okX7_orderFault) rfl (fun h10 => ?_) (fun h10 => ?_)
        · have h10 : ¬ us.testBit (c - 97) = true := fun q => h10 (bI_1 q)
          rw [if_pos ⟨h9, h10⟩] at hq
          refine pm_go 4 (by exact okX7_orderFault) rfl ?_; (try dsimp only [pm_st1, pm_st2, pm_cat2, pm_la, Option.toList, List.cons_append, List.nil_append])
          refine pm_G.fg [false, false, false, false, true] ?_; dsimp only [pm_fg]
          rw [show nI c - 97 = nI (c - 97) by rw [show (97 : Int32) = nI 97 from rfl, pk_sub h9.1], nI_shl1 (by omega), nI_or, nI_1]
          exact ih (k + 1) _ g2 (by omega) (or_lt hu (by omega)) hq
        · have h10 : us.testBit (c - 97) = true := by
            by_cases q : us.testBit (c - 97) = true
            · exact q
            · rw [bI_0 q] at h10; exact absurd h10 (by decide)
          rw [if_neg (fun q => q.2 h10)] at hq
          refine pm_go 9999 (by exact okX7_orderFault) rfl ?_; (try dsimp only [pm_st1, pm_st2, pm_cat2, pm_la, Option.toList, List.cons_append, List.nil_append])
          refine pm_ri (by exact okX7_orderFault) rfl rfl rfl (Nat.le_refl _) (Nat.le_refl _) (hq)
set_option maxRecDepth 100000 in
set_option maxHeartbeats 1000000 in
theorem C_orderFault {pd : List Nat} {B : Nat} (h : XP pd mu) (hB6 : B ≤ 6) (hp : dOK pd) (hd : 1 ≤ d) : pm_T cx mX7_orderFault d 0 0 [.ref 1, .int (nI B)] (sh_ i0 i1 ex) mu nu (pm_ret (some (.int (nO (pd_of B 0 0 pd)))) (sh_ i0 i1 ex) mu nu) := by
  refine pm_enterN 3 (by exact okX7_orderFault) rfl ?_; dsimp only [pm_la, pm_cat2, List.replicate, List.cons_append, List.nil_append, List.append_nil]
  refine pm_go 4 (by exact okX7_orderFault) rfl ?_; (try dsimp only [pm_st1, pm_st2, pm_cat2, pm_la, Option.toList, List.cons_append, List.nil_append])
  exact C_orderFault_l h hB6 hp hd pd 0 0 rfl (by omega) (by omega) ⟨rfl, rfl, rfl, rfl⟩
set_option maxRecDepth 100000 in
set_option maxHeartbeats 1000000 in
theorem C_wishFault_l {Q : pm_Po} {pd : List Nat} {B : Nat} (h : XP pd mu) (hB6 : B ≤ 6) (hp : dOK pd) (hd : 1 ≤ d) : ∀ (r : List Nat) (k : Nat), pd.drop k = r → k ≤ pd.length → k ≤ B → Q (some (.int (nO (pd_if B k r)))) (sh_ i0 i1 ex) mu nu → pm_G cx (mX7_wishFault, d, 0, 0, n0, Q) 0 0 2 [some (.ref 1), some (.int (nI B)), some (.int (nI k)), none, none] [] (sh_ i0 i1 ex) mu nu := by
  intro r
  have hp1 := hp.1
  induction r with
  | nil =>
    intro k hr hk hkB hq
    have hk := drop_nil hr hk
    simp only [pd_if] at hq
    refine pm_go 9999 (by exact okX7_wishFault) rfl ?_; (try dsimp only [pm_st1, pm_st2, pm_cat2, pm_la, Option.toList, List.cons_append, List.nil_append])
    rw [h.1]
    refine pm_ige (by exact okX7_wishFault) rfl (fun h1 => ?_) (fun h1 => ?_)
    · refine pm_go 9999 (by exact okX7_wishFault) rfl ?_; (try dsimp only [pm_st1, pm_st2, pm_cat2, pm_la, Option.toList, List.cons_append, List.nil_append])
      rw [h.1]
      refine pm_zne (by exact okX7_wishFault) rfl (fun h2 => ?_) (fun h2 => ?_)
      · rw [if_neg (fun q => h2 (by rw [← hk, q]; rfl))] at hq
        refine pm_go 9999 (by exact okX7_wishFault) rfl ?_; (try dsimp only [pm_st1, pm_st2, pm_cat2, pm_la, Option.toList, List.cons_append, List.nil_append])
        refine pm_ri (by exact okX7_wishFault) rfl rfl rfl (Nat.le_refl _) (Nat.le_refl _) (hq)
      · have h2 : pd.length = 0 := (nI_eq (b := 0) (by omega) (by omega)).mp h2
        rw [if_pos (by omega)] at hq
        refine pm_go 9999 (by exact okX7_wishFault) rfl ?_; (try dsimp only [pm_st1, pm_st2, pm_cat2, pm_la, Option.toList, List.cons_append, List.nil_append])
        refine pm_ri (by exact okX7_wishFault) rfl rfl rfl (Nat.le_refl _) (Nat.le_refl _) (hq)
    · exact absurd (nI_le (by omega) (by omega)) h1
  | cons c r ih =>
    intro k hr hk hkB hq
    obtain ⟨g1, g2, g3⟩ := drop_get hr
    have hc := hp.2 c (mem_drop hr)
    simp only [pd_if] at hq
    have tail : pd_co c ≠ none → pm_G cx (mX7_wishFault, d, 0, 0, n0, Q) 0 0 31 [some (.ref 1), some (.int (nI B)), some (.int (nI k)), some (.int (nI c)), none] [] (sh_ i0 i1 ex) mu nu := by
      intro hco
      refine pm_go 9999 (by exact okX7_wishFault) rfl ?_; (try dsimp only [pm_st1, pm_st2, pm_cat2, pm_la, Option.toList, List.cons_append, List.nil_append])
      refine pm_zeq (by exact okX7_wishFault) rfl (fun h2 => ?_) (fun h2 => ?_)
      · exact absurd h2 (by decide)
      · refine pm_go 9999 (by exact okX7_wishFault) rfl ?_; (try dsimp only [pm_st1, pm_st2, pm_cat2, pm_la, Option.toList, List.cons_append, List.nil_append])
        refine pm_ilt (by exact okX7_wishFault) rfl (fun h3 => ?_) (fun h3 => ?_)
        · have h3 := (nI_ltI (by omega) (by omega)).mp h3
          rw [if_neg (fun q => q.elim (by omega) hco)] at hq
          refine pm_go 2 (by exact okX7_wishFault) rfl ?_; (try dsimp only [pm_st1, pm_st2, pm_cat2, pm_la, Option.toList, List.cons_append, List.nil_append])
          refine pm_G.fg [false, false, false, true, true] ?_; dsimp only [pm_fg]
          rw [nI_1]
          exact ih (k + 1) g2 (by omega) (by omega) hq
        · have h3 : ¬ k < B := fun q => h3 (nI_lt q (by omega))
          rw [if_pos (Or.inl (by omega))] at hq
          refine pm_go 9999 (by exact okX7_wishFault) rfl ?_; (try dsimp only [pm_st1, pm_st2, pm_cat2, pm_la, Option.toList, List.cons_append, List.nil_append])
          refine pm_ri (by exact okX7_wishFault) rfl rfl rfl (Nat.le_refl _) (Nat.le_refl _) (hq)
    refine pm_go 9999 (by exact okX7_wishFault) rfl ?_; (try dsimp only [pm_st1, pm_st2, pm_cat2, pm_la, Option.toList, List.cons_append, List.nil_append])
    rw [h.1]
    refine pm_ige (by exact okX7_wishFault) rfl (fun h1 => ?_) (fun h1 => ?_)
    · exact absurd h1 (nI_ge (by omega) (by omega))
    · refine pm_go 9999 (by exact okX7_wishFault) rfl ?_; (try dsimp only [pm_st1, pm_st2, pm_cat2, pm_la, Option.toList, List.cons_append, List.nil_append])
      refine pm_cv (by exact okX7_wishFault) (by exact okX7_signAt) rfl (by exact arX7_signAt) (C_signAt (d := 0) h (by omega) g1) rfl rfl rfl (by dsimp only; omega) rfl (Nat.le_of_ble_eq_true rfl) ⟨Nat.zero_le _, Nat.zero_le _⟩ ?_
      rintro _ _ _ _ ⟨rfl, rfl, rfl, rfl⟩ -
      refine pm_go 9999 (by exact okX7_wishFault) rfl ?_; (try dsimp only [pm_st1, pm_st2, pm_cat2, pm_la, Option.toList, List.cons_append, List.nil_append])
      refine pm_ieq (by exact okX7_wishFault) rfl (fun h2 => ?_) (fun h2 => ?_)
      · have h2 : c = 63 := (nI_eq (b := 63) (by omega) (by omega)).mp h2
        exact tail (by rw [h2]; decide)
      · have h2 : ¬ c = 63 := fun q => h2 (by rw [q]; rfl)
        refine pm_go 9999 (by exact okX7_wishFault) rfl ?_; (try dsimp only [pm_st1, pm_st2, pm_cat2, pm_la, Option.toList, List.cons_append, List.nil_append])
        refine pm_cs (by exact okX7_wishFault) (by exact okX7_colourOf) rfl (by exact arX7_colourOf) (C_colourOf (d := 0) hc) rfl (by dsimp only; omega) rfl (Nat.le_of_ble_eq_true rfl) ⟨Nat.zero_le _, Nat.zero_le _⟩ ?_
        rintro _ _ _ _ ⟨rfl, rfl, rfl, rfl⟩ -
        refine pm_go 9999 (by exact okX7_wishFault) rfl ?_; (try dsimp only [pm_st1, pm_st2, pm_cat2, pm_la, Option.toList, List.cons_append, List.nil_append])
        have h4 := nO_ne6 (o := pd_c4 c) (fun b hb => by have := pd_c4_lt hb; omega)
        refine pm_ieq (by exact okX7_wishFault) rfl (fun h3 => ?_) (fun h3 => ?_)
        · have h3 := h4.mp h3
          rw [if_pos (Or.inr (by rw [pd_c4_co, if_neg h2]; exact h3))] at hq
          refine pm_go 9999 (by exact okX7_wishFault) rfl ?_; (try dsimp only [pm_st1, pm_st2, pm_cat2, pm_la, Option.toList, List.cons_append, List.nil_append])
          refine pm_zeq (by exact okX7_wishFault) rfl (fun h5 => ?_) (fun h5 => ?_)
          · refine pm_go 9999 (by exact okX7_wishFault) rfl ?_; (try dsimp only [pm_st1, pm_st2, pm_cat2, pm_la, Option.toList, List.cons_append, List.nil_append])
            refine pm_ri (by exact okX7_wishFault) rfl rfl rfl (Nat.le_refl _) (Nat.le_refl _) (hq)
          · exact absurd rfl h5
        · have h3 : ¬ pd_c4 c = none := fun q => h3 (h4.mpr q)
          exact tail (by rw [pd_c4_co, if_neg h2]; exact h3)
set_option maxRecDepth 100000 in
set_option maxHeartbeats 1000000 in
theorem C_wishFault {pd : List Nat} {B : Nat} (h : XP pd mu) (hB6 : B ≤ 6) (hp : dOK pd) (hd : 1 ≤ d) : pm_T cx mX7_wishFault d 0 0 [.ref 1, .int (nI B)] (sh_ i0 i1 ex) mu nu (pm_ret (some (.int (nO (pd_if B 0 pd)))) (sh_ i0 i1 ex) mu nu) := by
  refine pm_enterN 3 (by exact okX7_wishFault) rfl ?_; dsimp only [pm_la, pm_cat2, List.replicate, List.cons_append, List.nil_append, List.append_nil]
  refine pm_go 2 (by exact okX7_wishFault) rfl ?_; (try dsimp only [pm_st1, pm_st2, pm_cat2, pm_la, Option.toList, List.cons_append, List.nil_append])
  exact C_wishFault_l h hB6 hp hd pd 0 rfl (by omega) (by omega) ⟨rfl, rfl, rfl, rfl⟩
end

/-! ===== faults ===== -/
/-- THE FAULT of a WEEK: from place k on, op ? so far -/
def pd_wf (B : Nat) : Nat → Nat → List Nat → Option Nat
  | _, _, [] => none
  | k, op, c :: r => if c = 46 ∨ c = 42 then pd_wf B (k + 1) op r else if c = 63 then (if op + 1 ≤ 4 then pd_wf B (k + 1) (op + 1) r else some k) else if 97 ≤ c ∧ c < 97 + B then pd_wf B (k + 1) op r else some k
/-- of an ORDER: us the BEDS used so far, as bits -/
def pd_of (B : Nat) : Nat → Nat → List Nat → Option Nat
  | k, _, [] => if k < B then some k else none
  | k, us, c :: r => if (97 ≤ c ∧ c < 97 + B) ∧ ¬ us.testBit (c - 97) = true then pd_of B (k + 1) (us ||| 2 ^ (c - 97)) r else some k
/-- a sign of a WISH: 0 to 3 a COLOUR, 4 any -/
def pd_co (c : Nat) : Option Nat := if c = 114 then some 0 else if c = 119 then some 1 else if c = 121 then some 2 else if c = 112 then some 3 else if c = 63 then some 4 else none
/-- of a WISH, the signs behind place k -/
def pd_if (B : Nat) : Nat → List Nat → Option Nat
  | k, [] => if k = 0 then some 0 else none
  | k, c :: r => if k = B ∨ pd_co c = none then some k else pd_if B (k + 1) r
theorem drop_get {pd r : List Nat} {k c : Nat} (h : pd.drop k = c :: r) : pd[k]? = some c ∧ pd.drop (k + 1) = r ∧ k < pd.length := by
  have h1 : k < pd.length := by
    rcases Nat.lt_or_ge k pd.length with q | q
    · exact q
    · rw [List.drop_eq_nil_of_le q] at h; cases h
  rw [List.drop_eq_getElem_cons h1] at h
  injection h with h2 h3
  exact ⟨by rw [List.getElem?_eq_getElem h1, h2], h3, h1⟩
theorem drop_nil {pd : List Nat} {k : Nat} (h : pd.drop k = []) (hk : k ≤ pd.length) : k = pd.length := by
  have := List.length_drop (i := k) (l := pd)
  rw [h] at this
  simp at this
  omega
theorem mem_drop {pd r : List Nat} {k c : Nat} (h : pd.drop k = c :: r) : c ∈ pd := List.mem_of_mem_drop (i := k) (by rw [h]; exact List.mem_cons_self)
theorem nI_sub97 {c B : Nat} (hc : 33 ≤ c ∧ c ≤ 126) (hB : B ≤ 6) : isB B (nI c - 97) ↔ (97 ≤ c ∧ c < 97 + B) := by
  rcases Nat.lt_or_ge c 97 with q | q
  · constructor
    · intro h
      exact absurd (pk_sneg (a := c) (b := 97) (by omega) q) (Int32.not_lt.mpr h.1)
    · intro h; omega
  · rw [show (97 : Int32) = nI 97 from rfl, pk_sub q]
    constructor
    · intro h
      have := (nI_ltI (by omega) (by omega)).mp h.2
      omega
    · intro h
      exact isB_in hB (by omega)
section
variable {cx : pm_CX} {d n0 : Nat} {i0 i1 : Option Nat} {ex : List pm_C} {mu : pm_I} {nu : pm_J}
set_option maxRecDepth 100000 in
set_option maxHeartbeats 1000000 in
theorem t_weekFault_l {Q : pm_Po} {pd : List Nat} {B : Nat} (hB : mu 19 0 = nI B) (hB6 : 2 ≤ B ∧ B ≤ 6) (hN : mu 19 6 = nI pd.length) (hP : ∀ k b, pd[k]? = some b → mu 22 k = nI b) (hp : dOK pd) (hd : 2 ≤ d) : ∀ (r : List Nat) (k op : Nat), pd.drop k = r → k ≤ pd.length → op ≤ 4 → Q (some (.int (nO (pd_wf B k op r)))) (sh_ i0 i1 ex) mu nu → pm_G cx (mX11_weekFault, d, 0, 0, n0, Q) 0 0 4 [some (.ref 19), some (.int (nI op)), some (.int (nI k)), none, none] [] (sh_ i0 i1 ex) mu nu := by
  intro r
  have hp1 := hp.1
  induction r with
  | nil =>
    intro k op hr hk ho hq
    have hk := drop_nil hr hk
    refine pm_go 9999 (by exact okX11_weekFault) rfl ?_; (try dsimp only [pm_st1, pm_st2, pm_cat2, pm_la, Option.toList, List.cons_append, List.nil_append])
    rw [hN]
    refine pm_ige (by exact okX11_weekFault) rfl (fun h1 => ?_) (fun h1 => ?_)
    · refine pm_go 9999 (by exact okX11_weekFault) rfl ?_; (try dsimp only [pm_st1, pm_st2, pm_cat2, pm_la, Option.toList, List.cons_append, List.nil_append])
      refine pm_ri (by exact okX11_weekFault) rfl rfl rfl (Nat.le_refl _) (Nat.le_refl _) (hq)
    · exact absurd (nI_le (by omega) (by omega)) h1
  | cons c r ih =>
    intro k op hr hk ho hq
    obtain ⟨g1, g2, g3⟩ := drop_get hr
    have hc := hp.2 c (mem_drop hr)
    refine pm_go 9999 (by exact okX11_weekFault) rfl ?_; (try dsimp only [pm_st1, pm_st2, pm_cat2, pm_la, Option.toList, List.cons_append, List.nil_append])
    rw [hN]
    refine pm_ige (by exact okX11_weekFault) rfl (fun h1 => ?_) (fun h1 => ?_)
    · exact absurd h1 (nI_ge (by omega) (by omega))
    · refine pm_go 9999 (by exact okX11_weekFault) rfl ?_; (try dsimp only [pm_st1, pm_st2, pm_cat2, pm_la, Option.toList, List.cons_append, List.nil_append])
      refine pm_ial (by exact okX11_weekFault) rfl rfl (vp_in_nI (by omega) (by omega)) ?_
      rw [nI_clamp (by omega), hP k _ g1]
      have good : ∀ op', op' ≤ 4 → pd_wf B k op (c :: r) = pd_wf B (k + 1) op' r → pm_G cx (mX11_weekFault, d, 0, 0, n0, Q) 0 0 67 [some (.ref 19), some (.int (nI op')), some (.int (nI k)), some (.int (nI c)), none] [] (sh_ i0 i1 ex) mu nu := by
        intro op' ho' he
        refine pm_go 9999 (by exact okX11_weekFault) rfl ?_; (try dsimp only [pm_st1, pm_st2, pm_cat2, pm_la, Option.toList, List.cons_append, List.nil_append])
        refine pm_zne (by exact okX11_weekFault) rfl (fun h9 => ?_) (fun h9 => ?_)
        · refine pm_go 4 (by exact okX11_weekFault) rfl ?_; (try dsimp only [pm_st1, pm_st2, pm_cat2, pm_la, Option.toList, List.cons_append, List.nil_append])
          rw [nI_1]
          refine pm_G.fg [false, false, false, true, true] ?_; dsimp only [pm_fg]
          exact ih (k + 1) op' g2 (by omega) ho' (by rw [← he]; exact hq)
        · exact absurd h9 (by decide)
      have bad : ∀ op', pd_wf B k op (c :: r) = some k → pm_G cx (mX11_weekFault, d, 0, 0, n0, Q) 0 0 71 [some (.ref 19), some (.int op'), some (.int (nI k)), some (.int (nI c)), none] [] (sh_ i0 i1 ex) mu nu := by
        intro op' he
        refine pm_go 9999 (by exact okX11_weekFault) rfl ?_; (try dsimp only [pm_st1, pm_st2, pm_cat2, pm_la, Option.toList, List.cons_append, List.nil_append])
        refine pm_zne (by exact okX11_weekFault) rfl (fun h9 => ?_) (fun h9 => ?_)
        · exact absurd rfl h9
        · refine pm_go 9999 (by exact okX11_weekFault) rfl ?_; (try dsimp only [pm_st1, pm_st2, pm_cat2, pm_la, Option.toList, List.cons_append, List.nil_append])
          rw [he] at hq
          refine pm_ri (by exact okX11_weekFault) rfl rfl rfl (Nat.le_refl _) (Nat.le_refl _) (hq)
      have bed : ∀ op', (97 ≤ c ∧ c < 97 + B → op' ≤ 4 ∧ pd_wf B k op (c :: r) = pd_wf B (k + 1) op' r) → (¬ (97 ≤ c ∧ c < 97 + B) → pd_wf B k op (c :: r) = some k) → pm_G cx (mX11_weekFault, d, 0, 0, n0, Q) 0 0 56 [some (.ref 19), some (.int (nI op')), some (.int (nI k)), some (.int (nI c)), none] [] (sh_ i0 i1 ex) mu nu := by
        intro op' h7 h8
        refine pm_go 9999 (by exact okX11_weekFault) rfl ?_; (try dsimp only [pm_st1, pm_st2, pm_cat2, pm_la, Option.toList, List.cons_append, List.nil_append])
        refine pm_cv (by exact okX11_weekFault) (by exact okX11_isBed) rfl (by exact arX11_isBed) (t_isBed (d := 1) (nI c - 97) hB (by omega) (by omega)) rfl rfl rfl (by dsimp only; omega) rfl (Nat.le_of_ble_eq_true rfl) ⟨Nat.zero_le _, Nat.zero_le _⟩ ?_
        rintro _ _ _ _ ⟨rfl, rfl, rfl, rfl⟩ -
        refine pm_go 67 (by exact okX11_weekFault) rfl ?_; (try dsimp only [pm_st1, pm_st2, pm_cat2, pm_la, Option.toList, List.cons_append, List.nil_append])
        rw [bI_c (nI_sub97 hc hB6.2)]
        refine pm_zeq (by exact okX11_weekFault) rfl (fun h9 => ?_) (fun h9 => ?_)
        · exact bad _ (h8 (bI_z.mp h9))
        · exact good op' (h7 (bI_n.mp h9)).1 (h7 (bI_n.mp h9)).2
      refine pm_go 9999 (by exact okX11_weekFault) rfl ?_; (try dsimp only [pm_st1, pm_st2, pm_cat2, pm_la, Option.toList, List.cons_append, List.nil_append])
      refine pm_ine (by exact okX11_weekFault) rfl (fun h2 => ?_) (fun h2 => ?_)
      · have h3 : ¬ c = 63 := fun q => h2 (by rw [q]; rfl)
        refine pm_go 9999 (by exact okX11_weekFault) rfl ?_; (try dsimp only [pm_st1, pm_st2, pm_cat2, pm_la, Option.toList, List.cons_append, List.nil_append])
        rw [show nI op + 0 = nI op from Int32.add_zero _]
        refine pm_ieq (by exact okX11_weekFault) rfl (fun h4 => ?_) (fun h4 => ?_)
        · have h5 : c = 46 := (nI_eq (b := 46) (by omega) (by omega)).mp h4
          exact good op ho (by simp only [pd_wf]; rw [if_pos (Or.inl h5)])
        · have h5 : ¬ c = 46 := fun q => h4 (by rw [q]; rfl)
          refine pm_go 9999 (by exact okX11_weekFault) rfl ?_; (try dsimp only [pm_st1, pm_st2, pm_cat2, pm_la, Option.toList, List.cons_append, List.nil_append])
          refine pm_ieq (by exact okX11_weekFault) rfl (fun h6 => ?_) (fun h6 => ?_)
          · have h7 : c = 42 := (nI_eq (b := 42) (by omega) (by omega)).mp h6
            exact good op ho (by simp only [pd_wf]; rw [if_pos (Or.inr h7)])
          · have h7 : ¬ c = 42 := fun q => h6 (by rw [q]; rfl)
            refine pm_go 9999 (by exact okX11_weekFault) rfl ?_; (try dsimp only [pm_st1, pm_st2, pm_cat2, pm_la, Option.toList, List.cons_append, List.nil_append])
            refine pm_ine (by exact okX11_weekFault) rfl (fun h8 => ?_) (fun h8 => ?_)
            · exact bed op (fun q => ⟨ho, by simp only [pd_wf]; rw [if_neg (by omega), if_neg h3, if_pos q]⟩) (fun q => by simp only [pd_wf]; rw [if_neg (by omega), if_neg h3, if_neg q])
            · exact absurd h8 h2
      · have h3 : c = 63 := (nI_eq (b := 63) (by omega) (by omega)).mp h2
        refine pm_go 9999 (by exact okX11_weekFault) rfl ?_; (try dsimp only [pm_st1, pm_st2, pm_cat2, pm_la, Option.toList, List.cons_append, List.nil_append])
        rw [nI_1]
        refine pm_ieq (by exact okX11_weekFault) rfl (fun h4 => ?_) (fun h4 => ?_)
        · exact absurd ((nI_eq (b := 46) (by omega) (by omega)).mp h4) (by omega)
        · refine pm_go 9999 (by exact okX11_weekFault) rfl ?_; (try dsimp only [pm_st1, pm_st2, pm_cat2, pm_la, Option.toList, List.cons_append, List.nil_append])
          refine pm_ieq (by exact okX11_weekFault) rfl (fun h6 => ?_) (fun h6 => ?_)
          · exact absurd ((nI_eq (b := 42) (by omega) (by omega)).mp h6) (by omega)
          · refine pm_go 9999 (by exact okX11_weekFault) rfl ?_; (try dsimp only [pm_st1, pm_st2, pm_cat2, pm_la, Option.toList, List.cons_append, List.nil_append])
            refine pm_ine (by exact okX11_weekFault) rfl (fun h8 => ?_) (fun h8 => ?_)
            · exact absurd h2 h8
            · refine pm_go 9999 (by exact okX11_weekFault) rfl ?_; (try dsimp only [pm_st1, pm_st2, pm_cat2, pm_la, Option.toList, List.cons_append, List.nil_append])
              refine pm_ile (by exact okX11_weekFault) rfl (fun h9 => ?_) (fun h9 => ?_)
              · have h10 : op + 1 ≤ 4 := (nI_leI (b := 4) (by omega) (by omega)).mp h9
                exact good (op + 1) h10 (by simp only [pd_wf]; rw [if_neg (by omega), if_pos h3, if_pos h10])
              · have h10 : ¬ op + 1 ≤ 4 := fun q => h9 (nI_le (b := 4) q (by omega))
                exact bed (op + 1) (fun q => by omega) (fun q => by simp only [pd_wf]; rw [if_neg (by omega), if_pos h3, if_neg h10])
set_option maxRecDepth 100000 in
set_option maxHeartbeats 1000000 in
theorem t_weekFault {pd : List Nat} {B : Nat} (hB : mu 19 0 = nI B) (hB6 : 2 ≤ B ∧ B ≤ 6) (hN : mu 19 6 = nI pd.length) (hP : ∀ k b, pd[k]? = some b → mu 22 k = nI b) (hp : dOK pd) (hd : 2 ≤ d) : pm_T cx mX11_weekFault d 0 0 [.ref 19] (sh_ i0 i1 ex) mu nu (pm_ret (some (.int (nO (pd_wf B 0 0 pd)))) (sh_ i0 i1 ex) mu nu) := by
  refine pm_enterN 4 (by exact okX11_weekFault) rfl ?_; dsimp only [pm_la, pm_cat2, List.replicate, List.cons_append, List.nil_append, List.append_nil]
  refine pm_go 4 (by exact okX11_weekFault) rfl ?_; (try dsimp only [pm_st1, pm_st2, pm_cat2, pm_la, Option.toList, List.cons_append, List.nil_append])
  exact t_weekFault_l hB hB6 hN hP hp hd pd 0 0 rfl (by omega) (by omega) ⟨rfl, rfl, rfl, rfl⟩
theorem tb_set {us b j : Nat} : (us ||| 2 ^ b).testBit j = (us.testBit j || decide (b = j)) := by
  rw [Nat.testBit_or, Nat.testBit_two_pow]
theorem or_lt {us b : Nat} (h : us < 64) (hb : b < 6) : us ||| 2 ^ b < 64 := Nat.or_lt_two_pow (n := 6) h (Nat.pow_lt_pow_right (by omega) hb)
theorem nI_shl1 {b : Nat} (hb : b < 30) : (1 : Int32) <<< (nI b &&& 31) = nI (2 ^ b) := by
  have h2 : 2 ^ b < 2 ^ 30 := Nat.pow_lt_pow_right (by omega) hb
  rw [show (1 : Int32) = nI 1 from rfl, pk_shlN (n := 1) _ b (sl_ b (by omega)) (by omega), Nat.one_mul]
theorem nI_or (a b : Nat) : nI a ||| nI b = nI (a ||| b) := fa_or a b
set_option maxRecDepth 100000 in
set_option maxHeartbeats 1000000 in
theorem t_orderFault_l {Q : pm_Po} {pd : List Nat} {B : Nat} (hB : mu 19 0 = nI B) (hB6 : 2 ≤ B ∧ B ≤ 6) (hN : mu 19 6 = nI pd.length) (hP : ∀ k b, pd[k]? = some b → mu 22 k = nI b) (hp : dOK pd) (hd : 2 ≤ d) : ∀ (r : List Nat) (k us : Nat), pd.drop k = r → k ≤ pd.length → us < 64 → Q (some (.int (nO (pd_of B k us r)))) (sh_ i0 i1 ex) mu nu → pm_G cx (mX11_orderFault, d, 0, 0, n0, Q) 0 0 4 [some (.ref 19), some (.int (nI us)), some (.int (nI k)), none] [] (sh_ i0 i1 ex) mu nu := by
  intro r
  have hp1 := hp.1
  induction r with
  | nil =>
    intro k us hr hk hu hq
    have hk := drop_nil hr hk
    simp only [pd_of] at hq
    refine pm_go 9999 (by exact okX11_orderFault) rfl ?_; (try dsimp only [pm_st1, pm_st2, pm_cat2, pm_la, Option.toList, List.cons_append, List.nil_append])
    rw [hN]
    refine pm_ige (by exact okX11_orderFault) rfl (fun h1 => ?_) (fun h1 => ?_)
    · refine pm_go 9999 (by exact okX11_orderFault) rfl ?_; (try dsimp only [pm_st1, pm_st2, pm_cat2, pm_la, Option.toList, List.cons_append, List.nil_append])
      rw [hN, hB]
      refine pm_ige (by exact okX11_orderFault) rfl (fun h2 => ?_) (fun h2 => ?_)
      · have h3 : ¬ k < B := by
          have := (nI_leI (by omega) (by omega)).mp h2
          omega
        rw [if_neg h3] at hq
        refine pm_go 9999 (by exact okX11_orderFault) rfl ?_; (try dsimp only [pm_st1, pm_st2, pm_cat2, pm_la, Option.toList, List.cons_append, List.nil_append])
        refine pm_ri (by exact okX11_orderFault) rfl rfl rfl (Nat.le_refl _) (Nat.le_refl _) (hq)
      · have h3 : k < B := by
          rcases Nat.lt_or_ge k B with q | q
          · exact q
          · exact absurd (nI_le (by omega) (by omega)) h2
        rw [if_pos h3] at hq
        refine pm_go 9999 (by exact okX11_orderFault) rfl ?_; (try dsimp only [pm_st1, pm_st2, pm_cat2, pm_la, Option.toList, List.cons_append, List.nil_append])
        rw [hN, ← hk]
        refine pm_ri (by exact okX11_orderFault) rfl rfl rfl (Nat.le_refl _) (Nat.le_refl _) (hq)
    · exact absurd (nI_le (by omega) (by omega)) h1
  | cons c r ih =>
    intro k us hr hk hu hq
    obtain ⟨g1, g2, g3⟩ := drop_get hr
    have hc := hp.2 c (mem_drop hr)
    simp only [pd_of] at hq
    refine pm_go 9999 (by exact okX11_orderFault) rfl ?_; (try dsimp only [pm_st1, pm_st2, pm_cat2, pm_la, Option.toList, List.cons_append, List.nil_append])
    rw [hN]
    refine pm_ige (by exact okX11_orderFault) rfl (fun h1 => ?_) (fun h1 => ?_)
    · exact absurd h1 (nI_ge (by omega) (by omega))
    · refine pm_go 9999 (by exact okX11_orderFault) rfl ?_; (try dsimp only [pm_st1, pm_st2, pm_cat2, pm_la, Option.toList, List.cons_append, List.nil_append])
      refine pm_ial (by exact okX11_orderFault) rfl rfl (vp_in_nI (by omega) (by omega)) ?_
      rw [nI_clamp (by omega), hP k _ g1]
      refine pm_go 9999 (by exact okX11_orderFault) rfl ?_; (try dsimp only [pm_st1, pm_st2, pm_cat2, pm_la, Option.toList, List.cons_append, List.nil_append])
      refine pm_cv (by exact okX11_orderFault) (by exact okX11_isBed) rfl (by exact arX11_isBed) (t_isBed (d := 1) (nI c - 97) hB (by omega) (by omega)) rfl rfl rfl (by dsimp only; omega) rfl (Nat.le_of_ble_eq_true rfl) ⟨Nat.zero_le _, Nat.zero_le _⟩ ?_
      rintro _ _ _ _ ⟨rfl, rfl, rfl, rfl⟩ -
      refine pm_go 9999 (by exact okX11_orderFault) rfl ?_; (try dsimp only [pm_st1, pm_st2, pm_cat2, pm_la, Option.toList, List.cons_append, List.nil_append])
      rw [bI_c (nI_sub97 hc hB6.2)]
      refine pm_zeq (by exact okX11_orderFault) rfl (fun h9 => ?_) (fun h9 => ?_)
      · have h9 := bI_z.mp h9
        rw [if_neg (fun q => h9 q.1)] at hq
        refine pm_go 9999 (by exact okX11_orderFault) rfl ?_; (try dsimp only [pm_st1, pm_st2, pm_cat2, pm_la, Option.toList, List.cons_append, List.nil_append])
        refine pm_ri (by exact okX11_orderFault) rfl rfl rfl (Nat.le_refl _) (Nat.le_refl _) (hq)
      · have h9 := bI_n.mp h9
        rw [show (97 : Int32) = nI 97 from rfl, pk_sub h9.1]
        refine pm_go 9999 (by exact okX11_orderFault) rfl ?_; (try dsimp only [pm_st1, pm_st2, pm_cat2, pm_la, Option.toList, List.cons_append, List.nil_append])
        refine pm_cs (by exact okX11_orderFault) (by exact okX11_has) rfl (by exact arX11_has) (t_has (d := 0) (s := us) (k := c - 97) (by omega) (by omega)) rfl (by dsimp only; omega) rfl (Nat.le_of_ble_eq_true rfl) ⟨Nat.zero_le _, Nat.zero_le _⟩ ?_
        rintro _ _ _ _ ⟨rfl, rfl, rfl, rfl⟩ -
        refine pm_go 4 (by exact okX11_orderFault) rfl ?_; (try dsimp only [pm_st1, pm_st2, pm_cat2, pm_la, Option.toList, List.cons_append, List.nil_append])
        refine pm_zeq (by exact okX11_orderFault) rfl (fun h10 => ?_) (fun h10 => ?_)
        · have h10 := bI_z.mp h10
          rw [if_pos ⟨h9, h10⟩] at hq
          refine pm_go 4 (by exact okX11_orderFault) rfl ?_; (try dsimp only [pm_st1, pm_st2, pm_cat2, pm_la, Option.toList, List.cons_append, List.nil_append])
          rw [nI_shl1 (by omega), nI_or, nI_1]
          refine pm_G.fg [false, false, false, true] ?_; dsimp only [pm_fg]
          exact ih (k + 1) _ g2 (by omega) (or_lt hu (by omega)) hq
        · have h10 := bI_n.mp h10
          rw [if_neg (fun q => q.2 h10)] at hq
          refine pm_go 9999 (by exact okX11_orderFault) rfl ?_; (try dsimp only [pm_st1, pm_st2, pm_cat2, pm_la, Option.toList, List.cons_append, List.nil_append])
          refine pm_ri (by exact okX11_orderFault) rfl rfl rfl (Nat.le_refl _) (Nat.le_refl _) (hq)
set_option maxRecDepth 100000 in
set_option maxHeartbeats 1000000 in
theorem t_orderFault {pd : List Nat} {B : Nat} (hB : mu 19 0 = nI B) (hB6 : 2 ≤ B ∧ B ≤ 6) (hN : mu 19 6 = nI pd.length) (hP : ∀ k b, pd[k]? = some b → mu 22 k = nI b) (hp : dOK pd) (hd : 2 ≤ d) : pm_T cx mX11_orderFault d 0 0 [.ref 19] (sh_ i0 i1 ex) mu nu (pm_ret (some (.int (nO (pd_of B 0 0 pd)))) (sh_ i0 i1 ex) mu nu) := by
  refine pm_enterN 3 (by exact okX11_orderFault) rfl ?_; dsimp only [pm_la, pm_cat2, List.replicate, List.cons_append, List.nil_append, List.append_nil]
  refine pm_go 4 (by exact okX11_orderFault) rfl ?_; (try dsimp only [pm_st1, pm_st2, pm_cat2, pm_la, Option.toList, List.cons_append, List.nil_append])
  exact t_orderFault_l hB hB6 hN hP hp hd pd 0 0 rfl (by omega) (by omega) ⟨rfl, rfl, rfl, rfl⟩
theorem mcol_eq {c : Nat} (hc : 33 ≤ c ∧ c ≤ 126) : (if nI c = 114 then (0 : Int32) else if nI c = 119 then 1 else if nI c = 121 then 2 else if nI c = 112 then 3 else if nI c = 63 then 4 else -6) = nO (pd_co c) := by
  have e : ∀ m, m < 127 → (nI c = nI m ↔ c = m) := fun m hm => nI_eq (by omega) (by omega)
  unfold pd_co
  rw [show (114 : Int32) = nI 114 from rfl, show (119 : Int32) = nI 119 from rfl, show (121 : Int32) = nI 121 from rfl, show (112 : Int32) = nI 112 from rfl, show (63 : Int32) = nI 63 from rfl]
  by_cases h1 : c = 114
  · rw [if_pos ((e 114 (by omega)).mpr h1), if_pos h1]; rfl
  · rw [if_neg (fun q => h1 ((e 114 (by omega)).mp q)), if_neg h1]
    by_cases h2 : c = 119
    · rw [if_pos ((e 119 (by omega)).mpr h2), if_pos h2]; rfl
    · rw [if_neg (fun q => h2 ((e 119 (by omega)).mp q)), if_neg h2]
      by_cases h3 : c = 121
      · rw [if_pos ((e 121 (by omega)).mpr h3), if_pos h3]; rfl
      · rw [if_neg (fun q => h3 ((e 121 (by omega)).mp q)), if_neg h3]
        by_cases h4 : c = 112
        · rw [if_pos ((e 112 (by omega)).mpr h4), if_pos h4]; rfl
        · rw [if_neg (fun q => h4 ((e 112 (by omega)).mp q)), if_neg h4]
          by_cases h5 : c = 63
          · rw [if_pos ((e 63 (by omega)).mpr h5), if_pos h5]; rfl
          · rw [if_neg (fun q => h5 ((e 63 (by omega)).mp q)), if_neg h5]; rfl
theorem pd_co_lt {c x : Nat} (h : pd_co c = some x) : x ≤ 4 := by
  unfold pd_co at h
  repeat' split at h
  all_goals first | (cases h; omega) | cases h
set_option maxRecDepth 100000 in
set_option maxHeartbeats 1000000 in
theorem t_wishFault_l {Q : pm_Po} {pd : List Nat} {B : Nat} (hB : mu 19 0 = nI B) (hB6 : 2 ≤ B ∧ B ≤ 6) (hN : mu 19 6 = nI pd.length) (hP : ∀ k b, pd[k]? = some b → mu 22 k = nI b) (hp : dOK pd) (hd : 1 ≤ d) : ∀ (r : List Nat) (k : Nat), pd.drop k = r → k ≤ pd.length → Q (some (.int (nO (pd_if B k r)))) (sh_ i0 i1 ex) mu nu → pm_G cx (mX11_wishFault, d, 0, 0, n0, Q) 0 0 2 [some (.ref 19), some (.int (nI k))] [] (sh_ i0 i1 ex) mu nu := by
  intro r
  have hp1 := hp.1
  induction r with
  | nil =>
    intro k hr hk hq
    have hk := drop_nil hr hk
    simp only [pd_if] at hq
    refine pm_go 9999 (by exact okX11_wishFault) rfl ?_; (try dsimp only [pm_st1, pm_st2, pm_cat2, pm_la, Option.toList, List.cons_append, List.nil_append])
    rw [hN]
    refine pm_ige (by exact okX11_wishFault) rfl (fun h1 => ?_) (fun h1 => ?_)
    · refine pm_go 9999 (by exact okX11_wishFault) rfl ?_; (try dsimp only [pm_st1, pm_st2, pm_cat2, pm_la, Option.toList, List.cons_append, List.nil_append])
      rw [hN]
      refine pm_zne (by exact okX11_wishFault) rfl (fun h2 => ?_) (fun h2 => ?_)
      · rw [if_neg (fun q => h2 (by rw [← hk, q]; rfl))] at hq
        refine pm_go 9999 (by exact okX11_wishFault) rfl ?_; (try dsimp only [pm_st1, pm_st2, pm_cat2, pm_la, Option.toList, List.cons_append, List.nil_append])
        refine pm_ri (by exact okX11_wishFault) rfl rfl rfl (Nat.le_refl _) (Nat.le_refl _) (hq)
      · have h3 : pd.length = 0 := (nI_eq (b := 0) (by omega) (by omega)).mp h2
        rw [if_pos (by omega)] at hq
        refine pm_go 9999 (by exact okX11_wishFault) rfl ?_; (try dsimp only [pm_st1, pm_st2, pm_cat2, pm_la, Option.toList, List.cons_append, List.nil_append])
        refine pm_ri (by exact okX11_wishFault) rfl rfl rfl (Nat.le_refl _) (Nat.le_refl _) (hq)
    · exact absurd (nI_le (by omega) (by omega)) h1
  | cons c r ih =>
    intro k hr hk hq
    obtain ⟨g1, g2, g3⟩ := drop_get hr
    have hc := hp.2 c (mem_drop hr)
    simp only [pd_if] at hq
    refine pm_go 9999 (by exact okX11_wishFault) rfl ?_; (try dsimp only [pm_st1, pm_st2, pm_cat2, pm_la, Option.toList, List.cons_append, List.nil_append])
    rw [hN]
    refine pm_ige (by exact okX11_wishFault) rfl (fun h1 => ?_) (fun h1 => ?_)
    · exact absurd h1 (nI_ge (by omega) (by omega))
    · refine pm_go 9999 (by exact okX11_wishFault) rfl ?_; (try dsimp only [pm_st1, pm_st2, pm_cat2, pm_la, Option.toList, List.cons_append, List.nil_append])
      rw [hB]
      refine pm_ieq (by exact okX11_wishFault) rfl (fun h2 => ?_) (fun h2 => ?_)
      · have h3 : k = B := (nI_eq (by omega) (by omega)).mp h2
        rw [if_pos (Or.inl h3)] at hq
        refine pm_go 9999 (by exact okX11_wishFault) rfl ?_; (try dsimp only [pm_st1, pm_st2, pm_cat2, pm_la, Option.toList, List.cons_append, List.nil_append])
        refine pm_ri (by exact okX11_wishFault) rfl rfl rfl (Nat.le_refl _) (Nat.le_refl _) (hq)
      · have h3 : ¬ k = B := fun q => h2 (by rw [q])
        refine pm_go 9999 (by exact okX11_wishFault) rfl ?_; (try dsimp only [pm_st1, pm_st2, pm_cat2, pm_la, Option.toList, List.cons_append, List.nil_append])
        refine pm_ial (by exact okX11_wishFault) rfl rfl (vp_in_nI (by omega) (by omega)) ?_
        rw [nI_clamp (by omega), hP k _ g1]
        refine pm_cs (by exact okX11_wishFault) (by exact okX11_colourOf) rfl (by exact arX11_colourOf) (t_mcolourOf (d := 0) (nI c)) rfl (by dsimp only; omega) rfl (Nat.le_of_ble_eq_true rfl) ⟨Nat.zero_le _, Nat.zero_le _⟩ ?_
        rintro _ _ _ _ ⟨rfl, rfl, rfl, rfl⟩ -
        refine pm_go 9999 (by exact okX11_wishFault) rfl ?_; (try dsimp only [pm_st1, pm_st2, pm_cat2, pm_la, Option.toList, List.cons_append, List.nil_append])
        rw [mcol_eq hc]
        cases hco : pd_co c with
        | none =>
          rw [if_pos (Or.inr hco)] at hq
          refine pm_zge (by exact okX11_wishFault) rfl (fun h4 => ?_) (fun h4 => ?_)
          · exact absurd h4 (by decide)
          · refine pm_go 9999 (by exact okX11_wishFault) rfl ?_; (try dsimp only [pm_st1, pm_st2, pm_cat2, pm_la, Option.toList, List.cons_append, List.nil_append])
            refine pm_ri (by exact okX11_wishFault) rfl rfl rfl (Nat.le_refl _) (Nat.le_refl _) (hq)
        | some x =>
          have hx := pd_co_lt hco
          rw [if_neg (by rintro (q | q); exact h3 q; rw [hco] at q; cases q)] at hq
          refine pm_zge (by exact okX11_wishFault) rfl (fun h4 => ?_) (fun h4 => ?_)
          · refine pm_go 2 (by exact okX11_wishFault) rfl ?_; (try dsimp only [pm_st1, pm_st2, pm_cat2, pm_la, Option.toList, List.cons_append, List.nil_append])
            rw [nI_1]
            exact ih (k + 1) g2 (by omega) hq
          · exact absurd (nI_pos' (by omega)) h4
set_option maxRecDepth 100000 in
set_option maxHeartbeats 1000000 in
theorem t_wishFault {pd : List Nat} {B : Nat} (hB : mu 19 0 = nI B) (hB6 : 2 ≤ B ∧ B ≤ 6) (hN : mu 19 6 = nI pd.length) (hP : ∀ k b, pd[k]? = some b → mu 22 k = nI b) (hp : dOK pd) (hd : 1 ≤ d) : pm_T cx mX11_wishFault d 0 0 [.ref 19] (sh_ i0 i1 ex) mu nu (pm_ret (some (.int (nO (pd_if B 0 pd)))) (sh_ i0 i1 ex) mu nu) := by
  refine pm_enterN 1 (by exact okX11_wishFault) rfl ?_; dsimp only [pm_la, pm_cat2, List.replicate, List.cons_append, List.nil_append, List.append_nil]
  refine pm_go 2 (by exact okX11_wishFault) rfl ?_; (try dsimp only [pm_st1, pm_st2, pm_cat2, pm_la, Option.toList, List.cons_append, List.nil_append])
  exact t_wishFault_l hB hB6 hN hP hp hd pd 0 rfl (by omega) ⟨rfl, rfl, rfl, rfl⟩
def sp_fault (z : mS) (how : Int32) : Int32 := if how = 0 then nO (pd_wf (gB z.1) 0 0 z.2.1) else if how = 1 then nO (pd_of (gB z.1) 0 0 z.2.1) else if how = 2 then nO (pd_if (gB z.1) 0 z.2.1) else -2
set_option maxRecDepth 100000 in
set_option maxHeartbeats 1000000 in
theorem M_fault {z : mS} (how : Int32) (hz : zOK z) (h : MA z mu) (hd : 3 ≤ d) : pm_T cx mX11_fault d 0 0 [.ref 19, .int how] (sh_ i0 i1 ex) mu nu (mQ (.int (sp_fault z how)) z i0 i1 ex mu) := by
  obtain ⟨⟨a1, a2, a3, a4, a5, a6, a7, a8, a9, b1, b2, b3, b4, b5⟩, c1, c2⟩ := id h
  obtain ⟨⟨hB6, -⟩, hp, -⟩ := hz
  unfold sp_fault
  refine pm_enterN 0 (by exact okX11_fault) rfl ?_; dsimp only [pm_la, pm_cat2, List.replicate, List.cons_append, List.nil_append, List.append_nil]
  refine pm_go 9999 (by exact okX11_fault) rfl ?_; (try dsimp only [pm_st1, pm_st2, pm_cat2, pm_la, Option.toList, List.cons_append, List.nil_append])
  refine pm_zne (by exact okX11_fault) rfl (fun h1 => ?_) (fun h1 => ?_)
  · rw [if_neg h1]
    refine pm_go 9999 (by exact okX11_fault) rfl ?_; (try dsimp only [pm_st1, pm_st2, pm_cat2, pm_la, Option.toList, List.cons_append, List.nil_append])
    refine pm_ine (by exact okX11_fault) rfl (fun h2 => ?_) (fun h2 => ?_)
    · rw [if_neg h2]
      refine pm_go 9999 (by exact okX11_fault) rfl ?_; (try dsimp only [pm_st1, pm_st2, pm_cat2, pm_la, Option.toList, List.cons_append, List.nil_append])
      refine pm_ine (by exact okX11_fault) rfl (fun h3 => ?_) (fun h3 => ?_)
      · rw [if_neg h3]
        refine pm_go 9999 (by exact okX11_fault) rfl ?_; (try dsimp only [pm_st1, pm_st2, pm_cat2, pm_la, Option.toList, List.cons_append, List.nil_append])
        refine pm_ri (by exact okX11_fault) rfl rfl rfl (Nat.le_refl _) (Nat.le_refl _) (⟨rfl, rfl, h, fM.rf⟩)
      · rw [if_pos h3]
        refine pm_go 9999 (by exact okX11_fault) rfl ?_; (try dsimp only [pm_st1, pm_st2, pm_cat2, pm_la, Option.toList, List.cons_append, List.nil_append])
        refine pm_cv (by exact okX11_fault) (by exact okX11_wishFault) rfl (by exact arX11_wishFault) (t_wishFault (d := 2) a1 hB6 a5 b3 hp (by omega)) rfl rfl rfl (by dsimp only; omega) rfl (Nat.le_of_ble_eq_true rfl) ⟨Nat.zero_le _, Nat.zero_le _⟩ ?_
        rintro _ _ _ _ ⟨rfl, rfl, rfl, rfl⟩ -
        refine pm_go 9999 (by exact okX11_fault) rfl ?_; (try dsimp only [pm_st1, pm_st2, pm_cat2, pm_la, Option.toList, List.cons_append, List.nil_append])
        refine pm_ri (by exact okX11_fault) rfl rfl rfl (Nat.le_refl _) (Nat.le_refl _) (⟨rfl, rfl, h, fM.rf⟩)
    · rw [if_pos h2]
      refine pm_go 9999 (by exact okX11_fault) rfl ?_; (try dsimp only [pm_st1, pm_st2, pm_cat2, pm_la, Option.toList, List.cons_append, List.nil_append])
      refine pm_cv (by exact okX11_fault) (by exact okX11_orderFault) rfl (by exact arX11_orderFault) (t_orderFault (d := 2) a1 hB6 a5 b3 hp (by omega)) rfl rfl rfl (by dsimp only; omega) rfl (Nat.le_of_ble_eq_true rfl) ⟨Nat.zero_le _, Nat.zero_le _⟩ ?_
      rintro _ _ _ _ ⟨rfl, rfl, rfl, rfl⟩ -
      refine pm_go 9999 (by exact okX11_fault) rfl ?_; (try dsimp only [pm_st1, pm_st2, pm_cat2, pm_la, Option.toList, List.cons_append, List.nil_append])
      refine pm_ri (by exact okX11_fault) rfl rfl rfl (Nat.le_refl _) (Nat.le_refl _) (⟨rfl, rfl, h, fM.rf⟩)
  · rw [if_pos h1]
    refine pm_go 9999 (by exact okX11_fault) rfl ?_; (try dsimp only [pm_st1, pm_st2, pm_cat2, pm_la, Option.toList, List.cons_append, List.nil_append])
    refine pm_cv (by exact okX11_fault) (by exact okX11_weekFault) rfl (by exact arX11_weekFault) (t_weekFault (d := 2) a1 hB6 a5 b3 hp (by omega)) rfl rfl rfl (by dsimp only; omega) rfl (Nat.le_of_ble_eq_true rfl) ⟨Nat.zero_le _, Nat.zero_le _⟩ ?_
    rintro _ _ _ _ ⟨rfl, rfl, rfl, rfl⟩ -
    refine pm_go 9999 (by exact okX11_fault) rfl ?_; (try dsimp only [pm_st1, pm_st2, pm_cat2, pm_la, Option.toList, List.cons_append, List.nil_append])
    refine pm_ri (by exact okX11_fault) rfl rfl rfl (Nat.le_refl _) (Nat.le_refl _) (⟨rfl, rfl, h, fM.rf⟩)
end

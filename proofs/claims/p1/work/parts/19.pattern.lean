/-! ===== the reference's pattern, orders ===== -/
/-- the first answer of f from lo on, n places -/
def ff_ {R : Type} (f : Nat → Option R) : Nat → Nat → Option R
  | _, 0 => none
  | lo, n + 1 => match f lo with
    | some x => some x
    | none => ff_ f (lo + 1) n
def pt_c (pd : List Nat) (a b : Nat) (c : Nat) : Option (Nat × Nat × Nat) := if pd.getD b 0 < pd.getD c 0 ∧ pd.getD c 0 < pd.getD a 0 then some (a, b, c) else none
def pt_b (pd : List Nat) (B a : Nat) (b : Nat) : Option (Nat × Nat × Nat) := ff_ (pt_c pd a b) (b + 1) (B - (b + 1))
def pt_a (pd : List Nat) (B : Nat) (a : Nat) : Option (Nat × Nat × Nat) := ff_ (pt_b pd B a) (a + 1) (B - (a + 1))
def pt_ (pd : List Nat) (B : Nat) : Option (Nat × Nat × Nat) := ff_ (pt_a pd B) 0 B
def sp_pattern (z : mS) (i : Int32) : Int32 :=
  if ¬ (0 ≤ i ∧ i ≤ 2) then -2 else if pd_of (gB z.1) 0 0 z.2.1 ≠ none then -5 else match pt_ z.2.1 (gB z.1) with
    | none => -6
    | some q => if i = 0 then nI q.1 else if i = 1 then nI q.2.1 else nI q.2.2
theorem pd_of_lt {B : Nat} : ∀ (r : List Nat) (k us b : Nat), pd_of B k us r = some b → b ≤ k + r.length := by
  intro r
  induction r with
  | nil => intro k us b h; simp only [pd_of] at h; split at h <;> cases h; simp
  | cons c r ih =>
    intro k us b h
    simp only [pd_of] at h
    simp only [List.length_cons]
    split at h
    · have := ih _ _ _ h; omega
    · cases h; omega
/-- an ORDER without a FAULT: at least as many signs as BEDS, letters all -/
theorem pd_of_ok {B : Nat} : ∀ (r : List Nat) (k us : Nat), pd_of B k us r = none → B ≤ k + r.length ∧ (∀ c ∈ r, 97 ≤ c ∧ c < 97 + B) ∧ r.Nodup ∧ ∀ c ∈ r, us.testBit (c - 97) = false := by
  intro r
  induction r with
  | nil =>
    intro k us h
    simp only [pd_of] at h
    split at h
    · cases h
    · exact ⟨by simp; omega, fun c hc => (List.not_mem_nil hc).elim, List.nodup_nil, fun c hc => (List.not_mem_nil hc).elim⟩
  | cons c r ih =>
    intro k us h
    simp only [pd_of] at h
    split at h
    · rename_i hc
      obtain ⟨g1, g2, g3, g4⟩ := ih _ _ h
      have key : ∀ x ∈ r, x ≠ c ∧ us.testBit (x - 97) = false := by
        intro x hx
        have q := g4 x hx
        rw [tb_set, Bool.or_eq_false_iff] at q
        refine ⟨fun e => ?_, q.1⟩
        subst e
        simp at q
      refine ⟨by simp only [List.length_cons]; omega, fun x hx => ?_, List.nodup_cons.mpr ⟨fun q => (key c q).1 rfl, g3⟩, fun x hx => ?_⟩
      · rcases List.mem_cons.mp hx with rfl | hx
        · exact hc.1
        · exact g2 x hx
      · rcases List.mem_cons.mp hx with rfl | hx
        · simpa using hc.2
        · exact (key x hx).2
    · cases h
theorem pd_of_len {B : Nat} {pd : List Nat} (h : pd_of B 0 0 pd = none) (hB : B ≤ 6) : pd.length = B := by
  obtain ⟨g1, g2, g3, -⟩ := pd_of_ok pd 0 0 h
  have : pd.length ≤ B := by
    refine fb_holes B pd.length (fun i => pd.getD i 0 - 97) (fun i hi => ?_) (fun i j hij hj => ?_)
    · simp only [List.getD_eq_getElem?_getD, List.getElem?_eq_getElem hi, Option.getD_some]
      have := g2 _ (List.getElem_mem hi)
      omega
    · simp only [List.getD_eq_getElem?_getD, List.getElem?_eq_getElem hj, List.getElem?_eq_getElem (Nat.lt_trans hij hj), Option.getD_some]
      intro q
      have q1 := g2 _ (List.getElem_mem hj)
      have q2 := g2 _ (List.getElem_mem (Nat.lt_trans hij hj))
      have := (List.getElem_inj g3).mp (show pd[i] = pd[j] by omega)
      omega
  omega
section
variable {cx : pm_CX} {d n0 : Nat} {i0 i1 : Option Nat} {ex : List pm_C} {mu : pm_I} {nu : pm_J}
set_option maxRecDepth 100000 in
set_option maxHeartbeats 1000000 in
theorem M_pattern_c {Q : pm_Po} {pd : List Nat} {B a b : Nat} {x1 : Int32} (hB : mu 19 0 = nI B) (hB6 : B ≤ 6) (hpl : pd.length = B) (hP : ∀ k b, pd[k]? = some b → mu 22 k = nI b) (hp : dOK pd) (ha : a < B) (hb : b < B) (found : ∀ q : Nat × Nat × Nat, ff_ (pt_c pd a b) (b + 1) (B - (b + 1)) = some q → q.1 < B → q.2.1 < B → q.2.2 < B → pm_G cx (mX11_pattern, d, 0, 0, n0, Q) 0 0 90 [some (.ref 19), some (.int x1), some (.int (nI q.1)), some (.int (nI q.2.1)), some (.int (nI q.2.2))] [] (sh_ i0 i1 ex) mu nu) (out : ff_ (pt_c pd a b) (b + 1) (B - (b + 1)) = none → pm_G cx (mX11_pattern, d, 0, 0, n0, Q) 0 0 116 [some (.ref 19), some (.int x1), some (.int (nI a)), some (.int (nI b)), none] [] (sh_ i0 i1 ex) mu nu) : ∀ (j c : Nat), c + j = B → ff_ (pt_c pd a b) (b + 1) (B - (b + 1)) = ff_ (pt_c pd a b) c j → pm_G cx (mX11_pattern, d, 0, 0, n0, Q) 0 0 49 [some (.ref 19), some (.int x1), some (.int (nI a)), some (.int (nI b)), some (.int (nI c))] [] (sh_ i0 i1 ex) mu nu := by
  have hget : ∀ k, k < B → mu 22 k = nI (pd.getD k 0) ∧ pd.getD k 0 ≤ 126 := by
    intro k hk
    have h1 := List.getElem?_eq_getElem (l := pd) (i := k) (by omega)
    rw [List.getD_eq_getElem?_getD, h1, Option.getD_some]
    exact ⟨hP k _ h1, (hp.2 _ (List.getElem_mem _)).2⟩
  intro j
  induction j with
  | zero =>
    intro c hc he
    refine pm_go 9999 (by exact okX11_pattern) rfl ?_; (try dsimp only [pm_st1, pm_st2, pm_cat2, pm_la, Option.toList, List.cons_append, List.nil_append])
    rw [hB]
    refine pm_ige (by exact okX11_pattern) rfl (fun h1 => ?_) (fun h1 => ?_)
    · refine pm_G.fg [false, false, false, false, true] ?_; dsimp only [pm_fg]
      exact out (by rw [he]; rfl)
    · exact absurd (nI_le (by omega) (by omega)) h1
  | succ j ih =>
    intro c hc he
    obtain ⟨ga, la⟩ := hget a ha
    obtain ⟨gb, lb⟩ := hget b hb
    obtain ⟨gc, lc⟩ := hget c (by omega)
    have no : ¬ (pd.getD b 0 < pd.getD c 0 ∧ pd.getD c 0 < pd.getD a 0) → pm_G cx (mX11_pattern, d, 0, 0, n0, Q) 0 0 110 [some (.ref 19), some (.int x1), some (.int (nI a)), some (.int (nI b)), some (.int (nI c))] [] (sh_ i0 i1 ex) mu nu := by
      intro hn
      refine pm_go 49 (by exact okX11_pattern) rfl ?_; (try dsimp only [pm_st1, pm_st2, pm_cat2, pm_la, Option.toList, List.cons_append, List.nil_append])
      rw [nI_1]
      refine ih (c + 1) (by omega) ?_
      rw [he]
      simp only [ff_]
      rw [show pt_c pd a b c = none from if_neg hn]
    refine pm_go 9999 (by exact okX11_pattern) rfl ?_; (try dsimp only [pm_st1, pm_st2, pm_cat2, pm_la, Option.toList, List.cons_append, List.nil_append])
    rw [hB]
    refine pm_ige (by exact okX11_pattern) rfl (fun h1 => ?_) (fun h1 => ?_)
    · exact absurd h1 (nI_ge (by omega) (by omega))
    · refine pm_go 9999 (by exact okX11_pattern) rfl ?_; (try dsimp only [pm_st1, pm_st2, pm_cat2, pm_la, Option.toList, List.cons_append, List.nil_append])
      refine pm_ial (by exact okX11_pattern) rfl rfl (vp_in_nI (by omega) (by omega)) ?_
      rw [nI_clamp (by omega), gb]
      refine pm_go 9999 (by exact okX11_pattern) rfl ?_; (try dsimp only [pm_st1, pm_st2, pm_cat2, pm_la, Option.toList, List.cons_append, List.nil_append])
      refine pm_ial (by exact okX11_pattern) rfl rfl (vp_in_nI (by omega) (by omega)) ?_
      rw [nI_clamp (by omega), gc]
      refine pm_ige (by exact okX11_pattern) rfl (fun h2 => ?_) (fun h2 => ?_)
      · have := (nI_leI (by omega) (by omega)).mp h2
        exact no (by omega)
      · have h2 : pd.getD b 0 < pd.getD c 0 := by
          rcases Nat.lt_or_ge (pd.getD b 0) (pd.getD c 0) with q | q
          · exact q
          · exact absurd (nI_le q (by omega)) h2
        refine pm_go 9999 (by exact okX11_pattern) rfl ?_; (try dsimp only [pm_st1, pm_st2, pm_cat2, pm_la, Option.toList, List.cons_append, List.nil_append])
        refine pm_ial (by exact okX11_pattern) rfl rfl (vp_in_nI (by omega) (by omega)) ?_
        rw [nI_clamp (by omega), gc]
        refine pm_go 9999 (by exact okX11_pattern) rfl ?_; (try dsimp only [pm_st1, pm_st2, pm_cat2, pm_la, Option.toList, List.cons_append, List.nil_append])
        refine pm_ial (by exact okX11_pattern) rfl rfl (vp_in_nI (by omega) (by omega)) ?_
        rw [nI_clamp (by omega), ga]
        refine pm_ige (by exact okX11_pattern) rfl (fun h3 => ?_) (fun h3 => ?_)
        · have := (nI_leI (by omega) (by omega)).mp h3
          exact no (by omega)
        · have h3 : pd.getD c 0 < pd.getD a 0 := by
            rcases Nat.lt_or_ge (pd.getD c 0) (pd.getD a 0) with q | q
            · exact q
            · exact absurd (nI_le q (by omega)) h3
          exact found (a, b, c) (by rw [he]; simp only [ff_]; rw [show pt_c pd a b c = some (a, b, c) from if_pos ⟨h2, h3⟩]) ha hb (show c < B by omega)
set_option maxRecDepth 100000 in
set_option maxHeartbeats 1000000 in
theorem M_pattern_b {Q : pm_Po} {pd : List Nat} {B a : Nat} {x1 : Int32} (hB : mu 19 0 = nI B) (hB6 : B ≤ 6) (hpl : pd.length = B) (hP : ∀ k b, pd[k]? = some b → mu 22 k = nI b) (hp : dOK pd) (ha : a < B) (found : ∀ q : Nat × Nat × Nat, pt_a pd B a = some q → q.1 < B → q.2.1 < B → q.2.2 < B → pm_G cx (mX11_pattern, d, 0, 0, n0, Q) 0 0 90 [some (.ref 19), some (.int x1), some (.int (nI q.1)), some (.int (nI q.2.1)), some (.int (nI q.2.2))] [] (sh_ i0 i1 ex) mu nu) (out : pt_a pd B a = none → pm_G cx (mX11_pattern, d, 0, 0, n0, Q) 0 0 122 [some (.ref 19), some (.int x1), some (.int (nI a)), none, none] [] (sh_ i0 i1 ex) mu nu) : ∀ (j b : Nat), b + j = B → pt_a pd B a = ff_ (pt_b pd B a) b j → pm_G cx (mX11_pattern, d, 0, 0, n0, Q) 0 0 36 [some (.ref 19), some (.int x1), some (.int (nI a)), some (.int (nI b)), none] [] (sh_ i0 i1 ex) mu nu := by
  intro j
  induction j with
  | zero =>
    intro b hb he
    refine pm_go 9999 (by exact okX11_pattern) rfl ?_; (try dsimp only [pm_st1, pm_st2, pm_cat2, pm_la, Option.toList, List.cons_append, List.nil_append])
    rw [hB]
    refine pm_ige (by exact okX11_pattern) rfl (fun h1 => ?_) (fun h1 => ?_)
    · refine pm_G.fg [false, false, false, true, true] ?_; dsimp only [pm_fg]
      exact out (by rw [he]; rfl)
    · exact absurd (nI_le (by omega) (by omega)) h1
  | succ j ih =>
    intro b hb he
    refine pm_go 9999 (by exact okX11_pattern) rfl ?_; (try dsimp only [pm_st1, pm_st2, pm_cat2, pm_la, Option.toList, List.cons_append, List.nil_append])
    rw [hB]
    refine pm_ige (by exact okX11_pattern) rfl (fun h1 => ?_) (fun h1 => ?_)
    · exact absurd h1 (nI_ge (by omega) (by omega))
    · refine pm_go 49 (by exact okX11_pattern) rfl ?_; (try dsimp only [pm_st1, pm_st2, pm_cat2, pm_la, Option.toList, List.cons_append, List.nil_append])
      rw [nI_1]
      refine M_pattern_c hB hB6 hpl hP hp ha (show b < B by omega) (fun q hq q1 q2 q3 => found q (by rw [he]; simp only [ff_]; rw [show pt_b pd B a b = some q from hq]) q1 q2 q3) (fun hq => ?_) (B - (b + 1)) (b + 1) (by omega) rfl
      refine pm_go 36 (by exact okX11_pattern) rfl ?_; (try dsimp only [pm_st1, pm_st2, pm_cat2, pm_la, Option.toList, List.cons_append, List.nil_append])
      rw [nI_1]
      refine ih (b + 1) (by omega) ?_
      rw [he]
      simp only [ff_]
      rw [show pt_b pd B a b = none from hq]
set_option maxRecDepth 100000 in
set_option maxHeartbeats 1000000 in
theorem M_pattern_a {Q : pm_Po} {pd : List Nat} {B : Nat} {x1 : Int32} (hB : mu 19 0 = nI B) (hB6 : B ≤ 6) (hpl : pd.length = B) (hP : ∀ k b, pd[k]? = some b → mu 22 k = nI b) (hp : dOK pd) (found : ∀ q : Nat × Nat × Nat, pt_ pd B = some q → q.1 < B → q.2.1 < B → q.2.2 < B → pm_G cx (mX11_pattern, d, 0, 0, n0, Q) 0 0 90 [some (.ref 19), some (.int x1), some (.int (nI q.1)), some (.int (nI q.2.1)), some (.int (nI q.2.2))] [] (sh_ i0 i1 ex) mu nu) (out : pt_ pd B = none → pm_G cx (mX11_pattern, d, 0, 0, n0, Q) 0 0 128 [some (.ref 19), some (.int x1), none, none, none] [] (sh_ i0 i1 ex) mu nu) : ∀ (j a : Nat), a + j = B → pt_ pd B = ff_ (pt_a pd B) a j → pm_G cx (mX11_pattern, d, 0, 0, n0, Q) 0 0 24 [some (.ref 19), some (.int x1), some (.int (nI a)), none, none] [] (sh_ i0 i1 ex) mu nu := by
  intro j
  induction j with
  | zero =>
    intro a ha he
    refine pm_go 9999 (by exact okX11_pattern) rfl ?_; (try dsimp only [pm_st1, pm_st2, pm_cat2, pm_la, Option.toList, List.cons_append, List.nil_append])
    rw [hB]
    refine pm_ige (by exact okX11_pattern) rfl (fun h1 => ?_) (fun h1 => ?_)
    · refine pm_G.fg [false, false, true, true, true] ?_; dsimp only [pm_fg]
      exact out (by rw [he]; rfl)
    · exact absurd (nI_le (by omega) (by omega)) h1
  | succ j ih =>
    intro a ha he
    refine pm_go 9999 (by exact okX11_pattern) rfl ?_; (try dsimp only [pm_st1, pm_st2, pm_cat2, pm_la, Option.toList, List.cons_append, List.nil_append])
    rw [hB]
    refine pm_ige (by exact okX11_pattern) rfl (fun h1 => ?_) (fun h1 => ?_)
    · exact absurd h1 (nI_ge (by omega) (by omega))
    · refine pm_go 36 (by exact okX11_pattern) rfl ?_; (try dsimp only [pm_st1, pm_st2, pm_cat2, pm_la, Option.toList, List.cons_append, List.nil_append])
      rw [nI_1]
      refine M_pattern_b hB hB6 hpl hP hp (show a < B by omega) (fun q hq q1 q2 q3 => found q (by rw [he]; simp only [ff_]; rw [hq]) q1 q2 q3) (fun hq => ?_) (B - (a + 1)) (a + 1) (by omega) rfl
      refine pm_go 24 (by exact okX11_pattern) rfl ?_; (try dsimp only [pm_st1, pm_st2, pm_cat2, pm_la, Option.toList, List.cons_append, List.nil_append])
      rw [nI_1]
      refine ih (a + 1) (by omega) ?_
      rw [he]
      simp only [ff_]
      rw [hq]
set_option maxRecDepth 100000 in
set_option maxHeartbeats 1000000 in
theorem M_pattern {z : mS} (i : Int32) (hz : zOK z) (h : MA z mu) (hd : 3 ≤ d) : pm_T cx mX11_pattern d 0 0 [.ref 19, .int i] (sh_ i0 i1 ex) mu nu (mQ (.int (sp_pattern z i)) z i0 i1 ex mu) := by
  obtain ⟨⟨a1, a2, a3, a4, a5, a6, a7, a8, a9, b1, b2, b3, b4, b5⟩, c1, c2⟩ := id h
  obtain ⟨hg, hp, -⟩ := id hz
  have hB6 := hg.1
  have hp1 := hp.1
  unfold sp_pattern
  refine pm_enterN 3 (by exact okX11_pattern) rfl ?_; dsimp only [pm_la, pm_cat2, List.replicate, List.cons_append, List.nil_append, List.append_nil]
  refine pm_go 9999 (by exact okX11_pattern) rfl ?_; (try dsimp only [pm_st1, pm_st2, pm_cat2, pm_la, Option.toList, List.cons_append, List.nil_append])
  refine pm_cs (by exact okX11_pattern) (by exact okX11_in) rfl (by exact arX11_in) (t_in (d := 0) i 0 2) rfl (by dsimp only; omega) rfl (Nat.le_of_ble_eq_true rfl) ⟨Nat.zero_le _, Nat.zero_le _⟩ ?_
  rintro _ _ _ _ ⟨rfl, rfl, rfl, rfl⟩ -
  refine pm_go 9999 (by exact okX11_pattern) rfl ?_; (try dsimp only [pm_st1, pm_st2, pm_cat2, pm_la, Option.toList, List.cons_append, List.nil_append])
  refine pm_zne (by exact okX11_pattern) rfl (fun h1 => ?_) (fun h1 => ?_)
  · have h1 := bI_n.mp h1
    rw [if_neg (fun q => q h1)]
    refine pm_go 9999 (by exact okX11_pattern) rfl ?_; (try dsimp only [pm_st1, pm_st2, pm_cat2, pm_la, Option.toList, List.cons_append, List.nil_append])
    refine pm_cv (by exact okX11_pattern) (by exact okX11_orderFault) rfl (by exact arX11_orderFault) (t_orderFault (d := 2) a1 hB6 a5 b3 hp (by omega)) rfl rfl rfl (by dsimp only; omega) rfl (Nat.le_of_ble_eq_true rfl) ⟨Nat.zero_le _, Nat.zero_le _⟩ ?_
    rintro _ _ _ _ ⟨rfl, rfl, rfl, rfl⟩ -
    refine pm_go 9999 (by exact okX11_pattern) rfl ?_; (try dsimp only [pm_st1, pm_st2, pm_cat2, pm_la, Option.toList, List.cons_append, List.nil_append])
    have eof := nO_neg (o := pd_of (gB z.1) 0 0 z.2.1) (n := 49) (fun b hb => by have := pd_of_lt _ _ _ _ hb; omega) (by omega)
    refine pm_zlt (by exact okX11_pattern) rfl (fun h2 => ?_) (fun h2 => ?_)
    · have h2 := eof.mp h2
      rw [if_neg (fun q => q h2)]
      have hpl := pd_of_len h2 hB6.2
      refine pm_go 24 (by exact okX11_pattern) rfl ?_; (try dsimp only [pm_st1, pm_st2, pm_cat2, pm_la, Option.toList, List.cons_append, List.nil_append])
      refine pm_G.cast (L' := [some (.ref 19), some (.int i), some (.int (nI 0)), none, none]) (S' := []) (mu' := mu) (nu' := nu) ?_ rfl rfl rfl rfl
      refine M_pattern_a a1 hB6.2 hpl b3 hp (fun q hq q1 q2 q3 => ?_) (fun hq => ?_) (gB z.1) 0 (by omega) rfl
      · rw [hq]
        show pm_G cx (mX11_pattern, d, 0, 0, (sh_ i0 i1 ex).length, mQ (.int (if i = 0 then nI q.1 else if i = 1 then nI q.2.1 else nI q.2.2)) z i0 i1 ex mu) _ _ _ _ _ _ _ _
        refine pm_go 9999 (by exact okX11_pattern) rfl ?_; (try dsimp only [pm_st1, pm_st2, pm_cat2, pm_la, Option.toList, List.cons_append, List.nil_append])
        refine pm_zne (by exact okX11_pattern) rfl (fun h3 => ?_) (fun h3 => ?_)
        · rw [if_neg h3]
          refine pm_go 9999 (by exact okX11_pattern) rfl ?_; (try dsimp only [pm_st1, pm_st2, pm_cat2, pm_la, Option.toList, List.cons_append, List.nil_append])
          refine pm_ine (by exact okX11_pattern) rfl (fun h4 => ?_) (fun h4 => ?_)
          · rw [if_neg h4]
            refine pm_go 9999 (by exact okX11_pattern) rfl ?_; (try dsimp only [pm_st1, pm_st2, pm_cat2, pm_la, Option.toList, List.cons_append, List.nil_append])
            refine pm_ri (by exact okX11_pattern) rfl rfl rfl (Nat.le_refl _) (Nat.le_refl _) (⟨rfl, rfl, h, fM.rf⟩)
          · rw [if_pos h4]
            refine pm_go 9999 (by exact okX11_pattern) rfl ?_; (try dsimp only [pm_st1, pm_st2, pm_cat2, pm_la, Option.toList, List.cons_append, List.nil_append])
            refine pm_ri (by exact okX11_pattern) rfl rfl rfl (Nat.le_refl _) (Nat.le_refl _) (⟨rfl, rfl, h, fM.rf⟩)
        · rw [if_pos h3]
          refine pm_go 9999 (by exact okX11_pattern) rfl ?_; (try dsimp only [pm_st1, pm_st2, pm_cat2, pm_la, Option.toList, List.cons_append, List.nil_append])
          refine pm_ri (by exact okX11_pattern) rfl rfl rfl (Nat.le_refl _) (Nat.le_refl _) (⟨rfl, rfl, h, fM.rf⟩)
      · rw [hq]
        refine pm_go 9999 (by exact okX11_pattern) rfl ?_; (try dsimp only [pm_st1, pm_st2, pm_cat2, pm_la, Option.toList, List.cons_append, List.nil_append])
        refine pm_ri (by exact okX11_pattern) rfl rfl rfl (Nat.le_refl _) (Nat.le_refl _) (⟨rfl, rfl, h, fM.rf⟩)
    · have h2 : pd_of (gB z.1) 0 0 z.2.1 ≠ none := fun q => h2 (eof.mpr q)
      rw [if_pos h2]
      refine pm_go 9999 (by exact okX11_pattern) rfl ?_; (try dsimp only [pm_st1, pm_st2, pm_cat2, pm_la, Option.toList, List.cons_append, List.nil_append])
      refine pm_ri (by exact okX11_pattern) rfl rfl rfl (Nat.le_refl _) (Nat.le_refl _) (⟨rfl, rfl, h, fM.rf⟩)
  · have h1 := bI_z.mp h1
    rw [if_pos h1]
    refine pm_go 9999 (by exact okX11_pattern) rfl ?_; (try dsimp only [pm_st1, pm_st2, pm_cat2, pm_la, Option.toList, List.cons_append, List.nil_append])
    refine pm_ri (by exact okX11_pattern) rfl rfl rfl (Nat.le_refl _) (Nat.le_refl _) (⟨rfl, rfl, h, fM.rf⟩)
end

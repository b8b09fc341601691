/-! ===== weeks, as the reference does them ===== -/
/-- a WEEK from a row and what has BLOOMED: the BEDS for ? are ch; answers the first sign that can not be (place, why), and where it stands then -/
def wk_run (law gate B : Nat) (pa : Nat → Option Nat) : List Nat → List Nat → List Nat → Nat → List Nat → Nat → Option (Nat × Nat) × List Nat × Nat × List Nat
  | [], _, r, s, cm, _ => (none, r, s, cm)
  | c :: t, ch, r, s, cm, k =>
    if c = 42 then wk_run law gate B pa t ch (gd_rn s B) s cm (k + 1)
    else if c = 46 then (match gd_nx law r with
      | none => (some (k, 4), r, s, cm)
      | some b => wk_run law gate B pa t ch (r.filter (fun x => x != b)) (s ||| 2 ^ b) (cm ++ [b]) (k + 1))
    else if c = 63 then (if gd_wy gate pa r s (ch.headD 0) = 0 then wk_run law gate B pa t ch.tail (ch.headD 0 :: r.filter (fun x => x != ch.headD 0)) s cm (k + 1) else (some (k, gd_wy gate pa r s (ch.headD 0)), r, s, cm))
    else if gd_wy gate pa r s (c - 97) = 0 then wk_run law gate B pa t ch ((c - 97) :: r.filter (fun x => x != (c - 97))) s cm (k + 1) else (some (k, gd_wy gate pa r s (c - 97)), r, s, cm)
theorem wk_run_q {law gate B : Nat} {pa : Nat → Option Nat} {t ch r : List Nat} {b s k : Nat} {cm : List Nat} : wk_run law gate B pa (63 :: t) (b :: ch) r s cm k = if gd_wy gate pa r s b = 0 then wk_run law gate B pa t ch (b :: r.filter (fun x => x != b)) s cm (k + 1) else (some (k, gd_wy gate pa r s b), r, s, cm) := rfl
theorem wk_run_m {law gate B : Nat} {pa : Nat → Option Nat} {t ch r : List Nat} {s k : Nat} {cm : List Nat} : wk_run law gate B pa (46 :: t) ch r s cm k = (match gd_nx law r with
      | none => (some (k, 4), r, s, cm)
      | some b => wk_run law gate B pa t ch (r.filter (fun x => x != b)) (s ||| 2 ^ b) (cm ++ [b]) (k + 1)) := rfl
/-- the BEDS that a code writes for m ? -/
def wk_dg (B code : Nat) : Nat → List Nat
  | 0 => []
  | m + 1 => (code / B ^ m % B) :: wk_dg B code m
theorem rOK_ok {n : Nat} {r : List Nat} {s : Nat} (h : rOK n r s) (hn : n ≤ 6) : md_ok r := fun b hb => by have := (h.2.1 b hb).1; omega
theorem nodup_len {l : List Nat} (h : l.Nodup) (h6 : ∀ b ∈ l, b < 6) : l.length ≤ 6 := by
  refine fb_holes 6 l.length (fun i => l.getD i 0) (fun i hi => ?_) (fun i j hij hj => ?_)
  · simp only [List.getD_eq_getElem?_getD, List.getElem?_eq_getElem hi, Option.getD_some]
    exact h6 _ (List.getElem_mem hi)
  · simp only [List.getD_eq_getElem?_getD, List.getElem?_eq_getElem hj, List.getElem?_eq_getElem (Nat.lt_trans hij hj), Option.getD_some]
    intro q
    have := (List.getElem_inj h).mp q
    omega
theorem rOK_len {n : Nat} {r : List Nat} {s : Nat} (h : rOK n r s) (hn : n ≤ 6) : r.length ≤ 6 := nodup_len h.1 (rOK_ok h hn)
theorem rOK_s {n : Nat} {r : List Nat} {s : Nat} (h : rOK n r s) (hn : n ≤ 6) : s < 64 := Nat.lt_of_lt_of_le h.2.2 (Nat.pow_le_pow_right (by omega) hn)
theorem rOK_water {n b : Nat} {r : List Nat} {s : Nat} (h : rOK n r s) (hb : b < n) (hs : ¬ s.testBit b = true) : rOK n (b :: r.filter (fun x => x != b)) s := by
  refine ⟨List.nodup_cons.mpr ⟨fun q => ?_, h.1.filter _⟩, fun x hx => ?_, h.2.2⟩
  · have := (List.mem_filter.mp q).2
    simp at this
  · rcases List.mem_cons.mp hx with rfl | hx
    · exact ⟨hb, by simpa using hs⟩
    · exact h.2.1 x (List.mem_filter.mp hx).1
theorem gd_rn_mem (s : Nat) : ∀ (n b : Nat), b ∈ gd_rn s n ↔ b < n ∧ ¬ s.testBit b = true := by
  intro n
  induction n with
  | zero => intro b; simp [gd_rn]
  | succ n ih =>
    intro b
    unfold gd_rn
    split
    · rename_i h
      rw [ih b]
      constructor
      · rintro ⟨h1, h2⟩; exact ⟨by omega, h2⟩
      · rintro ⟨h1, h2⟩
        refine ⟨?_, h2⟩
        rcases Nat.lt_or_ge b n with q | q
        · exact q
        · have : b = n := by omega
          subst this
          exact absurd h h2
    · rename_i h
      rw [List.mem_cons, ih b]
      constructor
      · rintro (rfl | ⟨h1, h2⟩)
        · exact ⟨by omega, h⟩
        · exact ⟨by omega, h2⟩
      · rintro ⟨h1, h2⟩
        rcases Nat.lt_or_ge b n with q | q
        · exact Or.inr ⟨q, h2⟩
        · exact Or.inl (by omega)
theorem gd_rn_nd (s : Nat) : ∀ n, (gd_rn s n).Nodup := by
  intro n
  induction n with
  | zero => simp [gd_rn]
  | succ n ih =>
    unfold gd_rn
    split
    · exact ih
    · refine List.nodup_cons.mpr ⟨fun q => ?_, ih⟩
      have := gd_rn_lt s n n q
      omega
theorem rOK_rain {n : Nat} {s : Nat} (h : s < 2 ^ n) : rOK n (gd_rn s n) s := ⟨gd_rn_nd s n, fun b hb => ⟨((gd_rn_mem s n b).mp hb).1, by simpa using ((gd_rn_mem s n b).mp hb).2⟩, h⟩
theorem rOK_bloom {n b : Nat} {r : List Nat} {s : Nat} (h : rOK n r s) (hb : b ∈ r) : rOK n (r.filter (fun x => x != b)) (s ||| 2 ^ b) := by
  have hbn := (h.2.1 b hb).1
  refine ⟨h.1.filter _, fun x hx => ?_, Nat.or_lt_two_pow h.2.2 (Nat.pow_lt_pow_right (by omega) hbn)⟩
  obtain ⟨h1, h2⟩ := List.mem_filter.mp hx
  refine ⟨(h.2.1 x h1).1, ?_⟩
  rw [tb_set, (h.2.1 x h1).2]
  have : ¬ b = x := fun q => by subst q; simp at h2
  simp [this]
theorem gd_nx_mem {law b : Nat} {r : List Nat} (h : gd_nx law r = some b) : b ∈ r := List.mem_of_getElem? h
theorem gd_nx_none {law : Nat} {r : List Nat} (h : gd_nx law r = none) : r = [] := by
  rcases Nat.eq_zero_or_pos r.length with q | q
  · exact List.length_eq_zero_iff.mp q
  · unfold gd_nx at h
    rw [List.getElem?_eq_getElem (gd_bh_lt q)] at h
    cases h
theorem gd_wy_bit {gate : Nat} {pa : Nat → Option Nat} {r : List Nat} {s b : Nat} (h : gd_wy gate pa r s b = 0) : ¬ s.testBit b = true := fun q => by rw [gd_wy1 q] at h; omega
theorem gd_wy_le {gate : Nat} {pa : Nat → Option Nat} {r : List Nat} {s b : Nat} : gd_wy gate pa r s b ≤ 3 := by
  unfold gd_wy
  split
  · omega
  · split
    · omega
    · split
      · split <;> omega
      · omega
/-- a sign that may stand in a WEEK -/
def okc (B c : Nat) : Prop := c = 42 ∨ c = 46 ∨ c = 63 ∨ (97 ≤ c ∧ c < 97 + B)
theorem pd_wf_ok {B : Nat} : ∀ (r : List Nat) (k op : Nat), op ≤ 4 → pd_wf B k op r = none → (∀ c ∈ r, okc B c) ∧ op + pd_op r ≤ 4 := by
  intro r
  induction r with
  | nil => intro k op ho h; exact ⟨fun c hc => (List.not_mem_nil hc).elim, ho⟩
  | cons c r ih =>
    intro k op ho h
    have e : pd_op (c :: r) = (if c = 63 then 1 else 0) + pd_op r := by
      unfold pd_op
      by_cases q : c = 63
      · simp [q, List.filter_cons]; omega
      · simp [q, List.filter_cons]
    simp only [pd_wf] at h
    split at h
    · rename_i h1
      obtain ⟨g1, g2⟩ := ih (k + 1) op ho h
      refine ⟨fun x hx => ?_, by rw [e, if_neg (by omega)]; omega⟩
      rcases List.mem_cons.mp hx with rfl | hx
      · unfold okc; omega
      · exact g1 x hx
    · split at h
      · rename_i h2
        split at h
        · rename_i h3
          obtain ⟨g1, g2⟩ := ih (k + 1) (op + 1) h3 h
          refine ⟨fun x hx => ?_, by rw [e, if_pos h2]; omega⟩
          rcases List.mem_cons.mp hx with rfl | hx
          · unfold okc; omega
          · exact g1 x hx
        · cases h
      · rename_i h2
        split at h
        · rename_i h3
          obtain ⟨g1, g2⟩ := ih (k + 1) op ho h
          refine ⟨fun x hx => ?_, by rw [e, if_neg h2]; omega⟩
          rcases List.mem_cons.mp hx with rfl | hx
          · unfold okc; omega
          · exact g1 x hx
        · cases h
theorem pd_op_cons (c : Nat) (r : List Nat) : pd_op (c :: r) = pd_op r + (if c = 63 then 1 else 0) := by
  unfold pd_op
  by_cases q : c = 63
  · simp [q, List.filter_cons]
  · simp [q, List.filter_cons]
/-- what the reference's week writes -/
def wkF (mu0 mu : pm_I) : Prop := (∀ a, a ≠ 19 → a ≠ 25 → mu a = mu0 a) ∧ ∀ j, j ≠ 14 → j ≠ 15 → j ≠ 16 → j ≠ 18 → mu 19 j = mu0 19 j
theorem wkF.rf {mu : pm_I} : wkF mu mu := ⟨fun _ _ _ => rfl, fun _ _ _ _ _ => rfl⟩
theorem wkF.up {mu0 mu : pm_I} {j : Nat} {v : Int32} (h : wkF mu0 mu) (hj : j = 14 ∨ j = 15 ∨ j = 16 ∨ j = 18) : wkF mu0 (pm_up mu 19 j v) :=
  ⟨fun a h1 h2 => by rw [pm_up_ne h1]; exact h.1 a h1 h2, fun i h1 h2 h3 h4 => by rw [pm_up_of (by omega)]; exact h.2 i h1 h2 h3 h4⟩
theorem wkF.up2 {mu0 mu : pm_I} {j : Nat} {v : Int32} (h : wkF mu0 mu) : wkF mu0 (pm_up mu 25 j v) :=
  ⟨fun a h1 h2 => by rw [pm_up_ne h2]; exact h.1 a h1 h2, fun i h1 h2 h3 h4 => by rw [pm_up_o (by omega)]; exact h.2 i h1 h2 h3 h4⟩
theorem wkF.tr {mu0 mu mu2 : pm_I} (h : wkF mu0 mu) (h2 : wkF mu mu2) : wkF mu0 mu2 :=
  ⟨fun a q1 q2 => by rw [h2.1 a q1 q2]; exact h.1 a q1 q2, fun i q1 q2 q3 q4 => by rw [h2.2 i q1 q2 q3 q4]; exact h.2 i q1 q2 q3 q4⟩
/-- where a week stands, in the reference's cells -/
def wkS (r : List Nat) (s : Nat) (cm : List Nat) (why : Nat) (mu : pm_I) : Prop := mu 19 14 = nI (md_r7 r) ∧ mu 19 15 = nI s ∧ mu 19 16 = nI cm.length ∧ mu 19 18 = nI why ∧ ∀ j b, cm[j]? = some b → mu 25 j = nI b
/-- what has BLOOMED in it -/
def cmOK (s : Nat) (cm : List Nat) : Prop := cm.Nodup ∧ ∀ b ∈ cm, b < 6 ∧ s.testBit b = true
theorem cmOK_len {s : Nat} {cm : List Nat} (h : cmOK s cm) : cm.length ≤ 6 := nodup_len h.1 (fun b hb => (h.2 b hb).1)
theorem cmOK_add {s b : Nat} {cm : List Nat} (h : cmOK s cm) (hb : b < 6) (hs : s.testBit b = false) : cmOK (s ||| 2 ^ b) (cm ++ [b]) := by
  refine ⟨?_, fun x hx => ?_⟩
  · rw [List.nodup_append]
    refine ⟨h.1, by simp, fun x hx y hy => ?_⟩
    simp at hy
    subst hy
    intro q
    subst q
    rw [(h.2 x hx).2] at hs
    cases hs
  · rcases List.mem_append.mp hx with q | q
    · exact ⟨(h.2 x q).1, by rw [tb_set, (h.2 x q).2]; rfl⟩
    · simp at q
      subst q
      exact ⟨hb, by rw [tb_set]; simp⟩
section
variable {cx : pm_CX} {d n0 : Nat} {i0 i1 : Option Nat} {ex : List pm_C} {mu0 mu : pm_I} {nu : pm_J}
set_option maxRecDepth 100000 in
set_option maxHeartbeats 1000000 in
theorem t_goWeek_b {Q : pm_Po} {pd : List Nat} {B : Nat} (hB : mu 19 0 = nI B) (hB6 : 2 ≤ B ∧ B ≤ 6) (hN : mu 19 6 = nI pd.length) (hP : ∀ k b, pd[k]? = some b → mu 22 k = nI b) (hp : dOK pd) (ho : pd_op pd ≤ 4) (hd : 1 ≤ d) {x1 : Int32} (kk : pm_G cx (mX11_goWeek, d, 0, 0, n0, Q) 0 0 51 [some (.ref 19), some (.int x1), some (.int (nI (B ^ (pd_op pd - 1)))), none, none, none] [] (sh_ i0 i1 ex) mu nu) : ∀ (j k : Nat), k + j = max 1 (pd_op pd) → 1 ≤ k → pm_G cx (mX11_goWeek, d, 0, 0, n0, Q) 0 0 30 [some (.ref 19), some (.int x1), some (.int (nI (B ^ (k - 1)))), some (.int (nI k)), none, none] [] (sh_ i0 i1 ex) mu nu := by
  intro j
  induction j with
  | zero =>
    intro k hk h1
    refine pm_go 9999 (by exact okX11_goWeek) rfl ?_; (try dsimp only [pm_st1, pm_st2, pm_cat2, pm_la, Option.toList, List.cons_append, List.nil_append])
    refine pm_cv (by exact okX11_goWeek) (by exact okX11_opens) rfl (by exact arX11_opens) (t_opens (d := 0) hN hP hp) rfl rfl rfl (by dsimp only; omega) rfl (Nat.le_of_ble_eq_true rfl) ⟨Nat.zero_le _, Nat.zero_le _⟩ ?_
    rintro _ _ _ _ ⟨rfl, rfl, rfl, rfl⟩ -
    refine pm_go 9999 (by exact okX11_goWeek) rfl ?_; (try dsimp only [pm_st1, pm_st2, pm_cat2, pm_la, Option.toList, List.cons_append, List.nil_append])
    refine pm_ige (by exact okX11_goWeek) rfl (fun h2 => ?_) (fun h2 => ?_)
    · refine pm_G.fg [false, false, false, true, false, false] ?_; dsimp only [pm_fg]
      rw [show k - 1 = pd_op pd - 1 by omega]
      exact kk
    · exact absurd (nI_le (by omega) (by omega)) h2
  | succ j ih =>
    intro k hk h1
    refine pm_go 9999 (by exact okX11_goWeek) rfl ?_; (try dsimp only [pm_st1, pm_st2, pm_cat2, pm_la, Option.toList, List.cons_append, List.nil_append])
    refine pm_cv (by exact okX11_goWeek) (by exact okX11_opens) rfl (by exact arX11_opens) (t_opens (d := 0) hN hP hp) rfl rfl rfl (by dsimp only; omega) rfl (Nat.le_of_ble_eq_true rfl) ⟨Nat.zero_le _, Nat.zero_le _⟩ ?_
    rintro _ _ _ _ ⟨rfl, rfl, rfl, rfl⟩ -
    refine pm_go 9999 (by exact okX11_goWeek) rfl ?_; (try dsimp only [pm_st1, pm_st2, pm_cat2, pm_la, Option.toList, List.cons_append, List.nil_append])
    refine pm_ige (by exact okX11_goWeek) rfl (fun h2 => ?_) (fun h2 => ?_)
    · have := (nI_leI (by omega) (by omega)).mp h2
      omega
    · refine pm_go 30 (by exact okX11_goWeek) rfl ?_; (try dsimp only [pm_st1, pm_st2, pm_cat2, pm_la, Option.toList, List.cons_append, List.nil_append])
      rw [hB, pk_mul, nI_1, show B ^ (k - 1) * B = B ^ (k + 1 - 1) by rw [← Nat.pow_succ]; congr 1; omega]
      exact ih (k + 1) (by omega) (by omega)
set_option maxRecDepth 100000 in
set_option maxHeartbeats 1000000 in
theorem t_goWeek_l {Q : pm_Po} {pd : List Nat} {B law gate code : Nat} {pa : Nat → Option Nat} (hB : mu0 19 0 = nI B) (hB6 : 2 ≤ B ∧ B ≤ 6) (hL : mu0 19 3 = nI law) (hlaw : law ≤ 2) (hG : mu0 19 4 = nI gate) (hg : gate ≤ 6) (hPa : ∀ k, k < 6 → mu0 21 k = nO (pa k)) (hpa : ∀ k o, k < 6 → pa k = some o → o < 6) (hN : mu0 19 6 = nI pd.length) (hP : ∀ k b, pd[k]? = some b → mu0 22 k = nI b) (hp : dOK pd) (hcode : code < 2 ^ 31) (hd : 2 ≤ d) :
    ∀ (suf : List Nat) (k : Nat) (r : List Nat) (s : Nat) (cm : List Nat) (mu : pm_I), pd.drop k = suf → k ≤ pd.length → (∀ c ∈ suf, okc B c) → pd_op suf ≤ 4 → rOK B r s → cmOK s cm → wkF mu0 mu → wkS r s cm 0 mu →
    (∀ mu', wkF mu0 mu' → wkS (wk_run law gate B pa suf (wk_dg B code (pd_op suf)) r s cm k).2.1 (wk_run law gate B pa suf (wk_dg B code (pd_op suf)) r s cm k).2.2.1 (wk_run law gate B pa suf (wk_dg B code (pd_op suf)) r s cm k).2.2.2 (((wk_run law gate B pa suf (wk_dg B code (pd_op suf)) r s cm k).1.map (fun q => q.2)).getD 0) mu' → Q (some (.int (nO ((wk_run law gate B pa suf (wk_dg B code (pd_op suf)) r s cm k).1.map (fun q => q.1))))) (sh_ i0 i1 ex) mu' nu) →
    pm_G cx (mX11_goWeek, d, 0, 0, n0, Q) 0 0 53 [some (.ref 19), some (.int (nI code)), some (.int (nI (B ^ (pd_op suf - 1)))), some (.int (nI k)), none, none] [] (sh_ i0 i1 ex) mu nu := by
  intro suf
  have hp1 := hp.1
  induction suf with
  | nil =>
    intro k r s cm mu hr hk hc ho hR hcm hF hS hq
    have hk := drop_nil hr hk
    refine pm_go 9999 (by exact okX11_goWeek) rfl ?_; (try dsimp only [pm_st1, pm_st2, pm_cat2, pm_la, Option.toList, List.cons_append, List.nil_append])
    rw [hF.2 6 (by omega) (by omega) (by omega) (by omega), hN]
    refine pm_ige (by exact okX11_goWeek) rfl (fun h1 => ?_) (fun h1 => ?_)
    · refine pm_go 9999 (by exact okX11_goWeek) rfl ?_; (try dsimp only [pm_st1, pm_st2, pm_cat2, pm_la, Option.toList, List.cons_append, List.nil_append])
      refine pm_ri (by exact okX11_goWeek) rfl rfl rfl (Nat.le_refl _) (Nat.le_refl _) (hq mu hF hS)
    · exact absurd (nI_le (by omega) (by omega)) h1
  | cons c t ih =>
    intro k r s cm mu hr hk hc ho hR hcm hF hS hq
    obtain ⟨g1, g2, g3⟩ := drop_get hr
    have hcb := hp.2 c (mem_drop hr)
    have hcc := hc c List.mem_cons_self
    have hct : ∀ x ∈ t, okc B x := fun x hx => hc x (List.mem_cons_of_mem _ hx)
    obtain ⟨s1, s2, s3, s4, s5⟩ := id hS
    have hok := rOK_ok hR hB6.2
    have hln := rOK_len hR hB6.2
    have hs64 := rOK_s hR hB6.2
    have f0 := hF.2 0 (by omega) (by omega) (by omega) (by omega)
    have f3 := hF.2 3 (by omega) (by omega) (by omega) (by omega)
    have f4 := hF.2 4 (by omega) (by omega) (by omega) (by omega)
    have f6 := hF.2 6 (by omega) (by omega) (by omega) (by omega)
    have f21 := hF.1 21 (by omega) (by omega)
    have f22 := hF.1 22 (by omega) (by omega)
    have eop := pd_op_cons c t
    refine pm_go 9999 (by exact okX11_goWeek) rfl ?_; (try dsimp only [pm_st1, pm_st2, pm_cat2, pm_la, Option.toList, List.cons_append, List.nil_append])
    rw [f6, hN]
    refine pm_ige (by exact okX11_goWeek) rfl (fun h1 => ?_) (fun h1 => ?_)
    · exact absurd h1 (nI_ge (by omega) (by omega))
    · refine pm_go 9999 (by exact okX11_goWeek) rfl ?_; (try dsimp only [pm_st1, pm_st2, pm_cat2, pm_la, Option.toList, List.cons_append, List.nil_append])
      refine pm_ial (by exact okX11_goWeek) rfl rfl (vp_in_nI (by omega) (by omega)) ?_
      rw [nI_clamp (by omega), f22, hP k _ g1]
      refine pm_go 9999 (by exact okX11_goWeek) rfl ?_; (try dsimp only [pm_st1, pm_st2, pm_cat2, pm_la, Option.toList, List.cons_append, List.nil_append])
      refine pm_ine (by exact okX11_goWeek) rfl (fun h2 => ?_) (fun h2 => ?_)
      · have e42 : ¬ c = 42 := fun q => h2 (by rw [q]; rfl)
        refine pm_go 9999 (by exact okX11_goWeek) rfl ?_; (try dsimp only [pm_st1, pm_st2, pm_cat2, pm_la, Option.toList, List.cons_append, List.nil_append])
        refine pm_ine (by exact okX11_goWeek) rfl (fun h3 => ?_) (fun h3 => ?_)
        · have e46 : ¬ c = 46 := fun q => h3 (by rw [q]; rfl)
          -- a watering
          have water : ∀ (b m' : Nat), b < B → m' ≤ 4 → pd_op t = m' → (gd_wy gate pa r s b = 0 → wk_run law gate B pa (c :: t) (wk_dg B code (pd_op (c :: t))) r s cm k = wk_run law gate B pa t (wk_dg B code m') (b :: r.filter (fun x => x != b)) s cm (k + 1)) → (¬ gd_wy gate pa r s b = 0 → wk_run law gate B pa (c :: t) (wk_dg B code (pd_op (c :: t))) r s cm k = (some (k, gd_wy gate pa r s b), r, s, cm)) → pm_G cx (mX11_goWeek, d, 0, 0, n0, Q) 0 0 225 [some (.ref 19), some (.int (nI code)), some (.int (nI (B ^ (m' - 1)))), some (.int (nI k)), some (.int (nI c)), some (.int (nI b))] [] (sh_ i0 i1 ex) mu nu := by
            intro b m' hb hm' hmt hw0 hw1
            have hwl := gd_wy_le (gate := gate) (pa := pa) (r := r) (s := s) (b := b)
            refine pm_go 9999 (by exact okX11_goWeek) rfl ?_; (try dsimp only [pm_st1, pm_st2, pm_cat2, pm_la, Option.toList, List.cons_append, List.nil_append])
            rw [s1, s2]
            refine pm_cv (by exact okX11_goWeek) (by exact okX11_whyNot) rfl (by exact arX11_whyNot) (t_whyNot (d := 1) (gate := gate) (pa := pa) (by rw [f4, hG]) hg (fun k hk => by rw [f21]; exact hPa k hk) hpa (by omega) (by omega) hok hln (by omega)) rfl rfl rfl (by dsimp only; omega) rfl (Nat.le_of_ble_eq_true rfl) ⟨Nat.zero_le _, Nat.zero_le _⟩ ?_
            rintro _ _ _ _ ⟨rfl, rfl, rfl, rfl⟩ -
            refine pm_go 9999 (by exact okX11_goWeek) rfl ?_; (try dsimp only [pm_st1, pm_st2, pm_cat2, pm_la, Option.toList, List.cons_append, List.nil_append])
            rw [show pm_up mu 19 18 (nI (gd_wy gate pa r s b)) 19 18 = nI (gd_wy gate pa r s b) from pm_up_at]
            refine pm_zne (by exact okX11_goWeek) rfl (fun h5 => ?_) (fun h5 => ?_)
            · have h6 : ¬ gd_wy gate pa r s b = 0 := fun q => h5 (by rw [q]; rfl)
              rw [hw1 h6] at hq
              refine pm_go 9999 (by exact okX11_goWeek) rfl ?_; (try dsimp only [pm_st1, pm_st2, pm_cat2, pm_la, Option.toList, List.cons_append, List.nil_append])
              rw [show pm_up (pm_up mu 19 18 (nI (gd_wy gate pa r s b))) 19 14 (pm_up mu 19 18 (nI (gd_wy gate pa r s b)) 19 14) 19 18 = nI (gd_wy gate pa r s b) by rw [pm_up_of (by omega), pm_up_at]]
              refine pm_zle (by exact okX11_goWeek) rfl (fun h7 => ?_) (fun h7 => ?_)
              · exact absurd h7 (nI_nle (by omega) (by omega))
              · refine pm_go 9999 (by exact okX11_goWeek) rfl ?_; (try dsimp only [pm_st1, pm_st2, pm_cat2, pm_la, Option.toList, List.cons_append, List.nil_append])
                refine pm_ri (by exact okX11_goWeek) rfl rfl rfl (Nat.le_refl _) (Nat.le_refl _) (hq _ ((hF.up (by omega)).up (by omega)) ⟨by rw [pm_up_at, pm_up_of (by omega)]; exact s1, by rw [pm_up_of (by omega), pm_up_of (by omega)]; exact s2, by rw [pm_up_of (by omega), pm_up_of (by omega)]; exact s3, by rw [pm_up_of (by omega), pm_up_at]; rfl, fun j x hj => by rw [pm_up_o (by omega), pm_up_o (by omega)]; exact s5 j x hj⟩)
            · have h6 : gd_wy gate pa r s b = 0 := (nI_eq (b := 0) (by omega) (by omega)).mp h5
              rw [hw0 h6] at hq
              refine pm_go 9999 (by exact okX11_goWeek) rfl ?_; (try dsimp only [pm_st1, pm_st2, pm_cat2, pm_la, Option.toList, List.cons_append, List.nil_append])
              rw [show pm_up mu 19 18 (nI (gd_wy gate pa r s b)) 19 14 = nI (md_r7 r) by rw [pm_up_of (by omega)]; exact s1]
              refine pm_cs (by exact okX11_goWeek) (by exact okX11_watered) rfl (by exact arX11_watered) (t_watered (d := 1) hok hln (b := b) (by omega) (by omega)) rfl (by dsimp only; omega) rfl (Nat.le_of_ble_eq_true rfl) ⟨Nat.zero_le _, Nat.zero_le _⟩ ?_
              rintro _ _ _ _ ⟨rfl, rfl, rfl, rfl⟩ -
              refine pm_go 9999 (by exact okX11_goWeek) rfl ?_; (try dsimp only [pm_st1, pm_st2, pm_cat2, pm_la, Option.toList, List.cons_append, List.nil_append])
              rw [show pm_up (pm_up mu 19 18 (nI (gd_wy gate pa r s b))) 19 14 (nI (md_r7 (b :: r.filter (fun x => x != b)))) 19 18 = 0 by rw [pm_up_of (by omega), pm_up_at, h6]; rfl]
              refine pm_zle (by exact okX11_goWeek) rfl (fun h7 => ?_) (fun h7 => ?_)
              · refine pm_go 53 (by exact okX11_goWeek) rfl ?_; (try dsimp only [pm_st1, pm_st2, pm_cat2, pm_la, Option.toList, List.cons_append, List.nil_append])
                rw [nI_1]
                refine pm_G.fg [false, false, false, false, true, true] ?_; dsimp only [pm_fg]
                rw [← hmt]
                rw [← hmt] at hq
                refine ih (k + 1) _ s cm _ g2 (by omega) hct (by omega) (rOK_water hR hb (gd_wy_bit h6)) hcm ((hF.up (by omega)).up (by omega)) ⟨pm_up_at, by rw [pm_up_of (by omega), pm_up_of (by omega)]; exact s2, by rw [pm_up_of (by omega), pm_up_of (by omega)]; exact s3, by rw [pm_up_of (by omega), pm_up_at, h6], fun j x hj => by rw [pm_up_o (by omega), pm_up_o (by omega)]; exact s5 j x hj⟩ hq
              · exact absurd (by decide) h7
          refine pm_go 9999 (by exact okX11_goWeek) rfl ?_; (try dsimp only [pm_st1, pm_st2, pm_cat2, pm_la, Option.toList, List.cons_append, List.nil_append])
          refine pm_ine (by exact okX11_goWeek) rfl (fun h4 => ?_) (fun h4 => ?_)
          · have e63 : ¬ c = 63 := fun q => h4 (by rw [q]; rfl)
            have hlet : 97 ≤ c ∧ c < 97 + B := by unfold okc at hcc; omega
            rw [if_neg e63] at eop
            refine pm_go 9999 (by exact okX11_goWeek) rfl ?_; (try dsimp only [pm_st1, pm_st2, pm_cat2, pm_la, Option.toList, List.cons_append, List.nil_append])
            rw [show (97 : Int32) = nI 97 from rfl, pk_sub hlet.1]
            refine pm_ine (by exact okX11_goWeek) rfl (fun h5 => ?_) (fun h5 => ?_)
            · refine pm_go 225 (by exact okX11_goWeek) rfl ?_; (try dsimp only [pm_st1, pm_st2, pm_cat2, pm_la, Option.toList, List.cons_append, List.nil_append])
              rw [show pd_op (c :: t) = pd_op t by omega]
              refine water (c - 97) (pd_op t) (by omega) (by omega) rfl (fun q => ?_) (fun q => ?_)
              · rw [show pd_op (c :: t) = pd_op t by omega]
                simp only [wk_run]
                rw [if_neg e42, if_neg e46, if_neg e63, if_pos q]
              · rw [show pd_op (c :: t) = pd_op t by omega]
                simp only [wk_run]
                rw [if_neg e42, if_neg e46, if_neg e63, if_neg q]
            · exact absurd h5 h4
          · have e63 : c = 63 := (nI_eq (b := 63) (by omega) (by omega)).mp h4
            rw [if_pos e63] at eop
            have hdig : code / B ^ pd_op t % B < B := Nat.mod_lt _ (by omega)
            have hpow : 0 < B ^ pd_op t := Nat.pow_pos (by omega)
            have hpow2 : B ^ pd_op t ≤ 6 ^ 4 := Nat.le_trans (Nat.pow_le_pow_left hB6.2 _) (Nat.pow_le_pow_right (by omega) (by omega))
            have edg : wk_dg B code (pd_op (c :: t)) = (code / B ^ pd_op t % B) :: wk_dg B code (pd_op t) := by rw [eop]; rfl
            have w0 : gd_wy gate pa r s (code / B ^ pd_op t % B) = 0 → wk_run law gate B pa (c :: t) (wk_dg B code (pd_op (c :: t))) r s cm k = wk_run law gate B pa t (wk_dg B code (pd_op t)) ((code / B ^ pd_op t % B) :: r.filter (fun x => x != (code / B ^ pd_op t % B))) s cm (k + 1) := by
              intro q
              rw [edg, e63, wk_run_q, if_pos q]
            have w1 : ¬ gd_wy gate pa r s (code / B ^ pd_op t % B) = 0 → wk_run law gate B pa (c :: t) (wk_dg B code (pd_op (c :: t))) r s cm k = (some (k, gd_wy gate pa r s (code / B ^ pd_op t % B)), r, s, cm) := by
              intro q
              rw [edg, e63, wk_run_q, if_neg q]
            rw [show pd_op (c :: t) - 1 = pd_op t by omega]
            have hpn : ¬ nI (B ^ pd_op t) = 0 := nI_ne0 hpow (by omega)
            refine pm_go 9999 (by exact okX11_goWeek) rfl ?_; (try dsimp only [pm_st1, pm_st2, pm_cat2, pm_la, Option.toList, List.cons_append, List.nil_append])
            refine pm_div (by exact okX11_goWeek) rfl (hpn) ?_
            refine pm_go 9999 (by exact okX11_goWeek) rfl ?_; (try dsimp only [pm_st1, pm_st2, pm_cat2, pm_la, Option.toList, List.cons_append, List.nil_append])
            rw [f0, hB]
            refine pm_rem (by exact okX11_goWeek) rfl (nI_ne0 (by omega) (by omega)) ?_
            rw [pk_div hcode hpow (by omega), pk_rem (Nat.lt_of_le_of_lt (Nat.div_le_self _ _) hcode) (by omega) (by omega)]
            refine pm_go 9999 (by exact okX11_goWeek) rfl ?_; (try dsimp only [pm_st1, pm_st2, pm_cat2, pm_la, Option.toList, List.cons_append, List.nil_append])
            refine pm_ine (by exact okX11_goWeek) rfl (fun h5 => ?_) (fun h5 => ?_)
            · exact absurd h4 h5
            · refine pm_go 9999 (by exact okX11_goWeek) rfl ?_; (try dsimp only [pm_st1, pm_st2, pm_cat2, pm_la, Option.toList, List.cons_append, List.nil_append])
              refine pm_ile (by exact okX11_goWeek) rfl (fun h6 => ?_) (fun h6 => ?_)
              · have h7 : B ^ pd_op t ≤ 1 := (nI_leI (b := 1) (by omega) (by omega)).mp h6
                have h8 : pd_op t = 0 := by
                  rcases Nat.eq_zero_or_pos (pd_op t) with q | q
                  · exact q
                  · have : B ^ 1 ≤ B ^ pd_op t := Nat.pow_le_pow_right (by omega) q
                    rw [Nat.pow_one] at this
                    omega
                refine pm_go 225 (by exact okX11_goWeek) rfl ?_; (try dsimp only [pm_st1, pm_st2, pm_cat2, pm_la, Option.toList, List.cons_append, List.nil_append])
                have := water (code / B ^ pd_op t % B) (pd_op t) hdig (by omega) rfl w0 w1
                rw [show pd_op t - 1 = pd_op t by omega] at this
                exact this
              · refine pm_go 225 (by exact okX11_goWeek) rfl ?_; (try dsimp only [pm_st1, pm_st2, pm_cat2, pm_la, Option.toList, List.cons_append, List.nil_append])
                rw [f0, hB]
                refine pm_div (by exact okX11_goWeek) rfl (nI_ne0 (by omega) (by omega)) ?_
                rw [pk_div (by omega) (by omega) (by omega)]
                refine pm_go 225 (by exact okX11_goWeek) rfl ?_; (try dsimp only [pm_st1, pm_st2, pm_cat2, pm_la, Option.toList, List.cons_append, List.nil_append])
                have h8 : 0 < pd_op t := by
                  rcases Nat.eq_zero_or_pos (pd_op t) with q | q
                  · rw [q, Nat.pow_zero] at h6; exact absurd (by decide) h6
                  · exact q
                have := water (code / B ^ pd_op t % B) (pd_op t) hdig (by omega) rfl w0 w1
                rw [show B ^ pd_op t / B = B ^ (pd_op t - 1) by
                  obtain ⟨q, hq⟩ : ∃ q, pd_op t = q + 1 := ⟨pd_op t - 1, by omega⟩
                  rw [hq, Nat.pow_succ, Nat.mul_div_cancel _ (by omega)]; rfl]
                exact this
        · -- a morning
          have e46 : c = 46 := (nI_eq (b := 46) (by omega) (by omega)).mp h3
          subst e46
          rw [if_neg (by omega)] at eop
          rw [show pd_op (46 :: t) = pd_op t by omega] at hq ⊢
          rw [wk_run_m] at hq
          refine pm_go 9999 (by exact okX11_goWeek) rfl ?_; (try dsimp only [pm_st1, pm_st2, pm_cat2, pm_la, Option.toList, List.cons_append, List.nil_append])
          rw [s1]
          refine pm_cv (by exact okX11_goWeek) (by exact okX11_nextOf) rfl (by exact arX11_nextOf) (t_nextOf (d := 1) (r := r) (law := law) (by rw [f3, hL]) hlaw hok hln (by omega)) rfl rfl rfl (by dsimp only; omega) rfl (Nat.le_of_ble_eq_true rfl) ⟨Nat.zero_le _, Nat.zero_le _⟩ ?_
          rintro _ _ _ _ ⟨rfl, rfl, rfl, rfl⟩ -
          cases hnx : gd_nx law r with
          | none =>
            rw [hnx] at hq
            rw [nO_none]
            refine pm_go 9999 (by exact okX11_goWeek) rfl ?_; (try dsimp only [pm_st1, pm_st2, pm_cat2, pm_la, Option.toList, List.cons_append, List.nil_append])
            refine pm_zge (by exact okX11_goWeek) rfl (fun h5 => ?_) (fun h5 => ?_)
            · exact absurd h5 (by decide)
            · refine pm_go 9999 (by exact okX11_goWeek) rfl ?_; (try dsimp only [pm_st1, pm_st2, pm_cat2, pm_la, Option.toList, List.cons_append, List.nil_append])
              refine pm_zlt (by exact okX11_goWeek) rfl (fun h6 => ?_) (fun h6 => ?_)
              · refine pm_go 9999 (by exact okX11_goWeek) rfl ?_; (try dsimp only [pm_st1, pm_st2, pm_cat2, pm_la, Option.toList, List.cons_append, List.nil_append])
                rw [show pm_up mu 19 18 4 19 18 = 4 from pm_up_at]
                refine pm_zle (by exact okX11_goWeek) rfl (fun h7 => ?_) (fun h7 => ?_)
                · exact absurd h7 (by decide)
                · refine pm_go 9999 (by exact okX11_goWeek) rfl ?_; (try dsimp only [pm_st1, pm_st2, pm_cat2, pm_la, Option.toList, List.cons_append, List.nil_append])
                  refine pm_ri (by exact okX11_goWeek) rfl rfl rfl (Nat.le_refl _) (Nat.le_refl _) (hq _ (hF.up (by omega)) ⟨by rw [pm_up_of (by omega)]; exact s1, by rw [pm_up_of (by omega)]; exact s2, by rw [pm_up_of (by omega)]; exact s3, by rw [pm_up_at]; rfl, fun j x hj => by rw [pm_up_o (by omega)]; exact s5 j x hj⟩)
              · exact absurd (by decide) h6
          | some b =>
            rw [hnx] at hq
            rw [nO_some]
            have hbr := gd_nx_mem hnx
            have hb6 := hok b hbr
            have hbs := (hR.2.1 b hbr).2
            have hadd := cmOK_add hcm hb6 hbs
            have hlen := cmOK_len hadd
            rw [List.length_append] at hlen
            simp only [List.length_cons, List.length_nil] at hlen
            refine pm_go 9999 (by exact okX11_goWeek) rfl ?_; (try dsimp only [pm_st1, pm_st2, pm_cat2, pm_la, Option.toList, List.cons_append, List.nil_append])
            refine pm_zge (by exact okX11_goWeek) rfl (fun h5 => ?_) (fun h5 => ?_)
            · refine pm_go 9999 (by exact okX11_goWeek) rfl ?_; (try dsimp only [pm_st1, pm_st2, pm_cat2, pm_la, Option.toList, List.cons_append, List.nil_append])
              refine pm_zlt (by exact okX11_goWeek) rfl (fun h6 => ?_) (fun h6 => ?_)
              · exact absurd h6 (nI_pos (by omega))
              · refine pm_go 9999 (by exact okX11_goWeek) rfl ?_; (try dsimp only [pm_st1, pm_st2, pm_cat2, pm_la, Option.toList, List.cons_append, List.nil_append])
                rw [show pm_up mu 19 18 0 19 14 = nI (md_r7 r) by rw [pm_up_of (by omega)]; exact s1]
                refine pm_cs (by exact okX11_goWeek) (by exact okX11_without) rfl (by exact arX11_without) (t_without (d := 0) hok hln hb6) rfl (by dsimp only; omega) rfl (Nat.le_of_ble_eq_true rfl) ⟨Nat.zero_le _, Nat.zero_le _⟩ ?_
                rintro _ _ _ _ ⟨rfl, rfl, rfl, rfl⟩ -
                refine pm_go 9999 (by exact okX11_goWeek) rfl ?_; (try dsimp only [pm_st1, pm_st2, pm_cat2, pm_la, Option.toList, List.cons_append, List.nil_append])
                rw [show pm_up (pm_up mu 19 18 0) 19 14 (nI (md_r7 (r.filter (fun x => x != b)))) 19 15 = nI s by rw [pm_up_of (by omega), pm_up_of (by omega)]; exact s2, nI_shl1 (by omega), nI_or]
                rw [show pm_up (pm_up (pm_up mu 19 18 0) 19 14 (nI (md_r7 (r.filter (fun x => x != b))))) 19 15 (nI (s ||| 2 ^ b)) 19 16 = nI cm.length by rw [pm_up_of (by omega), pm_up_of (by omega), pm_up_of (by omega)]; exact s3]
                refine pm_ias (by exact okX11_goWeek) rfl rfl (vp_in_nI (by omega) (by omega)) ?_
                rw [nI_clamp (by omega)]
                refine pm_go 9999 (by exact okX11_goWeek) rfl ?_; (try dsimp only [pm_st1, pm_st2, pm_cat2, pm_la, Option.toList, List.cons_append, List.nil_append])
                rw [show pm_up (pm_up (pm_up (pm_up mu 19 18 0) 19 14 (nI (md_r7 (r.filter (fun x => x != b))))) 19 15 (nI (s ||| 2 ^ b))) 25 cm.length (nI b) 19 16 = nI cm.length by rw [pm_up_o (by omega), pm_up_of (by omega), pm_up_of (by omega), pm_up_of (by omega)]; exact s3, nI_1]
                rw [show pm_up (pm_up (pm_up (pm_up (pm_up mu 19 18 0) 19 14 (nI (md_r7 (r.filter (fun x => x != b))))) 19 15 (nI (s ||| 2 ^ b))) 25 cm.length (nI b)) 19 16 (nI (cm.length + 1)) 19 18 = 0 by rw [pm_up_of (by omega), pm_up_o (by omega), pm_up_of (by omega), pm_up_of (by omega), pm_up_at]]
                refine pm_zle (by exact okX11_goWeek) rfl (fun h7 => ?_) (fun h7 => ?_)
                · refine pm_go 53 (by exact okX11_goWeek) rfl ?_; (try dsimp only [pm_st1, pm_st2, pm_cat2, pm_la, Option.toList, List.cons_append, List.nil_append])
                  rw [nI_1]
                  refine pm_G.fg [false, false, false, false, true, true] ?_; dsimp only [pm_fg]
                  refine ih (k + 1) _ _ (cm ++ [b]) _ g2 (by omega) hct (by omega) (rOK_bloom hR hbr) hadd (((((hF.up (by omega)).up (by omega)).up (by omega)).up2).up (by omega)) ⟨?_, ?_, ?_, ?_, fun j x hj => ?_⟩ hq
                  · rw [pm_up_of (by omega), pm_up_o (by omega), pm_up_of (by omega), pm_up_at]
                  · rw [pm_up_of (by omega), pm_up_o (by omega), pm_up_at]
                  · rw [pm_up_at, List.length_append]; rfl
                  · rw [pm_up_of (by omega), pm_up_o (by omega), pm_up_of (by omega), pm_up_of (by omega), pm_up_at]; rfl
                  · rcases app_get hj with ⟨q1, q2⟩ | ⟨q1, q2⟩
                    · rw [pm_up_o (by omega), pm_up_of (by omega), pm_up_o (by omega), pm_up_o (by omega), pm_up_o (by omega)]
                      exact s5 j x q2
                    · subst q1; subst q2
                      rw [pm_up_o (by omega), pm_up_at]
                · exact absurd (by decide) h7
            · exact absurd (nI_pos' (by omega)) h5
      · -- rain
        have e42 : c = 42 := (nI_eq (b := 42) (by omega) (by omega)).mp h2
        rw [if_neg (by omega)] at eop
        rw [show pd_op (c :: t) = pd_op t by omega] at hq ⊢
        have ew : wk_run law gate B pa (c :: t) (wk_dg B code (pd_op t)) r s cm k = wk_run law gate B pa t (wk_dg B code (pd_op t)) (gd_rn s B) s cm (k + 1) := by
          simp only [wk_run]; rw [if_pos e42]
        rw [ew] at hq
        refine pm_go 9999 (by exact okX11_goWeek) rfl ?_; (try dsimp only [pm_st1, pm_st2, pm_cat2, pm_la, Option.toList, List.cons_append, List.nil_append])
        rw [s2]
        refine pm_cv (by exact okX11_goWeek) (by exact okX11_rained) rfl (by exact arX11_rained) (t_rained (d := 1) (n := B) (s := s) (by rw [f0, hB]) hB6.2 (by omega) (by omega)) rfl rfl rfl (by dsimp only; omega) rfl (Nat.le_of_ble_eq_true rfl) ⟨Nat.zero_le _, Nat.zero_le _⟩ ?_
        rintro _ _ _ _ ⟨rfl, rfl, rfl, rfl⟩ -
        refine pm_go 9999 (by exact okX11_goWeek) rfl ?_; (try dsimp only [pm_st1, pm_st2, pm_cat2, pm_la, Option.toList, List.cons_append, List.nil_append])
        rw [show pm_up mu 19 14 (nI (md_r7 (gd_rn s B))) 19 18 = 0 by rw [pm_up_of (by omega)]; exact s4]
        refine pm_zle (by exact okX11_goWeek) rfl (fun h7 => ?_) (fun h7 => ?_)
        · refine pm_go 53 (by exact okX11_goWeek) rfl ?_; (try dsimp only [pm_st1, pm_st2, pm_cat2, pm_la, Option.toList, List.cons_append, List.nil_append])
          rw [nI_1]
          refine pm_G.fg [false, false, false, false, true, true] ?_; dsimp only [pm_fg]
          exact ih (k + 1) _ s cm _ g2 (by omega) hct (by omega) (rOK_rain hR.2.2) hcm (hF.up (by omega)) ⟨pm_up_at, by rw [pm_up_of (by omega)]; exact s2, by rw [pm_up_of (by omega)]; exact s3, by rw [pm_up_of (by omega)]; exact s4, fun j x hj => by rw [pm_up_o (by omega)]; exact s5 j x hj⟩ hq
        · exact absurd (by decide) h7
/-- the reference's week, with the BEDS that a code writes -/
abbrev wk_of (g : gS) (pd : List Nat) (code : Nat) : Option (Nat × Nat) × List Nat × Nat × List Nat := wk_run (gL g) (gG g) (gB g) (gP g) pd (wk_dg (gB g) code (pd_op pd)) (gR g) (gM g) [] 0
set_option maxRecDepth 100000 in
set_option maxHeartbeats 1000000 in
theorem t_goWeek {z : mS} {code : Nat} (hz : zOK z) (h : MA z mu) (hw : pd_wf (gB z.1) 0 0 z.2.1 = none) (hcode : code < 2 ^ 31) (hd : 2 ≤ d) : pm_T cx mX11_goWeek d 0 0 [.ref 19, .int (nI code)] (sh_ i0 i1 ex) mu nu (fun v sg' mu' nu' => v = some (.int (nO ((wk_of z.1 z.2.1 code).1.map (fun q => q.1)))) ∧ sg' = sh_ i0 i1 ex ∧ nu' = nu ∧ wkF mu mu' ∧ wkS (wk_of z.1 z.2.1 code).2.1 (wk_of z.1 z.2.1 code).2.2.1 (wk_of z.1 z.2.1 code).2.2.2 (((wk_of z.1 z.2.1 code).1.map (fun q => q.2)).getD 0) mu') := by
  obtain ⟨⟨a1, a2, a3, a4, a5, a6, a7, a8, a9, b1, b2, b3, b4, b5⟩, c1, c2⟩ := id h
  obtain ⟨⟨hB6, hlaw, ⟨hg1, hg⟩, -, -, hpa, -, hR, -⟩, hp, -⟩ := hz
  obtain ⟨hok, hop⟩ := pd_wf_ok z.2.1 0 0 (by omega) hw
  refine pm_enterN 4 (by exact okX11_goWeek) rfl ?_; dsimp only [pm_la, pm_cat2, List.replicate, List.cons_append, List.nil_append, List.append_nil]
  refine pm_go 30 (by exact okX11_goWeek) rfl ?_; (try dsimp only [pm_st1, pm_st2, pm_cat2, pm_la, Option.toList, List.cons_append, List.nil_append])
  rw [a6]
  have hF : wkF mu (pm_up (pm_up (pm_up (pm_up mu 19 14 (nI (md_r7 (gR z.1)))) 19 15 (nI (gM z.1))) 19 16 0) 19 18 0) := (((wkF.rf.up (by omega)).up (by omega)).up (by omega)).up (by omega)
  have hS : wkS (gR z.1) (gM z.1) [] 0 (pm_up (pm_up (pm_up (pm_up mu 19 14 (nI (md_r7 (gR z.1)))) 19 15 (nI (gM z.1))) 19 16 0) 19 18 0) := ⟨by rw [pm_up_of (by omega), pm_up_of (by omega), pm_up_of (by omega), pm_up_at], by rw [pm_up_of (by omega), pm_up_of (by omega), pm_up_at], by rw [pm_up_of (by omega), pm_up_at]; rfl, by rw [pm_up_at]; rfl, fun j b hb => nil_get hb⟩
  refine pm_G.cast (L' := [some (.ref 19), some (.int (nI code)), some (.int (nI (gB z.1 ^ (1 - 1)))), some (.int (nI 1)), none, none]) (S' := []) (mu' := pm_up (pm_up (pm_up (pm_up mu 19 14 (nI (md_r7 (gR z.1)))) 19 15 (nI (gM z.1))) 19 16 0) 19 18 0) (nu' := nu) ?_ rfl rfl ?_ rfl
  · generalize pm_up (pm_up (pm_up (pm_up mu 19 14 (nI (md_r7 (gR z.1)))) 19 15 (nI (gM z.1))) 19 16 0) 19 18 0 = mu1 at hF hS ⊢
    have f : ∀ j, j ≠ 14 → j ≠ 15 → j ≠ 16 → j ≠ 18 → mu1 19 j = mu 19 j := hF.2
    refine t_goWeek_b (B := gB z.1) (pd := z.2.1) (by rw [f 0 (by omega) (by omega) (by omega) (by omega)]; exact a1) hB6 (by rw [f 6 (by omega) (by omega) (by omega) (by omega)]; exact a5) (fun k b hb => by rw [hF.1 22 (by omega) (by omega)]; exact b3 k b hb) hp (by omega) (by omega) ?_ (max 1 (pd_op z.2.1) - 1) 1 (by omega) (by omega)
    refine pm_go 53 (by exact okX11_goWeek) rfl ?_; (try dsimp only [pm_st1, pm_st2, pm_cat2, pm_la, Option.toList, List.cons_append, List.nil_append])
    exact t_goWeek_l (law := gL z.1) (gate := gG z.1) (pa := gP z.1) a1 hB6 a2 hlaw a3 hg b2 (fun k o hk ho => by have := (hpa k o hk ho).2; omega) a5 b3 hp hcode hd z.2.1 0 (gR z.1) (gM z.1) [] mu1 rfl (by omega) hok (by omega) hR ⟨List.nodup_nil, fun b hb => (List.not_mem_nil hb).elim⟩ hF hS (fun mu' g1 g2 => ⟨rfl, rfl, rfl, g1, g2⟩)
  · rw [show pm_up mu 19 14 (nI (md_r7 (gR z.1))) 19 9 = mu 19 9 from pm_up_of (by omega), a7]
end

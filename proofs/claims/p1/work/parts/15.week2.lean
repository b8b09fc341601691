/-! ===== the reference's judge, week, filled ===== -/
theorem MA.wk {z : mS} {mu mu' : pm_I} (h : MA z mu) (hF : wkF mu mu') : MA z mu' := h.same (fun j hj => hF.2 j (by omega) (by omega) (by omega) (by omega)) (fun k h1 h2 => hF.1 k (by omega) (by omega)) (hF.1 38 (by omega) (by omega)) (hF.1 39 (by omega) (by omega))
theorem wkF.fM {mu mu' : pm_I} (h : wkF mu mu') : fM mu mu' := fun k hk => h.1 k (by omega) (by omega)
theorem fM.tr {mu mu2 mu3 : pm_I} (h : fM mu mu2) (h2 : fM mu2 mu3) : fM mu mu3 := fun k hk => (h2 k hk).trans (h k hk)
def sp_judge (z : mS) (w : Int32) : Int32 :=
  if ¬ (0 ≤ w ∧ w ≤ 1) then -2 else if pd_wf (gB z.1) 0 0 z.2.1 ≠ none then -5 else if 0 < pd_op z.2.1 then -3 else match (wk_of z.1 z.2.1 0).1 with
    | none => -6
    | some q => if w = 0 then nI q.1 else nI q.2
/-- a WEEK done -/
abbrev gDone (g : gS) (x : Option (Nat × Nat) × List Nat × Nat × List Nat) : gS := (g.1, gC g, gP g, x.2.1, x.2.2.1, gK g ++ x.2.2.2, gV g)
def sp_week (z : mS) : Int32 × mS :=
  if pd_wf (gB z.1) 0 0 z.2.1 ≠ none then (-5, z) else if 0 < pd_op z.2.1 then (-3, z) else if (wk_of z.1 z.2.1 0).1 ≠ none then (-5, z) else (nI (wk_of z.1 z.2.1 0).2.2.2.length, (gDone z.1 (wk_of z.1 z.2.1 0), [], z.2.2))
/-- what stays true in a week -/
theorem wk_inv {law gate B : Nat} {pa : Nat → Option Nat} {K0 : List Nat} : ∀ (suf ch r : List Nat) (s : Nat) (cm : List Nat) (k : Nat), (∀ c ∈ suf, okc B c) → (∀ b ∈ ch, b < B) → ch.length = pd_op suf → rOK B r s → ((K0 ++ cm).Nodup ∧ ∀ b, s.testBit b = true ↔ b ∈ K0 ++ cm) →
    rOK B (wk_run law gate B pa suf ch r s cm k).2.1 (wk_run law gate B pa suf ch r s cm k).2.2.1 ∧ (K0 ++ (wk_run law gate B pa suf ch r s cm k).2.2.2).Nodup ∧ (∀ b, (wk_run law gate B pa suf ch r s cm k).2.2.1.testBit b = true ↔ b ∈ K0 ++ (wk_run law gate B pa suf ch r s cm k).2.2.2) ∧ ∀ q, (wk_run law gate B pa suf ch r s cm k).1 = some q → k ≤ q.1 ∧ q.1 < k + suf.length ∧ 1 ≤ q.2 ∧ q.2 ≤ 4 := by
  intro suf
  induction suf with
  | nil => intro ch r s cm k _ _ _ hR hK; exact ⟨hR, hK.1, hK.2, fun q hq => by simp [wk_run] at hq⟩
  | cons c t ih =>
    intro ch r s cm k hc hch hlen hR hK
    have hcc := hc c List.mem_cons_self
    have hct : ∀ x ∈ t, okc B x := fun x hx => hc x (List.mem_cons_of_mem _ hx)
    rw [pd_op_cons] at hlen
    have up : ∀ (q : Nat × Nat), (k + 1 ≤ q.1 ∧ q.1 < k + 1 + t.length ∧ 1 ≤ q.2 ∧ q.2 ≤ 4) → (k ≤ q.1 ∧ q.1 < k + (c :: t).length ∧ 1 ≤ q.2 ∧ q.2 ≤ 4) := by
      intro q hq; simp only [List.length_cons]; omega
    have wyk : ∀ b, ¬ gd_wy gate pa r s b = 0 → ∀ q, some (k, gd_wy gate pa r s b) = some q → k ≤ q.1 ∧ q.1 < k + (c :: t).length ∧ 1 ≤ q.2 ∧ q.2 ≤ 4 := by
      intro b hb q hq
      cases hq
      have := gd_wy_le (gate := gate) (pa := pa) (r := r) (s := s) (b := b)
      simp only [List.length_cons]
      omega
    by_cases e42 : c = 42
    · subst e42
      rw [if_neg (by omega)] at hlen
      have e : wk_run law gate B pa (42 :: t) ch r s cm k = wk_run law gate B pa t ch (gd_rn s B) s cm (k + 1) := rfl
      rw [e]
      obtain ⟨g1, g2, g3, g4⟩ := ih ch (gd_rn s B) s cm (k + 1) hct hch (by omega) (rOK_rain hR.2.2) hK
      exact ⟨g1, g2, g3, fun q hq => up q (g4 q hq)⟩
    · by_cases e46 : c = 46
      · subst e46
        rw [if_neg (by omega)] at hlen
        rw [wk_run_m]
        cases hnx : gd_nx law r with
        | none => exact ⟨hR, hK.1, hK.2, fun q hq => by cases hq; simp only [List.length_cons]; omega⟩
        | some b =>
          have hbr := gd_nx_mem hnx
          have hbs := (hR.2.1 b hbr).2
          have hbK : b ∉ K0 ++ cm := fun q => by rw [(hK.2 b).mpr q] at hbs; cases hbs
          obtain ⟨g1, g2, g3, g4⟩ := ih ch (r.filter (fun x => x != b)) (s ||| 2 ^ b) (cm ++ [b]) (k + 1) hct hch (by omega) (rOK_bloom hR hbr) (by
            rw [← List.append_assoc]
            refine ⟨List.nodup_append.mpr ⟨hK.1, by simp, fun x hx y hy => ?_⟩, fun x => ?_⟩
            · simp at hy
              subst hy
              intro q
              subst q
              exact hbK hx
            · have e9 : x ∈ (K0 ++ cm) ++ [b] ↔ (x ∈ K0 ++ cm ∨ x = b) := by rw [List.mem_append, List.mem_singleton]
              rw [e9, tb_set, Bool.or_eq_true, hK.2 x, decide_eq_true_iff]
              constructor
              · rintro (q | q)
                · exact Or.inl q
                · exact Or.inr q.symm
              · rintro (q | q)
                · exact Or.inl q
                · exact Or.inr q.symm)
          exact ⟨g1, g2, g3, fun q hq => up q (g4 q hq)⟩
      · by_cases e63 : c = 63
        · subst e63
          rw [if_pos rfl] at hlen
          cases ch with
          | nil => simp at hlen
          | cons b ch =>
            rw [wk_run_q]
            by_cases hw : gd_wy gate pa r s b = 0
            · rw [if_pos hw]
              obtain ⟨g1, g2, g3, g4⟩ := ih ch _ s cm (k + 1) hct (fun x hx => hch x (List.mem_cons_of_mem _ hx)) (by simp only [List.length_cons] at hlen; omega) (rOK_water hR (hch b List.mem_cons_self) (gd_wy_bit hw)) hK
              exact ⟨g1, g2, g3, fun q hq => up q (g4 q hq)⟩
            · rw [if_neg hw]
              exact ⟨hR, hK.1, hK.2, wyk b hw⟩
        · rw [if_neg e63] at hlen
          have hlet : 97 ≤ c ∧ c < 97 + B := by unfold okc at hcc; omega
          have e : wk_run law gate B pa (c :: t) ch r s cm k = if gd_wy gate pa r s (c - 97) = 0 then wk_run law gate B pa t ch ((c - 97) :: r.filter (fun x => x != (c - 97))) s cm (k + 1) else (some (k, gd_wy gate pa r s (c - 97)), r, s, cm) := by
            simp only [wk_run]; rw [if_neg e42, if_neg e46, if_neg e63]
          rw [e]
          by_cases hw : gd_wy gate pa r s (c - 97) = 0
          · rw [if_pos hw]
            obtain ⟨g1, g2, g3, g4⟩ := ih ch _ s cm (k + 1) hct hch (by omega) (rOK_water hR (by omega) (gd_wy_bit hw)) hK
            exact ⟨g1, g2, g3, fun q hq => up q (g4 q hq)⟩
          · rw [if_neg hw]
            exact ⟨hR, hK.1, hK.2, wyk _ hw⟩
theorem wk_dg_lt {B code : Nat} (hB : 0 < B) : ∀ m, ∀ b ∈ wk_dg B code m, b < B := by
  intro m
  induction m with
  | zero => intro b hb; cases hb
  | succ m ih =>
    intro b hb
    rcases List.mem_cons.mp hb with rfl | hb
    · exact Nat.mod_lt _ hB
    · exact ih b hb
theorem wk_dg_len {B code : Nat} : ∀ m, (wk_dg B code m).length = m := by
  intro m
  induction m with
  | zero => rfl
  | succ m ih => simp [wk_dg, ih]
theorem wk_of_inv {g : gS} {pd : List Nat} {code : Nat} (hg : gOK g) (hw : pd_wf (gB g) 0 0 pd = none) : rOK (gB g) (wk_of g pd code).2.1 (wk_of g pd code).2.2.1 ∧ (gK g ++ (wk_of g pd code).2.2.2).Nodup ∧ (∀ b, (wk_of g pd code).2.2.1.testBit b = true ↔ b ∈ gK g ++ (wk_of g pd code).2.2.2) ∧ ∀ q, (wk_of g pd code).1 = some q → q.1 < pd.length ∧ 1 ≤ q.2 ∧ q.2 ≤ 4 := by
  obtain ⟨hB6, -, -, -, -, -, -, hR, hK, -⟩ := hg
  obtain ⟨hok, hop⟩ := pd_wf_ok pd 0 0 (by omega) hw
  obtain ⟨g1, g2, g3, g4⟩ := wk_inv (law := gL g) (gate := gG g) (pa := gP g) (K0 := gK g) pd (wk_dg (gB g) code (pd_op pd)) (gR g) (gM g) [] 0 hok (wk_dg_lt (by omega) _) (wk_dg_len _) hR (by rw [List.append_nil]; exact hK)
  exact ⟨g1, g2, g3, fun q hq => by have := g4 q hq; omega⟩
theorem gOK_K6 {g : gS} (hg : gOK g) : ∀ b ∈ gK g, b < 6 := by
  obtain ⟨hB6, -, -, -, -, -, -, hR, hK, -⟩ := hg
  intro b hb
  have h1 := (hK.2 b).mpr hb
  have h2 := rOK_s hR hB6.2
  rcases Nat.lt_or_ge b 6 with q | q
  · exact q
  · have : gM g < 2 ^ b := Nat.lt_of_lt_of_le h2 (Nat.pow_le_pow_right (n := 2) (by omega) q)
    rw [Nat.testBit_lt_two_pow this] at h1
    cases h1
theorem wk_of_len {g : gS} {pd : List Nat} {code : Nat} (hg : gOK g) (hw : pd_wf (gB g) 0 0 pd = none) : (gK g).length + (wk_of g pd code).2.2.2.length ≤ 6 := by
  obtain ⟨g1, g2, g3, -⟩ := wk_of_inv (code := code) hg hw
  rw [← List.length_append]
  refine nodup_len g2 (fun b hb => ?_)
  have h1 := (g3 b).mpr hb
  have h2 := rOK_s g1 hg.1.2
  rcases Nat.lt_or_ge b 6 with q | q
  · exact q
  · have : (wk_of g pd code).2.2.1 < 2 ^ b := Nat.lt_of_lt_of_le h2 (Nat.pow_le_pow_right (n := 2) (by omega) q)
    rw [Nat.testBit_lt_two_pow this] at h1
    cases h1
section
variable {cx : pm_CX} {d n0 : Nat} {i0 i1 : Option Nat} {ex : List pm_C} {mu : pm_I} {nu : pm_J}
theorem nO_neg {o : Option Nat} {n : Nat} (h : ∀ b, o = some b → b < n) (hn : n < 2 ^ 31) : (nO o < 0 ↔ o = none) := by
  cases o with
  | none => exact ⟨fun _ => rfl, fun _ => by decide⟩
  | some b => exact ⟨fun q => absurd q (nI_pos (by have := h b rfl; omega)), fun q => by cases q⟩
theorem pd_wf_lt {B : Nat} : ∀ (r : List Nat) (k op b : Nat), pd_wf B k op r = some b → b < k + r.length := by
  intro r
  induction r with
  | nil => intro k op b h; cases h
  | cons c r ih =>
    intro k op b h
    simp only [pd_wf] at h
    simp only [List.length_cons]
    repeat' split at h
    all_goals first | (cases h; omega) | (have := ih _ _ _ h; omega)
set_option maxRecDepth 100000 in
set_option maxHeartbeats 1000000 in
theorem M_judge {z : mS} (w : Int32) (hz : zOK z) (h : MA z mu) (hd : 3 ≤ d) : pm_T cx mX11_judge d 0 0 [.ref 19, .int w] (sh_ i0 i1 ex) mu nu (mQ (.int (sp_judge z w)) z i0 i1 ex mu) := by
  obtain ⟨⟨a1, a2, a3, a4, a5, a6, a7, a8, a9, b1, b2, b3, b4, b5⟩, c1, c2⟩ := id h
  obtain ⟨hg, hp, -⟩ := id hz
  have hB6 := hg.1
  have hp1 := hp.1
  have hop := pd_op_le z.2.1
  unfold sp_judge
  refine pm_enterN 1 (by exact okX11_judge) rfl ?_; dsimp only [pm_la, pm_cat2, List.replicate, List.cons_append, List.nil_append, List.append_nil]
  refine pm_go 9999 (by exact okX11_judge) rfl ?_; (try dsimp only [pm_st1, pm_st2, pm_cat2, pm_la, Option.toList, List.cons_append, List.nil_append])
  refine pm_cs (by exact okX11_judge) (by exact okX11_in) rfl (by exact arX11_in) (t_in (d := 0) w 0 1) rfl (by dsimp only; omega) rfl (Nat.le_of_ble_eq_true rfl) ⟨Nat.zero_le _, Nat.zero_le _⟩ ?_
  rintro _ _ _ _ ⟨rfl, rfl, rfl, rfl⟩ -
  refine pm_go 9999 (by exact okX11_judge) rfl ?_; (try dsimp only [pm_st1, pm_st2, pm_cat2, pm_la, Option.toList, List.cons_append, List.nil_append])
  refine pm_zne (by exact okX11_judge) rfl (fun h1 => ?_) (fun h1 => ?_)
  · have h1 := bI_n.mp h1
    rw [if_neg (fun q => q h1)]
    refine pm_go 9999 (by exact okX11_judge) rfl ?_; (try dsimp only [pm_st1, pm_st2, pm_cat2, pm_la, Option.toList, List.cons_append, List.nil_append])
    refine pm_cv (by exact okX11_judge) (by exact okX11_weekFault) rfl (by exact arX11_weekFault) (t_weekFault (d := 2) a1 hB6 a5 b3 hp (by omega)) rfl rfl rfl (by dsimp only; omega) rfl (Nat.le_of_ble_eq_true rfl) ⟨Nat.zero_le _, Nat.zero_le _⟩ ?_
    rintro _ _ _ _ ⟨rfl, rfl, rfl, rfl⟩ -
    refine pm_go 9999 (by exact okX11_judge) rfl ?_; (try dsimp only [pm_st1, pm_st2, pm_cat2, pm_la, Option.toList, List.cons_append, List.nil_append])
    have ewf := nO_neg (o := pd_wf (gB z.1) 0 0 z.2.1) (n := 48) (fun b hb => by have := pd_wf_lt _ _ _ _ hb; omega) (by omega)
    refine pm_zlt (by exact okX11_judge) rfl (fun h2 => ?_) (fun h2 => ?_)
    · have h2 := ewf.mp h2
      rw [if_neg (fun q => q h2)]
      refine pm_go 9999 (by exact okX11_judge) rfl ?_; (try dsimp only [pm_st1, pm_st2, pm_cat2, pm_la, Option.toList, List.cons_append, List.nil_append])
      refine pm_cv (by exact okX11_judge) (by exact okX11_opens) rfl (by exact arX11_opens) (t_opens (d := 0) a5 b3 hp) rfl rfl rfl (by dsimp only; omega) rfl (Nat.le_of_ble_eq_true rfl) ⟨Nat.zero_le _, Nat.zero_le _⟩ ?_
      rintro _ _ _ _ ⟨rfl, rfl, rfl, rfl⟩ -
      refine pm_go 9999 (by exact okX11_judge) rfl ?_; (try dsimp only [pm_st1, pm_st2, pm_cat2, pm_la, Option.toList, List.cons_append, List.nil_append])
      refine pm_zle (by exact okX11_judge) rfl (fun h3 => ?_) (fun h3 => ?_)
      · have h4 : ¬ 0 < pd_op z.2.1 := fun q => nI_nle q (by omega) h3
        rw [if_neg h4]
        refine pm_go 9999 (by exact okX11_judge) rfl ?_; (try dsimp only [pm_st1, pm_st2, pm_cat2, pm_la, Option.toList, List.cons_append, List.nil_append])
        refine pm_cv (by exact okX11_judge) (by exact okX11_goWeek) rfl (by exact arX11_goWeek) (t_goWeek (d := 2) (code := 0) hz h h2 (by omega) (by omega)) rfl rfl rfl (by dsimp only; omega) rfl (Nat.le_of_ble_eq_true rfl) ⟨Nat.zero_le _, Nat.zero_le _⟩ ?_
        rintro v sg2 mu2 nu2 ⟨rfl, rfl, rfl, gF, gS1⟩ -
        obtain ⟨-, -, -, hi⟩ := wk_of_inv (code := 0) hg h2
        cases hr : (wk_of z.1 z.2.1 0).1 with
        | none =>
          refine pm_go 9999 (by exact okX11_judge) rfl ?_; (try dsimp only [pm_st1, pm_st2, pm_cat2, pm_la, Option.toList, List.cons_append, List.nil_append])
          refine pm_zlt (by exact okX11_judge) rfl (fun h5 => ?_) (fun h5 => ?_)
          · refine pm_go 9999 (by exact okX11_judge) rfl ?_; (try dsimp only [pm_st1, pm_st2, pm_cat2, pm_la, Option.toList, List.cons_append, List.nil_append])
            refine pm_ri (by exact okX11_judge) rfl rfl rfl (Nat.le_refl _) (Nat.le_refl _) (⟨rfl, rfl, h.wk gF, gF.fM⟩)
          · exact absurd (by decide) h5
        | some q =>
          obtain ⟨q1, q2, q3⟩ := hi q hr
          rw [hr] at gS1
          show pm_G _ _ _ _ _ _ [.int (nI q.1)] _ _ _
          refine pm_go 9999 (by exact okX11_judge) rfl ?_; (try dsimp only [pm_st1, pm_st2, pm_cat2, pm_la, Option.toList, List.cons_append, List.nil_append])
          refine pm_zlt (by exact okX11_judge) rfl (fun h5 => ?_) (fun h5 => ?_)
          · exact absurd h5 (nI_pos (by omega))
          · refine pm_go 9999 (by exact okX11_judge) rfl ?_; (try dsimp only [pm_st1, pm_st2, pm_cat2, pm_la, Option.toList, List.cons_append, List.nil_append])
            refine pm_zne (by exact okX11_judge) rfl (fun h6 => ?_) (fun h6 => ?_)
            · refine pm_go 9999 (by exact okX11_judge) rfl ?_; (try dsimp only [pm_st1, pm_st2, pm_cat2, pm_la, Option.toList, List.cons_append, List.nil_append])
              rw [gS1.2.2.2.1]
              refine pm_ri (by exact okX11_judge) rfl rfl rfl (Nat.le_refl _) (Nat.le_refl _) (⟨by show _ = some (Value.int (if w = 0 then nI q.1 else nI q.2)); rw [if_neg h6]; rfl, rfl, h.wk gF, gF.fM⟩)
            · refine pm_go 9999 (by exact okX11_judge) rfl ?_; (try dsimp only [pm_st1, pm_st2, pm_cat2, pm_la, Option.toList, List.cons_append, List.nil_append])
              refine pm_ri (by exact okX11_judge) rfl rfl rfl (Nat.le_refl _) (Nat.le_refl _) (⟨by show _ = some (Value.int (if w = 0 then nI q.1 else nI q.2)); rw [if_pos h6], rfl, h.wk gF, gF.fM⟩)
      · have h4 : 0 < pd_op z.2.1 := by
          rcases Nat.eq_zero_or_pos (pd_op z.2.1) with q | q
          · rw [q] at h3; exact absurd (by decide) h3
          · exact q
        rw [if_pos h4]
        refine pm_go 9999 (by exact okX11_judge) rfl ?_; (try dsimp only [pm_st1, pm_st2, pm_cat2, pm_la, Option.toList, List.cons_append, List.nil_append])
        refine pm_ri (by exact okX11_judge) rfl rfl rfl (Nat.le_refl _) (Nat.le_refl _) (⟨rfl, rfl, h, fM.rf⟩)
    · have h2 : pd_wf (gB z.1) 0 0 z.2.1 ≠ none := fun q => h2 (ewf.mpr q)
      rw [if_pos h2]
      refine pm_go 9999 (by exact okX11_judge) rfl ?_; (try dsimp only [pm_st1, pm_st2, pm_cat2, pm_la, Option.toList, List.cons_append, List.nil_append])
      refine pm_ri (by exact okX11_judge) rfl rfl rfl (Nat.le_refl _) (Nat.le_refl _) (⟨rfl, rfl, h, fM.rf⟩)
  · have h1 := bI_z.mp h1
    rw [if_pos h1]
    refine pm_go 9999 (by exact okX11_judge) rfl ?_; (try dsimp only [pm_st1, pm_st2, pm_cat2, pm_la, Option.toList, List.cons_append, List.nil_append])
    refine pm_ri (by exact okX11_judge) rfl rfl rfl (Nat.le_refl _) (Nat.le_refl _) (⟨rfl, rfl, h, fM.rf⟩)
set_option maxRecDepth 100000 in
set_option maxHeartbeats 1000000 in
theorem M_week_l {Q : pm_Po} {cm K : List Nat} (hlen : K.length + cm.length ≤ 6) : ∀ (j k : Nat) (mu : pm_I), k + j = cm.length → mu 19 16 = nI cm.length → mu 19 11 = nI (K.length + k) → (∀ i b, cm[i]? = some b → mu 25 i = nI b) → (∀ i b, (K ++ cm.take k)[i]? = some b → mu 23 i = nI b) → (∀ mu', (∀ a, a ≠ 19 → a ≠ 23 → mu' a = mu a) → (∀ i, i ≠ 11 → i ≠ 6 → mu' 19 i = mu 19 i) → mu' 19 6 = 0 → mu' 19 11 = nI (K ++ cm).length → (∀ i b, (K ++ cm)[i]? = some b → mu' 23 i = nI b) → Q (some (.int (nI cm.length))) (sh_ i0 i1 ex) mu' nu) → pm_G cx (mX11_week, d, 0, 0, n0, Q) 0 0 49 [some (.ref 19), some (.int (nI k))] [] (sh_ i0 i1 ex) mu nu := by
  intro j
  induction j with
  | zero =>
    intro k mu hk h16 h11 hcm hK hq
    have hk : k = cm.length := by omega
    subst hk
    rw [List.take_length] at hK
    refine pm_go 9999 (by exact okX11_week) rfl ?_; (try dsimp only [pm_st1, pm_st2, pm_cat2, pm_la, Option.toList, List.cons_append, List.nil_append])
    rw [h16]
    refine pm_ige (by exact okX11_week) rfl (fun h1 => ?_) (fun h1 => ?_)
    · refine pm_go 9999 (by exact okX11_week) rfl ?_; (try dsimp only [pm_st1, pm_st2, pm_cat2, pm_la, Option.toList, List.cons_append, List.nil_append])
      rw [show pm_up mu 19 6 0 19 16 = nI cm.length by rw [pm_up_of (by omega)]; exact h16]
      refine pm_ri (by exact okX11_week) rfl rfl rfl (Nat.le_refl _) (Nat.le_refl _) (hq _ (fun a h1 h2 => pm_up_ne h1) (fun i h1 h2 => pm_up_of h2) pm_up_at (by rw [pm_up_of (by omega), List.length_append]; exact h11) (fun i b hb => by rw [pm_up_o (by omega)]; exact hK i b hb))
    · exact absurd (nI_le (by omega) (by omega)) h1
  | succ j ih =>
    intro k mu hk h16 h11 hcm hK hq
    have hlt : k < cm.length := by omega
    have hget := List.getElem?_eq_getElem hlt
    refine pm_go 9999 (by exact okX11_week) rfl ?_; (try dsimp only [pm_st1, pm_st2, pm_cat2, pm_la, Option.toList, List.cons_append, List.nil_append])
    rw [h16]
    refine pm_ige (by exact okX11_week) rfl (fun h1 => ?_) (fun h1 => ?_)
    · exact absurd h1 (nI_ge (by omega) (by omega))
    · refine pm_go 9999 (by exact okX11_week) rfl ?_; (try dsimp only [pm_st1, pm_st2, pm_cat2, pm_la, Option.toList, List.cons_append, List.nil_append])
      rw [h11]
      refine pm_ial (by exact okX11_week) rfl rfl (vp_in_nI (by omega) (by omega)) ?_
      rw [nI_clamp (by omega), hcm k _ hget]
      refine pm_ias (by exact okX11_week) rfl rfl (vp_in_nI (by omega) (by omega)) ?_
      rw [nI_clamp (by omega)]
      refine pm_go 49 (by exact okX11_week) rfl ?_; (try dsimp only [pm_st1, pm_st2, pm_cat2, pm_la, Option.toList, List.cons_append, List.nil_append])
      rw [show pm_up mu 23 (K.length + k) (nI cm[k]) 19 11 = nI (K.length + k) by rw [pm_up_o (by omega)]; exact h11, nI_1, nI_1]
      refine ih (k + 1) _ (by omega) (by rw [pm_up_of (by omega), pm_up_o (by omega)]; exact h16) pm_up_at (fun i b hb => by rw [pm_up_o (by omega), pm_up_o (by omega)]; exact hcm i b hb) (fun i b hb => ?_) (fun mu' g1 g2 g3 g4 g5 => hq mu' (fun a q1 q2 => by rw [g1 a q1 q2, pm_up_ne q1, pm_up_ne q2]) (fun i q1 q2 => by rw [g2 i q1 q2, pm_up_of q1, pm_up_o (by omega)]) g3 g4 g5)
      rw [List.take_add_one, hget, ← List.append_assoc] at hb
      have hl : (K ++ cm.take k).length = K.length + k := by rw [List.length_append, List.length_take]; omega
      rcases app_get hb with ⟨q1, q2⟩ | ⟨q1, q2⟩
      · rw [hl] at q1
        rw [pm_up_o (by omega), pm_up_of (by omega)]
        exact hK i b q2
      · rw [hl] at q1
        subst q1; subst q2
        rw [pm_up_o (by omega), pm_up_at]
set_option maxRecDepth 100000 in
set_option maxHeartbeats 1000000 in
theorem M_week {z : mS} (hz : zOK z) (h : MA z mu) (hd : 3 ≤ d) : pm_T cx mX11_week d 0 0 [.ref 19] (sh_ i0 i1 ex) mu nu (mQ (.int (sp_week z).1) (sp_week z).2 i0 i1 ex mu) := by
  obtain ⟨⟨a1, a2, a3, a4, a5, a6, a7, a8, a9, b1, b2, b3, b4, b5⟩, c1, c2⟩ := id h
  obtain ⟨hg, hp, -⟩ := id hz
  have hB6 := hg.1
  have hp1 := hp.1
  have hop := pd_op_le z.2.1
  unfold sp_week
  refine pm_enterN 1 (by exact okX11_week) rfl ?_; dsimp only [pm_la, pm_cat2, List.replicate, List.cons_append, List.nil_append, List.append_nil]
  refine pm_go 9999 (by exact okX11_week) rfl ?_; (try dsimp only [pm_st1, pm_st2, pm_cat2, pm_la, Option.toList, List.cons_append, List.nil_append])
  refine pm_cv (by exact okX11_week) (by exact okX11_weekFault) rfl (by exact arX11_weekFault) (t_weekFault (d := 2) a1 hB6 a5 b3 hp (by omega)) rfl rfl rfl (by dsimp only; omega) rfl (Nat.le_of_ble_eq_true rfl) ⟨Nat.zero_le _, Nat.zero_le _⟩ ?_
  rintro _ _ _ _ ⟨rfl, rfl, rfl, rfl⟩ -
  refine pm_go 9999 (by exact okX11_week) rfl ?_; (try dsimp only [pm_st1, pm_st2, pm_cat2, pm_la, Option.toList, List.cons_append, List.nil_append])
  have ewf := nO_neg (o := pd_wf (gB z.1) 0 0 z.2.1) (n := 48) (fun b hb => by have := pd_wf_lt _ _ _ _ hb; omega) (by omega)
  refine pm_zlt (by exact okX11_week) rfl (fun h2 => ?_) (fun h2 => ?_)
  · have h2 := ewf.mp h2
    rw [if_neg (fun q => q h2)]
    refine pm_go 9999 (by exact okX11_week) rfl ?_; (try dsimp only [pm_st1, pm_st2, pm_cat2, pm_la, Option.toList, List.cons_append, List.nil_append])
    refine pm_cv (by exact okX11_week) (by exact okX11_opens) rfl (by exact arX11_opens) (t_opens (d := 0) a5 b3 hp) rfl rfl rfl (by dsimp only; omega) rfl (Nat.le_of_ble_eq_true rfl) ⟨Nat.zero_le _, Nat.zero_le _⟩ ?_
    rintro _ _ _ _ ⟨rfl, rfl, rfl, rfl⟩ -
    refine pm_go 9999 (by exact okX11_week) rfl ?_; (try dsimp only [pm_st1, pm_st2, pm_cat2, pm_la, Option.toList, List.cons_append, List.nil_append])
    refine pm_zle (by exact okX11_week) rfl (fun h3 => ?_) (fun h3 => ?_)
    · have h4 : ¬ 0 < pd_op z.2.1 := fun q => nI_nle q (by omega) h3
      rw [if_neg h4]
      refine pm_go 9999 (by exact okX11_week) rfl ?_; (try dsimp only [pm_st1, pm_st2, pm_cat2, pm_la, Option.toList, List.cons_append, List.nil_append])
      refine pm_cv (by exact okX11_week) (by exact okX11_goWeek) rfl (by exact arX11_goWeek) (t_goWeek (d := 2) (code := 0) hz h h2 (by omega) (by omega)) rfl rfl rfl (by dsimp only; omega) rfl (Nat.le_of_ble_eq_true rfl) ⟨Nat.zero_le _, Nat.zero_le _⟩ ?_
      rintro v sg2 mu2 nu2 ⟨rfl, rfl, rfl, gF, gS1⟩ -
      obtain ⟨-, -, -, hi⟩ := wk_of_inv (code := 0) hg h2
      have hlen := wk_of_len (code := 0) hg h2
      have erun := nO_neg (o := (wk_of z.1 z.2.1 0).1.map (fun q => q.1)) (n := 48) (fun b hb => by
        obtain ⟨q, hq, rfl⟩ := Option.map_eq_some_iff.mp hb
        have := (hi q hq).1
        omega) (by omega)
      refine pm_go 9999 (by exact okX11_week) rfl ?_; (try dsimp only [pm_st1, pm_st2, pm_cat2, pm_la, Option.toList, List.cons_append, List.nil_append])
      refine pm_zlt (by exact okX11_week) rfl (fun h5 => ?_) (fun h5 => ?_)
      · have h5 : (wk_of z.1 z.2.1 0).1 = none := by
          have := erun.mp h5
          cases hh : (wk_of z.1 z.2.1 0).1 with
          | none => rfl
          | some q => rw [hh] at this; cases this
        rw [if_neg (fun q => q h5)]
        obtain ⟨s1, s2, s3, s4, s5⟩ := gS1
        have hMA := h.wk gF
        obtain ⟨⟨a1, a2, a3, a4, a5, a6, a7, a8, a9, b1, b2, b3, b4, b5⟩, c1, c2⟩ := id hMA
        refine pm_go 49 (by exact okX11_week) rfl ?_; (try dsimp only [pm_st1, pm_st2, pm_cat2, pm_la, Option.toList, List.cons_append, List.nil_append])
        rw [s1, show pm_up mu2 19 8 (nI (md_r7 (wk_of z.1 z.2.1 0).2.1)) 19 15 = nI (wk_of z.1 z.2.1 0).2.2.1 by rw [pm_up_of (by omega)]; exact s2]
        refine M_week_l (cm := (wk_of z.1 z.2.1 0).2.2.2) (K := gK z.1) hlen (wk_of z.1 z.2.1 0).2.2.2.length 0 _ (by omega) (by rw [pm_up_of (by omega), pm_up_of (by omega)]; exact s3) (by rw [pm_up_of (by omega), pm_up_of (by omega)]; exact a8) (fun i b hb => by rw [pm_up_o (by omega), pm_up_o (by omega)]; exact s5 i b hb) (fun i b hb => by rw [pm_up_o (by omega), pm_up_o (by omega)]; rw [List.take_zero, List.append_nil] at hb; exact b4 i b hb) (fun mu' g1 g2 g3 g4 g5 => ⟨rfl, rfl, ⟨⟨?_, ?_, ?_, ?_, g3, ?_, ?_, g4, ?_, ?_, ?_, fun k b hb => nil_get hb, g5, ?_⟩, ?_, ?_⟩, ?_⟩)
        · rw [g2 0 (by omega) (by omega), pm_up_of (by omega), pm_up_of (by omega)]; exact a1
        · rw [g2 3 (by omega) (by omega), pm_up_of (by omega), pm_up_of (by omega)]; exact a2
        · rw [g2 4 (by omega) (by omega), pm_up_of (by omega), pm_up_of (by omega)]; exact a3
        · rw [g2 5 (by omega) (by omega), pm_up_of (by omega), pm_up_of (by omega)]; exact a4
        · rw [g2 8 (by omega) (by omega), pm_up_of (by omega), pm_up_at]
        · rw [g2 9 (by omega) (by omega), pm_up_at]
        · rw [g2 12 (by omega) (by omega), pm_up_of (by omega), pm_up_of (by omega)]; exact a9
        · rw [g1 20 (by omega) (by omega)]; exact b1
        · rw [g1 21 (by omega) (by omega)]; exact b2
        · rw [g1 24 (by omega) (by omega)]; exact b5
        · exact c1.same (by rw [g1 38 (by omega) (by omega)]; rfl) (by rw [g1 39 (by omega) (by omega)]; rfl)
        · exact c2.same (by rw [g1 38 (by omega) (by omega)]; rfl) (by rw [g1 39 (by omega) (by omega)]; rfl)
        · intro a ha
          rw [g1 a (by omega) (by omega), pm_up_ne (by omega), pm_up_ne (by omega)]
          exact gF.fM a ha
      · have h5 : (wk_of z.1 z.2.1 0).1 ≠ none := fun q => h5 (erun.mpr (by rw [q]; rfl))
        rw [if_pos h5]
        refine pm_go 9999 (by exact okX11_week) rfl ?_; (try dsimp only [pm_st1, pm_st2, pm_cat2, pm_la, Option.toList, List.cons_append, List.nil_append])
        refine pm_ri (by exact okX11_week) rfl rfl rfl (Nat.le_refl _) (Nat.le_refl _) (⟨rfl, rfl, h.wk gF, gF.fM⟩)
    · have h4 : 0 < pd_op z.2.1 := by
        rcases Nat.eq_zero_or_pos (pd_op z.2.1) with q | q
        · rw [q] at h3; exact absurd (by decide) h3
        · exact q
      rw [if_pos h4]
      refine pm_go 9999 (by exact okX11_week) rfl ?_; (try dsimp only [pm_st1, pm_st2, pm_cat2, pm_la, Option.toList, List.cons_append, List.nil_append])
      refine pm_ri (by exact okX11_week) rfl rfl rfl (Nat.le_refl _) (Nat.le_refl _) (⟨rfl, rfl, h, fM.rf⟩)
  · have h2 : pd_wf (gB z.1) 0 0 z.2.1 ≠ none := fun q => h2 (ewf.mpr q)
    rw [if_pos h2]
    refine pm_go 9999 (by exact okX11_week) rfl ?_; (try dsimp only [pm_st1, pm_st2, pm_cat2, pm_la, Option.toList, List.cons_append, List.nil_append])
    refine pm_ri (by exact okX11_week) rfl rfl rfl (Nat.le_refl _) (Nat.le_refl _) (⟨rfl, rfl, h, fM.rf⟩)
/-- it is as it was SEEN -/
def fl_sn (cm : List Nat) (V : List (Nat × Nat)) : Prop := ∀ q ∈ V, cm[q.1]? = some q.2
theorem fl_sn_app {cm : List Nat} {V : List (Nat × Nat)} {q : Nat × Nat} : fl_sn cm (V ++ [q]) ↔ fl_sn cm V ∧ cm[q.1]? = some q.2 := by
  unfold fl_sn
  constructor
  · intro h
    exact ⟨fun x hx => h x (List.mem_append_left _ hx), h q (List.mem_append_right _ (by simp))⟩
  · rintro ⟨h1, h2⟩ x hx
    rcases List.mem_append.mp hx with q1 | q1
    · exact h1 x q1
    · simp at q1; subst q1; exact h2
set_option maxRecDepth 100000 in
set_option maxHeartbeats 1000000 in
theorem t_isAsSeen_l {Q : pm_Po} {cm : List Nat} {V : List (Nat × Nat)} (hcl : cm.length ≤ 6) (hc6 : ∀ b ∈ cm, b < 6) (hV : V.length ≤ 6) (hV6 : ∀ q ∈ V, q.1 < 48 ∧ q.2 < 6) (h12 : mu 19 12 = nI V.length) (h16 : mu 19 16 = nI cm.length) (hcm : ∀ j b, cm[j]? = some b → mu 25 j = nI b) (h24 : ∀ k q, V[k]? = some q → mu 24 (2 * k) = nI q.1 ∧ mu 24 (2 * k + 1) = nI q.2) : ∀ (j k : Nat) (P : Prop) [Decidable P], k + j = V.length → (P ↔ fl_sn cm (V.take k)) → (∀ (P' : Prop) [Decidable P'], (P' ↔ fl_sn cm V) → Q (some (.int (bI P'))) (sh_ i0 i1 ex) mu nu) → pm_G cx (mX11_isAsSeen, d, 0, 0, n0, Q) 0 0 4 [some (.ref 19), some (.int (bI P)), some (.int (nI k)), none] [] (sh_ i0 i1 ex) mu nu := by
  intro j
  induction j with
  | zero =>
    intro k P _ hk hPk hq
    have hk : k = V.length := by omega
    subst hk
    rw [List.take_length] at hPk
    refine pm_go 9999 (by exact okX11_isAsSeen) rfl ?_; (try dsimp only [pm_st1, pm_st2, pm_cat2, pm_la, Option.toList, List.cons_append, List.nil_append])
    rw [h12]
    refine pm_ige (by exact okX11_isAsSeen) rfl (fun h1 => ?_) (fun h1 => ?_)
    · refine pm_go 9999 (by exact okX11_isAsSeen) rfl ?_; (try dsimp only [pm_st1, pm_st2, pm_cat2, pm_la, Option.toList, List.cons_append, List.nil_append])
      exact pm_ri (by exact okX11_isAsSeen) rfl rfl bI_w (Nat.le_refl _) (Nat.le_refl _) (hq P hPk)
    · exact absurd (nI_le (by omega) (by omega)) h1
  | succ j ih =>
    intro k P _ hk hPk hq
    have hlt : k < V.length := by omega
    have hget := List.getElem?_eq_getElem hlt
    obtain ⟨v1, v2⟩ := h24 k _ hget
    obtain ⟨u1, u2⟩ := hV6 _ (List.getElem_mem hlt)
    have e2 : (2 : Int32) * nI k = nI (2 * k) := pk_mul 2 k
    have etake : V.take (k + 1) = V.take k ++ [V[k]] := by rw [List.take_add_one, hget]; rfl
    have no : ∀ x3, ¬ (P ∧ cm[(V[k]).1]? = some (V[k]).2) → pm_G cx (mX11_isAsSeen, d, 0, 0, n0, Q) 0 0 66 [some (.ref 19), some (.int (bI P)), some (.int (nI k)), some (.int x3)] [] (sh_ i0 i1 ex) mu nu := by
      intro x3 hn
      refine pm_go 4 (by exact okX11_isAsSeen) rfl ?_; (try dsimp only [pm_st1, pm_st2, pm_cat2, pm_la, Option.toList, List.cons_append, List.nil_append])
      rw [nI_1]
      refine pm_G.fg [false, false, false, true] ?_; dsimp only [pm_fg]
      have := ih (k + 1) False (by omega) (by
        rw [etake, fl_sn_app]
        exact ⟨fun q => q.elim, fun q => hn ⟨hPk.mpr q.1, q.2⟩⟩) hq
      rw [bI_0 (fun q => q)] at this
      exact this
    refine pm_go 9999 (by exact okX11_isAsSeen) rfl ?_; (try dsimp only [pm_st1, pm_st2, pm_cat2, pm_la, Option.toList, List.cons_append, List.nil_append])
    rw [h12]
    refine pm_ige (by exact okX11_isAsSeen) rfl (fun h1 => ?_) (fun h1 => ?_)
    · exact absurd h1 (nI_ge (by omega) (by omega))
    · refine pm_go 9999 (by exact okX11_isAsSeen) rfl ?_; (try dsimp only [pm_st1, pm_st2, pm_cat2, pm_la, Option.toList, List.cons_append, List.nil_append])
      rw [e2]
      refine pm_ial (by exact okX11_isAsSeen) rfl rfl (vp_in_nI (by omega) (by omega)) ?_
      rw [nI_clamp (by omega), v1]
      refine pm_go 66 (by exact okX11_isAsSeen) rfl ?_; (try dsimp only [pm_st1, pm_st2, pm_cat2, pm_la, Option.toList, List.cons_append, List.nil_append])
      refine pm_zeq (by exact okX11_isAsSeen) rfl (fun h2 => ?_) (fun h2 => ?_)
      · exact no _ (fun q => bI_z.mp h2 q.1)
      · have hP := bI_n.mp h2
        refine pm_go 9999 (by exact okX11_isAsSeen) rfl ?_; (try dsimp only [pm_st1, pm_st2, pm_cat2, pm_la, Option.toList, List.cons_append, List.nil_append])
        rw [h16]
        refine pm_ige (by exact okX11_isAsSeen) rfl (fun h3 => ?_) (fun h3 => ?_)
        · have h4 := (nI_leI (by omega) (by omega)).mp h3
          exact no _ (fun q => by rw [List.getElem?_eq_none (by omega)] at q; cases q.2)
        · have h4 : (V[k]).1 < cm.length := by
            rcases Nat.lt_or_ge (V[k]).1 cm.length with q | q
            · exact q
            · exact absurd (nI_le q (by omega)) h3
          have hg := List.getElem?_eq_getElem h4
          have hb6 := hc6 _ (List.getElem_mem h4)
          refine pm_go 9999 (by exact okX11_isAsSeen) rfl ?_; (try dsimp only [pm_st1, pm_st2, pm_cat2, pm_la, Option.toList, List.cons_append, List.nil_append])
          refine pm_ige (by exact okX11_isAsSeen) rfl (fun h5 => ?_) (fun h5 => ?_)
          · have := (nI_leI (a := 6) (by omega) (by omega)).mp h5
            omega
          · refine pm_go 9999 (by exact okX11_isAsSeen) rfl ?_; (try dsimp only [pm_st1, pm_st2, pm_cat2, pm_la, Option.toList, List.cons_append, List.nil_append])
            refine pm_ial (by exact okX11_isAsSeen) rfl rfl (vp_in_nI (by omega) (by omega)) ?_
            rw [nI_clamp (by omega), hcm _ _ hg]
            refine pm_go 9999 (by exact okX11_isAsSeen) rfl ?_; (try dsimp only [pm_st1, pm_st2, pm_cat2, pm_la, Option.toList, List.cons_append, List.nil_append])
            rw [e2, nI_1]
            refine pm_ial (by exact okX11_isAsSeen) rfl rfl (vp_in_nI (by omega) (by omega)) ?_
            rw [nI_clamp (by omega), v2]
            refine pm_ine (by exact okX11_isAsSeen) rfl (fun h6 => ?_) (fun h6 => ?_)
            · exact no _ (fun q => h6 (by
                have := q.2
                rw [hg] at this
                rw [Option.some.inj this]))
            · have h7 := (nI_eq (by omega) (by omega)).mp h6
              refine pm_go 4 (by exact okX11_isAsSeen) rfl ?_; (try dsimp only [pm_st1, pm_st2, pm_cat2, pm_la, Option.toList, List.cons_append, List.nil_append])
              rw [nI_1]
              refine pm_G.fg [false, false, false, true] ?_; dsimp only [pm_fg]
              have := ih (k + 1) True (by omega) (by
                rw [etake, fl_sn_app]
                exact ⟨fun _ => ⟨hPk.mp hP, by rw [hg, h7]⟩, fun _ => trivial⟩) hq
              rw [bI_1 trivial] at this
              exact this
set_option maxRecDepth 100000 in
set_option maxHeartbeats 1000000 in
theorem t_isAsSeen {cm : List Nat} {V : List (Nat × Nat)} (hcl : cm.length ≤ 6) (hc6 : ∀ b ∈ cm, b < 6) (hV : V.length ≤ 6) (hV6 : ∀ q ∈ V, q.1 < 48 ∧ q.2 < 6) (h12 : mu 19 12 = nI V.length) (h16 : mu 19 16 = nI cm.length) (hcm : ∀ j b, cm[j]? = some b → mu 25 j = nI b) (h24 : ∀ k q, V[k]? = some q → mu 24 (2 * k) = nI q.1 ∧ mu 24 (2 * k + 1) = nI q.2) : pm_T cx mX11_isAsSeen d 0 0 [.ref 19] (sh_ i0 i1 ex) mu nu (fun v sg' mu' nu' => (fl_sn cm V → v = some (.int 1)) ∧ (¬ fl_sn cm V → v = some (.int 0)) ∧ sh_ i0 i1 ex = sg' ∧ mu = mu' ∧ nu = nu') := by
  refine pm_enterN 3 (by exact okX11_isAsSeen) rfl ?_; dsimp only [pm_la, pm_cat2, List.replicate, List.cons_append, List.nil_append, List.append_nil]
  refine pm_go 4 (by exact okX11_isAsSeen) rfl ?_; (try dsimp only [pm_st1, pm_st2, pm_cat2, pm_la, Option.toList, List.cons_append, List.nil_append])
  have := t_isAsSeen_l (cx := cx) (d := d) (n0 := (sh_ i0 i1 ex).length) (i0 := i0) (i1 := i1) (ex := ex) (mu := mu) (nu := nu) (Q := fun v sg' mu' nu' => (fl_sn cm V → v = some (.int 1)) ∧ (¬ fl_sn cm V → v = some (.int 0)) ∧ sh_ i0 i1 ex = sg' ∧ mu = mu' ∧ nu = nu') hcl hc6 hV hV6 h12 h16 hcm h24 V.length 0 True (by omega) ⟨fun _ q hq => (List.not_mem_nil hq).elim, fun _ => trivial⟩ (fun P' _ hP' => ⟨fun q => by rw [bI_1 (hP'.mpr q)], fun q => by rw [bI_0 (fun w => q (hP'.mp w))], rfl, rfl, rfl⟩)
  rw [bI_1 trivial] at this
  exact this
end

/-! ===== the reference's filled ===== -/
/-- the BEDS that a code writes are a way to fill it -/
def fl_b (g : gS) (pd : List Nat) (code : Nat) : Bool := (wk_of g pd code).1.isNone && (gV g).all (fun q => decide ((wk_of g pd code).2.2.2[q.1]? = some q.2))
theorem fl_b_iff {g : gS} {pd : List Nat} {code : Nat} : fl_b g pd code = true ↔ (wk_of g pd code).1 = none ∧ fl_sn (wk_of g pd code).2.2.2 (gV g) := by
  unfold fl_b fl_sn
  rw [Bool.and_eq_true, Option.isNone_iff_eq_none, List.all_eq_true]
  constructor
  · rintro ⟨h1, h2⟩; exact ⟨h1, fun q hq => of_decide_eq_true (h2 q hq)⟩
  · rintro ⟨h1, h2⟩; exact ⟨h1, fun q hq => decide_eq_true (h2 q hq)⟩
/-- the first that is so, below n -/
def fl_f (p : Nat → Bool) : Nat → Option Nat
  | 0 => none
  | n + 1 => match fl_f p n with
    | some c => some c
    | none => if p n = true then some n else none
theorem fl_f_lt {p : Nat → Bool} : ∀ {n c : Nat}, fl_f p n = some c → c < n := by
  intro n
  induction n with
  | zero => intro c h; cases h
  | succ n ih =>
    intro c h
    unfold fl_f at h
    split at h
    · rename_i x hx
      cases h
      exact Nat.lt_succ_of_lt (ih hx)
    · split at h
      · cases h; exact Nat.lt_succ_self _
      · cases h
def sp_filled (z : mS) (i : Int32) : Int32 :=
  if pd_wf (gB z.1) 0 0 z.2.1 ≠ none then -5 else if i = -1 then nI (fb_ct (fl_b z.1 z.2.1) (gB z.1 ^ pd_op z.2.1)) else match fl_f (fl_b z.1 z.2.1) (gB z.1 ^ pd_op z.2.1) with
    | none => -6
    | some c => if isB (pd_op z.2.1) i then nI (c / gB z.1 ^ (pd_op z.2.1 - 1 - i.toNatClampNeg) % gB z.1) else -6
section
variable {cx : pm_CX} {d n0 : Nat} {i0 i1 : Option Nat} {ex : List pm_C} {mu : pm_I} {nu : pm_J}
set_option maxRecDepth 100000 in
set_option maxHeartbeats 1000000 in
theorem M_filled_p {Q : pm_Po} {pd : List Nat} {B : Nat} {x1 : Int32} (hB : mu 19 0 = nI B) (hB6 : 2 ≤ B ∧ B ≤ 6) (hN : mu 19 6 = nI pd.length) (hP : ∀ k b, pd[k]? = some b → mu 22 k = nI b) (hp : dOK pd) (ho : pd_op pd ≤ 4) (hd : 1 ≤ d) (kk : pm_G cx (mX11_filled, d, 0, 0, n0, Q) 0 0 35 [some (.ref 19), some (.int x1), some (.int (nI (B ^ pd_op pd))), none, none, none, none] [] (sh_ i0 i1 ex) mu nu) : ∀ (j k : Nat), k + j = pd_op pd → pm_G cx (mX11_filled, d, 0, 0, n0, Q) 0 0 14 [some (.ref 19), some (.int x1), some (.int (nI (B ^ k))), some (.int (nI k)), none, none, none] [] (sh_ i0 i1 ex) mu nu := by
  intro j
  induction j with
  | zero =>
    intro k hk
    have hk : k = pd_op pd := by omega
    subst hk
    refine pm_go 9999 (by exact okX11_filled) rfl ?_; (try dsimp only [pm_st1, pm_st2, pm_cat2, pm_la, Option.toList, List.cons_append, List.nil_append])
    refine pm_cv (by exact okX11_filled) (by exact okX11_opens) rfl (by exact arX11_opens) (t_opens (d := 0) hN hP hp) rfl rfl rfl (by dsimp only; omega) rfl (Nat.le_of_ble_eq_true rfl) ⟨Nat.zero_le _, Nat.zero_le _⟩ ?_
    rintro _ _ _ _ ⟨rfl, rfl, rfl, rfl⟩ -
    refine pm_go 9999 (by exact okX11_filled) rfl ?_; (try dsimp only [pm_st1, pm_st2, pm_cat2, pm_la, Option.toList, List.cons_append, List.nil_append])
    refine pm_ige (by exact okX11_filled) rfl (fun h2 => ?_) (fun h2 => ?_)
    · refine pm_G.fg [false, false, false, true, false, false, false] ?_; dsimp only [pm_fg]
      exact kk
    · exact absurd (nI_le (by omega) (by omega)) h2
  | succ j ih =>
    intro k hk
    refine pm_go 9999 (by exact okX11_filled) rfl ?_; (try dsimp only [pm_st1, pm_st2, pm_cat2, pm_la, Option.toList, List.cons_append, List.nil_append])
    refine pm_cv (by exact okX11_filled) (by exact okX11_opens) rfl (by exact arX11_opens) (t_opens (d := 0) hN hP hp) rfl rfl rfl (by dsimp only; omega) rfl (Nat.le_of_ble_eq_true rfl) ⟨Nat.zero_le _, Nat.zero_le _⟩ ?_
    rintro _ _ _ _ ⟨rfl, rfl, rfl, rfl⟩ -
    refine pm_go 9999 (by exact okX11_filled) rfl ?_; (try dsimp only [pm_st1, pm_st2, pm_cat2, pm_la, Option.toList, List.cons_append, List.nil_append])
    refine pm_ige (by exact okX11_filled) rfl (fun h2 => ?_) (fun h2 => ?_)
    · have := (nI_leI (by omega) (by omega)).mp h2
      omega
    · refine pm_go 14 (by exact okX11_filled) rfl ?_; (try dsimp only [pm_st1, pm_st2, pm_cat2, pm_la, Option.toList, List.cons_append, List.nil_append])
      rw [hB, pk_mul, nI_1, ← Nat.pow_succ]
      exact ih (k + 1) (by omega)
theorem wk_of_c6 {g : gS} {pd : List Nat} {code : Nat} (hg : gOK g) (hw : pd_wf (gB g) 0 0 pd = none) : (∀ b ∈ (wk_of g pd code).2.2.2, b < 6) ∧ (wk_of g pd code).2.2.2.length ≤ 6 := by
  obtain ⟨g1, g2, g3, -⟩ := wk_of_inv (code := code) hg hw
  refine ⟨fun b hb => ?_, by have := wk_of_len (code := code) hg hw; omega⟩
  have h1 := (g3 b).mpr (List.mem_append_right _ hb)
  have h2 := rOK_s g1 hg.1.2
  rcases Nat.lt_or_ge b 6 with q | q
  · exact q
  · have : (wk_of g pd code).2.2.1 < 2 ^ b := Nat.lt_of_lt_of_le h2 (Nat.pow_le_pow_right (n := 2) (by omega) q)
    rw [Nat.testBit_lt_two_pow this] at h1
    cases h1
theorem nO_lt0 {o : Option Nat} {n : Nat} (h : ∀ b, o = some b → b < n) (hn : n < 2 ^ 31) : (0 ≤ nO o ↔ o ≠ none) := by
  rw [← Int32.not_lt, nO_neg h hn]
set_option maxRecDepth 100000 in
set_option maxHeartbeats 1000000 in
theorem M_filled_l {Q : pm_Po} {z : mS} {x1 : Int32} {N : Nat} (hz : zOK z) (h : MA z mu) (hw : pd_wf (gB z.1) 0 0 z.2.1 = none) (hN : N < 10000) (hd : 3 ≤ d) (kk : ∀ mu', wkF mu mu' → pm_G cx (mX11_filled, d, 0, 0, n0, Q) 0 0 89 [some (.ref 19), some (.int x1), some (.int (nI N)), some (.int (nI (fb_ct (fl_b z.1 z.2.1) N))), some (.int (nO (fl_f (fl_b z.1 z.2.1) N))), none, none] [] (sh_ i0 i1 ex) mu' nu) : ∀ (j k : Nat) (mu' : pm_I), k + j = N → wkF mu mu' → pm_G cx (mX11_filled, d, 0, 0, n0, Q) 0 0 44 [some (.ref 19), some (.int x1), some (.int (nI N)), some (.int (nI (fb_ct (fl_b z.1 z.2.1) k))), some (.int (nO (fl_f (fl_b z.1 z.2.1) k))), some (.int (nI k)), none] [] (sh_ i0 i1 ex) mu' nu := by
  obtain ⟨hg, hp, -⟩ := id hz
  intro j
  induction j with
  | zero =>
    intro k mu' hk hF
    have hk : k = N := by omega
    subst hk
    refine pm_go 9999 (by exact okX11_filled) rfl ?_; (try dsimp only [pm_st1, pm_st2, pm_cat2, pm_la, Option.toList, List.cons_append, List.nil_append])
    refine pm_ige (by exact okX11_filled) rfl (fun h1 => ?_) (fun h1 => ?_)
    · refine pm_G.fg [false, false, false, false, false, true, false] ?_; dsimp only [pm_fg]
      exact kk mu' hF
    · exact absurd (nI_le (by omega) (by omega)) h1
  | succ j ih =>
    intro k mu' hk hF
    have hMA := h.wk hF
    have next : ∀ mu2, wkF mu mu2 → pm_G cx (mX11_filled, d, 0, 0, n0, Q) 0 0 83 [some (.ref 19), some (.int x1), some (.int (nI N)), some (.int (nI (fb_ct (fl_b z.1 z.2.1) (k + 1)))), some (.int (nO (fl_f (fl_b z.1 z.2.1) (k + 1)))), some (.int (nI k)), none] [] (sh_ i0 i1 ex) mu2 nu := by
      intro mu2 hF2
      refine pm_go 44 (by exact okX11_filled) rfl ?_; (try dsimp only [pm_st1, pm_st2, pm_cat2, pm_la, Option.toList, List.cons_append, List.nil_append])
      rw [nI_1]
      exact ih (k + 1) mu2 (by omega) hF2
    have skip : ∀ mu2, wkF mu mu2 → fl_b z.1 z.2.1 k = false → pm_G cx (mX11_filled, d, 0, 0, n0, Q) 0 0 83 [some (.ref 19), some (.int x1), some (.int (nI N)), some (.int (nI (fb_ct (fl_b z.1 z.2.1) k))), some (.int (nO (fl_f (fl_b z.1 z.2.1) k))), some (.int (nI k)), none] [] (sh_ i0 i1 ex) mu2 nu := by
      intro mu2 hF2 hb
      have := next mu2 hF2
      rw [fb_ct_succ, hb] at this
      have e : fl_f (fl_b z.1 z.2.1) (k + 1) = fl_f (fl_b z.1 z.2.1) k := by
        simp only [fl_f]
        split
        · rename_i x hx; exact hx.symm
        · rename_i hx; rw [hb, if_neg (by decide)]; exact hx.symm
      rw [e] at this
      exact this
    refine pm_go 9999 (by exact okX11_filled) rfl ?_; (try dsimp only [pm_st1, pm_st2, pm_cat2, pm_la, Option.toList, List.cons_append, List.nil_append])
    refine pm_ige (by exact okX11_filled) rfl (fun h1 => ?_) (fun h1 => ?_)
    · exact absurd h1 (nI_ge (by omega) (by omega))
    · refine pm_go 9999 (by exact okX11_filled) rfl ?_; (try dsimp only [pm_st1, pm_st2, pm_cat2, pm_la, Option.toList, List.cons_append, List.nil_append])
      refine pm_cv (by exact okX11_filled) (by exact okX11_goWeek) rfl (by exact arX11_goWeek) (t_goWeek (d := 2) (code := k) hz hMA hw (by omega) (by omega)) rfl rfl rfl (by dsimp only; omega) rfl (Nat.le_of_ble_eq_true rfl) ⟨Nat.zero_le _, Nat.zero_le _⟩ ?_
      rintro v sg2 mu2 nu2 ⟨rfl, rfl, rfl, gF, gS1⟩ -
      have hF2 := hF.tr gF
      obtain ⟨-, -, -, hi⟩ := wk_of_inv (code := k) hg hw
      have hp1 := hp.1
      have erun := nO_lt0 (o := (wk_of z.1 z.2.1 k).1.map (fun q => q.1)) (n := 48) (fun b hb => by
        obtain ⟨q, hq, rfl⟩ := Option.map_eq_some_iff.mp hb
        have := (hi q hq).1
        omega) (by omega)
      refine pm_go 83 (by exact okX11_filled) rfl ?_; (try dsimp only [pm_st1, pm_st2, pm_cat2, pm_la, Option.toList, List.cons_append, List.nil_append])
      refine pm_zge (by exact okX11_filled) rfl (fun h2 => ?_) (fun h2 => ?_)
      · have h3 := erun.mp h2
        refine skip mu2 hF2 ?_
        cases hb : fl_b z.1 z.2.1 k with
        | false => rfl
        | true => rw [(fl_b_iff.mp hb).1] at h3; exact absurd rfl h3
      · have h3 : (wk_of z.1 z.2.1 k).1 = none := by
          cases hh : (wk_of z.1 z.2.1 k).1 with
          | none => rfl
          | some q => exact absurd (erun.mpr (by rw [hh]; intro q; cases q)) h2
        obtain ⟨s1, s2, s3, s4, s5⟩ := gS1
        obtain ⟨⟨a1, a2, a3, a4, a5, a6, a7, a8, a9, b1, b2, b3, b4, b5⟩, c1, c2⟩ := h.wk hF2
        obtain ⟨hc6, hcl⟩ := wk_of_c6 (code := k) hg hw
        obtain ⟨hB6, -, -, -, -, -, -, -, -, hV, hVq⟩ := id hg
        refine pm_go 9999 (by exact okX11_filled) rfl ?_; (try dsimp only [pm_st1, pm_st2, pm_cat2, pm_la, Option.toList, List.cons_append, List.nil_append])
        refine pm_cv (by exact okX11_filled) (by exact okX11_isAsSeen) rfl (by exact arX11_isAsSeen) (t_isAsSeen (d := 1) (cm := (wk_of z.1 z.2.1 k).2.2.2) (V := gV z.1) hcl hc6 hV (fun q hq => by have := hVq q hq; omega) a9 s3 s5 b5) rfl rfl rfl (by dsimp only; omega) rfl (Nat.le_of_ble_eq_true rfl) ⟨Nat.zero_le _, Nat.zero_le _⟩ ?_
        rintro v sg3 mu3 nu3 ⟨e1, e0, rfl, rfl, rfl⟩ -
        by_cases hsn : fl_sn (wk_of z.1 z.2.1 k).2.2.2 (gV z.1)
        · have e1 := e1 hsn
          subst e1
          have hb : fl_b z.1 z.2.1 k = true := fl_b_iff.mpr ⟨h3, hsn⟩
          have nx := next mu2 hF2
          rw [fb_ct_succ, hb, if_pos rfl] at nx
          refine pm_go 9999 (by exact okX11_filled) rfl ?_; (try dsimp only [pm_st1, pm_st2, pm_cat2, pm_la, Option.toList, List.cons_append, List.nil_append])
          refine pm_zeq (by exact okX11_filled) rfl (fun h4 => ?_) (fun h4 => ?_)
          · exact absurd h4 (by decide)
          · have ef := nO_lt0 (o := fl_f (fl_b z.1 z.2.1) k) (n := 10000) (fun b hb => by have := fl_f_lt hb; omega) (by omega)
            refine pm_go 9999 (by exact okX11_filled) rfl ?_; (try dsimp only [pm_st1, pm_st2, pm_cat2, pm_la, Option.toList, List.cons_append, List.nil_append])
            refine pm_zge (by exact okX11_filled) rfl (fun h5 => ?_) (fun h5 => ?_)
            · have h6 := ef.mp h5
              refine pm_go 83 (by exact okX11_filled) rfl ?_; (try dsimp only [pm_st1, pm_st2, pm_cat2, pm_la, Option.toList, List.cons_append, List.nil_append])
              rw [nI_1]
              have e : fl_f (fl_b z.1 z.2.1) (k + 1) = fl_f (fl_b z.1 z.2.1) k := by
                simp only [fl_f]
                split
                · rename_i x hx; exact hx.symm
                · rename_i hx; exact absurd hx h6
              rw [e] at nx
              exact nx
            · have h6 : fl_f (fl_b z.1 z.2.1) k = none := by
                cases hh : fl_f (fl_b z.1 z.2.1) k with
                | none => rfl
                | some q => exact absurd (ef.mpr (by rw [hh]; intro q; cases q)) h5
              refine pm_go 83 (by exact okX11_filled) rfl ?_; (try dsimp only [pm_st1, pm_st2, pm_cat2, pm_la, Option.toList, List.cons_append, List.nil_append])
              rw [nI_1]
              have e : fl_f (fl_b z.1 z.2.1) (k + 1) = some k := by
                simp only [fl_f]
                rw [h6, hb]
                rfl
              rw [e] at nx
              exact nx
        · have e0 := e0 hsn
          subst e0
          refine pm_go 83 (by exact okX11_filled) rfl ?_; (try dsimp only [pm_st1, pm_st2, pm_cat2, pm_la, Option.toList, List.cons_append, List.nil_append])
          refine pm_zeq (by exact okX11_filled) rfl (fun h4 => ?_) (fun h4 => ?_)
          · refine skip mu2 hF2 ?_
            cases hb : fl_b z.1 z.2.1 k with
            | false => rfl
            | true => exact absurd (fl_b_iff.mp hb).2 hsn
          · exact absurd rfl h4
set_option maxRecDepth 100000 in
set_option maxHeartbeats 1000000 in
theorem M_filled_d {Q : pm_Po} {B i m : Nat} {x2 x3 x4 : Int32} (hB : mu 19 0 = nI B) (hB6 : 2 ≤ B ∧ B ≤ 6) (hi : i < m) (hm : m ≤ 4) : ∀ (j k c : Nat), k = i + j → k < m → c < 10000 → Q (some (.int (nI (c / B ^ j % B)))) (sh_ i0 i1 ex) mu nu → pm_G cx (mX11_filled, d, 0, 0, n0, Q) 0 0 130 [some (.ref 19), some (.int (nI i)), some (.int x2), some (.int x3), some (.int x4), some (.int (nI c)), some (.int (nI k))] [] (sh_ i0 i1 ex) mu nu := by
  intro j
  induction j with
  | zero =>
    intro k c hk hkm hc hq
    rw [Nat.pow_zero, Nat.div_one] at hq
    refine pm_go 9999 (by exact okX11_filled) rfl ?_; (try dsimp only [pm_st1, pm_st2, pm_cat2, pm_la, Option.toList, List.cons_append, List.nil_append])
    refine pm_ile (by exact okX11_filled) rfl (fun h1 => ?_) (fun h1 => ?_)
    · refine pm_go 9999 (by exact okX11_filled) rfl ?_; (try dsimp only [pm_st1, pm_st2, pm_cat2, pm_la, Option.toList, List.cons_append, List.nil_append])
      rw [hB]
      refine pm_rem (by exact okX11_filled) rfl (nI_ne0 (by omega) (by omega)) ?_
      rw [pk_rem (by omega) (by omega) (by omega)]
      refine pm_ri (by exact okX11_filled) rfl rfl rfl (Nat.le_refl _) (Nat.le_refl _) (hq)
    · exact absurd (nI_le (by omega) (by omega)) h1
  | succ j ih =>
    intro k c hk hkm hc hq
    refine pm_go 9999 (by exact okX11_filled) rfl ?_; (try dsimp only [pm_st1, pm_st2, pm_cat2, pm_la, Option.toList, List.cons_append, List.nil_append])
    refine pm_ile (by exact okX11_filled) rfl (fun h1 => ?_) (fun h1 => ?_)
    · have := (nI_leI (by omega) (by omega)).mp h1
      omega
    · refine pm_go 9999 (by exact okX11_filled) rfl ?_; (try dsimp only [pm_st1, pm_st2, pm_cat2, pm_la, Option.toList, List.cons_append, List.nil_append])
      rw [hB]
      refine pm_div (by exact okX11_filled) rfl (nI_ne0 (by omega) (by omega)) ?_
      rw [pk_div (by omega) (by omega) (by omega)]
      refine pm_go 130 (by exact okX11_filled) rfl ?_; (try dsimp only [pm_st1, pm_st2, pm_cat2, pm_la, Option.toList, List.cons_append, List.nil_append])
      obtain ⟨k', rfl⟩ : ∃ k', k = k' + 1 := ⟨k - 1, by omega⟩
      rw [pk_m1]
      refine ih k' (c / B) (by omega) (by omega) (Nat.lt_of_le_of_lt (Nat.div_le_self _ _) hc) ?_
      rw [Nat.div_div_eq_div_mul, show B * B ^ j = B ^ (j + 1) by rw [Nat.pow_succ, Nat.mul_comm]]
      exact hq
set_option maxRecDepth 100000 in
set_option maxHeartbeats 1000000 in
theorem M_filled {z : mS} (i : Int32) (hz : zOK z) (h : MA z mu) (hd : 3 ≤ d) : pm_T cx mX11_filled d 0 0 [.ref 19, .int i] (sh_ i0 i1 ex) mu nu (mQ (.int (sp_filled z i)) z i0 i1 ex mu) := by
  obtain ⟨⟨a1, a2, a3, a4, a5, a6, a7, a8, a9, b1, b2, b3, b4, b5⟩, c1, c2⟩ := id h
  obtain ⟨hg, hp, -⟩ := id hz
  have hB6 := hg.1
  have hp1 := hp.1
  unfold sp_filled
  refine pm_enterN 5 (by exact okX11_filled) rfl ?_; dsimp only [pm_la, pm_cat2, List.replicate, List.cons_append, List.nil_append, List.append_nil]
  refine pm_go 9999 (by exact okX11_filled) rfl ?_; (try dsimp only [pm_st1, pm_st2, pm_cat2, pm_la, Option.toList, List.cons_append, List.nil_append])
  refine pm_cv (by exact okX11_filled) (by exact okX11_weekFault) rfl (by exact arX11_weekFault) (t_weekFault (d := 2) a1 hB6 a5 b3 hp (by omega)) rfl rfl rfl (by dsimp only; omega) rfl (Nat.le_of_ble_eq_true rfl) ⟨Nat.zero_le _, Nat.zero_le _⟩ ?_
  rintro _ _ _ _ ⟨rfl, rfl, rfl, rfl⟩ -
  refine pm_go 9999 (by exact okX11_filled) rfl ?_; (try dsimp only [pm_st1, pm_st2, pm_cat2, pm_la, Option.toList, List.cons_append, List.nil_append])
  have ewf := nO_neg (o := pd_wf (gB z.1) 0 0 z.2.1) (n := 48) (fun b hb => by have := pd_wf_lt _ _ _ _ hb; omega) (by omega)
  refine pm_zlt (by exact okX11_filled) rfl (fun h2 => ?_) (fun h2 => ?_)
  · have h2 := ewf.mp h2
    rw [if_neg (fun q => q h2)]
    obtain ⟨hok, hop⟩ := pd_wf_ok z.2.1 0 0 (by omega) h2
    have hN : gB z.1 ^ pd_op z.2.1 < 10000 := Nat.lt_of_le_of_lt (Nat.le_trans (Nat.pow_le_pow_left hB6.2 _) (Nat.pow_le_pow_right (by omega) (show pd_op z.2.1 ≤ 4 by omega))) (by omega)
    refine pm_go 14 (by exact okX11_filled) rfl ?_; (try dsimp only [pm_st1, pm_st2, pm_cat2, pm_la, Option.toList, List.cons_append, List.nil_append])
    refine pm_G.cast (L' := [some (.ref 19), some (.int i), some (.int (nI (gB z.1 ^ 0))), some (.int (nI 0)), none, none, none]) (S' := []) (mu' := mu) (nu' := nu) ?_ rfl rfl rfl rfl
    refine M_filled_p a1 hB6 a5 b3 hp (by omega) (by omega) ?_ (pd_op z.2.1) 0 (by omega)
    refine pm_go 44 (by exact okX11_filled) rfl ?_; (try dsimp only [pm_st1, pm_st2, pm_cat2, pm_la, Option.toList, List.cons_append, List.nil_append])
    refine pm_G.cast (L' := [some (.ref 19), some (.int i), some (.int (nI (gB z.1 ^ pd_op z.2.1))), some (.int (nI (fb_ct (fl_b z.1 z.2.1) 0))), some (.int (nO (fl_f (fl_b z.1 z.2.1) 0))), some (.int (nI 0)), none]) (S' := []) (mu' := mu) (nu' := nu) ?_ rfl rfl rfl rfl
    refine M_filled_l hz h h2 hN hd (fun mu' hF => ?_) (gB z.1 ^ pd_op z.2.1) 0 mu (by omega) wkF.rf
    have hMA := h.wk hF
    obtain ⟨⟨a1, a2, a3, a4, a5, a6, a7, a8, a9, b1, b2, b3, b4, b5⟩, c1, c2⟩ := id hMA
    refine pm_go 9999 (by exact okX11_filled) rfl ?_; (try dsimp only [pm_st1, pm_st2, pm_cat2, pm_la, Option.toList, List.cons_append, List.nil_append])
    refine pm_ine (by exact okX11_filled) rfl (fun h3 => ?_) (fun h3 => ?_)
    · rw [if_neg h3]
      refine pm_go 9999 (by exact okX11_filled) rfl ?_; (try dsimp only [pm_st1, pm_st2, pm_cat2, pm_la, Option.toList, List.cons_append, List.nil_append])
      have hlt : ∀ c, fl_f (fl_b z.1 z.2.1) (gB z.1 ^ pd_op z.2.1) = some c → c < 10000 := fun c hc => by have := fl_f_lt hc; omega
      cases hf : fl_f (fl_b z.1 z.2.1) (gB z.1 ^ pd_op z.2.1) with
      | none =>
        refine pm_zlt (by exact okX11_filled) rfl (fun h4 => ?_) (fun h4 => ?_)
        · refine pm_go 9999 (by exact okX11_filled) rfl ?_; (try dsimp only [pm_st1, pm_st2, pm_cat2, pm_la, Option.toList, List.cons_append, List.nil_append])
          refine pm_ri (by exact okX11_filled) rfl rfl rfl (Nat.le_refl _) (Nat.le_refl _) (⟨rfl, rfl, hMA, hF.fM⟩)
        · exact absurd (by decide) h4
      | some c =>
        have hc := hlt c hf
        show pm_G _ _ _ _ _ [_, _, _, _, some (.int (nI c)), _, _] [.int (nI c)] _ _ _
        refine pm_zlt (by exact okX11_filled) rfl (fun h4 => ?_) (fun h4 => ?_)
        · exact absurd h4 (nI_pos (by omega))
        · refine pm_go 9999 (by exact okX11_filled) rfl ?_; (try dsimp only [pm_st1, pm_st2, pm_cat2, pm_la, Option.toList, List.cons_append, List.nil_append])
          refine pm_cv (by exact okX11_filled) (by exact okX11_opens) rfl (by exact arX11_opens) (t_opens (d := 0) a5 b3 hp) rfl rfl rfl (by dsimp only; omega) rfl (Nat.le_of_ble_eq_true rfl) ⟨Nat.zero_le _, Nat.zero_le _⟩ ?_
          rintro _ _ _ _ ⟨rfl, rfl, rfl, rfl⟩ -
          refine pm_go 9999 (by exact okX11_filled) rfl ?_; (try dsimp only [pm_st1, pm_st2, pm_cat2, pm_la, Option.toList, List.cons_append, List.nil_append])
          refine pm_cs (by exact okX11_filled) (by exact okX11_in) rfl (by exact arX11_in) (t_in (d := 0) i 0 (nI (pd_op z.2.1) - 1)) rfl (by dsimp only; omega) rfl (Nat.le_of_ble_eq_true rfl) ⟨Nat.zero_le _, Nat.zero_le _⟩ ?_
          rintro _ _ _ _ ⟨rfl, rfl, rfl, rfl⟩ -
          refine pm_go 9999 (by exact okX11_filled) rfl ?_; (try dsimp only [pm_st1, pm_st2, pm_cat2, pm_la, Option.toList, List.cons_append, List.nil_append])
          rw [bI_c (isB_pred (by omega) i)]
          refine pm_zne (by exact okX11_filled) rfl (fun h5 => ?_) (fun h5 => ?_)
          · have h5 := bI_n.mp h5
            obtain ⟨k, hk, rfl⟩ := isB_of (by omega) h5
            refine pm_go 9999 (by exact okX11_filled) rfl ?_; (try dsimp only [pm_st1, pm_st2, pm_cat2, pm_la, Option.toList, List.cons_append, List.nil_append])
            refine pm_cv (by exact okX11_filled) (by exact okX11_opens) rfl (by exact arX11_opens) (t_opens (d := 0) a5 b3 hp) rfl rfl rfl (by dsimp only; omega) rfl (Nat.le_of_ble_eq_true rfl) ⟨Nat.zero_le _, Nat.zero_le _⟩ ?_
            rintro _ _ _ _ ⟨rfl, rfl, rfl, rfl⟩ -
            refine pm_go 130 (by exact okX11_filled) rfl ?_; (try dsimp only [pm_st1, pm_st2, pm_cat2, pm_la, Option.toList, List.cons_append, List.nil_append])
            rw [nI_m1 (by omega)]
            refine M_filled_d (B := gB z.1) (i := k) (m := pd_op z.2.1) a1 hB6 hk (by omega) (pd_op z.2.1 - 1 - k) (pd_op z.2.1 - 1) c (by omega) (by omega) hc ⟨?_, rfl, hMA, hF.fM⟩
            show _ = some (Value.int (if isB (pd_op z.2.1) (nI k) then _ else _))
            rw [if_pos h5, nI_clamp (by omega)]
          · have h5 := bI_z.mp h5
            refine pm_go 9999 (by exact okX11_filled) rfl ?_; (try dsimp only [pm_st1, pm_st2, pm_cat2, pm_la, Option.toList, List.cons_append, List.nil_append])
            refine pm_ri (by exact okX11_filled) rfl rfl rfl (Nat.le_refl _) (Nat.le_refl _) (⟨by show _ = some (Value.int (if isB (pd_op z.2.1) i then _ else _)); rw [if_neg h5], rfl, hMA, hF.fM⟩)
    · rw [if_pos h3]
      refine pm_go 9999 (by exact okX11_filled) rfl ?_; (try dsimp only [pm_st1, pm_st2, pm_cat2, pm_la, Option.toList, List.cons_append, List.nil_append])
      refine pm_ri (by exact okX11_filled) rfl rfl rfl (Nat.le_refl _) (Nat.le_refl _) (⟨rfl, rfl, hMA, hF.fM⟩)
  · have h2 : pd_wf (gB z.1) 0 0 z.2.1 ≠ none := fun q => h2 (ewf.mpr q)
    rw [if_pos h2]
    refine pm_go 9999 (by exact okX11_filled) rfl ?_; (try dsimp only [pm_st1, pm_st2, pm_cat2, pm_la, Option.toList, List.cons_append, List.nil_append])
    refine pm_ri (by exact okX11_filled) rfl rfl rfl (Nat.le_refl _) (Nat.le_refl _) (⟨rfl, rfl, h, fM.rf⟩)
end

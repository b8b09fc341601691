/-! ===== the reference's plain calls ===== -/
abbrev zC (z : mS) (f : Nat → Nat) : mS := ((z.1.1, f, z.1.2.2), z.2)
def sp_colour (z : mS) (b v : Int32) : Int32 × mS := if isB (gB z.1) b then (if 0 ≤ v ∧ v ≤ 3 then (nI (gC z.1 b.toNatClampNeg), zC z (va_up (gC z.1) b.toNatClampNeg v.toNatClampNeg)) else (-2, z)) else (-1, z)
def sp_set (z : mS) (w v : Int32) : Int32 × mS :=
  if w = 0 ∧ 0 ≤ v ∧ v ≤ 2 then (nI (gL z.1), (((gB z.1, v.toNatClampNeg, gG z.1, gW z.1), z.1.2), z.2))
  else if w = 1 ∧ 1 ≤ v ∧ v ≤ 6 then (nI (gG z.1), (((gB z.1, gL z.1, v.toNatClampNeg, gW z.1), z.1.2), z.2))
  else if w = 2 ∧ 0 ≤ v ∧ v ≤ 10 then (nI (gW z.1), (((gB z.1, gL z.1, gG z.1, v.toNatClampNeg), z.1.2), z.2))
  else (-2, z)
def sp_say (z : mS) (s : Int32) : Int32 × mS := if 33 ≤ s ∧ s ≤ 126 then (if z.2.1.length = 48 then (-4, z) else (nI (z.2.1.length + 1), (z.1, z.2.1 ++ [s.toNatClampNeg], z.2.2))) else (-2, z)
def sp_seen (z : mS) (m b : Int32) : Int32 × mS := if isB (gB z.1) b then (if 0 ≤ m ∧ m ≤ 47 then (if (gV z.1).length = 6 then (-4, z) else (nI ((gV z.1).length + 1), ((z.1.1, gC z.1, gP z.1, gR z.1, gM z.1, gK z.1, gV z.1 ++ [(m.toNatClampNeg, b.toNatClampNeg)]), z.2))) else (-2, z)) else (-1, z)
def sp_row (z : mS) (i : Int32) : Int32 := if i = -1 then nI (gR z.1).length else if isB (gR z.1).length i then nO ((gR z.1)[(gR z.1).length - 1 - i.toNatClampNeg]?) else -6
def sp_bloomed (z : mS) (i : Int32) : Int32 := if i = -1 then nI (gK z.1).length else if isB (gK z.1).length i then nO ((gK z.1)[i.toNatClampNeg]?) else -6
def sp_told (z : mS) (w : Int32) : Int32 :=
  if w = 0 then nI z.2.1.length else if w = 1 then nI (gB z.1) else if w = 2 then nI (gL z.1) else if w = 3 then nI (gG z.1) else if w = 4 then nI (gW z.1) else if w = 5 then nI (gV z.1).length
  else if isB (gB z.1) (w - 10) then nI (gC z.1 (w - 10).toNatClampNeg) else if isB (gB z.1) (w - 20) then nO (gP z.1 (w - 20).toNatClampNeg) else -2
section
variable {cx : pm_CX} {d n0 : Nat} {i0 i1 : Option Nat} {ex : List pm_C} {mu : pm_I} {nu : pm_J}
set_option maxRecDepth 100000 in
set_option maxHeartbeats 1000000 in
theorem M_colour {z : mS} (b v : Int32) (hz : zOK z) (h : MA z mu) (hd : 2 ≤ d) : pm_T cx mX11_colour d 0 0 [.ref 19, .int b, .int v] (sh_ i0 i1 ex) mu nu (mQ (.int (sp_colour z b v).1) (sp_colour z b v).2 i0 i1 ex mu) := by
  obtain ⟨⟨a1, a2, a3, a4, a5, a6, a7, a8, a9, b1, b2, b3, b4, b5⟩, c1, c2⟩ := id h
  obtain ⟨⟨⟨hB2, hB6⟩, -⟩, -⟩ := hz
  unfold sp_colour
  refine pm_enterN 1 (by exact okX11_colour) rfl ?_; dsimp only [pm_la, pm_cat2, List.replicate, List.cons_append, List.nil_append, List.append_nil]
  refine pm_go 9999 (by exact okX11_colour) rfl ?_; (try dsimp only [pm_st1, pm_st2, pm_cat2, pm_la, Option.toList, List.cons_append, List.nil_append])
  refine pm_cv (by exact okX11_colour) (by exact okX11_isBed) rfl (by exact arX11_isBed) (t_isBed (d := 1) b a1 (by omega) (by omega)) rfl rfl rfl (by dsimp only; omega) rfl (Nat.le_of_ble_eq_true rfl) ⟨Nat.zero_le _, Nat.zero_le _⟩ ?_
  rintro _ _ _ _ ⟨rfl, rfl, rfl, rfl⟩ -
  refine pm_go 9999 (by exact okX11_colour) rfl ?_; (try dsimp only [pm_st1, pm_st2, pm_cat2, pm_la, Option.toList, List.cons_append, List.nil_append])
  refine pm_zne (by exact okX11_colour) rfl (fun h1 => ?_) (fun h1 => ?_)
  · have h1 := bI_n.mp h1
    rw [if_pos h1]
    obtain ⟨k, hk, rfl⟩ := isB_of hB6 h1
    refine pm_go 9999 (by exact okX11_colour) rfl ?_; (try dsimp only [pm_st1, pm_st2, pm_cat2, pm_la, Option.toList, List.cons_append, List.nil_append])
    refine pm_cs (by exact okX11_colour) (by exact okX11_in) rfl (by exact arX11_in) (t_in (d := 0) v 0 3) rfl (by dsimp only; omega) rfl (Nat.le_of_ble_eq_true rfl) ⟨Nat.zero_le _, Nat.zero_le _⟩ ?_
    rintro _ _ _ _ ⟨rfl, rfl, rfl, rfl⟩ -
    refine pm_go 9999 (by exact okX11_colour) rfl ?_; (try dsimp only [pm_st1, pm_st2, pm_cat2, pm_la, Option.toList, List.cons_append, List.nil_append])
    refine pm_zne (by exact okX11_colour) rfl (fun h2 => ?_) (fun h2 => ?_)
    · have h2 := bI_n.mp h2
      rw [if_pos h2]
      obtain ⟨c, -, hc, rfl⟩ := rng_of (a := 0) (b := 3) (by omega) (by omega) h2
      refine pm_go 9999 (by exact okX11_colour) rfl ?_; (try dsimp only [pm_st1, pm_st2, pm_cat2, pm_la, Option.toList, List.cons_append, List.nil_append])
      refine pm_ial (by exact okX11_colour) rfl rfl (vp_in_nI (by omega) (by omega)) ?_
      refine pm_go 9999 (by exact okX11_colour) rfl ?_; (try dsimp only [pm_st1, pm_st2, pm_cat2, pm_la, Option.toList, List.cons_append, List.nil_append])
      refine pm_ias (by exact okX11_colour) rfl rfl (vp_in_nI (by omega) (by omega)) ?_
      refine pm_go 9999 (by exact okX11_colour) rfl ?_; (try dsimp only [pm_st1, pm_st2, pm_cat2, pm_la, Option.toList, List.cons_append, List.nil_append])
      rw [nI_clamp (by omega), nI_clamp (by omega), b1 k (by omega)]
      refine pm_ri (by exact okX11_colour) rfl rfl rfl (Nat.le_refl _) (Nat.le_refl _) (⟨rfl, rfl, ⟨⟨a1, a2, a3, a4, a5, a6, a7, a8, a9, fun j hj => ?_, b2, b3, b4, b5⟩, c1.same rfl rfl, c2.same rfl rfl⟩, fM.rf.up (by omega)⟩)
      show pm_up mu 20 k (nI c) 20 j = nI (va_up (gC z.1) k c j)
      by_cases hjk : j = k
      · subst hjk; rw [pm_up_at, va_up_at]
      · rw [pm_up_of hjk, va_up_of hjk, b1 j hj]
    · have h2 := bI_z.mp h2
      rw [if_neg h2]
      refine pm_go 9999 (by exact okX11_colour) rfl ?_; (try dsimp only [pm_st1, pm_st2, pm_cat2, pm_la, Option.toList, List.cons_append, List.nil_append])
      refine pm_ri (by exact okX11_colour) rfl rfl rfl (Nat.le_refl _) (Nat.le_refl _) (⟨rfl, rfl, h, fM.rf⟩)
  · have h1 := bI_z.mp h1
    rw [if_neg h1]
    refine pm_go 9999 (by exact okX11_colour) rfl ?_; (try dsimp only [pm_st1, pm_st2, pm_cat2, pm_la, Option.toList, List.cons_append, List.nil_append])
    refine pm_ri (by exact okX11_colour) rfl rfl rfl (Nat.le_refl _) (Nat.le_refl _) (⟨rfl, rfl, h, fM.rf⟩)
theorem app_get {R : Type} {l : List R} {x y : R} {k : Nat} (h : (l ++ [x])[k]? = some y) : (k < l.length ∧ l[k]? = some y) ∨ (k = l.length ∧ y = x) := by
  rcases Nat.lt_trichotomy k l.length with q | q | q
  · rw [List.getElem?_append_left q] at h; exact Or.inl ⟨q, h⟩
  · subst q; simp at h; exact Or.inr ⟨rfl, h.symm⟩
  · rw [List.getElem?_eq_none (by simp; omega)] at h; cases h
set_option maxRecDepth 100000 in
set_option maxHeartbeats 1000000 in
theorem M_say {z : mS} (s : Int32) (hz : zOK z) (h : MA z mu) (hd : 1 ≤ d) : pm_T cx mX11_say d 0 0 [.ref 19, .int s] (sh_ i0 i1 ex) mu nu (mQ (.int (sp_say z s).1) (sp_say z s).2 i0 i1 ex mu) := by
  obtain ⟨⟨a1, a2, a3, a4, a5, a6, a7, a8, a9, b1, b2, b3, b4, b5⟩, c1, c2⟩ := id h
  obtain ⟨-, ⟨hp1, -⟩, -⟩ := hz
  unfold sp_say
  refine pm_enterN 0 (by exact okX11_say) rfl ?_; dsimp only [pm_la, pm_cat2, List.replicate, List.cons_append, List.nil_append, List.append_nil]
  refine pm_go 9999 (by exact okX11_say) rfl ?_; (try dsimp only [pm_st1, pm_st2, pm_cat2, pm_la, Option.toList, List.cons_append, List.nil_append])
  refine pm_cs (by exact okX11_say) (by exact okX11_in) rfl (by exact arX11_in) (t_in (d := 0) s 33 126) rfl (by dsimp only; omega) rfl (Nat.le_of_ble_eq_true rfl) ⟨Nat.zero_le _, Nat.zero_le _⟩ ?_
  rintro _ _ _ _ ⟨rfl, rfl, rfl, rfl⟩ -
  refine pm_go 9999 (by exact okX11_say) rfl ?_; (try dsimp only [pm_st1, pm_st2, pm_cat2, pm_la, Option.toList, List.cons_append, List.nil_append])
  refine pm_zne (by exact okX11_say) rfl (fun h1 => ?_) (fun h1 => ?_)
  · have h1 := bI_n.mp h1
    rw [if_pos h1]
    obtain ⟨c, hc1, hc, rfl⟩ := rng_of (a := 33) (b := 126) (by omega) (by omega) h1
    refine pm_go 9999 (by exact okX11_say) rfl ?_; (try dsimp only [pm_st1, pm_st2, pm_cat2, pm_la, Option.toList, List.cons_append, List.nil_append])
    rw [a5]
    refine pm_ine (by exact okX11_say) rfl (fun h2 => ?_) (fun h2 => ?_)
    · have h3 : ¬ z.2.1.length = 48 := fun q => h2 (by rw [q]; rfl)
      rw [if_neg h3]
      refine pm_go 9999 (by exact okX11_say) rfl ?_; (try dsimp only [pm_st1, pm_st2, pm_cat2, pm_la, Option.toList, List.cons_append, List.nil_append])
      rw [a5]
      refine pm_ias (by exact okX11_say) rfl rfl (vp_in_nI (by omega) (by omega)) ?_
      refine pm_go 9999 (by exact okX11_say) rfl ?_; (try dsimp only [pm_st1, pm_st2, pm_cat2, pm_la, Option.toList, List.cons_append, List.nil_append])
      rw [nI_clamp (by omega), nI_clamp (by omega)]
      refine pm_G.cast (S' := [.int (nI (z.2.1.length + 1))]) (mu' := pm_up (pm_up mu 22 z.2.1.length (nI c)) 19 6 (nI (z.2.1.length + 1))) (nu' := nu) (L' := [some (.ref 19), some (.int (nI c))]) ?_ rfl ?_ ?_ rfl
      · refine pm_ri (by exact okX11_say) rfl rfl rfl (Nat.le_refl _) (Nat.le_refl _) (⟨rfl, rfl, ⟨⟨a1, a2, a3, a4, ?_, a6, a7, a8, a9, b1, b2, fun k b hb => ?_, b4, b5⟩, c1.same rfl rfl, c2.same rfl rfl⟩, (fM.rf.up (by omega)).up (by omega)⟩)
        · show nI _ = nI _
          simp
        · rcases app_get hb with ⟨q1, q2⟩ | ⟨q1, q2⟩
          · rw [pm_up_o (by omega), pm_up_of (by omega)]
            exact b3 k b q2
          · subst q1; rw [pm_up_o (by omega), pm_up_at, q2]
      · show [Value.int (mu 19 6 + 1)] = _
        rw [a5, nI_1]
      · show pm_up (pm_up mu 22 z.2.1.length (nI c)) 19 6 (mu 19 6 + 1) = _
        rw [a5, nI_1]
    · have h3 : z.2.1.length = 48 := (nI_eq (b := 48) (by omega) (by omega)).mp h2
      rw [if_pos h3]
      refine pm_go 9999 (by exact okX11_say) rfl ?_; (try dsimp only [pm_st1, pm_st2, pm_cat2, pm_la, Option.toList, List.cons_append, List.nil_append])
      refine pm_ri (by exact okX11_say) rfl rfl rfl (Nat.le_refl _) (Nat.le_refl _) (⟨rfl, rfl, h, fM.rf⟩)
  · have h1 := bI_z.mp h1
    rw [if_neg h1]
    refine pm_go 9999 (by exact okX11_say) rfl ?_; (try dsimp only [pm_st1, pm_st2, pm_cat2, pm_la, Option.toList, List.cons_append, List.nil_append])
    refine pm_ri (by exact okX11_say) rfl rfl rfl (Nat.le_refl _) (Nat.le_refl _) (⟨rfl, rfl, h, fM.rf⟩)
set_option maxRecDepth 100000 in
set_option maxHeartbeats 1000000 in
theorem M_seen {z : mS} (m b : Int32) (hz : zOK z) (h : MA z mu) (hd : 2 ≤ d) : pm_T cx mX11_seen d 0 0 [.ref 19, .int m, .int b] (sh_ i0 i1 ex) mu nu (mQ (.int (sp_seen z m b).1) (sp_seen z m b).2 i0 i1 ex mu) := by
  obtain ⟨⟨a1, a2, a3, a4, a5, a6, a7, a8, a9, b1, b2, b3, b4, b5⟩, c1, c2⟩ := id h
  obtain ⟨⟨⟨hB2, hB6⟩, -, -, -, -, -, -, -, -, ⟨hV, -⟩⟩, -⟩ := hz
  unfold sp_seen
  refine pm_enterN 0 (by exact okX11_seen) rfl ?_; dsimp only [pm_la, pm_cat2, List.replicate, List.cons_append, List.nil_append, List.append_nil]
  refine pm_go 9999 (by exact okX11_seen) rfl ?_; (try dsimp only [pm_st1, pm_st2, pm_cat2, pm_la, Option.toList, List.cons_append, List.nil_append])
  refine pm_cv (by exact okX11_seen) (by exact okX11_isBed) rfl (by exact arX11_isBed) (t_isBed (d := 1) b a1 (by omega) (by omega)) rfl rfl rfl (by dsimp only; omega) rfl (Nat.le_of_ble_eq_true rfl) ⟨Nat.zero_le _, Nat.zero_le _⟩ ?_
  rintro _ _ _ _ ⟨rfl, rfl, rfl, rfl⟩ -
  refine pm_go 9999 (by exact okX11_seen) rfl ?_; (try dsimp only [pm_st1, pm_st2, pm_cat2, pm_la, Option.toList, List.cons_append, List.nil_append])
  refine pm_zne (by exact okX11_seen) rfl (fun h1 => ?_) (fun h1 => ?_)
  · have h1 := bI_n.mp h1
    rw [if_pos h1]
    obtain ⟨k, hk, rfl⟩ := isB_of hB6 h1
    refine pm_go 9999 (by exact okX11_seen) rfl ?_; (try dsimp only [pm_st1, pm_st2, pm_cat2, pm_la, Option.toList, List.cons_append, List.nil_append])
    refine pm_cs (by exact okX11_seen) (by exact okX11_in) rfl (by exact arX11_in) (t_in (d := 0) m 0 47) rfl (by dsimp only; omega) rfl (Nat.le_of_ble_eq_true rfl) ⟨Nat.zero_le _, Nat.zero_le _⟩ ?_
    rintro _ _ _ _ ⟨rfl, rfl, rfl, rfl⟩ -
    refine pm_go 9999 (by exact okX11_seen) rfl ?_; (try dsimp only [pm_st1, pm_st2, pm_cat2, pm_la, Option.toList, List.cons_append, List.nil_append])
    refine pm_zne (by exact okX11_seen) rfl (fun h2 => ?_) (fun h2 => ?_)
    · have h2 := bI_n.mp h2
      rw [if_pos h2]
      obtain ⟨c, -, hc, rfl⟩ := rng_of (a := 0) (b := 47) (by omega) (by omega) h2
      refine pm_go 9999 (by exact okX11_seen) rfl ?_; (try dsimp only [pm_st1, pm_st2, pm_cat2, pm_la, Option.toList, List.cons_append, List.nil_append])
      rw [a9]
      refine pm_ine (by exact okX11_seen) rfl (fun h3 => ?_) (fun h3 => ?_)
      · have h3 : ¬ (gV z.1).length = 6 := fun q => h3 (by rw [q]; rfl)
        rw [if_neg h3]
        have e2 : (2 : Int32) * nI (gV z.1).length = nI (2 * (gV z.1).length) := pk_mul 2 _
        refine pm_go 9999 (by exact okX11_seen) rfl ?_; (try dsimp only [pm_st1, pm_st2, pm_cat2, pm_la, Option.toList, List.cons_append, List.nil_append])
        rw [a9, e2]
        refine pm_ias (by exact okX11_seen) rfl rfl (vp_in_nI (by omega) (by omega)) ?_
        refine pm_go 9999 (by exact okX11_seen) rfl ?_; (try dsimp only [pm_st1, pm_st2, pm_cat2, pm_la, Option.toList, List.cons_append, List.nil_append])
        refine pm_G.cast (S' := [.int (nI k), .int (nI (2 * (gV z.1).length + 1)), .ref 24]) (mu' := pm_up mu 24 (2 * (gV z.1).length) (nI c)) (nu' := nu) (L' := [some (.ref 19), some (.int (nI c)), some (.int (nI k))]) ?_ rfl ?_ ?_ rfl
        · refine pm_ias (by exact okX11_seen) rfl rfl (vp_in_nI (by omega) (by omega)) ?_
          refine pm_go 9999 (by exact okX11_seen) rfl ?_; (try dsimp only [pm_st1, pm_st2, pm_cat2, pm_la, Option.toList, List.cons_append, List.nil_append])
          rw [nI_clamp (n := 2 * (gV z.1).length + 1) (by omega), nI_clamp (n := k) (by omega), nI_clamp (n := c) (by omega)]
          refine pm_G.cast (S' := [.int (nI ((gV z.1).length + 1))]) (mu' := pm_up (pm_up (pm_up mu 24 (2 * (gV z.1).length) (nI c)) 24 (2 * (gV z.1).length + 1) (nI k)) 19 12 (nI ((gV z.1).length + 1))) (nu' := nu) (L' := [some (.ref 19), some (.int (nI c)), some (.int (nI k))]) ?_ rfl ?_ ?_ rfl
          · refine pm_ri (by exact okX11_seen) rfl rfl rfl (Nat.le_refl _) (Nat.le_refl _) (⟨rfl, rfl, ⟨⟨a1, a2, a3, a4, a5, a6, a7, a8, ?_, b1, b2, b3, b4, fun j q hq => ?_⟩, c1.same rfl rfl, c2.same rfl rfl⟩, ((fM.rf.up (by omega)).up (by omega)).up (by omega)⟩)
            · show nI ((gV z.1).length + 1) = nI (gV z.1 ++ [(c, k)]).length
              rw [List.length_append]
              rfl
            · rcases app_get hq with ⟨q1, q2⟩ | ⟨q1, q2⟩
              · rw [pm_up_o (by omega), pm_up_of (by omega), pm_up_of (by omega), pm_up_o (by omega), pm_up_of (by omega), pm_up_of (by omega)]
                exact b5 j q q2
              · subst q1; subst q2
                rw [pm_up_o (by omega), pm_up_of (by omega), pm_up_at, pm_up_o (by omega), pm_up_at]
                exact ⟨rfl, rfl⟩
          · show [Value.int (mu 19 12 + 1)] = _
            rw [a9, nI_1]
          · show pm_up _ 19 12 (mu 19 12 + 1) = _
            rw [a9, nI_1]
        · show [Value.int (nI k), Value.int (2 * mu 19 12 + 1), Value.ref 24] = _
          rw [a9, e2, nI_1]
        · rw [nI_clamp (by omega)]
      · have h3 : (gV z.1).length = 6 := (nI_eq (b := 6) (by omega) (by omega)).mp h3
        rw [if_pos h3]
        refine pm_go 9999 (by exact okX11_seen) rfl ?_; (try dsimp only [pm_st1, pm_st2, pm_cat2, pm_la, Option.toList, List.cons_append, List.nil_append])
        refine pm_ri (by exact okX11_seen) rfl rfl rfl (Nat.le_refl _) (Nat.le_refl _) (⟨rfl, rfl, h, fM.rf⟩)
    · have h2 := bI_z.mp h2
      rw [if_neg h2]
      refine pm_go 9999 (by exact okX11_seen) rfl ?_; (try dsimp only [pm_st1, pm_st2, pm_cat2, pm_la, Option.toList, List.cons_append, List.nil_append])
      refine pm_ri (by exact okX11_seen) rfl rfl rfl (Nat.le_refl _) (Nat.le_refl _) (⟨rfl, rfl, h, fM.rf⟩)
  · have h1 := bI_z.mp h1
    rw [if_neg h1]
    refine pm_go 9999 (by exact okX11_seen) rfl ?_; (try dsimp only [pm_st1, pm_st2, pm_cat2, pm_la, Option.toList, List.cons_append, List.nil_append])
    refine pm_ri (by exact okX11_seen) rfl rfl rfl (Nat.le_refl _) (Nat.le_refl _) (⟨rfl, rfl, h, fM.rf⟩)
set_option maxRecDepth 100000 in
set_option maxHeartbeats 1000000 in
theorem M_bloomed {z : mS} (i : Int32) (hK : (gK z.1).length ≤ 6) (h : MA z mu) (hd : 1 ≤ d) : pm_T cx mX11_bloomed d 0 0 [.ref 19, .int i] (sh_ i0 i1 ex) mu nu (mQ (.int (sp_bloomed z i)) z i0 i1 ex mu) := by
  obtain ⟨⟨a1, a2, a3, a4, a5, a6, a7, a8, a9, b1, b2, b3, b4, b5⟩, c1, c2⟩ := id h
  unfold sp_bloomed
  refine pm_enterN 0 (by exact okX11_bloomed) rfl ?_; dsimp only [pm_la, pm_cat2, List.replicate, List.cons_append, List.nil_append, List.append_nil]
  refine pm_go 9999 (by exact okX11_bloomed) rfl ?_; (try dsimp only [pm_st1, pm_st2, pm_cat2, pm_la, Option.toList, List.cons_append, List.nil_append])
  refine pm_ine (by exact okX11_bloomed) rfl (fun h1 => ?_) (fun h1 => ?_)
  · rw [if_neg h1]
    refine pm_go 9999 (by exact okX11_bloomed) rfl ?_; (try dsimp only [pm_st1, pm_st2, pm_cat2, pm_la, Option.toList, List.cons_append, List.nil_append])
    rw [a8]
    refine pm_cs (by exact okX11_bloomed) (by exact okX11_in) rfl (by exact arX11_in) (t_in (d := 0) i 0 (nI (gK z.1).length - 1)) rfl (by dsimp only; omega) rfl (Nat.le_of_ble_eq_true rfl) ⟨Nat.zero_le _, Nat.zero_le _⟩ ?_
    rintro _ _ _ _ ⟨rfl, rfl, rfl, rfl⟩ -
    refine pm_go 9999 (by exact okX11_bloomed) rfl ?_; (try dsimp only [pm_st1, pm_st2, pm_cat2, pm_la, Option.toList, List.cons_append, List.nil_append])
    have e1 : (0 ≤ i ∧ i ≤ nI (gK z.1).length - 1) ↔ isB (gK z.1).length i := by
      constructor
      · rintro ⟨q1, q2⟩
        obtain ⟨k, hk, rfl⟩ := nI_of (x := i) (Int32.not_lt.mpr q1)
        rcases Nat.eq_zero_or_pos (gK z.1).length with q | q
        · rw [q] at q2
          exact absurd (Int32.le_trans q1 q2) (by decide)
        · rw [nI_m1 q] at q2
          exact ⟨q1, nI_lt (by have := (nI_leI hk (by omega)).mp q2; omega) (by omega)⟩
      · rintro ⟨q1, q2⟩
        obtain ⟨k, hk, rfl⟩ := nI_of (x := i) (Int32.not_lt.mpr q1)
        have q3 := (nI_ltI hk (by omega)).mp q2
        rw [nI_m1 (by omega)]
        exact ⟨q1, nI_le (by omega) (by omega)⟩
    rw [bI_c e1]
    refine pm_zeq (by exact okX11_bloomed) rfl (fun h2 => ?_) (fun h2 => ?_)
    · have h2 := bI_z.mp h2
      rw [if_neg h2]
      refine pm_go 9999 (by exact okX11_bloomed) rfl ?_; (try dsimp only [pm_st1, pm_st2, pm_cat2, pm_la, Option.toList, List.cons_append, List.nil_append])
      refine pm_ri (by exact okX11_bloomed) rfl rfl rfl (Nat.le_refl _) (Nat.le_refl _) (⟨rfl, rfl, h, fM.rf⟩)
    · have h2 := bI_n.mp h2
      rw [if_pos h2]
      obtain ⟨k, hk, rfl⟩ := isB_of (by omega) h2
      refine pm_go 9999 (by exact okX11_bloomed) rfl ?_; (try dsimp only [pm_st1, pm_st2, pm_cat2, pm_la, Option.toList, List.cons_append, List.nil_append])
      refine pm_ial (by exact okX11_bloomed) rfl rfl (vp_in_nI (by omega) (by omega)) ?_
      refine pm_go 9999 (by exact okX11_bloomed) rfl ?_; (try dsimp only [pm_st1, pm_st2, pm_cat2, pm_la, Option.toList, List.cons_append, List.nil_append])
      rw [nI_clamp (by omega), List.getElem?_eq_getElem hk, b4 k _ (List.getElem?_eq_getElem hk)]
      refine pm_ri (by exact okX11_bloomed) rfl rfl rfl (Nat.le_refl _) (Nat.le_refl _) (⟨rfl, rfl, h, fM.rf⟩)
  · rw [if_pos h1]
    refine pm_go 9999 (by exact okX11_bloomed) rfl ?_; (try dsimp only [pm_st1, pm_st2, pm_cat2, pm_la, Option.toList, List.cons_append, List.nil_append])
    rw [a8]
    refine pm_ri (by exact okX11_bloomed) rfl rfl rfl (Nat.le_refl _) (Nat.le_refl _) (⟨rfl, rfl, h, fM.rf⟩)
end

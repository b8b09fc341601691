section
variable {cx : pm_CX} {d n0 : Nat} {i0 i1 : Option Nat} {ex : List pm_C} {mu : pm_I} {nu : pm_J}
theorem isB_pred {n : Nat} (hn : n ≤ 48) (i : Int32) : (0 ≤ i ∧ i ≤ nI n - 1) ↔ (0 ≤ i ∧ i < nI n) := by
  constructor
  · rintro ⟨q1, q2⟩
    obtain ⟨k, hk, rfl⟩ := nI_of (x := i) (Int32.not_lt.mpr q1)
    rcases Nat.eq_zero_or_pos n with q | q
    · rw [q] at q2
      exact absurd (Int32.le_trans q1 q2) (by decide)
    · rw [nI_m1 q] at q2
      exact ⟨q1, nI_lt (by have := (nI_leI hk (by omega)).mp q2; omega) (by omega)⟩
  · rintro ⟨q1, q2⟩
    obtain ⟨k, hk, rfl⟩ := nI_of (x := i) (Int32.not_lt.mpr q1)
    have q3 := (nI_ltI hk (by omega)).mp q2
    rw [nI_m1 (by omega)]
    exact ⟨q1, nI_le (by omega) (by omega)⟩
set_option maxRecDepth 100000 in
set_option maxHeartbeats 1000000 in
theorem M_row_l {Q : pm_Po} {x2 : Int32} {i : Nat} (hi : i < 6) : ∀ (r : List Nat) (k : Nat), md_ok r → r.length ≤ 6 → i < r.length → k + 1 = r.length → (∀ b, r[k - i]? = some b → Q (some (.int (nI b))) (sh_ i0 i1 ex) mu nu) → pm_G cx (mX11_row, d, 0, 0, n0, Q) 0 0 46 [some (.ref 19), some (.int (nI i)), some (.int x2), some (.int (nI (md_r7 r))), some (.int (nI k))] [] (sh_ i0 i1 ex) mu nu := by
  intro r
  induction r with
  | nil => intro k h hl hi2; simp at hi2
  | cons b t ih =>
    intro k h hl hi2 hk hq
    have hl2 := hl
    simp only [List.length_cons] at hi2 hk hl2
    refine pm_go 9999 (by exact okX11_row) rfl ?_; (try dsimp only [pm_st1, pm_st2, pm_cat2, pm_la, Option.toList, List.cons_append, List.nil_append])
    refine pm_ile (by exact okX11_row) rfl (fun h1 => ?_) (fun h1 => ?_)
    · have h2 : k ≤ i := (nI_leI (by omega) (by omega)).mp h1
      refine pm_go 9999 (by exact okX11_row) rfl ?_; (try dsimp only [pm_st1, pm_st2, pm_cat2, pm_la, Option.toList, List.cons_append, List.nil_append])
      refine pm_rem (by exact okX11_row) rfl (by decide) ?_
      refine pm_go 9999 (by exact okX11_row) rfl ?_; (try dsimp only [pm_st1, pm_st2, pm_cat2, pm_la, Option.toList, List.cons_append, List.nil_append])
      rw [md_rem h hl, nI_pred]
      refine pm_ri (by exact okX11_row) rfl rfl rfl (Nat.le_refl _) (Nat.le_refl _) (hq b (by rw [show k - i = 0 by omega]; rfl))
    · have h2 : i < k := by
        rcases Nat.lt_or_ge i k with q | q
        · exact q
        · exact absurd (nI_le q (by omega)) h1
      refine pm_go 9999 (by exact okX11_row) rfl ?_; (try dsimp only [pm_st1, pm_st2, pm_cat2, pm_la, Option.toList, List.cons_append, List.nil_append])
      refine pm_div (by exact okX11_row) rfl (by decide) ?_
      refine pm_go 46 (by exact okX11_row) rfl ?_; (try dsimp only [pm_st1, pm_st2, pm_cat2, pm_la, Option.toList, List.cons_append, List.nil_append])
      rw [md_div h hl]
      obtain ⟨k', rfl⟩ : ∃ k', k = k' + 1 := ⟨k - 1, by omega⟩
      rw [pk_m1]
      refine ih k' (md_ok_t h) (by simp only [List.length_cons] at hl; omega) (by omega) (by omega) (fun c hc => hq c ?_)
      rw [show k' + 1 - i = (k' - i) + 1 by omega, List.getElem?_cons_succ]
      exact hc
set_option maxRecDepth 100000 in
set_option maxHeartbeats 1000000 in
theorem M_row {z : mS} (i : Int32) (hr : md_ok (gR z.1)) (hl : (gR z.1).length ≤ 6) (h : MA z mu) (hd : 1 ≤ d) : pm_T cx mX11_row d 0 0 [.ref 19, .int i] (sh_ i0 i1 ex) mu nu (mQ (.int (sp_row z i)) z i0 i1 ex mu) := by
  obtain ⟨⟨a1, a2, a3, a4, a5, a6, a7, a8, a9, b1, b2, b3, b4, b5⟩, c1, c2⟩ := id h
  unfold sp_row
  refine pm_enterN 3 (by exact okX11_row) rfl ?_; dsimp only [pm_la, pm_cat2, List.replicate, List.cons_append, List.nil_append, List.append_nil]
  refine pm_go 9999 (by exact okX11_row) rfl ?_; (try dsimp only [pm_st1, pm_st2, pm_cat2, pm_la, Option.toList, List.cons_append, List.nil_append])
  rw [a6]
  refine pm_cs (by exact okX11_row) (by exact okX11_sizeOf) rfl (by exact arX11_sizeOf) (t_sizeOf (d := 0) hr hl) rfl (by dsimp only; omega) rfl (Nat.le_of_ble_eq_true rfl) ⟨Nat.zero_le _, Nat.zero_le _⟩ ?_
  rintro _ _ _ _ ⟨rfl, rfl, rfl, rfl⟩ -
  refine pm_go 9999 (by exact okX11_row) rfl ?_; (try dsimp only [pm_st1, pm_st2, pm_cat2, pm_la, Option.toList, List.cons_append, List.nil_append])
  refine pm_ieq (by exact okX11_row) rfl (fun h1 => ?_) (fun h1 => ?_)
  · rw [if_pos h1]
    refine pm_go 9999 (by exact okX11_row) rfl ?_; (try dsimp only [pm_st1, pm_st2, pm_cat2, pm_la, Option.toList, List.cons_append, List.nil_append])
    refine pm_ine (by exact okX11_row) rfl (fun h2 => ?_) (fun h2 => ?_)
    · exact absurd h1 h2
    · refine pm_go 9999 (by exact okX11_row) rfl ?_; (try dsimp only [pm_st1, pm_st2, pm_cat2, pm_la, Option.toList, List.cons_append, List.nil_append])
      refine pm_ri (by exact okX11_row) rfl rfl rfl (Nat.le_refl _) (Nat.le_refl _) (⟨rfl, rfl, h, fM.rf⟩)
  · rw [if_neg h1]
    refine pm_go 9999 (by exact okX11_row) rfl ?_; (try dsimp only [pm_st1, pm_st2, pm_cat2, pm_la, Option.toList, List.cons_append, List.nil_append])
    refine pm_cs (by exact okX11_row) (by exact okX11_in) rfl (by exact arX11_in) (t_in (d := 0) i 0 (nI (gR z.1).length - 1)) rfl (by dsimp only; omega) rfl (Nat.le_of_ble_eq_true rfl) ⟨Nat.zero_le _, Nat.zero_le _⟩ ?_
    rintro _ _ _ _ ⟨rfl, rfl, rfl, rfl⟩ -
    refine pm_go 9999 (by exact okX11_row) rfl ?_; (try dsimp only [pm_st1, pm_st2, pm_cat2, pm_la, Option.toList, List.cons_append, List.nil_append])
    rw [bI_c (isB_pred (by omega) i)]
    refine pm_zne (by exact okX11_row) rfl (fun h2 => ?_) (fun h2 => ?_)
    · have h2 := bI_n.mp h2
      rw [if_pos h2]
      obtain ⟨k, hk, rfl⟩ := isB_of (by omega) h2
      refine pm_go 46 (by exact okX11_row) rfl ?_; (try dsimp only [pm_st1, pm_st2, pm_cat2, pm_la, Option.toList, List.cons_append, List.nil_append])
      rw [a6, nI_m1 (by omega), nI_clamp (by omega)]
      refine M_row_l (by omega) (gR z.1) ((gR z.1).length - 1) hr hl hk (by omega) (fun b hb => ⟨?_, rfl, h, fM.rf⟩)
      rw [hb]
      rfl
    · have h2 := bI_z.mp h2
      rw [if_neg h2]
      refine pm_go 9999 (by exact okX11_row) rfl ?_; (try dsimp only [pm_st1, pm_st2, pm_cat2, pm_la, Option.toList, List.cons_append, List.nil_append])
      refine pm_ine (by exact okX11_row) rfl (fun h3 => ?_) (fun h3 => ?_)
      · refine pm_go 9999 (by exact okX11_row) rfl ?_; (try dsimp only [pm_st1, pm_st2, pm_cat2, pm_la, Option.toList, List.cons_append, List.nil_append])
        refine pm_ri (by exact okX11_row) rfl rfl rfl (Nat.le_refl _) (Nat.le_refl _) (⟨rfl, rfl, h, fM.rf⟩)
      · exact absurd h3 h1
set_option maxRecDepth 100000 in
set_option maxHeartbeats 1000000 in
theorem M_set {z : mS} (w v : Int32) (h : MA z mu) (hd : 1 ≤ d) : pm_T cx mX11_set d 0 0 [.ref 19, .int w, .int v] (sh_ i0 i1 ex) mu nu (mQ (.int (sp_set z w v).1) (sp_set z w v).2 i0 i1 ex mu) := by
  obtain ⟨⟨a1, a2, a3, a4, a5, a6, a7, a8, a9, b1, b2, b3, b4, b5⟩, c1, c2⟩ := id h
  have key0 : sp_set z w v = (-2, z) → pm_G cx (mX11_set, d, 0, 0, (sh_ i0 i1 ex).length, mQ (.int (sp_set z w v).1) (sp_set z w v).2 i0 i1 ex mu) 0 0 48 [some (.ref 19), some (.int w), some (.int v), none, none] [.int 0] (sh_ i0 i1 ex) mu nu := by
    intro hs
    rw [hs]
    refine pm_go 9999 (by exact okX11_set) rfl ?_; (try dsimp only [pm_st1, pm_st2, pm_cat2, pm_la, Option.toList, List.cons_append, List.nil_append])
    refine pm_zne (by exact okX11_set) rfl (fun h1 => ?_) (fun h1 => ?_)
    · exact absurd rfl h1
    · refine pm_go 9999 (by exact okX11_set) rfl ?_; (try dsimp only [pm_st1, pm_st2, pm_cat2, pm_la, Option.toList, List.cons_append, List.nil_append])
      refine pm_ri (by exact okX11_set) rfl rfl rfl (Nat.le_refl _) (Nat.le_refl _) (⟨rfl, rfl, h, fM.rf⟩)
  refine pm_enterN 2 (by exact okX11_set) rfl ?_; dsimp only [pm_la, pm_cat2, List.replicate, List.cons_append, List.nil_append, List.append_nil]
  refine pm_go 9999 (by exact okX11_set) rfl ?_; (try dsimp only [pm_st1, pm_st2, pm_cat2, pm_la, Option.toList, List.cons_append, List.nil_append])
  refine pm_zne (by exact okX11_set) rfl (fun h1 => ?_) (fun h1 => ?_)
  · refine pm_go 9999 (by exact okX11_set) rfl ?_; (try dsimp only [pm_st1, pm_st2, pm_cat2, pm_la, Option.toList, List.cons_append, List.nil_append])
    refine pm_ine (by exact okX11_set) rfl (fun h2 => ?_) (fun h2 => ?_)
    · refine pm_go 9999 (by exact okX11_set) rfl ?_; (try dsimp only [pm_st1, pm_st2, pm_cat2, pm_la, Option.toList, List.cons_append, List.nil_append])
      refine pm_ine (by exact okX11_set) rfl (fun h3 => ?_) (fun h3 => ?_)
      · refine pm_go 48 (by exact okX11_set) rfl ?_; (try dsimp only [pm_st1, pm_st2, pm_cat2, pm_la, Option.toList, List.cons_append, List.nil_append])
        exact key0 (by unfold sp_set; rw [if_neg (fun q => h1 q.1), if_neg (fun q => h2 q.1), if_neg (fun q => h3 q.1)])
      · refine pm_go 9999 (by exact okX11_set) rfl ?_; (try dsimp only [pm_st1, pm_st2, pm_cat2, pm_la, Option.toList, List.cons_append, List.nil_append])
        refine pm_cs (by exact okX11_set) (by exact okX11_in) rfl (by exact arX11_in) (t_in (d := 0) v 0 10) rfl (by dsimp only; omega) rfl (Nat.le_of_ble_eq_true rfl) ⟨Nat.zero_le _, Nat.zero_le _⟩ ?_
        rintro _ _ _ _ ⟨rfl, rfl, rfl, rfl⟩ -
        refine pm_go 48 (by exact okX11_set) rfl ?_; (try dsimp only [pm_st1, pm_st2, pm_cat2, pm_la, Option.toList, List.cons_append, List.nil_append])
        refine pm_zeq (by exact okX11_set) rfl (fun h4 => ?_) (fun h4 => ?_)
        · have h4 := bI_z.mp h4
          refine pm_go 48 (by exact okX11_set) rfl ?_; (try dsimp only [pm_st1, pm_st2, pm_cat2, pm_la, Option.toList, List.cons_append, List.nil_append])
          exact key0 (by unfold sp_set; rw [if_neg (fun q => h1 q.1), if_neg (fun q => h2 q.1), if_neg (fun q => h4 q.2)])
        · have h4 := bI_n.mp h4
          obtain ⟨k, -, hk, rfl⟩ := rng_of (a := 0) (b := 10) (by omega) (by omega) h4
          rw [show sp_set z w (nI k) = (nI (gW z.1), (((gB z.1, gL z.1, gG z.1, k), z.1.2), z.2)) by unfold sp_set; rw [if_neg (fun q => h1 q.1), if_neg (fun q => h2 q.1), if_pos ⟨h3, h4⟩, nI_clamp (by omega)]]
          refine pm_go 9999 (by exact okX11_set) rfl ?_; (try dsimp only [pm_st1, pm_st2, pm_cat2, pm_la, Option.toList, List.cons_append, List.nil_append])
          refine pm_zne (by exact okX11_set) rfl (fun h5 => ?_) (fun h5 => ?_)
          · refine pm_go 9999 (by exact okX11_set) rfl ?_; (try dsimp only [pm_st1, pm_st2, pm_cat2, pm_la, Option.toList, List.cons_append, List.nil_append])
            refine pm_zne (by exact okX11_set) rfl (fun h6 => ?_) (fun h6 => ?_)
            · refine pm_go 9999 (by exact okX11_set) rfl ?_; (try dsimp only [pm_st1, pm_st2, pm_cat2, pm_la, Option.toList, List.cons_append, List.nil_append])
              refine pm_ine (by exact okX11_set) rfl (fun h7 => ?_) (fun h7 => ?_)
              · refine pm_go 9999 (by exact okX11_set) rfl ?_; (try dsimp only [pm_st1, pm_st2, pm_cat2, pm_la, Option.toList, List.cons_append, List.nil_append])
                refine pm_zne (by exact okX11_set) rfl (fun h8 => ?_) (fun h8 => ?_)
                · refine pm_go 9999 (by exact okX11_set) rfl ?_; (try dsimp only [pm_st1, pm_st2, pm_cat2, pm_la, Option.toList, List.cons_append, List.nil_append])
                  refine pm_ine (by exact okX11_set) rfl (fun h9 => ?_) (fun h9 => ?_)
                  · refine pm_go 9999 (by exact okX11_set) rfl ?_; (try dsimp only [pm_st1, pm_st2, pm_cat2, pm_la, Option.toList, List.cons_append, List.nil_append])
                    refine pm_ine (by exact okX11_set) rfl (fun h10 => ?_) (fun h10 => ?_)
                    · exact absurd h3 h10
                    · refine pm_go 9999 (by exact okX11_set) rfl ?_; (try dsimp only [pm_st1, pm_st2, pm_cat2, pm_la, Option.toList, List.cons_append, List.nil_append])
                      rw [a4]
                      refine pm_ri (by exact okX11_set) rfl rfl rfl (Nat.le_refl _) (Nat.le_refl _) (⟨rfl, rfl, ⟨⟨a1, a2, a3, rfl, a5, a6, a7, a8, a9, b1, b2, b3, b4, b5⟩, c1.same rfl rfl, c2.same rfl rfl⟩, ((fM.rf.up (by omega)).up (by omega)).up (by omega)⟩)
                  · exact absurd h9 h2
                · exact absurd h8 h1
              · exact absurd h7 h2
            · exact absurd h6 h1
          · exact absurd h5 (by decide)
    · refine pm_go 9999 (by exact okX11_set) rfl ?_; (try dsimp only [pm_st1, pm_st2, pm_cat2, pm_la, Option.toList, List.cons_append, List.nil_append])
      refine pm_cs (by exact okX11_set) (by exact okX11_in) rfl (by exact arX11_in) (t_in (d := 0) v 1 6) rfl (by dsimp only; omega) rfl (Nat.le_of_ble_eq_true rfl) ⟨Nat.zero_le _, Nat.zero_le _⟩ ?_
      rintro _ _ _ _ ⟨rfl, rfl, rfl, rfl⟩ -
      refine pm_go 48 (by exact okX11_set) rfl ?_; (try dsimp only [pm_st1, pm_st2, pm_cat2, pm_la, Option.toList, List.cons_append, List.nil_append])
      by_cases h4 : 1 ≤ v ∧ v ≤ 6
      · rw [bI_1 h4]
        obtain ⟨k, -, hk, rfl⟩ := rng_of (a := 1) (b := 6) (by omega) (by omega) h4
        rw [show sp_set z w (nI k) = (nI (gG z.1), (((gB z.1, gL z.1, k, gW z.1), z.1.2), z.2)) by unfold sp_set; rw [if_neg (fun q => h1 q.1), if_pos ⟨h2, h4⟩, nI_clamp (by omega)]]
        subst h2
        refine pm_go 9999 (by exact okX11_set) rfl ?_; (try dsimp only [pm_st1, pm_st2, pm_cat2, pm_la, Option.toList, List.cons_append, List.nil_append])
        refine pm_zne (by exact okX11_set) rfl (fun h5 => ?_) (fun h5 => ?_)
        · refine pm_go 9999 (by exact okX11_set) rfl ?_; (try dsimp only [pm_st1, pm_st2, pm_cat2, pm_la, Option.toList, List.cons_append, List.nil_append])
          refine pm_zne (by exact okX11_set) rfl (fun h6 => ?_) (fun h6 => ?_)
          · refine pm_go 9999 (by exact okX11_set) rfl ?_; (try dsimp only [pm_st1, pm_st2, pm_cat2, pm_la, Option.toList, List.cons_append, List.nil_append])
            refine pm_ine (by exact okX11_set) rfl (fun h7 => ?_) (fun h7 => ?_)
            · exact absurd rfl h7
            · refine pm_go 9999 (by exact okX11_set) rfl ?_; (try dsimp only [pm_st1, pm_st2, pm_cat2, pm_la, Option.toList, List.cons_append, List.nil_append])
              refine pm_zne (by exact okX11_set) rfl (fun h8 => ?_) (fun h8 => ?_)
              · refine pm_go 9999 (by exact okX11_set) rfl ?_; (try dsimp only [pm_st1, pm_st2, pm_cat2, pm_la, Option.toList, List.cons_append, List.nil_append])
                refine pm_ine (by exact okX11_set) rfl (fun h9 => ?_) (fun h9 => ?_)
                · exact absurd rfl h9
                · refine pm_go 9999 (by exact okX11_set) rfl ?_; (try dsimp only [pm_st1, pm_st2, pm_cat2, pm_la, Option.toList, List.cons_append, List.nil_append])
                  refine pm_ine (by exact okX11_set) rfl (fun h10 => ?_) (fun h10 => ?_)
                  · refine pm_go 9999 (by exact okX11_set) rfl ?_; (try dsimp only [pm_st1, pm_st2, pm_cat2, pm_la, Option.toList, List.cons_append, List.nil_append])
                    rw [a3]
                    refine pm_ri (by exact okX11_set) rfl rfl rfl (Nat.le_refl _) (Nat.le_refl _) (⟨rfl, rfl, ⟨⟨a1, a2, rfl, a4, a5, a6, a7, a8, a9, b1, b2, b3, b4, b5⟩, c1.same rfl rfl, c2.same rfl rfl⟩, ((fM.rf.up (by omega)).up (by omega)).up (by omega)⟩)
                  · exact absurd h10 (by decide)
              · exact absurd h8 (by decide)
          · exact absurd h6 (by decide)
        · exact absurd h5 (by decide)
      · rw [bI_0 h4]
        exact key0 (by unfold sp_set; rw [if_neg (fun q => h1 q.1), if_neg (fun q => h4 q.2), if_neg]; rintro ⟨q, -⟩; rw [h2] at q; exact absurd q (by decide))
  · refine pm_go 9999 (by exact okX11_set) rfl ?_; (try dsimp only [pm_st1, pm_st2, pm_cat2, pm_la, Option.toList, List.cons_append, List.nil_append])
    refine pm_cs (by exact okX11_set) (by exact okX11_in) rfl (by exact arX11_in) (t_in (d := 0) v 0 2) rfl (by dsimp only; omega) rfl (Nat.le_of_ble_eq_true rfl) ⟨Nat.zero_le _, Nat.zero_le _⟩ ?_
    rintro _ _ _ _ ⟨rfl, rfl, rfl, rfl⟩ -
    refine pm_go 48 (by exact okX11_set) rfl ?_; (try dsimp only [pm_st1, pm_st2, pm_cat2, pm_la, Option.toList, List.cons_append, List.nil_append])
    by_cases h4 : 0 ≤ v ∧ v ≤ 2
    · rw [bI_1 h4]
      obtain ⟨k, -, hk, rfl⟩ := rng_of (a := 0) (b := 2) (by omega) (by omega) h4
      rw [show sp_set z w (nI k) = (nI (gL z.1), (((gB z.1, k, gG z.1, gW z.1), z.1.2), z.2)) by unfold sp_set; rw [if_pos ⟨h1, h4⟩, nI_clamp (by omega)]]
      subst h1
      refine pm_go 9999 (by exact okX11_set) rfl ?_; (try dsimp only [pm_st1, pm_st2, pm_cat2, pm_la, Option.toList, List.cons_append, List.nil_append])
      refine pm_zne (by exact okX11_set) rfl (fun h5 => ?_) (fun h5 => ?_)
      · refine pm_go 9999 (by exact okX11_set) rfl ?_; (try dsimp only [pm_st1, pm_st2, pm_cat2, pm_la, Option.toList, List.cons_append, List.nil_append])
        refine pm_zne (by exact okX11_set) rfl (fun h6 => ?_) (fun h6 => ?_)
        · exact absurd rfl h6
        · refine pm_go 9999 (by exact okX11_set) rfl ?_; (try dsimp only [pm_st1, pm_st2, pm_cat2, pm_la, Option.toList, List.cons_append, List.nil_append])
          refine pm_zne (by exact okX11_set) rfl (fun h8 => ?_) (fun h8 => ?_)
          · exact absurd rfl h8
          · refine pm_go 9999 (by exact okX11_set) rfl ?_; (try dsimp only [pm_st1, pm_st2, pm_cat2, pm_la, Option.toList, List.cons_append, List.nil_append])
            refine pm_ine (by exact okX11_set) rfl (fun h9 => ?_) (fun h9 => ?_)
            · refine pm_go 9999 (by exact okX11_set) rfl ?_; (try dsimp only [pm_st1, pm_st2, pm_cat2, pm_la, Option.toList, List.cons_append, List.nil_append])
              refine pm_ine (by exact okX11_set) rfl (fun h10 => ?_) (fun h10 => ?_)
              · refine pm_go 9999 (by exact okX11_set) rfl ?_; (try dsimp only [pm_st1, pm_st2, pm_cat2, pm_la, Option.toList, List.cons_append, List.nil_append])
                rw [a2]
                refine pm_ri (by exact okX11_set) rfl rfl rfl (Nat.le_refl _) (Nat.le_refl _) (⟨rfl, rfl, ⟨⟨a1, rfl, a3, a4, a5, a6, a7, a8, a9, b1, b2, b3, b4, b5⟩, c1.same rfl rfl, c2.same rfl rfl⟩, ((fM.rf.up (by omega)).up (by omega)).up (by omega)⟩)
              · exact absurd h10 (by decide)
            · exact absurd h9 (by decide)
      · exact absurd h5 (by decide)
    · rw [bI_0 h4]
      exact key0 (by unfold sp_set; rw [if_neg (fun q => h4 q.2), if_neg, if_neg]; rintro ⟨q, -⟩; rw [h1] at q; exact absurd q (by decide); rintro ⟨q, -⟩; rw [h1] at q; exact absurd q (by decide))
/-- how many ? stand among the first k signs -/
def pd_op (pd : List Nat) : Nat := (pd.filter (fun c => c == 63)).length
theorem pd_op_app (pd : List Nat) (c : Nat) : pd_op (pd ++ [c]) = pd_op pd + (if c = 63 then 1 else 0) := by
  unfold pd_op
  rw [List.filter_append, List.length_append]
  by_cases h : c = 63
  · simp [h]
  · simp [h]
theorem pd_op_le (pd : List Nat) : pd_op pd ≤ pd.length := List.length_filter_le _ _
theorem pd_take {pd : List Nat} {k b : Nat} (h : pd[k]? = some b) : pd.take (k + 1) = pd.take k ++ [b] := by
  rw [List.take_add_one, h]
  rfl
set_option maxRecDepth 100000 in
set_option maxHeartbeats 1000000 in
theorem t_opens_l {Q : pm_Po} {pd : List Nat} (hN : mu 19 6 = nI pd.length) (hP : ∀ k b, pd[k]? = some b → mu 22 k = nI b) (hp : dOK pd) : ∀ (j k : Nat), k + j = pd.length → Q (some (.int (nI (pd_op pd)))) (sh_ i0 i1 ex) mu nu → pm_G cx (mX11_opens, d, 0, 0, n0, Q) 0 0 4 [some (.ref 19), some (.int (nI (pd_op (pd.take k)))), some (.int (nI k))] [] (sh_ i0 i1 ex) mu nu := by
  intro j
  have hp1 := hp.1
  induction j with
  | zero =>
    intro k hk hq
    refine pm_go 9999 (by exact okX11_opens) rfl ?_; (try dsimp only [pm_st1, pm_st2, pm_cat2, pm_la, Option.toList, List.cons_append, List.nil_append])
    rw [hN]
    refine pm_ige (by exact okX11_opens) rfl (fun h1 => ?_) (fun h1 => ?_)
    · refine pm_go 9999 (by exact okX11_opens) rfl ?_; (try dsimp only [pm_st1, pm_st2, pm_cat2, pm_la, Option.toList, List.cons_append, List.nil_append])
      rw [List.take_of_length_le (by omega)]
      refine pm_ri (by exact okX11_opens) rfl rfl rfl (Nat.le_refl _) (Nat.le_refl _) (hq)
    · exact absurd (nI_le (by omega) (by omega)) h1
  | succ j ih =>
    intro k hk hq
    have hlt : k < pd.length := by omega
    have hget := List.getElem?_eq_getElem hlt
    have hb := hp.2 _ (List.getElem_mem hlt)
    refine pm_go 9999 (by exact okX11_opens) rfl ?_; (try dsimp only [pm_st1, pm_st2, pm_cat2, pm_la, Option.toList, List.cons_append, List.nil_append])
    rw [hN]
    refine pm_ige (by exact okX11_opens) rfl (fun h1 => ?_) (fun h1 => ?_)
    · exact absurd h1 (nI_ge (by omega) (by omega))
    · refine pm_go 9999 (by exact okX11_opens) rfl ?_; (try dsimp only [pm_st1, pm_st2, pm_cat2, pm_la, Option.toList, List.cons_append, List.nil_append])
      refine pm_ial (by exact okX11_opens) rfl rfl (vp_in_nI (by omega) (by omega)) ?_
      rw [nI_clamp (by omega), hP k _ hget]
      have := ih (k + 1) (by omega) hq
      rw [pd_take hget, pd_op_app] at this
      refine pm_go 9999 (by exact okX11_opens) rfl ?_; (try dsimp only [pm_st1, pm_st2, pm_cat2, pm_la, Option.toList, List.cons_append, List.nil_append])
      refine pm_ine (by exact okX11_opens) rfl (fun h2 => ?_) (fun h2 => ?_)
      · have h3 : ¬ pd[k] = 63 := fun q => h2 (by rw [q]; rfl)
        refine pm_go 4 (by exact okX11_opens) rfl ?_; (try dsimp only [pm_st1, pm_st2, pm_cat2, pm_la, Option.toList, List.cons_append, List.nil_append])
        rw [if_neg h3, Nat.add_zero] at this
        rw [nI_1]
        refine pm_G.cast this ?_ rfl rfl rfl
        rw [show nI (pd_op (pd.take k)) + 0 = nI (pd_op (pd.take k)) from Int32.add_zero _]
      · have h3 : pd[k] = 63 := (nI_eq (b := 63) (by omega) (by omega)).mp h2
        refine pm_go 4 (by exact okX11_opens) rfl ?_; (try dsimp only [pm_st1, pm_st2, pm_cat2, pm_la, Option.toList, List.cons_append, List.nil_append])
        rw [if_pos h3] at this
        rw [nI_1, nI_1]
        exact this
set_option maxRecDepth 100000 in
set_option maxHeartbeats 1000000 in
theorem t_opens {pd : List Nat} (hN : mu 19 6 = nI pd.length) (hP : ∀ k b, pd[k]? = some b → mu 22 k = nI b) (hp : dOK pd) : pm_T cx mX11_opens d 0 0 [.ref 19] (sh_ i0 i1 ex) mu nu (pm_ret (some (.int (nI (pd_op pd)))) (sh_ i0 i1 ex) mu nu) := by
  refine pm_enterN 2 (by exact okX11_opens) rfl ?_; dsimp only [pm_la, pm_cat2, List.replicate, List.cons_append, List.nil_append, List.append_nil]
  refine pm_go 4 (by exact okX11_opens) rfl ?_; (try dsimp only [pm_st1, pm_st2, pm_cat2, pm_la, Option.toList, List.cons_append, List.nil_append])
  exact t_opens_l hN hP hp pd.length 0 (by omega) ⟨rfl, rfl, rfl, rfl⟩
end

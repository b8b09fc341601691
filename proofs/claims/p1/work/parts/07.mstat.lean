/-! ===== the reference's small functions ===== -/
/-- a row, the last watered first, as the reference keeps it -/
def md_r7 : List Nat → Nat
  | [] => 0
  | b :: t => 7 * md_r7 t + (b + 1)
def md_ok (r : List Nat) : Prop := ∀ b ∈ r, b < 6
theorem md_ok_t {b : Nat} {t : List Nat} (h : md_ok (b :: t)) : md_ok t := fun x hx => h x (List.mem_cons_of_mem _ hx)
theorem md_ok_h {b : Nat} {t : List Nat} (h : md_ok (b :: t)) : b < 6 := h b List.mem_cons_self
theorem md_ok_f {r : List Nat} (h : md_ok r) (p : Nat → Bool) : md_ok (r.filter p) := fun x hx => h x (List.mem_filter.mp hx).1
theorem md_r7_lt : ∀ (r : List Nat), md_ok r → md_r7 r < 7 ^ r.length := by
  intro r
  induction r with
  | nil => intro _; decide
  | cons b t ih =>
    intro h
    have h1 := ih (md_ok_t h)
    have h2 := md_ok_h h
    simp only [md_r7, List.length_cons, Nat.pow_succ]
    omega
theorem md_r7_small {r : List Nat} (h : md_ok r) (hl : r.length ≤ 6) : md_r7 r < 117649 := by
  have h1 := md_r7_lt r h
  have h2 : 7 ^ r.length ≤ 7 ^ 6 := Nat.pow_le_pow_right (by omega) hl
  omega
theorem md_div {b : Nat} {t : List Nat} (h : md_ok (b :: t)) (hl : (b :: t).length ≤ 6) : nI (md_r7 (b :: t)) / 7 = nI (md_r7 t) := by
  have h1 := md_r7_small h hl
  have h2 := md_ok_h h
  rw [show (7 : Int32) = nI 7 from rfl, pk_div (by omega) (by omega) (by omega)]
  congr 1
  simp only [md_r7]
  omega
theorem md_rem {b : Nat} {t : List Nat} (h : md_ok (b :: t)) (hl : (b :: t).length ≤ 6) : nI (md_r7 (b :: t)) - nI (md_r7 (b :: t)) / 7 * 7 = nI (b + 1) := by
  have h1 := md_r7_small h hl
  have h2 := md_ok_h h
  rw [show (7 : Int32) = nI 7 from rfl, pk_rem (by omega) (by omega) (by omega)]
  congr 1
  simp only [md_r7]
  omega
theorem md_pos {b : Nat} {t : List Nat} (h : md_ok (b :: t)) (hl : (b :: t).length ≤ 6) : ¬ nI (md_r7 (b :: t)) ≤ 0 := by
  have h1 := md_r7_small h hl
  exact nI_nle (by simp only [md_r7]; omega) (by omega)
section
variable {cx : pm_CX} {d n0 : Nat} {sg : List pm_C} {mu : pm_I} {nu : pm_J}
set_option maxRecDepth 100000 in
set_option maxHeartbeats 1000000 in
theorem t_in (v lo hi : Int32) : pm_T cx mX11_in d 0 0 [.int v, .int lo, .int hi] sg mu nu (pm_ret (some (.int (bI (lo ≤ v ∧ v ≤ hi)))) sg mu nu) := by
  refine pm_enterN 0 (by exact okX11_in) rfl ?_; dsimp only [pm_la, pm_cat2, List.replicate, List.cons_append, List.nil_append, List.append_nil]
  refine pm_go 9999 (by exact okX11_in) rfl ?_; (try dsimp only [pm_st1, pm_st2, pm_cat2, pm_la, Option.toList, List.cons_append, List.nil_append])
  refine pm_ilt (by exact okX11_in) rfl (fun h1 => ?_) (fun h1 => ?_)
  · refine pm_go 9999 (by exact okX11_in) rfl ?_; (try dsimp only [pm_st1, pm_st2, pm_cat2, pm_la, Option.toList, List.cons_append, List.nil_append])
    refine pm_ri (by exact okX11_in) rfl rfl rfl (Nat.le_refl _) (Nat.le_refl _) (⟨by rw [bI_0]; intro q; exact absurd h1 (Int32.not_lt.mpr q.1), rfl, rfl, rfl⟩)
  · refine pm_go 9999 (by exact okX11_in) rfl ?_; (try dsimp only [pm_st1, pm_st2, pm_cat2, pm_la, Option.toList, List.cons_append, List.nil_append])
    refine pm_igt (by exact okX11_in) rfl (fun h2 => ?_) (fun h2 => ?_)
    · refine pm_go 9999 (by exact okX11_in) rfl ?_; (try dsimp only [pm_st1, pm_st2, pm_cat2, pm_la, Option.toList, List.cons_append, List.nil_append])
      refine pm_ri (by exact okX11_in) rfl rfl rfl (Nat.le_refl _) (Nat.le_refl _) (⟨by rw [bI_0]; intro q; exact absurd h2 (Int32.not_lt.mpr q.2), rfl, rfl, rfl⟩)
    · refine pm_go 9999 (by exact okX11_in) rfl ?_; (try dsimp only [pm_st1, pm_st2, pm_cat2, pm_la, Option.toList, List.cons_append, List.nil_append])
      refine pm_ri (by exact okX11_in) rfl rfl rfl (Nat.le_refl _) (Nat.le_refl _) (⟨by rw [bI_1 ⟨Int32.not_lt.mp h1, Int32.not_lt.mp h2⟩], rfl, rfl, rfl⟩)
theorem md_has {s k : Nat} (hs : s < 2 ^ 31) (hk : k < 31) : nI s >>> (nI k &&& 31) &&& 1 = nI (s / 2 ^ k % 2) := by
  rw [pk_shrN hs _ k (sl_ k (by omega)), pk_andN (Nat.lt_of_le_of_lt (Nat.div_le_self _ _) (by omega)) 1 rfl]
set_option maxRecDepth 100000 in
set_option maxHeartbeats 1000000 in
theorem t_has {s k : Nat} (hs : s < 2 ^ 31) (hk : k < 31) : pm_T cx mX11_has d 0 0 [.int (nI s), .int (nI k)] sg mu nu (pm_ret (some (.int (bI (s.testBit k = true)))) sg mu nu) := by
  have e1 : s.testBit k = true ↔ s / 2 ^ k % 2 = 1 := by
    rw [Nat.testBit_eq_decide_div_mod_eq]
    exact decide_eq_true_iff
  have e2 := md_has hs hk
  have e3 : s / 2 ^ k % 2 < 2 := Nat.mod_lt _ (by omega)
  refine pm_enterN 0 (by exact okX11_has) rfl ?_; dsimp only [pm_la, pm_cat2, List.replicate, List.cons_append, List.nil_append, List.append_nil]
  refine pm_go 9999 (by exact okX11_has) rfl ?_; (try dsimp only [pm_st1, pm_st2, pm_cat2, pm_la, Option.toList, List.cons_append, List.nil_append])
  refine pm_ine (by exact okX11_has) rfl (fun h1 => ?_) (fun h1 => ?_)
  · refine pm_go 9999 (by exact okX11_has) rfl ?_; (try dsimp only [pm_st1, pm_st2, pm_cat2, pm_la, Option.toList, List.cons_append, List.nil_append])
    refine pm_ri (by exact okX11_has) rfl rfl rfl (Nat.le_refl _) (Nat.le_refl _) (⟨by rw [bI_0]; rw [e1]; intro q; exact h1 (by rw [e2, q]; rfl), rfl, rfl, rfl⟩)
  · refine pm_go 9999 (by exact okX11_has) rfl ?_; (try dsimp only [pm_st1, pm_st2, pm_cat2, pm_la, Option.toList, List.cons_append, List.nil_append])
    have h2 : s / 2 ^ k % 2 = 1 := (nI_eq (by omega) (by omega)).mp (e2.symm.trans h1)
    refine pm_ri (by exact okX11_has) rfl rfl rfl (Nat.le_refl _) (Nat.le_refl _) (⟨by rw [bI_1 (e1.mpr h2)], rfl, rfl, rfl⟩)
set_option maxRecDepth 100000 in
set_option maxHeartbeats 1000000 in
theorem t_sizeOf_l {Q : pm_Po} {x0 : Int32} : ∀ (r : List Nat) (n : Nat), md_ok r → r.length ≤ 6 → Q (some (.int (nI (n + r.length)))) sg mu nu → pm_G cx (mX11_sizeOf, d, 0, 0, n0, Q) 0 0 4 [some (.int x0), some (.int (nI n)), some (.int (nI (md_r7 r)))] [] sg mu nu := by
  intro r
  induction r with
  | nil =>
    intro n h hl hq
    refine pm_go 9999 (by exact okX11_sizeOf) rfl ?_; (try dsimp only [pm_st1, pm_st2, pm_cat2, pm_la, Option.toList, List.cons_append, List.nil_append])
    refine pm_zle (by exact okX11_sizeOf) rfl (fun h1 => ?_) (fun h1 => ?_)
    · refine pm_go 9999 (by exact okX11_sizeOf) rfl ?_; (try dsimp only [pm_st1, pm_st2, pm_cat2, pm_la, Option.toList, List.cons_append, List.nil_append])
      refine pm_ri (by exact okX11_sizeOf) rfl rfl rfl (Nat.le_refl _) (Nat.le_refl _) (hq)
    · exact absurd (by decide) h1
  | cons b t ih =>
    intro n h hl hq
    refine pm_go 9999 (by exact okX11_sizeOf) rfl ?_; (try dsimp only [pm_st1, pm_st2, pm_cat2, pm_la, Option.toList, List.cons_append, List.nil_append])
    refine pm_zle (by exact okX11_sizeOf) rfl (fun h1 => ?_) (fun h1 => ?_)
    · exact absurd h1 (md_pos h hl)
    · refine pm_go 4 (by exact okX11_sizeOf) rfl ?_; (try dsimp only [pm_st1, pm_st2, pm_cat2, pm_la, Option.toList, List.cons_append, List.nil_append])
      refine pm_div (by exact okX11_sizeOf) rfl (by decide) ?_
      refine pm_go 4 (by exact okX11_sizeOf) rfl ?_; (try dsimp only [pm_st1, pm_st2, pm_cat2, pm_la, Option.toList, List.cons_append, List.nil_append])
      rw [md_div h hl, nI_1]
      exact ih (n + 1) (md_ok_t h) (by simp at hl; omega) (by rw [show n + 1 + t.length = n + (b :: t).length by simp; omega]; exact hq)
set_option maxRecDepth 100000 in
set_option maxHeartbeats 1000000 in
theorem t_sizeOf {r : List Nat} (h : md_ok r) (hl : r.length ≤ 6) : pm_T cx mX11_sizeOf d 0 0 [.int (nI (md_r7 r))] sg mu nu (pm_ret (some (.int (nI r.length))) sg mu nu) := by
  refine pm_enterN 2 (by exact okX11_sizeOf) rfl ?_; dsimp only [pm_la, pm_cat2, List.replicate, List.cons_append, List.nil_append, List.append_nil]
  refine pm_go 4 (by exact okX11_sizeOf) rfl ?_; (try dsimp only [pm_st1, pm_st2, pm_cat2, pm_la, Option.toList, List.cons_append, List.nil_append])
  exact t_sizeOf_l r 0 h hl ⟨by rw [Nat.zero_add], rfl, rfl, rfl⟩
theorem md_r7_f {b : Nat} (a : Nat) (t : List Nat) : md_r7 ((a :: t).filter (fun x => x != b)) = if a = b then md_r7 (t.filter (fun x => x != b)) else 7 * md_r7 (t.filter (fun x => x != b)) + (a + 1) := by
  by_cases h : a = b
  · simp [List.filter_cons, h]
  · simp [List.filter_cons, h, md_r7]
set_option maxRecDepth 100000 in
set_option maxHeartbeats 1000000 in
theorem t_without_l {Q : pm_Po} {x0 : Int32} {b : Nat} (hb : b < 6) : ∀ (r : List Nat) (j mk : Nat), md_ok r → r.length ≤ 6 → j + r.length ≤ 6 → Q (some (.int (nI (mk + 7 ^ j * md_r7 (r.filter (fun x => x != b)))))) sg mu nu → pm_G cx (mX11_without, d, 0, 0, n0, Q) 0 0 7 [some (.int x0), some (.int (nI b)), some (.int (nI (md_r7 r))), some (.int (nI (7 ^ j))), some (.int (nI mk))] [] sg mu nu := by
  intro r
  induction r with
  | nil =>
    intro j mk h hl hj hq
    refine pm_go 9999 (by exact okX11_without) rfl ?_; (try dsimp only [pm_st1, pm_st2, pm_cat2, pm_la, Option.toList, List.cons_append, List.nil_append])
    refine pm_zle (by exact okX11_without) rfl (fun h1 => ?_) (fun h1 => ?_)
    · refine pm_go 9999 (by exact okX11_without) rfl ?_; (try dsimp only [pm_st1, pm_st2, pm_cat2, pm_la, Option.toList, List.cons_append, List.nil_append])
      simp [md_r7] at hq
      refine pm_ri (by exact okX11_without) rfl rfl rfl (Nat.le_refl _) (Nat.le_refl _) (hq)
    · exact absurd (by decide) h1
  | cons a t ih =>
    intro j mk h hl hj hq
    have ha := md_ok_h h
    simp only [List.length_cons] at hj
    refine pm_go 9999 (by exact okX11_without) rfl ?_; (try dsimp only [pm_st1, pm_st2, pm_cat2, pm_la, Option.toList, List.cons_append, List.nil_append])
    refine pm_zle (by exact okX11_without) rfl (fun h1 => ?_) (fun h1 => ?_)
    · exact absurd h1 (md_pos h hl)
    · refine pm_go 9999 (by exact okX11_without) rfl ?_; (try dsimp only [pm_st1, pm_st2, pm_cat2, pm_la, Option.toList, List.cons_append, List.nil_append])
      refine pm_rem (by exact okX11_without) rfl (by decide) ?_
      refine pm_go 9999 (by exact okX11_without) rfl ?_; (try dsimp only [pm_st1, pm_st2, pm_cat2, pm_la, Option.toList, List.cons_append, List.nil_append])
      rw [md_rem h hl, nI_1]
      refine pm_ieq (by exact okX11_without) rfl (fun h2 => ?_) (fun h2 => ?_)
      · have h3 : a = b := by
          have := (nI_eq (by omega) (by omega)).mp h2
          omega
        refine pm_go 9999 (by exact okX11_without) rfl ?_; (try dsimp only [pm_st1, pm_st2, pm_cat2, pm_la, Option.toList, List.cons_append, List.nil_append])
        refine pm_div (by exact okX11_without) rfl (by decide) ?_
        refine pm_go 7 (by exact okX11_without) rfl ?_; (try dsimp only [pm_st1, pm_st2, pm_cat2, pm_la, Option.toList, List.cons_append, List.nil_append])
        rw [md_div h hl]
        refine ih j mk (md_ok_t h) (by simp at hl; omega) (by omega) ?_
        rw [md_r7_f, if_pos h3] at hq
        exact hq
      · have h3 : a ≠ b := fun q => h2 (by rw [q])
        refine pm_go 9999 (by exact okX11_without) rfl ?_; (try dsimp only [pm_st1, pm_st2, pm_cat2, pm_la, Option.toList, List.cons_append, List.nil_append])
        refine pm_rem (by exact okX11_without) rfl (by decide) ?_
        refine pm_go 9999 (by exact okX11_without) rfl ?_; (try dsimp only [pm_st1, pm_st2, pm_cat2, pm_la, Option.toList, List.cons_append, List.nil_append])
        refine pm_div (by exact okX11_without) rfl (by decide) ?_
        refine pm_go 7 (by exact okX11_without) rfl ?_; (try dsimp only [pm_st1, pm_st2, pm_cat2, pm_la, Option.toList, List.cons_append, List.nil_append])
        rw [md_rem h hl, md_div h hl, pk_mul, nI_add, show (7 : Int32) = nI 7 from rfl, pk_mul]
        have hp : 7 ^ j * 7 = 7 ^ (j + 1) := (Nat.pow_succ 7 j).symm
        rw [hp]
        have hlt : md_r7 (a :: t) < 7 ^ (t.length + 1) := md_r7_lt _ h
        have hpj : 7 ^ (j + 1) ≤ 7 ^ 6 := Nat.pow_le_pow_right (by omega) (by omega)
        refine ih (j + 1) (mk + (a + 1) * 7 ^ j) (md_ok_t h) (by simp at hl; omega) (by omega) ?_
        · rw [md_r7_f, if_neg h3] at hq
          rw [show mk + (a + 1) * 7 ^ j + 7 ^ (j + 1) * md_r7 (t.filter (fun x => x != b)) = mk + 7 ^ j * (7 * md_r7 (t.filter (fun x => x != b)) + (a + 1)) by rw [← hp, Nat.mul_add, Nat.mul_assoc, Nat.mul_comm (a + 1)]; omega]
          exact hq
set_option maxRecDepth 100000 in
set_option maxHeartbeats 1000000 in
theorem t_without {r : List Nat} {b : Nat} (h : md_ok r) (hl : r.length ≤ 6) (hb : b < 6) : pm_T cx mX11_without d 0 0 [.int (nI (md_r7 r)), .int (nI b)] sg mu nu (pm_ret (some (.int (nI (md_r7 (r.filter (fun x => x != b)))))) sg mu nu) := by
  refine pm_enterN 3 (by exact okX11_without) rfl ?_; dsimp only [pm_la, pm_cat2, List.replicate, List.cons_append, List.nil_append, List.append_nil]
  refine pm_go 7 (by exact okX11_without) rfl ?_; (try dsimp only [pm_st1, pm_st2, pm_cat2, pm_la, Option.toList, List.cons_append, List.nil_append])
  exact t_without_l hb r 0 0 h hl (by omega) ⟨by rw [Nat.pow_zero, Nat.one_mul, Nat.zero_add], rfl, rfl, rfl⟩
set_option maxRecDepth 100000 in
set_option maxHeartbeats 1000000 in
theorem t_isIn_l {Q : pm_Po} {x0 : Int32} {b : Nat} (hb : b < 6) : ∀ (r : List Nat) (P : Prop) [Decidable P], md_ok r → r.length ≤ 6 → Q (some (.int (bI (P ∨ b ∈ r)))) sg mu nu → pm_G cx (mX11_isIn, d, 0, 0, n0, Q) 0 0 4 [some (.int x0), some (.int (nI b)), some (.int (bI P)), some (.int (nI (md_r7 r)))] [] sg mu nu := by
  intro r
  induction r with
  | nil =>
    intro P _ h hl hq
    refine pm_go 9999 (by exact okX11_isIn) rfl ?_; (try dsimp only [pm_st1, pm_st2, pm_cat2, pm_la, Option.toList, List.cons_append, List.nil_append])
    refine pm_zle (by exact okX11_isIn) rfl (fun h1 => ?_) (fun h1 => ?_)
    · refine pm_go 9999 (by exact okX11_isIn) rfl ?_; (try dsimp only [pm_st1, pm_st2, pm_cat2, pm_la, Option.toList, List.cons_append, List.nil_append])
      rw [bI_c (e := P) (by simp)] at hq
      exact pm_ri (by exact okX11_isIn) rfl rfl bI_w (Nat.le_refl _) (Nat.le_refl _) hq
    · exact absurd (by decide) h1
  | cons a t ih =>
    intro P _ h hl hq
    have ha := md_ok_h h
    refine pm_go 9999 (by exact okX11_isIn) rfl ?_; (try dsimp only [pm_st1, pm_st2, pm_cat2, pm_la, Option.toList, List.cons_append, List.nil_append])
    refine pm_zle (by exact okX11_isIn) rfl (fun h1 => ?_) (fun h1 => ?_)
    · exact absurd h1 (md_pos h hl)
    · refine pm_go 9999 (by exact okX11_isIn) rfl ?_; (try dsimp only [pm_st1, pm_st2, pm_cat2, pm_la, Option.toList, List.cons_append, List.nil_append])
      refine pm_zne (by exact okX11_isIn) rfl (fun h2 => ?_) (fun h2 => ?_)
      · refine pm_go 9999 (by exact okX11_isIn) rfl ?_; (try dsimp only [pm_st1, pm_st2, pm_cat2, pm_la, Option.toList, List.cons_append, List.nil_append])
        refine pm_div (by exact okX11_isIn) rfl (by decide) ?_
        refine pm_go 4 (by exact okX11_isIn) rfl ?_; (try dsimp only [pm_st1, pm_st2, pm_cat2, pm_la, Option.toList, List.cons_append, List.nil_append])
        rw [md_div h hl]
        have hP : P := bI_n.mp h2
        have := ih True (md_ok_t h) (by simp at hl; omega) (by rw [bI_1 (Or.inl trivial)]; rw [bI_1 (Or.inl hP)] at hq; exact hq)
        rw [bI_1 trivial] at this
        exact this
      · have hP : ¬ P := bI_z.mp h2
        refine pm_go 9999 (by exact okX11_isIn) rfl ?_; (try dsimp only [pm_st1, pm_st2, pm_cat2, pm_la, Option.toList, List.cons_append, List.nil_append])
        refine pm_rem (by exact okX11_isIn) rfl (by decide) ?_
        refine pm_go 9999 (by exact okX11_isIn) rfl ?_; (try dsimp only [pm_st1, pm_st2, pm_cat2, pm_la, Option.toList, List.cons_append, List.nil_append])
        rw [md_rem h hl, nI_1]
        refine pm_ine (by exact okX11_isIn) rfl (fun h3 => ?_) (fun h3 => ?_)
        · have h4 : a ≠ b := fun q => h3 (by rw [q])
          refine pm_go 9999 (by exact okX11_isIn) rfl ?_; (try dsimp only [pm_st1, pm_st2, pm_cat2, pm_la, Option.toList, List.cons_append, List.nil_append])
          refine pm_div (by exact okX11_isIn) rfl (by decide) ?_
          refine pm_go 4 (by exact okX11_isIn) rfl ?_; (try dsimp only [pm_st1, pm_st2, pm_cat2, pm_la, Option.toList, List.cons_append, List.nil_append])
          rw [md_div h hl]
          have := ih False (md_ok_t h) (by simp at hl; omega) (by rw [bI_c (e := P ∨ b ∈ a :: t) (by simp [hP, Ne.symm h4])]; exact hq)
          rw [bI_0 (fun q => q)] at this
          exact this
        · have h4 : a = b := by
            have := (nI_eq (by omega) (by omega)).mp h3
            omega
          refine pm_go 9999 (by exact okX11_isIn) rfl ?_; (try dsimp only [pm_st1, pm_st2, pm_cat2, pm_la, Option.toList, List.cons_append, List.nil_append])
          refine pm_div (by exact okX11_isIn) rfl (by decide) ?_
          refine pm_go 4 (by exact okX11_isIn) rfl ?_; (try dsimp only [pm_st1, pm_st2, pm_cat2, pm_la, Option.toList, List.cons_append, List.nil_append])
          rw [md_div h hl]
          have := ih True (md_ok_t h) (by simp at hl; omega) (by rw [bI_1 (Or.inl trivial)]; rw [bI_1 (Or.inr (by simp [h4]))] at hq; exact hq)
          rw [bI_1 trivial] at this
          exact this
set_option maxRecDepth 100000 in
set_option maxHeartbeats 1000000 in
theorem t_isIn {r : List Nat} {b : Nat} (h : md_ok r) (hl : r.length ≤ 6) (hb : b < 6) : pm_T cx mX11_isIn d 0 0 [.int (nI (md_r7 r)), .int (nI b)] sg mu nu (pm_ret (some (.int (bI (b ∈ r)))) sg mu nu) := by
  refine pm_enterN 2 (by exact okX11_isIn) rfl ?_; dsimp only [pm_la, pm_cat2, List.replicate, List.cons_append, List.nil_append, List.append_nil]
  refine pm_go 4 (by exact okX11_isIn) rfl ?_; (try dsimp only [pm_st1, pm_st2, pm_cat2, pm_la, Option.toList, List.cons_append, List.nil_append])
  have := t_isIn_l (cx := cx) (d := d) (n0 := sg.length) (sg := sg) (mu := mu) (nu := nu) (Q := pm_ret (some (.int (bI (b ∈ r)))) sg mu nu) (x0 := nI (md_r7 r)) hb r False h hl ⟨by rw [bI_c (c := False ∨ b ∈ r) (e := b ∈ r) (by simp)], rfl, rfl, rfl⟩
  rw [bI_0 (fun q => q)] at this
  exact this
set_option maxRecDepth 100000 in
set_option maxHeartbeats 1000000 in
theorem t_watered {r : List Nat} {b : Nat} (h : md_ok r) (hl : r.length ≤ 6) (hb : b < 6) (hd : 1 ≤ d) : pm_T cx mX11_watered d 0 0 [.int (nI (md_r7 r)), .int (nI b)] sg mu nu (pm_ret (some (.int (nI (md_r7 (b :: r.filter (fun x => x != b)))))) sg mu nu) := by
  refine pm_enterN 0 (by exact okX11_watered) rfl ?_; dsimp only [pm_la, pm_cat2, List.replicate, List.cons_append, List.nil_append, List.append_nil]
  refine pm_go 9999 (by exact okX11_watered) rfl ?_; (try dsimp only [pm_st1, pm_st2, pm_cat2, pm_la, Option.toList, List.cons_append, List.nil_append])
  refine pm_cs (by exact okX11_watered) (by exact okX11_without) rfl (by exact arX11_without) (t_without (d := 0) h hl hb) rfl (by dsimp only; omega) rfl (Nat.le_of_ble_eq_true rfl) ⟨Nat.zero_le _, Nat.zero_le _⟩ ?_
  rintro _ _ _ _ ⟨rfl, rfl, rfl, rfl⟩ -
  refine pm_go 9999 (by exact okX11_watered) rfl ?_; (try dsimp only [pm_st1, pm_st2, pm_cat2, pm_la, Option.toList, List.cons_append, List.nil_append])
  refine pm_ri (by exact okX11_watered) rfl rfl rfl (Nat.le_refl _) (Nat.le_refl _) (⟨by rw [show (7 : Int32) = nI 7 from rfl, pk_mul, nI_add, nI_1]; rfl, rfl, rfl, rfl⟩)
set_option maxRecDepth 100000 in
set_option maxHeartbeats 1000000 in
theorem t_mcolourOf (s : Int32) : pm_T cx mX11_colourOf d 0 0 [.int s] sg mu nu (pm_ret (some (.int (if s = 114 then 0 else if s = 119 then 1 else if s = 121 then 2 else if s = 112 then 3 else if s = 63 then 4 else -6))) sg mu nu) := by
  refine pm_enterN 0 (by exact okX11_colourOf) rfl ?_; dsimp only [pm_la, pm_cat2, List.replicate, List.cons_append, List.nil_append, List.append_nil]
  refine pm_go 9999 (by exact okX11_colourOf) rfl ?_; (try dsimp only [pm_st1, pm_st2, pm_cat2, pm_la, Option.toList, List.cons_append, List.nil_append])
  refine pm_ine (by exact okX11_colourOf) rfl (fun h1 => ?_) (fun h1 => ?_)
  · rw [if_neg h1]
    refine pm_go 9999 (by exact okX11_colourOf) rfl ?_; (try dsimp only [pm_st1, pm_st2, pm_cat2, pm_la, Option.toList, List.cons_append, List.nil_append])
    refine pm_ine (by exact okX11_colourOf) rfl (fun h2 => ?_) (fun h2 => ?_)
    · rw [if_neg h2]
      refine pm_go 9999 (by exact okX11_colourOf) rfl ?_; (try dsimp only [pm_st1, pm_st2, pm_cat2, pm_la, Option.toList, List.cons_append, List.nil_append])
      refine pm_ine (by exact okX11_colourOf) rfl (fun h3 => ?_) (fun h3 => ?_)
      · rw [if_neg h3]
        refine pm_go 9999 (by exact okX11_colourOf) rfl ?_; (try dsimp only [pm_st1, pm_st2, pm_cat2, pm_la, Option.toList, List.cons_append, List.nil_append])
        refine pm_ine (by exact okX11_colourOf) rfl (fun h4 => ?_) (fun h4 => ?_)
        · rw [if_neg h4]
          refine pm_go 9999 (by exact okX11_colourOf) rfl ?_; (try dsimp only [pm_st1, pm_st2, pm_cat2, pm_la, Option.toList, List.cons_append, List.nil_append])
          refine pm_ine (by exact okX11_colourOf) rfl (fun h5 => ?_) (fun h5 => ?_)
          · rw [if_neg h5]
            refine pm_go 9999 (by exact okX11_colourOf) rfl ?_; (try dsimp only [pm_st1, pm_st2, pm_cat2, pm_la, Option.toList, List.cons_append, List.nil_append])
            refine pm_ri (by exact okX11_colourOf) rfl rfl rfl (Nat.le_refl _) (Nat.le_refl _) (⟨rfl, rfl, rfl, rfl⟩)
          · rw [if_pos h5]
            refine pm_go 9999 (by exact okX11_colourOf) rfl ?_; (try dsimp only [pm_st1, pm_st2, pm_cat2, pm_la, Option.toList, List.cons_append, List.nil_append])
            refine pm_ri (by exact okX11_colourOf) rfl rfl rfl (Nat.le_refl _) (Nat.le_refl _) (⟨rfl, rfl, rfl, rfl⟩)
        · rw [if_pos h4]
          refine pm_go 9999 (by exact okX11_colourOf) rfl ?_; (try dsimp only [pm_st1, pm_st2, pm_cat2, pm_la, Option.toList, List.cons_append, List.nil_append])
          refine pm_ri (by exact okX11_colourOf) rfl rfl rfl (Nat.le_refl _) (Nat.le_refl _) (⟨rfl, rfl, rfl, rfl⟩)
      · rw [if_pos h3]
        refine pm_go 9999 (by exact okX11_colourOf) rfl ?_; (try dsimp only [pm_st1, pm_st2, pm_cat2, pm_la, Option.toList, List.cons_append, List.nil_append])
        refine pm_ri (by exact okX11_colourOf) rfl rfl rfl (Nat.le_refl _) (Nat.le_refl _) (⟨rfl, rfl, rfl, rfl⟩)
    · rw [if_pos h2]
      refine pm_go 9999 (by exact okX11_colourOf) rfl ?_; (try dsimp only [pm_st1, pm_st2, pm_cat2, pm_la, Option.toList, List.cons_append, List.nil_append])
      refine pm_ri (by exact okX11_colourOf) rfl rfl rfl (Nat.le_refl _) (Nat.le_refl _) (⟨rfl, rfl, rfl, rfl⟩)
  · rw [if_pos h1]
    refine pm_go 9999 (by exact okX11_colourOf) rfl ?_; (try dsimp only [pm_st1, pm_st2, pm_cat2, pm_la, Option.toList, List.cons_append, List.nil_append])
    refine pm_ri (by exact okX11_colourOf) rfl rfl rfl (Nat.le_refl _) (Nat.le_refl _) (⟨rfl, rfl, rfl, rfl⟩)
/-- how many of the first n bits stand -/
def md_bc (s : Nat) : Nat → Nat
  | 0 => 0
  | n + 1 => md_bc s n + s / 2 ^ n % 2
set_option maxRecDepth 100000 in
set_option maxHeartbeats 1000000 in
theorem t_bits_l {Q : pm_Po} {s : Nat} (hs : s < 2 ^ 31) : ∀ (j k : Nat), k + j = 6 → Q (some (.int (nI (md_bc s 6)))) sg mu nu → pm_G cx (mX11_bits, d, 0, 0, n0, Q) 0 0 4 [some (.int (nI s)), some (.int (nI (md_bc s k))), some (.int (nI k))] [] sg mu nu := by
  intro j
  induction j with
  | zero =>
    intro k hk hq
    have hk : k = 6 := by omega
    subst hk
    refine pm_go 9999 (by exact okX11_bits) rfl ?_; (try dsimp only [pm_st1, pm_st2, pm_cat2, pm_la, Option.toList, List.cons_append, List.nil_append])
    refine pm_ige (by exact okX11_bits) rfl (fun h1 => ?_) (fun h1 => ?_)
    · refine pm_go 9999 (by exact okX11_bits) rfl ?_; (try dsimp only [pm_st1, pm_st2, pm_cat2, pm_la, Option.toList, List.cons_append, List.nil_append])
      refine pm_ri (by exact okX11_bits) rfl rfl rfl (Nat.le_refl _) (Nat.le_refl _) (hq)
    · exact absurd (by decide) h1
  | succ j ih =>
    intro k hk hq
    refine pm_go 9999 (by exact okX11_bits) rfl ?_; (try dsimp only [pm_st1, pm_st2, pm_cat2, pm_la, Option.toList, List.cons_append, List.nil_append])
    refine pm_ige (by exact okX11_bits) rfl (fun h1 => ?_) (fun h1 => ?_)
    · exact absurd h1 (nI_ge (a := k) (b := 6) (by omega) (by omega))
    · refine pm_go 4 (by exact okX11_bits) rfl ?_; (try dsimp only [pm_st1, pm_st2, pm_cat2, pm_la, Option.toList, List.cons_append, List.nil_append])
      rw [md_has hs (by omega), nI_add, nI_1]
      exact ih (k + 1) (by omega) hq
set_option maxRecDepth 100000 in
set_option maxHeartbeats 1000000 in
theorem t_bits {s : Nat} (hs : s < 2 ^ 31) : pm_T cx mX11_bits d 0 0 [.int (nI s)] sg mu nu (pm_ret (some (.int (nI (md_bc s 6)))) sg mu nu) := by
  refine pm_enterN 2 (by exact okX11_bits) rfl ?_; dsimp only [pm_la, pm_cat2, List.replicate, List.cons_append, List.nil_append, List.append_nil]
  refine pm_go 4 (by exact okX11_bits) rfl ?_; (try dsimp only [pm_st1, pm_st2, pm_cat2, pm_la, Option.toList, List.cons_append, List.nil_append])
  exact t_bits_l hs 6 0 rfl ⟨rfl, rfl, rfl, rfl⟩
end

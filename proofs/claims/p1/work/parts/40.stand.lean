/-! ===== the class's stands: THE ROW and what has BLOOMED in one number ===== -/
def st_p : List Nat → Nat
  | [] => 0
  | b :: t => st_p t + b * 8 ^ t.length
def st_s : List Nat → Nat
  | [] => 0
  | b :: t => st_s t ||| 2 ^ b
def st_k (r : List Nat) (s : Nat) : Nat := 2 ^ 18 * (2 ^ 6 * s + st_s r) + st_p r
theorem st_p_lt : ∀ (r : List Nat), md_ok r → st_p r < 8 ^ r.length := by
  intro r
  induction r with
  | nil => intro _; decide
  | cons b t ih =>
    intro h
    have h1 := ih (md_ok_t h)
    have h2 := md_ok_h h
    simp only [st_p, List.length_cons, Nat.pow_succ]
    have : b * 8 ^ t.length ≤ 5 * 8 ^ t.length := Nat.mul_le_mul_right _ (by omega)
    omega
theorem st_p_18 {r : List Nat} (h : md_ok r) (hl : r.length ≤ 6) : st_p r < 262144 := by
  have h1 := st_p_lt r h
  have h2 : 8 ^ r.length ≤ 8 ^ 6 := Nat.pow_le_pow_right (by omega) hl
  omega
theorem st_s_lt : ∀ (r : List Nat), md_ok r → st_s r < 64 := by
  intro r
  induction r with
  | nil => intro _; decide
  | cons b t ih => intro h; exact or_lt (ih (md_ok_t h)) (md_ok_h h)
theorem st_s_bit (b : Nat) : ∀ (r : List Nat), (st_s r).testBit b = true ↔ b ∈ r := by
  intro r
  induction r with
  | nil => simp [st_s]
  | cons a t ih =>
    simp only [st_s]
    rw [tb_set, Bool.or_eq_true, ih, decide_eq_true_iff, List.mem_cons]
    constructor
    · rintro (q | q)
      · exact Or.inr q
      · exact Or.inl q.symm
    · rintro (q | q)
      · exact Or.inr q.symm
      · exact Or.inl q
theorem bc_add : ∀ x, x < 64 → ∀ b, b < 6 → x.testBit b = false → md_bc (x ||| 2 ^ b) 6 = md_bc x 6 + 1 := by decide +kernel
theorem st_s_bc : ∀ (r : List Nat), md_ok r → r.Nodup → md_bc (st_s r) 6 = r.length := by
  intro r
  induction r with
  | nil => intro _ _; rfl
  | cons b t ih =>
    intro h hn
    obtain ⟨n1, n2⟩ := List.nodup_cons.mp hn
    simp only [st_s, List.length_cons]
    rw [bc_add _ (st_s_lt t (md_ok_t h)) b (md_ok_h h), ih (md_ok_t h) n2]
    cases hh : (st_s t).testBit b with
    | false => rfl
    | true => exact absurd ((st_s_bit b t).mp hh) n1
theorem st_k_lt {B : Nat} {r : List Nat} {s : Nat} (hR : rOK B r s) (hB : B ≤ 6) : st_k r s < 2 ^ 30 := by
  have h1 := st_p_18 (rOK_ok hR hB) (rOK_len hR hB)
  have h2 := st_s_lt r (rOK_ok hR hB)
  have h3 := rOK_s hR hB
  unfold st_k
  omega
theorem st_row {B : Nat} {r : List Nat} {s : Nat} (hR : rOK B r s) (hB : B ≤ 6) : st_k r s / 2 ^ 18 % 2 ^ 6 = st_s r := by
  have h1 := st_p_18 (rOK_ok hR hB) (rOK_len hR hB)
  have h2 := st_s_lt r (rOK_ok hR hB)
  unfold st_k
  omega
theorem st_blo {B : Nat} {r : List Nat} {s : Nat} (hR : rOK B r s) (hB : B ≤ 6) : st_k r s / 2 ^ 24 % 2 ^ 6 = s := by
  have h1 := st_p_18 (rOK_ok hR hB) (rOK_len hR hB)
  have h2 := st_s_lt r (rOK_ok hR hB)
  have h3 := rOK_s hR hB
  unfold st_k
  omega
theorem ushr_n {n k : Nat} (hn : n < 2 ^ 32) (hk : k < 32) : pm_ushr (nI n) (nI k) = nI (n / 2 ^ k) := pk_ushrN hn (nI k) k (su_ k hk)
theorem and_n {n : Nat} (hn : n < 2 ^ 32) (k : Nat) (hk : k < 31) : nI n &&& nI (2 ^ k - 1) = nI (n % 2 ^ k) := fa_mask n k
section
variable {cx : pm_CX} {d n0 : Nat} {sg : List pm_C} {mu : pm_I} {nu : pm_J}
set_option maxRecDepth 100000 in
set_option maxHeartbeats 1000000 in
theorem t_at {n p : Nat} (hn : n < 2 ^ 31) (hp : p ≤ 8) : pm_T cx mX6_at d 0 0 [.int (nI n), .int (nI p)] sg mu nu (pm_ret (some (.int (nI (n / 2 ^ (3 * p) % 8)))) sg mu nu) := by
  have e : (3 : Int32) * nI p = nI (3 * p) := pk_mul 3 p
  refine pm_enterN 0 (by exact okX6_at) rfl ?_; dsimp only [pm_la, pm_cat2, List.replicate, List.cons_append, List.nil_append, List.append_nil]
  refine pm_go 9999 (by exact okX6_at) rfl ?_; (try dsimp only [pm_st1, pm_st2, pm_cat2, pm_la, Option.toList, List.cons_append, List.nil_append])
  rw [e, ushr_n (by omega) (by omega), show (7 : Int32) = nI (2 ^ 3 - 1) from rfl, fa_mask]
  refine pm_ri (by exact okX6_at) rfl rfl rfl (Nat.le_refl _) (Nat.le_refl _) (⟨rfl, rfl, rfl, rfl⟩)
set_option maxRecDepth 100000 in
set_option maxHeartbeats 1000000 in
theorem t_put6 {b p : Nat} (hb : b * 2 ^ (3 * p) < 2 ^ 32) (hp : p ≤ 8) : pm_T cx mX6_put d 0 0 [.int (nI b), .int (nI p)] sg mu nu (pm_ret (some (.int (nI (b * 2 ^ (3 * p))))) sg mu nu) := by
  have e : (3 : Int32) * nI p = nI (3 * p) := pk_mul 3 p
  refine pm_enterN 0 (by exact okX6_put) rfl ?_; dsimp only [pm_la, pm_cat2, List.replicate, List.cons_append, List.nil_append, List.append_nil]
  refine pm_go 9999 (by exact okX6_put) rfl ?_; (try dsimp only [pm_st1, pm_st2, pm_cat2, pm_la, Option.toList, List.cons_append, List.nil_append])
  rw [e, pk_shlN (n := b) _ (3 * p) (sl_ (3 * p) (by omega)) hb]
  refine pm_ri (by exact okX6_put) rfl rfl rfl (Nat.le_refl _) (Nat.le_refl _) (⟨rfl, rfl, rfl, rfl⟩)
/-- what bitCount does to its number -/
def bit_f (x : Int32) : Int32 :=
  let a := x - (pm_ushr x 1 &&& 1431655765)
  let b := (a &&& 858993459) + (pm_ushr a 2 &&& 858993459)
  let c := b + pm_ushr b 4 &&& 252645135
  let e := c + pm_ushr c 8
  (e + pm_ushr e 16) &&& 63
theorem bit_f_ok : ∀ n, n < 64 → bit_f (nI n) = nI (md_bc n 6) := by decide +kernel
set_option maxRecDepth 100000 in
set_option maxHeartbeats 1000000 in
theorem t_bitCount {n : Nat} (hn : n < 64) : pm_T cx mJ6_bitCount_0f7a4 d 0 0 [.int (nI n)] sg mu nu (pm_ret (some (.int (nI (md_bc n 6)))) sg mu nu) := by
  rw [← bit_f_ok n hn]
  refine pm_enterN 0 (by exact okJ6_bitCount_0f7a4) rfl ?_; dsimp only [pm_la, pm_cat2, List.replicate, List.cons_append, List.nil_append, List.append_nil]
  refine pm_go 9999 (by exact okJ6_bitCount_0f7a4) rfl ?_; (try dsimp only [pm_st1, pm_st2, pm_cat2, pm_la, Option.toList, List.cons_append, List.nil_append])
  refine pm_ri (by exact okJ6_bitCount_0f7a4) rfl rfl rfl (Nat.le_refl _) (Nat.le_refl _) (⟨rfl, rfl, rfl, rfl⟩)
set_option maxRecDepth 100000 in
set_option maxHeartbeats 1000000 in
theorem t_length {B : Nat} {r : List Nat} {s : Nat} (hR : rOK B r s) (hB : B ≤ 6) (hd : 1 ≤ d) : pm_T cx mX8_length d 0 0 [.int (nI (st_k r s))] sg mu nu (pm_ret (some (.int (nI r.length))) sg mu nu) := by
  have hk := st_k_lt hR hB
  have h2 := st_s_lt r (rOK_ok hR hB)
  refine pm_enterN 0 (by exact okX8_length) rfl ?_; dsimp only [pm_la, pm_cat2, List.replicate, List.cons_append, List.nil_append, List.append_nil]
  refine pm_go 9999 (by exact okX8_length) rfl ?_; (try dsimp only [pm_st1, pm_st2, pm_cat2, pm_la, Option.toList, List.cons_append, List.nil_append])
  rw [show (18 : Int32) = nI 18 from rfl, ushr_n (by omega) (by omega), show (63 : Int32) = nI (2 ^ 6 - 1) from rfl, fa_mask, st_row hR hB]
  refine pm_cs (by exact okX8_length) (by exact okJ6_bitCount_0f7a4) rfl (by exact arJ6_bitCount_0f7a4) (t_bitCount (d := 0) h2) rfl (by dsimp only; omega) rfl (Nat.le_of_ble_eq_true rfl) ⟨Nat.zero_le _, Nat.zero_le _⟩ ?_
  rintro _ _ _ _ ⟨rfl, rfl, rfl, rfl⟩ -
  rw [st_s_bc r (rOK_ok hR hB) hR.1]
  refine pm_go 9999 (by exact okX8_length) rfl ?_; (try dsimp only [pm_st1, pm_st2, pm_cat2, pm_la, Option.toList, List.cons_append, List.nil_append])
  refine pm_ri (by exact okX8_length) rfl rfl rfl (Nat.le_refl _) (Nat.le_refl _) (⟨rfl, rfl, rfl, rfl⟩)
set_option maxRecDepth 100000 in
set_option maxHeartbeats 1000000 in
theorem t_numberBloomed {B : Nat} {r : List Nat} {s : Nat} (hR : rOK B r s) (hB : B ≤ 6) (hd : 1 ≤ d) : pm_T cx mX8_numberBloomed d 0 0 [.int (nI (st_k r s))] sg mu nu (pm_ret (some (.int (nI (md_bc s 6)))) sg mu nu) := by
  have hk := st_k_lt hR hB
  have h3 := rOK_s hR hB
  refine pm_enterN 0 (by exact okX8_numberBloomed) rfl ?_; dsimp only [pm_la, pm_cat2, List.replicate, List.cons_append, List.nil_append, List.append_nil]
  refine pm_go 9999 (by exact okX8_numberBloomed) rfl ?_; (try dsimp only [pm_st1, pm_st2, pm_cat2, pm_la, Option.toList, List.cons_append, List.nil_append])
  rw [show (24 : Int32) = nI 24 from rfl, ushr_n (by omega) (by omega), show (63 : Int32) = nI (2 ^ 6 - 1) from rfl, fa_mask, st_blo hR hB]
  refine pm_cs (by exact okX8_numberBloomed) (by exact okJ6_bitCount_0f7a4) rfl (by exact arJ6_bitCount_0f7a4) (t_bitCount (d := 0) h3) rfl (by dsimp only; omega) rfl (Nat.le_of_ble_eq_true rfl) ⟨Nat.zero_le _, Nat.zero_le _⟩ ?_
  rintro _ _ _ _ ⟨rfl, rfl, rfl, rfl⟩ -
  refine pm_go 9999 (by exact okX8_numberBloomed) rfl ?_; (try dsimp only [pm_st1, pm_st2, pm_cat2, pm_la, Option.toList, List.cons_append, List.nil_append])
  refine pm_ri (by exact okX8_numberBloomed) rfl rfl rfl (Nat.le_refl _) (Nat.le_refl _) (⟨rfl, rfl, rfl, rfl⟩)
set_option maxRecDepth 100000 in
set_option maxHeartbeats 1000000 in
theorem t_bedAt {n p : Nat} (hn : n < 2 ^ 31) (hp : p ≤ 8) (hd : 1 ≤ d) : pm_T cx mX8_bedAt d 0 0 [.int (nI n), .int (nI p)] sg mu nu (pm_ret (some (.int (nI (n / 2 ^ (3 * p) % 8)))) sg mu nu) := by
  refine pm_enterN 0 (by exact okX8_bedAt) rfl ?_; dsimp only [pm_la, pm_cat2, List.replicate, List.cons_append, List.nil_append, List.append_nil]
  refine pm_go 9999 (by exact okX8_bedAt) rfl ?_; (try dsimp only [pm_st1, pm_st2, pm_cat2, pm_la, Option.toList, List.cons_append, List.nil_append])
  refine pm_cs (by exact okX8_bedAt) (by exact okX6_at) rfl (by exact arX6_at) (t_at (d := 0) hn hp) rfl (by dsimp only; omega) rfl (Nat.le_of_ble_eq_true rfl) ⟨Nat.zero_le _, Nat.zero_le _⟩ ?_
  rintro _ _ _ _ ⟨rfl, rfl, rfl, rfl⟩ -
  refine pm_go 9999 (by exact okX8_bedAt) rfl ?_; (try dsimp only [pm_st1, pm_st2, pm_cat2, pm_la, Option.toList, List.cons_append, List.nil_append])
  refine pm_ri (by exact okX8_bedAt) rfl rfl rfl (Nat.le_refl _) (Nat.le_refl _) (⟨rfl, rfl, rfl, rfl⟩)
theorem st_bit {n a b : Nat} (hn : n < 2 ^ 31) (hab : a + b < 31) : pm_ushr (nI n) (nI a + nI b) &&& 1 = bI (n.testBit (a + b) = true) := by
  rw [nI_add, ushr_n (by omega) (by omega), show (1 : Int32) = nI (2 ^ 1 - 1) from rfl, fa_mask]
  rw [Nat.testBit_eq_decide_div_mod_eq]
  show nI (n / 2 ^ (a + b) % 2) = bI (decide (n / 2 ^ (a + b) % 2 = 1) = true)
  have h2 : n / 2 ^ (a + b) % 2 < 2 := Nat.mod_lt _ (by omega)
  generalize n / 2 ^ (a + b) % 2 = x at h2 ⊢
  rcases (show x = 0 ∨ x = 1 by omega) with rfl | rfl <;> rfl
theorem st_k_row {B : Nat} {r : List Nat} {s b : Nat} (hR : rOK B r s) (hB : B ≤ 6) (hb : b < 6) : (st_k r s).testBit (18 + b) = true ↔ b ∈ r := by
  have h1 := st_p_18 (rOK_ok hR hB) (rOK_len hR hB)
  rw [← st_s_bit b r, ← st_row hR hB, Nat.testBit_mod_two_pow, Nat.testBit_div_two_pow]
  simp [hb]
  rw [Nat.add_comm]
theorem st_k_blo {B : Nat} {r : List Nat} {s b : Nat} (hR : rOK B r s) (hB : B ≤ 6) (hb : b < 6) : (st_k r s).testBit (24 + b) = true ↔ s.testBit b = true := by
  conv => rhs; rw [← st_blo hR hB, Nat.testBit_mod_two_pow, Nat.testBit_div_two_pow]
  simp [hb]
  rw [Nat.add_comm]
set_option maxRecDepth 100000 in
set_option maxHeartbeats 1000000 in
theorem t_isInRow {B : Nat} {r : List Nat} {s b : Nat} (hR : rOK B r s) (hB : B ≤ 6) (hb : b < 6) : pm_T cx mX8_isInRow d 0 0 [.int (nI (st_k r s)), .int (nI b)] sg mu nu (pm_ret (some (.int (bI (b ∈ r)))) sg mu nu) := by
  have hk := st_k_lt hR hB
  have e := st_bit (n := st_k r s) (a := 18) (b := b) (by omega) (by omega)
  have e2 := st_k_row hR hB hb
  refine pm_enterN 0 (by exact okX8_isInRow) rfl ?_; dsimp only [pm_la, pm_cat2, List.replicate, List.cons_append, List.nil_append, List.append_nil]
  refine pm_go 9999 (by exact okX8_isInRow) rfl ?_; (try dsimp only [pm_st1, pm_st2, pm_cat2, pm_la, Option.toList, List.cons_append, List.nil_append])
  rw [show (18 : Int32) = nI 18 from rfl, e, bI_c e2]
  refine pm_ine (by exact okX8_isInRow) rfl (fun h1 => ?_) (fun h1 => ?_)
  · have h2 : ¬ b ∈ r := fun q => h1 (bI_1 q)
    refine pm_go 9999 (by exact okX8_isInRow) rfl ?_; (try dsimp only [pm_st1, pm_st2, pm_cat2, pm_la, Option.toList, List.cons_append, List.nil_append])
    refine pm_ri (by exact okX8_isInRow) rfl rfl rfl (Nat.le_refl _) (Nat.le_refl _) (⟨by rw [bI_0 h2], rfl, rfl, rfl⟩)
  · have h2 : b ∈ r := by
      by_cases q : b ∈ r
      · exact q
      · rw [bI_0 q] at h1; exact absurd h1 (by decide)
    refine pm_go 9999 (by exact okX8_isInRow) rfl ?_; (try dsimp only [pm_st1, pm_st2, pm_cat2, pm_la, Option.toList, List.cons_append, List.nil_append])
    refine pm_ri (by exact okX8_isInRow) rfl rfl rfl (Nat.le_refl _) (Nat.le_refl _) (⟨by rw [bI_1 h2], rfl, rfl, rfl⟩)
set_option maxRecDepth 100000 in
set_option maxHeartbeats 1000000 in
theorem t_hasBloomed {B : Nat} {r : List Nat} {s b : Nat} (hR : rOK B r s) (hB : B ≤ 6) (hb : b < 6) : pm_T cx mX8_hasBloomed d 0 0 [.int (nI (st_k r s)), .int (nI b)] sg mu nu (pm_ret (some (.int (bI (s.testBit b = true)))) sg mu nu) := by
  have hk := st_k_lt hR hB
  have e := st_bit (n := st_k r s) (a := 24) (b := b) (by omega) (by omega)
  have e2 := st_k_blo hR hB hb
  refine pm_enterN 0 (by exact okX8_hasBloomed) rfl ?_; dsimp only [pm_la, pm_cat2, List.replicate, List.cons_append, List.nil_append, List.append_nil]
  refine pm_go 9999 (by exact okX8_hasBloomed) rfl ?_; (try dsimp only [pm_st1, pm_st2, pm_cat2, pm_la, Option.toList, List.cons_append, List.nil_append])
  rw [show (24 : Int32) = nI 24 from rfl, e, bI_c e2]
  refine pm_ine (by exact okX8_hasBloomed) rfl (fun h1 => ?_) (fun h1 => ?_)
  · have h2 : ¬ s.testBit b = true := fun q => h1 (bI_1 q)
    refine pm_go 9999 (by exact okX8_hasBloomed) rfl ?_; (try dsimp only [pm_st1, pm_st2, pm_cat2, pm_la, Option.toList, List.cons_append, List.nil_append])
    refine pm_ri (by exact okX8_hasBloomed) rfl rfl rfl (Nat.le_refl _) (Nat.le_refl _) (⟨by rw [bI_0 h2], rfl, rfl, rfl⟩)
  · have h2 : s.testBit b = true := by
      by_cases q : s.testBit b = true
      · exact q
      · rw [bI_0 q] at h1; exact absurd h1 (by decide)
    refine pm_go 9999 (by exact okX8_hasBloomed) rfl ?_; (try dsimp only [pm_st1, pm_st2, pm_cat2, pm_la, Option.toList, List.cons_append, List.nil_append])
    refine pm_ri (by exact okX8_hasBloomed) rfl rfl rfl (Nat.le_refl _) (Nat.le_refl _) (⟨by rw [bI_1 h2], rfl, rfl, rfl⟩)
/-- a place of THE ROW -/
theorem st_p_app : ∀ (u v : List Nat), st_p (u ++ v) = st_p v + 8 ^ v.length * st_p u := by
  intro u v
  induction u with
  | nil => simp [st_p]
  | cons b t ih =>
    simp only [List.cons_append, st_p, List.length_append]
    rw [ih, Nat.pow_add, Nat.mul_add]
    have : b * (8 ^ t.length * 8 ^ v.length) = 8 ^ v.length * (b * 8 ^ t.length) := by
      rw [Nat.mul_comm (8 ^ t.length), ← Nat.mul_assoc, ← Nat.mul_assoc, Nat.mul_comm b]
    omega
theorem st_at {B p : Nat} {r : List Nat} {s : Nat} (hR : rOK B r s) (hB : B ≤ 6) (hp : p < r.length) : st_k r s / 2 ^ (3 * p) % 8 = r.getD (r.length - 1 - p) 0 := by
  have hok := rOK_ok hR hB
  have hln := rOK_len hR hB
  have hlt : r.length - 1 - p < r.length := by omega
  obtain ⟨u, x, v, hr, hv⟩ : ∃ u x v, r = u ++ x :: v ∧ v.length = p := by
    refine ⟨r.take (r.length - 1 - p), r[r.length - 1 - p], r.drop (r.length - 1 - p + 1), ?_, by rw [List.length_drop]; omega⟩
    rw [← List.drop_eq_getElem_cons hlt, List.take_append_drop]
  have hx : x < 6 := hok x (by rw [hr]; simp)
  have hul : u.length = r.length - 1 - p := by rw [hr, List.length_append, List.length_cons]; omega
  have hget : r.getD (r.length - 1 - p) 0 = x := by
    rw [← hul, List.getD_eq_getElem?_getD]
    conv => lhs; rw [hr]
    simp
  have hvok : md_ok v := fun y hy => hok y (by rw [hr]; simp [hy])
  have hvl := st_p_lt v hvok
  rw [hget]
  have e8 : 2 ^ (3 * p) = 8 ^ p := by rw [Nat.pow_mul]
  have ep : st_p r = st_p v + 8 ^ p * (x + 8 * st_p u) := by
    rw [hr, st_p_app, List.length_cons, hv]
    simp only [st_p]
    rw [hv, Nat.pow_succ, Nat.mul_add, Nat.mul_comm x, Nat.mul_assoc]
    omega
  have e18 : (2 : Nat) ^ 18 = 8 ^ p * (8 * 8 ^ (5 - p)) := by
    rw [← Nat.mul_assoc, Nat.mul_comm (8 ^ p), Nat.mul_assoc, ← Nat.pow_add, show p + (5 - p) = 5 by omega]
  unfold st_k
  rw [e8, ep, e18]
  rw [hv] at hvl
  have hpos : 0 < 8 ^ p := Nat.pow_pos (by omega)
  have key : 8 ^ p * (8 * 8 ^ (5 - p)) * (2 ^ 6 * s + st_s r) + (st_p v + 8 ^ p * (x + 8 * st_p u)) = st_p v + 8 ^ p * (x + 8 * (8 ^ (5 - p) * (2 ^ 6 * s + st_s r) + st_p u)) := by
    rw [Nat.mul_assoc, Nat.mul_assoc 8]
    rw [Nat.mul_add 8 (8 ^ (5 - p) * (2 ^ 6 * s + st_s r)) (st_p u), ← Nat.add_assoc x, Nat.mul_add (8 ^ p) x, Nat.mul_add (8 ^ p) (x + _), Nat.mul_add (8 ^ p) x]
    omega
  rw [key, Nat.add_mul_div_left _ _ hpos, Nat.div_eq_of_lt hvl, Nat.zero_add, Nat.add_mul_mod_self_left, Nat.mod_eq_of_lt (by omega)]
end

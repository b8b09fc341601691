/-! ===== stands: watered, rained, afterBloom ===== -/
theorem st_add {B : Nat} {t : List Nat} {s b : Nat} (hR : rOK B t s) (hR2 : rOK B (b :: t) s) (hB : B ≤ 6) : st_k t s ||| (b * 2 ^ (3 * t.length) ||| 2 ^ (18 + b)) = st_k (b :: t) s := by
  have hok := rOK_ok hR2 hB
  have hb : b < 6 := hok b List.mem_cons_self
  have hln := rOK_len hR2 hB
  have hlt := st_p_lt t (rOK_ok hR hB)
  have e8 : 2 ^ (3 * t.length) = 8 ^ t.length := by rw [Nat.pow_mul]
  have ep : st_p (b :: t) = st_p t ||| b * 2 ^ (3 * t.length) := by
    rw [Nat.or_comm, Nat.mul_comm, ← Nat.two_pow_add_eq_or_of_lt (by rw [e8]; exact hlt), e8]
    simp only [st_p]
    rw [Nat.mul_comm b]
    omega
  have hp18 := st_p_18 hok hln
  apply Nat.eq_of_testBit_eq
  intro i
  rw [Nat.testBit_or, Nat.testBit_or, st_k_bit hR hB, st_k_bit hR2 hB, ep, Nat.testBit_or, Nat.testBit_two_pow]
  have hi : 18 ≤ i → (b * 2 ^ (3 * t.length)).testBit i = false := fun h => by
    have h1 := st_p_hi hR2 hB h
    rw [ep, Nat.testBit_or, Bool.or_eq_false_iff] at h1
    exact h1.2
  by_cases h : i < 18
  · rw [if_pos h, if_pos h, decide_eq_false (show ¬ 18 + b = i by omega), Bool.or_false]
  · rw [if_neg h, if_neg h, hi (by omega), Bool.false_or]
    by_cases h2 : i - 18 < 6
    · rw [if_pos h2, if_pos h2]
      simp only [st_s]
      rw [tb_set]
      congr 1
      exact decide_eq_decide.mpr (by omega)
    · rw [if_neg h2, if_neg h2, decide_eq_false (show ¬ 18 + b = i by omega), Bool.or_false]
theorem st_blm {B : Nat} {t : List Nat} {s b : Nat} (hR : rOK B t s) (hR2 : rOK B t (s ||| 2 ^ b)) (hB : B ≤ 6) : st_k t s ||| 2 ^ (24 + b) = st_k t (s ||| 2 ^ b) := by
  apply Nat.eq_of_testBit_eq
  intro i
  rw [Nat.testBit_or, st_k_bit hR hB, st_k_bit hR2 hB, Nat.testBit_two_pow]
  by_cases h : i < 18
  · rw [if_pos h, if_pos h, decide_eq_false (show ¬ 24 + b = i by omega), Bool.or_false]
  · rw [if_neg h, if_neg h]
    by_cases h2 : i - 18 < 6
    · rw [if_pos h2, if_pos h2, decide_eq_false (show ¬ 24 + b = i by omega), Bool.or_false]
    · rw [if_neg h2, if_neg h2, tb_set]
      congr 1
      exact decide_eq_decide.mpr (by omega)
theorem st_spl {u v : List Nat} {x : Nat} (h : (u ++ x :: v).Nodup) : (u ++ x :: v).filter (fun y => y != x) = u ++ v := by
  rw [List.nodup_append] at h
  obtain ⟨n1, n2, n3⟩ := h
  obtain ⟨n4, n5⟩ := List.nodup_cons.mp n2
  rw [List.filter_append, List.filter_cons]
  simp only [bne_self_eq_false, Bool.false_eq_true, if_false]
  rw [List.filter_eq_self.mpr, List.filter_eq_self.mpr]
  · intro y hy
    simp only [bne_iff_ne]
    exact fun q => n4 (q ▸ hy)
  · intro y hy
    simp only [bne_iff_ne]
    exact n3 y hy x List.mem_cons_self
/-- a place of THE ROW splits it -/
theorem st_at_spl {r : List Nat} {p : Nat} (hp : p < r.length) : ∃ u x v, r = u ++ x :: v ∧ v.length = p ∧ u.length = r.length - 1 - p ∧ r.getD (r.length - 1 - p) 0 = x := by
  have hlt : r.length - 1 - p < r.length := by omega
  refine ⟨r.take (r.length - 1 - p), r[r.length - 1 - p], r.drop (r.length - 1 - p + 1), ?_, by rw [List.length_drop]; omega, by rw [List.length_take]; omega, ?_⟩
  · rw [← List.drop_eq_getElem_cons hlt, List.take_append_drop]
  · rw [List.getD_eq_getElem?_getD, List.getElem?_eq_getElem hlt, Option.getD_some]
theorem rOK_out {B : Nat} {r : List Nat} {s : Nat} (hR : rOK B r s) (p : Nat → Bool) : rOK B (r.filter p) s := ⟨hR.1.sublist List.filter_sublist, fun b hb => hR.2.1 b (List.mem_filter.mp hb).1, hR.2.2⟩
theorem rOK_nil {B : Nat} {s : Nat} (h : s < 2 ^ B) : rOK B [] s := ⟨List.nodup_nil, fun b hb => absurd hb (by simp), h⟩
section
variable {cx : pm_CX} {d n0 : Nat} {sg : List pm_C} {mu : pm_I} {nu : pm_J}
set_option maxRecDepth 100000 in
set_option maxHeartbeats 1000000 in
theorem t_wateredX_e {Q : pm_Po} {B : Nat} {r : List Nat} {s b : Nat} {x0 : Int32} (hR : rOK B r s) (hR2 : rOK B (b :: r) s) (hB : B ≤ 6) (hd : 2 ≤ d) (hq : Q (some (.int (nI (st_k (b :: r) s)))) sg mu nu) : pm_G cx (mX8_watered, d, 0, 0, n0, Q) 0 0 22 [some (.int x0), some (.int (nI b)), some (.int (nI (st_k r s)))] [] sg mu nu := by
  have hok := rOK_ok hR2 hB
  have hb : b < 6 := hok b List.mem_cons_self
  have hln := rOK_len hR2 hB
  have hlen : r.length + 1 ≤ 6 := by simpa using hln
  have h8 : 2 ^ (3 * r.length) ≤ 2 ^ 15 := Nat.pow_le_pow_right (by omega) (by omega)
  have hb32 : b * 2 ^ (3 * r.length) < 2 ^ 32 := by
    have := Nat.mul_le_mul (show b ≤ 5 by omega) h8
    omega
  refine pm_go 9999 (by exact okX8_watered) rfl ?_; (try dsimp only [pm_st1, pm_st2, pm_cat2, pm_la, Option.toList, List.cons_append, List.nil_append])
  refine pm_cs (by exact okX8_watered) (by exact okX8_length) rfl (by exact arX8_length) (t_length (d := 1) hR hB (by omega)) rfl (by dsimp only; omega) rfl (Nat.le_of_ble_eq_true rfl) ⟨Nat.zero_le _, Nat.zero_le _⟩ ?_
  rintro _ _ _ _ ⟨rfl, rfl, rfl, rfl⟩ -
  refine pm_cs (by exact okX8_watered) (by exact okX6_put) rfl (by exact arX6_put) (t_put6 (d := 0) (b := b) (p := r.length) hb32 (by omega)) rfl (by dsimp only; omega) rfl (Nat.le_of_ble_eq_true rfl) ⟨Nat.zero_le _, Nat.zero_le _⟩ ?_
  rintro _ _ _ _ ⟨rfl, rfl, rfl, rfl⟩ -
  refine pm_go 9999 (by exact okX8_watered) rfl ?_; (try dsimp only [pm_st1, pm_st2, pm_cat2, pm_la, Option.toList, List.cons_append, List.nil_append])
  rw [show (18 : Int32) + nI b = nI (18 + b) by rw [show (18 : Int32) = nI 18 from rfl, nI_add], nI_shl1 (by omega), nI_or, nI_or, Nat.or_assoc, st_add hR hR2 hB]
  refine pm_ri (by exact okX8_watered) rfl rfl rfl (Nat.le_refl _) (Nat.le_refl _) (hq)
set_option maxRecDepth 100000 in
set_option maxHeartbeats 1000000 in
theorem t_wateredX {B : Nat} {r : List Nat} {s b : Nat} (hR : rOK B r s) (hB : B ≤ 6) (hb : b < B) (hs : ¬ s.testBit b = true) (hd : 3 ≤ d) : pm_T cx mX8_watered d 0 0 [.int (nI (st_k r s)), .int (nI b)] sg mu nu (pm_ret (some (.int (nI (st_k (b :: r.filter (fun x => x != b)) s)))) sg mu nu) := by
  have hR2 := rOK_water hR hb hs
  have hR3 := rOK_out hR (fun x => x != b)
  refine pm_enterN 1 (by exact okX8_watered) rfl ?_; dsimp only [pm_la, pm_cat2, List.replicate, List.cons_append, List.nil_append, List.append_nil]
  refine pm_go 9999 (by exact okX8_watered) rfl ?_; (try dsimp only [pm_st1, pm_st2, pm_cat2, pm_la, Option.toList, List.cons_append, List.nil_append])
  refine pm_cs (by exact okX8_watered) (by exact okX8_isInRow) rfl (by exact arX8_isInRow) (t_isInRow (d := 0) hR hB (by omega)) rfl (by dsimp only; omega) rfl (Nat.le_of_ble_eq_true rfl) ⟨Nat.zero_le _, Nat.zero_le _⟩ ?_
  rintro _ _ _ _ ⟨rfl, rfl, rfl, rfl⟩ -
  refine pm_go 9999 (by exact okX8_watered) rfl ?_; (try dsimp only [pm_st1, pm_st2, pm_cat2, pm_la, Option.toList, List.cons_append, List.nil_append])
  refine pm_zeq (by exact okX8_watered) rfl (fun h1 => ?_) (fun h1 => ?_)
  · have h1 := bI_z.mp h1
    have e : r.filter (fun x => x != b) = r := List.filter_eq_self.mpr (fun y hy => by simp only [bne_iff_ne]; exact fun q => h1 (q ▸ hy))
    refine pm_go 22 (by exact okX8_watered) rfl ?_; (try dsimp only [pm_st1, pm_st2, pm_cat2, pm_la, Option.toList, List.cons_append, List.nil_append])
    rw [e] at hR2 hR3 ⊢
    exact t_wateredX_e hR hR2 hB (by omega) ⟨rfl, rfl, rfl, rfl⟩
  · have h1 : b ∈ r := bI_n.mp h1
    refine pm_go 9999 (by exact okX8_watered) rfl ?_; (try dsimp only [pm_st1, pm_st2, pm_cat2, pm_la, Option.toList, List.cons_append, List.nil_append])
    refine pm_cs (by exact okX8_watered) (by exact okX8_placeOf) rfl (by exact arX8_placeOf) (t_placeOf (d := 2) hR hB h1 (by omega)) rfl (by dsimp only; omega) rfl (Nat.le_of_ble_eq_true rfl) ⟨Nat.zero_le _, Nat.zero_le _⟩ ?_
    rintro _ _ _ _ ⟨⟨p, hp, hg, rfl⟩, rfl, rfl, rfl⟩ -
    obtain ⟨u, x, v, er, ev, eu, ex⟩ := st_at_spl hp
    have exb : x = b := ex.symm.trans hg
    subst exb
    have efil : r.filter (fun y => y != x) = u ++ v := by
      rw [er]
      exact st_spl (er ▸ hR.1)
    rw [efil] at hR2 hR3 ⊢
    rw [er] at hR
    rw [er, ← ev]
    refine pm_cs (by exact okX8_watered) (by exact okX8_without) rfl (by exact arX8_without) (t_withoutX (d := 1) hR hR3 hB (by omega)) rfl (by dsimp only; omega) rfl (Nat.le_of_ble_eq_true rfl) ⟨Nat.zero_le _, Nat.zero_le _⟩ ?_
    rintro _ _ _ _ ⟨rfl, rfl, rfl, rfl⟩ -
    refine pm_go 22 (by exact okX8_watered) rfl ?_; (try dsimp only [pm_st1, pm_st2, pm_cat2, pm_la, Option.toList, List.cons_append, List.nil_append])
    exact t_wateredX_e hR3 hR2 hB (by omega) ⟨rfl, rfl, rfl, rfl⟩
set_option maxRecDepth 100000 in
set_option maxHeartbeats 1000000 in
theorem t_afterBloom {B : Nat} {r : List Nat} {s p x : Nat} (hR : rOK B r s) (hB : B ≤ 6) (hp : p < r.length) (hx : r.getD (r.length - 1 - p) 0 = x) (hd : 2 ≤ d) : pm_T cx mX8_afterBloom d 0 0 [.int (nI (st_k r s)), .int (nI p)] sg mu nu (pm_ret (some (.int (nI (st_k (r.filter (fun y => y != x)) (s ||| 2 ^ x))))) sg mu nu) := by
  have hk := st_k_lt hR hB
  have hln := rOK_len hR hB
  have hat := st_at hR hB hp
  obtain ⟨u, y, v, er, ev, eu, ey⟩ := st_at_spl hp
  have eyx : y = x := ey.symm.trans hx
  subst eyx
  have hmem : y ∈ r := by rw [er]; simp
  have hy6 := rOK_ok hR hB y hmem
  have hR2 := rOK_bloom hR hmem
  have hR3 := rOK_out hR (fun x => x != y)
  have efil : r.filter (fun z => z != y) = u ++ v := by
    rw [er]
    exact st_spl (er ▸ hR.1)
  have hfin := st_blm hR3 hR2 hB
  rw [hx] at hat
  refine pm_enterN 0 (by exact okX8_afterBloom) rfl ?_; dsimp only [pm_la, pm_cat2, List.replicate, List.cons_append, List.nil_append, List.append_nil]
  refine pm_go 9999 (by exact okX8_afterBloom) rfl ?_; (try dsimp only [pm_st1, pm_st2, pm_cat2, pm_la, Option.toList, List.cons_append, List.nil_append])
  have hc : pm_T cx mX8_without 1 0 0 [.int (nI (st_k r s)), .int (nI p)] sg mu nu (pm_ret (some (.int (nI (st_k (r.filter (fun z => z != y)) s)))) sg mu nu) := by
    rw [efil] at hR3 ⊢
    rw [er, ← ev]
    exact t_withoutX (er ▸ hR) hR3 hB (by omega)
  refine pm_cs (by exact okX8_afterBloom) (by exact okX8_without) rfl (by exact arX8_without) (hc) rfl (by dsimp only; omega) rfl (Nat.le_of_ble_eq_true rfl) ⟨Nat.zero_le _, Nat.zero_le _⟩ ?_
  rintro _ _ _ _ ⟨rfl, rfl, rfl, rfl⟩ -
  refine pm_go 9999 (by exact okX8_afterBloom) rfl ?_; (try dsimp only [pm_st1, pm_st2, pm_cat2, pm_la, Option.toList, List.cons_append, List.nil_append])
  refine pm_cs (by exact okX8_afterBloom) (by exact okX8_bedAt) rfl (by exact arX8_bedAt) (t_bedAt (d := 1) (n := st_k r s) (p := p) (by omega) (by omega) (by omega)) rfl (by dsimp only; omega) rfl (Nat.le_of_ble_eq_true rfl) ⟨Nat.zero_le _, Nat.zero_le _⟩ ?_
  rintro _ _ _ _ ⟨rfl, rfl, rfl, rfl⟩ -
  rw [hat]
  refine pm_go 9999 (by exact okX8_afterBloom) rfl ?_; (try dsimp only [pm_st1, pm_st2, pm_cat2, pm_la, Option.toList, List.cons_append, List.nil_append])
  rw [show (24 : Int32) + nI y = nI (24 + y) by rw [show (24 : Int32) = nI 24 from rfl, nI_add], nI_shl1 (by omega), nI_or, hfin]
  refine pm_ri (by exact okX8_afterBloom) rfl rfl rfl (Nat.le_refl _) (Nat.le_refl _) (⟨rfl, rfl, rfl, rfl⟩)
theorem gd_rn_s {s n : Nat} : gd_rn s (n + 1) = if s.testBit n = true then gd_rn s n else n :: gd_rn s n := rfl
theorem rOK_rn {B k s : Nat} (hk : k ≤ B) (h : s < 2 ^ B) : rOK B (gd_rn s k) s := ⟨gd_rn_nd s k, fun b hb => ⟨by have := ((gd_rn_mem s k b).mp hb).1; omega, by simpa using ((gd_rn_mem s k b).mp hb).2⟩, h⟩
set_option maxRecDepth 100000 in
set_option maxHeartbeats 1000000 in
theorem t_rainedX_l {Q : pm_Po} {B : Nat} {r : List Nat} {s : Nat} (hR : rOK B r s) (hB : B ≤ 6) (hd : 1 ≤ d) : ∀ (j k : Nat), k + j = B → Q (some (.int (nI (st_k (gd_rn s B) s)))) sg mu nu → pm_G cx (mX8_rained, d, 0, 0, n0, Q) 0 0 10 [some (.int (nI (st_k r s))), some (.int (nI B)), some (.int (nI (st_k (gd_rn s k) s))), some (.int (nI (gd_rn s k).length)), some (.int (nI k))] [] sg mu nu := by
  intro j
  induction j with
  | zero =>
    intro k hk hq
    have hk : k = B := by omega
    subst hk
    refine pm_go 9999 (by exact okX8_rained) rfl ?_; (try dsimp only [pm_st1, pm_st2, pm_cat2, pm_la, Option.toList, List.cons_append, List.nil_append])
    refine pm_ige (by exact okX8_rained) rfl (fun h1 => ?_) (fun h1 => ?_)
    · refine pm_go 9999 (by exact okX8_rained) rfl ?_; (try dsimp only [pm_st1, pm_st2, pm_cat2, pm_la, Option.toList, List.cons_append, List.nil_append])
      refine pm_ri (by exact okX8_rained) rfl rfl rfl (Nat.le_refl _) (Nat.le_refl _) (hq)
    · exact absurd (nI_le (by omega) (by omega)) h1
  | succ j ih =>
    intro k hk hq
    refine pm_go 9999 (by exact okX8_rained) rfl ?_; (try dsimp only [pm_st1, pm_st2, pm_cat2, pm_la, Option.toList, List.cons_append, List.nil_append])
    refine pm_ige (by exact okX8_rained) rfl (fun h1 => ?_) (fun h1 => ?_)
    · exact absurd h1 (nI_ge (by omega) (by omega))
    · refine pm_go 9999 (by exact okX8_rained) rfl ?_; (try dsimp only [pm_st1, pm_st2, pm_cat2, pm_la, Option.toList, List.cons_append, List.nil_append])
      refine pm_cs (by exact okX8_rained) (by exact okX8_hasBloomed) rfl (by exact arX8_hasBloomed) (t_hasBloomed (d := 0) hR hB (by omega)) rfl (by dsimp only; omega) rfl (Nat.le_of_ble_eq_true rfl) ⟨Nat.zero_le _, Nat.zero_le _⟩ ?_
      rintro _ _ _ _ ⟨rfl, rfl, rfl, rfl⟩ -
      refine pm_go 9999 (by exact okX8_rained) rfl ?_; (try dsimp only [pm_st1, pm_st2, pm_cat2, pm_la, Option.toList, List.cons_append, List.nil_append])
      refine pm_zne (by exact okX8_rained) rfl (fun h2 => ?_) (fun h2 => ?_)
      · have h2 := bI_n.mp h2
        refine pm_go 10 (by exact okX8_rained) rfl ?_; (try dsimp only [pm_st1, pm_st2, pm_cat2, pm_la, Option.toList, List.cons_append, List.nil_append])
        rw [nI_1]
        refine (ih (k + 1) (by omega) hq).cast ?_ rfl rfl rfl
        rw [gd_rn_s, if_pos h2]
      · have h2 := bI_z.mp h2
        have e : gd_rn s (k + 1) = k :: gd_rn s k := by rw [gd_rn_s, if_neg h2]
        have hR1 := rOK_rn (k := k) (s := s) (by omega) hR.2.2
        have hR2 := rOK_rn (k := k + 1) (s := s) (by omega) hR.2.2
        have hl := rOK_len hR2 hB
        rw [e, List.length_cons] at hl
        rw [e] at hR2
        have h8 : 2 ^ (3 * (gd_rn s k).length) ≤ 2 ^ 15 := Nat.pow_le_pow_right (by omega) (by omega)
        have hb32 : k * 2 ^ (3 * (gd_rn s k).length) < 2 ^ 32 := by
          have := Nat.mul_le_mul (show k ≤ 5 by omega) h8
          omega
        refine pm_go 9999 (by exact okX8_rained) rfl ?_; (try dsimp only [pm_st1, pm_st2, pm_cat2, pm_la, Option.toList, List.cons_append, List.nil_append])
        refine pm_cs (by exact okX8_rained) (by exact okX6_put) rfl (by exact arX6_put) (t_put6 (d := 0) (b := k) (p := (gd_rn s k).length) hb32 (by omega)) rfl (by dsimp only; omega) rfl (Nat.le_of_ble_eq_true rfl) ⟨Nat.zero_le _, Nat.zero_le _⟩ ?_
        rintro _ _ _ _ ⟨rfl, rfl, rfl, rfl⟩ -
        refine pm_go 10 (by exact okX8_rained) rfl ?_; (try dsimp only [pm_st1, pm_st2, pm_cat2, pm_la, Option.toList, List.cons_append, List.nil_append])
        rw [show (18 : Int32) + nI k = nI (18 + k) by rw [show (18 : Int32) = nI 18 from rfl, nI_add], nI_shl1 (by omega), nI_or, nI_or, st_add hR1 hR2 hB, nI_1, nI_1]
        refine (ih (k + 1) (by omega) hq).cast ?_ rfl rfl rfl
        rw [e, List.length_cons]
set_option maxRecDepth 100000 in
set_option maxHeartbeats 1000000 in
theorem t_rainedX {B : Nat} {r : List Nat} {s : Nat} (hR : rOK B r s) (hB : B ≤ 6) (hd : 1 ≤ d) : pm_T cx mX8_rained d 0 0 [.int (nI (st_k r s)), .int (nI B)] sg mu nu (pm_ret (some (.int (nI (st_k (gd_rn s B) s)))) sg mu nu) := by
  have e : nI (st_k r s) &&& 1056964608 = nI (st_k (gd_rn s 0) s) := by
    rw [show (1056964608 : Int32) = nI (63 * 2 ^ 24) from rfl, fa_and]
    congr 1
    apply Nat.eq_of_testBit_eq
    intro i
    have hR0 : rOK B [] s := rOK_nil hR.2.2
    have hs := rOK_s hR hB
    rw [Nat.testBit_and, st_k_bit hR hB, show gd_rn s 0 = [] from rfl, st_k_bit hR0 hB, Nat.testBit_mul_two_pow, show (63 : Nat) = 2 ^ 6 - 1 from rfl, Nat.testBit_two_pow_sub_one]
    by_cases h : i < 18
    · rw [if_pos h, if_pos h, decide_eq_false (show ¬ i ≥ 24 by omega)]
      simp [st_p]
    · rw [if_neg h, if_neg h]
      by_cases h2 : i - 18 < 6
      · rw [if_pos h2, if_pos h2, decide_eq_false (show ¬ i ≥ 24 by omega)]
        simp [st_s]
      · rw [if_neg h2, if_neg h2, decide_eq_true (show i ≥ 24 by omega), Bool.true_and]
        by_cases h3 : i - 24 < 6
        · rw [decide_eq_true h3, Bool.and_true]
        · rw [decide_eq_false h3, Bool.and_false]
          exact (Nat.testBit_lt_two_pow (Nat.lt_of_lt_of_le hs (Nat.pow_le_pow_right (n := 2) (i := 6) (by omega) (by omega)))).symm
  refine pm_enterN 3 (by exact okX8_rained) rfl ?_; dsimp only [pm_la, pm_cat2, List.replicate, List.cons_append, List.nil_append, List.append_nil]
  refine pm_go 10 (by exact okX8_rained) rfl ?_; (try dsimp only [pm_st1, pm_st2, pm_cat2, pm_la, Option.toList, List.cons_append, List.nil_append])
  rw [e]
  exact t_rainedX_l hR hB hd B 0 (by omega) ⟨rfl, rfl, rfl, rfl⟩
end

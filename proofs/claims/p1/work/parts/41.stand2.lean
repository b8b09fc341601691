/-! ===== stands: writes ===== -/
theorem st_k_bit {B : Nat} {r : List Nat} {s : Nat} (hR : rOK B r s) (hB : B ≤ 6) (i : Nat) : (st_k r s).testBit i = if i < 18 then (st_p r).testBit i else if i - 18 < 6 then (st_s r).testBit (i - 18) else s.testBit (i - 18 - 6) := by
  unfold st_k
  rw [Nat.testBit_two_pow_mul_add _ (st_p_18 (rOK_ok hR hB) (rOK_len hR hB))]
  by_cases h : i < 18
  · rw [if_pos h, if_pos h]
  · rw [if_neg h, if_neg h, Nat.testBit_two_pow_mul_add _ (st_s_lt r (rOK_ok hR hB))]
theorem st_p_hi {B : Nat} {r : List Nat} {s i : Nat} (hR : rOK B r s) (hB : B ≤ 6) (h : 18 ≤ i) : (st_p r).testBit i = false :=
  Nat.testBit_lt_two_pow (Nat.lt_of_lt_of_le (st_p_18 (rOK_ok hR hB) (rOK_len hR hB)) (Nat.pow_le_pow_right (n := 2) (i := 18) (by omega) h))
theorem andn (a b : Nat) : nI a &&& (nI b ^^^ -1) = nI (a ^^^ (a &&& b)) := by
  apply Int32.toBitVec_inj.1
  show BitVec.ofNat 32 a &&& (BitVec.ofNat 32 b ^^^ (-1#32)) = BitVec.ofNat 32 (a ^^^ (a &&& b))
  apply BitVec.eq_of_getLsbD_eq
  intro i hi
  have e : (-1#32 : BitVec 32).getLsbD i = true := by
    rw [show (-1#32 : BitVec 32) = BitVec.allOnes 32 from rfl, BitVec.getLsbD_allOnes]
    exact decide_eq_true hi
  rw [BitVec.getLsbD_and, BitVec.getLsbD_xor, e]
  simp only [BitVec.getLsbD_ofNat, Nat.testBit_xor, Nat.testBit_and]
  simp [hi]
  cases a.testBit i <;> cases b.testBit i <;> rfl
section
variable {cx : pm_CX} {d n0 : Nat} {sg : List pm_C} {mu : pm_I} {nu : pm_J}
set_option maxRecDepth 100000 in
set_option maxHeartbeats 1000000 in
theorem t_withoutX {B : Nat} {u v : List Nat} {s x : Nat} (hR : rOK B (u ++ x :: v) s) (hR2 : rOK B (u ++ v) s) (hB : B ≤ 6) (hd : 1 ≤ d) : pm_T cx mX8_without d 0 0 [.int (nI (st_k (u ++ x :: v) s)), .int (nI v.length)] sg mu nu (pm_ret (some (.int (nI (st_k (u ++ v) s)))) sg mu nu) := by
  have hk := st_k_lt hR hB
  have hok := rOK_ok hR hB
  have hln := rOK_len hR hB
  have hp18 := st_p_18 hok hln
  have hx : x < 6 := hok x (by simp)
  have hlen : u.length + v.length + 1 ≤ 6 := by simp only [List.length_append, List.length_cons] at hln; omega
  have hvok : md_ok v := fun y hy => hok y (by simp [hy])
  have hvl := st_p_lt v hvok
  have e8 : 2 ^ (3 * v.length) = 8 ^ v.length := by rw [Nat.pow_mul]
  have e88 : 2 ^ (3 * (v.length + 1)) = 8 ^ v.length * 8 := by rw [Nat.pow_mul, Nat.pow_succ]
  have hpos : 0 < 8 ^ v.length := Nat.pow_pos (by omega)
  have ep : st_p (u ++ x :: v) = st_p v + 8 ^ v.length * (x + 8 * st_p u) := by
    rw [st_p_app, List.length_cons]
    simp only [st_p]
    rw [Nat.pow_succ, Nat.mul_add, Nat.mul_comm x, Nat.mul_assoc]
    omega
  have e1 : nI (st_k (u ++ x :: v) s) &&& 262143 = nI (st_p (u ++ x :: v)) := by
    rw [show (262143 : Int32) = nI (2 ^ 18 - 1) from rfl, fa_mask]
    congr 1
    unfold st_k
    omega
  have e2 : (1 : Int32) <<< (nI (3 * v.length) &&& 31) - 1 = nI (2 ^ (3 * v.length) - 1) := by
    rw [nI_shl1 (by omega), nI_m1 (by rw [e8]; exact hpos)]
  have ahead : nI (st_p (u ++ x :: v)) &&& nI (2 ^ (3 * v.length) - 1) = nI (st_p v) := by
    rw [fa_mask, e8, ep, Nat.add_mul_mod_self_left, Nat.mod_eq_of_lt hvl]
  have after : pm_ushr (nI (st_p (u ++ x :: v))) (nI (3 * (v.length + 1))) = nI (st_p u) := by
    rw [ushr_n (by omega) (by omega), e88, ep, ← Nat.div_div_eq_div_mul, Nat.add_mul_div_left _ _ hpos, Nat.div_eq_of_lt hvl, Nat.zero_add, Nat.add_mul_div_left _ _ (by omega), Nat.div_eq_of_lt (by omega), Nat.zero_add]
  have hat : st_p (u ++ x :: v) / 2 ^ (3 * v.length) % 8 = x := by
    rw [e8, ep, Nat.add_mul_div_left _ _ hpos, Nat.div_eq_of_lt hvl, Nat.zero_add, Nat.add_mul_mod_self_left, Nat.mod_eq_of_lt (by omega)]
  have hul : st_p u < 8 ^ u.length := st_p_lt u (fun y hy => hok y (by simp [hy]))
  have hu18 : st_p u < 2 ^ 18 := Nat.lt_of_lt_of_le hul (Nat.le_trans (Nat.pow_le_pow_right (n := 8) (j := 6) (by omega) (by omega)) (by omega))
  have e3 : (3 : Int32) * nI v.length = nI (3 * v.length) := pk_mul 3 _
  have e4 : (3 : Int32) * (nI v.length + 1) = nI (3 * (v.length + 1)) := by rw [nI_1]; exact pk_mul 3 _
  have sets : (nI (st_k (u ++ x :: v) s) &&& -262144) &&& (nI (2 ^ (18 + x)) ^^^ -1) = nI (2 ^ 18 * (2 ^ 6 * s + st_s (u ++ v))) := by
    rw [show (-262144 : Int32) = nI 262143 ^^^ -1 from rfl, andn, andn]
    congr 1
    apply Nat.eq_of_testBit_eq
    intro i
    have hm : ∀ i, (262143 : Nat).testBit i = decide (i < 18) := fun i => by
      rw [show (262143 : Nat) = 2 ^ 18 - 1 from rfl, Nat.testBit_two_pow_sub_one]
    rw [Nat.testBit_xor, Nat.testBit_and, Nat.testBit_xor, Nat.testBit_and, hm, Nat.testBit_two_pow]
    have erhs : (2 ^ 18 * (2 ^ 6 * s + st_s (u ++ v))).testBit i = if i < 18 then false else if i - 18 < 6 then (st_s (u ++ v)).testBit (i - 18) else s.testBit (i - 18 - 6) := by
      rw [show 2 ^ 18 * (2 ^ 6 * s + st_s (u ++ v)) = 2 ^ 18 * (2 ^ 6 * s + st_s (u ++ v)) + 0 from rfl, Nat.testBit_two_pow_mul_add _ (by omega)]
      by_cases h : i < 18
      · rw [if_pos h, if_pos h]; simp
      · rw [if_neg h, if_neg h, Nat.testBit_two_pow_mul_add _ (st_s_lt _ (rOK_ok hR2 hB))]
    rw [erhs, st_k_bit hR hB]
    by_cases h : i < 18
    · simp [h]
    · rw [if_neg h, if_neg h, decide_eq_false h]
      by_cases h2 : i - 18 < 6
      · rw [if_pos h2, if_pos h2]
        have hnd := hR.1
        rw [List.nodup_append] at hnd
        obtain ⟨n1, n2, n3⟩ := hnd
        obtain ⟨n4, n5⟩ := List.nodup_cons.mp n2
        by_cases h3 : 18 + x = i
        · have h4 : i - 18 = x := by omega
          rw [h4, decide_eq_true h3]
          have q1 : (st_s (u ++ x :: v)).testBit x = true := (st_s_bit x _).mpr (by simp)
          have q2 : (st_s (u ++ v)).testBit x = false := by
            cases hh : (st_s (u ++ v)).testBit x with
            | false => rfl
            | true =>
              rcases List.mem_append.mp ((st_s_bit x _).mp hh) with q | q
              · exact absurd rfl (n3 x q x List.mem_cons_self)
              · exact absurd q n4
          rw [q1, q2]
          rfl
        · rw [decide_eq_false h3]
          have q : (st_s (u ++ x :: v)).testBit (i - 18) = (st_s (u ++ v)).testBit (i - 18) := by
            rw [Bool.eq_iff_iff, st_s_bit, st_s_bit, List.mem_append, List.mem_append, List.mem_cons]
            constructor
            · rintro (q | q | q)
              · exact Or.inl q
              · omega
              · exact Or.inr q
            · rintro (q | q)
              · exact Or.inl q
              · exact Or.inr (Or.inr q)
          rw [q]
          simp
      · rw [if_neg h2, if_neg h2, decide_eq_false (show ¬ 18 + x = i by omega)]
        simp
  refine pm_enterN 4 (by exact okX8_without) rfl ?_; dsimp only [pm_la, pm_cat2, List.replicate, List.cons_append, List.nil_append, List.append_nil]
  refine pm_go 9999 (by exact okX8_without) rfl ?_; (try dsimp only [pm_st1, pm_st2, pm_cat2, pm_la, Option.toList, List.cons_append, List.nil_append])
  rw [e1, e3, e2, ahead, e4, after]
  refine pm_cs (by exact okX8_without) (by exact okX6_at) rfl (by exact arX6_at) (t_at (d := 0) (n := st_p (u ++ x :: v)) (p := v.length) (by omega) (by omega)) rfl (by dsimp only; omega) rfl (Nat.le_of_ble_eq_true rfl) ⟨Nat.zero_le _, Nat.zero_le _⟩ ?_
  rintro _ _ _ _ ⟨rfl, rfl, rfl, rfl⟩ -
  rw [hat]
  refine pm_go 9999 (by exact okX8_without) rfl ?_; (try dsimp only [pm_st1, pm_st2, pm_cat2, pm_la, Option.toList, List.cons_append, List.nil_append])
  rw [show (18 : Int32) + nI x = nI (18 + x) by rw [show (18 : Int32) = nI 18 from rfl, nI_add], nI_shl1 (by omega), sets]
  have hp2 : st_p (u ++ v) = st_p v + 8 ^ v.length * st_p u := st_p_app u v
  have hp3 := st_p_18 (rOK_ok hR2 hB) (rOK_len hR2 hB)
  have hb32 : st_p u * 2 ^ (3 * v.length) < 2 ^ 32 := by rw [e8, Nat.mul_comm]; omega
  have fin : 2 ^ 18 * (2 ^ 6 * s + st_s (u ++ v)) ||| st_p v ||| st_p u * 2 ^ (3 * v.length) = st_k (u ++ v) s := by
    have q1 : st_p v ||| st_p u * 2 ^ (3 * v.length) = st_p (u ++ v) := by
      rw [Nat.or_comm, Nat.mul_comm, ← Nat.two_pow_add_eq_or_of_lt (by rw [e8]; exact hvl), hp2, e8]
      omega
    rw [Nat.or_assoc, q1, ← Nat.two_pow_add_eq_or_of_lt hp3]
    rfl
  refine pm_cs (by exact okX8_without) (by exact okX6_put) rfl (by exact arX6_put) (t_put6 (d := 0) (b := st_p u) (p := v.length) hb32 (by omega)) rfl (by dsimp only; omega) rfl (Nat.le_of_ble_eq_true rfl) ⟨Nat.zero_le _, Nat.zero_le _⟩ ?_
  rintro _ _ _ _ ⟨rfl, rfl, rfl, rfl⟩ -
  refine pm_go 9999 (by exact okX8_without) rfl ?_; (try dsimp only [pm_st1, pm_st2, pm_cat2, pm_la, Option.toList, List.cons_append, List.nil_append])
  rw [nI_or, nI_or, fin]
  refine pm_ri (by exact okX8_without) rfl rfl rfl (Nat.le_refl _) (Nat.le_refl _) (⟨rfl, rfl, rfl, rfl⟩)
set_option maxRecDepth 100000 in
set_option maxHeartbeats 1000000 in
theorem t_placeOf_l {Q : pm_Po} {B : Nat} {r : List Nat} {s b : Nat} (hR : rOK B r s) (hB : B ≤ 6) (hb : b ∈ r) (hd : 2 ≤ d) : ∀ (j k : Nat), k + j + 1 = r.length → (∀ i, i < k → r.getD (r.length - 1 - i) 0 ≠ b) → (∀ p, p < r.length → r.getD (r.length - 1 - p) 0 = b → Q (some (.int (nI p))) sg mu nu) → pm_G cx (mX8_placeOf, d, 0, 0, n0, Q) 0 0 9 [some (.int (nI (st_k r s))), some (.int (nI b)), some (.int (nI (r.length - 1))), some (.int (nI k))] [] sg mu nu := by
  have hk := st_k_lt hR hB
  have hok := rOK_ok hR hB
  have hln := rOK_len hR hB
  have hb6 := hok b hb
  have hg6 : ∀ i, r.getD i 0 < 8 := by
    intro i
    rw [List.getD_eq_getElem?_getD]
    cases hh : r[i]? with
    | none => simp
    | some x =>
      have := hok x (List.mem_of_getElem? hh)
      simp only [Option.getD_some]
      omega
  intro j
  induction j with
  | zero =>
    intro k hkj hno hq
    have last : r.getD (r.length - 1 - k) 0 = b := by
      obtain ⟨i, hi, hget⟩ := List.mem_iff_getElem.mp hb
      rcases Nat.lt_or_ge (r.length - 1 - i) k with q | q
      · have := hno (r.length - 1 - i) q
        rw [show r.length - 1 - (r.length - 1 - i) = i by omega, List.getD_eq_getElem?_getD, List.getElem?_eq_getElem hi, Option.getD_some] at this
        exact absurd hget this
      · rw [show r.length - 1 - k = i by omega, List.getD_eq_getElem?_getD, List.getElem?_eq_getElem hi, Option.getD_some]
        exact hget
    have := hq k (by omega) last
    refine pm_go 9999 (by exact okX8_placeOf) rfl ?_; (try dsimp only [pm_st1, pm_st2, pm_cat2, pm_la, Option.toList, List.cons_append, List.nil_append])
    refine pm_ige (by exact okX8_placeOf) rfl (fun h1 => ?_) (fun h1 => ?_)
    · refine pm_go 9999 (by exact okX8_placeOf) rfl ?_; (try dsimp only [pm_st1, pm_st2, pm_cat2, pm_la, Option.toList, List.cons_append, List.nil_append])
      rw [show r.length - 1 = k by omega]
      refine pm_ri (by exact okX8_placeOf) rfl rfl rfl (Nat.le_refl _) (Nat.le_refl _) (this)
    · exact absurd (nI_le (by omega) (by omega)) h1
  | succ j ih =>
    intro k hkj hno hq
    refine pm_go 9999 (by exact okX8_placeOf) rfl ?_; (try dsimp only [pm_st1, pm_st2, pm_cat2, pm_la, Option.toList, List.cons_append, List.nil_append])
    refine pm_ige (by exact okX8_placeOf) rfl (fun h1 => ?_) (fun h1 => ?_)
    · exact absurd h1 (nI_ge (by omega) (by omega))
    · refine pm_go 9999 (by exact okX8_placeOf) rfl ?_; (try dsimp only [pm_st1, pm_st2, pm_cat2, pm_la, Option.toList, List.cons_append, List.nil_append])
      refine pm_cs (by exact okX8_placeOf) (by exact okX8_bedAt) rfl (by exact arX8_bedAt) (t_bedAt (d := 1) (n := st_k r s) (p := k) (by omega) (by omega) (by omega)) rfl (by dsimp only; omega) rfl (Nat.le_of_ble_eq_true rfl) ⟨Nat.zero_le _, Nat.zero_le _⟩ ?_
      rintro _ _ _ _ ⟨rfl, rfl, rfl, rfl⟩ -
      rw [st_at hR hB (by omega)]
      have := hg6 (r.length - 1 - k)
      refine pm_go 9999 (by exact okX8_placeOf) rfl ?_; (try dsimp only [pm_st1, pm_st2, pm_cat2, pm_la, Option.toList, List.cons_append, List.nil_append])
      refine pm_ine (by exact okX8_placeOf) rfl (fun h2 => ?_) (fun h2 => ?_)
      · have h3 : r.getD (r.length - 1 - k) 0 ≠ b := fun q => h2 (by rw [q])
        refine pm_go 9 (by exact okX8_placeOf) rfl ?_; (try dsimp only [pm_st1, pm_st2, pm_cat2, pm_la, Option.toList, List.cons_append, List.nil_append])
        rw [nI_1]
        refine ih (k + 1) (by omega) (fun i hi => ?_) hq
        rcases Nat.lt_or_ge i k with q | q
        · exact hno i q
        · rw [show i = k by omega]; exact h3
      · have h3 := (nI_eq (by omega) (by omega)).mp h2
        refine pm_go 9999 (by exact okX8_placeOf) rfl ?_; (try dsimp only [pm_st1, pm_st2, pm_cat2, pm_la, Option.toList, List.cons_append, List.nil_append])
        refine pm_ri (by exact okX8_placeOf) rfl rfl rfl (Nat.le_refl _) (Nat.le_refl _) (hq k (by omega) h3)
set_option maxRecDepth 100000 in
set_option maxHeartbeats 1000000 in
theorem t_placeOf {B : Nat} {r : List Nat} {s b : Nat} (hR : rOK B r s) (hB : B ≤ 6) (hb : b ∈ r) (hd : 2 ≤ d) : pm_T cx mX8_placeOf d 0 0 [.int (nI (st_k r s)), .int (nI b)] sg mu nu (fun v sg' mu' nu' => (∃ p, p < r.length ∧ r.getD (r.length - 1 - p) 0 = b ∧ v = some (.int (nI p))) ∧ sg = sg' ∧ mu = mu' ∧ nu = nu') := by
  have hpos : 0 < r.length := List.length_pos_of_mem hb
  have hln := rOK_len hR hB
  refine pm_enterN 2 (by exact okX8_placeOf) rfl ?_; dsimp only [pm_la, pm_cat2, List.replicate, List.cons_append, List.nil_append, List.append_nil]
  refine pm_go 9999 (by exact okX8_placeOf) rfl ?_; (try dsimp only [pm_st1, pm_st2, pm_cat2, pm_la, Option.toList, List.cons_append, List.nil_append])
  refine pm_cs (by exact okX8_placeOf) (by exact okX8_length) rfl (by exact arX8_length) (t_length (d := 1) hR hB (by omega)) rfl (by dsimp only; omega) rfl (Nat.le_of_ble_eq_true rfl) ⟨Nat.zero_le _, Nat.zero_le _⟩ ?_
  rintro _ _ _ _ ⟨rfl, rfl, rfl, rfl⟩ -
  refine pm_go 9 (by exact okX8_placeOf) rfl ?_; (try dsimp only [pm_st1, pm_st2, pm_cat2, pm_la, Option.toList, List.cons_append, List.nil_append])
  rw [nI_m1 hpos]
  exact t_placeOf_l hR hB hb hd (r.length - 1) 0 (by omega) (fun i hi => absurd hi (by omega)) (fun p hp hg => ⟨⟨p, hp, hg, rfl⟩, rfl, rfl, rfl⟩)
end

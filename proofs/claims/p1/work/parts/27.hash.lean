/-! ===== a table with open places, and the reference's put ===== -/
/-- each key stands where the search from its own place comes to it, and stands once -/
def ht_ok (M : Nat) (h : Nat → Nat) (f : Nat → Option Nat) : Prop := (∀ p x, p < M → f p = some x → ∃ i, i < M ∧ p = (h x + i) % M ∧ ∀ i', i' < i → f ((h x + i') % M) ≠ none) ∧ ∀ p q x, p < M → q < M → f p = some x → f q = some x → p = q
theorem ht_new {M : Nat} {h : Nat → Nat} {f : Nat → Option Nat} {x i : Nat} (hf : ht_ok M h f) (hM : 0 < M) (hi : i < M) (hbefore : ∀ i', i' < i → ∃ y, f ((h x + i') % M) = some y ∧ y ≠ x) (hnone : f ((h x + i) % M) = none) : ¬ ∃ p, p < M ∧ f p = some x := by
  rintro ⟨p, hp, hfx⟩
  obtain ⟨j, hj, rfl, hall⟩ := hf.1 p x hp hfx
  rcases Nat.lt_trichotomy j i with q | q | q
  · obtain ⟨y, hy, hne⟩ := hbefore j q
    rw [hfx] at hy
    exact hne (Option.some.inj hy).symm
  · subst q
    rw [hnone] at hfx
    cases hfx
  · exact hall i q hnone
theorem ht_put {M : Nat} {h : Nat → Nat} {f : Nat → Option Nat} {x i : Nat} (hf : ht_ok M h f) (hM : 0 < M) (hi : i < M) (hbefore : ∀ i', i' < i → ∃ y, f ((h x + i') % M) = some y ∧ y ≠ x) (hnone : f ((h x + i) % M) = none) : ht_ok M h (va_up f ((h x + i) % M) (some x)) := by
  have hnew := ht_new hf hM hi hbefore hnone
  have keep : ∀ q, f q ≠ none → va_up f ((h x + i) % M) (some x) q ≠ none := by
    intro q hq
    by_cases e : q = (h x + i) % M
    · subst e; exact absurd hnone hq
    · rw [va_up_of e]; exact hq
  refine ⟨fun p y hp hy => ?_, fun p q y hp hq hy1 hy2 => ?_⟩
  · by_cases e : p = (h x + i) % M
    · subst e
      rw [va_up_at] at hy
      cases hy
      refine ⟨i, hi, rfl, fun i' hi' => keep _ ?_⟩
      obtain ⟨y, hy, -⟩ := hbefore i' hi'
      rw [hy]
      intro q; cases q
    · rw [va_up_of e] at hy
      obtain ⟨j, hj, hpj, hall⟩ := hf.1 p y hp hy
      exact ⟨j, hj, hpj, fun i' hi' => keep _ (hall i' hi')⟩
  · by_cases e1 : p = (h x + i) % M
    · by_cases e2 : q = (h x + i) % M
      · rw [e1, e2]
      · subst e1
        rw [va_up_at] at hy1
        cases hy1
        rw [va_up_of e2] at hy2
        exact absurd ⟨q, hq, hy2⟩ hnew
    · by_cases e2 : q = (h x + i) % M
      · subst e2
        rw [va_up_at] at hy2
        cases hy2
        rw [va_up_of e1] at hy1
        exact absurd ⟨p, hp, hy1⟩ hnew
      · rw [va_up_of e1] at hy1
        rw [va_up_of e2] at hy2
        exact hf.2 p q y hp hq hy1 hy2
/-- fewer keys than places: a place is open -/
theorem ht_open {M : Nat} {h : Nat → Nat} {f : Nat → Option Nat} {L : List Nat} (hf : ht_ok M h f) (hL : ∀ p x, p < M → f p = some x → x ∈ L) (hlen : L.length < M) : ∃ p, p < M ∧ f p = none := by
  apply Classical.byContradiction
  intro hn
  have hall : ∀ p, p < M → ∃ x, f p = some x := by
    intro p hp
    cases hh : f p with
    | none => exact absurd ⟨p, hp, hh⟩ hn
    | some x => exact ⟨x, rfl⟩
  have := fb_holes L.length M (fun p => L.idxOf ((f p).getD 0)) (fun p hp => by
    obtain ⟨x, hx⟩ := hall p hp
    simp only [hx, Option.getD_some]
    exact List.idxOf_lt_length_of_mem (hL p x hp hx)) (fun p q hpq hq => by
    obtain ⟨x, hx⟩ := hall p (by omega)
    obtain ⟨y, hy⟩ := hall q hq
    simp only [hx, hy, Option.getD_some]
    intro e
    have h1 := List.getElem_idxOf (List.idxOf_lt_length_of_mem (hL p x (by omega) hx))
    have h2 := List.getElem_idxOf (List.idxOf_lt_length_of_mem (hL q y hq hy))
    have : x = y := by rw [← h1, ← h2]; simp only [e]
    subst this
    have := hf.2 p q x (by omega) hq hx hy
    omega)
  omega
/-- some step of the search comes to an open place -/
theorem ht_reach {M : Nat} {f : Nat → Option Nat} {a : Nat} (hM : 0 < M) (ha : a < M) (ho : ∃ p, p < M ∧ f p = none) : ∃ i, i < M ∧ f ((a + i) % M) = none := by
  obtain ⟨p, hp, hn⟩ := ho
  rcases Nat.lt_or_ge p a with q | q
  · refine ⟨p + M - a, by omega, ?_⟩
    rw [show a + (p + M - a) = p + M by omega, Nat.add_mod_right, Nat.mod_eq_of_lt hp]
    exact hn
  · refine ⟨p - a, by omega, ?_⟩
    rw [show a + (p - a) = p by omega, Nat.mod_eq_of_lt hp]
    exact hn
/-- where the reference's search for v begins -/
def pt_x (v : Nat) : Int64 := (lN v * 40503 + (lN v >>> ((20 : Int32).toInt64 &&& 63)) * 2654435) >>> ((7 : Int32).toInt64 &&& 63)
def pt_h (v : Nat) : Nat := (pt_x v).toBitVec.toNat % 65536
theorem land_i (x : Int64) : (x &&& 65535).toInt32 = nI (x.toBitVec.toNat % 65536) := by
  obtain ⟨n, hn, rfl⟩ : ∃ n, n < 2 ^ 64 ∧ x = lN n := ⟨x.toBitVec.toNat, x.toBitVec.isLt, by
    apply Int64.toBitVec_inj.mp
    show x.toBitVec = BitVec.ofNat 64 x.toBitVec.toNat
    simp⟩
  have e1 : (lN n).toBitVec.toNat = n := by
    show (BitVec.ofNat 64 n).toNat = n
    rw [BitVec.toNat_ofNat]
    exact Nat.mod_eq_of_lt hn
  rw [e1, show (65535 : Int64) = lN 65535 from rfl, fb_andL, lN_i, show (65535 : Nat) = 2 ^ 16 - 1 from rfl, Nat.and_two_pow_sub_one_eq_mod]
/-- the reference's line holds L, its table the same keys -/
def pt_T (L : List Nat) (f : Nat → Option Nat) (mu : pm_I) (nu : pm_J) : Prop :=
  mu 19 23 = nI L.length ∧ (∀ i v, L[i]? = some v → nu 29 i = lN v) ∧ (∀ p, p < 65536 → nu 28 p = (match f p with
    | none => 0
    | some v => lN (v + 1))) ∧ ht_ok 65536 pt_h f ∧ (∀ v, v ∈ L ↔ ∃ p, p < 65536 ∧ f p = some v) ∧ L.Nodup ∧ ∀ v ∈ L, v < 2 ^ 62
section
variable {cx : pm_CX} {d n0 : Nat} {i0 i1 : Option Nat} {ex : List pm_C} {mu : pm_I} {nu : pm_J}
theorem lcmp_eq {a b : Nat} (ha : a < 2 ^ 63) (hb : b < 2 ^ 63) : lg_cmp (lN a) (lN b) = 0 ↔ a = b := by
  unfold lg_cmp
  have e := pk_lEQ ha hb
  have l := pk_lLT hb ha
  by_cases h : a = b
  · subst h
    rw [if_neg (fun q => by have := l.mp q; omega), if_pos rfl]
    simp
  · by_cases h2 : b < a
    · rw [if_pos (l.mpr h2)]
      exact ⟨fun q => absurd q (by decide), fun q => absurd q h⟩
    · rw [if_neg (fun q => h2 (l.mp q)), if_neg (fun q => h (e.mp q))]
      exact ⟨fun q => absurd q (by decide), fun q => absurd q h⟩
theorem nx_slot {a i : Nat} : (nI ((a + i) % 65536) + 1) &&& 65535 = nI ((a + (i + 1)) % 65536) := by
  rw [nI_1, show (65535 : Int32) = nI (2 ^ 16 - 1) from rfl, fa_mask]
  congr 1
  omega
set_option maxRecDepth 100000 in
set_option maxHeartbeats 1000000 in
theorem t_put_l {Q : pm_Po} {L : List Nat} {f : Nat → Option Nat} {v : Nat} {x3 : Int64} (hv : v < 2 ^ 62) (hT : pt_T L f mu nu) (kk : ∀ i, i < 65536 → (∀ i', i' < i → ∃ y, f ((pt_h v + i') % 65536) = some y ∧ y ≠ v) → (f ((pt_h v + i) % 65536) = none ∨ f ((pt_h v + i) % 65536) = some v) → pm_G cx (mX11_put, d, 0, 0, n0, Q) 0 0 64 [some (.ref 19), some (.long (lN v)), none, some (.long x3), none, some (.int (nI ((pt_h v + i) % 65536)))] [] (sh_ i0 i1 ex) mu nu) (io : Nat) (hio : io < 65536) (hopen : f ((pt_h v + io) % 65536) = none) : ∀ (j i : Nat), i + j = io → (∀ i', i' < i → ∃ y, f ((pt_h v + i') % 65536) = some y ∧ y ≠ v) → pm_G cx (mX11_put, d, 0, 0, n0, Q) 0 0 26 [some (.ref 19), some (.long (lN v)), none, some (.long x3), none, some (.int (nI ((pt_h v + i) % 65536)))] [] (sh_ i0 i1 ex) mu nu := by
  obtain ⟨t1, t2, t3, t4, t5, t6, t7⟩ := hT
  intro j
  induction j with
  | zero =>
    intro i hi hb
    have hi : i = io := by omega
    subst hi
    have hlt : (pt_h v + i) % 65536 < 65536 := Nat.mod_lt _ (by omega)
    refine pm_go 9999 (by exact okX11_put) rfl ?_; (try dsimp only [pm_st1, pm_st2, pm_cat2, pm_la, Option.toList, List.cons_append, List.nil_append])
    refine pm_lal (by exact okX11_put) rfl rfl (vp_in_nI hlt (by omega)) ?_
    rw [nI_clamp (by omega), t3 _ hlt, hopen]
    refine pm_go 9999 (by exact okX11_put) rfl ?_; (try dsimp only [pm_st1, pm_st2, pm_cat2, pm_la, Option.toList, List.cons_append, List.nil_append])
    refine pm_zeq (by exact okX11_put) rfl (fun h1 => ?_) (fun h1 => ?_)
    · exact kk i hio hb (Or.inl hopen)
    · exact absurd ((lcmp_eq (a := 0) (b := 0) (by omega) (by omega)).mpr rfl) h1
  | succ j ih =>
    intro i hi hb
    have hlt : (pt_h v + i) % 65536 < 65536 := Nat.mod_lt _ (by omega)
    refine pm_go 9999 (by exact okX11_put) rfl ?_; (try dsimp only [pm_st1, pm_st2, pm_cat2, pm_la, Option.toList, List.cons_append, List.nil_append])
    refine pm_lal (by exact okX11_put) rfl rfl (vp_in_nI hlt (by omega)) ?_
    rw [nI_clamp (by omega), t3 _ hlt]
    cases hf : f ((pt_h v + i) % 65536) with
    | none =>
      refine pm_go 9999 (by exact okX11_put) rfl ?_; (try dsimp only [pm_st1, pm_st2, pm_cat2, pm_la, Option.toList, List.cons_append, List.nil_append])
      refine pm_zeq (by exact okX11_put) rfl (fun h1 => ?_) (fun h1 => ?_)
      · exact kk i (by omega) hb (Or.inl hf)
      · exact absurd ((lcmp_eq (a := 0) (b := 0) (by omega) (by omega)).mpr rfl) h1
    | some y =>
      have hy : y < 2 ^ 62 := t7 y ((t5 y).mpr ⟨_, hlt, hf⟩)
      show pm_G _ _ _ _ _ _ [.long (lN (y + 1))] _ _ _
      refine pm_go 9999 (by exact okX11_put) rfl ?_; (try dsimp only [pm_st1, pm_st2, pm_cat2, pm_la, Option.toList, List.cons_append, List.nil_append])
      refine pm_zeq (by exact okX11_put) rfl (fun h1 => ?_) (fun h1 => ?_)
      · have := (lcmp_eq (a := y + 1) (b := 0) (by omega) (by omega)).mp h1
        omega
      · refine pm_go 9999 (by exact okX11_put) rfl ?_; (try dsimp only [pm_st1, pm_st2, pm_cat2, pm_la, Option.toList, List.cons_append, List.nil_append])
        refine pm_lal (by exact okX11_put) rfl rfl (vp_in_nI hlt (by omega)) ?_
        rw [nI_clamp (by omega), t3 _ hlt, hf]
        show pm_G _ _ _ _ _ _ [.long (lN (y + 1))] _ _ _
        refine pm_go 9999 (by exact okX11_put) rfl ?_; (try dsimp only [pm_st1, pm_st2, pm_cat2, pm_la, Option.toList, List.cons_append, List.nil_append])
        rw [lN_1]
        refine pm_zeq (by exact okX11_put) rfl (fun h2 => ?_) (fun h2 => ?_)
        · have h3 := (lcmp_eq (a := y + 1) (b := v + 1) (by omega) (by omega)).mp h2
          have h3 : y = v := by omega
          subst h3
          exact kk i (by omega) hb (Or.inr hf)
        · have h3 : y ≠ v := fun q => h2 ((lcmp_eq (a := y + 1) (b := v + 1) (by omega) (by omega)).mpr (by omega))
          refine pm_go 26 (by exact okX11_put) rfl ?_; (try dsimp only [pm_st1, pm_st2, pm_cat2, pm_la, Option.toList, List.cons_append, List.nil_append])
          rw [nx_slot]
          refine ih (i + 1) (by omega) (fun i' hi' => ?_)
          rcases Nat.lt_or_ge i' i with q | q
          · exact hb i' q
          · have : i' = i := by omega
            subst this
            exact ⟨y, hf, h3⟩
set_option maxRecDepth 100000 in
set_option maxHeartbeats 1000000 in
theorem t_put {L : List Nat} {f : Nat → Option Nat} {v : Nat} (hv : v < 2 ^ 62) (hT : pt_T L f mu nu) (hlen : L.length < 65536) : pm_T cx mX11_put d 0 0 [.ref 19, .long (lN v)] (sh_ i0 i1 ex) mu nu (fun r sg' mu' nu' => r = none ∧ sg' = sh_ i0 i1 ex ∧ (∀ a, a ≠ 19 → mu' a = mu a) ∧ (∀ j, j ≠ 23 → mu' 19 j = mu 19 j) ∧ (∀ a, a ≠ 28 → a ≠ 29 → nu' a = nu a) ∧ ∃ f', pt_T (if v ∈ L then L else L ++ [v]) f' mu' nu') := by
  obtain ⟨t1, t2, t3, t4, t5, t6, t7⟩ := id hT
  have hh : pt_h v < 65536 := Nat.mod_lt _ (by omega)
  obtain ⟨io, hio, hopen⟩ := ht_reach (M := 65536) (f := f) (a := pt_h v) (by omega) hh (ht_open (L := L) t4 (fun p x hp hx => (t5 x).mpr ⟨p, hp, hx⟩) hlen)
  refine pm_enterN 3 (by exact okX11_put) rfl ?_; dsimp only [pm_la, pm_cat2, List.replicate, List.cons_append, List.nil_append, List.append_nil]
  refine pm_go 26 (by exact okX11_put) rfl ?_; (try dsimp only [pm_st1, pm_st2, pm_cat2, pm_la, Option.toList, List.cons_append, List.nil_append])
  refine pm_G.cast (L' := [some (.ref 19), some (.long (lN v)), none, some (.long (lN v * 40503 + (lN v >>> ((20 : Int32).toInt64 &&& 63)) * 2654435)), none, some (.int (nI ((pt_h v + 0) % 65536)))]) (S' := []) (mu' := mu) (nu' := nu) ?_ ?_ rfl rfl rfl
  · refine t_put_l hv hT (fun i hi hb hor => ?_) io hio hopen io 0 (by omega) (fun i' hi' => absurd hi' (by omega))
    have hlt : (pt_h v + i) % 65536 < 65536 := Nat.mod_lt _ (by omega)
    refine pm_go 9999 (by exact okX11_put) rfl ?_; (try dsimp only [pm_st1, pm_st2, pm_cat2, pm_la, Option.toList, List.cons_append, List.nil_append])
    refine pm_lal (by exact okX11_put) rfl rfl (vp_in_nI hlt (by omega)) ?_
    rw [nI_clamp (by omega), t3 _ hlt]
    rcases hor with hf | hf
    · rw [hf]
      have hnew : v ∉ L := fun q => ht_new t4 (by omega) hi hb hf ((t5 v).mp q)
      refine pm_go 9999 (by exact okX11_put) rfl ?_; (try dsimp only [pm_st1, pm_st2, pm_cat2, pm_la, Option.toList, List.cons_append, List.nil_append])
      refine pm_zne (by exact okX11_put) rfl (fun h1 => ?_) (fun h1 => ?_)
      · exact absurd ((lcmp_eq (a := 0) (b := 0) (by omega) (by omega)).mpr rfl) h1
      · refine pm_go 9999 (by exact okX11_put) rfl ?_; (try dsimp only [pm_st1, pm_st2, pm_cat2, pm_la, Option.toList, List.cons_append, List.nil_append])
        rw [lN_1]
        refine pm_las (by exact okX11_put) rfl rfl (vp_in_nI hlt (by omega)) ?_
        rw [nI_clamp (by omega)]
        refine pm_go 9999 (by exact okX11_put) rfl ?_; (try dsimp only [pm_st1, pm_st2, pm_cat2, pm_la, Option.toList, List.cons_append, List.nil_append])
        rw [t1]
        refine pm_las (by exact okX11_put) rfl rfl (vp_in_nI hlen (by omega)) ?_
        rw [nI_clamp (by omega)]
        refine pm_go 9999 (by exact okX11_put) rfl ?_; (try dsimp only [pm_st1, pm_st2, pm_cat2, pm_la, Option.toList, List.cons_append, List.nil_append])
        rw [t1, nI_1]
        refine pm_rv (by exact okX11_put) rfl rfl (Nat.le_refl _) (Nat.le_refl _) (⟨rfl, rfl, fun a ha => pm_up_ne ha, fun j hj => pm_up_of hj, fun a q1 q2 => by rw [pm_uq_ne q2, pm_uq_ne q1], va_up f ((pt_h v + i) % 65536) (some v), ?_⟩)
        rw [if_neg hnew]
        refine ⟨by rw [pm_up_at, List.length_append]; rfl, fun k x hk => ?_, fun p hp => ?_, ht_put t4 (by omega) hi hb hf, fun x => ?_, ?_, fun x hx => ?_⟩
        · rcases app_get hk with ⟨q1, q2⟩ | ⟨q1, q2⟩
          · rw [pm_uq_of (by omega), pm_uq_ne (by omega)]
            exact t2 k x q2
          · subst q1; subst q2
            rw [pm_uq_at]
        · rw [pm_uq_ne (by omega)]
          by_cases e : p = (pt_h v + i) % 65536
          · subst e; rw [pm_uq_at, va_up_at]
          · rw [pm_uq_of e, va_up_of e]; exact t3 p hp
        · rw [List.mem_append, List.mem_singleton, t5 x]
          constructor
          · rintro (⟨p, hp, hx⟩ | rfl)
            · refine ⟨p, hp, ?_⟩
              rw [va_up_of (fun e => by subst e; rw [hf] at hx; cases hx)]
              exact hx
            · exact ⟨_, hlt, va_up_at⟩
          · rintro ⟨p, hp, hx⟩
            by_cases e : p = (pt_h v + i) % 65536
            · subst e
              rw [va_up_at] at hx
              cases hx
              exact Or.inr rfl
            · rw [va_up_of e] at hx
              exact Or.inl ⟨p, hp, hx⟩
        · rw [List.nodup_append]
          refine ⟨t6, by simp, fun x hx y hy => ?_⟩
          simp at hy
          subst hy
          intro q
          subst q
          exact hnew hx
        · rcases List.mem_append.mp hx with q | q
          · exact t7 x q
          · simp at q; subst q; exact hv
    · have hin : v ∈ L := (t5 v).mpr ⟨_, hlt, hf⟩
      rw [hf]
      show pm_G _ _ _ _ _ _ [.long (lN (v + 1))] _ _ _
      refine pm_go 9999 (by exact okX11_put) rfl ?_; (try dsimp only [pm_st1, pm_st2, pm_cat2, pm_la, Option.toList, List.cons_append, List.nil_append])
      refine pm_zne (by exact okX11_put) rfl (fun h1 => ?_) (fun h1 => ?_)
      · refine pm_go 9999 (by exact okX11_put) rfl ?_; (try dsimp only [pm_st1, pm_st2, pm_cat2, pm_la, Option.toList, List.cons_append, List.nil_append])
        refine pm_rv (by exact okX11_put) rfl rfl (Nat.le_refl _) (Nat.le_refl _) (⟨rfl, rfl, fun a ha => rfl, fun j hj => rfl, fun a q1 q2 => rfl, f, ?_⟩)
        rw [if_pos hin]
        exact hT
      · have := (lcmp_eq (a := v + 1) (b := 0) (by omega) (by omega)).mp h1
        omega
  · rw [show nI ((pt_h v + 0) % 65536) = nI (pt_h v) by rw [Nat.add_zero, Nat.mod_eq_of_lt hh]]
    have : (pt_x v &&& 65535).toInt32 = nI (pt_h v) := land_i _
    rw [← this]
    rfl
end

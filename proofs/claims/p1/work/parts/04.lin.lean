/-! ===== straight stretches: one instruction, a run of them ===== -/
def pm_k {R : Type} (n m : Nat) (r : Option R) : Option R := match Nat.beq n m with
  | true => r
  | false => none
theorem pm_k_some {R : Type} {n m : Nat} {r : Option R} {z : R} (h : pm_k n m r = some z) : n = m ∧ r = some z := by
  unfold pm_k at h
  split at h
  · rename_i h1; exact ⟨Nat.eq_of_beq_eq_true h1, h⟩
  · cases h
abbrev pm_R : Type := pm_L × List Value × pm_I
def pm_s (L : pm_L) (mu : pm_I) (r : Option (List Value)) : Option pm_R := match r with
  | some S => some (L, S, mu)
  | none => none
theorem pm_s_some {L : pm_L} {mu : pm_I} {r : Option (List Value)} {z : pm_R} (h : pm_s L mu r = some z) : ∃ S', r = some S' ∧ z = (L, S', mu) := by
  unfold pm_s at h
  split at h
  · exact ⟨_, rfl, (Option.some.inj h).symm⟩
  · cases h
def pm_b32 (f : Int32 → Int32 → Int32) (S : List Value) : Option (List Value) := match S with
  | .int y :: .int x :: r => some (.int (f x y) :: r)
  | _ => none
theorem pm_b32_some {f : Int32 → Int32 → Int32} {S S' : List Value} (h : pm_b32 f S = some S') : ∃ x y r, S = .int y :: .int x :: r ∧ S' = .int (f x y) :: r := by
  unfold pm_b32 at h
  split at h
  · exact ⟨_, _, _, rfl, (Option.some.inj h).symm⟩
  · cases h
def pm_b64 (f : Int64 → Int64 → Int64) (S : List Value) : Option (List Value) := match S with
  | .long y :: .long x :: r => some (.long (f x y) :: r)
  | _ => none
theorem pm_b64_some {f : Int64 → Int64 → Int64} {S S' : List Value} (h : pm_b64 f S = some S') : ∃ x y r, S = .long y :: .long x :: r ∧ S' = .long (f x y) :: r := by
  unfold pm_b64 at h
  split at h
  · exact ⟨_, _, _, rfl, (Option.some.inj h).symm⟩
  · cases h
def pm_bsh (f : Int64 → Int32 → Int64) (S : List Value) : Option (List Value) := match S with
  | .int y :: .long x :: r => some (.long (f x y) :: r)
  | _ => none
theorem pm_bsh_some {f : Int64 → Int32 → Int64} {S S' : List Value} (h : pm_bsh f S = some S') : ∃ x y r, S = .int y :: .long x :: r ∧ S' = .long (f x y) :: r := by
  unfold pm_bsh at h
  split at h
  · exact ⟨_, _, _, rfl, (Option.some.inj h).symm⟩
  · cases h
def pm_cst32 (x : pm_X) (S : List Value) : Option (List Value) := match x with
  | .inr (.inl v) => some (.int v :: S)
  | _ => none
theorem pm_cst32_some {x : pm_X} {S S' : List Value} (h : pm_cst32 x S = some S') : ∃ v, x = .inr (.inl v) ∧ S' = .int v :: S := by
  unfold pm_cst32 at h
  split at h
  · exact ⟨_, rfl, (Option.some.inj h).symm⟩
  · cases h
def pm_cst64 (x : pm_X) (S : List Value) : Option (List Value) := match x with
  | .inr (.inr (.inl v)) => some (.long v :: S)
  | _ => none
theorem pm_cst64_some {x : pm_X} {S S' : List Value} (h : pm_cst64 x S = some S') : ∃ v, x = .inr (.inr (.inl v)) ∧ S' = .long v :: S := by
  unfold pm_cst64 at h
  split at h
  · exact ⟨_, rfl, (Option.some.inj h).symm⟩
  · cases h
def pm_ldi (L : pm_L) (i : Nat) (S : List Value) : Option (List Value) := match L[i]? with
  | some (some (.int x)) => some (.int x :: S)
  | _ => none
theorem pm_ldi_some {L : pm_L} {i : Nat} {S S' : List Value} (h : pm_ldi L i S = some S') : ∃ x, L[i]? = some (some (.int x)) ∧ S' = .int x :: S := by
  unfold pm_ldi at h
  split at h
  · rename_i h1; exact ⟨_, h1, (Option.some.inj h).symm⟩
  · cases h
def pm_ldl (L : pm_L) (i : Nat) (S : List Value) : Option (List Value) := match L[i]? with
  | some (some (.long x)) => some (.long x :: S)
  | _ => none
theorem pm_ldl_some {L : pm_L} {i : Nat} {S S' : List Value} (h : pm_ldl L i S = some S') : ∃ x, L[i]? = some (some (.long x)) ∧ S' = .long x :: S := by
  unfold pm_ldl at h
  split at h
  · rename_i h1; exact ⟨_, h1, (Option.some.inj h).symm⟩
  · cases h
def pm_lda (L : pm_L) (i : Nat) (S : List Value) : Option (List Value) := match L[i]? with
  | some (some (.ref x)) => some (.ref x :: S)
  | _ => none
theorem pm_lda_some {L : pm_L} {i : Nat} {S S' : List Value} (h : pm_lda L i S = some S') : ∃ x, L[i]? = some (some (.ref x)) ∧ S' = .ref x :: S := by
  unfold pm_lda at h
  split at h
  · rename_i h1; exact ⟨_, h1, (Option.some.inj h).symm⟩
  · cases h
def pm_sti (nL : Nat) (L : pm_L) (i : Nat) (S : List Value) (mu : pm_I) : Option pm_R := match Nat.blt i nL, S with
  | true, .int x :: r => some (pm_st1 L i (.int x), r, mu)
  | _, _ => none
theorem pm_sti_some {nL : Nat} {L : pm_L} {i : Nat} {S : List Value} {mu : pm_I} {z : pm_R} (h : pm_sti nL L i S mu = some z) : ∃ x r, i < nL ∧ S = .int x :: r ∧ z = (pm_st1 L i (.int x), r, mu) := by
  unfold pm_sti at h
  split at h
  · rename_i h1; exact ⟨_, _, Nat.le_of_ble_eq_true h1, rfl, (Option.some.inj h).symm⟩
  · cases h
def pm_stl (nL : Nat) (L : pm_L) (i : Nat) (S : List Value) (mu : pm_I) : Option pm_R := match Nat.blt (i + 1) nL, S with
  | true, .long x :: r => some (pm_st2 L i (.long x), r, mu)
  | _, _ => none
theorem pm_stl_some {nL : Nat} {L : pm_L} {i : Nat} {S : List Value} {mu : pm_I} {z : pm_R} (h : pm_stl nL L i S mu = some z) : ∃ x r, i + 1 < nL ∧ S = .long x :: r ∧ z = (pm_st2 L i (.long x), r, mu) := by
  unfold pm_stl at h
  split at h
  · rename_i h1; exact ⟨_, _, Nat.le_of_ble_eq_true h1, rfl, (Option.some.inj h).symm⟩
  · cases h
def pm_sta (nL : Nat) (L : pm_L) (i : Nat) (S : List Value) (mu : pm_I) : Option pm_R := match Nat.blt i nL, S with
  | true, .ref x :: r => some (pm_st1 L i (.ref x), r, mu)
  | _, _ => none
theorem pm_sta_some {nL : Nat} {L : pm_L} {i : Nat} {S : List Value} {mu : pm_I} {z : pm_R} (h : pm_sta nL L i S mu = some z) : ∃ x r, i < nL ∧ S = .ref x :: r ∧ z = (pm_st1 L i (.ref x), r, mu) := by
  unfold pm_sta at h
  split at h
  · rename_i h1; exact ⟨_, _, Nat.le_of_ble_eq_true h1, rfl, (Option.some.inj h).symm⟩
  · cases h
def pm_inc (nL : Nat) (x : pm_X) (L : pm_L) (i : Nat) (S : List Value) (mu : pm_I) : Option pm_R := match Nat.blt i nL, L[i]?, x with
  | true, some (some (.int y)), .inr (.inl v) => some (pm_st1 L i (.int (y + v)), S, mu)
  | _, _, _ => none
theorem pm_inc_some {nL : Nat} {x : pm_X} {L : pm_L} {i : Nat} {S : List Value} {mu : pm_I} {z : pm_R} (h : pm_inc nL x L i S mu = some z) : ∃ y v, i < nL ∧ L[i]? = some (some (.int y)) ∧ x = .inr (.inl v) ∧ z = (pm_st1 L i (.int (y + v)), S, mu) := by
  unfold pm_inc at h
  split at h
  · rename_i h1 h2; exact ⟨_, _, Nat.le_of_ble_eq_true h1, h2, rfl, (Option.some.inj h).symm⟩
  · cases h
def pm_ov (o : Option (Option Nat)) (z : Int32) : Value := match o with
  | none => .int z
  | some none => .null
  | some (some q) => .ref q
def pm_gf (sg : List pm_C) (mu : pm_I) (x : pm_X) (S : List Value) : Option (List Value) := match x, S with
  | .inl (ci, j), .ref k :: r => (match sg[k]? with
    | some (0, c, fs) => (match Nat.beq c ci, fs[j]? with
      | true, some none => some (.int (mu k j) :: r)
      | true, some (some none) => some (.null :: r)
      | true, some (some (some q)) => some (.ref q :: r)
      | _, _ => none)
    | _ => none)
  | _, _ => none
theorem pm_gf_some {sg : List pm_C} {mu : pm_I} {x : pm_X} {S S' : List Value} (h : pm_gf sg mu x S = some S') : ∃ ci j k r fs o, x = .inl (ci, j) ∧ S = .ref k :: r ∧ sg[k]? = some (0, ci, fs) ∧ fs[j]? = some o ∧ S' = pm_ov o (mu k j) :: r := by
  unfold pm_gf at h
  split at h
  · split at h
    · rename_i hs
      split at h
      · rename_i h1 h2; rw [Nat.eq_of_beq_eq_true h1] at hs; exact ⟨_, _, _, _, _, _, rfl, rfl, hs, h2, (Option.some.inj h).symm⟩
      · rename_i h1 h2; rw [Nat.eq_of_beq_eq_true h1] at hs; exact ⟨_, _, _, _, _, _, rfl, rfl, hs, h2, (Option.some.inj h).symm⟩
      · rename_i h1 h2; rw [Nat.eq_of_beq_eq_true h1] at hs; exact ⟨_, _, _, _, _, _, rfl, rfl, hs, h2, (Option.some.inj h).symm⟩
      · cases h
    · cases h
  · cases h
/-- the int fields -/
def pm_isI (ci j : Nat) : Bool := match ci with
  | 0 => Nat.beq j 1 || Nat.beq j 2
  | 1 => Nat.blt j 6
  | 3 => Nat.beq j 0
  | 4 => Nat.beq j 1 || Nat.beq j 2
  | 6 => [0, 3, 4, 5, 6, 8, 9, 11, 12, 14, 15, 16, 18, 23, 24].any (Nat.beq j)
  | _ => false
theorem pm_isI_ok {ci j : Nat} (h : pm_isI ci j = true) : ∃ q : vw_C, vwCl[ci]? = some q ∧ j < q.2.2 ∧ (q.2.1 j).2.2.1 = "I" ∧ (q.2.1 j).2.2.2 = false := by
  match ci, h with
  | 0, h =>
    simp only [pm_isI, Bool.or_eq_true, Nat.beq_eq] at h
    refine ⟨_, rfl, ?_⟩
    rcases h with rfl | rfl <;> decide
  | 1, h =>
    simp only [pm_isI, Nat.blt_eq] at h
    refine ⟨_, rfl, ?_⟩
    rcases (show j = 0 ∨ j = 1 ∨ j = 2 ∨ j = 3 ∨ j = 4 ∨ j = 5 by omega) with rfl | rfl | rfl | rfl | rfl | rfl <;> decide
  | 2, h => cases h
  | 3, h =>
    simp only [pm_isI, Nat.beq_eq] at h
    subst h
    exact ⟨_, rfl, by decide⟩
  | 4, h =>
    simp only [pm_isI, Bool.or_eq_true, Nat.beq_eq] at h
    refine ⟨_, rfl, ?_⟩
    rcases h with rfl | rfl <;> decide
  | 5, h => cases h
  | 6, h =>
    simp only [pm_isI, List.any_cons, List.any_nil, Bool.or_eq_true, Nat.beq_eq, Bool.or_false] at h
    refine ⟨_, rfl, ?_⟩
    rcases h with rfl | rfl | rfl | rfl | rfl | rfl | rfl | rfl | rfl | rfl | rfl | rfl | rfl | rfl | rfl <;> decide
  | k + 7, h => simp [pm_isI] at h
def pm_pf (sg : List pm_C) (mu : pm_I) (x : pm_X) (L : pm_L) (S : List Value) : Option pm_R := match x, S with
  | .inl (ci, j), .int v :: .ref k :: r => (match sg[k]?, pm_isI ci j with
    | some (0, c, fs), true => (match Nat.beq c ci, fs[j]? with
      | true, some none => some (L, r, pm_up mu k j v)
      | _, _ => none)
    | _, _ => none)
  | _, _ => none
theorem pm_pf_some {sg : List pm_C} {mu : pm_I} {x : pm_X} {L : pm_L} {S : List Value} {z : pm_R} (h : pm_pf sg mu x L S = some z) : ∃ ci j v k r fs, x = .inl (ci, j) ∧ S = .int v :: .ref k :: r ∧ pm_isI ci j = true ∧ sg[k]? = some (0, ci, fs) ∧ fs[j]? = some none ∧ z = (L, r, pm_up mu k j v) := by
  unfold pm_pf at h
  split at h
  · split at h
    · rename_i hs hi
      split at h
      · rename_i h1 h2; rw [Nat.eq_of_beq_eq_true h1] at hs; exact ⟨_, _, _, _, _, _, rfl, rfl, hi, hs, h2, (Option.some.inj h).symm⟩
      · cases h
    · cases h
  · cases h
def pm_al (sg : List pm_C) (S : List Value) : Option (List Value) := match S with
  | .ref k :: r => (match sg[k]? with
    | some (1, n, _) => some (.int (Int32.ofNat n) :: r)
    | some (3, n, _) => some (.int (Int32.ofNat n) :: r)
    | _ => none)
  | _ => none
theorem pm_al_some {sg : List pm_C} {S S' : List Value} (h : pm_al sg S = some S') : ∃ k r n rs, S = .ref k :: r ∧ (sg[k]? = some (1, n, rs) ∨ sg[k]? = some (3, n, rs)) ∧ S' = .int (Int32.ofNat n) :: r := by
  unfold pm_al at h
  split at h
  · split at h
    · rename_i h1; exact ⟨_, _, _, _, rfl, Or.inl h1, (Option.some.inj h).symm⟩
    · rename_i h1; exact ⟨_, _, _, _, rfl, Or.inr h1, (Option.some.inj h).symm⟩
    · cases h
  · cases h
def pm_dup (S : List Value) : Option (List Value) := match S with
  | .int x :: r => some (.int x :: .int x :: r)
  | .ref x :: r => some (.ref x :: .ref x :: r)
  | _ => none
theorem pm_dup_some {S S' : List Value} (h : pm_dup S = some S') : ∃ v r, S = v :: r ∧ (∀ al, (pm_at al v).category = 1) ∧ S' = v :: v :: r := by
  unfold pm_dup at h
  split at h
  · exact ⟨_, _, rfl, fun _ => rfl, (Option.some.inj h).symm⟩
  · exact ⟨_, _, rfl, fun _ => rfl, (Option.some.inj h).symm⟩
  · cases h
def pm_dup2 (S : List Value) : Option (List Value) := match S with
  | .int x :: .ref y :: r => some (.int x :: .ref y :: .int x :: .ref y :: r)
  | _ => none
theorem pm_dup2_some {S S' : List Value} (h : pm_dup2 S = some S') : ∃ x y r, S = .int x :: .ref y :: r ∧ S' = .int x :: .ref y :: .int x :: .ref y :: r := by
  unfold pm_dup2 at h
  split at h
  · exact ⟨_, _, _, rfl, (Option.some.inj h).symm⟩
  · cases h
def pm_i2l (S : List Value) : Option (List Value) := match S with
  | .int x :: r => some (.long x.toInt64 :: r)
  | _ => none
theorem pm_i2l_some {S S' : List Value} (h : pm_i2l S = some S') : ∃ x r, S = .int x :: r ∧ S' = .long x.toInt64 :: r := by
  unfold pm_i2l at h
  split at h
  · exact ⟨_, _, rfl, (Option.some.inj h).symm⟩
  · cases h
def pm_l2i (S : List Value) : Option (List Value) := match S with
  | .long x :: r => some (.int x.toInt32 :: r)
  | _ => none
theorem pm_l2i_some {S S' : List Value} (h : pm_l2i S = some S') : ∃ x r, S = .long x :: r ∧ S' = .int x.toInt32 :: r := by
  unfold pm_l2i at h
  split at h
  · exact ⟨_, _, rfl, (Option.some.inj h).symm⟩
  · cases h
def pm_lcmp (S : List Value) : Option (List Value) := match S with
  | .long y :: .long x :: r => some (.int (lg_cmp x y) :: r)
  | _ => none
theorem pm_lcmp_some {S S' : List Value} (h : pm_lcmp S = some S') : ∃ x y r, S = .long y :: .long x :: r ∧ S' = .int (lg_cmp x y) :: r := by
  unfold pm_lcmp at h
  split at h
  · exact ⟨_, _, _, rfl, (Option.some.inj h).symm⟩
  · cases h
def pm_ushr (x y : Int32) : Int32 := (x.toUInt32 >>> (y.toUInt32 &&& Int32.toUInt32 31)).toInt32
def pm_one (sg : List pm_C) (nL : Nat) (i : Instr) (n : Nat) (x : pm_X) (L : pm_L) (S : List Value) (mu : pm_I) : Option pm_R := match i with
  | .iconst _ => pm_k n 1 (pm_s L mu (pm_cst32 x S))
  | .bipush _ => pm_k n 2 (pm_s L mu (pm_cst32 x S))
  | .sipush _ => pm_k n 3 (pm_s L mu (pm_cst32 x S))
  | .ldc _ => pm_k n 2 (pm_s L mu (pm_cst32 x S))
  | .ldc_w _ => pm_k n 3 (pm_s L mu (pm_cst32 x S))
  | .lconst _ => pm_k n 1 (pm_s L mu (pm_cst64 x S))
  | .ldc2_w _ => pm_k n 3 (pm_s L mu (pm_cst64 x S))
  | .iload_n k => pm_k n 1 (pm_s L mu (pm_ldi L k.val S))
  | .iload k => pm_k n 2 (pm_s L mu (pm_ldi L k S))
  | .lload_n k => pm_k n 1 (pm_s L mu (pm_ldl L k.val S))
  | .lload k => pm_k n 2 (pm_s L mu (pm_ldl L k S))
  | .aload_n k => pm_k n 1 (pm_s L mu (pm_lda L k.val S))
  | .aload k => pm_k n 2 (pm_s L mu (pm_lda L k S))
  | .istore_n k => pm_k n 1 (pm_sti nL L k.val S mu)
  | .istore k => pm_k n 2 (pm_sti nL L k S mu)
  | .lstore_n k => pm_k n 1 (pm_stl nL L k.val S mu)
  | .lstore k => pm_k n 2 (pm_stl nL L k S mu)
  | .astore_n k => pm_k n 1 (pm_sta nL L k.val S mu)
  | .astore k => pm_k n 2 (pm_sta nL L k S mu)
  | .iinc k _ => pm_k n 3 (pm_inc nL x L k S mu)
  | .iadd => pm_k n 1 (pm_s L mu (pm_b32 (fun x y => x + y) S))
  | .isub => pm_k n 1 (pm_s L mu (pm_b32 (fun x y => x - y) S))
  | .imul => pm_k n 1 (pm_s L mu (pm_b32 (fun x y => x * y) S))
  | .iand => pm_k n 1 (pm_s L mu (pm_b32 (fun x y => x &&& y) S))
  | .ior => pm_k n 1 (pm_s L mu (pm_b32 (fun x y => x ||| y) S))
  | .ixor => pm_k n 1 (pm_s L mu (pm_b32 (fun x y => x ^^^ y) S))
  | .ishl => pm_k n 1 (pm_s L mu (pm_b32 (fun x y => x <<< (y &&& 31)) S))
  | .ishr => pm_k n 1 (pm_s L mu (pm_b32 (fun x y => x >>> (y &&& 31)) S))
  | .iushr => pm_k n 1 (pm_s L mu (pm_b32 pm_ushr S))
  | .ladd => pm_k n 1 (pm_s L mu (pm_b64 (fun x y => x + y) S))
  | .lmul => pm_k n 1 (pm_s L mu (pm_b64 (fun x y => x * y) S))
  | .land => pm_k n 1 (pm_s L mu (pm_b64 (fun x y => x &&& y) S))
  | .lxor => pm_k n 1 (pm_s L mu (pm_b64 (fun x y => x ^^^ y) S))
  | .lshl => pm_k n 1 (pm_s L mu (pm_bsh (fun x y => x <<< (y.toInt64 &&& 63)) S))
  | .lshr => pm_k n 1 (pm_s L mu (pm_bsh (fun x y => x >>> (y.toInt64 &&& 63)) S))
  | .i2l => pm_k n 1 (pm_s L mu (pm_i2l S))
  | .l2i => pm_k n 1 (pm_s L mu (pm_l2i S))
  | .lcmp => pm_k n 1 (pm_s L mu (pm_lcmp S))
  | .dup => pm_k n 1 (pm_s L mu (pm_dup S))
  | .dup2 => pm_k n 1 (pm_s L mu (pm_dup2 S))
  | .getfield _ => pm_k n 3 (pm_s L mu (pm_gf sg mu x S))
  | .putfield _ => pm_k n 3 (pm_pf sg mu x L S)
  | .arraylength => pm_k n 1 (pm_s L mu (pm_al sg S))
  | _ => none
theorem pm_dc {own : String} {cc : ByteArray} {pc n : Nat} {i : Instr} {x : pm_X} (h : pm_eok own cc (pc, i, n, x) = true) : decode cc pc = .ok (i, n) := pm_dec (en := (pc, i, n, x)) h
section
variable {cx : pm_CX} {fx : pm_FX} {cells slots pc : Nat} {L L' : pm_L} {S S' : List Value} {sg : List pm_C} {mu mu' : pm_I} {nu : pm_J}
/-- the stack alone changes -/
theorem pm_G.stk {pc' : Nat} (h : ∀ (p : Program) (e : Env) (s : State) (m : MethodId) (args : Array Value) (below : List Frame) (meth : Method) (c : Code) (A : Nat → Prop) (al0 al : Nat → Nat) (H : Heap) (locs : List Loc) (ls : Array Slot) (Q : State → Prop), pm_S cx fx.1 p s m args meth c A → pm_D cx fx.1.2.2.1 fx.2.2.2.2.1 s A al0 al H locs ls L sg mu nu → W p cx.1 e (pm_room fx.2.1 fx.2.2.1 fx.2.2.2.1) s m args below meth c H locs cells slots Q (F0 m pc' ls (S'.map (pm_at al))) → W p cx.1 e (pm_room fx.2.1 fx.2.2.1 fx.2.2.2.1) s m args below meth c H locs cells slots Q (F0 m pc ls (S.map (pm_at al)))) (k : pm_G cx fx cells slots pc' L S' sg mu nu) : pm_G cx fx cells slots pc L S sg mu nu :=
  fun p e s m args below meth c A al0 al H locs ls hS hD => h p e s m args below meth c A al0 al H locs ls _ hS hD (k p e s m args below meth c A al0 al H locs ls hS hD)
/-- a store of one slot -/
theorem pm_D.st1 {nL n0 : Nat} {s : State} {A : Nat → Prop} {al0 al : Nat → Nat} {H : Heap} {locs : List Loc} {ls ls' : Array Slot} {i : Nat} {v : Value} (hD : pm_D cx nL n0 s A al0 al H locs ls L sg mu nu) (h : lv_has ls' nL ((i, pm_at al v) :: (pm_lc al 0 L).filter (fun q => !(q.1 == i) && !(q.1 + 1 == i && q.2.category == 2)))) : pm_D cx nL n0 s A al0 al H locs ls' (pm_st1 L i v) sg mu nu :=
  ⟨hD.1, hD.2.1, hD.2.2.1, hD.2.2.2.1, hD.2.2.2.2.1, pm_has_mono h pm_st1_sub⟩
theorem pm_D.st2 {nL n0 : Nat} {s : State} {A : Nat → Prop} {al0 al : Nat → Nat} {H : Heap} {locs : List Loc} {ls ls' : Array Slot} {i : Nat} {v : Value} (hD : pm_D cx nL n0 s A al0 al H locs ls L sg mu nu) (h : lv_has ls' nL ((i, pm_at al v) :: (pm_lc al 0 L).filter (fun q => !(q.1 == i) && (!(q.1 == i + 1) && !(q.1 + 1 == i && q.2.category == 2))))) : pm_D cx nL n0 s A al0 al H locs ls' (pm_st2 L i v) sg mu nu :=
  ⟨hD.1, hD.2.1, hD.2.2.1, hD.2.2.2.1, hD.2.2.2.2.1, pm_has_mono h pm_st2_sub⟩
theorem pm_lc_place {al : Nat → Nat} {i : Nat} {v : Value} (h : L[i]? = some (some v)) : ∃ k : Nat, (pm_lc al 0 L)[k]? = some (i, pm_at al v) := by
  have : (i, pm_at al v) ∈ pm_lc al 0 L := (pm_lc_mem al L 0 _).mpr ⟨i, v, h, by simp⟩
  exact List.getElem?_of_mem this
theorem pm_fv_ov {al : Nat → Nat} {f : Nat → Int32} {j : Nat} {o : Option (Option Nat)} : pm_fv al f j o = pm_at al (pm_ov o (f j)) := by
  cases o with
  | none => rfl
  | some o => cases o <;> rfl
theorem pm_fields {own : String} {cc : ByteArray} {pc k ci j : Nat} {n : Nat} (h : pm_eok own cc (pc, .getfield k, n, .inl (ci, j)) = true) : ∃ q : vw_C, vwCl[ci]? = some q ∧ j < q.2.2 ∧ Cond.fieldLink own k (q.2.1 j).1 (q.2.1 j).2.1 (q.2.1 j).2.2.1 ∈ pm_tbl := by
  have h2 := (Bool.and_eq_true_iff.mp h).2
  have h3 : pm_fok own k ci j = true := h2
  unfold pm_fok at h3
  split at h3
  · rename_i q hq
    simp only [Bool.and_eq_true, decide_eq_true_eq, Nat.blt_eq] at h3
    exact ⟨q, hq, h3.1, h3.2⟩
  · cases h3
theorem pm_fieldsP {own : String} {cc : ByteArray} {pc k ci j : Nat} {n : Nat} (h : pm_eok own cc (pc, .putfield k, n, .inl (ci, j)) = true) : ∃ q : vw_C, vwCl[ci]? = some q ∧ j < q.2.2 ∧ Cond.fieldLink own k (q.2.1 j).1 (q.2.1 j).2.1 (q.2.1 j).2.2.1 ∈ pm_tbl := by
  have h2 := (Bool.and_eq_true_iff.mp h).2
  have h3 : pm_fok own k ci j = true := h2
  unfold pm_fok at h3
  split at h3
  · rename_i q hq
    simp only [Bool.and_eq_true, decide_eq_true_eq, Nat.blt_eq] at h3
    exact ⟨q, hq, h3.1, h3.2⟩
  · cases h3
end

/-! ===== the shape of the cells, small words ===== -/
/-- cells 0 to 18 the class's, 19 to 39 the reference's, ex the images' -/
def sh_ (i0 i1 : Option Nat) (ex : List pm_C) : List pm_C :=
  (0, 5, [some (some 1), some (some 3), some (some 9), some (some 10), some (some 13), some (some 18)]) ::
  (0, 3, [none, some (some 2)]) :: (1, 48, []) ::
  (0, 1, [none, none, none, none, none, none, some (some 4), some (some 5), some (some 6), some (some 7), some (some 8)]) :: (1, 6, []) :: (1, 6, []) :: (1, 6, []) :: (1, 6, []) :: (1, 6, []) ::
  (4, 2, [some i0, some i1]) ::
  (0, 0, [none, none, none, some (some 11), some (some 12)]) :: (1, 4, []) :: (1, 4, []) ::
  (0, 4, [none, none, none, some (some 14), some (some 15)]) :: (1, 13, []) :: (0, 2, [some (some 16), some (some 17)]) :: (1, 8192, []) :: (1, 8192, []) :: (3, 31, []) ::
  (0, 6, [none, some (some 20), some (some 21), none, none, none, none, some (some 22), none, none, some (some 23), none, none, some (some 24), none, none, none, some (some 25), none, some (some 26), some (some 27), some (some 28), some (some 29), none, none, some (some 30), some (some 31), some (some 32), some (some 33), some (some 34), some (some 35), some (some 36), some (some 37), some (some 38), some (some 39)]) ::
  (1, 6, []) :: (1, 6, []) :: (1, 48, []) :: (1, 6, []) :: (1, 12, []) :: (1, 6, []) :: (2, 49, []) :: (3, 32, []) :: (3, 65536, []) :: (3, 65536, []) :: (1, 5400, []) :: (1, 5400, []) :: (1, 5400, []) :: (1, 16384, []) :: (1, 16, []) :: (1, 16, []) :: (1, 16, []) :: (1, 16, []) :: (1, 84, []) :: (2, 2, []) :: ex
/-- nothing changes, and this is answered -/
abbrev pm_ret (r : Option Value) (sg : List pm_C) (mu : pm_I) (nu : pm_J) : pm_Po := fun v sg' mu' nu' => r = v ∧ sg = sg' ∧ mu = mu' ∧ nu = nu'
def bI (c : Prop) [Decidable c] : Int32 := if c then 1 else 0
theorem bI_z {c : Prop} [Decidable c] : bI c = 0 ↔ ¬ c := by
  unfold bI
  by_cases h : c
  · simp [h]
  · simp [h]
theorem bI_n {c : Prop} [Decidable c] : ¬ bI c = 0 ↔ c := by
  rw [bI_z]
  exact Decidable.not_not
theorem bI_1 {c : Prop} [Decidable c] (h : c) : bI c = 1 := if_pos h
theorem bI_0 {c : Prop} [Decidable c] (h : ¬ c) : bI c = 0 := if_neg h
theorem bI_w {c : Prop} [Decidable c] : narrow .boolean (.int (bI c)) = .int (bI c) := by
  unfold bI
  by_cases h : c
  · rw [if_pos h]; rfl
  · rw [if_neg h]; rfl
theorem bI_c {c e : Prop} [Decidable c] [Decidable e] (h : c ↔ e) : bI c = bI e := by
  unfold bI
  by_cases h1 : c
  · rw [if_pos h1, if_pos (h.mp h1)]
  · rw [if_neg h1, if_neg (fun q => h1 (h.mpr q))]
/-- a frame may be entered with other words for the same locals, stack or memory -/
theorem pm_G.cast {cx : pm_CX} {fx : pm_FX} {cells slots pc : Nat} {L L' : pm_L} {S S' : List Value} {sg : List pm_C} {mu mu' : pm_I} {nu nu' : pm_J} (k : pm_G cx fx cells slots pc L' S' sg mu' nu') (h1 : L = L') (h2 : S = S') (h3 : mu = mu') (h4 : nu = nu') : pm_G cx fx cells slots pc L S sg mu nu := by
  subst h1; subst h2; subst h3; subst h4
  exact k
theorem sl_ : ∀ n, n < 32 → ((nI n &&& 31).toBitVec.smod 32).toNat = n := by decide +kernel
theorem su_ : ∀ n, n < 32 → (((nI n).toUInt32 &&& Int32.toUInt32 31).toBitVec % 32).toNat = n := by decide +kernel
theorem nI_m1 {n : Nat} (h : 0 < n) : nI n - 1 = nI (n - 1) := by
  obtain ⟨k, rfl⟩ : ∃ k, n = k + 1 := ⟨n - 1, by omega⟩
  exact nI_pred k
theorem lt_toInt {a b : Int32} : a < b ↔ a.toInt < b.toInt := Int32.lt_iff_toInt_lt
theorem le_toInt {a b : Int32} : a ≤ b ↔ a.toInt ≤ b.toInt := Int32.le_iff_toInt_le
theorem pm_enterN {cx : pm_CX} {mi : pm_M} {d mc ms : Nat} {as : List Value} {sg : List pm_C} {mu : pm_I} {nu : pm_J} {Q : pm_Po} (k : Nat) (hok : pm_ok mi = true) (hn : (pm_la as).length + k = mi.2.2.1) (h : pm_G cx (mi, d, mc, ms, sg.length, Q) 0 0 0 (pm_la as ++ List.replicate k none) [] sg mu nu) : pm_T cx mi d mc ms as sg mu nu Q :=
  pm_enter hok (by omega) (by rw [show mi.2.2.1 - (pm_la as).length = k by omega]; exact h)
/-- some locals are forgotten -/
def pm_fg : pm_L → List Bool → pm_L
  | [], _ => []
  | o :: r, [] => o :: r
  | _ :: r, true :: bs => none :: pm_fg r bs
  | o :: r, false :: bs => o :: pm_fg r bs
theorem pm_fg_get : ∀ (L : pm_L) (bs : List Bool) (j : Nat) (v : Value), (pm_fg L bs)[j]? = some (some v) → L[j]? = some (some v) := by
  intro L
  induction L with
  | nil => intro bs j v h; simp [pm_fg] at h
  | cons o r ih =>
    intro bs j v h
    cases bs with
    | nil => exact h
    | cons b bs =>
      cases b with
      | true =>
        cases j with
        | zero => simp [pm_fg] at h
        | succ j => simp only [pm_fg, List.getElem?_cons_succ] at h ⊢; exact ih bs j v h
      | false =>
        cases j with
        | zero => simpa [pm_fg] using h
        | succ j => simp only [pm_fg, List.getElem?_cons_succ] at h ⊢; exact ih bs j v h
theorem pm_G.fg {cx : pm_CX} {fx : pm_FX} {cells slots pc : Nat} {L : pm_L} {S : List Value} {sg : List pm_C} {mu : pm_I} {nu : pm_J} (bs : List Bool) (k : pm_G cx fx cells slots pc (pm_fg L bs) S sg mu nu) : pm_G cx fx cells slots pc L S sg mu nu := by
  intro p e s m args below meth c A al0 al H locs ls hS hD
  refine k p e s m args below meth c A al0 al H locs ls hS ⟨hD.1, hD.2.1, hD.2.2.1, hD.2.2.2.1, hD.2.2.2.2.1, pm_has_mono hD.2.2.2.2.2 ?_⟩
  intro q hq
  obtain ⟨j, v, h1, rfl⟩ := (pm_lc_mem al _ 0 q).mp hq
  exact (pm_lc_mem al _ 0 _).mpr ⟨j, v, pm_fg_get _ _ _ _ h1, rfl⟩

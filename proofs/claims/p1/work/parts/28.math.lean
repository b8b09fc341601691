/-! ===== Math.max, Math.min, System.arraycopy ===== -/
theorem pm_max_in : Cond.code Lib.Math.max.name Lib.Math.max.code 2 (some .int) ∈ pm_tbl := by decide +kernel
theorem pm_min_in : Cond.code Lib.Math.min.name Lib.Math.min.code 2 (some .int) ∈ pm_tbl := by decide +kernel
theorem pm_cpy_in : Cond.native arraycopyName ∈ pm_tbl := by decide +kernel
section
variable {cx : pm_CX} {fx : pm_FX} {cells slots pc nx : Nat} {L : pm_L} {S : List Value} {sg : List pm_C} {mu : pm_I} {nu : pm_J}
theorem pm_mmax (hok : pm_ok fx.1 = true) {k : Nat} {x y : Int32} (h : pm_ent fx.1.2.2.2.2 pc = some ((.invokestatic k, 3, .inr (.inr (.inr yJ9_max_7cf53))), nx)) (hd : 1 ≤ fx.2.1) (hc : (S.map fun v => v.category).sum ≤ 8) (hm : cells ≤ fx.2.2.1 ∧ slots ≤ fx.2.2.2.1) (kk : pm_G cx fx cells slots nx L (.int (if x < y then y else x) :: S) sg mu nu) : pm_G cx fx cells slots pc L (.int y :: .int x :: S) sg mu nu := by
  obtain ⟨he, rfl⟩ := pm_ent_ok hok h
  have hw2 := (Bool.and_eq_true_iff.mp he).2
  replace hw2 : (decide (Cond.methodLink fx.1.1.cls k yJ9_max_7cf53 ∈ pm_tbl) && (decide (Cond.static yJ9_max_7cf53 ∈ pm_tbl) && decide (Cond.initialized yJ9_max_7cf53.cls ∈ pm_tbl))) = true := hw2
  simp only [Bool.and_eq_true, decide_eq_true_eq] at hw2
  obtain ⟨w1, w2, w3⟩ := hw2
  refine pm_G.stk (fun p e s m args below meth c A al0 al H locs ls Q hS hD kk => ?_) kk
  obtain ⟨hx, hb, hr, hml, hown, hts, hlk, hnam, hA, hK, hN⟩ := id hS
  have tw : ∀ {w : Cond}, w ∈ pm_tbl → w.before args s = true := fun hw => hts _ (List.mem_cons_of_mem _ hw)
  refine va_mmax hx hb (by rw [hml]; exact hD.2.2.2.2.2.1.symm) hown (tw w1) (tw w2) (tw w3) (tw pm_max_in) hd ?_ hm.1 hm.2 (pm_dc he) kk
  have := pm_cats (al := al) hc
  show _ + 13 ≤ fx.2.1 * 64
  omega
theorem pm_mmin (hok : pm_ok fx.1 = true) {k : Nat} {x y : Int32} (h : pm_ent fx.1.2.2.2.2 pc = some ((.invokestatic k, 3, .inr (.inr (.inr yJ9_min_7cf53))), nx)) (hd : 1 ≤ fx.2.1) (hc : (S.map fun v => v.category).sum ≤ 8) (hm : cells ≤ fx.2.2.1 ∧ slots ≤ fx.2.2.2.1) (kk : pm_G cx fx cells slots nx L (.int (if y < x then y else x) :: S) sg mu nu) : pm_G cx fx cells slots pc L (.int y :: .int x :: S) sg mu nu := by
  obtain ⟨he, rfl⟩ := pm_ent_ok hok h
  have hw2 := (Bool.and_eq_true_iff.mp he).2
  replace hw2 : (decide (Cond.methodLink fx.1.1.cls k yJ9_min_7cf53 ∈ pm_tbl) && (decide (Cond.static yJ9_min_7cf53 ∈ pm_tbl) && decide (Cond.initialized yJ9_min_7cf53.cls ∈ pm_tbl))) = true := hw2
  simp only [Bool.and_eq_true, decide_eq_true_eq] at hw2
  obtain ⟨w1, w2, w3⟩ := hw2
  refine pm_G.stk (fun p e s m args below meth c A al0 al H locs ls Q hS hD kk => ?_) kk
  obtain ⟨hx, hb, hr, hml, hown, hts, hlk, hnam, hA, hK, hN⟩ := id hS
  have tw : ∀ {w : Cond}, w ∈ pm_tbl → w.before args s = true := fun hw => hts _ (List.mem_cons_of_mem _ hw)
  refine va_mmin hx hb (by rw [hml]; exact hD.2.2.2.2.2.1.symm) hown (tw w1) (tw w2) (tw w3) (tw pm_min_in) hd ?_ hm.1 hm.2 (pm_dc he) kk
  have := pm_cats (al := al) hc
  show _ + 13 ≤ fx.2.1 * 64
  omega
/-- n ints copied, from the arrays' beginnings -/
theorem pm_cpy (hok : pm_ok fx.1 = true) {k a b na nb n : Nat} {ra rb : List (Option (Option Nat))} (h : pm_ent fx.1.2.2.2.2 pc = some ((.invokestatic k, 3, .inr (.inr (.inr arraycopyName))), nx)) (ha : sg[a]? = some (1, na, ra)) (hb : sg[b]? = some (1, nb, rb)) (hn : n < 2 ^ 31) (hna : n ≤ na) (hnb : n ≤ nb) (hd : 1 ≤ fx.2.1) (hc : (S.map fun v => v.category).sum ≤ 8) (kk : pm_G cx fx cells slots nx L S sg (fun q => if q = b then (fun j => if j < n then mu a j else mu b j) else mu q) nu) : pm_G cx fx cells slots pc L (.int (nI n) :: .int 0 :: .ref b :: .int 0 :: .ref a :: S) sg mu nu := by
  obtain ⟨he, rfl⟩ := pm_ent_ok hok h
  have hw2 := (Bool.and_eq_true_iff.mp he).2
  replace hw2 : (decide (Cond.methodLink fx.1.1.cls k arraycopyName ∈ pm_tbl) && (decide (Cond.static arraycopyName ∈ pm_tbl) && decide (Cond.initialized arraycopyName.cls ∈ pm_tbl))) = true := hw2
  simp only [Bool.and_eq_true, decide_eq_true_eq] at hw2
  obtain ⟨w1, w2, w3⟩ := hw2
  intro p e s m args below meth c A al0 al H locs ls hS hD
  obtain ⟨hx, hb', hr, hml, hown, hts, hlk, hnam, hA, hK, hN⟩ := id hS
  have tw : ∀ {w : Cond}, w ∈ pm_tbl → w.before args s = true := fun hw => hts _ (List.mem_cons_of_mem _ hw)
  have en : (nI n).toNatClampNeg = n := nI_clamp hn
  have e0 : (0 : Int32).toNatClampNeg = 0 := rfl
  refine va_copyi hx hb' (by rw [hml]; exact hD.2.2.2.2.2.1.symm) hown (tw w1) (tw pm_cpy_in) (tw w2) (tw w3) hK hD.2.2.1 hD.2.2.2.1 hD.2.2.2.2.1 a b 0 0 (pm_W_at ha) (pm_W_at hb) rfl rfl rfl (by decide) (by decide) (fun q => by have := lt_toInt.mp q; rw [nI_toInt hn] at this; have h3 : (0 : Int32).toInt = 0 := rfl; omega) (by rw [en, e0]; omega) (by rw [en, e0]; omega) (fun i hi => rfl) hd ?_ (pm_dc he) (fun H1 locs1 hP1 hD1 hS1 => ?_)
  · have := pm_cats (al := al) hc
    have e5 : nativeFrameWords "java/lang/System" "arraycopy" 5 + 11 ≤ 40 := by decide
    show _ + (nativeFrameWords "java/lang/System" "arraycopy" 5 + 11) ≤ fx.2.1 * 64
    omega
  · have e1 : (pm_W cx.2.2.2 al mu nu 0 sg).set b (al b, .inl (cx.2.2.2 0, nb, .inl (va_cpy (mu a) (mu b) (0 : Int32).toNatClampNeg (0 : Int32).toNatClampNeg (nI n).toNatClampNeg))) = pm_W cx.2.2.2 al (fun q => if q = b then (fun j => if j < n then mu a j else mu b j) else mu q) nu 0 sg := by
      refine pm_W_set rfl (fun q c hq hc => ⟨hc, if_neg hq, rfl⟩) (fun c hc => ?_)
      rw [hb] at hc
      cases hc
      show Sum.inl _ = _
      dsimp only
      rw [if_pos rfl, en, e0]
      congr 4
      funext j
      unfold va_cpy
      by_cases hj : j < n
      · rw [if_pos hj, if_pos ⟨Nat.zero_le _, by omega⟩]; congr 1; omega
      · rw [if_neg hj, if_neg (by omega)]
    rw [e1] at hP1 hD1
    exact kk p e s m args below meth c A al0 al H1 locs1 ls hS ⟨hD.1, hD.2.1, hP1, hD1, hS1, hD.2.2.2.2.2⟩
end

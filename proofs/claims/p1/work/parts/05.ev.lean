/-! ===== what isn't straight: branches, arrays, divisions, calls, ends ===== -/
def pm_ent (tab : List pm_E) (pc : Nat) : Option ((Instr × Nat × pm_X) × Nat) := match pm_find tab pc with
  | en :: en2 :: _ => (match Nat.beq (en.1 + en.2.2.1) en2.1 with
    | true => some (en.2, en2.1)
    | false => some (en.2, en.1 + en.2.2.1))
  | [en] => some (en.2, en.1 + en.2.2.1)
  | [] => none
theorem pm_ent_ok {mi : pm_M} {pc nx n : Nat} {i : Instr} {x : pm_X} (hok : pm_ok mi = true) (h : pm_ent mi.2.2.2.2 pc = some ((i, n, x), nx)) : pm_eok mi.1.cls mi.2.1 (pc, i, n, x) = true ∧ nx = pc + n := by
  obtain ⟨-, -, -, -, hall⟩ := pm_ok_parts hok
  unfold pm_ent at h
  split at h
  · rename_i en en2 r hf
    have h1 := pm_find_hd _ _ _ _ hf
    have h2 := hall en (pm_find_sub pc _ en (by rw [hf]; exact List.mem_cons_self))
    obtain ⟨p0, i0, n0, x0⟩ := en
    dsimp only at h1 h
    subst h1
    split at h
    · rename_i h3
      have h3 := Nat.eq_of_beq_eq_true h3
      cases h
      exact ⟨h2, h3.symm⟩
    · cases h
      exact ⟨h2, rfl⟩
  · rename_i en hf
    have h1 := pm_find_hd _ _ _ _ hf
    have h2 := hall en (pm_find_sub pc _ en (by rw [hf]; exact List.mem_cons_self))
    obtain ⟨p0, i0, n0, x0⟩ := en
    dsimp only at h1 h
    subst h1
    cases h
    exact ⟨h2, rfl⟩
  · cases h
section
variable {cx : pm_CX} {fx : pm_FX} {cells slots pc nx : Nat} {L : pm_L} {S : List Value} {sg : List pm_C} {mu : pm_I} {nu : pm_J}
theorem pm_ieq (hok : pm_ok fx.1 = true) {off : Int} {t u : Nat} {x y : Int32} (h : pm_ent fx.1.2.2.2.2 pc = some ((.if_icmp .eq off, 3, .inl (t, u)), nx)) (kt : x = y → pm_G cx fx cells slots t L S sg mu nu) (kf : ¬ x = y → pm_G cx fx cells slots nx L S sg mu nu) : pm_G cx fx cells slots pc L (.int y :: .int x :: S) sg mu nu := by
  obtain ⟨he, rfl⟩ := pm_ent_ok hok h
  have ht := of_decide_eq_true (Bool.and_eq_true_iff.mp he).2
  intro p e s m args below meth c A al0 al H locs ls hS hD
  exact lv_icmp_eq hS.1 hS.2.1 (pm_dc he) ht (fun q => kt q p e s m args below meth c A al0 al H locs ls hS hD) (fun q => kf q p e s m args below meth c A al0 al H locs ls hS hD)
theorem pm_zeq (hok : pm_ok fx.1 = true) {off : Int} {t u : Nat} {x : Int32} (h : pm_ent fx.1.2.2.2.2 pc = some ((.ifCond .eq off, 3, .inl (t, u)), nx)) (kt : x = 0 → pm_G cx fx cells slots t L S sg mu nu) (kf : ¬ x = 0 → pm_G cx fx cells slots nx L S sg mu nu) : pm_G cx fx cells slots pc L (.int x :: S) sg mu nu := by
  obtain ⟨he, rfl⟩ := pm_ent_ok hok h
  have ht := of_decide_eq_true (Bool.and_eq_true_iff.mp he).2
  intro p e s m args below meth c A al0 al H locs ls hS hD
  exact lv_if_eq hS.1 hS.2.1 (pm_dc he) ht (fun q => kt q p e s m args below meth c A al0 al H locs ls hS hD) (fun q => kf q p e s m args below meth c A al0 al H locs ls hS hD)
theorem pm_ine (hok : pm_ok fx.1 = true) {off : Int} {t u : Nat} {x y : Int32} (h : pm_ent fx.1.2.2.2.2 pc = some ((.if_icmp .ne off, 3, .inl (t, u)), nx)) (kt : ¬ x = y → pm_G cx fx cells slots t L S sg mu nu) (kf : x = y → pm_G cx fx cells slots nx L S sg mu nu) : pm_G cx fx cells slots pc L (.int y :: .int x :: S) sg mu nu := by
  obtain ⟨he, rfl⟩ := pm_ent_ok hok h
  have ht := of_decide_eq_true (Bool.and_eq_true_iff.mp he).2
  intro p e s m args below meth c A al0 al H locs ls hS hD
  exact lv_icmp_ne hS.1 hS.2.1 (pm_dc he) ht (fun q => kt q p e s m args below meth c A al0 al H locs ls hS hD) (fun q => kf q p e s m args below meth c A al0 al H locs ls hS hD)
theorem pm_zne (hok : pm_ok fx.1 = true) {off : Int} {t u : Nat} {x : Int32} (h : pm_ent fx.1.2.2.2.2 pc = some ((.ifCond .ne off, 3, .inl (t, u)), nx)) (kt : ¬ x = 0 → pm_G cx fx cells slots t L S sg mu nu) (kf : x = 0 → pm_G cx fx cells slots nx L S sg mu nu) : pm_G cx fx cells slots pc L (.int x :: S) sg mu nu := by
  obtain ⟨he, rfl⟩ := pm_ent_ok hok h
  have ht := of_decide_eq_true (Bool.and_eq_true_iff.mp he).2
  intro p e s m args below meth c A al0 al H locs ls hS hD
  exact lv_if_ne hS.1 hS.2.1 (pm_dc he) ht (fun q => kt q p e s m args below meth c A al0 al H locs ls hS hD) (fun q => kf q p e s m args below meth c A al0 al H locs ls hS hD)
theorem pm_ilt (hok : pm_ok fx.1 = true) {off : Int} {t u : Nat} {x y : Int32} (h : pm_ent fx.1.2.2.2.2 pc = some ((.if_icmp .lt off, 3, .inl (t, u)), nx)) (kt : x < y → pm_G cx fx cells slots t L S sg mu nu) (kf : ¬ x < y → pm_G cx fx cells slots nx L S sg mu nu) : pm_G cx fx cells slots pc L (.int y :: .int x :: S) sg mu nu := by
  obtain ⟨he, rfl⟩ := pm_ent_ok hok h
  have ht := of_decide_eq_true (Bool.and_eq_true_iff.mp he).2
  intro p e s m args below meth c A al0 al H locs ls hS hD
  exact lv_icmp_lt hS.1 hS.2.1 (pm_dc he) ht (fun q => kt q p e s m args below meth c A al0 al H locs ls hS hD) (fun q => kf q p e s m args below meth c A al0 al H locs ls hS hD)
theorem pm_zlt (hok : pm_ok fx.1 = true) {off : Int} {t u : Nat} {x : Int32} (h : pm_ent fx.1.2.2.2.2 pc = some ((.ifCond .lt off, 3, .inl (t, u)), nx)) (kt : x < 0 → pm_G cx fx cells slots t L S sg mu nu) (kf : ¬ x < 0 → pm_G cx fx cells slots nx L S sg mu nu) : pm_G cx fx cells slots pc L (.int x :: S) sg mu nu := by
  obtain ⟨he, rfl⟩ := pm_ent_ok hok h
  have ht := of_decide_eq_true (Bool.and_eq_true_iff.mp he).2
  intro p e s m args below meth c A al0 al H locs ls hS hD
  exact lv_if_lt hS.1 hS.2.1 (pm_dc he) ht (fun q => kt q p e s m args below meth c A al0 al H locs ls hS hD) (fun q => kf q p e s m args below meth c A al0 al H locs ls hS hD)
theorem pm_ige (hok : pm_ok fx.1 = true) {off : Int} {t u : Nat} {x y : Int32} (h : pm_ent fx.1.2.2.2.2 pc = some ((.if_icmp .ge off, 3, .inl (t, u)), nx)) (kt : y ≤ x → pm_G cx fx cells slots t L S sg mu nu) (kf : ¬ y ≤ x → pm_G cx fx cells slots nx L S sg mu nu) : pm_G cx fx cells slots pc L (.int y :: .int x :: S) sg mu nu := by
  obtain ⟨he, rfl⟩ := pm_ent_ok hok h
  have ht := of_decide_eq_true (Bool.and_eq_true_iff.mp he).2
  intro p e s m args below meth c A al0 al H locs ls hS hD
  exact lv_icmp_ge hS.1 hS.2.1 (pm_dc he) ht (fun q => kt q p e s m args below meth c A al0 al H locs ls hS hD) (fun q => kf q p e s m args below meth c A al0 al H locs ls hS hD)
theorem pm_zge (hok : pm_ok fx.1 = true) {off : Int} {t u : Nat} {x : Int32} (h : pm_ent fx.1.2.2.2.2 pc = some ((.ifCond .ge off, 3, .inl (t, u)), nx)) (kt : 0 ≤ x → pm_G cx fx cells slots t L S sg mu nu) (kf : ¬ 0 ≤ x → pm_G cx fx cells slots nx L S sg mu nu) : pm_G cx fx cells slots pc L (.int x :: S) sg mu nu := by
  obtain ⟨he, rfl⟩ := pm_ent_ok hok h
  have ht := of_decide_eq_true (Bool.and_eq_true_iff.mp he).2
  intro p e s m args below meth c A al0 al H locs ls hS hD
  exact lv_if_ge hS.1 hS.2.1 (pm_dc he) ht (fun q => kt q p e s m args below meth c A al0 al H locs ls hS hD) (fun q => kf q p e s m args below meth c A al0 al H locs ls hS hD)
theorem pm_igt (hok : pm_ok fx.1 = true) {off : Int} {t u : Nat} {x y : Int32} (h : pm_ent fx.1.2.2.2.2 pc = some ((.if_icmp .gt off, 3, .inl (t, u)), nx)) (kt : y < x → pm_G cx fx cells slots t L S sg mu nu) (kf : ¬ y < x → pm_G cx fx cells slots nx L S sg mu nu) : pm_G cx fx cells slots pc L (.int y :: .int x :: S) sg mu nu := by
  obtain ⟨he, rfl⟩ := pm_ent_ok hok h
  have ht := of_decide_eq_true (Bool.and_eq_true_iff.mp he).2
  intro p e s m args below meth c A al0 al H locs ls hS hD
  exact lv_icmp_gt hS.1 hS.2.1 (pm_dc he) ht (fun q => kt q p e s m args below meth c A al0 al H locs ls hS hD) (fun q => kf q p e s m args below meth c A al0 al H locs ls hS hD)
theorem pm_zgt (hok : pm_ok fx.1 = true) {off : Int} {t u : Nat} {x : Int32} (h : pm_ent fx.1.2.2.2.2 pc = some ((.ifCond .gt off, 3, .inl (t, u)), nx)) (kt : 0 < x → pm_G cx fx cells slots t L S sg mu nu) (kf : ¬ 0 < x → pm_G cx fx cells slots nx L S sg mu nu) : pm_G cx fx cells slots pc L (.int x :: S) sg mu nu := by
  obtain ⟨he, rfl⟩ := pm_ent_ok hok h
  have ht := of_decide_eq_true (Bool.and_eq_true_iff.mp he).2
  intro p e s m args below meth c A al0 al H locs ls hS hD
  exact lv_if_gt hS.1 hS.2.1 (pm_dc he) ht (fun q => kt q p e s m args below meth c A al0 al H locs ls hS hD) (fun q => kf q p e s m args below meth c A al0 al H locs ls hS hD)
theorem pm_ile (hok : pm_ok fx.1 = true) {off : Int} {t u : Nat} {x y : Int32} (h : pm_ent fx.1.2.2.2.2 pc = some ((.if_icmp .le off, 3, .inl (t, u)), nx)) (kt : x ≤ y → pm_G cx fx cells slots t L S sg mu nu) (kf : ¬ x ≤ y → pm_G cx fx cells slots nx L S sg mu nu) : pm_G cx fx cells slots pc L (.int y :: .int x :: S) sg mu nu := by
  obtain ⟨he, rfl⟩ := pm_ent_ok hok h
  have ht := of_decide_eq_true (Bool.and_eq_true_iff.mp he).2
  intro p e s m args below meth c A al0 al H locs ls hS hD
  exact lv_icmp_le hS.1 hS.2.1 (pm_dc he) ht (fun q => kt q p e s m args below meth c A al0 al H locs ls hS hD) (fun q => kf q p e s m args below meth c A al0 al H locs ls hS hD)
theorem pm_zle (hok : pm_ok fx.1 = true) {off : Int} {t u : Nat} {x : Int32} (h : pm_ent fx.1.2.2.2.2 pc = some ((.ifCond .le off, 3, .inl (t, u)), nx)) (kt : x ≤ 0 → pm_G cx fx cells slots t L S sg mu nu) (kf : ¬ x ≤ 0 → pm_G cx fx cells slots nx L S sg mu nu) : pm_G cx fx cells slots pc L (.int x :: S) sg mu nu := by
  obtain ⟨he, rfl⟩ := pm_ent_ok hok h
  have ht := of_decide_eq_true (Bool.and_eq_true_iff.mp he).2
  intro p e s m args below meth c A al0 al H locs ls hS hD
  exact lv_if_le hS.1 hS.2.1 (pm_dc he) ht (fun q => kt q p e s m args below meth c A al0 al H locs ls hS hD) (fun q => kf q p e s m args below meth c A al0 al H locs ls hS hD)
theorem pm_ial (hok : pm_ok fx.1 = true) {x : pm_X} {i : Int32} {k n : Nat} {rs : List (Option (Option Nat))} (h : pm_ent fx.1.2.2.2.2 pc = some ((.iaload, 1, x), nx)) (hs : sg[k]? = some (1, n, rs)) (hin : vp_in i n) (kk : pm_G cx fx cells slots nx L (.int (mu k i.toNatClampNeg) :: S) sg mu nu) : pm_G cx fx cells slots pc L (.int i :: .ref k :: S) sg mu nu := by
  obtain ⟨he, rfl⟩ := pm_ent_ok hok h
  exact pm_G.stk (fun p e s m args below meth c A al0 al H locs ls Q hS hD kk => va_iald hS.1 hS.2.1 hS.2.2.2.2.2.2.2.2.2.1 hD.2.2.1 k 0 (pm_W_at hs) rfl hin (pm_dc he) kk) kk
theorem pm_zal (hok : pm_ok fx.1 = true) {x : pm_X} {i : Int32} {k n : Nat} {rs : List (Option (Option Nat))} (h : pm_ent fx.1.2.2.2.2 pc = some ((.baload, 1, x), nx)) (hs : sg[k]? = some (2, n, rs)) (hin : vp_in i n) (kk : pm_G cx fx cells slots nx L (.int (mu k i.toNatClampNeg) :: S) sg mu nu) : pm_G cx fx cells slots pc L (.int i :: .ref k :: S) sg mu nu := by
  obtain ⟨he, rfl⟩ := pm_ent_ok hok h
  exact pm_G.stk (fun p e s m args below meth c A al0 al H locs ls Q hS hD kk => va_zald hS.1 hS.2.1 hS.2.2.2.2.2.2.2.2.2.1 hD.2.2.1 k 1 (pm_W_at hs) rfl hin (pm_dc he) kk) kk
theorem pm_lal (hok : pm_ok fx.1 = true) {x : pm_X} {i : Int32} {k n : Nat} {rs : List (Option (Option Nat))} (h : pm_ent fx.1.2.2.2.2 pc = some ((.laload, 1, x), nx)) (hs : sg[k]? = some (3, n, rs)) (hin : vp_in i n) (kk : pm_G cx fx cells slots nx L (.long (nu k i.toNatClampNeg) :: S) sg mu nu) : pm_G cx fx cells slots pc L (.int i :: .ref k :: S) sg mu nu := by
  obtain ⟨he, rfl⟩ := pm_ent_ok hok h
  exact pm_G.stk (fun p e s m args below meth c A al0 al H locs ls Q hS hD kk => va_lald hS.1 hS.2.1 hS.2.2.2.2.2.2.2.2.2.1 hD.2.2.1 k 2 (pm_W_at hs) rfl hin (pm_dc he) kk) kk
theorem pm_ias (hok : pm_ok fx.1 = true) {x : pm_X} {i : Int32} {v : Int32} {k n : Nat} {rs : List (Option (Option Nat))} (h : pm_ent fx.1.2.2.2.2 pc = some ((.iastore, 1, x), nx)) (hs : sg[k]? = some (1, n, rs)) (hin : vp_in i n) (kk : pm_G cx fx cells slots nx L S sg (pm_up mu k i.toNatClampNeg v) (nu)) : pm_G cx fx cells slots pc L (.int v :: .int i :: .ref k :: S) sg mu nu := by
  obtain ⟨he, rfl⟩ := pm_ent_ok hok h
  intro p e s m args below meth c A al0 al H locs ls hS hD
  refine va_iast hS.1 hS.2.1 hS.2.2.2.2.2.2.2.2.2.1 hD.2.2.1 hD.2.2.2.1 hD.2.2.2.2.1 k 0 (pm_W_at hs) rfl hin (pm_dc he) (fun H1 locs1 hP1 hD1 hS1 => ?_)
  have e1 : (pm_W cx.2.2.2 al mu nu 0 sg).set k (al k, .inl (cx.2.2.2 0, n, .inl (upd (mu k) i.toNatClampNeg v))) = pm_W cx.2.2.2 al (pm_up mu k i.toNatClampNeg v) (nu) 0 sg := by
    refine pm_W_set rfl (fun a c ha hc => ⟨hc, pm_up_ne ha, rfl⟩) (fun c hc => ?_)
    rw [hs] at hc
    cases hc
    show Sum.inl _ = _
    rw [pm_up_eq]
  rw [e1] at hP1 hD1
  exact kk p e s m args below meth c A al0 al H1 locs1 ls hS ⟨hD.1, hD.2.1, hP1, hD1, hS1, hD.2.2.2.2.2⟩
theorem pm_zas (hok : pm_ok fx.1 = true) {x : pm_X} {i : Int32} {v : Int32} {k n : Nat} {rs : List (Option (Option Nat))} (h : pm_ent fx.1.2.2.2.2 pc = some ((.bastore, 1, x), nx)) (hs : sg[k]? = some (2, n, rs)) (hin : vp_in i n) (kk : pm_G cx fx cells slots nx L S sg (pm_up mu k i.toNatClampNeg (vp_nar .boolean v)) (nu)) : pm_G cx fx cells slots pc L (.int v :: .int i :: .ref k :: S) sg mu nu := by
  obtain ⟨he, rfl⟩ := pm_ent_ok hok h
  intro p e s m args below meth c A al0 al H locs ls hS hD
  refine va_zast hS.1 hS.2.1 hS.2.2.2.2.2.2.2.2.2.1 hD.2.2.1 hD.2.2.2.1 hD.2.2.2.2.1 k 1 (pm_W_at hs) rfl hin (pm_dc he) (fun H1 locs1 hP1 hD1 hS1 => ?_)
  have e1 : (pm_W cx.2.2.2 al mu nu 0 sg).set k (al k, .inl (cx.2.2.2 1, n, .inl (upd (mu k) i.toNatClampNeg (vp_nar .boolean v)))) = pm_W cx.2.2.2 al (pm_up mu k i.toNatClampNeg (vp_nar .boolean v)) (nu) 0 sg := by
    refine pm_W_set rfl (fun a c ha hc => ⟨hc, pm_up_ne ha, rfl⟩) (fun c hc => ?_)
    rw [hs] at hc
    cases hc
    show Sum.inl _ = _
    rw [pm_up_eq]
  rw [e1] at hP1 hD1
  exact kk p e s m args below meth c A al0 al H1 locs1 ls hS ⟨hD.1, hD.2.1, hP1, hD1, hS1, hD.2.2.2.2.2⟩
theorem pm_las (hok : pm_ok fx.1 = true) {x : pm_X} {i : Int32} {v : Int64} {k n : Nat} {rs : List (Option (Option Nat))} (h : pm_ent fx.1.2.2.2.2 pc = some ((.lastore, 1, x), nx)) (hs : sg[k]? = some (3, n, rs)) (hin : vp_in i n) (kk : pm_G cx fx cells slots nx L S sg (mu) (pm_uq nu k i.toNatClampNeg v)) : pm_G cx fx cells slots pc L (.long v :: .int i :: .ref k :: S) sg mu nu := by
  obtain ⟨he, rfl⟩ := pm_ent_ok hok h
  intro p e s m args below meth c A al0 al H locs ls hS hD
  refine va_last hS.1 hS.2.1 hS.2.2.2.2.2.2.2.2.2.1 hD.2.2.1 hD.2.2.2.1 hD.2.2.2.2.1 k 2 (pm_W_at hs) rfl hin (pm_dc he) (fun H1 locs1 hP1 hD1 hS1 => ?_)
  have e1 : (pm_W cx.2.2.2 al mu nu 0 sg).set k (al k, .inl (cx.2.2.2 2, n, .inr (.inl (vp_updL (nu k) i.toNatClampNeg v)))) = pm_W cx.2.2.2 al (mu) (pm_uq nu k i.toNatClampNeg v) 0 sg := by
    refine pm_W_set rfl (fun a c ha hc => ⟨hc, rfl, pm_uq_ne ha⟩) (fun c hc => ?_)
    rw [hs] at hc
    cases hc
    show Sum.inl _ = _
    rw [pm_uq_eq]
  rw [e1] at hP1 hD1
  exact kk p e s m args below meth c A al0 al H1 locs1 ls hS ⟨hD.1, hD.2.1, hP1, hD1, hS1, hD.2.2.2.2.2⟩
theorem pm_div (hok : pm_ok fx.1 = true) {u : pm_X} {x y : Int32} (h : pm_ent fx.1.2.2.2.2 pc = some ((.idiv, 1, u), nx)) (hy : ¬ y = 0) (kk : pm_G cx fx cells slots nx L (.int (x / y) :: S) sg mu nu) : pm_G cx fx cells slots pc L (.int y :: .int x :: S) sg mu nu := by
  obtain ⟨he, rfl⟩ := pm_ent_ok hok h
  exact pm_G.stk (fun p e s m args below meth c A al0 al H locs ls Q hS hD kk => lv_idiv hS.1 hS.2.1 (pm_dc he) hy kk) kk
theorem pm_rem (hok : pm_ok fx.1 = true) {u : pm_X} {x y : Int32} (h : pm_ent fx.1.2.2.2.2 pc = some ((.irem, 1, u), nx)) (hy : ¬ y = 0) (kk : pm_G cx fx cells slots nx L (.int (x - x / y * y) :: S) sg mu nu) : pm_G cx fx cells slots pc L (.int y :: .int x :: S) sg mu nu := by
  obtain ⟨he, rfl⟩ := pm_ent_ok hok h
  exact pm_G.stk (fun p e s m args below meth c A al0 al H locs ls Q hS hD kk => lv_irem hS.1 hS.2.1 (pm_dc he) hy kk) kk
theorem pm_ldv (hok : pm_ok fx.1 = true) {u : pm_X} {x y : Int64} (h : pm_ent fx.1.2.2.2.2 pc = some ((.ldiv, 1, u), nx)) (hy : ¬ y = 0) (kk : pm_G cx fx cells slots nx L (.long (x / y) :: S) sg mu nu) : pm_G cx fx cells slots pc L (.long y :: .long x :: S) sg mu nu := by
  obtain ⟨he, rfl⟩ := pm_ent_ok hok h
  exact pm_G.stk (fun p e s m args below meth c A al0 al H locs ls Q hS hD kk => lv_ldiv hS.1 hS.2.1 (pm_dc he) hy kk) kk
theorem pm_lrm (hok : pm_ok fx.1 = true) {u : pm_X} {x y : Int64} (h : pm_ent fx.1.2.2.2.2 pc = some ((.lrem, 1, u), nx)) (hy : ¬ y = 0) (kk : pm_G cx fx cells slots nx L (.long (x - x / y * y) :: S) sg mu nu) : pm_G cx fx cells slots pc L (.long y :: .long x :: S) sg mu nu := by
  obtain ⟨he, rfl⟩ := pm_ent_ok hok h
  exact pm_G.stk (fun p e s m args below meth c A al0 al H locs ls Q hS hD kk => lv_lrem hS.1 hS.2.1 (pm_dc he) hy kk) kk
def pm_isZ (ci j : Nat) : Bool := match ci, j with
  | 0, 0 => true
  | 4, 0 => true
  | _, _ => false
theorem pm_isZ_ok {ci j : Nat} (h : pm_isZ ci j = true) : ∃ q : vw_C, vwCl[ci]? = some q ∧ j < q.2.2 ∧ (q.2.1 j).2.2.1 = "Z" ∧ (q.2.1 j).2.2.2 = false := by
  unfold pm_isZ at h
  split at h
  · exact ⟨_, rfl, by decide⟩
  · exact ⟨_, rfl, by decide⟩
  · cases h
/-- a boolean field -/
theorem pm_pz (hok : pm_ok fx.1 = true) {idx ci j k : Nat} {v : Int32} {fs : List (Option (Option Nat))} (h : pm_ent fx.1.2.2.2.2 pc = some ((.putfield idx, 3, .inl (ci, j)), nx)) (hZ : pm_isZ ci j = true) (hsg : sg[k]? = some (0, ci, fs)) (hfs : fs[j]? = some none) (hv : v = 0 ∨ v = 1) (kk : pm_G cx fx cells slots nx L S sg (pm_up mu k j v) nu) : pm_G cx fx cells slots pc L (.int v :: .ref k :: S) sg mu nu := by
  obtain ⟨he, rfl⟩ := pm_ent_ok hok h
  obtain ⟨q, hq, hj, hlk⟩ := pm_fieldsP he
  obtain ⟨q2, hq2, hj2, hdesc, hfin⟩ := pm_isZ_ok hZ
  cases hq.symm.trans hq2
  obtain ⟨hin, ty0, hty, hnm⟩ := pm_cls hq
  intro p e s m args below meth c A al0 al H locs ls hS hD
  have hlt : j < fs.length := (List.getElem?_eq_some_iff.mp hfs).1
  refine va_put (D := (cx.2.1, cx.2.2.1)) (ci := ci) (v := .int v) (ty := .boolean) (C := q.1) (T := q.2.1) (N := q.2.2) hS.1 hS.2.1 hS.2.2.2.2.2.1 (fun w hw => List.mem_cons_of_mem _ (hin w hw)) ty0 hty hnm hS.2.2.2.2.1 hS.2.2.2.2.2.2.2.2.2.1 hD.2.2.1 hD.2.2.2.1 hD.2.2.2.2.1 k (pm_W_at hsg) hq j hj (hS.2.2.2.2.2.1 _ (List.mem_cons_of_mem _ hlk)) (fun _ h9 => h9) hfin (by rw [hdesc]; rfl) (by rcases hv with rfl | rfl <;> rfl) (by rcases hv with rfl | rfl <;> rfl) (by rw [pm_fl_len]; exact hlt) (pm_dc he) (fun H1 locs1 hP1 hD1 hS1 => ?_)
  have e1 : (pm_W cx.2.2.2 al mu nu 0 sg).set k (al k, .inr (ci, (pm_fl al (mu k) 0 fs).set j (.int v))) = pm_W cx.2.2.2 al (pm_up mu k j v) nu 0 sg := by
    refine pm_W_set rfl (fun a c ha hc => ⟨hc, pm_up_ne ha, rfl⟩) (fun c hc => ?_)
    rw [hsg] at hc
    cases hc
    show Sum.inr _ = _
    rw [pm_fl_set _ _ _ _ _ _ hfs, pm_up_eq, Nat.zero_add]
  rw [e1] at hP1 hD1
  exact kk p e s m args below meth c A al0 al H1 locs1 ls hS ⟨hD.1, hD.2.1, hP1, hD1, hS1, hD.2.2.2.2.2⟩
/-- ends -/
theorem pm_ri (hok : pm_ok fx.1 = true) {x : pm_X} {v : Int32} {ty : FieldType} (h : pm_ent fx.1.2.2.2.2 pc = some ((.ireturn, 1, x), nx)) (hr : fx.1.2.2.2.1 = some ty) (hn : narrow ty (.int v) = .int v) (hc : cells ≤ fx.2.2.1) (hs : slots ≤ fx.2.2.2.1) (hq : fx.2.2.2.2.2 (some (.int v)) sg mu nu) : pm_G cx fx cells slots pc L [.int v] sg mu nu := by
  obtain ⟨he, rfl⟩ := pm_ent_ok hok h
  intro p e s m args below meth c A al0 al H locs ls hS hD
  refine W.widen hc hs ?_
  exact W.zret hS.1 hS.2.1 (by rw [hS.2.2.1]; exact hr) hn (fun t ht hW => ⟨⟨some (.int v), sg, mu, nu, al, hq, hD.1, hD.2.1, rfl, by rw [ht]; exact hD.2.2.1, hD.2.2.2.1⟩, hD.2.2.2.2.1.F ht⟩) hD.2.2.2.2.1.2.2 (pm_dc he) hS.2.2.2.2.2.2.1
theorem pm_rl (hok : pm_ok fx.1 = true) {x : pm_X} {v : Int64} (h : pm_ent fx.1.2.2.2.2 pc = some ((.lreturn, 1, x), nx)) (hr : fx.1.2.2.2.1 = some .long) (hc : cells ≤ fx.2.2.1) (hs : slots ≤ fx.2.2.2.1) (hq : fx.2.2.2.2.2 (some (.long v)) sg mu nu) : pm_G cx fx cells slots pc L [.long v] sg mu nu := by
  obtain ⟨he, rfl⟩ := pm_ent_ok hok h
  intro p e s m args below meth c A al0 al H locs ls hS hD
  refine W.widen hc hs ?_
  exact W.lret hS.1 hS.2.1 (by rw [hS.2.2.1]; exact hr) (fun t ht hW => ⟨⟨some (.long v), sg, mu, nu, al, hq, hD.1, hD.2.1, rfl, by rw [ht]; exact hD.2.2.1, hD.2.2.2.1⟩, hD.2.2.2.2.1.F ht⟩) hD.2.2.2.2.1.2.2 (pm_dc he) hS.2.2.2.2.2.2.1
theorem pm_rv (hok : pm_ok fx.1 = true) {x : pm_X} (h : pm_ent fx.1.2.2.2.2 pc = some ((.return_, 1, x), nx)) (hr : fx.1.2.2.2.1 = none) (hc : cells ≤ fx.2.2.1) (hs : slots ≤ fx.2.2.2.1) (hq : fx.2.2.2.2.2 none sg mu nu) : pm_G cx fx cells slots pc L [] sg mu nu := by
  obtain ⟨he, rfl⟩ := pm_ent_ok hok h
  intro p e s m args below meth c A al0 al H locs ls hS hD
  refine W.widen hc hs ?_
  exact W.vret hS.1 hS.2.1 (by rw [hS.2.2.1]; exact hr) (fun t ht hW => ⟨⟨none, sg, mu, nu, al, hq, hD.1, hD.2.1, rfl, by rw [ht]; exact hD.2.2.1, hD.2.2.2.1⟩, hD.2.2.2.2.1.F ht⟩) hD.2.2.2.2.1.2.2 (pm_dc he) hS.2.2.2.2.2.2.1
/-- switches -/
theorem pm_tsIn (hok : pm_ok fx.1 = true) {u : pm_X} {dflt lo hi : Int} {offs : Array Int} {len : Nat} {x : Int32} {off : Int} {tgt : Nat} (h : pm_ent fx.1.2.2.2.2 pc = some ((.tableswitch dflt lo hi offs, len, u), nx)) (h1 : ¬ x.toInt < lo) (h2 : ¬ hi < x.toInt) (ho : offs[(x.toInt - lo).toNat]? = some off) (ht : (pc : Int) + off = (tgt : Int)) (kk : pm_G cx fx cells slots tgt L S sg mu nu) : pm_G cx fx cells slots pc L (.int x :: S) sg mu nu := by
  obtain ⟨he, rfl⟩ := pm_ent_ok hok h
  exact pm_G.stk (fun p e s m args below meth c A al0 al H locs ls Q hS hD kk => lv_tableIn hS.1 hS.2.1 (pm_dc he) h1 h2 ho ht kk) kk
theorem pm_tsOut (hok : pm_ok fx.1 = true) {u : pm_X} {dflt lo hi : Int} {offs : Array Int} {len : Nat} {x : Int32} {tgt : Nat} (h : pm_ent fx.1.2.2.2.2 pc = some ((.tableswitch dflt lo hi offs, len, u), nx)) (h1 : x.toInt < lo ∨ hi < x.toInt) (ht : (pc : Int) + dflt = (tgt : Int)) (kk : pm_G cx fx cells slots tgt L S sg mu nu) : pm_G cx fx cells slots pc L (.int x :: S) sg mu nu := by
  obtain ⟨he, rfl⟩ := pm_ent_ok hok h
  exact pm_G.stk (fun p e s m args below meth c A al0 al H locs ls Q hS hD kk => lv_tableOut hS.1 hS.2.1 (pm_dc he) h1 ht kk) kk
theorem pm_nn (hok : pm_ok fx.1 = true) {off : Int} {t u k : Nat} (h : pm_ent fx.1.2.2.2.2 pc = some ((.ifnonnull off, 3, .inl (t, u)), nx)) (kk : pm_G cx fx cells slots t L S sg mu nu) : pm_G cx fx cells slots pc L (.ref k :: S) sg mu nu := by
  obtain ⟨he, rfl⟩ := pm_ent_ok hok h
  have ht := of_decide_eq_true (Bool.and_eq_true_iff.mp he).2
  exact pm_G.stk (fun p e s m args below meth c A al0 al H locs ls Q hS hD kk => lv_ifnonnull hS.1 hS.2.1 (pm_dc he) ht kk) kk
theorem pm_nnN (hok : pm_ok fx.1 = true) {off : Int} {u : pm_X} (h : pm_ent fx.1.2.2.2.2 pc = some ((.ifnonnull off, 3, u), nx)) (kk : pm_G cx fx cells slots nx L S sg mu nu) : pm_G cx fx cells slots pc L (.null :: S) sg mu nu := by
  obtain ⟨he, rfl⟩ := pm_ent_ok hok h
  exact pm_G.stk (fun p e s m args below meth c A al0 al H locs ls Q hS hD kk => lv_ifnonnullN hS.1 hS.2.1 (pm_dc he) kk) kk
/-- calls -/
def pm_wv (sg : List pm_C) (v : Value) : Bool := match v with
  | .ref k => (sg[k]?).isSome
  | _ => true
def pm_wo (sg : List pm_C) (o : Option Value) : Bool := match o with
  | some v => pm_wv sg v
  | none => true
def pm_wf (sg : List pm_C) (L : pm_L) (S : List Value) : Bool := L.all (pm_wo sg) && S.all (pm_wv sg)
theorem pm_wv_at {sg : List pm_C} {v : Value} {al al' : Nat → Nat} (h : pm_wv sg v = true) (ha : ∀ k, k < sg.length → al' k = al k) : pm_at al' v = pm_at al v := by
  cases v with
  | ref k =>
    have h1 : (sg[k]?).isSome = true := h
    have h2 : k < sg.length := by
      rcases Nat.lt_or_ge k sg.length with q | q
      · exact q
      · rw [List.getElem?_eq_none q] at h1; cases h1
    show Value.ref _ = Value.ref _
    rw [ha k h2]
  | _ => rfl
theorem pm_wf_L {sg : List pm_C} {L : pm_L} {S : List Value} {al al' : Nat → Nat} (h : pm_wf sg L S = true) (ha : ∀ k, k < sg.length → al' k = al k) : ∀ q ∈ pm_lc al' 0 L, q ∈ pm_lc al 0 L := by
  intro q hq
  obtain ⟨j, v, h1, rfl⟩ := (pm_lc_mem al' L 0 q).mp hq
  refine (pm_lc_mem al L 0 _).mpr ⟨j, v, h1, ?_⟩
  have h2 := List.all_eq_true.mp (Bool.and_eq_true_iff.mp h).1 _ (List.mem_of_getElem? h1)
  rw [pm_wv_at (v := v) h2 ha]
theorem pm_wf_S {sg : List pm_C} {L : pm_L} {S : List Value} {al al' : Nat → Nat} (h : pm_wf sg L S = true) (ha : ∀ k, k < sg.length → al' k = al k) : S.map (pm_at al') = S.map (pm_at al) := by
  apply List.map_congr_left
  intro v hv
  exact pm_wv_at (List.all_eq_true.mp (Bool.and_eq_true_iff.mp h).2 v hv) ha
/-- behind a call -/
theorem pm_after {p : Program} {e : Env} {s : State} {m : MethodId} {args : Array Value} {below : List Frame} {meth : Method} {c : Code} {A : Nat → Prop} {al0 al : Nat → Nat} {H : Heap} {locs : List Loc} {ls : Array Slot} {st0 rest : List Value} {mc' ms' : Nat} {a : Array Value} {Q' : pm_Po}
    (hS : pm_S cx fx.1 p s m args meth c A) (hD : pm_D cx fx.1.2.2.1 fx.2.2.2.2.1 s A al0 al H locs ls L sg mu nu) (hw : pm_wf sg L rest = true)
    (hr : va_Run p cx.1 e (pm_room fx.2.1 fx.2.2.1 fx.2.2.2.1) s m args below meth c H locs cells slots mc' ms' (F0 m pc ls st0) (rest.map (pm_at al)) (pm_Q cx sg.length Q' (va_A (pm_W cx.2.2.2 al mu nu 0 sg) H.size) al a) (va_A (pm_W cx.2.2.2 al mu nu 0 sg) H.size))
    (kk : ∀ r sg' mu' nu', Q' r sg' mu' nu' → sg.length ≤ sg'.length → pm_G cx fx (cells + mc') (slots + ms') (pc + 3) L (r.toList ++ rest) sg' mu' nu') :
    W p cx.1 e (pm_room fx.2.1 fx.2.2.1 fx.2.2.2.1) s m args below meth c H locs cells slots (MQ below (pm_Q cx fx.2.2.2.2.1 fx.2.2.2.2.2 A al0) args s fx.2.2.1 fx.2.2.2.1 A) (F0 m pc ls st0) := by
  intro T hT X
  obtain ⟨v, st₀, t, T', Lc, h0, X', hL, e1, e2, ⟨⟨r, sg', mu', nu', al', hQ, hal, hn, hv, hP', hD'⟩, hz, hk⟩, st⟩ := hr T hT X
  obtain ⟨h1, h2, hP, hDD, hSS, hl⟩ := hD
  have hv' : v = r.map (pm_at al') := by injection hv
  subst hv'
  rw [h0] at hz hk
  have hfree : ∀ q, va_A (pm_W cx.2.2.2 al mu nu 0 sg) H.size q → A q := by
    intro q hq
    rcases hq with ⟨j, x, hj⟩ | hq
    · exact hDD.2 j _ hj
    · exact hS.2.2.2.2.2.2.2.2.1 q (Nat.le_trans hSS.1 hq)
  have hSS' : va_S A s.heap T'.heap (locs ++ Lc) := ⟨Nat.le_trans hSS.1 (by rw [e1]; exact hz), fun q g1 g2 => by rw [e1, hk q (Nat.lt_of_lt_of_le g1 hSS.1) (fun z => g2 (hfree q z))]; exact hSS.2.1 q g1 g2, fun q hq => by
      rcases List.mem_append.mp hq with h | h
      · exact hSS.2.2 q h
      · exact hfree _ (hL q h)⟩
  obtain ⟨t2, a1, b1⟩ := kk r sg' mu' nu' hQ hn p e s m args below meth c A al0 al' T'.heap (locs ++ Lc) ls hS ⟨fun k hk2 => (hal k (Nat.lt_of_lt_of_le hk2 h2)).trans (h1 k hk2), Nat.le_trans h2 hn, by rw [e1]; exact hP', hD'.weaken (fun _ q _ hq => hfree q.1 hq), hSS', pm_has_mono hl (pm_wf_L hw hal)⟩ T' rfl X'
  refine ⟨t2, st t2 ?_, b1⟩
  have e3 : (r.toList ++ rest).map (pm_at al') = (r.map (pm_at al')).toList ++ rest.map (pm_at al) := by
    rw [List.map_append, pm_wf_S hw hal]
    cases r <;> rfl
  rw [e3] at a1
  exact a1
theorem pm_blind {as : List Value} {sz : Nat} {ws : va_W} {cx : pm_CX} : FrameBlind (va_Pc as (fun U => U.heap.size = sz ∧ va_P (cx.2.1, cx.2.2.1) vwCl ws U.heap ∧ va_K (cx.2.1, cx.2.2.1) vwCl (pm_ty cx.2.2.2) U ∧ va_D (fun _ => True) ws ∧ pm_NN U)) :=
  fun a U g mk q => by
    obtain ⟨q0, q1, qP, qK, qD, qN⟩ := q
    exact ⟨q0, q1, qP, va_K.moved (u := U) (U := U.calling g mk a) (Vm.Alike.refl U.vm) qK, qD, pm_NN.same (s := U) (U := U.calling g mk a) rfl qN⟩
theorem pm_cat (al : Nat → Nat) (v : Value) : (pm_at al v).category = v.category := by cases v <;> rfl
theorem pm_cats {al : Nat → Nat} {rest : List Value} (h : (rest.map fun v => v.category).sum ≤ 8) : ((rest.map (pm_at al)).map fun v => v.category).sum ≤ 8 := by
  rw [List.map_map]
  have : ((fun v => v.category) ∘ pm_at al) = (fun v : Value => v.category) := by
    funext v
    exact pm_cat al v
  rw [this]
  exact h
theorem pm_cs (hok : pm_ok fx.1 = true) {mj : pm_M} (hokj : pm_ok mj = true) {k d' mc' ms' : Nat} {as rest : List Value} {Q' : pm_Po}
    (h : pm_ent fx.1.2.2.2.2 pc = some ((.invokestatic k, 3, .inr (.inr (.inr mj.1))), nx)) (ha : (parseMethodDescriptor mj.1.desc).map (fun d => d.parameters.length) = some as.length)
    (hT : pm_T cx mj d' mc' ms' as sg mu nu Q') (hS0 : S = as.reverse ++ rest) (hd : d' + 1 ≤ fx.2.1) (hw : pm_wf sg L rest = true) (hc : (rest.map fun v => v.category).sum ≤ 8) (hm : cells + mc' ≤ fx.2.2.1 ∧ slots + ms' ≤ fx.2.2.2.1)
    (kk : ∀ r sg' mu' nu', Q' r sg' mu' nu' → sg.length ≤ sg'.length → pm_G cx fx (cells + mc') (slots + ms') nx L (r.toList ++ rest) sg' mu' nu') : pm_G cx fx cells slots pc L S sg mu nu := by
  subst hS0
  obtain ⟨he, rfl⟩ := pm_ent_ok hok h
  obtain ⟨-, hnm, hcd, hml45, -⟩ := pm_ok_parts hokj
  have hw2 := (Bool.and_eq_true_iff.mp he).2
  replace hw2 : (decide (Cond.methodLink fx.1.1.cls k mj.1 ∈ pm_tbl) && (decide (Cond.static mj.1 ∈ pm_tbl) && decide (Cond.initialized mj.1.cls ∈ pm_tbl))) = true := hw2
  simp only [Bool.and_eq_true, decide_eq_true_eq] at hw2
  obtain ⟨w1, w2, w3⟩ := hw2
  intro p e s m args below meth c A al0 al H locs ls hS hD
  obtain ⟨hx, hb, hr, hml, hown, hts, hlk, hnam, hA, hK, hN⟩ := id hS
  have tw : ∀ {w : Cond}, w ∈ pm_tbl → w.before args s = true := fun hw => hts _ (List.mem_cons_of_mem _ hw)
  refine pm_after hS hD hw (va_runS (As := as.map (pm_at al)) (rest := rest.map (pm_at al)) (Ts := pm_ws fx.1) ⟨hx, hb, hml, hown, hts⟩ (hT al H.size) ⟨callB_of (bytes := mj.2.1) (maxL := mj.2.2.1) (ret := mj.2.2.2.1) as.length hts (pm_goodIn hcd) rfl rfl rfl (tw w3) (tw w1) ⟨hnm.1, hnm.2, ha⟩ ⟨hd, ?_⟩, tw w2⟩ ⟨pm_blind, fun U hU hW => ⟨rfl, by rw [hU], by rw [hU]; exact hD.2.2.1, va_K.moved hW.alike hK, hD.2.2.2.1.weaken (fun _ _ _ _ => trivial), pm_NN.warm hW hN⟩⟩ rfl (by simp) hD.2.2.2.2.2.1 (by rw [List.map_append, List.map_reverse]) (lv_room (pm_cats hc)) (pm_dc he) hm) kk
  show 8 + (mj.2.2.1 + 11) + d' * 64 ≤ fx.2.1 * 64
  omega
theorem pm_cv (hok : pm_ok fx.1 = true) {mj : pm_M} (hokj : pm_ok mj = true) {k d' mc' ms' kb ci : Nat} {fs : List (Option (Option Nat))} {as rest : List Value} {Q' : pm_Po}
    (h : pm_ent fx.1.2.2.2.2 pc = some ((.invokevirtual k, 3, .inr (.inr (.inr mj.1))), nx)) (ha : (parseMethodDescriptor mj.1.desc).map (fun d => d.parameters.length) = some as.length)
    (hT : pm_T cx mj d' mc' ms' (.ref kb :: as) sg mu nu Q') (hb0 : sg[kb]? = some (0, ci, fs)) (hcl : (vwCl[ci]?).map (fun q => q.1) = some mj.1.cls) (hS0 : S = as.reverse ++ .ref kb :: rest) (hd : d' + 1 ≤ fx.2.1) (hw : pm_wf sg L rest = true) (hc : (rest.map fun v => v.category).sum ≤ 8) (hm : cells + mc' ≤ fx.2.2.1 ∧ slots + ms' ≤ fx.2.2.2.1)
    (kk : ∀ r sg' mu' nu', Q' r sg' mu' nu' → sg.length ≤ sg'.length → pm_G cx fx (cells + mc') (slots + ms') nx L (r.toList ++ rest) sg' mu' nu') : pm_G cx fx cells slots pc L S sg mu nu := by
  subst hS0
  obtain ⟨he, rfl⟩ := pm_ent_ok hok h
  obtain ⟨-, hnm, hcd, hml45, -⟩ := pm_ok_parts hokj
  have hw2 := (Bool.and_eq_true_iff.mp he).2
  replace hw2 : (decide (Cond.methodLink fx.1.1.cls k mj.1 ∈ pm_tbl) && (decide (Cond.instanceMethod mj.1 ∈ pm_tbl) && (decide (Cond.selects mj.1.cls mj.1 mj.1 ∈ pm_tbl) && decide (Cond.initialized mj.1.cls ∈ pm_tbl)))) = true := hw2
  simp only [Bool.and_eq_true, decide_eq_true_eq] at hw2
  obtain ⟨w1, w2, w3, w4⟩ := hw2
  cases hci : vwCl[ci]? with
  | none => rw [hci] at hcl; cases hcl
  | some q =>
    rw [hci] at hcl
    have hcl : q.1 = mj.1.cls := Option.some.inj hcl
    intro p e s m args below meth c A al0 al H locs ls hS hD
    obtain ⟨hx, hb, hr, hml, hown, hts, hlk, hnam, hA, hK, hN⟩ := id hS
    have tw : ∀ {w : Cond}, w ∈ pm_tbl → w.before args s = true := fun hw => hts _ (List.mem_cons_of_mem _ hw)
    have hrec := va_recv hK hD.2.2.1 hci (pm_W_at (dT := cx.2.2.2) (al := al) (mu := mu) (nu := nu) hb0)
    rw [hcl] at hrec
    refine pm_after hS hD hw (va_runV (As := as.map (pm_at al)) (rest := rest.map (pm_at al)) (b := al kb) (C := mj.1.cls) (Ts := pm_ws fx.1) ⟨hx, hb, hml, hown, hts⟩ (hT al H.size) ⟨callB_of (bytes := mj.2.1) (maxL := mj.2.2.1) (ret := mj.2.2.2.1) as.length hts (pm_goodIn hcd) rfl rfl rfl (tw w4) (tw w1) ⟨hnm.1, hnm.2, ha⟩ ⟨hd, ?_⟩, tw w2, tw w3⟩ ⟨pm_blind, hrec, fun U hU hW => ⟨rfl, by rw [hU], by rw [hU]; exact hD.2.2.1, va_K.moved hW.alike hK, hD.2.2.2.1.weaken (fun _ _ _ _ => trivial), pm_NN.warm hW hN⟩⟩ rfl (by simp) hD.2.2.2.2.2.1 (by rw [List.map_append, List.map_reverse]; rfl) (lv_room (pm_cats hc)) (pm_dc he) hm) kk
    show 8 + (mj.2.2.1 + 11) + d' * 64 ≤ fx.2.1 * 64
    omega
end
/-- a contract's end may be weakened, its level raised -/
theorem pm_T.weaken {cx : pm_CX} {mi : pm_M} {d mc ms : Nat} {as : List Value} {sg : List pm_C} {mu : pm_I} {nu : pm_J} {Q Q' : pm_Po} (h : pm_T cx mi d mc ms as sg mu nu Q) (hq : ∀ r sg' mu' nu', Q r sg' mu' nu' → Q' r sg' mu' nu') : pm_T cx mi d mc ms as sg mu nu Q' := by
  intro al sz
  have h1 := h al sz
  intro p e ha hc hk s m args below hf happ hP hT
  obtain ⟨k, o, g1, g2, g3, g4, g5⟩ := h1 p e ha hc hk s m args below hf happ hP hT
  refine ⟨k, o, g1, g2, g3, ?_, g5⟩
  obtain ⟨⟨r, sg', mu', nu', al', hQ, hrest⟩, hF⟩ := g4
  exact ⟨⟨r, sg', mu', nu', al', hq _ _ _ _ hQ, hrest⟩, hF⟩

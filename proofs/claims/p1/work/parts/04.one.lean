set_option maxHeartbeats 2000000 in
set_option maxRecDepth 100000 in
theorem pm_one_ok {cx : pm_CX} {fx : pm_FX} {cells slots pc : Nat} {L L' : pm_L} {S S' : List Value} {sg : List pm_C} {mu mu' : pm_I} {nu : pm_J} {i : Instr} {n : Nat} {x : pm_X} (he : pm_eok fx.1.1.cls fx.1.2.1 (pc, i, n, x) = true) (h : pm_one sg fx.1.2.2.1 i n x L S mu = some (L', S', mu')) (k : pm_G cx fx cells slots (pc + n) L' S' sg mu' nu) : pm_G cx fx cells slots pc L S sg mu nu := by
  have hd : decode fx.1.2.1 pc = .ok (i, n) := pm_dc he
  unfold pm_one at h
  split at h
  · obtain ⟨rfl, h1⟩ := pm_k_some h
    obtain ⟨S1, h2, hz⟩ := pm_s_some h1
    cases hz
    obtain ⟨v, rfl, rfl⟩ := pm_cst32_some h2
    have hv := of_decide_eq_true (Bool.and_eq_true_iff.mp he).2
    exact pm_G.stk (fun p e s m args below meth c A al0 al H locs ls Q hS hD kk => lv_iconst hS.1 hS.2.1 hd hv kk) k
  · obtain ⟨rfl, h1⟩ := pm_k_some h
    obtain ⟨S1, h2, hz⟩ := pm_s_some h1
    cases hz
    obtain ⟨v, rfl, rfl⟩ := pm_cst32_some h2
    have hv := of_decide_eq_true (Bool.and_eq_true_iff.mp he).2
    exact pm_G.stk (fun p e s m args below meth c A al0 al H locs ls Q hS hD kk => lv_bipush hS.1 hS.2.1 hd hv kk) k
  · obtain ⟨rfl, h1⟩ := pm_k_some h
    obtain ⟨S1, h2, hz⟩ := pm_s_some h1
    cases hz
    obtain ⟨v, rfl, rfl⟩ := pm_cst32_some h2
    have hv := of_decide_eq_true (Bool.and_eq_true_iff.mp he).2
    exact pm_G.stk (fun p e s m args below meth c A al0 al H locs ls Q hS hD kk => lv_sipush hS.1 hS.2.1 hd hv kk) k
  · obtain ⟨rfl, h1⟩ := pm_k_some h
    obtain ⟨S1, h2, hz⟩ := pm_s_some h1
    cases hz
    obtain ⟨v, rfl, rfl⟩ := pm_cst32_some h2
    have hv := of_decide_eq_true (Bool.and_eq_true_iff.mp he).2
    exact pm_G.stk (fun p e s m args below meth c A al0 al H locs ls Q hS hD kk => lv_ldc hS.1 hS.2.1 hS.2.2.2.2.1 (hS.2.2.2.2.2.1 _ (List.mem_cons_of_mem _ hv)) hd kk) k
  · obtain ⟨rfl, h1⟩ := pm_k_some h
    obtain ⟨S1, h2, hz⟩ := pm_s_some h1
    cases hz
    obtain ⟨v, rfl, rfl⟩ := pm_cst32_some h2
    have hv := of_decide_eq_true (Bool.and_eq_true_iff.mp he).2
    exact pm_G.stk (fun p e s m args below meth c A al0 al H locs ls Q hS hD kk => lv_ldcw hS.1 hS.2.1 hS.2.2.2.2.1 (hS.2.2.2.2.2.1 _ (List.mem_cons_of_mem _ hv)) hd kk) k
  · obtain ⟨rfl, h1⟩ := pm_k_some h
    obtain ⟨S1, h2, hz⟩ := pm_s_some h1
    cases hz
    obtain ⟨v, rfl, rfl⟩ := pm_cst64_some h2
    have hv := of_decide_eq_true (Bool.and_eq_true_iff.mp he).2
    exact pm_G.stk (fun p e s m args below meth c A al0 al H locs ls Q hS hD kk => lv_lconst hS.1 hS.2.1 hd hv kk) k
  · obtain ⟨rfl, h1⟩ := pm_k_some h
    obtain ⟨S1, h2, hz⟩ := pm_s_some h1
    cases hz
    obtain ⟨v, rfl, rfl⟩ := pm_cst64_some h2
    have hv := of_decide_eq_true (Bool.and_eq_true_iff.mp he).2
    exact pm_G.stk (fun p e s m args below meth c A al0 al H locs ls Q hS hD kk => lv_ldc2 hS.1 hS.2.1 hS.2.2.2.2.1 (hS.2.2.2.2.2.1 _ (List.mem_cons_of_mem _ hv)) hd kk) k
  · obtain ⟨rfl, h1⟩ := pm_k_some h
    obtain ⟨S1, h2, hz⟩ := pm_s_some h1
    cases hz
    obtain ⟨y, hy, rfl⟩ := pm_ldi_some h2
    exact pm_G.stk (fun p e s m args below meth c A al0 al H locs ls Q hS hD kk => lv_iload_n hS.1 hS.2.1 hd rfl (pm_lc_at hD.2.2.2.2.2 hy) kk) k
  · obtain ⟨rfl, h1⟩ := pm_k_some h
    obtain ⟨S1, h2, hz⟩ := pm_s_some h1
    cases hz
    obtain ⟨y, hy, rfl⟩ := pm_ldi_some h2
    exact pm_G.stk (fun p e s m args below meth c A al0 al H locs ls Q hS hD kk => lv_iload hS.1 hS.2.1 hd (pm_lc_at hD.2.2.2.2.2 hy) kk) k
  · obtain ⟨rfl, h1⟩ := pm_k_some h
    obtain ⟨S1, h2, hz⟩ := pm_s_some h1
    cases hz
    obtain ⟨y, hy, rfl⟩ := pm_ldl_some h2
    exact pm_G.stk (fun p e s m args below meth c A al0 al H locs ls Q hS hD kk => lv_lload_n hS.1 hS.2.1 hd rfl (pm_lc_at hD.2.2.2.2.2 hy) kk) k
  · obtain ⟨rfl, h1⟩ := pm_k_some h
    obtain ⟨S1, h2, hz⟩ := pm_s_some h1
    cases hz
    obtain ⟨y, hy, rfl⟩ := pm_ldl_some h2
    exact pm_G.stk (fun p e s m args below meth c A al0 al H locs ls Q hS hD kk => lv_lload hS.1 hS.2.1 hd (pm_lc_at hD.2.2.2.2.2 hy) kk) k
  · obtain ⟨rfl, h1⟩ := pm_k_some h
    obtain ⟨S1, h2, hz⟩ := pm_s_some h1
    cases hz
    obtain ⟨y, hy, rfl⟩ := pm_lda_some h2
    exact pm_G.stk (fun p e s m args below meth c A al0 al H locs ls Q hS hD kk => lv_aload_n hS.1 hS.2.1 hd rfl (pm_lc_at hD.2.2.2.2.2 hy) kk) k
  · obtain ⟨rfl, h1⟩ := pm_k_some h
    obtain ⟨S1, h2, hz⟩ := pm_s_some h1
    cases hz
    obtain ⟨y, hy, rfl⟩ := pm_lda_some h2
    exact pm_G.stk (fun p e s m args below meth c A al0 al H locs ls Q hS hD kk => lv_aload hS.1 hS.2.1 hd (pm_lc_at hD.2.2.2.2.2 hy) kk) k
  · obtain ⟨rfl, h1⟩ := pm_k_some h
    obtain ⟨y, r, hi, rfl, hz⟩ := pm_sti_some h1
    cases hz
    intro p e s m args below meth c A al0 al H locs ls hS hD
    exact lv_istore_n hS.1 hS.2.1 hd rfl hD.2.2.2.2.2 hi rfl (fun ls2 hl2 => k p e s m args below meth c A al0 al H locs ls2 hS (pm_D.st1 (v := .int y) hD hl2))
  · obtain ⟨rfl, h1⟩ := pm_k_some h
    obtain ⟨y, r, hi, rfl, hz⟩ := pm_sti_some h1
    cases hz
    intro p e s m args below meth c A al0 al H locs ls hS hD
    exact lv_istore hS.1 hS.2.1 hd hD.2.2.2.2.2 hi rfl (fun ls2 hl2 => k p e s m args below meth c A al0 al H locs ls2 hS (pm_D.st1 (v := .int y) hD hl2))
  · obtain ⟨rfl, h1⟩ := pm_k_some h
    obtain ⟨y, r, hi, rfl, hz⟩ := pm_stl_some h1
    cases hz
    intro p e s m args below meth c A al0 al H locs ls hS hD
    exact lv_lstore_n hS.1 hS.2.1 hd rfl hD.2.2.2.2.2 hi rfl (fun ls2 hl2 => k p e s m args below meth c A al0 al H locs ls2 hS (pm_D.st2 (v := .long y) hD hl2))
  · obtain ⟨rfl, h1⟩ := pm_k_some h
    obtain ⟨y, r, hi, rfl, hz⟩ := pm_stl_some h1
    cases hz
    intro p e s m args below meth c A al0 al H locs ls hS hD
    exact lv_lstore hS.1 hS.2.1 hd hD.2.2.2.2.2 hi rfl (fun ls2 hl2 => k p e s m args below meth c A al0 al H locs ls2 hS (pm_D.st2 (v := .long y) hD hl2))
  · obtain ⟨rfl, h1⟩ := pm_k_some h
    obtain ⟨y, r, hi, rfl, hz⟩ := pm_sta_some h1
    cases hz
    intro p e s m args below meth c A al0 al H locs ls hS hD
    exact lv_astore_n hS.1 hS.2.1 hd rfl hD.2.2.2.2.2 hi rfl (fun ls2 hl2 => k p e s m args below meth c A al0 al H locs ls2 hS (pm_D.st1 (v := .ref y) hD hl2))
  · obtain ⟨rfl, h1⟩ := pm_k_some h
    obtain ⟨y, r, hi, rfl, hz⟩ := pm_sta_some h1
    cases hz
    intro p e s m args below meth c A al0 al H locs ls hS hD
    exact lv_astore hS.1 hS.2.1 hd hD.2.2.2.2.2 hi rfl (fun ls2 hl2 => k p e s m args below meth c A al0 al H locs ls2 hS (pm_D.st1 (v := .ref y) hD hl2))
  · obtain ⟨rfl, h1⟩ := pm_k_some h
    obtain ⟨y, v, hi, hy, rfl, hz⟩ := pm_inc_some h1
    cases hz
    have hv := of_decide_eq_true (Bool.and_eq_true_iff.mp he).2
    intro p e s m args below meth c A al0 al H locs ls hS hD
    obtain ⟨kk, hkk⟩ := pm_lc_place (al := al) hy
    exact lv_iinc (v := y + v) hS.1 hS.2.1 hd hD.2.2.2.2.2 hkk (by rw [hv]) hi rfl (fun ls2 hl2 => k p e s m args below meth c A al0 al H locs ls2 hS (pm_D.st1 (v := .int (y + v)) hD hl2))
  · obtain ⟨rfl, h1⟩ := pm_k_some h
    obtain ⟨S1, h2, hz⟩ := pm_s_some h1
    cases hz
    obtain ⟨a, b, r, rfl, rfl⟩ := pm_b32_some h2
    exact pm_G.stk (fun p e s m args below meth c A al0 al H locs ls Q hS hD kk => lv_iadd hS.1 hS.2.1 hd kk) k
  · obtain ⟨rfl, h1⟩ := pm_k_some h
    obtain ⟨S1, h2, hz⟩ := pm_s_some h1
    cases hz
    obtain ⟨a, b, r, rfl, rfl⟩ := pm_b32_some h2
    exact pm_G.stk (fun p e s m args below meth c A al0 al H locs ls Q hS hD kk => lv_isub hS.1 hS.2.1 hd kk) k
  · obtain ⟨rfl, h1⟩ := pm_k_some h
    obtain ⟨S1, h2, hz⟩ := pm_s_some h1
    cases hz
    obtain ⟨a, b, r, rfl, rfl⟩ := pm_b32_some h2
    exact pm_G.stk (fun p e s m args below meth c A al0 al H locs ls Q hS hD kk => lv_imul hS.1 hS.2.1 hd kk) k
  · obtain ⟨rfl, h1⟩ := pm_k_some h
    obtain ⟨S1, h2, hz⟩ := pm_s_some h1
    cases hz
    obtain ⟨a, b, r, rfl, rfl⟩ := pm_b32_some h2
    exact pm_G.stk (fun p e s m args below meth c A al0 al H locs ls Q hS hD kk => lv_iand hS.1 hS.2.1 hd kk) k
  · obtain ⟨rfl, h1⟩ := pm_k_some h
    obtain ⟨S1, h2, hz⟩ := pm_s_some h1
    cases hz
    obtain ⟨a, b, r, rfl, rfl⟩ := pm_b32_some h2
    exact pm_G.stk (fun p e s m args below meth c A al0 al H locs ls Q hS hD kk => lv_ior hS.1 hS.2.1 hd kk) k
  · obtain ⟨rfl, h1⟩ := pm_k_some h
    obtain ⟨S1, h2, hz⟩ := pm_s_some h1
    cases hz
    obtain ⟨a, b, r, rfl, rfl⟩ := pm_b32_some h2
    exact pm_G.stk (fun p e s m args below meth c A al0 al H locs ls Q hS hD kk => lv_ixor hS.1 hS.2.1 hd kk) k
  · obtain ⟨rfl, h1⟩ := pm_k_some h
    obtain ⟨S1, h2, hz⟩ := pm_s_some h1
    cases hz
    obtain ⟨a, b, r, rfl, rfl⟩ := pm_b32_some h2
    exact pm_G.stk (fun p e s m args below meth c A al0 al H locs ls Q hS hD kk => lv_ishl hS.1 hS.2.1 hd kk) k
  · obtain ⟨rfl, h1⟩ := pm_k_some h
    obtain ⟨S1, h2, hz⟩ := pm_s_some h1
    cases hz
    obtain ⟨a, b, r, rfl, rfl⟩ := pm_b32_some h2
    exact pm_G.stk (fun p e s m args below meth c A al0 al H locs ls Q hS hD kk => lv_ishr hS.1 hS.2.1 hd kk) k
  · obtain ⟨rfl, h1⟩ := pm_k_some h
    obtain ⟨S1, h2, hz⟩ := pm_s_some h1
    cases hz
    obtain ⟨a, b, r, rfl, rfl⟩ := pm_b32_some h2
    exact pm_G.stk (fun p e s m args below meth c A al0 al H locs ls Q hS hD kk => lv_iushr hS.1 hS.2.1 hd rfl kk) k
  · obtain ⟨rfl, h1⟩ := pm_k_some h
    obtain ⟨S1, h2, hz⟩ := pm_s_some h1
    cases hz
    obtain ⟨a, b, r, rfl, rfl⟩ := pm_b64_some h2
    exact pm_G.stk (fun p e s m args below meth c A al0 al H locs ls Q hS hD kk => lv_ladd hS.1 hS.2.1 hd kk) k
  · obtain ⟨rfl, h1⟩ := pm_k_some h
    obtain ⟨S1, h2, hz⟩ := pm_s_some h1
    cases hz
    obtain ⟨a, b, r, rfl, rfl⟩ := pm_b64_some h2
    exact pm_G.stk (fun p e s m args below meth c A al0 al H locs ls Q hS hD kk => lv_lmul hS.1 hS.2.1 hd kk) k
  · obtain ⟨rfl, h1⟩ := pm_k_some h
    obtain ⟨S1, h2, hz⟩ := pm_s_some h1
    cases hz
    obtain ⟨a, b, r, rfl, rfl⟩ := pm_b64_some h2
    exact pm_G.stk (fun p e s m args below meth c A al0 al H locs ls Q hS hD kk => lv_land hS.1 hS.2.1 hd kk) k
  · obtain ⟨rfl, h1⟩ := pm_k_some h
    obtain ⟨S1, h2, hz⟩ := pm_s_some h1
    cases hz
    obtain ⟨a, b, r, rfl, rfl⟩ := pm_b64_some h2
    exact pm_G.stk (fun p e s m args below meth c A al0 al H locs ls Q hS hD kk => lv_lxor hS.1 hS.2.1 hd kk) k
  · obtain ⟨rfl, h1⟩ := pm_k_some h
    obtain ⟨S1, h2, hz⟩ := pm_s_some h1
    cases hz
    obtain ⟨a, b, r, rfl, rfl⟩ := pm_bsh_some h2
    exact pm_G.stk (fun p e s m args below meth c A al0 al H locs ls Q hS hD kk => lv_lshl hS.1 hS.2.1 hd rfl kk) k
  · obtain ⟨rfl, h1⟩ := pm_k_some h
    obtain ⟨S1, h2, hz⟩ := pm_s_some h1
    cases hz
    obtain ⟨a, b, r, rfl, rfl⟩ := pm_bsh_some h2
    exact pm_G.stk (fun p e s m args below meth c A al0 al H locs ls Q hS hD kk => lv_lshr hS.1 hS.2.1 hd rfl kk) k
  · obtain ⟨rfl, h1⟩ := pm_k_some h
    obtain ⟨S1, h2, hz⟩ := pm_s_some h1
    cases hz
    obtain ⟨a, r, rfl, rfl⟩ := pm_i2l_some h2
    exact pm_G.stk (fun p e s m args below meth c A al0 al H locs ls Q hS hD kk => lv_i2l hS.1 hS.2.1 hd rfl kk) k
  · obtain ⟨rfl, h1⟩ := pm_k_some h
    obtain ⟨S1, h2, hz⟩ := pm_s_some h1
    cases hz
    obtain ⟨a, r, rfl, rfl⟩ := pm_l2i_some h2
    exact pm_G.stk (fun p e s m args below meth c A al0 al H locs ls Q hS hD kk => lv_l2i hS.1 hS.2.1 hd rfl kk) k
  · obtain ⟨rfl, h1⟩ := pm_k_some h
    obtain ⟨S1, h2, hz⟩ := pm_s_some h1
    cases hz
    obtain ⟨a, b, r, rfl, rfl⟩ := pm_lcmp_some h2
    exact pm_G.stk (fun p e s m args below meth c A al0 al H locs ls Q hS hD kk => W.lcmp hS.1 hS.2.1 hd kk) k
  · obtain ⟨rfl, h1⟩ := pm_k_some h
    obtain ⟨S1, h2, hz⟩ := pm_s_some h1
    cases hz
    obtain ⟨v, r, rfl, hc, rfl⟩ := pm_dup_some h2
    exact pm_G.stk (fun p e s m args below meth c A al0 al H locs ls Q hS hD kk => lv_dup hS.1 hS.2.1 hd (hc al) kk) k
  · obtain ⟨rfl, h1⟩ := pm_k_some h
    obtain ⟨S1, h2, hz⟩ := pm_s_some h1
    cases hz
    obtain ⟨a, b, r, rfl, rfl⟩ := pm_dup2_some h2
    exact pm_G.stk (fun p e s m args below meth c A al0 al H locs ls Q hS hD kk => lv_dup2_11 (va := .int a) (vb := .ref (al b)) hS.1 hS.2.1 hd rfl rfl kk) k
  · obtain ⟨rfl, h1⟩ := pm_k_some h
    obtain ⟨S1, h2, hz⟩ := pm_s_some h1
    cases hz
    obtain ⟨ci, j, kc, r, fs, o, rfl, rfl, hsg, hfs, rfl⟩ := pm_gf_some h2
    obtain ⟨q, hq, hj, hlk⟩ := pm_fields he
    exact pm_G.stk (fun p e s m args below meth c A al0 al H locs ls Q hS hD kk => va_get (D := (cx.2.1, cx.2.2.1)) (ci := ci) (v := pm_at al (pm_ov o (mu kc j))) (C := q.1) (T := q.2.1) (N := q.2.2) hS.1 hS.2.1 hS.2.2.2.2.2.1 (fun w hw => List.mem_cons_of_mem _ ((pm_cls hq).1 w hw)) hS.2.2.2.2.1 hS.2.2.2.2.2.2.2.2.2.1 hD.2.2.1 kc (pm_W_at hsg) hq j hj (hS.2.2.2.2.2.1 _ (List.mem_cons_of_mem _ hlk)) (fun _ h9 => h9) (by rw [pm_fl_get, hfs]; simp only [Option.map_some, Nat.zero_add, pm_fv_ov]) hd kk) k
  · obtain ⟨rfl, h1⟩ := pm_k_some h
    obtain ⟨ci, j, v, kc, r, fs, rfl, rfl, hI, hsg, hfs, hz⟩ := pm_pf_some h1
    cases hz
    obtain ⟨q, hq, hj, hlk⟩ := pm_fieldsP he
    obtain ⟨q2, hq2, hj2, hdesc, hfin⟩ := pm_isI_ok hI
    cases hq.symm.trans hq2
    obtain ⟨hin, ty0, hty, hnm⟩ := pm_cls hq
    intro p e s m args below meth c A al0 al H locs ls hS hD
    have hlt : j < fs.length := (List.getElem?_eq_some_iff.mp hfs).1
    refine va_put (D := (cx.2.1, cx.2.2.1)) (ci := ci) (v := .int v) (ty := .int) (C := q.1) (T := q.2.1) (N := q.2.2) hS.1 hS.2.1 hS.2.2.2.2.2.1 (fun w hw => List.mem_cons_of_mem _ (hin w hw)) ty0 hty hnm hS.2.2.2.2.1 hS.2.2.2.2.2.2.2.2.2.1 hD.2.2.1 hD.2.2.2.1 hD.2.2.2.2.1 kc (pm_W_at hsg) hq j hj (hS.2.2.2.2.2.1 _ (List.mem_cons_of_mem _ hlk)) (fun _ h9 => h9) hfin (by rw [hdesc]; rfl) rfl rfl (by rw [pm_fl_len]; exact hlt) hd (fun H1 locs1 hP1 hD1 hS1 => ?_)
    have e1 : (pm_W cx.2.2.2 al mu nu 0 sg).set kc (al kc, .inr (ci, (pm_fl al (mu kc) 0 fs).set j (.int v))) = pm_W cx.2.2.2 al (pm_up mu kc j v) nu 0 sg := by
      refine pm_W_set rfl (fun a c ha hc => ⟨hc, pm_up_ne ha, rfl⟩) (fun c hc => ?_)
      rw [hsg] at hc
      cases hc
      show Sum.inr _ = _
      rw [pm_fl_set _ _ _ _ _ _ hfs, pm_up_eq, Nat.zero_add]
    rw [e1] at hP1 hD1
    exact k p e s m args below meth c A al0 al H1 locs1 ls hS ⟨hD.1, hD.2.1, hP1, hD1, hS1, hD.2.2.2.2.2⟩
  · obtain ⟨rfl, h1⟩ := pm_k_some h
    obtain ⟨S1, h2, hz⟩ := pm_s_some h1
    cases hz
    obtain ⟨kc, r, n, rs, rfl, hsg | hsg, rfl⟩ := pm_al_some h2
    · exact pm_G.stk (fun p e s m args below meth c A al0 al H locs ls Q hS hD kk => va_alen hS.1 hS.2.1 hS.2.2.2.2.2.2.2.2.2.1 hD.2.2.1 kc 0 (pm_W_at hsg) rfl rfl hd kk) k
    · exact pm_G.stk (fun p e s m args below meth c A al0 al H locs ls Q hS hD kk => va_alen hS.1 hS.2.1 hS.2.2.2.2.2.2.2.2.2.1 hD.2.2.1 kc 2 (pm_W_at hsg) rfl rfl hd kk) k
  · cases h
/-! runs -/
def pm_find : List pm_E → Nat → List pm_E
  | [], _ => []
  | en :: r, pc => match Nat.beq en.1 pc with
    | true => en :: r
    | false => pm_find r pc
theorem pm_find_sub (pc : Nat) : ∀ (tab : List pm_E), ∀ en ∈ pm_find tab pc, en ∈ tab := by
  intro tab
  induction tab with
  | nil => intro en h; cases h
  | cons a r ih =>
    intro en h
    unfold pm_find at h
    split at h
    · exact h
    · exact List.mem_cons_of_mem _ (ih en h)
theorem pm_find_hd (pc : Nat) : ∀ (tab : List pm_E) (en : pm_E) (r : List pm_E), pm_find tab pc = en :: r → en.1 = pc := by
  intro tab
  induction tab with
  | nil => intro en r h; cases h
  | cons a r ih =>
    intro en r2 h
    unfold pm_find at h
    split at h
    · rename_i h1
      cases h
      exact Nat.eq_of_beq_eq_true h1
    · exact ih en r2 h
def pm_isgo (i : Instr) : Bool := match i with
  | .goto _ => true
  | _ => false
def pm_run (tab : List pm_E) (sg : List pm_C) (nL stop : Nat) : Nat → List pm_E → Nat → pm_L → List Value → pm_I → Nat × pm_R
  | 0, _, pc, L, S, mu => (pc, L, S, mu)
  | _ + 1, [], pc, L, S, mu => (pc, L, S, mu)
  | n + 1, en :: r, pc, L, S, mu => match Nat.beq en.1 pc with
    | false => (pc, L, S, mu)
    | true => match pm_isgo en.2.1 with
      | true => (match en.2.2.2, Nat.beq en.2.2.1 3 with
        | .inl (t, _), true => (match Nat.beq t stop with
          | true => (t, L, S, mu)
          | false => pm_run tab sg nL stop n (pm_find tab t) t L S mu)
        | _, _ => (pc, L, S, mu))
      | false => (match pm_one sg nL en.2.1 en.2.2.1 en.2.2.2 L S mu with
        | none => (pc, L, S, mu)
        | some (L', S', mu') => (match r with
          | [] => (pc, L, S, mu)
          | en2 :: r2 => (match Nat.beq (en.1 + en.2.2.1) en2.1 with
            | false => (pc, L, S, mu)
            | true => (match Nat.beq en2.1 stop with
              | true => (en2.1, L', S', mu')
              | false => pm_run tab sg nL stop n (en2 :: r2) en2.1 L' S' mu'))))
theorem pm_run_ok {cx : pm_CX} {fx : pm_FX} {cells slots : Nat} {sg : List pm_C} {nu : pm_J} (stop : Nat) (hok : pm_ok fx.1 = true) : ∀ (n : Nat) (suf : List pm_E) (pc : Nat) (L : pm_L) (S : List Value) (mu : pm_I), (∀ en ∈ suf, en ∈ fx.1.2.2.2.2) → ∀ z, pm_run fx.1.2.2.2.2 sg fx.1.2.2.1 stop n suf pc L S mu = z → pm_G cx fx cells slots z.1 z.2.1 z.2.2.1 sg z.2.2.2 nu → pm_G cx fx cells slots pc L S sg mu nu := by
  obtain ⟨-, -, -, -, hall⟩ := pm_ok_parts hok
  intro n
  induction n with
  | zero =>
    intro suf pc L S mu hs z hz k
    subst hz
    cases suf <;> exact k
  | succ n ih =>
    intro suf pc L S mu hs z hz k
    cases suf with
    | nil => subst hz; exact k
    | cons en r =>
      unfold pm_run at hz
      split at hz
      · subst hz; exact k
      · rename_i hpc
        have hpc := Nat.eq_of_beq_eq_true hpc
        obtain ⟨p0, i0, n0, x0⟩ := en
        dsimp only at hpc hz
        subst hpc
        have he := hall _ (hs _ List.mem_cons_self)
        split at hz
        · rename_i hgo
          unfold pm_isgo at hgo
          split at hgo
          · rename_i off
            split at hz
            · rename_i t u hlen
              have ht := of_decide_eq_true (Bool.and_eq_true_iff.mp he).2
              have hdec := pm_dc he
              have hlen : n0 = 3 := Nat.eq_of_beq_eq_true hlen
              subst hlen
              have kk : pm_G cx fx cells slots t L S sg mu nu := by
                split at hz
                · subst hz; exact k
                · exact ih _ _ _ _ _ (pm_find_sub t _) z hz k
              exact pm_G.stk (fun p e s m args below meth c A al0 al H locs ls Q hS hD kk => lv_goto hS.1 hS.2.1 hdec ht kk) kk
            · subst hz; exact k
          · cases hgo
        · split at hz
          · subst hz; exact k
          · rename_i L1 S1 mu1 hone
            split at hz
            · subst hz; exact k
            · rename_i en2 r2
              split at hz
              · subst hz; exact k
              · rename_i hnx
                have hnx := Nat.eq_of_beq_eq_true hnx
                have kk : pm_G cx fx cells slots (p0 + n0) L1 S1 sg mu1 nu := by
                  rw [hnx]
                  split at hz
                  · subst hz; exact k
                  · exact ih _ _ _ _ _ (fun en h => hs en (List.mem_cons_of_mem _ h)) z hz k
                exact pm_one_ok he hone kk
/-- a straight stretch, up to 'stop' or to what isn't straight -/
theorem pm_go {cx : pm_CX} {fx : pm_FX} {cells slots pc pc' : Nat} {L L' : pm_L} {S S' : List Value} {sg : List pm_C} {mu mu' : pm_I} {nu : pm_J} (stop : Nat) (hok : pm_ok fx.1 = true) (h : pm_run fx.1.2.2.2.2 sg fx.1.2.2.1 stop 400 (pm_find fx.1.2.2.2.2 pc) pc L S mu = (pc', L', S', mu')) (k : pm_G cx fx cells slots pc' L' S' sg mu' nu) : pm_G cx fx cells slots pc L S sg mu nu :=
  pm_run_ok stop hok 400 _ pc L S mu (pm_find_sub pc _) _ h k

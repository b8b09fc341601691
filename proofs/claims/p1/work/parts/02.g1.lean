/-! ===== the tables' checks, the judgement pm_G (the machine goes on well from here), a contract pm_T ===== -/
def pm_tbl : List Cond := lw_tbl.filter goodWord
def pm_fok (own : String) (k ci j : Nat) : Bool := match vwCl[ci]? with
  | some q => Nat.blt j q.2.2 && decide (Cond.fieldLink own k (q.2.1 j).1 (q.2.1 j).2.1 (q.2.1 j).2.2.1 ∈ pm_tbl)
  | none => false
def pm_nok (own : String) (k ci : Nat) : Bool := match vwCl[ci]? with
  | some q => decide (Cond.classLink own k q.1 ∈ pm_tbl) && (decide (Cond.instantiable q.1 q.2.2 ∈ pm_tbl) && decide (Cond.initialized q.1 ∈ pm_tbl))
  | none => false
def pm_aok (own : String) (k ci : Nat) : Bool := match vwCl[ci]? with
  | some q => decide (Cond.classLink own k q.1 ∈ pm_tbl)
  | none => false
/-- the calls of nest mates' private constructors -/
def pm_nest : List (String × Nat × MethodName) := [(RX10, 9, yX7_init), (RX10, 18, yX2_init), (RX10, 29, yX1_init), (RX10, 36, yX9_init), (RX9, 28, yX4_init)]
theorem pm_nest_in : ∀ q ∈ pm_nest, Cond.methodLinkNest q.1 q.2.1 q.2.2 "LastWatered" ∈ lw_tbl := by decide +kernel
theorem pm_over_in : Cond.arrayOver (.object RX2) ∈ lw_tbl := by decide +kernel
def pm_NN (U : State) : Prop := (∀ q ∈ pm_nest, va_Nw (.methodLinkNest q.1 q.2.1 q.2.2 "LastWatered") U) ∧ va_AO RX2 U
theorem pm_NN.warm {s U : State} (hW : s.WarmedH U.vm) (h : pm_NN s) : pm_NN U := ⟨fun q hq => va_Nw.warmM hW (h.1 q hq), va_AO.moved hW.alike h.2⟩
theorem pm_NN.same {s U : State} (hv : s.vm = U.vm) (h : pm_NN s) : pm_NN U := ⟨fun q hq => va_Nw.same rfl hv (h.1 q hq), va_AO.moved (by rw [hv]; exact Vm.Alike.refl _) h.2⟩
def pm_eok (own : String) (cc : ByteArray) (en : pm_E) : Bool :=
  decide (decode cc en.1 = .ok (en.2.1, en.2.2.1)) && (match en.2.1, en.2.2.2 with
   | .iconst n, .inr (.inl v) => decide (Int32.ofInt n = v)
   | .bipush n, .inr (.inl v) => decide ((Int8.ofInt n).toInt32 = v)
   | .sipush n, .inr (.inl v) => decide ((Int16.ofInt n).toInt32 = v)
   | .iinc _ n, .inr (.inl v) => decide (Int32.ofInt n = v)
   | .lconst n, .inr (.inr (.inl v)) => decide (Int64.ofNat (n : Nat) = v)
   | .ldc k, .inr (.inl v) => decide (Cond.constant own k v ∈ pm_tbl)
   | .ldc_w k, .inr (.inl v) => decide (Cond.constant own k v ∈ pm_tbl)
   | .ldc2_w k, .inr (.inr (.inl v)) => decide (Cond.constantLong own k v ∈ pm_tbl)
   | .getfield k, .inl (ci, j) => pm_fok own k ci j
   | .putfield k, .inl (ci, j) => pm_fok own k ci j
   | .goto off, .inl (t, _) => decide ((en.1 : Int) + off = (t : Int))
   | .if_icmp _ off, .inl (t, _) => decide ((en.1 : Int) + off = (t : Int))
   | .ifCond _ off, .inl (t, _) => decide ((en.1 : Int) + off = (t : Int))
   | .ifnonnull off, .inl (t, _) => decide ((en.1 : Int) + off = (t : Int))
   | .invokestatic k, .inr (.inr (.inr y)) => decide (Cond.methodLink own k y ∈ pm_tbl) && (decide (Cond.static y ∈ pm_tbl) && decide (Cond.initialized y.cls ∈ pm_tbl))
   | .invokevirtual k, .inr (.inr (.inr y)) => decide (Cond.methodLink own k y ∈ pm_tbl) && (decide (Cond.instanceMethod y ∈ pm_tbl) && (decide (Cond.selects y.cls y y ∈ pm_tbl) && decide (Cond.initialized y.cls ∈ pm_tbl)))
   | .invokespecial k, .inr (.inr (.inr y)) => (decide (Cond.methodLink own k y ∈ pm_tbl) || decide ((own, k, y) ∈ pm_nest)) && (decide (Cond.instanceMethod y ∈ pm_tbl) && decide (y = Lib.objectInit ∨ Cond.initialized y.cls ∈ pm_tbl))
   | .new k, .inl (ci, _) => pm_nok own k ci
   | .anewarray k, .inl (ci, _) => pm_aok own k ci
   | _, _ => true)
def pm_ok (mi : pm_M) : Bool := plainName mi.1.cls && (decide (mi.1.cls ≠ "java/lang/invoke/MethodHandle" ∧ mi.1.cls ≠ "java/lang/invoke/VarHandle") && (decide (Cond.code mi.1 mi.2.1 mi.2.2.1 mi.2.2.2.1 ∈ pm_tbl) && (Nat.ble mi.2.2.1 45 && mi.2.2.2.2.all (pm_eok mi.1.cls mi.2.1))))
abbrev pm_ws (mi : pm_M) : List Cond := Cond.code mi.1 mi.2.1 mi.2.2.1 mi.2.2.2.1 :: pm_tbl
theorem pm_good_all : pm_tbl.all goodWord = true := List.all_eq_true.mpr fun _ hw => (List.mem_filter.mp hw).2
theorem pm_goodIn {mi mj : pm_M} (h : Cond.code mj.1 mj.2.1 mj.2.2.1 mj.2.2.2.1 ∈ pm_tbl) : GoodIn (pm_ws mi) (pm_ws mj) := by
  intro w hw
  have hm : w ∈ pm_tbl := by
    rcases List.mem_cons.mp hw with q | q
    · rw [q]; exact h
    · exact q
  exact ⟨List.mem_cons_of_mem _ hm, good_of_word (List.all_eq_true.mp pm_good_all w hm)⟩
/-- what the tables say of each class whose objects the worlds hold -/
theorem pm_in1 : ∀ w ∈ u_ws RX1 TX1 5, w ∈ pm_tbl := by decide +kernel
theorem pm_in2 : ∀ w ∈ u_ws RX2 TX2 11, w ∈ pm_tbl := by decide +kernel
theorem pm_in4 : ∀ w ∈ u_ws RX4 TX4 2, w ∈ pm_tbl := by decide +kernel
theorem pm_in7 : ∀ w ∈ u_ws RX7 TX7 2, w ∈ pm_tbl := by decide +kernel
theorem pm_in9 : ∀ w ∈ u_ws RX9 TX9 5, w ∈ pm_tbl := by decide +kernel
theorem pm_in10 : ∀ w ∈ u_ws RX10 TX10 6, w ∈ pm_tbl := by decide +kernel
theorem pm_in11 : ∀ w ∈ u_ws RX11 TX11 35, w ∈ pm_tbl := by decide +kernel
theorem pm_cls {ci : Nat} {q : vw_C} (h : vwCl[ci]? = some q) : (∀ w ∈ u_ws q.1 q.2.1 q.2.2, w ∈ pm_tbl) ∧ ∃ ty0 : Nat → FieldType, (∀ k, k < q.2.2 → parseFieldDescriptor (q.2.1 k).2.2.1 = some (ty0 k)) ∧ (∀ a, a < q.2.2 → ∀ b, b < q.2.2 → a ≠ b → (q.2.1 a).2.1 ≠ (q.2.1 b).2.1) := by
  match ci, h with
  | 0, h => cases h; exact ⟨pm_in1, tyX1, tyX1_ok, nmX1⟩
  | 1, h => cases h; exact ⟨pm_in2, tyX2, tyX2_ok, nmX2⟩
  | 2, h => cases h; exact ⟨pm_in4, tyX4, tyX4_ok, nmX4⟩
  | 3, h => cases h; exact ⟨pm_in7, tyX7, tyX7_ok, nmX7⟩
  | 4, h => cases h; exact ⟨pm_in9, tyX9, tyX9_ok, nmX9⟩
  | 5, h => cases h; exact ⟨pm_in10, tyX10, tyX10_ok, nmX10⟩
  | 6, h => cases h; exact ⟨pm_in11, tyX11, tyX11_ok, nmX11⟩
  | k + 7, h => simp [vwCl] at h
/-- the array classes -/
abbrev pm_ty (dT : Nat → ClassId) : List (ClassId × FieldType) := [(dT 0, .int), (dT 1, .boolean), (dT 2, .long), (dT 3, .object RX2)]
/-- a frame's fixed part: the method, its level, the cells and slots that it may make, how many cells stood at its entry, its post -/
abbrev pm_FX : Type := pm_M × Nat × Nat × Nat × Nat × pm_Po
def pm_room (d mc ms : Nat) : Room := { frames := d, cells := mc, slots := ms, locals := d * 64 }
def pm_Q (cx : pm_CX) (n0 : Nat) (Q : pm_Po) (A : Nat → Prop) (al0 : Nat → Nat) : Array Value → State → Outcome → State → Prop := fun _ st oc t =>
  (∃ (r : Option Value) (sg : List pm_C) (mu : pm_I) (nu : pm_J) (al : Nat → Nat), Q r sg mu nu ∧ (∀ k, k < n0 → al k = al0 k) ∧ n0 ≤ sg.length ∧ oc = .returned (r.map (pm_at al)) ∧ va_P (cx.2.1, cx.2.2.1) vwCl (pm_W cx.2.2.2 al mu nu 0 sg) t.heap ∧ va_D A (pm_W cx.2.2.2 al mu nu 0 sg)) ∧ va_F A st t
def pm_S (cx : pm_CX) (mi : pm_M) (p : Program) (s : State) (m : MethodId) (args : Array Value) (meth : Method) (c : Code) (A : Nat → Prop) : Prop :=
  p.tables.exec = Jvm.exec ∧ c.code = mi.2.1 ∧ meth.sig.returnType = mi.2.2.2.1 ∧ c.maxLocals = mi.2.2.1 ∧ s.vm.findClass mi.1.cls = some m.cls ∧ (∀ w ∈ pm_ws mi, w.before args s = true) ∧ meth.locks = false ∧ meth.name = mi.1.name ∧ (∀ q, s.heap.size ≤ q → A q) ∧ va_K (cx.2.1, cx.2.2.1) vwCl (pm_ty cx.2.2.2) s ∧ pm_NN s
def pm_D (cx : pm_CX) (nL n0 : Nat) (s : State) (A : Nat → Prop) (al0 al : Nat → Nat) (H : Heap) (locs : List Loc) (ls : Array Slot) (L : pm_L) (sg : List pm_C) (mu : pm_I) (nu : pm_J) : Prop :=
  (∀ k, k < n0 → al k = al0 k) ∧ n0 ≤ sg.length ∧ va_P (cx.2.1, cx.2.2.1) vwCl (pm_W cx.2.2.2 al mu nu 0 sg) H ∧ va_D A (pm_W cx.2.2.2 al mu nu 0 sg) ∧ va_S A s.heap H locs ∧ lv_has ls nL (pm_lc al 0 L)
def pm_G (cx : pm_CX) (fx : pm_FX) (cells slots pc : Nat) (L : pm_L) (S : List Value) (sg : List pm_C) (mu : pm_I) (nu : pm_J) : Prop :=
  ∀ (p : Program) (e : Env) (s : State) (m : MethodId) (args : Array Value) (below : List Frame) (meth : Method) (c : Code) (A : Nat → Prop) (al0 al : Nat → Nat) (H : Heap) (locs : List Loc) (ls : Array Slot),
    pm_S cx fx.1 p s m args meth c A → pm_D cx fx.1.2.2.1 fx.2.2.2.2.1 s A al0 al H locs ls L sg mu nu →
    W p cx.1 e (pm_room fx.2.1 fx.2.2.1 fx.2.2.2.1) s m args below meth c H locs cells slots (MQ below (pm_Q cx fx.2.2.2.2.1 fx.2.2.2.2.2 A al0) args s fx.2.2.1 fx.2.2.2.1 A) (F0 m pc ls (S.map (pm_at al)))
/-- a contract: from these arguments and cells the method ends, with Q -/
def pm_T (cx : pm_CX) (mi : pm_M) (d mc ms : Nat) (as : List Value) (sg : List pm_C) (mu : pm_I) (nu : pm_J) (Q : pm_Po) : Prop :=
  ∀ (al : Nat → Nat) (sz : Nat), Met cx.1 mi.1 (pm_ws mi) (pm_room d mc ms)
    (va_Pc (as.map (pm_at al)) (fun U => U.heap.size = sz ∧ va_P (cx.2.1, cx.2.2.1) vwCl (pm_W cx.2.2.2 al mu nu 0 sg) U.heap ∧ va_K (cx.2.1, cx.2.2.1) vwCl (pm_ty cx.2.2.2) U ∧ va_D (fun _ => True) (pm_W cx.2.2.2 al mu nu 0 sg) ∧ pm_NN U))
    (pm_Q cx sg.length Q (va_A (pm_W cx.2.2.2 al mu nu 0 sg) sz) al) mc ms (va_A (pm_W cx.2.2.2 al mu nu 0 sg) sz)
theorem pm_ok_parts {mi : pm_M} (h : pm_ok mi = true) : plainName mi.1.cls = true ∧ (mi.1.cls ≠ "java/lang/invoke/MethodHandle" ∧ mi.1.cls ≠ "java/lang/invoke/VarHandle") ∧ Cond.code mi.1 mi.2.1 mi.2.2.1 mi.2.2.2.1 ∈ pm_tbl ∧ mi.2.2.1 ≤ 45 ∧ ∀ en ∈ mi.2.2.2.2, pm_eok mi.1.cls mi.2.1 en = true := by
  unfold pm_ok at h
  simp only [Bool.and_eq_true, decide_eq_true_eq] at h
  exact ⟨h.1, h.2.1, h.2.2.1, Nat.le_of_ble_eq_true h.2.2.2.1, List.all_eq_true.mp h.2.2.2.2⟩
theorem pm_dec {own : String} {cc : ByteArray} {en : pm_E} (h : pm_eok own cc en = true) : decode cc en.1 = .ok (en.2.1, en.2.2.1) := by
  unfold pm_eok at h
  exact of_decide_eq_true (Bool.and_eq_true_iff.mp h).1
/-- the arguments as the locals that a method begins with -/
def pm_la : List Value → pm_L
  | [] => []
  | v :: r => some v :: (match pm_cat2 (some v) with | true => none :: pm_la r | false => pm_la r)
theorem pm_la_len (al : Nat → Nat) (vs : List Value) : (lg_sl (vs.map (pm_at al))).length = (pm_la vs).length := by
  induction vs with
  | nil => rfl
  | cons v r ih =>
    cases v <;> simp [lg_sl, pm_la, pm_cat2, pm_at, Value.category] at ih ⊢ <;> omega
theorem pm_la_args (al : Nat → Nat) (vs : List Value) : ∀ i0, lv_args i0 (vs.map (pm_at al)) = pm_lc al i0 (pm_la vs) := by
  induction vs with
  | nil => intro i0; rfl
  | cons v r ih =>
    intro i0
    cases v <;> simp [lv_args, pm_la, pm_cat2, pm_lc, pm_at, Value.category, ih]
/-- a method's contract out of the walk of its body -/
theorem pm_enter {cx : pm_CX} {mi : pm_M} {d mc ms : Nat} {as : List Value} {sg : List pm_C} {mu : pm_I} {nu : pm_J} {Q : pm_Po} (hok : pm_ok mi = true) (hn : (pm_la as).length ≤ mi.2.2.1) (h : pm_G cx (mi, d, mc, ms, sg.length, Q) 0 0 0 (pm_la as ++ List.replicate (mi.2.2.1 - (pm_la as).length) none) [] sg mu nu) : pm_T cx mi d mc ms as sg mu nu Q := by
  intro al sz
  obtain ⟨h1, -, -, -, -⟩ := pm_ok_parts hok
  refine Met.ofW (cc := mi.2.1) (maxL := mi.2.2.1) (ret := mi.2.2.2.1) h1 rfl ?_
  intro p e s m args below meth c s₁ B hml hv
  obtain ⟨rfl, hsz, hP, hK, hD0, hN⟩ := hv
  have hts := atoms_spec (ws := pm_ws mi) B.pre
  have hown : s.vm.findClass mi.1.cls = some m.cls := findClass_of_methodNamed B.named
  have hin : meth.name = mi.1.name := (name_of_methodNamed B.named B.method).1
  subst hsz
  have hD := hD0.self (sz := s.heap.size)
  have hl := lv_entry (as.map (pm_at al)) (n := mi.2.2.1) (by rw [pm_la_len]; exact hn)
  rw [lg_entry_eq]
  have hl2 := pm_has_mono (l' := pm_lc al 0 (pm_la as ++ List.replicate (mi.2.2.1 - (pm_la as).length) none)) hl (by
    rw [pm_la_args]
    intro q hq
    obtain ⟨j, v, g1, g2⟩ := (pm_lc_mem al _ 0 q).mp hq
    refine (pm_lc_mem al _ 0 q).mpr ⟨j, v, ?_, g2⟩
    by_cases hj : j < (pm_la as).length
    · rw [List.getElem?_append_left hj] at g1
      exact g1
    · rw [List.getElem?_append_right (by omega)] at g1
      have := List.mem_of_getElem? g1
      rw [List.mem_replicate] at this
      cases this.2)
  exact h p e s m _ below meth c (va_A (pm_W cx.2.2.2 al mu nu 0 sg) s.heap.size) al al s.heap [] _ ⟨B.exec, B.bytes, B.returns, hml, hown, hts, B.notSynchronized, hin, fun q hq => Or.inr hq, hK, hN⟩ ⟨fun _ _ => rfl, Nat.le_refl _, hP, hD, va_S.rf, hl2⟩

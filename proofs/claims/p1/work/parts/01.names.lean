-- ===== PART A: goes FIRST, ahead of the names: the tables' words, and 'selects' of the private methods out of them =====
/-- a private method of a class that the tables say can be made, by its rows of tables_1 -/
def lw_okq (q : MethodName × Nat) : Prop := (q.1.cls ≠ "java/lang/invoke/MethodHandle" ∧ q.1.cls ≠ "java/lang/invoke/VarHandle") ∧ Cond.instantiable q.1.cls q.2 ∈ tables_1 ∧ Cond.privateMethod q.1 ∈ tables_1 ∧ Cond.instanceMethod q.1 ∈ tables_1
theorem lw_p0 : lw_okq (⟨"LastWatered", "dropAnswers", "()V"⟩, 6) := ⟨⟨by decide +kernel, by decide +kernel⟩, List.mem_of_getElem? (i := 18) (by decide +kernel), List.mem_of_getElem? (i := 198) (by decide +kernel), List.mem_of_getElem? (i := 199) (by decide +kernel)⟩
theorem lw_p1 : lw_okq (⟨"LastWatered", "isFaultyWeek", "()Z"⟩, 6) := ⟨⟨by decide +kernel, by decide +kernel⟩, List.mem_of_getElem? (i := 18) (by decide +kernel), List.mem_of_getElem? (i := 269) (by decide +kernel), List.mem_of_getElem? (i := 270) (by decide +kernel)⟩
theorem lw_p2 : lw_okq (⟨"LastWatered$Garden", "nextPlace", "(I)I"⟩, 11) := ⟨⟨by decide +kernel, by decide +kernel⟩, List.mem_of_getElem? (i := 45) (by decide +kernel), List.mem_of_getElem? (i := 322) (by decide +kernel), List.mem_of_getElem? (i := 323) (by decide +kernel)⟩
theorem lw_p3 : lw_okq (⟨"LastWatered$Filling", "goOn", "(LLastWatered$Garden;LLastWatered$Pad;IIII)V"⟩, 5) := ⟨⟨by decide +kernel, by decide +kernel⟩, List.mem_of_getElem? (i := 106) (by decide +kernel), List.mem_of_getElem? (i := 412) (by decide +kernel), List.mem_of_getElem? (i := 413) (by decide +kernel)⟩
theorem lw_p4 : lw_okq (⟨"LastWatered$Filling", "tryBeds", "(LLastWatered$Garden;LLastWatered$Pad;IIII)V"⟩, 5) := ⟨⟨by decide +kernel, by decide +kernel⟩, List.mem_of_getElem? (i := 106) (by decide +kernel), List.mem_of_getElem? (i := 417) (by decide +kernel), List.mem_of_getElem? (i := 418) (by decide +kernel)⟩
theorem lw_p5 : lw_okq (⟨"LastWatered$Filling", "keepWay", "()V"⟩, 5) := ⟨⟨by decide +kernel, by decide +kernel⟩, List.mem_of_getElem? (i := 106) (by decide +kernel), List.mem_of_getElem? (i := 430) (by decide +kernel), List.mem_of_getElem? (i := 431) (by decide +kernel)⟩
theorem lw_p6 : lw_okq (⟨"LastWatered", "isFaultyOrder", "()Z"⟩, 6) := ⟨⟨by decide +kernel, by decide +kernel⟩, List.mem_of_getElem? (i := 18) (by decide +kernel), List.mem_of_getElem? (i := 445) (by decide +kernel), List.mem_of_getElem? (i := 446) (by decide +kernel)⟩
theorem lw_p7 : lw_okq (⟨"LastWatered", "isFaultyWish", "()Z"⟩, 6) := ⟨⟨by decide +kernel, by decide +kernel⟩, List.mem_of_getElem? (i := 18) (by decide +kernel), List.mem_of_getElem? (i := 512) (by decide +kernel), List.mem_of_getElem? (i := 513) (by decide +kernel)⟩
theorem lw_p8 : lw_okq (⟨"LastWatered$Wishing", "isReached", "(LLastWatered$Garden;LLastWatered$Pad;III)Z"⟩, 5) := ⟨⟨by decide +kernel, by decide +kernel⟩, List.mem_of_getElem? (i := 130) (by decide +kernel), List.mem_of_getElem? (i := 540) (by decide +kernel), List.mem_of_getElem? (i := 541) (by decide +kernel)⟩
theorem lw_p9 : lw_okq (⟨"LastWateredModel", "begin", "()V"⟩, 35) := ⟨⟨by decide +kernel, by decide +kernel⟩, List.mem_of_getElem? (i := 639) (by decide +kernel), List.mem_of_getElem? (i := 646) (by decide +kernel), List.mem_of_getElem? (i := 647) (by decide +kernel)⟩
theorem lw_p10 : lw_okq (⟨"LastWateredModel", "isBed", "(I)Z"⟩, 35) := ⟨⟨by decide +kernel, by decide +kernel⟩, List.mem_of_getElem? (i := 639) (by decide +kernel), List.mem_of_getElem? (i := 768) (by decide +kernel), List.mem_of_getElem? (i := 769) (by decide +kernel)⟩
theorem lw_p11 : lw_okq (⟨"LastWateredModel", "weekFault", "()I"⟩, 35) := ⟨⟨by decide +kernel, by decide +kernel⟩, List.mem_of_getElem? (i := 639) (by decide +kernel), List.mem_of_getElem? (i := 792) (by decide +kernel), List.mem_of_getElem? (i := 793) (by decide +kernel)⟩
theorem lw_p12 : lw_okq (⟨"LastWateredModel", "orderFault", "()I"⟩, 35) := ⟨⟨by decide +kernel, by decide +kernel⟩, List.mem_of_getElem? (i := 639) (by decide +kernel), List.mem_of_getElem? (i := 796) (by decide +kernel), List.mem_of_getElem? (i := 797) (by decide +kernel)⟩
theorem lw_p13 : lw_okq (⟨"LastWateredModel", "wishFault", "()I"⟩, 35) := ⟨⟨by decide +kernel, by decide +kernel⟩, List.mem_of_getElem? (i := 639) (by decide +kernel), List.mem_of_getElem? (i := 803) (by decide +kernel), List.mem_of_getElem? (i := 804) (by decide +kernel)⟩
theorem lw_p14 : lw_okq (⟨"LastWateredModel", "opens", "()I"⟩, 35) := ⟨⟨by decide +kernel, by decide +kernel⟩, List.mem_of_getElem? (i := 639) (by decide +kernel), List.mem_of_getElem? (i := 814) (by decide +kernel), List.mem_of_getElem? (i := 815) (by decide +kernel)⟩
theorem lw_p15 : lw_okq (⟨"LastWateredModel", "goWeek", "(I)I"⟩, 35) := ⟨⟨by decide +kernel, by decide +kernel⟩, List.mem_of_getElem? (i := 639) (by decide +kernel), List.mem_of_getElem? (i := 818) (by decide +kernel), List.mem_of_getElem? (i := 819) (by decide +kernel)⟩
def lw_privs_1 : List (MethodName × Nat) := [(⟨"LastWatered", "dropAnswers", "()V"⟩, 6), (⟨"LastWatered", "isFaultyWeek", "()Z"⟩, 6), (⟨"LastWatered$Garden", "nextPlace", "(I)I"⟩, 11), (⟨"LastWatered$Filling", "goOn", "(LLastWatered$Garden;LLastWatered$Pad;IIII)V"⟩, 5), (⟨"LastWatered$Filling", "tryBeds", "(LLastWatered$Garden;LLastWatered$Pad;IIII)V"⟩, 5), (⟨"LastWatered$Filling", "keepWay", "()V"⟩, 5), (⟨"LastWatered", "isFaultyOrder", "()Z"⟩, 6), (⟨"LastWatered", "isFaultyWish", "()Z"⟩, 6), (⟨"LastWatered$Wishing", "isReached", "(LLastWatered$Garden;LLastWatered$Pad;III)Z"⟩, 5), (⟨"LastWateredModel", "begin", "()V"⟩, 35), (⟨"LastWateredModel", "isBed", "(I)Z"⟩, 35), (⟨"LastWateredModel", "weekFault", "()I"⟩, 35), (⟨"LastWateredModel", "orderFault", "()I"⟩, 35), (⟨"LastWateredModel", "wishFault", "()I"⟩, 35), (⟨"LastWateredModel", "opens", "()I"⟩, 35), (⟨"LastWateredModel", "goWeek", "(I)I"⟩, 35)]
theorem lw_r1 : ∀ q ∈ lw_privs_1, lw_okq q := List.forall_mem_cons.mpr ⟨lw_p0, List.forall_mem_cons.mpr ⟨lw_p1, List.forall_mem_cons.mpr ⟨lw_p2, List.forall_mem_cons.mpr ⟨lw_p3, List.forall_mem_cons.mpr ⟨lw_p4, List.forall_mem_cons.mpr ⟨lw_p5, List.forall_mem_cons.mpr ⟨lw_p6, List.forall_mem_cons.mpr ⟨lw_p7, List.forall_mem_cons.mpr ⟨lw_p8, List.forall_mem_cons.mpr ⟨lw_p9, List.forall_mem_cons.mpr ⟨lw_p10, List.forall_mem_cons.mpr ⟨lw_p11, List.forall_mem_cons.mpr ⟨lw_p12, List.forall_mem_cons.mpr ⟨lw_p13, List.forall_mem_cons.mpr ⟨lw_p14, List.forall_mem_cons.mpr ⟨lw_p15, fun _ h => absurd h List.not_mem_nil⟩⟩⟩⟩⟩⟩⟩⟩⟩⟩⟩⟩⟩⟩⟩⟩
theorem lw_p16 : lw_okq (⟨"LastWateredModel", "rained", "(I)I"⟩, 35) := ⟨⟨by decide +kernel, by decide +kernel⟩, List.mem_of_getElem? (i := 639) (by decide +kernel), List.mem_of_getElem? (i := 822) (by decide +kernel), List.mem_of_getElem? (i := 823) (by decide +kernel)⟩
theorem lw_p17 : lw_okq (⟨"LastWateredModel", "nextOf", "(I)I"⟩, 35) := ⟨⟨by decide +kernel, by decide +kernel⟩, List.mem_of_getElem? (i := 639) (by decide +kernel), List.mem_of_getElem? (i := 826) (by decide +kernel), List.mem_of_getElem? (i := 827) (by decide +kernel)⟩
theorem lw_p18 : lw_okq (⟨"LastWateredModel", "whyNot", "(III)I"⟩, 35) := ⟨⟨by decide +kernel, by decide +kernel⟩, List.mem_of_getElem? (i := 639) (by decide +kernel), List.mem_of_getElem? (i := 836) (by decide +kernel), List.mem_of_getElem? (i := 837) (by decide +kernel)⟩
theorem lw_p19 : lw_okq (⟨"LastWateredModel", "isAsSeen", "()Z"⟩, 35) := ⟨⟨by decide +kernel, by decide +kernel⟩, List.mem_of_getElem? (i := 639) (by decide +kernel), List.mem_of_getElem? (i := 874) (by decide +kernel), List.mem_of_getElem? (i := 875) (by decide +kernel)⟩
theorem lw_p20 : lw_okq (⟨"LastWateredModel", "nextBy", "(II)I"⟩, 35) := ⟨⟨by decide +kernel, by decide +kernel⟩, List.mem_of_getElem? (i := 639) (by decide +kernel), List.mem_of_getElem? (i := 882) (by decide +kernel), List.mem_of_getElem? (i := 883) (by decide +kernel)⟩
theorem lw_p21 : lw_okq (⟨"LastWateredModel", "comesOut", "(I)Z"⟩, 35) := ⟨⟨by decide +kernel, by decide +kernel⟩, List.mem_of_getElem? (i := 639) (by decide +kernel), List.mem_of_getElem? (i := 899) (by decide +kernel), List.mem_of_getElem? (i := 900) (by decide +kernel)⟩
theorem lw_p22 : lw_okq (⟨"LastWateredModel", "put", "(J)V"⟩, 35) := ⟨⟨by decide +kernel, by decide +kernel⟩, List.mem_of_getElem? (i := 639) (by decide +kernel), List.mem_of_getElem? (i := 903) (by decide +kernel), List.mem_of_getElem? (i := 904) (by decide +kernel)⟩
theorem lw_p23 : lw_okq (⟨"LastWateredModel", "layGardens", "()V"⟩, 35) := ⟨⟨by decide +kernel, by decide +kernel⟩, List.mem_of_getElem? (i := 639) (by decide +kernel), List.mem_of_getElem? (i := 921) (by decide +kernel), List.mem_of_getElem? (i := 922) (by decide +kernel)⟩
theorem lw_p24 : lw_okq (⟨"LastWateredModel", "garden", "(II)I"⟩, 35) := ⟨⟨by decide +kernel, by decide +kernel⟩, List.mem_of_getElem? (i := 639) (by decide +kernel), List.mem_of_getElem? (i := 925) (by decide +kernel), List.mem_of_getElem? (i := 926) (by decide +kernel)⟩
theorem lw_p25 : lw_okq (⟨"LastWateredModel", "mornings", "(I)I"⟩, 35) := ⟨⟨by decide +kernel, by decide +kernel⟩, List.mem_of_getElem? (i := 639) (by decide +kernel), List.mem_of_getElem? (i := 931) (by decide +kernel), List.mem_of_getElem? (i := 932) (by decide +kernel)⟩
theorem lw_p26 : lw_okq (⟨"LastWateredModel", "leads", "(II)I"⟩, 35) := ⟨⟨by decide +kernel, by decide +kernel⟩, List.mem_of_getElem? (i := 639) (by decide +kernel), List.mem_of_getElem? (i := 938) (by decide +kernel), List.mem_of_getElem? (i := 939) (by decide +kernel)⟩
theorem lw_p27 : lw_okq (⟨"LastWateredModel", "isWished", "(II)Z"⟩, 35) := ⟨⟨by decide +kernel, by decide +kernel⟩, List.mem_of_getElem? (i := 639) (by decide +kernel), List.mem_of_getElem? (i := 942) (by decide +kernel), List.mem_of_getElem? (i := 943) (by decide +kernel)⟩
theorem lw_p28 : lw_okq (⟨"LastWateredModel", "take", "(II)V"⟩, 35) := ⟨⟨by decide +kernel, by decide +kernel⟩, List.mem_of_getElem? (i := 639) (by decide +kernel), List.mem_of_getElem? (i := 957) (by decide +kernel), List.mem_of_getElem? (i := 958) (by decide +kernel)⟩
theorem lw_p29 : lw_okq (⟨"LastWateredModel", "canWater", "(I)Z"⟩, 35) := ⟨⟨by decide +kernel, by decide +kernel⟩, List.mem_of_getElem? (i := 639) (by decide +kernel), List.mem_of_getElem? (i := 961) (by decide +kernel), List.mem_of_getElem? (i := 962) (by decide +kernel)⟩
theorem lw_p30 : lw_okq (⟨"LastWateredModel", "wake", "(II)V"⟩, 35) := ⟨⟨by decide +kernel, by decide +kernel⟩, List.mem_of_getElem? (i := 639) (by decide +kernel), List.mem_of_getElem? (i := 965) (by decide +kernel), List.mem_of_getElem? (i := 966) (by decide +kernel)⟩
def lw_privs_2 : List (MethodName × Nat) := [(⟨"LastWateredModel", "rained", "(I)I"⟩, 35), (⟨"LastWateredModel", "nextOf", "(I)I"⟩, 35), (⟨"LastWateredModel", "whyNot", "(III)I"⟩, 35), (⟨"LastWateredModel", "isAsSeen", "()Z"⟩, 35), (⟨"LastWateredModel", "nextBy", "(II)I"⟩, 35), (⟨"LastWateredModel", "comesOut", "(I)Z"⟩, 35), (⟨"LastWateredModel", "put", "(J)V"⟩, 35), (⟨"LastWateredModel", "layGardens", "()V"⟩, 35), (⟨"LastWateredModel", "garden", "(II)I"⟩, 35), (⟨"LastWateredModel", "mornings", "(I)I"⟩, 35), (⟨"LastWateredModel", "leads", "(II)I"⟩, 35), (⟨"LastWateredModel", "isWished", "(II)Z"⟩, 35), (⟨"LastWateredModel", "take", "(II)V"⟩, 35), (⟨"LastWateredModel", "canWater", "(I)Z"⟩, 35), (⟨"LastWateredModel", "wake", "(II)V"⟩, 35)]
theorem lw_r2 : ∀ q ∈ lw_privs_2, lw_okq q := List.forall_mem_cons.mpr ⟨lw_p16, List.forall_mem_cons.mpr ⟨lw_p17, List.forall_mem_cons.mpr ⟨lw_p18, List.forall_mem_cons.mpr ⟨lw_p19, List.forall_mem_cons.mpr ⟨lw_p20, List.forall_mem_cons.mpr ⟨lw_p21, List.forall_mem_cons.mpr ⟨lw_p22, List.forall_mem_cons.mpr ⟨lw_p23, List.forall_mem_cons.mpr ⟨lw_p24, List.forall_mem_cons.mpr ⟨lw_p25, List.forall_mem_cons.mpr ⟨lw_p26, List.forall_mem_cons.mpr ⟨lw_p27, List.forall_mem_cons.mpr ⟨lw_p28, List.forall_mem_cons.mpr ⟨lw_p29, List.forall_mem_cons.mpr ⟨lw_p30, fun _ h => absurd h List.not_mem_nil⟩⟩⟩⟩⟩⟩⟩⟩⟩⟩⟩⟩⟩⟩⟩
def lw_privs : List (MethodName × Nat) := lw_privs_1 ++ (lw_privs_2)
def lw_tbl : List Cond := k2_sels lw_privs ++ tables_1
theorem lw_privs_ok : ∀ q ∈ lw_privs, lw_okq q := by
  show ∀ q ∈ lw_privs_1 ++ (lw_privs_2), lw_okq q
  exact List.forall_mem_append.mpr ⟨lw_r1, lw_r2⟩
def RX0 : String := "LastWatered$Chance"
def TX0 : u_T := fun k => match k with
  | _ => ("", "", "", false)
def tyX0 : Nat → FieldType := fun k => match k with
  | _ => .int
theorem nmX0 : ∀ a, a < 0 → ∀ b, b < 0 → a ≠ b → (TX0 a).2.1 ≠ (TX0 b).2.1 := by decide +kernel
theorem tyX0_ok : ∀ k, k < 0 → parseFieldDescriptor (TX0 k).2.2.1 = some (tyX0 k) := by decide +kernel
abbrev cX0_ofWish : ByteArray := prog_2_method_2_code
def yX0_ofWish : MethodName := ⟨RX0, "ofWish", "(LLastWatered$Garden;LLastWatered$Pad;)J"⟩
abbrev cX0_tenths : ByteArray := prog_2_method_3_code
def yX0_tenths : MethodName := ⟨RX0, "tenths", "(LLastWatered$Garden;LLastWatered$Pad;II)J"⟩
abbrev cX0_afterWeather : ByteArray := prog_2_method_4_code
def yX0_afterWeather : MethodName := ⟨RX0, "afterWeather", "(LLastWatered$Garden;LLastWatered$Pad;II)J"⟩
abbrev cX0_allTenths : ByteArray := prog_2_method_5_code
def yX0_allTenths : MethodName := ⟨RX0, "allTenths", "(I)J"⟩
abbrev cX0_reduced : ByteArray := prog_2_method_6_code
def yX0_reduced : MethodName := ⟨RX0, "reduced", "(JJ)J"⟩
abbrev cX0_commonDivisor : ByteArray := prog_2_method_7_code
def yX0_commonDivisor : MethodName := ⟨RX0, "commonDivisor", "(JJ)J"⟩
def RX1 : String := "LastWatered$Filling"
def TX1 : u_T := fun k => match k with
  | 0 => ("LastWatered$Filling", "isKnown", "Z", false)
  | 1 => ("LastWatered$Filling", "ways", "I", false)
  | 2 => ("LastWatered$Filling", "untold", "I", false)
  | 3 => ("LastWatered$Filling", "first", "[I", true)
  | _ => ("LastWatered$Filling", "tried", "[I", true)
def tyX1 : Nat → FieldType := fun k => match k with
  | 0 => .boolean
  | 1 => .int
  | 2 => .int
  | 3 => .array .int
  | _ => .array .int
theorem nmX1 : ∀ a, a < 5 → ∀ b, b < 5 → a ≠ b → (TX1 a).2.1 ≠ (TX1 b).2.1 := by decide +kernel
theorem tyX1_ok : ∀ k, k < 5 → parseFieldDescriptor (TX1 k).2.2.1 = some (tyX1 k) := by decide +kernel
abbrev cX1_init : ByteArray := prog_3_method_1_code
def yX1_init : MethodName := ⟨RX1, "<init>", "()V"⟩
abbrev cX1_search : ByteArray := prog_3_method_2_code
def yX1_search : MethodName := ⟨RX1, "search", "(LLastWatered$Garden;LLastWatered$Pad;)V"⟩
abbrev cX1_firstAt : ByteArray := prog_3_method_3_code
def yX1_firstAt : MethodName := ⟨RX1, "firstAt", "(I)I"⟩
abbrev cX1_goOn : ByteArray := prog_3_method_4_code
def yX1_goOn : MethodName := ⟨RX1, "goOn", "(LLastWatered$Garden;LLastWatered$Pad;IIII)V"⟩
abbrev cX1_tryBeds : ByteArray := prog_3_method_5_code
def yX1_tryBeds : MethodName := ⟨RX1, "tryBeds", "(LLastWatered$Garden;LLastWatered$Pad;IIII)V"⟩
abbrev cX1_keepWay : ByteArray := prog_3_method_6_code
def yX1_keepWay : MethodName := ⟨RX1, "keepWay", "()V"⟩
def RX2 : String := "LastWatered$Garden"
def TX2 : u_T := fun k => match k with
  | 0 => ("LastWatered$Garden", "beds", "I", false)
  | 1 => ("LastWatered$Garden", "law", "I", false)
  | 2 => ("LastWatered$Garden", "gate", "I", false)
  | 3 => ("LastWatered$Garden", "wet", "I", false)
  | 4 => ("LastWatered$Garden", "stand", "I", false)
  | 5 => ("LastWatered$Garden", "sights", "I", false)
  | 6 => ("LastWatered$Garden", "colours", "[I", true)
  | 7 => ("LastWatered$Garden", "past", "[I", true)
  | 8 => ("LastWatered$Garden", "inBloom", "[I", true)
  | 9 => ("LastWatered$Garden", "sightMornings", "[I", true)
  | _ => ("LastWatered$Garden", "sightBeds", "[I", true)
def tyX2 : Nat → FieldType := fun k => match k with
  | 0 => .int
  | 1 => .int
  | 2 => .int
  | 3 => .int
  | 4 => .int
  | 5 => .int
  | 6 => .array .int
  | 7 => .array .int
  | 8 => .array .int
  | 9 => .array .int
  | _ => .array .int
theorem nmX2 : ∀ a, a < 11 → ∀ b, b < 11 → a ≠ b → (TX2 a).2.1 ≠ (TX2 b).2.1 := by decide +kernel
theorem tyX2_ok : ∀ k, k < 11 → parseFieldDescriptor (TX2 k).2.2.1 = some (tyX2 k) := by decide +kernel
abbrev cX2_init : ByteArray := prog_4_method_1_code
def yX2_init : MethodName := ⟨RX2, "<init>", "()V"⟩
abbrev cX2_layOut : ByteArray := prog_4_method_2_code
def yX2_layOut : MethodName := ⟨RX2, "layOut", "(I)V"⟩
abbrev cX2_copyFrom : ByteArray := prog_4_method_3_code
def yX2_copyFrom : MethodName := ⟨RX2, "copyFrom", "(LLastWatered$Garden;)V"⟩
abbrev cX2_isBed : ByteArray := prog_4_method_4_code
def yX2_isBed : MethodName := ⟨RX2, "isBed", "(I)Z"⟩
abbrev cX2_pastOf : ByteArray := prog_4_method_5_code
def yX2_pastOf : MethodName := ⟨RX2, "pastOf", "(I)I"⟩
abbrev cX2_isReachedPast : ByteArray := prog_4_method_6_code
def yX2_isReachedPast : MethodName := ⟨RX2, "isReachedPast", "(II)Z"⟩
abbrev cX2_whyNot : ByteArray := prog_4_method_7_code
def yX2_whyNot : MethodName := ⟨RX2, "whyNot", "(II)I"⟩
abbrev cX2_whyNotWater : ByteArray := prog_4_method_8_code
def yX2_whyNotWater : MethodName := ⟨RX2, "whyNotWater", "(II)I"⟩
abbrev cX2_after : ByteArray := prog_4_method_9_code
def yX2_after : MethodName := ⟨RX2, "after", "(II)I"⟩
abbrev cX2_afterMorning : ByteArray := prog_4_method_10_code
def yX2_afterMorning : MethodName := ⟨RX2, "afterMorning", "(I)I"⟩
abbrev cX2_nextBed : ByteArray := prog_4_method_11_code
def yX2_nextBed : MethodName := ⟨RX2, "nextBed", "(I)I"⟩
abbrev cX2_nextPlace : ByteArray := prog_4_method_12_code
def yX2_nextPlace : MethodName := ⟨RX2, "nextPlace", "(I)I"⟩
abbrev cX2_firstImpossible : ByteArray := prog_4_method_13_code
def yX2_firstImpossible : MethodName := ⟨RX2, "firstImpossible", "(LLastWatered$Pad;)I"⟩
abbrev cX2_whyImpossible : ByteArray := prog_4_method_14_code
def yX2_whyImpossible : MethodName := ⟨RX2, "whyImpossible", "(LLastWatered$Pad;)I"⟩
abbrev cX2_live : ByteArray := prog_4_method_15_code
def yX2_live : MethodName := ⟨RX2, "live", "(LLastWatered$Pad;)V"⟩
abbrev cX2_see : ByteArray := prog_4_method_16_code
def yX2_see : MethodName := ⟨RX2, "see", "(II)Z"⟩
abbrev cX2_isAsSeen : ByteArray := prog_4_method_17_code
def yX2_isAsSeen : MethodName := ⟨RX2, "isAsSeen", "(II)Z"⟩
abbrev cX2_sawNoMorningFrom : ByteArray := prog_4_method_18_code
def yX2_sawNoMorningFrom : MethodName := ⟨RX2, "sawNoMorningFrom", "(I)Z"⟩
abbrev cX2_pleases : ByteArray := prog_4_method_19_code
def yX2_pleases : MethodName := ⟨RX2, "pleases", "(II)Z"⟩
def RX3 : String := "LastWatered$Gardeners"
def TX3 : u_T := fun k => match k with
  | _ => ("", "", "", false)
def tyX3 : Nat → FieldType := fun k => match k with
  | _ => .int
theorem nmX3 : ∀ a, a < 0 → ∀ b, b < 0 → a ≠ b → (TX3 a).2.1 ≠ (TX3 b).2.1 := by decide +kernel
theorem tyX3_ok : ∀ k, k < 0 → parseFieldDescriptor (TX3 k).2.2.1 = some (tyX3 k) := by decide +kernel
abbrev cX3_morningOfBloom : ByteArray := prog_5_method_2_code
def yX3_morningOfBloom : MethodName := ⟨RX3, "morningOfBloom", "(LLastWatered$Garden;I)I"⟩
abbrev cX3_morningOf : ByteArray := prog_5_method_3_code
def yX3_morningOf : MethodName := ⟨RX3, "morningOf", "(LLastWatered$Garden;III)I"⟩
abbrev cX3_afterWatering : ByteArray := prog_5_method_4_code
def yX3_afterWatering : MethodName := ⟨RX3, "afterWatering", "(LLastWatered$Garden;III)I"⟩
abbrev cX3_better : ByteArray := prog_5_method_5_code
def yX3_better : MethodName := ⟨RX3, "better", "(IIZ)I"⟩
def RX4 : String := "LastWatered$Memory"
def TX4 : u_T := fun k => match k with
  | 0 => ("LastWatered$Memory", "stands", "[I", true)
  | _ => ("LastWatered$Memory", "failed", "[I", true)
def tyX4 : Nat → FieldType := fun k => match k with
  | 0 => .array .int
  | _ => .array .int
theorem nmX4 : ∀ a, a < 2 → ∀ b, b < 2 → a ≠ b → (TX4 a).2.1 ≠ (TX4 b).2.1 := by decide +kernel
theorem tyX4_ok : ∀ k, k < 2 → parseFieldDescriptor (TX4 k).2.2.1 = some (tyX4 k) := by decide +kernel
abbrev cX4_init : ByteArray := prog_6_method_1_code
def yX4_init : MethodName := ⟨RX4, "<init>", "()V"⟩
abbrev cX4_clear : ByteArray := prog_6_method_2_code
def yX4_clear : MethodName := ⟨RX4, "clear", "()V"⟩
abbrev cX4_slotOf : ByteArray := prog_6_method_3_code
def yX4_slotOf : MethodName := ⟨RX4, "slotOf", "(I)I"⟩
abbrev cX4_failedWith : ByteArray := prog_6_method_4_code
def yX4_failedWith : MethodName := ⟨RX4, "failedWith", "(I)I"⟩
abbrev cX4_keep : ByteArray := prog_6_method_5_code
def yX4_keep : MethodName := ⟨RX4, "keep", "(II)V"⟩
def RX5 : String := "LastWatered$Order"
def TX5 : u_T := fun k => match k with
  | _ => ("", "", "", false)
def tyX5 : Nat → FieldType := fun k => match k with
  | _ => .int
theorem nmX5 : ∀ a, a < 0 → ∀ b, b < 0 → a ≠ b → (TX5 a).2.1 ≠ (TX5 b).2.1 := by decide +kernel
theorem tyX5_ok : ∀ k, k < 0 → parseFieldDescriptor (TX5 k).2.2.1 = some (tyX5 k) := by decide +kernel
abbrev cX5_isHadFrom : ByteArray := prog_7_method_2_code
def yX5_isHadFrom : MethodName := ⟨RX5, "isHadFrom", "(LLastWatered$Garden;I)Z"⟩
abbrev cX5_comesFrom : ByteArray := prog_7_method_3_code
def yX5_comesFrom : MethodName := ⟨RX5, "comesFrom", "(LLastWatered$Garden;III)Z"⟩
abbrev cX5_number : ByteArray := prog_7_method_4_code
def yX5_number : MethodName := ⟨RX5, "number", "([JII)J"⟩
abbrev cX5_firstPattern : ByteArray := prog_7_method_5_code
def yX5_firstPattern : MethodName := ⟨RX5, "firstPattern", "(II)I"⟩
abbrev cX5_fewestGardens : ByteArray := prog_7_method_6_code
def yX5_fewestGardens : MethodName := ⟨RX5, "fewestGardens", "(II)I"⟩
abbrev cX5_isMadeBy : ByteArray := prog_7_method_7_code
def yX5_isMadeBy : MethodName := ⟨RX5, "isMadeBy", "(III)Z"⟩
abbrev cX5_isMadeBehind : ByteArray := prog_7_method_8_code
def yX5_isMadeBehind : MethodName := ⟨RX5, "isMadeBehind", "(IIIIII)Z"⟩
abbrev cX5_asSeenFrom : ByteArray := prog_7_method_9_code
def yX5_asSeenFrom : MethodName := ⟨RX5, "asSeenFrom", "(III)I"⟩
def RX6 : String := "LastWatered$Packed"
def TX6 : u_T := fun k => match k with
  | _ => ("", "", "", false)
def tyX6 : Nat → FieldType := fun k => match k with
  | _ => .int
theorem nmX6 : ∀ a, a < 0 → ∀ b, b < 0 → a ≠ b → (TX6 a).2.1 ≠ (TX6 b).2.1 := by decide +kernel
theorem tyX6_ok : ∀ k, k < 0 → parseFieldDescriptor (TX6 k).2.2.1 = some (tyX6 k) := by decide +kernel
abbrev cX6_at : ByteArray := prog_8_method_2_code
def yX6_at : MethodName := ⟨RX6, "at", "(II)I"⟩
abbrev cX6_put : ByteArray := prog_8_method_3_code
def yX6_put : MethodName := ⟨RX6, "put", "(II)I"⟩
def RX7 : String := "LastWatered$Pad"
def TX7 : u_T := fun k => match k with
  | 0 => ("LastWatered$Pad", "count", "I", false)
  | _ => ("LastWatered$Pad", "signs", "[I", true)
def tyX7 : Nat → FieldType := fun k => match k with
  | 0 => .int
  | _ => .array .int
theorem nmX7 : ∀ a, a < 2 → ∀ b, b < 2 → a ≠ b → (TX7 a).2.1 ≠ (TX7 b).2.1 := by decide +kernel
theorem tyX7_ok : ∀ k, k < 2 → parseFieldDescriptor (TX7 k).2.2.1 = some (tyX7 k) := by decide +kernel
abbrev cX7_init : ByteArray := prog_9_method_1_code
def yX7_init : MethodName := ⟨RX7, "<init>", "()V"⟩
abbrev cX7_write : ByteArray := prog_9_method_2_code
def yX7_write : MethodName := ⟨RX7, "write", "(I)Z"⟩
abbrev cX7_signAt : ByteArray := prog_9_method_3_code
def yX7_signAt : MethodName := ⟨RX7, "signAt", "(I)I"⟩
abbrev cX7_numberOf : ByteArray := prog_9_method_4_code
def yX7_numberOf : MethodName := ⟨RX7, "numberOf", "(I)I"⟩
abbrev cX7_weekFault : ByteArray := prog_9_method_5_code
def yX7_weekFault : MethodName := ⟨RX7, "weekFault", "(I)I"⟩
abbrev cX7_orderFault : ByteArray := prog_9_method_6_code
def yX7_orderFault : MethodName := ⟨RX7, "orderFault", "(I)I"⟩
abbrev cX7_wishFault : ByteArray := prog_9_method_7_code
def yX7_wishFault : MethodName := ⟨RX7, "wishFault", "(I)I"⟩
abbrev cX7_order : ByteArray := prog_9_method_8_code
def yX7_order : MethodName := ⟨RX7, "order", "()I"⟩
abbrev cX7_colourOf : ByteArray := prog_9_method_9_code
def yX7_colourOf : MethodName := ⟨RX7, "colourOf", "(I)I"⟩
abbrev cX7_isLetter : ByteArray := prog_9_method_10_code
def yX7_isLetter : MethodName := ⟨RX7, "isLetter", "(II)Z"⟩
def RX8 : String := "LastWatered$Stand"
def TX8 : u_T := fun k => match k with
  | _ => ("", "", "", false)
def tyX8 : Nat → FieldType := fun k => match k with
  | _ => .int
theorem nmX8 : ∀ a, a < 0 → ∀ b, b < 0 → a ≠ b → (TX8 a).2.1 ≠ (TX8 b).2.1 := by decide +kernel
theorem tyX8_ok : ∀ k, k < 0 → parseFieldDescriptor (TX8 k).2.2.1 = some (tyX8 k) := by decide +kernel
abbrev cX8_length : ByteArray := prog_10_method_2_code
def yX8_length : MethodName := ⟨RX8, "length", "(I)I"⟩
abbrev cX8_numberBloomed : ByteArray := prog_10_method_3_code
def yX8_numberBloomed : MethodName := ⟨RX8, "numberBloomed", "(I)I"⟩
abbrev cX8_bedAt : ByteArray := prog_10_method_4_code
def yX8_bedAt : MethodName := ⟨RX8, "bedAt", "(II)I"⟩
abbrev cX8_isInRow : ByteArray := prog_10_method_5_code
def yX8_isInRow : MethodName := ⟨RX8, "isInRow", "(II)Z"⟩
abbrev cX8_hasBloomed : ByteArray := prog_10_method_6_code
def yX8_hasBloomed : MethodName := ⟨RX8, "hasBloomed", "(II)Z"⟩
abbrev cX8_watered : ByteArray := prog_10_method_7_code
def yX8_watered : MethodName := ⟨RX8, "watered", "(II)I"⟩
abbrev cX8_rained : ByteArray := prog_10_method_8_code
def yX8_rained : MethodName := ⟨RX8, "rained", "(II)I"⟩
abbrev cX8_afterBloom : ByteArray := prog_10_method_9_code
def yX8_afterBloom : MethodName := ⟨RX8, "afterBloom", "(II)I"⟩
abbrev cX8_placeOf : ByteArray := prog_10_method_10_code
def yX8_placeOf : MethodName := ⟨RX8, "placeOf", "(II)I"⟩
abbrev cX8_without : ByteArray := prog_10_method_11_code
def yX8_without : MethodName := ⟨RX8, "without", "(II)I"⟩
def RX9 : String := "LastWatered$Wishing"
def TX9 : u_T := fun k => match k with
  | 0 => ("LastWatered$Wishing", "isKnown", "Z", false)
  | 1 => ("LastWatered$Wishing", "waterings", "I", false)
  | 2 => ("LastWatered$Wishing", "length", "I", false)
  | 3 => ("LastWatered$Wishing", "week", "[I", true)
  | _ => ("LastWatered$Wishing", "memory", "LLastWatered$Memory;", true)
def tyX9 : Nat → FieldType := fun k => match k with
  | 0 => .boolean
  | 1 => .int
  | 2 => .int
  | 3 => .array .int
  | _ => .object "LastWatered$Memory"
theorem nmX9 : ∀ a, a < 5 → ∀ b, b < 5 → a ≠ b → (TX9 a).2.1 ≠ (TX9 b).2.1 := by decide +kernel
theorem tyX9_ok : ∀ k, k < 5 → parseFieldDescriptor (TX9 k).2.2.1 = some (tyX9 k) := by decide +kernel
abbrev cX9_init : ByteArray := prog_11_method_1_code
def yX9_init : MethodName := ⟨RX9, "<init>", "()V"⟩
abbrev cX9_search : ByteArray := prog_11_method_2_code
def yX9_search : MethodName := ⟨RX9, "search", "(LLastWatered$Garden;LLastWatered$Pad;)V"⟩
abbrev cX9_signAt : ByteArray := prog_11_method_3_code
def yX9_signAt : MethodName := ⟨RX9, "signAt", "(I)I"⟩
abbrev cX9_hasBedsFor : ByteArray := prog_11_method_4_code
def yX9_hasBedsFor : MethodName := ⟨RX9, "hasBedsFor", "(LLastWatered$Garden;LLastWatered$Pad;)Z"⟩
abbrev cX9_numberToBloom : ByteArray := prog_11_method_5_code
def yX9_numberToBloom : MethodName := ⟨RX9, "numberToBloom", "(LLastWatered$Garden;I)I"⟩
abbrev cX9_isReached : ByteArray := prog_11_method_6_code
def yX9_isReached : MethodName := ⟨RX9, "isReached", "(LLastWatered$Garden;LLastWatered$Pad;III)Z"⟩
abbrev cX9_signOf : ByteArray := prog_11_method_7_code
def yX9_signOf : MethodName := ⟨RX9, "signOf", "(II)I"⟩
abbrev cX9_isFitting : ByteArray := prog_11_method_8_code
def yX9_isFitting : MethodName := ⟨RX9, "isFitting", "(LLastWatered$Garden;III)Z"⟩
def RX10 : String := "LastWatered"
def TX10 : u_T := fun k => match k with
  | 0 => ("LastWatered", "pad", "LLastWatered$Pad;", true)
  | 1 => ("LastWatered", "garden", "LLastWatered$Garden;", true)
  | 2 => ("LastWatered", "images", "[LLastWatered$Garden;", true)
  | 3 => ("LastWatered", "filling", "LLastWatered$Filling;", true)
  | 4 => ("LastWatered", "wishing", "LLastWatered$Wishing;", true)
  | _ => ("LastWatered", "heights", "[J", true)
def tyX10 : Nat → FieldType := fun k => match k with
  | 0 => .object "LastWatered$Pad"
  | 1 => .object "LastWatered$Garden"
  | 2 => .array (.object "LastWatered$Garden")
  | 3 => .object "LastWatered$Filling"
  | 4 => .object "LastWatered$Wishing"
  | _ => .array .long
theorem nmX10 : ∀ a, a < 6 → ∀ b, b < 6 → a ≠ b → (TX10 a).2.1 ≠ (TX10 b).2.1 := by decide +kernel
theorem tyX10_ok : ∀ k, k < 6 → parseFieldDescriptor (TX10 k).2.2.1 = some (tyX10 k) := by decide +kernel
abbrev cX10_init : ByteArray := prog_1_method_1_code
def yX10_init : MethodName := ⟨RX10, "<init>", "()V"⟩
abbrev cX10_beds : ByteArray := prog_1_method_2_code
def yX10_beds : MethodName := ⟨RX10, "beds", "(I)I"⟩
abbrev cX10_colour : ByteArray := prog_1_method_3_code
def yX10_colour : MethodName := ⟨RX10, "colour", "(II)I"⟩
abbrev cX10_past : ByteArray := prog_1_method_4_code
def yX10_past : MethodName := ⟨RX10, "past", "(II)I"⟩
abbrev cX10_set : ByteArray := prog_1_method_5_code
def yX10_set : MethodName := ⟨RX10, "set", "(II)I"⟩
abbrev cX10_say : ByteArray := prog_1_method_6_code
def yX10_say : MethodName := ⟨RX10, "say", "(I)I"⟩
abbrev cX10_wipe : ByteArray := prog_1_method_7_code
def yX10_wipe : MethodName := ⟨RX10, "wipe", "()I"⟩
abbrev cX10_fault : ByteArray := prog_1_method_8_code
def yX10_fault : MethodName := ⟨RX10, "fault", "(I)I"⟩
abbrev cX10_judge : ByteArray := prog_1_method_9_code
def yX10_judge : MethodName := ⟨RX10, "judge", "(I)I"⟩
abbrev cX10_week : ByteArray := prog_1_method_10_code
def yX10_week : MethodName := ⟨RX10, "week", "()I"⟩
abbrev cX10_row : ByteArray := prog_1_method_11_code
def yX10_row : MethodName := ⟨RX10, "row", "(I)I"⟩
abbrev cX10_bloomed : ByteArray := prog_1_method_12_code
def yX10_bloomed : MethodName := ⟨RX10, "bloomed", "(I)I"⟩
abbrev cX10_anew : ByteArray := prog_1_method_13_code
def yX10_anew : MethodName := ⟨RX10, "anew", "()I"⟩
abbrev cX10_seen : ByteArray := prog_1_method_14_code
def yX10_seen : MethodName := ⟨RX10, "seen", "(II)I"⟩
abbrev cX10_forget : ByteArray := prog_1_method_15_code
def yX10_forget : MethodName := ⟨RX10, "forget", "()I"⟩
abbrev cX10_filled : ByteArray := prog_1_method_16_code
def yX10_filled : MethodName := ⟨RX10, "filled", "(I)I"⟩
abbrev cX10_canBe : ByteArray := prog_1_method_17_code
def yX10_canBe : MethodName := ⟨RX10, "canBe", "()I"⟩
abbrev cX10_orders : ByteArray := prog_1_method_18_code
def yX10_orders : MethodName := ⟨RX10, "orders", "(II)J"⟩
abbrev cX10_pattern : ByteArray := prog_1_method_19_code
def yX10_pattern : MethodName := ⟨RX10, "pattern", "(I)I"⟩
abbrev cX10_behind : ByteArray := prog_1_method_20_code
def yX10_behind : MethodName := ⟨RX10, "behind", "()I"⟩
abbrev cX10_fewest : ByteArray := prog_1_method_21_code
def yX10_fewest : MethodName := ⟨RX10, "fewest", "(I)I"⟩
abbrev cX10_chance : ByteArray := prog_1_method_22_code
def yX10_chance : MethodName := ⟨RX10, "chance", "(I)J"⟩
abbrev cX10_turns : ByteArray := prog_1_method_23_code
def yX10_turns : MethodName := ⟨RX10, "turns", "(I)I"⟩
abbrev cX10_image : ByteArray := prog_1_method_24_code
def yX10_image : MethodName := ⟨RX10, "image", "(I)I"⟩
abbrev cX10_restore : ByteArray := prog_1_method_25_code
def yX10_restore : MethodName := ⟨RX10, "restore", "(I)I"⟩
abbrev cX10_told : ByteArray := prog_1_method_26_code
def yX10_told : MethodName := ⟨RX10, "told", "(I)I"⟩
abbrev cX10_isFaultyWeek : ByteArray := prog_1_method_27_code
def yX10_isFaultyWeek : MethodName := ⟨RX10, "isFaultyWeek", "()Z"⟩
abbrev cX10_isFaultyOrder : ByteArray := prog_1_method_28_code
def yX10_isFaultyOrder : MethodName := ⟨RX10, "isFaultyOrder", "()Z"⟩
abbrev cX10_isFaultyWish : ByteArray := prog_1_method_29_code
def yX10_isFaultyWish : MethodName := ⟨RX10, "isFaultyWish", "()Z"⟩
abbrev cX10_dropAnswers : ByteArray := prog_1_method_30_code
def yX10_dropAnswers : MethodName := ⟨RX10, "dropAnswers", "()V"⟩
def RX11 : String := "LastWateredModel"
def TX11 : u_T := fun k => match k with
  | 0 => ("LastWateredModel", "beds", "I", false)
  | 1 => ("LastWateredModel", "colours", "[I", true)
  | 2 => ("LastWateredModel", "pasts", "[I", true)
  | 3 => ("LastWateredModel", "law", "I", false)
  | 4 => ("LastWateredModel", "gate", "I", false)
  | 5 => ("LastWateredModel", "wet", "I", false)
  | 6 => ("LastWateredModel", "signs", "I", false)
  | 7 => ("LastWateredModel", "pad", "[I", true)
  | 8 => ("LastWateredModel", "row", "I", false)
  | 9 => ("LastWateredModel", "bloomed", "I", false)
  | 10 => ("LastWateredModel", "came", "[I", true)
  | 11 => ("LastWateredModel", "many", "I", false)
  | 12 => ("LastWateredModel", "sights", "I", false)
  | 13 => ("LastWateredModel", "sight", "[I", true)
  | 14 => ("LastWateredModel", "nowRow", "I", false)
  | 15 => ("LastWateredModel", "nowSet", "I", false)
  | 16 => ("LastWateredModel", "bloomedNow", "I", false)
  | 17 => ("LastWateredModel", "nowCame", "[I", true)
  | 18 => ("LastWateredModel", "reason", "I", false)
  | 19 => ("LastWateredModel", "can", "[Z", true)
  | 20 => ("LastWateredModel", "ways", "[J", true)
  | 21 => ("LastWateredModel", "table", "[J", true)
  | 22 => ("LastWateredModel", "line", "[J", true)
  | 23 => ("LastWateredModel", "lines", "I", false)
  | 24 => ("LastWateredModel", "gardens", "I", false)
  | 25 => ("LastWateredModel", "rowOf", "[I", true)
  | 26 => ("LastWateredModel", "setOf", "[I", true)
  | 27 => ("LastWateredModel", "cost", "[I", true)
  | 28 => ("LastWateredModel", "places", "[I", true)
  | 29 => ("LastWateredModel", "rowAt", "[I", true)
  | 30 => ("LastWateredModel", "setAt", "[I", true)
  | 31 => ("LastWateredModel", "next", "[I", true)
  | 32 => ("LastWateredModel", "value", "[I", true)
  | 33 => ("LastWateredModel", "image", "[I", true)
  | _ => ("LastWateredModel", "isKept", "[Z", true)
def tyX11 : Nat → FieldType := fun k => match k with
  | 0 => .int
  | 1 => .array .int
  | 2 => .array .int
  | 3 => .int
  | 4 => .int
  | 5 => .int
  | 6 => .int
  | 7 => .array .int
  | 8 => .int
  | 9 => .int
  | 10 => .array .int
  | 11 => .int
  | 12 => .int
  | 13 => .array .int
  | 14 => .int
  | 15 => .int
  | 16 => .int
  | 17 => .array .int
  | 18 => .int
  | 19 => .array .boolean
  | 20 => .array .long
  | 21 => .array .long
  | 22 => .array .long
  | 23 => .int
  | 24 => .int
  | 25 => .array .int
  | 26 => .array .int
  | 27 => .array .int
  | 28 => .array .int
  | 29 => .array .int
  | 30 => .array .int
  | 31 => .array .int
  | 32 => .array .int
  | 33 => .array .int
  | _ => .array .boolean
theorem nmX11 : ∀ a, a < 35 → ∀ b, b < 35 → a ≠ b → (TX11 a).2.1 ≠ (TX11 b).2.1 := by decide +kernel
theorem tyX11_ok : ∀ k, k < 35 → parseFieldDescriptor (TX11 k).2.2.1 = some (tyX11 k) := by decide +kernel
abbrev cX11_init : ByteArray := prog_13_method_1_code
def yX11_init : MethodName := ⟨RX11, "<init>", "()V"⟩
abbrev cX11_begin : ByteArray := prog_13_method_2_code
def yX11_begin : MethodName := ⟨RX11, "begin", "()V"⟩
abbrev cX11_in : ByteArray := prog_13_method_3_code
def yX11_in : MethodName := ⟨RX11, "in", "(III)Z"⟩
abbrev cX11_has : ByteArray := prog_13_method_4_code
def yX11_has : MethodName := ⟨RX11, "has", "(II)Z"⟩
abbrev cX11_isBed : ByteArray := prog_13_method_5_code
def yX11_isBed : MethodName := ⟨RX11, "isBed", "(I)Z"⟩
abbrev cX11_beds : ByteArray := prog_13_method_6_code
def yX11_beds : MethodName := ⟨RX11, "beds", "(I)I"⟩
abbrev cX11_colour : ByteArray := prog_13_method_7_code
def yX11_colour : MethodName := ⟨RX11, "colour", "(II)I"⟩
abbrev cX11_past : ByteArray := prog_13_method_8_code
def yX11_past : MethodName := ⟨RX11, "past", "(II)I"⟩
abbrev cX11_set : ByteArray := prog_13_method_9_code
def yX11_set : MethodName := ⟨RX11, "set", "(II)I"⟩
abbrev cX11_say : ByteArray := prog_13_method_10_code
def yX11_say : MethodName := ⟨RX11, "say", "(I)I"⟩
abbrev cX11_wipe : ByteArray := prog_13_method_11_code
def yX11_wipe : MethodName := ⟨RX11, "wipe", "()I"⟩
abbrev cX11_weekFault : ByteArray := prog_13_method_12_code
def yX11_weekFault : MethodName := ⟨RX11, "weekFault", "()I"⟩
abbrev cX11_orderFault : ByteArray := prog_13_method_13_code
def yX11_orderFault : MethodName := ⟨RX11, "orderFault", "()I"⟩
abbrev cX11_colourOf : ByteArray := prog_13_method_14_code
def yX11_colourOf : MethodName := ⟨RX11, "colourOf", "(I)I"⟩
abbrev cX11_wishFault : ByteArray := prog_13_method_15_code
def yX11_wishFault : MethodName := ⟨RX11, "wishFault", "()I"⟩
abbrev cX11_fault : ByteArray := prog_13_method_16_code
def yX11_fault : MethodName := ⟨RX11, "fault", "(I)I"⟩
abbrev cX11_opens : ByteArray := prog_13_method_17_code
def yX11_opens : MethodName := ⟨RX11, "opens", "()I"⟩
abbrev cX11_sizeOf : ByteArray := prog_13_method_18_code
def yX11_sizeOf : MethodName := ⟨RX11, "sizeOf", "(I)I"⟩
abbrev cX11_without : ByteArray := prog_13_method_19_code
def yX11_without : MethodName := ⟨RX11, "without", "(II)I"⟩
abbrev cX11_isIn : ByteArray := prog_13_method_20_code
def yX11_isIn : MethodName := ⟨RX11, "isIn", "(II)Z"⟩
abbrev cX11_watered : ByteArray := prog_13_method_21_code
def yX11_watered : MethodName := ⟨RX11, "watered", "(II)I"⟩
abbrev cX11_rained : ByteArray := prog_13_method_22_code
def yX11_rained : MethodName := ⟨RX11, "rained", "(I)I"⟩
abbrev cX11_nextOf : ByteArray := prog_13_method_23_code
def yX11_nextOf : MethodName := ⟨RX11, "nextOf", "(I)I"⟩
abbrev cX11_whyNot : ByteArray := prog_13_method_24_code
def yX11_whyNot : MethodName := ⟨RX11, "whyNot", "(III)I"⟩
abbrev cX11_goWeek : ByteArray := prog_13_method_25_code
def yX11_goWeek : MethodName := ⟨RX11, "goWeek", "(I)I"⟩
abbrev cX11_judge : ByteArray := prog_13_method_26_code
def yX11_judge : MethodName := ⟨RX11, "judge", "(I)I"⟩
abbrev cX11_week : ByteArray := prog_13_method_27_code
def yX11_week : MethodName := ⟨RX11, "week", "()I"⟩
abbrev cX11_row : ByteArray := prog_13_method_28_code
def yX11_row : MethodName := ⟨RX11, "row", "(I)I"⟩
abbrev cX11_bloomed : ByteArray := prog_13_method_29_code
def yX11_bloomed : MethodName := ⟨RX11, "bloomed", "(I)I"⟩
abbrev cX11_anew : ByteArray := prog_13_method_30_code
def yX11_anew : MethodName := ⟨RX11, "anew", "()I"⟩
abbrev cX11_seen : ByteArray := prog_13_method_31_code
def yX11_seen : MethodName := ⟨RX11, "seen", "(II)I"⟩
abbrev cX11_forget : ByteArray := prog_13_method_32_code
def yX11_forget : MethodName := ⟨RX11, "forget", "()I"⟩
abbrev cX11_isAsSeen : ByteArray := prog_13_method_33_code
def yX11_isAsSeen : MethodName := ⟨RX11, "isAsSeen", "()Z"⟩
abbrev cX11_filled : ByteArray := prog_13_method_34_code
def yX11_filled : MethodName := ⟨RX11, "filled", "(I)I"⟩
abbrev cX11_nextBy : ByteArray := prog_13_method_35_code
def yX11_nextBy : MethodName := ⟨RX11, "nextBy", "(II)I"⟩
abbrev cX11_canBe : ByteArray := prog_13_method_36_code
def yX11_canBe : MethodName := ⟨RX11, "canBe", "()I"⟩
abbrev cX11_orders : ByteArray := prog_13_method_37_code
def yX11_orders : MethodName := ⟨RX11, "orders", "(II)J"⟩
abbrev cX11_pattern : ByteArray := prog_13_method_38_code
def yX11_pattern : MethodName := ⟨RX11, "pattern", "(I)I"⟩
abbrev cX11_put : ByteArray := prog_13_method_39_code
def yX11_put : MethodName := ⟨RX11, "put", "(J)V"⟩
abbrev cX11_comesOut : ByteArray := prog_13_method_40_code
def yX11_comesOut : MethodName := ⟨RX11, "comesOut", "(I)Z"⟩
abbrev cX11_behind : ByteArray := prog_13_method_41_code
def yX11_behind : MethodName := ⟨RX11, "behind", "()I"⟩
abbrev cX11_garden : ByteArray := prog_13_method_42_code
def yX11_garden : MethodName := ⟨RX11, "garden", "(II)I"⟩
abbrev cX11_bits : ByteArray := prog_13_method_43_code
def yX11_bits : MethodName := ⟨RX11, "bits", "(I)I"⟩
abbrev cX11_mornings : ByteArray := prog_13_method_44_code
def yX11_mornings : MethodName := ⟨RX11, "mornings", "(I)I"⟩
abbrev cX11_isWished : ByteArray := prog_13_method_45_code
def yX11_isWished : MethodName := ⟨RX11, "isWished", "(II)Z"⟩
abbrev cX11_leads : ByteArray := prog_13_method_46_code
def yX11_leads : MethodName := ⟨RX11, "leads", "(II)I"⟩
abbrev cX11_layGardens : ByteArray := prog_13_method_47_code
def yX11_layGardens : MethodName := ⟨RX11, "layGardens", "()V"⟩
abbrev cX11_fewest : ByteArray := prog_13_method_48_code
def yX11_fewest : MethodName := ⟨RX11, "fewest", "(I)I"⟩
abbrev cX11_chance : ByteArray := prog_13_method_49_code
def yX11_chance : MethodName := ⟨RX11, "chance", "(I)J"⟩
abbrev cX11_canWater : ByteArray := prog_13_method_50_code
def yX11_canWater : MethodName := ⟨RX11, "canWater", "(I)Z"⟩
abbrev cX11_wake : ByteArray := prog_13_method_51_code
def yX11_wake : MethodName := ⟨RX11, "wake", "(II)V"⟩
abbrev cX11_take : ByteArray := prog_13_method_52_code
def yX11_take : MethodName := ⟨RX11, "take", "(II)V"⟩
abbrev cX11_turns : ByteArray := prog_13_method_53_code
def yX11_turns : MethodName := ⟨RX11, "turns", "(I)I"⟩
abbrev cX11_image : ByteArray := prog_13_method_54_code
def yX11_image : MethodName := ⟨RX11, "image", "(I)I"⟩
abbrev cX11_restore : ByteArray := prog_13_method_55_code
def yX11_restore : MethodName := ⟨RX11, "restore", "(I)I"⟩
abbrev cX11_told : ByteArray := prog_13_method_56_code
def yX11_told : MethodName := ⟨RX11, "told", "(I)I"⟩
def RJ6 : String := "java/lang/Integer"
def TJ6 : u_T := fun k => match k with
  | _ => ("", "", "", false)
def tyJ6 : Nat → FieldType := fun k => match k with
  | _ => .int
theorem nmJ6 : ∀ a, a < 0 → ∀ b, b < 0 → a ≠ b → (TJ6 a).2.1 ≠ (TJ6 b).2.1 := by decide +kernel
theorem tyJ6_ok : ∀ k, k < 0 → parseFieldDescriptor (TJ6 k).2.2.1 = some (tyJ6 k) := by decide +kernel
abbrev cJ6_bitCount_0f7a4 : ByteArray := prog_14_method_49_code
def yJ6_bitCount_0f7a4 : MethodName := ⟨RJ6, "bitCount", "(I)I"⟩
def RJ9 : String := "java/lang/Math"
def TJ9 : u_T := fun k => match k with
  | _ => ("", "", "", false)
def tyJ9 : Nat → FieldType := fun k => match k with
  | _ => .int
theorem nmJ9 : ∀ a, a < 0 → ∀ b, b < 0 → a ≠ b → (TJ9 a).2.1 ≠ (TJ9 b).2.1 := by decide +kernel
theorem tyJ9_ok : ∀ k, k < 0 → parseFieldDescriptor (TJ9 k).2.2.1 = some (tyJ9 k) := by decide +kernel
abbrev cJ9_max_7cf53 : ByteArray := prog_15_method_65_code
def yJ9_max_7cf53 : MethodName := ⟨RJ9, "max", "(II)I"⟩
abbrev cJ9_min_7cf53 : ByteArray := prog_15_method_69_code
def yJ9_min_7cf53 : MethodName := ⟨RJ9, "min", "(II)I"⟩
def RJ10 : String := "java/lang/System"
def TJ10 : u_T := fun k => match k with
  | _ => ("", "", "", false)
def tyJ10 : Nat → FieldType := fun k => match k with
  | _ => .int
theorem nmJ10 : ∀ a, a < 0 → ∀ b, b < 0 → a ≠ b → (TJ10 a).2.1 ≠ (TJ10 b).2.1 := by decide +kernel
theorem tyJ10_ok : ∀ k, k < 0 → parseFieldDescriptor (TJ10 k).2.2.1 = some (tyJ10 k) := by decide +kernel
def RJ7 : String := "java/util/Arrays"
def TJ7 : u_T := fun k => match k with
  | _ => ("", "", "", false)
def tyJ7 : Nat → FieldType := fun k => match k with
  | _ => .int
theorem nmJ7 : ∀ a, a < 0 → ∀ b, b < 0 → a ≠ b → (TJ7 a).2.1 ≠ (TJ7 b).2.1 := by decide +kernel
theorem tyJ7_ok : ∀ k, k < 0 → parseFieldDescriptor (TJ7 k).2.2.1 = some (tyJ7 k) := by decide +kernel
abbrev cJ7_fill_d0a16 : ByteArray := prog_17_method_101_code
def yJ7_fill_d0a16 : MethodName := ⟨RJ7, "fill", "([JJ)V"⟩
abbrev cJ7_fill_53178 : ByteArray := prog_17_method_103_code
def yJ7_fill_53178 : MethodName := ⟨RJ7, "fill", "([II)V"⟩
def RL : String := "LastWateredLaw"
abbrev cL_law : ByteArray := code
abbrev vwCl : List vw_C := [(RX1, TX1, 5), (RX2, TX2, 11), (RX4, TX4, 2), (RX7, TX7, 2), (RX9, TX9, 5), (RX10, TX10, 6), (RX11, TX11, 35)]

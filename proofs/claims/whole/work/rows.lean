section
-- ===== PART A: goes FIRST, ahead of the names: the tables' words, and 'selects' of the private methods out of them =====
/-- a private method of a class that the tables say can be made, by its rows of tables_1 -/
def lw_okq (q : MethodName × Nat) : Prop := (q.1.cls ≠ "java/lang/invoke/MethodHandle" ∧ q.1.cls ≠ "java/lang/invoke/VarHandle") ∧ Cond.instantiable q.1.cls q.2 ∈ tables_1 ∧ Cond.privateMethod q.1 ∈ tables_1 ∧ Cond.instanceMethod q.1 ∈ tables_1
theorem lw_p0 : lw_okq (⟨"LastWatered", "dropAnswers", "()V"⟩, 6) := ⟨⟨by decide +kernel, by decide +kernel⟩, List.mem_of_getElem? (i := 18) (by decide +kernel), List.mem_of_getElem? (i := 198) (by decide +kernel), List.mem_of_getElem? (i := 199) (by decide +kernel)⟩
theorem lw_p1 : lw_okq (⟨"LastWatered", "isFaultyWeek", "()Z"⟩, 6) := ⟨⟨by decide +kernel, by decide +kernel⟩, List.mem_of_getElem? (i := 18) (by decide +kernel), List.mem_of_getElem? (i := 269) (by decide +kernel), List.mem_of_getElem? (i := 270) (by decide +kernel)⟩
theorem lw_p2 : lw_okq (⟨"LastWatered$Garden", "nextPlace", "(I)I"⟩, 11) := ⟨⟨by decide +kernel, by decide +kernel⟩, List.mem_of_getElem? (i := 45) (by decide +kernel), List.mem_of_getElem? (i := 322) (by decide +kernel), List.mem_of_getElem? (i := 323) (by decide +kernel)⟩
theorem lw_p3 : lw_okq (⟨"LastWatered$Filling", "goOn", "(LLastWatered$Garden;LLastWatered$Pad;IIII)V"⟩, 5) := ⟨⟨by decide +kernel, by decide +kernel⟩, List.mem_of_getElem? (i := 106) (by decide +kernel), List.mem_of_getElem? (i := 412) (by decide +kernel), List.mem_of_getElem? (i := 413) (by decide +kernel)⟩
theorem lw_p4 : lw_okq (⟨"LastWatered$Filling", "tryBeds", "(LLastWatered$Garden;LLastWatered$Pad;IIII)V"⟩, 5) := ⟨⟨by decide +kernel, by decide +kernel⟩, List.mem_of_getElem? (i := 106) (by decide +kernel), List.mem_of_getElem? (i := 417) (by decide +kernel), List.mem_of_getElem? (i := 418) (by decide +kernel)⟩
theorem lw_p5 : lw_okq (⟨"LastWatered$Filling", "keepWay", "()V"⟩, 5) := ⟨⟨by decide +kernel, by decide +kernel⟩, List.mem_of_getElem? (i := 106) (by decide +kernel), List.mem_of_getElem? (i := 430) (by decide +kernel), List.mem_of_getElem? (i := 431) (by decide +kernel)⟩
theorem lw_p6 : lw_okq (⟨"LastWatered", "isFaultyOrder", "()Z"⟩, 6) := ⟨⟨by decide +kernel, by decide +kernel⟩, List.mem_of_getElem? (i := 18) (by decide +kernel), List.mem_of_getElem? (i := 445) (by decide +kernel), List.mem_of_getElem? (i := 446) (by decide +kernel)⟩
theorem lw_p7 : lw_okq (⟨"LastWatered", "isFaultyWish", "()Z"⟩, 6) := ⟨⟨by decide +kernel, by decide +kernel⟩, List.mem_of_getElem? (i := 18) (by decide +kernel), List.mem_of_getElem? (i := 512) (by decide +kernel), List.mem_of_getElem? (i := 513) (by decide +kernel)⟩
theorem lw_p8 : lw_okq (⟨"LastWatered$Wishing", "isReached", "(LLastWatered$Garden;LLastWatered$Pad;III)Z"⟩, 5) := ⟨⟨by decide +kernel, by decide +kernel⟩, List.mem_of_getElem? (i := 130) (by decide +kernel), List.mem_of_getElem? (i := 540) (by decide +kernel), List.mem_of_getElem? (i := 541) (by decide +kernel)⟩
theorem lw_p9 : lw_okq (⟨"LastWateredModel", "begin", "()V"⟩, 35) := ⟨⟨by decide +kernel, by decide +kernel⟩, List.mem_of_getElem? (i := 639) (by decide +kernel), List.mem_of_getElem? (i := 646) (by decide +kernel), List.mem_of_getElem? (i := 647) (by decide +kernel)⟩
theorem lw_p10 : lw_okq (⟨"LastWateredModel", "isBed", "(I)Z"⟩, 35) := ⟨⟨by decide +kernel, by decide +kernel⟩, List.mem_of_getElem? (i := 639) (by decide +kernel), List.mem_of_getElem? (i := 768) (by decide +kernel), List.mem_of_getElem? (i := 769) (by decide +kernel)⟩
theorem lw_p11 : lw_okq (⟨"LastWateredModel", "weekFault", "()I"⟩, 35) := ⟨⟨by decide +kernel, by decide +kernel⟩, List.mem_of_getElem? (i := 639) (by decide +kernel), List.mem_of_getElem? (i := 792) (by decide +kernel), List.mem_of_getElem? (i := 793) (by decide +kernel)⟩
theorem lw_p12 : lw_okq (⟨"LastWateredModel", "orderFault", "()I"⟩, 35) := ⟨⟨by decide +kernel, by decide +kernel⟩, List.mem_of_getElem? (i := 639) (by decide +kernel), List.mem_of_getElem? (i := 796) (by decide +kernel), List.mem_of_getElem? (i := 797) (by decide +kernel)⟩
theorem lw_p13 : lw_okq (⟨"LastWateredModel", "wishFault", "()I"⟩, 35) := ⟨⟨by decide +kernel, by decide +kernel⟩, List.mem_of_getElem? (i := 639) (by decide +kernel), List.mem_of_getElem? (i := 803) (by decide +kernel), List.mem_of_getElem? (i := 804) (by decide +kernel)⟩
theorem lw_p14 : lw_okq (⟨"LastWateredModel", "opens", "()I"⟩, 35) := ⟨⟨by decide +kernel, by decide +kernel⟩, List.mem_of_getElem? (i := 639) (by decide +kernel), List.mem_of_getElem? (i := 814) (by decide +kernel), List.mem_of_getElem? (i := 815) (by decide +kernel)⟩
theorem lw_p15 : lw_okq (⟨"LastWateredModel", "goWeek", "(I)I"⟩, 35) := ⟨⟨by decide +kernel, by decide +kernel⟩, List.mem_of_getElem? (i := 639) (by decide +kernel), List.mem_of_getElem? (i := 818) (by decide +kernel), List.mem_of_getElem? (i := 819) (by decide +kernel)⟩
def lw_privs_1 : List (MethodName × Nat) := [(⟨"LastWatered", "dropAnswers", "()V"⟩, 6), (⟨"LastWatered", "isFaultyWeek", "()Z"⟩, 6), (⟨"LastWatered$Garden", "nextPlace", "(I)I"⟩, 11), (⟨"LastWatered$Filling", "goOn", "(LLastWatered$Garden;LLastWatered$Pad;IIII)V"⟩, 5), (⟨"LastWatered$Filling", "tryBeds", "(LLastWatered$Garden;LLastWatered$Pad;IIII)V"⟩, 5), (⟨"LastWatered$Filling", "keepWay", "()V"⟩, 5), (⟨"LastWatered", "isFaultyOrder", "()Z"⟩, 6), (⟨"LastWatered", "isFaultyWish", "()Z"⟩, 6), (⟨"LastWatered$Wishing", "isReached", "(LLastWatered$Garden;LLastWatered$Pad;III)Z"⟩, 5), (⟨"LastWateredModel", "begin", "()V"⟩, 35), (⟨"LastWateredModel", "isBed", "(I)Z"⟩, 35), (⟨"LastWateredModel", "weekFault", "()I"⟩, 35), (⟨"LastWateredModel", "orderFault", "()I"⟩, 35), (⟨"LastWateredModel", "wishFault", "()I"⟩, 35), (⟨"LastWateredModel", "opens", "()I"⟩, 35), (⟨"LastWateredModel", "goWeek", "(I)I"⟩, 35)]
theorem lw_r1 : ∀ q ∈ lw_privs_1, lw_okq q := List.forall_mem_cons.mpr ⟨lw_p0, List.forall_mem_cons.mpr ⟨lw_p1, List.forall_mem_cons.mpr ⟨lw_p2, List.forall_mem_cons.mpr ⟨lw_p3, List.forall_mem_cons.mpr ⟨lw_p4, List.forall_mem_cons.mpr ⟨lw_p5, List.forall_mem_cons.mpr ⟨lw_p6, List.forall_mem_cons.mpr ⟨lw_p7, List.forall_mem_cons.mpr ⟨lw_p8, List.forall_mem_cons.mpr ⟨lw_p9, List.forall_mem_cons.mpr ⟨lw_p10, List.forall_mem_cons.mpr ⟨lw_p11, List.forall_mem_cons.mpr ⟨lw_p12, List.forall_mem_cons.mpr ⟨lw_p13, List.forall_mem_cons.mpr ⟨lw_p14, List.forall_mem_cons.mpr ⟨lw_p15, fun _ h => absurd h List.not_mem_nil⟩⟩⟩⟩⟩⟩⟩⟩⟩⟩⟩⟩⟩⟩⟩⟩
theorem lw_p16 : lw_okq (⟨"LastWateredModel", "rained", "(I)I"⟩, 35) := ⟨⟨by decide +kernel, by decide +kernel⟩, List.mem_of_getElem? (i := 639) (by decide +kernel), List.mem_of_getElem? (i := 822) (by decide +kernel), List.mem_of_getElem? (i := 823) (by decide +kernel)⟩
theorem lw_p17 : lw_okq (⟨"LastWateredModel", "nextOf", "(I)I"⟩, 35) := ⟨⟨by decide +kernel, by decide +kernel⟩, List.mem_of_getElem? (i := 639) (by decide +kernel), List.mem_of_getElem? (i := 826) (by decide +kernel), List.mem_of_getElem? (i := 827) (by decide +kernel)⟩
theorem lw_p18 : lw_okq (⟨"LastWateredModel", "whyNot", "(III)I"⟩, 35) := ⟨⟨by decide +kernel, by decide +kernel⟩, List.mem_of_getElem? (i := 639) (by decide +kernel), List.mem_of_getElem? (i := 836) (by decide +kernel), List.mem_of_getElem? (i := 837) (by decide +kernel)⟩
theorem lw_p19 : lw_okq (⟨"LastWateredModel", "isAsSeen", "()Z"⟩, 35) := ⟨⟨by decide +kernel, by decide +kernel⟩, List.mem_of_getElem? (i := 639) (by decide +kernel), List.mem_of_getElem? (i := 874) (by decide +kernel), List.mem_of_getElem? (i := 875) (by decide +kernel)⟩
theorem lw_p20 : lw_okq (⟨"LastWateredModel", "nextBy", "(II)I"⟩, 35) := ⟨⟨by decide +kernel, by decide +kernel⟩, List.mem_of_getElem? (i := 639) (by decide +kernel), List.mem_of_getElem? (i := 882) (by decide +kernel), List.mem_of_getElem? (i := 883) (by decide +kernel)⟩
theorem lw_p21 : lw_okq (⟨"LastWateredModel", "comesOut", "(I)Z"⟩, 35) := ⟨⟨by decide +kernel, by decide +kernel⟩, List.mem_of_getElem? (i := 639) (by decide +kernel), List.mem_of_getElem? (i := 899) (by decide +kernel), List.mem_of_getElem? (i := 900) (by decide +kernel)⟩
theorem lw_p22 : lw_okq (⟨"LastWateredModel", "put", "(J)V"⟩, 35) := ⟨⟨by decide +kernel, by decide +kernel⟩, List.mem_of_getElem? (i := 639) (by decide +kernel), List.mem_of_getElem? (i := 903) (by decide +kernel), List.mem_of_getElem? (i := 904) (by decide +kernel)⟩
theorem lw_p23 : lw_okq (⟨"LastWateredModel", "layGardens", "()V"⟩, 35) := ⟨⟨by decide +kernel, by decide +kernel⟩, List.mem_of_getElem? (i := 639) (by decide +kernel), List.mem_of_getElem? (i := 921) (by decide +kernel), List.mem_of_getElem? (i := 922) (by decide +kernel)⟩
theorem lw_p24 : lw_okq (⟨"LastWateredModel", "garden", "(II)I"⟩, 35) := ⟨⟨by decide +kernel, by decide +kernel⟩, List.mem_of_getElem? (i := 639) (by decide +kernel), List.mem_of_getElem? (i := 925) (by decide +kernel), List.mem_of_getElem? (i := 926) (by decide +kernel)⟩
theorem lw_p25 : lw_okq (⟨"LastWateredModel", "mornings", "(I)I"⟩, 35) := ⟨⟨by decide +kernel, by decide +kernel⟩, List.mem_of_getElem? (i := 639) (by decide +kernel), List.mem_of_getElem? (i := 931) (by decide +kernel), List.mem_of_getElem? (i := 932) (by decide +kernel)⟩
theorem lw_p26 : lw_okq (⟨"LastWateredModel", "leads", "(II)I"⟩, 35) := ⟨⟨by decide +kernel, by decide +kernel⟩, List.mem_of_getElem? (i := 639) (by decide +kernel), List.mem_of_getElem? (i := 938) (by decide +kernel), List.mem_of_getElem? (i := 939) (by decide +kernel)⟩
theorem lw_p27 : lw_okq (⟨"LastWateredModel", "isWished", "(II)Z"⟩, 35) := ⟨⟨by decide +kernel, by decide +kernel⟩, List.mem_of_getElem? (i := 639) (by decide +kernel), List.mem_of_getElem? (i := 942) (by decide +kernel), List.mem_of_getElem? (i := 943) (by decide +kernel)⟩
theorem lw_p28 : lw_okq (⟨"LastWateredModel", "take", "(II)V"⟩, 35) := ⟨⟨by decide +kernel, by decide +kernel⟩, List.mem_of_getElem? (i := 639) (by decide +kernel), List.mem_of_getElem? (i := 957) (by decide +kernel), List.mem_of_getElem? (i := 958) (by decide +kernel)⟩
theorem lw_p29 : lw_okq (⟨"LastWateredModel", "canWater", "(I)Z"⟩, 35) := ⟨⟨by decide +kernel, by decide +kernel⟩, List.mem_of_getElem? (i := 639) (by decide +kernel), List.mem_of_getElem? (i := 961) (by decide +kernel), List.mem_of_getElem? (i := 962) (by decide +kernel)⟩
theorem lw_p30 : lw_okq (⟨"LastWateredModel", "wake", "(II)V"⟩, 35) := ⟨⟨by decide +kernel, by decide +kernel⟩, List.mem_of_getElem? (i := 639) (by decide +kernel), List.mem_of_getElem? (i := 965) (by decide +kernel), List.mem_of_getElem? (i := 966) (by decide +kernel)⟩
def lw_privs_2 : List (MethodName × Nat) := [(⟨"LastWateredModel", "rained", "(I)I"⟩, 35), (⟨"LastWateredModel", "nextOf", "(I)I"⟩, 35), (⟨"LastWateredModel", "whyNot", "(III)I"⟩, 35), (⟨"LastWateredModel", "isAsSeen", "()Z"⟩, 35), (⟨"LastWateredModel", "nextBy", "(II)I"⟩, 35), (⟨"LastWateredModel", "comesOut", "(I)Z"⟩, 35), (⟨"LastWateredModel", "put", "(J)V"⟩, 35), (⟨"LastWateredModel", "layGardens", "()V"⟩, 35), (⟨"LastWateredModel", "garden", "(II)I"⟩, 35), (⟨"LastWateredModel", "mornings", "(I)I"⟩, 35), (⟨"LastWateredModel", "leads", "(II)I"⟩, 35), (⟨"LastWateredModel", "isWished", "(II)Z"⟩, 35), (⟨"LastWateredModel", "take", "(II)V"⟩, 35), (⟨"LastWateredModel", "canWater", "(I)Z"⟩, 35), (⟨"LastWateredModel", "wake", "(II)V"⟩, 35)]
theorem lw_r2 : ∀ q ∈ lw_privs_2, lw_okq q := List.forall_mem_cons.mpr ⟨lw_p16, List.forall_mem_cons.mpr ⟨lw_p17, List.forall_mem_cons.mpr ⟨lw_p18, List.forall_mem_cons.mpr ⟨lw_p19, List.forall_mem_cons.mpr ⟨lw_p20, List.forall_mem_cons.mpr ⟨lw_p21, List.forall_mem_cons.mpr ⟨lw_p22, List.forall_mem_cons.mpr ⟨lw_p23, List.forall_mem_cons.mpr ⟨lw_p24, List.forall_mem_cons.mpr ⟨lw_p25, List.forall_mem_cons.mpr ⟨lw_p26, List.forall_mem_cons.mpr ⟨lw_p27, List.forall_mem_cons.mpr ⟨lw_p28, List.forall_mem_cons.mpr ⟨lw_p29, List.forall_mem_cons.mpr ⟨lw_p30, fun _ h => absurd h List.not_mem_nil⟩⟩⟩⟩⟩⟩⟩⟩⟩⟩⟩⟩⟩⟩⟩
def lw_privs : List (MethodName × Nat) := lw_privs_1 ++ (lw_privs_2)
def lw_tbl : List Cond := k2_sels lw_privs ++ tables_1
theorem lw_privs_ok : ∀ q ∈ lw_privs, lw_okq q := by
  show ∀ q ∈ lw_privs_1 ++ (lw_privs_2), lw_okq q
  exact List.forall_mem_append.mpr ⟨lw_r1, lw_r2⟩
def RX0 : String := "LastWatered$Chance"
def TX0 : u_T := fun k => match k with
  | _ => ("", "", "", false)
def tyX0 : Nat → FieldType := fun k => match k with
  | _ => .int
theorem nmX0 : ∀ a, a < 0 → ∀ b, b < 0 → a ≠ b → (TX0 a).2.1 ≠ (TX0 b).2.1 := by decide +kernel
theorem tyX0_ok : ∀ k, k < 0 → parseFieldDescriptor (TX0 k).2.2.1 = some (tyX0 k) := by decide +kernel
abbrev cX0_ofWish : ByteArray := prog_2_method_2_code
def yX0_ofWish : MethodName := ⟨RX0, "ofWish", "(LLastWatered$Garden;LLastWatered$Pad;)J"⟩
abbrev cX0_tenths : ByteArray := prog_2_method_3_code
def yX0_tenths : MethodName := ⟨RX0, "tenths", "(LLastWatered$Garden;LLastWatered$Pad;II)J"⟩
abbrev cX0_afterWeather : ByteArray := prog_2_method_4_code
def yX0_afterWeather : MethodName := ⟨RX0, "afterWeather", "(LLastWatered$Garden;LLastWatered$Pad;II)J"⟩
abbrev cX0_allTenths : ByteArray := prog_2_method_5_code
def yX0_allTenths : MethodName := ⟨RX0, "allTenths", "(I)J"⟩
abbrev cX0_reduced : ByteArray := prog_2_method_6_code
def yX0_reduced : MethodName := ⟨RX0, "reduced", "(JJ)J"⟩
abbrev cX0_commonDivisor : ByteArray := prog_2_method_7_code
def yX0_commonDivisor : MethodName := ⟨RX0, "commonDivisor", "(JJ)J"⟩
def RX1 : String := "LastWatered$Filling"
def TX1 : u_T := fun k => match k with
  | 0 => ("LastWatered$Filling", "isKnown", "Z", false)
  | 1 => ("LastWatered$Filling", "ways", "I", false)
  | 2 => ("LastWatered$Filling", "untold", "I", false)
  | 3 => ("LastWatered$Filling", "first", "[I", true)
  | _ => ("LastWatered$Filling", "tried", "[I", true)
def tyX1 : Nat → FieldType := fun k => match k with
  | 0 => .boolean
  | 1 => .int
  | 2 => .int
  | 3 => .array .int
  | _ => .array .int
theorem nmX1 : ∀ a, a < 5 → ∀ b, b < 5 → a ≠ b → (TX1 a).2.1 ≠ (TX1 b).2.1 := by decide +kernel
theorem tyX1_ok : ∀ k, k < 5 → parseFieldDescriptor (TX1 k).2.2.1 = some (tyX1 k) := by decide +kernel
abbrev cX1_init : ByteArray := prog_3_method_1_code
def yX1_init : MethodName := ⟨RX1, "<init>", "()V"⟩
abbrev cX1_search : ByteArray := prog_3_method_2_code
def yX1_search : MethodName := ⟨RX1, "search", "(LLastWatered$Garden;LLastWatered$Pad;)V"⟩
abbrev cX1_firstAt : ByteArray := prog_3_method_3_code
def yX1_firstAt : MethodName := ⟨RX1, "firstAt", "(I)I"⟩
abbrev cX1_goOn : ByteArray := prog_3_method_4_code
def yX1_goOn : MethodName := ⟨RX1, "goOn", "(LLastWatered$Garden;LLastWatered$Pad;IIII)V"⟩
abbrev cX1_tryBeds : ByteArray := prog_3_method_5_code
def yX1_tryBeds : MethodName := ⟨RX1, "tryBeds", "(LLastWatered$Garden;LLastWatered$Pad;IIII)V"⟩
abbrev cX1_keepWay : ByteArray := prog_3_method_6_code
def yX1_keepWay : MethodName := ⟨RX1, "keepWay", "()V"⟩
def RX2 : String := "LastWatered$Garden"
def TX2 : u_T := fun k => match k with
  | 0 => ("LastWatered$Garden", "beds", "I", false)
  | 1 => ("LastWatered$Garden", "law", "I", false)
  | 2 => ("LastWatered$Garden", "gate", "I", false)
  | 3 => ("LastWatered$Garden", "wet", "I", false)
  | 4 => ("LastWatered$Garden", "stand", "I", false)
  | 5 => ("LastWatered$Garden", "sights", "I", false)
  | 6 => ("LastWatered$Garden", "colours", "[I", true)
  | 7 => ("LastWatered$Garden", "past", "[I", true)
  | 8 => ("LastWatered$Garden", "inBloom", "[I", true)
  | 9 => ("LastWatered$Garden", "sightMornings", "[I", true)
  | _ => ("LastWatered$Garden", "sightBeds", "[I", true)
def tyX2 : Nat → FieldType := fun k => match k with
  | 0 => .int
  | 1 => .int
  | 2 => .int
  | 3 => .int
  | 4 => .int
  | 5 => .int
  | 6 => .array .int
  | 7 => .array .int
  | 8 => .array .int
  | 9 => .array .int
  | _ => .array .int
theorem nmX2 : ∀ a, a < 11 → ∀ b, b < 11 → a ≠ b → (TX2 a).2.1 ≠ (TX2 b).2.1 := by decide +kernel
theorem tyX2_ok : ∀ k, k < 11 → parseFieldDescriptor (TX2 k).2.2.1 = some (tyX2 k) := by decide +kernel
abbrev cX2_init : ByteArray := prog_4_method_1_code
def yX2_init : MethodName := ⟨RX2, "<init>", "()V"⟩
abbrev cX2_layOut : ByteArray := prog_4_method_2_code
def yX2_layOut : MethodName := ⟨RX2, "layOut", "(I)V"⟩
abbrev cX2_copyFrom : ByteArray := prog_4_method_3_code
def yX2_copyFrom : MethodName := ⟨RX2, "copyFrom", "(LLastWatered$Garden;)V"⟩
abbrev cX2_isBed : ByteArray := prog_4_method_4_code
def yX2_isBed : MethodName := ⟨RX2, "isBed", "(I)Z"⟩
abbrev cX2_pastOf : ByteArray := prog_4_method_5_code
def yX2_pastOf : MethodName := ⟨RX2, "pastOf", "(I)I"⟩
abbrev cX2_isReachedPast : ByteArray := prog_4_method_6_code
def yX2_isReachedPast : MethodName := ⟨RX2, "isReachedPast", "(II)Z"⟩
abbrev cX2_whyNot : ByteArray := prog_4_method_7_code
def yX2_whyNot : MethodName := ⟨RX2, "whyNot", "(II)I"⟩
abbrev cX2_whyNotWater : ByteArray := prog_4_method_8_code
def yX2_whyNotWater : MethodName := ⟨RX2, "whyNotWater", "(II)I"⟩
abbrev cX2_after : ByteArray := prog_4_method_9_code
def yX2_after : MethodName := ⟨RX2, "after", "(II)I"⟩
abbrev cX2_afterMorning : ByteArray := prog_4_method_10_code
def yX2_afterMorning : MethodName := ⟨RX2, "afterMorning", "(I)I"⟩
abbrev cX2_nextBed : ByteArray := prog_4_method_11_code
def yX2_nextBed : MethodName := ⟨RX2, "nextBed", "(I)I"⟩
abbrev cX2_nextPlace : ByteArray := prog_4_method_12_code
def yX2_nextPlace : MethodName := ⟨RX2, "nextPlace", "(I)I"⟩
abbrev cX2_firstImpossible : ByteArray := prog_4_method_13_code
def yX2_firstImpossible : MethodName := ⟨RX2, "firstImpossible", "(LLastWatered$Pad;)I"⟩
abbrev cX2_whyImpossible : ByteArray := prog_4_method_14_code
def yX2_whyImpossible : MethodName := ⟨RX2, "whyImpossible", "(LLastWatered$Pad;)I"⟩
abbrev cX2_live : ByteArray := prog_4_method_15_code
def yX2_live : MethodName := ⟨RX2, "live", "(LLastWatered$Pad;)V"⟩
abbrev cX2_see : ByteArray := prog_4_method_16_code
def yX2_see : MethodName := ⟨RX2, "see", "(II)Z"⟩
abbrev cX2_isAsSeen : ByteArray := prog_4_method_17_code
def yX2_isAsSeen : MethodName := ⟨RX2, "isAsSeen", "(II)Z"⟩
abbrev cX2_sawNoMorningFrom : ByteArray := prog_4_method_18_code
def yX2_sawNoMorningFrom : MethodName := ⟨RX2, "sawNoMorningFrom", "(I)Z"⟩
abbrev cX2_pleases : ByteArray := prog_4_method_19_code
def yX2_pleases : MethodName := ⟨RX2, "pleases", "(II)Z"⟩
def RX3 : String := "LastWatered$Gardeners"
def TX3 : u_T := fun k => match k with
  | _ => ("", "", "", false)
def tyX3 : Nat → FieldType := fun k => match k with
  | _ => .int
theorem nmX3 : ∀ a, a < 0 → ∀ b, b < 0 → a ≠ b → (TX3 a).2.1 ≠ (TX3 b).2.1 := by decide +kernel
theorem tyX3_ok : ∀ k, k < 0 → parseFieldDescriptor (TX3 k).2.2.1 = some (tyX3 k) := by decide +kernel
abbrev cX3_morningOfBloom : ByteArray := prog_5_method_2_code
def yX3_morningOfBloom : MethodName := ⟨RX3, "morningOfBloom", "(LLastWatered$Garden;I)I"⟩
abbrev cX3_morningOf : ByteArray := prog_5_method_3_code
def yX3_morningOf : MethodName := ⟨RX3, "morningOf", "(LLastWatered$Garden;III)I"⟩
abbrev cX3_afterWatering : ByteArray := prog_5_method_4_code
def yX3_afterWatering : MethodName := ⟨RX3, "afterWatering", "(LLastWatered$Garden;III)I"⟩
abbrev cX3_better : ByteArray := prog_5_method_5_code
def yX3_better : MethodName := ⟨RX3, "better", "(IIZ)I"⟩
def RX4 : String := "LastWatered$Memory"
def TX4 : u_T := fun k => match k with
  | 0 => ("LastWatered$Memory", "stands", "[I", true)
  | _ => ("LastWatered$Memory", "failed", "[I", true)
def tyX4 : Nat → FieldType := fun k => match k with
  | 0 => .array .int
  | _ => .array .int
theorem nmX4 : ∀ a, a < 2 → ∀ b, b < 2 → a ≠ b → (TX4 a).2.1 ≠ (TX4 b).2.1 := by decide +kernel
theorem tyX4_ok : ∀ k, k < 2 → parseFieldDescriptor (TX4 k).2.2.1 = some (tyX4 k) := by decide +kernel
abbrev cX4_init : ByteArray := prog_6_method_1_code
def yX4_init : MethodName := ⟨RX4, "<init>", "()V"⟩
abbrev cX4_clear : ByteArray := prog_6_method_2_code
def yX4_clear : MethodName := ⟨RX4, "clear", "()V"⟩
abbrev cX4_slotOf : ByteArray := prog_6_method_3_code
def yX4_slotOf : MethodName := ⟨RX4, "slotOf", "(I)I"⟩
abbrev cX4_failedWith : ByteArray := prog_6_method_4_code
def yX4_failedWith : MethodName := ⟨RX4, "failedWith", "(I)I"⟩
abbrev cX4_keep : ByteArray := prog_6_method_5_code
def yX4_keep : MethodName := ⟨RX4, "keep", "(II)V"⟩
def RX5 : String := "LastWatered$Order"
def TX5 : u_T := fun k => match k with
  | _ => ("", "", "", false)
def tyX5 : Nat → FieldType := fun k => match k with
  | _ => .int
theorem nmX5 : ∀ a, a < 0 → ∀ b, b < 0 → a ≠ b → (TX5 a).2.1 ≠ (TX5 b).2.1 := by decide +kernel
theorem tyX5_ok : ∀ k, k < 0 → parseFieldDescriptor (TX5 k).2.2.1 = some (tyX5 k) := by decide +kernel
abbrev cX5_isHadFrom : ByteArray := prog_7_method_2_code
def yX5_isHadFrom : MethodName := ⟨RX5, "isHadFrom", "(LLastWatered$Garden;I)Z"⟩
abbrev cX5_comesFrom : ByteArray := prog_7_method_3_code
def yX5_comesFrom : MethodName := ⟨RX5, "comesFrom", "(LLastWatered$Garden;III)Z"⟩
abbrev cX5_number : ByteArray := prog_7_method_4_code
def yX5_number : MethodName := ⟨RX5, "number", "([JII)J"⟩
abbrev cX5_firstPattern : ByteArray := prog_7_method_5_code
def yX5_firstPattern : MethodName := ⟨RX5, "firstPattern", "(II)I"⟩
abbrev cX5_fewestGardens : ByteArray := prog_7_method_6_code
def yX5_fewestGardens : MethodName := ⟨RX5, "fewestGardens", "(II)I"⟩
abbrev cX5_isMadeBy : ByteArray := prog_7_method_7_code
def yX5_isMadeBy : MethodName := ⟨RX5, "isMadeBy", "(III)Z"⟩
abbrev cX5_isMadeBehind : ByteArray := prog_7_method_8_code
def yX5_isMadeBehind : MethodName := ⟨RX5, "isMadeBehind", "(IIIIII)Z"⟩
abbrev cX5_asSeenFrom : ByteArray := prog_7_method_9_code
def yX5_asSeenFrom : MethodName := ⟨RX5, "asSeenFrom", "(III)I"⟩
def RX6 : String := "LastWatered$Packed"
def TX6 : u_T := fun k => match k with
  | _ => ("", "", "", false)
def tyX6 : Nat → FieldType := fun k => match k with
  | _ => .int
theorem nmX6 : ∀ a, a < 0 → ∀ b, b < 0 → a ≠ b → (TX6 a).2.1 ≠ (TX6 b).2.1 := by decide +kernel
theorem tyX6_ok : ∀ k, k < 0 → parseFieldDescriptor (TX6 k).2.2.1 = some (tyX6 k) := by decide +kernel
abbrev cX6_at : ByteArray := prog_8_method_2_code
def yX6_at : MethodName := ⟨RX6, "at", "(II)I"⟩
abbrev cX6_put : ByteArray := prog_8_method_3_code
def yX6_put : MethodName := ⟨RX6, "put", "(II)I"⟩
def RX7 : String := "LastWatered$Pad"
def TX7 : u_T := fun k => match k with
  | 0 => ("LastWatered$Pad", "count", "I", false)
  | _ => ("LastWatered$Pad", "signs", "[I", true)
def tyX7 : Nat → FieldType := fun k => match k with
  | 0 => .int
  | _ => .array .int
theorem nmX7 : ∀ a, a < 2 → ∀ b, b < 2 → a ≠ b → (TX7 a).2.1 ≠ (TX7 b).2.1 := by decide +kernel
theorem tyX7_ok : ∀ k, k < 2 → parseFieldDescriptor (TX7 k).2.2.1 = some (tyX7 k) := by decide +kernel
abbrev cX7_init : ByteArray := prog_9_method_1_code
def yX7_init : MethodName := ⟨RX7, "<init>", "()V"⟩
abbrev cX7_write : ByteArray := prog_9_method_2_code
def yX7_write : MethodName := ⟨RX7, "write", "(I)Z"⟩
abbrev cX7_signAt : ByteArray := prog_9_method_3_code
def yX7_signAt : MethodName := ⟨RX7, "signAt", "(I)I"⟩
abbrev cX7_numberOf : ByteArray := prog_9_method_4_code
def yX7_numberOf : MethodName := ⟨RX7, "numberOf", "(I)I"⟩
abbrev cX7_weekFault : ByteArray := prog_9_method_5_code
def yX7_weekFault : MethodName := ⟨RX7, "weekFault", "(I)I"⟩
abbrev cX7_orderFault : ByteArray := prog_9_method_6_code
def yX7_orderFault : MethodName := ⟨RX7, "orderFault", "(I)I"⟩
abbrev cX7_wishFault : ByteArray := prog_9_method_7_code
def yX7_wishFault : MethodName := ⟨RX7, "wishFault", "(I)I"⟩
abbrev cX7_order : ByteArray := prog_9_method_8_code
def yX7_order : MethodName := ⟨RX7, "order", "()I"⟩
abbrev cX7_colourOf : ByteArray := prog_9_method_9_code
def yX7_colourOf : MethodName := ⟨RX7, "colourOf", "(I)I"⟩
abbrev cX7_isLetter : ByteArray := prog_9_method_10_code
def yX7_isLetter : MethodName := ⟨RX7, "isLetter", "(II)Z"⟩
def RX8 : String := "LastWatered$Stand"
def TX8 : u_T := fun k => match k with
  | _ => ("", "", "", false)
def tyX8 : Nat → FieldType := fun k => match k with
  | _ => .int
theorem nmX8 : ∀ a, a < 0 → ∀ b, b < 0 → a ≠ b → (TX8 a).2.1 ≠ (TX8 b).2.1 := by decide +kernel
theorem tyX8_ok : ∀ k, k < 0 → parseFieldDescriptor (TX8 k).2.2.1 = some (tyX8 k) := by decide +kernel
abbrev cX8_length : ByteArray := prog_10_method_2_code
def yX8_length : MethodName := ⟨RX8, "length", "(I)I"⟩
abbrev cX8_numberBloomed : ByteArray := prog_10_method_3_code
def yX8_numberBloomed : MethodName := ⟨RX8, "numberBloomed", "(I)I"⟩
abbrev cX8_bedAt : ByteArray := prog_10_method_4_code
def yX8_bedAt : MethodName := ⟨RX8, "bedAt", "(II)I"⟩
abbrev cX8_isInRow : ByteArray := prog_10_method_5_code
def yX8_isInRow : MethodName := ⟨RX8, "isInRow", "(II)Z"⟩
abbrev cX8_hasBloomed : ByteArray := prog_10_method_6_code
def yX8_hasBloomed : MethodName := ⟨RX8, "hasBloomed", "(II)Z"⟩
abbrev cX8_watered : ByteArray := prog_10_method_7_code
def yX8_watered : MethodName := ⟨RX8, "watered", "(II)I"⟩
abbrev cX8_rained : ByteArray := prog_10_method_8_code
def yX8_rained : MethodName := ⟨RX8, "rained", "(II)I"⟩
abbrev cX8_afterBloom : ByteArray := prog_10_method_9_code
def yX8_afterBloom : MethodName := ⟨RX8, "afterBloom", "(II)I"⟩
abbrev cX8_placeOf : ByteArray := prog_10_method_10_code
def yX8_placeOf : MethodName := ⟨RX8, "placeOf", "(II)I"⟩
abbrev cX8_without : ByteArray := prog_10_method_11_code
def yX8_without : MethodName := ⟨RX8, "without", "(II)I"⟩
def RX9 : String := "LastWatered$Wishing"
def TX9 : u_T := fun k => match k with
  | 0 => ("LastWatered$Wishing", "isKnown", "Z", false)
  | 1 => ("LastWatered$Wishing", "waterings", "I", false)
  | 2 => ("LastWatered$Wishing", "length", "I", false)
  | 3 => ("LastWatered$Wishing", "week", "[I", true)
  | _ => ("LastWatered$Wishing", "memory", "LLastWatered$Memory;", true)
def tyX9 : Nat → FieldType := fun k => match k with
  | 0 => .boolean
  | 1 => .int
  | 2 => .int
  | 3 => .array .int
  | _ => .object "LastWatered$Memory"
theorem nmX9 : ∀ a, a < 5 → ∀ b, b < 5 → a ≠ b → (TX9 a).2.1 ≠ (TX9 b).2.1 := by decide +kernel
theorem tyX9_ok : ∀ k, k < 5 → parseFieldDescriptor (TX9 k).2.2.1 = some (tyX9 k) := by decide +kernel
abbrev cX9_init : ByteArray := prog_11_method_1_code
def yX9_init : MethodName := ⟨RX9, "<init>", "()V"⟩
abbrev cX9_search : ByteArray := prog_11_method_2_code
def yX9_search : MethodName := ⟨RX9, "search", "(LLastWatered$Garden;LLastWatered$Pad;)V"⟩
abbrev cX9_signAt : ByteArray := prog_11_method_3_code
def yX9_signAt : MethodName := ⟨RX9, "signAt", "(I)I"⟩
abbrev cX9_hasBedsFor : ByteArray := prog_11_method_4_code
def yX9_hasBedsFor : MethodName := ⟨RX9, "hasBedsFor", "(LLastWatered$Garden;LLastWatered$Pad;)Z"⟩
abbrev cX9_numberToBloom : ByteArray := prog_11_method_5_code
def yX9_numberToBloom : MethodName := ⟨RX9, "numberToBloom", "(LLastWatered$Garden;I)I"⟩
abbrev cX9_isReached : ByteArray := prog_11_method_6_code
def yX9_isReached : MethodName := ⟨RX9, "isReached", "(LLastWatered$Garden;LLastWatered$Pad;III)Z"⟩
abbrev cX9_signOf : ByteArray := prog_11_method_7_code
def yX9_signOf : MethodName := ⟨RX9, "signOf", "(II)I"⟩
abbrev cX9_isFitting : ByteArray := prog_11_method_8_code
def yX9_isFitting : MethodName := ⟨RX9, "isFitting", "(LLastWatered$Garden;III)Z"⟩
def RX10 : String := "LastWatered"
def TX10 : u_T := fun k => match k with
  | 0 => ("LastWatered", "pad", "LLastWatered$Pad;", true)
  | 1 => ("LastWatered", "garden", "LLastWatered$Garden;", true)
  | 2 => ("LastWatered", "images", "[LLastWatered$Garden;", true)
  | 3 => ("LastWatered", "filling", "LLastWatered$Filling;", true)
  | 4 => ("LastWatered", "wishing", "LLastWatered$Wishing;", true)
  | _ => ("LastWatered", "heights", "[J", true)
def tyX10 : Nat → FieldType := fun k => match k with
  | 0 => .object "LastWatered$Pad"
  | 1 => .object "LastWatered$Garden"
  | 2 => .array (.object "LastWatered$Garden")
  | 3 => .object "LastWatered$Filling"
  | 4 => .object "LastWatered$Wishing"
  | _ => .array .long
theorem nmX10 : ∀ a, a < 6 → ∀ b, b < 6 → a ≠ b → (TX10 a).2.1 ≠ (TX10 b).2.1 := by decide +kernel
theorem tyX10_ok : ∀ k, k < 6 → parseFieldDescriptor (TX10 k).2.2.1 = some (tyX10 k) := by decide +kernel
abbrev cX10_init : ByteArray := prog_1_method_1_code
def yX10_init : MethodName := ⟨RX10, "<init>", "()V"⟩
abbrev cX10_beds : ByteArray := prog_1_method_2_code
def yX10_beds : MethodName := ⟨RX10, "beds", "(I)I"⟩
abbrev cX10_colour : ByteArray := prog_1_method_3_code
def yX10_colour : MethodName := ⟨RX10, "colour", "(II)I"⟩
abbrev cX10_past : ByteArray := prog_1_method_4_code
def yX10_past : MethodName := ⟨RX10, "past", "(II)I"⟩
abbrev cX10_set : ByteArray := prog_1_method_5_code
def yX10_set : MethodName := ⟨RX10, "set", "(II)I"⟩
abbrev cX10_say : ByteArray := prog_1_method_6_code
def yX10_say : MethodName := ⟨RX10, "say", "(I)I"⟩
abbrev cX10_wipe : ByteArray := prog_1_method_7_code
def yX10_wipe : MethodName := ⟨RX10, "wipe", "()I"⟩
abbrev cX10_fault : ByteArray := prog_1_method_8_code
def yX10_fault : MethodName := ⟨RX10, "fault", "(I)I"⟩
abbrev cX10_judge : ByteArray := prog_1_method_9_code
def yX10_judge : MethodName := ⟨RX10, "judge", "(I)I"⟩
abbrev cX10_week : ByteArray := prog_1_method_10_code
def yX10_week : MethodName := ⟨RX10, "week", "()I"⟩
abbrev cX10_row : ByteArray := prog_1_method_11_code
def yX10_row : MethodName := ⟨RX10, "row", "(I)I"⟩
abbrev cX10_bloomed : ByteArray := prog_1_method_12_code
def yX10_bloomed : MethodName := ⟨RX10, "bloomed", "(I)I"⟩
abbrev cX10_anew : ByteArray := prog_1_method_13_code
def yX10_anew : MethodName := ⟨RX10, "anew", "()I"⟩
abbrev cX10_seen : ByteArray := prog_1_method_14_code
def yX10_seen : MethodName := ⟨RX10, "seen", "(II)I"⟩
abbrev cX10_forget : ByteArray := prog_1_method_15_code
def yX10_forget : MethodName := ⟨RX10, "forget", "()I"⟩
abbrev cX10_filled : ByteArray := prog_1_method_16_code
def yX10_filled : MethodName := ⟨RX10, "filled", "(I)I"⟩
abbrev cX10_canBe : ByteArray := prog_1_method_17_code
def yX10_canBe : MethodName := ⟨RX10, "canBe", "()I"⟩
abbrev cX10_orders : ByteArray := prog_1_method_18_code
def yX10_orders : MethodName := ⟨RX10, "orders", "(II)J"⟩
abbrev cX10_pattern : ByteArray := prog_1_method_19_code
def yX10_pattern : MethodName := ⟨RX10, "pattern", "(I)I"⟩
abbrev cX10_behind : ByteArray := prog_1_method_20_code
def yX10_behind : MethodName := ⟨RX10, "behind", "()I"⟩
abbrev cX10_fewest : ByteArray := prog_1_method_21_code
def yX10_fewest : MethodName := ⟨RX10, "fewest", "(I)I"⟩
abbrev cX10_chance : ByteArray := prog_1_method_22_code
def yX10_chance : MethodName := ⟨RX10, "chance", "(I)J"⟩
abbrev cX10_turns : ByteArray := prog_1_method_23_code
def yX10_turns : MethodName := ⟨RX10, "turns", "(I)I"⟩
abbrev cX10_image : ByteArray := prog_1_method_24_code
def yX10_image : MethodName := ⟨RX10, "image", "(I)I"⟩
abbrev cX10_restore : ByteArray := prog_1_method_25_code
def yX10_restore : MethodName := ⟨RX10, "restore", "(I)I"⟩
abbrev cX10_told : ByteArray := prog_1_method_26_code
def yX10_told : MethodName := ⟨RX10, "told", "(I)I"⟩
abbrev cX10_isFaultyWeek : ByteArray := prog_1_method_27_code
def yX10_isFaultyWeek : MethodName := ⟨RX10, "isFaultyWeek", "()Z"⟩
abbrev cX10_isFaultyOrder : ByteArray := prog_1_method_28_code
def yX10_isFaultyOrder : MethodName := ⟨RX10, "isFaultyOrder", "()Z"⟩
abbrev cX10_isFaultyWish : ByteArray := prog_1_method_29_code
def yX10_isFaultyWish : MethodName := ⟨RX10, "isFaultyWish", "()Z"⟩
abbrev cX10_dropAnswers : ByteArray := prog_1_method_30_code
def yX10_dropAnswers : MethodName := ⟨RX10, "dropAnswers", "()V"⟩
def RX11 : String := "LastWateredModel"
def TX11 : u_T := fun k => match k with
  | 0 => ("LastWateredModel", "beds", "I", false)
  | 1 => ("LastWateredModel", "colours", "[I", true)
  | 2 => ("LastWateredModel", "pasts", "[I", true)
  | 3 => ("LastWateredModel", "law", "I", false)
  | 4 => ("LastWateredModel", "gate", "I", false)
  | 5 => ("LastWateredModel", "wet", "I", false)
  | 6 => ("LastWateredModel", "signs", "I", false)
  | 7 => ("LastWateredModel", "pad", "[I", true)
  | 8 => ("LastWateredModel", "row", "I", false)
  | 9 => ("LastWateredModel", "bloomed", "I", false)
  | 10 => ("LastWateredModel", "came", "[I", true)
  | 11 => ("LastWateredModel", "many", "I", false)
  | 12 => ("LastWateredModel", "sights", "I", false)
  | 13 => ("LastWateredModel", "sight", "[I", true)
  | 14 => ("LastWateredModel", "nowRow", "I", false)
  | 15 => ("LastWateredModel", "nowSet", "I", false)
  | 16 => ("LastWateredModel", "bloomedNow", "I", false)
  | 17 => ("LastWateredModel", "nowCame", "[I", true)
  | 18 => ("LastWateredModel", "reason", "I", false)
  | 19 => ("LastWateredModel", "can", "[Z", true)
  | 20 => ("LastWateredModel", "ways", "[J", true)
  | 21 => ("LastWateredModel", "table", "[J", true)
  | 22 => ("LastWateredModel", "line", "[J", true)
  | 23 => ("LastWateredModel", "lines", "I", false)
  | 24 => ("LastWateredModel", "gardens", "I", false)
  | 25 => ("LastWateredModel", "rowOf", "[I", true)
  | 26 => ("LastWateredModel", "setOf", "[I", true)
  | 27 => ("LastWateredModel", "cost", "[I", true)
  | 28 => ("LastWateredModel", "places", "[I", true)
  | 29 => ("LastWateredModel", "rowAt", "[I", true)
  | 30 => ("LastWateredModel", "setAt", "[I", true)
  | 31 => ("LastWateredModel", "next", "[I", true)
  | 32 => ("LastWateredModel", "value", "[I", true)
  | 33 => ("LastWateredModel", "image", "[I", true)
  | _ => ("LastWateredModel", "isKept", "[Z", true)
def tyX11 : Nat → FieldType := fun k => match k with
  | 0 => .int
  | 1 => .array .int
  | 2 => .array .int
  | 3 => .int
  | 4 => .int
  | 5 => .int
  | 6 => .int
  | 7 => .array .int
  | 8 => .int
  | 9 => .int
  | 10 => .array .int
  | 11 => .int
  | 12 => .int
  | 13 => .array .int
  | 14 => .int
  | 15 => .int
  | 16 => .int
  | 17 => .array .int
  | 18 => .int
  | 19 => .array .boolean
  | 20 => .array .long
  | 21 => .array .long
  | 22 => .array .long
  | 23 => .int
  | 24 => .int
  | 25 => .array .int
  | 26 => .array .int
  | 27 => .array .int
  | 28 => .array .int
  | 29 => .array .int
  | 30 => .array .int
  | 31 => .array .int
  | 32 => .array .int
  | 33 => .array .int
  | _ => .array .boolean
theorem nmX11 : ∀ a, a < 35 → ∀ b, b < 35 → a ≠ b → (TX11 a).2.1 ≠ (TX11 b).2.1 := by decide +kernel
theorem tyX11_ok : ∀ k, k < 35 → parseFieldDescriptor (TX11 k).2.2.1 = some (tyX11 k) := by decide +kernel
abbrev cX11_init : ByteArray := prog_13_method_1_code
def yX11_init : MethodName := ⟨RX11, "<init>", "()V"⟩
abbrev cX11_begin : ByteArray := prog_13_method_2_code
def yX11_begin : MethodName := ⟨RX11, "begin", "()V"⟩
abbrev cX11_in : ByteArray := prog_13_method_3_code
def yX11_in : MethodName := ⟨RX11, "in", "(III)Z"⟩
abbrev cX11_has : ByteArray := prog_13_method_4_code
def yX11_has : MethodName := ⟨RX11, "has", "(II)Z"⟩
abbrev cX11_isBed : ByteArray := prog_13_method_5_code
def yX11_isBed : MethodName := ⟨RX11, "isBed", "(I)Z"⟩
abbrev cX11_beds : ByteArray := prog_13_method_6_code
def yX11_beds : MethodName := ⟨RX11, "beds", "(I)I"⟩
abbrev cX11_colour : ByteArray := prog_13_method_7_code
def yX11_colour : MethodName := ⟨RX11, "colour", "(II)I"⟩
abbrev cX11_past : ByteArray := prog_13_method_8_code
def yX11_past : MethodName := ⟨RX11, "past", "(II)I"⟩
abbrev cX11_set : ByteArray := prog_13_method_9_code
def yX11_set : MethodName := ⟨RX11, "set", "(II)I"⟩
abbrev cX11_say : ByteArray := prog_13_method_10_code
def yX11_say : MethodName := ⟨RX11, "say", "(I)I"⟩
abbrev cX11_wipe : ByteArray := prog_13_method_11_code
def yX11_wipe : MethodName := ⟨RX11, "wipe", "()I"⟩
abbrev cX11_weekFault : ByteArray := prog_13_method_12_code
def yX11_weekFault : MethodName := ⟨RX11, "weekFault", "()I"⟩
abbrev cX11_orderFault : ByteArray := prog_13_method_13_code
def yX11_orderFault : MethodName := ⟨RX11, "orderFault", "()I"⟩
abbrev cX11_colourOf : ByteArray := prog_13_method_14_code
def yX11_colourOf : MethodName := ⟨RX11, "colourOf", "(I)I"⟩
abbrev cX11_wishFault : ByteArray := prog_13_method_15_code
def yX11_wishFault : MethodName := ⟨RX11, "wishFault", "()I"⟩
abbrev cX11_fault : ByteArray := prog_13_method_16_code
def yX11_fault : MethodName := ⟨RX11, "fault", "(I)I"⟩
abbrev cX11_opens : ByteArray := prog_13_method_17_code
def yX11_opens : MethodName := ⟨RX11, "opens", "()I"⟩
abbrev cX11_sizeOf : ByteArray := prog_13_method_18_code
def yX11_sizeOf : MethodName := ⟨RX11, "sizeOf", "(I)I"⟩
abbrev cX11_without : ByteArray := prog_13_method_19_code
def yX11_without : MethodName := ⟨RX11, "without", "(II)I"⟩
abbrev cX11_isIn : ByteArray := prog_13_method_20_code
def yX11_isIn : MethodName := ⟨RX11, "isIn", "(II)Z"⟩
abbrev cX11_watered : ByteArray := prog_13_method_21_code
def yX11_watered : MethodName := ⟨RX11, "watered", "(II)I"⟩
abbrev cX11_rained : ByteArray := prog_13_method_22_code
def yX11_rained : MethodName := ⟨RX11, "rained", "(I)I"⟩
abbrev cX11_nextOf : ByteArray := prog_13_method_23_code
def yX11_nextOf : MethodName := ⟨RX11, "nextOf", "(I)I"⟩
abbrev cX11_whyNot : ByteArray := prog_13_method_24_code
def yX11_whyNot : MethodName := ⟨RX11, "whyNot", "(III)I"⟩
abbrev cX11_goWeek : ByteArray := prog_13_method_25_code
def yX11_goWeek : MethodName := ⟨RX11, "goWeek", "(I)I"⟩
abbrev cX11_judge : ByteArray := prog_13_method_26_code
def yX11_judge : MethodName := ⟨RX11, "judge", "(I)I"⟩
abbrev cX11_week : ByteArray := prog_13_method_27_code
def yX11_week : MethodName := ⟨RX11, "week", "()I"⟩
abbrev cX11_row : ByteArray := prog_13_method_28_code
def yX11_row : MethodName := ⟨RX11, "row", "(I)I"⟩
abbrev cX11_bloomed : ByteArray := prog_13_method_29_code
def yX11_bloomed : MethodName := ⟨RX11, "bloomed", "(I)I"⟩
abbrev cX11_anew : ByteArray := prog_13_method_30_code
def yX11_anew : MethodName := ⟨RX11, "anew", "()I"⟩
abbrev cX11_seen : ByteArray := prog_13_method_31_code
def yX11_seen : MethodName := ⟨RX11, "seen", "(II)I"⟩
abbrev cX11_forget : ByteArray := prog_13_method_32_code
def yX11_forget : MethodName := ⟨RX11, "forget", "()I"⟩
abbrev cX11_isAsSeen : ByteArray := prog_13_method_33_code
def yX11_isAsSeen : MethodName := ⟨RX11, "isAsSeen", "()Z"⟩
abbrev cX11_filled : ByteArray := prog_13_method_34_code
def yX11_filled : MethodName := ⟨RX11, "filled", "(I)I"⟩
abbrev cX11_nextBy : ByteArray := prog_13_method_35_code
def yX11_nextBy : MethodName := ⟨RX11, "nextBy", "(II)I"⟩
abbrev cX11_canBe : ByteArray := prog_13_method_36_code
def yX11_canBe : MethodName := ⟨RX11, "canBe", "()I"⟩
abbrev cX11_orders : ByteArray := prog_13_method_37_code
def yX11_orders : MethodName := ⟨RX11, "orders", "(II)J"⟩
abbrev cX11_pattern : ByteArray := prog_13_method_38_code
def yX11_pattern : MethodName := ⟨RX11, "pattern", "(I)I"⟩
abbrev cX11_put : ByteArray := prog_13_method_39_code
def yX11_put : MethodName := ⟨RX11, "put", "(J)V"⟩
abbrev cX11_comesOut : ByteArray := prog_13_method_40_code
def yX11_comesOut : MethodName := ⟨RX11, "comesOut", "(I)Z"⟩
abbrev cX11_behind : ByteArray := prog_13_method_41_code
def yX11_behind : MethodName := ⟨RX11, "behind", "()I"⟩
abbrev cX11_garden : ByteArray := prog_13_method_42_code
def yX11_garden : MethodName := ⟨RX11, "garden", "(II)I"⟩
abbrev cX11_bits : ByteArray := prog_13_method_43_code
def yX11_bits : MethodName := ⟨RX11, "bits", "(I)I"⟩
abbrev cX11_mornings : ByteArray := prog_13_method_44_code
def yX11_mornings : MethodName := ⟨RX11, "mornings", "(I)I"⟩
abbrev cX11_isWished : ByteArray := prog_13_method_45_code
def yX11_isWished : MethodName := ⟨RX11, "isWished", "(II)Z"⟩
abbrev cX11_leads : ByteArray := prog_13_method_46_code
def yX11_leads : MethodName := ⟨RX11, "leads", "(II)I"⟩
abbrev cX11_layGardens : ByteArray := prog_13_method_47_code
def yX11_layGardens : MethodName := ⟨RX11, "layGardens", "()V"⟩
abbrev cX11_fewest : ByteArray := prog_13_method_48_code
def yX11_fewest : MethodName := ⟨RX11, "fewest", "(I)I"⟩
abbrev cX11_chance : ByteArray := prog_13_method_49_code
def yX11_chance : MethodName := ⟨RX11, "chance", "(I)J"⟩
abbrev cX11_canWater : ByteArray := prog_13_method_50_code
def yX11_canWater : MethodName := ⟨RX11, "canWater", "(I)Z"⟩
abbrev cX11_wake : ByteArray := prog_13_method_51_code
def yX11_wake : MethodName := ⟨RX11, "wake", "(II)V"⟩
abbrev cX11_take : ByteArray := prog_13_method_52_code
def yX11_take : MethodName := ⟨RX11, "take", "(II)V"⟩
abbrev cX11_turns : ByteArray := prog_13_method_53_code
def yX11_turns : MethodName := ⟨RX11, "turns", "(I)I"⟩
abbrev cX11_image : ByteArray := prog_13_method_54_code
def yX11_image : MethodName := ⟨RX11, "image", "(I)I"⟩
abbrev cX11_restore : ByteArray := prog_13_method_55_code
def yX11_restore : MethodName := ⟨RX11, "restore", "(I)I"⟩
abbrev cX11_told : ByteArray := prog_13_method_56_code
def yX11_told : MethodName := ⟨RX11, "told", "(I)I"⟩
def RJ6 : String := "java/lang/Integer"
def TJ6 : u_T := fun k => match k with
  | _ => ("", "", "", false)
def tyJ6 : Nat → FieldType := fun k => match k with
  | _ => .int
theorem nmJ6 : ∀ a, a < 0 → ∀ b, b < 0 → a ≠ b → (TJ6 a).2.1 ≠ (TJ6 b).2.1 := by decide +kernel
theorem tyJ6_ok : ∀ k, k < 0 → parseFieldDescriptor (TJ6 k).2.2.1 = some (tyJ6 k) := by decide +kernel
abbrev cJ6_bitCount_0f7a4 : ByteArray := prog_14_method_49_code
def yJ6_bitCount_0f7a4 : MethodName := ⟨RJ6, "bitCount", "(I)I"⟩
def RJ9 : String := "java/lang/Math"
def TJ9 : u_T := fun k => match k with
  | _ => ("", "", "", false)
def tyJ9 : Nat → FieldType := fun k => match k with
  | _ => .int
theorem nmJ9 : ∀ a, a < 0 → ∀ b, b < 0 → a ≠ b → (TJ9 a).2.1 ≠ (TJ9 b).2.1 := by decide +kernel
theorem tyJ9_ok : ∀ k, k < 0 → parseFieldDescriptor (TJ9 k).2.2.1 = some (tyJ9 k) := by decide +kernel
abbrev cJ9_max_7cf53 : ByteArray := prog_15_method_65_code
def yJ9_max_7cf53 : MethodName := ⟨RJ9, "max", "(II)I"⟩
abbrev cJ9_min_7cf53 : ByteArray := prog_15_method_69_code
def yJ9_min_7cf53 : MethodName := ⟨RJ9, "min", "(II)I"⟩
def RJ10 : String := "java/lang/System"
def TJ10 : u_T := fun k => match k with
  | _ => ("", "", "", false)
def tyJ10 : Nat → FieldType := fun k => match k with
  | _ => .int
theorem nmJ10 : ∀ a, a < 0 → ∀ b, b < 0 → a ≠ b → (TJ10 a).2.1 ≠ (TJ10 b).2.1 := by decide +kernel
theorem tyJ10_ok : ∀ k, k < 0 → parseFieldDescriptor (TJ10 k).2.2.1 = some (tyJ10 k) := by decide +kernel
def RJ7 : String := "java/util/Arrays"
def TJ7 : u_T := fun k => match k with
  | _ => ("", "", "", false)
def tyJ7 : Nat → FieldType := fun k => match k with
  | _ => .int
theorem nmJ7 : ∀ a, a < 0 → ∀ b, b < 0 → a ≠ b → (TJ7 a).2.1 ≠ (TJ7 b).2.1 := by decide +kernel
theorem tyJ7_ok : ∀ k, k < 0 → parseFieldDescriptor (TJ7 k).2.2.1 = some (tyJ7 k) := by decide +kernel
abbrev cJ7_fill_d0a16 : ByteArray := prog_17_method_101_code
def yJ7_fill_d0a16 : MethodName := ⟨RJ7, "fill", "([JJ)V"⟩
abbrev cJ7_fill_53178 : ByteArray := prog_17_method_103_code
def yJ7_fill_53178 : MethodName := ⟨RJ7, "fill", "([II)V"⟩
def RL : String := "LastWateredLaw"
abbrev cL_law : ByteArray := code
abbrev vwCl : List vw_C := [(RX1, TX1, 5), (RX2, TX2, 11), (RX4, TX4, 2), (RX7, TX7, 2), (RX9, TX9, 5), (RX10, TX10, 6), (RX11, TX11, 35)]
end
section
/-! ===== a pure machine over numbered cells: what stands beside an instruction, tables, shapes, worlds ===== -/
abbrev pm_X : Type := (Nat × Nat) ⊕ (Int32 ⊕ (Int64 ⊕ MethodName))
abbrev pm_E : Type := Nat × Instr × Nat × pm_X
abbrev pm_M : Type := MethodName × ByteArray × Nat × Option FieldType × List pm_E
/-- a cell's shape: (0, class, fields: none an int, some r a reference), (1, n, []) ints, (2, n, []) booleans, (3, n, []) longs, (4, n, refs) references -/
abbrev pm_C : Type := Nat × Nat × List (Option (Option Nat))
abbrev pm_I : Type := Nat → Nat → Int32
abbrev pm_J : Type := Nat → Nat → Int64
abbrev pm_L : Type := List (Option Value)
abbrev pm_Po : Type := Option Value → List pm_C → pm_I → pm_J → Prop
abbrev pm_CX : Type := Launch × (Nat → ClassId) × (Nat → Nat → Nat) × (Nat → ClassId)
def pm_at (al : Nat → Nat) (v : Value) : Value := match v with
  | .ref k => .ref (al k)
  | v => v
def pm_fv (al : Nat → Nat) (f : Nat → Int32) (j : Nat) (o : Option (Option Nat)) : Value := match o with
  | none => .int (f j)
  | some none => .null
  | some (some k) => .ref (al k)
def pm_fl (al : Nat → Nat) (f : Nat → Int32) : Nat → List (Option (Option Nat)) → List Value
  | _, [] => []
  | j, o :: r => pm_fv al f j o :: pm_fl al f (j + 1) r
theorem pm_fl_get (al : Nat → Nat) (f : Nat → Int32) (fs : List (Option (Option Nat))) : ∀ (j0 j : Nat), (pm_fl al f j0 fs)[j]? = (fs[j]?).map (pm_fv al f (j0 + j)) := by
  induction fs with
  | nil => intro j0 j; simp [pm_fl]
  | cons o r ih =>
    intro j0 j
    cases j with
    | zero => simp [pm_fl]
    | succ j =>
      simp only [pm_fl, List.getElem?_cons_succ]
      rw [ih (j0 + 1) j, show j0 + 1 + j = j0 + (j + 1) by omega]
theorem pm_fl_len (al : Nat → Nat) (f : Nat → Int32) (fs : List (Option (Option Nat))) : ∀ j0, (pm_fl al f j0 fs).length = fs.length := by
  induction fs with
  | nil => intro j0; rfl
  | cons o r ih => intro j0; simp [pm_fl, ih]
def pm_rf (al : Nat → Nat) (rs : List (Option (Option Nat))) (j : Nat) : Option Nat := match rs[j]? with
  | some (some (some k)) => some (al k)
  | _ => none
def pm_wc (dT : Nat → ClassId) (al : Nat → Nat) (mu : pm_I) (nu : pm_J) (k : Nat) (c : pm_C) : va_E := match c with
  | (0, ci, fs) => .inr (ci, pm_fl al (mu k) 0 fs)
  | (1, n, _) => .inl (dT 0, n, .inl (mu k))
  | (2, n, _) => .inl (dT 1, n, .inl (mu k))
  | (3, n, _) => .inl (dT 2, n, .inr (.inl (nu k)))
  | (_, n, rs) => .inl (dT 3, n, .inr (.inr (.inr (.inr (pm_rf al rs)))))
def pm_W (dT : Nat → ClassId) (al : Nat → Nat) (mu : pm_I) (nu : pm_J) : Nat → List pm_C → va_W
  | _, [] => []
  | k, c :: r => (al k, pm_wc dT al mu nu k c) :: pm_W dT al mu nu (k + 1) r
theorem pm_W_get (dT : Nat → ClassId) (al : Nat → Nat) (mu : pm_I) (nu : pm_J) (sg : List pm_C) : ∀ (k0 k : Nat), (pm_W dT al mu nu k0 sg)[k]? = (sg[k]?).map (fun c => (al (k0 + k), pm_wc dT al mu nu (k0 + k) c)) := by
  induction sg with
  | nil => intro k0 k; simp [pm_W]
  | cons o r ih =>
    intro k0 k
    cases k with
    | zero => simp [pm_W]
    | succ k =>
      simp only [pm_W, List.getElem?_cons_succ]
      rw [ih (k0 + 1) k, show k0 + 1 + k = k0 + (k + 1) by omega]
theorem pm_W_at {dT : Nat → ClassId} {al : Nat → Nat} {mu : pm_I} {nu : pm_J} {sg : List pm_C} {k : Nat} {c : pm_C} (h : sg[k]? = some c) : (pm_W dT al mu nu 0 sg)[k]? = some (al k, pm_wc dT al mu nu k c) := by
  rw [pm_W_get, h]
  simp
theorem pm_W_len (dT : Nat → ClassId) (al : Nat → Nat) (mu : pm_I) (nu : pm_J) (sg : List pm_C) : ∀ k0, (pm_W dT al mu nu k0 sg).length = sg.length := by
  induction sg with
  | nil => intro k0; rfl
  | cons o r ih => intro k0; simp [pm_W, ih]
/-- one cell changed: its number k's own shape or contents -/
theorem pm_W_set {dT : Nat → ClassId} {al : Nat → Nat} {mu mu' : pm_I} {nu nu' : pm_J} {sg sg' : List pm_C} {k : Nat} {x : va_E}
    (hl : sg'.length = sg.length) (ho : ∀ j c, j ≠ k → sg[j]? = some c → sg'[j]? = some c ∧ mu' j = mu j ∧ nu' j = nu j) (hk : ∀ c, sg'[k]? = some c → pm_wc dT al mu' nu' k c = x) :
    (pm_W dT al mu nu 0 sg).set k (al k, x) = pm_W dT al mu' nu' 0 sg' := by
  apply List.ext_getElem?
  intro j
  rw [List.getElem?_set, pm_W_get, pm_W_get, pm_W_len]
  simp only [Nat.zero_add]
  by_cases hj : k = j
  · subst hj
    rw [if_pos rfl]
    by_cases hs : k < sg.length
    · rw [if_pos hs]
      have : k < sg'.length := by omega
      rw [List.getElem?_eq_getElem this]
      simp only [Option.map_some]
      rw [hk _ (List.getElem?_eq_getElem this)]
    · rw [if_neg hs]
      rw [List.getElem?_eq_none (by omega)]
      rfl
  · rw [if_neg hj]
    cases hc : sg[j]? with
    | none =>
      have h1 : sg.length ≤ j := by simpa using hc
      rw [List.getElem?_eq_none (by omega)]
      rfl
    | some c =>
      obtain ⟨h1, h2, h3⟩ := ho j c (fun q => hj q.symm) hc
      rw [h1]
      simp only [Option.map_some]
      congr 2
      unfold pm_wc
      rw [h2, h3]
/-- a place of the ints, of the longs changed -/
def pm_up (mu : pm_I) (k j : Nat) (v : Int32) : pm_I := fun a => if a = k then upd (mu k) j v else mu a
def pm_uq (nu : pm_J) (k j : Nat) (v : Int64) : pm_J := fun a => if a = k then vp_updL (nu k) j v else nu a
theorem pm_up_ne {mu : pm_I} {k j a : Nat} {v : Int32} (h : a ≠ k) : pm_up mu k j v a = mu a := by simp [pm_up, h]
theorem pm_up_eq {mu : pm_I} {k j : Nat} {v : Int32} : pm_up mu k j v k = upd (mu k) j v := by simp [pm_up]
theorem pm_uq_ne {nu : pm_J} {k j a : Nat} {v : Int64} (h : a ≠ k) : pm_uq nu k j v a = nu a := by simp [pm_uq, h]
theorem pm_uq_eq {nu : pm_J} {k j : Nat} {v : Int64} : pm_uq nu k j v k = vp_updL (nu k) j v := by simp [pm_uq]
theorem pm_fl_set (al : Nat → Nat) (f : Nat → Int32) (v : Int32) (fs : List (Option (Option Nat))) : ∀ (j0 j : Nat), fs[j]? = some none → (pm_fl al f j0 fs).set j (.int v) = pm_fl al (upd f (j0 + j) v) j0 fs := by
  intro j0 j hj
  apply List.ext_getElem?
  intro i
  rw [List.getElem?_set, pm_fl_get, pm_fl_get, pm_fl_len]
  have hlt : j < fs.length := (List.getElem?_eq_some_iff.mp hj).1
  by_cases h : j = i
  · subst h
    rw [if_pos rfl, if_pos hlt, hj]
    simp [pm_fv, upd]
  · rw [if_neg h]
    cases hi : fs[i]? with
    | none => rfl
    | some o =>
      simp only [Option.map_some]
      cases o with
      | none =>
        have : ¬ (j0 + i = j0 + j) := by omega
        simp [pm_fv, upd, this]
        intro q; omega
      | some o => cases o <;> rfl
/-! locals -/
def pm_lc (al : Nat → Nat) : Nat → pm_L → List (Nat × Value)
  | _, [] => []
  | i, none :: r => pm_lc al (i + 1) r
  | i, some v :: r => (i, pm_at al v) :: pm_lc al (i + 1) r
theorem pm_lc_mem (al : Nat → Nat) (L : pm_L) : ∀ (i0 : Nat) (q : Nat × Value), q ∈ pm_lc al i0 L ↔ ∃ (j : Nat) (v : Value), L[j]? = some (some v) ∧ q = (i0 + j, pm_at al v) := by
  induction L with
  | nil => intro i0 q; simp [pm_lc]
  | cons o r ih =>
    intro i0 q
    have key : (∃ (j : Nat) (v : Value), r[j]? = some (some v) ∧ q = (i0 + 1 + j, pm_at al v)) ↔ (∃ (j : Nat) (v : Value), (o :: r)[j + 1]? = some (some v) ∧ q = (i0 + (j + 1), pm_at al v)) := by
      constructor
      · rintro ⟨j, v, h1, h2⟩
        exact ⟨j, v, by simpa using h1, by rw [h2, show i0 + 1 + j = i0 + (j + 1) by omega]⟩
      · rintro ⟨j, v, h1, h2⟩
        exact ⟨j, v, by simpa using h1, by rw [h2, show i0 + 1 + j = i0 + (j + 1) by omega]⟩
    cases o with
    | none =>
      simp only [pm_lc]
      rw [ih (i0 + 1) q, key]
      constructor
      · rintro ⟨j, v, h⟩; exact ⟨j + 1, v, h⟩
      · rintro ⟨j, v, h1, h2⟩
        cases j with
        | zero => simp at h1
        | succ j => exact ⟨j, v, h1, h2⟩
    | some w =>
      simp only [pm_lc, List.mem_cons]
      rw [ih (i0 + 1) q, key]
      constructor
      · rintro (h | ⟨j, v, h⟩)
        · exact ⟨0, w, by simp, by simpa using h⟩
        · exact ⟨j + 1, v, h⟩
      · rintro ⟨j, v, h1, h2⟩
        cases j with
        | zero =>
          simp at h1
          subst h1
          exact Or.inl (by simpa using h2)
        | succ j => exact Or.inr ⟨j, v, h1, h2⟩
theorem pm_lc_at {al : Nat → Nat} {L : pm_L} {ls : Array Slot} {nL i : Nat} {v : Value} (h : lv_has ls nL (pm_lc al 0 L)) (hi : L[i]? = some (some v)) : ls[i]? = some (.val (pm_at al v)) :=
  h.2.2 (i, pm_at al v) ((pm_lc_mem al L 0 _).mpr ⟨i, v, hi, by simp⟩)
theorem pm_has_mono {ls : Array Slot} {nL : Nat} {l l' : List (Nat × Value)} (h : lv_has ls nL l) (hs : ∀ q ∈ l', q ∈ l) : lv_has ls nL l' := ⟨h.1, h.2.1, fun q hq => h.2.2 q (hs q hq)⟩
def pm_cat2 (o : Option Value) : Bool := match o with
  | some (.long _) => true
  | some (.double _) => true
  | _ => false
/-- a value of one slot is stored: a long ahead of it goes -/
def pm_st1 : pm_L → Nat → Value → pm_L
  | [], _, _ => []
  | _ :: r, 0, v => some v :: r
  | o :: r, 1, v => (match pm_cat2 o with | true => none | false => o) :: pm_st1 r 0 v
  | o :: r, i + 2, v => o :: pm_st1 r (i + 1) v
/-- a long is stored -/
def pm_st2 : pm_L → Nat → Value → pm_L
  | [], _, _ => []
  | _ :: [], 0, v => some v :: []
  | _ :: _ :: r, 0, v => some v :: none :: r
  | o :: r, 1, v => (match pm_cat2 o with | true => none | false => o) :: pm_st2 r 0 v
  | o :: r, i + 2, v => o :: pm_st2 r (i + 1) v
theorem pm_cat2_iff {v : Value} {al : Nat → Nat} : pm_cat2 (some v) = true ↔ (pm_at al v).category = 2 := by cases v <;> simp [pm_cat2, pm_at, Value.category]
theorem pm_st1_get (v : Value) : ∀ (L : pm_L) (i j : Nat) (w : Value), (pm_st1 L i v)[j]? = some (some w) → (j = i ∧ w = v) ∨ (j ≠ i ∧ L[j]? = some (some w) ∧ ¬ (j + 1 = i ∧ pm_cat2 (some w) = true)) := by
  intro L
  induction L with
  | nil => intro i j w h; simp [pm_st1] at h
  | cons o r ih =>
    intro i j w h
    match i with
    | 0 =>
      cases j with
      | zero => simp [pm_st1] at h; exact Or.inl ⟨rfl, h.symm⟩
      | succ j => simp [pm_st1] at h; exact Or.inr ⟨by omega, by simpa using h, by omega⟩
    | 1 =>
      cases j with
      | zero =>
        simp [pm_st1] at h
        refine Or.inr ⟨by omega, ?_, ?_⟩
        · cases hc : pm_cat2 o with
          | true => rw [hc] at h; cases h
          | false => rw [hc] at h; simpa using h
        · rintro ⟨-, hw⟩
          cases hc : pm_cat2 o with
          | true => rw [hc] at h; cases h
          | false =>
            rw [hc] at h
            have : o = some w := h
            rw [this, hw] at hc
            cases hc
      | succ j =>
        simp [pm_st1] at h
        rcases ih 0 j w h with ⟨h1, h2⟩ | ⟨h1, h2, h3⟩
        · exact Or.inl ⟨by omega, h2⟩
        · exact Or.inr ⟨by omega, by simpa using h2, by rintro ⟨q, -⟩; omega⟩
    | i + 2 =>
      cases j with
      | zero =>
        simp [pm_st1] at h
        exact Or.inr ⟨by omega, by simpa using h, by rintro ⟨q, -⟩; omega⟩
      | succ j =>
        simp [pm_st1] at h
        rcases ih (i + 1) j w h with ⟨h1, h2⟩ | ⟨h1, h2, h3⟩
        · exact Or.inl ⟨by omega, h2⟩
        · exact Or.inr ⟨by omega, by simpa using h2, by rintro ⟨q, hq⟩; exact h3 ⟨by omega, hq⟩⟩
theorem pm_st2_get (v : Value) : ∀ (L : pm_L) (i j : Nat) (w : Value), (pm_st2 L i v)[j]? = some (some w) → (j = i ∧ w = v) ∨ (j ≠ i ∧ j ≠ i + 1 ∧ L[j]? = some (some w) ∧ ¬ (j + 1 = i ∧ pm_cat2 (some w) = true)) := by
  intro L
  induction L with
  | nil => intro i j w h; simp [pm_st2] at h
  | cons o r ih =>
    intro i j w h
    match i with
    | 0 =>
      cases r with
      | nil =>
        cases j with
        | zero => simp [pm_st2] at h; exact Or.inl ⟨rfl, h.symm⟩
        | succ j => simp [pm_st2] at h
      | cons o2 r =>
        match j with
        | 0 => simp [pm_st2] at h; exact Or.inl ⟨rfl, h.symm⟩
        | 1 => simp [pm_st2] at h
        | j + 2 => simp [pm_st2] at h; exact Or.inr ⟨by omega, by omega, by simpa using h, by omega⟩
    | 1 =>
      cases j with
      | zero =>
        simp [pm_st2] at h
        refine Or.inr ⟨by omega, by omega, ?_, ?_⟩
        · cases hc : pm_cat2 o with
          | true => rw [hc] at h; cases h
          | false => rw [hc] at h; simpa using h
        · rintro ⟨-, hw⟩
          cases hc : pm_cat2 o with
          | true => rw [hc] at h; cases h
          | false =>
            rw [hc] at h
            have : o = some w := h
            rw [this, hw] at hc
            cases hc
      | succ j =>
        simp [pm_st2] at h
        rcases ih 0 j w h with ⟨h1, h2⟩ | ⟨h1, h2, h3, h4⟩
        · exact Or.inl ⟨by omega, h2⟩
        · exact Or.inr ⟨by omega, by omega, by simpa using h3, by rintro ⟨q, -⟩; omega⟩
    | i + 2 =>
      cases j with
      | zero =>
        simp [pm_st2] at h
        exact Or.inr ⟨by omega, by omega, by simpa using h, by rintro ⟨q, -⟩; omega⟩
      | succ j =>
        simp [pm_st2] at h
        rcases ih (i + 1) j w h with ⟨h1, h2⟩ | ⟨h1, h2, h3, h4⟩
        · exact Or.inl ⟨by omega, h2⟩
        · exact Or.inr ⟨by omega, by omega, by simpa using h3, by rintro ⟨q, hq⟩; exact h4 ⟨by omega, hq⟩⟩
theorem pm_st1_sub {al : Nat → Nat} {L : pm_L} {i : Nat} {v : Value} : ∀ q ∈ pm_lc al 0 (pm_st1 L i v), q ∈ (i, pm_at al v) :: (pm_lc al 0 L).filter (fun q => !(q.1 == i) && !(q.1 + 1 == i && q.2.category == 2)) := by
  intro q hq
  obtain ⟨j, w, h1, rfl⟩ := (pm_lc_mem al _ 0 q).mp hq
  rcases pm_st1_get v L i j w h1 with ⟨h2, h3⟩ | ⟨h2, h3, h4⟩
  · subst h2; subst h3; simp
  · refine List.mem_cons_of_mem _ (List.mem_filter.mpr ⟨(pm_lc_mem al L 0 _).mpr ⟨j, w, h3, rfl⟩, ?_⟩)
    simp only [Nat.zero_add, Bool.and_eq_true, Bool.not_eq_true', beq_eq_false_iff_ne, ne_eq, Bool.and_eq_false_iff]
    refine ⟨h2, ?_⟩
    by_cases h5 : j + 1 = i
    · exact Or.inr (fun h6 => h4 ⟨h5, pm_cat2_iff.mpr h6⟩)
    · exact Or.inl h5
theorem pm_st2_sub {al : Nat → Nat} {L : pm_L} {i : Nat} {v : Value} : ∀ q ∈ pm_lc al 0 (pm_st2 L i v), q ∈ (i, pm_at al v) :: (pm_lc al 0 L).filter (fun q => !(q.1 == i) && (!(q.1 == i + 1) && !(q.1 + 1 == i && q.2.category == 2))) := by
  intro q hq
  obtain ⟨j, w, h1, rfl⟩ := (pm_lc_mem al _ 0 q).mp hq
  rcases pm_st2_get v L i j w h1 with ⟨h2, h3⟩ | ⟨h2, h2', h3, h4⟩
  · subst h2; subst h3; simp
  · refine List.mem_cons_of_mem _ (List.mem_filter.mpr ⟨(pm_lc_mem al L 0 _).mpr ⟨j, w, h3, rfl⟩, ?_⟩)
    simp only [Nat.zero_add, Bool.and_eq_true, Bool.not_eq_true', beq_eq_false_iff_ne, ne_eq, Bool.and_eq_false_iff]
    refine ⟨h2, h2', ?_⟩
    by_cases h5 : j + 1 = i
    · exact Or.inr (fun h6 => h4 ⟨h5, pm_cat2_iff.mpr h6⟩)
    · exact Or.inl h5
end
section
/-! ===== the tables' checks, the judgement pm_G (the machine goes on well from here), a contract pm_T ===== -/
def pm_tbl : List Cond := lw_tbl.filter goodWord
def pm_fok (own : String) (k ci j : Nat) : Bool := match vwCl[ci]? with
  | some q => Nat.blt j q.2.2 && decide (Cond.fieldLink own k (q.2.1 j).1 (q.2.1 j).2.1 (q.2.1 j).2.2.1 ∈ pm_tbl)
  | none => false
def pm_nok (own : String) (k ci : Nat) : Bool := match vwCl[ci]? with
  | some q => decide (Cond.classLink own k q.1 ∈ pm_tbl) && (decide (Cond.instantiable q.1 q.2.2 ∈ pm_tbl) && decide (Cond.initialized q.1 ∈ pm_tbl))
  | none => false
def pm_aok (own : String) (k ci : Nat) : Bool := match vwCl[ci]? with
  | some q => decide (Cond.classLink own k q.1 ∈ pm_tbl)
  | none => false
/-- the calls of nest mates' private constructors -/
def pm_nest : List (String × Nat × MethodName) := [(RX10, 9, yX7_init), (RX10, 18, yX2_init), (RX10, 29, yX1_init), (RX10, 36, yX9_init), (RX9, 28, yX4_init)]
theorem pm_nest_in : ∀ q ∈ pm_nest, Cond.methodLinkNest q.1 q.2.1 q.2.2 "LastWatered" ∈ lw_tbl := by decide +kernel
theorem pm_over_in : Cond.arrayOver (.object RX2) ∈ lw_tbl := by decide +kernel
def pm_NN (U : State) : Prop := (∀ q ∈ pm_nest, va_Nw (.methodLinkNest q.1 q.2.1 q.2.2 "LastWatered") U) ∧ va_AO RX2 U
theorem pm_NN.warm {s U : State} (hW : s.WarmedH U.vm) (h : pm_NN s) : pm_NN U := ⟨fun q hq => va_Nw.warmM hW (h.1 q hq), va_AO.moved hW.alike h.2⟩
theorem pm_NN.same {s U : State} (hv : s.vm = U.vm) (h : pm_NN s) : pm_NN U := ⟨fun q hq => va_Nw.same rfl hv (h.1 q hq), va_AO.moved (by rw [hv]; exact Vm.Alike.refl _) h.2⟩
def pm_eok (own : String) (cc : ByteArray) (en : pm_E) : Bool :=
  decide (decode cc en.1 = .ok (en.2.1, en.2.2.1)) && (match en.2.1, en.2.2.2 with
   | .iconst n, .inr (.inl v) => decide (Int32.ofInt n = v)
   | .bipush n, .inr (.inl v) => decide ((Int8.ofInt n).toInt32 = v)
   | .sipush n, .inr (.inl v) => decide ((Int16.ofInt n).toInt32 = v)
   | .iinc _ n, .inr (.inl v) => decide (Int32.ofInt n = v)
   | .lconst n, .inr (.inr (.inl v)) => decide (Int64.ofNat (n : Nat) = v)
   | .ldc k, .inr (.inl v) => decide (Cond.constant own k v ∈ pm_tbl)
   | .ldc_w k, .inr (.inl v) => decide (Cond.constant own k v ∈ pm_tbl)
   | .ldc2_w k, .inr (.inr (.inl v)) => decide (Cond.constantLong own k v ∈ pm_tbl)
   | .getfield k, .inl (ci, j) => pm_fok own k ci j
   | .putfield k, .inl (ci, j) => pm_fok own k ci j
   | .goto off, .inl (t, _) => decide ((en.1 : Int) + off = (t : Int))
   | .if_icmp _ off, .inl (t, _) => decide ((en.1 : Int) + off = (t : Int))
   | .ifCond _ off, .inl (t, _) => decide ((en.1 : Int) + off = (t : Int))
   | .ifnonnull off, .inl (t, _) => decide ((en.1 : Int) + off = (t : Int))
   | .invokestatic k, .inr (.inr (.inr y)) => decide (Cond.methodLink own k y ∈ pm_tbl) && (decide (Cond.static y ∈ pm_tbl) && decide (Cond.initialized y.cls ∈ pm_tbl))
   | .invokevirtual k, .inr (.inr (.inr y)) => decide (Cond.methodLink own k y ∈ pm_tbl) && (decide (Cond.instanceMethod y ∈ pm_tbl) && (decide (Cond.selects y.cls y y ∈ pm_tbl) && decide (Cond.initialized y.cls ∈ pm_tbl)))
   | .invokespecial k, .inr (.inr (.inr y)) => (decide (Cond.methodLink own k y ∈ pm_tbl) || decide ((own, k, y) ∈ pm_nest)) && (decide (Cond.instanceMethod y ∈ pm_tbl) && decide (y = Lib.objectInit ∨ Cond.initialized y.cls ∈ pm_tbl))
   | .new k, .inl (ci, _) => pm_nok own k ci
   | .anewarray k, .inl (ci, _) => pm_aok own k ci
   | _, _ => true)
def pm_ok (mi : pm_M) : Bool := plainName mi.1.cls && (decide (mi.1.cls ≠ "java/lang/invoke/MethodHandle" ∧ mi.1.cls ≠ "java/lang/invoke/VarHandle") && (decide (Cond.code mi.1 mi.2.1 mi.2.2.1 mi.2.2.2.1 ∈ pm_tbl) && (Nat.ble mi.2.2.1 45 && mi.2.2.2.2.all (pm_eok mi.1.cls mi.2.1))))
abbrev pm_ws (mi : pm_M) : List Cond := Cond.code mi.1 mi.2.1 mi.2.2.1 mi.2.2.2.1 :: pm_tbl
theorem pm_good_all : pm_tbl.all goodWord = true := List.all_eq_true.mpr fun _ hw => (List.mem_filter.mp hw).2
theorem pm_goodIn {mi mj : pm_M} (h : Cond.code mj.1 mj.2.1 mj.2.2.1 mj.2.2.2.1 ∈ pm_tbl) : GoodIn (pm_ws mi) (pm_ws mj) := by
  intro w hw
  have hm : w ∈ pm_tbl := by
    rcases List.mem_cons.mp hw with q | q
    · rw [q]; exact h
    · exact q
  exact ⟨List.mem_cons_of_mem _ hm, good_of_word (List.all_eq_true.mp pm_good_all w hm)⟩
/-- what the tables say of each class whose objects the worlds hold -/
theorem pm_in1 : ∀ w ∈ u_ws RX1 TX1 5, w ∈ pm_tbl := by decide +kernel
theorem pm_in2 : ∀ w ∈ u_ws RX2 TX2 11, w ∈ pm_tbl := by decide +kernel
theorem pm_in4 : ∀ w ∈ u_ws RX4 TX4 2, w ∈ pm_tbl := by decide +kernel
theorem pm_in7 : ∀ w ∈ u_ws RX7 TX7 2, w ∈ pm_tbl := by decide +kernel
theorem pm_in9 : ∀ w ∈ u_ws RX9 TX9 5, w ∈ pm_tbl := by decide +kernel
theorem pm_in10 : ∀ w ∈ u_ws RX10 TX10 6, w ∈ pm_tbl := by decide +kernel
theorem pm_in11 : ∀ w ∈ u_ws RX11 TX11 35, w ∈ pm_tbl := by decide +kernel
theorem pm_cls {ci : Nat} {q : vw_C} (h : vwCl[ci]? = some q) : (∀ w ∈ u_ws q.1 q.2.1 q.2.2, w ∈ pm_tbl) ∧ ∃ ty0 : Nat → FieldType, (∀ k, k < q.2.2 → parseFieldDescriptor (q.2.1 k).2.2.1 = some (ty0 k)) ∧ (∀ a, a < q.2.2 → ∀ b, b < q.2.2 → a ≠ b → (q.2.1 a).2.1 ≠ (q.2.1 b).2.1) := by
  match ci, h with
  | 0, h => cases h; exact ⟨pm_in1, tyX1, tyX1_ok, nmX1⟩
  | 1, h => cases h; exact ⟨pm_in2, tyX2, tyX2_ok, nmX2⟩
  | 2, h => cases h; exact ⟨pm_in4, tyX4, tyX4_ok, nmX4⟩
  | 3, h => cases h; exact ⟨pm_in7, tyX7, tyX7_ok, nmX7⟩
  | 4, h => cases h; exact ⟨pm_in9, tyX9, tyX9_ok, nmX9⟩
  | 5, h => cases h; exact ⟨pm_in10, tyX10, tyX10_ok, nmX10⟩
  | 6, h => cases h; exact ⟨pm_in11, tyX11, tyX11_ok, nmX11⟩
  | k + 7, h => simp [vwCl] at h
/-- the array classes -/
abbrev pm_ty (dT : Nat → ClassId) : List (ClassId × FieldType) := [(dT 0, .int), (dT 1, .boolean), (dT 2, .long), (dT 3, .object RX2)]
/-- a frame's fixed part: the method, its level, the cells and slots that it may make, how many cells stood at its entry, its post -/
abbrev pm_FX : Type := pm_M × Nat × Nat × Nat × Nat × pm_Po
def pm_room (d mc ms : Nat) : Room := { frames := d, cells := mc, slots := ms, locals := d * 64 }
def pm_Q (cx : pm_CX) (n0 : Nat) (Q : pm_Po) (A : Nat → Prop) (al0 : Nat → Nat) : Array Value → State → Outcome → State → Prop := fun _ st oc t =>
  (∃ (r : Option Value) (sg : List pm_C) (mu : pm_I) (nu : pm_J) (al : Nat → Nat), Q r sg mu nu ∧ (∀ k, k < n0 → al k = al0 k) ∧ n0 ≤ sg.length ∧ oc = .returned (r.map (pm_at al)) ∧ va_P (cx.2.1, cx.2.2.1) vwCl (pm_W cx.2.2.2 al mu nu 0 sg) t.heap ∧ va_D A (pm_W cx.2.2.2 al mu nu 0 sg)) ∧ va_F A st t
def pm_S (cx : pm_CX) (mi : pm_M) (p : Program) (s : State) (m : MethodId) (args : Array Value) (meth : Method) (c : Code) (A : Nat → Prop) : Prop :=
  p.tables.exec = Jvm.exec ∧ c.code = mi.2.1 ∧ meth.sig.returnType = mi.2.2.2.1 ∧ c.maxLocals = mi.2.2.1 ∧ s.vm.findClass mi.1.cls = some m.cls ∧ (∀ w ∈ pm_ws mi, w.before args s = true) ∧ meth.locks = false ∧ meth.name = mi.1.name ∧ (∀ q, s.heap.size ≤ q → A q) ∧ va_K (cx.2.1, cx.2.2.1) vwCl (pm_ty cx.2.2.2) s ∧ pm_NN s
def pm_D (cx : pm_CX) (nL n0 : Nat) (s : State) (A : Nat → Prop) (al0 al : Nat → Nat) (H : Heap) (locs : List Loc) (ls : Array Slot) (L : pm_L) (sg : List pm_C) (mu : pm_I) (nu : pm_J) : Prop :=
  (∀ k, k < n0 → al k = al0 k) ∧ n0 ≤ sg.length ∧ va_P (cx.2.1, cx.2.2.1) vwCl (pm_W cx.2.2.2 al mu nu 0 sg) H ∧ va_D A (pm_W cx.2.2.2 al mu nu 0 sg) ∧ va_S A s.heap H locs ∧ lv_has ls nL (pm_lc al 0 L)
def pm_G (cx : pm_CX) (fx : pm_FX) (cells slots pc : Nat) (L : pm_L) (S : List Value) (sg : List pm_C) (mu : pm_I) (nu : pm_J) : Prop :=
  ∀ (p : Program) (e : Env) (s : State) (m : MethodId) (args : Array Value) (below : List Frame) (meth : Method) (c : Code) (A : Nat → Prop) (al0 al : Nat → Nat) (H : Heap) (locs : List Loc) (ls : Array Slot),
    pm_S cx fx.1 p s m args meth c A → pm_D cx fx.1.2.2.1 fx.2.2.2.2.1 s A al0 al H locs ls L sg mu nu →
    W p cx.1 e (pm_room fx.2.1 fx.2.2.1 fx.2.2.2.1) s m args below meth c H locs cells slots (MQ below (pm_Q cx fx.2.2.2.2.1 fx.2.2.2.2.2 A al0) args s fx.2.2.1 fx.2.2.2.1 A) (F0 m pc ls (S.map (pm_at al)))
/-- a contract: from these arguments and cells the method ends, with Q -/
def pm_T (cx : pm_CX) (mi : pm_M) (d mc ms : Nat) (as : List Value) (sg : List pm_C) (mu : pm_I) (nu : pm_J) (Q : pm_Po) : Prop :=
  ∀ (al : Nat → Nat) (sz : Nat), Met cx.1 mi.1 (pm_ws mi) (pm_room d mc ms)
    (va_Pc (as.map (pm_at al)) (fun U => U.heap.size = sz ∧ va_P (cx.2.1, cx.2.2.1) vwCl (pm_W cx.2.2.2 al mu nu 0 sg) U.heap ∧ va_K (cx.2.1, cx.2.2.1) vwCl (pm_ty cx.2.2.2) U ∧ va_D (fun _ => True) (pm_W cx.2.2.2 al mu nu 0 sg) ∧ pm_NN U))
    (pm_Q cx sg.length Q (va_A (pm_W cx.2.2.2 al mu nu 0 sg) sz) al) mc ms (va_A (pm_W cx.2.2.2 al mu nu 0 sg) sz)
theorem pm_ok_parts {mi : pm_M} (h : pm_ok mi = true) : plainName mi.1.cls = true ∧ (mi.1.cls ≠ "java/lang/invoke/MethodHandle" ∧ mi.1.cls ≠ "java/lang/invoke/VarHandle") ∧ Cond.code mi.1 mi.2.1 mi.2.2.1 mi.2.2.2.1 ∈ pm_tbl ∧ mi.2.2.1 ≤ 45 ∧ ∀ en ∈ mi.2.2.2.2, pm_eok mi.1.cls mi.2.1 en = true := by
  unfold pm_ok at h
  simp only [Bool.and_eq_true, decide_eq_true_eq] at h
  exact ⟨h.1, h.2.1, h.2.2.1, Nat.le_of_ble_eq_true h.2.2.2.1, List.all_eq_true.mp h.2.2.2.2⟩
theorem pm_dec {own : String} {cc : ByteArray} {en : pm_E} (h : pm_eok own cc en = true) : decode cc en.1 = .ok (en.2.1, en.2.2.1) := by
  unfold pm_eok at h
  exact of_decide_eq_true (Bool.and_eq_true_iff.mp h).1
/-- the arguments as the locals that a method begins with -/
def pm_la : List Value → pm_L
  | [] => []
  | v :: r => some v :: (match pm_cat2 (some v) with | true => none :: pm_la r | false => pm_la r)
theorem pm_la_len (al : Nat → Nat) (vs : List Value) : (lg_sl (vs.map (pm_at al))).length = (pm_la vs).length := by
  induction vs with
  | nil => rfl
  | cons v r ih =>
    cases v <;> simp [lg_sl, pm_la, pm_cat2, pm_at, Value.category] at ih ⊢ <;> omega
theorem pm_la_args (al : Nat → Nat) (vs : List Value) : ∀ i0, lv_args i0 (vs.map (pm_at al)) = pm_lc al i0 (pm_la vs) := by
  induction vs with
  | nil => intro i0; rfl
  | cons v r ih =>
    intro i0
    cases v <;> simp [lv_args, pm_la, pm_cat2, pm_lc, pm_at, Value.category, ih]
/-- a method's contract out of the walk of its body -/
theorem pm_enter {cx : pm_CX} {mi : pm_M} {d mc ms : Nat} {as : List Value} {sg : List pm_C} {mu : pm_I} {nu : pm_J} {Q : pm_Po} (hok : pm_ok mi = true) (hn : (pm_la as).length ≤ mi.2.2.1) (h : pm_G cx (mi, d, mc, ms, sg.length, Q) 0 0 0 (pm_la as ++ List.replicate (mi.2.2.1 - (pm_la as).length) none) [] sg mu nu) : pm_T cx mi d mc ms as sg mu nu Q := by
  intro al sz
  obtain ⟨h1, -, -, -, -⟩ := pm_ok_parts hok
  refine Met.ofW (cc := mi.2.1) (maxL := mi.2.2.1) (ret := mi.2.2.2.1) h1 rfl ?_
  intro p e s m args below meth c s₁ B hml hv
  obtain ⟨rfl, hsz, hP, hK, hD0, hN⟩ := hv
  have hts := atoms_spec (ws := pm_ws mi) B.pre
  have hown : s.vm.findClass mi.1.cls = some m.cls := findClass_of_methodNamed B.named
  have hin : meth.name = mi.1.name := (name_of_methodNamed B.named B.method).1
  subst hsz
  have hD := hD0.self (sz := s.heap.size)
  have hl := lv_entry (as.map (pm_at al)) (n := mi.2.2.1) (by rw [pm_la_len]; exact hn)
  rw [lg_entry_eq]
  have hl2 := pm_has_mono (l' := pm_lc al 0 (pm_la as ++ List.replicate (mi.2.2.1 - (pm_la as).length) none)) hl (by
    rw [pm_la_args]
    intro q hq
    obtain ⟨j, v, g1, g2⟩ := (pm_lc_mem al _ 0 q).mp hq
    refine (pm_lc_mem al _ 0 q).mpr ⟨j, v, ?_, g2⟩
    by_cases hj : j < (pm_la as).length
    · rw [List.getElem?_append_left hj] at g1
      exact g1
    · rw [List.getElem?_append_right (by omega)] at g1
      have := List.mem_of_getElem? g1
      rw [List.mem_replicate] at this
      cases this.2)
  exact h p e s m _ below meth c (va_A (pm_W cx.2.2.2 al mu nu 0 sg) s.heap.size) al al s.heap [] _ ⟨B.exec, B.bytes, B.returns, hml, hown, hts, B.notSynchronized, hin, fun q hq => Or.inr hq, hK, hN⟩ ⟨fun _ _ => rfl, Nat.le_refl _, hP, hD, va_S.rf, hl2⟩
end
section
def tX0_ofWish : List pm_E := [(0, .aload_n 0, 1, .inl (0, 0)),
  (1, .aload_n 1, 1, .inl (0, 0)),
  (2, .aload_n 0, 1, .inl (0, 0)),
  (3, .getfield 9, 3, .inl (1, 4)),
  (6, .iconst 0, 1, .inr (.inl 0)),
  (7, .invokestatic 15, 3, .inr (.inr (.inr yX0_tenths))),
  (10, .lreturn, 1, .inl (0, 0))]
def mX0_ofWish : pm_M := (yX0_ofWish, cX0_ofWish, 2, (some .long), tX0_ofWish)
theorem okX0_ofWish : pm_ok mX0_ofWish = true := by decide +kernel
def tX0_tenths : List pm_E := [(0, .iload_n 3, 1, .inl (0, 0)),
  (1, .aload_n 1, 1, .inl (0, 0)),
  (2, .getfield 21, 3, .inl (3, 0)),
  (5, .if_icmp .ge 9, 3, .inl (14, 0)),
  (8, .iload_n 3, 1, .inl (0, 0)),
  (9, .bipush 6, 2, .inr (.inl 6)),
  (11, .if_icmp .lt 5, 3, .inl (16, 0)),
  (14, .lconst 1, 1, .inr (.inr (.inl 1))),
  (15, .lreturn, 1, .inl (0, 0)),
  (16, .lconst 0, 1, .inr (.inr (.inl 0))),
  (17, .lstore 4, 2, .inl (0, 0)),
  (19, .aload_n 0, 1, .inl (0, 0)),
  (20, .getfield 26, 3, .inl (1, 3)),
  (23, .ifCond .le 25, 3, .inl (48, 0)),
  (26, .aload_n 0, 1, .inl (0, 0)),
  (27, .getfield 26, 3, .inl (1, 3)),
  (30, .i2l, 1, .inl (0, 0)),
  (31, .aload_n 0, 1, .inl (0, 0)),
  (32, .aload_n 1, 1, .inl (0, 0)),
  (33, .iload_n 2, 1, .inl (0, 0)),
  (34, .aload_n 0, 1, .inl (0, 0)),
  (35, .getfield 29, 3, .inl (1, 0)),
  (38, .invokestatic 32, 3, .inr (.inr (.inr yX8_rained))),
  (41, .iload_n 3, 1, .inl (0, 0)),
  (42, .invokestatic 38, 3, .inr (.inr (.inr yX0_afterWeather))),
  (45, .lmul, 1, .inl (0, 0)),
  (46, .lstore 4, 2, .inl (0, 0)),
  (48, .lconst 0, 1, .inr (.inr (.inl 0))),
  (49, .lstore 6, 2, .inl (0, 0)),
  (51, .aload_n 0, 1, .inl (0, 0)),
  (52, .getfield 26, 3, .inl (1, 3)),
  (55, .bipush 10, 2, .inr (.inl 10)),
  (57, .if_icmp .ge 21, 3, .inl (78, 0)),
  (60, .bipush 10, 2, .inr (.inl 10)),
  (62, .aload_n 0, 1, .inl (0, 0)),
  (63, .getfield 26, 3, .inl (1, 3)),
  (66, .isub, 1, .inl (0, 0)),
  (67, .i2l, 1, .inl (0, 0)),
  (68, .aload_n 0, 1, .inl (0, 0)),
  (69, .aload_n 1, 1, .inl (0, 0)),
  (70, .iload_n 2, 1, .inl (0, 0)),
  (71, .iload_n 3, 1, .inl (0, 0)),
  (72, .invokestatic 38, 3, .inr (.inr (.inr yX0_afterWeather))),
  (75, .lmul, 1, .inl (0, 0)),
  (76, .lstore 6, 2, .inl (0, 0)),
  (78, .lload 4, 2, .inl (0, 0)),
  (80, .lload 6, 2, .inl (0, 0)),
  (82, .ladd, 1, .inl (0, 0)),
  (83, .lreturn, 1, .inl (0, 0))]
def mX0_tenths : pm_M := (yX0_tenths, cX0_tenths, 8, (some .long), tX0_tenths)
theorem okX0_tenths : pm_ok mX0_tenths = true := by decide +kernel
def tX0_afterWeather : List pm_E := [(0, .aload_n 0, 1, .inl (0, 0)),
  (1, .aload_n 1, 1, .inl (0, 0)),
  (2, .iload_n 3, 1, .inl (0, 0)),
  (3, .invokevirtual 41, 3, .inr (.inr (.inr yX7_signAt))),
  (6, .aload_n 0, 1, .inl (0, 0)),
  (7, .iload_n 2, 1, .inl (0, 0)),
  (8, .invokevirtual 45, 3, .inr (.inr (.inr yX2_nextBed))),
  (11, .invokevirtual 48, 3, .inr (.inr (.inr yX2_pleases))),
  (14, .ifCond .ne 5, 3, .inl (19, 0)),
  (17, .lconst 0, 1, .inr (.inr (.inl 0))),
  (18, .lreturn, 1, .inl (0, 0)),
  (19, .aload_n 0, 1, .inl (0, 0)),
  (20, .aload_n 1, 1, .inl (0, 0)),
  (21, .aload_n 0, 1, .inl (0, 0)),
  (22, .iload_n 2, 1, .inl (0, 0)),
  (23, .invokevirtual 52, 3, .inr (.inr (.inr yX2_afterMorning))),
  (26, .iload_n 3, 1, .inl (0, 0)),
  (27, .iconst 1, 1, .inr (.inl 1)),
  (28, .iadd, 1, .inl (0, 0)),
  (29, .invokestatic 15, 3, .inr (.inr (.inr yX0_tenths))),
  (32, .lreturn, 1, .inl (0, 0))]
def mX0_afterWeather : pm_M := (yX0_afterWeather, cX0_afterWeather, 4, (some .long), tX0_afterWeather)
theorem okX0_afterWeather : pm_ok mX0_afterWeather = true := by decide +kernel
def tX0_allTenths : List pm_E := [(0, .lconst 1, 1, .inr (.inr (.inl 1))),
  (1, .lstore_n 1, 1, .inl (0, 0)),
  (2, .iconst 0, 1, .inr (.inl 0)),
  (3, .istore_n 3, 1, .inl (0, 0)),
  (4, .iload_n 3, 1, .inl (0, 0)),
  (5, .iload_n 0, 1, .inl (0, 0)),
  (6, .if_icmp .ge 21, 3, .inl (27, 0)),
  (9, .iload_n 3, 1, .inl (0, 0)),
  (10, .bipush 6, 2, .inr (.inl 6)),
  (12, .if_icmp .ge 15, 3, .inl (27, 0)),
  (15, .lload_n 1, 1, .inl (0, 0)),
  (16, .ldc2_w 55, 3, .inr (.inr (.inl 10))),
  (19, .lmul, 1, .inl (0, 0)),
  (20, .lstore_n 1, 1, .inl (0, 0)),
  (21, .iinc 3 1, 3, .inr (.inl 1)),
  (24, .goto (-20), 3, .inl (4, 0)),
  (27, .lload_n 1, 1, .inl (0, 0)),
  (28, .lreturn, 1, .inl (0, 0))]
def mX0_allTenths : pm_M := (yX0_allTenths, cX0_allTenths, 4, (some .long), tX0_allTenths)
theorem okX0_allTenths : pm_ok mX0_allTenths = true := by decide +kernel
def tX0_reduced : List pm_E := [(0, .lload_n 2, 1, .inl (0, 0)),
  (1, .lconst 1, 1, .inr (.inr (.inl 1))),
  (2, .lcmp, 1, .inl (0, 0)),
  (3, .ifCond .le 9, 3, .inl (12, 0)),
  (6, .lload_n 0, 1, .inl (0, 0)),
  (7, .lload_n 2, 1, .inl (0, 0)),
  (8, .ldiv, 1, .inl (0, 0)),
  (9, .goto 4, 3, .inl (13, 0)),
  (12, .lload_n 0, 1, .inl (0, 0)),
  (13, .lreturn, 1, .inl (0, 0))]
def mX0_reduced : pm_M := (yX0_reduced, cX0_reduced, 4, (some .long), tX0_reduced)
theorem okX0_reduced : pm_ok mX0_reduced = true := by decide +kernel
def tX0_commonDivisor : List pm_E := [(0, .lload_n 2, 1, .inl (0, 0)),
  (1, .lstore 4, 2, .inl (0, 0)),
  (3, .lload_n 0, 1, .inl (0, 0)),
  (4, .lstore 6, 2, .inl (0, 0)),
  (6, .iconst 0, 1, .inr (.inl 0)),
  (7, .istore 8, 2, .inl (0, 0)),
  (9, .iload 8, 2, .inl (0, 0)),
  (11, .bipush 100, 2, .inr (.inl 100)),
  (13, .if_icmp .ge 31, 3, .inl (44, 0)),
  (16, .lload 6, 2, .inl (0, 0)),
  (18, .lconst 0, 1, .inr (.inr (.inl 0))),
  (19, .lcmp, 1, .inl (0, 0)),
  (20, .ifCond .eq 24, 3, .inl (44, 0)),
  (23, .lload 4, 2, .inl (0, 0)),
  (25, .lload 6, 2, .inl (0, 0)),
  (27, .lrem, 1, .inl (0, 0)),
  (28, .lstore 9, 2, .inl (0, 0)),
  (30, .lload 6, 2, .inl (0, 0)),
  (32, .lstore 4, 2, .inl (0, 0)),
  (34, .lload 9, 2, .inl (0, 0)),
  (36, .lstore 6, 2, .inl (0, 0)),
  (38, .iinc 8 1, 3, .inr (.inl 1)),
  (41, .goto (-32), 3, .inl (9, 0)),
  (44, .lload 4, 2, .inl (0, 0)),
  (46, .lreturn, 1, .inl (0, 0))]
def mX0_commonDivisor : pm_M := (yX0_commonDivisor, cX0_commonDivisor, 11, (some .long), tX0_commonDivisor)
theorem okX0_commonDivisor : pm_ok mX0_commonDivisor = true := by decide +kernel
def tX1_init : List pm_E := [(0, .aload_n 0, 1, .inl (0, 0)),
  (1, .invokespecial 3, 3, .inr (.inr (.inr Lib.objectInit))),
  (4, .aload_n 0, 1, .inl (0, 0)),
  (5, .iconst 0, 1, .inr (.inl 0)),
  (6, .putfield 9, 3, .inl (0, 0)),
  (9, .aload_n 0, 1, .inl (0, 0)),
  (10, .iconst 0, 1, .inr (.inl 0)),
  (11, .putfield 15, 3, .inl (0, 1)),
  (14, .aload_n 0, 1, .inl (0, 0)),
  (15, .iconst 0, 1, .inr (.inl 0)),
  (16, .putfield 19, 3, .inl (0, 2)),
  (19, .aload_n 0, 1, .inl (0, 0)),
  (20, .iconst 4, 1, .inr (.inl 4)),
  (21, .newarray .int, 2, .inl (0, 0)),
  (23, .putfield 22, 3, .inl (0, 3)),
  (26, .aload_n 0, 1, .inl (0, 0)),
  (27, .iconst 4, 1, .inr (.inl 4)),
  (28, .newarray .int, 2, .inl (0, 0)),
  (30, .putfield 26, 3, .inl (0, 4)),
  (33, .return_, 1, .inl (0, 0))]
def mX1_init : pm_M := (yX1_init, cX1_init, 1, none, tX1_init)
theorem okX1_init : pm_ok mX1_init = true := by decide +kernel
def tX1_search : List pm_E := [(0, .aload_n 0, 1, .inl (0, 0)),
  (1, .iconst 1, 1, .inr (.inl 1)),
  (2, .putfield 9, 3, .inl (0, 0)),
  (5, .aload_n 0, 1, .inl (0, 0)),
  (6, .iconst 0, 1, .inr (.inl 0)),
  (7, .putfield 15, 3, .inl (0, 1)),
  (10, .aload_n 0, 1, .inl (0, 0)),
  (11, .aload_n 2, 1, .inl (0, 0)),
  (12, .bipush 63, 2, .inr (.inl 63)),
  (14, .invokevirtual 29, 3, .inr (.inr (.inr yX7_numberOf))),
  (17, .putfield 19, 3, .inl (0, 2)),
  (20, .aload_n 1, 1, .inl (0, 0)),
  (21, .aload_n 2, 1, .inl (0, 0)),
  (22, .bipush 46, 2, .inr (.inl 46)),
  (24, .invokevirtual 29, 3, .inr (.inr (.inr yX7_numberOf))),
  (27, .invokevirtual 35, 3, .inr (.inr (.inr yX2_sawNoMorningFrom))),
  (30, .ifCond .eq 16, 3, .inl (46, 0)),
  (33, .aload_n 0, 1, .inl (0, 0)),
  (34, .aload_n 1, 1, .inl (0, 0)),
  (35, .aload_n 2, 1, .inl (0, 0)),
  (36, .iconst 0, 1, .inr (.inl 0)),
  (37, .aload_n 1, 1, .inl (0, 0)),
  (38, .getfield 41, 3, .inl (1, 4)),
  (41, .iconst 0, 1, .inr (.inl 0)),
  (42, .iconst 0, 1, .inr (.inl 0)),
  (43, .invokevirtual 44, 3, .inr (.inr (.inr yX1_goOn))),
  (46, .return_, 1, .inl (0, 0))]
def mX1_search : pm_M := (yX1_search, cX1_search, 3, none, tX1_search)
theorem okX1_search : pm_ok mX1_search = true := by decide +kernel
def tX1_firstAt : List pm_E := [(0, .aload_n 0, 1, .inl (0, 0)),
  (1, .getfield 15, 3, .inl (0, 1)),
  (4, .ifCond .le 29, 3, .inl (33, 0)),
  (7, .iload_n 1, 1, .inl (0, 0)),
  (8, .ifCond .lt 25, 3, .inl (33, 0)),
  (11, .iload_n 1, 1, .inl (0, 0)),
  (12, .aload_n 0, 1, .inl (0, 0)),
  (13, .getfield 19, 3, .inl (0, 2)),
  (16, .if_icmp .ge 17, 3, .inl (33, 0)),
  (19, .iload_n 1, 1, .inl (0, 0)),
  (20, .iconst 4, 1, .inr (.inl 4)),
  (21, .if_icmp .ge 12, 3, .inl (33, 0)),
  (24, .aload_n 0, 1, .inl (0, 0)),
  (25, .getfield 22, 3, .inl (0, 3)),
  (28, .iload_n 1, 1, .inl (0, 0)),
  (29, .iaload, 1, .inl (0, 0)),
  (30, .goto 5, 3, .inl (35, 0)),
  (33, .bipush (-6), 2, .inr (.inl (-6))),
  (35, .ireturn, 1, .inl (0, 0))]
def mX1_firstAt : pm_M := (yX1_firstAt, cX1_firstAt, 2, (some .int), tX1_firstAt)
theorem okX1_firstAt : pm_ok mX1_firstAt = true := by decide +kernel
def tX1_goOn : List pm_E := [(0, .iload 4, 2, .inl (0, 0)),
  (2, .istore 7, 2, .inl (0, 0)),
  (4, .iload 5, 2, .inl (0, 0)),
  (6, .istore 8, 2, .inl (0, 0)),
  (8, .iload_n 3, 1, .inl (0, 0)),
  (9, .istore 9, 2, .inl (0, 0)),
  (11, .iload 9, 2, .inl (0, 0)),
  (13, .aload_n 2, 1, .inl (0, 0)),
  (14, .getfield 48, 3, .inl (3, 0)),
  (17, .if_icmp .ge 87, 3, .inl (104, 0)),
  (20, .aload_n 2, 1, .inl (0, 0)),
  (21, .iload 9, 2, .inl (0, 0)),
  (23, .invokevirtual 51, 3, .inr (.inr (.inr yX7_signAt))),
  (26, .istore 10, 2, .inl (0, 0)),
  (28, .iload 10, 2, .inl (0, 0)),
  (30, .bipush 63, 2, .inr (.inl 63)),
  (32, .if_icmp .ne 18, 3, .inl (50, 0)),
  (35, .aload_n 0, 1, .inl (0, 0)),
  (36, .aload_n 1, 1, .inl (0, 0)),
  (37, .aload_n 2, 1, .inl (0, 0)),
  (38, .iload 9, 2, .inl (0, 0)),
  (40, .iload 7, 2, .inl (0, 0)),
  (42, .iload 8, 2, .inl (0, 0)),
  (44, .iload 6, 2, .inl (0, 0)),
  (46, .invokevirtual 54, 3, .inr (.inr (.inr yX1_tryBeds))),
  (49, .return_, 1, .inl (0, 0)),
  (50, .aload_n 1, 1, .inl (0, 0)),
  (51, .iload 7, 2, .inl (0, 0)),
  (53, .iload 10, 2, .inl (0, 0)),
  (55, .invokevirtual 57, 3, .inr (.inr (.inr yX2_whyNot))),
  (58, .ifCond .eq 4, 3, .inl (62, 0)),
  (61, .return_, 1, .inl (0, 0)),
  (62, .iload 10, 2, .inl (0, 0)),
  (64, .bipush 46, 2, .inr (.inl 46)),
  (66, .if_icmp .ne 22, 3, .inl (88, 0)),
  (69, .aload_n 1, 1, .inl (0, 0)),
  (70, .iload 8, 2, .inl (0, 0)),
  (72, .aload_n 1, 1, .inl (0, 0)),
  (73, .iload 7, 2, .inl (0, 0)),
  (75, .invokevirtual 61, 3, .inr (.inr (.inr yX2_nextBed))),
  (78, .invokevirtual 64, 3, .inr (.inr (.inr yX2_isAsSeen))),
  (81, .ifCond .ne 4, 3, .inl (85, 0)),
  (84, .return_, 1, .inl (0, 0)),
  (85, .iinc 8 1, 3, .inr (.inl 1)),
  (88, .aload_n 1, 1, .inl (0, 0)),
  (89, .iload 7, 2, .inl (0, 0)),
  (91, .iload 10, 2, .inl (0, 0)),
  (93, .invokevirtual 68, 3, .inr (.inr (.inr yX2_after))),
  (96, .istore 7, 2, .inl (0, 0)),
  (98, .iinc 9 1, 3, .inr (.inl 1)),
  (101, .goto (-90), 3, .inl (11, 0)),
  (104, .aload_n 0, 1, .inl (0, 0)),
  (105, .invokevirtual 71, 3, .inr (.inr (.inr yX1_keepWay))),
  (108, .return_, 1, .inl (0, 0))]
def mX1_goOn : pm_M := (yX1_goOn, cX1_goOn, 11, none, tX1_goOn)
theorem okX1_goOn : pm_ok mX1_goOn = true := by decide +kernel
def tX1_tryBeds : List pm_E := [(0, .iload 6, 2, .inl (0, 0)),
  (2, .ifCond .lt 9, 3, .inl (11, 0)),
  (5, .iload 6, 2, .inl (0, 0)),
  (7, .iconst 4, 1, .inr (.inl 4)),
  (8, .if_icmp .lt 4, 3, .inl (12, 0)),
  (11, .return_, 1, .inl (0, 0)),
  (12, .iconst 0, 1, .inr (.inl 0)),
  (13, .istore 7, 2, .inl (0, 0)),
  (15, .iload 7, 2, .inl (0, 0)),
  (17, .aload_n 1, 1, .inl (0, 0)),
  (18, .getfield 74, 3, .inl (1, 0)),
  (21, .if_icmp .ge 51, 3, .inl (72, 0)),
  (24, .aload_n 1, 1, .inl (0, 0)),
  (25, .iload 4, 2, .inl (0, 0)),
  (27, .iload 7, 2, .inl (0, 0)),
  (29, .invokevirtual 77, 3, .inr (.inr (.inr yX2_whyNotWater))),
  (32, .ifCond .ne 34, 3, .inl (66, 0)),
  (35, .aload_n 0, 1, .inl (0, 0)),
  (36, .getfield 26, 3, .inl (0, 4)),
  (39, .iload 6, 2, .inl (0, 0)),
  (41, .iload 7, 2, .inl (0, 0)),
  (43, .iastore, 1, .inl (0, 0)),
  (44, .aload_n 0, 1, .inl (0, 0)),
  (45, .aload_n 1, 1, .inl (0, 0)),
  (46, .aload_n 2, 1, .inl (0, 0)),
  (47, .iload_n 3, 1, .inl (0, 0)),
  (48, .iconst 1, 1, .inr (.inl 1)),
  (49, .iadd, 1, .inl (0, 0)),
  (50, .iload 4, 2, .inl (0, 0)),
  (52, .iload 7, 2, .inl (0, 0)),
  (54, .invokestatic 80, 3, .inr (.inr (.inr yX8_watered))),
  (57, .iload 5, 2, .inl (0, 0)),
  (59, .iload 6, 2, .inl (0, 0)),
  (61, .iconst 1, 1, .inr (.inl 1)),
  (62, .iadd, 1, .inl (0, 0)),
  (63, .invokevirtual 44, 3, .inr (.inr (.inr yX1_goOn))),
  (66, .iinc 7 1, 3, .inr (.inl 1)),
  (69, .goto (-54), 3, .inl (15, 0)),
  (72, .return_, 1, .inl (0, 0))]
def mX1_tryBeds : pm_M := (yX1_tryBeds, cX1_tryBeds, 8, none, tX1_tryBeds)
theorem okX1_tryBeds : pm_ok mX1_tryBeds = true := by decide +kernel
def tX1_keepWay : List pm_E := [(0, .aload_n 0, 1, .inl (0, 0)),
  (1, .getfield 15, 3, .inl (0, 1)),
  (4, .ifCond .ne 17, 3, .inl (21, 0)),
  (7, .aload_n 0, 1, .inl (0, 0)),
  (8, .getfield 26, 3, .inl (0, 4)),
  (11, .iconst 0, 1, .inr (.inl 0)),
  (12, .aload_n 0, 1, .inl (0, 0)),
  (13, .getfield 22, 3, .inl (0, 3)),
  (16, .iconst 0, 1, .inr (.inl 0)),
  (17, .iconst 4, 1, .inr (.inl 4)),
  (18, .invokestatic 85, 3, .inr (.inr (.inr arraycopyName))),
  (21, .aload_n 0, 1, .inl (0, 0)),
  (22, .dup, 1, .inl (0, 0)),
  (23, .getfield 15, 3, .inl (0, 1)),
  (26, .iconst 1, 1, .inr (.inl 1)),
  (27, .iadd, 1, .inl (0, 0)),
  (28, .putfield 15, 3, .inl (0, 1)),
  (31, .return_, 1, .inl (0, 0))]
def mX1_keepWay : pm_M := (yX1_keepWay, cX1_keepWay, 1, none, tX1_keepWay)
theorem okX1_keepWay : pm_ok mX1_keepWay = true := by decide +kernel
def tX2_init : List pm_E := [(0, .aload_n 0, 1, .inl (0, 0)),
  (1, .invokespecial 3, 3, .inr (.inr (.inr Lib.objectInit))),
  (4, .aload_n 0, 1, .inl (0, 0)),
  (5, .bipush 6, 2, .inr (.inl 6)),
  (7, .putfield 9, 3, .inl (1, 0)),
  (10, .aload_n 0, 1, .inl (0, 0)),
  (11, .iconst 0, 1, .inr (.inl 0)),
  (12, .putfield 15, 3, .inl (1, 1)),
  (15, .aload_n 0, 1, .inl (0, 0)),
  (16, .bipush 6, 2, .inr (.inl 6)),
  (18, .putfield 18, 3, .inl (1, 2)),
  (21, .aload_n 0, 1, .inl (0, 0)),
  (22, .iconst 3, 1, .inr (.inl 3)),
  (23, .putfield 21, 3, .inl (1, 3)),
  (26, .aload_n 0, 1, .inl (0, 0)),
  (27, .iconst 0, 1, .inr (.inl 0)),
  (28, .putfield 26, 3, .inl (1, 4)),
  (31, .aload_n 0, 1, .inl (0, 0)),
  (32, .iconst 0, 1, .inr (.inl 0)),
  (33, .putfield 29, 3, .inl (1, 5)),
  (36, .aload_n 0, 1, .inl (0, 0)),
  (37, .bipush 6, 2, .inr (.inl 6)),
  (39, .newarray .int, 2, .inl (0, 0)),
  (41, .putfield 32, 3, .inl (1, 6)),
  (44, .aload_n 0, 1, .inl (0, 0)),
  (45, .bipush 6, 2, .inr (.inl 6)),
  (47, .newarray .int, 2, .inl (0, 0)),
  (49, .dup, 1, .inl (0, 0)),
  (50, .iconst 0, 1, .inr (.inl 0)),
  (51, .iconst (-1), 1, .inr (.inl (-1))),
  (52, .iastore, 1, .inl (0, 0)),
  (53, .dup, 1, .inl (0, 0)),
  (54, .iconst 1, 1, .inr (.inl 1)),
  (55, .iconst (-1), 1, .inr (.inl (-1))),
  (56, .iastore, 1, .inl (0, 0)),
  (57, .dup, 1, .inl (0, 0)),
  (58, .iconst 2, 1, .inr (.inl 2)),
  (59, .iconst (-1), 1, .inr (.inl (-1))),
  (60, .iastore, 1, .inl (0, 0)),
  (61, .dup, 1, .inl (0, 0)),
  (62, .iconst 3, 1, .inr (.inl 3)),
  (63, .iconst (-1), 1, .inr (.inl (-1))),
  (64, .iastore, 1, .inl (0, 0)),
  (65, .dup, 1, .inl (0, 0)),
  (66, .iconst 4, 1, .inr (.inl 4)),
  (67, .iconst (-1), 1, .inr (.inl (-1))),
  (68, .iastore, 1, .inl (0, 0)),
  (69, .dup, 1, .inl (0, 0)),
  (70, .iconst 5, 1, .inr (.inl 5)),
  (71, .iconst (-1), 1, .inr (.inl (-1))),
  (72, .iastore, 1, .inl (0, 0)),
  (73, .putfield 36, 3, .inl (1, 7)),
  (76, .aload_n 0, 1, .inl (0, 0)),
  (77, .bipush 6, 2, .inr (.inl 6)),
  (79, .newarray .int, 2, .inl (0, 0)),
  (81, .putfield 39, 3, .inl (1, 8)),
  (84, .aload_n 0, 1, .inl (0, 0)),
  (85, .bipush 6, 2, .inr (.inl 6)),
  (87, .newarray .int, 2, .inl (0, 0)),
  (89, .putfield 42, 3, .inl (1, 9)),
  (92, .aload_n 0, 1, .inl (0, 0)),
  (93, .bipush 6, 2, .inr (.inl 6)),
  (95, .newarray .int, 2, .inl (0, 0)),
  (97, .putfield 45, 3, .inl (1, 10)),
  (100, .return_, 1, .inl (0, 0))]
def mX2_init : pm_M := (yX2_init, cX2_init, 1, none, tX2_init)
theorem okX2_init : pm_ok mX2_init = true := by decide +kernel
def tX2_layOut : List pm_E := [(0, .aload_n 0, 1, .inl (0, 0)),
  (1, .iload_n 1, 1, .inl (0, 0)),
  (2, .putfield 9, 3, .inl (1, 0)),
  (5, .aload_n 0, 1, .inl (0, 0)),
  (6, .iconst 0, 1, .inr (.inl 0)),
  (7, .putfield 26, 3, .inl (1, 4)),
  (10, .aload_n 0, 1, .inl (0, 0)),
  (11, .iconst 0, 1, .inr (.inl 0)),
  (12, .putfield 29, 3, .inl (1, 5)),
  (15, .aload_n 0, 1, .inl (0, 0)),
  (16, .getfield 32, 3, .inl (1, 6)),
  (19, .iconst 0, 1, .inr (.inl 0)),
  (20, .invokestatic 48, 3, .inr (.inr (.inr yJ7_fill_53178))),
  (23, .aload_n 0, 1, .inl (0, 0)),
  (24, .getfield 36, 3, .inl (1, 7)),
  (27, .iconst (-1), 1, .inr (.inl (-1))),
  (28, .invokestatic 48, 3, .inr (.inr (.inr yJ7_fill_53178))),
  (31, .return_, 1, .inl (0, 0))]
def mX2_layOut : pm_M := (yX2_layOut, cX2_layOut, 2, none, tX2_layOut)
theorem okX2_layOut : pm_ok mX2_layOut = true := by decide +kernel
def tX2_copyFrom : List pm_E := [(0, .aload_n 0, 1, .inl (0, 0)),
  (1, .aload_n 1, 1, .inl (0, 0)),
  (2, .getfield 9, 3, .inl (1, 0)),
  (5, .putfield 9, 3, .inl (1, 0)),
  (8, .aload_n 0, 1, .inl (0, 0)),
  (9, .aload_n 1, 1, .inl (0, 0)),
  (10, .getfield 15, 3, .inl (1, 1)),
  (13, .putfield 15, 3, .inl (1, 1)),
  (16, .aload_n 0, 1, .inl (0, 0)),
  (17, .aload_n 1, 1, .inl (0, 0)),
  (18, .getfield 18, 3, .inl (1, 2)),
  (21, .putfield 18, 3, .inl (1, 2)),
  (24, .aload_n 0, 1, .inl (0, 0)),
  (25, .aload_n 1, 1, .inl (0, 0)),
  (26, .getfield 21, 3, .inl (1, 3)),
  (29, .putfield 21, 3, .inl (1, 3)),
  (32, .aload_n 0, 1, .inl (0, 0)),
  (33, .aload_n 1, 1, .inl (0, 0)),
  (34, .getfield 26, 3, .inl (1, 4)),
  (37, .putfield 26, 3, .inl (1, 4)),
  (40, .aload_n 0, 1, .inl (0, 0)),
  (41, .aload_n 1, 1, .inl (0, 0)),
  (42, .getfield 29, 3, .inl (1, 5)),
  (45, .putfield 29, 3, .inl (1, 5)),
  (48, .iconst 0, 1, .inr (.inl 0)),
  (49, .istore_n 2, 1, .inl (0, 0)),
  (50, .iload_n 2, 1, .inl (0, 0)),
  (51, .bipush 6, 2, .inr (.inl 6)),
  (53, .if_icmp .ge 45, 3, .inl (98, 0)),
  (56, .aload_n 0, 1, .inl (0, 0)),
  (57, .getfield 32, 3, .inl (1, 6)),
  (60, .iload_n 2, 1, .inl (0, 0)),
  (61, .aload_n 1, 1, .inl (0, 0)),
  (62, .getfield 32, 3, .inl (1, 6)),
  (65, .iload_n 2, 1, .inl (0, 0)),
  (66, .iaload, 1, .inl (0, 0)),
  (67, .iastore, 1, .inl (0, 0)),
  (68, .aload_n 0, 1, .inl (0, 0)),
  (69, .getfield 36, 3, .inl (1, 7)),
  (72, .iload_n 2, 1, .inl (0, 0)),
  (73, .aload_n 1, 1, .inl (0, 0)),
  (74, .getfield 36, 3, .inl (1, 7)),
  (77, .iload_n 2, 1, .inl (0, 0)),
  (78, .iaload, 1, .inl (0, 0)),
  (79, .iastore, 1, .inl (0, 0)),
  (80, .aload_n 0, 1, .inl (0, 0)),
  (81, .getfield 39, 3, .inl (1, 8)),
  (84, .iload_n 2, 1, .inl (0, 0)),
  (85, .aload_n 1, 1, .inl (0, 0)),
  (86, .getfield 39, 3, .inl (1, 8)),
  (89, .iload_n 2, 1, .inl (0, 0)),
  (90, .iaload, 1, .inl (0, 0)),
  (91, .iastore, 1, .inl (0, 0)),
  (92, .iinc 2 1, 3, .inr (.inl 1)),
  (95, .goto (-45), 3, .inl (50, 0)),
  (98, .iconst 0, 1, .inr (.inl 0)),
  (99, .istore_n 2, 1, .inl (0, 0)),
  (100, .iload_n 2, 1, .inl (0, 0)),
  (101, .bipush 6, 2, .inr (.inl 6)),
  (103, .if_icmp .ge 33, 3, .inl (136, 0)),
  (106, .aload_n 0, 1, .inl (0, 0)),
  (107, .getfield 42, 3, .inl (1, 9)),
  (110, .iload_n 2, 1, .inl (0, 0)),
  (111, .aload_n 1, 1, .inl (0, 0)),
  (112, .getfield 42, 3, .inl (1, 9)),
  (115, .iload_n 2, 1, .inl (0, 0)),
  (116, .iaload, 1, .inl (0, 0)),
  (117, .iastore, 1, .inl (0, 0)),
  (118, .aload_n 0, 1, .inl (0, 0)),
  (119, .getfield 45, 3, .inl (1, 10)),
  (122, .iload_n 2, 1, .inl (0, 0)),
  (123, .aload_n 1, 1, .inl (0, 0)),
  (124, .getfield 45, 3, .inl (1, 10)),
  (127, .iload_n 2, 1, .inl (0, 0)),
  (128, .iaload, 1, .inl (0, 0)),
  (129, .iastore, 1, .inl (0, 0)),
  (130, .iinc 2 1, 3, .inr (.inl 1)),
  (133, .goto (-33), 3, .inl (100, 0)),
  (136, .return_, 1, .inl (0, 0))]
def mX2_copyFrom : pm_M := (yX2_copyFrom, cX2_copyFrom, 3, none, tX2_copyFrom)
theorem okX2_copyFrom : pm_ok mX2_copyFrom = true := by decide +kernel
def tX2_isBed : List pm_E := [(0, .iload_n 1, 1, .inl (0, 0)),
  (1, .ifCond .lt 21, 3, .inl (22, 0)),
  (4, .iload_n 1, 1, .inl (0, 0)),
  (5, .aload_n 0, 1, .inl (0, 0)),
  (6, .getfield 9, 3, .inl (1, 0)),
  (9, .if_icmp .ge 13, 3, .inl (22, 0)),
  (12, .iload_n 1, 1, .inl (0, 0)),
  (13, .bipush 6, 2, .inr (.inl 6)),
  (15, .if_icmp .ge 7, 3, .inl (22, 0)),
  (18, .iconst 1, 1, .inr (.inl 1)),
  (19, .goto 4, 3, .inl (23, 0)),
  (22, .iconst 0, 1, .inr (.inl 0)),
  (23, .ireturn, 1, .inl (0, 0))]
def mX2_isBed : pm_M := (yX2_isBed, cX2_isBed, 2, (some .boolean), tX2_isBed)
theorem okX2_isBed : pm_ok mX2_isBed = true := by decide +kernel
def tX2_pastOf : List pm_E := [(0, .aload_n 0, 1, .inl (0, 0)),
  (1, .iload_n 1, 1, .inl (0, 0)),
  (2, .invokevirtual 54, 3, .inr (.inr (.inr yX2_isBed))),
  (5, .ifCond .eq 22, 3, .inl (27, 0)),
  (8, .aload_n 0, 1, .inl (0, 0)),
  (9, .getfield 36, 3, .inl (1, 7)),
  (12, .iload_n 1, 1, .inl (0, 0)),
  (13, .iaload, 1, .inl (0, 0)),
  (14, .iconst (-1), 1, .inr (.inl (-1))),
  (15, .if_icmp .eq 12, 3, .inl (27, 0)),
  (18, .aload_n 0, 1, .inl (0, 0)),
  (19, .getfield 36, 3, .inl (1, 7)),
  (22, .iload_n 1, 1, .inl (0, 0)),
  (23, .iaload, 1, .inl (0, 0)),
  (24, .goto 5, 3, .inl (29, 0)),
  (27, .bipush (-6), 2, .inr (.inl (-6))),
  (29, .ireturn, 1, .inl (0, 0))]
def mX2_pastOf : pm_M := (yX2_pastOf, cX2_pastOf, 2, (some .int), tX2_pastOf)
theorem okX2_pastOf : pm_ok mX2_pastOf = true := by decide +kernel
def tX2_isReachedPast : List pm_E := [(0, .iload_n 1, 1, .inl (0, 0)),
  (1, .istore_n 3, 1, .inl (0, 0)),
  (2, .iconst 0, 1, .inr (.inl 0)),
  (3, .istore 4, 2, .inl (0, 0)),
  (5, .iload 4, 2, .inl (0, 0)),
  (7, .bipush 6, 2, .inr (.inl 6)),
  (9, .if_icmp .ge 31, 3, .inl (40, 0)),
  (12, .aload_n 0, 1, .inl (0, 0)),
  (13, .iload_n 3, 1, .inl (0, 0)),
  (14, .invokevirtual 54, 3, .inr (.inr (.inr yX2_isBed))),
  (17, .ifCond .eq 23, 3, .inl (40, 0)),
  (20, .aload_n 0, 1, .inl (0, 0)),
  (21, .getfield 36, 3, .inl (1, 7)),
  (24, .iload_n 3, 1, .inl (0, 0)),
  (25, .iaload, 1, .inl (0, 0)),
  (26, .istore_n 3, 1, .inl (0, 0)),
  (27, .iload_n 3, 1, .inl (0, 0)),
  (28, .iload_n 2, 1, .inl (0, 0)),
  (29, .if_icmp .ne 5, 3, .inl (34, 0)),
  (32, .iconst 1, 1, .inr (.inl 1)),
  (33, .ireturn, 1, .inl (0, 0)),
  (34, .iinc 4 1, 3, .inr (.inl 1)),
  (37, .goto (-32), 3, .inl (5, 0)),
  (40, .iconst 0, 1, .inr (.inl 0)),
  (41, .ireturn, 1, .inl (0, 0))]
def mX2_isReachedPast : pm_M := (yX2_isReachedPast, cX2_isReachedPast, 5, (some .boolean), tX2_isReachedPast)
theorem okX2_isReachedPast : pm_ok mX2_isReachedPast = true := by decide +kernel
def tX2_whyNot : List pm_E := [(0, .iload_n 2, 1, .inl (0, 0)),
  (1, .bipush 42, 2, .inr (.inl 42)),
  (3, .if_icmp .ne 5, 3, .inl (8, 0)),
  (6, .iconst 0, 1, .inr (.inl 0)),
  (7, .ireturn, 1, .inl (0, 0)),
  (8, .iload_n 2, 1, .inl (0, 0)),
  (9, .bipush 46, 2, .inr (.inl 46)),
  (11, .if_icmp .ne 16, 3, .inl (27, 0)),
  (14, .iload_n 1, 1, .inl (0, 0)),
  (15, .invokestatic 58, 3, .inr (.inr (.inr yX8_length))),
  (18, .ifCond .ne 7, 3, .inl (25, 0)),
  (21, .iconst 4, 1, .inr (.inl 4)),
  (22, .goto 4, 3, .inl (26, 0)),
  (25, .iconst 0, 1, .inr (.inl 0)),
  (26, .ireturn, 1, .inl (0, 0)),
  (27, .aload_n 0, 1, .inl (0, 0)),
  (28, .iload_n 1, 1, .inl (0, 0)),
  (29, .iload_n 2, 1, .inl (0, 0)),
  (30, .bipush 97, 2, .inr (.inl 97)),
  (32, .isub, 1, .inl (0, 0)),
  (33, .invokevirtual 62, 3, .inr (.inr (.inr yX2_whyNotWater))),
  (36, .ireturn, 1, .inl (0, 0))]
def mX2_whyNot : pm_M := (yX2_whyNot, cX2_whyNot, 3, (some .int), tX2_whyNot)
theorem okX2_whyNot : pm_ok mX2_whyNot = true := by decide +kernel
def tX2_whyNotWater : List pm_E := [(0, .iload_n 1, 1, .inl (0, 0)),
  (1, .iload_n 2, 1, .inl (0, 0)),
  (2, .invokestatic 66, 3, .inr (.inr (.inr yX8_hasBloomed))),
  (5, .ifCond .eq 5, 3, .inl (10, 0)),
  (8, .iconst 1, 1, .inr (.inl 1)),
  (9, .ireturn, 1, .inl (0, 0)),
  (10, .iload_n 1, 1, .inl (0, 0)),
  (11, .iload_n 2, 1, .inl (0, 0)),
  (12, .invokestatic 70, 3, .inr (.inr (.inr yX8_isInRow))),
  (15, .ifCond .ne 16, 3, .inl (31, 0)),
  (18, .iload_n 1, 1, .inl (0, 0)),
  (19, .invokestatic 58, 3, .inr (.inr (.inr yX8_length))),
  (22, .aload_n 0, 1, .inl (0, 0)),
  (23, .getfield 18, 3, .inl (1, 2)),
  (26, .if_icmp .lt 5, 3, .inl (31, 0)),
  (29, .iconst 2, 1, .inr (.inl 2)),
  (30, .ireturn, 1, .inl (0, 0)),
  (31, .aload_n 0, 1, .inl (0, 0)),
  (32, .iload_n 2, 1, .inl (0, 0)),
  (33, .invokevirtual 73, 3, .inr (.inr (.inr yX2_pastOf))),
  (36, .istore_n 3, 1, .inl (0, 0)),
  (37, .iload_n 3, 1, .inl (0, 0)),
  (38, .bipush (-6), 2, .inr (.inl (-6))),
  (40, .if_icmp .eq 19, 3, .inl (59, 0)),
  (43, .iload_n 1, 1, .inl (0, 0)),
  (44, .iload_n 3, 1, .inl (0, 0)),
  (45, .invokestatic 70, 3, .inr (.inr (.inr yX8_isInRow))),
  (48, .ifCond .ne 11, 3, .inl (59, 0)),
  (51, .iload_n 1, 1, .inl (0, 0)),
  (52, .iload_n 3, 1, .inl (0, 0)),
  (53, .invokestatic 66, 3, .inr (.inr (.inr yX8_hasBloomed))),
  (56, .ifCond .eq 7, 3, .inl (63, 0)),
  (59, .iconst 0, 1, .inr (.inl 0)),
  (60, .goto 4, 3, .inl (64, 0)),
  (63, .iconst 3, 1, .inr (.inl 3)),
  (64, .ireturn, 1, .inl (0, 0))]
def mX2_whyNotWater : pm_M := (yX2_whyNotWater, cX2_whyNotWater, 4, (some .int), tX2_whyNotWater)
theorem okX2_whyNotWater : pm_ok mX2_whyNotWater = true := by decide +kernel
def tX2_after : List pm_E := [(0, .iload_n 2, 1, .inl (0, 0)),
  (1, .bipush 42, 2, .inr (.inl 42)),
  (3, .if_icmp .ne 12, 3, .inl (15, 0)),
  (6, .iload_n 1, 1, .inl (0, 0)),
  (7, .aload_n 0, 1, .inl (0, 0)),
  (8, .getfield 9, 3, .inl (1, 0)),
  (11, .invokestatic 76, 3, .inr (.inr (.inr yX8_rained))),
  (14, .ireturn, 1, .inl (0, 0)),
  (15, .iload_n 2, 1, .inl (0, 0)),
  (16, .bipush 46, 2, .inr (.inl 46)),
  (18, .if_icmp .ne 11, 3, .inl (29, 0)),
  (21, .aload_n 0, 1, .inl (0, 0)),
  (22, .iload_n 1, 1, .inl (0, 0)),
  (23, .invokevirtual 79, 3, .inr (.inr (.inr yX2_afterMorning))),
  (26, .goto 11, 3, .inl (37, 0)),
  (29, .iload_n 1, 1, .inl (0, 0)),
  (30, .iload_n 2, 1, .inl (0, 0)),
  (31, .bipush 97, 2, .inr (.inl 97)),
  (33, .isub, 1, .inl (0, 0)),
  (34, .invokestatic 82, 3, .inr (.inr (.inr yX8_watered))),
  (37, .ireturn, 1, .inl (0, 0))]
def mX2_after : pm_M := (yX2_after, cX2_after, 3, (some .int), tX2_after)
theorem okX2_after : pm_ok mX2_after = true := by decide +kernel
def tX2_afterMorning : List pm_E := [(0, .iload_n 1, 1, .inl (0, 0)),
  (1, .invokestatic 58, 3, .inr (.inr (.inr yX8_length))),
  (4, .ifCond .ne 7, 3, .inl (11, 0)),
  (7, .iload_n 1, 1, .inl (0, 0)),
  (8, .goto 12, 3, .inl (20, 0)),
  (11, .iload_n 1, 1, .inl (0, 0)),
  (12, .aload_n 0, 1, .inl (0, 0)),
  (13, .iload_n 1, 1, .inl (0, 0)),
  (14, .invokevirtual 85, 3, .inr (.inr (.inr yX2_nextPlace))),
  (17, .invokestatic 88, 3, .inr (.inr (.inr yX8_afterBloom))),
  (20, .ireturn, 1, .inl (0, 0))]
def mX2_afterMorning : pm_M := (yX2_afterMorning, cX2_afterMorning, 2, (some .int), tX2_afterMorning)
theorem okX2_afterMorning : pm_ok mX2_afterMorning = true := by decide +kernel
def tX2_nextBed : List pm_E := [(0, .iload_n 1, 1, .inl (0, 0)),
  (1, .invokestatic 58, 3, .inr (.inr (.inr yX8_length))),
  (4, .ifCond .ne 8, 3, .inl (12, 0)),
  (7, .bipush (-6), 2, .inr (.inl (-6))),
  (9, .goto 12, 3, .inl (21, 0)),
  (12, .iload_n 1, 1, .inl (0, 0)),
  (13, .aload_n 0, 1, .inl (0, 0)),
  (14, .iload_n 1, 1, .inl (0, 0)),
  (15, .invokevirtual 85, 3, .inr (.inr (.inr yX2_nextPlace))),
  (18, .invokestatic 91, 3, .inr (.inr (.inr yX8_bedAt))),
  (21, .ireturn, 1, .inl (0, 0))]
def mX2_nextBed : pm_M := (yX2_nextBed, cX2_nextBed, 2, (some .int), tX2_nextBed)
theorem okX2_nextBed : pm_ok mX2_nextBed = true := by decide +kernel
def tX2_nextPlace : List pm_E := [(0, .aload_n 0, 1, .inl (0, 0)),
  (1, .getfield 15, 3, .inl (1, 1)),
  (4, .iconst 1, 1, .inr (.inl 1)),
  (5, .if_icmp .ne 5, 3, .inl (10, 0)),
  (8, .iconst 0, 1, .inr (.inl 0)),
  (9, .ireturn, 1, .inl (0, 0)),
  (10, .aload_n 0, 1, .inl (0, 0)),
  (11, .getfield 15, 3, .inl (1, 1)),
  (14, .ifCond .ne 7, 3, .inl (21, 0)),
  (17, .iconst 1, 1, .inr (.inl 1)),
  (18, .goto 4, 3, .inl (22, 0)),
  (21, .iconst 3, 1, .inr (.inl 3)),
  (22, .istore_n 2, 1, .inl (0, 0)),
  (23, .iconst 0, 1, .inr (.inl 0)),
  (24, .iload_n 1, 1, .inl (0, 0)),
  (25, .invokestatic 58, 3, .inr (.inr (.inr yX8_length))),
  (28, .iload_n 2, 1, .inl (0, 0)),
  (29, .isub, 1, .inl (0, 0)),
  (30, .invokestatic 94, 3, .inr (.inr (.inr yJ9_max_7cf53))),
  (33, .ireturn, 1, .inl (0, 0))]
def mX2_nextPlace : pm_M := (yX2_nextPlace, cX2_nextPlace, 3, (some .int), tX2_nextPlace)
theorem okX2_nextPlace : pm_ok mX2_nextPlace = true := by decide +kernel
def tX2_firstImpossible : List pm_E := [(0, .aload_n 0, 1, .inl (0, 0)),
  (1, .getfield 26, 3, .inl (1, 4)),
  (4, .istore_n 2, 1, .inl (0, 0)),
  (5, .iconst 0, 1, .inr (.inl 0)),
  (6, .istore_n 3, 1, .inl (0, 0)),
  (7, .iload_n 3, 1, .inl (0, 0)),
  (8, .aload_n 1, 1, .inl (0, 0)),
  (9, .getfield 99, 3, .inl (3, 0)),
  (12, .if_icmp .ge 36, 3, .inl (48, 0)),
  (15, .aload_n 1, 1, .inl (0, 0)),
  (16, .iload_n 3, 1, .inl (0, 0)),
  (17, .invokevirtual 104, 3, .inr (.inr (.inr yX7_signAt))),
  (20, .istore 4, 2, .inl (0, 0)),
  (22, .aload_n 0, 1, .inl (0, 0)),
  (23, .iload_n 2, 1, .inl (0, 0)),
  (24, .iload 4, 2, .inl (0, 0)),
  (26, .invokevirtual 107, 3, .inr (.inr (.inr yX2_whyNot))),
  (29, .ifCond .eq 5, 3, .inl (34, 0)),
  (32, .iload_n 3, 1, .inl (0, 0)),
  (33, .ireturn, 1, .inl (0, 0)),
  (34, .aload_n 0, 1, .inl (0, 0)),
  (35, .iload_n 2, 1, .inl (0, 0)),
  (36, .iload 4, 2, .inl (0, 0)),
  (38, .invokevirtual 110, 3, .inr (.inr (.inr yX2_after))),
  (41, .istore_n 2, 1, .inl (0, 0)),
  (42, .iinc 3 1, 3, .inr (.inl 1)),
  (45, .goto (-38), 3, .inl (7, 0)),
  (48, .bipush (-6), 2, .inr (.inl (-6))),
  (50, .ireturn, 1, .inl (0, 0))]
def mX2_firstImpossible : pm_M := (yX2_firstImpossible, cX2_firstImpossible, 5, (some .int), tX2_firstImpossible)
theorem okX2_firstImpossible : pm_ok mX2_firstImpossible = true := by decide +kernel
def tX2_whyImpossible : List pm_E := [(0, .aload_n 0, 1, .inl (0, 0)),
  (1, .aload_n 1, 1, .inl (0, 0)),
  (2, .invokevirtual 113, 3, .inr (.inr (.inr yX2_firstImpossible))),
  (5, .istore_n 2, 1, .inl (0, 0)),
  (6, .aload_n 0, 1, .inl (0, 0)),
  (7, .getfield 26, 3, .inl (1, 4)),
  (10, .istore_n 3, 1, .inl (0, 0)),
  (11, .iconst 0, 1, .inr (.inl 0)),
  (12, .istore 4, 2, .inl (0, 0)),
  (14, .iload 4, 2, .inl (0, 0)),
  (16, .iload_n 2, 1, .inl (0, 0)),
  (17, .if_icmp .ge 21, 3, .inl (38, 0)),
  (20, .aload_n 0, 1, .inl (0, 0)),
  (21, .iload_n 3, 1, .inl (0, 0)),
  (22, .aload_n 1, 1, .inl (0, 0)),
  (23, .iload 4, 2, .inl (0, 0)),
  (25, .invokevirtual 104, 3, .inr (.inr (.inr yX7_signAt))),
  (28, .invokevirtual 110, 3, .inr (.inr (.inr yX2_after))),
  (31, .istore_n 3, 1, .inl (0, 0)),
  (32, .iinc 4 1, 3, .inr (.inl 1)),
  (35, .goto (-21), 3, .inl (14, 0)),
  (38, .iload_n 2, 1, .inl (0, 0)),
  (39, .bipush (-6), 2, .inr (.inl (-6))),
  (41, .if_icmp .ne 8, 3, .inl (49, 0)),
  (44, .bipush (-6), 2, .inr (.inl (-6))),
  (46, .goto 13, 3, .inl (59, 0)),
  (49, .aload_n 0, 1, .inl (0, 0)),
  (50, .iload_n 3, 1, .inl (0, 0)),
  (51, .aload_n 1, 1, .inl (0, 0)),
  (52, .iload_n 2, 1, .inl (0, 0)),
  (53, .invokevirtual 104, 3, .inr (.inr (.inr yX7_signAt))),
  (56, .invokevirtual 107, 3, .inr (.inr (.inr yX2_whyNot))),
  (59, .ireturn, 1, .inl (0, 0))]
def mX2_whyImpossible : pm_M := (yX2_whyImpossible, cX2_whyImpossible, 5, (some .int), tX2_whyImpossible)
theorem okX2_whyImpossible : pm_ok mX2_whyImpossible = true := by decide +kernel
def tX2_live : List pm_E := [(0, .iconst 0, 1, .inr (.inl 0)),
  (1, .istore_n 2, 1, .inl (0, 0)),
  (2, .iload_n 2, 1, .inl (0, 0)),
  (3, .aload_n 1, 1, .inl (0, 0)),
  (4, .getfield 99, 3, .inl (3, 0)),
  (7, .if_icmp .ge 65, 3, .inl (72, 0)),
  (10, .aload_n 1, 1, .inl (0, 0)),
  (11, .iload_n 2, 1, .inl (0, 0)),
  (12, .invokevirtual 104, 3, .inr (.inr (.inr yX7_signAt))),
  (15, .istore_n 3, 1, .inl (0, 0)),
  (16, .aload_n 0, 1, .inl (0, 0)),
  (17, .getfield 26, 3, .inl (1, 4)),
  (20, .invokestatic 117, 3, .inr (.inr (.inr yX8_numberBloomed))),
  (23, .istore 4, 2, .inl (0, 0)),
  (25, .iload_n 3, 1, .inl (0, 0)),
  (26, .bipush 46, 2, .inr (.inl 46)),
  (28, .if_icmp .ne 25, 3, .inl (53, 0)),
  (31, .iload 4, 2, .inl (0, 0)),
  (33, .bipush 6, 2, .inr (.inl 6)),
  (35, .if_icmp .ge 18, 3, .inl (53, 0)),
  (38, .aload_n 0, 1, .inl (0, 0)),
  (39, .getfield 39, 3, .inl (1, 8)),
  (42, .iload 4, 2, .inl (0, 0)),
  (44, .aload_n 0, 1, .inl (0, 0)),
  (45, .aload_n 0, 1, .inl (0, 0)),
  (46, .getfield 26, 3, .inl (1, 4)),
  (49, .invokevirtual 120, 3, .inr (.inr (.inr yX2_nextBed))),
  (52, .iastore, 1, .inl (0, 0)),
  (53, .aload_n 0, 1, .inl (0, 0)),
  (54, .aload_n 0, 1, .inl (0, 0)),
  (55, .aload_n 0, 1, .inl (0, 0)),
  (56, .getfield 26, 3, .inl (1, 4)),
  (59, .iload_n 3, 1, .inl (0, 0)),
  (60, .invokevirtual 110, 3, .inr (.inr (.inr yX2_after))),
  (63, .putfield 26, 3, .inl (1, 4)),
  (66, .iinc 2 1, 3, .inr (.inl 1)),
  (69, .goto (-67), 3, .inl (2, 0)),
  (72, .return_, 1, .inl (0, 0))]
def mX2_live : pm_M := (yX2_live, cX2_live, 5, none, tX2_live)
theorem okX2_live : pm_ok mX2_live = true := by decide +kernel
def tX2_see : List pm_E := [(0, .aload_n 0, 1, .inl (0, 0)),
  (1, .getfield 29, 3, .inl (1, 5)),
  (4, .ifCond .lt 12, 3, .inl (16, 0)),
  (7, .aload_n 0, 1, .inl (0, 0)),
  (8, .getfield 29, 3, .inl (1, 5)),
  (11, .bipush 6, 2, .inr (.inl 6)),
  (13, .if_icmp .lt 5, 3, .inl (18, 0)),
  (16, .iconst 0, 1, .inr (.inl 0)),
  (17, .ireturn, 1, .inl (0, 0)),
  (18, .aload_n 0, 1, .inl (0, 0)),
  (19, .getfield 42, 3, .inl (1, 9)),
  (22, .aload_n 0, 1, .inl (0, 0)),
  (23, .getfield 29, 3, .inl (1, 5)),
  (26, .iload_n 1, 1, .inl (0, 0)),
  (27, .iastore, 1, .inl (0, 0)),
  (28, .aload_n 0, 1, .inl (0, 0)),
  (29, .getfield 45, 3, .inl (1, 10)),
  (32, .aload_n 0, 1, .inl (0, 0)),
  (33, .getfield 29, 3, .inl (1, 5)),
  (36, .iload_n 2, 1, .inl (0, 0)),
  (37, .iastore, 1, .inl (0, 0)),
  (38, .aload_n 0, 1, .inl (0, 0)),
  (39, .dup, 1, .inl (0, 0)),
  (40, .getfield 29, 3, .inl (1, 5)),
  (43, .iconst 1, 1, .inr (.inl 1)),
  (44, .iadd, 1, .inl (0, 0)),
  (45, .putfield 29, 3, .inl (1, 5)),
  (48, .iconst 1, 1, .inr (.inl 1)),
  (49, .ireturn, 1, .inl (0, 0))]
def mX2_see : pm_M := (yX2_see, cX2_see, 3, (some .boolean), tX2_see)
theorem okX2_see : pm_ok mX2_see = true := by decide +kernel
def tX2_isAsSeen : List pm_E := [(0, .iconst 0, 1, .inr (.inl 0)),
  (1, .istore_n 3, 1, .inl (0, 0)),
  (2, .iload_n 3, 1, .inl (0, 0)),
  (3, .aload_n 0, 1, .inl (0, 0)),
  (4, .getfield 29, 3, .inl (1, 5)),
  (7, .if_icmp .ge 37, 3, .inl (44, 0)),
  (10, .iload_n 3, 1, .inl (0, 0)),
  (11, .bipush 6, 2, .inr (.inl 6)),
  (13, .if_icmp .ge 31, 3, .inl (44, 0)),
  (16, .aload_n 0, 1, .inl (0, 0)),
  (17, .getfield 42, 3, .inl (1, 9)),
  (20, .iload_n 3, 1, .inl (0, 0)),
  (21, .iaload, 1, .inl (0, 0)),
  (22, .iload_n 1, 1, .inl (0, 0)),
  (23, .if_icmp .ne 15, 3, .inl (38, 0)),
  (26, .aload_n 0, 1, .inl (0, 0)),
  (27, .getfield 45, 3, .inl (1, 10)),
  (30, .iload_n 3, 1, .inl (0, 0)),
  (31, .iaload, 1, .inl (0, 0)),
  (32, .iload_n 2, 1, .inl (0, 0)),
  (33, .if_icmp .eq 5, 3, .inl (38, 0)),
  (36, .iconst 0, 1, .inr (.inl 0)),
  (37, .ireturn, 1, .inl (0, 0)),
  (38, .iinc 3 1, 3, .inr (.inl 1)),
  (41, .goto (-39), 3, .inl (2, 0)),
  (44, .iconst 1, 1, .inr (.inl 1)),
  (45, .ireturn, 1, .inl (0, 0))]
def mX2_isAsSeen : pm_M := (yX2_isAsSeen, cX2_isAsSeen, 4, (some .boolean), tX2_isAsSeen)
theorem okX2_isAsSeen : pm_ok mX2_isAsSeen = true := by decide +kernel
def tX2_sawNoMorningFrom : List pm_E := [(0, .iconst 0, 1, .inr (.inl 0)),
  (1, .istore_n 2, 1, .inl (0, 0)),
  (2, .iload_n 2, 1, .inl (0, 0)),
  (3, .aload_n 0, 1, .inl (0, 0)),
  (4, .getfield 29, 3, .inl (1, 5)),
  (7, .if_icmp .ge 27, 3, .inl (34, 0)),
  (10, .iload_n 2, 1, .inl (0, 0)),
  (11, .bipush 6, 2, .inr (.inl 6)),
  (13, .if_icmp .ge 21, 3, .inl (34, 0)),
  (16, .aload_n 0, 1, .inl (0, 0)),
  (17, .getfield 42, 3, .inl (1, 9)),
  (20, .iload_n 2, 1, .inl (0, 0)),
  (21, .iaload, 1, .inl (0, 0)),
  (22, .iload_n 1, 1, .inl (0, 0)),
  (23, .if_icmp .lt 5, 3, .inl (28, 0)),
  (26, .iconst 0, 1, .inr (.inl 0)),
  (27, .ireturn, 1, .inl (0, 0)),
  (28, .iinc 2 1, 3, .inr (.inl 1)),
  (31, .goto (-29), 3, .inl (2, 0)),
  (34, .iconst 1, 1, .inr (.inl 1)),
  (35, .ireturn, 1, .inl (0, 0))]
def mX2_sawNoMorningFrom : pm_M := (yX2_sawNoMorningFrom, cX2_sawNoMorningFrom, 3, (some .boolean), tX2_sawNoMorningFrom)
theorem okX2_sawNoMorningFrom : pm_ok mX2_sawNoMorningFrom = true := by decide +kernel
def tX2_pleases : List pm_E := [(0, .aload_n 0, 1, .inl (0, 0)),
  (1, .iload_n 2, 1, .inl (0, 0)),
  (2, .invokevirtual 54, 3, .inr (.inr (.inr yX2_isBed))),
  (5, .ifCond .eq 26, 3, .inl (31, 0)),
  (8, .iload_n 1, 1, .inl (0, 0)),
  (9, .bipush 63, 2, .inr (.inl 63)),
  (11, .if_icmp .eq 16, 3, .inl (27, 0)),
  (14, .iload_n 1, 1, .inl (0, 0)),
  (15, .invokestatic 123, 3, .inr (.inr (.inr yX7_colourOf))),
  (18, .aload_n 0, 1, .inl (0, 0)),
  (19, .getfield 32, 3, .inl (1, 6)),
  (22, .iload_n 2, 1, .inl (0, 0)),
  (23, .iaload, 1, .inl (0, 0)),
  (24, .if_icmp .ne 7, 3, .inl (31, 0)),
  (27, .iconst 1, 1, .inr (.inl 1)),
  (28, .goto 4, 3, .inl (32, 0)),
  (31, .iconst 0, 1, .inr (.inl 0)),
  (32, .ireturn, 1, .inl (0, 0))]
def mX2_pleases : pm_M := (yX2_pleases, cX2_pleases, 3, (some .boolean), tX2_pleases)
theorem okX2_pleases : pm_ok mX2_pleases = true := by decide +kernel
def tX3_morningOfBloom : List pm_E := [(0, .aload_n 0, 1, .inl (0, 0)),
  (1, .aload_n 0, 1, .inl (0, 0)),
  (2, .getfield 9, 3, .inl (1, 4)),
  (5, .iload_n 1, 1, .inl (0, 0)),
  (6, .iconst 1, 1, .inr (.inl 1)),
  (7, .invokestatic 15, 3, .inr (.inr (.inr yX3_morningOf))),
  (10, .ireturn, 1, .inl (0, 0))]
def mX3_morningOfBloom : pm_M := (yX3_morningOfBloom, cX3_morningOfBloom, 2, (some .int), tX3_morningOfBloom)
theorem okX3_morningOfBloom : pm_ok mX3_morningOfBloom = true := by decide +kernel
def tX3_morningOf : List pm_E := [(0, .iload_n 3, 1, .inl (0, 0)),
  (1, .bipush 6, 2, .inr (.inl 6)),
  (3, .if_icmp .le 6, 3, .inl (9, 0)),
  (6, .bipush (-6), 2, .inr (.inl (-6))),
  (8, .ireturn, 1, .inl (0, 0)),
  (9, .iload_n 3, 1, .inl (0, 0)),
  (10, .iconst 2, 1, .inr (.inl 2)),
  (11, .irem, 1, .inl (0, 0)),
  (12, .iconst 1, 1, .inr (.inl 1)),
  (13, .if_icmp .ne 7, 3, .inl (20, 0)),
  (16, .iconst 1, 1, .inr (.inl 1)),
  (17, .goto 4, 3, .inl (21, 0)),
  (20, .iconst 0, 1, .inr (.inl 0)),
  (21, .istore 4, 2, .inl (0, 0)),
  (23, .bipush (-6), 2, .inr (.inl (-6))),
  (25, .istore 5, 2, .inl (0, 0)),
  (27, .iconst 0, 1, .inr (.inl 0)),
  (28, .istore 6, 2, .inl (0, 0)),
  (30, .iload 6, 2, .inl (0, 0)),
  (32, .aload_n 0, 1, .inl (0, 0)),
  (33, .getfield 21, 3, .inl (1, 0)),
  (36, .if_icmp .ge 44, 3, .inl (80, 0)),
  (39, .aload_n 0, 1, .inl (0, 0)),
  (40, .iload_n 1, 1, .inl (0, 0)),
  (41, .iload 6, 2, .inl (0, 0)),
  (43, .invokevirtual 24, 3, .inr (.inr (.inr yX2_whyNotWater))),
  (46, .ifCond .ne 28, 3, .inl (74, 0)),
  (49, .aload_n 0, 1, .inl (0, 0)),
  (50, .iload_n 1, 1, .inl (0, 0)),
  (51, .iload 6, 2, .inl (0, 0)),
  (53, .invokestatic 28, 3, .inr (.inr (.inr yX8_watered))),
  (56, .iload_n 2, 1, .inl (0, 0)),
  (57, .iload_n 3, 1, .inl (0, 0)),
  (58, .invokestatic 33, 3, .inr (.inr (.inr yX3_afterWatering))),
  (61, .istore 7, 2, .inl (0, 0)),
  (63, .iload 5, 2, .inl (0, 0)),
  (65, .iload 7, 2, .inl (0, 0)),
  (67, .iload 4, 2, .inl (0, 0)),
  (69, .invokestatic 36, 3, .inr (.inr (.inr yX3_better))),
  (72, .istore 5, 2, .inl (0, 0)),
  (74, .iinc 6 1, 3, .inr (.inl 1)),
  (77, .goto (-47), 3, .inl (30, 0)),
  (80, .iload 5, 2, .inl (0, 0)),
  (82, .bipush (-6), 2, .inr (.inl (-6))),
  (84, .if_icmp .ne 13, 3, .inl (97, 0)),
  (87, .aload_n 0, 1, .inl (0, 0)),
  (88, .iload_n 1, 1, .inl (0, 0)),
  (89, .iload_n 2, 1, .inl (0, 0)),
  (90, .iload_n 3, 1, .inl (0, 0)),
  (91, .invokestatic 33, 3, .inr (.inr (.inr yX3_afterWatering))),
  (94, .goto 5, 3, .inl (99, 0)),
  (97, .iload 5, 2, .inl (0, 0)),
  (99, .ireturn, 1, .inl (0, 0))]
def mX3_morningOf : pm_M := (yX3_morningOf, cX3_morningOf, 8, (some .int), tX3_morningOf)
theorem okX3_morningOf : pm_ok mX3_morningOf = true := by decide +kernel
def tX3_afterWatering : List pm_E := [(0, .aload_n 0, 1, .inl (0, 0)),
  (1, .iload_n 1, 1, .inl (0, 0)),
  (2, .invokevirtual 40, 3, .inr (.inr (.inr yX2_afterMorning))),
  (5, .istore 4, 2, .inl (0, 0)),
  (7, .iload 4, 2, .inl (0, 0)),
  (9, .iload_n 2, 1, .inl (0, 0)),
  (10, .invokestatic 44, 3, .inr (.inr (.inr yX8_hasBloomed))),
  (13, .ifCond .eq 7, 3, .inl (20, 0)),
  (16, .iload_n 3, 1, .inl (0, 0)),
  (17, .goto 13, 3, .inl (30, 0)),
  (20, .aload_n 0, 1, .inl (0, 0)),
  (21, .iload 4, 2, .inl (0, 0)),
  (23, .iload_n 2, 1, .inl (0, 0)),
  (24, .iload_n 3, 1, .inl (0, 0)),
  (25, .iconst 1, 1, .inr (.inl 1)),
  (26, .iadd, 1, .inl (0, 0)),
  (27, .invokestatic 15, 3, .inr (.inr (.inr yX3_morningOf))),
  (30, .ireturn, 1, .inl (0, 0))]
def mX3_afterWatering : pm_M := (yX3_afterWatering, cX3_afterWatering, 5, (some .int), tX3_afterWatering)
theorem okX3_afterWatering : pm_ok mX3_afterWatering = true := by decide +kernel
def tX3_better : List pm_E := [(0, .iload_n 0, 1, .inl (0, 0)),
  (1, .bipush (-6), 2, .inr (.inl (-6))),
  (3, .if_icmp .ne 5, 3, .inl (8, 0)),
  (6, .iload_n 1, 1, .inl (0, 0)),
  (7, .ireturn, 1, .inl (0, 0)),
  (8, .iload_n 2, 1, .inl (0, 0)),
  (9, .ifCond .eq 11, 3, .inl (20, 0)),
  (12, .iload_n 0, 1, .inl (0, 0)),
  (13, .iload_n 1, 1, .inl (0, 0)),
  (14, .invokestatic 48, 3, .inr (.inr (.inr yJ9_min_7cf53))),
  (17, .goto 8, 3, .inl (25, 0)),
  (20, .iload_n 0, 1, .inl (0, 0)),
  (21, .iload_n 1, 1, .inl (0, 0)),
  (22, .invokestatic 53, 3, .inr (.inr (.inr yJ9_max_7cf53))),
  (25, .ireturn, 1, .inl (0, 0))]
def mX3_better : pm_M := (yX3_better, cX3_better, 3, (some .int), tX3_better)
theorem okX3_better : pm_ok mX3_better = true := by decide +kernel
def tX4_init : List pm_E := [(0, .aload_n 0, 1, .inl (0, 0)),
  (1, .invokespecial 5, 3, .inr (.inr (.inr Lib.objectInit))),
  (4, .aload_n 0, 1, .inl (0, 0)),
  (5, .sipush 8192, 3, .inr (.inl 8192)),
  (8, .newarray .int, 2, .inl (0, 0)),
  (10, .putfield 11, 3, .inl (2, 0)),
  (13, .aload_n 0, 1, .inl (0, 0)),
  (14, .sipush 8192, 3, .inr (.inl 8192)),
  (17, .newarray .int, 2, .inl (0, 0)),
  (19, .putfield 15, 3, .inl (2, 1)),
  (22, .return_, 1, .inl (0, 0))]
def mX4_init : pm_M := (yX4_init, cX4_init, 1, none, tX4_init)
theorem okX4_init : pm_ok mX4_init = true := by decide +kernel
def tX4_clear : List pm_E := [(0, .aload_n 0, 1, .inl (0, 0)),
  (1, .getfield 15, 3, .inl (2, 1)),
  (4, .bipush (-2), 2, .inr (.inl (-2))),
  (6, .invokestatic 18, 3, .inr (.inr (.inr yJ7_fill_53178))),
  (9, .return_, 1, .inl (0, 0))]
def mX4_clear : pm_M := (yX4_clear, cX4_clear, 1, none, tX4_clear)
theorem okX4_clear : pm_ok mX4_clear = true := by decide +kernel
def tX4_slotOf : List pm_E := [(0, .iload_n 1, 1, .inl (0, 0)),
  (1, .ldc 24, 2, .inr (.inl (-1640531535))),
  (3, .imul, 1, .inl (0, 0)),
  (4, .bipush 19, 2, .inr (.inl 19)),
  (6, .iushr, 1, .inl (0, 0)),
  (7, .sipush 8191, 3, .inr (.inl 8191)),
  (10, .iand, 1, .inl (0, 0)),
  (11, .istore_n 2, 1, .inl (0, 0)),
  (12, .iconst 0, 1, .inr (.inl 0)),
  (13, .istore_n 3, 1, .inl (0, 0)),
  (14, .iload_n 3, 1, .inl (0, 0)),
  (15, .sipush 8192, 3, .inr (.inl 8192)),
  (18, .if_icmp .ge 56, 3, .inl (74, 0)),
  (21, .aload_n 0, 1, .inl (0, 0)),
  (22, .getfield 15, 3, .inl (2, 1)),
  (25, .iload_n 2, 1, .inl (0, 0)),
  (26, .iaload, 1, .inl (0, 0)),
  (27, .bipush (-2), 2, .inr (.inl (-2))),
  (29, .if_icmp .ne 19, 3, .inl (48, 0)),
  (32, .aload_n 0, 1, .inl (0, 0)),
  (33, .getfield 11, 3, .inl (2, 0)),
  (36, .iload_n 2, 1, .inl (0, 0)),
  (37, .iload_n 1, 1, .inl (0, 0)),
  (38, .iastore, 1, .inl (0, 0)),
  (39, .aload_n 0, 1, .inl (0, 0)),
  (40, .getfield 15, 3, .inl (2, 1)),
  (43, .iload_n 2, 1, .inl (0, 0)),
  (44, .iconst (-1), 1, .inr (.inl (-1))),
  (45, .iastore, 1, .inl (0, 0)),
  (46, .iload_n 2, 1, .inl (0, 0)),
  (47, .ireturn, 1, .inl (0, 0)),
  (48, .aload_n 0, 1, .inl (0, 0)),
  (49, .getfield 11, 3, .inl (2, 0)),
  (52, .iload_n 2, 1, .inl (0, 0)),
  (53, .iaload, 1, .inl (0, 0)),
  (54, .iload_n 1, 1, .inl (0, 0)),
  (55, .if_icmp .ne 5, 3, .inl (60, 0)),
  (58, .iload_n 2, 1, .inl (0, 0)),
  (59, .ireturn, 1, .inl (0, 0)),
  (60, .iload_n 2, 1, .inl (0, 0)),
  (61, .iconst 1, 1, .inr (.inl 1)),
  (62, .iadd, 1, .inl (0, 0)),
  (63, .sipush 8191, 3, .inr (.inl 8191)),
  (66, .iand, 1, .inl (0, 0)),
  (67, .istore_n 2, 1, .inl (0, 0)),
  (68, .iinc 3 1, 3, .inr (.inl 1)),
  (71, .goto (-57), 3, .inl (14, 0)),
  (74, .bipush (-6), 2, .inr (.inl (-6))),
  (76, .ireturn, 1, .inl (0, 0))]
def mX4_slotOf : pm_M := (yX4_slotOf, cX4_slotOf, 4, (some .int), tX4_slotOf)
theorem okX4_slotOf : pm_ok mX4_slotOf = true := by decide +kernel
def tX4_failedWith : List pm_E := [(0, .iload_n 1, 1, .inl (0, 0)),
  (1, .ifCond .lt 19, 3, .inl (20, 0)),
  (4, .iload_n 1, 1, .inl (0, 0)),
  (5, .sipush 8192, 3, .inr (.inl 8192)),
  (8, .if_icmp .ge 12, 3, .inl (20, 0)),
  (11, .aload_n 0, 1, .inl (0, 0)),
  (12, .getfield 15, 3, .inl (2, 1)),
  (15, .iload_n 1, 1, .inl (0, 0)),
  (16, .iaload, 1, .inl (0, 0)),
  (17, .goto 4, 3, .inl (21, 0)),
  (20, .iconst (-1), 1, .inr (.inl (-1))),
  (21, .ireturn, 1, .inl (0, 0))]
def mX4_failedWith : pm_M := (yX4_failedWith, cX4_failedWith, 2, (some .int), tX4_failedWith)
theorem okX4_failedWith : pm_ok mX4_failedWith = true := by decide +kernel
end
section
def tX4_keep : List pm_E := [(0, .iload_n 1, 1, .inl (0, 0)),
  (1, .ifCond .lt 17, 3, .inl (18, 0)),
  (4, .iload_n 1, 1, .inl (0, 0)),
  (5, .sipush 8192, 3, .inr (.inl 8192)),
  (8, .if_icmp .ge 10, 3, .inl (18, 0)),
  (11, .aload_n 0, 1, .inl (0, 0)),
  (12, .getfield 15, 3, .inl (2, 1)),
  (15, .iload_n 1, 1, .inl (0, 0)),
  (16, .iload_n 2, 1, .inl (0, 0)),
  (17, .iastore, 1, .inl (0, 0)),
  (18, .return_, 1, .inl (0, 0))]
def mX4_keep : pm_M := (yX4_keep, cX4_keep, 3, none, tX4_keep)
theorem okX4_keep : pm_ok mX4_keep = true := by decide +kernel
def tX5_isHadFrom : List pm_E := [(0, .aload_n 0, 1, .inl (0, 0)),
  (1, .iload_n 1, 1, .inl (0, 0)),
  (2, .iconst 0, 1, .inr (.inl 0)),
  (3, .iconst 0, 1, .inr (.inl 0)),
  (4, .invokestatic 11, 3, .inr (.inr (.inr yX5_comesFrom))),
  (7, .ireturn, 1, .inl (0, 0))]
def mX5_isHadFrom : pm_M := (yX5_isHadFrom, cX5_isHadFrom, 2, (some .boolean), tX5_isHadFrom)
theorem okX5_isHadFrom : pm_ok mX5_isHadFrom = true := by decide +kernel
def tX5_comesFrom : List pm_E := [(0, .iload_n 2, 1, .inl (0, 0)),
  (1, .invokestatic 17, 3, .inr (.inr (.inr yX8_numberBloomed))),
  (4, .istore 4, 2, .inl (0, 0)),
  (6, .iload 4, 2, .inl (0, 0)),
  (8, .aload_n 0, 1, .inl (0, 0)),
  (9, .getfield 21, 3, .inl (1, 0)),
  (12, .if_icmp .lt 5, 3, .inl (17, 0)),
  (15, .iconst 1, 1, .inr (.inl 1)),
  (16, .ireturn, 1, .inl (0, 0)),
  (17, .aload_n 0, 1, .inl (0, 0)),
  (18, .iload_n 2, 1, .inl (0, 0)),
  (19, .invokevirtual 27, 3, .inr (.inr (.inr yX2_nextBed))),
  (22, .iload_n 1, 1, .inl (0, 0)),
  (23, .iload 4, 2, .inl (0, 0)),
  (25, .invokestatic 30, 3, .inr (.inr (.inr yX6_at))),
  (28, .if_icmp .ne 19, 3, .inl (47, 0)),
  (31, .aload_n 0, 1, .inl (0, 0)),
  (32, .iload_n 1, 1, .inl (0, 0)),
  (33, .aload_n 0, 1, .inl (0, 0)),
  (34, .iload_n 2, 1, .inl (0, 0)),
  (35, .invokevirtual 36, 3, .inr (.inr (.inr yX2_afterMorning))),
  (38, .iload_n 3, 1, .inl (0, 0)),
  (39, .invokestatic 11, 3, .inr (.inr (.inr yX5_comesFrom))),
  (42, .ifCond .eq 5, 3, .inl (47, 0)),
  (45, .iconst 1, 1, .inr (.inl 1)),
  (46, .ireturn, 1, .inl (0, 0)),
  (47, .iload_n 3, 1, .inl (0, 0)),
  (48, .aload_n 0, 1, .inl (0, 0)),
  (49, .getfield 21, 3, .inl (1, 0)),
  (52, .if_icmp .ge 34, 3, .inl (86, 0)),
  (55, .iload_n 2, 1, .inl (0, 0)),
  (56, .invokestatic 39, 3, .inr (.inr (.inr yX8_length))),
  (59, .aload_n 0, 1, .inl (0, 0)),
  (60, .getfield 42, 3, .inl (1, 2)),
  (63, .if_icmp .ge 23, 3, .inl (86, 0)),
  (66, .aload_n 0, 1, .inl (0, 0)),
  (67, .iload_n 1, 1, .inl (0, 0)),
  (68, .iload_n 2, 1, .inl (0, 0)),
  (69, .iload_n 3, 1, .inl (0, 0)),
  (70, .invokestatic 45, 3, .inr (.inr (.inr yX8_watered))),
  (73, .iload_n 3, 1, .inl (0, 0)),
  (74, .iconst 1, 1, .inr (.inl 1)),
  (75, .iadd, 1, .inl (0, 0)),
  (76, .invokestatic 11, 3, .inr (.inr (.inr yX5_comesFrom))),
  (79, .ifCond .eq 7, 3, .inl (86, 0)),
  (82, .iconst 1, 1, .inr (.inl 1)),
  (83, .goto 4, 3, .inl (87, 0)),
  (86, .iconst 0, 1, .inr (.inl 0)),
  (87, .ireturn, 1, .inl (0, 0))]
def mX5_comesFrom : pm_M := (yX5_comesFrom, cX5_comesFrom, 5, (some .boolean), tX5_comesFrom)
theorem okX5_comesFrom : pm_ok mX5_comesFrom = true := by decide +kernel
def tX5_number : List pm_E := [(0, .iload_n 2, 1, .inl (0, 0)),
  (1, .aload_n 0, 1, .inl (0, 0)),
  (2, .arraylength, 1, .inl (0, 0)),
  (3, .iconst 1, 1, .inr (.inl 1)),
  (4, .isub, 1, .inl (0, 0)),
  (5, .invokestatic 48, 3, .inr (.inr (.inr yJ9_min_7cf53))),
  (8, .istore_n 3, 1, .inl (0, 0)),
  (9, .aload_n 0, 1, .inl (0, 0)),
  (10, .lconst 0, 1, .inr (.inr (.inl 0))),
  (11, .invokestatic 53, 3, .inr (.inr (.inr yJ7_fill_d0a16))),
  (14, .iload_n 3, 1, .inl (0, 0)),
  (15, .iconst 1, 1, .inr (.inl 1)),
  (16, .if_icmp .ge 5, 3, .inl (21, 0)),
  (19, .lconst 0, 1, .inr (.inr (.inl 0))),
  (20, .lreturn, 1, .inl (0, 0)),
  (21, .aload_n 0, 1, .inl (0, 0)),
  (22, .iconst 0, 1, .inr (.inl 0)),
  (23, .lconst 1, 1, .inr (.inr (.inl 1))),
  (24, .lastore, 1, .inl (0, 0)),
  (25, .iconst 0, 1, .inr (.inl 0)),
  (26, .istore 4, 2, .inl (0, 0)),
  (28, .iload 4, 2, .inl (0, 0)),
  (30, .iload_n 1, 1, .inl (0, 0)),
  (31, .if_icmp .ge 50, 3, .inl (81, 0)),
  (34, .lconst 0, 1, .inr (.inr (.inl 0))),
  (35, .lstore 5, 2, .inl (0, 0)),
  (37, .iload_n 3, 1, .inl (0, 0)),
  (38, .iconst 1, 1, .inr (.inl 1)),
  (39, .isub, 1, .inl (0, 0)),
  (40, .istore 7, 2, .inl (0, 0)),
  (42, .iload 7, 2, .inl (0, 0)),
  (44, .ifCond .lt 26, 3, .inl (70, 0)),
  (47, .lload 5, 2, .inl (0, 0)),
  (49, .aload_n 0, 1, .inl (0, 0)),
  (50, .iload 7, 2, .inl (0, 0)),
  (52, .laload, 1, .inl (0, 0)),
  (53, .ladd, 1, .inl (0, 0)),
  (54, .lstore 5, 2, .inl (0, 0)),
  (56, .aload_n 0, 1, .inl (0, 0)),
  (57, .iload 7, 2, .inl (0, 0)),
  (59, .iconst 1, 1, .inr (.inl 1)),
  (60, .iadd, 1, .inl (0, 0)),
  (61, .lload 5, 2, .inl (0, 0)),
  (63, .lastore, 1, .inl (0, 0)),
  (64, .iinc 7 (-1), 3, .inr (.inl (-1))),
  (67, .goto (-25), 3, .inl (42, 0)),
  (70, .aload_n 0, 1, .inl (0, 0)),
  (71, .iconst 0, 1, .inr (.inl 0)),
  (72, .lload 5, 2, .inl (0, 0)),
  (74, .lastore, 1, .inl (0, 0)),
  (75, .iinc 4 1, 3, .inr (.inl 1)),
  (78, .goto (-50), 3, .inl (28, 0)),
  (81, .aload_n 0, 1, .inl (0, 0)),
  (82, .iconst 0, 1, .inr (.inl 0)),
  (83, .laload, 1, .inl (0, 0)),
  (84, .lreturn, 1, .inl (0, 0))]
def mX5_number : pm_M := (yX5_number, cX5_number, 8, (some .long), tX5_number)
theorem okX5_number : pm_ok mX5_number = true := by decide +kernel
def tX5_firstPattern : List pm_E := [(0, .iconst 0, 1, .inr (.inl 0)),
  (1, .istore_n 2, 1, .inl (0, 0)),
  (2, .iload_n 2, 1, .inl (0, 0)),
  (3, .iload_n 1, 1, .inl (0, 0)),
  (4, .if_icmp .ge 88, 3, .inl (92, 0)),
  (7, .iload_n 2, 1, .inl (0, 0)),
  (8, .iconst 1, 1, .inr (.inl 1)),
  (9, .iadd, 1, .inl (0, 0)),
  (10, .istore_n 3, 1, .inl (0, 0)),
  (11, .iload_n 3, 1, .inl (0, 0)),
  (12, .iload_n 1, 1, .inl (0, 0)),
  (13, .if_icmp .ge 73, 3, .inl (86, 0)),
  (16, .iload_n 3, 1, .inl (0, 0)),
  (17, .iconst 1, 1, .inr (.inl 1)),
  (18, .iadd, 1, .inl (0, 0)),
  (19, .istore 4, 2, .inl (0, 0)),
  (21, .iload 4, 2, .inl (0, 0)),
  (23, .iload_n 1, 1, .inl (0, 0)),
  (24, .if_icmp .ge 56, 3, .inl (80, 0)),
  (27, .iload_n 0, 1, .inl (0, 0)),
  (28, .iload 4, 2, .inl (0, 0)),
  (30, .invokestatic 30, 3, .inr (.inr (.inr yX6_at))),
  (33, .istore 5, 2, .inl (0, 0)),
  (35, .iload_n 0, 1, .inl (0, 0)),
  (36, .iload_n 2, 1, .inl (0, 0)),
  (37, .invokestatic 30, 3, .inr (.inr (.inr yX6_at))),
  (40, .iload 5, 2, .inl (0, 0)),
  (42, .if_icmp .le 32, 3, .inl (74, 0)),
  (45, .iload 5, 2, .inl (0, 0)),
  (47, .iload_n 0, 1, .inl (0, 0)),
  (48, .iload_n 3, 1, .inl (0, 0)),
  (49, .invokestatic 30, 3, .inr (.inr (.inr yX6_at))),
  (52, .if_icmp .le 22, 3, .inl (74, 0)),
  (55, .iload_n 2, 1, .inl (0, 0)),
  (56, .iconst 0, 1, .inr (.inl 0)),
  (57, .invokestatic 59, 3, .inr (.inr (.inr yX6_put))),
  (60, .iload_n 3, 1, .inl (0, 0)),
  (61, .iconst 1, 1, .inr (.inl 1)),
  (62, .invokestatic 59, 3, .inr (.inr (.inr yX6_put))),
  (65, .ior, 1, .inl (0, 0)),
  (66, .iload 4, 2, .inl (0, 0)),
  (68, .iconst 2, 1, .inr (.inl 2)),
  (69, .invokestatic 59, 3, .inr (.inr (.inr yX6_put))),
  (72, .ior, 1, .inl (0, 0)),
  (73, .ireturn, 1, .inl (0, 0)),
  (74, .iinc 4 1, 3, .inr (.inl 1)),
  (77, .goto (-56), 3, .inl (21, 0)),
  (80, .iinc 3 1, 3, .inr (.inl 1)),
  (83, .goto (-72), 3, .inl (11, 0)),
  (86, .iinc 2 1, 3, .inr (.inl 1)),
  (89, .goto (-87), 3, .inl (2, 0)),
  (92, .bipush (-6), 2, .inr (.inl (-6))),
  (94, .ireturn, 1, .inl (0, 0))]
def mX5_firstPattern : pm_M := (yX5_firstPattern, cX5_firstPattern, 6, (some .int), tX5_firstPattern)
theorem okX5_firstPattern : pm_ok mX5_firstPattern = true := by decide +kernel
def tX5_fewestGardens : List pm_E := [(0, .iconst 1, 1, .inr (.inl 1)),
  (1, .istore_n 2, 1, .inl (0, 0)),
  (2, .iload_n 2, 1, .inl (0, 0)),
  (3, .iconst 3, 1, .inr (.inl 3)),
  (4, .if_icmp .gt 20, 3, .inl (24, 0)),
  (7, .iload_n 0, 1, .inl (0, 0)),
  (8, .iload_n 1, 1, .inl (0, 0)),
  (9, .iload_n 2, 1, .inl (0, 0)),
  (10, .invokestatic 62, 3, .inr (.inr (.inr yX5_isMadeBy))),
  (13, .ifCond .eq 5, 3, .inl (18, 0)),
  (16, .iload_n 2, 1, .inl (0, 0)),
  (17, .ireturn, 1, .inl (0, 0)),
  (18, .iinc 2 1, 3, .inr (.inl 1)),
  (21, .goto (-19), 3, .inl (2, 0)),
  (24, .bipush (-6), 2, .inr (.inl (-6))),
  (26, .ireturn, 1, .inl (0, 0))]
def mX5_fewestGardens : pm_M := (yX5_fewestGardens, cX5_fewestGardens, 3, (some .int), tX5_fewestGardens)
theorem okX5_fewestGardens : pm_ok mX5_fewestGardens = true := by decide +kernel
def tX5_isMadeBy : List pm_E := [(0, .iload_n 2, 1, .inl (0, 0)),
  (1, .iconst 1, 1, .inr (.inl 1)),
  (2, .if_icmp .gt 19, 3, .inl (21, 0)),
  (5, .iload_n 0, 1, .inl (0, 0)),
  (6, .iload_n 1, 1, .inl (0, 0)),
  (7, .invokestatic 66, 3, .inr (.inr (.inr yX5_firstPattern))),
  (10, .bipush (-6), 2, .inr (.inl (-6))),
  (12, .if_icmp .ne 7, 3, .inl (19, 0)),
  (15, .iconst 1, 1, .inr (.inl 1)),
  (16, .goto 4, 3, .inl (20, 0)),
  (19, .iconst 0, 1, .inr (.inl 0)),
  (20, .ireturn, 1, .inl (0, 0)),
  (21, .iload_n 0, 1, .inl (0, 0)),
  (22, .iload_n 1, 1, .inl (0, 0)),
  (23, .iload_n 2, 1, .inl (0, 0)),
  (24, .iconst 0, 1, .inr (.inl 0)),
  (25, .iconst 0, 1, .inr (.inl 0)),
  (26, .iconst 0, 1, .inr (.inl 0)),
  (27, .invokestatic 69, 3, .inr (.inr (.inr yX5_isMadeBehind))),
  (30, .ireturn, 1, .inl (0, 0))]
def mX5_isMadeBy : pm_M := (yX5_isMadeBy, cX5_isMadeBy, 3, (some .boolean), tX5_isMadeBy)
theorem okX5_isMadeBy : pm_ok mX5_isMadeBy = true := by decide +kernel
def tX5_isMadeBehind : List pm_E := [(0, .iload_n 3, 1, .inl (0, 0)),
  (1, .invokestatic 17, 3, .inr (.inr (.inr yX8_numberBloomed))),
  (4, .istore 6, 2, .inl (0, 0)),
  (6, .iload 6, 2, .inl (0, 0)),
  (8, .iload_n 1, 1, .inl (0, 0)),
  (9, .if_icmp .lt 18, 3, .inl (27, 0)),
  (12, .iload 5, 2, .inl (0, 0)),
  (14, .iload_n 0, 1, .inl (0, 0)),
  (15, .iload_n 1, 1, .inl (0, 0)),
  (16, .invokestatic 73, 3, .inr (.inr (.inr yX5_asSeenFrom))),
  (19, .iload_n 1, 1, .inl (0, 0)),
  (20, .iload_n 2, 1, .inl (0, 0)),
  (21, .iconst 1, 1, .inr (.inl 1)),
  (22, .isub, 1, .inl (0, 0)),
  (23, .invokestatic 62, 3, .inr (.inr (.inr yX5_isMadeBy))),
  (26, .ireturn, 1, .inl (0, 0)),
  (27, .iload_n 3, 1, .inl (0, 0)),
  (28, .invokestatic 39, 3, .inr (.inr (.inr yX8_length))),
  (31, .iconst 1, 1, .inr (.inl 1)),
  (32, .isub, 1, .inl (0, 0)),
  (33, .istore 7, 2, .inl (0, 0)),
  (35, .iload 7, 2, .inl (0, 0)),
  (37, .ifCond .lt 40, 3, .inl (77, 0)),
  (40, .iload 5, 2, .inl (0, 0)),
  (42, .iload_n 3, 1, .inl (0, 0)),
  (43, .iload 7, 2, .inl (0, 0)),
  (45, .invokestatic 77, 3, .inr (.inr (.inr yX8_bedAt))),
  (48, .iload 6, 2, .inl (0, 0)),
  (50, .invokestatic 59, 3, .inr (.inr (.inr yX6_put))),
  (53, .ior, 1, .inl (0, 0)),
  (54, .istore 8, 2, .inl (0, 0)),
  (56, .iload_n 0, 1, .inl (0, 0)),
  (57, .iload_n 1, 1, .inl (0, 0)),
  (58, .iload_n 2, 1, .inl (0, 0)),
  (59, .iload_n 3, 1, .inl (0, 0)),
  (60, .iload 7, 2, .inl (0, 0)),
  (62, .invokestatic 80, 3, .inr (.inr (.inr yX8_afterBloom))),
  (65, .iload 4, 2, .inl (0, 0)),
  (67, .iload 8, 2, .inl (0, 0)),
  (69, .invokestatic 69, 3, .inr (.inr (.inr yX5_isMadeBehind))),
  (72, .ifCond .eq 5, 3, .inl (77, 0)),
  (75, .iconst 1, 1, .inr (.inl 1)),
  (76, .ireturn, 1, .inl (0, 0)),
  (77, .iload 4, 2, .inl (0, 0)),
  (79, .iload_n 1, 1, .inl (0, 0)),
  (80, .if_icmp .ge 28, 3, .inl (108, 0)),
  (83, .iload_n 0, 1, .inl (0, 0)),
  (84, .iload_n 1, 1, .inl (0, 0)),
  (85, .iload_n 2, 1, .inl (0, 0)),
  (86, .iload_n 3, 1, .inl (0, 0)),
  (87, .iload 4, 2, .inl (0, 0)),
  (89, .invokestatic 45, 3, .inr (.inr (.inr yX8_watered))),
  (92, .iload 4, 2, .inl (0, 0)),
  (94, .iconst 1, 1, .inr (.inl 1)),
  (95, .iadd, 1, .inl (0, 0)),
  (96, .iload 5, 2, .inl (0, 0)),
  (98, .invokestatic 69, 3, .inr (.inr (.inr yX5_isMadeBehind))),
  (101, .ifCond .eq 7, 3, .inl (108, 0)),
  (104, .iconst 1, 1, .inr (.inl 1)),
  (105, .goto 4, 3, .inl (109, 0)),
  (108, .iconst 0, 1, .inr (.inl 0)),
  (109, .ireturn, 1, .inl (0, 0))]
def mX5_isMadeBehind : pm_M := (yX5_isMadeBehind, cX5_isMadeBehind, 9, (some .boolean), tX5_isMadeBehind)
theorem okX5_isMadeBehind : pm_ok mX5_isMadeBehind = true := by decide +kernel
def tX5_asSeenFrom : List pm_E := [(0, .iconst 0, 1, .inr (.inl 0)),
  (1, .istore_n 3, 1, .inl (0, 0)),
  (2, .iconst 0, 1, .inr (.inl 0)),
  (3, .istore 4, 2, .inl (0, 0)),
  (5, .iload 4, 2, .inl (0, 0)),
  (7, .iload_n 2, 1, .inl (0, 0)),
  (8, .if_icmp .ge 23, 3, .inl (31, 0)),
  (11, .iload_n 3, 1, .inl (0, 0)),
  (12, .iload 4, 2, .inl (0, 0)),
  (14, .iload_n 0, 1, .inl (0, 0)),
  (15, .iload 4, 2, .inl (0, 0)),
  (17, .invokestatic 30, 3, .inr (.inr (.inr yX6_at))),
  (20, .invokestatic 59, 3, .inr (.inr (.inr yX6_put))),
  (23, .ior, 1, .inl (0, 0)),
  (24, .istore_n 3, 1, .inl (0, 0)),
  (25, .iinc 4 1, 3, .inr (.inl 1)),
  (28, .goto (-23), 3, .inl (5, 0)),
  (31, .iconst 0, 1, .inr (.inl 0)),
  (32, .istore 4, 2, .inl (0, 0)),
  (34, .iconst 0, 1, .inr (.inl 0)),
  (35, .istore 5, 2, .inl (0, 0)),
  (37, .iload 5, 2, .inl (0, 0)),
  (39, .iload_n 2, 1, .inl (0, 0)),
  (40, .if_icmp .ge 29, 3, .inl (69, 0)),
  (43, .iload 4, 2, .inl (0, 0)),
  (45, .iload_n 3, 1, .inl (0, 0)),
  (46, .iload_n 1, 1, .inl (0, 0)),
  (47, .iload 5, 2, .inl (0, 0)),
  (49, .invokestatic 30, 3, .inr (.inr (.inr yX6_at))),
  (52, .invokestatic 30, 3, .inr (.inr (.inr yX6_at))),
  (55, .iload 5, 2, .inl (0, 0)),
  (57, .invokestatic 59, 3, .inr (.inr (.inr yX6_put))),
  (60, .ior, 1, .inl (0, 0)),
  (61, .istore 4, 2, .inl (0, 0)),
  (63, .iinc 5 1, 3, .inr (.inl 1)),
  (66, .goto (-29), 3, .inl (37, 0)),
  (69, .iload 4, 2, .inl (0, 0)),
  (71, .ireturn, 1, .inl (0, 0))]
def mX5_asSeenFrom : pm_M := (yX5_asSeenFrom, cX5_asSeenFrom, 6, (some .int), tX5_asSeenFrom)
theorem okX5_asSeenFrom : pm_ok mX5_asSeenFrom = true := by decide +kernel
def tX6_at : List pm_E := [(0, .iload_n 0, 1, .inl (0, 0)),
  (1, .iconst 3, 1, .inr (.inl 3)),
  (2, .iload_n 1, 1, .inl (0, 0)),
  (3, .imul, 1, .inl (0, 0)),
  (4, .iushr, 1, .inl (0, 0)),
  (5, .bipush 7, 2, .inr (.inl 7)),
  (7, .iand, 1, .inl (0, 0)),
  (8, .ireturn, 1, .inl (0, 0))]
def mX6_at : pm_M := (yX6_at, cX6_at, 2, (some .int), tX6_at)
theorem okX6_at : pm_ok mX6_at = true := by decide +kernel
def tX6_put : List pm_E := [(0, .iload_n 0, 1, .inl (0, 0)),
  (1, .iconst 3, 1, .inr (.inl 3)),
  (2, .iload_n 1, 1, .inl (0, 0)),
  (3, .imul, 1, .inl (0, 0)),
  (4, .ishl, 1, .inl (0, 0)),
  (5, .ireturn, 1, .inl (0, 0))]
def mX6_put : pm_M := (yX6_put, cX6_put, 2, (some .int), tX6_put)
theorem okX6_put : pm_ok mX6_put = true := by decide +kernel
def tX7_init : List pm_E := [(0, .aload_n 0, 1, .inl (0, 0)),
  (1, .invokespecial 3, 3, .inr (.inr (.inr Lib.objectInit))),
  (4, .aload_n 0, 1, .inl (0, 0)),
  (5, .iconst 0, 1, .inr (.inl 0)),
  (6, .putfield 9, 3, .inl (3, 0)),
  (9, .aload_n 0, 1, .inl (0, 0)),
  (10, .bipush 48, 2, .inr (.inl 48)),
  (12, .newarray .int, 2, .inl (0, 0)),
  (14, .putfield 15, 3, .inl (3, 1)),
  (17, .return_, 1, .inl (0, 0))]
def mX7_init : pm_M := (yX7_init, cX7_init, 1, none, tX7_init)
theorem okX7_init : pm_ok mX7_init = true := by decide +kernel
def tX7_write : List pm_E := [(0, .aload_n 0, 1, .inl (0, 0)),
  (1, .getfield 9, 3, .inl (3, 0)),
  (4, .ifCond .lt 12, 3, .inl (16, 0)),
  (7, .aload_n 0, 1, .inl (0, 0)),
  (8, .getfield 9, 3, .inl (3, 0)),
  (11, .bipush 48, 2, .inr (.inl 48)),
  (13, .if_icmp .lt 5, 3, .inl (18, 0)),
  (16, .iconst 0, 1, .inr (.inl 0)),
  (17, .ireturn, 1, .inl (0, 0)),
  (18, .aload_n 0, 1, .inl (0, 0)),
  (19, .getfield 15, 3, .inl (3, 1)),
  (22, .aload_n 0, 1, .inl (0, 0)),
  (23, .getfield 9, 3, .inl (3, 0)),
  (26, .iload_n 1, 1, .inl (0, 0)),
  (27, .iastore, 1, .inl (0, 0)),
  (28, .aload_n 0, 1, .inl (0, 0)),
  (29, .dup, 1, .inl (0, 0)),
  (30, .getfield 9, 3, .inl (3, 0)),
  (33, .iconst 1, 1, .inr (.inl 1)),
  (34, .iadd, 1, .inl (0, 0)),
  (35, .putfield 9, 3, .inl (3, 0)),
  (38, .iconst 1, 1, .inr (.inl 1)),
  (39, .ireturn, 1, .inl (0, 0))]
def mX7_write : pm_M := (yX7_write, cX7_write, 2, (some .boolean), tX7_write)
theorem okX7_write : pm_ok mX7_write = true := by decide +kernel
def tX7_signAt : List pm_E := [(0, .iload_n 1, 1, .inl (0, 0)),
  (1, .ifCond .lt 18, 3, .inl (19, 0)),
  (4, .iload_n 1, 1, .inl (0, 0)),
  (5, .bipush 48, 2, .inr (.inl 48)),
  (7, .if_icmp .ge 12, 3, .inl (19, 0)),
  (10, .aload_n 0, 1, .inl (0, 0)),
  (11, .getfield 15, 3, .inl (3, 1)),
  (14, .iload_n 1, 1, .inl (0, 0)),
  (15, .iaload, 1, .inl (0, 0)),
  (16, .goto 5, 3, .inl (21, 0)),
  (19, .bipush (-6), 2, .inr (.inl (-6))),
  (21, .ireturn, 1, .inl (0, 0))]
def mX7_signAt : pm_M := (yX7_signAt, cX7_signAt, 2, (some .int), tX7_signAt)
theorem okX7_signAt : pm_ok mX7_signAt = true := by decide +kernel
def tX7_numberOf : List pm_E := [(0, .iconst 0, 1, .inr (.inl 0)),
  (1, .istore_n 2, 1, .inl (0, 0)),
  (2, .iconst 0, 1, .inr (.inl 0)),
  (3, .istore_n 3, 1, .inl (0, 0)),
  (4, .iload_n 3, 1, .inl (0, 0)),
  (5, .aload_n 0, 1, .inl (0, 0)),
  (6, .getfield 9, 3, .inl (3, 0)),
  (9, .if_icmp .ge 21, 3, .inl (30, 0)),
  (12, .aload_n 0, 1, .inl (0, 0)),
  (13, .iload_n 3, 1, .inl (0, 0)),
  (14, .invokevirtual 19, 3, .inr (.inr (.inr yX7_signAt))),
  (17, .iload_n 1, 1, .inl (0, 0)),
  (18, .if_icmp .ne 6, 3, .inl (24, 0)),
  (21, .iinc 2 1, 3, .inr (.inl 1)),
  (24, .iinc 3 1, 3, .inr (.inl 1)),
  (27, .goto (-23), 3, .inl (4, 0)),
  (30, .iload_n 2, 1, .inl (0, 0)),
  (31, .ireturn, 1, .inl (0, 0))]
def mX7_numberOf : pm_M := (yX7_numberOf, cX7_numberOf, 4, (some .int), tX7_numberOf)
theorem okX7_numberOf : pm_ok mX7_numberOf = true := by decide +kernel
def tX7_weekFault : List pm_E := [(0, .iconst 0, 1, .inr (.inl 0)),
  (1, .istore_n 2, 1, .inl (0, 0)),
  (2, .iconst 0, 1, .inr (.inl 0)),
  (3, .istore_n 3, 1, .inl (0, 0)),
  (4, .iload_n 3, 1, .inl (0, 0)),
  (5, .aload_n 0, 1, .inl (0, 0)),
  (6, .getfield 9, 3, .inl (3, 0)),
  (9, .if_icmp .ge 75, 3, .inl (84, 0)),
  (12, .aload_n 0, 1, .inl (0, 0)),
  (13, .iload_n 3, 1, .inl (0, 0)),
  (14, .invokevirtual 19, 3, .inr (.inr (.inr yX7_signAt))),
  (17, .istore 4, 2, .inl (0, 0)),
  (19, .iload 4, 2, .inl (0, 0)),
  (21, .bipush 63, 2, .inr (.inl 63)),
  (23, .if_icmp .ne 6, 3, .inl (29, 0)),
  (26, .iinc 2 1, 3, .inr (.inl 1)),
  (29, .iload 4, 2, .inl (0, 0)),
  (31, .bipush 63, 2, .inr (.inl 63)),
  (33, .if_icmp .eq 26, 3, .inl (59, 0)),
  (36, .iload 4, 2, .inl (0, 0)),
  (38, .bipush 42, 2, .inr (.inl 42)),
  (40, .if_icmp .eq 19, 3, .inl (59, 0)),
  (43, .iload 4, 2, .inl (0, 0)),
  (45, .bipush 46, 2, .inr (.inl 46)),
  (47, .if_icmp .eq 12, 3, .inl (59, 0)),
  (50, .iload 4, 2, .inl (0, 0)),
  (52, .iload_n 1, 1, .inl (0, 0)),
  (53, .invokestatic 23, 3, .inr (.inr (.inr yX7_isLetter))),
  (56, .ifCond .eq 7, 3, .inl (63, 0)),
  (59, .iconst 1, 1, .inr (.inl 1)),
  (60, .goto 4, 3, .inl (64, 0)),
  (63, .iconst 0, 1, .inr (.inl 0)),
  (64, .istore 5, 2, .inl (0, 0)),
  (66, .iload 5, 2, .inl (0, 0)),
  (68, .ifCond .eq 8, 3, .inl (76, 0)),
  (71, .iload_n 2, 1, .inl (0, 0)),
  (72, .iconst 4, 1, .inr (.inl 4)),
  (73, .if_icmp .le 5, 3, .inl (78, 0)),
  (76, .iload_n 3, 1, .inl (0, 0)),
  (77, .ireturn, 1, .inl (0, 0)),
  (78, .iinc 3 1, 3, .inr (.inl 1)),
  (81, .goto (-77), 3, .inl (4, 0)),
  (84, .bipush (-6), 2, .inr (.inl (-6))),
  (86, .ireturn, 1, .inl (0, 0))]
def mX7_weekFault : pm_M := (yX7_weekFault, cX7_weekFault, 6, (some .int), tX7_weekFault)
theorem okX7_weekFault : pm_ok mX7_weekFault = true := by decide +kernel
def tX7_orderFault : List pm_E := [(0, .iconst 0, 1, .inr (.inl 0)),
  (1, .istore_n 2, 1, .inl (0, 0)),
  (2, .iconst 0, 1, .inr (.inl 0)),
  (3, .istore_n 3, 1, .inl (0, 0)),
  (4, .iload_n 3, 1, .inl (0, 0)),
  (5, .aload_n 0, 1, .inl (0, 0)),
  (6, .getfield 9, 3, .inl (3, 0)),
  (9, .if_icmp .ge 50, 3, .inl (59, 0)),
  (12, .aload_n 0, 1, .inl (0, 0)),
  (13, .iload_n 3, 1, .inl (0, 0)),
  (14, .invokevirtual 19, 3, .inr (.inr (.inr yX7_signAt))),
  (17, .istore 4, 2, .inl (0, 0)),
  (19, .iload 4, 2, .inl (0, 0)),
  (21, .iload_n 1, 1, .inl (0, 0)),
  (22, .invokestatic 23, 3, .inr (.inr (.inr yX7_isLetter))),
  (25, .ifCond .eq 16, 3, .inl (41, 0)),
  (28, .iload_n 2, 1, .inl (0, 0)),
  (29, .iload 4, 2, .inl (0, 0)),
  (31, .bipush 97, 2, .inr (.inl 97)),
  (33, .isub, 1, .inl (0, 0)),
  (34, .iushr, 1, .inl (0, 0)),
  (35, .iconst 1, 1, .inr (.inl 1)),
  (36, .iand, 1, .inl (0, 0)),
  (37, .iconst 1, 1, .inr (.inl 1)),
  (38, .if_icmp .ne 5, 3, .inl (43, 0)),
  (41, .iload_n 3, 1, .inl (0, 0)),
  (42, .ireturn, 1, .inl (0, 0)),
  (43, .iload_n 2, 1, .inl (0, 0)),
  (44, .iconst 1, 1, .inr (.inl 1)),
  (45, .iload 4, 2, .inl (0, 0)),
  (47, .bipush 97, 2, .inr (.inl 97)),
  (49, .isub, 1, .inl (0, 0)),
  (50, .ishl, 1, .inl (0, 0)),
  (51, .ior, 1, .inl (0, 0)),
  (52, .istore_n 2, 1, .inl (0, 0)),
  (53, .iinc 3 1, 3, .inr (.inl 1)),
  (56, .goto (-52), 3, .inl (4, 0)),
  (59, .aload_n 0, 1, .inl (0, 0)),
  (60, .getfield 9, 3, .inl (3, 0)),
  (63, .iload_n 1, 1, .inl (0, 0)),
  (64, .if_icmp .ge 10, 3, .inl (74, 0)),
  (67, .aload_n 0, 1, .inl (0, 0)),
  (68, .getfield 9, 3, .inl (3, 0)),
  (71, .goto 5, 3, .inl (76, 0)),
  (74, .bipush (-6), 2, .inr (.inl (-6))),
  (76, .ireturn, 1, .inl (0, 0))]
def mX7_orderFault : pm_M := (yX7_orderFault, cX7_orderFault, 5, (some .int), tX7_orderFault)
theorem okX7_orderFault : pm_ok mX7_orderFault = true := by decide +kernel
def tX7_wishFault : List pm_E := [(0, .iconst 0, 1, .inr (.inl 0)),
  (1, .istore_n 2, 1, .inl (0, 0)),
  (2, .iload_n 2, 1, .inl (0, 0)),
  (3, .aload_n 0, 1, .inl (0, 0)),
  (4, .getfield 9, 3, .inl (3, 0)),
  (7, .if_icmp .ge 49, 3, .inl (56, 0)),
  (10, .aload_n 0, 1, .inl (0, 0)),
  (11, .iload_n 2, 1, .inl (0, 0)),
  (12, .invokevirtual 19, 3, .inr (.inr (.inr yX7_signAt))),
  (15, .istore_n 3, 1, .inl (0, 0)),
  (16, .iload_n 3, 1, .inl (0, 0)),
  (17, .bipush 63, 2, .inr (.inl 63)),
  (19, .if_icmp .eq 12, 3, .inl (31, 0)),
  (22, .iload_n 3, 1, .inl (0, 0)),
  (23, .invokestatic 27, 3, .inr (.inr (.inr yX7_colourOf))),
  (26, .bipush (-6), 2, .inr (.inl (-6))),
  (28, .if_icmp .eq 7, 3, .inl (35, 0)),
  (31, .iconst 1, 1, .inr (.inl 1)),
  (32, .goto 4, 3, .inl (36, 0)),
  (35, .iconst 0, 1, .inr (.inl 0)),
  (36, .istore 4, 2, .inl (0, 0)),
  (38, .iload 4, 2, .inl (0, 0)),
  (40, .ifCond .eq 8, 3, .inl (48, 0)),
  (43, .iload_n 2, 1, .inl (0, 0)),
  (44, .iload_n 1, 1, .inl (0, 0)),
  (45, .if_icmp .lt 5, 3, .inl (50, 0)),
  (48, .iload_n 2, 1, .inl (0, 0)),
  (49, .ireturn, 1, .inl (0, 0)),
  (50, .iinc 2 1, 3, .inr (.inl 1)),
  (53, .goto (-51), 3, .inl (2, 0)),
  (56, .aload_n 0, 1, .inl (0, 0)),
  (57, .getfield 9, 3, .inl (3, 0)),
  (60, .ifCond .ne 7, 3, .inl (67, 0)),
  (63, .iconst 0, 1, .inr (.inl 0)),
  (64, .goto 5, 3, .inl (69, 0)),
  (67, .bipush (-6), 2, .inr (.inl (-6))),
  (69, .ireturn, 1, .inl (0, 0))]
def mX7_wishFault : pm_M := (yX7_wishFault, cX7_wishFault, 5, (some .int), tX7_wishFault)
theorem okX7_wishFault : pm_ok mX7_wishFault = true := by decide +kernel
def tX7_order : List pm_E := [(0, .iconst 0, 1, .inr (.inl 0)),
  (1, .istore_n 1, 1, .inl (0, 0)),
  (2, .iconst 0, 1, .inr (.inl 0)),
  (3, .istore_n 2, 1, .inl (0, 0)),
  (4, .iload_n 2, 1, .inl (0, 0)),
  (5, .aload_n 0, 1, .inl (0, 0)),
  (6, .getfield 9, 3, .inl (3, 0)),
  (9, .if_icmp .ge 30, 3, .inl (39, 0)),
  (12, .iload_n 2, 1, .inl (0, 0)),
  (13, .bipush 6, 2, .inr (.inl 6)),
  (15, .if_icmp .ge 24, 3, .inl (39, 0)),
  (18, .iload_n 1, 1, .inl (0, 0)),
  (19, .aload_n 0, 1, .inl (0, 0)),
  (20, .iload_n 2, 1, .inl (0, 0)),
  (21, .invokevirtual 19, 3, .inr (.inr (.inr yX7_signAt))),
  (24, .bipush 97, 2, .inr (.inl 97)),
  (26, .isub, 1, .inl (0, 0)),
  (27, .iload_n 2, 1, .inl (0, 0)),
  (28, .invokestatic 30, 3, .inr (.inr (.inr yX6_put))),
  (31, .ior, 1, .inl (0, 0)),
  (32, .istore_n 1, 1, .inl (0, 0)),
  (33, .iinc 2 1, 3, .inr (.inl 1)),
  (36, .goto (-32), 3, .inl (4, 0)),
  (39, .iload_n 1, 1, .inl (0, 0)),
  (40, .ireturn, 1, .inl (0, 0))]
def mX7_order : pm_M := (yX7_order, cX7_order, 3, (some .int), tX7_order)
theorem okX7_order : pm_ok mX7_order = true := by decide +kernel
def tX7_colourOf : List pm_E := [(0, .iload_n 0, 1, .inl (0, 0)),
  (1, .tableswitch 63 112 121 #[61, 63, 55, 63, 63, 63, 63, 57, 63, 59], 55, .inl (0, 0)),
  (56, .iconst 0, 1, .inr (.inl 0)),
  (57, .ireturn, 1, .inl (0, 0)),
  (58, .iconst 1, 1, .inr (.inl 1)),
  (59, .ireturn, 1, .inl (0, 0)),
  (60, .iconst 2, 1, .inr (.inl 2)),
  (61, .ireturn, 1, .inl (0, 0)),
  (62, .iconst 3, 1, .inr (.inl 3)),
  (63, .ireturn, 1, .inl (0, 0)),
  (64, .bipush (-6), 2, .inr (.inl (-6))),
  (66, .ireturn, 1, .inl (0, 0))]
def mX7_colourOf : pm_M := (yX7_colourOf, cX7_colourOf, 1, (some .int), tX7_colourOf)
theorem okX7_colourOf : pm_ok mX7_colourOf = true := by decide +kernel
def tX7_isLetter : List pm_E := [(0, .iload_n 0, 1, .inl (0, 0)),
  (1, .bipush 97, 2, .inr (.inl 97)),
  (3, .if_icmp .lt 15, 3, .inl (18, 0)),
  (6, .iload_n 0, 1, .inl (0, 0)),
  (7, .bipush 97, 2, .inr (.inl 97)),
  (9, .iload_n 1, 1, .inl (0, 0)),
  (10, .iadd, 1, .inl (0, 0)),
  (11, .if_icmp .ge 7, 3, .inl (18, 0)),
  (14, .iconst 1, 1, .inr (.inl 1)),
  (15, .goto 4, 3, .inl (19, 0)),
  (18, .iconst 0, 1, .inr (.inl 0)),
  (19, .ireturn, 1, .inl (0, 0))]
def mX7_isLetter : pm_M := (yX7_isLetter, cX7_isLetter, 2, (some .boolean), tX7_isLetter)
theorem okX7_isLetter : pm_ok mX7_isLetter = true := by decide +kernel
def tX8_length : List pm_E := [(0, .iload_n 0, 1, .inl (0, 0)),
  (1, .bipush 18, 2, .inr (.inl 18)),
  (3, .iushr, 1, .inl (0, 0)),
  (4, .bipush 63, 2, .inr (.inl 63)),
  (6, .iand, 1, .inl (0, 0)),
  (7, .invokestatic 9, 3, .inr (.inr (.inr yJ6_bitCount_0f7a4))),
  (10, .ireturn, 1, .inl (0, 0))]
def mX8_length : pm_M := (yX8_length, cX8_length, 1, (some .int), tX8_length)
theorem okX8_length : pm_ok mX8_length = true := by decide +kernel
def tX8_numberBloomed : List pm_E := [(0, .iload_n 0, 1, .inl (0, 0)),
  (1, .bipush 24, 2, .inr (.inl 24)),
  (3, .iushr, 1, .inl (0, 0)),
  (4, .bipush 63, 2, .inr (.inl 63)),
  (6, .iand, 1, .inl (0, 0)),
  (7, .invokestatic 9, 3, .inr (.inr (.inr yJ6_bitCount_0f7a4))),
  (10, .ireturn, 1, .inl (0, 0))]
def mX8_numberBloomed : pm_M := (yX8_numberBloomed, cX8_numberBloomed, 1, (some .int), tX8_numberBloomed)
theorem okX8_numberBloomed : pm_ok mX8_numberBloomed = true := by decide +kernel
def tX8_bedAt : List pm_E := [(0, .iload_n 0, 1, .inl (0, 0)),
  (1, .iload_n 1, 1, .inl (0, 0)),
  (2, .invokestatic 15, 3, .inr (.inr (.inr yX6_at))),
  (5, .ireturn, 1, .inl (0, 0))]
def mX8_bedAt : pm_M := (yX8_bedAt, cX8_bedAt, 2, (some .int), tX8_bedAt)
theorem okX8_bedAt : pm_ok mX8_bedAt = true := by decide +kernel
def tX8_isInRow : List pm_E := [(0, .iload_n 0, 1, .inl (0, 0)),
  (1, .bipush 18, 2, .inr (.inl 18)),
  (3, .iload_n 1, 1, .inl (0, 0)),
  (4, .iadd, 1, .inl (0, 0)),
  (5, .iushr, 1, .inl (0, 0)),
  (6, .iconst 1, 1, .inr (.inl 1)),
  (7, .iand, 1, .inl (0, 0)),
  (8, .iconst 1, 1, .inr (.inl 1)),
  (9, .if_icmp .ne 7, 3, .inl (16, 0)),
  (12, .iconst 1, 1, .inr (.inl 1)),
  (13, .goto 4, 3, .inl (17, 0)),
  (16, .iconst 0, 1, .inr (.inl 0)),
  (17, .ireturn, 1, .inl (0, 0))]
def mX8_isInRow : pm_M := (yX8_isInRow, cX8_isInRow, 2, (some .boolean), tX8_isInRow)
theorem okX8_isInRow : pm_ok mX8_isInRow = true := by decide +kernel
def tX8_hasBloomed : List pm_E := [(0, .iload_n 0, 1, .inl (0, 0)),
  (1, .bipush 24, 2, .inr (.inl 24)),
  (3, .iload_n 1, 1, .inl (0, 0)),
  (4, .iadd, 1, .inl (0, 0)),
  (5, .iushr, 1, .inl (0, 0)),
  (6, .iconst 1, 1, .inr (.inl 1)),
  (7, .iand, 1, .inl (0, 0)),
  (8, .iconst 1, 1, .inr (.inl 1)),
  (9, .if_icmp .ne 7, 3, .inl (16, 0)),
  (12, .iconst 1, 1, .inr (.inl 1)),
  (13, .goto 4, 3, .inl (17, 0)),
  (16, .iconst 0, 1, .inr (.inl 0)),
  (17, .ireturn, 1, .inl (0, 0))]
def mX8_hasBloomed : pm_M := (yX8_hasBloomed, cX8_hasBloomed, 2, (some .boolean), tX8_hasBloomed)
theorem okX8_hasBloomed : pm_ok mX8_hasBloomed = true := by decide +kernel
def tX8_watered : List pm_E := [(0, .iload_n 0, 1, .inl (0, 0)),
  (1, .iload_n 1, 1, .inl (0, 0)),
  (2, .invokestatic 21, 3, .inr (.inr (.inr yX8_isInRow))),
  (5, .ifCond .eq 15, 3, .inl (20, 0)),
  (8, .iload_n 0, 1, .inl (0, 0)),
  (9, .iload_n 0, 1, .inl (0, 0)),
  (10, .iload_n 1, 1, .inl (0, 0)),
  (11, .invokestatic 25, 3, .inr (.inr (.inr yX8_placeOf))),
  (14, .invokestatic 28, 3, .inr (.inr (.inr yX8_without))),
  (17, .goto 4, 3, .inl (21, 0)),
  (20, .iload_n 0, 1, .inl (0, 0)),
  (21, .istore_n 2, 1, .inl (0, 0)),
  (22, .iload_n 2, 1, .inl (0, 0)),
  (23, .iload_n 1, 1, .inl (0, 0)),
  (24, .iload_n 2, 1, .inl (0, 0)),
  (25, .invokestatic 31, 3, .inr (.inr (.inr yX8_length))),
  (28, .invokestatic 34, 3, .inr (.inr (.inr yX6_put))),
  (31, .ior, 1, .inl (0, 0)),
  (32, .iconst 1, 1, .inr (.inl 1)),
  (33, .bipush 18, 2, .inr (.inl 18)),
  (35, .iload_n 1, 1, .inl (0, 0)),
  (36, .iadd, 1, .inl (0, 0)),
  (37, .ishl, 1, .inl (0, 0)),
  (38, .ior, 1, .inl (0, 0)),
  (39, .ireturn, 1, .inl (0, 0))]
def mX8_watered : pm_M := (yX8_watered, cX8_watered, 3, (some .int), tX8_watered)
theorem okX8_watered : pm_ok mX8_watered = true := by decide +kernel
def tX8_rained : List pm_E := [(0, .iload_n 0, 1, .inl (0, 0)),
  (1, .ldc 37, 2, .inr (.inl 1056964608)),
  (3, .iand, 1, .inl (0, 0)),
  (4, .istore_n 2, 1, .inl (0, 0)),
  (5, .iconst 0, 1, .inr (.inl 0)),
  (6, .istore_n 3, 1, .inl (0, 0)),
  (7, .iconst 0, 1, .inr (.inl 0)),
  (8, .istore 4, 2, .inl (0, 0)),
  (10, .iload 4, 2, .inl (0, 0)),
  (12, .iload_n 1, 1, .inl (0, 0)),
  (13, .if_icmp .ge 38, 3, .inl (51, 0)),
  (16, .iload_n 0, 1, .inl (0, 0)),
  (17, .iload 4, 2, .inl (0, 0)),
  (19, .invokestatic 38, 3, .inr (.inr (.inr yX8_hasBloomed))),
  (22, .ifCond .ne 23, 3, .inl (45, 0)),
  (25, .iload_n 2, 1, .inl (0, 0)),
  (26, .iload 4, 2, .inl (0, 0)),
  (28, .iload_n 3, 1, .inl (0, 0)),
  (29, .invokestatic 34, 3, .inr (.inr (.inr yX6_put))),
  (32, .iconst 1, 1, .inr (.inl 1)),
  (33, .bipush 18, 2, .inr (.inl 18)),
  (35, .iload 4, 2, .inl (0, 0)),
  (37, .iadd, 1, .inl (0, 0)),
  (38, .ishl, 1, .inl (0, 0)),
  (39, .ior, 1, .inl (0, 0)),
  (40, .ior, 1, .inl (0, 0)),
  (41, .istore_n 2, 1, .inl (0, 0)),
  (42, .iinc 3 1, 3, .inr (.inl 1)),
  (45, .iinc 4 1, 3, .inr (.inl 1)),
  (48, .goto (-38), 3, .inl (10, 0)),
  (51, .iload_n 2, 1, .inl (0, 0)),
  (52, .ireturn, 1, .inl (0, 0))]
def mX8_rained : pm_M := (yX8_rained, cX8_rained, 5, (some .int), tX8_rained)
theorem okX8_rained : pm_ok mX8_rained = true := by decide +kernel
def tX8_afterBloom : List pm_E := [(0, .iload_n 0, 1, .inl (0, 0)),
  (1, .iload_n 1, 1, .inl (0, 0)),
  (2, .invokestatic 28, 3, .inr (.inr (.inr yX8_without))),
  (5, .iconst 1, 1, .inr (.inl 1)),
  (6, .bipush 24, 2, .inr (.inl 24)),
  (8, .iload_n 0, 1, .inl (0, 0)),
  (9, .iload_n 1, 1, .inl (0, 0)),
  (10, .invokestatic 41, 3, .inr (.inr (.inr yX8_bedAt))),
  (13, .iadd, 1, .inl (0, 0)),
  (14, .ishl, 1, .inl (0, 0)),
  (15, .ior, 1, .inl (0, 0)),
  (16, .ireturn, 1, .inl (0, 0))]
def mX8_afterBloom : pm_M := (yX8_afterBloom, cX8_afterBloom, 2, (some .int), tX8_afterBloom)
theorem okX8_afterBloom : pm_ok mX8_afterBloom = true := by decide +kernel
def tX8_placeOf : List pm_E := [(0, .iload_n 0, 1, .inl (0, 0)),
  (1, .invokestatic 31, 3, .inr (.inr (.inr yX8_length))),
  (4, .iconst 1, 1, .inr (.inl 1)),
  (5, .isub, 1, .inl (0, 0)),
  (6, .istore_n 2, 1, .inl (0, 0)),
  (7, .iconst 0, 1, .inr (.inl 0)),
  (8, .istore_n 3, 1, .inl (0, 0)),
  (9, .iload_n 3, 1, .inl (0, 0)),
  (10, .iload_n 2, 1, .inl (0, 0)),
  (11, .if_icmp .ge 20, 3, .inl (31, 0)),
  (14, .iload_n 0, 1, .inl (0, 0)),
  (15, .iload_n 3, 1, .inl (0, 0)),
  (16, .invokestatic 41, 3, .inr (.inr (.inr yX8_bedAt))),
  (19, .iload_n 1, 1, .inl (0, 0)),
  (20, .if_icmp .ne 5, 3, .inl (25, 0)),
  (23, .iload_n 3, 1, .inl (0, 0)),
  (24, .ireturn, 1, .inl (0, 0)),
  (25, .iinc 3 1, 3, .inr (.inl 1)),
  (28, .goto (-19), 3, .inl (9, 0)),
  (31, .iload_n 2, 1, .inl (0, 0)),
  (32, .ireturn, 1, .inl (0, 0))]
def mX8_placeOf : pm_M := (yX8_placeOf, cX8_placeOf, 4, (some .int), tX8_placeOf)
theorem okX8_placeOf : pm_ok mX8_placeOf = true := by decide +kernel
def tX8_without : List pm_E := [(0, .iload_n 0, 1, .inl (0, 0)),
  (1, .ldc 44, 2, .inr (.inl 262143)),
  (3, .iand, 1, .inl (0, 0)),
  (4, .istore_n 2, 1, .inl (0, 0)),
  (5, .iload_n 2, 1, .inl (0, 0)),
  (6, .iconst 1, 1, .inr (.inl 1)),
  (7, .iconst 3, 1, .inr (.inl 3)),
  (8, .iload_n 1, 1, .inl (0, 0)),
  (9, .imul, 1, .inl (0, 0)),
  (10, .ishl, 1, .inl (0, 0)),
  (11, .iconst 1, 1, .inr (.inl 1)),
  (12, .isub, 1, .inl (0, 0)),
  (13, .iand, 1, .inl (0, 0)),
  (14, .istore_n 3, 1, .inl (0, 0)),
  (15, .iload_n 2, 1, .inl (0, 0)),
  (16, .iconst 3, 1, .inr (.inl 3)),
  (17, .iload_n 1, 1, .inl (0, 0)),
  (18, .iconst 1, 1, .inr (.inl 1)),
  (19, .iadd, 1, .inl (0, 0)),
  (20, .imul, 1, .inl (0, 0)),
  (21, .iushr, 1, .inl (0, 0)),
  (22, .istore 4, 2, .inl (0, 0)),
  (24, .iload_n 0, 1, .inl (0, 0)),
  (25, .ldc 45, 2, .inr (.inl (-262144))),
  (27, .iand, 1, .inl (0, 0)),
  (28, .iconst 1, 1, .inr (.inl 1)),
  (29, .bipush 18, 2, .inr (.inl 18)),
  (31, .iload_n 2, 1, .inl (0, 0)),
  (32, .iload_n 1, 1, .inl (0, 0)),
  (33, .invokestatic 15, 3, .inr (.inr (.inr yX6_at))),
  (36, .iadd, 1, .inl (0, 0)),
  (37, .ishl, 1, .inl (0, 0)),
  (38, .iconst (-1), 1, .inr (.inl (-1))),
  (39, .ixor, 1, .inl (0, 0)),
  (40, .iand, 1, .inl (0, 0)),
  (41, .istore 5, 2, .inl (0, 0)),
  (43, .iload 5, 2, .inl (0, 0)),
  (45, .iload_n 3, 1, .inl (0, 0)),
  (46, .ior, 1, .inl (0, 0)),
  (47, .iload 4, 2, .inl (0, 0)),
  (49, .iload_n 1, 1, .inl (0, 0)),
  (50, .invokestatic 34, 3, .inr (.inr (.inr yX6_put))),
  (53, .ior, 1, .inl (0, 0)),
  (54, .ireturn, 1, .inl (0, 0))]
def mX8_without : pm_M := (yX8_without, cX8_without, 6, (some .int), tX8_without)
theorem okX8_without : pm_ok mX8_without = true := by decide +kernel
def tX9_init : List pm_E := [(0, .aload_n 0, 1, .inl (0, 0)),
  (1, .invokespecial 3, 3, .inr (.inr (.inr Lib.objectInit))),
  (4, .aload_n 0, 1, .inl (0, 0)),
  (5, .iconst 0, 1, .inr (.inl 0)),
  (6, .putfield 9, 3, .inl (4, 0)),
  (9, .aload_n 0, 1, .inl (0, 0)),
  (10, .bipush (-6), 2, .inr (.inl (-6))),
  (12, .putfield 15, 3, .inl (4, 1)),
  (15, .aload_n 0, 1, .inl (0, 0)),
  (16, .iconst 0, 1, .inr (.inl 0)),
  (17, .putfield 19, 3, .inl (4, 2)),
  (20, .aload_n 0, 1, .inl (0, 0)),
  (21, .bipush 13, 2, .inr (.inl 13)),
  (23, .newarray .int, 2, .inl (0, 0)),
  (25, .putfield 22, 3, .inl (4, 3)),
  (28, .aload_n 0, 1, .inl (0, 0)),
  (29, .new 26, 3, .inl (2, 0)),
  (32, .dup, 1, .inl (0, 0)),
  (33, .invokespecial 28, 3, .inr (.inr (.inr yX4_init))),
  (36, .putfield 29, 3, .inl (4, 4)),
  (39, .return_, 1, .inl (0, 0))]
def mX9_init : pm_M := (yX9_init, cX9_init, 1, none, tX9_init)
theorem okX9_init : pm_ok mX9_init = true := by decide +kernel
def tX9_search : List pm_E := [(0, .aload_n 0, 1, .inl (0, 0)),
  (1, .iconst 1, 1, .inr (.inl 1)),
  (2, .putfield 9, 3, .inl (4, 0)),
  (5, .aload_n 0, 1, .inl (0, 0)),
  (6, .bipush (-6), 2, .inr (.inl (-6))),
  (8, .putfield 15, 3, .inl (4, 1)),
  (11, .aload_n 0, 1, .inl (0, 0)),
  (12, .iconst 0, 1, .inr (.inl 0)),
  (13, .putfield 19, 3, .inl (4, 2)),
  (16, .aload_n 1, 1, .inl (0, 0)),
  (17, .aload_n 2, 1, .inl (0, 0)),
  (18, .invokestatic 33, 3, .inr (.inr (.inr yX9_hasBedsFor))),
  (21, .ifCond .ne 4, 3, .inl (25, 0)),
  (24, .return_, 1, .inl (0, 0)),
  (25, .aload_n 0, 1, .inl (0, 0)),
  (26, .getfield 29, 3, .inl (4, 4)),
  (29, .invokevirtual 37, 3, .inr (.inr (.inr yX4_clear))),
  (32, .iconst 0, 1, .inr (.inl 0)),
  (33, .istore_n 3, 1, .inl (0, 0)),
  (34, .iload_n 3, 1, .inl (0, 0)),
  (35, .bipush 7, 2, .inr (.inl 7)),
  (37, .if_icmp .gt 30, 3, .inl (67, 0)),
  (40, .aload_n 0, 1, .inl (0, 0)),
  (41, .aload_n 1, 1, .inl (0, 0)),
  (42, .aload_n 2, 1, .inl (0, 0)),
  (43, .aload_n 1, 1, .inl (0, 0)),
  (44, .getfield 40, 3, .inl (1, 4)),
  (47, .iload_n 3, 1, .inl (0, 0)),
  (48, .iconst 0, 1, .inr (.inl 0)),
  (49, .invokevirtual 45, 3, .inr (.inr (.inr yX9_isReached))),
  (52, .ifCond .eq 9, 3, .inl (61, 0)),
  (55, .aload_n 0, 1, .inl (0, 0)),
  (56, .iload_n 3, 1, .inl (0, 0)),
  (57, .putfield 15, 3, .inl (4, 1)),
  (60, .return_, 1, .inl (0, 0)),
  (61, .iinc 3 1, 3, .inr (.inl 1)),
  (64, .goto (-30), 3, .inl (34, 0)),
  (67, .return_, 1, .inl (0, 0))]
def mX9_search : pm_M := (yX9_search, cX9_search, 4, none, tX9_search)
theorem okX9_search : pm_ok mX9_search = true := by decide +kernel
def tX9_signAt : List pm_E := [(0, .iload_n 1, 1, .inl (0, 0)),
  (1, .ifCond .lt 29, 3, .inl (30, 0)),
  (4, .iload_n 1, 1, .inl (0, 0)),
  (5, .aload_n 0, 1, .inl (0, 0)),
  (6, .getfield 19, 3, .inl (4, 2)),
  (9, .if_icmp .ge 21, 3, .inl (30, 0)),
  (12, .iload_n 1, 1, .inl (0, 0)),
  (13, .aload_n 0, 1, .inl (0, 0)),
  (14, .getfield 22, 3, .inl (4, 3)),
  (17, .arraylength, 1, .inl (0, 0)),
  (18, .if_icmp .ge 12, 3, .inl (30, 0)),
  (21, .aload_n 0, 1, .inl (0, 0)),
  (22, .getfield 22, 3, .inl (4, 3)),
  (25, .iload_n 1, 1, .inl (0, 0)),
  (26, .iaload, 1, .inl (0, 0)),
  (27, .goto 5, 3, .inl (32, 0)),
  (30, .bipush (-6), 2, .inr (.inl (-6))),
  (32, .ireturn, 1, .inl (0, 0))]
def mX9_signAt : pm_M := (yX9_signAt, cX9_signAt, 2, (some .int), tX9_signAt)
theorem okX9_signAt : pm_ok mX9_signAt = true := by decide +kernel
def tX9_hasBedsFor : List pm_E := [(0, .aload_n 1, 1, .inl (0, 0)),
  (1, .getfield 49, 3, .inl (3, 0)),
  (4, .aload_n 0, 1, .inl (0, 0)),
  (5, .getfield 54, 3, .inl (1, 0)),
  (8, .aload_n 0, 1, .inl (0, 0)),
  (9, .getfield 40, 3, .inl (1, 4)),
  (12, .invokestatic 57, 3, .inr (.inr (.inr yX8_numberBloomed))),
  (15, .isub, 1, .inl (0, 0)),
  (16, .if_icmp .le 5, 3, .inl (21, 0)),
  (19, .iconst 0, 1, .inr (.inl 0)),
  (20, .ireturn, 1, .inl (0, 0)),
  (21, .iconst 0, 1, .inr (.inl 0)),
  (22, .istore_n 2, 1, .inl (0, 0)),
  (23, .iload_n 2, 1, .inl (0, 0)),
  (24, .aload_n 1, 1, .inl (0, 0)),
  (25, .getfield 49, 3, .inl (3, 0)),
  (28, .if_icmp .ge 36, 3, .inl (64, 0)),
  (31, .aload_n 1, 1, .inl (0, 0)),
  (32, .iload_n 2, 1, .inl (0, 0)),
  (33, .invokevirtual 63, 3, .inr (.inr (.inr yX7_signAt))),
  (36, .istore_n 3, 1, .inl (0, 0)),
  (37, .iload_n 3, 1, .inl (0, 0)),
  (38, .bipush 63, 2, .inr (.inl 63)),
  (40, .if_icmp .eq 18, 3, .inl (58, 0)),
  (43, .aload_n 1, 1, .inl (0, 0)),
  (44, .iload_n 3, 1, .inl (0, 0)),
  (45, .invokevirtual 66, 3, .inr (.inr (.inr yX7_numberOf))),
  (48, .aload_n 0, 1, .inl (0, 0)),
  (49, .iload_n 3, 1, .inl (0, 0)),
  (50, .invokestatic 69, 3, .inr (.inr (.inr yX9_numberToBloom))),
  (53, .if_icmp .le 5, 3, .inl (58, 0)),
  (56, .iconst 0, 1, .inr (.inl 0)),
  (57, .ireturn, 1, .inl (0, 0)),
  (58, .iinc 2 1, 3, .inr (.inl 1)),
  (61, .goto (-38), 3, .inl (23, 0)),
  (64, .iconst 1, 1, .inr (.inl 1)),
  (65, .ireturn, 1, .inl (0, 0))]
def mX9_hasBedsFor : pm_M := (yX9_hasBedsFor, cX9_hasBedsFor, 4, (some .boolean), tX9_hasBedsFor)
theorem okX9_hasBedsFor : pm_ok mX9_hasBedsFor = true := by decide +kernel
def tX9_numberToBloom : List pm_E := [(0, .iconst 0, 1, .inr (.inl 0)),
  (1, .istore_n 2, 1, .inl (0, 0)),
  (2, .iconst 0, 1, .inr (.inl 0)),
  (3, .istore_n 3, 1, .inl (0, 0)),
  (4, .iload_n 3, 1, .inl (0, 0)),
  (5, .aload_n 0, 1, .inl (0, 0)),
  (6, .getfield 54, 3, .inl (1, 0)),
  (9, .if_icmp .ge 32, 3, .inl (41, 0)),
  (12, .aload_n 0, 1, .inl (0, 0)),
  (13, .getfield 40, 3, .inl (1, 4)),
  (16, .iload_n 3, 1, .inl (0, 0)),
  (17, .invokestatic 73, 3, .inr (.inr (.inr yX8_hasBloomed))),
  (20, .ifCond .ne 15, 3, .inl (35, 0)),
  (23, .aload_n 0, 1, .inl (0, 0)),
  (24, .iload_n 1, 1, .inl (0, 0)),
  (25, .iload_n 3, 1, .inl (0, 0)),
  (26, .invokevirtual 77, 3, .inr (.inr (.inr yX2_pleases))),
  (29, .ifCond .eq 6, 3, .inl (35, 0)),
  (32, .iinc 2 1, 3, .inr (.inl 1)),
  (35, .iinc 3 1, 3, .inr (.inl 1)),
  (38, .goto (-34), 3, .inl (4, 0)),
  (41, .iload_n 2, 1, .inl (0, 0)),
  (42, .ireturn, 1, .inl (0, 0))]
def mX9_numberToBloom : pm_M := (yX9_numberToBloom, cX9_numberToBloom, 4, (some .int), tX9_numberToBloom)
theorem okX9_numberToBloom : pm_ok mX9_numberToBloom = true := by decide +kernel
def tX9_isReached : List pm_E := [(0, .iload_n 3, 1, .inl (0, 0)),
  (1, .invokestatic 57, 3, .inr (.inr (.inr yX8_numberBloomed))),
  (4, .aload_n 1, 1, .inl (0, 0)),
  (5, .getfield 40, 3, .inl (1, 4)),
  (8, .invokestatic 57, 3, .inr (.inr (.inr yX8_numberBloomed))),
  (11, .isub, 1, .inl (0, 0)),
  (12, .istore 6, 2, .inl (0, 0)),
  (14, .iload 6, 2, .inl (0, 0)),
  (16, .aload_n 2, 1, .inl (0, 0)),
  (17, .getfield 49, 3, .inl (3, 0)),
  (20, .if_icmp .lt 11, 3, .inl (31, 0)),
  (23, .aload_n 0, 1, .inl (0, 0)),
  (24, .iload 5, 2, .inl (0, 0)),
  (26, .putfield 19, 3, .inl (4, 2)),
  (29, .iconst 1, 1, .inr (.inl 1)),
  (30, .ireturn, 1, .inl (0, 0)),
  (31, .aload_n 0, 1, .inl (0, 0)),
  (32, .getfield 29, 3, .inl (4, 4)),
  (35, .iload_n 3, 1, .inl (0, 0)),
  (36, .invokevirtual 80, 3, .inr (.inr (.inr yX4_slotOf))),
  (39, .istore 7, 2, .inl (0, 0)),
  (41, .iload 5, 2, .inl (0, 0)),
  (43, .ifCond .lt 27, 3, .inl (70, 0)),
  (46, .iload 5, 2, .inl (0, 0)),
  (48, .aload_n 0, 1, .inl (0, 0)),
  (49, .getfield 22, 3, .inl (4, 3)),
  (52, .arraylength, 1, .inl (0, 0)),
  (53, .if_icmp .ge 17, 3, .inl (70, 0)),
  (56, .aload_n 0, 1, .inl (0, 0)),
  (57, .getfield 29, 3, .inl (4, 4)),
  (60, .iload 7, 2, .inl (0, 0)),
  (62, .invokevirtual 83, 3, .inr (.inr (.inr yX4_failedWith))),
  (65, .iload 4, 2, .inl (0, 0)),
  (67, .if_icmp .lt 5, 3, .inl (72, 0)),
  (70, .iconst 0, 1, .inr (.inl 0)),
  (71, .ireturn, 1, .inl (0, 0)),
  (72, .iload 4, 2, .inl (0, 0)),
  (74, .ifCond .le 12, 3, .inl (86, 0)),
  (77, .aload_n 1, 1, .inl (0, 0)),
  (78, .getfield 54, 3, .inl (1, 0)),
  (81, .iconst 2, 1, .inr (.inl 2)),
  (82, .iadd, 1, .inl (0, 0)),
  (83, .goto 4, 3, .inl (87, 0)),
  (86, .iconst 1, 1, .inr (.inl 1)),
  (87, .istore 8, 2, .inl (0, 0)),
  (89, .iconst 0, 1, .inr (.inl 0)),
  (90, .istore 9, 2, .inl (0, 0)),
  (92, .iload 9, 2, .inl (0, 0)),
  (94, .iload 8, 2, .inl (0, 0)),
  (96, .if_icmp .ge 87, 3, .inl (183, 0)),
  (99, .iload 9, 2, .inl (0, 0)),
  (101, .aload_n 1, 1, .inl (0, 0)),
  (102, .getfield 54, 3, .inl (1, 0)),
  (105, .invokestatic 86, 3, .inr (.inr (.inr yX9_signOf))),
  (108, .istore 10, 2, .inl (0, 0)),
  (110, .aload_n 1, 1, .inl (0, 0)),
  (111, .iload_n 3, 1, .inl (0, 0)),
  (112, .iload 10, 2, .inl (0, 0)),
  (114, .aload_n 2, 1, .inl (0, 0)),
  (115, .iload 6, 2, .inl (0, 0)),
  (117, .invokevirtual 63, 3, .inr (.inr (.inr yX7_signAt))),
  (120, .invokestatic 90, 3, .inr (.inr (.inr yX9_isFitting))),
  (123, .ifCond .eq 54, 3, .inl (177, 0)),
  (126, .aload_n 0, 1, .inl (0, 0)),
  (127, .getfield 22, 3, .inl (4, 3)),
  (130, .iload 5, 2, .inl (0, 0)),
  (132, .iload 10, 2, .inl (0, 0)),
  (134, .iastore, 1, .inl (0, 0)),
  (135, .aload_n 1, 1, .inl (0, 0)),
  (136, .iload_n 3, 1, .inl (0, 0)),
  (137, .iload 10, 2, .inl (0, 0)),
  (139, .invokevirtual 94, 3, .inr (.inr (.inr yX2_after))),
  (142, .istore 11, 2, .inl (0, 0)),
  (144, .aload_n 0, 1, .inl (0, 0)),
  (145, .aload_n 1, 1, .inl (0, 0)),
  (146, .aload_n 2, 1, .inl (0, 0)),
  (147, .iload 11, 2, .inl (0, 0)),
  (149, .iload 10, 2, .inl (0, 0)),
  (151, .bipush 46, 2, .inr (.inl 46)),
  (153, .if_icmp .ne 8, 3, .inl (161, 0)),
  (156, .iload 4, 2, .inl (0, 0)),
  (158, .goto 7, 3, .inl (165, 0)),
  (161, .iload 4, 2, .inl (0, 0)),
  (163, .iconst 1, 1, .inr (.inl 1)),
  (164, .isub, 1, .inl (0, 0)),
  (165, .iload 5, 2, .inl (0, 0)),
  (167, .iconst 1, 1, .inr (.inl 1)),
  (168, .iadd, 1, .inl (0, 0)),
  (169, .invokevirtual 45, 3, .inr (.inr (.inr yX9_isReached))),
  (172, .ifCond .eq 5, 3, .inl (177, 0)),
  (175, .iconst 1, 1, .inr (.inl 1)),
  (176, .ireturn, 1, .inl (0, 0)),
  (177, .iinc 9 1, 3, .inr (.inl 1)),
  (180, .goto (-88), 3, .inl (92, 0)),
  (183, .aload_n 0, 1, .inl (0, 0)),
  (184, .getfield 29, 3, .inl (4, 4)),
  (187, .iload 7, 2, .inl (0, 0)),
  (189, .iload 4, 2, .inl (0, 0)),
  (191, .invokevirtual 97, 3, .inr (.inr (.inr yX4_keep))),
  (194, .iconst 0, 1, .inr (.inl 0)),
  (195, .ireturn, 1, .inl (0, 0))]
def mX9_isReached : pm_M := (yX9_isReached, cX9_isReached, 12, (some .boolean), tX9_isReached)
theorem okX9_isReached : pm_ok mX9_isReached = true := by decide +kernel
def tX9_signOf : List pm_E := [(0, .iload_n 0, 1, .inl (0, 0)),
  (1, .ifCond .ne 6, 3, .inl (7, 0)),
  (4, .bipush 46, 2, .inr (.inl 46)),
  (6, .ireturn, 1, .inl (0, 0)),
  (7, .iload_n 0, 1, .inl (0, 0)),
  (8, .iload_n 1, 1, .inl (0, 0)),
  (9, .if_icmp .gt 12, 3, .inl (21, 0)),
  (12, .bipush 97, 2, .inr (.inl 97)),
  (14, .iload_n 0, 1, .inl (0, 0)),
  (15, .iadd, 1, .inl (0, 0)),
  (16, .iconst 1, 1, .inr (.inl 1)),
  (17, .isub, 1, .inl (0, 0)),
  (18, .goto 5, 3, .inl (23, 0)),
  (21, .bipush 42, 2, .inr (.inl 42)),
  (23, .ireturn, 1, .inl (0, 0))]
def mX9_signOf : pm_M := (yX9_signOf, cX9_signOf, 2, (some .int), tX9_signOf)
theorem okX9_signOf : pm_ok mX9_signOf = true := by decide +kernel
def tX9_isFitting : List pm_E := [(0, .iload_n 2, 1, .inl (0, 0)),
  (1, .bipush 46, 2, .inr (.inl 46)),
  (3, .if_icmp .ne 14, 3, .inl (17, 0)),
  (6, .aload_n 0, 1, .inl (0, 0)),
  (7, .iload_n 3, 1, .inl (0, 0)),
  (8, .aload_n 0, 1, .inl (0, 0)),
  (9, .iload_n 1, 1, .inl (0, 0)),
  (10, .invokevirtual 101, 3, .inr (.inr (.inr yX2_nextBed))),
  (13, .invokevirtual 77, 3, .inr (.inr (.inr yX2_pleases))),
  (16, .ireturn, 1, .inl (0, 0)),
  (17, .aload_n 0, 1, .inl (0, 0)),
  (18, .iload_n 1, 1, .inl (0, 0)),
  (19, .iload_n 2, 1, .inl (0, 0)),
  (20, .invokevirtual 104, 3, .inr (.inr (.inr yX2_whyNot))),
  (23, .ifCond .ne 7, 3, .inl (30, 0)),
  (26, .iconst 1, 1, .inr (.inl 1)),
  (27, .goto 4, 3, .inl (31, 0)),
  (30, .iconst 0, 1, .inr (.inl 0)),
  (31, .ireturn, 1, .inl (0, 0))]
def mX9_isFitting : pm_M := (yX9_isFitting, cX9_isFitting, 4, (some .boolean), tX9_isFitting)
theorem okX9_isFitting : pm_ok mX9_isFitting = true := by decide +kernel
end
section
def tX10_init : List pm_E := [(0, .aload_n 0, 1, .inl (0, 0)),
  (1, .invokespecial 1, 3, .inr (.inr (.inr Lib.objectInit))),
  (4, .aload_n 0, 1, .inl (0, 0)),
  (5, .new 7, 3, .inl (3, 0)),
  (8, .dup, 1, .inl (0, 0)),
  (9, .invokespecial 9, 3, .inr (.inr (.inr yX7_init))),
  (12, .putfield 10, 3, .inl (5, 0)),
  (15, .aload_n 0, 1, .inl (0, 0)),
  (16, .new 16, 3, .inl (1, 0)),
  (19, .dup, 1, .inl (0, 0)),
  (20, .invokespecial 18, 3, .inr (.inr (.inr yX2_init))),
  (23, .putfield 19, 3, .inl (5, 1)),
  (26, .aload_n 0, 1, .inl (0, 0)),
  (27, .iconst 2, 1, .inr (.inl 2)),
  (28, .anewarray 16, 3, .inl (1, 0)),
  (31, .putfield 23, 3, .inl (5, 2)),
  (34, .aload_n 0, 1, .inl (0, 0)),
  (35, .new 27, 3, .inl (0, 0)),
  (38, .dup, 1, .inl (0, 0)),
  (39, .invokespecial 29, 3, .inr (.inr (.inr yX1_init))),
  (42, .putfield 30, 3, .inl (5, 3)),
  (45, .aload_n 0, 1, .inl (0, 0)),
  (46, .new 34, 3, .inl (4, 0)),
  (49, .dup, 1, .inl (0, 0)),
  (50, .invokespecial 36, 3, .inr (.inr (.inr yX9_init))),
  (53, .putfield 37, 3, .inl (5, 4)),
  (56, .aload_n 0, 1, .inl (0, 0)),
  (57, .bipush 31, 2, .inr (.inl 31)),
  (59, .newarray .long, 2, .inl (0, 0)),
  (61, .putfield 41, 3, .inl (5, 5)),
  (64, .return_, 1, .inl (0, 0))]
def mX10_init : pm_M := (yX10_init, cX10_init, 1, none, tX10_init)
theorem okX10_init : pm_ok mX10_init = true := by decide +kernel
def tX10_beds : List pm_E := [(0, .iload_n 1, 1, .inl (0, 0)),
  (1, .iconst 2, 1, .inr (.inl 2)),
  (2, .if_icmp .lt 9, 3, .inl (11, 0)),
  (5, .iload_n 1, 1, .inl (0, 0)),
  (6, .bipush 6, 2, .inr (.inl 6)),
  (8, .if_icmp .le 6, 3, .inl (14, 0)),
  (11, .bipush (-2), 2, .inr (.inl (-2))),
  (13, .ireturn, 1, .inl (0, 0)),
  (14, .aload_n 0, 1, .inl (0, 0)),
  (15, .getfield 19, 3, .inl (5, 1)),
  (18, .getfield 45, 3, .inl (1, 0)),
  (21, .istore_n 2, 1, .inl (0, 0)),
  (22, .aload_n 0, 1, .inl (0, 0)),
  (23, .getfield 19, 3, .inl (5, 1)),
  (26, .iload_n 1, 1, .inl (0, 0)),
  (27, .invokevirtual 49, 3, .inr (.inr (.inr yX2_layOut))),
  (30, .aload_n 0, 1, .inl (0, 0)),
  (31, .invokevirtual 53, 3, .inr (.inr (.inr yX10_dropAnswers))),
  (34, .iload_n 2, 1, .inl (0, 0)),
  (35, .ireturn, 1, .inl (0, 0))]
def mX10_beds : pm_M := (yX10_beds, cX10_beds, 3, (some .int), tX10_beds)
theorem okX10_beds : pm_ok mX10_beds = true := by decide +kernel
def tX10_colour : List pm_E := [(0, .aload_n 0, 1, .inl (0, 0)),
  (1, .getfield 19, 3, .inl (5, 1)),
  (4, .iload_n 1, 1, .inl (0, 0)),
  (5, .invokevirtual 56, 3, .inr (.inr (.inr yX2_isBed))),
  (8, .ifCond .ne 5, 3, .inl (13, 0)),
  (11, .iconst (-1), 1, .inr (.inl (-1))),
  (12, .ireturn, 1, .inl (0, 0)),
  (13, .iload_n 2, 1, .inl (0, 0)),
  (14, .ifCond .lt 8, 3, .inl (22, 0)),
  (17, .iload_n 2, 1, .inl (0, 0)),
  (18, .iconst 4, 1, .inr (.inl 4)),
  (19, .if_icmp .lt 6, 3, .inl (25, 0)),
  (22, .bipush (-2), 2, .inr (.inl (-2))),
  (24, .ireturn, 1, .inl (0, 0)),
  (25, .aload_n 0, 1, .inl (0, 0)),
  (26, .getfield 19, 3, .inl (5, 1)),
  (29, .getfield 60, 3, .inl (1, 6)),
  (32, .iload_n 1, 1, .inl (0, 0)),
  (33, .iaload, 1, .inl (0, 0)),
  (34, .istore_n 3, 1, .inl (0, 0)),
  (35, .aload_n 0, 1, .inl (0, 0)),
  (36, .getfield 19, 3, .inl (5, 1)),
  (39, .getfield 60, 3, .inl (1, 6)),
  (42, .iload_n 1, 1, .inl (0, 0)),
  (43, .iload_n 2, 1, .inl (0, 0)),
  (44, .iastore, 1, .inl (0, 0)),
  (45, .aload_n 0, 1, .inl (0, 0)),
  (46, .invokevirtual 53, 3, .inr (.inr (.inr yX10_dropAnswers))),
  (49, .iload_n 3, 1, .inl (0, 0)),
  (50, .ireturn, 1, .inl (0, 0))]
def mX10_colour : pm_M := (yX10_colour, cX10_colour, 4, (some .int), tX10_colour)
theorem okX10_colour : pm_ok mX10_colour = true := by decide +kernel
def tX10_past : List pm_E := [(0, .iload_n 2, 1, .inl (0, 0)),
  (1, .iconst (-1), 1, .inr (.inl (-1))),
  (2, .if_icmp .eq 14, 3, .inl (16, 0)),
  (5, .aload_n 0, 1, .inl (0, 0)),
  (6, .getfield 19, 3, .inl (5, 1)),
  (9, .iload_n 2, 1, .inl (0, 0)),
  (10, .invokevirtual 56, 3, .inr (.inr (.inr yX2_isBed))),
  (13, .ifCond .eq 7, 3, .inl (20, 0)),
  (16, .iconst 1, 1, .inr (.inl 1)),
  (17, .goto 4, 3, .inl (21, 0)),
  (20, .iconst 0, 1, .inr (.inl 0)),
  (21, .istore_n 3, 1, .inl (0, 0)),
  (22, .aload_n 0, 1, .inl (0, 0)),
  (23, .getfield 19, 3, .inl (5, 1)),
  (26, .iload_n 1, 1, .inl (0, 0)),
  (27, .invokevirtual 56, 3, .inr (.inr (.inr yX2_isBed))),
  (30, .ifCond .eq 12, 3, .inl (42, 0)),
  (33, .iload_n 3, 1, .inl (0, 0)),
  (34, .ifCond .eq 8, 3, .inl (42, 0)),
  (37, .iload_n 2, 1, .inl (0, 0)),
  (38, .iload_n 1, 1, .inl (0, 0)),
  (39, .if_icmp .ne 5, 3, .inl (44, 0)),
  (42, .iconst (-1), 1, .inr (.inl (-1))),
  (43, .ireturn, 1, .inl (0, 0)),
  (44, .aload_n 0, 1, .inl (0, 0)),
  (45, .getfield 19, 3, .inl (5, 1)),
  (48, .iload_n 2, 1, .inl (0, 0)),
  (49, .iload_n 1, 1, .inl (0, 0)),
  (50, .invokevirtual 64, 3, .inr (.inr (.inr yX2_isReachedPast))),
  (53, .ifCond .eq 6, 3, .inl (59, 0)),
  (56, .bipush (-3), 2, .inr (.inl (-3))),
  (58, .ireturn, 1, .inl (0, 0)),
  (59, .aload_n 0, 1, .inl (0, 0)),
  (60, .getfield 19, 3, .inl (5, 1)),
  (63, .iload_n 1, 1, .inl (0, 0)),
  (64, .invokevirtual 68, 3, .inr (.inr (.inr yX2_pastOf))),
  (67, .istore 4, 2, .inl (0, 0)),
  (69, .aload_n 0, 1, .inl (0, 0)),
  (70, .getfield 19, 3, .inl (5, 1)),
  (73, .getfield 72, 3, .inl (1, 7)),
  (76, .iload_n 1, 1, .inl (0, 0)),
  (77, .iload_n 2, 1, .inl (0, 0)),
  (78, .iastore, 1, .inl (0, 0)),
  (79, .aload_n 0, 1, .inl (0, 0)),
  (80, .invokevirtual 53, 3, .inr (.inr (.inr yX10_dropAnswers))),
  (83, .iload 4, 2, .inl (0, 0)),
  (85, .ireturn, 1, .inl (0, 0))]
def mX10_past : pm_M := (yX10_past, cX10_past, 5, (some .int), tX10_past)
theorem okX10_past : pm_ok mX10_past = true := by decide +kernel
def tX10_set : List pm_E := [(0, .iload_n 1, 1, .inl (0, 0)),
  (1, .ifCond .ne 31, 3, .inl (32, 0)),
  (4, .iload_n 2, 1, .inl (0, 0)),
  (5, .ifCond .lt 27, 3, .inl (32, 0)),
  (8, .iload_n 2, 1, .inl (0, 0)),
  (9, .iconst 3, 1, .inr (.inl 3)),
  (10, .if_icmp .ge 22, 3, .inl (32, 0)),
  (13, .aload_n 0, 1, .inl (0, 0)),
  (14, .getfield 19, 3, .inl (5, 1)),
  (17, .getfield 75, 3, .inl (1, 1)),
  (20, .istore_n 3, 1, .inl (0, 0)),
  (21, .aload_n 0, 1, .inl (0, 0)),
  (22, .getfield 19, 3, .inl (5, 1)),
  (25, .iload_n 2, 1, .inl (0, 0)),
  (26, .putfield 75, 3, .inl (1, 1)),
  (29, .goto 75, 3, .inl (104, 0)),
  (32, .iload_n 1, 1, .inl (0, 0)),
  (33, .iconst 1, 1, .inr (.inl 1)),
  (34, .if_icmp .ne 33, 3, .inl (67, 0)),
  (37, .iload_n 2, 1, .inl (0, 0)),
  (38, .iconst 1, 1, .inr (.inl 1)),
  (39, .if_icmp .lt 28, 3, .inl (67, 0)),
  (42, .iload_n 2, 1, .inl (0, 0)),
  (43, .bipush 6, 2, .inr (.inl 6)),
  (45, .if_icmp .gt 22, 3, .inl (67, 0)),
  (48, .aload_n 0, 1, .inl (0, 0)),
  (49, .getfield 19, 3, .inl (5, 1)),
  (52, .getfield 78, 3, .inl (1, 2)),
  (55, .istore_n 3, 1, .inl (0, 0)),
  (56, .aload_n 0, 1, .inl (0, 0)),
  (57, .getfield 19, 3, .inl (5, 1)),
  (60, .iload_n 2, 1, .inl (0, 0)),
  (61, .putfield 78, 3, .inl (1, 2)),
  (64, .goto 40, 3, .inl (104, 0)),
  (67, .iload_n 1, 1, .inl (0, 0)),
  (68, .iconst 2, 1, .inr (.inl 2)),
  (69, .if_icmp .ne 32, 3, .inl (101, 0)),
  (72, .iload_n 2, 1, .inl (0, 0)),
  (73, .ifCond .lt 28, 3, .inl (101, 0)),
  (76, .iload_n 2, 1, .inl (0, 0)),
  (77, .bipush 10, 2, .inr (.inl 10)),
  (79, .if_icmp .gt 22, 3, .inl (101, 0)),
  (82, .aload_n 0, 1, .inl (0, 0)),
  (83, .getfield 19, 3, .inl (5, 1)),
  (86, .getfield 81, 3, .inl (1, 3)),
  (89, .istore_n 3, 1, .inl (0, 0)),
  (90, .aload_n 0, 1, .inl (0, 0)),
  (91, .getfield 19, 3, .inl (5, 1)),
  (94, .iload_n 2, 1, .inl (0, 0)),
  (95, .putfield 81, 3, .inl (1, 3)),
  (98, .goto 6, 3, .inl (104, 0)),
  (101, .bipush (-2), 2, .inr (.inl (-2))),
  (103, .ireturn, 1, .inl (0, 0)),
  (104, .aload_n 0, 1, .inl (0, 0)),
  (105, .invokevirtual 53, 3, .inr (.inr (.inr yX10_dropAnswers))),
  (108, .iload_n 3, 1, .inl (0, 0)),
  (109, .ireturn, 1, .inl (0, 0))]
def mX10_set : pm_M := (yX10_set, cX10_set, 4, (some .int), tX10_set)
theorem okX10_set : pm_ok mX10_set = true := by decide +kernel
def tX10_say : List pm_E := [(0, .iload_n 1, 1, .inl (0, 0)),
  (1, .bipush 33, 2, .inr (.inl 33)),
  (3, .if_icmp .lt 9, 3, .inl (12, 0)),
  (6, .iload_n 1, 1, .inl (0, 0)),
  (7, .bipush 126, 2, .inr (.inl 126)),
  (9, .if_icmp .le 6, 3, .inl (15, 0)),
  (12, .bipush (-2), 2, .inr (.inl (-2))),
  (14, .ireturn, 1, .inl (0, 0)),
  (15, .aload_n 0, 1, .inl (0, 0)),
  (16, .getfield 10, 3, .inl (5, 0)),
  (19, .iload_n 1, 1, .inl (0, 0)),
  (20, .invokevirtual 84, 3, .inr (.inr (.inr yX7_write))),
  (23, .ifCond .ne 6, 3, .inl (29, 0)),
  (26, .bipush (-4), 2, .inr (.inl (-4))),
  (28, .ireturn, 1, .inl (0, 0)),
  (29, .aload_n 0, 1, .inl (0, 0)),
  (30, .invokevirtual 53, 3, .inr (.inr (.inr yX10_dropAnswers))),
  (33, .aload_n 0, 1, .inl (0, 0)),
  (34, .getfield 10, 3, .inl (5, 0)),
  (37, .getfield 87, 3, .inl (3, 0)),
  (40, .ireturn, 1, .inl (0, 0))]
def mX10_say : pm_M := (yX10_say, cX10_say, 2, (some .int), tX10_say)
theorem okX10_say : pm_ok mX10_say = true := by decide +kernel
def tX10_wipe : List pm_E := [(0, .aload_n 0, 1, .inl (0, 0)),
  (1, .getfield 10, 3, .inl (5, 0)),
  (4, .getfield 87, 3, .inl (3, 0)),
  (7, .istore_n 1, 1, .inl (0, 0)),
  (8, .aload_n 0, 1, .inl (0, 0)),
  (9, .getfield 10, 3, .inl (5, 0)),
  (12, .iconst 0, 1, .inr (.inl 0)),
  (13, .putfield 87, 3, .inl (3, 0)),
  (16, .aload_n 0, 1, .inl (0, 0)),
  (17, .invokevirtual 53, 3, .inr (.inr (.inr yX10_dropAnswers))),
  (20, .iload_n 1, 1, .inl (0, 0)),
  (21, .ireturn, 1, .inl (0, 0))]
def mX10_wipe : pm_M := (yX10_wipe, cX10_wipe, 2, (some .int), tX10_wipe)
theorem okX10_wipe : pm_ok mX10_wipe = true := by decide +kernel
def tX10_fault : List pm_E := [(0, .iload_n 1, 1, .inl (0, 0)),
  (1, .tableswitch 72 0 2 #[27, 42, 57], 27, .inl (0, 0)),
  (28, .aload_n 0, 1, .inl (0, 0)),
  (29, .getfield 10, 3, .inl (5, 0)),
  (32, .aload_n 0, 1, .inl (0, 0)),
  (33, .getfield 19, 3, .inl (5, 1)),
  (36, .getfield 45, 3, .inl (1, 0)),
  (39, .invokevirtual 90, 3, .inr (.inr (.inr yX7_weekFault))),
  (42, .ireturn, 1, .inl (0, 0)),
  (43, .aload_n 0, 1, .inl (0, 0)),
  (44, .getfield 10, 3, .inl (5, 0)),
  (47, .aload_n 0, 1, .inl (0, 0)),
  (48, .getfield 19, 3, .inl (5, 1)),
  (51, .getfield 45, 3, .inl (1, 0)),
  (54, .invokevirtual 93, 3, .inr (.inr (.inr yX7_orderFault))),
  (57, .ireturn, 1, .inl (0, 0)),
  (58, .aload_n 0, 1, .inl (0, 0)),
  (59, .getfield 10, 3, .inl (5, 0)),
  (62, .aload_n 0, 1, .inl (0, 0)),
  (63, .getfield 19, 3, .inl (5, 1)),
  (66, .getfield 45, 3, .inl (1, 0)),
  (69, .invokevirtual 96, 3, .inr (.inr (.inr yX7_wishFault))),
  (72, .ireturn, 1, .inl (0, 0)),
  (73, .bipush (-2), 2, .inr (.inl (-2))),
  (75, .ireturn, 1, .inl (0, 0))]
def mX10_fault : pm_M := (yX10_fault, cX10_fault, 2, (some .int), tX10_fault)
theorem okX10_fault : pm_ok mX10_fault = true := by decide +kernel
def tX10_judge : List pm_E := [(0, .iload_n 1, 1, .inl (0, 0)),
  (1, .ifCond .lt 8, 3, .inl (9, 0)),
  (4, .iload_n 1, 1, .inl (0, 0)),
  (5, .iconst 1, 1, .inr (.inl 1)),
  (6, .if_icmp .le 6, 3, .inl (12, 0)),
  (9, .bipush (-2), 2, .inr (.inl (-2))),
  (11, .ireturn, 1, .inl (0, 0)),
  (12, .aload_n 0, 1, .inl (0, 0)),
  (13, .invokevirtual 99, 3, .inr (.inr (.inr yX10_isFaultyWeek))),
  (16, .ifCond .eq 6, 3, .inl (22, 0)),
  (19, .bipush (-5), 2, .inr (.inl (-5))),
  (21, .ireturn, 1, .inl (0, 0)),
  (22, .aload_n 0, 1, .inl (0, 0)),
  (23, .getfield 10, 3, .inl (5, 0)),
  (26, .bipush 63, 2, .inr (.inl 63)),
  (28, .invokevirtual 103, 3, .inr (.inr (.inr yX7_numberOf))),
  (31, .ifCond .le 6, 3, .inl (37, 0)),
  (34, .bipush (-3), 2, .inr (.inl (-3))),
  (36, .ireturn, 1, .inl (0, 0)),
  (37, .iload_n 1, 1, .inl (0, 0)),
  (38, .ifCond .ne 17, 3, .inl (55, 0)),
  (41, .aload_n 0, 1, .inl (0, 0)),
  (42, .getfield 19, 3, .inl (5, 1)),
  (45, .aload_n 0, 1, .inl (0, 0)),
  (46, .getfield 10, 3, .inl (5, 0)),
  (49, .invokevirtual 106, 3, .inr (.inr (.inr yX2_firstImpossible))),
  (52, .goto 14, 3, .inl (66, 0)),
  (55, .aload_n 0, 1, .inl (0, 0)),
  (56, .getfield 19, 3, .inl (5, 1)),
  (59, .aload_n 0, 1, .inl (0, 0)),
  (60, .getfield 10, 3, .inl (5, 0)),
  (63, .invokevirtual 110, 3, .inr (.inr (.inr yX2_whyImpossible))),
  (66, .ireturn, 1, .inl (0, 0))]
def mX10_judge : pm_M := (yX10_judge, cX10_judge, 2, (some .int), tX10_judge)
theorem okX10_judge : pm_ok mX10_judge = true := by decide +kernel
def tX10_week : List pm_E := [(0, .aload_n 0, 1, .inl (0, 0)),
  (1, .invokevirtual 99, 3, .inr (.inr (.inr yX10_isFaultyWeek))),
  (4, .ifCond .eq 6, 3, .inl (10, 0)),
  (7, .bipush (-5), 2, .inr (.inl (-5))),
  (9, .ireturn, 1, .inl (0, 0)),
  (10, .aload_n 0, 1, .inl (0, 0)),
  (11, .getfield 10, 3, .inl (5, 0)),
  (14, .bipush 63, 2, .inr (.inl 63)),
  (16, .invokevirtual 103, 3, .inr (.inr (.inr yX7_numberOf))),
  (19, .ifCond .le 6, 3, .inl (25, 0)),
  (22, .bipush (-3), 2, .inr (.inl (-3))),
  (24, .ireturn, 1, .inl (0, 0)),
  (25, .aload_n 0, 1, .inl (0, 0)),
  (26, .getfield 19, 3, .inl (5, 1)),
  (29, .aload_n 0, 1, .inl (0, 0)),
  (30, .getfield 10, 3, .inl (5, 0)),
  (33, .invokevirtual 106, 3, .inr (.inr (.inr yX2_firstImpossible))),
  (36, .bipush (-6), 2, .inr (.inl (-6))),
  (38, .if_icmp .eq 6, 3, .inl (44, 0)),
  (41, .bipush (-5), 2, .inr (.inl (-5))),
  (43, .ireturn, 1, .inl (0, 0)),
  (44, .aload_n 0, 1, .inl (0, 0)),
  (45, .getfield 19, 3, .inl (5, 1)),
  (48, .getfield 113, 3, .inl (1, 4)),
  (51, .invokestatic 116, 3, .inr (.inr (.inr yX8_numberBloomed))),
  (54, .istore_n 1, 1, .inl (0, 0)),
  (55, .aload_n 0, 1, .inl (0, 0)),
  (56, .getfield 19, 3, .inl (5, 1)),
  (59, .aload_n 0, 1, .inl (0, 0)),
  (60, .getfield 10, 3, .inl (5, 0)),
  (63, .invokevirtual 121, 3, .inr (.inr (.inr yX2_live))),
  (66, .aload_n 0, 1, .inl (0, 0)),
  (67, .getfield 10, 3, .inl (5, 0)),
  (70, .iconst 0, 1, .inr (.inl 0)),
  (71, .putfield 87, 3, .inl (3, 0)),
  (74, .aload_n 0, 1, .inl (0, 0)),
  (75, .invokevirtual 53, 3, .inr (.inr (.inr yX10_dropAnswers))),
  (78, .aload_n 0, 1, .inl (0, 0)),
  (79, .getfield 19, 3, .inl (5, 1)),
  (82, .getfield 113, 3, .inl (1, 4)),
  (85, .invokestatic 116, 3, .inr (.inr (.inr yX8_numberBloomed))),
  (88, .iload_n 1, 1, .inl (0, 0)),
  (89, .isub, 1, .inl (0, 0)),
  (90, .ireturn, 1, .inl (0, 0))]
def mX10_week : pm_M := (yX10_week, cX10_week, 2, (some .int), tX10_week)
theorem okX10_week : pm_ok mX10_week = true := by decide +kernel
def tX10_row : List pm_E := [(0, .aload_n 0, 1, .inl (0, 0)),
  (1, .getfield 19, 3, .inl (5, 1)),
  (4, .getfield 113, 3, .inl (1, 4)),
  (7, .invokestatic 125, 3, .inr (.inr (.inr yX8_length))),
  (10, .istore_n 2, 1, .inl (0, 0)),
  (11, .iload_n 1, 1, .inl (0, 0)),
  (12, .iconst (-1), 1, .inr (.inl (-1))),
  (13, .if_icmp .ne 5, 3, .inl (18, 0)),
  (16, .iload_n 2, 1, .inl (0, 0)),
  (17, .ireturn, 1, .inl (0, 0)),
  (18, .iload_n 1, 1, .inl (0, 0)),
  (19, .ifCond .lt 22, 3, .inl (41, 0)),
  (22, .iload_n 1, 1, .inl (0, 0)),
  (23, .iload_n 2, 1, .inl (0, 0)),
  (24, .if_icmp .ge 17, 3, .inl (41, 0)),
  (27, .aload_n 0, 1, .inl (0, 0)),
  (28, .getfield 19, 3, .inl (5, 1)),
  (31, .getfield 113, 3, .inl (1, 4)),
  (34, .iload_n 1, 1, .inl (0, 0)),
  (35, .invokestatic 128, 3, .inr (.inr (.inr yX8_bedAt))),
  (38, .goto 5, 3, .inl (43, 0)),
  (41, .bipush (-6), 2, .inr (.inl (-6))),
  (43, .ireturn, 1, .inl (0, 0))]
def mX10_row : pm_M := (yX10_row, cX10_row, 3, (some .int), tX10_row)
theorem okX10_row : pm_ok mX10_row = true := by decide +kernel
def tX10_bloomed : List pm_E := [(0, .aload_n 0, 1, .inl (0, 0)),
  (1, .getfield 19, 3, .inl (5, 1)),
  (4, .getfield 113, 3, .inl (1, 4)),
  (7, .invokestatic 116, 3, .inr (.inr (.inr yX8_numberBloomed))),
  (10, .istore_n 2, 1, .inl (0, 0)),
  (11, .iload_n 1, 1, .inl (0, 0)),
  (12, .iconst (-1), 1, .inr (.inl (-1))),
  (13, .if_icmp .ne 5, 3, .inl (18, 0)),
  (16, .iload_n 2, 1, .inl (0, 0)),
  (17, .ireturn, 1, .inl (0, 0)),
  (18, .iload_n 1, 1, .inl (0, 0)),
  (19, .ifCond .lt 26, 3, .inl (45, 0)),
  (22, .iload_n 1, 1, .inl (0, 0)),
  (23, .iload_n 2, 1, .inl (0, 0)),
  (24, .if_icmp .ge 21, 3, .inl (45, 0)),
  (27, .iload_n 1, 1, .inl (0, 0)),
  (28, .bipush 6, 2, .inr (.inl 6)),
  (30, .if_icmp .ge 15, 3, .inl (45, 0)),
  (33, .aload_n 0, 1, .inl (0, 0)),
  (34, .getfield 19, 3, .inl (5, 1)),
  (37, .getfield 132, 3, .inl (1, 8)),
  (40, .iload_n 1, 1, .inl (0, 0)),
  (41, .iaload, 1, .inl (0, 0)),
  (42, .goto 5, 3, .inl (47, 0)),
  (45, .bipush (-6), 2, .inr (.inl (-6))),
  (47, .ireturn, 1, .inl (0, 0))]
def mX10_bloomed : pm_M := (yX10_bloomed, cX10_bloomed, 3, (some .int), tX10_bloomed)
theorem okX10_bloomed : pm_ok mX10_bloomed = true := by decide +kernel
def tX10_anew : List pm_E := [(0, .aload_n 0, 1, .inl (0, 0)),
  (1, .getfield 19, 3, .inl (5, 1)),
  (4, .getfield 113, 3, .inl (1, 4)),
  (7, .invokestatic 116, 3, .inr (.inr (.inr yX8_numberBloomed))),
  (10, .istore_n 1, 1, .inl (0, 0)),
  (11, .aload_n 0, 1, .inl (0, 0)),
  (12, .getfield 19, 3, .inl (5, 1)),
  (15, .iconst 0, 1, .inr (.inl 0)),
  (16, .putfield 113, 3, .inl (1, 4)),
  (19, .aload_n 0, 1, .inl (0, 0)),
  (20, .invokevirtual 53, 3, .inr (.inr (.inr yX10_dropAnswers))),
  (23, .iload_n 1, 1, .inl (0, 0)),
  (24, .ireturn, 1, .inl (0, 0))]
def mX10_anew : pm_M := (yX10_anew, cX10_anew, 2, (some .int), tX10_anew)
theorem okX10_anew : pm_ok mX10_anew = true := by decide +kernel
def tX10_seen : List pm_E := [(0, .aload_n 0, 1, .inl (0, 0)),
  (1, .getfield 19, 3, .inl (5, 1)),
  (4, .iload_n 2, 1, .inl (0, 0)),
  (5, .invokevirtual 56, 3, .inr (.inr (.inr yX2_isBed))),
  (8, .ifCond .ne 5, 3, .inl (13, 0)),
  (11, .iconst (-1), 1, .inr (.inl (-1))),
  (12, .ireturn, 1, .inl (0, 0)),
  (13, .iload_n 1, 1, .inl (0, 0)),
  (14, .ifCond .lt 9, 3, .inl (23, 0)),
  (17, .iload_n 1, 1, .inl (0, 0)),
  (18, .bipush 48, 2, .inr (.inl 48)),
  (20, .if_icmp .lt 6, 3, .inl (26, 0)),
  (23, .bipush (-2), 2, .inr (.inl (-2))),
  (25, .ireturn, 1, .inl (0, 0)),
  (26, .aload_n 0, 1, .inl (0, 0)),
  (27, .getfield 19, 3, .inl (5, 1)),
  (30, .iload_n 1, 1, .inl (0, 0)),
  (31, .iload_n 2, 1, .inl (0, 0)),
  (32, .invokevirtual 135, 3, .inr (.inr (.inr yX2_see))),
  (35, .ifCond .ne 6, 3, .inl (41, 0)),
  (38, .bipush (-4), 2, .inr (.inl (-4))),
  (40, .ireturn, 1, .inl (0, 0)),
  (41, .aload_n 0, 1, .inl (0, 0)),
  (42, .invokevirtual 53, 3, .inr (.inr (.inr yX10_dropAnswers))),
  (45, .aload_n 0, 1, .inl (0, 0)),
  (46, .getfield 19, 3, .inl (5, 1)),
  (49, .getfield 138, 3, .inl (1, 5)),
  (52, .ireturn, 1, .inl (0, 0))]
def mX10_seen : pm_M := (yX10_seen, cX10_seen, 3, (some .int), tX10_seen)
theorem okX10_seen : pm_ok mX10_seen = true := by decide +kernel
def tX10_forget : List pm_E := [(0, .aload_n 0, 1, .inl (0, 0)),
  (1, .getfield 19, 3, .inl (5, 1)),
  (4, .getfield 138, 3, .inl (1, 5)),
  (7, .istore_n 1, 1, .inl (0, 0)),
  (8, .aload_n 0, 1, .inl (0, 0)),
  (9, .getfield 19, 3, .inl (5, 1)),
  (12, .iconst 0, 1, .inr (.inl 0)),
  (13, .putfield 138, 3, .inl (1, 5)),
  (16, .aload_n 0, 1, .inl (0, 0)),
  (17, .invokevirtual 53, 3, .inr (.inr (.inr yX10_dropAnswers))),
  (20, .iload_n 1, 1, .inl (0, 0)),
  (21, .ireturn, 1, .inl (0, 0))]
def mX10_forget : pm_M := (yX10_forget, cX10_forget, 2, (some .int), tX10_forget)
theorem okX10_forget : pm_ok mX10_forget = true := by decide +kernel
def tX10_filled : List pm_E := [(0, .aload_n 0, 1, .inl (0, 0)),
  (1, .invokevirtual 99, 3, .inr (.inr (.inr yX10_isFaultyWeek))),
  (4, .ifCond .eq 6, 3, .inl (10, 0)),
  (7, .bipush (-5), 2, .inr (.inl (-5))),
  (9, .ireturn, 1, .inl (0, 0)),
  (10, .aload_n 0, 1, .inl (0, 0)),
  (11, .getfield 30, 3, .inl (5, 3)),
  (14, .getfield 141, 3, .inl (0, 0)),
  (17, .ifCond .ne 18, 3, .inl (35, 0)),
  (20, .aload_n 0, 1, .inl (0, 0)),
  (21, .getfield 30, 3, .inl (5, 3)),
  (24, .aload_n 0, 1, .inl (0, 0)),
  (25, .getfield 19, 3, .inl (5, 1)),
  (28, .aload_n 0, 1, .inl (0, 0)),
  (29, .getfield 10, 3, .inl (5, 0)),
  (32, .invokevirtual 145, 3, .inr (.inr (.inr yX1_search))),
  (35, .iload_n 1, 1, .inl (0, 0)),
  (36, .iconst (-1), 1, .inr (.inl (-1))),
  (37, .if_icmp .ne 13, 3, .inl (50, 0)),
  (40, .aload_n 0, 1, .inl (0, 0)),
  (41, .getfield 30, 3, .inl (5, 3)),
  (44, .getfield 149, 3, .inl (0, 1)),
  (47, .goto 11, 3, .inl (58, 0)),
  (50, .aload_n 0, 1, .inl (0, 0)),
  (51, .getfield 30, 3, .inl (5, 3)),
  (54, .iload_n 1, 1, .inl (0, 0)),
  (55, .invokevirtual 152, 3, .inr (.inr (.inr yX1_firstAt))),
  (58, .ireturn, 1, .inl (0, 0))]
def mX10_filled : pm_M := (yX10_filled, cX10_filled, 2, (some .int), tX10_filled)
theorem okX10_filled : pm_ok mX10_filled = true := by decide +kernel
def tX10_canBe : List pm_E := [(0, .aload_n 0, 1, .inl (0, 0)),
  (1, .invokevirtual 155, 3, .inr (.inr (.inr yX10_isFaultyOrder))),
  (4, .ifCond .eq 6, 3, .inl (10, 0)),
  (7, .bipush (-5), 2, .inr (.inl (-5))),
  (9, .ireturn, 1, .inl (0, 0)),
  (10, .aload_n 0, 1, .inl (0, 0)),
  (11, .getfield 19, 3, .inl (5, 1)),
  (14, .aload_n 0, 1, .inl (0, 0)),
  (15, .getfield 10, 3, .inl (5, 0)),
  (18, .invokevirtual 158, 3, .inr (.inr (.inr yX7_order))),
  (21, .invokestatic 162, 3, .inr (.inr (.inr yX5_isHadFrom))),
  (24, .ifCond .eq 7, 3, .inl (31, 0)),
  (27, .iconst 1, 1, .inr (.inl 1)),
  (28, .goto 4, 3, .inl (32, 0)),
  (31, .iconst 0, 1, .inr (.inl 0)),
  (32, .ireturn, 1, .inl (0, 0))]
def mX10_canBe : pm_M := (yX10_canBe, cX10_canBe, 1, (some .int), tX10_canBe)
theorem okX10_canBe : pm_ok mX10_canBe = true := by decide +kernel
def tX10_orders : List pm_E := [(0, .iload_n 1, 1, .inl (0, 0)),
  (1, .iconst 1, 1, .inr (.inl 1)),
  (2, .if_icmp .lt 20, 3, .inl (22, 0)),
  (5, .iload_n 1, 1, .inl (0, 0)),
  (6, .bipush 30, 2, .inr (.inl 30)),
  (8, .if_icmp .gt 14, 3, .inl (22, 0)),
  (11, .iload_n 2, 1, .inl (0, 0)),
  (12, .iconst 1, 1, .inr (.inl 1)),
  (13, .if_icmp .lt 9, 3, .inl (22, 0)),
  (16, .iload_n 2, 1, .inl (0, 0)),
  (17, .bipush 30, 2, .inr (.inl 30)),
  (19, .if_icmp .le 7, 3, .inl (26, 0)),
  (22, .ldc2_w 168, 3, .inr (.inr (.inl (-2)))),
  (25, .lreturn, 1, .inl (0, 0)),
  (26, .aload_n 0, 1, .inl (0, 0)),
  (27, .getfield 41, 3, .inl (5, 5)),
  (30, .iload_n 1, 1, .inl (0, 0)),
  (31, .iload_n 2, 1, .inl (0, 0)),
  (32, .invokestatic 170, 3, .inr (.inr (.inr yX5_number))),
  (35, .lreturn, 1, .inl (0, 0))]
def mX10_orders : pm_M := (yX10_orders, cX10_orders, 3, (some .long), tX10_orders)
theorem okX10_orders : pm_ok mX10_orders = true := by decide +kernel
def tX10_pattern : List pm_E := [(0, .iload_n 1, 1, .inl (0, 0)),
  (1, .ifCond .lt 8, 3, .inl (9, 0)),
  (4, .iload_n 1, 1, .inl (0, 0)),
  (5, .iconst 3, 1, .inr (.inl 3)),
  (6, .if_icmp .lt 6, 3, .inl (12, 0)),
  (9, .bipush (-2), 2, .inr (.inl (-2))),
  (11, .ireturn, 1, .inl (0, 0)),
  (12, .aload_n 0, 1, .inl (0, 0)),
  (13, .invokevirtual 155, 3, .inr (.inr (.inr yX10_isFaultyOrder))),
  (16, .ifCond .eq 6, 3, .inl (22, 0)),
  (19, .bipush (-5), 2, .inr (.inl (-5))),
  (21, .ireturn, 1, .inl (0, 0)),
  (22, .aload_n 0, 1, .inl (0, 0)),
  (23, .getfield 10, 3, .inl (5, 0)),
  (26, .invokevirtual 158, 3, .inr (.inr (.inr yX7_order))),
  (29, .aload_n 0, 1, .inl (0, 0)),
  (30, .getfield 19, 3, .inl (5, 1)),
  (33, .getfield 45, 3, .inl (1, 0)),
  (36, .invokestatic 174, 3, .inr (.inr (.inr yX5_firstPattern))),
  (39, .istore_n 2, 1, .inl (0, 0)),
  (40, .iload_n 2, 1, .inl (0, 0)),
  (41, .bipush (-6), 2, .inr (.inl (-6))),
  (43, .if_icmp .ne 8, 3, .inl (51, 0)),
  (46, .bipush (-6), 2, .inr (.inl (-6))),
  (48, .goto 8, 3, .inl (56, 0)),
  (51, .iload_n 2, 1, .inl (0, 0)),
  (52, .iload_n 1, 1, .inl (0, 0)),
  (53, .invokestatic 177, 3, .inr (.inr (.inr yX6_at))),
  (56, .ireturn, 1, .inl (0, 0))]
def mX10_pattern : pm_M := (yX10_pattern, cX10_pattern, 3, (some .int), tX10_pattern)
theorem okX10_pattern : pm_ok mX10_pattern = true := by decide +kernel
def tX10_behind : List pm_E := [(0, .aload_n 0, 1, .inl (0, 0)),
  (1, .invokevirtual 155, 3, .inr (.inr (.inr yX10_isFaultyOrder))),
  (4, .ifCond .eq 6, 3, .inl (10, 0)),
  (7, .bipush (-5), 2, .inr (.inl (-5))),
  (9, .ireturn, 1, .inl (0, 0)),
  (10, .aload_n 0, 1, .inl (0, 0)),
  (11, .getfield 10, 3, .inl (5, 0)),
  (14, .invokevirtual 158, 3, .inr (.inr (.inr yX7_order))),
  (17, .aload_n 0, 1, .inl (0, 0)),
  (18, .getfield 19, 3, .inl (5, 1)),
  (21, .getfield 45, 3, .inl (1, 0)),
  (24, .invokestatic 182, 3, .inr (.inr (.inr yX5_fewestGardens))),
  (27, .ireturn, 1, .inl (0, 0))]
def mX10_behind : pm_M := (yX10_behind, cX10_behind, 1, (some .int), tX10_behind)
theorem okX10_behind : pm_ok mX10_behind = true := by decide +kernel
def tX10_fewest : List pm_E := [(0, .aload_n 0, 1, .inl (0, 0)),
  (1, .invokevirtual 185, 3, .inr (.inr (.inr yX10_isFaultyWish))),
  (4, .ifCond .eq 6, 3, .inl (10, 0)),
  (7, .bipush (-5), 2, .inr (.inl (-5))),
  (9, .ireturn, 1, .inl (0, 0)),
  (10, .aload_n 0, 1, .inl (0, 0)),
  (11, .getfield 37, 3, .inl (5, 4)),
  (14, .getfield 188, 3, .inl (4, 0)),
  (17, .ifCond .ne 18, 3, .inl (35, 0)),
  (20, .aload_n 0, 1, .inl (0, 0)),
  (21, .getfield 37, 3, .inl (5, 4)),
  (24, .aload_n 0, 1, .inl (0, 0)),
  (25, .getfield 19, 3, .inl (5, 1)),
  (28, .aload_n 0, 1, .inl (0, 0)),
  (29, .getfield 10, 3, .inl (5, 0)),
  (32, .invokevirtual 189, 3, .inr (.inr (.inr yX9_search))),
  (35, .iload_n 1, 1, .inl (0, 0)),
  (36, .iconst (-1), 1, .inr (.inl (-1))),
  (37, .if_icmp .ne 13, 3, .inl (50, 0)),
  (40, .aload_n 0, 1, .inl (0, 0)),
  (41, .getfield 37, 3, .inl (5, 4)),
  (44, .getfield 190, 3, .inl (4, 1)),
  (47, .goto 11, 3, .inl (58, 0)),
  (50, .aload_n 0, 1, .inl (0, 0)),
  (51, .getfield 37, 3, .inl (5, 4)),
  (54, .iload_n 1, 1, .inl (0, 0)),
  (55, .invokevirtual 193, 3, .inr (.inr (.inr yX9_signAt))),
  (58, .ireturn, 1, .inl (0, 0))]
def mX10_fewest : pm_M := (yX10_fewest, cX10_fewest, 2, (some .int), tX10_fewest)
theorem okX10_fewest : pm_ok mX10_fewest = true := by decide +kernel
def tX10_chance : List pm_E := [(0, .iload_n 1, 1, .inl (0, 0)),
  (1, .ifCond .lt 8, 3, .inl (9, 0)),
  (4, .iload_n 1, 1, .inl (0, 0)),
  (5, .iconst 1, 1, .inr (.inl 1)),
  (6, .if_icmp .le 7, 3, .inl (13, 0)),
  (9, .ldc2_w 196, 3, .inr (.inr (.inl (-1000000000000000002)))),
  (12, .lreturn, 1, .inl (0, 0)),
  (13, .aload_n 0, 1, .inl (0, 0)),
  (14, .invokevirtual 185, 3, .inr (.inr (.inr yX10_isFaultyWish))),
  (17, .ifCond .eq 7, 3, .inl (24, 0)),
  (20, .ldc2_w 198, 3, .inr (.inr (.inl (-1000000000000000005)))),
  (23, .lreturn, 1, .inl (0, 0)),
  (24, .aload_n 0, 1, .inl (0, 0)),
  (25, .getfield 19, 3, .inl (5, 1)),
  (28, .aload_n 0, 1, .inl (0, 0)),
  (29, .getfield 10, 3, .inl (5, 0)),
  (32, .invokestatic 200, 3, .inr (.inr (.inr yX0_ofWish))),
  (35, .lstore_n 2, 1, .inl (0, 0)),
  (36, .aload_n 0, 1, .inl (0, 0)),
  (37, .getfield 10, 3, .inl (5, 0)),
  (40, .getfield 87, 3, .inl (3, 0)),
  (43, .invokestatic 206, 3, .inr (.inr (.inr yX0_allTenths))),
  (46, .lstore 4, 2, .inl (0, 0)),
  (48, .iload_n 1, 1, .inl (0, 0)),
  (49, .ifCond .ne 7, 3, .inl (56, 0)),
  (52, .lload_n 2, 1, .inl (0, 0)),
  (53, .goto 5, 3, .inl (58, 0)),
  (56, .lload 4, 2, .inl (0, 0)),
  (58, .lload_n 2, 1, .inl (0, 0)),
  (59, .lload 4, 2, .inl (0, 0)),
  (61, .invokestatic 210, 3, .inr (.inr (.inr yX0_commonDivisor))),
  (64, .invokestatic 214, 3, .inr (.inr (.inr yX0_reduced))),
  (67, .lreturn, 1, .inl (0, 0))]
def mX10_chance : pm_M := (yX10_chance, cX10_chance, 6, (some .long), tX10_chance)
theorem okX10_chance : pm_ok mX10_chance = true := by decide +kernel
def tX10_turns : List pm_E := [(0, .aload_n 0, 1, .inl (0, 0)),
  (1, .getfield 19, 3, .inl (5, 1)),
  (4, .iload_n 1, 1, .inl (0, 0)),
  (5, .invokevirtual 56, 3, .inr (.inr (.inr yX2_isBed))),
  (8, .ifCond .ne 5, 3, .inl (13, 0)),
  (11, .iconst (-1), 1, .inr (.inl (-1))),
  (12, .ireturn, 1, .inl (0, 0)),
  (13, .aload_n 0, 1, .inl (0, 0)),
  (14, .getfield 19, 3, .inl (5, 1)),
  (17, .getfield 113, 3, .inl (1, 4)),
  (20, .iload_n 1, 1, .inl (0, 0)),
  (21, .invokestatic 217, 3, .inr (.inr (.inr yX8_hasBloomed))),
  (24, .ifCond .eq 6, 3, .inl (30, 0)),
  (27, .bipush (-6), 2, .inr (.inl (-6))),
  (29, .ireturn, 1, .inl (0, 0)),
  (30, .aload_n 0, 1, .inl (0, 0)),
  (31, .getfield 19, 3, .inl (5, 1)),
  (34, .iload_n 1, 1, .inl (0, 0)),
  (35, .invokestatic 220, 3, .inr (.inr (.inr yX3_morningOfBloom))),
  (38, .ireturn, 1, .inl (0, 0))]
def mX10_turns : pm_M := (yX10_turns, cX10_turns, 2, (some .int), tX10_turns)
theorem okX10_turns : pm_ok mX10_turns = true := by decide +kernel
def tX10_image : List pm_E := [(0, .iload_n 1, 1, .inl (0, 0)),
  (1, .ifCond .lt 8, 3, .inl (9, 0)),
  (4, .iload_n 1, 1, .inl (0, 0)),
  (5, .iconst 2, 1, .inr (.inl 2)),
  (6, .if_icmp .lt 6, 3, .inl (12, 0)),
  (9, .bipush (-2), 2, .inr (.inl (-2))),
  (11, .ireturn, 1, .inl (0, 0)),
  (12, .aload_n 0, 1, .inl (0, 0)),
  (13, .getfield 23, 3, .inl (5, 2)),
  (16, .iload_n 1, 1, .inl (0, 0)),
  (17, .aaload, 1, .inl (0, 0)),
  (18, .ifnonnull 16, 3, .inl (34, 0)),
  (21, .aload_n 0, 1, .inl (0, 0)),
  (22, .getfield 23, 3, .inl (5, 2)),
  (25, .iload_n 1, 1, .inl (0, 0)),
  (26, .new 16, 3, .inl (1, 0)),
  (29, .dup, 1, .inl (0, 0)),
  (30, .invokespecial 18, 3, .inr (.inr (.inr yX2_init))),
  (33, .aastore, 1, .inl (0, 0)),
  (34, .aload_n 0, 1, .inl (0, 0)),
  (35, .getfield 23, 3, .inl (5, 2)),
  (38, .iload_n 1, 1, .inl (0, 0)),
  (39, .aaload, 1, .inl (0, 0)),
  (40, .aload_n 0, 1, .inl (0, 0)),
  (41, .getfield 19, 3, .inl (5, 1)),
  (44, .invokevirtual 226, 3, .inr (.inr (.inr yX2_copyFrom))),
  (47, .iconst 1, 1, .inr (.inl 1)),
  (48, .ireturn, 1, .inl (0, 0))]
def mX10_image : pm_M := (yX10_image, cX10_image, 2, (some .int), tX10_image)
theorem okX10_image : pm_ok mX10_image = true := by decide +kernel
def tX10_restore : List pm_E := [(0, .iload_n 1, 1, .inl (0, 0)),
  (1, .ifCond .lt 8, 3, .inl (9, 0)),
  (4, .iload_n 1, 1, .inl (0, 0)),
  (5, .iconst 2, 1, .inr (.inl 2)),
  (6, .if_icmp .lt 6, 3, .inl (12, 0)),
  (9, .bipush (-2), 2, .inr (.inl (-2))),
  (11, .ireturn, 1, .inl (0, 0)),
  (12, .aload_n 0, 1, .inl (0, 0)),
  (13, .getfield 23, 3, .inl (5, 2)),
  (16, .iload_n 1, 1, .inl (0, 0)),
  (17, .aaload, 1, .inl (0, 0)),
  (18, .ifnonnull 6, 3, .inl (24, 0)),
  (21, .bipush (-3), 2, .inr (.inl (-3))),
  (23, .ireturn, 1, .inl (0, 0)),
  (24, .aload_n 0, 1, .inl (0, 0)),
  (25, .getfield 19, 3, .inl (5, 1)),
  (28, .aload_n 0, 1, .inl (0, 0)),
  (29, .getfield 23, 3, .inl (5, 2)),
  (32, .iload_n 1, 1, .inl (0, 0)),
  (33, .aaload, 1, .inl (0, 0)),
  (34, .invokevirtual 226, 3, .inr (.inr (.inr yX2_copyFrom))),
  (37, .aload_n 0, 1, .inl (0, 0)),
  (38, .invokevirtual 53, 3, .inr (.inr (.inr yX10_dropAnswers))),
  (41, .iconst 1, 1, .inr (.inl 1)),
  (42, .ireturn, 1, .inl (0, 0))]
def mX10_restore : pm_M := (yX10_restore, cX10_restore, 2, (some .int), tX10_restore)
theorem okX10_restore : pm_ok mX10_restore = true := by decide +kernel
def tX10_told : List pm_E := [(0, .aload_n 0, 1, .inl (0, 0)),
  (1, .getfield 19, 3, .inl (5, 1)),
  (4, .iload_n 1, 1, .inl (0, 0)),
  (5, .bipush 10, 2, .inr (.inl 10)),
  (7, .isub, 1, .inl (0, 0)),
  (8, .invokevirtual 56, 3, .inr (.inr (.inr yX2_isBed))),
  (11, .ifCond .eq 16, 3, .inl (27, 0)),
  (14, .aload_n 0, 1, .inl (0, 0)),
  (15, .getfield 19, 3, .inl (5, 1)),
  (18, .getfield 60, 3, .inl (1, 6)),
  (21, .iload_n 1, 1, .inl (0, 0)),
  (22, .bipush 10, 2, .inr (.inl 10)),
  (24, .isub, 1, .inl (0, 0)),
  (25, .iaload, 1, .inl (0, 0)),
  (26, .ireturn, 1, .inl (0, 0)),
  (27, .aload_n 0, 1, .inl (0, 0)),
  (28, .getfield 19, 3, .inl (5, 1)),
  (31, .iload_n 1, 1, .inl (0, 0)),
  (32, .bipush 20, 2, .inr (.inl 20)),
  (34, .isub, 1, .inl (0, 0)),
  (35, .invokevirtual 56, 3, .inr (.inr (.inr yX2_isBed))),
  (38, .ifCond .eq 15, 3, .inl (53, 0)),
  (41, .aload_n 0, 1, .inl (0, 0)),
  (42, .getfield 19, 3, .inl (5, 1)),
  (45, .iload_n 1, 1, .inl (0, 0)),
  (46, .bipush 20, 2, .inr (.inl 20)),
  (48, .isub, 1, .inl (0, 0)),
  (49, .invokevirtual 68, 3, .inr (.inr (.inr yX2_pastOf))),
  (52, .ireturn, 1, .inl (0, 0)),
  (53, .iload_n 1, 1, .inl (0, 0)),
  (54, .tableswitch 86 0 5 #[38, 46, 54, 62, 70, 78], 38, .inl (0, 0)),
  (92, .aload_n 0, 1, .inl (0, 0)),
  (93, .getfield 10, 3, .inl (5, 0)),
  (96, .getfield 87, 3, .inl (3, 0)),
  (99, .ireturn, 1, .inl (0, 0)),
  (100, .aload_n 0, 1, .inl (0, 0)),
  (101, .getfield 19, 3, .inl (5, 1)),
  (104, .getfield 45, 3, .inl (1, 0)),
  (107, .ireturn, 1, .inl (0, 0)),
  (108, .aload_n 0, 1, .inl (0, 0)),
  (109, .getfield 19, 3, .inl (5, 1)),
  (112, .getfield 75, 3, .inl (1, 1)),
  (115, .ireturn, 1, .inl (0, 0)),
  (116, .aload_n 0, 1, .inl (0, 0)),
  (117, .getfield 19, 3, .inl (5, 1)),
  (120, .getfield 78, 3, .inl (1, 2)),
  (123, .ireturn, 1, .inl (0, 0)),
  (124, .aload_n 0, 1, .inl (0, 0)),
  (125, .getfield 19, 3, .inl (5, 1)),
  (128, .getfield 81, 3, .inl (1, 3)),
  (131, .ireturn, 1, .inl (0, 0)),
  (132, .aload_n 0, 1, .inl (0, 0)),
  (133, .getfield 19, 3, .inl (5, 1)),
  (136, .getfield 138, 3, .inl (1, 5)),
  (139, .ireturn, 1, .inl (0, 0)),
  (140, .bipush (-2), 2, .inr (.inl (-2))),
  (142, .ireturn, 1, .inl (0, 0))]
def mX10_told : pm_M := (yX10_told, cX10_told, 2, (some .int), tX10_told)
theorem okX10_told : pm_ok mX10_told = true := by decide +kernel
def tX10_isFaultyWeek : List pm_E := [(0, .aload_n 0, 1, .inl (0, 0)),
  (1, .getfield 10, 3, .inl (5, 0)),
  (4, .aload_n 0, 1, .inl (0, 0)),
  (5, .getfield 19, 3, .inl (5, 1)),
  (8, .getfield 45, 3, .inl (1, 0)),
  (11, .invokevirtual 90, 3, .inr (.inr (.inr yX7_weekFault))),
  (14, .bipush (-6), 2, .inr (.inl (-6))),
  (16, .if_icmp .eq 7, 3, .inl (23, 0)),
  (19, .iconst 1, 1, .inr (.inl 1)),
  (20, .goto 4, 3, .inl (24, 0)),
  (23, .iconst 0, 1, .inr (.inl 0)),
  (24, .ireturn, 1, .inl (0, 0))]
def mX10_isFaultyWeek : pm_M := (yX10_isFaultyWeek, cX10_isFaultyWeek, 1, (some .boolean), tX10_isFaultyWeek)
theorem okX10_isFaultyWeek : pm_ok mX10_isFaultyWeek = true := by decide +kernel
def tX10_isFaultyOrder : List pm_E := [(0, .aload_n 0, 1, .inl (0, 0)),
  (1, .getfield 10, 3, .inl (5, 0)),
  (4, .aload_n 0, 1, .inl (0, 0)),
  (5, .getfield 19, 3, .inl (5, 1)),
  (8, .getfield 45, 3, .inl (1, 0)),
  (11, .invokevirtual 93, 3, .inr (.inr (.inr yX7_orderFault))),
  (14, .bipush (-6), 2, .inr (.inl (-6))),
  (16, .if_icmp .eq 7, 3, .inl (23, 0)),
  (19, .iconst 1, 1, .inr (.inl 1)),
  (20, .goto 4, 3, .inl (24, 0)),
  (23, .iconst 0, 1, .inr (.inl 0)),
  (24, .ireturn, 1, .inl (0, 0))]
def mX10_isFaultyOrder : pm_M := (yX10_isFaultyOrder, cX10_isFaultyOrder, 1, (some .boolean), tX10_isFaultyOrder)
theorem okX10_isFaultyOrder : pm_ok mX10_isFaultyOrder = true := by decide +kernel
def tX10_isFaultyWish : List pm_E := [(0, .aload_n 0, 1, .inl (0, 0)),
  (1, .getfield 10, 3, .inl (5, 0)),
  (4, .aload_n 0, 1, .inl (0, 0)),
  (5, .getfield 19, 3, .inl (5, 1)),
  (8, .getfield 45, 3, .inl (1, 0)),
  (11, .invokevirtual 96, 3, .inr (.inr (.inr yX7_wishFault))),
  (14, .bipush (-6), 2, .inr (.inl (-6))),
  (16, .if_icmp .eq 7, 3, .inl (23, 0)),
  (19, .iconst 1, 1, .inr (.inl 1)),
  (20, .goto 4, 3, .inl (24, 0)),
  (23, .iconst 0, 1, .inr (.inl 0)),
  (24, .ireturn, 1, .inl (0, 0))]
def mX10_isFaultyWish : pm_M := (yX10_isFaultyWish, cX10_isFaultyWish, 1, (some .boolean), tX10_isFaultyWish)
theorem okX10_isFaultyWish : pm_ok mX10_isFaultyWish = true := by decide +kernel
def tX10_dropAnswers : List pm_E := [(0, .aload_n 0, 1, .inl (0, 0)),
  (1, .getfield 30, 3, .inl (5, 3)),
  (4, .iconst 0, 1, .inr (.inl 0)),
  (5, .putfield 141, 3, .inl (0, 0)),
  (8, .aload_n 0, 1, .inl (0, 0)),
  (9, .getfield 37, 3, .inl (5, 4)),
  (12, .iconst 0, 1, .inr (.inl 0)),
  (13, .putfield 188, 3, .inl (4, 0)),
  (16, .return_, 1, .inl (0, 0))]
def mX10_dropAnswers : pm_M := (yX10_dropAnswers, cX10_dropAnswers, 1, none, tX10_dropAnswers)
theorem okX10_dropAnswers : pm_ok mX10_dropAnswers = true := by decide +kernel
def tX11_init : List pm_E := [(0, .aload_n 0, 1, .inl (0, 0)),
  (1, .invokespecial 1, 3, .inr (.inr (.inr Lib.objectInit))),
  (4, .aload_n 0, 1, .inl (0, 0)),
  (5, .bipush 6, 2, .inr (.inl 6)),
  (7, .putfield 7, 3, .inl (6, 0)),
  (10, .aload_n 0, 1, .inl (0, 0)),
  (11, .bipush 6, 2, .inr (.inl 6)),
  (13, .newarray .int, 2, .inl (0, 0)),
  (15, .putfield 13, 3, .inl (6, 1)),
  (18, .aload_n 0, 1, .inl (0, 0)),
  (19, .bipush 6, 2, .inr (.inl 6)),
  (21, .newarray .int, 2, .inl (0, 0)),
  (23, .putfield 17, 3, .inl (6, 2)),
  (26, .aload_n 0, 1, .inl (0, 0)),
  (27, .bipush 6, 2, .inr (.inl 6)),
  (29, .putfield 20, 3, .inl (6, 4)),
  (32, .aload_n 0, 1, .inl (0, 0)),
  (33, .iconst 3, 1, .inr (.inl 3)),
  (34, .putfield 23, 3, .inl (6, 5)),
  (37, .aload_n 0, 1, .inl (0, 0)),
  (38, .bipush 48, 2, .inr (.inl 48)),
  (40, .newarray .int, 2, .inl (0, 0)),
  (42, .putfield 26, 3, .inl (6, 7)),
  (45, .aload_n 0, 1, .inl (0, 0)),
  (46, .bipush 6, 2, .inr (.inl 6)),
  (48, .newarray .int, 2, .inl (0, 0)),
  (50, .putfield 29, 3, .inl (6, 10)),
  (53, .aload_n 0, 1, .inl (0, 0)),
  (54, .bipush 12, 2, .inr (.inl 12)),
  (56, .newarray .int, 2, .inl (0, 0)),
  (58, .putfield 32, 3, .inl (6, 13)),
  (61, .aload_n 0, 1, .inl (0, 0)),
  (62, .bipush 6, 2, .inr (.inl 6)),
  (64, .newarray .int, 2, .inl (0, 0)),
  (66, .putfield 35, 3, .inl (6, 17)),
  (69, .aload_n 0, 1, .inl (0, 0)),
  (70, .bipush 49, 2, .inr (.inl 49)),
  (72, .newarray .boolean, 2, .inl (0, 0)),
  (74, .putfield 38, 3, .inl (6, 19)),
  (77, .aload_n 0, 1, .inl (0, 0)),
  (78, .bipush 32, 2, .inr (.inl 32)),
  (80, .newarray .long, 2, .inl (0, 0)),
  (82, .putfield 42, 3, .inl (6, 20)),
  (85, .aload_n 0, 1, .inl (0, 0)),
  (86, .ldc 46, 2, .inr (.inl 65536)),
  (88, .newarray .long, 2, .inl (0, 0)),
  (90, .putfield 47, 3, .inl (6, 21)),
  (93, .aload_n 0, 1, .inl (0, 0)),
  (94, .ldc 46, 2, .inr (.inl 65536)),
  (96, .newarray .long, 2, .inl (0, 0)),
  (98, .putfield 50, 3, .inl (6, 22)),
  (101, .aload_n 0, 1, .inl (0, 0)),
  (102, .sipush 5400, 3, .inr (.inl 5400)),
  (105, .newarray .int, 2, .inl (0, 0)),
  (107, .putfield 53, 3, .inl (6, 25)),
  (110, .aload_n 0, 1, .inl (0, 0)),
  (111, .sipush 5400, 3, .inr (.inl 5400)),
  (114, .newarray .int, 2, .inl (0, 0)),
  (116, .putfield 56, 3, .inl (6, 26)),
  (119, .aload_n 0, 1, .inl (0, 0)),
  (120, .sipush 5400, 3, .inr (.inl 5400)),
  (123, .newarray .int, 2, .inl (0, 0)),
  (125, .putfield 59, 3, .inl (6, 27)),
  (128, .aload_n 0, 1, .inl (0, 0)),
  (129, .sipush 16384, 3, .inr (.inl 16384)),
  (132, .newarray .int, 2, .inl (0, 0)),
  (134, .putfield 62, 3, .inl (6, 28)),
  (137, .aload_n 0, 1, .inl (0, 0)),
  (138, .bipush 16, 2, .inr (.inl 16)),
  (140, .newarray .int, 2, .inl (0, 0)),
  (142, .putfield 65, 3, .inl (6, 29)),
  (145, .aload_n 0, 1, .inl (0, 0)),
  (146, .bipush 16, 2, .inr (.inl 16)),
  (148, .newarray .int, 2, .inl (0, 0)),
  (150, .putfield 68, 3, .inl (6, 30)),
  (153, .aload_n 0, 1, .inl (0, 0)),
  (154, .bipush 16, 2, .inr (.inl 16)),
  (156, .newarray .int, 2, .inl (0, 0)),
  (158, .putfield 71, 3, .inl (6, 31)),
  (161, .aload_n 0, 1, .inl (0, 0)),
  (162, .bipush 16, 2, .inr (.inl 16)),
  (164, .newarray .int, 2, .inl (0, 0)),
  (166, .putfield 74, 3, .inl (6, 32)),
  (169, .aload_n 0, 1, .inl (0, 0)),
  (170, .bipush 84, 2, .inr (.inl 84)),
  (172, .newarray .int, 2, .inl (0, 0)),
  (174, .putfield 77, 3, .inl (6, 33)),
  (177, .aload_n 0, 1, .inl (0, 0)),
  (178, .iconst 2, 1, .inr (.inl 2)),
  (179, .newarray .boolean, 2, .inl (0, 0)),
  (181, .putfield 80, 3, .inl (6, 34)),
  (184, .aload_n 0, 1, .inl (0, 0)),
  (185, .invokevirtual 83, 3, .inr (.inr (.inr yX11_begin))),
  (188, .return_, 1, .inl (0, 0))]
def mX11_init : pm_M := (yX11_init, cX11_init, 1, none, tX11_init)
theorem okX11_init : pm_ok mX11_init = true := by decide +kernel
def tX11_begin : List pm_E := [(0, .iconst 0, 1, .inr (.inl 0)),
  (1, .istore_n 1, 1, .inl (0, 0)),
  (2, .iload_n 1, 1, .inl (0, 0)),
  (3, .bipush 6, 2, .inr (.inl 6)),
  (5, .if_icmp .ge 24, 3, .inl (29, 0)),
  (8, .aload_n 0, 1, .inl (0, 0)),
  (9, .getfield 13, 3, .inl (6, 1)),
  (12, .iload_n 1, 1, .inl (0, 0)),
  (13, .iconst 0, 1, .inr (.inl 0)),
  (14, .iastore, 1, .inl (0, 0)),
  (15, .aload_n 0, 1, .inl (0, 0)),
  (16, .getfield 17, 3, .inl (6, 2)),
  (19, .iload_n 1, 1, .inl (0, 0)),
  (20, .bipush (-6), 2, .inr (.inl (-6))),
  (22, .iastore, 1, .inl (0, 0)),
  (23, .iinc 1 1, 3, .inr (.inl 1)),
  (26, .goto (-24), 3, .inl (2, 0)),
  (29, .aload_n 0, 1, .inl (0, 0)),
  (30, .iconst 0, 1, .inr (.inl 0)),
  (31, .putfield 86, 3, .inl (6, 8)),
  (34, .aload_n 0, 1, .inl (0, 0)),
  (35, .iconst 0, 1, .inr (.inl 0)),
  (36, .putfield 89, 3, .inl (6, 9)),
  (39, .aload_n 0, 1, .inl (0, 0)),
  (40, .iconst 0, 1, .inr (.inl 0)),
  (41, .putfield 92, 3, .inl (6, 11)),
  (44, .aload_n 0, 1, .inl (0, 0)),
  (45, .iconst 0, 1, .inr (.inl 0)),
  (46, .putfield 95, 3, .inl (6, 12)),
  (49, .return_, 1, .inl (0, 0))]
def mX11_begin : pm_M := (yX11_begin, cX11_begin, 2, none, tX11_begin)
theorem okX11_begin : pm_ok mX11_begin = true := by decide +kernel
def tX11_in : List pm_E := [(0, .iload_n 0, 1, .inl (0, 0)),
  (1, .iload_n 1, 1, .inl (0, 0)),
  (2, .if_icmp .lt 12, 3, .inl (14, 0)),
  (5, .iload_n 0, 1, .inl (0, 0)),
  (6, .iload_n 2, 1, .inl (0, 0)),
  (7, .if_icmp .gt 7, 3, .inl (14, 0)),
  (10, .iconst 1, 1, .inr (.inl 1)),
  (11, .goto 4, 3, .inl (15, 0)),
  (14, .iconst 0, 1, .inr (.inl 0)),
  (15, .ireturn, 1, .inl (0, 0))]
def mX11_in : pm_M := (yX11_in, cX11_in, 3, (some .boolean), tX11_in)
theorem okX11_in : pm_ok mX11_in = true := by decide +kernel
def tX11_has : List pm_E := [(0, .iload_n 0, 1, .inl (0, 0)),
  (1, .iload_n 1, 1, .inl (0, 0)),
  (2, .ishr, 1, .inl (0, 0)),
  (3, .iconst 1, 1, .inr (.inl 1)),
  (4, .iand, 1, .inl (0, 0)),
  (5, .iconst 1, 1, .inr (.inl 1)),
  (6, .if_icmp .ne 7, 3, .inl (13, 0)),
  (9, .iconst 1, 1, .inr (.inl 1)),
  (10, .goto 4, 3, .inl (14, 0)),
  (13, .iconst 0, 1, .inr (.inl 0)),
  (14, .ireturn, 1, .inl (0, 0))]
def mX11_has : pm_M := (yX11_has, cX11_has, 2, (some .boolean), tX11_has)
theorem okX11_has : pm_ok mX11_has = true := by decide +kernel
def tX11_isBed : List pm_E := [(0, .iload_n 1, 1, .inl (0, 0)),
  (1, .iconst 0, 1, .inr (.inl 0)),
  (2, .aload_n 0, 1, .inl (0, 0)),
  (3, .getfield 7, 3, .inl (6, 0)),
  (6, .iconst 1, 1, .inr (.inl 1)),
  (7, .isub, 1, .inl (0, 0)),
  (8, .invokestatic 98, 3, .inr (.inr (.inr yX11_in))),
  (11, .ireturn, 1, .inl (0, 0))]
def mX11_isBed : pm_M := (yX11_isBed, cX11_isBed, 2, (some .boolean), tX11_isBed)
theorem okX11_isBed : pm_ok mX11_isBed = true := by decide +kernel
def tX11_beds : List pm_E := [(0, .iload_n 1, 1, .inl (0, 0)),
  (1, .iconst 2, 1, .inr (.inl 2)),
  (2, .bipush 6, 2, .inr (.inl 6)),
  (4, .invokestatic 98, 3, .inr (.inr (.inr yX11_in))),
  (7, .ifCond .ne 6, 3, .inl (13, 0)),
  (10, .bipush (-2), 2, .inr (.inl (-2))),
  (12, .ireturn, 1, .inl (0, 0)),
  (13, .aload_n 0, 1, .inl (0, 0)),
  (14, .getfield 7, 3, .inl (6, 0)),
  (17, .istore_n 2, 1, .inl (0, 0)),
  (18, .aload_n 0, 1, .inl (0, 0)),
  (19, .iload_n 1, 1, .inl (0, 0)),
  (20, .putfield 7, 3, .inl (6, 0)),
  (23, .aload_n 0, 1, .inl (0, 0)),
  (24, .invokevirtual 83, 3, .inr (.inr (.inr yX11_begin))),
  (27, .iload_n 2, 1, .inl (0, 0)),
  (28, .ireturn, 1, .inl (0, 0))]
def mX11_beds : pm_M := (yX11_beds, cX11_beds, 3, (some .int), tX11_beds)
theorem okX11_beds : pm_ok mX11_beds = true := by decide +kernel
def tX11_colour : List pm_E := [(0, .aload_n 0, 1, .inl (0, 0)),
  (1, .iload_n 1, 1, .inl (0, 0)),
  (2, .invokevirtual 102, 3, .inr (.inr (.inr yX11_isBed))),
  (5, .ifCond .ne 5, 3, .inl (10, 0)),
  (8, .iconst (-1), 1, .inr (.inl (-1))),
  (9, .ireturn, 1, .inl (0, 0)),
  (10, .iload_n 2, 1, .inl (0, 0)),
  (11, .iconst 0, 1, .inr (.inl 0)),
  (12, .iconst 3, 1, .inr (.inl 3)),
  (13, .invokestatic 98, 3, .inr (.inr (.inr yX11_in))),
  (16, .ifCond .ne 6, 3, .inl (22, 0)),
  (19, .bipush (-2), 2, .inr (.inl (-2))),
  (21, .ireturn, 1, .inl (0, 0)),
  (22, .aload_n 0, 1, .inl (0, 0)),
  (23, .getfield 13, 3, .inl (6, 1)),
  (26, .iload_n 1, 1, .inl (0, 0)),
  (27, .iaload, 1, .inl (0, 0)),
  (28, .istore_n 3, 1, .inl (0, 0)),
  (29, .aload_n 0, 1, .inl (0, 0)),
  (30, .getfield 13, 3, .inl (6, 1)),
  (33, .iload_n 1, 1, .inl (0, 0)),
  (34, .iload_n 2, 1, .inl (0, 0)),
  (35, .iastore, 1, .inl (0, 0)),
  (36, .iload_n 3, 1, .inl (0, 0)),
  (37, .ireturn, 1, .inl (0, 0))]
def mX11_colour : pm_M := (yX11_colour, cX11_colour, 4, (some .int), tX11_colour)
theorem okX11_colour : pm_ok mX11_colour = true := by decide +kernel
def tX11_past : List pm_E := [(0, .aload_n 0, 1, .inl (0, 0)),
  (1, .iload_n 1, 1, .inl (0, 0)),
  (2, .invokevirtual 102, 3, .inr (.inr (.inr yX11_isBed))),
  (5, .ifCond .eq 21, 3, .inl (26, 0)),
  (8, .iload_n 2, 1, .inl (0, 0)),
  (9, .iconst (-1), 1, .inr (.inl (-1))),
  (10, .if_icmp .eq 11, 3, .inl (21, 0)),
  (13, .aload_n 0, 1, .inl (0, 0)),
  (14, .iload_n 2, 1, .inl (0, 0)),
  (15, .invokevirtual 102, 3, .inr (.inr (.inr yX11_isBed))),
  (18, .ifCond .eq 8, 3, .inl (26, 0)),
  (21, .iload_n 1, 1, .inl (0, 0)),
  (22, .iload_n 2, 1, .inl (0, 0)),
  (23, .if_icmp .ne 5, 3, .inl (28, 0)),
  (26, .iconst (-1), 1, .inr (.inl (-1))),
  (27, .ireturn, 1, .inl (0, 0)),
  (28, .iload_n 2, 1, .inl (0, 0)),
  (29, .istore_n 3, 1, .inl (0, 0)),
  (30, .iload_n 3, 1, .inl (0, 0)),
  (31, .ifCond .lt 18, 3, .inl (49, 0)),
  (34, .aload_n 0, 1, .inl (0, 0)),
  (35, .getfield 17, 3, .inl (6, 2)),
  (38, .iload_n 3, 1, .inl (0, 0)),
  (39, .iaload, 1, .inl (0, 0)),
  (40, .istore_n 3, 1, .inl (0, 0)),
  (41, .iload_n 3, 1, .inl (0, 0)),
  (42, .iload_n 1, 1, .inl (0, 0)),
  (43, .if_icmp .ne (-13), 3, .inl (30, 0)),
  (46, .bipush (-3), 2, .inr (.inl (-3))),
  (48, .ireturn, 1, .inl (0, 0)),
  (49, .aload_n 0, 1, .inl (0, 0)),
  (50, .getfield 17, 3, .inl (6, 2)),
  (53, .iload_n 1, 1, .inl (0, 0)),
  (54, .iaload, 1, .inl (0, 0)),
  (55, .istore 4, 2, .inl (0, 0)),
  (57, .aload_n 0, 1, .inl (0, 0)),
  (58, .getfield 17, 3, .inl (6, 2)),
  (61, .iload_n 1, 1, .inl (0, 0)),
  (62, .iload_n 2, 1, .inl (0, 0)),
  (63, .ifCond .ge 8, 3, .inl (71, 0)),
  (66, .bipush (-6), 2, .inr (.inl (-6))),
  (68, .goto 4, 3, .inl (72, 0)),
  (71, .iload_n 2, 1, .inl (0, 0)),
  (72, .iastore, 1, .inl (0, 0)),
  (73, .iload 4, 2, .inl (0, 0)),
  (75, .ireturn, 1, .inl (0, 0))]
def mX11_past : pm_M := (yX11_past, cX11_past, 5, (some .int), tX11_past)
theorem okX11_past : pm_ok mX11_past = true := by decide +kernel
end
section
def tX11_set : List pm_E := [(0, .iload_n 1, 1, .inl (0, 0)),
  (1, .ifCond .ne 12, 3, .inl (13, 0)),
  (4, .iload_n 2, 1, .inl (0, 0)),
  (5, .iconst 0, 1, .inr (.inl 0)),
  (6, .iconst 2, 1, .inr (.inl 2)),
  (7, .invokestatic 98, 3, .inr (.inr (.inr yX11_in))),
  (10, .goto 38, 3, .inl (48, 0)),
  (13, .iload_n 1, 1, .inl (0, 0)),
  (14, .iconst 1, 1, .inr (.inl 1)),
  (15, .if_icmp .ne 13, 3, .inl (28, 0)),
  (18, .iload_n 2, 1, .inl (0, 0)),
  (19, .iconst 1, 1, .inr (.inl 1)),
  (20, .bipush 6, 2, .inr (.inl 6)),
  (22, .invokestatic 98, 3, .inr (.inr (.inr yX11_in))),
  (25, .goto 23, 3, .inl (48, 0)),
  (28, .iload_n 1, 1, .inl (0, 0)),
  (29, .iconst 2, 1, .inr (.inl 2)),
  (30, .if_icmp .ne 17, 3, .inl (47, 0)),
  (33, .iload_n 2, 1, .inl (0, 0)),
  (34, .iconst 0, 1, .inr (.inl 0)),
  (35, .bipush 10, 2, .inr (.inl 10)),
  (37, .invokestatic 98, 3, .inr (.inr (.inr yX11_in))),
  (40, .ifCond .eq 7, 3, .inl (47, 0)),
  (43, .iconst 1, 1, .inr (.inl 1)),
  (44, .goto 4, 3, .inl (48, 0)),
  (47, .iconst 0, 1, .inr (.inl 0)),
  (48, .istore_n 3, 1, .inl (0, 0)),
  (49, .iload_n 3, 1, .inl (0, 0)),
  (50, .ifCond .ne 6, 3, .inl (56, 0)),
  (53, .bipush (-2), 2, .inr (.inl (-2))),
  (55, .ireturn, 1, .inl (0, 0)),
  (56, .iload_n 1, 1, .inl (0, 0)),
  (57, .ifCond .ne 10, 3, .inl (67, 0)),
  (60, .aload_n 0, 1, .inl (0, 0)),
  (61, .getfield 106, 3, .inl (6, 3)),
  (64, .goto 19, 3, .inl (83, 0)),
  (67, .iload_n 1, 1, .inl (0, 0)),
  (68, .iconst 1, 1, .inr (.inl 1)),
  (69, .if_icmp .ne 10, 3, .inl (79, 0)),
  (72, .aload_n 0, 1, .inl (0, 0)),
  (73, .getfield 20, 3, .inl (6, 4)),
  (76, .goto 7, 3, .inl (83, 0)),
  (79, .aload_n 0, 1, .inl (0, 0)),
  (80, .getfield 23, 3, .inl (6, 5)),
  (83, .istore 4, 2, .inl (0, 0)),
  (85, .aload_n 0, 1, .inl (0, 0)),
  (86, .iload_n 1, 1, .inl (0, 0)),
  (87, .ifCond .ne 7, 3, .inl (94, 0)),
  (90, .iload_n 2, 1, .inl (0, 0)),
  (91, .goto 7, 3, .inl (98, 0)),
  (94, .aload_n 0, 1, .inl (0, 0)),
  (95, .getfield 106, 3, .inl (6, 3)),
  (98, .putfield 106, 3, .inl (6, 3)),
  (101, .aload_n 0, 1, .inl (0, 0)),
  (102, .iload_n 1, 1, .inl (0, 0)),
  (103, .iconst 1, 1, .inr (.inl 1)),
  (104, .if_icmp .ne 7, 3, .inl (111, 0)),
  (107, .iload_n 2, 1, .inl (0, 0)),
  (108, .goto 7, 3, .inl (115, 0)),
  (111, .aload_n 0, 1, .inl (0, 0)),
  (112, .getfield 20, 3, .inl (6, 4)),
  (115, .putfield 20, 3, .inl (6, 4)),
  (118, .aload_n 0, 1, .inl (0, 0)),
  (119, .iload_n 1, 1, .inl (0, 0)),
  (120, .iconst 2, 1, .inr (.inl 2)),
  (121, .if_icmp .ne 7, 3, .inl (128, 0)),
  (124, .iload_n 2, 1, .inl (0, 0)),
  (125, .goto 7, 3, .inl (132, 0)),
  (128, .aload_n 0, 1, .inl (0, 0)),
  (129, .getfield 23, 3, .inl (6, 5)),
  (132, .putfield 23, 3, .inl (6, 5)),
  (135, .iload 4, 2, .inl (0, 0)),
  (137, .ireturn, 1, .inl (0, 0))]
def mX11_set : pm_M := (yX11_set, cX11_set, 5, (some .int), tX11_set)
theorem okX11_set : pm_ok mX11_set = true := by decide +kernel
def tX11_say : List pm_E := [(0, .iload_n 1, 1, .inl (0, 0)),
  (1, .bipush 33, 2, .inr (.inl 33)),
  (3, .bipush 126, 2, .inr (.inl 126)),
  (5, .invokestatic 98, 3, .inr (.inr (.inr yX11_in))),
  (8, .ifCond .ne 6, 3, .inl (14, 0)),
  (11, .bipush (-2), 2, .inr (.inl (-2))),
  (13, .ireturn, 1, .inl (0, 0)),
  (14, .aload_n 0, 1, .inl (0, 0)),
  (15, .getfield 109, 3, .inl (6, 6)),
  (18, .bipush 48, 2, .inr (.inl 48)),
  (20, .if_icmp .ne 6, 3, .inl (26, 0)),
  (23, .bipush (-4), 2, .inr (.inl (-4))),
  (25, .ireturn, 1, .inl (0, 0)),
  (26, .aload_n 0, 1, .inl (0, 0)),
  (27, .getfield 26, 3, .inl (6, 7)),
  (30, .aload_n 0, 1, .inl (0, 0)),
  (31, .getfield 109, 3, .inl (6, 6)),
  (34, .iload_n 1, 1, .inl (0, 0)),
  (35, .iastore, 1, .inl (0, 0)),
  (36, .aload_n 0, 1, .inl (0, 0)),
  (37, .dup, 1, .inl (0, 0)),
  (38, .getfield 109, 3, .inl (6, 6)),
  (41, .iconst 1, 1, .inr (.inl 1)),
  (42, .iadd, 1, .inl (0, 0)),
  (43, .putfield 109, 3, .inl (6, 6)),
  (46, .aload_n 0, 1, .inl (0, 0)),
  (47, .getfield 109, 3, .inl (6, 6)),
  (50, .ireturn, 1, .inl (0, 0))]
def mX11_say : pm_M := (yX11_say, cX11_say, 2, (some .int), tX11_say)
theorem okX11_say : pm_ok mX11_say = true := by decide +kernel
def tX11_wipe : List pm_E := [(0, .aload_n 0, 1, .inl (0, 0)),
  (1, .getfield 109, 3, .inl (6, 6)),
  (4, .istore_n 1, 1, .inl (0, 0)),
  (5, .aload_n 0, 1, .inl (0, 0)),
  (6, .iconst 0, 1, .inr (.inl 0)),
  (7, .putfield 109, 3, .inl (6, 6)),
  (10, .iload_n 1, 1, .inl (0, 0)),
  (11, .ireturn, 1, .inl (0, 0))]
def mX11_wipe : pm_M := (yX11_wipe, cX11_wipe, 2, (some .int), tX11_wipe)
theorem okX11_wipe : pm_ok mX11_wipe = true := by decide +kernel
def tX11_weekFault : List pm_E := [(0, .iconst 0, 1, .inr (.inl 0)),
  (1, .istore_n 1, 1, .inl (0, 0)),
  (2, .iconst 0, 1, .inr (.inl 0)),
  (3, .istore_n 2, 1, .inl (0, 0)),
  (4, .iload_n 2, 1, .inl (0, 0)),
  (5, .aload_n 0, 1, .inl (0, 0)),
  (6, .getfield 109, 3, .inl (6, 6)),
  (9, .if_icmp .ge 78, 3, .inl (87, 0)),
  (12, .aload_n 0, 1, .inl (0, 0)),
  (13, .getfield 26, 3, .inl (6, 7)),
  (16, .iload_n 2, 1, .inl (0, 0)),
  (17, .iaload, 1, .inl (0, 0)),
  (18, .istore_n 3, 1, .inl (0, 0)),
  (19, .iload_n 1, 1, .inl (0, 0)),
  (20, .iload_n 3, 1, .inl (0, 0)),
  (21, .bipush 63, 2, .inr (.inl 63)),
  (23, .if_icmp .ne 7, 3, .inl (30, 0)),
  (26, .iconst 1, 1, .inr (.inl 1)),
  (27, .goto 4, 3, .inl (31, 0)),
  (30, .iconst 0, 1, .inr (.inl 0)),
  (31, .iadd, 1, .inl (0, 0)),
  (32, .istore_n 1, 1, .inl (0, 0)),
  (33, .iload_n 3, 1, .inl (0, 0)),
  (34, .bipush 46, 2, .inr (.inl 46)),
  (36, .if_icmp .eq 31, 3, .inl (67, 0)),
  (39, .iload_n 3, 1, .inl (0, 0)),
  (40, .bipush 42, 2, .inr (.inl 42)),
  (42, .if_icmp .eq 25, 3, .inl (67, 0)),
  (45, .iload_n 3, 1, .inl (0, 0)),
  (46, .bipush 63, 2, .inr (.inl 63)),
  (48, .if_icmp .ne 8, 3, .inl (56, 0)),
  (51, .iload_n 1, 1, .inl (0, 0)),
  (52, .iconst 4, 1, .inr (.inl 4)),
  (53, .if_icmp .le 14, 3, .inl (67, 0)),
  (56, .aload_n 0, 1, .inl (0, 0)),
  (57, .iload_n 3, 1, .inl (0, 0)),
  (58, .bipush 97, 2, .inr (.inl 97)),
  (60, .isub, 1, .inl (0, 0)),
  (61, .invokevirtual 102, 3, .inr (.inr (.inr yX11_isBed))),
  (64, .ifCond .eq 7, 3, .inl (71, 0)),
  (67, .iconst 1, 1, .inr (.inl 1)),
  (68, .goto 4, 3, .inl (72, 0)),
  (71, .iconst 0, 1, .inr (.inl 0)),
  (72, .istore 4, 2, .inl (0, 0)),
  (74, .iload 4, 2, .inl (0, 0)),
  (76, .ifCond .ne 5, 3, .inl (81, 0)),
  (79, .iload_n 2, 1, .inl (0, 0)),
  (80, .ireturn, 1, .inl (0, 0)),
  (81, .iinc 2 1, 3, .inr (.inl 1)),
  (84, .goto (-80), 3, .inl (4, 0)),
  (87, .bipush (-6), 2, .inr (.inl (-6))),
  (89, .ireturn, 1, .inl (0, 0))]
def mX11_weekFault : pm_M := (yX11_weekFault, cX11_weekFault, 5, (some .int), tX11_weekFault)
theorem okX11_weekFault : pm_ok mX11_weekFault = true := by decide +kernel
def tX11_orderFault : List pm_E := [(0, .iconst 0, 1, .inr (.inl 0)),
  (1, .istore_n 1, 1, .inl (0, 0)),
  (2, .iconst 0, 1, .inr (.inl 0)),
  (3, .istore_n 2, 1, .inl (0, 0)),
  (4, .iload_n 2, 1, .inl (0, 0)),
  (5, .aload_n 0, 1, .inl (0, 0)),
  (6, .getfield 109, 3, .inl (6, 6)),
  (9, .if_icmp .ge 43, 3, .inl (52, 0)),
  (12, .aload_n 0, 1, .inl (0, 0)),
  (13, .getfield 26, 3, .inl (6, 7)),
  (16, .iload_n 2, 1, .inl (0, 0)),
  (17, .iaload, 1, .inl (0, 0)),
  (18, .bipush 97, 2, .inr (.inl 97)),
  (20, .isub, 1, .inl (0, 0)),
  (21, .istore_n 3, 1, .inl (0, 0)),
  (22, .aload_n 0, 1, .inl (0, 0)),
  (23, .iload_n 3, 1, .inl (0, 0)),
  (24, .invokevirtual 102, 3, .inr (.inr (.inr yX11_isBed))),
  (27, .ifCond .eq 11, 3, .inl (38, 0)),
  (30, .iload_n 1, 1, .inl (0, 0)),
  (31, .iload_n 3, 1, .inl (0, 0)),
  (32, .invokestatic 112, 3, .inr (.inr (.inr yX11_has))),
  (35, .ifCond .eq 5, 3, .inl (40, 0)),
  (38, .iload_n 2, 1, .inl (0, 0)),
  (39, .ireturn, 1, .inl (0, 0)),
  (40, .iload_n 1, 1, .inl (0, 0)),
  (41, .iconst 1, 1, .inr (.inl 1)),
  (42, .iload_n 3, 1, .inl (0, 0)),
  (43, .ishl, 1, .inl (0, 0)),
  (44, .ior, 1, .inl (0, 0)),
  (45, .istore_n 1, 1, .inl (0, 0)),
  (46, .iinc 2 1, 3, .inr (.inl 1)),
  (49, .goto (-45), 3, .inl (4, 0)),
  (52, .aload_n 0, 1, .inl (0, 0)),
  (53, .getfield 109, 3, .inl (6, 6)),
  (56, .aload_n 0, 1, .inl (0, 0)),
  (57, .getfield 7, 3, .inl (6, 0)),
  (60, .if_icmp .ge 10, 3, .inl (70, 0)),
  (63, .aload_n 0, 1, .inl (0, 0)),
  (64, .getfield 109, 3, .inl (6, 6)),
  (67, .goto 5, 3, .inl (72, 0)),
  (70, .bipush (-6), 2, .inr (.inl (-6))),
  (72, .ireturn, 1, .inl (0, 0))]
def mX11_orderFault : pm_M := (yX11_orderFault, cX11_orderFault, 4, (some .int), tX11_orderFault)
theorem okX11_orderFault : pm_ok mX11_orderFault = true := by decide +kernel
def tX11_colourOf : List pm_E := [(0, .iload_n 0, 1, .inl (0, 0)),
  (1, .bipush 114, 2, .inr (.inl 114)),
  (3, .if_icmp .ne 7, 3, .inl (10, 0)),
  (6, .iconst 0, 1, .inr (.inl 0)),
  (7, .goto 45, 3, .inl (52, 0)),
  (10, .iload_n 0, 1, .inl (0, 0)),
  (11, .bipush 119, 2, .inr (.inl 119)),
  (13, .if_icmp .ne 7, 3, .inl (20, 0)),
  (16, .iconst 1, 1, .inr (.inl 1)),
  (17, .goto 35, 3, .inl (52, 0)),
  (20, .iload_n 0, 1, .inl (0, 0)),
  (21, .bipush 121, 2, .inr (.inl 121)),
  (23, .if_icmp .ne 7, 3, .inl (30, 0)),
  (26, .iconst 2, 1, .inr (.inl 2)),
  (27, .goto 25, 3, .inl (52, 0)),
  (30, .iload_n 0, 1, .inl (0, 0)),
  (31, .bipush 112, 2, .inr (.inl 112)),
  (33, .if_icmp .ne 7, 3, .inl (40, 0)),
  (36, .iconst 3, 1, .inr (.inl 3)),
  (37, .goto 15, 3, .inl (52, 0)),
  (40, .iload_n 0, 1, .inl (0, 0)),
  (41, .bipush 63, 2, .inr (.inl 63)),
  (43, .if_icmp .ne 7, 3, .inl (50, 0)),
  (46, .iconst 4, 1, .inr (.inl 4)),
  (47, .goto 5, 3, .inl (52, 0)),
  (50, .bipush (-6), 2, .inr (.inl (-6))),
  (52, .ireturn, 1, .inl (0, 0))]
def mX11_colourOf : pm_M := (yX11_colourOf, cX11_colourOf, 1, (some .int), tX11_colourOf)
theorem okX11_colourOf : pm_ok mX11_colourOf = true := by decide +kernel
def tX11_wishFault : List pm_E := [(0, .iconst 0, 1, .inr (.inl 0)),
  (1, .istore_n 1, 1, .inl (0, 0)),
  (2, .iload_n 1, 1, .inl (0, 0)),
  (3, .aload_n 0, 1, .inl (0, 0)),
  (4, .getfield 109, 3, .inl (6, 6)),
  (7, .if_icmp .ge 31, 3, .inl (38, 0)),
  (10, .iload_n 1, 1, .inl (0, 0)),
  (11, .aload_n 0, 1, .inl (0, 0)),
  (12, .getfield 7, 3, .inl (6, 0)),
  (15, .if_icmp .eq 15, 3, .inl (30, 0)),
  (18, .aload_n 0, 1, .inl (0, 0)),
  (19, .getfield 26, 3, .inl (6, 7)),
  (22, .iload_n 1, 1, .inl (0, 0)),
  (23, .iaload, 1, .inl (0, 0)),
  (24, .invokestatic 116, 3, .inr (.inr (.inr yX11_colourOf))),
  (27, .ifCond .ge 5, 3, .inl (32, 0)),
  (30, .iload_n 1, 1, .inl (0, 0)),
  (31, .ireturn, 1, .inl (0, 0)),
  (32, .iinc 1 1, 3, .inr (.inl 1)),
  (35, .goto (-33), 3, .inl (2, 0)),
  (38, .aload_n 0, 1, .inl (0, 0)),
  (39, .getfield 109, 3, .inl (6, 6)),
  (42, .ifCond .ne 7, 3, .inl (49, 0)),
  (45, .iconst 0, 1, .inr (.inl 0)),
  (46, .goto 5, 3, .inl (51, 0)),
  (49, .bipush (-6), 2, .inr (.inl (-6))),
  (51, .ireturn, 1, .inl (0, 0))]
def mX11_wishFault : pm_M := (yX11_wishFault, cX11_wishFault, 2, (some .int), tX11_wishFault)
theorem okX11_wishFault : pm_ok mX11_wishFault = true := by decide +kernel
def tX11_fault : List pm_E := [(0, .iload_n 1, 1, .inl (0, 0)),
  (1, .ifCond .ne 10, 3, .inl (11, 0)),
  (4, .aload_n 0, 1, .inl (0, 0)),
  (5, .invokevirtual 120, 3, .inr (.inr (.inr yX11_weekFault))),
  (8, .goto 29, 3, .inl (37, 0)),
  (11, .iload_n 1, 1, .inl (0, 0)),
  (12, .iconst 1, 1, .inr (.inl 1)),
  (13, .if_icmp .ne 10, 3, .inl (23, 0)),
  (16, .aload_n 0, 1, .inl (0, 0)),
  (17, .invokevirtual 124, 3, .inr (.inr (.inr yX11_orderFault))),
  (20, .goto 17, 3, .inl (37, 0)),
  (23, .iload_n 1, 1, .inl (0, 0)),
  (24, .iconst 2, 1, .inr (.inl 2)),
  (25, .if_icmp .ne 10, 3, .inl (35, 0)),
  (28, .aload_n 0, 1, .inl (0, 0)),
  (29, .invokevirtual 127, 3, .inr (.inr (.inr yX11_wishFault))),
  (32, .goto 5, 3, .inl (37, 0)),
  (35, .bipush (-2), 2, .inr (.inl (-2))),
  (37, .ireturn, 1, .inl (0, 0))]
def mX11_fault : pm_M := (yX11_fault, cX11_fault, 2, (some .int), tX11_fault)
theorem okX11_fault : pm_ok mX11_fault = true := by decide +kernel
def tX11_opens : List pm_E := [(0, .iconst 0, 1, .inr (.inl 0)),
  (1, .istore_n 1, 1, .inl (0, 0)),
  (2, .iconst 0, 1, .inr (.inl 0)),
  (3, .istore_n 2, 1, .inl (0, 0)),
  (4, .iload_n 2, 1, .inl (0, 0)),
  (5, .aload_n 0, 1, .inl (0, 0)),
  (6, .getfield 109, 3, .inl (6, 6)),
  (9, .if_icmp .ge 28, 3, .inl (37, 0)),
  (12, .iload_n 1, 1, .inl (0, 0)),
  (13, .aload_n 0, 1, .inl (0, 0)),
  (14, .getfield 26, 3, .inl (6, 7)),
  (17, .iload_n 2, 1, .inl (0, 0)),
  (18, .iaload, 1, .inl (0, 0)),
  (19, .bipush 63, 2, .inr (.inl 63)),
  (21, .if_icmp .ne 7, 3, .inl (28, 0)),
  (24, .iconst 1, 1, .inr (.inl 1)),
  (25, .goto 4, 3, .inl (29, 0)),
  (28, .iconst 0, 1, .inr (.inl 0)),
  (29, .iadd, 1, .inl (0, 0)),
  (30, .istore_n 1, 1, .inl (0, 0)),
  (31, .iinc 2 1, 3, .inr (.inl 1)),
  (34, .goto (-30), 3, .inl (4, 0)),
  (37, .iload_n 1, 1, .inl (0, 0)),
  (38, .ireturn, 1, .inl (0, 0))]
def mX11_opens : pm_M := (yX11_opens, cX11_opens, 3, (some .int), tX11_opens)
theorem okX11_opens : pm_ok mX11_opens = true := by decide +kernel
def tX11_sizeOf : List pm_E := [(0, .iconst 0, 1, .inr (.inl 0)),
  (1, .istore_n 1, 1, .inl (0, 0)),
  (2, .iload_n 0, 1, .inl (0, 0)),
  (3, .istore_n 2, 1, .inl (0, 0)),
  (4, .iload_n 2, 1, .inl (0, 0)),
  (5, .ifCond .le 14, 3, .inl (19, 0)),
  (8, .iinc 1 1, 3, .inr (.inl 1)),
  (11, .iload_n 2, 1, .inl (0, 0)),
  (12, .bipush 7, 2, .inr (.inl 7)),
  (14, .idiv, 1, .inl (0, 0)),
  (15, .istore_n 2, 1, .inl (0, 0)),
  (16, .goto (-12), 3, .inl (4, 0)),
  (19, .iload_n 1, 1, .inl (0, 0)),
  (20, .ireturn, 1, .inl (0, 0))]
def mX11_sizeOf : pm_M := (yX11_sizeOf, cX11_sizeOf, 3, (some .int), tX11_sizeOf)
theorem okX11_sizeOf : pm_ok mX11_sizeOf = true := by decide +kernel
def tX11_without : List pm_E := [(0, .iload_n 0, 1, .inl (0, 0)),
  (1, .istore_n 2, 1, .inl (0, 0)),
  (2, .iconst 1, 1, .inr (.inl 1)),
  (3, .istore_n 3, 1, .inl (0, 0)),
  (4, .iconst 0, 1, .inr (.inl 0)),
  (5, .istore 4, 2, .inl (0, 0)),
  (7, .iload_n 2, 1, .inl (0, 0)),
  (8, .ifCond .le 37, 3, .inl (45, 0)),
  (11, .iload_n 2, 1, .inl (0, 0)),
  (12, .bipush 7, 2, .inr (.inl 7)),
  (14, .irem, 1, .inl (0, 0)),
  (15, .iload_n 1, 1, .inl (0, 0)),
  (16, .iconst 1, 1, .inr (.inl 1)),
  (17, .iadd, 1, .inl (0, 0)),
  (18, .if_icmp .eq 19, 3, .inl (37, 0)),
  (21, .iload 4, 2, .inl (0, 0)),
  (23, .iload_n 2, 1, .inl (0, 0)),
  (24, .bipush 7, 2, .inr (.inl 7)),
  (26, .irem, 1, .inl (0, 0)),
  (27, .iload_n 3, 1, .inl (0, 0)),
  (28, .imul, 1, .inl (0, 0)),
  (29, .iadd, 1, .inl (0, 0)),
  (30, .istore 4, 2, .inl (0, 0)),
  (32, .iload_n 3, 1, .inl (0, 0)),
  (33, .bipush 7, 2, .inr (.inl 7)),
  (35, .imul, 1, .inl (0, 0)),
  (36, .istore_n 3, 1, .inl (0, 0)),
  (37, .iload_n 2, 1, .inl (0, 0)),
  (38, .bipush 7, 2, .inr (.inl 7)),
  (40, .idiv, 1, .inl (0, 0)),
  (41, .istore_n 2, 1, .inl (0, 0)),
  (42, .goto (-35), 3, .inl (7, 0)),
  (45, .iload 4, 2, .inl (0, 0)),
  (47, .ireturn, 1, .inl (0, 0))]
def mX11_without : pm_M := (yX11_without, cX11_without, 5, (some .int), tX11_without)
theorem okX11_without : pm_ok mX11_without = true := by decide +kernel
def tX11_isIn : List pm_E := [(0, .iconst 0, 1, .inr (.inl 0)),
  (1, .istore_n 2, 1, .inl (0, 0)),
  (2, .iload_n 0, 1, .inl (0, 0)),
  (3, .istore_n 3, 1, .inl (0, 0)),
  (4, .iload_n 3, 1, .inl (0, 0)),
  (5, .ifCond .le 31, 3, .inl (36, 0)),
  (8, .iload_n 2, 1, .inl (0, 0)),
  (9, .ifCond .ne 13, 3, .inl (22, 0)),
  (12, .iload_n 3, 1, .inl (0, 0)),
  (13, .bipush 7, 2, .inr (.inl 7)),
  (15, .irem, 1, .inl (0, 0)),
  (16, .iload_n 1, 1, .inl (0, 0)),
  (17, .iconst 1, 1, .inr (.inl 1)),
  (18, .iadd, 1, .inl (0, 0)),
  (19, .if_icmp .ne 7, 3, .inl (26, 0)),
  (22, .iconst 1, 1, .inr (.inl 1)),
  (23, .goto 4, 3, .inl (27, 0)),
  (26, .iconst 0, 1, .inr (.inl 0)),
  (27, .istore_n 2, 1, .inl (0, 0)),
  (28, .iload_n 3, 1, .inl (0, 0)),
  (29, .bipush 7, 2, .inr (.inl 7)),
  (31, .idiv, 1, .inl (0, 0)),
  (32, .istore_n 3, 1, .inl (0, 0)),
  (33, .goto (-29), 3, .inl (4, 0)),
  (36, .iload_n 2, 1, .inl (0, 0)),
  (37, .ireturn, 1, .inl (0, 0))]
def mX11_isIn : pm_M := (yX11_isIn, cX11_isIn, 4, (some .boolean), tX11_isIn)
theorem okX11_isIn : pm_ok mX11_isIn = true := by decide +kernel
def tX11_watered : List pm_E := [(0, .bipush 7, 2, .inr (.inl 7)),
  (2, .iload_n 0, 1, .inl (0, 0)),
  (3, .iload_n 1, 1, .inl (0, 0)),
  (4, .invokestatic 130, 3, .inr (.inr (.inr yX11_without))),
  (7, .imul, 1, .inl (0, 0)),
  (8, .iload_n 1, 1, .inl (0, 0)),
  (9, .iadd, 1, .inl (0, 0)),
  (10, .iconst 1, 1, .inr (.inl 1)),
  (11, .iadd, 1, .inl (0, 0)),
  (12, .ireturn, 1, .inl (0, 0))]
def mX11_watered : pm_M := (yX11_watered, cX11_watered, 2, (some .int), tX11_watered)
theorem okX11_watered : pm_ok mX11_watered = true := by decide +kernel
def tX11_rained : List pm_E := [(0, .iconst 0, 1, .inr (.inl 0)),
  (1, .istore_n 2, 1, .inl (0, 0)),
  (2, .iconst 0, 1, .inr (.inl 0)),
  (3, .istore_n 3, 1, .inl (0, 0)),
  (4, .iload_n 3, 1, .inl (0, 0)),
  (5, .aload_n 0, 1, .inl (0, 0)),
  (6, .getfield 7, 3, .inl (6, 0)),
  (9, .if_icmp .ge 30, 3, .inl (39, 0)),
  (12, .iload_n 1, 1, .inl (0, 0)),
  (13, .iload_n 3, 1, .inl (0, 0)),
  (14, .invokestatic 112, 3, .inr (.inr (.inr yX11_has))),
  (17, .ifCond .eq 7, 3, .inl (24, 0)),
  (20, .iload_n 2, 1, .inl (0, 0)),
  (21, .goto 11, 3, .inl (32, 0)),
  (24, .bipush 7, 2, .inr (.inl 7)),
  (26, .iload_n 2, 1, .inl (0, 0)),
  (27, .imul, 1, .inl (0, 0)),
  (28, .iload_n 3, 1, .inl (0, 0)),
  (29, .iadd, 1, .inl (0, 0)),
  (30, .iconst 1, 1, .inr (.inl 1)),
  (31, .iadd, 1, .inl (0, 0)),
  (32, .istore_n 2, 1, .inl (0, 0)),
  (33, .iinc 3 1, 3, .inr (.inl 1)),
  (36, .goto (-32), 3, .inl (4, 0)),
  (39, .iload_n 2, 1, .inl (0, 0)),
  (40, .ireturn, 1, .inl (0, 0))]
def mX11_rained : pm_M := (yX11_rained, cX11_rained, 4, (some .int), tX11_rained)
theorem okX11_rained : pm_ok mX11_rained = true := by decide +kernel
def tX11_nextOf : List pm_E := [(0, .iload_n 1, 1, .inl (0, 0)),
  (1, .invokestatic 134, 3, .inr (.inr (.inr yX11_sizeOf))),
  (4, .istore_n 2, 1, .inl (0, 0)),
  (5, .iload_n 2, 1, .inl (0, 0)),
  (6, .ifCond .ne 6, 3, .inl (12, 0)),
  (9, .bipush (-6), 2, .inr (.inl (-6))),
  (11, .ireturn, 1, .inl (0, 0)),
  (12, .aload_n 0, 1, .inl (0, 0)),
  (13, .getfield 106, 3, .inl (6, 3)),
  (16, .ifCond .ne 7, 3, .inl (23, 0)),
  (19, .iconst 0, 1, .inr (.inl 0)),
  (20, .goto 29, 3, .inl (49, 0)),
  (23, .aload_n 0, 1, .inl (0, 0)),
  (24, .getfield 106, 3, .inl (6, 3)),
  (27, .iconst 1, 1, .inr (.inl 1)),
  (28, .if_icmp .ne 9, 3, .inl (37, 0)),
  (31, .iload_n 2, 1, .inl (0, 0)),
  (32, .iconst 1, 1, .inr (.inl 1)),
  (33, .isub, 1, .inl (0, 0)),
  (34, .goto 15, 3, .inl (49, 0)),
  (37, .iload_n 2, 1, .inl (0, 0)),
  (38, .iconst 3, 1, .inr (.inl 3)),
  (39, .if_icmp .ge 9, 3, .inl (48, 0)),
  (42, .iload_n 2, 1, .inl (0, 0)),
  (43, .iconst 1, 1, .inr (.inl 1)),
  (44, .isub, 1, .inl (0, 0)),
  (45, .goto 4, 3, .inl (49, 0)),
  (48, .iconst 2, 1, .inr (.inl 2)),
  (49, .istore_n 3, 1, .inl (0, 0)),
  (50, .iload_n 1, 1, .inl (0, 0)),
  (51, .istore 4, 2, .inl (0, 0)),
  (53, .iconst 0, 1, .inr (.inl 0)),
  (54, .istore 5, 2, .inl (0, 0)),
  (56, .iload 5, 2, .inl (0, 0)),
  (58, .iload_n 3, 1, .inl (0, 0)),
  (59, .if_icmp .ge 16, 3, .inl (75, 0)),
  (62, .iload 4, 2, .inl (0, 0)),
  (64, .bipush 7, 2, .inr (.inl 7)),
  (66, .idiv, 1, .inl (0, 0)),
  (67, .istore 4, 2, .inl (0, 0)),
  (69, .iinc 5 1, 3, .inr (.inl 1)),
  (72, .goto (-16), 3, .inl (56, 0)),
  (75, .iload 4, 2, .inl (0, 0)),
  (77, .bipush 7, 2, .inr (.inl 7)),
  (79, .irem, 1, .inl (0, 0)),
  (80, .iconst 1, 1, .inr (.inl 1)),
  (81, .isub, 1, .inl (0, 0)),
  (82, .ireturn, 1, .inl (0, 0))]
def mX11_nextOf : pm_M := (yX11_nextOf, cX11_nextOf, 6, (some .int), tX11_nextOf)
theorem okX11_nextOf : pm_ok mX11_nextOf = true := by decide +kernel
def tX11_whyNot : List pm_E := [(0, .iload_n 2, 1, .inl (0, 0)),
  (1, .iload_n 3, 1, .inl (0, 0)),
  (2, .invokestatic 112, 3, .inr (.inr (.inr yX11_has))),
  (5, .ifCond .eq 5, 3, .inl (10, 0)),
  (8, .iconst 1, 1, .inr (.inl 1)),
  (9, .ireturn, 1, .inl (0, 0)),
  (10, .iload_n 1, 1, .inl (0, 0)),
  (11, .iload_n 3, 1, .inl (0, 0)),
  (12, .invokestatic 137, 3, .inr (.inr (.inr yX11_isIn))),
  (15, .ifCond .ne 16, 3, .inl (31, 0)),
  (18, .iload_n 1, 1, .inl (0, 0)),
  (19, .invokestatic 134, 3, .inr (.inr (.inr yX11_sizeOf))),
  (22, .aload_n 0, 1, .inl (0, 0)),
  (23, .getfield 20, 3, .inl (6, 4)),
  (26, .if_icmp .lt 5, 3, .inl (31, 0)),
  (29, .iconst 2, 1, .inr (.inl 2)),
  (30, .ireturn, 1, .inl (0, 0)),
  (31, .aload_n 0, 1, .inl (0, 0)),
  (32, .getfield 17, 3, .inl (6, 2)),
  (35, .iload_n 3, 1, .inl (0, 0)),
  (36, .iaload, 1, .inl (0, 0)),
  (37, .istore 4, 2, .inl (0, 0)),
  (39, .iload 4, 2, .inl (0, 0)),
  (41, .ifCond .lt 25, 3, .inl (66, 0)),
  (44, .iload_n 1, 1, .inl (0, 0)),
  (45, .iload 4, 2, .inl (0, 0)),
  (47, .invokestatic 137, 3, .inr (.inr (.inr yX11_isIn))),
  (50, .ifCond .ne 16, 3, .inl (66, 0)),
  (53, .iload_n 2, 1, .inl (0, 0)),
  (54, .iload 4, 2, .inl (0, 0)),
  (56, .invokestatic 112, 3, .inr (.inr (.inr yX11_has))),
  (59, .ifCond .ne 7, 3, .inl (66, 0)),
  (62, .iconst 3, 1, .inr (.inl 3)),
  (63, .goto 4, 3, .inl (67, 0)),
  (66, .iconst 0, 1, .inr (.inl 0)),
  (67, .ireturn, 1, .inl (0, 0))]
def mX11_whyNot : pm_M := (yX11_whyNot, cX11_whyNot, 5, (some .int), tX11_whyNot)
theorem okX11_whyNot : pm_ok mX11_whyNot = true := by decide +kernel
def tX11_goWeek : List pm_E := [(0, .aload_n 0, 1, .inl (0, 0)),
  (1, .aload_n 0, 1, .inl (0, 0)),
  (2, .getfield 86, 3, .inl (6, 8)),
  (5, .putfield 140, 3, .inl (6, 14)),
  (8, .aload_n 0, 1, .inl (0, 0)),
  (9, .aload_n 0, 1, .inl (0, 0)),
  (10, .getfield 89, 3, .inl (6, 9)),
  (13, .putfield 143, 3, .inl (6, 15)),
  (16, .aload_n 0, 1, .inl (0, 0)),
  (17, .iconst 0, 1, .inr (.inl 0)),
  (18, .putfield 146, 3, .inl (6, 16)),
  (21, .aload_n 0, 1, .inl (0, 0)),
  (22, .iconst 0, 1, .inr (.inl 0)),
  (23, .putfield 149, 3, .inl (6, 18)),
  (26, .iconst 1, 1, .inr (.inl 1)),
  (27, .istore_n 2, 1, .inl (0, 0)),
  (28, .iconst 1, 1, .inr (.inl 1)),
  (29, .istore_n 3, 1, .inl (0, 0)),
  (30, .iload_n 3, 1, .inl (0, 0)),
  (31, .aload_n 0, 1, .inl (0, 0)),
  (32, .invokevirtual 152, 3, .inr (.inr (.inr yX11_opens))),
  (35, .if_icmp .ge 16, 3, .inl (51, 0)),
  (38, .iload_n 2, 1, .inl (0, 0)),
  (39, .aload_n 0, 1, .inl (0, 0)),
  (40, .getfield 7, 3, .inl (6, 0)),
  (43, .imul, 1, .inl (0, 0)),
  (44, .istore_n 2, 1, .inl (0, 0)),
  (45, .iinc 3 1, 3, .inr (.inl 1)),
  (48, .goto (-18), 3, .inl (30, 0)),
  (51, .iconst 0, 1, .inr (.inl 0)),
  (52, .istore_n 3, 1, .inl (0, 0)),
  (53, .iload_n 3, 1, .inl (0, 0)),
  (54, .aload_n 0, 1, .inl (0, 0)),
  (55, .getfield 109, 3, .inl (6, 6)),
  (58, .if_icmp .ge 227, 3, .inl (285, 0)),
  (61, .aload_n 0, 1, .inl (0, 0)),
  (62, .getfield 26, 3, .inl (6, 7)),
  (65, .iload_n 3, 1, .inl (0, 0)),
  (66, .iaload, 1, .inl (0, 0)),
  (67, .istore 4, 2, .inl (0, 0)),
  (69, .iload 4, 2, .inl (0, 0)),
  (71, .bipush 42, 2, .inr (.inl 42)),
  (73, .if_icmp .ne 18, 3, .inl (91, 0)),
  (76, .aload_n 0, 1, .inl (0, 0)),
  (77, .aload_n 0, 1, .inl (0, 0)),
  (78, .aload_n 0, 1, .inl (0, 0)),
  (79, .getfield 143, 3, .inl (6, 15)),
  (82, .invokevirtual 155, 3, .inr (.inr (.inr yX11_rained))),
  (85, .putfield 140, 3, .inl (6, 14)),
  (88, .goto 182, 3, .inl (270, 0)),
  (91, .iload 4, 2, .inl (0, 0)),
  (93, .bipush 46, 2, .inr (.inl 46)),
  (95, .if_icmp .ne 82, 3, .inl (177, 0)),
  (98, .aload_n 0, 1, .inl (0, 0)),
  (99, .aload_n 0, 1, .inl (0, 0)),
  (100, .getfield 140, 3, .inl (6, 14)),
  (103, .invokevirtual 158, 3, .inr (.inr (.inr yX11_nextOf))),
  (106, .istore 5, 2, .inl (0, 0)),
  (108, .aload_n 0, 1, .inl (0, 0)),
  (109, .iload 5, 2, .inl (0, 0)),
  (111, .ifCond .ge 7, 3, .inl (118, 0)),
  (114, .iconst 4, 1, .inr (.inl 4)),
  (115, .goto 4, 3, .inl (119, 0)),
  (118, .iconst 0, 1, .inr (.inl 0)),
  (119, .putfield 149, 3, .inl (6, 18)),
  (122, .iload 5, 2, .inl (0, 0)),
  (124, .ifCond .lt 50, 3, .inl (174, 0)),
  (127, .aload_n 0, 1, .inl (0, 0)),
  (128, .aload_n 0, 1, .inl (0, 0)),
  (129, .getfield 140, 3, .inl (6, 14)),
  (132, .iload 5, 2, .inl (0, 0)),
  (134, .invokestatic 130, 3, .inr (.inr (.inr yX11_without))),
  (137, .putfield 140, 3, .inl (6, 14)),
  (140, .aload_n 0, 1, .inl (0, 0)),
  (141, .dup, 1, .inl (0, 0)),
  (142, .getfield 143, 3, .inl (6, 15)),
  (145, .iconst 1, 1, .inr (.inl 1)),
  (146, .iload 5, 2, .inl (0, 0)),
  (148, .ishl, 1, .inl (0, 0)),
  (149, .ior, 1, .inl (0, 0)),
  (150, .putfield 143, 3, .inl (6, 15)),
  (153, .aload_n 0, 1, .inl (0, 0)),
  (154, .getfield 35, 3, .inl (6, 17)),
  (157, .aload_n 0, 1, .inl (0, 0)),
  (158, .getfield 146, 3, .inl (6, 16)),
  (161, .iload 5, 2, .inl (0, 0)),
  (163, .iastore, 1, .inl (0, 0)),
  (164, .aload_n 0, 1, .inl (0, 0)),
  (165, .dup, 1, .inl (0, 0)),
  (166, .getfield 146, 3, .inl (6, 16)),
  (169, .iconst 1, 1, .inr (.inl 1)),
  (170, .iadd, 1, .inl (0, 0)),
  (171, .putfield 146, 3, .inl (6, 16)),
  (174, .goto 96, 3, .inl (270, 0)),
  (177, .iload 4, 2, .inl (0, 0)),
  (179, .bipush 63, 2, .inr (.inl 63)),
  (181, .if_icmp .ne 14, 3, .inl (195, 0)),
  (184, .iload_n 1, 1, .inl (0, 0)),
  (185, .iload_n 2, 1, .inl (0, 0)),
  (186, .idiv, 1, .inl (0, 0)),
  (187, .aload_n 0, 1, .inl (0, 0)),
  (188, .getfield 7, 3, .inl (6, 0)),
  (191, .irem, 1, .inl (0, 0)),
  (192, .goto 8, 3, .inl (200, 0)),
  (195, .iload 4, 2, .inl (0, 0)),
  (197, .bipush 97, 2, .inr (.inl 97)),
  (199, .isub, 1, .inl (0, 0)),
  (200, .istore 5, 2, .inl (0, 0)),
  (202, .iload 4, 2, .inl (0, 0)),
  (204, .bipush 63, 2, .inr (.inl 63)),
  (206, .if_icmp .ne 17, 3, .inl (223, 0)),
  (209, .iload_n 2, 1, .inl (0, 0)),
  (210, .iconst 1, 1, .inr (.inl 1)),
  (211, .if_icmp .le 12, 3, .inl (223, 0)),
  (214, .iload_n 2, 1, .inl (0, 0)),
  (215, .aload_n 0, 1, .inl (0, 0)),
  (216, .getfield 7, 3, .inl (6, 0)),
  (219, .idiv, 1, .inl (0, 0)),
  (220, .goto 4, 3, .inl (224, 0)),
  (223, .iload_n 2, 1, .inl (0, 0)),
  (224, .istore_n 2, 1, .inl (0, 0)),
  (225, .aload_n 0, 1, .inl (0, 0)),
  (226, .aload_n 0, 1, .inl (0, 0)),
  (227, .aload_n 0, 1, .inl (0, 0)),
  (228, .getfield 140, 3, .inl (6, 14)),
  (231, .aload_n 0, 1, .inl (0, 0)),
  (232, .getfield 143, 3, .inl (6, 15)),
  (235, .iload 5, 2, .inl (0, 0)),
  (237, .invokevirtual 161, 3, .inr (.inr (.inr yX11_whyNot))),
  (240, .putfield 149, 3, .inl (6, 18)),
  (243, .aload_n 0, 1, .inl (0, 0)),
  (244, .aload_n 0, 1, .inl (0, 0)),
  (245, .getfield 149, 3, .inl (6, 18)),
  (248, .ifCond .ne 15, 3, .inl (263, 0)),
  (251, .aload_n 0, 1, .inl (0, 0)),
  (252, .getfield 140, 3, .inl (6, 14)),
  (255, .iload 5, 2, .inl (0, 0)),
  (257, .invokestatic 165, 3, .inr (.inr (.inr yX11_watered))),
  (260, .goto 7, 3, .inl (267, 0)),
  (263, .aload_n 0, 1, .inl (0, 0)),
  (264, .getfield 140, 3, .inl (6, 14)),
  (267, .putfield 140, 3, .inl (6, 14)),
  (270, .aload_n 0, 1, .inl (0, 0)),
  (271, .getfield 149, 3, .inl (6, 18)),
  (274, .ifCond .le 5, 3, .inl (279, 0)),
  (277, .iload_n 3, 1, .inl (0, 0)),
  (278, .ireturn, 1, .inl (0, 0)),
  (279, .iinc 3 1, 3, .inr (.inl 1)),
  (282, .goto (-229), 3, .inl (53, 0)),
  (285, .bipush (-6), 2, .inr (.inl (-6))),
  (287, .ireturn, 1, .inl (0, 0))]
def mX11_goWeek : pm_M := (yX11_goWeek, cX11_goWeek, 6, (some .int), tX11_goWeek)
theorem okX11_goWeek : pm_ok mX11_goWeek = true := by decide +kernel
def tX11_judge : List pm_E := [(0, .iload_n 1, 1, .inl (0, 0)),
  (1, .iconst 0, 1, .inr (.inl 0)),
  (2, .iconst 1, 1, .inr (.inl 1)),
  (3, .invokestatic 98, 3, .inr (.inr (.inr yX11_in))),
  (6, .ifCond .ne 6, 3, .inl (12, 0)),
  (9, .bipush (-2), 2, .inr (.inl (-2))),
  (11, .ireturn, 1, .inl (0, 0)),
  (12, .aload_n 0, 1, .inl (0, 0)),
  (13, .invokevirtual 120, 3, .inr (.inr (.inr yX11_weekFault))),
  (16, .ifCond .lt 6, 3, .inl (22, 0)),
  (19, .bipush (-5), 2, .inr (.inl (-5))),
  (21, .ireturn, 1, .inl (0, 0)),
  (22, .aload_n 0, 1, .inl (0, 0)),
  (23, .invokevirtual 152, 3, .inr (.inr (.inr yX11_opens))),
  (26, .ifCond .le 6, 3, .inl (32, 0)),
  (29, .bipush (-3), 2, .inr (.inl (-3))),
  (31, .ireturn, 1, .inl (0, 0)),
  (32, .aload_n 0, 1, .inl (0, 0)),
  (33, .iconst 0, 1, .inr (.inl 0)),
  (34, .invokevirtual 168, 3, .inr (.inr (.inr yX11_goWeek))),
  (37, .istore_n 2, 1, .inl (0, 0)),
  (38, .iload_n 2, 1, .inl (0, 0)),
  (39, .ifCond .lt 7, 3, .inl (46, 0)),
  (42, .iload_n 1, 1, .inl (0, 0)),
  (43, .ifCond .ne 7, 3, .inl (50, 0)),
  (46, .iload_n 2, 1, .inl (0, 0)),
  (47, .goto 7, 3, .inl (54, 0)),
  (50, .aload_n 0, 1, .inl (0, 0)),
  (51, .getfield 149, 3, .inl (6, 18)),
  (54, .ireturn, 1, .inl (0, 0))]
def mX11_judge : pm_M := (yX11_judge, cX11_judge, 3, (some .int), tX11_judge)
theorem okX11_judge : pm_ok mX11_judge = true := by decide +kernel
def tX11_week : List pm_E := [(0, .aload_n 0, 1, .inl (0, 0)),
  (1, .invokevirtual 120, 3, .inr (.inr (.inr yX11_weekFault))),
  (4, .ifCond .lt 6, 3, .inl (10, 0)),
  (7, .bipush (-5), 2, .inr (.inl (-5))),
  (9, .ireturn, 1, .inl (0, 0)),
  (10, .aload_n 0, 1, .inl (0, 0)),
  (11, .invokevirtual 152, 3, .inr (.inr (.inr yX11_opens))),
  (14, .ifCond .le 6, 3, .inl (20, 0)),
  (17, .bipush (-3), 2, .inr (.inl (-3))),
  (19, .ireturn, 1, .inl (0, 0)),
  (20, .aload_n 0, 1, .inl (0, 0)),
  (21, .iconst 0, 1, .inr (.inl 0)),
  (22, .invokevirtual 168, 3, .inr (.inr (.inr yX11_goWeek))),
  (25, .ifCond .lt 6, 3, .inl (31, 0)),
  (28, .bipush (-5), 2, .inr (.inl (-5))),
  (30, .ireturn, 1, .inl (0, 0)),
  (31, .aload_n 0, 1, .inl (0, 0)),
  (32, .aload_n 0, 1, .inl (0, 0)),
  (33, .getfield 140, 3, .inl (6, 14)),
  (36, .putfield 86, 3, .inl (6, 8)),
  (39, .aload_n 0, 1, .inl (0, 0)),
  (40, .aload_n 0, 1, .inl (0, 0)),
  (41, .getfield 143, 3, .inl (6, 15)),
  (44, .putfield 89, 3, .inl (6, 9)),
  (47, .iconst 0, 1, .inr (.inl 0)),
  (48, .istore_n 1, 1, .inl (0, 0)),
  (49, .iload_n 1, 1, .inl (0, 0)),
  (50, .aload_n 0, 1, .inl (0, 0)),
  (51, .getfield 146, 3, .inl (6, 16)),
  (54, .if_icmp .ge 34, 3, .inl (88, 0)),
  (57, .aload_n 0, 1, .inl (0, 0)),
  (58, .getfield 29, 3, .inl (6, 10)),
  (61, .aload_n 0, 1, .inl (0, 0)),
  (62, .getfield 92, 3, .inl (6, 11)),
  (65, .aload_n 0, 1, .inl (0, 0)),
  (66, .getfield 35, 3, .inl (6, 17)),
  (69, .iload_n 1, 1, .inl (0, 0)),
  (70, .iaload, 1, .inl (0, 0)),
  (71, .iastore, 1, .inl (0, 0)),
  (72, .aload_n 0, 1, .inl (0, 0)),
  (73, .dup, 1, .inl (0, 0)),
  (74, .getfield 92, 3, .inl (6, 11)),
  (77, .iconst 1, 1, .inr (.inl 1)),
  (78, .iadd, 1, .inl (0, 0)),
  (79, .putfield 92, 3, .inl (6, 11)),
  (82, .iinc 1 1, 3, .inr (.inl 1)),
  (85, .goto (-36), 3, .inl (49, 0)),
  (88, .aload_n 0, 1, .inl (0, 0)),
  (89, .iconst 0, 1, .inr (.inl 0)),
  (90, .putfield 109, 3, .inl (6, 6)),
  (93, .aload_n 0, 1, .inl (0, 0)),
  (94, .getfield 146, 3, .inl (6, 16)),
  (97, .ireturn, 1, .inl (0, 0))]
def mX11_week : pm_M := (yX11_week, cX11_week, 2, (some .int), tX11_week)
theorem okX11_week : pm_ok mX11_week = true := by decide +kernel
def tX11_row : List pm_E := [(0, .aload_n 0, 1, .inl (0, 0)),
  (1, .getfield 86, 3, .inl (6, 8)),
  (4, .invokestatic 134, 3, .inr (.inr (.inr yX11_sizeOf))),
  (7, .istore_n 2, 1, .inl (0, 0)),
  (8, .iload_n 1, 1, .inl (0, 0)),
  (9, .iconst (-1), 1, .inr (.inl (-1))),
  (10, .if_icmp .eq 14, 3, .inl (24, 0)),
  (13, .iload_n 1, 1, .inl (0, 0)),
  (14, .iconst 0, 1, .inr (.inl 0)),
  (15, .iload_n 2, 1, .inl (0, 0)),
  (16, .iconst 1, 1, .inr (.inl 1)),
  (17, .isub, 1, .inl (0, 0)),
  (18, .invokestatic 98, 3, .inr (.inr (.inr yX11_in))),
  (21, .ifCond .ne 15, 3, .inl (36, 0)),
  (24, .iload_n 1, 1, .inl (0, 0)),
  (25, .iconst (-1), 1, .inr (.inl (-1))),
  (26, .if_icmp .ne 7, 3, .inl (33, 0)),
  (29, .iload_n 2, 1, .inl (0, 0)),
  (30, .goto 5, 3, .inl (35, 0)),
  (33, .bipush (-6), 2, .inr (.inl (-6))),
  (35, .ireturn, 1, .inl (0, 0)),
  (36, .aload_n 0, 1, .inl (0, 0)),
  (37, .getfield 86, 3, .inl (6, 8)),
  (40, .istore_n 3, 1, .inl (0, 0)),
  (41, .iload_n 2, 1, .inl (0, 0)),
  (42, .iconst 1, 1, .inr (.inl 1)),
  (43, .isub, 1, .inl (0, 0)),
  (44, .istore 4, 2, .inl (0, 0)),
  (46, .iload 4, 2, .inl (0, 0)),
  (48, .iload_n 1, 1, .inl (0, 0)),
  (49, .if_icmp .le 14, 3, .inl (63, 0)),
  (52, .iload_n 3, 1, .inl (0, 0)),
  (53, .bipush 7, 2, .inr (.inl 7)),
  (55, .idiv, 1, .inl (0, 0)),
  (56, .istore_n 3, 1, .inl (0, 0)),
  (57, .iinc 4 (-1), 3, .inr (.inl (-1))),
  (60, .goto (-14), 3, .inl (46, 0)),
  (63, .iload_n 3, 1, .inl (0, 0)),
  (64, .bipush 7, 2, .inr (.inl 7)),
  (66, .irem, 1, .inl (0, 0)),
  (67, .iconst 1, 1, .inr (.inl 1)),
  (68, .isub, 1, .inl (0, 0)),
  (69, .ireturn, 1, .inl (0, 0))]
def mX11_row : pm_M := (yX11_row, cX11_row, 5, (some .int), tX11_row)
theorem okX11_row : pm_ok mX11_row = true := by decide +kernel
def tX11_bloomed : List pm_E := [(0, .iload_n 1, 1, .inl (0, 0)),
  (1, .iconst (-1), 1, .inr (.inl (-1))),
  (2, .if_icmp .ne 10, 3, .inl (12, 0)),
  (5, .aload_n 0, 1, .inl (0, 0)),
  (6, .getfield 92, 3, .inl (6, 11)),
  (9, .goto 28, 3, .inl (37, 0)),
  (12, .iload_n 1, 1, .inl (0, 0)),
  (13, .iconst 0, 1, .inr (.inl 0)),
  (14, .aload_n 0, 1, .inl (0, 0)),
  (15, .getfield 92, 3, .inl (6, 11)),
  (18, .iconst 1, 1, .inr (.inl 1)),
  (19, .isub, 1, .inl (0, 0)),
  (20, .invokestatic 98, 3, .inr (.inr (.inr yX11_in))),
  (23, .ifCond .eq 12, 3, .inl (35, 0)),
  (26, .aload_n 0, 1, .inl (0, 0)),
  (27, .getfield 29, 3, .inl (6, 10)),
  (30, .iload_n 1, 1, .inl (0, 0)),
  (31, .iaload, 1, .inl (0, 0)),
  (32, .goto 5, 3, .inl (37, 0)),
  (35, .bipush (-6), 2, .inr (.inl (-6))),
  (37, .ireturn, 1, .inl (0, 0))]
def mX11_bloomed : pm_M := (yX11_bloomed, cX11_bloomed, 2, (some .int), tX11_bloomed)
theorem okX11_bloomed : pm_ok mX11_bloomed = true := by decide +kernel
def tX11_anew : List pm_E := [(0, .aload_n 0, 1, .inl (0, 0)),
  (1, .getfield 92, 3, .inl (6, 11)),
  (4, .istore_n 1, 1, .inl (0, 0)),
  (5, .aload_n 0, 1, .inl (0, 0)),
  (6, .iconst 0, 1, .inr (.inl 0)),
  (7, .putfield 86, 3, .inl (6, 8)),
  (10, .aload_n 0, 1, .inl (0, 0)),
  (11, .iconst 0, 1, .inr (.inl 0)),
  (12, .putfield 89, 3, .inl (6, 9)),
  (15, .aload_n 0, 1, .inl (0, 0)),
  (16, .iconst 0, 1, .inr (.inl 0)),
  (17, .putfield 92, 3, .inl (6, 11)),
  (20, .iload_n 1, 1, .inl (0, 0)),
  (21, .ireturn, 1, .inl (0, 0))]
def mX11_anew : pm_M := (yX11_anew, cX11_anew, 2, (some .int), tX11_anew)
theorem okX11_anew : pm_ok mX11_anew = true := by decide +kernel
def tX11_seen : List pm_E := [(0, .aload_n 0, 1, .inl (0, 0)),
  (1, .iload_n 2, 1, .inl (0, 0)),
  (2, .invokevirtual 102, 3, .inr (.inr (.inr yX11_isBed))),
  (5, .ifCond .ne 5, 3, .inl (10, 0)),
  (8, .iconst (-1), 1, .inr (.inl (-1))),
  (9, .ireturn, 1, .inl (0, 0)),
  (10, .iload_n 1, 1, .inl (0, 0)),
  (11, .iconst 0, 1, .inr (.inl 0)),
  (12, .bipush 47, 2, .inr (.inl 47)),
  (14, .invokestatic 98, 3, .inr (.inr (.inr yX11_in))),
  (17, .ifCond .ne 6, 3, .inl (23, 0)),
  (20, .bipush (-2), 2, .inr (.inl (-2))),
  (22, .ireturn, 1, .inl (0, 0)),
  (23, .aload_n 0, 1, .inl (0, 0)),
  (24, .getfield 95, 3, .inl (6, 12)),
  (27, .bipush 6, 2, .inr (.inl 6)),
  (29, .if_icmp .ne 6, 3, .inl (35, 0)),
  (32, .bipush (-4), 2, .inr (.inl (-4))),
  (34, .ireturn, 1, .inl (0, 0)),
  (35, .aload_n 0, 1, .inl (0, 0)),
  (36, .getfield 32, 3, .inl (6, 13)),
  (39, .iconst 2, 1, .inr (.inl 2)),
  (40, .aload_n 0, 1, .inl (0, 0)),
  (41, .getfield 95, 3, .inl (6, 12)),
  (44, .imul, 1, .inl (0, 0)),
  (45, .iload_n 1, 1, .inl (0, 0)),
  (46, .iastore, 1, .inl (0, 0)),
  (47, .aload_n 0, 1, .inl (0, 0)),
  (48, .getfield 32, 3, .inl (6, 13)),
  (51, .iconst 2, 1, .inr (.inl 2)),
  (52, .aload_n 0, 1, .inl (0, 0)),
  (53, .getfield 95, 3, .inl (6, 12)),
  (56, .imul, 1, .inl (0, 0)),
  (57, .iconst 1, 1, .inr (.inl 1)),
  (58, .iadd, 1, .inl (0, 0)),
  (59, .iload_n 2, 1, .inl (0, 0)),
  (60, .iastore, 1, .inl (0, 0)),
  (61, .aload_n 0, 1, .inl (0, 0)),
  (62, .dup, 1, .inl (0, 0)),
  (63, .getfield 95, 3, .inl (6, 12)),
  (66, .iconst 1, 1, .inr (.inl 1)),
  (67, .iadd, 1, .inl (0, 0)),
  (68, .putfield 95, 3, .inl (6, 12)),
  (71, .aload_n 0, 1, .inl (0, 0)),
  (72, .getfield 95, 3, .inl (6, 12)),
  (75, .ireturn, 1, .inl (0, 0))]
def mX11_seen : pm_M := (yX11_seen, cX11_seen, 3, (some .int), tX11_seen)
theorem okX11_seen : pm_ok mX11_seen = true := by decide +kernel
def tX11_forget : List pm_E := [(0, .aload_n 0, 1, .inl (0, 0)),
  (1, .getfield 95, 3, .inl (6, 12)),
  (4, .istore_n 1, 1, .inl (0, 0)),
  (5, .aload_n 0, 1, .inl (0, 0)),
  (6, .iconst 0, 1, .inr (.inl 0)),
  (7, .putfield 95, 3, .inl (6, 12)),
  (10, .iload_n 1, 1, .inl (0, 0)),
  (11, .ireturn, 1, .inl (0, 0))]
def mX11_forget : pm_M := (yX11_forget, cX11_forget, 2, (some .int), tX11_forget)
theorem okX11_forget : pm_ok mX11_forget = true := by decide +kernel
def tX11_isAsSeen : List pm_E := [(0, .iconst 1, 1, .inr (.inl 1)),
  (1, .istore_n 1, 1, .inl (0, 0)),
  (2, .iconst 0, 1, .inr (.inl 0)),
  (3, .istore_n 2, 1, .inl (0, 0)),
  (4, .iload_n 2, 1, .inl (0, 0)),
  (5, .aload_n 0, 1, .inl (0, 0)),
  (6, .getfield 95, 3, .inl (6, 12)),
  (9, .if_icmp .ge 65, 3, .inl (74, 0)),
  (12, .aload_n 0, 1, .inl (0, 0)),
  (13, .getfield 32, 3, .inl (6, 13)),
  (16, .iconst 2, 1, .inr (.inl 2)),
  (17, .iload_n 2, 1, .inl (0, 0)),
  (18, .imul, 1, .inl (0, 0)),
  (19, .iaload, 1, .inl (0, 0)),
  (20, .istore_n 3, 1, .inl (0, 0)),
  (21, .iload_n 1, 1, .inl (0, 0)),
  (22, .ifCond .eq 44, 3, .inl (66, 0)),
  (25, .iload_n 3, 1, .inl (0, 0)),
  (26, .aload_n 0, 1, .inl (0, 0)),
  (27, .getfield 146, 3, .inl (6, 16)),
  (30, .if_icmp .ge 36, 3, .inl (66, 0)),
  (33, .aload_n 0, 1, .inl (0, 0)),
  (34, .getfield 35, 3, .inl (6, 17)),
  (37, .iload_n 3, 1, .inl (0, 0)),
  (38, .bipush 6, 2, .inr (.inl 6)),
  (40, .if_icmp .ge 7, 3, .inl (47, 0)),
  (43, .iload_n 3, 1, .inl (0, 0)),
  (44, .goto 4, 3, .inl (48, 0)),
  (47, .iconst 0, 1, .inr (.inl 0)),
  (48, .iaload, 1, .inl (0, 0)),
  (49, .aload_n 0, 1, .inl (0, 0)),
  (50, .getfield 32, 3, .inl (6, 13)),
  (53, .iconst 2, 1, .inr (.inl 2)),
  (54, .iload_n 2, 1, .inl (0, 0)),
  (55, .imul, 1, .inl (0, 0)),
  (56, .iconst 1, 1, .inr (.inl 1)),
  (57, .iadd, 1, .inl (0, 0)),
  (58, .iaload, 1, .inl (0, 0)),
  (59, .if_icmp .ne 7, 3, .inl (66, 0)),
  (62, .iconst 1, 1, .inr (.inl 1)),
  (63, .goto 4, 3, .inl (67, 0)),
  (66, .iconst 0, 1, .inr (.inl 0)),
  (67, .istore_n 1, 1, .inl (0, 0)),
  (68, .iinc 2 1, 3, .inr (.inl 1)),
  (71, .goto (-67), 3, .inl (4, 0)),
  (74, .iload_n 1, 1, .inl (0, 0)),
  (75, .ireturn, 1, .inl (0, 0))]
def mX11_isAsSeen : pm_M := (yX11_isAsSeen, cX11_isAsSeen, 4, (some .boolean), tX11_isAsSeen)
theorem okX11_isAsSeen : pm_ok mX11_isAsSeen = true := by decide +kernel
def tX11_filled : List pm_E := [(0, .aload_n 0, 1, .inl (0, 0)),
  (1, .invokevirtual 120, 3, .inr (.inr (.inr yX11_weekFault))),
  (4, .ifCond .lt 6, 3, .inl (10, 0)),
  (7, .bipush (-5), 2, .inr (.inl (-5))),
  (9, .ireturn, 1, .inl (0, 0)),
  (10, .iconst 1, 1, .inr (.inl 1)),
  (11, .istore_n 2, 1, .inl (0, 0)),
  (12, .iconst 0, 1, .inr (.inl 0)),
  (13, .istore_n 3, 1, .inl (0, 0)),
  (14, .iload_n 3, 1, .inl (0, 0)),
  (15, .aload_n 0, 1, .inl (0, 0)),
  (16, .invokevirtual 152, 3, .inr (.inr (.inr yX11_opens))),
  (19, .if_icmp .ge 16, 3, .inl (35, 0)),
  (22, .iload_n 2, 1, .inl (0, 0)),
  (23, .aload_n 0, 1, .inl (0, 0)),
  (24, .getfield 7, 3, .inl (6, 0)),
  (27, .imul, 1, .inl (0, 0)),
  (28, .istore_n 2, 1, .inl (0, 0)),
  (29, .iinc 3 1, 3, .inr (.inl 1)),
  (32, .goto (-18), 3, .inl (14, 0)),
  (35, .iconst 0, 1, .inr (.inl 0)),
  (36, .istore_n 3, 1, .inl (0, 0)),
  (37, .bipush (-6), 2, .inr (.inl (-6))),
  (39, .istore 4, 2, .inl (0, 0)),
  (41, .iconst 0, 1, .inr (.inl 0)),
  (42, .istore 5, 2, .inl (0, 0)),
  (44, .iload 5, 2, .inl (0, 0)),
  (46, .iload_n 2, 1, .inl (0, 0)),
  (47, .if_icmp .ge 42, 3, .inl (89, 0)),
  (50, .aload_n 0, 1, .inl (0, 0)),
  (51, .iload 5, 2, .inl (0, 0)),
  (53, .invokevirtual 168, 3, .inr (.inr (.inr yX11_goWeek))),
  (56, .ifCond .ge 27, 3, .inl (83, 0)),
  (59, .aload_n 0, 1, .inl (0, 0)),
  (60, .invokevirtual 171, 3, .inr (.inr (.inr yX11_isAsSeen))),
  (63, .ifCond .eq 20, 3, .inl (83, 0)),
  (66, .iload 4, 2, .inl (0, 0)),
  (68, .ifCond .ge 8, 3, .inl (76, 0)),
  (71, .iload 5, 2, .inl (0, 0)),
  (73, .goto 5, 3, .inl (78, 0)),
  (76, .iload 4, 2, .inl (0, 0)),
  (78, .istore 4, 2, .inl (0, 0)),
  (80, .iinc 3 1, 3, .inr (.inl 1)),
  (83, .iinc 5 1, 3, .inr (.inl 1)),
  (86, .goto (-42), 3, .inl (44, 0)),
  (89, .iload_n 1, 1, .inl (0, 0)),
  (90, .iconst (-1), 1, .inr (.inl (-1))),
  (91, .if_icmp .ne 5, 3, .inl (96, 0)),
  (94, .iload_n 3, 1, .inl (0, 0)),
  (95, .ireturn, 1, .inl (0, 0)),
  (96, .iload 4, 2, .inl (0, 0)),
  (98, .ifCond .lt 17, 3, .inl (115, 0)),
  (101, .iload_n 1, 1, .inl (0, 0)),
  (102, .iconst 0, 1, .inr (.inl 0)),
  (103, .aload_n 0, 1, .inl (0, 0)),
  (104, .invokevirtual 152, 3, .inr (.inr (.inr yX11_opens))),
  (107, .iconst 1, 1, .inr (.inl 1)),
  (108, .isub, 1, .inl (0, 0)),
  (109, .invokestatic 98, 3, .inr (.inr (.inr yX11_in))),
  (112, .ifCond .ne 6, 3, .inl (118, 0)),
  (115, .bipush (-6), 2, .inr (.inl (-6))),
  (117, .ireturn, 1, .inl (0, 0)),
  (118, .iload 4, 2, .inl (0, 0)),
  (120, .istore 5, 2, .inl (0, 0)),
  (122, .aload_n 0, 1, .inl (0, 0)),
  (123, .invokevirtual 152, 3, .inr (.inr (.inr yX11_opens))),
  (126, .iconst 1, 1, .inr (.inl 1)),
  (127, .isub, 1, .inl (0, 0)),
  (128, .istore 6, 2, .inl (0, 0)),
  (130, .iload 6, 2, .inl (0, 0)),
  (132, .iload_n 1, 1, .inl (0, 0)),
  (133, .if_icmp .le 18, 3, .inl (151, 0)),
  (136, .iload 5, 2, .inl (0, 0)),
  (138, .aload_n 0, 1, .inl (0, 0)),
  (139, .getfield 7, 3, .inl (6, 0)),
  (142, .idiv, 1, .inl (0, 0)),
  (143, .istore 5, 2, .inl (0, 0)),
  (145, .iinc 6 (-1), 3, .inr (.inl (-1))),
  (148, .goto (-18), 3, .inl (130, 0)),
  (151, .iload 5, 2, .inl (0, 0)),
  (153, .aload_n 0, 1, .inl (0, 0)),
  (154, .getfield 7, 3, .inl (6, 0)),
  (157, .irem, 1, .inl (0, 0)),
  (158, .ireturn, 1, .inl (0, 0))]
def mX11_filled : pm_M := (yX11_filled, cX11_filled, 7, (some .int), tX11_filled)
theorem okX11_filled : pm_ok mX11_filled = true := by decide +kernel
def tX11_nextBy : List pm_E := [(0, .iconst 0, 1, .inr (.inl 0)),
  (1, .istore_n 3, 1, .inl (0, 0)),
  (2, .iconst 0, 1, .inr (.inl 0)),
  (3, .istore 4, 2, .inl (0, 0)),
  (5, .iload 4, 2, .inl (0, 0)),
  (7, .iload_n 1, 1, .inl (0, 0)),
  (8, .if_icmp .ge 32, 3, .inl (40, 0)),
  (11, .iload_n 2, 1, .inl (0, 0)),
  (12, .iload 4, 2, .inl (0, 0)),
  (14, .invokestatic 112, 3, .inr (.inr (.inr yX11_has))),
  (17, .ifCond .eq 7, 3, .inl (24, 0)),
  (20, .iload_n 3, 1, .inl (0, 0)),
  (21, .goto 12, 3, .inl (33, 0)),
  (24, .bipush 7, 2, .inr (.inl 7)),
  (26, .iload_n 3, 1, .inl (0, 0)),
  (27, .imul, 1, .inl (0, 0)),
  (28, .iload 4, 2, .inl (0, 0)),
  (30, .iadd, 1, .inl (0, 0)),
  (31, .iconst 1, 1, .inr (.inl 1)),
  (32, .iadd, 1, .inl (0, 0)),
  (33, .istore_n 3, 1, .inl (0, 0)),
  (34, .iinc 4 1, 3, .inr (.inl 1)),
  (37, .goto (-32), 3, .inl (5, 0)),
  (40, .aload_n 0, 1, .inl (0, 0)),
  (41, .iload_n 3, 1, .inl (0, 0)),
  (42, .invokevirtual 158, 3, .inr (.inr (.inr yX11_nextOf))),
  (45, .ireturn, 1, .inl (0, 0))]
def mX11_nextBy : pm_M := (yX11_nextBy, cX11_nextBy, 5, (some .int), tX11_nextBy)
theorem okX11_nextBy : pm_ok mX11_nextBy = true := by decide +kernel
end
section
def tX11_canBe : List pm_E := [(0, .aload_n 0, 1, .inl (0, 0)),
  (1, .invokevirtual 124, 3, .inr (.inr (.inr yX11_orderFault))),
  (4, .ifCond .lt 6, 3, .inl (10, 0)),
  (7, .bipush (-5), 2, .inr (.inl (-5))),
  (9, .ireturn, 1, .inl (0, 0)),
  (10, .iconst 0, 1, .inr (.inl 0)),
  (11, .istore_n 1, 1, .inl (0, 0)),
  (12, .iload_n 1, 1, .inl (0, 0)),
  (13, .bipush 49, 2, .inr (.inl 49)),
  (15, .if_icmp .ge 24, 3, .inl (39, 0)),
  (18, .aload_n 0, 1, .inl (0, 0)),
  (19, .getfield 38, 3, .inl (6, 19)),
  (22, .iload_n 1, 1, .inl (0, 0)),
  (23, .iload_n 1, 1, .inl (0, 0)),
  (24, .ifCond .ne 7, 3, .inl (31, 0)),
  (27, .iconst 1, 1, .inr (.inl 1)),
  (28, .goto 4, 3, .inl (32, 0)),
  (31, .iconst 0, 1, .inr (.inl 0)),
  (32, .bastore, 1, .inl (0, 0)),
  (33, .iinc 1 1, 3, .inr (.inl 1)),
  (36, .goto (-24), 3, .inl (12, 0)),
  (39, .iconst 0, 1, .inr (.inl 0)),
  (40, .istore_n 1, 1, .inl (0, 0)),
  (41, .iload_n 1, 1, .inl (0, 0)),
  (42, .aload_n 0, 1, .inl (0, 0)),
  (43, .getfield 7, 3, .inl (6, 0)),
  (46, .if_icmp .gt 145, 3, .inl (191, 0)),
  (49, .iconst 0, 1, .inr (.inl 0)),
  (50, .istore_n 2, 1, .inl (0, 0)),
  (51, .iconst 0, 1, .inr (.inl 0)),
  (52, .istore_n 3, 1, .inl (0, 0)),
  (53, .iload_n 3, 1, .inl (0, 0)),
  (54, .iload_n 1, 1, .inl (0, 0)),
  (55, .if_icmp .gt 130, 3, .inl (185, 0)),
  (58, .aload_n 0, 1, .inl (0, 0)),
  (59, .getfield 38, 3, .inl (6, 19)),
  (62, .bipush 7, 2, .inr (.inl 7)),
  (64, .iload_n 1, 1, .inl (0, 0)),
  (65, .imul, 1, .inl (0, 0)),
  (66, .iload_n 3, 1, .inl (0, 0)),
  (67, .iadd, 1, .inl (0, 0)),
  (68, .baload, 1, .inl (0, 0)),
  (69, .ifCond .eq 36, 3, .inl (105, 0)),
  (72, .iload_n 1, 1, .inl (0, 0)),
  (73, .aload_n 0, 1, .inl (0, 0)),
  (74, .getfield 7, 3, .inl (6, 0)),
  (77, .if_icmp .ge 28, 3, .inl (105, 0)),
  (80, .iload_n 1, 1, .inl (0, 0)),
  (81, .iload_n 3, 1, .inl (0, 0)),
  (82, .isub, 1, .inl (0, 0)),
  (83, .aload_n 0, 1, .inl (0, 0)),
  (84, .getfield 20, 3, .inl (6, 4)),
  (87, .if_icmp .ge 18, 3, .inl (105, 0)),
  (90, .aload_n 0, 1, .inl (0, 0)),
  (91, .getfield 38, 3, .inl (6, 19)),
  (94, .bipush 7, 2, .inr (.inl 7)),
  (96, .iload_n 1, 1, .inl (0, 0)),
  (97, .imul, 1, .inl (0, 0)),
  (98, .bipush 7, 2, .inr (.inl 7)),
  (100, .iadd, 1, .inl (0, 0)),
  (101, .iload_n 3, 1, .inl (0, 0)),
  (102, .iadd, 1, .inl (0, 0)),
  (103, .iconst 1, 1, .inr (.inl 1)),
  (104, .bastore, 1, .inl (0, 0)),
  (105, .aload_n 0, 1, .inl (0, 0)),
  (106, .getfield 38, 3, .inl (6, 19)),
  (109, .bipush 7, 2, .inr (.inl 7)),
  (111, .iload_n 1, 1, .inl (0, 0)),
  (112, .imul, 1, .inl (0, 0)),
  (113, .iload_n 3, 1, .inl (0, 0)),
  (114, .iadd, 1, .inl (0, 0)),
  (115, .baload, 1, .inl (0, 0)),
  (116, .ifCond .eq 40, 3, .inl (156, 0)),
  (119, .iload_n 3, 1, .inl (0, 0)),
  (120, .iload_n 1, 1, .inl (0, 0)),
  (121, .if_icmp .ge 35, 3, .inl (156, 0)),
  (124, .aload_n 0, 1, .inl (0, 0)),
  (125, .iload_n 1, 1, .inl (0, 0)),
  (126, .iload_n 2, 1, .inl (0, 0)),
  (127, .invokevirtual 175, 3, .inr (.inr (.inr yX11_nextBy))),
  (130, .aload_n 0, 1, .inl (0, 0)),
  (131, .getfield 26, 3, .inl (6, 7)),
  (134, .iload_n 3, 1, .inl (0, 0)),
  (135, .iaload, 1, .inl (0, 0)),
  (136, .bipush 97, 2, .inr (.inl 97)),
  (138, .isub, 1, .inl (0, 0)),
  (139, .if_icmp .ne 17, 3, .inl (156, 0)),
  (142, .aload_n 0, 1, .inl (0, 0)),
  (143, .getfield 38, 3, .inl (6, 19)),
  (146, .bipush 7, 2, .inr (.inl 7)),
  (148, .iload_n 1, 1, .inl (0, 0)),
  (149, .imul, 1, .inl (0, 0)),
  (150, .iload_n 3, 1, .inl (0, 0)),
  (151, .iadd, 1, .inl (0, 0)),
  (152, .iconst 1, 1, .inr (.inl 1)),
  (153, .iadd, 1, .inl (0, 0)),
  (154, .iconst 1, 1, .inr (.inl 1)),
  (155, .bastore, 1, .inl (0, 0)),
  (156, .iload_n 2, 1, .inl (0, 0)),
  (157, .iload_n 3, 1, .inl (0, 0)),
  (158, .iload_n 1, 1, .inl (0, 0)),
  (159, .if_icmp .ge 17, 3, .inl (176, 0)),
  (162, .iconst 1, 1, .inr (.inl 1)),
  (163, .aload_n 0, 1, .inl (0, 0)),
  (164, .getfield 26, 3, .inl (6, 7)),
  (167, .iload_n 3, 1, .inl (0, 0)),
  (168, .iaload, 1, .inl (0, 0)),
  (169, .bipush 97, 2, .inr (.inl 97)),
  (171, .isub, 1, .inl (0, 0)),
  (172, .ishl, 1, .inl (0, 0)),
  (173, .goto 4, 3, .inl (177, 0)),
  (176, .iconst 0, 1, .inr (.inl 0)),
  (177, .ior, 1, .inl (0, 0)),
  (178, .istore_n 2, 1, .inl (0, 0)),
  (179, .iinc 3 1, 3, .inr (.inl 1)),
  (182, .goto (-129), 3, .inl (53, 0)),
  (185, .iinc 1 1, 3, .inr (.inl 1)),
  (188, .goto (-147), 3, .inl (41, 0)),
  (191, .aload_n 0, 1, .inl (0, 0)),
  (192, .getfield 38, 3, .inl (6, 19)),
  (195, .bipush 8, 2, .inr (.inl 8)),
  (197, .aload_n 0, 1, .inl (0, 0)),
  (198, .getfield 7, 3, .inl (6, 0)),
  (201, .imul, 1, .inl (0, 0)),
  (202, .baload, 1, .inl (0, 0)),
  (203, .ifCond .eq 7, 3, .inl (210, 0)),
  (206, .iconst 1, 1, .inr (.inl 1)),
  (207, .goto 4, 3, .inl (211, 0)),
  (210, .iconst 0, 1, .inr (.inl 0)),
  (211, .ireturn, 1, .inl (0, 0))]
def mX11_canBe : pm_M := (yX11_canBe, cX11_canBe, 4, (some .int), tX11_canBe)
theorem okX11_canBe : pm_ok mX11_canBe = true := by decide +kernel
def tX11_orders : List pm_E := [(0, .iload_n 1, 1, .inl (0, 0)),
  (1, .iconst 1, 1, .inr (.inl 1)),
  (2, .bipush 30, 2, .inr (.inl 30)),
  (4, .invokestatic 98, 3, .inr (.inr (.inr yX11_in))),
  (7, .ifCond .eq 13, 3, .inl (20, 0)),
  (10, .iload_n 2, 1, .inl (0, 0)),
  (11, .iconst 1, 1, .inr (.inl 1)),
  (12, .bipush 30, 2, .inr (.inl 30)),
  (14, .invokestatic 98, 3, .inr (.inr (.inr yX11_in))),
  (17, .ifCond .ne 7, 3, .inl (24, 0)),
  (20, .ldc2_w 178, 3, .inr (.inr (.inl (-2)))),
  (23, .lreturn, 1, .inl (0, 0)),
  (24, .iconst 0, 1, .inr (.inl 0)),
  (25, .istore_n 3, 1, .inl (0, 0)),
  (26, .iload_n 3, 1, .inl (0, 0)),
  (27, .bipush 32, 2, .inr (.inl 32)),
  (29, .if_icmp .ge 24, 3, .inl (53, 0)),
  (32, .aload_n 0, 1, .inl (0, 0)),
  (33, .getfield 42, 3, .inl (6, 20)),
  (36, .iload_n 3, 1, .inl (0, 0)),
  (37, .iload_n 3, 1, .inl (0, 0)),
  (38, .ifCond .ne 7, 3, .inl (45, 0)),
  (41, .lconst 1, 1, .inr (.inr (.inl 1))),
  (42, .goto 4, 3, .inl (46, 0)),
  (45, .lconst 0, 1, .inr (.inr (.inl 0))),
  (46, .lastore, 1, .inl (0, 0)),
  (47, .iinc 3 1, 3, .inr (.inl 1)),
  (50, .goto (-24), 3, .inl (26, 0)),
  (53, .iconst 0, 1, .inr (.inl 0)),
  (54, .istore_n 3, 1, .inl (0, 0)),
  (55, .iload_n 3, 1, .inl (0, 0)),
  (56, .iconst 2, 1, .inr (.inl 2)),
  (57, .iload_n 1, 1, .inl (0, 0)),
  (58, .imul, 1, .inl (0, 0)),
  (59, .if_icmp .ge 69, 3, .inl (128, 0)),
  (62, .lconst 0, 1, .inr (.inr (.inl 0))),
  (63, .lstore 4, 2, .inl (0, 0)),
  (65, .iconst 0, 1, .inr (.inl 0)),
  (66, .istore 6, 2, .inl (0, 0)),
  (68, .iload 6, 2, .inl (0, 0)),
  (70, .iload_n 2, 1, .inl (0, 0)),
  (71, .if_icmp .gt 51, 3, .inl (122, 0)),
  (74, .aload_n 0, 1, .inl (0, 0)),
  (75, .getfield 42, 3, .inl (6, 20)),
  (78, .iload 6, 2, .inl (0, 0)),
  (80, .laload, 1, .inl (0, 0)),
  (81, .lstore 7, 2, .inl (0, 0)),
  (83, .aload_n 0, 1, .inl (0, 0)),
  (84, .getfield 42, 3, .inl (6, 20)),
  (87, .iload 6, 2, .inl (0, 0)),
  (89, .lload 4, 2, .inl (0, 0)),
  (91, .iload 6, 2, .inl (0, 0)),
  (93, .iload_n 2, 1, .inl (0, 0)),
  (94, .if_icmp .ge 15, 3, .inl (109, 0)),
  (97, .aload_n 0, 1, .inl (0, 0)),
  (98, .getfield 42, 3, .inl (6, 20)),
  (101, .iload 6, 2, .inl (0, 0)),
  (103, .iconst 1, 1, .inr (.inl 1)),
  (104, .iadd, 1, .inl (0, 0)),
  (105, .laload, 1, .inl (0, 0)),
  (106, .goto 4, 3, .inl (110, 0)),
  (109, .lconst 0, 1, .inr (.inr (.inl 0))),
  (110, .ladd, 1, .inl (0, 0)),
  (111, .lastore, 1, .inl (0, 0)),
  (112, .lload 7, 2, .inl (0, 0)),
  (114, .lstore 4, 2, .inl (0, 0)),
  (116, .iinc 6 1, 3, .inr (.inl 1)),
  (119, .goto (-51), 3, .inl (68, 0)),
  (122, .iinc 3 1, 3, .inr (.inl 1)),
  (125, .goto (-70), 3, .inl (55, 0)),
  (128, .aload_n 0, 1, .inl (0, 0)),
  (129, .getfield 42, 3, .inl (6, 20)),
  (132, .iconst 0, 1, .inr (.inl 0)),
  (133, .laload, 1, .inl (0, 0)),
  (134, .lreturn, 1, .inl (0, 0))]
def mX11_orders : pm_M := (yX11_orders, cX11_orders, 9, (some .long), tX11_orders)
theorem okX11_orders : pm_ok mX11_orders = true := by decide +kernel
def tX11_pattern : List pm_E := [(0, .iload_n 1, 1, .inl (0, 0)),
  (1, .iconst 0, 1, .inr (.inl 0)),
  (2, .iconst 2, 1, .inr (.inl 2)),
  (3, .invokestatic 98, 3, .inr (.inr (.inr yX11_in))),
  (6, .ifCond .ne 6, 3, .inl (12, 0)),
  (9, .bipush (-2), 2, .inr (.inl (-2))),
  (11, .ireturn, 1, .inl (0, 0)),
  (12, .aload_n 0, 1, .inl (0, 0)),
  (13, .invokevirtual 124, 3, .inr (.inr (.inr yX11_orderFault))),
  (16, .ifCond .lt 6, 3, .inl (22, 0)),
  (19, .bipush (-5), 2, .inr (.inl (-5))),
  (21, .ireturn, 1, .inl (0, 0)),
  (22, .iconst 0, 1, .inr (.inl 0)),
  (23, .istore_n 2, 1, .inl (0, 0)),
  (24, .iload_n 2, 1, .inl (0, 0)),
  (25, .aload_n 0, 1, .inl (0, 0)),
  (26, .getfield 7, 3, .inl (6, 0)),
  (29, .if_icmp .ge 99, 3, .inl (128, 0)),
  (32, .iload_n 2, 1, .inl (0, 0)),
  (33, .iconst 1, 1, .inr (.inl 1)),
  (34, .iadd, 1, .inl (0, 0)),
  (35, .istore_n 3, 1, .inl (0, 0)),
  (36, .iload_n 3, 1, .inl (0, 0)),
  (37, .aload_n 0, 1, .inl (0, 0)),
  (38, .getfield 7, 3, .inl (6, 0)),
  (41, .if_icmp .ge 81, 3, .inl (122, 0)),
  (44, .iload_n 3, 1, .inl (0, 0)),
  (45, .iconst 1, 1, .inr (.inl 1)),
  (46, .iadd, 1, .inl (0, 0)),
  (47, .istore 4, 2, .inl (0, 0)),
  (49, .iload 4, 2, .inl (0, 0)),
  (51, .aload_n 0, 1, .inl (0, 0)),
  (52, .getfield 7, 3, .inl (6, 0)),
  (55, .if_icmp .ge 61, 3, .inl (116, 0)),
  (58, .aload_n 0, 1, .inl (0, 0)),
  (59, .getfield 26, 3, .inl (6, 7)),
  (62, .iload_n 3, 1, .inl (0, 0)),
  (63, .iaload, 1, .inl (0, 0)),
  (64, .aload_n 0, 1, .inl (0, 0)),
  (65, .getfield 26, 3, .inl (6, 7)),
  (68, .iload 4, 2, .inl (0, 0)),
  (70, .iaload, 1, .inl (0, 0)),
  (71, .if_icmp .ge 39, 3, .inl (110, 0)),
  (74, .aload_n 0, 1, .inl (0, 0)),
  (75, .getfield 26, 3, .inl (6, 7)),
  (78, .iload 4, 2, .inl (0, 0)),
  (80, .iaload, 1, .inl (0, 0)),
  (81, .aload_n 0, 1, .inl (0, 0)),
  (82, .getfield 26, 3, .inl (6, 7)),
  (85, .iload_n 2, 1, .inl (0, 0)),
  (86, .iaload, 1, .inl (0, 0)),
  (87, .if_icmp .ge 23, 3, .inl (110, 0)),
  (90, .iload_n 1, 1, .inl (0, 0)),
  (91, .ifCond .ne 7, 3, .inl (98, 0)),
  (94, .iload_n 2, 1, .inl (0, 0)),
  (95, .goto 14, 3, .inl (109, 0)),
  (98, .iload_n 1, 1, .inl (0, 0)),
  (99, .iconst 1, 1, .inr (.inl 1)),
  (100, .if_icmp .ne 7, 3, .inl (107, 0)),
  (103, .iload_n 3, 1, .inl (0, 0)),
  (104, .goto 5, 3, .inl (109, 0)),
  (107, .iload 4, 2, .inl (0, 0)),
  (109, .ireturn, 1, .inl (0, 0)),
  (110, .iinc 4 1, 3, .inr (.inl 1)),
  (113, .goto (-64), 3, .inl (49, 0)),
  (116, .iinc 3 1, 3, .inr (.inl 1)),
  (119, .goto (-83), 3, .inl (36, 0)),
  (122, .iinc 2 1, 3, .inr (.inl 1)),
  (125, .goto (-101), 3, .inl (24, 0)),
  (128, .bipush (-6), 2, .inr (.inl (-6))),
  (130, .ireturn, 1, .inl (0, 0))]
def mX11_pattern : pm_M := (yX11_pattern, cX11_pattern, 5, (some .int), tX11_pattern)
theorem okX11_pattern : pm_ok mX11_pattern = true := by decide +kernel
def tX11_put : List pm_E := [(0, .lload_n 1, 1, .inl (0, 0)),
  (1, .ldc2_w 180, 3, .inr (.inr (.inl 40503))),
  (4, .lmul, 1, .inl (0, 0)),
  (5, .lload_n 1, 1, .inl (0, 0)),
  (6, .bipush 20, 2, .inr (.inl 20)),
  (8, .lshr, 1, .inl (0, 0)),
  (9, .ldc2_w 182, 3, .inr (.inr (.inl 2654435))),
  (12, .lmul, 1, .inl (0, 0)),
  (13, .ladd, 1, .inl (0, 0)),
  (14, .lstore_n 3, 1, .inl (0, 0)),
  (15, .lload_n 3, 1, .inl (0, 0)),
  (16, .bipush 7, 2, .inr (.inl 7)),
  (18, .lshr, 1, .inl (0, 0)),
  (19, .ldc2_w 184, 3, .inr (.inr (.inl 65535))),
  (22, .land, 1, .inl (0, 0)),
  (23, .l2i, 1, .inl (0, 0)),
  (24, .istore 5, 2, .inl (0, 0)),
  (26, .aload_n 0, 1, .inl (0, 0)),
  (27, .getfield 47, 3, .inl (6, 21)),
  (30, .iload 5, 2, .inl (0, 0)),
  (32, .laload, 1, .inl (0, 0)),
  (33, .lconst 0, 1, .inr (.inr (.inl 0))),
  (34, .lcmp, 1, .inl (0, 0)),
  (35, .ifCond .eq 29, 3, .inl (64, 0)),
  (38, .aload_n 0, 1, .inl (0, 0)),
  (39, .getfield 47, 3, .inl (6, 21)),
  (42, .iload 5, 2, .inl (0, 0)),
  (44, .laload, 1, .inl (0, 0)),
  (45, .lload_n 1, 1, .inl (0, 0)),
  (46, .lconst 1, 1, .inr (.inr (.inl 1))),
  (47, .ladd, 1, .inl (0, 0)),
  (48, .lcmp, 1, .inl (0, 0)),
  (49, .ifCond .eq 15, 3, .inl (64, 0)),
  (52, .iload 5, 2, .inl (0, 0)),
  (54, .iconst 1, 1, .inr (.inl 1)),
  (55, .iadd, 1, .inl (0, 0)),
  (56, .ldc 186, 2, .inr (.inl 65535)),
  (58, .iand, 1, .inl (0, 0)),
  (59, .istore 5, 2, .inl (0, 0)),
  (61, .goto (-35), 3, .inl (26, 0)),
  (64, .aload_n 0, 1, .inl (0, 0)),
  (65, .getfield 47, 3, .inl (6, 21)),
  (68, .iload 5, 2, .inl (0, 0)),
  (70, .laload, 1, .inl (0, 0)),
  (71, .lconst 0, 1, .inr (.inr (.inl 0))),
  (72, .lcmp, 1, .inl (0, 0)),
  (73, .ifCond .ne 33, 3, .inl (106, 0)),
  (76, .aload_n 0, 1, .inl (0, 0)),
  (77, .getfield 47, 3, .inl (6, 21)),
  (80, .iload 5, 2, .inl (0, 0)),
  (82, .lload_n 1, 1, .inl (0, 0)),
  (83, .lconst 1, 1, .inr (.inr (.inl 1))),
  (84, .ladd, 1, .inl (0, 0)),
  (85, .lastore, 1, .inl (0, 0)),
  (86, .aload_n 0, 1, .inl (0, 0)),
  (87, .getfield 50, 3, .inl (6, 22)),
  (90, .aload_n 0, 1, .inl (0, 0)),
  (91, .getfield 187, 3, .inl (6, 23)),
  (94, .lload_n 1, 1, .inl (0, 0)),
  (95, .lastore, 1, .inl (0, 0)),
  (96, .aload_n 0, 1, .inl (0, 0)),
  (97, .dup, 1, .inl (0, 0)),
  (98, .getfield 187, 3, .inl (6, 23)),
  (101, .iconst 1, 1, .inr (.inl 1)),
  (102, .iadd, 1, .inl (0, 0)),
  (103, .putfield 187, 3, .inl (6, 23)),
  (106, .return_, 1, .inl (0, 0))]
def mX11_put : pm_M := (yX11_put, cX11_put, 6, none, tX11_put)
theorem okX11_put : pm_ok mX11_put = true := by decide +kernel
def tX11_comesOut : List pm_E := [(0, .iconst 0, 1, .inr (.inl 0)),
  (1, .istore_n 2, 1, .inl (0, 0)),
  (2, .iload_n 2, 1, .inl (0, 0)),
  (3, .ldc 46, 2, .inr (.inl 65536)),
  (5, .if_icmp .ge 16, 3, .inl (21, 0)),
  (8, .aload_n 0, 1, .inl (0, 0)),
  (9, .getfield 47, 3, .inl (6, 21)),
  (12, .iload_n 2, 1, .inl (0, 0)),
  (13, .lconst 0, 1, .inr (.inr (.inl 0))),
  (14, .lastore, 1, .inl (0, 0)),
  (15, .iinc 2 1, 3, .inr (.inl 1)),
  (18, .goto (-16), 3, .inl (2, 0)),
  (21, .aload_n 0, 1, .inl (0, 0)),
  (22, .iconst 0, 1, .inr (.inl 0)),
  (23, .putfield 187, 3, .inl (6, 23)),
  (26, .aload_n 0, 1, .inl (0, 0)),
  (27, .lconst 0, 1, .inr (.inr (.inl 0))),
  (28, .invokevirtual 190, 3, .inr (.inr (.inr yX11_put))),
  (31, .iconst 0, 1, .inr (.inl 0)),
  (32, .istore_n 2, 1, .inl (0, 0)),
  (33, .iconst 0, 1, .inr (.inl 0)),
  (34, .istore_n 3, 1, .inl (0, 0)),
  (35, .iload_n 3, 1, .inl (0, 0)),
  (36, .aload_n 0, 1, .inl (0, 0)),
  (37, .getfield 187, 3, .inl (6, 23)),
  (40, .if_icmp .ge 286, 3, .inl (326, 0)),
  (43, .iload_n 2, 1, .inl (0, 0)),
  (44, .ifCond .ne 282, 3, .inl (326, 0)),
  (47, .aload_n 0, 1, .inl (0, 0)),
  (48, .getfield 50, 3, .inl (6, 22)),
  (51, .iload_n 3, 1, .inl (0, 0)),
  (52, .laload, 1, .inl (0, 0)),
  (53, .lstore 4, 2, .inl (0, 0)),
  (55, .lload 4, 2, .inl (0, 0)),
  (57, .bipush 54, 2, .inr (.inl 54)),
  (59, .lshr, 1, .inl (0, 0)),
  (60, .ldc2_w 194, 3, .inr (.inr (.inl 7))),
  (63, .land, 1, .inl (0, 0)),
  (64, .l2i, 1, .inl (0, 0)),
  (65, .istore 6, 2, .inl (0, 0)),
  (67, .lload 4, 2, .inl (0, 0)),
  (69, .bipush 57, 2, .inr (.inl 57)),
  (71, .lshr, 1, .inl (0, 0)),
  (72, .ldc2_w 194, 3, .inr (.inr (.inl 7))),
  (75, .land, 1, .inl (0, 0)),
  (76, .l2i, 1, .inl (0, 0)),
  (77, .istore 7, 2, .inl (0, 0)),
  (79, .iload 7, 2, .inl (0, 0)),
  (81, .aload_n 0, 1, .inl (0, 0)),
  (82, .getfield 7, 3, .inl (6, 0)),
  (85, .if_icmp .ne 7, 3, .inl (92, 0)),
  (88, .iconst 1, 1, .inr (.inl 1)),
  (89, .goto 4, 3, .inl (93, 0)),
  (92, .iconst 0, 1, .inr (.inl 0)),
  (93, .istore_n 2, 1, .inl (0, 0)),
  (94, .iload 6, 2, .inl (0, 0)),
  (96, .aload_n 0, 1, .inl (0, 0)),
  (97, .getfield 7, 3, .inl (6, 0)),
  (100, .if_icmp .ge 40, 3, .inl (140, 0)),
  (103, .lload 4, 2, .inl (0, 0)),
  (105, .ldc2_w 196, 3, .inr (.inr (.inl 262143))),
  (108, .land, 1, .inl (0, 0)),
  (109, .lstore 8, 2, .inl (0, 0)),
  (111, .aload_n 0, 1, .inl (0, 0)),
  (112, .lload 4, 2, .inl (0, 0)),
  (114, .ldc2_w 198, 3, .inr (.inr (.inl (-262144)))),
  (117, .land, 1, .inl (0, 0)),
  (118, .lload 8, 2, .inl (0, 0)),
  (120, .iconst 3, 1, .inr (.inl 3)),
  (121, .lshl, 1, .inl (0, 0)),
  (122, .ldc2_w 196, 3, .inr (.inr (.inl 262143))),
  (125, .land, 1, .inl (0, 0)),
  (126, .ladd, 1, .inl (0, 0)),
  (127, .iload 6, 2, .inl (0, 0)),
  (129, .i2l, 1, .inl (0, 0)),
  (130, .ladd, 1, .inl (0, 0)),
  (131, .lconst 1, 1, .inr (.inr (.inl 1))),
  (132, .ladd, 1, .inl (0, 0)),
  (133, .ldc2_w 200, 3, .inr (.inr (.inl 18014398509481984))),
  (136, .ladd, 1, .inl (0, 0)),
  (137, .invokevirtual 190, 3, .inr (.inr (.inr yX11_put))),
  (140, .iconst 0, 1, .inr (.inl 0)),
  (141, .istore 8, 2, .inl (0, 0)),
  (143, .iload 8, 2, .inl (0, 0)),
  (145, .iload_n 1, 1, .inl (0, 0)),
  (146, .if_icmp .ge 174, 3, .inl (320, 0)),
  (149, .lload 4, 2, .inl (0, 0)),
  (151, .bipush 18, 2, .inr (.inl 18)),
  (153, .iload 8, 2, .inl (0, 0)),
  (155, .imul, 1, .inl (0, 0)),
  (156, .lshr, 1, .inl (0, 0)),
  (157, .ldc2_w 196, 3, .inr (.inr (.inl 262143))),
  (160, .land, 1, .inl (0, 0)),
  (161, .lstore 9, 2, .inl (0, 0)),
  (163, .lload 9, 2, .inl (0, 0)),
  (165, .ldc2_w 194, 3, .inr (.inr (.inl 7))),
  (168, .land, 1, .inl (0, 0)),
  (169, .lstore 11, 2, .inl (0, 0)),
  (171, .lload 4, 2, .inl (0, 0)),
  (173, .ldc2_w 196, 3, .inr (.inr (.inl 262143))),
  (176, .bipush 18, 2, .inr (.inl 18)),
  (178, .iload 8, 2, .inl (0, 0)),
  (180, .imul, 1, .inl (0, 0)),
  (181, .lshl, 1, .inl (0, 0)),
  (182, .ldc2_w 202, 3, .inr (.inr (.inl (-1)))),
  (185, .lxor, 1, .inl (0, 0)),
  (186, .land, 1, .inl (0, 0)),
  (187, .lload 9, 2, .inl (0, 0)),
  (189, .iconst 3, 1, .inr (.inl 3)),
  (190, .lshr, 1, .inl (0, 0)),
  (191, .bipush 18, 2, .inr (.inl 18)),
  (193, .iload 8, 2, .inl (0, 0)),
  (195, .imul, 1, .inl (0, 0)),
  (196, .lshl, 1, .inl (0, 0)),
  (197, .ladd, 1, .inl (0, 0)),
  (198, .lstore 13, 2, .inl (0, 0)),
  (200, .lload 11, 2, .inl (0, 0)),
  (202, .lconst 0, 1, .inr (.inr (.inl 0))),
  (203, .lcmp, 1, .inl (0, 0)),
  (204, .ifCond .le 75, 3, .inl (279, 0)),
  (207, .iload 8, 2, .inl (0, 0)),
  (209, .iconst 1, 1, .inr (.inl 1)),
  (210, .iadd, 1, .inl (0, 0)),
  (211, .iload_n 1, 1, .inl (0, 0)),
  (212, .if_icmp .ge 67, 3, .inl (279, 0)),
  (215, .lload 4, 2, .inl (0, 0)),
  (217, .bipush 18, 2, .inr (.inl 18)),
  (219, .iload 8, 2, .inl (0, 0)),
  (221, .imul, 1, .inl (0, 0)),
  (222, .bipush 18, 2, .inr (.inl 18)),
  (224, .iadd, 1, .inl (0, 0)),
  (225, .lshr, 1, .inl (0, 0)),
  (226, .ldc2_w 196, 3, .inr (.inr (.inl 262143))),
  (229, .land, 1, .inl (0, 0)),
  (230, .lstore 15, 2, .inl (0, 0)),
  (232, .aload_n 0, 1, .inl (0, 0)),
  (233, .lload 13, 2, .inl (0, 0)),
  (235, .ldc2_w 196, 3, .inr (.inr (.inl 262143))),
  (238, .bipush 18, 2, .inr (.inl 18)),
  (240, .iload 8, 2, .inl (0, 0)),
  (242, .imul, 1, .inl (0, 0)),
  (243, .bipush 18, 2, .inr (.inl 18)),
  (245, .iadd, 1, .inl (0, 0)),
  (246, .lshl, 1, .inl (0, 0)),
  (247, .ldc2_w 202, 3, .inr (.inr (.inl (-1)))),
  (250, .lxor, 1, .inl (0, 0)),
  (251, .land, 1, .inl (0, 0)),
  (252, .lload 15, 2, .inl (0, 0)),
  (254, .iconst 3, 1, .inr (.inl 3)),
  (255, .lshl, 1, .inl (0, 0)),
  (256, .ldc2_w 196, 3, .inr (.inr (.inl 262143))),
  (259, .land, 1, .inl (0, 0)),
  (260, .lload 11, 2, .inl (0, 0)),
  (262, .ladd, 1, .inl (0, 0)),
  (263, .bipush 18, 2, .inr (.inl 18)),
  (265, .iload 8, 2, .inl (0, 0)),
  (267, .imul, 1, .inl (0, 0)),
  (268, .bipush 18, 2, .inr (.inl 18)),
  (270, .iadd, 1, .inl (0, 0)),
  (271, .lshl, 1, .inl (0, 0)),
  (272, .ladd, 1, .inl (0, 0)),
  (273, .invokevirtual 190, 3, .inr (.inr (.inr yX11_put))),
  (276, .goto 38, 3, .inl (314, 0)),
  (279, .lload 11, 2, .inl (0, 0)),
  (281, .lconst 0, 1, .inr (.inr (.inl 0))),
  (282, .lcmp, 1, .inl (0, 0)),
  (283, .ifCond .le 31, 3, .inl (314, 0)),
  (286, .aload_n 0, 1, .inl (0, 0)),
  (287, .getfield 26, 3, .inl (6, 7)),
  (290, .iload 7, 2, .inl (0, 0)),
  (292, .iaload, 1, .inl (0, 0)),
  (293, .bipush 97, 2, .inr (.inl 97)),
  (295, .isub, 1, .inl (0, 0)),
  (296, .lload 11, 2, .inl (0, 0)),
  (298, .l2i, 1, .inl (0, 0)),
  (299, .iconst 1, 1, .inr (.inl 1)),
  (300, .isub, 1, .inl (0, 0)),
  (301, .if_icmp .ne 13, 3, .inl (314, 0)),
  (304, .aload_n 0, 1, .inl (0, 0)),
  (305, .lload 13, 2, .inl (0, 0)),
  (307, .ldc2_w 204, 3, .inr (.inr (.inl 144115188075855872))),
  (310, .ladd, 1, .inl (0, 0)),
  (311, .invokevirtual 190, 3, .inr (.inr (.inr yX11_put))),
  (314, .iinc 8 1, 3, .inr (.inl 1)),
  (317, .goto (-174), 3, .inl (143, 0)),
  (320, .iinc 3 1, 3, .inr (.inl 1)),
  (323, .goto (-288), 3, .inl (35, 0)),
  (326, .iload_n 2, 1, .inl (0, 0)),
  (327, .ireturn, 1, .inl (0, 0))]
def mX11_comesOut : pm_M := (yX11_comesOut, cX11_comesOut, 17, (some .boolean), tX11_comesOut)
theorem okX11_comesOut : pm_ok mX11_comesOut = true := by decide +kernel
def tX11_behind : List pm_E := [(0, .aload_n 0, 1, .inl (0, 0)),
  (1, .invokevirtual 124, 3, .inr (.inr (.inr yX11_orderFault))),
  (4, .ifCond .lt 6, 3, .inl (10, 0)),
  (7, .bipush (-5), 2, .inr (.inl (-5))),
  (9, .ireturn, 1, .inl (0, 0)),
  (10, .iconst 1, 1, .inr (.inl 1)),
  (11, .istore_n 1, 1, .inl (0, 0)),
  (12, .iload_n 1, 1, .inl (0, 0)),
  (13, .iconst 4, 1, .inr (.inl 4)),
  (14, .if_icmp .ge 19, 3, .inl (33, 0)),
  (17, .aload_n 0, 1, .inl (0, 0)),
  (18, .iload_n 1, 1, .inl (0, 0)),
  (19, .invokevirtual 206, 3, .inr (.inr (.inr yX11_comesOut))),
  (22, .ifCond .eq 5, 3, .inl (27, 0)),
  (25, .iload_n 1, 1, .inl (0, 0)),
  (26, .ireturn, 1, .inl (0, 0)),
  (27, .iinc 1 1, 3, .inr (.inl 1)),
  (30, .goto (-18), 3, .inl (12, 0)),
  (33, .bipush (-6), 2, .inr (.inl (-6))),
  (35, .ireturn, 1, .inl (0, 0))]
def mX11_behind : pm_M := (yX11_behind, cX11_behind, 2, (some .int), tX11_behind)
theorem okX11_behind : pm_ok mX11_behind = true := by decide +kernel
def tX11_garden : List pm_E := [(0, .iload_n 1, 1, .inl (0, 0)),
  (1, .bipush 64, 2, .inr (.inl 64)),
  (3, .imul, 1, .inl (0, 0)),
  (4, .iload_n 2, 1, .inl (0, 0)),
  (5, .iadd, 1, .inl (0, 0)),
  (6, .ldc 209, 2, .inr (.inl 40503)),
  (8, .imul, 1, .inl (0, 0)),
  (9, .iconst 5, 1, .inr (.inl 5)),
  (10, .ishr, 1, .inl (0, 0)),
  (11, .sipush 16383, 3, .inr (.inl 16383)),
  (14, .iand, 1, .inl (0, 0)),
  (15, .istore_n 3, 1, .inl (0, 0)),
  (16, .aload_n 0, 1, .inl (0, 0)),
  (17, .getfield 62, 3, .inl (6, 28)),
  (20, .iload_n 3, 1, .inl (0, 0)),
  (21, .iaload, 1, .inl (0, 0)),
  (22, .ifCond .lt 44, 3, .inl (66, 0)),
  (25, .aload_n 0, 1, .inl (0, 0)),
  (26, .getfield 53, 3, .inl (6, 25)),
  (29, .aload_n 0, 1, .inl (0, 0)),
  (30, .getfield 62, 3, .inl (6, 28)),
  (33, .iload_n 3, 1, .inl (0, 0)),
  (34, .iaload, 1, .inl (0, 0)),
  (35, .iaload, 1, .inl (0, 0)),
  (36, .iload_n 1, 1, .inl (0, 0)),
  (37, .if_icmp .ne 18, 3, .inl (55, 0)),
  (40, .aload_n 0, 1, .inl (0, 0)),
  (41, .getfield 56, 3, .inl (6, 26)),
  (44, .aload_n 0, 1, .inl (0, 0)),
  (45, .getfield 62, 3, .inl (6, 28)),
  (48, .iload_n 3, 1, .inl (0, 0)),
  (49, .iaload, 1, .inl (0, 0)),
  (50, .iaload, 1, .inl (0, 0)),
  (51, .iload_n 2, 1, .inl (0, 0)),
  (52, .if_icmp .eq 14, 3, .inl (66, 0)),
  (55, .iload_n 3, 1, .inl (0, 0)),
  (56, .iconst 1, 1, .inr (.inl 1)),
  (57, .iadd, 1, .inl (0, 0)),
  (58, .sipush 16383, 3, .inr (.inl 16383)),
  (61, .iand, 1, .inl (0, 0)),
  (62, .istore_n 3, 1, .inl (0, 0)),
  (63, .goto (-47), 3, .inl (16, 0)),
  (66, .aload_n 0, 1, .inl (0, 0)),
  (67, .getfield 62, 3, .inl (6, 28)),
  (70, .iload_n 3, 1, .inl (0, 0)),
  (71, .iaload, 1, .inl (0, 0)),
  (72, .ifCond .ge 54, 3, .inl (126, 0)),
  (75, .aload_n 0, 1, .inl (0, 0)),
  (76, .getfield 62, 3, .inl (6, 28)),
  (79, .iload_n 3, 1, .inl (0, 0)),
  (80, .aload_n 0, 1, .inl (0, 0)),
  (81, .getfield 210, 3, .inl (6, 24)),
  (84, .iastore, 1, .inl (0, 0)),
  (85, .aload_n 0, 1, .inl (0, 0)),
  (86, .getfield 53, 3, .inl (6, 25)),
  (89, .aload_n 0, 1, .inl (0, 0)),
  (90, .getfield 210, 3, .inl (6, 24)),
  (93, .iload_n 1, 1, .inl (0, 0)),
  (94, .iastore, 1, .inl (0, 0)),
  (95, .aload_n 0, 1, .inl (0, 0)),
  (96, .getfield 56, 3, .inl (6, 26)),
  (99, .aload_n 0, 1, .inl (0, 0)),
  (100, .getfield 210, 3, .inl (6, 24)),
  (103, .iload_n 2, 1, .inl (0, 0)),
  (104, .iastore, 1, .inl (0, 0)),
  (105, .aload_n 0, 1, .inl (0, 0)),
  (106, .getfield 59, 3, .inl (6, 27)),
  (109, .aload_n 0, 1, .inl (0, 0)),
  (110, .getfield 210, 3, .inl (6, 24)),
  (113, .ldc 213, 2, .inr (.inl 1000000)),
  (115, .iastore, 1, .inl (0, 0)),
  (116, .aload_n 0, 1, .inl (0, 0)),
  (117, .dup, 1, .inl (0, 0)),
  (118, .getfield 210, 3, .inl (6, 24)),
  (121, .iconst 1, 1, .inr (.inl 1)),
  (122, .iadd, 1, .inl (0, 0)),
  (123, .putfield 210, 3, .inl (6, 24)),
  (126, .aload_n 0, 1, .inl (0, 0)),
  (127, .getfield 62, 3, .inl (6, 28)),
  (130, .iload_n 3, 1, .inl (0, 0)),
  (131, .iaload, 1, .inl (0, 0)),
  (132, .ireturn, 1, .inl (0, 0))]
def mX11_garden : pm_M := (yX11_garden, cX11_garden, 4, (some .int), tX11_garden)
theorem okX11_garden : pm_ok mX11_garden = true := by decide +kernel
def tX11_bits : List pm_E := [(0, .iconst 0, 1, .inr (.inl 0)),
  (1, .istore_n 1, 1, .inl (0, 0)),
  (2, .iconst 0, 1, .inr (.inl 0)),
  (3, .istore_n 2, 1, .inl (0, 0)),
  (4, .iload_n 2, 1, .inl (0, 0)),
  (5, .bipush 6, 2, .inr (.inl 6)),
  (7, .if_icmp .ge 17, 3, .inl (24, 0)),
  (10, .iload_n 1, 1, .inl (0, 0)),
  (11, .iload_n 0, 1, .inl (0, 0)),
  (12, .iload_n 2, 1, .inl (0, 0)),
  (13, .ishr, 1, .inl (0, 0)),
  (14, .iconst 1, 1, .inr (.inl 1)),
  (15, .iand, 1, .inl (0, 0)),
  (16, .iadd, 1, .inl (0, 0)),
  (17, .istore_n 1, 1, .inl (0, 0)),
  (18, .iinc 2 1, 3, .inr (.inl 1)),
  (21, .goto (-17), 3, .inl (4, 0)),
  (24, .iload_n 1, 1, .inl (0, 0)),
  (25, .ireturn, 1, .inl (0, 0))]
def mX11_bits : pm_M := (yX11_bits, cX11_bits, 3, (some .int), tX11_bits)
theorem okX11_bits : pm_ok mX11_bits = true := by decide +kernel
def tX11_mornings : List pm_E := [(0, .aload_n 0, 1, .inl (0, 0)),
  (1, .getfield 56, 3, .inl (6, 26)),
  (4, .iload_n 1, 1, .inl (0, 0)),
  (5, .iaload, 1, .inl (0, 0)),
  (6, .invokestatic 214, 3, .inr (.inr (.inr yX11_bits))),
  (9, .aload_n 0, 1, .inl (0, 0)),
  (10, .getfield 89, 3, .inl (6, 9)),
  (13, .invokestatic 214, 3, .inr (.inr (.inr yX11_bits))),
  (16, .isub, 1, .inl (0, 0)),
  (17, .ireturn, 1, .inl (0, 0))]
def mX11_mornings : pm_M := (yX11_mornings, cX11_mornings, 2, (some .int), tX11_mornings)
theorem okX11_mornings : pm_ok mX11_mornings = true := by decide +kernel
def tX11_isWished : List pm_E := [(0, .aload_n 0, 1, .inl (0, 0)),
  (1, .getfield 26, 3, .inl (6, 7)),
  (4, .iload_n 1, 1, .inl (0, 0)),
  (5, .iaload, 1, .inl (0, 0)),
  (6, .invokestatic 116, 3, .inr (.inr (.inr yX11_colourOf))),
  (9, .istore_n 3, 1, .inl (0, 0)),
  (10, .iload_n 3, 1, .inl (0, 0)),
  (11, .iconst 4, 1, .inr (.inl 4)),
  (12, .if_icmp .eq 13, 3, .inl (25, 0)),
  (15, .iload_n 3, 1, .inl (0, 0)),
  (16, .aload_n 0, 1, .inl (0, 0)),
  (17, .getfield 13, 3, .inl (6, 1)),
  (20, .iload_n 2, 1, .inl (0, 0)),
  (21, .iaload, 1, .inl (0, 0)),
  (22, .if_icmp .ne 7, 3, .inl (29, 0)),
  (25, .iconst 1, 1, .inr (.inl 1)),
  (26, .goto 4, 3, .inl (30, 0)),
  (29, .iconst 0, 1, .inr (.inl 0)),
  (30, .ireturn, 1, .inl (0, 0))]
def mX11_isWished : pm_M := (yX11_isWished, cX11_isWished, 4, (some .boolean), tX11_isWished)
theorem okX11_isWished : pm_ok mX11_isWished = true := by decide +kernel
def tX11_leads : List pm_E := [(0, .aload_n 0, 1, .inl (0, 0)),
  (1, .getfield 53, 3, .inl (6, 25)),
  (4, .iload_n 1, 1, .inl (0, 0)),
  (5, .iaload, 1, .inl (0, 0)),
  (6, .istore_n 3, 1, .inl (0, 0)),
  (7, .aload_n 0, 1, .inl (0, 0)),
  (8, .getfield 56, 3, .inl (6, 26)),
  (11, .iload_n 1, 1, .inl (0, 0)),
  (12, .iaload, 1, .inl (0, 0)),
  (13, .istore 4, 2, .inl (0, 0)),
  (15, .iload_n 2, 1, .inl (0, 0)),
  (16, .ifCond .ne 52, 3, .inl (68, 0)),
  (19, .aload_n 0, 1, .inl (0, 0)),
  (20, .iload_n 3, 1, .inl (0, 0)),
  (21, .invokevirtual 158, 3, .inr (.inr (.inr yX11_nextOf))),
  (24, .istore 5, 2, .inl (0, 0)),
  (26, .iload 5, 2, .inl (0, 0)),
  (28, .ifCond .lt 37, 3, .inl (65, 0)),
  (31, .aload_n 0, 1, .inl (0, 0)),
  (32, .aload_n 0, 1, .inl (0, 0)),
  (33, .iload_n 1, 1, .inl (0, 0)),
  (34, .invokevirtual 217, 3, .inr (.inr (.inr yX11_mornings))),
  (37, .iload 5, 2, .inl (0, 0)),
  (39, .invokevirtual 220, 3, .inr (.inr (.inr yX11_isWished))),
  (42, .ifCond .eq 23, 3, .inl (65, 0)),
  (45, .aload_n 0, 1, .inl (0, 0)),
  (46, .iload_n 3, 1, .inl (0, 0)),
  (47, .iload 5, 2, .inl (0, 0)),
  (49, .invokestatic 130, 3, .inr (.inr (.inr yX11_without))),
  (52, .iload 4, 2, .inl (0, 0)),
  (54, .iconst 1, 1, .inr (.inl 1)),
  (55, .iload 5, 2, .inl (0, 0)),
  (57, .ishl, 1, .inl (0, 0)),
  (58, .ior, 1, .inl (0, 0)),
  (59, .invokevirtual 223, 3, .inr (.inr (.inr yX11_garden))),
  (62, .goto 5, 3, .inl (67, 0)),
  (65, .bipush (-6), 2, .inr (.inl (-6))),
  (67, .ireturn, 1, .inl (0, 0)),
  (68, .iload_n 2, 1, .inl (0, 0)),
  (69, .aload_n 0, 1, .inl (0, 0)),
  (70, .getfield 7, 3, .inl (6, 0)),
  (73, .if_icmp .le 16, 3, .inl (89, 0)),
  (76, .aload_n 0, 1, .inl (0, 0)),
  (77, .aload_n 0, 1, .inl (0, 0)),
  (78, .iload 4, 2, .inl (0, 0)),
  (80, .invokevirtual 155, 3, .inr (.inr (.inr yX11_rained))),
  (83, .iload 4, 2, .inl (0, 0)),
  (85, .invokevirtual 223, 3, .inr (.inr (.inr yX11_garden))),
  (88, .ireturn, 1, .inl (0, 0)),
  (89, .aload_n 0, 1, .inl (0, 0)),
  (90, .iload_n 3, 1, .inl (0, 0)),
  (91, .iload 4, 2, .inl (0, 0)),
  (93, .iload_n 2, 1, .inl (0, 0)),
  (94, .iconst 1, 1, .inr (.inl 1)),
  (95, .isub, 1, .inl (0, 0)),
  (96, .invokevirtual 161, 3, .inr (.inr (.inr yX11_whyNot))),
  (99, .ifCond .ne 19, 3, .inl (118, 0)),
  (102, .aload_n 0, 1, .inl (0, 0)),
  (103, .iload_n 3, 1, .inl (0, 0)),
  (104, .iload_n 2, 1, .inl (0, 0)),
  (105, .iconst 1, 1, .inr (.inl 1)),
  (106, .isub, 1, .inl (0, 0)),
  (107, .invokestatic 165, 3, .inr (.inr (.inr yX11_watered))),
  (110, .iload 4, 2, .inl (0, 0)),
  (112, .invokevirtual 223, 3, .inr (.inr (.inr yX11_garden))),
  (115, .goto 5, 3, .inl (120, 0)),
  (118, .bipush (-6), 2, .inr (.inl (-6))),
  (120, .ireturn, 1, .inl (0, 0))]
def mX11_leads : pm_M := (yX11_leads, cX11_leads, 6, (some .int), tX11_leads)
theorem okX11_leads : pm_ok mX11_leads = true := by decide +kernel
def tX11_layGardens : List pm_E := [(0, .aload_n 0, 1, .inl (0, 0)),
  (1, .iconst 0, 1, .inr (.inl 0)),
  (2, .putfield 210, 3, .inl (6, 24)),
  (5, .iconst 0, 1, .inr (.inl 0)),
  (6, .istore_n 1, 1, .inl (0, 0)),
  (7, .iload_n 1, 1, .inl (0, 0)),
  (8, .sipush 16384, 3, .inr (.inl 16384)),
  (11, .if_icmp .ge 17, 3, .inl (28, 0)),
  (14, .aload_n 0, 1, .inl (0, 0)),
  (15, .getfield 62, 3, .inl (6, 28)),
  (18, .iload_n 1, 1, .inl (0, 0)),
  (19, .bipush (-6), 2, .inr (.inl (-6))),
  (21, .iastore, 1, .inl (0, 0)),
  (22, .iinc 1 1, 3, .inr (.inl 1)),
  (25, .goto (-18), 3, .inl (7, 0)),
  (28, .aload_n 0, 1, .inl (0, 0)),
  (29, .aload_n 0, 1, .inl (0, 0)),
  (30, .getfield 86, 3, .inl (6, 8)),
  (33, .aload_n 0, 1, .inl (0, 0)),
  (34, .getfield 89, 3, .inl (6, 9)),
  (37, .invokevirtual 223, 3, .inr (.inr (.inr yX11_garden))),
  (40, .istore_n 1, 1, .inl (0, 0)),
  (41, .iload_n 1, 1, .inl (0, 0)),
  (42, .istore_n 2, 1, .inl (0, 0)),
  (43, .iload_n 2, 1, .inl (0, 0)),
  (44, .aload_n 0, 1, .inl (0, 0)),
  (45, .getfield 210, 3, .inl (6, 24)),
  (48, .if_icmp .ge 85, 3, .inl (133, 0)),
  (51, .aload_n 0, 1, .inl (0, 0)),
  (52, .iload_n 2, 1, .inl (0, 0)),
  (53, .invokevirtual 217, 3, .inr (.inr (.inr yX11_mornings))),
  (56, .aload_n 0, 1, .inl (0, 0)),
  (57, .getfield 109, 3, .inl (6, 6)),
  (60, .if_icmp .ne 7, 3, .inl (67, 0)),
  (63, .iconst 1, 1, .inr (.inl 1)),
  (64, .goto 4, 3, .inl (68, 0)),
  (67, .iconst 0, 1, .inr (.inl 0)),
  (68, .istore_n 3, 1, .inl (0, 0)),
  (69, .aload_n 0, 1, .inl (0, 0)),
  (70, .getfield 59, 3, .inl (6, 27)),
  (73, .iload_n 2, 1, .inl (0, 0)),
  (74, .iload_n 3, 1, .inl (0, 0)),
  (75, .ifCond .eq 7, 3, .inl (82, 0)),
  (78, .iconst 0, 1, .inr (.inl 0)),
  (79, .goto 5, 3, .inl (84, 0)),
  (82, .ldc 213, 2, .inr (.inl 1000000)),
  (84, .iastore, 1, .inl (0, 0)),
  (85, .iconst 0, 1, .inr (.inl 0)),
  (86, .istore 4, 2, .inl (0, 0)),
  (88, .iload 4, 2, .inl (0, 0)),
  (90, .aload_n 0, 1, .inl (0, 0)),
  (91, .getfield 7, 3, .inl (6, 0)),
  (94, .iconst 1, 1, .inr (.inl 1)),
  (95, .iadd, 1, .inl (0, 0)),
  (96, .if_icmp .gt 31, 3, .inl (127, 0)),
  (99, .iload_n 3, 1, .inl (0, 0)),
  (100, .ifCond .ne 27, 3, .inl (127, 0)),
  (103, .aload_n 0, 1, .inl (0, 0)),
  (104, .iload_n 2, 1, .inl (0, 0)),
  (105, .iload 4, 2, .inl (0, 0)),
  (107, .invokevirtual 226, 3, .inr (.inr (.inr yX11_leads))),
  (110, .ldc 213, 2, .inr (.inl 1000000)),
  (112, .if_icmp .ne 7, 3, .inl (119, 0)),
  (115, .iconst 1, 1, .inr (.inl 1)),
  (116, .goto 4, 3, .inl (120, 0)),
  (119, .iconst 0, 1, .inr (.inl 0)),
  (120, .istore_n 3, 1, .inl (0, 0)),
  (121, .iinc 4 1, 3, .inr (.inl 1)),
  (124, .goto (-36), 3, .inl (88, 0)),
  (127, .iinc 2 1, 3, .inr (.inl 1)),
  (130, .goto (-87), 3, .inl (43, 0)),
  (133, .iconst 1, 1, .inr (.inl 1)),
  (134, .istore_n 2, 1, .inl (0, 0)),
  (135, .iload_n 2, 1, .inl (0, 0)),
  (136, .ifCond .eq 117, 3, .inl (253, 0)),
  (139, .iconst 0, 1, .inr (.inl 0)),
  (140, .istore_n 2, 1, .inl (0, 0)),
  (141, .aload_n 0, 1, .inl (0, 0)),
  (142, .getfield 210, 3, .inl (6, 24)),
  (145, .iconst 1, 1, .inr (.inl 1)),
  (146, .isub, 1, .inl (0, 0)),
  (147, .istore_n 3, 1, .inl (0, 0)),
  (148, .iload_n 3, 1, .inl (0, 0)),
  (149, .ifCond .lt 101, 3, .inl (250, 0)),
  (152, .iconst 0, 1, .inr (.inl 0)),
  (153, .istore 4, 2, .inl (0, 0)),
  (155, .iload 4, 2, .inl (0, 0)),
  (157, .aload_n 0, 1, .inl (0, 0)),
  (158, .getfield 7, 3, .inl (6, 0)),
  (161, .iconst 1, 1, .inr (.inl 1)),
  (162, .iadd, 1, .inl (0, 0)),
  (163, .if_icmp .gt 81, 3, .inl (244, 0)),
  (166, .aload_n 0, 1, .inl (0, 0)),
  (167, .iload_n 3, 1, .inl (0, 0)),
  (168, .invokevirtual 217, 3, .inr (.inr (.inr yX11_mornings))),
  (171, .aload_n 0, 1, .inl (0, 0)),
  (172, .getfield 109, 3, .inl (6, 6)),
  (175, .if_icmp .ge 69, 3, .inl (244, 0)),
  (178, .aload_n 0, 1, .inl (0, 0)),
  (179, .iload_n 3, 1, .inl (0, 0)),
  (180, .iload 4, 2, .inl (0, 0)),
  (182, .invokevirtual 226, 3, .inr (.inr (.inr yX11_leads))),
  (185, .istore 5, 2, .inl (0, 0)),
  (187, .iload 5, 2, .inl (0, 0)),
  (189, .ifCond .ge 8, 3, .inl (197, 0)),
  (192, .ldc 213, 2, .inr (.inl 1000000)),
  (194, .goto 21, 3, .inl (215, 0)),
  (197, .aload_n 0, 1, .inl (0, 0)),
  (198, .getfield 59, 3, .inl (6, 27)),
  (201, .iload 5, 2, .inl (0, 0)),
  (203, .iaload, 1, .inl (0, 0)),
  (204, .iload 4, 2, .inl (0, 0)),
  (206, .ifCond .ne 7, 3, .inl (213, 0)),
  (209, .iconst 0, 1, .inr (.inl 0)),
  (210, .goto 4, 3, .inl (214, 0)),
  (213, .iconst 1, 1, .inr (.inl 1)),
  (214, .iadd, 1, .inl (0, 0)),
  (215, .istore 6, 2, .inl (0, 0)),
  (217, .iload 6, 2, .inl (0, 0)),
  (219, .aload_n 0, 1, .inl (0, 0)),
  (220, .getfield 59, 3, .inl (6, 27)),
  (223, .iload_n 3, 1, .inl (0, 0)),
  (224, .iaload, 1, .inl (0, 0)),
  (225, .if_icmp .ge 13, 3, .inl (238, 0)),
  (228, .aload_n 0, 1, .inl (0, 0)),
  (229, .getfield 59, 3, .inl (6, 27)),
  (232, .iload_n 3, 1, .inl (0, 0)),
  (233, .iload 6, 2, .inl (0, 0)),
  (235, .iastore, 1, .inl (0, 0)),
  (236, .iconst 1, 1, .inr (.inl 1)),
  (237, .istore_n 2, 1, .inl (0, 0)),
  (238, .iinc 4 1, 3, .inr (.inl 1)),
  (241, .goto (-86), 3, .inl (155, 0)),
  (244, .iinc 3 (-1), 3, .inr (.inl (-1))),
  (247, .goto (-99), 3, .inl (148, 0)),
  (250, .goto (-115), 3, .inl (135, 0)),
  (253, .return_, 1, .inl (0, 0))]
def mX11_layGardens : pm_M := (yX11_layGardens, cX11_layGardens, 7, none, tX11_layGardens)
theorem okX11_layGardens : pm_ok mX11_layGardens = true := by decide +kernel
def tX11_fewest : List pm_E := [(0, .aload_n 0, 1, .inl (0, 0)),
  (1, .invokevirtual 127, 3, .inr (.inr (.inr yX11_wishFault))),
  (4, .ifCond .lt 6, 3, .inl (10, 0)),
  (7, .bipush (-5), 2, .inr (.inl (-5))),
  (9, .ireturn, 1, .inl (0, 0)),
  (10, .aload_n 0, 1, .inl (0, 0)),
  (11, .invokevirtual 229, 3, .inr (.inr (.inr yX11_layGardens))),
  (14, .aload_n 0, 1, .inl (0, 0)),
  (15, .getfield 59, 3, .inl (6, 27)),
  (18, .iconst 0, 1, .inr (.inl 0)),
  (19, .iaload, 1, .inl (0, 0)),
  (20, .ldc 213, 2, .inr (.inl 1000000)),
  (22, .if_icmp .ge 8, 3, .inl (30, 0)),
  (25, .iload_n 1, 1, .inl (0, 0)),
  (26, .iconst (-1), 1, .inr (.inl (-1))),
  (27, .if_icmp .ne 26, 3, .inl (53, 0)),
  (30, .aload_n 0, 1, .inl (0, 0)),
  (31, .getfield 59, 3, .inl (6, 27)),
  (34, .iconst 0, 1, .inr (.inl 0)),
  (35, .iaload, 1, .inl (0, 0)),
  (36, .ldc 213, 2, .inr (.inl 1000000)),
  (38, .if_icmp .lt 8, 3, .inl (46, 0)),
  (41, .bipush (-6), 2, .inr (.inl (-6))),
  (43, .goto 9, 3, .inl (52, 0)),
  (46, .aload_n 0, 1, .inl (0, 0)),
  (47, .getfield 59, 3, .inl (6, 27)),
  (50, .iconst 0, 1, .inr (.inl 0)),
  (51, .iaload, 1, .inl (0, 0)),
  (52, .ireturn, 1, .inl (0, 0)),
  (53, .iconst 0, 1, .inr (.inl 0)),
  (54, .istore_n 2, 1, .inl (0, 0)),
  (55, .bipush (-6), 2, .inr (.inl (-6))),
  (57, .istore_n 3, 1, .inl (0, 0)),
  (58, .iconst 0, 1, .inr (.inl 0)),
  (59, .istore 4, 2, .inl (0, 0)),
  (61, .iload 4, 2, .inl (0, 0)),
  (63, .iload_n 1, 1, .inl (0, 0)),
  (64, .if_icmp .gt 97, 3, .inl (161, 0)),
  (67, .bipush (-6), 2, .inr (.inl (-6))),
  (69, .istore_n 3, 1, .inl (0, 0)),
  (70, .iload_n 2, 1, .inl (0, 0)),
  (71, .istore 5, 2, .inl (0, 0)),
  (73, .aload_n 0, 1, .inl (0, 0)),
  (74, .getfield 7, 3, .inl (6, 0)),
  (77, .iconst 1, 1, .inr (.inl 1)),
  (78, .iadd, 1, .inl (0, 0)),
  (79, .istore 6, 2, .inl (0, 0)),
  (81, .iload 6, 2, .inl (0, 0)),
  (83, .ifCond .lt 69, 3, .inl (152, 0)),
  (86, .aload_n 0, 1, .inl (0, 0)),
  (87, .iload_n 2, 1, .inl (0, 0)),
  (88, .invokevirtual 217, 3, .inr (.inr (.inr yX11_mornings))),
  (91, .aload_n 0, 1, .inl (0, 0)),
  (92, .getfield 109, 3, .inl (6, 6)),
  (95, .if_icmp .ge 57, 3, .inl (152, 0)),
  (98, .aload_n 0, 1, .inl (0, 0)),
  (99, .iload_n 2, 1, .inl (0, 0)),
  (100, .iload 6, 2, .inl (0, 0)),
  (102, .invokevirtual 226, 3, .inr (.inr (.inr yX11_leads))),
  (105, .istore 7, 2, .inl (0, 0)),
  (107, .iload 7, 2, .inl (0, 0)),
  (109, .ifCond .lt 37, 3, .inl (146, 0)),
  (112, .aload_n 0, 1, .inl (0, 0)),
  (113, .getfield 59, 3, .inl (6, 27)),
  (116, .iload 7, 2, .inl (0, 0)),
  (118, .iaload, 1, .inl (0, 0)),
  (119, .iload 6, 2, .inl (0, 0)),
  (121, .ifCond .ne 7, 3, .inl (128, 0)),
  (124, .iconst 0, 1, .inr (.inl 0)),
  (125, .goto 4, 3, .inl (129, 0)),
  (128, .iconst 1, 1, .inr (.inl 1)),
  (129, .iadd, 1, .inl (0, 0)),
  (130, .aload_n 0, 1, .inl (0, 0)),
  (131, .getfield 59, 3, .inl (6, 27)),
  (134, .iload_n 2, 1, .inl (0, 0)),
  (135, .iaload, 1, .inl (0, 0)),
  (136, .if_icmp .ne 10, 3, .inl (146, 0)),
  (139, .iload 6, 2, .inl (0, 0)),
  (141, .istore_n 3, 1, .inl (0, 0)),
  (142, .iload 7, 2, .inl (0, 0)),
  (144, .istore 5, 2, .inl (0, 0)),
  (146, .iinc 6 (-1), 3, .inr (.inl (-1))),
  (149, .goto (-68), 3, .inl (81, 0)),
  (152, .iload 5, 2, .inl (0, 0)),
  (154, .istore_n 2, 1, .inl (0, 0)),
  (155, .iinc 4 1, 3, .inr (.inl 1)),
  (158, .goto (-97), 3, .inl (61, 0)),
  (161, .iload_n 3, 1, .inl (0, 0)),
  (162, .ifCond .ge 8, 3, .inl (170, 0)),
  (165, .bipush (-6), 2, .inr (.inl (-6))),
  (167, .goto 31, 3, .inl (198, 0)),
  (170, .iload_n 3, 1, .inl (0, 0)),
  (171, .ifCond .ne 8, 3, .inl (179, 0)),
  (174, .bipush 46, 2, .inr (.inl 46)),
  (176, .goto 22, 3, .inl (198, 0)),
  (179, .iload_n 3, 1, .inl (0, 0)),
  (180, .aload_n 0, 1, .inl (0, 0)),
  (181, .getfield 7, 3, .inl (6, 0)),
  (184, .if_icmp .le 8, 3, .inl (192, 0)),
  (187, .bipush 42, 2, .inr (.inl 42)),
  (189, .goto 9, 3, .inl (198, 0)),
  (192, .bipush 97, 2, .inr (.inl 97)),
  (194, .iload_n 3, 1, .inl (0, 0)),
  (195, .iadd, 1, .inl (0, 0)),
  (196, .iconst 1, 1, .inr (.inl 1)),
  (197, .isub, 1, .inl (0, 0)),
  (198, .ireturn, 1, .inl (0, 0))]
def mX11_fewest : pm_M := (yX11_fewest, cX11_fewest, 8, (some .int), tX11_fewest)
theorem okX11_fewest : pm_ok mX11_fewest = true := by decide +kernel
def tX11_chance : List pm_E := [(0, .iload_n 1, 1, .inl (0, 0)),
  (1, .iconst 0, 1, .inr (.inl 0)),
  (2, .iconst 1, 1, .inr (.inl 1)),
  (3, .invokestatic 98, 3, .inr (.inr (.inr yX11_in))),
  (6, .ifCond .ne 7, 3, .inl (13, 0)),
  (9, .ldc2_w 232, 3, .inr (.inr (.inl (-1000000000000000002)))),
  (12, .lreturn, 1, .inl (0, 0)),
  (13, .aload_n 0, 1, .inl (0, 0)),
  (14, .invokevirtual 127, 3, .inr (.inr (.inr yX11_wishFault))),
  (17, .ifCond .lt 7, 3, .inl (24, 0)),
  (20, .ldc2_w 234, 3, .inr (.inr (.inl (-1000000000000000005)))),
  (23, .lreturn, 1, .inl (0, 0)),
  (24, .lconst 0, 1, .inr (.inr (.inl 0))),
  (25, .lstore_n 2, 1, .inl (0, 0)),
  (26, .lconst 1, 1, .inr (.inr (.inl 1))),
  (27, .lstore 4, 2, .inl (0, 0)),
  (29, .iconst 0, 1, .inr (.inl 0)),
  (30, .istore 6, 2, .inl (0, 0)),
  (32, .iload 6, 2, .inl (0, 0)),
  (34, .aload_n 0, 1, .inl (0, 0)),
  (35, .getfield 109, 3, .inl (6, 6)),
  (38, .if_icmp .ge 17, 3, .inl (55, 0)),
  (41, .lload 4, 2, .inl (0, 0)),
  (43, .ldc2_w 236, 3, .inr (.inr (.inl 10))),
  (46, .lmul, 1, .inl (0, 0)),
  (47, .lstore 4, 2, .inl (0, 0)),
  (49, .iinc 6 1, 3, .inr (.inl 1)),
  (52, .goto (-20), 3, .inl (32, 0)),
  (55, .iconst 0, 1, .inr (.inl 0)),
  (56, .istore 6, 2, .inl (0, 0)),
  (58, .iload 6, 2, .inl (0, 0)),
  (60, .iconst 1, 1, .inr (.inl 1)),
  (61, .aload_n 0, 1, .inl (0, 0)),
  (62, .getfield 109, 3, .inl (6, 6)),
  (65, .ishl, 1, .inl (0, 0)),
  (66, .if_icmp .ge 170, 3, .inl (236, 0)),
  (69, .aload_n 0, 1, .inl (0, 0)),
  (70, .getfield 86, 3, .inl (6, 8)),
  (73, .istore 7, 2, .inl (0, 0)),
  (75, .aload_n 0, 1, .inl (0, 0)),
  (76, .getfield 89, 3, .inl (6, 9)),
  (79, .istore 8, 2, .inl (0, 0)),
  (81, .lconst 1, 1, .inr (.inr (.inl 1))),
  (82, .lstore 9, 2, .inl (0, 0)),
  (84, .iconst 0, 1, .inr (.inl 0)),
  (85, .istore 11, 2, .inl (0, 0)),
  (87, .iload 11, 2, .inl (0, 0)),
  (89, .aload_n 0, 1, .inl (0, 0)),
  (90, .getfield 109, 3, .inl (6, 6)),
  (93, .if_icmp .ge 132, 3, .inl (225, 0)),
  (96, .lload 9, 2, .inl (0, 0)),
  (98, .iload 6, 2, .inl (0, 0)),
  (100, .iload 11, 2, .inl (0, 0)),
  (102, .invokestatic 112, 3, .inr (.inr (.inr yX11_has))),
  (105, .ifCond .eq 11, 3, .inl (116, 0)),
  (108, .aload_n 0, 1, .inl (0, 0)),
  (109, .getfield 23, 3, .inl (6, 5)),
  (112, .i2l, 1, .inl (0, 0)),
  (113, .goto 11, 3, .inl (124, 0)),
  (116, .bipush 10, 2, .inr (.inl 10)),
  (118, .aload_n 0, 1, .inl (0, 0)),
  (119, .getfield 23, 3, .inl (6, 5)),
  (122, .isub, 1, .inl (0, 0)),
  (123, .i2l, 1, .inl (0, 0)),
  (124, .lmul, 1, .inl (0, 0)),
  (125, .lstore 9, 2, .inl (0, 0)),
  (127, .iload 6, 2, .inl (0, 0)),
  (129, .iload 11, 2, .inl (0, 0)),
  (131, .invokestatic 112, 3, .inr (.inr (.inr yX11_has))),
  (134, .ifCond .eq 12, 3, .inl (146, 0)),
  (137, .aload_n 0, 1, .inl (0, 0)),
  (138, .iload 8, 2, .inl (0, 0)),
  (140, .invokevirtual 155, 3, .inr (.inr (.inr yX11_rained))),
  (143, .goto 5, 3, .inl (148, 0)),
  (146, .iload 7, 2, .inl (0, 0)),
  (148, .istore 7, 2, .inl (0, 0)),
  (150, .aload_n 0, 1, .inl (0, 0)),
  (151, .iload 7, 2, .inl (0, 0)),
  (153, .invokevirtual 158, 3, .inr (.inr (.inr yX11_nextOf))),
  (156, .istore 12, 2, .inl (0, 0)),
  (158, .iload 12, 2, .inl (0, 0)),
  (160, .ifCond .lt 19, 3, .inl (179, 0)),
  (163, .aload_n 0, 1, .inl (0, 0)),
  (164, .iload 11, 2, .inl (0, 0)),
  (166, .iload 12, 2, .inl (0, 0)),
  (168, .invokevirtual 220, 3, .inr (.inr (.inr yX11_isWished))),
  (171, .ifCond .eq 8, 3, .inl (179, 0)),
  (174, .lload 9, 2, .inl (0, 0)),
  (176, .goto 4, 3, .inl (180, 0)),
  (179, .lconst 0, 1, .inr (.inr (.inl 0))),
  (180, .lstore 9, 2, .inl (0, 0)),
  (182, .iload 12, 2, .inl (0, 0)),
  (184, .ifCond .ge 8, 3, .inl (192, 0)),
  (187, .iload 7, 2, .inl (0, 0)),
  (189, .goto 10, 3, .inl (199, 0)),
  (192, .iload 7, 2, .inl (0, 0)),
  (194, .iload 12, 2, .inl (0, 0)),
  (196, .invokestatic 130, 3, .inr (.inr (.inr yX11_without))),
  (199, .istore 7, 2, .inl (0, 0)),
  (201, .iload 8, 2, .inl (0, 0)),
  (203, .iload 12, 2, .inl (0, 0)),
  (205, .ifCond .ge 7, 3, .inl (212, 0)),
  (208, .iconst 0, 1, .inr (.inl 0)),
  (209, .goto 7, 3, .inl (216, 0)),
  (212, .iconst 1, 1, .inr (.inl 1)),
  (213, .iload 12, 2, .inl (0, 0)),
  (215, .ishl, 1, .inl (0, 0)),
  (216, .ior, 1, .inl (0, 0)),
  (217, .istore 8, 2, .inl (0, 0)),
  (219, .iinc 11 1, 3, .inr (.inl 1)),
  (222, .goto (-135), 3, .inl (87, 0)),
  (225, .lload_n 2, 1, .inl (0, 0)),
  (226, .lload 9, 2, .inl (0, 0)),
  (228, .ladd, 1, .inl (0, 0)),
  (229, .lstore_n 2, 1, .inl (0, 0)),
  (230, .iinc 6 1, 3, .inr (.inl 1)),
  (233, .goto (-175), 3, .inl (58, 0)),
  (236, .lload_n 2, 1, .inl (0, 0)),
  (237, .lstore 6, 2, .inl (0, 0)),
  (239, .lload 4, 2, .inl (0, 0)),
  (241, .lstore 8, 2, .inl (0, 0)),
  (243, .lload 8, 2, .inl (0, 0)),
  (245, .lconst 0, 1, .inr (.inr (.inl 0))),
  (246, .lcmp, 1, .inl (0, 0)),
  (247, .ifCond .eq 21, 3, .inl (268, 0)),
  (250, .lload 6, 2, .inl (0, 0)),
  (252, .lload 8, 2, .inl (0, 0)),
  (254, .lrem, 1, .inl (0, 0)),
  (255, .lstore 10, 2, .inl (0, 0)),
  (257, .lload 8, 2, .inl (0, 0)),
  (259, .lstore 6, 2, .inl (0, 0)),
  (261, .lload 10, 2, .inl (0, 0)),
  (263, .lstore 8, 2, .inl (0, 0)),
  (265, .goto (-22), 3, .inl (243, 0)),
  (268, .iload_n 1, 1, .inl (0, 0)),
  (269, .ifCond .ne 10, 3, .inl (279, 0)),
  (272, .lload_n 2, 1, .inl (0, 0)),
  (273, .lload 6, 2, .inl (0, 0)),
  (275, .ldiv, 1, .inl (0, 0)),
  (276, .goto 8, 3, .inl (284, 0)),
  (279, .lload 4, 2, .inl (0, 0)),
  (281, .lload 6, 2, .inl (0, 0)),
  (283, .ldiv, 1, .inl (0, 0)),
  (284, .lreturn, 1, .inl (0, 0))]
def mX11_chance : pm_M := (yX11_chance, cX11_chance, 13, (some .long), tX11_chance)
theorem okX11_chance : pm_ok mX11_chance = true := by decide +kernel
end
section
def tX11_canWater : List pm_E := [(0, .iconst 0, 1, .inr (.inl 0)),
  (1, .istore_n 2, 1, .inl (0, 0)),
  (2, .iconst 0, 1, .inr (.inl 0)),
  (3, .istore_n 3, 1, .inl (0, 0)),
  (4, .iload_n 3, 1, .inl (0, 0)),
  (5, .aload_n 0, 1, .inl (0, 0)),
  (6, .getfield 7, 3, .inl (6, 0)),
  (9, .if_icmp .ge 39, 3, .inl (48, 0)),
  (12, .iload_n 2, 1, .inl (0, 0)),
  (13, .ifCond .ne 23, 3, .inl (36, 0)),
  (16, .aload_n 0, 1, .inl (0, 0)),
  (17, .aload_n 0, 1, .inl (0, 0)),
  (18, .getfield 65, 3, .inl (6, 29)),
  (21, .iload_n 1, 1, .inl (0, 0)),
  (22, .iaload, 1, .inl (0, 0)),
  (23, .aload_n 0, 1, .inl (0, 0)),
  (24, .getfield 68, 3, .inl (6, 30)),
  (27, .iload_n 1, 1, .inl (0, 0)),
  (28, .iaload, 1, .inl (0, 0)),
  (29, .iload_n 3, 1, .inl (0, 0)),
  (30, .invokevirtual 161, 3, .inr (.inr (.inr yX11_whyNot))),
  (33, .ifCond .ne 7, 3, .inl (40, 0)),
  (36, .iconst 1, 1, .inr (.inl 1)),
  (37, .goto 4, 3, .inl (41, 0)),
  (40, .iconst 0, 1, .inr (.inl 0)),
  (41, .istore_n 2, 1, .inl (0, 0)),
  (42, .iinc 3 1, 3, .inr (.inl 1)),
  (45, .goto (-41), 3, .inl (4, 0)),
  (48, .iload_n 2, 1, .inl (0, 0)),
  (49, .ireturn, 1, .inl (0, 0))]
def mX11_canWater : pm_M := (yX11_canWater, cX11_canWater, 4, (some .boolean), tX11_canWater)
theorem okX11_canWater : pm_ok mX11_canWater = true := by decide +kernel
def tX11_wake : List pm_E := [(0, .iload_n 2, 1, .inl (0, 0)),
  (1, .ifCond .ge 12, 3, .inl (13, 0)),
  (4, .aload_n 0, 1, .inl (0, 0)),
  (5, .getfield 65, 3, .inl (6, 29)),
  (8, .iload_n 1, 1, .inl (0, 0)),
  (9, .iaload, 1, .inl (0, 0)),
  (10, .goto 13, 3, .inl (23, 0)),
  (13, .aload_n 0, 1, .inl (0, 0)),
  (14, .getfield 65, 3, .inl (6, 29)),
  (17, .iload_n 1, 1, .inl (0, 0)),
  (18, .iaload, 1, .inl (0, 0)),
  (19, .iload_n 2, 1, .inl (0, 0)),
  (20, .invokestatic 165, 3, .inr (.inr (.inr yX11_watered))),
  (23, .istore_n 3, 1, .inl (0, 0)),
  (24, .aload_n 0, 1, .inl (0, 0)),
  (25, .getfield 68, 3, .inl (6, 30)),
  (28, .iload_n 1, 1, .inl (0, 0)),
  (29, .iaload, 1, .inl (0, 0)),
  (30, .istore 4, 2, .inl (0, 0)),
  (32, .aload_n 0, 1, .inl (0, 0)),
  (33, .iload_n 3, 1, .inl (0, 0)),
  (34, .invokevirtual 158, 3, .inr (.inr (.inr yX11_nextOf))),
  (37, .istore 5, 2, .inl (0, 0)),
  (39, .aload_n 0, 1, .inl (0, 0)),
  (40, .getfield 65, 3, .inl (6, 29)),
  (43, .iload_n 1, 1, .inl (0, 0)),
  (44, .iconst 1, 1, .inr (.inl 1)),
  (45, .iadd, 1, .inl (0, 0)),
  (46, .iload 5, 2, .inl (0, 0)),
  (48, .ifCond .ge 7, 3, .inl (55, 0)),
  (51, .iload_n 3, 1, .inl (0, 0)),
  (52, .goto 9, 3, .inl (61, 0)),
  (55, .iload_n 3, 1, .inl (0, 0)),
  (56, .iload 5, 2, .inl (0, 0)),
  (58, .invokestatic 130, 3, .inr (.inr (.inr yX11_without))),
  (61, .iastore, 1, .inl (0, 0)),
  (62, .aload_n 0, 1, .inl (0, 0)),
  (63, .getfield 68, 3, .inl (6, 30)),
  (66, .iload_n 1, 1, .inl (0, 0)),
  (67, .iconst 1, 1, .inr (.inl 1)),
  (68, .iadd, 1, .inl (0, 0)),
  (69, .iload 5, 2, .inl (0, 0)),
  (71, .ifCond .ge 8, 3, .inl (79, 0)),
  (74, .iload 4, 2, .inl (0, 0)),
  (76, .goto 10, 3, .inl (86, 0)),
  (79, .iload 4, 2, .inl (0, 0)),
  (81, .iconst 1, 1, .inr (.inl 1)),
  (82, .iload 5, 2, .inl (0, 0)),
  (84, .ishl, 1, .inl (0, 0)),
  (85, .ior, 1, .inl (0, 0)),
  (86, .iastore, 1, .inl (0, 0)),
  (87, .aload_n 0, 1, .inl (0, 0)),
  (88, .getfield 71, 3, .inl (6, 31)),
  (91, .iload_n 1, 1, .inl (0, 0)),
  (92, .iconst 1, 1, .inr (.inl 1)),
  (93, .iadd, 1, .inl (0, 0)),
  (94, .iconst 0, 1, .inr (.inl 0)),
  (95, .iastore, 1, .inl (0, 0)),
  (96, .aload_n 0, 1, .inl (0, 0)),
  (97, .getfield 74, 3, .inl (6, 32)),
  (100, .iload_n 1, 1, .inl (0, 0)),
  (101, .iconst 1, 1, .inr (.inl 1)),
  (102, .iadd, 1, .inl (0, 0)),
  (103, .bipush (-6), 2, .inr (.inl (-6))),
  (105, .iastore, 1, .inl (0, 0)),
  (106, .return_, 1, .inl (0, 0))]
def mX11_wake : pm_M := (yX11_wake, cX11_wake, 6, none, tX11_wake)
theorem okX11_wake : pm_ok mX11_wake = true := by decide +kernel
def tX11_take : List pm_E := [(0, .aload_n 0, 1, .inl (0, 0)),
  (1, .getfield 74, 3, .inl (6, 32)),
  (4, .iload_n 1, 1, .inl (0, 0)),
  (5, .iaload, 1, .inl (0, 0)),
  (6, .ifCond .lt 32, 3, .inl (38, 0)),
  (9, .iload_n 1, 1, .inl (0, 0)),
  (10, .iconst 2, 1, .inr (.inl 2)),
  (11, .irem, 1, .inl (0, 0)),
  (12, .ifCond .ne 16, 3, .inl (28, 0)),
  (15, .iload_n 2, 1, .inl (0, 0)),
  (16, .aload_n 0, 1, .inl (0, 0)),
  (17, .getfield 74, 3, .inl (6, 32)),
  (20, .iload_n 1, 1, .inl (0, 0)),
  (21, .iaload, 1, .inl (0, 0)),
  (22, .if_icmp .ge 20, 3, .inl (42, 0)),
  (25, .goto 13, 3, .inl (38, 0)),
  (28, .iload_n 2, 1, .inl (0, 0)),
  (29, .aload_n 0, 1, .inl (0, 0)),
  (30, .getfield 74, 3, .inl (6, 32)),
  (33, .iload_n 1, 1, .inl (0, 0)),
  (34, .iaload, 1, .inl (0, 0)),
  (35, .if_icmp .le 7, 3, .inl (42, 0)),
  (38, .iconst 1, 1, .inr (.inl 1)),
  (39, .goto 4, 3, .inl (43, 0)),
  (42, .iconst 0, 1, .inr (.inl 0)),
  (43, .istore_n 3, 1, .inl (0, 0)),
  (44, .aload_n 0, 1, .inl (0, 0)),
  (45, .getfield 74, 3, .inl (6, 32)),
  (48, .iload_n 1, 1, .inl (0, 0)),
  (49, .iload_n 3, 1, .inl (0, 0)),
  (50, .ifCond .eq 7, 3, .inl (57, 0)),
  (53, .iload_n 2, 1, .inl (0, 0)),
  (54, .goto 9, 3, .inl (63, 0)),
  (57, .aload_n 0, 1, .inl (0, 0)),
  (58, .getfield 74, 3, .inl (6, 32)),
  (61, .iload_n 1, 1, .inl (0, 0)),
  (62, .iaload, 1, .inl (0, 0)),
  (63, .iastore, 1, .inl (0, 0)),
  (64, .return_, 1, .inl (0, 0))]
def mX11_take : pm_M := (yX11_take, cX11_take, 4, none, tX11_take)
theorem okX11_take : pm_ok mX11_take = true := by decide +kernel
def tX11_turns : List pm_E := [(0, .aload_n 0, 1, .inl (0, 0)),
  (1, .iload_n 1, 1, .inl (0, 0)),
  (2, .invokevirtual 102, 3, .inr (.inr (.inr yX11_isBed))),
  (5, .ifCond .ne 5, 3, .inl (10, 0)),
  (8, .iconst (-1), 1, .inr (.inl (-1))),
  (9, .ireturn, 1, .inl (0, 0)),
  (10, .aload_n 0, 1, .inl (0, 0)),
  (11, .getfield 89, 3, .inl (6, 9)),
  (14, .iload_n 1, 1, .inl (0, 0)),
  (15, .invokestatic 112, 3, .inr (.inr (.inr yX11_has))),
  (18, .ifCond .eq 6, 3, .inl (24, 0)),
  (21, .bipush (-6), 2, .inr (.inl (-6))),
  (23, .ireturn, 1, .inl (0, 0)),
  (24, .aload_n 0, 1, .inl (0, 0)),
  (25, .getfield 65, 3, .inl (6, 29)),
  (28, .iconst 0, 1, .inr (.inl 0)),
  (29, .aload_n 0, 1, .inl (0, 0)),
  (30, .getfield 86, 3, .inl (6, 8)),
  (33, .iastore, 1, .inl (0, 0)),
  (34, .aload_n 0, 1, .inl (0, 0)),
  (35, .getfield 68, 3, .inl (6, 30)),
  (38, .iconst 0, 1, .inr (.inl 0)),
  (39, .aload_n 0, 1, .inl (0, 0)),
  (40, .getfield 89, 3, .inl (6, 9)),
  (43, .iastore, 1, .inl (0, 0)),
  (44, .aload_n 0, 1, .inl (0, 0)),
  (45, .getfield 71, 3, .inl (6, 31)),
  (48, .iconst 0, 1, .inr (.inl 0)),
  (49, .iconst 0, 1, .inr (.inl 0)),
  (50, .iastore, 1, .inl (0, 0)),
  (51, .aload_n 0, 1, .inl (0, 0)),
  (52, .getfield 74, 3, .inl (6, 32)),
  (55, .iconst 0, 1, .inr (.inl 0)),
  (56, .bipush (-6), 2, .inr (.inl (-6))),
  (58, .iastore, 1, .inl (0, 0)),
  (59, .iconst 0, 1, .inr (.inl 0)),
  (60, .istore_n 2, 1, .inl (0, 0)),
  (61, .iload_n 2, 1, .inl (0, 0)),
  (62, .ifCond .lt 153, 3, .inl (215, 0)),
  (65, .iload_n 2, 1, .inl (0, 0)),
  (66, .ifCond .le 30, 3, .inl (96, 0)),
  (69, .aload_n 0, 1, .inl (0, 0)),
  (70, .getfield 68, 3, .inl (6, 30)),
  (73, .iload_n 2, 1, .inl (0, 0)),
  (74, .iaload, 1, .inl (0, 0)),
  (75, .iload_n 1, 1, .inl (0, 0)),
  (76, .invokestatic 112, 3, .inr (.inr (.inr yX11_has))),
  (79, .ifCond .eq 17, 3, .inl (96, 0)),
  (82, .aload_n 0, 1, .inl (0, 0)),
  (83, .iload_n 2, 1, .inl (0, 0)),
  (84, .iconst 1, 1, .inr (.inl 1)),
  (85, .isub, 1, .inl (0, 0)),
  (86, .iload_n 2, 1, .inl (0, 0)),
  (87, .invokevirtual 238, 3, .inr (.inr (.inr yX11_take))),
  (90, .iinc 2 (-1), 3, .inr (.inl (-1))),
  (93, .goto (-32), 3, .inl (61, 0)),
  (96, .aload_n 0, 1, .inl (0, 0)),
  (97, .getfield 71, 3, .inl (6, 31)),
  (100, .iload_n 2, 1, .inl (0, 0)),
  (101, .iaload, 1, .inl (0, 0)),
  (102, .aload_n 0, 1, .inl (0, 0)),
  (103, .getfield 7, 3, .inl (6, 0)),
  (106, .if_icmp .le 26, 3, .inl (132, 0)),
  (109, .iload_n 2, 1, .inl (0, 0)),
  (110, .ifCond .le 16, 3, .inl (126, 0)),
  (113, .aload_n 0, 1, .inl (0, 0)),
  (114, .iload_n 2, 1, .inl (0, 0)),
  (115, .iconst 1, 1, .inr (.inl 1)),
  (116, .isub, 1, .inl (0, 0)),
  (117, .aload_n 0, 1, .inl (0, 0)),
  (118, .getfield 74, 3, .inl (6, 32)),
  (121, .iload_n 2, 1, .inl (0, 0)),
  (122, .iaload, 1, .inl (0, 0)),
  (123, .invokevirtual 238, 3, .inr (.inr (.inr yX11_take))),
  (126, .iinc 2 (-1), 3, .inr (.inl (-1))),
  (129, .goto (-68), 3, .inl (61, 0)),
  (132, .aload_n 0, 1, .inl (0, 0)),
  (133, .getfield 71, 3, .inl (6, 31)),
  (136, .iload_n 2, 1, .inl (0, 0)),
  (137, .iaload, 1, .inl (0, 0)),
  (138, .iconst 1, 1, .inr (.inl 1)),
  (139, .isub, 1, .inl (0, 0)),
  (140, .istore_n 3, 1, .inl (0, 0)),
  (141, .aload_n 0, 1, .inl (0, 0)),
  (142, .getfield 71, 3, .inl (6, 31)),
  (145, .iload_n 2, 1, .inl (0, 0)),
  (146, .dup2, 1, .inl (0, 0)),
  (147, .iaload, 1, .inl (0, 0)),
  (148, .iconst 1, 1, .inr (.inl 1)),
  (149, .iadd, 1, .inl (0, 0)),
  (150, .iastore, 1, .inl (0, 0)),
  (151, .iload_n 3, 1, .inl (0, 0)),
  (152, .ifCond .ge 19, 3, .inl (171, 0)),
  (155, .aload_n 0, 1, .inl (0, 0)),
  (156, .iload_n 2, 1, .inl (0, 0)),
  (157, .invokevirtual 242, 3, .inr (.inr (.inr yX11_canWater))),
  (160, .ifCond .ne 7, 3, .inl (167, 0)),
  (163, .iconst 1, 1, .inr (.inl 1)),
  (164, .goto 32, 3, .inl (196, 0)),
  (167, .iconst 0, 1, .inr (.inl 0)),
  (168, .goto 28, 3, .inl (196, 0)),
  (171, .aload_n 0, 1, .inl (0, 0)),
  (172, .aload_n 0, 1, .inl (0, 0)),
  (173, .getfield 65, 3, .inl (6, 29)),
  (176, .iload_n 2, 1, .inl (0, 0)),
  (177, .iaload, 1, .inl (0, 0)),
  (178, .aload_n 0, 1, .inl (0, 0)),
  (179, .getfield 68, 3, .inl (6, 30)),
  (182, .iload_n 2, 1, .inl (0, 0)),
  (183, .iaload, 1, .inl (0, 0)),
  (184, .iload_n 3, 1, .inl (0, 0)),
  (185, .invokevirtual 161, 3, .inr (.inr (.inr yX11_whyNot))),
  (188, .ifCond .ne 7, 3, .inl (195, 0)),
  (191, .iconst 1, 1, .inr (.inl 1)),
  (192, .goto 4, 3, .inl (196, 0)),
  (195, .iconst 0, 1, .inr (.inl 0)),
  (196, .istore 4, 2, .inl (0, 0)),
  (198, .iload 4, 2, .inl (0, 0)),
  (200, .ifCond .eq 12, 3, .inl (212, 0)),
  (203, .aload_n 0, 1, .inl (0, 0)),
  (204, .iload_n 2, 1, .inl (0, 0)),
  (205, .iload_n 3, 1, .inl (0, 0)),
  (206, .invokevirtual 245, 3, .inr (.inr (.inr yX11_wake))),
  (209, .iinc 2 1, 3, .inr (.inl 1)),
  (212, .goto (-151), 3, .inl (61, 0)),
  (215, .aload_n 0, 1, .inl (0, 0)),
  (216, .getfield 74, 3, .inl (6, 32)),
  (219, .iconst 0, 1, .inr (.inl 0)),
  (220, .iaload, 1, .inl (0, 0)),
  (221, .ireturn, 1, .inl (0, 0))]
def mX11_turns : pm_M := (yX11_turns, cX11_turns, 5, (some .int), tX11_turns)
theorem okX11_turns : pm_ok mX11_turns = true := by decide +kernel
def tX11_image : List pm_E := [(0, .iload_n 1, 1, .inl (0, 0)),
  (1, .iconst 0, 1, .inr (.inl 0)),
  (2, .iconst 1, 1, .inr (.inl 1)),
  (3, .invokestatic 98, 3, .inr (.inr (.inr yX11_in))),
  (6, .ifCond .ne 6, 3, .inl (12, 0)),
  (9, .bipush (-2), 2, .inr (.inl (-2))),
  (11, .ireturn, 1, .inl (0, 0)),
  (12, .bipush 42, 2, .inr (.inl 42)),
  (14, .iload_n 1, 1, .inl (0, 0)),
  (15, .imul, 1, .inl (0, 0)),
  (16, .istore_n 2, 1, .inl (0, 0)),
  (17, .iconst 0, 1, .inr (.inl 0)),
  (18, .istore_n 3, 1, .inl (0, 0)),
  (19, .iload_n 3, 1, .inl (0, 0)),
  (20, .bipush 6, 2, .inr (.inl 6)),
  (22, .if_icmp .ge 57, 3, .inl (79, 0)),
  (25, .aload_n 0, 1, .inl (0, 0)),
  (26, .getfield 77, 3, .inl (6, 33)),
  (29, .iload_n 2, 1, .inl (0, 0)),
  (30, .iload_n 3, 1, .inl (0, 0)),
  (31, .iadd, 1, .inl (0, 0)),
  (32, .aload_n 0, 1, .inl (0, 0)),
  (33, .getfield 13, 3, .inl (6, 1)),
  (36, .iload_n 3, 1, .inl (0, 0)),
  (37, .iaload, 1, .inl (0, 0)),
  (38, .iastore, 1, .inl (0, 0)),
  (39, .aload_n 0, 1, .inl (0, 0)),
  (40, .getfield 77, 3, .inl (6, 33)),
  (43, .iload_n 2, 1, .inl (0, 0)),
  (44, .bipush 6, 2, .inr (.inl 6)),
  (46, .iadd, 1, .inl (0, 0)),
  (47, .iload_n 3, 1, .inl (0, 0)),
  (48, .iadd, 1, .inl (0, 0)),
  (49, .aload_n 0, 1, .inl (0, 0)),
  (50, .getfield 17, 3, .inl (6, 2)),
  (53, .iload_n 3, 1, .inl (0, 0)),
  (54, .iaload, 1, .inl (0, 0)),
  (55, .iastore, 1, .inl (0, 0)),
  (56, .aload_n 0, 1, .inl (0, 0)),
  (57, .getfield 77, 3, .inl (6, 33)),
  (60, .iload_n 2, 1, .inl (0, 0)),
  (61, .bipush 12, 2, .inr (.inl 12)),
  (63, .iadd, 1, .inl (0, 0)),
  (64, .iload_n 3, 1, .inl (0, 0)),
  (65, .iadd, 1, .inl (0, 0)),
  (66, .aload_n 0, 1, .inl (0, 0)),
  (67, .getfield 29, 3, .inl (6, 10)),
  (70, .iload_n 3, 1, .inl (0, 0)),
  (71, .iaload, 1, .inl (0, 0)),
  (72, .iastore, 1, .inl (0, 0)),
  (73, .iinc 3 1, 3, .inr (.inl 1)),
  (76, .goto (-57), 3, .inl (19, 0)),
  (79, .iconst 0, 1, .inr (.inl 0)),
  (80, .istore_n 3, 1, .inl (0, 0)),
  (81, .iload_n 3, 1, .inl (0, 0)),
  (82, .bipush 12, 2, .inr (.inl 12)),
  (84, .if_icmp .ge 26, 3, .inl (110, 0)),
  (87, .aload_n 0, 1, .inl (0, 0)),
  (88, .getfield 77, 3, .inl (6, 33)),
  (91, .iload_n 2, 1, .inl (0, 0)),
  (92, .bipush 18, 2, .inr (.inl 18)),
  (94, .iadd, 1, .inl (0, 0)),
  (95, .iload_n 3, 1, .inl (0, 0)),
  (96, .iadd, 1, .inl (0, 0)),
  (97, .aload_n 0, 1, .inl (0, 0)),
  (98, .getfield 32, 3, .inl (6, 13)),
  (101, .iload_n 3, 1, .inl (0, 0)),
  (102, .iaload, 1, .inl (0, 0)),
  (103, .iastore, 1, .inl (0, 0)),
  (104, .iinc 3 1, 3, .inr (.inl 1)),
  (107, .goto (-26), 3, .inl (81, 0)),
  (110, .aload_n 0, 1, .inl (0, 0)),
  (111, .getfield 77, 3, .inl (6, 33)),
  (114, .iload_n 2, 1, .inl (0, 0)),
  (115, .bipush 30, 2, .inr (.inl 30)),
  (117, .iadd, 1, .inl (0, 0)),
  (118, .aload_n 0, 1, .inl (0, 0)),
  (119, .getfield 7, 3, .inl (6, 0)),
  (122, .iastore, 1, .inl (0, 0)),
  (123, .aload_n 0, 1, .inl (0, 0)),
  (124, .getfield 77, 3, .inl (6, 33)),
  (127, .iload_n 2, 1, .inl (0, 0)),
  (128, .bipush 31, 2, .inr (.inl 31)),
  (130, .iadd, 1, .inl (0, 0)),
  (131, .aload_n 0, 1, .inl (0, 0)),
  (132, .getfield 106, 3, .inl (6, 3)),
  (135, .iastore, 1, .inl (0, 0)),
  (136, .aload_n 0, 1, .inl (0, 0)),
  (137, .getfield 77, 3, .inl (6, 33)),
  (140, .iload_n 2, 1, .inl (0, 0)),
  (141, .bipush 32, 2, .inr (.inl 32)),
  (143, .iadd, 1, .inl (0, 0)),
  (144, .aload_n 0, 1, .inl (0, 0)),
  (145, .getfield 20, 3, .inl (6, 4)),
  (148, .iastore, 1, .inl (0, 0)),
  (149, .aload_n 0, 1, .inl (0, 0)),
  (150, .getfield 77, 3, .inl (6, 33)),
  (153, .iload_n 2, 1, .inl (0, 0)),
  (154, .bipush 33, 2, .inr (.inl 33)),
  (156, .iadd, 1, .inl (0, 0)),
  (157, .aload_n 0, 1, .inl (0, 0)),
  (158, .getfield 23, 3, .inl (6, 5)),
  (161, .iastore, 1, .inl (0, 0)),
  (162, .aload_n 0, 1, .inl (0, 0)),
  (163, .getfield 77, 3, .inl (6, 33)),
  (166, .iload_n 2, 1, .inl (0, 0)),
  (167, .bipush 34, 2, .inr (.inl 34)),
  (169, .iadd, 1, .inl (0, 0)),
  (170, .aload_n 0, 1, .inl (0, 0)),
  (171, .getfield 86, 3, .inl (6, 8)),
  (174, .iastore, 1, .inl (0, 0)),
  (175, .aload_n 0, 1, .inl (0, 0)),
  (176, .getfield 77, 3, .inl (6, 33)),
  (179, .iload_n 2, 1, .inl (0, 0)),
  (180, .bipush 35, 2, .inr (.inl 35)),
  (182, .iadd, 1, .inl (0, 0)),
  (183, .aload_n 0, 1, .inl (0, 0)),
  (184, .getfield 89, 3, .inl (6, 9)),
  (187, .iastore, 1, .inl (0, 0)),
  (188, .aload_n 0, 1, .inl (0, 0)),
  (189, .getfield 77, 3, .inl (6, 33)),
  (192, .iload_n 2, 1, .inl (0, 0)),
  (193, .bipush 36, 2, .inr (.inl 36)),
  (195, .iadd, 1, .inl (0, 0)),
  (196, .aload_n 0, 1, .inl (0, 0)),
  (197, .getfield 92, 3, .inl (6, 11)),
  (200, .iastore, 1, .inl (0, 0)),
  (201, .aload_n 0, 1, .inl (0, 0)),
  (202, .getfield 77, 3, .inl (6, 33)),
  (205, .iload_n 2, 1, .inl (0, 0)),
  (206, .bipush 37, 2, .inr (.inl 37)),
  (208, .iadd, 1, .inl (0, 0)),
  (209, .aload_n 0, 1, .inl (0, 0)),
  (210, .getfield 95, 3, .inl (6, 12)),
  (213, .iastore, 1, .inl (0, 0)),
  (214, .aload_n 0, 1, .inl (0, 0)),
  (215, .getfield 80, 3, .inl (6, 34)),
  (218, .iload_n 1, 1, .inl (0, 0)),
  (219, .iconst 1, 1, .inr (.inl 1)),
  (220, .bastore, 1, .inl (0, 0)),
  (221, .iconst 1, 1, .inr (.inl 1)),
  (222, .ireturn, 1, .inl (0, 0))]
def mX11_image : pm_M := (yX11_image, cX11_image, 4, (some .int), tX11_image)
theorem okX11_image : pm_ok mX11_image = true := by decide +kernel
def tX11_restore : List pm_E := [(0, .iload_n 1, 1, .inl (0, 0)),
  (1, .iconst 0, 1, .inr (.inl 0)),
  (2, .iconst 1, 1, .inr (.inl 1)),
  (3, .invokestatic 98, 3, .inr (.inr (.inr yX11_in))),
  (6, .ifCond .ne 6, 3, .inl (12, 0)),
  (9, .bipush (-2), 2, .inr (.inl (-2))),
  (11, .ireturn, 1, .inl (0, 0)),
  (12, .aload_n 0, 1, .inl (0, 0)),
  (13, .getfield 80, 3, .inl (6, 34)),
  (16, .iload_n 1, 1, .inl (0, 0)),
  (17, .baload, 1, .inl (0, 0)),
  (18, .ifCond .ne 6, 3, .inl (24, 0)),
  (21, .bipush (-3), 2, .inr (.inl (-3))),
  (23, .ireturn, 1, .inl (0, 0)),
  (24, .bipush 42, 2, .inr (.inl 42)),
  (26, .iload_n 1, 1, .inl (0, 0)),
  (27, .imul, 1, .inl (0, 0)),
  (28, .istore_n 2, 1, .inl (0, 0)),
  (29, .iconst 0, 1, .inr (.inl 0)),
  (30, .istore_n 3, 1, .inl (0, 0)),
  (31, .iload_n 3, 1, .inl (0, 0)),
  (32, .bipush 6, 2, .inr (.inl 6)),
  (34, .if_icmp .ge 57, 3, .inl (91, 0)),
  (37, .aload_n 0, 1, .inl (0, 0)),
  (38, .getfield 13, 3, .inl (6, 1)),
  (41, .iload_n 3, 1, .inl (0, 0)),
  (42, .aload_n 0, 1, .inl (0, 0)),
  (43, .getfield 77, 3, .inl (6, 33)),
  (46, .iload_n 2, 1, .inl (0, 0)),
  (47, .iload_n 3, 1, .inl (0, 0)),
  (48, .iadd, 1, .inl (0, 0)),
  (49, .iaload, 1, .inl (0, 0)),
  (50, .iastore, 1, .inl (0, 0)),
  (51, .aload_n 0, 1, .inl (0, 0)),
  (52, .getfield 17, 3, .inl (6, 2)),
  (55, .iload_n 3, 1, .inl (0, 0)),
  (56, .aload_n 0, 1, .inl (0, 0)),
  (57, .getfield 77, 3, .inl (6, 33)),
  (60, .iload_n 2, 1, .inl (0, 0)),
  (61, .bipush 6, 2, .inr (.inl 6)),
  (63, .iadd, 1, .inl (0, 0)),
  (64, .iload_n 3, 1, .inl (0, 0)),
  (65, .iadd, 1, .inl (0, 0)),
  (66, .iaload, 1, .inl (0, 0)),
  (67, .iastore, 1, .inl (0, 0)),
  (68, .aload_n 0, 1, .inl (0, 0)),
  (69, .getfield 29, 3, .inl (6, 10)),
  (72, .iload_n 3, 1, .inl (0, 0)),
  (73, .aload_n 0, 1, .inl (0, 0)),
  (74, .getfield 77, 3, .inl (6, 33)),
  (77, .iload_n 2, 1, .inl (0, 0)),
  (78, .bipush 12, 2, .inr (.inl 12)),
  (80, .iadd, 1, .inl (0, 0)),
  (81, .iload_n 3, 1, .inl (0, 0)),
  (82, .iadd, 1, .inl (0, 0)),
  (83, .iaload, 1, .inl (0, 0)),
  (84, .iastore, 1, .inl (0, 0)),
  (85, .iinc 3 1, 3, .inr (.inl 1)),
  (88, .goto (-57), 3, .inl (31, 0)),
  (91, .iconst 0, 1, .inr (.inl 0)),
  (92, .istore_n 3, 1, .inl (0, 0)),
  (93, .iload_n 3, 1, .inl (0, 0)),
  (94, .bipush 12, 2, .inr (.inl 12)),
  (96, .if_icmp .ge 26, 3, .inl (122, 0)),
  (99, .aload_n 0, 1, .inl (0, 0)),
  (100, .getfield 32, 3, .inl (6, 13)),
  (103, .iload_n 3, 1, .inl (0, 0)),
  (104, .aload_n 0, 1, .inl (0, 0)),
  (105, .getfield 77, 3, .inl (6, 33)),
  (108, .iload_n 2, 1, .inl (0, 0)),
  (109, .bipush 18, 2, .inr (.inl 18)),
  (111, .iadd, 1, .inl (0, 0)),
  (112, .iload_n 3, 1, .inl (0, 0)),
  (113, .iadd, 1, .inl (0, 0)),
  (114, .iaload, 1, .inl (0, 0)),
  (115, .iastore, 1, .inl (0, 0)),
  (116, .iinc 3 1, 3, .inr (.inl 1)),
  (119, .goto (-26), 3, .inl (93, 0)),
  (122, .aload_n 0, 1, .inl (0, 0)),
  (123, .aload_n 0, 1, .inl (0, 0)),
  (124, .getfield 77, 3, .inl (6, 33)),
  (127, .iload_n 2, 1, .inl (0, 0)),
  (128, .bipush 30, 2, .inr (.inl 30)),
  (130, .iadd, 1, .inl (0, 0)),
  (131, .iaload, 1, .inl (0, 0)),
  (132, .putfield 7, 3, .inl (6, 0)),
  (135, .aload_n 0, 1, .inl (0, 0)),
  (136, .aload_n 0, 1, .inl (0, 0)),
  (137, .getfield 77, 3, .inl (6, 33)),
  (140, .iload_n 2, 1, .inl (0, 0)),
  (141, .bipush 31, 2, .inr (.inl 31)),
  (143, .iadd, 1, .inl (0, 0)),
  (144, .iaload, 1, .inl (0, 0)),
  (145, .putfield 106, 3, .inl (6, 3)),
  (148, .aload_n 0, 1, .inl (0, 0)),
  (149, .aload_n 0, 1, .inl (0, 0)),
  (150, .getfield 77, 3, .inl (6, 33)),
  (153, .iload_n 2, 1, .inl (0, 0)),
  (154, .bipush 32, 2, .inr (.inl 32)),
  (156, .iadd, 1, .inl (0, 0)),
  (157, .iaload, 1, .inl (0, 0)),
  (158, .putfield 20, 3, .inl (6, 4)),
  (161, .aload_n 0, 1, .inl (0, 0)),
  (162, .aload_n 0, 1, .inl (0, 0)),
  (163, .getfield 77, 3, .inl (6, 33)),
  (166, .iload_n 2, 1, .inl (0, 0)),
  (167, .bipush 33, 2, .inr (.inl 33)),
  (169, .iadd, 1, .inl (0, 0)),
  (170, .iaload, 1, .inl (0, 0)),
  (171, .putfield 23, 3, .inl (6, 5)),
  (174, .aload_n 0, 1, .inl (0, 0)),
  (175, .aload_n 0, 1, .inl (0, 0)),
  (176, .getfield 77, 3, .inl (6, 33)),
  (179, .iload_n 2, 1, .inl (0, 0)),
  (180, .bipush 34, 2, .inr (.inl 34)),
  (182, .iadd, 1, .inl (0, 0)),
  (183, .iaload, 1, .inl (0, 0)),
  (184, .putfield 86, 3, .inl (6, 8)),
  (187, .aload_n 0, 1, .inl (0, 0)),
  (188, .aload_n 0, 1, .inl (0, 0)),
  (189, .getfield 77, 3, .inl (6, 33)),
  (192, .iload_n 2, 1, .inl (0, 0)),
  (193, .bipush 35, 2, .inr (.inl 35)),
  (195, .iadd, 1, .inl (0, 0)),
  (196, .iaload, 1, .inl (0, 0)),
  (197, .putfield 89, 3, .inl (6, 9)),
  (200, .aload_n 0, 1, .inl (0, 0)),
  (201, .aload_n 0, 1, .inl (0, 0)),
  (202, .getfield 77, 3, .inl (6, 33)),
  (205, .iload_n 2, 1, .inl (0, 0)),
  (206, .bipush 36, 2, .inr (.inl 36)),
  (208, .iadd, 1, .inl (0, 0)),
  (209, .iaload, 1, .inl (0, 0)),
  (210, .putfield 92, 3, .inl (6, 11)),
  (213, .aload_n 0, 1, .inl (0, 0)),
  (214, .aload_n 0, 1, .inl (0, 0)),
  (215, .getfield 77, 3, .inl (6, 33)),
  (218, .iload_n 2, 1, .inl (0, 0)),
  (219, .bipush 37, 2, .inr (.inl 37)),
  (221, .iadd, 1, .inl (0, 0)),
  (222, .iaload, 1, .inl (0, 0)),
  (223, .putfield 95, 3, .inl (6, 12)),
  (226, .iconst 1, 1, .inr (.inl 1)),
  (227, .ireturn, 1, .inl (0, 0))]
def mX11_restore : pm_M := (yX11_restore, cX11_restore, 4, (some .int), tX11_restore)
theorem okX11_restore : pm_ok mX11_restore = true := by decide +kernel
def tX11_told : List pm_E := [(0, .iload_n 1, 1, .inl (0, 0)),
  (1, .bipush 10, 2, .inr (.inl 10)),
  (3, .irem, 1, .inl (0, 0)),
  (4, .istore_n 2, 1, .inl (0, 0)),
  (5, .iload_n 1, 1, .inl (0, 0)),
  (6, .bipush 10, 2, .inr (.inl 10)),
  (8, .bipush 25, 2, .inr (.inl 25)),
  (10, .invokestatic 98, 3, .inr (.inr (.inr yX11_in))),
  (13, .ifCond .eq 33, 3, .inl (46, 0)),
  (16, .aload_n 0, 1, .inl (0, 0)),
  (17, .iload_n 2, 1, .inl (0, 0)),
  (18, .invokevirtual 102, 3, .inr (.inr (.inr yX11_isBed))),
  (21, .ifCond .eq 25, 3, .inl (46, 0)),
  (24, .iload_n 1, 1, .inl (0, 0)),
  (25, .bipush 20, 2, .inr (.inl 20)),
  (27, .if_icmp .ge 12, 3, .inl (39, 0)),
  (30, .aload_n 0, 1, .inl (0, 0)),
  (31, .getfield 13, 3, .inl (6, 1)),
  (34, .iload_n 2, 1, .inl (0, 0)),
  (35, .iaload, 1, .inl (0, 0)),
  (36, .goto 9, 3, .inl (45, 0)),
  (39, .aload_n 0, 1, .inl (0, 0)),
  (40, .getfield 17, 3, .inl (6, 2)),
  (43, .iload_n 2, 1, .inl (0, 0)),
  (44, .iaload, 1, .inl (0, 0)),
  (45, .ireturn, 1, .inl (0, 0)),
  (46, .iload_n 1, 1, .inl (0, 0)),
  (47, .tableswitch 58 0 4 #[33, 38, 43, 48, 53], 33, .inl (0, 0)),
  (80, .aload_n 0, 1, .inl (0, 0)),
  (81, .getfield 109, 3, .inl (6, 6)),
  (84, .ireturn, 1, .inl (0, 0)),
  (85, .aload_n 0, 1, .inl (0, 0)),
  (86, .getfield 7, 3, .inl (6, 0)),
  (89, .ireturn, 1, .inl (0, 0)),
  (90, .aload_n 0, 1, .inl (0, 0)),
  (91, .getfield 106, 3, .inl (6, 3)),
  (94, .ireturn, 1, .inl (0, 0)),
  (95, .aload_n 0, 1, .inl (0, 0)),
  (96, .getfield 20, 3, .inl (6, 4)),
  (99, .ireturn, 1, .inl (0, 0)),
  (100, .aload_n 0, 1, .inl (0, 0)),
  (101, .getfield 23, 3, .inl (6, 5)),
  (104, .ireturn, 1, .inl (0, 0)),
  (105, .iload_n 1, 1, .inl (0, 0)),
  (106, .iconst 5, 1, .inr (.inl 5)),
  (107, .if_icmp .ne 10, 3, .inl (117, 0)),
  (110, .aload_n 0, 1, .inl (0, 0)),
  (111, .getfield 95, 3, .inl (6, 12)),
  (114, .goto 5, 3, .inl (119, 0)),
  (117, .bipush (-2), 2, .inr (.inl (-2))),
  (119, .ireturn, 1, .inl (0, 0))]
def mX11_told : pm_M := (yX11_told, cX11_told, 3, (some .int), tX11_told)
theorem okX11_told : pm_ok mX11_told = true := by decide +kernel
def tJ6_bitCount_0f7a4 : List pm_E := [(0, .iload_n 0, 1, .inl (0, 0)),
  (1, .iload_n 0, 1, .inl (0, 0)),
  (2, .iconst 1, 1, .inr (.inl 1)),
  (3, .iushr, 1, .inl (0, 0)),
  (4, .ldc_w 265, 3, .inr (.inl 1431655765)),
  (7, .iand, 1, .inl (0, 0)),
  (8, .isub, 1, .inl (0, 0)),
  (9, .istore_n 0, 1, .inl (0, 0)),
  (10, .iload_n 0, 1, .inl (0, 0)),
  (11, .ldc_w 266, 3, .inr (.inl 858993459)),
  (14, .iand, 1, .inl (0, 0)),
  (15, .iload_n 0, 1, .inl (0, 0)),
  (16, .iconst 2, 1, .inr (.inl 2)),
  (17, .iushr, 1, .inl (0, 0)),
  (18, .ldc_w 266, 3, .inr (.inl 858993459)),
  (21, .iand, 1, .inl (0, 0)),
  (22, .iadd, 1, .inl (0, 0)),
  (23, .istore_n 0, 1, .inl (0, 0)),
  (24, .iload_n 0, 1, .inl (0, 0)),
  (25, .iload_n 0, 1, .inl (0, 0)),
  (26, .iconst 4, 1, .inr (.inl 4)),
  (27, .iushr, 1, .inl (0, 0)),
  (28, .iadd, 1, .inl (0, 0)),
  (29, .ldc_w 267, 3, .inr (.inl 252645135)),
  (32, .iand, 1, .inl (0, 0)),
  (33, .istore_n 0, 1, .inl (0, 0)),
  (34, .iload_n 0, 1, .inl (0, 0)),
  (35, .iload_n 0, 1, .inl (0, 0)),
  (36, .bipush 8, 2, .inr (.inl 8)),
  (38, .iushr, 1, .inl (0, 0)),
  (39, .iadd, 1, .inl (0, 0)),
  (40, .istore_n 0, 1, .inl (0, 0)),
  (41, .iload_n 0, 1, .inl (0, 0)),
  (42, .iload_n 0, 1, .inl (0, 0)),
  (43, .bipush 16, 2, .inr (.inl 16)),
  (45, .iushr, 1, .inl (0, 0)),
  (46, .iadd, 1, .inl (0, 0)),
  (47, .istore_n 0, 1, .inl (0, 0)),
  (48, .iload_n 0, 1, .inl (0, 0)),
  (49, .bipush 63, 2, .inr (.inl 63)),
  (51, .iand, 1, .inl (0, 0)),
  (52, .ireturn, 1, .inl (0, 0))]
def mJ6_bitCount_0f7a4 : pm_M := (yJ6_bitCount_0f7a4, cJ6_bitCount_0f7a4, 1, (some .int), tJ6_bitCount_0f7a4)
theorem okJ6_bitCount_0f7a4 : pm_ok mJ6_bitCount_0f7a4 = true := by decide +kernel
def tJ7_fill_d0a16 : List pm_E := [(0, .iconst 0, 1, .inr (.inl 0)),
  (1, .istore_n 3, 1, .inl (0, 0)),
  (2, .aload_n 0, 1, .inl (0, 0)),
  (3, .arraylength, 1, .inl (0, 0)),
  (4, .istore 4, 2, .inl (0, 0)),
  (6, .iload_n 3, 1, .inl (0, 0)),
  (7, .iload 4, 2, .inl (0, 0)),
  (9, .if_icmp .ge 13, 3, .inl (22, 0)),
  (12, .aload_n 0, 1, .inl (0, 0)),
  (13, .iload_n 3, 1, .inl (0, 0)),
  (14, .lload_n 1, 1, .inl (0, 0)),
  (15, .lastore, 1, .inl (0, 0)),
  (16, .iinc 3 1, 3, .inr (.inl 1)),
  (19, .goto (-13), 3, .inl (6, 0)),
  (22, .return_, 1, .inl (0, 0))]
def mJ7_fill_d0a16 : pm_M := (yJ7_fill_d0a16, cJ7_fill_d0a16, 5, none, tJ7_fill_d0a16)
theorem okJ7_fill_d0a16 : pm_ok mJ7_fill_d0a16 = true := by decide +kernel
def tJ7_fill_53178 : List pm_E := [(0, .iconst 0, 1, .inr (.inl 0)),
  (1, .istore_n 2, 1, .inl (0, 0)),
  (2, .aload_n 0, 1, .inl (0, 0)),
  (3, .arraylength, 1, .inl (0, 0)),
  (4, .istore_n 3, 1, .inl (0, 0)),
  (5, .iload_n 2, 1, .inl (0, 0)),
  (6, .iload_n 3, 1, .inl (0, 0)),
  (7, .if_icmp .ge 13, 3, .inl (20, 0)),
  (10, .aload_n 0, 1, .inl (0, 0)),
  (11, .iload_n 2, 1, .inl (0, 0)),
  (12, .iload_n 1, 1, .inl (0, 0)),
  (13, .iastore, 1, .inl (0, 0)),
  (14, .iinc 2 1, 3, .inr (.inl 1)),
  (17, .goto (-12), 3, .inl (5, 0)),
  (20, .return_, 1, .inl (0, 0))]
def mJ7_fill_53178 : pm_M := (yJ7_fill_53178, cJ7_fill_53178, 4, none, tJ7_fill_53178)
theorem okJ7_fill_53178 : pm_ok mJ7_fill_53178 = true := by decide +kernel
end
section
/-! how many parameters each method takes -/
theorem arX0_ofWish : (parseMethodDescriptor mX0_ofWish.1.desc).map (fun d => d.parameters.length) = some 2 := by decide +kernel
theorem arX0_tenths : (parseMethodDescriptor mX0_tenths.1.desc).map (fun d => d.parameters.length) = some 4 := by decide +kernel
theorem arX0_afterWeather : (parseMethodDescriptor mX0_afterWeather.1.desc).map (fun d => d.parameters.length) = some 4 := by decide +kernel
theorem arX0_allTenths : (parseMethodDescriptor mX0_allTenths.1.desc).map (fun d => d.parameters.length) = some 1 := by decide +kernel
theorem arX0_reduced : (parseMethodDescriptor mX0_reduced.1.desc).map (fun d => d.parameters.length) = some 2 := by decide +kernel
theorem arX0_commonDivisor : (parseMethodDescriptor mX0_commonDivisor.1.desc).map (fun d => d.parameters.length) = some 2 := by decide +kernel
theorem arX1_init : (parseMethodDescriptor mX1_init.1.desc).map (fun d => d.parameters.length) = some 0 := by decide +kernel
theorem arX1_search : (parseMethodDescriptor mX1_search.1.desc).map (fun d => d.parameters.length) = some 2 := by decide +kernel
theorem arX1_firstAt : (parseMethodDescriptor mX1_firstAt.1.desc).map (fun d => d.parameters.length) = some 1 := by decide +kernel
theorem arX1_goOn : (parseMethodDescriptor mX1_goOn.1.desc).map (fun d => d.parameters.length) = some 6 := by decide +kernel
theorem arX1_tryBeds : (parseMethodDescriptor mX1_tryBeds.1.desc).map (fun d => d.parameters.length) = some 6 := by decide +kernel
theorem arX1_keepWay : (parseMethodDescriptor mX1_keepWay.1.desc).map (fun d => d.parameters.length) = some 0 := by decide +kernel
theorem arX2_init : (parseMethodDescriptor mX2_init.1.desc).map (fun d => d.parameters.length) = some 0 := by decide +kernel
theorem arX2_layOut : (parseMethodDescriptor mX2_layOut.1.desc).map (fun d => d.parameters.length) = some 1 := by decide +kernel
theorem arX2_copyFrom : (parseMethodDescriptor mX2_copyFrom.1.desc).map (fun d => d.parameters.length) = some 1 := by decide +kernel
theorem arX2_isBed : (parseMethodDescriptor mX2_isBed.1.desc).map (fun d => d.parameters.length) = some 1 := by decide +kernel
theorem arX2_pastOf : (parseMethodDescriptor mX2_pastOf.1.desc).map (fun d => d.parameters.length) = some 1 := by decide +kernel
theorem arX2_isReachedPast : (parseMethodDescriptor mX2_isReachedPast.1.desc).map (fun d => d.parameters.length) = some 2 := by decide +kernel
theorem arX2_whyNot : (parseMethodDescriptor mX2_whyNot.1.desc).map (fun d => d.parameters.length) = some 2 := by decide +kernel
theorem arX2_whyNotWater : (parseMethodDescriptor mX2_whyNotWater.1.desc).map (fun d => d.parameters.length) = some 2 := by decide +kernel
theorem arX2_after : (parseMethodDescriptor mX2_after.1.desc).map (fun d => d.parameters.length) = some 2 := by decide +kernel
theorem arX2_afterMorning : (parseMethodDescriptor mX2_afterMorning.1.desc).map (fun d => d.parameters.length) = some 1 := by decide +kernel
theorem arX2_nextBed : (parseMethodDescriptor mX2_nextBed.1.desc).map (fun d => d.parameters.length) = some 1 := by decide +kernel
theorem arX2_nextPlace : (parseMethodDescriptor mX2_nextPlace.1.desc).map (fun d => d.parameters.length) = some 1 := by decide +kernel
theorem arX2_firstImpossible : (parseMethodDescriptor mX2_firstImpossible.1.desc).map (fun d => d.parameters.length) = some 1 := by decide +kernel
theorem arX2_whyImpossible : (parseMethodDescriptor mX2_whyImpossible.1.desc).map (fun d => d.parameters.length) = some 1 := by decide +kernel
theorem arX2_live : (parseMethodDescriptor mX2_live.1.desc).map (fun d => d.parameters.length) = some 1 := by decide +kernel
theorem arX2_see : (parseMethodDescriptor mX2_see.1.desc).map (fun d => d.parameters.length) = some 2 := by decide +kernel
theorem arX2_isAsSeen : (parseMethodDescriptor mX2_isAsSeen.1.desc).map (fun d => d.parameters.length) = some 2 := by decide +kernel
theorem arX2_sawNoMorningFrom : (parseMethodDescriptor mX2_sawNoMorningFrom.1.desc).map (fun d => d.parameters.length) = some 1 := by decide +kernel
theorem arX2_pleases : (parseMethodDescriptor mX2_pleases.1.desc).map (fun d => d.parameters.length) = some 2 := by decide +kernel
theorem arX3_morningOfBloom : (parseMethodDescriptor mX3_morningOfBloom.1.desc).map (fun d => d.parameters.length) = some 2 := by decide +kernel
theorem arX3_morningOf : (parseMethodDescriptor mX3_morningOf.1.desc).map (fun d => d.parameters.length) = some 4 := by decide +kernel
theorem arX3_afterWatering : (parseMethodDescriptor mX3_afterWatering.1.desc).map (fun d => d.parameters.length) = some 4 := by decide +kernel
theorem arX3_better : (parseMethodDescriptor mX3_better.1.desc).map (fun d => d.parameters.length) = some 3 := by decide +kernel
theorem arX4_init : (parseMethodDescriptor mX4_init.1.desc).map (fun d => d.parameters.length) = some 0 := by decide +kernel
theorem arX4_clear : (parseMethodDescriptor mX4_clear.1.desc).map (fun d => d.parameters.length) = some 0 := by decide +kernel
theorem arX4_slotOf : (parseMethodDescriptor mX4_slotOf.1.desc).map (fun d => d.parameters.length) = some 1 := by decide +kernel
theorem arX4_failedWith : (parseMethodDescriptor mX4_failedWith.1.desc).map (fun d => d.parameters.length) = some 1 := by decide +kernel
theorem arX4_keep : (parseMethodDescriptor mX4_keep.1.desc).map (fun d => d.parameters.length) = some 2 := by decide +kernel
theorem arX5_isHadFrom : (parseMethodDescriptor mX5_isHadFrom.1.desc).map (fun d => d.parameters.length) = some 2 := by decide +kernel
theorem arX5_comesFrom : (parseMethodDescriptor mX5_comesFrom.1.desc).map (fun d => d.parameters.length) = some 4 := by decide +kernel
theorem arX5_number : (parseMethodDescriptor mX5_number.1.desc).map (fun d => d.parameters.length) = some 3 := by decide +kernel
theorem arX5_firstPattern : (parseMethodDescriptor mX5_firstPattern.1.desc).map (fun d => d.parameters.length) = some 2 := by decide +kernel
theorem arX5_fewestGardens : (parseMethodDescriptor mX5_fewestGardens.1.desc).map (fun d => d.parameters.length) = some 2 := by decide +kernel
theorem arX5_isMadeBy : (parseMethodDescriptor mX5_isMadeBy.1.desc).map (fun d => d.parameters.length) = some 3 := by decide +kernel
theorem arX5_isMadeBehind : (parseMethodDescriptor mX5_isMadeBehind.1.desc).map (fun d => d.parameters.length) = some 6 := by decide +kernel
theorem arX5_asSeenFrom : (parseMethodDescriptor mX5_asSeenFrom.1.desc).map (fun d => d.parameters.length) = some 3 := by decide +kernel
theorem arX6_at : (parseMethodDescriptor mX6_at.1.desc).map (fun d => d.parameters.length) = some 2 := by decide +kernel
theorem arX6_put : (parseMethodDescriptor mX6_put.1.desc).map (fun d => d.parameters.length) = some 2 := by decide +kernel
theorem arX7_init : (parseMethodDescriptor mX7_init.1.desc).map (fun d => d.parameters.length) = some 0 := by decide +kernel
theorem arX7_write : (parseMethodDescriptor mX7_write.1.desc).map (fun d => d.parameters.length) = some 1 := by decide +kernel
theorem arX7_signAt : (parseMethodDescriptor mX7_signAt.1.desc).map (fun d => d.parameters.length) = some 1 := by decide +kernel
theorem arX7_numberOf : (parseMethodDescriptor mX7_numberOf.1.desc).map (fun d => d.parameters.length) = some 1 := by decide +kernel
theorem arX7_weekFault : (parseMethodDescriptor mX7_weekFault.1.desc).map (fun d => d.parameters.length) = some 1 := by decide +kernel
theorem arX7_orderFault : (parseMethodDescriptor mX7_orderFault.1.desc).map (fun d => d.parameters.length) = some 1 := by decide +kernel
theorem arX7_wishFault : (parseMethodDescriptor mX7_wishFault.1.desc).map (fun d => d.parameters.length) = some 1 := by decide +kernel
theorem arX7_order : (parseMethodDescriptor mX7_order.1.desc).map (fun d => d.parameters.length) = some 0 := by decide +kernel
theorem arX7_colourOf : (parseMethodDescriptor mX7_colourOf.1.desc).map (fun d => d.parameters.length) = some 1 := by decide +kernel
theorem arX7_isLetter : (parseMethodDescriptor mX7_isLetter.1.desc).map (fun d => d.parameters.length) = some 2 := by decide +kernel
theorem arX8_length : (parseMethodDescriptor mX8_length.1.desc).map (fun d => d.parameters.length) = some 1 := by decide +kernel
theorem arX8_numberBloomed : (parseMethodDescriptor mX8_numberBloomed.1.desc).map (fun d => d.parameters.length) = some 1 := by decide +kernel
theorem arX8_bedAt : (parseMethodDescriptor mX8_bedAt.1.desc).map (fun d => d.parameters.length) = some 2 := by decide +kernel
theorem arX8_isInRow : (parseMethodDescriptor mX8_isInRow.1.desc).map (fun d => d.parameters.length) = some 2 := by decide +kernel
theorem arX8_hasBloomed : (parseMethodDescriptor mX8_hasBloomed.1.desc).map (fun d => d.parameters.length) = some 2 := by decide +kernel
theorem arX8_watered : (parseMethodDescriptor mX8_watered.1.desc).map (fun d => d.parameters.length) = some 2 := by decide +kernel
theorem arX8_rained : (parseMethodDescriptor mX8_rained.1.desc).map (fun d => d.parameters.length) = some 2 := by decide +kernel
theorem arX8_afterBloom : (parseMethodDescriptor mX8_afterBloom.1.desc).map (fun d => d.parameters.length) = some 2 := by decide +kernel
theorem arX8_placeOf : (parseMethodDescriptor mX8_placeOf.1.desc).map (fun d => d.parameters.length) = some 2 := by decide +kernel
theorem arX8_without : (parseMethodDescriptor mX8_without.1.desc).map (fun d => d.parameters.length) = some 2 := by decide +kernel
theorem arX9_init : (parseMethodDescriptor mX9_init.1.desc).map (fun d => d.parameters.length) = some 0 := by decide +kernel
theorem arX9_search : (parseMethodDescriptor mX9_search.1.desc).map (fun d => d.parameters.length) = some 2 := by decide +kernel
theorem arX9_signAt : (parseMethodDescriptor mX9_signAt.1.desc).map (fun d => d.parameters.length) = some 1 := by decide +kernel
theorem arX9_hasBedsFor : (parseMethodDescriptor mX9_hasBedsFor.1.desc).map (fun d => d.parameters.length) = some 2 := by decide +kernel
theorem arX9_numberToBloom : (parseMethodDescriptor mX9_numberToBloom.1.desc).map (fun d => d.parameters.length) = some 2 := by decide +kernel
theorem arX9_isReached : (parseMethodDescriptor mX9_isReached.1.desc).map (fun d => d.parameters.length) = some 5 := by decide +kernel
theorem arX9_signOf : (parseMethodDescriptor mX9_signOf.1.desc).map (fun d => d.parameters.length) = some 2 := by decide +kernel
theorem arX9_isFitting : (parseMethodDescriptor mX9_isFitting.1.desc).map (fun d => d.parameters.length) = some 4 := by decide +kernel
theorem arX10_init : (parseMethodDescriptor mX10_init.1.desc).map (fun d => d.parameters.length) = some 0 := by decide +kernel
theorem arX10_beds : (parseMethodDescriptor mX10_beds.1.desc).map (fun d => d.parameters.length) = some 1 := by decide +kernel
theorem arX10_colour : (parseMethodDescriptor mX10_colour.1.desc).map (fun d => d.parameters.length) = some 2 := by decide +kernel
theorem arX10_past : (parseMethodDescriptor mX10_past.1.desc).map (fun d => d.parameters.length) = some 2 := by decide +kernel
theorem arX10_set : (parseMethodDescriptor mX10_set.1.desc).map (fun d => d.parameters.length) = some 2 := by decide +kernel
theorem arX10_say : (parseMethodDescriptor mX10_say.1.desc).map (fun d => d.parameters.length) = some 1 := by decide +kernel
theorem arX10_wipe : (parseMethodDescriptor mX10_wipe.1.desc).map (fun d => d.parameters.length) = some 0 := by decide +kernel
theorem arX10_fault : (parseMethodDescriptor mX10_fault.1.desc).map (fun d => d.parameters.length) = some 1 := by decide +kernel
theorem arX10_judge : (parseMethodDescriptor mX10_judge.1.desc).map (fun d => d.parameters.length) = some 1 := by decide +kernel
theorem arX10_week : (parseMethodDescriptor mX10_week.1.desc).map (fun d => d.parameters.length) = some 0 := by decide +kernel
theorem arX10_row : (parseMethodDescriptor mX10_row.1.desc).map (fun d => d.parameters.length) = some 1 := by decide +kernel
theorem arX10_bloomed : (parseMethodDescriptor mX10_bloomed.1.desc).map (fun d => d.parameters.length) = some 1 := by decide +kernel
theorem arX10_anew : (parseMethodDescriptor mX10_anew.1.desc).map (fun d => d.parameters.length) = some 0 := by decide +kernel
theorem arX10_seen : (parseMethodDescriptor mX10_seen.1.desc).map (fun d => d.parameters.length) = some 2 := by decide +kernel
theorem arX10_forget : (parseMethodDescriptor mX10_forget.1.desc).map (fun d => d.parameters.length) = some 0 := by decide +kernel
theorem arX10_filled : (parseMethodDescriptor mX10_filled.1.desc).map (fun d => d.parameters.length) = some 1 := by decide +kernel
theorem arX10_canBe : (parseMethodDescriptor mX10_canBe.1.desc).map (fun d => d.parameters.length) = some 0 := by decide +kernel
theorem arX10_orders : (parseMethodDescriptor mX10_orders.1.desc).map (fun d => d.parameters.length) = some 2 := by decide +kernel
theorem arX10_pattern : (parseMethodDescriptor mX10_pattern.1.desc).map (fun d => d.parameters.length) = some 1 := by decide +kernel
theorem arX10_behind : (parseMethodDescriptor mX10_behind.1.desc).map (fun d => d.parameters.length) = some 0 := by decide +kernel
theorem arX10_fewest : (parseMethodDescriptor mX10_fewest.1.desc).map (fun d => d.parameters.length) = some 1 := by decide +kernel
theorem arX10_chance : (parseMethodDescriptor mX10_chance.1.desc).map (fun d => d.parameters.length) = some 1 := by decide +kernel
theorem arX10_turns : (parseMethodDescriptor mX10_turns.1.desc).map (fun d => d.parameters.length) = some 1 := by decide +kernel
theorem arX10_image : (parseMethodDescriptor mX10_image.1.desc).map (fun d => d.parameters.length) = some 1 := by decide +kernel
theorem arX10_restore : (parseMethodDescriptor mX10_restore.1.desc).map (fun d => d.parameters.length) = some 1 := by decide +kernel
theorem arX10_told : (parseMethodDescriptor mX10_told.1.desc).map (fun d => d.parameters.length) = some 1 := by decide +kernel
theorem arX10_isFaultyWeek : (parseMethodDescriptor mX10_isFaultyWeek.1.desc).map (fun d => d.parameters.length) = some 0 := by decide +kernel
theorem arX10_isFaultyOrder : (parseMethodDescriptor mX10_isFaultyOrder.1.desc).map (fun d => d.parameters.length) = some 0 := by decide +kernel
theorem arX10_isFaultyWish : (parseMethodDescriptor mX10_isFaultyWish.1.desc).map (fun d => d.parameters.length) = some 0 := by decide +kernel
theorem arX10_dropAnswers : (parseMethodDescriptor mX10_dropAnswers.1.desc).map (fun d => d.parameters.length) = some 0 := by decide +kernel
theorem arX11_init : (parseMethodDescriptor mX11_init.1.desc).map (fun d => d.parameters.length) = some 0 := by decide +kernel
theorem arX11_begin : (parseMethodDescriptor mX11_begin.1.desc).map (fun d => d.parameters.length) = some 0 := by decide +kernel
theorem arX11_in : (parseMethodDescriptor mX11_in.1.desc).map (fun d => d.parameters.length) = some 3 := by decide +kernel
theorem arX11_has : (parseMethodDescriptor mX11_has.1.desc).map (fun d => d.parameters.length) = some 2 := by decide +kernel
theorem arX11_isBed : (parseMethodDescriptor mX11_isBed.1.desc).map (fun d => d.parameters.length) = some 1 := by decide +kernel
theorem arX11_beds : (parseMethodDescriptor mX11_beds.1.desc).map (fun d => d.parameters.length) = some 1 := by decide +kernel
theorem arX11_colour : (parseMethodDescriptor mX11_colour.1.desc).map (fun d => d.parameters.length) = some 2 := by decide +kernel
theorem arX11_past : (parseMethodDescriptor mX11_past.1.desc).map (fun d => d.parameters.length) = some 2 := by decide +kernel
theorem arX11_set : (parseMethodDescriptor mX11_set.1.desc).map (fun d => d.parameters.length) = some 2 := by decide +kernel
theorem arX11_say : (parseMethodDescriptor mX11_say.1.desc).map (fun d => d.parameters.length) = some 1 := by decide +kernel
theorem arX11_wipe : (parseMethodDescriptor mX11_wipe.1.desc).map (fun d => d.parameters.length) = some 0 := by decide +kernel
theorem arX11_weekFault : (parseMethodDescriptor mX11_weekFault.1.desc).map (fun d => d.parameters.length) = some 0 := by decide +kernel
theorem arX11_orderFault : (parseMethodDescriptor mX11_orderFault.1.desc).map (fun d => d.parameters.length) = some 0 := by decide +kernel
theorem arX11_colourOf : (parseMethodDescriptor mX11_colourOf.1.desc).map (fun d => d.parameters.length) = some 1 := by decide +kernel
theorem arX11_wishFault : (parseMethodDescriptor mX11_wishFault.1.desc).map (fun d => d.parameters.length) = some 0 := by decide +kernel
theorem arX11_fault : (parseMethodDescriptor mX11_fault.1.desc).map (fun d => d.parameters.length) = some 1 := by decide +kernel
theorem arX11_opens : (parseMethodDescriptor mX11_opens.1.desc).map (fun d => d.parameters.length) = some 0 := by decide +kernel
theorem arX11_sizeOf : (parseMethodDescriptor mX11_sizeOf.1.desc).map (fun d => d.parameters.length) = some 1 := by decide +kernel
theorem arX11_without : (parseMethodDescriptor mX11_without.1.desc).map (fun d => d.parameters.length) = some 2 := by decide +kernel
theorem arX11_isIn : (parseMethodDescriptor mX11_isIn.1.desc).map (fun d => d.parameters.length) = some 2 := by decide +kernel
theorem arX11_watered : (parseMethodDescriptor mX11_watered.1.desc).map (fun d => d.parameters.length) = some 2 := by decide +kernel
theorem arX11_rained : (parseMethodDescriptor mX11_rained.1.desc).map (fun d => d.parameters.length) = some 1 := by decide +kernel
theorem arX11_nextOf : (parseMethodDescriptor mX11_nextOf.1.desc).map (fun d => d.parameters.length) = some 1 := by decide +kernel
theorem arX11_whyNot : (parseMethodDescriptor mX11_whyNot.1.desc).map (fun d => d.parameters.length) = some 3 := by decide +kernel
theorem arX11_goWeek : (parseMethodDescriptor mX11_goWeek.1.desc).map (fun d => d.parameters.length) = some 1 := by decide +kernel
theorem arX11_judge : (parseMethodDescriptor mX11_judge.1.desc).map (fun d => d.parameters.length) = some 1 := by decide +kernel
theorem arX11_week : (parseMethodDescriptor mX11_week.1.desc).map (fun d => d.parameters.length) = some 0 := by decide +kernel
theorem arX11_row : (parseMethodDescriptor mX11_row.1.desc).map (fun d => d.parameters.length) = some 1 := by decide +kernel
theorem arX11_bloomed : (parseMethodDescriptor mX11_bloomed.1.desc).map (fun d => d.parameters.length) = some 1 := by decide +kernel
theorem arX11_anew : (parseMethodDescriptor mX11_anew.1.desc).map (fun d => d.parameters.length) = some 0 := by decide +kernel
theorem arX11_seen : (parseMethodDescriptor mX11_seen.1.desc).map (fun d => d.parameters.length) = some 2 := by decide +kernel
theorem arX11_forget : (parseMethodDescriptor mX11_forget.1.desc).map (fun d => d.parameters.length) = some 0 := by decide +kernel
theorem arX11_isAsSeen : (parseMethodDescriptor mX11_isAsSeen.1.desc).map (fun d => d.parameters.length) = some 0 := by decide +kernel
theorem arX11_filled : (parseMethodDescriptor mX11_filled.1.desc).map (fun d => d.parameters.length) = some 1 := by decide +kernel
theorem arX11_nextBy : (parseMethodDescriptor mX11_nextBy.1.desc).map (fun d => d.parameters.length) = some 2 := by decide +kernel
theorem arX11_canBe : (parseMethodDescriptor mX11_canBe.1.desc).map (fun d => d.parameters.length) = some 0 := by decide +kernel
theorem arX11_orders : (parseMethodDescriptor mX11_orders.1.desc).map (fun d => d.parameters.length) = some 2 := by decide +kernel
theorem arX11_pattern : (parseMethodDescriptor mX11_pattern.1.desc).map (fun d => d.parameters.length) = some 1 := by decide +kernel
theorem arX11_put : (parseMethodDescriptor mX11_put.1.desc).map (fun d => d.parameters.length) = some 1 := by decide +kernel
theorem arX11_comesOut : (parseMethodDescriptor mX11_comesOut.1.desc).map (fun d => d.parameters.length) = some 1 := by decide +kernel
theorem arX11_behind : (parseMethodDescriptor mX11_behind.1.desc).map (fun d => d.parameters.length) = some 0 := by decide +kernel
theorem arX11_garden : (parseMethodDescriptor mX11_garden.1.desc).map (fun d => d.parameters.length) = some 2 := by decide +kernel
theorem arX11_bits : (parseMethodDescriptor mX11_bits.1.desc).map (fun d => d.parameters.length) = some 1 := by decide +kernel
theorem arX11_mornings : (parseMethodDescriptor mX11_mornings.1.desc).map (fun d => d.parameters.length) = some 1 := by decide +kernel
theorem arX11_isWished : (parseMethodDescriptor mX11_isWished.1.desc).map (fun d => d.parameters.length) = some 2 := by decide +kernel
theorem arX11_leads : (parseMethodDescriptor mX11_leads.1.desc).map (fun d => d.parameters.length) = some 2 := by decide +kernel
theorem arX11_layGardens : (parseMethodDescriptor mX11_layGardens.1.desc).map (fun d => d.parameters.length) = some 0 := by decide +kernel
theorem arX11_fewest : (parseMethodDescriptor mX11_fewest.1.desc).map (fun d => d.parameters.length) = some 1 := by decide +kernel
theorem arX11_chance : (parseMethodDescriptor mX11_chance.1.desc).map (fun d => d.parameters.length) = some 1 := by decide +kernel
theorem arX11_canWater : (parseMethodDescriptor mX11_canWater.1.desc).map (fun d => d.parameters.length) = some 1 := by decide +kernel
theorem arX11_wake : (parseMethodDescriptor mX11_wake.1.desc).map (fun d => d.parameters.length) = some 2 := by decide +kernel
theorem arX11_take : (parseMethodDescriptor mX11_take.1.desc).map (fun d => d.parameters.length) = some 2 := by decide +kernel
theorem arX11_turns : (parseMethodDescriptor mX11_turns.1.desc).map (fun d => d.parameters.length) = some 1 := by decide +kernel
theorem arX11_image : (parseMethodDescriptor mX11_image.1.desc).map (fun d => d.parameters.length) = some 1 := by decide +kernel
theorem arX11_restore : (parseMethodDescriptor mX11_restore.1.desc).map (fun d => d.parameters.length) = some 1 := by decide +kernel
theorem arX11_told : (parseMethodDescriptor mX11_told.1.desc).map (fun d => d.parameters.length) = some 1 := by decide +kernel
theorem arJ6_bitCount_0f7a4 : (parseMethodDescriptor mJ6_bitCount_0f7a4.1.desc).map (fun d => d.parameters.length) = some 1 := by decide +kernel
theorem arJ7_fill_d0a16 : (parseMethodDescriptor mJ7_fill_d0a16.1.desc).map (fun d => d.parameters.length) = some 2 := by decide +kernel
theorem arJ7_fill_53178 : (parseMethodDescriptor mJ7_fill_53178.1.desc).map (fun d => d.parameters.length) = some 2 := by decide +kernel
end
section
/-! ===== straight stretches: one instruction, a run of them ===== -/
def pm_k {R : Type} (n m : Nat) (r : Option R) : Option R := match Nat.beq n m with
  | true => r
  | false => none
theorem pm_k_some {R : Type} {n m : Nat} {r : Option R} {z : R} (h : pm_k n m r = some z) : n = m ∧ r = some z := by
  unfold pm_k at h
  split at h
  · rename_i h1; exact ⟨Nat.eq_of_beq_eq_true h1, h⟩
  · cases h
abbrev pm_R : Type := pm_L × List Value × pm_I
def pm_s (L : pm_L) (mu : pm_I) (r : Option (List Value)) : Option pm_R := match r with
  | some S => some (L, S, mu)
  | none => none
theorem pm_s_some {L : pm_L} {mu : pm_I} {r : Option (List Value)} {z : pm_R} (h : pm_s L mu r = some z) : ∃ S', r = some S' ∧ z = (L, S', mu) := by
  unfold pm_s at h
  split at h
  · exact ⟨_, rfl, (Option.some.inj h).symm⟩
  · cases h
def pm_b32 (f : Int32 → Int32 → Int32) (S : List Value) : Option (List Value) := match S with
  | .int y :: .int x :: r => some (.int (f x y) :: r)
  | _ => none
theorem pm_b32_some {f : Int32 → Int32 → Int32} {S S' : List Value} (h : pm_b32 f S = some S') : ∃ x y r, S = .int y :: .int x :: r ∧ S' = .int (f x y) :: r := by
  unfold pm_b32 at h
  split at h
  · exact ⟨_, _, _, rfl, (Option.some.inj h).symm⟩
  · cases h
def pm_b64 (f : Int64 → Int64 → Int64) (S : List Value) : Option (List Value) := match S with
  | .long y :: .long x :: r => some (.long (f x y) :: r)
  | _ => none
theorem pm_b64_some {f : Int64 → Int64 → Int64} {S S' : List Value} (h : pm_b64 f S = some S') : ∃ x y r, S = .long y :: .long x :: r ∧ S' = .long (f x y) :: r := by
  unfold pm_b64 at h
  split at h
  · exact ⟨_, _, _, rfl, (Option.some.inj h).symm⟩
  · cases h
def pm_bsh (f : Int64 → Int32 → Int64) (S : List Value) : Option (List Value) := match S with
  | .int y :: .long x :: r => some (.long (f x y) :: r)
  | _ => none
theorem pm_bsh_some {f : Int64 → Int32 → Int64} {S S' : List Value} (h : pm_bsh f S = some S') : ∃ x y r, S = .int y :: .long x :: r ∧ S' = .long (f x y) :: r := by
  unfold pm_bsh at h
  split at h
  · exact ⟨_, _, _, rfl, (Option.some.inj h).symm⟩
  · cases h
def pm_cst32 (x : pm_X) (S : List Value) : Option (List Value) := match x with
  | .inr (.inl v) => some (.int v :: S)
  | _ => none
theorem pm_cst32_some {x : pm_X} {S S' : List Value} (h : pm_cst32 x S = some S') : ∃ v, x = .inr (.inl v) ∧ S' = .int v :: S := by
  unfold pm_cst32 at h
  split at h
  · exact ⟨_, rfl, (Option.some.inj h).symm⟩
  · cases h
def pm_cst64 (x : pm_X) (S : List Value) : Option (List Value) := match x with
  | .inr (.inr (.inl v)) => some (.long v :: S)
  | _ => none
theorem pm_cst64_some {x : pm_X} {S S' : List Value} (h : pm_cst64 x S = some S') : ∃ v, x = .inr (.inr (.inl v)) ∧ S' = .long v :: S := by
  unfold pm_cst64 at h
  split at h
  · exact ⟨_, rfl, (Option.some.inj h).symm⟩
  · cases h
def pm_ldi (L : pm_L) (i : Nat) (S : List Value) : Option (List Value) := match L[i]? with
  | some (some (.int x)) => some (.int x :: S)
  | _ => none
theorem pm_ldi_some {L : pm_L} {i : Nat} {S S' : List Value} (h : pm_ldi L i S = some S') : ∃ x, L[i]? = some (some (.int x)) ∧ S' = .int x :: S := by
  unfold pm_ldi at h
  split at h
  · rename_i h1; exact ⟨_, h1, (Option.some.inj h).symm⟩
  · cases h
def pm_ldl (L : pm_L) (i : Nat) (S : List Value) : Option (List Value) := match L[i]? with
  | some (some (.long x)) => some (.long x :: S)
  | _ => none
theorem pm_ldl_some {L : pm_L} {i : Nat} {S S' : List Value} (h : pm_ldl L i S = some S') : ∃ x, L[i]? = some (some (.long x)) ∧ S' = .long x :: S := by
  unfold pm_ldl at h
  split at h
  · rename_i h1; exact ⟨_, h1, (Option.some.inj h).symm⟩
  · cases h
def pm_lda (L : pm_L) (i : Nat) (S : List Value) : Option (List Value) := match L[i]? with
  | some (some (.ref x)) => some (.ref x :: S)
  | _ => none
theorem pm_lda_some {L : pm_L} {i : Nat} {S S' : List Value} (h : pm_lda L i S = some S') : ∃ x, L[i]? = some (some (.ref x)) ∧ S' = .ref x :: S := by
  unfold pm_lda at h
  split at h
  · rename_i h1; exact ⟨_, h1, (Option.some.inj h).symm⟩
  · cases h
def pm_sti (nL : Nat) (L : pm_L) (i : Nat) (S : List Value) (mu : pm_I) : Option pm_R := match Nat.blt i nL, S with
  | true, .int x :: r => some (pm_st1 L i (.int x), r, mu)
  | _, _ => none
theorem pm_sti_some {nL : Nat} {L : pm_L} {i : Nat} {S : List Value} {mu : pm_I} {z : pm_R} (h : pm_sti nL L i S mu = some z) : ∃ x r, i < nL ∧ S = .int x :: r ∧ z = (pm_st1 L i (.int x), r, mu) := by
  unfold pm_sti at h
  split at h
  · rename_i h1; exact ⟨_, _, Nat.le_of_ble_eq_true h1, rfl, (Option.some.inj h).symm⟩
  · cases h
def pm_stl (nL : Nat) (L : pm_L) (i : Nat) (S : List Value) (mu : pm_I) : Option pm_R := match Nat.blt (i + 1) nL, S with
  | true, .long x :: r => some (pm_st2 L i (.long x), r, mu)
  | _, _ => none
theorem pm_stl_some {nL : Nat} {L : pm_L} {i : Nat} {S : List Value} {mu : pm_I} {z : pm_R} (h : pm_stl nL L i S mu = some z) : ∃ x r, i + 1 < nL ∧ S = .long x :: r ∧ z = (pm_st2 L i (.long x), r, mu) := by
  unfold pm_stl at h
  split at h
  · rename_i h1; exact ⟨_, _, Nat.le_of_ble_eq_true h1, rfl, (Option.some.inj h).symm⟩
  · cases h
def pm_sta (nL : Nat) (L : pm_L) (i : Nat) (S : List Value) (mu : pm_I) : Option pm_R := match Nat.blt i nL, S with
  | true, .ref x :: r => some (pm_st1 L i (.ref x), r, mu)
  | _, _ => none
theorem pm_sta_some {nL : Nat} {L : pm_L} {i : Nat} {S : List Value} {mu : pm_I} {z : pm_R} (h : pm_sta nL L i S mu = some z) : ∃ x r, i < nL ∧ S = .ref x :: r ∧ z = (pm_st1 L i (.ref x), r, mu) := by
  unfold pm_sta at h
  split at h
  · rename_i h1; exact ⟨_, _, Nat.le_of_ble_eq_true h1, rfl, (Option.some.inj h).symm⟩
  · cases h
def pm_inc (nL : Nat) (x : pm_X) (L : pm_L) (i : Nat) (S : List Value) (mu : pm_I) : Option pm_R := match Nat.blt i nL, L[i]?, x with
  | true, some (some (.int y)), .inr (.inl v) => some (pm_st1 L i (.int (y + v)), S, mu)
  | _, _, _ => none
theorem pm_inc_some {nL : Nat} {x : pm_X} {L : pm_L} {i : Nat} {S : List Value} {mu : pm_I} {z : pm_R} (h : pm_inc nL x L i S mu = some z) : ∃ y v, i < nL ∧ L[i]? = some (some (.int y)) ∧ x = .inr (.inl v) ∧ z = (pm_st1 L i (.int (y + v)), S, mu) := by
  unfold pm_inc at h
  split at h
  · rename_i h1 h2; exact ⟨_, _, Nat.le_of_ble_eq_true h1, h2, rfl, (Option.some.inj h).symm⟩
  · cases h
def pm_ov (o : Option (Option Nat)) (z : Int32) : Value := match o with
  | none => .int z
  | some none => .null
  | some (some q) => .ref q
def pm_gf (sg : List pm_C) (mu : pm_I) (x : pm_X) (S : List Value) : Option (List Value) := match x, S with
  | .inl (ci, j), .ref k :: r => (match sg[k]? with
    | some (0, c, fs) => (match Nat.beq c ci, fs[j]? with
      | true, some none => some (.int (mu k j) :: r)
      | true, some (some none) => some (.null :: r)
      | true, some (some (some q)) => some (.ref q :: r)
      | _, _ => none)
    | _ => none)
  | _, _ => none
theorem pm_gf_some {sg : List pm_C} {mu : pm_I} {x : pm_X} {S S' : List Value} (h : pm_gf sg mu x S = some S') : ∃ ci j k r fs o, x = .inl (ci, j) ∧ S = .ref k :: r ∧ sg[k]? = some (0, ci, fs) ∧ fs[j]? = some o ∧ S' = pm_ov o (mu k j) :: r := by
  unfold pm_gf at h
  split at h
  · split at h
    · rename_i hs
      split at h
      · rename_i h1 h2; rw [Nat.eq_of_beq_eq_true h1] at hs; exact ⟨_, _, _, _, _, _, rfl, rfl, hs, h2, (Option.some.inj h).symm⟩
      · rename_i h1 h2; rw [Nat.eq_of_beq_eq_true h1] at hs; exact ⟨_, _, _, _, _, _, rfl, rfl, hs, h2, (Option.some.inj h).symm⟩
      · rename_i h1 h2; rw [Nat.eq_of_beq_eq_true h1] at hs; exact ⟨_, _, _, _, _, _, rfl, rfl, hs, h2, (Option.some.inj h).symm⟩
      · cases h
    · cases h
  · cases h
/-- the int fields -/
def pm_isI (ci j : Nat) : Bool := match ci with
  | 0 => Nat.beq j 1 || Nat.beq j 2
  | 1 => Nat.blt j 6
  | 3 => Nat.beq j 0
  | 4 => Nat.beq j 1 || Nat.beq j 2
  | 6 => [0, 3, 4, 5, 6, 8, 9, 11, 12, 14, 15, 16, 18, 23, 24].any (Nat.beq j)
  | _ => false
theorem pm_isI_ok {ci j : Nat} (h : pm_isI ci j = true) : ∃ q : vw_C, vwCl[ci]? = some q ∧ j < q.2.2 ∧ (q.2.1 j).2.2.1 = "I" ∧ (q.2.1 j).2.2.2 = false := by
  match ci, h with
  | 0, h =>
    simp only [pm_isI, Bool.or_eq_true, Nat.beq_eq] at h
    refine ⟨_, rfl, ?_⟩
    rcases h with rfl | rfl <;> decide
  | 1, h =>
    simp only [pm_isI, Nat.blt_eq] at h
    refine ⟨_, rfl, ?_⟩
    rcases (show j = 0 ∨ j = 1 ∨ j = 2 ∨ j = 3 ∨ j = 4 ∨ j = 5 by omega) with rfl | rfl | rfl | rfl | rfl | rfl <;> decide
  | 2, h => cases h
  | 3, h =>
    simp only [pm_isI, Nat.beq_eq] at h
    subst h
    exact ⟨_, rfl, by decide⟩
  | 4, h =>
    simp only [pm_isI, Bool.or_eq_true, Nat.beq_eq] at h
    refine ⟨_, rfl, ?_⟩
    rcases h with rfl | rfl <;> decide
  | 5, h => cases h
  | 6, h =>
    simp only [pm_isI, List.any_cons, List.any_nil, Bool.or_eq_true, Nat.beq_eq, Bool.or_false] at h
    refine ⟨_, rfl, ?_⟩
    rcases h with rfl | rfl | rfl | rfl | rfl | rfl | rfl | rfl | rfl | rfl | rfl | rfl | rfl | rfl | rfl <;> decide
  | k + 7, h => simp [pm_isI] at h
def pm_pf (sg : List pm_C) (mu : pm_I) (x : pm_X) (L : pm_L) (S : List Value) : Option pm_R := match x, S with
  | .inl (ci, j), .int v :: .ref k :: r => (match sg[k]?, pm_isI ci j with
    | some (0, c, fs), true => (match Nat.beq c ci, fs[j]? with
      | true, some none => some (L, r, pm_up mu k j v)
      | _, _ => none)
    | _, _ => none)
  | _, _ => none
theorem pm_pf_some {sg : List pm_C} {mu : pm_I} {x : pm_X} {L : pm_L} {S : List Value} {z : pm_R} (h : pm_pf sg mu x L S = some z) : ∃ ci j v k r fs, x = .inl (ci, j) ∧ S = .int v :: .ref k :: r ∧ pm_isI ci j = true ∧ sg[k]? = some (0, ci, fs) ∧ fs[j]? = some none ∧ z = (L, r, pm_up mu k j v) := by
  unfold pm_pf at h
  split at h
  · split at h
    · rename_i hs hi
      split at h
      · rename_i h1 h2; rw [Nat.eq_of_beq_eq_true h1] at hs; exact ⟨_, _, _, _, _, _, rfl, rfl, hi, hs, h2, (Option.some.inj h).symm⟩
      · cases h
    · cases h
  · cases h
def pm_al (sg : List pm_C) (S : List Value) : Option (List Value) := match S with
  | .ref k :: r => (match sg[k]? with
    | some (1, n, _) => some (.int (Int32.ofNat n) :: r)
    | some (3, n, _) => some (.int (Int32.ofNat n) :: r)
    | _ => none)
  | _ => none
theorem pm_al_some {sg : List pm_C} {S S' : List Value} (h : pm_al sg S = some S') : ∃ k r n rs, S = .ref k :: r ∧ (sg[k]? = some (1, n, rs) ∨ sg[k]? = some (3, n, rs)) ∧ S' = .int (Int32.ofNat n) :: r := by
  unfold pm_al at h
  split at h
  · split at h
    · rename_i h1; exact ⟨_, _, _, _, rfl, Or.inl h1, (Option.some.inj h).symm⟩
    · rename_i h1; exact ⟨_, _, _, _, rfl, Or.inr h1, (Option.some.inj h).symm⟩
    · cases h
  · cases h
def pm_dup (S : List Value) : Option (List Value) := match S with
  | .int x :: r => some (.int x :: .int x :: r)
  | .ref x :: r => some (.ref x :: .ref x :: r)
  | _ => none
theorem pm_dup_some {S S' : List Value} (h : pm_dup S = some S') : ∃ v r, S = v :: r ∧ (∀ al, (pm_at al v).category = 1) ∧ S' = v :: v :: r := by
  unfold pm_dup at h
  split at h
  · exact ⟨_, _, rfl, fun _ => rfl, (Option.some.inj h).symm⟩
  · exact ⟨_, _, rfl, fun _ => rfl, (Option.some.inj h).symm⟩
  · cases h
def pm_dup2 (S : List Value) : Option (List Value) := match S with
  | .int x :: .ref y :: r => some (.int x :: .ref y :: .int x :: .ref y :: r)
  | _ => none
theorem pm_dup2_some {S S' : List Value} (h : pm_dup2 S = some S') : ∃ x y r, S = .int x :: .ref y :: r ∧ S' = .int x :: .ref y :: .int x :: .ref y :: r := by
  unfold pm_dup2 at h
  split at h
  · exact ⟨_, _, _, rfl, (Option.some.inj h).symm⟩
  · cases h
def pm_i2l (S : List Value) : Option (List Value) := match S with
  | .int x :: r => some (.long x.toInt64 :: r)
  | _ => none
theorem pm_i2l_some {S S' : List Value} (h : pm_i2l S = some S') : ∃ x r, S = .int x :: r ∧ S' = .long x.toInt64 :: r := by
  unfold pm_i2l at h
  split at h
  · exact ⟨_, _, rfl, (Option.some.inj h).symm⟩
  · cases h
def pm_l2i (S : List Value) : Option (List Value) := match S with
  | .long x :: r => some (.int x.toInt32 :: r)
  | _ => none
theorem pm_l2i_some {S S' : List Value} (h : pm_l2i S = some S') : ∃ x r, S = .long x :: r ∧ S' = .int x.toInt32 :: r := by
  unfold pm_l2i at h
  split at h
  · exact ⟨_, _, rfl, (Option.some.inj h).symm⟩
  · cases h
def pm_lcmp (S : List Value) : Option (List Value) := match S with
  | .long y :: .long x :: r => some (.int (lg_cmp x y) :: r)
  | _ => none
theorem pm_lcmp_some {S S' : List Value} (h : pm_lcmp S = some S') : ∃ x y r, S = .long y :: .long x :: r ∧ S' = .int (lg_cmp x y) :: r := by
  unfold pm_lcmp at h
  split at h
  · exact ⟨_, _, _, rfl, (Option.some.inj h).symm⟩
  · cases h
def pm_ushr (x y : Int32) : Int32 := (x.toUInt32 >>> (y.toUInt32 &&& Int32.toUInt32 31)).toInt32
def pm_one (sg : List pm_C) (nL : Nat) (i : Instr) (n : Nat) (x : pm_X) (L : pm_L) (S : List Value) (mu : pm_I) : Option pm_R := match i with
  | .iconst _ => pm_k n 1 (pm_s L mu (pm_cst32 x S))
  | .bipush _ => pm_k n 2 (pm_s L mu (pm_cst32 x S))
  | .sipush _ => pm_k n 3 (pm_s L mu (pm_cst32 x S))
  | .ldc _ => pm_k n 2 (pm_s L mu (pm_cst32 x S))
  | .ldc_w _ => pm_k n 3 (pm_s L mu (pm_cst32 x S))
  | .lconst _ => pm_k n 1 (pm_s L mu (pm_cst64 x S))
  | .ldc2_w _ => pm_k n 3 (pm_s L mu (pm_cst64 x S))
  | .iload_n k => pm_k n 1 (pm_s L mu (pm_ldi L k.val S))
  | .iload k => pm_k n 2 (pm_s L mu (pm_ldi L k S))
  | .lload_n k => pm_k n 1 (pm_s L mu (pm_ldl L k.val S))
  | .lload k => pm_k n 2 (pm_s L mu (pm_ldl L k S))
  | .aload_n k => pm_k n 1 (pm_s L mu (pm_lda L k.val S))
  | .aload k => pm_k n 2 (pm_s L mu (pm_lda L k S))
  | .istore_n k => pm_k n 1 (pm_sti nL L k.val S mu)
  | .istore k => pm_k n 2 (pm_sti nL L k S mu)
  | .lstore_n k => pm_k n 1 (pm_stl nL L k.val S mu)
  | .lstore k => pm_k n 2 (pm_stl nL L k S mu)
  | .astore_n k => pm_k n 1 (pm_sta nL L k.val S mu)
  | .astore k => pm_k n 2 (pm_sta nL L k S mu)
  | .iinc k _ => pm_k n 3 (pm_inc nL x L k S mu)
  | .iadd => pm_k n 1 (pm_s L mu (pm_b32 (fun x y => x + y) S))
  | .isub => pm_k n 1 (pm_s L mu (pm_b32 (fun x y => x - y) S))
  | .imul => pm_k n 1 (pm_s L mu (pm_b32 (fun x y => x * y) S))
  | .iand => pm_k n 1 (pm_s L mu (pm_b32 (fun x y => x &&& y) S))
  | .ior => pm_k n 1 (pm_s L mu (pm_b32 (fun x y => x ||| y) S))
  | .ixor => pm_k n 1 (pm_s L mu (pm_b32 (fun x y => x ^^^ y) S))
  | .ishl => pm_k n 1 (pm_s L mu (pm_b32 (fun x y => x <<< (y &&& 31)) S))
  | .ishr => pm_k n 1 (pm_s L mu (pm_b32 (fun x y => x >>> (y &&& 31)) S))
  | .iushr => pm_k n 1 (pm_s L mu (pm_b32 pm_ushr S))
  | .ladd => pm_k n 1 (pm_s L mu (pm_b64 (fun x y => x + y) S))
  | .lmul => pm_k n 1 (pm_s L mu (pm_b64 (fun x y => x * y) S))
  | .land => pm_k n 1 (pm_s L mu (pm_b64 (fun x y => x &&& y) S))
  | .lxor => pm_k n 1 (pm_s L mu (pm_b64 (fun x y => x ^^^ y) S))
  | .lshl => pm_k n 1 (pm_s L mu (pm_bsh (fun x y => x <<< (y.toInt64 &&& 63)) S))
  | .lshr => pm_k n 1 (pm_s L mu (pm_bsh (fun x y => x >>> (y.toInt64 &&& 63)) S))
  | .i2l => pm_k n 1 (pm_s L mu (pm_i2l S))
  | .l2i => pm_k n 1 (pm_s L mu (pm_l2i S))
  | .lcmp => pm_k n 1 (pm_s L mu (pm_lcmp S))
  | .dup => pm_k n 1 (pm_s L mu (pm_dup S))
  | .dup2 => pm_k n 1 (pm_s L mu (pm_dup2 S))
  | .getfield _ => pm_k n 3 (pm_s L mu (pm_gf sg mu x S))
  | .putfield _ => pm_k n 3 (pm_pf sg mu x L S)
  | .arraylength => pm_k n 1 (pm_s L mu (pm_al sg S))
  | _ => none
theorem pm_dc {own : String} {cc : ByteArray} {pc n : Nat} {i : Instr} {x : pm_X} (h : pm_eok own cc (pc, i, n, x) = true) : decode cc pc = .ok (i, n) := pm_dec (en := (pc, i, n, x)) h
section
variable {cx : pm_CX} {fx : pm_FX} {cells slots pc : Nat} {L L' : pm_L} {S S' : List Value} {sg : List pm_C} {mu mu' : pm_I} {nu : pm_J}
/-- the stack alone changes -/
theorem pm_G.stk {pc' : Nat} (h : ∀ (p : Program) (e : Env) (s : State) (m : MethodId) (args : Array Value) (below : List Frame) (meth : Method) (c : Code) (A : Nat → Prop) (al0 al : Nat → Nat) (H : Heap) (locs : List Loc) (ls : Array Slot) (Q : State → Prop), pm_S cx fx.1 p s m args meth c A → pm_D cx fx.1.2.2.1 fx.2.2.2.2.1 s A al0 al H locs ls L sg mu nu → W p cx.1 e (pm_room fx.2.1 fx.2.2.1 fx.2.2.2.1) s m args below meth c H locs cells slots Q (F0 m pc' ls (S'.map (pm_at al))) → W p cx.1 e (pm_room fx.2.1 fx.2.2.1 fx.2.2.2.1) s m args below meth c H locs cells slots Q (F0 m pc ls (S.map (pm_at al)))) (k : pm_G cx fx cells slots pc' L S' sg mu nu) : pm_G cx fx cells slots pc L S sg mu nu :=
  fun p e s m args below meth c A al0 al H locs ls hS hD => h p e s m args below meth c A al0 al H locs ls _ hS hD (k p e s m args below meth c A al0 al H locs ls hS hD)
/-- a store of one slot -/
theorem pm_D.st1 {nL n0 : Nat} {s : State} {A : Nat → Prop} {al0 al : Nat → Nat} {H : Heap} {locs : List Loc} {ls ls' : Array Slot} {i : Nat} {v : Value} (hD : pm_D cx nL n0 s A al0 al H locs ls L sg mu nu) (h : lv_has ls' nL ((i, pm_at al v) :: (pm_lc al 0 L).filter (fun q => !(q.1 == i) && !(q.1 + 1 == i && q.2.category == 2)))) : pm_D cx nL n0 s A al0 al H locs ls' (pm_st1 L i v) sg mu nu :=
  ⟨hD.1, hD.2.1, hD.2.2.1, hD.2.2.2.1, hD.2.2.2.2.1, pm_has_mono h pm_st1_sub⟩
theorem pm_D.st2 {nL n0 : Nat} {s : State} {A : Nat → Prop} {al0 al : Nat → Nat} {H : Heap} {locs : List Loc} {ls ls' : Array Slot} {i : Nat} {v : Value} (hD : pm_D cx nL n0 s A al0 al H locs ls L sg mu nu) (h : lv_has ls' nL ((i, pm_at al v) :: (pm_lc al 0 L).filter (fun q => !(q.1 == i) && (!(q.1 == i + 1) && !(q.1 + 1 == i && q.2.category == 2))))) : pm_D cx nL n0 s A al0 al H locs ls' (pm_st2 L i v) sg mu nu :=
  ⟨hD.1, hD.2.1, hD.2.2.1, hD.2.2.2.1, hD.2.2.2.2.1, pm_has_mono h pm_st2_sub⟩
theorem pm_lc_place {al : Nat → Nat} {i : Nat} {v : Value} (h : L[i]? = some (some v)) : ∃ k : Nat, (pm_lc al 0 L)[k]? = some (i, pm_at al v) := by
  have : (i, pm_at al v) ∈ pm_lc al 0 L := (pm_lc_mem al L 0 _).mpr ⟨i, v, h, by simp⟩
  exact List.getElem?_of_mem this
theorem pm_fv_ov {al : Nat → Nat} {f : Nat → Int32} {j : Nat} {o : Option (Option Nat)} : pm_fv al f j o = pm_at al (pm_ov o (f j)) := by
  cases o with
  | none => rfl
  | some o => cases o <;> rfl
theorem pm_fields {own : String} {cc : ByteArray} {pc k ci j : Nat} {n : Nat} (h : pm_eok own cc (pc, .getfield k, n, .inl (ci, j)) = true) : ∃ q : vw_C, vwCl[ci]? = some q ∧ j < q.2.2 ∧ Cond.fieldLink own k (q.2.1 j).1 (q.2.1 j).2.1 (q.2.1 j).2.2.1 ∈ pm_tbl := by
  have h2 := (Bool.and_eq_true_iff.mp h).2
  have h3 : pm_fok own k ci j = true := h2
  unfold pm_fok at h3
  split at h3
  · rename_i q hq
    simp only [Bool.and_eq_true, decide_eq_true_eq, Nat.blt_eq] at h3
    exact ⟨q, hq, h3.1, h3.2⟩
  · cases h3
theorem pm_fieldsP {own : String} {cc : ByteArray} {pc k ci j : Nat} {n : Nat} (h : pm_eok own cc (pc, .putfield k, n, .inl (ci, j)) = true) : ∃ q : vw_C, vwCl[ci]? = some q ∧ j < q.2.2 ∧ Cond.fieldLink own k (q.2.1 j).1 (q.2.1 j).2.1 (q.2.1 j).2.2.1 ∈ pm_tbl := by
  have h2 := (Bool.and_eq_true_iff.mp h).2
  have h3 : pm_fok own k ci j = true := h2
  unfold pm_fok at h3
  split at h3
  · rename_i q hq
    simp only [Bool.and_eq_true, decide_eq_true_eq, Nat.blt_eq] at h3
    exact ⟨q, hq, h3.1, h3.2⟩
  · cases h3
end
end
section
set_option maxHeartbeats 2000000 in
set_option maxRecDepth 100000 in
theorem pm_one_ok {cx : pm_CX} {fx : pm_FX} {cells slots pc : Nat} {L L' : pm_L} {S S' : List Value} {sg : List pm_C} {mu mu' : pm_I} {nu : pm_J} {i : Instr} {n : Nat} {x : pm_X} (he : pm_eok fx.1.1.cls fx.1.2.1 (pc, i, n, x) = true) (h : pm_one sg fx.1.2.2.1 i n x L S mu = some (L', S', mu')) (k : pm_G cx fx cells slots (pc + n) L' S' sg mu' nu) : pm_G cx fx cells slots pc L S sg mu nu := by
  have hd : decode fx.1.2.1 pc = .ok (i, n) := pm_dc he
  unfold pm_one at h
  split at h
  · obtain ⟨rfl, h1⟩ := pm_k_some h
    obtain ⟨S1, h2, hz⟩ := pm_s_some h1
    cases hz
    obtain ⟨v, rfl, rfl⟩ := pm_cst32_some h2
    have hv := of_decide_eq_true (Bool.and_eq_true_iff.mp he).2
    exact pm_G.stk (fun p e s m args below meth c A al0 al H locs ls Q hS hD kk => lv_iconst hS.1 hS.2.1 hd hv kk) k
  · obtain ⟨rfl, h1⟩ := pm_k_some h
    obtain ⟨S1, h2, hz⟩ := pm_s_some h1
    cases hz
    obtain ⟨v, rfl, rfl⟩ := pm_cst32_some h2
    have hv := of_decide_eq_true (Bool.and_eq_true_iff.mp he).2
    exact pm_G.stk (fun p e s m args below meth c A al0 al H locs ls Q hS hD kk => lv_bipush hS.1 hS.2.1 hd hv kk) k
  · obtain ⟨rfl, h1⟩ := pm_k_some h
    obtain ⟨S1, h2, hz⟩ := pm_s_some h1
    cases hz
    obtain ⟨v, rfl, rfl⟩ := pm_cst32_some h2
    have hv := of_decide_eq_true (Bool.and_eq_true_iff.mp he).2
    exact pm_G.stk (fun p e s m args below meth c A al0 al H locs ls Q hS hD kk => lv_sipush hS.1 hS.2.1 hd hv kk) k
  · obtain ⟨rfl, h1⟩ := pm_k_some h
    obtain ⟨S1, h2, hz⟩ := pm_s_some h1
    cases hz
    obtain ⟨v, rfl, rfl⟩ := pm_cst32_some h2
    have hv := of_decide_eq_true (Bool.and_eq_true_iff.mp he).2
    exact pm_G.stk (fun p e s m args below meth c A al0 al H locs ls Q hS hD kk => lv_ldc hS.1 hS.2.1 hS.2.2.2.2.1 (hS.2.2.2.2.2.1 _ (List.mem_cons_of_mem _ hv)) hd kk) k
  · obtain ⟨rfl, h1⟩ := pm_k_some h
    obtain ⟨S1, h2, hz⟩ := pm_s_some h1
    cases hz
    obtain ⟨v, rfl, rfl⟩ := pm_cst32_some h2
    have hv := of_decide_eq_true (Bool.and_eq_true_iff.mp he).2
    exact pm_G.stk (fun p e s m args below meth c A al0 al H locs ls Q hS hD kk => lv_ldcw hS.1 hS.2.1 hS.2.2.2.2.1 (hS.2.2.2.2.2.1 _ (List.mem_cons_of_mem _ hv)) hd kk) k
  · obtain ⟨rfl, h1⟩ := pm_k_some h
    obtain ⟨S1, h2, hz⟩ := pm_s_some h1
    cases hz
    obtain ⟨v, rfl, rfl⟩ := pm_cst64_some h2
    have hv := of_decide_eq_true (Bool.and_eq_true_iff.mp he).2
    exact pm_G.stk (fun p e s m args below meth c A al0 al H locs ls Q hS hD kk => lv_lconst hS.1 hS.2.1 hd hv kk) k
  · obtain ⟨rfl, h1⟩ := pm_k_some h
    obtain ⟨S1, h2, hz⟩ := pm_s_some h1
    cases hz
    obtain ⟨v, rfl, rfl⟩ := pm_cst64_some h2
    have hv := of_decide_eq_true (Bool.and_eq_true_iff.mp he).2
    exact pm_G.stk (fun p e s m args below meth c A al0 al H locs ls Q hS hD kk => lv_ldc2 hS.1 hS.2.1 hS.2.2.2.2.1 (hS.2.2.2.2.2.1 _ (List.mem_cons_of_mem _ hv)) hd kk) k
  · obtain ⟨rfl, h1⟩ := pm_k_some h
    obtain ⟨S1, h2, hz⟩ := pm_s_some h1
    cases hz
    obtain ⟨y, hy, rfl⟩ := pm_ldi_some h2
    exact pm_G.stk (fun p e s m args below meth c A al0 al H locs ls Q hS hD kk => lv_iload_n hS.1 hS.2.1 hd rfl (pm_lc_at hD.2.2.2.2.2 hy) kk) k
  · obtain ⟨rfl, h1⟩ := pm_k_some h
    obtain ⟨S1, h2, hz⟩ := pm_s_some h1
    cases hz
    obtain ⟨y, hy, rfl⟩ := pm_ldi_some h2
    exact pm_G.stk (fun p e s m args below meth c A al0 al H locs ls Q hS hD kk => lv_iload hS.1 hS.2.1 hd (pm_lc_at hD.2.2.2.2.2 hy) kk) k
  · obtain ⟨rfl, h1⟩ := pm_k_some h
    obtain ⟨S1, h2, hz⟩ := pm_s_some h1
    cases hz
    obtain ⟨y, hy, rfl⟩ := pm_ldl_some h2
    exact pm_G.stk (fun p e s m args below meth c A al0 al H locs ls Q hS hD kk => lv_lload_n hS.1 hS.2.1 hd rfl (pm_lc_at hD.2.2.2.2.2 hy) kk) k
  · obtain ⟨rfl, h1⟩ := pm_k_some h
    obtain ⟨S1, h2, hz⟩ := pm_s_some h1
    cases hz
    obtain ⟨y, hy, rfl⟩ := pm_ldl_some h2
    exact pm_G.stk (fun p e s m args below meth c A al0 al H locs ls Q hS hD kk => lv_lload hS.1 hS.2.1 hd (pm_lc_at hD.2.2.2.2.2 hy) kk) k
  · obtain ⟨rfl, h1⟩ := pm_k_some h
    obtain ⟨S1, h2, hz⟩ := pm_s_some h1
    cases hz
    obtain ⟨y, hy, rfl⟩ := pm_lda_some h2
    exact pm_G.stk (fun p e s m args below meth c A al0 al H locs ls Q hS hD kk => lv_aload_n hS.1 hS.2.1 hd rfl (pm_lc_at hD.2.2.2.2.2 hy) kk) k
  · obtain ⟨rfl, h1⟩ := pm_k_some h
    obtain ⟨S1, h2, hz⟩ := pm_s_some h1
    cases hz
    obtain ⟨y, hy, rfl⟩ := pm_lda_some h2
    exact pm_G.stk (fun p e s m args below meth c A al0 al H locs ls Q hS hD kk => lv_aload hS.1 hS.2.1 hd (pm_lc_at hD.2.2.2.2.2 hy) kk) k
  · obtain ⟨rfl, h1⟩ := pm_k_some h
    obtain ⟨y, r, hi, rfl, hz⟩ := pm_sti_some h1
    cases hz
    intro p e s m args below meth c A al0 al H locs ls hS hD
    exact lv_istore_n hS.1 hS.2.1 hd rfl hD.2.2.2.2.2 hi rfl (fun ls2 hl2 => k p e s m args below meth c A al0 al H locs ls2 hS (pm_D.st1 (v := .int y) hD hl2))
  · obtain ⟨rfl, h1⟩ := pm_k_some h
    obtain ⟨y, r, hi, rfl, hz⟩ := pm_sti_some h1
    cases hz
    intro p e s m args below meth c A al0 al H locs ls hS hD
    exact lv_istore hS.1 hS.2.1 hd hD.2.2.2.2.2 hi rfl (fun ls2 hl2 => k p e s m args below meth c A al0 al H locs ls2 hS (pm_D.st1 (v := .int y) hD hl2))
  · obtain ⟨rfl, h1⟩ := pm_k_some h
    obtain ⟨y, r, hi, rfl, hz⟩ := pm_stl_some h1
    cases hz
    intro p e s m args below meth c A al0 al H locs ls hS hD
    exact lv_lstore_n hS.1 hS.2.1 hd rfl hD.2.2.2.2.2 hi rfl (fun ls2 hl2 => k p e s m args below meth c A al0 al H locs ls2 hS (pm_D.st2 (v := .long y) hD hl2))
  · obtain ⟨rfl, h1⟩ := pm_k_some h
    obtain ⟨y, r, hi, rfl, hz⟩ := pm_stl_some h1
    cases hz
    intro p e s m args below meth c A al0 al H locs ls hS hD
    exact lv_lstore hS.1 hS.2.1 hd hD.2.2.2.2.2 hi rfl (fun ls2 hl2 => k p e s m args below meth c A al0 al H locs ls2 hS (pm_D.st2 (v := .long y) hD hl2))
  · obtain ⟨rfl, h1⟩ := pm_k_some h
    obtain ⟨y, r, hi, rfl, hz⟩ := pm_sta_some h1
    cases hz
    intro p e s m args below meth c A al0 al H locs ls hS hD
    exact lv_astore_n hS.1 hS.2.1 hd rfl hD.2.2.2.2.2 hi rfl (fun ls2 hl2 => k p e s m args below meth c A al0 al H locs ls2 hS (pm_D.st1 (v := .ref y) hD hl2))
  · obtain ⟨rfl, h1⟩ := pm_k_some h
    obtain ⟨y, r, hi, rfl, hz⟩ := pm_sta_some h1
    cases hz
    intro p e s m args below meth c A al0 al H locs ls hS hD
    exact lv_astore hS.1 hS.2.1 hd hD.2.2.2.2.2 hi rfl (fun ls2 hl2 => k p e s m args below meth c A al0 al H locs ls2 hS (pm_D.st1 (v := .ref y) hD hl2))
  · obtain ⟨rfl, h1⟩ := pm_k_some h
    obtain ⟨y, v, hi, hy, rfl, hz⟩ := pm_inc_some h1
    cases hz
    have hv := of_decide_eq_true (Bool.and_eq_true_iff.mp he).2
    intro p e s m args below meth c A al0 al H locs ls hS hD
    obtain ⟨kk, hkk⟩ := pm_lc_place (al := al) hy
    exact lv_iinc (v := y + v) hS.1 hS.2.1 hd hD.2.2.2.2.2 hkk (by rw [hv]) hi rfl (fun ls2 hl2 => k p e s m args below meth c A al0 al H locs ls2 hS (pm_D.st1 (v := .int (y + v)) hD hl2))
  · obtain ⟨rfl, h1⟩ := pm_k_some h
    obtain ⟨S1, h2, hz⟩ := pm_s_some h1
    cases hz
    obtain ⟨a, b, r, rfl, rfl⟩ := pm_b32_some h2
    exact pm_G.stk (fun p e s m args below meth c A al0 al H locs ls Q hS hD kk => lv_iadd hS.1 hS.2.1 hd kk) k
  · obtain ⟨rfl, h1⟩ := pm_k_some h
    obtain ⟨S1, h2, hz⟩ := pm_s_some h1
    cases hz
    obtain ⟨a, b, r, rfl, rfl⟩ := pm_b32_some h2
    exact pm_G.stk (fun p e s m args below meth c A al0 al H locs ls Q hS hD kk => lv_isub hS.1 hS.2.1 hd kk) k
  · obtain ⟨rfl, h1⟩ := pm_k_some h
    obtain ⟨S1, h2, hz⟩ := pm_s_some h1
    cases hz
    obtain ⟨a, b, r, rfl, rfl⟩ := pm_b32_some h2
    exact pm_G.stk (fun p e s m args below meth c A al0 al H locs ls Q hS hD kk => lv_imul hS.1 hS.2.1 hd kk) k
  · obtain ⟨rfl, h1⟩ := pm_k_some h
    obtain ⟨S1, h2, hz⟩ := pm_s_some h1
    cases hz
    obtain ⟨a, b, r, rfl, rfl⟩ := pm_b32_some h2
    exact pm_G.stk (fun p e s m args below meth c A al0 al H locs ls Q hS hD kk => lv_iand hS.1 hS.2.1 hd kk) k
  · obtain ⟨rfl, h1⟩ := pm_k_some h
    obtain ⟨S1, h2, hz⟩ := pm_s_some h1
    cases hz
    obtain ⟨a, b, r, rfl, rfl⟩ := pm_b32_some h2
    exact pm_G.stk (fun p e s m args below meth c A al0 al H locs ls Q hS hD kk => lv_ior hS.1 hS.2.1 hd kk) k
  · obtain ⟨rfl, h1⟩ := pm_k_some h
    obtain ⟨S1, h2, hz⟩ := pm_s_some h1
    cases hz
    obtain ⟨a, b, r, rfl, rfl⟩ := pm_b32_some h2
    exact pm_G.stk (fun p e s m args below meth c A al0 al H locs ls Q hS hD kk => lv_ixor hS.1 hS.2.1 hd kk) k
  · obtain ⟨rfl, h1⟩ := pm_k_some h
    obtain ⟨S1, h2, hz⟩ := pm_s_some h1
    cases hz
    obtain ⟨a, b, r, rfl, rfl⟩ := pm_b32_some h2
    exact pm_G.stk (fun p e s m args below meth c A al0 al H locs ls Q hS hD kk => lv_ishl hS.1 hS.2.1 hd kk) k
  · obtain ⟨rfl, h1⟩ := pm_k_some h
    obtain ⟨S1, h2, hz⟩ := pm_s_some h1
    cases hz
    obtain ⟨a, b, r, rfl, rfl⟩ := pm_b32_some h2
    exact pm_G.stk (fun p e s m args below meth c A al0 al H locs ls Q hS hD kk => lv_ishr hS.1 hS.2.1 hd kk) k
  · obtain ⟨rfl, h1⟩ := pm_k_some h
    obtain ⟨S1, h2, hz⟩ := pm_s_some h1
    cases hz
    obtain ⟨a, b, r, rfl, rfl⟩ := pm_b32_some h2
    exact pm_G.stk (fun p e s m args below meth c A al0 al H locs ls Q hS hD kk => lv_iushr hS.1 hS.2.1 hd rfl kk) k
  · obtain ⟨rfl, h1⟩ := pm_k_some h
    obtain ⟨S1, h2, hz⟩ := pm_s_some h1
    cases hz
    obtain ⟨a, b, r, rfl, rfl⟩ := pm_b64_some h2
    exact pm_G.stk (fun p e s m args below meth c A al0 al H locs ls Q hS hD kk => lv_ladd hS.1 hS.2.1 hd kk) k
  · obtain ⟨rfl, h1⟩ := pm_k_some h
    obtain ⟨S1, h2, hz⟩ := pm_s_some h1
    cases hz
    obtain ⟨a, b, r, rfl, rfl⟩ := pm_b64_some h2
    exact pm_G.stk (fun p e s m args below meth c A al0 al H locs ls Q hS hD kk => lv_lmul hS.1 hS.2.1 hd kk) k
  · obtain ⟨rfl, h1⟩ := pm_k_some h
    obtain ⟨S1, h2, hz⟩ := pm_s_some h1
    cases hz
    obtain ⟨a, b, r, rfl, rfl⟩ := pm_b64_some h2
    exact pm_G.stk (fun p e s m args below meth c A al0 al H locs ls Q hS hD kk => lv_land hS.1 hS.2.1 hd kk) k
  · obtain ⟨rfl, h1⟩ := pm_k_some h
    obtain ⟨S1, h2, hz⟩ := pm_s_some h1
    cases hz
    obtain ⟨a, b, r, rfl, rfl⟩ := pm_b64_some h2
    exact pm_G.stk (fun p e s m args below meth c A al0 al H locs ls Q hS hD kk => lv_lxor hS.1 hS.2.1 hd kk) k
  · obtain ⟨rfl, h1⟩ := pm_k_some h
    obtain ⟨S1, h2, hz⟩ := pm_s_some h1
    cases hz
    obtain ⟨a, b, r, rfl, rfl⟩ := pm_bsh_some h2
    exact pm_G.stk (fun p e s m args below meth c A al0 al H locs ls Q hS hD kk => lv_lshl hS.1 hS.2.1 hd rfl kk) k
  · obtain ⟨rfl, h1⟩ := pm_k_some h
    obtain ⟨S1, h2, hz⟩ := pm_s_some h1
    cases hz
    obtain ⟨a, b, r, rfl, rfl⟩ := pm_bsh_some h2
    exact pm_G.stk (fun p e s m args below meth c A al0 al H locs ls Q hS hD kk => lv_lshr hS.1 hS.2.1 hd rfl kk) k
  · obtain ⟨rfl, h1⟩ := pm_k_some h
    obtain ⟨S1, h2, hz⟩ := pm_s_some h1
    cases hz
    obtain ⟨a, r, rfl, rfl⟩ := pm_i2l_some h2
    exact pm_G.stk (fun p e s m args below meth c A al0 al H locs ls Q hS hD kk => lv_i2l hS.1 hS.2.1 hd rfl kk) k
  · obtain ⟨rfl, h1⟩ := pm_k_some h
    obtain ⟨S1, h2, hz⟩ := pm_s_some h1
    cases hz
    obtain ⟨a, r, rfl, rfl⟩ := pm_l2i_some h2
    exact pm_G.stk (fun p e s m args below meth c A al0 al H locs ls Q hS hD kk => lv_l2i hS.1 hS.2.1 hd rfl kk) k
  · obtain ⟨rfl, h1⟩ := pm_k_some h
    obtain ⟨S1, h2, hz⟩ := pm_s_some h1
    cases hz
    obtain ⟨a, b, r, rfl, rfl⟩ := pm_lcmp_some h2
    exact pm_G.stk (fun p e s m args below meth c A al0 al H locs ls Q hS hD kk => W.lcmp hS.1 hS.2.1 hd kk) k
  · obtain ⟨rfl, h1⟩ := pm_k_some h
    obtain ⟨S1, h2, hz⟩ := pm_s_some h1
    cases hz
    obtain ⟨v, r, rfl, hc, rfl⟩ := pm_dup_some h2
    exact pm_G.stk (fun p e s m args below meth c A al0 al H locs ls Q hS hD kk => lv_dup hS.1 hS.2.1 hd (hc al) kk) k
  · obtain ⟨rfl, h1⟩ := pm_k_some h
    obtain ⟨S1, h2, hz⟩ := pm_s_some h1
    cases hz
    obtain ⟨a, b, r, rfl, rfl⟩ := pm_dup2_some h2
    exact pm_G.stk (fun p e s m args below meth c A al0 al H locs ls Q hS hD kk => lv_dup2_11 (va := .int a) (vb := .ref (al b)) hS.1 hS.2.1 hd rfl rfl kk) k
  · obtain ⟨rfl, h1⟩ := pm_k_some h
    obtain ⟨S1, h2, hz⟩ := pm_s_some h1
    cases hz
    obtain ⟨ci, j, kc, r, fs, o, rfl, rfl, hsg, hfs, rfl⟩ := pm_gf_some h2
    obtain ⟨q, hq, hj, hlk⟩ := pm_fields he
    exact pm_G.stk (fun p e s m args below meth c A al0 al H locs ls Q hS hD kk => va_get (D := (cx.2.1, cx.2.2.1)) (ci := ci) (v := pm_at al (pm_ov o (mu kc j))) (C := q.1) (T := q.2.1) (N := q.2.2) hS.1 hS.2.1 hS.2.2.2.2.2.1 (fun w hw => List.mem_cons_of_mem _ ((pm_cls hq).1 w hw)) hS.2.2.2.2.1 hS.2.2.2.2.2.2.2.2.2.1 hD.2.2.1 kc (pm_W_at hsg) hq j hj (hS.2.2.2.2.2.1 _ (List.mem_cons_of_mem _ hlk)) (fun _ h9 => h9) (by rw [pm_fl_get, hfs]; simp only [Option.map_some, Nat.zero_add, pm_fv_ov]) hd kk) k
  · obtain ⟨rfl, h1⟩ := pm_k_some h
    obtain ⟨ci, j, v, kc, r, fs, rfl, rfl, hI, hsg, hfs, hz⟩ := pm_pf_some h1
    cases hz
    obtain ⟨q, hq, hj, hlk⟩ := pm_fieldsP he
    obtain ⟨q2, hq2, hj2, hdesc, hfin⟩ := pm_isI_ok hI
    cases hq.symm.trans hq2
    obtain ⟨hin, ty0, hty, hnm⟩ := pm_cls hq
    intro p e s m args below meth c A al0 al H locs ls hS hD
    have hlt : j < fs.length := (List.getElem?_eq_some_iff.mp hfs).1
    refine va_put (D := (cx.2.1, cx.2.2.1)) (ci := ci) (v := .int v) (ty := .int) (C := q.1) (T := q.2.1) (N := q.2.2) hS.1 hS.2.1 hS.2.2.2.2.2.1 (fun w hw => List.mem_cons_of_mem _ (hin w hw)) ty0 hty hnm hS.2.2.2.2.1 hS.2.2.2.2.2.2.2.2.2.1 hD.2.2.1 hD.2.2.2.1 hD.2.2.2.2.1 kc (pm_W_at hsg) hq j hj (hS.2.2.2.2.2.1 _ (List.mem_cons_of_mem _ hlk)) (fun _ h9 => h9) hfin (by rw [hdesc]; rfl) rfl rfl (by rw [pm_fl_len]; exact hlt) hd (fun H1 locs1 hP1 hD1 hS1 => ?_)
    have e1 : (pm_W cx.2.2.2 al mu nu 0 sg).set kc (al kc, .inr (ci, (pm_fl al (mu kc) 0 fs).set j (.int v))) = pm_W cx.2.2.2 al (pm_up mu kc j v) nu 0 sg := by
      refine pm_W_set rfl (fun a c ha hc => ⟨hc, pm_up_ne ha, rfl⟩) (fun c hc => ?_)
      rw [hsg] at hc
      cases hc
      show Sum.inr _ = _
      rw [pm_fl_set _ _ _ _ _ _ hfs, pm_up_eq, Nat.zero_add]
    rw [e1] at hP1 hD1
    exact k p e s m args below meth c A al0 al H1 locs1 ls hS ⟨hD.1, hD.2.1, hP1, hD1, hS1, hD.2.2.2.2.2⟩
  · obtain ⟨rfl, h1⟩ := pm_k_some h
    obtain ⟨S1, h2, hz⟩ := pm_s_some h1
    cases hz
    obtain ⟨kc, r, n, rs, rfl, hsg | hsg, rfl⟩ := pm_al_some h2
    · exact pm_G.stk (fun p e s m args below meth c A al0 al H locs ls Q hS hD kk => va_alen hS.1 hS.2.1 hS.2.2.2.2.2.2.2.2.2.1 hD.2.2.1 kc 0 (pm_W_at hsg) rfl rfl hd kk) k
    · exact pm_G.stk (fun p e s m args below meth c A al0 al H locs ls Q hS hD kk => va_alen hS.1 hS.2.1 hS.2.2.2.2.2.2.2.2.2.1 hD.2.2.1 kc 2 (pm_W_at hsg) rfl rfl hd kk) k
  · cases h
/-! runs -/
def pm_find : List pm_E → Nat → List pm_E
  | [], _ => []
  | en :: r, pc => match Nat.beq en.1 pc with
    | true => en :: r
    | false => pm_find r pc
theorem pm_find_sub (pc : Nat) : ∀ (tab : List pm_E), ∀ en ∈ pm_find tab pc, en ∈ tab := by
  intro tab
  induction tab with
  | nil => intro en h; cases h
  | cons a r ih =>
    intro en h
    unfold pm_find at h
    split at h
    · exact h
    · exact List.mem_cons_of_mem _ (ih en h)
theorem pm_find_hd (pc : Nat) : ∀ (tab : List pm_E) (en : pm_E) (r : List pm_E), pm_find tab pc = en :: r → en.1 = pc := by
  intro tab
  induction tab with
  | nil => intro en r h; cases h
  | cons a r ih =>
    intro en r2 h
    unfold pm_find at h
    split at h
    · rename_i h1
      cases h
      exact Nat.eq_of_beq_eq_true h1
    · exact ih en r2 h
def pm_isgo (i : Instr) : Bool := match i with
  | .goto _ => true
  | _ => false
def pm_run (tab : List pm_E) (sg : List pm_C) (nL stop : Nat) : Nat → List pm_E → Nat → pm_L → List Value → pm_I → Nat × pm_R
  | 0, _, pc, L, S, mu => (pc, L, S, mu)
  | _ + 1, [], pc, L, S, mu => (pc, L, S, mu)
  | n + 1, en :: r, pc, L, S, mu => match Nat.beq en.1 pc with
    | false => (pc, L, S, mu)
    | true => match pm_isgo en.2.1 with
      | true => (match en.2.2.2, Nat.beq en.2.2.1 3 with
        | .inl (t, _), true => (match Nat.beq t stop with
          | true => (t, L, S, mu)
          | false => pm_run tab sg nL stop n (pm_find tab t) t L S mu)
        | _, _ => (pc, L, S, mu))
      | false => (match pm_one sg nL en.2.1 en.2.2.1 en.2.2.2 L S mu with
        | none => (pc, L, S, mu)
        | some (L', S', mu') => (match r with
          | [] => (pc, L, S, mu)
          | en2 :: r2 => (match Nat.beq (en.1 + en.2.2.1) en2.1 with
            | false => (pc, L, S, mu)
            | true => (match Nat.beq en2.1 stop with
              | true => (en2.1, L', S', mu')
              | false => pm_run tab sg nL stop n (en2 :: r2) en2.1 L' S' mu'))))
theorem pm_run_ok {cx : pm_CX} {fx : pm_FX} {cells slots : Nat} {sg : List pm_C} {nu : pm_J} (stop : Nat) (hok : pm_ok fx.1 = true) : ∀ (n : Nat) (suf : List pm_E) (pc : Nat) (L : pm_L) (S : List Value) (mu : pm_I), (∀ en ∈ suf, en ∈ fx.1.2.2.2.2) → ∀ z, pm_run fx.1.2.2.2.2 sg fx.1.2.2.1 stop n suf pc L S mu = z → pm_G cx fx cells slots z.1 z.2.1 z.2.2.1 sg z.2.2.2 nu → pm_G cx fx cells slots pc L S sg mu nu := by
  obtain ⟨-, -, -, -, hall⟩ := pm_ok_parts hok
  intro n
  induction n with
  | zero =>
    intro suf pc L S mu hs z hz k
    subst hz
    cases suf <;> exact k
  | succ n ih =>
    intro suf pc L S mu hs z hz k
    cases suf with
    | nil => subst hz; exact k
    | cons en r =>
      unfold pm_run at hz
      split at hz
      · subst hz; exact k
      · rename_i hpc
        have hpc := Nat.eq_of_beq_eq_true hpc
        obtain ⟨p0, i0, n0, x0⟩ := en
        dsimp only at hpc hz
        subst hpc
        have he := hall _ (hs _ List.mem_cons_self)
        split at hz
        · rename_i hgo
          unfold pm_isgo at hgo
          split at hgo
          · rename_i off
            split at hz
            · rename_i t u hlen
              have ht := of_decide_eq_true (Bool.and_eq_true_iff.mp he).2
              have hdec := pm_dc he
              have hlen : n0 = 3 := Nat.eq_of_beq_eq_true hlen
              subst hlen
              have kk : pm_G cx fx cells slots t L S sg mu nu := by
                split at hz
                · subst hz; exact k
                · exact ih _ _ _ _ _ (pm_find_sub t _) z hz k
              exact pm_G.stk (fun p e s m args below meth c A al0 al H locs ls Q hS hD kk => lv_goto hS.1 hS.2.1 hdec ht kk) kk
            · subst hz; exact k
          · cases hgo
        · split at hz
          · subst hz; exact k
          · rename_i L1 S1 mu1 hone
            split at hz
            · subst hz; exact k
            · rename_i en2 r2
              split at hz
              · subst hz; exact k
              · rename_i hnx
                have hnx := Nat.eq_of_beq_eq_true hnx
                have kk : pm_G cx fx cells slots (p0 + n0) L1 S1 sg mu1 nu := by
                  rw [hnx]
                  split at hz
                  · subst hz; exact k
                  · exact ih _ _ _ _ _ (fun en h => hs en (List.mem_cons_of_mem _ h)) z hz k
                exact pm_one_ok he hone kk
/-- a straight stretch, up to 'stop' or to what isn't straight -/
theorem pm_go {cx : pm_CX} {fx : pm_FX} {cells slots pc pc' : Nat} {L L' : pm_L} {S S' : List Value} {sg : List pm_C} {mu mu' : pm_I} {nu : pm_J} (stop : Nat) (hok : pm_ok fx.1 = true) (h : pm_run fx.1.2.2.2.2 sg fx.1.2.2.1 stop 400 (pm_find fx.1.2.2.2.2 pc) pc L S mu = (pc', L', S', mu')) (k : pm_G cx fx cells slots pc' L' S' sg mu' nu) : pm_G cx fx cells slots pc L S sg mu nu :=
  pm_run_ok stop hok 400 _ pc L S mu (pm_find_sub pc _) _ h k
end
section
/-! ===== what isn't straight: branches, arrays, divisions, calls, ends ===== -/
def pm_ent (tab : List pm_E) (pc : Nat) : Option ((Instr × Nat × pm_X) × Nat) := match pm_find tab pc with
  | en :: en2 :: _ => (match Nat.beq (en.1 + en.2.2.1) en2.1 with
    | true => some (en.2, en2.1)
    | false => some (en.2, en.1 + en.2.2.1))
  | [en] => some (en.2, en.1 + en.2.2.1)
  | [] => none
theorem pm_ent_ok {mi : pm_M} {pc nx n : Nat} {i : Instr} {x : pm_X} (hok : pm_ok mi = true) (h : pm_ent mi.2.2.2.2 pc = some ((i, n, x), nx)) : pm_eok mi.1.cls mi.2.1 (pc, i, n, x) = true ∧ nx = pc + n := by
  obtain ⟨-, -, -, -, hall⟩ := pm_ok_parts hok
  unfold pm_ent at h
  split at h
  · rename_i en en2 r hf
    have h1 := pm_find_hd _ _ _ _ hf
    have h2 := hall en (pm_find_sub pc _ en (by rw [hf]; exact List.mem_cons_self))
    obtain ⟨p0, i0, n0, x0⟩ := en
    dsimp only at h1 h
    subst h1
    split at h
    · rename_i h3
      have h3 := Nat.eq_of_beq_eq_true h3
      cases h
      exact ⟨h2, h3.symm⟩
    · cases h
      exact ⟨h2, rfl⟩
  · rename_i en hf
    have h1 := pm_find_hd _ _ _ _ hf
    have h2 := hall en (pm_find_sub pc _ en (by rw [hf]; exact List.mem_cons_self))
    obtain ⟨p0, i0, n0, x0⟩ := en
    dsimp only at h1 h
    subst h1
    cases h
    exact ⟨h2, rfl⟩
  · cases h
section
variable {cx : pm_CX} {fx : pm_FX} {cells slots pc nx : Nat} {L : pm_L} {S : List Value} {sg : List pm_C} {mu : pm_I} {nu : pm_J}
theorem pm_ieq (hok : pm_ok fx.1 = true) {off : Int} {t u : Nat} {x y : Int32} (h : pm_ent fx.1.2.2.2.2 pc = some ((.if_icmp .eq off, 3, .inl (t, u)), nx)) (kt : x = y → pm_G cx fx cells slots t L S sg mu nu) (kf : ¬ x = y → pm_G cx fx cells slots nx L S sg mu nu) : pm_G cx fx cells slots pc L (.int y :: .int x :: S) sg mu nu := by
  obtain ⟨he, rfl⟩ := pm_ent_ok hok h
  have ht := of_decide_eq_true (Bool.and_eq_true_iff.mp he).2
  intro p e s m args below meth c A al0 al H locs ls hS hD
  exact lv_icmp_eq hS.1 hS.2.1 (pm_dc he) ht (fun q => kt q p e s m args below meth c A al0 al H locs ls hS hD) (fun q => kf q p e s m args below meth c A al0 al H locs ls hS hD)
theorem pm_zeq (hok : pm_ok fx.1 = true) {off : Int} {t u : Nat} {x : Int32} (h : pm_ent fx.1.2.2.2.2 pc = some ((.ifCond .eq off, 3, .inl (t, u)), nx)) (kt : x = 0 → pm_G cx fx cells slots t L S sg mu nu) (kf : ¬ x = 0 → pm_G cx fx cells slots nx L S sg mu nu) : pm_G cx fx cells slots pc L (.int x :: S) sg mu nu := by
  obtain ⟨he, rfl⟩ := pm_ent_ok hok h
  have ht := of_decide_eq_true (Bool.and_eq_true_iff.mp he).2
  intro p e s m args below meth c A al0 al H locs ls hS hD
  exact lv_if_eq hS.1 hS.2.1 (pm_dc he) ht (fun q => kt q p e s m args below meth c A al0 al H locs ls hS hD) (fun q => kf q p e s m args below meth c A al0 al H locs ls hS hD)
theorem pm_ine (hok : pm_ok fx.1 = true) {off : Int} {t u : Nat} {x y : Int32} (h : pm_ent fx.1.2.2.2.2 pc = some ((.if_icmp .ne off, 3, .inl (t, u)), nx)) (kt : ¬ x = y → pm_G cx fx cells slots t L S sg mu nu) (kf : x = y → pm_G cx fx cells slots nx L S sg mu nu) : pm_G cx fx cells slots pc L (.int y :: .int x :: S) sg mu nu := by
  obtain ⟨he, rfl⟩ := pm_ent_ok hok h
  have ht := of_decide_eq_true (Bool.and_eq_true_iff.mp he).2
  intro p e s m args below meth c A al0 al H locs ls hS hD
  exact lv_icmp_ne hS.1 hS.2.1 (pm_dc he) ht (fun q => kt q p e s m args below meth c A al0 al H locs ls hS hD) (fun q => kf q p e s m args below meth c A al0 al H locs ls hS hD)
theorem pm_zne (hok : pm_ok fx.1 = true) {off : Int} {t u : Nat} {x : Int32} (h : pm_ent fx.1.2.2.2.2 pc = some ((.ifCond .ne off, 3, .inl (t, u)), nx)) (kt : ¬ x = 0 → pm_G cx fx cells slots t L S sg mu nu) (kf : x = 0 → pm_G cx fx cells slots nx L S sg mu nu) : pm_G cx fx cells slots pc L (.int x :: S) sg mu nu := by
  obtain ⟨he, rfl⟩ := pm_ent_ok hok h
  have ht := of_decide_eq_true (Bool.and_eq_true_iff.mp he).2
  intro p e s m args below meth c A al0 al H locs ls hS hD
  exact lv_if_ne hS.1 hS.2.1 (pm_dc he) ht (fun q => kt q p e s m args below meth c A al0 al H locs ls hS hD) (fun q => kf q p e s m args below meth c A al0 al H locs ls hS hD)
theorem pm_ilt (hok : pm_ok fx.1 = true) {off : Int} {t u : Nat} {x y : Int32} (h : pm_ent fx.1.2.2.2.2 pc = some ((.if_icmp .lt off, 3, .inl (t, u)), nx)) (kt : x < y → pm_G cx fx cells slots t L S sg mu nu) (kf : ¬ x < y → pm_G cx fx cells slots nx L S sg mu nu) : pm_G cx fx cells slots pc L (.int y :: .int x :: S) sg mu nu := by
  obtain ⟨he, rfl⟩ := pm_ent_ok hok h
  have ht := of_decide_eq_true (Bool.and_eq_true_iff.mp he).2
  intro p e s m args below meth c A al0 al H locs ls hS hD
  exact lv_icmp_lt hS.1 hS.2.1 (pm_dc he) ht (fun q => kt q p e s m args below meth c A al0 al H locs ls hS hD) (fun q => kf q p e s m args below meth c A al0 al H locs ls hS hD)
theorem pm_zlt (hok : pm_ok fx.1 = true) {off : Int} {t u : Nat} {x : Int32} (h : pm_ent fx.1.2.2.2.2 pc = some ((.ifCond .lt off, 3, .inl (t, u)), nx)) (kt : x < 0 → pm_G cx fx cells slots t L S sg mu nu) (kf : ¬ x < 0 → pm_G cx fx cells slots nx L S sg mu nu) : pm_G cx fx cells slots pc L (.int x :: S) sg mu nu := by
  obtain ⟨he, rfl⟩ := pm_ent_ok hok h
  have ht := of_decide_eq_true (Bool.and_eq_true_iff.mp he).2
  intro p e s m args below meth c A al0 al H locs ls hS hD
  exact lv_if_lt hS.1 hS.2.1 (pm_dc he) ht (fun q => kt q p e s m args below meth c A al0 al H locs ls hS hD) (fun q => kf q p e s m args below meth c A al0 al H locs ls hS hD)
theorem pm_ige (hok : pm_ok fx.1 = true) {off : Int} {t u : Nat} {x y : Int32} (h : pm_ent fx.1.2.2.2.2 pc = some ((.if_icmp .ge off, 3, .inl (t, u)), nx)) (kt : y ≤ x → pm_G cx fx cells slots t L S sg mu nu) (kf : ¬ y ≤ x → pm_G cx fx cells slots nx L S sg mu nu) : pm_G cx fx cells slots pc L (.int y :: .int x :: S) sg mu nu := by
  obtain ⟨he, rfl⟩ := pm_ent_ok hok h
  have ht := of_decide_eq_true (Bool.and_eq_true_iff.mp he).2
  intro p e s m args below meth c A al0 al H locs ls hS hD
  exact lv_icmp_ge hS.1 hS.2.1 (pm_dc he) ht (fun q => kt q p e s m args below meth c A al0 al H locs ls hS hD) (fun q => kf q p e s m args below meth c A al0 al H locs ls hS hD)
theorem pm_zge (hok : pm_ok fx.1 = true) {off : Int} {t u : Nat} {x : Int32} (h : pm_ent fx.1.2.2.2.2 pc = some ((.ifCond .ge off, 3, .inl (t, u)), nx)) (kt : 0 ≤ x → pm_G cx fx cells slots t L S sg mu nu) (kf : ¬ 0 ≤ x → pm_G cx fx cells slots nx L S sg mu nu) : pm_G cx fx cells slots pc L (.int x :: S) sg mu nu := by
  obtain ⟨he, rfl⟩ := pm_ent_ok hok h
  have ht := of_decide_eq_true (Bool.and_eq_true_iff.mp he).2
  intro p e s m args below meth c A al0 al H locs ls hS hD
  exact lv_if_ge hS.1 hS.2.1 (pm_dc he) ht (fun q => kt q p e s m args below meth c A al0 al H locs ls hS hD) (fun q => kf q p e s m args below meth c A al0 al H locs ls hS hD)
theorem pm_igt (hok : pm_ok fx.1 = true) {off : Int} {t u : Nat} {x y : Int32} (h : pm_ent fx.1.2.2.2.2 pc = some ((.if_icmp .gt off, 3, .inl (t, u)), nx)) (kt : y < x → pm_G cx fx cells slots t L S sg mu nu) (kf : ¬ y < x → pm_G cx fx cells slots nx L S sg mu nu) : pm_G cx fx cells slots pc L (.int y :: .int x :: S) sg mu nu := by
  obtain ⟨he, rfl⟩ := pm_ent_ok hok h
  have ht := of_decide_eq_true (Bool.and_eq_true_iff.mp he).2
  intro p e s m args below meth c A al0 al H locs ls hS hD
  exact lv_icmp_gt hS.1 hS.2.1 (pm_dc he) ht (fun q => kt q p e s m args below meth c A al0 al H locs ls hS hD) (fun q => kf q p e s m args below meth c A al0 al H locs ls hS hD)
theorem pm_zgt (hok : pm_ok fx.1 = true) {off : Int} {t u : Nat} {x : Int32} (h : pm_ent fx.1.2.2.2.2 pc = some ((.ifCond .gt off, 3, .inl (t, u)), nx)) (kt : 0 < x → pm_G cx fx cells slots t L S sg mu nu) (kf : ¬ 0 < x → pm_G cx fx cells slots nx L S sg mu nu) : pm_G cx fx cells slots pc L (.int x :: S) sg mu nu := by
  obtain ⟨he, rfl⟩ := pm_ent_ok hok h
  have ht := of_decide_eq_true (Bool.and_eq_true_iff.mp he).2
  intro p e s m args below meth c A al0 al H locs ls hS hD
  exact lv_if_gt hS.1 hS.2.1 (pm_dc he) ht (fun q => kt q p e s m args below meth c A al0 al H locs ls hS hD) (fun q => kf q p e s m args below meth c A al0 al H locs ls hS hD)
theorem pm_ile (hok : pm_ok fx.1 = true) {off : Int} {t u : Nat} {x y : Int32} (h : pm_ent fx.1.2.2.2.2 pc = some ((.if_icmp .le off, 3, .inl (t, u)), nx)) (kt : x ≤ y → pm_G cx fx cells slots t L S sg mu nu) (kf : ¬ x ≤ y → pm_G cx fx cells slots nx L S sg mu nu) : pm_G cx fx cells slots pc L (.int y :: .int x :: S) sg mu nu := by
  obtain ⟨he, rfl⟩ := pm_ent_ok hok h
  have ht := of_decide_eq_true (Bool.and_eq_true_iff.mp he).2
  intro p e s m args below meth c A al0 al H locs ls hS hD
  exact lv_icmp_le hS.1 hS.2.1 (pm_dc he) ht (fun q => kt q p e s m args below meth c A al0 al H locs ls hS hD) (fun q => kf q p e s m args below meth c A al0 al H locs ls hS hD)
theorem pm_zle (hok : pm_ok fx.1 = true) {off : Int} {t u : Nat} {x : Int32} (h : pm_ent fx.1.2.2.2.2 pc = some ((.ifCond .le off, 3, .inl (t, u)), nx)) (kt : x ≤ 0 → pm_G cx fx cells slots t L S sg mu nu) (kf : ¬ x ≤ 0 → pm_G cx fx cells slots nx L S sg mu nu) : pm_G cx fx cells slots pc L (.int x :: S) sg mu nu := by
  obtain ⟨he, rfl⟩ := pm_ent_ok hok h
  have ht := of_decide_eq_true (Bool.and_eq_true_iff.mp he).2
  intro p e s m args below meth c A al0 al H locs ls hS hD
  exact lv_if_le hS.1 hS.2.1 (pm_dc he) ht (fun q => kt q p e s m args below meth c A al0 al H locs ls hS hD) (fun q => kf q p e s m args below meth c A al0 al H locs ls hS hD)
theorem pm_ial (hok : pm_ok fx.1 = true) {x : pm_X} {i : Int32} {k n : Nat} {rs : List (Option (Option Nat))} (h : pm_ent fx.1.2.2.2.2 pc = some ((.iaload, 1, x), nx)) (hs : sg[k]? = some (1, n, rs)) (hin : vp_in i n) (kk : pm_G cx fx cells slots nx L (.int (mu k i.toNatClampNeg) :: S) sg mu nu) : pm_G cx fx cells slots pc L (.int i :: .ref k :: S) sg mu nu := by
  obtain ⟨he, rfl⟩ := pm_ent_ok hok h
  exact pm_G.stk (fun p e s m args below meth c A al0 al H locs ls Q hS hD kk => va_iald hS.1 hS.2.1 hS.2.2.2.2.2.2.2.2.2.1 hD.2.2.1 k 0 (pm_W_at hs) rfl hin (pm_dc he) kk) kk
theorem pm_zal (hok : pm_ok fx.1 = true) {x : pm_X} {i : Int32} {k n : Nat} {rs : List (Option (Option Nat))} (h : pm_ent fx.1.2.2.2.2 pc = some ((.baload, 1, x), nx)) (hs : sg[k]? = some (2, n, rs)) (hin : vp_in i n) (kk : pm_G cx fx cells slots nx L (.int (mu k i.toNatClampNeg) :: S) sg mu nu) : pm_G cx fx cells slots pc L (.int i :: .ref k :: S) sg mu nu := by
  obtain ⟨he, rfl⟩ := pm_ent_ok hok h
  exact pm_G.stk (fun p e s m args below meth c A al0 al H locs ls Q hS hD kk => va_zald hS.1 hS.2.1 hS.2.2.2.2.2.2.2.2.2.1 hD.2.2.1 k 1 (pm_W_at hs) rfl hin (pm_dc he) kk) kk
theorem pm_lal (hok : pm_ok fx.1 = true) {x : pm_X} {i : Int32} {k n : Nat} {rs : List (Option (Option Nat))} (h : pm_ent fx.1.2.2.2.2 pc = some ((.laload, 1, x), nx)) (hs : sg[k]? = some (3, n, rs)) (hin : vp_in i n) (kk : pm_G cx fx cells slots nx L (.long (nu k i.toNatClampNeg) :: S) sg mu nu) : pm_G cx fx cells slots pc L (.int i :: .ref k :: S) sg mu nu := by
  obtain ⟨he, rfl⟩ := pm_ent_ok hok h
  exact pm_G.stk (fun p e s m args below meth c A al0 al H locs ls Q hS hD kk => va_lald hS.1 hS.2.1 hS.2.2.2.2.2.2.2.2.2.1 hD.2.2.1 k 2 (pm_W_at hs) rfl hin (pm_dc he) kk) kk
theorem pm_ias (hok : pm_ok fx.1 = true) {x : pm_X} {i : Int32} {v : Int32} {k n : Nat} {rs : List (Option (Option Nat))} (h : pm_ent fx.1.2.2.2.2 pc = some ((.iastore, 1, x), nx)) (hs : sg[k]? = some (1, n, rs)) (hin : vp_in i n) (kk : pm_G cx fx cells slots nx L S sg (pm_up mu k i.toNatClampNeg v) (nu)) : pm_G cx fx cells slots pc L (.int v :: .int i :: .ref k :: S) sg mu nu := by
  obtain ⟨he, rfl⟩ := pm_ent_ok hok h
  intro p e s m args below meth c A al0 al H locs ls hS hD
  refine va_iast hS.1 hS.2.1 hS.2.2.2.2.2.2.2.2.2.1 hD.2.2.1 hD.2.2.2.1 hD.2.2.2.2.1 k 0 (pm_W_at hs) rfl hin (pm_dc he) (fun H1 locs1 hP1 hD1 hS1 => ?_)
  have e1 : (pm_W cx.2.2.2 al mu nu 0 sg).set k (al k, .inl (cx.2.2.2 0, n, .inl (upd (mu k) i.toNatClampNeg v))) = pm_W cx.2.2.2 al (pm_up mu k i.toNatClampNeg v) (nu) 0 sg := by
    refine pm_W_set rfl (fun a c ha hc => ⟨hc, pm_up_ne ha, rfl⟩) (fun c hc => ?_)
    rw [hs] at hc
    cases hc
    show Sum.inl _ = _
    rw [pm_up_eq]
  rw [e1] at hP1 hD1
  exact kk p e s m args below meth c A al0 al H1 locs1 ls hS ⟨hD.1, hD.2.1, hP1, hD1, hS1, hD.2.2.2.2.2⟩
theorem pm_zas (hok : pm_ok fx.1 = true) {x : pm_X} {i : Int32} {v : Int32} {k n : Nat} {rs : List (Option (Option Nat))} (h : pm_ent fx.1.2.2.2.2 pc = some ((.bastore, 1, x), nx)) (hs : sg[k]? = some (2, n, rs)) (hin : vp_in i n) (kk : pm_G cx fx cells slots nx L S sg (pm_up mu k i.toNatClampNeg (vp_nar .boolean v)) (nu)) : pm_G cx fx cells slots pc L (.int v :: .int i :: .ref k :: S) sg mu nu := by
  obtain ⟨he, rfl⟩ := pm_ent_ok hok h
  intro p e s m args below meth c A al0 al H locs ls hS hD
  refine va_zast hS.1 hS.2.1 hS.2.2.2.2.2.2.2.2.2.1 hD.2.2.1 hD.2.2.2.1 hD.2.2.2.2.1 k 1 (pm_W_at hs) rfl hin (pm_dc he) (fun H1 locs1 hP1 hD1 hS1 => ?_)
  have e1 : (pm_W cx.2.2.2 al mu nu 0 sg).set k (al k, .inl (cx.2.2.2 1, n, .inl (upd (mu k) i.toNatClampNeg (vp_nar .boolean v)))) = pm_W cx.2.2.2 al (pm_up mu k i.toNatClampNeg (vp_nar .boolean v)) (nu) 0 sg := by
    refine pm_W_set rfl (fun a c ha hc => ⟨hc, pm_up_ne ha, rfl⟩) (fun c hc => ?_)
    rw [hs] at hc
    cases hc
    show Sum.inl _ = _
    rw [pm_up_eq]
  rw [e1] at hP1 hD1
  exact kk p e s m args below meth c A al0 al H1 locs1 ls hS ⟨hD.1, hD.2.1, hP1, hD1, hS1, hD.2.2.2.2.2⟩
theorem pm_las (hok : pm_ok fx.1 = true) {x : pm_X} {i : Int32} {v : Int64} {k n : Nat} {rs : List (Option (Option Nat))} (h : pm_ent fx.1.2.2.2.2 pc = some ((.lastore, 1, x), nx)) (hs : sg[k]? = some (3, n, rs)) (hin : vp_in i n) (kk : pm_G cx fx cells slots nx L S sg (mu) (pm_uq nu k i.toNatClampNeg v)) : pm_G cx fx cells slots pc L (.long v :: .int i :: .ref k :: S) sg mu nu := by
  obtain ⟨he, rfl⟩ := pm_ent_ok hok h
  intro p e s m args below meth c A al0 al H locs ls hS hD
  refine va_last hS.1 hS.2.1 hS.2.2.2.2.2.2.2.2.2.1 hD.2.2.1 hD.2.2.2.1 hD.2.2.2.2.1 k 2 (pm_W_at hs) rfl hin (pm_dc he) (fun H1 locs1 hP1 hD1 hS1 => ?_)
  have e1 : (pm_W cx.2.2.2 al mu nu 0 sg).set k (al k, .inl (cx.2.2.2 2, n, .inr (.inl (vp_updL (nu k) i.toNatClampNeg v)))) = pm_W cx.2.2.2 al (mu) (pm_uq nu k i.toNatClampNeg v) 0 sg := by
    refine pm_W_set rfl (fun a c ha hc => ⟨hc, rfl, pm_uq_ne ha⟩) (fun c hc => ?_)
    rw [hs] at hc
    cases hc
    show Sum.inl _ = _
    rw [pm_uq_eq]
  rw [e1] at hP1 hD1
  exact kk p e s m args below meth c A al0 al H1 locs1 ls hS ⟨hD.1, hD.2.1, hP1, hD1, hS1, hD.2.2.2.2.2⟩
theorem pm_div (hok : pm_ok fx.1 = true) {u : pm_X} {x y : Int32} (h : pm_ent fx.1.2.2.2.2 pc = some ((.idiv, 1, u), nx)) (hy : ¬ y = 0) (kk : pm_G cx fx cells slots nx L (.int (x / y) :: S) sg mu nu) : pm_G cx fx cells slots pc L (.int y :: .int x :: S) sg mu nu := by
  obtain ⟨he, rfl⟩ := pm_ent_ok hok h
  exact pm_G.stk (fun p e s m args below meth c A al0 al H locs ls Q hS hD kk => lv_idiv hS.1 hS.2.1 (pm_dc he) hy kk) kk
theorem pm_rem (hok : pm_ok fx.1 = true) {u : pm_X} {x y : Int32} (h : pm_ent fx.1.2.2.2.2 pc = some ((.irem, 1, u), nx)) (hy : ¬ y = 0) (kk : pm_G cx fx cells slots nx L (.int (x - x / y * y) :: S) sg mu nu) : pm_G cx fx cells slots pc L (.int y :: .int x :: S) sg mu nu := by
  obtain ⟨he, rfl⟩ := pm_ent_ok hok h
  exact pm_G.stk (fun p e s m args below meth c A al0 al H locs ls Q hS hD kk => lv_irem hS.1 hS.2.1 (pm_dc he) hy kk) kk
theorem pm_ldv (hok : pm_ok fx.1 = true) {u : pm_X} {x y : Int64} (h : pm_ent fx.1.2.2.2.2 pc = some ((.ldiv, 1, u), nx)) (hy : ¬ y = 0) (kk : pm_G cx fx cells slots nx L (.long (x / y) :: S) sg mu nu) : pm_G cx fx cells slots pc L (.long y :: .long x :: S) sg mu nu := by
  obtain ⟨he, rfl⟩ := pm_ent_ok hok h
  exact pm_G.stk (fun p e s m args below meth c A al0 al H locs ls Q hS hD kk => lv_ldiv hS.1 hS.2.1 (pm_dc he) hy kk) kk
theorem pm_lrm (hok : pm_ok fx.1 = true) {u : pm_X} {x y : Int64} (h : pm_ent fx.1.2.2.2.2 pc = some ((.lrem, 1, u), nx)) (hy : ¬ y = 0) (kk : pm_G cx fx cells slots nx L (.long (x - x / y * y) :: S) sg mu nu) : pm_G cx fx cells slots pc L (.long y :: .long x :: S) sg mu nu := by
  obtain ⟨he, rfl⟩ := pm_ent_ok hok h
  exact pm_G.stk (fun p e s m args below meth c A al0 al H locs ls Q hS hD kk => lv_lrem hS.1 hS.2.1 (pm_dc he) hy kk) kk
def pm_isZ (ci j : Nat) : Bool := match ci, j with
  | 0, 0 => true
  | 4, 0 => true
  | _, _ => false
theorem pm_isZ_ok {ci j : Nat} (h : pm_isZ ci j = true) : ∃ q : vw_C, vwCl[ci]? = some q ∧ j < q.2.2 ∧ (q.2.1 j).2.2.1 = "Z" ∧ (q.2.1 j).2.2.2 = false := by
  unfold pm_isZ at h
  split at h
  · exact ⟨_, rfl, by decide⟩
  · exact ⟨_, rfl, by decide⟩
  · cases h
/-- a boolean field -/
theorem pm_pz (hok : pm_ok fx.1 = true) {idx ci j k : Nat} {v : Int32} {fs : List (Option (Option Nat))} (h : pm_ent fx.1.2.2.2.2 pc = some ((.putfield idx, 3, .inl (ci, j)), nx)) (hZ : pm_isZ ci j = true) (hsg : sg[k]? = some (0, ci, fs)) (hfs : fs[j]? = some none) (hv : v = 0 ∨ v = 1) (kk : pm_G cx fx cells slots nx L S sg (pm_up mu k j v) nu) : pm_G cx fx cells slots pc L (.int v :: .ref k :: S) sg mu nu := by
  obtain ⟨he, rfl⟩ := pm_ent_ok hok h
  obtain ⟨q, hq, hj, hlk⟩ := pm_fieldsP he
  obtain ⟨q2, hq2, hj2, hdesc, hfin⟩ := pm_isZ_ok hZ
  cases hq.symm.trans hq2
  obtain ⟨hin, ty0, hty, hnm⟩ := pm_cls hq
  intro p e s m args below meth c A al0 al H locs ls hS hD
  have hlt : j < fs.length := (List.getElem?_eq_some_iff.mp hfs).1
  refine va_put (D := (cx.2.1, cx.2.2.1)) (ci := ci) (v := .int v) (ty := .boolean) (C := q.1) (T := q.2.1) (N := q.2.2) hS.1 hS.2.1 hS.2.2.2.2.2.1 (fun w hw => List.mem_cons_of_mem _ (hin w hw)) ty0 hty hnm hS.2.2.2.2.1 hS.2.2.2.2.2.2.2.2.2.1 hD.2.2.1 hD.2.2.2.1 hD.2.2.2.2.1 k (pm_W_at hsg) hq j hj (hS.2.2.2.2.2.1 _ (List.mem_cons_of_mem _ hlk)) (fun _ h9 => h9) hfin (by rw [hdesc]; rfl) (by rcases hv with rfl | rfl <;> rfl) (by rcases hv with rfl | rfl <;> rfl) (by rw [pm_fl_len]; exact hlt) (pm_dc he) (fun H1 locs1 hP1 hD1 hS1 => ?_)
  have e1 : (pm_W cx.2.2.2 al mu nu 0 sg).set k (al k, .inr (ci, (pm_fl al (mu k) 0 fs).set j (.int v))) = pm_W cx.2.2.2 al (pm_up mu k j v) nu 0 sg := by
    refine pm_W_set rfl (fun a c ha hc => ⟨hc, pm_up_ne ha, rfl⟩) (fun c hc => ?_)
    rw [hsg] at hc
    cases hc
    show Sum.inr _ = _
    rw [pm_fl_set _ _ _ _ _ _ hfs, pm_up_eq, Nat.zero_add]
  rw [e1] at hP1 hD1
  exact kk p e s m args below meth c A al0 al H1 locs1 ls hS ⟨hD.1, hD.2.1, hP1, hD1, hS1, hD.2.2.2.2.2⟩
/-- ends -/
theorem pm_ri (hok : pm_ok fx.1 = true) {x : pm_X} {v : Int32} {ty : FieldType} (h : pm_ent fx.1.2.2.2.2 pc = some ((.ireturn, 1, x), nx)) (hr : fx.1.2.2.2.1 = some ty) (hn : narrow ty (.int v) = .int v) (hc : cells ≤ fx.2.2.1) (hs : slots ≤ fx.2.2.2.1) (hq : fx.2.2.2.2.2 (some (.int v)) sg mu nu) : pm_G cx fx cells slots pc L [.int v] sg mu nu := by
  obtain ⟨he, rfl⟩ := pm_ent_ok hok h
  intro p e s m args below meth c A al0 al H locs ls hS hD
  refine W.widen hc hs ?_
  exact W.zret hS.1 hS.2.1 (by rw [hS.2.2.1]; exact hr) hn (fun t ht hW => ⟨⟨some (.int v), sg, mu, nu, al, hq, hD.1, hD.2.1, rfl, by rw [ht]; exact hD.2.2.1, hD.2.2.2.1⟩, hD.2.2.2.2.1.F ht⟩) hD.2.2.2.2.1.2.2 (pm_dc he) hS.2.2.2.2.2.2.1
theorem pm_rl (hok : pm_ok fx.1 = true) {x : pm_X} {v : Int64} (h : pm_ent fx.1.2.2.2.2 pc = some ((.lreturn, 1, x), nx)) (hr : fx.1.2.2.2.1 = some .long) (hc : cells ≤ fx.2.2.1) (hs : slots ≤ fx.2.2.2.1) (hq : fx.2.2.2.2.2 (some (.long v)) sg mu nu) : pm_G cx fx cells slots pc L [.long v] sg mu nu := by
  obtain ⟨he, rfl⟩ := pm_ent_ok hok h
  intro p e s m args below meth c A al0 al H locs ls hS hD
  refine W.widen hc hs ?_
  exact W.lret hS.1 hS.2.1 (by rw [hS.2.2.1]; exact hr) (fun t ht hW => ⟨⟨some (.long v), sg, mu, nu, al, hq, hD.1, hD.2.1, rfl, by rw [ht]; exact hD.2.2.1, hD.2.2.2.1⟩, hD.2.2.2.2.1.F ht⟩) hD.2.2.2.2.1.2.2 (pm_dc he) hS.2.2.2.2.2.2.1
theorem pm_rv (hok : pm_ok fx.1 = true) {x : pm_X} (h : pm_ent fx.1.2.2.2.2 pc = some ((.return_, 1, x), nx)) (hr : fx.1.2.2.2.1 = none) (hc : cells ≤ fx.2.2.1) (hs : slots ≤ fx.2.2.2.1) (hq : fx.2.2.2.2.2 none sg mu nu) : pm_G cx fx cells slots pc L [] sg mu nu := by
  obtain ⟨he, rfl⟩ := pm_ent_ok hok h
  intro p e s m args below meth c A al0 al H locs ls hS hD
  refine W.widen hc hs ?_
  exact W.vret hS.1 hS.2.1 (by rw [hS.2.2.1]; exact hr) (fun t ht hW => ⟨⟨none, sg, mu, nu, al, hq, hD.1, hD.2.1, rfl, by rw [ht]; exact hD.2.2.1, hD.2.2.2.1⟩, hD.2.2.2.2.1.F ht⟩) hD.2.2.2.2.1.2.2 (pm_dc he) hS.2.2.2.2.2.2.1
/-- switches -/
theorem pm_tsIn (hok : pm_ok fx.1 = true) {u : pm_X} {dflt lo hi : Int} {offs : Array Int} {len : Nat} {x : Int32} {off : Int} {tgt : Nat} (h : pm_ent fx.1.2.2.2.2 pc = some ((.tableswitch dflt lo hi offs, len, u), nx)) (h1 : ¬ x.toInt < lo) (h2 : ¬ hi < x.toInt) (ho : offs[(x.toInt - lo).toNat]? = some off) (ht : (pc : Int) + off = (tgt : Int)) (kk : pm_G cx fx cells slots tgt L S sg mu nu) : pm_G cx fx cells slots pc L (.int x :: S) sg mu nu := by
  obtain ⟨he, rfl⟩ := pm_ent_ok hok h
  exact pm_G.stk (fun p e s m args below meth c A al0 al H locs ls Q hS hD kk => lv_tableIn hS.1 hS.2.1 (pm_dc he) h1 h2 ho ht kk) kk
theorem pm_tsOut (hok : pm_ok fx.1 = true) {u : pm_X} {dflt lo hi : Int} {offs : Array Int} {len : Nat} {x : Int32} {tgt : Nat} (h : pm_ent fx.1.2.2.2.2 pc = some ((.tableswitch dflt lo hi offs, len, u), nx)) (h1 : x.toInt < lo ∨ hi < x.toInt) (ht : (pc : Int) + dflt = (tgt : Int)) (kk : pm_G cx fx cells slots tgt L S sg mu nu) : pm_G cx fx cells slots pc L (.int x :: S) sg mu nu := by
  obtain ⟨he, rfl⟩ := pm_ent_ok hok h
  exact pm_G.stk (fun p e s m args below meth c A al0 al H locs ls Q hS hD kk => lv_tableOut hS.1 hS.2.1 (pm_dc he) h1 ht kk) kk
theorem pm_nn (hok : pm_ok fx.1 = true) {off : Int} {t u k : Nat} (h : pm_ent fx.1.2.2.2.2 pc = some ((.ifnonnull off, 3, .inl (t, u)), nx)) (kk : pm_G cx fx cells slots t L S sg mu nu) : pm_G cx fx cells slots pc L (.ref k :: S) sg mu nu := by
  obtain ⟨he, rfl⟩ := pm_ent_ok hok h
  have ht := of_decide_eq_true (Bool.and_eq_true_iff.mp he).2
  exact pm_G.stk (fun p e s m args below meth c A al0 al H locs ls Q hS hD kk => lv_ifnonnull hS.1 hS.2.1 (pm_dc he) ht kk) kk
theorem pm_nnN (hok : pm_ok fx.1 = true) {off : Int} {u : pm_X} (h : pm_ent fx.1.2.2.2.2 pc = some ((.ifnonnull off, 3, u), nx)) (kk : pm_G cx fx cells slots nx L S sg mu nu) : pm_G cx fx cells slots pc L (.null :: S) sg mu nu := by
  obtain ⟨he, rfl⟩ := pm_ent_ok hok h
  exact pm_G.stk (fun p e s m args below meth c A al0 al H locs ls Q hS hD kk => lv_ifnonnullN hS.1 hS.2.1 (pm_dc he) kk) kk
/-- calls -/
def pm_wv (sg : List pm_C) (v : Value) : Bool := match v with
  | .ref k => (sg[k]?).isSome
  | _ => true
def pm_wo (sg : List pm_C) (o : Option Value) : Bool := match o with
  | some v => pm_wv sg v
  | none => true
def pm_wf (sg : List pm_C) (L : pm_L) (S : List Value) : Bool := L.all (pm_wo sg) && S.all (pm_wv sg)
theorem pm_wv_at {sg : List pm_C} {v : Value} {al al' : Nat → Nat} (h : pm_wv sg v = true) (ha : ∀ k, k < sg.length → al' k = al k) : pm_at al' v = pm_at al v := by
  cases v with
  | ref k =>
    have h1 : (sg[k]?).isSome = true := h
    have h2 : k < sg.length := by
      rcases Nat.lt_or_ge k sg.length with q | q
      · exact q
      · rw [List.getElem?_eq_none q] at h1; cases h1
    show Value.ref _ = Value.ref _
    rw [ha k h2]
  | _ => rfl
theorem pm_wf_L {sg : List pm_C} {L : pm_L} {S : List Value} {al al' : Nat → Nat} (h : pm_wf sg L S = true) (ha : ∀ k, k < sg.length → al' k = al k) : ∀ q ∈ pm_lc al' 0 L, q ∈ pm_lc al 0 L := by
  intro q hq
  obtain ⟨j, v, h1, rfl⟩ := (pm_lc_mem al' L 0 q).mp hq
  refine (pm_lc_mem al L 0 _).mpr ⟨j, v, h1, ?_⟩
  have h2 := List.all_eq_true.mp (Bool.and_eq_true_iff.mp h).1 _ (List.mem_of_getElem? h1)
  rw [pm_wv_at (v := v) h2 ha]
theorem pm_wf_S {sg : List pm_C} {L : pm_L} {S : List Value} {al al' : Nat → Nat} (h : pm_wf sg L S = true) (ha : ∀ k, k < sg.length → al' k = al k) : S.map (pm_at al') = S.map (pm_at al) := by
  apply List.map_congr_left
  intro v hv
  exact pm_wv_at (List.all_eq_true.mp (Bool.and_eq_true_iff.mp h).2 v hv) ha
/-- behind a call -/
theorem pm_after {p : Program} {e : Env} {s : State} {m : MethodId} {args : Array Value} {below : List Frame} {meth : Method} {c : Code} {A : Nat → Prop} {al0 al : Nat → Nat} {H : Heap} {locs : List Loc} {ls : Array Slot} {st0 rest : List Value} {mc' ms' : Nat} {a : Array Value} {Q' : pm_Po}
    (hS : pm_S cx fx.1 p s m args meth c A) (hD : pm_D cx fx.1.2.2.1 fx.2.2.2.2.1 s A al0 al H locs ls L sg mu nu) (hw : pm_wf sg L rest = true)
    (hr : va_Run p cx.1 e (pm_room fx.2.1 fx.2.2.1 fx.2.2.2.1) s m args below meth c H locs cells slots mc' ms' (F0 m pc ls st0) (rest.map (pm_at al)) (pm_Q cx sg.length Q' (va_A (pm_W cx.2.2.2 al mu nu 0 sg) H.size) al a) (va_A (pm_W cx.2.2.2 al mu nu 0 sg) H.size))
    (kk : ∀ r sg' mu' nu', Q' r sg' mu' nu' → sg.length ≤ sg'.length → pm_G cx fx (cells + mc') (slots + ms') (pc + 3) L (r.toList ++ rest) sg' mu' nu') :
    W p cx.1 e (pm_room fx.2.1 fx.2.2.1 fx.2.2.2.1) s m args below meth c H locs cells slots (MQ below (pm_Q cx fx.2.2.2.2.1 fx.2.2.2.2.2 A al0) args s fx.2.2.1 fx.2.2.2.1 A) (F0 m pc ls st0) := by
  intro T hT X
  obtain ⟨v, st₀, t, T', Lc, h0, X', hL, e1, e2, ⟨⟨r, sg', mu', nu', al', hQ, hal, hn, hv, hP', hD'⟩, hz, hk⟩, st⟩ := hr T hT X
  obtain ⟨h1, h2, hP, hDD, hSS, hl⟩ := hD
  have hv' : v = r.map (pm_at al') := by injection hv
  subst hv'
  rw [h0] at hz hk
  have hfree : ∀ q, va_A (pm_W cx.2.2.2 al mu nu 0 sg) H.size q → A q := by
    intro q hq
    rcases hq with ⟨j, x, hj⟩ | hq
    · exact hDD.2 j _ hj
    · exact hS.2.2.2.2.2.2.2.2.1 q (Nat.le_trans hSS.1 hq)
  have hSS' : va_S A s.heap T'.heap (locs ++ Lc) := ⟨Nat.le_trans hSS.1 (by rw [e1]; exact hz), fun q g1 g2 => by rw [e1, hk q (Nat.lt_of_lt_of_le g1 hSS.1) (fun z => g2 (hfree q z))]; exact hSS.2.1 q g1 g2, fun q hq => by
      rcases List.mem_append.mp hq with h | h
      · exact hSS.2.2 q h
      · exact hfree _ (hL q h)⟩
  obtain ⟨t2, a1, b1⟩ := kk r sg' mu' nu' hQ hn p e s m args below meth c A al0 al' T'.heap (locs ++ Lc) ls hS ⟨fun k hk2 => (hal k (Nat.lt_of_lt_of_le hk2 h2)).trans (h1 k hk2), Nat.le_trans h2 hn, by rw [e1]; exact hP', hD'.weaken (fun _ q _ hq => hfree q.1 hq), hSS', pm_has_mono hl (pm_wf_L hw hal)⟩ T' rfl X'
  refine ⟨t2, st t2 ?_, b1⟩
  have e3 : (r.toList ++ rest).map (pm_at al') = (r.map (pm_at al')).toList ++ rest.map (pm_at al) := by
    rw [List.map_append, pm_wf_S hw hal]
    cases r <;> rfl
  rw [e3] at a1
  exact a1
theorem pm_blind {as : List Value} {sz : Nat} {ws : va_W} {cx : pm_CX} : FrameBlind (va_Pc as (fun U => U.heap.size = sz ∧ va_P (cx.2.1, cx.2.2.1) vwCl ws U.heap ∧ va_K (cx.2.1, cx.2.2.1) vwCl (pm_ty cx.2.2.2) U ∧ va_D (fun _ => True) ws ∧ pm_NN U)) :=
  fun a U g mk q => by
    obtain ⟨q0, q1, qP, qK, qD, qN⟩ := q
    exact ⟨q0, q1, qP, va_K.moved (u := U) (U := U.calling g mk a) (Vm.Alike.refl U.vm) qK, qD, pm_NN.same (s := U) (U := U.calling g mk a) rfl qN⟩
theorem pm_cat (al : Nat → Nat) (v : Value) : (pm_at al v).category = v.category := by cases v <;> rfl
theorem pm_cats {al : Nat → Nat} {rest : List Value} (h : (rest.map fun v => v.category).sum ≤ 8) : ((rest.map (pm_at al)).map fun v => v.category).sum ≤ 8 := by
  rw [List.map_map]
  have : ((fun v => v.category) ∘ pm_at al) = (fun v : Value => v.category) := by
    funext v
    exact pm_cat al v
  rw [this]
  exact h
theorem pm_cs (hok : pm_ok fx.1 = true) {mj : pm_M} (hokj : pm_ok mj = true) {k d' mc' ms' : Nat} {as rest : List Value} {Q' : pm_Po}
    (h : pm_ent fx.1.2.2.2.2 pc = some ((.invokestatic k, 3, .inr (.inr (.inr mj.1))), nx)) (ha : (parseMethodDescriptor mj.1.desc).map (fun d => d.parameters.length) = some as.length)
    (hT : pm_T cx mj d' mc' ms' as sg mu nu Q') (hS0 : S = as.reverse ++ rest) (hd : d' + 1 ≤ fx.2.1) (hw : pm_wf sg L rest = true) (hc : (rest.map fun v => v.category).sum ≤ 8) (hm : cells + mc' ≤ fx.2.2.1 ∧ slots + ms' ≤ fx.2.2.2.1)
    (kk : ∀ r sg' mu' nu', Q' r sg' mu' nu' → sg.length ≤ sg'.length → pm_G cx fx (cells + mc') (slots + ms') nx L (r.toList ++ rest) sg' mu' nu') : pm_G cx fx cells slots pc L S sg mu nu := by
  subst hS0
  obtain ⟨he, rfl⟩ := pm_ent_ok hok h
  obtain ⟨-, hnm, hcd, hml45, -⟩ := pm_ok_parts hokj
  have hw2 := (Bool.and_eq_true_iff.mp he).2
  replace hw2 : (decide (Cond.methodLink fx.1.1.cls k mj.1 ∈ pm_tbl) && (decide (Cond.static mj.1 ∈ pm_tbl) && decide (Cond.initialized mj.1.cls ∈ pm_tbl))) = true := hw2
  simp only [Bool.and_eq_true, decide_eq_true_eq] at hw2
  obtain ⟨w1, w2, w3⟩ := hw2
  intro p e s m args below meth c A al0 al H locs ls hS hD
  obtain ⟨hx, hb, hr, hml, hown, hts, hlk, hnam, hA, hK, hN⟩ := id hS
  have tw : ∀ {w : Cond}, w ∈ pm_tbl → w.before args s = true := fun hw => hts _ (List.mem_cons_of_mem _ hw)
  refine pm_after hS hD hw (va_runS (As := as.map (pm_at al)) (rest := rest.map (pm_at al)) (Ts := pm_ws fx.1) ⟨hx, hb, hml, hown, hts⟩ (hT al H.size) ⟨callB_of (bytes := mj.2.1) (maxL := mj.2.2.1) (ret := mj.2.2.2.1) as.length hts (pm_goodIn hcd) rfl rfl rfl (tw w3) (tw w1) ⟨hnm.1, hnm.2, ha⟩ ⟨hd, ?_⟩, tw w2⟩ ⟨pm_blind, fun U hU hW => ⟨rfl, by rw [hU], by rw [hU]; exact hD.2.2.1, va_K.moved hW.alike hK, hD.2.2.2.1.weaken (fun _ _ _ _ => trivial), pm_NN.warm hW hN⟩⟩ rfl (by simp) hD.2.2.2.2.2.1 (by rw [List.map_append, List.map_reverse]) (lv_room (pm_cats hc)) (pm_dc he) hm) kk
  show 8 + (mj.2.2.1 + 11) + d' * 64 ≤ fx.2.1 * 64
  omega
theorem pm_cv (hok : pm_ok fx.1 = true) {mj : pm_M} (hokj : pm_ok mj = true) {k d' mc' ms' kb ci : Nat} {fs : List (Option (Option Nat))} {as rest : List Value} {Q' : pm_Po}
    (h : pm_ent fx.1.2.2.2.2 pc = some ((.invokevirtual k, 3, .inr (.inr (.inr mj.1))), nx)) (ha : (parseMethodDescriptor mj.1.desc).map (fun d => d.parameters.length) = some as.length)
    (hT : pm_T cx mj d' mc' ms' (.ref kb :: as) sg mu nu Q') (hb0 : sg[kb]? = some (0, ci, fs)) (hcl : (vwCl[ci]?).map (fun q => q.1) = some mj.1.cls) (hS0 : S = as.reverse ++ .ref kb :: rest) (hd : d' + 1 ≤ fx.2.1) (hw : pm_wf sg L rest = true) (hc : (rest.map fun v => v.category).sum ≤ 8) (hm : cells + mc' ≤ fx.2.2.1 ∧ slots + ms' ≤ fx.2.2.2.1)
    (kk : ∀ r sg' mu' nu', Q' r sg' mu' nu' → sg.length ≤ sg'.length → pm_G cx fx (cells + mc') (slots + ms') nx L (r.toList ++ rest) sg' mu' nu') : pm_G cx fx cells slots pc L S sg mu nu := by
  subst hS0
  obtain ⟨he, rfl⟩ := pm_ent_ok hok h
  obtain ⟨-, hnm, hcd, hml45, -⟩ := pm_ok_parts hokj
  have hw2 := (Bool.and_eq_true_iff.mp he).2
  replace hw2 : (decide (Cond.methodLink fx.1.1.cls k mj.1 ∈ pm_tbl) && (decide (Cond.instanceMethod mj.1 ∈ pm_tbl) && (decide (Cond.selects mj.1.cls mj.1 mj.1 ∈ pm_tbl) && decide (Cond.initialized mj.1.cls ∈ pm_tbl)))) = true := hw2
  simp only [Bool.and_eq_true, decide_eq_true_eq] at hw2
  obtain ⟨w1, w2, w3, w4⟩ := hw2
  cases hci : vwCl[ci]? with
  | none => rw [hci] at hcl; cases hcl
  | some q =>
    rw [hci] at hcl
    have hcl : q.1 = mj.1.cls := Option.some.inj hcl
    intro p e s m args below meth c A al0 al H locs ls hS hD
    obtain ⟨hx, hb, hr, hml, hown, hts, hlk, hnam, hA, hK, hN⟩ := id hS
    have tw : ∀ {w : Cond}, w ∈ pm_tbl → w.before args s = true := fun hw => hts _ (List.mem_cons_of_mem _ hw)
    have hrec := va_recv hK hD.2.2.1 hci (pm_W_at (dT := cx.2.2.2) (al := al) (mu := mu) (nu := nu) hb0)
    rw [hcl] at hrec
    refine pm_after hS hD hw (va_runV (As := as.map (pm_at al)) (rest := rest.map (pm_at al)) (b := al kb) (C := mj.1.cls) (Ts := pm_ws fx.1) ⟨hx, hb, hml, hown, hts⟩ (hT al H.size) ⟨callB_of (bytes := mj.2.1) (maxL := mj.2.2.1) (ret := mj.2.2.2.1) as.length hts (pm_goodIn hcd) rfl rfl rfl (tw w4) (tw w1) ⟨hnm.1, hnm.2, ha⟩ ⟨hd, ?_⟩, tw w2, tw w3⟩ ⟨pm_blind, hrec, fun U hU hW => ⟨rfl, by rw [hU], by rw [hU]; exact hD.2.2.1, va_K.moved hW.alike hK, hD.2.2.2.1.weaken (fun _ _ _ _ => trivial), pm_NN.warm hW hN⟩⟩ rfl (by simp) hD.2.2.2.2.2.1 (by rw [List.map_append, List.map_reverse]; rfl) (lv_room (pm_cats hc)) (pm_dc he) hm) kk
    show 8 + (mj.2.2.1 + 11) + d' * 64 ≤ fx.2.1 * 64
    omega
end
/-- a contract's end may be weakened, its level raised -/
theorem pm_T.weaken {cx : pm_CX} {mi : pm_M} {d mc ms : Nat} {as : List Value} {sg : List pm_C} {mu : pm_I} {nu : pm_J} {Q Q' : pm_Po} (h : pm_T cx mi d mc ms as sg mu nu Q) (hq : ∀ r sg' mu' nu', Q r sg' mu' nu' → Q' r sg' mu' nu') : pm_T cx mi d mc ms as sg mu nu Q' := by
  intro al sz
  have h1 := h al sz
  intro p e ha hc hk s m args below hf happ hP hT
  obtain ⟨k, o, g1, g2, g3, g4, g5⟩ := h1 p e ha hc hk s m args below hf happ hP hT
  refine ⟨k, o, g1, g2, g3, ?_, g5⟩
  obtain ⟨⟨r, sg', mu', nu', al', hQ, hrest⟩, hF⟩ := g4
  exact ⟨⟨r, sg', mu', nu', al', hq _ _ _ _ hQ, hrest⟩, hF⟩
end
section
/-! plain facts on numbers and arrays, to paste: each family by itself; over the kit's rows on nI and upd -/
/-! ===== order of ints, in all its forms, and through longs ===== -/
theorem fa_lt (a b : Int32) : a < b ↔ a.toInt < b.toInt := Int32.lt_iff_toInt_lt
theorem fa_le (a b : Int32) : a ≤ b ↔ a.toInt ≤ b.toInt := Int32.le_iff_toInt_le
theorem fa_eq (a b : Int32) : a = b ↔ a.toInt = b.toInt := Int32.toInt_inj.symm
theorem fa_lt64 (a b : Int64) : a < b ↔ a.toInt < b.toInt := Int64.lt_iff_toInt_lt
theorem fa_le64 (a b : Int64) : a ≤ b ↔ a.toInt ≤ b.toInt := Int64.le_iff_toInt_le
theorem fa_eq64 (a b : Int64) : a = b ↔ a.toInt = b.toInt := Int64.toInt_inj.symm
/-- a comparison of two ints taken as longs -/
theorem fa_wide_lt (a b : Int32) : a.toInt64 < b.toInt64 ↔ a < b := by rw [fa_lt64, fa_lt, Int32.toInt_toInt64, Int32.toInt_toInt64]
theorem fa_wide_le (a b : Int32) : a.toInt64 ≤ b.toInt64 ↔ a ≤ b := by rw [fa_le64, fa_le, Int32.toInt_toInt64, Int32.toInt_toInt64]
theorem fa_wide_eq (a b : Int32) : a.toInt64 = b.toInt64 ↔ a = b := by rw [fa_eq64, fa_eq, Int32.toInt_toInt64, Int32.toInt_toInt64]
/-- one strict comparison gives all the others -/
theorem fa_of_lt {a b : Int32} (h : a < b) : a ≤ b ∧ ¬ b ≤ a ∧ ¬ b < a ∧ a ≠ b ∧ b ≠ a := by
  rw [fa_lt] at h
  refine ⟨?_, ?_, ?_, ?_, ?_⟩
  · rw [fa_le]; omega
  · rw [fa_le]; omega
  · rw [fa_lt]; omega
  · intro e; rw [fa_eq] at e; omega
  · intro e; rw [fa_eq] at e; omega
theorem fa_of_nlt {a b : Int32} (h : ¬ a < b) : b ≤ a := by
  rw [fa_lt] at h
  rw [fa_le]
  omega
theorem fa_of_nle {a b : Int32} (h : ¬ a ≤ b) : b < a := by
  rw [fa_le] at h
  rw [fa_lt]
  omega
theorem fa_le_ne {a b : Int32} (h : a ≤ b) (h2 : a ≠ b) : a < b := by
  rw [fa_le] at h
  rw [fa_lt]
  have h3 : a.toInt ≠ b.toInt := fun e => h2 ((fa_eq a b).mpr e)
  omega
theorem fa_three (a b : Int32) : a < b ∨ a = b ∨ b < a := by
  rw [fa_lt, fa_lt, fa_eq]
  omega
theorem fa_trans {a b c : Int32} (h : a < b) (h2 : b ≤ c) : a < c := by
  rw [fa_lt] at *
  rw [fa_le] at h2
  omega
/-! ===== small literals as numbers ===== -/
theorem fa_lit (n : Nat) : (OfNat.ofNat n : Int32) = nI n := rfl
theorem fa_litL (n : Nat) : (OfNat.ofNat n : Int64) = lN n := rfl
/-! ===== bits of a number: 'or', masks, one bit ===== -/
theorem fa_and (a b : Nat) : nI a &&& nI b = nI (a &&& b) := by
  apply Int32.toBitVec_inj.1
  show BitVec.ofNat 32 a &&& BitVec.ofNat 32 b = BitVec.ofNat 32 (a &&& b)
  apply BitVec.eq_of_getLsbD_eq
  intro i hi
  simp [hi]
theorem fa_or (a b : Nat) : nI a ||| nI b = nI (a ||| b) := by
  apply Int32.toBitVec_inj.1
  show BitVec.ofNat 32 a ||| BitVec.ofNat 32 b = BitVec.ofNat 32 (a ||| b)
  apply BitVec.eq_of_getLsbD_eq
  intro i hi
  simp [hi]
/-- a remainder by a power of two, as a mask -/
theorem fa_mask (n k : Nat) : nI n &&& nI (2 ^ k - 1) = nI (n % 2 ^ k) := by rw [fa_and, Nat.and_two_pow_sub_one_eq_mod]
/-- 'or' of a high part and a low one that don't meet is their sum -/
theorem fa_or_sum {a k : Nat} (b : Nat) (h : a < 2 ^ k) : nI (2 ^ k * b) ||| nI a = nI (2 ^ k * b + a) := by rw [fa_or, Nat.two_pow_add_eq_or_of_lt h]
/-- one bit, by 'and' with a power of two -/
theorem fa_bit {n j : Nat} (hj : j < 31) : nI n &&& nI (2 ^ j) = 0 ↔ n.testBit j = false := by
  have h2 : (2 : Nat) ^ j < 2 ^ 31 := Nat.pow_lt_pow_right (by decide) hj
  have hle : n &&& 2 ^ j ≤ 2 ^ j := Nat.and_le_right
  have e : n &&& 2 ^ j = 0 ↔ n.testBit j = false := by
    constructor
    · intro h
      have h1 : (n &&& 2 ^ j).testBit j = false := by rw [h]; simp
      rw [Nat.testBit_and] at h1
      first | simpa using h1 | simpa [Nat.testBit_two_pow_self] using h1 | simpa [Nat.testBit_two_pow] using h1
    · intro h
      apply Nat.eq_of_testBit_eq
      intro i
      rw [Nat.testBit_and]
      by_cases hi : j = i
      · subst hi; simp [h]
      · first | (simp [Nat.testBit_two_pow, hi]; done) | (simp [Nat.testBit_two_pow_of_ne hi]; done)
  rw [fa_and]
  constructor
  · intro h
    apply e.mp
    rcases Nat.eq_zero_or_pos (n &&& 2 ^ j) with z | z
    · exact z
    · exact absurd h (nI_ne0 z (Nat.lt_of_le_of_lt hle h2))
  · intro h
    rw [e.mpr h]; exact nI_0
/-- a remainder by a power of two of a number that isn't negative, as Java divides -/
theorem fa_rem {a k : Nat} (ha : a < 2 ^ 31) (hk : k < 31) : nI a - nI a / nI (2 ^ k) * nI (2 ^ k) = nI (a % 2 ^ k) := pk_rem ha (Nat.two_pow_pos k) (Nat.pow_lt_pow_right (by decide) hk)
/-! ===== cuts to a byte, a short ===== -/
theorem fa_byte_xor (x y : Int32) : (x ^^^ y).toInt8 = x.toInt8 ^^^ y.toInt8 := by
  apply Int8.toBitVec_inj.1
  apply BitVec.eq_of_getLsbD_eq
  intro i hi
  first | (simp [hi]; done) | (simp [hi, BitVec.getLsbD_setWidth, BitVec.getLsbD_signExtend]; done)
theorem fa_short_xor (x y : Int32) : (x ^^^ y).toInt16 = x.toInt16 ^^^ y.toInt16 := by
  apply Int16.toBitVec_inj.1
  apply BitVec.eq_of_getLsbD_eq
  intro i hi
  first | (simp [hi]; done) | (simp [hi, BitVec.getLsbD_setWidth, BitVec.getLsbD_signExtend]; done)
/-- the cut to a byte sees the low byte alone -/
theorem fa_byte_low (x : Int32) : (x &&& 255).toInt8 = x.toInt8 := by
  apply Int8.toBitVec_inj.1
  apply BitVec.eq_of_getLsbD_eq
  intro i hi
  have h2 : (255 : Int32).toBitVec.getLsbD i = true := by
    have : ∀ j : Fin 8, (255 : Int32).toBitVec.getLsbD j.val = true := by decide +kernel
    exact this ⟨i, hi⟩
  have h4 : (x &&& 255).toBitVec.getLsbD i = x.toBitVec.getLsbD i := by
    show (x.toBitVec &&& (255 : Int32).toBitVec).getLsbD i = _
    rw [BitVec.getLsbD_and, h2, Bool.and_true]
  have h3 : i < 32 := by omega
  first
    | (show (((x &&& 255).toBitVec).signExtend 8).getLsbD i = (x.toBitVec.signExtend 8).getLsbD i; rw [BitVec.getLsbD_signExtend, BitVec.getLsbD_signExtend, if_pos h3, if_pos h3, h4])
    | (show (((x &&& 255).toBitVec).setWidth 8).getLsbD i = (x.toBitVec.setWidth 8).getLsbD i; rw [BitVec.getLsbD_setWidth, BitVec.getLsbD_setWidth, h4])
    | (simp [hi, h3, h4]; done)
theorem fa_short_low (x : Int32) : (x &&& 65535).toInt16 = x.toInt16 := by
  apply Int16.toBitVec_inj.1
  apply BitVec.eq_of_getLsbD_eq
  intro i hi
  have h2 : (65535 : Int32).toBitVec.getLsbD i = true := by
    have : ∀ j : Fin 16, (65535 : Int32).toBitVec.getLsbD j.val = true := by decide +kernel
    exact this ⟨i, hi⟩
  have h4 : (x &&& 65535).toBitVec.getLsbD i = x.toBitVec.getLsbD i := by
    show (x.toBitVec &&& (65535 : Int32).toBitVec).getLsbD i = _
    rw [BitVec.getLsbD_and, h2, Bool.and_true]
  have h3 : i < 32 := by omega
  first
    | (show (((x &&& 65535).toBitVec).signExtend 16).getLsbD i = (x.toBitVec.signExtend 16).getLsbD i; rw [BitVec.getLsbD_signExtend, BitVec.getLsbD_signExtend, if_pos h3, if_pos h3, h4])
    | (show (((x &&& 65535).toBitVec).setWidth 16).getLsbD i = (x.toBitVec.setWidth 16).getLsbD i; rw [BitVec.getLsbD_setWidth, BitVec.getLsbD_setWidth, h4])
    | (simp [hi, h3, h4]; done)
/-- a small number is its own byte, its own short -/
theorem fa_byte_small {n : Nat} (h : n < 128) : (nI n).toInt8.toInt32 = nI n := by
  have : ∀ j : Fin 128, (nI j.val).toInt8.toInt32 = nI j.val := by decide +kernel
  exact this ⟨n, h⟩
/-! ===== absolute difference ===== -/
theorem fa_absdiff {a b : Nat} (ha : a < 2 ^ 31) (hb : b < 2 ^ 31) : (if nI a < nI b then nI b - nI a else nI a - nI b) = nI (if a < b then b - a else a - b) := by
  by_cases h : a < b
  · rw [if_pos (nI_lt h hb), if_pos h]
    exact pk_sub (Nat.le_of_lt h)
  · rw [if_neg (nI_nlt (Nat.le_of_not_lt h) ha), if_neg h]
    exact pk_sub (Nat.le_of_not_lt h)
/-! ===== an array behind i stores, a conditional store, a row copied ===== -/
/-- f where k < i, what stood there else -/
def fa_fill {α : Type} (f g : Nat → α) (i : Nat) : Nat → α := fun k => if k < i then f k else g k
theorem fa_fill_0 {α : Type} (f g : Nat → α) : fa_fill f g 0 = g := funext fun k => if_neg (Nat.not_lt_zero k)
theorem fa_fill_in {α : Type} {f g : Nat → α} {i k : Nat} (h : k < i) : fa_fill f g i k = f k := if_pos h
theorem fa_fill_out {α : Type} {f g : Nat → α} {i k : Nat} (h : i ≤ k) : fa_fill f g i k = g k := if_neg (Nat.not_lt.mpr h)
theorem fa_fill_succ (f g : Nat → Int32) (i : Nat) : upd (fa_fill f g i) i (f i) = fa_fill f g (i + 1) := by
  funext k
  by_cases e : k = i
  · subst e
    rw [pk_us]
    exact (if_pos (Nat.lt_succ_self k)).symm
  · rw [pk_un e]
    by_cases h : k < i
    · rw [fa_fill_in h, fa_fill_in (Nat.lt_succ_of_lt h)]
    · rw [fa_fill_out (Nat.le_of_not_lt h), fa_fill_out (by omega)]
/-- a store that changes nothing -/
theorem fa_upd_same {f : Nat → Int32} {i : Nat} {x : Int32} (h : f i = x) : upd f i x = f := by
  funext k
  by_cases e : k = i
  · subst e
    rw [pk_us, h]
  · rw [pk_un e]
/-- a store under a condition, told as one -/
theorem fa_upd_if (c : Prop) [Decidable c] (f : Nat → Int32) (i : Nat) (x : Int32) : (if c then upd f i x else f) = upd f i (if c then x else f i) := by
  by_cases h : c
  · rw [if_pos h, if_pos h]
  · rw [if_neg h, if_neg h, fa_upd_same rfl]
/-- two stores at one place, at two -/
theorem fa_upd_twice (f : Nat → Int32) (i : Nat) (x y : Int32) : upd (upd f i x) i y = upd f i y := by
  funext k
  by_cases e : k = i
  · subst e
    rw [pk_us, pk_us]
  · rw [pk_un e, pk_un e, pk_un e]
theorem fa_upd_swap (f : Nat → Int32) {i j : Nat} (h : i ≠ j) (x y : Int32) : upd (upd f i x) j y = upd (upd f j y) i x := by
  funext k
  by_cases e : k = i
  · subst e
    rw [pk_un h, pk_us, pk_us]
  · by_cases e2 : k = j
    · subst e2
      rw [pk_us, pk_un e, pk_us]
    · rw [pk_un e2, pk_un e, pk_un e, pk_un e2]
/-! ===== the first index with a property; a count ===== -/
/-- the first k < n with p k, n if there is none -/
def fa_first (p : Nat → Bool) : Nat → Nat
  | 0 => 0
  | n + 1 => if fa_first p n < n then fa_first p n else if p n then n else n + 1
theorem fa_first_le (p : Nat → Bool) : ∀ n, fa_first p n ≤ n
  | 0 => Nat.le_refl 0
  | n + 1 => by
    have ih := fa_first_le p n
    unfold fa_first
    split
    · omega
    · split
      · omega
      · omega
theorem fa_first_no (p : Nat → Bool) : ∀ n k, k < fa_first p n → p k = false
  | 0, k, h => absurd h (Nat.not_lt_zero k)
  | n + 1, k, h => by
    have ih := fa_first_no p n
    have hl := fa_first_le p n
    unfold fa_first at h
    split at h
    · exact ih k h
    · rename_i h1
      split at h
      · exact ih k (by omega)
      · rename_i h2
        by_cases e : k = n
        · subst e
          exact Bool.eq_false_iff.mpr h2
        · exact ih k (by omega)
theorem fa_first_yes (p : Nat → Bool) : ∀ n, fa_first p n < n → p (fa_first p n) = true
  | 0, h => absurd h (Nat.not_lt_zero _)
  | n + 1, h => by
    have ih := fa_first_yes p n
    have hl := fa_first_le p n
    unfold fa_first at h ⊢
    split at h
    · rename_i h1
      rw [if_pos h1]
      exact ih h1
    · rename_i h1
      rw [if_neg h1]
      split at h
      · rename_i h2
        rw [if_pos h2]
        exact h2
      · omega
/-- how many k < n have p k -/
def fa_cnt (p : Nat → Bool) : Nat → Nat
  | 0 => 0
  | n + 1 => fa_cnt p n + if p n then 1 else 0
theorem fa_cnt_le (p : Nat → Bool) : ∀ n, fa_cnt p n ≤ n
  | 0 => Nat.le_refl 0
  | n + 1 => by
    have ih := fa_cnt_le p n
    unfold fa_cnt
    split
    · omega
    · omega
theorem fa_cnt_yes {p : Nat → Bool} {n : Nat} (h : p n = true) : fa_cnt p (n + 1) = fa_cnt p n + 1 := by rw [fa_cnt, if_pos h]
theorem fa_cnt_no {p : Nat → Bool} {n : Nat} (h : p n = false) : fa_cnt p (n + 1) = fa_cnt p n := by rw [fa_cnt, if_neg (by rw [h]; decide)]; rfl
theorem fa_cnt_cong {p q : Nat → Bool} : ∀ {n : Nat}, (∀ k, k < n → p k = q k) → fa_cnt p n = fa_cnt q n
  | 0, _ => rfl
  | n + 1, h => by rw [fa_cnt, fa_cnt, fa_cnt_cong (fun k hk => h k (Nat.lt_succ_of_lt hk)), h n (Nat.lt_succ_self n)]
/-! ===== an answer carried into a post; a branch on a boolean answer ===== -/
theorem fa_post {α : Type} {P : α → Prop} {x y : α} (h : x = y) (hp : P y) : P x := h ▸ hp
theorem fa_post2 {α β : Type} {P : α → β → Prop} {x y : α} {u v : β} (h : x = y) (h2 : u = v) (hp : P y v) : P x u := h ▸ h2 ▸ hp
theorem fa_bool {r : Int32} {b : Bool} (h : r = if b then 1 else 0) : (r = 0 ↔ b = false) ∧ (¬ r = 0 ↔ b = true) := by
  subst h
  cases b
  · exact ⟨⟨fun _ => rfl, fun _ => rfl⟩, ⟨fun h => absurd rfl h, fun h => absurd h (by decide)⟩⟩
  · exact ⟨⟨fun h => absurd h (by decide), fun h => absurd h (by decide)⟩, ⟨fun _ => rfl, fun _ => by decide⟩⟩
/-- a boolean's narrowing changes nothing -/
theorem fa_bool_and {r : Int32} (h : r = 0 ∨ r = 1) : r &&& 1 = r := by
  rcases h with rfl | rfl
  · decide
  · decide
theorem fa_bool_prop {c : Prop} [Decidable c] {r : Int32} (h : r = if c then 1 else 0) : (r = 0 ↔ ¬ c) ∧ (¬ r = 0 ↔ c) := by
  subst h
  by_cases hc : c
  · rw [if_pos hc]
    exact ⟨⟨fun h => absurd h (by decide), fun h => absurd hc h⟩, ⟨fun _ => hc, fun _ => by decide⟩⟩
  · rw [if_neg hc]
    exact ⟨⟨fun _ => hc, fun _ => rfl⟩, ⟨fun h => absurd rfl h, fun h => absurd h hc⟩⟩
end
section
/-! plain facts to paste, each family by itself; over the kit's nI, lN and upd -/
/-! ===== drawers: more things than places ===== -/
theorem fb_holes : ∀ (m n : Nat) (f : Nat → Nat), (∀ i, i < n → f i < m) → (∀ i j, i < j → j < n → f i ≠ f j) → n ≤ m := by
  intro m
  induction m with
  | zero =>
    intro n f h1 _
    rcases Nat.eq_zero_or_pos n with h | h
    · omega
    · exact absurd (h1 0 h) (Nat.not_lt_zero _)
  | succ m ih =>
    intro n f h1 h2
    by_cases hx : ∃ i, i < n ∧ f i = m
    · obtain ⟨a, ha, hfa⟩ := hx
      have hg := ih (n - 1) (fun i => if i < a then f i else f (i + 1)) (by
        intro i hi
        by_cases q : i < a
        · simp only [if_pos q]
          have b1 := h1 i (by omega)
          have b2 := h2 i a q ha
          omega
        · simp only [if_neg q]
          have b1 := h1 (i + 1) (by omega)
          have b2 := h2 a (i + 1) (by omega) (by omega)
          omega) (by
        intro i j hij hj
        by_cases q : i < a
        · by_cases r : j < a
          · simp only [if_pos q, if_pos r]
            exact h2 i j hij (by omega)
          · simp only [if_pos q, if_neg r]
            exact h2 i (j + 1) (by omega) (by omega)
        · have r : ¬ j < a := by omega
          simp only [if_neg q, if_neg r]
          exact h2 (i + 1) (j + 1) (by omega) (by omega))
      omega
    · have hg := ih n f (fun i hi => by
        have b1 := h1 i hi
        have b2 : f i ≠ m := fun e => hx ⟨i, hi, e⟩
        omega) h2
      omega
/-- two of them in one place -/
theorem fb_twice {m n : Nat} {f : Nat → Nat} (h : ∀ i, i < n → f i < m) (hm : m < n) : ∃ i j, i < j ∧ j < n ∧ f i = f j := by
  refine Classical.byContradiction fun hx => ?_
  have := fb_holes m n f h (fun i j hij hj e => hx ⟨i, j, hij, hj, e⟩)
  omega
/-- as many as places, none twice: each place is taken -/
theorem fb_onto {n : Nat} {f : Nat → Nat} (h : ∀ i, i < n → f i < n) (h2 : ∀ i j, i < j → j < n → f i ≠ f j) {y : Nat} (hy : y < n) : ∃ i, i < n ∧ f i = y := by
  refine Classical.byContradiction fun hx => ?_
  have hne : ∀ i, i < n → f i ≠ y := fun i hi e => hx ⟨i, hi, e⟩
  have := fb_holes (n - 1) n (fun i => if f i < y then f i else f i - 1) (by
    intro i hi
    have b1 := h i hi
    have b2 := hne i hi
    by_cases q : f i < y
    · simp only [if_pos q]; omega
    · simp only [if_neg q]; omega) (by
    intro i j hij hj
    have b1 := hne i (by omega)
    have b2 := hne j hj
    have b3 := h2 i j hij hj
    by_cases q : f i < y
    · by_cases r : f j < y
      · simp only [if_pos q, if_pos r]; exact b3
      · simp only [if_pos q, if_neg r]; omega
    · by_cases r : f j < y
      · simp only [if_neg q, if_pos r]; omega
      · simp only [if_neg q, if_neg r]; omega)
  omega
/-! ===== how many places have a property ===== -/
def fb_ct (p : Nat → Bool) : Nat → Nat
  | 0 => 0
  | n + 1 => fb_ct p n + (if p n then 1 else 0)
theorem fb_ct_succ (p : Nat → Bool) (n : Nat) : fb_ct p (n + 1) = fb_ct p n + (if p n then 1 else 0) := rfl
theorem fb_ct_le (p : Nat → Bool) : ∀ n, fb_ct p n ≤ n
  | 0 => Nat.le_refl _
  | n + 1 => by
    have h := fb_ct_le p n
    rw [fb_ct_succ]
    split <;> omega
theorem fb_ct_step (p : Nat → Bool) (m : Nat) : ∀ n, fb_ct p m ≤ fb_ct p (m + n)
  | 0 => Nat.le_refl _
  | n + 1 => by
    have h := fb_ct_step p m n
    show fb_ct p m ≤ fb_ct p (m + n + 1)
    rw [fb_ct_succ]
    omega
theorem fb_ct_mono (p : Nat → Bool) {m n : Nat} (h : m ≤ n) : fb_ct p m ≤ fb_ct p n := by
  have := fb_ct_step p m (n - m)
  rwa [Nat.add_sub_cancel' h] at this
theorem fb_ct_cong {p q : Nat → Bool} : ∀ {n : Nat}, (∀ k, k < n → p k = q k) → fb_ct p n = fb_ct q n
  | 0, _ => rfl
  | n + 1, h => by
    rw [fb_ct_succ, fb_ct_succ, fb_ct_cong (fun k hk => h k (by omega)), h n (by omega)]
/-- one place changed -/
theorem fb_ct_out (p : Nat → Bool) (b : Bool) {i n : Nat} (h : n ≤ i) : fb_ct (fun k => if k = i then b else p k) n = fb_ct p n :=
  fb_ct_cong fun k hk => if_neg (by omega)
theorem fb_ct_upd (p : Nat → Bool) (b : Bool) {i : Nat} : ∀ {n : Nat}, i < n → fb_ct (fun k => if k = i then b else p k) n + (if p i then 1 else 0) = fb_ct p n + (if b then 1 else 0)
  | 0, h => absurd h (Nat.not_lt_zero i)
  | n + 1, h => by
    rw [fb_ct_succ, fb_ct_succ]
    rcases Nat.lt_or_ge i n with q | q
    · have := fb_ct_upd p b q
      have e : (if n = i then b else p n) = p n := if_neg (by omega)
      rw [e]
      omega
    · have e : i = n := by omega
      subst e
      rw [fb_ct_out p b (Nat.le_refl _)]
      simp only [if_true]
      omega
theorem fb_ct_sub {p q : Nat → Bool} : ∀ {n : Nat}, (∀ k, k < n → p k = true → q k = true) → fb_ct p n ≤ fb_ct q n
  | 0, _ => Nat.le_refl _
  | n + 1, h => by
    have h1 := fb_ct_sub (n := n) (p := p) (q := q) (fun k hk => h k (by omega))
    have h2 := h n (by omega)
    rw [fb_ct_succ, fb_ct_succ]
    cases hp : p n <;> cases hq : q n <;> simp_all <;> omega
theorem fb_ct_or {p q : Nat → Bool} : ∀ {n : Nat}, (∀ k, k < n → ¬ (p k = true ∧ q k = true)) → fb_ct (fun k => p k || q k) n = fb_ct p n + fb_ct q n
  | 0, _ => rfl
  | n + 1, h => by
    have h1 := fb_ct_or (n := n) (p := p) (q := q) (fun k hk => h k (by omega))
    have h2 := h n (by omega)
    rw [fb_ct_succ, fb_ct_succ, fb_ct_succ, h1]
    cases hp : p n <;> cases hq : q n <;> simp_all <;> omega
theorem fb_ct_not (p : Nat → Bool) : ∀ n, fb_ct p n + fb_ct (fun k => !p k) n = n
  | 0 => rfl
  | n + 1 => by
    have h := fb_ct_not p n
    rw [fb_ct_succ, fb_ct_succ]
    cases p n <;> simp <;> omega
theorem fb_ct_split (p : Nat → Bool) (m : Nat) : ∀ n, fb_ct p (m + n) = fb_ct p m + fb_ct (fun k => p (m + k)) n
  | 0 => rfl
  | n + 1 => by
    have h := fb_ct_split p m n
    show fb_ct p (m + n + 1) = _
    rw [fb_ct_succ, fb_ct_succ, h, Nat.add_assoc]
theorem fb_ct_zero {p : Nat → Bool} : ∀ {n : Nat}, fb_ct p n = 0 ↔ ∀ k, k < n → p k = false
  | 0 => ⟨fun _ k hk => absurd hk (Nat.not_lt_zero k), fun _ => rfl⟩
  | n + 1 => by
    have h := fb_ct_zero (p := p) (n := n)
    rw [fb_ct_succ]
    constructor
    · intro e k hk
      have e1 : fb_ct p n = 0 := by omega
      rcases Nat.lt_or_ge k n with q | q
      · exact h.mp e1 k q
      · have ek : k = n := by omega
        subst ek
        cases hp : p k
        · rfl
        · simp [hp] at e
    · intro a
      rw [h.mpr (fun k hk => a k (by omega)), a n (by omega)]
      rfl
theorem fb_ct_pos {p : Nat → Bool} {n : Nat} : 0 < fb_ct p n ↔ ∃ k, k < n ∧ p k = true := by
  constructor
  · intro h
    refine Classical.byContradiction fun hx => ?_
    have := fb_ct_zero.mpr (fun k hk => by
      cases hp : p k
      · rfl
      · exact absurd ⟨k, hk, hp⟩ hx : ∀ k, k < n → p k = false)
    omega
  · rintro ⟨k, hk, hp⟩
    rcases Nat.eq_zero_or_pos (fb_ct p n) with e | e
    · have := fb_ct_zero.mp e k hk
      rw [this] at hp
      cases hp
    · exact e
theorem fb_ct_all {p : Nat → Bool} {n : Nat} : fb_ct p n = n ↔ ∀ k, k < n → p k = true := by
  have h := fb_ct_not p n
  constructor
  · intro e k hk
    have z : fb_ct (fun k => !p k) n = 0 := by omega
    have := fb_ct_zero.mp z k hk
    cases hp : p k
    · simp [hp] at this
    · rfl
  · intro a
    have z : fb_ct (fun k => !p k) n = 0 := fb_ct_zero.mpr (fun k hk => by simp [a k hk])
    omega
/-- the k-th place with the property -/
theorem fb_ct_kth {p : Nat → Bool} {k : Nat} : ∀ {n : Nat}, k < fb_ct p n → ∃ i, i < n ∧ p i = true ∧ fb_ct p i = k
  | 0, h => absurd h (Nat.not_lt_zero k)
  | n + 1, h => by
    rcases Nat.lt_or_ge k (fb_ct p n) with q | q
    · obtain ⟨i, h1, h2⟩ := fb_ct_kth q
      exact ⟨i, by omega, h2⟩
    · rw [fb_ct_succ] at h
      cases hp : p n
      · simp [hp] at h; omega
      · simp [hp] at h
        exact ⟨n, by omega, hp, by omega⟩
theorem fb_ct_kth_one {p : Nat → Bool} {i j : Nat} (hi : p i = true) (hj : p j = true) (e : fb_ct p i = fb_ct p j) : i = j := by
  have key : ∀ a b : Nat, a < b → p a = true → fb_ct p a < fb_ct p b := by
    intro a b hab ha
    have h := fb_ct_mono p (show a + 1 ≤ b from hab)
    rw [fb_ct_succ, ha] at h
    simp at h
    omega
  rcases Nat.lt_trichotomy i j with q | q | q
  · have := key i j q hi; omega
  · exact q
  · have := key j i q hj; omega
/-! ===== sums over a range: one place changed, parts, bounds ===== -/
def fb_sm (f : Nat → Nat) : Nat → Nat
  | 0 => 0
  | n + 1 => fb_sm f n + f n
theorem fb_sm_succ (f : Nat → Nat) (n : Nat) : fb_sm f (n + 1) = fb_sm f n + f n := rfl
theorem fb_sm_cong {f g : Nat → Nat} : ∀ {n : Nat}, (∀ k, k < n → f k = g k) → fb_sm f n = fb_sm g n
  | 0, _ => rfl
  | n + 1, h => by rw [fb_sm_succ, fb_sm_succ, fb_sm_cong (fun k hk => h k (by omega)), h n (by omega)]
theorem fb_sm_out (f : Nat → Nat) (v : Nat) {i n : Nat} (h : n ≤ i) : fb_sm (fun k => if k = i then v else f k) n = fb_sm f n :=
  fb_sm_cong fun k hk => if_neg (by omega)
theorem fb_sm_upd (f : Nat → Nat) (v : Nat) {i : Nat} : ∀ {n : Nat}, i < n → fb_sm (fun k => if k = i then v else f k) n + f i = fb_sm f n + v
  | 0, h => absurd h (Nat.not_lt_zero i)
  | n + 1, h => by
    rw [fb_sm_succ, fb_sm_succ]
    rcases Nat.lt_or_ge i n with q | q
    · have := fb_sm_upd f v q
      have e : (if n = i then v else f n) = f n := if_neg (by omega)
      rw [e]
      omega
    · have e : i = n := by omega
      subst e
      rw [fb_sm_out f v (Nat.le_refl _)]
      simp only [if_true]
      omega
theorem fb_sm_add (f g : Nat → Nat) : ∀ n, fb_sm (fun k => f k + g k) n = fb_sm f n + fb_sm g n
  | 0 => rfl
  | n + 1 => by
    have h := fb_sm_add f g n
    rw [fb_sm_succ, fb_sm_succ, fb_sm_succ, h]
    omega
theorem fb_sm_le {f g : Nat → Nat} : ∀ {n : Nat}, (∀ k, k < n → f k ≤ g k) → fb_sm f n ≤ fb_sm g n
  | 0, _ => Nat.le_refl _
  | n + 1, h => by
    have h1 := fb_sm_le (n := n) (f := f) (g := g) (fun k hk => h k (by omega))
    have h2 := h n (by omega)
    rw [fb_sm_succ, fb_sm_succ]
    omega
theorem fb_sm_const (c : Nat) : ∀ n, fb_sm (fun _ => c) n = n * c
  | 0 => by rw [Nat.zero_mul]; rfl
  | n + 1 => by rw [fb_sm_succ, fb_sm_const c n, Nat.succ_mul]
theorem fb_sm_bound {f : Nat → Nat} {c n : Nat} (h : ∀ k, k < n → f k ≤ c) : fb_sm f n ≤ n * c := by
  rw [← fb_sm_const c n]
  exact fb_sm_le h
theorem fb_sm_mono (f : Nat → Nat) (m : Nat) : ∀ n, fb_sm f m ≤ fb_sm f (m + n)
  | 0 => Nat.le_refl _
  | n + 1 => by
    have h := fb_sm_mono f m n
    show fb_sm f m ≤ fb_sm f (m + n + 1)
    rw [fb_sm_succ]
    omega
theorem fb_sm_part (f : Nat → Nat) {i n : Nat} (h : i < n) : fb_sm f i + f i ≤ fb_sm f n := by
  have := fb_sm_mono f (i + 1) (n - (i + 1))
  rw [fb_sm_succ, show i + 1 + (n - (i + 1)) = n by omega] at this
  exact this
theorem fb_sm_split (f : Nat → Nat) (m : Nat) : ∀ n, fb_sm f (m + n) = fb_sm f m + fb_sm (fun k => f (m + k)) n
  | 0 => rfl
  | n + 1 => by
    have h := fb_sm_split f m n
    show fb_sm f (m + n + 1) = _
    rw [fb_sm_succ, fb_sm_succ, h, Nat.add_assoc]
theorem fb_sm_zero {f : Nat → Nat} {n : Nat} (h : fb_sm f n = 0) : ∀ k, k < n → f k = 0 := fun k hk => by
  have := fb_sm_part f hk
  omega
/-- the same over whole numbers -/
def fb_si (f : Nat → Int) : Nat → Int
  | 0 => 0
  | n + 1 => fb_si f n + f n
theorem fb_si_succ (f : Nat → Int) (n : Nat) : fb_si f (n + 1) = fb_si f n + f n := rfl
theorem fb_si_cong {f g : Nat → Int} : ∀ {n : Nat}, (∀ k, k < n → f k = g k) → fb_si f n = fb_si g n
  | 0, _ => rfl
  | n + 1, h => by rw [fb_si_succ, fb_si_succ, fb_si_cong (fun k hk => h k (by omega)), h n (by omega)]
theorem fb_si_out (f : Nat → Int) (v : Int) {i n : Nat} (h : n ≤ i) : fb_si (fun k => if k = i then v else f k) n = fb_si f n :=
  fb_si_cong fun k hk => if_neg (by omega)
theorem fb_si_upd (f : Nat → Int) (v : Int) {i : Nat} : ∀ {n : Nat}, i < n → fb_si (fun k => if k = i then v else f k) n = fb_si f n - f i + v
  | 0, h => absurd h (Nat.not_lt_zero i)
  | n + 1, h => by
    rw [fb_si_succ, fb_si_succ]
    rcases Nat.lt_or_ge i n with q | q
    · have := fb_si_upd f v q
      have e : (if n = i then v else f n) = f n := if_neg (by omega)
      rw [e]
      omega
    · have e : i = n := by omega
      subst e
      rw [fb_si_out f v (Nat.le_refl _)]
      simp only [if_true]
      omega
theorem fb_si_add (f g : Nat → Int) : ∀ n, fb_si (fun k => f k + g k) n = fb_si f n + fb_si g n
  | 0 => rfl
  | n + 1 => by
    have h := fb_si_add f g n
    rw [fb_si_succ, fb_si_succ, fb_si_succ, h]
    omega
theorem fb_si_sub (f g : Nat → Int) : ∀ n, fb_si (fun k => f k - g k) n = fb_si f n - fb_si g n
  | 0 => rfl
  | n + 1 => by
    have h := fb_si_sub f g n
    rw [fb_si_succ, fb_si_succ, fb_si_succ, h]
    omega
theorem fb_si_mul (c : Int) (f : Nat → Int) : ∀ n, fb_si (fun k => c * f k) n = c * fb_si f n
  | 0 => (Int.mul_zero c).symm
  | n + 1 => by
    have h := fb_si_mul c f n
    rw [fb_si_succ, fb_si_succ, h, Int.mul_add]
theorem fb_si_split (f : Nat → Int) (m : Nat) : ∀ n, fb_si f (m + n) = fb_si f m + fb_si (fun k => f (m + k)) n
  | 0 => (Int.add_zero _).symm
  | n + 1 => by
    have h := fb_si_split f m n
    show fb_si f (m + n + 1) = _
    rw [fb_si_succ, fb_si_succ, h, Int.add_assoc]
theorem fb_si_nat (f : Nat → Nat) : ∀ n, fb_si (fun k => (f k : Int)) n = (fb_sm f n : Int)
  | 0 => rfl
  | n + 1 => by
    have h := fb_si_nat f n
    rw [fb_si_succ, fb_sm_succ, h]
    omega
theorem fb_si_bound {f : Nat → Int} {c : Int} (hc : 0 ≤ c) : ∀ {n : Nat}, (∀ k, k < n → -c ≤ f k ∧ f k ≤ c) → -(n * c) ≤ fb_si f n ∧ fb_si f n ≤ n * c
  | 0, _ => by simp [fb_si]
  | n + 1, h => by
    have h1 := fb_si_bound (n := n) (f := f) hc (fun k hk => h k (by omega))
    have h2 := h n (by omega)
    have e : ((n + 1 : Nat) : Int) * c = n * c + c := by rw [Int.natCast_add, Int.add_mul]; simp
    rw [fb_si_succ, e]
    omega
/-! ===== bits of a long that isn't negative ===== -/
theorem fb_andL (a b : Nat) : lN a &&& lN b = lN (a &&& b) := by
  apply Int64.toBitVec_inj.1
  show BitVec.ofNat 64 a &&& BitVec.ofNat 64 b = BitVec.ofNat 64 (a &&& b)
  apply BitVec.eq_of_getLsbD_eq
  intro i hi
  simp [hi]
theorem fb_orL (a b : Nat) : lN a ||| lN b = lN (a ||| b) := by
  apply Int64.toBitVec_inj.1
  show BitVec.ofNat 64 a ||| BitVec.ofNat 64 b = BitVec.ofNat 64 (a ||| b)
  apply BitVec.eq_of_getLsbD_eq
  intro i hi
  simp [hi]
theorem fb_xorL (a b : Nat) : lN a ^^^ lN b = lN (a ^^^ b) := by
  apply Int64.toBitVec_inj.1
  show BitVec.ofNat 64 a ^^^ BitVec.ofNat 64 b = BitVec.ofNat 64 (a ^^^ b)
  apply BitVec.eq_of_getLsbD_eq
  intro i hi
  simp [hi]
theorem fb_xorI (a b : Nat) : nI a ^^^ nI b = nI (a ^^^ b) := by
  apply Int32.toBitVec_inj.1
  show BitVec.ofNat 32 a ^^^ BitVec.ofNat 32 b = BitVec.ofNat 32 (a ^^^ b)
  apply BitVec.eq_of_getLsbD_eq
  intro i hi
  simp [hi]
theorem fb_maskL (n k : Nat) : lN n &&& lN (2 ^ k - 1) = lN (n % 2 ^ k) := by rw [fb_andL, Nat.and_two_pow_sub_one_eq_mod]
theorem fb_or_sumL {a k : Nat} (b : Nat) (h : a < 2 ^ k) : lN (2 ^ k * b) ||| lN a = lN (2 ^ k * b + a) := by rw [fb_orL, Nat.two_pow_add_eq_or_of_lt h]
theorem fb_lN_inj {a b : Nat} (ha : a < 2 ^ 63) (hb : b < 2 ^ 63) : lN a = lN b ↔ a = b := by
  constructor
  · intro h
    have h1 : (BitVec.ofNat 64 a).toNat = (BitVec.ofNat 64 b).toNat := congrArg (fun x : Int64 => x.toBitVec.toNat) h
    rw [BitVec.toNat_ofNat, BitVec.toNat_ofNat, Nat.mod_eq_of_lt (by omega), Nat.mod_eq_of_lt (by omega)] at h1
    exact h1
  · rintro rfl; rfl
theorem fb_bit_nat (n j : Nat) : n &&& 2 ^ j = 0 ↔ n.testBit j = false := by
  constructor
  · intro h
    have h1 : (n &&& 2 ^ j).testBit j = false := by rw [h]; simp
    rw [Nat.testBit_and] at h1
    simpa using h1
  · intro h
    apply Nat.eq_of_testBit_eq
    intro i
    rw [Nat.testBit_and]
    by_cases hi : j = i
    · subst hi; simp [h]
    · first | (simp [Nat.testBit_two_pow, hi]; done) | (simp [Nat.testBit_two_pow_of_ne hi]; done)
/-- one bit of a long -/
theorem fb_bitL {n j : Nat} (hj : j < 63) : lN n &&& lN (2 ^ j) = 0 ↔ n.testBit j = false := by
  have h2 : (2 : Nat) ^ j < 2 ^ 63 := Nat.pow_lt_pow_right (by decide) hj
  have hle : n &&& 2 ^ j ≤ 2 ^ j := Nat.and_le_right
  rw [fb_andL, ← fb_bit_nat, show (0 : Int64) = lN 0 from rfl]
  exact fb_lN_inj (by omega) (by decide)
/-- a bit set, a bit taken off -/
theorem fb_bit_set (n j i : Nat) : (n ||| 2 ^ j).testBit i = (n.testBit i || decide (i = j)) := by
  rw [Nat.testBit_or]
  by_cases h : j = i
  · subst h; simp
  · have h2 : ¬ i = j := fun e => h e.symm
    first | (simp [Nat.testBit_two_pow, h, h2]; done) | (simp [Nat.testBit_two_pow_of_ne h, h2]; done)
theorem fb_bit_flip (n j i : Nat) : (n ^^^ 2 ^ j).testBit i = (n.testBit i ^^ decide (i = j)) := by
  rw [Nat.testBit_xor]
  by_cases h : j = i
  · subst h; simp
  · have h2 : ¬ i = j := fun e => h e.symm
    first | (simp [Nat.testBit_two_pow, h, h2]; done) | (simp [Nat.testBit_two_pow_of_ne h, h2]; done)
/-! ===== a stretch of an array written over by a function ===== -/
def fb_put {α : Type} (f g : Nat → α) (a n : Nat) : Nat → α := fun k => if a ≤ k ∧ k < a + n then g (k - a) else f k
theorem fb_put_0 {α : Type} (f g : Nat → α) (a : Nat) : fb_put f g a 0 = f := funext fun k => if_neg (by omega)
theorem fb_put_in {α : Type} {f g : Nat → α} {a n k : Nat} (h1 : a ≤ k) (h2 : k < a + n) : fb_put f g a n k = g (k - a) := if_pos ⟨h1, h2⟩
theorem fb_put_out {α : Type} {f g : Nat → α} {a n k : Nat} (h : k < a ∨ a + n ≤ k) : fb_put f g a n k = f k := if_neg (by omega)
theorem fb_put_succ (f g : Nat → Int32) (a n : Nat) : upd (fb_put f g a n) (a + n) (g n) = fb_put f g a (n + 1) := by
  funext k
  by_cases h : k = a + n
  · subst h
    simp [upd, fb_put]
  · by_cases h1 : a ≤ k ∧ k < a + n
    · have h2 : a ≤ k ∧ k < a + (n + 1) := by omega
      simp only [upd, fb_put, if_neg h, if_pos h1, if_pos h2]
    · have h2 : ¬ (a ≤ k ∧ k < a + (n + 1)) := by omega
      simp only [upd, fb_put, if_neg h, if_neg h1, if_neg h2]
/-- .. from the far end down -/
theorem fb_put_down (f g : Nat → Int32) {a n m : Nat} (h : m < n) : upd (fb_put f (fun k => g (k + (m + 1))) (a + (m + 1)) (n - (m + 1))) (a + m) (g m) = fb_put f (fun k => g (k + m)) (a + m) (n - m) := by
  funext k
  by_cases h0 : k = a + m
  · subst h0
    simp only [upd, if_true]
    rw [fb_put_in (by omega) (by omega)]
    exact congrArg g (by omega)
  · simp only [upd, if_neg h0]
    by_cases h1 : a + (m + 1) ≤ k ∧ k < a + (m + 1) + (n - (m + 1))
    · rw [fb_put_in h1.1 h1.2, fb_put_in (by omega) (by omega)]
      exact congrArg g (by omega)
    · rw [fb_put_out (by omega), fb_put_out (by omega)]
theorem fb_put_cong {α : Type} {f f2 g g2 : Nat → α} {a n : Nat} (hf : ∀ k, (k < a ∨ a + n ≤ k) → f k = f2 k) (hg : ∀ k, k < n → g k = g2 k) : fb_put f g a n = fb_put f2 g2 a n := by
  funext k
  by_cases h : a ≤ k ∧ k < a + n
  · rw [fb_put_in h.1 h.2, fb_put_in h.1 h.2, hg _ (by omega)]
  · rw [fb_put_out (by omega), fb_put_out (by omega), hf _ (by omega)]
/-! ===== the least, the first, the best so far; that there is one alone ===== -/
theorem fb_first {p : Nat → Prop} [DecidablePred p] : ∀ {n : Nat}, (∃ i, i < n ∧ p i) → ∃ i, i < n ∧ p i ∧ ∀ j, j < i → ¬ p j
  | 0, h => by obtain ⟨i, hi, -⟩ := h; exact absurd hi (Nat.not_lt_zero i)
  | n + 1, h => by
    by_cases q : ∃ i, i < n ∧ p i
    · obtain ⟨i, h1, h2⟩ := fb_first q
      exact ⟨i, by omega, h2⟩
    · obtain ⟨i, h1, h2⟩ := h
      have e : i = n := by
        rcases Nat.lt_or_ge i n with r | r
        · exact absurd ⟨i, r, h2⟩ q
        · omega
      subst e
      exact ⟨i, by omega, h2, fun j hj hp => q ⟨j, hj, hp⟩⟩
theorem fb_first_one {p : Nat → Prop} {i j : Nat} (hi : p i) (hi2 : ∀ k, k < i → ¬ p k) (hj : p j) (hj2 : ∀ k, k < j → ¬ p k) : i = j := by
  rcases Nat.lt_trichotomy i j with q | q | q
  · exact absurd hi (hj2 i q)
  · exact q
  · exact absurd hj (hi2 j q)
theorem fb_last {p : Nat → Prop} [DecidablePred p] : ∀ {n : Nat}, (∃ i, i < n ∧ p i) → ∃ i, i < n ∧ p i ∧ ∀ j, i < j → j < n → ¬ p j
  | 0, h => by obtain ⟨i, hi, -⟩ := h; exact absurd hi (Nat.not_lt_zero i)
  | n + 1, h => by
    by_cases q : p n
    · exact ⟨n, by omega, q, fun j h1 h2 => by omega⟩
    · obtain ⟨i, h1, h2⟩ := h
      have hi : i < n := by
        rcases Nat.lt_or_ge i n with r | r
        · exact r
        · have e : i = n := by omega
          subst e
          exact absurd h2 q
      obtain ⟨i2, a1, a2, a3⟩ := fb_last (n := n) ⟨i, hi, h2⟩
      refine ⟨i2, by omega, a2, fun j b1 b2 => ?_⟩
      rcases Nat.lt_or_ge j n with r | r
      · exact a3 j b1 r
      · have e : j = n := by omega
        subst e
        exact q
/-- the first greatest -/
theorem fb_best (f : Nat → Int) : ∀ {n : Nat}, 0 < n → ∃ i, i < n ∧ (∀ j, j < n → f j ≤ f i) ∧ ∀ j, j < i → f j < f i
  | 0, h => absurd h (Nat.lt_irrefl 0)
  | 1, _ => ⟨0, by omega, fun j hj => by have e : j = 0 := by omega
                                         subst e; exact Int.le_refl _, fun j hj => absurd hj (Nat.not_lt_zero j)⟩
  | n + 2, _ => by
    obtain ⟨i, h1, h2, h3⟩ := fb_best f (n := n + 1) (by omega)
    by_cases q : f i < f (n + 1)
    · refine ⟨n + 1, by omega, fun j hj => ?_, fun j hj => ?_⟩
      · rcases Nat.lt_or_ge j (n + 1) with r | r
        · have := h2 j r; omega
        · have e : j = n + 1 := by omega
          subst e; exact Int.le_refl _
      · have := h2 j hj; omega
    · refine ⟨i, by omega, fun j hj => ?_, h3⟩
      rcases Nat.lt_or_ge j (n + 1) with r | r
      · exact h2 j r
      · have e : j = n + 1 := by omega
        subst e; omega
theorem fb_best_one {f : Nat → Int} {n i j : Nat} (hi : i < n) (hi2 : ∀ k, k < n → f k ≤ f i) (hi3 : ∀ k, k < i → f k < f i) (hj : j < n) (hj2 : ∀ k, k < n → f k ≤ f j) (hj3 : ∀ k, k < j → f k < f j) : i = j := by
  rcases Nat.lt_trichotomy i j with q | q | q
  · have a := hj3 i q
    have b := hi2 j hj
    omega
  · exact q
  · have a := hi3 j q
    have b := hj2 i hi
    omega
/-- the first least -/
theorem fb_low (f : Nat → Int) {n : Nat} (h : 0 < n) : ∃ i, i < n ∧ (∀ j, j < n → f i ≤ f j) ∧ ∀ j, j < i → f i < f j := by
  obtain ⟨i, h1, h2, h3⟩ := fb_best (fun k => -f k) h
  exact ⟨i, h1, fun j hj => by have := h2 j hj; omega, fun j hj => by have := h3 j hj; omega⟩
/-! ===== signed ints as whole numbers, within bounds ===== -/
theorem fb_rng (x : Int32) : -2147483648 ≤ x.toInt ∧ x.toInt < 2147483648 := by
  have h1 := Int32.le_toInt x
  have h2 := Int32.toInt_lt x
  omega
theorem fb_bmod {z : Int} (h1 : -2147483648 ≤ z) (h2 : z < 2147483648) : z.bmod (2 ^ 32) = z := by
  rw [Int.bmod_eq_of_le (by omega) (by omega)]
theorem fb_addI {x y : Int32} (h1 : -2147483648 ≤ x.toInt + y.toInt) (h2 : x.toInt + y.toInt < 2147483648) : (x + y).toInt = x.toInt + y.toInt := by
  rw [Int32.toInt_add, fb_bmod h1 h2]
theorem fb_subI {x y : Int32} (h1 : -2147483648 ≤ x.toInt - y.toInt) (h2 : x.toInt - y.toInt < 2147483648) : (x - y).toInt = x.toInt - y.toInt := by
  rw [Int32.toInt_sub, fb_bmod h1 h2]
theorem fb_mulI {x y : Int32} (h1 : -2147483648 ≤ x.toInt * y.toInt) (h2 : x.toInt * y.toInt < 2147483648) : (x * y).toInt = x.toInt * y.toInt := by
  rw [Int32.toInt_mul, fb_bmod h1 h2]
theorem fb_negI {x : Int32} (h : x.toInt ≠ -2147483648) : (-x).toInt = -x.toInt := by
  have := fb_rng x
  rw [Int32.toInt_neg, fb_bmod (by omega) (by omega)]
theorem fb_ofI {z : Int} (h1 : -2147483648 ≤ z) (h2 : z < 2147483648) : (Int32.ofInt z).toInt = z := by
  rw [Int32.toInt_ofInt, fb_bmod h1 h2]
theorem fb_asI (x : Int32) : Int32.ofInt x.toInt = x := Int32.ofInt_toInt x
theorem fb_rngL (x : Int64) : -9223372036854775808 ≤ x.toInt ∧ x.toInt < 9223372036854775808 := by
  have h1 := Int64.le_toInt x
  have h2 := Int64.toInt_lt x
  omega
theorem fb_bmodL {z : Int} (h1 : -9223372036854775808 ≤ z) (h2 : z < 9223372036854775808) : z.bmod (2 ^ 64) = z := by
  rw [Int.bmod_eq_of_le (by omega) (by omega)]
theorem fb_addL {x y : Int64} (h1 : -9223372036854775808 ≤ x.toInt + y.toInt) (h2 : x.toInt + y.toInt < 9223372036854775808) : (x + y).toInt = x.toInt + y.toInt := by
  rw [Int64.toInt_add, fb_bmodL h1 h2]
theorem fb_subL {x y : Int64} (h1 : -9223372036854775808 ≤ x.toInt - y.toInt) (h2 : x.toInt - y.toInt < 9223372036854775808) : (x - y).toInt = x.toInt - y.toInt := by
  rw [Int64.toInt_sub, fb_bmodL h1 h2]
theorem fb_mulL {x y : Int64} (h1 : -9223372036854775808 ≤ x.toInt * y.toInt) (h2 : x.toInt * y.toInt < 9223372036854775808) : (x * y).toInt = x.toInt * y.toInt := by
  rw [Int64.toInt_mul, fb_bmodL h1 h2]
/-! ===== cuts of what is narrow already ===== -/
theorem fb_byte {x : Int32} (h1 : -128 ≤ x.toInt) (h2 : x.toInt < 128) : x.toInt8.toInt32 = x := by
  apply Int32.toInt_inj.1
  rw [Int8.toInt_toInt32, Int32.toInt_toInt8, Int.bmod_eq_of_le (by omega) (by omega)]
theorem fb_short {x : Int32} (h1 : -32768 ≤ x.toInt) (h2 : x.toInt < 32768) : x.toInt16.toInt32 = x := by
  apply Int32.toInt_inj.1
  rw [Int16.toInt_toInt32, Int32.toInt_toInt16, Int.bmod_eq_of_le (by omega) (by omega)]
theorem fb_byte_rng (x : Int32) : -128 ≤ x.toInt8.toInt32.toInt ∧ x.toInt8.toInt32.toInt < 128 := by
  rw [Int8.toInt_toInt32]
  have h1 := Int8.le_toInt x.toInt8
  have h2 := Int8.toInt_lt x.toInt8
  omega
theorem fb_short_rng (x : Int32) : -32768 ≤ x.toInt16.toInt32.toInt ∧ x.toInt16.toInt32.toInt < 32768 := by
  rw [Int16.toInt_toInt32]
  have h1 := Int16.le_toInt x.toInt16
  have h2 := Int16.toInt_lt x.toInt16
  omega
theorem fb_byte_twice (x : Int32) : x.toInt8.toInt32.toInt8.toInt32 = x.toInt8.toInt32 := fb_byte (fb_byte_rng x).1 (fb_byte_rng x).2
theorem fb_short_twice (x : Int32) : x.toInt16.toInt32.toInt16.toInt32 = x.toInt16.toInt32 := fb_short (fb_short_rng x).1 (fb_short_rng x).2
theorem fb_char {n : Nat} (h : n < 65536) : (nI n).toUInt32.toUInt16.toUInt32.toInt32 = nI n := by
  apply Int32.toBitVec_inj.1
  apply BitVec.eq_of_toNat_eq
  have e1 : (nI n).toBitVec.toNat = n := by
    show (BitVec.ofNat 32 n).toNat = n
    rw [BitVec.toNat_ofNat, Nat.mod_eq_of_lt (by omega)]
  have e2 : ((nI n).toUInt32.toUInt16.toUInt32).toNat = n := by
    rw [UInt16.toNat_toUInt32, UInt32.toNat_toUInt16]
    show (nI n).toBitVec.toNat % 2 ^ 16 = n
    rw [e1, Nat.mod_eq_of_lt (by omega)]
  rw [e1]
  exact e2
end
section
/-! ===== the shape of the cells, small words ===== -/
/-- cells 0 to 18 the class's, 19 to 39 the reference's, ex the images' -/
def sh_ (i0 i1 : Option Nat) (ex : List pm_C) : List pm_C :=
  (0, 5, [some (some 1), some (some 3), some (some 9), some (some 10), some (some 13), some (some 18)]) ::
  (0, 3, [none, some (some 2)]) :: (1, 48, []) ::
  (0, 1, [none, none, none, none, none, none, some (some 4), some (some 5), some (some 6), some (some 7), some (some 8)]) :: (1, 6, []) :: (1, 6, []) :: (1, 6, []) :: (1, 6, []) :: (1, 6, []) ::
  (4, 2, [some i0, some i1]) ::
  (0, 0, [none, none, none, some (some 11), some (some 12)]) :: (1, 4, []) :: (1, 4, []) ::
  (0, 4, [none, none, none, some (some 14), some (some 15)]) :: (1, 13, []) :: (0, 2, [some (some 16), some (some 17)]) :: (1, 8192, []) :: (1, 8192, []) :: (3, 31, []) ::
  (0, 6, [none, some (some 20), some (some 21), none, none, none, none, some (some 22), none, none, some (some 23), none, none, some (some 24), none, none, none, some (some 25), none, some (some 26), some (some 27), some (some 28), some (some 29), none, none, some (some 30), some (some 31), some (some 32), some (some 33), some (some 34), some (some 35), some (some 36), some (some 37), some (some 38), some (some 39)]) ::
  (1, 6, []) :: (1, 6, []) :: (1, 48, []) :: (1, 6, []) :: (1, 12, []) :: (1, 6, []) :: (2, 49, []) :: (3, 32, []) :: (3, 65536, []) :: (3, 65536, []) :: (1, 5400, []) :: (1, 5400, []) :: (1, 5400, []) :: (1, 16384, []) :: (1, 16, []) :: (1, 16, []) :: (1, 16, []) :: (1, 16, []) :: (1, 84, []) :: (2, 2, []) :: ex
/-- nothing changes, and this is answered -/
abbrev pm_ret (r : Option Value) (sg : List pm_C) (mu : pm_I) (nu : pm_J) : pm_Po := fun v sg' mu' nu' => r = v ∧ sg = sg' ∧ mu = mu' ∧ nu = nu'
def bI (c : Prop) [Decidable c] : Int32 := if c then 1 else 0
theorem bI_z {c : Prop} [Decidable c] : bI c = 0 ↔ ¬ c := by
  unfold bI
  by_cases h : c
  · simp [h]
  · simp [h]
theorem bI_n {c : Prop} [Decidable c] : ¬ bI c = 0 ↔ c := by
  rw [bI_z]
  exact Decidable.not_not
theorem bI_1 {c : Prop} [Decidable c] (h : c) : bI c = 1 := if_pos h
theorem bI_0 {c : Prop} [Decidable c] (h : ¬ c) : bI c = 0 := if_neg h
theorem bI_w {c : Prop} [Decidable c] : narrow .boolean (.int (bI c)) = .int (bI c) := by
  unfold bI
  by_cases h : c
  · rw [if_pos h]; rfl
  · rw [if_neg h]; rfl
theorem bI_c {c e : Prop} [Decidable c] [Decidable e] (h : c ↔ e) : bI c = bI e := by
  unfold bI
  by_cases h1 : c
  · rw [if_pos h1, if_pos (h.mp h1)]
  · rw [if_neg h1, if_neg (fun q => h1 (h.mpr q))]
/-- a frame may be entered with other words for the same locals, stack or memory -/
theorem pm_G.cast {cx : pm_CX} {fx : pm_FX} {cells slots pc : Nat} {L L' : pm_L} {S S' : List Value} {sg : List pm_C} {mu mu' : pm_I} {nu nu' : pm_J} (k : pm_G cx fx cells slots pc L' S' sg mu' nu') (h1 : L = L') (h2 : S = S') (h3 : mu = mu') (h4 : nu = nu') : pm_G cx fx cells slots pc L S sg mu nu := by
  subst h1; subst h2; subst h3; subst h4
  exact k
theorem sl_ : ∀ n, n < 32 → ((nI n &&& 31).toBitVec.smod 32).toNat = n := by decide +kernel
theorem su_ : ∀ n, n < 32 → (((nI n).toUInt32 &&& Int32.toUInt32 31).toBitVec % 32).toNat = n := by decide +kernel
theorem nI_m1 {n : Nat} (h : 0 < n) : nI n - 1 = nI (n - 1) := by
  obtain ⟨k, rfl⟩ : ∃ k, n = k + 1 := ⟨n - 1, by omega⟩
  exact nI_pred k
theorem lt_toInt {a b : Int32} : a < b ↔ a.toInt < b.toInt := Int32.lt_iff_toInt_lt
theorem le_toInt {a b : Int32} : a ≤ b ↔ a.toInt ≤ b.toInt := Int32.le_iff_toInt_le
theorem pm_enterN {cx : pm_CX} {mi : pm_M} {d mc ms : Nat} {as : List Value} {sg : List pm_C} {mu : pm_I} {nu : pm_J} {Q : pm_Po} (k : Nat) (hok : pm_ok mi = true) (hn : (pm_la as).length + k = mi.2.2.1) (h : pm_G cx (mi, d, mc, ms, sg.length, Q) 0 0 0 (pm_la as ++ List.replicate k none) [] sg mu nu) : pm_T cx mi d mc ms as sg mu nu Q :=
  pm_enter hok (by omega) (by rw [show mi.2.2.1 - (pm_la as).length = k by omega]; exact h)
/-- some locals are forgotten -/
def pm_fg : pm_L → List Bool → pm_L
  | [], _ => []
  | o :: r, [] => o :: r
  | _ :: r, true :: bs => none :: pm_fg r bs
  | o :: r, false :: bs => o :: pm_fg r bs
theorem pm_fg_get : ∀ (L : pm_L) (bs : List Bool) (j : Nat) (v : Value), (pm_fg L bs)[j]? = some (some v) → L[j]? = some (some v) := by
  intro L
  induction L with
  | nil => intro bs j v h; simp [pm_fg] at h
  | cons o r ih =>
    intro bs j v h
    cases bs with
    | nil => exact h
    | cons b bs =>
      cases b with
      | true =>
        cases j with
        | zero => simp [pm_fg] at h
        | succ j => simp only [pm_fg, List.getElem?_cons_succ] at h ⊢; exact ih bs j v h
      | false =>
        cases j with
        | zero => simpa [pm_fg] using h
        | succ j => simp only [pm_fg, List.getElem?_cons_succ] at h ⊢; exact ih bs j v h
theorem pm_G.fg {cx : pm_CX} {fx : pm_FX} {cells slots pc : Nat} {L : pm_L} {S : List Value} {sg : List pm_C} {mu : pm_I} {nu : pm_J} (bs : List Bool) (k : pm_G cx fx cells slots pc (pm_fg L bs) S sg mu nu) : pm_G cx fx cells slots pc L S sg mu nu := by
  intro p e s m args below meth c A al0 al H locs ls hS hD
  refine k p e s m args below meth c A al0 al H locs ls hS ⟨hD.1, hD.2.1, hD.2.2.1, hD.2.2.2.1, hD.2.2.2.2.1, pm_has_mono hD.2.2.2.2.2 ?_⟩
  intro q hq
  obtain ⟨j, v, h1, rfl⟩ := (pm_lc_mem al _ 0 q).mp hq
  exact (pm_lc_mem al _ 0 _).mpr ⟨j, v, pm_fg_get _ _ _ _ h1, rfl⟩
end
section
/-! ===== the reference's small functions ===== -/
/-- a row, the last watered first, as the reference keeps it -/
def md_r7 : List Nat → Nat
  | [] => 0
  | b :: t => 7 * md_r7 t + (b + 1)
def md_ok (r : List Nat) : Prop := ∀ b ∈ r, b < 6
theorem md_ok_t {b : Nat} {t : List Nat} (h : md_ok (b :: t)) : md_ok t := fun x hx => h x (List.mem_cons_of_mem _ hx)
theorem md_ok_h {b : Nat} {t : List Nat} (h : md_ok (b :: t)) : b < 6 := h b List.mem_cons_self
theorem md_ok_f {r : List Nat} (h : md_ok r) (p : Nat → Bool) : md_ok (r.filter p) := fun x hx => h x (List.mem_filter.mp hx).1
theorem md_r7_lt : ∀ (r : List Nat), md_ok r → md_r7 r < 7 ^ r.length := by
  intro r
  induction r with
  | nil => intro _; decide
  | cons b t ih =>
    intro h
    have h1 := ih (md_ok_t h)
    have h2 := md_ok_h h
    simp only [md_r7, List.length_cons, Nat.pow_succ]
    omega
theorem md_r7_small {r : List Nat} (h : md_ok r) (hl : r.length ≤ 6) : md_r7 r < 117649 := by
  have h1 := md_r7_lt r h
  have h2 : 7 ^ r.length ≤ 7 ^ 6 := Nat.pow_le_pow_right (by omega) hl
  omega
theorem md_div {b : Nat} {t : List Nat} (h : md_ok (b :: t)) (hl : (b :: t).length ≤ 6) : nI (md_r7 (b :: t)) / 7 = nI (md_r7 t) := by
  have h1 := md_r7_small h hl
  have h2 := md_ok_h h
  rw [show (7 : Int32) = nI 7 from rfl, pk_div (by omega) (by omega) (by omega)]
  congr 1
  simp only [md_r7]
  omega
theorem md_rem {b : Nat} {t : List Nat} (h : md_ok (b :: t)) (hl : (b :: t).length ≤ 6) : nI (md_r7 (b :: t)) - nI (md_r7 (b :: t)) / 7 * 7 = nI (b + 1) := by
  have h1 := md_r7_small h hl
  have h2 := md_ok_h h
  rw [show (7 : Int32) = nI 7 from rfl, pk_rem (by omega) (by omega) (by omega)]
  congr 1
  simp only [md_r7]
  omega
theorem md_pos {b : Nat} {t : List Nat} (h : md_ok (b :: t)) (hl : (b :: t).length ≤ 6) : ¬ nI (md_r7 (b :: t)) ≤ 0 := by
  have h1 := md_r7_small h hl
  exact nI_nle (by simp only [md_r7]; omega) (by omega)
section
variable {cx : pm_CX} {d n0 : Nat} {sg : List pm_C} {mu : pm_I} {nu : pm_J}
set_option maxRecDepth 100000 in
set_option maxHeartbeats 1000000 in
theorem t_in (v lo hi : Int32) : pm_T cx mX11_in d 0 0 [.int v, .int lo, .int hi] sg mu nu (pm_ret (some (.int (bI (lo ≤ v ∧ v ≤ hi)))) sg mu nu) := by
  refine pm_enterN 0 (by exact okX11_in) rfl ?_; dsimp only [pm_la, pm_cat2, List.replicate, List.cons_append, List.nil_append, List.append_nil]
  refine pm_go 9999 (by exact okX11_in) rfl ?_; (try dsimp only [pm_st1, pm_st2, pm_cat2, pm_la, Option.toList, List.cons_append, List.nil_append])
  refine pm_ilt (by exact okX11_in) rfl (fun h1 => ?_) (fun h1 => ?_)
  · refine pm_go 9999 (by exact okX11_in) rfl ?_; (try dsimp only [pm_st1, pm_st2, pm_cat2, pm_la, Option.toList, List.cons_append, List.nil_append])
    refine pm_ri (by exact okX11_in) rfl rfl rfl (Nat.le_refl _) (Nat.le_refl _) (⟨by rw [bI_0]; intro q; exact absurd h1 (Int32.not_lt.mpr q.1), rfl, rfl, rfl⟩)
  · refine pm_go 9999 (by exact okX11_in) rfl ?_; (try dsimp only [pm_st1, pm_st2, pm_cat2, pm_la, Option.toList, List.cons_append, List.nil_append])
    refine pm_igt (by exact okX11_in) rfl (fun h2 => ?_) (fun h2 => ?_)
    · refine pm_go 9999 (by exact okX11_in) rfl ?_; (try dsimp only [pm_st1, pm_st2, pm_cat2, pm_la, Option.toList, List.cons_append, List.nil_append])
      refine pm_ri (by exact okX11_in) rfl rfl rfl (Nat.le_refl _) (Nat.le_refl _) (⟨by rw [bI_0]; intro q; exact absurd h2 (Int32.not_lt.mpr q.2), rfl, rfl, rfl⟩)
    · refine pm_go 9999 (by exact okX11_in) rfl ?_; (try dsimp only [pm_st1, pm_st2, pm_cat2, pm_la, Option.toList, List.cons_append, List.nil_append])
      refine pm_ri (by exact okX11_in) rfl rfl rfl (Nat.le_refl _) (Nat.le_refl _) (⟨by rw [bI_1 ⟨Int32.not_lt.mp h1, Int32.not_lt.mp h2⟩], rfl, rfl, rfl⟩)
theorem md_has {s k : Nat} (hs : s < 2 ^ 31) (hk : k < 31) : nI s >>> (nI k &&& 31) &&& 1 = nI (s / 2 ^ k % 2) := by
  rw [pk_shrN hs _ k (sl_ k (by omega)), pk_andN (Nat.lt_of_le_of_lt (Nat.div_le_self _ _) (by omega)) 1 rfl]
set_option maxRecDepth 100000 in
set_option maxHeartbeats 1000000 in
theorem t_has {s k : Nat} (hs : s < 2 ^ 31) (hk : k < 31) : pm_T cx mX11_has d 0 0 [.int (nI s), .int (nI k)] sg mu nu (pm_ret (some (.int (bI (s.testBit k = true)))) sg mu nu) := by
  have e1 : s.testBit k = true ↔ s / 2 ^ k % 2 = 1 := by
    rw [Nat.testBit_eq_decide_div_mod_eq]
    exact decide_eq_true_iff
  have e2 := md_has hs hk
  have e3 : s / 2 ^ k % 2 < 2 := Nat.mod_lt _ (by omega)
  refine pm_enterN 0 (by exact okX11_has) rfl ?_; dsimp only [pm_la, pm_cat2, List.replicate, List.cons_append, List.nil_append, List.append_nil]
  refine pm_go 9999 (by exact okX11_has) rfl ?_; (try dsimp only [pm_st1, pm_st2, pm_cat2, pm_la, Option.toList, List.cons_append, List.nil_append])
  refine pm_ine (by exact okX11_has) rfl (fun h1 => ?_) (fun h1 => ?_)
  · refine pm_go 9999 (by exact okX11_has) rfl ?_; (try dsimp only [pm_st1, pm_st2, pm_cat2, pm_la, Option.toList, List.cons_append, List.nil_append])
    refine pm_ri (by exact okX11_has) rfl rfl rfl (Nat.le_refl _) (Nat.le_refl _) (⟨by rw [bI_0]; rw [e1]; intro q; exact h1 (by rw [e2, q]; rfl), rfl, rfl, rfl⟩)
  · refine pm_go 9999 (by exact okX11_has) rfl ?_; (try dsimp only [pm_st1, pm_st2, pm_cat2, pm_la, Option.toList, List.cons_append, List.nil_append])
    have h2 : s / 2 ^ k % 2 = 1 := (nI_eq (by omega) (by omega)).mp (e2.symm.trans h1)
    refine pm_ri (by exact okX11_has) rfl rfl rfl (Nat.le_refl _) (Nat.le_refl _) (⟨by rw [bI_1 (e1.mpr h2)], rfl, rfl, rfl⟩)
set_option maxRecDepth 100000 in
set_option maxHeartbeats 1000000 in
theorem t_sizeOf_l {Q : pm_Po} {x0 : Int32} : ∀ (r : List Nat) (n : Nat), md_ok r → r.length ≤ 6 → Q (some (.int (nI (n + r.length)))) sg mu nu → pm_G cx (mX11_sizeOf, d, 0, 0, n0, Q) 0 0 4 [some (.int x0), some (.int (nI n)), some (.int (nI (md_r7 r)))] [] sg mu nu := by
  intro r
  induction r with
  | nil =>
    intro n h hl hq
    refine pm_go 9999 (by exact okX11_sizeOf) rfl ?_; (try dsimp only [pm_st1, pm_st2, pm_cat2, pm_la, Option.toList, List.cons_append, List.nil_append])
    refine pm_zle (by exact okX11_sizeOf) rfl (fun h1 => ?_) (fun h1 => ?_)
    · refine pm_go 9999 (by exact okX11_sizeOf) rfl ?_; (try dsimp only [pm_st1, pm_st2, pm_cat2, pm_la, Option.toList, List.cons_append, List.nil_append])
      refine pm_ri (by exact okX11_sizeOf) rfl rfl rfl (Nat.le_refl _) (Nat.le_refl _) (hq)
    · exact absurd (by decide) h1
  | cons b t ih =>
    intro n h hl hq
    refine pm_go 9999 (by exact okX11_sizeOf) rfl ?_; (try dsimp only [pm_st1, pm_st2, pm_cat2, pm_la, Option.toList, List.cons_append, List.nil_append])
    refine pm_zle (by exact okX11_sizeOf) rfl (fun h1 => ?_) (fun h1 => ?_)
    · exact absurd h1 (md_pos h hl)
    · refine pm_go 4 (by exact okX11_sizeOf) rfl ?_; (try dsimp only [pm_st1, pm_st2, pm_cat2, pm_la, Option.toList, List.cons_append, List.nil_append])
      refine pm_div (by exact okX11_sizeOf) rfl (by decide) ?_
      refine pm_go 4 (by exact okX11_sizeOf) rfl ?_; (try dsimp only [pm_st1, pm_st2, pm_cat2, pm_la, Option.toList, List.cons_append, List.nil_append])
      rw [md_div h hl, nI_1]
      exact ih (n + 1) (md_ok_t h) (by simp at hl; omega) (by rw [show n + 1 + t.length = n + (b :: t).length by simp; omega]; exact hq)
set_option maxRecDepth 100000 in
set_option maxHeartbeats 1000000 in
theorem t_sizeOf {r : List Nat} (h : md_ok r) (hl : r.length ≤ 6) : pm_T cx mX11_sizeOf d 0 0 [.int (nI (md_r7 r))] sg mu nu (pm_ret (some (.int (nI r.length))) sg mu nu) := by
  refine pm_enterN 2 (by exact okX11_sizeOf) rfl ?_; dsimp only [pm_la, pm_cat2, List.replicate, List.cons_append, List.nil_append, List.append_nil]
  refine pm_go 4 (by exact okX11_sizeOf) rfl ?_; (try dsimp only [pm_st1, pm_st2, pm_cat2, pm_la, Option.toList, List.cons_append, List.nil_append])
  exact t_sizeOf_l r 0 h hl ⟨by rw [Nat.zero_add], rfl, rfl, rfl⟩
theorem md_r7_f {b : Nat} (a : Nat) (t : List Nat) : md_r7 ((a :: t).filter (fun x => x != b)) = if a = b then md_r7 (t.filter (fun x => x != b)) else 7 * md_r7 (t.filter (fun x => x != b)) + (a + 1) := by
  by_cases h : a = b
  · simp [List.filter_cons, h]
  · simp [List.filter_cons, h, md_r7]
set_option maxRecDepth 100000 in
set_option maxHeartbeats 1000000 in
theorem t_without_l {Q : pm_Po} {x0 : Int32} {b : Nat} (hb : b < 6) : ∀ (r : List Nat) (j mk : Nat), md_ok r → r.length ≤ 6 → j + r.length ≤ 6 → Q (some (.int (nI (mk + 7 ^ j * md_r7 (r.filter (fun x => x != b)))))) sg mu nu → pm_G cx (mX11_without, d, 0, 0, n0, Q) 0 0 7 [some (.int x0), some (.int (nI b)), some (.int (nI (md_r7 r))), some (.int (nI (7 ^ j))), some (.int (nI mk))] [] sg mu nu := by
  intro r
  induction r with
  | nil =>
    intro j mk h hl hj hq
    refine pm_go 9999 (by exact okX11_without) rfl ?_; (try dsimp only [pm_st1, pm_st2, pm_cat2, pm_la, Option.toList, List.cons_append, List.nil_append])
    refine pm_zle (by exact okX11_without) rfl (fun h1 => ?_) (fun h1 => ?_)
    · refine pm_go 9999 (by exact okX11_without) rfl ?_; (try dsimp only [pm_st1, pm_st2, pm_cat2, pm_la, Option.toList, List.cons_append, List.nil_append])
      simp [md_r7] at hq
      refine pm_ri (by exact okX11_without) rfl rfl rfl (Nat.le_refl _) (Nat.le_refl _) (hq)
    · exact absurd (by decide) h1
  | cons a t ih =>
    intro j mk h hl hj hq
    have ha := md_ok_h h
    simp only [List.length_cons] at hj
    refine pm_go 9999 (by exact okX11_without) rfl ?_; (try dsimp only [pm_st1, pm_st2, pm_cat2, pm_la, Option.toList, List.cons_append, List.nil_append])
    refine pm_zle (by exact okX11_without) rfl (fun h1 => ?_) (fun h1 => ?_)
    · exact absurd h1 (md_pos h hl)
    · refine pm_go 9999 (by exact okX11_without) rfl ?_; (try dsimp only [pm_st1, pm_st2, pm_cat2, pm_la, Option.toList, List.cons_append, List.nil_append])
      refine pm_rem (by exact okX11_without) rfl (by decide) ?_
      refine pm_go 9999 (by exact okX11_without) rfl ?_; (try dsimp only [pm_st1, pm_st2, pm_cat2, pm_la, Option.toList, List.cons_append, List.nil_append])
      rw [md_rem h hl, nI_1]
      refine pm_ieq (by exact okX11_without) rfl (fun h2 => ?_) (fun h2 => ?_)
      · have h3 : a = b := by
          have := (nI_eq (by omega) (by omega)).mp h2
          omega
        refine pm_go 9999 (by exact okX11_without) rfl ?_; (try dsimp only [pm_st1, pm_st2, pm_cat2, pm_la, Option.toList, List.cons_append, List.nil_append])
        refine pm_div (by exact okX11_without) rfl (by decide) ?_
        refine pm_go 7 (by exact okX11_without) rfl ?_; (try dsimp only [pm_st1, pm_st2, pm_cat2, pm_la, Option.toList, List.cons_append, List.nil_append])
        rw [md_div h hl]
        refine ih j mk (md_ok_t h) (by simp at hl; omega) (by omega) ?_
        rw [md_r7_f, if_pos h3] at hq
        exact hq
      · have h3 : a ≠ b := fun q => h2 (by rw [q])
        refine pm_go 9999 (by exact okX11_without) rfl ?_; (try dsimp only [pm_st1, pm_st2, pm_cat2, pm_la, Option.toList, List.cons_append, List.nil_append])
        refine pm_rem (by exact okX11_without) rfl (by decide) ?_
        refine pm_go 9999 (by exact okX11_without) rfl ?_; (try dsimp only [pm_st1, pm_st2, pm_cat2, pm_la, Option.toList, List.cons_append, List.nil_append])
        refine pm_div (by exact okX11_without) rfl (by decide) ?_
        refine pm_go 7 (by exact okX11_without) rfl ?_; (try dsimp only [pm_st1, pm_st2, pm_cat2, pm_la, Option.toList, List.cons_append, List.nil_append])
        rw [md_rem h hl, md_div h hl, pk_mul, nI_add, show (7 : Int32) = nI 7 from rfl, pk_mul]
        have hp : 7 ^ j * 7 = 7 ^ (j + 1) := (Nat.pow_succ 7 j).symm
        rw [hp]
        have hlt : md_r7 (a :: t) < 7 ^ (t.length + 1) := md_r7_lt _ h
        have hpj : 7 ^ (j + 1) ≤ 7 ^ 6 := Nat.pow_le_pow_right (by omega) (by omega)
        refine ih (j + 1) (mk + (a + 1) * 7 ^ j) (md_ok_t h) (by simp at hl; omega) (by omega) ?_
        · rw [md_r7_f, if_neg h3] at hq
          rw [show mk + (a + 1) * 7 ^ j + 7 ^ (j + 1) * md_r7 (t.filter (fun x => x != b)) = mk + 7 ^ j * (7 * md_r7 (t.filter (fun x => x != b)) + (a + 1)) by rw [← hp, Nat.mul_add, Nat.mul_assoc, Nat.mul_comm (a + 1)]; omega]
          exact hq
set_option maxRecDepth 100000 in
set_option maxHeartbeats 1000000 in
theorem t_without {r : List Nat} {b : Nat} (h : md_ok r) (hl : r.length ≤ 6) (hb : b < 6) : pm_T cx mX11_without d 0 0 [.int (nI (md_r7 r)), .int (nI b)] sg mu nu (pm_ret (some (.int (nI (md_r7 (r.filter (fun x => x != b)))))) sg mu nu) := by
  refine pm_enterN 3 (by exact okX11_without) rfl ?_; dsimp only [pm_la, pm_cat2, List.replicate, List.cons_append, List.nil_append, List.append_nil]
  refine pm_go 7 (by exact okX11_without) rfl ?_; (try dsimp only [pm_st1, pm_st2, pm_cat2, pm_la, Option.toList, List.cons_append, List.nil_append])
  exact t_without_l hb r 0 0 h hl (by omega) ⟨by rw [Nat.pow_zero, Nat.one_mul, Nat.zero_add], rfl, rfl, rfl⟩
set_option maxRecDepth 100000 in
set_option maxHeartbeats 1000000 in
theorem t_isIn_l {Q : pm_Po} {x0 : Int32} {b : Nat} (hb : b < 6) : ∀ (r : List Nat) (P : Prop) [Decidable P], md_ok r → r.length ≤ 6 → Q (some (.int (bI (P ∨ b ∈ r)))) sg mu nu → pm_G cx (mX11_isIn, d, 0, 0, n0, Q) 0 0 4 [some (.int x0), some (.int (nI b)), some (.int (bI P)), some (.int (nI (md_r7 r)))] [] sg mu nu := by
  intro r
  induction r with
  | nil =>
    intro P _ h hl hq
    refine pm_go 9999 (by exact okX11_isIn) rfl ?_; (try dsimp only [pm_st1, pm_st2, pm_cat2, pm_la, Option.toList, List.cons_append, List.nil_append])
    refine pm_zle (by exact okX11_isIn) rfl (fun h1 => ?_) (fun h1 => ?_)
    · refine pm_go 9999 (by exact okX11_isIn) rfl ?_; (try dsimp only [pm_st1, pm_st2, pm_cat2, pm_la, Option.toList, List.cons_append, List.nil_append])
      rw [bI_c (e := P) (by simp)] at hq
      exact pm_ri (by exact okX11_isIn) rfl rfl bI_w (Nat.le_refl _) (Nat.le_refl _) hq
    · exact absurd (by decide) h1
  | cons a t ih =>
    intro P _ h hl hq
    have ha := md_ok_h h
    refine pm_go 9999 (by exact okX11_isIn) rfl ?_; (try dsimp only [pm_st1, pm_st2, pm_cat2, pm_la, Option.toList, List.cons_append, List.nil_append])
    refine pm_zle (by exact okX11_isIn) rfl (fun h1 => ?_) (fun h1 => ?_)
    · exact absurd h1 (md_pos h hl)
    · refine pm_go 9999 (by exact okX11_isIn) rfl ?_; (try dsimp only [pm_st1, pm_st2, pm_cat2, pm_la, Option.toList, List.cons_append, List.nil_append])
      refine pm_zne (by exact okX11_isIn) rfl (fun h2 => ?_) (fun h2 => ?_)
      · refine pm_go 9999 (by exact okX11_isIn) rfl ?_; (try dsimp only [pm_st1, pm_st2, pm_cat2, pm_la, Option.toList, List.cons_append, List.nil_append])
        refine pm_div (by exact okX11_isIn) rfl (by decide) ?_
        refine pm_go 4 (by exact okX11_isIn) rfl ?_; (try dsimp only [pm_st1, pm_st2, pm_cat2, pm_la, Option.toList, List.cons_append, List.nil_append])
        rw [md_div h hl]
        have hP : P := bI_n.mp h2
        have := ih True (md_ok_t h) (by simp at hl; omega) (by rw [bI_1 (Or.inl trivial)]; rw [bI_1 (Or.inl hP)] at hq; exact hq)
        rw [bI_1 trivial] at this
        exact this
      · have hP : ¬ P := bI_z.mp h2
        refine pm_go 9999 (by exact okX11_isIn) rfl ?_; (try dsimp only [pm_st1, pm_st2, pm_cat2, pm_la, Option.toList, List.cons_append, List.nil_append])
        refine pm_rem (by exact okX11_isIn) rfl (by decide) ?_
        refine pm_go 9999 (by exact okX11_isIn) rfl ?_; (try dsimp only [pm_st1, pm_st2, pm_cat2, pm_la, Option.toList, List.cons_append, List.nil_append])
        rw [md_rem h hl, nI_1]
        refine pm_ine (by exact okX11_isIn) rfl (fun h3 => ?_) (fun h3 => ?_)
        · have h4 : a ≠ b := fun q => h3 (by rw [q])
          refine pm_go 9999 (by exact okX11_isIn) rfl ?_; (try dsimp only [pm_st1, pm_st2, pm_cat2, pm_la, Option.toList, List.cons_append, List.nil_append])
          refine pm_div (by exact okX11_isIn) rfl (by decide) ?_
          refine pm_go 4 (by exact okX11_isIn) rfl ?_; (try dsimp only [pm_st1, pm_st2, pm_cat2, pm_la, Option.toList, List.cons_append, List.nil_append])
          rw [md_div h hl]
          have := ih False (md_ok_t h) (by simp at hl; omega) (by rw [bI_c (e := P ∨ b ∈ a :: t) (by simp [hP, Ne.symm h4])]; exact hq)
          rw [bI_0 (fun q => q)] at this
          exact this
        · have h4 : a = b := by
            have := (nI_eq (by omega) (by omega)).mp h3
            omega
          refine pm_go 9999 (by exact okX11_isIn) rfl ?_; (try dsimp only [pm_st1, pm_st2, pm_cat2, pm_la, Option.toList, List.cons_append, List.nil_append])
          refine pm_div (by exact okX11_isIn) rfl (by decide) ?_
          refine pm_go 4 (by exact okX11_isIn) rfl ?_; (try dsimp only [pm_st1, pm_st2, pm_cat2, pm_la, Option.toList, List.cons_append, List.nil_append])
          rw [md_div h hl]
          have := ih True (md_ok_t h) (by simp at hl; omega) (by rw [bI_1 (Or.inl trivial)]; rw [bI_1 (Or.inr (by simp [h4]))] at hq; exact hq)
          rw [bI_1 trivial] at this
          exact this
set_option maxRecDepth 100000 in
set_option maxHeartbeats 1000000 in
theorem t_isIn {r : List Nat} {b : Nat} (h : md_ok r) (hl : r.length ≤ 6) (hb : b < 6) : pm_T cx mX11_isIn d 0 0 [.int (nI (md_r7 r)), .int (nI b)] sg mu nu (pm_ret (some (.int (bI (b ∈ r)))) sg mu nu) := by
  refine pm_enterN 2 (by exact okX11_isIn) rfl ?_; dsimp only [pm_la, pm_cat2, List.replicate, List.cons_append, List.nil_append, List.append_nil]
  refine pm_go 4 (by exact okX11_isIn) rfl ?_; (try dsimp only [pm_st1, pm_st2, pm_cat2, pm_la, Option.toList, List.cons_append, List.nil_append])
  have := t_isIn_l (cx := cx) (d := d) (n0 := sg.length) (sg := sg) (mu := mu) (nu := nu) (Q := pm_ret (some (.int (bI (b ∈ r)))) sg mu nu) (x0 := nI (md_r7 r)) hb r False h hl ⟨by rw [bI_c (c := False ∨ b ∈ r) (e := b ∈ r) (by simp)], rfl, rfl, rfl⟩
  rw [bI_0 (fun q => q)] at this
  exact this
set_option maxRecDepth 100000 in
set_option maxHeartbeats 1000000 in
theorem t_watered {r : List Nat} {b : Nat} (h : md_ok r) (hl : r.length ≤ 6) (hb : b < 6) (hd : 1 ≤ d) : pm_T cx mX11_watered d 0 0 [.int (nI (md_r7 r)), .int (nI b)] sg mu nu (pm_ret (some (.int (nI (md_r7 (b :: r.filter (fun x => x != b)))))) sg mu nu) := by
  refine pm_enterN 0 (by exact okX11_watered) rfl ?_; dsimp only [pm_la, pm_cat2, List.replicate, List.cons_append, List.nil_append, List.append_nil]
  refine pm_go 9999 (by exact okX11_watered) rfl ?_; (try dsimp only [pm_st1, pm_st2, pm_cat2, pm_la, Option.toList, List.cons_append, List.nil_append])
  refine pm_cs (by exact okX11_watered) (by exact okX11_without) rfl (by exact arX11_without) (t_without (d := 0) h hl hb) rfl (by dsimp only; omega) rfl (Nat.le_of_ble_eq_true rfl) ⟨Nat.zero_le _, Nat.zero_le _⟩ ?_
  rintro _ _ _ _ ⟨rfl, rfl, rfl, rfl⟩ -
  refine pm_go 9999 (by exact okX11_watered) rfl ?_; (try dsimp only [pm_st1, pm_st2, pm_cat2, pm_la, Option.toList, List.cons_append, List.nil_append])
  refine pm_ri (by exact okX11_watered) rfl rfl rfl (Nat.le_refl _) (Nat.le_refl _) (⟨by rw [show (7 : Int32) = nI 7 from rfl, pk_mul, nI_add, nI_1]; rfl, rfl, rfl, rfl⟩)
set_option maxRecDepth 100000 in
set_option maxHeartbeats 1000000 in
theorem t_mcolourOf (s : Int32) : pm_T cx mX11_colourOf d 0 0 [.int s] sg mu nu (pm_ret (some (.int (if s = 114 then 0 else if s = 119 then 1 else if s = 121 then 2 else if s = 112 then 3 else if s = 63 then 4 else -6))) sg mu nu) := by
  refine pm_enterN 0 (by exact okX11_colourOf) rfl ?_; dsimp only [pm_la, pm_cat2, List.replicate, List.cons_append, List.nil_append, List.append_nil]
  refine pm_go 9999 (by exact okX11_colourOf) rfl ?_; (try dsimp only [pm_st1, pm_st2, pm_cat2, pm_la, Option.toList, List.cons_append, List.nil_append])
  refine pm_ine (by exact okX11_colourOf) rfl (fun h1 => ?_) (fun h1 => ?_)
  · rw [if_neg h1]
    refine pm_go 9999 (by exact okX11_colourOf) rfl ?_; (try dsimp only [pm_st1, pm_st2, pm_cat2, pm_la, Option.toList, List.cons_append, List.nil_append])
    refine pm_ine (by exact okX11_colourOf) rfl (fun h2 => ?_) (fun h2 => ?_)
    · rw [if_neg h2]
      refine pm_go 9999 (by exact okX11_colourOf) rfl ?_; (try dsimp only [pm_st1, pm_st2, pm_cat2, pm_la, Option.toList, List.cons_append, List.nil_append])
      refine pm_ine (by exact okX11_colourOf) rfl (fun h3 => ?_) (fun h3 => ?_)
      · rw [if_neg h3]
        refine pm_go 9999 (by exact okX11_colourOf) rfl ?_; (try dsimp only [pm_st1, pm_st2, pm_cat2, pm_la, Option.toList, List.cons_append, List.nil_append])
        refine pm_ine (by exact okX11_colourOf) rfl (fun h4 => ?_) (fun h4 => ?_)
        · rw [if_neg h4]
          refine pm_go 9999 (by exact okX11_colourOf) rfl ?_; (try dsimp only [pm_st1, pm_st2, pm_cat2, pm_la, Option.toList, List.cons_append, List.nil_append])
          refine pm_ine (by exact okX11_colourOf) rfl (fun h5 => ?_) (fun h5 => ?_)
          · rw [if_neg h5]
            refine pm_go 9999 (by exact okX11_colourOf) rfl ?_; (try dsimp only [pm_st1, pm_st2, pm_cat2, pm_la, Option.toList, List.cons_append, List.nil_append])
            refine pm_ri (by exact okX11_colourOf) rfl rfl rfl (Nat.le_refl _) (Nat.le_refl _) (⟨rfl, rfl, rfl, rfl⟩)
          · rw [if_pos h5]
            refine pm_go 9999 (by exact okX11_colourOf) rfl ?_; (try dsimp only [pm_st1, pm_st2, pm_cat2, pm_la, Option.toList, List.cons_append, List.nil_append])
            refine pm_ri (by exact okX11_colourOf) rfl rfl rfl (Nat.le_refl _) (Nat.le_refl _) (⟨rfl, rfl, rfl, rfl⟩)
        · rw [if_pos h4]
          refine pm_go 9999 (by exact okX11_colourOf) rfl ?_; (try dsimp only [pm_st1, pm_st2, pm_cat2, pm_la, Option.toList, List.cons_append, List.nil_append])
          refine pm_ri (by exact okX11_colourOf) rfl rfl rfl (Nat.le_refl _) (Nat.le_refl _) (⟨rfl, rfl, rfl, rfl⟩)
      · rw [if_pos h3]
        refine pm_go 9999 (by exact okX11_colourOf) rfl ?_; (try dsimp only [pm_st1, pm_st2, pm_cat2, pm_la, Option.toList, List.cons_append, List.nil_append])
        refine pm_ri (by exact okX11_colourOf) rfl rfl rfl (Nat.le_refl _) (Nat.le_refl _) (⟨rfl, rfl, rfl, rfl⟩)
    · rw [if_pos h2]
      refine pm_go 9999 (by exact okX11_colourOf) rfl ?_; (try dsimp only [pm_st1, pm_st2, pm_cat2, pm_la, Option.toList, List.cons_append, List.nil_append])
      refine pm_ri (by exact okX11_colourOf) rfl rfl rfl (Nat.le_refl _) (Nat.le_refl _) (⟨rfl, rfl, rfl, rfl⟩)
  · rw [if_pos h1]
    refine pm_go 9999 (by exact okX11_colourOf) rfl ?_; (try dsimp only [pm_st1, pm_st2, pm_cat2, pm_la, Option.toList, List.cons_append, List.nil_append])
    refine pm_ri (by exact okX11_colourOf) rfl rfl rfl (Nat.le_refl _) (Nat.le_refl _) (⟨rfl, rfl, rfl, rfl⟩)
/-- how many of the first n bits stand -/
def md_bc (s : Nat) : Nat → Nat
  | 0 => 0
  | n + 1 => md_bc s n + s / 2 ^ n % 2
set_option maxRecDepth 100000 in
set_option maxHeartbeats 1000000 in
theorem t_bits_l {Q : pm_Po} {s : Nat} (hs : s < 2 ^ 31) : ∀ (j k : Nat), k + j = 6 → Q (some (.int (nI (md_bc s 6)))) sg mu nu → pm_G cx (mX11_bits, d, 0, 0, n0, Q) 0 0 4 [some (.int (nI s)), some (.int (nI (md_bc s k))), some (.int (nI k))] [] sg mu nu := by
  intro j
  induction j with
  | zero =>
    intro k hk hq
    have hk : k = 6 := by omega
    subst hk
    refine pm_go 9999 (by exact okX11_bits) rfl ?_; (try dsimp only [pm_st1, pm_st2, pm_cat2, pm_la, Option.toList, List.cons_append, List.nil_append])
    refine pm_ige (by exact okX11_bits) rfl (fun h1 => ?_) (fun h1 => ?_)
    · refine pm_go 9999 (by exact okX11_bits) rfl ?_; (try dsimp only [pm_st1, pm_st2, pm_cat2, pm_la, Option.toList, List.cons_append, List.nil_append])
      refine pm_ri (by exact okX11_bits) rfl rfl rfl (Nat.le_refl _) (Nat.le_refl _) (hq)
    · exact absurd (by decide) h1
  | succ j ih =>
    intro k hk hq
    refine pm_go 9999 (by exact okX11_bits) rfl ?_; (try dsimp only [pm_st1, pm_st2, pm_cat2, pm_la, Option.toList, List.cons_append, List.nil_append])
    refine pm_ige (by exact okX11_bits) rfl (fun h1 => ?_) (fun h1 => ?_)
    · exact absurd h1 (nI_ge (a := k) (b := 6) (by omega) (by omega))
    · refine pm_go 4 (by exact okX11_bits) rfl ?_; (try dsimp only [pm_st1, pm_st2, pm_cat2, pm_la, Option.toList, List.cons_append, List.nil_append])
      rw [md_has hs (by omega), nI_add, nI_1]
      exact ih (k + 1) (by omega) hq
set_option maxRecDepth 100000 in
set_option maxHeartbeats 1000000 in
theorem t_bits {s : Nat} (hs : s < 2 ^ 31) : pm_T cx mX11_bits d 0 0 [.int (nI s)] sg mu nu (pm_ret (some (.int (nI (md_bc s 6)))) sg mu nu) := by
  refine pm_enterN 2 (by exact okX11_bits) rfl ?_; dsimp only [pm_la, pm_cat2, List.replicate, List.cons_append, List.nil_append, List.append_nil]
  refine pm_go 4 (by exact okX11_bits) rfl ?_; (try dsimp only [pm_st1, pm_st2, pm_cat2, pm_la, Option.toList, List.cons_append, List.nil_append])
  exact t_bits_l hs 6 0 rfl ⟨rfl, rfl, rfl, rfl⟩
end
end
section
/-! ===== the reference's functions over its fields ===== -/
/-- rain: all BEDS below n that s hasn't, the last first -/
def gd_rn (s : Nat) : Nat → List Nat
  | 0 => []
  | n + 1 => if s.testBit n = true then gd_rn s n else n :: gd_rn s n
theorem gd_rn_lt (s : Nat) : ∀ (n : Nat), ∀ b ∈ gd_rn s n, b < n := by
  intro n
  induction n with
  | zero => intro b h; simp [gd_rn] at h
  | succ n ih =>
    intro b h
    unfold gd_rn at h
    split at h
    · exact Nat.lt_succ_of_lt (ih b h)
    · rcases List.mem_cons.mp h with rfl | h
      · exact Nat.lt_succ_self _
      · exact Nat.lt_succ_of_lt (ih b h)
theorem gd_rn_len (s : Nat) : ∀ (n : Nat), (gd_rn s n).length ≤ n := by
  intro n
  induction n with
  | zero => simp [gd_rn]
  | succ n ih =>
    unfold gd_rn
    split
    · omega
    · simp only [List.length_cons]; omega
/-- the place from the last on of the one that blooms next -/
def gd_bh (law n : Nat) : Nat := if law = 0 then 0 else if law = 1 then n - 1 else if n < 3 then n - 1 else 2
def gd_nx (law : Nat) (r : List Nat) : Option Nat := r[gd_bh law r.length]?
theorem gd_bh_lt {law n : Nat} (h : 0 < n) : gd_bh law n < n := by
  unfold gd_bh
  split
  · exact h
  · split
    · omega
    · split <;> omega
/-- what the reference holds for none -/
def nO (o : Option Nat) : Int32 := match o with
  | some b => nI b
  | none => -6
/-- the least reason for which a BED can not be watered; 0: it can -/
def gd_wy (gate : Nat) (pa : Nat → Option Nat) (r : List Nat) (s b : Nat) : Nat :=
  if s.testBit b = true then 1 else if b ∉ r ∧ gate ≤ r.length then 2 else match pa b with
    | some o => if o ∉ r ∧ ¬ s.testBit o = true then 3 else 0
    | none => 0
theorem gd_wy1 {gate : Nat} {pa : Nat → Option Nat} {r : List Nat} {s b : Nat} (h : s.testBit b = true) : gd_wy gate pa r s b = 1 := if_pos h
theorem gd_wy2 {gate : Nat} {pa : Nat → Option Nat} {r : List Nat} {s b : Nat} (h : ¬ s.testBit b = true) (h2 : b ∉ r ∧ gate ≤ r.length) : gd_wy gate pa r s b = 2 := by
  unfold gd_wy; rw [if_neg h, if_pos h2]
theorem gd_wyn {gate : Nat} {pa : Nat → Option Nat} {r : List Nat} {s b : Nat} (h : ¬ s.testBit b = true) (h2 : ¬ (b ∉ r ∧ gate ≤ r.length)) (h3 : pa b = none) : gd_wy gate pa r s b = 0 := by
  unfold gd_wy; rw [if_neg h, if_neg h2, h3]
theorem gd_wy0 {gate : Nat} {pa : Nat → Option Nat} {r : List Nat} {s b o : Nat} (h : ¬ s.testBit b = true) (h2 : ¬ (b ∉ r ∧ gate ≤ r.length)) (h3 : pa b = some o) (h4 : o ∈ r ∨ s.testBit o = true) : gd_wy gate pa r s b = 0 := by
  unfold gd_wy; rw [if_neg h, if_neg h2, h3]
  exact if_neg (fun q => h4.elim q.1 q.2)
theorem gd_wy3 {gate : Nat} {pa : Nat → Option Nat} {r : List Nat} {s b o : Nat} (h : ¬ s.testBit b = true) (h2 : ¬ (b ∉ r ∧ gate ≤ r.length)) (h3 : pa b = some o) (h4 : o ∉ r) (h5 : ¬ s.testBit o = true) : gd_wy gate pa r s b = 3 := by
  unfold gd_wy; rw [if_neg h, if_neg h2, h3]
  exact if_pos ⟨h4, h5⟩
/-- there is such a BED -/
abbrev isB (n : Nat) (b : Int32) : Prop := 0 ≤ b ∧ b < nI n
theorem isB_of {n : Nat} {b : Int32} (hn : n ≤ 6) (h : isB n b) : ∃ k, k < n ∧ b = nI k := by
  obtain ⟨k, hk, rfl⟩ := nI_of (x := b) (Int32.not_lt.mpr h.1)
  exact ⟨k, (nI_ltI hk (by omega)).mp h.2, rfl⟩
theorem isB_in {n k : Nat} (hn : n ≤ 6) (h : k < n) : isB n (nI k) := ⟨nI_pos' (by omega), nI_lt h (by omega)⟩
section
variable {cx : pm_CX} {d n0 : Nat} {i0 i1 : Option Nat} {ex : List pm_C} {mu : pm_I} {nu : pm_J}
set_option maxRecDepth 100000 in
set_option maxHeartbeats 1000000 in
theorem t_isBed {n : Nat} (b : Int32) (hB : mu 19 0 = nI n) (hn : 0 < n ∧ n ≤ 6) (hd : 1 ≤ d) : pm_T cx mX11_isBed d 0 0 [.ref 19, .int b] (sh_ i0 i1 ex) mu nu (pm_ret (some (.int (bI (isB n b)))) (sh_ i0 i1 ex) mu nu) := by
  have e1 : (0 ≤ b ∧ b ≤ nI (n - 1)) ↔ isB n b := by
    constructor
    · rintro ⟨h1, h2⟩
      obtain ⟨k, hk, rfl⟩ := nI_of (x := b) (Int32.not_lt.mpr h1)
      exact ⟨h1, nI_lt (by have := (nI_leI (by omega) (by omega)).mp h2; omega) (by omega)⟩
    · rintro ⟨h1, h2⟩
      obtain ⟨k, hk, rfl⟩ := nI_of (x := b) (Int32.not_lt.mpr h1)
      exact ⟨h1, nI_le (by have := (nI_ltI (by omega) (by omega)).mp h2; omega) (by omega)⟩
  refine pm_enterN 0 (by exact okX11_isBed) rfl ?_; dsimp only [pm_la, pm_cat2, List.replicate, List.cons_append, List.nil_append, List.append_nil]
  refine pm_go 9999 (by exact okX11_isBed) rfl ?_; (try dsimp only [pm_st1, pm_st2, pm_cat2, pm_la, Option.toList, List.cons_append, List.nil_append])
  rw [hB, nI_m1 hn.1]
  refine pm_cs (by exact okX11_isBed) (by exact okX11_in) rfl (by exact arX11_in) (t_in (d := 0) b 0 (nI (n - 1))) rfl (by dsimp only; omega) rfl (Nat.le_of_ble_eq_true rfl) ⟨Nat.zero_le _, Nat.zero_le _⟩ ?_
  rintro _ _ _ _ ⟨rfl, rfl, rfl, rfl⟩ -
  refine pm_go 9999 (by exact okX11_isBed) rfl ?_; (try dsimp only [pm_st1, pm_st2, pm_cat2, pm_la, Option.toList, List.cons_append, List.nil_append])
  rw [bI_c e1]
  exact pm_ri (by exact okX11_isBed) rfl rfl bI_w (Nat.le_refl _) (Nat.le_refl _) ⟨rfl, rfl, rfl, rfl⟩
set_option maxRecDepth 100000 in
set_option maxHeartbeats 1000000 in
theorem t_rained_l {Q : pm_Po} {n s : Nat} (hB : mu 19 0 = nI n) (hn : n ≤ 6) (hs : s < 2 ^ 31) (hd : 1 ≤ d) : ∀ (j k : Nat), k + j = n → Q (some (.int (nI (md_r7 (gd_rn s n))))) (sh_ i0 i1 ex) mu nu → pm_G cx (mX11_rained, d, 0, 0, n0, Q) 0 0 4 [some (.ref 19), some (.int (nI s)), some (.int (nI (md_r7 (gd_rn s k)))), some (.int (nI k))] [] (sh_ i0 i1 ex) mu nu := by
  intro j
  induction j with
  | zero =>
    intro k hk hq
    have hk : k = n := by omega
    subst hk
    refine pm_go 9999 (by exact okX11_rained) rfl ?_; (try dsimp only [pm_st1, pm_st2, pm_cat2, pm_la, Option.toList, List.cons_append, List.nil_append])
    rw [hB]
    refine pm_ige (by exact okX11_rained) rfl (fun h1 => ?_) (fun h1 => ?_)
    · refine pm_go 9999 (by exact okX11_rained) rfl ?_; (try dsimp only [pm_st1, pm_st2, pm_cat2, pm_la, Option.toList, List.cons_append, List.nil_append])
      refine pm_ri (by exact okX11_rained) rfl rfl rfl (Nat.le_refl _) (Nat.le_refl _) (hq)
    · exact absurd (nI_le (Nat.le_refl _) (by omega)) h1
  | succ j ih =>
    intro k hk hq
    refine pm_go 9999 (by exact okX11_rained) rfl ?_; (try dsimp only [pm_st1, pm_st2, pm_cat2, pm_la, Option.toList, List.cons_append, List.nil_append])
    rw [hB]
    refine pm_ige (by exact okX11_rained) rfl (fun h1 => ?_) (fun h1 => ?_)
    · exact absurd h1 (nI_ge (by omega) (by omega))
    · refine pm_go 9999 (by exact okX11_rained) rfl ?_; (try dsimp only [pm_st1, pm_st2, pm_cat2, pm_la, Option.toList, List.cons_append, List.nil_append])
      refine pm_cs (by exact okX11_rained) (by exact okX11_has) rfl (by exact arX11_has) (t_has (d := 0) hs (by omega)) rfl (by dsimp only; omega) rfl (Nat.le_of_ble_eq_true rfl) ⟨Nat.zero_le _, Nat.zero_le _⟩ ?_
      rintro _ _ _ _ ⟨rfl, rfl, rfl, rfl⟩ -
      refine pm_go 9999 (by exact okX11_rained) rfl ?_; (try dsimp only [pm_st1, pm_st2, pm_cat2, pm_la, Option.toList, List.cons_append, List.nil_append])
      refine pm_zeq (by exact okX11_rained) rfl (fun h2 => ?_) (fun h2 => ?_)
      · have h3 := bI_z.mp h2
        refine pm_go 4 (by exact okX11_rained) rfl ?_; (try dsimp only [pm_st1, pm_st2, pm_cat2, pm_la, Option.toList, List.cons_append, List.nil_append])
        rw [show (7 : Int32) = nI 7 from rfl, pk_mul, nI_add, nI_1, nI_1]
        have e : gd_rn s (k + 1) = k :: gd_rn s k := by simp only [gd_rn]; rw [if_neg h3]
        have := ih (k + 1) (by omega) hq
        rw [e] at this
        exact this
      · have h3 := bI_n.mp h2
        refine pm_go 4 (by exact okX11_rained) rfl ?_; (try dsimp only [pm_st1, pm_st2, pm_cat2, pm_la, Option.toList, List.cons_append, List.nil_append])
        rw [nI_1]
        have e : gd_rn s (k + 1) = gd_rn s k := by simp only [gd_rn]; rw [if_pos h3]
        have := ih (k + 1) (by omega) hq
        rw [e] at this
        exact this
set_option maxRecDepth 100000 in
set_option maxHeartbeats 1000000 in
theorem t_rained {n s : Nat} (hB : mu 19 0 = nI n) (hn : n ≤ 6) (hs : s < 2 ^ 31) (hd : 1 ≤ d) : pm_T cx mX11_rained d 0 0 [.ref 19, .int (nI s)] (sh_ i0 i1 ex) mu nu (pm_ret (some (.int (nI (md_r7 (gd_rn s n))))) (sh_ i0 i1 ex) mu nu) := by
  refine pm_enterN 2 (by exact okX11_rained) rfl ?_; dsimp only [pm_la, pm_cat2, List.replicate, List.cons_append, List.nil_append, List.append_nil]
  refine pm_go 4 (by exact okX11_rained) rfl ?_; (try dsimp only [pm_st1, pm_st2, pm_cat2, pm_la, Option.toList, List.cons_append, List.nil_append])
  exact t_rained_l hB hn hs hd n 0 (by omega) ⟨rfl, rfl, rfl, rfl⟩
set_option maxRecDepth 100000 in
set_option maxHeartbeats 1000000 in
theorem t_nextOf_l {Q : pm_Po} {x0 x2 : Int32} {bh : Nat} (hbh : bh < 2 ^ 31) : ∀ (r : List Nat) (k : Nat), md_ok r → r.length ≤ 6 → k ≤ bh → (∀ b, r[bh - k]? = some b → Q (some (.int (nI b))) (sh_ i0 i1 ex) mu nu) → bh - k < r.length → pm_G cx (mX11_nextOf, d, 0, 0, n0, Q) 0 0 56 [some (.ref 19), some (.int x0), some (.int x2), some (.int (nI bh)), some (.int (nI (md_r7 r))), some (.int (nI k))] [] (sh_ i0 i1 ex) mu nu := by
  intro r
  induction r with
  | nil => intro k h hl hk hq hlt; simp at hlt
  | cons b t ih =>
    intro k h hl hk hq hlt
    refine pm_go 9999 (by exact okX11_nextOf) rfl ?_; (try dsimp only [pm_st1, pm_st2, pm_cat2, pm_la, Option.toList, List.cons_append, List.nil_append])
    refine pm_ige (by exact okX11_nextOf) rfl (fun h1 => ?_) (fun h1 => ?_)
    · have h2 : k = bh := by have := (nI_leI hbh (by omega)).mp h1; omega
      subst h2
      refine pm_go 9999 (by exact okX11_nextOf) rfl ?_; (try dsimp only [pm_st1, pm_st2, pm_cat2, pm_la, Option.toList, List.cons_append, List.nil_append])
      refine pm_rem (by exact okX11_nextOf) rfl (by decide) ?_
      refine pm_go 9999 (by exact okX11_nextOf) rfl ?_; (try dsimp only [pm_st1, pm_st2, pm_cat2, pm_la, Option.toList, List.cons_append, List.nil_append])
      rw [md_rem h hl, nI_pred]
      refine pm_ri (by exact okX11_nextOf) rfl rfl rfl (Nat.le_refl _) (Nat.le_refl _) (hq b (by simp))
    · have h2 : k < bh := by
        rcases Nat.lt_or_ge k bh with q | q
        · exact q
        · exact absurd (nI_le q (by omega)) h1
      refine pm_go 9999 (by exact okX11_nextOf) rfl ?_; (try dsimp only [pm_st1, pm_st2, pm_cat2, pm_la, Option.toList, List.cons_append, List.nil_append])
      refine pm_div (by exact okX11_nextOf) rfl (by decide) ?_
      refine pm_go 56 (by exact okX11_nextOf) rfl ?_; (try dsimp only [pm_st1, pm_st2, pm_cat2, pm_la, Option.toList, List.cons_append, List.nil_append])
      rw [md_div h hl, nI_1]
      simp only [List.length_cons] at hl hlt
      refine ih (k + 1) (md_ok_t h) (by omega) h2 (fun c hc => hq c ?_) (by omega)
      rw [show bh - k = (bh - (k + 1)) + 1 by omega, List.getElem?_cons_succ]
      exact hc
set_option maxRecDepth 100000 in
set_option maxHeartbeats 1000000 in
theorem t_nextOf {r : List Nat} {law : Nat} (hL : mu 19 3 = nI law) (hlaw : law ≤ 2) (h : md_ok r) (hl : r.length ≤ 6) (hd : 1 ≤ d) : pm_T cx mX11_nextOf d 0 0 [.ref 19, .int (nI (md_r7 r))] (sh_ i0 i1 ex) mu nu (pm_ret (some (.int (nO (gd_nx law r)))) (sh_ i0 i1 ex) mu nu) := by
  refine pm_enterN 4 (by exact okX11_nextOf) rfl ?_; dsimp only [pm_la, pm_cat2, List.replicate, List.cons_append, List.nil_append, List.append_nil]
  refine pm_go 9999 (by exact okX11_nextOf) rfl ?_; (try dsimp only [pm_st1, pm_st2, pm_cat2, pm_la, Option.toList, List.cons_append, List.nil_append])
  refine pm_cs (by exact okX11_nextOf) (by exact okX11_sizeOf) rfl (by exact arX11_sizeOf) (t_sizeOf (d := 0) h hl) rfl (by dsimp only; omega) rfl (Nat.le_of_ble_eq_true rfl) ⟨Nat.zero_le _, Nat.zero_le _⟩ ?_
  rintro _ _ _ _ ⟨rfl, rfl, rfl, rfl⟩ -
  refine pm_go 9999 (by exact okX11_nextOf) rfl ?_; (try dsimp only [pm_st1, pm_st2, pm_cat2, pm_la, Option.toList, List.cons_append, List.nil_append])
  refine pm_zne (by exact okX11_nextOf) rfl (fun h1 => ?_) (fun h1 => ?_)
  · have hpos : 0 < r.length := by
      rcases Nat.eq_zero_or_pos r.length with q | q
      · exact absurd (by rw [q]; rfl) h1
      · exact q
    have key : ∀ bh, bh = gd_bh law r.length → pm_G cx (mX11_nextOf, d, 0, 0, (sh_ i0 i1 ex).length, pm_ret (some (.int (nO (gd_nx law r)))) (sh_ i0 i1 ex) mu nu) 0 0 49 [some (.ref 19), some (.int (nI (md_r7 r))), some (.int (nI r.length)), none, none, none] [.int (nI bh)] (sh_ i0 i1 ex) mu nu := by
      intro bh hbh
      have hlt := gd_bh_lt (law := law) hpos
      refine pm_go 56 (by exact okX11_nextOf) rfl ?_; (try dsimp only [pm_st1, pm_st2, pm_cat2, pm_la, Option.toList, List.cons_append, List.nil_append])
      refine t_nextOf_l (by omega) r 0 h hl (by omega) (fun b hb => ⟨?_, rfl, rfl, rfl⟩) (by omega)
      have : gd_nx law r = some b := by unfold gd_nx; rw [← hbh]; exact hb
      rw [this]
      rfl
    refine pm_go 9999 (by exact okX11_nextOf) rfl ?_; (try dsimp only [pm_st1, pm_st2, pm_cat2, pm_la, Option.toList, List.cons_append, List.nil_append])
    rw [hL]
    refine pm_zne (by exact okX11_nextOf) rfl (fun h2 => ?_) (fun h2 => ?_)
    · have hl0 : law ≠ 0 := fun q => h2 (by rw [q]; rfl)
      refine pm_go 9999 (by exact okX11_nextOf) rfl ?_; (try dsimp only [pm_st1, pm_st2, pm_cat2, pm_la, Option.toList, List.cons_append, List.nil_append])
      rw [hL]
      refine pm_ine (by exact okX11_nextOf) rfl (fun h3 => ?_) (fun h3 => ?_)
      · have hl1 : law ≠ 1 := fun q => h3 (by rw [q]; rfl)
        refine pm_go 9999 (by exact okX11_nextOf) rfl ?_; (try dsimp only [pm_st1, pm_st2, pm_cat2, pm_la, Option.toList, List.cons_append, List.nil_append])
        refine pm_ige (by exact okX11_nextOf) rfl (fun h4 => ?_) (fun h4 => ?_)
        · have h5 : ¬ r.length < 3 := by
            have := (nI_leI (a := 3) (b := r.length) (by omega) (by omega)).mp h4
            omega
          refine pm_go 49 (by exact okX11_nextOf) rfl ?_; (try dsimp only [pm_st1, pm_st2, pm_cat2, pm_la, Option.toList, List.cons_append, List.nil_append])
          exact key 2 (by unfold gd_bh; rw [if_neg hl0, if_neg hl1, if_neg h5])
        · have h5 : r.length < 3 := by
            rcases Nat.lt_or_ge r.length 3 with q | q
            · exact q
            · exact absurd (nI_le (a := 3) q (by omega)) h4
          refine pm_go 49 (by exact okX11_nextOf) rfl ?_; (try dsimp only [pm_st1, pm_st2, pm_cat2, pm_la, Option.toList, List.cons_append, List.nil_append])
          rw [nI_m1 hpos]
          exact key _ (by unfold gd_bh; rw [if_neg hl0, if_neg hl1, if_pos h5])
      · have hl1 : law = 1 := (nI_eq (b := 1) (by omega) (by omega)).mp h3
        refine pm_go 49 (by exact okX11_nextOf) rfl ?_; (try dsimp only [pm_st1, pm_st2, pm_cat2, pm_la, Option.toList, List.cons_append, List.nil_append])
        rw [nI_m1 hpos]
        exact key _ (by unfold gd_bh; rw [if_neg hl0, if_pos hl1])
    · have hl0 : law = 0 := (nI_eq (b := 0) (by omega) (by omega)).mp h2
      refine pm_go 49 (by exact okX11_nextOf) rfl ?_; (try dsimp only [pm_st1, pm_st2, pm_cat2, pm_la, Option.toList, List.cons_append, List.nil_append])
      exact key 0 (by unfold gd_bh; rw [if_pos hl0])
  · have h2 : r.length = 0 := (nI_eq (b := 0) (by omega) (by omega)).mp h1
    have h3 : r = [] := List.length_eq_zero_iff.mp h2
    subst h3
    refine pm_go 9999 (by exact okX11_nextOf) rfl ?_; (try dsimp only [pm_st1, pm_st2, pm_cat2, pm_la, Option.toList, List.cons_append, List.nil_append])
    refine pm_ri (by exact okX11_nextOf) rfl rfl rfl (Nat.le_refl _) (Nat.le_refl _) (⟨rfl, rfl, rfl, rfl⟩)
set_option maxRecDepth 100000 in
set_option maxHeartbeats 1000000 in
theorem t_whyNot {r : List Nat} {s b gate : Nat} {pa : Nat → Option Nat} (hG : mu 19 4 = nI gate) (hg : gate ≤ 6) (hP : ∀ k, k < 6 → mu 21 k = nO (pa k)) (hpa : ∀ k o, k < 6 → pa k = some o → o < 6) (hs : s < 2 ^ 31) (hb : b < 6) (h : md_ok r) (hl : r.length ≤ 6) (hd : 1 ≤ d) : pm_T cx mX11_whyNot d 0 0 [.ref 19, .int (nI (md_r7 r)), .int (nI s), .int (nI b)] (sh_ i0 i1 ex) mu nu (pm_ret (some (.int (nI (gd_wy gate pa r s b)))) (sh_ i0 i1 ex) mu nu) := by
  refine pm_enterN 1 (by exact okX11_whyNot) rfl ?_; dsimp only [pm_la, pm_cat2, List.replicate, List.cons_append, List.nil_append, List.append_nil]
  refine pm_go 9999 (by exact okX11_whyNot) rfl ?_; (try dsimp only [pm_st1, pm_st2, pm_cat2, pm_la, Option.toList, List.cons_append, List.nil_append])
  refine pm_cs (by exact okX11_whyNot) (by exact okX11_has) rfl (by exact arX11_has) (t_has (d := 0) hs (by omega)) rfl (by dsimp only; omega) rfl (Nat.le_of_ble_eq_true rfl) ⟨Nat.zero_le _, Nat.zero_le _⟩ ?_
  rintro _ _ _ _ ⟨rfl, rfl, rfl, rfl⟩ -
  refine pm_go 9999 (by exact okX11_whyNot) rfl ?_; (try dsimp only [pm_st1, pm_st2, pm_cat2, pm_la, Option.toList, List.cons_append, List.nil_append])
  refine pm_zeq (by exact okX11_whyNot) rfl (fun h1 => ?_) (fun h1 => ?_)
  · have h1 := bI_z.mp h1
    have key : ¬ (b ∉ r ∧ gate ≤ r.length) → pm_G cx (mX11_whyNot, d, 0, 0, (sh_ i0 i1 ex).length, pm_ret (some (.int (nI (gd_wy gate pa r s b)))) (sh_ i0 i1 ex) mu nu) 0 0 31 [some (.ref 19), some (.int (nI (md_r7 r))), some (.int (nI s)), some (.int (nI b)), none] [] (sh_ i0 i1 ex) mu nu := by
      intro h2
      refine pm_go 9999 (by exact okX11_whyNot) rfl ?_; (try dsimp only [pm_st1, pm_st2, pm_cat2, pm_la, Option.toList, List.cons_append, List.nil_append])
      refine pm_ial (by exact okX11_whyNot) rfl rfl (vp_in_nI hb (by omega)) ?_
      rw [nI_clamp (by omega), hP b hb]
      refine pm_go 9999 (by exact okX11_whyNot) rfl ?_; (try dsimp only [pm_st1, pm_st2, pm_cat2, pm_la, Option.toList, List.cons_append, List.nil_append])
      cases hpb : pa b with
      | none =>
        refine pm_zlt (by exact okX11_whyNot) rfl (fun h3 => ?_) (fun h3 => ?_)
        · refine pm_go 9999 (by exact okX11_whyNot) rfl ?_; (try dsimp only [pm_st1, pm_st2, pm_cat2, pm_la, Option.toList, List.cons_append, List.nil_append])
          refine pm_ri (by exact okX11_whyNot) rfl rfl rfl (Nat.le_refl _) (Nat.le_refl _) (⟨by rw [gd_wyn h1 h2 hpb]; rfl, rfl, rfl, rfl⟩)
        · exact absurd (by decide) h3
      | some o =>
        have ho := hpa b o hb hpb
        show pm_G _ _ _ _ _ [_, _, _, _, some (.int (nI o))] [.int (nI o)] _ _ _
        refine pm_zlt (by exact okX11_whyNot) rfl (fun h3 => ?_) (fun h3 => ?_)
        · exact absurd h3 (nI_pos (by omega))
        · refine pm_go 9999 (by exact okX11_whyNot) rfl ?_; (try dsimp only [pm_st1, pm_st2, pm_cat2, pm_la, Option.toList, List.cons_append, List.nil_append])
          refine pm_cs (by exact okX11_whyNot) (by exact okX11_isIn) rfl (by exact arX11_isIn) (t_isIn (d := 0) h hl ho) rfl (by dsimp only; omega) rfl (Nat.le_of_ble_eq_true rfl) ⟨Nat.zero_le _, Nat.zero_le _⟩ ?_
          rintro _ _ _ _ ⟨rfl, rfl, rfl, rfl⟩ -
          refine pm_go 9999 (by exact okX11_whyNot) rfl ?_; (try dsimp only [pm_st1, pm_st2, pm_cat2, pm_la, Option.toList, List.cons_append, List.nil_append])
          refine pm_zne (by exact okX11_whyNot) rfl (fun h4 => ?_) (fun h4 => ?_)
          · have h4 := bI_n.mp h4
            refine pm_go 9999 (by exact okX11_whyNot) rfl ?_; (try dsimp only [pm_st1, pm_st2, pm_cat2, pm_la, Option.toList, List.cons_append, List.nil_append])
            refine pm_ri (by exact okX11_whyNot) rfl rfl rfl (Nat.le_refl _) (Nat.le_refl _) (⟨by rw [gd_wy0 h1 h2 hpb (Or.inl h4)]; rfl, rfl, rfl, rfl⟩)
          · have h4 := bI_z.mp h4
            refine pm_go 9999 (by exact okX11_whyNot) rfl ?_; (try dsimp only [pm_st1, pm_st2, pm_cat2, pm_la, Option.toList, List.cons_append, List.nil_append])
            refine pm_cs (by exact okX11_whyNot) (by exact okX11_has) rfl (by exact arX11_has) (t_has (d := 0) hs (by omega)) rfl (by dsimp only; omega) rfl (Nat.le_of_ble_eq_true rfl) ⟨Nat.zero_le _, Nat.zero_le _⟩ ?_
            rintro _ _ _ _ ⟨rfl, rfl, rfl, rfl⟩ -
            refine pm_go 9999 (by exact okX11_whyNot) rfl ?_; (try dsimp only [pm_st1, pm_st2, pm_cat2, pm_la, Option.toList, List.cons_append, List.nil_append])
            refine pm_zne (by exact okX11_whyNot) rfl (fun h5 => ?_) (fun h5 => ?_)
            · have h5 := bI_n.mp h5
              refine pm_go 9999 (by exact okX11_whyNot) rfl ?_; (try dsimp only [pm_st1, pm_st2, pm_cat2, pm_la, Option.toList, List.cons_append, List.nil_append])
              refine pm_ri (by exact okX11_whyNot) rfl rfl rfl (Nat.le_refl _) (Nat.le_refl _) (⟨by rw [gd_wy0 h1 h2 hpb (Or.inr h5)]; rfl, rfl, rfl, rfl⟩)
            · have h5 := bI_z.mp h5
              refine pm_go 9999 (by exact okX11_whyNot) rfl ?_; (try dsimp only [pm_st1, pm_st2, pm_cat2, pm_la, Option.toList, List.cons_append, List.nil_append])
              refine pm_ri (by exact okX11_whyNot) rfl rfl rfl (Nat.le_refl _) (Nat.le_refl _) (⟨by rw [gd_wy3 h1 h2 hpb h4 h5]; rfl, rfl, rfl, rfl⟩)
    refine pm_go 9999 (by exact okX11_whyNot) rfl ?_; (try dsimp only [pm_st1, pm_st2, pm_cat2, pm_la, Option.toList, List.cons_append, List.nil_append])
    refine pm_cs (by exact okX11_whyNot) (by exact okX11_isIn) rfl (by exact arX11_isIn) (t_isIn (d := 0) h hl hb) rfl (by dsimp only; omega) rfl (Nat.le_of_ble_eq_true rfl) ⟨Nat.zero_le _, Nat.zero_le _⟩ ?_
    rintro _ _ _ _ ⟨rfl, rfl, rfl, rfl⟩ -
    refine pm_go 31 (by exact okX11_whyNot) rfl ?_; (try dsimp only [pm_st1, pm_st2, pm_cat2, pm_la, Option.toList, List.cons_append, List.nil_append])
    refine pm_zne (by exact okX11_whyNot) rfl (fun h2 => ?_) (fun h2 => ?_)
    · have h2 := bI_n.mp h2
      exact key (fun q => q.1 h2)
    · have h2 := bI_z.mp h2
      refine pm_go 9999 (by exact okX11_whyNot) rfl ?_; (try dsimp only [pm_st1, pm_st2, pm_cat2, pm_la, Option.toList, List.cons_append, List.nil_append])
      refine pm_cs (by exact okX11_whyNot) (by exact okX11_sizeOf) rfl (by exact arX11_sizeOf) (t_sizeOf (d := 0) h hl) rfl (by dsimp only; omega) rfl (Nat.le_of_ble_eq_true rfl) ⟨Nat.zero_le _, Nat.zero_le _⟩ ?_
      rintro _ _ _ _ ⟨rfl, rfl, rfl, rfl⟩ -
      refine pm_go 9999 (by exact okX11_whyNot) rfl ?_; (try dsimp only [pm_st1, pm_st2, pm_cat2, pm_la, Option.toList, List.cons_append, List.nil_append])
      rw [hG]
      refine pm_ilt (by exact okX11_whyNot) rfl (fun h3 => ?_) (fun h3 => ?_)
      · exact key (fun q => absurd h3 (nI_nlt q.2 (by omega)))
      · have h4 : gate ≤ r.length := by
          rcases Nat.lt_or_ge r.length gate with q | q
          · exact absurd (nI_lt q (by omega)) h3
          · exact q
        refine pm_go 9999 (by exact okX11_whyNot) rfl ?_; (try dsimp only [pm_st1, pm_st2, pm_cat2, pm_la, Option.toList, List.cons_append, List.nil_append])
        refine pm_ri (by exact okX11_whyNot) rfl rfl rfl (Nat.le_refl _) (Nat.le_refl _) (⟨by rw [gd_wy2 h1 ⟨h2, h4⟩]; rfl, rfl, rfl, rfl⟩)
  · have h1 := bI_n.mp h1
    refine pm_go 9999 (by exact okX11_whyNot) rfl ?_; (try dsimp only [pm_st1, pm_st2, pm_cat2, pm_la, Option.toList, List.cons_append, List.nil_append])
    refine pm_ri (by exact okX11_whyNot) rfl rfl rfl (Nat.le_refl _) (Nat.le_refl _) (⟨by rw [gd_wy1 h1]; rfl, rfl, rfl, rfl⟩)
end
end
section
/-! ===== the garden as a mathematical value; what the reference's cells hold of it ===== -/
/-- ((BEDS, LAW, GATE, WET), COLOURS, PAST, THE ROW (last first), BLOOMED as bits, BLOOMED in its order, SIGHTS) -/
abbrev gS : Type := (Nat × Nat × Nat × Nat) × (Nat → Nat) × (Nat → Option Nat) × List Nat × Nat × List Nat × List (Nat × Nat)
abbrev gB (g : gS) : Nat := g.1.1
abbrev gL (g : gS) : Nat := g.1.2.1
abbrev gG (g : gS) : Nat := g.1.2.2.1
abbrev gW (g : gS) : Nat := g.1.2.2.2
abbrev gC (g : gS) : Nat → Nat := g.2.1
abbrev gP (g : gS) : Nat → Option Nat := g.2.2.1
abbrev gR (g : gS) : List Nat := g.2.2.2.1
abbrev gM (g : gS) : Nat := g.2.2.2.2.1
abbrev gK (g : gS) : List Nat := g.2.2.2.2.2.1
abbrev gV (g : gS) : List (Nat × Nat) := g.2.2.2.2.2.2
/-- from b on, k steps past others end -/
def gd_dd (pa : Nat → Option Nat) : Nat → Nat → Prop
  | 0, _ => False
  | k + 1, b => ∀ o, pa b = some o → gd_dd pa k o
/-- THE ROW and what has BLOOMED fit -/
def rOK (n : Nat) (r : List Nat) (s : Nat) : Prop := r.Nodup ∧ (∀ b ∈ r, b < n ∧ s.testBit b = false) ∧ s < 2 ^ n
def gOK (g : gS) : Prop :=
  (2 ≤ gB g ∧ gB g ≤ 6) ∧ gL g ≤ 2 ∧ (1 ≤ gG g ∧ gG g ≤ 6) ∧ gW g ≤ 10 ∧ (∀ b, b < 6 → gC g b ≤ 3) ∧ (∀ b o, b < 6 → gP g b = some o → b < gB g ∧ o < gB g) ∧ (∀ b, b < 6 → gd_dd (gP g) 6 b) ∧ rOK (gB g) (gR g) (gM g) ∧ ((gK g).Nodup ∧ ∀ b, (gM g).testBit b = true ↔ b ∈ gK g) ∧ ((gV g).length ≤ 6 ∧ ∀ q ∈ gV g, q.1 < 48 ∧ q.2 < gB g)
def dOK (pd : List Nat) : Prop := pd.length ≤ 48 ∧ ∀ c ∈ pd, 33 ≤ c ∧ c ≤ 126
def MR (g : gS) (pd : List Nat) (mu : pm_I) : Prop :=
  mu 19 0 = nI (gB g) ∧ mu 19 3 = nI (gL g) ∧ mu 19 4 = nI (gG g) ∧ mu 19 5 = nI (gW g) ∧ mu 19 6 = nI pd.length ∧ mu 19 8 = nI (md_r7 (gR g)) ∧ mu 19 9 = nI (gM g) ∧ mu 19 11 = nI (gK g).length ∧ mu 19 12 = nI (gV g).length ∧ (∀ b, b < 6 → mu 20 b = nI (gC g b)) ∧ (∀ b, b < 6 → mu 21 b = nO (gP g b)) ∧ (∀ k b, pd[k]? = some b → mu 22 k = nI b) ∧ (∀ k b, (gK g)[k]? = some b → mu 23 k = nI b) ∧ (∀ k q, (gV g)[k]? = some q → mu 24 (2 * k) = nI q.1 ∧ mu 24 (2 * k + 1) = nI q.2)
/-- an image of the reference -/
def MI (n : Nat) (o : Option gS) (mu : pm_I) : Prop := mu 39 n = bI (o.isSome = true) ∧ ∀ g, o = some g →
  (∀ b, b < 6 → mu 38 (42 * n + b) = nI (gC g b)) ∧ (∀ b, b < 6 → mu 38 (42 * n + 6 + b) = nO (gP g b)) ∧ (∀ k b, (gK g)[k]? = some b → mu 38 (42 * n + 12 + k) = nI b) ∧ (∀ k q, (gV g)[k]? = some q → mu 38 (42 * n + 18 + 2 * k) = nI q.1 ∧ mu 38 (42 * n + 18 + (2 * k + 1)) = nI q.2) ∧
  mu 38 (42 * n + 30) = nI (gB g) ∧ mu 38 (42 * n + 31) = nI (gL g) ∧ mu 38 (42 * n + 32) = nI (gG g) ∧ mu 38 (42 * n + 33) = nI (gW g) ∧ mu 38 (42 * n + 34) = nI (md_r7 (gR g)) ∧ mu 38 (42 * n + 35) = nI (gM g) ∧ mu 38 (42 * n + 36) = nI (gK g).length ∧ mu 38 (42 * n + 37) = nI (gV g).length
/-- all that the reference holds -/
abbrev mS : Type := gS × List Nat × Option gS × Option gS
def MA (z : mS) (mu : pm_I) : Prop := MR z.1 z.2.1 mu ∧ MI 0 z.2.2.1 mu ∧ MI 1 z.2.2.2 mu
def zOK (z : mS) : Prop := gOK z.1 ∧ dOK z.2.1 ∧ (∀ g, z.2.2.1 = some g → gOK g) ∧ ∀ g, z.2.2.2 = some g → gOK g
/-- the class's cells stay -/
def fM (mu mu' : pm_I) : Prop := ∀ k, k < 19 ∨ 40 ≤ k → mu' k = mu k
/-- what a call of the reference does: it answers v, and holds z -/
abbrev mQ (v : Value) (z : mS) (i0 i1 : Option Nat) (ex : List pm_C) (mu : pm_I) : pm_Po := fun r sg' mu' _ => r = some v ∧ sg' = sh_ i0 i1 ex ∧ MA z mu' ∧ fM mu mu'
theorem pm_up_app {mu : pm_I} {k j a b : Nat} {v : Int32} : pm_up mu k j v a b = if a = k then (if b = j then v else mu a b) else mu a b := by
  unfold pm_up upd
  by_cases h : a = k
  · subst h; simp
  · simp [h]
theorem pm_up_at {mu : pm_I} {k j : Nat} {v : Int32} : pm_up mu k j v k j = v := by rw [pm_up_app, if_pos rfl, if_pos rfl]
theorem pm_up_of {mu : pm_I} {k j b : Nat} {v : Int32} (h : b ≠ j) : pm_up mu k j v k b = mu k b := by rw [pm_up_app, if_pos rfl, if_neg h]
theorem pm_up_o {mu : pm_I} {k j a b : Nat} {v : Int32} (h : a ≠ k) : pm_up mu k j v a b = mu a b := by rw [pm_up_app, if_neg h]
theorem va_up_at {R : Type} {f : Nat → R} {k : Nat} {v : R} : va_up f k v k = v := if_pos rfl
theorem va_up_of {R : Type} {f : Nat → R} {k j : Nat} {v : R} (h : j ≠ k) : va_up f k v j = f j := if_neg h
theorem fM.rf {mu : pm_I} : fM mu mu := fun _ _ => rfl
theorem fM.up {mu mu' : pm_I} {k j : Nat} {v : Int32} (h : fM mu mu') (hk : 19 ≤ k ∧ k < 40) : fM mu (pm_up mu' k j v) := fun a ha => by
  rw [pm_up_ne (by omega)]
  exact h a ha
/-- MA speaks of these places alone -/
theorem MA.same {z : mS} {mu mu' : pm_I} (h : MA z mu) (h19 : ∀ j, j < 14 → mu' 19 j = mu 19 j) (h2 : ∀ k, 20 ≤ k → k < 25 → mu' k = mu k) (h38 : mu' 38 = mu 38) (h39 : mu' 39 = mu 39) : MA z mu' := by
  obtain ⟨⟨a1, a2, a3, a4, a5, a6, a7, a8, a9, b1, b2, b3, b4, b5⟩, c1, c2⟩ := h
  refine ⟨⟨?_, ?_, ?_, ?_, ?_, ?_, ?_, ?_, ?_, ?_, ?_, ?_, ?_, ?_⟩, ?_, ?_⟩
  · rw [h19 0 (by omega)]; exact a1
  · rw [h19 3 (by omega)]; exact a2
  · rw [h19 4 (by omega)]; exact a3
  · rw [h19 5 (by omega)]; exact a4
  · rw [h19 6 (by omega)]; exact a5
  · rw [h19 8 (by omega)]; exact a6
  · rw [h19 9 (by omega)]; exact a7
  · rw [h19 11 (by omega)]; exact a8
  · rw [h19 12 (by omega)]; exact a9
  · rw [h2 20 (by omega) (by omega)]; exact b1
  · rw [h2 21 (by omega) (by omega)]; exact b2
  · rw [h2 22 (by omega) (by omega)]; exact b3
  · rw [h2 23 (by omega) (by omega)]; exact b4
  · rw [h2 24 (by omega) (by omega)]; exact b5
  · unfold MI at c1 ⊢; rw [h38, h39]; exact c1
  · unfold MI at c2 ⊢; rw [h38, h39]; exact c2
theorem MI.same {n : Nat} {o : Option gS} {mu mu' : pm_I} (h : MI n o mu) (h38 : mu' 38 = mu 38) (h39 : mu' 39 = mu 39) : MI n o mu' := by
  unfold MI at h ⊢; rw [h38, h39]; exact h
theorem nil_get {R : Type} {k : Nat} {b : R} {P : Prop} (h : ([] : List R)[k]? = some b) : P := by simp at h
theorem nO_none : nO none = -6 := rfl
theorem nO_some {b : Nat} : nO (some b) = nI b := rfl
section
variable {cx : pm_CX} {d n0 : Nat} {i0 i1 : Option Nat} {ex : List pm_C} {mu : pm_I} {nu : pm_J}
set_option maxRecDepth 100000 in
set_option maxHeartbeats 1000000 in
theorem M_wipe {z : mS} (h : MA z mu) : pm_T cx mX11_wipe d 0 0 [.ref 19] (sh_ i0 i1 ex) mu nu (mQ (.int (nI z.2.1.length)) (z.1, [], z.2.2) i0 i1 ex mu) := by
  obtain ⟨⟨a1, a2, a3, a4, a5, a6, a7, a8, a9, b1, b2, b3, b4, b5⟩, c1, c2⟩ := id h
  refine pm_enterN 1 (by exact okX11_wipe) rfl ?_; dsimp only [pm_la, pm_cat2, List.replicate, List.cons_append, List.nil_append, List.append_nil]
  refine pm_go 9999 (by exact okX11_wipe) rfl ?_; (try dsimp only [pm_st1, pm_st2, pm_cat2, pm_la, Option.toList, List.cons_append, List.nil_append])
  rw [a5]
  refine pm_ri (by exact okX11_wipe) rfl rfl rfl (Nat.le_refl _) (Nat.le_refl _) (⟨rfl, rfl, ⟨⟨a1, a2, a3, a4, rfl, a6, a7, a8, a9, b1, b2, fun k b hb => nil_get hb, b4, b5⟩, c1.same rfl rfl, c2.same rfl rfl⟩, fM.rf.up (by omega)⟩)
set_option maxRecDepth 100000 in
set_option maxHeartbeats 1000000 in
theorem M_forget {z : mS} (h : MA z mu) : pm_T cx mX11_forget d 0 0 [.ref 19] (sh_ i0 i1 ex) mu nu (mQ (.int (nI (gV z.1).length)) ((z.1.1, gC z.1, gP z.1, gR z.1, gM z.1, gK z.1, []), z.2) i0 i1 ex mu) := by
  obtain ⟨⟨a1, a2, a3, a4, a5, a6, a7, a8, a9, b1, b2, b3, b4, b5⟩, c1, c2⟩ := id h
  refine pm_enterN 1 (by exact okX11_forget) rfl ?_; dsimp only [pm_la, pm_cat2, List.replicate, List.cons_append, List.nil_append, List.append_nil]
  refine pm_go 9999 (by exact okX11_forget) rfl ?_; (try dsimp only [pm_st1, pm_st2, pm_cat2, pm_la, Option.toList, List.cons_append, List.nil_append])
  rw [a9]
  refine pm_ri (by exact okX11_forget) rfl rfl rfl (Nat.le_refl _) (Nat.le_refl _) (⟨rfl, rfl, ⟨⟨a1, a2, a3, a4, a5, a6, a7, a8, rfl, b1, b2, b3, b4, fun k b hb => nil_get hb⟩, c1.same rfl rfl, c2.same rfl rfl⟩, fM.rf.up (by omega)⟩)
set_option maxRecDepth 100000 in
set_option maxHeartbeats 1000000 in
theorem M_anew {z : mS} (h : MA z mu) : pm_T cx mX11_anew d 0 0 [.ref 19] (sh_ i0 i1 ex) mu nu (mQ (.int (nI (gK z.1).length)) ((z.1.1, gC z.1, gP z.1, [], 0, [], gV z.1), z.2) i0 i1 ex mu) := by
  obtain ⟨⟨a1, a2, a3, a4, a5, a6, a7, a8, a9, b1, b2, b3, b4, b5⟩, c1, c2⟩ := id h
  refine pm_enterN 1 (by exact okX11_anew) rfl ?_; dsimp only [pm_la, pm_cat2, List.replicate, List.cons_append, List.nil_append, List.append_nil]
  refine pm_go 9999 (by exact okX11_anew) rfl ?_; (try dsimp only [pm_st1, pm_st2, pm_cat2, pm_la, Option.toList, List.cons_append, List.nil_append])
  rw [a8]
  refine pm_ri (by exact okX11_anew) rfl rfl rfl (Nat.le_refl _) (Nat.le_refl _) (⟨rfl, rfl, ⟨⟨a1, a2, a3, a4, a5, rfl, rfl, rfl, a9, b1, b2, b3, fun k b hb => nil_get hb, b5⟩, c1.same rfl rfl, c2.same rfl rfl⟩, ((fM.rf.up (by omega)).up (by omega)).up (by omega)⟩)
set_option maxRecDepth 100000 in
set_option maxHeartbeats 1000000 in
theorem t_begin_l {Q : pm_Po} : ∀ (j k : Nat) (mu : pm_I), k + j = 6 → (∀ b, b < k → mu 20 b = 0 ∧ mu 21 b = -6) → (∀ mu' : pm_I, (∀ b, b < 6 → mu' 20 b = 0 ∧ mu' 21 b = -6) → (∀ a, a ≠ 20 → a ≠ 21 → a ≠ 19 → mu' a = mu a) → (∀ c, c ≠ 8 → c ≠ 9 → c ≠ 11 → c ≠ 12 → mu' 19 c = mu 19 c) → mu' 19 8 = 0 → mu' 19 9 = 0 → mu' 19 11 = 0 → mu' 19 12 = 0 → Q none (sh_ i0 i1 ex) mu' nu) → pm_G cx (mX11_begin, d, 0, 0, n0, Q) 0 0 2 [some (.ref 19), some (.int (nI k))] [] (sh_ i0 i1 ex) mu nu := by
  intro j
  induction j with
  | zero =>
    intro k mu hk hb hq
    have hk : k = 6 := by omega
    subst hk
    refine pm_go 9999 (by exact okX11_begin) rfl ?_; (try dsimp only [pm_st1, pm_st2, pm_cat2, pm_la, Option.toList, List.cons_append, List.nil_append])
    refine pm_ige (by exact okX11_begin) rfl (fun h1 => ?_) (fun h1 => ?_)
    · refine pm_go 9999 (by exact okX11_begin) rfl ?_; (try dsimp only [pm_st1, pm_st2, pm_cat2, pm_la, Option.toList, List.cons_append, List.nil_append])
      refine pm_rv (by exact okX11_begin) rfl rfl (Nat.le_refl _) (Nat.le_refl _) (hq _ (fun b h => hb b h) (fun a h1 h2 h3 => by rw [pm_up_ne h3, pm_up_ne h3, pm_up_ne h3, pm_up_ne h3]) (fun c h1 h2 h3 h4 => by simp [pm_up_app, h1, h2, h3, h4]) rfl rfl rfl rfl)
    · exact absurd (by decide) h1
  | succ j ih =>
    intro k mu hk hb hq
    refine pm_go 9999 (by exact okX11_begin) rfl ?_; (try dsimp only [pm_st1, pm_st2, pm_cat2, pm_la, Option.toList, List.cons_append, List.nil_append])
    refine pm_ige (by exact okX11_begin) rfl (fun h1 => ?_) (fun h1 => ?_)
    · exact absurd h1 (nI_ge (a := k) (b := 6) (by omega) (by omega))
    · refine pm_go 9999 (by exact okX11_begin) rfl ?_; (try dsimp only [pm_st1, pm_st2, pm_cat2, pm_la, Option.toList, List.cons_append, List.nil_append])
      refine pm_ias (by exact okX11_begin) rfl rfl (vp_in_nI (by omega) (by omega)) ?_
      refine pm_go 9999 (by exact okX11_begin) rfl ?_; (try dsimp only [pm_st1, pm_st2, pm_cat2, pm_la, Option.toList, List.cons_append, List.nil_append])
      refine pm_ias (by exact okX11_begin) rfl rfl (vp_in_nI (by omega) (by omega)) ?_
      refine pm_go 2 (by exact okX11_begin) rfl ?_; (try dsimp only [pm_st1, pm_st2, pm_cat2, pm_la, Option.toList, List.cons_append, List.nil_append])
      rw [nI_clamp (by omega), nI_1]
      refine ih (k + 1) _ (by omega) (fun b h => ?_) (fun mu' g1 g2 g3 => hq mu' g1 (fun a h1 h2 h3 => by rw [g2 a h1 h2 h3, pm_up_ne h2, pm_up_ne h1]) (fun c h1 h2 h3 h4 => by rw [g3 c h1 h2 h3 h4]; rfl))
      simp only [pm_up_app]
      by_cases hbk : b = k
      · simp [hbk]
      · have := hb b (by omega)
        simp [hbk, this]
set_option maxRecDepth 100000 in
set_option maxHeartbeats 1000000 in
theorem t_begin : pm_T cx mX11_begin d 0 0 [.ref 19] (sh_ i0 i1 ex) mu nu (fun r sg' mu' _ => r = none ∧ sg' = sh_ i0 i1 ex ∧ (∀ b, b < 6 → mu' 20 b = 0 ∧ mu' 21 b = -6) ∧ (∀ a, a ≠ 20 → a ≠ 21 → a ≠ 19 → mu' a = mu a) ∧ (∀ c, c ≠ 8 → c ≠ 9 → c ≠ 11 → c ≠ 12 → mu' 19 c = mu 19 c) ∧ mu' 19 8 = 0 ∧ mu' 19 9 = 0 ∧ mu' 19 11 = 0 ∧ mu' 19 12 = 0) := by
  refine pm_enterN 1 (by exact okX11_begin) rfl ?_; dsimp only [pm_la, pm_cat2, List.replicate, List.cons_append, List.nil_append, List.append_nil]
  refine pm_go 2 (by exact okX11_begin) rfl ?_; (try dsimp only [pm_st1, pm_st2, pm_cat2, pm_la, Option.toList, List.cons_append, List.nil_append])
  exact t_begin_l 6 0 mu rfl (fun b h => absurd h (by omega)) (fun mu' g1 g2 g3 g4 g5 g6 g7 => ⟨rfl, rfl, g1, g2, g3, g4, g5, g6, g7⟩)
/-- a garden of n BEDS as at first, but for LAW, GATE, WET -/
abbrev gNew (n : Nat) (g : gS) : gS := ((n, gL g, gG g, gW g), fun _ => 0, fun _ => none, [], 0, [], [])
def sp_beds (z : mS) (n : Int32) : Int32 × mS := if 2 ≤ n ∧ n ≤ 6 then (nI (gB z.1), (gNew n.toNatClampNeg z.1, z.2)) else (-2, z)
theorem rng_of {n : Int32} {a b : Nat} (ha : a < 2 ^ 31) (hb : b < 2 ^ 31) (h : nI a ≤ n ∧ n ≤ nI b) : ∃ k, a ≤ k ∧ k ≤ b ∧ n = nI k := by
  have h0 : ¬ n < 0 := fun q => by
    have h1 := (lt_toInt.mp q)
    have h2 := (le_toInt.mp h.1)
    rw [nI_toInt ha] at h2
    have h3 : (0 : Int32).toInt = 0 := rfl
    omega
  obtain ⟨k, hk, rfl⟩ := nI_of h0
  exact ⟨k, (nI_leI ha hk).mp h.1, (nI_leI hk hb).mp h.2, rfl⟩
set_option maxRecDepth 100000 in
set_option maxHeartbeats 1000000 in
theorem M_beds {z : mS} (n : Int32) (h : MA z mu) (hd : 1 ≤ d) : pm_T cx mX11_beds d 0 0 [.ref 19, .int n] (sh_ i0 i1 ex) mu nu (mQ (.int (sp_beds z n).1) (sp_beds z n).2 i0 i1 ex mu) := by
  obtain ⟨⟨a1, a2, a3, a4, a5, a6, a7, a8, a9, b1, b2, b3, b4, b5⟩, c1, c2⟩ := id h
  refine pm_enterN 1 (by exact okX11_beds) rfl ?_; dsimp only [pm_la, pm_cat2, List.replicate, List.cons_append, List.nil_append, List.append_nil]
  refine pm_go 9999 (by exact okX11_beds) rfl ?_; (try dsimp only [pm_st1, pm_st2, pm_cat2, pm_la, Option.toList, List.cons_append, List.nil_append])
  refine pm_cs (by exact okX11_beds) (by exact okX11_in) rfl (by exact arX11_in) (t_in (d := 0) n 2 6) rfl (by dsimp only; omega) rfl (Nat.le_of_ble_eq_true rfl) ⟨Nat.zero_le _, Nat.zero_le _⟩ ?_
  rintro _ _ _ _ ⟨rfl, rfl, rfl, rfl⟩ -
  refine pm_go 9999 (by exact okX11_beds) rfl ?_; (try dsimp only [pm_st1, pm_st2, pm_cat2, pm_la, Option.toList, List.cons_append, List.nil_append])
  refine pm_zne (by exact okX11_beds) rfl (fun h1 => ?_) (fun h1 => ?_)
  · have h1 := bI_n.mp h1
    obtain ⟨k, k1, k2, rfl⟩ := rng_of (a := 2) (b := 6) (by omega) (by omega) h1
    rw [show sp_beds z (nI k) = (nI (gB z.1), (gNew k z.1, z.2)) by unfold sp_beds; rw [if_pos h1, nI_clamp (by omega)]]
    refine pm_go 9999 (by exact okX11_beds) rfl ?_; (try dsimp only [pm_st1, pm_st2, pm_cat2, pm_la, Option.toList, List.cons_append, List.nil_append])
    refine pm_cv (by exact okX11_beds) (by exact okX11_begin) rfl (by exact arX11_begin) (t_begin (d := 0)) rfl rfl rfl (by dsimp only; omega) rfl (Nat.le_of_ble_eq_true rfl) ⟨Nat.zero_le _, Nat.zero_le _⟩ ?_
    rintro _ _ mu2 nu2 ⟨rfl, rfl, g1, g2, g3, g4, g5, g6, g7⟩ -
    refine pm_go 9999 (by exact okX11_beds) rfl ?_; (try dsimp only [pm_st1, pm_st2, pm_cat2, pm_la, Option.toList, List.cons_append, List.nil_append])
    rw [a1]
    refine pm_ri (by exact okX11_beds) rfl rfl rfl (Nat.le_refl _) (Nat.le_refl _) (⟨rfl, rfl, ⟨⟨by rw [g3 0 (by omega) (by omega) (by omega) (by omega)]; rfl, by rw [g3 3 (by omega) (by omega) (by omega) (by omega)]; exact a2, by rw [g3 4 (by omega) (by omega) (by omega) (by omega)]; exact a3, by rw [g3 5 (by omega) (by omega) (by omega) (by omega)]; exact a4, by rw [g3 6 (by omega) (by omega) (by omega) (by omega)]; exact a5, g4, g5, g6, g7, fun b hb => (g1 b hb).1, fun b hb => (g1 b hb).2, by rw [g2 22 (by omega) (by omega) (by omega)]; exact b3, fun k b hb => nil_get hb, fun k b hb => nil_get hb⟩, c1.same (g2 38 (by omega) (by omega) (by omega)) (g2 39 (by omega) (by omega) (by omega)), c2.same (g2 38 (by omega) (by omega) (by omega)) (g2 39 (by omega) (by omega) (by omega))⟩, fun a ha => by rw [g2 a (by omega) (by omega) (by omega), pm_up_ne (by omega)]⟩)
  · have h1 := bI_z.mp h1
    rw [show sp_beds z n = (-2, z) by unfold sp_beds; rw [if_neg h1]]
    refine pm_go 9999 (by exact okX11_beds) rfl ?_; (try dsimp only [pm_st1, pm_st2, pm_cat2, pm_la, Option.toList, List.cons_append, List.nil_append])
    refine pm_ri (by exact okX11_beds) rfl rfl rfl (Nat.le_refl _) (Nat.le_refl _) (⟨rfl, rfl, h, fM.rf⟩)
end
end
section
/-! ===== the reference's plain calls ===== -/
abbrev zC (z : mS) (f : Nat → Nat) : mS := ((z.1.1, f, z.1.2.2), z.2)
def sp_colour (z : mS) (b v : Int32) : Int32 × mS := if isB (gB z.1) b then (if 0 ≤ v ∧ v ≤ 3 then (nI (gC z.1 b.toNatClampNeg), zC z (va_up (gC z.1) b.toNatClampNeg v.toNatClampNeg)) else (-2, z)) else (-1, z)
def sp_set (z : mS) (w v : Int32) : Int32 × mS :=
  if w = 0 ∧ 0 ≤ v ∧ v ≤ 2 then (nI (gL z.1), (((gB z.1, v.toNatClampNeg, gG z.1, gW z.1), z.1.2), z.2))
  else if w = 1 ∧ 1 ≤ v ∧ v ≤ 6 then (nI (gG z.1), (((gB z.1, gL z.1, v.toNatClampNeg, gW z.1), z.1.2), z.2))
  else if w = 2 ∧ 0 ≤ v ∧ v ≤ 10 then (nI (gW z.1), (((gB z.1, gL z.1, gG z.1, v.toNatClampNeg), z.1.2), z.2))
  else (-2, z)
def sp_say (z : mS) (s : Int32) : Int32 × mS := if 33 ≤ s ∧ s ≤ 126 then (if z.2.1.length = 48 then (-4, z) else (nI (z.2.1.length + 1), (z.1, z.2.1 ++ [s.toNatClampNeg], z.2.2))) else (-2, z)
def sp_seen (z : mS) (m b : Int32) : Int32 × mS := if isB (gB z.1) b then (if 0 ≤ m ∧ m ≤ 47 then (if (gV z.1).length = 6 then (-4, z) else (nI ((gV z.1).length + 1), ((z.1.1, gC z.1, gP z.1, gR z.1, gM z.1, gK z.1, gV z.1 ++ [(m.toNatClampNeg, b.toNatClampNeg)]), z.2))) else (-2, z)) else (-1, z)
def sp_row (z : mS) (i : Int32) : Int32 := if i = -1 then nI (gR z.1).length else if isB (gR z.1).length i then nO ((gR z.1)[(gR z.1).length - 1 - i.toNatClampNeg]?) else -6
def sp_bloomed (z : mS) (i : Int32) : Int32 := if i = -1 then nI (gK z.1).length else if isB (gK z.1).length i then nO ((gK z.1)[i.toNatClampNeg]?) else -6
def sp_told (z : mS) (w : Int32) : Int32 :=
  if w = 0 then nI z.2.1.length else if w = 1 then nI (gB z.1) else if w = 2 then nI (gL z.1) else if w = 3 then nI (gG z.1) else if w = 4 then nI (gW z.1) else if w = 5 then nI (gV z.1).length
  else if isB (gB z.1) (w - 10) then nI (gC z.1 (w - 10).toNatClampNeg) else if isB (gB z.1) (w - 20) then nO (gP z.1 (w - 20).toNatClampNeg) else -2
section
variable {cx : pm_CX} {d n0 : Nat} {i0 i1 : Option Nat} {ex : List pm_C} {mu : pm_I} {nu : pm_J}
set_option maxRecDepth 100000 in
set_option maxHeartbeats 1000000 in
theorem M_colour {z : mS} (b v : Int32) (hz : zOK z) (h : MA z mu) (hd : 2 ≤ d) : pm_T cx mX11_colour d 0 0 [.ref 19, .int b, .int v] (sh_ i0 i1 ex) mu nu (mQ (.int (sp_colour z b v).1) (sp_colour z b v).2 i0 i1 ex mu) := by
  obtain ⟨⟨a1, a2, a3, a4, a5, a6, a7, a8, a9, b1, b2, b3, b4, b5⟩, c1, c2⟩ := id h
  obtain ⟨⟨⟨hB2, hB6⟩, -⟩, -⟩ := hz
  unfold sp_colour
  refine pm_enterN 1 (by exact okX11_colour) rfl ?_; dsimp only [pm_la, pm_cat2, List.replicate, List.cons_append, List.nil_append, List.append_nil]
  refine pm_go 9999 (by exact okX11_colour) rfl ?_; (try dsimp only [pm_st1, pm_st2, pm_cat2, pm_la, Option.toList, List.cons_append, List.nil_append])
  refine pm_cv (by exact okX11_colour) (by exact okX11_isBed) rfl (by exact arX11_isBed) (t_isBed (d := 1) b a1 (by omega) (by omega)) rfl rfl rfl (by dsimp only; omega) rfl (Nat.le_of_ble_eq_true rfl) ⟨Nat.zero_le _, Nat.zero_le _⟩ ?_
  rintro _ _ _ _ ⟨rfl, rfl, rfl, rfl⟩ -
  refine pm_go 9999 (by exact okX11_colour) rfl ?_; (try dsimp only [pm_st1, pm_st2, pm_cat2, pm_la, Option.toList, List.cons_append, List.nil_append])
  refine pm_zne (by exact okX11_colour) rfl (fun h1 => ?_) (fun h1 => ?_)
  · have h1 := bI_n.mp h1
    rw [if_pos h1]
    obtain ⟨k, hk, rfl⟩ := isB_of hB6 h1
    refine pm_go 9999 (by exact okX11_colour) rfl ?_; (try dsimp only [pm_st1, pm_st2, pm_cat2, pm_la, Option.toList, List.cons_append, List.nil_append])
    refine pm_cs (by exact okX11_colour) (by exact okX11_in) rfl (by exact arX11_in) (t_in (d := 0) v 0 3) rfl (by dsimp only; omega) rfl (Nat.le_of_ble_eq_true rfl) ⟨Nat.zero_le _, Nat.zero_le _⟩ ?_
    rintro _ _ _ _ ⟨rfl, rfl, rfl, rfl⟩ -
    refine pm_go 9999 (by exact okX11_colour) rfl ?_; (try dsimp only [pm_st1, pm_st2, pm_cat2, pm_la, Option.toList, List.cons_append, List.nil_append])
    refine pm_zne (by exact okX11_colour) rfl (fun h2 => ?_) (fun h2 => ?_)
    · have h2 := bI_n.mp h2
      rw [if_pos h2]
      obtain ⟨c, -, hc, rfl⟩ := rng_of (a := 0) (b := 3) (by omega) (by omega) h2
      refine pm_go 9999 (by exact okX11_colour) rfl ?_; (try dsimp only [pm_st1, pm_st2, pm_cat2, pm_la, Option.toList, List.cons_append, List.nil_append])
      refine pm_ial (by exact okX11_colour) rfl rfl (vp_in_nI (by omega) (by omega)) ?_
      refine pm_go 9999 (by exact okX11_colour) rfl ?_; (try dsimp only [pm_st1, pm_st2, pm_cat2, pm_la, Option.toList, List.cons_append, List.nil_append])
      refine pm_ias (by exact okX11_colour) rfl rfl (vp_in_nI (by omega) (by omega)) ?_
      refine pm_go 9999 (by exact okX11_colour) rfl ?_; (try dsimp only [pm_st1, pm_st2, pm_cat2, pm_la, Option.toList, List.cons_append, List.nil_append])
      rw [nI_clamp (by omega), nI_clamp (by omega), b1 k (by omega)]
      refine pm_ri (by exact okX11_colour) rfl rfl rfl (Nat.le_refl _) (Nat.le_refl _) (⟨rfl, rfl, ⟨⟨a1, a2, a3, a4, a5, a6, a7, a8, a9, fun j hj => ?_, b2, b3, b4, b5⟩, c1.same rfl rfl, c2.same rfl rfl⟩, fM.rf.up (by omega)⟩)
      show pm_up mu 20 k (nI c) 20 j = nI (va_up (gC z.1) k c j)
      by_cases hjk : j = k
      · subst hjk; rw [pm_up_at, va_up_at]
      · rw [pm_up_of hjk, va_up_of hjk, b1 j hj]
    · have h2 := bI_z.mp h2
      rw [if_neg h2]
      refine pm_go 9999 (by exact okX11_colour) rfl ?_; (try dsimp only [pm_st1, pm_st2, pm_cat2, pm_la, Option.toList, List.cons_append, List.nil_append])
      refine pm_ri (by exact okX11_colour) rfl rfl rfl (Nat.le_refl _) (Nat.le_refl _) (⟨rfl, rfl, h, fM.rf⟩)
  · have h1 := bI_z.mp h1
    rw [if_neg h1]
    refine pm_go 9999 (by exact okX11_colour) rfl ?_; (try dsimp only [pm_st1, pm_st2, pm_cat2, pm_la, Option.toList, List.cons_append, List.nil_append])
    refine pm_ri (by exact okX11_colour) rfl rfl rfl (Nat.le_refl _) (Nat.le_refl _) (⟨rfl, rfl, h, fM.rf⟩)
theorem app_get {R : Type} {l : List R} {x y : R} {k : Nat} (h : (l ++ [x])[k]? = some y) : (k < l.length ∧ l[k]? = some y) ∨ (k = l.length ∧ y = x) := by
  rcases Nat.lt_trichotomy k l.length with q | q | q
  · rw [List.getElem?_append_left q] at h; exact Or.inl ⟨q, h⟩
  · subst q; simp at h; exact Or.inr ⟨rfl, h.symm⟩
  · rw [List.getElem?_eq_none (by simp; omega)] at h; cases h
set_option maxRecDepth 100000 in
set_option maxHeartbeats 1000000 in
theorem M_say {z : mS} (s : Int32) (hz : zOK z) (h : MA z mu) (hd : 1 ≤ d) : pm_T cx mX11_say d 0 0 [.ref 19, .int s] (sh_ i0 i1 ex) mu nu (mQ (.int (sp_say z s).1) (sp_say z s).2 i0 i1 ex mu) := by
  obtain ⟨⟨a1, a2, a3, a4, a5, a6, a7, a8, a9, b1, b2, b3, b4, b5⟩, c1, c2⟩ := id h
  obtain ⟨-, ⟨hp1, -⟩, -⟩ := hz
  unfold sp_say
  refine pm_enterN 0 (by exact okX11_say) rfl ?_; dsimp only [pm_la, pm_cat2, List.replicate, List.cons_append, List.nil_append, List.append_nil]
  refine pm_go 9999 (by exact okX11_say) rfl ?_; (try dsimp only [pm_st1, pm_st2, pm_cat2, pm_la, Option.toList, List.cons_append, List.nil_append])
  refine pm_cs (by exact okX11_say) (by exact okX11_in) rfl (by exact arX11_in) (t_in (d := 0) s 33 126) rfl (by dsimp only; omega) rfl (Nat.le_of_ble_eq_true rfl) ⟨Nat.zero_le _, Nat.zero_le _⟩ ?_
  rintro _ _ _ _ ⟨rfl, rfl, rfl, rfl⟩ -
  refine pm_go 9999 (by exact okX11_say) rfl ?_; (try dsimp only [pm_st1, pm_st2, pm_cat2, pm_la, Option.toList, List.cons_append, List.nil_append])
  refine pm_zne (by exact okX11_say) rfl (fun h1 => ?_) (fun h1 => ?_)
  · have h1 := bI_n.mp h1
    rw [if_pos h1]
    obtain ⟨c, hc1, hc, rfl⟩ := rng_of (a := 33) (b := 126) (by omega) (by omega) h1
    refine pm_go 9999 (by exact okX11_say) rfl ?_; (try dsimp only [pm_st1, pm_st2, pm_cat2, pm_la, Option.toList, List.cons_append, List.nil_append])
    rw [a5]
    refine pm_ine (by exact okX11_say) rfl (fun h2 => ?_) (fun h2 => ?_)
    · have h3 : ¬ z.2.1.length = 48 := fun q => h2 (by rw [q]; rfl)
      rw [if_neg h3]
      refine pm_go 9999 (by exact okX11_say) rfl ?_; (try dsimp only [pm_st1, pm_st2, pm_cat2, pm_la, Option.toList, List.cons_append, List.nil_append])
      rw [a5]
      refine pm_ias (by exact okX11_say) rfl rfl (vp_in_nI (by omega) (by omega)) ?_
      refine pm_go 9999 (by exact okX11_say) rfl ?_; (try dsimp only [pm_st1, pm_st2, pm_cat2, pm_la, Option.toList, List.cons_append, List.nil_append])
      rw [nI_clamp (by omega), nI_clamp (by omega)]
      refine pm_G.cast (S' := [.int (nI (z.2.1.length + 1))]) (mu' := pm_up (pm_up mu 22 z.2.1.length (nI c)) 19 6 (nI (z.2.1.length + 1))) (nu' := nu) (L' := [some (.ref 19), some (.int (nI c))]) ?_ rfl ?_ ?_ rfl
      · refine pm_ri (by exact okX11_say) rfl rfl rfl (Nat.le_refl _) (Nat.le_refl _) (⟨rfl, rfl, ⟨⟨a1, a2, a3, a4, ?_, a6, a7, a8, a9, b1, b2, fun k b hb => ?_, b4, b5⟩, c1.same rfl rfl, c2.same rfl rfl⟩, (fM.rf.up (by omega)).up (by omega)⟩)
        · show nI _ = nI _
          simp
        · rcases app_get hb with ⟨q1, q2⟩ | ⟨q1, q2⟩
          · rw [pm_up_o (by omega), pm_up_of (by omega)]
            exact b3 k b q2
          · subst q1; rw [pm_up_o (by omega), pm_up_at, q2]
      · show [Value.int (mu 19 6 + 1)] = _
        rw [a5, nI_1]
      · show pm_up (pm_up mu 22 z.2.1.length (nI c)) 19 6 (mu 19 6 + 1) = _
        rw [a5, nI_1]
    · have h3 : z.2.1.length = 48 := (nI_eq (b := 48) (by omega) (by omega)).mp h2
      rw [if_pos h3]
      refine pm_go 9999 (by exact okX11_say) rfl ?_; (try dsimp only [pm_st1, pm_st2, pm_cat2, pm_la, Option.toList, List.cons_append, List.nil_append])
      refine pm_ri (by exact okX11_say) rfl rfl rfl (Nat.le_refl _) (Nat.le_refl _) (⟨rfl, rfl, h, fM.rf⟩)
  · have h1 := bI_z.mp h1
    rw [if_neg h1]
    refine pm_go 9999 (by exact okX11_say) rfl ?_; (try dsimp only [pm_st1, pm_st2, pm_cat2, pm_la, Option.toList, List.cons_append, List.nil_append])
    refine pm_ri (by exact okX11_say) rfl rfl rfl (Nat.le_refl _) (Nat.le_refl _) (⟨rfl, rfl, h, fM.rf⟩)
set_option maxRecDepth 100000 in
set_option maxHeartbeats 1000000 in
theorem M_seen {z : mS} (m b : Int32) (hz : zOK z) (h : MA z mu) (hd : 2 ≤ d) : pm_T cx mX11_seen d 0 0 [.ref 19, .int m, .int b] (sh_ i0 i1 ex) mu nu (mQ (.int (sp_seen z m b).1) (sp_seen z m b).2 i0 i1 ex mu) := by
  obtain ⟨⟨a1, a2, a3, a4, a5, a6, a7, a8, a9, b1, b2, b3, b4, b5⟩, c1, c2⟩ := id h
  obtain ⟨⟨⟨hB2, hB6⟩, -, -, -, -, -, -, -, -, ⟨hV, -⟩⟩, -⟩ := hz
  unfold sp_seen
  refine pm_enterN 0 (by exact okX11_seen) rfl ?_; dsimp only [pm_la, pm_cat2, List.replicate, List.cons_append, List.nil_append, List.append_nil]
  refine pm_go 9999 (by exact okX11_seen) rfl ?_; (try dsimp only [pm_st1, pm_st2, pm_cat2, pm_la, Option.toList, List.cons_append, List.nil_append])
  refine pm_cv (by exact okX11_seen) (by exact okX11_isBed) rfl (by exact arX11_isBed) (t_isBed (d := 1) b a1 (by omega) (by omega)) rfl rfl rfl (by dsimp only; omega) rfl (Nat.le_of_ble_eq_true rfl) ⟨Nat.zero_le _, Nat.zero_le _⟩ ?_
  rintro _ _ _ _ ⟨rfl, rfl, rfl, rfl⟩ -
  refine pm_go 9999 (by exact okX11_seen) rfl ?_; (try dsimp only [pm_st1, pm_st2, pm_cat2, pm_la, Option.toList, List.cons_append, List.nil_append])
  refine pm_zne (by exact okX11_seen) rfl (fun h1 => ?_) (fun h1 => ?_)
  · have h1 := bI_n.mp h1
    rw [if_pos h1]
    obtain ⟨k, hk, rfl⟩ := isB_of hB6 h1
    refine pm_go 9999 (by exact okX11_seen) rfl ?_; (try dsimp only [pm_st1, pm_st2, pm_cat2, pm_la, Option.toList, List.cons_append, List.nil_append])
    refine pm_cs (by exact okX11_seen) (by exact okX11_in) rfl (by exact arX11_in) (t_in (d := 0) m 0 47) rfl (by dsimp only; omega) rfl (Nat.le_of_ble_eq_true rfl) ⟨Nat.zero_le _, Nat.zero_le _⟩ ?_
    rintro _ _ _ _ ⟨rfl, rfl, rfl, rfl⟩ -
    refine pm_go 9999 (by exact okX11_seen) rfl ?_; (try dsimp only [pm_st1, pm_st2, pm_cat2, pm_la, Option.toList, List.cons_append, List.nil_append])
    refine pm_zne (by exact okX11_seen) rfl (fun h2 => ?_) (fun h2 => ?_)
    · have h2 := bI_n.mp h2
      rw [if_pos h2]
      obtain ⟨c, -, hc, rfl⟩ := rng_of (a := 0) (b := 47) (by omega) (by omega) h2
      refine pm_go 9999 (by exact okX11_seen) rfl ?_; (try dsimp only [pm_st1, pm_st2, pm_cat2, pm_la, Option.toList, List.cons_append, List.nil_append])
      rw [a9]
      refine pm_ine (by exact okX11_seen) rfl (fun h3 => ?_) (fun h3 => ?_)
      · have h3 : ¬ (gV z.1).length = 6 := fun q => h3 (by rw [q]; rfl)
        rw [if_neg h3]
        have e2 : (2 : Int32) * nI (gV z.1).length = nI (2 * (gV z.1).length) := pk_mul 2 _
        refine pm_go 9999 (by exact okX11_seen) rfl ?_; (try dsimp only [pm_st1, pm_st2, pm_cat2, pm_la, Option.toList, List.cons_append, List.nil_append])
        rw [a9, e2]
        refine pm_ias (by exact okX11_seen) rfl rfl (vp_in_nI (by omega) (by omega)) ?_
        refine pm_go 9999 (by exact okX11_seen) rfl ?_; (try dsimp only [pm_st1, pm_st2, pm_cat2, pm_la, Option.toList, List.cons_append, List.nil_append])
        refine pm_G.cast (S' := [.int (nI k), .int (nI (2 * (gV z.1).length + 1)), .ref 24]) (mu' := pm_up mu 24 (2 * (gV z.1).length) (nI c)) (nu' := nu) (L' := [some (.ref 19), some (.int (nI c)), some (.int (nI k))]) ?_ rfl ?_ ?_ rfl
        · refine pm_ias (by exact okX11_seen) rfl rfl (vp_in_nI (by omega) (by omega)) ?_
          refine pm_go 9999 (by exact okX11_seen) rfl ?_; (try dsimp only [pm_st1, pm_st2, pm_cat2, pm_la, Option.toList, List.cons_append, List.nil_append])
          rw [nI_clamp (n := 2 * (gV z.1).length + 1) (by omega), nI_clamp (n := k) (by omega), nI_clamp (n := c) (by omega)]
          refine pm_G.cast (S' := [.int (nI ((gV z.1).length + 1))]) (mu' := pm_up (pm_up (pm_up mu 24 (2 * (gV z.1).length) (nI c)) 24 (2 * (gV z.1).length + 1) (nI k)) 19 12 (nI ((gV z.1).length + 1))) (nu' := nu) (L' := [some (.ref 19), some (.int (nI c)), some (.int (nI k))]) ?_ rfl ?_ ?_ rfl
          · refine pm_ri (by exact okX11_seen) rfl rfl rfl (Nat.le_refl _) (Nat.le_refl _) (⟨rfl, rfl, ⟨⟨a1, a2, a3, a4, a5, a6, a7, a8, ?_, b1, b2, b3, b4, fun j q hq => ?_⟩, c1.same rfl rfl, c2.same rfl rfl⟩, ((fM.rf.up (by omega)).up (by omega)).up (by omega)⟩)
            · show nI ((gV z.1).length + 1) = nI (gV z.1 ++ [(c, k)]).length
              rw [List.length_append]
              rfl
            · rcases app_get hq with ⟨q1, q2⟩ | ⟨q1, q2⟩
              · rw [pm_up_o (by omega), pm_up_of (by omega), pm_up_of (by omega), pm_up_o (by omega), pm_up_of (by omega), pm_up_of (by omega)]
                exact b5 j q q2
              · subst q1; subst q2
                rw [pm_up_o (by omega), pm_up_of (by omega), pm_up_at, pm_up_o (by omega), pm_up_at]
                exact ⟨rfl, rfl⟩
          · show [Value.int (mu 19 12 + 1)] = _
            rw [a9, nI_1]
          · show pm_up _ 19 12 (mu 19 12 + 1) = _
            rw [a9, nI_1]
        · show [Value.int (nI k), Value.int (2 * mu 19 12 + 1), Value.ref 24] = _
          rw [a9, e2, nI_1]
        · rw [nI_clamp (by omega)]
      · have h3 : (gV z.1).length = 6 := (nI_eq (b := 6) (by omega) (by omega)).mp h3
        rw [if_pos h3]
        refine pm_go 9999 (by exact okX11_seen) rfl ?_; (try dsimp only [pm_st1, pm_st2, pm_cat2, pm_la, Option.toList, List.cons_append, List.nil_append])
        refine pm_ri (by exact okX11_seen) rfl rfl rfl (Nat.le_refl _) (Nat.le_refl _) (⟨rfl, rfl, h, fM.rf⟩)
    · have h2 := bI_z.mp h2
      rw [if_neg h2]
      refine pm_go 9999 (by exact okX11_seen) rfl ?_; (try dsimp only [pm_st1, pm_st2, pm_cat2, pm_la, Option.toList, List.cons_append, List.nil_append])
      refine pm_ri (by exact okX11_seen) rfl rfl rfl (Nat.le_refl _) (Nat.le_refl _) (⟨rfl, rfl, h, fM.rf⟩)
  · have h1 := bI_z.mp h1
    rw [if_neg h1]
    refine pm_go 9999 (by exact okX11_seen) rfl ?_; (try dsimp only [pm_st1, pm_st2, pm_cat2, pm_la, Option.toList, List.cons_append, List.nil_append])
    refine pm_ri (by exact okX11_seen) rfl rfl rfl (Nat.le_refl _) (Nat.le_refl _) (⟨rfl, rfl, h, fM.rf⟩)
set_option maxRecDepth 100000 in
set_option maxHeartbeats 1000000 in
theorem M_bloomed {z : mS} (i : Int32) (hK : (gK z.1).length ≤ 6) (h : MA z mu) (hd : 1 ≤ d) : pm_T cx mX11_bloomed d 0 0 [.ref 19, .int i] (sh_ i0 i1 ex) mu nu (mQ (.int (sp_bloomed z i)) z i0 i1 ex mu) := by
  obtain ⟨⟨a1, a2, a3, a4, a5, a6, a7, a8, a9, b1, b2, b3, b4, b5⟩, c1, c2⟩ := id h
  unfold sp_bloomed
  refine pm_enterN 0 (by exact okX11_bloomed) rfl ?_; dsimp only [pm_la, pm_cat2, List.replicate, List.cons_append, List.nil_append, List.append_nil]
  refine pm_go 9999 (by exact okX11_bloomed) rfl ?_; (try dsimp only [pm_st1, pm_st2, pm_cat2, pm_la, Option.toList, List.cons_append, List.nil_append])
  refine pm_ine (by exact okX11_bloomed) rfl (fun h1 => ?_) (fun h1 => ?_)
  · rw [if_neg h1]
    refine pm_go 9999 (by exact okX11_bloomed) rfl ?_; (try dsimp only [pm_st1, pm_st2, pm_cat2, pm_la, Option.toList, List.cons_append, List.nil_append])
    rw [a8]
    refine pm_cs (by exact okX11_bloomed) (by exact okX11_in) rfl (by exact arX11_in) (t_in (d := 0) i 0 (nI (gK z.1).length - 1)) rfl (by dsimp only; omega) rfl (Nat.le_of_ble_eq_true rfl) ⟨Nat.zero_le _, Nat.zero_le _⟩ ?_
    rintro _ _ _ _ ⟨rfl, rfl, rfl, rfl⟩ -
    refine pm_go 9999 (by exact okX11_bloomed) rfl ?_; (try dsimp only [pm_st1, pm_st2, pm_cat2, pm_la, Option.toList, List.cons_append, List.nil_append])
    have e1 : (0 ≤ i ∧ i ≤ nI (gK z.1).length - 1) ↔ isB (gK z.1).length i := by
      constructor
      · rintro ⟨q1, q2⟩
        obtain ⟨k, hk, rfl⟩ := nI_of (x := i) (Int32.not_lt.mpr q1)
        rcases Nat.eq_zero_or_pos (gK z.1).length with q | q
        · rw [q] at q2
          exact absurd (Int32.le_trans q1 q2) (by decide)
        · rw [nI_m1 q] at q2
          exact ⟨q1, nI_lt (by have := (nI_leI hk (by omega)).mp q2; omega) (by omega)⟩
      · rintro ⟨q1, q2⟩
        obtain ⟨k, hk, rfl⟩ := nI_of (x := i) (Int32.not_lt.mpr q1)
        have q3 := (nI_ltI hk (by omega)).mp q2
        rw [nI_m1 (by omega)]
        exact ⟨q1, nI_le (by omega) (by omega)⟩
    rw [bI_c e1]
    refine pm_zeq (by exact okX11_bloomed) rfl (fun h2 => ?_) (fun h2 => ?_)
    · have h2 := bI_z.mp h2
      rw [if_neg h2]
      refine pm_go 9999 (by exact okX11_bloomed) rfl ?_; (try dsimp only [pm_st1, pm_st2, pm_cat2, pm_la, Option.toList, List.cons_append, List.nil_append])
      refine pm_ri (by exact okX11_bloomed) rfl rfl rfl (Nat.le_refl _) (Nat.le_refl _) (⟨rfl, rfl, h, fM.rf⟩)
    · have h2 := bI_n.mp h2
      rw [if_pos h2]
      obtain ⟨k, hk, rfl⟩ := isB_of (by omega) h2
      refine pm_go 9999 (by exact okX11_bloomed) rfl ?_; (try dsimp only [pm_st1, pm_st2, pm_cat2, pm_la, Option.toList, List.cons_append, List.nil_append])
      refine pm_ial (by exact okX11_bloomed) rfl rfl (vp_in_nI (by omega) (by omega)) ?_
      refine pm_go 9999 (by exact okX11_bloomed) rfl ?_; (try dsimp only [pm_st1, pm_st2, pm_cat2, pm_la, Option.toList, List.cons_append, List.nil_append])
      rw [nI_clamp (by omega), List.getElem?_eq_getElem hk, b4 k _ (List.getElem?_eq_getElem hk)]
      refine pm_ri (by exact okX11_bloomed) rfl rfl rfl (Nat.le_refl _) (Nat.le_refl _) (⟨rfl, rfl, h, fM.rf⟩)
  · rw [if_pos h1]
    refine pm_go 9999 (by exact okX11_bloomed) rfl ?_; (try dsimp only [pm_st1, pm_st2, pm_cat2, pm_la, Option.toList, List.cons_append, List.nil_append])
    rw [a8]
    refine pm_ri (by exact okX11_bloomed) rfl rfl rfl (Nat.le_refl _) (Nat.le_refl _) (⟨rfl, rfl, h, fM.rf⟩)
end
end
section
section
variable {cx : pm_CX} {d n0 : Nat} {i0 i1 : Option Nat} {ex : List pm_C} {mu : pm_I} {nu : pm_J}
theorem isB_pred {n : Nat} (hn : n ≤ 48) (i : Int32) : (0 ≤ i ∧ i ≤ nI n - 1) ↔ (0 ≤ i ∧ i < nI n) := by
  constructor
  · rintro ⟨q1, q2⟩
    obtain ⟨k, hk, rfl⟩ := nI_of (x := i) (Int32.not_lt.mpr q1)
    rcases Nat.eq_zero_or_pos n with q | q
    · rw [q] at q2
      exact absurd (Int32.le_trans q1 q2) (by decide)
    · rw [nI_m1 q] at q2
      exact ⟨q1, nI_lt (by have := (nI_leI hk (by omega)).mp q2; omega) (by omega)⟩
  · rintro ⟨q1, q2⟩
    obtain ⟨k, hk, rfl⟩ := nI_of (x := i) (Int32.not_lt.mpr q1)
    have q3 := (nI_ltI hk (by omega)).mp q2
    rw [nI_m1 (by omega)]
    exact ⟨q1, nI_le (by omega) (by omega)⟩
set_option maxRecDepth 100000 in
set_option maxHeartbeats 1000000 in
theorem M_row_l {Q : pm_Po} {x2 : Int32} {i : Nat} (hi : i < 6) : ∀ (r : List Nat) (k : Nat), md_ok r → r.length ≤ 6 → i < r.length → k + 1 = r.length → (∀ b, r[k - i]? = some b → Q (some (.int (nI b))) (sh_ i0 i1 ex) mu nu) → pm_G cx (mX11_row, d, 0, 0, n0, Q) 0 0 46 [some (.ref 19), some (.int (nI i)), some (.int x2), some (.int (nI (md_r7 r))), some (.int (nI k))] [] (sh_ i0 i1 ex) mu nu := by
  intro r
  induction r with
  | nil => intro k h hl hi2; simp at hi2
  | cons b t ih =>
    intro k h hl hi2 hk hq
    have hl2 := hl
    simp only [List.length_cons] at hi2 hk hl2
    refine pm_go 9999 (by exact okX11_row) rfl ?_; (try dsimp only [pm_st1, pm_st2, pm_cat2, pm_la, Option.toList, List.cons_append, List.nil_append])
    refine pm_ile (by exact okX11_row) rfl (fun h1 => ?_) (fun h1 => ?_)
    · have h2 : k ≤ i := (nI_leI (by omega) (by omega)).mp h1
      refine pm_go 9999 (by exact okX11_row) rfl ?_; (try dsimp only [pm_st1, pm_st2, pm_cat2, pm_la, Option.toList, List.cons_append, List.nil_append])
      refine pm_rem (by exact okX11_row) rfl (by decide) ?_
      refine pm_go 9999 (by exact okX11_row) rfl ?_; (try dsimp only [pm_st1, pm_st2, pm_cat2, pm_la, Option.toList, List.cons_append, List.nil_append])
      rw [md_rem h hl, nI_pred]
      refine pm_ri (by exact okX11_row) rfl rfl rfl (Nat.le_refl _) (Nat.le_refl _) (hq b (by rw [show k - i = 0 by omega]; rfl))
    · have h2 : i < k := by
        rcases Nat.lt_or_ge i k with q | q
        · exact q
        · exact absurd (nI_le q (by omega)) h1
      refine pm_go 9999 (by exact okX11_row) rfl ?_; (try dsimp only [pm_st1, pm_st2, pm_cat2, pm_la, Option.toList, List.cons_append, List.nil_append])
      refine pm_div (by exact okX11_row) rfl (by decide) ?_
      refine pm_go 46 (by exact okX11_row) rfl ?_; (try dsimp only [pm_st1, pm_st2, pm_cat2, pm_la, Option.toList, List.cons_append, List.nil_append])
      rw [md_div h hl]
      obtain ⟨k', rfl⟩ : ∃ k', k = k' + 1 := ⟨k - 1, by omega⟩
      rw [pk_m1]
      refine ih k' (md_ok_t h) (by simp only [List.length_cons] at hl; omega) (by omega) (by omega) (fun c hc => hq c ?_)
      rw [show k' + 1 - i = (k' - i) + 1 by omega, List.getElem?_cons_succ]
      exact hc
set_option maxRecDepth 100000 in
set_option maxHeartbeats 1000000 in
theorem M_row {z : mS} (i : Int32) (hr : md_ok (gR z.1)) (hl : (gR z.1).length ≤ 6) (h : MA z mu) (hd : 1 ≤ d) : pm_T cx mX11_row d 0 0 [.ref 19, .int i] (sh_ i0 i1 ex) mu nu (mQ (.int (sp_row z i)) z i0 i1 ex mu) := by
  obtain ⟨⟨a1, a2, a3, a4, a5, a6, a7, a8, a9, b1, b2, b3, b4, b5⟩, c1, c2⟩ := id h
  unfold sp_row
  refine pm_enterN 3 (by exact okX11_row) rfl ?_; dsimp only [pm_la, pm_cat2, List.replicate, List.cons_append, List.nil_append, List.append_nil]
  refine pm_go 9999 (by exact okX11_row) rfl ?_; (try dsimp only [pm_st1, pm_st2, pm_cat2, pm_la, Option.toList, List.cons_append, List.nil_append])
  rw [a6]
  refine pm_cs (by exact okX11_row) (by exact okX11_sizeOf) rfl (by exact arX11_sizeOf) (t_sizeOf (d := 0) hr hl) rfl (by dsimp only; omega) rfl (Nat.le_of_ble_eq_true rfl) ⟨Nat.zero_le _, Nat.zero_le _⟩ ?_
  rintro _ _ _ _ ⟨rfl, rfl, rfl, rfl⟩ -
  refine pm_go 9999 (by exact okX11_row) rfl ?_; (try dsimp only [pm_st1, pm_st2, pm_cat2, pm_la, Option.toList, List.cons_append, List.nil_append])
  refine pm_ieq (by exact okX11_row) rfl (fun h1 => ?_) (fun h1 => ?_)
  · rw [if_pos h1]
    refine pm_go 9999 (by exact okX11_row) rfl ?_; (try dsimp only [pm_st1, pm_st2, pm_cat2, pm_la, Option.toList, List.cons_append, List.nil_append])
    refine pm_ine (by exact okX11_row) rfl (fun h2 => ?_) (fun h2 => ?_)
    · exact absurd h1 h2
    · refine pm_go 9999 (by exact okX11_row) rfl ?_; (try dsimp only [pm_st1, pm_st2, pm_cat2, pm_la, Option.toList, List.cons_append, List.nil_append])
      refine pm_ri (by exact okX11_row) rfl rfl rfl (Nat.le_refl _) (Nat.le_refl _) (⟨rfl, rfl, h, fM.rf⟩)
  · rw [if_neg h1]
    refine pm_go 9999 (by exact okX11_row) rfl ?_; (try dsimp only [pm_st1, pm_st2, pm_cat2, pm_la, Option.toList, List.cons_append, List.nil_append])
    refine pm_cs (by exact okX11_row) (by exact okX11_in) rfl (by exact arX11_in) (t_in (d := 0) i 0 (nI (gR z.1).length - 1)) rfl (by dsimp only; omega) rfl (Nat.le_of_ble_eq_true rfl) ⟨Nat.zero_le _, Nat.zero_le _⟩ ?_
    rintro _ _ _ _ ⟨rfl, rfl, rfl, rfl⟩ -
    refine pm_go 9999 (by exact okX11_row) rfl ?_; (try dsimp only [pm_st1, pm_st2, pm_cat2, pm_la, Option.toList, List.cons_append, List.nil_append])
    rw [bI_c (isB_pred (by omega) i)]
    refine pm_zne (by exact okX11_row) rfl (fun h2 => ?_) (fun h2 => ?_)
    · have h2 := bI_n.mp h2
      rw [if_pos h2]
      obtain ⟨k, hk, rfl⟩ := isB_of (by omega) h2
      refine pm_go 46 (by exact okX11_row) rfl ?_; (try dsimp only [pm_st1, pm_st2, pm_cat2, pm_la, Option.toList, List.cons_append, List.nil_append])
      rw [a6, nI_m1 (by omega), nI_clamp (by omega)]
      refine M_row_l (by omega) (gR z.1) ((gR z.1).length - 1) hr hl hk (by omega) (fun b hb => ⟨?_, rfl, h, fM.rf⟩)
      rw [hb]
      rfl
    · have h2 := bI_z.mp h2
      rw [if_neg h2]
      refine pm_go 9999 (by exact okX11_row) rfl ?_; (try dsimp only [pm_st1, pm_st2, pm_cat2, pm_la, Option.toList, List.cons_append, List.nil_append])
      refine pm_ine (by exact okX11_row) rfl (fun h3 => ?_) (fun h3 => ?_)
      · refine pm_go 9999 (by exact okX11_row) rfl ?_; (try dsimp only [pm_st1, pm_st2, pm_cat2, pm_la, Option.toList, List.cons_append, List.nil_append])
        refine pm_ri (by exact okX11_row) rfl rfl rfl (Nat.le_refl _) (Nat.le_refl _) (⟨rfl, rfl, h, fM.rf⟩)
      · exact absurd h3 h1
set_option maxRecDepth 100000 in
set_option maxHeartbeats 1000000 in
theorem M_set {z : mS} (w v : Int32) (h : MA z mu) (hd : 1 ≤ d) : pm_T cx mX11_set d 0 0 [.ref 19, .int w, .int v] (sh_ i0 i1 ex) mu nu (mQ (.int (sp_set z w v).1) (sp_set z w v).2 i0 i1 ex mu) := by
  obtain ⟨⟨a1, a2, a3, a4, a5, a6, a7, a8, a9, b1, b2, b3, b4, b5⟩, c1, c2⟩ := id h
  have key0 : sp_set z w v = (-2, z) → pm_G cx (mX11_set, d, 0, 0, (sh_ i0 i1 ex).length, mQ (.int (sp_set z w v).1) (sp_set z w v).2 i0 i1 ex mu) 0 0 48 [some (.ref 19), some (.int w), some (.int v), none, none] [.int 0] (sh_ i0 i1 ex) mu nu := by
    intro hs
    rw [hs]
    refine pm_go 9999 (by exact okX11_set) rfl ?_; (try dsimp only [pm_st1, pm_st2, pm_cat2, pm_la, Option.toList, List.cons_append, List.nil_append])
    refine pm_zne (by exact okX11_set) rfl (fun h1 => ?_) (fun h1 => ?_)
    · exact absurd rfl h1
    · refine pm_go 9999 (by exact okX11_set) rfl ?_; (try dsimp only [pm_st1, pm_st2, pm_cat2, pm_la, Option.toList, List.cons_append, List.nil_append])
      refine pm_ri (by exact okX11_set) rfl rfl rfl (Nat.le_refl _) (Nat.le_refl _) (⟨rfl, rfl, h, fM.rf⟩)
  refine pm_enterN 2 (by exact okX11_set) rfl ?_; dsimp only [pm_la, pm_cat2, List.replicate, List.cons_append, List.nil_append, List.append_nil]
  refine pm_go 9999 (by exact okX11_set) rfl ?_; (try dsimp only [pm_st1, pm_st2, pm_cat2, pm_la, Option.toList, List.cons_append, List.nil_append])
  refine pm_zne (by exact okX11_set) rfl (fun h1 => ?_) (fun h1 => ?_)
  · refine pm_go 9999 (by exact okX11_set) rfl ?_; (try dsimp only [pm_st1, pm_st2, pm_cat2, pm_la, Option.toList, List.cons_append, List.nil_append])
    refine pm_ine (by exact okX11_set) rfl (fun h2 => ?_) (fun h2 => ?_)
    · refine pm_go 9999 (by exact okX11_set) rfl ?_; (try dsimp only [pm_st1, pm_st2, pm_cat2, pm_la, Option.toList, List.cons_append, List.nil_append])
      refine pm_ine (by exact okX11_set) rfl (fun h3 => ?_) (fun h3 => ?_)
      · refine pm_go 48 (by exact okX11_set) rfl ?_; (try dsimp only [pm_st1, pm_st2, pm_cat2, pm_la, Option.toList, List.cons_append, List.nil_append])
        exact key0 (by unfold sp_set; rw [if_neg (fun q => h1 q.1), if_neg (fun q => h2 q.1), if_neg (fun q => h3 q.1)])
      · refine pm_go 9999 (by exact okX11_set) rfl ?_; (try dsimp only [pm_st1, pm_st2, pm_cat2, pm_la, Option.toList, List.cons_append, List.nil_append])
        refine pm_cs (by exact okX11_set) (by exact okX11_in) rfl (by exact arX11_in) (t_in (d := 0) v 0 10) rfl (by dsimp only; omega) rfl (Nat.le_of_ble_eq_true rfl) ⟨Nat.zero_le _, Nat.zero_le _⟩ ?_
        rintro _ _ _ _ ⟨rfl, rfl, rfl, rfl⟩ -
        refine pm_go 48 (by exact okX11_set) rfl ?_; (try dsimp only [pm_st1, pm_st2, pm_cat2, pm_la, Option.toList, List.cons_append, List.nil_append])
        refine pm_zeq (by exact okX11_set) rfl (fun h4 => ?_) (fun h4 => ?_)
        · have h4 := bI_z.mp h4
          refine pm_go 48 (by exact okX11_set) rfl ?_; (try dsimp only [pm_st1, pm_st2, pm_cat2, pm_la, Option.toList, List.cons_append, List.nil_append])
          exact key0 (by unfold sp_set; rw [if_neg (fun q => h1 q.1), if_neg (fun q => h2 q.1), if_neg (fun q => h4 q.2)])
        · have h4 := bI_n.mp h4
          obtain ⟨k, -, hk, rfl⟩ := rng_of (a := 0) (b := 10) (by omega) (by omega) h4
          rw [show sp_set z w (nI k) = (nI (gW z.1), (((gB z.1, gL z.1, gG z.1, k), z.1.2), z.2)) by unfold sp_set; rw [if_neg (fun q => h1 q.1), if_neg (fun q => h2 q.1), if_pos ⟨h3, h4⟩, nI_clamp (by omega)]]
          refine pm_go 9999 (by exact okX11_set) rfl ?_; (try dsimp only [pm_st1, pm_st2, pm_cat2, pm_la, Option.toList, List.cons_append, List.nil_append])
          refine pm_zne (by exact okX11_set) rfl (fun h5 => ?_) (fun h5 => ?_)
          · refine pm_go 9999 (by exact okX11_set) rfl ?_; (try dsimp only [pm_st1, pm_st2, pm_cat2, pm_la, Option.toList, List.cons_append, List.nil_append])
            refine pm_zne (by exact okX11_set) rfl (fun h6 => ?_) (fun h6 => ?_)
            · refine pm_go 9999 (by exact okX11_set) rfl ?_; (try dsimp only [pm_st1, pm_st2, pm_cat2, pm_la, Option.toList, List.cons_append, List.nil_append])
              refine pm_ine (by exact okX11_set) rfl (fun h7 => ?_) (fun h7 => ?_)
              · refine pm_go 9999 (by exact okX11_set) rfl ?_; (try dsimp only [pm_st1, pm_st2, pm_cat2, pm_la, Option.toList, List.cons_append, List.nil_append])
                refine pm_zne (by exact okX11_set) rfl (fun h8 => ?_) (fun h8 => ?_)
                · refine pm_go 9999 (by exact okX11_set) rfl ?_; (try dsimp only [pm_st1, pm_st2, pm_cat2, pm_la, Option.toList, List.cons_append, List.nil_append])
                  refine pm_ine (by exact okX11_set) rfl (fun h9 => ?_) (fun h9 => ?_)
                  · refine pm_go 9999 (by exact okX11_set) rfl ?_; (try dsimp only [pm_st1, pm_st2, pm_cat2, pm_la, Option.toList, List.cons_append, List.nil_append])
                    refine pm_ine (by exact okX11_set) rfl (fun h10 => ?_) (fun h10 => ?_)
                    · exact absurd h3 h10
                    · refine pm_go 9999 (by exact okX11_set) rfl ?_; (try dsimp only [pm_st1, pm_st2, pm_cat2, pm_la, Option.toList, List.cons_append, List.nil_append])
                      rw [a4]
                      refine pm_ri (by exact okX11_set) rfl rfl rfl (Nat.le_refl _) (Nat.le_refl _) (⟨rfl, rfl, ⟨⟨a1, a2, a3, rfl, a5, a6, a7, a8, a9, b1, b2, b3, b4, b5⟩, c1.same rfl rfl, c2.same rfl rfl⟩, ((fM.rf.up (by omega)).up (by omega)).up (by omega)⟩)
                  · exact absurd h9 h2
                · exact absurd h8 h1
              · exact absurd h7 h2
            · exact absurd h6 h1
          · exact absurd h5 (by decide)
    · refine pm_go 9999 (by exact okX11_set) rfl ?_; (try dsimp only [pm_st1, pm_st2, pm_cat2, pm_la, Option.toList, List.cons_append, List.nil_append])
      refine pm_cs (by exact okX11_set) (by exact okX11_in) rfl (by exact arX11_in) (t_in (d := 0) v 1 6) rfl (by dsimp only; omega) rfl (Nat.le_of_ble_eq_true rfl) ⟨Nat.zero_le _, Nat.zero_le _⟩ ?_
      rintro _ _ _ _ ⟨rfl, rfl, rfl, rfl⟩ -
      refine pm_go 48 (by exact okX11_set) rfl ?_; (try dsimp only [pm_st1, pm_st2, pm_cat2, pm_la, Option.toList, List.cons_append, List.nil_append])
      by_cases h4 : 1 ≤ v ∧ v ≤ 6
      · rw [bI_1 h4]
        obtain ⟨k, -, hk, rfl⟩ := rng_of (a := 1) (b := 6) (by omega) (by omega) h4
        rw [show sp_set z w (nI k) = (nI (gG z.1), (((gB z.1, gL z.1, k, gW z.1), z.1.2), z.2)) by unfold sp_set; rw [if_neg (fun q => h1 q.1), if_pos ⟨h2, h4⟩, nI_clamp (by omega)]]
        subst h2
        refine pm_go 9999 (by exact okX11_set) rfl ?_; (try dsimp only [pm_st1, pm_st2, pm_cat2, pm_la, Option.toList, List.cons_append, List.nil_append])
        refine pm_zne (by exact okX11_set) rfl (fun h5 => ?_) (fun h5 => ?_)
        · refine pm_go 9999 (by exact okX11_set) rfl ?_; (try dsimp only [pm_st1, pm_st2, pm_cat2, pm_la, Option.toList, List.cons_append, List.nil_append])
          refine pm_zne (by exact okX11_set) rfl (fun h6 => ?_) (fun h6 => ?_)
          · refine pm_go 9999 (by exact okX11_set) rfl ?_; (try dsimp only [pm_st1, pm_st2, pm_cat2, pm_la, Option.toList, List.cons_append, List.nil_append])
            refine pm_ine (by exact okX11_set) rfl (fun h7 => ?_) (fun h7 => ?_)
            · exact absurd rfl h7
            · refine pm_go 9999 (by exact okX11_set) rfl ?_; (try dsimp only [pm_st1, pm_st2, pm_cat2, pm_la, Option.toList, List.cons_append, List.nil_append])
              refine pm_zne (by exact okX11_set) rfl (fun h8 => ?_) (fun h8 => ?_)
              · refine pm_go 9999 (by exact okX11_set) rfl ?_; (try dsimp only [pm_st1, pm_st2, pm_cat2, pm_la, Option.toList, List.cons_append, List.nil_append])
                refine pm_ine (by exact okX11_set) rfl (fun h9 => ?_) (fun h9 => ?_)
                · exact absurd rfl h9
                · refine pm_go 9999 (by exact okX11_set) rfl ?_; (try dsimp only [pm_st1, pm_st2, pm_cat2, pm_la, Option.toList, List.cons_append, List.nil_append])
                  refine pm_ine (by exact okX11_set) rfl (fun h10 => ?_) (fun h10 => ?_)
                  · refine pm_go 9999 (by exact okX11_set) rfl ?_; (try dsimp only [pm_st1, pm_st2, pm_cat2, pm_la, Option.toList, List.cons_append, List.nil_append])
                    rw [a3]
                    refine pm_ri (by exact okX11_set) rfl rfl rfl (Nat.le_refl _) (Nat.le_refl _) (⟨rfl, rfl, ⟨⟨a1, a2, rfl, a4, a5, a6, a7, a8, a9, b1, b2, b3, b4, b5⟩, c1.same rfl rfl, c2.same rfl rfl⟩, ((fM.rf.up (by omega)).up (by omega)).up (by omega)⟩)
                  · exact absurd h10 (by decide)
              · exact absurd h8 (by decide)
          · exact absurd h6 (by decide)
        · exact absurd h5 (by decide)
      · rw [bI_0 h4]
        exact key0 (by unfold sp_set; rw [if_neg (fun q => h1 q.1), if_neg (fun q => h4 q.2), if_neg]; rintro ⟨q, -⟩; rw [h2] at q; exact absurd q (by decide))
  · refine pm_go 9999 (by exact okX11_set) rfl ?_; (try dsimp only [pm_st1, pm_st2, pm_cat2, pm_la, Option.toList, List.cons_append, List.nil_append])
    refine pm_cs (by exact okX11_set) (by exact okX11_in) rfl (by exact arX11_in) (t_in (d := 0) v 0 2) rfl (by dsimp only; omega) rfl (Nat.le_of_ble_eq_true rfl) ⟨Nat.zero_le _, Nat.zero_le _⟩ ?_
    rintro _ _ _ _ ⟨rfl, rfl, rfl, rfl⟩ -
    refine pm_go 48 (by exact okX11_set) rfl ?_; (try dsimp only [pm_st1, pm_st2, pm_cat2, pm_la, Option.toList, List.cons_append, List.nil_append])
    by_cases h4 : 0 ≤ v ∧ v ≤ 2
    · rw [bI_1 h4]
      obtain ⟨k, -, hk, rfl⟩ := rng_of (a := 0) (b := 2) (by omega) (by omega) h4
      rw [show sp_set z w (nI k) = (nI (gL z.1), (((gB z.1, k, gG z.1, gW z.1), z.1.2), z.2)) by unfold sp_set; rw [if_pos ⟨h1, h4⟩, nI_clamp (by omega)]]
      subst h1
      refine pm_go 9999 (by exact okX11_set) rfl ?_; (try dsimp only [pm_st1, pm_st2, pm_cat2, pm_la, Option.toList, List.cons_append, List.nil_append])
      refine pm_zne (by exact okX11_set) rfl (fun h5 => ?_) (fun h5 => ?_)
      · refine pm_go 9999 (by exact okX11_set) rfl ?_; (try dsimp only [pm_st1, pm_st2, pm_cat2, pm_la, Option.toList, List.cons_append, List.nil_append])
        refine pm_zne (by exact okX11_set) rfl (fun h6 => ?_) (fun h6 => ?_)
        · exact absurd rfl h6
        · refine pm_go 9999 (by exact okX11_set) rfl ?_; (try dsimp only [pm_st1, pm_st2, pm_cat2, pm_la, Option.toList, List.cons_append, List.nil_append])
          refine pm_zne (by exact okX11_set) rfl (fun h8 => ?_) (fun h8 => ?_)
          · exact absurd rfl h8
          · refine pm_go 9999 (by exact okX11_set) rfl ?_; (try dsimp only [pm_st1, pm_st2, pm_cat2, pm_la, Option.toList, List.cons_append, List.nil_append])
            refine pm_ine (by exact okX11_set) rfl (fun h9 => ?_) (fun h9 => ?_)
            · refine pm_go 9999 (by exact okX11_set) rfl ?_; (try dsimp only [pm_st1, pm_st2, pm_cat2, pm_la, Option.toList, List.cons_append, List.nil_append])
              refine pm_ine (by exact okX11_set) rfl (fun h10 => ?_) (fun h10 => ?_)
              · refine pm_go 9999 (by exact okX11_set) rfl ?_; (try dsimp only [pm_st1, pm_st2, pm_cat2, pm_la, Option.toList, List.cons_append, List.nil_append])
                rw [a2]
                refine pm_ri (by exact okX11_set) rfl rfl rfl (Nat.le_refl _) (Nat.le_refl _) (⟨rfl, rfl, ⟨⟨a1, rfl, a3, a4, a5, a6, a7, a8, a9, b1, b2, b3, b4, b5⟩, c1.same rfl rfl, c2.same rfl rfl⟩, ((fM.rf.up (by omega)).up (by omega)).up (by omega)⟩)
              · exact absurd h10 (by decide)
            · exact absurd h9 (by decide)
      · exact absurd h5 (by decide)
    · rw [bI_0 h4]
      exact key0 (by unfold sp_set; rw [if_neg (fun q => h4 q.2), if_neg, if_neg]; rintro ⟨q, -⟩; rw [h1] at q; exact absurd q (by decide); rintro ⟨q, -⟩; rw [h1] at q; exact absurd q (by decide))
/-- how many ? stand among the first k signs -/
def pd_op (pd : List Nat) : Nat := (pd.filter (fun c => c == 63)).length
theorem pd_op_app (pd : List Nat) (c : Nat) : pd_op (pd ++ [c]) = pd_op pd + (if c = 63 then 1 else 0) := by
  unfold pd_op
  rw [List.filter_append, List.length_append]
  by_cases h : c = 63
  · simp [h]
  · simp [h]
theorem pd_op_le (pd : List Nat) : pd_op pd ≤ pd.length := List.length_filter_le _ _
theorem pd_take {pd : List Nat} {k b : Nat} (h : pd[k]? = some b) : pd.take (k + 1) = pd.take k ++ [b] := by
  rw [List.take_add_one, h]
  rfl
set_option maxRecDepth 100000 in
set_option maxHeartbeats 1000000 in
theorem t_opens_l {Q : pm_Po} {pd : List Nat} (hN : mu 19 6 = nI pd.length) (hP : ∀ k b, pd[k]? = some b → mu 22 k = nI b) (hp : dOK pd) : ∀ (j k : Nat), k + j = pd.length → Q (some (.int (nI (pd_op pd)))) (sh_ i0 i1 ex) mu nu → pm_G cx (mX11_opens, d, 0, 0, n0, Q) 0 0 4 [some (.ref 19), some (.int (nI (pd_op (pd.take k)))), some (.int (nI k))] [] (sh_ i0 i1 ex) mu nu := by
  intro j
  have hp1 := hp.1
  induction j with
  | zero =>
    intro k hk hq
    refine pm_go 9999 (by exact okX11_opens) rfl ?_; (try dsimp only [pm_st1, pm_st2, pm_cat2, pm_la, Option.toList, List.cons_append, List.nil_append])
    rw [hN]
    refine pm_ige (by exact okX11_opens) rfl (fun h1 => ?_) (fun h1 => ?_)
    · refine pm_go 9999 (by exact okX11_opens) rfl ?_; (try dsimp only [pm_st1, pm_st2, pm_cat2, pm_la, Option.toList, List.cons_append, List.nil_append])
      rw [List.take_of_length_le (by omega)]
      refine pm_ri (by exact okX11_opens) rfl rfl rfl (Nat.le_refl _) (Nat.le_refl _) (hq)
    · exact absurd (nI_le (by omega) (by omega)) h1
  | succ j ih =>
    intro k hk hq
    have hlt : k < pd.length := by omega
    have hget := List.getElem?_eq_getElem hlt
    have hb := hp.2 _ (List.getElem_mem hlt)
    refine pm_go 9999 (by exact okX11_opens) rfl ?_; (try dsimp only [pm_st1, pm_st2, pm_cat2, pm_la, Option.toList, List.cons_append, List.nil_append])
    rw [hN]
    refine pm_ige (by exact okX11_opens) rfl (fun h1 => ?_) (fun h1 => ?_)
    · exact absurd h1 (nI_ge (by omega) (by omega))
    · refine pm_go 9999 (by exact okX11_opens) rfl ?_; (try dsimp only [pm_st1, pm_st2, pm_cat2, pm_la, Option.toList, List.cons_append, List.nil_append])
      refine pm_ial (by exact okX11_opens) rfl rfl (vp_in_nI (by omega) (by omega)) ?_
      rw [nI_clamp (by omega), hP k _ hget]
      have := ih (k + 1) (by omega) hq
      rw [pd_take hget, pd_op_app] at this
      refine pm_go 9999 (by exact okX11_opens) rfl ?_; (try dsimp only [pm_st1, pm_st2, pm_cat2, pm_la, Option.toList, List.cons_append, List.nil_append])
      refine pm_ine (by exact okX11_opens) rfl (fun h2 => ?_) (fun h2 => ?_)
      · have h3 : ¬ pd[k] = 63 := fun q => h2 (by rw [q]; rfl)
        refine pm_go 4 (by exact okX11_opens) rfl ?_; (try dsimp only [pm_st1, pm_st2, pm_cat2, pm_la, Option.toList, List.cons_append, List.nil_append])
        rw [if_neg h3, Nat.add_zero] at this
        rw [nI_1]
        refine pm_G.cast this ?_ rfl rfl rfl
        rw [show nI (pd_op (pd.take k)) + 0 = nI (pd_op (pd.take k)) from Int32.add_zero _]
      · have h3 : pd[k] = 63 := (nI_eq (b := 63) (by omega) (by omega)).mp h2
        refine pm_go 4 (by exact okX11_opens) rfl ?_; (try dsimp only [pm_st1, pm_st2, pm_cat2, pm_la, Option.toList, List.cons_append, List.nil_append])
        rw [if_pos h3] at this
        rw [nI_1, nI_1]
        exact this
set_option maxRecDepth 100000 in
set_option maxHeartbeats 1000000 in
theorem t_opens {pd : List Nat} (hN : mu 19 6 = nI pd.length) (hP : ∀ k b, pd[k]? = some b → mu 22 k = nI b) (hp : dOK pd) : pm_T cx mX11_opens d 0 0 [.ref 19] (sh_ i0 i1 ex) mu nu (pm_ret (some (.int (nI (pd_op pd)))) (sh_ i0 i1 ex) mu nu) := by
  refine pm_enterN 2 (by exact okX11_opens) rfl ?_; dsimp only [pm_la, pm_cat2, List.replicate, List.cons_append, List.nil_append, List.append_nil]
  refine pm_go 4 (by exact okX11_opens) rfl ?_; (try dsimp only [pm_st1, pm_st2, pm_cat2, pm_la, Option.toList, List.cons_append, List.nil_append])
  exact t_opens_l hN hP hp pd.length 0 (by omega) ⟨rfl, rfl, rfl, rfl⟩
end
end
section
/-! ===== faults ===== -/
/-- THE FAULT of a WEEK: from place k on, op ? so far -/
def pd_wf (B : Nat) : Nat → Nat → List Nat → Option Nat
  | _, _, [] => none
  | k, op, c :: r => if c = 46 ∨ c = 42 then pd_wf B (k + 1) op r else if c = 63 then (if op + 1 ≤ 4 then pd_wf B (k + 1) (op + 1) r else some k) else if 97 ≤ c ∧ c < 97 + B then pd_wf B (k + 1) op r else some k
/-- of an ORDER: us the BEDS used so far, as bits -/
def pd_of (B : Nat) : Nat → Nat → List Nat → Option Nat
  | k, _, [] => if k < B then some k else none
  | k, us, c :: r => if (97 ≤ c ∧ c < 97 + B) ∧ ¬ us.testBit (c - 97) = true then pd_of B (k + 1) (us ||| 2 ^ (c - 97)) r else some k
/-- a sign of a WISH: 0 to 3 a COLOUR, 4 any -/
def pd_co (c : Nat) : Option Nat := if c = 114 then some 0 else if c = 119 then some 1 else if c = 121 then some 2 else if c = 112 then some 3 else if c = 63 then some 4 else none
/-- of a WISH, the signs behind place k -/
def pd_if (B : Nat) : Nat → List Nat → Option Nat
  | k, [] => if k = 0 then some 0 else none
  | k, c :: r => if k = B ∨ pd_co c = none then some k else pd_if B (k + 1) r
theorem drop_get {pd r : List Nat} {k c : Nat} (h : pd.drop k = c :: r) : pd[k]? = some c ∧ pd.drop (k + 1) = r ∧ k < pd.length := by
  have h1 : k < pd.length := by
    rcases Nat.lt_or_ge k pd.length with q | q
    · exact q
    · rw [List.drop_eq_nil_of_le q] at h; cases h
  rw [List.drop_eq_getElem_cons h1] at h
  injection h with h2 h3
  exact ⟨by rw [List.getElem?_eq_getElem h1, h2], h3, h1⟩
theorem drop_nil {pd : List Nat} {k : Nat} (h : pd.drop k = []) (hk : k ≤ pd.length) : k = pd.length := by
  have := List.length_drop (i := k) (l := pd)
  rw [h] at this
  simp at this
  omega
theorem mem_drop {pd r : List Nat} {k c : Nat} (h : pd.drop k = c :: r) : c ∈ pd := List.mem_of_mem_drop (i := k) (by rw [h]; exact List.mem_cons_self)
theorem nI_sub97 {c B : Nat} (hc : 33 ≤ c ∧ c ≤ 126) (hB : B ≤ 6) : isB B (nI c - 97) ↔ (97 ≤ c ∧ c < 97 + B) := by
  rcases Nat.lt_or_ge c 97 with q | q
  · constructor
    · intro h
      exact absurd (pk_sneg (a := c) (b := 97) (by omega) q) (Int32.not_lt.mpr h.1)
    · intro h; omega
  · rw [show (97 : Int32) = nI 97 from rfl, pk_sub q]
    constructor
    · intro h
      have := (nI_ltI (by omega) (by omega)).mp h.2
      omega
    · intro h
      exact isB_in hB (by omega)
section
variable {cx : pm_CX} {d n0 : Nat} {i0 i1 : Option Nat} {ex : List pm_C} {mu : pm_I} {nu : pm_J}
set_option maxRecDepth 100000 in
set_option maxHeartbeats 1000000 in
theorem t_weekFault_l {Q : pm_Po} {pd : List Nat} {B : Nat} (hB : mu 19 0 = nI B) (hB6 : 2 ≤ B ∧ B ≤ 6) (hN : mu 19 6 = nI pd.length) (hP : ∀ k b, pd[k]? = some b → mu 22 k = nI b) (hp : dOK pd) (hd : 2 ≤ d) : ∀ (r : List Nat) (k op : Nat), pd.drop k = r → k ≤ pd.length → op ≤ 4 → Q (some (.int (nO (pd_wf B k op r)))) (sh_ i0 i1 ex) mu nu → pm_G cx (mX11_weekFault, d, 0, 0, n0, Q) 0 0 4 [some (.ref 19), some (.int (nI op)), some (.int (nI k)), none, none] [] (sh_ i0 i1 ex) mu nu := by
  intro r
  have hp1 := hp.1
  induction r with
  | nil =>
    intro k op hr hk ho hq
    have hk := drop_nil hr hk
    refine pm_go 9999 (by exact okX11_weekFault) rfl ?_; (try dsimp only [pm_st1, pm_st2, pm_cat2, pm_la, Option.toList, List.cons_append, List.nil_append])
    rw [hN]
    refine pm_ige (by exact okX11_weekFault) rfl (fun h1 => ?_) (fun h1 => ?_)
    · refine pm_go 9999 (by exact okX11_weekFault) rfl ?_; (try dsimp only [pm_st1, pm_st2, pm_cat2, pm_la, Option.toList, List.cons_append, List.nil_append])
      refine pm_ri (by exact okX11_weekFault) rfl rfl rfl (Nat.le_refl _) (Nat.le_refl _) (hq)
    · exact absurd (nI_le (by omega) (by omega)) h1
  | cons c r ih =>
    intro k op hr hk ho hq
    obtain ⟨g1, g2, g3⟩ := drop_get hr
    have hc := hp.2 c (mem_drop hr)
    refine pm_go 9999 (by exact okX11_weekFault) rfl ?_; (try dsimp only [pm_st1, pm_st2, pm_cat2, pm_la, Option.toList, List.cons_append, List.nil_append])
    rw [hN]
    refine pm_ige (by exact okX11_weekFault) rfl (fun h1 => ?_) (fun h1 => ?_)
    · exact absurd h1 (nI_ge (by omega) (by omega))
    · refine pm_go 9999 (by exact okX11_weekFault) rfl ?_; (try dsimp only [pm_st1, pm_st2, pm_cat2, pm_la, Option.toList, List.cons_append, List.nil_append])
      refine pm_ial (by exact okX11_weekFault) rfl rfl (vp_in_nI (by omega) (by omega)) ?_
      rw [nI_clamp (by omega), hP k _ g1]
      have good : ∀ op', op' ≤ 4 → pd_wf B k op (c :: r) = pd_wf B (k + 1) op' r → pm_G cx (mX11_weekFault, d, 0, 0, n0, Q) 0 0 67 [some (.ref 19), some (.int (nI op')), some (.int (nI k)), some (.int (nI c)), none] [] (sh_ i0 i1 ex) mu nu := by
        intro op' ho' he
        refine pm_go 9999 (by exact okX11_weekFault) rfl ?_; (try dsimp only [pm_st1, pm_st2, pm_cat2, pm_la, Option.toList, List.cons_append, List.nil_append])
        refine pm_zne (by exact okX11_weekFault) rfl (fun h9 => ?_) (fun h9 => ?_)
        · refine pm_go 4 (by exact okX11_weekFault) rfl ?_; (try dsimp only [pm_st1, pm_st2, pm_cat2, pm_la, Option.toList, List.cons_append, List.nil_append])
          rw [nI_1]
          refine pm_G.fg [false, false, false, true, true] ?_; dsimp only [pm_fg]
          exact ih (k + 1) op' g2 (by omega) ho' (by rw [← he]; exact hq)
        · exact absurd h9 (by decide)
      have bad : ∀ op', pd_wf B k op (c :: r) = some k → pm_G cx (mX11_weekFault, d, 0, 0, n0, Q) 0 0 71 [some (.ref 19), some (.int op'), some (.int (nI k)), some (.int (nI c)), none] [] (sh_ i0 i1 ex) mu nu := by
        intro op' he
        refine pm_go 9999 (by exact okX11_weekFault) rfl ?_; (try dsimp only [pm_st1, pm_st2, pm_cat2, pm_la, Option.toList, List.cons_append, List.nil_append])
        refine pm_zne (by exact okX11_weekFault) rfl (fun h9 => ?_) (fun h9 => ?_)
        · exact absurd rfl h9
        · refine pm_go 9999 (by exact okX11_weekFault) rfl ?_; (try dsimp only [pm_st1, pm_st2, pm_cat2, pm_la, Option.toList, List.cons_append, List.nil_append])
          rw [he] at hq
          refine pm_ri (by exact okX11_weekFault) rfl rfl rfl (Nat.le_refl _) (Nat.le_refl _) (hq)
      have bed : ∀ op', (97 ≤ c ∧ c < 97 + B → op' ≤ 4 ∧ pd_wf B k op (c :: r) = pd_wf B (k + 1) op' r) → (¬ (97 ≤ c ∧ c < 97 + B) → pd_wf B k op (c :: r) = some k) → pm_G cx (mX11_weekFault, d, 0, 0, n0, Q) 0 0 56 [some (.ref 19), some (.int (nI op')), some (.int (nI k)), some (.int (nI c)), none] [] (sh_ i0 i1 ex) mu nu := by
        intro op' h7 h8
        refine pm_go 9999 (by exact okX11_weekFault) rfl ?_; (try dsimp only [pm_st1, pm_st2, pm_cat2, pm_la, Option.toList, List.cons_append, List.nil_append])
        refine pm_cv (by exact okX11_weekFault) (by exact okX11_isBed) rfl (by exact arX11_isBed) (t_isBed (d := 1) (nI c - 97) hB (by omega) (by omega)) rfl rfl rfl (by dsimp only; omega) rfl (Nat.le_of_ble_eq_true rfl) ⟨Nat.zero_le _, Nat.zero_le _⟩ ?_
        rintro _ _ _ _ ⟨rfl, rfl, rfl, rfl⟩ -
        refine pm_go 67 (by exact okX11_weekFault) rfl ?_; (try dsimp only [pm_st1, pm_st2, pm_cat2, pm_la, Option.toList, List.cons_append, List.nil_append])
        rw [bI_c (nI_sub97 hc hB6.2)]
        refine pm_zeq (by exact okX11_weekFault) rfl (fun h9 => ?_) (fun h9 => ?_)
        · exact bad _ (h8 (bI_z.mp h9))
        · exact good op' (h7 (bI_n.mp h9)).1 (h7 (bI_n.mp h9)).2
      refine pm_go 9999 (by exact okX11_weekFault) rfl ?_; (try dsimp only [pm_st1, pm_st2, pm_cat2, pm_la, Option.toList, List.cons_append, List.nil_append])
      refine pm_ine (by exact okX11_weekFault) rfl (fun h2 => ?_) (fun h2 => ?_)
      · have h3 : ¬ c = 63 := fun q => h2 (by rw [q]; rfl)
        refine pm_go 9999 (by exact okX11_weekFault) rfl ?_; (try dsimp only [pm_st1, pm_st2, pm_cat2, pm_la, Option.toList, List.cons_append, List.nil_append])
        rw [show nI op + 0 = nI op from Int32.add_zero _]
        refine pm_ieq (by exact okX11_weekFault) rfl (fun h4 => ?_) (fun h4 => ?_)
        · have h5 : c = 46 := (nI_eq (b := 46) (by omega) (by omega)).mp h4
          exact good op ho (by simp only [pd_wf]; rw [if_pos (Or.inl h5)])
        · have h5 : ¬ c = 46 := fun q => h4 (by rw [q]; rfl)
          refine pm_go 9999 (by exact okX11_weekFault) rfl ?_; (try dsimp only [pm_st1, pm_st2, pm_cat2, pm_la, Option.toList, List.cons_append, List.nil_append])
          refine pm_ieq (by exact okX11_weekFault) rfl (fun h6 => ?_) (fun h6 => ?_)
          · have h7 : c = 42 := (nI_eq (b := 42) (by omega) (by omega)).mp h6
            exact good op ho (by simp only [pd_wf]; rw [if_pos (Or.inr h7)])
          · have h7 : ¬ c = 42 := fun q => h6 (by rw [q]; rfl)
            refine pm_go 9999 (by exact okX11_weekFault) rfl ?_; (try dsimp only [pm_st1, pm_st2, pm_cat2, pm_la, Option.toList, List.cons_append, List.nil_append])
            refine pm_ine (by exact okX11_weekFault) rfl (fun h8 => ?_) (fun h8 => ?_)
            · exact bed op (fun q => ⟨ho, by simp only [pd_wf]; rw [if_neg (by omega), if_neg h3, if_pos q]⟩) (fun q => by simp only [pd_wf]; rw [if_neg (by omega), if_neg h3, if_neg q])
            · exact absurd h8 h2
      · have h3 : c = 63 := (nI_eq (b := 63) (by omega) (by omega)).mp h2
        refine pm_go 9999 (by exact okX11_weekFault) rfl ?_; (try dsimp only [pm_st1, pm_st2, pm_cat2, pm_la, Option.toList, List.cons_append, List.nil_append])
        rw [nI_1]
        refine pm_ieq (by exact okX11_weekFault) rfl (fun h4 => ?_) (fun h4 => ?_)
        · exact absurd ((nI_eq (b := 46) (by omega) (by omega)).mp h4) (by omega)
        · refine pm_go 9999 (by exact okX11_weekFault) rfl ?_; (try dsimp only [pm_st1, pm_st2, pm_cat2, pm_la, Option.toList, List.cons_append, List.nil_append])
          refine pm_ieq (by exact okX11_weekFault) rfl (fun h6 => ?_) (fun h6 => ?_)
          · exact absurd ((nI_eq (b := 42) (by omega) (by omega)).mp h6) (by omega)
          · refine pm_go 9999 (by exact okX11_weekFault) rfl ?_; (try dsimp only [pm_st1, pm_st2, pm_cat2, pm_la, Option.toList, List.cons_append, List.nil_append])
            refine pm_ine (by exact okX11_weekFault) rfl (fun h8 => ?_) (fun h8 => ?_)
            · exact absurd h2 h8
            · refine pm_go 9999 (by exact okX11_weekFault) rfl ?_; (try dsimp only [pm_st1, pm_st2, pm_cat2, pm_la, Option.toList, List.cons_append, List.nil_append])
              refine pm_ile (by exact okX11_weekFault) rfl (fun h9 => ?_) (fun h9 => ?_)
              · have h10 : op + 1 ≤ 4 := (nI_leI (b := 4) (by omega) (by omega)).mp h9
                exact good (op + 1) h10 (by simp only [pd_wf]; rw [if_neg (by omega), if_pos h3, if_pos h10])
              · have h10 : ¬ op + 1 ≤ 4 := fun q => h9 (nI_le (b := 4) q (by omega))
                exact bed (op + 1) (fun q => by omega) (fun q => by simp only [pd_wf]; rw [if_neg (by omega), if_pos h3, if_neg h10])
set_option maxRecDepth 100000 in
set_option maxHeartbeats 1000000 in
theorem t_weekFault {pd : List Nat} {B : Nat} (hB : mu 19 0 = nI B) (hB6 : 2 ≤ B ∧ B ≤ 6) (hN : mu 19 6 = nI pd.length) (hP : ∀ k b, pd[k]? = some b → mu 22 k = nI b) (hp : dOK pd) (hd : 2 ≤ d) : pm_T cx mX11_weekFault d 0 0 [.ref 19] (sh_ i0 i1 ex) mu nu (pm_ret (some (.int (nO (pd_wf B 0 0 pd)))) (sh_ i0 i1 ex) mu nu) := by
  refine pm_enterN 4 (by exact okX11_weekFault) rfl ?_; dsimp only [pm_la, pm_cat2, List.replicate, List.cons_append, List.nil_append, List.append_nil]
  refine pm_go 4 (by exact okX11_weekFault) rfl ?_; (try dsimp only [pm_st1, pm_st2, pm_cat2, pm_la, Option.toList, List.cons_append, List.nil_append])
  exact t_weekFault_l hB hB6 hN hP hp hd pd 0 0 rfl (by omega) (by omega) ⟨rfl, rfl, rfl, rfl⟩
theorem tb_set {us b j : Nat} : (us ||| 2 ^ b).testBit j = (us.testBit j || decide (b = j)) := by
  rw [Nat.testBit_or, Nat.testBit_two_pow]
theorem or_lt {us b : Nat} (h : us < 64) (hb : b < 6) : us ||| 2 ^ b < 64 := Nat.or_lt_two_pow (n := 6) h (Nat.pow_lt_pow_right (by omega) hb)
theorem nI_shl1 {b : Nat} (hb : b < 30) : (1 : Int32) <<< (nI b &&& 31) = nI (2 ^ b) := by
  have h2 : 2 ^ b < 2 ^ 30 := Nat.pow_lt_pow_right (by omega) hb
  rw [show (1 : Int32) = nI 1 from rfl, pk_shlN (n := 1) _ b (sl_ b (by omega)) (by omega), Nat.one_mul]
theorem nI_or (a b : Nat) : nI a ||| nI b = nI (a ||| b) := fa_or a b
set_option maxRecDepth 100000 in
set_option maxHeartbeats 1000000 in
theorem t_orderFault_l {Q : pm_Po} {pd : List Nat} {B : Nat} (hB : mu 19 0 = nI B) (hB6 : 2 ≤ B ∧ B ≤ 6) (hN : mu 19 6 = nI pd.length) (hP : ∀ k b, pd[k]? = some b → mu 22 k = nI b) (hp : dOK pd) (hd : 2 ≤ d) : ∀ (r : List Nat) (k us : Nat), pd.drop k = r → k ≤ pd.length → us < 64 → Q (some (.int (nO (pd_of B k us r)))) (sh_ i0 i1 ex) mu nu → pm_G cx (mX11_orderFault, d, 0, 0, n0, Q) 0 0 4 [some (.ref 19), some (.int (nI us)), some (.int (nI k)), none] [] (sh_ i0 i1 ex) mu nu := by
  intro r
  have hp1 := hp.1
  induction r with
  | nil =>
    intro k us hr hk hu hq
    have hk := drop_nil hr hk
    simp only [pd_of] at hq
    refine pm_go 9999 (by exact okX11_orderFault) rfl ?_; (try dsimp only [pm_st1, pm_st2, pm_cat2, pm_la, Option.toList, List.cons_append, List.nil_append])
    rw [hN]
    refine pm_ige (by exact okX11_orderFault) rfl (fun h1 => ?_) (fun h1 => ?_)
    · refine pm_go 9999 (by exact okX11_orderFault) rfl ?_; (try dsimp only [pm_st1, pm_st2, pm_cat2, pm_la, Option.toList, List.cons_append, List.nil_append])
      rw [hN, hB]
      refine pm_ige (by exact okX11_orderFault) rfl (fun h2 => ?_) (fun h2 => ?_)
      · have h3 : ¬ k < B := by
          have := (nI_leI (by omega) (by omega)).mp h2
          omega
        rw [if_neg h3] at hq
        refine pm_go 9999 (by exact okX11_orderFault) rfl ?_; (try dsimp only [pm_st1, pm_st2, pm_cat2, pm_la, Option.toList, List.cons_append, List.nil_append])
        refine pm_ri (by exact okX11_orderFault) rfl rfl rfl (Nat.le_refl _) (Nat.le_refl _) (hq)
      · have h3 : k < B := by
          rcases Nat.lt_or_ge k B with q | q
          · exact q
          · exact absurd (nI_le (by omega) (by omega)) h2
        rw [if_pos h3] at hq
        refine pm_go 9999 (by exact okX11_orderFault) rfl ?_; (try dsimp only [pm_st1, pm_st2, pm_cat2, pm_la, Option.toList, List.cons_append, List.nil_append])
        rw [hN, ← hk]
        refine pm_ri (by exact okX11_orderFault) rfl rfl rfl (Nat.le_refl _) (Nat.le_refl _) (hq)
    · exact absurd (nI_le (by omega) (by omega)) h1
  | cons c r ih =>
    intro k us hr hk hu hq
    obtain ⟨g1, g2, g3⟩ := drop_get hr
    have hc := hp.2 c (mem_drop hr)
    simp only [pd_of] at hq
    refine pm_go 9999 (by exact okX11_orderFault) rfl ?_; (try dsimp only [pm_st1, pm_st2, pm_cat2, pm_la, Option.toList, List.cons_append, List.nil_append])
    rw [hN]
    refine pm_ige (by exact okX11_orderFault) rfl (fun h1 => ?_) (fun h1 => ?_)
    · exact absurd h1 (nI_ge (by omega) (by omega))
    · refine pm_go 9999 (by exact okX11_orderFault) rfl ?_; (try dsimp only [pm_st1, pm_st2, pm_cat2, pm_la, Option.toList, List.cons_append, List.nil_append])
      refine pm_ial (by exact okX11_orderFault) rfl rfl (vp_in_nI (by omega) (by omega)) ?_
      rw [nI_clamp (by omega), hP k _ g1]
      refine pm_go 9999 (by exact okX11_orderFault) rfl ?_; (try dsimp only [pm_st1, pm_st2, pm_cat2, pm_la, Option.toList, List.cons_append, List.nil_append])
      refine pm_cv (by exact okX11_orderFault) (by exact okX11_isBed) rfl (by exact arX11_isBed) (t_isBed (d := 1) (nI c - 97) hB (by omega) (by omega)) rfl rfl rfl (by dsimp only; omega) rfl (Nat.le_of_ble_eq_true rfl) ⟨Nat.zero_le _, Nat.zero_le _⟩ ?_
      rintro _ _ _ _ ⟨rfl, rfl, rfl, rfl⟩ -
      refine pm_go 9999 (by exact okX11_orderFault) rfl ?_; (try dsimp only [pm_st1, pm_st2, pm_cat2, pm_la, Option.toList, List.cons_append, List.nil_append])
      rw [bI_c (nI_sub97 hc hB6.2)]
      refine pm_zeq (by exact okX11_orderFault) rfl (fun h9 => ?_) (fun h9 => ?_)
      · have h9 := bI_z.mp h9
        rw [if_neg (fun q => h9 q.1)] at hq
        refine pm_go 9999 (by exact okX11_orderFault) rfl ?_; (try dsimp only [pm_st1, pm_st2, pm_cat2, pm_la, Option.toList, List.cons_append, List.nil_append])
        refine pm_ri (by exact okX11_orderFault) rfl rfl rfl (Nat.le_refl _) (Nat.le_refl _) (hq)
      · have h9 := bI_n.mp h9
        rw [show (97 : Int32) = nI 97 from rfl, pk_sub h9.1]
        refine pm_go 9999 (by exact okX11_orderFault) rfl ?_; (try dsimp only [pm_st1, pm_st2, pm_cat2, pm_la, Option.toList, List.cons_append, List.nil_append])
        refine pm_cs (by exact okX11_orderFault) (by exact okX11_has) rfl (by exact arX11_has) (t_has (d := 0) (s := us) (k := c - 97) (by omega) (by omega)) rfl (by dsimp only; omega) rfl (Nat.le_of_ble_eq_true rfl) ⟨Nat.zero_le _, Nat.zero_le _⟩ ?_
        rintro _ _ _ _ ⟨rfl, rfl, rfl, rfl⟩ -
        refine pm_go 4 (by exact okX11_orderFault) rfl ?_; (try dsimp only [pm_st1, pm_st2, pm_cat2, pm_la, Option.toList, List.cons_append, List.nil_append])
        refine pm_zeq (by exact okX11_orderFault) rfl (fun h10 => ?_) (fun h10 => ?_)
        · have h10 := bI_z.mp h10
          rw [if_pos ⟨h9, h10⟩] at hq
          refine pm_go 4 (by exact okX11_orderFault) rfl ?_; (try dsimp only [pm_st1, pm_st2, pm_cat2, pm_la, Option.toList, List.cons_append, List.nil_append])
          rw [nI_shl1 (by omega), nI_or, nI_1]
          refine pm_G.fg [false, false, false, true] ?_; dsimp only [pm_fg]
          exact ih (k + 1) _ g2 (by omega) (or_lt hu (by omega)) hq
        · have h10 := bI_n.mp h10
          rw [if_neg (fun q => q.2 h10)] at hq
          refine pm_go 9999 (by exact okX11_orderFault) rfl ?_; (try dsimp only [pm_st1, pm_st2, pm_cat2, pm_la, Option.toList, List.cons_append, List.nil_append])
          refine pm_ri (by exact okX11_orderFault) rfl rfl rfl (Nat.le_refl _) (Nat.le_refl _) (hq)
set_option maxRecDepth 100000 in
set_option maxHeartbeats 1000000 in
theorem t_orderFault {pd : List Nat} {B : Nat} (hB : mu 19 0 = nI B) (hB6 : 2 ≤ B ∧ B ≤ 6) (hN : mu 19 6 = nI pd.length) (hP : ∀ k b, pd[k]? = some b → mu 22 k = nI b) (hp : dOK pd) (hd : 2 ≤ d) : pm_T cx mX11_orderFault d 0 0 [.ref 19] (sh_ i0 i1 ex) mu nu (pm_ret (some (.int (nO (pd_of B 0 0 pd)))) (sh_ i0 i1 ex) mu nu) := by
  refine pm_enterN 3 (by exact okX11_orderFault) rfl ?_; dsimp only [pm_la, pm_cat2, List.replicate, List.cons_append, List.nil_append, List.append_nil]
  refine pm_go 4 (by exact okX11_orderFault) rfl ?_; (try dsimp only [pm_st1, pm_st2, pm_cat2, pm_la, Option.toList, List.cons_append, List.nil_append])
  exact t_orderFault_l hB hB6 hN hP hp hd pd 0 0 rfl (by omega) (by omega) ⟨rfl, rfl, rfl, rfl⟩
theorem mcol_eq {c : Nat} (hc : 33 ≤ c ∧ c ≤ 126) : (if nI c = 114 then (0 : Int32) else if nI c = 119 then 1 else if nI c = 121 then 2 else if nI c = 112 then 3 else if nI c = 63 then 4 else -6) = nO (pd_co c) := by
  have e : ∀ m, m < 127 → (nI c = nI m ↔ c = m) := fun m hm => nI_eq (by omega) (by omega)
  unfold pd_co
  rw [show (114 : Int32) = nI 114 from rfl, show (119 : Int32) = nI 119 from rfl, show (121 : Int32) = nI 121 from rfl, show (112 : Int32) = nI 112 from rfl, show (63 : Int32) = nI 63 from rfl]
  by_cases h1 : c = 114
  · rw [if_pos ((e 114 (by omega)).mpr h1), if_pos h1]; rfl
  · rw [if_neg (fun q => h1 ((e 114 (by omega)).mp q)), if_neg h1]
    by_cases h2 : c = 119
    · rw [if_pos ((e 119 (by omega)).mpr h2), if_pos h2]; rfl
    · rw [if_neg (fun q => h2 ((e 119 (by omega)).mp q)), if_neg h2]
      by_cases h3 : c = 121
      · rw [if_pos ((e 121 (by omega)).mpr h3), if_pos h3]; rfl
      · rw [if_neg (fun q => h3 ((e 121 (by omega)).mp q)), if_neg h3]
        by_cases h4 : c = 112
        · rw [if_pos ((e 112 (by omega)).mpr h4), if_pos h4]; rfl
        · rw [if_neg (fun q => h4 ((e 112 (by omega)).mp q)), if_neg h4]
          by_cases h5 : c = 63
          · rw [if_pos ((e 63 (by omega)).mpr h5), if_pos h5]; rfl
          · rw [if_neg (fun q => h5 ((e 63 (by omega)).mp q)), if_neg h5]; rfl
theorem pd_co_lt {c x : Nat} (h : pd_co c = some x) : x ≤ 4 := by
  unfold pd_co at h
  repeat' split at h
  all_goals first | (cases h; omega) | cases h
set_option maxRecDepth 100000 in
set_option maxHeartbeats 1000000 in
theorem t_wishFault_l {Q : pm_Po} {pd : List Nat} {B : Nat} (hB : mu 19 0 = nI B) (hB6 : 2 ≤ B ∧ B ≤ 6) (hN : mu 19 6 = nI pd.length) (hP : ∀ k b, pd[k]? = some b → mu 22 k = nI b) (hp : dOK pd) (hd : 1 ≤ d) : ∀ (r : List Nat) (k : Nat), pd.drop k = r → k ≤ pd.length → Q (some (.int (nO (pd_if B k r)))) (sh_ i0 i1 ex) mu nu → pm_G cx (mX11_wishFault, d, 0, 0, n0, Q) 0 0 2 [some (.ref 19), some (.int (nI k))] [] (sh_ i0 i1 ex) mu nu := by
  intro r
  have hp1 := hp.1
  induction r with
  | nil =>
    intro k hr hk hq
    have hk := drop_nil hr hk
    simp only [pd_if] at hq
    refine pm_go 9999 (by exact okX11_wishFault) rfl ?_; (try dsimp only [pm_st1, pm_st2, pm_cat2, pm_la, Option.toList, List.cons_append, List.nil_append])
    rw [hN]
    refine pm_ige (by exact okX11_wishFault) rfl (fun h1 => ?_) (fun h1 => ?_)
    · refine pm_go 9999 (by exact okX11_wishFault) rfl ?_; (try dsimp only [pm_st1, pm_st2, pm_cat2, pm_la, Option.toList, List.cons_append, List.nil_append])
      rw [hN]
      refine pm_zne (by exact okX11_wishFault) rfl (fun h2 => ?_) (fun h2 => ?_)
      · rw [if_neg (fun q => h2 (by rw [← hk, q]; rfl))] at hq
        refine pm_go 9999 (by exact okX11_wishFault) rfl ?_; (try dsimp only [pm_st1, pm_st2, pm_cat2, pm_la, Option.toList, List.cons_append, List.nil_append])
        refine pm_ri (by exact okX11_wishFault) rfl rfl rfl (Nat.le_refl _) (Nat.le_refl _) (hq)
      · have h3 : pd.length = 0 := (nI_eq (b := 0) (by omega) (by omega)).mp h2
        rw [if_pos (by omega)] at hq
        refine pm_go 9999 (by exact okX11_wishFault) rfl ?_; (try dsimp only [pm_st1, pm_st2, pm_cat2, pm_la, Option.toList, List.cons_append, List.nil_append])
        refine pm_ri (by exact okX11_wishFault) rfl rfl rfl (Nat.le_refl _) (Nat.le_refl _) (hq)
    · exact absurd (nI_le (by omega) (by omega)) h1
  | cons c r ih =>
    intro k hr hk hq
    obtain ⟨g1, g2, g3⟩ := drop_get hr
    have hc := hp.2 c (mem_drop hr)
    simp only [pd_if] at hq
    refine pm_go 9999 (by exact okX11_wishFault) rfl ?_; (try dsimp only [pm_st1, pm_st2, pm_cat2, pm_la, Option.toList, List.cons_append, List.nil_append])
    rw [hN]
    refine pm_ige (by exact okX11_wishFault) rfl (fun h1 => ?_) (fun h1 => ?_)
    · exact absurd h1 (nI_ge (by omega) (by omega))
    · refine pm_go 9999 (by exact okX11_wishFault) rfl ?_; (try dsimp only [pm_st1, pm_st2, pm_cat2, pm_la, Option.toList, List.cons_append, List.nil_append])
      rw [hB]
      refine pm_ieq (by exact okX11_wishFault) rfl (fun h2 => ?_) (fun h2 => ?_)
      · have h3 : k = B := (nI_eq (by omega) (by omega)).mp h2
        rw [if_pos (Or.inl h3)] at hq
        refine pm_go 9999 (by exact okX11_wishFault) rfl ?_; (try dsimp only [pm_st1, pm_st2, pm_cat2, pm_la, Option.toList, List.cons_append, List.nil_append])
        refine pm_ri (by exact okX11_wishFault) rfl rfl rfl (Nat.le_refl _) (Nat.le_refl _) (hq)
      · have h3 : ¬ k = B := fun q => h2 (by rw [q])
        refine pm_go 9999 (by exact okX11_wishFault) rfl ?_; (try dsimp only [pm_st1, pm_st2, pm_cat2, pm_la, Option.toList, List.cons_append, List.nil_append])
        refine pm_ial (by exact okX11_wishFault) rfl rfl (vp_in_nI (by omega) (by omega)) ?_
        rw [nI_clamp (by omega), hP k _ g1]
        refine pm_cs (by exact okX11_wishFault) (by exact okX11_colourOf) rfl (by exact arX11_colourOf) (t_mcolourOf (d := 0) (nI c)) rfl (by dsimp only; omega) rfl (Nat.le_of_ble_eq_true rfl) ⟨Nat.zero_le _, Nat.zero_le _⟩ ?_
        rintro _ _ _ _ ⟨rfl, rfl, rfl, rfl⟩ -
        refine pm_go 9999 (by exact okX11_wishFault) rfl ?_; (try dsimp only [pm_st1, pm_st2, pm_cat2, pm_la, Option.toList, List.cons_append, List.nil_append])
        rw [mcol_eq hc]
        cases hco : pd_co c with
        | none =>
          rw [if_pos (Or.inr hco)] at hq
          refine pm_zge (by exact okX11_wishFault) rfl (fun h4 => ?_) (fun h4 => ?_)
          · exact absurd h4 (by decide)
          · refine pm_go 9999 (by exact okX11_wishFault) rfl ?_; (try dsimp only [pm_st1, pm_st2, pm_cat2, pm_la, Option.toList, List.cons_append, List.nil_append])
            refine pm_ri (by exact okX11_wishFault) rfl rfl rfl (Nat.le_refl _) (Nat.le_refl _) (hq)
        | some x =>
          have hx := pd_co_lt hco
          rw [if_neg (by rintro (q | q); exact h3 q; rw [hco] at q; cases q)] at hq
          refine pm_zge (by exact okX11_wishFault) rfl (fun h4 => ?_) (fun h4 => ?_)
          · refine pm_go 2 (by exact okX11_wishFault) rfl ?_; (try dsimp only [pm_st1, pm_st2, pm_cat2, pm_la, Option.toList, List.cons_append, List.nil_append])
            rw [nI_1]
            exact ih (k + 1) g2 (by omega) hq
          · exact absurd (nI_pos' (by omega)) h4
set_option maxRecDepth 100000 in
set_option maxHeartbeats 1000000 in
theorem t_wishFault {pd : List Nat} {B : Nat} (hB : mu 19 0 = nI B) (hB6 : 2 ≤ B ∧ B ≤ 6) (hN : mu 19 6 = nI pd.length) (hP : ∀ k b, pd[k]? = some b → mu 22 k = nI b) (hp : dOK pd) (hd : 1 ≤ d) : pm_T cx mX11_wishFault d 0 0 [.ref 19] (sh_ i0 i1 ex) mu nu (pm_ret (some (.int (nO (pd_if B 0 pd)))) (sh_ i0 i1 ex) mu nu) := by
  refine pm_enterN 1 (by exact okX11_wishFault) rfl ?_; dsimp only [pm_la, pm_cat2, List.replicate, List.cons_append, List.nil_append, List.append_nil]
  refine pm_go 2 (by exact okX11_wishFault) rfl ?_; (try dsimp only [pm_st1, pm_st2, pm_cat2, pm_la, Option.toList, List.cons_append, List.nil_append])
  exact t_wishFault_l hB hB6 hN hP hp hd pd 0 rfl (by omega) ⟨rfl, rfl, rfl, rfl⟩
def sp_fault (z : mS) (how : Int32) : Int32 := if how = 0 then nO (pd_wf (gB z.1) 0 0 z.2.1) else if how = 1 then nO (pd_of (gB z.1) 0 0 z.2.1) else if how = 2 then nO (pd_if (gB z.1) 0 z.2.1) else -2
set_option maxRecDepth 100000 in
set_option maxHeartbeats 1000000 in
theorem M_fault {z : mS} (how : Int32) (hz : zOK z) (h : MA z mu) (hd : 3 ≤ d) : pm_T cx mX11_fault d 0 0 [.ref 19, .int how] (sh_ i0 i1 ex) mu nu (mQ (.int (sp_fault z how)) z i0 i1 ex mu) := by
  obtain ⟨⟨a1, a2, a3, a4, a5, a6, a7, a8, a9, b1, b2, b3, b4, b5⟩, c1, c2⟩ := id h
  obtain ⟨⟨hB6, -⟩, hp, -⟩ := hz
  unfold sp_fault
  refine pm_enterN 0 (by exact okX11_fault) rfl ?_; dsimp only [pm_la, pm_cat2, List.replicate, List.cons_append, List.nil_append, List.append_nil]
  refine pm_go 9999 (by exact okX11_fault) rfl ?_; (try dsimp only [pm_st1, pm_st2, pm_cat2, pm_la, Option.toList, List.cons_append, List.nil_append])
  refine pm_zne (by exact okX11_fault) rfl (fun h1 => ?_) (fun h1 => ?_)
  · rw [if_neg h1]
    refine pm_go 9999 (by exact okX11_fault) rfl ?_; (try dsimp only [pm_st1, pm_st2, pm_cat2, pm_la, Option.toList, List.cons_append, List.nil_append])
    refine pm_ine (by exact okX11_fault) rfl (fun h2 => ?_) (fun h2 => ?_)
    · rw [if_neg h2]
      refine pm_go 9999 (by exact okX11_fault) rfl ?_; (try dsimp only [pm_st1, pm_st2, pm_cat2, pm_la, Option.toList, List.cons_append, List.nil_append])
      refine pm_ine (by exact okX11_fault) rfl (fun h3 => ?_) (fun h3 => ?_)
      · rw [if_neg h3]
        refine pm_go 9999 (by exact okX11_fault) rfl ?_; (try dsimp only [pm_st1, pm_st2, pm_cat2, pm_la, Option.toList, List.cons_append, List.nil_append])
        refine pm_ri (by exact okX11_fault) rfl rfl rfl (Nat.le_refl _) (Nat.le_refl _) (⟨rfl, rfl, h, fM.rf⟩)
      · rw [if_pos h3]
        refine pm_go 9999 (by exact okX11_fault) rfl ?_; (try dsimp only [pm_st1, pm_st2, pm_cat2, pm_la, Option.toList, List.cons_append, List.nil_append])
        refine pm_cv (by exact okX11_fault) (by exact okX11_wishFault) rfl (by exact arX11_wishFault) (t_wishFault (d := 2) a1 hB6 a5 b3 hp (by omega)) rfl rfl rfl (by dsimp only; omega) rfl (Nat.le_of_ble_eq_true rfl) ⟨Nat.zero_le _, Nat.zero_le _⟩ ?_
        rintro _ _ _ _ ⟨rfl, rfl, rfl, rfl⟩ -
        refine pm_go 9999 (by exact okX11_fault) rfl ?_; (try dsimp only [pm_st1, pm_st2, pm_cat2, pm_la, Option.toList, List.cons_append, List.nil_append])
        refine pm_ri (by exact okX11_fault) rfl rfl rfl (Nat.le_refl _) (Nat.le_refl _) (⟨rfl, rfl, h, fM.rf⟩)
    · rw [if_pos h2]
      refine pm_go 9999 (by exact okX11_fault) rfl ?_; (try dsimp only [pm_st1, pm_st2, pm_cat2, pm_la, Option.toList, List.cons_append, List.nil_append])
      refine pm_cv (by exact okX11_fault) (by exact okX11_orderFault) rfl (by exact arX11_orderFault) (t_orderFault (d := 2) a1 hB6 a5 b3 hp (by omega)) rfl rfl rfl (by dsimp only; omega) rfl (Nat.le_of_ble_eq_true rfl) ⟨Nat.zero_le _, Nat.zero_le _⟩ ?_
      rintro _ _ _ _ ⟨rfl, rfl, rfl, rfl⟩ -
      refine pm_go 9999 (by exact okX11_fault) rfl ?_; (try dsimp only [pm_st1, pm_st2, pm_cat2, pm_la, Option.toList, List.cons_append, List.nil_append])
      refine pm_ri (by exact okX11_fault) rfl rfl rfl (Nat.le_refl _) (Nat.le_refl _) (⟨rfl, rfl, h, fM.rf⟩)
  · rw [if_pos h1]
    refine pm_go 9999 (by exact okX11_fault) rfl ?_; (try dsimp only [pm_st1, pm_st2, pm_cat2, pm_la, Option.toList, List.cons_append, List.nil_append])
    refine pm_cv (by exact okX11_fault) (by exact okX11_weekFault) rfl (by exact arX11_weekFault) (t_weekFault (d := 2) a1 hB6 a5 b3 hp (by omega)) rfl rfl rfl (by dsimp only; omega) rfl (Nat.le_of_ble_eq_true rfl) ⟨Nat.zero_le _, Nat.zero_le _⟩ ?_
    rintro _ _ _ _ ⟨rfl, rfl, rfl, rfl⟩ -
    refine pm_go 9999 (by exact okX11_fault) rfl ?_; (try dsimp only [pm_st1, pm_st2, pm_cat2, pm_la, Option.toList, List.cons_append, List.nil_append])
    refine pm_ri (by exact okX11_fault) rfl rfl rfl (Nat.le_refl _) (Nat.le_refl _) (⟨rfl, rfl, h, fM.rf⟩)
end
end
section
/-- whether b is met from a on, in k steps -/
def gd_re (pa : Nat → Option Nat) (b : Nat) : Nat → Nat → Bool
  | 0, _ => false
  | k + 1, a => match pa a with
    | none => false
    | some o => if o = b then true else gd_re pa b k o
def sp_past (z : mS) (b o : Int32) : Int32 × mS :=
  if ¬ isB (gB z.1) b ∨ (o ≠ -1 ∧ ¬ isB (gB z.1) o) ∨ b = o then (-1, z)
  else if o ≠ -1 ∧ gd_re (gP z.1) b.toNatClampNeg 6 o.toNatClampNeg = true then (-3, z)
  else (nO (gP z.1 b.toNatClampNeg), ((z.1.1, gC z.1, va_up (gP z.1) b.toNatClampNeg (if o = -1 then none else some o.toNatClampNeg), z.1.2.2.2), z.2))
theorem nI_ne_m {n : Nat} (h : n < 2 ^ 31) : nI n ≠ -1 ∧ nI n ≠ -6 := by
  constructor
  · intro q; have := nI_pos (n := n) h; rw [q] at this; exact this (by decide)
  · intro q; have := nI_pos (n := n) h; rw [q] at this; exact this (by decide)
section
variable {cx : pm_CX} {d n0 : Nat} {i0 i1 : Option Nat} {ex : List pm_C} {mu : pm_I} {nu : pm_J}
set_option maxRecDepth 100000 in
set_option maxHeartbeats 1000000 in
theorem M_told {z : mS} (w : Int32) (hz : zOK z) (h : MA z mu) (hd : 2 ≤ d) : pm_T cx mX11_told d 0 0 [.ref 19, .int w] (sh_ i0 i1 ex) mu nu (mQ (.int (sp_told z w)) z i0 i1 ex mu) := by
  obtain ⟨⟨a1, a2, a3, a4, a5, a6, a7, a8, a9, b1, b2, b3, b4, b5⟩, c1, c2⟩ := id h
  obtain ⟨⟨hB6, -⟩, -⟩ := hz
  have rest : ¬ isB (gB z.1) (w - 10) → ¬ isB (gB z.1) (w - 20) → ∀ L2, pm_G cx (mX11_told, d, 0, 0, (sh_ i0 i1 ex).length, mQ (.int (sp_told z w)) z i0 i1 ex mu) 0 0 46 [some (.ref 19), some (.int w), L2] [] (sh_ i0 i1 ex) mu nu := by
    intro g1 g2 L2
    unfold sp_told
    refine pm_go 9999 (by exact okX11_told) rfl ?_; (try dsimp only [pm_st1, pm_st2, pm_cat2, pm_la, Option.toList, List.cons_append, List.nil_append])
    by_cases e0 : w = 0
    · subst e0
      refine pm_tsIn (tgt := 80) (by exact okX11_told) rfl (by decide) (by decide) rfl (by decide) ?_
      refine pm_go 9999 (by exact okX11_told) rfl ?_; (try dsimp only [pm_st1, pm_st2, pm_cat2, pm_la, Option.toList, List.cons_append, List.nil_append])
      rw [a5]
      refine pm_ri (by exact okX11_told) rfl rfl rfl (Nat.le_refl _) (Nat.le_refl _) (⟨rfl, rfl, h, fM.rf⟩)
    · rw [if_neg e0]
      by_cases e1 : w = 1
      · subst e1
        refine pm_tsIn (tgt := 85) (by exact okX11_told) rfl (by decide) (by decide) rfl (by decide) ?_
        refine pm_go 9999 (by exact okX11_told) rfl ?_; (try dsimp only [pm_st1, pm_st2, pm_cat2, pm_la, Option.toList, List.cons_append, List.nil_append])
        rw [a1]
        refine pm_ri (by exact okX11_told) rfl rfl rfl (Nat.le_refl _) (Nat.le_refl _) (⟨rfl, rfl, h, fM.rf⟩)
      · rw [if_neg e1]
        by_cases e2 : w = 2
        · subst e2
          refine pm_tsIn (tgt := 90) (by exact okX11_told) rfl (by decide) (by decide) rfl (by decide) ?_
          refine pm_go 9999 (by exact okX11_told) rfl ?_; (try dsimp only [pm_st1, pm_st2, pm_cat2, pm_la, Option.toList, List.cons_append, List.nil_append])
          rw [a2]
          refine pm_ri (by exact okX11_told) rfl rfl rfl (Nat.le_refl _) (Nat.le_refl _) (⟨rfl, rfl, h, fM.rf⟩)
        · rw [if_neg e2]
          by_cases e3 : w = 3
          · subst e3
            refine pm_tsIn (tgt := 95) (by exact okX11_told) rfl (by decide) (by decide) rfl (by decide) ?_
            refine pm_go 9999 (by exact okX11_told) rfl ?_; (try dsimp only [pm_st1, pm_st2, pm_cat2, pm_la, Option.toList, List.cons_append, List.nil_append])
            rw [a3]
            refine pm_ri (by exact okX11_told) rfl rfl rfl (Nat.le_refl _) (Nat.le_refl _) (⟨rfl, rfl, h, fM.rf⟩)
          · rw [if_neg e3]
            by_cases e4 : w = 4
            · subst e4
              refine pm_tsIn (tgt := 100) (by exact okX11_told) rfl (by decide) (by decide) rfl (by decide) ?_
              refine pm_go 9999 (by exact okX11_told) rfl ?_; (try dsimp only [pm_st1, pm_st2, pm_cat2, pm_la, Option.toList, List.cons_append, List.nil_append])
              rw [a4]
              refine pm_ri (by exact okX11_told) rfl rfl rfl (Nat.le_refl _) (Nat.le_refl _) (⟨rfl, rfl, h, fM.rf⟩)
            · rw [if_neg e4]
              have n0 : ¬ w.toInt = 0 := fun q => e0 ((fa_eq w 0).mpr q)
              have n1 : ¬ w.toInt = 1 := fun q => e1 ((fa_eq w 1).mpr q)
              have n2 : ¬ w.toInt = 2 := fun q => e2 ((fa_eq w 2).mpr q)
              have n3 : ¬ w.toInt = 3 := fun q => e3 ((fa_eq w 3).mpr q)
              have n4 : ¬ w.toInt = 4 := fun q => e4 ((fa_eq w 4).mpr q)
              refine pm_tsOut (tgt := 105) (by exact okX11_told) rfl (by omega) (by decide) ?_
              refine pm_go 9999 (by exact okX11_told) rfl ?_; (try dsimp only [pm_st1, pm_st2, pm_cat2, pm_la, Option.toList, List.cons_append, List.nil_append])
              refine pm_ine (by exact okX11_told) rfl (fun e5 => ?_) (fun e5 => ?_)
              · rw [if_neg e5, if_neg g1, if_neg g2]
                refine pm_go 9999 (by exact okX11_told) rfl ?_; (try dsimp only [pm_st1, pm_st2, pm_cat2, pm_la, Option.toList, List.cons_append, List.nil_append])
                refine pm_ri (by exact okX11_told) rfl rfl rfl (Nat.le_refl _) (Nat.le_refl _) (⟨rfl, rfl, h, fM.rf⟩)
              · rw [if_pos e5]
                refine pm_go 9999 (by exact okX11_told) rfl ?_; (try dsimp only [pm_st1, pm_st2, pm_cat2, pm_la, Option.toList, List.cons_append, List.nil_append])
                rw [a9]
                refine pm_ri (by exact okX11_told) rfl rfl rfl (Nat.le_refl _) (Nat.le_refl _) (⟨rfl, rfl, h, fM.rf⟩)
  refine pm_enterN 1 (by exact okX11_told) rfl ?_; dsimp only [pm_la, pm_cat2, List.replicate, List.cons_append, List.nil_append, List.append_nil]
  refine pm_go 9999 (by exact okX11_told) rfl ?_; (try dsimp only [pm_st1, pm_st2, pm_cat2, pm_la, Option.toList, List.cons_append, List.nil_append])
  refine pm_rem (by exact okX11_told) rfl (by decide) ?_
  refine pm_go 9999 (by exact okX11_told) rfl ?_; (try dsimp only [pm_st1, pm_st2, pm_cat2, pm_la, Option.toList, List.cons_append, List.nil_append])
  refine pm_cs (by exact okX11_told) (by exact okX11_in) rfl (by exact arX11_in) (t_in (d := 0) w 10 25) rfl (by dsimp only; omega) rfl (Nat.le_of_ble_eq_true rfl) ⟨Nat.zero_le _, Nat.zero_le _⟩ ?_
  rintro _ _ _ _ ⟨rfl, rfl, rfl, rfl⟩ -
  refine pm_go 9999 (by exact okX11_told) rfl ?_; (try dsimp only [pm_st1, pm_st2, pm_cat2, pm_la, Option.toList, List.cons_append, List.nil_append])
  have e10 : ∀ n, n < 100 → (isB (gB z.1) (nI n - 10) ↔ (10 ≤ n ∧ n < 10 + gB z.1)) := by
    intro n hn
    rcases Nat.lt_or_ge n 10 with q | q
    · constructor
      · intro h; exact absurd (pk_sneg (a := n) (b := 10) (by omega) q) (Int32.not_lt.mpr h.1)
      · intro h; omega
    · rw [show (10 : Int32) = nI 10 from rfl, pk_sub q]
      constructor
      · intro h; have := (nI_ltI (by omega) (by omega)).mp h.2; omega
      · intro h; exact isB_in hB6.2 (by omega)
  have e20 : ∀ n, n < 100 → (isB (gB z.1) (nI n - 20) ↔ (20 ≤ n ∧ n < 20 + gB z.1)) := by
    intro n hn
    rcases Nat.lt_or_ge n 20 with q | q
    · constructor
      · intro h; exact absurd (pk_sneg (a := n) (b := 20) (by omega) q) (Int32.not_lt.mpr h.1)
      · intro h; omega
    · rw [show (20 : Int32) = nI 20 from rfl, pk_sub q]
      constructor
      · intro h; have := (nI_ltI (by omega) (by omega)).mp h.2; omega
      · intro h; exact isB_in hB6.2 (by omega)
  refine pm_zeq (by exact okX11_told) rfl (fun h1 => ?_) (fun h1 => ?_)
  · have h1 := bI_z.mp h1
    refine rest ?_ ?_ _
    · rintro ⟨q1, q2⟩
      apply h1
      obtain ⟨k, hk, hw⟩ := isB_of hB6.2 ⟨q1, q2⟩
      have : w = nI (k + 10) := by rw [← nI_add, ← hw, show nI 10 = (10 : Int32) from rfl]; exact (Int32.sub_add_cancel w 10).symm
      rw [this]
      exact ⟨nI_le (a := 10) (by omega) (by omega), nI_le (b := 25) (by omega) (by omega)⟩
    · rintro ⟨q1, q2⟩
      apply h1
      obtain ⟨k, hk, hw⟩ := isB_of hB6.2 ⟨q1, q2⟩
      have : w = nI (k + 20) := by rw [← nI_add, ← hw, show nI 20 = (20 : Int32) from rfl]; exact (Int32.sub_add_cancel w 20).symm
      rw [this]
      exact ⟨nI_le (a := 10) (by omega) (by omega), nI_le (b := 25) (by omega) (by omega)⟩
  · have h1 := bI_n.mp h1
    obtain ⟨n, hn1, hn2, rfl⟩ := rng_of (a := 10) (b := 25) (by omega) (by omega) h1
    rw [show (10 : Int32) = nI 10 from rfl, pk_rem (by omega) (by omega) (by omega)]
    refine pm_go 9999 (by exact okX11_told) rfl ?_; (try dsimp only [pm_st1, pm_st2, pm_cat2, pm_la, Option.toList, List.cons_append, List.nil_append])
    refine pm_cv (by exact okX11_told) (by exact okX11_isBed) rfl (by exact arX11_isBed) (t_isBed (d := 1) (nI (n % 10)) a1 (by omega) (by omega)) rfl rfl rfl (by dsimp only; omega) rfl (Nat.le_of_ble_eq_true rfl) ⟨Nat.zero_le _, Nat.zero_le _⟩ ?_
    rintro _ _ _ _ ⟨rfl, rfl, rfl, rfl⟩ -
    refine pm_go 9999 (by exact okX11_told) rfl ?_; (try dsimp only [pm_st1, pm_st2, pm_cat2, pm_la, Option.toList, List.cons_append, List.nil_append])
    have en : isB (gB z.1) (nI (n % 10)) ↔ n % 10 < gB z.1 := by
      constructor
      · intro h; exact (nI_ltI (by omega) (by omega)).mp h.2
      · intro h; exact isB_in hB6.2 h
    refine pm_zeq (by exact okX11_told) rfl (fun h2 => ?_) (fun h2 => ?_)
    · have h2 := bI_z.mp h2
      rw [en] at h2
      exact rest (by rw [e10 n (by omega)]; omega) (by rw [e20 n (by omega)]; omega) _
    · have h2 := bI_n.mp h2
      rw [en] at h2
      unfold sp_told
      rw [if_neg (show ¬ nI n = 0 from fun q => absurd ((nI_eq (b := 0) (by omega) (by omega)).mp q) (by omega)), if_neg (show ¬ nI n = 1 from fun q => absurd ((nI_eq (b := 1) (by omega) (by omega)).mp q) (by omega)), if_neg (show ¬ nI n = 2 from fun q => absurd ((nI_eq (b := 2) (by omega) (by omega)).mp q) (by omega)), if_neg (show ¬ nI n = 3 from fun q => absurd ((nI_eq (b := 3) (by omega) (by omega)).mp q) (by omega)), if_neg (show ¬ nI n = 4 from fun q => absurd ((nI_eq (b := 4) (by omega) (by omega)).mp q) (by omega)), if_neg (show ¬ nI n = 5 from fun q => absurd ((nI_eq (b := 5) (by omega) (by omega)).mp q) (by omega))]
      refine pm_go 9999 (by exact okX11_told) rfl ?_; (try dsimp only [pm_st1, pm_st2, pm_cat2, pm_la, Option.toList, List.cons_append, List.nil_append])
      refine pm_ige (by exact okX11_told) rfl (fun h3 => ?_) (fun h3 => ?_)
      · have h4 : 20 ≤ n := (nI_leI (a := 20) (by omega) (by omega)).mp h3
        rw [if_neg (by rw [e10 n (by omega)]; omega), if_pos ((e20 n (by omega)).mpr (by omega)), show (20 : Int32) = nI 20 from rfl, pk_sub h4, nI_clamp (by omega)]
        refine pm_go 9999 (by exact okX11_told) rfl ?_; (try dsimp only [pm_st1, pm_st2, pm_cat2, pm_la, Option.toList, List.cons_append, List.nil_append])
        refine pm_ial (by exact okX11_told) rfl rfl (vp_in_nI (by omega) (by omega)) ?_
        refine pm_go 9999 (by exact okX11_told) rfl ?_; (try dsimp only [pm_st1, pm_st2, pm_cat2, pm_la, Option.toList, List.cons_append, List.nil_append])
        rw [nI_clamp (by omega), show n % 10 = n - 20 by omega, b2 _ (by omega)]
        refine pm_ri (by exact okX11_told) rfl rfl rfl (Nat.le_refl _) (Nat.le_refl _) (⟨rfl, rfl, h, fM.rf⟩)
      · have h4 : n < 20 := by
          rcases Nat.lt_or_ge n 20 with q | q
          · exact q
          · exact absurd (nI_le (a := 20) q (by omega)) h3
        rw [if_pos ((e10 n (by omega)).mpr (by omega)), show (10 : Int32) = nI 10 from rfl, pk_sub hn1, nI_clamp (by omega)]
        refine pm_go 9999 (by exact okX11_told) rfl ?_; (try dsimp only [pm_st1, pm_st2, pm_cat2, pm_la, Option.toList, List.cons_append, List.nil_append])
        refine pm_ial (by exact okX11_told) rfl rfl (vp_in_nI (by omega) (by omega)) ?_
        refine pm_go 9999 (by exact okX11_told) rfl ?_; (try dsimp only [pm_st1, pm_st2, pm_cat2, pm_la, Option.toList, List.cons_append, List.nil_append])
        rw [nI_clamp (by omega), show n % 10 = n - 10 by omega, b1 _ (by omega)]
        refine pm_ri (by exact okX11_told) rfl rfl rfl (Nat.le_refl _) (Nat.le_refl _) (⟨rfl, rfl, h, fM.rf⟩)
set_option maxRecDepth 100000 in
set_option maxHeartbeats 1000000 in
theorem M_past_l {Q : pm_Po} {pa : Nat → Option Nat} {b : Nat} {x2 : Int32} (hb : b < 6) (hP : ∀ k, k < 6 → mu 21 k = nO (pa k)) (hpa : ∀ k o, k < 6 → pa k = some o → o < 6) : ∀ (k a : Nat), a < 6 → gd_dd pa k a → (gd_re pa b k a = true → Q (some (.int (-3))) (sh_ i0 i1 ex) mu nu) → (gd_re pa b k a = false → pm_G cx (mX11_past, d, 0, 0, n0, Q) 0 0 49 [some (.ref 19), some (.int (nI b)), some (.int x2), none, none] [] (sh_ i0 i1 ex) mu nu) → pm_G cx (mX11_past, d, 0, 0, n0, Q) 0 0 30 [some (.ref 19), some (.int (nI b)), some (.int x2), some (.int (nI a)), none] [] (sh_ i0 i1 ex) mu nu := by
  intro k
  induction k with
  | zero => intro a ha hdd; exact absurd hdd (fun q => q)
  | succ k ih =>
    intro a ha hdd h1 h2
    simp only [gd_re] at h1 h2
    refine pm_go 9999 (by exact okX11_past) rfl ?_; (try dsimp only [pm_st1, pm_st2, pm_cat2, pm_la, Option.toList, List.cons_append, List.nil_append])
    refine pm_zlt (by exact okX11_past) rfl (fun h3 => ?_) (fun h3 => ?_)
    · exact absurd h3 (nI_pos (by omega))
    · refine pm_go 9999 (by exact okX11_past) rfl ?_; (try dsimp only [pm_st1, pm_st2, pm_cat2, pm_la, Option.toList, List.cons_append, List.nil_append])
      refine pm_ial (by exact okX11_past) rfl rfl (vp_in_nI (by omega) (by omega)) ?_
      rw [nI_clamp (by omega), hP a ha]
      cases hpb : pa a with
      | none =>
        rw [hpb] at h1 h2
        refine pm_go 30 (by exact okX11_past) rfl ?_; (try dsimp only [pm_st1, pm_st2, pm_cat2, pm_la, Option.toList, List.cons_append, List.nil_append])
        refine pm_ine (by exact okX11_past) rfl (fun h4 => ?_) (fun h4 => ?_)
        · refine pm_go 9999 (by exact okX11_past) rfl ?_; (try dsimp only [pm_st1, pm_st2, pm_cat2, pm_la, Option.toList, List.cons_append, List.nil_append])
          refine pm_zlt (by exact okX11_past) rfl (fun h5 => ?_) (fun h5 => ?_)
          · refine pm_G.fg [false, false, false, true, false] ?_; dsimp only [pm_fg]
            exact h2 rfl
          · exact absurd (by decide) h5
        · exact absurd h4.symm (nI_ne_m (by omega)).2
      | some o =>
        rw [hpb] at h1 h2
        have ho := hpa a o ha hpb
        refine pm_go 30 (by exact okX11_past) rfl ?_; (try dsimp only [pm_st1, pm_st2, pm_cat2, pm_la, Option.toList, List.cons_append, List.nil_append])
        rw [nO_some]
        refine pm_ine (by exact okX11_past) rfl (fun h4 => ?_) (fun h4 => ?_)
        · have h5 : ¬ o = b := fun q => h4 (by rw [q])
          simp only [if_neg h5] at h1 h2
          exact ih o ho (hdd o hpb) h1 h2
        · have h5 : o = b := (nI_eq (by omega) (by omega)).mp h4
          simp only [if_pos h5] at h1 h2
          refine pm_go 9999 (by exact okX11_past) rfl ?_; (try dsimp only [pm_st1, pm_st2, pm_cat2, pm_la, Option.toList, List.cons_append, List.nil_append])
          refine pm_ri (by exact okX11_past) rfl rfl rfl (Nat.le_refl _) (Nat.le_refl _) (h1 trivial)
set_option maxRecDepth 100000 in
set_option maxHeartbeats 1000000 in
theorem M_past {z : mS} (b o : Int32) (hz : zOK z) (h : MA z mu) (hd : 2 ≤ d) : pm_T cx mX11_past d 0 0 [.ref 19, .int b, .int o] (sh_ i0 i1 ex) mu nu (mQ (.int (sp_past z b o).1) (sp_past z b o).2 i0 i1 ex mu) := by
  obtain ⟨⟨a1, a2, a3, a4, a5, a6, a7, a8, a9, b1, b2, b3, b4, b5⟩, c1, c2⟩ := id h
  obtain ⟨⟨hB6, -, -, -, -, hpa, hdd, -⟩, -⟩ := hz
  have bad : sp_past z b o = (-1, z) → pm_G cx (mX11_past, d, 0, 0, (sh_ i0 i1 ex).length, mQ (.int (sp_past z b o).1) (sp_past z b o).2 i0 i1 ex mu) 0 0 26 [some (.ref 19), some (.int b), some (.int o), none, none] [] (sh_ i0 i1 ex) mu nu := by
    intro hs
    rw [hs]
    refine pm_go 9999 (by exact okX11_past) rfl ?_; (try dsimp only [pm_st1, pm_st2, pm_cat2, pm_la, Option.toList, List.cons_append, List.nil_append])
    refine pm_ri (by exact okX11_past) rfl rfl rfl (Nat.le_refl _) (Nat.le_refl _) (⟨rfl, rfl, h, fM.rf⟩)
  refine pm_enterN 2 (by exact okX11_past) rfl ?_; dsimp only [pm_la, pm_cat2, List.replicate, List.cons_append, List.nil_append, List.append_nil]
  refine pm_go 9999 (by exact okX11_past) rfl ?_; (try dsimp only [pm_st1, pm_st2, pm_cat2, pm_la, Option.toList, List.cons_append, List.nil_append])
  refine pm_cv (by exact okX11_past) (by exact okX11_isBed) rfl (by exact arX11_isBed) (t_isBed (d := 1) b a1 (by omega) (by omega)) rfl rfl rfl (by dsimp only; omega) rfl (Nat.le_of_ble_eq_true rfl) ⟨Nat.zero_le _, Nat.zero_le _⟩ ?_
  rintro _ _ _ _ ⟨rfl, rfl, rfl, rfl⟩ -
  refine pm_go 9999 (by exact okX11_past) rfl ?_; (try dsimp only [pm_st1, pm_st2, pm_cat2, pm_la, Option.toList, List.cons_append, List.nil_append])
  refine pm_zeq (by exact okX11_past) rfl (fun h1 => ?_) (fun h1 => ?_)
  · have h1 := bI_z.mp h1
    exact bad (by unfold sp_past; rw [if_pos (Or.inl h1)])
  · have h1 := bI_n.mp h1
    have mid : (o = -1 ∨ isB (gB z.1) o) → pm_G cx (mX11_past, d, 0, 0, (sh_ i0 i1 ex).length, mQ (.int (sp_past z b o).1) (sp_past z b o).2 i0 i1 ex mu) 0 0 21 [some (.ref 19), some (.int b), some (.int o), none, none] [] (sh_ i0 i1 ex) mu nu := by
      intro ho
      refine pm_go 9999 (by exact okX11_past) rfl ?_; (try dsimp only [pm_st1, pm_st2, pm_cat2, pm_la, Option.toList, List.cons_append, List.nil_append])
      refine pm_ine (by exact okX11_past) rfl (fun h3 => ?_) (fun h3 => ?_)
      · have hn1 : ¬ (¬ isB (gB z.1) b ∨ (o ≠ -1 ∧ ¬ isB (gB z.1) o) ∨ b = o) := by
          rintro (q | q | q)
          · exact q h1
          · exact ho.elim q.1 q.2
          · exact h3 q
        obtain ⟨k, hk, rfl⟩ := isB_of hB6.2 h1
        have last : ∀ (oo : Option Nat), oo = (if o = -1 then none else some o.toNatClampNeg) → sp_past z (nI k) o = (nO (gP z.1 k), ((z.1.1, gC z.1, va_up (gP z.1) k oo, z.1.2.2.2), z.2)) → pm_G cx (mX11_past, d, 0, 0, (sh_ i0 i1 ex).length, mQ (.int (sp_past z (nI k) o).1) (sp_past z (nI k) o).2 i0 i1 ex mu) 0 0 49 [some (.ref 19), some (.int (nI k)), some (.int o), none, none] [] (sh_ i0 i1 ex) mu nu := by
          intro oo hoo hs
          rw [hs]
          have fin : pm_G cx (mX11_past, d, 0, 0, (sh_ i0 i1 ex).length, mQ (.int (nO (gP z.1 k))) ((z.1.1, gC z.1, va_up (gP z.1) k oo, z.1.2.2.2), z.2) i0 i1 ex mu) 0 0 72 [some (.ref 19), some (.int (nI k)), some (.int o), none, some (.int (nO (gP z.1 k)))] [.int (nO oo), .int (nI k), .ref 21] (sh_ i0 i1 ex) mu nu := by
            refine pm_ias (by exact okX11_past) rfl rfl (vp_in_nI (by omega) (by omega)) ?_
            refine pm_go 9999 (by exact okX11_past) rfl ?_; (try dsimp only [pm_st1, pm_st2, pm_cat2, pm_la, Option.toList, List.cons_append, List.nil_append])
            rw [nI_clamp (by omega)]
            refine pm_ri (by exact okX11_past) rfl rfl rfl (Nat.le_refl _) (Nat.le_refl _) (⟨rfl, rfl, ⟨⟨a1, a2, a3, a4, a5, a6, a7, a8, a9, b1, fun j hj => ?_, b3, b4, b5⟩, c1.same rfl rfl, c2.same rfl rfl⟩, fM.rf.up (by omega)⟩)
            show pm_up mu 21 k (nO oo) 21 j = nO (va_up (gP z.1) k oo j)
            by_cases hjk : j = k
            · subst hjk; rw [pm_up_at, va_up_at]
            · rw [pm_up_of hjk, va_up_of hjk, b2 j hj]
          refine pm_go 9999 (by exact okX11_past) rfl ?_; (try dsimp only [pm_st1, pm_st2, pm_cat2, pm_la, Option.toList, List.cons_append, List.nil_append])
          refine pm_ial (by exact okX11_past) rfl rfl (vp_in_nI (by omega) (by omega)) ?_
          rw [nI_clamp (by omega), b2 k (by omega)]
          refine pm_go 9999 (by exact okX11_past) rfl ?_; (try dsimp only [pm_st1, pm_st2, pm_cat2, pm_la, Option.toList, List.cons_append, List.nil_append])
          rcases ho with ho | ho
          · rw [if_pos ho] at hoo
            subst hoo
            subst ho
            refine pm_zge (by exact okX11_past) rfl (fun h5 => ?_) (fun h5 => ?_)
            · exact absurd h5 (by decide)
            · refine pm_go 72 (by exact okX11_past) rfl ?_; (try dsimp only [pm_st1, pm_st2, pm_cat2, pm_la, Option.toList, List.cons_append, List.nil_append])
              exact fin
          · obtain ⟨q, hq, rfl⟩ := isB_of hB6.2 ho
            rw [if_neg (nI_ne_m (by omega)).1, nI_clamp (by omega)] at hoo
            subst hoo
            refine pm_zge (by exact okX11_past) rfl (fun h5 => ?_) (fun h5 => ?_)
            · refine pm_go 72 (by exact okX11_past) rfl ?_; (try dsimp only [pm_st1, pm_st2, pm_cat2, pm_la, Option.toList, List.cons_append, List.nil_append])
              exact fin
            · exact absurd (nI_pos' (by omega)) h5
        rcases ho with ho | ho
        · subst ho
          refine pm_go 9999 (by exact okX11_past) rfl ?_; (try dsimp only [pm_st1, pm_st2, pm_cat2, pm_la, Option.toList, List.cons_append, List.nil_append])
          refine pm_zlt (by exact okX11_past) rfl (fun h5 => ?_) (fun h5 => ?_)
          · refine pm_G.fg [false, false, false, true, false] ?_; dsimp only [pm_fg]
            refine last _ rfl ?_
            unfold sp_past
            rw [if_neg hn1, if_neg (fun q => q.1 rfl), nI_clamp (by omega)]
          · exact absurd (by decide) h5
        · obtain ⟨q, hq, rfl⟩ := isB_of hB6.2 ho
          have hq1 := (nI_ne_m (n := q) (by omega)).1
          refine pm_go 30 (by exact okX11_past) rfl ?_; (try dsimp only [pm_st1, pm_st2, pm_cat2, pm_la, Option.toList, List.cons_append, List.nil_append])
          refine M_past_l (pa := gP z.1) (by omega) b2 (fun k o hk ho => by have := (hpa k o hk ho).2; omega) 6 q (by omega) (hdd q (by omega)) (fun hre => ?_) (fun hre => ?_)
          · rw [show sp_past z (nI k) (nI q) = (-3, z) by unfold sp_past; rw [if_neg hn1, if_pos ⟨hq1, by rw [nI_clamp (by omega), nI_clamp (by omega)]; exact hre⟩]]
            exact ⟨rfl, rfl, h, fM.rf⟩
          · refine last _ rfl ?_
            unfold sp_past
            rw [if_neg hn1, if_neg (fun w => by rw [nI_clamp (by omega), nI_clamp (by omega), hre] at w; exact absurd w.2 (by decide)), nI_clamp (n := k) (by omega)]
      · exact bad (by unfold sp_past; rw [if_pos (Or.inr (Or.inr h3))])
    refine pm_go 9999 (by exact okX11_past) rfl ?_; (try dsimp only [pm_st1, pm_st2, pm_cat2, pm_la, Option.toList, List.cons_append, List.nil_append])
    refine pm_ieq (by exact okX11_past) rfl (fun h2 => ?_) (fun h2 => ?_)
    · exact mid (Or.inl h2)
    · refine pm_go 9999 (by exact okX11_past) rfl ?_; (try dsimp only [pm_st1, pm_st2, pm_cat2, pm_la, Option.toList, List.cons_append, List.nil_append])
      refine pm_cv (by exact okX11_past) (by exact okX11_isBed) rfl (by exact arX11_isBed) (t_isBed (d := 1) o a1 (by omega) (by omega)) rfl rfl rfl (by dsimp only; omega) rfl (Nat.le_of_ble_eq_true rfl) ⟨Nat.zero_le _, Nat.zero_le _⟩ ?_
      rintro _ _ _ _ ⟨rfl, rfl, rfl, rfl⟩ -
      refine pm_go 21 (by exact okX11_past) rfl ?_; (try dsimp only [pm_st1, pm_st2, pm_cat2, pm_la, Option.toList, List.cons_append, List.nil_append])
      refine pm_zeq (by exact okX11_past) rfl (fun h3 => ?_) (fun h3 => ?_)
      · have h3 := bI_z.mp h3
        exact bad (by unfold sp_past; rw [if_pos (Or.inr (Or.inl ⟨h2, h3⟩))])
      · have h3 := bI_n.mp h3
        exact mid (Or.inr h3)
end
end
section
/-! ===== weeks, as the reference does them ===== -/
/-- a WEEK from a row and what has BLOOMED: the BEDS for ? are ch; answers the first sign that can not be (place, why), and where it stands then -/
def wk_run (law gate B : Nat) (pa : Nat → Option Nat) : List Nat → List Nat → List Nat → Nat → List Nat → Nat → Option (Nat × Nat) × List Nat × Nat × List Nat
  | [], _, r, s, cm, _ => (none, r, s, cm)
  | c :: t, ch, r, s, cm, k =>
    if c = 42 then wk_run law gate B pa t ch (gd_rn s B) s cm (k + 1)
    else if c = 46 then (match gd_nx law r with
      | none => (some (k, 4), r, s, cm)
      | some b => wk_run law gate B pa t ch (r.filter (fun x => x != b)) (s ||| 2 ^ b) (cm ++ [b]) (k + 1))
    else if c = 63 then (if gd_wy gate pa r s (ch.headD 0) = 0 then wk_run law gate B pa t ch.tail (ch.headD 0 :: r.filter (fun x => x != ch.headD 0)) s cm (k + 1) else (some (k, gd_wy gate pa r s (ch.headD 0)), r, s, cm))
    else if gd_wy gate pa r s (c - 97) = 0 then wk_run law gate B pa t ch ((c - 97) :: r.filter (fun x => x != (c - 97))) s cm (k + 1) else (some (k, gd_wy gate pa r s (c - 97)), r, s, cm)
theorem wk_run_q {law gate B : Nat} {pa : Nat → Option Nat} {t ch r : List Nat} {b s k : Nat} {cm : List Nat} : wk_run law gate B pa (63 :: t) (b :: ch) r s cm k = if gd_wy gate pa r s b = 0 then wk_run law gate B pa t ch (b :: r.filter (fun x => x != b)) s cm (k + 1) else (some (k, gd_wy gate pa r s b), r, s, cm) := rfl
theorem wk_run_m {law gate B : Nat} {pa : Nat → Option Nat} {t ch r : List Nat} {s k : Nat} {cm : List Nat} : wk_run law gate B pa (46 :: t) ch r s cm k = (match gd_nx law r with
      | none => (some (k, 4), r, s, cm)
      | some b => wk_run law gate B pa t ch (r.filter (fun x => x != b)) (s ||| 2 ^ b) (cm ++ [b]) (k + 1)) := rfl
/-- the BEDS that a code writes for m ? -/
def wk_dg (B code : Nat) : Nat → List Nat
  | 0 => []
  | m + 1 => (code / B ^ m % B) :: wk_dg B code m
theorem rOK_ok {n : Nat} {r : List Nat} {s : Nat} (h : rOK n r s) (hn : n ≤ 6) : md_ok r := fun b hb => by have := (h.2.1 b hb).1; omega
theorem nodup_len {l : List Nat} (h : l.Nodup) (h6 : ∀ b ∈ l, b < 6) : l.length ≤ 6 := by
  refine fb_holes 6 l.length (fun i => l.getD i 0) (fun i hi => ?_) (fun i j hij hj => ?_)
  · simp only [List.getD_eq_getElem?_getD, List.getElem?_eq_getElem hi, Option.getD_some]
    exact h6 _ (List.getElem_mem hi)
  · simp only [List.getD_eq_getElem?_getD, List.getElem?_eq_getElem hj, List.getElem?_eq_getElem (Nat.lt_trans hij hj), Option.getD_some]
    intro q
    have := (List.getElem_inj h).mp q
    omega
theorem rOK_len {n : Nat} {r : List Nat} {s : Nat} (h : rOK n r s) (hn : n ≤ 6) : r.length ≤ 6 := nodup_len h.1 (rOK_ok h hn)
theorem rOK_s {n : Nat} {r : List Nat} {s : Nat} (h : rOK n r s) (hn : n ≤ 6) : s < 64 := Nat.lt_of_lt_of_le h.2.2 (Nat.pow_le_pow_right (by omega) hn)
theorem rOK_water {n b : Nat} {r : List Nat} {s : Nat} (h : rOK n r s) (hb : b < n) (hs : ¬ s.testBit b = true) : rOK n (b :: r.filter (fun x => x != b)) s := by
  refine ⟨List.nodup_cons.mpr ⟨fun q => ?_, h.1.filter _⟩, fun x hx => ?_, h.2.2⟩
  · have := (List.mem_filter.mp q).2
    simp at this
  · rcases List.mem_cons.mp hx with rfl | hx
    · exact ⟨hb, by simpa using hs⟩
    · exact h.2.1 x (List.mem_filter.mp hx).1
theorem gd_rn_mem (s : Nat) : ∀ (n b : Nat), b ∈ gd_rn s n ↔ b < n ∧ ¬ s.testBit b = true := by
  intro n
  induction n with
  | zero => intro b; simp [gd_rn]
  | succ n ih =>
    intro b
    unfold gd_rn
    split
    · rename_i h
      rw [ih b]
      constructor
      · rintro ⟨h1, h2⟩; exact ⟨by omega, h2⟩
      · rintro ⟨h1, h2⟩
        refine ⟨?_, h2⟩
        rcases Nat.lt_or_ge b n with q | q
        · exact q
        · have : b = n := by omega
          subst this
          exact absurd h h2
    · rename_i h
      rw [List.mem_cons, ih b]
      constructor
      · rintro (rfl | ⟨h1, h2⟩)
        · exact ⟨by omega, h⟩
        · exact ⟨by omega, h2⟩
      · rintro ⟨h1, h2⟩
        rcases Nat.lt_or_ge b n with q | q
        · exact Or.inr ⟨q, h2⟩
        · exact Or.inl (by omega)
theorem gd_rn_nd (s : Nat) : ∀ n, (gd_rn s n).Nodup := by
  intro n
  induction n with
  | zero => simp [gd_rn]
  | succ n ih =>
    unfold gd_rn
    split
    · exact ih
    · refine List.nodup_cons.mpr ⟨fun q => ?_, ih⟩
      have := gd_rn_lt s n n q
      omega
theorem rOK_rain {n : Nat} {s : Nat} (h : s < 2 ^ n) : rOK n (gd_rn s n) s := ⟨gd_rn_nd s n, fun b hb => ⟨((gd_rn_mem s n b).mp hb).1, by simpa using ((gd_rn_mem s n b).mp hb).2⟩, h⟩
theorem rOK_bloom {n b : Nat} {r : List Nat} {s : Nat} (h : rOK n r s) (hb : b ∈ r) : rOK n (r.filter (fun x => x != b)) (s ||| 2 ^ b) := by
  have hbn := (h.2.1 b hb).1
  refine ⟨h.1.filter _, fun x hx => ?_, Nat.or_lt_two_pow h.2.2 (Nat.pow_lt_pow_right (by omega) hbn)⟩
  obtain ⟨h1, h2⟩ := List.mem_filter.mp hx
  refine ⟨(h.2.1 x h1).1, ?_⟩
  rw [tb_set, (h.2.1 x h1).2]
  have : ¬ b = x := fun q => by subst q; simp at h2
  simp [this]
theorem gd_nx_mem {law b : Nat} {r : List Nat} (h : gd_nx law r = some b) : b ∈ r := List.mem_of_getElem? h
theorem gd_nx_none {law : Nat} {r : List Nat} (h : gd_nx law r = none) : r = [] := by
  rcases Nat.eq_zero_or_pos r.length with q | q
  · exact List.length_eq_zero_iff.mp q
  · unfold gd_nx at h
    rw [List.getElem?_eq_getElem (gd_bh_lt q)] at h
    cases h
theorem gd_wy_bit {gate : Nat} {pa : Nat → Option Nat} {r : List Nat} {s b : Nat} (h : gd_wy gate pa r s b = 0) : ¬ s.testBit b = true := fun q => by rw [gd_wy1 q] at h; omega
theorem gd_wy_le {gate : Nat} {pa : Nat → Option Nat} {r : List Nat} {s b : Nat} : gd_wy gate pa r s b ≤ 3 := by
  unfold gd_wy
  split
  · omega
  · split
    · omega
    · split
      · split <;> omega
      · omega
/-- a sign that may stand in a WEEK -/
def okc (B c : Nat) : Prop := c = 42 ∨ c = 46 ∨ c = 63 ∨ (97 ≤ c ∧ c < 97 + B)
theorem pd_wf_ok {B : Nat} : ∀ (r : List Nat) (k op : Nat), op ≤ 4 → pd_wf B k op r = none → (∀ c ∈ r, okc B c) ∧ op + pd_op r ≤ 4 := by
  intro r
  induction r with
  | nil => intro k op ho h; exact ⟨fun c hc => (List.not_mem_nil hc).elim, ho⟩
  | cons c r ih =>
    intro k op ho h
    have e : pd_op (c :: r) = (if c = 63 then 1 else 0) + pd_op r := by
      unfold pd_op
      by_cases q : c = 63
      · simp [q, List.filter_cons]; omega
      · simp [q, List.filter_cons]
    simp only [pd_wf] at h
    split at h
    · rename_i h1
      obtain ⟨g1, g2⟩ := ih (k + 1) op ho h
      refine ⟨fun x hx => ?_, by rw [e, if_neg (by omega)]; omega⟩
      rcases List.mem_cons.mp hx with rfl | hx
      · unfold okc; omega
      · exact g1 x hx
    · split at h
      · rename_i h2
        split at h
        · rename_i h3
          obtain ⟨g1, g2⟩ := ih (k + 1) (op + 1) h3 h
          refine ⟨fun x hx => ?_, by rw [e, if_pos h2]; omega⟩
          rcases List.mem_cons.mp hx with rfl | hx
          · unfold okc; omega
          · exact g1 x hx
        · cases h
      · rename_i h2
        split at h
        · rename_i h3
          obtain ⟨g1, g2⟩ := ih (k + 1) op ho h
          refine ⟨fun x hx => ?_, by rw [e, if_neg h2]; omega⟩
          rcases List.mem_cons.mp hx with rfl | hx
          · unfold okc; omega
          · exact g1 x hx
        · cases h
theorem pd_op_cons (c : Nat) (r : List Nat) : pd_op (c :: r) = pd_op r + (if c = 63 then 1 else 0) := by
  unfold pd_op
  by_cases q : c = 63
  · simp [q, List.filter_cons]
  · simp [q, List.filter_cons]
/-- what the reference's week writes -/
def wkF (mu0 mu : pm_I) : Prop := (∀ a, a ≠ 19 → a ≠ 25 → mu a = mu0 a) ∧ ∀ j, j ≠ 14 → j ≠ 15 → j ≠ 16 → j ≠ 18 → mu 19 j = mu0 19 j
theorem wkF.rf {mu : pm_I} : wkF mu mu := ⟨fun _ _ _ => rfl, fun _ _ _ _ _ => rfl⟩
theorem wkF.up {mu0 mu : pm_I} {j : Nat} {v : Int32} (h : wkF mu0 mu) (hj : j = 14 ∨ j = 15 ∨ j = 16 ∨ j = 18) : wkF mu0 (pm_up mu 19 j v) :=
  ⟨fun a h1 h2 => by rw [pm_up_ne h1]; exact h.1 a h1 h2, fun i h1 h2 h3 h4 => by rw [pm_up_of (by omega)]; exact h.2 i h1 h2 h3 h4⟩
theorem wkF.up2 {mu0 mu : pm_I} {j : Nat} {v : Int32} (h : wkF mu0 mu) : wkF mu0 (pm_up mu 25 j v) :=
  ⟨fun a h1 h2 => by rw [pm_up_ne h2]; exact h.1 a h1 h2, fun i h1 h2 h3 h4 => by rw [pm_up_o (by omega)]; exact h.2 i h1 h2 h3 h4⟩
theorem wkF.tr {mu0 mu mu2 : pm_I} (h : wkF mu0 mu) (h2 : wkF mu mu2) : wkF mu0 mu2 :=
  ⟨fun a q1 q2 => by rw [h2.1 a q1 q2]; exact h.1 a q1 q2, fun i q1 q2 q3 q4 => by rw [h2.2 i q1 q2 q3 q4]; exact h.2 i q1 q2 q3 q4⟩
/-- where a week stands, in the reference's cells -/
def wkS (r : List Nat) (s : Nat) (cm : List Nat) (why : Nat) (mu : pm_I) : Prop := mu 19 14 = nI (md_r7 r) ∧ mu 19 15 = nI s ∧ mu 19 16 = nI cm.length ∧ mu 19 18 = nI why ∧ ∀ j b, cm[j]? = some b → mu 25 j = nI b
/-- what has BLOOMED in it -/
def cmOK (s : Nat) (cm : List Nat) : Prop := cm.Nodup ∧ ∀ b ∈ cm, b < 6 ∧ s.testBit b = true
theorem cmOK_len {s : Nat} {cm : List Nat} (h : cmOK s cm) : cm.length ≤ 6 := nodup_len h.1 (fun b hb => (h.2 b hb).1)
theorem cmOK_add {s b : Nat} {cm : List Nat} (h : cmOK s cm) (hb : b < 6) (hs : s.testBit b = false) : cmOK (s ||| 2 ^ b) (cm ++ [b]) := by
  refine ⟨?_, fun x hx => ?_⟩
  · rw [List.nodup_append]
    refine ⟨h.1, by simp, fun x hx y hy => ?_⟩
    simp at hy
    subst hy
    intro q
    subst q
    rw [(h.2 x hx).2] at hs
    cases hs
  · rcases List.mem_append.mp hx with q | q
    · exact ⟨(h.2 x q).1, by rw [tb_set, (h.2 x q).2]; rfl⟩
    · simp at q
      subst q
      exact ⟨hb, by rw [tb_set]; simp⟩
section
variable {cx : pm_CX} {d n0 : Nat} {i0 i1 : Option Nat} {ex : List pm_C} {mu0 mu : pm_I} {nu : pm_J}
set_option maxRecDepth 100000 in
set_option maxHeartbeats 1000000 in
theorem t_goWeek_b {Q : pm_Po} {pd : List Nat} {B : Nat} (hB : mu 19 0 = nI B) (hB6 : 2 ≤ B ∧ B ≤ 6) (hN : mu 19 6 = nI pd.length) (hP : ∀ k b, pd[k]? = some b → mu 22 k = nI b) (hp : dOK pd) (ho : pd_op pd ≤ 4) (hd : 1 ≤ d) {x1 : Int32} (kk : pm_G cx (mX11_goWeek, d, 0, 0, n0, Q) 0 0 51 [some (.ref 19), some (.int x1), some (.int (nI (B ^ (pd_op pd - 1)))), none, none, none] [] (sh_ i0 i1 ex) mu nu) : ∀ (j k : Nat), k + j = max 1 (pd_op pd) → 1 ≤ k → pm_G cx (mX11_goWeek, d, 0, 0, n0, Q) 0 0 30 [some (.ref 19), some (.int x1), some (.int (nI (B ^ (k - 1)))), some (.int (nI k)), none, none] [] (sh_ i0 i1 ex) mu nu := by
  intro j
  induction j with
  | zero =>
    intro k hk h1
    refine pm_go 9999 (by exact okX11_goWeek) rfl ?_; (try dsimp only [pm_st1, pm_st2, pm_cat2, pm_la, Option.toList, List.cons_append, List.nil_append])
    refine pm_cv (by exact okX11_goWeek) (by exact okX11_opens) rfl (by exact arX11_opens) (t_opens (d := 0) hN hP hp) rfl rfl rfl (by dsimp only; omega) rfl (Nat.le_of_ble_eq_true rfl) ⟨Nat.zero_le _, Nat.zero_le _⟩ ?_
    rintro _ _ _ _ ⟨rfl, rfl, rfl, rfl⟩ -
    refine pm_go 9999 (by exact okX11_goWeek) rfl ?_; (try dsimp only [pm_st1, pm_st2, pm_cat2, pm_la, Option.toList, List.cons_append, List.nil_append])
    refine pm_ige (by exact okX11_goWeek) rfl (fun h2 => ?_) (fun h2 => ?_)
    · refine pm_G.fg [false, false, false, true, false, false] ?_; dsimp only [pm_fg]
      rw [show k - 1 = pd_op pd - 1 by omega]
      exact kk
    · exact absurd (nI_le (by omega) (by omega)) h2
  | succ j ih =>
    intro k hk h1
    refine pm_go 9999 (by exact okX11_goWeek) rfl ?_; (try dsimp only [pm_st1, pm_st2, pm_cat2, pm_la, Option.toList, List.cons_append, List.nil_append])
    refine pm_cv (by exact okX11_goWeek) (by exact okX11_opens) rfl (by exact arX11_opens) (t_opens (d := 0) hN hP hp) rfl rfl rfl (by dsimp only; omega) rfl (Nat.le_of_ble_eq_true rfl) ⟨Nat.zero_le _, Nat.zero_le _⟩ ?_
    rintro _ _ _ _ ⟨rfl, rfl, rfl, rfl⟩ -
    refine pm_go 9999 (by exact okX11_goWeek) rfl ?_; (try dsimp only [pm_st1, pm_st2, pm_cat2, pm_la, Option.toList, List.cons_append, List.nil_append])
    refine pm_ige (by exact okX11_goWeek) rfl (fun h2 => ?_) (fun h2 => ?_)
    · have := (nI_leI (by omega) (by omega)).mp h2
      omega
    · refine pm_go 30 (by exact okX11_goWeek) rfl ?_; (try dsimp only [pm_st1, pm_st2, pm_cat2, pm_la, Option.toList, List.cons_append, List.nil_append])
      rw [hB, pk_mul, nI_1, show B ^ (k - 1) * B = B ^ (k + 1 - 1) by rw [← Nat.pow_succ]; congr 1; omega]
      exact ih (k + 1) (by omega) (by omega)
set_option maxRecDepth 100000 in
set_option maxHeartbeats 1000000 in
theorem t_goWeek_l {Q : pm_Po} {pd : List Nat} {B law gate code : Nat} {pa : Nat → Option Nat} (hB : mu0 19 0 = nI B) (hB6 : 2 ≤ B ∧ B ≤ 6) (hL : mu0 19 3 = nI law) (hlaw : law ≤ 2) (hG : mu0 19 4 = nI gate) (hg : gate ≤ 6) (hPa : ∀ k, k < 6 → mu0 21 k = nO (pa k)) (hpa : ∀ k o, k < 6 → pa k = some o → o < 6) (hN : mu0 19 6 = nI pd.length) (hP : ∀ k b, pd[k]? = some b → mu0 22 k = nI b) (hp : dOK pd) (hcode : code < 2 ^ 31) (hd : 2 ≤ d) :
    ∀ (suf : List Nat) (k : Nat) (r : List Nat) (s : Nat) (cm : List Nat) (mu : pm_I), pd.drop k = suf → k ≤ pd.length → (∀ c ∈ suf, okc B c) → pd_op suf ≤ 4 → rOK B r s → cmOK s cm → wkF mu0 mu → wkS r s cm 0 mu →
    (∀ mu', wkF mu0 mu' → wkS (wk_run law gate B pa suf (wk_dg B code (pd_op suf)) r s cm k).2.1 (wk_run law gate B pa suf (wk_dg B code (pd_op suf)) r s cm k).2.2.1 (wk_run law gate B pa suf (wk_dg B code (pd_op suf)) r s cm k).2.2.2 (((wk_run law gate B pa suf (wk_dg B code (pd_op suf)) r s cm k).1.map (fun q => q.2)).getD 0) mu' → Q (some (.int (nO ((wk_run law gate B pa suf (wk_dg B code (pd_op suf)) r s cm k).1.map (fun q => q.1))))) (sh_ i0 i1 ex) mu' nu) →
    pm_G cx (mX11_goWeek, d, 0, 0, n0, Q) 0 0 53 [some (.ref 19), some (.int (nI code)), some (.int (nI (B ^ (pd_op suf - 1)))), some (.int (nI k)), none, none] [] (sh_ i0 i1 ex) mu nu := by
  intro suf
  have hp1 := hp.1
  induction suf with
  | nil =>
    intro k r s cm mu hr hk hc ho hR hcm hF hS hq
    have hk := drop_nil hr hk
    refine pm_go 9999 (by exact okX11_goWeek) rfl ?_; (try dsimp only [pm_st1, pm_st2, pm_cat2, pm_la, Option.toList, List.cons_append, List.nil_append])
    rw [hF.2 6 (by omega) (by omega) (by omega) (by omega), hN]
    refine pm_ige (by exact okX11_goWeek) rfl (fun h1 => ?_) (fun h1 => ?_)
    · refine pm_go 9999 (by exact okX11_goWeek) rfl ?_; (try dsimp only [pm_st1, pm_st2, pm_cat2, pm_la, Option.toList, List.cons_append, List.nil_append])
      refine pm_ri (by exact okX11_goWeek) rfl rfl rfl (Nat.le_refl _) (Nat.le_refl _) (hq mu hF hS)
    · exact absurd (nI_le (by omega) (by omega)) h1
  | cons c t ih =>
    intro k r s cm mu hr hk hc ho hR hcm hF hS hq
    obtain ⟨g1, g2, g3⟩ := drop_get hr
    have hcb := hp.2 c (mem_drop hr)
    have hcc := hc c List.mem_cons_self
    have hct : ∀ x ∈ t, okc B x := fun x hx => hc x (List.mem_cons_of_mem _ hx)
    obtain ⟨s1, s2, s3, s4, s5⟩ := id hS
    have hok := rOK_ok hR hB6.2
    have hln := rOK_len hR hB6.2
    have hs64 := rOK_s hR hB6.2
    have f0 := hF.2 0 (by omega) (by omega) (by omega) (by omega)
    have f3 := hF.2 3 (by omega) (by omega) (by omega) (by omega)
    have f4 := hF.2 4 (by omega) (by omega) (by omega) (by omega)
    have f6 := hF.2 6 (by omega) (by omega) (by omega) (by omega)
    have f21 := hF.1 21 (by omega) (by omega)
    have f22 := hF.1 22 (by omega) (by omega)
    have eop := pd_op_cons c t
    refine pm_go 9999 (by exact okX11_goWeek) rfl ?_; (try dsimp only [pm_st1, pm_st2, pm_cat2, pm_la, Option.toList, List.cons_append, List.nil_append])
    rw [f6, hN]
    refine pm_ige (by exact okX11_goWeek) rfl (fun h1 => ?_) (fun h1 => ?_)
    · exact absurd h1 (nI_ge (by omega) (by omega))
    · refine pm_go 9999 (by exact okX11_goWeek) rfl ?_; (try dsimp only [pm_st1, pm_st2, pm_cat2, pm_la, Option.toList, List.cons_append, List.nil_append])
      refine pm_ial (by exact okX11_goWeek) rfl rfl (vp_in_nI (by omega) (by omega)) ?_
      rw [nI_clamp (by omega), f22, hP k _ g1]
      refine pm_go 9999 (by exact okX11_goWeek) rfl ?_; (try dsimp only [pm_st1, pm_st2, pm_cat2, pm_la, Option.toList, List.cons_append, List.nil_append])
      refine pm_ine (by exact okX11_goWeek) rfl (fun h2 => ?_) (fun h2 => ?_)
      · have e42 : ¬ c = 42 := fun q => h2 (by rw [q]; rfl)
        refine pm_go 9999 (by exact okX11_goWeek) rfl ?_; (try dsimp only [pm_st1, pm_st2, pm_cat2, pm_la, Option.toList, List.cons_append, List.nil_append])
        refine pm_ine (by exact okX11_goWeek) rfl (fun h3 => ?_) (fun h3 => ?_)
        · have e46 : ¬ c = 46 := fun q => h3 (by rw [q]; rfl)
          -- a watering
          have water : ∀ (b m' : Nat), b < B → m' ≤ 4 → pd_op t = m' → (gd_wy gate pa r s b = 0 → wk_run law gate B pa (c :: t) (wk_dg B code (pd_op (c :: t))) r s cm k = wk_run law gate B pa t (wk_dg B code m') (b :: r.filter (fun x => x != b)) s cm (k + 1)) → (¬ gd_wy gate pa r s b = 0 → wk_run law gate B pa (c :: t) (wk_dg B code (pd_op (c :: t))) r s cm k = (some (k, gd_wy gate pa r s b), r, s, cm)) → pm_G cx (mX11_goWeek, d, 0, 0, n0, Q) 0 0 225 [some (.ref 19), some (.int (nI code)), some (.int (nI (B ^ (m' - 1)))), some (.int (nI k)), some (.int (nI c)), some (.int (nI b))] [] (sh_ i0 i1 ex) mu nu := by
            intro b m' hb hm' hmt hw0 hw1
            have hwl := gd_wy_le (gate := gate) (pa := pa) (r := r) (s := s) (b := b)
            refine pm_go 9999 (by exact okX11_goWeek) rfl ?_; (try dsimp only [pm_st1, pm_st2, pm_cat2, pm_la, Option.toList, List.cons_append, List.nil_append])
            rw [s1, s2]
            refine pm_cv (by exact okX11_goWeek) (by exact okX11_whyNot) rfl (by exact arX11_whyNot) (t_whyNot (d := 1) (gate := gate) (pa := pa) (by rw [f4, hG]) hg (fun k hk => by rw [f21]; exact hPa k hk) hpa (by omega) (by omega) hok hln (by omega)) rfl rfl rfl (by dsimp only; omega) rfl (Nat.le_of_ble_eq_true rfl) ⟨Nat.zero_le _, Nat.zero_le _⟩ ?_
            rintro _ _ _ _ ⟨rfl, rfl, rfl, rfl⟩ -
            refine pm_go 9999 (by exact okX11_goWeek) rfl ?_; (try dsimp only [pm_st1, pm_st2, pm_cat2, pm_la, Option.toList, List.cons_append, List.nil_append])
            rw [show pm_up mu 19 18 (nI (gd_wy gate pa r s b)) 19 18 = nI (gd_wy gate pa r s b) from pm_up_at]
            refine pm_zne (by exact okX11_goWeek) rfl (fun h5 => ?_) (fun h5 => ?_)
            · have h6 : ¬ gd_wy gate pa r s b = 0 := fun q => h5 (by rw [q]; rfl)
              rw [hw1 h6] at hq
              refine pm_go 9999 (by exact okX11_goWeek) rfl ?_; (try dsimp only [pm_st1, pm_st2, pm_cat2, pm_la, Option.toList, List.cons_append, List.nil_append])
              rw [show pm_up (pm_up mu 19 18 (nI (gd_wy gate pa r s b))) 19 14 (pm_up mu 19 18 (nI (gd_wy gate pa r s b)) 19 14) 19 18 = nI (gd_wy gate pa r s b) by rw [pm_up_of (by omega), pm_up_at]]
              refine pm_zle (by exact okX11_goWeek) rfl (fun h7 => ?_) (fun h7 => ?_)
              · exact absurd h7 (nI_nle (by omega) (by omega))
              · refine pm_go 9999 (by exact okX11_goWeek) rfl ?_; (try dsimp only [pm_st1, pm_st2, pm_cat2, pm_la, Option.toList, List.cons_append, List.nil_append])
                refine pm_ri (by exact okX11_goWeek) rfl rfl rfl (Nat.le_refl _) (Nat.le_refl _) (hq _ ((hF.up (by omega)).up (by omega)) ⟨by rw [pm_up_at, pm_up_of (by omega)]; exact s1, by rw [pm_up_of (by omega), pm_up_of (by omega)]; exact s2, by rw [pm_up_of (by omega), pm_up_of (by omega)]; exact s3, by rw [pm_up_of (by omega), pm_up_at]; rfl, fun j x hj => by rw [pm_up_o (by omega), pm_up_o (by omega)]; exact s5 j x hj⟩)
            · have h6 : gd_wy gate pa r s b = 0 := (nI_eq (b := 0) (by omega) (by omega)).mp h5
              rw [hw0 h6] at hq
              refine pm_go 9999 (by exact okX11_goWeek) rfl ?_; (try dsimp only [pm_st1, pm_st2, pm_cat2, pm_la, Option.toList, List.cons_append, List.nil_append])
              rw [show pm_up mu 19 18 (nI (gd_wy gate pa r s b)) 19 14 = nI (md_r7 r) by rw [pm_up_of (by omega)]; exact s1]
              refine pm_cs (by exact okX11_goWeek) (by exact okX11_watered) rfl (by exact arX11_watered) (t_watered (d := 1) hok hln (b := b) (by omega) (by omega)) rfl (by dsimp only; omega) rfl (Nat.le_of_ble_eq_true rfl) ⟨Nat.zero_le _, Nat.zero_le _⟩ ?_
              rintro _ _ _ _ ⟨rfl, rfl, rfl, rfl⟩ -
              refine pm_go 9999 (by exact okX11_goWeek) rfl ?_; (try dsimp only [pm_st1, pm_st2, pm_cat2, pm_la, Option.toList, List.cons_append, List.nil_append])
              rw [show pm_up (pm_up mu 19 18 (nI (gd_wy gate pa r s b))) 19 14 (nI (md_r7 (b :: r.filter (fun x => x != b)))) 19 18 = 0 by rw [pm_up_of (by omega), pm_up_at, h6]; rfl]
              refine pm_zle (by exact okX11_goWeek) rfl (fun h7 => ?_) (fun h7 => ?_)
              · refine pm_go 53 (by exact okX11_goWeek) rfl ?_; (try dsimp only [pm_st1, pm_st2, pm_cat2, pm_la, Option.toList, List.cons_append, List.nil_append])
                rw [nI_1]
                refine pm_G.fg [false, false, false, false, true, true] ?_; dsimp only [pm_fg]
                rw [← hmt]
                rw [← hmt] at hq
                refine ih (k + 1) _ s cm _ g2 (by omega) hct (by omega) (rOK_water hR hb (gd_wy_bit h6)) hcm ((hF.up (by omega)).up (by omega)) ⟨pm_up_at, by rw [pm_up_of (by omega), pm_up_of (by omega)]; exact s2, by rw [pm_up_of (by omega), pm_up_of (by omega)]; exact s3, by rw [pm_up_of (by omega), pm_up_at, h6], fun j x hj => by rw [pm_up_o (by omega), pm_up_o (by omega)]; exact s5 j x hj⟩ hq
              · exact absurd (by decide) h7
          refine pm_go 9999 (by exact okX11_goWeek) rfl ?_; (try dsimp only [pm_st1, pm_st2, pm_cat2, pm_la, Option.toList, List.cons_append, List.nil_append])
          refine pm_ine (by exact okX11_goWeek) rfl (fun h4 => ?_) (fun h4 => ?_)
          · have e63 : ¬ c = 63 := fun q => h4 (by rw [q]; rfl)
            have hlet : 97 ≤ c ∧ c < 97 + B := by unfold okc at hcc; omega
            rw [if_neg e63] at eop
            refine pm_go 9999 (by exact okX11_goWeek) rfl ?_; (try dsimp only [pm_st1, pm_st2, pm_cat2, pm_la, Option.toList, List.cons_append, List.nil_append])
            rw [show (97 : Int32) = nI 97 from rfl, pk_sub hlet.1]
            refine pm_ine (by exact okX11_goWeek) rfl (fun h5 => ?_) (fun h5 => ?_)
            · refine pm_go 225 (by exact okX11_goWeek) rfl ?_; (try dsimp only [pm_st1, pm_st2, pm_cat2, pm_la, Option.toList, List.cons_append, List.nil_append])
              rw [show pd_op (c :: t) = pd_op t by omega]
              refine water (c - 97) (pd_op t) (by omega) (by omega) rfl (fun q => ?_) (fun q => ?_)
              · rw [show pd_op (c :: t) = pd_op t by omega]
                simp only [wk_run]
                rw [if_neg e42, if_neg e46, if_neg e63, if_pos q]
              · rw [show pd_op (c :: t) = pd_op t by omega]
                simp only [wk_run]
                rw [if_neg e42, if_neg e46, if_neg e63, if_neg q]
            · exact absurd h5 h4
          · have e63 : c = 63 := (nI_eq (b := 63) (by omega) (by omega)).mp h4
            rw [if_pos e63] at eop
            have hdig : code / B ^ pd_op t % B < B := Nat.mod_lt _ (by omega)
            have hpow : 0 < B ^ pd_op t := Nat.pow_pos (by omega)
            have hpow2 : B ^ pd_op t ≤ 6 ^ 4 := Nat.le_trans (Nat.pow_le_pow_left hB6.2 _) (Nat.pow_le_pow_right (by omega) (by omega))
            have edg : wk_dg B code (pd_op (c :: t)) = (code / B ^ pd_op t % B) :: wk_dg B code (pd_op t) := by rw [eop]; rfl
            have w0 : gd_wy gate pa r s (code / B ^ pd_op t % B) = 0 → wk_run law gate B pa (c :: t) (wk_dg B code (pd_op (c :: t))) r s cm k = wk_run law gate B pa t (wk_dg B code (pd_op t)) ((code / B ^ pd_op t % B) :: r.filter (fun x => x != (code / B ^ pd_op t % B))) s cm (k + 1) := by
              intro q
              rw [edg, e63, wk_run_q, if_pos q]
            have w1 : ¬ gd_wy gate pa r s (code / B ^ pd_op t % B) = 0 → wk_run law gate B pa (c :: t) (wk_dg B code (pd_op (c :: t))) r s cm k = (some (k, gd_wy gate pa r s (code / B ^ pd_op t % B)), r, s, cm) := by
              intro q
              rw [edg, e63, wk_run_q, if_neg q]
            rw [show pd_op (c :: t) - 1 = pd_op t by omega]
            have hpn : ¬ nI (B ^ pd_op t) = 0 := nI_ne0 hpow (by omega)
            refine pm_go 9999 (by exact okX11_goWeek) rfl ?_; (try dsimp only [pm_st1, pm_st2, pm_cat2, pm_la, Option.toList, List.cons_append, List.nil_append])
            refine pm_div (by exact okX11_goWeek) rfl (hpn) ?_
            refine pm_go 9999 (by exact okX11_goWeek) rfl ?_; (try dsimp only [pm_st1, pm_st2, pm_cat2, pm_la, Option.toList, List.cons_append, List.nil_append])
            rw [f0, hB]
            refine pm_rem (by exact okX11_goWeek) rfl (nI_ne0 (by omega) (by omega)) ?_
            rw [pk_div hcode hpow (by omega), pk_rem (Nat.lt_of_le_of_lt (Nat.div_le_self _ _) hcode) (by omega) (by omega)]
            refine pm_go 9999 (by exact okX11_goWeek) rfl ?_; (try dsimp only [pm_st1, pm_st2, pm_cat2, pm_la, Option.toList, List.cons_append, List.nil_append])
            refine pm_ine (by exact okX11_goWeek) rfl (fun h5 => ?_) (fun h5 => ?_)
            · exact absurd h4 h5
            · refine pm_go 9999 (by exact okX11_goWeek) rfl ?_; (try dsimp only [pm_st1, pm_st2, pm_cat2, pm_la, Option.toList, List.cons_append, List.nil_append])
              refine pm_ile (by exact okX11_goWeek) rfl (fun h6 => ?_) (fun h6 => ?_)
              · have h7 : B ^ pd_op t ≤ 1 := (nI_leI (b := 1) (by omega) (by omega)).mp h6
                have h8 : pd_op t = 0 := by
                  rcases Nat.eq_zero_or_pos (pd_op t) with q | q
                  · exact q
                  · have : B ^ 1 ≤ B ^ pd_op t := Nat.pow_le_pow_right (by omega) q
                    rw [Nat.pow_one] at this
                    omega
                refine pm_go 225 (by exact okX11_goWeek) rfl ?_; (try dsimp only [pm_st1, pm_st2, pm_cat2, pm_la, Option.toList, List.cons_append, List.nil_append])
                have := water (code / B ^ pd_op t % B) (pd_op t) hdig (by omega) rfl w0 w1
                rw [show pd_op t - 1 = pd_op t by omega] at this
                exact this
              · refine pm_go 225 (by exact okX11_goWeek) rfl ?_; (try dsimp only [pm_st1, pm_st2, pm_cat2, pm_la, Option.toList, List.cons_append, List.nil_append])
                rw [f0, hB]
                refine pm_div (by exact okX11_goWeek) rfl (nI_ne0 (by omega) (by omega)) ?_
                rw [pk_div (by omega) (by omega) (by omega)]
                refine pm_go 225 (by exact okX11_goWeek) rfl ?_; (try dsimp only [pm_st1, pm_st2, pm_cat2, pm_la, Option.toList, List.cons_append, List.nil_append])
                have h8 : 0 < pd_op t := by
                  rcases Nat.eq_zero_or_pos (pd_op t) with q | q
                  · rw [q, Nat.pow_zero] at h6; exact absurd (by decide) h6
                  · exact q
                have := water (code / B ^ pd_op t % B) (pd_op t) hdig (by omega) rfl w0 w1
                rw [show B ^ pd_op t / B = B ^ (pd_op t - 1) by
                  obtain ⟨q, hq⟩ : ∃ q, pd_op t = q + 1 := ⟨pd_op t - 1, by omega⟩
                  rw [hq, Nat.pow_succ, Nat.mul_div_cancel _ (by omega)]; rfl]
                exact this
        · -- a morning
          have e46 : c = 46 := (nI_eq (b := 46) (by omega) (by omega)).mp h3
          subst e46
          rw [if_neg (by omega)] at eop
          rw [show pd_op (46 :: t) = pd_op t by omega] at hq ⊢
          rw [wk_run_m] at hq
          refine pm_go 9999 (by exact okX11_goWeek) rfl ?_; (try dsimp only [pm_st1, pm_st2, pm_cat2, pm_la, Option.toList, List.cons_append, List.nil_append])
          rw [s1]
          refine pm_cv (by exact okX11_goWeek) (by exact okX11_nextOf) rfl (by exact arX11_nextOf) (t_nextOf (d := 1) (r := r) (law := law) (by rw [f3, hL]) hlaw hok hln (by omega)) rfl rfl rfl (by dsimp only; omega) rfl (Nat.le_of_ble_eq_true rfl) ⟨Nat.zero_le _, Nat.zero_le _⟩ ?_
          rintro _ _ _ _ ⟨rfl, rfl, rfl, rfl⟩ -
          cases hnx : gd_nx law r with
          | none =>
            rw [hnx] at hq
            rw [nO_none]
            refine pm_go 9999 (by exact okX11_goWeek) rfl ?_; (try dsimp only [pm_st1, pm_st2, pm_cat2, pm_la, Option.toList, List.cons_append, List.nil_append])
            refine pm_zge (by exact okX11_goWeek) rfl (fun h5 => ?_) (fun h5 => ?_)
            · exact absurd h5 (by decide)
            · refine pm_go 9999 (by exact okX11_goWeek) rfl ?_; (try dsimp only [pm_st1, pm_st2, pm_cat2, pm_la, Option.toList, List.cons_append, List.nil_append])
              refine pm_zlt (by exact okX11_goWeek) rfl (fun h6 => ?_) (fun h6 => ?_)
              · refine pm_go 9999 (by exact okX11_goWeek) rfl ?_; (try dsimp only [pm_st1, pm_st2, pm_cat2, pm_la, Option.toList, List.cons_append, List.nil_append])
                rw [show pm_up mu 19 18 4 19 18 = 4 from pm_up_at]
                refine pm_zle (by exact okX11_goWeek) rfl (fun h7 => ?_) (fun h7 => ?_)
                · exact absurd h7 (by decide)
                · refine pm_go 9999 (by exact okX11_goWeek) rfl ?_; (try dsimp only [pm_st1, pm_st2, pm_cat2, pm_la, Option.toList, List.cons_append, List.nil_append])
                  refine pm_ri (by exact okX11_goWeek) rfl rfl rfl (Nat.le_refl _) (Nat.le_refl _) (hq _ (hF.up (by omega)) ⟨by rw [pm_up_of (by omega)]; exact s1, by rw [pm_up_of (by omega)]; exact s2, by rw [pm_up_of (by omega)]; exact s3, by rw [pm_up_at]; rfl, fun j x hj => by rw [pm_up_o (by omega)]; exact s5 j x hj⟩)
              · exact absurd (by decide) h6
          | some b =>
            rw [hnx] at hq
            rw [nO_some]
            have hbr := gd_nx_mem hnx
            have hb6 := hok b hbr
            have hbs := (hR.2.1 b hbr).2
            have hadd := cmOK_add hcm hb6 hbs
            have hlen := cmOK_len hadd
            rw [List.length_append] at hlen
            simp only [List.length_cons, List.length_nil] at hlen
            refine pm_go 9999 (by exact okX11_goWeek) rfl ?_; (try dsimp only [pm_st1, pm_st2, pm_cat2, pm_la, Option.toList, List.cons_append, List.nil_append])
            refine pm_zge (by exact okX11_goWeek) rfl (fun h5 => ?_) (fun h5 => ?_)
            · refine pm_go 9999 (by exact okX11_goWeek) rfl ?_; (try dsimp only [pm_st1, pm_st2, pm_cat2, pm_la, Option.toList, List.cons_append, List.nil_append])
              refine pm_zlt (by exact okX11_goWeek) rfl (fun h6 => ?_) (fun h6 => ?_)
              · exact absurd h6 (nI_pos (by omega))
              · refine pm_go 9999 (by exact okX11_goWeek) rfl ?_; (try dsimp only [pm_st1, pm_st2, pm_cat2, pm_la, Option.toList, List.cons_append, List.nil_append])
                rw [show pm_up mu 19 18 0 19 14 = nI (md_r7 r) by rw [pm_up_of (by omega)]; exact s1]
                refine pm_cs (by exact okX11_goWeek) (by exact okX11_without) rfl (by exact arX11_without) (t_without (d := 0) hok hln hb6) rfl (by dsimp only; omega) rfl (Nat.le_of_ble_eq_true rfl) ⟨Nat.zero_le _, Nat.zero_le _⟩ ?_
                rintro _ _ _ _ ⟨rfl, rfl, rfl, rfl⟩ -
                refine pm_go 9999 (by exact okX11_goWeek) rfl ?_; (try dsimp only [pm_st1, pm_st2, pm_cat2, pm_la, Option.toList, List.cons_append, List.nil_append])
                rw [show pm_up (pm_up mu 19 18 0) 19 14 (nI (md_r7 (r.filter (fun x => x != b)))) 19 15 = nI s by rw [pm_up_of (by omega), pm_up_of (by omega)]; exact s2, nI_shl1 (by omega), nI_or]
                rw [show pm_up (pm_up (pm_up mu 19 18 0) 19 14 (nI (md_r7 (r.filter (fun x => x != b))))) 19 15 (nI (s ||| 2 ^ b)) 19 16 = nI cm.length by rw [pm_up_of (by omega), pm_up_of (by omega), pm_up_of (by omega)]; exact s3]
                refine pm_ias (by exact okX11_goWeek) rfl rfl (vp_in_nI (by omega) (by omega)) ?_
                rw [nI_clamp (by omega)]
                refine pm_go 9999 (by exact okX11_goWeek) rfl ?_; (try dsimp only [pm_st1, pm_st2, pm_cat2, pm_la, Option.toList, List.cons_append, List.nil_append])
                rw [show pm_up (pm_up (pm_up (pm_up mu 19 18 0) 19 14 (nI (md_r7 (r.filter (fun x => x != b))))) 19 15 (nI (s ||| 2 ^ b))) 25 cm.length (nI b) 19 16 = nI cm.length by rw [pm_up_o (by omega), pm_up_of (by omega), pm_up_of (by omega), pm_up_of (by omega)]; exact s3, nI_1]
                rw [show pm_up (pm_up (pm_up (pm_up (pm_up mu 19 18 0) 19 14 (nI (md_r7 (r.filter (fun x => x != b))))) 19 15 (nI (s ||| 2 ^ b))) 25 cm.length (nI b)) 19 16 (nI (cm.length + 1)) 19 18 = 0 by rw [pm_up_of (by omega), pm_up_o (by omega), pm_up_of (by omega), pm_up_of (by omega), pm_up_at]]
                refine pm_zle (by exact okX11_goWeek) rfl (fun h7 => ?_) (fun h7 => ?_)
                · refine pm_go 53 (by exact okX11_goWeek) rfl ?_; (try dsimp only [pm_st1, pm_st2, pm_cat2, pm_la, Option.toList, List.cons_append, List.nil_append])
                  rw [nI_1]
                  refine pm_G.fg [false, false, false, false, true, true] ?_; dsimp only [pm_fg]
                  refine ih (k + 1) _ _ (cm ++ [b]) _ g2 (by omega) hct (by omega) (rOK_bloom hR hbr) hadd (((((hF.up (by omega)).up (by omega)).up (by omega)).up2).up (by omega)) ⟨?_, ?_, ?_, ?_, fun j x hj => ?_⟩ hq
                  · rw [pm_up_of (by omega), pm_up_o (by omega), pm_up_of (by omega), pm_up_at]
                  · rw [pm_up_of (by omega), pm_up_o (by omega), pm_up_at]
                  · rw [pm_up_at, List.length_append]; rfl
                  · rw [pm_up_of (by omega), pm_up_o (by omega), pm_up_of (by omega), pm_up_of (by omega), pm_up_at]; rfl
                  · rcases app_get hj with ⟨q1, q2⟩ | ⟨q1, q2⟩
                    · rw [pm_up_o (by omega), pm_up_of (by omega), pm_up_o (by omega), pm_up_o (by omega), pm_up_o (by omega)]
                      exact s5 j x q2
                    · subst q1; subst q2
                      rw [pm_up_o (by omega), pm_up_at]
                · exact absurd (by decide) h7
            · exact absurd (nI_pos' (by omega)) h5
      · -- rain
        have e42 : c = 42 := (nI_eq (b := 42) (by omega) (by omega)).mp h2
        rw [if_neg (by omega)] at eop
        rw [show pd_op (c :: t) = pd_op t by omega] at hq ⊢
        have ew : wk_run law gate B pa (c :: t) (wk_dg B code (pd_op t)) r s cm k = wk_run law gate B pa t (wk_dg B code (pd_op t)) (gd_rn s B) s cm (k + 1) := by
          simp only [wk_run]; rw [if_pos e42]
        rw [ew] at hq
        refine pm_go 9999 (by exact okX11_goWeek) rfl ?_; (try dsimp only [pm_st1, pm_st2, pm_cat2, pm_la, Option.toList, List.cons_append, List.nil_append])
        rw [s2]
        refine pm_cv (by exact okX11_goWeek) (by exact okX11_rained) rfl (by exact arX11_rained) (t_rained (d := 1) (n := B) (s := s) (by rw [f0, hB]) hB6.2 (by omega) (by omega)) rfl rfl rfl (by dsimp only; omega) rfl (Nat.le_of_ble_eq_true rfl) ⟨Nat.zero_le _, Nat.zero_le _⟩ ?_
        rintro _ _ _ _ ⟨rfl, rfl, rfl, rfl⟩ -
        refine pm_go 9999 (by exact okX11_goWeek) rfl ?_; (try dsimp only [pm_st1, pm_st2, pm_cat2, pm_la, Option.toList, List.cons_append, List.nil_append])
        rw [show pm_up mu 19 14 (nI (md_r7 (gd_rn s B))) 19 18 = 0 by rw [pm_up_of (by omega)]; exact s4]
        refine pm_zle (by exact okX11_goWeek) rfl (fun h7 => ?_) (fun h7 => ?_)
        · refine pm_go 53 (by exact okX11_goWeek) rfl ?_; (try dsimp only [pm_st1, pm_st2, pm_cat2, pm_la, Option.toList, List.cons_append, List.nil_append])
          rw [nI_1]
          refine pm_G.fg [false, false, false, false, true, true] ?_; dsimp only [pm_fg]
          exact ih (k + 1) _ s cm _ g2 (by omega) hct (by omega) (rOK_rain hR.2.2) hcm (hF.up (by omega)) ⟨pm_up_at, by rw [pm_up_of (by omega)]; exact s2, by rw [pm_up_of (by omega)]; exact s3, by rw [pm_up_of (by omega)]; exact s4, fun j x hj => by rw [pm_up_o (by omega)]; exact s5 j x hj⟩ hq
        · exact absurd (by decide) h7
/-- the reference's week, with the BEDS that a code writes -/
abbrev wk_of (g : gS) (pd : List Nat) (code : Nat) : Option (Nat × Nat) × List Nat × Nat × List Nat := wk_run (gL g) (gG g) (gB g) (gP g) pd (wk_dg (gB g) code (pd_op pd)) (gR g) (gM g) [] 0
set_option maxRecDepth 100000 in
set_option maxHeartbeats 1000000 in
theorem t_goWeek {z : mS} {code : Nat} (hz : zOK z) (h : MA z mu) (hw : pd_wf (gB z.1) 0 0 z.2.1 = none) (hcode : code < 2 ^ 31) (hd : 2 ≤ d) : pm_T cx mX11_goWeek d 0 0 [.ref 19, .int (nI code)] (sh_ i0 i1 ex) mu nu (fun v sg' mu' nu' => v = some (.int (nO ((wk_of z.1 z.2.1 code).1.map (fun q => q.1)))) ∧ sg' = sh_ i0 i1 ex ∧ nu' = nu ∧ wkF mu mu' ∧ wkS (wk_of z.1 z.2.1 code).2.1 (wk_of z.1 z.2.1 code).2.2.1 (wk_of z.1 z.2.1 code).2.2.2 (((wk_of z.1 z.2.1 code).1.map (fun q => q.2)).getD 0) mu') := by
  obtain ⟨⟨a1, a2, a3, a4, a5, a6, a7, a8, a9, b1, b2, b3, b4, b5⟩, c1, c2⟩ := id h
  obtain ⟨⟨hB6, hlaw, ⟨hg1, hg⟩, -, -, hpa, -, hR, -⟩, hp, -⟩ := hz
  obtain ⟨hok, hop⟩ := pd_wf_ok z.2.1 0 0 (by omega) hw
  refine pm_enterN 4 (by exact okX11_goWeek) rfl ?_; dsimp only [pm_la, pm_cat2, List.replicate, List.cons_append, List.nil_append, List.append_nil]
  refine pm_go 30 (by exact okX11_goWeek) rfl ?_; (try dsimp only [pm_st1, pm_st2, pm_cat2, pm_la, Option.toList, List.cons_append, List.nil_append])
  rw [a6]
  have hF : wkF mu (pm_up (pm_up (pm_up (pm_up mu 19 14 (nI (md_r7 (gR z.1)))) 19 15 (nI (gM z.1))) 19 16 0) 19 18 0) := (((wkF.rf.up (by omega)).up (by omega)).up (by omega)).up (by omega)
  have hS : wkS (gR z.1) (gM z.1) [] 0 (pm_up (pm_up (pm_up (pm_up mu 19 14 (nI (md_r7 (gR z.1)))) 19 15 (nI (gM z.1))) 19 16 0) 19 18 0) := ⟨by rw [pm_up_of (by omega), pm_up_of (by omega), pm_up_of (by omega), pm_up_at], by rw [pm_up_of (by omega), pm_up_of (by omega), pm_up_at], by rw [pm_up_of (by omega), pm_up_at]; rfl, by rw [pm_up_at]; rfl, fun j b hb => nil_get hb⟩
  refine pm_G.cast (L' := [some (.ref 19), some (.int (nI code)), some (.int (nI (gB z.1 ^ (1 - 1)))), some (.int (nI 1)), none, none]) (S' := []) (mu' := pm_up (pm_up (pm_up (pm_up mu 19 14 (nI (md_r7 (gR z.1)))) 19 15 (nI (gM z.1))) 19 16 0) 19 18 0) (nu' := nu) ?_ rfl rfl ?_ rfl
  · generalize pm_up (pm_up (pm_up (pm_up mu 19 14 (nI (md_r7 (gR z.1)))) 19 15 (nI (gM z.1))) 19 16 0) 19 18 0 = mu1 at hF hS ⊢
    have f : ∀ j, j ≠ 14 → j ≠ 15 → j ≠ 16 → j ≠ 18 → mu1 19 j = mu 19 j := hF.2
    refine t_goWeek_b (B := gB z.1) (pd := z.2.1) (by rw [f 0 (by omega) (by omega) (by omega) (by omega)]; exact a1) hB6 (by rw [f 6 (by omega) (by omega) (by omega) (by omega)]; exact a5) (fun k b hb => by rw [hF.1 22 (by omega) (by omega)]; exact b3 k b hb) hp (by omega) (by omega) ?_ (max 1 (pd_op z.2.1) - 1) 1 (by omega) (by omega)
    refine pm_go 53 (by exact okX11_goWeek) rfl ?_; (try dsimp only [pm_st1, pm_st2, pm_cat2, pm_la, Option.toList, List.cons_append, List.nil_append])
    exact t_goWeek_l (law := gL z.1) (gate := gG z.1) (pa := gP z.1) a1 hB6 a2 hlaw a3 hg b2 (fun k o hk ho => by have := (hpa k o hk ho).2; omega) a5 b3 hp hcode hd z.2.1 0 (gR z.1) (gM z.1) [] mu1 rfl (by omega) hok (by omega) hR ⟨List.nodup_nil, fun b hb => (List.not_mem_nil hb).elim⟩ hF hS (fun mu' g1 g2 => ⟨rfl, rfl, rfl, g1, g2⟩)
  · rw [show pm_up mu 19 14 (nI (md_r7 (gR z.1))) 19 9 = mu 19 9 from pm_up_of (by omega), a7]
end
end
section
/-! ===== the reference's judge, week, filled ===== -/
theorem MA.wk {z : mS} {mu mu' : pm_I} (h : MA z mu) (hF : wkF mu mu') : MA z mu' := h.same (fun j hj => hF.2 j (by omega) (by omega) (by omega) (by omega)) (fun k h1 h2 => hF.1 k (by omega) (by omega)) (hF.1 38 (by omega) (by omega)) (hF.1 39 (by omega) (by omega))
theorem wkF.fM {mu mu' : pm_I} (h : wkF mu mu') : fM mu mu' := fun k hk => h.1 k (by omega) (by omega)
theorem fM.tr {mu mu2 mu3 : pm_I} (h : fM mu mu2) (h2 : fM mu2 mu3) : fM mu mu3 := fun k hk => (h2 k hk).trans (h k hk)
def sp_judge (z : mS) (w : Int32) : Int32 :=
  if ¬ (0 ≤ w ∧ w ≤ 1) then -2 else if pd_wf (gB z.1) 0 0 z.2.1 ≠ none then -5 else if 0 < pd_op z.2.1 then -3 else match (wk_of z.1 z.2.1 0).1 with
    | none => -6
    | some q => if w = 0 then nI q.1 else nI q.2
/-- a WEEK done -/
abbrev gDone (g : gS) (x : Option (Nat × Nat) × List Nat × Nat × List Nat) : gS := (g.1, gC g, gP g, x.2.1, x.2.2.1, gK g ++ x.2.2.2, gV g)
def sp_week (z : mS) : Int32 × mS :=
  if pd_wf (gB z.1) 0 0 z.2.1 ≠ none then (-5, z) else if 0 < pd_op z.2.1 then (-3, z) else if (wk_of z.1 z.2.1 0).1 ≠ none then (-5, z) else (nI (wk_of z.1 z.2.1 0).2.2.2.length, (gDone z.1 (wk_of z.1 z.2.1 0), [], z.2.2))
/-- what stays true in a week -/
theorem wk_inv {law gate B : Nat} {pa : Nat → Option Nat} {K0 : List Nat} : ∀ (suf ch r : List Nat) (s : Nat) (cm : List Nat) (k : Nat), (∀ c ∈ suf, okc B c) → (∀ b ∈ ch, b < B) → ch.length = pd_op suf → rOK B r s → ((K0 ++ cm).Nodup ∧ ∀ b, s.testBit b = true ↔ b ∈ K0 ++ cm) →
    rOK B (wk_run law gate B pa suf ch r s cm k).2.1 (wk_run law gate B pa suf ch r s cm k).2.2.1 ∧ (K0 ++ (wk_run law gate B pa suf ch r s cm k).2.2.2).Nodup ∧ (∀ b, (wk_run law gate B pa suf ch r s cm k).2.2.1.testBit b = true ↔ b ∈ K0 ++ (wk_run law gate B pa suf ch r s cm k).2.2.2) ∧ ∀ q, (wk_run law gate B pa suf ch r s cm k).1 = some q → k ≤ q.1 ∧ q.1 < k + suf.length ∧ 1 ≤ q.2 ∧ q.2 ≤ 4 := by
  intro suf
  induction suf with
  | nil => intro ch r s cm k _ _ _ hR hK; exact ⟨hR, hK.1, hK.2, fun q hq => by simp [wk_run] at hq⟩
  | cons c t ih =>
    intro ch r s cm k hc hch hlen hR hK
    have hcc := hc c List.mem_cons_self
    have hct : ∀ x ∈ t, okc B x := fun x hx => hc x (List.mem_cons_of_mem _ hx)
    rw [pd_op_cons] at hlen
    have up : ∀ (q : Nat × Nat), (k + 1 ≤ q.1 ∧ q.1 < k + 1 + t.length ∧ 1 ≤ q.2 ∧ q.2 ≤ 4) → (k ≤ q.1 ∧ q.1 < k + (c :: t).length ∧ 1 ≤ q.2 ∧ q.2 ≤ 4) := by
      intro q hq; simp only [List.length_cons]; omega
    have wyk : ∀ b, ¬ gd_wy gate pa r s b = 0 → ∀ q, some (k, gd_wy gate pa r s b) = some q → k ≤ q.1 ∧ q.1 < k + (c :: t).length ∧ 1 ≤ q.2 ∧ q.2 ≤ 4 := by
      intro b hb q hq
      cases hq
      have := gd_wy_le (gate := gate) (pa := pa) (r := r) (s := s) (b := b)
      simp only [List.length_cons]
      omega
    by_cases e42 : c = 42
    · subst e42
      rw [if_neg (by omega)] at hlen
      have e : wk_run law gate B pa (42 :: t) ch r s cm k = wk_run law gate B pa t ch (gd_rn s B) s cm (k + 1) := rfl
      rw [e]
      obtain ⟨g1, g2, g3, g4⟩ := ih ch (gd_rn s B) s cm (k + 1) hct hch (by omega) (rOK_rain hR.2.2) hK
      exact ⟨g1, g2, g3, fun q hq => up q (g4 q hq)⟩
    · by_cases e46 : c = 46
      · subst e46
        rw [if_neg (by omega)] at hlen
        rw [wk_run_m]
        cases hnx : gd_nx law r with
        | none => exact ⟨hR, hK.1, hK.2, fun q hq => by cases hq; simp only [List.length_cons]; omega⟩
        | some b =>
          have hbr := gd_nx_mem hnx
          have hbs := (hR.2.1 b hbr).2
          have hbK : b ∉ K0 ++ cm := fun q => by rw [(hK.2 b).mpr q] at hbs; cases hbs
          obtain ⟨g1, g2, g3, g4⟩ := ih ch (r.filter (fun x => x != b)) (s ||| 2 ^ b) (cm ++ [b]) (k + 1) hct hch (by omega) (rOK_bloom hR hbr) (by
            rw [← List.append_assoc]
            refine ⟨List.nodup_append.mpr ⟨hK.1, by simp, fun x hx y hy => ?_⟩, fun x => ?_⟩
            · simp at hy
              subst hy
              intro q
              subst q
              exact hbK hx
            · have e9 : x ∈ (K0 ++ cm) ++ [b] ↔ (x ∈ K0 ++ cm ∨ x = b) := by rw [List.mem_append, List.mem_singleton]
              rw [e9, tb_set, Bool.or_eq_true, hK.2 x, decide_eq_true_iff]
              constructor
              · rintro (q | q)
                · exact Or.inl q
                · exact Or.inr q.symm
              · rintro (q | q)
                · exact Or.inl q
                · exact Or.inr q.symm)
          exact ⟨g1, g2, g3, fun q hq => up q (g4 q hq)⟩
      · by_cases e63 : c = 63
        · subst e63
          rw [if_pos rfl] at hlen
          cases ch with
          | nil => simp at hlen
          | cons b ch =>
            rw [wk_run_q]
            by_cases hw : gd_wy gate pa r s b = 0
            · rw [if_pos hw]
              obtain ⟨g1, g2, g3, g4⟩ := ih ch _ s cm (k + 1) hct (fun x hx => hch x (List.mem_cons_of_mem _ hx)) (by simp only [List.length_cons] at hlen; omega) (rOK_water hR (hch b List.mem_cons_self) (gd_wy_bit hw)) hK
              exact ⟨g1, g2, g3, fun q hq => up q (g4 q hq)⟩
            · rw [if_neg hw]
              exact ⟨hR, hK.1, hK.2, wyk b hw⟩
        · rw [if_neg e63] at hlen
          have hlet : 97 ≤ c ∧ c < 97 + B := by unfold okc at hcc; omega
          have e : wk_run law gate B pa (c :: t) ch r s cm k = if gd_wy gate pa r s (c - 97) = 0 then wk_run law gate B pa t ch ((c - 97) :: r.filter (fun x => x != (c - 97))) s cm (k + 1) else (some (k, gd_wy gate pa r s (c - 97)), r, s, cm) := by
            simp only [wk_run]; rw [if_neg e42, if_neg e46, if_neg e63]
          rw [e]
          by_cases hw : gd_wy gate pa r s (c - 97) = 0
          · rw [if_pos hw]
            obtain ⟨g1, g2, g3, g4⟩ := ih ch _ s cm (k + 1) hct hch (by omega) (rOK_water hR (by omega) (gd_wy_bit hw)) hK
            exact ⟨g1, g2, g3, fun q hq => up q (g4 q hq)⟩
          · rw [if_neg hw]
            exact ⟨hR, hK.1, hK.2, wyk _ hw⟩
theorem wk_dg_lt {B code : Nat} (hB : 0 < B) : ∀ m, ∀ b ∈ wk_dg B code m, b < B := by
  intro m
  induction m with
  | zero => intro b hb; cases hb
  | succ m ih =>
    intro b hb
    rcases List.mem_cons.mp hb with rfl | hb
    · exact Nat.mod_lt _ hB
    · exact ih b hb
theorem wk_dg_len {B code : Nat} : ∀ m, (wk_dg B code m).length = m := by
  intro m
  induction m with
  | zero => rfl
  | succ m ih => simp [wk_dg, ih]
theorem wk_of_inv {g : gS} {pd : List Nat} {code : Nat} (hg : gOK g) (hw : pd_wf (gB g) 0 0 pd = none) : rOK (gB g) (wk_of g pd code).2.1 (wk_of g pd code).2.2.1 ∧ (gK g ++ (wk_of g pd code).2.2.2).Nodup ∧ (∀ b, (wk_of g pd code).2.2.1.testBit b = true ↔ b ∈ gK g ++ (wk_of g pd code).2.2.2) ∧ ∀ q, (wk_of g pd code).1 = some q → q.1 < pd.length ∧ 1 ≤ q.2 ∧ q.2 ≤ 4 := by
  obtain ⟨hB6, -, -, -, -, -, -, hR, hK, -⟩ := hg
  obtain ⟨hok, hop⟩ := pd_wf_ok pd 0 0 (by omega) hw
  obtain ⟨g1, g2, g3, g4⟩ := wk_inv (law := gL g) (gate := gG g) (pa := gP g) (K0 := gK g) pd (wk_dg (gB g) code (pd_op pd)) (gR g) (gM g) [] 0 hok (wk_dg_lt (by omega) _) (wk_dg_len _) hR (by rw [List.append_nil]; exact hK)
  exact ⟨g1, g2, g3, fun q hq => by have := g4 q hq; omega⟩
theorem gOK_K6 {g : gS} (hg : gOK g) : ∀ b ∈ gK g, b < 6 := by
  obtain ⟨hB6, -, -, -, -, -, -, hR, hK, -⟩ := hg
  intro b hb
  have h1 := (hK.2 b).mpr hb
  have h2 := rOK_s hR hB6.2
  rcases Nat.lt_or_ge b 6 with q | q
  · exact q
  · have : gM g < 2 ^ b := Nat.lt_of_lt_of_le h2 (Nat.pow_le_pow_right (n := 2) (by omega) q)
    rw [Nat.testBit_lt_two_pow this] at h1
    cases h1
theorem wk_of_len {g : gS} {pd : List Nat} {code : Nat} (hg : gOK g) (hw : pd_wf (gB g) 0 0 pd = none) : (gK g).length + (wk_of g pd code).2.2.2.length ≤ 6 := by
  obtain ⟨g1, g2, g3, -⟩ := wk_of_inv (code := code) hg hw
  rw [← List.length_append]
  refine nodup_len g2 (fun b hb => ?_)
  have h1 := (g3 b).mpr hb
  have h2 := rOK_s g1 hg.1.2
  rcases Nat.lt_or_ge b 6 with q | q
  · exact q
  · have : (wk_of g pd code).2.2.1 < 2 ^ b := Nat.lt_of_lt_of_le h2 (Nat.pow_le_pow_right (n := 2) (by omega) q)
    rw [Nat.testBit_lt_two_pow this] at h1
    cases h1
section
variable {cx : pm_CX} {d n0 : Nat} {i0 i1 : Option Nat} {ex : List pm_C} {mu : pm_I} {nu : pm_J}
theorem nO_neg {o : Option Nat} {n : Nat} (h : ∀ b, o = some b → b < n) (hn : n < 2 ^ 31) : (nO o < 0 ↔ o = none) := by
  cases o with
  | none => exact ⟨fun _ => rfl, fun _ => by decide⟩
  | some b => exact ⟨fun q => absurd q (nI_pos (by have := h b rfl; omega)), fun q => by cases q⟩
theorem pd_wf_lt {B : Nat} : ∀ (r : List Nat) (k op b : Nat), pd_wf B k op r = some b → b < k + r.length := by
  intro r
  induction r with
  | nil => intro k op b h; cases h
  | cons c r ih =>
    intro k op b h
    simp only [pd_wf] at h
    simp only [List.length_cons]
    repeat' split at h
    all_goals first | (cases h; omega) | (have := ih _ _ _ h; omega)
set_option maxRecDepth 100000 in
set_option maxHeartbeats 1000000 in
theorem M_judge {z : mS} (w : Int32) (hz : zOK z) (h : MA z mu) (hd : 3 ≤ d) : pm_T cx mX11_judge d 0 0 [.ref 19, .int w] (sh_ i0 i1 ex) mu nu (mQ (.int (sp_judge z w)) z i0 i1 ex mu) := by
  obtain ⟨⟨a1, a2, a3, a4, a5, a6, a7, a8, a9, b1, b2, b3, b4, b5⟩, c1, c2⟩ := id h
  obtain ⟨hg, hp, -⟩ := id hz
  have hB6 := hg.1
  have hp1 := hp.1
  have hop := pd_op_le z.2.1
  unfold sp_judge
  refine pm_enterN 1 (by exact okX11_judge) rfl ?_; dsimp only [pm_la, pm_cat2, List.replicate, List.cons_append, List.nil_append, List.append_nil]
  refine pm_go 9999 (by exact okX11_judge) rfl ?_; (try dsimp only [pm_st1, pm_st2, pm_cat2, pm_la, Option.toList, List.cons_append, List.nil_append])
  refine pm_cs (by exact okX11_judge) (by exact okX11_in) rfl (by exact arX11_in) (t_in (d := 0) w 0 1) rfl (by dsimp only; omega) rfl (Nat.le_of_ble_eq_true rfl) ⟨Nat.zero_le _, Nat.zero_le _⟩ ?_
  rintro _ _ _ _ ⟨rfl, rfl, rfl, rfl⟩ -
  refine pm_go 9999 (by exact okX11_judge) rfl ?_; (try dsimp only [pm_st1, pm_st2, pm_cat2, pm_la, Option.toList, List.cons_append, List.nil_append])
  refine pm_zne (by exact okX11_judge) rfl (fun h1 => ?_) (fun h1 => ?_)
  · have h1 := bI_n.mp h1
    rw [if_neg (fun q => q h1)]
    refine pm_go 9999 (by exact okX11_judge) rfl ?_; (try dsimp only [pm_st1, pm_st2, pm_cat2, pm_la, Option.toList, List.cons_append, List.nil_append])
    refine pm_cv (by exact okX11_judge) (by exact okX11_weekFault) rfl (by exact arX11_weekFault) (t_weekFault (d := 2) a1 hB6 a5 b3 hp (by omega)) rfl rfl rfl (by dsimp only; omega) rfl (Nat.le_of_ble_eq_true rfl) ⟨Nat.zero_le _, Nat.zero_le _⟩ ?_
    rintro _ _ _ _ ⟨rfl, rfl, rfl, rfl⟩ -
    refine pm_go 9999 (by exact okX11_judge) rfl ?_; (try dsimp only [pm_st1, pm_st2, pm_cat2, pm_la, Option.toList, List.cons_append, List.nil_append])
    have ewf := nO_neg (o := pd_wf (gB z.1) 0 0 z.2.1) (n := 48) (fun b hb => by have := pd_wf_lt _ _ _ _ hb; omega) (by omega)
    refine pm_zlt (by exact okX11_judge) rfl (fun h2 => ?_) (fun h2 => ?_)
    · have h2 := ewf.mp h2
      rw [if_neg (fun q => q h2)]
      refine pm_go 9999 (by exact okX11_judge) rfl ?_; (try dsimp only [pm_st1, pm_st2, pm_cat2, pm_la, Option.toList, List.cons_append, List.nil_append])
      refine pm_cv (by exact okX11_judge) (by exact okX11_opens) rfl (by exact arX11_opens) (t_opens (d := 0) a5 b3 hp) rfl rfl rfl (by dsimp only; omega) rfl (Nat.le_of_ble_eq_true rfl) ⟨Nat.zero_le _, Nat.zero_le _⟩ ?_
      rintro _ _ _ _ ⟨rfl, rfl, rfl, rfl⟩ -
      refine pm_go 9999 (by exact okX11_judge) rfl ?_; (try dsimp only [pm_st1, pm_st2, pm_cat2, pm_la, Option.toList, List.cons_append, List.nil_append])
      refine pm_zle (by exact okX11_judge) rfl (fun h3 => ?_) (fun h3 => ?_)
      · have h4 : ¬ 0 < pd_op z.2.1 := fun q => nI_nle q (by omega) h3
        rw [if_neg h4]
        refine pm_go 9999 (by exact okX11_judge) rfl ?_; (try dsimp only [pm_st1, pm_st2, pm_cat2, pm_la, Option.toList, List.cons_append, List.nil_append])
        refine pm_cv (by exact okX11_judge) (by exact okX11_goWeek) rfl (by exact arX11_goWeek) (t_goWeek (d := 2) (code := 0) hz h h2 (by omega) (by omega)) rfl rfl rfl (by dsimp only; omega) rfl (Nat.le_of_ble_eq_true rfl) ⟨Nat.zero_le _, Nat.zero_le _⟩ ?_
        rintro v sg2 mu2 nu2 ⟨rfl, rfl, rfl, gF, gS1⟩ -
        obtain ⟨-, -, -, hi⟩ := wk_of_inv (code := 0) hg h2
        cases hr : (wk_of z.1 z.2.1 0).1 with
        | none =>
          refine pm_go 9999 (by exact okX11_judge) rfl ?_; (try dsimp only [pm_st1, pm_st2, pm_cat2, pm_la, Option.toList, List.cons_append, List.nil_append])
          refine pm_zlt (by exact okX11_judge) rfl (fun h5 => ?_) (fun h5 => ?_)
          · refine pm_go 9999 (by exact okX11_judge) rfl ?_; (try dsimp only [pm_st1, pm_st2, pm_cat2, pm_la, Option.toList, List.cons_append, List.nil_append])
            refine pm_ri (by exact okX11_judge) rfl rfl rfl (Nat.le_refl _) (Nat.le_refl _) (⟨rfl, rfl, h.wk gF, gF.fM⟩)
          · exact absurd (by decide) h5
        | some q =>
          obtain ⟨q1, q2, q3⟩ := hi q hr
          rw [hr] at gS1
          show pm_G _ _ _ _ _ _ [.int (nI q.1)] _ _ _
          refine pm_go 9999 (by exact okX11_judge) rfl ?_; (try dsimp only [pm_st1, pm_st2, pm_cat2, pm_la, Option.toList, List.cons_append, List.nil_append])
          refine pm_zlt (by exact okX11_judge) rfl (fun h5 => ?_) (fun h5 => ?_)
          · exact absurd h5 (nI_pos (by omega))
          · refine pm_go 9999 (by exact okX11_judge) rfl ?_; (try dsimp only [pm_st1, pm_st2, pm_cat2, pm_la, Option.toList, List.cons_append, List.nil_append])
            refine pm_zne (by exact okX11_judge) rfl (fun h6 => ?_) (fun h6 => ?_)
            · refine pm_go 9999 (by exact okX11_judge) rfl ?_; (try dsimp only [pm_st1, pm_st2, pm_cat2, pm_la, Option.toList, List.cons_append, List.nil_append])
              rw [gS1.2.2.2.1]
              refine pm_ri (by exact okX11_judge) rfl rfl rfl (Nat.le_refl _) (Nat.le_refl _) (⟨by show _ = some (Value.int (if w = 0 then nI q.1 else nI q.2)); rw [if_neg h6]; rfl, rfl, h.wk gF, gF.fM⟩)
            · refine pm_go 9999 (by exact okX11_judge) rfl ?_; (try dsimp only [pm_st1, pm_st2, pm_cat2, pm_la, Option.toList, List.cons_append, List.nil_append])
              refine pm_ri (by exact okX11_judge) rfl rfl rfl (Nat.le_refl _) (Nat.le_refl _) (⟨by show _ = some (Value.int (if w = 0 then nI q.1 else nI q.2)); rw [if_pos h6], rfl, h.wk gF, gF.fM⟩)
      · have h4 : 0 < pd_op z.2.1 := by
          rcases Nat.eq_zero_or_pos (pd_op z.2.1) with q | q
          · rw [q] at h3; exact absurd (by decide) h3
          · exact q
        rw [if_pos h4]
        refine pm_go 9999 (by exact okX11_judge) rfl ?_; (try dsimp only [pm_st1, pm_st2, pm_cat2, pm_la, Option.toList, List.cons_append, List.nil_append])
        refine pm_ri (by exact okX11_judge) rfl rfl rfl (Nat.le_refl _) (Nat.le_refl _) (⟨rfl, rfl, h, fM.rf⟩)
    · have h2 : pd_wf (gB z.1) 0 0 z.2.1 ≠ none := fun q => h2 (ewf.mpr q)
      rw [if_pos h2]
      refine pm_go 9999 (by exact okX11_judge) rfl ?_; (try dsimp only [pm_st1, pm_st2, pm_cat2, pm_la, Option.toList, List.cons_append, List.nil_append])
      refine pm_ri (by exact okX11_judge) rfl rfl rfl (Nat.le_refl _) (Nat.le_refl _) (⟨rfl, rfl, h, fM.rf⟩)
  · have h1 := bI_z.mp h1
    rw [if_pos h1]
    refine pm_go 9999 (by exact okX11_judge) rfl ?_; (try dsimp only [pm_st1, pm_st2, pm_cat2, pm_la, Option.toList, List.cons_append, List.nil_append])
    refine pm_ri (by exact okX11_judge) rfl rfl rfl (Nat.le_refl _) (Nat.le_refl _) (⟨rfl, rfl, h, fM.rf⟩)
set_option maxRecDepth 100000 in
set_option maxHeartbeats 1000000 in
theorem M_week_l {Q : pm_Po} {cm K : List Nat} (hlen : K.length + cm.length ≤ 6) : ∀ (j k : Nat) (mu : pm_I), k + j = cm.length → mu 19 16 = nI cm.length → mu 19 11 = nI (K.length + k) → (∀ i b, cm[i]? = some b → mu 25 i = nI b) → (∀ i b, (K ++ cm.take k)[i]? = some b → mu 23 i = nI b) → (∀ mu', (∀ a, a ≠ 19 → a ≠ 23 → mu' a = mu a) → (∀ i, i ≠ 11 → i ≠ 6 → mu' 19 i = mu 19 i) → mu' 19 6 = 0 → mu' 19 11 = nI (K ++ cm).length → (∀ i b, (K ++ cm)[i]? = some b → mu' 23 i = nI b) → Q (some (.int (nI cm.length))) (sh_ i0 i1 ex) mu' nu) → pm_G cx (mX11_week, d, 0, 0, n0, Q) 0 0 49 [some (.ref 19), some (.int (nI k))] [] (sh_ i0 i1 ex) mu nu := by
  intro j
  induction j with
  | zero =>
    intro k mu hk h16 h11 hcm hK hq
    have hk : k = cm.length := by omega
    subst hk
    rw [List.take_length] at hK
    refine pm_go 9999 (by exact okX11_week) rfl ?_; (try dsimp only [pm_st1, pm_st2, pm_cat2, pm_la, Option.toList, List.cons_append, List.nil_append])
    rw [h16]
    refine pm_ige (by exact okX11_week) rfl (fun h1 => ?_) (fun h1 => ?_)
    · refine pm_go 9999 (by exact okX11_week) rfl ?_; (try dsimp only [pm_st1, pm_st2, pm_cat2, pm_la, Option.toList, List.cons_append, List.nil_append])
      rw [show pm_up mu 19 6 0 19 16 = nI cm.length by rw [pm_up_of (by omega)]; exact h16]
      refine pm_ri (by exact okX11_week) rfl rfl rfl (Nat.le_refl _) (Nat.le_refl _) (hq _ (fun a h1 h2 => pm_up_ne h1) (fun i h1 h2 => pm_up_of h2) pm_up_at (by rw [pm_up_of (by omega), List.length_append]; exact h11) (fun i b hb => by rw [pm_up_o (by omega)]; exact hK i b hb))
    · exact absurd (nI_le (by omega) (by omega)) h1
  | succ j ih =>
    intro k mu hk h16 h11 hcm hK hq
    have hlt : k < cm.length := by omega
    have hget := List.getElem?_eq_getElem hlt
    refine pm_go 9999 (by exact okX11_week) rfl ?_; (try dsimp only [pm_st1, pm_st2, pm_cat2, pm_la, Option.toList, List.cons_append, List.nil_append])
    rw [h16]
    refine pm_ige (by exact okX11_week) rfl (fun h1 => ?_) (fun h1 => ?_)
    · exact absurd h1 (nI_ge (by omega) (by omega))
    · refine pm_go 9999 (by exact okX11_week) rfl ?_; (try dsimp only [pm_st1, pm_st2, pm_cat2, pm_la, Option.toList, List.cons_append, List.nil_append])
      rw [h11]
      refine pm_ial (by exact okX11_week) rfl rfl (vp_in_nI (by omega) (by omega)) ?_
      rw [nI_clamp (by omega), hcm k _ hget]
      refine pm_ias (by exact okX11_week) rfl rfl (vp_in_nI (by omega) (by omega)) ?_
      rw [nI_clamp (by omega)]
      refine pm_go 49 (by exact okX11_week) rfl ?_; (try dsimp only [pm_st1, pm_st2, pm_cat2, pm_la, Option.toList, List.cons_append, List.nil_append])
      rw [show pm_up mu 23 (K.length + k) (nI cm[k]) 19 11 = nI (K.length + k) by rw [pm_up_o (by omega)]; exact h11, nI_1, nI_1]
      refine ih (k + 1) _ (by omega) (by rw [pm_up_of (by omega), pm_up_o (by omega)]; exact h16) pm_up_at (fun i b hb => by rw [pm_up_o (by omega), pm_up_o (by omega)]; exact hcm i b hb) (fun i b hb => ?_) (fun mu' g1 g2 g3 g4 g5 => hq mu' (fun a q1 q2 => by rw [g1 a q1 q2, pm_up_ne q1, pm_up_ne q2]) (fun i q1 q2 => by rw [g2 i q1 q2, pm_up_of q1, pm_up_o (by omega)]) g3 g4 g5)
      rw [List.take_add_one, hget, ← List.append_assoc] at hb
      have hl : (K ++ cm.take k).length = K.length + k := by rw [List.length_append, List.length_take]; omega
      rcases app_get hb with ⟨q1, q2⟩ | ⟨q1, q2⟩
      · rw [hl] at q1
        rw [pm_up_o (by omega), pm_up_of (by omega)]
        exact hK i b q2
      · rw [hl] at q1
        subst q1; subst q2
        rw [pm_up_o (by omega), pm_up_at]
set_option maxRecDepth 100000 in
set_option maxHeartbeats 1000000 in
theorem M_week {z : mS} (hz : zOK z) (h : MA z mu) (hd : 3 ≤ d) : pm_T cx mX11_week d 0 0 [.ref 19] (sh_ i0 i1 ex) mu nu (mQ (.int (sp_week z).1) (sp_week z).2 i0 i1 ex mu) := by
  obtain ⟨⟨a1, a2, a3, a4, a5, a6, a7, a8, a9, b1, b2, b3, b4, b5⟩, c1, c2⟩ := id h
  obtain ⟨hg, hp, -⟩ := id hz
  have hB6 := hg.1
  have hp1 := hp.1
  have hop := pd_op_le z.2.1
  unfold sp_week
  refine pm_enterN 1 (by exact okX11_week) rfl ?_; dsimp only [pm_la, pm_cat2, List.replicate, List.cons_append, List.nil_append, List.append_nil]
  refine pm_go 9999 (by exact okX11_week) rfl ?_; (try dsimp only [pm_st1, pm_st2, pm_cat2, pm_la, Option.toList, List.cons_append, List.nil_append])
  refine pm_cv (by exact okX11_week) (by exact okX11_weekFault) rfl (by exact arX11_weekFault) (t_weekFault (d := 2) a1 hB6 a5 b3 hp (by omega)) rfl rfl rfl (by dsimp only; omega) rfl (Nat.le_of_ble_eq_true rfl) ⟨Nat.zero_le _, Nat.zero_le _⟩ ?_
  rintro _ _ _ _ ⟨rfl, rfl, rfl, rfl⟩ -
  refine pm_go 9999 (by exact okX11_week) rfl ?_; (try dsimp only [pm_st1, pm_st2, pm_cat2, pm_la, Option.toList, List.cons_append, List.nil_append])
  have ewf := nO_neg (o := pd_wf (gB z.1) 0 0 z.2.1) (n := 48) (fun b hb => by have := pd_wf_lt _ _ _ _ hb; omega) (by omega)
  refine pm_zlt (by exact okX11_week) rfl (fun h2 => ?_) (fun h2 => ?_)
  · have h2 := ewf.mp h2
    rw [if_neg (fun q => q h2)]
    refine pm_go 9999 (by exact okX11_week) rfl ?_; (try dsimp only [pm_st1, pm_st2, pm_cat2, pm_la, Option.toList, List.cons_append, List.nil_append])
    refine pm_cv (by exact okX11_week) (by exact okX11_opens) rfl (by exact arX11_opens) (t_opens (d := 0) a5 b3 hp) rfl rfl rfl (by dsimp only; omega) rfl (Nat.le_of_ble_eq_true rfl) ⟨Nat.zero_le _, Nat.zero_le _⟩ ?_
    rintro _ _ _ _ ⟨rfl, rfl, rfl, rfl⟩ -
    refine pm_go 9999 (by exact okX11_week) rfl ?_; (try dsimp only [pm_st1, pm_st2, pm_cat2, pm_la, Option.toList, List.cons_append, List.nil_append])
    refine pm_zle (by exact okX11_week) rfl (fun h3 => ?_) (fun h3 => ?_)
    · have h4 : ¬ 0 < pd_op z.2.1 := fun q => nI_nle q (by omega) h3
      rw [if_neg h4]
      refine pm_go 9999 (by exact okX11_week) rfl ?_; (try dsimp only [pm_st1, pm_st2, pm_cat2, pm_la, Option.toList, List.cons_append, List.nil_append])
      refine pm_cv (by exact okX11_week) (by exact okX11_goWeek) rfl (by exact arX11_goWeek) (t_goWeek (d := 2) (code := 0) hz h h2 (by omega) (by omega)) rfl rfl rfl (by dsimp only; omega) rfl (Nat.le_of_ble_eq_true rfl) ⟨Nat.zero_le _, Nat.zero_le _⟩ ?_
      rintro v sg2 mu2 nu2 ⟨rfl, rfl, rfl, gF, gS1⟩ -
      obtain ⟨-, -, -, hi⟩ := wk_of_inv (code := 0) hg h2
      have hlen := wk_of_len (code := 0) hg h2
      have erun := nO_neg (o := (wk_of z.1 z.2.1 0).1.map (fun q => q.1)) (n := 48) (fun b hb => by
        obtain ⟨q, hq, rfl⟩ := Option.map_eq_some_iff.mp hb
        have := (hi q hq).1
        omega) (by omega)
      refine pm_go 9999 (by exact okX11_week) rfl ?_; (try dsimp only [pm_st1, pm_st2, pm_cat2, pm_la, Option.toList, List.cons_append, List.nil_append])
      refine pm_zlt (by exact okX11_week) rfl (fun h5 => ?_) (fun h5 => ?_)
      · have h5 : (wk_of z.1 z.2.1 0).1 = none := by
          have := erun.mp h5
          cases hh : (wk_of z.1 z.2.1 0).1 with
          | none => rfl
          | some q => rw [hh] at this; cases this
        rw [if_neg (fun q => q h5)]
        obtain ⟨s1, s2, s3, s4, s5⟩ := gS1
        have hMA := h.wk gF
        obtain ⟨⟨a1, a2, a3, a4, a5, a6, a7, a8, a9, b1, b2, b3, b4, b5⟩, c1, c2⟩ := id hMA
        refine pm_go 49 (by exact okX11_week) rfl ?_; (try dsimp only [pm_st1, pm_st2, pm_cat2, pm_la, Option.toList, List.cons_append, List.nil_append])
        rw [s1, show pm_up mu2 19 8 (nI (md_r7 (wk_of z.1 z.2.1 0).2.1)) 19 15 = nI (wk_of z.1 z.2.1 0).2.2.1 by rw [pm_up_of (by omega)]; exact s2]
        refine M_week_l (cm := (wk_of z.1 z.2.1 0).2.2.2) (K := gK z.1) hlen (wk_of z.1 z.2.1 0).2.2.2.length 0 _ (by omega) (by rw [pm_up_of (by omega), pm_up_of (by omega)]; exact s3) (by rw [pm_up_of (by omega), pm_up_of (by omega)]; exact a8) (fun i b hb => by rw [pm_up_o (by omega), pm_up_o (by omega)]; exact s5 i b hb) (fun i b hb => by rw [pm_up_o (by omega), pm_up_o (by omega)]; rw [List.take_zero, List.append_nil] at hb; exact b4 i b hb) (fun mu' g1 g2 g3 g4 g5 => ⟨rfl, rfl, ⟨⟨?_, ?_, ?_, ?_, g3, ?_, ?_, g4, ?_, ?_, ?_, fun k b hb => nil_get hb, g5, ?_⟩, ?_, ?_⟩, ?_⟩)
        · rw [g2 0 (by omega) (by omega), pm_up_of (by omega), pm_up_of (by omega)]; exact a1
        · rw [g2 3 (by omega) (by omega), pm_up_of (by omega), pm_up_of (by omega)]; exact a2
        · rw [g2 4 (by omega) (by omega), pm_up_of (by omega), pm_up_of (by omega)]; exact a3
        · rw [g2 5 (by omega) (by omega), pm_up_of (by omega), pm_up_of (by omega)]; exact a4
        · rw [g2 8 (by omega) (by omega), pm_up_of (by omega), pm_up_at]
        · rw [g2 9 (by omega) (by omega), pm_up_at]
        · rw [g2 12 (by omega) (by omega), pm_up_of (by omega), pm_up_of (by omega)]; exact a9
        · rw [g1 20 (by omega) (by omega)]; exact b1
        · rw [g1 21 (by omega) (by omega)]; exact b2
        · rw [g1 24 (by omega) (by omega)]; exact b5
        · exact c1.same (by rw [g1 38 (by omega) (by omega)]; rfl) (by rw [g1 39 (by omega) (by omega)]; rfl)
        · exact c2.same (by rw [g1 38 (by omega) (by omega)]; rfl) (by rw [g1 39 (by omega) (by omega)]; rfl)
        · intro a ha
          rw [g1 a (by omega) (by omega), pm_up_ne (by omega), pm_up_ne (by omega)]
          exact gF.fM a ha
      · have h5 : (wk_of z.1 z.2.1 0).1 ≠ none := fun q => h5 (erun.mpr (by rw [q]; rfl))
        rw [if_pos h5]
        refine pm_go 9999 (by exact okX11_week) rfl ?_; (try dsimp only [pm_st1, pm_st2, pm_cat2, pm_la, Option.toList, List.cons_append, List.nil_append])
        refine pm_ri (by exact okX11_week) rfl rfl rfl (Nat.le_refl _) (Nat.le_refl _) (⟨rfl, rfl, h.wk gF, gF.fM⟩)
    · have h4 : 0 < pd_op z.2.1 := by
        rcases Nat.eq_zero_or_pos (pd_op z.2.1) with q | q
        · rw [q] at h3; exact absurd (by decide) h3
        · exact q
      rw [if_pos h4]
      refine pm_go 9999 (by exact okX11_week) rfl ?_; (try dsimp only [pm_st1, pm_st2, pm_cat2, pm_la, Option.toList, List.cons_append, List.nil_append])
      refine pm_ri (by exact okX11_week) rfl rfl rfl (Nat.le_refl _) (Nat.le_refl _) (⟨rfl, rfl, h, fM.rf⟩)
  · have h2 : pd_wf (gB z.1) 0 0 z.2.1 ≠ none := fun q => h2 (ewf.mpr q)
    rw [if_pos h2]
    refine pm_go 9999 (by exact okX11_week) rfl ?_; (try dsimp only [pm_st1, pm_st2, pm_cat2, pm_la, Option.toList, List.cons_append, List.nil_append])
    refine pm_ri (by exact okX11_week) rfl rfl rfl (Nat.le_refl _) (Nat.le_refl _) (⟨rfl, rfl, h, fM.rf⟩)
/-- it is as it was SEEN -/
def fl_sn (cm : List Nat) (V : List (Nat × Nat)) : Prop := ∀ q ∈ V, cm[q.1]? = some q.2
theorem fl_sn_app {cm : List Nat} {V : List (Nat × Nat)} {q : Nat × Nat} : fl_sn cm (V ++ [q]) ↔ fl_sn cm V ∧ cm[q.1]? = some q.2 := by
  unfold fl_sn
  constructor
  · intro h
    exact ⟨fun x hx => h x (List.mem_append_left _ hx), h q (List.mem_append_right _ (by simp))⟩
  · rintro ⟨h1, h2⟩ x hx
    rcases List.mem_append.mp hx with q1 | q1
    · exact h1 x q1
    · simp at q1; subst q1; exact h2
set_option maxRecDepth 100000 in
set_option maxHeartbeats 1000000 in
theorem t_isAsSeen_l {Q : pm_Po} {cm : List Nat} {V : List (Nat × Nat)} (hcl : cm.length ≤ 6) (hc6 : ∀ b ∈ cm, b < 6) (hV : V.length ≤ 6) (hV6 : ∀ q ∈ V, q.1 < 48 ∧ q.2 < 6) (h12 : mu 19 12 = nI V.length) (h16 : mu 19 16 = nI cm.length) (hcm : ∀ j b, cm[j]? = some b → mu 25 j = nI b) (h24 : ∀ k q, V[k]? = some q → mu 24 (2 * k) = nI q.1 ∧ mu 24 (2 * k + 1) = nI q.2) : ∀ (j k : Nat) (P : Prop) [Decidable P], k + j = V.length → (P ↔ fl_sn cm (V.take k)) → (∀ (P' : Prop) [Decidable P'], (P' ↔ fl_sn cm V) → Q (some (.int (bI P'))) (sh_ i0 i1 ex) mu nu) → pm_G cx (mX11_isAsSeen, d, 0, 0, n0, Q) 0 0 4 [some (.ref 19), some (.int (bI P)), some (.int (nI k)), none] [] (sh_ i0 i1 ex) mu nu := by
  intro j
  induction j with
  | zero =>
    intro k P _ hk hPk hq
    have hk : k = V.length := by omega
    subst hk
    rw [List.take_length] at hPk
    refine pm_go 9999 (by exact okX11_isAsSeen) rfl ?_; (try dsimp only [pm_st1, pm_st2, pm_cat2, pm_la, Option.toList, List.cons_append, List.nil_append])
    rw [h12]
    refine pm_ige (by exact okX11_isAsSeen) rfl (fun h1 => ?_) (fun h1 => ?_)
    · refine pm_go 9999 (by exact okX11_isAsSeen) rfl ?_; (try dsimp only [pm_st1, pm_st2, pm_cat2, pm_la, Option.toList, List.cons_append, List.nil_append])
      exact pm_ri (by exact okX11_isAsSeen) rfl rfl bI_w (Nat.le_refl _) (Nat.le_refl _) (hq P hPk)
    · exact absurd (nI_le (by omega) (by omega)) h1
  | succ j ih =>
    intro k P _ hk hPk hq
    have hlt : k < V.length := by omega
    have hget := List.getElem?_eq_getElem hlt
    obtain ⟨v1, v2⟩ := h24 k _ hget
    obtain ⟨u1, u2⟩ := hV6 _ (List.getElem_mem hlt)
    have e2 : (2 : Int32) * nI k = nI (2 * k) := pk_mul 2 k
    have etake : V.take (k + 1) = V.take k ++ [V[k]] := by rw [List.take_add_one, hget]; rfl
    have no : ∀ x3, ¬ (P ∧ cm[(V[k]).1]? = some (V[k]).2) → pm_G cx (mX11_isAsSeen, d, 0, 0, n0, Q) 0 0 66 [some (.ref 19), some (.int (bI P)), some (.int (nI k)), some (.int x3)] [] (sh_ i0 i1 ex) mu nu := by
      intro x3 hn
      refine pm_go 4 (by exact okX11_isAsSeen) rfl ?_; (try dsimp only [pm_st1, pm_st2, pm_cat2, pm_la, Option.toList, List.cons_append, List.nil_append])
      rw [nI_1]
      refine pm_G.fg [false, false, false, true] ?_; dsimp only [pm_fg]
      have := ih (k + 1) False (by omega) (by
        rw [etake, fl_sn_app]
        exact ⟨fun q => q.elim, fun q => hn ⟨hPk.mpr q.1, q.2⟩⟩) hq
      rw [bI_0 (fun q => q)] at this
      exact this
    refine pm_go 9999 (by exact okX11_isAsSeen) rfl ?_; (try dsimp only [pm_st1, pm_st2, pm_cat2, pm_la, Option.toList, List.cons_append, List.nil_append])
    rw [h12]
    refine pm_ige (by exact okX11_isAsSeen) rfl (fun h1 => ?_) (fun h1 => ?_)
    · exact absurd h1 (nI_ge (by omega) (by omega))
    · refine pm_go 9999 (by exact okX11_isAsSeen) rfl ?_; (try dsimp only [pm_st1, pm_st2, pm_cat2, pm_la, Option.toList, List.cons_append, List.nil_append])
      rw [e2]
      refine pm_ial (by exact okX11_isAsSeen) rfl rfl (vp_in_nI (by omega) (by omega)) ?_
      rw [nI_clamp (by omega), v1]
      refine pm_go 66 (by exact okX11_isAsSeen) rfl ?_; (try dsimp only [pm_st1, pm_st2, pm_cat2, pm_la, Option.toList, List.cons_append, List.nil_append])
      refine pm_zeq (by exact okX11_isAsSeen) rfl (fun h2 => ?_) (fun h2 => ?_)
      · exact no _ (fun q => bI_z.mp h2 q.1)
      · have hP := bI_n.mp h2
        refine pm_go 9999 (by exact okX11_isAsSeen) rfl ?_; (try dsimp only [pm_st1, pm_st2, pm_cat2, pm_la, Option.toList, List.cons_append, List.nil_append])
        rw [h16]
        refine pm_ige (by exact okX11_isAsSeen) rfl (fun h3 => ?_) (fun h3 => ?_)
        · have h4 := (nI_leI (by omega) (by omega)).mp h3
          exact no _ (fun q => by rw [List.getElem?_eq_none (by omega)] at q; cases q.2)
        · have h4 : (V[k]).1 < cm.length := by
            rcases Nat.lt_or_ge (V[k]).1 cm.length with q | q
            · exact q
            · exact absurd (nI_le q (by omega)) h3
          have hg := List.getElem?_eq_getElem h4
          have hb6 := hc6 _ (List.getElem_mem h4)
          refine pm_go 9999 (by exact okX11_isAsSeen) rfl ?_; (try dsimp only [pm_st1, pm_st2, pm_cat2, pm_la, Option.toList, List.cons_append, List.nil_append])
          refine pm_ige (by exact okX11_isAsSeen) rfl (fun h5 => ?_) (fun h5 => ?_)
          · have := (nI_leI (a := 6) (by omega) (by omega)).mp h5
            omega
          · refine pm_go 9999 (by exact okX11_isAsSeen) rfl ?_; (try dsimp only [pm_st1, pm_st2, pm_cat2, pm_la, Option.toList, List.cons_append, List.nil_append])
            refine pm_ial (by exact okX11_isAsSeen) rfl rfl (vp_in_nI (by omega) (by omega)) ?_
            rw [nI_clamp (by omega), hcm _ _ hg]
            refine pm_go 9999 (by exact okX11_isAsSeen) rfl ?_; (try dsimp only [pm_st1, pm_st2, pm_cat2, pm_la, Option.toList, List.cons_append, List.nil_append])
            rw [e2, nI_1]
            refine pm_ial (by exact okX11_isAsSeen) rfl rfl (vp_in_nI (by omega) (by omega)) ?_
            rw [nI_clamp (by omega), v2]
            refine pm_ine (by exact okX11_isAsSeen) rfl (fun h6 => ?_) (fun h6 => ?_)
            · exact no _ (fun q => h6 (by
                have := q.2
                rw [hg] at this
                rw [Option.some.inj this]))
            · have h7 := (nI_eq (by omega) (by omega)).mp h6
              refine pm_go 4 (by exact okX11_isAsSeen) rfl ?_; (try dsimp only [pm_st1, pm_st2, pm_cat2, pm_la, Option.toList, List.cons_append, List.nil_append])
              rw [nI_1]
              refine pm_G.fg [false, false, false, true] ?_; dsimp only [pm_fg]
              have := ih (k + 1) True (by omega) (by
                rw [etake, fl_sn_app]
                exact ⟨fun _ => ⟨hPk.mp hP, by rw [hg, h7]⟩, fun _ => trivial⟩) hq
              rw [bI_1 trivial] at this
              exact this
set_option maxRecDepth 100000 in
set_option maxHeartbeats 1000000 in
theorem t_isAsSeen {cm : List Nat} {V : List (Nat × Nat)} (hcl : cm.length ≤ 6) (hc6 : ∀ b ∈ cm, b < 6) (hV : V.length ≤ 6) (hV6 : ∀ q ∈ V, q.1 < 48 ∧ q.2 < 6) (h12 : mu 19 12 = nI V.length) (h16 : mu 19 16 = nI cm.length) (hcm : ∀ j b, cm[j]? = some b → mu 25 j = nI b) (h24 : ∀ k q, V[k]? = some q → mu 24 (2 * k) = nI q.1 ∧ mu 24 (2 * k + 1) = nI q.2) : pm_T cx mX11_isAsSeen d 0 0 [.ref 19] (sh_ i0 i1 ex) mu nu (fun v sg' mu' nu' => (fl_sn cm V → v = some (.int 1)) ∧ (¬ fl_sn cm V → v = some (.int 0)) ∧ sh_ i0 i1 ex = sg' ∧ mu = mu' ∧ nu = nu') := by
  refine pm_enterN 3 (by exact okX11_isAsSeen) rfl ?_; dsimp only [pm_la, pm_cat2, List.replicate, List.cons_append, List.nil_append, List.append_nil]
  refine pm_go 4 (by exact okX11_isAsSeen) rfl ?_; (try dsimp only [pm_st1, pm_st2, pm_cat2, pm_la, Option.toList, List.cons_append, List.nil_append])
  have := t_isAsSeen_l (cx := cx) (d := d) (n0 := (sh_ i0 i1 ex).length) (i0 := i0) (i1 := i1) (ex := ex) (mu := mu) (nu := nu) (Q := fun v sg' mu' nu' => (fl_sn cm V → v = some (.int 1)) ∧ (¬ fl_sn cm V → v = some (.int 0)) ∧ sh_ i0 i1 ex = sg' ∧ mu = mu' ∧ nu = nu') hcl hc6 hV hV6 h12 h16 hcm h24 V.length 0 True (by omega) ⟨fun _ q hq => (List.not_mem_nil hq).elim, fun _ => trivial⟩ (fun P' _ hP' => ⟨fun q => by rw [bI_1 (hP'.mpr q)], fun q => by rw [bI_0 (fun w => q (hP'.mp w))], rfl, rfl, rfl⟩)
  rw [bI_1 trivial] at this
  exact this
end
end
section
/-! ===== the reference's filled ===== -/
/-- the BEDS that a code writes are a way to fill it -/
def fl_b (g : gS) (pd : List Nat) (code : Nat) : Bool := (wk_of g pd code).1.isNone && (gV g).all (fun q => decide ((wk_of g pd code).2.2.2[q.1]? = some q.2))
theorem fl_b_iff {g : gS} {pd : List Nat} {code : Nat} : fl_b g pd code = true ↔ (wk_of g pd code).1 = none ∧ fl_sn (wk_of g pd code).2.2.2 (gV g) := by
  unfold fl_b fl_sn
  rw [Bool.and_eq_true, Option.isNone_iff_eq_none, List.all_eq_true]
  constructor
  · rintro ⟨h1, h2⟩; exact ⟨h1, fun q hq => of_decide_eq_true (h2 q hq)⟩
  · rintro ⟨h1, h2⟩; exact ⟨h1, fun q hq => decide_eq_true (h2 q hq)⟩
/-- the first that is so, below n -/
def fl_f (p : Nat → Bool) : Nat → Option Nat
  | 0 => none
  | n + 1 => match fl_f p n with
    | some c => some c
    | none => if p n = true then some n else none
theorem fl_f_lt {p : Nat → Bool} : ∀ {n c : Nat}, fl_f p n = some c → c < n := by
  intro n
  induction n with
  | zero => intro c h; cases h
  | succ n ih =>
    intro c h
    unfold fl_f at h
    split at h
    · rename_i x hx
      cases h
      exact Nat.lt_succ_of_lt (ih hx)
    · split at h
      · cases h; exact Nat.lt_succ_self _
      · cases h
def sp_filled (z : mS) (i : Int32) : Int32 :=
  if pd_wf (gB z.1) 0 0 z.2.1 ≠ none then -5 else if i = -1 then nI (fb_ct (fl_b z.1 z.2.1) (gB z.1 ^ pd_op z.2.1)) else match fl_f (fl_b z.1 z.2.1) (gB z.1 ^ pd_op z.2.1) with
    | none => -6
    | some c => if isB (pd_op z.2.1) i then nI (c / gB z.1 ^ (pd_op z.2.1 - 1 - i.toNatClampNeg) % gB z.1) else -6
section
variable {cx : pm_CX} {d n0 : Nat} {i0 i1 : Option Nat} {ex : List pm_C} {mu : pm_I} {nu : pm_J}
set_option maxRecDepth 100000 in
set_option maxHeartbeats 1000000 in
theorem M_filled_p {Q : pm_Po} {pd : List Nat} {B : Nat} {x1 : Int32} (hB : mu 19 0 = nI B) (hB6 : 2 ≤ B ∧ B ≤ 6) (hN : mu 19 6 = nI pd.length) (hP : ∀ k b, pd[k]? = some b → mu 22 k = nI b) (hp : dOK pd) (ho : pd_op pd ≤ 4) (hd : 1 ≤ d) (kk : pm_G cx (mX11_filled, d, 0, 0, n0, Q) 0 0 35 [some (.ref 19), some (.int x1), some (.int (nI (B ^ pd_op pd))), none, none, none, none] [] (sh_ i0 i1 ex) mu nu) : ∀ (j k : Nat), k + j = pd_op pd → pm_G cx (mX11_filled, d, 0, 0, n0, Q) 0 0 14 [some (.ref 19), some (.int x1), some (.int (nI (B ^ k))), some (.int (nI k)), none, none, none] [] (sh_ i0 i1 ex) mu nu := by
  intro j
  induction j with
  | zero =>
    intro k hk
    have hk : k = pd_op pd := by omega
    subst hk
    refine pm_go 9999 (by exact okX11_filled) rfl ?_; (try dsimp only [pm_st1, pm_st2, pm_cat2, pm_la, Option.toList, List.cons_append, List.nil_append])
    refine pm_cv (by exact okX11_filled) (by exact okX11_opens) rfl (by exact arX11_opens) (t_opens (d := 0) hN hP hp) rfl rfl rfl (by dsimp only; omega) rfl (Nat.le_of_ble_eq_true rfl) ⟨Nat.zero_le _, Nat.zero_le _⟩ ?_
    rintro _ _ _ _ ⟨rfl, rfl, rfl, rfl⟩ -
    refine pm_go 9999 (by exact okX11_filled) rfl ?_; (try dsimp only [pm_st1, pm_st2, pm_cat2, pm_la, Option.toList, List.cons_append, List.nil_append])
    refine pm_ige (by exact okX11_filled) rfl (fun h2 => ?_) (fun h2 => ?_)
    · refine pm_G.fg [false, false, false, true, false, false, false] ?_; dsimp only [pm_fg]
      exact kk
    · exact absurd (nI_le (by omega) (by omega)) h2
  | succ j ih =>
    intro k hk
    refine pm_go 9999 (by exact okX11_filled) rfl ?_; (try dsimp only [pm_st1, pm_st2, pm_cat2, pm_la, Option.toList, List.cons_append, List.nil_append])
    refine pm_cv (by exact okX11_filled) (by exact okX11_opens) rfl (by exact arX11_opens) (t_opens (d := 0) hN hP hp) rfl rfl rfl (by dsimp only; omega) rfl (Nat.le_of_ble_eq_true rfl) ⟨Nat.zero_le _, Nat.zero_le _⟩ ?_
    rintro _ _ _ _ ⟨rfl, rfl, rfl, rfl⟩ -
    refine pm_go 9999 (by exact okX11_filled) rfl ?_; (try dsimp only [pm_st1, pm_st2, pm_cat2, pm_la, Option.toList, List.cons_append, List.nil_append])
    refine pm_ige (by exact okX11_filled) rfl (fun h2 => ?_) (fun h2 => ?_)
    · have := (nI_leI (by omega) (by omega)).mp h2
      omega
    · refine pm_go 14 (by exact okX11_filled) rfl ?_; (try dsimp only [pm_st1, pm_st2, pm_cat2, pm_la, Option.toList, List.cons_append, List.nil_append])
      rw [hB, pk_mul, nI_1, ← Nat.pow_succ]
      exact ih (k + 1) (by omega)
theorem wk_of_c6 {g : gS} {pd : List Nat} {code : Nat} (hg : gOK g) (hw : pd_wf (gB g) 0 0 pd = none) : (∀ b ∈ (wk_of g pd code).2.2.2, b < 6) ∧ (wk_of g pd code).2.2.2.length ≤ 6 := by
  obtain ⟨g1, g2, g3, -⟩ := wk_of_inv (code := code) hg hw
  refine ⟨fun b hb => ?_, by have := wk_of_len (code := code) hg hw; omega⟩
  have h1 := (g3 b).mpr (List.mem_append_right _ hb)
  have h2 := rOK_s g1 hg.1.2
  rcases Nat.lt_or_ge b 6 with q | q
  · exact q
  · have : (wk_of g pd code).2.2.1 < 2 ^ b := Nat.lt_of_lt_of_le h2 (Nat.pow_le_pow_right (n := 2) (by omega) q)
    rw [Nat.testBit_lt_two_pow this] at h1
    cases h1
theorem nO_lt0 {o : Option Nat} {n : Nat} (h : ∀ b, o = some b → b < n) (hn : n < 2 ^ 31) : (0 ≤ nO o ↔ o ≠ none) := by
  rw [← Int32.not_lt, nO_neg h hn]
set_option maxRecDepth 100000 in
set_option maxHeartbeats 1000000 in
theorem M_filled_l {Q : pm_Po} {z : mS} {x1 : Int32} {N : Nat} (hz : zOK z) (h : MA z mu) (hw : pd_wf (gB z.1) 0 0 z.2.1 = none) (hN : N < 10000) (hd : 3 ≤ d) (kk : ∀ mu', wkF mu mu' → pm_G cx (mX11_filled, d, 0, 0, n0, Q) 0 0 89 [some (.ref 19), some (.int x1), some (.int (nI N)), some (.int (nI (fb_ct (fl_b z.1 z.2.1) N))), some (.int (nO (fl_f (fl_b z.1 z.2.1) N))), none, none] [] (sh_ i0 i1 ex) mu' nu) : ∀ (j k : Nat) (mu' : pm_I), k + j = N → wkF mu mu' → pm_G cx (mX11_filled, d, 0, 0, n0, Q) 0 0 44 [some (.ref 19), some (.int x1), some (.int (nI N)), some (.int (nI (fb_ct (fl_b z.1 z.2.1) k))), some (.int (nO (fl_f (fl_b z.1 z.2.1) k))), some (.int (nI k)), none] [] (sh_ i0 i1 ex) mu' nu := by
  obtain ⟨hg, hp, -⟩ := id hz
  intro j
  induction j with
  | zero =>
    intro k mu' hk hF
    have hk : k = N := by omega
    subst hk
    refine pm_go 9999 (by exact okX11_filled) rfl ?_; (try dsimp only [pm_st1, pm_st2, pm_cat2, pm_la, Option.toList, List.cons_append, List.nil_append])
    refine pm_ige (by exact okX11_filled) rfl (fun h1 => ?_) (fun h1 => ?_)
    · refine pm_G.fg [false, false, false, false, false, true, false] ?_; dsimp only [pm_fg]
      exact kk mu' hF
    · exact absurd (nI_le (by omega) (by omega)) h1
  | succ j ih =>
    intro k mu' hk hF
    have hMA := h.wk hF
    have next : ∀ mu2, wkF mu mu2 → pm_G cx (mX11_filled, d, 0, 0, n0, Q) 0 0 83 [some (.ref 19), some (.int x1), some (.int (nI N)), some (.int (nI (fb_ct (fl_b z.1 z.2.1) (k + 1)))), some (.int (nO (fl_f (fl_b z.1 z.2.1) (k + 1)))), some (.int (nI k)), none] [] (sh_ i0 i1 ex) mu2 nu := by
      intro mu2 hF2
      refine pm_go 44 (by exact okX11_filled) rfl ?_; (try dsimp only [pm_st1, pm_st2, pm_cat2, pm_la, Option.toList, List.cons_append, List.nil_append])
      rw [nI_1]
      exact ih (k + 1) mu2 (by omega) hF2
    have skip : ∀ mu2, wkF mu mu2 → fl_b z.1 z.2.1 k = false → pm_G cx (mX11_filled, d, 0, 0, n0, Q) 0 0 83 [some (.ref 19), some (.int x1), some (.int (nI N)), some (.int (nI (fb_ct (fl_b z.1 z.2.1) k))), some (.int (nO (fl_f (fl_b z.1 z.2.1) k))), some (.int (nI k)), none] [] (sh_ i0 i1 ex) mu2 nu := by
      intro mu2 hF2 hb
      have := next mu2 hF2
      rw [fb_ct_succ, hb] at this
      have e : fl_f (fl_b z.1 z.2.1) (k + 1) = fl_f (fl_b z.1 z.2.1) k := by
        simp only [fl_f]
        split
        · rename_i x hx; exact hx.symm
        · rename_i hx; rw [hb, if_neg (by decide)]; exact hx.symm
      rw [e] at this
      exact this
    refine pm_go 9999 (by exact okX11_filled) rfl ?_; (try dsimp only [pm_st1, pm_st2, pm_cat2, pm_la, Option.toList, List.cons_append, List.nil_append])
    refine pm_ige (by exact okX11_filled) rfl (fun h1 => ?_) (fun h1 => ?_)
    · exact absurd h1 (nI_ge (by omega) (by omega))
    · refine pm_go 9999 (by exact okX11_filled) rfl ?_; (try dsimp only [pm_st1, pm_st2, pm_cat2, pm_la, Option.toList, List.cons_append, List.nil_append])
      refine pm_cv (by exact okX11_filled) (by exact okX11_goWeek) rfl (by exact arX11_goWeek) (t_goWeek (d := 2) (code := k) hz hMA hw (by omega) (by omega)) rfl rfl rfl (by dsimp only; omega) rfl (Nat.le_of_ble_eq_true rfl) ⟨Nat.zero_le _, Nat.zero_le _⟩ ?_
      rintro v sg2 mu2 nu2 ⟨rfl, rfl, rfl, gF, gS1⟩ -
      have hF2 := hF.tr gF
      obtain ⟨-, -, -, hi⟩ := wk_of_inv (code := k) hg hw
      have hp1 := hp.1
      have erun := nO_lt0 (o := (wk_of z.1 z.2.1 k).1.map (fun q => q.1)) (n := 48) (fun b hb => by
        obtain ⟨q, hq, rfl⟩ := Option.map_eq_some_iff.mp hb
        have := (hi q hq).1
        omega) (by omega)
      refine pm_go 83 (by exact okX11_filled) rfl ?_; (try dsimp only [pm_st1, pm_st2, pm_cat2, pm_la, Option.toList, List.cons_append, List.nil_append])
      refine pm_zge (by exact okX11_filled) rfl (fun h2 => ?_) (fun h2 => ?_)
      · have h3 := erun.mp h2
        refine skip mu2 hF2 ?_
        cases hb : fl_b z.1 z.2.1 k with
        | false => rfl
        | true => rw [(fl_b_iff.mp hb).1] at h3; exact absurd rfl h3
      · have h3 : (wk_of z.1 z.2.1 k).1 = none := by
          cases hh : (wk_of z.1 z.2.1 k).1 with
          | none => rfl
          | some q => exact absurd (erun.mpr (by rw [hh]; intro q; cases q)) h2
        obtain ⟨s1, s2, s3, s4, s5⟩ := gS1
        obtain ⟨⟨a1, a2, a3, a4, a5, a6, a7, a8, a9, b1, b2, b3, b4, b5⟩, c1, c2⟩ := h.wk hF2
        obtain ⟨hc6, hcl⟩ := wk_of_c6 (code := k) hg hw
        obtain ⟨hB6, -, -, -, -, -, -, -, -, hV, hVq⟩ := id hg
        refine pm_go 9999 (by exact okX11_filled) rfl ?_; (try dsimp only [pm_st1, pm_st2, pm_cat2, pm_la, Option.toList, List.cons_append, List.nil_append])
        refine pm_cv (by exact okX11_filled) (by exact okX11_isAsSeen) rfl (by exact arX11_isAsSeen) (t_isAsSeen (d := 1) (cm := (wk_of z.1 z.2.1 k).2.2.2) (V := gV z.1) hcl hc6 hV (fun q hq => by have := hVq q hq; omega) a9 s3 s5 b5) rfl rfl rfl (by dsimp only; omega) rfl (Nat.le_of_ble_eq_true rfl) ⟨Nat.zero_le _, Nat.zero_le _⟩ ?_
        rintro v sg3 mu3 nu3 ⟨e1, e0, rfl, rfl, rfl⟩ -
        by_cases hsn : fl_sn (wk_of z.1 z.2.1 k).2.2.2 (gV z.1)
        · have e1 := e1 hsn
          subst e1
          have hb : fl_b z.1 z.2.1 k = true := fl_b_iff.mpr ⟨h3, hsn⟩
          have nx := next mu2 hF2
          rw [fb_ct_succ, hb, if_pos rfl] at nx
          refine pm_go 9999 (by exact okX11_filled) rfl ?_; (try dsimp only [pm_st1, pm_st2, pm_cat2, pm_la, Option.toList, List.cons_append, List.nil_append])
          refine pm_zeq (by exact okX11_filled) rfl (fun h4 => ?_) (fun h4 => ?_)
          · exact absurd h4 (by decide)
          · have ef := nO_lt0 (o := fl_f (fl_b z.1 z.2.1) k) (n := 10000) (fun b hb => by have := fl_f_lt hb; omega) (by omega)
            refine pm_go 9999 (by exact okX11_filled) rfl ?_; (try dsimp only [pm_st1, pm_st2, pm_cat2, pm_la, Option.toList, List.cons_append, List.nil_append])
            refine pm_zge (by exact okX11_filled) rfl (fun h5 => ?_) (fun h5 => ?_)
            · have h6 := ef.mp h5
              refine pm_go 83 (by exact okX11_filled) rfl ?_; (try dsimp only [pm_st1, pm_st2, pm_cat2, pm_la, Option.toList, List.cons_append, List.nil_append])
              rw [nI_1]
              have e : fl_f (fl_b z.1 z.2.1) (k + 1) = fl_f (fl_b z.1 z.2.1) k := by
                simp only [fl_f]
                split
                · rename_i x hx; exact hx.symm
                · rename_i hx; exact absurd hx h6
              rw [e] at nx
              exact nx
            · have h6 : fl_f (fl_b z.1 z.2.1) k = none := by
                cases hh : fl_f (fl_b z.1 z.2.1) k with
                | none => rfl
                | some q => exact absurd (ef.mpr (by rw [hh]; intro q; cases q)) h5
              refine pm_go 83 (by exact okX11_filled) rfl ?_; (try dsimp only [pm_st1, pm_st2, pm_cat2, pm_la, Option.toList, List.cons_append, List.nil_append])
              rw [nI_1]
              have e : fl_f (fl_b z.1 z.2.1) (k + 1) = some k := by
                simp only [fl_f]
                rw [h6, hb]
                rfl
              rw [e] at nx
              exact nx
        · have e0 := e0 hsn
          subst e0
          refine pm_go 83 (by exact okX11_filled) rfl ?_; (try dsimp only [pm_st1, pm_st2, pm_cat2, pm_la, Option.toList, List.cons_append, List.nil_append])
          refine pm_zeq (by exact okX11_filled) rfl (fun h4 => ?_) (fun h4 => ?_)
          · refine skip mu2 hF2 ?_
            cases hb : fl_b z.1 z.2.1 k with
            | false => rfl
            | true => exact absurd (fl_b_iff.mp hb).2 hsn
          · exact absurd rfl h4
set_option maxRecDepth 100000 in
set_option maxHeartbeats 1000000 in
theorem M_filled_d {Q : pm_Po} {B i m : Nat} {x2 x3 x4 : Int32} (hB : mu 19 0 = nI B) (hB6 : 2 ≤ B ∧ B ≤ 6) (hi : i < m) (hm : m ≤ 4) : ∀ (j k c : Nat), k = i + j → k < m → c < 10000 → Q (some (.int (nI (c / B ^ j % B)))) (sh_ i0 i1 ex) mu nu → pm_G cx (mX11_filled, d, 0, 0, n0, Q) 0 0 130 [some (.ref 19), some (.int (nI i)), some (.int x2), some (.int x3), some (.int x4), some (.int (nI c)), some (.int (nI k))] [] (sh_ i0 i1 ex) mu nu := by
  intro j
  induction j with
  | zero =>
    intro k c hk hkm hc hq
    rw [Nat.pow_zero, Nat.div_one] at hq
    refine pm_go 9999 (by exact okX11_filled) rfl ?_; (try dsimp only [pm_st1, pm_st2, pm_cat2, pm_la, Option.toList, List.cons_append, List.nil_append])
    refine pm_ile (by exact okX11_filled) rfl (fun h1 => ?_) (fun h1 => ?_)
    · refine pm_go 9999 (by exact okX11_filled) rfl ?_; (try dsimp only [pm_st1, pm_st2, pm_cat2, pm_la, Option.toList, List.cons_append, List.nil_append])
      rw [hB]
      refine pm_rem (by exact okX11_filled) rfl (nI_ne0 (by omega) (by omega)) ?_
      rw [pk_rem (by omega) (by omega) (by omega)]
      refine pm_ri (by exact okX11_filled) rfl rfl rfl (Nat.le_refl _) (Nat.le_refl _) (hq)
    · exact absurd (nI_le (by omega) (by omega)) h1
  | succ j ih =>
    intro k c hk hkm hc hq
    refine pm_go 9999 (by exact okX11_filled) rfl ?_; (try dsimp only [pm_st1, pm_st2, pm_cat2, pm_la, Option.toList, List.cons_append, List.nil_append])
    refine pm_ile (by exact okX11_filled) rfl (fun h1 => ?_) (fun h1 => ?_)
    · have := (nI_leI (by omega) (by omega)).mp h1
      omega
    · refine pm_go 9999 (by exact okX11_filled) rfl ?_; (try dsimp only [pm_st1, pm_st2, pm_cat2, pm_la, Option.toList, List.cons_append, List.nil_append])
      rw [hB]
      refine pm_div (by exact okX11_filled) rfl (nI_ne0 (by omega) (by omega)) ?_
      rw [pk_div (by omega) (by omega) (by omega)]
      refine pm_go 130 (by exact okX11_filled) rfl ?_; (try dsimp only [pm_st1, pm_st2, pm_cat2, pm_la, Option.toList, List.cons_append, List.nil_append])
      obtain ⟨k', rfl⟩ : ∃ k', k = k' + 1 := ⟨k - 1, by omega⟩
      rw [pk_m1]
      refine ih k' (c / B) (by omega) (by omega) (Nat.lt_of_le_of_lt (Nat.div_le_self _ _) hc) ?_
      rw [Nat.div_div_eq_div_mul, show B * B ^ j = B ^ (j + 1) by rw [Nat.pow_succ, Nat.mul_comm]]
      exact hq
set_option maxRecDepth 100000 in
set_option maxHeartbeats 1000000 in
theorem M_filled {z : mS} (i : Int32) (hz : zOK z) (h : MA z mu) (hd : 3 ≤ d) : pm_T cx mX11_filled d 0 0 [.ref 19, .int i] (sh_ i0 i1 ex) mu nu (mQ (.int (sp_filled z i)) z i0 i1 ex mu) := by
  obtain ⟨⟨a1, a2, a3, a4, a5, a6, a7, a8, a9, b1, b2, b3, b4, b5⟩, c1, c2⟩ := id h
  obtain ⟨hg, hp, -⟩ := id hz
  have hB6 := hg.1
  have hp1 := hp.1
  unfold sp_filled
  refine pm_enterN 5 (by exact okX11_filled) rfl ?_; dsimp only [pm_la, pm_cat2, List.replicate, List.cons_append, List.nil_append, List.append_nil]
  refine pm_go 9999 (by exact okX11_filled) rfl ?_; (try dsimp only [pm_st1, pm_st2, pm_cat2, pm_la, Option.toList, List.cons_append, List.nil_append])
  refine pm_cv (by exact okX11_filled) (by exact okX11_weekFault) rfl (by exact arX11_weekFault) (t_weekFault (d := 2) a1 hB6 a5 b3 hp (by omega)) rfl rfl rfl (by dsimp only; omega) rfl (Nat.le_of_ble_eq_true rfl) ⟨Nat.zero_le _, Nat.zero_le _⟩ ?_
  rintro _ _ _ _ ⟨rfl, rfl, rfl, rfl⟩ -
  refine pm_go 9999 (by exact okX11_filled) rfl ?_; (try dsimp only [pm_st1, pm_st2, pm_cat2, pm_la, Option.toList, List.cons_append, List.nil_append])
  have ewf := nO_neg (o := pd_wf (gB z.1) 0 0 z.2.1) (n := 48) (fun b hb => by have := pd_wf_lt _ _ _ _ hb; omega) (by omega)
  refine pm_zlt (by exact okX11_filled) rfl (fun h2 => ?_) (fun h2 => ?_)
  · have h2 := ewf.mp h2
    rw [if_neg (fun q => q h2)]
    obtain ⟨hok, hop⟩ := pd_wf_ok z.2.1 0 0 (by omega) h2
    have hN : gB z.1 ^ pd_op z.2.1 < 10000 := Nat.lt_of_le_of_lt (Nat.le_trans (Nat.pow_le_pow_left hB6.2 _) (Nat.pow_le_pow_right (by omega) (show pd_op z.2.1 ≤ 4 by omega))) (by omega)
    refine pm_go 14 (by exact okX11_filled) rfl ?_; (try dsimp only [pm_st1, pm_st2, pm_cat2, pm_la, Option.toList, List.cons_append, List.nil_append])
    refine pm_G.cast (L' := [some (.ref 19), some (.int i), some (.int (nI (gB z.1 ^ 0))), some (.int (nI 0)), none, none, none]) (S' := []) (mu' := mu) (nu' := nu) ?_ rfl rfl rfl rfl
    refine M_filled_p a1 hB6 a5 b3 hp (by omega) (by omega) ?_ (pd_op z.2.1) 0 (by omega)
    refine pm_go 44 (by exact okX11_filled) rfl ?_; (try dsimp only [pm_st1, pm_st2, pm_cat2, pm_la, Option.toList, List.cons_append, List.nil_append])
    refine pm_G.cast (L' := [some (.ref 19), some (.int i), some (.int (nI (gB z.1 ^ pd_op z.2.1))), some (.int (nI (fb_ct (fl_b z.1 z.2.1) 0))), some (.int (nO (fl_f (fl_b z.1 z.2.1) 0))), some (.int (nI 0)), none]) (S' := []) (mu' := mu) (nu' := nu) ?_ rfl rfl rfl rfl
    refine M_filled_l hz h h2 hN hd (fun mu' hF => ?_) (gB z.1 ^ pd_op z.2.1) 0 mu (by omega) wkF.rf
    have hMA := h.wk hF
    obtain ⟨⟨a1, a2, a3, a4, a5, a6, a7, a8, a9, b1, b2, b3, b4, b5⟩, c1, c2⟩ := id hMA
    refine pm_go 9999 (by exact okX11_filled) rfl ?_; (try dsimp only [pm_st1, pm_st2, pm_cat2, pm_la, Option.toList, List.cons_append, List.nil_append])
    refine pm_ine (by exact okX11_filled) rfl (fun h3 => ?_) (fun h3 => ?_)
    · rw [if_neg h3]
      refine pm_go 9999 (by exact okX11_filled) rfl ?_; (try dsimp only [pm_st1, pm_st2, pm_cat2, pm_la, Option.toList, List.cons_append, List.nil_append])
      have hlt : ∀ c, fl_f (fl_b z.1 z.2.1) (gB z.1 ^ pd_op z.2.1) = some c → c < 10000 := fun c hc => by have := fl_f_lt hc; omega
      cases hf : fl_f (fl_b z.1 z.2.1) (gB z.1 ^ pd_op z.2.1) with
      | none =>
        refine pm_zlt (by exact okX11_filled) rfl (fun h4 => ?_) (fun h4 => ?_)
        · refine pm_go 9999 (by exact okX11_filled) rfl ?_; (try dsimp only [pm_st1, pm_st2, pm_cat2, pm_la, Option.toList, List.cons_append, List.nil_append])
          refine pm_ri (by exact okX11_filled) rfl rfl rfl (Nat.le_refl _) (Nat.le_refl _) (⟨rfl, rfl, hMA, hF.fM⟩)
        · exact absurd (by decide) h4
      | some c =>
        have hc := hlt c hf
        show pm_G _ _ _ _ _ [_, _, _, _, some (.int (nI c)), _, _] [.int (nI c)] _ _ _
        refine pm_zlt (by exact okX11_filled) rfl (fun h4 => ?_) (fun h4 => ?_)
        · exact absurd h4 (nI_pos (by omega))
        · refine pm_go 9999 (by exact okX11_filled) rfl ?_; (try dsimp only [pm_st1, pm_st2, pm_cat2, pm_la, Option.toList, List.cons_append, List.nil_append])
          refine pm_cv (by exact okX11_filled) (by exact okX11_opens) rfl (by exact arX11_opens) (t_opens (d := 0) a5 b3 hp) rfl rfl rfl (by dsimp only; omega) rfl (Nat.le_of_ble_eq_true rfl) ⟨Nat.zero_le _, Nat.zero_le _⟩ ?_
          rintro _ _ _ _ ⟨rfl, rfl, rfl, rfl⟩ -
          refine pm_go 9999 (by exact okX11_filled) rfl ?_; (try dsimp only [pm_st1, pm_st2, pm_cat2, pm_la, Option.toList, List.cons_append, List.nil_append])
          refine pm_cs (by exact okX11_filled) (by exact okX11_in) rfl (by exact arX11_in) (t_in (d := 0) i 0 (nI (pd_op z.2.1) - 1)) rfl (by dsimp only; omega) rfl (Nat.le_of_ble_eq_true rfl) ⟨Nat.zero_le _, Nat.zero_le _⟩ ?_
          rintro _ _ _ _ ⟨rfl, rfl, rfl, rfl⟩ -
          refine pm_go 9999 (by exact okX11_filled) rfl ?_; (try dsimp only [pm_st1, pm_st2, pm_cat2, pm_la, Option.toList, List.cons_append, List.nil_append])
          rw [bI_c (isB_pred (by omega) i)]
          refine pm_zne (by exact okX11_filled) rfl (fun h5 => ?_) (fun h5 => ?_)
          · have h5 := bI_n.mp h5
            obtain ⟨k, hk, rfl⟩ := isB_of (by omega) h5
            refine pm_go 9999 (by exact okX11_filled) rfl ?_; (try dsimp only [pm_st1, pm_st2, pm_cat2, pm_la, Option.toList, List.cons_append, List.nil_append])
            refine pm_cv (by exact okX11_filled) (by exact okX11_opens) rfl (by exact arX11_opens) (t_opens (d := 0) a5 b3 hp) rfl rfl rfl (by dsimp only; omega) rfl (Nat.le_of_ble_eq_true rfl) ⟨Nat.zero_le _, Nat.zero_le _⟩ ?_
            rintro _ _ _ _ ⟨rfl, rfl, rfl, rfl⟩ -
            refine pm_go 130 (by exact okX11_filled) rfl ?_; (try dsimp only [pm_st1, pm_st2, pm_cat2, pm_la, Option.toList, List.cons_append, List.nil_append])
            rw [nI_m1 (by omega)]
            refine M_filled_d (B := gB z.1) (i := k) (m := pd_op z.2.1) a1 hB6 hk (by omega) (pd_op z.2.1 - 1 - k) (pd_op z.2.1 - 1) c (by omega) (by omega) hc ⟨?_, rfl, hMA, hF.fM⟩
            show _ = some (Value.int (if isB (pd_op z.2.1) (nI k) then _ else _))
            rw [if_pos h5, nI_clamp (by omega)]
          · have h5 := bI_z.mp h5
            refine pm_go 9999 (by exact okX11_filled) rfl ?_; (try dsimp only [pm_st1, pm_st2, pm_cat2, pm_la, Option.toList, List.cons_append, List.nil_append])
            refine pm_ri (by exact okX11_filled) rfl rfl rfl (Nat.le_refl _) (Nat.le_refl _) (⟨by show _ = some (Value.int (if isB (pd_op z.2.1) i then _ else _)); rw [if_neg h5], rfl, hMA, hF.fM⟩)
    · rw [if_pos h3]
      refine pm_go 9999 (by exact okX11_filled) rfl ?_; (try dsimp only [pm_st1, pm_st2, pm_cat2, pm_la, Option.toList, List.cons_append, List.nil_append])
      refine pm_ri (by exact okX11_filled) rfl rfl rfl (Nat.le_refl _) (Nat.le_refl _) (⟨rfl, rfl, hMA, hF.fM⟩)
  · have h2 : pd_wf (gB z.1) 0 0 z.2.1 ≠ none := fun q => h2 (ewf.mpr q)
    rw [if_pos h2]
    refine pm_go 9999 (by exact okX11_filled) rfl ?_; (try dsimp only [pm_st1, pm_st2, pm_cat2, pm_la, Option.toList, List.cons_append, List.nil_append])
    refine pm_ri (by exact okX11_filled) rfl rfl rfl (Nat.le_refl _) (Nat.le_refl _) (⟨rfl, rfl, h, fM.rf⟩)
end
end
section
/-! ===== the reference's images ===== -/
def sp_image (z : mS) (n : Int32) : Int32 × mS := if n = 0 then (1, (z.1, z.2.1, some z.1, z.2.2.2)) else if n = 1 then (1, (z.1, z.2.1, z.2.2.1, some z.1)) else (-2, z)
def sp_restore (z : mS) (n : Int32) : Int32 × mS := if n = 0 then (match z.2.2.1 with
    | some g => (1, (g, z.2))
    | none => (-3, z)) else if n = 1 then (match z.2.2.2 with
    | some g => (1, (g, z.2))
    | none => (-3, z)) else (-2, z)
theorem MI.part {n : Nat} {o : Option gS} {mu mu' : pm_I} (h : MI n o mu) (h38 : ∀ x, 42 * n ≤ x → x < 42 * n + 42 → mu' 38 x = mu 38 x) (h39 : mu' 39 n = mu 39 n) (hok : ∀ g, o = some g → gOK g) : MI n o mu' := by
  obtain ⟨h1, h2⟩ := h
  refine ⟨by rw [h39]; exact h1, fun g hg => ?_⟩
  obtain ⟨g1, g2, g3, g4, g5, g6, g7, g8, g9, g10, g11, g12⟩ := h2 g hg
  have hgo := hok g hg
  have hK : (gK g).length ≤ 6 := nodup_len hgo.2.2.2.2.2.2.2.2.1.1 (gOK_K6 hgo)
  have hV := hgo.2.2.2.2.2.2.2.2.2.1
  refine ⟨fun b hb => by rw [h38 _ (by omega) (by omega)]; exact g1 b hb, fun b hb => by rw [h38 _ (by omega) (by omega)]; exact g2 b hb, fun k b hk => ?_, fun k q hk => ?_, ?_, ?_, ?_, ?_, ?_, ?_, ?_, ?_⟩
  · have := (List.getElem?_eq_some_iff.mp hk).1
    rw [h38 _ (by omega) (by omega)]; exact g3 k b hk
  · have := (List.getElem?_eq_some_iff.mp hk).1
    rw [h38 _ (by omega) (by omega), h38 _ (by omega) (by omega)]; exact g4 k q hk
  · rw [h38 _ (by omega) (by omega)]; exact g5
  · rw [h38 _ (by omega) (by omega)]; exact g6
  · rw [h38 _ (by omega) (by omega)]; exact g7
  · rw [h38 _ (by omega) (by omega)]; exact g8
  · rw [h38 _ (by omega) (by omega)]; exact g9
  · rw [h38 _ (by omega) (by omega)]; exact g10
  · rw [h38 _ (by omega) (by omega)]; exact g11
  · rw [h38 _ (by omega) (by omega)]; exact g12
section
variable {cx : pm_CX} {d n0 : Nat} {i0 i1 : Option Nat} {ex : List pm_C} {mu : pm_I} {nu : pm_J}
set_option maxRecDepth 100000 in
set_option maxHeartbeats 1000000 in
theorem M_image_a {Q : pm_Po} {to : Nat} {x1 : Int32} (ht : to ≤ 42) (kk : ∀ mu' : pm_I, (∀ a, a ≠ 38 → mu' a = mu a) → (∀ x, x < to ∨ to + 42 ≤ x → mu' 38 x = mu 38 x) → (∀ b, b < 6 → mu' 38 (to + b) = mu 20 b ∧ mu' 38 (to + 6 + b) = mu 21 b ∧ mu' 38 (to + 12 + b) = mu 23 b) → pm_G cx (mX11_image, d, 0, 0, n0, Q) 0 0 79 [some (.ref 19), some (.int x1), some (.int (nI to)), none] [] (sh_ i0 i1 ex) mu' nu) : ∀ (j k : Nat) (mu' : pm_I), k + j = 6 → (∀ a, a ≠ 38 → mu' a = mu a) → (∀ x, x < to ∨ to + 42 ≤ x → mu' 38 x = mu 38 x) → (∀ b, b < k → mu' 38 (to + b) = mu 20 b ∧ mu' 38 (to + 6 + b) = mu 21 b ∧ mu' 38 (to + 12 + b) = mu 23 b) → pm_G cx (mX11_image, d, 0, 0, n0, Q) 0 0 19 [some (.ref 19), some (.int x1), some (.int (nI to)), some (.int (nI k))] [] (sh_ i0 i1 ex) mu' nu := by
  intro j
  induction j with
  | zero =>
    intro k mu' hk h1 h2 h3
    have hk : k = 6 := by omega
    subst hk
    refine pm_go 9999 (by exact okX11_image) rfl ?_; (try dsimp only [pm_st1, pm_st2, pm_cat2, pm_la, Option.toList, List.cons_append, List.nil_append])
    refine pm_ige (by exact okX11_image) rfl (fun h4 => ?_) (fun h4 => ?_)
    · refine pm_G.fg [false, false, false, true] ?_; dsimp only [pm_fg]
      exact kk mu' h1 h2 h3
    · exact absurd (by decide) h4
  | succ j ih =>
    intro k mu' hk h1 h2 h3
    have e6 : nI to + 6 + nI k = nI (to + 6 + k) := by rw [show (6 : Int32) = nI 6 from rfl, nI_add, nI_add]
    have e12 : nI to + 12 + nI k = nI (to + 12 + k) := by rw [show (12 : Int32) = nI 12 from rfl, nI_add, nI_add]
    refine pm_go 9999 (by exact okX11_image) rfl ?_; (try dsimp only [pm_st1, pm_st2, pm_cat2, pm_la, Option.toList, List.cons_append, List.nil_append])
    refine pm_ige (by exact okX11_image) rfl (fun h4 => ?_) (fun h4 => ?_)
    · exact absurd h4 (nI_ge (a := k) (b := 6) (by omega) (by omega))
    · refine pm_go 9999 (by exact okX11_image) rfl ?_; (try dsimp only [pm_st1, pm_st2, pm_cat2, pm_la, Option.toList, List.cons_append, List.nil_append])
      rw [nI_add]
      refine pm_ial (by exact okX11_image) rfl rfl (vp_in_nI (by omega) (by omega)) ?_
      rw [nI_clamp (by omega)]
      refine pm_ias (by exact okX11_image) rfl rfl (vp_in_nI (by omega) (by omega)) ?_
      rw [nI_clamp (by omega)]
      refine pm_go 9999 (by exact okX11_image) rfl ?_; (try dsimp only [pm_st1, pm_st2, pm_cat2, pm_la, Option.toList, List.cons_append, List.nil_append])
      rw [e6]
      refine pm_ial (by exact okX11_image) rfl rfl (vp_in_nI (by omega) (by omega)) ?_
      rw [nI_clamp (by omega)]
      refine pm_ias (by exact okX11_image) rfl rfl (vp_in_nI (by omega) (by omega)) ?_
      rw [nI_clamp (by omega)]
      refine pm_go 9999 (by exact okX11_image) rfl ?_; (try dsimp only [pm_st1, pm_st2, pm_cat2, pm_la, Option.toList, List.cons_append, List.nil_append])
      rw [e12]
      refine pm_ial (by exact okX11_image) rfl rfl (vp_in_nI (by omega) (by omega)) ?_
      rw [nI_clamp (by omega)]
      refine pm_ias (by exact okX11_image) rfl rfl (vp_in_nI (by omega) (by omega)) ?_
      rw [nI_clamp (by omega)]
      refine pm_go 19 (by exact okX11_image) rfl ?_; (try dsimp only [pm_st1, pm_st2, pm_cat2, pm_la, Option.toList, List.cons_append, List.nil_append])
      rw [nI_1]
      rw [show pm_up mu' 38 (to + k) (mu' 20 k) 21 k = mu 21 k by rw [pm_up_o (by omega), h1 21 (by omega)], show pm_up (pm_up mu' 38 (to + k) (mu' 20 k)) 38 (to + 6 + k) (mu 21 k) 23 k = mu 23 k by rw [pm_up_o (by omega), pm_up_o (by omega), h1 23 (by omega)], h1 20 (by omega)]
      refine ih (k + 1) _ (by omega) (fun a ha => by rw [pm_up_ne ha, pm_up_ne ha, pm_up_ne ha]; exact h1 a ha) (fun x hx => by rw [pm_up_of (by omega), pm_up_of (by omega), pm_up_of (by omega)]; exact h2 x hx) (fun b hb => ?_)
      by_cases hbk : b = k
      · subst hbk
        refine ⟨?_, ?_, pm_up_at⟩
        · rw [pm_up_of (by omega), pm_up_of (by omega), pm_up_at]
        · rw [pm_up_of (by omega), pm_up_at]
      · obtain ⟨q1, q2, q3⟩ := h3 b (by omega)
        refine ⟨?_, ?_, ?_⟩
        · rw [pm_up_of (by omega), pm_up_of (by omega), pm_up_of (by omega)]; exact q1
        · rw [pm_up_of (by omega), pm_up_of (by omega), pm_up_of (by omega)]; exact q2
        · rw [pm_up_of (by omega), pm_up_of (by omega), pm_up_of (by omega)]; exact q3
set_option maxRecDepth 100000 in
set_option maxHeartbeats 1000000 in
theorem M_image_b {Q : pm_Po} {to : Nat} {x1 : Int32} (ht : to ≤ 42) (kk : ∀ mu' : pm_I, (∀ a, a ≠ 38 → mu' a = mu a) → (∀ x, x < to + 18 ∨ to + 42 ≤ x → mu' 38 x = mu 38 x) → (∀ b, b < 12 → mu' 38 (to + 18 + b) = mu 24 b) → pm_G cx (mX11_image, d, 0, 0, n0, Q) 0 0 110 [some (.ref 19), some (.int x1), some (.int (nI to)), none] [] (sh_ i0 i1 ex) mu' nu) : ∀ (j k : Nat) (mu' : pm_I), k + j = 12 → (∀ a, a ≠ 38 → mu' a = mu a) → (∀ x, x < to + 18 ∨ to + 42 ≤ x → mu' 38 x = mu 38 x) → (∀ b, b < k → mu' 38 (to + 18 + b) = mu 24 b) → pm_G cx (mX11_image, d, 0, 0, n0, Q) 0 0 81 [some (.ref 19), some (.int x1), some (.int (nI to)), some (.int (nI k))] [] (sh_ i0 i1 ex) mu' nu := by
  intro j
  induction j with
  | zero =>
    intro k mu' hk h1 h2 h3
    have hk : k = 12 := by omega
    subst hk
    refine pm_go 9999 (by exact okX11_image) rfl ?_; (try dsimp only [pm_st1, pm_st2, pm_cat2, pm_la, Option.toList, List.cons_append, List.nil_append])
    refine pm_ige (by exact okX11_image) rfl (fun h4 => ?_) (fun h4 => ?_)
    · refine pm_G.fg [false, false, false, true] ?_; dsimp only [pm_fg]
      exact kk mu' h1 h2 h3
    · exact absurd (by decide) h4
  | succ j ih =>
    intro k mu' hk h1 h2 h3
    have e18 : nI to + 18 + nI k = nI (to + 18 + k) := by rw [show (18 : Int32) = nI 18 from rfl, nI_add, nI_add]
    refine pm_go 9999 (by exact okX11_image) rfl ?_; (try dsimp only [pm_st1, pm_st2, pm_cat2, pm_la, Option.toList, List.cons_append, List.nil_append])
    refine pm_ige (by exact okX11_image) rfl (fun h4 => ?_) (fun h4 => ?_)
    · exact absurd h4 (nI_ge (a := k) (b := 12) (by omega) (by omega))
    · refine pm_go 9999 (by exact okX11_image) rfl ?_; (try dsimp only [pm_st1, pm_st2, pm_cat2, pm_la, Option.toList, List.cons_append, List.nil_append])
      rw [e18]
      refine pm_ial (by exact okX11_image) rfl rfl (vp_in_nI (by omega) (by omega)) ?_
      rw [nI_clamp (by omega)]
      refine pm_ias (by exact okX11_image) rfl rfl (vp_in_nI (by omega) (by omega)) ?_
      rw [nI_clamp (by omega)]
      refine pm_go 81 (by exact okX11_image) rfl ?_; (try dsimp only [pm_st1, pm_st2, pm_cat2, pm_la, Option.toList, List.cons_append, List.nil_append])
      rw [nI_1, h1 24 (by omega)]
      refine ih (k + 1) _ (by omega) (fun a ha => by rw [pm_up_ne ha]; exact h1 a ha) (fun x hx => by rw [pm_up_of (by omega)]; exact h2 x hx) (fun b hb => ?_)
      by_cases hbk : b = k
      · subst hbk; exact pm_up_at
      · rw [pm_up_of (by omega)]; exact h3 b (by omega)
set_option maxRecDepth 100000 in
set_option maxHeartbeats 1000000 in
theorem M_image_c {Q : pm_Po} {n : Nat} {v0 v1 v2 v3 v4 v5 v6 v7 : Int32} (hn : n < 2) (e0 : mu 19 0 = v0) (e1 : mu 19 3 = v1) (e2 : mu 19 4 = v2) (e3 : mu 19 5 = v3) (e4 : mu 19 8 = v4) (e5 : mu 19 9 = v5) (e6 : mu 19 11 = v6) (e7 : mu 19 12 = v7) (kk : ∀ mu' : pm_I, (∀ a, a ≠ 38 → a ≠ 39 → mu' a = mu a) → (∀ x, x < 42 * n + 30 ∨ 42 * n + 42 ≤ x → mu' 38 x = mu 38 x) → mu' 38 (42 * n + 30) = v0 → mu' 38 (42 * n + 31) = v1 → mu' 38 (42 * n + 32) = v2 → mu' 38 (42 * n + 33) = v3 → mu' 38 (42 * n + 34) = v4 → mu' 38 (42 * n + 35) = v5 → mu' 38 (42 * n + 36) = v6 → mu' 38 (42 * n + 37) = v7 → mu' 39 n = 1 → (∀ j, j ≠ n → mu' 39 j = mu 39 j) → Q (some (.int 1)) (sh_ i0 i1 ex) mu' nu) : pm_G cx (mX11_image, d, 0, 0, n0, Q) 0 0 110 [some (.ref 19), some (.int (nI n)), some (.int (nI (42 * n))), none] [] (sh_ i0 i1 ex) mu nu := by
  have f : ∀ k : Nat, k < 50 → nI (42 * n) + nI k = nI (42 * n + k) := fun k _ => nI_add _ _
  refine pm_go 9999 (by exact okX11_image) rfl ?_; (try dsimp only [pm_st1, pm_st2, pm_cat2, pm_la, Option.toList, List.cons_append, List.nil_append])
  rw [e0, show nI (42 * n) + 30 = nI (42 * n + 30) from f 30 (by omega)]
  refine pm_ias (by exact okX11_image) rfl rfl (vp_in_nI (by omega) (by omega)) ?_
  rw [nI_clamp (by omega)]
  refine pm_go 9999 (by exact okX11_image) rfl ?_; (try dsimp only [pm_st1, pm_st2, pm_cat2, pm_la, Option.toList, List.cons_append, List.nil_append])
  rw [pm_up_o (by omega), e1, show nI (42 * n) + 31 = nI (42 * n + 31) from f 31 (by omega)]
  refine pm_ias (by exact okX11_image) rfl rfl (vp_in_nI (by omega) (by omega)) ?_
  rw [nI_clamp (by omega)]
  refine pm_go 9999 (by exact okX11_image) rfl ?_; (try dsimp only [pm_st1, pm_st2, pm_cat2, pm_la, Option.toList, List.cons_append, List.nil_append])
  rw [pm_up_o (by omega), pm_up_o (by omega), e2, show nI (42 * n) + 32 = nI (42 * n + 32) from f 32 (by omega)]
  refine pm_ias (by exact okX11_image) rfl rfl (vp_in_nI (by omega) (by omega)) ?_
  rw [nI_clamp (by omega)]
  refine pm_go 9999 (by exact okX11_image) rfl ?_; (try dsimp only [pm_st1, pm_st2, pm_cat2, pm_la, Option.toList, List.cons_append, List.nil_append])
  rw [pm_up_o (by omega), pm_up_o (by omega), pm_up_o (by omega), e3, show nI (42 * n) + 33 = nI (42 * n + 33) from f 33 (by omega)]
  refine pm_ias (by exact okX11_image) rfl rfl (vp_in_nI (by omega) (by omega)) ?_
  rw [nI_clamp (by omega)]
  refine pm_go 9999 (by exact okX11_image) rfl ?_; (try dsimp only [pm_st1, pm_st2, pm_cat2, pm_la, Option.toList, List.cons_append, List.nil_append])
  rw [pm_up_o (by omega), pm_up_o (by omega), pm_up_o (by omega), pm_up_o (by omega), e4, show nI (42 * n) + 34 = nI (42 * n + 34) from f 34 (by omega)]
  refine pm_ias (by exact okX11_image) rfl rfl (vp_in_nI (by omega) (by omega)) ?_
  rw [nI_clamp (by omega)]
  refine pm_go 9999 (by exact okX11_image) rfl ?_; (try dsimp only [pm_st1, pm_st2, pm_cat2, pm_la, Option.toList, List.cons_append, List.nil_append])
  rw [pm_up_o (by omega), pm_up_o (by omega), pm_up_o (by omega), pm_up_o (by omega), pm_up_o (by omega), e5, show nI (42 * n) + 35 = nI (42 * n + 35) from f 35 (by omega)]
  refine pm_ias (by exact okX11_image) rfl rfl (vp_in_nI (by omega) (by omega)) ?_
  rw [nI_clamp (by omega)]
  refine pm_go 9999 (by exact okX11_image) rfl ?_; (try dsimp only [pm_st1, pm_st2, pm_cat2, pm_la, Option.toList, List.cons_append, List.nil_append])
  rw [pm_up_o (by omega), pm_up_o (by omega), pm_up_o (by omega), pm_up_o (by omega), pm_up_o (by omega), pm_up_o (by omega), e6, show nI (42 * n) + 36 = nI (42 * n + 36) from f 36 (by omega)]
  refine pm_ias (by exact okX11_image) rfl rfl (vp_in_nI (by omega) (by omega)) ?_
  rw [nI_clamp (by omega)]
  refine pm_go 9999 (by exact okX11_image) rfl ?_; (try dsimp only [pm_st1, pm_st2, pm_cat2, pm_la, Option.toList, List.cons_append, List.nil_append])
  rw [pm_up_o (by omega), pm_up_o (by omega), pm_up_o (by omega), pm_up_o (by omega), pm_up_o (by omega), pm_up_o (by omega), pm_up_o (by omega), e7, show nI (42 * n) + 37 = nI (42 * n + 37) from f 37 (by omega)]
  refine pm_ias (by exact okX11_image) rfl rfl (vp_in_nI (by omega) (by omega)) ?_
  rw [nI_clamp (by omega)]
  refine pm_go 9999 (by exact okX11_image) rfl ?_; (try dsimp only [pm_st1, pm_st2, pm_cat2, pm_la, Option.toList, List.cons_append, List.nil_append])
  refine pm_zas (by exact okX11_image) rfl rfl (vp_in_nI hn (by omega)) ?_
  rw [nI_clamp (by omega), show vp_nar .boolean 1 = 1 from rfl]
  refine pm_go 9999 (by exact okX11_image) rfl ?_; (try dsimp only [pm_st1, pm_st2, pm_cat2, pm_la, Option.toList, List.cons_append, List.nil_append])
  refine pm_ri (by exact okX11_image) rfl rfl rfl (Nat.le_refl _) (Nat.le_refl _) (kk _ (fun a h1 h2 => by simp only [pm_up_ne h1, pm_up_ne h2]) (fun x hx => ?_) ?_ ?_ ?_ ?_ ?_ ?_ ?_ ?_ pm_up_at (fun j hj => ?_))
  · rw [pm_up_o (by omega), pm_up_of (by omega), pm_up_of (by omega), pm_up_of (by omega), pm_up_of (by omega), pm_up_of (by omega), pm_up_of (by omega), pm_up_of (by omega), pm_up_of (by omega)]
  · rw [pm_up_o (by omega), pm_up_of (by omega), pm_up_of (by omega), pm_up_of (by omega), pm_up_of (by omega), pm_up_of (by omega), pm_up_of (by omega), pm_up_of (by omega), pm_up_at]
  · rw [pm_up_o (by omega), pm_up_of (by omega), pm_up_of (by omega), pm_up_of (by omega), pm_up_of (by omega), pm_up_of (by omega), pm_up_of (by omega), pm_up_at]
  · rw [pm_up_o (by omega), pm_up_of (by omega), pm_up_of (by omega), pm_up_of (by omega), pm_up_of (by omega), pm_up_of (by omega), pm_up_at]
  · rw [pm_up_o (by omega), pm_up_of (by omega), pm_up_of (by omega), pm_up_of (by omega), pm_up_of (by omega), pm_up_at]
  · rw [pm_up_o (by omega), pm_up_of (by omega), pm_up_of (by omega), pm_up_of (by omega), pm_up_at]
  · rw [pm_up_o (by omega), pm_up_of (by omega), pm_up_of (by omega), pm_up_at]
  · rw [pm_up_o (by omega), pm_up_of (by omega), pm_up_at]
  · rw [pm_up_o (by omega), pm_up_at]
  · rw [pm_up_of hj, pm_up_o (by omega), pm_up_o (by omega), pm_up_o (by omega), pm_up_o (by omega), pm_up_o (by omega), pm_up_o (by omega), pm_up_o (by omega), pm_up_o (by omega)]
set_option maxRecDepth 100000 in
set_option maxHeartbeats 1000000 in
theorem M_image {z : mS} (n : Int32) (hz : zOK z) (h : MA z mu) (hd : 1 ≤ d) : pm_T cx mX11_image d 0 0 [.ref 19, .int n] (sh_ i0 i1 ex) mu nu (mQ (.int (sp_image z n).1) (sp_image z n).2 i0 i1 ex mu) := by
  obtain ⟨⟨a1, a2, a3, a4, a5, a6, a7, a8, a9, b1, b2, b3, b4, b5⟩, c1, c2⟩ := id h
  obtain ⟨hg, hp, hi0, hi1⟩ := id hz
  have hK : (gK z.1).length ≤ 6 := nodup_len hg.2.2.2.2.2.2.2.2.1.1 (gOK_K6 hg)
  have hV := hg.2.2.2.2.2.2.2.2.2.1
  refine pm_enterN 2 (by exact okX11_image) rfl ?_; dsimp only [pm_la, pm_cat2, List.replicate, List.cons_append, List.nil_append, List.append_nil]
  refine pm_go 9999 (by exact okX11_image) rfl ?_; (try dsimp only [pm_st1, pm_st2, pm_cat2, pm_la, Option.toList, List.cons_append, List.nil_append])
  refine pm_cs (by exact okX11_image) (by exact okX11_in) rfl (by exact arX11_in) (t_in (d := 0) n 0 1) rfl (by dsimp only; omega) rfl (Nat.le_of_ble_eq_true rfl) ⟨Nat.zero_le _, Nat.zero_le _⟩ ?_
  rintro _ _ _ _ ⟨rfl, rfl, rfl, rfl⟩ -
  refine pm_go 9999 (by exact okX11_image) rfl ?_; (try dsimp only [pm_st1, pm_st2, pm_cat2, pm_la, Option.toList, List.cons_append, List.nil_append])
  refine pm_zne (by exact okX11_image) rfl (fun h1 => ?_) (fun h1 => ?_)
  · have h1 := bI_n.mp h1
    obtain ⟨k, -, hk, rfl⟩ := rng_of (a := 0) (b := 1) (by omega) (by omega) h1
    have hs : sp_image z (nI k) = (1, if k = 0 then (z.1, z.2.1, some z.1, z.2.2.2) else (z.1, z.2.1, z.2.2.1, some z.1)) := by
      rcases (show k = 0 ∨ k = 1 by omega) with rfl | rfl
      · rfl
      · rfl
    rw [hs]
    refine pm_go 19 (by exact okX11_image) rfl ?_; (try dsimp only [pm_st1, pm_st2, pm_cat2, pm_la, Option.toList, List.cons_append, List.nil_append])
    rw [show (42 : Int32) = nI 42 from rfl, pk_mul]
    refine M_image_a (mu := mu) (to := 42 * k) (by omega) (fun m1 f1 f2 f3 => ?_) 6 0 mu rfl (fun _ _ => rfl) (fun _ _ => rfl) (fun b hb => absurd hb (by omega))
    refine pm_go 81 (by exact okX11_image) rfl ?_; (try dsimp only [pm_st1, pm_st2, pm_cat2, pm_la, Option.toList, List.cons_append, List.nil_append])
    refine M_image_b (mu := m1) (to := 42 * k) (by omega) (fun m2 p1 p2 p3 => ?_) 12 0 m1 rfl (fun _ _ => rfl) (fun _ _ => rfl) (fun b hb => absurd hb (by omega))
    have q19 : ∀ j, m2 19 j = mu 19 j := fun j => by rw [p1 19 (by omega), f1 19 (by omega)]
    refine M_image_c (n := k) (by omega) ((q19 0).trans a1) ((q19 3).trans a2) ((q19 4).trans a3) ((q19 5).trans a4) ((q19 8).trans a6) ((q19 9).trans a7) ((q19 11).trans a8) ((q19 12).trans a9) (fun m3 r1 r2 w0 w1 w2 w3 w4 w5 w6 w7 w8 w9 => ?_)
    have keep : ∀ a, a ≠ 38 → a ≠ 39 → m3 a = mu a := fun a x1 x2 => by rw [r1 a x1 x2, p1 a x1, f1 a x1]
    have own : MI k (some z.1) m3 := by
      refine ⟨by rw [w8]; rfl, fun g hgg => ?_⟩
      cases hgg
      refine ⟨fun b hb => ?_, fun b hb => ?_, fun j b hj => ?_, fun j q hj => ?_, w0, w1, w2, w3, w4, w5, w6, w7⟩
      · rw [r2 _ (by omega), p2 _ (by omega), (f3 b hb).1]; exact b1 b hb
      · rw [r2 _ (by omega), p2 _ (by omega), (f3 b hb).2.1]; exact b2 b hb
      · have hj6 := (List.getElem?_eq_some_iff.mp hj).1
        rw [r2 _ (by omega), p2 _ (by omega), (f3 j (by omega)).2.2]; exact b4 j b hj
      · have hj6 := (List.getElem?_eq_some_iff.mp hj).1
        rw [r2 _ (by omega), p3 (2 * j) (by omega), r2 _ (by omega), p3 (2 * j + 1) (by omega), f1 24 (by omega)]; exact b5 j q hj
    have hMR : MR z.1 z.2.1 m3 := by
      refine ⟨?_, ?_, ?_, ?_, ?_, ?_, ?_, ?_, ?_, ?_, ?_, ?_, ?_, ?_⟩
      · rw [keep 19 (by omega) (by omega)]; exact a1
      · rw [keep 19 (by omega) (by omega)]; exact a2
      · rw [keep 19 (by omega) (by omega)]; exact a3
      · rw [keep 19 (by omega) (by omega)]; exact a4
      · rw [keep 19 (by omega) (by omega)]; exact a5
      · rw [keep 19 (by omega) (by omega)]; exact a6
      · rw [keep 19 (by omega) (by omega)]; exact a7
      · rw [keep 19 (by omega) (by omega)]; exact a8
      · rw [keep 19 (by omega) (by omega)]; exact a9
      · rw [keep 20 (by omega) (by omega)]; exact b1
      · rw [keep 21 (by omega) (by omega)]; exact b2
      · rw [keep 22 (by omega) (by omega)]; exact b3
      · rw [keep 23 (by omega) (by omega)]; exact b4
      · rw [keep 24 (by omega) (by omega)]; exact b5
    have hfM : fM mu m3 := fun a ha => keep a (by omega) (by omega)
    rcases (show k = 0 ∨ k = 1 by omega) with rfl | rfl
    · refine ⟨rfl, rfl, ⟨hMR, own, c2.part (fun x x1 x2 => by rw [r2 x (by omega), p2 x (by omega), f2 x (by omega)]) (by rw [w9 1 (by omega), p1 39 (by omega), f1 39 (by omega)]) hi1⟩, hfM⟩
    · refine ⟨rfl, rfl, ⟨hMR, c1.part (fun x x1 x2 => by rw [r2 x (by omega), p2 x (by omega), f2 x (by omega)]) (by rw [w9 0 (by omega), p1 39 (by omega), f1 39 (by omega)]) hi0, own⟩, hfM⟩
  · have h1 := bI_z.mp h1
    have hs : sp_image z n = (-2, z) := by
      unfold sp_image
      rw [if_neg, if_neg]
      · intro q; subst q; exact h1 (by decide)
      · intro q; subst q; exact h1 (by decide)
    rw [hs]
    refine pm_go 9999 (by exact okX11_image) rfl ?_; (try dsimp only [pm_st1, pm_st2, pm_cat2, pm_la, Option.toList, List.cons_append, List.nil_append])
    refine pm_ri (by exact okX11_image) rfl rfl rfl (Nat.le_refl _) (Nat.le_refl _) (⟨rfl, rfl, h, fM.rf⟩)
end
end
section
section
variable {cx : pm_CX} {d n0 : Nat} {i0 i1 : Option Nat} {ex : List pm_C} {mu : pm_I} {nu : pm_J}
set_option maxRecDepth 100000 in
set_option maxHeartbeats 1000000 in
theorem M_restore_a {Q : pm_Po} {to : Nat} {x1 : Int32} (ht : to ≤ 42) (kk : ∀ mu' : pm_I, (∀ a, a ≠ 20 → a ≠ 21 → a ≠ 23 → mu' a = mu a) → (∀ b, b < 6 → mu' 20 b = mu 38 (to + b) ∧ mu' 21 b = mu 38 (to + 6 + b) ∧ mu' 23 b = mu 38 (to + 12 + b)) → pm_G cx (mX11_restore, d, 0, 0, n0, Q) 0 0 91 [some (.ref 19), some (.int x1), some (.int (nI to)), none] [] (sh_ i0 i1 ex) mu' nu) : ∀ (j k : Nat) (mu' : pm_I), k + j = 6 → (∀ a, a ≠ 20 → a ≠ 21 → a ≠ 23 → mu' a = mu a) → (∀ b, b < k → mu' 20 b = mu 38 (to + b) ∧ mu' 21 b = mu 38 (to + 6 + b) ∧ mu' 23 b = mu 38 (to + 12 + b)) → pm_G cx (mX11_restore, d, 0, 0, n0, Q) 0 0 31 [some (.ref 19), some (.int x1), some (.int (nI to)), some (.int (nI k))] [] (sh_ i0 i1 ex) mu' nu := by
  intro j
  induction j with
  | zero =>
    intro k mu' hk h1 h3
    have hk : k = 6 := by omega
    subst hk
    refine pm_go 9999 (by exact okX11_restore) rfl ?_; (try dsimp only [pm_st1, pm_st2, pm_cat2, pm_la, Option.toList, List.cons_append, List.nil_append])
    refine pm_ige (by exact okX11_restore) rfl (fun h4 => ?_) (fun h4 => ?_)
    · refine pm_G.fg [false, false, false, true] ?_; dsimp only [pm_fg]
      exact kk mu' h1 h3
    · exact absurd (by decide) h4
  | succ j ih =>
    intro k mu' hk h1 h3
    have e6 : nI to + 6 + nI k = nI (to + 6 + k) := by rw [show (6 : Int32) = nI 6 from rfl, nI_add, nI_add]
    have e12 : nI to + 12 + nI k = nI (to + 12 + k) := by rw [show (12 : Int32) = nI 12 from rfl, nI_add, nI_add]
    have e38 := h1 38 (by omega) (by omega) (by omega)
    refine pm_go 9999 (by exact okX11_restore) rfl ?_; (try dsimp only [pm_st1, pm_st2, pm_cat2, pm_la, Option.toList, List.cons_append, List.nil_append])
    refine pm_ige (by exact okX11_restore) rfl (fun h4 => ?_) (fun h4 => ?_)
    · exact absurd h4 (nI_ge (a := k) (b := 6) (by omega) (by omega))
    · refine pm_go 9999 (by exact okX11_restore) rfl ?_; (try dsimp only [pm_st1, pm_st2, pm_cat2, pm_la, Option.toList, List.cons_append, List.nil_append])
      rw [nI_add]
      refine pm_ial (by exact okX11_restore) rfl rfl (vp_in_nI (by omega) (by omega)) ?_
      rw [nI_clamp (by omega), e38]
      refine pm_ias (by exact okX11_restore) rfl rfl (vp_in_nI (by omega) (by omega)) ?_
      rw [nI_clamp (by omega)]
      refine pm_go 9999 (by exact okX11_restore) rfl ?_; (try dsimp only [pm_st1, pm_st2, pm_cat2, pm_la, Option.toList, List.cons_append, List.nil_append])
      rw [e6]
      refine pm_ial (by exact okX11_restore) rfl rfl (vp_in_nI (by omega) (by omega)) ?_
      rw [nI_clamp (by omega), pm_up_o (by omega), e38]
      refine pm_ias (by exact okX11_restore) rfl rfl (vp_in_nI (by omega) (by omega)) ?_
      rw [nI_clamp (by omega)]
      refine pm_go 9999 (by exact okX11_restore) rfl ?_; (try dsimp only [pm_st1, pm_st2, pm_cat2, pm_la, Option.toList, List.cons_append, List.nil_append])
      rw [e12]
      refine pm_ial (by exact okX11_restore) rfl rfl (vp_in_nI (by omega) (by omega)) ?_
      rw [nI_clamp (by omega), pm_up_o (by omega), pm_up_o (by omega), e38]
      refine pm_ias (by exact okX11_restore) rfl rfl (vp_in_nI (by omega) (by omega)) ?_
      rw [nI_clamp (by omega)]
      refine pm_go 31 (by exact okX11_restore) rfl ?_; (try dsimp only [pm_st1, pm_st2, pm_cat2, pm_la, Option.toList, List.cons_append, List.nil_append])
      rw [nI_1]
      refine ih (k + 1) _ (by omega) (fun a q1 q2 q3 => by rw [pm_up_ne q3, pm_up_ne q2, pm_up_ne q1]; exact h1 a q1 q2 q3) (fun b hb => ?_)
      by_cases hbk : b = k
      · subst hbk
        refine ⟨?_, ?_, pm_up_at⟩
        · rw [pm_up_o (by omega), pm_up_o (by omega), pm_up_at]
        · rw [pm_up_o (by omega), pm_up_at]
      · obtain ⟨q1, q2, q3⟩ := h3 b (by omega)
        refine ⟨?_, ?_, ?_⟩
        · rw [pm_up_o (by omega), pm_up_o (by omega), pm_up_of hbk]; exact q1
        · rw [pm_up_o (by omega), pm_up_of hbk, pm_up_o (by omega)]; exact q2
        · rw [pm_up_of hbk, pm_up_o (by omega), pm_up_o (by omega)]; exact q3
set_option maxRecDepth 100000 in
set_option maxHeartbeats 1000000 in
theorem M_restore_b {Q : pm_Po} {to : Nat} {x1 : Int32} (ht : to ≤ 42) (kk : ∀ mu' : pm_I, (∀ a, a ≠ 24 → mu' a = mu a) → (∀ b, b < 12 → mu' 24 b = mu 38 (to + 18 + b)) → pm_G cx (mX11_restore, d, 0, 0, n0, Q) 0 0 122 [some (.ref 19), some (.int x1), some (.int (nI to)), none] [] (sh_ i0 i1 ex) mu' nu) : ∀ (j k : Nat) (mu' : pm_I), k + j = 12 → (∀ a, a ≠ 24 → mu' a = mu a) → (∀ b, b < k → mu' 24 b = mu 38 (to + 18 + b)) → pm_G cx (mX11_restore, d, 0, 0, n0, Q) 0 0 93 [some (.ref 19), some (.int x1), some (.int (nI to)), some (.int (nI k))] [] (sh_ i0 i1 ex) mu' nu := by
  intro j
  induction j with
  | zero =>
    intro k mu' hk h1 h3
    have hk : k = 12 := by omega
    subst hk
    refine pm_go 9999 (by exact okX11_restore) rfl ?_; (try dsimp only [pm_st1, pm_st2, pm_cat2, pm_la, Option.toList, List.cons_append, List.nil_append])
    refine pm_ige (by exact okX11_restore) rfl (fun h4 => ?_) (fun h4 => ?_)
    · refine pm_G.fg [false, false, false, true] ?_; dsimp only [pm_fg]
      exact kk mu' h1 h3
    · exact absurd (by decide) h4
  | succ j ih =>
    intro k mu' hk h1 h3
    have e18 : nI to + 18 + nI k = nI (to + 18 + k) := by rw [show (18 : Int32) = nI 18 from rfl, nI_add, nI_add]
    refine pm_go 9999 (by exact okX11_restore) rfl ?_; (try dsimp only [pm_st1, pm_st2, pm_cat2, pm_la, Option.toList, List.cons_append, List.nil_append])
    refine pm_ige (by exact okX11_restore) rfl (fun h4 => ?_) (fun h4 => ?_)
    · exact absurd h4 (nI_ge (a := k) (b := 12) (by omega) (by omega))
    · refine pm_go 9999 (by exact okX11_restore) rfl ?_; (try dsimp only [pm_st1, pm_st2, pm_cat2, pm_la, Option.toList, List.cons_append, List.nil_append])
      rw [e18]
      refine pm_ial (by exact okX11_restore) rfl rfl (vp_in_nI (by omega) (by omega)) ?_
      rw [nI_clamp (by omega), h1 38 (by omega)]
      refine pm_ias (by exact okX11_restore) rfl rfl (vp_in_nI (by omega) (by omega)) ?_
      rw [nI_clamp (by omega)]
      refine pm_go 93 (by exact okX11_restore) rfl ?_; (try dsimp only [pm_st1, pm_st2, pm_cat2, pm_la, Option.toList, List.cons_append, List.nil_append])
      rw [nI_1]
      refine ih (k + 1) _ (by omega) (fun a ha => by rw [pm_up_ne ha]; exact h1 a ha) (fun b hb => ?_)
      by_cases hbk : b = k
      · subst hbk; exact pm_up_at
      · rw [pm_up_of hbk]; exact h3 b (by omega)
set_option maxRecDepth 100000 in
set_option maxHeartbeats 1000000 in
theorem M_restore_c {Q : pm_Po} {n : Nat} {v0 v1 v2 v3 v4 v5 v6 v7 : Int32} (hn : n < 2) (e0 : mu 38 (42 * n + 30) = v0) (e1 : mu 38 (42 * n + 31) = v1) (e2 : mu 38 (42 * n + 32) = v2) (e3 : mu 38 (42 * n + 33) = v3) (e4 : mu 38 (42 * n + 34) = v4) (e5 : mu 38 (42 * n + 35) = v5) (e6 : mu 38 (42 * n + 36) = v6) (e7 : mu 38 (42 * n + 37) = v7) (kk : ∀ mu' : pm_I, (∀ a, a ≠ 19 → mu' a = mu a) → mu' 19 0 = v0 → mu' 19 3 = v1 → mu' 19 4 = v2 → mu' 19 5 = v3 → mu' 19 6 = mu 19 6 → mu' 19 8 = v4 → mu' 19 9 = v5 → mu' 19 11 = v6 → mu' 19 12 = v7 → Q (some (.int 1)) (sh_ i0 i1 ex) mu' nu) : pm_G cx (mX11_restore, d, 0, 0, n0, Q) 0 0 122 [some (.ref 19), some (.int (nI n)), some (.int (nI (42 * n))), none] [] (sh_ i0 i1 ex) mu nu := by
  have f : ∀ k : Nat, k < 50 → nI (42 * n) + nI k = nI (42 * n + k) := fun k _ => nI_add _ _
  refine pm_go 9999 (by exact okX11_restore) rfl ?_; (try dsimp only [pm_st1, pm_st2, pm_cat2, pm_la, Option.toList, List.cons_append, List.nil_append])
  rw [show nI (42 * n) + 30 = nI (42 * n + 30) from f 30 (by omega)]
  refine pm_ial (by exact okX11_restore) rfl rfl (vp_in_nI (by omega) (by omega)) ?_
  rw [nI_clamp (by omega), e0]
  refine pm_go 9999 (by exact okX11_restore) rfl ?_; (try dsimp only [pm_st1, pm_st2, pm_cat2, pm_la, Option.toList, List.cons_append, List.nil_append])
  rw [show nI (42 * n) + 31 = nI (42 * n + 31) from f 31 (by omega)]
  refine pm_ial (by exact okX11_restore) rfl rfl (vp_in_nI (by omega) (by omega)) ?_
  rw [nI_clamp (by omega), pm_up_o (by omega), e1]
  refine pm_go 9999 (by exact okX11_restore) rfl ?_; (try dsimp only [pm_st1, pm_st2, pm_cat2, pm_la, Option.toList, List.cons_append, List.nil_append])
  rw [show nI (42 * n) + 32 = nI (42 * n + 32) from f 32 (by omega)]
  refine pm_ial (by exact okX11_restore) rfl rfl (vp_in_nI (by omega) (by omega)) ?_
  rw [nI_clamp (by omega), pm_up_o (by omega), pm_up_o (by omega), e2]
  refine pm_go 9999 (by exact okX11_restore) rfl ?_; (try dsimp only [pm_st1, pm_st2, pm_cat2, pm_la, Option.toList, List.cons_append, List.nil_append])
  rw [show nI (42 * n) + 33 = nI (42 * n + 33) from f 33 (by omega)]
  refine pm_ial (by exact okX11_restore) rfl rfl (vp_in_nI (by omega) (by omega)) ?_
  rw [nI_clamp (by omega), pm_up_o (by omega), pm_up_o (by omega), pm_up_o (by omega), e3]
  refine pm_go 9999 (by exact okX11_restore) rfl ?_; (try dsimp only [pm_st1, pm_st2, pm_cat2, pm_la, Option.toList, List.cons_append, List.nil_append])
  rw [show nI (42 * n) + 34 = nI (42 * n + 34) from f 34 (by omega)]
  refine pm_ial (by exact okX11_restore) rfl rfl (vp_in_nI (by omega) (by omega)) ?_
  rw [nI_clamp (by omega), pm_up_o (by omega), pm_up_o (by omega), pm_up_o (by omega), pm_up_o (by omega), e4]
  refine pm_go 9999 (by exact okX11_restore) rfl ?_; (try dsimp only [pm_st1, pm_st2, pm_cat2, pm_la, Option.toList, List.cons_append, List.nil_append])
  rw [show nI (42 * n) + 35 = nI (42 * n + 35) from f 35 (by omega)]
  refine pm_ial (by exact okX11_restore) rfl rfl (vp_in_nI (by omega) (by omega)) ?_
  rw [nI_clamp (by omega), pm_up_o (by omega), pm_up_o (by omega), pm_up_o (by omega), pm_up_o (by omega), pm_up_o (by omega), e5]
  refine pm_go 9999 (by exact okX11_restore) rfl ?_; (try dsimp only [pm_st1, pm_st2, pm_cat2, pm_la, Option.toList, List.cons_append, List.nil_append])
  rw [show nI (42 * n) + 36 = nI (42 * n + 36) from f 36 (by omega)]
  refine pm_ial (by exact okX11_restore) rfl rfl (vp_in_nI (by omega) (by omega)) ?_
  rw [nI_clamp (by omega), pm_up_o (by omega), pm_up_o (by omega), pm_up_o (by omega), pm_up_o (by omega), pm_up_o (by omega), pm_up_o (by omega), e6]
  refine pm_go 9999 (by exact okX11_restore) rfl ?_; (try dsimp only [pm_st1, pm_st2, pm_cat2, pm_la, Option.toList, List.cons_append, List.nil_append])
  rw [show nI (42 * n) + 37 = nI (42 * n + 37) from f 37 (by omega)]
  refine pm_ial (by exact okX11_restore) rfl rfl (vp_in_nI (by omega) (by omega)) ?_
  rw [nI_clamp (by omega), pm_up_o (by omega), pm_up_o (by omega), pm_up_o (by omega), pm_up_o (by omega), pm_up_o (by omega), pm_up_o (by omega), pm_up_o (by omega), e7]
  refine pm_go 9999 (by exact okX11_restore) rfl ?_; (try dsimp only [pm_st1, pm_st2, pm_cat2, pm_la, Option.toList, List.cons_append, List.nil_append])
  refine pm_ri (by exact okX11_restore) rfl rfl rfl (Nat.le_refl _) (Nat.le_refl _) (kk _ (fun a h1 => by simp only [pm_up_ne h1]) ?_ ?_ ?_ ?_ ?_ ?_ ?_ ?_ pm_up_at)
  · rw [pm_up_of (by omega), pm_up_of (by omega), pm_up_of (by omega), pm_up_of (by omega), pm_up_of (by omega), pm_up_of (by omega), pm_up_of (by omega), pm_up_at]
  · rw [pm_up_of (by omega), pm_up_of (by omega), pm_up_of (by omega), pm_up_of (by omega), pm_up_of (by omega), pm_up_of (by omega), pm_up_at]
  · rw [pm_up_of (by omega), pm_up_of (by omega), pm_up_of (by omega), pm_up_of (by omega), pm_up_of (by omega), pm_up_at]
  · rw [pm_up_of (by omega), pm_up_of (by omega), pm_up_of (by omega), pm_up_of (by omega), pm_up_at]
  · rw [pm_up_of (by omega), pm_up_of (by omega), pm_up_of (by omega), pm_up_of (by omega), pm_up_of (by omega), pm_up_of (by omega), pm_up_of (by omega), pm_up_of (by omega)]
  · rw [pm_up_of (by omega), pm_up_of (by omega), pm_up_of (by omega), pm_up_at]
  · rw [pm_up_of (by omega), pm_up_of (by omega), pm_up_at]
  · rw [pm_up_of (by omega), pm_up_at]
set_option maxRecDepth 100000 in
set_option maxHeartbeats 1000000 in
theorem M_restore {z : mS} (n : Int32) (hz : zOK z) (h : MA z mu) (hd : 1 ≤ d) : pm_T cx mX11_restore d 0 0 [.ref 19, .int n] (sh_ i0 i1 ex) mu nu (mQ (.int (sp_restore z n).1) (sp_restore z n).2 i0 i1 ex mu) := by
  obtain ⟨⟨a1, a2, a3, a4, a5, a6, a7, a8, a9, b1, b2, b3, b4, b5⟩, c1, c2⟩ := id h
  obtain ⟨hg, hp, hi0, hi1⟩ := id hz
  have main : ∀ (k : Nat) (o : Option gS), k < 2 → MI k o mu → (∀ g, o = some g → gOK g) → sp_restore z (nI k) = (match o with
      | some g => (1, (g, z.2))
      | none => (-3, z)) → pm_G cx (mX11_restore, d, 0, 0, (sh_ i0 i1 ex).length, mQ (.int (sp_restore z (nI k)).1) (sp_restore z (nI k)).2 i0 i1 ex mu) 0 0 12 [some (.ref 19), some (.int (nI k)), none, none] [] (sh_ i0 i1 ex) mu nu := by
    intro k o hk hI hgo hs
    obtain ⟨I1, I2⟩ := hI
    rw [hs]
    refine pm_go 9999 (by exact okX11_restore) rfl ?_; (try dsimp only [pm_st1, pm_st2, pm_cat2, pm_la, Option.toList, List.cons_append, List.nil_append])
    refine pm_zal (by exact okX11_restore) rfl rfl (vp_in_nI hk (by omega)) ?_
    rw [nI_clamp (by omega), I1]
    cases o with
    | none =>
      refine pm_zne (by exact okX11_restore) rfl (fun h2 => ?_) (fun h2 => ?_)
      · exact absurd (bI_n.mp h2) (by simp)
      · refine pm_go 9999 (by exact okX11_restore) rfl ?_; (try dsimp only [pm_st1, pm_st2, pm_cat2, pm_la, Option.toList, List.cons_append, List.nil_append])
        refine pm_ri (by exact okX11_restore) rfl rfl rfl (Nat.le_refl _) (Nat.le_refl _) (⟨rfl, rfl, h, fM.rf⟩)
    | some g =>
      have hgg := hgo g rfl
      have hK : (gK g).length ≤ 6 := nodup_len hgg.2.2.2.2.2.2.2.2.1.1 (gOK_K6 hgg)
      have hV := hgg.2.2.2.2.2.2.2.2.2.1
      obtain ⟨g1, g2, g3, g4, g5, g6, g7, g8, g9, g10, g11, g12⟩ := I2 g rfl
      refine pm_zne (by exact okX11_restore) rfl (fun h2 => ?_) (fun h2 => ?_)
      · refine pm_go 31 (by exact okX11_restore) rfl ?_; (try dsimp only [pm_st1, pm_st2, pm_cat2, pm_la, Option.toList, List.cons_append, List.nil_append])
        rw [show (42 : Int32) = nI 42 from rfl, pk_mul]
        refine M_restore_a (mu := mu) (to := 42 * k) (by omega) (fun m1 f1 f3 => ?_) 6 0 mu rfl (fun _ _ _ _ => rfl) (fun b hb => absurd hb (by omega))
        refine pm_go 93 (by exact okX11_restore) rfl ?_; (try dsimp only [pm_st1, pm_st2, pm_cat2, pm_la, Option.toList, List.cons_append, List.nil_append])
        refine M_restore_b (mu := m1) (to := 42 * k) (by omega) (fun m2 p1 p3 => ?_) 12 0 m1 rfl (fun _ _ => rfl) (fun b hb => absurd hb (by omega))
        have q38 : m2 38 = mu 38 := by rw [p1 38 (by omega), f1 38 (by omega) (by omega) (by omega)]
        have q19 : m2 19 = mu 19 := by rw [p1 19 (by omega), f1 19 (by omega) (by omega) (by omega)]
        refine M_restore_c (n := k) hk (by rw [q38]; exact g5) (by rw [q38]; exact g6) (by rw [q38]; exact g7) (by rw [q38]; exact g8) (by rw [q38]; exact g9) (by rw [q38]; exact g10) (by rw [q38]; exact g11) (by rw [q38]; exact g12) (fun m3 r1 w0 w1 w2 w3 w4 w5 w6 w7 w8 => ⟨rfl, rfl, ⟨⟨w0, w1, w2, w3, ?_, w5, w6, w7, w8, fun b hb => ?_, fun b hb => ?_, fun j b hj => ?_, fun j b hj => ?_, fun j q hj => ?_⟩, ?_, ?_⟩, fun a ha => ?_⟩)
        · rw [w4, q19]; exact a5
        · rw [r1 20 (by omega), p1 20 (by omega), (f3 b hb).1]; exact g1 b hb
        · rw [r1 21 (by omega), p1 21 (by omega), (f3 b hb).2.1]; exact g2 b hb
        · rw [r1 22 (by omega), p1 22 (by omega), f1 22 (by omega) (by omega) (by omega)]; exact b3 j b hj
        · replace hj : (gK g)[j]? = some b := hj
          have hj6 := (List.getElem?_eq_some_iff.mp hj).1
          rw [r1 23 (by omega), p1 23 (by omega), (f3 j (by omega)).2.2]; exact g3 j b hj
        · replace hj : (gV g)[j]? = some q := hj
          have hj6 := (List.getElem?_eq_some_iff.mp hj).1
          rw [r1 24 (by omega), p3 (2 * j) (by omega), p3 (2 * j + 1) (by omega), f1 38 (by omega) (by omega) (by omega)]; exact g4 j q hj
        · exact c1.same (by rw [r1 38 (by omega), q38]) (by rw [r1 39 (by omega), p1 39 (by omega), f1 39 (by omega) (by omega) (by omega)])
        · exact c2.same (by rw [r1 38 (by omega), q38]) (by rw [r1 39 (by omega), p1 39 (by omega), f1 39 (by omega) (by omega) (by omega)])
        · rw [r1 a (by omega), p1 a (by omega), f1 a (by omega) (by omega) (by omega)]
      · exact absurd h2 (bI_n.mpr rfl)
  refine pm_enterN 2 (by exact okX11_restore) rfl ?_; dsimp only [pm_la, pm_cat2, List.replicate, List.cons_append, List.nil_append, List.append_nil]
  refine pm_go 9999 (by exact okX11_restore) rfl ?_; (try dsimp only [pm_st1, pm_st2, pm_cat2, pm_la, Option.toList, List.cons_append, List.nil_append])
  refine pm_cs (by exact okX11_restore) (by exact okX11_in) rfl (by exact arX11_in) (t_in (d := 0) n 0 1) rfl (by dsimp only; omega) rfl (Nat.le_of_ble_eq_true rfl) ⟨Nat.zero_le _, Nat.zero_le _⟩ ?_
  rintro _ _ _ _ ⟨rfl, rfl, rfl, rfl⟩ -
  refine pm_go 12 (by exact okX11_restore) rfl ?_; (try dsimp only [pm_st1, pm_st2, pm_cat2, pm_la, Option.toList, List.cons_append, List.nil_append])
  refine pm_zne (by exact okX11_restore) rfl (fun h1 => ?_) (fun h1 => ?_)
  · have h1 := bI_n.mp h1
    obtain ⟨k, -, hk, rfl⟩ := rng_of (a := 0) (b := 1) (by omega) (by omega) h1
    rcases (show k = 0 ∨ k = 1 by omega) with rfl | rfl
    · exact main 0 z.2.2.1 (by omega) c1 hi0 rfl
    · exact main 1 z.2.2.2 (by omega) c2 hi1 rfl
  · have h1 := bI_z.mp h1
    have hs : sp_restore z n = (-2, z) := by
      unfold sp_restore
      rw [if_neg, if_neg]
      · intro q; subst q; exact h1 (by decide)
      · intro q; subst q; exact h1 (by decide)
    rw [hs]
    refine pm_go 9999 (by exact okX11_restore) rfl ?_; (try dsimp only [pm_st1, pm_st2, pm_cat2, pm_la, Option.toList, List.cons_append, List.nil_append])
    refine pm_ri (by exact okX11_restore) rfl rfl rfl (Nat.le_refl _) (Nat.le_refl _) (⟨rfl, rfl, h, fM.rf⟩)
end
end
section
/-! ===== the reference's pattern, orders ===== -/
/-- the first answer of f from lo on, n places -/
def ff_ {R : Type} (f : Nat → Option R) : Nat → Nat → Option R
  | _, 0 => none
  | lo, n + 1 => match f lo with
    | some x => some x
    | none => ff_ f (lo + 1) n
def pt_c (pd : List Nat) (a b : Nat) (c : Nat) : Option (Nat × Nat × Nat) := if pd.getD b 0 < pd.getD c 0 ∧ pd.getD c 0 < pd.getD a 0 then some (a, b, c) else none
def pt_b (pd : List Nat) (B a : Nat) (b : Nat) : Option (Nat × Nat × Nat) := ff_ (pt_c pd a b) (b + 1) (B - (b + 1))
def pt_a (pd : List Nat) (B : Nat) (a : Nat) : Option (Nat × Nat × Nat) := ff_ (pt_b pd B a) (a + 1) (B - (a + 1))
def pt_ (pd : List Nat) (B : Nat) : Option (Nat × Nat × Nat) := ff_ (pt_a pd B) 0 B
def sp_pattern (z : mS) (i : Int32) : Int32 :=
  if ¬ (0 ≤ i ∧ i ≤ 2) then -2 else if pd_of (gB z.1) 0 0 z.2.1 ≠ none then -5 else match pt_ z.2.1 (gB z.1) with
    | none => -6
    | some q => if i = 0 then nI q.1 else if i = 1 then nI q.2.1 else nI q.2.2
theorem pd_of_lt {B : Nat} : ∀ (r : List Nat) (k us b : Nat), pd_of B k us r = some b → b ≤ k + r.length := by
  intro r
  induction r with
  | nil => intro k us b h; simp only [pd_of] at h; split at h <;> cases h; simp
  | cons c r ih =>
    intro k us b h
    simp only [pd_of] at h
    simp only [List.length_cons]
    split at h
    · have := ih _ _ _ h; omega
    · cases h; omega
/-- an ORDER without a FAULT: at least as many signs as BEDS, letters all -/
theorem pd_of_ok {B : Nat} : ∀ (r : List Nat) (k us : Nat), pd_of B k us r = none → B ≤ k + r.length ∧ (∀ c ∈ r, 97 ≤ c ∧ c < 97 + B) ∧ r.Nodup ∧ ∀ c ∈ r, us.testBit (c - 97) = false := by
  intro r
  induction r with
  | nil =>
    intro k us h
    simp only [pd_of] at h
    split at h
    · cases h
    · exact ⟨by simp; omega, fun c hc => (List.not_mem_nil hc).elim, List.nodup_nil, fun c hc => (List.not_mem_nil hc).elim⟩
  | cons c r ih =>
    intro k us h
    simp only [pd_of] at h
    split at h
    · rename_i hc
      obtain ⟨g1, g2, g3, g4⟩ := ih _ _ h
      have key : ∀ x ∈ r, x ≠ c ∧ us.testBit (x - 97) = false := by
        intro x hx
        have q := g4 x hx
        rw [tb_set, Bool.or_eq_false_iff] at q
        refine ⟨fun e => ?_, q.1⟩
        subst e
        simp at q
      refine ⟨by simp only [List.length_cons]; omega, fun x hx => ?_, List.nodup_cons.mpr ⟨fun q => (key c q).1 rfl, g3⟩, fun x hx => ?_⟩
      · rcases List.mem_cons.mp hx with rfl | hx
        · exact hc.1
        · exact g2 x hx
      · rcases List.mem_cons.mp hx with rfl | hx
        · simpa using hc.2
        · exact (key x hx).2
    · cases h
theorem pd_of_len {B : Nat} {pd : List Nat} (h : pd_of B 0 0 pd = none) (hB : B ≤ 6) : pd.length = B := by
  obtain ⟨g1, g2, g3, -⟩ := pd_of_ok pd 0 0 h
  have : pd.length ≤ B := by
    refine fb_holes B pd.length (fun i => pd.getD i 0 - 97) (fun i hi => ?_) (fun i j hij hj => ?_)
    · simp only [List.getD_eq_getElem?_getD, List.getElem?_eq_getElem hi, Option.getD_some]
      have := g2 _ (List.getElem_mem hi)
      omega
    · simp only [List.getD_eq_getElem?_getD, List.getElem?_eq_getElem hj, List.getElem?_eq_getElem (Nat.lt_trans hij hj), Option.getD_some]
      intro q
      have q1 := g2 _ (List.getElem_mem hj)
      have q2 := g2 _ (List.getElem_mem (Nat.lt_trans hij hj))
      have := (List.getElem_inj g3).mp (show pd[i] = pd[j] by omega)
      omega
  omega
section
variable {cx : pm_CX} {d n0 : Nat} {i0 i1 : Option Nat} {ex : List pm_C} {mu : pm_I} {nu : pm_J}
set_option maxRecDepth 100000 in
set_option maxHeartbeats 1000000 in
theorem M_pattern_c {Q : pm_Po} {pd : List Nat} {B a b : Nat} {x1 : Int32} (hB : mu 19 0 = nI B) (hB6 : B ≤ 6) (hpl : pd.length = B) (hP : ∀ k b, pd[k]? = some b → mu 22 k = nI b) (hp : dOK pd) (ha : a < B) (hb : b < B) (found : ∀ q : Nat × Nat × Nat, ff_ (pt_c pd a b) (b + 1) (B - (b + 1)) = some q → q.1 < B → q.2.1 < B → q.2.2 < B → pm_G cx (mX11_pattern, d, 0, 0, n0, Q) 0 0 90 [some (.ref 19), some (.int x1), some (.int (nI q.1)), some (.int (nI q.2.1)), some (.int (nI q.2.2))] [] (sh_ i0 i1 ex) mu nu) (out : ff_ (pt_c pd a b) (b + 1) (B - (b + 1)) = none → pm_G cx (mX11_pattern, d, 0, 0, n0, Q) 0 0 116 [some (.ref 19), some (.int x1), some (.int (nI a)), some (.int (nI b)), none] [] (sh_ i0 i1 ex) mu nu) : ∀ (j c : Nat), c + j = B → ff_ (pt_c pd a b) (b + 1) (B - (b + 1)) = ff_ (pt_c pd a b) c j → pm_G cx (mX11_pattern, d, 0, 0, n0, Q) 0 0 49 [some (.ref 19), some (.int x1), some (.int (nI a)), some (.int (nI b)), some (.int (nI c))] [] (sh_ i0 i1 ex) mu nu := by
  have hget : ∀ k, k < B → mu 22 k = nI (pd.getD k 0) ∧ pd.getD k 0 ≤ 126 := by
    intro k hk
    have h1 := List.getElem?_eq_getElem (l := pd) (i := k) (by omega)
    rw [List.getD_eq_getElem?_getD, h1, Option.getD_some]
    exact ⟨hP k _ h1, (hp.2 _ (List.getElem_mem _)).2⟩
  intro j
  induction j with
  | zero =>
    intro c hc he
    refine pm_go 9999 (by exact okX11_pattern) rfl ?_; (try dsimp only [pm_st1, pm_st2, pm_cat2, pm_la, Option.toList, List.cons_append, List.nil_append])
    rw [hB]
    refine pm_ige (by exact okX11_pattern) rfl (fun h1 => ?_) (fun h1 => ?_)
    · refine pm_G.fg [false, false, false, false, true] ?_; dsimp only [pm_fg]
      exact out (by rw [he]; rfl)
    · exact absurd (nI_le (by omega) (by omega)) h1
  | succ j ih =>
    intro c hc he
    obtain ⟨ga, la⟩ := hget a ha
    obtain ⟨gb, lb⟩ := hget b hb
    obtain ⟨gc, lc⟩ := hget c (by omega)
    have no : ¬ (pd.getD b 0 < pd.getD c 0 ∧ pd.getD c 0 < pd.getD a 0) → pm_G cx (mX11_pattern, d, 0, 0, n0, Q) 0 0 110 [some (.ref 19), some (.int x1), some (.int (nI a)), some (.int (nI b)), some (.int (nI c))] [] (sh_ i0 i1 ex) mu nu := by
      intro hn
      refine pm_go 49 (by exact okX11_pattern) rfl ?_; (try dsimp only [pm_st1, pm_st2, pm_cat2, pm_la, Option.toList, List.cons_append, List.nil_append])
      rw [nI_1]
      refine ih (c + 1) (by omega) ?_
      rw [he]
      simp only [ff_]
      rw [show pt_c pd a b c = none from if_neg hn]
    refine pm_go 9999 (by exact okX11_pattern) rfl ?_; (try dsimp only [pm_st1, pm_st2, pm_cat2, pm_la, Option.toList, List.cons_append, List.nil_append])
    rw [hB]
    refine pm_ige (by exact okX11_pattern) rfl (fun h1 => ?_) (fun h1 => ?_)
    · exact absurd h1 (nI_ge (by omega) (by omega))
    · refine pm_go 9999 (by exact okX11_pattern) rfl ?_; (try dsimp only [pm_st1, pm_st2, pm_cat2, pm_la, Option.toList, List.cons_append, List.nil_append])
      refine pm_ial (by exact okX11_pattern) rfl rfl (vp_in_nI (by omega) (by omega)) ?_
      rw [nI_clamp (by omega), gb]
      refine pm_go 9999 (by exact okX11_pattern) rfl ?_; (try dsimp only [pm_st1, pm_st2, pm_cat2, pm_la, Option.toList, List.cons_append, List.nil_append])
      refine pm_ial (by exact okX11_pattern) rfl rfl (vp_in_nI (by omega) (by omega)) ?_
      rw [nI_clamp (by omega), gc]
      refine pm_ige (by exact okX11_pattern) rfl (fun h2 => ?_) (fun h2 => ?_)
      · have := (nI_leI (by omega) (by omega)).mp h2
        exact no (by omega)
      · have h2 : pd.getD b 0 < pd.getD c 0 := by
          rcases Nat.lt_or_ge (pd.getD b 0) (pd.getD c 0) with q | q
          · exact q
          · exact absurd (nI_le q (by omega)) h2
        refine pm_go 9999 (by exact okX11_pattern) rfl ?_; (try dsimp only [pm_st1, pm_st2, pm_cat2, pm_la, Option.toList, List.cons_append, List.nil_append])
        refine pm_ial (by exact okX11_pattern) rfl rfl (vp_in_nI (by omega) (by omega)) ?_
        rw [nI_clamp (by omega), gc]
        refine pm_go 9999 (by exact okX11_pattern) rfl ?_; (try dsimp only [pm_st1, pm_st2, pm_cat2, pm_la, Option.toList, List.cons_append, List.nil_append])
        refine pm_ial (by exact okX11_pattern) rfl rfl (vp_in_nI (by omega) (by omega)) ?_
        rw [nI_clamp (by omega), ga]
        refine pm_ige (by exact okX11_pattern) rfl (fun h3 => ?_) (fun h3 => ?_)
        · have := (nI_leI (by omega) (by omega)).mp h3
          exact no (by omega)
        · have h3 : pd.getD c 0 < pd.getD a 0 := by
            rcases Nat.lt_or_ge (pd.getD c 0) (pd.getD a 0) with q | q
            · exact q
            · exact absurd (nI_le q (by omega)) h3
          exact found (a, b, c) (by rw [he]; simp only [ff_]; rw [show pt_c pd a b c = some (a, b, c) from if_pos ⟨h2, h3⟩]) ha hb (show c < B by omega)
set_option maxRecDepth 100000 in
set_option maxHeartbeats 1000000 in
theorem M_pattern_b {Q : pm_Po} {pd : List Nat} {B a : Nat} {x1 : Int32} (hB : mu 19 0 = nI B) (hB6 : B ≤ 6) (hpl : pd.length = B) (hP : ∀ k b, pd[k]? = some b → mu 22 k = nI b) (hp : dOK pd) (ha : a < B) (found : ∀ q : Nat × Nat × Nat, pt_a pd B a = some q → q.1 < B → q.2.1 < B → q.2.2 < B → pm_G cx (mX11_pattern, d, 0, 0, n0, Q) 0 0 90 [some (.ref 19), some (.int x1), some (.int (nI q.1)), some (.int (nI q.2.1)), some (.int (nI q.2.2))] [] (sh_ i0 i1 ex) mu nu) (out : pt_a pd B a = none → pm_G cx (mX11_pattern, d, 0, 0, n0, Q) 0 0 122 [some (.ref 19), some (.int x1), some (.int (nI a)), none, none] [] (sh_ i0 i1 ex) mu nu) : ∀ (j b : Nat), b + j = B → pt_a pd B a = ff_ (pt_b pd B a) b j → pm_G cx (mX11_pattern, d, 0, 0, n0, Q) 0 0 36 [some (.ref 19), some (.int x1), some (.int (nI a)), some (.int (nI b)), none] [] (sh_ i0 i1 ex) mu nu := by
  intro j
  induction j with
  | zero =>
    intro b hb he
    refine pm_go 9999 (by exact okX11_pattern) rfl ?_; (try dsimp only [pm_st1, pm_st2, pm_cat2, pm_la, Option.toList, List.cons_append, List.nil_append])
    rw [hB]
    refine pm_ige (by exact okX11_pattern) rfl (fun h1 => ?_) (fun h1 => ?_)
    · refine pm_G.fg [false, false, false, true, true] ?_; dsimp only [pm_fg]
      exact out (by rw [he]; rfl)
    · exact absurd (nI_le (by omega) (by omega)) h1
  | succ j ih =>
    intro b hb he
    refine pm_go 9999 (by exact okX11_pattern) rfl ?_; (try dsimp only [pm_st1, pm_st2, pm_cat2, pm_la, Option.toList, List.cons_append, List.nil_append])
    rw [hB]
    refine pm_ige (by exact okX11_pattern) rfl (fun h1 => ?_) (fun h1 => ?_)
    · exact absurd h1 (nI_ge (by omega) (by omega))
    · refine pm_go 49 (by exact okX11_pattern) rfl ?_; (try dsimp only [pm_st1, pm_st2, pm_cat2, pm_la, Option.toList, List.cons_append, List.nil_append])
      rw [nI_1]
      refine M_pattern_c hB hB6 hpl hP hp ha (show b < B by omega) (fun q hq q1 q2 q3 => found q (by rw [he]; simp only [ff_]; rw [show pt_b pd B a b = some q from hq]) q1 q2 q3) (fun hq => ?_) (B - (b + 1)) (b + 1) (by omega) rfl
      refine pm_go 36 (by exact okX11_pattern) rfl ?_; (try dsimp only [pm_st1, pm_st2, pm_cat2, pm_la, Option.toList, List.cons_append, List.nil_append])
      rw [nI_1]
      refine ih (b + 1) (by omega) ?_
      rw [he]
      simp only [ff_]
      rw [show pt_b pd B a b = none from hq]
set_option maxRecDepth 100000 in
set_option maxHeartbeats 1000000 in
theorem M_pattern_a {Q : pm_Po} {pd : List Nat} {B : Nat} {x1 : Int32} (hB : mu 19 0 = nI B) (hB6 : B ≤ 6) (hpl : pd.length = B) (hP : ∀ k b, pd[k]? = some b → mu 22 k = nI b) (hp : dOK pd) (found : ∀ q : Nat × Nat × Nat, pt_ pd B = some q → q.1 < B → q.2.1 < B → q.2.2 < B → pm_G cx (mX11_pattern, d, 0, 0, n0, Q) 0 0 90 [some (.ref 19), some (.int x1), some (.int (nI q.1)), some (.int (nI q.2.1)), some (.int (nI q.2.2))] [] (sh_ i0 i1 ex) mu nu) (out : pt_ pd B = none → pm_G cx (mX11_pattern, d, 0, 0, n0, Q) 0 0 128 [some (.ref 19), some (.int x1), none, none, none] [] (sh_ i0 i1 ex) mu nu) : ∀ (j a : Nat), a + j = B → pt_ pd B = ff_ (pt_a pd B) a j → pm_G cx (mX11_pattern, d, 0, 0, n0, Q) 0 0 24 [some (.ref 19), some (.int x1), some (.int (nI a)), none, none] [] (sh_ i0 i1 ex) mu nu := by
  intro j
  induction j with
  | zero =>
    intro a ha he
    refine pm_go 9999 (by exact okX11_pattern) rfl ?_; (try dsimp only [pm_st1, pm_st2, pm_cat2, pm_la, Option.toList, List.cons_append, List.nil_append])
    rw [hB]
    refine pm_ige (by exact okX11_pattern) rfl (fun h1 => ?_) (fun h1 => ?_)
    · refine pm_G.fg [false, false, true, true, true] ?_; dsimp only [pm_fg]
      exact out (by rw [he]; rfl)
    · exact absurd (nI_le (by omega) (by omega)) h1
  | succ j ih =>
    intro a ha he
    refine pm_go 9999 (by exact okX11_pattern) rfl ?_; (try dsimp only [pm_st1, pm_st2, pm_cat2, pm_la, Option.toList, List.cons_append, List.nil_append])
    rw [hB]
    refine pm_ige (by exact okX11_pattern) rfl (fun h1 => ?_) (fun h1 => ?_)
    · exact absurd h1 (nI_ge (by omega) (by omega))
    · refine pm_go 36 (by exact okX11_pattern) rfl ?_; (try dsimp only [pm_st1, pm_st2, pm_cat2, pm_la, Option.toList, List.cons_append, List.nil_append])
      rw [nI_1]
      refine M_pattern_b hB hB6 hpl hP hp (show a < B by omega) (fun q hq q1 q2 q3 => found q (by rw [he]; simp only [ff_]; rw [hq]) q1 q2 q3) (fun hq => ?_) (B - (a + 1)) (a + 1) (by omega) rfl
      refine pm_go 24 (by exact okX11_pattern) rfl ?_; (try dsimp only [pm_st1, pm_st2, pm_cat2, pm_la, Option.toList, List.cons_append, List.nil_append])
      rw [nI_1]
      refine ih (a + 1) (by omega) ?_
      rw [he]
      simp only [ff_]
      rw [hq]
set_option maxRecDepth 100000 in
set_option maxHeartbeats 1000000 in
theorem M_pattern {z : mS} (i : Int32) (hz : zOK z) (h : MA z mu) (hd : 3 ≤ d) : pm_T cx mX11_pattern d 0 0 [.ref 19, .int i] (sh_ i0 i1 ex) mu nu (mQ (.int (sp_pattern z i)) z i0 i1 ex mu) := by
  obtain ⟨⟨a1, a2, a3, a4, a5, a6, a7, a8, a9, b1, b2, b3, b4, b5⟩, c1, c2⟩ := id h
  obtain ⟨hg, hp, -⟩ := id hz
  have hB6 := hg.1
  have hp1 := hp.1
  unfold sp_pattern
  refine pm_enterN 3 (by exact okX11_pattern) rfl ?_; dsimp only [pm_la, pm_cat2, List.replicate, List.cons_append, List.nil_append, List.append_nil]
  refine pm_go 9999 (by exact okX11_pattern) rfl ?_; (try dsimp only [pm_st1, pm_st2, pm_cat2, pm_la, Option.toList, List.cons_append, List.nil_append])
  refine pm_cs (by exact okX11_pattern) (by exact okX11_in) rfl (by exact arX11_in) (t_in (d := 0) i 0 2) rfl (by dsimp only; omega) rfl (Nat.le_of_ble_eq_true rfl) ⟨Nat.zero_le _, Nat.zero_le _⟩ ?_
  rintro _ _ _ _ ⟨rfl, rfl, rfl, rfl⟩ -
  refine pm_go 9999 (by exact okX11_pattern) rfl ?_; (try dsimp only [pm_st1, pm_st2, pm_cat2, pm_la, Option.toList, List.cons_append, List.nil_append])
  refine pm_zne (by exact okX11_pattern) rfl (fun h1 => ?_) (fun h1 => ?_)
  · have h1 := bI_n.mp h1
    rw [if_neg (fun q => q h1)]
    refine pm_go 9999 (by exact okX11_pattern) rfl ?_; (try dsimp only [pm_st1, pm_st2, pm_cat2, pm_la, Option.toList, List.cons_append, List.nil_append])
    refine pm_cv (by exact okX11_pattern) (by exact okX11_orderFault) rfl (by exact arX11_orderFault) (t_orderFault (d := 2) a1 hB6 a5 b3 hp (by omega)) rfl rfl rfl (by dsimp only; omega) rfl (Nat.le_of_ble_eq_true rfl) ⟨Nat.zero_le _, Nat.zero_le _⟩ ?_
    rintro _ _ _ _ ⟨rfl, rfl, rfl, rfl⟩ -
    refine pm_go 9999 (by exact okX11_pattern) rfl ?_; (try dsimp only [pm_st1, pm_st2, pm_cat2, pm_la, Option.toList, List.cons_append, List.nil_append])
    have eof := nO_neg (o := pd_of (gB z.1) 0 0 z.2.1) (n := 49) (fun b hb => by have := pd_of_lt _ _ _ _ hb; omega) (by omega)
    refine pm_zlt (by exact okX11_pattern) rfl (fun h2 => ?_) (fun h2 => ?_)
    · have h2 := eof.mp h2
      rw [if_neg (fun q => q h2)]
      have hpl := pd_of_len h2 hB6.2
      refine pm_go 24 (by exact okX11_pattern) rfl ?_; (try dsimp only [pm_st1, pm_st2, pm_cat2, pm_la, Option.toList, List.cons_append, List.nil_append])
      refine pm_G.cast (L' := [some (.ref 19), some (.int i), some (.int (nI 0)), none, none]) (S' := []) (mu' := mu) (nu' := nu) ?_ rfl rfl rfl rfl
      refine M_pattern_a a1 hB6.2 hpl b3 hp (fun q hq q1 q2 q3 => ?_) (fun hq => ?_) (gB z.1) 0 (by omega) rfl
      · rw [hq]
        show pm_G cx (mX11_pattern, d, 0, 0, (sh_ i0 i1 ex).length, mQ (.int (if i = 0 then nI q.1 else if i = 1 then nI q.2.1 else nI q.2.2)) z i0 i1 ex mu) _ _ _ _ _ _ _ _
        refine pm_go 9999 (by exact okX11_pattern) rfl ?_; (try dsimp only [pm_st1, pm_st2, pm_cat2, pm_la, Option.toList, List.cons_append, List.nil_append])
        refine pm_zne (by exact okX11_pattern) rfl (fun h3 => ?_) (fun h3 => ?_)
        · rw [if_neg h3]
          refine pm_go 9999 (by exact okX11_pattern) rfl ?_; (try dsimp only [pm_st1, pm_st2, pm_cat2, pm_la, Option.toList, List.cons_append, List.nil_append])
          refine pm_ine (by exact okX11_pattern) rfl (fun h4 => ?_) (fun h4 => ?_)
          · rw [if_neg h4]
            refine pm_go 9999 (by exact okX11_pattern) rfl ?_; (try dsimp only [pm_st1, pm_st2, pm_cat2, pm_la, Option.toList, List.cons_append, List.nil_append])
            refine pm_ri (by exact okX11_pattern) rfl rfl rfl (Nat.le_refl _) (Nat.le_refl _) (⟨rfl, rfl, h, fM.rf⟩)
          · rw [if_pos h4]
            refine pm_go 9999 (by exact okX11_pattern) rfl ?_; (try dsimp only [pm_st1, pm_st2, pm_cat2, pm_la, Option.toList, List.cons_append, List.nil_append])
            refine pm_ri (by exact okX11_pattern) rfl rfl rfl (Nat.le_refl _) (Nat.le_refl _) (⟨rfl, rfl, h, fM.rf⟩)
        · rw [if_pos h3]
          refine pm_go 9999 (by exact okX11_pattern) rfl ?_; (try dsimp only [pm_st1, pm_st2, pm_cat2, pm_la, Option.toList, List.cons_append, List.nil_append])
          refine pm_ri (by exact okX11_pattern) rfl rfl rfl (Nat.le_refl _) (Nat.le_refl _) (⟨rfl, rfl, h, fM.rf⟩)
      · rw [hq]
        refine pm_go 9999 (by exact okX11_pattern) rfl ?_; (try dsimp only [pm_st1, pm_st2, pm_cat2, pm_la, Option.toList, List.cons_append, List.nil_append])
        refine pm_ri (by exact okX11_pattern) rfl rfl rfl (Nat.le_refl _) (Nat.le_refl _) (⟨rfl, rfl, h, fM.rf⟩)
    · have h2 : pd_of (gB z.1) 0 0 z.2.1 ≠ none := fun q => h2 (eof.mpr q)
      rw [if_pos h2]
      refine pm_go 9999 (by exact okX11_pattern) rfl ?_; (try dsimp only [pm_st1, pm_st2, pm_cat2, pm_la, Option.toList, List.cons_append, List.nil_append])
      refine pm_ri (by exact okX11_pattern) rfl rfl rfl (Nat.le_refl _) (Nat.le_refl _) (⟨rfl, rfl, h, fM.rf⟩)
  · have h1 := bI_z.mp h1
    rw [if_pos h1]
    refine pm_go 9999 (by exact okX11_pattern) rfl ?_; (try dsimp only [pm_st1, pm_st2, pm_cat2, pm_la, Option.toList, List.cons_append, List.nil_append])
    refine pm_ri (by exact okX11_pattern) rfl rfl rfl (Nat.le_refl _) (Nat.le_refl _) (⟨rfl, rfl, h, fM.rf⟩)
end
end
section
/-! ===== the reference's orders ===== -/
/-- ways of t steps up and down from 0 to h within 0 to k -/
def ow_ (k : Nat) : Nat → Nat → Nat
  | 0, h => if h = 0 then 1 else 0
  | t + 1, h => (if h = 0 then 0 else ow_ k t (h - 1)) + (if h < k then ow_ k t (h + 1) else 0)
def sp_orders (m k : Int32) : Int64 := if (1 ≤ m ∧ m ≤ 30) ∧ 1 ≤ k ∧ k ≤ 30 then lN (ow_ k.toNatClampNeg (2 * m.toNatClampNeg) 0) else -2
theorem pm_uq_app {nu : pm_J} {k j a b : Nat} {v : Int64} : pm_uq nu k j v a b = if a = k then (if b = j then v else nu a b) else nu a b := by
  unfold pm_uq vp_updL
  by_cases h : a = k
  · subst h; simp
  · simp [h]
theorem pm_uq_at {nu : pm_J} {k j : Nat} {v : Int64} : pm_uq nu k j v k j = v := by rw [pm_uq_app, if_pos rfl, if_pos rfl]
theorem pm_uq_of {nu : pm_J} {k j b : Nat} {v : Int64} (h : b ≠ j) : pm_uq nu k j v k b = nu k b := by rw [pm_uq_app, if_pos rfl, if_neg h]
section
variable {cx : pm_CX} {d n0 : Nat} {i0 i1 : Option Nat} {ex : List pm_C} {mu : pm_I} {nu : pm_J}
set_option maxRecDepth 100000 in
set_option maxHeartbeats 1000000 in
theorem M_orders_a {Q : pm_Po} {x1 x2 : Int32} {k : Nat} (kk : ∀ nu' : pm_J, (∀ h, h < 32 → nu' 27 h = lN (ow_ k 0 h)) → pm_G cx (mX11_orders, d, 0, 0, n0, Q) 0 0 53 [some (.ref 19), some (.int x1), some (.int x2), none, none, none, none, none, none] [] (sh_ i0 i1 ex) mu nu') : ∀ (j h : Nat) (nu' : pm_J), h + j = 32 → (∀ i, i < h → nu' 27 i = lN (ow_ k 0 i)) → pm_G cx (mX11_orders, d, 0, 0, n0, Q) 0 0 26 [some (.ref 19), some (.int x1), some (.int x2), some (.int (nI h)), none, none, none, none, none] [] (sh_ i0 i1 ex) mu nu' := by
  intro j
  induction j with
  | zero =>
    intro h nu' hh hi
    have hh : h = 32 := by omega
    subst hh
    refine pm_go 9999 (by exact okX11_orders) rfl ?_; (try dsimp only [pm_st1, pm_st2, pm_cat2, pm_la, Option.toList, List.cons_append, List.nil_append])
    refine pm_ige (by exact okX11_orders) rfl (fun h1 => ?_) (fun h1 => ?_)
    · refine pm_G.fg [false, false, false, true, false, false, false, false, false] ?_; dsimp only [pm_fg]
      exact kk nu' hi
    · exact absurd (by decide) h1
  | succ j ih =>
    intro h nu' hh hi
    have st : ∀ v : Int64, v = lN (ow_ k 0 h) → pm_G cx (mX11_orders, d, 0, 0, n0, Q) 0 0 46 [some (.ref 19), some (.int x1), some (.int x2), some (.int (nI h)), none, none, none, none, none] [.long v, .int (nI h), .ref 27] (sh_ i0 i1 ex) mu nu' := by
      intro v hv
      refine pm_las (by exact okX11_orders) rfl rfl (vp_in_nI (by omega) (by omega)) ?_
      rw [nI_clamp (by omega)]
      refine pm_go 26 (by exact okX11_orders) rfl ?_; (try dsimp only [pm_st1, pm_st2, pm_cat2, pm_la, Option.toList, List.cons_append, List.nil_append])
      rw [nI_1]
      refine ih (h + 1) _ (by omega) (fun i hi2 => ?_)
      by_cases e : i = h
      · subst e; rw [pm_uq_at, hv]
      · rw [pm_uq_of e]; exact hi i (by omega)
    refine pm_go 9999 (by exact okX11_orders) rfl ?_; (try dsimp only [pm_st1, pm_st2, pm_cat2, pm_la, Option.toList, List.cons_append, List.nil_append])
    refine pm_ige (by exact okX11_orders) rfl (fun h1 => ?_) (fun h1 => ?_)
    · exact absurd h1 (nI_ge (a := h) (b := 32) (by omega) (by omega))
    · refine pm_go 9999 (by exact okX11_orders) rfl ?_; (try dsimp only [pm_st1, pm_st2, pm_cat2, pm_la, Option.toList, List.cons_append, List.nil_append])
      refine pm_zne (by exact okX11_orders) rfl (fun h2 => ?_) (fun h2 => ?_)
      · have h3 : ¬ h = 0 := fun q => h2 (by rw [q]; rfl)
        refine pm_go 46 (by exact okX11_orders) rfl ?_; (try dsimp only [pm_st1, pm_st2, pm_cat2, pm_la, Option.toList, List.cons_append, List.nil_append])
        exact st 0 (by simp only [ow_]; rw [if_neg h3]; rfl)
      · have h3 : h = 0 := (nI_eq (b := 0) (by omega) (by omega)).mp h2
        refine pm_go 46 (by exact okX11_orders) rfl ?_; (try dsimp only [pm_st1, pm_st2, pm_cat2, pm_la, Option.toList, List.cons_append, List.nil_append])
        exact st 1 (by simp only [ow_]; rw [if_pos h3]; rfl)
set_option maxRecDepth 100000 in
set_option maxHeartbeats 1000000 in
theorem M_orders_b {Q : pm_Po} {x1 x3 : Int32} {k t : Nat} (hk : k ≤ 30) (kk : ∀ nu' : pm_J, (∀ h, h ≤ k → nu' 27 h = lN (ow_ k (t + 1) h)) → pm_G cx (mX11_orders, d, 0, 0, n0, Q) 0 0 122 [some (.ref 19), some (.int x1), some (.int (nI k)), some (.int x3), none, none, none, none, none] [] (sh_ i0 i1 ex) mu nu') : ∀ (j h : Nat) (nu' : pm_J), h + j = k + 1 → (∀ i, i < h → nu' 27 i = lN (ow_ k (t + 1) i)) → (∀ i, h ≤ i → i ≤ k → nu' 27 i = lN (ow_ k t i)) → pm_G cx (mX11_orders, d, 0, 0, n0, Q) 0 0 68 [some (.ref 19), some (.int x1), some (.int (nI k)), some (.int x3), some (.long (lN (if h = 0 then 0 else ow_ k t (h - 1)))), none, some (.int (nI h)), none, none] [] (sh_ i0 i1 ex) mu nu' := by
  intro j
  induction j with
  | zero =>
    intro h nu' hh h1 h2
    have hh : h = k + 1 := by omega
    subst hh
    refine pm_go 9999 (by exact okX11_orders) rfl ?_; (try dsimp only [pm_st1, pm_st2, pm_cat2, pm_la, Option.toList, List.cons_append, List.nil_append])
    refine pm_igt (by exact okX11_orders) rfl (fun h3 => ?_) (fun h3 => ?_)
    · refine pm_G.fg [false, false, false, false, true, true, true, true, true] ?_; dsimp only [pm_fg]
      exact kk nu' (fun i hi => h1 i (by omega))
    · exact absurd (nI_lt (by omega) (by omega)) h3
  | succ j ih =>
    intro h nu' hh h1 h2
    have st : ∀ w : Int64, w = lN (if h < k then ow_ k t (h + 1) else 0) → pm_G cx (mX11_orders, d, 0, 0, n0, Q) 0 0 110 [some (.ref 19), some (.int x1), some (.int (nI k)), some (.int x3), some (.long (lN (if h = 0 then 0 else ow_ k t (h - 1)))), none, some (.int (nI h)), some (.long (lN (ow_ k t h))), none] [.long w, .long (lN (if h = 0 then 0 else ow_ k t (h - 1))), .int (nI h), .ref 27] (sh_ i0 i1 ex) mu nu' := by
      intro w hw
      subst hw
      refine pm_go 9999 (by exact okX11_orders) rfl ?_; (try dsimp only [pm_st1, pm_st2, pm_cat2, pm_la, Option.toList, List.cons_append, List.nil_append])
      rw [lN_add]
      refine pm_las (by exact okX11_orders) rfl rfl (vp_in_nI (by omega) (by omega)) ?_
      rw [nI_clamp (by omega)]
      refine pm_go 68 (by exact okX11_orders) rfl ?_; (try dsimp only [pm_st1, pm_st2, pm_cat2, pm_la, Option.toList, List.cons_append, List.nil_append])
      rw [nI_1]
      refine pm_G.fg [false, false, false, false, false, false, false, true, true] ?_; dsimp only [pm_fg]
      have := ih (h + 1) (pm_uq nu' 27 h (lN ((if h = 0 then 0 else ow_ k t (h - 1)) + (if h < k then ow_ k t (h + 1) else 0)))) (by omega) (fun i hi => by
        by_cases e : i = h
        · subst e; rw [pm_uq_at]; rfl
        · rw [pm_uq_of e]; exact h1 i (by omega)) (fun i hi hi2 => by rw [pm_uq_of (by omega)]; exact h2 i (by omega) hi2)
      rw [if_neg (show ¬ h + 1 = 0 by omega), Nat.add_sub_cancel] at this
      exact this
    refine pm_go 9999 (by exact okX11_orders) rfl ?_; (try dsimp only [pm_st1, pm_st2, pm_cat2, pm_la, Option.toList, List.cons_append, List.nil_append])
    refine pm_igt (by exact okX11_orders) rfl (fun h3 => ?_) (fun h3 => ?_)
    · exact absurd h3 (nI_nlt (by omega) (by omega))
    · refine pm_go 9999 (by exact okX11_orders) rfl ?_; (try dsimp only [pm_st1, pm_st2, pm_cat2, pm_la, Option.toList, List.cons_append, List.nil_append])
      refine pm_lal (by exact okX11_orders) rfl rfl (vp_in_nI (by omega) (by omega)) ?_
      rw [nI_clamp (by omega), h2 h (Nat.le_refl _) (by omega)]
      refine pm_go 9999 (by exact okX11_orders) rfl ?_; (try dsimp only [pm_st1, pm_st2, pm_cat2, pm_la, Option.toList, List.cons_append, List.nil_append])
      refine pm_ige (by exact okX11_orders) rfl (fun h4 => ?_) (fun h4 => ?_)
      · have h5 : ¬ h < k := by
          have := (nI_leI (by omega) (by omega)).mp h4
          omega
        refine pm_go 110 (by exact okX11_orders) rfl ?_; (try dsimp only [pm_st1, pm_st2, pm_cat2, pm_la, Option.toList, List.cons_append, List.nil_append])
        exact st 0 (by rw [if_neg h5]; rfl)
      · have h5 : h < k := by
          rcases Nat.lt_or_ge h k with q | q
          · exact q
          · exact absurd (nI_le q (by omega)) h4
        refine pm_go 9999 (by exact okX11_orders) rfl ?_; (try dsimp only [pm_st1, pm_st2, pm_cat2, pm_la, Option.toList, List.cons_append, List.nil_append])
        rw [nI_1]
        refine pm_lal (by exact okX11_orders) rfl rfl (vp_in_nI (by omega) (by omega)) ?_
        rw [nI_clamp (by omega), h2 (h + 1) (by omega) (by omega)]
        refine pm_go 110 (by exact okX11_orders) rfl ?_; (try dsimp only [pm_st1, pm_st2, pm_cat2, pm_la, Option.toList, List.cons_append, List.nil_append])
        exact st _ (by rw [if_pos h5])
set_option maxRecDepth 100000 in
set_option maxHeartbeats 1000000 in
theorem M_orders_c {Q : pm_Po} {m k : Nat} (hm : m ≤ 30) (hk : k ≤ 30) (kk : ∀ nu' : pm_J, Q (some (.long (lN (ow_ k (2 * m) 0)))) (sh_ i0 i1 ex) mu nu') : ∀ (j t : Nat) (nu' : pm_J), t + j = 2 * m → (∀ h, h ≤ k → nu' 27 h = lN (ow_ k t h)) → pm_G cx (mX11_orders, d, 0, 0, n0, Q) 0 0 55 [some (.ref 19), some (.int (nI m)), some (.int (nI k)), some (.int (nI t)), none, none, none, none, none] [] (sh_ i0 i1 ex) mu nu' := by
  intro j
  have e2 : (2 : Int32) * nI m = nI (2 * m) := pk_mul 2 m
  induction j with
  | zero =>
    intro t nu' ht h1
    have ht : t = 2 * m := by omega
    subst ht
    refine pm_go 9999 (by exact okX11_orders) rfl ?_; (try dsimp only [pm_st1, pm_st2, pm_cat2, pm_la, Option.toList, List.cons_append, List.nil_append])
    rw [e2]
    refine pm_ige (by exact okX11_orders) rfl (fun h2 => ?_) (fun h2 => ?_)
    · refine pm_go 9999 (by exact okX11_orders) rfl ?_; (try dsimp only [pm_st1, pm_st2, pm_cat2, pm_la, Option.toList, List.cons_append, List.nil_append])
      refine pm_lal (by exact okX11_orders) rfl rfl (vp_in_nI (n := 0) (by omega) (by omega)) ?_
      refine pm_go 9999 (by exact okX11_orders) rfl ?_; (try dsimp only [pm_st1, pm_st2, pm_cat2, pm_la, Option.toList, List.cons_append, List.nil_append])
      rw [show (0 : Int32).toNatClampNeg = 0 from rfl, h1 0 (by omega)]
      refine pm_rl (by exact okX11_orders) rfl rfl (Nat.le_refl _) (Nat.le_refl _) (kk nu')
    · exact absurd (nI_le (by omega) (by omega)) h2
  | succ j ih =>
    intro t nu' ht h1
    refine pm_go 9999 (by exact okX11_orders) rfl ?_; (try dsimp only [pm_st1, pm_st2, pm_cat2, pm_la, Option.toList, List.cons_append, List.nil_append])
    rw [e2]
    refine pm_ige (by exact okX11_orders) rfl (fun h2 => ?_) (fun h2 => ?_)
    · exact absurd h2 (nI_ge (by omega) (by omega))
    · refine pm_go 68 (by exact okX11_orders) rfl ?_; (try dsimp only [pm_st1, pm_st2, pm_cat2, pm_la, Option.toList, List.cons_append, List.nil_append])
      refine pm_G.cast (L' := [some (.ref 19), some (.int (nI m)), some (.int (nI k)), some (.int (nI t)), some (.long (lN (if 0 = 0 then 0 else ow_ k t (0 - 1)))), none, some (.int (nI 0)), none, none]) (S' := []) (mu' := mu) (nu' := nu') ?_ rfl rfl rfl rfl
      refine M_orders_b hk (fun nu2 h3 => ?_) (k + 1) 0 nu' (by omega) (fun i hi => absurd hi (by omega)) (fun i hi hi2 => h1 i hi2)
      refine pm_go 55 (by exact okX11_orders) rfl ?_; (try dsimp only [pm_st1, pm_st2, pm_cat2, pm_la, Option.toList, List.cons_append, List.nil_append])
      rw [nI_1]
      exact ih (t + 1) nu2 (by omega) h3
set_option maxRecDepth 100000 in
set_option maxHeartbeats 1000000 in
theorem M_orders {z : mS} (m k : Int32) (h : MA z mu) (hd : 1 ≤ d) : pm_T cx mX11_orders d 0 0 [.ref 19, .int m, .int k] (sh_ i0 i1 ex) mu nu (mQ (.long (sp_orders m k)) z i0 i1 ex mu) := by
  unfold sp_orders
  have bad : ¬ ((1 ≤ m ∧ m ≤ 30) ∧ 1 ≤ k ∧ k ≤ 30) → pm_G cx (mX11_orders, d, 0, 0, (sh_ i0 i1 ex).length, mQ (.long (if (1 ≤ m ∧ m ≤ 30) ∧ 1 ≤ k ∧ k ≤ 30 then lN (ow_ k.toNatClampNeg (2 * m.toNatClampNeg) 0) else -2)) z i0 i1 ex mu) 0 0 20 [some (.ref 19), some (.int m), some (.int k), none, none, none, none, none, none] [] (sh_ i0 i1 ex) mu nu := by
    intro hn
    rw [if_neg hn]
    refine pm_go 9999 (by exact okX11_orders) rfl ?_; (try dsimp only [pm_st1, pm_st2, pm_cat2, pm_la, Option.toList, List.cons_append, List.nil_append])
    refine pm_rl (by exact okX11_orders) rfl rfl (Nat.le_refl _) (Nat.le_refl _) (⟨rfl, rfl, h, fM.rf⟩)
  refine pm_enterN 6 (by exact okX11_orders) rfl ?_; dsimp only [pm_la, pm_cat2, List.replicate, List.cons_append, List.nil_append, List.append_nil]
  refine pm_go 9999 (by exact okX11_orders) rfl ?_; (try dsimp only [pm_st1, pm_st2, pm_cat2, pm_la, Option.toList, List.cons_append, List.nil_append])
  refine pm_cs (by exact okX11_orders) (by exact okX11_in) rfl (by exact arX11_in) (t_in (d := 0) m 1 30) rfl (by dsimp only; omega) rfl (Nat.le_of_ble_eq_true rfl) ⟨Nat.zero_le _, Nat.zero_le _⟩ ?_
  rintro _ _ _ _ ⟨rfl, rfl, rfl, rfl⟩ -
  refine pm_go 9999 (by exact okX11_orders) rfl ?_; (try dsimp only [pm_st1, pm_st2, pm_cat2, pm_la, Option.toList, List.cons_append, List.nil_append])
  refine pm_zeq (by exact okX11_orders) rfl (fun h1 => ?_) (fun h1 => ?_)
  · have h1 := bI_z.mp h1
    exact bad (fun q => h1 q.1)
  · have h1 := bI_n.mp h1
    refine pm_go 9999 (by exact okX11_orders) rfl ?_; (try dsimp only [pm_st1, pm_st2, pm_cat2, pm_la, Option.toList, List.cons_append, List.nil_append])
    refine pm_cs (by exact okX11_orders) (by exact okX11_in) rfl (by exact arX11_in) (t_in (d := 0) k 1 30) rfl (by dsimp only; omega) rfl (Nat.le_of_ble_eq_true rfl) ⟨Nat.zero_le _, Nat.zero_le _⟩ ?_
    rintro _ _ _ _ ⟨rfl, rfl, rfl, rfl⟩ -
    refine pm_go 20 (by exact okX11_orders) rfl ?_; (try dsimp only [pm_st1, pm_st2, pm_cat2, pm_la, Option.toList, List.cons_append, List.nil_append])
    refine pm_zne (by exact okX11_orders) rfl (fun h2 => ?_) (fun h2 => ?_)
    · have h2 := bI_n.mp h2
      rw [if_pos ⟨h1, h2⟩]
      obtain ⟨m', -, hm, rfl⟩ := rng_of (a := 1) (b := 30) (by omega) (by omega) h1
      obtain ⟨k', -, hk, rfl⟩ := rng_of (a := 1) (b := 30) (by omega) (by omega) h2
      rw [nI_clamp (by omega), nI_clamp (by omega)]
      refine pm_go 26 (by exact okX11_orders) rfl ?_; (try dsimp only [pm_st1, pm_st2, pm_cat2, pm_la, Option.toList, List.cons_append, List.nil_append])
      refine pm_G.cast (L' := [some (.ref 19), some (.int (nI m')), some (.int (nI k')), some (.int (nI 0)), none, none, none, none, none]) (S' := []) (mu' := mu) (nu' := nu) ?_ rfl rfl rfl rfl
      refine M_orders_a (k := k') (fun nu1 g1 => ?_) 32 0 nu rfl (fun i hi => absurd hi (by omega))
      refine pm_go 55 (by exact okX11_orders) rfl ?_; (try dsimp only [pm_st1, pm_st2, pm_cat2, pm_la, Option.toList, List.cons_append, List.nil_append])
      exact M_orders_c hm hk (fun nu' => ⟨rfl, rfl, h, fM.rf⟩) (2 * m') 0 nu1 (by omega) (fun i hi => g1 i (by omega))
    · have h2 := bI_z.mp h2
      exact bad (fun q => h2 q.2)
end
end
section
/-! ===== the reference's canBe ===== -/
/-- the first k BEDS of an ORDER, as bits -/
def os_ (pd : List Nat) : Nat → Nat
  | 0 => 0
  | k + 1 => os_ pd k ||| 2 ^ (pd.getD k 0 - 97)
/-- w BEDS watered, k in bloom: the next of the ORDER blooms -/
def cb_N (law : Nat) (pd : List Nat) (w k : Nat) : Bool := decide (gd_nx law (gd_rn (os_ pd k) w) = some (pd.getD k 0 - 97))
def cb_F (law gate : Nat) (pd : List Nat) : Nat → Nat → Nat → Bool
  | 0, w, k => decide (w = 0 ∧ k = 0)
  | n + 1, w, k => decide (w = 0 ∧ k = 0) || ((decide (1 ≤ w ∧ k ≤ w - 1 ∧ w - 1 - k < gate) && cb_F law gate pd n (w - 1) k) || (decide (1 ≤ k ∧ k - 1 < w) && (cb_N law pd w (k - 1) && cb_F law gate pd n w (k - 1))))
/-- it can come to w watered, k in bloom -/
def cbF (law gate : Nat) (pd : List Nat) (w k : Nat) : Bool := cb_F law gate pd (w + k) w k
def cbW (law gate : Nat) (pd : List Nat) (w k : Nat) : Bool := decide (1 ≤ w ∧ k ≤ w - 1 ∧ w - 1 - k < gate) && cbF law gate pd (w - 1) k
def cbB (law gate : Nat) (pd : List Nat) (w k : Nat) : Bool := decide (1 ≤ k ∧ k - 1 < w) && (cb_N law pd w (k - 1) && cbF law gate pd w (k - 1))
theorem cbF_eq (law gate : Nat) (pd : List Nat) (w k : Nat) : cbF law gate pd w k = (decide (w = 0 ∧ k = 0) || (cbW law gate pd w k || cbB law gate pd w k)) := by
  rcases Nat.eq_zero_or_pos (w + k) with h | h
  · have h1 : w = 0 := by omega
    have h2 : k = 0 := by omega
    subst h1; subst h2
    simp [cbF, cb_F]
  · obtain ⟨n, hn⟩ : ∃ n, w + k = n + 1 := ⟨w + k - 1, by omega⟩
    unfold cbF cbW cbB
    rw [hn]
    simp only [cb_F]
    congr 1
    congr 1
    · by_cases h1 : 1 ≤ w ∧ k ≤ w - 1 ∧ w - 1 - k < gate
      · unfold cbF; rw [show w - 1 + k = n by omega]
      · rw [decide_eq_false h1]; rfl
    · by_cases h1 : 1 ≤ k ∧ k - 1 < w
      · unfold cbF; rw [show w + (k - 1) = n by omega]
      · rw [decide_eq_false h1]; rfl
theorem cbF_out {law gate : Nat} {pd : List Nat} {w k : Nat} (h : w < k) : cbF law gate pd w k = false := by
  rw [cbF_eq]
  unfold cbW cbB
  rw [decide_eq_false (by omega), decide_eq_false (by omega), decide_eq_false (by omega)]
  rfl
theorem cbW_out {law gate : Nat} {pd : List Nat} {w k : Nat} (h : w ≤ k) : cbW law gate pd w k = false := by
  unfold cbW
  rw [decide_eq_false (by omega)]
  rfl
/-- the reference's table, in the midst of row w, at place k -/
def cb_v (law gate : Nat) (pd : List Nat) (w k w' j : Nat) : Bool :=
  if w' < w ∨ (w' = w ∧ j ≤ k) then cbF law gate pd w' j else if w' = w then cbW law gate pd w j else if w' = w + 1 ∧ j < k then cbW law gate pd (w + 1) j else false
def cb_T (law gate B : Nat) (pd : List Nat) (w k : Nat) (mu : pm_I) : Prop := ∀ w' j, w' ≤ B → j ≤ 6 → mu 26 (7 * w' + j) = bI (cb_v law gate pd w k w' j = true)
theorem cb_T_next {law gate B : Nat} {pd : List Nat} {w : Nat} {mu : pm_I} (h : cb_T law gate B pd w (w + 1) mu) : cb_T law gate B pd (w + 1) 0 mu := by
  intro w' j hw hj
  rw [h w' j hw hj]
  have e : cb_v law gate pd w (w + 1) w' j = cb_v law gate pd (w + 1) 0 w' j := by
    unfold cb_v
    by_cases h1 : w' < w
    · rw [if_pos (Or.inl h1), if_pos (Or.inl (by omega))]
    · by_cases h2 : w' = w
      · subst h2
        rw [if_pos (c := w' < w' + 1 ∨ _) (Or.inl (by omega))]
        by_cases h3 : j ≤ w' + 1
        · rw [if_pos (Or.inr ⟨rfl, h3⟩)]
        · rw [if_neg (by omega), if_pos rfl, cbW_out (by omega), cbF_out (by omega)]
      · by_cases h3 : w' = w + 1
        · subst h3
          rw [if_neg (by omega), if_neg (by omega)]
          by_cases h4 : j = 0
          · subst h4
            rw [if_pos ⟨rfl, by omega⟩, if_pos (Or.inr ⟨rfl, by omega⟩), cbF_eq]
            have : cbB law gate pd (w + 1) 0 = false := by unfold cbB; rw [decide_eq_false (by omega)]; rfl
            rw [this, decide_eq_false (by omega), Bool.or_false, Bool.false_or]
          · rw [if_neg (c := w + 1 < w + 1 ∨ _) (by omega), if_pos rfl]
            by_cases h5 : j < w + 1
            · rw [if_pos ⟨rfl, h5⟩]
            · rw [if_neg (by omega), cbW_out (by omega)]
        · rw [if_neg (by omega), if_neg h2, if_neg (by omega), if_neg (by omega), if_neg h3, if_neg (by omega)]
  rw [e]
theorem os_lt {pd : List Nat} {B : Nat} (hB : B ≤ 6) (hl : ∀ k, k < B → pd.getD k 0 - 97 < 6) : ∀ k, k ≤ B → os_ pd k < 64 := by
  intro k
  induction k with
  | zero => intro _; simp [os_]
  | succ k ih => intro hk; exact or_lt (ih (by omega)) (hl k (by omega))
section
variable {cx : pm_CX} {d n0 : Nat} {i0 i1 : Option Nat} {ex : List pm_C} {mu : pm_I} {nu : pm_J}
set_option maxRecDepth 100000 in
set_option maxHeartbeats 1000000 in
theorem t_nextBy_l {Q : pm_Po} {n s law : Nat} (hL : mu 19 3 = nI law) (hlaw : law ≤ 2) (hn : n ≤ 6) (hs : s < 2 ^ 31) (hd : 2 ≤ d) : ∀ (j k : Nat), k + j = n → Q (some (.int (nO (gd_nx law (gd_rn s n))))) (sh_ i0 i1 ex) mu nu → pm_G cx (mX11_nextBy, d, 0, 0, n0, Q) 0 0 5 [some (.ref 19), some (.int (nI n)), some (.int (nI s)), some (.int (nI (md_r7 (gd_rn s k)))), some (.int (nI k))] [] (sh_ i0 i1 ex) mu nu := by
  intro j
  induction j with
  | zero =>
    intro k hk hq
    have hk : k = n := by omega
    subst hk
    have hlt := gd_rn_lt s k
    have hln := gd_rn_len s k
    refine pm_go 9999 (by exact okX11_nextBy) rfl ?_; (try dsimp only [pm_st1, pm_st2, pm_cat2, pm_la, Option.toList, List.cons_append, List.nil_append])
    refine pm_ige (by exact okX11_nextBy) rfl (fun h1 => ?_) (fun h1 => ?_)
    · refine pm_go 9999 (by exact okX11_nextBy) rfl ?_; (try dsimp only [pm_st1, pm_st2, pm_cat2, pm_la, Option.toList, List.cons_append, List.nil_append])
      refine pm_cv (by exact okX11_nextBy) (by exact okX11_nextOf) rfl (by exact arX11_nextOf) (t_nextOf (d := 1) (r := gd_rn s k) hL hlaw (fun b hb => by have := hlt b hb; omega) (by omega) (by omega)) rfl rfl rfl (by dsimp only; omega) rfl (Nat.le_of_ble_eq_true rfl) ⟨Nat.zero_le _, Nat.zero_le _⟩ ?_
      rintro _ _ _ _ ⟨rfl, rfl, rfl, rfl⟩ -
      refine pm_go 9999 (by exact okX11_nextBy) rfl ?_; (try dsimp only [pm_st1, pm_st2, pm_cat2, pm_la, Option.toList, List.cons_append, List.nil_append])
      refine pm_ri (by exact okX11_nextBy) rfl rfl rfl (Nat.le_refl _) (Nat.le_refl _) (hq)
    · exact absurd (nI_le (Nat.le_refl _) (by omega)) h1
  | succ j ih =>
    intro k hk hq
    refine pm_go 9999 (by exact okX11_nextBy) rfl ?_; (try dsimp only [pm_st1, pm_st2, pm_cat2, pm_la, Option.toList, List.cons_append, List.nil_append])
    refine pm_ige (by exact okX11_nextBy) rfl (fun h1 => ?_) (fun h1 => ?_)
    · exact absurd h1 (nI_ge (by omega) (by omega))
    · refine pm_go 9999 (by exact okX11_nextBy) rfl ?_; (try dsimp only [pm_st1, pm_st2, pm_cat2, pm_la, Option.toList, List.cons_append, List.nil_append])
      refine pm_cs (by exact okX11_nextBy) (by exact okX11_has) rfl (by exact arX11_has) (t_has (d := 0) hs (by omega)) rfl (by dsimp only; omega) rfl (Nat.le_of_ble_eq_true rfl) ⟨Nat.zero_le _, Nat.zero_le _⟩ ?_
      rintro _ _ _ _ ⟨rfl, rfl, rfl, rfl⟩ -
      refine pm_go 9999 (by exact okX11_nextBy) rfl ?_; (try dsimp only [pm_st1, pm_st2, pm_cat2, pm_la, Option.toList, List.cons_append, List.nil_append])
      refine pm_zeq (by exact okX11_nextBy) rfl (fun h2 => ?_) (fun h2 => ?_)
      · have h3 := bI_z.mp h2
        refine pm_go 5 (by exact okX11_nextBy) rfl ?_; (try dsimp only [pm_st1, pm_st2, pm_cat2, pm_la, Option.toList, List.cons_append, List.nil_append])
        rw [show (7 : Int32) = nI 7 from rfl, pk_mul, nI_add, nI_1, nI_1]
        have e : gd_rn s (k + 1) = k :: gd_rn s k := by simp only [gd_rn]; rw [if_neg h3]
        have := ih (k + 1) (by omega) hq
        rw [e] at this
        exact this
      · have h3 := bI_n.mp h2
        refine pm_go 5 (by exact okX11_nextBy) rfl ?_; (try dsimp only [pm_st1, pm_st2, pm_cat2, pm_la, Option.toList, List.cons_append, List.nil_append])
        rw [nI_1]
        have e : gd_rn s (k + 1) = gd_rn s k := by simp only [gd_rn]; rw [if_pos h3]
        have := ih (k + 1) (by omega) hq
        rw [e] at this
        exact this
set_option maxRecDepth 100000 in
set_option maxHeartbeats 1000000 in
theorem t_nextBy {n s law : Nat} (hL : mu 19 3 = nI law) (hlaw : law ≤ 2) (hn : n ≤ 6) (hs : s < 2 ^ 31) (hd : 2 ≤ d) : pm_T cx mX11_nextBy d 0 0 [.ref 19, .int (nI n), .int (nI s)] (sh_ i0 i1 ex) mu nu (pm_ret (some (.int (nO (gd_nx law (gd_rn s n))))) (sh_ i0 i1 ex) mu nu) := by
  refine pm_enterN 2 (by exact okX11_nextBy) rfl ?_; dsimp only [pm_la, pm_cat2, List.replicate, List.cons_append, List.nil_append, List.append_nil]
  refine pm_go 5 (by exact okX11_nextBy) rfl ?_; (try dsimp only [pm_st1, pm_st2, pm_cat2, pm_la, Option.toList, List.cons_append, List.nil_append])
  exact t_nextBy_l hL hlaw hn hs hd n 0 (by omega) ⟨rfl, rfl, rfl, rfl⟩
/-- only cell 26 changes -/
def f26 (mu mu' : pm_I) : Prop := ∀ a, a ≠ 26 → mu' a = mu a
theorem f26.up {mu mu' : pm_I} {j : Nat} {v : Int32} (h : f26 mu mu') : f26 mu (pm_up mu' 26 j v) := fun a ha => by rw [pm_up_ne ha]; exact h a ha
set_option maxRecDepth 100000 in
set_option maxHeartbeats 1000000 in
theorem M_canBe_a {Q : pm_Po} {law gate B : Nat} {pd : List Nat} (hB6 : B ≤ 6) (kk : ∀ mu' : pm_I, f26 mu mu' → cb_T law gate B pd 0 0 mu' → pm_G cx (mX11_canBe, d, 0, 0, n0, Q) 0 0 39 [some (.ref 19), none, none, none] [] (sh_ i0 i1 ex) mu' nu) : ∀ (j k : Nat) (mu' : pm_I), k + j = 49 → f26 mu mu' → (∀ i, i < k → mu' 26 i = if i = 0 then 1 else 0) → pm_G cx (mX11_canBe, d, 0, 0, n0, Q) 0 0 12 [some (.ref 19), some (.int (nI k)), none, none] [] (sh_ i0 i1 ex) mu' nu := by
  intro j
  induction j with
  | zero =>
    intro k mu' hk hF hi
    have hk : k = 49 := by omega
    subst hk
    refine pm_go 9999 (by exact okX11_canBe) rfl ?_; (try dsimp only [pm_st1, pm_st2, pm_cat2, pm_la, Option.toList, List.cons_append, List.nil_append])
    refine pm_ige (by exact okX11_canBe) rfl (fun h1 => ?_) (fun h1 => ?_)
    · refine pm_G.fg [false, true, false, false] ?_; dsimp only [pm_fg]
      refine kk mu' hF (fun w' j hw hj => ?_)
      rw [hi _ (by omega)]
      unfold cb_v
      by_cases h2 : w' = 0
      · subst h2
        by_cases h3 : j = 0
        · subst h3
          rw [if_pos (by omega), if_pos (Or.inr ⟨rfl, by omega⟩)]
          rfl
        · rw [if_neg (by omega), if_neg (by omega), if_pos rfl, cbW_out (by omega)]
          rfl
      · rw [if_neg (by omega), if_neg (by omega), if_neg h2, if_neg (by omega)]
        rfl
    · exact absurd (by decide) h1
  | succ j ih =>
    intro k mu' hk hF hi
    have st : ∀ v : Int32, v = (if k = 0 then 1 else 0) → vp_nar .boolean v = v → pm_G cx (mX11_canBe, d, 0, 0, n0, Q) 0 0 32 [some (.ref 19), some (.int (nI k)), none, none] [.int v, .int (nI k), .ref 26] (sh_ i0 i1 ex) mu' nu := by
      intro v hv hn
      refine pm_zas (by exact okX11_canBe) rfl rfl (vp_in_nI (by omega) (by omega)) ?_
      rw [nI_clamp (by omega), hn]
      refine pm_go 12 (by exact okX11_canBe) rfl ?_; (try dsimp only [pm_st1, pm_st2, pm_cat2, pm_la, Option.toList, List.cons_append, List.nil_append])
      rw [nI_1]
      refine ih (k + 1) _ (by omega) hF.up (fun i hi2 => ?_)
      by_cases e : i = k
      · subst e; rw [pm_up_at, hv]
      · rw [pm_up_of e]; exact hi i (by omega)
    refine pm_go 9999 (by exact okX11_canBe) rfl ?_; (try dsimp only [pm_st1, pm_st2, pm_cat2, pm_la, Option.toList, List.cons_append, List.nil_append])
    refine pm_ige (by exact okX11_canBe) rfl (fun h1 => ?_) (fun h1 => ?_)
    · exact absurd h1 (nI_ge (a := k) (b := 49) (by omega) (by omega))
    · refine pm_go 9999 (by exact okX11_canBe) rfl ?_; (try dsimp only [pm_st1, pm_st2, pm_cat2, pm_la, Option.toList, List.cons_append, List.nil_append])
      refine pm_zne (by exact okX11_canBe) rfl (fun h2 => ?_) (fun h2 => ?_)
      · have h3 : ¬ k = 0 := fun q => h2 (by rw [q]; rfl)
        refine pm_go 32 (by exact okX11_canBe) rfl ?_; (try dsimp only [pm_st1, pm_st2, pm_cat2, pm_la, Option.toList, List.cons_append, List.nil_append])
        exact st 0 (by rw [if_neg h3]) rfl
      · have h3 : k = 0 := (nI_eq (b := 0) (by omega) (by omega)).mp h2
        refine pm_go 32 (by exact okX11_canBe) rfl ?_; (try dsimp only [pm_st1, pm_st2, pm_cat2, pm_la, Option.toList, List.cons_append, List.nil_append])
        exact st 1 (by rw [if_pos h3]) rfl
/-- the table behind the first half of a step -/
def cb_T1 (law gate B : Nat) (pd : List Nat) (w k : Nat) (mu : pm_I) : Prop := ∀ w' j, w' ≤ B → j ≤ 6 → mu 26 (7 * w' + j) = bI ((if w' = w + 1 ∧ j = k then cbW law gate pd (w + 1) k else cb_v law gate pd w k w' j) = true)
theorem cb_v_here {law gate : Nat} {pd : List Nat} {w k : Nat} : cb_v law gate pd w k w k = cbF law gate pd w k := if_pos (Or.inr ⟨rfl, Nat.le_refl _⟩)
theorem cbW_succ {law gate : Nat} {pd : List Nat} {w k : Nat} (hk : k ≤ w) : cbW law gate pd (w + 1) k = (decide (w - k < gate) && cbF law gate pd w k) := by
  unfold cbW
  rw [Nat.add_sub_cancel]
  congr 1
  exact decide_eq_decide.mpr ⟨fun q => q.2.2, fun q => ⟨by omega, hk, q⟩⟩
theorem cbF_succ {law gate : Nat} {pd : List Nat} {w k : Nat} : cbF law gate pd w (k + 1) = (cbW law gate pd w (k + 1) || (decide (k < w) && (cb_N law pd w k && cbF law gate pd w k))) := by
  rw [cbF_eq, decide_eq_false (by omega), Bool.false_or]
  congr 1
  unfold cbB
  rw [Nat.add_sub_cancel]
  congr 1
  exact decide_eq_decide.mpr ⟨fun q => q.2, fun q => ⟨by omega, q⟩⟩
theorem cb_T_of1 {law gate B : Nat} {pd : List Nat} {w k : Nat} {mu mu' : pm_I} (hk : k ≤ 6) (h : cb_T1 law gate B pd w k mu) (h1 : ∀ i, ¬ (k + 1 ≤ 6 ∧ i = 7 * w + (k + 1)) → mu' 26 i = mu 26 i) (h2 : k + 1 ≤ 6 → mu' 26 (7 * w + (k + 1)) = bI (cbF law gate pd w (k + 1) = true)) : cb_T law gate B pd w (k + 1) mu' := by
  intro w' j hw hj
  by_cases e : k + 1 ≤ 6 ∧ 7 * w' + j = 7 * w + (k + 1)
  · have e1 : w' = w := by omega
    have e2 : j = k + 1 := by omega
    subst e1; subst e2
    rw [h2 hj, cb_v_here]
  · rw [h1 _ e, h w' j hw hj]
    have key : (if w' = w + 1 ∧ j = k then cbW law gate pd (w + 1) k else cb_v law gate pd w k w' j) = cb_v law gate pd w (k + 1) w' j := by
      unfold cb_v
      by_cases q1 : w' = w + 1 ∧ j = k
      · obtain ⟨rfl, rfl⟩ := q1
        rw [if_pos ⟨rfl, rfl⟩, if_neg (by omega), if_neg (by omega), if_pos ⟨rfl, by omega⟩]
      · rw [if_neg q1]
        by_cases q2 : w' < w ∨ (w' = w ∧ j ≤ k)
        · rw [if_pos q2, if_pos (by omega)]
        · rw [if_neg q2]
          by_cases q3 : w' = w
          · have : j ≠ k + 1 := fun q => e (by omega)
            rw [if_pos q3, if_neg (c := w' < w ∨ w' = w ∧ j ≤ k + 1) (by omega), if_pos q3]
          · simp only [if_neg q3, if_neg (show ¬ (w' < w ∨ w' = w ∧ j ≤ k + 1) by omega)]
            by_cases q4 : w' = w + 1 ∧ j < k
            · rw [if_pos q4, if_pos ⟨q4.1, by omega⟩]
            · rw [if_neg q4, if_neg (by omega)]
    rw [key]
set_option maxRecDepth 100000 in
set_option maxHeartbeats 1000000 in
theorem M_canBe_in {Q : pm_Po} {law gate B w : Nat} {pd : List Nat} (hB : mu 19 0 = nI B) (hB6 : 2 ≤ B ∧ B ≤ 6) (hL : mu 19 3 = nI law) (hlaw : law ≤ 2) (hG : mu 19 4 = nI gate) (hg : gate ≤ 6) (hpl : pd.length = B) (hP : ∀ k b, pd[k]? = some b → mu 22 k = nI b) (hlet : ∀ c ∈ pd, 97 ≤ c ∧ c < 97 + B) (hw : w ≤ B) (hd : 3 ≤ d) (kk : ∀ mu', f26 mu mu' → cb_T law gate B pd w (w + 1) mu' → pm_G cx (mX11_canBe, d, 0, 0, n0, Q) 0 0 185 [some (.ref 19), some (.int (nI w)), none, none] [] (sh_ i0 i1 ex) mu' nu) : ∀ (j k x : Nat) (mu' : pm_I), k + j = w + 1 → f26 mu mu' → cb_T law gate B pd w k mu' → (k ≤ w → x = os_ pd k) → x < 64 → pm_G cx (mX11_canBe, d, 0, 0, n0, Q) 0 0 53 [some (.ref 19), some (.int (nI w)), some (.int (nI x)), some (.int (nI k))] [] (sh_ i0 i1 ex) mu' nu := by
  have hget : ∀ k, k < B → mu 22 k = nI (pd.getD k 0) ∧ 97 ≤ pd.getD k 0 ∧ pd.getD k 0 < 97 + B := by
    intro k hk
    have h1 := List.getElem?_eq_getElem (l := pd) (i := k) (by omega)
    rw [List.getD_eq_getElem?_getD, h1, Option.getD_some]
    exact ⟨hP k _ h1, hlet _ (List.getElem_mem _)⟩
  intro j
  induction j with
  | zero =>
    intro k x mu' hk hF hT hx hx6
    have hk : k = w + 1 := by omega
    subst hk
    refine pm_go 9999 (by exact okX11_canBe) rfl ?_; (try dsimp only [pm_st1, pm_st2, pm_cat2, pm_la, Option.toList, List.cons_append, List.nil_append])
    refine pm_igt (by exact okX11_canBe) rfl (fun h1 => ?_) (fun h1 => ?_)
    · refine pm_G.fg [false, false, true, true] ?_; dsimp only [pm_fg]
      exact kk mu' hF hT
    · exact absurd (nI_lt (by omega) (by omega)) h1
  | succ j ih =>
    intro k x mu' hk hF hT hx hx6
    have hkw : k ≤ w := by omega
    have hxx := hx hkw
    have e7 : (7 : Int32) * nI w = nI (7 * w) := pk_mul 7 w
    -- the third part
    have stepC : ∀ mu2, f26 mu mu2 → cb_T law gate B pd w (k + 1) mu2 → pm_G cx (mX11_canBe, d, 0, 0, n0, Q) 0 0 156 [some (.ref 19), some (.int (nI w)), some (.int (nI x)), some (.int (nI k))] [] (sh_ i0 i1 ex) mu2 nu := by
      intro mu2 hF2 hT2
      refine pm_go 9999 (by exact okX11_canBe) rfl ?_; (try dsimp only [pm_st1, pm_st2, pm_cat2, pm_la, Option.toList, List.cons_append, List.nil_append])
      refine pm_ige (by exact okX11_canBe) rfl (fun h1 => ?_) (fun h1 => ?_)
      · have h2 : k = w := by
          have := (nI_leI (by omega) (by omega)).mp h1
          omega
        refine pm_go 53 (by exact okX11_canBe) rfl ?_; (try dsimp only [pm_st1, pm_st2, pm_cat2, pm_la, Option.toList, List.cons_append, List.nil_append])
        rw [nI_1, show nI x ||| 0 = nI x from by rw [show (0 : Int32) = nI 0 from rfl, nI_or, Nat.or_zero]]
        exact ih (k + 1) x mu2 (by omega) hF2 hT2 (fun q => by omega) hx6
      · have h2 : k < w := by
          rcases Nat.lt_or_ge k w with q | q
          · exact q
          · exact absurd (nI_le q (by omega)) h1
        obtain ⟨g1, g2, g3⟩ := hget k (by omega)
        refine pm_go 9999 (by exact okX11_canBe) rfl ?_; (try dsimp only [pm_st1, pm_st2, pm_cat2, pm_la, Option.toList, List.cons_append, List.nil_append])
        refine pm_ial (by exact okX11_canBe) rfl rfl (vp_in_nI (by omega) (by omega)) ?_
        rw [nI_clamp (by omega), hF2 22 (by omega), g1]
        refine pm_go 53 (by exact okX11_canBe) rfl ?_; (try dsimp only [pm_st1, pm_st2, pm_cat2, pm_la, Option.toList, List.cons_append, List.nil_append])
        rw [show (97 : Int32) = nI 97 from rfl, pk_sub g2, nI_shl1 (by omega), nI_or, nI_1]
        refine ih (k + 1) _ mu2 (by omega) hF2 hT2 (fun _ => ?_) (or_lt hx6 (by omega))
        rw [hxx]
        rfl
    -- the second part
    have stepB : ∀ mu1, f26 mu mu1 → cb_T1 law gate B pd w k mu1 → pm_G cx (mX11_canBe, d, 0, 0, n0, Q) 0 0 105 [some (.ref 19), some (.int (nI w)), some (.int (nI x)), some (.int (nI k))] [] (sh_ i0 i1 ex) mu1 nu := by
      intro mu1 hF1 hT1
      have here : mu1 26 (7 * w + k) = bI (cbF law gate pd w k = true) := by
        rw [hT1 w k hw (by omega), if_neg (by omega), cb_v_here]
      have stay : ¬ (k < w ∧ cb_N law pd w k = true ∧ cbF law gate pd w k = true) → pm_G cx (mX11_canBe, d, 0, 0, n0, Q) 0 0 156 [some (.ref 19), some (.int (nI w)), some (.int (nI x)), some (.int (nI k))] [] (sh_ i0 i1 ex) mu1 nu := by
        intro hn
        refine stepC mu1 hF1 (cb_T_of1 (by omega) hT1 (fun _ _ => rfl) (fun hk6 => ?_))
        have e : cbF law gate pd w (k + 1) = cbW law gate pd w (k + 1) := by
          rw [cbF_succ]
          by_cases q1 : k < w
          · have : (cb_N law pd w k && cbF law gate pd w k) = false := by
              cases q2 : cb_N law pd w k with
              | false => rfl
              | true =>
                cases q3 : cbF law gate pd w k with
                | false => rfl
                | true => exact absurd ⟨q1, q2, q3⟩ hn
            rw [this, Bool.and_false, Bool.or_false]
          · rw [decide_eq_false q1, Bool.false_and, Bool.or_false]
        rw [hT1 w (k + 1) hw hk6, if_neg (by omega), e]
        have : cb_v law gate pd w k w (k + 1) = cbW law gate pd w (k + 1) := by unfold cb_v; rw [if_neg (by omega), if_pos rfl]
        rw [this]
      refine pm_go 9999 (by exact okX11_canBe) rfl ?_; (try dsimp only [pm_st1, pm_st2, pm_cat2, pm_la, Option.toList, List.cons_append, List.nil_append])
      rw [e7, nI_add]
      refine pm_zal (by exact okX11_canBe) rfl rfl (vp_in_nI (by omega) (by omega)) ?_
      rw [nI_clamp (by omega), here]
      refine pm_zeq (by exact okX11_canBe) rfl (fun h1 => ?_) (fun h1 => ?_)
      · exact stay (fun q => bI_z.mp h1 q.2.2)
      · have h1 := bI_n.mp h1
        refine pm_go 9999 (by exact okX11_canBe) rfl ?_; (try dsimp only [pm_st1, pm_st2, pm_cat2, pm_la, Option.toList, List.cons_append, List.nil_append])
        refine pm_ige (by exact okX11_canBe) rfl (fun h2 => ?_) (fun h2 => ?_)
        · have := (nI_leI (by omega) (by omega)).mp h2
          exact stay (fun q => by omega)
        · have h3 : k < w := by
            rcases Nat.lt_or_ge k w with q | q
            · exact q
            · exact absurd (nI_le q (by omega)) h2
          obtain ⟨g1, g2, g3⟩ := hget k (by omega)
          refine pm_go 9999 (by exact okX11_canBe) rfl ?_; (try dsimp only [pm_st1, pm_st2, pm_cat2, pm_la, Option.toList, List.cons_append, List.nil_append])
          refine pm_cv (by exact okX11_canBe) (by exact okX11_nextBy) rfl (by exact arX11_nextBy) (t_nextBy (d := 2) (n := w) (s := x) (law := law) (by rw [hF1 19 (by omega)]; exact hL) hlaw (by omega) (by omega) (by omega)) rfl rfl rfl (by dsimp only; omega) rfl (Nat.le_of_ble_eq_true rfl) ⟨Nat.zero_le _, Nat.zero_le _⟩ ?_
          rintro _ _ _ _ ⟨rfl, rfl, rfl, rfl⟩ -
          refine pm_go 9999 (by exact okX11_canBe) rfl ?_; (try dsimp only [pm_st1, pm_st2, pm_cat2, pm_la, Option.toList, List.cons_append, List.nil_append])
          refine pm_ial (by exact okX11_canBe) rfl rfl (vp_in_nI (by omega) (by omega)) ?_
          rw [nI_clamp (by omega), hF1 22 (by omega), g1]
          refine pm_go 9999 (by exact okX11_canBe) rfl ?_; (try dsimp only [pm_st1, pm_st2, pm_cat2, pm_la, Option.toList, List.cons_append, List.nil_append])
          rw [show (97 : Int32) = nI 97 from rfl, pk_sub g2]
          have enx : nO (gd_nx law (gd_rn x w)) = nI (pd.getD k 0 - 97) ↔ cb_N law pd w k = true := by
            unfold cb_N
            rw [decide_eq_true_iff, ← hxx]
            cases hnx : gd_nx law (gd_rn x w) with
            | none => exact ⟨fun q => absurd q.symm (nI_ne_m (by omega)).2, fun q => by cases q⟩
            | some b =>
              have hb := gd_rn_lt x w b (gd_nx_mem hnx)
              rw [nO_some, nI_eq (by omega) (by omega)]
              exact ⟨fun q => by rw [q], fun q => Option.some.inj q⟩
          refine pm_ine (by exact okX11_canBe) rfl (fun h4 => ?_) (fun h4 => ?_)
          · exact stay (fun q => h4 (enx.mpr q.2.1))
          · have h5 := enx.mp h4
            refine pm_go 9999 (by exact okX11_canBe) rfl ?_; (try dsimp only [pm_st1, pm_st2, pm_cat2, pm_la, Option.toList, List.cons_append, List.nil_append])
            rw [e7, nI_add, nI_1]
            refine pm_zas (by exact okX11_canBe) rfl rfl (vp_in_nI (by omega) (by omega)) ?_
            rw [nI_clamp (by omega), show vp_nar .boolean 1 = 1 from rfl]
            refine stepC _ hF1.up (cb_T_of1 (by omega) hT1 (fun i hi => pm_up_of (fun q => hi ⟨by omega, by omega⟩)) (fun hk6 => ?_))
            rw [show 7 * w + (k + 1) = 7 * w + k + 1 by omega, pm_up_at, cbF_succ, decide_eq_true h3, h5, h1]
            rw [bI_1]
            simp
    -- the first part
    have here : mu' 26 (7 * w + k) = bI (cbF law gate pd w k = true) := by
      rw [hT w k hw (by omega), cb_v_here]
    have stay : ¬ (cbF law gate pd w k = true ∧ w < B ∧ w - k < gate) → pm_G cx (mX11_canBe, d, 0, 0, n0, Q) 0 0 105 [some (.ref 19), some (.int (nI w)), some (.int (nI x)), some (.int (nI k))] [] (sh_ i0 i1 ex) mu' nu := by
      intro hn
      refine stepB mu' hF (fun w' j hw' hj => ?_)
      rw [hT w' j hw' hj]
      by_cases q : w' = w + 1 ∧ j = k
      · obtain ⟨rfl, rfl⟩ := q
        rw [if_pos ⟨rfl, rfl⟩, cbW_succ hkw]
        have e1 : cb_v law gate pd w j (w + 1) j = false := by unfold cb_v; rw [if_neg (by omega), if_neg (by omega), if_neg (by omega)]
        have e2 : (decide (w - j < gate) && cbF law gate pd w j) = false := by
          cases q3 : cbF law gate pd w j with
          | false => rw [Bool.and_false]
          | true =>
            by_cases q4 : w - j < gate
            · exact absurd ⟨q3, by omega, q4⟩ hn
            · rw [decide_eq_false q4]; rfl
        rw [e1, e2]
      · rw [if_neg q]
    refine pm_go 9999 (by exact okX11_canBe) rfl ?_; (try dsimp only [pm_st1, pm_st2, pm_cat2, pm_la, Option.toList, List.cons_append, List.nil_append])
    refine pm_igt (by exact okX11_canBe) rfl (fun h1 => ?_) (fun h1 => ?_)
    · exact absurd h1 (nI_nlt (by omega) (by omega))
    · refine pm_go 9999 (by exact okX11_canBe) rfl ?_; (try dsimp only [pm_st1, pm_st2, pm_cat2, pm_la, Option.toList, List.cons_append, List.nil_append])
      rw [e7, nI_add]
      refine pm_zal (by exact okX11_canBe) rfl rfl (vp_in_nI (by omega) (by omega)) ?_
      rw [nI_clamp (by omega), here]
      refine pm_zeq (by exact okX11_canBe) rfl (fun h2 => ?_) (fun h2 => ?_)
      · exact stay (fun q => bI_z.mp h2 q.1)
      · have h2 := bI_n.mp h2
        refine pm_go 9999 (by exact okX11_canBe) rfl ?_; (try dsimp only [pm_st1, pm_st2, pm_cat2, pm_la, Option.toList, List.cons_append, List.nil_append])
        rw [hF 19 (by omega), hB]
        refine pm_ige (by exact okX11_canBe) rfl (fun h3 => ?_) (fun h3 => ?_)
        · have := (nI_leI (by omega) (by omega)).mp h3
          exact stay (fun q => by omega)
        · have h3 : w < B := by
            rcases Nat.lt_or_ge w B with q | q
            · exact q
            · exact absurd (nI_le q (by omega)) h3
          refine pm_go 9999 (by exact okX11_canBe) rfl ?_; (try dsimp only [pm_st1, pm_st2, pm_cat2, pm_la, Option.toList, List.cons_append, List.nil_append])
          rw [pk_sub hkw, hF 19 (by omega), hG]
          refine pm_ige (by exact okX11_canBe) rfl (fun h4 => ?_) (fun h4 => ?_)
          · have := (nI_leI (by omega) (by omega)).mp h4
            exact stay (fun q => by omega)
          · have h4 : w - k < gate := by
              rcases Nat.lt_or_ge (w - k) gate with q | q
              · exact q
              · exact absurd (nI_le q (by omega)) h4
            refine pm_go 9999 (by exact okX11_canBe) rfl ?_; (try dsimp only [pm_st1, pm_st2, pm_cat2, pm_la, Option.toList, List.cons_append, List.nil_append])
            rw [e7, show nI (7 * w) + 7 + nI k = nI (7 * w + 7 + k) by rw [show (7 : Int32) = nI 7 from rfl, nI_add, nI_add]]
            refine pm_zas (by exact okX11_canBe) rfl rfl (vp_in_nI (by omega) (by omega)) ?_
            rw [nI_clamp (by omega), show vp_nar .boolean 1 = 1 from rfl]
            refine stepB _ hF.up (fun w' j hw' hj => ?_)
            by_cases q : w' = w + 1 ∧ j = k
            · obtain ⟨rfl, rfl⟩ := q
              rw [if_pos ⟨rfl, rfl⟩, show 7 * (w + 1) + j = 7 * w + 7 + j by omega, pm_up_at, cbW_succ hkw, decide_eq_true h4, h2, bI_1]
              rfl
            · rw [if_neg q, pm_up_of (by omega)]
              exact hT w' j hw' hj
def sp_canBe (z : mS) : Int32 := if pd_of (gB z.1) 0 0 z.2.1 ≠ none then -5 else bI (cbF (gL z.1) (gG z.1) z.2.1 (gB z.1) (gB z.1) = true)
theorem MA.f26 {z : mS} {mu mu' : pm_I} (h : MA z mu) (hF : f26 mu mu') : MA z mu' := h.same (fun j hj => by rw [hF 19 (by omega)]) (fun k h1 h2 => hF k (by omega)) (hF 38 (by omega)) (hF 39 (by omega))
set_option maxRecDepth 100000 in
set_option maxHeartbeats 1000000 in
theorem M_canBe_out {Q : pm_Po} {law gate B : Nat} {pd : List Nat} (hB : mu 19 0 = nI B) (hB6 : 2 ≤ B ∧ B ≤ 6) (hL : mu 19 3 = nI law) (hlaw : law ≤ 2) (hG : mu 19 4 = nI gate) (hg : gate ≤ 6) (hpl : pd.length = B) (hP : ∀ k b, pd[k]? = some b → mu 22 k = nI b) (hlet : ∀ c ∈ pd, 97 ≤ c ∧ c < 97 + B) (hd : 3 ≤ d) (kk : ∀ mu', f26 mu mu' → mu' 26 (8 * B) = bI (cbF law gate pd B B = true) → pm_G cx (mX11_canBe, d, 0, 0, n0, Q) 0 0 191 [some (.ref 19), none, none, none] [] (sh_ i0 i1 ex) mu' nu) : ∀ (j w : Nat) (mu' : pm_I), w + j = B + 1 → f26 mu mu' → cb_T law gate B pd w 0 mu' → pm_G cx (mX11_canBe, d, 0, 0, n0, Q) 0 0 41 [some (.ref 19), some (.int (nI w)), none, none] [] (sh_ i0 i1 ex) mu' nu := by
  intro j
  induction j with
  | zero =>
    intro w mu' hw hF hT
    have hw : w = B + 1 := by omega
    subst hw
    refine pm_go 9999 (by exact okX11_canBe) rfl ?_; (try dsimp only [pm_st1, pm_st2, pm_cat2, pm_la, Option.toList, List.cons_append, List.nil_append])
    rw [hF 19 (by omega), hB]
    refine pm_igt (by exact okX11_canBe) rfl (fun h1 => ?_) (fun h1 => ?_)
    · refine pm_G.fg [false, true, true, true] ?_; dsimp only [pm_fg]
      refine kk mu' hF ?_
      rw [show 8 * B = 7 * B + B by omega, hT B B (Nat.le_refl _) (by omega)]
      have : cb_v law gate pd (B + 1) 0 B B = cbF law gate pd B B := if_pos (Or.inl (by omega))
      rw [this]
    · exact absurd (nI_lt (by omega) (by omega)) h1
  | succ j ih =>
    intro w mu' hw hF hT
    refine pm_go 9999 (by exact okX11_canBe) rfl ?_; (try dsimp only [pm_st1, pm_st2, pm_cat2, pm_la, Option.toList, List.cons_append, List.nil_append])
    rw [hF 19 (by omega), hB]
    refine pm_igt (by exact okX11_canBe) rfl (fun h1 => ?_) (fun h1 => ?_)
    · exact absurd h1 (nI_nlt (by omega) (by omega))
    · refine pm_go 53 (by exact okX11_canBe) rfl ?_; (try dsimp only [pm_st1, pm_st2, pm_cat2, pm_la, Option.toList, List.cons_append, List.nil_append])
      refine M_canBe_in (mu := mu) hB hB6 hL hlaw hG hg hpl hP hlet (show w ≤ B by omega) hd (fun mu2 hF2 hT2 => ?_) (w + 1) 0 0 mu' (by omega) hF hT (fun _ => rfl) (by omega)
      refine pm_go 41 (by exact okX11_canBe) rfl ?_; (try dsimp only [pm_st1, pm_st2, pm_cat2, pm_la, Option.toList, List.cons_append, List.nil_append])
      rw [nI_1]
      exact ih (w + 1) mu2 (by omega) hF2 (cb_T_next hT2)
set_option maxRecDepth 100000 in
set_option maxHeartbeats 1000000 in
theorem M_canBe {z : mS} (hz : zOK z) (h : MA z mu) (hd : 3 ≤ d) : pm_T cx mX11_canBe d 0 0 [.ref 19] (sh_ i0 i1 ex) mu nu (mQ (.int (sp_canBe z)) z i0 i1 ex mu) := by
  obtain ⟨⟨a1, a2, a3, a4, a5, a6, a7, a8, a9, b1, b2, b3, b4, b5⟩, c1, c2⟩ := id h
  obtain ⟨hg, hp, -⟩ := id hz
  have hB6 := hg.1
  have hp1 := hp.1
  unfold sp_canBe
  refine pm_enterN 3 (by exact okX11_canBe) rfl ?_; dsimp only [pm_la, pm_cat2, List.replicate, List.cons_append, List.nil_append, List.append_nil]
  refine pm_go 9999 (by exact okX11_canBe) rfl ?_; (try dsimp only [pm_st1, pm_st2, pm_cat2, pm_la, Option.toList, List.cons_append, List.nil_append])
  refine pm_cv (by exact okX11_canBe) (by exact okX11_orderFault) rfl (by exact arX11_orderFault) (t_orderFault (d := 2) a1 hB6 a5 b3 hp (by omega)) rfl rfl rfl (by dsimp only; omega) rfl (Nat.le_of_ble_eq_true rfl) ⟨Nat.zero_le _, Nat.zero_le _⟩ ?_
  rintro _ _ _ _ ⟨rfl, rfl, rfl, rfl⟩ -
  refine pm_go 9999 (by exact okX11_canBe) rfl ?_; (try dsimp only [pm_st1, pm_st2, pm_cat2, pm_la, Option.toList, List.cons_append, List.nil_append])
  have eof := nO_neg (o := pd_of (gB z.1) 0 0 z.2.1) (n := 49) (fun b hb => by have := pd_of_lt _ _ _ _ hb; omega) (by omega)
  refine pm_zlt (by exact okX11_canBe) rfl (fun h2 => ?_) (fun h2 => ?_)
  · have h2 := eof.mp h2
    rw [if_neg (fun q => q h2)]
    have hpl := pd_of_len h2 hB6.2
    obtain ⟨-, hlet, -, -⟩ := pd_of_ok _ _ _ h2
    refine pm_go 12 (by exact okX11_canBe) rfl ?_; (try dsimp only [pm_st1, pm_st2, pm_cat2, pm_la, Option.toList, List.cons_append, List.nil_append])
    refine pm_G.cast (L' := [some (.ref 19), some (.int (nI 0)), none, none]) (S' := []) (mu' := mu) (nu' := nu) ?_ rfl rfl rfl rfl
    refine M_canBe_a (law := gL z.1) (gate := gG z.1) (B := gB z.1) (pd := z.2.1) hB6.2 (fun mu1 hF1 hT1 => ?_) 49 0 mu rfl (fun _ _ => rfl) (fun i hi => absurd hi (by omega))
    refine pm_go 41 (by exact okX11_canBe) rfl ?_; (try dsimp only [pm_st1, pm_st2, pm_cat2, pm_la, Option.toList, List.cons_append, List.nil_append])
    refine M_canBe_out (mu := mu) a1 hB6 a2 hg.2.1 a3 hg.2.2.1.2 hpl b3 hlet hd (fun mu2 hF2 hv => ?_) (gB z.1 + 1) 0 mu1 (by omega) hF1 hT1
    refine pm_go 9999 (by exact okX11_canBe) rfl ?_; (try dsimp only [pm_st1, pm_st2, pm_cat2, pm_la, Option.toList, List.cons_append, List.nil_append])
    rw [hF2 19 (by omega), a1, show (8 : Int32) * nI (gB z.1) = nI (8 * gB z.1) from pk_mul 8 _]
    refine pm_zal (by exact okX11_canBe) rfl rfl (vp_in_nI (by omega) (by omega)) ?_
    rw [nI_clamp (by omega), hv]
    have hMA := h.f26 hF2
    have hfm : fM mu mu2 := fun a ha => hF2 a (by omega)
    refine pm_zeq (by exact okX11_canBe) rfl (fun h3 => ?_) (fun h3 => ?_)
    · have h3' := bI_z.mp h3
      rw [h3]
      refine pm_go 9999 (by exact okX11_canBe) rfl ?_; (try dsimp only [pm_st1, pm_st2, pm_cat2, pm_la, Option.toList, List.cons_append, List.nil_append])
      refine pm_ri (by exact okX11_canBe) rfl rfl rfl (Nat.le_refl _) (Nat.le_refl _) (⟨rfl, rfl, hMA, hfm⟩)
    · have h3 := bI_n.mp h3
      rw [bI_1 h3]
      refine pm_go 9999 (by exact okX11_canBe) rfl ?_; (try dsimp only [pm_st1, pm_st2, pm_cat2, pm_la, Option.toList, List.cons_append, List.nil_append])
      refine pm_ri (by exact okX11_canBe) rfl rfl rfl (Nat.le_refl _) (Nat.le_refl _) (⟨rfl, rfl, hMA, hfm⟩)
  · have h2 : pd_of (gB z.1) 0 0 z.2.1 ≠ none := fun q => h2 (eof.mpr q)
    rw [if_pos h2]
    refine pm_go 9999 (by exact okX11_canBe) rfl ?_; (try dsimp only [pm_st1, pm_st2, pm_cat2, pm_la, Option.toList, List.cons_append, List.nil_append])
    refine pm_ri (by exact okX11_canBe) rfl rfl rfl (Nat.le_refl _) (Nat.le_refl _) (⟨rfl, rfl, h, fM.rf⟩)
end
end
section
/-! ===== the reference's chance ===== -/
/-- the sign of a WISH is pleased by a BED of this COLOUR -/
abbrev wsh (c col : Nat) : Prop := pd_co c = some 4 ∨ pd_co c = some col
theorem pd_if_ok {B : Nat} : ∀ (r : List Nat) (k : Nat), pd_if B k r = none → k ≤ B → k + r.length ≤ B ∧ (∀ c ∈ r, pd_co c ≠ none) ∧ 0 < k + r.length := by
  intro r
  induction r with
  | nil =>
    intro k h hk
    simp only [pd_if] at h
    split at h
    · cases h
    · exact ⟨by simp; omega, fun c hc => (List.not_mem_nil hc).elim, by simp; omega⟩
  | cons c r ih =>
    intro k h hk
    simp only [pd_if] at h
    split at h
    · cases h
    · rename_i hn
      obtain ⟨g1, g2, g3⟩ := ih (k + 1) h (by omega)
      refine ⟨by simp only [List.length_cons]; omega, fun x hx => ?_, by simp only [List.length_cons]; omega⟩
      rcases List.mem_cons.mp hx with rfl | hx
      · exact fun q => hn (Or.inr q)
      · exact g2 x hx
/-- one way of the weather: its weight, if it pleases -/
def ch_go (law B wet : Nat) (C : Nat → Nat) (rains : Nat) : List Nat → Nat → List Nat → Nat → Nat → Nat
  | [], _, _, _, own => own
  | c :: t, k, r, s, own => match gd_nx law (if rains.testBit k = true then gd_rn s B else r) with
    | none => ch_go law B wet C rains t (k + 1) (if rains.testBit k = true then gd_rn s B else r) s 0
    | some b => ch_go law B wet C rains t (k + 1) ((if rains.testBit k = true then gd_rn s B else r).filter (fun x => x != b)) (s ||| 2 ^ b) (if wsh c (C b) then own * (if rains.testBit k = true then wet else 10 - wet) else 0)
theorem ch_go_le {law B wet : Nat} {C : Nat → Nat} {rains : Nat} (hw : wet ≤ 10) : ∀ (t : List Nat) (k : Nat) (r : List Nat) (s own : Nat), ch_go law B wet C rains t k r s own ≤ own * 10 ^ t.length := by
  intro t
  induction t with
  | nil => intro k r s own; simp [ch_go]
  | cons c t ih =>
    intro k r s own
    have hf : (if rains.testBit k = true then wet else 10 - wet) ≤ 10 := by split <;> omega
    have e10 : own * 10 * 10 ^ t.length = own * 10 ^ (c :: t).length := by
      rw [List.length_cons, Nat.pow_succ, Nat.mul_assoc, Nat.mul_comm 10]
    simp only [ch_go]
    split
    · refine Nat.le_trans (ih _ _ _ _) ?_
      rw [Nat.zero_mul]
      exact Nat.zero_le _
    · refine Nat.le_trans (ih _ _ _ _) ?_
      rw [← e10]
      refine Nat.mul_le_mul_right _ ?_
      split
      · exact Nat.mul_le_mul_left _ hf
      · exact Nat.zero_le _
/-- the upper number ahead of reducing -/
def ch_up (g : gS) (pd : List Nat) : Nat := fb_sm (fun rains => ch_go (gL g) (gB g) (gW g) (gC g) rains pd 0 (gR g) (gM g) 1) (2 ^ pd.length)
def sp_chance (z : mS) (p : Int32) : Int64 :=
  if ¬ (0 ≤ p ∧ p ≤ 1) then -1000000000000000002 else if pd_if (gB z.1) 0 z.2.1 ≠ none then -1000000000000000005 else if p = 0 then lN (ch_up z.1 z.2.1 / Nat.gcd (10 ^ z.2.1.length) (ch_up z.1 z.2.1)) else lN (10 ^ z.2.1.length / Nat.gcd (10 ^ z.2.1.length) (ch_up z.1 z.2.1))
theorem pd_if_lt {B : Nat} : ∀ (r : List Nat) (k b : Nat), pd_if B k r = some b → b ≤ k + r.length := by
  intro r
  induction r with
  | nil =>
    intro k b h
    simp only [pd_if] at h
    split at h
    · cases h; omega
    · cases h
  | cons c r ih =>
    intro k b h
    simp only [pd_if] at h
    simp only [List.length_cons]
    split at h
    · cases h; omega
    · have := ih _ _ h; omega
section
variable {cx : pm_CX} {d n0 : Nat} {i0 i1 : Option Nat} {ex : List pm_C} {mu : pm_I} {nu : pm_J}
set_option maxRecDepth 100000 in
set_option maxHeartbeats 1000000 in
theorem t_isWished {k b c col : Nat} (hk : k < 48) (hb : b < 6) (h22 : mu 22 k = nI c) (hc : 33 ≤ c ∧ c ≤ 126) (hco : pd_co c ≠ none) (h20 : mu 20 b = nI col) (hcol : col ≤ 3) (hd : 1 ≤ d) : pm_T cx mX11_isWished d 0 0 [.ref 19, .int (nI k), .int (nI b)] (sh_ i0 i1 ex) mu nu (pm_ret (some (.int (bI (wsh c col)))) (sh_ i0 i1 ex) mu nu) := by
  obtain ⟨x, hx⟩ : ∃ x, pd_co c = some x := Option.ne_none_iff_exists'.mp hco
  have hx4 := pd_co_lt hx
  refine pm_enterN 1 (by exact okX11_isWished) rfl ?_; dsimp only [pm_la, pm_cat2, List.replicate, List.cons_append, List.nil_append, List.append_nil]
  refine pm_go 9999 (by exact okX11_isWished) rfl ?_; (try dsimp only [pm_st1, pm_st2, pm_cat2, pm_la, Option.toList, List.cons_append, List.nil_append])
  refine pm_ial (by exact okX11_isWished) rfl rfl (vp_in_nI (by omega) (by omega)) ?_
  rw [nI_clamp (by omega), h22]
  refine pm_cs (by exact okX11_isWished) (by exact okX11_colourOf) rfl (by exact arX11_colourOf) (t_mcolourOf (d := 0) (nI c)) rfl (by dsimp only; omega) rfl (Nat.le_of_ble_eq_true rfl) ⟨Nat.zero_le _, Nat.zero_le _⟩ ?_
  rintro _ _ _ _ ⟨rfl, rfl, rfl, rfl⟩ -
  rw [mcol_eq hc, show nO (pd_co c) = nI x by rw [hx]; rfl]
  refine pm_go 9999 (by exact okX11_isWished) rfl ?_; (try dsimp only [pm_st1, pm_st2, pm_cat2, pm_la, Option.toList, List.cons_append, List.nil_append])
  refine pm_ieq (by exact okX11_isWished) rfl (fun h1 => ?_) (fun h1 => ?_)
  · have h2 : x = 4 := (nI_eq (b := 4) (by omega) (by omega)).mp h1
    refine pm_go 9999 (by exact okX11_isWished) rfl ?_; (try dsimp only [pm_st1, pm_st2, pm_cat2, pm_la, Option.toList, List.cons_append, List.nil_append])
    refine pm_ri (by exact okX11_isWished) rfl rfl rfl (Nat.le_refl _) (Nat.le_refl _) (⟨by rw [bI_1]; left; rw [hx, h2], rfl, rfl, rfl⟩)
  · have h2 : ¬ x = 4 := fun q => h1 (by rw [q]; rfl)
    refine pm_go 9999 (by exact okX11_isWished) rfl ?_; (try dsimp only [pm_st1, pm_st2, pm_cat2, pm_la, Option.toList, List.cons_append, List.nil_append])
    refine pm_ial (by exact okX11_isWished) rfl rfl (vp_in_nI (by omega) (by omega)) ?_
    rw [nI_clamp (by omega), h20]
    refine pm_ine (by exact okX11_isWished) rfl (fun h3 => ?_) (fun h3 => ?_)
    · have h4 : ¬ x = col := fun q => h3 (by rw [q])
      refine pm_go 9999 (by exact okX11_isWished) rfl ?_; (try dsimp only [pm_st1, pm_st2, pm_cat2, pm_la, Option.toList, List.cons_append, List.nil_append])
      refine pm_ri (by exact okX11_isWished) rfl rfl rfl (Nat.le_refl _) (Nat.le_refl _) (⟨by rw [bI_0]; rintro (q | q); exact h2 (Option.some.inj (hx.symm.trans q)); exact h4 (Option.some.inj (hx.symm.trans q)), rfl, rfl, rfl⟩)
    · have h4 : x = col := (nI_eq (by omega) (by omega)).mp h3
      refine pm_go 9999 (by exact okX11_isWished) rfl ?_; (try dsimp only [pm_st1, pm_st2, pm_cat2, pm_la, Option.toList, List.cons_append, List.nil_append])
      refine pm_ri (by exact okX11_isWished) rfl rfl rfl (Nat.le_refl _) (Nat.le_refl _) (⟨by rw [bI_1]; right; rw [hx, h4], rfl, rfl, rfl⟩)
set_option maxRecDepth 100000 in
set_option maxHeartbeats 1000000 in
theorem M_chance_in {Q : pm_Po} {z : mS} {rains : Nat} {x1 : Int32} {u lo : Int64} (hz : zOK z) (h : MA z mu) (hw : pd_if (gB z.1) 0 z.2.1 = none) (hr : rains < 2 ^ 31) (hd : 2 ≤ d) : ∀ (t : List Nat) (k : Nat) (r : List Nat) (s own : Nat), z.2.1.drop k = t → k ≤ z.2.1.length → rOK (gB z.1) r s → (∀ L7 L8 L12, pm_G cx (mX11_chance, d, 0, 0, n0, Q) 0 0 225 [some (.ref 19), some (.int x1), some (.long u), none, some (.long lo), none, some (.int (nI rains)), some (.int L7), some (.int L8), some (.long (lN (ch_go (gL z.1) (gB z.1) (gW z.1) (gC z.1) rains t k r s own))), none, some (.int L12), none] [] (sh_ i0 i1 ex) mu nu) → pm_G cx (mX11_chance, d, 0, 0, n0, Q) 0 0 87 [some (.ref 19), some (.int x1), some (.long u), none, some (.long lo), none, some (.int (nI rains)), some (.int (nI (md_r7 r))), some (.int (nI s)), some (.long (lN own)), none, some (.int (nI k)), none] [] (sh_ i0 i1 ex) mu nu := by
  obtain ⟨⟨a1, a2, a3, a4, a5, a6, a7, a8, a9, b1, b2, b3, b4, b5⟩, c1, c2⟩ := id h
  obtain ⟨⟨hB6, hlaw, -, hwet, hC, -⟩, hp, -⟩ := hz
  have hp1 := hp.1
  obtain ⟨hlen, hco, hpos⟩ := pd_if_ok z.2.1 0 hw (by omega)
  intro t
  induction t with
  | nil =>
    intro k r s own ht hk hR kk
    have hk := drop_nil ht hk
    refine pm_go 9999 (by exact okX11_chance) rfl ?_; (try dsimp only [pm_st1, pm_st2, pm_cat2, pm_la, Option.toList, List.cons_append, List.nil_append])
    rw [a5]
    refine pm_ige (by exact okX11_chance) rfl (fun h1 => ?_) (fun h1 => ?_)
    · exact kk _ _ _
    · exact absurd (nI_le (by omega) (by omega)) h1
  | cons c t ih =>
    intro k r s own ht hk hR kk
    obtain ⟨g1, g2, g3⟩ := drop_get ht
    have hcm := mem_drop ht
    have hcb := hp.2 c hcm
    have hcc := hco c hcm
    have hok := rOK_ok hR hB6.2
    have hln := rOK_len hR hB6.2
    have hs64 := rOK_s hR hB6.2
    -- behind the weather
    have after : ∀ (r1 : List Nat) (own1 : Nat), r1 = (if rains.testBit k = true then gd_rn s (gB z.1) else r) → own1 = own * (if rains.testBit k = true then gW z.1 else 10 - gW z.1) → pm_G cx (mX11_chance, d, 0, 0, n0, Q) 0 0 148 [some (.ref 19), some (.int x1), some (.long u), none, some (.long lo), none, some (.int (nI rains)), some (.int (nI (md_r7 r))), some (.int (nI s)), some (.long (lN own1)), none, some (.int (nI k)), none] [.int (nI (md_r7 r1))] (sh_ i0 i1 ex) mu nu := by
      intro r1 own1 hr1 ho1
      have hR1 : rOK (gB z.1) r1 s := by
        rw [hr1]
        split
        · exact rOK_rain hR.2.2
        · exact hR
      have hok1 := rOK_ok hR1 hB6.2
      have hln1 := rOK_len hR1 hB6.2
      simp only [ch_go] at kk
      rw [← hr1, ← ho1] at kk
      refine pm_go 9999 (by exact okX11_chance) rfl ?_; (try dsimp only [pm_st1, pm_st2, pm_cat2, pm_la, Option.toList, List.cons_append, List.nil_append])
      refine pm_cv (by exact okX11_chance) (by exact okX11_nextOf) rfl (by exact arX11_nextOf) (t_nextOf (d := 1) (r := r1) a2 hlaw hok1 hln1 (by omega)) rfl rfl rfl (by dsimp only; omega) rfl (Nat.le_of_ble_eq_true rfl) ⟨Nat.zero_le _, Nat.zero_le _⟩ ?_
      rintro _ _ _ _ ⟨rfl, rfl, rfl, rfl⟩ -
      cases hnx : gd_nx (gL z.1) r1 with
      | none =>
        rw [hnx] at kk
        rw [nO_none]
        refine pm_go 9999 (by exact okX11_chance) rfl ?_; (try dsimp only [pm_st1, pm_st2, pm_cat2, pm_la, Option.toList, List.cons_append, List.nil_append])
        refine pm_zlt (by exact okX11_chance) rfl (fun h5 => ?_) (fun h5 => ?_)
        · refine pm_go 9999 (by exact okX11_chance) rfl ?_; (try dsimp only [pm_st1, pm_st2, pm_cat2, pm_la, Option.toList, List.cons_append, List.nil_append])
          refine pm_zge (by exact okX11_chance) rfl (fun h6 => ?_) (fun h6 => ?_)
          · exact absurd h6 (by decide)
          · refine pm_go 9999 (by exact okX11_chance) rfl ?_; (try dsimp only [pm_st1, pm_st2, pm_cat2, pm_la, Option.toList, List.cons_append, List.nil_append])
            refine pm_zge (by exact okX11_chance) rfl (fun h7 => ?_) (fun h7 => ?_)
            · exact absurd h7 (by decide)
            · refine pm_go 87 (by exact okX11_chance) rfl ?_; (try dsimp only [pm_st1, pm_st2, pm_cat2, pm_la, Option.toList, List.cons_append, List.nil_append])
              rw [nI_1, show nI s ||| 0 = nI s from by rw [show (0 : Int32) = nI 0 from rfl, nI_or, Nat.or_zero]]
              refine pm_G.fg [false, false, false, false, false, false, false, false, false, false, false, false, true] ?_; dsimp only [pm_fg]
              exact ih (k + 1) r1 s 0 g2 (by omega) hR1 kk
        · exact absurd (by decide) h5
      | some b =>
        rw [hnx] at kk
        rw [nO_some]
        have hbr := gd_nx_mem hnx
        have hb6 := hok1 b hbr
        have fin : ∀ own2, own2 = (if wsh c (gC z.1 b) then own1 else 0) → pm_G cx (mX11_chance, d, 0, 0, n0, Q) 0 0 180 [some (.ref 19), some (.int x1), some (.long u), none, some (.long lo), none, some (.int (nI rains)), some (.int (nI (md_r7 r1))), some (.int (nI s)), some (.long (lN own1)), none, some (.int (nI k)), some (.int (nI b))] [.long (lN own2)] (sh_ i0 i1 ex) mu nu := by
          intro own2 ho2
          refine pm_go 9999 (by exact okX11_chance) rfl ?_; (try dsimp only [pm_st1, pm_st2, pm_cat2, pm_la, Option.toList, List.cons_append, List.nil_append])
          refine pm_zge (by exact okX11_chance) rfl (fun h6 => ?_) (fun h6 => ?_)
          · refine pm_go 9999 (by exact okX11_chance) rfl ?_; (try dsimp only [pm_st1, pm_st2, pm_cat2, pm_la, Option.toList, List.cons_append, List.nil_append])
            refine pm_cs (by exact okX11_chance) (by exact okX11_without) rfl (by exact arX11_without) (t_without (d := 0) hok1 hln1 hb6) rfl (by dsimp only; omega) rfl (Nat.le_of_ble_eq_true rfl) ⟨Nat.zero_le _, Nat.zero_le _⟩ ?_
            rintro _ _ _ _ ⟨rfl, rfl, rfl, rfl⟩ -
            refine pm_go 9999 (by exact okX11_chance) rfl ?_; (try dsimp only [pm_st1, pm_st2, pm_cat2, pm_la, Option.toList, List.cons_append, List.nil_append])
            refine pm_zge (by exact okX11_chance) rfl (fun h7 => ?_) (fun h7 => ?_)
            · refine pm_go 87 (by exact okX11_chance) rfl ?_; (try dsimp only [pm_st1, pm_st2, pm_cat2, pm_la, Option.toList, List.cons_append, List.nil_append])
              rw [nI_1, nI_shl1 (by omega), nI_or]
              refine pm_G.fg [false, false, false, false, false, false, false, false, false, false, false, false, true] ?_; dsimp only [pm_fg]
              refine ih (k + 1) _ _ own2 g2 (by omega) (rOK_bloom hR1 hbr) ?_
              rw [ho2]
              exact kk
            · exact absurd (nI_pos' (by omega)) h7
          · exact absurd (nI_pos' (by omega)) h6
        refine pm_go 9999 (by exact okX11_chance) rfl ?_; (try dsimp only [pm_st1, pm_st2, pm_cat2, pm_la, Option.toList, List.cons_append, List.nil_append])
        refine pm_zlt (by exact okX11_chance) rfl (fun h5 => ?_) (fun h5 => ?_)
        · exact absurd h5 (nI_pos (by omega))
        · refine pm_go 9999 (by exact okX11_chance) rfl ?_; (try dsimp only [pm_st1, pm_st2, pm_cat2, pm_la, Option.toList, List.cons_append, List.nil_append])
          refine pm_cv (by exact okX11_chance) (by exact okX11_isWished) rfl (by exact arX11_isWished) (t_isWished (d := 1) (c := c) (col := gC z.1 b) (by omega) hb6 (b3 k c g1) hcb hcc (b1 b hb6) (hC b hb6) (by omega)) rfl rfl rfl (by dsimp only; omega) rfl (Nat.le_of_ble_eq_true rfl) ⟨Nat.zero_le _, Nat.zero_le _⟩ ?_
          rintro _ _ _ _ ⟨rfl, rfl, rfl, rfl⟩ -
          refine pm_go 9999 (by exact okX11_chance) rfl ?_; (try dsimp only [pm_st1, pm_st2, pm_cat2, pm_la, Option.toList, List.cons_append, List.nil_append])
          refine pm_zeq (by exact okX11_chance) rfl (fun h6 => ?_) (fun h6 => ?_)
          · have h6 := bI_z.mp h6
            refine pm_go 180 (by exact okX11_chance) rfl ?_; (try dsimp only [pm_st1, pm_st2, pm_cat2, pm_la, Option.toList, List.cons_append, List.nil_append])
            exact fin 0 (by rw [if_neg h6])
          · have h6 := bI_n.mp h6
            refine pm_go 180 (by exact okX11_chance) rfl ?_; (try dsimp only [pm_st1, pm_st2, pm_cat2, pm_la, Option.toList, List.cons_append, List.nil_append])
            exact fin own1 (by rw [if_pos h6])
    refine pm_go 9999 (by exact okX11_chance) rfl ?_; (try dsimp only [pm_st1, pm_st2, pm_cat2, pm_la, Option.toList, List.cons_append, List.nil_append])
    rw [a5]
    refine pm_ige (by exact okX11_chance) rfl (fun h1 => ?_) (fun h1 => ?_)
    · exact absurd h1 (nI_ge (by omega) (by omega))
    · refine pm_go 9999 (by exact okX11_chance) rfl ?_; (try dsimp only [pm_st1, pm_st2, pm_cat2, pm_la, Option.toList, List.cons_append, List.nil_append])
      refine pm_cs (by exact okX11_chance) (by exact okX11_has) rfl (by exact arX11_has) (t_has (d := 0) hr (k := k) (by omega)) rfl (by dsimp only; omega) rfl (Nat.le_of_ble_eq_true rfl) ⟨Nat.zero_le _, Nat.zero_le _⟩ ?_
      rintro _ _ _ _ ⟨rfl, rfl, rfl, rfl⟩ -
      refine pm_go 9999 (by exact okX11_chance) rfl ?_; (try dsimp only [pm_st1, pm_st2, pm_cat2, pm_la, Option.toList, List.cons_append, List.nil_append])
      refine pm_zeq (by exact okX11_chance) rfl (fun h2 => ?_) (fun h2 => ?_)
      · have h3 := bI_z.mp h2
        rw [if_neg h3, if_neg h3] at after
        refine pm_go 9999 (by exact okX11_chance) rfl ?_; (try dsimp only [pm_st1, pm_st2, pm_cat2, pm_la, Option.toList, List.cons_append, List.nil_append])
        rw [a4, show (10 : Int32) = nI 10 from rfl, pk_sub hwet, nI_l (by omega), lN_mul]
        refine pm_cs (by exact okX11_chance) (by exact okX11_has) rfl (by exact arX11_has) (t_has (d := 0) hr (k := k) (by omega)) rfl (by dsimp only; omega) rfl (Nat.le_of_ble_eq_true rfl) ⟨Nat.zero_le _, Nat.zero_le _⟩ ?_
        rintro _ _ _ _ ⟨rfl, rfl, rfl, rfl⟩ -
        refine pm_go 9999 (by exact okX11_chance) rfl ?_; (try dsimp only [pm_st1, pm_st2, pm_cat2, pm_la, Option.toList, List.cons_append, List.nil_append])
        refine pm_zeq (by exact okX11_chance) rfl (fun h4 => ?_) (fun h4 => ?_)
        · refine pm_go 148 (by exact okX11_chance) rfl ?_; (try dsimp only [pm_st1, pm_st2, pm_cat2, pm_la, Option.toList, List.cons_append, List.nil_append])
          exact after r _ rfl rfl
        · exact absurd (bI_n.mp h4) h3
      · have h3 := bI_n.mp h2
        rw [if_pos h3, if_pos h3] at after
        refine pm_go 9999 (by exact okX11_chance) rfl ?_; (try dsimp only [pm_st1, pm_st2, pm_cat2, pm_la, Option.toList, List.cons_append, List.nil_append])
        rw [a4, nI_l (by omega), lN_mul]
        refine pm_cs (by exact okX11_chance) (by exact okX11_has) rfl (by exact arX11_has) (t_has (d := 0) hr (k := k) (by omega)) rfl (by dsimp only; omega) rfl (Nat.le_of_ble_eq_true rfl) ⟨Nat.zero_le _, Nat.zero_le _⟩ ?_
        rintro _ _ _ _ ⟨rfl, rfl, rfl, rfl⟩ -
        refine pm_go 9999 (by exact okX11_chance) rfl ?_; (try dsimp only [pm_st1, pm_st2, pm_cat2, pm_la, Option.toList, List.cons_append, List.nil_append])
        refine pm_zeq (by exact okX11_chance) rfl (fun h4 => ?_) (fun h4 => ?_)
        · exact absurd h3 (bI_z.mp h4)
        · refine pm_go 9999 (by exact okX11_chance) rfl ?_; (try dsimp only [pm_st1, pm_st2, pm_cat2, pm_la, Option.toList, List.cons_append, List.nil_append])
          refine pm_cv (by exact okX11_chance) (by exact okX11_rained) rfl (by exact arX11_rained) (t_rained (d := 1) (n := gB z.1) (s := s) a1 hB6.2 (by omega) (by omega)) rfl rfl rfl (by dsimp only; omega) rfl (Nat.le_of_ble_eq_true rfl) ⟨Nat.zero_le _, Nat.zero_le _⟩ ?_
          rintro _ _ _ _ ⟨rfl, rfl, rfl, rfl⟩ -
          refine pm_go 148 (by exact okX11_chance) rfl ?_; (try dsimp only [pm_st1, pm_st2, pm_cat2, pm_la, Option.toList, List.cons_append, List.nil_append])
          exact after (gd_rn s (gB z.1)) _ rfl rfl
end
end
section
theorem lcmp0 {a : Nat} (ha : a < 2 ^ 63) : lg_cmp (lN a) 0 = 0 ↔ a = 0 := by
  unfold lg_cmp
  have e : ∀ b, b < 2 ^ 63 → (lN a = lN b ↔ a = b) := fun b hb => pk_lEQ ha hb
  have e0 := e 0 (by omega)
  have l0 : (0 : Int64) < lN a ↔ 0 < a := pk_lLT (a := 0) (b := a) (by omega) ha
  by_cases h : a = 0
  · subst h
    simp only [iff_true]
    rfl
  · rw [if_pos (l0.mpr (by omega))]
    exact ⟨fun q => absurd q (by decide), fun q => absurd q h⟩
section
variable {cx : pm_CX} {d n0 : Nat} {i0 i1 : Option Nat} {ex : List pm_C} {mu : pm_I} {nu : pm_J}
set_option maxRecDepth 100000 in
set_option maxHeartbeats 1000000 in
theorem M_chance_g {Q : pm_Po} {x1 : Int32} {up low G : Nat} (hup : up < 2 ^ 62) (hlow : low < 2 ^ 62) (hG : 0 < G) (kk : (x1 = 0 → Q (some (.long (lN (up / G)))) (sh_ i0 i1 ex) mu nu) ∧ (¬ x1 = 0 → Q (some (.long (lN (low / G)))) (sh_ i0 i1 ex) mu nu)) : ∀ (n b a : Nat), b ≤ n → b < 2 ^ 62 → a < 2 ^ 62 → Nat.gcd b a = G → pm_G cx (mX11_chance, d, 0, 0, n0, Q) 0 0 243 [some (.ref 19), some (.int x1), some (.long (lN up)), none, some (.long (lN low)), none, some (.long (lN a)), none, some (.long (lN b)), none, none, none, none] [] (sh_ i0 i1 ex) mu nu := by
  intro n
  induction n with
  | zero =>
    intro b a hb hb2 ha2 hg
    have hb : b = 0 := by omega
    subst hb
    rw [Nat.gcd_zero_left] at hg
    subst hg
    have hne : ¬ lN a = 0 := fun q => by
      have := (pk_lEQ (a := a) (b := 0) (by omega) (by omega)).mp q
      omega
    refine pm_go 9999 (by exact okX11_chance) rfl ?_; (try dsimp only [pm_st1, pm_st2, pm_cat2, pm_la, Option.toList, List.cons_append, List.nil_append])
    refine pm_zeq (by exact okX11_chance) rfl (fun h1 => ?_) (fun h1 => ?_)
    · refine pm_go 9999 (by exact okX11_chance) rfl ?_; (try dsimp only [pm_st1, pm_st2, pm_cat2, pm_la, Option.toList, List.cons_append, List.nil_append])
      refine pm_zne (by exact okX11_chance) rfl (fun h2 => ?_) (fun h2 => ?_)
      · refine pm_go 9999 (by exact okX11_chance) rfl ?_; (try dsimp only [pm_st1, pm_st2, pm_cat2, pm_la, Option.toList, List.cons_append, List.nil_append])
        refine pm_ldv (by exact okX11_chance) rfl (hne) ?_
        rw [pk_lDiv (by omega) hG (by omega)]
        refine pm_go 9999 (by exact okX11_chance) rfl ?_; (try dsimp only [pm_st1, pm_st2, pm_cat2, pm_la, Option.toList, List.cons_append, List.nil_append])
        refine pm_rl (by exact okX11_chance) rfl rfl (Nat.le_refl _) (Nat.le_refl _) (kk.2 h2)
      · refine pm_go 9999 (by exact okX11_chance) rfl ?_; (try dsimp only [pm_st1, pm_st2, pm_cat2, pm_la, Option.toList, List.cons_append, List.nil_append])
        refine pm_ldv (by exact okX11_chance) rfl (hne) ?_
        rw [pk_lDiv (by omega) hG (by omega)]
        refine pm_go 9999 (by exact okX11_chance) rfl ?_; (try dsimp only [pm_st1, pm_st2, pm_cat2, pm_la, Option.toList, List.cons_append, List.nil_append])
        refine pm_rl (by exact okX11_chance) rfl rfl (Nat.le_refl _) (Nat.le_refl _) (kk.1 h2)
    · exact absurd ((lcmp0 (by omega)).mpr rfl) h1
  | succ n ih =>
    intro b a hb hb2 ha2 hg
    rcases Nat.eq_zero_or_pos b with q | q
    · exact ih b a (by omega) hb2 ha2 hg
    · have hne : ¬ lN b = 0 := fun w => by
        have := (pk_lEQ (a := b) (b := 0) (by omega) (by omega)).mp w
        omega
      have hmod := Nat.mod_lt a q
      refine pm_go 9999 (by exact okX11_chance) rfl ?_; (try dsimp only [pm_st1, pm_st2, pm_cat2, pm_la, Option.toList, List.cons_append, List.nil_append])
      refine pm_zeq (by exact okX11_chance) rfl (fun h1 => ?_) (fun h1 => ?_)
      · have := (lcmp0 (by omega)).mp h1
        omega
      · refine pm_go 9999 (by exact okX11_chance) rfl ?_; (try dsimp only [pm_st1, pm_st2, pm_cat2, pm_la, Option.toList, List.cons_append, List.nil_append])
        refine pm_lrm (by exact okX11_chance) rfl (hne) ?_
        rw [pk_lRem (by omega) q (by omega)]
        refine pm_go 243 (by exact okX11_chance) rfl ?_; (try dsimp only [pm_st1, pm_st2, pm_cat2, pm_la, Option.toList, List.cons_append, List.nil_append])
        refine pm_G.fg [false, false, false, false, false, false, false, false, false, false, true, false, false] ?_; dsimp only [pm_fg]
        refine ih (a % b) b (by omega) (by omega) hb2 ?_
        rw [← Nat.gcd_rec]
        exact hg
set_option maxRecDepth 100000 in
set_option maxHeartbeats 1000000 in
theorem M_chance_o {Q : pm_Po} {z : mS} {x1 : Int32} {lo : Int64} (hz : zOK z) (h : MA z mu) (hw : pd_if (gB z.1) 0 z.2.1 = none) (hd : 2 ≤ d) (kk : pm_G cx (mX11_chance, d, 0, 0, n0, Q) 0 0 236 [some (.ref 19), some (.int x1), some (.long (lN (ch_up z.1 z.2.1))), none, some (.long lo), none, none, none, none, none, none, none, none] [] (sh_ i0 i1 ex) mu nu) : ∀ (j k : Nat), k + j = 2 ^ z.2.1.length → pm_G cx (mX11_chance, d, 0, 0, n0, Q) 0 0 58 [some (.ref 19), some (.int x1), some (.long (lN (fb_sm (fun rains => ch_go (gL z.1) (gB z.1) (gW z.1) (gC z.1) rains z.2.1 0 (gR z.1) (gM z.1) 1) k))), none, some (.long lo), none, some (.int (nI k)), none, none, none, none, none, none] [] (sh_ i0 i1 ex) mu nu := by
  obtain ⟨⟨a1, a2, a3, a4, a5, a6, a7, a8, a9, b1, b2, b3, b4, b5⟩, c1, c2⟩ := id h
  obtain ⟨⟨hB6, -, -, -, -, -, -, hR, -⟩, hp, -⟩ := id hz
  obtain ⟨hlen, hco, hpos⟩ := pd_if_ok z.2.1 0 hw (by omega)
  have hl6 : z.2.1.length ≤ 6 := by omega
  have hpw : 2 ^ z.2.1.length ≤ 2 ^ 6 := Nat.pow_le_pow_right (by omega) hl6
  intro j
  induction j with
  | zero =>
    intro k hk
    have hk : k = 2 ^ z.2.1.length := by omega
    subst hk
    refine pm_go 9999 (by exact okX11_chance) rfl ?_; (try dsimp only [pm_st1, pm_st2, pm_cat2, pm_la, Option.toList, List.cons_append, List.nil_append])
    rw [a5, nI_shl1 (by omega)]
    refine pm_ige (by exact okX11_chance) rfl (fun h1 => ?_) (fun h1 => ?_)
    · refine pm_G.fg [false, false, false, false, false, false, true, false, false, false, false, false, false] ?_; dsimp only [pm_fg]
      exact kk
    · exact absurd (nI_le (Nat.le_refl _) (by omega)) h1
  | succ j ih =>
    intro k hk
    refine pm_go 9999 (by exact okX11_chance) rfl ?_; (try dsimp only [pm_st1, pm_st2, pm_cat2, pm_la, Option.toList, List.cons_append, List.nil_append])
    rw [a5, nI_shl1 (by omega)]
    refine pm_ige (by exact okX11_chance) rfl (fun h1 => ?_) (fun h1 => ?_)
    · exact absurd h1 (nI_ge (by omega) (by omega))
    · refine pm_go 87 (by exact okX11_chance) rfl ?_; (try dsimp only [pm_st1, pm_st2, pm_cat2, pm_la, Option.toList, List.cons_append, List.nil_append])
      rw [a6, a7]
      refine pm_G.cast (L' := [some (.ref 19), some (.int x1), some (.long (lN (fb_sm (fun rains => ch_go (gL z.1) (gB z.1) (gW z.1) (gC z.1) rains z.2.1 0 (gR z.1) (gM z.1) 1) k))), none, some (.long lo), none, some (.int (nI k)), some (.int (nI (md_r7 (gR z.1)))), some (.int (nI (gM z.1))), some (.long (lN 1)), none, some (.int (nI 0)), none]) (S' := []) (mu' := mu) (nu' := nu) ?_ rfl rfl rfl rfl
      refine M_chance_in hz h hw (by omega) hd z.2.1 0 (gR z.1) (gM z.1) 1 rfl (by omega) hR (fun L7 L8 L12 => ?_)
      refine pm_go 58 (by exact okX11_chance) rfl ?_; (try dsimp only [pm_st1, pm_st2, pm_cat2, pm_la, Option.toList, List.cons_append, List.nil_append])
      rw [lN_add, nI_1]
      refine pm_G.fg [false, false, false, false, false, false, false, true, true, true, true, true, true] ?_; dsimp only [pm_fg]
      have := ih (k + 1) (by omega)
      rw [fb_sm_succ] at this
      exact this
set_option maxRecDepth 100000 in
set_option maxHeartbeats 1000000 in
theorem M_chance_l {Q : pm_Po} {pd : List Nat} {x1 : Int32} (hN : mu 19 6 = nI pd.length) (hp : pd.length ≤ 6) (kk : pm_G cx (mX11_chance, d, 0, 0, n0, Q) 0 0 55 [some (.ref 19), some (.int x1), some (.long 0), none, some (.long (lN (10 ^ pd.length))), none, none, none, none, none, none, none, none] [] (sh_ i0 i1 ex) mu nu) : ∀ (j k : Nat), k + j = pd.length → pm_G cx (mX11_chance, d, 0, 0, n0, Q) 0 0 32 [some (.ref 19), some (.int x1), some (.long 0), none, some (.long (lN (10 ^ k))), none, some (.int (nI k)), none, none, none, none, none, none] [] (sh_ i0 i1 ex) mu nu := by
  intro j
  induction j with
  | zero =>
    intro k hk
    have hk : k = pd.length := by omega
    subst hk
    refine pm_go 9999 (by exact okX11_chance) rfl ?_; (try dsimp only [pm_st1, pm_st2, pm_cat2, pm_la, Option.toList, List.cons_append, List.nil_append])
    rw [hN]
    refine pm_ige (by exact okX11_chance) rfl (fun h1 => ?_) (fun h1 => ?_)
    · refine pm_G.fg [false, false, false, false, false, false, true, false, false, false, false, false, false] ?_; dsimp only [pm_fg]
      exact kk
    · exact absurd (nI_le (Nat.le_refl _) (by omega)) h1
  | succ j ih =>
    intro k hk
    refine pm_go 9999 (by exact okX11_chance) rfl ?_; (try dsimp only [pm_st1, pm_st2, pm_cat2, pm_la, Option.toList, List.cons_append, List.nil_append])
    rw [hN]
    refine pm_ige (by exact okX11_chance) rfl (fun h1 => ?_) (fun h1 => ?_)
    · exact absurd h1 (nI_ge (by omega) (by omega))
    · refine pm_go 32 (by exact okX11_chance) rfl ?_; (try dsimp only [pm_st1, pm_st2, pm_cat2, pm_la, Option.toList, List.cons_append, List.nil_append])
      rw [nI_1, show (10 : Int64) = lN 10 from rfl, lN_mul, ← Nat.pow_succ]
      exact ih (k + 1) (by omega)
theorem fb_sm_bd (f : Nat → Nat) (M : Nat) (h : ∀ k, f k ≤ M) : ∀ n, fb_sm f n ≤ n * M := by
  intro n
  induction n with
  | zero => rw [Nat.zero_mul]; exact Nat.le_refl _
  | succ n ih => rw [fb_sm_succ, Nat.succ_mul]; have := h n; omega
theorem ch_up_le {g : gS} {pd : List Nat} (hw : gW g ≤ 10) (hl : pd.length ≤ 6) : ch_up g pd ≤ 64 * 1000000 := by
  have e2 : 2 ^ pd.length ≤ 64 := Nat.le_trans (Nat.pow_le_pow_right (n := 2) (by omega) hl) (by omega)
  have e3 : 10 ^ pd.length ≤ 1000000 := Nat.le_trans (Nat.pow_le_pow_right (n := 10) (by omega) hl) (by omega)
  refine Nat.le_trans (fb_sm_bd _ 1000000 (fun k => ?_) _) (Nat.mul_le_mul_right _ e2)
  refine Nat.le_trans (ch_go_le hw _ _ _ _ _) ?_
  rw [Nat.one_mul]
  exact e3
set_option maxRecDepth 100000 in
set_option maxHeartbeats 1000000 in
theorem M_chance {z : mS} (p : Int32) (hz : zOK z) (h : MA z mu) (hd : 2 ≤ d) : pm_T cx mX11_chance d 0 0 [.ref 19, .int p] (sh_ i0 i1 ex) mu nu (mQ (.long (sp_chance z p)) z i0 i1 ex mu) := by
  obtain ⟨⟨a1, a2, a3, a4, a5, a6, a7, a8, a9, b1, b2, b3, b4, b5⟩, c1, c2⟩ := id h
  obtain ⟨hg, hp, -⟩ := id hz
  have hB6 := hg.1
  have hp1 := hp.1
  unfold sp_chance
  refine pm_enterN 11 (by exact okX11_chance) rfl ?_; dsimp only [pm_la, pm_cat2, List.replicate, List.cons_append, List.nil_append, List.append_nil]
  refine pm_go 9999 (by exact okX11_chance) rfl ?_; (try dsimp only [pm_st1, pm_st2, pm_cat2, pm_la, Option.toList, List.cons_append, List.nil_append])
  refine pm_cs (by exact okX11_chance) (by exact okX11_in) rfl (by exact arX11_in) (t_in (d := 0) p 0 1) rfl (by dsimp only; omega) rfl (Nat.le_of_ble_eq_true rfl) ⟨Nat.zero_le _, Nat.zero_le _⟩ ?_
  rintro _ _ _ _ ⟨rfl, rfl, rfl, rfl⟩ -
  refine pm_go 9999 (by exact okX11_chance) rfl ?_; (try dsimp only [pm_st1, pm_st2, pm_cat2, pm_la, Option.toList, List.cons_append, List.nil_append])
  refine pm_zne (by exact okX11_chance) rfl (fun h1 => ?_) (fun h1 => ?_)
  · have h1 := bI_n.mp h1
    rw [if_neg (fun q => q h1)]
    refine pm_go 9999 (by exact okX11_chance) rfl ?_; (try dsimp only [pm_st1, pm_st2, pm_cat2, pm_la, Option.toList, List.cons_append, List.nil_append])
    refine pm_cv (by exact okX11_chance) (by exact okX11_wishFault) rfl (by exact arX11_wishFault) (t_wishFault (d := 1) a1 hB6 a5 b3 hp (by omega)) rfl rfl rfl (by dsimp only; omega) rfl (Nat.le_of_ble_eq_true rfl) ⟨Nat.zero_le _, Nat.zero_le _⟩ ?_
    rintro _ _ _ _ ⟨rfl, rfl, rfl, rfl⟩ -
    refine pm_go 9999 (by exact okX11_chance) rfl ?_; (try dsimp only [pm_st1, pm_st2, pm_cat2, pm_la, Option.toList, List.cons_append, List.nil_append])
    have eif := nO_neg (o := pd_if (gB z.1) 0 z.2.1) (n := 49) (fun b hb => by have := pd_if_lt _ _ _ hb; omega) (by omega)
    refine pm_zlt (by exact okX11_chance) rfl (fun h2 => ?_) (fun h2 => ?_)
    · have h2 := eif.mp h2
      rw [if_neg (fun q => q h2)]
      obtain ⟨hlen, hco, hpos⟩ := pd_if_ok z.2.1 0 h2 (by omega)
      have hl6 : z.2.1.length ≤ 6 := by omega
      have hup := ch_up_le (g := z.1) (pd := z.2.1) hg.2.2.2.1 hl6
      have e3 : 10 ^ z.2.1.length ≤ 1000000 := Nat.le_trans (Nat.pow_le_pow_right (n := 10) (by omega) hl6) (by omega)
      have e4 : 0 < 10 ^ z.2.1.length := Nat.pow_pos (by omega)
      refine pm_go 32 (by exact okX11_chance) rfl ?_; (try dsimp only [pm_st1, pm_st2, pm_cat2, pm_la, Option.toList, List.cons_append, List.nil_append])
      refine pm_G.cast (L' := [some (.ref 19), some (.int p), some (.long 0), none, some (.long (lN (10 ^ 0))), none, some (.int (nI 0)), none, none, none, none, none, none]) (S' := []) (mu' := mu) (nu' := nu) ?_ rfl rfl rfl rfl
      refine M_chance_l a5 hl6 ?_ z.2.1.length 0 (by omega)
      refine pm_go 58 (by exact okX11_chance) rfl ?_; (try dsimp only [pm_st1, pm_st2, pm_cat2, pm_la, Option.toList, List.cons_append, List.nil_append])
      refine pm_G.cast (L' := [some (.ref 19), some (.int p), some (.long (lN (fb_sm (fun rains => ch_go (gL z.1) (gB z.1) (gW z.1) (gC z.1) rains z.2.1 0 (gR z.1) (gM z.1) 1) 0))), none, some (.long (lN (10 ^ z.2.1.length))), none, some (.int (nI 0)), none, none, none, none, none, none]) (S' := []) (mu' := mu) (nu' := nu) ?_ rfl rfl rfl rfl
      refine M_chance_o hz h h2 hd ?_ (2 ^ z.2.1.length) 0 (by omega)
      refine pm_go 243 (by exact okX11_chance) rfl ?_; (try dsimp only [pm_st1, pm_st2, pm_cat2, pm_la, Option.toList, List.cons_append, List.nil_append])
      refine M_chance_g (G := Nat.gcd (10 ^ z.2.1.length) (ch_up z.1 z.2.1)) (by omega) (by omega) (Nat.gcd_pos_of_pos_left _ e4) ⟨fun q => ⟨by rw [if_pos q], rfl, h, fM.rf⟩, fun q => ⟨by rw [if_neg q], rfl, h, fM.rf⟩⟩ (10 ^ z.2.1.length) (10 ^ z.2.1.length) (ch_up z.1 z.2.1) (Nat.le_refl _) (by omega) (by omega) rfl
    · have h2 : pd_if (gB z.1) 0 z.2.1 ≠ none := fun q => h2 (eif.mpr q)
      rw [if_pos h2]
      refine pm_go 9999 (by exact okX11_chance) rfl ?_; (try dsimp only [pm_st1, pm_st2, pm_cat2, pm_la, Option.toList, List.cons_append, List.nil_append])
      refine pm_rl (by exact okX11_chance) rfl rfl (Nat.le_refl _) (Nat.le_refl _) (⟨rfl, rfl, h, fM.rf⟩)
  · have h1 := bI_z.mp h1
    rw [if_pos h1]
    refine pm_go 9999 (by exact okX11_chance) rfl ?_; (try dsimp only [pm_st1, pm_st2, pm_cat2, pm_la, Option.toList, List.cons_append, List.nil_append])
    refine pm_rl (by exact okX11_chance) rfl rfl (Nat.le_refl _) (Nat.le_refl _) (⟨rfl, rfl, h, fM.rf⟩)
end
end
section
/-! ===== the reference's turns ===== -/
/-- the better of two for whose turn it is -/
def tn_k (d : Nat) (acc : Option Nat) (v : Nat) : Nat := match acc with
  | none => v
  | some a => if d % 2 = 0 then (if v < a then v else a) else (if a < v then v else a)
theorem tn_k_some {d a v : Nat} : tn_k d (some a) v = if d % 2 = 0 then (if v < a then v else a) else (if a < v then v else a) := rfl
/-- a MORNING -/
def gd_mo (law : Nat) (r : List Nat) (s : Nat) : List Nat × Nat := match gd_nx law r with
  | none => (r, s)
  | some b => (r.filter (fun x => x != b), s ||| 2 ^ b)
/-- some BED can be watered -/
def gd_cw (gate : Nat) (pa : Nat → Option Nat) (r : List Nat) (s : Nat) : Nat → Bool
  | 0 => false
  | n + 1 => gd_cw gate pa r s n || decide (gd_wy gate pa r s n = 0)
section
variable {cx : pm_CX} {d0 n0 : Nat} {i0 i1 : Option Nat} {ex : List pm_C} {mu : pm_I} {nu : pm_J}
set_option maxRecDepth 100000 in
set_option maxHeartbeats 1000000 in
theorem t_take {d v : Nat} {acc : Option Nat} (hd : d < 16) (hv : v < 100) (h37 : mu 37 d = nO acc) (ha : ∀ a, acc = some a → a < 100) : pm_T cx mX11_take d0 0 0 [.ref 19, .int (nI d), .int (nI v)] (sh_ i0 i1 ex) mu nu (fun r sg' mu' nu' => r = none ∧ sg' = sh_ i0 i1 ex ∧ mu' = pm_up mu 37 d (nI (tn_k d acc v)) ∧ nu' = nu) := by
  have fin : ∀ w, w = tn_k d acc v → pm_G cx (mX11_take, d0, 0, 0, (sh_ i0 i1 ex).length, fun r sg' mu' nu' => r = none ∧ sg' = sh_ i0 i1 ex ∧ mu' = pm_up mu 37 d (nI (tn_k d acc v)) ∧ nu' = nu) 0 0 63 [some (.ref 19), some (.int (nI d)), some (.int (nI v)), none] [.int (nI w), .int (nI d), .ref 37] (sh_ i0 i1 ex) mu nu := by
    intro w hw
    refine pm_ias (by exact okX11_take) rfl rfl (vp_in_nI hd (by omega)) ?_
    rw [nI_clamp (by omega)]
    refine pm_go 9999 (by exact okX11_take) rfl ?_; (try dsimp only [pm_st1, pm_st2, pm_cat2, pm_la, Option.toList, List.cons_append, List.nil_append])
    refine pm_rv (by exact okX11_take) rfl rfl (Nat.le_refl _) (Nat.le_refl _) (⟨rfl, rfl, by rw [hw], rfl⟩)
  have yes : v = tn_k d acc v → pm_G cx (mX11_take, d0, 0, 0, (sh_ i0 i1 ex).length, fun r sg' mu' nu' => r = none ∧ sg' = sh_ i0 i1 ex ∧ mu' = pm_up mu 37 d (nI (tn_k d acc v)) ∧ nu' = nu) 0 0 38 [some (.ref 19), some (.int (nI d)), some (.int (nI v)), none] [] (sh_ i0 i1 ex) mu nu := by
    intro hw
    refine pm_go 9999 (by exact okX11_take) rfl ?_; (try dsimp only [pm_st1, pm_st2, pm_cat2, pm_la, Option.toList, List.cons_append, List.nil_append])
    refine pm_zeq (by exact okX11_take) rfl (fun h1 => ?_) (fun h1 => ?_)
    · exact absurd h1 (by decide)
    · refine pm_go 63 (by exact okX11_take) rfl ?_; (try dsimp only [pm_st1, pm_st2, pm_cat2, pm_la, Option.toList, List.cons_append, List.nil_append])
      refine pm_G.fg [false, false, false, true] ?_; dsimp only [pm_fg]
      exact fin v hw
  have no : ∀ a, acc = some a → a = tn_k d acc v → pm_G cx (mX11_take, d0, 0, 0, (sh_ i0 i1 ex).length, fun r sg' mu' nu' => r = none ∧ sg' = sh_ i0 i1 ex ∧ mu' = pm_up mu 37 d (nI (tn_k d acc v)) ∧ nu' = nu) 0 0 42 [some (.ref 19), some (.int (nI d)), some (.int (nI v)), none] [] (sh_ i0 i1 ex) mu nu := by
    intro a hacc hw
    refine pm_go 9999 (by exact okX11_take) rfl ?_; (try dsimp only [pm_st1, pm_st2, pm_cat2, pm_la, Option.toList, List.cons_append, List.nil_append])
    refine pm_zeq (by exact okX11_take) rfl (fun h1 => ?_) (fun h1 => ?_)
    · refine pm_go 9999 (by exact okX11_take) rfl ?_; (try dsimp only [pm_st1, pm_st2, pm_cat2, pm_la, Option.toList, List.cons_append, List.nil_append])
      refine pm_ial (by exact okX11_take) rfl rfl (vp_in_nI hd (by omega)) ?_
      rw [nI_clamp (by omega), h37, hacc, nO_some, ← hacc]
      refine pm_G.fg [false, false, false, true] ?_; dsimp only [pm_fg]
      exact fin a hw
    · exact absurd rfl h1
  refine pm_enterN 1 (by exact okX11_take) rfl ?_; dsimp only [pm_la, pm_cat2, List.replicate, List.cons_append, List.nil_append, List.append_nil]
  refine pm_go 9999 (by exact okX11_take) rfl ?_; (try dsimp only [pm_st1, pm_st2, pm_cat2, pm_la, Option.toList, List.cons_append, List.nil_append])
  refine pm_ial (by exact okX11_take) rfl rfl (vp_in_nI hd (by omega)) ?_
  rw [nI_clamp (by omega), h37]
  cases hacc : acc with
  | none =>
    rw [hacc] at yes
    refine pm_zlt (by exact okX11_take) rfl (fun h1 => ?_) (fun h1 => ?_)
    · exact yes rfl
    · exact absurd (by decide) h1
  | some a =>
    have ha2 := ha a hacc
    rw [hacc] at yes no h37
    rw [nO_some]
    refine pm_zlt (by exact okX11_take) rfl (fun h1 => ?_) (fun h1 => ?_)
    · exact absurd h1 (nI_pos (by omega))
    · refine pm_go 9999 (by exact okX11_take) rfl ?_; (try dsimp only [pm_st1, pm_st2, pm_cat2, pm_la, Option.toList, List.cons_append, List.nil_append])
      refine pm_rem (by exact okX11_take) rfl (by decide) ?_
      rw [show (2 : Int32) = nI 2 from rfl, pk_rem (by omega) (by omega) (by omega)]
      refine pm_zne (by exact okX11_take) rfl (fun h2 => ?_) (fun h2 => ?_)
      · have h3 : ¬ d % 2 = 0 := fun q => h2 (by rw [q]; rfl)
        refine pm_go 9999 (by exact okX11_take) rfl ?_; (try dsimp only [pm_st1, pm_st2, pm_cat2, pm_la, Option.toList, List.cons_append, List.nil_append])
        refine pm_ial (by exact okX11_take) rfl rfl (vp_in_nI hd (by omega)) ?_
        rw [nI_clamp (by omega), h37, nO_some]
        refine pm_ile (by exact okX11_take) rfl (fun h4 => ?_) (fun h4 => ?_)
        · have h5 := (nI_leI (by omega) (by omega)).mp h4
          exact no a rfl (by rw [tn_k_some, if_neg h3, if_neg (by omega)])
        · have h5 : a < v := by
            rcases Nat.lt_or_ge a v with q | q
            · exact q
            · exact absurd (nI_le q (by omega)) h4
          exact yes (by rw [tn_k_some, if_neg h3, if_pos h5])
      · have h3 : d % 2 = 0 := (nI_eq (b := 0) (by omega) (by omega)).mp h2
        refine pm_go 9999 (by exact okX11_take) rfl ?_; (try dsimp only [pm_st1, pm_st2, pm_cat2, pm_la, Option.toList, List.cons_append, List.nil_append])
        refine pm_ial (by exact okX11_take) rfl rfl (vp_in_nI hd (by omega)) ?_
        rw [nI_clamp (by omega), h37, nO_some]
        refine pm_ige (by exact okX11_take) rfl (fun h4 => ?_) (fun h4 => ?_)
        · have h5 := (nI_leI (by omega) (by omega)).mp h4
          exact no a rfl (by rw [tn_k_some, if_pos h3, if_neg (by omega)])
        · have h5 : v < a := by
            rcases Nat.lt_or_ge v a with q | q
            · exact q
            · exact absurd (nI_le q (by omega)) h4
          refine pm_go 38 (by exact okX11_take) rfl ?_; (try dsimp only [pm_st1, pm_st2, pm_cat2, pm_la, Option.toList, List.cons_append, List.nil_append])
          exact yes (by rw [tn_k_some, if_pos h3, if_pos h5])
set_option maxRecDepth 100000 in
set_option maxHeartbeats 1000000 in
theorem t_canWater_l {Q : pm_Po} {d B gate s : Nat} {pa : Nat → Option Nat} {r : List Nat} (hd : d < 16) (hB : mu 19 0 = nI B) (hB6 : B ≤ 6) (hG : mu 19 4 = nI gate) (hg : gate ≤ 6) (hPa : ∀ k, k < 6 → mu 21 k = nO (pa k)) (hpa : ∀ k o, k < 6 → pa k = some o → o < 6) (h34 : mu 34 d = nI (md_r7 r)) (h35 : mu 35 d = nI s) (hs : s < 2 ^ 31) (hok : md_ok r) (hln : r.length ≤ 6) (hd0 : 2 ≤ d0) : ∀ (j k : Nat), k + j = B → Q (some (.int (bI (gd_cw gate pa r s B = true)))) (sh_ i0 i1 ex) mu nu → pm_G cx (mX11_canWater, d0, 0, 0, n0, Q) 0 0 4 [some (.ref 19), some (.int (nI d)), some (.int (bI (gd_cw gate pa r s k = true))), some (.int (nI k))] [] (sh_ i0 i1 ex) mu nu := by
  intro j
  induction j with
  | zero =>
    intro k hk hq
    have hk : k = B := by omega
    subst hk
    refine pm_go 9999 (by exact okX11_canWater) rfl ?_; (try dsimp only [pm_st1, pm_st2, pm_cat2, pm_la, Option.toList, List.cons_append, List.nil_append])
    rw [hB]
    refine pm_ige (by exact okX11_canWater) rfl (fun h1 => ?_) (fun h1 => ?_)
    · refine pm_go 9999 (by exact okX11_canWater) rfl ?_; (try dsimp only [pm_st1, pm_st2, pm_cat2, pm_la, Option.toList, List.cons_append, List.nil_append])
      exact pm_ri (by exact okX11_canWater) rfl rfl bI_w (Nat.le_refl _) (Nat.le_refl _) hq
    · exact absurd (nI_le (Nat.le_refl _) (by omega)) h1
  | succ j ih =>
    intro k hk hq
    have nx := ih (k + 1) (by omega) hq
    refine pm_go 9999 (by exact okX11_canWater) rfl ?_; (try dsimp only [pm_st1, pm_st2, pm_cat2, pm_la, Option.toList, List.cons_append, List.nil_append])
    rw [hB]
    refine pm_ige (by exact okX11_canWater) rfl (fun h1 => ?_) (fun h1 => ?_)
    · exact absurd h1 (nI_ge (by omega) (by omega))
    · refine pm_go 9999 (by exact okX11_canWater) rfl ?_; (try dsimp only [pm_st1, pm_st2, pm_cat2, pm_la, Option.toList, List.cons_append, List.nil_append])
      refine pm_zne (by exact okX11_canWater) rfl (fun h2 => ?_) (fun h2 => ?_)
      · have h3 := bI_n.mp h2
        rw [bI_1 (show gd_cw gate pa r s (k + 1) = true by simp only [gd_cw]; rw [h3]; rfl)] at nx
        refine pm_go 4 (by exact okX11_canWater) rfl ?_; (try dsimp only [pm_st1, pm_st2, pm_cat2, pm_la, Option.toList, List.cons_append, List.nil_append])
        rw [nI_1]
        exact nx
      · have h3 := bI_z.mp h2
        have h3 : gd_cw gate pa r s k = false := by simpa using h3
        refine pm_go 9999 (by exact okX11_canWater) rfl ?_; (try dsimp only [pm_st1, pm_st2, pm_cat2, pm_la, Option.toList, List.cons_append, List.nil_append])
        refine pm_ial (by exact okX11_canWater) rfl rfl (vp_in_nI hd (by omega)) ?_
        rw [nI_clamp (by omega), h34]
        refine pm_go 9999 (by exact okX11_canWater) rfl ?_; (try dsimp only [pm_st1, pm_st2, pm_cat2, pm_la, Option.toList, List.cons_append, List.nil_append])
        refine pm_ial (by exact okX11_canWater) rfl rfl (vp_in_nI hd (by omega)) ?_
        rw [nI_clamp (by omega), h35]
        refine pm_go 9999 (by exact okX11_canWater) rfl ?_; (try dsimp only [pm_st1, pm_st2, pm_cat2, pm_la, Option.toList, List.cons_append, List.nil_append])
        refine pm_cv (by exact okX11_canWater) (by exact okX11_whyNot) rfl (by exact arX11_whyNot) (t_whyNot (d := 1) (gate := gate) (pa := pa) (b := k) hG hg hPa hpa hs (by omega) hok hln (by omega)) rfl rfl rfl (by dsimp only; omega) rfl (Nat.le_of_ble_eq_true rfl) ⟨Nat.zero_le _, Nat.zero_le _⟩ ?_
        rintro _ _ _ _ ⟨rfl, rfl, rfl, rfl⟩ -
        have hwl := gd_wy_le (gate := gate) (pa := pa) (r := r) (s := s) (b := k)
        refine pm_go 9999 (by exact okX11_canWater) rfl ?_; (try dsimp only [pm_st1, pm_st2, pm_cat2, pm_la, Option.toList, List.cons_append, List.nil_append])
        refine pm_zne (by exact okX11_canWater) rfl (fun h4 => ?_) (fun h4 => ?_)
        · have h5 : ¬ gd_wy gate pa r s k = 0 := fun q => h4 (by rw [q]; rfl)
          rw [bI_0 (show ¬ gd_cw gate pa r s (k + 1) = true by simp only [gd_cw]; rw [h3, decide_eq_false h5]; decide)] at nx
          refine pm_go 4 (by exact okX11_canWater) rfl ?_; (try dsimp only [pm_st1, pm_st2, pm_cat2, pm_la, Option.toList, List.cons_append, List.nil_append])
          rw [nI_1]
          exact nx
        · have h5 : gd_wy gate pa r s k = 0 := (nI_eq (b := 0) (by omega) (by omega)).mp h4
          rw [bI_1 (show gd_cw gate pa r s (k + 1) = true by simp only [gd_cw]; rw [decide_eq_true h5, Bool.or_true])] at nx
          refine pm_go 4 (by exact okX11_canWater) rfl ?_; (try dsimp only [pm_st1, pm_st2, pm_cat2, pm_la, Option.toList, List.cons_append, List.nil_append])
          rw [nI_1]
          exact nx
set_option maxRecDepth 100000 in
set_option maxHeartbeats 1000000 in
theorem t_canWater {d B gate s : Nat} {pa : Nat → Option Nat} {r : List Nat} (hd : d < 16) (hB : mu 19 0 = nI B) (hB6 : B ≤ 6) (hG : mu 19 4 = nI gate) (hg : gate ≤ 6) (hPa : ∀ k, k < 6 → mu 21 k = nO (pa k)) (hpa : ∀ k o, k < 6 → pa k = some o → o < 6) (h34 : mu 34 d = nI (md_r7 r)) (h35 : mu 35 d = nI s) (hs : s < 2 ^ 31) (hok : md_ok r) (hln : r.length ≤ 6) (hd0 : 2 ≤ d0) : pm_T cx mX11_canWater d0 0 0 [.ref 19, .int (nI d)] (sh_ i0 i1 ex) mu nu (pm_ret (some (.int (bI (gd_cw gate pa r s B = true)))) (sh_ i0 i1 ex) mu nu) := by
  refine pm_enterN 2 (by exact okX11_canWater) rfl ?_; dsimp only [pm_la, pm_cat2, List.replicate, List.cons_append, List.nil_append, List.append_nil]
  refine pm_go 4 (by exact okX11_canWater) rfl ?_; (try dsimp only [pm_st1, pm_st2, pm_cat2, pm_la, Option.toList, List.cons_append, List.nil_append])
  refine pm_G.cast (L' := [some (.ref 19), some (.int (nI d)), some (.int (bI (gd_cw gate pa r s 0 = true))), some (.int (nI 0))]) (S' := []) (mu' := mu) (nu' := nu) ?_ rfl rfl rfl rfl
  exact t_canWater_l hd hB hB6 hG hg hPa hpa h34 h35 hs hok hln hd0 B 0 (by omega) ⟨rfl, rfl, rfl, rfl⟩
/-- the next place of the reference's stack, anew -/
def tn_w (mu : pm_I) (d : Nat) (x : List Nat × Nat) : pm_I := pm_up (pm_up (pm_up (pm_up mu 34 (d + 1) (nI (md_r7 x.1))) 35 (d + 1) (nI x.2)) 36 (d + 1) 0) 37 (d + 1) (-6)
/-- what is watered; none: nothing -/
def tn_o (r : List Nat) (o : Option Nat) : List Nat := match o with
  | none => r
  | some b => b :: r.filter (fun x => x != b)
set_option maxRecDepth 100000 in
set_option maxHeartbeats 1000000 in
theorem t_wake {d s law : Nat} {o : Option Nat} {r : List Nat} {b : Int32} (hd : d + 1 < 16) (hL : mu 19 3 = nI law) (hlaw : law ≤ 2) (h34 : mu 34 d = nI (md_r7 r)) (h35 : mu 35 d = nI s) (hs : s < 64) (hok : md_ok r) (hln : r.length ≤ 6) (hb : b = (match o with
    | none => -1
    | some x => nI x)) (ho : ∀ x, o = some x → x < 6) (hln2 : (tn_o r o).length ≤ 6) (hd0 : 2 ≤ d0) : pm_T cx mX11_wake d0 0 0 [.ref 19, .int (nI d), .int b] (sh_ i0 i1 ex) mu nu (fun v sg' mu' nu' => v = none ∧ sg' = sh_ i0 i1 ex ∧ mu' = tn_w mu d (gd_mo law (tn_o r o) s) ∧ nu' = nu) := by
  have hok2 : md_ok (tn_o r o) := by
    cases o with
    | none => exact hok
    | some x =>
      intro y hy
      rcases List.mem_cons.mp hy with rfl | hy
      · exact ho _ rfl
      · exact hok y (List.mem_filter.mp hy).1
  have main : pm_G cx (mX11_wake, d0, 0, 0, (sh_ i0 i1 ex).length, fun v sg' mu' nu' => v = none ∧ sg' = sh_ i0 i1 ex ∧ mu' = tn_w mu d (gd_mo law (tn_o r o) s) ∧ nu' = nu) 0 0 23 [some (.ref 19), some (.int (nI d)), some (.int b), none, none, none] [.int (nI (md_r7 (tn_o r o)))] (sh_ i0 i1 ex) mu nu := by
    generalize tn_o r o = r1 at hok2 hln2
    refine pm_go 9999 (by exact okX11_wake) rfl ?_; (try dsimp only [pm_st1, pm_st2, pm_cat2, pm_la, Option.toList, List.cons_append, List.nil_append])
    refine pm_ial (by exact okX11_wake) rfl rfl (vp_in_nI (by omega) (by omega)) ?_
    rw [nI_clamp (by omega), h35]
    refine pm_go 9999 (by exact okX11_wake) rfl ?_; (try dsimp only [pm_st1, pm_st2, pm_cat2, pm_la, Option.toList, List.cons_append, List.nil_append])
    refine pm_cv (by exact okX11_wake) (by exact okX11_nextOf) rfl (by exact arX11_nextOf) (t_nextOf (d := 1) (r := r1) hL hlaw hok2 hln2 (by omega)) rfl rfl rfl (by dsimp only; omega) rfl (Nat.le_of_ble_eq_true rfl) ⟨Nat.zero_le _, Nat.zero_le _⟩ ?_
    rintro _ _ _ _ ⟨rfl, rfl, rfl, rfl⟩ -
    cases hnx : gd_nx law r1 with
    | none =>
      have e : gd_mo law r1 s = (r1, s) := by unfold gd_mo; rw [hnx]
      rw [e, nO_none]
      refine pm_go 9999 (by exact okX11_wake) rfl ?_; (try dsimp only [pm_st1, pm_st2, pm_cat2, pm_la, Option.toList, List.cons_append, List.nil_append])
      refine pm_zge (by exact okX11_wake) rfl (fun h1 => ?_) (fun h1 => ?_)
      · exact absurd h1 (by decide)
      · refine pm_go 9999 (by exact okX11_wake) rfl ?_; (try dsimp only [pm_st1, pm_st2, pm_cat2, pm_la, Option.toList, List.cons_append, List.nil_append])
        rw [nI_1]
        refine pm_ias (by exact okX11_wake) rfl rfl (vp_in_nI hd (by omega)) ?_
        rw [nI_clamp (by omega)]
        refine pm_go 9999 (by exact okX11_wake) rfl ?_; (try dsimp only [pm_st1, pm_st2, pm_cat2, pm_la, Option.toList, List.cons_append, List.nil_append])
        refine pm_zge (by exact okX11_wake) rfl (fun h2 => ?_) (fun h2 => ?_)
        · exact absurd h2 (by decide)
        · refine pm_go 9999 (by exact okX11_wake) rfl ?_; (try dsimp only [pm_st1, pm_st2, pm_cat2, pm_la, Option.toList, List.cons_append, List.nil_append])
          rw [nI_1]
          refine pm_ias (by exact okX11_wake) rfl rfl (vp_in_nI hd (by omega)) ?_
          rw [nI_clamp (by omega)]
          refine pm_go 9999 (by exact okX11_wake) rfl ?_; (try dsimp only [pm_st1, pm_st2, pm_cat2, pm_la, Option.toList, List.cons_append, List.nil_append])
          rw [nI_1]
          refine pm_ias (by exact okX11_wake) rfl rfl (vp_in_nI hd (by omega)) ?_
          rw [nI_clamp (by omega)]
          refine pm_go 9999 (by exact okX11_wake) rfl ?_; (try dsimp only [pm_st1, pm_st2, pm_cat2, pm_la, Option.toList, List.cons_append, List.nil_append])
          rw [nI_1]
          refine pm_ias (by exact okX11_wake) rfl rfl (vp_in_nI hd (by omega)) ?_
          rw [nI_clamp (by omega)]
          refine pm_go 9999 (by exact okX11_wake) rfl ?_; (try dsimp only [pm_st1, pm_st2, pm_cat2, pm_la, Option.toList, List.cons_append, List.nil_append])
          refine pm_rv (by exact okX11_wake) rfl rfl (Nat.le_refl _) (Nat.le_refl _) (⟨rfl, rfl, rfl, rfl⟩)
    | some c =>
      have hc6 := hok2 c (gd_nx_mem hnx)
      have e : gd_mo law r1 s = (r1.filter (fun x => x != c), s ||| 2 ^ c) := by unfold gd_mo; rw [hnx]
      rw [e, nO_some]
      refine pm_go 9999 (by exact okX11_wake) rfl ?_; (try dsimp only [pm_st1, pm_st2, pm_cat2, pm_la, Option.toList, List.cons_append, List.nil_append])
      refine pm_zge (by exact okX11_wake) rfl (fun h1 => ?_) (fun h1 => ?_)
      · refine pm_go 9999 (by exact okX11_wake) rfl ?_; (try dsimp only [pm_st1, pm_st2, pm_cat2, pm_la, Option.toList, List.cons_append, List.nil_append])
        refine pm_cs (by exact okX11_wake) (by exact okX11_without) rfl (by exact arX11_without) (t_without (d := 0) hok2 hln2 hc6) rfl (by dsimp only; omega) rfl (Nat.le_of_ble_eq_true rfl) ⟨Nat.zero_le _, Nat.zero_le _⟩ ?_
        rintro _ _ _ _ ⟨rfl, rfl, rfl, rfl⟩ -
        refine pm_go 9999 (by exact okX11_wake) rfl ?_; (try dsimp only [pm_st1, pm_st2, pm_cat2, pm_la, Option.toList, List.cons_append, List.nil_append])
        rw [nI_1]
        refine pm_ias (by exact okX11_wake) rfl rfl (vp_in_nI hd (by omega)) ?_
        rw [nI_clamp (by omega)]
        refine pm_go 9999 (by exact okX11_wake) rfl ?_; (try dsimp only [pm_st1, pm_st2, pm_cat2, pm_la, Option.toList, List.cons_append, List.nil_append])
        refine pm_zge (by exact okX11_wake) rfl (fun h2 => ?_) (fun h2 => ?_)
        · refine pm_go 9999 (by exact okX11_wake) rfl ?_; (try dsimp only [pm_st1, pm_st2, pm_cat2, pm_la, Option.toList, List.cons_append, List.nil_append])
          rw [nI_1, nI_shl1 (by omega), nI_or]
          refine pm_ias (by exact okX11_wake) rfl rfl (vp_in_nI hd (by omega)) ?_
          rw [nI_clamp (by omega)]
          refine pm_go 9999 (by exact okX11_wake) rfl ?_; (try dsimp only [pm_st1, pm_st2, pm_cat2, pm_la, Option.toList, List.cons_append, List.nil_append])
          rw [nI_1]
          refine pm_ias (by exact okX11_wake) rfl rfl (vp_in_nI hd (by omega)) ?_
          rw [nI_clamp (by omega)]
          refine pm_go 9999 (by exact okX11_wake) rfl ?_; (try dsimp only [pm_st1, pm_st2, pm_cat2, pm_la, Option.toList, List.cons_append, List.nil_append])
          rw [nI_1]
          refine pm_ias (by exact okX11_wake) rfl rfl (vp_in_nI hd (by omega)) ?_
          rw [nI_clamp (by omega)]
          refine pm_go 9999 (by exact okX11_wake) rfl ?_; (try dsimp only [pm_st1, pm_st2, pm_cat2, pm_la, Option.toList, List.cons_append, List.nil_append])
          refine pm_rv (by exact okX11_wake) rfl rfl (Nat.le_refl _) (Nat.le_refl _) (⟨rfl, rfl, rfl, rfl⟩)
        · exact absurd (nI_pos' (by omega)) h2
      · exact absurd (nI_pos' (by omega)) h1
  refine pm_enterN 3 (by exact okX11_wake) rfl ?_; dsimp only [pm_la, pm_cat2, List.replicate, List.cons_append, List.nil_append, List.append_nil]
  refine pm_go 9999 (by exact okX11_wake) rfl ?_; (try dsimp only [pm_st1, pm_st2, pm_cat2, pm_la, Option.toList, List.cons_append, List.nil_append])
  cases ho2 : o with
  | none =>
    rw [ho2] at hb main
    subst hb
    refine pm_zge (by exact okX11_wake) rfl (fun h1 => ?_) (fun h1 => ?_)
    · exact absurd h1 (by decide)
    · refine pm_go 9999 (by exact okX11_wake) rfl ?_; (try dsimp only [pm_st1, pm_st2, pm_cat2, pm_la, Option.toList, List.cons_append, List.nil_append])
      refine pm_ial (by exact okX11_wake) rfl rfl (vp_in_nI (by omega) (by omega)) ?_
      rw [nI_clamp (by omega), h34]
      refine pm_go 23 (by exact okX11_wake) rfl ?_; (try dsimp only [pm_st1, pm_st2, pm_cat2, pm_la, Option.toList, List.cons_append, List.nil_append])
      exact main
  | some x =>
    have hx := ho x ho2
    rw [ho2] at hb main
    subst hb
    show pm_G _ _ _ _ _ _ [.int (nI x)] _ _ _
    refine pm_zge (by exact okX11_wake) rfl (fun h1 => ?_) (fun h1 => ?_)
    · refine pm_go 9999 (by exact okX11_wake) rfl ?_; (try dsimp only [pm_st1, pm_st2, pm_cat2, pm_la, Option.toList, List.cons_append, List.nil_append])
      refine pm_ial (by exact okX11_wake) rfl rfl (vp_in_nI (by omega) (by omega)) ?_
      rw [nI_clamp (by omega), h34]
      refine pm_go 9999 (by exact okX11_wake) rfl ?_; (try dsimp only [pm_st1, pm_st2, pm_cat2, pm_la, Option.toList, List.cons_append, List.nil_append])
      refine pm_cs (by exact okX11_wake) (by exact okX11_watered) rfl (by exact arX11_watered) (t_watered (d := 1) hok hln hx (by omega)) rfl (by dsimp only; omega) rfl (Nat.le_of_ble_eq_true rfl) ⟨Nat.zero_le _, Nat.zero_le _⟩ ?_
      rintro _ _ _ _ ⟨rfl, rfl, rfl, rfl⟩ -
      exact main
    · exact absurd (nI_pos' (by omega)) h1
end
end
section
/-- the best of the first i choices: 0 none (if none can be), b + 1 the BED b -/
def tn_acc (gate B : Nat) (pa : Nat → Option Nat) (d : Nat) (r : List Nat) (s : Nat) (ch : List Nat → Nat) : Nat → Option Nat
  | 0 => none
  | i + 1 => if i = 0 then (if gd_cw gate pa r s B = true then tn_acc gate B pa d r s ch i else some (tn_k d (tn_acc gate B pa d r s ch i) (ch r))) else if gd_wy gate pa r s (i - 1) = 0 then some (tn_k d (tn_acc gate B pa d r s ch i) (ch (tn_o r (some (i - 1))))) else tn_acc gate B pa d r s ch i
/-- the MORNING on which the BED blooms, both doing their best, d MORNINGS having gone -/
def tn_v (law gate B : Nat) (pa : Nat → Option Nat) (bed : Nat) : Nat → Nat → List Nat → Nat → Nat
  | 0, d, _, _ => d
  | f + 1, d, r, s => (tn_acc gate B pa d r s (fun r1 => if (gd_mo law r1 s).2.testBit bed = true then d + 1 else tn_v law gate B pa bed f (d + 1) (gd_mo law r1 s).1 (gd_mo law r1 s).2) (B + 1)).getD 0
abbrev tn_c (law gate B : Nat) (pa : Nat → Option Nat) (bed f d s : Nat) (r1 : List Nat) : Nat := if (gd_mo law r1 s).2.testBit bed = true then d + 1 else tn_v law gate B pa bed f (d + 1) (gd_mo law r1 s).1 (gd_mo law r1 s).2
theorem tn_k_le {d v M : Nat} {acc : Option Nat} (h1 : ∀ a, acc = some a → a ≤ M) (h2 : v ≤ M) : tn_k d acc v ≤ M := by
  cases acc with
  | none => exact h2
  | some a =>
    have := h1 a rfl
    rw [tn_k_some]
    repeat' split
    all_goals omega
theorem tn_acc_le {gate B : Nat} {pa : Nat → Option Nat} {d : Nat} {r : List Nat} {s M : Nat} {ch : List Nat → Nat} (h : ∀ x, ch x ≤ M) : ∀ i a, tn_acc gate B pa d r s ch i = some a → a ≤ M := by
  intro i
  induction i with
  | zero => intro a ha; cases ha
  | succ i ih =>
    intro a ha
    unfold tn_acc at ha
    repeat' split at ha
    · exact ih a ha
    · cases ha; exact tn_k_le ih (h _)
    · cases ha; exact tn_k_le ih (h _)
    · exact ih a ha
theorem tn_v_le {law gate B : Nat} {pa : Nat → Option Nat} {bed : Nat} : ∀ (f d : Nat) (r : List Nat) (s : Nat), tn_v law gate B pa bed f d r s ≤ d + f := by
  intro f
  induction f with
  | zero => intro d r s; exact Nat.le_refl _
  | succ f ih =>
    intro d r s
    unfold tn_v
    have hc : ∀ x, tn_c law gate B pa bed f d s x ≤ d + (f + 1) := by
      intro x
      unfold tn_c
      split
      · omega
      · have := ih (d + 1) (gd_mo law x s).1 (gd_mo law x s).2
        omega
    cases hh : tn_acc gate B pa d r s (fun r1 => if (gd_mo law r1 s).2.testBit bed = true then d + 1 else tn_v law gate B pa bed f (d + 1) (gd_mo law r1 s).1 (gd_mo law r1 s).2) (B + 1) with
    | none => exact Nat.zero_le _
    | some a => exact tn_acc_le hc _ _ hh
theorem gd_cw_iff {gate : Nat} {pa : Nat → Option Nat} {r : List Nat} {s : Nat} : ∀ n, gd_cw gate pa r s n = true ↔ ∃ b, b < n ∧ gd_wy gate pa r s b = 0 := by
  intro n
  induction n with
  | zero => simp [gd_cw]
  | succ n ih =>
    simp only [gd_cw]
    rw [Bool.or_eq_true, ih, decide_eq_true_iff]
    constructor
    · rintro (⟨b, h1, h2⟩ | h)
      · exact ⟨b, by omega, h2⟩
      · exact ⟨n, by omega, h⟩
    · rintro ⟨b, h1, h2⟩
      rcases Nat.lt_or_ge b n with q | q
      · exact Or.inl ⟨b, q, h2⟩
      · have : b = n := by omega
        subst this
        exact Or.inr h2
/-- with an empty row some BED can be watered, as long as one has not BLOOMED -/
theorem gd_cw_nil {gate B : Nat} {pa : Nat → Option Nat} {s : Nat} (hg : 1 ≤ gate) (hpa : ∀ b o, b < 6 → pa b = some o → b < B ∧ o < B) (hB : B ≤ 6) : ∀ (k b : Nat), b < B → ¬ s.testBit b = true → gd_dd pa k b → gd_cw gate pa [] s B = true := by
  intro k
  induction k with
  | zero => intro b _ _ h; exact absurd h (fun q => q)
  | succ k ih =>
    intro b hb hs hdd
    cases hp : pa b with
    | none =>
      exact (gd_cw_iff B).mpr ⟨b, hb, gd_wyn hs (by rintro ⟨-, q⟩; simp at q; omega) hp⟩
    | some o =>
      have ho := (hpa b o (by omega) hp).2
      by_cases h1 : s.testBit o = true
      · exact (gd_cw_iff B).mpr ⟨b, hb, gd_wy0 hs (by rintro ⟨-, q⟩; simp at q; omega) hp (Or.inr h1)⟩
      · exact ih o ho h1 (hdd o hp)
theorem tn_acc_some {gate B : Nat} {pa : Nat → Option Nat} {d : Nat} {r : List Nat} {s : Nat} {ch : List Nat → Nat} : tn_acc gate B pa d r s ch (B + 1) ≠ none := by
  have mono : ∀ i j, tn_acc gate B pa d r s ch i ≠ none → tn_acc gate B pa d r s ch (i + j) ≠ none := by
    intro i j
    induction j with
    | zero => exact fun h => h
    | succ j ih =>
      intro h
      have := ih h
      rw [show i + (j + 1) = (i + j) + 1 by omega]
      unfold tn_acc
      repeat' split
      · exact this
      · intro q; cases q
      · intro q; cases q
      · exact this
  by_cases h : gd_cw gate pa r s B = true
  · obtain ⟨b, hb, hw⟩ := (gd_cw_iff B).mp h
    have h1 : tn_acc gate B pa d r s ch (b + 1 + 1) ≠ none := by
      rw [tn_acc, if_neg (by omega), if_pos (by rw [Nat.add_sub_cancel]; exact hw)]
      intro q; cases q
    have := mono (b + 1 + 1) (B - 1 - b) h1
    rw [show b + 1 + 1 + (B - 1 - b) = B + 1 by omega] at this
    exact this
  · have h1 : tn_acc gate B pa d r s ch (0 + 1) ≠ none := by
      rw [tn_acc, if_pos rfl, if_neg h]
      intro q; cases q
    have := mono (0 + 1) B h1
    rw [show 0 + 1 + B = B + 1 by omega] at this
    exact this
theorem gd_rn_bl {s b : Nat} (hs : s.testBit b = false) : ∀ n, (gd_rn (s ||| 2 ^ b) n).length + (if b < n then 1 else 0) = (gd_rn s n).length := by
  intro n
  induction n with
  | zero => rfl
  | succ n ih =>
    simp only [gd_rn]
    rw [tb_set]
    by_cases h : b = n
    · subst h
      rw [hs]
      rw [if_neg (show ¬ b < b by omega)] at ih
      rw [if_pos (show (false || decide (b = b)) = true by simp), if_pos (show b < b + 1 by omega), if_neg (show ¬ (false = true) by decide), List.length_cons]
      omega
    · rw [decide_eq_false h, Bool.or_false]
      by_cases h2 : s.testBit n = true
      · rw [if_pos h2, if_pos h2]
        by_cases h3 : b < n
        · rw [if_pos h3] at ih; rw [if_pos (by omega)]; exact ih
        · rw [if_neg h3] at ih; rw [if_neg (by omega)]; exact ih
      · rw [if_neg h2, if_neg h2, List.length_cons, List.length_cons]
        by_cases h3 : b < n
        · rw [if_pos h3] at ih; rw [if_pos (by omega)]; omega
        · rw [if_neg h3] at ih; rw [if_neg (by omega)]; omega
/-- behind a MORNING of a row that isn't empty -/
theorem gd_mo_ok {law B : Nat} {r : List Nat} {s : Nat} (hR : rOK B r s) (hne : r ≠ []) : rOK B (gd_mo law r s).1 (gd_mo law r s).2 ∧ (gd_rn (gd_mo law r s).2 B).length + 1 = (gd_rn s B).length := by
  unfold gd_mo
  cases h : gd_nx law r with
  | none => exact absurd (gd_nx_none h) hne
  | some b =>
    have hb := gd_nx_mem h
    have h2 := hR.2.1 b hb
    refine ⟨rOK_bloom hR hb, ?_⟩
    have := gd_rn_bl (b := b) h2.2 B
    rw [if_pos h2.1] at this
    exact this
/-- the reference's stack below d stays -/
def tnF (d : Nat) (mu mu' : pm_I) : Prop := (∀ a, a < 34 ∨ 38 ≤ a → mu' a = mu a) ∧ (∀ k, k ≤ d → mu' 34 k = mu 34 k ∧ mu' 35 k = mu 35 k) ∧ ∀ k, k < d → mu' 36 k = mu 36 k ∧ mu' 37 k = mu 37 k
theorem tnF.rf {d : Nat} {mu : pm_I} : tnF d mu mu := ⟨fun _ _ => rfl, fun _ _ => ⟨rfl, rfl⟩, fun _ _ => ⟨rfl, rfl⟩⟩
theorem tnF.tr {d : Nat} {mu mu2 mu3 : pm_I} (h : tnF d mu mu2) (h2 : tnF d mu2 mu3) : tnF d mu mu3 :=
  ⟨fun a ha => (h2.1 a ha).trans (h.1 a ha), fun k hk => ⟨(h2.2.1 k hk).1.trans (h.2.1 k hk).1, (h2.2.1 k hk).2.trans (h.2.1 k hk).2⟩, fun k hk => ⟨(h2.2.2 k hk).1.trans (h.2.2 k hk).1, (h2.2.2 k hk).2.trans (h.2.2 k hk).2⟩⟩
theorem tnF.dn {d : Nat} {mu mu' : pm_I} (h : tnF (d + 1) mu mu') : tnF d mu mu' := ⟨h.1, fun k hk => h.2.1 k (by omega), fun k hk => h.2.2 k (by omega)⟩
theorem tnF.u36 {d : Nat} {mu mu' : pm_I} {v : Int32} (h : tnF d mu mu') : tnF d mu (pm_up mu' 36 d v) := ⟨fun a ha => by rw [pm_up_ne (by omega)]; exact h.1 a ha, fun k hk => by rw [pm_up_o (by omega), pm_up_o (by omega)]; exact h.2.1 k hk, fun k hk => by rw [pm_up_of (by omega), pm_up_o (by omega)]; exact h.2.2 k hk⟩
theorem tnF.u37 {d : Nat} {mu mu' : pm_I} {v : Int32} (h : tnF d mu mu') : tnF d mu (pm_up mu' 37 d v) := ⟨fun a ha => by rw [pm_up_ne (by omega)]; exact h.1 a ha, fun k hk => by rw [pm_up_o (by omega), pm_up_o (by omega)]; exact h.2.1 k hk, fun k hk => by rw [pm_up_o (by omega), pm_up_of (by omega)]; exact h.2.2 k hk⟩
theorem tn_w_F {mu : pm_I} {d : Nat} {x : List Nat × Nat} : tnF d mu (tn_w mu d x) ∧ tn_w mu d x 34 (d + 1) = nI (md_r7 x.1) ∧ tn_w mu d x 35 (d + 1) = nI x.2 ∧ tn_w mu d x 36 (d + 1) = 0 ∧ tn_w mu d x 37 (d + 1) = -6 ∧ tn_w mu d x 36 d = mu 36 d ∧ tn_w mu d x 37 d = mu 37 d := by
  unfold tn_w
  refine ⟨⟨fun a ha => ?_, fun k hk => ⟨?_, ?_⟩, fun k hk => ⟨?_, ?_⟩⟩, ?_, ?_, ?_, pm_up_at, ?_, ?_⟩
  · rw [pm_up_ne (by omega), pm_up_ne (by omega), pm_up_ne (by omega), pm_up_ne (by omega)]
  · rw [pm_up_o (by omega), pm_up_o (by omega), pm_up_o (by omega), pm_up_of (by omega)]
  · rw [pm_up_o (by omega), pm_up_o (by omega), pm_up_of (by omega), pm_up_o (by omega)]
  · rw [pm_up_o (by omega), pm_up_of (by omega), pm_up_o (by omega), pm_up_o (by omega)]
  · rw [pm_up_of (by omega), pm_up_o (by omega), pm_up_o (by omega), pm_up_o (by omega)]
  · rw [pm_up_o (by omega), pm_up_o (by omega), pm_up_o (by omega), pm_up_at]
  · rw [pm_up_o (by omega), pm_up_o (by omega), pm_up_at]
  · rw [pm_up_o (by omega), pm_up_at]
  · rw [pm_up_o (by omega), pm_up_of (by omega), pm_up_o (by omega), pm_up_o (by omega)]
  · rw [pm_up_of (by omega), pm_up_o (by omega), pm_up_o (by omega), pm_up_o (by omega)]
end
section
theorem tn_acc_0 {gate B : Nat} {pa : Nat → Option Nat} {d : Nat} {r : List Nat} {s : Nat} {ch : List Nat → Nat} : tn_acc gate B pa d r s ch (0 + 1) = if gd_cw gate pa r s B = true then none else some (tn_k d none (ch r)) := rfl
theorem tn_acc_b {gate B : Nat} {pa : Nat → Option Nat} {d i : Nat} {r : List Nat} {s : Nat} {ch : List Nat → Nat} (hi : ¬ i = 0) : tn_acc gate B pa d r s ch (i + 1) = if gd_wy gate pa r s (i - 1) = 0 then some (tn_k d (tn_acc gate B pa d r s ch i) (ch (tn_o r (some (i - 1))))) else tn_acc gate B pa d r s ch i := by
  rw [tn_acc, if_neg hi]
section
variable {cx : pm_CX} {d0 n0 : Nat} {i0 i1 : Option Nat} {ex : List pm_C} {mu0 : pm_I} {nu : pm_J}
set_option maxRecDepth 100000 in
set_option maxHeartbeats 1000000 in
theorem M_turns_node {Q : pm_Po} {law gate B bed : Nat} {pa : Nat → Option Nat} (hB : mu0 19 0 = nI B) (hB6 : 2 ≤ B ∧ B ≤ 6) (hL : mu0 19 3 = nI law) (hlaw : law ≤ 2) (hG : mu0 19 4 = nI gate) (hg : 1 ≤ gate ∧ gate ≤ 6) (hPa : ∀ k, k < 6 → mu0 21 k = nO (pa k)) (hpa : ∀ b o, b < 6 → pa b = some o → b < B ∧ o < B) (hdd : ∀ b, b < 6 → gd_dd pa 6 b) (hbed : bed < B) (hd0 : 3 ≤ d0) :
    ∀ (f d : Nat) (r : List Nat) (s : Nat) (mu : pm_I), (∀ a, a < 34 ∨ 38 ≤ a → mu a = mu0 a) → mu 34 d = nI (md_r7 r) → mu 35 d = nI s → mu 36 d = 0 → mu 37 d = -6 → rOK B r s → s.testBit bed = false → (gd_rn s B).length ≤ f → d + f ≤ 10 →
    (∀ mu', tnF d mu mu' → mu' 36 d = nI (B + 1) → mu' 37 d = nI (tn_v law gate B pa bed f d r s) → pm_G cx (mX11_turns, d0, 0, 0, n0, Q) 0 0 61 [some (.ref 19), some (.int (nI bed)), some (.int (nI d)), none, none] [] (sh_ i0 i1 ex) mu' nu) →
    pm_G cx (mX11_turns, d0, 0, 0, n0, Q) 0 0 61 [some (.ref 19), some (.int (nI bed)), some (.int (nI d)), none, none] [] (sh_ i0 i1 ex) mu nu := by
  intro f
  induction f with
  | zero =>
    intro d r s mu hm h34 h35 h36 h37 hR hs hf
    have : bed ∈ gd_rn s B := (gd_rn_mem s B bed).mpr ⟨hbed, by rw [hs]; decide⟩
    have := List.length_pos_of_mem this
    omega
  | succ f ihf =>
    intro d r s mu hm h34 h35 h36 h37 hR hs hf hdf kk
    have hok := rOK_ok hR hB6.2
    have hln := rOK_len hR hB6.2
    have hs64 := rOK_s hR hB6.2
    -- from choice i on
    have inner : ∀ (j i : Nat) (mu1 : pm_I), i + j = B + 1 → tnF d mu mu1 → mu1 36 d = nI i → mu1 37 d = nO (tn_acc gate B pa d r s (tn_c law gate B pa bed f d s) i) → pm_G cx (mX11_turns, d0, 0, 0, n0, Q) 0 0 61 [some (.ref 19), some (.int (nI bed)), some (.int (nI d)), none, none] [] (sh_ i0 i1 ex) mu1 nu := by
      intro j
      induction j with
      | zero =>
        intro i mu1 hi hF q36 q37
        have hi : i = B + 1 := by omega
        subst hi
        refine kk mu1 hF q36 ?_
        rw [q37]
        cases hh : tn_acc gate B pa d r s (tn_c law gate B pa bed f d s) (B + 1) with
        | none => exact absurd hh tn_acc_some
        | some a =>
          have : tn_v law gate B pa bed (f + 1) d r s = a := by
            rw [tn_v]
            show (tn_acc gate B pa d r s (tn_c law gate B pa bed f d s) (B + 1)).getD 0 = a
            rw [hh]
            rfl
          rw [this]
          rfl
      | succ j ihj =>
        intro i mu1 hi hF q36 q37
        have hcl : ∀ x, tn_c law gate B pa bed f d s x ≤ 50 := by
          intro x
          unfold tn_c
          split
          · omega
          · have := tn_v_le (law := law) (gate := gate) (B := B) (pa := pa) (bed := bed) f (d + 1) (gd_mo law x s).1 (gd_mo law x s).2
            omega
        have hal : ∀ a, tn_acc gate B pa d r s (tn_c law gate B pa bed f d s) i = some a → a < 100 := fun a ha => by
          have := tn_acc_le hcl i a ha
          omega
        have m0 : ∀ a, a < 34 ∨ 38 ≤ a → mu1 a = mu0 a := fun a ha => (hF.1 a ha).trans (hm a ha)
        have f34 := ((hF.2.1 d (Nat.le_refl _)).1).trans h34
        have f35 := ((hF.2.1 d (Nat.le_refl _)).2).trans h35
        -- with the choice counted
        have cnt : tnF d mu (pm_up mu1 36 d (nI (i + 1))) := hF.u36
        -- not taken
        have skip : ∀ L3, tn_acc gate B pa d r s (tn_c law gate B pa bed f d s) (i + 1) = tn_acc gate B pa d r s (tn_c law gate B pa bed f d s) i → pm_G cx (mX11_turns, d0, 0, 0, n0, Q) 0 0 196 [some (.ref 19), some (.int (nI bed)), some (.int (nI d)), some (.int L3), none] [.int 0] (sh_ i0 i1 ex) (pm_up mu1 36 d (nI (i + 1))) nu := by
          intro L3 he
          refine pm_go 9999 (by exact okX11_turns) rfl ?_; (try dsimp only [pm_st1, pm_st2, pm_cat2, pm_la, Option.toList, List.cons_append, List.nil_append])
          refine pm_zeq (by exact okX11_turns) rfl (fun h1 => ?_) (fun h1 => ?_)
          · refine pm_go 61 (by exact okX11_turns) rfl ?_; (try dsimp only [pm_st1, pm_st2, pm_cat2, pm_la, Option.toList, List.cons_append, List.nil_append])
            refine pm_G.fg [false, false, false, true, true] ?_; dsimp only [pm_fg]
            exact ihj (i + 1) _ (by omega) cnt pm_up_at (by rw [pm_up_o (by omega), he]; exact q37)
          · exact absurd rfl h1
        -- taken
        have take : ∀ (o : Option Nat) (L3 : Int32), L3 = (match o with
            | none => -1
            | some x => nI x) → (∀ x, o = some x → x < B ∧ gd_wy gate pa r s x = 0) → tn_o r o ≠ [] → tn_acc gate B pa d r s (tn_c law gate B pa bed f d s) (i + 1) = some (tn_k d (tn_acc gate B pa d r s (tn_c law gate B pa bed f d s) i) (tn_c law gate B pa bed f d s (tn_o r o))) → pm_G cx (mX11_turns, d0, 0, 0, n0, Q) 0 0 196 [some (.ref 19), some (.int (nI bed)), some (.int (nI d)), some (.int L3), none] [.int 1] (sh_ i0 i1 ex) (pm_up mu1 36 d (nI (i + 1))) nu := by
          intro o L3 hL3 ho hne he
          have hR1 : rOK B (tn_o r o) s := by
            cases o with
            | none => exact hR
            | some x => exact rOK_water hR (ho x rfl).1 (gd_wy_bit (ho x rfl).2)
          obtain ⟨hR2, hu2⟩ := gd_mo_ok (law := law) hR1 hne
          -- behind the child
          have back : ∀ (v : Nat) (mu2 : pm_I), v = tn_c law gate B pa bed f d s (tn_o r o) → tnF d mu mu2 → mu2 36 d = nI (i + 1) → mu2 37 d = nO (tn_acc gate B pa d r s (tn_c law gate B pa bed f d s) i) → pm_G cx (mX11_turns, d0, 0, 0, n0, Q) 0 0 61 [some (.ref 19), some (.int (nI bed)), some (.int (nI d)), none, none] [] (sh_ i0 i1 ex) (pm_up mu2 37 d (nI (tn_k d (tn_acc gate B pa d r s (tn_c law gate B pa bed f d s) i) v))) nu := by
            intro v mu2 hv hF2 p36 p37
            exact ihj (i + 1) _ (by omega) hF2.u37 (by rw [pm_up_o (by omega)]; exact p36) (by rw [pm_up_at, he, hv]; rfl)
          refine pm_go 9999 (by exact okX11_turns) rfl ?_; (try dsimp only [pm_st1, pm_st2, pm_cat2, pm_la, Option.toList, List.cons_append, List.nil_append])
          refine pm_zeq (by exact okX11_turns) rfl (fun h1 => ?_) (fun h1 => ?_)
          · exact absurd h1 (by decide)
          · refine pm_go 9999 (by exact okX11_turns) rfl ?_; (try dsimp only [pm_st1, pm_st2, pm_cat2, pm_la, Option.toList, List.cons_append, List.nil_append])
            refine pm_cv (by exact okX11_turns) (by exact okX11_wake) rfl (by exact arX11_wake) (t_wake (d0 := 2) (d := d) (s := s) (law := law) (o := o) (r := r) (by omega) (by rw [pm_up_o (by omega), m0 19 (by omega)]; exact hL) hlaw (by rw [pm_up_o (by omega)]; exact f34) (by rw [pm_up_o (by omega)]; exact f35) hs64 hok hln hL3 (fun x hx => by have := (ho x hx).1; omega) (rOK_len hR1 hB6.2) (by omega)) rfl rfl rfl (by dsimp only; omega) rfl (Nat.le_of_ble_eq_true rfl) ⟨Nat.zero_le _, Nat.zero_le _⟩ ?_
            rintro _ _ _ _ ⟨rfl, rfl, rfl, rfl⟩ -
            refine pm_go 61 (by exact okX11_turns) rfl ?_; (try dsimp only [pm_st1, pm_st2, pm_cat2, pm_la, Option.toList, List.cons_append, List.nil_append])
            rw [nI_1]
            refine pm_G.fg [false, false, false, true, true] ?_; dsimp only [pm_fg]
            obtain ⟨w0, w34, w35, w36, w37, wd36, wd37⟩ := tn_w_F (mu := pm_up mu1 36 d (nI (i + 1))) (d := d) (x := gd_mo law (tn_o r o) s)
            have hFw : tnF d mu (tn_w (pm_up mu1 36 d (nI (i + 1))) d (gd_mo law (tn_o r o) s)) := cnt.tr w0
            have m0w : ∀ a, a < 34 ∨ 38 ≤ a → tn_w (pm_up mu1 36 d (nI (i + 1))) d (gd_mo law (tn_o r o) s) a = mu0 a := fun a ha => (hFw.1 a ha).trans (hm a ha)
            rw [pm_up_at] at wd36
            rw [pm_up_o (by omega), q37] at wd37
            generalize tn_w (pm_up mu1 36 d (nI (i + 1))) d (gd_mo law (tn_o r o) s) = muw at hFw m0w w34 w35 w36 w37 wd36 wd37 ⊢
            have hs2 := rOK_s hR2 hB6.2
            by_cases hbl : (gd_mo law (tn_o r o) s).2.testBit bed = true
            · have hv : tn_c law gate B pa bed f d s (tn_o r o) = d + 1 := if_pos hbl
              refine pm_go 9999 (by exact okX11_turns) rfl ?_; (try dsimp only [pm_st1, pm_st2, pm_cat2, pm_la, Option.toList, List.cons_append, List.nil_append])
              refine pm_zlt (by exact okX11_turns) rfl (fun h2 => ?_) (fun h2 => ?_)
              · exact absurd h2 (nI_pos (by omega))
              · refine pm_go 9999 (by exact okX11_turns) rfl ?_; (try dsimp only [pm_st1, pm_st2, pm_cat2, pm_la, Option.toList, List.cons_append, List.nil_append])
                refine pm_zle (by exact okX11_turns) rfl (fun h3 => ?_) (fun h3 => ?_)
                · exact absurd h3 (nI_nle (by omega) (by omega))
                · refine pm_go 9999 (by exact okX11_turns) rfl ?_; (try dsimp only [pm_st1, pm_st2, pm_cat2, pm_la, Option.toList, List.cons_append, List.nil_append])
                  refine pm_ial (by exact okX11_turns) rfl rfl (vp_in_nI (by omega) (by omega)) ?_
                  rw [nI_clamp (by omega), w35]
                  refine pm_go 9999 (by exact okX11_turns) rfl ?_; (try dsimp only [pm_st1, pm_st2, pm_cat2, pm_la, Option.toList, List.cons_append, List.nil_append])
                  refine pm_cs (by exact okX11_turns) (by exact okX11_has) rfl (by exact arX11_has) (t_has (d := 0) (s := (gd_mo law (tn_o r o) s).2) (k := bed) (by omega) (by omega)) rfl (by dsimp only; omega) rfl (Nat.le_of_ble_eq_true rfl) ⟨Nat.zero_le _, Nat.zero_le _⟩ ?_
                  rintro _ _ _ _ ⟨rfl, rfl, rfl, rfl⟩ -
                  refine pm_go 9999 (by exact okX11_turns) rfl ?_; (try dsimp only [pm_st1, pm_st2, pm_cat2, pm_la, Option.toList, List.cons_append, List.nil_append])
                  refine pm_zeq (by exact okX11_turns) rfl (fun h4 => ?_) (fun h4 => ?_)
                  · exact absurd hbl (bI_z.mp h4)
                  · refine pm_go 9999 (by exact okX11_turns) rfl ?_; (try dsimp only [pm_st1, pm_st2, pm_cat2, pm_la, Option.toList, List.cons_append, List.nil_append])
                    rw [nI_pred]
                    refine pm_cv (by exact okX11_turns) (by exact okX11_take) rfl (by exact arX11_take) (t_take (d0 := 0) (d := d) (v := d + 1) (acc := tn_acc gate B pa d r s (tn_c law gate B pa bed f d s) i) (by omega) (by omega) wd37 hal) rfl rfl rfl (by dsimp only; omega) rfl (Nat.le_of_ble_eq_true rfl) ⟨Nat.zero_le _, Nat.zero_le _⟩ ?_
                    rintro _ _ _ _ ⟨rfl, rfl, rfl, rfl⟩ -
                    refine pm_go 61 (by exact okX11_turns) rfl ?_; (try dsimp only [pm_st1, pm_st2, pm_cat2, pm_la, Option.toList, List.cons_append, List.nil_append])
                    rw [pk_m1]
                    exact back (d + 1) muw hv.symm hFw wd36 wd37
            · have hbl' : (gd_mo law (tn_o r o) s).2.testBit bed = false := by simpa using hbl
              have hv : tn_c law gate B pa bed f d s (tn_o r o) = tn_v law gate B pa bed f (d + 1) (gd_mo law (tn_o r o) s).1 (gd_mo law (tn_o r o) s).2 := if_neg hbl
              refine ihf (d + 1) (gd_mo law (tn_o r o) s).1 (gd_mo law (tn_o r o) s).2 muw m0w w34 w35 w36 w37 hR2 hbl' (by omega) (by omega) (fun mu3 hF3 z36 z37 => ?_)
              have hvl := tn_v_le (law := law) (gate := gate) (B := B) (pa := pa) (bed := bed) f (d + 1) (gd_mo law (tn_o r o) s).1 (gd_mo law (tn_o r o) s).2
              have e35 : mu3 35 (d + 1) = nI (gd_mo law (tn_o r o) s).2 := ((hF3.2.1 (d + 1) (Nat.le_refl _)).2).trans w35
              have e36 : mu3 36 d = nI (i + 1) := ((hF3.2.2 d (by omega)).1).trans wd36
              have e37 : mu3 37 d = nO (tn_acc gate B pa d r s (tn_c law gate B pa bed f d s) i) := ((hF3.2.2 d (by omega)).2).trans wd37
              have e19 : mu3 19 0 = nI B := by rw [hF3.1 19 (by omega), m0w 19 (by omega)]; exact hB
              refine pm_go 9999 (by exact okX11_turns) rfl ?_; (try dsimp only [pm_st1, pm_st2, pm_cat2, pm_la, Option.toList, List.cons_append, List.nil_append])
              refine pm_zlt (by exact okX11_turns) rfl (fun h2 => ?_) (fun h2 => ?_)
              · exact absurd h2 (nI_pos (by omega))
              · refine pm_go 9999 (by exact okX11_turns) rfl ?_; (try dsimp only [pm_st1, pm_st2, pm_cat2, pm_la, Option.toList, List.cons_append, List.nil_append])
                refine pm_zle (by exact okX11_turns) rfl (fun h3 => ?_) (fun h3 => ?_)
                · exact absurd h3 (nI_nle (by omega) (by omega))
                · refine pm_go 9999 (by exact okX11_turns) rfl ?_; (try dsimp only [pm_st1, pm_st2, pm_cat2, pm_la, Option.toList, List.cons_append, List.nil_append])
                  refine pm_ial (by exact okX11_turns) rfl rfl (vp_in_nI (by omega) (by omega)) ?_
                  rw [nI_clamp (by omega), e35]
                  refine pm_go 9999 (by exact okX11_turns) rfl ?_; (try dsimp only [pm_st1, pm_st2, pm_cat2, pm_la, Option.toList, List.cons_append, List.nil_append])
                  refine pm_cs (by exact okX11_turns) (by exact okX11_has) rfl (by exact arX11_has) (t_has (d := 0) (s := (gd_mo law (tn_o r o) s).2) (k := bed) (by omega) (by omega)) rfl (by dsimp only; omega) rfl (Nat.le_of_ble_eq_true rfl) ⟨Nat.zero_le _, Nat.zero_le _⟩ ?_
                  rintro _ _ _ _ ⟨rfl, rfl, rfl, rfl⟩ -
                  refine pm_go 9999 (by exact okX11_turns) rfl ?_; (try dsimp only [pm_st1, pm_st2, pm_cat2, pm_la, Option.toList, List.cons_append, List.nil_append])
                  refine pm_zeq (by exact okX11_turns) rfl (fun h4 => ?_) (fun h4 => ?_)
                  · refine pm_go 9999 (by exact okX11_turns) rfl ?_; (try dsimp only [pm_st1, pm_st2, pm_cat2, pm_la, Option.toList, List.cons_append, List.nil_append])
                    refine pm_ial (by exact okX11_turns) rfl rfl (vp_in_nI (by omega) (by omega)) ?_
                    rw [nI_clamp (by omega), z36]
                    refine pm_go 9999 (by exact okX11_turns) rfl ?_; (try dsimp only [pm_st1, pm_st2, pm_cat2, pm_la, Option.toList, List.cons_append, List.nil_append])
                    rw [e19]
                    refine pm_ile (by exact okX11_turns) rfl (fun h5 => ?_) (fun h5 => ?_)
                    · have := (nI_leI (by omega) (by omega)).mp h5
                      omega
                    · refine pm_go 9999 (by exact okX11_turns) rfl ?_; (try dsimp only [pm_st1, pm_st2, pm_cat2, pm_la, Option.toList, List.cons_append, List.nil_append])
                      refine pm_zle (by exact okX11_turns) rfl (fun h6 => ?_) (fun h6 => ?_)
                      · exact absurd h6 (nI_nle (by omega) (by omega))
                      · refine pm_go 9999 (by exact okX11_turns) rfl ?_; (try dsimp only [pm_st1, pm_st2, pm_cat2, pm_la, Option.toList, List.cons_append, List.nil_append])
                        rw [nI_pred]
                        refine pm_ial (by exact okX11_turns) rfl rfl (vp_in_nI (by omega) (by omega)) ?_
                        rw [nI_clamp (by omega), z37]
                        refine pm_cv (by exact okX11_turns) (by exact okX11_take) rfl (by exact arX11_take) (t_take (d0 := 0) (d := d) (v := tn_v law gate B pa bed f (d + 1) (gd_mo law (tn_o r o) s).1 (gd_mo law (tn_o r o) s).2) (acc := tn_acc gate B pa d r s (tn_c law gate B pa bed f d s) i) (by omega) (by omega) e37 hal) rfl rfl rfl (by dsimp only; omega) rfl (Nat.le_of_ble_eq_true rfl) ⟨Nat.zero_le _, Nat.zero_le _⟩ ?_
                        rintro _ _ _ _ ⟨rfl, rfl, rfl, rfl⟩ -
                        refine pm_go 61 (by exact okX11_turns) rfl ?_; (try dsimp only [pm_st1, pm_st2, pm_cat2, pm_la, Option.toList, List.cons_append, List.nil_append])
                        rw [pk_m1]
                        exact back _ mu3 hv.symm (hFw.tr hF3.dn) e36 e37
                  · exact absurd (bI_n.mp h4) hbl
        -- the loop's body
        have body : pm_G cx (mX11_turns, d0, 0, 0, n0, Q) 0 0 96 [some (.ref 19), some (.int (nI bed)), some (.int (nI d)), none, none] [] (sh_ i0 i1 ex) mu1 nu := by
          refine pm_go 9999 (by exact okX11_turns) rfl ?_; (try dsimp only [pm_st1, pm_st2, pm_cat2, pm_la, Option.toList, List.cons_append, List.nil_append])
          refine pm_ial (by exact okX11_turns) rfl rfl (vp_in_nI (by omega) (by omega)) ?_
          rw [nI_clamp (by omega), q36]
          refine pm_go 9999 (by exact okX11_turns) rfl ?_; (try dsimp only [pm_st1, pm_st2, pm_cat2, pm_la, Option.toList, List.cons_append, List.nil_append])
          rw [m0 19 (by omega), hB]
          refine pm_ile (by exact okX11_turns) rfl (fun h1 => ?_) (fun h1 => ?_)
          · refine pm_go 9999 (by exact okX11_turns) rfl ?_; (try dsimp only [pm_st1, pm_st2, pm_cat2, pm_la, Option.toList, List.cons_append, List.nil_append])
            refine pm_ial (by exact okX11_turns) rfl rfl (vp_in_nI (by omega) (by omega)) ?_
            rw [nI_clamp (by omega), q36]
            refine pm_go 9999 (by exact okX11_turns) rfl ?_; (try dsimp only [pm_st1, pm_st2, pm_cat2, pm_la, Option.toList, List.cons_append, List.nil_append])
            refine pm_ial (by exact okX11_turns) rfl rfl (vp_in_nI (by omega) (by omega)) ?_
            rw [nI_clamp (by omega), q36]
            refine pm_go 9999 (by exact okX11_turns) rfl ?_; (try dsimp only [pm_st1, pm_st2, pm_cat2, pm_la, Option.toList, List.cons_append, List.nil_append])
            rw [nI_1]
            refine pm_ias (by exact okX11_turns) rfl rfl (vp_in_nI (by omega) (by omega)) ?_
            rw [nI_clamp (by omega)]
            refine pm_go 9999 (by exact okX11_turns) rfl ?_; (try dsimp only [pm_st1, pm_st2, pm_cat2, pm_la, Option.toList, List.cons_append, List.nil_append])
            by_cases hi0 : i = 0
            · subst hi0
              rw [show nI 0 - 1 = -1 from rfl]
              refine pm_zge (by exact okX11_turns) rfl (fun h2 => ?_) (fun h2 => ?_)
              · exact absurd h2 (by decide)
              · refine pm_go 9999 (by exact okX11_turns) rfl ?_; (try dsimp only [pm_st1, pm_st2, pm_cat2, pm_la, Option.toList, List.cons_append, List.nil_append])
                refine pm_cv (by exact okX11_turns) (by exact okX11_canWater) rfl (by exact arX11_canWater) (t_canWater (d0 := 2) (d := d) (B := B) (gate := gate) (s := s) (pa := pa) (r := r) (by omega) (by rw [pm_up_o (by omega), m0 19 (by omega)]; exact hB) hB6.2 (by rw [pm_up_o (by omega), m0 19 (by omega)]; exact hG) hg.2 (fun k hk => by rw [pm_up_o (by omega), m0 21 (by omega)]; exact hPa k hk) (fun k o hk ho => by have := (hpa k o hk ho).2; omega) (by rw [pm_up_o (by omega)]; exact f34) (by rw [pm_up_o (by omega)]; exact f35) (by omega) hok hln (by omega)) rfl rfl rfl (by dsimp only; omega) rfl (Nat.le_of_ble_eq_true rfl) ⟨Nat.zero_le _, Nat.zero_le _⟩ ?_
                rintro _ _ _ _ ⟨rfl, rfl, rfl, rfl⟩ -
                refine pm_go 9999 (by exact okX11_turns) rfl ?_; (try dsimp only [pm_st1, pm_st2, pm_cat2, pm_la, Option.toList, List.cons_append, List.nil_append])
                refine pm_zne (by exact okX11_turns) rfl (fun h3 => ?_) (fun h3 => ?_)
                · have h3 := bI_n.mp h3
                  refine pm_go 196 (by exact okX11_turns) rfl ?_; (try dsimp only [pm_st1, pm_st2, pm_cat2, pm_la, Option.toList, List.cons_append, List.nil_append])
                  exact skip _ (by rw [tn_acc_0, if_pos h3]; rfl)
                · have h3 := bI_z.mp h3
                  refine pm_go 196 (by exact okX11_turns) rfl ?_; (try dsimp only [pm_st1, pm_st2, pm_cat2, pm_la, Option.toList, List.cons_append, List.nil_append])
                  refine take none _ rfl (fun x hx => by cases hx) (fun q => ?_) (by rw [tn_acc_0, if_neg h3]; rfl)
                  have q : r = [] := q
                  rw [q] at h3
                  exact h3 (gd_cw_nil hg.1 hpa hB6.2 6 bed hbed (by rw [hs]; decide) (hdd bed (by omega)))
            · rw [nI_m1 (by omega)]
              refine pm_zge (by exact okX11_turns) rfl (fun h2 => ?_) (fun h2 => ?_)
              · refine pm_go 9999 (by exact okX11_turns) rfl ?_; (try dsimp only [pm_st1, pm_st2, pm_cat2, pm_la, Option.toList, List.cons_append, List.nil_append])
                refine pm_ial (by exact okX11_turns) rfl rfl (vp_in_nI (by omega) (by omega)) ?_
                rw [nI_clamp (by omega), pm_up_o (by omega), f34]
                refine pm_go 9999 (by exact okX11_turns) rfl ?_; (try dsimp only [pm_st1, pm_st2, pm_cat2, pm_la, Option.toList, List.cons_append, List.nil_append])
                refine pm_ial (by exact okX11_turns) rfl rfl (vp_in_nI (by omega) (by omega)) ?_
                rw [nI_clamp (by omega), pm_up_o (by omega), f35]
                refine pm_go 9999 (by exact okX11_turns) rfl ?_; (try dsimp only [pm_st1, pm_st2, pm_cat2, pm_la, Option.toList, List.cons_append, List.nil_append])
                refine pm_cv (by exact okX11_turns) (by exact okX11_whyNot) rfl (by exact arX11_whyNot) (t_whyNot (d := 1) (gate := gate) (pa := pa) (r := r) (s := s) (b := i - 1) (by rw [pm_up_o (by omega), m0 19 (by omega)]; exact hG) hg.2 (fun k hk => by rw [pm_up_o (by omega), m0 21 (by omega)]; exact hPa k hk) (fun k o hk ho => by have := (hpa k o hk ho).2; omega) (by omega) (by omega) hok hln (by omega)) rfl rfl rfl (by dsimp only; omega) rfl (Nat.le_of_ble_eq_true rfl) ⟨Nat.zero_le _, Nat.zero_le _⟩ ?_
                rintro _ _ _ _ ⟨rfl, rfl, rfl, rfl⟩ -
                have hwl := gd_wy_le (gate := gate) (pa := pa) (r := r) (s := s) (b := i - 1)
                refine pm_go 9999 (by exact okX11_turns) rfl ?_; (try dsimp only [pm_st1, pm_st2, pm_cat2, pm_la, Option.toList, List.cons_append, List.nil_append])
                refine pm_zne (by exact okX11_turns) rfl (fun h4 => ?_) (fun h4 => ?_)
                · have h5 : ¬ gd_wy gate pa r s (i - 1) = 0 := fun q => h4 (by rw [q]; rfl)
                  refine pm_go 196 (by exact okX11_turns) rfl ?_; (try dsimp only [pm_st1, pm_st2, pm_cat2, pm_la, Option.toList, List.cons_append, List.nil_append])
                  exact skip _ (by rw [tn_acc_b hi0, if_neg h5])
                · have h5 : gd_wy gate pa r s (i - 1) = 0 := (nI_eq (b := 0) (by omega) (by omega)).mp h4
                  refine pm_go 196 (by exact okX11_turns) rfl ?_; (try dsimp only [pm_st1, pm_st2, pm_cat2, pm_la, Option.toList, List.cons_append, List.nil_append])
                  exact take (some (i - 1)) _ rfl (fun x hx => by cases hx; exact ⟨by omega, h5⟩) (fun q => by cases q) (by rw [tn_acc_b hi0, if_pos h5])
              · exact absurd (nI_pos' (by omega)) h2
          · exact absurd (nI_le (by omega) (by omega)) h1
        refine pm_go 9999 (by exact okX11_turns) rfl ?_; (try dsimp only [pm_st1, pm_st2, pm_cat2, pm_la, Option.toList, List.cons_append, List.nil_append])
        refine pm_zlt (by exact okX11_turns) rfl (fun h1 => ?_) (fun h1 => ?_)
        · exact absurd h1 (nI_pos (by omega))
        · refine pm_go 96 (by exact okX11_turns) rfl ?_; (try dsimp only [pm_st1, pm_st2, pm_cat2, pm_la, Option.toList, List.cons_append, List.nil_append])
          refine pm_zle (by exact okX11_turns) rfl (fun h2 => ?_) (fun h2 => ?_)
          · exact body
          · refine pm_go 9999 (by exact okX11_turns) rfl ?_; (try dsimp only [pm_st1, pm_st2, pm_cat2, pm_la, Option.toList, List.cons_append, List.nil_append])
            refine pm_ial (by exact okX11_turns) rfl rfl (vp_in_nI (by omega) (by omega)) ?_
            rw [nI_clamp (by omega), f35]
            refine pm_go 9999 (by exact okX11_turns) rfl ?_; (try dsimp only [pm_st1, pm_st2, pm_cat2, pm_la, Option.toList, List.cons_append, List.nil_append])
            refine pm_cs (by exact okX11_turns) (by exact okX11_has) rfl (by exact arX11_has) (t_has (d := 0) (s := s) (k := bed) (by omega) (by omega)) rfl (by dsimp only; omega) rfl (Nat.le_of_ble_eq_true rfl) ⟨Nat.zero_le _, Nat.zero_le _⟩ ?_
            rintro _ _ _ _ ⟨rfl, rfl, rfl, rfl⟩ -
            refine pm_go 96 (by exact okX11_turns) rfl ?_; (try dsimp only [pm_st1, pm_st2, pm_cat2, pm_la, Option.toList, List.cons_append, List.nil_append])
            refine pm_zeq (by exact okX11_turns) rfl (fun h3 => ?_) (fun h3 => ?_)
            · exact body
            · exact absurd (bI_n.mp h3) (by rw [hs]; decide)
    exact inner (B + 1) 0 mu (by omega) tnF.rf (by rw [h36]; rfl) (by rw [h37]; rfl)
def sp_turns (z : mS) (b : Int32) : Int32 := if isB (gB z.1) b then (if (gM z.1).testBit b.toNatClampNeg = true then -6 else nI (tn_v (gL z.1) (gG z.1) (gB z.1) (gP z.1) b.toNatClampNeg 6 0 (gR z.1) (gM z.1))) else -1
set_option maxRecDepth 100000 in
set_option maxHeartbeats 1000000 in
theorem M_turns {z : mS} {mu : pm_I} (b : Int32) (hz : zOK z) (h : MA z mu) (hd : 3 ≤ d0) : pm_T cx mX11_turns d0 0 0 [.ref 19, .int b] (sh_ i0 i1 ex) mu nu (mQ (.int (sp_turns z b)) z i0 i1 ex mu) := by
  obtain ⟨⟨a1, a2, a3, a4, a5, a6, a7, a8, a9, b1, b2, b3, b4, b5⟩, c1, c2⟩ := id h
  obtain ⟨⟨hB6, hlaw, hg, -, -, hpa, hdd, hR, -⟩, -⟩ := id hz
  have hs64 := rOK_s hR hB6.2
  unfold sp_turns
  refine pm_enterN 3 (by exact okX11_turns) rfl ?_; dsimp only [pm_la, pm_cat2, List.replicate, List.cons_append, List.nil_append, List.append_nil]
  refine pm_go 9999 (by exact okX11_turns) rfl ?_; (try dsimp only [pm_st1, pm_st2, pm_cat2, pm_la, Option.toList, List.cons_append, List.nil_append])
  refine pm_cv (by exact okX11_turns) (by exact okX11_isBed) rfl (by exact arX11_isBed) (t_isBed (d := 1) b a1 (by omega) (by omega)) rfl rfl rfl (by dsimp only; omega) rfl (Nat.le_of_ble_eq_true rfl) ⟨Nat.zero_le _, Nat.zero_le _⟩ ?_
  rintro _ _ _ _ ⟨rfl, rfl, rfl, rfl⟩ -
  refine pm_go 9999 (by exact okX11_turns) rfl ?_; (try dsimp only [pm_st1, pm_st2, pm_cat2, pm_la, Option.toList, List.cons_append, List.nil_append])
  refine pm_zne (by exact okX11_turns) rfl (fun h1 => ?_) (fun h1 => ?_)
  · have h1 := bI_n.mp h1
    rw [if_pos h1]
    obtain ⟨k, hk, rfl⟩ := isB_of hB6.2 h1
    rw [nI_clamp (n := k) (by omega)]
    refine pm_go 9999 (by exact okX11_turns) rfl ?_; (try dsimp only [pm_st1, pm_st2, pm_cat2, pm_la, Option.toList, List.cons_append, List.nil_append])
    rw [a7]
    refine pm_cs (by exact okX11_turns) (by exact okX11_has) rfl (by exact arX11_has) (t_has (d := 0) (s := gM z.1) (k := k) (by omega) (by omega)) rfl (by dsimp only; omega) rfl (Nat.le_of_ble_eq_true rfl) ⟨Nat.zero_le _, Nat.zero_le _⟩ ?_
    rintro _ _ _ _ ⟨rfl, rfl, rfl, rfl⟩ -
    refine pm_go 9999 (by exact okX11_turns) rfl ?_; (try dsimp only [pm_st1, pm_st2, pm_cat2, pm_la, Option.toList, List.cons_append, List.nil_append])
    refine pm_zeq (by exact okX11_turns) rfl (fun h2 => ?_) (fun h2 => ?_)
    · have h2 := bI_z.mp h2
      rw [if_neg h2]
      have h2' : (gM z.1).testBit k = false := by simpa using h2
      refine pm_go 9999 (by exact okX11_turns) rfl ?_; (try dsimp only [pm_st1, pm_st2, pm_cat2, pm_la, Option.toList, List.cons_append, List.nil_append])
      rw [a6]
      refine pm_ias (by exact okX11_turns) rfl rfl (vp_in_nI (n := 0) (by omega) (by omega)) ?_
      refine pm_go 9999 (by exact okX11_turns) rfl ?_; (try dsimp only [pm_st1, pm_st2, pm_cat2, pm_la, Option.toList, List.cons_append, List.nil_append])
      rw [pm_up_o (by omega), a7]
      refine pm_ias (by exact okX11_turns) rfl rfl (vp_in_nI (n := 0) (by omega) (by omega)) ?_
      refine pm_go 9999 (by exact okX11_turns) rfl ?_; (try dsimp only [pm_st1, pm_st2, pm_cat2, pm_la, Option.toList, List.cons_append, List.nil_append])
      refine pm_ias (by exact okX11_turns) rfl rfl (vp_in_nI (n := 0) (by omega) (by omega)) ?_
      refine pm_go 9999 (by exact okX11_turns) rfl ?_; (try dsimp only [pm_st1, pm_st2, pm_cat2, pm_la, Option.toList, List.cons_append, List.nil_append])
      refine pm_ias (by exact okX11_turns) rfl rfl (vp_in_nI (n := 0) (by omega) (by omega)) ?_
      rw [show (0 : Int32).toNatClampNeg = 0 from rfl]
      refine pm_go 61 (by exact okX11_turns) rfl ?_; (try dsimp only [pm_st1, pm_st2, pm_cat2, pm_la, Option.toList, List.cons_append, List.nil_append])
      refine pm_G.cast (L' := [some (.ref 19), some (.int (nI k)), some (.int (nI 0)), none, none]) (S' := []) (mu' := pm_up (pm_up (pm_up (pm_up mu 34 0 (nI (md_r7 (gR z.1)))) 35 0 (nI (gM z.1))) 36 0 0) 37 0 (-6)) (nu' := nu) ?_ rfl rfl rfl rfl
      have keep : ∀ a, a < 34 ∨ 38 ≤ a → pm_up (pm_up (pm_up (pm_up mu 34 0 (nI (md_r7 (gR z.1)))) 35 0 (nI (gM z.1))) 36 0 0) 37 0 (-6) a = mu a := fun a ha => by rw [pm_up_ne (by omega), pm_up_ne (by omega), pm_up_ne (by omega), pm_up_ne (by omega)]
      have hu : (gd_rn (gM z.1) (gB z.1)).length ≤ 6 := Nat.le_trans (gd_rn_len _ _) hB6.2
      refine M_turns_node (mu0 := mu) a1 hB6 a2 hlaw a3 hg b2 hpa hdd hk hd 6 0 (gR z.1) (gM z.1) _ keep (by rw [pm_up_o (by omega), pm_up_o (by omega), pm_up_o (by omega), pm_up_at]) (by rw [pm_up_o (by omega), pm_up_o (by omega), pm_up_at]) (by rw [pm_up_o (by omega), pm_up_at]) pm_up_at hR h2' hu (by omega) (fun mu3 hF3 z36 z37 => ?_)
      have m3 : ∀ a, a < 34 ∨ 38 ≤ a → mu3 a = mu a := fun a ha => (hF3.1 a ha).trans (keep a ha)
      have hMA : MA z mu3 := h.same (fun j hj => by rw [m3 19 (by omega)]) (fun a q1 q2 => m3 a (by omega)) (m3 38 (by omega)) (m3 39 (by omega))
      have hfm : fM mu mu3 := fun a ha => m3 a (by omega)
      refine pm_go 9999 (by exact okX11_turns) rfl ?_; (try dsimp only [pm_st1, pm_st2, pm_cat2, pm_la, Option.toList, List.cons_append, List.nil_append])
      refine pm_zlt (by exact okX11_turns) rfl (fun h3 => ?_) (fun h3 => ?_)
      · exact absurd h3 (by decide)
      · refine pm_go 9999 (by exact okX11_turns) rfl ?_; (try dsimp only [pm_st1, pm_st2, pm_cat2, pm_la, Option.toList, List.cons_append, List.nil_append])
        refine pm_zle (by exact okX11_turns) rfl (fun h4 => ?_) (fun h4 => ?_)
        · refine pm_go 9999 (by exact okX11_turns) rfl ?_; (try dsimp only [pm_st1, pm_st2, pm_cat2, pm_la, Option.toList, List.cons_append, List.nil_append])
          refine pm_ial (by exact okX11_turns) rfl rfl (vp_in_nI (n := 0) (by omega) (by omega)) ?_
          rw [show (nI 0).toNatClampNeg = 0 from rfl, z36]
          refine pm_go 9999 (by exact okX11_turns) rfl ?_; (try dsimp only [pm_st1, pm_st2, pm_cat2, pm_la, Option.toList, List.cons_append, List.nil_append])
          rw [m3 19 (by omega), a1]
          refine pm_ile (by exact okX11_turns) rfl (fun h5 => ?_) (fun h5 => ?_)
          · have := (nI_leI (by omega) (by omega)).mp h5
            omega
          · refine pm_go 9999 (by exact okX11_turns) rfl ?_; (try dsimp only [pm_st1, pm_st2, pm_cat2, pm_la, Option.toList, List.cons_append, List.nil_append])
            refine pm_zle (by exact okX11_turns) rfl (fun h6 => ?_) (fun h6 => ?_)
            · refine pm_go 9999 (by exact okX11_turns) rfl ?_; (try dsimp only [pm_st1, pm_st2, pm_cat2, pm_la, Option.toList, List.cons_append, List.nil_append])
              refine pm_zlt (by exact okX11_turns) rfl (fun h7 => ?_) (fun h7 => ?_)
              · refine pm_go 9999 (by exact okX11_turns) rfl ?_; (try dsimp only [pm_st1, pm_st2, pm_cat2, pm_la, Option.toList, List.cons_append, List.nil_append])
                refine pm_ial (by exact okX11_turns) rfl rfl (vp_in_nI (n := 0) (by omega) (by omega)) ?_
                rw [show (0 : Int32).toNatClampNeg = 0 from rfl, z37]
                refine pm_go 9999 (by exact okX11_turns) rfl ?_; (try dsimp only [pm_st1, pm_st2, pm_cat2, pm_la, Option.toList, List.cons_append, List.nil_append])
                refine pm_ri (by exact okX11_turns) rfl rfl rfl (Nat.le_refl _) (Nat.le_refl _) (⟨rfl, rfl, hMA, hfm⟩)
              · exact absurd (by decide) h7
            · exact absurd (by decide) h6
        · exact absurd (by decide) h4
    · have h2 := bI_n.mp h2
      rw [if_pos h2]
      refine pm_go 9999 (by exact okX11_turns) rfl ?_; (try dsimp only [pm_st1, pm_st2, pm_cat2, pm_la, Option.toList, List.cons_append, List.nil_append])
      refine pm_ri (by exact okX11_turns) rfl rfl rfl (Nat.le_refl _) (Nat.le_refl _) (⟨rfl, rfl, h, fM.rf⟩)
  · have h1 := bI_z.mp h1
    rw [if_neg h1]
    refine pm_go 9999 (by exact okX11_turns) rfl ?_; (try dsimp only [pm_st1, pm_st2, pm_cat2, pm_la, Option.toList, List.cons_append, List.nil_append])
    refine pm_ri (by exact okX11_turns) rfl rfl rfl (Nat.le_refl _) (Nat.le_refl _) (⟨rfl, rfl, h, fM.rf⟩)
end
end
section
/-! ===== a table with open places, and the reference's put ===== -/
/-- each key stands where the search from its own place comes to it, and stands once -/
def ht_ok (M : Nat) (h : Nat → Nat) (f : Nat → Option Nat) : Prop := (∀ p x, p < M → f p = some x → ∃ i, i < M ∧ p = (h x + i) % M ∧ ∀ i', i' < i → f ((h x + i') % M) ≠ none) ∧ ∀ p q x, p < M → q < M → f p = some x → f q = some x → p = q
theorem ht_new {M : Nat} {h : Nat → Nat} {f : Nat → Option Nat} {x i : Nat} (hf : ht_ok M h f) (hM : 0 < M) (hi : i < M) (hbefore : ∀ i', i' < i → ∃ y, f ((h x + i') % M) = some y ∧ y ≠ x) (hnone : f ((h x + i) % M) = none) : ¬ ∃ p, p < M ∧ f p = some x := by
  rintro ⟨p, hp, hfx⟩
  obtain ⟨j, hj, rfl, hall⟩ := hf.1 p x hp hfx
  rcases Nat.lt_trichotomy j i with q | q | q
  · obtain ⟨y, hy, hne⟩ := hbefore j q
    rw [hfx] at hy
    exact hne (Option.some.inj hy).symm
  · subst q
    rw [hnone] at hfx
    cases hfx
  · exact hall i q hnone
theorem ht_put {M : Nat} {h : Nat → Nat} {f : Nat → Option Nat} {x i : Nat} (hf : ht_ok M h f) (hM : 0 < M) (hi : i < M) (hbefore : ∀ i', i' < i → ∃ y, f ((h x + i') % M) = some y ∧ y ≠ x) (hnone : f ((h x + i) % M) = none) : ht_ok M h (va_up f ((h x + i) % M) (some x)) := by
  have hnew := ht_new hf hM hi hbefore hnone
  have keep : ∀ q, f q ≠ none → va_up f ((h x + i) % M) (some x) q ≠ none := by
    intro q hq
    by_cases e : q = (h x + i) % M
    · subst e; exact absurd hnone hq
    · rw [va_up_of e]; exact hq
  refine ⟨fun p y hp hy => ?_, fun p q y hp hq hy1 hy2 => ?_⟩
  · by_cases e : p = (h x + i) % M
    · subst e
      rw [va_up_at] at hy
      cases hy
      refine ⟨i, hi, rfl, fun i' hi' => keep _ ?_⟩
      obtain ⟨y, hy, -⟩ := hbefore i' hi'
      rw [hy]
      intro q; cases q
    · rw [va_up_of e] at hy
      obtain ⟨j, hj, hpj, hall⟩ := hf.1 p y hp hy
      exact ⟨j, hj, hpj, fun i' hi' => keep _ (hall i' hi')⟩
  · by_cases e1 : p = (h x + i) % M
    · by_cases e2 : q = (h x + i) % M
      · rw [e1, e2]
      · subst e1
        rw [va_up_at] at hy1
        cases hy1
        rw [va_up_of e2] at hy2
        exact absurd ⟨q, hq, hy2⟩ hnew
    · by_cases e2 : q = (h x + i) % M
      · subst e2
        rw [va_up_at] at hy2
        cases hy2
        rw [va_up_of e1] at hy1
        exact absurd ⟨p, hp, hy1⟩ hnew
      · rw [va_up_of e1] at hy1
        rw [va_up_of e2] at hy2
        exact hf.2 p q y hp hq hy1 hy2
/-- fewer keys than places: a place is open -/
theorem ht_open {M : Nat} {h : Nat → Nat} {f : Nat → Option Nat} {L : List Nat} (hf : ht_ok M h f) (hL : ∀ p x, p < M → f p = some x → x ∈ L) (hlen : L.length < M) : ∃ p, p < M ∧ f p = none := by
  apply Classical.byContradiction
  intro hn
  have hall : ∀ p, p < M → ∃ x, f p = some x := by
    intro p hp
    cases hh : f p with
    | none => exact absurd ⟨p, hp, hh⟩ hn
    | some x => exact ⟨x, rfl⟩
  have := fb_holes L.length M (fun p => L.idxOf ((f p).getD 0)) (fun p hp => by
    obtain ⟨x, hx⟩ := hall p hp
    simp only [hx, Option.getD_some]
    exact List.idxOf_lt_length_of_mem (hL p x hp hx)) (fun p q hpq hq => by
    obtain ⟨x, hx⟩ := hall p (by omega)
    obtain ⟨y, hy⟩ := hall q hq
    simp only [hx, hy, Option.getD_some]
    intro e
    have h1 := List.getElem_idxOf (List.idxOf_lt_length_of_mem (hL p x (by omega) hx))
    have h2 := List.getElem_idxOf (List.idxOf_lt_length_of_mem (hL q y hq hy))
    have : x = y := by rw [← h1, ← h2]; simp only [e]
    subst this
    have := hf.2 p q x (by omega) hq hx hy
    omega)
  omega
/-- some step of the search comes to an open place -/
theorem ht_reach {M : Nat} {f : Nat → Option Nat} {a : Nat} (hM : 0 < M) (ha : a < M) (ho : ∃ p, p < M ∧ f p = none) : ∃ i, i < M ∧ f ((a + i) % M) = none := by
  obtain ⟨p, hp, hn⟩ := ho
  rcases Nat.lt_or_ge p a with q | q
  · refine ⟨p + M - a, by omega, ?_⟩
    rw [show a + (p + M - a) = p + M by omega, Nat.add_mod_right, Nat.mod_eq_of_lt hp]
    exact hn
  · refine ⟨p - a, by omega, ?_⟩
    rw [show a + (p - a) = p by omega, Nat.mod_eq_of_lt hp]
    exact hn
/-- where the reference's search for v begins -/
def pt_x (v : Nat) : Int64 := (lN v * 40503 + (lN v >>> ((20 : Int32).toInt64 &&& 63)) * 2654435) >>> ((7 : Int32).toInt64 &&& 63)
def pt_h (v : Nat) : Nat := (pt_x v).toBitVec.toNat % 65536
theorem land_i (x : Int64) : (x &&& 65535).toInt32 = nI (x.toBitVec.toNat % 65536) := by
  obtain ⟨n, hn, rfl⟩ : ∃ n, n < 2 ^ 64 ∧ x = lN n := ⟨x.toBitVec.toNat, x.toBitVec.isLt, by
    apply Int64.toBitVec_inj.mp
    show x.toBitVec = BitVec.ofNat 64 x.toBitVec.toNat
    simp⟩
  have e1 : (lN n).toBitVec.toNat = n := by
    show (BitVec.ofNat 64 n).toNat = n
    rw [BitVec.toNat_ofNat]
    exact Nat.mod_eq_of_lt hn
  rw [e1, show (65535 : Int64) = lN 65535 from rfl, fb_andL, lN_i, show (65535 : Nat) = 2 ^ 16 - 1 from rfl, Nat.and_two_pow_sub_one_eq_mod]
/-- the reference's line holds L, its table the same keys -/
def pt_T (L : List Nat) (f : Nat → Option Nat) (mu : pm_I) (nu : pm_J) : Prop :=
  mu 19 23 = nI L.length ∧ (∀ i v, L[i]? = some v → nu 29 i = lN v) ∧ (∀ p, p < 65536 → nu 28 p = (match f p with
    | none => 0
    | some v => lN (v + 1))) ∧ ht_ok 65536 pt_h f ∧ (∀ v, v ∈ L ↔ ∃ p, p < 65536 ∧ f p = some v) ∧ L.Nodup ∧ ∀ v ∈ L, v < 2 ^ 62
section
variable {cx : pm_CX} {d n0 : Nat} {i0 i1 : Option Nat} {ex : List pm_C} {mu : pm_I} {nu : pm_J}
theorem lcmp_eq {a b : Nat} (ha : a < 2 ^ 63) (hb : b < 2 ^ 63) : lg_cmp (lN a) (lN b) = 0 ↔ a = b := by
  unfold lg_cmp
  have e := pk_lEQ ha hb
  have l := pk_lLT hb ha
  by_cases h : a = b
  · subst h
    rw [if_neg (fun q => by have := l.mp q; omega), if_pos rfl]
    simp
  · by_cases h2 : b < a
    · rw [if_pos (l.mpr h2)]
      exact ⟨fun q => absurd q (by decide), fun q => absurd q h⟩
    · rw [if_neg (fun q => h2 (l.mp q)), if_neg (fun q => h (e.mp q))]
      exact ⟨fun q => absurd q (by decide), fun q => absurd q h⟩
theorem nx_slot {a i : Nat} : (nI ((a + i) % 65536) + 1) &&& 65535 = nI ((a + (i + 1)) % 65536) := by
  rw [nI_1, show (65535 : Int32) = nI (2 ^ 16 - 1) from rfl, fa_mask]
  congr 1
  omega
set_option maxRecDepth 100000 in
set_option maxHeartbeats 1000000 in
theorem t_put_l {Q : pm_Po} {L : List Nat} {f : Nat → Option Nat} {v : Nat} {x3 : Int64} (hv : v < 2 ^ 62) (hT : pt_T L f mu nu) (kk : ∀ i, i < 65536 → (∀ i', i' < i → ∃ y, f ((pt_h v + i') % 65536) = some y ∧ y ≠ v) → (f ((pt_h v + i) % 65536) = none ∨ f ((pt_h v + i) % 65536) = some v) → pm_G cx (mX11_put, d, 0, 0, n0, Q) 0 0 64 [some (.ref 19), some (.long (lN v)), none, some (.long x3), none, some (.int (nI ((pt_h v + i) % 65536)))] [] (sh_ i0 i1 ex) mu nu) (io : Nat) (hio : io < 65536) (hopen : f ((pt_h v + io) % 65536) = none) : ∀ (j i : Nat), i + j = io → (∀ i', i' < i → ∃ y, f ((pt_h v + i') % 65536) = some y ∧ y ≠ v) → pm_G cx (mX11_put, d, 0, 0, n0, Q) 0 0 26 [some (.ref 19), some (.long (lN v)), none, some (.long x3), none, some (.int (nI ((pt_h v + i) % 65536)))] [] (sh_ i0 i1 ex) mu nu := by
  obtain ⟨t1, t2, t3, t4, t5, t6, t7⟩ := hT
  intro j
  induction j with
  | zero =>
    intro i hi hb
    have hi : i = io := by omega
    subst hi
    have hlt : (pt_h v + i) % 65536 < 65536 := Nat.mod_lt _ (by omega)
    refine pm_go 9999 (by exact okX11_put) rfl ?_; (try dsimp only [pm_st1, pm_st2, pm_cat2, pm_la, Option.toList, List.cons_append, List.nil_append])
    refine pm_lal (by exact okX11_put) rfl rfl (vp_in_nI hlt (by omega)) ?_
    rw [nI_clamp (by omega), t3 _ hlt, hopen]
    refine pm_go 9999 (by exact okX11_put) rfl ?_; (try dsimp only [pm_st1, pm_st2, pm_cat2, pm_la, Option.toList, List.cons_append, List.nil_append])
    refine pm_zeq (by exact okX11_put) rfl (fun h1 => ?_) (fun h1 => ?_)
    · exact kk i hio hb (Or.inl hopen)
    · exact absurd ((lcmp_eq (a := 0) (b := 0) (by omega) (by omega)).mpr rfl) h1
  | succ j ih =>
    intro i hi hb
    have hlt : (pt_h v + i) % 65536 < 65536 := Nat.mod_lt _ (by omega)
    refine pm_go 9999 (by exact okX11_put) rfl ?_; (try dsimp only [pm_st1, pm_st2, pm_cat2, pm_la, Option.toList, List.cons_append, List.nil_append])
    refine pm_lal (by exact okX11_put) rfl rfl (vp_in_nI hlt (by omega)) ?_
    rw [nI_clamp (by omega), t3 _ hlt]
    cases hf : f ((pt_h v + i) % 65536) with
    | none =>
      refine pm_go 9999 (by exact okX11_put) rfl ?_; (try dsimp only [pm_st1, pm_st2, pm_cat2, pm_la, Option.toList, List.cons_append, List.nil_append])
      refine pm_zeq (by exact okX11_put) rfl (fun h1 => ?_) (fun h1 => ?_)
      · exact kk i (by omega) hb (Or.inl hf)
      · exact absurd ((lcmp_eq (a := 0) (b := 0) (by omega) (by omega)).mpr rfl) h1
    | some y =>
      have hy : y < 2 ^ 62 := t7 y ((t5 y).mpr ⟨_, hlt, hf⟩)
      show pm_G _ _ _ _ _ _ [.long (lN (y + 1))] _ _ _
      refine pm_go 9999 (by exact okX11_put) rfl ?_; (try dsimp only [pm_st1, pm_st2, pm_cat2, pm_la, Option.toList, List.cons_append, List.nil_append])
      refine pm_zeq (by exact okX11_put) rfl (fun h1 => ?_) (fun h1 => ?_)
      · have := (lcmp_eq (a := y + 1) (b := 0) (by omega) (by omega)).mp h1
        omega
      · refine pm_go 9999 (by exact okX11_put) rfl ?_; (try dsimp only [pm_st1, pm_st2, pm_cat2, pm_la, Option.toList, List.cons_append, List.nil_append])
        refine pm_lal (by exact okX11_put) rfl rfl (vp_in_nI hlt (by omega)) ?_
        rw [nI_clamp (by omega), t3 _ hlt, hf]
        show pm_G _ _ _ _ _ _ [.long (lN (y + 1))] _ _ _
        refine pm_go 9999 (by exact okX11_put) rfl ?_; (try dsimp only [pm_st1, pm_st2, pm_cat2, pm_la, Option.toList, List.cons_append, List.nil_append])
        rw [lN_1]
        refine pm_zeq (by exact okX11_put) rfl (fun h2 => ?_) (fun h2 => ?_)
        · have h3 := (lcmp_eq (a := y + 1) (b := v + 1) (by omega) (by omega)).mp h2
          have h3 : y = v := by omega
          subst h3
          exact kk i (by omega) hb (Or.inr hf)
        · have h3 : y ≠ v := fun q => h2 ((lcmp_eq (a := y + 1) (b := v + 1) (by omega) (by omega)).mpr (by omega))
          refine pm_go 26 (by exact okX11_put) rfl ?_; (try dsimp only [pm_st1, pm_st2, pm_cat2, pm_la, Option.toList, List.cons_append, List.nil_append])
          rw [nx_slot]
          refine ih (i + 1) (by omega) (fun i' hi' => ?_)
          rcases Nat.lt_or_ge i' i with q | q
          · exact hb i' q
          · have : i' = i := by omega
            subst this
            exact ⟨y, hf, h3⟩
set_option maxRecDepth 100000 in
set_option maxHeartbeats 1000000 in
theorem t_put {L : List Nat} {f : Nat → Option Nat} {v : Nat} (hv : v < 2 ^ 62) (hT : pt_T L f mu nu) (hlen : L.length < 65536) : pm_T cx mX11_put d 0 0 [.ref 19, .long (lN v)] (sh_ i0 i1 ex) mu nu (fun r sg' mu' nu' => r = none ∧ sg' = sh_ i0 i1 ex ∧ (∀ a, a ≠ 19 → mu' a = mu a) ∧ (∀ j, j ≠ 23 → mu' 19 j = mu 19 j) ∧ (∀ a, a ≠ 28 → a ≠ 29 → nu' a = nu a) ∧ ∃ f', pt_T (if v ∈ L then L else L ++ [v]) f' mu' nu') := by
  obtain ⟨t1, t2, t3, t4, t5, t6, t7⟩ := id hT
  have hh : pt_h v < 65536 := Nat.mod_lt _ (by omega)
  obtain ⟨io, hio, hopen⟩ := ht_reach (M := 65536) (f := f) (a := pt_h v) (by omega) hh (ht_open (L := L) t4 (fun p x hp hx => (t5 x).mpr ⟨p, hp, hx⟩) hlen)
  refine pm_enterN 3 (by exact okX11_put) rfl ?_; dsimp only [pm_la, pm_cat2, List.replicate, List.cons_append, List.nil_append, List.append_nil]
  refine pm_go 26 (by exact okX11_put) rfl ?_; (try dsimp only [pm_st1, pm_st2, pm_cat2, pm_la, Option.toList, List.cons_append, List.nil_append])
  refine pm_G.cast (L' := [some (.ref 19), some (.long (lN v)), none, some (.long (lN v * 40503 + (lN v >>> ((20 : Int32).toInt64 &&& 63)) * 2654435)), none, some (.int (nI ((pt_h v + 0) % 65536)))]) (S' := []) (mu' := mu) (nu' := nu) ?_ ?_ rfl rfl rfl
  · refine t_put_l hv hT (fun i hi hb hor => ?_) io hio hopen io 0 (by omega) (fun i' hi' => absurd hi' (by omega))
    have hlt : (pt_h v + i) % 65536 < 65536 := Nat.mod_lt _ (by omega)
    refine pm_go 9999 (by exact okX11_put) rfl ?_; (try dsimp only [pm_st1, pm_st2, pm_cat2, pm_la, Option.toList, List.cons_append, List.nil_append])
    refine pm_lal (by exact okX11_put) rfl rfl (vp_in_nI hlt (by omega)) ?_
    rw [nI_clamp (by omega), t3 _ hlt]
    rcases hor with hf | hf
    · rw [hf]
      have hnew : v ∉ L := fun q => ht_new t4 (by omega) hi hb hf ((t5 v).mp q)
      refine pm_go 9999 (by exact okX11_put) rfl ?_; (try dsimp only [pm_st1, pm_st2, pm_cat2, pm_la, Option.toList, List.cons_append, List.nil_append])
      refine pm_zne (by exact okX11_put) rfl (fun h1 => ?_) (fun h1 => ?_)
      · exact absurd ((lcmp_eq (a := 0) (b := 0) (by omega) (by omega)).mpr rfl) h1
      · refine pm_go 9999 (by exact okX11_put) rfl ?_; (try dsimp only [pm_st1, pm_st2, pm_cat2, pm_la, Option.toList, List.cons_append, List.nil_append])
        rw [lN_1]
        refine pm_las (by exact okX11_put) rfl rfl (vp_in_nI hlt (by omega)) ?_
        rw [nI_clamp (by omega)]
        refine pm_go 9999 (by exact okX11_put) rfl ?_; (try dsimp only [pm_st1, pm_st2, pm_cat2, pm_la, Option.toList, List.cons_append, List.nil_append])
        rw [t1]
        refine pm_las (by exact okX11_put) rfl rfl (vp_in_nI hlen (by omega)) ?_
        rw [nI_clamp (by omega)]
        refine pm_go 9999 (by exact okX11_put) rfl ?_; (try dsimp only [pm_st1, pm_st2, pm_cat2, pm_la, Option.toList, List.cons_append, List.nil_append])
        rw [t1, nI_1]
        refine pm_rv (by exact okX11_put) rfl rfl (Nat.le_refl _) (Nat.le_refl _) (⟨rfl, rfl, fun a ha => pm_up_ne ha, fun j hj => pm_up_of hj, fun a q1 q2 => by rw [pm_uq_ne q2, pm_uq_ne q1], va_up f ((pt_h v + i) % 65536) (some v), ?_⟩)
        rw [if_neg hnew]
        refine ⟨by rw [pm_up_at, List.length_append]; rfl, fun k x hk => ?_, fun p hp => ?_, ht_put t4 (by omega) hi hb hf, fun x => ?_, ?_, fun x hx => ?_⟩
        · rcases app_get hk with ⟨q1, q2⟩ | ⟨q1, q2⟩
          · rw [pm_uq_of (by omega), pm_uq_ne (by omega)]
            exact t2 k x q2
          · subst q1; subst q2
            rw [pm_uq_at]
        · rw [pm_uq_ne (by omega)]
          by_cases e : p = (pt_h v + i) % 65536
          · subst e; rw [pm_uq_at, va_up_at]
          · rw [pm_uq_of e, va_up_of e]; exact t3 p hp
        · rw [List.mem_append, List.mem_singleton, t5 x]
          constructor
          · rintro (⟨p, hp, hx⟩ | rfl)
            · refine ⟨p, hp, ?_⟩
              rw [va_up_of (fun e => by subst e; rw [hf] at hx; cases hx)]
              exact hx
            · exact ⟨_, hlt, va_up_at⟩
          · rintro ⟨p, hp, hx⟩
            by_cases e : p = (pt_h v + i) % 65536
            · subst e
              rw [va_up_at] at hx
              cases hx
              exact Or.inr rfl
            · rw [va_up_of e] at hx
              exact Or.inl ⟨p, hp, hx⟩
        · rw [List.nodup_append]
          refine ⟨t6, by simp, fun x hx y hy => ?_⟩
          simp at hy
          subst hy
          intro q
          subst q
          exact hnew hx
        · rcases List.mem_append.mp hx with q | q
          · exact t7 x q
          · simp at q; subst q; exact hv
    · have hin : v ∈ L := (t5 v).mpr ⟨_, hlt, hf⟩
      rw [hf]
      show pm_G _ _ _ _ _ _ [.long (lN (v + 1))] _ _ _
      refine pm_go 9999 (by exact okX11_put) rfl ?_; (try dsimp only [pm_st1, pm_st2, pm_cat2, pm_la, Option.toList, List.cons_append, List.nil_append])
      refine pm_zne (by exact okX11_put) rfl (fun h1 => ?_) (fun h1 => ?_)
      · refine pm_go 9999 (by exact okX11_put) rfl ?_; (try dsimp only [pm_st1, pm_st2, pm_cat2, pm_la, Option.toList, List.cons_append, List.nil_append])
        refine pm_rv (by exact okX11_put) rfl rfl (Nat.le_refl _) (Nat.le_refl _) (⟨rfl, rfl, fun a ha => rfl, fun j hj => rfl, fun a q1 q2 => rfl, f, ?_⟩)
        rw [if_pos hin]
        exact hT
      · have := (lcmp_eq (a := v + 1) (b := 0) (by omega) (by omega)).mp h1
        omega
  · rw [show nI ((pt_h v + 0) % 65536) = nI (pt_h v) by rw [Nat.add_zero, Nat.mod_eq_of_lt hh]]
    have : (pt_x v &&& 65535).toInt32 = nI (pt_h v) := land_i _
    rw [← this]
    rfl
end
end
section
/-! ===== Math.max, Math.min, System.arraycopy ===== -/
theorem pm_max_in : Cond.code Lib.Math.max.name Lib.Math.max.code 2 (some .int) ∈ pm_tbl := by decide +kernel
theorem pm_min_in : Cond.code Lib.Math.min.name Lib.Math.min.code 2 (some .int) ∈ pm_tbl := by decide +kernel
theorem pm_cpy_in : Cond.native arraycopyName ∈ pm_tbl := by decide +kernel
section
variable {cx : pm_CX} {fx : pm_FX} {cells slots pc nx : Nat} {L : pm_L} {S : List Value} {sg : List pm_C} {mu : pm_I} {nu : pm_J}
theorem pm_mmax (hok : pm_ok fx.1 = true) {k : Nat} {x y : Int32} (h : pm_ent fx.1.2.2.2.2 pc = some ((.invokestatic k, 3, .inr (.inr (.inr yJ9_max_7cf53))), nx)) (hd : 1 ≤ fx.2.1) (hc : (S.map fun v => v.category).sum ≤ 8) (hm : cells ≤ fx.2.2.1 ∧ slots ≤ fx.2.2.2.1) (kk : pm_G cx fx cells slots nx L (.int (if x < y then y else x) :: S) sg mu nu) : pm_G cx fx cells slots pc L (.int y :: .int x :: S) sg mu nu := by
  obtain ⟨he, rfl⟩ := pm_ent_ok hok h
  have hw2 := (Bool.and_eq_true_iff.mp he).2
  replace hw2 : (decide (Cond.methodLink fx.1.1.cls k yJ9_max_7cf53 ∈ pm_tbl) && (decide (Cond.static yJ9_max_7cf53 ∈ pm_tbl) && decide (Cond.initialized yJ9_max_7cf53.cls ∈ pm_tbl))) = true := hw2
  simp only [Bool.and_eq_true, decide_eq_true_eq] at hw2
  obtain ⟨w1, w2, w3⟩ := hw2
  refine pm_G.stk (fun p e s m args below meth c A al0 al H locs ls Q hS hD kk => ?_) kk
  obtain ⟨hx, hb, hr, hml, hown, hts, hlk, hnam, hA, hK, hN⟩ := id hS
  have tw : ∀ {w : Cond}, w ∈ pm_tbl → w.before args s = true := fun hw => hts _ (List.mem_cons_of_mem _ hw)
  refine va_mmax hx hb (by rw [hml]; exact hD.2.2.2.2.2.1.symm) hown (tw w1) (tw w2) (tw w3) (tw pm_max_in) hd ?_ hm.1 hm.2 (pm_dc he) kk
  have := pm_cats (al := al) hc
  show _ + 13 ≤ fx.2.1 * 64
  omega
theorem pm_mmin (hok : pm_ok fx.1 = true) {k : Nat} {x y : Int32} (h : pm_ent fx.1.2.2.2.2 pc = some ((.invokestatic k, 3, .inr (.inr (.inr yJ9_min_7cf53))), nx)) (hd : 1 ≤ fx.2.1) (hc : (S.map fun v => v.category).sum ≤ 8) (hm : cells ≤ fx.2.2.1 ∧ slots ≤ fx.2.2.2.1) (kk : pm_G cx fx cells slots nx L (.int (if y < x then y else x) :: S) sg mu nu) : pm_G cx fx cells slots pc L (.int y :: .int x :: S) sg mu nu := by
  obtain ⟨he, rfl⟩ := pm_ent_ok hok h
  have hw2 := (Bool.and_eq_true_iff.mp he).2
  replace hw2 : (decide (Cond.methodLink fx.1.1.cls k yJ9_min_7cf53 ∈ pm_tbl) && (decide (Cond.static yJ9_min_7cf53 ∈ pm_tbl) && decide (Cond.initialized yJ9_min_7cf53.cls ∈ pm_tbl))) = true := hw2
  simp only [Bool.and_eq_true, decide_eq_true_eq] at hw2
  obtain ⟨w1, w2, w3⟩ := hw2
  refine pm_G.stk (fun p e s m args below meth c A al0 al H locs ls Q hS hD kk => ?_) kk
  obtain ⟨hx, hb, hr, hml, hown, hts, hlk, hnam, hA, hK, hN⟩ := id hS
  have tw : ∀ {w : Cond}, w ∈ pm_tbl → w.before args s = true := fun hw => hts _ (List.mem_cons_of_mem _ hw)
  refine va_mmin hx hb (by rw [hml]; exact hD.2.2.2.2.2.1.symm) hown (tw w1) (tw w2) (tw w3) (tw pm_min_in) hd ?_ hm.1 hm.2 (pm_dc he) kk
  have := pm_cats (al := al) hc
  show _ + 13 ≤ fx.2.1 * 64
  omega
/-- n ints copied, from the arrays' beginnings -/
theorem pm_cpy (hok : pm_ok fx.1 = true) {k a b na nb n : Nat} {ra rb : List (Option (Option Nat))} (h : pm_ent fx.1.2.2.2.2 pc = some ((.invokestatic k, 3, .inr (.inr (.inr arraycopyName))), nx)) (ha : sg[a]? = some (1, na, ra)) (hb : sg[b]? = some (1, nb, rb)) (hn : n < 2 ^ 31) (hna : n ≤ na) (hnb : n ≤ nb) (hd : 1 ≤ fx.2.1) (hc : (S.map fun v => v.category).sum ≤ 8) (kk : pm_G cx fx cells slots nx L S sg (fun q => if q = b then (fun j => if j < n then mu a j else mu b j) else mu q) nu) : pm_G cx fx cells slots pc L (.int (nI n) :: .int 0 :: .ref b :: .int 0 :: .ref a :: S) sg mu nu := by
  obtain ⟨he, rfl⟩ := pm_ent_ok hok h
  have hw2 := (Bool.and_eq_true_iff.mp he).2
  replace hw2 : (decide (Cond.methodLink fx.1.1.cls k arraycopyName ∈ pm_tbl) && (decide (Cond.static arraycopyName ∈ pm_tbl) && decide (Cond.initialized arraycopyName.cls ∈ pm_tbl))) = true := hw2
  simp only [Bool.and_eq_true, decide_eq_true_eq] at hw2
  obtain ⟨w1, w2, w3⟩ := hw2
  intro p e s m args below meth c A al0 al H locs ls hS hD
  obtain ⟨hx, hb', hr, hml, hown, hts, hlk, hnam, hA, hK, hN⟩ := id hS
  have tw : ∀ {w : Cond}, w ∈ pm_tbl → w.before args s = true := fun hw => hts _ (List.mem_cons_of_mem _ hw)
  have en : (nI n).toNatClampNeg = n := nI_clamp hn
  have e0 : (0 : Int32).toNatClampNeg = 0 := rfl
  refine va_copyi hx hb' (by rw [hml]; exact hD.2.2.2.2.2.1.symm) hown (tw w1) (tw pm_cpy_in) (tw w2) (tw w3) hK hD.2.2.1 hD.2.2.2.1 hD.2.2.2.2.1 a b 0 0 (pm_W_at ha) (pm_W_at hb) rfl rfl rfl (by decide) (by decide) (fun q => by have := lt_toInt.mp q; rw [nI_toInt hn] at this; have h3 : (0 : Int32).toInt = 0 := rfl; omega) (by rw [en, e0]; omega) (by rw [en, e0]; omega) (fun i hi => rfl) hd ?_ (pm_dc he) (fun H1 locs1 hP1 hD1 hS1 => ?_)
  · have := pm_cats (al := al) hc
    have e5 : nativeFrameWords "java/lang/System" "arraycopy" 5 + 11 ≤ 40 := by decide
    show _ + (nativeFrameWords "java/lang/System" "arraycopy" 5 + 11) ≤ fx.2.1 * 64
    omega
  · have e1 : (pm_W cx.2.2.2 al mu nu 0 sg).set b (al b, .inl (cx.2.2.2 0, nb, .inl (va_cpy (mu a) (mu b) (0 : Int32).toNatClampNeg (0 : Int32).toNatClampNeg (nI n).toNatClampNeg))) = pm_W cx.2.2.2 al (fun q => if q = b then (fun j => if j < n then mu a j else mu b j) else mu q) nu 0 sg := by
      refine pm_W_set rfl (fun q c hq hc => ⟨hc, if_neg hq, rfl⟩) (fun c hc => ?_)
      rw [hb] at hc
      cases hc
      show Sum.inl _ = _
      dsimp only
      rw [if_pos rfl, en, e0]
      congr 4
      funext j
      unfold va_cpy
      by_cases hj : j < n
      · rw [if_pos hj, if_pos ⟨Nat.zero_le _, by omega⟩]; congr 1; omega
      · rw [if_neg hj, if_neg (by omega)]
    rw [e1] at hP1 hD1
    exact kk p e s m args below meth c A al0 al H1 locs1 ls hS ⟨hD.1, hD.2.1, hP1, hD1, hS1, hD.2.2.2.2.2⟩
end
end
section
/-! ===== the class's stands: THE ROW and what has BLOOMED in one number ===== -/
def st_p : List Nat → Nat
  | [] => 0
  | b :: t => st_p t + b * 8 ^ t.length
def st_s : List Nat → Nat
  | [] => 0
  | b :: t => st_s t ||| 2 ^ b
def st_k (r : List Nat) (s : Nat) : Nat := 2 ^ 18 * (2 ^ 6 * s + st_s r) + st_p r
theorem st_p_lt : ∀ (r : List Nat), md_ok r → st_p r < 8 ^ r.length := by
  intro r
  induction r with
  | nil => intro _; decide
  | cons b t ih =>
    intro h
    have h1 := ih (md_ok_t h)
    have h2 := md_ok_h h
    simp only [st_p, List.length_cons, Nat.pow_succ]
    have : b * 8 ^ t.length ≤ 5 * 8 ^ t.length := Nat.mul_le_mul_right _ (by omega)
    omega
theorem st_p_18 {r : List Nat} (h : md_ok r) (hl : r.length ≤ 6) : st_p r < 262144 := by
  have h1 := st_p_lt r h
  have h2 : 8 ^ r.length ≤ 8 ^ 6 := Nat.pow_le_pow_right (by omega) hl
  omega
theorem st_s_lt : ∀ (r : List Nat), md_ok r → st_s r < 64 := by
  intro r
  induction r with
  | nil => intro _; decide
  | cons b t ih => intro h; exact or_lt (ih (md_ok_t h)) (md_ok_h h)
theorem st_s_bit (b : Nat) : ∀ (r : List Nat), (st_s r).testBit b = true ↔ b ∈ r := by
  intro r
  induction r with
  | nil => simp [st_s]
  | cons a t ih =>
    simp only [st_s]
    rw [tb_set, Bool.or_eq_true, ih, decide_eq_true_iff, List.mem_cons]
    constructor
    · rintro (q | q)
      · exact Or.inr q
      · exact Or.inl q.symm
    · rintro (q | q)
      · exact Or.inr q.symm
      · exact Or.inl q
theorem bc_add : ∀ x, x < 64 → ∀ b, b < 6 → x.testBit b = false → md_bc (x ||| 2 ^ b) 6 = md_bc x 6 + 1 := by decide +kernel
theorem st_s_bc : ∀ (r : List Nat), md_ok r → r.Nodup → md_bc (st_s r) 6 = r.length := by
  intro r
  induction r with
  | nil => intro _ _; rfl
  | cons b t ih =>
    intro h hn
    obtain ⟨n1, n2⟩ := List.nodup_cons.mp hn
    simp only [st_s, List.length_cons]
    rw [bc_add _ (st_s_lt t (md_ok_t h)) b (md_ok_h h), ih (md_ok_t h) n2]
    cases hh : (st_s t).testBit b with
    | false => rfl
    | true => exact absurd ((st_s_bit b t).mp hh) n1
theorem st_k_lt {B : Nat} {r : List Nat} {s : Nat} (hR : rOK B r s) (hB : B ≤ 6) : st_k r s < 2 ^ 30 := by
  have h1 := st_p_18 (rOK_ok hR hB) (rOK_len hR hB)
  have h2 := st_s_lt r (rOK_ok hR hB)
  have h3 := rOK_s hR hB
  unfold st_k
  omega
theorem st_row {B : Nat} {r : List Nat} {s : Nat} (hR : rOK B r s) (hB : B ≤ 6) : st_k r s / 2 ^ 18 % 2 ^ 6 = st_s r := by
  have h1 := st_p_18 (rOK_ok hR hB) (rOK_len hR hB)
  have h2 := st_s_lt r (rOK_ok hR hB)
  unfold st_k
  omega
theorem st_blo {B : Nat} {r : List Nat} {s : Nat} (hR : rOK B r s) (hB : B ≤ 6) : st_k r s / 2 ^ 24 % 2 ^ 6 = s := by
  have h1 := st_p_18 (rOK_ok hR hB) (rOK_len hR hB)
  have h2 := st_s_lt r (rOK_ok hR hB)
  have h3 := rOK_s hR hB
  unfold st_k
  omega
theorem ushr_n {n k : Nat} (hn : n < 2 ^ 32) (hk : k < 32) : pm_ushr (nI n) (nI k) = nI (n / 2 ^ k) := pk_ushrN hn (nI k) k (su_ k hk)
theorem and_n {n : Nat} (hn : n < 2 ^ 32) (k : Nat) (hk : k < 31) : nI n &&& nI (2 ^ k - 1) = nI (n % 2 ^ k) := fa_mask n k
section
variable {cx : pm_CX} {d n0 : Nat} {sg : List pm_C} {mu : pm_I} {nu : pm_J}
set_option maxRecDepth 100000 in
set_option maxHeartbeats 1000000 in
theorem t_at {n p : Nat} (hn : n < 2 ^ 31) (hp : p ≤ 8) : pm_T cx mX6_at d 0 0 [.int (nI n), .int (nI p)] sg mu nu (pm_ret (some (.int (nI (n / 2 ^ (3 * p) % 8)))) sg mu nu) := by
  have e : (3 : Int32) * nI p = nI (3 * p) := pk_mul 3 p
  refine pm_enterN 0 (by exact okX6_at) rfl ?_; dsimp only [pm_la, pm_cat2, List.replicate, List.cons_append, List.nil_append, List.append_nil]
  refine pm_go 9999 (by exact okX6_at) rfl ?_; (try dsimp only [pm_st1, pm_st2, pm_cat2, pm_la, Option.toList, List.cons_append, List.nil_append])
  rw [e, ushr_n (by omega) (by omega), show (7 : Int32) = nI (2 ^ 3 - 1) from rfl, fa_mask]
  refine pm_ri (by exact okX6_at) rfl rfl rfl (Nat.le_refl _) (Nat.le_refl _) (⟨rfl, rfl, rfl, rfl⟩)
set_option maxRecDepth 100000 in
set_option maxHeartbeats 1000000 in
theorem t_put6 {b p : Nat} (hb : b * 2 ^ (3 * p) < 2 ^ 32) (hp : p ≤ 8) : pm_T cx mX6_put d 0 0 [.int (nI b), .int (nI p)] sg mu nu (pm_ret (some (.int (nI (b * 2 ^ (3 * p))))) sg mu nu) := by
  have e : (3 : Int32) * nI p = nI (3 * p) := pk_mul 3 p
  refine pm_enterN 0 (by exact okX6_put) rfl ?_; dsimp only [pm_la, pm_cat2, List.replicate, List.cons_append, List.nil_append, List.append_nil]
  refine pm_go 9999 (by exact okX6_put) rfl ?_; (try dsimp only [pm_st1, pm_st2, pm_cat2, pm_la, Option.toList, List.cons_append, List.nil_append])
  rw [e, pk_shlN (n := b) _ (3 * p) (sl_ (3 * p) (by omega)) hb]
  refine pm_ri (by exact okX6_put) rfl rfl rfl (Nat.le_refl _) (Nat.le_refl _) (⟨rfl, rfl, rfl, rfl⟩)
/-- what bitCount does to its number -/
def bit_f (x : Int32) : Int32 :=
  let a := x - (pm_ushr x 1 &&& 1431655765)
  let b := (a &&& 858993459) + (pm_ushr a 2 &&& 858993459)
  let c := b + pm_ushr b 4 &&& 252645135
  let e := c + pm_ushr c 8
  (e + pm_ushr e 16) &&& 63
theorem bit_f_ok : ∀ n, n < 64 → bit_f (nI n) = nI (md_bc n 6) := by decide +kernel
set_option maxRecDepth 100000 in
set_option maxHeartbeats 1000000 in
theorem t_bitCount {n : Nat} (hn : n < 64) : pm_T cx mJ6_bitCount_0f7a4 d 0 0 [.int (nI n)] sg mu nu (pm_ret (some (.int (nI (md_bc n 6)))) sg mu nu) := by
  rw [← bit_f_ok n hn]
  refine pm_enterN 0 (by exact okJ6_bitCount_0f7a4) rfl ?_; dsimp only [pm_la, pm_cat2, List.replicate, List.cons_append, List.nil_append, List.append_nil]
  refine pm_go 9999 (by exact okJ6_bitCount_0f7a4) rfl ?_; (try dsimp only [pm_st1, pm_st2, pm_cat2, pm_la, Option.toList, List.cons_append, List.nil_append])
  refine pm_ri (by exact okJ6_bitCount_0f7a4) rfl rfl rfl (Nat.le_refl _) (Nat.le_refl _) (⟨rfl, rfl, rfl, rfl⟩)
set_option maxRecDepth 100000 in
set_option maxHeartbeats 1000000 in
theorem t_length {B : Nat} {r : List Nat} {s : Nat} (hR : rOK B r s) (hB : B ≤ 6) (hd : 1 ≤ d) : pm_T cx mX8_length d 0 0 [.int (nI (st_k r s))] sg mu nu (pm_ret (some (.int (nI r.length))) sg mu nu) := by
  have hk := st_k_lt hR hB
  have h2 := st_s_lt r (rOK_ok hR hB)
  refine pm_enterN 0 (by exact okX8_length) rfl ?_; dsimp only [pm_la, pm_cat2, List.replicate, List.cons_append, List.nil_append, List.append_nil]
  refine pm_go 9999 (by exact okX8_length) rfl ?_; (try dsimp only [pm_st1, pm_st2, pm_cat2, pm_la, Option.toList, List.cons_append, List.nil_append])
  rw [show (18 : Int32) = nI 18 from rfl, ushr_n (by omega) (by omega), show (63 : Int32) = nI (2 ^ 6 - 1) from rfl, fa_mask, st_row hR hB]
  refine pm_cs (by exact okX8_length) (by exact okJ6_bitCount_0f7a4) rfl (by exact arJ6_bitCount_0f7a4) (t_bitCount (d := 0) h2) rfl (by dsimp only; omega) rfl (Nat.le_of_ble_eq_true rfl) ⟨Nat.zero_le _, Nat.zero_le _⟩ ?_
  rintro _ _ _ _ ⟨rfl, rfl, rfl, rfl⟩ -
  rw [st_s_bc r (rOK_ok hR hB) hR.1]
  refine pm_go 9999 (by exact okX8_length) rfl ?_; (try dsimp only [pm_st1, pm_st2, pm_cat2, pm_la, Option.toList, List.cons_append, List.nil_append])
  refine pm_ri (by exact okX8_length) rfl rfl rfl (Nat.le_refl _) (Nat.le_refl _) (⟨rfl, rfl, rfl, rfl⟩)
set_option maxRecDepth 100000 in
set_option maxHeartbeats 1000000 in
theorem t_numberBloomed {B : Nat} {r : List Nat} {s : Nat} (hR : rOK B r s) (hB : B ≤ 6) (hd : 1 ≤ d) : pm_T cx mX8_numberBloomed d 0 0 [.int (nI (st_k r s))] sg mu nu (pm_ret (some (.int (nI (md_bc s 6)))) sg mu nu) := by
  have hk := st_k_lt hR hB
  have h3 := rOK_s hR hB
  refine pm_enterN 0 (by exact okX8_numberBloomed) rfl ?_; dsimp only [pm_la, pm_cat2, List.replicate, List.cons_append, List.nil_append, List.append_nil]
  refine pm_go 9999 (by exact okX8_numberBloomed) rfl ?_; (try dsimp only [pm_st1, pm_st2, pm_cat2, pm_la, Option.toList, List.cons_append, List.nil_append])
  rw [show (24 : Int32) = nI 24 from rfl, ushr_n (by omega) (by omega), show (63 : Int32) = nI (2 ^ 6 - 1) from rfl, fa_mask, st_blo hR hB]
  refine pm_cs (by exact okX8_numberBloomed) (by exact okJ6_bitCount_0f7a4) rfl (by exact arJ6_bitCount_0f7a4) (t_bitCount (d := 0) h3) rfl (by dsimp only; omega) rfl (Nat.le_of_ble_eq_true rfl) ⟨Nat.zero_le _, Nat.zero_le _⟩ ?_
  rintro _ _ _ _ ⟨rfl, rfl, rfl, rfl⟩ -
  refine pm_go 9999 (by exact okX8_numberBloomed) rfl ?_; (try dsimp only [pm_st1, pm_st2, pm_cat2, pm_la, Option.toList, List.cons_append, List.nil_append])
  refine pm_ri (by exact okX8_numberBloomed) rfl rfl rfl (Nat.le_refl _) (Nat.le_refl _) (⟨rfl, rfl, rfl, rfl⟩)
set_option maxRecDepth 100000 in
set_option maxHeartbeats 1000000 in
theorem t_bedAt {n p : Nat} (hn : n < 2 ^ 31) (hp : p ≤ 8) (hd : 1 ≤ d) : pm_T cx mX8_bedAt d 0 0 [.int (nI n), .int (nI p)] sg mu nu (pm_ret (some (.int (nI (n / 2 ^ (3 * p) % 8)))) sg mu nu) := by
  refine pm_enterN 0 (by exact okX8_bedAt) rfl ?_; dsimp only [pm_la, pm_cat2, List.replicate, List.cons_append, List.nil_append, List.append_nil]
  refine pm_go 9999 (by exact okX8_bedAt) rfl ?_; (try dsimp only [pm_st1, pm_st2, pm_cat2, pm_la, Option.toList, List.cons_append, List.nil_append])
  refine pm_cs (by exact okX8_bedAt) (by exact okX6_at) rfl (by exact arX6_at) (t_at (d := 0) hn hp) rfl (by dsimp only; omega) rfl (Nat.le_of_ble_eq_true rfl) ⟨Nat.zero_le _, Nat.zero_le _⟩ ?_
  rintro _ _ _ _ ⟨rfl, rfl, rfl, rfl⟩ -
  refine pm_go 9999 (by exact okX8_bedAt) rfl ?_; (try dsimp only [pm_st1, pm_st2, pm_cat2, pm_la, Option.toList, List.cons_append, List.nil_append])
  refine pm_ri (by exact okX8_bedAt) rfl rfl rfl (Nat.le_refl _) (Nat.le_refl _) (⟨rfl, rfl, rfl, rfl⟩)
theorem st_bit {n a b : Nat} (hn : n < 2 ^ 31) (hab : a + b < 31) : pm_ushr (nI n) (nI a + nI b) &&& 1 = bI (n.testBit (a + b) = true) := by
  rw [nI_add, ushr_n (by omega) (by omega), show (1 : Int32) = nI (2 ^ 1 - 1) from rfl, fa_mask]
  rw [Nat.testBit_eq_decide_div_mod_eq]
  show nI (n / 2 ^ (a + b) % 2) = bI (decide (n / 2 ^ (a + b) % 2 = 1) = true)
  have h2 : n / 2 ^ (a + b) % 2 < 2 := Nat.mod_lt _ (by omega)
  generalize n / 2 ^ (a + b) % 2 = x at h2 ⊢
  rcases (show x = 0 ∨ x = 1 by omega) with rfl | rfl <;> rfl
theorem st_k_row {B : Nat} {r : List Nat} {s b : Nat} (hR : rOK B r s) (hB : B ≤ 6) (hb : b < 6) : (st_k r s).testBit (18 + b) = true ↔ b ∈ r := by
  have h1 := st_p_18 (rOK_ok hR hB) (rOK_len hR hB)
  rw [← st_s_bit b r, ← st_row hR hB, Nat.testBit_mod_two_pow, Nat.testBit_div_two_pow]
  simp [hb]
  rw [Nat.add_comm]
theorem st_k_blo {B : Nat} {r : List Nat} {s b : Nat} (hR : rOK B r s) (hB : B ≤ 6) (hb : b < 6) : (st_k r s).testBit (24 + b) = true ↔ s.testBit b = true := by
  conv => rhs; rw [← st_blo hR hB, Nat.testBit_mod_two_pow, Nat.testBit_div_two_pow]
  simp [hb]
  rw [Nat.add_comm]
set_option maxRecDepth 100000 in
set_option maxHeartbeats 1000000 in
theorem t_isInRow {B : Nat} {r : List Nat} {s b : Nat} (hR : rOK B r s) (hB : B ≤ 6) (hb : b < 6) : pm_T cx mX8_isInRow d 0 0 [.int (nI (st_k r s)), .int (nI b)] sg mu nu (pm_ret (some (.int (bI (b ∈ r)))) sg mu nu) := by
  have hk := st_k_lt hR hB
  have e := st_bit (n := st_k r s) (a := 18) (b := b) (by omega) (by omega)
  have e2 := st_k_row hR hB hb
  refine pm_enterN 0 (by exact okX8_isInRow) rfl ?_; dsimp only [pm_la, pm_cat2, List.replicate, List.cons_append, List.nil_append, List.append_nil]
  refine pm_go 9999 (by exact okX8_isInRow) rfl ?_; (try dsimp only [pm_st1, pm_st2, pm_cat2, pm_la, Option.toList, List.cons_append, List.nil_append])
  rw [show (18 : Int32) = nI 18 from rfl, e, bI_c e2]
  refine pm_ine (by exact okX8_isInRow) rfl (fun h1 => ?_) (fun h1 => ?_)
  · have h2 : ¬ b ∈ r := fun q => h1 (bI_1 q)
    refine pm_go 9999 (by exact okX8_isInRow) rfl ?_; (try dsimp only [pm_st1, pm_st2, pm_cat2, pm_la, Option.toList, List.cons_append, List.nil_append])
    refine pm_ri (by exact okX8_isInRow) rfl rfl rfl (Nat.le_refl _) (Nat.le_refl _) (⟨by rw [bI_0 h2], rfl, rfl, rfl⟩)
  · have h2 : b ∈ r := by
      by_cases q : b ∈ r
      · exact q
      · rw [bI_0 q] at h1; exact absurd h1 (by decide)
    refine pm_go 9999 (by exact okX8_isInRow) rfl ?_; (try dsimp only [pm_st1, pm_st2, pm_cat2, pm_la, Option.toList, List.cons_append, List.nil_append])
    refine pm_ri (by exact okX8_isInRow) rfl rfl rfl (Nat.le_refl _) (Nat.le_refl _) (⟨by rw [bI_1 h2], rfl, rfl, rfl⟩)
set_option maxRecDepth 100000 in
set_option maxHeartbeats 1000000 in
theorem t_hasBloomed {B : Nat} {r : List Nat} {s b : Nat} (hR : rOK B r s) (hB : B ≤ 6) (hb : b < 6) : pm_T cx mX8_hasBloomed d 0 0 [.int (nI (st_k r s)), .int (nI b)] sg mu nu (pm_ret (some (.int (bI (s.testBit b = true)))) sg mu nu) := by
  have hk := st_k_lt hR hB
  have e := st_bit (n := st_k r s) (a := 24) (b := b) (by omega) (by omega)
  have e2 := st_k_blo hR hB hb
  refine pm_enterN 0 (by exact okX8_hasBloomed) rfl ?_; dsimp only [pm_la, pm_cat2, List.replicate, List.cons_append, List.nil_append, List.append_nil]
  refine pm_go 9999 (by exact okX8_hasBloomed) rfl ?_; (try dsimp only [pm_st1, pm_st2, pm_cat2, pm_la, Option.toList, List.cons_append, List.nil_append])
  rw [show (24 : Int32) = nI 24 from rfl, e, bI_c e2]
  refine pm_ine (by exact okX8_hasBloomed) rfl (fun h1 => ?_) (fun h1 => ?_)
  · have h2 : ¬ s.testBit b = true := fun q => h1 (bI_1 q)
    refine pm_go 9999 (by exact okX8_hasBloomed) rfl ?_; (try dsimp only [pm_st1, pm_st2, pm_cat2, pm_la, Option.toList, List.cons_append, List.nil_append])
    refine pm_ri (by exact okX8_hasBloomed) rfl rfl rfl (Nat.le_refl _) (Nat.le_refl _) (⟨by rw [bI_0 h2], rfl, rfl, rfl⟩)
  · have h2 : s.testBit b = true := by
      by_cases q : s.testBit b = true
      · exact q
      · rw [bI_0 q] at h1; exact absurd h1 (by decide)
    refine pm_go 9999 (by exact okX8_hasBloomed) rfl ?_; (try dsimp only [pm_st1, pm_st2, pm_cat2, pm_la, Option.toList, List.cons_append, List.nil_append])
    refine pm_ri (by exact okX8_hasBloomed) rfl rfl rfl (Nat.le_refl _) (Nat.le_refl _) (⟨by rw [bI_1 h2], rfl, rfl, rfl⟩)
/-- a place of THE ROW -/
theorem st_p_app : ∀ (u v : List Nat), st_p (u ++ v) = st_p v + 8 ^ v.length * st_p u := by
  intro u v
  induction u with
  | nil => simp [st_p]
  | cons b t ih =>
    simp only [List.cons_append, st_p, List.length_append]
    rw [ih, Nat.pow_add, Nat.mul_add]
    have : b * (8 ^ t.length * 8 ^ v.length) = 8 ^ v.length * (b * 8 ^ t.length) := by
      rw [Nat.mul_comm (8 ^ t.length), ← Nat.mul_assoc, ← Nat.mul_assoc, Nat.mul_comm b]
    omega
theorem st_at {B p : Nat} {r : List Nat} {s : Nat} (hR : rOK B r s) (hB : B ≤ 6) (hp : p < r.length) : st_k r s / 2 ^ (3 * p) % 8 = r.getD (r.length - 1 - p) 0 := by
  have hok := rOK_ok hR hB
  have hln := rOK_len hR hB
  have hlt : r.length - 1 - p < r.length := by omega
  obtain ⟨u, x, v, hr, hv⟩ : ∃ u x v, r = u ++ x :: v ∧ v.length = p := by
    refine ⟨r.take (r.length - 1 - p), r[r.length - 1 - p], r.drop (r.length - 1 - p + 1), ?_, by rw [List.length_drop]; omega⟩
    rw [← List.drop_eq_getElem_cons hlt, List.take_append_drop]
  have hx : x < 6 := hok x (by rw [hr]; simp)
  have hul : u.length = r.length - 1 - p := by rw [hr, List.length_append, List.length_cons]; omega
  have hget : r.getD (r.length - 1 - p) 0 = x := by
    rw [← hul, List.getD_eq_getElem?_getD]
    conv => lhs; rw [hr]
    simp
  have hvok : md_ok v := fun y hy => hok y (by rw [hr]; simp [hy])
  have hvl := st_p_lt v hvok
  rw [hget]
  have e8 : 2 ^ (3 * p) = 8 ^ p := by rw [Nat.pow_mul]
  have ep : st_p r = st_p v + 8 ^ p * (x + 8 * st_p u) := by
    rw [hr, st_p_app, List.length_cons, hv]
    simp only [st_p]
    rw [hv, Nat.pow_succ, Nat.mul_add, Nat.mul_comm x, Nat.mul_assoc]
    omega
  have e18 : (2 : Nat) ^ 18 = 8 ^ p * (8 * 8 ^ (5 - p)) := by
    rw [← Nat.mul_assoc, Nat.mul_comm (8 ^ p), Nat.mul_assoc, ← Nat.pow_add, show p + (5 - p) = 5 by omega]
  unfold st_k
  rw [e8, ep, e18]
  rw [hv] at hvl
  have hpos : 0 < 8 ^ p := Nat.pow_pos (by omega)
  have key : 8 ^ p * (8 * 8 ^ (5 - p)) * (2 ^ 6 * s + st_s r) + (st_p v + 8 ^ p * (x + 8 * st_p u)) = st_p v + 8 ^ p * (x + 8 * (8 ^ (5 - p) * (2 ^ 6 * s + st_s r) + st_p u)) := by
    rw [Nat.mul_assoc, Nat.mul_assoc 8]
    rw [Nat.mul_add 8 (8 ^ (5 - p) * (2 ^ 6 * s + st_s r)) (st_p u), ← Nat.add_assoc x, Nat.mul_add (8 ^ p) x, Nat.mul_add (8 ^ p) (x + _), Nat.mul_add (8 ^ p) x]
    omega
  rw [key, Nat.add_mul_div_left _ _ hpos, Nat.div_eq_of_lt hvl, Nat.zero_add, Nat.add_mul_mod_self_left, Nat.mod_eq_of_lt (by omega)]
end
end
section
/-! ===== stands: writes ===== -/
theorem st_k_bit {B : Nat} {r : List Nat} {s : Nat} (hR : rOK B r s) (hB : B ≤ 6) (i : Nat) : (st_k r s).testBit i = if i < 18 then (st_p r).testBit i else if i - 18 < 6 then (st_s r).testBit (i - 18) else s.testBit (i - 18 - 6) := by
  unfold st_k
  rw [Nat.testBit_two_pow_mul_add _ (st_p_18 (rOK_ok hR hB) (rOK_len hR hB))]
  by_cases h : i < 18
  · rw [if_pos h, if_pos h]
  · rw [if_neg h, if_neg h, Nat.testBit_two_pow_mul_add _ (st_s_lt r (rOK_ok hR hB))]
theorem st_p_hi {B : Nat} {r : List Nat} {s i : Nat} (hR : rOK B r s) (hB : B ≤ 6) (h : 18 ≤ i) : (st_p r).testBit i = false :=
  Nat.testBit_lt_two_pow (Nat.lt_of_lt_of_le (st_p_18 (rOK_ok hR hB) (rOK_len hR hB)) (Nat.pow_le_pow_right (n := 2) (i := 18) (by omega) h))
theorem andn (a b : Nat) : nI a &&& (nI b ^^^ -1) = nI (a ^^^ (a &&& b)) := by
  apply Int32.toBitVec_inj.1
  show BitVec.ofNat 32 a &&& (BitVec.ofNat 32 b ^^^ (-1#32)) = BitVec.ofNat 32 (a ^^^ (a &&& b))
  apply BitVec.eq_of_getLsbD_eq
  intro i hi
  have e : (-1#32 : BitVec 32).getLsbD i = true := by
    rw [show (-1#32 : BitVec 32) = BitVec.allOnes 32 from rfl, BitVec.getLsbD_allOnes]
    exact decide_eq_true hi
  rw [BitVec.getLsbD_and, BitVec.getLsbD_xor, e]
  simp only [BitVec.getLsbD_ofNat, Nat.testBit_xor, Nat.testBit_and]
  simp [hi]
  cases a.testBit i <;> cases b.testBit i <;> rfl
section
variable {cx : pm_CX} {d n0 : Nat} {sg : List pm_C} {mu : pm_I} {nu : pm_J}
set_option maxRecDepth 100000 in
set_option maxHeartbeats 1000000 in
theorem t_withoutX {B : Nat} {u v : List Nat} {s x : Nat} (hR : rOK B (u ++ x :: v) s) (hR2 : rOK B (u ++ v) s) (hB : B ≤ 6) (hd : 1 ≤ d) : pm_T cx mX8_without d 0 0 [.int (nI (st_k (u ++ x :: v) s)), .int (nI v.length)] sg mu nu (pm_ret (some (.int (nI (st_k (u ++ v) s)))) sg mu nu) := by
  have hk := st_k_lt hR hB
  have hok := rOK_ok hR hB
  have hln := rOK_len hR hB
  have hp18 := st_p_18 hok hln
  have hx : x < 6 := hok x (by simp)
  have hlen : u.length + v.length + 1 ≤ 6 := by simp only [List.length_append, List.length_cons] at hln; omega
  have hvok : md_ok v := fun y hy => hok y (by simp [hy])
  have hvl := st_p_lt v hvok
  have e8 : 2 ^ (3 * v.length) = 8 ^ v.length := by rw [Nat.pow_mul]
  have e88 : 2 ^ (3 * (v.length + 1)) = 8 ^ v.length * 8 := by rw [Nat.pow_mul, Nat.pow_succ]
  have hpos : 0 < 8 ^ v.length := Nat.pow_pos (by omega)
  have ep : st_p (u ++ x :: v) = st_p v + 8 ^ v.length * (x + 8 * st_p u) := by
    rw [st_p_app, List.length_cons]
    simp only [st_p]
    rw [Nat.pow_succ, Nat.mul_add, Nat.mul_comm x, Nat.mul_assoc]
    omega
  have e1 : nI (st_k (u ++ x :: v) s) &&& 262143 = nI (st_p (u ++ x :: v)) := by
    rw [show (262143 : Int32) = nI (2 ^ 18 - 1) from rfl, fa_mask]
    congr 1
    unfold st_k
    omega
  have e2 : (1 : Int32) <<< (nI (3 * v.length) &&& 31) - 1 = nI (2 ^ (3 * v.length) - 1) := by
    rw [nI_shl1 (by omega), nI_m1 (by rw [e8]; exact hpos)]
  have ahead : nI (st_p (u ++ x :: v)) &&& nI (2 ^ (3 * v.length) - 1) = nI (st_p v) := by
    rw [fa_mask, e8, ep, Nat.add_mul_mod_self_left, Nat.mod_eq_of_lt hvl]
  have after : pm_ushr (nI (st_p (u ++ x :: v))) (nI (3 * (v.length + 1))) = nI (st_p u) := by
    rw [ushr_n (by omega) (by omega), e88, ep, ← Nat.div_div_eq_div_mul, Nat.add_mul_div_left _ _ hpos, Nat.div_eq_of_lt hvl, Nat.zero_add, Nat.add_mul_div_left _ _ (by omega), Nat.div_eq_of_lt (by omega), Nat.zero_add]
  have hat : st_p (u ++ x :: v) / 2 ^ (3 * v.length) % 8 = x := by
    rw [e8, ep, Nat.add_mul_div_left _ _ hpos, Nat.div_eq_of_lt hvl, Nat.zero_add, Nat.add_mul_mod_self_left, Nat.mod_eq_of_lt (by omega)]
  have hul : st_p u < 8 ^ u.length := st_p_lt u (fun y hy => hok y (by simp [hy]))
  have hu18 : st_p u < 2 ^ 18 := Nat.lt_of_lt_of_le hul (Nat.le_trans (Nat.pow_le_pow_right (n := 8) (j := 6) (by omega) (by omega)) (by omega))
  have e3 : (3 : Int32) * nI v.length = nI (3 * v.length) := pk_mul 3 _
  have e4 : (3 : Int32) * (nI v.length + 1) = nI (3 * (v.length + 1)) := by rw [nI_1]; exact pk_mul 3 _
  have sets : (nI (st_k (u ++ x :: v) s) &&& -262144) &&& (nI (2 ^ (18 + x)) ^^^ -1) = nI (2 ^ 18 * (2 ^ 6 * s + st_s (u ++ v))) := by
    rw [show (-262144 : Int32) = nI 262143 ^^^ -1 from rfl, andn, andn]
    congr 1
    apply Nat.eq_of_testBit_eq
    intro i
    have hm : ∀ i, (262143 : Nat).testBit i = decide (i < 18) := fun i => by
      rw [show (262143 : Nat) = 2 ^ 18 - 1 from rfl, Nat.testBit_two_pow_sub_one]
    rw [Nat.testBit_xor, Nat.testBit_and, Nat.testBit_xor, Nat.testBit_and, hm, Nat.testBit_two_pow]
    have erhs : (2 ^ 18 * (2 ^ 6 * s + st_s (u ++ v))).testBit i = if i < 18 then false else if i - 18 < 6 then (st_s (u ++ v)).testBit (i - 18) else s.testBit (i - 18 - 6) := by
      rw [show 2 ^ 18 * (2 ^ 6 * s + st_s (u ++ v)) = 2 ^ 18 * (2 ^ 6 * s + st_s (u ++ v)) + 0 from rfl, Nat.testBit_two_pow_mul_add _ (by omega)]
      by_cases h : i < 18
      · rw [if_pos h, if_pos h]; simp
      · rw [if_neg h, if_neg h, Nat.testBit_two_pow_mul_add _ (st_s_lt _ (rOK_ok hR2 hB))]
    rw [erhs, st_k_bit hR hB]
    by_cases h : i < 18
    · simp [h]
    · rw [if_neg h, if_neg h, decide_eq_false h]
      by_cases h2 : i - 18 < 6
      · rw [if_pos h2, if_pos h2]
        have hnd := hR.1
        rw [List.nodup_append] at hnd
        obtain ⟨n1, n2, n3⟩ := hnd
        obtain ⟨n4, n5⟩ := List.nodup_cons.mp n2
        by_cases h3 : 18 + x = i
        · have h4 : i - 18 = x := by omega
          rw [h4, decide_eq_true h3]
          have q1 : (st_s (u ++ x :: v)).testBit x = true := (st_s_bit x _).mpr (by simp)
          have q2 : (st_s (u ++ v)).testBit x = false := by
            cases hh : (st_s (u ++ v)).testBit x with
            | false => rfl
            | true =>
              rcases List.mem_append.mp ((st_s_bit x _).mp hh) with q | q
              · exact absurd rfl (n3 x q x List.mem_cons_self)
              · exact absurd q n4
          rw [q1, q2]
          rfl
        · rw [decide_eq_false h3]
          have q : (st_s (u ++ x :: v)).testBit (i - 18) = (st_s (u ++ v)).testBit (i - 18) := by
            rw [Bool.eq_iff_iff, st_s_bit, st_s_bit, List.mem_append, List.mem_append, List.mem_cons]
            constructor
            · rintro (q | q | q)
              · exact Or.inl q
              · omega
              · exact Or.inr q
            · rintro (q | q)
              · exact Or.inl q
              · exact Or.inr (Or.inr q)
          rw [q]
          simp
      · rw [if_neg h2, if_neg h2, decide_eq_false (show ¬ 18 + x = i by omega)]
        simp
  refine pm_enterN 4 (by exact okX8_without) rfl ?_; dsimp only [pm_la, pm_cat2, List.replicate, List.cons_append, List.nil_append, List.append_nil]
  refine pm_go 9999 (by exact okX8_without) rfl ?_; (try dsimp only [pm_st1, pm_st2, pm_cat2, pm_la, Option.toList, List.cons_append, List.nil_append])
  rw [e1, e3, e2, ahead, e4, after]
  refine pm_cs (by exact okX8_without) (by exact okX6_at) rfl (by exact arX6_at) (t_at (d := 0) (n := st_p (u ++ x :: v)) (p := v.length) (by omega) (by omega)) rfl (by dsimp only; omega) rfl (Nat.le_of_ble_eq_true rfl) ⟨Nat.zero_le _, Nat.zero_le _⟩ ?_
  rintro _ _ _ _ ⟨rfl, rfl, rfl, rfl⟩ -
  rw [hat]
  refine pm_go 9999 (by exact okX8_without) rfl ?_; (try dsimp only [pm_st1, pm_st2, pm_cat2, pm_la, Option.toList, List.cons_append, List.nil_append])
  rw [show (18 : Int32) + nI x = nI (18 + x) by rw [show (18 : Int32) = nI 18 from rfl, nI_add], nI_shl1 (by omega), sets]
  have hp2 : st_p (u ++ v) = st_p v + 8 ^ v.length * st_p u := st_p_app u v
  have hp3 := st_p_18 (rOK_ok hR2 hB) (rOK_len hR2 hB)
  have hb32 : st_p u * 2 ^ (3 * v.length) < 2 ^ 32 := by rw [e8, Nat.mul_comm]; omega
  have fin : 2 ^ 18 * (2 ^ 6 * s + st_s (u ++ v)) ||| st_p v ||| st_p u * 2 ^ (3 * v.length) = st_k (u ++ v) s := by
    have q1 : st_p v ||| st_p u * 2 ^ (3 * v.length) = st_p (u ++ v) := by
      rw [Nat.or_comm, Nat.mul_comm, ← Nat.two_pow_add_eq_or_of_lt (by rw [e8]; exact hvl), hp2, e8]
      omega
    rw [Nat.or_assoc, q1, ← Nat.two_pow_add_eq_or_of_lt hp3]
    rfl
  refine pm_cs (by exact okX8_without) (by exact okX6_put) rfl (by exact arX6_put) (t_put6 (d := 0) (b := st_p u) (p := v.length) hb32 (by omega)) rfl (by dsimp only; omega) rfl (Nat.le_of_ble_eq_true rfl) ⟨Nat.zero_le _, Nat.zero_le _⟩ ?_
  rintro _ _ _ _ ⟨rfl, rfl, rfl, rfl⟩ -
  refine pm_go 9999 (by exact okX8_without) rfl ?_; (try dsimp only [pm_st1, pm_st2, pm_cat2, pm_la, Option.toList, List.cons_append, List.nil_append])
  rw [nI_or, nI_or, fin]
  refine pm_ri (by exact okX8_without) rfl rfl rfl (Nat.le_refl _) (Nat.le_refl _) (⟨rfl, rfl, rfl, rfl⟩)
set_option maxRecDepth 100000 in
set_option maxHeartbeats 1000000 in
theorem t_placeOf_l {Q : pm_Po} {B : Nat} {r : List Nat} {s b : Nat} (hR : rOK B r s) (hB : B ≤ 6) (hb : b ∈ r) (hd : 2 ≤ d) : ∀ (j k : Nat), k + j + 1 = r.length → (∀ i, i < k → r.getD (r.length - 1 - i) 0 ≠ b) → (∀ p, p < r.length → r.getD (r.length - 1 - p) 0 = b → Q (some (.int (nI p))) sg mu nu) → pm_G cx (mX8_placeOf, d, 0, 0, n0, Q) 0 0 9 [some (.int (nI (st_k r s))), some (.int (nI b)), some (.int (nI (r.length - 1))), some (.int (nI k))] [] sg mu nu := by
  have hk := st_k_lt hR hB
  have hok := rOK_ok hR hB
  have hln := rOK_len hR hB
  have hb6 := hok b hb
  have hg6 : ∀ i, r.getD i 0 < 8 := by
    intro i
    rw [List.getD_eq_getElem?_getD]
    cases hh : r[i]? with
    | none => simp
    | some x =>
      have := hok x (List.mem_of_getElem? hh)
      simp only [Option.getD_some]
      omega
  intro j
  induction j with
  | zero =>
    intro k hkj hno hq
    have last : r.getD (r.length - 1 - k) 0 = b := by
      obtain ⟨i, hi, hget⟩ := List.mem_iff_getElem.mp hb
      rcases Nat.lt_or_ge (r.length - 1 - i) k with q | q
      · have := hno (r.length - 1 - i) q
        rw [show r.length - 1 - (r.length - 1 - i) = i by omega, List.getD_eq_getElem?_getD, List.getElem?_eq_getElem hi, Option.getD_some] at this
        exact absurd hget this
      · rw [show r.length - 1 - k = i by omega, List.getD_eq_getElem?_getD, List.getElem?_eq_getElem hi, Option.getD_some]
        exact hget
    have := hq k (by omega) last
    refine pm_go 9999 (by exact okX8_placeOf) rfl ?_; (try dsimp only [pm_st1, pm_st2, pm_cat2, pm_la, Option.toList, List.cons_append, List.nil_append])
    refine pm_ige (by exact okX8_placeOf) rfl (fun h1 => ?_) (fun h1 => ?_)
    · refine pm_go 9999 (by exact okX8_placeOf) rfl ?_; (try dsimp only [pm_st1, pm_st2, pm_cat2, pm_la, Option.toList, List.cons_append, List.nil_append])
      rw [show r.length - 1 = k by omega]
      refine pm_ri (by exact okX8_placeOf) rfl rfl rfl (Nat.le_refl _) (Nat.le_refl _) (this)
    · exact absurd (nI_le (by omega) (by omega)) h1
  | succ j ih =>
    intro k hkj hno hq
    refine pm_go 9999 (by exact okX8_placeOf) rfl ?_; (try dsimp only [pm_st1, pm_st2, pm_cat2, pm_la, Option.toList, List.cons_append, List.nil_append])
    refine pm_ige (by exact okX8_placeOf) rfl (fun h1 => ?_) (fun h1 => ?_)
    · exact absurd h1 (nI_ge (by omega) (by omega))
    · refine pm_go 9999 (by exact okX8_placeOf) rfl ?_; (try dsimp only [pm_st1, pm_st2, pm_cat2, pm_la, Option.toList, List.cons_append, List.nil_append])
      refine pm_cs (by exact okX8_placeOf) (by exact okX8_bedAt) rfl (by exact arX8_bedAt) (t_bedAt (d := 1) (n := st_k r s) (p := k) (by omega) (by omega) (by omega)) rfl (by dsimp only; omega) rfl (Nat.le_of_ble_eq_true rfl) ⟨Nat.zero_le _, Nat.zero_le _⟩ ?_
      rintro _ _ _ _ ⟨rfl, rfl, rfl, rfl⟩ -
      rw [st_at hR hB (by omega)]
      have := hg6 (r.length - 1 - k)
      refine pm_go 9999 (by exact okX8_placeOf) rfl ?_; (try dsimp only [pm_st1, pm_st2, pm_cat2, pm_la, Option.toList, List.cons_append, List.nil_append])
      refine pm_ine (by exact okX8_placeOf) rfl (fun h2 => ?_) (fun h2 => ?_)
      · have h3 : r.getD (r.length - 1 - k) 0 ≠ b := fun q => h2 (by rw [q])
        refine pm_go 9 (by exact okX8_placeOf) rfl ?_; (try dsimp only [pm_st1, pm_st2, pm_cat2, pm_la, Option.toList, List.cons_append, List.nil_append])
        rw [nI_1]
        refine ih (k + 1) (by omega) (fun i hi => ?_) hq
        rcases Nat.lt_or_ge i k with q | q
        · exact hno i q
        · rw [show i = k by omega]; exact h3
      · have h3 := (nI_eq (by omega) (by omega)).mp h2
        refine pm_go 9999 (by exact okX8_placeOf) rfl ?_; (try dsimp only [pm_st1, pm_st2, pm_cat2, pm_la, Option.toList, List.cons_append, List.nil_append])
        refine pm_ri (by exact okX8_placeOf) rfl rfl rfl (Nat.le_refl _) (Nat.le_refl _) (hq k (by omega) h3)
set_option maxRecDepth 100000 in
set_option maxHeartbeats 1000000 in
theorem t_placeOf {B : Nat} {r : List Nat} {s b : Nat} (hR : rOK B r s) (hB : B ≤ 6) (hb : b ∈ r) (hd : 2 ≤ d) : pm_T cx mX8_placeOf d 0 0 [.int (nI (st_k r s)), .int (nI b)] sg mu nu (fun v sg' mu' nu' => (∃ p, p < r.length ∧ r.getD (r.length - 1 - p) 0 = b ∧ v = some (.int (nI p))) ∧ sg = sg' ∧ mu = mu' ∧ nu = nu') := by
  have hpos : 0 < r.length := List.length_pos_of_mem hb
  have hln := rOK_len hR hB
  refine pm_enterN 2 (by exact okX8_placeOf) rfl ?_; dsimp only [pm_la, pm_cat2, List.replicate, List.cons_append, List.nil_append, List.append_nil]
  refine pm_go 9999 (by exact okX8_placeOf) rfl ?_; (try dsimp only [pm_st1, pm_st2, pm_cat2, pm_la, Option.toList, List.cons_append, List.nil_append])
  refine pm_cs (by exact okX8_placeOf) (by exact okX8_length) rfl (by exact arX8_length) (t_length (d := 1) hR hB (by omega)) rfl (by dsimp only; omega) rfl (Nat.le_of_ble_eq_true rfl) ⟨Nat.zero_le _, Nat.zero_le _⟩ ?_
  rintro _ _ _ _ ⟨rfl, rfl, rfl, rfl⟩ -
  refine pm_go 9 (by exact okX8_placeOf) rfl ?_; (try dsimp only [pm_st1, pm_st2, pm_cat2, pm_la, Option.toList, List.cons_append, List.nil_append])
  rw [nI_m1 hpos]
  exact t_placeOf_l hR hB hb hd (r.length - 1) 0 (by omega) (fun i hi => absurd hi (by omega)) (fun p hp hg => ⟨⟨p, hp, hg, rfl⟩, rfl, rfl, rfl⟩)
end
end
section
/-! ===== stands: watered, rained, afterBloom ===== -/
theorem st_add {B : Nat} {t : List Nat} {s b : Nat} (hR : rOK B t s) (hR2 : rOK B (b :: t) s) (hB : B ≤ 6) : st_k t s ||| (b * 2 ^ (3 * t.length) ||| 2 ^ (18 + b)) = st_k (b :: t) s := by
  have hok := rOK_ok hR2 hB
  have hb : b < 6 := hok b List.mem_cons_self
  have hln := rOK_len hR2 hB
  have hlt := st_p_lt t (rOK_ok hR hB)
  have e8 : 2 ^ (3 * t.length) = 8 ^ t.length := by rw [Nat.pow_mul]
  have ep : st_p (b :: t) = st_p t ||| b * 2 ^ (3 * t.length) := by
    rw [Nat.or_comm, Nat.mul_comm, ← Nat.two_pow_add_eq_or_of_lt (by rw [e8]; exact hlt), e8]
    simp only [st_p]
    rw [Nat.mul_comm b]
    omega
  have hp18 := st_p_18 hok hln
  apply Nat.eq_of_testBit_eq
  intro i
  rw [Nat.testBit_or, Nat.testBit_or, st_k_bit hR hB, st_k_bit hR2 hB, ep, Nat.testBit_or, Nat.testBit_two_pow]
  have hi : 18 ≤ i → (b * 2 ^ (3 * t.length)).testBit i = false := fun h => by
    have h1 := st_p_hi hR2 hB h
    rw [ep, Nat.testBit_or, Bool.or_eq_false_iff] at h1
    exact h1.2
  by_cases h : i < 18
  · rw [if_pos h, if_pos h, decide_eq_false (show ¬ 18 + b = i by omega), Bool.or_false]
  · rw [if_neg h, if_neg h, hi (by omega), Bool.false_or]
    by_cases h2 : i - 18 < 6
    · rw [if_pos h2, if_pos h2]
      simp only [st_s]
      rw [tb_set]
      congr 1
      exact decide_eq_decide.mpr (by omega)
    · rw [if_neg h2, if_neg h2, decide_eq_false (show ¬ 18 + b = i by omega), Bool.or_false]
theorem st_blm {B : Nat} {t : List Nat} {s b : Nat} (hR : rOK B t s) (hR2 : rOK B t (s ||| 2 ^ b)) (hB : B ≤ 6) : st_k t s ||| 2 ^ (24 + b) = st_k t (s ||| 2 ^ b) := by
  apply Nat.eq_of_testBit_eq
  intro i
  rw [Nat.testBit_or, st_k_bit hR hB, st_k_bit hR2 hB, Nat.testBit_two_pow]
  by_cases h : i < 18
  · rw [if_pos h, if_pos h, decide_eq_false (show ¬ 24 + b = i by omega), Bool.or_false]
  · rw [if_neg h, if_neg h]
    by_cases h2 : i - 18 < 6
    · rw [if_pos h2, if_pos h2, decide_eq_false (show ¬ 24 + b = i by omega), Bool.or_false]
    · rw [if_neg h2, if_neg h2, tb_set]
      congr 1
      exact decide_eq_decide.mpr (by omega)
theorem st_spl {u v : List Nat} {x : Nat} (h : (u ++ x :: v).Nodup) : (u ++ x :: v).filter (fun y => y != x) = u ++ v := by
  rw [List.nodup_append] at h
  obtain ⟨n1, n2, n3⟩ := h
  obtain ⟨n4, n5⟩ := List.nodup_cons.mp n2
  rw [List.filter_append, List.filter_cons]
  simp only [bne_self_eq_false, Bool.false_eq_true, if_false]
  rw [List.filter_eq_self.mpr, List.filter_eq_self.mpr]
  · intro y hy
    simp only [bne_iff_ne]
    exact fun q => n4 (q ▸ hy)
  · intro y hy
    simp only [bne_iff_ne]
    exact n3 y hy x List.mem_cons_self
/-- a place of THE ROW splits it -/
theorem st_at_spl {r : List Nat} {p : Nat} (hp : p < r.length) : ∃ u x v, r = u ++ x :: v ∧ v.length = p ∧ u.length = r.length - 1 - p ∧ r.getD (r.length - 1 - p) 0 = x := by
  have hlt : r.length - 1 - p < r.length := by omega
  refine ⟨r.take (r.length - 1 - p), r[r.length - 1 - p], r.drop (r.length - 1 - p + 1), ?_, by rw [List.length_drop]; omega, by rw [List.length_take]; omega, ?_⟩
  · rw [← List.drop_eq_getElem_cons hlt, List.take_append_drop]
  · rw [List.getD_eq_getElem?_getD, List.getElem?_eq_getElem hlt, Option.getD_some]
theorem rOK_out {B : Nat} {r : List Nat} {s : Nat} (hR : rOK B r s) (p : Nat → Bool) : rOK B (r.filter p) s := ⟨hR.1.sublist List.filter_sublist, fun b hb => hR.2.1 b (List.mem_filter.mp hb).1, hR.2.2⟩
theorem rOK_nil {B : Nat} {s : Nat} (h : s < 2 ^ B) : rOK B [] s := ⟨List.nodup_nil, fun b hb => absurd hb (by simp), h⟩
section
variable {cx : pm_CX} {d n0 : Nat} {sg : List pm_C} {mu : pm_I} {nu : pm_J}
set_option maxRecDepth 100000 in
set_option maxHeartbeats 1000000 in
theorem t_wateredX_e {Q : pm_Po} {B : Nat} {r : List Nat} {s b : Nat} {x0 : Int32} (hR : rOK B r s) (hR2 : rOK B (b :: r) s) (hB : B ≤ 6) (hd : 2 ≤ d) (hq : Q (some (.int (nI (st_k (b :: r) s)))) sg mu nu) : pm_G cx (mX8_watered, d, 0, 0, n0, Q) 0 0 22 [some (.int x0), some (.int (nI b)), some (.int (nI (st_k r s)))] [] sg mu nu := by
  have hok := rOK_ok hR2 hB
  have hb : b < 6 := hok b List.mem_cons_self
  have hln := rOK_len hR2 hB
  have hlen : r.length + 1 ≤ 6 := by simpa using hln
  have h8 : 2 ^ (3 * r.length) ≤ 2 ^ 15 := Nat.pow_le_pow_right (by omega) (by omega)
  have hb32 : b * 2 ^ (3 * r.length) < 2 ^ 32 := by
    have := Nat.mul_le_mul (show b ≤ 5 by omega) h8
    omega
  refine pm_go 9999 (by exact okX8_watered) rfl ?_; (try dsimp only [pm_st1, pm_st2, pm_cat2, pm_la, Option.toList, List.cons_append, List.nil_append])
  refine pm_cs (by exact okX8_watered) (by exact okX8_length) rfl (by exact arX8_length) (t_length (d := 1) hR hB (by omega)) rfl (by dsimp only; omega) rfl (Nat.le_of_ble_eq_true rfl) ⟨Nat.zero_le _, Nat.zero_le _⟩ ?_
  rintro _ _ _ _ ⟨rfl, rfl, rfl, rfl⟩ -
  refine pm_cs (by exact okX8_watered) (by exact okX6_put) rfl (by exact arX6_put) (t_put6 (d := 0) (b := b) (p := r.length) hb32 (by omega)) rfl (by dsimp only; omega) rfl (Nat.le_of_ble_eq_true rfl) ⟨Nat.zero_le _, Nat.zero_le _⟩ ?_
  rintro _ _ _ _ ⟨rfl, rfl, rfl, rfl⟩ -
  refine pm_go 9999 (by exact okX8_watered) rfl ?_; (try dsimp only [pm_st1, pm_st2, pm_cat2, pm_la, Option.toList, List.cons_append, List.nil_append])
  rw [show (18 : Int32) + nI b = nI (18 + b) by rw [show (18 : Int32) = nI 18 from rfl, nI_add], nI_shl1 (by omega), nI_or, nI_or, Nat.or_assoc, st_add hR hR2 hB]
  refine pm_ri (by exact okX8_watered) rfl rfl rfl (Nat.le_refl _) (Nat.le_refl _) (hq)
set_option maxRecDepth 100000 in
set_option maxHeartbeats 1000000 in
theorem t_wateredX {B : Nat} {r : List Nat} {s b : Nat} (hR : rOK B r s) (hB : B ≤ 6) (hb : b < B) (hs : ¬ s.testBit b = true) (hd : 3 ≤ d) : pm_T cx mX8_watered d 0 0 [.int (nI (st_k r s)), .int (nI b)] sg mu nu (pm_ret (some (.int (nI (st_k (b :: r.filter (fun x => x != b)) s)))) sg mu nu) := by
  have hR2 := rOK_water hR hb hs
  have hR3 := rOK_out hR (fun x => x != b)
  refine pm_enterN 1 (by exact okX8_watered) rfl ?_; dsimp only [pm_la, pm_cat2, List.replicate, List.cons_append, List.nil_append, List.append_nil]
  refine pm_go 9999 (by exact okX8_watered) rfl ?_; (try dsimp only [pm_st1, pm_st2, pm_cat2, pm_la, Option.toList, List.cons_append, List.nil_append])
  refine pm_cs (by exact okX8_watered) (by exact okX8_isInRow) rfl (by exact arX8_isInRow) (t_isInRow (d := 0) hR hB (by omega)) rfl (by dsimp only; omega) rfl (Nat.le_of_ble_eq_true rfl) ⟨Nat.zero_le _, Nat.zero_le _⟩ ?_
  rintro _ _ _ _ ⟨rfl, rfl, rfl, rfl⟩ -
  refine pm_go 9999 (by exact okX8_watered) rfl ?_; (try dsimp only [pm_st1, pm_st2, pm_cat2, pm_la, Option.toList, List.cons_append, List.nil_append])
  refine pm_zeq (by exact okX8_watered) rfl (fun h1 => ?_) (fun h1 => ?_)
  · have h1 := bI_z.mp h1
    have e : r.filter (fun x => x != b) = r := List.filter_eq_self.mpr (fun y hy => by simp only [bne_iff_ne]; exact fun q => h1 (q ▸ hy))
    refine pm_go 22 (by exact okX8_watered) rfl ?_; (try dsimp only [pm_st1, pm_st2, pm_cat2, pm_la, Option.toList, List.cons_append, List.nil_append])
    rw [e] at hR2 hR3 ⊢
    exact t_wateredX_e hR hR2 hB (by omega) ⟨rfl, rfl, rfl, rfl⟩
  · have h1 : b ∈ r := bI_n.mp h1
    refine pm_go 9999 (by exact okX8_watered) rfl ?_; (try dsimp only [pm_st1, pm_st2, pm_cat2, pm_la, Option.toList, List.cons_append, List.nil_append])
    refine pm_cs (by exact okX8_watered) (by exact okX8_placeOf) rfl (by exact arX8_placeOf) (t_placeOf (d := 2) hR hB h1 (by omega)) rfl (by dsimp only; omega) rfl (Nat.le_of_ble_eq_true rfl) ⟨Nat.zero_le _, Nat.zero_le _⟩ ?_
    rintro _ _ _ _ ⟨⟨p, hp, hg, rfl⟩, rfl, rfl, rfl⟩ -
    obtain ⟨u, x, v, er, ev, eu, ex⟩ := st_at_spl hp
    have exb : x = b := ex.symm.trans hg
    subst exb
    have efil : r.filter (fun y => y != x) = u ++ v := by
      rw [er]
      exact st_spl (er ▸ hR.1)
    rw [efil] at hR2 hR3 ⊢
    rw [er] at hR
    rw [er, ← ev]
    refine pm_cs (by exact okX8_watered) (by exact okX8_without) rfl (by exact arX8_without) (t_withoutX (d := 1) hR hR3 hB (by omega)) rfl (by dsimp only; omega) rfl (Nat.le_of_ble_eq_true rfl) ⟨Nat.zero_le _, Nat.zero_le _⟩ ?_
    rintro _ _ _ _ ⟨rfl, rfl, rfl, rfl⟩ -
    refine pm_go 22 (by exact okX8_watered) rfl ?_; (try dsimp only [pm_st1, pm_st2, pm_cat2, pm_la, Option.toList, List.cons_append, List.nil_append])
    exact t_wateredX_e hR3 hR2 hB (by omega) ⟨rfl, rfl, rfl, rfl⟩
set_option maxRecDepth 100000 in
set_option maxHeartbeats 1000000 in
theorem t_afterBloom {B : Nat} {r : List Nat} {s p x : Nat} (hR : rOK B r s) (hB : B ≤ 6) (hp : p < r.length) (hx : r.getD (r.length - 1 - p) 0 = x) (hd : 2 ≤ d) : pm_T cx mX8_afterBloom d 0 0 [.int (nI (st_k r s)), .int (nI p)] sg mu nu (pm_ret (some (.int (nI (st_k (r.filter (fun y => y != x)) (s ||| 2 ^ x))))) sg mu nu) := by
  have hk := st_k_lt hR hB
  have hln := rOK_len hR hB
  have hat := st_at hR hB hp
  obtain ⟨u, y, v, er, ev, eu, ey⟩ := st_at_spl hp
  have eyx : y = x := ey.symm.trans hx
  subst eyx
  have hmem : y ∈ r := by rw [er]; simp
  have hy6 := rOK_ok hR hB y hmem
  have hR2 := rOK_bloom hR hmem
  have hR3 := rOK_out hR (fun x => x != y)
  have efil : r.filter (fun z => z != y) = u ++ v := by
    rw [er]
    exact st_spl (er ▸ hR.1)
  have hfin := st_blm hR3 hR2 hB
  rw [hx] at hat
  refine pm_enterN 0 (by exact okX8_afterBloom) rfl ?_; dsimp only [pm_la, pm_cat2, List.replicate, List.cons_append, List.nil_append, List.append_nil]
  refine pm_go 9999 (by exact okX8_afterBloom) rfl ?_; (try dsimp only [pm_st1, pm_st2, pm_cat2, pm_la, Option.toList, List.cons_append, List.nil_append])
  have hc : pm_T cx mX8_without 1 0 0 [.int (nI (st_k r s)), .int (nI p)] sg mu nu (pm_ret (some (.int (nI (st_k (r.filter (fun z => z != y)) s)))) sg mu nu) := by
    rw [efil] at hR3 ⊢
    rw [er, ← ev]
    exact t_withoutX (er ▸ hR) hR3 hB (by omega)
  refine pm_cs (by exact okX8_afterBloom) (by exact okX8_without) rfl (by exact arX8_without) (hc) rfl (by dsimp only; omega) rfl (Nat.le_of_ble_eq_true rfl) ⟨Nat.zero_le _, Nat.zero_le _⟩ ?_
  rintro _ _ _ _ ⟨rfl, rfl, rfl, rfl⟩ -
  refine pm_go 9999 (by exact okX8_afterBloom) rfl ?_; (try dsimp only [pm_st1, pm_st2, pm_cat2, pm_la, Option.toList, List.cons_append, List.nil_append])
  refine pm_cs (by exact okX8_afterBloom) (by exact okX8_bedAt) rfl (by exact arX8_bedAt) (t_bedAt (d := 1) (n := st_k r s) (p := p) (by omega) (by omega) (by omega)) rfl (by dsimp only; omega) rfl (Nat.le_of_ble_eq_true rfl) ⟨Nat.zero_le _, Nat.zero_le _⟩ ?_
  rintro _ _ _ _ ⟨rfl, rfl, rfl, rfl⟩ -
  rw [hat]
  refine pm_go 9999 (by exact okX8_afterBloom) rfl ?_; (try dsimp only [pm_st1, pm_st2, pm_cat2, pm_la, Option.toList, List.cons_append, List.nil_append])
  rw [show (24 : Int32) + nI y = nI (24 + y) by rw [show (24 : Int32) = nI 24 from rfl, nI_add], nI_shl1 (by omega), nI_or, hfin]
  refine pm_ri (by exact okX8_afterBloom) rfl rfl rfl (Nat.le_refl _) (Nat.le_refl _) (⟨rfl, rfl, rfl, rfl⟩)
theorem gd_rn_s {s n : Nat} : gd_rn s (n + 1) = if s.testBit n = true then gd_rn s n else n :: gd_rn s n := rfl
theorem rOK_rn {B k s : Nat} (hk : k ≤ B) (h : s < 2 ^ B) : rOK B (gd_rn s k) s := ⟨gd_rn_nd s k, fun b hb => ⟨by have := ((gd_rn_mem s k b).mp hb).1; omega, by simpa using ((gd_rn_mem s k b).mp hb).2⟩, h⟩
set_option maxRecDepth 100000 in
set_option maxHeartbeats 1000000 in
theorem t_rainedX_l {Q : pm_Po} {B : Nat} {r : List Nat} {s : Nat} (hR : rOK B r s) (hB : B ≤ 6) (hd : 1 ≤ d) : ∀ (j k : Nat), k + j = B → Q (some (.int (nI (st_k (gd_rn s B) s)))) sg mu nu → pm_G cx (mX8_rained, d, 0, 0, n0, Q) 0 0 10 [some (.int (nI (st_k r s))), some (.int (nI B)), some (.int (nI (st_k (gd_rn s k) s))), some (.int (nI (gd_rn s k).length)), some (.int (nI k))] [] sg mu nu := by
  intro j
  induction j with
  | zero =>
    intro k hk hq
    have hk : k = B := by omega
    subst hk
    refine pm_go 9999 (by exact okX8_rained) rfl ?_; (try dsimp only [pm_st1, pm_st2, pm_cat2, pm_la, Option.toList, List.cons_append, List.nil_append])
    refine pm_ige (by exact okX8_rained) rfl (fun h1 => ?_) (fun h1 => ?_)
    · refine pm_go 9999 (by exact okX8_rained) rfl ?_; (try dsimp only [pm_st1, pm_st2, pm_cat2, pm_la, Option.toList, List.cons_append, List.nil_append])
      refine pm_ri (by exact okX8_rained) rfl rfl rfl (Nat.le_refl _) (Nat.le_refl _) (hq)
    · exact absurd (nI_le (by omega) (by omega)) h1
  | succ j ih =>
    intro k hk hq
    refine pm_go 9999 (by exact okX8_rained) rfl ?_; (try dsimp only [pm_st1, pm_st2, pm_cat2, pm_la, Option.toList, List.cons_append, List.nil_append])
    refine pm_ige (by exact okX8_rained) rfl (fun h1 => ?_) (fun h1 => ?_)
    · exact absurd h1 (nI_ge (by omega) (by omega))
    · refine pm_go 9999 (by exact okX8_rained) rfl ?_; (try dsimp only [pm_st1, pm_st2, pm_cat2, pm_la, Option.toList, List.cons_append, List.nil_append])
      refine pm_cs (by exact okX8_rained) (by exact okX8_hasBloomed) rfl (by exact arX8_hasBloomed) (t_hasBloomed (d := 0) hR hB (by omega)) rfl (by dsimp only; omega) rfl (Nat.le_of_ble_eq_true rfl) ⟨Nat.zero_le _, Nat.zero_le _⟩ ?_
      rintro _ _ _ _ ⟨rfl, rfl, rfl, rfl⟩ -
      refine pm_go 9999 (by exact okX8_rained) rfl ?_; (try dsimp only [pm_st1, pm_st2, pm_cat2, pm_la, Option.toList, List.cons_append, List.nil_append])
      refine pm_zne (by exact okX8_rained) rfl (fun h2 => ?_) (fun h2 => ?_)
      · have h2 := bI_n.mp h2
        refine pm_go 10 (by exact okX8_rained) rfl ?_; (try dsimp only [pm_st1, pm_st2, pm_cat2, pm_la, Option.toList, List.cons_append, List.nil_append])
        rw [nI_1]
        refine (ih (k + 1) (by omega) hq).cast ?_ rfl rfl rfl
        rw [gd_rn_s, if_pos h2]
      · have h2 := bI_z.mp h2
        have e : gd_rn s (k + 1) = k :: gd_rn s k := by rw [gd_rn_s, if_neg h2]
        have hR1 := rOK_rn (k := k) (s := s) (by omega) hR.2.2
        have hR2 := rOK_rn (k := k + 1) (s := s) (by omega) hR.2.2
        have hl := rOK_len hR2 hB
        rw [e, List.length_cons] at hl
        rw [e] at hR2
        have h8 : 2 ^ (3 * (gd_rn s k).length) ≤ 2 ^ 15 := Nat.pow_le_pow_right (by omega) (by omega)
        have hb32 : k * 2 ^ (3 * (gd_rn s k).length) < 2 ^ 32 := by
          have := Nat.mul_le_mul (show k ≤ 5 by omega) h8
          omega
        refine pm_go 9999 (by exact okX8_rained) rfl ?_; (try dsimp only [pm_st1, pm_st2, pm_cat2, pm_la, Option.toList, List.cons_append, List.nil_append])
        refine pm_cs (by exact okX8_rained) (by exact okX6_put) rfl (by exact arX6_put) (t_put6 (d := 0) (b := k) (p := (gd_rn s k).length) hb32 (by omega)) rfl (by dsimp only; omega) rfl (Nat.le_of_ble_eq_true rfl) ⟨Nat.zero_le _, Nat.zero_le _⟩ ?_
        rintro _ _ _ _ ⟨rfl, rfl, rfl, rfl⟩ -
        refine pm_go 10 (by exact okX8_rained) rfl ?_; (try dsimp only [pm_st1, pm_st2, pm_cat2, pm_la, Option.toList, List.cons_append, List.nil_append])
        rw [show (18 : Int32) + nI k = nI (18 + k) by rw [show (18 : Int32) = nI 18 from rfl, nI_add], nI_shl1 (by omega), nI_or, nI_or, st_add hR1 hR2 hB, nI_1, nI_1]
        refine (ih (k + 1) (by omega) hq).cast ?_ rfl rfl rfl
        rw [e, List.length_cons]
set_option maxRecDepth 100000 in
set_option maxHeartbeats 1000000 in
theorem t_rainedX {B : Nat} {r : List Nat} {s : Nat} (hR : rOK B r s) (hB : B ≤ 6) (hd : 1 ≤ d) : pm_T cx mX8_rained d 0 0 [.int (nI (st_k r s)), .int (nI B)] sg mu nu (pm_ret (some (.int (nI (st_k (gd_rn s B) s)))) sg mu nu) := by
  have e : nI (st_k r s) &&& 1056964608 = nI (st_k (gd_rn s 0) s) := by
    rw [show (1056964608 : Int32) = nI (63 * 2 ^ 24) from rfl, fa_and]
    congr 1
    apply Nat.eq_of_testBit_eq
    intro i
    have hR0 : rOK B [] s := rOK_nil hR.2.2
    have hs := rOK_s hR hB
    rw [Nat.testBit_and, st_k_bit hR hB, show gd_rn s 0 = [] from rfl, st_k_bit hR0 hB, Nat.testBit_mul_two_pow, show (63 : Nat) = 2 ^ 6 - 1 from rfl, Nat.testBit_two_pow_sub_one]
    by_cases h : i < 18
    · rw [if_pos h, if_pos h, decide_eq_false (show ¬ i ≥ 24 by omega)]
      simp [st_p]
    · rw [if_neg h, if_neg h]
      by_cases h2 : i - 18 < 6
      · rw [if_pos h2, if_pos h2, decide_eq_false (show ¬ i ≥ 24 by omega)]
        simp [st_s]
      · rw [if_neg h2, if_neg h2, decide_eq_true (show i ≥ 24 by omega), Bool.true_and]
        by_cases h3 : i - 24 < 6
        · rw [decide_eq_true h3, Bool.and_true]
        · rw [decide_eq_false h3, Bool.and_false]
          exact (Nat.testBit_lt_two_pow (Nat.lt_of_lt_of_le hs (Nat.pow_le_pow_right (n := 2) (i := 6) (by omega) (by omega)))).symm
  refine pm_enterN 3 (by exact okX8_rained) rfl ?_; dsimp only [pm_la, pm_cat2, List.replicate, List.cons_append, List.nil_append, List.append_nil]
  refine pm_go 10 (by exact okX8_rained) rfl ?_; (try dsimp only [pm_st1, pm_st2, pm_cat2, pm_la, Option.toList, List.cons_append, List.nil_append])
  rw [e]
  exact t_rainedX_l hR hB hd B 0 (by omega) ⟨rfl, rfl, rfl, rfl⟩
end
end
section
theorem i_vc : Claimed_1_1 ∧ Claimed_1_2 := sorry
end

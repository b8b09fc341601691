section
-- ===== PART A: goes FIRST, ahead of the names: the tables' words, and 'selects' of the private methods out of them =====
/-- a private method of a class that the tables say can be made, by its rows of tables_1 -/
def lw_okq (q : MethodName × Nat) : Prop := (q.1.cls ≠ "java/lang/invoke/MethodHandle" ∧ q.1.cls ≠ "java/lang/invoke/VarHandle") ∧ Cond.instantiable q.1.cls q.2 ∈ tables_1 ∧ Cond.privateMethod q.1 ∈ tables_1 ∧ Cond.instanceMethod q.1 ∈ tables_1
theorem lw_p0 : lw_okq (⟨"LastWatered", "dropAnswers", "()V"⟩, 6) := ⟨⟨by decide +kernel, by decide +kernel⟩, List.mem_of_getElem? (i := 18) (by decide +kernel), List.mem_of_getElem? (i := 198) (by decide +kernel), List.mem_of_getElem? (i := 199) (by decide +kernel)⟩
theorem lw_p1 : lw_okq (⟨"LastWatered", "isFaultyWeek", "()Z"⟩, 6) := ⟨⟨by decide +kernel, by decide +kernel⟩, List.mem_of_getElem? (i := 18) (by decide +kernel), List.mem_of_getElem? (i := 269) (by decide +kernel), List.mem_of_getElem? (i := 270) (by decide +kernel)⟩
theorem lw_p2 : lw_okq (⟨"LastWatered$Garden", "nextPlace", "(I)I"⟩, 11) := ⟨⟨by decide +kernel, by decide +kernel⟩, List.mem_of_getElem? (i := 45) (by decide +kernel), List.mem_of_getElem? (i := 322) (by decide +kernel), List.mem_of_getElem? (i := 323) (by decide +kernel)⟩
theorem lw_p3 : lw_okq (⟨"LastWatered$Filling", "goOn", "(LLastWatered$Garden;LLastWatered$Pad;IIII)V"⟩, 5) := ⟨⟨by decide +kernel, by decide +kernel⟩, List.mem_of_getElem? (i := 106) (by decide +kernel), List.mem_of_getElem? (i := 412) (by decide +kernel), List.mem_of_getElem? (i := 413) (by decide +kernel)⟩
theorem lw_p4 : lw_okq (⟨"LastWatered$Filling", "tryBeds", "(LLastWatered$Garden;LLastWatered$Pad;IIII)V"⟩, 5) := ⟨⟨by decide +kernel, by decide +kernel⟩, List.mem_of_getElem? (i := 106) (by decide +kernel), List.mem_of_getElem? (i := 417) (by decide +kernel), List.mem_of_getElem? (i := 418) (by decide +kernel)⟩
theorem lw_p5 : lw_okq (⟨"LastWatered$Filling", "keepWay", "()V"⟩, 5) := ⟨⟨by decide +kernel, by decide +kernel⟩, List.mem_of_getElem? (i := 106) (by decide +kernel), List.mem_of_getElem? (i := 430) (by decide +kernel), List.mem_of_getElem? (i := 431) (by decide +kernel)⟩
theorem lw_p6 : lw_okq (⟨"LastWatered", "isFaultyOrder", "()Z"⟩, 6) := ⟨⟨by decide +kernel, by decide +kernel⟩, List.mem_of_getElem? (i := 18) (by decide +kernel), List.mem_of_getElem? (i := 445) (by decide +kernel), List.mem_of_getElem? (i := 446) (by decide +kernel)⟩
theorem lw_p7 : lw_okq (⟨"LastWatered", "isFaultyWish", "()Z"⟩, 6) := ⟨⟨by decide +kernel, by decide +kernel⟩, List.mem_of_getElem? (i := 18) (by decide +kernel), List.mem_of_getElem? (i := 512) (by decide +kernel), List.mem_of_getElem? (i := 513) (by decide +kernel)⟩
theorem lw_p8 : lw_okq (⟨"LastWatered$Wishing", "isReached", "(LLastWatered$Garden;LLastWatered$Pad;III)Z"⟩, 5) := ⟨⟨by decide +kernel, by decide +kernel⟩, List.mem_of_getElem? (i := 130) (by decide +kernel), List.mem_of_getElem? (i := 540) (by decide +kernel), List.mem_of_getElem? (i := 541) (by decide +kernel)⟩
theorem lw_p9 : lw_okq (⟨"LastWateredModel", "begin", "()V"⟩, 35) := ⟨⟨by decide +kernel, by decide +kernel⟩, List.mem_of_getElem? (i := 639) (by decide +kernel), List.mem_of_getElem? (i := 646) (by decide +kernel), List.mem_of_getElem? (i := 647) (by decide +kernel)⟩
theorem lw_p10 : lw_okq (⟨"LastWateredModel", "isBed", "(I)Z"⟩, 35) := ⟨⟨by decide +kernel, by decide +kernel⟩, List.mem_of_getElem? (i := 639) (by decide +kernel), List.mem_of_getElem? (i := 768) (by decide +kernel), List.mem_of_getElem? (i := 769) (by decide +kernel)⟩
theorem lw_p11 : lw_okq (⟨"LastWateredModel", "weekFault", "()I"⟩, 35) := ⟨⟨by decide +kernel, by decide +kernel⟩, List.mem_of_getElem? (i := 639) (by decide +kernel), List.mem_of_getElem? (i := 792) (by decide +kernel), List.mem_of_getElem? (i := 793) (by decide +kernel)⟩
theorem lw_p12 : lw_okq (⟨"LastWateredModel", "orderFault", "()I"⟩, 35) := ⟨⟨by decide +kernel, by decide +kernel⟩, List.mem_of_getElem? (i := 639) (by decide +kernel), List.mem_of_getElem? (i := 796) (by decide +kernel), List.mem_of_getElem? (i := 797) (by decide +kernel)⟩
theorem lw_p13 : lw_okq (⟨"LastWateredModel", "wishFault", "()I"⟩, 35) := ⟨⟨by decide +kernel, by decide +kernel⟩, List.mem_of_getElem? (i := 639) (by decide +kernel), List.mem_of_getElem? (i := 803) (by decide +kernel), List.mem_of_getElem? (i := 804) (by decide +kernel)⟩
theorem lw_p14 : lw_okq (⟨"LastWateredModel", "opens", "()I"⟩, 35) := ⟨⟨by decide +kernel, by decide +kernel⟩, List.mem_of_getElem? (i := 639) (by decide +kernel), List.mem_of_getElem? (i := 814) (by decide +kernel), List.mem_of_getElem? (i := 815) (by decide +kernel)⟩
theorem lw_p15 : lw_okq (⟨"LastWateredModel", "goWeek", "(I)I"⟩, 35) := ⟨⟨by decide +kernel, by decide +kernel⟩, List.mem_of_getElem? (i := 639) (by decide +kernel), List.mem_of_getElem? (i := 818) (by decide +kernel), List.mem_of_getElem? (i := 819) (by decide +kernel)⟩
def lw_privs_1 : List (MethodName × Nat) := [(⟨"LastWatered", "dropAnswers", "()V"⟩, 6), (⟨"LastWatered", "isFaultyWeek", "()Z"⟩, 6), (⟨"LastWatered$Garden", "nextPlace", "(I)I"⟩, 11), (⟨"LastWatered$Filling", "goOn", "(LLastWatered$Garden;LLastWatered$Pad;IIII)V"⟩, 5), (⟨"LastWatered$Filling", "tryBeds", "(LLastWatered$Garden;LLastWatered$Pad;IIII)V"⟩, 5), (⟨"LastWatered$Filling", "keepWay", "()V"⟩, 5), (⟨"LastWatered", "isFaultyOrder", "()Z"⟩, 6), (⟨"LastWatered", "isFaultyWish", "()Z"⟩, 6), (⟨"LastWatered$Wishing", "isReached", "(LLastWatered$Garden;LLastWatered$Pad;III)Z"⟩, 5), (⟨"LastWateredModel", "begin", "()V"⟩, 35), (⟨"LastWateredModel", "isBed", "(I)Z"⟩, 35), (⟨"LastWateredModel", "weekFault", "()I"⟩, 35), (⟨"LastWateredModel", "orderFault", "()I"⟩, 35), (⟨"LastWateredModel", "wishFault", "()I"⟩, 35), (⟨"LastWateredModel", "opens", "()I"⟩, 35), (⟨"LastWateredModel", "goWeek", "(I)I"⟩, 35)]
theorem lw_r1 : ∀ q ∈ lw_privs_1, lw_okq q := List.forall_mem_cons.mpr ⟨lw_p0, List.forall_mem_cons.mpr ⟨lw_p1, List.forall_mem_cons.mpr ⟨lw_p2, List.forall_mem_cons.mpr ⟨lw_p3, List.forall_mem_cons.mpr ⟨lw_p4, List.forall_mem_cons.mpr ⟨lw_p5, List.forall_mem_cons.mpr ⟨lw_p6, List.forall_mem_cons.mpr ⟨lw_p7, List.forall_mem_cons.mpr ⟨lw_p8, List.forall_mem_cons.mpr ⟨lw_p9, List.forall_mem_cons.mpr ⟨lw_p10, List.forall_mem_cons.mpr ⟨lw_p11, List.forall_mem_cons.mpr ⟨lw_p12, List.forall_mem_cons.mpr ⟨lw_p13, List.forall_mem_cons.mpr ⟨lw_p14, List.forall_mem_cons.mpr ⟨lw_p15, fun _ h => absurd h List.not_mem_nil⟩⟩⟩⟩⟩⟩⟩⟩⟩⟩⟩⟩⟩⟩⟩⟩
theorem lw_p16 : lw_okq (⟨"LastWateredModel", "rained", "(I)I"⟩, 35) := ⟨⟨by decide +kernel, by decide +kernel⟩, List.mem_of_getElem? (i := 639) (by decide +kernel), List.mem_of_getElem? (i := 822) (by decide +kernel), List.mem_of_getElem? (i := 823) (by decide +kernel)⟩
theorem lw_p17 : lw_okq (⟨"LastWateredModel", "nextOf", "(I)I"⟩, 35) := ⟨⟨by decide +kernel, by decide +kernel⟩, List.mem_of_getElem? (i := 639) (by decide +kernel), List.mem_of_getElem? (i := 826) (by decide +kernel), List.mem_of_getElem? (i := 827) (by decide +kernel)⟩
theorem lw_p18 : lw_okq (⟨"LastWateredModel", "whyNot", "(III)I"⟩, 35) := ⟨⟨by decide +kernel, by decide +kernel⟩, List.mem_of_getElem? (i := 639) (by decide +kernel), List.mem_of_getElem? (i := 836) (by decide +kernel), List.mem_of_getElem? (i := 837) (by decide +kernel)⟩
theorem lw_p19 : lw_okq (⟨"LastWateredModel", "isAsSeen", "()Z"⟩, 35) := ⟨⟨by decide +kernel, by decide +kernel⟩, List.mem_of_getElem? (i := 639) (by decide +kernel), List.mem_of_getElem? (i := 874) (by decide +kernel), List.mem_of_getElem? (i := 875) (by decide +kernel)⟩
theorem lw_p20 : lw_okq (⟨"LastWateredModel", "nextBy", "(II)I"⟩, 35) := ⟨⟨by decide +kernel, by decide +kernel⟩, List.mem_of_getElem? (i := 639) (by decide +kernel), List.mem_of_getElem? (i := 882) (by decide +kernel), List.mem_of_getElem? (i := 883) (by decide +kernel)⟩
theorem lw_p21 : lw_okq (⟨"LastWateredModel", "comesOut", "(I)Z"⟩, 35) := ⟨⟨by decide +kernel, by decide +kernel⟩, List.mem_of_getElem? (i := 639) (by decide +kernel), List.mem_of_getElem? (i := 899) (by decide +kernel), List.mem_of_getElem? (i := 900) (by decide +kernel)⟩
theorem lw_p22 : lw_okq (⟨"LastWateredModel", "put", "(J)V"⟩, 35) := ⟨⟨by decide +kernel, by decide +kernel⟩, List.mem_of_getElem? (i := 639) (by decide +kernel), List.mem_of_getElem? (i := 903) (by decide +kernel), List.mem_of_getElem? (i := 904) (by decide +kernel)⟩
theorem lw_p23 : lw_okq (⟨"LastWateredModel", "layGardens", "()V"⟩, 35) := ⟨⟨by decide +kernel, by decide +kernel⟩, List.mem_of_getElem? (i := 639) (by decide +kernel), List.mem_of_getElem? (i := 921) (by decide +kernel), List.mem_of_getElem? (i := 922) (by decide +kernel)⟩
theorem lw_p24 : lw_okq (⟨"LastWateredModel", "garden", "(II)I"⟩, 35) := ⟨⟨by decide +kernel, by decide +kernel⟩, List.mem_of_getElem? (i := 639) (by decide +kernel), List.mem_of_getElem? (i := 925) (by decide +kernel), List.mem_of_getElem? (i := 926) (by decide +kernel)⟩
theorem lw_p25 : lw_okq (⟨"LastWateredModel", "mornings", "(I)I"⟩, 35) := ⟨⟨by decide +kernel, by decide +kernel⟩, List.mem_of_getElem? (i := 639) (by decide +kernel), List.mem_of_getElem? (i := 931) (by decide +kernel), List.mem_of_getElem? (i := 932) (by decide +kernel)⟩
theorem lw_p26 : lw_okq (⟨"LastWateredModel", "leads", "(II)I"⟩, 35) := ⟨⟨by decide +kernel, by decide +kernel⟩, List.mem_of_getElem? (i := 639) (by decide +kernel), List.mem_of_getElem? (i := 938) (by decide +kernel), List.mem_of_getElem? (i := 939) (by decide +kernel)⟩
theorem lw_p27 : lw_okq (⟨"LastWateredModel", "isWished", "(II)Z"⟩, 35) := ⟨⟨by decide +kernel, by decide +kernel⟩, List.mem_of_getElem? (i := 639) (by decide +kernel), List.mem_of_getElem? (i := 942) (by decide +kernel), List.mem_of_getElem? (i := 943) (by decide +kernel)⟩
theorem lw_p28 : lw_okq (⟨"LastWateredModel", "take", "(II)V"⟩, 35) := ⟨⟨by decide +kernel, by decide +kernel⟩, List.mem_of_getElem? (i := 639) (by decide +kernel), List.mem_of_getElem? (i := 957) (by decide +kernel), List.mem_of_getElem? (i := 958) (by decide +kernel)⟩
theorem lw_p29 : lw_okq (⟨"LastWateredModel", "canWater", "(I)Z"⟩, 35) := ⟨⟨by decide +kernel, by decide +kernel⟩, List.mem_of_getElem? (i := 639) (by decide +kernel), List.mem_of_getElem? (i := 961) (by decide +kernel), List.mem_of_getElem? (i := 962) (by decide +kernel)⟩
theorem lw_p30 : lw_okq (⟨"LastWateredModel", "wake", "(II)V"⟩, 35) := ⟨⟨by decide +kernel, by decide +kernel⟩, List.mem_of_getElem? (i := 639) (by decide +kernel), List.mem_of_getElem? (i := 965) (by decide +kernel), List.mem_of_getElem? (i := 966) (by decide +kernel)⟩
def lw_privs_2 : List (MethodName × Nat) := [(⟨"LastWateredModel", "rained", "(I)I"⟩, 35), (⟨"LastWateredModel", "nextOf", "(I)I"⟩, 35), (⟨"LastWateredModel", "whyNot", "(III)I"⟩, 35), (⟨"LastWateredModel", "isAsSeen", "()Z"⟩, 35), (⟨"LastWateredModel", "nextBy", "(II)I"⟩, 35), (⟨"LastWateredModel", "comesOut", "(I)Z"⟩, 35), (⟨"LastWateredModel", "put", "(J)V"⟩, 35), (⟨"LastWateredModel", "layGardens", "()V"⟩, 35), (⟨"LastWateredModel", "garden", "(II)I"⟩, 35), (⟨"LastWateredModel", "mornings", "(I)I"⟩, 35), (⟨"LastWateredModel", "leads", "(II)I"⟩, 35), (⟨"LastWateredModel", "isWished", "(II)Z"⟩, 35), (⟨"LastWateredModel", "take", "(II)V"⟩, 35), (⟨"LastWateredModel", "canWater", "(I)Z"⟩, 35), (⟨"LastWateredModel", "wake", "(II)V"⟩, 35)]
theorem lw_r2 : ∀ q ∈ lw_privs_2, lw_okq q := List.forall_mem_cons.mpr ⟨lw_p16, List.forall_mem_cons.mpr ⟨lw_p17, List.forall_mem_cons.mpr ⟨lw_p18, List.forall_mem_cons.mpr ⟨lw_p19, List.forall_mem_cons.mpr ⟨lw_p20, List.forall_mem_cons.mpr ⟨lw_p21, List.forall_mem_cons.mpr ⟨lw_p22, List.forall_mem_cons.mpr ⟨lw_p23, List.forall_mem_cons.mpr ⟨lw_p24, List.forall_mem_cons.mpr ⟨lw_p25, List.forall_mem_cons.mpr ⟨lw_p26, List.forall_mem_cons.mpr ⟨lw_p27, List.forall_mem_cons.mpr ⟨lw_p28, List.forall_mem_cons.mpr ⟨lw_p29, List.forall_mem_cons.mpr ⟨lw_p30, fun _ h => absurd h List.not_mem_nil⟩⟩⟩⟩⟩⟩⟩⟩⟩⟩⟩⟩⟩⟩⟩
def lw_privs : List (MethodName × Nat) := lw_privs_1 ++ (lw_privs_2)
def lw_tbl : List Cond := k2_sels lw_privs ++ tables_1
theorem lw_privs_ok : ∀ q ∈ lw_privs, lw_okq q := by
  show ∀ q ∈ lw_privs_1 ++ (lw_privs_2), lw_okq q
  exact List.forall_mem_append.mpr ⟨lw_r1, lw_r2⟩
def RX0 : String := "LastWatered$Chance"
def TX0 : u_T := fun k => match k with
  | _ => ("", "", "", false)
def tyX0 : Nat → FieldType := fun k => match k with
  | _ => .int
theorem nmX0 : ∀ a, a < 0 → ∀ b, b < 0 → a ≠ b → (TX0 a).2.1 ≠ (TX0 b).2.1 := by decide +kernel
theorem tyX0_ok : ∀ k, k < 0 → parseFieldDescriptor (TX0 k).2.2.1 = some (tyX0 k) := by decide +kernel
abbrev cX0_ofWish : ByteArray := prog_2_method_2_code
def yX0_ofWish : MethodName := ⟨RX0, "ofWish", "(LLastWatered$Garden;LLastWatered$Pad;)J"⟩
abbrev cX0_tenths : ByteArray := prog_2_method_3_code
def yX0_tenths : MethodName := ⟨RX0, "tenths", "(LLastWatered$Garden;LLastWatered$Pad;II)J"⟩
abbrev cX0_afterWeather : ByteArray := prog_2_method_4_code
def yX0_afterWeather : MethodName := ⟨RX0, "afterWeather", "(LLastWatered$Garden;LLastWatered$Pad;II)J"⟩
abbrev cX0_allTenths : ByteArray := prog_2_method_5_code
def yX0_allTenths : MethodName := ⟨RX0, "allTenths", "(I)J"⟩
abbrev cX0_reduced : ByteArray := prog_2_method_6_code
def yX0_reduced : MethodName := ⟨RX0, "reduced", "(JJ)J"⟩
abbrev cX0_commonDivisor : ByteArray := prog_2_method_7_code
def yX0_commonDivisor : MethodName := ⟨RX0, "commonDivisor", "(JJ)J"⟩
def RX1 : String := "LastWatered$Filling"
def TX1 : u_T := fun k => match k with
  | 0 => ("LastWatered$Filling", "isKnown", "Z", false)
  | 1 => ("LastWatered$Filling", "ways", "I", false)
  | 2 => ("LastWatered$Filling", "untold", "I", false)
  | 3 => ("LastWatered$Filling", "first", "[I", true)
  | _ => ("LastWatered$Filling", "tried", "[I", true)
def tyX1 : Nat → FieldType := fun k => match k with
  | 0 => .boolean
  | 1 => .int
  | 2 => .int
  | 3 => .array .int
  | _ => .array .int
theorem nmX1 : ∀ a, a < 5 → ∀ b, b < 5 → a ≠ b → (TX1 a).2.1 ≠ (TX1 b).2.1 := by decide +kernel
theorem tyX1_ok : ∀ k, k < 5 → parseFieldDescriptor (TX1 k).2.2.1 = some (tyX1 k) := by decide +kernel
abbrev cX1_init : ByteArray := prog_3_method_1_code
def yX1_init : MethodName := ⟨RX1, "<init>", "()V"⟩
abbrev cX1_search : ByteArray := prog_3_method_2_code
def yX1_search : MethodName := ⟨RX1, "search", "(LLastWatered$Garden;LLastWatered$Pad;)V"⟩
abbrev cX1_firstAt : ByteArray := prog_3_method_3_code
def yX1_firstAt : MethodName := ⟨RX1, "firstAt", "(I)I"⟩
abbrev cX1_goOn : ByteArray := prog_3_method_4_code
def yX1_goOn : MethodName := ⟨RX1, "goOn", "(LLastWatered$Garden;LLastWatered$Pad;IIII)V"⟩
abbrev cX1_tryBeds : ByteArray := prog_3_method_5_code
def yX1_tryBeds : MethodName := ⟨RX1, "tryBeds", "(LLastWatered$Garden;LLastWatered$Pad;IIII)V"⟩
abbrev cX1_keepWay : ByteArray := prog_3_method_6_code
def yX1_keepWay : MethodName := ⟨RX1, "keepWay", "()V"⟩
def RX2 : String := "LastWatered$Garden"
def TX2 : u_T := fun k => match k with
  | 0 => ("LastWatered$Garden", "beds", "I", false)
  | 1 => ("LastWatered$Garden", "law", "I", false)
  | 2 => ("LastWatered$Garden", "gate", "I", false)
  | 3 => ("LastWatered$Garden", "wet", "I", false)
  | 4 => ("LastWatered$Garden", "stand", "I", false)
  | 5 => ("LastWatered$Garden", "sights", "I", false)
  | 6 => ("LastWatered$Garden", "colours", "[I", true)
  | 7 => ("LastWatered$Garden", "past", "[I", true)
  | 8 => ("LastWatered$Garden", "inBloom", "[I", true)
  | 9 => ("LastWatered$Garden", "sightMornings", "[I", true)
  | _ => ("LastWatered$Garden", "sightBeds", "[I", true)
def tyX2 : Nat → FieldType := fun k => match k with
  | 0 => .int
  | 1 => .int
  | 2 => .int
  | 3 => .int
  | 4 => .int
  | 5 => .int
  | 6 => .array .int
  | 7 => .array .int
  | 8 => .array .int
  | 9 => .array .int
  | _ => .array .int
theorem nmX2 : ∀ a, a < 11 → ∀ b, b < 11 → a ≠ b → (TX2 a).2.1 ≠ (TX2 b).2.1 := by decide +kernel
theorem tyX2_ok : ∀ k, k < 11 → parseFieldDescriptor (TX2 k).2.2.1 = some (tyX2 k) := by decide +kernel
abbrev cX2_init : ByteArray := prog_4_method_1_code
def yX2_init : MethodName := ⟨RX2, "<init>", "()V"⟩
abbrev cX2_layOut : ByteArray := prog_4_method_2_code
def yX2_layOut : MethodName := ⟨RX2, "layOut", "(I)V"⟩
abbrev cX2_copyFrom : ByteArray := prog_4_method_3_code
def yX2_copyFrom : MethodName := ⟨RX2, "copyFrom", "(LLastWatered$Garden;)V"⟩
abbrev cX2_isBed : ByteArray := prog_4_method_4_code
def yX2_isBed : MethodName := ⟨RX2, "isBed", "(I)Z"⟩
abbrev cX2_pastOf : ByteArray := prog_4_method_5_code
def yX2_pastOf : MethodName := ⟨RX2, "pastOf", "(I)I"⟩
abbrev cX2_isReachedPast : ByteArray := prog_4_method_6_code
def yX2_isReachedPast : MethodName := ⟨RX2, "isReachedPast", "(II)Z"⟩
abbrev cX2_whyNot : ByteArray := prog_4_method_7_code
def yX2_whyNot : MethodName := ⟨RX2, "whyNot", "(II)I"⟩
abbrev cX2_whyNotWater : ByteArray := prog_4_method_8_code
def yX2_whyNotWater : MethodName := ⟨RX2, "whyNotWater", "(II)I"⟩
abbrev cX2_after : ByteArray := prog_4_method_9_code
def yX2_after : MethodName := ⟨RX2, "after", "(II)I"⟩
abbrev cX2_afterMorning : ByteArray := prog_4_method_10_code
def yX2_afterMorning : MethodName := ⟨RX2, "afterMorning", "(I)I"⟩
abbrev cX2_nextBed : ByteArray := prog_4_method_11_code
def yX2_nextBed : MethodName := ⟨RX2, "nextBed", "(I)I"⟩
abbrev cX2_nextPlace : ByteArray := prog_4_method_12_code
def yX2_nextPlace : MethodName := ⟨RX2, "nextPlace", "(I)I"⟩
abbrev cX2_firstImpossible : ByteArray := prog_4_method_13_code
def yX2_firstImpossible : MethodName := ⟨RX2, "firstImpossible", "(LLastWatered$Pad;)I"⟩
abbrev cX2_whyImpossible : ByteArray := prog_4_method_14_code
def yX2_whyImpossible : MethodName := ⟨RX2, "whyImpossible", "(LLastWatered$Pad;)I"⟩
abbrev cX2_live : ByteArray := prog_4_method_15_code
def yX2_live : MethodName := ⟨RX2, "live", "(LLastWatered$Pad;)V"⟩
abbrev cX2_see : ByteArray := prog_4_method_16_code
def yX2_see : MethodName := ⟨RX2, "see", "(II)Z"⟩
abbrev cX2_isAsSeen : ByteArray := prog_4_method_17_code
def yX2_isAsSeen : MethodName := ⟨RX2, "isAsSeen", "(II)Z"⟩
abbrev cX2_sawNoMorningFrom : ByteArray := prog_4_method_18_code
def yX2_sawNoMorningFrom : MethodName := ⟨RX2, "sawNoMorningFrom", "(I)Z"⟩
abbrev cX2_pleases : ByteArray := prog_4_method_19_code
def yX2_pleases : MethodName := ⟨RX2, "pleases", "(II)Z"⟩
def RX3 : String := "LastWatered$Gardeners"
def TX3 : u_T := fun k => match k with
  | _ => ("", "", "", false)
def tyX3 : Nat → FieldType := fun k => match k with
  | _ => .int
theorem nmX3 : ∀ a, a < 0 → ∀ b, b < 0 → a ≠ b → (TX3 a).2.1 ≠ (TX3 b).2.1 := by decide +kernel
theorem tyX3_ok : ∀ k, k < 0 → parseFieldDescriptor (TX3 k).2.2.1 = some (tyX3 k) := by decide +kernel
abbrev cX3_morningOfBloom : ByteArray := prog_5_method_2_code
def yX3_morningOfBloom : MethodName := ⟨RX3, "morningOfBloom", "(LLastWatered$Garden;I)I"⟩
abbrev cX3_morningOf : ByteArray := prog_5_method_3_code
def yX3_morningOf : MethodName := ⟨RX3, "morningOf", "(LLastWatered$Garden;III)I"⟩
abbrev cX3_afterWatering : ByteArray := prog_5_method_4_code
def yX3_afterWatering : MethodName := ⟨RX3, "afterWatering", "(LLastWatered$Garden;III)I"⟩
abbrev cX3_better : ByteArray := prog_5_method_5_code
def yX3_better : MethodName := ⟨RX3, "better", "(IIZ)I"⟩
def RX4 : String := "LastWatered$Memory"
def TX4 : u_T := fun k => match k with
  | 0 => ("LastWatered$Memory", "stands", "[I", true)
  | _ => ("LastWatered$Memory", "failed", "[I", true)
def tyX4 : Nat → FieldType := fun k => match k with
  | 0 => .array .int
  | _ => .array .int
theorem nmX4 : ∀ a, a < 2 → ∀ b, b < 2 → a ≠ b → (TX4 a).2.1 ≠ (TX4 b).2.1 := by decide +kernel
theorem tyX4_ok : ∀ k, k < 2 → parseFieldDescriptor (TX4 k).2.2.1 = some (tyX4 k) := by decide +kernel
abbrev cX4_init : ByteArray := prog_6_method_1_code
def yX4_init : MethodName := ⟨RX4, "<init>", "()V"⟩
abbrev cX4_clear : ByteArray := prog_6_method_2_code
def yX4_clear : MethodName := ⟨RX4, "clear", "()V"⟩
abbrev cX4_slotOf : ByteArray := prog_6_method_3_code
def yX4_slotOf : MethodName := ⟨RX4, "slotOf", "(I)I"⟩
abbrev cX4_failedWith : ByteArray := prog_6_method_4_code
def yX4_failedWith : MethodName := ⟨RX4, "failedWith", "(I)I"⟩
abbrev cX4_keep : ByteArray := prog_6_method_5_code
def yX4_keep : MethodName := ⟨RX4, "keep", "(II)V"⟩
def RX5 : String := "LastWatered$Order"
def TX5 : u_T := fun k => match k with
  | _ => ("", "", "", false)
def tyX5 : Nat → FieldType := fun k => match k with
  | _ => .int
theorem nmX5 : ∀ a, a < 0 → ∀ b, b < 0 → a ≠ b → (TX5 a).2.1 ≠ (TX5 b).2.1 := by decide +kernel
theorem tyX5_ok : ∀ k, k < 0 → parseFieldDescriptor (TX5 k).2.2.1 = some (tyX5 k) := by decide +kernel
abbrev cX5_isHadFrom : ByteArray := prog_7_method_2_code
def yX5_isHadFrom : MethodName := ⟨RX5, "isHadFrom", "(LLastWatered$Garden;I)Z"⟩
abbrev cX5_comesFrom : ByteArray := prog_7_method_3_code
def yX5_comesFrom : MethodName := ⟨RX5, "comesFrom", "(LLastWatered$Garden;III)Z"⟩
abbrev cX5_number : ByteArray := prog_7_method_4_code
def yX5_number : MethodName := ⟨RX5, "number", "([JII)J"⟩
abbrev cX5_firstPattern : ByteArray := prog_7_method_5_code
def yX5_firstPattern : MethodName := ⟨RX5, "firstPattern", "(II)I"⟩
abbrev cX5_fewestGardens : ByteArray := prog_7_method_6_code
def yX5_fewestGardens : MethodName := ⟨RX5, "fewestGardens", "(II)I"⟩
abbrev cX5_isMadeBy : ByteArray := prog_7_method_7_code
def yX5_isMadeBy : MethodName := ⟨RX5, "isMadeBy", "(III)Z"⟩
abbrev cX5_isMadeBehind : ByteArray := prog_7_method_8_code
def yX5_isMadeBehind : MethodName := ⟨RX5, "isMadeBehind", "(IIIIII)Z"⟩
abbrev cX5_asSeenFrom : ByteArray := prog_7_method_9_code
def yX5_asSeenFrom : MethodName := ⟨RX5, "asSeenFrom", "(III)I"⟩
def RX6 : String := "LastWatered$Packed"
def TX6 : u_T := fun k => match k with
  | _ => ("", "", "", false)
def tyX6 : Nat → FieldType := fun k => match k with
  | _ => .int
theorem nmX6 : ∀ a, a < 0 → ∀ b, b < 0 → a ≠ b → (TX6 a).2.1 ≠ (TX6 b).2.1 := by decide +kernel
theorem tyX6_ok : ∀ k, k < 0 → parseFieldDescriptor (TX6 k).2.2.1 = some (tyX6 k) := by decide +kernel
abbrev cX6_at : ByteArray := prog_8_method_2_code
def yX6_at : MethodName := ⟨RX6, "at", "(II)I"⟩
abbrev cX6_put : ByteArray := prog_8_method_3_code
def yX6_put : MethodName := ⟨RX6, "put", "(II)I"⟩
def RX7 : String := "LastWatered$Pad"
def TX7 : u_T := fun k => match k with
  | 0 => ("LastWatered$Pad", "count", "I", false)
  | _ => ("LastWatered$Pad", "signs", "[I", true)
def tyX7 : Nat → FieldType := fun k => match k with
  | 0 => .int
  | _ => .array .int
theorem nmX7 : ∀ a, a < 2 → ∀ b, b < 2 → a ≠ b → (TX7 a).2.1 ≠ (TX7 b).2.1 := by decide +kernel
theorem tyX7_ok : ∀ k, k < 2 → parseFieldDescriptor (TX7 k).2.2.1 = some (tyX7 k) := by decide +kernel
abbrev cX7_init : ByteArray := prog_9_method_1_code
def yX7_init : MethodName := ⟨RX7, "<init>", "()V"⟩
abbrev cX7_write : ByteArray := prog_9_method_2_code
def yX7_write : MethodName := ⟨RX7, "write", "(I)Z"⟩
abbrev cX7_signAt : ByteArray := prog_9_method_3_code
def yX7_signAt : MethodName := ⟨RX7, "signAt", "(I)I"⟩
abbrev cX7_numberOf : ByteArray := prog_9_method_4_code
def yX7_numberOf : MethodName := ⟨RX7, "numberOf", "(I)I"⟩
abbrev cX7_weekFault : ByteArray := prog_9_method_5_code
def yX7_weekFault : MethodName := ⟨RX7, "weekFault", "(I)I"⟩
abbrev cX7_orderFault : ByteArray := prog_9_method_6_code
def yX7_orderFault : MethodName := ⟨RX7, "orderFault", "(I)I"⟩
abbrev cX7_wishFault : ByteArray := prog_9_method_7_code
def yX7_wishFault : MethodName := ⟨RX7, "wishFault", "(I)I"⟩
abbrev cX7_order : ByteArray := prog_9_method_8_code
def yX7_order : MethodName := ⟨RX7, "order", "()I"⟩
abbrev cX7_colourOf : ByteArray := prog_9_method_9_code
def yX7_colourOf : MethodName := ⟨RX7, "colourOf", "(I)I"⟩
abbrev cX7_isLetter : ByteArray := prog_9_method_10_code
def yX7_isLetter : MethodName := ⟨RX7, "isLetter", "(II)Z"⟩
def RX8 : String := "LastWatered$Stand"
def TX8 : u_T := fun k => match k with
  | _ => ("", "", "", false)
def tyX8 : Nat → FieldType := fun k => match k with
  | _ => .int
theorem nmX8 : ∀ a, a < 0 → ∀ b, b < 0 → a ≠ b → (TX8 a).2.1 ≠ (TX8 b).2.1 := by decide +kernel
theorem tyX8_ok : ∀ k, k < 0 → parseFieldDescriptor (TX8 k).2.2.1 = some (tyX8 k) := by decide +kernel
abbrev cX8_length : ByteArray := prog_10_method_2_code
def yX8_length : MethodName := ⟨RX8, "length", "(I)I"⟩
abbrev cX8_numberBloomed : ByteArray := prog_10_method_3_code
def yX8_numberBloomed : MethodName := ⟨RX8, "numberBloomed", "(I)I"⟩
abbrev cX8_bedAt : ByteArray := prog_10_method_4_code
def yX8_bedAt : MethodName := ⟨RX8, "bedAt", "(II)I"⟩
abbrev cX8_isInRow : ByteArray := prog_10_method_5_code
def yX8_isInRow : MethodName := ⟨RX8, "isInRow", "(II)Z"⟩
abbrev cX8_hasBloomed : ByteArray := prog_10_method_6_code
def yX8_hasBloomed : MethodName := ⟨RX8, "hasBloomed", "(II)Z"⟩
abbrev cX8_watered : ByteArray := prog_10_method_7_code
def yX8_watered : MethodName := ⟨RX8, "watered", "(II)I"⟩
abbrev cX8_rained : ByteArray := prog_10_method_8_code
def yX8_rained : MethodName := ⟨RX8, "rained", "(II)I"⟩
abbrev cX8_afterBloom : ByteArray := prog_10_method_9_code
def yX8_afterBloom : MethodName := ⟨RX8, "afterBloom", "(II)I"⟩
abbrev cX8_placeOf : ByteArray := prog_10_method_10_code
def yX8_placeOf : MethodName := ⟨RX8, "placeOf", "(II)I"⟩
abbrev cX8_without : ByteArray := prog_10_method_11_code
def yX8_without : MethodName := ⟨RX8, "without", "(II)I"⟩
def RX9 : String := "LastWatered$Wishing"
def TX9 : u_T := fun k => match k with
  | 0 => ("LastWatered$Wishing", "isKnown", "Z", false)
  | 1 => ("LastWatered$Wishing", "waterings", "I", false)
  | 2 => ("LastWatered$Wishing", "length", "I", false)
  | 3 => ("LastWatered$Wishing", "week", "[I", true)
  | _ => ("LastWatered$Wishing", "memory", "LLastWatered$Memory;", true)
def tyX9 : Nat → FieldType := fun k => match k with
  | 0 => .boolean
  | 1 => .int
  | 2 => .int
  | 3 => .array .int
  | _ => .object "LastWatered$Memory"
theorem nmX9 : ∀ a, a < 5 → ∀ b, b < 5 → a ≠ b → (TX9 a).2.1 ≠ (TX9 b).2.1 := by decide +kernel
theorem tyX9_ok : ∀ k, k < 5 → parseFieldDescriptor (TX9 k).2.2.1 = some (tyX9 k) := by decide +kernel
abbrev cX9_init : ByteArray := prog_11_method_1_code
def yX9_init : MethodName := ⟨RX9, "<init>", "()V"⟩
abbrev cX9_search : ByteArray := prog_11_method_2_code
def yX9_search : MethodName := ⟨RX9, "search", "(LLastWatered$Garden;LLastWatered$Pad;)V"⟩
abbrev cX9_signAt : ByteArray := prog_11_method_3_code
def yX9_signAt : MethodName := ⟨RX9, "signAt", "(I)I"⟩
abbrev cX9_hasBedsFor : ByteArray := prog_11_method_4_code
def yX9_hasBedsFor : MethodName := ⟨RX9, "hasBedsFor", "(LLastWatered$Garden;LLastWatered$Pad;)Z"⟩
abbrev cX9_numberToBloom : ByteArray := prog_11_method_5_code
def yX9_numberToBloom : MethodName := ⟨RX9, "numberToBloom", "(LLastWatered$Garden;I)I"⟩
abbrev cX9_isReached : ByteArray := prog_11_method_6_code
def yX9_isReached : MethodName := ⟨RX9, "isReached", "(LLastWatered$Garden;LLastWatered$Pad;III)Z"⟩
abbrev cX9_signOf : ByteArray := prog_11_method_7_code
def yX9_signOf : MethodName := ⟨RX9, "signOf", "(II)I"⟩
abbrev cX9_isFitting : ByteArray := prog_11_method_8_code
def yX9_isFitting : MethodName := ⟨RX9, "isFitting", "(LLastWatered$Garden;III)Z"⟩
def RX10 : String := "LastWatered"
def TX10 : u_T := fun k => match k with
  | 0 => ("LastWatered", "pad", "LLastWatered$Pad;", true)
  | 1 => ("LastWatered", "garden", "LLastWatered$Garden;", true)
  | 2 => ("LastWatered", "images", "[LLastWatered$Garden;", true)
  | 3 => ("LastWatered", "filling", "LLastWatered$Filling;", true)
  | 4 => ("LastWatered", "wishing", "LLastWatered$Wishing;", true)
  | _ => ("LastWatered", "heights", "[J", true)
def tyX10 : Nat → FieldType := fun k => match k with
  | 0 => .object "LastWatered$Pad"
  | 1 => .object "LastWatered$Garden"
  | 2 => .array (.object "LastWatered$Garden")
  | 3 => .object "LastWatered$Filling"
  | 4 => .object "LastWatered$Wishing"
  | _ => .array .long
theorem nmX10 : ∀ a, a < 6 → ∀ b, b < 6 → a ≠ b → (TX10 a).2.1 ≠ (TX10 b).2.1 := by decide +kernel
theorem tyX10_ok : ∀ k, k < 6 → parseFieldDescriptor (TX10 k).2.2.1 = some (tyX10 k) := by decide +kernel
abbrev cX10_init : ByteArray := prog_1_method_1_code
def yX10_init : MethodName := ⟨RX10, "<init>", "()V"⟩
abbrev cX10_beds : ByteArray := prog_1_method_2_code
def yX10_beds : MethodName := ⟨RX10, "beds", "(I)I"⟩
abbrev cX10_colour : ByteArray := prog_1_method_3_code
def yX10_colour : MethodName := ⟨RX10, "colour", "(II)I"⟩
abbrev cX10_past : ByteArray := prog_1_method_4_code
def yX10_past : MethodName := ⟨RX10, "past", "(II)I"⟩
abbrev cX10_set : ByteArray := prog_1_method_5_code
def yX10_set : MethodName := ⟨RX10, "set", "(II)I"⟩
abbrev cX10_say : ByteArray := prog_1_method_6_code
def yX10_say : MethodName := ⟨RX10, "say", "(I)I"⟩
abbrev cX10_wipe : ByteArray := prog_1_method_7_code
def yX10_wipe : MethodName := ⟨RX10, "wipe", "()I"⟩
abbrev cX10_fault : ByteArray := prog_1_method_8_code
def yX10_fault : MethodName := ⟨RX10, "fault", "(I)I"⟩
abbrev cX10_judge : ByteArray := prog_1_method_9_code
def yX10_judge : MethodName := ⟨RX10, "judge", "(I)I"⟩
abbrev cX10_week : ByteArray := prog_1_method_10_code
def yX10_week : MethodName := ⟨RX10, "week", "()I"⟩
abbrev cX10_row : ByteArray := prog_1_method_11_code
def yX10_row : MethodName := ⟨RX10, "row", "(I)I"⟩
abbrev cX10_bloomed : ByteArray := prog_1_method_12_code
def yX10_bloomed : MethodName := ⟨RX10, "bloomed", "(I)I"⟩
abbrev cX10_anew : ByteArray := prog_1_method_13_code
def yX10_anew : MethodName := ⟨RX10, "anew", "()I"⟩
abbrev cX10_seen : ByteArray := prog_1_method_14_code
def yX10_seen : MethodName := ⟨RX10, "seen", "(II)I"⟩
abbrev cX10_forget : ByteArray := prog_1_method_15_code
def yX10_forget : MethodName := ⟨RX10, "forget", "()I"⟩
abbrev cX10_filled : ByteArray := prog_1_method_16_code
def yX10_filled : MethodName := ⟨RX10, "filled", "(I)I"⟩
abbrev cX10_canBe : ByteArray := prog_1_method_17_code
def yX10_canBe : MethodName := ⟨RX10, "canBe", "()I"⟩
abbrev cX10_orders : ByteArray := prog_1_method_18_code
def yX10_orders : MethodName := ⟨RX10, "orders", "(II)J"⟩
abbrev cX10_pattern : ByteArray := prog_1_method_19_code
def yX10_pattern : MethodName := ⟨RX10, "pattern", "(I)I"⟩
abbrev cX10_behind : ByteArray := prog_1_method_20_code
def yX10_behind : MethodName := ⟨RX10, "behind", "()I"⟩
abbrev cX10_fewest : ByteArray := prog_1_method_21_code
def yX10_fewest : MethodName := ⟨RX10, "fewest", "(I)I"⟩
abbrev cX10_chance : ByteArray := prog_1_method_22_code
def yX10_chance : MethodName := ⟨RX10, "chance", "(I)J"⟩
abbrev cX10_turns : ByteArray := prog_1_method_23_code
def yX10_turns : MethodName := ⟨RX10, "turns", "(I)I"⟩
abbrev cX10_image : ByteArray := prog_1_method_24_code
def yX10_image : MethodName := ⟨RX10, "image", "(I)I"⟩
abbrev cX10_restore : ByteArray := prog_1_method_25_code
def yX10_restore : MethodName := ⟨RX10, "restore", "(I)I"⟩
abbrev cX10_told : ByteArray := prog_1_method_26_code
def yX10_told : MethodName := ⟨RX10, "told", "(I)I"⟩
abbrev cX10_isFaultyWeek : ByteArray := prog_1_method_27_code
def yX10_isFaultyWeek : MethodName := ⟨RX10, "isFaultyWeek", "()Z"⟩
abbrev cX10_isFaultyOrder : ByteArray := prog_1_method_28_code
def yX10_isFaultyOrder : MethodName := ⟨RX10, "isFaultyOrder", "()Z"⟩
abbrev cX10_isFaultyWish : ByteArray := prog_1_method_29_code
def yX10_isFaultyWish : MethodName := ⟨RX10, "isFaultyWish", "()Z"⟩
abbrev cX10_dropAnswers : ByteArray := prog_1_method_30_code
def yX10_dropAnswers : MethodName := ⟨RX10, "dropAnswers", "()V"⟩
def RX11 : String := "LastWateredModel"
def TX11 : u_T := fun k => match k with
  | 0 => ("LastWateredModel", "beds", "I", false)
  | 1 => ("LastWateredModel", "colours", "[I", true)
  | 2 => ("LastWateredModel", "pasts", "[I", true)
  | 3 => ("LastWateredModel", "law", "I", false)
  | 4 => ("LastWateredModel", "gate", "I", false)
  | 5 => ("LastWateredModel", "wet", "I", false)
  | 6 => ("LastWateredModel", "signs", "I", false)
  | 7 => ("LastWateredModel", "pad", "[I", true)
  | 8 => ("LastWateredModel", "row", "I", false)
  | 9 => ("LastWateredModel", "bloomed", "I", false)
  | 10 => ("LastWateredModel", "came", "[I", true)
  | 11 => ("LastWateredModel", "many", "I", false)
  | 12 => ("LastWateredModel", "sights", "I", false)
  | 13 => ("LastWateredModel", "sight", "[I", true)
  | 14 => ("LastWateredModel", "nowRow", "I", false)
  | 15 => ("LastWateredModel", "nowSet", "I", false)
  | 16 => ("LastWateredModel", "bloomedNow", "I", false)
  | 17 => ("LastWateredModel", "nowCame", "[I", true)
  | 18 => ("LastWateredModel", "reason", "I", false)
  | 19 => ("LastWateredModel", "can", "[Z", true)
  | 20 => ("LastWateredModel", "ways", "[J", true)
  | 21 => ("LastWateredModel", "table", "[J", true)
  | 22 => ("LastWateredModel", "line", "[J", true)
  | 23 => ("LastWateredModel", "lines", "I", false)
  | 24 => ("LastWateredModel", "gardens", "I", false)
  | 25 => ("LastWateredModel", "rowOf", "[I", true)
  | 26 => ("LastWateredModel", "setOf", "[I", true)
  | 27 => ("LastWateredModel", "cost", "[I", true)
  | 28 => ("LastWateredModel", "places", "[I", true)
  | 29 => ("LastWateredModel", "rowAt", "[I", true)
  | 30 => ("LastWateredModel", "setAt", "[I", true)
  | 31 => ("LastWateredModel", "next", "[I", true)
  | 32 => ("LastWateredModel", "value", "[I", true)
  | 33 => ("LastWateredModel", "image", "[I", true)
  | _ => ("LastWateredModel", "isKept", "[Z", true)
def tyX11 : Nat → FieldType := fun k => match k with
  | 0 => .int
  | 1 => .array .int
  | 2 => .array .int
  | 3 => .int
  | 4 => .int
  | 5 => .int
  | 6 => .int
  | 7 => .array .int
  | 8 => .int
  | 9 => .int
  | 10 => .array .int
  | 11 => .int
  | 12 => .int
  | 13 => .array .int
  | 14 => .int
  | 15 => .int
  | 16 => .int
  | 17 => .array .int
  | 18 => .int
  | 19 => .array .boolean
  | 20 => .array .long
  | 21 => .array .long
  | 22 => .array .long
  | 23 => .int
  | 24 => .int
  | 25 => .array .int
  | 26 => .array .int
  | 27 => .array .int
  | 28 => .array .int
  | 29 => .array .int
  | 30 => .array .int
  | 31 => .array .int
  | 32 => .array .int
  | 33 => .array .int
  | _ => .array .boolean
theorem nmX11 : ∀ a, a < 35 → ∀ b, b < 35 → a ≠ b → (TX11 a).2.1 ≠ (TX11 b).2.1 := by decide +kernel
theorem tyX11_ok : ∀ k, k < 35 → parseFieldDescriptor (TX11 k).2.2.1 = some (tyX11 k) := by decide +kernel
abbrev cX11_init : ByteArray := prog_13_method_1_code
def yX11_init : MethodName := ⟨RX11, "<init>", "()V"⟩
abbrev cX11_begin : ByteArray := prog_13_method_2_code
def yX11_begin : MethodName := ⟨RX11, "begin", "()V"⟩
abbrev cX11_in : ByteArray := prog_13_method_3_code
def yX11_in : MethodName := ⟨RX11, "in", "(III)Z"⟩
abbrev cX11_has : ByteArray := prog_13_method_4_code
def yX11_has : MethodName := ⟨RX11, "has", "(II)Z"⟩
abbrev cX11_isBed : ByteArray := prog_13_method_5_code
def yX11_isBed : MethodName := ⟨RX11, "isBed", "(I)Z"⟩
abbrev cX11_beds : ByteArray := prog_13_method_6_code
def yX11_beds : MethodName := ⟨RX11, "beds", "(I)I"⟩
abbrev cX11_colour : ByteArray := prog_13_method_7_code
def yX11_colour : MethodName := ⟨RX11, "colour", "(II)I"⟩
abbrev cX11_past : ByteArray := prog_13_method_8_code
def yX11_past : MethodName := ⟨RX11, "past", "(II)I"⟩
abbrev cX11_set : ByteArray := prog_13_method_9_code
def yX11_set : MethodName := ⟨RX11, "set", "(II)I"⟩
abbrev cX11_say : ByteArray := prog_13_method_10_code
def yX11_say : MethodName := ⟨RX11, "say", "(I)I"⟩
abbrev cX11_wipe : ByteArray := prog_13_method_11_code
def yX11_wipe : MethodName := ⟨RX11, "wipe", "()I"⟩
abbrev cX11_weekFault : ByteArray := prog_13_method_12_code
def yX11_weekFault : MethodName := ⟨RX11, "weekFault", "()I"⟩
abbrev cX11_orderFault : ByteArray := prog_13_method_13_code
def yX11_orderFault : MethodName := ⟨RX11, "orderFault", "()I"⟩
abbrev cX11_colourOf : ByteArray := prog_13_method_14_code
def yX11_colourOf : MethodName := ⟨RX11, "colourOf", "(I)I"⟩
abbrev cX11_wishFault : ByteArray := prog_13_method_15_code
def yX11_wishFault : MethodName := ⟨RX11, "wishFault", "()I"⟩
abbrev cX11_fault : ByteArray := prog_13_method_16_code
def yX11_fault : MethodName := ⟨RX11, "fault", "(I)I"⟩
abbrev cX11_opens : ByteArray := prog_13_method_17_code
def yX11_opens : MethodName := ⟨RX11, "opens", "()I"⟩
abbrev cX11_sizeOf : ByteArray := prog_13_method_18_code
def yX11_sizeOf : MethodName := ⟨RX11, "sizeOf", "(I)I"⟩
abbrev cX11_without : ByteArray := prog_13_method_19_code
def yX11_without : MethodName := ⟨RX11, "without", "(II)I"⟩
abbrev cX11_isIn : ByteArray := prog_13_method_20_code
def yX11_isIn : MethodName := ⟨RX11, "isIn", "(II)Z"⟩
abbrev cX11_watered : ByteArray := prog_13_method_21_code
def yX11_watered : MethodName := ⟨RX11, "watered", "(II)I"⟩
abbrev cX11_rained : ByteArray := prog_13_method_22_code
def yX11_rained : MethodName := ⟨RX11, "rained", "(I)I"⟩
abbrev cX11_nextOf : ByteArray := prog_13_method_23_code
def yX11_nextOf : MethodName := ⟨RX11, "nextOf", "(I)I"⟩
abbrev cX11_whyNot : ByteArray := prog_13_method_24_code
def yX11_whyNot : MethodName := ⟨RX11, "whyNot", "(III)I"⟩
abbrev cX11_goWeek : ByteArray := prog_13_method_25_code
def yX11_goWeek : MethodName := ⟨RX11, "goWeek", "(I)I"⟩
abbrev cX11_judge : ByteArray := prog_13_method_26_code
def yX11_judge : MethodName := ⟨RX11, "judge", "(I)I"⟩
abbrev cX11_week : ByteArray := prog_13_method_27_code
def yX11_week : MethodName := ⟨RX11, "week", "()I"⟩
abbrev cX11_row : ByteArray := prog_13_method_28_code
def yX11_row : MethodName := ⟨RX11, "row", "(I)I"⟩
abbrev cX11_bloomed : ByteArray := prog_13_method_29_code
def yX11_bloomed : MethodName := ⟨RX11, "bloomed", "(I)I"⟩
abbrev cX11_anew : ByteArray := prog_13_method_30_code
def yX11_anew : MethodName := ⟨RX11, "anew", "()I"⟩
abbrev cX11_seen : ByteArray := prog_13_method_31_code
def yX11_seen : MethodName := ⟨RX11, "seen", "(II)I"⟩
abbrev cX11_forget : ByteArray := prog_13_method_32_code
def yX11_forget : MethodName := ⟨RX11, "forget", "()I"⟩
abbrev cX11_isAsSeen : ByteArray := prog_13_method_33_code
def yX11_isAsSeen : MethodName := ⟨RX11, "isAsSeen", "()Z"⟩
abbrev cX11_filled : ByteArray := prog_13_method_34_code
def yX11_filled : MethodName := ⟨RX11, "filled", "(I)I"⟩
abbrev cX11_nextBy : ByteArray := prog_13_method_35_code
def yX11_nextBy : MethodName := ⟨RX11, "nextBy", "(II)I"⟩
abbrev cX11_canBe : ByteArray := prog_13_method_36_code
def yX11_canBe : MethodName := ⟨RX11, "canBe", "()I"⟩
abbrev cX11_orders : ByteArray := prog_13_method_37_code
def yX11_orders : MethodName := ⟨RX11, "orders", "(II)J"⟩
abbrev cX11_pattern : ByteArray := prog_13_method_38_code
def yX11_pattern : MethodName := ⟨RX11, "pattern", "(I)I"⟩
abbrev cX11_put : ByteArray := prog_13_method_39_code
def yX11_put : MethodName := ⟨RX11, "put", "(J)V"⟩
abbrev cX11_comesOut : ByteArray := prog_13_method_40_code
def yX11_comesOut : MethodName := ⟨RX11, "comesOut", "(I)Z"⟩
abbrev cX11_behind : ByteArray := prog_13_method_41_code
def yX11_behind : MethodName := ⟨RX11, "behind", "()I"⟩
abbrev cX11_garden : ByteArray := prog_13_method_42_code
def yX11_garden : MethodName := ⟨RX11, "garden", "(II)I"⟩
abbrev cX11_bits : ByteArray := prog_13_method_43_code
def yX11_bits : MethodName := ⟨RX11, "bits", "(I)I"⟩
abbrev cX11_mornings : ByteArray := prog_13_method_44_code
def yX11_mornings : MethodName := ⟨RX11, "mornings", "(I)I"⟩
abbrev cX11_isWished : ByteArray := prog_13_method_45_code
def yX11_isWished : MethodName := ⟨RX11, "isWished", "(II)Z"⟩
abbrev cX11_leads : ByteArray := prog_13_method_46_code
def yX11_leads : MethodName := ⟨RX11, "leads", "(II)I"⟩
abbrev cX11_layGardens : ByteArray := prog_13_method_47_code
def yX11_layGardens : MethodName := ⟨RX11, "layGardens", "()V"⟩
abbrev cX11_fewest : ByteArray := prog_13_method_48_code
def yX11_fewest : MethodName := ⟨RX11, "fewest", "(I)I"⟩
abbrev cX11_chance : ByteArray := prog_13_method_49_code
def yX11_chance : MethodName := ⟨RX11, "chance", "(I)J"⟩
abbrev cX11_canWater : ByteArray := prog_13_method_50_code
def yX11_canWater : MethodName := ⟨RX11, "canWater", "(I)Z"⟩
abbrev cX11_wake : ByteArray := prog_13_method_51_code
def yX11_wake : MethodName := ⟨RX11, "wake", "(II)V"⟩
abbrev cX11_take : ByteArray := prog_13_method_52_code
def yX11_take : MethodName := ⟨RX11, "take", "(II)V"⟩
abbrev cX11_turns : ByteArray := prog_13_method_53_code
def yX11_turns : MethodName := ⟨RX11, "turns", "(I)I"⟩
abbrev cX11_image : ByteArray := prog_13_method_54_code
def yX11_image : MethodName := ⟨RX11, "image", "(I)I"⟩
abbrev cX11_restore : ByteArray := prog_13_method_55_code
def yX11_restore : MethodName := ⟨RX11, "restore", "(I)I"⟩
abbrev cX11_told : ByteArray := prog_13_method_56_code
def yX11_told : MethodName := ⟨RX11, "told", "(I)I"⟩
def RJ6 : String := "java/lang/Integer"
def TJ6 : u_T := fun k => match k with
  | _ => ("", "", "", false)
def tyJ6 : Nat → FieldType := fun k => match k with
  | _ => .int
theorem nmJ6 : ∀ a, a < 0 → ∀ b, b < 0 → a ≠ b → (TJ6 a).2.1 ≠ (TJ6 b).2.1 := by decide +kernel
theorem tyJ6_ok : ∀ k, k < 0 → parseFieldDescriptor (TJ6 k).2.2.1 = some (tyJ6 k) := by decide +kernel
abbrev cJ6_bitCount_0f7a4 : ByteArray := prog_14_method_49_code
def yJ6_bitCount_0f7a4 : MethodName := ⟨RJ6, "bitCount", "(I)I"⟩
def RJ9 : String := "java/lang/Math"
def TJ9 : u_T := fun k => match k with
  | _ => ("", "", "", false)
def tyJ9 : Nat → FieldType := fun k => match k with
  | _ => .int
theorem nmJ9 : ∀ a, a < 0 → ∀ b, b < 0 → a ≠ b → (TJ9 a).2.1 ≠ (TJ9 b).2.1 := by decide +kernel
theorem tyJ9_ok : ∀ k, k < 0 → parseFieldDescriptor (TJ9 k).2.2.1 = some (tyJ9 k) := by decide +kernel
abbrev cJ9_max_7cf53 : ByteArray := prog_15_method_65_code
def yJ9_max_7cf53 : MethodName := ⟨RJ9, "max", "(II)I"⟩
abbrev cJ9_min_7cf53 : ByteArray := prog_15_method_69_code
def yJ9_min_7cf53 : MethodName := ⟨RJ9, "min", "(II)I"⟩
def RJ10 : String := "java/lang/System"
def TJ10 : u_T := fun k => match k with
  | _ => ("", "", "", false)
def tyJ10 : Nat → FieldType := fun k => match k with
  | _ => .int
theorem nmJ10 : ∀ a, a < 0 → ∀ b, b < 0 → a ≠ b → (TJ10 a).2.1 ≠ (TJ10 b).2.1 := by decide +kernel
theorem tyJ10_ok : ∀ k, k < 0 → parseFieldDescriptor (TJ10 k).2.2.1 = some (tyJ10 k) := by decide +kernel
def RJ7 : String := "java/util/Arrays"
def TJ7 : u_T := fun k => match k with
  | _ => ("", "", "", false)
def tyJ7 : Nat → FieldType := fun k => match k with
  | _ => .int
theorem nmJ7 : ∀ a, a < 0 → ∀ b, b < 0 → a ≠ b → (TJ7 a).2.1 ≠ (TJ7 b).2.1 := by decide +kernel
theorem tyJ7_ok : ∀ k, k < 0 → parseFieldDescriptor (TJ7 k).2.2.1 = some (tyJ7 k) := by decide +kernel
abbrev cJ7_fill_d0a16 : ByteArray := prog_17_method_101_code
def yJ7_fill_d0a16 : MethodName := ⟨RJ7, "fill", "([JJ)V"⟩
abbrev cJ7_fill_53178 : ByteArray := prog_17_method_103_code
def yJ7_fill_53178 : MethodName := ⟨RJ7, "fill", "([II)V"⟩
def RL : String := "LastWateredLaw"
abbrev cL_law : ByteArray := code
abbrev vwCl : List vw_C := [(RX1, TX1, 5), (RX2, TX2, 11), (RX4, TX4, 2), (RX7, TX7, 2), (RX9, TX9, 5), (RX10, TX10, 6), (RX11, TX11, 35)]
end
section
/-! ===== a pure machine over numbered cells: what stands beside an instruction, tables, shapes, worlds ===== -/
abbrev pm_X : Type := (Nat × Nat) ⊕ (Int32 ⊕ (Int64 ⊕ MethodName))
abbrev pm_E : Type := Nat × Instr × Nat × pm_X
abbrev pm_M : Type := MethodName × ByteArray × Nat × Option FieldType × List pm_E
/-- a cell's shape: (0, class, fields: none an int, some r a reference), (1, n, []) ints, (2, n, []) booleans, (3, n, []) longs, (4, n, refs) references -/
abbrev pm_C : Type := Nat × Nat × List (Option (Option Nat))
abbrev pm_I : Type := Nat → Nat → Int32
abbrev pm_J : Type := Nat → Nat → Int64
abbrev pm_L : Type := List (Option Value)
abbrev pm_Po : Type := Option Value → List pm_C → pm_I → pm_J → Prop
abbrev pm_CX : Type := Launch × (Nat → ClassId) × (Nat → Nat → Nat) × (Nat → ClassId)
def pm_at (al : Nat → Nat) (v : Value) : Value := match v with
  | .ref k => .ref (al k)
  | v => v
def pm_fv (al : Nat → Nat) (f : Nat → Int32) (j : Nat) (o : Option (Option Nat)) : Value := match o with
  | none => .int (f j)
  | some none => .null
  | some (some k) => .ref (al k)
def pm_fl (al : Nat → Nat) (f : Nat → Int32) : Nat → List (Option (Option Nat)) → List Value
  | _, [] => []
  | j, o :: r => pm_fv al f j o :: pm_fl al f (j + 1) r
theorem pm_fl_get (al : Nat → Nat) (f : Nat → Int32) (fs : List (Option (Option Nat))) : ∀ (j0 j : Nat), (pm_fl al f j0 fs)[j]? = (fs[j]?).map (pm_fv al f (j0 + j)) := by
  induction fs with
  | nil => intro j0 j; simp [pm_fl]
  | cons o r ih =>
    intro j0 j
    cases j with
    | zero => simp [pm_fl]
    | succ j =>
      simp only [pm_fl, List.getElem?_cons_succ]
      rw [ih (j0 + 1) j, show j0 + 1 + j = j0 + (j + 1) by omega]
theorem pm_fl_len (al : Nat → Nat) (f : Nat → Int32) (fs : List (Option (Option Nat))) : ∀ j0, (pm_fl al f j0 fs).length = fs.length := by
  induction fs with
  | nil => intro j0; rfl
  | cons o r ih => intro j0; simp [pm_fl, ih]
def pm_rf (al : Nat → Nat) (rs : List (Option (Option Nat))) (j : Nat) : Option Nat := match rs[j]? with
  | some (some (some k)) => some (al k)
  | _ => none
def pm_wc (dT : Nat → ClassId) (al : Nat → Nat) (mu : pm_I) (nu : pm_J) (k : Nat) (c : pm_C) : va_E := match c with
  | (0, ci, fs) => .inr (ci, pm_fl al (mu k) 0 fs)
  | (1, n, _) => .inl (dT 0, n, .inl (mu k))
  | (2, n, _) => .inl (dT 1, n, .inl (mu k))
  | (3, n, _) => .inl (dT 2, n, .inr (.inl (nu k)))
  | (_, n, rs) => .inl (dT 3, n, .inr (.inr (.inr (.inr (pm_rf al rs)))))
def pm_W (dT : Nat → ClassId) (al : Nat → Nat) (mu : pm_I) (nu : pm_J) : Nat → List pm_C → va_W
  | _, [] => []
  | k, c :: r => (al k, pm_wc dT al mu nu k c) :: pm_W dT al mu nu (k + 1) r
theorem pm_W_get (dT : Nat → ClassId) (al : Nat → Nat) (mu : pm_I) (nu : pm_J) (sg : List pm_C) : ∀ (k0 k : Nat), (pm_W dT al mu nu k0 sg)[k]? = (sg[k]?).map (fun c => (al (k0 + k), pm_wc dT al mu nu (k0 + k) c)) := by
  induction sg with
  | nil => intro k0 k; simp [pm_W]
  | cons o r ih =>
    intro k0 k
    cases k with
    | zero => simp [pm_W]
    | succ k =>
      simp only [pm_W, List.getElem?_cons_succ]
      rw [ih (k0 + 1) k, show k0 + 1 + k = k0 + (k + 1) by omega]
theorem pm_W_at {dT : Nat → ClassId} {al : Nat → Nat} {mu : pm_I} {nu : pm_J} {sg : List pm_C} {k : Nat} {c : pm_C} (h : sg[k]? = some c) : (pm_W dT al mu nu 0 sg)[k]? = some (al k, pm_wc dT al mu nu k c) := by
  rw [pm_W_get, h]
  simp
theorem pm_W_len (dT : Nat → ClassId) (al : Nat → Nat) (mu : pm_I) (nu : pm_J) (sg : List pm_C) : ∀ k0, (pm_W dT al mu nu k0 sg).length = sg.length := by
  induction sg with
  | nil => intro k0; rfl
  | cons o r ih => intro k0; simp [pm_W, ih]
/-- one cell changed: its number k's own shape or contents -/
theorem pm_W_set {dT : Nat → ClassId} {al : Nat → Nat} {mu mu' : pm_I} {nu nu' : pm_J} {sg sg' : List pm_C} {k : Nat} {x : va_E}
    (hl : sg'.length = sg.length) (ho : ∀ j c, j ≠ k → sg[j]? = some c → sg'[j]? = some c ∧ mu' j = mu j ∧ nu' j = nu j) (hk : ∀ c, sg'[k]? = some c → pm_wc dT al mu' nu' k c = x) :
    (pm_W dT al mu nu 0 sg).set k (al k, x) = pm_W dT al mu' nu' 0 sg' := by
  apply List.ext_getElem?
  intro j
  rw [List.getElem?_set, pm_W_get, pm_W_get, pm_W_len]
  simp only [Nat.zero_add]
  by_cases hj : k = j
  · subst hj
    rw [if_pos rfl]
    by_cases hs : k < sg.length
    · rw [if_pos hs]
      have : k < sg'.length := by omega
      rw [List.getElem?_eq_getElem this]
      simp only [Option.map_some]
      rw [hk _ (List.getElem?_eq_getElem this)]
    · rw [if_neg hs]
      rw [List.getElem?_eq_none (by omega)]
      rfl
  · rw [if_neg hj]
    cases hc : sg[j]? with
    | none =>
      have h1 : sg.length ≤ j := by simpa using hc
      rw [List.getElem?_eq_none (by omega)]
      rfl
    | some c =>
      obtain ⟨h1, h2, h3⟩ := ho j c (fun q => hj q.symm) hc
      rw [h1]
      simp only [Option.map_some]
      congr 2
      unfold pm_wc
      rw [h2, h3]
/-- a place of the ints, of the longs changed -/
def pm_up (mu : pm_I) (k j : Nat) (v : Int32) : pm_I := fun a => if a = k then upd (mu k) j v else mu a
def pm_uq (nu : pm_J) (k j : Nat) (v : Int64) : pm_J := fun a => if a = k then vp_updL (nu k) j v else nu a
theorem pm_up_ne {mu : pm_I} {k j a : Nat} {v : Int32} (h : a ≠ k) : pm_up mu k j v a = mu a := by simp [pm_up, h]
theorem pm_up_eq {mu : pm_I} {k j : Nat} {v : Int32} : pm_up mu k j v k = upd (mu k) j v := by simp [pm_up]
theorem pm_uq_ne {nu : pm_J} {k j a : Nat} {v : Int64} (h : a ≠ k) : pm_uq nu k j v a = nu a := by simp [pm_uq, h]
theorem pm_uq_eq {nu : pm_J} {k j : Nat} {v : Int64} : pm_uq nu k j v k = vp_updL (nu k) j v := by simp [pm_uq]
theorem pm_fl_set (al : Nat → Nat) (f : Nat → Int32) (v : Int32) (fs : List (Option (Option Nat))) : ∀ (j0 j : Nat), fs[j]? = some none → (pm_fl al f j0 fs).set j (.int v) = pm_fl al (upd f (j0 + j) v) j0 fs := by
  intro j0 j hj
  apply List.ext_getElem?
  intro i
  rw [List.getElem?_set, pm_fl_get, pm_fl_get, pm_fl_len]
  have hlt : j < fs.length := (List.getElem?_eq_some_iff.mp hj).1
  by_cases h : j = i
  · subst h
    rw [if_pos rfl, if_pos hlt, hj]
    simp [pm_fv, upd]
  · rw [if_neg h]
    cases hi : fs[i]? with
    | none => rfl
    | some o =>
      simp only [Option.map_some]
      cases o with
      | none =>
        have : ¬ (j0 + i = j0 + j) := by omega
        simp [pm_fv, upd, this]
        intro q; omega
      | some o => cases o <;> rfl
/-! locals -/
def pm_lc (al : Nat → Nat) : Nat → pm_L → List (Nat × Value)
  | _, [] => []
  | i, none :: r => pm_lc al (i + 1) r
  | i, some v :: r => (i, pm_at al v) :: pm_lc al (i + 1) r
theorem pm_lc_mem (al : Nat → Nat) (L : pm_L) : ∀ (i0 : Nat) (q : Nat × Value), q ∈ pm_lc al i0 L ↔ ∃ (j : Nat) (v : Value), L[j]? = some (some v) ∧ q = (i0 + j, pm_at al v) := by
  induction L with
  | nil => intro i0 q; simp [pm_lc]
  | cons o r ih =>
    intro i0 q
    have key : (∃ (j : Nat) (v : Value), r[j]? = some (some v) ∧ q = (i0 + 1 + j, pm_at al v)) ↔ (∃ (j : Nat) (v : Value), (o :: r)[j + 1]? = some (some v) ∧ q = (i0 + (j + 1), pm_at al v)) := by
      constructor
      · rintro ⟨j, v, h1, h2⟩
        exact ⟨j, v, by simpa using h1, by rw [h2, show i0 + 1 + j = i0 + (j + 1) by omega]⟩
      · rintro ⟨j, v, h1, h2⟩
        exact ⟨j, v, by simpa using h1, by rw [h2, show i0 + 1 + j = i0 + (j + 1) by omega]⟩
    cases o with
    | none =>
      simp only [pm_lc]
      rw [ih (i0 + 1) q, key]
      constructor
      · rintro ⟨j, v, h⟩; exact ⟨j + 1, v, h⟩
      · rintro ⟨j, v, h1, h2⟩
        cases j with
        | zero => simp at h1
        | succ j => exact ⟨j, v, h1, h2⟩
    | some w =>
      simp only [pm_lc, List.mem_cons]
      rw [ih (i0 + 1) q, key]
      constructor
      · rintro (h | ⟨j, v, h⟩)
        · exact ⟨0, w, by simp, by simpa using h⟩
        · exact ⟨j + 1, v, h⟩
      · rintro ⟨j, v, h1, h2⟩
        cases j with
        | zero =>
          simp at h1
          subst h1
          exact Or.inl (by simpa using h2)
        | succ j => exact Or.inr ⟨j, v, h1, h2⟩
theorem pm_lc_at {al : Nat → Nat} {L : pm_L} {ls : Array Slot} {nL i : Nat} {v : Value} (h : lv_has ls nL (pm_lc al 0 L)) (hi : L[i]? = some (some v)) : ls[i]? = some (.val (pm_at al v)) :=
  h.2.2 (i, pm_at al v) ((pm_lc_mem al L 0 _).mpr ⟨i, v, hi, by simp⟩)
theorem pm_has_mono {ls : Array Slot} {nL : Nat} {l l' : List (Nat × Value)} (h : lv_has ls nL l) (hs : ∀ q ∈ l', q ∈ l) : lv_has ls nL l' := ⟨h.1, h.2.1, fun q hq => h.2.2 q (hs q hq)⟩
def pm_cat2 (o : Option Value) : Bool := match o with
  | some (.long _) => true
  | some (.double _) => true
  | _ => false
/-- a value of one slot is stored: a long ahead of it goes -/
def pm_st1 : pm_L → Nat → Value → pm_L
  | [], _, _ => []
  | _ :: r, 0, v => some v :: r
  | o :: r, 1, v => (match pm_cat2 o with | true => none | false => o) :: pm_st1 r 0 v
  | o :: r, i + 2, v => o :: pm_st1 r (i + 1) v
/-- a long is stored -/
def pm_st2 : pm_L → Nat → Value → pm_L
  | [], _, _ => []
  | _ :: [], 0, v => some v :: []
  | _ :: _ :: r, 0, v => some v :: none :: r
  | o :: r, 1, v => (match pm_cat2 o with | true => none | false => o) :: pm_st2 r 0 v
  | o :: r, i + 2, v => o :: pm_st2 r (i + 1) v
theorem pm_cat2_iff {v : Value} {al : Nat → Nat} : pm_cat2 (some v) = true ↔ (pm_at al v).category = 2 := by cases v <;> simp [pm_cat2, pm_at, Value.category]
theorem pm_st1_get (v : Value) : ∀ (L : pm_L) (i j : Nat) (w : Value), (pm_st1 L i v)[j]? = some (some w) → (j = i ∧ w = v) ∨ (j ≠ i ∧ L[j]? = some (some w) ∧ ¬ (j + 1 = i ∧ pm_cat2 (some w) = true)) := by
  intro L
  induction L with
  | nil => intro i j w h; simp [pm_st1] at h
  | cons o r ih =>
    intro i j w h
    match i with
    | 0 =>
      cases j with
      | zero => simp [pm_st1] at h; exact Or.inl ⟨rfl, h.symm⟩
      | succ j => simp [pm_st1] at h; exact Or.inr ⟨by omega, by simpa using h, by omega⟩
    | 1 =>
      cases j with
      | zero =>
        simp [pm_st1] at h
        refine Or.inr ⟨by omega, ?_, ?_⟩
        · cases hc : pm_cat2 o with
          | true => rw [hc] at h; cases h
          | false => rw [hc] at h; simpa using h
        · rintro ⟨-, hw⟩
          cases hc : pm_cat2 o with
          | true => rw [hc] at h; cases h
          | false =>
            rw [hc] at h
            have : o = some w := h
            rw [this, hw] at hc
            cases hc
      | succ j =>
        simp [pm_st1] at h
        rcases ih 0 j w h with ⟨h1, h2⟩ | ⟨h1, h2, h3⟩
        · exact Or.inl ⟨by omega, h2⟩
        · exact Or.inr ⟨by omega, by simpa using h2, by rintro ⟨q, -⟩; omega⟩
    | i + 2 =>
      cases j with
      | zero =>
        simp [pm_st1] at h
        exact Or.inr ⟨by omega, by simpa using h, by rintro ⟨q, -⟩; omega⟩
      | succ j =>
        simp [pm_st1] at h
        rcases ih (i + 1) j w h with ⟨h1, h2⟩ | ⟨h1, h2, h3⟩
        · exact Or.inl ⟨by omega, h2⟩
        · exact Or.inr ⟨by omega, by simpa using h2, by rintro ⟨q, hq⟩; exact h3 ⟨by omega, hq⟩⟩
theorem pm_st2_get (v : Value) : ∀ (L : pm_L) (i j : Nat) (w : Value), (pm_st2 L i v)[j]? = some (some w) → (j = i ∧ w = v) ∨ (j ≠ i ∧ j ≠ i + 1 ∧ L[j]? = some (some w) ∧ ¬ (j + 1 = i ∧ pm_cat2 (some w) = true)) := by
  intro L
  induction L with
  | nil => intro i j w h; simp [pm_st2] at h
  | cons o r ih =>
    intro i j w h
    match i with
    | 0 =>
      cases r with
      | nil =>
        cases j with
        | zero => simp [pm_st2] at h; exact Or.inl ⟨rfl, h.symm⟩
        | succ j => simp [pm_st2] at h
      | cons o2 r =>
        match j with
        | 0 => simp [pm_st2] at h; exact Or.inl ⟨rfl, h.symm⟩
        | 1 => simp [pm_st2] at h
        | j + 2 => simp [pm_st2] at h; exact Or.inr ⟨by omega, by omega, by simpa using h, by omega⟩
    | 1 =>
      cases j with
      | zero =>
        simp [pm_st2] at h
        refine Or.inr ⟨by omega, by omega, ?_, ?_⟩
        · cases hc : pm_cat2 o with
          | true => rw [hc] at h; cases h
          | false => rw [hc] at h; simpa using h
        · rintro ⟨-, hw⟩
          cases hc : pm_cat2 o with
          | true => rw [hc] at h; cases h
          | false =>
            rw [hc] at h
            have : o = some w := h
            rw [this, hw] at hc
            cases hc
      | succ j =>
        simp [pm_st2] at h
        rcases ih 0 j w h with ⟨h1, h2⟩ | ⟨h1, h2, h3, h4⟩
        · exact Or.inl ⟨by omega, h2⟩
        · exact Or.inr ⟨by omega, by omega, by simpa using h3, by rintro ⟨q, -⟩; omega⟩
    | i + 2 =>
      cases j with
      | zero =>
        simp [pm_st2] at h
        exact Or.inr ⟨by omega, by omega, by simpa using h, by rintro ⟨q, -⟩; omega⟩
      | succ j =>
        simp [pm_st2] at h
        rcases ih (i + 1) j w h with ⟨h1, h2⟩ | ⟨h1, h2, h3, h4⟩
        · exact Or.inl ⟨by omega, h2⟩
        · exact Or.inr ⟨by omega, by omega, by simpa using h3, by rintro ⟨q, hq⟩; exact h4 ⟨by omega, hq⟩⟩
theorem pm_st1_sub {al : Nat → Nat} {L : pm_L} {i : Nat} {v : Value} : ∀ q ∈ pm_lc al 0 (pm_st1 L i v), q ∈ (i, pm_at al v) :: (pm_lc al 0 L).filter (fun q => !(q.1 == i) && !(q.1 + 1 == i && q.2.category == 2)) := by
  intro q hq
  obtain ⟨j, w, h1, rfl⟩ := (pm_lc_mem al _ 0 q).mp hq
  rcases pm_st1_get v L i j w h1 with ⟨h2, h3⟩ | ⟨h2, h3, h4⟩
  · subst h2; subst h3; simp
  · refine List.mem_cons_of_mem _ (List.mem_filter.mpr ⟨(pm_lc_mem al L 0 _).mpr ⟨j, w, h3, rfl⟩, ?_⟩)
    simp only [Nat.zero_add, Bool.and_eq_true, Bool.not_eq_true', beq_eq_false_iff_ne, ne_eq, Bool.and_eq_false_iff]
    refine ⟨h2, ?_⟩
    by_cases h5 : j + 1 = i
    · exact Or.inr (fun h6 => h4 ⟨h5, pm_cat2_iff.mpr h6⟩)
    · exact Or.inl h5
theorem pm_st2_sub {al : Nat → Nat} {L : pm_L} {i : Nat} {v : Value} : ∀ q ∈ pm_lc al 0 (pm_st2 L i v), q ∈ (i, pm_at al v) :: (pm_lc al 0 L).filter (fun q => !(q.1 == i) && (!(q.1 == i + 1) && !(q.1 + 1 == i && q.2.category == 2))) := by
  intro q hq
  obtain ⟨j, w, h1, rfl⟩ := (pm_lc_mem al _ 0 q).mp hq
  rcases pm_st2_get v L i j w h1 with ⟨h2, h3⟩ | ⟨h2, h2', h3, h4⟩
  · subst h2; subst h3; simp
  · refine List.mem_cons_of_mem _ (List.mem_filter.mpr ⟨(pm_lc_mem al L 0 _).mpr ⟨j, w, h3, rfl⟩, ?_⟩)
    simp only [Nat.zero_add, Bool.and_eq_true, Bool.not_eq_true', beq_eq_false_iff_ne, ne_eq, Bool.and_eq_false_iff]
    refine ⟨h2, h2', ?_⟩
    by_cases h5 : j + 1 = i
    · exact Or.inr (fun h6 => h4 ⟨h5, pm_cat2_iff.mpr h6⟩)
    · exact Or.inl h5
end
section
/-! ===== the tables' checks, the judgement pm_G (the machine goes on well from here), a contract pm_T ===== -/
def pm_tbl : List Cond := lw_tbl.filter goodWord
def pm_fok (own : String) (k ci j : Nat) : Bool := match vwCl[ci]? with
  | some q => Nat.blt j q.2.2 && decide (Cond.fieldLink own k (q.2.1 j).1 (q.2.1 j).2.1 (q.2.1 j).2.2.1 ∈ pm_tbl)
  | none => false
def pm_nok (own : String) (k ci : Nat) : Bool := match vwCl[ci]? with
  | some q => decide (Cond.classLink own k q.1 ∈ pm_tbl) && (decide (Cond.instantiable q.1 q.2.2 ∈ pm_tbl) && decide (Cond.initialized q.1 ∈ pm_tbl))
  | none => false
def pm_aok (own : String) (k ci : Nat) : Bool := match vwCl[ci]? with
  | some q => decide (Cond.classLink own k q.1 ∈ pm_tbl)
  | none => false
def pm_eok (own : String) (cc : ByteArray) (en : pm_E) : Bool :=
  decide (decode cc en.1 = .ok (en.2.1, en.2.2.1)) && (match en.2.1, en.2.2.2 with
   | .iconst n, .inr (.inl v) => decide (Int32.ofInt n = v)
   | .bipush n, .inr (.inl v) => decide ((Int8.ofInt n).toInt32 = v)
   | .sipush n, .inr (.inl v) => decide ((Int16.ofInt n).toInt32 = v)
   | .iinc _ n, .inr (.inl v) => decide (Int32.ofInt n = v)
   | .lconst n, .inr (.inr (.inl v)) => decide (Int64.ofNat (n : Nat) = v)
   | .ldc k, .inr (.inl v) => decide (Cond.constant own k v ∈ pm_tbl)
   | .ldc_w k, .inr (.inl v) => decide (Cond.constant own k v ∈ pm_tbl)
   | .ldc2_w k, .inr (.inr (.inl v)) => decide (Cond.constantLong own k v ∈ pm_tbl)
   | .getfield k, .inl (ci, j) => pm_fok own k ci j
   | .putfield k, .inl (ci, j) => pm_fok own k ci j
   | .goto off, .inl (t, _) => decide ((en.1 : Int) + off = (t : Int))
   | .if_icmp _ off, .inl (t, _) => decide ((en.1 : Int) + off = (t : Int))
   | .ifCond _ off, .inl (t, _) => decide ((en.1 : Int) + off = (t : Int))
   | .ifnonnull off, .inl (t, _) => decide ((en.1 : Int) + off = (t : Int))
   | .invokestatic k, .inr (.inr (.inr y)) => decide (Cond.methodLink own k y ∈ pm_tbl) && (decide (Cond.static y ∈ pm_tbl) && decide (Cond.initialized y.cls ∈ pm_tbl))
   | .invokevirtual k, .inr (.inr (.inr y)) => decide (Cond.methodLink own k y ∈ pm_tbl) && (decide (Cond.instanceMethod y ∈ pm_tbl) && (decide (Cond.selects y.cls y y ∈ pm_tbl) && decide (Cond.initialized y.cls ∈ pm_tbl)))
   | .invokespecial k, .inr (.inr (.inr y)) => (decide (Cond.methodLink own k y ∈ pm_tbl) || decide (Cond.methodLinkNest own k y "LastWatered" ∈ pm_tbl)) && decide (Cond.instanceMethod y ∈ pm_tbl)
   | .new k, .inl (ci, _) => pm_nok own k ci
   | .anewarray k, .inl (ci, _) => pm_aok own k ci
   | _, _ => true)
def pm_ok (mi : pm_M) : Bool := plainName mi.1.cls && (decide (mi.1.cls ≠ "java/lang/invoke/MethodHandle" ∧ mi.1.cls ≠ "java/lang/invoke/VarHandle") && (decide (Cond.code mi.1 mi.2.1 mi.2.2.1 mi.2.2.2.1 ∈ pm_tbl) && (Nat.ble mi.2.2.1 45 && mi.2.2.2.2.all (pm_eok mi.1.cls mi.2.1))))
abbrev pm_ws (mi : pm_M) : List Cond := Cond.code mi.1 mi.2.1 mi.2.2.1 mi.2.2.2.1 :: pm_tbl
theorem pm_good_all : pm_tbl.all goodWord = true := List.all_eq_true.mpr fun _ hw => (List.mem_filter.mp hw).2
theorem pm_goodIn {mi mj : pm_M} (h : Cond.code mj.1 mj.2.1 mj.2.2.1 mj.2.2.2.1 ∈ pm_tbl) : GoodIn (pm_ws mi) (pm_ws mj) := by
  intro w hw
  have hm : w ∈ pm_tbl := by
    rcases List.mem_cons.mp hw with q | q
    · rw [q]; exact h
    · exact q
  exact ⟨List.mem_cons_of_mem _ hm, good_of_word (List.all_eq_true.mp pm_good_all w hm)⟩
/-- what the tables say of each class whose objects the worlds hold -/
theorem pm_in1 : ∀ w ∈ u_ws RX1 TX1 5, w ∈ pm_tbl := by decide +kernel
theorem pm_in2 : ∀ w ∈ u_ws RX2 TX2 11, w ∈ pm_tbl := by decide +kernel
theorem pm_in4 : ∀ w ∈ u_ws RX4 TX4 2, w ∈ pm_tbl := by decide +kernel
theorem pm_in7 : ∀ w ∈ u_ws RX7 TX7 2, w ∈ pm_tbl := by decide +kernel
theorem pm_in9 : ∀ w ∈ u_ws RX9 TX9 5, w ∈ pm_tbl := by decide +kernel
theorem pm_in10 : ∀ w ∈ u_ws RX10 TX10 6, w ∈ pm_tbl := by decide +kernel
theorem pm_in11 : ∀ w ∈ u_ws RX11 TX11 35, w ∈ pm_tbl := by decide +kernel
theorem pm_cls {ci : Nat} {q : vw_C} (h : vwCl[ci]? = some q) : (∀ w ∈ u_ws q.1 q.2.1 q.2.2, w ∈ pm_tbl) ∧ ∃ ty0 : Nat → FieldType, (∀ k, k < q.2.2 → parseFieldDescriptor (q.2.1 k).2.2.1 = some (ty0 k)) ∧ (∀ a, a < q.2.2 → ∀ b, b < q.2.2 → a ≠ b → (q.2.1 a).2.1 ≠ (q.2.1 b).2.1) := by
  match ci, h with
  | 0, h => cases h; exact ⟨pm_in1, tyX1, tyX1_ok, nmX1⟩
  | 1, h => cases h; exact ⟨pm_in2, tyX2, tyX2_ok, nmX2⟩
  | 2, h => cases h; exact ⟨pm_in4, tyX4, tyX4_ok, nmX4⟩
  | 3, h => cases h; exact ⟨pm_in7, tyX7, tyX7_ok, nmX7⟩
  | 4, h => cases h; exact ⟨pm_in9, tyX9, tyX9_ok, nmX9⟩
  | 5, h => cases h; exact ⟨pm_in10, tyX10, tyX10_ok, nmX10⟩
  | 6, h => cases h; exact ⟨pm_in11, tyX11, tyX11_ok, nmX11⟩
  | k + 7, h => simp [vwCl] at h
/-- the array classes -/
abbrev pm_ty (dT : Nat → ClassId) : List (ClassId × FieldType) := [(dT 0, .int), (dT 1, .boolean), (dT 2, .long), (dT 3, .object RX2)]
/-- a frame's fixed part: the method, its level, the cells and slots that it may make, how many cells stood at its entry, its post -/
abbrev pm_FX : Type := pm_M × Nat × Nat × Nat × Nat × pm_Po
def pm_room (d mc ms : Nat) : Room := { frames := d, cells := mc, slots := ms, locals := d * 64 }
def pm_Q (cx : pm_CX) (n0 : Nat) (Q : pm_Po) (A : Nat → Prop) (al0 : Nat → Nat) : Array Value → State → Outcome → State → Prop := fun _ st oc t =>
  (∃ (r : Option Value) (sg : List pm_C) (mu : pm_I) (nu : pm_J) (al : Nat → Nat), Q r sg mu nu ∧ (∀ k, k < n0 → al k = al0 k) ∧ n0 ≤ sg.length ∧ oc = .returned (r.map (pm_at al)) ∧ va_P (cx.2.1, cx.2.2.1) vwCl (pm_W cx.2.2.2 al mu nu 0 sg) t.heap ∧ va_K (cx.2.1, cx.2.2.1) vwCl (pm_ty cx.2.2.2) t ∧ va_D A (pm_W cx.2.2.2 al mu nu 0 sg)) ∧ va_F A st t
def pm_S (cx : pm_CX) (mi : pm_M) (p : Program) (s : State) (m : MethodId) (args : Array Value) (meth : Method) (c : Code) (A : Nat → Prop) : Prop :=
  p.tables.exec = Jvm.exec ∧ c.code = mi.2.1 ∧ meth.sig.returnType = mi.2.2.2.1 ∧ c.maxLocals = mi.2.2.1 ∧ s.vm.findClass mi.1.cls = some m.cls ∧ (∀ w ∈ pm_ws mi, w.before args s = true) ∧ meth.locks = false ∧ meth.name = mi.1.name ∧ (∀ q, s.heap.size ≤ q → A q) ∧ va_K (cx.2.1, cx.2.2.1) vwCl (pm_ty cx.2.2.2) s
def pm_D (cx : pm_CX) (nL n0 : Nat) (s : State) (A : Nat → Prop) (al0 al : Nat → Nat) (H : Heap) (locs : List Loc) (ls : Array Slot) (L : pm_L) (sg : List pm_C) (mu : pm_I) (nu : pm_J) : Prop :=
  (∀ k, k < n0 → al k = al0 k) ∧ n0 ≤ sg.length ∧ va_P (cx.2.1, cx.2.2.1) vwCl (pm_W cx.2.2.2 al mu nu 0 sg) H ∧ va_D A (pm_W cx.2.2.2 al mu nu 0 sg) ∧ va_S A s.heap H locs ∧ lv_has ls nL (pm_lc al 0 L)
def pm_G (cx : pm_CX) (fx : pm_FX) (cells slots pc : Nat) (L : pm_L) (S : List Value) (sg : List pm_C) (mu : pm_I) (nu : pm_J) : Prop :=
  ∀ (p : Program) (e : Env) (s : State) (m : MethodId) (args : Array Value) (below : List Frame) (meth : Method) (c : Code) (A : Nat → Prop) (al0 al : Nat → Nat) (H : Heap) (locs : List Loc) (ls : Array Slot),
    pm_S cx fx.1 p s m args meth c A → pm_D cx fx.1.2.2.1 fx.2.2.2.2.1 s A al0 al H locs ls L sg mu nu →
    W p cx.1 e (pm_room fx.2.1 fx.2.2.1 fx.2.2.2.1) s m args below meth c H locs cells slots (MQ below (pm_Q cx fx.2.2.2.2.1 fx.2.2.2.2.2 A al0) args s fx.2.2.1 fx.2.2.2.1 A) (F0 m pc ls (S.map (pm_at al)))
/-- a contract: from these arguments and cells the method ends, with Q -/
def pm_T (cx : pm_CX) (mi : pm_M) (d mc ms : Nat) (as : List Value) (sg : List pm_C) (mu : pm_I) (nu : pm_J) (Q : pm_Po) : Prop :=
  ∀ (al : Nat → Nat) (sz : Nat), Met cx.1 mi.1 (pm_ws mi) (pm_room d mc ms)
    (va_Pc (as.map (pm_at al)) (fun U => U.heap.size = sz ∧ va_P (cx.2.1, cx.2.2.1) vwCl (pm_W cx.2.2.2 al mu nu 0 sg) U.heap ∧ va_K (cx.2.1, cx.2.2.1) vwCl (pm_ty cx.2.2.2) U ∧ va_D (fun _ => True) (pm_W cx.2.2.2 al mu nu 0 sg)))
    (pm_Q cx sg.length Q (va_A (pm_W cx.2.2.2 al mu nu 0 sg) sz) al) mc ms (va_A (pm_W cx.2.2.2 al mu nu 0 sg) sz)
theorem pm_ok_parts {mi : pm_M} (h : pm_ok mi = true) : plainName mi.1.cls = true ∧ (mi.1.cls ≠ "java/lang/invoke/MethodHandle" ∧ mi.1.cls ≠ "java/lang/invoke/VarHandle") ∧ Cond.code mi.1 mi.2.1 mi.2.2.1 mi.2.2.2.1 ∈ pm_tbl ∧ mi.2.2.1 ≤ 45 ∧ ∀ en ∈ mi.2.2.2.2, pm_eok mi.1.cls mi.2.1 en = true := by
  unfold pm_ok at h
  simp only [Bool.and_eq_true, decide_eq_true_eq] at h
  exact ⟨h.1, h.2.1, h.2.2.1, Nat.le_of_ble_eq_true h.2.2.2.1, List.all_eq_true.mp h.2.2.2.2⟩
theorem pm_dec {own : String} {cc : ByteArray} {en : pm_E} (h : pm_eok own cc en = true) : decode cc en.1 = .ok (en.2.1, en.2.2.1) := by
  unfold pm_eok at h
  exact of_decide_eq_true (Bool.and_eq_true_iff.mp h).1
/-- the arguments as the locals that a method begins with -/
def pm_la : List Value → pm_L
  | [] => []
  | v :: r => some v :: (match pm_cat2 (some v) with | true => none :: pm_la r | false => pm_la r)
theorem pm_la_len (al : Nat → Nat) (vs : List Value) : (lg_sl (vs.map (pm_at al))).length = (pm_la vs).length := by
  induction vs with
  | nil => rfl
  | cons v r ih =>
    cases v <;> simp [lg_sl, pm_la, pm_cat2, pm_at, Value.category] at ih ⊢ <;> omega
theorem pm_la_args (al : Nat → Nat) (vs : List Value) : ∀ i0, lv_args i0 (vs.map (pm_at al)) = pm_lc al i0 (pm_la vs) := by
  induction vs with
  | nil => intro i0; rfl
  | cons v r ih =>
    intro i0
    cases v <;> simp [lv_args, pm_la, pm_cat2, pm_lc, pm_at, Value.category, ih]
/-- a method's contract out of the walk of its body -/
theorem pm_enter {cx : pm_CX} {mi : pm_M} {d mc ms : Nat} {as : List Value} {sg : List pm_C} {mu : pm_I} {nu : pm_J} {Q : pm_Po} (hok : pm_ok mi = true) (hn : (pm_la as).length ≤ mi.2.2.1) (h : pm_G cx (mi, d, mc, ms, sg.length, Q) 0 0 0 (pm_la as ++ List.replicate (mi.2.2.1 - (pm_la as).length) none) [] sg mu nu) : pm_T cx mi d mc ms as sg mu nu Q := by
  intro al sz
  obtain ⟨h1, -, -, -, -⟩ := pm_ok_parts hok
  refine Met.ofW (cc := mi.2.1) (maxL := mi.2.2.1) (ret := mi.2.2.2.1) h1 rfl ?_
  intro p e s m args below meth c s₁ B hml hv
  obtain ⟨rfl, hsz, hP, hK, hD0⟩ := hv
  have hts := atoms_spec (ws := pm_ws mi) B.pre
  have hown : s.vm.findClass mi.1.cls = some m.cls := findClass_of_methodNamed B.named
  have hin : meth.name = mi.1.name := (name_of_methodNamed B.named B.method).1
  subst hsz
  have hD := hD0.self (sz := s.heap.size)
  have hl := lv_entry (as.map (pm_at al)) (n := mi.2.2.1) (by rw [pm_la_len]; exact hn)
  rw [lg_entry_eq]
  have hl2 := pm_has_mono (l' := pm_lc al 0 (pm_la as ++ List.replicate (mi.2.2.1 - (pm_la as).length) none)) hl (by
    rw [pm_la_args]
    intro q hq
    obtain ⟨j, v, g1, g2⟩ := (pm_lc_mem al _ 0 q).mp hq
    refine (pm_lc_mem al _ 0 q).mpr ⟨j, v, ?_, g2⟩
    by_cases hj : j < (pm_la as).length
    · rw [List.getElem?_append_left hj] at g1
      exact g1
    · rw [List.getElem?_append_right (by omega)] at g1
      have := List.mem_of_getElem? g1
      rw [List.mem_replicate] at this
      cases this.2)
  exact h p e s m _ below meth c (va_A (pm_W cx.2.2.2 al mu nu 0 sg) s.heap.size) al al s.heap [] _ ⟨B.exec, B.bytes, B.returns, hml, hown, hts, B.notSynchronized, hin, fun q hq => Or.inr hq, hK⟩ ⟨fun _ _ => rfl, Nat.le_refl _, hP, hD, va_S.rf, hl2⟩
end
section
theorem i_vc : Claimed_1_1 ∧ Claimed_1_2 := sorry
end

section
-- ===== PART A: goes FIRST, ahead of the names: the tables' words, and 'selects' of the private methods out of them =====
/-- a private method of a class that the tables say can be made, by its rows of tables_1 -/
def lw_okq (q : MethodName × Nat) : Prop := (q.1.cls ≠ "java/lang/invoke/MethodHandle" ∧ q.1.cls ≠ "java/lang/invoke/VarHandle") ∧ Cond.instantiable q.1.cls q.2 ∈ tables_1 ∧ Cond.privateMethod q.1 ∈ tables_1 ∧ Cond.instanceMethod q.1 ∈ tables_1
theorem lw_p0 : lw_okq (⟨"RampDriver$Ramps", "begin", "(LRampDriver$Rules;)V"⟩, 5) := ⟨⟨by decide +kernel, by decide +kernel⟩, List.mem_of_getElem? (i := 67) (by decide +kernel), List.mem_of_getElem? (i := 299) (by decide +kernel), List.mem_of_getElem? (i := 300) (by decide +kernel)⟩
theorem lw_p1 : lw_okq (⟨"RampDriver$Ramps", "find", "(II)V"⟩, 5) := ⟨⟨by decide +kernel, by decide +kernel⟩, List.mem_of_getElem? (i := 67) (by decide +kernel), List.mem_of_getElem? (i := 318) (by decide +kernel), List.mem_of_getElem? (i := 319) (by decide +kernel)⟩
theorem lw_p2 : lw_okq (⟨"RampDriver$Ramps", "ticksAt", "(III)I"⟩, 5) := ⟨⟨by decide +kernel, by decide +kernel⟩, List.mem_of_getElem? (i := 67) (by decide +kernel), List.mem_of_getElem? (i := 325) (by decide +kernel), List.mem_of_getElem? (i := 326) (by decide +kernel)⟩
theorem lw_p3 : lw_okq (⟨"RampDriver$Ramps", "lookBehind", "(LRampDriver$Rules;I)V"⟩, 5) := ⟨⟨by decide +kernel, by decide +kernel⟩, List.mem_of_getElem? (i := 67) (by decide +kernel), List.mem_of_getElem? (i := 329) (by decide +kernel), List.mem_of_getElem? (i := 330) (by decide +kernel)⟩
theorem lw_p4 : lw_okq (⟨"RampDriver", "slowingsFrom", "(II)LRampDriver$Slowings;"⟩, 9) := ⟨⟨by decide +kernel, by decide +kernel⟩, List.mem_of_getElem? (i := 16) (by decide +kernel), List.mem_of_getElem? (i := 380) (by decide +kernel), List.mem_of_getElem? (i := 381) (by decide +kernel)⟩
theorem lw_p5 : lw_okq (⟨"RampDriver$Slowings", "find", "(III)V"⟩, 6) := ⟨⟨by decide +kernel, by decide +kernel⟩, List.mem_of_getElem? (i := 89) (by decide +kernel), List.mem_of_getElem? (i := 391) (by decide +kernel), List.mem_of_getElem? (i := 392) (by decide +kernel)⟩
theorem lw_p6 : lw_okq (⟨"RampDriver$Slowings", "lookBehind", "(LRampDriver$Rules;I)V"⟩, 6) := ⟨⟨by decide +kernel, by decide +kernel⟩, List.mem_of_getElem? (i := 89) (by decide +kernel), List.mem_of_getElem? (i := 396) (by decide +kernel), List.mem_of_getElem? (i := 397) (by decide +kernel)⟩
theorem lw_p7 : lw_okq (⟨"RampDriver", "takeTick", "()V"⟩, 9) := ⟨⟨by decide +kernel, by decide +kernel⟩, List.mem_of_getElem? (i := 16) (by decide +kernel), List.mem_of_getElem? (i := 439) (by decide +kernel), List.mem_of_getElem? (i := 440) (by decide +kernel)⟩
theorem lw_p8 : lw_okq (⟨"RampDriver", "nextChange", "()I"⟩, 9) := ⟨⟨by decide +kernel, by decide +kernel⟩, List.mem_of_getElem? (i := 16) (by decide +kernel), List.mem_of_getElem? (i := 443) (by decide +kernel), List.mem_of_getElem? (i := 444) (by decide +kernel)⟩
theorem lw_p9 : lw_okq (⟨"RampDriver$Axis", "goneBehind", "(II)I"⟩, 6) := ⟨⟨by decide +kernel, by decide +kernel⟩, List.mem_of_getElem? (i := 160) (by decide +kernel), List.mem_of_getElem? (i := 461) (by decide +kernel), List.mem_of_getElem? (i := 462) (by decide +kernel)⟩
theorem lw_p10 : lw_okq (⟨"RampDriver", "axisOf", "(I)LRampDriver$Axis;"⟩, 9) := ⟨⟨by decide +kernel, by decide +kernel⟩, List.mem_of_getElem? (i := 16) (by decide +kernel), List.mem_of_getElem? (i := 482) (by decide +kernel), List.mem_of_getElem? (i := 483) (by decide +kernel)⟩
theorem lw_p11 : lw_okq (⟨"RampDriver$Currents", "numberAt", "(I)I"⟩, 3) := ⟨⟨by decide +kernel, by decide +kernel⟩, List.mem_of_getElem? (i := 188) (by decide +kernel), List.mem_of_getElem? (i := 529) (by decide +kernel), List.mem_of_getElem? (i := 530) (by decide +kernel)⟩
theorem lw_p12 : lw_okq (⟨"RampDriver$Currents", "missOfPair", "(II)I"⟩, 3) := ⟨⟨by decide +kernel, by decide +kernel⟩, List.mem_of_getElem? (i := 188) (by decide +kernel), List.mem_of_getElem? (i := 533) (by decide +kernel), List.mem_of_getElem? (i := 534) (by decide +kernel)⟩
theorem lw_p13 : lw_okq (⟨"RampDriver$Currents", "evenMiddle", "(I)V"⟩, 3) := ⟨⟨by decide +kernel, by decide +kernel⟩, List.mem_of_getElem? (i := 188) (by decide +kernel), List.mem_of_getElem? (i := 556) (by decide +kernel), List.mem_of_getElem? (i := 557) (by decide +kernel)⟩
theorem lw_p14 : lw_okq (⟨"RampDriver$Currents", "evenPair", "(I)V"⟩, 3) := ⟨⟨by decide +kernel, by decide +kernel⟩, List.mem_of_getElem? (i := 188) (by decide +kernel), List.mem_of_getElem? (i := 561) (by decide +kernel), List.mem_of_getElem? (i := 562) (by decide +kernel)⟩
theorem lw_p15 : lw_okq (⟨"RampDriver$Currents", "apart", "(III)I"⟩, 3) := ⟨⟨by decide +kernel, by decide +kernel⟩, List.mem_of_getElem? (i := 188) (by decide +kernel), List.mem_of_getElem? (i := 566) (by decide +kernel), List.mem_of_getElem? (i := 567) (by decide +kernel)⟩
def lw_privs_1 : List (MethodName × Nat) := [(⟨"RampDriver$Ramps", "begin", "(LRampDriver$Rules;)V"⟩, 5), (⟨"RampDriver$Ramps", "find", "(II)V"⟩, 5), (⟨"RampDriver$Ramps", "ticksAt", "(III)I"⟩, 5), (⟨"RampDriver$Ramps", "lookBehind", "(LRampDriver$Rules;I)V"⟩, 5), (⟨"RampDriver", "slowingsFrom", "(II)LRampDriver$Slowings;"⟩, 9), (⟨"RampDriver$Slowings", "find", "(III)V"⟩, 6), (⟨"RampDriver$Slowings", "lookBehind", "(LRampDriver$Rules;I)V"⟩, 6), (⟨"RampDriver", "takeTick", "()V"⟩, 9), (⟨"RampDriver", "nextChange", "()I"⟩, 9), (⟨"RampDriver$Axis", "goneBehind", "(II)I"⟩, 6), (⟨"RampDriver", "axisOf", "(I)LRampDriver$Axis;"⟩, 9), (⟨"RampDriver$Currents", "numberAt", "(I)I"⟩, 3), (⟨"RampDriver$Currents", "missOfPair", "(II)I"⟩, 3), (⟨"RampDriver$Currents", "evenMiddle", "(I)V"⟩, 3), (⟨"RampDriver$Currents", "evenPair", "(I)V"⟩, 3), (⟨"RampDriver$Currents", "apart", "(III)I"⟩, 3)]
theorem lw_r1 : ∀ q ∈ lw_privs_1, lw_okq q := List.forall_mem_cons.mpr ⟨lw_p0, List.forall_mem_cons.mpr ⟨lw_p1, List.forall_mem_cons.mpr ⟨lw_p2, List.forall_mem_cons.mpr ⟨lw_p3, List.forall_mem_cons.mpr ⟨lw_p4, List.forall_mem_cons.mpr ⟨lw_p5, List.forall_mem_cons.mpr ⟨lw_p6, List.forall_mem_cons.mpr ⟨lw_p7, List.forall_mem_cons.mpr ⟨lw_p8, List.forall_mem_cons.mpr ⟨lw_p9, List.forall_mem_cons.mpr ⟨lw_p10, List.forall_mem_cons.mpr ⟨lw_p11, List.forall_mem_cons.mpr ⟨lw_p12, List.forall_mem_cons.mpr ⟨lw_p13, List.forall_mem_cons.mpr ⟨lw_p14, List.forall_mem_cons.mpr ⟨lw_p15, fun _ h => absurd h List.not_mem_nil⟩⟩⟩⟩⟩⟩⟩⟩⟩⟩⟩⟩⟩⟩⟩⟩
theorem lw_p16 : lw_okq (⟨"java/lang/Throwable", "fillInStackTrace", "(I)Ljava/lang/Throwable;"⟩, 6) := ⟨⟨by decide +kernel, by decide +kernel⟩, List.mem_of_getElem? (i := 614) (by decide +kernel), List.mem_of_getElem? (i := 612) (by decide +kernel), List.mem_of_getElem? (i := 613) (by decide +kernel)⟩
theorem lw_p17 : lw_okq (⟨"RampDriver$Currents", "restOf", "(I)I"⟩, 3) := ⟨⟨by decide +kernel, by decide +kernel⟩, List.mem_of_getElem? (i := 188) (by decide +kernel), List.mem_of_getElem? (i := 650) (by decide +kernel), List.mem_of_getElem? (i := 651) (by decide +kernel)⟩
theorem lw_p18 : lw_okq (⟨"RampDriver$Currents", "quarterOf", "(I)I"⟩, 3) := ⟨⟨by decide +kernel, by decide +kernel⟩, List.mem_of_getElem? (i := 188) (by decide +kernel), List.mem_of_getElem? (i := 654) (by decide +kernel), List.mem_of_getElem? (i := 655) (by decide +kernel)⟩
theorem lw_p19 : lw_okq (⟨"RampDriverModel", "ramps", "(I)Z"⟩, 36) := ⟨⟨by decide +kernel, by decide +kernel⟩, List.mem_of_getElem? (i := 662) (by decide +kernel), List.mem_of_getElem? (i := 812) (by decide +kernel), List.mem_of_getElem? (i := 813) (by decide +kernel)⟩
theorem lw_p20 : lw_okq (⟨"RampDriverModel", "spread", "()V"⟩, 36) := ⟨⟨by decide +kernel, by decide +kernel⟩, List.mem_of_getElem? (i := 662) (by decide +kernel), List.mem_of_getElem? (i := 816) (by decide +kernel), List.mem_of_getElem? (i := 817) (by decide +kernel)⟩
theorem lw_p21 : lw_okq (⟨"RampDriverModel", "isRest", "(II)Z"⟩, 36) := ⟨⟨by decide +kernel, by decide +kernel⟩, List.mem_of_getElem? (i := 662) (by decide +kernel), List.mem_of_getElem? (i := 821) (by decide +kernel), List.mem_of_getElem? (i := 822) (by decide +kernel)⟩
theorem lw_p22 : lw_okq (⟨"RampDriverModel", "mayGo", "(IIIZ)Z"⟩, 36) := ⟨⟨by decide +kernel, by decide +kernel⟩, List.mem_of_getElem? (i := 662) (by decide +kernel), List.mem_of_getElem? (i := 829) (by decide +kernel), List.mem_of_getElem? (i := 830) (by decide +kernel)⟩
theorem lw_p23 : lw_okq (⟨"RampDriverModel", "isState", "(II)Z"⟩, 36) := ⟨⟨by decide +kernel, by decide +kernel⟩, List.mem_of_getElem? (i := 662) (by decide +kernel), List.mem_of_getElem? (i := 833) (by decide +kernel), List.mem_of_getElem? (i := 834) (by decide +kernel)⟩
theorem lw_p24 : lw_okq (⟨"RampDriverModel", "isSafe", "(II)Z"⟩, 36) := ⟨⟨by decide +kernel, by decide +kernel⟩, List.mem_of_getElem? (i := 662) (by decide +kernel), List.mem_of_getElem? (i := 837) (by decide +kernel), List.mem_of_getElem? (i := 838) (by decide +kernel)⟩
theorem lw_p25 : lw_okq (⟨"RampDriverModel", "slowsFrom", "(II)Z"⟩, 36) := ⟨⟨by decide +kernel, by decide +kernel⟩, List.mem_of_getElem? (i := 662) (by decide +kernel), List.mem_of_getElem? (i := 849) (by decide +kernel), List.mem_of_getElem? (i := 850) (by decide +kernel)⟩
theorem lw_p26 : lw_okq (⟨"RampDriverModel", "slows", "(Z)V"⟩, 36) := ⟨⟨by decide +kernel, by decide +kernel⟩, List.mem_of_getElem? (i := 662) (by decide +kernel), List.mem_of_getElem? (i := 853) (by decide +kernel), List.mem_of_getElem? (i := 854) (by decide +kernel)⟩
theorem lw_p27 : lw_okq (⟨"RampDriverModel", "follow", "()V"⟩, 36) := ⟨⟨by decide +kernel, by decide +kernel⟩, List.mem_of_getElem? (i := 662) (by decide +kernel), List.mem_of_getElem? (i := 865) (by decide +kernel), List.mem_of_getElem? (i := 866) (by decide +kernel)⟩
theorem lw_p28 : lw_okq (⟨"RampDriverModel", "gone", "(II)I"⟩, 36) := ⟨⟨by decide +kernel, by decide +kernel⟩, List.mem_of_getElem? (i := 662) (by decide +kernel), List.mem_of_getElem? (i := 873) (by decide +kernel), List.mem_of_getElem? (i := 874) (by decide +kernel)⟩
theorem lw_p29 : lw_okq (⟨"RampDriverModel", "missOf", "(I)I"⟩, 36) := ⟨⟨by decide +kernel, by decide +kernel⟩, List.mem_of_getElem? (i := 662) (by decide +kernel), List.mem_of_getElem? (i := 914) (by decide +kernel), List.mem_of_getElem? (i := 915) (by decide +kernel)⟩
def lw_privs_2 : List (MethodName × Nat) := [(⟨"java/lang/Throwable", "fillInStackTrace", "(I)Ljava/lang/Throwable;"⟩, 6), (⟨"RampDriver$Currents", "restOf", "(I)I"⟩, 3), (⟨"RampDriver$Currents", "quarterOf", "(I)I"⟩, 3), (⟨"RampDriverModel", "ramps", "(I)Z"⟩, 36), (⟨"RampDriverModel", "spread", "()V"⟩, 36), (⟨"RampDriverModel", "isRest", "(II)Z"⟩, 36), (⟨"RampDriverModel", "mayGo", "(IIIZ)Z"⟩, 36), (⟨"RampDriverModel", "isState", "(II)Z"⟩, 36), (⟨"RampDriverModel", "isSafe", "(II)Z"⟩, 36), (⟨"RampDriverModel", "slowsFrom", "(II)Z"⟩, 36), (⟨"RampDriverModel", "slows", "(Z)V"⟩, 36), (⟨"RampDriverModel", "follow", "()V"⟩, 36), (⟨"RampDriverModel", "gone", "(II)I"⟩, 36), (⟨"RampDriverModel", "missOf", "(I)I"⟩, 36)]
theorem lw_r2 : ∀ q ∈ lw_privs_2, lw_okq q := List.forall_mem_cons.mpr ⟨lw_p16, List.forall_mem_cons.mpr ⟨lw_p17, List.forall_mem_cons.mpr ⟨lw_p18, List.forall_mem_cons.mpr ⟨lw_p19, List.forall_mem_cons.mpr ⟨lw_p20, List.forall_mem_cons.mpr ⟨lw_p21, List.forall_mem_cons.mpr ⟨lw_p22, List.forall_mem_cons.mpr ⟨lw_p23, List.forall_mem_cons.mpr ⟨lw_p24, List.forall_mem_cons.mpr ⟨lw_p25, List.forall_mem_cons.mpr ⟨lw_p26, List.forall_mem_cons.mpr ⟨lw_p27, List.forall_mem_cons.mpr ⟨lw_p28, List.forall_mem_cons.mpr ⟨lw_p29, fun _ h => absurd h List.not_mem_nil⟩⟩⟩⟩⟩⟩⟩⟩⟩⟩⟩⟩⟩⟩
def lw_privs : List (MethodName × Nat) := lw_privs_1 ++ (lw_privs_2)
def lw_tbl : List Cond := k2_sels lw_privs ++ tables_1
theorem lw_privs_ok : ∀ q ∈ lw_privs, lw_okq q := by
  show ∀ q ∈ lw_privs_1 ++ (lw_privs_2), lw_okq q
  exact List.forall_mem_append.mpr ⟨lw_r1, lw_r2⟩
-- ===== end of PART A; then your names; then what follows =====
end
section
/-! ===== BEGIN printed: names, fields, word lists, decode rows ===== -/
def RX0 : String := "RampDriver$Axis"
def TX0 : u_T := fun k => match k with
  | 0 => ("RampDriver$Axis", "place", "I", false)
  | 1 => ("RampDriver$Axis", "truePlace", "I", false)
  | 2 => ("RampDriver$Axis", "hasSwitch", "Z", false)
  | 3 => ("RampDriver$Axis", "switchPlace", "I", false)
  | 4 => ("RampDriver$Axis", "way", "I", false)
  | _ => ("RampDriver$Axis", "gone", "I", false)
def tyX0 : Nat → FieldType := fun k => match k with
  | 0 => .int
  | 1 => .int
  | 2 => .boolean
  | 3 => .int
  | 4 => .int
  | _ => .int
theorem nmX0 : ∀ a, a < 6 → ∀ b, b < 6 → a ≠ b → (TX0 a).2.1 ≠ (TX0 b).2.1 := by decide +kernel
theorem tyX0_ok : ∀ k, k < 6 → parseFieldDescriptor (TX0 k).2.2.1 = some (tyX0 k) := by decide +kernel
abbrev cX0_init : ByteArray := prog_2_method_1_code
def yX0_init : MethodName := ⟨RX0, "<init>", "()V"⟩
abbrev cX0_start : ByteArray := prog_2_method_2_code
def yX0_start : MethodName := ⟨RX0, "start", "(I)V"⟩
abbrev cX0_follow : ByteArray := prog_2_method_3_code
def yX0_follow : MethodName := ⟨RX0, "follow", "(IIZ)V"⟩
abbrev cX0_goneBehind : ByteArray := prog_2_method_4_code
def yX0_goneBehind : MethodName := ⟨RX0, "goneBehind", "(II)I"⟩
abbrev cX0_putSwitch : ByteArray := prog_2_method_5_code
def yX0_putSwitch : MethodName := ⟨RX0, "putSwitch", "(I)V"⟩
abbrev cX0_isOn : ByteArray := prog_2_method_6_code
def yX0_isOn : MethodName := ⟨RX0, "isOn", "()Z"⟩
abbrev cX0_findSwitch : ByteArray := prog_2_method_7_code
def yX0_findSwitch : MethodName := ⟨RX0, "findSwitch", "()I"⟩
def RX1 : String := "RampDriver$Currents"
def TX1 : u_T := fun k => match k with
  | 0 => ("RampDriver$Currents", "parts", "I", false)
  | 1 => ("RampDriver$Currents", "level", "I", false)
  | _ => ("RampDriver$Currents", "numbers", "[I", true)
def tyX1 : Nat → FieldType := fun k => match k with
  | 0 => .int
  | 1 => .int
  | _ => .array .int
theorem nmX1 : ∀ a, a < 3 → ∀ b, b < 3 → a ≠ b → (TX1 a).2.1 ≠ (TX1 b).2.1 := by decide +kernel
theorem tyX1_ok : ∀ k, k < 3 → parseFieldDescriptor (TX1 k).2.2.1 = some (tyX1 k) := by decide +kernel
abbrev cX1_init : ByteArray := prog_3_method_1_code
def yX1_init : MethodName := ⟨RX1, "<init>", "()V"⟩
abbrev cX1_lay : ByteArray := prog_3_method_2_code
def yX1_lay : MethodName := ⟨RX1, "lay", "(II)V"⟩
abbrev cX1_put : ByteArray := prog_3_method_3_code
def yX1_put : MethodName := ⟨RX1, "put", "(II)V"⟩
abbrev cX1_numberAt : ByteArray := prog_3_method_4_code
def yX1_numberAt : MethodName := ⟨RX1, "numberAt", "(I)I"⟩
abbrev cX1_quarterOf : ByteArray := prog_3_method_5_code
def yX1_quarterOf : MethodName := ⟨RX1, "quarterOf", "(I)I"⟩
abbrev cX1_restOf : ByteArray := prog_3_method_6_code
def yX1_restOf : MethodName := ⟨RX1, "restOf", "(I)I"⟩
abbrev cX1_firstAt : ByteArray := prog_3_method_7_code
def yX1_firstAt : MethodName := ⟨RX1, "firstAt", "(I)I"⟩
abbrev cX1_secondAt : ByteArray := prog_3_method_8_code
def yX1_secondAt : MethodName := ⟨RX1, "secondAt", "(I)I"⟩
abbrev cX1_missOfPair : ByteArray := prog_3_method_9_code
def yX1_missOfPair : MethodName := ⟨RX1, "missOfPair", "(II)I"⟩
abbrev cX1_missOf : ByteArray := prog_3_method_10_code
def yX1_missOf : MethodName := ⟨RX1, "missOf", "(I)I"⟩
abbrev cX1_greatestMiss : ByteArray := prog_3_method_11_code
def yX1_greatestMiss : MethodName := ⟨RX1, "greatestMiss", "()I"⟩
abbrev cX1_even : ByteArray := prog_3_method_12_code
def yX1_even : MethodName := ⟨RX1, "even", "()V"⟩
abbrev cX1_evenMiddle : ByteArray := prog_3_method_13_code
def yX1_evenMiddle : MethodName := ⟨RX1, "evenMiddle", "(I)V"⟩
abbrev cX1_evenPair : ByteArray := prog_3_method_14_code
def yX1_evenPair : MethodName := ⟨RX1, "evenPair", "(I)V"⟩
abbrev cX1_apart : ByteArray := prog_3_method_15_code
def yX1_apart : MethodName := ⟨RX1, "apart", "(III)I"⟩
def RX2 : String := "RampDriver$Move"
def TX2 : u_T := fun k => match k with
  | 0 => ("RampDriver$Move", "steps", "I", false)
  | 1 => ("RampDriver$Move", "stepsMade", "I", false)
  | 2 => ("RampDriver$Move", "speed", "I", false)
  | 3 => ("RampDriver$Move", "change", "I", false)
  | 4 => ("RampDriver$Move", "ticksMade", "I", false)
  | 5 => ("RampDriver$Move", "stepsMissed", "I", false)
  | 6 => ("RampDriver$Move", "firstMissed", "I", false)
  | 7 => ("RampDriver$Move", "stopped", "Z", false)
  | 8 => ("RampDriver$Move", "slowsSafely", "Z", false)
  | _ => ("RampDriver$Move", "ticksLeft", "I", false)
def tyX2 : Nat → FieldType := fun k => match k with
  | 0 => .int
  | 1 => .int
  | 2 => .int
  | 3 => .int
  | 4 => .int
  | 5 => .int
  | 6 => .int
  | 7 => .boolean
  | 8 => .boolean
  | _ => .int
theorem nmX2 : ∀ a, a < 10 → ∀ b, b < 10 → a ≠ b → (TX2 a).2.1 ≠ (TX2 b).2.1 := by decide +kernel
theorem tyX2_ok : ∀ k, k < 10 → parseFieldDescriptor (TX2 k).2.2.1 = some (tyX2 k) := by decide +kernel
abbrev cX2_init : ByteArray := prog_4_method_1_code
def yX2_init : MethodName := ⟨RX2, "<init>", "()V"⟩
abbrev cX2_goesOn : ByteArray := prog_4_method_2_code
def yX2_goesOn : MethodName := ⟨RX2, "goesOn", "()Z"⟩
abbrev cX2_start : ByteArray := prog_4_method_3_code
def yX2_start : MethodName := ⟨RX2, "start", "(II)V"⟩
abbrev cX2_goBySlowing : ByteArray := prog_4_method_4_code
def yX2_goBySlowing : MethodName := ⟨RX2, "goBySlowing", "(IZ)V"⟩
abbrev cX2_takeTick : ByteArray := prog_4_method_5_code
def yX2_takeTick : MethodName := ⟨RX2, "takeTick", "(IIZ)V"⟩
abbrev cX2_end : ByteArray := prog_4_method_6_code
def yX2_end : MethodName := ⟨RX2, "end", "()V"⟩
def RX3 : String := "RampDriver$Ramps"
def TX3 : u_T := fun k => match k with
  | 0 => ("RampDriver$Ramps", "ticks", "[I", true)
  | 1 => ("RampDriver$Ramps", "found", "[I", true)
  | 2 => ("RampDriver$Ramps", "looked", "I", false)
  | 3 => ("RampDriver$Ramps", "count", "I", false)
  | _ => ("RampDriver$Ramps", "version", "I", false)
def tyX3 : Nat → FieldType := fun k => match k with
  | 0 => .array .int
  | 1 => .array .int
  | 2 => .int
  | 3 => .int
  | _ => .int
theorem nmX3 : ∀ a, a < 5 → ∀ b, b < 5 → a ≠ b → (TX3 a).2.1 ≠ (TX3 b).2.1 := by decide +kernel
theorem tyX3_ok : ∀ k, k < 5 → parseFieldDescriptor (TX3 k).2.2.1 = some (tyX3 k) := by decide +kernel
abbrev cX3_init : ByteArray := prog_5_method_1_code
def yX3_init : MethodName := ⟨RX3, "<init>", "()V"⟩
abbrev cX3_ticksOf : ByteArray := prog_5_method_2_code
def yX3_ticksOf : MethodName := ⟨RX3, "ticksOf", "(LRampDriver$Rules;I)I"⟩
abbrev cX3_speedIn : ByteArray := prog_5_method_3_code
def yX3_speedIn : MethodName := ⟨RX3, "speedIn", "(LRampDriver$Rules;II)I"⟩
abbrev cX3_nextChange : ByteArray := prog_5_method_4_code
def yX3_nextChange : MethodName := ⟨RX3, "nextChange", "(LRampDriver$Rules;III)I"⟩
abbrev cX3_begin : ByteArray := prog_5_method_5_code
def yX3_begin : MethodName := ⟨RX3, "begin", "(LRampDriver$Rules;)V"⟩
abbrev cX3_lookBehind : ByteArray := prog_5_method_6_code
def yX3_lookBehind : MethodName := ⟨RX3, "lookBehind", "(LRampDriver$Rules;I)V"⟩
abbrev cX3_find : ByteArray := prog_5_method_7_code
def yX3_find : MethodName := ⟨RX3, "find", "(II)V"⟩
abbrev cX3_ticksAt : ByteArray := prog_5_method_8_code
def yX3_ticksAt : MethodName := ⟨RX3, "ticksAt", "(III)I"⟩
abbrev cX3_nodeOf : ByteArray := prog_5_method_9_code
def yX3_nodeOf : MethodName := ⟨RX3, "nodeOf", "(III)I"⟩
def RX4 : String := "RampDriver$Rules"
def TX4 : u_T := fun k => match k with
  | 0 => ("RampDriver$Rules", "topSpeed", "I", false)
  | 1 => ("RampDriver$Rules", "topChange", "I", false)
  | 2 => ("RampDriver$Rules", "jerk", "I", false)
  | 3 => ("RampDriver$Rules", "load", "I", false)
  | 4 => ("RampDriver$Rules", "mass", "I", false)
  | 5 => ("RampDriver$Rules", "bads", "[Z", true)
  | 6 => ("RampDriver$Rules", "pulls", "[I", true)
  | 7 => ("RampDriver$Rules", "onlySafe", "Z", false)
  | _ => ("RampDriver$Rules", "version", "I", false)
def tyX4 : Nat → FieldType := fun k => match k with
  | 0 => .int
  | 1 => .int
  | 2 => .int
  | 3 => .int
  | 4 => .int
  | 5 => .array .boolean
  | 6 => .array .int
  | 7 => .boolean
  | _ => .int
theorem nmX4 : ∀ a, a < 9 → ∀ b, b < 9 → a ≠ b → (TX4 a).2.1 ≠ (TX4 b).2.1 := by decide +kernel
theorem tyX4_ok : ∀ k, k < 9 → parseFieldDescriptor (TX4 k).2.2.1 = some (tyX4 k) := by decide +kernel
abbrev cX4_init : ByteArray := prog_6_method_1_code
def yX4_init : MethodName := ⟨RX4, "<init>", "()V"⟩
abbrev cX4_tellLimits : ByteArray := prog_6_method_2_code
def yX4_tellLimits : MethodName := ⟨RX4, "tellLimits", "(III)V"⟩
abbrev cX4_tellBad : ByteArray := prog_6_method_3_code
def yX4_tellBad : MethodName := ⟨RX4, "tellBad", "(IZ)V"⟩
abbrev cX4_tellPull : ByteArray := prog_6_method_4_code
def yX4_tellPull : MethodName := ⟨RX4, "tellPull", "(II)V"⟩
abbrev cX4_tellLoad : ByteArray := prog_6_method_5_code
def yX4_tellLoad : MethodName := ⟨RX4, "tellLoad", "(II)V"⟩
abbrev cX4_tellOnlySafe : ByteArray := prog_6_method_6_code
def yX4_tellOnlySafe : MethodName := ⟨RX4, "tellOnlySafe", "(Z)V"⟩
abbrev cX4_isBad : ByteArray := prog_6_method_7_code
def yX4_isBad : MethodName := ⟨RX4, "isBad", "(I)Z"⟩
abbrev cX4_isSpeed : ByteArray := prog_6_method_8_code
def yX4_isSpeed : MethodName := ⟨RX4, "isSpeed", "(I)Z"⟩
abbrev cX4_isState : ByteArray := prog_6_method_9_code
def yX4_isState : MethodName := ⟨RX4, "isState", "(II)Z"⟩
abbrev cX4_isRest : ByteArray := prog_6_method_10_code
def yX4_isRest : MethodName := ⟨RX4, "isRest", "(II)Z"⟩
abbrev cX4_isSafe : ByteArray := prog_6_method_11_code
def yX4_isSafe : MethodName := ⟨RX4, "isSafe", "(II)Z"⟩
abbrev cX4_mayEnd : ByteArray := prog_6_method_12_code
def yX4_mayEnd : MethodName := ⟨RX4, "mayEnd", "(IIZ)Z"⟩
abbrev cX4_leastBeside : ByteArray := prog_6_method_13_code
def yX4_leastBeside : MethodName := ⟨RX4, "leastBeside", "(I)I"⟩
abbrev cX4_mostBeside : ByteArray := prog_6_method_14_code
def yX4_mostBeside : MethodName := ⟨RX4, "mostBeside", "(I)I"⟩
def RX5 : String := "RampDriver$Slowings"
def TX5 : u_T := fun k => match k with
  | 0 => ("RampDriver$Slowings", "safeAlone", "Z", true)
  | 1 => ("RampDriver$Slowings", "ticks", "[I", true)
  | 2 => ("RampDriver$Slowings", "steps", "[I", true)
  | 3 => ("RampDriver$Slowings", "found", "[I", true)
  | 4 => ("RampDriver$Slowings", "count", "I", false)
  | _ => ("RampDriver$Slowings", "version", "I", false)
def tyX5 : Nat → FieldType := fun k => match k with
  | 0 => .boolean
  | 1 => .array .int
  | 2 => .array .int
  | 3 => .array .int
  | 4 => .int
  | _ => .int
theorem nmX5 : ∀ a, a < 6 → ∀ b, b < 6 → a ≠ b → (TX5 a).2.1 ≠ (TX5 b).2.1 := by decide +kernel
theorem tyX5_ok : ∀ k, k < 6 → parseFieldDescriptor (TX5 k).2.2.1 = some (tyX5 k) := by decide +kernel
abbrev cX5_init : ByteArray := prog_7_method_1_code
def yX5_init : MethodName := ⟨RX5, "<init>", "(Z)V"⟩
abbrev cX5_ticksFrom : ByteArray := prog_7_method_2_code
def yX5_ticksFrom : MethodName := ⟨RX5, "ticksFrom", "(II)I"⟩
abbrev cX5_stepsFrom : ByteArray := prog_7_method_3_code
def yX5_stepsFrom : MethodName := ⟨RX5, "stepsFrom", "(II)I"⟩
abbrev cX5_nextChange : ByteArray := prog_7_method_4_code
def yX5_nextChange : MethodName := ⟨RX5, "nextChange", "(LRampDriver$Rules;II)I"⟩
abbrev cX5_renew : ByteArray := prog_7_method_5_code
def yX5_renew : MethodName := ⟨RX5, "renew", "(LRampDriver$Rules;)V"⟩
abbrev cX5_lookBehind : ByteArray := prog_7_method_6_code
def yX5_lookBehind : MethodName := ⟨RX5, "lookBehind", "(LRampDriver$Rules;I)V"⟩
abbrev cX5_find : ByteArray := prog_7_method_7_code
def yX5_find : MethodName := ⟨RX5, "find", "(III)V"⟩
def RX6 : String := "RampDriver"
def TX6 : u_T := fun k => match k with
  | 0 => ("RampDriver", "rules", "LRampDriver$Rules;", true)
  | 1 => ("RampDriver", "ramps", "LRampDriver$Ramps;", true)
  | 2 => ("RampDriver", "safeSlowings", "LRampDriver$Slowings;", true)
  | 3 => ("RampDriver", "anySlowings", "LRampDriver$Slowings;", true)
  | 4 => ("RampDriver", "latest", "LRampDriver$Move;", true)
  | 5 => ("RampDriver", "axis0", "LRampDriver$Axis;", true)
  | 6 => ("RampDriver", "axis1", "LRampDriver$Axis;", true)
  | 7 => ("RampDriver", "axis2", "LRampDriver$Axis;", true)
  | _ => ("RampDriver", "currents", "LRampDriver$Currents;", true)
def tyX6 : Nat → FieldType := fun k => match k with
  | 0 => .object "RampDriver$Rules"
  | 1 => .object "RampDriver$Ramps"
  | 2 => .object "RampDriver$Slowings"
  | 3 => .object "RampDriver$Slowings"
  | 4 => .object "RampDriver$Move"
  | 5 => .object "RampDriver$Axis"
  | 6 => .object "RampDriver$Axis"
  | 7 => .object "RampDriver$Axis"
  | _ => .object "RampDriver$Currents"
theorem nmX6 : ∀ a, a < 9 → ∀ b, b < 9 → a ≠ b → (TX6 a).2.1 ≠ (TX6 b).2.1 := by decide +kernel
theorem tyX6_ok : ∀ k, k < 9 → parseFieldDescriptor (TX6 k).2.2.1 = some (tyX6 k) := by decide +kernel
abbrev cX6_init : ByteArray := prog_1_method_1_code
def yX6_init : MethodName := ⟨RX6, "<init>", "()V"⟩
abbrev cX6_limits : ByteArray := prog_1_method_2_code
def yX6_limits : MethodName := ⟨RX6, "limits", "(III)Z"⟩
abbrev cX6_bad : ByteArray := prog_1_method_3_code
def yX6_bad : MethodName := ⟨RX6, "bad", "(IZ)Z"⟩
abbrev cX6_pull : ByteArray := prog_1_method_4_code
def yX6_pull : MethodName := ⟨RX6, "pull", "(II)Z"⟩
abbrev cX6_load : ByteArray := prog_1_method_5_code
def yX6_load : MethodName := ⟨RX6, "load", "(II)Z"⟩
abbrev cX6_only : ByteArray := prog_1_method_6_code
def yX6_only : MethodName := ⟨RX6, "only", "(Z)Z"⟩
abbrev cX6_ramp : ByteArray := prog_1_method_7_code
def yX6_ramp : MethodName := ⟨RX6, "ramp", "(I)I"⟩
abbrev cX6_speed : ByteArray := prog_1_method_8_code
def yX6_speed : MethodName := ⟨RX6, "speed", "(II)I"⟩
abbrev cX6_slowing : ByteArray := prog_1_method_9_code
def yX6_slowing : MethodName := ⟨RX6, "slowing", "(III)I"⟩
abbrev cX6_move : ByteArray := prog_1_method_10_code
def yX6_move : MethodName := ⟨RX6, "move", "(III)I"⟩
abbrev cX6_tick : ByteArray := prog_1_method_11_code
def yX6_tick : MethodName := ⟨RX6, "tick", "(I)I"⟩
abbrev cX6_stop : ByteArray := prog_1_method_12_code
def yX6_stop : MethodName := ⟨RX6, "stop", "()I"⟩
abbrev cX6_place : ByteArray := prog_1_method_13_code
def yX6_place : MethodName := ⟨RX6, "place", "(IZ)I"⟩
abbrev cX6_state : ByteArray := prog_1_method_14_code
def yX6_state : MethodName := ⟨RX6, "state", "(I)I"⟩
abbrev cX6_at : ByteArray := prog_1_method_15_code
def yX6_at : MethodName := ⟨RX6, "at", "(II)Z"⟩
abbrev cX6_on : ByteArray := prog_1_method_16_code
def yX6_on : MethodName := ⟨RX6, "on", "(I)I"⟩
abbrev cX6_home : ByteArray := prog_1_method_17_code
def yX6_home : MethodName := ⟨RX6, "home", "(I)I"⟩
abbrev cX6_table : ByteArray := prog_1_method_18_code
def yX6_table : MethodName := ⟨RX6, "table", "(II)Z"⟩
abbrev cX6_set : ByteArray := prog_1_method_19_code
def yX6_set : MethodName := ⟨RX6, "set", "(II)Z"⟩
abbrev cX6_current : ByteArray := prog_1_method_20_code
def yX6_current : MethodName := ⟨RX6, "current", "(II)I"⟩
abbrev cX6_miss : ByteArray := prog_1_method_21_code
def yX6_miss : MethodName := ⟨RX6, "miss", "(I)I"⟩
abbrev cX6_evenness : ByteArray := prog_1_method_22_code
def yX6_evenness : MethodName := ⟨RX6, "evenness", "()I"⟩
abbrev cX6_smooth : ByteArray := prog_1_method_23_code
def yX6_smooth : MethodName := ⟨RX6, "smooth", "()I"⟩
abbrev cX6_isWithin : ByteArray := prog_1_method_24_code
def yX6_isWithin : MethodName := ⟨RX6, "isWithin", "(III)Z"⟩
abbrev cX6_isWay : ByteArray := prog_1_method_25_code
def yX6_isWay : MethodName := ⟨RX6, "isWay", "(I)Z"⟩
abbrev cX6_isIndexOf : ByteArray := prog_1_method_26_code
def yX6_isIndexOf : MethodName := ⟨RX6, "isIndexOf", "([II)Z"⟩
abbrev cX6_stateNumber : ByteArray := prog_1_method_27_code
def yX6_stateNumber : MethodName := ⟨RX6, "stateNumber", "(II)I"⟩
abbrev cX6_axisOf : ByteArray := prog_1_method_28_code
def yX6_axisOf : MethodName := ⟨RX6, "axisOf", "(I)LRampDriver$Axis;"⟩
abbrev cX6_slowingsFrom : ByteArray := prog_1_method_29_code
def yX6_slowingsFrom : MethodName := ⟨RX6, "slowingsFrom", "(II)LRampDriver$Slowings;"⟩
abbrev cX6_takeTick : ByteArray := prog_1_method_30_code
def yX6_takeTick : MethodName := ⟨RX6, "takeTick", "()V"⟩
abbrev cX6_nextChange : ByteArray := prog_1_method_31_code
def yX6_nextChange : MethodName := ⟨RX6, "nextChange", "()I"⟩
def RX7 : String := "RampDriverModel"
def TX7 : u_T := fun k => match k with
  | 0 => ("RampDriverModel", "thrown", "I", false)
  | 1 => ("RampDriverModel", "top", "I", false)
  | 2 => ("RampDriverModel", "change", "I", false)
  | 3 => ("RampDriverModel", "jerk", "I", false)
  | 4 => ("RampDriverModel", "load", "I", false)
  | 5 => ("RampDriverModel", "mass", "I", false)
  | 6 => ("RampDriverModel", "isBad", "[Z", true)
  | 7 => ("RampDriverModel", "pull", "[I", true)
  | 8 => ("RampDriverModel", "isOnly", "Z", false)
  | 9 => ("RampDriverModel", "left", "[I", true)
  | 10 => ("RampDriverModel", "queue", "[I", true)
  | 11 => ("RampDriverModel", "row", "[I", true)
  | 12 => ("RampDriverModel", "rowLong", "I", false)
  | 13 => ("RampDriverModel", "slowTicks", "[I", true)
  | 14 => ("RampDriverModel", "slowSteps", "[I", true)
  | 15 => ("RampDriverModel", "isMove", "Z", false)
  | 16 => ("RampDriverModel", "isStopped", "Z", false)
  | 17 => ("RampDriverModel", "begun", "[I", true)
  | 18 => ("RampDriverModel", "by", "[I", true)
  | 19 => ("RampDriverModel", "places", "[I", true)
  | 20 => ("RampDriverModel", "truePlaces", "[I", true)
  | 21 => ("RampDriverModel", "plan", "[I", true)
  | 22 => ("RampDriverModel", "planLong", "I", false)
  | 23 => ("RampDriverModel", "planAt", "I", false)
  | 24 => ("RampDriverModel", "ticks", "I", false)
  | 25 => ("RampDriverModel", "m", "I", false)
  | 26 => ("RampDriverModel", "n", "I", false)
  | 27 => ("RampDriverModel", "v", "I", false)
  | 28 => ("RampDriverModel", "a", "I", false)
  | 29 => ("RampDriverModel", "missed", "I", false)
  | 30 => ("RampDriverModel", "firstMissed", "I", false)
  | 31 => ("RampDriverModel", "switchAt", "[I", true)
  | 32 => ("RampDriverModel", "hasSwitch", "[Z", true)
  | 33 => ("RampDriverModel", "currents", "[I", true)
  | 34 => ("RampDriverModel", "parts", "I", false)
  | _ => ("RampDriverModel", "level", "I", false)
def tyX7 : Nat → FieldType := fun k => match k with
  | 0 => .int
  | 1 => .int
  | 2 => .int
  | 3 => .int
  | 4 => .int
  | 5 => .int
  | 6 => .array .boolean
  | 7 => .array .int
  | 8 => .boolean
  | 9 => .array .int
  | 10 => .array .int
  | 11 => .array .int
  | 12 => .int
  | 13 => .array .int
  | 14 => .array .int
  | 15 => .boolean
  | 16 => .boolean
  | 17 => .array .int
  | 18 => .array .int
  | 19 => .array .int
  | 20 => .array .int
  | 21 => .array .int
  | 22 => .int
  | 23 => .int
  | 24 => .int
  | 25 => .int
  | 26 => .int
  | 27 => .int
  | 28 => .int
  | 29 => .int
  | 30 => .int
  | 31 => .array .int
  | 32 => .array .boolean
  | 33 => .array .int
  | 34 => .int
  | _ => .int
theorem nmX7 : ∀ a, a < 36 → ∀ b, b < 36 → a ≠ b → (TX7 a).2.1 ≠ (TX7 b).2.1 := by decide +kernel
theorem tyX7_ok : ∀ k, k < 36 → parseFieldDescriptor (TX7 k).2.2.1 = some (tyX7 k) := by decide +kernel
abbrev cX7_init : ByteArray := prog_9_method_1_code
def yX7_init : MethodName := ⟨RX7, "<init>", "()V"⟩
abbrev cX7_thrown : ByteArray := prog_9_method_2_code
def yX7_thrown : MethodName := ⟨RX7, "thrown", "()I"⟩
abbrev cX7_isIn : ByteArray := prog_9_method_3_code
def yX7_isIn : MethodName := ⟨RX7, "isIn", "(III)Z"⟩
abbrev cX7_limits : ByteArray := prog_9_method_4_code
def yX7_limits : MethodName := ⟨RX7, "limits", "(III)Z"⟩
abbrev cX7_bad : ByteArray := prog_9_method_5_code
def yX7_bad : MethodName := ⟨RX7, "bad", "(IZ)Z"⟩
abbrev cX7_pull : ByteArray := prog_9_method_6_code
def yX7_pull : MethodName := ⟨RX7, "pull", "(II)Z"⟩
abbrev cX7_load : ByteArray := prog_9_method_7_code
def yX7_load : MethodName := ⟨RX7, "load", "(II)Z"⟩
abbrev cX7_only : ByteArray := prog_9_method_8_code
def yX7_only : MethodName := ⟨RX7, "only", "(Z)Z"⟩
abbrev cX7_isState : ByteArray := prog_9_method_9_code
def yX7_isState : MethodName := ⟨RX7, "isState", "(II)Z"⟩
abbrev cX7_isSafe : ByteArray := prog_9_method_10_code
def yX7_isSafe : MethodName := ⟨RX7, "isSafe", "(II)Z"⟩
abbrev cX7_mayGo : ByteArray := prog_9_method_11_code
def yX7_mayGo : MethodName := ⟨RX7, "mayGo", "(IIIZ)Z"⟩
abbrev cX7_isRest : ByteArray := prog_9_method_12_code
def yX7_isRest : MethodName := ⟨RX7, "isRest", "(II)Z"⟩
abbrev cX7_index : ByteArray := prog_9_method_13_code
def yX7_index : MethodName := ⟨RX7, "index", "(III)I"⟩
abbrev cX7_spread : ByteArray := prog_9_method_14_code
def yX7_spread : MethodName := ⟨RX7, "spread", "()V"⟩
abbrev cX7_ramps : ByteArray := prog_9_method_15_code
def yX7_ramps : MethodName := ⟨RX7, "ramps", "(I)Z"⟩
abbrev cX7_ramp : ByteArray := prog_9_method_16_code
def yX7_ramp : MethodName := ⟨RX7, "ramp", "(I)I"⟩
abbrev cX7_speed : ByteArray := prog_9_method_17_code
def yX7_speed : MethodName := ⟨RX7, "speed", "(II)I"⟩
abbrev cX7_of : ByteArray := prog_9_method_18_code
def yX7_of : MethodName := ⟨RX7, "of", "(II)I"⟩
abbrev cX7_slows : ByteArray := prog_9_method_19_code
def yX7_slows : MethodName := ⟨RX7, "slows", "(Z)V"⟩
abbrev cX7_slowsFrom : ByteArray := prog_9_method_20_code
def yX7_slowsFrom : MethodName := ⟨RX7, "slowsFrom", "(II)Z"⟩
abbrev cX7_slowing : ByteArray := prog_9_method_21_code
def yX7_slowing : MethodName := ⟨RX7, "slowing", "(III)I"⟩
abbrev cX7_move : ByteArray := prog_9_method_22_code
def yX7_move : MethodName := ⟨RX7, "move", "(III)I"⟩
abbrev cX7_follow : ByteArray := prog_9_method_23_code
def yX7_follow : MethodName := ⟨RX7, "follow", "()V"⟩
abbrev cX7_gone : ByteArray := prog_9_method_24_code
def yX7_gone : MethodName := ⟨RX7, "gone", "(II)I"⟩
abbrev cX7_tick : ByteArray := prog_9_method_25_code
def yX7_tick : MethodName := ⟨RX7, "tick", "(I)I"⟩
abbrev cX7_stop : ByteArray := prog_9_method_26_code
def yX7_stop : MethodName := ⟨RX7, "stop", "()I"⟩
abbrev cX7_place : ByteArray := prog_9_method_27_code
def yX7_place : MethodName := ⟨RX7, "place", "(IZ)I"⟩
abbrev cX7_state : ByteArray := prog_9_method_28_code
def yX7_state : MethodName := ⟨RX7, "state", "(I)I"⟩
abbrev cX7_at : ByteArray := prog_9_method_29_code
def yX7_at : MethodName := ⟨RX7, "at", "(II)Z"⟩
abbrev cX7_on : ByteArray := prog_9_method_30_code
def yX7_on : MethodName := ⟨RX7, "on", "(I)I"⟩
abbrev cX7_home : ByteArray := prog_9_method_31_code
def yX7_home : MethodName := ⟨RX7, "home", "(I)I"⟩
abbrev cX7_table : ByteArray := prog_9_method_32_code
def yX7_table : MethodName := ⟨RX7, "table", "(II)Z"⟩
abbrev cX7_set : ByteArray := prog_9_method_33_code
def yX7_set : MethodName := ⟨RX7, "set", "(II)Z"⟩
abbrev cX7_current : ByteArray := prog_9_method_34_code
def yX7_current : MethodName := ⟨RX7, "current", "(II)I"⟩
abbrev cX7_missOf : ByteArray := prog_9_method_35_code
def yX7_missOf : MethodName := ⟨RX7, "missOf", "(I)I"⟩
abbrev cX7_miss : ByteArray := prog_9_method_36_code
def yX7_miss : MethodName := ⟨RX7, "miss", "(I)I"⟩
abbrev cX7_evenness : ByteArray := prog_9_method_37_code
def yX7_evenness : MethodName := ⟨RX7, "evenness", "()I"⟩
abbrev cX7_smooth : ByteArray := prog_9_method_38_code
def yX7_smooth : MethodName := ⟨RX7, "smooth", "()I"⟩
def RJx145de : String := "java/io/Serializable"
def TJx145de : u_T := fun k => match k with
  | _ => ("", "", "", false)
def tyJx145de : Nat → FieldType := fun k => match k with
  | _ => .int
theorem nmJx145de : ∀ a, a < 0 → ∀ b, b < 0 → a ≠ b → (TJx145de a).2.1 ≠ (TJx145de b).2.1 := by decide +kernel
theorem tyJx145de_ok : ∀ k, k < 0 → parseFieldDescriptor (TJx145de k).2.2.1 = some (tyJx145de k) := by decide +kernel
def RJ9 : String := "java/lang/Math"
def TJ9 : u_T := fun k => match k with
  | _ => ("", "", "", false)
def tyJ9 : Nat → FieldType := fun k => match k with
  | _ => .int
theorem nmJ9 : ∀ a, a < 0 → ∀ b, b < 0 → a ≠ b → (TJ9 a).2.1 ≠ (TJ9 b).2.1 := by decide +kernel
theorem tyJ9_ok : ∀ k, k < 0 → parseFieldDescriptor (TJ9 k).2.2.1 = some (tyJ9 k) := by decide +kernel
abbrev cJ9_abs_0f7a4 : ByteArray := prog_12_method_59_code
def yJ9_abs_0f7a4 : MethodName := ⟨RJ9, "abs", "(I)I"⟩
abbrev cJ9_max_7cf53 : ByteArray := prog_12_method_65_code
def yJ9_max_7cf53 : MethodName := ⟨RJ9, "max", "(II)I"⟩
abbrev cJ9_min_7cf53 : ByteArray := prog_12_method_69_code
def yJ9_min_7cf53 : MethodName := ⟨RJ9, "min", "(II)I"⟩
def RJ7 : String := "java/util/Arrays"
def TJ7 : u_T := fun k => match k with
  | _ => ("", "", "", false)
def tyJ7 : Nat → FieldType := fun k => match k with
  | _ => .int
theorem nmJ7 : ∀ a, a < 0 → ∀ b, b < 0 → a ≠ b → (TJ7 a).2.1 ≠ (TJ7 b).2.1 := by decide +kernel
theorem tyJ7_ok : ∀ k, k < 0 → parseFieldDescriptor (TJ7 k).2.2.1 = some (tyJ7 k) := by decide +kernel
abbrev cJ7_fill_53178 : ByteArray := prog_15_method_103_code
def yJ7_fill_53178 : MethodName := ⟨RJ7, "fill", "([II)V"⟩
def RL : String := "RampDriverLaw"
abbrev cL_place : ByteArray := method_3_code
def yL_place : MethodName := ⟨RL, "place", "(LRampDriver;IZ[J)I"⟩
abbrev cL_current : ByteArray := method_4_code
def yL_current : MethodName := ⟨RL, "current", "(LRampDriver;II[J)I"⟩
abbrev cL_law : ByteArray := code
def yL_law : MethodName := ⟨RL, "law", "([I)Z"⟩
abbrev vwCl : List vw_C := [(RX0, TX0, 6), (RX1, TX1, 3), (RX2, TX2, 10), (RX3, TX3, 5), (RX4, TX4, 9), (RX5, TX5, 6), (RX6, TX6, 9), (RX7, TX7, 36)]
end
section
/-! A logic over ONE world: every cell that the class and the reference ever hold has a number; M k j is what place j of cell k holds. -/
/-- what a cell is: its class and fields (none: an int; some r: the cell r), or an array (of booleans?, its length) -/
def am_shp : Nat → (Nat × List (Option Nat)) ⊕ (Bool × Nat) := fun k => match k with
  | 0 => .inl (6, [some 1, some 4, some 7, some 11, some 15, some 16, some 17, some 18, some 19])
  | 1 => .inl (4, [none, none, none, none, none, some 2, some 3, none, none])
  | 2 => .inr (true, 13)
  | 3 => .inr (false, 13)
  | 4 => .inl (3, [some 5, some 6, none, none, none])
  | 5 => .inr (false, 23517)
  | 6 => .inr (false, 23517)
  | 7 => .inl (5, [none, some 8, some 9, some 10, none, none])
  | 8 => .inr (false, 117)
  | 9 => .inr (false, 117)
  | 10 => .inr (false, 117)
  | 11 => .inl (5, [none, some 12, some 13, some 14, none, none])
  | 12 => .inr (false, 117)
  | 13 => .inr (false, 117)
  | 14 => .inr (false, 117)
  | 15 => .inl (2, [none, none, none, none, none, none, none, none, none, none])
  | 16 => .inl (0, [none, none, none, none, none, none])
  | 17 => .inl (0, [none, none, none, none, none, none])
  | 18 => .inl (0, [none, none, none, none, none, none])
  | 19 => .inl (1, [none, none, some 20])
  | 20 => .inr (false, 9)
  | 21 => .inl (7, [none, none, none, none, none, none, some 22, some 23, none, some 24, some 25, some 26, none, some 27, some 28, none, none, some 29, some 30, some 31, some 32, some 33, none, none, none, none, none, none, none, none, none, some 34, some 35, some 36, none, none])
  | 22 => .inr (true, 13)
  | 23 => .inr (false, 13)
  | 24 => .inr (false, 23517)
  | 25 => .inr (false, 23517)
  | 26 => .inr (false, 1000)
  | 27 => .inr (false, 117)
  | 28 => .inr (false, 117)
  | 29 => .inr (false, 3)
  | 30 => .inr (false, 3)
  | 31 => .inr (false, 3)
  | 32 => .inr (false, 3)
  | 33 => .inr (false, 1000)
  | 34 => .inr (false, 3)
  | 35 => .inr (true, 3)
  | _ => .inr (false, 9)
abbrev am_M : Type := Nat → Nat → Int32
/-- the cells of all: 0 .. 36 -/
def am_II : List Nat := List.range 37
def am_fs (ad : Nat → Nat) (f : Nat → Int32) : Nat → List (Option Nat) → List Value
  | _, [] => []
  | j, none :: l => .int (f j) :: am_fs ad f (j + 1) l
  | j, some r :: l => .ref (ad r) :: am_fs ad f (j + 1) l
def am_cell (cyI cyZ : ClassId) (ad : Nat → Nat) (M : am_M) (k : Nat) : va_E := match am_shp k with
  | .inl (ci, fl) => .inr (ci, am_fs ad (M k) 0 fl)
  | .inr (z, n) => .inl (if z = true then cyZ else cyI, n, .inl (M k))
def am_w (I : List Nat) (cyI cyZ : ClassId) (ad : Nat → Nat) (M : am_M) : va_W := I.map (fun k => (ad k, am_cell cyI cyZ ad M k))
def am_put (M : am_M) (k j : Nat) (v : Int32) : am_M := fun a => if a = k then upd (M k) j v else M a
/-- a whole row anew -/
def am_row (M : am_M) (k : Nat) (f : Nat → Int32) : am_M := fun a => if a = k then f else M a
theorem am_fs_i (ad : Nat → Nat) (f : Nat → Int32) : ∀ (fl : List (Option Nat)) (j0 j : Nat), fl[j]? = some none → (am_fs ad f j0 fl)[j]? = some (.int (f (j0 + j))) := by
  intro fl
  induction fl with
  | nil => intro j0 j h; simp at h
  | cons o l ih =>
    intro j0 j h
    cases j with
    | zero => simp at h; subst h; simp [am_fs]
    | succ j =>
      have h1 : l[j]? = some none := by simpa using h
      have h2 := ih (j0 + 1) j h1
      have e : j0 + 1 + j = j0 + (j + 1) := by omega
      rw [e] at h2
      cases o <;> simp [am_fs, h2]
theorem am_fs_r (ad : Nat → Nat) (f : Nat → Int32) : ∀ (fl : List (Option Nat)) (j0 j r : Nat), fl[j]? = some (some r) → (am_fs ad f j0 fl)[j]? = some (.ref (ad r)) := by
  intro fl
  induction fl with
  | nil => intro j0 j r h; simp at h
  | cons o l ih =>
    intro j0 j r h
    cases j with
    | zero => simp at h; subst h; simp [am_fs]
    | succ j =>
      have h1 : l[j]? = some (some r) := by simpa using h
      have h2 := ih (j0 + 1) j r h1
      cases o <;> simp [am_fs, h2]
theorem am_fs_len (ad : Nat → Nat) (f : Nat → Int32) : ∀ (fl : List (Option Nat)) (j0 : Nat), (am_fs ad f j0 fl).length = fl.length := by
  intro fl
  induction fl with
  | nil => intro j0; rfl
  | cons o l ih => intro j0; cases o <;> simp [am_fs, ih]
theorem am_fs_cong (ad : Nat → Nat) (f g : Nat → Int32) : ∀ (fl : List (Option Nat)) (j0 : Nat), (∀ j, j0 ≤ j → f j = g j) → am_fs ad f j0 fl = am_fs ad g j0 fl := by
  intro fl
  induction fl with
  | nil => intro j0 _; rfl
  | cons o l ih =>
    intro j0 h
    have h1 := ih (j0 + 1) (fun j hj => h j (by omega))
    cases o <;> simp [am_fs, h1, h j0 (Nat.le_refl _)]
theorem am_fs_set (ad : Nat → Nat) (f : Nat → Int32) (v : Int32) : ∀ (fl : List (Option Nat)) (j0 j : Nat), fl[j]? = some none → (am_fs ad f j0 fl).set j (.int v) = am_fs ad (upd f (j0 + j) v) j0 fl := by
  intro fl
  induction fl with
  | nil => intro j0 j h; simp at h
  | cons o l ih =>
    intro j0 j h
    cases j with
    | zero =>
      simp at h
      subst h
      have e : am_fs ad f (j0 + 1) l = am_fs ad (upd f (j0 + 0) v) (j0 + 1) l := am_fs_cong ad _ _ l (j0 + 1) (fun j hj => by
        have : j ≠ j0 + 0 := by omega
        unfold upd
        rw [if_neg this])
      simp only [am_fs, List.set_cons_zero]
      rw [e]
      simp [upd]
    | succ j =>
      have h1 : l[j]? = some none := by simpa using h
      have h2 := ih (j0 + 1) j h1
      have e : j0 + 1 + j = j0 + (j + 1) := by omega
      rw [e] at h2
      cases o
      · have h3 : upd f (j0 + (j + 1)) v j0 = f j0 := by
          have : j0 ≠ j0 + (j + 1) := by omega
          unfold upd
          rw [if_neg this]
        simp only [am_fs, List.set_cons_succ]
        rw [h2, h3]
      · simp only [am_fs, List.set_cons_succ]
        rw [h2]
theorem am_w_get {I : List Nat} {cyI cyZ : ClassId} {ad : Nat → Nat} {M : am_M} {q k : Nat} (h : I[q]? = some k) : (am_w I cyI cyZ ad M)[q]? = some (ad k, am_cell cyI cyZ ad M k) := by
  simp [am_w, h]
theorem am_w_set {A : Nat → Prop} {I : List Nat} {cyI cyZ : ClassId} {ad : Nat → Nat} {M M' : am_M} {q k : Nat} (hD : va_D A (am_w I cyI cyZ ad M)) (h : I[q]? = some k) (hM : ∀ a, a ≠ k → M' a = M a) :
    (am_w I cyI cyZ ad M).set q (ad k, am_cell cyI cyZ ad M' k) = am_w I cyI cyZ ad M' := by
  apply List.ext_getElem?
  intro i
  by_cases hi : i = q
  · subst hi
    have hl : i < (am_w I cyI cyZ ad M).length := (List.getElem?_eq_some_iff.mp (am_w_get (cyI := cyI) (cyZ := cyZ) (ad := ad) (M := M) h)).1
    rw [List.getElem?_set_self hl, am_w_get h]
  · rw [List.getElem?_set_ne (Ne.symm hi)]
    cases hI : I[i]? with
    | none => simp [am_w, hI]
    | some k2 =>
      have hne : k2 ≠ k := by
        intro e
        subst e
        exact hi (hD.1 i q _ _ (am_w_get hI) (am_w_get h) rfl)
      rw [am_w_get hI, am_w_get hI]
      have e2 : am_cell cyI cyZ ad M' k2 = am_cell cyI cyZ ad M k2 := by
        unfold am_cell
        rw [hM k2 hne]
      rw [e2]
def am_nst : List Cond := [.methodLinkNest RX1 26 yX6_isWithin RX6, .methodLinkNest RX3 28 yX6_isWithin RX6, .methodLinkNest RX4 48 yX6_isWithin RX6, .methodLinkNest RX3 91 yX6_stateNumber RX6, .methodLinkNest RX5 32 yX6_stateNumber RX6, .methodLinkNest RX6 18 yX3_init RX6, .methodLinkNest RX6 37 yX2_init RX6, .methodLinkNest RX6 44 yX0_init RX6, .methodLinkNest RX3 39 yX6_isIndexOf RX6, .methodLinkNest RX5 36 yX6_isIndexOf RX6]
def am_K (D : va_G) (cyI cyZ : ClassId) (U : State) : Prop := va_K D vwCl [(cyI, .int), (cyZ, .boolean)] U ∧ (∀ w ∈ lw_tbl, goodWord w = true → w.before #[] U = true) ∧ ∀ w ∈ am_nst, va_Nw w U
theorem am_nst_warm {s U : State} (hW : s.WarmedH U.vm) (h : ∀ w ∈ am_nst, va_Nw w s) : ∀ w ∈ am_nst, va_Nw w U := by
  intro w hw
  have h1 := h w hw
  simp only [am_nst, List.mem_cons, List.not_mem_nil, or_false] at hw
  rcases hw with rfl | rfl | rfl | rfl | rfl | rfl | rfl | rfl | rfl | rfl <;> exact va_Nw.warmM hW h1
theorem am_nst_on : ∀ w ∈ am_nst, w.onTables = true := by
  intro w hw
  simp only [am_nst, List.mem_cons, List.not_mem_nil, or_false] at hw
  rcases hw with rfl | rfl | rfl | rfl | rfl | rfl | rfl | rfl | rfl | rfl <;> rfl
theorem am_K.moved {D : va_G} {cyI cyZ : ClassId} {s U : State} (hW : s.WarmedH U.vm) (h : am_K D cyI cyZ s) : am_K D cyI cyZ U :=
  ⟨va_K.moved hW.alike h.1, fun w hw hg => word_at hW (good_of_word hg) (h.2.1 w hw hg), am_nst_warm hW h.2.2⟩
theorem am_word {D : va_G} {cyI cyZ : ClassId} {U : State} (h : am_K D cyI cyZ U) {w : Cond} (hw : w ∈ lw_tbl) (hg : goodWord w = true) (ho : w.onTables = true) (args : Array Value) : w.before args U = true := va_tabs ho rfl (h.2.1 w hw hg)
end
section
/-! methods: name, bytes, maxLocals, return type, frames and locals of room -/
abbrev am_Y : Type := MethodName × ByteArray × Nat × Option FieldType × Nat × Nat
def am_rm (Y : am_Y) : Jvm.Room := { frames := Y.2.2.2.2.1, cells := 0, slots := 0, locals := Y.2.2.2.2.2 }
def am_CX (Y : am_Y) (D : va_G) (cyI cyZ : ClassId) (p : Program) (s : State) (m : MethodId) (meth : Method) (c : Code) : Prop :=
  p.tables.exec = Jvm.exec ∧ c.code = Y.2.1 ∧ meth.sig.returnType = Y.2.2.2.1 ∧ c.maxLocals = Y.2.2.1 ∧ s.vm.findClass Y.1.cls = some m.cls ∧ meth.locks = false ∧ am_K D cyI cyZ s
def am_L (ls : Array Slot) (n : Nat) (L : List (Option Value)) : Prop := ls.size = n ∧ lv_wf ls ∧ ∀ (i : Nat) (v : Value), L[i]? = some (some v) → ls[i]? = some (.val v) ∧ v.category = 1
def am_Q (D : va_G) (cyI cyZ : ClassId) (ad : Nat → Nat) (I : List Nat) (P : Option Value → am_M → Prop) (A : Nat → Prop) : Array Value → State → Outcome → State → Prop := fun _ st o t =>
  (∃ (r : Option Value) (M : am_M), o = .returned r ∧ P r M ∧ va_P D vwCl (am_w I cyI cyZ ad M) t.heap ∧ am_K D cyI cyZ t ∧ va_D A (am_w I cyI cyZ ad M)) ∧ va_F A st t
/-- at pc, with these locals, this stack, this memory: the method comes to its end with P -/
def am_W (Y : am_Y) (ad : Nat → Nat) (I : List Nat) (P : Option Value → am_M → Prop) (pc : Nat) (L : List (Option Value)) (st : List Value) (M : am_M) : Prop :=
  ∀ (l : Launch) (D : va_G) (cyI cyZ : ClassId) (p : Program) (e : Env) (s : State) (m : MethodId) (args : Array Value) (below : List Frame) (meth : Method) (c : Code) (A : Nat → Prop) (H : Heap) (locs : List Loc) (ls : Array Slot),
    am_CX Y D cyI cyZ p s m meth c → (∀ q : Nat, s.heap.size ≤ q → A q) → am_L ls Y.2.2.1 L → va_P D vwCl (am_w I cyI cyZ ad M) H → va_D A (am_w I cyI cyZ ad M) → va_S A s.heap H locs →
    W p l e (am_rm Y) s m args below meth c H locs 0 0 (MQ below (am_Q D cyI cyZ ad I P A) args s 0 0 A) (F0 m pc ls st)
/-- the contract of a method: from the memory M, with these arguments, it ends with P -/
def am_C (Y : am_Y) (ad : Nat → Nat) (I : List Nat) (As : List Value) (M : am_M) (P : Option Value → am_M → Prop) : Prop :=
  ∀ (l : Launch) (D : va_G) (cyI cyZ : ClassId) (sz : Nat), Met l Y.1 [.code Y.1 Y.2.1 Y.2.2.1 Y.2.2.2.1] (am_rm Y)
    (va_Pc As (fun U => U.heap.size = sz ∧ va_P D vwCl (am_w I cyI cyZ ad M) U.heap ∧ am_K D cyI cyZ U ∧ va_D (fun _ => True) (am_w I cyI cyZ ad M)))
    (am_Q D cyI cyZ ad I P (va_A (am_w I cyI cyZ ad M) sz)) 0 0 (va_A (am_w I cyI cyZ ad M) sz)
theorem am_C.to {Y : am_Y} {ad : Nat → Nat} {I : List Nat} {As : List Value} {M : am_M} {P P' : Option Value → am_M → Prop} (h : am_C Y ad I As M P) (hp : ∀ r N, P r N → P' r N) : am_C Y ad I As M P' := by
  intro l D cyI cyZ sz p e ha hc hk s m args below hf happ hpre hK
  obtain ⟨k, o, h1, h2, h3, hQ, hE⟩ := h l D cyI cyZ sz p e ha hc hk s m args below hf happ hpre hK
  obtain ⟨⟨r, N, e1, e2, e3⟩, e4⟩ := hQ
  exact ⟨k, o, h1, h2, h3, ⟨⟨r, N, e1, hp r N e2, e3⟩, e4⟩, hE⟩
theorem am_args (vs : List Value) (hc : ∀ v ∈ vs, v.category = 1) : (lg_sl vs).length = vs.length ∧ ∀ (j i : Nat) (v : Value), vs[i]? = some v → (j + i, v) ∈ lv_args j vs := by
  induction vs with
  | nil => exact ⟨rfl, fun j i v h => by simp at h⟩
  | cons a l ih =>
    have ha : a.category = 1 := hc a List.mem_cons_self
    obtain ⟨h1, h2⟩ := ih (fun v h => hc v (List.mem_cons_of_mem _ h))
    have hn : ¬ a.category = 2 := by omega
    refine ⟨?_, fun j i v h => ?_⟩
    · have e : lg_sl (a :: l) = .val a :: lg_sl l := by
        simp [lg_sl, hn]
      rw [e, List.length_cons, List.length_cons, h1]
    · cases i with
      | zero =>
        have e : a = v := by simpa using h
        subst e
        simp [lv_args]
      | succ i =>
        have h3 : l[i]? = some v := by simpa using h
        have h4 := h2 (j + 1) i v h3
        have e : j + 1 + i = j + (i + 1) := by omega
        rw [e] at h4
        simp only [lv_args, if_neg hn]
        exact List.mem_cons_of_mem _ h4
theorem am_ofW {Y : am_Y} {ad : Nat → Nat} {I : List Nat} {As : List Value} {M : am_M} {P : Option Value → am_M → Prop} {L : List (Option Value)} (hp : plainName Y.1.cls = true) (hc : ∀ v ∈ As, v.category = 1) (hn : As.length ≤ Y.2.2.1)
    (hL : As.map some ++ List.replicate (Y.2.2.1 - As.length) none = L) (k : am_W Y ad I P 0 L [] M) : am_C Y ad I As M P := by
  intro l D cyI cyZ sz
  refine Met.ofW (cc := Y.2.1) (maxL := Y.2.2.1) (ret := Y.2.2.2.1) hp rfl ?_
  intro p e s m args below meth c s₁ B hml hv
  obtain ⟨rfl, hsz, hP, hK, hD0⟩ := hv
  subst hsz
  have hD := hD0.self (sz := s.heap.size)
  obtain ⟨ha1, ha2⟩ := am_args As hc
  have hl := lv_entry As (n := Y.2.2.1) (by rw [ha1]; exact hn)
  rw [lg_entry_eq]
  refine k l D cyI cyZ p e s m _ below meth c _ s.heap [] _ ⟨B.exec, B.bytes, B.returns, hml, findClass_of_methodNamed B.named, B.notSynchronized, hK⟩ (fun q h => Or.inr h) ⟨hl.1, hl.2.1, ?_⟩ hP hD va_S.rf
  intro i v hi
  rw [← hL] at hi
  have hi2 : As[i]? = some v := by
    by_cases h : i < As.length
    · rw [List.getElem?_append_left (by simpa using h)] at hi
      simpa using hi
    · rw [List.getElem?_append_right (by simpa using Nat.le_of_not_lt h)] at hi
      rw [List.getElem?_replicate] at hi
      split at hi <;> cases hi
  have h0 := ha2 0 i v hi2
  rw [Nat.zero_add] at h0
  exact ⟨hl.2.2 _ h0, hc v (List.mem_of_getElem? hi2)⟩
def am_l (L : List (Option Value)) : List (Nat × Value) := (List.range L.length).filterMap fun j => match L[j]? with
  | some (some v) => some (j, v)
  | _ => none
theorem am_l_mem {L : List (Option Value)} {q : Nat × Value} : q ∈ am_l L ↔ L[q.1]? = some (some q.2) := by
  unfold am_l
  rw [List.mem_filterMap]
  constructor
  · rintro ⟨j, -, h⟩
    split at h
    · rename_i v hv
      cases h
      exact hv
    · cases h
  · intro h
    refine ⟨q.1, List.mem_range.mpr (List.getElem?_eq_some_iff.mp h).1, ?_⟩
    rw [h]
theorem am_L.has {ls : Array Slot} {n : Nat} {L : List (Option Value)} (h : am_L ls n L) : lv_has ls n (am_l L) := ⟨h.1, h.2.1, fun _ hq => (h.2.2 _ _ (am_l_mem.mp hq)).1⟩
theorem am_L.at {ls : Array Slot} {n : Nat} {L : List (Option Value)} (h : am_L ls n L) {i : Nat} {v : Value} (hi : L[i]? = some (some v)) : ls[i]? = some (.val v) := (h.2.2 i v hi).1
theorem am_L.set {ls ls' : Array Slot} {n : Nat} {L : List (Option Value)} (h : am_L ls n L) {i : Nat} {v : Value} (hv : v.category = 1) (h' : lv_has ls' n ((i, v) :: (am_l L).filter (fun q => !(q.1 == i) && !(q.1 + 1 == i && q.2.category == 2)))) : am_L ls' n (L.set i (some v)) := by
  refine ⟨h'.1, h'.2.1, fun j w hj => ?_⟩
  by_cases hji : j = i
  · subst hji
    have hlt : j < L.length := by
      have := (List.getElem?_eq_some_iff.mp hj).1
      simpa using this
    rw [List.getElem?_set_self hlt] at hj
    cases hj
    exact ⟨h'.2.2 (j, v) List.mem_cons_self, hv⟩
  · rw [List.getElem?_set_ne (Ne.symm hji)] at hj
    obtain ⟨-, hw⟩ := h.2.2 j w hj
    refine ⟨h'.2.2 (j, w) (List.mem_cons_of_mem _ (List.mem_filter.mpr ⟨am_l_mem.mpr hj, ?_⟩)), hw⟩
    simp [hji, hw]
theorem am_L.cat {ls : Array Slot} {n : Nat} {L : List (Option Value)} (h : am_L ls n L) {i : Nat} {v : Value} (hi : L[i]? = some (some v)) : v.category = 1 := (h.2.2 i v hi).2
section AMR
variable {Y : am_Y} {ad : Nat → Nat} {I : List Nat} {P : Option Value → am_M → Prop} {pc : Nat} {L : List (Option Value)} {st : List Value} {M : am_M}
theorem am_iconst {n : Int} {v : Int32} (hv : Int32.ofInt n = v) (hdg : decode Y.2.1 pc = .ok (.iconst n, 1)) (k : am_W Y ad I P (pc + 1) L (.int v :: st) M) : am_W Y ad I P pc L (st) M := by
  intro l D cyI cyZ p e s m args below meth c A H locs ls hX hA hl hP hD hS
  obtain ⟨hx, hb, hr, hml, hown, hlk, hK⟩ := id hX
  exact lv_iconst hx hb hdg hv (k l D cyI cyZ p e s m args below meth c A H locs ls hX hA hl hP hD hS)
theorem am_bipush {n : Int} {v : Int32} (hv : (Int8.ofInt n).toInt32 = v) (hdg : decode Y.2.1 pc = .ok (.bipush n, 2)) (k : am_W Y ad I P (pc + 2) L (.int v :: st) M) : am_W Y ad I P pc L (st) M := by
  intro l D cyI cyZ p e s m args below meth c A H locs ls hX hA hl hP hD hS
  obtain ⟨hx, hb, hr, hml, hown, hlk, hK⟩ := id hX
  exact lv_bipush hx hb hdg hv (k l D cyI cyZ p e s m args below meth c A H locs ls hX hA hl hP hD hS)
theorem am_sipush {n : Int} {v : Int32} (hv : (Int16.ofInt n).toInt32 = v) (hdg : decode Y.2.1 pc = .ok (.sipush n, 3)) (k : am_W Y ad I P (pc + 3) L (.int v :: st) M) : am_W Y ad I P pc L (st) M := by
  intro l D cyI cyZ p e s m args below meth c A H locs ls hX hA hl hP hD hS
  obtain ⟨hx, hb, hr, hml, hown, hlk, hK⟩ := id hX
  exact lv_sipush hx hb hdg hv (k l D cyI cyZ p e s m args below meth c A H locs ls hX hA hl hP hD hS)
theorem am_ldc {index : Nat} {v : Int32} (hw : Cond.constant Y.1.cls index v ∈ lw_tbl) (hdg : decode Y.2.1 pc = .ok (.ldc index, 2)) (k : am_W Y ad I P (pc + 2) L (.int v :: st) M) : am_W Y ad I P pc L (st) M := by
  intro l D cyI cyZ p e s m args below meth c A H locs ls hX hA hl hP hD hS
  obtain ⟨hx, hb, hr, hml, hown, hlk, hK⟩ := id hX
  exact lv_ldc hx hb hown (am_word hK hw rfl rfl _) hdg (k l D cyI cyZ p e s m args below meth c A H locs ls hX hA hl hP hD hS)
theorem am_null (hdg : decode Y.2.1 pc = .ok (.aconst_null, 1)) (k : am_W Y ad I P (pc + 1) L (.null :: st) M) : am_W Y ad I P pc L (st) M := by
  intro l D cyI cyZ p e s m args below meth c A H locs ls hX hA hl hP hD hS
  obtain ⟨hx, hb, hr, hml, hown, hlk, hK⟩ := id hX
  exact lv_null hx hb hdg (k l D cyI cyZ p e s m args below meth c A H locs ls hX hA hl hP hD hS)
theorem am_iload_n {i : Fin 4} {v : Int32} (hi : L[(i : Nat)]? = some (some (.int v))) (hdg : decode Y.2.1 pc = .ok (.iload_n i, 1)) (k : am_W Y ad I P (pc + 1) L (.int v :: st) M) : am_W Y ad I P pc L (st) M := by
  intro l D cyI cyZ p e s m args below meth c A H locs ls hX hA hl hP hD hS
  obtain ⟨hx, hb, hr, hml, hown, hlk, hK⟩ := id hX
  exact lv_iload_n hx hb hdg rfl (hl.at hi) (k l D cyI cyZ p e s m args below meth c A H locs ls hX hA hl hP hD hS)
theorem am_iload {i : Nat} {v : Int32} (hi : L[i]? = some (some (.int v))) (hdg : decode Y.2.1 pc = .ok (.iload i, 2)) (k : am_W Y ad I P (pc + 2) L (.int v :: st) M) : am_W Y ad I P pc L (st) M := by
  intro l D cyI cyZ p e s m args below meth c A H locs ls hX hA hl hP hD hS
  obtain ⟨hx, hb, hr, hml, hown, hlk, hK⟩ := id hX
  exact lv_iload hx hb hdg (hl.at hi) (k l D cyI cyZ p e s m args below meth c A H locs ls hX hA hl hP hD hS)
theorem am_aload_n {i : Fin 4} {v : Nat} (hi : L[(i : Nat)]? = some (some (.ref v))) (hdg : decode Y.2.1 pc = .ok (.aload_n i, 1)) (k : am_W Y ad I P (pc + 1) L (.ref v :: st) M) : am_W Y ad I P pc L (st) M := by
  intro l D cyI cyZ p e s m args below meth c A H locs ls hX hA hl hP hD hS
  obtain ⟨hx, hb, hr, hml, hown, hlk, hK⟩ := id hX
  exact lv_aload_n hx hb hdg rfl (hl.at hi) (k l D cyI cyZ p e s m args below meth c A H locs ls hX hA hl hP hD hS)
theorem am_aload {i : Nat} {v : Nat} (hi : L[i]? = some (some (.ref v))) (hdg : decode Y.2.1 pc = .ok (.aload i, 2)) (k : am_W Y ad I P (pc + 2) L (.ref v :: st) M) : am_W Y ad I P pc L (st) M := by
  intro l D cyI cyZ p e s m args below meth c A H locs ls hX hA hl hP hD hS
  obtain ⟨hx, hb, hr, hml, hown, hlk, hK⟩ := id hX
  exact lv_aload hx hb hdg (hl.at hi) (k l D cyI cyZ p e s m args below meth c A H locs ls hX hA hl hP hD hS)
theorem am_aload_nN {i : Fin 4} (hi : L[(i : Nat)]? = some (some .null)) (hdg : decode Y.2.1 pc = .ok (.aload_n i, 1)) (k : am_W Y ad I P (pc + 1) L (.null :: st) M) : am_W Y ad I P pc L (st) M := by
  intro l D cyI cyZ p e s m args below meth c A H locs ls hX hA hl hP hD hS
  obtain ⟨hx, hb, hr, hml, hown, hlk, hK⟩ := id hX
  exact lv_aload_nN hx hb hdg rfl (hl.at hi) (k l D cyI cyZ p e s m args below meth c A H locs ls hX hA hl hP hD hS)
theorem am_iadd {x y : Int32} (hdg : decode Y.2.1 pc = .ok (.iadd, 1)) (k : am_W Y ad I P (pc + 1) L (.int (x + y) :: st) M) : am_W Y ad I P pc L (.int y :: .int x :: st) M := by
  intro l D cyI cyZ p e s m args below meth c A H locs ls hX hA hl hP hD hS
  obtain ⟨hx, hb, hr, hml, hown, hlk, hK⟩ := id hX
  exact lv_iadd hx hb hdg (k l D cyI cyZ p e s m args below meth c A H locs ls hX hA hl hP hD hS)
theorem am_isub {x y : Int32} (hdg : decode Y.2.1 pc = .ok (.isub, 1)) (k : am_W Y ad I P (pc + 1) L (.int (x - y) :: st) M) : am_W Y ad I P pc L (.int y :: .int x :: st) M := by
  intro l D cyI cyZ p e s m args below meth c A H locs ls hX hA hl hP hD hS
  obtain ⟨hx, hb, hr, hml, hown, hlk, hK⟩ := id hX
  exact lv_isub hx hb hdg (k l D cyI cyZ p e s m args below meth c A H locs ls hX hA hl hP hD hS)
theorem am_imul {x y : Int32} (hdg : decode Y.2.1 pc = .ok (.imul, 1)) (k : am_W Y ad I P (pc + 1) L (.int (x * y) :: st) M) : am_W Y ad I P pc L (.int y :: .int x :: st) M := by
  intro l D cyI cyZ p e s m args below meth c A H locs ls hX hA hl hP hD hS
  obtain ⟨hx, hb, hr, hml, hown, hlk, hK⟩ := id hX
  exact lv_imul hx hb hdg (k l D cyI cyZ p e s m args below meth c A H locs ls hX hA hl hP hD hS)
theorem am_iand {x y : Int32} (hdg : decode Y.2.1 pc = .ok (.iand, 1)) (k : am_W Y ad I P (pc + 1) L (.int (x &&& y) :: st) M) : am_W Y ad I P pc L (.int y :: .int x :: st) M := by
  intro l D cyI cyZ p e s m args below meth c A H locs ls hX hA hl hP hD hS
  obtain ⟨hx, hb, hr, hml, hown, hlk, hK⟩ := id hX
  exact lv_iand hx hb hdg (k l D cyI cyZ p e s m args below meth c A H locs ls hX hA hl hP hD hS)
theorem am_ineg {x : Int32} (hdg : decode Y.2.1 pc = .ok (.ineg, 1)) (k : am_W Y ad I P (pc + 1) L (.int (-x) :: st) M) : am_W Y ad I P pc L (.int x :: st) M := by
  intro l D cyI cyZ p e s m args below meth c A H locs ls hX hA hl hP hD hS
  obtain ⟨hx, hb, hr, hml, hown, hlk, hK⟩ := id hX
  exact lv_ineg hx hb hdg (k l D cyI cyZ p e s m args below meth c A H locs ls hX hA hl hP hD hS)
theorem am_idiv {x y : Int32} (hy : ¬ y = 0) (hdg : decode Y.2.1 pc = .ok (.idiv, 1)) (k : am_W Y ad I P (pc + 1) L (.int (x / y) :: st) M) : am_W Y ad I P pc L (.int y :: .int x :: st) M := by
  intro l D cyI cyZ p e s m args below meth c A H locs ls hX hA hl hP hD hS
  obtain ⟨hx, hb, hr, hml, hown, hlk, hK⟩ := id hX
  exact lv_idiv hx hb hdg hy (k l D cyI cyZ p e s m args below meth c A H locs ls hX hA hl hP hD hS)
theorem am_irem {x y : Int32} (hy : ¬ y = 0) (hdg : decode Y.2.1 pc = .ok (.irem, 1)) (k : am_W Y ad I P (pc + 1) L (.int (x - x / y * y) :: st) M) : am_W Y ad I P pc L (.int y :: .int x :: st) M := by
  intro l D cyI cyZ p e s m args below meth c A H locs ls hX hA hl hP hD hS
  obtain ⟨hx, hb, hr, hml, hown, hlk, hK⟩ := id hX
  exact lv_irem hx hb hdg hy (k l D cyI cyZ p e s m args below meth c A H locs ls hX hA hl hP hD hS)
theorem am_dup {v : Value} (hv : v.category = 1) (hdg : decode Y.2.1 pc = .ok (.dup, 1)) (k : am_W Y ad I P (pc + 1) L (v :: v :: st) M) : am_W Y ad I P pc L (v :: st) M := by
  intro l D cyI cyZ p e s m args below meth c A H locs ls hX hA hl hP hD hS
  obtain ⟨hx, hb, hr, hml, hown, hlk, hK⟩ := id hX
  exact lv_dup hx hb hdg hv (k l D cyI cyZ p e s m args below meth c A H locs ls hX hA hl hP hD hS)
theorem am_dup2 {v w : Value} (hv : v.category = 1) (hw : w.category = 1) (hdg : decode Y.2.1 pc = .ok (.dup2, 1)) (k : am_W Y ad I P (pc + 1) L (v :: w :: v :: w :: st) M) : am_W Y ad I P pc L (v :: w :: st) M := by
  intro l D cyI cyZ p e s m args below meth c A H locs ls hX hA hl hP hD hS
  obtain ⟨hx, hb, hr, hml, hown, hlk, hK⟩ := id hX
  exact lv_dup2_11 hx hb hdg hv hw (k l D cyI cyZ p e s m args below meth c A H locs ls hX hA hl hP hD hS)
theorem am_istore_n {i : Fin 4} {v : Int32} (hn : (i : Nat) < Y.2.2.1) (hdg : decode Y.2.1 pc = .ok (.istore_n i, 1)) (k : am_W Y ad I P (pc + 1) (L.set i (some (.int v))) st M) : am_W Y ad I P pc L (.int v :: st) M := by
  intro l D cyI cyZ p e s m args below meth c A H locs ls hX hA hl hP hD hS
  obtain ⟨hx, hb, hr, hml, hown, hlk, hK⟩ := id hX
  exact lv_istore_n hx hb hdg rfl hl.has hn rfl (fun ls' h' => k l D cyI cyZ p e s m args below meth c A H locs ls' hX hA (hl.set rfl h') hP hD hS)
theorem am_istore {i : Nat} {v : Int32} (hn : i < Y.2.2.1) (hdg : decode Y.2.1 pc = .ok (.istore i, 2)) (k : am_W Y ad I P (pc + 2) (L.set i (some (.int v))) st M) : am_W Y ad I P pc L (.int v :: st) M := by
  intro l D cyI cyZ p e s m args below meth c A H locs ls hX hA hl hP hD hS
  obtain ⟨hx, hb, hr, hml, hown, hlk, hK⟩ := id hX
  exact lv_istore hx hb hdg hl.has hn rfl (fun ls' h' => k l D cyI cyZ p e s m args below meth c A H locs ls' hX hA (hl.set rfl h') hP hD hS)
theorem am_astore_n {i : Fin 4} {v : Nat} (hn : (i : Nat) < Y.2.2.1) (hdg : decode Y.2.1 pc = .ok (.astore_n i, 1)) (k : am_W Y ad I P (pc + 1) (L.set i (some (.ref v))) st M) : am_W Y ad I P pc L (.ref v :: st) M := by
  intro l D cyI cyZ p e s m args below meth c A H locs ls hX hA hl hP hD hS
  obtain ⟨hx, hb, hr, hml, hown, hlk, hK⟩ := id hX
  exact lv_astore_n hx hb hdg rfl hl.has hn rfl (fun ls' h' => k l D cyI cyZ p e s m args below meth c A H locs ls' hX hA (hl.set rfl h') hP hD hS)
theorem am_astore {i : Nat} {v : Nat} (hn : i < Y.2.2.1) (hdg : decode Y.2.1 pc = .ok (.astore i, 2)) (k : am_W Y ad I P (pc + 2) (L.set i (some (.ref v))) st M) : am_W Y ad I P pc L (.ref v :: st) M := by
  intro l D cyI cyZ p e s m args below meth c A H locs ls hX hA hl hP hD hS
  obtain ⟨hx, hb, hr, hml, hown, hlk, hK⟩ := id hX
  exact lv_astore hx hb hdg hl.has hn rfl (fun ls' h' => k l D cyI cyZ p e s m args below meth c A H locs ls' hX hA (hl.set rfl h') hP hD hS)
theorem am_astore_nN {i : Fin 4} (hn : (i : Nat) < Y.2.2.1) (hdg : decode Y.2.1 pc = .ok (.astore_n i, 1)) (k : am_W Y ad I P (pc + 1) (L.set i (some (.null))) st M) : am_W Y ad I P pc L (.null :: st) M := by
  intro l D cyI cyZ p e s m args below meth c A H locs ls hX hA hl hP hD hS
  obtain ⟨hx, hb, hr, hml, hown, hlk, hK⟩ := id hX
  exact lv_astore_nN hx hb hdg rfl hl.has hn rfl (fun ls' h' => k l D cyI cyZ p e s m args below meth c A H locs ls' hX hA (hl.set rfl h') hP hD hS)
theorem am_iinc {i : Nat} {n : Int} {x v : Int32} (hi : L[i]? = some (some (.int x))) (hv : x + Int32.ofInt n = v) (hn : i < Y.2.2.1) (hdg : decode Y.2.1 pc = .ok (.iinc i n, 3)) (k : am_W Y ad I P (pc + 3) (L.set i (some (.int v))) st M) : am_W Y ad I P pc L st M := by
  intro l D cyI cyZ p e s m args below meth c A H locs ls hX hA hl hP hD hS
  obtain ⟨hx, hb, hr, hml, hown, hlk, hK⟩ := id hX
  obtain ⟨q, hq⟩ := List.getElem?_of_mem (am_l_mem (q := (i, .int x)).mpr hi)
  exact lv_iinc hx hb hdg hl.has hq hv hn rfl (fun ls' h' => k l D cyI cyZ p e s m args below meth c A H locs ls' hX hA (hl.set rfl h') hP hD hS)
theorem am_goto {off : Int} {tgt : Nat} (ht : (pc : Int) + off = (tgt : Int)) (hdg : decode Y.2.1 pc = .ok (.goto off, 3)) (k : am_W Y ad I P tgt L st M) : am_W Y ad I P pc L st M := by
  intro l D cyI cyZ p e s m args below meth c A H locs ls hX hA hl hP hD hS
  obtain ⟨hx, hb, hr, hml, hown, hlk, hK⟩ := id hX
  exact lv_goto hx hb hdg ht (k l D cyI cyZ p e s m args below meth c A H locs ls hX hA hl hP hD hS)
theorem am_if_eq {x : Int32} {off : Int} {tgt : Nat} (ht : (pc : Int) + off = (tgt : Int)) (hdg : decode Y.2.1 pc = .ok (.ifCond .eq off, 3)) (kt : x = 0 → am_W Y ad I P tgt L st M) (kf : ¬ x = 0 → am_W Y ad I P (pc + 3) L st M) : am_W Y ad I P pc L (.int x :: st) M := by
  intro l D cyI cyZ p e s m args below meth c A H locs ls hX hA hl hP hD hS
  obtain ⟨hx, hb, hr, hml, hown, hlk, hK⟩ := id hX
  exact lv_if_eq hx hb hdg ht (fun h => kt h l D cyI cyZ p e s m args below meth c A H locs ls hX hA hl hP hD hS) (fun h => kf h l D cyI cyZ p e s m args below meth c A H locs ls hX hA hl hP hD hS)
theorem am_if_ne {x : Int32} {off : Int} {tgt : Nat} (ht : (pc : Int) + off = (tgt : Int)) (hdg : decode Y.2.1 pc = .ok (.ifCond .ne off, 3)) (kt : ¬ x = 0 → am_W Y ad I P tgt L st M) (kf : x = 0 → am_W Y ad I P (pc + 3) L st M) : am_W Y ad I P pc L (.int x :: st) M := by
  intro l D cyI cyZ p e s m args below meth c A H locs ls hX hA hl hP hD hS
  obtain ⟨hx, hb, hr, hml, hown, hlk, hK⟩ := id hX
  exact lv_if_ne hx hb hdg ht (fun h => kt h l D cyI cyZ p e s m args below meth c A H locs ls hX hA hl hP hD hS) (fun h => kf h l D cyI cyZ p e s m args below meth c A H locs ls hX hA hl hP hD hS)
theorem am_if_lt {x : Int32} {off : Int} {tgt : Nat} (ht : (pc : Int) + off = (tgt : Int)) (hdg : decode Y.2.1 pc = .ok (.ifCond .lt off, 3)) (kt : x < 0 → am_W Y ad I P tgt L st M) (kf : ¬ x < 0 → am_W Y ad I P (pc + 3) L st M) : am_W Y ad I P pc L (.int x :: st) M := by
  intro l D cyI cyZ p e s m args below meth c A H locs ls hX hA hl hP hD hS
  obtain ⟨hx, hb, hr, hml, hown, hlk, hK⟩ := id hX
  exact lv_if_lt hx hb hdg ht (fun h => kt h l D cyI cyZ p e s m args below meth c A H locs ls hX hA hl hP hD hS) (fun h => kf h l D cyI cyZ p e s m args below meth c A H locs ls hX hA hl hP hD hS)
theorem am_if_ge {x : Int32} {off : Int} {tgt : Nat} (ht : (pc : Int) + off = (tgt : Int)) (hdg : decode Y.2.1 pc = .ok (.ifCond .ge off, 3)) (kt : 0 ≤ x → am_W Y ad I P tgt L st M) (kf : ¬ 0 ≤ x → am_W Y ad I P (pc + 3) L st M) : am_W Y ad I P pc L (.int x :: st) M := by
  intro l D cyI cyZ p e s m args below meth c A H locs ls hX hA hl hP hD hS
  obtain ⟨hx, hb, hr, hml, hown, hlk, hK⟩ := id hX
  exact lv_if_ge hx hb hdg ht (fun h => kt h l D cyI cyZ p e s m args below meth c A H locs ls hX hA hl hP hD hS) (fun h => kf h l D cyI cyZ p e s m args below meth c A H locs ls hX hA hl hP hD hS)
theorem am_if_gt {x : Int32} {off : Int} {tgt : Nat} (ht : (pc : Int) + off = (tgt : Int)) (hdg : decode Y.2.1 pc = .ok (.ifCond .gt off, 3)) (kt : 0 < x → am_W Y ad I P tgt L st M) (kf : ¬ 0 < x → am_W Y ad I P (pc + 3) L st M) : am_W Y ad I P pc L (.int x :: st) M := by
  intro l D cyI cyZ p e s m args below meth c A H locs ls hX hA hl hP hD hS
  obtain ⟨hx, hb, hr, hml, hown, hlk, hK⟩ := id hX
  exact lv_if_gt hx hb hdg ht (fun h => kt h l D cyI cyZ p e s m args below meth c A H locs ls hX hA hl hP hD hS) (fun h => kf h l D cyI cyZ p e s m args below meth c A H locs ls hX hA hl hP hD hS)
theorem am_if_le {x : Int32} {off : Int} {tgt : Nat} (ht : (pc : Int) + off = (tgt : Int)) (hdg : decode Y.2.1 pc = .ok (.ifCond .le off, 3)) (kt : x ≤ 0 → am_W Y ad I P tgt L st M) (kf : ¬ x ≤ 0 → am_W Y ad I P (pc + 3) L st M) : am_W Y ad I P pc L (.int x :: st) M := by
  intro l D cyI cyZ p e s m args below meth c A H locs ls hX hA hl hP hD hS
  obtain ⟨hx, hb, hr, hml, hown, hlk, hK⟩ := id hX
  exact lv_if_le hx hb hdg ht (fun h => kt h l D cyI cyZ p e s m args below meth c A H locs ls hX hA hl hP hD hS) (fun h => kf h l D cyI cyZ p e s m args below meth c A H locs ls hX hA hl hP hD hS)
theorem am_icmp_eq {x y : Int32} {off : Int} {tgt : Nat} (ht : (pc : Int) + off = (tgt : Int)) (hdg : decode Y.2.1 pc = .ok (.if_icmp .eq off, 3)) (kt : x = y → am_W Y ad I P tgt L st M) (kf : ¬ x = y → am_W Y ad I P (pc + 3) L st M) : am_W Y ad I P pc L (.int y :: .int x :: st) M := by
  intro l D cyI cyZ p e s m args below meth c A H locs ls hX hA hl hP hD hS
  obtain ⟨hx, hb, hr, hml, hown, hlk, hK⟩ := id hX
  exact lv_icmp_eq hx hb hdg ht (fun h => kt h l D cyI cyZ p e s m args below meth c A H locs ls hX hA hl hP hD hS) (fun h => kf h l D cyI cyZ p e s m args below meth c A H locs ls hX hA hl hP hD hS)
theorem am_icmp_ne {x y : Int32} {off : Int} {tgt : Nat} (ht : (pc : Int) + off = (tgt : Int)) (hdg : decode Y.2.1 pc = .ok (.if_icmp .ne off, 3)) (kt : ¬ x = y → am_W Y ad I P tgt L st M) (kf : x = y → am_W Y ad I P (pc + 3) L st M) : am_W Y ad I P pc L (.int y :: .int x :: st) M := by
  intro l D cyI cyZ p e s m args below meth c A H locs ls hX hA hl hP hD hS
  obtain ⟨hx, hb, hr, hml, hown, hlk, hK⟩ := id hX
  exact lv_icmp_ne hx hb hdg ht (fun h => kt h l D cyI cyZ p e s m args below meth c A H locs ls hX hA hl hP hD hS) (fun h => kf h l D cyI cyZ p e s m args below meth c A H locs ls hX hA hl hP hD hS)
theorem am_icmp_lt {x y : Int32} {off : Int} {tgt : Nat} (ht : (pc : Int) + off = (tgt : Int)) (hdg : decode Y.2.1 pc = .ok (.if_icmp .lt off, 3)) (kt : x < y → am_W Y ad I P tgt L st M) (kf : ¬ x < y → am_W Y ad I P (pc + 3) L st M) : am_W Y ad I P pc L (.int y :: .int x :: st) M := by
  intro l D cyI cyZ p e s m args below meth c A H locs ls hX hA hl hP hD hS
  obtain ⟨hx, hb, hr, hml, hown, hlk, hK⟩ := id hX
  exact lv_icmp_lt hx hb hdg ht (fun h => kt h l D cyI cyZ p e s m args below meth c A H locs ls hX hA hl hP hD hS) (fun h => kf h l D cyI cyZ p e s m args below meth c A H locs ls hX hA hl hP hD hS)
theorem am_icmp_ge {x y : Int32} {off : Int} {tgt : Nat} (ht : (pc : Int) + off = (tgt : Int)) (hdg : decode Y.2.1 pc = .ok (.if_icmp .ge off, 3)) (kt : y ≤ x → am_W Y ad I P tgt L st M) (kf : ¬ y ≤ x → am_W Y ad I P (pc + 3) L st M) : am_W Y ad I P pc L (.int y :: .int x :: st) M := by
  intro l D cyI cyZ p e s m args below meth c A H locs ls hX hA hl hP hD hS
  obtain ⟨hx, hb, hr, hml, hown, hlk, hK⟩ := id hX
  exact lv_icmp_ge hx hb hdg ht (fun h => kt h l D cyI cyZ p e s m args below meth c A H locs ls hX hA hl hP hD hS) (fun h => kf h l D cyI cyZ p e s m args below meth c A H locs ls hX hA hl hP hD hS)
theorem am_icmp_gt {x y : Int32} {off : Int} {tgt : Nat} (ht : (pc : Int) + off = (tgt : Int)) (hdg : decode Y.2.1 pc = .ok (.if_icmp .gt off, 3)) (kt : y < x → am_W Y ad I P tgt L st M) (kf : ¬ y < x → am_W Y ad I P (pc + 3) L st M) : am_W Y ad I P pc L (.int y :: .int x :: st) M := by
  intro l D cyI cyZ p e s m args below meth c A H locs ls hX hA hl hP hD hS
  obtain ⟨hx, hb, hr, hml, hown, hlk, hK⟩ := id hX
  exact lv_icmp_gt hx hb hdg ht (fun h => kt h l D cyI cyZ p e s m args below meth c A H locs ls hX hA hl hP hD hS) (fun h => kf h l D cyI cyZ p e s m args below meth c A H locs ls hX hA hl hP hD hS)
theorem am_icmp_le {x y : Int32} {off : Int} {tgt : Nat} (ht : (pc : Int) + off = (tgt : Int)) (hdg : decode Y.2.1 pc = .ok (.if_icmp .le off, 3)) (kt : x ≤ y → am_W Y ad I P tgt L st M) (kf : ¬ x ≤ y → am_W Y ad I P (pc + 3) L st M) : am_W Y ad I P pc L (.int y :: .int x :: st) M := by
  intro l D cyI cyZ p e s m args below meth c A H locs ls hX hA hl hP hD hS
  obtain ⟨hx, hb, hr, hml, hown, hlk, hK⟩ := id hX
  exact lv_icmp_le hx hb hdg ht (fun h => kt h l D cyI cyZ p e s m args below meth c A H locs ls hX hA hl hP hD hS) (fun h => kf h l D cyI cyZ p e s m args below meth c A H locs ls hX hA hl hP hD hS)
theorem am_ifnull {v : Nat} {off : Int} (hdg : decode Y.2.1 pc = .ok (.ifnull off, 3)) (k : am_W Y ad I P (pc + 3) L st M) : am_W Y ad I P pc L (.ref v :: st) M := by
  intro l D cyI cyZ p e s m args below meth c A H locs ls hX hA hl hP hD hS
  obtain ⟨hx, hb, hr, hml, hown, hlk, hK⟩ := id hX
  exact lv_ifnull hx hb hdg (k l D cyI cyZ p e s m args below meth c A H locs ls hX hA hl hP hD hS)
theorem am_ifnullN {off : Int} {tgt : Nat} (ht : (pc : Int) + off = (tgt : Int)) (hdg : decode Y.2.1 pc = .ok (.ifnull off, 3)) (k : am_W Y ad I P tgt L st M) : am_W Y ad I P pc L (.null :: st) M := by
  intro l D cyI cyZ p e s m args below meth c A H locs ls hX hA hl hP hD hS
  obtain ⟨hx, hb, hr, hml, hown, hlk, hK⟩ := id hX
  exact lv_ifnullN hx hb hdg ht (k l D cyI cyZ p e s m args below meth c A H locs ls hX hA hl hP hD hS)
theorem am_ifnonnull {v : Nat} {off : Int} {tgt : Nat} (ht : (pc : Int) + off = (tgt : Int)) (hdg : decode Y.2.1 pc = .ok (.ifnonnull off, 3)) (k : am_W Y ad I P tgt L st M) : am_W Y ad I P pc L (.ref v :: st) M := by
  intro l D cyI cyZ p e s m args below meth c A H locs ls hX hA hl hP hD hS
  obtain ⟨hx, hb, hr, hml, hown, hlk, hK⟩ := id hX
  exact lv_ifnonnull hx hb hdg ht (k l D cyI cyZ p e s m args below meth c A H locs ls hX hA hl hP hD hS)
theorem am_acmp_ne {v w : Nat} {off : Int} {tgt : Nat} (ht : (pc : Int) + off = (tgt : Int)) (hdg : decode Y.2.1 pc = .ok (.if_acmp .ne off, 3)) (kt : v ≠ w → am_W Y ad I P tgt L st M) (kf : v = w → am_W Y ad I P (pc + 3) L st M) : am_W Y ad I P pc L (.ref w :: .ref v :: st) M := by
  intro l D cyI cyZ p e s m args below meth c A H locs ls hX hA hl hP hD hS
  obtain ⟨hx, hb, hr, hml, hown, hlk, hK⟩ := id hX
  exact lv_acmp_ne (rx := some v) (ry := some w) hx hb hdg ht (fun h => kt (fun e => h (by rw [e])) l D cyI cyZ p e s m args below meth c A H locs ls hX hA hl hP hD hS) (fun h => kf (Option.some.inj h) l D cyI cyZ p e s m args below meth c A H locs ls hX hA hl hP hD hS)
theorem am_tabIn {dflt lo hi : Int} {offs : Array Int} {len : Nat} {x : Int32} {off : Int} {tgt : Nat} (h1 : ¬ x.toInt < lo) (h2 : ¬ hi < x.toInt) (ho : offs[(x.toInt - lo).toNat]? = some off) (ht : (pc : Int) + off = (tgt : Int)) (hdg : decode Y.2.1 pc = .ok (.tableswitch dflt lo hi offs, len)) (k : am_W Y ad I P tgt L st M) : am_W Y ad I P pc L (.int x :: st) M := by
  intro l D cyI cyZ p e s m args below meth c A H locs ls hX hA hl hP hD hS
  obtain ⟨hx, hb, hr, hml, hown, hlk, hK⟩ := id hX
  exact lv_tableIn hx hb hdg h1 h2 ho ht (k l D cyI cyZ p e s m args below meth c A H locs ls hX hA hl hP hD hS)
theorem am_tabOut {dflt lo hi : Int} {offs : Array Int} {len : Nat} {x : Int32} {tgt : Nat} (h : x.toInt < lo ∨ hi < x.toInt) (ht : (pc : Int) + dflt = (tgt : Int)) (hdg : decode Y.2.1 pc = .ok (.tableswitch dflt lo hi offs, len)) (k : am_W Y ad I P tgt L st M) : am_W Y ad I P pc L (.int x :: st) M := by
  intro l D cyI cyZ p e s m args below meth c A H locs ls hX hA hl hP hD hS
  obtain ⟨hx, hb, hr, hml, hown, hlk, hK⟩ := id hX
  exact lv_tableOut hx hb hdg h ht (k l D cyI cyZ p e s m args below meth c A H locs ls hX hA hl hP hD hS)
theorem am_K.cls {D : va_G} {cyI cyZ : ClassId} {s : State} (h : am_K D cyI cyZ s) {C : String} {T : u_T} {N : Nat} (hT : ∀ w ∈ u_ws C T N, w ∈ lw_tbl ∧ goodWord w = true) (args : Array Value) : ∀ w ∈ u_ws C T N, w.before args s = true := by
  intro w hw
  obtain ⟨h1, h2⟩ := hT w hw
  have h3 := h.2.1 w h1 h2
  refine va_tabs ?_ rfl h3
  obtain ⟨k, -, rfl⟩ := List.mem_map.mp hw
  unfold u_lay
  split <;> rfl
theorem am_geti {k j ci index N : Nat} {C : String} {T : u_T} {fl : List (Option Nat)} (hk : k ∈ I) (hs : am_shp k = .inl (ci, fl)) (hj : fl[j]? = some none) (hc : vwCl[ci]? = some (C, T, N)) (hT : ∀ w ∈ u_ws C T N, w ∈ lw_tbl ∧ goodWord w = true) (hN : j < N) (hw : Cond.fieldLink Y.1.cls index (T j).1 (T j).2.1 (T j).2.2.1 ∈ lw_tbl) (hdg : decode Y.2.1 pc = .ok (.getfield index, 3)) (kk : am_W Y ad I P (pc + 3) L (.int (M k j) :: st) M) : am_W Y ad I P pc L (.ref (ad k) :: st) M := by
  intro l D cyI cyZ p e s m args below meth c A H locs ls hX hA hl hP hD hS
  obtain ⟨hx, hb, hr, hml, hown, hlk, hK⟩ := id hX
  obtain ⟨q, hq⟩ := List.getElem?_of_mem hk
  have he : (am_w I cyI cyZ ad M)[q]? = some (ad k, .inr (ci, am_fs ad (M k) 0 fl)) := by rw [am_w_get hq, am_cell, hs]
  refine va_get (v := .int (M k j)) hx hb (hK.cls hT args) (fun _ h => h) hown hK.1 hP q he hc j hN (am_word hK hw rfl rfl args) (fun _ h => h) ?_ hdg (kk l D cyI cyZ p e s m args below meth c A H locs ls hX hA hl hP hD hS)
  have h0 := am_fs_i ad (M k) fl 0 j hj
  rwa [Nat.zero_add] at h0
theorem am_getr {z : Nat} {k j ci index N : Nat} {C : String} {T : u_T} {fl : List (Option Nat)} (hk : k ∈ I) (hs : am_shp k = .inl (ci, fl)) (hj : fl[j]? = some (some z)) (hc : vwCl[ci]? = some (C, T, N)) (hT : ∀ w ∈ u_ws C T N, w ∈ lw_tbl ∧ goodWord w = true) (hN : j < N) (hw : Cond.fieldLink Y.1.cls index (T j).1 (T j).2.1 (T j).2.2.1 ∈ lw_tbl) (hdg : decode Y.2.1 pc = .ok (.getfield index, 3)) (kk : am_W Y ad I P (pc + 3) L (.ref (ad z) :: st) M) : am_W Y ad I P pc L (.ref (ad k) :: st) M := by
  intro l D cyI cyZ p e s m args below meth c A H locs ls hX hA hl hP hD hS
  obtain ⟨hx, hb, hr, hml, hown, hlk, hK⟩ := id hX
  obtain ⟨q, hq⟩ := List.getElem?_of_mem hk
  have he : (am_w I cyI cyZ ad M)[q]? = some (ad k, .inr (ci, am_fs ad (M k) 0 fl)) := by rw [am_w_get hq, am_cell, hs]
  exact va_get (v := .ref (ad z)) hx hb (hK.cls hT args) (fun _ h => h) hown hK.1 hP q he hc j hN (am_word hK hw rfl rfl args) (fun _ h => h) (am_fs_r ad (M k) fl 0 j z hj) hdg (kk l D cyI cyZ p e s m args below meth c A H locs ls hX hA hl hP hD hS)
theorem am_put_ok {cyI cyZ : ClassId} {A : Nat → Prop} {q k j ci : Nat} {v : Int32} {fl : List (Option Nat)} (hq : I[q]? = some k) (hs : am_shp k = .inl (ci, fl)) (hj : fl[j]? = some none) (hD0 : va_D A (am_w I cyI cyZ ad M)) : (am_w I cyI cyZ ad M).set q (ad k, .inr (ci, (am_fs ad (M k) 0 fl).set j (.int v))) = am_w I cyI cyZ ad (am_put M k j v) := by
  rw [← am_w_set (M' := am_put M k j v) hD0 hq (fun a ha => by simp [am_put, ha])]
  have e : am_cell cyI cyZ ad (am_put M k j v) k = .inr (ci, am_fs ad (upd (M k) j v) 0 fl) := by simp [am_cell, hs, am_put]
  rw [e, am_fs_set ad (M k) v fl 0 j hj, Nat.zero_add]
theorem am_puti {v : Int32} {ty : FieldType} {tyf : Nat → FieldType} {k j ci index N : Nat} {C : String} {T : u_T} {fl : List (Option Nat)} (hk : k ∈ I) (hs : am_shp k = .inl (ci, fl)) (hj : fl[j]? = some none) (hc : vwCl[ci]? = some (C, T, N)) (hT : ∀ w ∈ u_ws C T N, w ∈ lw_tbl ∧ goodWord w = true) (hty : ∀ k, k < N → parseFieldDescriptor (T k).2.2.1 = some (tyf k)) (hnm : ∀ a, a < N → ∀ b, b < N → a ≠ b → (T a).2.1 ≠ (T b).2.1) (hN : j < N) (hw : Cond.fieldLink Y.1.cls index (T j).1 (T j).2.1 (T j).2.2.1 ∈ lw_tbl) (hfin : (T j).2.2.2 = false) (htyj : tyf j = ty) (hn : narrow ty (.int v) = .int v) (hfit : fits ty (.int v) = true) (hdg : decode Y.2.1 pc = .ok (.putfield index, 3)) (kk : am_W Y ad I P (pc + 3) L st (am_put M k j v)) : am_W Y ad I P pc L (.int v :: .ref (ad k) :: st) M := by
  intro l D cyI cyZ p e s m args below meth c A H locs ls hX hA hl hP hD hS
  obtain ⟨hx, hb, hr, hml, hown, hlk, hK⟩ := id hX
  obtain ⟨q, hq⟩ := List.getElem?_of_mem hk
  have he : (am_w I cyI cyZ ad M)[q]? = some (ad k, .inr (ci, am_fs ad (M k) 0 fl)) := by rw [am_w_get hq, am_cell, hs]
  refine va_put hx hb (hK.cls hT args) (fun _ h => h) tyf hty hnm hown hK.1 hP hD hS q he hc j hN (am_word hK hw rfl rfl args) (fun _ h => h) hfin (ty := ty) (by rw [hty j hN, htyj]) hn hfit ?_ hdg (fun H1 locs1 hP1 hD1 hS1 => ?_)
  · rw [am_fs_len]
    exact (List.getElem?_eq_some_iff.mp hj).1
  · have e9 := am_put_ok (v := v) hq hs hj hD
    rw [e9] at hP1 hD1
    exact kk l D cyI cyZ p e s m args below meth c A H1 locs1 ls hX hA hl hP1 hD1 hS1
theorem am_arr {cyI cyZ : ClassId} {q k n : Nat} {z : Bool} (hq : I[q]? = some k) (hs : am_shp k = .inr (z, n)) : (am_w I cyI cyZ ad M)[q]? = some (ad k, .inl (if z = true then cyZ else cyI, n, .inl (M k))) := by rw [am_w_get hq, am_cell, hs]
theorem am_iald {k n : Nat} {i : Int32} (hk : k ∈ I) (hs : am_shp k = .inr (false, n)) (hin : vp_in i n) (hdg : decode Y.2.1 pc = .ok (.iaload, 1)) (kk : am_W Y ad I P (pc + 1) L (.int (M k i.toNatClampNeg) :: st) M) : am_W Y ad I P pc L (.int i :: .ref (ad k) :: st) M := by
  intro l D cyI cyZ p e s m args below meth c A H locs ls hX hA hl hP hD hS
  obtain ⟨hx, hb, hr, hml, hown, hlk, hK⟩ := id hX
  obtain ⟨q, hq⟩ := List.getElem?_of_mem hk
  exact va_iald hx hb hK.1 hP q 0 (am_arr hq hs) rfl hin hdg (kk l D cyI cyZ p e s m args below meth c A H locs ls hX hA hl hP hD hS)
theorem am_zald {k n : Nat} {i : Int32} (hk : k ∈ I) (hs : am_shp k = .inr (true, n)) (hin : vp_in i n) (hdg : decode Y.2.1 pc = .ok (.baload, 1)) (kk : am_W Y ad I P (pc + 1) L (.int (M k i.toNatClampNeg) :: st) M) : am_W Y ad I P pc L (.int i :: .ref (ad k) :: st) M := by
  intro l D cyI cyZ p e s m args below meth c A H locs ls hX hA hl hP hD hS
  obtain ⟨hx, hb, hr, hml, hown, hlk, hK⟩ := id hX
  obtain ⟨q, hq⟩ := List.getElem?_of_mem hk
  exact va_zald hx hb hK.1 hP q 1 (am_arr hq hs) rfl hin hdg (kk l D cyI cyZ p e s m args below meth c A H locs ls hX hA hl hP hD hS)
theorem am_ast_ok {cyI cyZ : ClassId} {A : Nat → Prop} {q k n j : Nat} {z : Bool} {v : Int32} (hq : I[q]? = some k) (hs : am_shp k = .inr (z, n)) (hD0 : va_D A (am_w I cyI cyZ ad M)) : (am_w I cyI cyZ ad M).set q (ad k, .inl (if z = true then cyZ else cyI, n, .inl (upd (M k) j v))) = am_w I cyI cyZ ad (am_put M k j v) := by
  rw [← am_w_set (M' := am_put M k j v) hD0 hq (fun a ha => by simp [am_put, ha])]
  have e : am_cell cyI cyZ ad (am_put M k j v) k = .inl (if z = true then cyZ else cyI, n, .inl (upd (M k) j v)) := by simp [am_cell, hs, am_put]
  rw [e]
theorem am_iast {k n : Nat} {i v : Int32} (hk : k ∈ I) (hs : am_shp k = .inr (false, n)) (hin : vp_in i n) (hdg : decode Y.2.1 pc = .ok (.iastore, 1)) (kk : am_W Y ad I P (pc + 1) L st (am_put M k i.toNatClampNeg v)) : am_W Y ad I P pc L (.int v :: .int i :: .ref (ad k) :: st) M := by
  intro l D cyI cyZ p e s m args below meth c A H locs ls hX hA hl hP hD hS
  obtain ⟨hx, hb, hr, hml, hown, hlk, hK⟩ := id hX
  obtain ⟨q, hq⟩ := List.getElem?_of_mem hk
  refine va_iast hx hb hK.1 hP hD hS q 0 (am_arr hq hs) rfl hin hdg (fun H1 locs1 hP1 hD1 hS1 => ?_)
  have e := am_ast_ok (j := i.toNatClampNeg) (v := v) hq hs hD
  rw [e] at hP1 hD1
  exact kk l D cyI cyZ p _ s m args below meth c A H1 locs1 ls hX hA hl hP1 hD1 hS1
theorem am_zast {k n : Nat} {i v : Int32} (hk : k ∈ I) (hs : am_shp k = .inr (true, n)) (hin : vp_in i n) (hv : vp_nar .boolean v = v) (hdg : decode Y.2.1 pc = .ok (.bastore, 1)) (kk : am_W Y ad I P (pc + 1) L st (am_put M k i.toNatClampNeg v)) : am_W Y ad I P pc L (.int v :: .int i :: .ref (ad k) :: st) M := by
  intro l D cyI cyZ p e s m args below meth c A H locs ls hX hA hl hP hD hS
  obtain ⟨hx, hb, hr, hml, hown, hlk, hK⟩ := id hX
  obtain ⟨q, hq⟩ := List.getElem?_of_mem hk
  refine va_zast hx hb hK.1 hP hD hS q 1 (am_arr hq hs) rfl hin hdg (fun H1 locs1 hP1 hD1 hS1 => ?_)
  rw [hv] at hP1 hD1
  have e := am_ast_ok (j := i.toNatClampNeg) (v := v) hq hs hD
  rw [e] at hP1 hD1
  exact kk l D cyI cyZ p _ s m args below meth c A H1 locs1 ls hX hA hl hP1 hD1 hS1
theorem am_alen {k n : Nat} {z : Bool} {v : Int32} (hk : k ∈ I) (hs : am_shp k = .inr (z, n)) (hv : Int32.ofNat n = v) (hdg : decode Y.2.1 pc = .ok (.arraylength, 1)) (kk : am_W Y ad I P (pc + 1) L (.int v :: st) M) : am_W Y ad I P pc L (.ref (ad k) :: st) M := by
  intro l D cyI cyZ p e s m args below meth c A H locs ls hX hA hl hP hD hS
  obtain ⟨hx, hb, hr, hml, hown, hlk, hK⟩ := id hX
  obtain ⟨q, hq⟩ := List.getElem?_of_mem hk
  cases z with
  | false => exact va_alen hx hb hK.1 hP q 0 (am_arr hq hs) (ty := .int) rfl hv hdg (kk l D cyI cyZ p e s m args below meth c A H locs ls hX hA hl hP hD hS)
  | true => exact va_alen hx hb hK.1 hP q 1 (am_arr hq hs) (ty := .boolean) rfl hv hdg (kk l D cyI cyZ p e s m args below meth c A H locs ls hX hA hl hP hD hS)
theorem am_iret {v : Int32} (hret : Y.2.2.2.1 = some .int) (hdg : decode Y.2.1 pc = .ok (.ireturn, 1)) (hp : P (some (.int v)) M) : am_W Y ad I P pc L [.int v] M := by
  intro l D cyI cyZ p e s m args below meth c A H locs ls hX hA hl hP hD hS
  obtain ⟨hx, hb, hr, hml, hown, hlk, hK⟩ := id hX
  exact W.iret hx hb (hr.trans hret) (fun t ht hW => ⟨⟨_, M, rfl, hp, by rw [ht]; exact hP, hK.moved hW, hD⟩, hS.F ht⟩) hS.2.2 hdg hlk
theorem am_zret {v : Int32} (hret : Y.2.2.2.1 = some .boolean) (hn : narrow .boolean (.int v) = .int v) (hdg : decode Y.2.1 pc = .ok (.ireturn, 1)) (hp : P (some (.int v)) M) : am_W Y ad I P pc L [.int v] M := by
  intro l D cyI cyZ p e s m args below meth c A H locs ls hX hA hl hP hD hS
  obtain ⟨hx, hb, hr, hml, hown, hlk, hK⟩ := id hX
  exact W.zret hx hb (hr.trans hret) hn (fun t ht hW => ⟨⟨_, M, rfl, hp, by rw [ht]; exact hP, hK.moved hW, hD⟩, hS.F ht⟩) hS.2.2 hdg hlk
theorem am_vret (hret : Y.2.2.2.1 = none) (hdg : decode Y.2.1 pc = .ok (.return_, 1)) (hp : P none M) : am_W Y ad I P pc L [] M := by
  intro l D cyI cyZ p e s m args below meth c A H locs ls hX hA hl hP hD hS
  obtain ⟨hx, hb, hr, hml, hown, hlk, hK⟩ := id hX
  exact W.vret hx hb (hr.trans hret) (fun t ht hW => ⟨⟨_, M, rfl, hp, by rw [ht]; exact hP, hK.moved hW, hD⟩, hS.F ht⟩) hS.2.2 hdg hlk
theorem am_aret {v : Value} {cn : String} (hret : Y.2.2.2.1 = some (.object cn)) (hv : v = .null ∨ ∃ a, v = .ref a) (hdg : decode Y.2.1 pc = .ok (.areturn, 1)) (hp : P (some v) M) : am_W Y ad I P pc L [v] M := by
  intro l D cyI cyZ p e s m args below meth c A H locs ls hX hA hl hP hD hS
  obtain ⟨hx, hb, hr, hml, hown, hlk, hK⟩ := id hX
  exact W.aret hx hb (hr.trans hret) (Or.inl ⟨_, rfl⟩) hv (fun t ht hW => ⟨⟨_, M, rfl, hp, by rw [ht]; exact hP, hK.moved hW, hD⟩, hS.F ht⟩) hS.2.2 hdg hlk
theorem am_mabs {index : Nat} {x : Int32} (hlink : Cond.methodLink Y.1.cls index Lib.Math.abs.name ∈ lw_tbl) (hstat : Cond.static Lib.Math.abs.name ∈ lw_tbl) (hini : Cond.initialized "java/lang/Math" ∈ lw_tbl) (hcode : Cond.code Lib.Math.abs.name Lib.Math.abs.code 1 (some .int) ∈ lw_tbl) (hf : 1 ≤ Y.2.2.2.2.1) (hlc : (st.map fun v => v.category).sum + 13 ≤ Y.2.2.2.2.2) (hdg : decode Y.2.1 pc = .ok (.invokestatic index, 3)) (kk : am_W Y ad I P (pc + 3) L (.int (if 0 ≤ x then x else 0 - x) :: st) M) : am_W Y ad I P pc L (.int x :: st) M := by
  intro l D cyI cyZ p e s m args below meth c A H locs ls hX hA hl hP hD hS
  obtain ⟨hx, hb, hr, hml, hown, hlk, hK⟩ := id hX
  exact va_mabs hx hb (hml.trans hl.1.symm) hown (am_word hK hlink rfl rfl _) (am_word hK hstat rfl rfl _) (am_word hK hini rfl rfl _) (am_word hK hcode rfl rfl _) hf hlc (Nat.zero_le _) (Nat.zero_le _) hdg (kk l D cyI cyZ p e s m args below meth c A H locs ls hX hA hl hP hD hS)
theorem am_mmax {index : Nat} {x y : Int32} (hlink : Cond.methodLink Y.1.cls index Lib.Math.max.name ∈ lw_tbl) (hstat : Cond.static Lib.Math.max.name ∈ lw_tbl) (hini : Cond.initialized "java/lang/Math" ∈ lw_tbl) (hcode : Cond.code Lib.Math.max.name Lib.Math.max.code 2 (some .int) ∈ lw_tbl) (hf : 1 ≤ Y.2.2.2.2.1) (hlc : (st.map fun v => v.category).sum + 13 ≤ Y.2.2.2.2.2) (hdg : decode Y.2.1 pc = .ok (.invokestatic index, 3)) (kk : am_W Y ad I P (pc + 3) L (.int (if x < y then y else x) :: st) M) : am_W Y ad I P pc L (.int y :: .int x :: st) M := by
  intro l D cyI cyZ p e s m args below meth c A H locs ls hX hA hl hP hD hS
  obtain ⟨hx, hb, hr, hml, hown, hlk, hK⟩ := id hX
  exact va_mmax hx hb (hml.trans hl.1.symm) hown (am_word hK hlink rfl rfl _) (am_word hK hstat rfl rfl _) (am_word hK hini rfl rfl _) (am_word hK hcode rfl rfl _) hf hlc (Nat.zero_le _) (Nat.zero_le _) hdg (kk l D cyI cyZ p e s m args below meth c A H locs ls hX hA hl hP hD hS)
theorem am_mmin {index : Nat} {x y : Int32} (hlink : Cond.methodLink Y.1.cls index Lib.Math.min.name ∈ lw_tbl) (hstat : Cond.static Lib.Math.min.name ∈ lw_tbl) (hini : Cond.initialized "java/lang/Math" ∈ lw_tbl) (hcode : Cond.code Lib.Math.min.name Lib.Math.min.code 2 (some .int) ∈ lw_tbl) (hf : 1 ≤ Y.2.2.2.2.1) (hlc : (st.map fun v => v.category).sum + 13 ≤ Y.2.2.2.2.2) (hdg : decode Y.2.1 pc = .ok (.invokestatic index, 3)) (kk : am_W Y ad I P (pc + 3) L (.int (if y < x then y else x) :: st) M) : am_W Y ad I P pc L (.int y :: .int x :: st) M := by
  intro l D cyI cyZ p e s m args below meth c A H locs ls hX hA hl hP hD hS
  obtain ⟨hx, hb, hr, hml, hown, hlk, hK⟩ := id hX
  exact va_mmin hx hb (hml.trans hl.1.symm) hown (am_word hK hlink rfl rfl _) (am_word hK hstat rfl rfl _) (am_word hK hini rfl rfl _) (am_word hK hcode rfl rfl _) hf hlc (Nat.zero_le _) (Nat.zero_le _) hdg (kk l D cyI cyZ p e s m args below meth c A H locs ls hX hA hl hP hD hS)
theorem am_cont {p : Program} {l : Launch} {e : Env} {R : Jvm.Room} {s : State} {m : MethodId} {args a : Array Value} {below : List Frame} {meth : Method} {c : Code} {H : Heap} {locs : List Loc} {ls : Array Slot} {st0 rest : List Value} {Q : State → Prop} {D : va_G} {cyI cyZ : ClassId} {P' : Option Value → am_M → Prop} {A : Nat → Prop}
    (hr : va_Run p l e R s m args below meth c H locs 0 0 0 0 (F0 m pc ls st0) rest (am_Q D cyI cyZ ad I P' (va_A (am_w I cyI cyZ ad M) H.size) a) (va_A (am_w I cyI cyZ ad M) H.size))
    (hD : va_D A (am_w I cyI cyZ ad M)) (hS : va_S A s.heap H locs) (hA : ∀ q : Nat, s.heap.size ≤ q → A q)
    (kk : ∀ (r : Option Value) (M' : am_M) (H1 : Heap) (locs1 : List Loc), P' r M' → va_P D vwCl (am_w I cyI cyZ ad M') H1 → va_D A (am_w I cyI cyZ ad M') → va_S A s.heap H1 locs1 → W p l e R s m args below meth c H1 locs1 0 0 Q (F0 m (pc + 3) ls (r.toList ++ rest))) : W p l e R s m args below meth c H locs 0 0 Q (F0 m pc ls st0) := by
  intro T hT X
  obtain ⟨v, st₀, t, T', L9, h0, X', hL, e1, e2, ⟨⟨r, M', hv, hp, hP1, hK1, hD1⟩, hz, hk⟩, sg⟩ := hr T hT X
  cases hv
  rw [h0] at hz hk
  have hAA : ∀ q : Nat, va_A (am_w I cyI cyZ ad M) H.size q → A q := fun q h => by
    rcases h with ⟨k9, e9, h⟩ | h
    · exact hD.2 k9 _ h
    · exact hA q (Nat.le_trans hS.1 h)
  obtain ⟨t2, a1, b1⟩ := kk v M' T'.heap (locs ++ L9) hp (by rw [e1]; exact hP1) (hD1.weaken (fun _ _ _ h => hAA _ h))
    ⟨Nat.le_trans hS.1 (by rw [e1]; exact hz), fun q h1 h2 => by rw [e1, hk q (Nat.lt_of_lt_of_le h1 hS.1) (fun z => h2 (hAA q z))]; exact hS.2.1 q h1 h2, fun q hq => by
      rcases List.mem_append.mp hq with h | h
      · exact hS.2.2 q h
      · exact hAA _ (hL q h)⟩ T' rfl X'
  exact ⟨t2, sg t2 a1, b1⟩
/-- what a callee needs of the tables: n arguments; instance methods, static methods -/
def am_okV (Y' : am_Y) (n : Nat) : Prop := (Cond.selects Y'.1.cls Y'.1 Y'.1 ∈ lw_tbl ∧ Cond.instanceMethod Y'.1 ∈ lw_tbl) ∧ Cond.initialized Y'.1.cls ∈ lw_tbl ∧ Cond.code Y'.1 Y'.2.1 Y'.2.2.1 Y'.2.2.2.1 ∈ lw_tbl ∧ (Y'.1.cls ≠ "java/lang/invoke/MethodHandle" ∧ Y'.1.cls ≠ "java/lang/invoke/VarHandle" ∧ (parseMethodDescriptor Y'.1.desc).map (fun d => d.parameters.length) = some n)
def am_okS (Y' : am_Y) (n : Nat) : Prop := Cond.static Y'.1 ∈ lw_tbl ∧ Cond.initialized Y'.1.cls ∈ lw_tbl ∧ Cond.code Y'.1 Y'.2.1 Y'.2.2.1 Y'.2.2.2.1 ∈ lw_tbl ∧ (Y'.1.cls ≠ "java/lang/invoke/MethodHandle" ∧ Y'.1.cls ≠ "java/lang/invoke/VarHandle" ∧ (parseMethodDescriptor Y'.1.desc).map (fun d => d.parameters.length) = some n)
theorem am_pay {Y' : am_Y} {D : va_G} {cyI cyZ : ClassId} {s : State} (hK : am_K D cyI cyZ s) (hc : Cond.code Y'.1 Y'.2.1 Y'.2.2.1 Y'.2.2.2.1 ∈ lw_tbl) : ∀ w ∈ [Cond.code Y'.1 Y'.2.1 Y'.2.2.1 Y'.2.2.2.1], ∀ (a' : Array Value) (U : State), s.WarmedH U.vm → w.before a' U = true := by
  intro w hw a' U hW
  rw [List.mem_singleton] at hw
  subst hw
  exact word_at hW (Or.inl rfl) (hK.2.1 _ hc rfl)
theorem am_lens {Y' : am_Y} {n : Nat} (h : (parseMethodDescriptor Y'.1.desc).map (fun d => d.parameters.length) = some n) : ∀ sig, parseMethodDescriptor Y'.1.desc = some sig → n = sig.parameters.length := by
  intro sig h1
  rw [h1] at h
  exact (Option.some.inj h).symm
theorem am_blind {As : List Value} {sz : Nat} {D : va_G} {cyI cyZ : ClassId} : FrameBlind (va_Pc As (fun U => U.heap.size = sz ∧ va_P D vwCl (am_w I cyI cyZ ad M) U.heap ∧ am_K D cyI cyZ U ∧ va_D (fun _ => True) (am_w I cyI cyZ ad M))) := by
  intro a U g mk q
  obtain ⟨q0, q1, qP, qK, qD⟩ := q
  exact ⟨q0, q1, qP, ⟨va_K.moved (u := U) (U := U.calling g mk a) (Vm.Alike.refl U.vm) qK.1, fun w hw hg => by
    have h1 := qK.2.1 w hw hg
    rcases good_of_word hg with h | ⟨ty, rfl⟩
    · exact va_tabs (u := U) (U := U.calling g mk a) (by simp only [Bool.and_eq_true] at h; exact h.1) rfl h1
    · exact word_at (s := U) (U := U.calling g mk a) (State.WarmedH.refl U) (Or.inr ⟨ty, rfl⟩) h1, fun w hw => va_Nw.same (u := U) (U := U.calling g mk a) (am_nst_on w hw) rfl (qK.2.2 w hw)⟩, qD⟩
theorem am_callV {Y' : am_Y} {P' : Option Value → am_M → Prop} {As rest : List Value} {index n : Nat} {k ci N : Nat} {T : u_T} {fl : List (Option Nat)} (hM : am_C Y' ad I (.ref (ad k) :: As) M P') (ok : am_okV Y' n) (hlink : Cond.methodLink Y.1.cls index Y'.1 ∈ lw_tbl) (hk : k ∈ I) (hs : am_shp k = .inl (ci, fl)) (hc : vwCl[ci]? = some (Y'.1.cls, T, N)) (hn : As.length = n) (hR : Y'.2.2.2.2.1 + 1 ≤ Y.2.2.2.2.1 ∧ 8 + (Y'.2.2.1 + 11) + Y'.2.2.2.2.2 ≤ Y.2.2.2.2.2) (hW8 : (rest.map fun v => v.category).sum ≤ 8) {st0 : List Value} (hst : st0 = As.reverse ++ .ref (ad k) :: rest) (hdg : decode Y.2.1 pc = .ok (.invokevirtual index, 3)) (kk : ∀ r M', P' r M' → am_W Y ad I P (pc + 3) L (r.toList ++ rest) M') : am_W Y ad I P pc L st0 M := by
  intro l D cyI cyZ p e s m args below meth c A H locs ls hX hA hl hP hD hS
  obtain ⟨hx, hb, hr, hml, hown, hlk, hK⟩ := id hX
  subst hst
  obtain ⟨⟨ok1, ok2⟩, ok3, ok4, ok5, ok6, ok7⟩ := ok
  obtain ⟨q, hq⟩ := List.getElem?_of_mem hk
  have he : (am_w I cyI cyZ ad M)[q]? = some (ad k, .inr (ci, am_fs ad (M k) 0 fl)) := by rw [am_w_get hq, am_cell, hs]
  exact am_cont (va_runV (As := As) (rest := rest) (Ts := []) ⟨hx, hb, hml, hown, fun w h => absurd h List.not_mem_nil⟩ (hM l D cyI cyZ H.size) ⟨⟨rfl, rfl, hR.1, hR.2, am_pay hK ok4, List.mem_cons_self, am_word hK ok4 rfl rfl _, am_word hK ok3 rfl rfl _, ⟨ok5, ok6⟩, am_lens ok7, am_word hK hlink rfl rfl _⟩, am_word hK ok2 rfl rfl _, am_word hK ok1 rfl rfl _⟩ ⟨am_blind, va_recv hK.1 hP hc he, (fun U hU hW => ⟨rfl, by rw [hU], by rw [hU]; exact hP, hK.moved hW, hD.weaken (fun _ _ _ _ => trivial)⟩)⟩ rfl hn hl.1 rfl (lv_room hW8) hdg ⟨Nat.zero_le _, Nat.zero_le _⟩) hD hS hA (fun r M' H1 locs1 hp hP1 hD1 hS1 => kk r M' hp l D cyI cyZ p e s m args below meth c A H1 locs1 ls hX hA hl hP1 hD1 hS1)
theorem am_callS {Y' : am_Y} {P' : Option Value → am_M → Prop} {As rest : List Value} {index n : Nat} (hM : am_C Y' ad I As M P') (ok : am_okS Y' n) (hlink : Cond.methodLink Y.1.cls index Y'.1 ∈ lw_tbl) (hn : As.length = n) (hR : Y'.2.2.2.2.1 + 1 ≤ Y.2.2.2.2.1 ∧ 8 + (Y'.2.2.1 + 11) + Y'.2.2.2.2.2 ≤ Y.2.2.2.2.2) (hW8 : (rest.map fun v => v.category).sum ≤ 8) {st0 : List Value} (hst : st0 = As.reverse ++ rest) (hdg : decode Y.2.1 pc = .ok (.invokestatic index, 3)) (kk : ∀ r M', P' r M' → am_W Y ad I P (pc + 3) L (r.toList ++ rest) M') : am_W Y ad I P pc L st0 M := by
  intro l D cyI cyZ p e s m args below meth c A H locs ls hX hA hl hP hD hS
  obtain ⟨hx, hb, hr, hml, hown, hlk, hK⟩ := id hX
  subst hst
  obtain ⟨ok1, ok3, ok4, ok5, ok6, ok7⟩ := ok
  exact am_cont (va_runS (As := As) (rest := rest) (Ts := []) ⟨hx, hb, hml, hown, fun w h => absurd h List.not_mem_nil⟩ (hM l D cyI cyZ H.size) ⟨⟨rfl, rfl, hR.1, hR.2, am_pay hK ok4, List.mem_cons_self, am_word hK ok4 rfl rfl _, am_word hK ok3 rfl rfl _, ⟨ok5, ok6⟩, am_lens ok7, am_word hK hlink rfl rfl _⟩, am_word hK ok1 rfl rfl _⟩ ⟨am_blind, (fun U hU hW => ⟨rfl, by rw [hU], by rw [hU]; exact hP, hK.moved hW, hD.weaken (fun _ _ _ _ => trivial)⟩)⟩ rfl hn hl.1 rfl (lv_room hW8) hdg ⟨Nat.zero_le _, Nat.zero_le _⟩) hD hS hA (fun r M' H1 locs1 hp hP1 hD1 hS1 => kk r M' hp l D cyI cyZ p e s m args below meth c A H1 locs1 ls hX hA hl hP1 hD1 hS1)
theorem am_callN {Y' : am_Y} {P' : Option Value → am_M → Prop} {As rest : List Value} {index n : Nat} {host : String} (hM : am_C Y' ad I As M P') (ok : am_okS Y' n) (hlink : Cond.methodLinkNest Y.1.cls index Y'.1 host ∈ am_nst) (hn : As.length = n) (hR : Y'.2.2.2.2.1 + 1 ≤ Y.2.2.2.2.1 ∧ 8 + (Y'.2.2.1 + 11) + Y'.2.2.2.2.2 ≤ Y.2.2.2.2.2) (hW8 : (rest.map fun v => v.category).sum ≤ 8) {st0 : List Value} (hst : st0 = As.reverse ++ rest) (hdg : decode Y.2.1 pc = .ok (.invokestatic index, 3)) (kk : ∀ r M', P' r M' → am_W Y ad I P (pc + 3) L (r.toList ++ rest) M') : am_W Y ad I P pc L st0 M := by
  intro l D cyI cyZ p e s m args below meth c A H locs ls hX hA hl hP hD hS
  obtain ⟨hx, hb, hr, hml, hown, hlk, hK⟩ := id hX
  subst hst
  obtain ⟨ok1, ok3, ok4, ok5, ok6, ok7⟩ := ok
  exact am_cont (va_runSN (As := As) (rest := rest) (Ts := []) ⟨hx, hb, hml, hown, fun w h => absurd h List.not_mem_nil⟩ (hM l D cyI cyZ H.size) ⟨⟨⟨rfl, rfl, hR.1, hR.2, am_pay hK ok4, List.mem_cons_self⟩, am_word hK ok4 rfl rfl _, am_word hK ok3 rfl rfl _, ⟨ok5, ok6⟩, am_lens ok7, va_Nw.use rfl (hK.2.2 _ hlink)⟩, am_word hK ok1 rfl rfl _, trivial⟩ ⟨am_blind, (fun U hU hW => ⟨rfl, by rw [hU], by rw [hU]; exact hP, hK.moved hW, hD.weaken (fun _ _ _ _ => trivial)⟩)⟩ rfl hn hl.1 rfl (lv_room hW8) hdg ⟨Nat.zero_le _, Nat.zero_le _⟩) hD hS hA (fun r M' H1 locs1 hp hP1 hD1 hS1 => kk r M' hp l D cyI cyZ p e s m args below meth c A H1 locs1 ls hX hA hl hP1 hD1 hS1)
theorem am_oinit {index v : Nat} (hlink : Cond.methodLink Y.1.cls index Lib.objectInit ∈ lw_tbl) (hinst : Cond.instanceMethod Lib.objectInit ∈ lw_tbl) (hcode : Cond.code Lib.objectInit ⟨#[0xb1]⟩ 1 none ∈ lw_tbl) (hf : 1 ≤ Y.2.2.2.2.1) (hlc : (st.map fun v => v.category).sum + 12 ≤ Y.2.2.2.2.2) (hdg : decode Y.2.1 pc = .ok (.invokespecial index, 3)) (kk : am_W Y ad I P (pc + 3) L st M) : am_W Y ad I P pc L (.ref v :: st) M := by
  intro l D cyI cyZ p e s m args below meth c A H locs ls hX hA hl hP hD hS
  obtain ⟨hx, hb, hr, hml, hown, hlk, hK⟩ := id hX
  refine W.objInit hx hb hown (am_word hK hlink rfl rfl _) (am_word hK hinst rfl rfl _) (am_word hK hcode rfl rfl _) rfl (hl.1.trans hml.symm) rfl hdg hf (by show 2 * 0 + _ + 12 ≤ _; rw [Nat.mul_zero, Nat.zero_add]; exact hlc) ?_
  exact kk l D cyI cyZ p e s m args below meth c A H locs ls hX hA hl hP hD hS
end AMR
end
section
theorem dX0_init_0 : decode cX0_init 0 = .ok (.aload_n 0, 1) := by decide +kernel
theorem dX0_init_1 : decode cX0_init 1 = .ok (.invokespecial 1, 3) := by decide +kernel
theorem dX0_init_4 : decode cX0_init 4 = .ok (.aload_n 0, 1) := by decide +kernel
theorem dX0_init_5 : decode cX0_init 5 = .ok (.iconst 0, 1) := by decide +kernel
theorem dX0_init_6 : decode cX0_init 6 = .ok (.putfield 7, 3) := by decide +kernel
theorem dX0_init_9 : decode cX0_init 9 = .ok (.aload_n 0, 1) := by decide +kernel
theorem dX0_init_10 : decode cX0_init 10 = .ok (.iconst 0, 1) := by decide +kernel
theorem dX0_init_11 : decode cX0_init 11 = .ok (.putfield 13, 3) := by decide +kernel
theorem dX0_init_14 : decode cX0_init 14 = .ok (.aload_n 0, 1) := by decide +kernel
theorem dX0_init_15 : decode cX0_init 15 = .ok (.iconst 0, 1) := by decide +kernel
theorem dX0_init_16 : decode cX0_init 16 = .ok (.putfield 16, 3) := by decide +kernel
theorem dX0_init_19 : decode cX0_init 19 = .ok (.aload_n 0, 1) := by decide +kernel
theorem dX0_init_20 : decode cX0_init 20 = .ok (.iconst 0, 1) := by decide +kernel
theorem dX0_init_21 : decode cX0_init 21 = .ok (.putfield 20, 3) := by decide +kernel
theorem dX0_init_24 : decode cX0_init 24 = .ok (.aload_n 0, 1) := by decide +kernel
theorem dX0_init_25 : decode cX0_init 25 = .ok (.iconst 0, 1) := by decide +kernel
theorem dX0_init_26 : decode cX0_init 26 = .ok (.putfield 23, 3) := by decide +kernel
theorem dX0_init_29 : decode cX0_init 29 = .ok (.aload_n 0, 1) := by decide +kernel
theorem dX0_init_30 : decode cX0_init 30 = .ok (.iconst 0, 1) := by decide +kernel
theorem dX0_init_31 : decode cX0_init 31 = .ok (.putfield 26, 3) := by decide +kernel
theorem dX0_init_34 : decode cX0_init 34 = .ok (.return_, 1) := by decide +kernel
theorem dX0_start_0 : decode cX0_start 0 = .ok (.aload_n 0, 1) := by decide +kernel
theorem dX0_start_1 : decode cX0_start 1 = .ok (.iload_n 1, 1) := by decide +kernel
theorem dX0_start_2 : decode cX0_start 2 = .ok (.putfield 23, 3) := by decide +kernel
theorem dX0_start_5 : decode cX0_start 5 = .ok (.aload_n 0, 1) := by decide +kernel
theorem dX0_start_6 : decode cX0_start 6 = .ok (.iconst 0, 1) := by decide +kernel
theorem dX0_start_7 : decode cX0_start 7 = .ok (.putfield 26, 3) := by decide +kernel
theorem dX0_start_10 : decode cX0_start 10 = .ok (.return_, 1) := by decide +kernel
theorem dX0_follow_0 : decode cX0_follow 0 = .ok (.aload_n 0, 1) := by decide +kernel
theorem dX0_follow_1 : decode cX0_follow 1 = .ok (.iload_n 1, 1) := by decide +kernel
theorem dX0_follow_2 : decode cX0_follow 2 = .ok (.iload_n 2, 1) := by decide +kernel
theorem dX0_follow_3 : decode cX0_follow 3 = .ok (.invokevirtual 29, 3) := by decide +kernel
theorem dX0_follow_6 : decode cX0_follow 6 = .ok (.istore 4, 2) := by decide +kernel
theorem dX0_follow_8 : decode cX0_follow 8 = .ok (.aload_n 0, 1) := by decide +kernel
theorem dX0_follow_9 : decode cX0_follow 9 = .ok (.dup, 1) := by decide +kernel
theorem dX0_follow_10 : decode cX0_follow 10 = .ok (.getfield 7, 3) := by decide +kernel
theorem dX0_follow_13 : decode cX0_follow 13 = .ok (.iload 4, 2) := by decide +kernel
theorem dX0_follow_15 : decode cX0_follow 15 = .ok (.aload_n 0, 1) := by decide +kernel
theorem dX0_follow_16 : decode cX0_follow 16 = .ok (.getfield 26, 3) := by decide +kernel
theorem dX0_follow_19 : decode cX0_follow 19 = .ok (.isub, 1) := by decide +kernel
theorem dX0_follow_20 : decode cX0_follow 20 = .ok (.iadd, 1) := by decide +kernel
theorem dX0_follow_21 : decode cX0_follow 21 = .ok (.putfield 7, 3) := by decide +kernel
theorem dX0_follow_24 : decode cX0_follow 24 = .ok (.iload_n 3, 1) := by decide +kernel
theorem dX0_follow_25 : decode cX0_follow 25 = .ok (.ifCond .eq 19, 3) := by decide +kernel
theorem dX0_follow_28 : decode cX0_follow 28 = .ok (.aload_n 0, 1) := by decide +kernel
theorem dX0_follow_29 : decode cX0_follow 29 = .ok (.dup, 1) := by decide +kernel
theorem dX0_follow_30 : decode cX0_follow 30 = .ok (.getfield 13, 3) := by decide +kernel
theorem dX0_follow_33 : decode cX0_follow 33 = .ok (.iload 4, 2) := by decide +kernel
theorem dX0_follow_35 : decode cX0_follow 35 = .ok (.aload_n 0, 1) := by decide +kernel
theorem dX0_follow_36 : decode cX0_follow 36 = .ok (.getfield 26, 3) := by decide +kernel
theorem dX0_follow_39 : decode cX0_follow 39 = .ok (.isub, 1) := by decide +kernel
theorem dX0_follow_40 : decode cX0_follow 40 = .ok (.iadd, 1) := by decide +kernel
theorem dX0_follow_41 : decode cX0_follow 41 = .ok (.putfield 13, 3) := by decide +kernel
theorem dX0_follow_44 : decode cX0_follow 44 = .ok (.aload_n 0, 1) := by decide +kernel
theorem dX0_follow_45 : decode cX0_follow 45 = .ok (.iload 4, 2) := by decide +kernel
theorem dX0_follow_47 : decode cX0_follow 47 = .ok (.putfield 26, 3) := by decide +kernel
theorem dX0_follow_50 : decode cX0_follow 50 = .ok (.return_, 1) := by decide +kernel
theorem dX0_goneBehind_0 : decode cX0_goneBehind 0 = .ok (.iload_n 1, 1) := by decide +kernel
theorem dX0_goneBehind_1 : decode cX0_goneBehind 1 = .ok (.iconst 1, 1) := by decide +kernel
theorem dX0_goneBehind_2 : decode cX0_goneBehind 2 = .ok (.if_icmp .ge 5, 3) := by decide +kernel
theorem dX0_goneBehind_5 : decode cX0_goneBehind 5 = .ok (.iconst 0, 1) := by decide +kernel
theorem dX0_goneBehind_6 : decode cX0_goneBehind 6 = .ok (.ireturn, 1) := by decide +kernel
theorem dX0_goneBehind_7 : decode cX0_goneBehind 7 = .ok (.iconst 2, 1) := by decide +kernel
theorem dX0_goneBehind_8 : decode cX0_goneBehind 8 = .ok (.iload_n 2, 1) := by decide +kernel
theorem dX0_goneBehind_9 : decode cX0_goneBehind 9 = .ok (.imul, 1) := by decide +kernel
theorem dX0_goneBehind_10 : decode cX0_goneBehind 10 = .ok (.aload_n 0, 1) := by decide +kernel
theorem dX0_goneBehind_11 : decode cX0_goneBehind 11 = .ok (.getfield 23, 3) := by decide +kernel
theorem dX0_goneBehind_14 : decode cX0_goneBehind 14 = .ok (.invokestatic 33, 3) := by decide +kernel
theorem dX0_goneBehind_17 : decode cX0_goneBehind 17 = .ok (.imul, 1) := by decide +kernel
theorem dX0_goneBehind_18 : decode cX0_goneBehind 18 = .ok (.iload_n 1, 1) := by decide +kernel
theorem dX0_goneBehind_19 : decode cX0_goneBehind 19 = .ok (.iadd, 1) := by decide +kernel
theorem dX0_goneBehind_20 : decode cX0_goneBehind 20 = .ok (.iconst 2, 1) := by decide +kernel
theorem dX0_goneBehind_21 : decode cX0_goneBehind 21 = .ok (.iload_n 1, 1) := by decide +kernel
theorem dX0_goneBehind_22 : decode cX0_goneBehind 22 = .ok (.imul, 1) := by decide +kernel
theorem dX0_goneBehind_23 : decode cX0_goneBehind 23 = .ok (.idiv, 1) := by decide +kernel
theorem dX0_goneBehind_24 : decode cX0_goneBehind 24 = .ok (.istore_n 3, 1) := by decide +kernel
theorem dX0_goneBehind_25 : decode cX0_goneBehind 25 = .ok (.aload_n 0, 1) := by decide +kernel
theorem dX0_goneBehind_26 : decode cX0_goneBehind 26 = .ok (.getfield 23, 3) := by decide +kernel
theorem dX0_goneBehind_29 : decode cX0_goneBehind 29 = .ok (.ifCond .ge 8, 3) := by decide +kernel
theorem dX0_goneBehind_32 : decode cX0_goneBehind 32 = .ok (.iload_n 3, 1) := by decide +kernel
theorem dX0_goneBehind_33 : decode cX0_goneBehind 33 = .ok (.ineg, 1) := by decide +kernel
theorem dX0_goneBehind_34 : decode cX0_goneBehind 34 = .ok (.goto 4, 3) := by decide +kernel
theorem dX0_goneBehind_37 : decode cX0_goneBehind 37 = .ok (.iload_n 3, 1) := by decide +kernel
theorem dX0_goneBehind_38 : decode cX0_goneBehind 38 = .ok (.ireturn, 1) := by decide +kernel
theorem dX0_putSwitch_0 : decode cX0_putSwitch 0 = .ok (.aload_n 0, 1) := by decide +kernel
theorem dX0_putSwitch_1 : decode cX0_putSwitch 1 = .ok (.iload_n 1, 1) := by decide +kernel
theorem dX0_putSwitch_2 : decode cX0_putSwitch 2 = .ok (.putfield 20, 3) := by decide +kernel
theorem dX0_putSwitch_5 : decode cX0_putSwitch 5 = .ok (.aload_n 0, 1) := by decide +kernel
theorem dX0_putSwitch_6 : decode cX0_putSwitch 6 = .ok (.iconst 1, 1) := by decide +kernel
theorem dX0_putSwitch_7 : decode cX0_putSwitch 7 = .ok (.putfield 16, 3) := by decide +kernel
theorem dX0_putSwitch_10 : decode cX0_putSwitch 10 = .ok (.return_, 1) := by decide +kernel
theorem dX0_isOn_0 : decode cX0_isOn 0 = .ok (.aload_n 0, 1) := by decide +kernel
theorem dX0_isOn_1 : decode cX0_isOn 1 = .ok (.getfield 13, 3) := by decide +kernel
theorem dX0_isOn_4 : decode cX0_isOn 4 = .ok (.aload_n 0, 1) := by decide +kernel
theorem dX0_isOn_5 : decode cX0_isOn 5 = .ok (.getfield 20, 3) := by decide +kernel
theorem dX0_isOn_8 : decode cX0_isOn 8 = .ok (.if_icmp .lt 7, 3) := by decide +kernel
theorem dX0_isOn_11 : decode cX0_isOn 11 = .ok (.iconst 1, 1) := by decide +kernel
theorem dX0_isOn_12 : decode cX0_isOn 12 = .ok (.goto 4, 3) := by decide +kernel
theorem dX0_isOn_15 : decode cX0_isOn 15 = .ok (.iconst 0, 1) := by decide +kernel
theorem dX0_isOn_16 : decode cX0_isOn 16 = .ok (.ireturn, 1) := by decide +kernel
theorem dX0_findSwitch_0 : decode cX0_findSwitch 0 = .ok (.aload_n 0, 1) := by decide +kernel
theorem dX0_findSwitch_1 : decode cX0_findSwitch 1 = .ok (.invokevirtual 39, 3) := by decide +kernel
theorem dX0_findSwitch_4 : decode cX0_findSwitch 4 = .ok (.ifCond .eq 19, 3) := by decide +kernel
theorem dX0_findSwitch_7 : decode cX0_findSwitch 7 = .ok (.aload_n 0, 1) := by decide +kernel
theorem dX0_findSwitch_8 : decode cX0_findSwitch 8 = .ok (.getfield 13, 3) := by decide +kernel
theorem dX0_findSwitch_11 : decode cX0_findSwitch 11 = .ok (.aload_n 0, 1) := by decide +kernel
theorem dX0_findSwitch_12 : decode cX0_findSwitch 12 = .ok (.getfield 20, 3) := by decide +kernel
theorem dX0_findSwitch_15 : decode cX0_findSwitch 15 = .ok (.iconst 1, 1) := by decide +kernel
theorem dX0_findSwitch_16 : decode cX0_findSwitch 16 = .ok (.isub, 1) := by decide +kernel
theorem dX0_findSwitch_17 : decode cX0_findSwitch 17 = .ok (.isub, 1) := by decide +kernel
theorem dX0_findSwitch_18 : decode cX0_findSwitch 18 = .ok (.iconst 1, 1) := by decide +kernel
theorem dX0_findSwitch_19 : decode cX0_findSwitch 19 = .ok (.iadd, 1) := by decide +kernel
theorem dX0_findSwitch_20 : decode cX0_findSwitch 20 = .ok (.goto 12, 3) := by decide +kernel
theorem dX0_findSwitch_23 : decode cX0_findSwitch 23 = .ok (.aload_n 0, 1) := by decide +kernel
theorem dX0_findSwitch_24 : decode cX0_findSwitch 24 = .ok (.getfield 20, 3) := by decide +kernel
theorem dX0_findSwitch_27 : decode cX0_findSwitch 27 = .ok (.aload_n 0, 1) := by decide +kernel
theorem dX0_findSwitch_28 : decode cX0_findSwitch 28 = .ok (.getfield 13, 3) := by decide +kernel
theorem dX0_findSwitch_31 : decode cX0_findSwitch 31 = .ok (.isub, 1) := by decide +kernel
theorem dX0_findSwitch_32 : decode cX0_findSwitch 32 = .ok (.istore_n 1, 1) := by decide +kernel
theorem dX0_findSwitch_33 : decode cX0_findSwitch 33 = .ok (.aload_n 0, 1) := by decide +kernel
theorem dX0_findSwitch_34 : decode cX0_findSwitch 34 = .ok (.aload_n 0, 1) := by decide +kernel
theorem dX0_findSwitch_35 : decode cX0_findSwitch 35 = .ok (.getfield 20, 3) := by decide +kernel
theorem dX0_findSwitch_38 : decode cX0_findSwitch 38 = .ok (.putfield 13, 3) := by decide +kernel
theorem dX0_findSwitch_41 : decode cX0_findSwitch 41 = .ok (.aload_n 0, 1) := by decide +kernel
theorem dX0_findSwitch_42 : decode cX0_findSwitch 42 = .ok (.iconst 0, 1) := by decide +kernel
theorem dX0_findSwitch_43 : decode cX0_findSwitch 43 = .ok (.putfield 7, 3) := by decide +kernel
theorem dX0_findSwitch_46 : decode cX0_findSwitch 46 = .ok (.iload_n 1, 1) := by decide +kernel
theorem dX0_findSwitch_47 : decode cX0_findSwitch 47 = .ok (.ireturn, 1) := by decide +kernel
theorem dX1_init_0 : decode cX1_init 0 = .ok (.aload_n 0, 1) := by decide +kernel
theorem dX1_init_1 : decode cX1_init 1 = .ok (.invokespecial 3, 3) := by decide +kernel
theorem dX1_init_4 : decode cX1_init 4 = .ok (.aload_n 0, 1) := by decide +kernel
theorem dX1_init_5 : decode cX1_init 5 = .ok (.iconst 4, 1) := by decide +kernel
theorem dX1_init_6 : decode cX1_init 6 = .ok (.putfield 9, 3) := by decide +kernel
theorem dX1_init_9 : decode cX1_init 9 = .ok (.aload_n 0, 1) := by decide +kernel
theorem dX1_init_10 : decode cX1_init 10 = .ok (.bipush 10, 2) := by decide +kernel
theorem dX1_init_12 : decode cX1_init 12 = .ok (.putfield 15, 3) := by decide +kernel
theorem dX1_init_15 : decode cX1_init 15 = .ok (.aload_n 0, 1) := by decide +kernel
theorem dX1_init_16 : decode cX1_init 16 = .ok (.bipush 9, 2) := by decide +kernel
theorem dX1_init_18 : decode cX1_init 18 = .ok (.newarray .int, 2) := by decide +kernel
theorem dX1_init_20 : decode cX1_init 20 = .ok (.putfield 18, 3) := by decide +kernel
theorem dX1_init_23 : decode cX1_init 23 = .ok (.aload_n 0, 1) := by decide +kernel
theorem dX1_init_24 : decode cX1_init 24 = .ok (.iconst 4, 1) := by decide +kernel
theorem dX1_init_25 : decode cX1_init 25 = .ok (.bipush 10, 2) := by decide +kernel
theorem dX1_init_27 : decode cX1_init 27 = .ok (.invokevirtual 22, 3) := by decide +kernel
theorem dX1_init_30 : decode cX1_init 30 = .ok (.return_, 1) := by decide +kernel
theorem dX1_lay_0 : decode cX1_lay 0 = .ok (.aload_n 0, 1) := by decide +kernel
theorem dX1_lay_1 : decode cX1_lay 1 = .ok (.iload_n 1, 1) := by decide +kernel
theorem dX1_lay_2 : decode cX1_lay 2 = .ok (.putfield 9, 3) := by decide +kernel
theorem dX1_lay_5 : decode cX1_lay 5 = .ok (.aload_n 0, 1) := by decide +kernel
theorem dX1_lay_6 : decode cX1_lay 6 = .ok (.iload_n 2, 1) := by decide +kernel
theorem dX1_lay_7 : decode cX1_lay 7 = .ok (.putfield 15, 3) := by decide +kernel
theorem dX1_lay_10 : decode cX1_lay 10 = .ok (.iconst 0, 1) := by decide +kernel
theorem dX1_lay_11 : decode cX1_lay 11 = .ok (.istore_n 3, 1) := by decide +kernel
theorem dX1_lay_12 : decode cX1_lay 12 = .ok (.iload_n 3, 1) := by decide +kernel
theorem dX1_lay_13 : decode cX1_lay 13 = .ok (.iload_n 1, 1) := by decide +kernel
theorem dX1_lay_14 : decode cX1_lay 14 = .ok (.if_icmp .gt 35, 3) := by decide +kernel
theorem dX1_lay_17 : decode cX1_lay 17 = .ok (.iload_n 3, 1) := by decide +kernel
theorem dX1_lay_18 : decode cX1_lay 18 = .ok (.aload_n 0, 1) := by decide +kernel
theorem dX1_lay_19 : decode cX1_lay 19 = .ok (.getfield 18, 3) := by decide +kernel
theorem dX1_lay_22 : decode cX1_lay 22 = .ok (.arraylength, 1) := by decide +kernel
theorem dX1_lay_23 : decode cX1_lay 23 = .ok (.if_icmp .ge 26, 3) := by decide +kernel
theorem dX1_lay_26 : decode cX1_lay 26 = .ok (.iload_n 1, 1) := by decide +kernel
theorem dX1_lay_27 : decode cX1_lay 27 = .ok (.ifCond .le 22, 3) := by decide +kernel
theorem dX1_lay_30 : decode cX1_lay 30 = .ok (.aload_n 0, 1) := by decide +kernel
theorem dX1_lay_31 : decode cX1_lay 31 = .ok (.getfield 18, 3) := by decide +kernel
theorem dX1_lay_34 : decode cX1_lay 34 = .ok (.iload_n 3, 1) := by decide +kernel
theorem dX1_lay_35 : decode cX1_lay 35 = .ok (.iload_n 2, 1) := by decide +kernel
theorem dX1_lay_36 : decode cX1_lay 36 = .ok (.iload_n 1, 1) := by decide +kernel
theorem dX1_lay_37 : decode cX1_lay 37 = .ok (.iload_n 3, 1) := by decide +kernel
theorem dX1_lay_38 : decode cX1_lay 38 = .ok (.isub, 1) := by decide +kernel
theorem dX1_lay_39 : decode cX1_lay 39 = .ok (.imul, 1) := by decide +kernel
theorem dX1_lay_40 : decode cX1_lay 40 = .ok (.iload_n 1, 1) := by decide +kernel
theorem dX1_lay_41 : decode cX1_lay 41 = .ok (.idiv, 1) := by decide +kernel
theorem dX1_lay_42 : decode cX1_lay 42 = .ok (.iastore, 1) := by decide +kernel
theorem dX1_lay_43 : decode cX1_lay 43 = .ok (.iinc 3 1, 3) := by decide +kernel
theorem dX1_lay_46 : decode cX1_lay 46 = .ok (.goto (-34), 3) := by decide +kernel
theorem dX1_lay_49 : decode cX1_lay 49 = .ok (.return_, 1) := by decide +kernel
theorem dX1_put_0 : decode cX1_put 0 = .ok (.iload_n 1, 1) := by decide +kernel
theorem dX1_put_1 : decode cX1_put 1 = .ok (.iconst 0, 1) := by decide +kernel
theorem dX1_put_2 : decode cX1_put 2 = .ok (.bipush 8, 2) := by decide +kernel
theorem dX1_put_4 : decode cX1_put 4 = .ok (.invokestatic 26, 3) := by decide +kernel
theorem dX1_put_7 : decode cX1_put 7 = .ok (.ifCond .eq 10, 3) := by decide +kernel
theorem dX1_put_10 : decode cX1_put 10 = .ok (.aload_n 0, 1) := by decide +kernel
theorem dX1_put_11 : decode cX1_put 11 = .ok (.getfield 18, 3) := by decide +kernel
theorem dX1_put_14 : decode cX1_put 14 = .ok (.iload_n 1, 1) := by decide +kernel
theorem dX1_put_15 : decode cX1_put 15 = .ok (.iload_n 2, 1) := by decide +kernel
theorem dX1_put_16 : decode cX1_put 16 = .ok (.iastore, 1) := by decide +kernel
theorem dX1_put_17 : decode cX1_put 17 = .ok (.return_, 1) := by decide +kernel
theorem dX1_numberAt_0 : decode cX1_numberAt 0 = .ok (.iload_n 1, 1) := by decide +kernel
theorem dX1_numberAt_1 : decode cX1_numberAt 1 = .ok (.iconst 0, 1) := by decide +kernel
theorem dX1_numberAt_2 : decode cX1_numberAt 2 = .ok (.bipush 8, 2) := by decide +kernel
theorem dX1_numberAt_4 : decode cX1_numberAt 4 = .ok (.invokestatic 26, 3) := by decide +kernel
theorem dX1_numberAt_7 : decode cX1_numberAt 7 = .ok (.ifCond .eq 12, 3) := by decide +kernel
theorem dX1_numberAt_10 : decode cX1_numberAt 10 = .ok (.aload_n 0, 1) := by decide +kernel
theorem dX1_numberAt_11 : decode cX1_numberAt 11 = .ok (.getfield 18, 3) := by decide +kernel
theorem dX1_numberAt_14 : decode cX1_numberAt 14 = .ok (.iload_n 1, 1) := by decide +kernel
theorem dX1_numberAt_15 : decode cX1_numberAt 15 = .ok (.iaload, 1) := by decide +kernel
theorem dX1_numberAt_16 : decode cX1_numberAt 16 = .ok (.goto 4, 3) := by decide +kernel
theorem dX1_numberAt_19 : decode cX1_numberAt 19 = .ok (.iconst 0, 1) := by decide +kernel
theorem dX1_numberAt_20 : decode cX1_numberAt 20 = .ok (.ireturn, 1) := by decide +kernel
theorem dX1_quarterOf_0 : decode cX1_quarterOf 0 = .ok (.aload_n 0, 1) := by decide +kernel
theorem dX1_quarterOf_1 : decode cX1_quarterOf 1 = .ok (.getfield 9, 3) := by decide +kernel
theorem dX1_quarterOf_4 : decode cX1_quarterOf 4 = .ok (.iconst 1, 1) := by decide +kernel
theorem dX1_quarterOf_5 : decode cX1_quarterOf 5 = .ok (.if_icmp .ge 7, 3) := by decide +kernel
theorem dX1_quarterOf_8 : decode cX1_quarterOf 8 = .ok (.iconst 0, 1) := by decide +kernel
theorem dX1_quarterOf_9 : decode cX1_quarterOf 9 = .ok (.goto 11, 3) := by decide +kernel
theorem dX1_quarterOf_12 : decode cX1_quarterOf 12 = .ok (.iload_n 1, 1) := by decide +kernel
theorem dX1_quarterOf_13 : decode cX1_quarterOf 13 = .ok (.aload_n 0, 1) := by decide +kernel
theorem dX1_quarterOf_14 : decode cX1_quarterOf 14 = .ok (.getfield 9, 3) := by decide +kernel
theorem dX1_quarterOf_17 : decode cX1_quarterOf 17 = .ok (.idiv, 1) := by decide +kernel
theorem dX1_quarterOf_18 : decode cX1_quarterOf 18 = .ok (.iconst 4, 1) := by decide +kernel
theorem dX1_quarterOf_19 : decode cX1_quarterOf 19 = .ok (.irem, 1) := by decide +kernel
theorem dX1_quarterOf_20 : decode cX1_quarterOf 20 = .ok (.ireturn, 1) := by decide +kernel
theorem dX1_restOf_0 : decode cX1_restOf 0 = .ok (.aload_n 0, 1) := by decide +kernel
theorem dX1_restOf_1 : decode cX1_restOf 1 = .ok (.getfield 9, 3) := by decide +kernel
theorem dX1_restOf_4 : decode cX1_restOf 4 = .ok (.iconst 1, 1) := by decide +kernel
theorem dX1_restOf_5 : decode cX1_restOf 5 = .ok (.if_icmp .ge 7, 3) := by decide +kernel
theorem dX1_restOf_8 : decode cX1_restOf 8 = .ok (.iconst 0, 1) := by decide +kernel
theorem dX1_restOf_9 : decode cX1_restOf 9 = .ok (.goto 9, 3) := by decide +kernel
theorem dX1_restOf_12 : decode cX1_restOf 12 = .ok (.iload_n 1, 1) := by decide +kernel
theorem dX1_restOf_13 : decode cX1_restOf 13 = .ok (.aload_n 0, 1) := by decide +kernel
theorem dX1_restOf_14 : decode cX1_restOf 14 = .ok (.getfield 9, 3) := by decide +kernel
theorem dX1_restOf_17 : decode cX1_restOf 17 = .ok (.irem, 1) := by decide +kernel
theorem dX1_restOf_18 : decode cX1_restOf 18 = .ok (.ireturn, 1) := by decide +kernel
theorem dX1_firstAt_0 : decode cX1_firstAt 0 = .ok (.aload_n 0, 1) := by decide +kernel
theorem dX1_firstAt_1 : decode cX1_firstAt 1 = .ok (.iload_n 1, 1) := by decide +kernel
theorem dX1_firstAt_2 : decode cX1_firstAt 2 = .ok (.invokevirtual 30, 3) := by decide +kernel
theorem dX1_firstAt_5 : decode cX1_firstAt 5 = .ok (.istore_n 2, 1) := by decide +kernel
theorem dX1_firstAt_6 : decode cX1_firstAt 6 = .ok (.aload_n 0, 1) := by decide +kernel
theorem dX1_firstAt_7 : decode cX1_firstAt 7 = .ok (.iload_n 1, 1) := by decide +kernel
theorem dX1_firstAt_8 : decode cX1_firstAt 8 = .ok (.invokevirtual 34, 3) := by decide +kernel
theorem dX1_firstAt_11 : decode cX1_firstAt 11 = .ok (.tableswitch 50 0 2 #[25, 31, 43], 25) := by decide +kernel
theorem dX1_firstAt_36 : decode cX1_firstAt 36 = .ok (.aload_n 0, 1) := by decide +kernel
theorem dX1_firstAt_37 : decode cX1_firstAt 37 = .ok (.iload_n 2, 1) := by decide +kernel
theorem dX1_firstAt_38 : decode cX1_firstAt 38 = .ok (.invokevirtual 37, 3) := by decide +kernel
theorem dX1_firstAt_41 : decode cX1_firstAt 41 = .ok (.ireturn, 1) := by decide +kernel
theorem dX1_firstAt_42 : decode cX1_firstAt 42 = .ok (.aload_n 0, 1) := by decide +kernel
theorem dX1_firstAt_43 : decode cX1_firstAt 43 = .ok (.aload_n 0, 1) := by decide +kernel
theorem dX1_firstAt_44 : decode cX1_firstAt 44 = .ok (.getfield 9, 3) := by decide +kernel
theorem dX1_firstAt_47 : decode cX1_firstAt 47 = .ok (.iload_n 2, 1) := by decide +kernel
theorem dX1_firstAt_48 : decode cX1_firstAt 48 = .ok (.isub, 1) := by decide +kernel
theorem dX1_firstAt_49 : decode cX1_firstAt 49 = .ok (.invokevirtual 37, 3) := by decide +kernel
theorem dX1_firstAt_52 : decode cX1_firstAt 52 = .ok (.ineg, 1) := by decide +kernel
theorem dX1_firstAt_53 : decode cX1_firstAt 53 = .ok (.ireturn, 1) := by decide +kernel
theorem dX1_firstAt_54 : decode cX1_firstAt 54 = .ok (.aload_n 0, 1) := by decide +kernel
theorem dX1_firstAt_55 : decode cX1_firstAt 55 = .ok (.iload_n 2, 1) := by decide +kernel
theorem dX1_firstAt_56 : decode cX1_firstAt 56 = .ok (.invokevirtual 37, 3) := by decide +kernel
theorem dX1_firstAt_59 : decode cX1_firstAt 59 = .ok (.ineg, 1) := by decide +kernel
theorem dX1_firstAt_60 : decode cX1_firstAt 60 = .ok (.ireturn, 1) := by decide +kernel
theorem dX1_firstAt_61 : decode cX1_firstAt 61 = .ok (.aload_n 0, 1) := by decide +kernel
theorem dX1_firstAt_62 : decode cX1_firstAt 62 = .ok (.aload_n 0, 1) := by decide +kernel
theorem dX1_firstAt_63 : decode cX1_firstAt 63 = .ok (.getfield 9, 3) := by decide +kernel
theorem dX1_firstAt_66 : decode cX1_firstAt 66 = .ok (.iload_n 2, 1) := by decide +kernel
theorem dX1_firstAt_67 : decode cX1_firstAt 67 = .ok (.isub, 1) := by decide +kernel
theorem dX1_firstAt_68 : decode cX1_firstAt 68 = .ok (.invokevirtual 37, 3) := by decide +kernel
theorem dX1_firstAt_71 : decode cX1_firstAt 71 = .ok (.ireturn, 1) := by decide +kernel
theorem dX1_secondAt_0 : decode cX1_secondAt 0 = .ok (.aload_n 0, 1) := by decide +kernel
theorem dX1_secondAt_1 : decode cX1_secondAt 1 = .ok (.iload_n 1, 1) := by decide +kernel
theorem dX1_secondAt_2 : decode cX1_secondAt 2 = .ok (.invokevirtual 30, 3) := by decide +kernel
theorem dX1_secondAt_5 : decode cX1_secondAt 5 = .ok (.istore_n 2, 1) := by decide +kernel
theorem dX1_secondAt_6 : decode cX1_secondAt 6 = .ok (.aload_n 0, 1) := by decide +kernel
theorem dX1_secondAt_7 : decode cX1_secondAt 7 = .ok (.iload_n 1, 1) := by decide +kernel
theorem dX1_secondAt_8 : decode cX1_secondAt 8 = .ok (.invokevirtual 34, 3) := by decide +kernel
theorem dX1_secondAt_11 : decode cX1_secondAt 11 = .ok (.tableswitch 54 0 2 #[25, 36, 42], 25) := by decide +kernel
theorem dX1_secondAt_36 : decode cX1_secondAt 36 = .ok (.aload_n 0, 1) := by decide +kernel
theorem dX1_secondAt_37 : decode cX1_secondAt 37 = .ok (.aload_n 0, 1) := by decide +kernel
theorem dX1_secondAt_38 : decode cX1_secondAt 38 = .ok (.getfield 9, 3) := by decide +kernel
theorem dX1_secondAt_41 : decode cX1_secondAt 41 = .ok (.iload_n 2, 1) := by decide +kernel
theorem dX1_secondAt_42 : decode cX1_secondAt 42 = .ok (.isub, 1) := by decide +kernel
theorem dX1_secondAt_43 : decode cX1_secondAt 43 = .ok (.invokevirtual 37, 3) := by decide +kernel
theorem dX1_secondAt_46 : decode cX1_secondAt 46 = .ok (.ireturn, 1) := by decide +kernel
theorem dX1_secondAt_47 : decode cX1_secondAt 47 = .ok (.aload_n 0, 1) := by decide +kernel
theorem dX1_secondAt_48 : decode cX1_secondAt 48 = .ok (.iload_n 2, 1) := by decide +kernel
theorem dX1_secondAt_49 : decode cX1_secondAt 49 = .ok (.invokevirtual 37, 3) := by decide +kernel
theorem dX1_secondAt_52 : decode cX1_secondAt 52 = .ok (.ireturn, 1) := by decide +kernel
theorem dX1_secondAt_53 : decode cX1_secondAt 53 = .ok (.aload_n 0, 1) := by decide +kernel
theorem dX1_secondAt_54 : decode cX1_secondAt 54 = .ok (.aload_n 0, 1) := by decide +kernel
theorem dX1_secondAt_55 : decode cX1_secondAt 55 = .ok (.getfield 9, 3) := by decide +kernel
theorem dX1_secondAt_58 : decode cX1_secondAt 58 = .ok (.iload_n 2, 1) := by decide +kernel
theorem dX1_secondAt_59 : decode cX1_secondAt 59 = .ok (.isub, 1) := by decide +kernel
theorem dX1_secondAt_60 : decode cX1_secondAt 60 = .ok (.invokevirtual 37, 3) := by decide +kernel
theorem dX1_secondAt_63 : decode cX1_secondAt 63 = .ok (.ineg, 1) := by decide +kernel
theorem dX1_secondAt_64 : decode cX1_secondAt 64 = .ok (.ireturn, 1) := by decide +kernel
theorem dX1_secondAt_65 : decode cX1_secondAt 65 = .ok (.aload_n 0, 1) := by decide +kernel
theorem dX1_secondAt_66 : decode cX1_secondAt 66 = .ok (.iload_n 2, 1) := by decide +kernel
theorem dX1_secondAt_67 : decode cX1_secondAt 67 = .ok (.invokevirtual 37, 3) := by decide +kernel
theorem dX1_secondAt_70 : decode cX1_secondAt 70 = .ok (.ineg, 1) := by decide +kernel
theorem dX1_secondAt_71 : decode cX1_secondAt 71 = .ok (.ireturn, 1) := by decide +kernel
theorem dX1_missOfPair_0 : decode cX1_missOfPair 0 = .ok (.iload_n 1, 1) := by decide +kernel
theorem dX1_missOfPair_1 : decode cX1_missOfPair 1 = .ok (.iload_n 1, 1) := by decide +kernel
theorem dX1_missOfPair_2 : decode cX1_missOfPair 2 = .ok (.imul, 1) := by decide +kernel
theorem dX1_missOfPair_3 : decode cX1_missOfPair 3 = .ok (.iload_n 2, 1) := by decide +kernel
theorem dX1_missOfPair_4 : decode cX1_missOfPair 4 = .ok (.iload_n 2, 1) := by decide +kernel
theorem dX1_missOfPair_5 : decode cX1_missOfPair 5 = .ok (.imul, 1) := by decide +kernel
theorem dX1_missOfPair_6 : decode cX1_missOfPair 6 = .ok (.iadd, 1) := by decide +kernel
theorem dX1_missOfPair_7 : decode cX1_missOfPair 7 = .ok (.aload_n 0, 1) := by decide +kernel
theorem dX1_missOfPair_8 : decode cX1_missOfPair 8 = .ok (.getfield 15, 3) := by decide +kernel
theorem dX1_missOfPair_11 : decode cX1_missOfPair 11 = .ok (.aload_n 0, 1) := by decide +kernel
theorem dX1_missOfPair_12 : decode cX1_missOfPair 12 = .ok (.getfield 15, 3) := by decide +kernel
theorem dX1_missOfPair_15 : decode cX1_missOfPair 15 = .ok (.imul, 1) := by decide +kernel
theorem dX1_missOfPair_16 : decode cX1_missOfPair 16 = .ok (.isub, 1) := by decide +kernel
theorem dX1_missOfPair_17 : decode cX1_missOfPair 17 = .ok (.invokestatic 40, 3) := by decide +kernel
theorem dX1_missOfPair_20 : decode cX1_missOfPair 20 = .ok (.ireturn, 1) := by decide +kernel
theorem dX1_missOf_0 : decode cX1_missOf 0 = .ok (.aload_n 0, 1) := by decide +kernel
theorem dX1_missOf_1 : decode cX1_missOf 1 = .ok (.aload_n 0, 1) := by decide +kernel
theorem dX1_missOf_2 : decode cX1_missOf 2 = .ok (.iload_n 1, 1) := by decide +kernel
theorem dX1_missOf_3 : decode cX1_missOf 3 = .ok (.invokevirtual 37, 3) := by decide +kernel
theorem dX1_missOf_6 : decode cX1_missOf 6 = .ok (.aload_n 0, 1) := by decide +kernel
theorem dX1_missOf_7 : decode cX1_missOf 7 = .ok (.aload_n 0, 1) := by decide +kernel
theorem dX1_missOf_8 : decode cX1_missOf 8 = .ok (.getfield 9, 3) := by decide +kernel
theorem dX1_missOf_11 : decode cX1_missOf 11 = .ok (.iload_n 1, 1) := by decide +kernel
theorem dX1_missOf_12 : decode cX1_missOf 12 = .ok (.isub, 1) := by decide +kernel
theorem dX1_missOf_13 : decode cX1_missOf 13 = .ok (.invokevirtual 37, 3) := by decide +kernel
theorem dX1_missOf_16 : decode cX1_missOf 16 = .ok (.invokevirtual 45, 3) := by decide +kernel
theorem dX1_missOf_19 : decode cX1_missOf 19 = .ok (.ireturn, 1) := by decide +kernel
theorem dX1_greatestMiss_0 : decode cX1_greatestMiss 0 = .ok (.iconst 0, 1) := by decide +kernel
theorem dX1_greatestMiss_1 : decode cX1_greatestMiss 1 = .ok (.istore_n 1, 1) := by decide +kernel
theorem dX1_greatestMiss_2 : decode cX1_greatestMiss 2 = .ok (.iconst 0, 1) := by decide +kernel
theorem dX1_greatestMiss_3 : decode cX1_greatestMiss 3 = .ok (.istore_n 2, 1) := by decide +kernel
theorem dX1_greatestMiss_4 : decode cX1_greatestMiss 4 = .ok (.iload_n 2, 1) := by decide +kernel
theorem dX1_greatestMiss_5 : decode cX1_greatestMiss 5 = .ok (.aload_n 0, 1) := by decide +kernel
theorem dX1_greatestMiss_6 : decode cX1_greatestMiss 6 = .ok (.getfield 9, 3) := by decide +kernel
theorem dX1_greatestMiss_9 : decode cX1_greatestMiss 9 = .ok (.if_icmp .gt 19, 3) := by decide +kernel
theorem dX1_greatestMiss_12 : decode cX1_greatestMiss 12 = .ok (.iload_n 1, 1) := by decide +kernel
theorem dX1_greatestMiss_13 : decode cX1_greatestMiss 13 = .ok (.aload_n 0, 1) := by decide +kernel
theorem dX1_greatestMiss_14 : decode cX1_greatestMiss 14 = .ok (.iload_n 2, 1) := by decide +kernel
theorem dX1_greatestMiss_15 : decode cX1_greatestMiss 15 = .ok (.invokevirtual 49, 3) := by decide +kernel
theorem dX1_greatestMiss_18 : decode cX1_greatestMiss 18 = .ok (.invokestatic 52, 3) := by decide +kernel
theorem dX1_greatestMiss_21 : decode cX1_greatestMiss 21 = .ok (.istore_n 1, 1) := by decide +kernel
theorem dX1_greatestMiss_22 : decode cX1_greatestMiss 22 = .ok (.iinc 2 1, 3) := by decide +kernel
theorem dX1_greatestMiss_25 : decode cX1_greatestMiss 25 = .ok (.goto (-21), 3) := by decide +kernel
theorem dX1_greatestMiss_28 : decode cX1_greatestMiss 28 = .ok (.iload_n 1, 1) := by decide +kernel
theorem dX1_greatestMiss_29 : decode cX1_greatestMiss 29 = .ok (.ireturn, 1) := by decide +kernel
theorem dX1_even_0 : decode cX1_even 0 = .ok (.iconst 0, 1) := by decide +kernel
theorem dX1_even_1 : decode cX1_even 1 = .ok (.istore_n 1, 1) := by decide +kernel
theorem dX1_even_2 : decode cX1_even 2 = .ok (.iconst 2, 1) := by decide +kernel
theorem dX1_even_3 : decode cX1_even 3 = .ok (.iload_n 1, 1) := by decide +kernel
theorem dX1_even_4 : decode cX1_even 4 = .ok (.imul, 1) := by decide +kernel
theorem dX1_even_5 : decode cX1_even 5 = .ok (.aload_n 0, 1) := by decide +kernel
theorem dX1_even_6 : decode cX1_even 6 = .ok (.getfield 9, 3) := by decide +kernel
theorem dX1_even_9 : decode cX1_even 9 = .ok (.if_icmp .gt 32, 3) := by decide +kernel
theorem dX1_even_12 : decode cX1_even 12 = .ok (.iconst 2, 1) := by decide +kernel
theorem dX1_even_13 : decode cX1_even 13 = .ok (.iload_n 1, 1) := by decide +kernel
theorem dX1_even_14 : decode cX1_even 14 = .ok (.imul, 1) := by decide +kernel
theorem dX1_even_15 : decode cX1_even 15 = .ok (.aload_n 0, 1) := by decide +kernel
theorem dX1_even_16 : decode cX1_even 16 = .ok (.getfield 9, 3) := by decide +kernel
theorem dX1_even_19 : decode cX1_even 19 = .ok (.if_icmp .ne 11, 3) := by decide +kernel
theorem dX1_even_22 : decode cX1_even 22 = .ok (.aload_n 0, 1) := by decide +kernel
theorem dX1_even_23 : decode cX1_even 23 = .ok (.iload_n 1, 1) := by decide +kernel
theorem dX1_even_24 : decode cX1_even 24 = .ok (.invokevirtual 55, 3) := by decide +kernel
theorem dX1_even_27 : decode cX1_even 27 = .ok (.goto 8, 3) := by decide +kernel
theorem dX1_even_30 : decode cX1_even 30 = .ok (.aload_n 0, 1) := by decide +kernel
theorem dX1_even_31 : decode cX1_even 31 = .ok (.iload_n 1, 1) := by decide +kernel
theorem dX1_even_32 : decode cX1_even 32 = .ok (.invokevirtual 59, 3) := by decide +kernel
theorem dX1_even_35 : decode cX1_even 35 = .ok (.iinc 1 1, 3) := by decide +kernel
theorem dX1_even_38 : decode cX1_even 38 = .ok (.goto (-36), 3) := by decide +kernel
theorem dX1_even_41 : decode cX1_even 41 = .ok (.return_, 1) := by decide +kernel
theorem dX1_evenMiddle_0 : decode cX1_evenMiddle 0 = .ok (.aload_n 0, 1) := by decide +kernel
theorem dX1_evenMiddle_1 : decode cX1_evenMiddle 1 = .ok (.getfield 15, 3) := by decide +kernel
theorem dX1_evenMiddle_4 : decode cX1_evenMiddle 4 = .ok (.istore_n 2, 1) := by decide +kernel
theorem dX1_evenMiddle_5 : decode cX1_evenMiddle 5 = .ok (.aload_n 0, 1) := by decide +kernel
theorem dX1_evenMiddle_6 : decode cX1_evenMiddle 6 = .ok (.getfield 15, 3) := by decide +kernel
theorem dX1_evenMiddle_9 : decode cX1_evenMiddle 9 = .ok (.iconst 1, 1) := by decide +kernel
theorem dX1_evenMiddle_10 : decode cX1_evenMiddle 10 = .ok (.isub, 1) := by decide +kernel
theorem dX1_evenMiddle_11 : decode cX1_evenMiddle 11 = .ok (.istore_n 3, 1) := by decide +kernel
theorem dX1_evenMiddle_12 : decode cX1_evenMiddle 12 = .ok (.iload_n 3, 1) := by decide +kernel
theorem dX1_evenMiddle_13 : decode cX1_evenMiddle 13 = .ok (.ifCond .lt 26, 3) := by decide +kernel
theorem dX1_evenMiddle_16 : decode cX1_evenMiddle 16 = .ok (.aload_n 0, 1) := by decide +kernel
theorem dX1_evenMiddle_17 : decode cX1_evenMiddle 17 = .ok (.iload_n 3, 1) := by decide +kernel
theorem dX1_evenMiddle_18 : decode cX1_evenMiddle 18 = .ok (.iload_n 3, 1) := by decide +kernel
theorem dX1_evenMiddle_19 : decode cX1_evenMiddle 19 = .ok (.invokevirtual 45, 3) := by decide +kernel
theorem dX1_evenMiddle_22 : decode cX1_evenMiddle 22 = .ok (.aload_n 0, 1) := by decide +kernel
theorem dX1_evenMiddle_23 : decode cX1_evenMiddle 23 = .ok (.iload_n 2, 1) := by decide +kernel
theorem dX1_evenMiddle_24 : decode cX1_evenMiddle 24 = .ok (.iload_n 2, 1) := by decide +kernel
theorem dX1_evenMiddle_25 : decode cX1_evenMiddle 25 = .ok (.invokevirtual 45, 3) := by decide +kernel
theorem dX1_evenMiddle_28 : decode cX1_evenMiddle 28 = .ok (.if_icmp .ge 5, 3) := by decide +kernel
theorem dX1_evenMiddle_31 : decode cX1_evenMiddle 31 = .ok (.iload_n 3, 1) := by decide +kernel
theorem dX1_evenMiddle_32 : decode cX1_evenMiddle 32 = .ok (.istore_n 2, 1) := by decide +kernel
theorem dX1_evenMiddle_33 : decode cX1_evenMiddle 33 = .ok (.iinc 3 (-1), 3) := by decide +kernel
theorem dX1_evenMiddle_36 : decode cX1_evenMiddle 36 = .ok (.goto (-24), 3) := by decide +kernel
theorem dX1_evenMiddle_39 : decode cX1_evenMiddle 39 = .ok (.aload_n 0, 1) := by decide +kernel
theorem dX1_evenMiddle_40 : decode cX1_evenMiddle 40 = .ok (.iload_n 1, 1) := by decide +kernel
theorem dX1_evenMiddle_41 : decode cX1_evenMiddle 41 = .ok (.iload_n 2, 1) := by decide +kernel
theorem dX1_evenMiddle_42 : decode cX1_evenMiddle 42 = .ok (.invokevirtual 62, 3) := by decide +kernel
theorem dX1_evenMiddle_45 : decode cX1_evenMiddle 45 = .ok (.return_, 1) := by decide +kernel
theorem dX1_evenPair_0 : decode cX1_evenPair 0 = .ok (.aload_n 0, 1) := by decide +kernel
theorem dX1_evenPair_1 : decode cX1_evenPair 1 = .ok (.getfield 15, 3) := by decide +kernel
theorem dX1_evenPair_4 : decode cX1_evenPair 4 = .ok (.istore_n 2, 1) := by decide +kernel
theorem dX1_evenPair_5 : decode cX1_evenPair 5 = .ok (.iconst 0, 1) := by decide +kernel
theorem dX1_evenPair_6 : decode cX1_evenPair 6 = .ok (.istore_n 3, 1) := by decide +kernel
theorem dX1_evenPair_7 : decode cX1_evenPair 7 = .ok (.iconst 0, 1) := by decide +kernel
theorem dX1_evenPair_8 : decode cX1_evenPair 8 = .ok (.istore 4, 2) := by decide +kernel
theorem dX1_evenPair_10 : decode cX1_evenPair 10 = .ok (.aload_n 0, 1) := by decide +kernel
theorem dX1_evenPair_11 : decode cX1_evenPair 11 = .ok (.getfield 15, 3) := by decide +kernel
theorem dX1_evenPair_14 : decode cX1_evenPair 14 = .ok (.istore 5, 2) := by decide +kernel
theorem dX1_evenPair_16 : decode cX1_evenPair 16 = .ok (.iload 5, 2) := by decide +kernel
theorem dX1_evenPair_18 : decode cX1_evenPair 18 = .ok (.ifCond .lt 104, 3) := by decide +kernel
theorem dX1_evenPair_21 : decode cX1_evenPair 21 = .ok (.iload 4, 2) := by decide +kernel
theorem dX1_evenPair_23 : decode cX1_evenPair 23 = .ok (.iload 5, 2) := by decide +kernel
theorem dX1_evenPair_25 : decode cX1_evenPair 25 = .ok (.invokestatic 65, 3) := by decide +kernel
theorem dX1_evenPair_28 : decode cX1_evenPair 28 = .ok (.istore 4, 2) := by decide +kernel
theorem dX1_evenPair_30 : decode cX1_evenPair 30 = .ok (.iload 4, 2) := by decide +kernel
theorem dX1_evenPair_32 : decode cX1_evenPair 32 = .ok (.iload 5, 2) := by decide +kernel
theorem dX1_evenPair_34 : decode cX1_evenPair 34 = .ok (.if_icmp .ge 30, 3) := by decide +kernel
theorem dX1_evenPair_37 : decode cX1_evenPair 37 = .ok (.aload_n 0, 1) := by decide +kernel
theorem dX1_evenPair_38 : decode cX1_evenPair 38 = .ok (.iload 5, 2) := by decide +kernel
theorem dX1_evenPair_40 : decode cX1_evenPair 40 = .ok (.iload 4, 2) := by decide +kernel
theorem dX1_evenPair_42 : decode cX1_evenPair 42 = .ok (.iconst 1, 1) := by decide +kernel
theorem dX1_evenPair_43 : decode cX1_evenPair 43 = .ok (.iadd, 1) := by decide +kernel
theorem dX1_evenPair_44 : decode cX1_evenPair 44 = .ok (.invokevirtual 45, 3) := by decide +kernel
theorem dX1_evenPair_47 : decode cX1_evenPair 47 = .ok (.aload_n 0, 1) := by decide +kernel
theorem dX1_evenPair_48 : decode cX1_evenPair 48 = .ok (.iload 5, 2) := by decide +kernel
theorem dX1_evenPair_50 : decode cX1_evenPair 50 = .ok (.iload 4, 2) := by decide +kernel
theorem dX1_evenPair_52 : decode cX1_evenPair 52 = .ok (.invokevirtual 45, 3) := by decide +kernel
theorem dX1_evenPair_55 : decode cX1_evenPair 55 = .ok (.if_icmp .ge 9, 3) := by decide +kernel
theorem dX1_evenPair_58 : decode cX1_evenPair 58 = .ok (.iinc 4 1, 3) := by decide +kernel
theorem dX1_evenPair_61 : decode cX1_evenPair 61 = .ok (.goto (-31), 3) := by decide +kernel
theorem dX1_evenPair_64 : decode cX1_evenPair 64 = .ok (.aload_n 0, 1) := by decide +kernel
theorem dX1_evenPair_65 : decode cX1_evenPair 65 = .ok (.iload 5, 2) := by decide +kernel
theorem dX1_evenPair_67 : decode cX1_evenPair 67 = .ok (.iload 4, 2) := by decide +kernel
theorem dX1_evenPair_69 : decode cX1_evenPair 69 = .ok (.invokevirtual 45, 3) := by decide +kernel
theorem dX1_evenPair_72 : decode cX1_evenPair 72 = .ok (.aload_n 0, 1) := by decide +kernel
theorem dX1_evenPair_73 : decode cX1_evenPair 73 = .ok (.iload_n 2, 1) := by decide +kernel
theorem dX1_evenPair_74 : decode cX1_evenPair 74 = .ok (.iload_n 3, 1) := by decide +kernel
theorem dX1_evenPair_75 : decode cX1_evenPair 75 = .ok (.invokevirtual 45, 3) := by decide +kernel
theorem dX1_evenPair_78 : decode cX1_evenPair 78 = .ok (.isub, 1) := by decide +kernel
theorem dX1_evenPair_79 : decode cX1_evenPair 79 = .ok (.istore 6, 2) := by decide +kernel
theorem dX1_evenPair_81 : decode cX1_evenPair 81 = .ok (.iload 6, 2) := by decide +kernel
theorem dX1_evenPair_83 : decode cX1_evenPair 83 = .ok (.ifCond .lt 27, 3) := by decide +kernel
theorem dX1_evenPair_86 : decode cX1_evenPair 86 = .ok (.iload 6, 2) := by decide +kernel
theorem dX1_evenPair_88 : decode cX1_evenPair 88 = .ok (.ifCond .ne 28, 3) := by decide +kernel
theorem dX1_evenPair_91 : decode cX1_evenPair 91 = .ok (.aload_n 0, 1) := by decide +kernel
theorem dX1_evenPair_92 : decode cX1_evenPair 92 = .ok (.iload_n 1, 1) := by decide +kernel
theorem dX1_evenPair_93 : decode cX1_evenPair 93 = .ok (.iload 5, 2) := by decide +kernel
theorem dX1_evenPair_95 : decode cX1_evenPair 95 = .ok (.iload 4, 2) := by decide +kernel
theorem dX1_evenPair_97 : decode cX1_evenPair 97 = .ok (.invokevirtual 68, 3) := by decide +kernel
theorem dX1_evenPair_100 : decode cX1_evenPair 100 = .ok (.aload_n 0, 1) := by decide +kernel
theorem dX1_evenPair_101 : decode cX1_evenPair 101 = .ok (.iload_n 1, 1) := by decide +kernel
theorem dX1_evenPair_102 : decode cX1_evenPair 102 = .ok (.iload_n 2, 1) := by decide +kernel
theorem dX1_evenPair_103 : decode cX1_evenPair 103 = .ok (.iload_n 3, 1) := by decide +kernel
theorem dX1_evenPair_104 : decode cX1_evenPair 104 = .ok (.invokevirtual 68, 3) := by decide +kernel
theorem dX1_evenPair_107 : decode cX1_evenPair 107 = .ok (.if_icmp .ge 9, 3) := by decide +kernel
theorem dX1_evenPair_110 : decode cX1_evenPair 110 = .ok (.iload 5, 2) := by decide +kernel
theorem dX1_evenPair_112 : decode cX1_evenPair 112 = .ok (.istore_n 2, 1) := by decide +kernel
theorem dX1_evenPair_113 : decode cX1_evenPair 113 = .ok (.iload 4, 2) := by decide +kernel
theorem dX1_evenPair_115 : decode cX1_evenPair 115 = .ok (.istore_n 3, 1) := by decide +kernel
theorem dX1_evenPair_116 : decode cX1_evenPair 116 = .ok (.iinc 5 (-1), 3) := by decide +kernel
theorem dX1_evenPair_119 : decode cX1_evenPair 119 = .ok (.goto (-103), 3) := by decide +kernel
theorem dX1_evenPair_122 : decode cX1_evenPair 122 = .ok (.aload_n 0, 1) := by decide +kernel
theorem dX1_evenPair_123 : decode cX1_evenPair 123 = .ok (.iload_n 1, 1) := by decide +kernel
theorem dX1_evenPair_124 : decode cX1_evenPair 124 = .ok (.iload_n 2, 1) := by decide +kernel
theorem dX1_evenPair_125 : decode cX1_evenPair 125 = .ok (.invokevirtual 62, 3) := by decide +kernel
theorem dX1_evenPair_128 : decode cX1_evenPair 128 = .ok (.aload_n 0, 1) := by decide +kernel
theorem dX1_evenPair_129 : decode cX1_evenPair 129 = .ok (.aload_n 0, 1) := by decide +kernel
theorem dX1_evenPair_130 : decode cX1_evenPair 130 = .ok (.getfield 9, 3) := by decide +kernel
theorem dX1_evenPair_133 : decode cX1_evenPair 133 = .ok (.iload_n 1, 1) := by decide +kernel
theorem dX1_evenPair_134 : decode cX1_evenPair 134 = .ok (.isub, 1) := by decide +kernel
theorem dX1_evenPair_135 : decode cX1_evenPair 135 = .ok (.iload_n 3, 1) := by decide +kernel
theorem dX1_evenPair_136 : decode cX1_evenPair 136 = .ok (.invokevirtual 62, 3) := by decide +kernel
theorem dX1_evenPair_139 : decode cX1_evenPair 139 = .ok (.return_, 1) := by decide +kernel
theorem dX1_apart_0 : decode cX1_apart 0 = .ok (.iload_n 2, 1) := by decide +kernel
theorem dX1_apart_1 : decode cX1_apart 1 = .ok (.iload_n 1, 1) := by decide +kernel
theorem dX1_apart_2 : decode cX1_apart 2 = .ok (.imul, 1) := by decide +kernel
theorem dX1_apart_3 : decode cX1_apart 3 = .ok (.iload_n 3, 1) := by decide +kernel
theorem dX1_apart_4 : decode cX1_apart 4 = .ok (.aload_n 0, 1) := by decide +kernel
theorem dX1_apart_5 : decode cX1_apart 5 = .ok (.getfield 9, 3) := by decide +kernel
theorem dX1_apart_8 : decode cX1_apart 8 = .ok (.iload_n 1, 1) := by decide +kernel
theorem dX1_apart_9 : decode cX1_apart 9 = .ok (.isub, 1) := by decide +kernel
theorem dX1_apart_10 : decode cX1_apart 10 = .ok (.imul, 1) := by decide +kernel
theorem dX1_apart_11 : decode cX1_apart 11 = .ok (.isub, 1) := by decide +kernel
theorem dX1_apart_12 : decode cX1_apart 12 = .ok (.invokestatic 40, 3) := by decide +kernel
theorem dX1_apart_15 : decode cX1_apart 15 = .ok (.ireturn, 1) := by decide +kernel
theorem dX2_init_0 : decode cX2_init 0 = .ok (.aload_n 0, 1) := by decide +kernel
theorem dX2_init_1 : decode cX2_init 1 = .ok (.invokespecial 3, 3) := by decide +kernel
theorem dX2_init_4 : decode cX2_init 4 = .ok (.aload_n 0, 1) := by decide +kernel
theorem dX2_init_5 : decode cX2_init 5 = .ok (.iconst 0, 1) := by decide +kernel
theorem dX2_init_6 : decode cX2_init 6 = .ok (.putfield 9, 3) := by decide +kernel
theorem dX2_init_9 : decode cX2_init 9 = .ok (.aload_n 0, 1) := by decide +kernel
theorem dX2_init_10 : decode cX2_init 10 = .ok (.iconst 0, 1) := by decide +kernel
theorem dX2_init_11 : decode cX2_init 11 = .ok (.putfield 15, 3) := by decide +kernel
theorem dX2_init_14 : decode cX2_init 14 = .ok (.aload_n 0, 1) := by decide +kernel
theorem dX2_init_15 : decode cX2_init 15 = .ok (.iconst 0, 1) := by decide +kernel
theorem dX2_init_16 : decode cX2_init 16 = .ok (.putfield 18, 3) := by decide +kernel
theorem dX2_init_19 : decode cX2_init 19 = .ok (.aload_n 0, 1) := by decide +kernel
theorem dX2_init_20 : decode cX2_init 20 = .ok (.iconst 0, 1) := by decide +kernel
theorem dX2_init_21 : decode cX2_init 21 = .ok (.putfield 21, 3) := by decide +kernel
theorem dX2_init_24 : decode cX2_init 24 = .ok (.aload_n 0, 1) := by decide +kernel
theorem dX2_init_25 : decode cX2_init 25 = .ok (.iconst 0, 1) := by decide +kernel
theorem dX2_init_26 : decode cX2_init 26 = .ok (.putfield 24, 3) := by decide +kernel
theorem dX2_init_29 : decode cX2_init 29 = .ok (.aload_n 0, 1) := by decide +kernel
theorem dX2_init_30 : decode cX2_init 30 = .ok (.iconst 0, 1) := by decide +kernel
theorem dX2_init_31 : decode cX2_init 31 = .ok (.putfield 27, 3) := by decide +kernel
theorem dX2_init_34 : decode cX2_init 34 = .ok (.aload_n 0, 1) := by decide +kernel
theorem dX2_init_35 : decode cX2_init 35 = .ok (.iconst (-1), 1) := by decide +kernel
theorem dX2_init_36 : decode cX2_init 36 = .ok (.putfield 30, 3) := by decide +kernel
theorem dX2_init_39 : decode cX2_init 39 = .ok (.aload_n 0, 1) := by decide +kernel
theorem dX2_init_40 : decode cX2_init 40 = .ok (.iconst 0, 1) := by decide +kernel
theorem dX2_init_41 : decode cX2_init 41 = .ok (.putfield 33, 3) := by decide +kernel
theorem dX2_init_44 : decode cX2_init 44 = .ok (.aload_n 0, 1) := by decide +kernel
theorem dX2_init_45 : decode cX2_init 45 = .ok (.iconst 0, 1) := by decide +kernel
theorem dX2_init_46 : decode cX2_init 46 = .ok (.putfield 37, 3) := by decide +kernel
theorem dX2_init_49 : decode cX2_init 49 = .ok (.aload_n 0, 1) := by decide +kernel
theorem dX2_init_50 : decode cX2_init 50 = .ok (.iconst 0, 1) := by decide +kernel
theorem dX2_init_51 : decode cX2_init 51 = .ok (.putfield 40, 3) := by decide +kernel
theorem dX2_init_54 : decode cX2_init 54 = .ok (.return_, 1) := by decide +kernel
theorem dX2_goesOn_0 : decode cX2_goesOn 0 = .ok (.aload_n 0, 1) := by decide +kernel
theorem dX2_goesOn_1 : decode cX2_goesOn 1 = .ok (.getfield 40, 3) := by decide +kernel
theorem dX2_goesOn_4 : decode cX2_goesOn 4 = .ok (.ifCond .le 7, 3) := by decide +kernel
theorem dX2_goesOn_7 : decode cX2_goesOn 7 = .ok (.iconst 1, 1) := by decide +kernel
theorem dX2_goesOn_8 : decode cX2_goesOn 8 = .ok (.goto 4, 3) := by decide +kernel
theorem dX2_goesOn_11 : decode cX2_goesOn 11 = .ok (.iconst 0, 1) := by decide +kernel
theorem dX2_goesOn_12 : decode cX2_goesOn 12 = .ok (.ireturn, 1) := by decide +kernel
theorem dX2_start_0 : decode cX2_start 0 = .ok (.aload_n 0, 1) := by decide +kernel
theorem dX2_start_1 : decode cX2_start 1 = .ok (.iload_n 1, 1) := by decide +kernel
theorem dX2_start_2 : decode cX2_start 2 = .ok (.putfield 9, 3) := by decide +kernel
theorem dX2_start_5 : decode cX2_start 5 = .ok (.aload_n 0, 1) := by decide +kernel
theorem dX2_start_6 : decode cX2_start 6 = .ok (.iconst 0, 1) := by decide +kernel
theorem dX2_start_7 : decode cX2_start 7 = .ok (.putfield 15, 3) := by decide +kernel
theorem dX2_start_10 : decode cX2_start 10 = .ok (.aload_n 0, 1) := by decide +kernel
theorem dX2_start_11 : decode cX2_start 11 = .ok (.iconst 0, 1) := by decide +kernel
theorem dX2_start_12 : decode cX2_start 12 = .ok (.putfield 18, 3) := by decide +kernel
theorem dX2_start_15 : decode cX2_start 15 = .ok (.aload_n 0, 1) := by decide +kernel
theorem dX2_start_16 : decode cX2_start 16 = .ok (.iconst 0, 1) := by decide +kernel
theorem dX2_start_17 : decode cX2_start 17 = .ok (.putfield 21, 3) := by decide +kernel
theorem dX2_start_20 : decode cX2_start 20 = .ok (.aload_n 0, 1) := by decide +kernel
theorem dX2_start_21 : decode cX2_start 21 = .ok (.iconst 0, 1) := by decide +kernel
theorem dX2_start_22 : decode cX2_start 22 = .ok (.putfield 24, 3) := by decide +kernel
theorem dX2_start_25 : decode cX2_start 25 = .ok (.aload_n 0, 1) := by decide +kernel
theorem dX2_start_26 : decode cX2_start 26 = .ok (.iconst 0, 1) := by decide +kernel
theorem dX2_start_27 : decode cX2_start 27 = .ok (.putfield 27, 3) := by decide +kernel
theorem dX2_start_30 : decode cX2_start 30 = .ok (.aload_n 0, 1) := by decide +kernel
theorem dX2_start_31 : decode cX2_start 31 = .ok (.iconst (-1), 1) := by decide +kernel
theorem dX2_start_32 : decode cX2_start 32 = .ok (.putfield 30, 3) := by decide +kernel
theorem dX2_start_35 : decode cX2_start 35 = .ok (.aload_n 0, 1) := by decide +kernel
theorem dX2_start_36 : decode cX2_start 36 = .ok (.iconst 0, 1) := by decide +kernel
theorem dX2_start_37 : decode cX2_start 37 = .ok (.putfield 33, 3) := by decide +kernel
theorem dX2_start_40 : decode cX2_start 40 = .ok (.aload_n 0, 1) := by decide +kernel
theorem dX2_start_41 : decode cX2_start 41 = .ok (.iconst 0, 1) := by decide +kernel
theorem dX2_start_42 : decode cX2_start 42 = .ok (.putfield 37, 3) := by decide +kernel
theorem dX2_start_45 : decode cX2_start 45 = .ok (.aload_n 0, 1) := by decide +kernel
theorem dX2_start_46 : decode cX2_start 46 = .ok (.iload_n 2, 1) := by decide +kernel
theorem dX2_start_47 : decode cX2_start 47 = .ok (.putfield 40, 3) := by decide +kernel
theorem dX2_start_50 : decode cX2_start 50 = .ok (.return_, 1) := by decide +kernel
theorem dX2_goBySlowing_0 : decode cX2_goBySlowing 0 = .ok (.aload_n 0, 1) := by decide +kernel
theorem dX2_goBySlowing_1 : decode cX2_goBySlowing 1 = .ok (.iconst 1, 1) := by decide +kernel
theorem dX2_goBySlowing_2 : decode cX2_goBySlowing 2 = .ok (.putfield 33, 3) := by decide +kernel
theorem dX2_goBySlowing_5 : decode cX2_goBySlowing 5 = .ok (.aload_n 0, 1) := by decide +kernel
theorem dX2_goBySlowing_6 : decode cX2_goBySlowing 6 = .ok (.iload_n 2, 1) := by decide +kernel
theorem dX2_goBySlowing_7 : decode cX2_goBySlowing 7 = .ok (.putfield 37, 3) := by decide +kernel
theorem dX2_goBySlowing_10 : decode cX2_goBySlowing 10 = .ok (.aload_n 0, 1) := by decide +kernel
theorem dX2_goBySlowing_11 : decode cX2_goBySlowing 11 = .ok (.iload_n 1, 1) := by decide +kernel
theorem dX2_goBySlowing_12 : decode cX2_goBySlowing 12 = .ok (.putfield 40, 3) := by decide +kernel
theorem dX2_goBySlowing_15 : decode cX2_goBySlowing 15 = .ok (.return_, 1) := by decide +kernel
theorem dX2_takeTick_0 : decode cX2_takeTick 0 = .ok (.iload_n 3, 1) := by decide +kernel
theorem dX2_takeTick_1 : decode cX2_takeTick 1 = .ok (.ifCond .ne 40, 3) := by decide +kernel
theorem dX2_takeTick_4 : decode cX2_takeTick 4 = .ok (.iload_n 1, 1) := by decide +kernel
theorem dX2_takeTick_5 : decode cX2_takeTick 5 = .ok (.ifCond .le 36, 3) := by decide +kernel
theorem dX2_takeTick_8 : decode cX2_takeTick 8 = .ok (.aload_n 0, 1) := by decide +kernel
theorem dX2_takeTick_9 : decode cX2_takeTick 9 = .ok (.dup, 1) := by decide +kernel
theorem dX2_takeTick_10 : decode cX2_takeTick 10 = .ok (.getfield 27, 3) := by decide +kernel
theorem dX2_takeTick_13 : decode cX2_takeTick 13 = .ok (.iload_n 1, 1) := by decide +kernel
theorem dX2_takeTick_14 : decode cX2_takeTick 14 = .ok (.iadd, 1) := by decide +kernel
theorem dX2_takeTick_15 : decode cX2_takeTick 15 = .ok (.putfield 27, 3) := by decide +kernel
theorem dX2_takeTick_18 : decode cX2_takeTick 18 = .ok (.aload_n 0, 1) := by decide +kernel
theorem dX2_takeTick_19 : decode cX2_takeTick 19 = .ok (.aload_n 0, 1) := by decide +kernel
theorem dX2_takeTick_20 : decode cX2_takeTick 20 = .ok (.getfield 30, 3) := by decide +kernel
theorem dX2_takeTick_23 : decode cX2_takeTick 23 = .ok (.iconst (-1), 1) := by decide +kernel
theorem dX2_takeTick_24 : decode cX2_takeTick 24 = .ok (.if_icmp .ne 10, 3) := by decide +kernel
theorem dX2_takeTick_27 : decode cX2_takeTick 27 = .ok (.aload_n 0, 1) := by decide +kernel
theorem dX2_takeTick_28 : decode cX2_takeTick 28 = .ok (.getfield 24, 3) := by decide +kernel
theorem dX2_takeTick_31 : decode cX2_takeTick 31 = .ok (.goto 7, 3) := by decide +kernel
theorem dX2_takeTick_34 : decode cX2_takeTick 34 = .ok (.aload_n 0, 1) := by decide +kernel
theorem dX2_takeTick_35 : decode cX2_takeTick 35 = .ok (.getfield 30, 3) := by decide +kernel
theorem dX2_takeTick_38 : decode cX2_takeTick 38 = .ok (.putfield 30, 3) := by decide +kernel
theorem dX2_takeTick_41 : decode cX2_takeTick 41 = .ok (.aload_n 0, 1) := by decide +kernel
theorem dX2_takeTick_42 : decode cX2_takeTick 42 = .ok (.iload_n 1, 1) := by decide +kernel
theorem dX2_takeTick_43 : decode cX2_takeTick 43 = .ok (.putfield 18, 3) := by decide +kernel
theorem dX2_takeTick_46 : decode cX2_takeTick 46 = .ok (.aload_n 0, 1) := by decide +kernel
theorem dX2_takeTick_47 : decode cX2_takeTick 47 = .ok (.iload_n 2, 1) := by decide +kernel
theorem dX2_takeTick_48 : decode cX2_takeTick 48 = .ok (.putfield 21, 3) := by decide +kernel
theorem dX2_takeTick_51 : decode cX2_takeTick 51 = .ok (.aload_n 0, 1) := by decide +kernel
theorem dX2_takeTick_52 : decode cX2_takeTick 52 = .ok (.dup, 1) := by decide +kernel
theorem dX2_takeTick_53 : decode cX2_takeTick 53 = .ok (.getfield 15, 3) := by decide +kernel
theorem dX2_takeTick_56 : decode cX2_takeTick 56 = .ok (.iload_n 1, 1) := by decide +kernel
theorem dX2_takeTick_57 : decode cX2_takeTick 57 = .ok (.iadd, 1) := by decide +kernel
theorem dX2_takeTick_58 : decode cX2_takeTick 58 = .ok (.putfield 15, 3) := by decide +kernel
theorem dX2_takeTick_61 : decode cX2_takeTick 61 = .ok (.aload_n 0, 1) := by decide +kernel
theorem dX2_takeTick_62 : decode cX2_takeTick 62 = .ok (.dup, 1) := by decide +kernel
theorem dX2_takeTick_63 : decode cX2_takeTick 63 = .ok (.getfield 24, 3) := by decide +kernel
theorem dX2_takeTick_66 : decode cX2_takeTick 66 = .ok (.iconst 1, 1) := by decide +kernel
theorem dX2_takeTick_67 : decode cX2_takeTick 67 = .ok (.iadd, 1) := by decide +kernel
theorem dX2_takeTick_68 : decode cX2_takeTick 68 = .ok (.putfield 24, 3) := by decide +kernel
theorem dX2_takeTick_71 : decode cX2_takeTick 71 = .ok (.aload_n 0, 1) := by decide +kernel
theorem dX2_takeTick_72 : decode cX2_takeTick 72 = .ok (.dup, 1) := by decide +kernel
theorem dX2_takeTick_73 : decode cX2_takeTick 73 = .ok (.getfield 40, 3) := by decide +kernel
theorem dX2_takeTick_76 : decode cX2_takeTick 76 = .ok (.iconst 1, 1) := by decide +kernel
theorem dX2_takeTick_77 : decode cX2_takeTick 77 = .ok (.isub, 1) := by decide +kernel
theorem dX2_takeTick_78 : decode cX2_takeTick 78 = .ok (.putfield 40, 3) := by decide +kernel
theorem dX2_takeTick_81 : decode cX2_takeTick 81 = .ok (.return_, 1) := by decide +kernel
theorem dX2_end_0 : decode cX2_end 0 = .ok (.aload_n 0, 1) := by decide +kernel
theorem dX2_end_1 : decode cX2_end 1 = .ok (.iconst 0, 1) := by decide +kernel
theorem dX2_end_2 : decode cX2_end 2 = .ok (.putfield 40, 3) := by decide +kernel
theorem dX2_end_5 : decode cX2_end 5 = .ok (.return_, 1) := by decide +kernel
theorem dX3_init_0 : decode cX3_init 0 = .ok (.aload_n 0, 1) := by decide +kernel
theorem dX3_init_1 : decode cX3_init 1 = .ok (.invokespecial 3, 3) := by decide +kernel
theorem dX3_init_4 : decode cX3_init 4 = .ok (.aload_n 0, 1) := by decide +kernel
theorem dX3_init_5 : decode cX3_init 5 = .ok (.sipush 23517, 3) := by decide +kernel
theorem dX3_init_8 : decode cX3_init 8 = .ok (.newarray .int, 2) := by decide +kernel
theorem dX3_init_10 : decode cX3_init 10 = .ok (.putfield 9, 3) := by decide +kernel
theorem dX3_init_13 : decode cX3_init 13 = .ok (.aload_n 0, 1) := by decide +kernel
theorem dX3_init_14 : decode cX3_init 14 = .ok (.sipush 23517, 3) := by decide +kernel
theorem dX3_init_17 : decode cX3_init 17 = .ok (.newarray .int, 2) := by decide +kernel
theorem dX3_init_19 : decode cX3_init 19 = .ok (.putfield 15, 3) := by decide +kernel
theorem dX3_init_22 : decode cX3_init 22 = .ok (.aload_n 0, 1) := by decide +kernel
theorem dX3_init_23 : decode cX3_init 23 = .ok (.iconst 0, 1) := by decide +kernel
theorem dX3_init_24 : decode cX3_init 24 = .ok (.putfield 18, 3) := by decide +kernel
theorem dX3_init_27 : decode cX3_init 27 = .ok (.aload_n 0, 1) := by decide +kernel
theorem dX3_init_28 : decode cX3_init 28 = .ok (.iconst 0, 1) := by decide +kernel
theorem dX3_init_29 : decode cX3_init 29 = .ok (.putfield 22, 3) := by decide +kernel
theorem dX3_init_32 : decode cX3_init 32 = .ok (.aload_n 0, 1) := by decide +kernel
theorem dX3_init_33 : decode cX3_init 33 = .ok (.iconst 0, 1) := by decide +kernel
theorem dX3_init_34 : decode cX3_init 34 = .ok (.putfield 25, 3) := by decide +kernel
theorem dX3_init_37 : decode cX3_init 37 = .ok (.return_, 1) := by decide +kernel
theorem dX3_ticksOf_0 : decode cX3_ticksOf 0 = .ok (.iload_n 2, 1) := by decide +kernel
theorem dX3_ticksOf_1 : decode cX3_ticksOf 1 = .ok (.iconst 0, 1) := by decide +kernel
theorem dX3_ticksOf_2 : decode cX3_ticksOf 2 = .ok (.sipush 200, 3) := by decide +kernel
theorem dX3_ticksOf_5 : decode cX3_ticksOf 5 = .ok (.invokestatic 28, 3) := by decide +kernel
theorem dX3_ticksOf_8 : decode cX3_ticksOf 8 = .ok (.ifCond .ne 5, 3) := by decide +kernel
theorem dX3_ticksOf_11 : decode cX3_ticksOf 11 = .ok (.iconst (-1), 1) := by decide +kernel
theorem dX3_ticksOf_12 : decode cX3_ticksOf 12 = .ok (.ireturn, 1) := by decide +kernel
theorem dX3_ticksOf_13 : decode cX3_ticksOf 13 = .ok (.aload_n 0, 1) := by decide +kernel
theorem dX3_ticksOf_14 : decode cX3_ticksOf 14 = .ok (.getfield 25, 3) := by decide +kernel
theorem dX3_ticksOf_17 : decode cX3_ticksOf 17 = .ok (.aload_n 1, 1) := by decide +kernel
theorem dX3_ticksOf_18 : decode cX3_ticksOf 18 = .ok (.getfield 32, 3) := by decide +kernel
theorem dX3_ticksOf_21 : decode cX3_ticksOf 21 = .ok (.if_icmp .eq 8, 3) := by decide +kernel
theorem dX3_ticksOf_24 : decode cX3_ticksOf 24 = .ok (.aload_n 0, 1) := by decide +kernel
theorem dX3_ticksOf_25 : decode cX3_ticksOf 25 = .ok (.aload_n 1, 1) := by decide +kernel
theorem dX3_ticksOf_26 : decode cX3_ticksOf 26 = .ok (.invokevirtual 35, 3) := by decide +kernel
theorem dX3_ticksOf_29 : decode cX3_ticksOf 29 = .ok (.aload_n 0, 1) := by decide +kernel
theorem dX3_ticksOf_30 : decode cX3_ticksOf 30 = .ok (.getfield 18, 3) := by decide +kernel
theorem dX3_ticksOf_33 : decode cX3_ticksOf 33 = .ok (.aload_n 0, 1) := by decide +kernel
theorem dX3_ticksOf_34 : decode cX3_ticksOf 34 = .ok (.getfield 22, 3) := by decide +kernel
theorem dX3_ticksOf_37 : decode cX3_ticksOf 37 = .ok (.if_icmp .ge 55, 3) := by decide +kernel
theorem dX3_ticksOf_40 : decode cX3_ticksOf 40 = .ok (.aload_n 0, 1) := by decide +kernel
theorem dX3_ticksOf_41 : decode cX3_ticksOf 41 = .ok (.getfield 15, 3) := by decide +kernel
theorem dX3_ticksOf_44 : decode cX3_ticksOf 44 = .ok (.aload_n 0, 1) := by decide +kernel
theorem dX3_ticksOf_45 : decode cX3_ticksOf 45 = .ok (.getfield 18, 3) := by decide +kernel
theorem dX3_ticksOf_48 : decode cX3_ticksOf 48 = .ok (.invokestatic 39, 3) := by decide +kernel
theorem dX3_ticksOf_51 : decode cX3_ticksOf 51 = .ok (.ifCond .eq 41, 3) := by decide +kernel
theorem dX3_ticksOf_54 : decode cX3_ticksOf 54 = .ok (.aload_n 0, 1) := by decide +kernel
theorem dX3_ticksOf_55 : decode cX3_ticksOf 55 = .ok (.iconst 0, 1) := by decide +kernel
theorem dX3_ticksOf_56 : decode cX3_ticksOf 56 = .ok (.iconst 0, 1) := by decide +kernel
theorem dX3_ticksOf_57 : decode cX3_ticksOf 57 = .ok (.iload_n 2, 1) := by decide +kernel
theorem dX3_ticksOf_58 : decode cX3_ticksOf 58 = .ok (.invokevirtual 43, 3) := by decide +kernel
theorem dX3_ticksOf_61 : decode cX3_ticksOf 61 = .ok (.iconst (-1), 1) := by decide +kernel
theorem dX3_ticksOf_62 : decode cX3_ticksOf 62 = .ok (.if_icmp .ne 30, 3) := by decide +kernel
theorem dX3_ticksOf_65 : decode cX3_ticksOf 65 = .ok (.aload_n 0, 1) := by decide +kernel
theorem dX3_ticksOf_66 : decode cX3_ticksOf 66 = .ok (.aload_n 1, 1) := by decide +kernel
theorem dX3_ticksOf_67 : decode cX3_ticksOf 67 = .ok (.aload_n 0, 1) := by decide +kernel
theorem dX3_ticksOf_68 : decode cX3_ticksOf 68 = .ok (.getfield 15, 3) := by decide +kernel
theorem dX3_ticksOf_71 : decode cX3_ticksOf 71 = .ok (.aload_n 0, 1) := by decide +kernel
theorem dX3_ticksOf_72 : decode cX3_ticksOf 72 = .ok (.getfield 18, 3) := by decide +kernel
theorem dX3_ticksOf_75 : decode cX3_ticksOf 75 = .ok (.iaload, 1) := by decide +kernel
theorem dX3_ticksOf_76 : decode cX3_ticksOf 76 = .ok (.invokevirtual 47, 3) := by decide +kernel
theorem dX3_ticksOf_79 : decode cX3_ticksOf 79 = .ok (.aload_n 0, 1) := by decide +kernel
theorem dX3_ticksOf_80 : decode cX3_ticksOf 80 = .ok (.dup, 1) := by decide +kernel
theorem dX3_ticksOf_81 : decode cX3_ticksOf 81 = .ok (.getfield 18, 3) := by decide +kernel
theorem dX3_ticksOf_84 : decode cX3_ticksOf 84 = .ok (.iconst 1, 1) := by decide +kernel
theorem dX3_ticksOf_85 : decode cX3_ticksOf 85 = .ok (.iadd, 1) := by decide +kernel
theorem dX3_ticksOf_86 : decode cX3_ticksOf 86 = .ok (.putfield 18, 3) := by decide +kernel
theorem dX3_ticksOf_89 : decode cX3_ticksOf 89 = .ok (.goto (-60), 3) := by decide +kernel
theorem dX3_ticksOf_92 : decode cX3_ticksOf 92 = .ok (.aload_n 0, 1) := by decide +kernel
theorem dX3_ticksOf_93 : decode cX3_ticksOf 93 = .ok (.iconst 0, 1) := by decide +kernel
theorem dX3_ticksOf_94 : decode cX3_ticksOf 94 = .ok (.iconst 0, 1) := by decide +kernel
theorem dX3_ticksOf_95 : decode cX3_ticksOf 95 = .ok (.iload_n 2, 1) := by decide +kernel
theorem dX3_ticksOf_96 : decode cX3_ticksOf 96 = .ok (.invokevirtual 43, 3) := by decide +kernel
theorem dX3_ticksOf_99 : decode cX3_ticksOf 99 = .ok (.ireturn, 1) := by decide +kernel
theorem dX3_speedIn_0 : decode cX3_speedIn 0 = .ok (.iconst 0, 1) := by decide +kernel
theorem dX3_speedIn_1 : decode cX3_speedIn 1 = .ok (.istore 4, 2) := by decide +kernel
theorem dX3_speedIn_3 : decode cX3_speedIn 3 = .ok (.iconst 0, 1) := by decide +kernel
theorem dX3_speedIn_4 : decode cX3_speedIn 4 = .ok (.istore 5, 2) := by decide +kernel
theorem dX3_speedIn_6 : decode cX3_speedIn 6 = .ok (.iload_n 2, 1) := by decide +kernel
theorem dX3_speedIn_7 : decode cX3_speedIn 7 = .ok (.istore 6, 2) := by decide +kernel
theorem dX3_speedIn_9 : decode cX3_speedIn 9 = .ok (.iconst 0, 1) := by decide +kernel
theorem dX3_speedIn_10 : decode cX3_speedIn 10 = .ok (.istore 7, 2) := by decide +kernel
theorem dX3_speedIn_12 : decode cX3_speedIn 12 = .ok (.iload 7, 2) := by decide +kernel
theorem dX3_speedIn_14 : decode cX3_speedIn 14 = .ok (.iload_n 3, 1) := by decide +kernel
theorem dX3_speedIn_15 : decode cX3_speedIn 15 = .ok (.if_icmp .gt 44, 3) := by decide +kernel
theorem dX3_speedIn_18 : decode cX3_speedIn 18 = .ok (.aload_n 0, 1) := by decide +kernel
theorem dX3_speedIn_19 : decode cX3_speedIn 19 = .ok (.aload_n 1, 1) := by decide +kernel
theorem dX3_speedIn_20 : decode cX3_speedIn 20 = .ok (.iload 4, 2) := by decide +kernel
theorem dX3_speedIn_22 : decode cX3_speedIn 22 = .ok (.iload 5, 2) := by decide +kernel
theorem dX3_speedIn_24 : decode cX3_speedIn 24 = .ok (.iload 6, 2) := by decide +kernel
theorem dX3_speedIn_26 : decode cX3_speedIn 26 = .ok (.invokevirtual 51, 3) := by decide +kernel
theorem dX3_speedIn_29 : decode cX3_speedIn 29 = .ok (.istore 5, 2) := by decide +kernel
theorem dX3_speedIn_31 : decode cX3_speedIn 31 = .ok (.iload 5, 2) := by decide +kernel
theorem dX3_speedIn_33 : decode cX3_speedIn 33 = .ok (.iconst 5, 1) := by decide +kernel
theorem dX3_speedIn_34 : decode cX3_speedIn 34 = .ok (.if_icmp .ne 5, 3) := by decide +kernel
theorem dX3_speedIn_37 : decode cX3_speedIn 37 = .ok (.iconst (-1), 1) := by decide +kernel
theorem dX3_speedIn_38 : decode cX3_speedIn 38 = .ok (.ireturn, 1) := by decide +kernel
theorem dX3_speedIn_39 : decode cX3_speedIn 39 = .ok (.iload 4, 2) := by decide +kernel
theorem dX3_speedIn_41 : decode cX3_speedIn 41 = .ok (.iload 5, 2) := by decide +kernel
theorem dX3_speedIn_43 : decode cX3_speedIn 43 = .ok (.iadd, 1) := by decide +kernel
theorem dX3_speedIn_44 : decode cX3_speedIn 44 = .ok (.istore 4, 2) := by decide +kernel
theorem dX3_speedIn_46 : decode cX3_speedIn 46 = .ok (.iload 6, 2) := by decide +kernel
theorem dX3_speedIn_48 : decode cX3_speedIn 48 = .ok (.iload 4, 2) := by decide +kernel
theorem dX3_speedIn_50 : decode cX3_speedIn 50 = .ok (.isub, 1) := by decide +kernel
theorem dX3_speedIn_51 : decode cX3_speedIn 51 = .ok (.istore 6, 2) := by decide +kernel
theorem dX3_speedIn_53 : decode cX3_speedIn 53 = .ok (.iinc 7 1, 3) := by decide +kernel
theorem dX3_speedIn_56 : decode cX3_speedIn 56 = .ok (.goto (-44), 3) := by decide +kernel
theorem dX3_speedIn_59 : decode cX3_speedIn 59 = .ok (.iload 4, 2) := by decide +kernel
theorem dX3_speedIn_61 : decode cX3_speedIn 61 = .ok (.ireturn, 1) := by decide +kernel
theorem dX3_nextChange_0 : decode cX3_nextChange 0 = .ok (.aload_n 0, 1) := by decide +kernel
theorem dX3_nextChange_1 : decode cX3_nextChange 1 = .ok (.iload_n 2, 1) := by decide +kernel
theorem dX3_nextChange_2 : decode cX3_nextChange 2 = .ok (.iload_n 3, 1) := by decide +kernel
theorem dX3_nextChange_3 : decode cX3_nextChange 3 = .ok (.iload 4, 2) := by decide +kernel
theorem dX3_nextChange_5 : decode cX3_nextChange 5 = .ok (.invokevirtual 43, 3) := by decide +kernel
theorem dX3_nextChange_8 : decode cX3_nextChange 8 = .ok (.istore 5, 2) := by decide +kernel
theorem dX3_nextChange_10 : decode cX3_nextChange 10 = .ok (.iload 5, 2) := by decide +kernel
theorem dX3_nextChange_12 : decode cX3_nextChange 12 = .ok (.iconst 1, 1) := by decide +kernel
theorem dX3_nextChange_13 : decode cX3_nextChange 13 = .ok (.if_icmp .ge 5, 3) := by decide +kernel
theorem dX3_nextChange_16 : decode cX3_nextChange 16 = .ok (.iconst 5, 1) := by decide +kernel
theorem dX3_nextChange_17 : decode cX3_nextChange 17 = .ok (.ireturn, 1) := by decide +kernel
theorem dX3_nextChange_18 : decode cX3_nextChange 18 = .ok (.aload_n 1, 1) := by decide +kernel
theorem dX3_nextChange_19 : decode cX3_nextChange 19 = .ok (.iload_n 3, 1) := by decide +kernel
theorem dX3_nextChange_20 : decode cX3_nextChange 20 = .ok (.invokevirtual 55, 3) := by decide +kernel
theorem dX3_nextChange_23 : decode cX3_nextChange 23 = .ok (.istore 6, 2) := by decide +kernel
theorem dX3_nextChange_25 : decode cX3_nextChange 25 = .ok (.aload_n 1, 1) := by decide +kernel
theorem dX3_nextChange_26 : decode cX3_nextChange 26 = .ok (.iload_n 3, 1) := by decide +kernel
theorem dX3_nextChange_27 : decode cX3_nextChange 27 = .ok (.invokevirtual 59, 3) := by decide +kernel
theorem dX3_nextChange_30 : decode cX3_nextChange 30 = .ok (.istore 7, 2) := by decide +kernel
theorem dX3_nextChange_32 : decode cX3_nextChange 32 = .ok (.iload 7, 2) := by decide +kernel
theorem dX3_nextChange_34 : decode cX3_nextChange 34 = .ok (.iload 6, 2) := by decide +kernel
theorem dX3_nextChange_36 : decode cX3_nextChange 36 = .ok (.if_icmp .lt 53, 3) := by decide +kernel
theorem dX3_nextChange_39 : decode cX3_nextChange 39 = .ok (.iload_n 2, 1) := by decide +kernel
theorem dX3_nextChange_40 : decode cX3_nextChange 40 = .ok (.iload 7, 2) := by decide +kernel
theorem dX3_nextChange_42 : decode cX3_nextChange 42 = .ok (.iadd, 1) := by decide +kernel
theorem dX3_nextChange_43 : decode cX3_nextChange 43 = .ok (.istore 8, 2) := by decide +kernel
theorem dX3_nextChange_45 : decode cX3_nextChange 45 = .ok (.aload_n 1, 1) := by decide +kernel
theorem dX3_nextChange_46 : decode cX3_nextChange 46 = .ok (.iload 8, 2) := by decide +kernel
theorem dX3_nextChange_48 : decode cX3_nextChange 48 = .ok (.iload 7, 2) := by decide +kernel
theorem dX3_nextChange_50 : decode cX3_nextChange 50 = .ok (.aload_n 1, 1) := by decide +kernel
theorem dX3_nextChange_51 : decode cX3_nextChange 51 = .ok (.getfield 62, 3) := by decide +kernel
theorem dX3_nextChange_54 : decode cX3_nextChange 54 = .ok (.invokevirtual 66, 3) := by decide +kernel
theorem dX3_nextChange_57 : decode cX3_nextChange 57 = .ok (.ifCond .eq 26, 3) := by decide +kernel
theorem dX3_nextChange_60 : decode cX3_nextChange 60 = .ok (.aload_n 0, 1) := by decide +kernel
theorem dX3_nextChange_61 : decode cX3_nextChange 61 = .ok (.iload 8, 2) := by decide +kernel
theorem dX3_nextChange_63 : decode cX3_nextChange 63 = .ok (.iload 7, 2) := by decide +kernel
theorem dX3_nextChange_65 : decode cX3_nextChange 65 = .ok (.iload 4, 2) := by decide +kernel
theorem dX3_nextChange_67 : decode cX3_nextChange 67 = .ok (.iload 8, 2) := by decide +kernel
theorem dX3_nextChange_69 : decode cX3_nextChange 69 = .ok (.isub, 1) := by decide +kernel
theorem dX3_nextChange_70 : decode cX3_nextChange 70 = .ok (.invokevirtual 43, 3) := by decide +kernel
theorem dX3_nextChange_73 : decode cX3_nextChange 73 = .ok (.iload 5, 2) := by decide +kernel
theorem dX3_nextChange_75 : decode cX3_nextChange 75 = .ok (.iconst 1, 1) := by decide +kernel
theorem dX3_nextChange_76 : decode cX3_nextChange 76 = .ok (.isub, 1) := by decide +kernel
theorem dX3_nextChange_77 : decode cX3_nextChange 77 = .ok (.if_icmp .ne 6, 3) := by decide +kernel
theorem dX3_nextChange_80 : decode cX3_nextChange 80 = .ok (.iload 7, 2) := by decide +kernel
theorem dX3_nextChange_82 : decode cX3_nextChange 82 = .ok (.ireturn, 1) := by decide +kernel
theorem dX3_nextChange_83 : decode cX3_nextChange 83 = .ok (.iinc 7 (-1), 3) := by decide +kernel
theorem dX3_nextChange_86 : decode cX3_nextChange 86 = .ok (.goto (-54), 3) := by decide +kernel
theorem dX3_nextChange_89 : decode cX3_nextChange 89 = .ok (.iconst 5, 1) := by decide +kernel
theorem dX3_nextChange_90 : decode cX3_nextChange 90 = .ok (.ireturn, 1) := by decide +kernel
theorem dX3_begin_0 : decode cX3_begin 0 = .ok (.aload_n 0, 1) := by decide +kernel
theorem dX3_begin_1 : decode cX3_begin 1 = .ok (.aload_n 1, 1) := by decide +kernel
theorem dX3_begin_2 : decode cX3_begin 2 = .ok (.getfield 32, 3) := by decide +kernel
theorem dX3_begin_5 : decode cX3_begin 5 = .ok (.putfield 25, 3) := by decide +kernel
theorem dX3_begin_8 : decode cX3_begin 8 = .ok (.aload_n 0, 1) := by decide +kernel
theorem dX3_begin_9 : decode cX3_begin 9 = .ok (.getfield 9, 3) := by decide +kernel
theorem dX3_begin_12 : decode cX3_begin 12 = .ok (.iconst (-1), 1) := by decide +kernel
theorem dX3_begin_13 : decode cX3_begin 13 = .ok (.invokestatic 70, 3) := by decide +kernel
theorem dX3_begin_16 : decode cX3_begin 16 = .ok (.aload_n 0, 1) := by decide +kernel
theorem dX3_begin_17 : decode cX3_begin 17 = .ok (.iconst 0, 1) := by decide +kernel
theorem dX3_begin_18 : decode cX3_begin 18 = .ok (.putfield 18, 3) := by decide +kernel
theorem dX3_begin_21 : decode cX3_begin 21 = .ok (.aload_n 0, 1) := by decide +kernel
theorem dX3_begin_22 : decode cX3_begin 22 = .ok (.iconst 0, 1) := by decide +kernel
theorem dX3_begin_23 : decode cX3_begin 23 = .ok (.putfield 22, 3) := by decide +kernel
theorem dX3_begin_26 : decode cX3_begin 26 = .ok (.bipush (-4), 2) := by decide +kernel
theorem dX3_begin_28 : decode cX3_begin 28 = .ok (.istore_n 2, 1) := by decide +kernel
theorem dX3_begin_29 : decode cX3_begin 29 = .ok (.iload_n 2, 1) := by decide +kernel
theorem dX3_begin_30 : decode cX3_begin 30 = .ok (.iconst 4, 1) := by decide +kernel
theorem dX3_begin_31 : decode cX3_begin 31 = .ok (.if_icmp .gt 29, 3) := by decide +kernel
theorem dX3_begin_34 : decode cX3_begin 34 = .ok (.aload_n 1, 1) := by decide +kernel
theorem dX3_begin_35 : decode cX3_begin 35 = .ok (.iconst 0, 1) := by decide +kernel
theorem dX3_begin_36 : decode cX3_begin 36 = .ok (.iload_n 2, 1) := by decide +kernel
theorem dX3_begin_37 : decode cX3_begin 37 = .ok (.invokevirtual 76, 3) := by decide +kernel
theorem dX3_begin_40 : decode cX3_begin 40 = .ok (.ifCond .eq 14, 3) := by decide +kernel
theorem dX3_begin_43 : decode cX3_begin 43 = .ok (.aload_n 0, 1) := by decide +kernel
theorem dX3_begin_44 : decode cX3_begin 44 = .ok (.iconst 0, 1) := by decide +kernel
theorem dX3_begin_45 : decode cX3_begin 45 = .ok (.iload_n 2, 1) := by decide +kernel
theorem dX3_begin_46 : decode cX3_begin 46 = .ok (.iconst 0, 1) := by decide +kernel
theorem dX3_begin_47 : decode cX3_begin 47 = .ok (.invokestatic 80, 3) := by decide +kernel
theorem dX3_begin_50 : decode cX3_begin 50 = .ok (.iconst 0, 1) := by decide +kernel
theorem dX3_begin_51 : decode cX3_begin 51 = .ok (.invokevirtual 83, 3) := by decide +kernel
theorem dX3_begin_54 : decode cX3_begin 54 = .ok (.iinc 2 1, 3) := by decide +kernel
theorem dX3_begin_57 : decode cX3_begin 57 = .ok (.goto (-28), 3) := by decide +kernel
theorem dX3_begin_60 : decode cX3_begin 60 = .ok (.return_, 1) := by decide +kernel
theorem dX3_lookBehind_0 : decode cX3_lookBehind 0 = .ok (.iload_n 2, 1) := by decide +kernel
theorem dX3_lookBehind_1 : decode cX3_lookBehind 1 = .ok (.sipush 201, 3) := by decide +kernel
theorem dX3_lookBehind_4 : decode cX3_lookBehind 4 = .ok (.idiv, 1) := by decide +kernel
theorem dX3_lookBehind_5 : decode cX3_lookBehind 5 = .ok (.istore_n 3, 1) := by decide +kernel
theorem dX3_lookBehind_6 : decode cX3_lookBehind 6 = .ok (.iload_n 3, 1) := by decide +kernel
theorem dX3_lookBehind_7 : decode cX3_lookBehind 7 = .ok (.bipush 9, 2) := by decide +kernel
theorem dX3_lookBehind_9 : decode cX3_lookBehind 9 = .ok (.idiv, 1) := by decide +kernel
theorem dX3_lookBehind_10 : decode cX3_lookBehind 10 = .ok (.istore 4, 2) := by decide +kernel
theorem dX3_lookBehind_12 : decode cX3_lookBehind 12 = .ok (.iload_n 3, 1) := by decide +kernel
theorem dX3_lookBehind_13 : decode cX3_lookBehind 13 = .ok (.bipush 9, 2) := by decide +kernel
theorem dX3_lookBehind_15 : decode cX3_lookBehind 15 = .ok (.irem, 1) := by decide +kernel
theorem dX3_lookBehind_16 : decode cX3_lookBehind 16 = .ok (.iconst 4, 1) := by decide +kernel
theorem dX3_lookBehind_17 : decode cX3_lookBehind 17 = .ok (.isub, 1) := by decide +kernel
theorem dX3_lookBehind_18 : decode cX3_lookBehind 18 = .ok (.istore 5, 2) := by decide +kernel
theorem dX3_lookBehind_20 : decode cX3_lookBehind 20 = .ok (.iload 4, 2) := by decide +kernel
theorem dX3_lookBehind_22 : decode cX3_lookBehind 22 = .ok (.iload 5, 2) := by decide +kernel
theorem dX3_lookBehind_24 : decode cX3_lookBehind 24 = .ok (.isub, 1) := by decide +kernel
theorem dX3_lookBehind_25 : decode cX3_lookBehind 25 = .ok (.istore 6, 2) := by decide +kernel
theorem dX3_lookBehind_27 : decode cX3_lookBehind 27 = .ok (.iload_n 2, 1) := by decide +kernel
theorem dX3_lookBehind_28 : decode cX3_lookBehind 28 = .ok (.sipush 201, 3) := by decide +kernel
theorem dX3_lookBehind_31 : decode cX3_lookBehind 31 = .ok (.irem, 1) := by decide +kernel
theorem dX3_lookBehind_32 : decode cX3_lookBehind 32 = .ok (.istore 7, 2) := by decide +kernel
theorem dX3_lookBehind_34 : decode cX3_lookBehind 34 = .ok (.iload 7, 2) := by decide +kernel
theorem dX3_lookBehind_36 : decode cX3_lookBehind 36 = .ok (.iload 4, 2) := by decide +kernel
theorem dX3_lookBehind_38 : decode cX3_lookBehind 38 = .ok (.iadd, 1) := by decide +kernel
theorem dX3_lookBehind_39 : decode cX3_lookBehind 39 = .ok (.istore 8, 2) := by decide +kernel
theorem dX3_lookBehind_41 : decode cX3_lookBehind 41 = .ok (.iload 8, 2) := by decide +kernel
theorem dX3_lookBehind_43 : decode cX3_lookBehind 43 = .ok (.sipush 200, 3) := by decide +kernel
theorem dX3_lookBehind_46 : decode cX3_lookBehind 46 = .ok (.if_icmp .gt 27, 3) := by decide +kernel
theorem dX3_lookBehind_49 : decode cX3_lookBehind 49 = .ok (.aload_n 1, 1) := by decide +kernel
theorem dX3_lookBehind_50 : decode cX3_lookBehind 50 = .ok (.iload 6, 2) := by decide +kernel
theorem dX3_lookBehind_52 : decode cX3_lookBehind 52 = .ok (.invokevirtual 87, 3) := by decide +kernel
theorem dX3_lookBehind_55 : decode cX3_lookBehind 55 = .ok (.ifCond .eq 18, 3) := by decide +kernel
theorem dX3_lookBehind_58 : decode cX3_lookBehind 58 = .ok (.aload_n 1, 1) := by decide +kernel
theorem dX3_lookBehind_59 : decode cX3_lookBehind 59 = .ok (.iload 4, 2) := by decide +kernel
theorem dX3_lookBehind_61 : decode cX3_lookBehind 61 = .ok (.iload 5, 2) := by decide +kernel
theorem dX3_lookBehind_63 : decode cX3_lookBehind 63 = .ok (.aload_n 1, 1) := by decide +kernel
theorem dX3_lookBehind_64 : decode cX3_lookBehind 64 = .ok (.getfield 62, 3) := by decide +kernel
theorem dX3_lookBehind_67 : decode cX3_lookBehind 67 = .ok (.invokevirtual 66, 3) := by decide +kernel
theorem dX3_lookBehind_70 : decode cX3_lookBehind 70 = .ok (.ifCond .ne 4, 3) := by decide +kernel
theorem dX3_lookBehind_73 : decode cX3_lookBehind 73 = .ok (.return_, 1) := by decide +kernel
theorem dX3_lookBehind_74 : decode cX3_lookBehind 74 = .ok (.aload_n 0, 1) := by decide +kernel
theorem dX3_lookBehind_75 : decode cX3_lookBehind 75 = .ok (.iload 4, 2) := by decide +kernel
theorem dX3_lookBehind_77 : decode cX3_lookBehind 77 = .ok (.iload 5, 2) := by decide +kernel
theorem dX3_lookBehind_79 : decode cX3_lookBehind 79 = .ok (.iload 7, 2) := by decide +kernel
theorem dX3_lookBehind_81 : decode cX3_lookBehind 81 = .ok (.invokevirtual 43, 3) := by decide +kernel
theorem dX3_lookBehind_84 : decode cX3_lookBehind 84 = .ok (.iconst 1, 1) := by decide +kernel
theorem dX3_lookBehind_85 : decode cX3_lookBehind 85 = .ok (.iadd, 1) := by decide +kernel
theorem dX3_lookBehind_86 : decode cX3_lookBehind 86 = .ok (.istore 9, 2) := by decide +kernel
theorem dX3_lookBehind_88 : decode cX3_lookBehind 88 = .ok (.aload_n 1, 1) := by decide +kernel
theorem dX3_lookBehind_89 : decode cX3_lookBehind 89 = .ok (.iload 5, 2) := by decide +kernel
theorem dX3_lookBehind_91 : decode cX3_lookBehind 91 = .ok (.invokevirtual 59, 3) := by decide +kernel
theorem dX3_lookBehind_94 : decode cX3_lookBehind 94 = .ok (.istore 10, 2) := by decide +kernel
theorem dX3_lookBehind_96 : decode cX3_lookBehind 96 = .ok (.aload_n 1, 1) := by decide +kernel
theorem dX3_lookBehind_97 : decode cX3_lookBehind 97 = .ok (.iload 5, 2) := by decide +kernel
theorem dX3_lookBehind_99 : decode cX3_lookBehind 99 = .ok (.invokevirtual 55, 3) := by decide +kernel
theorem dX3_lookBehind_102 : decode cX3_lookBehind 102 = .ok (.istore 11, 2) := by decide +kernel
theorem dX3_lookBehind_104 : decode cX3_lookBehind 104 = .ok (.iload 11, 2) := by decide +kernel
theorem dX3_lookBehind_106 : decode cX3_lookBehind 106 = .ok (.iload 10, 2) := by decide +kernel
theorem dX3_lookBehind_108 : decode cX3_lookBehind 108 = .ok (.if_icmp .gt 24, 3) := by decide +kernel
theorem dX3_lookBehind_111 : decode cX3_lookBehind 111 = .ok (.aload_n 0, 1) := by decide +kernel
theorem dX3_lookBehind_112 : decode cX3_lookBehind 112 = .ok (.iload 6, 2) := by decide +kernel
theorem dX3_lookBehind_114 : decode cX3_lookBehind 114 = .ok (.iload 11, 2) := by decide +kernel
theorem dX3_lookBehind_116 : decode cX3_lookBehind 116 = .ok (.iload 8, 2) := by decide +kernel
theorem dX3_lookBehind_118 : decode cX3_lookBehind 118 = .ok (.invokestatic 80, 3) := by decide +kernel
theorem dX3_lookBehind_121 : decode cX3_lookBehind 121 = .ok (.iload 9, 2) := by decide +kernel
theorem dX3_lookBehind_123 : decode cX3_lookBehind 123 = .ok (.invokevirtual 83, 3) := by decide +kernel
theorem dX3_lookBehind_126 : decode cX3_lookBehind 126 = .ok (.iinc 11 1, 3) := by decide +kernel
theorem dX3_lookBehind_129 : decode cX3_lookBehind 129 = .ok (.goto (-25), 3) := by decide +kernel
theorem dX3_lookBehind_132 : decode cX3_lookBehind 132 = .ok (.return_, 1) := by decide +kernel
theorem dX3_find_0 : decode cX3_find 0 = .ok (.aload_n 0, 1) := by decide +kernel
theorem dX3_find_1 : decode cX3_find 1 = .ok (.getfield 9, 3) := by decide +kernel
theorem dX3_find_4 : decode cX3_find 4 = .ok (.iload_n 1, 1) := by decide +kernel
theorem dX3_find_5 : decode cX3_find 5 = .ok (.invokestatic 39, 3) := by decide +kernel
theorem dX3_find_8 : decode cX3_find 8 = .ok (.ifCond .eq 54, 3) := by decide +kernel
theorem dX3_find_11 : decode cX3_find 11 = .ok (.aload_n 0, 1) := by decide +kernel
theorem dX3_find_12 : decode cX3_find 12 = .ok (.getfield 9, 3) := by decide +kernel
theorem dX3_find_15 : decode cX3_find 15 = .ok (.iload_n 1, 1) := by decide +kernel
theorem dX3_find_16 : decode cX3_find 16 = .ok (.iaload, 1) := by decide +kernel
theorem dX3_find_17 : decode cX3_find 17 = .ok (.iconst (-1), 1) := by decide +kernel
theorem dX3_find_18 : decode cX3_find 18 = .ok (.if_icmp .ne 44, 3) := by decide +kernel
theorem dX3_find_21 : decode cX3_find 21 = .ok (.aload_n 0, 1) := by decide +kernel
theorem dX3_find_22 : decode cX3_find 22 = .ok (.getfield 15, 3) := by decide +kernel
theorem dX3_find_25 : decode cX3_find 25 = .ok (.aload_n 0, 1) := by decide +kernel
theorem dX3_find_26 : decode cX3_find 26 = .ok (.getfield 22, 3) := by decide +kernel
theorem dX3_find_29 : decode cX3_find 29 = .ok (.invokestatic 39, 3) := by decide +kernel
theorem dX3_find_32 : decode cX3_find 32 = .ok (.ifCond .eq 30, 3) := by decide +kernel
theorem dX3_find_35 : decode cX3_find 35 = .ok (.aload_n 0, 1) := by decide +kernel
theorem dX3_find_36 : decode cX3_find 36 = .ok (.getfield 9, 3) := by decide +kernel
theorem dX3_find_39 : decode cX3_find 39 = .ok (.iload_n 1, 1) := by decide +kernel
theorem dX3_find_40 : decode cX3_find 40 = .ok (.iload_n 2, 1) := by decide +kernel
theorem dX3_find_41 : decode cX3_find 41 = .ok (.iastore, 1) := by decide +kernel
theorem dX3_find_42 : decode cX3_find 42 = .ok (.aload_n 0, 1) := by decide +kernel
theorem dX3_find_43 : decode cX3_find 43 = .ok (.getfield 15, 3) := by decide +kernel
theorem dX3_find_46 : decode cX3_find 46 = .ok (.aload_n 0, 1) := by decide +kernel
theorem dX3_find_47 : decode cX3_find 47 = .ok (.getfield 22, 3) := by decide +kernel
theorem dX3_find_50 : decode cX3_find 50 = .ok (.iload_n 1, 1) := by decide +kernel
theorem dX3_find_51 : decode cX3_find 51 = .ok (.iastore, 1) := by decide +kernel
theorem dX3_find_52 : decode cX3_find 52 = .ok (.aload_n 0, 1) := by decide +kernel
theorem dX3_find_53 : decode cX3_find 53 = .ok (.dup, 1) := by decide +kernel
theorem dX3_find_54 : decode cX3_find 54 = .ok (.getfield 22, 3) := by decide +kernel
theorem dX3_find_57 : decode cX3_find 57 = .ok (.iconst 1, 1) := by decide +kernel
theorem dX3_find_58 : decode cX3_find 58 = .ok (.iadd, 1) := by decide +kernel
theorem dX3_find_59 : decode cX3_find 59 = .ok (.putfield 22, 3) := by decide +kernel
theorem dX3_find_62 : decode cX3_find 62 = .ok (.return_, 1) := by decide +kernel
theorem dX3_ticksAt_0 : decode cX3_ticksAt 0 = .ok (.iload_n 1, 1) := by decide +kernel
theorem dX3_ticksAt_1 : decode cX3_ticksAt 1 = .ok (.iload_n 2, 1) := by decide +kernel
theorem dX3_ticksAt_2 : decode cX3_ticksAt 2 = .ok (.iload_n 3, 1) := by decide +kernel
theorem dX3_ticksAt_3 : decode cX3_ticksAt 3 = .ok (.invokestatic 80, 3) := by decide +kernel
theorem dX3_ticksAt_6 : decode cX3_ticksAt 6 = .ok (.istore 4, 2) := by decide +kernel
theorem dX3_ticksAt_8 : decode cX3_ticksAt 8 = .ok (.iload_n 3, 1) := by decide +kernel
theorem dX3_ticksAt_9 : decode cX3_ticksAt 9 = .ok (.iconst 0, 1) := by decide +kernel
theorem dX3_ticksAt_10 : decode cX3_ticksAt 10 = .ok (.sipush 200, 3) := by decide +kernel
theorem dX3_ticksAt_13 : decode cX3_ticksAt 13 = .ok (.invokestatic 28, 3) := by decide +kernel
theorem dX3_ticksAt_16 : decode cX3_ticksAt 16 = .ok (.ifCond .eq 25, 3) := by decide +kernel
theorem dX3_ticksAt_19 : decode cX3_ticksAt 19 = .ok (.aload_n 0, 1) := by decide +kernel
theorem dX3_ticksAt_20 : decode cX3_ticksAt 20 = .ok (.getfield 9, 3) := by decide +kernel
theorem dX3_ticksAt_23 : decode cX3_ticksAt 23 = .ok (.iload 4, 2) := by decide +kernel
theorem dX3_ticksAt_25 : decode cX3_ticksAt 25 = .ok (.invokestatic 39, 3) := by decide +kernel
theorem dX3_ticksAt_28 : decode cX3_ticksAt 28 = .ok (.ifCond .eq 13, 3) := by decide +kernel
theorem dX3_ticksAt_31 : decode cX3_ticksAt 31 = .ok (.aload_n 0, 1) := by decide +kernel
theorem dX3_ticksAt_32 : decode cX3_ticksAt 32 = .ok (.getfield 9, 3) := by decide +kernel
theorem dX3_ticksAt_35 : decode cX3_ticksAt 35 = .ok (.iload 4, 2) := by decide +kernel
theorem dX3_ticksAt_37 : decode cX3_ticksAt 37 = .ok (.iaload, 1) := by decide +kernel
theorem dX3_ticksAt_38 : decode cX3_ticksAt 38 = .ok (.goto 4, 3) := by decide +kernel
theorem dX3_ticksAt_41 : decode cX3_ticksAt 41 = .ok (.iconst (-1), 1) := by decide +kernel
theorem dX3_ticksAt_42 : decode cX3_ticksAt 42 = .ok (.ireturn, 1) := by decide +kernel
theorem dX3_nodeOf_0 : decode cX3_nodeOf 0 = .ok (.iload_n 0, 1) := by decide +kernel
theorem dX3_nodeOf_1 : decode cX3_nodeOf 1 = .ok (.iload_n 1, 1) := by decide +kernel
theorem dX3_nodeOf_2 : decode cX3_nodeOf 2 = .ok (.invokestatic 91, 3) := by decide +kernel
theorem dX3_nodeOf_5 : decode cX3_nodeOf 5 = .ok (.sipush 201, 3) := by decide +kernel
theorem dX3_nodeOf_8 : decode cX3_nodeOf 8 = .ok (.imul, 1) := by decide +kernel
theorem dX3_nodeOf_9 : decode cX3_nodeOf 9 = .ok (.iload_n 2, 1) := by decide +kernel
theorem dX3_nodeOf_10 : decode cX3_nodeOf 10 = .ok (.iadd, 1) := by decide +kernel
theorem dX3_nodeOf_11 : decode cX3_nodeOf 11 = .ok (.ireturn, 1) := by decide +kernel
theorem dX4_init_0 : decode cX4_init 0 = .ok (.aload_n 0, 1) := by decide +kernel
theorem dX4_init_1 : decode cX4_init 1 = .ok (.invokespecial 3, 3) := by decide +kernel
theorem dX4_init_4 : decode cX4_init 4 = .ok (.aload_n 0, 1) := by decide +kernel
theorem dX4_init_5 : decode cX4_init 5 = .ok (.bipush 6, 2) := by decide +kernel
theorem dX4_init_7 : decode cX4_init 7 = .ok (.putfield 9, 3) := by decide +kernel
theorem dX4_init_10 : decode cX4_init 10 = .ok (.aload_n 0, 1) := by decide +kernel
theorem dX4_init_11 : decode cX4_init 11 = .ok (.iconst 2, 1) := by decide +kernel
theorem dX4_init_12 : decode cX4_init 12 = .ok (.putfield 15, 3) := by decide +kernel
theorem dX4_init_15 : decode cX4_init 15 = .ok (.aload_n 0, 1) := by decide +kernel
theorem dX4_init_16 : decode cX4_init 16 = .ok (.iconst 1, 1) := by decide +kernel
theorem dX4_init_17 : decode cX4_init 17 = .ok (.putfield 18, 3) := by decide +kernel
theorem dX4_init_20 : decode cX4_init 20 = .ok (.aload_n 0, 1) := by decide +kernel
theorem dX4_init_21 : decode cX4_init 21 = .ok (.iconst 0, 1) := by decide +kernel
theorem dX4_init_22 : decode cX4_init 22 = .ok (.putfield 21, 3) := by decide +kernel
theorem dX4_init_25 : decode cX4_init 25 = .ok (.aload_n 0, 1) := by decide +kernel
theorem dX4_init_26 : decode cX4_init 26 = .ok (.iconst 0, 1) := by decide +kernel
theorem dX4_init_27 : decode cX4_init 27 = .ok (.putfield 24, 3) := by decide +kernel
theorem dX4_init_30 : decode cX4_init 30 = .ok (.aload_n 0, 1) := by decide +kernel
theorem dX4_init_31 : decode cX4_init 31 = .ok (.bipush 13, 2) := by decide +kernel
theorem dX4_init_33 : decode cX4_init 33 = .ok (.newarray .boolean, 2) := by decide +kernel
theorem dX4_init_35 : decode cX4_init 35 = .ok (.putfield 27, 3) := by decide +kernel
theorem dX4_init_38 : decode cX4_init 38 = .ok (.aload_n 0, 1) := by decide +kernel
theorem dX4_init_39 : decode cX4_init 39 = .ok (.bipush 13, 2) := by decide +kernel
theorem dX4_init_41 : decode cX4_init 41 = .ok (.newarray .int, 2) := by decide +kernel
theorem dX4_init_43 : decode cX4_init 43 = .ok (.putfield 31, 3) := by decide +kernel
theorem dX4_init_46 : decode cX4_init 46 = .ok (.aload_n 0, 1) := by decide +kernel
theorem dX4_init_47 : decode cX4_init 47 = .ok (.iconst 0, 1) := by decide +kernel
theorem dX4_init_48 : decode cX4_init 48 = .ok (.putfield 35, 3) := by decide +kernel
theorem dX4_init_51 : decode cX4_init 51 = .ok (.aload_n 0, 1) := by decide +kernel
theorem dX4_init_52 : decode cX4_init 52 = .ok (.iconst 1, 1) := by decide +kernel
theorem dX4_init_53 : decode cX4_init 53 = .ok (.putfield 39, 3) := by decide +kernel
theorem dX4_init_56 : decode cX4_init 56 = .ok (.aload_n 0, 1) := by decide +kernel
theorem dX4_init_57 : decode cX4_init 57 = .ok (.getfield 31, 3) := by decide +kernel
theorem dX4_init_60 : decode cX4_init 60 = .ok (.bipush 100, 2) := by decide +kernel
theorem dX4_init_62 : decode cX4_init 62 = .ok (.invokestatic 42, 3) := by decide +kernel
theorem dX4_init_65 : decode cX4_init 65 = .ok (.return_, 1) := by decide +kernel
theorem dX4_tellLimits_0 : decode cX4_tellLimits 0 = .ok (.aload_n 0, 1) := by decide +kernel
theorem dX4_tellLimits_1 : decode cX4_tellLimits 1 = .ok (.iload_n 1, 1) := by decide +kernel
theorem dX4_tellLimits_2 : decode cX4_tellLimits 2 = .ok (.putfield 9, 3) := by decide +kernel
theorem dX4_tellLimits_5 : decode cX4_tellLimits 5 = .ok (.aload_n 0, 1) := by decide +kernel
theorem dX4_tellLimits_6 : decode cX4_tellLimits 6 = .ok (.iload_n 2, 1) := by decide +kernel
theorem dX4_tellLimits_7 : decode cX4_tellLimits 7 = .ok (.putfield 15, 3) := by decide +kernel
theorem dX4_tellLimits_10 : decode cX4_tellLimits 10 = .ok (.aload_n 0, 1) := by decide +kernel
theorem dX4_tellLimits_11 : decode cX4_tellLimits 11 = .ok (.iload_n 3, 1) := by decide +kernel
theorem dX4_tellLimits_12 : decode cX4_tellLimits 12 = .ok (.putfield 18, 3) := by decide +kernel
theorem dX4_tellLimits_15 : decode cX4_tellLimits 15 = .ok (.aload_n 0, 1) := by decide +kernel
theorem dX4_tellLimits_16 : decode cX4_tellLimits 16 = .ok (.dup, 1) := by decide +kernel
theorem dX4_tellLimits_17 : decode cX4_tellLimits 17 = .ok (.getfield 39, 3) := by decide +kernel
theorem dX4_tellLimits_20 : decode cX4_tellLimits 20 = .ok (.iconst 1, 1) := by decide +kernel
theorem dX4_tellLimits_21 : decode cX4_tellLimits 21 = .ok (.iadd, 1) := by decide +kernel
theorem dX4_tellLimits_22 : decode cX4_tellLimits 22 = .ok (.putfield 39, 3) := by decide +kernel
theorem dX4_tellLimits_25 : decode cX4_tellLimits 25 = .ok (.return_, 1) := by decide +kernel
theorem dX4_tellBad_0 : decode cX4_tellBad 0 = .ok (.iload_n 1, 1) := by decide +kernel
theorem dX4_tellBad_1 : decode cX4_tellBad 1 = .ok (.iconst 0, 1) := by decide +kernel
theorem dX4_tellBad_2 : decode cX4_tellBad 2 = .ok (.bipush 12, 2) := by decide +kernel
theorem dX4_tellBad_4 : decode cX4_tellBad 4 = .ok (.invokestatic 48, 3) := by decide +kernel
theorem dX4_tellBad_7 : decode cX4_tellBad 7 = .ok (.ifCond .eq 20, 3) := by decide +kernel
theorem dX4_tellBad_10 : decode cX4_tellBad 10 = .ok (.aload_n 0, 1) := by decide +kernel
theorem dX4_tellBad_11 : decode cX4_tellBad 11 = .ok (.getfield 27, 3) := by decide +kernel
theorem dX4_tellBad_14 : decode cX4_tellBad 14 = .ok (.iload_n 1, 1) := by decide +kernel
theorem dX4_tellBad_15 : decode cX4_tellBad 15 = .ok (.iload_n 2, 1) := by decide +kernel
theorem dX4_tellBad_16 : decode cX4_tellBad 16 = .ok (.bastore, 1) := by decide +kernel
theorem dX4_tellBad_17 : decode cX4_tellBad 17 = .ok (.aload_n 0, 1) := by decide +kernel
theorem dX4_tellBad_18 : decode cX4_tellBad 18 = .ok (.dup, 1) := by decide +kernel
theorem dX4_tellBad_19 : decode cX4_tellBad 19 = .ok (.getfield 39, 3) := by decide +kernel
theorem dX4_tellBad_22 : decode cX4_tellBad 22 = .ok (.iconst 1, 1) := by decide +kernel
theorem dX4_tellBad_23 : decode cX4_tellBad 23 = .ok (.iadd, 1) := by decide +kernel
theorem dX4_tellBad_24 : decode cX4_tellBad 24 = .ok (.putfield 39, 3) := by decide +kernel
theorem dX4_tellBad_27 : decode cX4_tellBad 27 = .ok (.return_, 1) := by decide +kernel
theorem dX4_tellPull_0 : decode cX4_tellPull 0 = .ok (.iload_n 1, 1) := by decide +kernel
theorem dX4_tellPull_1 : decode cX4_tellPull 1 = .ok (.iconst 0, 1) := by decide +kernel
theorem dX4_tellPull_2 : decode cX4_tellPull 2 = .ok (.bipush 12, 2) := by decide +kernel
theorem dX4_tellPull_4 : decode cX4_tellPull 4 = .ok (.invokestatic 48, 3) := by decide +kernel
theorem dX4_tellPull_7 : decode cX4_tellPull 7 = .ok (.ifCond .eq 20, 3) := by decide +kernel
theorem dX4_tellPull_10 : decode cX4_tellPull 10 = .ok (.aload_n 0, 1) := by decide +kernel
theorem dX4_tellPull_11 : decode cX4_tellPull 11 = .ok (.getfield 31, 3) := by decide +kernel
theorem dX4_tellPull_14 : decode cX4_tellPull 14 = .ok (.iload_n 1, 1) := by decide +kernel
theorem dX4_tellPull_15 : decode cX4_tellPull 15 = .ok (.iload_n 2, 1) := by decide +kernel
theorem dX4_tellPull_16 : decode cX4_tellPull 16 = .ok (.iastore, 1) := by decide +kernel
theorem dX4_tellPull_17 : decode cX4_tellPull 17 = .ok (.aload_n 0, 1) := by decide +kernel
theorem dX4_tellPull_18 : decode cX4_tellPull 18 = .ok (.dup, 1) := by decide +kernel
theorem dX4_tellPull_19 : decode cX4_tellPull 19 = .ok (.getfield 39, 3) := by decide +kernel
theorem dX4_tellPull_22 : decode cX4_tellPull 22 = .ok (.iconst 1, 1) := by decide +kernel
theorem dX4_tellPull_23 : decode cX4_tellPull 23 = .ok (.iadd, 1) := by decide +kernel
theorem dX4_tellPull_24 : decode cX4_tellPull 24 = .ok (.putfield 39, 3) := by decide +kernel
theorem dX4_tellPull_27 : decode cX4_tellPull 27 = .ok (.return_, 1) := by decide +kernel
theorem dX4_tellLoad_0 : decode cX4_tellLoad 0 = .ok (.aload_n 0, 1) := by decide +kernel
theorem dX4_tellLoad_1 : decode cX4_tellLoad 1 = .ok (.iload_n 1, 1) := by decide +kernel
theorem dX4_tellLoad_2 : decode cX4_tellLoad 2 = .ok (.putfield 21, 3) := by decide +kernel
theorem dX4_tellLoad_5 : decode cX4_tellLoad 5 = .ok (.aload_n 0, 1) := by decide +kernel
theorem dX4_tellLoad_6 : decode cX4_tellLoad 6 = .ok (.iload_n 2, 1) := by decide +kernel
theorem dX4_tellLoad_7 : decode cX4_tellLoad 7 = .ok (.putfield 24, 3) := by decide +kernel
theorem dX4_tellLoad_10 : decode cX4_tellLoad 10 = .ok (.aload_n 0, 1) := by decide +kernel
theorem dX4_tellLoad_11 : decode cX4_tellLoad 11 = .ok (.dup, 1) := by decide +kernel
theorem dX4_tellLoad_12 : decode cX4_tellLoad 12 = .ok (.getfield 39, 3) := by decide +kernel
theorem dX4_tellLoad_15 : decode cX4_tellLoad 15 = .ok (.iconst 1, 1) := by decide +kernel
theorem dX4_tellLoad_16 : decode cX4_tellLoad 16 = .ok (.iadd, 1) := by decide +kernel
theorem dX4_tellLoad_17 : decode cX4_tellLoad 17 = .ok (.putfield 39, 3) := by decide +kernel
theorem dX4_tellLoad_20 : decode cX4_tellLoad 20 = .ok (.return_, 1) := by decide +kernel
theorem dX4_tellOnlySafe_0 : decode cX4_tellOnlySafe 0 = .ok (.aload_n 0, 1) := by decide +kernel
theorem dX4_tellOnlySafe_1 : decode cX4_tellOnlySafe 1 = .ok (.iload_n 1, 1) := by decide +kernel
theorem dX4_tellOnlySafe_2 : decode cX4_tellOnlySafe 2 = .ok (.putfield 35, 3) := by decide +kernel
theorem dX4_tellOnlySafe_5 : decode cX4_tellOnlySafe 5 = .ok (.aload_n 0, 1) := by decide +kernel
theorem dX4_tellOnlySafe_6 : decode cX4_tellOnlySafe 6 = .ok (.dup, 1) := by decide +kernel
theorem dX4_tellOnlySafe_7 : decode cX4_tellOnlySafe 7 = .ok (.getfield 39, 3) := by decide +kernel
theorem dX4_tellOnlySafe_10 : decode cX4_tellOnlySafe 10 = .ok (.iconst 1, 1) := by decide +kernel
theorem dX4_tellOnlySafe_11 : decode cX4_tellOnlySafe 11 = .ok (.iadd, 1) := by decide +kernel
theorem dX4_tellOnlySafe_12 : decode cX4_tellOnlySafe 12 = .ok (.putfield 39, 3) := by decide +kernel
theorem dX4_tellOnlySafe_15 : decode cX4_tellOnlySafe 15 = .ok (.return_, 1) := by decide +kernel
theorem dX4_isBad_0 : decode cX4_isBad 0 = .ok (.iload_n 1, 1) := by decide +kernel
theorem dX4_isBad_1 : decode cX4_isBad 1 = .ok (.ifCond .lt 25, 3) := by decide +kernel
theorem dX4_isBad_4 : decode cX4_isBad 4 = .ok (.iload_n 1, 1) := by decide +kernel
theorem dX4_isBad_5 : decode cX4_isBad 5 = .ok (.aload_n 0, 1) := by decide +kernel
theorem dX4_isBad_6 : decode cX4_isBad 6 = .ok (.getfield 27, 3) := by decide +kernel
theorem dX4_isBad_9 : decode cX4_isBad 9 = .ok (.arraylength, 1) := by decide +kernel
theorem dX4_isBad_10 : decode cX4_isBad 10 = .ok (.if_icmp .ge 16, 3) := by decide +kernel
theorem dX4_isBad_13 : decode cX4_isBad 13 = .ok (.aload_n 0, 1) := by decide +kernel
theorem dX4_isBad_14 : decode cX4_isBad 14 = .ok (.getfield 27, 3) := by decide +kernel
theorem dX4_isBad_17 : decode cX4_isBad 17 = .ok (.iload_n 1, 1) := by decide +kernel
theorem dX4_isBad_18 : decode cX4_isBad 18 = .ok (.baload, 1) := by decide +kernel
theorem dX4_isBad_19 : decode cX4_isBad 19 = .ok (.ifCond .eq 7, 3) := by decide +kernel
theorem dX4_isBad_22 : decode cX4_isBad 22 = .ok (.iconst 1, 1) := by decide +kernel
theorem dX4_isBad_23 : decode cX4_isBad 23 = .ok (.goto 4, 3) := by decide +kernel
theorem dX4_isBad_26 : decode cX4_isBad 26 = .ok (.iconst 0, 1) := by decide +kernel
theorem dX4_isBad_27 : decode cX4_isBad 27 = .ok (.ireturn, 1) := by decide +kernel
theorem dX4_isSpeed_0 : decode cX4_isSpeed 0 = .ok (.iload_n 1, 1) := by decide +kernel
theorem dX4_isSpeed_1 : decode cX4_isSpeed 1 = .ok (.ifCond .lt 15, 3) := by decide +kernel
theorem dX4_isSpeed_4 : decode cX4_isSpeed 4 = .ok (.iload_n 1, 1) := by decide +kernel
theorem dX4_isSpeed_5 : decode cX4_isSpeed 5 = .ok (.aload_n 0, 1) := by decide +kernel
theorem dX4_isSpeed_6 : decode cX4_isSpeed 6 = .ok (.getfield 9, 3) := by decide +kernel
theorem dX4_isSpeed_9 : decode cX4_isSpeed 9 = .ok (.if_icmp .gt 7, 3) := by decide +kernel
theorem dX4_isSpeed_12 : decode cX4_isSpeed 12 = .ok (.iconst 1, 1) := by decide +kernel
theorem dX4_isSpeed_13 : decode cX4_isSpeed 13 = .ok (.goto 4, 3) := by decide +kernel
theorem dX4_isSpeed_16 : decode cX4_isSpeed 16 = .ok (.iconst 0, 1) := by decide +kernel
theorem dX4_isSpeed_17 : decode cX4_isSpeed 17 = .ok (.ireturn, 1) := by decide +kernel
theorem dX4_isState_0 : decode cX4_isState 0 = .ok (.iload_n 1, 1) := by decide +kernel
theorem dX4_isState_1 : decode cX4_isState 1 = .ok (.ifCond .lt 32, 3) := by decide +kernel
theorem dX4_isState_4 : decode cX4_isState 4 = .ok (.iload_n 1, 1) := by decide +kernel
theorem dX4_isState_5 : decode cX4_isState 5 = .ok (.aload_n 0, 1) := by decide +kernel
theorem dX4_isState_6 : decode cX4_isState 6 = .ok (.getfield 9, 3) := by decide +kernel
theorem dX4_isState_9 : decode cX4_isState 9 = .ok (.if_icmp .gt 24, 3) := by decide +kernel
theorem dX4_isState_12 : decode cX4_isState 12 = .ok (.iload_n 2, 1) := by decide +kernel
theorem dX4_isState_13 : decode cX4_isState 13 = .ok (.aload_n 0, 1) := by decide +kernel
theorem dX4_isState_14 : decode cX4_isState 14 = .ok (.getfield 15, 3) := by decide +kernel
theorem dX4_isState_17 : decode cX4_isState 17 = .ok (.ineg, 1) := by decide +kernel
theorem dX4_isState_18 : decode cX4_isState 18 = .ok (.if_icmp .lt 15, 3) := by decide +kernel
theorem dX4_isState_21 : decode cX4_isState 21 = .ok (.iload_n 2, 1) := by decide +kernel
theorem dX4_isState_22 : decode cX4_isState 22 = .ok (.aload_n 0, 1) := by decide +kernel
theorem dX4_isState_23 : decode cX4_isState 23 = .ok (.getfield 15, 3) := by decide +kernel
theorem dX4_isState_26 : decode cX4_isState 26 = .ok (.if_icmp .gt 7, 3) := by decide +kernel
theorem dX4_isState_29 : decode cX4_isState 29 = .ok (.iconst 1, 1) := by decide +kernel
theorem dX4_isState_30 : decode cX4_isState 30 = .ok (.goto 4, 3) := by decide +kernel
theorem dX4_isState_33 : decode cX4_isState 33 = .ok (.iconst 0, 1) := by decide +kernel
theorem dX4_isState_34 : decode cX4_isState 34 = .ok (.ireturn, 1) := by decide +kernel
theorem dX4_isRest_0 : decode cX4_isRest 0 = .ok (.iload_n 1, 1) := by decide +kernel
theorem dX4_isRest_1 : decode cX4_isRest 1 = .ok (.ifCond .ne 33, 3) := by decide +kernel
theorem dX4_isRest_4 : decode cX4_isRest 4 = .ok (.aload_n 0, 1) := by decide +kernel
theorem dX4_isRest_5 : decode cX4_isRest 5 = .ok (.iload_n 1, 1) := by decide +kernel
theorem dX4_isRest_6 : decode cX4_isRest 6 = .ok (.iload_n 2, 1) := by decide +kernel
theorem dX4_isRest_7 : decode cX4_isRest 7 = .ok (.invokevirtual 52, 3) := by decide +kernel
theorem dX4_isRest_10 : decode cX4_isRest 10 = .ok (.ifCond .eq 24, 3) := by decide +kernel
theorem dX4_isRest_13 : decode cX4_isRest 13 = .ok (.iload_n 2, 1) := by decide +kernel
theorem dX4_isRest_14 : decode cX4_isRest 14 = .ok (.aload_n 0, 1) := by decide +kernel
theorem dX4_isRest_15 : decode cX4_isRest 15 = .ok (.getfield 18, 3) := by decide +kernel
theorem dX4_isRest_18 : decode cX4_isRest 18 = .ok (.ineg, 1) := by decide +kernel
theorem dX4_isRest_19 : decode cX4_isRest 19 = .ok (.if_icmp .lt 15, 3) := by decide +kernel
theorem dX4_isRest_22 : decode cX4_isRest 22 = .ok (.iload_n 2, 1) := by decide +kernel
theorem dX4_isRest_23 : decode cX4_isRest 23 = .ok (.aload_n 0, 1) := by decide +kernel
theorem dX4_isRest_24 : decode cX4_isRest 24 = .ok (.getfield 18, 3) := by decide +kernel
theorem dX4_isRest_27 : decode cX4_isRest 27 = .ok (.if_icmp .gt 7, 3) := by decide +kernel
theorem dX4_isRest_30 : decode cX4_isRest 30 = .ok (.iconst 1, 1) := by decide +kernel
theorem dX4_isRest_31 : decode cX4_isRest 31 = .ok (.goto 4, 3) := by decide +kernel
theorem dX4_isRest_34 : decode cX4_isRest 34 = .ok (.iconst 0, 1) := by decide +kernel
theorem dX4_isRest_35 : decode cX4_isRest 35 = .ok (.ireturn, 1) := by decide +kernel
theorem dX4_isSafe_0 : decode cX4_isSafe 0 = .ok (.iload_n 1, 1) := by decide +kernel
theorem dX4_isSafe_1 : decode cX4_isSafe 1 = .ok (.ifCond .lt 39, 3) := by decide +kernel
theorem dX4_isSafe_4 : decode cX4_isSafe 4 = .ok (.iload_n 1, 1) := by decide +kernel
theorem dX4_isSafe_5 : decode cX4_isSafe 5 = .ok (.aload_n 0, 1) := by decide +kernel
theorem dX4_isSafe_6 : decode cX4_isSafe 6 = .ok (.getfield 31, 3) := by decide +kernel
theorem dX4_isSafe_9 : decode cX4_isSafe 9 = .ok (.arraylength, 1) := by decide +kernel
theorem dX4_isSafe_10 : decode cX4_isSafe 10 = .ok (.if_icmp .ge 30, 3) := by decide +kernel
theorem dX4_isSafe_13 : decode cX4_isSafe 13 = .ok (.aload_n 0, 1) := by decide +kernel
theorem dX4_isSafe_14 : decode cX4_isSafe 14 = .ok (.getfield 21, 3) := by decide +kernel
theorem dX4_isSafe_17 : decode cX4_isSafe 17 = .ok (.aload_n 0, 1) := by decide +kernel
theorem dX4_isSafe_18 : decode cX4_isSafe 18 = .ok (.getfield 24, 3) := by decide +kernel
theorem dX4_isSafe_21 : decode cX4_isSafe 21 = .ok (.iload_n 2, 1) := by decide +kernel
theorem dX4_isSafe_22 : decode cX4_isSafe 22 = .ok (.invokestatic 56, 3) := by decide +kernel
theorem dX4_isSafe_25 : decode cX4_isSafe 25 = .ok (.imul, 1) := by decide +kernel
theorem dX4_isSafe_26 : decode cX4_isSafe 26 = .ok (.iadd, 1) := by decide +kernel
theorem dX4_isSafe_27 : decode cX4_isSafe 27 = .ok (.aload_n 0, 1) := by decide +kernel
theorem dX4_isSafe_28 : decode cX4_isSafe 28 = .ok (.getfield 31, 3) := by decide +kernel
theorem dX4_isSafe_31 : decode cX4_isSafe 31 = .ok (.iload_n 1, 1) := by decide +kernel
theorem dX4_isSafe_32 : decode cX4_isSafe 32 = .ok (.iaload, 1) := by decide +kernel
theorem dX4_isSafe_33 : decode cX4_isSafe 33 = .ok (.if_icmp .gt 7, 3) := by decide +kernel
theorem dX4_isSafe_36 : decode cX4_isSafe 36 = .ok (.iconst 1, 1) := by decide +kernel
theorem dX4_isSafe_37 : decode cX4_isSafe 37 = .ok (.goto 4, 3) := by decide +kernel
theorem dX4_isSafe_40 : decode cX4_isSafe 40 = .ok (.iconst 0, 1) := by decide +kernel
theorem dX4_isSafe_41 : decode cX4_isSafe 41 = .ok (.ireturn, 1) := by decide +kernel
theorem dX4_mayEnd_0 : decode cX4_mayEnd 0 = .ok (.aload_n 0, 1) := by decide +kernel
theorem dX4_mayEnd_1 : decode cX4_mayEnd 1 = .ok (.iload_n 1, 1) := by decide +kernel
theorem dX4_mayEnd_2 : decode cX4_mayEnd 2 = .ok (.iload_n 2, 1) := by decide +kernel
theorem dX4_mayEnd_3 : decode cX4_mayEnd 3 = .ok (.invokevirtual 52, 3) := by decide +kernel
theorem dX4_mayEnd_6 : decode cX4_mayEnd 6 = .ok (.ifCond .eq 32, 3) := by decide +kernel
theorem dX4_mayEnd_9 : decode cX4_mayEnd 9 = .ok (.iload_n 2, 1) := by decide +kernel
theorem dX4_mayEnd_10 : decode cX4_mayEnd 10 = .ok (.ifCond .ne 11, 3) := by decide +kernel
theorem dX4_mayEnd_13 : decode cX4_mayEnd 13 = .ok (.aload_n 0, 1) := by decide +kernel
theorem dX4_mayEnd_14 : decode cX4_mayEnd 14 = .ok (.iload_n 1, 1) := by decide +kernel
theorem dX4_mayEnd_15 : decode cX4_mayEnd 15 = .ok (.invokevirtual 62, 3) := by decide +kernel
theorem dX4_mayEnd_18 : decode cX4_mayEnd 18 = .ok (.ifCond .ne 20, 3) := by decide +kernel
theorem dX4_mayEnd_21 : decode cX4_mayEnd 21 = .ok (.iload_n 3, 1) := by decide +kernel
theorem dX4_mayEnd_22 : decode cX4_mayEnd 22 = .ok (.ifCond .eq 12, 3) := by decide +kernel
theorem dX4_mayEnd_25 : decode cX4_mayEnd 25 = .ok (.aload_n 0, 1) := by decide +kernel
theorem dX4_mayEnd_26 : decode cX4_mayEnd 26 = .ok (.iload_n 1, 1) := by decide +kernel
theorem dX4_mayEnd_27 : decode cX4_mayEnd 27 = .ok (.iload_n 2, 1) := by decide +kernel
theorem dX4_mayEnd_28 : decode cX4_mayEnd 28 = .ok (.invokevirtual 66, 3) := by decide +kernel
theorem dX4_mayEnd_31 : decode cX4_mayEnd 31 = .ok (.ifCond .eq 7, 3) := by decide +kernel
theorem dX4_mayEnd_34 : decode cX4_mayEnd 34 = .ok (.iconst 1, 1) := by decide +kernel
theorem dX4_mayEnd_35 : decode cX4_mayEnd 35 = .ok (.goto 4, 3) := by decide +kernel
theorem dX4_mayEnd_38 : decode cX4_mayEnd 38 = .ok (.iconst 0, 1) := by decide +kernel
theorem dX4_mayEnd_39 : decode cX4_mayEnd 39 = .ok (.ireturn, 1) := by decide +kernel
theorem dX4_leastBeside_0 : decode cX4_leastBeside 0 = .ok (.aload_n 0, 1) := by decide +kernel
theorem dX4_leastBeside_1 : decode cX4_leastBeside 1 = .ok (.getfield 15, 3) := by decide +kernel
theorem dX4_leastBeside_4 : decode cX4_leastBeside 4 = .ok (.ineg, 1) := by decide +kernel
theorem dX4_leastBeside_5 : decode cX4_leastBeside 5 = .ok (.iload_n 1, 1) := by decide +kernel
theorem dX4_leastBeside_6 : decode cX4_leastBeside 6 = .ok (.aload_n 0, 1) := by decide +kernel
theorem dX4_leastBeside_7 : decode cX4_leastBeside 7 = .ok (.getfield 18, 3) := by decide +kernel
theorem dX4_leastBeside_10 : decode cX4_leastBeside 10 = .ok (.isub, 1) := by decide +kernel
theorem dX4_leastBeside_11 : decode cX4_leastBeside 11 = .ok (.invokestatic 69, 3) := by decide +kernel
theorem dX4_leastBeside_14 : decode cX4_leastBeside 14 = .ok (.ireturn, 1) := by decide +kernel
theorem dX4_mostBeside_0 : decode cX4_mostBeside 0 = .ok (.aload_n 0, 1) := by decide +kernel
theorem dX4_mostBeside_1 : decode cX4_mostBeside 1 = .ok (.getfield 15, 3) := by decide +kernel
theorem dX4_mostBeside_4 : decode cX4_mostBeside 4 = .ok (.iload_n 1, 1) := by decide +kernel
theorem dX4_mostBeside_5 : decode cX4_mostBeside 5 = .ok (.aload_n 0, 1) := by decide +kernel
theorem dX4_mostBeside_6 : decode cX4_mostBeside 6 = .ok (.getfield 18, 3) := by decide +kernel
theorem dX4_mostBeside_9 : decode cX4_mostBeside 9 = .ok (.iadd, 1) := by decide +kernel
theorem dX4_mostBeside_10 : decode cX4_mostBeside 10 = .ok (.invokestatic 73, 3) := by decide +kernel
theorem dX4_mostBeside_13 : decode cX4_mostBeside 13 = .ok (.ireturn, 1) := by decide +kernel
theorem dX5_init_0 : decode cX5_init 0 = .ok (.aload_n 0, 1) := by decide +kernel
theorem dX5_init_1 : decode cX5_init 1 = .ok (.invokespecial 3, 3) := by decide +kernel
theorem dX5_init_4 : decode cX5_init 4 = .ok (.aload_n 0, 1) := by decide +kernel
theorem dX5_init_5 : decode cX5_init 5 = .ok (.bipush 117, 2) := by decide +kernel
theorem dX5_init_7 : decode cX5_init 7 = .ok (.newarray .int, 2) := by decide +kernel
theorem dX5_init_9 : decode cX5_init 9 = .ok (.putfield 9, 3) := by decide +kernel
theorem dX5_init_12 : decode cX5_init 12 = .ok (.aload_n 0, 1) := by decide +kernel
theorem dX5_init_13 : decode cX5_init 13 = .ok (.bipush 117, 2) := by decide +kernel
theorem dX5_init_15 : decode cX5_init 15 = .ok (.newarray .int, 2) := by decide +kernel
theorem dX5_init_17 : decode cX5_init 17 = .ok (.putfield 15, 3) := by decide +kernel
theorem dX5_init_20 : decode cX5_init 20 = .ok (.aload_n 0, 1) := by decide +kernel
theorem dX5_init_21 : decode cX5_init 21 = .ok (.bipush 117, 2) := by decide +kernel
theorem dX5_init_23 : decode cX5_init 23 = .ok (.newarray .int, 2) := by decide +kernel
theorem dX5_init_25 : decode cX5_init 25 = .ok (.putfield 18, 3) := by decide +kernel
theorem dX5_init_28 : decode cX5_init 28 = .ok (.aload_n 0, 1) := by decide +kernel
theorem dX5_init_29 : decode cX5_init 29 = .ok (.iconst 0, 1) := by decide +kernel
theorem dX5_init_30 : decode cX5_init 30 = .ok (.putfield 21, 3) := by decide +kernel
theorem dX5_init_33 : decode cX5_init 33 = .ok (.aload_n 0, 1) := by decide +kernel
theorem dX5_init_34 : decode cX5_init 34 = .ok (.iconst 0, 1) := by decide +kernel
theorem dX5_init_35 : decode cX5_init 35 = .ok (.putfield 25, 3) := by decide +kernel
theorem dX5_init_38 : decode cX5_init 38 = .ok (.aload_n 0, 1) := by decide +kernel
theorem dX5_init_39 : decode cX5_init 39 = .ok (.iload_n 1, 1) := by decide +kernel
theorem dX5_init_40 : decode cX5_init 40 = .ok (.putfield 28, 3) := by decide +kernel
theorem dX5_init_43 : decode cX5_init 43 = .ok (.return_, 1) := by decide +kernel
theorem dX5_ticksFrom_0 : decode cX5_ticksFrom 0 = .ok (.iload_n 1, 1) := by decide +kernel
theorem dX5_ticksFrom_1 : decode cX5_ticksFrom 1 = .ok (.iload_n 2, 1) := by decide +kernel
theorem dX5_ticksFrom_2 : decode cX5_ticksFrom 2 = .ok (.invokestatic 32, 3) := by decide +kernel
theorem dX5_ticksFrom_5 : decode cX5_ticksFrom 5 = .ok (.istore_n 3, 1) := by decide +kernel
theorem dX5_ticksFrom_6 : decode cX5_ticksFrom 6 = .ok (.aload_n 0, 1) := by decide +kernel
theorem dX5_ticksFrom_7 : decode cX5_ticksFrom 7 = .ok (.getfield 9, 3) := by decide +kernel
theorem dX5_ticksFrom_10 : decode cX5_ticksFrom 10 = .ok (.iload_n 3, 1) := by decide +kernel
theorem dX5_ticksFrom_11 : decode cX5_ticksFrom 11 = .ok (.invokestatic 36, 3) := by decide +kernel
theorem dX5_ticksFrom_14 : decode cX5_ticksFrom 14 = .ok (.ifCond .eq 12, 3) := by decide +kernel
theorem dX5_ticksFrom_17 : decode cX5_ticksFrom 17 = .ok (.aload_n 0, 1) := by decide +kernel
theorem dX5_ticksFrom_18 : decode cX5_ticksFrom 18 = .ok (.getfield 9, 3) := by decide +kernel
theorem dX5_ticksFrom_21 : decode cX5_ticksFrom 21 = .ok (.iload_n 3, 1) := by decide +kernel
theorem dX5_ticksFrom_22 : decode cX5_ticksFrom 22 = .ok (.iaload, 1) := by decide +kernel
theorem dX5_ticksFrom_23 : decode cX5_ticksFrom 23 = .ok (.goto 4, 3) := by decide +kernel
theorem dX5_ticksFrom_26 : decode cX5_ticksFrom 26 = .ok (.iconst (-1), 1) := by decide +kernel
theorem dX5_ticksFrom_27 : decode cX5_ticksFrom 27 = .ok (.ireturn, 1) := by decide +kernel
theorem dX5_stepsFrom_0 : decode cX5_stepsFrom 0 = .ok (.iload_n 1, 1) := by decide +kernel
theorem dX5_stepsFrom_1 : decode cX5_stepsFrom 1 = .ok (.iload_n 2, 1) := by decide +kernel
theorem dX5_stepsFrom_2 : decode cX5_stepsFrom 2 = .ok (.invokestatic 32, 3) := by decide +kernel
theorem dX5_stepsFrom_5 : decode cX5_stepsFrom 5 = .ok (.istore_n 3, 1) := by decide +kernel
theorem dX5_stepsFrom_6 : decode cX5_stepsFrom 6 = .ok (.aload_n 0, 1) := by decide +kernel
theorem dX5_stepsFrom_7 : decode cX5_stepsFrom 7 = .ok (.getfield 15, 3) := by decide +kernel
theorem dX5_stepsFrom_10 : decode cX5_stepsFrom 10 = .ok (.iload_n 3, 1) := by decide +kernel
theorem dX5_stepsFrom_11 : decode cX5_stepsFrom 11 = .ok (.invokestatic 36, 3) := by decide +kernel
theorem dX5_stepsFrom_14 : decode cX5_stepsFrom 14 = .ok (.ifCond .eq 12, 3) := by decide +kernel
theorem dX5_stepsFrom_17 : decode cX5_stepsFrom 17 = .ok (.aload_n 0, 1) := by decide +kernel
theorem dX5_stepsFrom_18 : decode cX5_stepsFrom 18 = .ok (.getfield 15, 3) := by decide +kernel
theorem dX5_stepsFrom_21 : decode cX5_stepsFrom 21 = .ok (.iload_n 3, 1) := by decide +kernel
theorem dX5_stepsFrom_22 : decode cX5_stepsFrom 22 = .ok (.iaload, 1) := by decide +kernel
theorem dX5_stepsFrom_23 : decode cX5_stepsFrom 23 = .ok (.goto 4, 3) := by decide +kernel
theorem dX5_stepsFrom_26 : decode cX5_stepsFrom 26 = .ok (.iconst (-1), 1) := by decide +kernel
theorem dX5_stepsFrom_27 : decode cX5_stepsFrom 27 = .ok (.ireturn, 1) := by decide +kernel
theorem dX5_nextChange_0 : decode cX5_nextChange 0 = .ok (.aload_n 0, 1) := by decide +kernel
theorem dX5_nextChange_1 : decode cX5_nextChange 1 = .ok (.iload_n 2, 1) := by decide +kernel
theorem dX5_nextChange_2 : decode cX5_nextChange 2 = .ok (.iload_n 3, 1) := by decide +kernel
theorem dX5_nextChange_3 : decode cX5_nextChange 3 = .ok (.invokevirtual 40, 3) := by decide +kernel
theorem dX5_nextChange_6 : decode cX5_nextChange 6 = .ok (.istore 4, 2) := by decide +kernel
theorem dX5_nextChange_8 : decode cX5_nextChange 8 = .ok (.iload 4, 2) := by decide +kernel
theorem dX5_nextChange_10 : decode cX5_nextChange 10 = .ok (.iconst 1, 1) := by decide +kernel
theorem dX5_nextChange_11 : decode cX5_nextChange 11 = .ok (.if_icmp .ge 5, 3) := by decide +kernel
theorem dX5_nextChange_14 : decode cX5_nextChange 14 = .ok (.iconst 5, 1) := by decide +kernel
theorem dX5_nextChange_15 : decode cX5_nextChange 15 = .ok (.ireturn, 1) := by decide +kernel
theorem dX5_nextChange_16 : decode cX5_nextChange 16 = .ok (.aload_n 0, 1) := by decide +kernel
theorem dX5_nextChange_17 : decode cX5_nextChange 17 = .ok (.iload_n 2, 1) := by decide +kernel
theorem dX5_nextChange_18 : decode cX5_nextChange 18 = .ok (.iload_n 3, 1) := by decide +kernel
theorem dX5_nextChange_19 : decode cX5_nextChange 19 = .ok (.invokevirtual 43, 3) := by decide +kernel
theorem dX5_nextChange_22 : decode cX5_nextChange 22 = .ok (.istore 5, 2) := by decide +kernel
theorem dX5_nextChange_24 : decode cX5_nextChange 24 = .ok (.aload_n 1, 1) := by decide +kernel
theorem dX5_nextChange_25 : decode cX5_nextChange 25 = .ok (.iload_n 3, 1) := by decide +kernel
theorem dX5_nextChange_26 : decode cX5_nextChange 26 = .ok (.invokevirtual 46, 3) := by decide +kernel
theorem dX5_nextChange_29 : decode cX5_nextChange 29 = .ok (.istore 6, 2) := by decide +kernel
theorem dX5_nextChange_31 : decode cX5_nextChange 31 = .ok (.aload_n 1, 1) := by decide +kernel
theorem dX5_nextChange_32 : decode cX5_nextChange 32 = .ok (.iload_n 3, 1) := by decide +kernel
theorem dX5_nextChange_33 : decode cX5_nextChange 33 = .ok (.invokevirtual 52, 3) := by decide +kernel
theorem dX5_nextChange_36 : decode cX5_nextChange 36 = .ok (.istore 7, 2) := by decide +kernel
theorem dX5_nextChange_38 : decode cX5_nextChange 38 = .ok (.iload 7, 2) := by decide +kernel
theorem dX5_nextChange_40 : decode cX5_nextChange 40 = .ok (.iload 6, 2) := by decide +kernel
theorem dX5_nextChange_42 : decode cX5_nextChange 42 = .ok (.if_icmp .lt 64, 3) := by decide +kernel
theorem dX5_nextChange_45 : decode cX5_nextChange 45 = .ok (.iload_n 2, 1) := by decide +kernel
theorem dX5_nextChange_46 : decode cX5_nextChange 46 = .ok (.iload 7, 2) := by decide +kernel
theorem dX5_nextChange_48 : decode cX5_nextChange 48 = .ok (.iadd, 1) := by decide +kernel
theorem dX5_nextChange_49 : decode cX5_nextChange 49 = .ok (.istore 8, 2) := by decide +kernel
theorem dX5_nextChange_51 : decode cX5_nextChange 51 = .ok (.aload_n 1, 1) := by decide +kernel
theorem dX5_nextChange_52 : decode cX5_nextChange 52 = .ok (.iload 8, 2) := by decide +kernel
theorem dX5_nextChange_54 : decode cX5_nextChange 54 = .ok (.iload 7, 2) := by decide +kernel
theorem dX5_nextChange_56 : decode cX5_nextChange 56 = .ok (.aload_n 0, 1) := by decide +kernel
theorem dX5_nextChange_57 : decode cX5_nextChange 57 = .ok (.getfield 28, 3) := by decide +kernel
theorem dX5_nextChange_60 : decode cX5_nextChange 60 = .ok (.invokevirtual 55, 3) := by decide +kernel
theorem dX5_nextChange_63 : decode cX5_nextChange 63 = .ok (.ifCond .eq 37, 3) := by decide +kernel
theorem dX5_nextChange_66 : decode cX5_nextChange 66 = .ok (.aload_n 0, 1) := by decide +kernel
theorem dX5_nextChange_67 : decode cX5_nextChange 67 = .ok (.iload 8, 2) := by decide +kernel
theorem dX5_nextChange_69 : decode cX5_nextChange 69 = .ok (.iload 7, 2) := by decide +kernel
theorem dX5_nextChange_71 : decode cX5_nextChange 71 = .ok (.invokevirtual 40, 3) := by decide +kernel
theorem dX5_nextChange_74 : decode cX5_nextChange 74 = .ok (.iload 4, 2) := by decide +kernel
theorem dX5_nextChange_76 : decode cX5_nextChange 76 = .ok (.iconst 1, 1) := by decide +kernel
theorem dX5_nextChange_77 : decode cX5_nextChange 77 = .ok (.isub, 1) := by decide +kernel
theorem dX5_nextChange_78 : decode cX5_nextChange 78 = .ok (.if_icmp .ne 22, 3) := by decide +kernel
theorem dX5_nextChange_81 : decode cX5_nextChange 81 = .ok (.aload_n 0, 1) := by decide +kernel
theorem dX5_nextChange_82 : decode cX5_nextChange 82 = .ok (.iload 8, 2) := by decide +kernel
theorem dX5_nextChange_84 : decode cX5_nextChange 84 = .ok (.iload 7, 2) := by decide +kernel
theorem dX5_nextChange_86 : decode cX5_nextChange 86 = .ok (.invokevirtual 43, 3) := by decide +kernel
theorem dX5_nextChange_89 : decode cX5_nextChange 89 = .ok (.iload 8, 2) := by decide +kernel
theorem dX5_nextChange_91 : decode cX5_nextChange 91 = .ok (.iadd, 1) := by decide +kernel
theorem dX5_nextChange_92 : decode cX5_nextChange 92 = .ok (.iload 5, 2) := by decide +kernel
theorem dX5_nextChange_94 : decode cX5_nextChange 94 = .ok (.if_icmp .ne 6, 3) := by decide +kernel
theorem dX5_nextChange_97 : decode cX5_nextChange 97 = .ok (.iload 7, 2) := by decide +kernel
theorem dX5_nextChange_99 : decode cX5_nextChange 99 = .ok (.ireturn, 1) := by decide +kernel
theorem dX5_nextChange_100 : decode cX5_nextChange 100 = .ok (.iinc 7 (-1), 3) := by decide +kernel
theorem dX5_nextChange_103 : decode cX5_nextChange 103 = .ok (.goto (-65), 3) := by decide +kernel
theorem dX5_nextChange_106 : decode cX5_nextChange 106 = .ok (.iconst 5, 1) := by decide +kernel
theorem dX5_nextChange_107 : decode cX5_nextChange 107 = .ok (.ireturn, 1) := by decide +kernel
theorem dX5_renew_0 : decode cX5_renew 0 = .ok (.aload_n 0, 1) := by decide +kernel
theorem dX5_renew_1 : decode cX5_renew 1 = .ok (.getfield 25, 3) := by decide +kernel
theorem dX5_renew_4 : decode cX5_renew 4 = .ok (.aload_n 1, 1) := by decide +kernel
theorem dX5_renew_5 : decode cX5_renew 5 = .ok (.getfield 59, 3) := by decide +kernel
theorem dX5_renew_8 : decode cX5_renew 8 = .ok (.if_icmp .ne 4, 3) := by decide +kernel
theorem dX5_renew_11 : decode cX5_renew 11 = .ok (.return_, 1) := by decide +kernel
theorem dX5_renew_12 : decode cX5_renew 12 = .ok (.aload_n 0, 1) := by decide +kernel
theorem dX5_renew_13 : decode cX5_renew 13 = .ok (.aload_n 1, 1) := by decide +kernel
theorem dX5_renew_14 : decode cX5_renew 14 = .ok (.getfield 59, 3) := by decide +kernel
theorem dX5_renew_17 : decode cX5_renew 17 = .ok (.putfield 25, 3) := by decide +kernel
theorem dX5_renew_20 : decode cX5_renew 20 = .ok (.aload_n 0, 1) := by decide +kernel
theorem dX5_renew_21 : decode cX5_renew 21 = .ok (.getfield 9, 3) := by decide +kernel
theorem dX5_renew_24 : decode cX5_renew 24 = .ok (.iconst (-1), 1) := by decide +kernel
theorem dX5_renew_25 : decode cX5_renew 25 = .ok (.invokestatic 60, 3) := by decide +kernel
theorem dX5_renew_28 : decode cX5_renew 28 = .ok (.aload_n 0, 1) := by decide +kernel
theorem dX5_renew_29 : decode cX5_renew 29 = .ok (.iconst 0, 1) := by decide +kernel
theorem dX5_renew_30 : decode cX5_renew 30 = .ok (.putfield 21, 3) := by decide +kernel
theorem dX5_renew_33 : decode cX5_renew 33 = .ok (.bipush (-4), 2) := by decide +kernel
theorem dX5_renew_35 : decode cX5_renew 35 = .ok (.istore_n 2, 1) := by decide +kernel
theorem dX5_renew_36 : decode cX5_renew 36 = .ok (.iload_n 2, 1) := by decide +kernel
theorem dX5_renew_37 : decode cX5_renew 37 = .ok (.iconst 4, 1) := by decide +kernel
theorem dX5_renew_38 : decode cX5_renew 38 = .ok (.if_icmp .gt 29, 3) := by decide +kernel
theorem dX5_renew_41 : decode cX5_renew 41 = .ok (.aload_n 1, 1) := by decide +kernel
theorem dX5_renew_42 : decode cX5_renew 42 = .ok (.iconst 0, 1) := by decide +kernel
theorem dX5_renew_43 : decode cX5_renew 43 = .ok (.iload_n 2, 1) := by decide +kernel
theorem dX5_renew_44 : decode cX5_renew 44 = .ok (.invokevirtual 66, 3) := by decide +kernel
theorem dX5_renew_47 : decode cX5_renew 47 = .ok (.ifCond .eq 14, 3) := by decide +kernel
theorem dX5_renew_50 : decode cX5_renew 50 = .ok (.aload_n 0, 1) := by decide +kernel
theorem dX5_renew_51 : decode cX5_renew 51 = .ok (.iconst 0, 1) := by decide +kernel
theorem dX5_renew_52 : decode cX5_renew 52 = .ok (.iload_n 2, 1) := by decide +kernel
theorem dX5_renew_53 : decode cX5_renew 53 = .ok (.invokestatic 32, 3) := by decide +kernel
theorem dX5_renew_56 : decode cX5_renew 56 = .ok (.iconst 0, 1) := by decide +kernel
theorem dX5_renew_57 : decode cX5_renew 57 = .ok (.iconst 0, 1) := by decide +kernel
theorem dX5_renew_58 : decode cX5_renew 58 = .ok (.invokevirtual 70, 3) := by decide +kernel
theorem dX5_renew_61 : decode cX5_renew 61 = .ok (.iinc 2 1, 3) := by decide +kernel
theorem dX5_renew_64 : decode cX5_renew 64 = .ok (.goto (-28), 3) := by decide +kernel
theorem dX5_renew_67 : decode cX5_renew 67 = .ok (.iconst 0, 1) := by decide +kernel
theorem dX5_renew_68 : decode cX5_renew 68 = .ok (.istore_n 2, 1) := by decide +kernel
theorem dX5_renew_69 : decode cX5_renew 69 = .ok (.iload_n 2, 1) := by decide +kernel
theorem dX5_renew_70 : decode cX5_renew 70 = .ok (.aload_n 0, 1) := by decide +kernel
theorem dX5_renew_71 : decode cX5_renew 71 = .ok (.getfield 21, 3) := by decide +kernel
theorem dX5_renew_74 : decode cX5_renew 74 = .ok (.if_icmp .ge 31, 3) := by decide +kernel
theorem dX5_renew_77 : decode cX5_renew 77 = .ok (.aload_n 0, 1) := by decide +kernel
theorem dX5_renew_78 : decode cX5_renew 78 = .ok (.getfield 18, 3) := by decide +kernel
theorem dX5_renew_81 : decode cX5_renew 81 = .ok (.iload_n 2, 1) := by decide +kernel
theorem dX5_renew_82 : decode cX5_renew 82 = .ok (.invokestatic 36, 3) := by decide +kernel
theorem dX5_renew_85 : decode cX5_renew 85 = .ok (.ifCond .eq 20, 3) := by decide +kernel
theorem dX5_renew_88 : decode cX5_renew 88 = .ok (.aload_n 0, 1) := by decide +kernel
theorem dX5_renew_89 : decode cX5_renew 89 = .ok (.aload_n 1, 1) := by decide +kernel
theorem dX5_renew_90 : decode cX5_renew 90 = .ok (.aload_n 0, 1) := by decide +kernel
theorem dX5_renew_91 : decode cX5_renew 91 = .ok (.getfield 18, 3) := by decide +kernel
theorem dX5_renew_94 : decode cX5_renew 94 = .ok (.iload_n 2, 1) := by decide +kernel
theorem dX5_renew_95 : decode cX5_renew 95 = .ok (.iaload, 1) := by decide +kernel
theorem dX5_renew_96 : decode cX5_renew 96 = .ok (.invokevirtual 74, 3) := by decide +kernel
theorem dX5_renew_99 : decode cX5_renew 99 = .ok (.iinc 2 1, 3) := by decide +kernel
theorem dX5_renew_102 : decode cX5_renew 102 = .ok (.goto (-33), 3) := by decide +kernel
theorem dX5_renew_105 : decode cX5_renew 105 = .ok (.return_, 1) := by decide +kernel
theorem dX5_lookBehind_0 : decode cX5_lookBehind 0 = .ok (.iload_n 2, 1) := by decide +kernel
theorem dX5_lookBehind_1 : decode cX5_lookBehind 1 = .ok (.bipush 9, 2) := by decide +kernel
theorem dX5_lookBehind_3 : decode cX5_lookBehind 3 = .ok (.idiv, 1) := by decide +kernel
theorem dX5_lookBehind_4 : decode cX5_lookBehind 4 = .ok (.istore_n 3, 1) := by decide +kernel
theorem dX5_lookBehind_5 : decode cX5_lookBehind 5 = .ok (.iload_n 2, 1) := by decide +kernel
theorem dX5_lookBehind_6 : decode cX5_lookBehind 6 = .ok (.bipush 9, 2) := by decide +kernel
theorem dX5_lookBehind_8 : decode cX5_lookBehind 8 = .ok (.irem, 1) := by decide +kernel
theorem dX5_lookBehind_9 : decode cX5_lookBehind 9 = .ok (.iconst 4, 1) := by decide +kernel
theorem dX5_lookBehind_10 : decode cX5_lookBehind 10 = .ok (.isub, 1) := by decide +kernel
theorem dX5_lookBehind_11 : decode cX5_lookBehind 11 = .ok (.istore 4, 2) := by decide +kernel
theorem dX5_lookBehind_13 : decode cX5_lookBehind 13 = .ok (.iload_n 3, 1) := by decide +kernel
theorem dX5_lookBehind_14 : decode cX5_lookBehind 14 = .ok (.iload 4, 2) := by decide +kernel
theorem dX5_lookBehind_16 : decode cX5_lookBehind 16 = .ok (.isub, 1) := by decide +kernel
theorem dX5_lookBehind_17 : decode cX5_lookBehind 17 = .ok (.istore 5, 2) := by decide +kernel
theorem dX5_lookBehind_19 : decode cX5_lookBehind 19 = .ok (.aload_n 1, 1) := by decide +kernel
theorem dX5_lookBehind_20 : decode cX5_lookBehind 20 = .ok (.iload 5, 2) := by decide +kernel
theorem dX5_lookBehind_22 : decode cX5_lookBehind 22 = .ok (.invokevirtual 78, 3) := by decide +kernel
theorem dX5_lookBehind_25 : decode cX5_lookBehind 25 = .ok (.ifCond .eq 17, 3) := by decide +kernel
theorem dX5_lookBehind_28 : decode cX5_lookBehind 28 = .ok (.aload_n 1, 1) := by decide +kernel
theorem dX5_lookBehind_29 : decode cX5_lookBehind 29 = .ok (.iload_n 3, 1) := by decide +kernel
theorem dX5_lookBehind_30 : decode cX5_lookBehind 30 = .ok (.iload 4, 2) := by decide +kernel
theorem dX5_lookBehind_32 : decode cX5_lookBehind 32 = .ok (.aload_n 0, 1) := by decide +kernel
theorem dX5_lookBehind_33 : decode cX5_lookBehind 33 = .ok (.getfield 28, 3) := by decide +kernel
theorem dX5_lookBehind_36 : decode cX5_lookBehind 36 = .ok (.invokevirtual 55, 3) := by decide +kernel
theorem dX5_lookBehind_39 : decode cX5_lookBehind 39 = .ok (.ifCond .ne 4, 3) := by decide +kernel
theorem dX5_lookBehind_42 : decode cX5_lookBehind 42 = .ok (.return_, 1) := by decide +kernel
theorem dX5_lookBehind_43 : decode cX5_lookBehind 43 = .ok (.aload_n 0, 1) := by decide +kernel
theorem dX5_lookBehind_44 : decode cX5_lookBehind 44 = .ok (.iload_n 3, 1) := by decide +kernel
theorem dX5_lookBehind_45 : decode cX5_lookBehind 45 = .ok (.iload 4, 2) := by decide +kernel
theorem dX5_lookBehind_47 : decode cX5_lookBehind 47 = .ok (.invokevirtual 40, 3) := by decide +kernel
theorem dX5_lookBehind_50 : decode cX5_lookBehind 50 = .ok (.iconst 1, 1) := by decide +kernel
theorem dX5_lookBehind_51 : decode cX5_lookBehind 51 = .ok (.iadd, 1) := by decide +kernel
theorem dX5_lookBehind_52 : decode cX5_lookBehind 52 = .ok (.istore 6, 2) := by decide +kernel
theorem dX5_lookBehind_54 : decode cX5_lookBehind 54 = .ok (.aload_n 0, 1) := by decide +kernel
theorem dX5_lookBehind_55 : decode cX5_lookBehind 55 = .ok (.iload_n 3, 1) := by decide +kernel
theorem dX5_lookBehind_56 : decode cX5_lookBehind 56 = .ok (.iload 4, 2) := by decide +kernel
theorem dX5_lookBehind_58 : decode cX5_lookBehind 58 = .ok (.invokevirtual 43, 3) := by decide +kernel
theorem dX5_lookBehind_61 : decode cX5_lookBehind 61 = .ok (.iload_n 3, 1) := by decide +kernel
theorem dX5_lookBehind_62 : decode cX5_lookBehind 62 = .ok (.iadd, 1) := by decide +kernel
theorem dX5_lookBehind_63 : decode cX5_lookBehind 63 = .ok (.istore 7, 2) := by decide +kernel
theorem dX5_lookBehind_65 : decode cX5_lookBehind 65 = .ok (.aload_n 1, 1) := by decide +kernel
theorem dX5_lookBehind_66 : decode cX5_lookBehind 66 = .ok (.iload 4, 2) := by decide +kernel
theorem dX5_lookBehind_68 : decode cX5_lookBehind 68 = .ok (.invokevirtual 52, 3) := by decide +kernel
theorem dX5_lookBehind_71 : decode cX5_lookBehind 71 = .ok (.istore 8, 2) := by decide +kernel
theorem dX5_lookBehind_73 : decode cX5_lookBehind 73 = .ok (.aload_n 1, 1) := by decide +kernel
theorem dX5_lookBehind_74 : decode cX5_lookBehind 74 = .ok (.iload 4, 2) := by decide +kernel
theorem dX5_lookBehind_76 : decode cX5_lookBehind 76 = .ok (.invokevirtual 46, 3) := by decide +kernel
theorem dX5_lookBehind_79 : decode cX5_lookBehind 79 = .ok (.istore 9, 2) := by decide +kernel
theorem dX5_lookBehind_81 : decode cX5_lookBehind 81 = .ok (.iload 9, 2) := by decide +kernel
theorem dX5_lookBehind_83 : decode cX5_lookBehind 83 = .ok (.iload 8, 2) := by decide +kernel
theorem dX5_lookBehind_85 : decode cX5_lookBehind 85 = .ok (.if_icmp .gt 24, 3) := by decide +kernel
theorem dX5_lookBehind_88 : decode cX5_lookBehind 88 = .ok (.aload_n 0, 1) := by decide +kernel
theorem dX5_lookBehind_89 : decode cX5_lookBehind 89 = .ok (.iload 5, 2) := by decide +kernel
theorem dX5_lookBehind_91 : decode cX5_lookBehind 91 = .ok (.iload 9, 2) := by decide +kernel
theorem dX5_lookBehind_93 : decode cX5_lookBehind 93 = .ok (.invokestatic 32, 3) := by decide +kernel
theorem dX5_lookBehind_96 : decode cX5_lookBehind 96 = .ok (.iload 6, 2) := by decide +kernel
theorem dX5_lookBehind_98 : decode cX5_lookBehind 98 = .ok (.iload 7, 2) := by decide +kernel
theorem dX5_lookBehind_100 : decode cX5_lookBehind 100 = .ok (.invokevirtual 70, 3) := by decide +kernel
theorem dX5_lookBehind_103 : decode cX5_lookBehind 103 = .ok (.iinc 9 1, 3) := by decide +kernel
theorem dX5_lookBehind_106 : decode cX5_lookBehind 106 = .ok (.goto (-25), 3) := by decide +kernel
theorem dX5_lookBehind_109 : decode cX5_lookBehind 109 = .ok (.return_, 1) := by decide +kernel
theorem dX5_find_0 : decode cX5_find 0 = .ok (.aload_n 0, 1) := by decide +kernel
theorem dX5_find_1 : decode cX5_find 1 = .ok (.getfield 9, 3) := by decide +kernel
theorem dX5_find_4 : decode cX5_find 4 = .ok (.iload_n 1, 1) := by decide +kernel
theorem dX5_find_5 : decode cX5_find 5 = .ok (.invokestatic 36, 3) := by decide +kernel
theorem dX5_find_8 : decode cX5_find 8 = .ok (.ifCond .eq 14, 3) := by decide +kernel
theorem dX5_find_11 : decode cX5_find 11 = .ok (.aload_n 0, 1) := by decide +kernel
theorem dX5_find_12 : decode cX5_find 12 = .ok (.getfield 15, 3) := by decide +kernel
theorem dX5_find_15 : decode cX5_find 15 = .ok (.iload_n 1, 1) := by decide +kernel
theorem dX5_find_16 : decode cX5_find 16 = .ok (.invokestatic 36, 3) := by decide +kernel
theorem dX5_find_19 : decode cX5_find 19 = .ok (.ifCond .ne 4, 3) := by decide +kernel
theorem dX5_find_22 : decode cX5_find 22 = .ok (.return_, 1) := by decide +kernel
theorem dX5_find_23 : decode cX5_find 23 = .ok (.aload_n 0, 1) := by decide +kernel
theorem dX5_find_24 : decode cX5_find 24 = .ok (.getfield 9, 3) := by decide +kernel
theorem dX5_find_27 : decode cX5_find 27 = .ok (.iload_n 1, 1) := by decide +kernel
theorem dX5_find_28 : decode cX5_find 28 = .ok (.iaload, 1) := by decide +kernel
theorem dX5_find_29 : decode cX5_find 29 = .ok (.iconst (-1), 1) := by decide +kernel
theorem dX5_find_30 : decode cX5_find 30 = .ok (.if_icmp .ne 54, 3) := by decide +kernel
theorem dX5_find_33 : decode cX5_find 33 = .ok (.aload_n 0, 1) := by decide +kernel
theorem dX5_find_34 : decode cX5_find 34 = .ok (.getfield 18, 3) := by decide +kernel
theorem dX5_find_37 : decode cX5_find 37 = .ok (.aload_n 0, 1) := by decide +kernel
theorem dX5_find_38 : decode cX5_find 38 = .ok (.getfield 21, 3) := by decide +kernel
theorem dX5_find_41 : decode cX5_find 41 = .ok (.invokestatic 36, 3) := by decide +kernel
theorem dX5_find_44 : decode cX5_find 44 = .ok (.ifCond .eq 40, 3) := by decide +kernel
theorem dX5_find_47 : decode cX5_find 47 = .ok (.aload_n 0, 1) := by decide +kernel
theorem dX5_find_48 : decode cX5_find 48 = .ok (.getfield 9, 3) := by decide +kernel
theorem dX5_find_51 : decode cX5_find 51 = .ok (.iload_n 1, 1) := by decide +kernel
theorem dX5_find_52 : decode cX5_find 52 = .ok (.iload_n 2, 1) := by decide +kernel
theorem dX5_find_53 : decode cX5_find 53 = .ok (.iastore, 1) := by decide +kernel
theorem dX5_find_54 : decode cX5_find 54 = .ok (.aload_n 0, 1) := by decide +kernel
theorem dX5_find_55 : decode cX5_find 55 = .ok (.getfield 15, 3) := by decide +kernel
theorem dX5_find_58 : decode cX5_find 58 = .ok (.iload_n 1, 1) := by decide +kernel
theorem dX5_find_59 : decode cX5_find 59 = .ok (.iload_n 3, 1) := by decide +kernel
theorem dX5_find_60 : decode cX5_find 60 = .ok (.iastore, 1) := by decide +kernel
theorem dX5_find_61 : decode cX5_find 61 = .ok (.aload_n 0, 1) := by decide +kernel
theorem dX5_find_62 : decode cX5_find 62 = .ok (.getfield 18, 3) := by decide +kernel
theorem dX5_find_65 : decode cX5_find 65 = .ok (.aload_n 0, 1) := by decide +kernel
theorem dX5_find_66 : decode cX5_find 66 = .ok (.getfield 21, 3) := by decide +kernel
theorem dX5_find_69 : decode cX5_find 69 = .ok (.iload_n 1, 1) := by decide +kernel
theorem dX5_find_70 : decode cX5_find 70 = .ok (.iastore, 1) := by decide +kernel
theorem dX5_find_71 : decode cX5_find 71 = .ok (.aload_n 0, 1) := by decide +kernel
theorem dX5_find_72 : decode cX5_find 72 = .ok (.dup, 1) := by decide +kernel
theorem dX5_find_73 : decode cX5_find 73 = .ok (.getfield 21, 3) := by decide +kernel
theorem dX5_find_76 : decode cX5_find 76 = .ok (.iconst 1, 1) := by decide +kernel
theorem dX5_find_77 : decode cX5_find 77 = .ok (.iadd, 1) := by decide +kernel
theorem dX5_find_78 : decode cX5_find 78 = .ok (.putfield 21, 3) := by decide +kernel
theorem dX5_find_81 : decode cX5_find 81 = .ok (.goto 30, 3) := by decide +kernel
theorem dX5_find_84 : decode cX5_find 84 = .ok (.aload_n 0, 1) := by decide +kernel
theorem dX5_find_85 : decode cX5_find 85 = .ok (.getfield 9, 3) := by decide +kernel
theorem dX5_find_88 : decode cX5_find 88 = .ok (.iload_n 1, 1) := by decide +kernel
theorem dX5_find_89 : decode cX5_find 89 = .ok (.iaload, 1) := by decide +kernel
theorem dX5_find_90 : decode cX5_find 90 = .ok (.iload_n 2, 1) := by decide +kernel
theorem dX5_find_91 : decode cX5_find 91 = .ok (.if_icmp .ne 20, 3) := by decide +kernel
theorem dX5_find_94 : decode cX5_find 94 = .ok (.iload_n 3, 1) := by decide +kernel
theorem dX5_find_95 : decode cX5_find 95 = .ok (.aload_n 0, 1) := by decide +kernel
theorem dX5_find_96 : decode cX5_find 96 = .ok (.getfield 15, 3) := by decide +kernel
theorem dX5_find_99 : decode cX5_find 99 = .ok (.iload_n 1, 1) := by decide +kernel
theorem dX5_find_100 : decode cX5_find 100 = .ok (.iaload, 1) := by decide +kernel
theorem dX5_find_101 : decode cX5_find 101 = .ok (.if_icmp .ge 10, 3) := by decide +kernel
theorem dX5_find_104 : decode cX5_find 104 = .ok (.aload_n 0, 1) := by decide +kernel
theorem dX5_find_105 : decode cX5_find 105 = .ok (.getfield 15, 3) := by decide +kernel
theorem dX5_find_108 : decode cX5_find 108 = .ok (.iload_n 1, 1) := by decide +kernel
theorem dX5_find_109 : decode cX5_find 109 = .ok (.iload_n 3, 1) := by decide +kernel
theorem dX5_find_110 : decode cX5_find 110 = .ok (.iastore, 1) := by decide +kernel
theorem dX5_find_111 : decode cX5_find 111 = .ok (.return_, 1) := by decide +kernel
theorem dX6_init_0 : decode cX6_init 0 = .ok (.aload_n 0, 1) := by decide +kernel
theorem dX6_init_1 : decode cX6_init 1 = .ok (.invokespecial 3, 3) := by decide +kernel
theorem dX6_init_4 : decode cX6_init 4 = .ok (.aload_n 0, 1) := by decide +kernel
theorem dX6_init_5 : decode cX6_init 5 = .ok (.new 9, 3) := by decide +kernel
theorem dX6_init_8 : decode cX6_init 8 = .ok (.dup, 1) := by decide +kernel
theorem dX6_init_9 : decode cX6_init 9 = .ok (.invokespecial 11, 3) := by decide +kernel
theorem dX6_init_12 : decode cX6_init 12 = .ok (.putfield 12, 3) := by decide +kernel
theorem dX6_init_15 : decode cX6_init 15 = .ok (.aload_n 0, 1) := by decide +kernel
theorem dX6_init_16 : decode cX6_init 16 = .ok (.new 16, 3) := by decide +kernel
theorem dX6_init_19 : decode cX6_init 19 = .ok (.dup, 1) := by decide +kernel
theorem dX6_init_20 : decode cX6_init 20 = .ok (.invokespecial 18, 3) := by decide +kernel
theorem dX6_init_23 : decode cX6_init 23 = .ok (.putfield 19, 3) := by decide +kernel
theorem dX6_init_26 : decode cX6_init 26 = .ok (.aload_n 0, 1) := by decide +kernel
theorem dX6_init_27 : decode cX6_init 27 = .ok (.new 23, 3) := by decide +kernel
theorem dX6_init_30 : decode cX6_init 30 = .ok (.dup, 1) := by decide +kernel
theorem dX6_init_31 : decode cX6_init 31 = .ok (.iconst 1, 1) := by decide +kernel
theorem dX6_init_32 : decode cX6_init 32 = .ok (.invokespecial 25, 3) := by decide +kernel
theorem dX6_init_35 : decode cX6_init 35 = .ok (.putfield 28, 3) := by decide +kernel
theorem dX6_init_38 : decode cX6_init 38 = .ok (.aload_n 0, 1) := by decide +kernel
theorem dX6_init_39 : decode cX6_init 39 = .ok (.new 23, 3) := by decide +kernel
theorem dX6_init_42 : decode cX6_init 42 = .ok (.dup, 1) := by decide +kernel
theorem dX6_init_43 : decode cX6_init 43 = .ok (.iconst 0, 1) := by decide +kernel
theorem dX6_init_44 : decode cX6_init 44 = .ok (.invokespecial 25, 3) := by decide +kernel
theorem dX6_init_47 : decode cX6_init 47 = .ok (.putfield 32, 3) := by decide +kernel
theorem dX6_init_50 : decode cX6_init 50 = .ok (.aload_n 0, 1) := by decide +kernel
theorem dX6_init_51 : decode cX6_init 51 = .ok (.new 35, 3) := by decide +kernel
theorem dX6_init_54 : decode cX6_init 54 = .ok (.dup, 1) := by decide +kernel
theorem dX6_init_55 : decode cX6_init 55 = .ok (.invokespecial 37, 3) := by decide +kernel
theorem dX6_init_58 : decode cX6_init 58 = .ok (.putfield 38, 3) := by decide +kernel
theorem dX6_init_61 : decode cX6_init 61 = .ok (.aload_n 0, 1) := by decide +kernel
theorem dX6_init_62 : decode cX6_init 62 = .ok (.new 42, 3) := by decide +kernel
theorem dX6_init_65 : decode cX6_init 65 = .ok (.dup, 1) := by decide +kernel
theorem dX6_init_66 : decode cX6_init 66 = .ok (.invokespecial 44, 3) := by decide +kernel
theorem dX6_init_69 : decode cX6_init 69 = .ok (.putfield 45, 3) := by decide +kernel
theorem dX6_init_72 : decode cX6_init 72 = .ok (.aload_n 0, 1) := by decide +kernel
theorem dX6_init_73 : decode cX6_init 73 = .ok (.new 42, 3) := by decide +kernel
theorem dX6_init_76 : decode cX6_init 76 = .ok (.dup, 1) := by decide +kernel
theorem dX6_init_77 : decode cX6_init 77 = .ok (.invokespecial 44, 3) := by decide +kernel
theorem dX6_init_80 : decode cX6_init 80 = .ok (.putfield 49, 3) := by decide +kernel
theorem dX6_init_83 : decode cX6_init 83 = .ok (.aload_n 0, 1) := by decide +kernel
theorem dX6_init_84 : decode cX6_init 84 = .ok (.new 42, 3) := by decide +kernel
theorem dX6_init_87 : decode cX6_init 87 = .ok (.dup, 1) := by decide +kernel
theorem dX6_init_88 : decode cX6_init 88 = .ok (.invokespecial 44, 3) := by decide +kernel
theorem dX6_init_91 : decode cX6_init 91 = .ok (.putfield 52, 3) := by decide +kernel
theorem dX6_init_94 : decode cX6_init 94 = .ok (.aload_n 0, 1) := by decide +kernel
theorem dX6_init_95 : decode cX6_init 95 = .ok (.new 55, 3) := by decide +kernel
theorem dX6_init_98 : decode cX6_init 98 = .ok (.dup, 1) := by decide +kernel
theorem dX6_init_99 : decode cX6_init 99 = .ok (.invokespecial 57, 3) := by decide +kernel
theorem dX6_init_102 : decode cX6_init 102 = .ok (.putfield 58, 3) := by decide +kernel
theorem dX6_init_105 : decode cX6_init 105 = .ok (.return_, 1) := by decide +kernel
theorem dX6_limits_0 : decode cX6_limits 0 = .ok (.aload_n 0, 1) := by decide +kernel
theorem dX6_limits_1 : decode cX6_limits 1 = .ok (.getfield 38, 3) := by decide +kernel
theorem dX6_limits_4 : decode cX6_limits 4 = .ok (.invokevirtual 62, 3) := by decide +kernel
theorem dX6_limits_7 : decode cX6_limits 7 = .ok (.ifCond .ne 31, 3) := by decide +kernel
theorem dX6_limits_10 : decode cX6_limits 10 = .ok (.iload_n 1, 1) := by decide +kernel
theorem dX6_limits_11 : decode cX6_limits 11 = .ok (.iconst 1, 1) := by decide +kernel
theorem dX6_limits_12 : decode cX6_limits 12 = .ok (.bipush 12, 2) := by decide +kernel
theorem dX6_limits_14 : decode cX6_limits 14 = .ok (.invokestatic 66, 3) := by decide +kernel
theorem dX6_limits_17 : decode cX6_limits 17 = .ok (.ifCond .eq 21, 3) := by decide +kernel
theorem dX6_limits_20 : decode cX6_limits 20 = .ok (.iload_n 2, 1) := by decide +kernel
theorem dX6_limits_21 : decode cX6_limits 21 = .ok (.iconst 1, 1) := by decide +kernel
theorem dX6_limits_22 : decode cX6_limits 22 = .ok (.iconst 4, 1) := by decide +kernel
theorem dX6_limits_23 : decode cX6_limits 23 = .ok (.invokestatic 66, 3) := by decide +kernel
theorem dX6_limits_26 : decode cX6_limits 26 = .ok (.ifCond .eq 12, 3) := by decide +kernel
theorem dX6_limits_29 : decode cX6_limits 29 = .ok (.iload_n 3, 1) := by decide +kernel
theorem dX6_limits_30 : decode cX6_limits 30 = .ok (.iconst 1, 1) := by decide +kernel
theorem dX6_limits_31 : decode cX6_limits 31 = .ok (.iconst 4, 1) := by decide +kernel
theorem dX6_limits_32 : decode cX6_limits 32 = .ok (.invokestatic 66, 3) := by decide +kernel
theorem dX6_limits_35 : decode cX6_limits 35 = .ok (.ifCond .ne 5, 3) := by decide +kernel
theorem dX6_limits_38 : decode cX6_limits 38 = .ok (.iconst 0, 1) := by decide +kernel
theorem dX6_limits_39 : decode cX6_limits 39 = .ok (.ireturn, 1) := by decide +kernel
theorem dX6_limits_40 : decode cX6_limits 40 = .ok (.aload_n 0, 1) := by decide +kernel
theorem dX6_limits_41 : decode cX6_limits 41 = .ok (.getfield 12, 3) := by decide +kernel
theorem dX6_limits_44 : decode cX6_limits 44 = .ok (.iload_n 1, 1) := by decide +kernel
theorem dX6_limits_45 : decode cX6_limits 45 = .ok (.iload_n 2, 1) := by decide +kernel
theorem dX6_limits_46 : decode cX6_limits 46 = .ok (.iload_n 3, 1) := by decide +kernel
theorem dX6_limits_47 : decode cX6_limits 47 = .ok (.invokevirtual 70, 3) := by decide +kernel
theorem dX6_limits_50 : decode cX6_limits 50 = .ok (.iconst 1, 1) := by decide +kernel
theorem dX6_limits_51 : decode cX6_limits 51 = .ok (.ireturn, 1) := by decide +kernel
theorem dX6_bad_0 : decode cX6_bad 0 = .ok (.aload_n 0, 1) := by decide +kernel
theorem dX6_bad_1 : decode cX6_bad 1 = .ok (.getfield 38, 3) := by decide +kernel
theorem dX6_bad_4 : decode cX6_bad 4 = .ok (.invokevirtual 62, 3) := by decide +kernel
theorem dX6_bad_7 : decode cX6_bad 7 = .ok (.ifCond .ne 25, 3) := by decide +kernel
theorem dX6_bad_10 : decode cX6_bad 10 = .ok (.iload_n 1, 1) := by decide +kernel
theorem dX6_bad_11 : decode cX6_bad 11 = .ok (.iconst 1, 1) := by decide +kernel
theorem dX6_bad_12 : decode cX6_bad 12 = .ok (.bipush 12, 2) := by decide +kernel
theorem dX6_bad_14 : decode cX6_bad 14 = .ok (.invokestatic 66, 3) := by decide +kernel
theorem dX6_bad_17 : decode cX6_bad 17 = .ok (.ifCond .eq 15, 3) := by decide +kernel
theorem dX6_bad_20 : decode cX6_bad 20 = .ok (.aload_n 0, 1) := by decide +kernel
theorem dX6_bad_21 : decode cX6_bad 21 = .ok (.getfield 12, 3) := by decide +kernel
theorem dX6_bad_24 : decode cX6_bad 24 = .ok (.iload_n 1, 1) := by decide +kernel
theorem dX6_bad_25 : decode cX6_bad 25 = .ok (.invokevirtual 74, 3) := by decide +kernel
theorem dX6_bad_28 : decode cX6_bad 28 = .ok (.iload_n 2, 1) := by decide +kernel
theorem dX6_bad_29 : decode cX6_bad 29 = .ok (.if_icmp .ne 5, 3) := by decide +kernel
theorem dX6_bad_32 : decode cX6_bad 32 = .ok (.iconst 0, 1) := by decide +kernel
theorem dX6_bad_33 : decode cX6_bad 33 = .ok (.ireturn, 1) := by decide +kernel
theorem dX6_bad_34 : decode cX6_bad 34 = .ok (.aload_n 0, 1) := by decide +kernel
theorem dX6_bad_35 : decode cX6_bad 35 = .ok (.getfield 12, 3) := by decide +kernel
theorem dX6_bad_38 : decode cX6_bad 38 = .ok (.iload_n 1, 1) := by decide +kernel
theorem dX6_bad_39 : decode cX6_bad 39 = .ok (.iload_n 2, 1) := by decide +kernel
theorem dX6_bad_40 : decode cX6_bad 40 = .ok (.invokevirtual 78, 3) := by decide +kernel
theorem dX6_bad_43 : decode cX6_bad 43 = .ok (.iconst 1, 1) := by decide +kernel
theorem dX6_bad_44 : decode cX6_bad 44 = .ok (.ireturn, 1) := by decide +kernel
theorem dX6_pull_0 : decode cX6_pull 0 = .ok (.aload_n 0, 1) := by decide +kernel
theorem dX6_pull_1 : decode cX6_pull 1 = .ok (.getfield 38, 3) := by decide +kernel
theorem dX6_pull_4 : decode cX6_pull 4 = .ok (.invokevirtual 62, 3) := by decide +kernel
theorem dX6_pull_7 : decode cX6_pull 7 = .ok (.ifCond .ne 24, 3) := by decide +kernel
theorem dX6_pull_10 : decode cX6_pull 10 = .ok (.iload_n 1, 1) := by decide +kernel
theorem dX6_pull_11 : decode cX6_pull 11 = .ok (.iconst 0, 1) := by decide +kernel
theorem dX6_pull_12 : decode cX6_pull 12 = .ok (.bipush 12, 2) := by decide +kernel
theorem dX6_pull_14 : decode cX6_pull 14 = .ok (.invokestatic 66, 3) := by decide +kernel
theorem dX6_pull_17 : decode cX6_pull 17 = .ok (.ifCond .eq 14, 3) := by decide +kernel
theorem dX6_pull_20 : decode cX6_pull 20 = .ok (.iload_n 2, 1) := by decide +kernel
theorem dX6_pull_21 : decode cX6_pull 21 = .ok (.iconst 0, 1) := by decide +kernel
theorem dX6_pull_22 : decode cX6_pull 22 = .ok (.sipush 1000, 3) := by decide +kernel
theorem dX6_pull_25 : decode cX6_pull 25 = .ok (.invokestatic 66, 3) := by decide +kernel
theorem dX6_pull_28 : decode cX6_pull 28 = .ok (.ifCond .ne 5, 3) := by decide +kernel
theorem dX6_pull_31 : decode cX6_pull 31 = .ok (.iconst 0, 1) := by decide +kernel
theorem dX6_pull_32 : decode cX6_pull 32 = .ok (.ireturn, 1) := by decide +kernel
theorem dX6_pull_33 : decode cX6_pull 33 = .ok (.aload_n 0, 1) := by decide +kernel
theorem dX6_pull_34 : decode cX6_pull 34 = .ok (.getfield 12, 3) := by decide +kernel
theorem dX6_pull_37 : decode cX6_pull 37 = .ok (.iload_n 1, 1) := by decide +kernel
theorem dX6_pull_38 : decode cX6_pull 38 = .ok (.iload_n 2, 1) := by decide +kernel
theorem dX6_pull_39 : decode cX6_pull 39 = .ok (.invokevirtual 82, 3) := by decide +kernel
theorem dX6_pull_42 : decode cX6_pull 42 = .ok (.iconst 1, 1) := by decide +kernel
theorem dX6_pull_43 : decode cX6_pull 43 = .ok (.ireturn, 1) := by decide +kernel
theorem dX6_load_0 : decode cX6_load 0 = .ok (.aload_n 0, 1) := by decide +kernel
theorem dX6_load_1 : decode cX6_load 1 = .ok (.getfield 38, 3) := by decide +kernel
theorem dX6_load_4 : decode cX6_load 4 = .ok (.invokevirtual 62, 3) := by decide +kernel
theorem dX6_load_7 : decode cX6_load 7 = .ok (.ifCond .ne 24, 3) := by decide +kernel
theorem dX6_load_10 : decode cX6_load 10 = .ok (.iload_n 1, 1) := by decide +kernel
theorem dX6_load_11 : decode cX6_load 11 = .ok (.iconst 0, 1) := by decide +kernel
theorem dX6_load_12 : decode cX6_load 12 = .ok (.sipush 1000, 3) := by decide +kernel
theorem dX6_load_15 : decode cX6_load 15 = .ok (.invokestatic 66, 3) := by decide +kernel
theorem dX6_load_18 : decode cX6_load 18 = .ok (.ifCond .eq 13, 3) := by decide +kernel
theorem dX6_load_21 : decode cX6_load 21 = .ok (.iload_n 2, 1) := by decide +kernel
theorem dX6_load_22 : decode cX6_load 22 = .ok (.iconst 0, 1) := by decide +kernel
theorem dX6_load_23 : decode cX6_load 23 = .ok (.bipush 100, 2) := by decide +kernel
theorem dX6_load_25 : decode cX6_load 25 = .ok (.invokestatic 66, 3) := by decide +kernel
theorem dX6_load_28 : decode cX6_load 28 = .ok (.ifCond .ne 5, 3) := by decide +kernel
theorem dX6_load_31 : decode cX6_load 31 = .ok (.iconst 0, 1) := by decide +kernel
theorem dX6_load_32 : decode cX6_load 32 = .ok (.ireturn, 1) := by decide +kernel
theorem dX6_load_33 : decode cX6_load 33 = .ok (.aload_n 0, 1) := by decide +kernel
theorem dX6_load_34 : decode cX6_load 34 = .ok (.getfield 12, 3) := by decide +kernel
theorem dX6_load_37 : decode cX6_load 37 = .ok (.iload_n 1, 1) := by decide +kernel
theorem dX6_load_38 : decode cX6_load 38 = .ok (.iload_n 2, 1) := by decide +kernel
theorem dX6_load_39 : decode cX6_load 39 = .ok (.invokevirtual 86, 3) := by decide +kernel
theorem dX6_load_42 : decode cX6_load 42 = .ok (.iconst 1, 1) := by decide +kernel
theorem dX6_load_43 : decode cX6_load 43 = .ok (.ireturn, 1) := by decide +kernel
theorem dX6_only_0 : decode cX6_only 0 = .ok (.aload_n 0, 1) := by decide +kernel
theorem dX6_only_1 : decode cX6_only 1 = .ok (.getfield 38, 3) := by decide +kernel
theorem dX6_only_4 : decode cX6_only 4 = .ok (.invokevirtual 62, 3) := by decide +kernel
theorem dX6_only_7 : decode cX6_only 7 = .ok (.ifCond .ne 14, 3) := by decide +kernel
theorem dX6_only_10 : decode cX6_only 10 = .ok (.aload_n 0, 1) := by decide +kernel
theorem dX6_only_11 : decode cX6_only 11 = .ok (.getfield 12, 3) := by decide +kernel
theorem dX6_only_14 : decode cX6_only 14 = .ok (.getfield 89, 3) := by decide +kernel
theorem dX6_only_17 : decode cX6_only 17 = .ok (.iload_n 1, 1) := by decide +kernel
theorem dX6_only_18 : decode cX6_only 18 = .ok (.if_icmp .ne 5, 3) := by decide +kernel
theorem dX6_only_21 : decode cX6_only 21 = .ok (.iconst 0, 1) := by decide +kernel
theorem dX6_only_22 : decode cX6_only 22 = .ok (.ireturn, 1) := by decide +kernel
theorem dX6_only_23 : decode cX6_only 23 = .ok (.aload_n 0, 1) := by decide +kernel
theorem dX6_only_24 : decode cX6_only 24 = .ok (.getfield 12, 3) := by decide +kernel
theorem dX6_only_27 : decode cX6_only 27 = .ok (.iload_n 1, 1) := by decide +kernel
theorem dX6_only_28 : decode cX6_only 28 = .ok (.invokevirtual 93, 3) := by decide +kernel
theorem dX6_only_31 : decode cX6_only 31 = .ok (.iconst 1, 1) := by decide +kernel
theorem dX6_only_32 : decode cX6_only 32 = .ok (.ireturn, 1) := by decide +kernel
theorem dX6_ramp_0 : decode cX6_ramp 0 = .ok (.aload_n 0, 1) := by decide +kernel
theorem dX6_ramp_1 : decode cX6_ramp 1 = .ok (.getfield 19, 3) := by decide +kernel
theorem dX6_ramp_4 : decode cX6_ramp 4 = .ok (.aload_n 0, 1) := by decide +kernel
theorem dX6_ramp_5 : decode cX6_ramp 5 = .ok (.getfield 12, 3) := by decide +kernel
theorem dX6_ramp_8 : decode cX6_ramp 8 = .ok (.iload_n 1, 1) := by decide +kernel
theorem dX6_ramp_9 : decode cX6_ramp 9 = .ok (.invokevirtual 96, 3) := by decide +kernel
theorem dX6_ramp_12 : decode cX6_ramp 12 = .ok (.ireturn, 1) := by decide +kernel
theorem dX6_speed_0 : decode cX6_speed 0 = .ok (.iload_n 2, 1) := by decide +kernel
theorem dX6_speed_1 : decode cX6_speed 1 = .ok (.ifCond .lt 19, 3) := by decide +kernel
theorem dX6_speed_4 : decode cX6_speed 4 = .ok (.iload_n 2, 1) := by decide +kernel
theorem dX6_speed_5 : decode cX6_speed 5 = .ok (.aload_n 0, 1) := by decide +kernel
theorem dX6_speed_6 : decode cX6_speed 6 = .ok (.getfield 19, 3) := by decide +kernel
theorem dX6_speed_9 : decode cX6_speed 9 = .ok (.aload_n 0, 1) := by decide +kernel
theorem dX6_speed_10 : decode cX6_speed 10 = .ok (.getfield 12, 3) := by decide +kernel
theorem dX6_speed_13 : decode cX6_speed 13 = .ok (.iload_n 1, 1) := by decide +kernel
theorem dX6_speed_14 : decode cX6_speed 14 = .ok (.invokevirtual 96, 3) := by decide +kernel
theorem dX6_speed_17 : decode cX6_speed 17 = .ok (.if_icmp .lt 5, 3) := by decide +kernel
theorem dX6_speed_20 : decode cX6_speed 20 = .ok (.iconst (-1), 1) := by decide +kernel
theorem dX6_speed_21 : decode cX6_speed 21 = .ok (.ireturn, 1) := by decide +kernel
theorem dX6_speed_22 : decode cX6_speed 22 = .ok (.aload_n 0, 1) := by decide +kernel
theorem dX6_speed_23 : decode cX6_speed 23 = .ok (.getfield 19, 3) := by decide +kernel
theorem dX6_speed_26 : decode cX6_speed 26 = .ok (.aload_n 0, 1) := by decide +kernel
theorem dX6_speed_27 : decode cX6_speed 27 = .ok (.getfield 12, 3) := by decide +kernel
theorem dX6_speed_30 : decode cX6_speed 30 = .ok (.iload_n 1, 1) := by decide +kernel
theorem dX6_speed_31 : decode cX6_speed 31 = .ok (.iload_n 2, 1) := by decide +kernel
theorem dX6_speed_32 : decode cX6_speed 32 = .ok (.invokevirtual 100, 3) := by decide +kernel
theorem dX6_speed_35 : decode cX6_speed 35 = .ok (.ireturn, 1) := by decide +kernel
theorem dX6_slowing_0 : decode cX6_slowing 0 = .ok (.aload_n 0, 1) := by decide +kernel
theorem dX6_slowing_1 : decode cX6_slowing 1 = .ok (.getfield 12, 3) := by decide +kernel
theorem dX6_slowing_4 : decode cX6_slowing 4 = .ok (.iload_n 1, 1) := by decide +kernel
theorem dX6_slowing_5 : decode cX6_slowing 5 = .ok (.iload_n 2, 1) := by decide +kernel
theorem dX6_slowing_6 : decode cX6_slowing 6 = .ok (.invokevirtual 104, 3) := by decide +kernel
theorem dX6_slowing_9 : decode cX6_slowing 9 = .ok (.ifCond .eq 12, 3) := by decide +kernel
theorem dX6_slowing_12 : decode cX6_slowing 12 = .ok (.iload_n 3, 1) := by decide +kernel
theorem dX6_slowing_13 : decode cX6_slowing 13 = .ok (.iconst 0, 1) := by decide +kernel
theorem dX6_slowing_14 : decode cX6_slowing 14 = .ok (.iconst 2, 1) := by decide +kernel
theorem dX6_slowing_15 : decode cX6_slowing 15 = .ok (.invokestatic 66, 3) := by decide +kernel
theorem dX6_slowing_18 : decode cX6_slowing 18 = .ok (.ifCond .ne 5, 3) := by decide +kernel
theorem dX6_slowing_21 : decode cX6_slowing 21 = .ok (.iconst (-1), 1) := by decide +kernel
theorem dX6_slowing_22 : decode cX6_slowing 22 = .ok (.ireturn, 1) := by decide +kernel
theorem dX6_slowing_23 : decode cX6_slowing 23 = .ok (.aload_n 0, 1) := by decide +kernel
theorem dX6_slowing_24 : decode cX6_slowing 24 = .ok (.iload_n 1, 1) := by decide +kernel
theorem dX6_slowing_25 : decode cX6_slowing 25 = .ok (.iload_n 2, 1) := by decide +kernel
theorem dX6_slowing_26 : decode cX6_slowing 26 = .ok (.invokevirtual 108, 3) := by decide +kernel
theorem dX6_slowing_29 : decode cX6_slowing 29 = .ok (.astore 4, 2) := by decide +kernel
theorem dX6_slowing_31 : decode cX6_slowing 31 = .ok (.aload 4, 2) := by decide +kernel
theorem dX6_slowing_33 : decode cX6_slowing 33 = .ok (.iload_n 1, 1) := by decide +kernel
theorem dX6_slowing_34 : decode cX6_slowing 34 = .ok (.iload_n 2, 1) := by decide +kernel
theorem dX6_slowing_35 : decode cX6_slowing 35 = .ok (.invokevirtual 112, 3) := by decide +kernel
theorem dX6_slowing_38 : decode cX6_slowing 38 = .ok (.istore 5, 2) := by decide +kernel
theorem dX6_slowing_40 : decode cX6_slowing 40 = .ok (.iload 5, 2) := by decide +kernel
theorem dX6_slowing_42 : decode cX6_slowing 42 = .ok (.iconst (-1), 1) := by decide +kernel
theorem dX6_slowing_43 : decode cX6_slowing 43 = .ok (.if_icmp .eq 7, 3) := by decide +kernel
theorem dX6_slowing_46 : decode cX6_slowing 46 = .ok (.iload_n 3, 1) := by decide +kernel
theorem dX6_slowing_47 : decode cX6_slowing 47 = .ok (.ifCond .ne 6, 3) := by decide +kernel
theorem dX6_slowing_50 : decode cX6_slowing 50 = .ok (.iload 5, 2) := by decide +kernel
theorem dX6_slowing_52 : decode cX6_slowing 52 = .ok (.ireturn, 1) := by decide +kernel
theorem dX6_slowing_53 : decode cX6_slowing 53 = .ok (.iload_n 3, 1) := by decide +kernel
theorem dX6_slowing_54 : decode cX6_slowing 54 = .ok (.iconst 1, 1) := by decide +kernel
theorem dX6_slowing_55 : decode cX6_slowing 55 = .ok (.if_icmp .ne 11, 3) := by decide +kernel
theorem dX6_slowing_58 : decode cX6_slowing 58 = .ok (.aload 4, 2) := by decide +kernel
theorem dX6_slowing_60 : decode cX6_slowing 60 = .ok (.iload_n 1, 1) := by decide +kernel
theorem dX6_slowing_61 : decode cX6_slowing 61 = .ok (.iload_n 2, 1) := by decide +kernel
theorem dX6_slowing_62 : decode cX6_slowing 62 = .ok (.invokevirtual 116, 3) := by decide +kernel
theorem dX6_slowing_65 : decode cX6_slowing 65 = .ok (.ireturn, 1) := by decide +kernel
theorem dX6_slowing_66 : decode cX6_slowing 66 = .ok (.aload 4, 2) := by decide +kernel
theorem dX6_slowing_68 : decode cX6_slowing 68 = .ok (.aload_n 0, 1) := by decide +kernel
theorem dX6_slowing_69 : decode cX6_slowing 69 = .ok (.getfield 12, 3) := by decide +kernel
theorem dX6_slowing_72 : decode cX6_slowing 72 = .ok (.iload_n 1, 1) := by decide +kernel
theorem dX6_slowing_73 : decode cX6_slowing 73 = .ok (.iload_n 2, 1) := by decide +kernel
theorem dX6_slowing_74 : decode cX6_slowing 74 = .ok (.invokevirtual 119, 3) := by decide +kernel
theorem dX6_slowing_77 : decode cX6_slowing 77 = .ok (.istore 6, 2) := by decide +kernel
theorem dX6_slowing_79 : decode cX6_slowing 79 = .ok (.iload 6, 2) := by decide +kernel
theorem dX6_slowing_81 : decode cX6_slowing 81 = .ok (.iconst 5, 1) := by decide +kernel
theorem dX6_slowing_82 : decode cX6_slowing 82 = .ok (.if_icmp .ne 7, 3) := by decide +kernel
theorem dX6_slowing_85 : decode cX6_slowing 85 = .ok (.iconst (-1), 1) := by decide +kernel
theorem dX6_slowing_86 : decode cX6_slowing 86 = .ok (.goto 5, 3) := by decide +kernel
theorem dX6_slowing_89 : decode cX6_slowing 89 = .ok (.iload 6, 2) := by decide +kernel
theorem dX6_slowing_91 : decode cX6_slowing 91 = .ok (.ireturn, 1) := by decide +kernel
theorem dX6_move_0 : decode cX6_move 0 = .ok (.aload_n 0, 1) := by decide +kernel
theorem dX6_move_1 : decode cX6_move 1 = .ok (.getfield 38, 3) := by decide +kernel
theorem dX6_move_4 : decode cX6_move 4 = .ok (.invokevirtual 62, 3) := by decide +kernel
theorem dX6_move_7 : decode cX6_move 7 = .ok (.ifCond .ne 24, 3) := by decide +kernel
theorem dX6_move_10 : decode cX6_move 10 = .ok (.iload_n 1, 1) := by decide +kernel
theorem dX6_move_11 : decode cX6_move 11 = .ok (.invokestatic 122, 3) := by decide +kernel
theorem dX6_move_14 : decode cX6_move 14 = .ok (.ifCond .eq 17, 3) := by decide +kernel
theorem dX6_move_17 : decode cX6_move 17 = .ok (.iload_n 2, 1) := by decide +kernel
theorem dX6_move_18 : decode cX6_move 18 = .ok (.invokestatic 122, 3) := by decide +kernel
theorem dX6_move_21 : decode cX6_move 21 = .ok (.ifCond .eq 10, 3) := by decide +kernel
theorem dX6_move_24 : decode cX6_move 24 = .ok (.iload_n 3, 1) := by decide +kernel
theorem dX6_move_25 : decode cX6_move 25 = .ok (.invokestatic 122, 3) := by decide +kernel
theorem dX6_move_28 : decode cX6_move 28 = .ok (.ifCond .ne 5, 3) := by decide +kernel
theorem dX6_move_31 : decode cX6_move 31 = .ok (.iconst (-1), 1) := by decide +kernel
theorem dX6_move_32 : decode cX6_move 32 = .ok (.ireturn, 1) := by decide +kernel
theorem dX6_move_33 : decode cX6_move 33 = .ok (.iload_n 1, 1) := by decide +kernel
theorem dX6_move_34 : decode cX6_move 34 = .ok (.invokestatic 125, 3) := by decide +kernel
theorem dX6_move_37 : decode cX6_move 37 = .ok (.iload_n 2, 1) := by decide +kernel
theorem dX6_move_38 : decode cX6_move 38 = .ok (.invokestatic 125, 3) := by decide +kernel
theorem dX6_move_41 : decode cX6_move 41 = .ok (.iload_n 3, 1) := by decide +kernel
theorem dX6_move_42 : decode cX6_move 42 = .ok (.invokestatic 125, 3) := by decide +kernel
theorem dX6_move_45 : decode cX6_move 45 = .ok (.invokestatic 131, 3) := by decide +kernel
theorem dX6_move_48 : decode cX6_move 48 = .ok (.invokestatic 131, 3) := by decide +kernel
theorem dX6_move_51 : decode cX6_move 51 = .ok (.istore 4, 2) := by decide +kernel
theorem dX6_move_53 : decode cX6_move 53 = .ok (.aload_n 0, 1) := by decide +kernel
theorem dX6_move_54 : decode cX6_move 54 = .ok (.getfield 19, 3) := by decide +kernel
theorem dX6_move_57 : decode cX6_move 57 = .ok (.aload_n 0, 1) := by decide +kernel
theorem dX6_move_58 : decode cX6_move 58 = .ok (.getfield 12, 3) := by decide +kernel
theorem dX6_move_61 : decode cX6_move 61 = .ok (.iload 4, 2) := by decide +kernel
theorem dX6_move_63 : decode cX6_move 63 = .ok (.invokevirtual 96, 3) := by decide +kernel
theorem dX6_move_66 : decode cX6_move 66 = .ok (.istore 5, 2) := by decide +kernel
theorem dX6_move_68 : decode cX6_move 68 = .ok (.iload 5, 2) := by decide +kernel
theorem dX6_move_70 : decode cX6_move 70 = .ok (.iconst (-1), 1) := by decide +kernel
theorem dX6_move_71 : decode cX6_move 71 = .ok (.if_icmp .ne 5, 3) := by decide +kernel
theorem dX6_move_74 : decode cX6_move 74 = .ok (.iconst (-1), 1) := by decide +kernel
theorem dX6_move_75 : decode cX6_move 75 = .ok (.ireturn, 1) := by decide +kernel
theorem dX6_move_76 : decode cX6_move 76 = .ok (.aload_n 0, 1) := by decide +kernel
theorem dX6_move_77 : decode cX6_move 77 = .ok (.getfield 38, 3) := by decide +kernel
theorem dX6_move_80 : decode cX6_move 80 = .ok (.iload 4, 2) := by decide +kernel
theorem dX6_move_82 : decode cX6_move 82 = .ok (.iload 5, 2) := by decide +kernel
theorem dX6_move_84 : decode cX6_move 84 = .ok (.invokevirtual 134, 3) := by decide +kernel
theorem dX6_move_87 : decode cX6_move 87 = .ok (.aload_n 0, 1) := by decide +kernel
theorem dX6_move_88 : decode cX6_move 88 = .ok (.getfield 45, 3) := by decide +kernel
theorem dX6_move_91 : decode cX6_move 91 = .ok (.iload_n 1, 1) := by decide +kernel
theorem dX6_move_92 : decode cX6_move 92 = .ok (.invokevirtual 137, 3) := by decide +kernel
theorem dX6_move_95 : decode cX6_move 95 = .ok (.aload_n 0, 1) := by decide +kernel
theorem dX6_move_96 : decode cX6_move 96 = .ok (.getfield 49, 3) := by decide +kernel
theorem dX6_move_99 : decode cX6_move 99 = .ok (.iload_n 2, 1) := by decide +kernel
theorem dX6_move_100 : decode cX6_move 100 = .ok (.invokevirtual 137, 3) := by decide +kernel
theorem dX6_move_103 : decode cX6_move 103 = .ok (.aload_n 0, 1) := by decide +kernel
theorem dX6_move_104 : decode cX6_move 104 = .ok (.getfield 52, 3) := by decide +kernel
theorem dX6_move_107 : decode cX6_move 107 = .ok (.iload_n 3, 1) := by decide +kernel
theorem dX6_move_108 : decode cX6_move 108 = .ok (.invokevirtual 137, 3) := by decide +kernel
theorem dX6_move_111 : decode cX6_move 111 = .ok (.iload 5, 2) := by decide +kernel
theorem dX6_move_113 : decode cX6_move 113 = .ok (.ireturn, 1) := by decide +kernel
theorem dX6_tick_0 : decode cX6_tick 0 = .ok (.aload_n 0, 1) := by decide +kernel
theorem dX6_tick_1 : decode cX6_tick 1 = .ok (.getfield 38, 3) := by decide +kernel
theorem dX6_tick_4 : decode cX6_tick 4 = .ok (.invokevirtual 62, 3) := by decide +kernel
theorem dX6_tick_7 : decode cX6_tick 7 = .ok (.ifCond .eq 14, 3) := by decide +kernel
theorem dX6_tick_10 : decode cX6_tick 10 = .ok (.iload_n 1, 1) := by decide +kernel
theorem dX6_tick_11 : decode cX6_tick 11 = .ok (.iconst 0, 1) := by decide +kernel
theorem dX6_tick_12 : decode cX6_tick 12 = .ok (.sipush 1000, 3) := by decide +kernel
theorem dX6_tick_15 : decode cX6_tick 15 = .ok (.invokestatic 66, 3) := by decide +kernel
theorem dX6_tick_18 : decode cX6_tick 18 = .ok (.ifCond .ne 5, 3) := by decide +kernel
theorem dX6_tick_21 : decode cX6_tick 21 = .ok (.iconst (-1), 1) := by decide +kernel
theorem dX6_tick_22 : decode cX6_tick 22 = .ok (.ireturn, 1) := by decide +kernel
theorem dX6_tick_23 : decode cX6_tick 23 = .ok (.iconst 0, 1) := by decide +kernel
theorem dX6_tick_24 : decode cX6_tick 24 = .ok (.istore_n 2, 1) := by decide +kernel
theorem dX6_tick_25 : decode cX6_tick 25 = .ok (.iload_n 2, 1) := by decide +kernel
theorem dX6_tick_26 : decode cX6_tick 26 = .ok (.iload_n 1, 1) := by decide +kernel
theorem dX6_tick_27 : decode cX6_tick 27 = .ok (.if_icmp .ge 23, 3) := by decide +kernel
theorem dX6_tick_30 : decode cX6_tick 30 = .ok (.aload_n 0, 1) := by decide +kernel
theorem dX6_tick_31 : decode cX6_tick 31 = .ok (.getfield 38, 3) := by decide +kernel
theorem dX6_tick_34 : decode cX6_tick 34 = .ok (.invokevirtual 62, 3) := by decide +kernel
theorem dX6_tick_37 : decode cX6_tick 37 = .ok (.ifCond .eq 13, 3) := by decide +kernel
theorem dX6_tick_40 : decode cX6_tick 40 = .ok (.aload_n 0, 1) := by decide +kernel
theorem dX6_tick_41 : decode cX6_tick 41 = .ok (.invokevirtual 140, 3) := by decide +kernel
theorem dX6_tick_44 : decode cX6_tick 44 = .ok (.iinc 2 1, 3) := by decide +kernel
theorem dX6_tick_47 : decode cX6_tick 47 = .ok (.goto (-22), 3) := by decide +kernel
theorem dX6_tick_50 : decode cX6_tick 50 = .ok (.iload_n 2, 1) := by decide +kernel
theorem dX6_tick_51 : decode cX6_tick 51 = .ok (.ireturn, 1) := by decide +kernel
theorem dX6_stop_0 : decode cX6_stop 0 = .ok (.aload_n 0, 1) := by decide +kernel
theorem dX6_stop_1 : decode cX6_stop 1 = .ok (.getfield 38, 3) := by decide +kernel
theorem dX6_stop_4 : decode cX6_stop 4 = .ok (.invokevirtual 62, 3) := by decide +kernel
theorem dX6_stop_7 : decode cX6_stop 7 = .ok (.ifCond .eq 13, 3) := by decide +kernel
theorem dX6_stop_10 : decode cX6_stop 10 = .ok (.aload_n 0, 1) := by decide +kernel
theorem dX6_stop_11 : decode cX6_stop 11 = .ok (.getfield 38, 3) := by decide +kernel
theorem dX6_stop_14 : decode cX6_stop 14 = .ok (.getfield 143, 3) := by decide +kernel
theorem dX6_stop_17 : decode cX6_stop 17 = .ok (.ifCond .eq 5, 3) := by decide +kernel
theorem dX6_stop_20 : decode cX6_stop 20 = .ok (.iconst (-1), 1) := by decide +kernel
theorem dX6_stop_21 : decode cX6_stop 21 = .ok (.ireturn, 1) := by decide +kernel
theorem dX6_stop_22 : decode cX6_stop 22 = .ok (.aload_n 0, 1) := by decide +kernel
theorem dX6_stop_23 : decode cX6_stop 23 = .ok (.aload_n 0, 1) := by decide +kernel
theorem dX6_stop_24 : decode cX6_stop 24 = .ok (.getfield 38, 3) := by decide +kernel
theorem dX6_stop_27 : decode cX6_stop 27 = .ok (.getfield 146, 3) := by decide +kernel
theorem dX6_stop_30 : decode cX6_stop 30 = .ok (.aload_n 0, 1) := by decide +kernel
theorem dX6_stop_31 : decode cX6_stop 31 = .ok (.getfield 38, 3) := by decide +kernel
theorem dX6_stop_34 : decode cX6_stop 34 = .ok (.getfield 150, 3) := by decide +kernel
theorem dX6_stop_37 : decode cX6_stop 37 = .ok (.invokevirtual 108, 3) := by decide +kernel
theorem dX6_stop_40 : decode cX6_stop 40 = .ok (.astore_n 1, 1) := by decide +kernel
theorem dX6_stop_41 : decode cX6_stop 41 = .ok (.aload_n 1, 1) := by decide +kernel
theorem dX6_stop_42 : decode cX6_stop 42 = .ok (.aload_n 0, 1) := by decide +kernel
theorem dX6_stop_43 : decode cX6_stop 43 = .ok (.getfield 38, 3) := by decide +kernel
theorem dX6_stop_46 : decode cX6_stop 46 = .ok (.getfield 146, 3) := by decide +kernel
theorem dX6_stop_49 : decode cX6_stop 49 = .ok (.aload_n 0, 1) := by decide +kernel
theorem dX6_stop_50 : decode cX6_stop 50 = .ok (.getfield 38, 3) := by decide +kernel
theorem dX6_stop_53 : decode cX6_stop 53 = .ok (.getfield 150, 3) := by decide +kernel
theorem dX6_stop_56 : decode cX6_stop 56 = .ok (.invokevirtual 112, 3) := by decide +kernel
theorem dX6_stop_59 : decode cX6_stop 59 = .ok (.istore_n 2, 1) := by decide +kernel
theorem dX6_stop_60 : decode cX6_stop 60 = .ok (.iload_n 2, 1) := by decide +kernel
theorem dX6_stop_61 : decode cX6_stop 61 = .ok (.iconst (-1), 1) := by decide +kernel
theorem dX6_stop_62 : decode cX6_stop 62 = .ok (.if_icmp .ne 5, 3) := by decide +kernel
theorem dX6_stop_65 : decode cX6_stop 65 = .ok (.iconst (-1), 1) := by decide +kernel
theorem dX6_stop_66 : decode cX6_stop 66 = .ok (.ireturn, 1) := by decide +kernel
theorem dX6_stop_67 : decode cX6_stop 67 = .ok (.aload_n 0, 1) := by decide +kernel
theorem dX6_stop_68 : decode cX6_stop 68 = .ok (.getfield 38, 3) := by decide +kernel
theorem dX6_stop_71 : decode cX6_stop 71 = .ok (.iload_n 2, 1) := by decide +kernel
theorem dX6_stop_72 : decode cX6_stop 72 = .ok (.aload_n 1, 1) := by decide +kernel
theorem dX6_stop_73 : decode cX6_stop 73 = .ok (.aload_n 0, 1) := by decide +kernel
theorem dX6_stop_74 : decode cX6_stop 74 = .ok (.getfield 28, 3) := by decide +kernel
theorem dX6_stop_77 : decode cX6_stop 77 = .ok (.if_acmp .ne 7, 3) := by decide +kernel
theorem dX6_stop_80 : decode cX6_stop 80 = .ok (.iconst 1, 1) := by decide +kernel
theorem dX6_stop_81 : decode cX6_stop 81 = .ok (.goto 4, 3) := by decide +kernel
theorem dX6_stop_84 : decode cX6_stop 84 = .ok (.iconst 0, 1) := by decide +kernel
theorem dX6_stop_85 : decode cX6_stop 85 = .ok (.invokevirtual 153, 3) := by decide +kernel
theorem dX6_stop_88 : decode cX6_stop 88 = .ok (.iload_n 2, 1) := by decide +kernel
theorem dX6_stop_89 : decode cX6_stop 89 = .ok (.ireturn, 1) := by decide +kernel
theorem dX6_place_0 : decode cX6_place 0 = .ok (.aload_n 0, 1) := by decide +kernel
theorem dX6_place_1 : decode cX6_place 1 = .ok (.iload_n 1, 1) := by decide +kernel
theorem dX6_place_2 : decode cX6_place 2 = .ok (.invokevirtual 156, 3) := by decide +kernel
theorem dX6_place_5 : decode cX6_place 5 = .ok (.astore_n 3, 1) := by decide +kernel
theorem dX6_place_6 : decode cX6_place 6 = .ok (.aload_n 3, 1) := by decide +kernel
theorem dX6_place_7 : decode cX6_place 7 = .ok (.ifnonnull 11, 3) := by decide +kernel
theorem dX6_place_10 : decode cX6_place 10 = .ok (.new 160, 3) := by decide +kernel
theorem dX6_place_13 : decode cX6_place 13 = .ok (.dup, 1) := by decide +kernel
theorem dX6_place_14 : decode cX6_place 14 = .ok (.invokespecial 162, 3) := by decide +kernel
theorem dX6_place_17 : decode cX6_place 17 = .ok (.athrow, 1) := by decide +kernel
theorem dX6_place_18 : decode cX6_place 18 = .ok (.iload_n 2, 1) := by decide +kernel
theorem dX6_place_19 : decode cX6_place 19 = .ok (.ifCond .eq 10, 3) := by decide +kernel
theorem dX6_place_22 : decode cX6_place 22 = .ok (.aload_n 3, 1) := by decide +kernel
theorem dX6_place_23 : decode cX6_place 23 = .ok (.getfield 163, 3) := by decide +kernel
theorem dX6_place_26 : decode cX6_place 26 = .ok (.goto 7, 3) := by decide +kernel
theorem dX6_place_29 : decode cX6_place 29 = .ok (.aload_n 3, 1) := by decide +kernel
theorem dX6_place_30 : decode cX6_place 30 = .ok (.getfield 166, 3) := by decide +kernel
theorem dX6_place_33 : decode cX6_place 33 = .ok (.ireturn, 1) := by decide +kernel
theorem dX6_state_0 : decode cX6_state 0 = .ok (.iload_n 1, 1) := by decide +kernel
theorem dX6_state_1 : decode cX6_state 1 = .ok (.tableswitch 139 0 8 #[51, 67, 75, 83, 91, 99, 107, 115, 123], 51) := by decide +kernel
theorem dX6_state_52 : decode cX6_state 52 = .ok (.aload_n 0, 1) := by decide +kernel
theorem dX6_state_53 : decode cX6_state 53 = .ok (.getfield 38, 3) := by decide +kernel
theorem dX6_state_56 : decode cX6_state 56 = .ok (.invokevirtual 62, 3) := by decide +kernel
theorem dX6_state_59 : decode cX6_state 59 = .ok (.ifCond .eq 7, 3) := by decide +kernel
theorem dX6_state_62 : decode cX6_state 62 = .ok (.iconst 1, 1) := by decide +kernel
theorem dX6_state_63 : decode cX6_state 63 = .ok (.goto 4, 3) := by decide +kernel
theorem dX6_state_66 : decode cX6_state 66 = .ok (.iconst 0, 1) := by decide +kernel
theorem dX6_state_67 : decode cX6_state 67 = .ok (.ireturn, 1) := by decide +kernel
theorem dX6_state_68 : decode cX6_state 68 = .ok (.aload_n 0, 1) := by decide +kernel
theorem dX6_state_69 : decode cX6_state 69 = .ok (.getfield 38, 3) := by decide +kernel
theorem dX6_state_72 : decode cX6_state 72 = .ok (.getfield 146, 3) := by decide +kernel
theorem dX6_state_75 : decode cX6_state 75 = .ok (.ireturn, 1) := by decide +kernel
theorem dX6_state_76 : decode cX6_state 76 = .ok (.aload_n 0, 1) := by decide +kernel
theorem dX6_state_77 : decode cX6_state 77 = .ok (.getfield 38, 3) := by decide +kernel
theorem dX6_state_80 : decode cX6_state 80 = .ok (.getfield 150, 3) := by decide +kernel
theorem dX6_state_83 : decode cX6_state 83 = .ok (.ireturn, 1) := by decide +kernel
theorem dX6_state_84 : decode cX6_state 84 = .ok (.aload_n 0, 1) := by decide +kernel
theorem dX6_state_85 : decode cX6_state 85 = .ok (.getfield 38, 3) := by decide +kernel
theorem dX6_state_88 : decode cX6_state 88 = .ok (.getfield 169, 3) := by decide +kernel
theorem dX6_state_91 : decode cX6_state 91 = .ok (.ireturn, 1) := by decide +kernel
theorem dX6_state_92 : decode cX6_state 92 = .ok (.aload_n 0, 1) := by decide +kernel
theorem dX6_state_93 : decode cX6_state 93 = .ok (.getfield 38, 3) := by decide +kernel
theorem dX6_state_96 : decode cX6_state 96 = .ok (.getfield 172, 3) := by decide +kernel
theorem dX6_state_99 : decode cX6_state 99 = .ok (.ireturn, 1) := by decide +kernel
theorem dX6_state_100 : decode cX6_state 100 = .ok (.aload_n 0, 1) := by decide +kernel
theorem dX6_state_101 : decode cX6_state 101 = .ok (.getfield 38, 3) := by decide +kernel
theorem dX6_state_104 : decode cX6_state 104 = .ok (.getfield 175, 3) := by decide +kernel
theorem dX6_state_107 : decode cX6_state 107 = .ok (.ireturn, 1) := by decide +kernel
theorem dX6_state_108 : decode cX6_state 108 = .ok (.aload_n 0, 1) := by decide +kernel
theorem dX6_state_109 : decode cX6_state 109 = .ok (.getfield 38, 3) := by decide +kernel
theorem dX6_state_112 : decode cX6_state 112 = .ok (.getfield 178, 3) := by decide +kernel
theorem dX6_state_115 : decode cX6_state 115 = .ok (.ireturn, 1) := by decide +kernel
theorem dX6_state_116 : decode cX6_state 116 = .ok (.aload_n 0, 1) := by decide +kernel
theorem dX6_state_117 : decode cX6_state 117 = .ok (.getfield 38, 3) := by decide +kernel
theorem dX6_state_120 : decode cX6_state 120 = .ok (.getfield 181, 3) := by decide +kernel
theorem dX6_state_123 : decode cX6_state 123 = .ok (.ireturn, 1) := by decide +kernel
theorem dX6_state_124 : decode cX6_state 124 = .ok (.aload_n 0, 1) := by decide +kernel
theorem dX6_state_125 : decode cX6_state 125 = .ok (.getfield 38, 3) := by decide +kernel
theorem dX6_state_128 : decode cX6_state 128 = .ok (.getfield 143, 3) := by decide +kernel
theorem dX6_state_131 : decode cX6_state 131 = .ok (.ifCond .eq 7, 3) := by decide +kernel
theorem dX6_state_134 : decode cX6_state 134 = .ok (.iconst 1, 1) := by decide +kernel
theorem dX6_state_135 : decode cX6_state 135 = .ok (.goto 4, 3) := by decide +kernel
theorem dX6_state_138 : decode cX6_state 138 = .ok (.iconst 0, 1) := by decide +kernel
theorem dX6_state_139 : decode cX6_state 139 = .ok (.ireturn, 1) := by decide +kernel
theorem dX6_state_140 : decode cX6_state 140 = .ok (.iconst (-1), 1) := by decide +kernel
theorem dX6_state_141 : decode cX6_state 141 = .ok (.ireturn, 1) := by decide +kernel
theorem dX6_at_0 : decode cX6_at 0 = .ok (.aload_n 0, 1) := by decide +kernel
theorem dX6_at_1 : decode cX6_at 1 = .ok (.iload_n 1, 1) := by decide +kernel
theorem dX6_at_2 : decode cX6_at 2 = .ok (.invokevirtual 156, 3) := by decide +kernel
theorem dX6_at_5 : decode cX6_at 5 = .ok (.astore_n 3, 1) := by decide +kernel
theorem dX6_at_6 : decode cX6_at 6 = .ok (.aload_n 3, 1) := by decide +kernel
theorem dX6_at_7 : decode cX6_at 7 = .ok (.ifnull 16, 3) := by decide +kernel
theorem dX6_at_10 : decode cX6_at 10 = .ok (.iload_n 2, 1) := by decide +kernel
theorem dX6_at_11 : decode cX6_at 11 = .ok (.sipush (-2000), 3) := by decide +kernel
theorem dX6_at_14 : decode cX6_at 14 = .ok (.sipush 2000, 3) := by decide +kernel
theorem dX6_at_17 : decode cX6_at 17 = .ok (.invokestatic 66, 3) := by decide +kernel
theorem dX6_at_20 : decode cX6_at 20 = .ok (.ifCond .ne 5, 3) := by decide +kernel
theorem dX6_at_23 : decode cX6_at 23 = .ok (.iconst 0, 1) := by decide +kernel
theorem dX6_at_24 : decode cX6_at 24 = .ok (.ireturn, 1) := by decide +kernel
theorem dX6_at_25 : decode cX6_at 25 = .ok (.aload_n 3, 1) := by decide +kernel
theorem dX6_at_26 : decode cX6_at 26 = .ok (.iload_n 2, 1) := by decide +kernel
theorem dX6_at_27 : decode cX6_at 27 = .ok (.invokevirtual 184, 3) := by decide +kernel
theorem dX6_at_30 : decode cX6_at 30 = .ok (.iconst 1, 1) := by decide +kernel
theorem dX6_at_31 : decode cX6_at 31 = .ok (.ireturn, 1) := by decide +kernel
theorem dX6_on_0 : decode cX6_on 0 = .ok (.aload_n 0, 1) := by decide +kernel
theorem dX6_on_1 : decode cX6_on 1 = .ok (.iload_n 1, 1) := by decide +kernel
theorem dX6_on_2 : decode cX6_on 2 = .ok (.invokevirtual 156, 3) := by decide +kernel
theorem dX6_on_5 : decode cX6_on 5 = .ok (.astore_n 2, 1) := by decide +kernel
theorem dX6_on_6 : decode cX6_on 6 = .ok (.aload_n 2, 1) := by decide +kernel
theorem dX6_on_7 : decode cX6_on 7 = .ok (.ifnull 10, 3) := by decide +kernel
theorem dX6_on_10 : decode cX6_on 10 = .ok (.aload_n 2, 1) := by decide +kernel
theorem dX6_on_11 : decode cX6_on 11 = .ok (.getfield 187, 3) := by decide +kernel
theorem dX6_on_14 : decode cX6_on 14 = .ok (.ifCond .ne 5, 3) := by decide +kernel
theorem dX6_on_17 : decode cX6_on 17 = .ok (.iconst (-1), 1) := by decide +kernel
theorem dX6_on_18 : decode cX6_on 18 = .ok (.ireturn, 1) := by decide +kernel
theorem dX6_on_19 : decode cX6_on 19 = .ok (.aload_n 2, 1) := by decide +kernel
theorem dX6_on_20 : decode cX6_on 20 = .ok (.invokevirtual 190, 3) := by decide +kernel
theorem dX6_on_23 : decode cX6_on 23 = .ok (.ifCond .eq 7, 3) := by decide +kernel
theorem dX6_on_26 : decode cX6_on 26 = .ok (.iconst 1, 1) := by decide +kernel
theorem dX6_on_27 : decode cX6_on 27 = .ok (.goto 4, 3) := by decide +kernel
theorem dX6_on_30 : decode cX6_on 30 = .ok (.iconst 0, 1) := by decide +kernel
theorem dX6_on_31 : decode cX6_on 31 = .ok (.ireturn, 1) := by decide +kernel
theorem dX6_home_0 : decode cX6_home 0 = .ok (.aload_n 0, 1) := by decide +kernel
theorem dX6_home_1 : decode cX6_home 1 = .ok (.iload_n 1, 1) := by decide +kernel
theorem dX6_home_2 : decode cX6_home 2 = .ok (.invokevirtual 156, 3) := by decide +kernel
theorem dX6_home_5 : decode cX6_home 5 = .ok (.astore_n 2, 1) := by decide +kernel
theorem dX6_home_6 : decode cX6_home 6 = .ok (.aload_n 2, 1) := by decide +kernel
theorem dX6_home_7 : decode cX6_home 7 = .ok (.ifnull 20, 3) := by decide +kernel
theorem dX6_home_10 : decode cX6_home 10 = .ok (.aload_n 2, 1) := by decide +kernel
theorem dX6_home_11 : decode cX6_home 11 = .ok (.getfield 187, 3) := by decide +kernel
theorem dX6_home_14 : decode cX6_home 14 = .ok (.ifCond .eq 13, 3) := by decide +kernel
theorem dX6_home_17 : decode cX6_home 17 = .ok (.aload_n 0, 1) := by decide +kernel
theorem dX6_home_18 : decode cX6_home 18 = .ok (.getfield 38, 3) := by decide +kernel
theorem dX6_home_21 : decode cX6_home 21 = .ok (.invokevirtual 62, 3) := by decide +kernel
theorem dX6_home_24 : decode cX6_home 24 = .ok (.ifCond .eq 5, 3) := by decide +kernel
theorem dX6_home_27 : decode cX6_home 27 = .ok (.iconst (-1), 1) := by decide +kernel
theorem dX6_home_28 : decode cX6_home 28 = .ok (.ireturn, 1) := by decide +kernel
theorem dX6_home_29 : decode cX6_home 29 = .ok (.aload_n 2, 1) := by decide +kernel
theorem dX6_home_30 : decode cX6_home 30 = .ok (.invokevirtual 193, 3) := by decide +kernel
theorem dX6_home_33 : decode cX6_home 33 = .ok (.ireturn, 1) := by decide +kernel
theorem dX6_table_0 : decode cX6_table 0 = .ok (.iload_n 1, 1) := by decide +kernel
theorem dX6_table_1 : decode cX6_table 1 = .ok (.iconst 1, 1) := by decide +kernel
theorem dX6_table_2 : decode cX6_table 2 = .ok (.if_icmp .eq 19, 3) := by decide +kernel
theorem dX6_table_5 : decode cX6_table 5 = .ok (.iload_n 1, 1) := by decide +kernel
theorem dX6_table_6 : decode cX6_table 6 = .ok (.iconst 2, 1) := by decide +kernel
theorem dX6_table_7 : decode cX6_table 7 = .ok (.if_icmp .eq 14, 3) := by decide +kernel
theorem dX6_table_10 : decode cX6_table 10 = .ok (.iload_n 1, 1) := by decide +kernel
theorem dX6_table_11 : decode cX6_table 11 = .ok (.iconst 4, 1) := by decide +kernel
theorem dX6_table_12 : decode cX6_table 12 = .ok (.if_icmp .eq 9, 3) := by decide +kernel
theorem dX6_table_15 : decode cX6_table 15 = .ok (.iload_n 1, 1) := by decide +kernel
theorem dX6_table_16 : decode cX6_table 16 = .ok (.bipush 8, 2) := by decide +kernel
theorem dX6_table_18 : decode cX6_table 18 = .ok (.if_icmp .ne 7, 3) := by decide +kernel
theorem dX6_table_21 : decode cX6_table 21 = .ok (.iconst 1, 1) := by decide +kernel
theorem dX6_table_22 : decode cX6_table 22 = .ok (.goto 4, 3) := by decide +kernel
theorem dX6_table_25 : decode cX6_table 25 = .ok (.iconst 0, 1) := by decide +kernel
theorem dX6_table_26 : decode cX6_table 26 = .ok (.istore_n 3, 1) := by decide +kernel
theorem dX6_table_27 : decode cX6_table 27 = .ok (.iload_n 3, 1) := by decide +kernel
theorem dX6_table_28 : decode cX6_table 28 = .ok (.ifCond .eq 13, 3) := by decide +kernel
theorem dX6_table_31 : decode cX6_table 31 = .ok (.iload_n 2, 1) := by decide +kernel
theorem dX6_table_32 : decode cX6_table 32 = .ok (.iconst 1, 1) := by decide +kernel
theorem dX6_table_33 : decode cX6_table 33 = .ok (.bipush 100, 2) := by decide +kernel
theorem dX6_table_35 : decode cX6_table 35 = .ok (.invokestatic 66, 3) := by decide +kernel
theorem dX6_table_38 : decode cX6_table 38 = .ok (.ifCond .ne 5, 3) := by decide +kernel
theorem dX6_table_41 : decode cX6_table 41 = .ok (.iconst 0, 1) := by decide +kernel
theorem dX6_table_42 : decode cX6_table 42 = .ok (.ireturn, 1) := by decide +kernel
theorem dX6_table_43 : decode cX6_table 43 = .ok (.aload_n 0, 1) := by decide +kernel
theorem dX6_table_44 : decode cX6_table 44 = .ok (.getfield 58, 3) := by decide +kernel
theorem dX6_table_47 : decode cX6_table 47 = .ok (.iload_n 1, 1) := by decide +kernel
theorem dX6_table_48 : decode cX6_table 48 = .ok (.iload_n 2, 1) := by decide +kernel
theorem dX6_table_49 : decode cX6_table 49 = .ok (.invokevirtual 197, 3) := by decide +kernel
theorem dX6_table_52 : decode cX6_table 52 = .ok (.iconst 1, 1) := by decide +kernel
theorem dX6_table_53 : decode cX6_table 53 = .ok (.ireturn, 1) := by decide +kernel
theorem dX6_set_0 : decode cX6_set 0 = .ok (.iload_n 1, 1) := by decide +kernel
theorem dX6_set_1 : decode cX6_set 1 = .ok (.iconst 0, 1) := by decide +kernel
theorem dX6_set_2 : decode cX6_set 2 = .ok (.aload_n 0, 1) := by decide +kernel
theorem dX6_set_3 : decode cX6_set 3 = .ok (.getfield 58, 3) := by decide +kernel
theorem dX6_set_6 : decode cX6_set 6 = .ok (.getfield 200, 3) := by decide +kernel
theorem dX6_set_9 : decode cX6_set 9 = .ok (.invokestatic 66, 3) := by decide +kernel
theorem dX6_set_12 : decode cX6_set 12 = .ok (.ifCond .eq 18, 3) := by decide +kernel
theorem dX6_set_15 : decode cX6_set 15 = .ok (.iload_n 2, 1) := by decide +kernel
theorem dX6_set_16 : decode cX6_set 16 = .ok (.iconst 0, 1) := by decide +kernel
theorem dX6_set_17 : decode cX6_set 17 = .ok (.aload_n 0, 1) := by decide +kernel
theorem dX6_set_18 : decode cX6_set 18 = .ok (.getfield 58, 3) := by decide +kernel
theorem dX6_set_21 : decode cX6_set 21 = .ok (.getfield 203, 3) := by decide +kernel
theorem dX6_set_24 : decode cX6_set 24 = .ok (.invokestatic 66, 3) := by decide +kernel
theorem dX6_set_27 : decode cX6_set 27 = .ok (.ifCond .ne 5, 3) := by decide +kernel
theorem dX6_set_30 : decode cX6_set 30 = .ok (.iconst 0, 1) := by decide +kernel
theorem dX6_set_31 : decode cX6_set 31 = .ok (.ireturn, 1) := by decide +kernel
theorem dX6_set_32 : decode cX6_set 32 = .ok (.aload_n 0, 1) := by decide +kernel
theorem dX6_set_33 : decode cX6_set 33 = .ok (.getfield 58, 3) := by decide +kernel
theorem dX6_set_36 : decode cX6_set 36 = .ok (.iload_n 1, 1) := by decide +kernel
theorem dX6_set_37 : decode cX6_set 37 = .ok (.iload_n 2, 1) := by decide +kernel
theorem dX6_set_38 : decode cX6_set 38 = .ok (.invokevirtual 206, 3) := by decide +kernel
theorem dX6_set_41 : decode cX6_set 41 = .ok (.iconst 1, 1) := by decide +kernel
theorem dX6_set_42 : decode cX6_set 42 = .ok (.ireturn, 1) := by decide +kernel
theorem dX6_current_0 : decode cX6_current 0 = .ok (.iload_n 1, 1) := by decide +kernel
theorem dX6_current_1 : decode cX6_current 1 = .ok (.iconst 0, 1) := by decide +kernel
theorem dX6_current_2 : decode cX6_current 2 = .ok (.sipush 1000, 3) := by decide +kernel
theorem dX6_current_5 : decode cX6_current 5 = .ok (.invokestatic 66, 3) := by decide +kernel
theorem dX6_current_8 : decode cX6_current 8 = .ok (.ifCond .eq 12, 3) := by decide +kernel
theorem dX6_current_11 : decode cX6_current 11 = .ok (.iload_n 2, 1) := by decide +kernel
theorem dX6_current_12 : decode cX6_current 12 = .ok (.iconst 0, 1) := by decide +kernel
theorem dX6_current_13 : decode cX6_current 13 = .ok (.iconst 1, 1) := by decide +kernel
theorem dX6_current_14 : decode cX6_current 14 = .ok (.invokestatic 66, 3) := by decide +kernel
theorem dX6_current_17 : decode cX6_current 17 = .ok (.ifCond .ne 11, 3) := by decide +kernel
theorem dX6_current_20 : decode cX6_current 20 = .ok (.new 160, 3) := by decide +kernel
theorem dX6_current_23 : decode cX6_current 23 = .ok (.dup, 1) := by decide +kernel
theorem dX6_current_24 : decode cX6_current 24 = .ok (.invokespecial 162, 3) := by decide +kernel
theorem dX6_current_27 : decode cX6_current 27 = .ok (.athrow, 1) := by decide +kernel
theorem dX6_current_28 : decode cX6_current 28 = .ok (.iload_n 2, 1) := by decide +kernel
theorem dX6_current_29 : decode cX6_current 29 = .ok (.ifCond .ne 14, 3) := by decide +kernel
theorem dX6_current_32 : decode cX6_current 32 = .ok (.aload_n 0, 1) := by decide +kernel
theorem dX6_current_33 : decode cX6_current 33 = .ok (.getfield 58, 3) := by decide +kernel
theorem dX6_current_36 : decode cX6_current 36 = .ok (.iload_n 1, 1) := by decide +kernel
theorem dX6_current_37 : decode cX6_current 37 = .ok (.invokevirtual 209, 3) := by decide +kernel
theorem dX6_current_40 : decode cX6_current 40 = .ok (.goto 11, 3) := by decide +kernel
theorem dX6_current_43 : decode cX6_current 43 = .ok (.aload_n 0, 1) := by decide +kernel
theorem dX6_current_44 : decode cX6_current 44 = .ok (.getfield 58, 3) := by decide +kernel
theorem dX6_current_47 : decode cX6_current 47 = .ok (.iload_n 1, 1) := by decide +kernel
theorem dX6_current_48 : decode cX6_current 48 = .ok (.invokevirtual 212, 3) := by decide +kernel
theorem dX6_current_51 : decode cX6_current 51 = .ok (.ireturn, 1) := by decide +kernel
theorem dX6_miss_0 : decode cX6_miss 0 = .ok (.iload_n 1, 1) := by decide +kernel
theorem dX6_miss_1 : decode cX6_miss 1 = .ok (.iconst 0, 1) := by decide +kernel
theorem dX6_miss_2 : decode cX6_miss 2 = .ok (.aload_n 0, 1) := by decide +kernel
theorem dX6_miss_3 : decode cX6_miss 3 = .ok (.getfield 58, 3) := by decide +kernel
theorem dX6_miss_6 : decode cX6_miss 6 = .ok (.getfield 200, 3) := by decide +kernel
theorem dX6_miss_9 : decode cX6_miss 9 = .ok (.invokestatic 66, 3) := by decide +kernel
theorem dX6_miss_12 : decode cX6_miss 12 = .ok (.ifCond .eq 14, 3) := by decide +kernel
theorem dX6_miss_15 : decode cX6_miss 15 = .ok (.aload_n 0, 1) := by decide +kernel
theorem dX6_miss_16 : decode cX6_miss 16 = .ok (.getfield 58, 3) := by decide +kernel
theorem dX6_miss_19 : decode cX6_miss 19 = .ok (.iload_n 1, 1) := by decide +kernel
theorem dX6_miss_20 : decode cX6_miss 20 = .ok (.invokevirtual 215, 3) := by decide +kernel
theorem dX6_miss_23 : decode cX6_miss 23 = .ok (.goto 4, 3) := by decide +kernel
theorem dX6_miss_26 : decode cX6_miss 26 = .ok (.iconst (-1), 1) := by decide +kernel
theorem dX6_miss_27 : decode cX6_miss 27 = .ok (.ireturn, 1) := by decide +kernel
theorem dX6_evenness_0 : decode cX6_evenness 0 = .ok (.aload_n 0, 1) := by decide +kernel
theorem dX6_evenness_1 : decode cX6_evenness 1 = .ok (.getfield 58, 3) := by decide +kernel
theorem dX6_evenness_4 : decode cX6_evenness 4 = .ok (.invokevirtual 218, 3) := by decide +kernel
theorem dX6_evenness_7 : decode cX6_evenness 7 = .ok (.ireturn, 1) := by decide +kernel
theorem dX6_smooth_0 : decode cX6_smooth 0 = .ok (.aload_n 0, 1) := by decide +kernel
theorem dX6_smooth_1 : decode cX6_smooth 1 = .ok (.getfield 58, 3) := by decide +kernel
theorem dX6_smooth_4 : decode cX6_smooth 4 = .ok (.invokevirtual 221, 3) := by decide +kernel
theorem dX6_smooth_7 : decode cX6_smooth 7 = .ok (.aload_n 0, 1) := by decide +kernel
theorem dX6_smooth_8 : decode cX6_smooth 8 = .ok (.getfield 58, 3) := by decide +kernel
theorem dX6_smooth_11 : decode cX6_smooth 11 = .ok (.invokevirtual 218, 3) := by decide +kernel
theorem dX6_smooth_14 : decode cX6_smooth 14 = .ok (.ireturn, 1) := by decide +kernel
theorem dX6_isWithin_0 : decode cX6_isWithin 0 = .ok (.iload_n 0, 1) := by decide +kernel
theorem dX6_isWithin_1 : decode cX6_isWithin 1 = .ok (.iload_n 1, 1) := by decide +kernel
theorem dX6_isWithin_2 : decode cX6_isWithin 2 = .ok (.if_icmp .lt 12, 3) := by decide +kernel
theorem dX6_isWithin_5 : decode cX6_isWithin 5 = .ok (.iload_n 0, 1) := by decide +kernel
theorem dX6_isWithin_6 : decode cX6_isWithin 6 = .ok (.iload_n 2, 1) := by decide +kernel
theorem dX6_isWithin_7 : decode cX6_isWithin 7 = .ok (.if_icmp .gt 7, 3) := by decide +kernel
theorem dX6_isWithin_10 : decode cX6_isWithin 10 = .ok (.iconst 1, 1) := by decide +kernel
theorem dX6_isWithin_11 : decode cX6_isWithin 11 = .ok (.goto 4, 3) := by decide +kernel
theorem dX6_isWithin_14 : decode cX6_isWithin 14 = .ok (.iconst 0, 1) := by decide +kernel
theorem dX6_isWithin_15 : decode cX6_isWithin 15 = .ok (.ireturn, 1) := by decide +kernel
theorem dX6_isWay_0 : decode cX6_isWay 0 = .ok (.iload_n 0, 1) := by decide +kernel
theorem dX6_isWay_1 : decode cX6_isWay 1 = .ok (.sipush (-200), 3) := by decide +kernel
theorem dX6_isWay_4 : decode cX6_isWay 4 = .ok (.sipush 200, 3) := by decide +kernel
theorem dX6_isWay_7 : decode cX6_isWay 7 = .ok (.invokestatic 66, 3) := by decide +kernel
theorem dX6_isWay_10 : decode cX6_isWay 10 = .ok (.ireturn, 1) := by decide +kernel
theorem dX6_isIndexOf_0 : decode cX6_isIndexOf 0 = .ok (.iload_n 1, 1) := by decide +kernel
theorem dX6_isIndexOf_1 : decode cX6_isIndexOf 1 = .ok (.ifCond .lt 13, 3) := by decide +kernel
theorem dX6_isIndexOf_4 : decode cX6_isIndexOf 4 = .ok (.iload_n 1, 1) := by decide +kernel
theorem dX6_isIndexOf_5 : decode cX6_isIndexOf 5 = .ok (.aload_n 0, 1) := by decide +kernel
theorem dX6_isIndexOf_6 : decode cX6_isIndexOf 6 = .ok (.arraylength, 1) := by decide +kernel
theorem dX6_isIndexOf_7 : decode cX6_isIndexOf 7 = .ok (.if_icmp .ge 7, 3) := by decide +kernel
theorem dX6_isIndexOf_10 : decode cX6_isIndexOf 10 = .ok (.iconst 1, 1) := by decide +kernel
theorem dX6_isIndexOf_11 : decode cX6_isIndexOf 11 = .ok (.goto 4, 3) := by decide +kernel
theorem dX6_isIndexOf_14 : decode cX6_isIndexOf 14 = .ok (.iconst 0, 1) := by decide +kernel
theorem dX6_isIndexOf_15 : decode cX6_isIndexOf 15 = .ok (.ireturn, 1) := by decide +kernel
theorem dX6_stateNumber_0 : decode cX6_stateNumber 0 = .ok (.iload_n 0, 1) := by decide +kernel
theorem dX6_stateNumber_1 : decode cX6_stateNumber 1 = .ok (.bipush 9, 2) := by decide +kernel
theorem dX6_stateNumber_3 : decode cX6_stateNumber 3 = .ok (.imul, 1) := by decide +kernel
theorem dX6_stateNumber_4 : decode cX6_stateNumber 4 = .ok (.iload_n 1, 1) := by decide +kernel
theorem dX6_stateNumber_5 : decode cX6_stateNumber 5 = .ok (.iadd, 1) := by decide +kernel
theorem dX6_stateNumber_6 : decode cX6_stateNumber 6 = .ok (.iconst 4, 1) := by decide +kernel
theorem dX6_stateNumber_7 : decode cX6_stateNumber 7 = .ok (.iadd, 1) := by decide +kernel
theorem dX6_stateNumber_8 : decode cX6_stateNumber 8 = .ok (.ireturn, 1) := by decide +kernel
theorem dX6_axisOf_0 : decode cX6_axisOf 0 = .ok (.iload_n 1, 1) := by decide +kernel
theorem dX6_axisOf_1 : decode cX6_axisOf 1 = .ok (.tableswitch 42 0 2 #[27, 32, 37], 27) := by decide +kernel
theorem dX6_axisOf_28 : decode cX6_axisOf 28 = .ok (.aload_n 0, 1) := by decide +kernel
theorem dX6_axisOf_29 : decode cX6_axisOf 29 = .ok (.getfield 45, 3) := by decide +kernel
theorem dX6_axisOf_32 : decode cX6_axisOf 32 = .ok (.areturn, 1) := by decide +kernel
theorem dX6_axisOf_33 : decode cX6_axisOf 33 = .ok (.aload_n 0, 1) := by decide +kernel
theorem dX6_axisOf_34 : decode cX6_axisOf 34 = .ok (.getfield 49, 3) := by decide +kernel
theorem dX6_axisOf_37 : decode cX6_axisOf 37 = .ok (.areturn, 1) := by decide +kernel
theorem dX6_axisOf_38 : decode cX6_axisOf 38 = .ok (.aload_n 0, 1) := by decide +kernel
theorem dX6_axisOf_39 : decode cX6_axisOf 39 = .ok (.getfield 52, 3) := by decide +kernel
theorem dX6_axisOf_42 : decode cX6_axisOf 42 = .ok (.areturn, 1) := by decide +kernel
theorem dX6_axisOf_43 : decode cX6_axisOf 43 = .ok (.aconst_null, 1) := by decide +kernel
theorem dX6_axisOf_44 : decode cX6_axisOf 44 = .ok (.areturn, 1) := by decide +kernel
theorem dX6_slowingsFrom_0 : decode cX6_slowingsFrom 0 = .ok (.aload_n 0, 1) := by decide +kernel
theorem dX6_slowingsFrom_1 : decode cX6_slowingsFrom 1 = .ok (.getfield 12, 3) := by decide +kernel
theorem dX6_slowingsFrom_4 : decode cX6_slowingsFrom 4 = .ok (.getfield 89, 3) := by decide +kernel
theorem dX6_slowingsFrom_7 : decode cX6_slowingsFrom 7 = .ok (.ifCond .eq 32, 3) := by decide +kernel
theorem dX6_slowingsFrom_10 : decode cX6_slowingsFrom 10 = .ok (.aload_n 0, 1) := by decide +kernel
theorem dX6_slowingsFrom_11 : decode cX6_slowingsFrom 11 = .ok (.getfield 28, 3) := by decide +kernel
theorem dX6_slowingsFrom_14 : decode cX6_slowingsFrom 14 = .ok (.aload_n 0, 1) := by decide +kernel
theorem dX6_slowingsFrom_15 : decode cX6_slowingsFrom 15 = .ok (.getfield 12, 3) := by decide +kernel
theorem dX6_slowingsFrom_18 : decode cX6_slowingsFrom 18 = .ok (.invokevirtual 224, 3) := by decide +kernel
theorem dX6_slowingsFrom_21 : decode cX6_slowingsFrom 21 = .ok (.aload_n 0, 1) := by decide +kernel
theorem dX6_slowingsFrom_22 : decode cX6_slowingsFrom 22 = .ok (.getfield 28, 3) := by decide +kernel
theorem dX6_slowingsFrom_25 : decode cX6_slowingsFrom 25 = .ok (.iload_n 1, 1) := by decide +kernel
theorem dX6_slowingsFrom_26 : decode cX6_slowingsFrom 26 = .ok (.iload_n 2, 1) := by decide +kernel
theorem dX6_slowingsFrom_27 : decode cX6_slowingsFrom 27 = .ok (.invokevirtual 112, 3) := by decide +kernel
theorem dX6_slowingsFrom_30 : decode cX6_slowingsFrom 30 = .ok (.iconst (-1), 1) := by decide +kernel
theorem dX6_slowingsFrom_31 : decode cX6_slowingsFrom 31 = .ok (.if_icmp .eq 8, 3) := by decide +kernel
theorem dX6_slowingsFrom_34 : decode cX6_slowingsFrom 34 = .ok (.aload_n 0, 1) := by decide +kernel
theorem dX6_slowingsFrom_35 : decode cX6_slowingsFrom 35 = .ok (.getfield 28, 3) := by decide +kernel
theorem dX6_slowingsFrom_38 : decode cX6_slowingsFrom 38 = .ok (.areturn, 1) := by decide +kernel
theorem dX6_slowingsFrom_39 : decode cX6_slowingsFrom 39 = .ok (.aload_n 0, 1) := by decide +kernel
theorem dX6_slowingsFrom_40 : decode cX6_slowingsFrom 40 = .ok (.getfield 32, 3) := by decide +kernel
theorem dX6_slowingsFrom_43 : decode cX6_slowingsFrom 43 = .ok (.aload_n 0, 1) := by decide +kernel
theorem dX6_slowingsFrom_44 : decode cX6_slowingsFrom 44 = .ok (.getfield 12, 3) := by decide +kernel
theorem dX6_slowingsFrom_47 : decode cX6_slowingsFrom 47 = .ok (.invokevirtual 224, 3) := by decide +kernel
theorem dX6_slowingsFrom_50 : decode cX6_slowingsFrom 50 = .ok (.aload_n 0, 1) := by decide +kernel
theorem dX6_slowingsFrom_51 : decode cX6_slowingsFrom 51 = .ok (.getfield 32, 3) := by decide +kernel
theorem dX6_slowingsFrom_54 : decode cX6_slowingsFrom 54 = .ok (.areturn, 1) := by decide +kernel
theorem dX6_takeTick_0 : decode cX6_takeTick 0 = .ok (.aload_n 0, 1) := by decide +kernel
theorem dX6_takeTick_1 : decode cX6_takeTick 1 = .ok (.invokevirtual 228, 3) := by decide +kernel
theorem dX6_takeTick_4 : decode cX6_takeTick 4 = .ok (.istore_n 1, 1) := by decide +kernel
theorem dX6_takeTick_5 : decode cX6_takeTick 5 = .ok (.iload_n 1, 1) := by decide +kernel
theorem dX6_takeTick_6 : decode cX6_takeTick 6 = .ok (.iconst 5, 1) := by decide +kernel
theorem dX6_takeTick_7 : decode cX6_takeTick 7 = .ok (.if_icmp .ne 11, 3) := by decide +kernel
theorem dX6_takeTick_10 : decode cX6_takeTick 10 = .ok (.aload_n 0, 1) := by decide +kernel
theorem dX6_takeTick_11 : decode cX6_takeTick 11 = .ok (.getfield 38, 3) := by decide +kernel
theorem dX6_takeTick_14 : decode cX6_takeTick 14 = .ok (.invokevirtual 230, 3) := by decide +kernel
theorem dX6_takeTick_17 : decode cX6_takeTick 17 = .ok (.return_, 1) := by decide +kernel
theorem dX6_takeTick_18 : decode cX6_takeTick 18 = .ok (.aload_n 0, 1) := by decide +kernel
theorem dX6_takeTick_19 : decode cX6_takeTick 19 = .ok (.getfield 38, 3) := by decide +kernel
theorem dX6_takeTick_22 : decode cX6_takeTick 22 = .ok (.getfield 146, 3) := by decide +kernel
theorem dX6_takeTick_25 : decode cX6_takeTick 25 = .ok (.iload_n 1, 1) := by decide +kernel
theorem dX6_takeTick_26 : decode cX6_takeTick 26 = .ok (.iadd, 1) := by decide +kernel
theorem dX6_takeTick_27 : decode cX6_takeTick 27 = .ok (.istore_n 2, 1) := by decide +kernel
theorem dX6_takeTick_28 : decode cX6_takeTick 28 = .ok (.aload_n 0, 1) := by decide +kernel
theorem dX6_takeTick_29 : decode cX6_takeTick 29 = .ok (.getfield 12, 3) := by decide +kernel
theorem dX6_takeTick_32 : decode cX6_takeTick 32 = .ok (.iload_n 2, 1) := by decide +kernel
theorem dX6_takeTick_33 : decode cX6_takeTick 33 = .ok (.iload_n 1, 1) := by decide +kernel
theorem dX6_takeTick_34 : decode cX6_takeTick 34 = .ok (.invokevirtual 233, 3) := by decide +kernel
theorem dX6_takeTick_37 : decode cX6_takeTick 37 = .ok (.istore_n 3, 1) := by decide +kernel
theorem dX6_takeTick_38 : decode cX6_takeTick 38 = .ok (.aload_n 0, 1) := by decide +kernel
theorem dX6_takeTick_39 : decode cX6_takeTick 39 = .ok (.getfield 38, 3) := by decide +kernel
theorem dX6_takeTick_42 : decode cX6_takeTick 42 = .ok (.iload_n 2, 1) := by decide +kernel
theorem dX6_takeTick_43 : decode cX6_takeTick 43 = .ok (.iload_n 1, 1) := by decide +kernel
theorem dX6_takeTick_44 : decode cX6_takeTick 44 = .ok (.iload_n 3, 1) := by decide +kernel
theorem dX6_takeTick_45 : decode cX6_takeTick 45 = .ok (.invokevirtual 236, 3) := by decide +kernel
theorem dX6_takeTick_48 : decode cX6_takeTick 48 = .ok (.aload_n 0, 1) := by decide +kernel
theorem dX6_takeTick_49 : decode cX6_takeTick 49 = .ok (.getfield 45, 3) := by decide +kernel
theorem dX6_takeTick_52 : decode cX6_takeTick 52 = .ok (.aload_n 0, 1) := by decide +kernel
theorem dX6_takeTick_53 : decode cX6_takeTick 53 = .ok (.getfield 38, 3) := by decide +kernel
theorem dX6_takeTick_56 : decode cX6_takeTick 56 = .ok (.getfield 172, 3) := by decide +kernel
theorem dX6_takeTick_59 : decode cX6_takeTick 59 = .ok (.aload_n 0, 1) := by decide +kernel
theorem dX6_takeTick_60 : decode cX6_takeTick 60 = .ok (.getfield 38, 3) := by decide +kernel
theorem dX6_takeTick_63 : decode cX6_takeTick 63 = .ok (.getfield 169, 3) := by decide +kernel
theorem dX6_takeTick_66 : decode cX6_takeTick 66 = .ok (.iload_n 3, 1) := by decide +kernel
theorem dX6_takeTick_67 : decode cX6_takeTick 67 = .ok (.invokevirtual 239, 3) := by decide +kernel
theorem dX6_takeTick_70 : decode cX6_takeTick 70 = .ok (.aload_n 0, 1) := by decide +kernel
theorem dX6_takeTick_71 : decode cX6_takeTick 71 = .ok (.getfield 49, 3) := by decide +kernel
theorem dX6_takeTick_74 : decode cX6_takeTick 74 = .ok (.aload_n 0, 1) := by decide +kernel
theorem dX6_takeTick_75 : decode cX6_takeTick 75 = .ok (.getfield 38, 3) := by decide +kernel
theorem dX6_takeTick_78 : decode cX6_takeTick 78 = .ok (.getfield 172, 3) := by decide +kernel
theorem dX6_takeTick_81 : decode cX6_takeTick 81 = .ok (.aload_n 0, 1) := by decide +kernel
theorem dX6_takeTick_82 : decode cX6_takeTick 82 = .ok (.getfield 38, 3) := by decide +kernel
theorem dX6_takeTick_85 : decode cX6_takeTick 85 = .ok (.getfield 169, 3) := by decide +kernel
theorem dX6_takeTick_88 : decode cX6_takeTick 88 = .ok (.iload_n 3, 1) := by decide +kernel
theorem dX6_takeTick_89 : decode cX6_takeTick 89 = .ok (.invokevirtual 239, 3) := by decide +kernel
theorem dX6_takeTick_92 : decode cX6_takeTick 92 = .ok (.aload_n 0, 1) := by decide +kernel
theorem dX6_takeTick_93 : decode cX6_takeTick 93 = .ok (.getfield 52, 3) := by decide +kernel
theorem dX6_takeTick_96 : decode cX6_takeTick 96 = .ok (.aload_n 0, 1) := by decide +kernel
theorem dX6_takeTick_97 : decode cX6_takeTick 97 = .ok (.getfield 38, 3) := by decide +kernel
theorem dX6_takeTick_100 : decode cX6_takeTick 100 = .ok (.getfield 172, 3) := by decide +kernel
theorem dX6_takeTick_103 : decode cX6_takeTick 103 = .ok (.aload_n 0, 1) := by decide +kernel
theorem dX6_takeTick_104 : decode cX6_takeTick 104 = .ok (.getfield 38, 3) := by decide +kernel
theorem dX6_takeTick_107 : decode cX6_takeTick 107 = .ok (.getfield 169, 3) := by decide +kernel
theorem dX6_takeTick_110 : decode cX6_takeTick 110 = .ok (.iload_n 3, 1) := by decide +kernel
theorem dX6_takeTick_111 : decode cX6_takeTick 111 = .ok (.invokevirtual 239, 3) := by decide +kernel
theorem dX6_takeTick_114 : decode cX6_takeTick 114 = .ok (.return_, 1) := by decide +kernel
theorem dX6_nextChange_0 : decode cX6_nextChange 0 = .ok (.aload_n 0, 1) := by decide +kernel
theorem dX6_nextChange_1 : decode cX6_nextChange 1 = .ok (.getfield 38, 3) := by decide +kernel
theorem dX6_nextChange_4 : decode cX6_nextChange 4 = .ok (.getfield 146, 3) := by decide +kernel
theorem dX6_nextChange_7 : decode cX6_nextChange 7 = .ok (.istore_n 1, 1) := by decide +kernel
theorem dX6_nextChange_8 : decode cX6_nextChange 8 = .ok (.aload_n 0, 1) := by decide +kernel
theorem dX6_nextChange_9 : decode cX6_nextChange 9 = .ok (.getfield 38, 3) := by decide +kernel
theorem dX6_nextChange_12 : decode cX6_nextChange 12 = .ok (.getfield 150, 3) := by decide +kernel
theorem dX6_nextChange_15 : decode cX6_nextChange 15 = .ok (.istore_n 2, 1) := by decide +kernel
theorem dX6_nextChange_16 : decode cX6_nextChange 16 = .ok (.aload_n 0, 1) := by decide +kernel
theorem dX6_nextChange_17 : decode cX6_nextChange 17 = .ok (.getfield 38, 3) := by decide +kernel
theorem dX6_nextChange_20 : decode cX6_nextChange 20 = .ok (.getfield 143, 3) := by decide +kernel
theorem dX6_nextChange_23 : decode cX6_nextChange 23 = .ok (.ifCond .ne 32, 3) := by decide +kernel
theorem dX6_nextChange_26 : decode cX6_nextChange 26 = .ok (.aload_n 0, 1) := by decide +kernel
theorem dX6_nextChange_27 : decode cX6_nextChange 27 = .ok (.getfield 19, 3) := by decide +kernel
theorem dX6_nextChange_30 : decode cX6_nextChange 30 = .ok (.aload_n 0, 1) := by decide +kernel
theorem dX6_nextChange_31 : decode cX6_nextChange 31 = .ok (.getfield 12, 3) := by decide +kernel
theorem dX6_nextChange_34 : decode cX6_nextChange 34 = .ok (.iload_n 1, 1) := by decide +kernel
theorem dX6_nextChange_35 : decode cX6_nextChange 35 = .ok (.iload_n 2, 1) := by decide +kernel
theorem dX6_nextChange_36 : decode cX6_nextChange 36 = .ok (.aload_n 0, 1) := by decide +kernel
theorem dX6_nextChange_37 : decode cX6_nextChange 37 = .ok (.getfield 38, 3) := by decide +kernel
theorem dX6_nextChange_40 : decode cX6_nextChange 40 = .ok (.getfield 172, 3) := by decide +kernel
theorem dX6_nextChange_43 : decode cX6_nextChange 43 = .ok (.aload_n 0, 1) := by decide +kernel
theorem dX6_nextChange_44 : decode cX6_nextChange 44 = .ok (.getfield 38, 3) := by decide +kernel
theorem dX6_nextChange_47 : decode cX6_nextChange 47 = .ok (.getfield 169, 3) := by decide +kernel
theorem dX6_nextChange_50 : decode cX6_nextChange 50 = .ok (.isub, 1) := by decide +kernel
theorem dX6_nextChange_51 : decode cX6_nextChange 51 = .ok (.invokevirtual 242, 3) := by decide +kernel
theorem dX6_nextChange_54 : decode cX6_nextChange 54 = .ok (.ireturn, 1) := by decide +kernel
theorem dX6_nextChange_55 : decode cX6_nextChange 55 = .ok (.aload_n 0, 1) := by decide +kernel
theorem dX6_nextChange_56 : decode cX6_nextChange 56 = .ok (.getfield 38, 3) := by decide +kernel
theorem dX6_nextChange_59 : decode cX6_nextChange 59 = .ok (.getfield 245, 3) := by decide +kernel
theorem dX6_nextChange_62 : decode cX6_nextChange 62 = .ok (.ifCond .eq 10, 3) := by decide +kernel
theorem dX6_nextChange_65 : decode cX6_nextChange 65 = .ok (.aload_n 0, 1) := by decide +kernel
theorem dX6_nextChange_66 : decode cX6_nextChange 66 = .ok (.getfield 28, 3) := by decide +kernel
theorem dX6_nextChange_69 : decode cX6_nextChange 69 = .ok (.goto 7, 3) := by decide +kernel
theorem dX6_nextChange_72 : decode cX6_nextChange 72 = .ok (.aload_n 0, 1) := by decide +kernel
theorem dX6_nextChange_73 : decode cX6_nextChange 73 = .ok (.getfield 32, 3) := by decide +kernel
theorem dX6_nextChange_76 : decode cX6_nextChange 76 = .ok (.astore_n 3, 1) := by decide +kernel
theorem dX6_nextChange_77 : decode cX6_nextChange 77 = .ok (.aload_n 3, 1) := by decide +kernel
theorem dX6_nextChange_78 : decode cX6_nextChange 78 = .ok (.aload_n 0, 1) := by decide +kernel
theorem dX6_nextChange_79 : decode cX6_nextChange 79 = .ok (.getfield 12, 3) := by decide +kernel
theorem dX6_nextChange_82 : decode cX6_nextChange 82 = .ok (.iload_n 1, 1) := by decide +kernel
theorem dX6_nextChange_83 : decode cX6_nextChange 83 = .ok (.iload_n 2, 1) := by decide +kernel
theorem dX6_nextChange_84 : decode cX6_nextChange 84 = .ok (.invokevirtual 119, 3) := by decide +kernel
theorem dX6_nextChange_87 : decode cX6_nextChange 87 = .ok (.ireturn, 1) := by decide +kernel
theorem dJ9_abs_0f7a4_0 : decode cJ9_abs_0f7a4 0 = .ok (.iload_n 0, 1) := by decide +kernel
theorem dJ9_abs_0f7a4_1 : decode cJ9_abs_0f7a4 1 = .ok (.ifCond .ge 8, 3) := by decide +kernel
theorem dJ9_abs_0f7a4_4 : decode cJ9_abs_0f7a4 4 = .ok (.iload_n 0, 1) := by decide +kernel
theorem dJ9_abs_0f7a4_5 : decode cJ9_abs_0f7a4 5 = .ok (.ineg, 1) := by decide +kernel
theorem dJ9_abs_0f7a4_6 : decode cJ9_abs_0f7a4 6 = .ok (.goto 4, 3) := by decide +kernel
theorem dJ9_abs_0f7a4_9 : decode cJ9_abs_0f7a4 9 = .ok (.iload_n 0, 1) := by decide +kernel
theorem dJ9_abs_0f7a4_10 : decode cJ9_abs_0f7a4 10 = .ok (.ireturn, 1) := by decide +kernel
theorem dJ9_max_7cf53_0 : decode cJ9_max_7cf53 0 = .ok (.iload_n 0, 1) := by decide +kernel
theorem dJ9_max_7cf53_1 : decode cJ9_max_7cf53 1 = .ok (.iload_n 1, 1) := by decide +kernel
theorem dJ9_max_7cf53_2 : decode cJ9_max_7cf53 2 = .ok (.if_icmp .lt 7, 3) := by decide +kernel
theorem dJ9_max_7cf53_5 : decode cJ9_max_7cf53 5 = .ok (.iload_n 0, 1) := by decide +kernel
theorem dJ9_max_7cf53_6 : decode cJ9_max_7cf53 6 = .ok (.goto 4, 3) := by decide +kernel
theorem dJ9_max_7cf53_9 : decode cJ9_max_7cf53 9 = .ok (.iload_n 1, 1) := by decide +kernel
theorem dJ9_max_7cf53_10 : decode cJ9_max_7cf53 10 = .ok (.ireturn, 1) := by decide +kernel
theorem dJ9_min_7cf53_0 : decode cJ9_min_7cf53 0 = .ok (.iload_n 0, 1) := by decide +kernel
theorem dJ9_min_7cf53_1 : decode cJ9_min_7cf53 1 = .ok (.iload_n 1, 1) := by decide +kernel
theorem dJ9_min_7cf53_2 : decode cJ9_min_7cf53 2 = .ok (.if_icmp .gt 7, 3) := by decide +kernel
theorem dJ9_min_7cf53_5 : decode cJ9_min_7cf53 5 = .ok (.iload_n 0, 1) := by decide +kernel
theorem dJ9_min_7cf53_6 : decode cJ9_min_7cf53 6 = .ok (.goto 4, 3) := by decide +kernel
theorem dJ9_min_7cf53_9 : decode cJ9_min_7cf53 9 = .ok (.iload_n 1, 1) := by decide +kernel
theorem dJ9_min_7cf53_10 : decode cJ9_min_7cf53 10 = .ok (.ireturn, 1) := by decide +kernel
theorem dJ7_fill_53178_0 : decode cJ7_fill_53178 0 = .ok (.iconst 0, 1) := by decide +kernel
theorem dJ7_fill_53178_1 : decode cJ7_fill_53178 1 = .ok (.istore_n 2, 1) := by decide +kernel
theorem dJ7_fill_53178_2 : decode cJ7_fill_53178 2 = .ok (.aload_n 0, 1) := by decide +kernel
theorem dJ7_fill_53178_3 : decode cJ7_fill_53178 3 = .ok (.arraylength, 1) := by decide +kernel
theorem dJ7_fill_53178_4 : decode cJ7_fill_53178 4 = .ok (.istore_n 3, 1) := by decide +kernel
theorem dJ7_fill_53178_5 : decode cJ7_fill_53178 5 = .ok (.iload_n 2, 1) := by decide +kernel
theorem dJ7_fill_53178_6 : decode cJ7_fill_53178 6 = .ok (.iload_n 3, 1) := by decide +kernel
theorem dJ7_fill_53178_7 : decode cJ7_fill_53178 7 = .ok (.if_icmp .ge 13, 3) := by decide +kernel
theorem dJ7_fill_53178_10 : decode cJ7_fill_53178 10 = .ok (.aload_n 0, 1) := by decide +kernel
theorem dJ7_fill_53178_11 : decode cJ7_fill_53178 11 = .ok (.iload_n 2, 1) := by decide +kernel
theorem dJ7_fill_53178_12 : decode cJ7_fill_53178 12 = .ok (.iload_n 1, 1) := by decide +kernel
theorem dJ7_fill_53178_13 : decode cJ7_fill_53178 13 = .ok (.iastore, 1) := by decide +kernel
theorem dJ7_fill_53178_14 : decode cJ7_fill_53178 14 = .ok (.iinc 2 1, 3) := by decide +kernel
theorem dJ7_fill_53178_17 : decode cJ7_fill_53178 17 = .ok (.goto (-12), 3) := by decide +kernel
theorem dJ7_fill_53178_20 : decode cJ7_fill_53178 20 = .ok (.return_, 1) := by decide +kernel
end
section
theorem dX7_init_0 : decode cX7_init 0 = .ok (.aload_n 0, 1) := by decide +kernel
theorem dX7_init_1 : decode cX7_init 1 = .ok (.invokespecial 1, 3) := by decide +kernel
theorem dX7_init_4 : decode cX7_init 4 = .ok (.aload_n 0, 1) := by decide +kernel
theorem dX7_init_5 : decode cX7_init 5 = .ok (.bipush 6, 2) := by decide +kernel
theorem dX7_init_7 : decode cX7_init 7 = .ok (.putfield 7, 3) := by decide +kernel
theorem dX7_init_10 : decode cX7_init 10 = .ok (.aload_n 0, 1) := by decide +kernel
theorem dX7_init_11 : decode cX7_init 11 = .ok (.iconst 2, 1) := by decide +kernel
theorem dX7_init_12 : decode cX7_init 12 = .ok (.putfield 13, 3) := by decide +kernel
theorem dX7_init_15 : decode cX7_init 15 = .ok (.aload_n 0, 1) := by decide +kernel
theorem dX7_init_16 : decode cX7_init 16 = .ok (.iconst 1, 1) := by decide +kernel
theorem dX7_init_17 : decode cX7_init 17 = .ok (.putfield 16, 3) := by decide +kernel
theorem dX7_init_20 : decode cX7_init 20 = .ok (.aload_n 0, 1) := by decide +kernel
theorem dX7_init_21 : decode cX7_init 21 = .ok (.bipush 13, 2) := by decide +kernel
theorem dX7_init_23 : decode cX7_init 23 = .ok (.newarray .boolean, 2) := by decide +kernel
theorem dX7_init_25 : decode cX7_init 25 = .ok (.putfield 19, 3) := by decide +kernel
theorem dX7_init_28 : decode cX7_init 28 = .ok (.aload_n 0, 1) := by decide +kernel
theorem dX7_init_29 : decode cX7_init 29 = .ok (.bipush 13, 2) := by decide +kernel
theorem dX7_init_31 : decode cX7_init 31 = .ok (.newarray .int, 2) := by decide +kernel
theorem dX7_init_33 : decode cX7_init 33 = .ok (.putfield 23, 3) := by decide +kernel
theorem dX7_init_36 : decode cX7_init 36 = .ok (.aload_n 0, 1) := by decide +kernel
theorem dX7_init_37 : decode cX7_init 37 = .ok (.sipush 23517, 3) := by decide +kernel
theorem dX7_init_40 : decode cX7_init 40 = .ok (.newarray .int, 2) := by decide +kernel
theorem dX7_init_42 : decode cX7_init 42 = .ok (.putfield 27, 3) := by decide +kernel
theorem dX7_init_45 : decode cX7_init 45 = .ok (.aload_n 0, 1) := by decide +kernel
theorem dX7_init_46 : decode cX7_init 46 = .ok (.sipush 23517, 3) := by decide +kernel
theorem dX7_init_49 : decode cX7_init 49 = .ok (.newarray .int, 2) := by decide +kernel
theorem dX7_init_51 : decode cX7_init 51 = .ok (.putfield 30, 3) := by decide +kernel
theorem dX7_init_54 : decode cX7_init 54 = .ok (.aload_n 0, 1) := by decide +kernel
theorem dX7_init_55 : decode cX7_init 55 = .ok (.sipush 1000, 3) := by decide +kernel
theorem dX7_init_58 : decode cX7_init 58 = .ok (.newarray .int, 2) := by decide +kernel
theorem dX7_init_60 : decode cX7_init 60 = .ok (.putfield 33, 3) := by decide +kernel
theorem dX7_init_63 : decode cX7_init 63 = .ok (.aload_n 0, 1) := by decide +kernel
theorem dX7_init_64 : decode cX7_init 64 = .ok (.bipush 117, 2) := by decide +kernel
theorem dX7_init_66 : decode cX7_init 66 = .ok (.newarray .int, 2) := by decide +kernel
theorem dX7_init_68 : decode cX7_init 68 = .ok (.putfield 36, 3) := by decide +kernel
theorem dX7_init_71 : decode cX7_init 71 = .ok (.aload_n 0, 1) := by decide +kernel
theorem dX7_init_72 : decode cX7_init 72 = .ok (.bipush 117, 2) := by decide +kernel
theorem dX7_init_74 : decode cX7_init 74 = .ok (.newarray .int, 2) := by decide +kernel
theorem dX7_init_76 : decode cX7_init 76 = .ok (.putfield 39, 3) := by decide +kernel
theorem dX7_init_79 : decode cX7_init 79 = .ok (.aload_n 0, 1) := by decide +kernel
theorem dX7_init_80 : decode cX7_init 80 = .ok (.iconst 3, 1) := by decide +kernel
theorem dX7_init_81 : decode cX7_init 81 = .ok (.newarray .int, 2) := by decide +kernel
theorem dX7_init_83 : decode cX7_init 83 = .ok (.putfield 42, 3) := by decide +kernel
theorem dX7_init_86 : decode cX7_init 86 = .ok (.aload_n 0, 1) := by decide +kernel
theorem dX7_init_87 : decode cX7_init 87 = .ok (.iconst 3, 1) := by decide +kernel
theorem dX7_init_88 : decode cX7_init 88 = .ok (.newarray .int, 2) := by decide +kernel
theorem dX7_init_90 : decode cX7_init 90 = .ok (.putfield 45, 3) := by decide +kernel
theorem dX7_init_93 : decode cX7_init 93 = .ok (.aload_n 0, 1) := by decide +kernel
theorem dX7_init_94 : decode cX7_init 94 = .ok (.iconst 3, 1) := by decide +kernel
theorem dX7_init_95 : decode cX7_init 95 = .ok (.newarray .int, 2) := by decide +kernel
theorem dX7_init_97 : decode cX7_init 97 = .ok (.putfield 48, 3) := by decide +kernel
theorem dX7_init_100 : decode cX7_init 100 = .ok (.aload_n 0, 1) := by decide +kernel
theorem dX7_init_101 : decode cX7_init 101 = .ok (.iconst 3, 1) := by decide +kernel
theorem dX7_init_102 : decode cX7_init 102 = .ok (.newarray .int, 2) := by decide +kernel
theorem dX7_init_104 : decode cX7_init 104 = .ok (.putfield 51, 3) := by decide +kernel
theorem dX7_init_107 : decode cX7_init 107 = .ok (.aload_n 0, 1) := by decide +kernel
theorem dX7_init_108 : decode cX7_init 108 = .ok (.sipush 1000, 3) := by decide +kernel
theorem dX7_init_111 : decode cX7_init 111 = .ok (.newarray .int, 2) := by decide +kernel
theorem dX7_init_113 : decode cX7_init 113 = .ok (.putfield 54, 3) := by decide +kernel
theorem dX7_init_116 : decode cX7_init 116 = .ok (.aload_n 0, 1) := by decide +kernel
theorem dX7_init_117 : decode cX7_init 117 = .ok (.iconst (-1), 1) := by decide +kernel
theorem dX7_init_118 : decode cX7_init 118 = .ok (.putfield 57, 3) := by decide +kernel
theorem dX7_init_121 : decode cX7_init 121 = .ok (.aload_n 0, 1) := by decide +kernel
theorem dX7_init_122 : decode cX7_init 122 = .ok (.iconst 3, 1) := by decide +kernel
theorem dX7_init_123 : decode cX7_init 123 = .ok (.newarray .int, 2) := by decide +kernel
theorem dX7_init_125 : decode cX7_init 125 = .ok (.putfield 60, 3) := by decide +kernel
theorem dX7_init_128 : decode cX7_init 128 = .ok (.aload_n 0, 1) := by decide +kernel
theorem dX7_init_129 : decode cX7_init 129 = .ok (.iconst 3, 1) := by decide +kernel
theorem dX7_init_130 : decode cX7_init 130 = .ok (.newarray .boolean, 2) := by decide +kernel
theorem dX7_init_132 : decode cX7_init 132 = .ok (.putfield 63, 3) := by decide +kernel
theorem dX7_init_135 : decode cX7_init 135 = .ok (.aload_n 0, 1) := by decide +kernel
theorem dX7_init_136 : decode cX7_init 136 = .ok (.bipush 9, 2) := by decide +kernel
theorem dX7_init_138 : decode cX7_init 138 = .ok (.newarray .int, 2) := by decide +kernel
theorem dX7_init_140 : decode cX7_init 140 = .ok (.putfield 66, 3) := by decide +kernel
theorem dX7_init_143 : decode cX7_init 143 = .ok (.iconst 0, 1) := by decide +kernel
theorem dX7_init_144 : decode cX7_init 144 = .ok (.istore_n 1, 1) := by decide +kernel
theorem dX7_init_145 : decode cX7_init 145 = .ok (.iload_n 1, 1) := by decide +kernel
theorem dX7_init_146 : decode cX7_init 146 = .ok (.bipush 13, 2) := by decide +kernel
theorem dX7_init_148 : decode cX7_init 148 = .ok (.if_icmp .ge 17, 3) := by decide +kernel
theorem dX7_init_151 : decode cX7_init 151 = .ok (.aload_n 0, 1) := by decide +kernel
theorem dX7_init_152 : decode cX7_init 152 = .ok (.getfield 23, 3) := by decide +kernel
theorem dX7_init_155 : decode cX7_init 155 = .ok (.iload_n 1, 1) := by decide +kernel
theorem dX7_init_156 : decode cX7_init 156 = .ok (.bipush 100, 2) := by decide +kernel
theorem dX7_init_158 : decode cX7_init 158 = .ok (.iastore, 1) := by decide +kernel
theorem dX7_init_159 : decode cX7_init 159 = .ok (.iinc 1 1, 3) := by decide +kernel
theorem dX7_init_162 : decode cX7_init 162 = .ok (.goto (-17), 3) := by decide +kernel
theorem dX7_init_165 : decode cX7_init 165 = .ok (.aload_n 0, 1) := by decide +kernel
theorem dX7_init_166 : decode cX7_init 166 = .ok (.iconst 4, 1) := by decide +kernel
theorem dX7_init_167 : decode cX7_init 167 = .ok (.bipush 10, 2) := by decide +kernel
theorem dX7_init_169 : decode cX7_init 169 = .ok (.invokevirtual 69, 3) := by decide +kernel
theorem dX7_init_172 : decode cX7_init 172 = .ok (.istore_n 1, 1) := by decide +kernel
theorem dX7_init_173 : decode cX7_init 173 = .ok (.return_, 1) := by decide +kernel
theorem dX7_thrown_0 : decode cX7_thrown 0 = .ok (.aload_n 0, 1) := by decide +kernel
theorem dX7_thrown_1 : decode cX7_thrown 1 = .ok (.getfield 73, 3) := by decide +kernel
theorem dX7_thrown_4 : decode cX7_thrown 4 = .ok (.ireturn, 1) := by decide +kernel
theorem dX7_isIn_0 : decode cX7_isIn 0 = .ok (.iload_n 0, 1) := by decide +kernel
theorem dX7_isIn_1 : decode cX7_isIn 1 = .ok (.iload_n 1, 1) := by decide +kernel
theorem dX7_isIn_2 : decode cX7_isIn 2 = .ok (.if_icmp .lt 12, 3) := by decide +kernel
theorem dX7_isIn_5 : decode cX7_isIn 5 = .ok (.iload_n 0, 1) := by decide +kernel
theorem dX7_isIn_6 : decode cX7_isIn 6 = .ok (.iload_n 2, 1) := by decide +kernel
theorem dX7_isIn_7 : decode cX7_isIn 7 = .ok (.if_icmp .gt 7, 3) := by decide +kernel
theorem dX7_isIn_10 : decode cX7_isIn 10 = .ok (.iconst 1, 1) := by decide +kernel
theorem dX7_isIn_11 : decode cX7_isIn 11 = .ok (.goto 4, 3) := by decide +kernel
theorem dX7_isIn_14 : decode cX7_isIn 14 = .ok (.iconst 0, 1) := by decide +kernel
theorem dX7_isIn_15 : decode cX7_isIn 15 = .ok (.ireturn, 1) := by decide +kernel
theorem dX7_limits_0 : decode cX7_limits 0 = .ok (.aload_n 0, 1) := by decide +kernel
theorem dX7_limits_1 : decode cX7_limits 1 = .ok (.iconst 0, 1) := by decide +kernel
theorem dX7_limits_2 : decode cX7_limits 2 = .ok (.putfield 73, 3) := by decide +kernel
theorem dX7_limits_5 : decode cX7_limits 5 = .ok (.aload_n 0, 1) := by decide +kernel
theorem dX7_limits_6 : decode cX7_limits 6 = .ok (.getfield 76, 3) := by decide +kernel
theorem dX7_limits_9 : decode cX7_limits 9 = .ok (.ifCond .ne 31, 3) := by decide +kernel
theorem dX7_limits_12 : decode cX7_limits 12 = .ok (.iload_n 1, 1) := by decide +kernel
theorem dX7_limits_13 : decode cX7_limits 13 = .ok (.iconst 1, 1) := by decide +kernel
theorem dX7_limits_14 : decode cX7_limits 14 = .ok (.bipush 12, 2) := by decide +kernel
theorem dX7_limits_16 : decode cX7_limits 16 = .ok (.invokestatic 80, 3) := by decide +kernel
theorem dX7_limits_19 : decode cX7_limits 19 = .ok (.ifCond .eq 21, 3) := by decide +kernel
theorem dX7_limits_22 : decode cX7_limits 22 = .ok (.iload_n 2, 1) := by decide +kernel
theorem dX7_limits_23 : decode cX7_limits 23 = .ok (.iconst 1, 1) := by decide +kernel
theorem dX7_limits_24 : decode cX7_limits 24 = .ok (.iconst 4, 1) := by decide +kernel
theorem dX7_limits_25 : decode cX7_limits 25 = .ok (.invokestatic 80, 3) := by decide +kernel
theorem dX7_limits_28 : decode cX7_limits 28 = .ok (.ifCond .eq 12, 3) := by decide +kernel
theorem dX7_limits_31 : decode cX7_limits 31 = .ok (.iload_n 3, 1) := by decide +kernel
theorem dX7_limits_32 : decode cX7_limits 32 = .ok (.iconst 1, 1) := by decide +kernel
theorem dX7_limits_33 : decode cX7_limits 33 = .ok (.iconst 4, 1) := by decide +kernel
theorem dX7_limits_34 : decode cX7_limits 34 = .ok (.invokestatic 80, 3) := by decide +kernel
theorem dX7_limits_37 : decode cX7_limits 37 = .ok (.ifCond .ne 5, 3) := by decide +kernel
theorem dX7_limits_40 : decode cX7_limits 40 = .ok (.iconst 0, 1) := by decide +kernel
theorem dX7_limits_41 : decode cX7_limits 41 = .ok (.ireturn, 1) := by decide +kernel
theorem dX7_limits_42 : decode cX7_limits 42 = .ok (.aload_n 0, 1) := by decide +kernel
theorem dX7_limits_43 : decode cX7_limits 43 = .ok (.iload_n 1, 1) := by decide +kernel
theorem dX7_limits_44 : decode cX7_limits 44 = .ok (.putfield 7, 3) := by decide +kernel
theorem dX7_limits_47 : decode cX7_limits 47 = .ok (.aload_n 0, 1) := by decide +kernel
theorem dX7_limits_48 : decode cX7_limits 48 = .ok (.iload_n 2, 1) := by decide +kernel
theorem dX7_limits_49 : decode cX7_limits 49 = .ok (.putfield 13, 3) := by decide +kernel
theorem dX7_limits_52 : decode cX7_limits 52 = .ok (.aload_n 0, 1) := by decide +kernel
theorem dX7_limits_53 : decode cX7_limits 53 = .ok (.iload_n 3, 1) := by decide +kernel
theorem dX7_limits_54 : decode cX7_limits 54 = .ok (.putfield 16, 3) := by decide +kernel
theorem dX7_limits_57 : decode cX7_limits 57 = .ok (.iconst 1, 1) := by decide +kernel
theorem dX7_limits_58 : decode cX7_limits 58 = .ok (.ireturn, 1) := by decide +kernel
theorem dX7_bad_0 : decode cX7_bad 0 = .ok (.aload_n 0, 1) := by decide +kernel
theorem dX7_bad_1 : decode cX7_bad 1 = .ok (.iconst 0, 1) := by decide +kernel
theorem dX7_bad_2 : decode cX7_bad 2 = .ok (.putfield 73, 3) := by decide +kernel
theorem dX7_bad_5 : decode cX7_bad 5 = .ok (.aload_n 0, 1) := by decide +kernel
theorem dX7_bad_6 : decode cX7_bad 6 = .ok (.getfield 76, 3) := by decide +kernel
theorem dX7_bad_9 : decode cX7_bad 9 = .ok (.ifCond .ne 23, 3) := by decide +kernel
theorem dX7_bad_12 : decode cX7_bad 12 = .ok (.iload_n 1, 1) := by decide +kernel
theorem dX7_bad_13 : decode cX7_bad 13 = .ok (.iconst 1, 1) := by decide +kernel
theorem dX7_bad_14 : decode cX7_bad 14 = .ok (.bipush 12, 2) := by decide +kernel
theorem dX7_bad_16 : decode cX7_bad 16 = .ok (.invokestatic 80, 3) := by decide +kernel
theorem dX7_bad_19 : decode cX7_bad 19 = .ok (.ifCond .eq 13, 3) := by decide +kernel
theorem dX7_bad_22 : decode cX7_bad 22 = .ok (.aload_n 0, 1) := by decide +kernel
theorem dX7_bad_23 : decode cX7_bad 23 = .ok (.getfield 19, 3) := by decide +kernel
theorem dX7_bad_26 : decode cX7_bad 26 = .ok (.iload_n 1, 1) := by decide +kernel
theorem dX7_bad_27 : decode cX7_bad 27 = .ok (.baload, 1) := by decide +kernel
theorem dX7_bad_28 : decode cX7_bad 28 = .ok (.iload_n 2, 1) := by decide +kernel
theorem dX7_bad_29 : decode cX7_bad 29 = .ok (.if_icmp .ne 5, 3) := by decide +kernel
theorem dX7_bad_32 : decode cX7_bad 32 = .ok (.iconst 0, 1) := by decide +kernel
theorem dX7_bad_33 : decode cX7_bad 33 = .ok (.ireturn, 1) := by decide +kernel
theorem dX7_bad_34 : decode cX7_bad 34 = .ok (.aload_n 0, 1) := by decide +kernel
theorem dX7_bad_35 : decode cX7_bad 35 = .ok (.getfield 19, 3) := by decide +kernel
theorem dX7_bad_38 : decode cX7_bad 38 = .ok (.iload_n 1, 1) := by decide +kernel
theorem dX7_bad_39 : decode cX7_bad 39 = .ok (.iload_n 2, 1) := by decide +kernel
theorem dX7_bad_40 : decode cX7_bad 40 = .ok (.bastore, 1) := by decide +kernel
theorem dX7_bad_41 : decode cX7_bad 41 = .ok (.iconst 1, 1) := by decide +kernel
theorem dX7_bad_42 : decode cX7_bad 42 = .ok (.ireturn, 1) := by decide +kernel
theorem dX7_pull_0 : decode cX7_pull 0 = .ok (.aload_n 0, 1) := by decide +kernel
theorem dX7_pull_1 : decode cX7_pull 1 = .ok (.iconst 0, 1) := by decide +kernel
theorem dX7_pull_2 : decode cX7_pull 2 = .ok (.putfield 73, 3) := by decide +kernel
theorem dX7_pull_5 : decode cX7_pull 5 = .ok (.aload_n 0, 1) := by decide +kernel
theorem dX7_pull_6 : decode cX7_pull 6 = .ok (.getfield 76, 3) := by decide +kernel
theorem dX7_pull_9 : decode cX7_pull 9 = .ok (.ifCond .ne 24, 3) := by decide +kernel
theorem dX7_pull_12 : decode cX7_pull 12 = .ok (.iload_n 1, 1) := by decide +kernel
theorem dX7_pull_13 : decode cX7_pull 13 = .ok (.iconst 0, 1) := by decide +kernel
theorem dX7_pull_14 : decode cX7_pull 14 = .ok (.bipush 12, 2) := by decide +kernel
theorem dX7_pull_16 : decode cX7_pull 16 = .ok (.invokestatic 80, 3) := by decide +kernel
theorem dX7_pull_19 : decode cX7_pull 19 = .ok (.ifCond .eq 14, 3) := by decide +kernel
theorem dX7_pull_22 : decode cX7_pull 22 = .ok (.iload_n 2, 1) := by decide +kernel
theorem dX7_pull_23 : decode cX7_pull 23 = .ok (.iconst 0, 1) := by decide +kernel
theorem dX7_pull_24 : decode cX7_pull 24 = .ok (.sipush 1000, 3) := by decide +kernel
theorem dX7_pull_27 : decode cX7_pull 27 = .ok (.invokestatic 80, 3) := by decide +kernel
theorem dX7_pull_30 : decode cX7_pull 30 = .ok (.ifCond .ne 5, 3) := by decide +kernel
theorem dX7_pull_33 : decode cX7_pull 33 = .ok (.iconst 0, 1) := by decide +kernel
theorem dX7_pull_34 : decode cX7_pull 34 = .ok (.ireturn, 1) := by decide +kernel
theorem dX7_pull_35 : decode cX7_pull 35 = .ok (.aload_n 0, 1) := by decide +kernel
theorem dX7_pull_36 : decode cX7_pull 36 = .ok (.getfield 23, 3) := by decide +kernel
theorem dX7_pull_39 : decode cX7_pull 39 = .ok (.iload_n 1, 1) := by decide +kernel
theorem dX7_pull_40 : decode cX7_pull 40 = .ok (.iload_n 2, 1) := by decide +kernel
theorem dX7_pull_41 : decode cX7_pull 41 = .ok (.iastore, 1) := by decide +kernel
theorem dX7_pull_42 : decode cX7_pull 42 = .ok (.iconst 1, 1) := by decide +kernel
theorem dX7_pull_43 : decode cX7_pull 43 = .ok (.ireturn, 1) := by decide +kernel
theorem dX7_load_0 : decode cX7_load 0 = .ok (.aload_n 0, 1) := by decide +kernel
theorem dX7_load_1 : decode cX7_load 1 = .ok (.iconst 0, 1) := by decide +kernel
theorem dX7_load_2 : decode cX7_load 2 = .ok (.putfield 73, 3) := by decide +kernel
theorem dX7_load_5 : decode cX7_load 5 = .ok (.aload_n 0, 1) := by decide +kernel
theorem dX7_load_6 : decode cX7_load 6 = .ok (.getfield 76, 3) := by decide +kernel
theorem dX7_load_9 : decode cX7_load 9 = .ok (.ifCond .ne 24, 3) := by decide +kernel
theorem dX7_load_12 : decode cX7_load 12 = .ok (.iload_n 1, 1) := by decide +kernel
theorem dX7_load_13 : decode cX7_load 13 = .ok (.iconst 0, 1) := by decide +kernel
theorem dX7_load_14 : decode cX7_load 14 = .ok (.sipush 1000, 3) := by decide +kernel
theorem dX7_load_17 : decode cX7_load 17 = .ok (.invokestatic 80, 3) := by decide +kernel
theorem dX7_load_20 : decode cX7_load 20 = .ok (.ifCond .eq 13, 3) := by decide +kernel
theorem dX7_load_23 : decode cX7_load 23 = .ok (.iload_n 2, 1) := by decide +kernel
theorem dX7_load_24 : decode cX7_load 24 = .ok (.iconst 0, 1) := by decide +kernel
theorem dX7_load_25 : decode cX7_load 25 = .ok (.bipush 100, 2) := by decide +kernel
theorem dX7_load_27 : decode cX7_load 27 = .ok (.invokestatic 80, 3) := by decide +kernel
theorem dX7_load_30 : decode cX7_load 30 = .ok (.ifCond .ne 5, 3) := by decide +kernel
theorem dX7_load_33 : decode cX7_load 33 = .ok (.iconst 0, 1) := by decide +kernel
theorem dX7_load_34 : decode cX7_load 34 = .ok (.ireturn, 1) := by decide +kernel
theorem dX7_load_35 : decode cX7_load 35 = .ok (.aload_n 0, 1) := by decide +kernel
theorem dX7_load_36 : decode cX7_load 36 = .ok (.iload_n 1, 1) := by decide +kernel
theorem dX7_load_37 : decode cX7_load 37 = .ok (.putfield 84, 3) := by decide +kernel
theorem dX7_load_40 : decode cX7_load 40 = .ok (.aload_n 0, 1) := by decide +kernel
theorem dX7_load_41 : decode cX7_load 41 = .ok (.iload_n 2, 1) := by decide +kernel
theorem dX7_load_42 : decode cX7_load 42 = .ok (.putfield 87, 3) := by decide +kernel
theorem dX7_load_45 : decode cX7_load 45 = .ok (.iconst 1, 1) := by decide +kernel
theorem dX7_load_46 : decode cX7_load 46 = .ok (.ireturn, 1) := by decide +kernel
theorem dX7_only_0 : decode cX7_only 0 = .ok (.aload_n 0, 1) := by decide +kernel
theorem dX7_only_1 : decode cX7_only 1 = .ok (.iconst 0, 1) := by decide +kernel
theorem dX7_only_2 : decode cX7_only 2 = .ok (.putfield 73, 3) := by decide +kernel
theorem dX7_only_5 : decode cX7_only 5 = .ok (.aload_n 0, 1) := by decide +kernel
theorem dX7_only_6 : decode cX7_only 6 = .ok (.getfield 76, 3) := by decide +kernel
theorem dX7_only_9 : decode cX7_only 9 = .ok (.ifCond .ne 11, 3) := by decide +kernel
theorem dX7_only_12 : decode cX7_only 12 = .ok (.aload_n 0, 1) := by decide +kernel
theorem dX7_only_13 : decode cX7_only 13 = .ok (.getfield 90, 3) := by decide +kernel
theorem dX7_only_16 : decode cX7_only 16 = .ok (.iload_n 1, 1) := by decide +kernel
theorem dX7_only_17 : decode cX7_only 17 = .ok (.if_icmp .ne 5, 3) := by decide +kernel
theorem dX7_only_20 : decode cX7_only 20 = .ok (.iconst 0, 1) := by decide +kernel
theorem dX7_only_21 : decode cX7_only 21 = .ok (.ireturn, 1) := by decide +kernel
theorem dX7_only_22 : decode cX7_only 22 = .ok (.aload_n 0, 1) := by decide +kernel
theorem dX7_only_23 : decode cX7_only 23 = .ok (.iload_n 1, 1) := by decide +kernel
theorem dX7_only_24 : decode cX7_only 24 = .ok (.putfield 90, 3) := by decide +kernel
theorem dX7_only_27 : decode cX7_only 27 = .ok (.iconst 1, 1) := by decide +kernel
theorem dX7_only_28 : decode cX7_only 28 = .ok (.ireturn, 1) := by decide +kernel
theorem dX7_isState_0 : decode cX7_isState 0 = .ok (.iload_n 1, 1) := by decide +kernel
theorem dX7_isState_1 : decode cX7_isState 1 = .ok (.iconst 0, 1) := by decide +kernel
theorem dX7_isState_2 : decode cX7_isState 2 = .ok (.aload_n 0, 1) := by decide +kernel
theorem dX7_isState_3 : decode cX7_isState 3 = .ok (.getfield 7, 3) := by decide +kernel
theorem dX7_isState_6 : decode cX7_isState 6 = .ok (.invokestatic 80, 3) := by decide +kernel
theorem dX7_isState_9 : decode cX7_isState 9 = .ok (.ifCond .eq 23, 3) := by decide +kernel
theorem dX7_isState_12 : decode cX7_isState 12 = .ok (.iload_n 2, 1) := by decide +kernel
theorem dX7_isState_13 : decode cX7_isState 13 = .ok (.aload_n 0, 1) := by decide +kernel
theorem dX7_isState_14 : decode cX7_isState 14 = .ok (.getfield 13, 3) := by decide +kernel
theorem dX7_isState_17 : decode cX7_isState 17 = .ok (.ineg, 1) := by decide +kernel
theorem dX7_isState_18 : decode cX7_isState 18 = .ok (.aload_n 0, 1) := by decide +kernel
theorem dX7_isState_19 : decode cX7_isState 19 = .ok (.getfield 13, 3) := by decide +kernel
theorem dX7_isState_22 : decode cX7_isState 22 = .ok (.invokestatic 80, 3) := by decide +kernel
theorem dX7_isState_25 : decode cX7_isState 25 = .ok (.ifCond .eq 7, 3) := by decide +kernel
theorem dX7_isState_28 : decode cX7_isState 28 = .ok (.iconst 1, 1) := by decide +kernel
theorem dX7_isState_29 : decode cX7_isState 29 = .ok (.goto 4, 3) := by decide +kernel
theorem dX7_isState_32 : decode cX7_isState 32 = .ok (.iconst 0, 1) := by decide +kernel
theorem dX7_isState_33 : decode cX7_isState 33 = .ok (.ireturn, 1) := by decide +kernel
theorem dX7_isSafe_0 : decode cX7_isSafe 0 = .ok (.aload_n 0, 1) := by decide +kernel
theorem dX7_isSafe_1 : decode cX7_isSafe 1 = .ok (.getfield 84, 3) := by decide +kernel
theorem dX7_isSafe_4 : decode cX7_isSafe 4 = .ok (.aload_n 0, 1) := by decide +kernel
theorem dX7_isSafe_5 : decode cX7_isSafe 5 = .ok (.getfield 87, 3) := by decide +kernel
theorem dX7_isSafe_8 : decode cX7_isSafe 8 = .ok (.iload_n 2, 1) := by decide +kernel
theorem dX7_isSafe_9 : decode cX7_isSafe 9 = .ok (.invokestatic 93, 3) := by decide +kernel
theorem dX7_isSafe_12 : decode cX7_isSafe 12 = .ok (.imul, 1) := by decide +kernel
theorem dX7_isSafe_13 : decode cX7_isSafe 13 = .ok (.iadd, 1) := by decide +kernel
theorem dX7_isSafe_14 : decode cX7_isSafe 14 = .ok (.aload_n 0, 1) := by decide +kernel
theorem dX7_isSafe_15 : decode cX7_isSafe 15 = .ok (.getfield 23, 3) := by decide +kernel
theorem dX7_isSafe_18 : decode cX7_isSafe 18 = .ok (.iload_n 1, 1) := by decide +kernel
theorem dX7_isSafe_19 : decode cX7_isSafe 19 = .ok (.iaload, 1) := by decide +kernel
theorem dX7_isSafe_20 : decode cX7_isSafe 20 = .ok (.if_icmp .gt 7, 3) := by decide +kernel
theorem dX7_isSafe_23 : decode cX7_isSafe 23 = .ok (.iconst 1, 1) := by decide +kernel
theorem dX7_isSafe_24 : decode cX7_isSafe 24 = .ok (.goto 4, 3) := by decide +kernel
theorem dX7_isSafe_27 : decode cX7_isSafe 27 = .ok (.iconst 0, 1) := by decide +kernel
theorem dX7_isSafe_28 : decode cX7_isSafe 28 = .ok (.ireturn, 1) := by decide +kernel
theorem dX7_mayGo_0 : decode cX7_mayGo 0 = .ok (.iload_n 1, 1) := by decide +kernel
theorem dX7_mayGo_1 : decode cX7_mayGo 1 = .ok (.iload_n 3, 1) := by decide +kernel
theorem dX7_mayGo_2 : decode cX7_mayGo 2 = .ok (.iadd, 1) := by decide +kernel
theorem dX7_mayGo_3 : decode cX7_mayGo 3 = .ok (.istore 5, 2) := by decide +kernel
theorem dX7_mayGo_5 : decode cX7_mayGo 5 = .ok (.aload_n 0, 1) := by decide +kernel
theorem dX7_mayGo_6 : decode cX7_mayGo 6 = .ok (.iload 5, 2) := by decide +kernel
theorem dX7_mayGo_8 : decode cX7_mayGo 8 = .ok (.iload_n 3, 1) := by decide +kernel
theorem dX7_mayGo_9 : decode cX7_mayGo 9 = .ok (.invokevirtual 99, 3) := by decide +kernel
theorem dX7_mayGo_12 : decode cX7_mayGo 12 = .ok (.ifCond .eq 35, 3) := by decide +kernel
theorem dX7_mayGo_15 : decode cX7_mayGo 15 = .ok (.iload_n 3, 1) := by decide +kernel
theorem dX7_mayGo_16 : decode cX7_mayGo 16 = .ok (.iload_n 2, 1) := by decide +kernel
theorem dX7_mayGo_17 : decode cX7_mayGo 17 = .ok (.isub, 1) := by decide +kernel
theorem dX7_mayGo_18 : decode cX7_mayGo 18 = .ok (.invokestatic 93, 3) := by decide +kernel
theorem dX7_mayGo_21 : decode cX7_mayGo 21 = .ok (.aload_n 0, 1) := by decide +kernel
theorem dX7_mayGo_22 : decode cX7_mayGo 22 = .ok (.getfield 16, 3) := by decide +kernel
theorem dX7_mayGo_25 : decode cX7_mayGo 25 = .ok (.if_icmp .gt 22, 3) := by decide +kernel
theorem dX7_mayGo_28 : decode cX7_mayGo 28 = .ok (.iload_n 3, 1) := by decide +kernel
theorem dX7_mayGo_29 : decode cX7_mayGo 29 = .ok (.ifCond .ne 20, 3) := by decide +kernel
theorem dX7_mayGo_32 : decode cX7_mayGo 32 = .ok (.iload 5, 2) := by decide +kernel
theorem dX7_mayGo_34 : decode cX7_mayGo 34 = .ok (.ifCond .le 15, 3) := by decide +kernel
theorem dX7_mayGo_37 : decode cX7_mayGo 37 = .ok (.aload_n 0, 1) := by decide +kernel
theorem dX7_mayGo_38 : decode cX7_mayGo 38 = .ok (.getfield 19, 3) := by decide +kernel
theorem dX7_mayGo_41 : decode cX7_mayGo 41 = .ok (.iload 5, 2) := by decide +kernel
theorem dX7_mayGo_43 : decode cX7_mayGo 43 = .ok (.baload, 1) := by decide +kernel
theorem dX7_mayGo_44 : decode cX7_mayGo 44 = .ok (.ifCond .eq 5, 3) := by decide +kernel
theorem dX7_mayGo_47 : decode cX7_mayGo 47 = .ok (.iconst 0, 1) := by decide +kernel
theorem dX7_mayGo_48 : decode cX7_mayGo 48 = .ok (.ireturn, 1) := by decide +kernel
theorem dX7_mayGo_49 : decode cX7_mayGo 49 = .ok (.iload 4, 2) := by decide +kernel
theorem dX7_mayGo_51 : decode cX7_mayGo 51 = .ok (.ifCond .eq 13, 3) := by decide +kernel
theorem dX7_mayGo_54 : decode cX7_mayGo 54 = .ok (.aload_n 0, 1) := by decide +kernel
theorem dX7_mayGo_55 : decode cX7_mayGo 55 = .ok (.iload 5, 2) := by decide +kernel
theorem dX7_mayGo_57 : decode cX7_mayGo 57 = .ok (.iload_n 3, 1) := by decide +kernel
theorem dX7_mayGo_58 : decode cX7_mayGo 58 = .ok (.invokevirtual 102, 3) := by decide +kernel
theorem dX7_mayGo_61 : decode cX7_mayGo 61 = .ok (.ifCond .eq 7, 3) := by decide +kernel
theorem dX7_mayGo_64 : decode cX7_mayGo 64 = .ok (.iconst 1, 1) := by decide +kernel
theorem dX7_mayGo_65 : decode cX7_mayGo 65 = .ok (.goto 4, 3) := by decide +kernel
theorem dX7_mayGo_68 : decode cX7_mayGo 68 = .ok (.iconst 0, 1) := by decide +kernel
theorem dX7_mayGo_69 : decode cX7_mayGo 69 = .ok (.ireturn, 1) := by decide +kernel
theorem dX7_isRest_0 : decode cX7_isRest 0 = .ok (.iload_n 1, 1) := by decide +kernel
theorem dX7_isRest_1 : decode cX7_isRest 1 = .ok (.ifCond .ne 18, 3) := by decide +kernel
theorem dX7_isRest_4 : decode cX7_isRest 4 = .ok (.iload_n 2, 1) := by decide +kernel
theorem dX7_isRest_5 : decode cX7_isRest 5 = .ok (.invokestatic 93, 3) := by decide +kernel
theorem dX7_isRest_8 : decode cX7_isRest 8 = .ok (.aload_n 0, 1) := by decide +kernel
theorem dX7_isRest_9 : decode cX7_isRest 9 = .ok (.getfield 16, 3) := by decide +kernel
theorem dX7_isRest_12 : decode cX7_isRest 12 = .ok (.if_icmp .gt 7, 3) := by decide +kernel
theorem dX7_isRest_15 : decode cX7_isRest 15 = .ok (.iconst 1, 1) := by decide +kernel
theorem dX7_isRest_16 : decode cX7_isRest 16 = .ok (.goto 4, 3) := by decide +kernel
theorem dX7_isRest_19 : decode cX7_isRest 19 = .ok (.iconst 0, 1) := by decide +kernel
theorem dX7_isRest_20 : decode cX7_isRest 20 = .ok (.ireturn, 1) := by decide +kernel
theorem dX7_index_0 : decode cX7_index 0 = .ok (.iload_n 0, 1) := by decide +kernel
theorem dX7_index_1 : decode cX7_index 1 = .ok (.bipush 9, 2) := by decide +kernel
theorem dX7_index_3 : decode cX7_index 3 = .ok (.imul, 1) := by decide +kernel
theorem dX7_index_4 : decode cX7_index 4 = .ok (.iload_n 1, 1) := by decide +kernel
theorem dX7_index_5 : decode cX7_index 5 = .ok (.iadd, 1) := by decide +kernel
theorem dX7_index_6 : decode cX7_index 6 = .ok (.iconst 4, 1) := by decide +kernel
theorem dX7_index_7 : decode cX7_index 7 = .ok (.iadd, 1) := by decide +kernel
theorem dX7_index_8 : decode cX7_index 8 = .ok (.sipush 201, 3) := by decide +kernel
theorem dX7_index_11 : decode cX7_index 11 = .ok (.imul, 1) := by decide +kernel
theorem dX7_index_12 : decode cX7_index 12 = .ok (.iload_n 2, 1) := by decide +kernel
theorem dX7_index_13 : decode cX7_index 13 = .ok (.iadd, 1) := by decide +kernel
theorem dX7_index_14 : decode cX7_index 14 = .ok (.ireturn, 1) := by decide +kernel
theorem dX7_spread_0 : decode cX7_spread 0 = .ok (.iconst 0, 1) := by decide +kernel
theorem dX7_spread_1 : decode cX7_spread 1 = .ok (.istore_n 1, 1) := by decide +kernel
theorem dX7_spread_2 : decode cX7_spread 2 = .ok (.iload_n 1, 1) := by decide +kernel
theorem dX7_spread_3 : decode cX7_spread 3 = .ok (.aload_n 0, 1) := by decide +kernel
theorem dX7_spread_4 : decode cX7_spread 4 = .ok (.getfield 27, 3) := by decide +kernel
theorem dX7_spread_7 : decode cX7_spread 7 = .ok (.arraylength, 1) := by decide +kernel
theorem dX7_spread_8 : decode cX7_spread 8 = .ok (.if_icmp .ge 17, 3) := by decide +kernel
theorem dX7_spread_11 : decode cX7_spread 11 = .ok (.aload_n 0, 1) := by decide +kernel
theorem dX7_spread_12 : decode cX7_spread 12 = .ok (.getfield 27, 3) := by decide +kernel
theorem dX7_spread_15 : decode cX7_spread 15 = .ok (.iload_n 1, 1) := by decide +kernel
theorem dX7_spread_16 : decode cX7_spread 16 = .ok (.ldc 105, 2) := by decide +kernel
theorem dX7_spread_18 : decode cX7_spread 18 = .ok (.iastore, 1) := by decide +kernel
theorem dX7_spread_19 : decode cX7_spread 19 = .ok (.iinc 1 1, 3) := by decide +kernel
theorem dX7_spread_22 : decode cX7_spread 22 = .ok (.goto (-20), 3) := by decide +kernel
theorem dX7_spread_25 : decode cX7_spread 25 = .ok (.iconst 0, 1) := by decide +kernel
theorem dX7_spread_26 : decode cX7_spread 26 = .ok (.istore_n 1, 1) := by decide +kernel
theorem dX7_spread_27 : decode cX7_spread 27 = .ok (.aload_n 0, 1) := by decide +kernel
theorem dX7_spread_28 : decode cX7_spread 28 = .ok (.getfield 13, 3) := by decide +kernel
theorem dX7_spread_31 : decode cX7_spread 31 = .ok (.ineg, 1) := by decide +kernel
theorem dX7_spread_32 : decode cX7_spread 32 = .ok (.istore_n 2, 1) := by decide +kernel
theorem dX7_spread_33 : decode cX7_spread 33 = .ok (.iload_n 2, 1) := by decide +kernel
theorem dX7_spread_34 : decode cX7_spread 34 = .ok (.aload_n 0, 1) := by decide +kernel
theorem dX7_spread_35 : decode cX7_spread 35 = .ok (.getfield 13, 3) := by decide +kernel
theorem dX7_spread_38 : decode cX7_spread 38 = .ok (.if_icmp .gt 48, 3) := by decide +kernel
theorem dX7_spread_41 : decode cX7_spread 41 = .ok (.aload_n 0, 1) := by decide +kernel
theorem dX7_spread_42 : decode cX7_spread 42 = .ok (.iconst 0, 1) := by decide +kernel
theorem dX7_spread_43 : decode cX7_spread 43 = .ok (.iload_n 2, 1) := by decide +kernel
theorem dX7_spread_44 : decode cX7_spread 44 = .ok (.invokevirtual 106, 3) := by decide +kernel
theorem dX7_spread_47 : decode cX7_spread 47 = .ok (.ifCond .ne 6, 3) := by decide +kernel
theorem dX7_spread_50 : decode cX7_spread 50 = .ok (.goto 30, 3) := by decide +kernel
theorem dX7_spread_53 : decode cX7_spread 53 = .ok (.aload_n 0, 1) := by decide +kernel
theorem dX7_spread_54 : decode cX7_spread 54 = .ok (.getfield 27, 3) := by decide +kernel
theorem dX7_spread_57 : decode cX7_spread 57 = .ok (.iconst 0, 1) := by decide +kernel
theorem dX7_spread_58 : decode cX7_spread 58 = .ok (.iload_n 2, 1) := by decide +kernel
theorem dX7_spread_59 : decode cX7_spread 59 = .ok (.iconst 0, 1) := by decide +kernel
theorem dX7_spread_60 : decode cX7_spread 60 = .ok (.invokestatic 109, 3) := by decide +kernel
theorem dX7_spread_63 : decode cX7_spread 63 = .ok (.iconst 0, 1) := by decide +kernel
theorem dX7_spread_64 : decode cX7_spread 64 = .ok (.iastore, 1) := by decide +kernel
theorem dX7_spread_65 : decode cX7_spread 65 = .ok (.aload_n 0, 1) := by decide +kernel
theorem dX7_spread_66 : decode cX7_spread 66 = .ok (.getfield 30, 3) := by decide +kernel
theorem dX7_spread_69 : decode cX7_spread 69 = .ok (.iload_n 1, 1) := by decide +kernel
theorem dX7_spread_70 : decode cX7_spread 70 = .ok (.iconst 0, 1) := by decide +kernel
theorem dX7_spread_71 : decode cX7_spread 71 = .ok (.iload_n 2, 1) := by decide +kernel
theorem dX7_spread_72 : decode cX7_spread 72 = .ok (.iconst 0, 1) := by decide +kernel
theorem dX7_spread_73 : decode cX7_spread 73 = .ok (.invokestatic 109, 3) := by decide +kernel
theorem dX7_spread_76 : decode cX7_spread 76 = .ok (.iastore, 1) := by decide +kernel
theorem dX7_spread_77 : decode cX7_spread 77 = .ok (.iinc 1 1, 3) := by decide +kernel
theorem dX7_spread_80 : decode cX7_spread 80 = .ok (.iinc 2 1, 3) := by decide +kernel
theorem dX7_spread_83 : decode cX7_spread 83 = .ok (.goto (-50), 3) := by decide +kernel
theorem dX7_spread_86 : decode cX7_spread 86 = .ok (.iconst 0, 1) := by decide +kernel
theorem dX7_spread_87 : decode cX7_spread 87 = .ok (.istore_n 2, 1) := by decide +kernel
theorem dX7_spread_88 : decode cX7_spread 88 = .ok (.iload_n 2, 1) := by decide +kernel
theorem dX7_spread_89 : decode cX7_spread 89 = .ok (.iload_n 1, 1) := by decide +kernel
theorem dX7_spread_90 : decode cX7_spread 90 = .ok (.if_icmp .ge 184, 3) := by decide +kernel
theorem dX7_spread_93 : decode cX7_spread 93 = .ok (.aload_n 0, 1) := by decide +kernel
theorem dX7_spread_94 : decode cX7_spread 94 = .ok (.getfield 30, 3) := by decide +kernel
theorem dX7_spread_97 : decode cX7_spread 97 = .ok (.iload_n 2, 1) := by decide +kernel
theorem dX7_spread_98 : decode cX7_spread 98 = .ok (.iaload, 1) := by decide +kernel
theorem dX7_spread_99 : decode cX7_spread 99 = .ok (.sipush 201, 3) := by decide +kernel
theorem dX7_spread_102 : decode cX7_spread 102 = .ok (.irem, 1) := by decide +kernel
theorem dX7_spread_103 : decode cX7_spread 103 = .ok (.istore_n 3, 1) := by decide +kernel
theorem dX7_spread_104 : decode cX7_spread 104 = .ok (.aload_n 0, 1) := by decide +kernel
theorem dX7_spread_105 : decode cX7_spread 105 = .ok (.getfield 30, 3) := by decide +kernel
theorem dX7_spread_108 : decode cX7_spread 108 = .ok (.iload_n 2, 1) := by decide +kernel
theorem dX7_spread_109 : decode cX7_spread 109 = .ok (.iaload, 1) := by decide +kernel
theorem dX7_spread_110 : decode cX7_spread 110 = .ok (.sipush 201, 3) := by decide +kernel
theorem dX7_spread_113 : decode cX7_spread 113 = .ok (.idiv, 1) := by decide +kernel
theorem dX7_spread_114 : decode cX7_spread 114 = .ok (.bipush 9, 2) := by decide +kernel
theorem dX7_spread_116 : decode cX7_spread 116 = .ok (.idiv, 1) := by decide +kernel
theorem dX7_spread_117 : decode cX7_spread 117 = .ok (.istore 4, 2) := by decide +kernel
theorem dX7_spread_119 : decode cX7_spread 119 = .ok (.aload_n 0, 1) := by decide +kernel
theorem dX7_spread_120 : decode cX7_spread 120 = .ok (.getfield 30, 3) := by decide +kernel
theorem dX7_spread_123 : decode cX7_spread 123 = .ok (.iload_n 2, 1) := by decide +kernel
theorem dX7_spread_124 : decode cX7_spread 124 = .ok (.iaload, 1) := by decide +kernel
theorem dX7_spread_125 : decode cX7_spread 125 = .ok (.sipush 201, 3) := by decide +kernel
theorem dX7_spread_128 : decode cX7_spread 128 = .ok (.idiv, 1) := by decide +kernel
theorem dX7_spread_129 : decode cX7_spread 129 = .ok (.bipush 9, 2) := by decide +kernel
theorem dX7_spread_131 : decode cX7_spread 131 = .ok (.irem, 1) := by decide +kernel
theorem dX7_spread_132 : decode cX7_spread 132 = .ok (.iconst 4, 1) := by decide +kernel
theorem dX7_spread_133 : decode cX7_spread 133 = .ok (.isub, 1) := by decide +kernel
theorem dX7_spread_134 : decode cX7_spread 134 = .ok (.istore 5, 2) := by decide +kernel
theorem dX7_spread_136 : decode cX7_spread 136 = .ok (.iload 4, 2) := by decide +kernel
theorem dX7_spread_138 : decode cX7_spread 138 = .ok (.iload 5, 2) := by decide +kernel
theorem dX7_spread_140 : decode cX7_spread 140 = .ok (.isub, 1) := by decide +kernel
theorem dX7_spread_141 : decode cX7_spread 141 = .ok (.istore 6, 2) := by decide +kernel
theorem dX7_spread_143 : decode cX7_spread 143 = .ok (.iload_n 3, 1) := by decide +kernel
theorem dX7_spread_144 : decode cX7_spread 144 = .ok (.iload 4, 2) := by decide +kernel
theorem dX7_spread_146 : decode cX7_spread 146 = .ok (.iadd, 1) := by decide +kernel
theorem dX7_spread_147 : decode cX7_spread 147 = .ok (.sipush 200, 3) := by decide +kernel
theorem dX7_spread_150 : decode cX7_spread 150 = .ok (.if_icmp .gt 118, 3) := by decide +kernel
theorem dX7_spread_153 : decode cX7_spread 153 = .ok (.iload 6, 2) := by decide +kernel
theorem dX7_spread_155 : decode cX7_spread 155 = .ok (.ifCond .lt 113, 3) := by decide +kernel
theorem dX7_spread_158 : decode cX7_spread 158 = .ok (.iload 6, 2) := by decide +kernel
theorem dX7_spread_160 : decode cX7_spread 160 = .ok (.aload_n 0, 1) := by decide +kernel
theorem dX7_spread_161 : decode cX7_spread 161 = .ok (.getfield 7, 3) := by decide +kernel
theorem dX7_spread_164 : decode cX7_spread 164 = .ok (.if_icmp .le 6, 3) := by decide +kernel
theorem dX7_spread_167 : decode cX7_spread 167 = .ok (.goto 101, 3) := by decide +kernel
theorem dX7_spread_170 : decode cX7_spread 170 = .ok (.aload_n 0, 1) := by decide +kernel
theorem dX7_spread_171 : decode cX7_spread 171 = .ok (.getfield 13, 3) := by decide +kernel
theorem dX7_spread_174 : decode cX7_spread 174 = .ok (.ineg, 1) := by decide +kernel
theorem dX7_spread_175 : decode cX7_spread 175 = .ok (.istore 7, 2) := by decide +kernel
theorem dX7_spread_177 : decode cX7_spread 177 = .ok (.iload 7, 2) := by decide +kernel
theorem dX7_spread_179 : decode cX7_spread 179 = .ok (.aload_n 0, 1) := by decide +kernel
theorem dX7_spread_180 : decode cX7_spread 180 = .ok (.getfield 13, 3) := by decide +kernel
theorem dX7_spread_183 : decode cX7_spread 183 = .ok (.if_icmp .gt 85, 3) := by decide +kernel
theorem dX7_spread_186 : decode cX7_spread 186 = .ok (.iload 6, 2) := by decide +kernel
theorem dX7_spread_188 : decode cX7_spread 188 = .ok (.iload 7, 2) := by decide +kernel
theorem dX7_spread_190 : decode cX7_spread 190 = .ok (.iload_n 3, 1) := by decide +kernel
theorem dX7_spread_191 : decode cX7_spread 191 = .ok (.iload 4, 2) := by decide +kernel
theorem dX7_spread_193 : decode cX7_spread 193 = .ok (.iadd, 1) := by decide +kernel
theorem dX7_spread_194 : decode cX7_spread 194 = .ok (.invokestatic 109, 3) := by decide +kernel
theorem dX7_spread_197 : decode cX7_spread 197 = .ok (.istore 8, 2) := by decide +kernel
theorem dX7_spread_199 : decode cX7_spread 199 = .ok (.aload_n 0, 1) := by decide +kernel
theorem dX7_spread_200 : decode cX7_spread 200 = .ok (.getfield 27, 3) := by decide +kernel
theorem dX7_spread_203 : decode cX7_spread 203 = .ok (.iload 8, 2) := by decide +kernel
theorem dX7_spread_205 : decode cX7_spread 205 = .ok (.iaload, 1) := by decide +kernel
theorem dX7_spread_206 : decode cX7_spread 206 = .ok (.ldc 105, 2) := by decide +kernel
theorem dX7_spread_208 : decode cX7_spread 208 = .ok (.if_icmp .ne 54, 3) := by decide +kernel
theorem dX7_spread_211 : decode cX7_spread 211 = .ok (.aload_n 0, 1) := by decide +kernel
theorem dX7_spread_212 : decode cX7_spread 212 = .ok (.iload 6, 2) := by decide +kernel
theorem dX7_spread_214 : decode cX7_spread 214 = .ok (.iload 7, 2) := by decide +kernel
theorem dX7_spread_216 : decode cX7_spread 216 = .ok (.iload 5, 2) := by decide +kernel
theorem dX7_spread_218 : decode cX7_spread 218 = .ok (.aload_n 0, 1) := by decide +kernel
theorem dX7_spread_219 : decode cX7_spread 219 = .ok (.getfield 90, 3) := by decide +kernel
theorem dX7_spread_222 : decode cX7_spread 222 = .ok (.invokevirtual 113, 3) := by decide +kernel
theorem dX7_spread_225 : decode cX7_spread 225 = .ok (.ifCond .ne 6, 3) := by decide +kernel
theorem dX7_spread_228 : decode cX7_spread 228 = .ok (.goto 34, 3) := by decide +kernel
theorem dX7_spread_231 : decode cX7_spread 231 = .ok (.aload_n 0, 1) := by decide +kernel
theorem dX7_spread_232 : decode cX7_spread 232 = .ok (.getfield 27, 3) := by decide +kernel
theorem dX7_spread_235 : decode cX7_spread 235 = .ok (.iload 8, 2) := by decide +kernel
theorem dX7_spread_237 : decode cX7_spread 237 = .ok (.aload_n 0, 1) := by decide +kernel
theorem dX7_spread_238 : decode cX7_spread 238 = .ok (.getfield 27, 3) := by decide +kernel
theorem dX7_spread_241 : decode cX7_spread 241 = .ok (.aload_n 0, 1) := by decide +kernel
theorem dX7_spread_242 : decode cX7_spread 242 = .ok (.getfield 30, 3) := by decide +kernel
theorem dX7_spread_245 : decode cX7_spread 245 = .ok (.iload_n 2, 1) := by decide +kernel
theorem dX7_spread_246 : decode cX7_spread 246 = .ok (.iaload, 1) := by decide +kernel
theorem dX7_spread_247 : decode cX7_spread 247 = .ok (.iaload, 1) := by decide +kernel
theorem dX7_spread_248 : decode cX7_spread 248 = .ok (.iconst 1, 1) := by decide +kernel
theorem dX7_spread_249 : decode cX7_spread 249 = .ok (.iadd, 1) := by decide +kernel
theorem dX7_spread_250 : decode cX7_spread 250 = .ok (.iastore, 1) := by decide +kernel
theorem dX7_spread_251 : decode cX7_spread 251 = .ok (.aload_n 0, 1) := by decide +kernel
theorem dX7_spread_252 : decode cX7_spread 252 = .ok (.getfield 30, 3) := by decide +kernel
theorem dX7_spread_255 : decode cX7_spread 255 = .ok (.iload_n 1, 1) := by decide +kernel
theorem dX7_spread_256 : decode cX7_spread 256 = .ok (.iload 8, 2) := by decide +kernel
theorem dX7_spread_258 : decode cX7_spread 258 = .ok (.iastore, 1) := by decide +kernel
theorem dX7_spread_259 : decode cX7_spread 259 = .ok (.iinc 1 1, 3) := by decide +kernel
theorem dX7_spread_262 : decode cX7_spread 262 = .ok (.iinc 7 1, 3) := by decide +kernel
theorem dX7_spread_265 : decode cX7_spread 265 = .ok (.goto (-88), 3) := by decide +kernel
theorem dX7_spread_268 : decode cX7_spread 268 = .ok (.iinc 2 1, 3) := by decide +kernel
theorem dX7_spread_271 : decode cX7_spread 271 = .ok (.goto (-183), 3) := by decide +kernel
theorem dX7_spread_274 : decode cX7_spread 274 = .ok (.return_, 1) := by decide +kernel
theorem dX7_ramps_0 : decode cX7_ramps 0 = .ok (.aload_n 0, 1) := by decide +kernel
theorem dX7_ramps_1 : decode cX7_ramps 1 = .ok (.invokevirtual 117, 3) := by decide +kernel
theorem dX7_ramps_4 : decode cX7_ramps 4 = .ok (.aload_n 0, 1) := by decide +kernel
theorem dX7_ramps_5 : decode cX7_ramps 5 = .ok (.iconst 0, 1) := by decide +kernel
theorem dX7_ramps_6 : decode cX7_ramps 6 = .ok (.putfield 120, 3) := by decide +kernel
theorem dX7_ramps_9 : decode cX7_ramps 9 = .ok (.iload_n 1, 1) := by decide +kernel
theorem dX7_ramps_10 : decode cX7_ramps 10 = .ok (.ifCond .ne 5, 3) := by decide +kernel
theorem dX7_ramps_13 : decode cX7_ramps 13 = .ok (.iconst 1, 1) := by decide +kernel
theorem dX7_ramps_14 : decode cX7_ramps 14 = .ok (.ireturn, 1) := by decide +kernel
theorem dX7_ramps_15 : decode cX7_ramps 15 = .ok (.aload_n 0, 1) := by decide +kernel
theorem dX7_ramps_16 : decode cX7_ramps 16 = .ok (.getfield 27, 3) := by decide +kernel
theorem dX7_ramps_19 : decode cX7_ramps 19 = .ok (.iconst 0, 1) := by decide +kernel
theorem dX7_ramps_20 : decode cX7_ramps 20 = .ok (.iconst 0, 1) := by decide +kernel
theorem dX7_ramps_21 : decode cX7_ramps 21 = .ok (.iload_n 1, 1) := by decide +kernel
theorem dX7_ramps_22 : decode cX7_ramps 22 = .ok (.invokestatic 109, 3) := by decide +kernel
theorem dX7_ramps_25 : decode cX7_ramps 25 = .ok (.iaload, 1) := by decide +kernel
theorem dX7_ramps_26 : decode cX7_ramps 26 = .ok (.ldc 105, 2) := by decide +kernel
theorem dX7_ramps_28 : decode cX7_ramps 28 = .ok (.if_icmp .ne 5, 3) := by decide +kernel
theorem dX7_ramps_31 : decode cX7_ramps 31 = .ok (.iconst 0, 1) := by decide +kernel
theorem dX7_ramps_32 : decode cX7_ramps 32 = .ok (.ireturn, 1) := by decide +kernel
theorem dX7_ramps_33 : decode cX7_ramps 33 = .ok (.iconst 0, 1) := by decide +kernel
theorem dX7_ramps_34 : decode cX7_ramps 34 = .ok (.istore_n 2, 1) := by decide +kernel
theorem dX7_ramps_35 : decode cX7_ramps 35 = .ok (.iconst 0, 1) := by decide +kernel
theorem dX7_ramps_36 : decode cX7_ramps 36 = .ok (.istore_n 3, 1) := by decide +kernel
theorem dX7_ramps_37 : decode cX7_ramps 37 = .ok (.iload_n 1, 1) := by decide +kernel
theorem dX7_ramps_38 : decode cX7_ramps 38 = .ok (.istore 4, 2) := by decide +kernel
theorem dX7_ramps_40 : decode cX7_ramps 40 = .ok (.aload_n 0, 1) := by decide +kernel
theorem dX7_ramps_41 : decode cX7_ramps 41 = .ok (.getfield 27, 3) := by decide +kernel
theorem dX7_ramps_44 : decode cX7_ramps 44 = .ok (.iload_n 2, 1) := by decide +kernel
theorem dX7_ramps_45 : decode cX7_ramps 45 = .ok (.iload_n 3, 1) := by decide +kernel
theorem dX7_ramps_46 : decode cX7_ramps 46 = .ok (.iload 4, 2) := by decide +kernel
theorem dX7_ramps_48 : decode cX7_ramps 48 = .ok (.invokestatic 109, 3) := by decide +kernel
theorem dX7_ramps_51 : decode cX7_ramps 51 = .ok (.iaload, 1) := by decide +kernel
theorem dX7_ramps_52 : decode cX7_ramps 52 = .ok (.ifCond .le 115, 3) := by decide +kernel
theorem dX7_ramps_55 : decode cX7_ramps 55 = .ok (.aload_n 0, 1) := by decide +kernel
theorem dX7_ramps_56 : decode cX7_ramps 56 = .ok (.getfield 13, 3) := by decide +kernel
theorem dX7_ramps_59 : decode cX7_ramps 59 = .ok (.istore 5, 2) := by decide +kernel
theorem dX7_ramps_61 : decode cX7_ramps 61 = .ok (.aload_n 0, 1) := by decide +kernel
theorem dX7_ramps_62 : decode cX7_ramps 62 = .ok (.iload_n 2, 1) := by decide +kernel
theorem dX7_ramps_63 : decode cX7_ramps 63 = .ok (.iload_n 3, 1) := by decide +kernel
theorem dX7_ramps_64 : decode cX7_ramps 64 = .ok (.iload 5, 2) := by decide +kernel
theorem dX7_ramps_66 : decode cX7_ramps 66 = .ok (.aload_n 0, 1) := by decide +kernel
theorem dX7_ramps_67 : decode cX7_ramps 67 = .ok (.getfield 90, 3) := by decide +kernel
theorem dX7_ramps_70 : decode cX7_ramps 70 = .ok (.invokevirtual 113, 3) := by decide +kernel
theorem dX7_ramps_73 : decode cX7_ramps 73 = .ok (.ifCond .eq 50, 3) := by decide +kernel
theorem dX7_ramps_76 : decode cX7_ramps 76 = .ok (.iload_n 2, 1) := by decide +kernel
theorem dX7_ramps_77 : decode cX7_ramps 77 = .ok (.iload 5, 2) := by decide +kernel
theorem dX7_ramps_79 : decode cX7_ramps 79 = .ok (.iadd, 1) := by decide +kernel
theorem dX7_ramps_80 : decode cX7_ramps 80 = .ok (.iload 4, 2) := by decide +kernel
theorem dX7_ramps_82 : decode cX7_ramps 82 = .ok (.if_icmp .gt 41, 3) := by decide +kernel
theorem dX7_ramps_85 : decode cX7_ramps 85 = .ok (.aload_n 0, 1) := by decide +kernel
theorem dX7_ramps_86 : decode cX7_ramps 86 = .ok (.getfield 27, 3) := by decide +kernel
theorem dX7_ramps_89 : decode cX7_ramps 89 = .ok (.iload_n 2, 1) := by decide +kernel
theorem dX7_ramps_90 : decode cX7_ramps 90 = .ok (.iload 5, 2) := by decide +kernel
theorem dX7_ramps_92 : decode cX7_ramps 92 = .ok (.iadd, 1) := by decide +kernel
theorem dX7_ramps_93 : decode cX7_ramps 93 = .ok (.iload 5, 2) := by decide +kernel
theorem dX7_ramps_95 : decode cX7_ramps 95 = .ok (.iload 4, 2) := by decide +kernel
theorem dX7_ramps_97 : decode cX7_ramps 97 = .ok (.iload_n 2, 1) := by decide +kernel
theorem dX7_ramps_98 : decode cX7_ramps 98 = .ok (.isub, 1) := by decide +kernel
theorem dX7_ramps_99 : decode cX7_ramps 99 = .ok (.iload 5, 2) := by decide +kernel
theorem dX7_ramps_101 : decode cX7_ramps 101 = .ok (.isub, 1) := by decide +kernel
theorem dX7_ramps_102 : decode cX7_ramps 102 = .ok (.invokestatic 109, 3) := by decide +kernel
theorem dX7_ramps_105 : decode cX7_ramps 105 = .ok (.iaload, 1) := by decide +kernel
theorem dX7_ramps_106 : decode cX7_ramps 106 = .ok (.aload_n 0, 1) := by decide +kernel
theorem dX7_ramps_107 : decode cX7_ramps 107 = .ok (.getfield 27, 3) := by decide +kernel
theorem dX7_ramps_110 : decode cX7_ramps 110 = .ok (.iload_n 2, 1) := by decide +kernel
theorem dX7_ramps_111 : decode cX7_ramps 111 = .ok (.iload_n 3, 1) := by decide +kernel
theorem dX7_ramps_112 : decode cX7_ramps 112 = .ok (.iload 4, 2) := by decide +kernel
theorem dX7_ramps_114 : decode cX7_ramps 114 = .ok (.invokestatic 109, 3) := by decide +kernel
theorem dX7_ramps_117 : decode cX7_ramps 117 = .ok (.iaload, 1) := by decide +kernel
theorem dX7_ramps_118 : decode cX7_ramps 118 = .ok (.iconst 1, 1) := by decide +kernel
theorem dX7_ramps_119 : decode cX7_ramps 119 = .ok (.isub, 1) := by decide +kernel
theorem dX7_ramps_120 : decode cX7_ramps 120 = .ok (.if_icmp .eq 9, 3) := by decide +kernel
theorem dX7_ramps_123 : decode cX7_ramps 123 = .ok (.iinc 5 (-1), 3) := by decide +kernel
theorem dX7_ramps_126 : decode cX7_ramps 126 = .ok (.goto (-65), 3) := by decide +kernel
theorem dX7_ramps_129 : decode cX7_ramps 129 = .ok (.aload_n 0, 1) := by decide +kernel
theorem dX7_ramps_130 : decode cX7_ramps 130 = .ok (.getfield 33, 3) := by decide +kernel
theorem dX7_ramps_133 : decode cX7_ramps 133 = .ok (.aload_n 0, 1) := by decide +kernel
theorem dX7_ramps_134 : decode cX7_ramps 134 = .ok (.getfield 120, 3) := by decide +kernel
theorem dX7_ramps_137 : decode cX7_ramps 137 = .ok (.iload 5, 2) := by decide +kernel
theorem dX7_ramps_139 : decode cX7_ramps 139 = .ok (.iastore, 1) := by decide +kernel
theorem dX7_ramps_140 : decode cX7_ramps 140 = .ok (.aload_n 0, 1) := by decide +kernel
theorem dX7_ramps_141 : decode cX7_ramps 141 = .ok (.dup, 1) := by decide +kernel
theorem dX7_ramps_142 : decode cX7_ramps 142 = .ok (.getfield 120, 3) := by decide +kernel
theorem dX7_ramps_145 : decode cX7_ramps 145 = .ok (.iconst 1, 1) := by decide +kernel
theorem dX7_ramps_146 : decode cX7_ramps 146 = .ok (.iadd, 1) := by decide +kernel
theorem dX7_ramps_147 : decode cX7_ramps 147 = .ok (.putfield 120, 3) := by decide +kernel
theorem dX7_ramps_150 : decode cX7_ramps 150 = .ok (.iload_n 2, 1) := by decide +kernel
theorem dX7_ramps_151 : decode cX7_ramps 151 = .ok (.iload 5, 2) := by decide +kernel
theorem dX7_ramps_153 : decode cX7_ramps 153 = .ok (.iadd, 1) := by decide +kernel
theorem dX7_ramps_154 : decode cX7_ramps 154 = .ok (.istore_n 2, 1) := by decide +kernel
theorem dX7_ramps_155 : decode cX7_ramps 155 = .ok (.iload 5, 2) := by decide +kernel
theorem dX7_ramps_157 : decode cX7_ramps 157 = .ok (.istore_n 3, 1) := by decide +kernel
theorem dX7_ramps_158 : decode cX7_ramps 158 = .ok (.iload 4, 2) := by decide +kernel
theorem dX7_ramps_160 : decode cX7_ramps 160 = .ok (.iload_n 2, 1) := by decide +kernel
theorem dX7_ramps_161 : decode cX7_ramps 161 = .ok (.isub, 1) := by decide +kernel
theorem dX7_ramps_162 : decode cX7_ramps 162 = .ok (.istore 4, 2) := by decide +kernel
theorem dX7_ramps_164 : decode cX7_ramps 164 = .ok (.goto (-124), 3) := by decide +kernel
theorem dX7_ramps_167 : decode cX7_ramps 167 = .ok (.iconst 1, 1) := by decide +kernel
theorem dX7_ramps_168 : decode cX7_ramps 168 = .ok (.ireturn, 1) := by decide +kernel
theorem dX7_ramp_0 : decode cX7_ramp 0 = .ok (.aload_n 0, 1) := by decide +kernel
theorem dX7_ramp_1 : decode cX7_ramp 1 = .ok (.iconst 0, 1) := by decide +kernel
theorem dX7_ramp_2 : decode cX7_ramp 2 = .ok (.putfield 73, 3) := by decide +kernel
theorem dX7_ramp_5 : decode cX7_ramp 5 = .ok (.iload_n 1, 1) := by decide +kernel
theorem dX7_ramp_6 : decode cX7_ramp 6 = .ok (.iconst 0, 1) := by decide +kernel
theorem dX7_ramp_7 : decode cX7_ramp 7 = .ok (.sipush 200, 3) := by decide +kernel
theorem dX7_ramp_10 : decode cX7_ramp 10 = .ok (.invokestatic 80, 3) := by decide +kernel
theorem dX7_ramp_13 : decode cX7_ramp 13 = .ok (.ifCond .eq 18, 3) := by decide +kernel
theorem dX7_ramp_16 : decode cX7_ramp 16 = .ok (.aload_n 0, 1) := by decide +kernel
theorem dX7_ramp_17 : decode cX7_ramp 17 = .ok (.iload_n 1, 1) := by decide +kernel
theorem dX7_ramp_18 : decode cX7_ramp 18 = .ok (.invokevirtual 123, 3) := by decide +kernel
theorem dX7_ramp_21 : decode cX7_ramp 21 = .ok (.ifCond .eq 10, 3) := by decide +kernel
theorem dX7_ramp_24 : decode cX7_ramp 24 = .ok (.aload_n 0, 1) := by decide +kernel
theorem dX7_ramp_25 : decode cX7_ramp 25 = .ok (.getfield 120, 3) := by decide +kernel
theorem dX7_ramp_28 : decode cX7_ramp 28 = .ok (.goto 4, 3) := by decide +kernel
theorem dX7_ramp_31 : decode cX7_ramp 31 = .ok (.iconst (-1), 1) := by decide +kernel
theorem dX7_ramp_32 : decode cX7_ramp 32 = .ok (.ireturn, 1) := by decide +kernel
theorem dX7_speed_0 : decode cX7_speed 0 = .ok (.aload_n 0, 1) := by decide +kernel
theorem dX7_speed_1 : decode cX7_speed 1 = .ok (.iconst 0, 1) := by decide +kernel
theorem dX7_speed_2 : decode cX7_speed 2 = .ok (.putfield 73, 3) := by decide +kernel
theorem dX7_speed_5 : decode cX7_speed 5 = .ok (.iload_n 1, 1) := by decide +kernel
theorem dX7_speed_6 : decode cX7_speed 6 = .ok (.iconst 0, 1) := by decide +kernel
theorem dX7_speed_7 : decode cX7_speed 7 = .ok (.sipush 200, 3) := by decide +kernel
theorem dX7_speed_10 : decode cX7_speed 10 = .ok (.invokestatic 80, 3) := by decide +kernel
theorem dX7_speed_13 : decode cX7_speed 13 = .ok (.ifCond .eq 23, 3) := by decide +kernel
theorem dX7_speed_16 : decode cX7_speed 16 = .ok (.aload_n 0, 1) := by decide +kernel
theorem dX7_speed_17 : decode cX7_speed 17 = .ok (.iload_n 1, 1) := by decide +kernel
theorem dX7_speed_18 : decode cX7_speed 18 = .ok (.invokevirtual 123, 3) := by decide +kernel
theorem dX7_speed_21 : decode cX7_speed 21 = .ok (.ifCond .eq 15, 3) := by decide +kernel
theorem dX7_speed_24 : decode cX7_speed 24 = .ok (.iload_n 2, 1) := by decide +kernel
theorem dX7_speed_25 : decode cX7_speed 25 = .ok (.ifCond .lt 11, 3) := by decide +kernel
theorem dX7_speed_28 : decode cX7_speed 28 = .ok (.iload_n 2, 1) := by decide +kernel
theorem dX7_speed_29 : decode cX7_speed 29 = .ok (.aload_n 0, 1) := by decide +kernel
theorem dX7_speed_30 : decode cX7_speed 30 = .ok (.getfield 120, 3) := by decide +kernel
theorem dX7_speed_33 : decode cX7_speed 33 = .ok (.if_icmp .lt 5, 3) := by decide +kernel
theorem dX7_speed_36 : decode cX7_speed 36 = .ok (.iconst (-1), 1) := by decide +kernel
theorem dX7_speed_37 : decode cX7_speed 37 = .ok (.ireturn, 1) := by decide +kernel
theorem dX7_speed_38 : decode cX7_speed 38 = .ok (.iconst 0, 1) := by decide +kernel
theorem dX7_speed_39 : decode cX7_speed 39 = .ok (.istore_n 3, 1) := by decide +kernel
theorem dX7_speed_40 : decode cX7_speed 40 = .ok (.iconst 0, 1) := by decide +kernel
theorem dX7_speed_41 : decode cX7_speed 41 = .ok (.istore 4, 2) := by decide +kernel
theorem dX7_speed_43 : decode cX7_speed 43 = .ok (.iload 4, 2) := by decide +kernel
theorem dX7_speed_45 : decode cX7_speed 45 = .ok (.iload_n 2, 1) := by decide +kernel
theorem dX7_speed_46 : decode cX7_speed 46 = .ok (.if_icmp .gt 19, 3) := by decide +kernel
theorem dX7_speed_49 : decode cX7_speed 49 = .ok (.iload_n 3, 1) := by decide +kernel
theorem dX7_speed_50 : decode cX7_speed 50 = .ok (.aload_n 0, 1) := by decide +kernel
theorem dX7_speed_51 : decode cX7_speed 51 = .ok (.getfield 33, 3) := by decide +kernel
theorem dX7_speed_54 : decode cX7_speed 54 = .ok (.iload 4, 2) := by decide +kernel
theorem dX7_speed_56 : decode cX7_speed 56 = .ok (.iaload, 1) := by decide +kernel
theorem dX7_speed_57 : decode cX7_speed 57 = .ok (.iadd, 1) := by decide +kernel
theorem dX7_speed_58 : decode cX7_speed 58 = .ok (.istore_n 3, 1) := by decide +kernel
theorem dX7_speed_59 : decode cX7_speed 59 = .ok (.iinc 4 1, 3) := by decide +kernel
theorem dX7_speed_62 : decode cX7_speed 62 = .ok (.goto (-19), 3) := by decide +kernel
theorem dX7_speed_65 : decode cX7_speed 65 = .ok (.iload_n 3, 1) := by decide +kernel
theorem dX7_speed_66 : decode cX7_speed 66 = .ok (.ireturn, 1) := by decide +kernel
theorem dX7_of_0 : decode cX7_of 0 = .ok (.iload_n 0, 1) := by decide +kernel
theorem dX7_of_1 : decode cX7_of 1 = .ok (.bipush 9, 2) := by decide +kernel
theorem dX7_of_3 : decode cX7_of 3 = .ok (.imul, 1) := by decide +kernel
theorem dX7_of_4 : decode cX7_of 4 = .ok (.iload_n 1, 1) := by decide +kernel
theorem dX7_of_5 : decode cX7_of 5 = .ok (.iadd, 1) := by decide +kernel
theorem dX7_of_6 : decode cX7_of 6 = .ok (.iconst 4, 1) := by decide +kernel
theorem dX7_of_7 : decode cX7_of 7 = .ok (.iadd, 1) := by decide +kernel
theorem dX7_of_8 : decode cX7_of 8 = .ok (.ireturn, 1) := by decide +kernel
theorem dX7_slows_0 : decode cX7_slows 0 = .ok (.iconst 0, 1) := by decide +kernel
theorem dX7_slows_1 : decode cX7_slows 1 = .ok (.istore_n 2, 1) := by decide +kernel
theorem dX7_slows_2 : decode cX7_slows 2 = .ok (.iload_n 2, 1) := by decide +kernel
theorem dX7_slows_3 : decode cX7_slows 3 = .ok (.bipush 13, 2) := by decide +kernel
theorem dX7_slows_5 : decode cX7_slows 5 = .ok (.if_icmp .ge 80, 3) := by decide +kernel
theorem dX7_slows_8 : decode cX7_slows 8 = .ok (.bipush (-4), 2) := by decide +kernel
theorem dX7_slows_10 : decode cX7_slows 10 = .ok (.istore_n 3, 1) := by decide +kernel
theorem dX7_slows_11 : decode cX7_slows 11 = .ok (.iload_n 3, 1) := by decide +kernel
theorem dX7_slows_12 : decode cX7_slows 12 = .ok (.iconst 4, 1) := by decide +kernel
theorem dX7_slows_13 : decode cX7_slows 13 = .ok (.if_icmp .gt 66, 3) := by decide +kernel
theorem dX7_slows_16 : decode cX7_slows 16 = .ok (.aload_n 0, 1) := by decide +kernel
theorem dX7_slows_17 : decode cX7_slows 17 = .ok (.iload_n 2, 1) := by decide +kernel
theorem dX7_slows_18 : decode cX7_slows 18 = .ok (.iload_n 3, 1) := by decide +kernel
theorem dX7_slows_19 : decode cX7_slows 19 = .ok (.invokevirtual 99, 3) := by decide +kernel
theorem dX7_slows_22 : decode cX7_slows 22 = .ok (.ifCond .eq 16, 3) := by decide +kernel
theorem dX7_slows_25 : decode cX7_slows 25 = .ok (.aload_n 0, 1) := by decide +kernel
theorem dX7_slows_26 : decode cX7_slows 26 = .ok (.iload_n 2, 1) := by decide +kernel
theorem dX7_slows_27 : decode cX7_slows 27 = .ok (.iload_n 3, 1) := by decide +kernel
theorem dX7_slows_28 : decode cX7_slows 28 = .ok (.invokevirtual 106, 3) := by decide +kernel
theorem dX7_slows_31 : decode cX7_slows 31 = .ok (.ifCond .eq 7, 3) := by decide +kernel
theorem dX7_slows_34 : decode cX7_slows 34 = .ok (.iconst 1, 1) := by decide +kernel
theorem dX7_slows_35 : decode cX7_slows 35 = .ok (.goto 4, 3) := by decide +kernel
theorem dX7_slows_38 : decode cX7_slows 38 = .ok (.iconst 0, 1) := by decide +kernel
theorem dX7_slows_39 : decode cX7_slows 39 = .ok (.istore 4, 2) := by decide +kernel
theorem dX7_slows_41 : decode cX7_slows 41 = .ok (.aload_n 0, 1) := by decide +kernel
theorem dX7_slows_42 : decode cX7_slows 42 = .ok (.getfield 36, 3) := by decide +kernel
theorem dX7_slows_45 : decode cX7_slows 45 = .ok (.iload_n 2, 1) := by decide +kernel
theorem dX7_slows_46 : decode cX7_slows 46 = .ok (.iload_n 3, 1) := by decide +kernel
theorem dX7_slows_47 : decode cX7_slows 47 = .ok (.invokestatic 127, 3) := by decide +kernel
theorem dX7_slows_50 : decode cX7_slows 50 = .ok (.iload 4, 2) := by decide +kernel
theorem dX7_slows_52 : decode cX7_slows 52 = .ok (.ifCond .eq 7, 3) := by decide +kernel
theorem dX7_slows_55 : decode cX7_slows 55 = .ok (.iconst 0, 1) := by decide +kernel
theorem dX7_slows_56 : decode cX7_slows 56 = .ok (.goto 5, 3) := by decide +kernel
theorem dX7_slows_59 : decode cX7_slows 59 = .ok (.ldc 105, 2) := by decide +kernel
theorem dX7_slows_61 : decode cX7_slows 61 = .ok (.iastore, 1) := by decide +kernel
theorem dX7_slows_62 : decode cX7_slows 62 = .ok (.aload_n 0, 1) := by decide +kernel
theorem dX7_slows_63 : decode cX7_slows 63 = .ok (.getfield 39, 3) := by decide +kernel
theorem dX7_slows_66 : decode cX7_slows 66 = .ok (.iload_n 2, 1) := by decide +kernel
theorem dX7_slows_67 : decode cX7_slows 67 = .ok (.iload_n 3, 1) := by decide +kernel
theorem dX7_slows_68 : decode cX7_slows 68 = .ok (.invokestatic 127, 3) := by decide +kernel
theorem dX7_slows_71 : decode cX7_slows 71 = .ok (.iconst 0, 1) := by decide +kernel
theorem dX7_slows_72 : decode cX7_slows 72 = .ok (.iastore, 1) := by decide +kernel
theorem dX7_slows_73 : decode cX7_slows 73 = .ok (.iinc 3 1, 3) := by decide +kernel
theorem dX7_slows_76 : decode cX7_slows 76 = .ok (.goto (-65), 3) := by decide +kernel
theorem dX7_slows_79 : decode cX7_slows 79 = .ok (.iinc 2 1, 3) := by decide +kernel
theorem dX7_slows_82 : decode cX7_slows 82 = .ok (.goto (-80), 3) := by decide +kernel
theorem dX7_slows_85 : decode cX7_slows 85 = .ok (.iconst 1, 1) := by decide +kernel
theorem dX7_slows_86 : decode cX7_slows 86 = .ok (.istore_n 2, 1) := by decide +kernel
theorem dX7_slows_87 : decode cX7_slows 87 = .ok (.iload_n 2, 1) := by decide +kernel
theorem dX7_slows_88 : decode cX7_slows 88 = .ok (.ifCond .eq 209, 3) := by decide +kernel
theorem dX7_slows_91 : decode cX7_slows 91 = .ok (.iconst 0, 1) := by decide +kernel
theorem dX7_slows_92 : decode cX7_slows 92 = .ok (.istore_n 2, 1) := by decide +kernel
theorem dX7_slows_93 : decode cX7_slows 93 = .ok (.iconst 0, 1) := by decide +kernel
theorem dX7_slows_94 : decode cX7_slows 94 = .ok (.istore_n 3, 1) := by decide +kernel
theorem dX7_slows_95 : decode cX7_slows 95 = .ok (.iload_n 3, 1) := by decide +kernel
theorem dX7_slows_96 : decode cX7_slows 96 = .ok (.aload_n 0, 1) := by decide +kernel
theorem dX7_slows_97 : decode cX7_slows 97 = .ok (.getfield 7, 3) := by decide +kernel
theorem dX7_slows_100 : decode cX7_slows 100 = .ok (.if_icmp .gt 194, 3) := by decide +kernel
theorem dX7_slows_103 : decode cX7_slows 103 = .ok (.aload_n 0, 1) := by decide +kernel
theorem dX7_slows_104 : decode cX7_slows 104 = .ok (.getfield 13, 3) := by decide +kernel
theorem dX7_slows_107 : decode cX7_slows 107 = .ok (.ineg, 1) := by decide +kernel
theorem dX7_slows_108 : decode cX7_slows 108 = .ok (.istore 4, 2) := by decide +kernel
theorem dX7_slows_110 : decode cX7_slows 110 = .ok (.iload 4, 2) := by decide +kernel
theorem dX7_slows_112 : decode cX7_slows 112 = .ok (.aload_n 0, 1) := by decide +kernel
theorem dX7_slows_113 : decode cX7_slows 113 = .ok (.getfield 13, 3) := by decide +kernel
theorem dX7_slows_116 : decode cX7_slows 116 = .ok (.if_icmp .gt 172, 3) := by decide +kernel
theorem dX7_slows_119 : decode cX7_slows 119 = .ok (.aload_n 0, 1) := by decide +kernel
theorem dX7_slows_120 : decode cX7_slows 120 = .ok (.getfield 13, 3) := by decide +kernel
theorem dX7_slows_123 : decode cX7_slows 123 = .ok (.ineg, 1) := by decide +kernel
theorem dX7_slows_124 : decode cX7_slows 124 = .ok (.istore 5, 2) := by decide +kernel
theorem dX7_slows_126 : decode cX7_slows 126 = .ok (.iload 5, 2) := by decide +kernel
theorem dX7_slows_128 : decode cX7_slows 128 = .ok (.aload_n 0, 1) := by decide +kernel
theorem dX7_slows_129 : decode cX7_slows 129 = .ok (.getfield 13, 3) := by decide +kernel
theorem dX7_slows_132 : decode cX7_slows 132 = .ok (.if_icmp .gt 150, 3) := by decide +kernel
theorem dX7_slows_135 : decode cX7_slows 135 = .ok (.aload_n 0, 1) := by decide +kernel
theorem dX7_slows_136 : decode cX7_slows 136 = .ok (.iload_n 3, 1) := by decide +kernel
theorem dX7_slows_137 : decode cX7_slows 137 = .ok (.iload 4, 2) := by decide +kernel
theorem dX7_slows_139 : decode cX7_slows 139 = .ok (.iload 5, 2) := by decide +kernel
theorem dX7_slows_141 : decode cX7_slows 141 = .ok (.iload_n 1, 1) := by decide +kernel
theorem dX7_slows_142 : decode cX7_slows 142 = .ok (.invokevirtual 113, 3) := by decide +kernel
theorem dX7_slows_145 : decode cX7_slows 145 = .ok (.ifCond .ne 6, 3) := by decide +kernel
theorem dX7_slows_148 : decode cX7_slows 148 = .ok (.goto 128, 3) := by decide +kernel
theorem dX7_slows_151 : decode cX7_slows 151 = .ok (.iconst 1, 1) := by decide +kernel
theorem dX7_slows_152 : decode cX7_slows 152 = .ok (.aload_n 0, 1) := by decide +kernel
theorem dX7_slows_153 : decode cX7_slows 153 = .ok (.getfield 36, 3) := by decide +kernel
theorem dX7_slows_156 : decode cX7_slows 156 = .ok (.iload_n 3, 1) := by decide +kernel
theorem dX7_slows_157 : decode cX7_slows 157 = .ok (.iload 5, 2) := by decide +kernel
theorem dX7_slows_159 : decode cX7_slows 159 = .ok (.iadd, 1) := by decide +kernel
theorem dX7_slows_160 : decode cX7_slows 160 = .ok (.iload 5, 2) := by decide +kernel
theorem dX7_slows_162 : decode cX7_slows 162 = .ok (.invokestatic 127, 3) := by decide +kernel
theorem dX7_slows_165 : decode cX7_slows 165 = .ok (.iaload, 1) := by decide +kernel
theorem dX7_slows_166 : decode cX7_slows 166 = .ok (.iadd, 1) := by decide +kernel
theorem dX7_slows_167 : decode cX7_slows 167 = .ok (.istore 6, 2) := by decide +kernel
theorem dX7_slows_169 : decode cX7_slows 169 = .ok (.iload_n 3, 1) := by decide +kernel
theorem dX7_slows_170 : decode cX7_slows 170 = .ok (.iload 5, 2) := by decide +kernel
theorem dX7_slows_172 : decode cX7_slows 172 = .ok (.iadd, 1) := by decide +kernel
theorem dX7_slows_173 : decode cX7_slows 173 = .ok (.aload_n 0, 1) := by decide +kernel
theorem dX7_slows_174 : decode cX7_slows 174 = .ok (.getfield 39, 3) := by decide +kernel
theorem dX7_slows_177 : decode cX7_slows 177 = .ok (.iload_n 3, 1) := by decide +kernel
theorem dX7_slows_178 : decode cX7_slows 178 = .ok (.iload 5, 2) := by decide +kernel
theorem dX7_slows_180 : decode cX7_slows 180 = .ok (.iadd, 1) := by decide +kernel
theorem dX7_slows_181 : decode cX7_slows 181 = .ok (.iload 5, 2) := by decide +kernel
theorem dX7_slows_183 : decode cX7_slows 183 = .ok (.invokestatic 127, 3) := by decide +kernel
theorem dX7_slows_186 : decode cX7_slows 186 = .ok (.iaload, 1) := by decide +kernel
theorem dX7_slows_187 : decode cX7_slows 187 = .ok (.iadd, 1) := by decide +kernel
theorem dX7_slows_188 : decode cX7_slows 188 = .ok (.istore 7, 2) := by decide +kernel
theorem dX7_slows_190 : decode cX7_slows 190 = .ok (.iload 6, 2) := by decide +kernel
theorem dX7_slows_192 : decode cX7_slows 192 = .ok (.ldc 105, 2) := by decide +kernel
theorem dX7_slows_194 : decode cX7_slows 194 = .ok (.if_icmp .gt 82, 3) := by decide +kernel
theorem dX7_slows_197 : decode cX7_slows 197 = .ok (.iload 6, 2) := by decide +kernel
theorem dX7_slows_199 : decode cX7_slows 199 = .ok (.aload_n 0, 1) := by decide +kernel
theorem dX7_slows_200 : decode cX7_slows 200 = .ok (.getfield 36, 3) := by decide +kernel
theorem dX7_slows_203 : decode cX7_slows 203 = .ok (.iload_n 3, 1) := by decide +kernel
theorem dX7_slows_204 : decode cX7_slows 204 = .ok (.iload 4, 2) := by decide +kernel
theorem dX7_slows_206 : decode cX7_slows 206 = .ok (.invokestatic 127, 3) := by decide +kernel
theorem dX7_slows_209 : decode cX7_slows 209 = .ok (.iaload, 1) := by decide +kernel
theorem dX7_slows_210 : decode cX7_slows 210 = .ok (.if_icmp .gt 66, 3) := by decide +kernel
theorem dX7_slows_213 : decode cX7_slows 213 = .ok (.iload 6, 2) := by decide +kernel
theorem dX7_slows_215 : decode cX7_slows 215 = .ok (.aload_n 0, 1) := by decide +kernel
theorem dX7_slows_216 : decode cX7_slows 216 = .ok (.getfield 36, 3) := by decide +kernel
theorem dX7_slows_219 : decode cX7_slows 219 = .ok (.iload_n 3, 1) := by decide +kernel
theorem dX7_slows_220 : decode cX7_slows 220 = .ok (.iload 4, 2) := by decide +kernel
theorem dX7_slows_222 : decode cX7_slows 222 = .ok (.invokestatic 127, 3) := by decide +kernel
theorem dX7_slows_225 : decode cX7_slows 225 = .ok (.iaload, 1) := by decide +kernel
theorem dX7_slows_226 : decode cX7_slows 226 = .ok (.if_icmp .ne 22, 3) := by decide +kernel
theorem dX7_slows_229 : decode cX7_slows 229 = .ok (.iload 7, 2) := by decide +kernel
theorem dX7_slows_231 : decode cX7_slows 231 = .ok (.aload_n 0, 1) := by decide +kernel
theorem dX7_slows_232 : decode cX7_slows 232 = .ok (.getfield 39, 3) := by decide +kernel
theorem dX7_slows_235 : decode cX7_slows 235 = .ok (.iload_n 3, 1) := by decide +kernel
theorem dX7_slows_236 : decode cX7_slows 236 = .ok (.iload 4, 2) := by decide +kernel
theorem dX7_slows_238 : decode cX7_slows 238 = .ok (.invokestatic 127, 3) := by decide +kernel
theorem dX7_slows_241 : decode cX7_slows 241 = .ok (.iaload, 1) := by decide +kernel
theorem dX7_slows_242 : decode cX7_slows 242 = .ok (.if_icmp .lt 6, 3) := by decide +kernel
theorem dX7_slows_245 : decode cX7_slows 245 = .ok (.goto 31, 3) := by decide +kernel
theorem dX7_slows_248 : decode cX7_slows 248 = .ok (.aload_n 0, 1) := by decide +kernel
theorem dX7_slows_249 : decode cX7_slows 249 = .ok (.getfield 36, 3) := by decide +kernel
theorem dX7_slows_252 : decode cX7_slows 252 = .ok (.iload_n 3, 1) := by decide +kernel
theorem dX7_slows_253 : decode cX7_slows 253 = .ok (.iload 4, 2) := by decide +kernel
theorem dX7_slows_255 : decode cX7_slows 255 = .ok (.invokestatic 127, 3) := by decide +kernel
theorem dX7_slows_258 : decode cX7_slows 258 = .ok (.iload 6, 2) := by decide +kernel
theorem dX7_slows_260 : decode cX7_slows 260 = .ok (.iastore, 1) := by decide +kernel
theorem dX7_slows_261 : decode cX7_slows 261 = .ok (.aload_n 0, 1) := by decide +kernel
theorem dX7_slows_262 : decode cX7_slows 262 = .ok (.getfield 39, 3) := by decide +kernel
theorem dX7_slows_265 : decode cX7_slows 265 = .ok (.iload_n 3, 1) := by decide +kernel
theorem dX7_slows_266 : decode cX7_slows 266 = .ok (.iload 4, 2) := by decide +kernel
theorem dX7_slows_268 : decode cX7_slows 268 = .ok (.invokestatic 127, 3) := by decide +kernel
theorem dX7_slows_271 : decode cX7_slows 271 = .ok (.iload 7, 2) := by decide +kernel
theorem dX7_slows_273 : decode cX7_slows 273 = .ok (.iastore, 1) := by decide +kernel
theorem dX7_slows_274 : decode cX7_slows 274 = .ok (.iconst 1, 1) := by decide +kernel
theorem dX7_slows_275 : decode cX7_slows 275 = .ok (.istore_n 2, 1) := by decide +kernel
theorem dX7_slows_276 : decode cX7_slows 276 = .ok (.iinc 5 1, 3) := by decide +kernel
theorem dX7_slows_279 : decode cX7_slows 279 = .ok (.goto (-153), 3) := by decide +kernel
theorem dX7_slows_282 : decode cX7_slows 282 = .ok (.iinc 4 1, 3) := by decide +kernel
theorem dX7_slows_285 : decode cX7_slows 285 = .ok (.goto (-175), 3) := by decide +kernel
theorem dX7_slows_288 : decode cX7_slows 288 = .ok (.iinc 3 1, 3) := by decide +kernel
theorem dX7_slows_291 : decode cX7_slows 291 = .ok (.goto (-196), 3) := by decide +kernel
theorem dX7_slows_294 : decode cX7_slows 294 = .ok (.goto (-207), 3) := by decide +kernel
theorem dX7_slows_297 : decode cX7_slows 297 = .ok (.return_, 1) := by decide +kernel
theorem dX7_slowsFrom_0 : decode cX7_slowsFrom 0 = .ok (.aload_n 0, 1) := by decide +kernel
theorem dX7_slowsFrom_1 : decode cX7_slowsFrom 1 = .ok (.getfield 90, 3) := by decide +kernel
theorem dX7_slowsFrom_4 : decode cX7_slowsFrom 4 = .ok (.istore_n 3, 1) := by decide +kernel
theorem dX7_slowsFrom_5 : decode cX7_slowsFrom 5 = .ok (.aload_n 0, 1) := by decide +kernel
theorem dX7_slowsFrom_6 : decode cX7_slowsFrom 6 = .ok (.iload_n 3, 1) := by decide +kernel
theorem dX7_slowsFrom_7 : decode cX7_slowsFrom 7 = .ok (.invokevirtual 131, 3) := by decide +kernel
theorem dX7_slowsFrom_10 : decode cX7_slowsFrom 10 = .ok (.iload_n 3, 1) := by decide +kernel
theorem dX7_slowsFrom_11 : decode cX7_slowsFrom 11 = .ok (.ifCond .eq 25, 3) := by decide +kernel
theorem dX7_slowsFrom_14 : decode cX7_slowsFrom 14 = .ok (.aload_n 0, 1) := by decide +kernel
theorem dX7_slowsFrom_15 : decode cX7_slowsFrom 15 = .ok (.getfield 36, 3) := by decide +kernel
theorem dX7_slowsFrom_18 : decode cX7_slowsFrom 18 = .ok (.iload_n 1, 1) := by decide +kernel
theorem dX7_slowsFrom_19 : decode cX7_slowsFrom 19 = .ok (.iload_n 2, 1) := by decide +kernel
theorem dX7_slowsFrom_20 : decode cX7_slowsFrom 20 = .ok (.invokestatic 127, 3) := by decide +kernel
theorem dX7_slowsFrom_23 : decode cX7_slowsFrom 23 = .ok (.iaload, 1) := by decide +kernel
theorem dX7_slowsFrom_24 : decode cX7_slowsFrom 24 = .ok (.ldc 105, 2) := by decide +kernel
theorem dX7_slowsFrom_26 : decode cX7_slowsFrom 26 = .ok (.if_icmp .ne 10, 3) := by decide +kernel
theorem dX7_slowsFrom_29 : decode cX7_slowsFrom 29 = .ok (.iconst 0, 1) := by decide +kernel
theorem dX7_slowsFrom_30 : decode cX7_slowsFrom 30 = .ok (.istore_n 3, 1) := by decide +kernel
theorem dX7_slowsFrom_31 : decode cX7_slowsFrom 31 = .ok (.aload_n 0, 1) := by decide +kernel
theorem dX7_slowsFrom_32 : decode cX7_slowsFrom 32 = .ok (.iconst 0, 1) := by decide +kernel
theorem dX7_slowsFrom_33 : decode cX7_slowsFrom 33 = .ok (.invokevirtual 131, 3) := by decide +kernel
theorem dX7_slowsFrom_36 : decode cX7_slowsFrom 36 = .ok (.aload_n 0, 1) := by decide +kernel
theorem dX7_slowsFrom_37 : decode cX7_slowsFrom 37 = .ok (.iconst 0, 1) := by decide +kernel
theorem dX7_slowsFrom_38 : decode cX7_slowsFrom 38 = .ok (.putfield 120, 3) := by decide +kernel
theorem dX7_slowsFrom_41 : decode cX7_slowsFrom 41 = .ok (.aload_n 0, 1) := by decide +kernel
theorem dX7_slowsFrom_42 : decode cX7_slowsFrom 42 = .ok (.getfield 36, 3) := by decide +kernel
theorem dX7_slowsFrom_45 : decode cX7_slowsFrom 45 = .ok (.iload_n 1, 1) := by decide +kernel
theorem dX7_slowsFrom_46 : decode cX7_slowsFrom 46 = .ok (.iload_n 2, 1) := by decide +kernel
theorem dX7_slowsFrom_47 : decode cX7_slowsFrom 47 = .ok (.invokestatic 127, 3) := by decide +kernel
theorem dX7_slowsFrom_50 : decode cX7_slowsFrom 50 = .ok (.iaload, 1) := by decide +kernel
theorem dX7_slowsFrom_51 : decode cX7_slowsFrom 51 = .ok (.ldc 105, 2) := by decide +kernel
theorem dX7_slowsFrom_53 : decode cX7_slowsFrom 53 = .ok (.if_icmp .ne 5, 3) := by decide +kernel
theorem dX7_slowsFrom_56 : decode cX7_slowsFrom 56 = .ok (.iconst 0, 1) := by decide +kernel
theorem dX7_slowsFrom_57 : decode cX7_slowsFrom 57 = .ok (.ireturn, 1) := by decide +kernel
theorem dX7_slowsFrom_58 : decode cX7_slowsFrom 58 = .ok (.iload_n 1, 1) := by decide +kernel
theorem dX7_slowsFrom_59 : decode cX7_slowsFrom 59 = .ok (.istore 4, 2) := by decide +kernel
theorem dX7_slowsFrom_61 : decode cX7_slowsFrom 61 = .ok (.iload_n 2, 1) := by decide +kernel
theorem dX7_slowsFrom_62 : decode cX7_slowsFrom 62 = .ok (.istore 5, 2) := by decide +kernel
theorem dX7_slowsFrom_64 : decode cX7_slowsFrom 64 = .ok (.aload_n 0, 1) := by decide +kernel
theorem dX7_slowsFrom_65 : decode cX7_slowsFrom 65 = .ok (.getfield 36, 3) := by decide +kernel
theorem dX7_slowsFrom_68 : decode cX7_slowsFrom 68 = .ok (.iload 4, 2) := by decide +kernel
theorem dX7_slowsFrom_70 : decode cX7_slowsFrom 70 = .ok (.iload 5, 2) := by decide +kernel
theorem dX7_slowsFrom_72 : decode cX7_slowsFrom 72 = .ok (.invokestatic 127, 3) := by decide +kernel
theorem dX7_slowsFrom_75 : decode cX7_slowsFrom 75 = .ok (.iaload, 1) := by decide +kernel
theorem dX7_slowsFrom_76 : decode cX7_slowsFrom 76 = .ok (.ifCond .le 132, 3) := by decide +kernel
theorem dX7_slowsFrom_79 : decode cX7_slowsFrom 79 = .ok (.aload_n 0, 1) := by decide +kernel
theorem dX7_slowsFrom_80 : decode cX7_slowsFrom 80 = .ok (.getfield 13, 3) := by decide +kernel
theorem dX7_slowsFrom_83 : decode cX7_slowsFrom 83 = .ok (.istore 6, 2) := by decide +kernel
theorem dX7_slowsFrom_85 : decode cX7_slowsFrom 85 = .ok (.aload_n 0, 1) := by decide +kernel
theorem dX7_slowsFrom_86 : decode cX7_slowsFrom 86 = .ok (.iload 4, 2) := by decide +kernel
theorem dX7_slowsFrom_88 : decode cX7_slowsFrom 88 = .ok (.iload 5, 2) := by decide +kernel
theorem dX7_slowsFrom_90 : decode cX7_slowsFrom 90 = .ok (.iload 6, 2) := by decide +kernel
theorem dX7_slowsFrom_92 : decode cX7_slowsFrom 92 = .ok (.iload_n 3, 1) := by decide +kernel
theorem dX7_slowsFrom_93 : decode cX7_slowsFrom 93 = .ok (.invokevirtual 113, 3) := by decide +kernel
theorem dX7_slowsFrom_96 : decode cX7_slowsFrom 96 = .ok (.ifCond .eq 71, 3) := by decide +kernel
theorem dX7_slowsFrom_99 : decode cX7_slowsFrom 99 = .ok (.aload_n 0, 1) := by decide +kernel
theorem dX7_slowsFrom_100 : decode cX7_slowsFrom 100 = .ok (.getfield 36, 3) := by decide +kernel
theorem dX7_slowsFrom_103 : decode cX7_slowsFrom 103 = .ok (.iload 4, 2) := by decide +kernel
theorem dX7_slowsFrom_105 : decode cX7_slowsFrom 105 = .ok (.iload 6, 2) := by decide +kernel
theorem dX7_slowsFrom_107 : decode cX7_slowsFrom 107 = .ok (.iadd, 1) := by decide +kernel
theorem dX7_slowsFrom_108 : decode cX7_slowsFrom 108 = .ok (.iload 6, 2) := by decide +kernel
theorem dX7_slowsFrom_110 : decode cX7_slowsFrom 110 = .ok (.invokestatic 127, 3) := by decide +kernel
theorem dX7_slowsFrom_113 : decode cX7_slowsFrom 113 = .ok (.iaload, 1) := by decide +kernel
theorem dX7_slowsFrom_114 : decode cX7_slowsFrom 114 = .ok (.aload_n 0, 1) := by decide +kernel
theorem dX7_slowsFrom_115 : decode cX7_slowsFrom 115 = .ok (.getfield 36, 3) := by decide +kernel
theorem dX7_slowsFrom_118 : decode cX7_slowsFrom 118 = .ok (.iload 4, 2) := by decide +kernel
theorem dX7_slowsFrom_120 : decode cX7_slowsFrom 120 = .ok (.iload 5, 2) := by decide +kernel
theorem dX7_slowsFrom_122 : decode cX7_slowsFrom 122 = .ok (.invokestatic 127, 3) := by decide +kernel
theorem dX7_slowsFrom_125 : decode cX7_slowsFrom 125 = .ok (.iaload, 1) := by decide +kernel
theorem dX7_slowsFrom_126 : decode cX7_slowsFrom 126 = .ok (.iconst 1, 1) := by decide +kernel
theorem dX7_slowsFrom_127 : decode cX7_slowsFrom 127 = .ok (.isub, 1) := by decide +kernel
theorem dX7_slowsFrom_128 : decode cX7_slowsFrom 128 = .ok (.if_icmp .ne 39, 3) := by decide +kernel
theorem dX7_slowsFrom_131 : decode cX7_slowsFrom 131 = .ok (.aload_n 0, 1) := by decide +kernel
theorem dX7_slowsFrom_132 : decode cX7_slowsFrom 132 = .ok (.getfield 39, 3) := by decide +kernel
theorem dX7_slowsFrom_135 : decode cX7_slowsFrom 135 = .ok (.iload 4, 2) := by decide +kernel
theorem dX7_slowsFrom_137 : decode cX7_slowsFrom 137 = .ok (.iload 6, 2) := by decide +kernel
theorem dX7_slowsFrom_139 : decode cX7_slowsFrom 139 = .ok (.iadd, 1) := by decide +kernel
theorem dX7_slowsFrom_140 : decode cX7_slowsFrom 140 = .ok (.iload 6, 2) := by decide +kernel
theorem dX7_slowsFrom_142 : decode cX7_slowsFrom 142 = .ok (.invokestatic 127, 3) := by decide +kernel
theorem dX7_slowsFrom_145 : decode cX7_slowsFrom 145 = .ok (.iaload, 1) := by decide +kernel
theorem dX7_slowsFrom_146 : decode cX7_slowsFrom 146 = .ok (.iload 4, 2) := by decide +kernel
theorem dX7_slowsFrom_148 : decode cX7_slowsFrom 148 = .ok (.iadd, 1) := by decide +kernel
theorem dX7_slowsFrom_149 : decode cX7_slowsFrom 149 = .ok (.iload 6, 2) := by decide +kernel
theorem dX7_slowsFrom_151 : decode cX7_slowsFrom 151 = .ok (.iadd, 1) := by decide +kernel
theorem dX7_slowsFrom_152 : decode cX7_slowsFrom 152 = .ok (.aload_n 0, 1) := by decide +kernel
theorem dX7_slowsFrom_153 : decode cX7_slowsFrom 153 = .ok (.getfield 39, 3) := by decide +kernel
theorem dX7_slowsFrom_156 : decode cX7_slowsFrom 156 = .ok (.iload 4, 2) := by decide +kernel
theorem dX7_slowsFrom_158 : decode cX7_slowsFrom 158 = .ok (.iload 5, 2) := by decide +kernel
theorem dX7_slowsFrom_160 : decode cX7_slowsFrom 160 = .ok (.invokestatic 127, 3) := by decide +kernel
theorem dX7_slowsFrom_163 : decode cX7_slowsFrom 163 = .ok (.iaload, 1) := by decide +kernel
theorem dX7_slowsFrom_164 : decode cX7_slowsFrom 164 = .ok (.if_icmp .eq 9, 3) := by decide +kernel
theorem dX7_slowsFrom_167 : decode cX7_slowsFrom 167 = .ok (.iinc 6 (-1), 3) := by decide +kernel
theorem dX7_slowsFrom_170 : decode cX7_slowsFrom 170 = .ok (.goto (-85), 3) := by decide +kernel
theorem dX7_slowsFrom_173 : decode cX7_slowsFrom 173 = .ok (.aload_n 0, 1) := by decide +kernel
theorem dX7_slowsFrom_174 : decode cX7_slowsFrom 174 = .ok (.getfield 33, 3) := by decide +kernel
theorem dX7_slowsFrom_177 : decode cX7_slowsFrom 177 = .ok (.aload_n 0, 1) := by decide +kernel
theorem dX7_slowsFrom_178 : decode cX7_slowsFrom 178 = .ok (.getfield 120, 3) := by decide +kernel
theorem dX7_slowsFrom_181 : decode cX7_slowsFrom 181 = .ok (.iload 6, 2) := by decide +kernel
theorem dX7_slowsFrom_183 : decode cX7_slowsFrom 183 = .ok (.iastore, 1) := by decide +kernel
theorem dX7_slowsFrom_184 : decode cX7_slowsFrom 184 = .ok (.aload_n 0, 1) := by decide +kernel
theorem dX7_slowsFrom_185 : decode cX7_slowsFrom 185 = .ok (.dup, 1) := by decide +kernel
theorem dX7_slowsFrom_186 : decode cX7_slowsFrom 186 = .ok (.getfield 120, 3) := by decide +kernel
theorem dX7_slowsFrom_189 : decode cX7_slowsFrom 189 = .ok (.iconst 1, 1) := by decide +kernel
theorem dX7_slowsFrom_190 : decode cX7_slowsFrom 190 = .ok (.iadd, 1) := by decide +kernel
theorem dX7_slowsFrom_191 : decode cX7_slowsFrom 191 = .ok (.putfield 120, 3) := by decide +kernel
theorem dX7_slowsFrom_194 : decode cX7_slowsFrom 194 = .ok (.iload 4, 2) := by decide +kernel
theorem dX7_slowsFrom_196 : decode cX7_slowsFrom 196 = .ok (.iload 6, 2) := by decide +kernel
theorem dX7_slowsFrom_198 : decode cX7_slowsFrom 198 = .ok (.iadd, 1) := by decide +kernel
theorem dX7_slowsFrom_199 : decode cX7_slowsFrom 199 = .ok (.istore 4, 2) := by decide +kernel
theorem dX7_slowsFrom_201 : decode cX7_slowsFrom 201 = .ok (.iload 6, 2) := by decide +kernel
theorem dX7_slowsFrom_203 : decode cX7_slowsFrom 203 = .ok (.istore 5, 2) := by decide +kernel
theorem dX7_slowsFrom_205 : decode cX7_slowsFrom 205 = .ok (.goto (-141), 3) := by decide +kernel
theorem dX7_slowsFrom_208 : decode cX7_slowsFrom 208 = .ok (.iconst 1, 1) := by decide +kernel
theorem dX7_slowsFrom_209 : decode cX7_slowsFrom 209 = .ok (.ireturn, 1) := by decide +kernel
theorem dX7_slowing_0 : decode cX7_slowing 0 = .ok (.aload_n 0, 1) := by decide +kernel
theorem dX7_slowing_1 : decode cX7_slowing 1 = .ok (.iconst 0, 1) := by decide +kernel
theorem dX7_slowing_2 : decode cX7_slowing 2 = .ok (.putfield 73, 3) := by decide +kernel
theorem dX7_slowing_5 : decode cX7_slowing 5 = .ok (.aload_n 0, 1) := by decide +kernel
theorem dX7_slowing_6 : decode cX7_slowing 6 = .ok (.iload_n 1, 1) := by decide +kernel
theorem dX7_slowing_7 : decode cX7_slowing 7 = .ok (.iload_n 2, 1) := by decide +kernel
theorem dX7_slowing_8 : decode cX7_slowing 8 = .ok (.invokevirtual 99, 3) := by decide +kernel
theorem dX7_slowing_11 : decode cX7_slowing 11 = .ok (.ifCond .eq 21, 3) := by decide +kernel
theorem dX7_slowing_14 : decode cX7_slowing 14 = .ok (.iload_n 3, 1) := by decide +kernel
theorem dX7_slowing_15 : decode cX7_slowing 15 = .ok (.iconst 0, 1) := by decide +kernel
theorem dX7_slowing_16 : decode cX7_slowing 16 = .ok (.iconst 2, 1) := by decide +kernel
theorem dX7_slowing_17 : decode cX7_slowing 17 = .ok (.invokestatic 80, 3) := by decide +kernel
theorem dX7_slowing_20 : decode cX7_slowing 20 = .ok (.ifCond .eq 12, 3) := by decide +kernel
theorem dX7_slowing_23 : decode cX7_slowing 23 = .ok (.aload_n 0, 1) := by decide +kernel
theorem dX7_slowing_24 : decode cX7_slowing 24 = .ok (.iload_n 1, 1) := by decide +kernel
theorem dX7_slowing_25 : decode cX7_slowing 25 = .ok (.iload_n 2, 1) := by decide +kernel
theorem dX7_slowing_26 : decode cX7_slowing 26 = .ok (.invokevirtual 135, 3) := by decide +kernel
theorem dX7_slowing_29 : decode cX7_slowing 29 = .ok (.ifCond .ne 5, 3) := by decide +kernel
theorem dX7_slowing_32 : decode cX7_slowing 32 = .ok (.iconst (-1), 1) := by decide +kernel
theorem dX7_slowing_33 : decode cX7_slowing 33 = .ok (.ireturn, 1) := by decide +kernel
theorem dX7_slowing_34 : decode cX7_slowing 34 = .ok (.iload_n 3, 1) := by decide +kernel
theorem dX7_slowing_35 : decode cX7_slowing 35 = .ok (.iconst 2, 1) := by decide +kernel
theorem dX7_slowing_36 : decode cX7_slowing 36 = .ok (.if_icmp .ne 21, 3) := by decide +kernel
theorem dX7_slowing_39 : decode cX7_slowing 39 = .ok (.aload_n 0, 1) := by decide +kernel
theorem dX7_slowing_40 : decode cX7_slowing 40 = .ok (.getfield 120, 3) := by decide +kernel
theorem dX7_slowing_43 : decode cX7_slowing 43 = .ok (.ifCond .ne 7, 3) := by decide +kernel
theorem dX7_slowing_46 : decode cX7_slowing 46 = .ok (.iconst (-1), 1) := by decide +kernel
theorem dX7_slowing_47 : decode cX7_slowing 47 = .ok (.goto 9, 3) := by decide +kernel
theorem dX7_slowing_50 : decode cX7_slowing 50 = .ok (.aload_n 0, 1) := by decide +kernel
theorem dX7_slowing_51 : decode cX7_slowing 51 = .ok (.getfield 33, 3) := by decide +kernel
theorem dX7_slowing_54 : decode cX7_slowing 54 = .ok (.iconst 0, 1) := by decide +kernel
theorem dX7_slowing_55 : decode cX7_slowing 55 = .ok (.iaload, 1) := by decide +kernel
theorem dX7_slowing_56 : decode cX7_slowing 56 = .ok (.ireturn, 1) := by decide +kernel
theorem dX7_slowing_57 : decode cX7_slowing 57 = .ok (.iload_n 3, 1) := by decide +kernel
theorem dX7_slowing_58 : decode cX7_slowing 58 = .ok (.ifCond .ne 16, 3) := by decide +kernel
theorem dX7_slowing_61 : decode cX7_slowing 61 = .ok (.aload_n 0, 1) := by decide +kernel
theorem dX7_slowing_62 : decode cX7_slowing 62 = .ok (.getfield 36, 3) := by decide +kernel
theorem dX7_slowing_65 : decode cX7_slowing 65 = .ok (.iload_n 1, 1) := by decide +kernel
theorem dX7_slowing_66 : decode cX7_slowing 66 = .ok (.iload_n 2, 1) := by decide +kernel
theorem dX7_slowing_67 : decode cX7_slowing 67 = .ok (.invokestatic 127, 3) := by decide +kernel
theorem dX7_slowing_70 : decode cX7_slowing 70 = .ok (.iaload, 1) := by decide +kernel
theorem dX7_slowing_71 : decode cX7_slowing 71 = .ok (.goto 13, 3) := by decide +kernel
theorem dX7_slowing_74 : decode cX7_slowing 74 = .ok (.aload_n 0, 1) := by decide +kernel
theorem dX7_slowing_75 : decode cX7_slowing 75 = .ok (.getfield 39, 3) := by decide +kernel
theorem dX7_slowing_78 : decode cX7_slowing 78 = .ok (.iload_n 1, 1) := by decide +kernel
theorem dX7_slowing_79 : decode cX7_slowing 79 = .ok (.iload_n 2, 1) := by decide +kernel
theorem dX7_slowing_80 : decode cX7_slowing 80 = .ok (.invokestatic 127, 3) := by decide +kernel
theorem dX7_slowing_83 : decode cX7_slowing 83 = .ok (.iaload, 1) := by decide +kernel
theorem dX7_slowing_84 : decode cX7_slowing 84 = .ok (.ireturn, 1) := by decide +kernel
theorem dX7_move_0 : decode cX7_move 0 = .ok (.aload_n 0, 1) := by decide +kernel
theorem dX7_move_1 : decode cX7_move 1 = .ok (.iconst 0, 1) := by decide +kernel
theorem dX7_move_2 : decode cX7_move 2 = .ok (.putfield 73, 3) := by decide +kernel
theorem dX7_move_5 : decode cX7_move 5 = .ok (.aload_n 0, 1) := by decide +kernel
theorem dX7_move_6 : decode cX7_move 6 = .ok (.getfield 76, 3) := by decide +kernel
theorem dX7_move_9 : decode cX7_move 9 = .ok (.ifCond .ne 42, 3) := by decide +kernel
theorem dX7_move_12 : decode cX7_move 12 = .ok (.iload_n 1, 1) := by decide +kernel
theorem dX7_move_13 : decode cX7_move 13 = .ok (.sipush (-200), 3) := by decide +kernel
theorem dX7_move_16 : decode cX7_move 16 = .ok (.sipush 200, 3) := by decide +kernel
theorem dX7_move_19 : decode cX7_move 19 = .ok (.invokestatic 80, 3) := by decide +kernel
theorem dX7_move_22 : decode cX7_move 22 = .ok (.ifCond .eq 29, 3) := by decide +kernel
theorem dX7_move_25 : decode cX7_move 25 = .ok (.iload_n 2, 1) := by decide +kernel
theorem dX7_move_26 : decode cX7_move 26 = .ok (.sipush (-200), 3) := by decide +kernel
theorem dX7_move_29 : decode cX7_move 29 = .ok (.sipush 200, 3) := by decide +kernel
theorem dX7_move_32 : decode cX7_move 32 = .ok (.invokestatic 80, 3) := by decide +kernel
theorem dX7_move_35 : decode cX7_move 35 = .ok (.ifCond .eq 16, 3) := by decide +kernel
theorem dX7_move_38 : decode cX7_move 38 = .ok (.iload_n 3, 1) := by decide +kernel
theorem dX7_move_39 : decode cX7_move 39 = .ok (.sipush (-200), 3) := by decide +kernel
theorem dX7_move_42 : decode cX7_move 42 = .ok (.sipush 200, 3) := by decide +kernel
theorem dX7_move_45 : decode cX7_move 45 = .ok (.invokestatic 80, 3) := by decide +kernel
theorem dX7_move_48 : decode cX7_move 48 = .ok (.ifCond .ne 5, 3) := by decide +kernel
theorem dX7_move_51 : decode cX7_move 51 = .ok (.iconst (-1), 1) := by decide +kernel
theorem dX7_move_52 : decode cX7_move 52 = .ok (.ireturn, 1) := by decide +kernel
theorem dX7_move_53 : decode cX7_move 53 = .ok (.iload_n 1, 1) := by decide +kernel
theorem dX7_move_54 : decode cX7_move 54 = .ok (.invokestatic 93, 3) := by decide +kernel
theorem dX7_move_57 : decode cX7_move 57 = .ok (.iload_n 2, 1) := by decide +kernel
theorem dX7_move_58 : decode cX7_move 58 = .ok (.invokestatic 93, 3) := by decide +kernel
theorem dX7_move_61 : decode cX7_move 61 = .ok (.iload_n 3, 1) := by decide +kernel
theorem dX7_move_62 : decode cX7_move 62 = .ok (.invokestatic 93, 3) := by decide +kernel
theorem dX7_move_65 : decode cX7_move 65 = .ok (.invokestatic 138, 3) := by decide +kernel
theorem dX7_move_68 : decode cX7_move 68 = .ok (.invokestatic 138, 3) := by decide +kernel
theorem dX7_move_71 : decode cX7_move 71 = .ok (.istore 4, 2) := by decide +kernel
theorem dX7_move_73 : decode cX7_move 73 = .ok (.aload_n 0, 1) := by decide +kernel
theorem dX7_move_74 : decode cX7_move 74 = .ok (.iload 4, 2) := by decide +kernel
theorem dX7_move_76 : decode cX7_move 76 = .ok (.invokevirtual 123, 3) := by decide +kernel
theorem dX7_move_79 : decode cX7_move 79 = .ok (.ifCond .ne 5, 3) := by decide +kernel
theorem dX7_move_82 : decode cX7_move 82 = .ok (.iconst (-1), 1) := by decide +kernel
theorem dX7_move_83 : decode cX7_move 83 = .ok (.ireturn, 1) := by decide +kernel
theorem dX7_move_84 : decode cX7_move 84 = .ok (.aload_n 0, 1) := by decide +kernel
theorem dX7_move_85 : decode cX7_move 85 = .ok (.getfield 45, 3) := by decide +kernel
theorem dX7_move_88 : decode cX7_move 88 = .ok (.iconst 0, 1) := by decide +kernel
theorem dX7_move_89 : decode cX7_move 89 = .ok (.iload_n 1, 1) := by decide +kernel
theorem dX7_move_90 : decode cX7_move 90 = .ok (.iastore, 1) := by decide +kernel
theorem dX7_move_91 : decode cX7_move 91 = .ok (.aload_n 0, 1) := by decide +kernel
theorem dX7_move_92 : decode cX7_move 92 = .ok (.getfield 45, 3) := by decide +kernel
theorem dX7_move_95 : decode cX7_move 95 = .ok (.iconst 1, 1) := by decide +kernel
theorem dX7_move_96 : decode cX7_move 96 = .ok (.iload_n 2, 1) := by decide +kernel
theorem dX7_move_97 : decode cX7_move 97 = .ok (.iastore, 1) := by decide +kernel
theorem dX7_move_98 : decode cX7_move 98 = .ok (.aload_n 0, 1) := by decide +kernel
theorem dX7_move_99 : decode cX7_move 99 = .ok (.getfield 45, 3) := by decide +kernel
theorem dX7_move_102 : decode cX7_move 102 = .ok (.iconst 2, 1) := by decide +kernel
theorem dX7_move_103 : decode cX7_move 103 = .ok (.iload_n 3, 1) := by decide +kernel
theorem dX7_move_104 : decode cX7_move 104 = .ok (.iastore, 1) := by decide +kernel
theorem dX7_move_105 : decode cX7_move 105 = .ok (.iconst 0, 1) := by decide +kernel
theorem dX7_move_106 : decode cX7_move 106 = .ok (.istore 5, 2) := by decide +kernel
theorem dX7_move_108 : decode cX7_move 108 = .ok (.iload 5, 2) := by decide +kernel
theorem dX7_move_110 : decode cX7_move 110 = .ok (.iconst 3, 1) := by decide +kernel
theorem dX7_move_111 : decode cX7_move 111 = .ok (.if_icmp .ge 23, 3) := by decide +kernel
theorem dX7_move_114 : decode cX7_move 114 = .ok (.aload_n 0, 1) := by decide +kernel
theorem dX7_move_115 : decode cX7_move 115 = .ok (.getfield 42, 3) := by decide +kernel
theorem dX7_move_118 : decode cX7_move 118 = .ok (.iload 5, 2) := by decide +kernel
theorem dX7_move_120 : decode cX7_move 120 = .ok (.aload_n 0, 1) := by decide +kernel
theorem dX7_move_121 : decode cX7_move 121 = .ok (.getfield 48, 3) := by decide +kernel
theorem dX7_move_124 : decode cX7_move 124 = .ok (.iload 5, 2) := by decide +kernel
theorem dX7_move_126 : decode cX7_move 126 = .ok (.iaload, 1) := by decide +kernel
theorem dX7_move_127 : decode cX7_move 127 = .ok (.iastore, 1) := by decide +kernel
theorem dX7_move_128 : decode cX7_move 128 = .ok (.iinc 5 1, 3) := by decide +kernel
theorem dX7_move_131 : decode cX7_move 131 = .ok (.goto (-23), 3) := by decide +kernel
theorem dX7_move_134 : decode cX7_move 134 = .ok (.aload_n 0, 1) := by decide +kernel
theorem dX7_move_135 : decode cX7_move 135 = .ok (.invokevirtual 141, 3) := by decide +kernel
theorem dX7_move_138 : decode cX7_move 138 = .ok (.aload_n 0, 1) := by decide +kernel
theorem dX7_move_139 : decode cX7_move 139 = .ok (.iload 4, 2) := by decide +kernel
theorem dX7_move_141 : decode cX7_move 141 = .ok (.putfield 144, 3) := by decide +kernel
theorem dX7_move_144 : decode cX7_move 144 = .ok (.aload_n 0, 1) := by decide +kernel
theorem dX7_move_145 : decode cX7_move 145 = .ok (.iconst 0, 1) := by decide +kernel
theorem dX7_move_146 : decode cX7_move 146 = .ok (.putfield 147, 3) := by decide +kernel
theorem dX7_move_149 : decode cX7_move 149 = .ok (.aload_n 0, 1) := by decide +kernel
theorem dX7_move_150 : decode cX7_move 150 = .ok (.iconst 0, 1) := by decide +kernel
theorem dX7_move_151 : decode cX7_move 151 = .ok (.putfield 150, 3) := by decide +kernel
theorem dX7_move_154 : decode cX7_move 154 = .ok (.aload_n 0, 1) := by decide +kernel
theorem dX7_move_155 : decode cX7_move 155 = .ok (.iconst 0, 1) := by decide +kernel
theorem dX7_move_156 : decode cX7_move 156 = .ok (.putfield 153, 3) := by decide +kernel
theorem dX7_move_159 : decode cX7_move 159 = .ok (.aload_n 0, 1) := by decide +kernel
theorem dX7_move_160 : decode cX7_move 160 = .ok (.iconst 0, 1) := by decide +kernel
theorem dX7_move_161 : decode cX7_move 161 = .ok (.putfield 156, 3) := by decide +kernel
theorem dX7_move_164 : decode cX7_move 164 = .ok (.aload_n 0, 1) := by decide +kernel
theorem dX7_move_165 : decode cX7_move 165 = .ok (.iconst 0, 1) := by decide +kernel
theorem dX7_move_166 : decode cX7_move 166 = .ok (.putfield 159, 3) := by decide +kernel
theorem dX7_move_169 : decode cX7_move 169 = .ok (.aload_n 0, 1) := by decide +kernel
theorem dX7_move_170 : decode cX7_move 170 = .ok (.iconst (-1), 1) := by decide +kernel
theorem dX7_move_171 : decode cX7_move 171 = .ok (.putfield 57, 3) := by decide +kernel
theorem dX7_move_174 : decode cX7_move 174 = .ok (.aload_n 0, 1) := by decide +kernel
theorem dX7_move_175 : decode cX7_move 175 = .ok (.iconst 0, 1) := by decide +kernel
theorem dX7_move_176 : decode cX7_move 176 = .ok (.putfield 162, 3) := by decide +kernel
theorem dX7_move_179 : decode cX7_move 179 = .ok (.aload_n 0, 1) := by decide +kernel
theorem dX7_move_180 : decode cX7_move 180 = .ok (.getfield 165, 3) := by decide +kernel
theorem dX7_move_183 : decode cX7_move 183 = .ok (.ireturn, 1) := by decide +kernel
theorem dX7_follow_0 : decode cX7_follow 0 = .ok (.aload_n 0, 1) := by decide +kernel
theorem dX7_follow_1 : decode cX7_follow 1 = .ok (.aload_n 0, 1) := by decide +kernel
theorem dX7_follow_2 : decode cX7_follow 2 = .ok (.getfield 120, 3) := by decide +kernel
theorem dX7_follow_5 : decode cX7_follow 5 = .ok (.putfield 165, 3) := by decide +kernel
theorem dX7_follow_8 : decode cX7_follow 8 = .ok (.aload_n 0, 1) := by decide +kernel
theorem dX7_follow_9 : decode cX7_follow 9 = .ok (.iconst 0, 1) := by decide +kernel
theorem dX7_follow_10 : decode cX7_follow 10 = .ok (.putfield 168, 3) := by decide +kernel
theorem dX7_follow_13 : decode cX7_follow 13 = .ok (.iconst 0, 1) := by decide +kernel
theorem dX7_follow_14 : decode cX7_follow 14 = .ok (.istore_n 1, 1) := by decide +kernel
theorem dX7_follow_15 : decode cX7_follow 15 = .ok (.iload_n 1, 1) := by decide +kernel
theorem dX7_follow_16 : decode cX7_follow 16 = .ok (.aload_n 0, 1) := by decide +kernel
theorem dX7_follow_17 : decode cX7_follow 17 = .ok (.getfield 120, 3) := by decide +kernel
theorem dX7_follow_20 : decode cX7_follow 20 = .ok (.if_icmp .ge 21, 3) := by decide +kernel
theorem dX7_follow_23 : decode cX7_follow 23 = .ok (.aload_n 0, 1) := by decide +kernel
theorem dX7_follow_24 : decode cX7_follow 24 = .ok (.getfield 54, 3) := by decide +kernel
theorem dX7_follow_27 : decode cX7_follow 27 = .ok (.iload_n 1, 1) := by decide +kernel
theorem dX7_follow_28 : decode cX7_follow 28 = .ok (.aload_n 0, 1) := by decide +kernel
theorem dX7_follow_29 : decode cX7_follow 29 = .ok (.getfield 33, 3) := by decide +kernel
theorem dX7_follow_32 : decode cX7_follow 32 = .ok (.iload_n 1, 1) := by decide +kernel
theorem dX7_follow_33 : decode cX7_follow 33 = .ok (.iaload, 1) := by decide +kernel
theorem dX7_follow_34 : decode cX7_follow 34 = .ok (.iastore, 1) := by decide +kernel
theorem dX7_follow_35 : decode cX7_follow 35 = .ok (.iinc 1 1, 3) := by decide +kernel
theorem dX7_follow_38 : decode cX7_follow 38 = .ok (.goto (-23), 3) := by decide +kernel
theorem dX7_follow_41 : decode cX7_follow 41 = .ok (.aload_n 0, 1) := by decide +kernel
theorem dX7_follow_42 : decode cX7_follow 42 = .ok (.aload_n 0, 1) := by decide +kernel
theorem dX7_follow_43 : decode cX7_follow 43 = .ok (.getfield 120, 3) := by decide +kernel
theorem dX7_follow_46 : decode cX7_follow 46 = .ok (.ifCond .le 7, 3) := by decide +kernel
theorem dX7_follow_49 : decode cX7_follow 49 = .ok (.iconst 1, 1) := by decide +kernel
theorem dX7_follow_50 : decode cX7_follow 50 = .ok (.goto 4, 3) := by decide +kernel
theorem dX7_follow_53 : decode cX7_follow 53 = .ok (.iconst 0, 1) := by decide +kernel
theorem dX7_follow_54 : decode cX7_follow 54 = .ok (.putfield 76, 3) := by decide +kernel
theorem dX7_follow_57 : decode cX7_follow 57 = .ok (.return_, 1) := by decide +kernel
theorem dX7_gone_0 : decode cX7_gone 0 = .ok (.aload_n 0, 1) := by decide +kernel
theorem dX7_gone_1 : decode cX7_gone 1 = .ok (.getfield 144, 3) := by decide +kernel
theorem dX7_gone_4 : decode cX7_gone 4 = .ok (.ifCond .ne 5, 3) := by decide +kernel
theorem dX7_gone_7 : decode cX7_gone 7 = .ok (.iconst 0, 1) := by decide +kernel
theorem dX7_gone_8 : decode cX7_gone 8 = .ok (.ireturn, 1) := by decide +kernel
theorem dX7_gone_9 : decode cX7_gone 9 = .ok (.iconst 2, 1) := by decide +kernel
theorem dX7_gone_10 : decode cX7_gone 10 = .ok (.iload_n 2, 1) := by decide +kernel
theorem dX7_gone_11 : decode cX7_gone 11 = .ok (.imul, 1) := by decide +kernel
theorem dX7_gone_12 : decode cX7_gone 12 = .ok (.aload_n 0, 1) := by decide +kernel
theorem dX7_gone_13 : decode cX7_gone 13 = .ok (.getfield 45, 3) := by decide +kernel
theorem dX7_gone_16 : decode cX7_gone 16 = .ok (.iload_n 1, 1) := by decide +kernel
theorem dX7_gone_17 : decode cX7_gone 17 = .ok (.iaload, 1) := by decide +kernel
theorem dX7_gone_18 : decode cX7_gone 18 = .ok (.invokestatic 93, 3) := by decide +kernel
theorem dX7_gone_21 : decode cX7_gone 21 = .ok (.imul, 1) := by decide +kernel
theorem dX7_gone_22 : decode cX7_gone 22 = .ok (.aload_n 0, 1) := by decide +kernel
theorem dX7_gone_23 : decode cX7_gone 23 = .ok (.getfield 144, 3) := by decide +kernel
theorem dX7_gone_26 : decode cX7_gone 26 = .ok (.iadd, 1) := by decide +kernel
theorem dX7_gone_27 : decode cX7_gone 27 = .ok (.iconst 2, 1) := by decide +kernel
theorem dX7_gone_28 : decode cX7_gone 28 = .ok (.aload_n 0, 1) := by decide +kernel
theorem dX7_gone_29 : decode cX7_gone 29 = .ok (.getfield 144, 3) := by decide +kernel
theorem dX7_gone_32 : decode cX7_gone 32 = .ok (.imul, 1) := by decide +kernel
theorem dX7_gone_33 : decode cX7_gone 33 = .ok (.idiv, 1) := by decide +kernel
theorem dX7_gone_34 : decode cX7_gone 34 = .ok (.istore_n 3, 1) := by decide +kernel
theorem dX7_gone_35 : decode cX7_gone 35 = .ok (.aload_n 0, 1) := by decide +kernel
theorem dX7_gone_36 : decode cX7_gone 36 = .ok (.getfield 45, 3) := by decide +kernel
theorem dX7_gone_39 : decode cX7_gone 39 = .ok (.iload_n 1, 1) := by decide +kernel
theorem dX7_gone_40 : decode cX7_gone 40 = .ok (.iaload, 1) := by decide +kernel
theorem dX7_gone_41 : decode cX7_gone 41 = .ok (.ifCond .ge 8, 3) := by decide +kernel
theorem dX7_gone_44 : decode cX7_gone 44 = .ok (.iload_n 3, 1) := by decide +kernel
theorem dX7_gone_45 : decode cX7_gone 45 = .ok (.ineg, 1) := by decide +kernel
theorem dX7_gone_46 : decode cX7_gone 46 = .ok (.goto 4, 3) := by decide +kernel
theorem dX7_gone_49 : decode cX7_gone 49 = .ok (.iload_n 3, 1) := by decide +kernel
theorem dX7_gone_50 : decode cX7_gone 50 = .ok (.ireturn, 1) := by decide +kernel
theorem dX7_tick_0 : decode cX7_tick 0 = .ok (.aload_n 0, 1) := by decide +kernel
theorem dX7_tick_1 : decode cX7_tick 1 = .ok (.iconst 0, 1) := by decide +kernel
theorem dX7_tick_2 : decode cX7_tick 2 = .ok (.putfield 73, 3) := by decide +kernel
theorem dX7_tick_5 : decode cX7_tick 5 = .ok (.aload_n 0, 1) := by decide +kernel
theorem dX7_tick_6 : decode cX7_tick 6 = .ok (.getfield 76, 3) := by decide +kernel
theorem dX7_tick_9 : decode cX7_tick 9 = .ok (.ifCond .eq 14, 3) := by decide +kernel
theorem dX7_tick_12 : decode cX7_tick 12 = .ok (.iload_n 1, 1) := by decide +kernel
theorem dX7_tick_13 : decode cX7_tick 13 = .ok (.iconst 0, 1) := by decide +kernel
theorem dX7_tick_14 : decode cX7_tick 14 = .ok (.sipush 1000, 3) := by decide +kernel
theorem dX7_tick_17 : decode cX7_tick 17 = .ok (.invokestatic 80, 3) := by decide +kernel
theorem dX7_tick_20 : decode cX7_tick 20 = .ok (.ifCond .ne 5, 3) := by decide +kernel
theorem dX7_tick_23 : decode cX7_tick 23 = .ok (.iconst (-1), 1) := by decide +kernel
theorem dX7_tick_24 : decode cX7_tick 24 = .ok (.ireturn, 1) := by decide +kernel
theorem dX7_tick_25 : decode cX7_tick 25 = .ok (.iconst 0, 1) := by decide +kernel
theorem dX7_tick_26 : decode cX7_tick 26 = .ok (.istore_n 2, 1) := by decide +kernel
theorem dX7_tick_27 : decode cX7_tick 27 = .ok (.iload_n 2, 1) := by decide +kernel
theorem dX7_tick_28 : decode cX7_tick 28 = .ok (.iload_n 1, 1) := by decide +kernel
theorem dX7_tick_29 : decode cX7_tick 29 = .ok (.if_icmp .ge 236, 3) := by decide +kernel
theorem dX7_tick_32 : decode cX7_tick 32 = .ok (.aload_n 0, 1) := by decide +kernel
theorem dX7_tick_33 : decode cX7_tick 33 = .ok (.getfield 76, 3) := by decide +kernel
theorem dX7_tick_36 : decode cX7_tick 36 = .ok (.ifCond .eq 229, 3) := by decide +kernel
theorem dX7_tick_39 : decode cX7_tick 39 = .ok (.aload_n 0, 1) := by decide +kernel
theorem dX7_tick_40 : decode cX7_tick 40 = .ok (.getfield 54, 3) := by decide +kernel
theorem dX7_tick_43 : decode cX7_tick 43 = .ok (.aload_n 0, 1) := by decide +kernel
theorem dX7_tick_44 : decode cX7_tick 44 = .ok (.getfield 168, 3) := by decide +kernel
theorem dX7_tick_47 : decode cX7_tick 47 = .ok (.iaload, 1) := by decide +kernel
theorem dX7_tick_48 : decode cX7_tick 48 = .ok (.istore_n 3, 1) := by decide +kernel
theorem dX7_tick_49 : decode cX7_tick 49 = .ok (.aload_n 0, 1) := by decide +kernel
theorem dX7_tick_50 : decode cX7_tick 50 = .ok (.dup, 1) := by decide +kernel
theorem dX7_tick_51 : decode cX7_tick 51 = .ok (.getfield 150, 3) := by decide +kernel
theorem dX7_tick_54 : decode cX7_tick 54 = .ok (.iload_n 3, 1) := by decide +kernel
theorem dX7_tick_55 : decode cX7_tick 55 = .ok (.iadd, 1) := by decide +kernel
theorem dX7_tick_56 : decode cX7_tick 56 = .ok (.putfield 150, 3) := by decide +kernel
theorem dX7_tick_59 : decode cX7_tick 59 = .ok (.aload_n 0, 1) := by decide +kernel
theorem dX7_tick_60 : decode cX7_tick 60 = .ok (.iload_n 3, 1) := by decide +kernel
theorem dX7_tick_61 : decode cX7_tick 61 = .ok (.putfield 153, 3) := by decide +kernel
theorem dX7_tick_64 : decode cX7_tick 64 = .ok (.aload_n 0, 1) := by decide +kernel
theorem dX7_tick_65 : decode cX7_tick 65 = .ok (.aload_n 0, 1) := by decide +kernel
theorem dX7_tick_66 : decode cX7_tick 66 = .ok (.getfield 150, 3) := by decide +kernel
theorem dX7_tick_69 : decode cX7_tick 69 = .ok (.iload_n 3, 1) := by decide +kernel
theorem dX7_tick_70 : decode cX7_tick 70 = .ok (.invokevirtual 102, 3) := by decide +kernel
theorem dX7_tick_73 : decode cX7_tick 73 = .ok (.istore 4, 2) := by decide +kernel
theorem dX7_tick_75 : decode cX7_tick 75 = .ok (.iload 4, 2) := by decide +kernel
theorem dX7_tick_77 : decode cX7_tick 77 = .ok (.ifCond .ne 39, 3) := by decide +kernel
theorem dX7_tick_80 : decode cX7_tick 80 = .ok (.aload_n 0, 1) := by decide +kernel
theorem dX7_tick_81 : decode cX7_tick 81 = .ok (.dup, 1) := by decide +kernel
theorem dX7_tick_82 : decode cX7_tick 82 = .ok (.getfield 159, 3) := by decide +kernel
theorem dX7_tick_85 : decode cX7_tick 85 = .ok (.aload_n 0, 1) := by decide +kernel
theorem dX7_tick_86 : decode cX7_tick 86 = .ok (.getfield 150, 3) := by decide +kernel
theorem dX7_tick_89 : decode cX7_tick 89 = .ok (.iadd, 1) := by decide +kernel
theorem dX7_tick_90 : decode cX7_tick 90 = .ok (.putfield 159, 3) := by decide +kernel
theorem dX7_tick_93 : decode cX7_tick 93 = .ok (.aload_n 0, 1) := by decide +kernel
theorem dX7_tick_94 : decode cX7_tick 94 = .ok (.getfield 150, 3) := by decide +kernel
theorem dX7_tick_97 : decode cX7_tick 97 = .ok (.ifCond .le 19, 3) := by decide +kernel
theorem dX7_tick_100 : decode cX7_tick 100 = .ok (.aload_n 0, 1) := by decide +kernel
theorem dX7_tick_101 : decode cX7_tick 101 = .ok (.getfield 57, 3) := by decide +kernel
theorem dX7_tick_104 : decode cX7_tick 104 = .ok (.iconst (-1), 1) := by decide +kernel
theorem dX7_tick_105 : decode cX7_tick 105 = .ok (.if_icmp .ne 11, 3) := by decide +kernel
theorem dX7_tick_108 : decode cX7_tick 108 = .ok (.aload_n 0, 1) := by decide +kernel
theorem dX7_tick_109 : decode cX7_tick 109 = .ok (.aload_n 0, 1) := by decide +kernel
theorem dX7_tick_110 : decode cX7_tick 110 = .ok (.getfield 156, 3) := by decide +kernel
theorem dX7_tick_113 : decode cX7_tick 113 = .ok (.putfield 57, 3) := by decide +kernel
theorem dX7_tick_116 : decode cX7_tick 116 = .ok (.iconst 0, 1) := by decide +kernel
theorem dX7_tick_117 : decode cX7_tick 117 = .ok (.istore 5, 2) := by decide +kernel
theorem dX7_tick_119 : decode cX7_tick 119 = .ok (.iload 5, 2) := by decide +kernel
theorem dX7_tick_121 : decode cX7_tick 121 = .ok (.iconst 3, 1) := by decide +kernel
theorem dX7_tick_122 : decode cX7_tick 122 = .ok (.if_icmp .ge 84, 3) := by decide +kernel
theorem dX7_tick_125 : decode cX7_tick 125 = .ok (.aload_n 0, 1) := by decide +kernel
theorem dX7_tick_126 : decode cX7_tick 126 = .ok (.iload 5, 2) := by decide +kernel
theorem dX7_tick_128 : decode cX7_tick 128 = .ok (.aload_n 0, 1) := by decide +kernel
theorem dX7_tick_129 : decode cX7_tick 129 = .ok (.getfield 147, 3) := by decide +kernel
theorem dX7_tick_132 : decode cX7_tick 132 = .ok (.aload_n 0, 1) := by decide +kernel
theorem dX7_tick_133 : decode cX7_tick 133 = .ok (.getfield 150, 3) := by decide +kernel
theorem dX7_tick_136 : decode cX7_tick 136 = .ok (.iadd, 1) := by decide +kernel
theorem dX7_tick_137 : decode cX7_tick 137 = .ok (.invokevirtual 171, 3) := by decide +kernel
theorem dX7_tick_140 : decode cX7_tick 140 = .ok (.aload_n 0, 1) := by decide +kernel
theorem dX7_tick_141 : decode cX7_tick 141 = .ok (.iload 5, 2) := by decide +kernel
theorem dX7_tick_143 : decode cX7_tick 143 = .ok (.aload_n 0, 1) := by decide +kernel
theorem dX7_tick_144 : decode cX7_tick 144 = .ok (.getfield 147, 3) := by decide +kernel
theorem dX7_tick_147 : decode cX7_tick 147 = .ok (.invokevirtual 171, 3) := by decide +kernel
theorem dX7_tick_150 : decode cX7_tick 150 = .ok (.isub, 1) := by decide +kernel
theorem dX7_tick_151 : decode cX7_tick 151 = .ok (.istore 6, 2) := by decide +kernel
theorem dX7_tick_153 : decode cX7_tick 153 = .ok (.aload_n 0, 1) := by decide +kernel
theorem dX7_tick_154 : decode cX7_tick 154 = .ok (.getfield 48, 3) := by decide +kernel
theorem dX7_tick_157 : decode cX7_tick 157 = .ok (.iload 5, 2) := by decide +kernel
theorem dX7_tick_159 : decode cX7_tick 159 = .ok (.aload_n 0, 1) := by decide +kernel
theorem dX7_tick_160 : decode cX7_tick 160 = .ok (.getfield 42, 3) := by decide +kernel
theorem dX7_tick_163 : decode cX7_tick 163 = .ok (.iload 5, 2) := by decide +kernel
theorem dX7_tick_165 : decode cX7_tick 165 = .ok (.iaload, 1) := by decide +kernel
theorem dX7_tick_166 : decode cX7_tick 166 = .ok (.aload_n 0, 1) := by decide +kernel
theorem dX7_tick_167 : decode cX7_tick 167 = .ok (.iload 5, 2) := by decide +kernel
theorem dX7_tick_169 : decode cX7_tick 169 = .ok (.aload_n 0, 1) := by decide +kernel
theorem dX7_tick_170 : decode cX7_tick 170 = .ok (.getfield 147, 3) := by decide +kernel
theorem dX7_tick_173 : decode cX7_tick 173 = .ok (.aload_n 0, 1) := by decide +kernel
theorem dX7_tick_174 : decode cX7_tick 174 = .ok (.getfield 150, 3) := by decide +kernel
theorem dX7_tick_177 : decode cX7_tick 177 = .ok (.iadd, 1) := by decide +kernel
theorem dX7_tick_178 : decode cX7_tick 178 = .ok (.invokevirtual 171, 3) := by decide +kernel
theorem dX7_tick_181 : decode cX7_tick 181 = .ok (.iadd, 1) := by decide +kernel
theorem dX7_tick_182 : decode cX7_tick 182 = .ok (.iastore, 1) := by decide +kernel
theorem dX7_tick_183 : decode cX7_tick 183 = .ok (.iload 4, 2) := by decide +kernel
theorem dX7_tick_185 : decode cX7_tick 185 = .ok (.ifCond .eq 15, 3) := by decide +kernel
theorem dX7_tick_188 : decode cX7_tick 188 = .ok (.aload_n 0, 1) := by decide +kernel
theorem dX7_tick_189 : decode cX7_tick 189 = .ok (.getfield 51, 3) := by decide +kernel
theorem dX7_tick_192 : decode cX7_tick 192 = .ok (.iload 5, 2) := by decide +kernel
theorem dX7_tick_194 : decode cX7_tick 194 = .ok (.dup2, 1) := by decide +kernel
theorem dX7_tick_195 : decode cX7_tick 195 = .ok (.iaload, 1) := by decide +kernel
theorem dX7_tick_196 : decode cX7_tick 196 = .ok (.iload 6, 2) := by decide +kernel
theorem dX7_tick_198 : decode cX7_tick 198 = .ok (.iadd, 1) := by decide +kernel
theorem dX7_tick_199 : decode cX7_tick 199 = .ok (.iastore, 1) := by decide +kernel
theorem dX7_tick_200 : decode cX7_tick 200 = .ok (.iinc 5 1, 3) := by decide +kernel
theorem dX7_tick_203 : decode cX7_tick 203 = .ok (.goto (-84), 3) := by decide +kernel
theorem dX7_tick_206 : decode cX7_tick 206 = .ok (.aload_n 0, 1) := by decide +kernel
theorem dX7_tick_207 : decode cX7_tick 207 = .ok (.dup, 1) := by decide +kernel
theorem dX7_tick_208 : decode cX7_tick 208 = .ok (.getfield 147, 3) := by decide +kernel
theorem dX7_tick_211 : decode cX7_tick 211 = .ok (.aload_n 0, 1) := by decide +kernel
theorem dX7_tick_212 : decode cX7_tick 212 = .ok (.getfield 150, 3) := by decide +kernel
theorem dX7_tick_215 : decode cX7_tick 215 = .ok (.iadd, 1) := by decide +kernel
theorem dX7_tick_216 : decode cX7_tick 216 = .ok (.putfield 147, 3) := by decide +kernel
theorem dX7_tick_219 : decode cX7_tick 219 = .ok (.aload_n 0, 1) := by decide +kernel
theorem dX7_tick_220 : decode cX7_tick 220 = .ok (.dup, 1) := by decide +kernel
theorem dX7_tick_221 : decode cX7_tick 221 = .ok (.getfield 156, 3) := by decide +kernel
theorem dX7_tick_224 : decode cX7_tick 224 = .ok (.iconst 1, 1) := by decide +kernel
theorem dX7_tick_225 : decode cX7_tick 225 = .ok (.iadd, 1) := by decide +kernel
theorem dX7_tick_226 : decode cX7_tick 226 = .ok (.putfield 156, 3) := by decide +kernel
theorem dX7_tick_229 : decode cX7_tick 229 = .ok (.aload_n 0, 1) := by decide +kernel
theorem dX7_tick_230 : decode cX7_tick 230 = .ok (.dup, 1) := by decide +kernel
theorem dX7_tick_231 : decode cX7_tick 231 = .ok (.getfield 168, 3) := by decide +kernel
theorem dX7_tick_234 : decode cX7_tick 234 = .ok (.iconst 1, 1) := by decide +kernel
theorem dX7_tick_235 : decode cX7_tick 235 = .ok (.iadd, 1) := by decide +kernel
theorem dX7_tick_236 : decode cX7_tick 236 = .ok (.putfield 168, 3) := by decide +kernel
theorem dX7_tick_239 : decode cX7_tick 239 = .ok (.iinc 2 1, 3) := by decide +kernel
theorem dX7_tick_242 : decode cX7_tick 242 = .ok (.aload_n 0, 1) := by decide +kernel
theorem dX7_tick_243 : decode cX7_tick 243 = .ok (.aload_n 0, 1) := by decide +kernel
theorem dX7_tick_244 : decode cX7_tick 244 = .ok (.getfield 168, 3) := by decide +kernel
theorem dX7_tick_247 : decode cX7_tick 247 = .ok (.aload_n 0, 1) := by decide +kernel
theorem dX7_tick_248 : decode cX7_tick 248 = .ok (.getfield 165, 3) := by decide +kernel
theorem dX7_tick_251 : decode cX7_tick 251 = .ok (.if_icmp .ge 7, 3) := by decide +kernel
theorem dX7_tick_254 : decode cX7_tick 254 = .ok (.iconst 1, 1) := by decide +kernel
theorem dX7_tick_255 : decode cX7_tick 255 = .ok (.goto 4, 3) := by decide +kernel
theorem dX7_tick_258 : decode cX7_tick 258 = .ok (.iconst 0, 1) := by decide +kernel
theorem dX7_tick_259 : decode cX7_tick 259 = .ok (.putfield 76, 3) := by decide +kernel
theorem dX7_tick_262 : decode cX7_tick 262 = .ok (.goto (-235), 3) := by decide +kernel
theorem dX7_tick_265 : decode cX7_tick 265 = .ok (.iload_n 2, 1) := by decide +kernel
theorem dX7_tick_266 : decode cX7_tick 266 = .ok (.ireturn, 1) := by decide +kernel
theorem dX7_stop_0 : decode cX7_stop 0 = .ok (.aload_n 0, 1) := by decide +kernel
theorem dX7_stop_1 : decode cX7_stop 1 = .ok (.iconst 0, 1) := by decide +kernel
theorem dX7_stop_2 : decode cX7_stop 2 = .ok (.putfield 73, 3) := by decide +kernel
theorem dX7_stop_5 : decode cX7_stop 5 = .ok (.aload_n 0, 1) := by decide +kernel
theorem dX7_stop_6 : decode cX7_stop 6 = .ok (.getfield 76, 3) := by decide +kernel
theorem dX7_stop_9 : decode cX7_stop 9 = .ok (.ifCond .eq 25, 3) := by decide +kernel
theorem dX7_stop_12 : decode cX7_stop 12 = .ok (.aload_n 0, 1) := by decide +kernel
theorem dX7_stop_13 : decode cX7_stop 13 = .ok (.getfield 162, 3) := by decide +kernel
theorem dX7_stop_16 : decode cX7_stop 16 = .ok (.ifCond .ne 18, 3) := by decide +kernel
theorem dX7_stop_19 : decode cX7_stop 19 = .ok (.aload_n 0, 1) := by decide +kernel
theorem dX7_stop_20 : decode cX7_stop 20 = .ok (.aload_n 0, 1) := by decide +kernel
theorem dX7_stop_21 : decode cX7_stop 21 = .ok (.getfield 150, 3) := by decide +kernel
theorem dX7_stop_24 : decode cX7_stop 24 = .ok (.aload_n 0, 1) := by decide +kernel
theorem dX7_stop_25 : decode cX7_stop 25 = .ok (.getfield 153, 3) := by decide +kernel
theorem dX7_stop_28 : decode cX7_stop 28 = .ok (.invokevirtual 135, 3) := by decide +kernel
theorem dX7_stop_31 : decode cX7_stop 31 = .ok (.ifCond .ne 5, 3) := by decide +kernel
theorem dX7_stop_34 : decode cX7_stop 34 = .ok (.iconst (-1), 1) := by decide +kernel
theorem dX7_stop_35 : decode cX7_stop 35 = .ok (.ireturn, 1) := by decide +kernel
theorem dX7_stop_36 : decode cX7_stop 36 = .ok (.aload_n 0, 1) := by decide +kernel
theorem dX7_stop_37 : decode cX7_stop 37 = .ok (.invokevirtual 141, 3) := by decide +kernel
theorem dX7_stop_40 : decode cX7_stop 40 = .ok (.aload_n 0, 1) := by decide +kernel
theorem dX7_stop_41 : decode cX7_stop 41 = .ok (.iconst 1, 1) := by decide +kernel
theorem dX7_stop_42 : decode cX7_stop 42 = .ok (.putfield 162, 3) := by decide +kernel
theorem dX7_stop_45 : decode cX7_stop 45 = .ok (.aload_n 0, 1) := by decide +kernel
theorem dX7_stop_46 : decode cX7_stop 46 = .ok (.getfield 165, 3) := by decide +kernel
theorem dX7_stop_49 : decode cX7_stop 49 = .ok (.ireturn, 1) := by decide +kernel
theorem dX7_place_0 : decode cX7_place 0 = .ok (.aload_n 0, 1) := by decide +kernel
theorem dX7_place_1 : decode cX7_place 1 = .ok (.iload_n 1, 1) := by decide +kernel
theorem dX7_place_2 : decode cX7_place 2 = .ok (.iconst 0, 1) := by decide +kernel
theorem dX7_place_3 : decode cX7_place 3 = .ok (.iconst 2, 1) := by decide +kernel
theorem dX7_place_4 : decode cX7_place 4 = .ok (.invokestatic 80, 3) := by decide +kernel
theorem dX7_place_7 : decode cX7_place 7 = .ok (.ifCond .eq 7, 3) := by decide +kernel
theorem dX7_place_10 : decode cX7_place 10 = .ok (.iconst 0, 1) := by decide +kernel
theorem dX7_place_11 : decode cX7_place 11 = .ok (.goto 4, 3) := by decide +kernel
theorem dX7_place_14 : decode cX7_place 14 = .ok (.iconst 1, 1) := by decide +kernel
theorem dX7_place_15 : decode cX7_place 15 = .ok (.putfield 73, 3) := by decide +kernel
theorem dX7_place_18 : decode cX7_place 18 = .ok (.aload_n 0, 1) := by decide +kernel
theorem dX7_place_19 : decode cX7_place 19 = .ok (.getfield 73, 3) := by decide +kernel
theorem dX7_place_22 : decode cX7_place 22 = .ok (.ifCond .le 7, 3) := by decide +kernel
theorem dX7_place_25 : decode cX7_place 25 = .ok (.iconst 0, 1) := by decide +kernel
theorem dX7_place_26 : decode cX7_place 26 = .ok (.goto 22, 3) := by decide +kernel
theorem dX7_place_29 : decode cX7_place 29 = .ok (.iload_n 2, 1) := by decide +kernel
theorem dX7_place_30 : decode cX7_place 30 = .ok (.ifCond .eq 12, 3) := by decide +kernel
theorem dX7_place_33 : decode cX7_place 33 = .ok (.aload_n 0, 1) := by decide +kernel
theorem dX7_place_34 : decode cX7_place 34 = .ok (.getfield 51, 3) := by decide +kernel
theorem dX7_place_37 : decode cX7_place 37 = .ok (.iload_n 1, 1) := by decide +kernel
theorem dX7_place_38 : decode cX7_place 38 = .ok (.iaload, 1) := by decide +kernel
theorem dX7_place_39 : decode cX7_place 39 = .ok (.goto 9, 3) := by decide +kernel
theorem dX7_place_42 : decode cX7_place 42 = .ok (.aload_n 0, 1) := by decide +kernel
theorem dX7_place_43 : decode cX7_place 43 = .ok (.getfield 48, 3) := by decide +kernel
theorem dX7_place_46 : decode cX7_place 46 = .ok (.iload_n 1, 1) := by decide +kernel
theorem dX7_place_47 : decode cX7_place 47 = .ok (.iaload, 1) := by decide +kernel
theorem dX7_place_48 : decode cX7_place 48 = .ok (.ireturn, 1) := by decide +kernel
theorem dX7_state_0 : decode cX7_state 0 = .ok (.aload_n 0, 1) := by decide +kernel
theorem dX7_state_1 : decode cX7_state 1 = .ok (.iconst 0, 1) := by decide +kernel
theorem dX7_state_2 : decode cX7_state 2 = .ok (.putfield 73, 3) := by decide +kernel
theorem dX7_state_5 : decode cX7_state 5 = .ok (.iload_n 1, 1) := by decide +kernel
theorem dX7_state_6 : decode cX7_state 6 = .ok (.tableswitch 111 0 8 #[50, 63, 68, 73, 78, 83, 88, 93, 98], 50) := by decide +kernel
theorem dX7_state_56 : decode cX7_state 56 = .ok (.aload_n 0, 1) := by decide +kernel
theorem dX7_state_57 : decode cX7_state 57 = .ok (.getfield 76, 3) := by decide +kernel
theorem dX7_state_60 : decode cX7_state 60 = .ok (.ifCond .eq 7, 3) := by decide +kernel
theorem dX7_state_63 : decode cX7_state 63 = .ok (.iconst 1, 1) := by decide +kernel
theorem dX7_state_64 : decode cX7_state 64 = .ok (.goto 4, 3) := by decide +kernel
theorem dX7_state_67 : decode cX7_state 67 = .ok (.iconst 0, 1) := by decide +kernel
theorem dX7_state_68 : decode cX7_state 68 = .ok (.ireturn, 1) := by decide +kernel
theorem dX7_state_69 : decode cX7_state 69 = .ok (.aload_n 0, 1) := by decide +kernel
theorem dX7_state_70 : decode cX7_state 70 = .ok (.getfield 150, 3) := by decide +kernel
theorem dX7_state_73 : decode cX7_state 73 = .ok (.ireturn, 1) := by decide +kernel
theorem dX7_state_74 : decode cX7_state 74 = .ok (.aload_n 0, 1) := by decide +kernel
theorem dX7_state_75 : decode cX7_state 75 = .ok (.getfield 153, 3) := by decide +kernel
theorem dX7_state_78 : decode cX7_state 78 = .ok (.ireturn, 1) := by decide +kernel
theorem dX7_state_79 : decode cX7_state 79 = .ok (.aload_n 0, 1) := by decide +kernel
theorem dX7_state_80 : decode cX7_state 80 = .ok (.getfield 147, 3) := by decide +kernel
theorem dX7_state_83 : decode cX7_state 83 = .ok (.ireturn, 1) := by decide +kernel
theorem dX7_state_84 : decode cX7_state 84 = .ok (.aload_n 0, 1) := by decide +kernel
theorem dX7_state_85 : decode cX7_state 85 = .ok (.getfield 144, 3) := by decide +kernel
theorem dX7_state_88 : decode cX7_state 88 = .ok (.ireturn, 1) := by decide +kernel
theorem dX7_state_89 : decode cX7_state 89 = .ok (.aload_n 0, 1) := by decide +kernel
theorem dX7_state_90 : decode cX7_state 90 = .ok (.getfield 156, 3) := by decide +kernel
theorem dX7_state_93 : decode cX7_state 93 = .ok (.ireturn, 1) := by decide +kernel
theorem dX7_state_94 : decode cX7_state 94 = .ok (.aload_n 0, 1) := by decide +kernel
theorem dX7_state_95 : decode cX7_state 95 = .ok (.getfield 159, 3) := by decide +kernel
theorem dX7_state_98 : decode cX7_state 98 = .ok (.ireturn, 1) := by decide +kernel
theorem dX7_state_99 : decode cX7_state 99 = .ok (.aload_n 0, 1) := by decide +kernel
theorem dX7_state_100 : decode cX7_state 100 = .ok (.getfield 57, 3) := by decide +kernel
theorem dX7_state_103 : decode cX7_state 103 = .ok (.ireturn, 1) := by decide +kernel
theorem dX7_state_104 : decode cX7_state 104 = .ok (.aload_n 0, 1) := by decide +kernel
theorem dX7_state_105 : decode cX7_state 105 = .ok (.getfield 162, 3) := by decide +kernel
theorem dX7_state_108 : decode cX7_state 108 = .ok (.ifCond .eq 7, 3) := by decide +kernel
theorem dX7_state_111 : decode cX7_state 111 = .ok (.iconst 1, 1) := by decide +kernel
theorem dX7_state_112 : decode cX7_state 112 = .ok (.goto 4, 3) := by decide +kernel
theorem dX7_state_115 : decode cX7_state 115 = .ok (.iconst 0, 1) := by decide +kernel
theorem dX7_state_116 : decode cX7_state 116 = .ok (.ireturn, 1) := by decide +kernel
theorem dX7_state_117 : decode cX7_state 117 = .ok (.iconst (-1), 1) := by decide +kernel
theorem dX7_state_118 : decode cX7_state 118 = .ok (.ireturn, 1) := by decide +kernel
theorem dX7_at_0 : decode cX7_at 0 = .ok (.aload_n 0, 1) := by decide +kernel
theorem dX7_at_1 : decode cX7_at 1 = .ok (.iconst 0, 1) := by decide +kernel
theorem dX7_at_2 : decode cX7_at 2 = .ok (.putfield 73, 3) := by decide +kernel
theorem dX7_at_5 : decode cX7_at 5 = .ok (.iload_n 1, 1) := by decide +kernel
theorem dX7_at_6 : decode cX7_at 6 = .ok (.iconst 0, 1) := by decide +kernel
theorem dX7_at_7 : decode cX7_at 7 = .ok (.iconst 2, 1) := by decide +kernel
theorem dX7_at_8 : decode cX7_at 8 = .ok (.invokestatic 80, 3) := by decide +kernel
theorem dX7_at_11 : decode cX7_at 11 = .ok (.ifCond .eq 16, 3) := by decide +kernel
theorem dX7_at_14 : decode cX7_at 14 = .ok (.iload_n 2, 1) := by decide +kernel
theorem dX7_at_15 : decode cX7_at 15 = .ok (.sipush (-2000), 3) := by decide +kernel
theorem dX7_at_18 : decode cX7_at 18 = .ok (.sipush 2000, 3) := by decide +kernel
theorem dX7_at_21 : decode cX7_at 21 = .ok (.invokestatic 80, 3) := by decide +kernel
theorem dX7_at_24 : decode cX7_at 24 = .ok (.ifCond .ne 5, 3) := by decide +kernel
theorem dX7_at_27 : decode cX7_at 27 = .ok (.iconst 0, 1) := by decide +kernel
theorem dX7_at_28 : decode cX7_at 28 = .ok (.ireturn, 1) := by decide +kernel
theorem dX7_at_29 : decode cX7_at 29 = .ok (.aload_n 0, 1) := by decide +kernel
theorem dX7_at_30 : decode cX7_at 30 = .ok (.getfield 60, 3) := by decide +kernel
theorem dX7_at_33 : decode cX7_at 33 = .ok (.iload_n 1, 1) := by decide +kernel
theorem dX7_at_34 : decode cX7_at 34 = .ok (.iload_n 2, 1) := by decide +kernel
theorem dX7_at_35 : decode cX7_at 35 = .ok (.iastore, 1) := by decide +kernel
theorem dX7_at_36 : decode cX7_at 36 = .ok (.aload_n 0, 1) := by decide +kernel
theorem dX7_at_37 : decode cX7_at 37 = .ok (.getfield 63, 3) := by decide +kernel
theorem dX7_at_40 : decode cX7_at 40 = .ok (.iload_n 1, 1) := by decide +kernel
theorem dX7_at_41 : decode cX7_at 41 = .ok (.iconst 1, 1) := by decide +kernel
theorem dX7_at_42 : decode cX7_at 42 = .ok (.bastore, 1) := by decide +kernel
theorem dX7_at_43 : decode cX7_at 43 = .ok (.iconst 1, 1) := by decide +kernel
theorem dX7_at_44 : decode cX7_at 44 = .ok (.ireturn, 1) := by decide +kernel
theorem dX7_on_0 : decode cX7_on 0 = .ok (.aload_n 0, 1) := by decide +kernel
theorem dX7_on_1 : decode cX7_on 1 = .ok (.iconst 0, 1) := by decide +kernel
theorem dX7_on_2 : decode cX7_on 2 = .ok (.putfield 73, 3) := by decide +kernel
theorem dX7_on_5 : decode cX7_on 5 = .ok (.iload_n 1, 1) := by decide +kernel
theorem dX7_on_6 : decode cX7_on 6 = .ok (.iconst 0, 1) := by decide +kernel
theorem dX7_on_7 : decode cX7_on 7 = .ok (.iconst 2, 1) := by decide +kernel
theorem dX7_on_8 : decode cX7_on 8 = .ok (.invokestatic 80, 3) := by decide +kernel
theorem dX7_on_11 : decode cX7_on 11 = .ok (.ifCond .eq 12, 3) := by decide +kernel
theorem dX7_on_14 : decode cX7_on 14 = .ok (.aload_n 0, 1) := by decide +kernel
theorem dX7_on_15 : decode cX7_on 15 = .ok (.getfield 63, 3) := by decide +kernel
theorem dX7_on_18 : decode cX7_on 18 = .ok (.iload_n 1, 1) := by decide +kernel
theorem dX7_on_19 : decode cX7_on 19 = .ok (.baload, 1) := by decide +kernel
theorem dX7_on_20 : decode cX7_on 20 = .ok (.ifCond .ne 5, 3) := by decide +kernel
theorem dX7_on_23 : decode cX7_on 23 = .ok (.iconst (-1), 1) := by decide +kernel
theorem dX7_on_24 : decode cX7_on 24 = .ok (.ireturn, 1) := by decide +kernel
theorem dX7_on_25 : decode cX7_on 25 = .ok (.aload_n 0, 1) := by decide +kernel
theorem dX7_on_26 : decode cX7_on 26 = .ok (.getfield 51, 3) := by decide +kernel
theorem dX7_on_29 : decode cX7_on 29 = .ok (.iload_n 1, 1) := by decide +kernel
theorem dX7_on_30 : decode cX7_on 30 = .ok (.iaload, 1) := by decide +kernel
theorem dX7_on_31 : decode cX7_on 31 = .ok (.aload_n 0, 1) := by decide +kernel
theorem dX7_on_32 : decode cX7_on 32 = .ok (.getfield 60, 3) := by decide +kernel
theorem dX7_on_35 : decode cX7_on 35 = .ok (.iload_n 1, 1) := by decide +kernel
theorem dX7_on_36 : decode cX7_on 36 = .ok (.iaload, 1) := by decide +kernel
theorem dX7_on_37 : decode cX7_on 37 = .ok (.if_icmp .lt 7, 3) := by decide +kernel
theorem dX7_on_40 : decode cX7_on 40 = .ok (.iconst 1, 1) := by decide +kernel
theorem dX7_on_41 : decode cX7_on 41 = .ok (.goto 4, 3) := by decide +kernel
theorem dX7_on_44 : decode cX7_on 44 = .ok (.iconst 0, 1) := by decide +kernel
theorem dX7_on_45 : decode cX7_on 45 = .ok (.ireturn, 1) := by decide +kernel
theorem dX7_home_0 : decode cX7_home 0 = .ok (.aload_n 0, 1) := by decide +kernel
theorem dX7_home_1 : decode cX7_home 1 = .ok (.iconst 0, 1) := by decide +kernel
theorem dX7_home_2 : decode cX7_home 2 = .ok (.putfield 73, 3) := by decide +kernel
theorem dX7_home_5 : decode cX7_home 5 = .ok (.aload_n 0, 1) := by decide +kernel
theorem dX7_home_6 : decode cX7_home 6 = .ok (.getfield 76, 3) := by decide +kernel
theorem dX7_home_9 : decode cX7_home 9 = .ok (.ifCond .ne 21, 3) := by decide +kernel
theorem dX7_home_12 : decode cX7_home 12 = .ok (.iload_n 1, 1) := by decide +kernel
theorem dX7_home_13 : decode cX7_home 13 = .ok (.iconst 0, 1) := by decide +kernel
theorem dX7_home_14 : decode cX7_home 14 = .ok (.iconst 2, 1) := by decide +kernel
theorem dX7_home_15 : decode cX7_home 15 = .ok (.invokestatic 80, 3) := by decide +kernel
theorem dX7_home_18 : decode cX7_home 18 = .ok (.ifCond .eq 12, 3) := by decide +kernel
theorem dX7_home_21 : decode cX7_home 21 = .ok (.aload_n 0, 1) := by decide +kernel
theorem dX7_home_22 : decode cX7_home 22 = .ok (.getfield 63, 3) := by decide +kernel
theorem dX7_home_25 : decode cX7_home 25 = .ok (.iload_n 1, 1) := by decide +kernel
theorem dX7_home_26 : decode cX7_home 26 = .ok (.baload, 1) := by decide +kernel
theorem dX7_home_27 : decode cX7_home 27 = .ok (.ifCond .ne 5, 3) := by decide +kernel
theorem dX7_home_30 : decode cX7_home 30 = .ok (.iconst (-1), 1) := by decide +kernel
theorem dX7_home_31 : decode cX7_home 31 = .ok (.ireturn, 1) := by decide +kernel
theorem dX7_home_32 : decode cX7_home 32 = .ok (.iconst 0, 1) := by decide +kernel
theorem dX7_home_33 : decode cX7_home 33 = .ok (.istore_n 2, 1) := by decide +kernel
theorem dX7_home_34 : decode cX7_home 34 = .ok (.aload_n 0, 1) := by decide +kernel
theorem dX7_home_35 : decode cX7_home 35 = .ok (.getfield 51, 3) := by decide +kernel
theorem dX7_home_38 : decode cX7_home 38 = .ok (.iload_n 1, 1) := by decide +kernel
theorem dX7_home_39 : decode cX7_home 39 = .ok (.iaload, 1) := by decide +kernel
theorem dX7_home_40 : decode cX7_home 40 = .ok (.aload_n 0, 1) := by decide +kernel
theorem dX7_home_41 : decode cX7_home 41 = .ok (.getfield 60, 3) := by decide +kernel
theorem dX7_home_44 : decode cX7_home 44 = .ok (.iload_n 1, 1) := by decide +kernel
theorem dX7_home_45 : decode cX7_home 45 = .ok (.iaload, 1) := by decide +kernel
theorem dX7_home_46 : decode cX7_home 46 = .ok (.if_icmp .lt 34, 3) := by decide +kernel
theorem dX7_home_49 : decode cX7_home 49 = .ok (.aload_n 0, 1) := by decide +kernel
theorem dX7_home_50 : decode cX7_home 50 = .ok (.getfield 51, 3) := by decide +kernel
theorem dX7_home_53 : decode cX7_home 53 = .ok (.iload_n 1, 1) := by decide +kernel
theorem dX7_home_54 : decode cX7_home 54 = .ok (.iaload, 1) := by decide +kernel
theorem dX7_home_55 : decode cX7_home 55 = .ok (.aload_n 0, 1) := by decide +kernel
theorem dX7_home_56 : decode cX7_home 56 = .ok (.getfield 60, 3) := by decide +kernel
theorem dX7_home_59 : decode cX7_home 59 = .ok (.iload_n 1, 1) := by decide +kernel
theorem dX7_home_60 : decode cX7_home 60 = .ok (.iaload, 1) := by decide +kernel
theorem dX7_home_61 : decode cX7_home 61 = .ok (.if_icmp .lt 19, 3) := by decide +kernel
theorem dX7_home_64 : decode cX7_home 64 = .ok (.aload_n 0, 1) := by decide +kernel
theorem dX7_home_65 : decode cX7_home 65 = .ok (.getfield 51, 3) := by decide +kernel
theorem dX7_home_68 : decode cX7_home 68 = .ok (.iload_n 1, 1) := by decide +kernel
theorem dX7_home_69 : decode cX7_home 69 = .ok (.dup2, 1) := by decide +kernel
theorem dX7_home_70 : decode cX7_home 70 = .ok (.iaload, 1) := by decide +kernel
theorem dX7_home_71 : decode cX7_home 71 = .ok (.iconst 1, 1) := by decide +kernel
theorem dX7_home_72 : decode cX7_home 72 = .ok (.isub, 1) := by decide +kernel
theorem dX7_home_73 : decode cX7_home 73 = .ok (.iastore, 1) := by decide +kernel
theorem dX7_home_74 : decode cX7_home 74 = .ok (.iinc 2 1, 3) := by decide +kernel
theorem dX7_home_77 : decode cX7_home 77 = .ok (.goto (-28), 3) := by decide +kernel
theorem dX7_home_80 : decode cX7_home 80 = .ok (.aload_n 0, 1) := by decide +kernel
theorem dX7_home_81 : decode cX7_home 81 = .ok (.getfield 51, 3) := by decide +kernel
theorem dX7_home_84 : decode cX7_home 84 = .ok (.iload_n 1, 1) := by decide +kernel
theorem dX7_home_85 : decode cX7_home 85 = .ok (.iaload, 1) := by decide +kernel
theorem dX7_home_86 : decode cX7_home 86 = .ok (.aload_n 0, 1) := by decide +kernel
theorem dX7_home_87 : decode cX7_home 87 = .ok (.getfield 60, 3) := by decide +kernel
theorem dX7_home_90 : decode cX7_home 90 = .ok (.iload_n 1, 1) := by decide +kernel
theorem dX7_home_91 : decode cX7_home 91 = .ok (.iaload, 1) := by decide +kernel
theorem dX7_home_92 : decode cX7_home 92 = .ok (.if_icmp .ge 19, 3) := by decide +kernel
theorem dX7_home_95 : decode cX7_home 95 = .ok (.aload_n 0, 1) := by decide +kernel
theorem dX7_home_96 : decode cX7_home 96 = .ok (.getfield 51, 3) := by decide +kernel
theorem dX7_home_99 : decode cX7_home 99 = .ok (.iload_n 1, 1) := by decide +kernel
theorem dX7_home_100 : decode cX7_home 100 = .ok (.dup2, 1) := by decide +kernel
theorem dX7_home_101 : decode cX7_home 101 = .ok (.iaload, 1) := by decide +kernel
theorem dX7_home_102 : decode cX7_home 102 = .ok (.iconst 1, 1) := by decide +kernel
theorem dX7_home_103 : decode cX7_home 103 = .ok (.iadd, 1) := by decide +kernel
theorem dX7_home_104 : decode cX7_home 104 = .ok (.iastore, 1) := by decide +kernel
theorem dX7_home_105 : decode cX7_home 105 = .ok (.iinc 2 1, 3) := by decide +kernel
theorem dX7_home_108 : decode cX7_home 108 = .ok (.goto (-28), 3) := by decide +kernel
theorem dX7_home_111 : decode cX7_home 111 = .ok (.aload_n 0, 1) := by decide +kernel
theorem dX7_home_112 : decode cX7_home 112 = .ok (.getfield 48, 3) := by decide +kernel
theorem dX7_home_115 : decode cX7_home 115 = .ok (.iload_n 1, 1) := by decide +kernel
theorem dX7_home_116 : decode cX7_home 116 = .ok (.iconst 0, 1) := by decide +kernel
theorem dX7_home_117 : decode cX7_home 117 = .ok (.iastore, 1) := by decide +kernel
theorem dX7_home_118 : decode cX7_home 118 = .ok (.iload_n 2, 1) := by decide +kernel
theorem dX7_home_119 : decode cX7_home 119 = .ok (.ireturn, 1) := by decide +kernel
theorem dX7_table_0 : decode cX7_table 0 = .ok (.aload_n 0, 1) := by decide +kernel
theorem dX7_table_1 : decode cX7_table 1 = .ok (.iconst 0, 1) := by decide +kernel
theorem dX7_table_2 : decode cX7_table 2 = .ok (.putfield 73, 3) := by decide +kernel
theorem dX7_table_5 : decode cX7_table 5 = .ok (.iload_n 1, 1) := by decide +kernel
theorem dX7_table_6 : decode cX7_table 6 = .ok (.iconst 1, 1) := by decide +kernel
theorem dX7_table_7 : decode cX7_table 7 = .ok (.if_icmp .eq 19, 3) := by decide +kernel
theorem dX7_table_10 : decode cX7_table 10 = .ok (.iload_n 1, 1) := by decide +kernel
theorem dX7_table_11 : decode cX7_table 11 = .ok (.iconst 2, 1) := by decide +kernel
theorem dX7_table_12 : decode cX7_table 12 = .ok (.if_icmp .eq 14, 3) := by decide +kernel
theorem dX7_table_15 : decode cX7_table 15 = .ok (.iload_n 1, 1) := by decide +kernel
theorem dX7_table_16 : decode cX7_table 16 = .ok (.iconst 4, 1) := by decide +kernel
theorem dX7_table_17 : decode cX7_table 17 = .ok (.if_icmp .eq 9, 3) := by decide +kernel
theorem dX7_table_20 : decode cX7_table 20 = .ok (.iload_n 1, 1) := by decide +kernel
theorem dX7_table_21 : decode cX7_table 21 = .ok (.bipush 8, 2) := by decide +kernel
theorem dX7_table_23 : decode cX7_table 23 = .ok (.if_icmp .ne 13, 3) := by decide +kernel
theorem dX7_table_26 : decode cX7_table 26 = .ok (.iload_n 2, 1) := by decide +kernel
theorem dX7_table_27 : decode cX7_table 27 = .ok (.iconst 1, 1) := by decide +kernel
theorem dX7_table_28 : decode cX7_table 28 = .ok (.bipush 100, 2) := by decide +kernel
theorem dX7_table_30 : decode cX7_table 30 = .ok (.invokestatic 80, 3) := by decide +kernel
theorem dX7_table_33 : decode cX7_table 33 = .ok (.ifCond .ne 5, 3) := by decide +kernel
theorem dX7_table_36 : decode cX7_table 36 = .ok (.iconst 0, 1) := by decide +kernel
theorem dX7_table_37 : decode cX7_table 37 = .ok (.ireturn, 1) := by decide +kernel
theorem dX7_table_38 : decode cX7_table 38 = .ok (.aload_n 0, 1) := by decide +kernel
theorem dX7_table_39 : decode cX7_table 39 = .ok (.iload_n 1, 1) := by decide +kernel
theorem dX7_table_40 : decode cX7_table 40 = .ok (.putfield 174, 3) := by decide +kernel
theorem dX7_table_43 : decode cX7_table 43 = .ok (.aload_n 0, 1) := by decide +kernel
theorem dX7_table_44 : decode cX7_table 44 = .ok (.iload_n 2, 1) := by decide +kernel
theorem dX7_table_45 : decode cX7_table 45 = .ok (.putfield 177, 3) := by decide +kernel
theorem dX7_table_48 : decode cX7_table 48 = .ok (.iconst 0, 1) := by decide +kernel
theorem dX7_table_49 : decode cX7_table 49 = .ok (.istore_n 3, 1) := by decide +kernel
theorem dX7_table_50 : decode cX7_table 50 = .ok (.iload_n 3, 1) := by decide +kernel
theorem dX7_table_51 : decode cX7_table 51 = .ok (.aload_n 0, 1) := by decide +kernel
theorem dX7_table_52 : decode cX7_table 52 = .ok (.getfield 174, 3) := by decide +kernel
theorem dX7_table_55 : decode cX7_table 55 = .ok (.if_icmp .gt 31, 3) := by decide +kernel
theorem dX7_table_58 : decode cX7_table 58 = .ok (.aload_n 0, 1) := by decide +kernel
theorem dX7_table_59 : decode cX7_table 59 = .ok (.getfield 66, 3) := by decide +kernel
theorem dX7_table_62 : decode cX7_table 62 = .ok (.iload_n 3, 1) := by decide +kernel
theorem dX7_table_63 : decode cX7_table 63 = .ok (.aload_n 0, 1) := by decide +kernel
theorem dX7_table_64 : decode cX7_table 64 = .ok (.getfield 177, 3) := by decide +kernel
theorem dX7_table_67 : decode cX7_table 67 = .ok (.aload_n 0, 1) := by decide +kernel
theorem dX7_table_68 : decode cX7_table 68 = .ok (.getfield 174, 3) := by decide +kernel
theorem dX7_table_71 : decode cX7_table 71 = .ok (.iload_n 3, 1) := by decide +kernel
theorem dX7_table_72 : decode cX7_table 72 = .ok (.isub, 1) := by decide +kernel
theorem dX7_table_73 : decode cX7_table 73 = .ok (.imul, 1) := by decide +kernel
theorem dX7_table_74 : decode cX7_table 74 = .ok (.aload_n 0, 1) := by decide +kernel
theorem dX7_table_75 : decode cX7_table 75 = .ok (.getfield 174, 3) := by decide +kernel
theorem dX7_table_78 : decode cX7_table 78 = .ok (.idiv, 1) := by decide +kernel
theorem dX7_table_79 : decode cX7_table 79 = .ok (.iastore, 1) := by decide +kernel
theorem dX7_table_80 : decode cX7_table 80 = .ok (.iinc 3 1, 3) := by decide +kernel
theorem dX7_table_83 : decode cX7_table 83 = .ok (.goto (-33), 3) := by decide +kernel
theorem dX7_table_86 : decode cX7_table 86 = .ok (.iconst 1, 1) := by decide +kernel
theorem dX7_table_87 : decode cX7_table 87 = .ok (.ireturn, 1) := by decide +kernel
theorem dX7_set_0 : decode cX7_set 0 = .ok (.aload_n 0, 1) := by decide +kernel
theorem dX7_set_1 : decode cX7_set 1 = .ok (.iconst 0, 1) := by decide +kernel
theorem dX7_set_2 : decode cX7_set 2 = .ok (.putfield 73, 3) := by decide +kernel
theorem dX7_set_5 : decode cX7_set 5 = .ok (.iload_n 1, 1) := by decide +kernel
theorem dX7_set_6 : decode cX7_set 6 = .ok (.iconst 0, 1) := by decide +kernel
theorem dX7_set_7 : decode cX7_set 7 = .ok (.aload_n 0, 1) := by decide +kernel
theorem dX7_set_8 : decode cX7_set 8 = .ok (.getfield 174, 3) := by decide +kernel
theorem dX7_set_11 : decode cX7_set 11 = .ok (.invokestatic 80, 3) := by decide +kernel
theorem dX7_set_14 : decode cX7_set 14 = .ok (.ifCond .eq 15, 3) := by decide +kernel
theorem dX7_set_17 : decode cX7_set 17 = .ok (.iload_n 2, 1) := by decide +kernel
theorem dX7_set_18 : decode cX7_set 18 = .ok (.iconst 0, 1) := by decide +kernel
theorem dX7_set_19 : decode cX7_set 19 = .ok (.aload_n 0, 1) := by decide +kernel
theorem dX7_set_20 : decode cX7_set 20 = .ok (.getfield 177, 3) := by decide +kernel
theorem dX7_set_23 : decode cX7_set 23 = .ok (.invokestatic 80, 3) := by decide +kernel
theorem dX7_set_26 : decode cX7_set 26 = .ok (.ifCond .ne 5, 3) := by decide +kernel
theorem dX7_set_29 : decode cX7_set 29 = .ok (.iconst 0, 1) := by decide +kernel
theorem dX7_set_30 : decode cX7_set 30 = .ok (.ireturn, 1) := by decide +kernel
theorem dX7_set_31 : decode cX7_set 31 = .ok (.aload_n 0, 1) := by decide +kernel
theorem dX7_set_32 : decode cX7_set 32 = .ok (.getfield 66, 3) := by decide +kernel
theorem dX7_set_35 : decode cX7_set 35 = .ok (.iload_n 1, 1) := by decide +kernel
theorem dX7_set_36 : decode cX7_set 36 = .ok (.iload_n 2, 1) := by decide +kernel
theorem dX7_set_37 : decode cX7_set 37 = .ok (.iastore, 1) := by decide +kernel
theorem dX7_set_38 : decode cX7_set 38 = .ok (.iconst 1, 1) := by decide +kernel
theorem dX7_set_39 : decode cX7_set 39 = .ok (.ireturn, 1) := by decide +kernel
theorem dX7_current_0 : decode cX7_current 0 = .ok (.aload_n 0, 1) := by decide +kernel
theorem dX7_current_1 : decode cX7_current 1 = .ok (.iload_n 1, 1) := by decide +kernel
theorem dX7_current_2 : decode cX7_current 2 = .ok (.iconst 0, 1) := by decide +kernel
theorem dX7_current_3 : decode cX7_current 3 = .ok (.sipush 1000, 3) := by decide +kernel
theorem dX7_current_6 : decode cX7_current 6 = .ok (.invokestatic 80, 3) := by decide +kernel
theorem dX7_current_9 : decode cX7_current 9 = .ok (.ifCond .eq 12, 3) := by decide +kernel
theorem dX7_current_12 : decode cX7_current 12 = .ok (.iload_n 2, 1) := by decide +kernel
theorem dX7_current_13 : decode cX7_current 13 = .ok (.iconst 0, 1) := by decide +kernel
theorem dX7_current_14 : decode cX7_current 14 = .ok (.iconst 1, 1) := by decide +kernel
theorem dX7_current_15 : decode cX7_current 15 = .ok (.invokestatic 80, 3) := by decide +kernel
theorem dX7_current_18 : decode cX7_current 18 = .ok (.ifCond .ne 7, 3) := by decide +kernel
theorem dX7_current_21 : decode cX7_current 21 = .ok (.iconst 1, 1) := by decide +kernel
theorem dX7_current_22 : decode cX7_current 22 = .ok (.goto 4, 3) := by decide +kernel
theorem dX7_current_25 : decode cX7_current 25 = .ok (.iconst 0, 1) := by decide +kernel
theorem dX7_current_26 : decode cX7_current 26 = .ok (.putfield 73, 3) := by decide +kernel
theorem dX7_current_29 : decode cX7_current 29 = .ok (.aload_n 0, 1) := by decide +kernel
theorem dX7_current_30 : decode cX7_current 30 = .ok (.getfield 73, 3) := by decide +kernel
theorem dX7_current_33 : decode cX7_current 33 = .ok (.ifCond .le 5, 3) := by decide +kernel
theorem dX7_current_36 : decode cX7_current 36 = .ok (.iconst 0, 1) := by decide +kernel
theorem dX7_current_37 : decode cX7_current 37 = .ok (.ireturn, 1) := by decide +kernel
theorem dX7_current_38 : decode cX7_current 38 = .ok (.iload_n 1, 1) := by decide +kernel
theorem dX7_current_39 : decode cX7_current 39 = .ok (.aload_n 0, 1) := by decide +kernel
theorem dX7_current_40 : decode cX7_current 40 = .ok (.getfield 174, 3) := by decide +kernel
theorem dX7_current_43 : decode cX7_current 43 = .ok (.irem, 1) := by decide +kernel
theorem dX7_current_44 : decode cX7_current 44 = .ok (.istore_n 3, 1) := by decide +kernel
theorem dX7_current_45 : decode cX7_current 45 = .ok (.aload_n 0, 1) := by decide +kernel
theorem dX7_current_46 : decode cX7_current 46 = .ok (.getfield 66, 3) := by decide +kernel
theorem dX7_current_49 : decode cX7_current 49 = .ok (.iload_n 3, 1) := by decide +kernel
theorem dX7_current_50 : decode cX7_current 50 = .ok (.iaload, 1) := by decide +kernel
theorem dX7_current_51 : decode cX7_current 51 = .ok (.istore 4, 2) := by decide +kernel
theorem dX7_current_53 : decode cX7_current 53 = .ok (.aload_n 0, 1) := by decide +kernel
theorem dX7_current_54 : decode cX7_current 54 = .ok (.getfield 66, 3) := by decide +kernel
theorem dX7_current_57 : decode cX7_current 57 = .ok (.aload_n 0, 1) := by decide +kernel
theorem dX7_current_58 : decode cX7_current 58 = .ok (.getfield 174, 3) := by decide +kernel
theorem dX7_current_61 : decode cX7_current 61 = .ok (.iload_n 3, 1) := by decide +kernel
theorem dX7_current_62 : decode cX7_current 62 = .ok (.isub, 1) := by decide +kernel
theorem dX7_current_63 : decode cX7_current 63 = .ok (.iaload, 1) := by decide +kernel
theorem dX7_current_64 : decode cX7_current 64 = .ok (.istore 5, 2) := by decide +kernel
theorem dX7_current_66 : decode cX7_current 66 = .ok (.iload_n 1, 1) := by decide +kernel
theorem dX7_current_67 : decode cX7_current 67 = .ok (.aload_n 0, 1) := by decide +kernel
theorem dX7_current_68 : decode cX7_current 68 = .ok (.getfield 174, 3) := by decide +kernel
theorem dX7_current_71 : decode cX7_current 71 = .ok (.idiv, 1) := by decide +kernel
theorem dX7_current_72 : decode cX7_current 72 = .ok (.iconst 4, 1) := by decide +kernel
theorem dX7_current_73 : decode cX7_current 73 = .ok (.irem, 1) := by decide +kernel
theorem dX7_current_74 : decode cX7_current 74 = .ok (.tableswitch 65 0 2 #[26, 38, 51], 26) := by decide +kernel
theorem dX7_current_100 : decode cX7_current 100 = .ok (.iload_n 2, 1) := by decide +kernel
theorem dX7_current_101 : decode cX7_current 101 = .ok (.ifCond .ne 8, 3) := by decide +kernel
theorem dX7_current_104 : decode cX7_current 104 = .ok (.iload 4, 2) := by decide +kernel
theorem dX7_current_106 : decode cX7_current 106 = .ok (.goto 5, 3) := by decide +kernel
theorem dX7_current_109 : decode cX7_current 109 = .ok (.iload 5, 2) := by decide +kernel
theorem dX7_current_111 : decode cX7_current 111 = .ok (.ireturn, 1) := by decide +kernel
theorem dX7_current_112 : decode cX7_current 112 = .ok (.iload_n 2, 1) := by decide +kernel
theorem dX7_current_113 : decode cX7_current 113 = .ok (.ifCond .ne 9, 3) := by decide +kernel
theorem dX7_current_116 : decode cX7_current 116 = .ok (.iload 5, 2) := by decide +kernel
theorem dX7_current_118 : decode cX7_current 118 = .ok (.ineg, 1) := by decide +kernel
theorem dX7_current_119 : decode cX7_current 119 = .ok (.goto 5, 3) := by decide +kernel
theorem dX7_current_122 : decode cX7_current 122 = .ok (.iload 4, 2) := by decide +kernel
theorem dX7_current_124 : decode cX7_current 124 = .ok (.ireturn, 1) := by decide +kernel
theorem dX7_current_125 : decode cX7_current 125 = .ok (.iload_n 2, 1) := by decide +kernel
theorem dX7_current_126 : decode cX7_current 126 = .ok (.ifCond .ne 9, 3) := by decide +kernel
theorem dX7_current_129 : decode cX7_current 129 = .ok (.iload 4, 2) := by decide +kernel
theorem dX7_current_131 : decode cX7_current 131 = .ok (.ineg, 1) := by decide +kernel
theorem dX7_current_132 : decode cX7_current 132 = .ok (.goto 6, 3) := by decide +kernel
theorem dX7_current_135 : decode cX7_current 135 = .ok (.iload 5, 2) := by decide +kernel
theorem dX7_current_137 : decode cX7_current 137 = .ok (.ineg, 1) := by decide +kernel
theorem dX7_current_138 : decode cX7_current 138 = .ok (.ireturn, 1) := by decide +kernel
theorem dX7_current_139 : decode cX7_current 139 = .ok (.iload_n 2, 1) := by decide +kernel
theorem dX7_current_140 : decode cX7_current 140 = .ok (.ifCond .ne 8, 3) := by decide +kernel
theorem dX7_current_143 : decode cX7_current 143 = .ok (.iload 5, 2) := by decide +kernel
theorem dX7_current_145 : decode cX7_current 145 = .ok (.goto 6, 3) := by decide +kernel
theorem dX7_current_148 : decode cX7_current 148 = .ok (.iload 4, 2) := by decide +kernel
theorem dX7_current_150 : decode cX7_current 150 = .ok (.ineg, 1) := by decide +kernel
theorem dX7_current_151 : decode cX7_current 151 = .ok (.ireturn, 1) := by decide +kernel
theorem dX7_missOf_0 : decode cX7_missOf 0 = .ok (.aload_n 0, 1) := by decide +kernel
theorem dX7_missOf_1 : decode cX7_missOf 1 = .ok (.getfield 66, 3) := by decide +kernel
theorem dX7_missOf_4 : decode cX7_missOf 4 = .ok (.iload_n 1, 1) := by decide +kernel
theorem dX7_missOf_5 : decode cX7_missOf 5 = .ok (.iaload, 1) := by decide +kernel
theorem dX7_missOf_6 : decode cX7_missOf 6 = .ok (.aload_n 0, 1) := by decide +kernel
theorem dX7_missOf_7 : decode cX7_missOf 7 = .ok (.getfield 66, 3) := by decide +kernel
theorem dX7_missOf_10 : decode cX7_missOf 10 = .ok (.iload_n 1, 1) := by decide +kernel
theorem dX7_missOf_11 : decode cX7_missOf 11 = .ok (.iaload, 1) := by decide +kernel
theorem dX7_missOf_12 : decode cX7_missOf 12 = .ok (.imul, 1) := by decide +kernel
theorem dX7_missOf_13 : decode cX7_missOf 13 = .ok (.aload_n 0, 1) := by decide +kernel
theorem dX7_missOf_14 : decode cX7_missOf 14 = .ok (.getfield 66, 3) := by decide +kernel
theorem dX7_missOf_17 : decode cX7_missOf 17 = .ok (.aload_n 0, 1) := by decide +kernel
theorem dX7_missOf_18 : decode cX7_missOf 18 = .ok (.getfield 174, 3) := by decide +kernel
theorem dX7_missOf_21 : decode cX7_missOf 21 = .ok (.iload_n 1, 1) := by decide +kernel
theorem dX7_missOf_22 : decode cX7_missOf 22 = .ok (.isub, 1) := by decide +kernel
theorem dX7_missOf_23 : decode cX7_missOf 23 = .ok (.iaload, 1) := by decide +kernel
theorem dX7_missOf_24 : decode cX7_missOf 24 = .ok (.aload_n 0, 1) := by decide +kernel
theorem dX7_missOf_25 : decode cX7_missOf 25 = .ok (.getfield 66, 3) := by decide +kernel
theorem dX7_missOf_28 : decode cX7_missOf 28 = .ok (.aload_n 0, 1) := by decide +kernel
theorem dX7_missOf_29 : decode cX7_missOf 29 = .ok (.getfield 174, 3) := by decide +kernel
theorem dX7_missOf_32 : decode cX7_missOf 32 = .ok (.iload_n 1, 1) := by decide +kernel
theorem dX7_missOf_33 : decode cX7_missOf 33 = .ok (.isub, 1) := by decide +kernel
theorem dX7_missOf_34 : decode cX7_missOf 34 = .ok (.iaload, 1) := by decide +kernel
theorem dX7_missOf_35 : decode cX7_missOf 35 = .ok (.imul, 1) := by decide +kernel
theorem dX7_missOf_36 : decode cX7_missOf 36 = .ok (.iadd, 1) := by decide +kernel
theorem dX7_missOf_37 : decode cX7_missOf 37 = .ok (.aload_n 0, 1) := by decide +kernel
theorem dX7_missOf_38 : decode cX7_missOf 38 = .ok (.getfield 177, 3) := by decide +kernel
theorem dX7_missOf_41 : decode cX7_missOf 41 = .ok (.aload_n 0, 1) := by decide +kernel
theorem dX7_missOf_42 : decode cX7_missOf 42 = .ok (.getfield 177, 3) := by decide +kernel
theorem dX7_missOf_45 : decode cX7_missOf 45 = .ok (.imul, 1) := by decide +kernel
theorem dX7_missOf_46 : decode cX7_missOf 46 = .ok (.isub, 1) := by decide +kernel
theorem dX7_missOf_47 : decode cX7_missOf 47 = .ok (.invokestatic 93, 3) := by decide +kernel
theorem dX7_missOf_50 : decode cX7_missOf 50 = .ok (.ireturn, 1) := by decide +kernel
theorem dX7_miss_0 : decode cX7_miss 0 = .ok (.aload_n 0, 1) := by decide +kernel
theorem dX7_miss_1 : decode cX7_miss 1 = .ok (.iconst 0, 1) := by decide +kernel
theorem dX7_miss_2 : decode cX7_miss 2 = .ok (.putfield 73, 3) := by decide +kernel
theorem dX7_miss_5 : decode cX7_miss 5 = .ok (.iload_n 1, 1) := by decide +kernel
theorem dX7_miss_6 : decode cX7_miss 6 = .ok (.iconst 0, 1) := by decide +kernel
theorem dX7_miss_7 : decode cX7_miss 7 = .ok (.aload_n 0, 1) := by decide +kernel
theorem dX7_miss_8 : decode cX7_miss 8 = .ok (.getfield 174, 3) := by decide +kernel
theorem dX7_miss_11 : decode cX7_miss 11 = .ok (.invokestatic 80, 3) := by decide +kernel
theorem dX7_miss_14 : decode cX7_miss 14 = .ok (.ifCond .eq 11, 3) := by decide +kernel
theorem dX7_miss_17 : decode cX7_miss 17 = .ok (.aload_n 0, 1) := by decide +kernel
theorem dX7_miss_18 : decode cX7_miss 18 = .ok (.iload_n 1, 1) := by decide +kernel
theorem dX7_miss_19 : decode cX7_miss 19 = .ok (.invokevirtual 180, 3) := by decide +kernel
theorem dX7_miss_22 : decode cX7_miss 22 = .ok (.goto 4, 3) := by decide +kernel
theorem dX7_miss_25 : decode cX7_miss 25 = .ok (.iconst (-1), 1) := by decide +kernel
theorem dX7_miss_26 : decode cX7_miss 26 = .ok (.ireturn, 1) := by decide +kernel
theorem dX7_evenness_0 : decode cX7_evenness 0 = .ok (.aload_n 0, 1) := by decide +kernel
theorem dX7_evenness_1 : decode cX7_evenness 1 = .ok (.iconst 0, 1) := by decide +kernel
theorem dX7_evenness_2 : decode cX7_evenness 2 = .ok (.putfield 73, 3) := by decide +kernel
theorem dX7_evenness_5 : decode cX7_evenness 5 = .ok (.iconst 0, 1) := by decide +kernel
theorem dX7_evenness_6 : decode cX7_evenness 6 = .ok (.istore_n 1, 1) := by decide +kernel
theorem dX7_evenness_7 : decode cX7_evenness 7 = .ok (.iconst 0, 1) := by decide +kernel
theorem dX7_evenness_8 : decode cX7_evenness 8 = .ok (.istore_n 2, 1) := by decide +kernel
theorem dX7_evenness_9 : decode cX7_evenness 9 = .ok (.iload_n 2, 1) := by decide +kernel
theorem dX7_evenness_10 : decode cX7_evenness 10 = .ok (.aload_n 0, 1) := by decide +kernel
theorem dX7_evenness_11 : decode cX7_evenness 11 = .ok (.getfield 174, 3) := by decide +kernel
theorem dX7_evenness_14 : decode cX7_evenness 14 = .ok (.if_icmp .gt 19, 3) := by decide +kernel
theorem dX7_evenness_17 : decode cX7_evenness 17 = .ok (.iload_n 1, 1) := by decide +kernel
theorem dX7_evenness_18 : decode cX7_evenness 18 = .ok (.aload_n 0, 1) := by decide +kernel
theorem dX7_evenness_19 : decode cX7_evenness 19 = .ok (.iload_n 2, 1) := by decide +kernel
theorem dX7_evenness_20 : decode cX7_evenness 20 = .ok (.invokevirtual 180, 3) := by decide +kernel
theorem dX7_evenness_23 : decode cX7_evenness 23 = .ok (.invokestatic 138, 3) := by decide +kernel
theorem dX7_evenness_26 : decode cX7_evenness 26 = .ok (.istore_n 1, 1) := by decide +kernel
theorem dX7_evenness_27 : decode cX7_evenness 27 = .ok (.iinc 2 1, 3) := by decide +kernel
theorem dX7_evenness_30 : decode cX7_evenness 30 = .ok (.goto (-21), 3) := by decide +kernel
theorem dX7_evenness_33 : decode cX7_evenness 33 = .ok (.iload_n 1, 1) := by decide +kernel
theorem dX7_evenness_34 : decode cX7_evenness 34 = .ok (.ireturn, 1) := by decide +kernel
theorem dX7_smooth_0 : decode cX7_smooth 0 = .ok (.aload_n 0, 1) := by decide +kernel
theorem dX7_smooth_1 : decode cX7_smooth 1 = .ok (.iconst 0, 1) := by decide +kernel
theorem dX7_smooth_2 : decode cX7_smooth 2 = .ok (.putfield 73, 3) := by decide +kernel
theorem dX7_smooth_5 : decode cX7_smooth 5 = .ok (.iconst 0, 1) := by decide +kernel
theorem dX7_smooth_6 : decode cX7_smooth 6 = .ok (.istore_n 1, 1) := by decide +kernel
theorem dX7_smooth_7 : decode cX7_smooth 7 = .ok (.iconst 2, 1) := by decide +kernel
theorem dX7_smooth_8 : decode cX7_smooth 8 = .ok (.iload_n 1, 1) := by decide +kernel
theorem dX7_smooth_9 : decode cX7_smooth 9 = .ok (.imul, 1) := by decide +kernel
theorem dX7_smooth_10 : decode cX7_smooth 10 = .ok (.aload_n 0, 1) := by decide +kernel
theorem dX7_smooth_11 : decode cX7_smooth 11 = .ok (.getfield 174, 3) := by decide +kernel
theorem dX7_smooth_14 : decode cX7_smooth 14 = .ok (.if_icmp .gt 161, 3) := by decide +kernel
theorem dX7_smooth_17 : decode cX7_smooth 17 = .ok (.ldc 105, 2) := by decide +kernel
theorem dX7_smooth_19 : decode cX7_smooth 19 = .ok (.istore_n 2, 1) := by decide +kernel
theorem dX7_smooth_20 : decode cX7_smooth 20 = .ok (.ldc 105, 2) := by decide +kernel
theorem dX7_smooth_22 : decode cX7_smooth 22 = .ok (.istore_n 3, 1) := by decide +kernel
theorem dX7_smooth_23 : decode cX7_smooth 23 = .ok (.aload_n 0, 1) := by decide +kernel
theorem dX7_smooth_24 : decode cX7_smooth 24 = .ok (.getfield 177, 3) := by decide +kernel
theorem dX7_smooth_27 : decode cX7_smooth 27 = .ok (.istore 4, 2) := by decide +kernel
theorem dX7_smooth_29 : decode cX7_smooth 29 = .ok (.iload 4, 2) := by decide +kernel
theorem dX7_smooth_31 : decode cX7_smooth 31 = .ok (.ifCond .lt 138, 3) := by decide +kernel
theorem dX7_smooth_34 : decode cX7_smooth 34 = .ok (.iconst 0, 1) := by decide +kernel
theorem dX7_smooth_35 : decode cX7_smooth 35 = .ok (.istore 5, 2) := by decide +kernel
theorem dX7_smooth_37 : decode cX7_smooth 37 = .ok (.iload 5, 2) := by decide +kernel
theorem dX7_smooth_39 : decode cX7_smooth 39 = .ok (.iload 4, 2) := by decide +kernel
theorem dX7_smooth_41 : decode cX7_smooth 41 = .ok (.if_icmp .gt 122, 3) := by decide +kernel
theorem dX7_smooth_44 : decode cX7_smooth 44 = .ok (.iconst 2, 1) := by decide +kernel
theorem dX7_smooth_45 : decode cX7_smooth 45 = .ok (.iload_n 1, 1) := by decide +kernel
theorem dX7_smooth_46 : decode cX7_smooth 46 = .ok (.imul, 1) := by decide +kernel
theorem dX7_smooth_47 : decode cX7_smooth 47 = .ok (.aload_n 0, 1) := by decide +kernel
theorem dX7_smooth_48 : decode cX7_smooth 48 = .ok (.getfield 174, 3) := by decide +kernel
theorem dX7_smooth_51 : decode cX7_smooth 51 = .ok (.if_icmp .ne 13, 3) := by decide +kernel
theorem dX7_smooth_54 : decode cX7_smooth 54 = .ok (.iload 4, 2) := by decide +kernel
theorem dX7_smooth_56 : decode cX7_smooth 56 = .ok (.iload 5, 2) := by decide +kernel
theorem dX7_smooth_58 : decode cX7_smooth 58 = .ok (.if_icmp .eq 6, 3) := by decide +kernel
theorem dX7_smooth_61 : decode cX7_smooth 61 = .ok (.goto 96, 3) := by decide +kernel
theorem dX7_smooth_64 : decode cX7_smooth 64 = .ok (.iload 4, 2) := by decide +kernel
theorem dX7_smooth_66 : decode cX7_smooth 66 = .ok (.iload 4, 2) := by decide +kernel
theorem dX7_smooth_68 : decode cX7_smooth 68 = .ok (.imul, 1) := by decide +kernel
theorem dX7_smooth_69 : decode cX7_smooth 69 = .ok (.iload 5, 2) := by decide +kernel
theorem dX7_smooth_71 : decode cX7_smooth 71 = .ok (.iload 5, 2) := by decide +kernel
theorem dX7_smooth_73 : decode cX7_smooth 73 = .ok (.imul, 1) := by decide +kernel
theorem dX7_smooth_74 : decode cX7_smooth 74 = .ok (.iadd, 1) := by decide +kernel
theorem dX7_smooth_75 : decode cX7_smooth 75 = .ok (.aload_n 0, 1) := by decide +kernel
theorem dX7_smooth_76 : decode cX7_smooth 76 = .ok (.getfield 177, 3) := by decide +kernel
theorem dX7_smooth_79 : decode cX7_smooth 79 = .ok (.aload_n 0, 1) := by decide +kernel
theorem dX7_smooth_80 : decode cX7_smooth 80 = .ok (.getfield 177, 3) := by decide +kernel
theorem dX7_smooth_83 : decode cX7_smooth 83 = .ok (.imul, 1) := by decide +kernel
theorem dX7_smooth_84 : decode cX7_smooth 84 = .ok (.isub, 1) := by decide +kernel
theorem dX7_smooth_85 : decode cX7_smooth 85 = .ok (.invokestatic 93, 3) := by decide +kernel
theorem dX7_smooth_88 : decode cX7_smooth 88 = .ok (.istore 6, 2) := by decide +kernel
theorem dX7_smooth_90 : decode cX7_smooth 90 = .ok (.iload 4, 2) := by decide +kernel
theorem dX7_smooth_92 : decode cX7_smooth 92 = .ok (.iload_n 1, 1) := by decide +kernel
theorem dX7_smooth_93 : decode cX7_smooth 93 = .ok (.imul, 1) := by decide +kernel
theorem dX7_smooth_94 : decode cX7_smooth 94 = .ok (.iload 5, 2) := by decide +kernel
theorem dX7_smooth_96 : decode cX7_smooth 96 = .ok (.aload_n 0, 1) := by decide +kernel
theorem dX7_smooth_97 : decode cX7_smooth 97 = .ok (.getfield 174, 3) := by decide +kernel
theorem dX7_smooth_100 : decode cX7_smooth 100 = .ok (.iload_n 1, 1) := by decide +kernel
theorem dX7_smooth_101 : decode cX7_smooth 101 = .ok (.isub, 1) := by decide +kernel
theorem dX7_smooth_102 : decode cX7_smooth 102 = .ok (.imul, 1) := by decide +kernel
theorem dX7_smooth_103 : decode cX7_smooth 103 = .ok (.isub, 1) := by decide +kernel
theorem dX7_smooth_104 : decode cX7_smooth 104 = .ok (.invokestatic 93, 3) := by decide +kernel
theorem dX7_smooth_107 : decode cX7_smooth 107 = .ok (.istore 7, 2) := by decide +kernel
theorem dX7_smooth_109 : decode cX7_smooth 109 = .ok (.iload 6, 2) := by decide +kernel
theorem dX7_smooth_111 : decode cX7_smooth 111 = .ok (.iload_n 2, 1) := by decide +kernel
theorem dX7_smooth_112 : decode cX7_smooth 112 = .ok (.if_icmp .gt 45, 3) := by decide +kernel
theorem dX7_smooth_115 : decode cX7_smooth 115 = .ok (.iload 6, 2) := by decide +kernel
theorem dX7_smooth_117 : decode cX7_smooth 117 = .ok (.iload_n 2, 1) := by decide +kernel
theorem dX7_smooth_118 : decode cX7_smooth 118 = .ok (.if_icmp .ne 12, 3) := by decide +kernel
theorem dX7_smooth_121 : decode cX7_smooth 121 = .ok (.iload 7, 2) := by decide +kernel
theorem dX7_smooth_123 : decode cX7_smooth 123 = .ok (.iload_n 3, 1) := by decide +kernel
theorem dX7_smooth_124 : decode cX7_smooth 124 = .ok (.if_icmp .lt 6, 3) := by decide +kernel
theorem dX7_smooth_127 : decode cX7_smooth 127 = .ok (.goto 30, 3) := by decide +kernel
theorem dX7_smooth_130 : decode cX7_smooth 130 = .ok (.iload 6, 2) := by decide +kernel
theorem dX7_smooth_132 : decode cX7_smooth 132 = .ok (.istore_n 2, 1) := by decide +kernel
theorem dX7_smooth_133 : decode cX7_smooth 133 = .ok (.iload 7, 2) := by decide +kernel
theorem dX7_smooth_135 : decode cX7_smooth 135 = .ok (.istore_n 3, 1) := by decide +kernel
theorem dX7_smooth_136 : decode cX7_smooth 136 = .ok (.aload_n 0, 1) := by decide +kernel
theorem dX7_smooth_137 : decode cX7_smooth 137 = .ok (.getfield 66, 3) := by decide +kernel
theorem dX7_smooth_140 : decode cX7_smooth 140 = .ok (.iload_n 1, 1) := by decide +kernel
theorem dX7_smooth_141 : decode cX7_smooth 141 = .ok (.iload 4, 2) := by decide +kernel
theorem dX7_smooth_143 : decode cX7_smooth 143 = .ok (.iastore, 1) := by decide +kernel
theorem dX7_smooth_144 : decode cX7_smooth 144 = .ok (.aload_n 0, 1) := by decide +kernel
theorem dX7_smooth_145 : decode cX7_smooth 145 = .ok (.getfield 66, 3) := by decide +kernel
theorem dX7_smooth_148 : decode cX7_smooth 148 = .ok (.aload_n 0, 1) := by decide +kernel
theorem dX7_smooth_149 : decode cX7_smooth 149 = .ok (.getfield 174, 3) := by decide +kernel
theorem dX7_smooth_152 : decode cX7_smooth 152 = .ok (.iload_n 1, 1) := by decide +kernel
theorem dX7_smooth_153 : decode cX7_smooth 153 = .ok (.isub, 1) := by decide +kernel
theorem dX7_smooth_154 : decode cX7_smooth 154 = .ok (.iload 5, 2) := by decide +kernel
theorem dX7_smooth_156 : decode cX7_smooth 156 = .ok (.iastore, 1) := by decide +kernel
theorem dX7_smooth_157 : decode cX7_smooth 157 = .ok (.iinc 5 1, 3) := by decide +kernel
theorem dX7_smooth_160 : decode cX7_smooth 160 = .ok (.goto (-123), 3) := by decide +kernel
theorem dX7_smooth_163 : decode cX7_smooth 163 = .ok (.iinc 4 (-1), 3) := by decide +kernel
theorem dX7_smooth_166 : decode cX7_smooth 166 = .ok (.goto (-137), 3) := by decide +kernel
theorem dX7_smooth_169 : decode cX7_smooth 169 = .ok (.iinc 1 1, 3) := by decide +kernel
theorem dX7_smooth_172 : decode cX7_smooth 172 = .ok (.goto (-165), 3) := by decide +kernel
theorem dX7_smooth_175 : decode cX7_smooth 175 = .ok (.aload_n 0, 1) := by decide +kernel
theorem dX7_smooth_176 : decode cX7_smooth 176 = .ok (.invokevirtual 183, 3) := by decide +kernel
theorem dX7_smooth_179 : decode cX7_smooth 179 = .ok (.ireturn, 1) := by decide +kernel
end
section
theorem ml_X0_1 : Cond.methodLink RX0 1 Lib.objectInit ∈ lw_tbl := List.mem_append_right _ (List.mem_of_getElem? (i := 164) (by decide +kernel))
theorem fl_X0_7 : Cond.fieldLink RX0 7 (TX0 0).1 (TX0 0).2.1 (TX0 0).2.2.1 ∈ lw_tbl := List.mem_append_right _ (List.mem_of_getElem? (i := 165) (by decide +kernel))
theorem fl_X0_13 : Cond.fieldLink RX0 13 (TX0 1).1 (TX0 1).2.1 (TX0 1).2.2.1 ∈ lw_tbl := List.mem_append_right _ (List.mem_of_getElem? (i := 167) (by decide +kernel))
theorem fl_X0_16 : Cond.fieldLink RX0 16 (TX0 2).1 (TX0 2).2.1 (TX0 2).2.2.1 ∈ lw_tbl := List.mem_append_right _ (List.mem_of_getElem? (i := 169) (by decide +kernel))
theorem fl_X0_20 : Cond.fieldLink RX0 20 (TX0 3).1 (TX0 3).2.1 (TX0 3).2.2.1 ∈ lw_tbl := List.mem_append_right _ (List.mem_of_getElem? (i := 171) (by decide +kernel))
theorem fl_X0_23 : Cond.fieldLink RX0 23 (TX0 4).1 (TX0 4).2.1 (TX0 4).2.2.1 ∈ lw_tbl := List.mem_append_right _ (List.mem_of_getElem? (i := 172) (by decide +kernel))
theorem fl_X0_26 : Cond.fieldLink RX0 26 (TX0 5).1 (TX0 5).2.1 (TX0 5).2.2.1 ∈ lw_tbl := List.mem_append_right _ (List.mem_of_getElem? (i := 173) (by decide +kernel))
theorem ml_X0_29 : Cond.methodLink RX0 29 yX0_goneBehind ∈ lw_tbl := List.mem_append_right _ (List.mem_of_getElem? (i := 460) (by decide +kernel))
theorem ml_X0_33 : Cond.methodLink RX0 33 Lib.Math.abs.name ∈ lw_tbl := List.mem_append_right _ (List.mem_of_getElem? (i := 464) (by decide +kernel))
theorem ml_X0_39 : Cond.methodLink RX0 39 yX0_isOn ∈ lw_tbl := List.mem_append_right _ (List.mem_of_getElem? (i := 505) (by decide +kernel))
theorem ml_X1_3 : Cond.methodLink RX1 3 Lib.objectInit ∈ lw_tbl := List.mem_append_right _ (List.mem_of_getElem? (i := 192) (by decide +kernel))
theorem fl_X1_9 : Cond.fieldLink RX1 9 (TX1 0).1 (TX1 0).2.1 (TX1 0).2.2.1 ∈ lw_tbl := List.mem_append_right _ (List.mem_of_getElem? (i := 197) (by decide +kernel))
theorem fl_X1_15 : Cond.fieldLink RX1 15 (TX1 1).1 (TX1 1).2.1 (TX1 1).2.2.1 ∈ lw_tbl := List.mem_append_right _ (List.mem_of_getElem? (i := 199) (by decide +kernel))
theorem fl_X1_18 : Cond.fieldLink RX1 18 (TX1 2).1 (TX1 2).2.1 (TX1 2).2.2.1 ∈ lw_tbl := List.mem_append_right _ (List.mem_of_getElem? (i := 201) (by decide +kernel))
theorem ml_X1_22 : Cond.methodLink RX1 22 yX1_lay ∈ lw_tbl := List.mem_append_right _ (List.mem_of_getElem? (i := 193) (by decide +kernel))
theorem ml_X1_26 : Cond.methodLinkNest RX1 26 yX6_isWithin RX6 ∈ am_nst := List.mem_of_getElem? (i := 0) rfl
theorem ml_X1_30 : Cond.methodLink RX1 30 yX1_restOf ∈ lw_tbl := List.mem_append_right _ (List.mem_of_getElem? (i := 649) (by decide +kernel))
theorem ml_X1_34 : Cond.methodLink RX1 34 yX1_quarterOf ∈ lw_tbl := List.mem_append_right _ (List.mem_of_getElem? (i := 653) (by decide +kernel))
theorem ml_X1_37 : Cond.methodLink RX1 37 yX1_numberAt ∈ lw_tbl := List.mem_append_right _ (List.mem_of_getElem? (i := 528) (by decide +kernel))
theorem ml_X1_40 : Cond.methodLink RX1 40 Lib.Math.abs.name ∈ lw_tbl := List.mem_append_right _ (List.mem_of_getElem? (i := 536) (by decide +kernel))
theorem ml_X1_45 : Cond.methodLink RX1 45 yX1_missOfPair ∈ lw_tbl := List.mem_append_right _ (List.mem_of_getElem? (i := 532) (by decide +kernel))
theorem ml_X1_49 : Cond.methodLink RX1 49 yX1_missOf ∈ lw_tbl := List.mem_append_right _ (List.mem_of_getElem? (i := 545) (by decide +kernel))
theorem ml_X1_52 : Cond.methodLink RX1 52 Lib.Math.max.name ∈ lw_tbl := List.mem_append_right _ (List.mem_of_getElem? (i := 546) (by decide +kernel))
theorem ml_X1_55 : Cond.methodLink RX1 55 yX1_evenMiddle ∈ lw_tbl := List.mem_append_right _ (List.mem_of_getElem? (i := 555) (by decide +kernel))
theorem ml_X1_59 : Cond.methodLink RX1 59 yX1_evenPair ∈ lw_tbl := List.mem_append_right _ (List.mem_of_getElem? (i := 560) (by decide +kernel))
theorem ml_X1_62 : Cond.methodLink RX1 62 yX1_put ∈ lw_tbl := List.mem_append_right _ (List.mem_of_getElem? (i := 559) (by decide +kernel))
theorem ml_X1_65 : Cond.methodLink RX1 65 Lib.Math.min.name ∈ lw_tbl := List.mem_append_right _ (List.mem_of_getElem? (i := 564) (by decide +kernel))
theorem ml_X1_68 : Cond.methodLink RX1 68 yX1_apart ∈ lw_tbl := List.mem_append_right _ (List.mem_of_getElem? (i := 565) (by decide +kernel))
theorem ml_X2_3 : Cond.methodLink RX2 3 Lib.objectInit ∈ lw_tbl := List.mem_append_right _ (List.mem_of_getElem? (i := 118) (by decide +kernel))
theorem fl_X2_9 : Cond.fieldLink RX2 9 (TX2 0).1 (TX2 0).2.1 (TX2 0).2.2.1 ∈ lw_tbl := List.mem_append_right _ (List.mem_of_getElem? (i := 119) (by decide +kernel))
theorem fl_X2_15 : Cond.fieldLink RX2 15 (TX2 1).1 (TX2 1).2.1 (TX2 1).2.2.1 ∈ lw_tbl := List.mem_append_right _ (List.mem_of_getElem? (i := 121) (by decide +kernel))
theorem fl_X2_18 : Cond.fieldLink RX2 18 (TX2 2).1 (TX2 2).2.1 (TX2 2).2.2.1 ∈ lw_tbl := List.mem_append_right _ (List.mem_of_getElem? (i := 123) (by decide +kernel))
theorem fl_X2_21 : Cond.fieldLink RX2 21 (TX2 3).1 (TX2 3).2.1 (TX2 3).2.2.1 ∈ lw_tbl := List.mem_append_right _ (List.mem_of_getElem? (i := 125) (by decide +kernel))
theorem fl_X2_24 : Cond.fieldLink RX2 24 (TX2 4).1 (TX2 4).2.1 (TX2 4).2.2.1 ∈ lw_tbl := List.mem_append_right _ (List.mem_of_getElem? (i := 127) (by decide +kernel))
theorem fl_X2_27 : Cond.fieldLink RX2 27 (TX2 5).1 (TX2 5).2.1 (TX2 5).2.2.1 ∈ lw_tbl := List.mem_append_right _ (List.mem_of_getElem? (i := 129) (by decide +kernel))
theorem fl_X2_30 : Cond.fieldLink RX2 30 (TX2 6).1 (TX2 6).2.1 (TX2 6).2.2.1 ∈ lw_tbl := List.mem_append_right _ (List.mem_of_getElem? (i := 131) (by decide +kernel))
theorem fl_X2_33 : Cond.fieldLink RX2 33 (TX2 7).1 (TX2 7).2.1 (TX2 7).2.2.1 ∈ lw_tbl := List.mem_append_right _ (List.mem_of_getElem? (i := 133) (by decide +kernel))
theorem fl_X2_37 : Cond.fieldLink RX2 37 (TX2 8).1 (TX2 8).2.1 (TX2 8).2.2.1 ∈ lw_tbl := List.mem_append_right _ (List.mem_of_getElem? (i := 135) (by decide +kernel))
theorem fl_X2_40 : Cond.fieldLink RX2 40 (TX2 9).1 (TX2 9).2.1 (TX2 9).2.2.1 ∈ lw_tbl := List.mem_append_right _ (List.mem_of_getElem? (i := 137) (by decide +kernel))
theorem ml_X3_3 : Cond.methodLink RX3 3 Lib.objectInit ∈ lw_tbl := List.mem_append_right _ (List.mem_of_getElem? (i := 71) (by decide +kernel))
theorem fl_X3_9 : Cond.fieldLink RX3 9 (TX3 0).1 (TX3 0).2.1 (TX3 0).2.2.1 ∈ lw_tbl := List.mem_append_right _ (List.mem_of_getElem? (i := 72) (by decide +kernel))
theorem fl_X3_15 : Cond.fieldLink RX3 15 (TX3 1).1 (TX3 1).2.1 (TX3 1).2.2.1 ∈ lw_tbl := List.mem_append_right _ (List.mem_of_getElem? (i := 73) (by decide +kernel))
theorem fl_X3_18 : Cond.fieldLink RX3 18 (TX3 2).1 (TX3 2).2.1 (TX3 2).2.2.1 ∈ lw_tbl := List.mem_append_right _ (List.mem_of_getElem? (i := 74) (by decide +kernel))
theorem fl_X3_22 : Cond.fieldLink RX3 22 (TX3 3).1 (TX3 3).2.1 (TX3 3).2.2.1 ∈ lw_tbl := List.mem_append_right _ (List.mem_of_getElem? (i := 75) (by decide +kernel))
theorem fl_X3_25 : Cond.fieldLink RX3 25 (TX3 4).1 (TX3 4).2.1 (TX3 4).2.2.1 ∈ lw_tbl := List.mem_append_right _ (List.mem_of_getElem? (i := 76) (by decide +kernel))
theorem ml_X3_28 : Cond.methodLinkNest RX3 28 yX6_isWithin RX6 ∈ am_nst := List.mem_of_getElem? (i := 1) rfl
theorem fl_X3_32 : Cond.fieldLink RX3 32 (TX4 8).1 (TX4 8).2.1 (TX4 8).2.2.1 ∈ lw_tbl := List.mem_append_right _ (List.mem_of_getElem? (i := 43) (by decide +kernel))
theorem ml_X3_35 : Cond.methodLink RX3 35 yX3_begin ∈ lw_tbl := List.mem_append_right _ (List.mem_of_getElem? (i := 298) (by decide +kernel))
theorem ml_X3_39 : Cond.methodLinkNest RX3 39 yX6_isIndexOf RX6 ∈ am_nst := List.mem_of_getElem? (i := 8) rfl
theorem ml_X3_43 : Cond.methodLink RX3 43 yX3_ticksAt ∈ lw_tbl := List.mem_append_right _ (List.mem_of_getElem? (i := 324) (by decide +kernel))
theorem ml_X3_47 : Cond.methodLink RX3 47 yX3_lookBehind ∈ lw_tbl := List.mem_append_right _ (List.mem_of_getElem? (i := 328) (by decide +kernel))
theorem ml_X3_51 : Cond.methodLink RX3 51 yX3_nextChange ∈ lw_tbl := List.mem_append_right _ (List.mem_of_getElem? (i := 370) (by decide +kernel))
theorem ml_X3_55 : Cond.methodLink RX3 55 yX4_leastBeside ∈ lw_tbl := List.mem_append_right _ (List.mem_of_getElem? (i := 355) (by decide +kernel))
theorem ml_X3_59 : Cond.methodLink RX3 59 yX4_mostBeside ∈ lw_tbl := List.mem_append_right _ (List.mem_of_getElem? (i := 348) (by decide +kernel))
theorem fl_X3_62 : Cond.fieldLink RX3 62 (TX4 7).1 (TX4 7).2.1 (TX4 7).2.2.1 ∈ lw_tbl := List.mem_append_right _ (List.mem_of_getElem? (i := 40) (by decide +kernel))
theorem ml_X3_66 : Cond.methodLink RX3 66 yX4_mayEnd ∈ lw_tbl := List.mem_append_right _ (List.mem_of_getElem? (i := 336) (by decide +kernel))
theorem ml_X3_70 : Cond.methodLink RX3 70 yJ7_fill_53178 ∈ lw_tbl := List.mem_append_right _ (List.mem_of_getElem? (i := 302) (by decide +kernel))
theorem ml_X3_76 : Cond.methodLink RX3 76 yX4_isRest ∈ lw_tbl := List.mem_append_right _ (List.mem_of_getElem? (i := 303) (by decide +kernel))
theorem ml_X3_80 : Cond.methodLink RX3 80 yX3_nodeOf ∈ lw_tbl := List.mem_append_right _ (List.mem_of_getElem? (i := 311) (by decide +kernel))
theorem ml_X3_83 : Cond.methodLink RX3 83 yX3_find ∈ lw_tbl := List.mem_append_right _ (List.mem_of_getElem? (i := 317) (by decide +kernel))
theorem ml_X3_87 : Cond.methodLink RX3 87 yX4_isSpeed ∈ lw_tbl := List.mem_append_right _ (List.mem_of_getElem? (i := 332) (by decide +kernel))
theorem ml_X3_91 : Cond.methodLinkNest RX3 91 yX6_stateNumber RX6 ∈ am_nst := List.mem_of_getElem? (i := 3) rfl
theorem ml_X4_3 : Cond.methodLink RX4 3 Lib.objectInit ∈ lw_tbl := List.mem_append_right _ (List.mem_of_getElem? (i := 28) (by decide +kernel))
theorem fl_X4_9 : Cond.fieldLink RX4 9 (TX4 0).1 (TX4 0).2.1 (TX4 0).2.2.1 ∈ lw_tbl := List.mem_append_right _ (List.mem_of_getElem? (i := 32) (by decide +kernel))
theorem fl_X4_15 : Cond.fieldLink RX4 15 (TX4 1).1 (TX4 1).2.1 (TX4 1).2.2.1 ∈ lw_tbl := List.mem_append_right _ (List.mem_of_getElem? (i := 33) (by decide +kernel))
theorem fl_X4_18 : Cond.fieldLink RX4 18 (TX4 2).1 (TX4 2).2.1 (TX4 2).2.2.1 ∈ lw_tbl := List.mem_append_right _ (List.mem_of_getElem? (i := 34) (by decide +kernel))
theorem fl_X4_21 : Cond.fieldLink RX4 21 (TX4 3).1 (TX4 3).2.1 (TX4 3).2.2.1 ∈ lw_tbl := List.mem_append_right _ (List.mem_of_getElem? (i := 35) (by decide +kernel))
theorem fl_X4_24 : Cond.fieldLink RX4 24 (TX4 4).1 (TX4 4).2.1 (TX4 4).2.2.1 ∈ lw_tbl := List.mem_append_right _ (List.mem_of_getElem? (i := 36) (by decide +kernel))
theorem fl_X4_27 : Cond.fieldLink RX4 27 (TX4 5).1 (TX4 5).2.1 (TX4 5).2.2.1 ∈ lw_tbl := List.mem_append_right _ (List.mem_of_getElem? (i := 37) (by decide +kernel))
theorem fl_X4_31 : Cond.fieldLink RX4 31 (TX4 6).1 (TX4 6).2.1 (TX4 6).2.2.1 ∈ lw_tbl := List.mem_append_right _ (List.mem_of_getElem? (i := 38) (by decide +kernel))
theorem fl_X4_35 : Cond.fieldLink RX4 35 (TX4 7).1 (TX4 7).2.1 (TX4 7).2.2.1 ∈ lw_tbl := List.mem_append_right _ (List.mem_of_getElem? (i := 39) (by decide +kernel))
theorem fl_X4_39 : Cond.fieldLink RX4 39 (TX4 8).1 (TX4 8).2.1 (TX4 8).2.2.1 ∈ lw_tbl := List.mem_append_right _ (List.mem_of_getElem? (i := 42) (by decide +kernel))
theorem ml_X4_42 : Cond.methodLink RX4 42 yJ7_fill_53178 ∈ lw_tbl := List.mem_append_right _ (List.mem_of_getElem? (i := 29) (by decide +kernel))
theorem ml_X4_48 : Cond.methodLinkNest RX4 48 yX6_isWithin RX6 ∈ am_nst := List.mem_of_getElem? (i := 2) rfl
theorem ml_X4_52 : Cond.methodLink RX4 52 yX4_isState ∈ lw_tbl := List.mem_append_right _ (List.mem_of_getElem? (i := 307) (by decide +kernel))
theorem ml_X4_56 : Cond.methodLink RX4 56 Lib.Math.abs.name ∈ lw_tbl := List.mem_append_right _ (List.mem_of_getElem? (i := 345) (by decide +kernel))
theorem ml_X4_62 : Cond.methodLink RX4 62 yX4_isBad ∈ lw_tbl := List.mem_append_right _ (List.mem_of_getElem? (i := 340) (by decide +kernel))
theorem ml_X4_66 : Cond.methodLink RX4 66 yX4_isSafe ∈ lw_tbl := List.mem_append_right _ (List.mem_of_getElem? (i := 341) (by decide +kernel))
theorem ml_X4_69 : Cond.methodLink RX4 69 Lib.Math.max.name ∈ lw_tbl := List.mem_append_right _ (List.mem_of_getElem? (i := 359) (by decide +kernel))
theorem ml_X4_73 : Cond.methodLink RX4 73 Lib.Math.min.name ∈ lw_tbl := List.mem_append_right _ (List.mem_of_getElem? (i := 352) (by decide +kernel))
theorem ml_X5_3 : Cond.methodLink RX5 3 Lib.objectInit ∈ lw_tbl := List.mem_append_right _ (List.mem_of_getElem? (i := 93) (by decide +kernel))
theorem fl_X5_9 : Cond.fieldLink RX5 9 (TX5 1).1 (TX5 1).2.1 (TX5 1).2.2.1 ∈ lw_tbl := List.mem_append_right _ (List.mem_of_getElem? (i := 95) (by decide +kernel))
theorem fl_X5_15 : Cond.fieldLink RX5 15 (TX5 2).1 (TX5 2).2.1 (TX5 2).2.2.1 ∈ lw_tbl := List.mem_append_right _ (List.mem_of_getElem? (i := 96) (by decide +kernel))
theorem fl_X5_18 : Cond.fieldLink RX5 18 (TX5 3).1 (TX5 3).2.1 (TX5 3).2.2.1 ∈ lw_tbl := List.mem_append_right _ (List.mem_of_getElem? (i := 97) (by decide +kernel))
theorem fl_X5_21 : Cond.fieldLink RX5 21 (TX5 4).1 (TX5 4).2.1 (TX5 4).2.2.1 ∈ lw_tbl := List.mem_append_right _ (List.mem_of_getElem? (i := 98) (by decide +kernel))
theorem fl_X5_25 : Cond.fieldLink RX5 25 (TX5 5).1 (TX5 5).2.1 (TX5 5).2.2.1 ∈ lw_tbl := List.mem_append_right _ (List.mem_of_getElem? (i := 99) (by decide +kernel))
theorem fl_X5_28 : Cond.fieldLink RX5 28 (TX5 0).1 (TX5 0).2.1 (TX5 0).2.2.1 ∈ lw_tbl := List.mem_append_right _ (List.mem_of_getElem? (i := 94) (by decide +kernel))
theorem ml_X5_32 : Cond.methodLinkNest RX5 32 yX6_stateNumber RX6 ∈ am_nst := List.mem_of_getElem? (i := 4) rfl
theorem ml_X5_36 : Cond.methodLinkNest RX5 36 yX6_isIndexOf RX6 ∈ am_nst := List.mem_of_getElem? (i := 9) rfl
theorem ml_X5_40 : Cond.methodLink RX5 40 yX5_ticksFrom ∈ lw_tbl := List.mem_append_right _ (List.mem_of_getElem? (i := 401) (by decide +kernel))
theorem ml_X5_43 : Cond.methodLink RX5 43 yX5_stepsFrom ∈ lw_tbl := List.mem_append_right _ (List.mem_of_getElem? (i := 405) (by decide +kernel))
theorem ml_X5_46 : Cond.methodLink RX5 46 yX4_leastBeside ∈ lw_tbl := List.mem_append_right _ (List.mem_of_getElem? (i := 410) (by decide +kernel))
theorem ml_X5_52 : Cond.methodLink RX5 52 yX4_mostBeside ∈ lw_tbl := List.mem_append_right _ (List.mem_of_getElem? (i := 409) (by decide +kernel))
theorem ml_X5_55 : Cond.methodLink RX5 55 yX4_mayEnd ∈ lw_tbl := List.mem_append_right _ (List.mem_of_getElem? (i := 400) (by decide +kernel))
theorem fl_X5_59 : Cond.fieldLink RX5 59 (TX4 8).1 (TX4 8).2.1 (TX4 8).2.2.1 ∈ lw_tbl := List.mem_append_right _ (List.mem_of_getElem? (i := 44) (by decide +kernel))
theorem ml_X5_60 : Cond.methodLink RX5 60 yJ7_fill_53178 ∈ lw_tbl := List.mem_append_right _ (List.mem_of_getElem? (i := 387) (by decide +kernel))
theorem ml_X5_66 : Cond.methodLink RX5 66 yX4_isRest ∈ lw_tbl := List.mem_append_right _ (List.mem_of_getElem? (i := 388) (by decide +kernel))
theorem ml_X5_70 : Cond.methodLink RX5 70 yX5_find ∈ lw_tbl := List.mem_append_right _ (List.mem_of_getElem? (i := 390) (by decide +kernel))
theorem ml_X5_74 : Cond.methodLink RX5 74 yX5_lookBehind ∈ lw_tbl := List.mem_append_right _ (List.mem_of_getElem? (i := 395) (by decide +kernel))
theorem ml_X5_78 : Cond.methodLink RX5 78 yX4_isSpeed ∈ lw_tbl := List.mem_append_right _ (List.mem_of_getElem? (i := 399) (by decide +kernel))
theorem ml_X6_3 : Cond.methodLink RX6 3 Lib.objectInit ∈ lw_tbl := List.mem_append_right _ (List.mem_of_getElem? (i := 20) (by decide +kernel))
theorem ml_X6_11 : Cond.methodLink RX6 11 yX4_init ∈ lw_tbl := List.mem_append_right _ (List.mem_of_getElem? (i := 25) (by decide +kernel))
theorem fl_X6_12 : Cond.fieldLink RX6 12 (TX6 0).1 (TX6 0).2.1 (TX6 0).2.2.1 ∈ lw_tbl := List.mem_append_right _ (List.mem_of_getElem? (i := 209) (by decide +kernel))
theorem ml_X6_18 : Cond.methodLinkNest RX6 18 yX3_init RX6 ∈ am_nst := List.mem_of_getElem? (i := 5) rfl
theorem fl_X6_19 : Cond.fieldLink RX6 19 (TX6 1).1 (TX6 1).2.1 (TX6 1).2.2.1 ∈ lw_tbl := List.mem_append_right _ (List.mem_of_getElem? (i := 210) (by decide +kernel))
theorem ml_X6_25 : Cond.methodLink RX6 25 yX5_init ∈ lw_tbl := List.mem_append_right _ (List.mem_of_getElem? (i := 90) (by decide +kernel))
theorem fl_X6_28 : Cond.fieldLink RX6 28 (TX6 2).1 (TX6 2).2.1 (TX6 2).2.2.1 ∈ lw_tbl := List.mem_append_right _ (List.mem_of_getElem? (i := 211) (by decide +kernel))
theorem fl_X6_32 : Cond.fieldLink RX6 32 (TX6 3).1 (TX6 3).2.1 (TX6 3).2.2.1 ∈ lw_tbl := List.mem_append_right _ (List.mem_of_getElem? (i := 212) (by decide +kernel))
theorem ml_X6_37 : Cond.methodLinkNest RX6 37 yX2_init RX6 ∈ am_nst := List.mem_of_getElem? (i := 6) rfl
theorem fl_X6_38 : Cond.fieldLink RX6 38 (TX6 4).1 (TX6 4).2.1 (TX6 4).2.2.1 ∈ lw_tbl := List.mem_append_right _ (List.mem_of_getElem? (i := 213) (by decide +kernel))
theorem ml_X6_44 : Cond.methodLinkNest RX6 44 yX0_init RX6 ∈ am_nst := List.mem_of_getElem? (i := 7) rfl
theorem fl_X6_45 : Cond.fieldLink RX6 45 (TX6 5).1 (TX6 5).2.1 (TX6 5).2.2.1 ∈ lw_tbl := List.mem_append_right _ (List.mem_of_getElem? (i := 214) (by decide +kernel))
theorem fl_X6_49 : Cond.fieldLink RX6 49 (TX6 6).1 (TX6 6).2.1 (TX6 6).2.2.1 ∈ lw_tbl := List.mem_append_right _ (List.mem_of_getElem? (i := 215) (by decide +kernel))
theorem fl_X6_52 : Cond.fieldLink RX6 52 (TX6 7).1 (TX6 7).2.1 (TX6 7).2.2.1 ∈ lw_tbl := List.mem_append_right _ (List.mem_of_getElem? (i := 216) (by decide +kernel))
theorem ml_X6_57 : Cond.methodLink RX6 57 yX1_init ∈ lw_tbl := List.mem_append_right _ (List.mem_of_getElem? (i := 189) (by decide +kernel))
theorem fl_X6_58 : Cond.fieldLink RX6 58 (TX6 8).1 (TX6 8).2.1 (TX6 8).2.2.1 ∈ lw_tbl := List.mem_append_right _ (List.mem_of_getElem? (i := 217) (by decide +kernel))
theorem ml_X6_62 : Cond.methodLink RX6 62 yX2_goesOn ∈ lw_tbl := List.mem_append_right _ (List.mem_of_getElem? (i := 241) (by decide +kernel))
theorem ml_X6_66 : Cond.methodLink RX6 66 yX6_isWithin ∈ lw_tbl := List.mem_append_right _ (List.mem_of_getElem? (i := 245) (by decide +kernel))
theorem ml_X6_70 : Cond.methodLink RX6 70 yX4_tellLimits ∈ lw_tbl := List.mem_append_right _ (List.mem_of_getElem? (i := 248) (by decide +kernel))
theorem ml_X6_74 : Cond.methodLink RX6 74 yX4_isBad ∈ lw_tbl := List.mem_append_right _ (List.mem_of_getElem? (i := 256) (by decide +kernel))
theorem ml_X6_78 : Cond.methodLink RX6 78 yX4_tellBad ∈ lw_tbl := List.mem_append_right _ (List.mem_of_getElem? (i := 260) (by decide +kernel))
theorem ml_X6_82 : Cond.methodLink RX6 82 yX4_tellPull ∈ lw_tbl := List.mem_append_right _ (List.mem_of_getElem? (i := 269) (by decide +kernel))
theorem ml_X6_86 : Cond.methodLink RX6 86 yX4_tellLoad ∈ lw_tbl := List.mem_append_right _ (List.mem_of_getElem? (i := 277) (by decide +kernel))
theorem fl_X6_89 : Cond.fieldLink RX6 89 (TX4 7).1 (TX4 7).2.1 (TX4 7).2.2.1 ∈ lw_tbl := List.mem_append_right _ (List.mem_of_getElem? (i := 41) (by decide +kernel))
theorem ml_X6_93 : Cond.methodLink RX6 93 yX4_tellOnlySafe ∈ lw_tbl := List.mem_append_right _ (List.mem_of_getElem? (i := 285) (by decide +kernel))
theorem ml_X6_96 : Cond.methodLink RX6 96 yX3_ticksOf ∈ lw_tbl := List.mem_append_right _ (List.mem_of_getElem? (i := 293) (by decide +kernel))
theorem ml_X6_100 : Cond.methodLink RX6 100 yX3_speedIn ∈ lw_tbl := List.mem_append_right _ (List.mem_of_getElem? (i := 366) (by decide +kernel))
theorem ml_X6_104 : Cond.methodLink RX6 104 yX4_isState ∈ lw_tbl := List.mem_append_right _ (List.mem_of_getElem? (i := 378) (by decide +kernel))
theorem ml_X6_108 : Cond.methodLink RX6 108 yX6_slowingsFrom ∈ lw_tbl := List.mem_append_right _ (List.mem_of_getElem? (i := 379) (by decide +kernel))
theorem ml_X6_112 : Cond.methodLink RX6 112 yX5_ticksFrom ∈ lw_tbl := List.mem_append_right _ (List.mem_of_getElem? (i := 411) (by decide +kernel))
theorem ml_X6_116 : Cond.methodLink RX6 116 yX5_stepsFrom ∈ lw_tbl := List.mem_append_right _ (List.mem_of_getElem? (i := 412) (by decide +kernel))
theorem ml_X6_119 : Cond.methodLink RX6 119 yX5_nextChange ∈ lw_tbl := List.mem_append_right _ (List.mem_of_getElem? (i := 413) (by decide +kernel))
theorem ml_X6_122 : Cond.methodLink RX6 122 yX6_isWay ∈ lw_tbl := List.mem_append_right _ (List.mem_of_getElem? (i := 421) (by decide +kernel))
theorem ml_X6_125 : Cond.methodLink RX6 125 Lib.Math.abs.name ∈ lw_tbl := List.mem_append_right _ (List.mem_of_getElem? (i := 424) (by decide +kernel))
theorem ml_X6_131 : Cond.methodLink RX6 131 Lib.Math.max.name ∈ lw_tbl := List.mem_append_right _ (List.mem_of_getElem? (i := 425) (by decide +kernel))
theorem ml_X6_134 : Cond.methodLink RX6 134 yX2_start ∈ lw_tbl := List.mem_append_right _ (List.mem_of_getElem? (i := 426) (by decide +kernel))
theorem ml_X6_137 : Cond.methodLink RX6 137 yX0_start ∈ lw_tbl := List.mem_append_right _ (List.mem_of_getElem? (i := 430) (by decide +kernel))
theorem ml_X6_140 : Cond.methodLink RX6 140 yX6_takeTick ∈ lw_tbl := List.mem_append_right _ (List.mem_of_getElem? (i := 438) (by decide +kernel))
theorem fl_X6_143 : Cond.fieldLink RX6 143 (TX2 7).1 (TX2 7).2.1 (TX2 7).2.2.1 ∈ lw_tbl := List.mem_append_right _ (List.mem_of_getElem? (i := 134) (by decide +kernel))
theorem fl_X6_146 : Cond.fieldLink RX6 146 (TX2 2).1 (TX2 2).2.1 (TX2 2).2.2.1 ∈ lw_tbl := List.mem_append_right _ (List.mem_of_getElem? (i := 124) (by decide +kernel))
theorem fl_X6_150 : Cond.fieldLink RX6 150 (TX2 3).1 (TX2 3).2.1 (TX2 3).2.2.1 ∈ lw_tbl := List.mem_append_right _ (List.mem_of_getElem? (i := 126) (by decide +kernel))
theorem ml_X6_153 : Cond.methodLink RX6 153 yX2_goBySlowing ∈ lw_tbl := List.mem_append_right _ (List.mem_of_getElem? (i := 469) (by decide +kernel))
theorem ml_X6_156 : Cond.methodLink RX6 156 yX6_axisOf ∈ lw_tbl := List.mem_append_right _ (List.mem_of_getElem? (i := 481) (by decide +kernel))
theorem fl_X6_163 : Cond.fieldLink RX6 163 (TX0 1).1 (TX0 1).2.1 (TX0 1).2.2.1 ∈ lw_tbl := List.mem_append_right _ (List.mem_of_getElem? (i := 168) (by decide +kernel))
theorem fl_X6_166 : Cond.fieldLink RX6 166 (TX0 0).1 (TX0 0).2.1 (TX0 0).2.2.1 ∈ lw_tbl := List.mem_append_right _ (List.mem_of_getElem? (i := 166) (by decide +kernel))
theorem fl_X6_169 : Cond.fieldLink RX6 169 (TX2 1).1 (TX2 1).2.1 (TX2 1).2.2.1 ∈ lw_tbl := List.mem_append_right _ (List.mem_of_getElem? (i := 122) (by decide +kernel))
theorem fl_X6_172 : Cond.fieldLink RX6 172 (TX2 0).1 (TX2 0).2.1 (TX2 0).2.2.1 ∈ lw_tbl := List.mem_append_right _ (List.mem_of_getElem? (i := 120) (by decide +kernel))
theorem fl_X6_175 : Cond.fieldLink RX6 175 (TX2 4).1 (TX2 4).2.1 (TX2 4).2.2.1 ∈ lw_tbl := List.mem_append_right _ (List.mem_of_getElem? (i := 128) (by decide +kernel))
theorem fl_X6_178 : Cond.fieldLink RX6 178 (TX2 5).1 (TX2 5).2.1 (TX2 5).2.2.1 ∈ lw_tbl := List.mem_append_right _ (List.mem_of_getElem? (i := 130) (by decide +kernel))
theorem fl_X6_181 : Cond.fieldLink RX6 181 (TX2 6).1 (TX2 6).2.1 (TX2 6).2.2.1 ∈ lw_tbl := List.mem_append_right _ (List.mem_of_getElem? (i := 132) (by decide +kernel))
theorem ml_X6_184 : Cond.methodLink RX6 184 yX0_putSwitch ∈ lw_tbl := List.mem_append_right _ (List.mem_of_getElem? (i := 485) (by decide +kernel))
theorem fl_X6_187 : Cond.fieldLink RX6 187 (TX0 2).1 (TX0 2).2.1 (TX0 2).2.2.1 ∈ lw_tbl := List.mem_append_right _ (List.mem_of_getElem? (i := 170) (by decide +kernel))
theorem ml_X6_190 : Cond.methodLink RX6 190 yX0_isOn ∈ lw_tbl := List.mem_append_right _ (List.mem_of_getElem? (i := 493) (by decide +kernel))
theorem ml_X6_193 : Cond.methodLink RX6 193 yX0_findSwitch ∈ lw_tbl := List.mem_append_right _ (List.mem_of_getElem? (i := 501) (by decide +kernel))
theorem ml_X6_197 : Cond.methodLink RX6 197 yX1_lay ∈ lw_tbl := List.mem_append_right _ (List.mem_of_getElem? (i := 510) (by decide +kernel))
theorem fl_X6_200 : Cond.fieldLink RX6 200 (TX1 0).1 (TX1 0).2.1 (TX1 0).2.2.1 ∈ lw_tbl := List.mem_append_right _ (List.mem_of_getElem? (i := 198) (by decide +kernel))
theorem fl_X6_203 : Cond.fieldLink RX6 203 (TX1 1).1 (TX1 1).2.1 (TX1 1).2.2.1 ∈ lw_tbl := List.mem_append_right _ (List.mem_of_getElem? (i := 200) (by decide +kernel))
theorem ml_X6_206 : Cond.methodLink RX6 206 yX1_put ∈ lw_tbl := List.mem_append_right _ (List.mem_of_getElem? (i := 515) (by decide +kernel))
theorem ml_X6_209 : Cond.methodLink RX6 209 yX1_firstAt ∈ lw_tbl := List.mem_append_right _ (List.mem_of_getElem? (i := 645) (by decide +kernel))
theorem ml_X6_212 : Cond.methodLink RX6 212 yX1_secondAt ∈ lw_tbl := List.mem_append_right _ (List.mem_of_getElem? (i := 657) (by decide +kernel))
theorem ml_X6_215 : Cond.methodLink RX6 215 yX1_missOf ∈ lw_tbl := List.mem_append_right _ (List.mem_of_getElem? (i := 524) (by decide +kernel))
theorem ml_X6_218 : Cond.methodLink RX6 218 yX1_greatestMiss ∈ lw_tbl := List.mem_append_right _ (List.mem_of_getElem? (i := 541) (by decide +kernel))
theorem ml_X6_221 : Cond.methodLink RX6 221 yX1_even ∈ lw_tbl := List.mem_append_right _ (List.mem_of_getElem? (i := 551) (by decide +kernel))
theorem ml_X6_224 : Cond.methodLink RX6 224 yX5_renew ∈ lw_tbl := List.mem_append_right _ (List.mem_of_getElem? (i := 383) (by decide +kernel))
theorem ml_X6_228 : Cond.methodLink RX6 228 yX6_nextChange ∈ lw_tbl := List.mem_append_right _ (List.mem_of_getElem? (i := 442) (by decide +kernel))
theorem ml_X6_230 : Cond.methodLink RX6 230 yX2_end ∈ lw_tbl := List.mem_append_right _ (List.mem_of_getElem? (i := 447) (by decide +kernel))
theorem ml_X6_233 : Cond.methodLink RX6 233 yX4_isSafe ∈ lw_tbl := List.mem_append_right _ (List.mem_of_getElem? (i := 451) (by decide +kernel))
theorem ml_X6_236 : Cond.methodLink RX6 236 yX2_takeTick ∈ lw_tbl := List.mem_append_right _ (List.mem_of_getElem? (i := 452) (by decide +kernel))
theorem ml_X6_239 : Cond.methodLink RX6 239 yX0_follow ∈ lw_tbl := List.mem_append_right _ (List.mem_of_getElem? (i := 456) (by decide +kernel))
theorem ml_X6_242 : Cond.methodLink RX6 242 yX3_nextChange ∈ lw_tbl := List.mem_append_right _ (List.mem_of_getElem? (i := 446) (by decide +kernel))
theorem fl_X6_245 : Cond.fieldLink RX6 245 (TX2 8).1 (TX2 8).2.1 (TX2 8).2.2.1 ∈ lw_tbl := List.mem_append_right _ (List.mem_of_getElem? (i := 136) (by decide +kernel))
theorem ml_X7_1 : Cond.methodLink RX7 1 Lib.objectInit ∈ lw_tbl := List.mem_append_right _ (List.mem_of_getElem? (i := 666) (by decide +kernel))
theorem fl_X7_7 : Cond.fieldLink RX7 7 (TX7 1).1 (TX7 1).2.1 (TX7 1).2.2.1 ∈ lw_tbl := List.mem_append_right _ (List.mem_of_getElem? (i := 675) (by decide +kernel))
theorem fl_X7_13 : Cond.fieldLink RX7 13 (TX7 2).1 (TX7 2).2.1 (TX7 2).2.2.1 ∈ lw_tbl := List.mem_append_right _ (List.mem_of_getElem? (i := 676) (by decide +kernel))
theorem fl_X7_16 : Cond.fieldLink RX7 16 (TX7 3).1 (TX7 3).2.1 (TX7 3).2.2.1 ∈ lw_tbl := List.mem_append_right _ (List.mem_of_getElem? (i := 677) (by decide +kernel))
theorem fl_X7_19 : Cond.fieldLink RX7 19 (TX7 6).1 (TX7 6).2.1 (TX7 6).2.2.1 ∈ lw_tbl := List.mem_append_right _ (List.mem_of_getElem? (i := 680) (by decide +kernel))
theorem fl_X7_23 : Cond.fieldLink RX7 23 (TX7 7).1 (TX7 7).2.1 (TX7 7).2.2.1 ∈ lw_tbl := List.mem_append_right _ (List.mem_of_getElem? (i := 681) (by decide +kernel))
theorem fl_X7_27 : Cond.fieldLink RX7 27 (TX7 9).1 (TX7 9).2.1 (TX7 9).2.2.1 ∈ lw_tbl := List.mem_append_right _ (List.mem_of_getElem? (i := 683) (by decide +kernel))
theorem fl_X7_30 : Cond.fieldLink RX7 30 (TX7 10).1 (TX7 10).2.1 (TX7 10).2.2.1 ∈ lw_tbl := List.mem_append_right _ (List.mem_of_getElem? (i := 684) (by decide +kernel))
theorem fl_X7_33 : Cond.fieldLink RX7 33 (TX7 11).1 (TX7 11).2.1 (TX7 11).2.2.1 ∈ lw_tbl := List.mem_append_right _ (List.mem_of_getElem? (i := 685) (by decide +kernel))
theorem fl_X7_36 : Cond.fieldLink RX7 36 (TX7 13).1 (TX7 13).2.1 (TX7 13).2.2.1 ∈ lw_tbl := List.mem_append_right _ (List.mem_of_getElem? (i := 687) (by decide +kernel))
theorem fl_X7_39 : Cond.fieldLink RX7 39 (TX7 14).1 (TX7 14).2.1 (TX7 14).2.2.1 ∈ lw_tbl := List.mem_append_right _ (List.mem_of_getElem? (i := 688) (by decide +kernel))
theorem fl_X7_42 : Cond.fieldLink RX7 42 (TX7 17).1 (TX7 17).2.1 (TX7 17).2.2.1 ∈ lw_tbl := List.mem_append_right _ (List.mem_of_getElem? (i := 691) (by decide +kernel))
theorem fl_X7_45 : Cond.fieldLink RX7 45 (TX7 18).1 (TX7 18).2.1 (TX7 18).2.2.1 ∈ lw_tbl := List.mem_append_right _ (List.mem_of_getElem? (i := 692) (by decide +kernel))
theorem fl_X7_48 : Cond.fieldLink RX7 48 (TX7 19).1 (TX7 19).2.1 (TX7 19).2.2.1 ∈ lw_tbl := List.mem_append_right _ (List.mem_of_getElem? (i := 693) (by decide +kernel))
theorem fl_X7_51 : Cond.fieldLink RX7 51 (TX7 20).1 (TX7 20).2.1 (TX7 20).2.2.1 ∈ lw_tbl := List.mem_append_right _ (List.mem_of_getElem? (i := 694) (by decide +kernel))
theorem fl_X7_54 : Cond.fieldLink RX7 54 (TX7 21).1 (TX7 21).2.1 (TX7 21).2.2.1 ∈ lw_tbl := List.mem_append_right _ (List.mem_of_getElem? (i := 695) (by decide +kernel))
theorem fl_X7_57 : Cond.fieldLink RX7 57 (TX7 30).1 (TX7 30).2.1 (TX7 30).2.2.1 ∈ lw_tbl := List.mem_append_right _ (List.mem_of_getElem? (i := 704) (by decide +kernel))
theorem fl_X7_60 : Cond.fieldLink RX7 60 (TX7 31).1 (TX7 31).2.1 (TX7 31).2.2.1 ∈ lw_tbl := List.mem_append_right _ (List.mem_of_getElem? (i := 705) (by decide +kernel))
theorem fl_X7_63 : Cond.fieldLink RX7 63 (TX7 32).1 (TX7 32).2.1 (TX7 32).2.2.1 ∈ lw_tbl := List.mem_append_right _ (List.mem_of_getElem? (i := 706) (by decide +kernel))
theorem fl_X7_66 : Cond.fieldLink RX7 66 (TX7 33).1 (TX7 33).2.1 (TX7 33).2.2.1 ∈ lw_tbl := List.mem_append_right _ (List.mem_of_getElem? (i := 707) (by decide +kernel))
theorem ml_X7_69 : Cond.methodLink RX7 69 yX7_table ∈ lw_tbl := List.mem_append_right _ (List.mem_of_getElem? (i := 667) (by decide +kernel))
theorem fl_X7_73 : Cond.fieldLink RX7 73 (TX7 0).1 (TX7 0).2.1 (TX7 0).2.2.1 ∈ lw_tbl := List.mem_append_right _ (List.mem_of_getElem? (i := 674) (by decide +kernel))
theorem fl_X7_76 : Cond.fieldLink RX7 76 (TX7 15).1 (TX7 15).2.1 (TX7 15).2.2.1 ∈ lw_tbl := List.mem_append_right _ (List.mem_of_getElem? (i := 689) (by decide +kernel))
theorem ml_X7_80 : Cond.methodLink RX7 80 yX7_isIn ∈ lw_tbl := List.mem_append_right _ (List.mem_of_getElem? (i := 671) (by decide +kernel))
theorem fl_X7_84 : Cond.fieldLink RX7 84 (TX7 4).1 (TX7 4).2.1 (TX7 4).2.2.1 ∈ lw_tbl := List.mem_append_right _ (List.mem_of_getElem? (i := 678) (by decide +kernel))
theorem fl_X7_87 : Cond.fieldLink RX7 87 (TX7 5).1 (TX7 5).2.1 (TX7 5).2.2.1 ∈ lw_tbl := List.mem_append_right _ (List.mem_of_getElem? (i := 679) (by decide +kernel))
theorem fl_X7_90 : Cond.fieldLink RX7 90 (TX7 8).1 (TX7 8).2.1 (TX7 8).2.2.1 ∈ lw_tbl := List.mem_append_right _ (List.mem_of_getElem? (i := 682) (by decide +kernel))
theorem ml_X7_93 : Cond.methodLink RX7 93 Lib.Math.abs.name ∈ lw_tbl := List.mem_append_right _ (List.mem_of_getElem? (i := 824) (by decide +kernel))
theorem ml_X7_99 : Cond.methodLink RX7 99 yX7_isState ∈ lw_tbl := List.mem_append_right _ (List.mem_of_getElem? (i := 832) (by decide +kernel))
theorem ml_X7_102 : Cond.methodLink RX7 102 yX7_isSafe ∈ lw_tbl := List.mem_append_right _ (List.mem_of_getElem? (i := 836) (by decide +kernel))
theorem ml_X7_106 : Cond.methodLink RX7 106 yX7_isRest ∈ lw_tbl := List.mem_append_right _ (List.mem_of_getElem? (i := 820) (by decide +kernel))
theorem ml_X7_109 : Cond.methodLink RX7 109 yX7_index ∈ lw_tbl := List.mem_append_right _ (List.mem_of_getElem? (i := 825) (by decide +kernel))
theorem ml_X7_113 : Cond.methodLink RX7 113 yX7_mayGo ∈ lw_tbl := List.mem_append_right _ (List.mem_of_getElem? (i := 828) (by decide +kernel))
theorem ml_X7_117 : Cond.methodLink RX7 117 yX7_spread ∈ lw_tbl := List.mem_append_right _ (List.mem_of_getElem? (i := 815) (by decide +kernel))
theorem fl_X7_120 : Cond.fieldLink RX7 120 (TX7 12).1 (TX7 12).2.1 (TX7 12).2.2.1 ∈ lw_tbl := List.mem_append_right _ (List.mem_of_getElem? (i := 686) (by decide +kernel))
theorem ml_X7_123 : Cond.methodLink RX7 123 yX7_ramps ∈ lw_tbl := List.mem_append_right _ (List.mem_of_getElem? (i := 811) (by decide +kernel))
theorem ml_X7_127 : Cond.methodLink RX7 127 yX7_of ∈ lw_tbl := List.mem_append_right _ (List.mem_of_getElem? (i := 856) (by decide +kernel))
theorem ml_X7_131 : Cond.methodLink RX7 131 yX7_slows ∈ lw_tbl := List.mem_append_right _ (List.mem_of_getElem? (i := 852) (by decide +kernel))
theorem ml_X7_135 : Cond.methodLink RX7 135 yX7_slowsFrom ∈ lw_tbl := List.mem_append_right _ (List.mem_of_getElem? (i := 848) (by decide +kernel))
theorem ml_X7_138 : Cond.methodLink RX7 138 Lib.Math.max.name ∈ lw_tbl := List.mem_append_right _ (List.mem_of_getElem? (i := 863) (by decide +kernel))
theorem ml_X7_141 : Cond.methodLink RX7 141 yX7_follow ∈ lw_tbl := List.mem_append_right _ (List.mem_of_getElem? (i := 864) (by decide +kernel))
theorem fl_X7_144 : Cond.fieldLink RX7 144 (TX7 26).1 (TX7 26).2.1 (TX7 26).2.2.1 ∈ lw_tbl := List.mem_append_right _ (List.mem_of_getElem? (i := 700) (by decide +kernel))
theorem fl_X7_147 : Cond.fieldLink RX7 147 (TX7 25).1 (TX7 25).2.1 (TX7 25).2.2.1 ∈ lw_tbl := List.mem_append_right _ (List.mem_of_getElem? (i := 699) (by decide +kernel))
theorem fl_X7_150 : Cond.fieldLink RX7 150 (TX7 27).1 (TX7 27).2.1 (TX7 27).2.2.1 ∈ lw_tbl := List.mem_append_right _ (List.mem_of_getElem? (i := 701) (by decide +kernel))
theorem fl_X7_153 : Cond.fieldLink RX7 153 (TX7 28).1 (TX7 28).2.1 (TX7 28).2.2.1 ∈ lw_tbl := List.mem_append_right _ (List.mem_of_getElem? (i := 702) (by decide +kernel))
theorem fl_X7_156 : Cond.fieldLink RX7 156 (TX7 24).1 (TX7 24).2.1 (TX7 24).2.2.1 ∈ lw_tbl := List.mem_append_right _ (List.mem_of_getElem? (i := 698) (by decide +kernel))
theorem fl_X7_159 : Cond.fieldLink RX7 159 (TX7 29).1 (TX7 29).2.1 (TX7 29).2.2.1 ∈ lw_tbl := List.mem_append_right _ (List.mem_of_getElem? (i := 703) (by decide +kernel))
theorem fl_X7_162 : Cond.fieldLink RX7 162 (TX7 16).1 (TX7 16).2.1 (TX7 16).2.2.1 ∈ lw_tbl := List.mem_append_right _ (List.mem_of_getElem? (i := 690) (by decide +kernel))
theorem fl_X7_165 : Cond.fieldLink RX7 165 (TX7 22).1 (TX7 22).2.1 (TX7 22).2.2.1 ∈ lw_tbl := List.mem_append_right _ (List.mem_of_getElem? (i := 696) (by decide +kernel))
theorem fl_X7_168 : Cond.fieldLink RX7 168 (TX7 23).1 (TX7 23).2.1 (TX7 23).2.2.1 ∈ lw_tbl := List.mem_append_right _ (List.mem_of_getElem? (i := 697) (by decide +kernel))
theorem ml_X7_171 : Cond.methodLink RX7 171 yX7_gone ∈ lw_tbl := List.mem_append_right _ (List.mem_of_getElem? (i := 872) (by decide +kernel))
theorem fl_X7_174 : Cond.fieldLink RX7 174 (TX7 34).1 (TX7 34).2.1 (TX7 34).2.2.1 ∈ lw_tbl := List.mem_append_right _ (List.mem_of_getElem? (i := 708) (by decide +kernel))
theorem fl_X7_177 : Cond.fieldLink RX7 177 (TX7 35).1 (TX7 35).2.1 (TX7 35).2.2.1 ∈ lw_tbl := List.mem_append_right _ (List.mem_of_getElem? (i := 709) (by decide +kernel))
theorem ml_X7_180 : Cond.methodLink RX7 180 yX7_missOf ∈ lw_tbl := List.mem_append_right _ (List.mem_of_getElem? (i := 913) (by decide +kernel))
theorem ml_X7_183 : Cond.methodLink RX7 183 yX7_evenness ∈ lw_tbl := List.mem_append_right _ (List.mem_of_getElem? (i := 925) (by decide +kernel))
theorem hTX0 : ∀ w ∈ u_ws RX0 TX0 6, w ∈ lw_tbl ∧ goodWord w = true := by decide +kernel
theorem hTX1 : ∀ w ∈ u_ws RX1 TX1 3, w ∈ lw_tbl ∧ goodWord w = true := by decide +kernel
theorem hTX2 : ∀ w ∈ u_ws RX2 TX2 10, w ∈ lw_tbl ∧ goodWord w = true := by decide +kernel
theorem hTX3 : ∀ w ∈ u_ws RX3 TX3 5, w ∈ lw_tbl ∧ goodWord w = true := by decide +kernel
theorem hTX4 : ∀ w ∈ u_ws RX4 TX4 9, w ∈ lw_tbl ∧ goodWord w = true := by decide +kernel
theorem hTX5 : ∀ w ∈ u_ws RX5 TX5 6, w ∈ lw_tbl ∧ goodWord w = true := by decide +kernel
theorem hTX6 : ∀ w ∈ u_ws RX6 TX6 9, w ∈ lw_tbl ∧ goodWord w = true := by decide +kernel
theorem hTX7 : ∀ w ∈ u_ws RX7 TX7 36, w ∈ lw_tbl ∧ goodWord w = true := by decide +kernel
abbrev ydX0_init : am_Y := (yX0_init, cX0_init, 1, none, 1, 20)
abbrev ydX0_start : am_Y := (yX0_start, cX0_start, 2, none, 0, 0)
theorem okX0_start : am_okV ydX0_start 1 := ⟨⟨List.mem_append_right _ (List.mem_of_getElem? (i := 432) (by decide +kernel)), List.mem_append_right _ (List.mem_of_getElem? (i := 431) (by decide +kernel))⟩, List.mem_append_right _ (List.mem_of_getElem? (i := 7) (by decide +kernel)), List.mem_append_right _ (List.mem_of_getElem? (i := 433) (by decide +kernel)), ⟨by decide +kernel, by decide +kernel, by decide +kernel⟩⟩
abbrev ydX0_follow : am_Y := (yX0_follow, cX0_follow, 5, none, 2, 44)
theorem okX0_follow : am_okV ydX0_follow 3 := ⟨⟨List.mem_append_right _ (List.mem_of_getElem? (i := 458) (by decide +kernel)), List.mem_append_right _ (List.mem_of_getElem? (i := 457) (by decide +kernel))⟩, List.mem_append_right _ (List.mem_of_getElem? (i := 7) (by decide +kernel)), List.mem_append_right _ (List.mem_of_getElem? (i := 459) (by decide +kernel)), ⟨by decide +kernel, by decide +kernel, by decide +kernel⟩⟩
abbrev ydX0_goneBehind : am_Y := (yX0_goneBehind, cX0_goneBehind, 4, (some .int), 1, 21)
theorem okX0_goneBehind : am_okV ydX0_goneBehind 2 := ⟨⟨List.mem_append_left _ (List.mem_of_getElem? (i := 9) (by decide +kernel)), List.mem_append_right _ (List.mem_of_getElem? (i := 462) (by decide +kernel))⟩, List.mem_append_right _ (List.mem_of_getElem? (i := 7) (by decide +kernel)), List.mem_append_right _ (List.mem_of_getElem? (i := 463) (by decide +kernel)), ⟨by decide +kernel, by decide +kernel, by decide +kernel⟩⟩
abbrev ydX0_putSwitch : am_Y := (yX0_putSwitch, cX0_putSwitch, 2, none, 0, 0)
theorem okX0_putSwitch : am_okV ydX0_putSwitch 1 := ⟨⟨List.mem_append_right _ (List.mem_of_getElem? (i := 487) (by decide +kernel)), List.mem_append_right _ (List.mem_of_getElem? (i := 486) (by decide +kernel))⟩, List.mem_append_right _ (List.mem_of_getElem? (i := 7) (by decide +kernel)), List.mem_append_right _ (List.mem_of_getElem? (i := 488) (by decide +kernel)), ⟨by decide +kernel, by decide +kernel, by decide +kernel⟩⟩
abbrev ydX0_isOn : am_Y := (yX0_isOn, cX0_isOn, 1, (some .boolean), 0, 0)
theorem okX0_isOn : am_okV ydX0_isOn 0 := ⟨⟨List.mem_append_right _ (List.mem_of_getElem? (i := 495) (by decide +kernel)), List.mem_append_right _ (List.mem_of_getElem? (i := 494) (by decide +kernel))⟩, List.mem_append_right _ (List.mem_of_getElem? (i := 7) (by decide +kernel)), List.mem_append_right _ (List.mem_of_getElem? (i := 496) (by decide +kernel)), ⟨by decide +kernel, by decide +kernel, by decide +kernel⟩⟩
abbrev ydX0_findSwitch : am_Y := (yX0_findSwitch, cX0_findSwitch, 2, (some .int), 1, 20)
theorem okX0_findSwitch : am_okV ydX0_findSwitch 0 := ⟨⟨List.mem_append_right _ (List.mem_of_getElem? (i := 503) (by decide +kernel)), List.mem_append_right _ (List.mem_of_getElem? (i := 502) (by decide +kernel))⟩, List.mem_append_right _ (List.mem_of_getElem? (i := 7) (by decide +kernel)), List.mem_append_right _ (List.mem_of_getElem? (i := 504) (by decide +kernel)), ⟨by decide +kernel, by decide +kernel, by decide +kernel⟩⟩
abbrev ydX1_init : am_Y := (yX1_init, cX1_init, 1, none, 1, 23)
abbrev ydX1_lay : am_Y := (yX1_lay, cX1_lay, 4, none, 0, 0)
theorem okX1_lay : am_okV ydX1_lay 2 := ⟨⟨List.mem_append_right _ (List.mem_of_getElem? (i := 195) (by decide +kernel)), List.mem_append_right _ (List.mem_of_getElem? (i := 194) (by decide +kernel))⟩, List.mem_append_right _ (List.mem_of_getElem? (i := 8) (by decide +kernel)), List.mem_append_right _ (List.mem_of_getElem? (i := 196) (by decide +kernel)), ⟨by decide +kernel, by decide +kernel, by decide +kernel⟩⟩
abbrev ydX1_put : am_Y := (yX1_put, cX1_put, 3, none, 1, 22)
theorem okX1_put : am_okV ydX1_put 2 := ⟨⟨List.mem_append_right _ (List.mem_of_getElem? (i := 517) (by decide +kernel)), List.mem_append_right _ (List.mem_of_getElem? (i := 516) (by decide +kernel))⟩, List.mem_append_right _ (List.mem_of_getElem? (i := 8) (by decide +kernel)), List.mem_append_right _ (List.mem_of_getElem? (i := 518) (by decide +kernel)), ⟨by decide +kernel, by decide +kernel, by decide +kernel⟩⟩
abbrev ydX1_numberAt : am_Y := (yX1_numberAt, cX1_numberAt, 2, (some .int), 1, 22)
theorem okX1_numberAt : am_okV ydX1_numberAt 1 := ⟨⟨List.mem_append_left _ (List.mem_of_getElem? (i := 11) (by decide +kernel)), List.mem_append_right _ (List.mem_of_getElem? (i := 530) (by decide +kernel))⟩, List.mem_append_right _ (List.mem_of_getElem? (i := 8) (by decide +kernel)), List.mem_append_right _ (List.mem_of_getElem? (i := 531) (by decide +kernel)), ⟨by decide +kernel, by decide +kernel, by decide +kernel⟩⟩
abbrev ydX1_quarterOf : am_Y := (yX1_quarterOf, cX1_quarterOf, 2, (some .int), 0, 0)
theorem okX1_quarterOf : am_okV ydX1_quarterOf 1 := ⟨⟨List.mem_append_left _ (List.mem_of_getElem? (i := 18) (by decide +kernel)), List.mem_append_right _ (List.mem_of_getElem? (i := 655) (by decide +kernel))⟩, List.mem_append_right _ (List.mem_of_getElem? (i := 8) (by decide +kernel)), List.mem_append_right _ (List.mem_of_getElem? (i := 656) (by decide +kernel)), ⟨by decide +kernel, by decide +kernel, by decide +kernel⟩⟩
abbrev ydX1_restOf : am_Y := (yX1_restOf, cX1_restOf, 2, (some .int), 0, 0)
theorem okX1_restOf : am_okV ydX1_restOf 1 := ⟨⟨List.mem_append_left _ (List.mem_of_getElem? (i := 17) (by decide +kernel)), List.mem_append_right _ (List.mem_of_getElem? (i := 651) (by decide +kernel))⟩, List.mem_append_right _ (List.mem_of_getElem? (i := 8) (by decide +kernel)), List.mem_append_right _ (List.mem_of_getElem? (i := 652) (by decide +kernel)), ⟨by decide +kernel, by decide +kernel, by decide +kernel⟩⟩
abbrev ydX1_firstAt : am_Y := (yX1_firstAt, cX1_firstAt, 3, (some .int), 2, 43)
theorem okX1_firstAt : am_okV ydX1_firstAt 1 := ⟨⟨List.mem_append_right _ (List.mem_of_getElem? (i := 647) (by decide +kernel)), List.mem_append_right _ (List.mem_of_getElem? (i := 646) (by decide +kernel))⟩, List.mem_append_right _ (List.mem_of_getElem? (i := 8) (by decide +kernel)), List.mem_append_right _ (List.mem_of_getElem? (i := 648) (by decide +kernel)), ⟨by decide +kernel, by decide +kernel, by decide +kernel⟩⟩
abbrev ydX1_secondAt : am_Y := (yX1_secondAt, cX1_secondAt, 3, (some .int), 2, 43)
theorem okX1_secondAt : am_okV ydX1_secondAt 1 := ⟨⟨List.mem_append_right _ (List.mem_of_getElem? (i := 659) (by decide +kernel)), List.mem_append_right _ (List.mem_of_getElem? (i := 658) (by decide +kernel))⟩, List.mem_append_right _ (List.mem_of_getElem? (i := 8) (by decide +kernel)), List.mem_append_right _ (List.mem_of_getElem? (i := 660) (by decide +kernel)), ⟨by decide +kernel, by decide +kernel, by decide +kernel⟩⟩
abbrev ydX1_missOfPair : am_Y := (yX1_missOfPair, cX1_missOfPair, 3, (some .int), 1, 21)
theorem okX1_missOfPair : am_okV ydX1_missOfPair 2 := ⟨⟨List.mem_append_left _ (List.mem_of_getElem? (i := 12) (by decide +kernel)), List.mem_append_right _ (List.mem_of_getElem? (i := 534) (by decide +kernel))⟩, List.mem_append_right _ (List.mem_of_getElem? (i := 8) (by decide +kernel)), List.mem_append_right _ (List.mem_of_getElem? (i := 535) (by decide +kernel)), ⟨by decide +kernel, by decide +kernel, by decide +kernel⟩⟩
abbrev ydX1_missOf : am_Y := (yX1_missOf, cX1_missOf, 2, (some .int), 2, 43)
theorem okX1_missOf : am_okV ydX1_missOf 1 := ⟨⟨List.mem_append_right _ (List.mem_of_getElem? (i := 526) (by decide +kernel)), List.mem_append_right _ (List.mem_of_getElem? (i := 525) (by decide +kernel))⟩, List.mem_append_right _ (List.mem_of_getElem? (i := 8) (by decide +kernel)), List.mem_append_right _ (List.mem_of_getElem? (i := 527) (by decide +kernel)), ⟨by decide +kernel, by decide +kernel, by decide +kernel⟩⟩
abbrev ydX1_greatestMiss : am_Y := (yX1_greatestMiss, cX1_greatestMiss, 3, (some .int), 3, 64)
theorem okX1_greatestMiss : am_okV ydX1_greatestMiss 0 := ⟨⟨List.mem_append_right _ (List.mem_of_getElem? (i := 543) (by decide +kernel)), List.mem_append_right _ (List.mem_of_getElem? (i := 542) (by decide +kernel))⟩, List.mem_append_right _ (List.mem_of_getElem? (i := 8) (by decide +kernel)), List.mem_append_right _ (List.mem_of_getElem? (i := 544) (by decide +kernel)), ⟨by decide +kernel, by decide +kernel, by decide +kernel⟩⟩
abbrev ydX1_even : am_Y := (yX1_even, cX1_even, 2, none, 3, 70)
theorem okX1_even : am_okV ydX1_even 0 := ⟨⟨List.mem_append_right _ (List.mem_of_getElem? (i := 553) (by decide +kernel)), List.mem_append_right _ (List.mem_of_getElem? (i := 552) (by decide +kernel))⟩, List.mem_append_right _ (List.mem_of_getElem? (i := 8) (by decide +kernel)), List.mem_append_right _ (List.mem_of_getElem? (i := 554) (by decide +kernel)), ⟨by decide +kernel, by decide +kernel, by decide +kernel⟩⟩
abbrev ydX1_evenMiddle : am_Y := (yX1_evenMiddle, cX1_evenMiddle, 4, none, 2, 44)
theorem okX1_evenMiddle : am_okV ydX1_evenMiddle 1 := ⟨⟨List.mem_append_left _ (List.mem_of_getElem? (i := 13) (by decide +kernel)), List.mem_append_right _ (List.mem_of_getElem? (i := 557) (by decide +kernel))⟩, List.mem_append_right _ (List.mem_of_getElem? (i := 8) (by decide +kernel)), List.mem_append_right _ (List.mem_of_getElem? (i := 558) (by decide +kernel)), ⟨by decide +kernel, by decide +kernel, by decide +kernel⟩⟩
abbrev ydX1_evenPair : am_Y := (yX1_evenPair, cX1_evenPair, 7, none, 2, 44)
theorem okX1_evenPair : am_okV ydX1_evenPair 1 := ⟨⟨List.mem_append_left _ (List.mem_of_getElem? (i := 14) (by decide +kernel)), List.mem_append_right _ (List.mem_of_getElem? (i := 562) (by decide +kernel))⟩, List.mem_append_right _ (List.mem_of_getElem? (i := 8) (by decide +kernel)), List.mem_append_right _ (List.mem_of_getElem? (i := 563) (by decide +kernel)), ⟨by decide +kernel, by decide +kernel, by decide +kernel⟩⟩
abbrev ydX1_apart : am_Y := (yX1_apart, cX1_apart, 4, (some .int), 1, 21)
theorem okX1_apart : am_okV ydX1_apart 3 := ⟨⟨List.mem_append_left _ (List.mem_of_getElem? (i := 15) (by decide +kernel)), List.mem_append_right _ (List.mem_of_getElem? (i := 567) (by decide +kernel))⟩, List.mem_append_right _ (List.mem_of_getElem? (i := 8) (by decide +kernel)), List.mem_append_right _ (List.mem_of_getElem? (i := 568) (by decide +kernel)), ⟨by decide +kernel, by decide +kernel, by decide +kernel⟩⟩
abbrev ydX2_init : am_Y := (yX2_init, cX2_init, 1, none, 1, 20)
abbrev ydX2_goesOn : am_Y := (yX2_goesOn, cX2_goesOn, 1, (some .boolean), 0, 0)
theorem okX2_goesOn : am_okV ydX2_goesOn 0 := ⟨⟨List.mem_append_right _ (List.mem_of_getElem? (i := 243) (by decide +kernel)), List.mem_append_right _ (List.mem_of_getElem? (i := 242) (by decide +kernel))⟩, List.mem_append_right _ (List.mem_of_getElem? (i := 6) (by decide +kernel)), List.mem_append_right _ (List.mem_of_getElem? (i := 244) (by decide +kernel)), ⟨by decide +kernel, by decide +kernel, by decide +kernel⟩⟩
abbrev ydX2_start : am_Y := (yX2_start, cX2_start, 3, none, 0, 0)
theorem okX2_start : am_okV ydX2_start 2 := ⟨⟨List.mem_append_right _ (List.mem_of_getElem? (i := 428) (by decide +kernel)), List.mem_append_right _ (List.mem_of_getElem? (i := 427) (by decide +kernel))⟩, List.mem_append_right _ (List.mem_of_getElem? (i := 6) (by decide +kernel)), List.mem_append_right _ (List.mem_of_getElem? (i := 429) (by decide +kernel)), ⟨by decide +kernel, by decide +kernel, by decide +kernel⟩⟩
abbrev ydX2_goBySlowing : am_Y := (yX2_goBySlowing, cX2_goBySlowing, 3, none, 0, 0)
theorem okX2_goBySlowing : am_okV ydX2_goBySlowing 2 := ⟨⟨List.mem_append_right _ (List.mem_of_getElem? (i := 471) (by decide +kernel)), List.mem_append_right _ (List.mem_of_getElem? (i := 470) (by decide +kernel))⟩, List.mem_append_right _ (List.mem_of_getElem? (i := 6) (by decide +kernel)), List.mem_append_right _ (List.mem_of_getElem? (i := 472) (by decide +kernel)), ⟨by decide +kernel, by decide +kernel, by decide +kernel⟩⟩
abbrev ydX2_takeTick : am_Y := (yX2_takeTick, cX2_takeTick, 4, none, 0, 0)
theorem okX2_takeTick : am_okV ydX2_takeTick 3 := ⟨⟨List.mem_append_right _ (List.mem_of_getElem? (i := 454) (by decide +kernel)), List.mem_append_right _ (List.mem_of_getElem? (i := 453) (by decide +kernel))⟩, List.mem_append_right _ (List.mem_of_getElem? (i := 6) (by decide +kernel)), List.mem_append_right _ (List.mem_of_getElem? (i := 455) (by decide +kernel)), ⟨by decide +kernel, by decide +kernel, by decide +kernel⟩⟩
abbrev ydX2_end : am_Y := (yX2_end, cX2_end, 1, none, 0, 0)
theorem okX2_end : am_okV ydX2_end 0 := ⟨⟨List.mem_append_right _ (List.mem_of_getElem? (i := 449) (by decide +kernel)), List.mem_append_right _ (List.mem_of_getElem? (i := 448) (by decide +kernel))⟩, List.mem_append_right _ (List.mem_of_getElem? (i := 6) (by decide +kernel)), List.mem_append_right _ (List.mem_of_getElem? (i := 450) (by decide +kernel)), ⟨by decide +kernel, by decide +kernel, by decide +kernel⟩⟩
abbrev ydX3_init : am_Y := (yX3_init, cX3_init, 1, none, 1, 20)
abbrev ydX3_ticksOf : am_Y := (yX3_ticksOf, cX3_ticksOf, 3, (some .int), 4, 98)
theorem okX3_ticksOf : am_okV ydX3_ticksOf 2 := ⟨⟨List.mem_append_right _ (List.mem_of_getElem? (i := 295) (by decide +kernel)), List.mem_append_right _ (List.mem_of_getElem? (i := 294) (by decide +kernel))⟩, List.mem_append_right _ (List.mem_of_getElem? (i := 4) (by decide +kernel)), List.mem_append_right _ (List.mem_of_getElem? (i := 296) (by decide +kernel)), ⟨by decide +kernel, by decide +kernel, by decide +kernel⟩⟩
abbrev ydX3_speedIn : am_Y := (yX3_speedIn, cX3_speedIn, 8, (some .int), 4, 95)
theorem okX3_speedIn : am_okV ydX3_speedIn 3 := ⟨⟨List.mem_append_right _ (List.mem_of_getElem? (i := 368) (by decide +kernel)), List.mem_append_right _ (List.mem_of_getElem? (i := 367) (by decide +kernel))⟩, List.mem_append_right _ (List.mem_of_getElem? (i := 4) (by decide +kernel)), List.mem_append_right _ (List.mem_of_getElem? (i := 369) (by decide +kernel)), ⟨by decide +kernel, by decide +kernel, by decide +kernel⟩⟩
abbrev ydX3_nextChange : am_Y := (yX3_nextChange, cX3_nextChange, 9, (some .int), 3, 67)
theorem okX3_nextChange : am_okV ydX3_nextChange 4 := ⟨⟨List.mem_append_right _ (List.mem_of_getElem? (i := 372) (by decide +kernel)), List.mem_append_right _ (List.mem_of_getElem? (i := 371) (by decide +kernel))⟩, List.mem_append_right _ (List.mem_of_getElem? (i := 4) (by decide +kernel)), List.mem_append_right _ (List.mem_of_getElem? (i := 373) (by decide +kernel)), ⟨by decide +kernel, by decide +kernel, by decide +kernel⟩⟩
abbrev ydX3_begin : am_Y := (yX3_begin, cX3_begin, 3, none, 2, 44)
theorem okX3_begin : am_okV ydX3_begin 1 := ⟨⟨List.mem_append_left _ (List.mem_of_getElem? (i := 0) (by decide +kernel)), List.mem_append_right _ (List.mem_of_getElem? (i := 300) (by decide +kernel))⟩, List.mem_append_right _ (List.mem_of_getElem? (i := 4) (by decide +kernel)), List.mem_append_right _ (List.mem_of_getElem? (i := 301) (by decide +kernel)), ⟨by decide +kernel, by decide +kernel, by decide +kernel⟩⟩
abbrev ydX3_lookBehind : am_Y := (yX3_lookBehind, cX3_lookBehind, 12, none, 3, 67)
theorem okX3_lookBehind : am_okV ydX3_lookBehind 2 := ⟨⟨List.mem_append_left _ (List.mem_of_getElem? (i := 3) (by decide +kernel)), List.mem_append_right _ (List.mem_of_getElem? (i := 330) (by decide +kernel))⟩, List.mem_append_right _ (List.mem_of_getElem? (i := 4) (by decide +kernel)), List.mem_append_right _ (List.mem_of_getElem? (i := 331) (by decide +kernel)), ⟨by decide +kernel, by decide +kernel, by decide +kernel⟩⟩
abbrev ydX3_find : am_Y := (yX3_find, cX3_find, 3, none, 1, 21)
theorem okX3_find : am_okV ydX3_find 2 := ⟨⟨List.mem_append_left _ (List.mem_of_getElem? (i := 1) (by decide +kernel)), List.mem_append_right _ (List.mem_of_getElem? (i := 319) (by decide +kernel))⟩, List.mem_append_right _ (List.mem_of_getElem? (i := 4) (by decide +kernel)), List.mem_append_right _ (List.mem_of_getElem? (i := 320) (by decide +kernel)), ⟨by decide +kernel, by decide +kernel, by decide +kernel⟩⟩
abbrev ydX3_ticksAt : am_Y := (yX3_ticksAt, cX3_ticksAt, 5, (some .int), 2, 43)
theorem okX3_ticksAt : am_okV ydX3_ticksAt 3 := ⟨⟨List.mem_append_left _ (List.mem_of_getElem? (i := 2) (by decide +kernel)), List.mem_append_right _ (List.mem_of_getElem? (i := 326) (by decide +kernel))⟩, List.mem_append_right _ (List.mem_of_getElem? (i := 4) (by decide +kernel)), List.mem_append_right _ (List.mem_of_getElem? (i := 327) (by decide +kernel)), ⟨by decide +kernel, by decide +kernel, by decide +kernel⟩⟩
abbrev ydX3_nodeOf : am_Y := (yX3_nodeOf, cX3_nodeOf, 3, (some .int), 1, 21)
theorem okX3_nodeOf : am_okS ydX3_nodeOf 3 := ⟨List.mem_append_right _ (List.mem_of_getElem? (i := 312) (by decide +kernel)), List.mem_append_right _ (List.mem_of_getElem? (i := 4) (by decide +kernel)), List.mem_append_right _ (List.mem_of_getElem? (i := 313) (by decide +kernel)), ⟨by decide +kernel, by decide +kernel, by decide +kernel⟩⟩
abbrev ydX4_init : am_Y := (yX4_init, cX4_init, 1, none, 1, 23)
abbrev ydX4_tellLimits : am_Y := (yX4_tellLimits, cX4_tellLimits, 4, none, 0, 0)
theorem okX4_tellLimits : am_okV ydX4_tellLimits 3 := ⟨⟨List.mem_append_right _ (List.mem_of_getElem? (i := 250) (by decide +kernel)), List.mem_append_right _ (List.mem_of_getElem? (i := 249) (by decide +kernel))⟩, List.mem_append_right _ (List.mem_of_getElem? (i := 2) (by decide +kernel)), List.mem_append_right _ (List.mem_of_getElem? (i := 251) (by decide +kernel)), ⟨by decide +kernel, by decide +kernel, by decide +kernel⟩⟩
abbrev ydX4_tellBad : am_Y := (yX4_tellBad, cX4_tellBad, 3, none, 1, 22)
theorem okX4_tellBad : am_okV ydX4_tellBad 2 := ⟨⟨List.mem_append_right _ (List.mem_of_getElem? (i := 262) (by decide +kernel)), List.mem_append_right _ (List.mem_of_getElem? (i := 261) (by decide +kernel))⟩, List.mem_append_right _ (List.mem_of_getElem? (i := 2) (by decide +kernel)), List.mem_append_right _ (List.mem_of_getElem? (i := 263) (by decide +kernel)), ⟨by decide +kernel, by decide +kernel, by decide +kernel⟩⟩
abbrev ydX4_tellPull : am_Y := (yX4_tellPull, cX4_tellPull, 3, none, 1, 22)
theorem okX4_tellPull : am_okV ydX4_tellPull 2 := ⟨⟨List.mem_append_right _ (List.mem_of_getElem? (i := 271) (by decide +kernel)), List.mem_append_right _ (List.mem_of_getElem? (i := 270) (by decide +kernel))⟩, List.mem_append_right _ (List.mem_of_getElem? (i := 2) (by decide +kernel)), List.mem_append_right _ (List.mem_of_getElem? (i := 272) (by decide +kernel)), ⟨by decide +kernel, by decide +kernel, by decide +kernel⟩⟩
abbrev ydX4_tellLoad : am_Y := (yX4_tellLoad, cX4_tellLoad, 3, none, 0, 0)
theorem okX4_tellLoad : am_okV ydX4_tellLoad 2 := ⟨⟨List.mem_append_right _ (List.mem_of_getElem? (i := 279) (by decide +kernel)), List.mem_append_right _ (List.mem_of_getElem? (i := 278) (by decide +kernel))⟩, List.mem_append_right _ (List.mem_of_getElem? (i := 2) (by decide +kernel)), List.mem_append_right _ (List.mem_of_getElem? (i := 280) (by decide +kernel)), ⟨by decide +kernel, by decide +kernel, by decide +kernel⟩⟩
abbrev ydX4_tellOnlySafe : am_Y := (yX4_tellOnlySafe, cX4_tellOnlySafe, 2, none, 0, 0)
theorem okX4_tellOnlySafe : am_okV ydX4_tellOnlySafe 1 := ⟨⟨List.mem_append_right _ (List.mem_of_getElem? (i := 287) (by decide +kernel)), List.mem_append_right _ (List.mem_of_getElem? (i := 286) (by decide +kernel))⟩, List.mem_append_right _ (List.mem_of_getElem? (i := 2) (by decide +kernel)), List.mem_append_right _ (List.mem_of_getElem? (i := 288) (by decide +kernel)), ⟨by decide +kernel, by decide +kernel, by decide +kernel⟩⟩
abbrev ydX4_isBad : am_Y := (yX4_isBad, cX4_isBad, 2, (some .boolean), 0, 0)
theorem okX4_isBad : am_okV ydX4_isBad 1 := ⟨⟨List.mem_append_right _ (List.mem_of_getElem? (i := 258) (by decide +kernel)), List.mem_append_right _ (List.mem_of_getElem? (i := 257) (by decide +kernel))⟩, List.mem_append_right _ (List.mem_of_getElem? (i := 2) (by decide +kernel)), List.mem_append_right _ (List.mem_of_getElem? (i := 259) (by decide +kernel)), ⟨by decide +kernel, by decide +kernel, by decide +kernel⟩⟩
abbrev ydX4_isSpeed : am_Y := (yX4_isSpeed, cX4_isSpeed, 2, (some .boolean), 0, 0)
theorem okX4_isSpeed : am_okV ydX4_isSpeed 1 := ⟨⟨List.mem_append_right _ (List.mem_of_getElem? (i := 334) (by decide +kernel)), List.mem_append_right _ (List.mem_of_getElem? (i := 333) (by decide +kernel))⟩, List.mem_append_right _ (List.mem_of_getElem? (i := 2) (by decide +kernel)), List.mem_append_right _ (List.mem_of_getElem? (i := 335) (by decide +kernel)), ⟨by decide +kernel, by decide +kernel, by decide +kernel⟩⟩
abbrev ydX4_isState : am_Y := (yX4_isState, cX4_isState, 3, (some .boolean), 0, 0)
theorem okX4_isState : am_okV ydX4_isState 2 := ⟨⟨List.mem_append_right _ (List.mem_of_getElem? (i := 309) (by decide +kernel)), List.mem_append_right _ (List.mem_of_getElem? (i := 308) (by decide +kernel))⟩, List.mem_append_right _ (List.mem_of_getElem? (i := 2) (by decide +kernel)), List.mem_append_right _ (List.mem_of_getElem? (i := 310) (by decide +kernel)), ⟨by decide +kernel, by decide +kernel, by decide +kernel⟩⟩
abbrev ydX4_isRest : am_Y := (yX4_isRest, cX4_isRest, 3, (some .boolean), 1, 22)
theorem okX4_isRest : am_okV ydX4_isRest 2 := ⟨⟨List.mem_append_right _ (List.mem_of_getElem? (i := 305) (by decide +kernel)), List.mem_append_right _ (List.mem_of_getElem? (i := 304) (by decide +kernel))⟩, List.mem_append_right _ (List.mem_of_getElem? (i := 2) (by decide +kernel)), List.mem_append_right _ (List.mem_of_getElem? (i := 306) (by decide +kernel)), ⟨by decide +kernel, by decide +kernel, by decide +kernel⟩⟩
abbrev ydX4_isSafe : am_Y := (yX4_isSafe, cX4_isSafe, 3, (some .boolean), 1, 21)
theorem okX4_isSafe : am_okV ydX4_isSafe 2 := ⟨⟨List.mem_append_right _ (List.mem_of_getElem? (i := 343) (by decide +kernel)), List.mem_append_right _ (List.mem_of_getElem? (i := 342) (by decide +kernel))⟩, List.mem_append_right _ (List.mem_of_getElem? (i := 2) (by decide +kernel)), List.mem_append_right _ (List.mem_of_getElem? (i := 344) (by decide +kernel)), ⟨by decide +kernel, by decide +kernel, by decide +kernel⟩⟩
abbrev ydX4_mayEnd : am_Y := (yX4_mayEnd, cX4_mayEnd, 4, (some .boolean), 2, 43)
theorem okX4_mayEnd : am_okV ydX4_mayEnd 3 := ⟨⟨List.mem_append_right _ (List.mem_of_getElem? (i := 338) (by decide +kernel)), List.mem_append_right _ (List.mem_of_getElem? (i := 337) (by decide +kernel))⟩, List.mem_append_right _ (List.mem_of_getElem? (i := 2) (by decide +kernel)), List.mem_append_right _ (List.mem_of_getElem? (i := 339) (by decide +kernel)), ⟨by decide +kernel, by decide +kernel, by decide +kernel⟩⟩
abbrev ydX4_leastBeside : am_Y := (yX4_leastBeside, cX4_leastBeside, 2, (some .int), 1, 21)
theorem okX4_leastBeside : am_okV ydX4_leastBeside 1 := ⟨⟨List.mem_append_right _ (List.mem_of_getElem? (i := 357) (by decide +kernel)), List.mem_append_right _ (List.mem_of_getElem? (i := 356) (by decide +kernel))⟩, List.mem_append_right _ (List.mem_of_getElem? (i := 2) (by decide +kernel)), List.mem_append_right _ (List.mem_of_getElem? (i := 358) (by decide +kernel)), ⟨by decide +kernel, by decide +kernel, by decide +kernel⟩⟩
abbrev ydX4_mostBeside : am_Y := (yX4_mostBeside, cX4_mostBeside, 2, (some .int), 1, 21)
theorem okX4_mostBeside : am_okV ydX4_mostBeside 1 := ⟨⟨List.mem_append_right _ (List.mem_of_getElem? (i := 350) (by decide +kernel)), List.mem_append_right _ (List.mem_of_getElem? (i := 349) (by decide +kernel))⟩, List.mem_append_right _ (List.mem_of_getElem? (i := 2) (by decide +kernel)), List.mem_append_right _ (List.mem_of_getElem? (i := 351) (by decide +kernel)), ⟨by decide +kernel, by decide +kernel, by decide +kernel⟩⟩
abbrev ydX5_init : am_Y := (yX5_init, cX5_init, 2, none, 1, 20)
abbrev ydX5_ticksFrom : am_Y := (yX5_ticksFrom, cX5_ticksFrom, 4, (some .int), 1, 21)
theorem okX5_ticksFrom : am_okV ydX5_ticksFrom 2 := ⟨⟨List.mem_append_right _ (List.mem_of_getElem? (i := 403) (by decide +kernel)), List.mem_append_right _ (List.mem_of_getElem? (i := 402) (by decide +kernel))⟩, List.mem_append_right _ (List.mem_of_getElem? (i := 5) (by decide +kernel)), List.mem_append_right _ (List.mem_of_getElem? (i := 404) (by decide +kernel)), ⟨by decide +kernel, by decide +kernel, by decide +kernel⟩⟩
abbrev ydX5_stepsFrom : am_Y := (yX5_stepsFrom, cX5_stepsFrom, 4, (some .int), 1, 21)
theorem okX5_stepsFrom : am_okV ydX5_stepsFrom 2 := ⟨⟨List.mem_append_right _ (List.mem_of_getElem? (i := 407) (by decide +kernel)), List.mem_append_right _ (List.mem_of_getElem? (i := 406) (by decide +kernel))⟩, List.mem_append_right _ (List.mem_of_getElem? (i := 5) (by decide +kernel)), List.mem_append_right _ (List.mem_of_getElem? (i := 408) (by decide +kernel)), ⟨by decide +kernel, by decide +kernel, by decide +kernel⟩⟩
abbrev ydX5_nextChange : am_Y := (yX5_nextChange, cX5_nextChange, 9, (some .int), 3, 66)
theorem okX5_nextChange : am_okV ydX5_nextChange 3 := ⟨⟨List.mem_append_right _ (List.mem_of_getElem? (i := 415) (by decide +kernel)), List.mem_append_right _ (List.mem_of_getElem? (i := 414) (by decide +kernel))⟩, List.mem_append_right _ (List.mem_of_getElem? (i := 5) (by decide +kernel)), List.mem_append_right _ (List.mem_of_getElem? (i := 416) (by decide +kernel)), ⟨by decide +kernel, by decide +kernel, by decide +kernel⟩⟩
abbrev ydX5_renew : am_Y := (yX5_renew, cX5_renew, 3, none, 4, 95)
theorem okX5_renew : am_okV ydX5_renew 1 := ⟨⟨List.mem_append_right _ (List.mem_of_getElem? (i := 385) (by decide +kernel)), List.mem_append_right _ (List.mem_of_getElem? (i := 384) (by decide +kernel))⟩, List.mem_append_right _ (List.mem_of_getElem? (i := 5) (by decide +kernel)), List.mem_append_right _ (List.mem_of_getElem? (i := 386) (by decide +kernel)), ⟨by decide +kernel, by decide +kernel, by decide +kernel⟩⟩
abbrev ydX5_lookBehind : am_Y := (yX5_lookBehind, cX5_lookBehind, 10, none, 3, 66)
theorem okX5_lookBehind : am_okV ydX5_lookBehind 2 := ⟨⟨List.mem_append_left _ (List.mem_of_getElem? (i := 6) (by decide +kernel)), List.mem_append_right _ (List.mem_of_getElem? (i := 397) (by decide +kernel))⟩, List.mem_append_right _ (List.mem_of_getElem? (i := 5) (by decide +kernel)), List.mem_append_right _ (List.mem_of_getElem? (i := 398) (by decide +kernel)), ⟨by decide +kernel, by decide +kernel, by decide +kernel⟩⟩
abbrev ydX5_find : am_Y := (yX5_find, cX5_find, 4, none, 1, 21)
theorem okX5_find : am_okV ydX5_find 3 := ⟨⟨List.mem_append_left _ (List.mem_of_getElem? (i := 5) (by decide +kernel)), List.mem_append_right _ (List.mem_of_getElem? (i := 392) (by decide +kernel))⟩, List.mem_append_right _ (List.mem_of_getElem? (i := 5) (by decide +kernel)), List.mem_append_right _ (List.mem_of_getElem? (i := 393) (by decide +kernel)), ⟨by decide +kernel, by decide +kernel, by decide +kernel⟩⟩
abbrev ydX6_init : am_Y := (yX6_init, cX6_init, 1, none, 2, 43)
abbrev ydX6_limits : am_Y := (yX6_limits, cX6_limits, 4, (some .boolean), 1, 23)
theorem okX6_limits : am_okV ydX6_limits 3 := ⟨⟨List.mem_append_right _ (List.mem_of_getElem? (i := 239) (by decide +kernel)), List.mem_append_right _ (List.mem_of_getElem? (i := 238) (by decide +kernel))⟩, List.mem_append_right _ (List.mem_of_getElem? (i := 1) (by decide +kernel)), List.mem_append_right _ (List.mem_of_getElem? (i := 240) (by decide +kernel)), ⟨by decide +kernel, by decide +kernel, by decide +kernel⟩⟩
abbrev ydX6_bad : am_Y := (yX6_bad, cX6_bad, 3, (some .boolean), 2, 44)
theorem okX6_bad : am_okV ydX6_bad 2 := ⟨⟨List.mem_append_right _ (List.mem_of_getElem? (i := 254) (by decide +kernel)), List.mem_append_right _ (List.mem_of_getElem? (i := 253) (by decide +kernel))⟩, List.mem_append_right _ (List.mem_of_getElem? (i := 1) (by decide +kernel)), List.mem_append_right _ (List.mem_of_getElem? (i := 255) (by decide +kernel)), ⟨by decide +kernel, by decide +kernel, by decide +kernel⟩⟩
abbrev ydX6_pull : am_Y := (yX6_pull, cX6_pull, 3, (some .boolean), 2, 44)
theorem okX6_pull : am_okV ydX6_pull 2 := ⟨⟨List.mem_append_right _ (List.mem_of_getElem? (i := 267) (by decide +kernel)), List.mem_append_right _ (List.mem_of_getElem? (i := 266) (by decide +kernel))⟩, List.mem_append_right _ (List.mem_of_getElem? (i := 1) (by decide +kernel)), List.mem_append_right _ (List.mem_of_getElem? (i := 268) (by decide +kernel)), ⟨by decide +kernel, by decide +kernel, by decide +kernel⟩⟩
abbrev ydX6_load : am_Y := (yX6_load, cX6_load, 3, (some .boolean), 1, 22)
theorem okX6_load : am_okV ydX6_load 2 := ⟨⟨List.mem_append_right _ (List.mem_of_getElem? (i := 275) (by decide +kernel)), List.mem_append_right _ (List.mem_of_getElem? (i := 274) (by decide +kernel))⟩, List.mem_append_right _ (List.mem_of_getElem? (i := 1) (by decide +kernel)), List.mem_append_right _ (List.mem_of_getElem? (i := 276) (by decide +kernel)), ⟨by decide +kernel, by decide +kernel, by decide +kernel⟩⟩
abbrev ydX6_only : am_Y := (yX6_only, cX6_only, 2, (some .boolean), 1, 21)
theorem okX6_only : am_okV ydX6_only 1 := ⟨⟨List.mem_append_right _ (List.mem_of_getElem? (i := 283) (by decide +kernel)), List.mem_append_right _ (List.mem_of_getElem? (i := 282) (by decide +kernel))⟩, List.mem_append_right _ (List.mem_of_getElem? (i := 1) (by decide +kernel)), List.mem_append_right _ (List.mem_of_getElem? (i := 284) (by decide +kernel)), ⟨by decide +kernel, by decide +kernel, by decide +kernel⟩⟩
abbrev ydX6_ramp : am_Y := (yX6_ramp, cX6_ramp, 2, (some .int), 5, 120)
theorem okX6_ramp : am_okV ydX6_ramp 1 := ⟨⟨List.mem_append_right _ (List.mem_of_getElem? (i := 291) (by decide +kernel)), List.mem_append_right _ (List.mem_of_getElem? (i := 290) (by decide +kernel))⟩, List.mem_append_right _ (List.mem_of_getElem? (i := 1) (by decide +kernel)), List.mem_append_right _ (List.mem_of_getElem? (i := 292) (by decide +kernel)), ⟨by decide +kernel, by decide +kernel, by decide +kernel⟩⟩
abbrev ydX6_speed : am_Y := (yX6_speed, cX6_speed, 3, (some .int), 5, 122)
theorem okX6_speed : am_okV ydX6_speed 2 := ⟨⟨List.mem_append_right _ (List.mem_of_getElem? (i := 364) (by decide +kernel)), List.mem_append_right _ (List.mem_of_getElem? (i := 363) (by decide +kernel))⟩, List.mem_append_right _ (List.mem_of_getElem? (i := 1) (by decide +kernel)), List.mem_append_right _ (List.mem_of_getElem? (i := 365) (by decide +kernel)), ⟨by decide +kernel, by decide +kernel, by decide +kernel⟩⟩
abbrev ydX6_slowing : am_Y := (yX6_slowing, cX6_slowing, 7, (some .int), 6, 139)
theorem okX6_slowing : am_okV ydX6_slowing 3 := ⟨⟨List.mem_append_right _ (List.mem_of_getElem? (i := 376) (by decide +kernel)), List.mem_append_right _ (List.mem_of_getElem? (i := 375) (by decide +kernel))⟩, List.mem_append_right _ (List.mem_of_getElem? (i := 1) (by decide +kernel)), List.mem_append_right _ (List.mem_of_getElem? (i := 377) (by decide +kernel)), ⟨by decide +kernel, by decide +kernel, by decide +kernel⟩⟩
abbrev ydX6_move : am_Y := (yX6_move, cX6_move, 6, (some .int), 5, 120)
theorem okX6_move : am_okV ydX6_move 3 := ⟨⟨List.mem_append_right _ (List.mem_of_getElem? (i := 419) (by decide +kernel)), List.mem_append_right _ (List.mem_of_getElem? (i := 418) (by decide +kernel))⟩, List.mem_append_right _ (List.mem_of_getElem? (i := 1) (by decide +kernel)), List.mem_append_right _ (List.mem_of_getElem? (i := 420) (by decide +kernel)), ⟨by decide +kernel, by decide +kernel, by decide +kernel⟩⟩
abbrev ydX6_tick : am_Y := (yX6_tick, cX6_tick, 3, (some .int), 6, 141)
theorem okX6_tick : am_okV ydX6_tick 1 := ⟨⟨List.mem_append_right _ (List.mem_of_getElem? (i := 436) (by decide +kernel)), List.mem_append_right _ (List.mem_of_getElem? (i := 435) (by decide +kernel))⟩, List.mem_append_right _ (List.mem_of_getElem? (i := 1) (by decide +kernel)), List.mem_append_right _ (List.mem_of_getElem? (i := 437) (by decide +kernel)), ⟨by decide +kernel, by decide +kernel, by decide +kernel⟩⟩
abbrev ydX6_stop : am_Y := (yX6_stop, cX6_stop, 3, (some .int), 6, 139)
theorem okX6_stop : am_okV ydX6_stop 0 := ⟨⟨List.mem_append_right _ (List.mem_of_getElem? (i := 467) (by decide +kernel)), List.mem_append_right _ (List.mem_of_getElem? (i := 466) (by decide +kernel))⟩, List.mem_append_right _ (List.mem_of_getElem? (i := 1) (by decide +kernel)), List.mem_append_right _ (List.mem_of_getElem? (i := 468) (by decide +kernel)), ⟨by decide +kernel, by decide +kernel, by decide +kernel⟩⟩
abbrev ydX6_place : am_Y := (yX6_place, cX6_place, 4, (some .int), 1, 21)
theorem okX6_place : am_okV ydX6_place 2 := ⟨⟨List.mem_append_right _ (List.mem_of_getElem? (i := 575) (by decide +kernel)), List.mem_append_right _ (List.mem_of_getElem? (i := 574) (by decide +kernel))⟩, List.mem_append_right _ (List.mem_of_getElem? (i := 1) (by decide +kernel)), List.mem_append_right _ (List.mem_of_getElem? (i := 576) (by decide +kernel)), ⟨by decide +kernel, by decide +kernel, by decide +kernel⟩⟩
abbrev ydX6_state : am_Y := (yX6_state, cX6_state, 2, (some .int), 1, 20)
theorem okX6_state : am_okV ydX6_state 1 := ⟨⟨List.mem_append_right _ (List.mem_of_getElem? (i := 475) (by decide +kernel)), List.mem_append_right _ (List.mem_of_getElem? (i := 474) (by decide +kernel))⟩, List.mem_append_right _ (List.mem_of_getElem? (i := 1) (by decide +kernel)), List.mem_append_right _ (List.mem_of_getElem? (i := 476) (by decide +kernel)), ⟨by decide +kernel, by decide +kernel, by decide +kernel⟩⟩
abbrev ydX6_at : am_Y := (yX6_at, cX6_at, 4, (some .boolean), 1, 22)
theorem okX6_at : am_okV ydX6_at 2 := ⟨⟨List.mem_append_right _ (List.mem_of_getElem? (i := 479) (by decide +kernel)), List.mem_append_right _ (List.mem_of_getElem? (i := 478) (by decide +kernel))⟩, List.mem_append_right _ (List.mem_of_getElem? (i := 1) (by decide +kernel)), List.mem_append_right _ (List.mem_of_getElem? (i := 480) (by decide +kernel)), ⟨by decide +kernel, by decide +kernel, by decide +kernel⟩⟩
abbrev ydX6_on : am_Y := (yX6_on, cX6_on, 3, (some .int), 1, 21)
theorem okX6_on : am_okV ydX6_on 1 := ⟨⟨List.mem_append_right _ (List.mem_of_getElem? (i := 491) (by decide +kernel)), List.mem_append_right _ (List.mem_of_getElem? (i := 490) (by decide +kernel))⟩, List.mem_append_right _ (List.mem_of_getElem? (i := 1) (by decide +kernel)), List.mem_append_right _ (List.mem_of_getElem? (i := 492) (by decide +kernel)), ⟨by decide +kernel, by decide +kernel, by decide +kernel⟩⟩
abbrev ydX6_home : am_Y := (yX6_home, cX6_home, 3, (some .int), 2, 41)
theorem okX6_home : am_okV ydX6_home 1 := ⟨⟨List.mem_append_right _ (List.mem_of_getElem? (i := 499) (by decide +kernel)), List.mem_append_right _ (List.mem_of_getElem? (i := 498) (by decide +kernel))⟩, List.mem_append_right _ (List.mem_of_getElem? (i := 1) (by decide +kernel)), List.mem_append_right _ (List.mem_of_getElem? (i := 500) (by decide +kernel)), ⟨by decide +kernel, by decide +kernel, by decide +kernel⟩⟩
abbrev ydX6_table : am_Y := (yX6_table, cX6_table, 4, (some .boolean), 1, 23)
theorem okX6_table : am_okV ydX6_table 2 := ⟨⟨List.mem_append_right _ (List.mem_of_getElem? (i := 508) (by decide +kernel)), List.mem_append_right _ (List.mem_of_getElem? (i := 507) (by decide +kernel))⟩, List.mem_append_right _ (List.mem_of_getElem? (i := 1) (by decide +kernel)), List.mem_append_right _ (List.mem_of_getElem? (i := 509) (by decide +kernel)), ⟨by decide +kernel, by decide +kernel, by decide +kernel⟩⟩
abbrev ydX6_set : am_Y := (yX6_set, cX6_set, 3, (some .boolean), 2, 44)
theorem okX6_set : am_okV ydX6_set 2 := ⟨⟨List.mem_append_right _ (List.mem_of_getElem? (i := 513) (by decide +kernel)), List.mem_append_right _ (List.mem_of_getElem? (i := 512) (by decide +kernel))⟩, List.mem_append_right _ (List.mem_of_getElem? (i := 1) (by decide +kernel)), List.mem_append_right _ (List.mem_of_getElem? (i := 514) (by decide +kernel)), ⟨by decide +kernel, by decide +kernel, by decide +kernel⟩⟩
abbrev ydX6_current : am_Y := (yX6_current, cX6_current, 3, (some .int), 3, 65)
theorem okX6_current : am_okV ydX6_current 2 := ⟨⟨List.mem_append_right _ (List.mem_of_getElem? (i := 643) (by decide +kernel)), List.mem_append_right _ (List.mem_of_getElem? (i := 642) (by decide +kernel))⟩, List.mem_append_right _ (List.mem_of_getElem? (i := 1) (by decide +kernel)), List.mem_append_right _ (List.mem_of_getElem? (i := 644) (by decide +kernel)), ⟨by decide +kernel, by decide +kernel, by decide +kernel⟩⟩
abbrev ydX6_miss : am_Y := (yX6_miss, cX6_miss, 2, (some .int), 3, 64)
theorem okX6_miss : am_okV ydX6_miss 1 := ⟨⟨List.mem_append_right _ (List.mem_of_getElem? (i := 522) (by decide +kernel)), List.mem_append_right _ (List.mem_of_getElem? (i := 521) (by decide +kernel))⟩, List.mem_append_right _ (List.mem_of_getElem? (i := 1) (by decide +kernel)), List.mem_append_right _ (List.mem_of_getElem? (i := 523) (by decide +kernel)), ⟨by decide +kernel, by decide +kernel, by decide +kernel⟩⟩
abbrev ydX6_evenness : am_Y := (yX6_evenness, cX6_evenness, 1, (some .int), 4, 86)
theorem okX6_evenness : am_okV ydX6_evenness 0 := ⟨⟨List.mem_append_right _ (List.mem_of_getElem? (i := 539) (by decide +kernel)), List.mem_append_right _ (List.mem_of_getElem? (i := 538) (by decide +kernel))⟩, List.mem_append_right _ (List.mem_of_getElem? (i := 1) (by decide +kernel)), List.mem_append_right _ (List.mem_of_getElem? (i := 540) (by decide +kernel)), ⟨by decide +kernel, by decide +kernel, by decide +kernel⟩⟩
abbrev ydX6_smooth : am_Y := (yX6_smooth, cX6_smooth, 1, (some .int), 4, 91)
theorem okX6_smooth : am_okV ydX6_smooth 0 := ⟨⟨List.mem_append_right _ (List.mem_of_getElem? (i := 549) (by decide +kernel)), List.mem_append_right _ (List.mem_of_getElem? (i := 548) (by decide +kernel))⟩, List.mem_append_right _ (List.mem_of_getElem? (i := 1) (by decide +kernel)), List.mem_append_right _ (List.mem_of_getElem? (i := 550) (by decide +kernel)), ⟨by decide +kernel, by decide +kernel, by decide +kernel⟩⟩
abbrev ydX6_isWithin : am_Y := (yX6_isWithin, cX6_isWithin, 3, (some .boolean), 0, 0)
theorem okX6_isWithin : am_okS ydX6_isWithin 3 := ⟨List.mem_append_right _ (List.mem_of_getElem? (i := 246) (by decide +kernel)), List.mem_append_right _ (List.mem_of_getElem? (i := 1) (by decide +kernel)), List.mem_append_right _ (List.mem_of_getElem? (i := 247) (by decide +kernel)), ⟨by decide +kernel, by decide +kernel, by decide +kernel⟩⟩
abbrev ydX6_isWay : am_Y := (yX6_isWay, cX6_isWay, 1, (some .boolean), 1, 22)
theorem okX6_isWay : am_okS ydX6_isWay 1 := ⟨List.mem_append_right _ (List.mem_of_getElem? (i := 422) (by decide +kernel)), List.mem_append_right _ (List.mem_of_getElem? (i := 1) (by decide +kernel)), List.mem_append_right _ (List.mem_of_getElem? (i := 423) (by decide +kernel)), ⟨by decide +kernel, by decide +kernel, by decide +kernel⟩⟩
abbrev ydX6_isIndexOf : am_Y := (yX6_isIndexOf, cX6_isIndexOf, 2, (some .boolean), 0, 0)
theorem okX6_isIndexOf : am_okS ydX6_isIndexOf 2 := ⟨List.mem_append_right _ (List.mem_of_getElem? (i := 322) (by decide +kernel)), List.mem_append_right _ (List.mem_of_getElem? (i := 1) (by decide +kernel)), List.mem_append_right _ (List.mem_of_getElem? (i := 323) (by decide +kernel)), ⟨by decide +kernel, by decide +kernel, by decide +kernel⟩⟩
abbrev ydX6_stateNumber : am_Y := (yX6_stateNumber, cX6_stateNumber, 2, (some .int), 0, 0)
theorem okX6_stateNumber : am_okS ydX6_stateNumber 2 := ⟨List.mem_append_right _ (List.mem_of_getElem? (i := 315) (by decide +kernel)), List.mem_append_right _ (List.mem_of_getElem? (i := 1) (by decide +kernel)), List.mem_append_right _ (List.mem_of_getElem? (i := 316) (by decide +kernel)), ⟨by decide +kernel, by decide +kernel, by decide +kernel⟩⟩
abbrev ydX6_axisOf : am_Y := (yX6_axisOf, cX6_axisOf, 2, (some (.object "RampDriver$Axis")), 0, 0)
theorem okX6_axisOf : am_okV ydX6_axisOf 1 := ⟨⟨List.mem_append_left _ (List.mem_of_getElem? (i := 10) (by decide +kernel)), List.mem_append_right _ (List.mem_of_getElem? (i := 483) (by decide +kernel))⟩, List.mem_append_right _ (List.mem_of_getElem? (i := 1) (by decide +kernel)), List.mem_append_right _ (List.mem_of_getElem? (i := 484) (by decide +kernel)), ⟨by decide +kernel, by decide +kernel, by decide +kernel⟩⟩
abbrev ydX6_slowingsFrom : am_Y := (yX6_slowingsFrom, cX6_slowingsFrom, 3, (some (.object "RampDriver$Slowings")), 5, 117)
theorem okX6_slowingsFrom : am_okV ydX6_slowingsFrom 2 := ⟨⟨List.mem_append_left _ (List.mem_of_getElem? (i := 4) (by decide +kernel)), List.mem_append_right _ (List.mem_of_getElem? (i := 381) (by decide +kernel))⟩, List.mem_append_right _ (List.mem_of_getElem? (i := 1) (by decide +kernel)), List.mem_append_right _ (List.mem_of_getElem? (i := 382) (by decide +kernel)), ⟨by decide +kernel, by decide +kernel, by decide +kernel⟩⟩
abbrev ydX6_takeTick : am_Y := (yX6_takeTick, cX6_takeTick, 4, none, 5, 118)
theorem okX6_takeTick : am_okV ydX6_takeTick 0 := ⟨⟨List.mem_append_left _ (List.mem_of_getElem? (i := 7) (by decide +kernel)), List.mem_append_right _ (List.mem_of_getElem? (i := 440) (by decide +kernel))⟩, List.mem_append_right _ (List.mem_of_getElem? (i := 1) (by decide +kernel)), List.mem_append_right _ (List.mem_of_getElem? (i := 441) (by decide +kernel)), ⟨by decide +kernel, by decide +kernel, by decide +kernel⟩⟩
abbrev ydX6_nextChange : am_Y := (yX6_nextChange, cX6_nextChange, 4, (some .int), 4, 95)
theorem okX6_nextChange : am_okV ydX6_nextChange 0 := ⟨⟨List.mem_append_left _ (List.mem_of_getElem? (i := 8) (by decide +kernel)), List.mem_append_right _ (List.mem_of_getElem? (i := 444) (by decide +kernel))⟩, List.mem_append_right _ (List.mem_of_getElem? (i := 1) (by decide +kernel)), List.mem_append_right _ (List.mem_of_getElem? (i := 445) (by decide +kernel)), ⟨by decide +kernel, by decide +kernel, by decide +kernel⟩⟩
abbrev ydJ7_fill_53178 : am_Y := (yJ7_fill_53178, cJ7_fill_53178, 4, none, 0, 0)
theorem okJ7_fill_53178 : am_okS ydJ7_fill_53178 2 := ⟨List.mem_append_right _ (List.mem_of_getElem? (i := 30) (by decide +kernel)), List.mem_append_right _ (List.mem_of_getElem? (i := 3) (by decide +kernel)), List.mem_append_right _ (List.mem_of_getElem? (i := 31) (by decide +kernel)), ⟨by decide +kernel, by decide +kernel, by decide +kernel⟩⟩
abbrev ydX7_init : am_Y := (yX7_init, cX7_init, 2, none, 2, 45)
abbrev ydX7_thrown : am_Y := (yX7_thrown, cX7_thrown, 1, (some .int), 0, 0)
theorem okX7_thrown : am_okV ydX7_thrown 0 := ⟨⟨List.mem_append_right _ (List.mem_of_getElem? (i := 785) (by decide +kernel)), List.mem_append_right _ (List.mem_of_getElem? (i := 784) (by decide +kernel))⟩, List.mem_append_right _ (List.mem_of_getElem? (i := 9) (by decide +kernel)), List.mem_append_right _ (List.mem_of_getElem? (i := 786) (by decide +kernel)), ⟨by decide +kernel, by decide +kernel, by decide +kernel⟩⟩
abbrev ydX7_isIn : am_Y := (yX7_isIn, cX7_isIn, 3, (some .boolean), 0, 0)
theorem okX7_isIn : am_okS ydX7_isIn 3 := ⟨List.mem_append_right _ (List.mem_of_getElem? (i := 672) (by decide +kernel)), List.mem_append_right _ (List.mem_of_getElem? (i := 9) (by decide +kernel)), List.mem_append_right _ (List.mem_of_getElem? (i := 673) (by decide +kernel)), ⟨by decide +kernel, by decide +kernel, by decide +kernel⟩⟩
abbrev ydX7_limits : am_Y := (yX7_limits, cX7_limits, 4, (some .boolean), 1, 22)
theorem okX7_limits : am_okV ydX7_limits 3 := ⟨⟨List.mem_append_right _ (List.mem_of_getElem? (i := 789) (by decide +kernel)), List.mem_append_right _ (List.mem_of_getElem? (i := 788) (by decide +kernel))⟩, List.mem_append_right _ (List.mem_of_getElem? (i := 9) (by decide +kernel)), List.mem_append_right _ (List.mem_of_getElem? (i := 790) (by decide +kernel)), ⟨by decide +kernel, by decide +kernel, by decide +kernel⟩⟩
abbrev ydX7_bad : am_Y := (yX7_bad, cX7_bad, 3, (some .boolean), 1, 22)
theorem okX7_bad : am_okV ydX7_bad 2 := ⟨⟨List.mem_append_right _ (List.mem_of_getElem? (i := 793) (by decide +kernel)), List.mem_append_right _ (List.mem_of_getElem? (i := 792) (by decide +kernel))⟩, List.mem_append_right _ (List.mem_of_getElem? (i := 9) (by decide +kernel)), List.mem_append_right _ (List.mem_of_getElem? (i := 794) (by decide +kernel)), ⟨by decide +kernel, by decide +kernel, by decide +kernel⟩⟩
abbrev ydX7_pull : am_Y := (yX7_pull, cX7_pull, 3, (some .boolean), 1, 22)
theorem okX7_pull : am_okV ydX7_pull 2 := ⟨⟨List.mem_append_right _ (List.mem_of_getElem? (i := 797) (by decide +kernel)), List.mem_append_right _ (List.mem_of_getElem? (i := 796) (by decide +kernel))⟩, List.mem_append_right _ (List.mem_of_getElem? (i := 9) (by decide +kernel)), List.mem_append_right _ (List.mem_of_getElem? (i := 798) (by decide +kernel)), ⟨by decide +kernel, by decide +kernel, by decide +kernel⟩⟩
abbrev ydX7_load : am_Y := (yX7_load, cX7_load, 3, (some .boolean), 1, 22)
theorem okX7_load : am_okV ydX7_load 2 := ⟨⟨List.mem_append_right _ (List.mem_of_getElem? (i := 801) (by decide +kernel)), List.mem_append_right _ (List.mem_of_getElem? (i := 800) (by decide +kernel))⟩, List.mem_append_right _ (List.mem_of_getElem? (i := 9) (by decide +kernel)), List.mem_append_right _ (List.mem_of_getElem? (i := 802) (by decide +kernel)), ⟨by decide +kernel, by decide +kernel, by decide +kernel⟩⟩
abbrev ydX7_only : am_Y := (yX7_only, cX7_only, 2, (some .boolean), 0, 0)
theorem okX7_only : am_okV ydX7_only 1 := ⟨⟨List.mem_append_right _ (List.mem_of_getElem? (i := 805) (by decide +kernel)), List.mem_append_right _ (List.mem_of_getElem? (i := 804) (by decide +kernel))⟩, List.mem_append_right _ (List.mem_of_getElem? (i := 9) (by decide +kernel)), List.mem_append_right _ (List.mem_of_getElem? (i := 806) (by decide +kernel)), ⟨by decide +kernel, by decide +kernel, by decide +kernel⟩⟩
abbrev ydX7_isState : am_Y := (yX7_isState, cX7_isState, 3, (some .boolean), 1, 22)
theorem okX7_isState : am_okV ydX7_isState 2 := ⟨⟨List.mem_append_left _ (List.mem_of_getElem? (i := 23) (by decide +kernel)), List.mem_append_right _ (List.mem_of_getElem? (i := 834) (by decide +kernel))⟩, List.mem_append_right _ (List.mem_of_getElem? (i := 9) (by decide +kernel)), List.mem_append_right _ (List.mem_of_getElem? (i := 835) (by decide +kernel)), ⟨by decide +kernel, by decide +kernel, by decide +kernel⟩⟩
abbrev ydX7_isSafe : am_Y := (yX7_isSafe, cX7_isSafe, 3, (some .boolean), 1, 21)
theorem okX7_isSafe : am_okV ydX7_isSafe 2 := ⟨⟨List.mem_append_left _ (List.mem_of_getElem? (i := 24) (by decide +kernel)), List.mem_append_right _ (List.mem_of_getElem? (i := 838) (by decide +kernel))⟩, List.mem_append_right _ (List.mem_of_getElem? (i := 9) (by decide +kernel)), List.mem_append_right _ (List.mem_of_getElem? (i := 839) (by decide +kernel)), ⟨by decide +kernel, by decide +kernel, by decide +kernel⟩⟩
abbrev ydX7_mayGo : am_Y := (yX7_mayGo, cX7_mayGo, 6, (some .boolean), 2, 44)
theorem okX7_mayGo : am_okV ydX7_mayGo 4 := ⟨⟨List.mem_append_left _ (List.mem_of_getElem? (i := 22) (by decide +kernel)), List.mem_append_right _ (List.mem_of_getElem? (i := 830) (by decide +kernel))⟩, List.mem_append_right _ (List.mem_of_getElem? (i := 9) (by decide +kernel)), List.mem_append_right _ (List.mem_of_getElem? (i := 831) (by decide +kernel)), ⟨by decide +kernel, by decide +kernel, by decide +kernel⟩⟩
abbrev ydX7_isRest : am_Y := (yX7_isRest, cX7_isRest, 3, (some .boolean), 1, 21)
theorem okX7_isRest : am_okV ydX7_isRest 2 := ⟨⟨List.mem_append_left _ (List.mem_of_getElem? (i := 21) (by decide +kernel)), List.mem_append_right _ (List.mem_of_getElem? (i := 822) (by decide +kernel))⟩, List.mem_append_right _ (List.mem_of_getElem? (i := 9) (by decide +kernel)), List.mem_append_right _ (List.mem_of_getElem? (i := 823) (by decide +kernel)), ⟨by decide +kernel, by decide +kernel, by decide +kernel⟩⟩
abbrev ydX7_index : am_Y := (yX7_index, cX7_index, 3, (some .int), 0, 0)
theorem okX7_index : am_okS ydX7_index 3 := ⟨List.mem_append_right _ (List.mem_of_getElem? (i := 826) (by decide +kernel)), List.mem_append_right _ (List.mem_of_getElem? (i := 9) (by decide +kernel)), List.mem_append_right _ (List.mem_of_getElem? (i := 827) (by decide +kernel)), ⟨by decide +kernel, by decide +kernel, by decide +kernel⟩⟩
abbrev ydX7_spread : am_Y := (yX7_spread, cX7_spread, 9, none, 3, 69)
theorem okX7_spread : am_okV ydX7_spread 0 := ⟨⟨List.mem_append_left _ (List.mem_of_getElem? (i := 20) (by decide +kernel)), List.mem_append_right _ (List.mem_of_getElem? (i := 817) (by decide +kernel))⟩, List.mem_append_right _ (List.mem_of_getElem? (i := 9) (by decide +kernel)), List.mem_append_right _ (List.mem_of_getElem? (i := 818) (by decide +kernel)), ⟨by decide +kernel, by decide +kernel, by decide +kernel⟩⟩
abbrev ydX7_ramps : am_Y := (yX7_ramps, cX7_ramps, 6, (some .boolean), 4, 97)
theorem okX7_ramps : am_okV ydX7_ramps 1 := ⟨⟨List.mem_append_left _ (List.mem_of_getElem? (i := 19) (by decide +kernel)), List.mem_append_right _ (List.mem_of_getElem? (i := 813) (by decide +kernel))⟩, List.mem_append_right _ (List.mem_of_getElem? (i := 9) (by decide +kernel)), List.mem_append_right _ (List.mem_of_getElem? (i := 814) (by decide +kernel)), ⟨by decide +kernel, by decide +kernel, by decide +kernel⟩⟩
abbrev ydX7_ramp : am_Y := (yX7_ramp, cX7_ramp, 2, (some .int), 5, 122)
theorem okX7_ramp : am_okV ydX7_ramp 1 := ⟨⟨List.mem_append_right _ (List.mem_of_getElem? (i := 809) (by decide +kernel)), List.mem_append_right _ (List.mem_of_getElem? (i := 808) (by decide +kernel))⟩, List.mem_append_right _ (List.mem_of_getElem? (i := 9) (by decide +kernel)), List.mem_append_right _ (List.mem_of_getElem? (i := 810) (by decide +kernel)), ⟨by decide +kernel, by decide +kernel, by decide +kernel⟩⟩
abbrev ydX7_speed : am_Y := (yX7_speed, cX7_speed, 5, (some .int), 5, 122)
theorem okX7_speed : am_okV ydX7_speed 2 := ⟨⟨List.mem_append_right _ (List.mem_of_getElem? (i := 842) (by decide +kernel)), List.mem_append_right _ (List.mem_of_getElem? (i := 841) (by decide +kernel))⟩, List.mem_append_right _ (List.mem_of_getElem? (i := 9) (by decide +kernel)), List.mem_append_right _ (List.mem_of_getElem? (i := 843) (by decide +kernel)), ⟨by decide +kernel, by decide +kernel, by decide +kernel⟩⟩
abbrev ydX7_of : am_Y := (yX7_of, cX7_of, 2, (some .int), 0, 0)
theorem okX7_of : am_okS ydX7_of 2 := ⟨List.mem_append_right _ (List.mem_of_getElem? (i := 857) (by decide +kernel)), List.mem_append_right _ (List.mem_of_getElem? (i := 9) (by decide +kernel)), List.mem_append_right _ (List.mem_of_getElem? (i := 858) (by decide +kernel)), ⟨by decide +kernel, by decide +kernel, by decide +kernel⟩⟩
abbrev ydX7_slows : am_Y := (yX7_slows, cX7_slows, 8, none, 3, 69)
theorem okX7_slows : am_okV ydX7_slows 1 := ⟨⟨List.mem_append_left _ (List.mem_of_getElem? (i := 26) (by decide +kernel)), List.mem_append_right _ (List.mem_of_getElem? (i := 854) (by decide +kernel))⟩, List.mem_append_right _ (List.mem_of_getElem? (i := 9) (by decide +kernel)), List.mem_append_right _ (List.mem_of_getElem? (i := 855) (by decide +kernel)), ⟨by decide +kernel, by decide +kernel, by decide +kernel⟩⟩
abbrev ydX7_slowsFrom : am_Y := (yX7_slowsFrom, cX7_slowsFrom, 7, (some .boolean), 4, 96)
theorem okX7_slowsFrom : am_okV ydX7_slowsFrom 2 := ⟨⟨List.mem_append_left _ (List.mem_of_getElem? (i := 25) (by decide +kernel)), List.mem_append_right _ (List.mem_of_getElem? (i := 850) (by decide +kernel))⟩, List.mem_append_right _ (List.mem_of_getElem? (i := 9) (by decide +kernel)), List.mem_append_right _ (List.mem_of_getElem? (i := 851) (by decide +kernel)), ⟨by decide +kernel, by decide +kernel, by decide +kernel⟩⟩
abbrev ydX7_slowing : am_Y := (yX7_slowing, cX7_slowing, 4, (some .int), 5, 122)
theorem okX7_slowing : am_okV ydX7_slowing 3 := ⟨⟨List.mem_append_right _ (List.mem_of_getElem? (i := 846) (by decide +kernel)), List.mem_append_right _ (List.mem_of_getElem? (i := 845) (by decide +kernel))⟩, List.mem_append_right _ (List.mem_of_getElem? (i := 9) (by decide +kernel)), List.mem_append_right _ (List.mem_of_getElem? (i := 847) (by decide +kernel)), ⟨by decide +kernel, by decide +kernel, by decide +kernel⟩⟩
abbrev ydX7_move : am_Y := (yX7_move, cX7_move, 6, (some .int), 5, 122)
theorem okX7_move : am_okV ydX7_move 3 := ⟨⟨List.mem_append_right _ (List.mem_of_getElem? (i := 861) (by decide +kernel)), List.mem_append_right _ (List.mem_of_getElem? (i := 860) (by decide +kernel))⟩, List.mem_append_right _ (List.mem_of_getElem? (i := 9) (by decide +kernel)), List.mem_append_right _ (List.mem_of_getElem? (i := 862) (by decide +kernel)), ⟨by decide +kernel, by decide +kernel, by decide +kernel⟩⟩
abbrev ydX7_follow : am_Y := (yX7_follow, cX7_follow, 2, none, 0, 0)
theorem okX7_follow : am_okV ydX7_follow 0 := ⟨⟨List.mem_append_left _ (List.mem_of_getElem? (i := 27) (by decide +kernel)), List.mem_append_right _ (List.mem_of_getElem? (i := 866) (by decide +kernel))⟩, List.mem_append_right _ (List.mem_of_getElem? (i := 9) (by decide +kernel)), List.mem_append_right _ (List.mem_of_getElem? (i := 867) (by decide +kernel)), ⟨by decide +kernel, by decide +kernel, by decide +kernel⟩⟩
abbrev ydX7_gone : am_Y := (yX7_gone, cX7_gone, 4, (some .int), 1, 21)
theorem okX7_gone : am_okV ydX7_gone 2 := ⟨⟨List.mem_append_left _ (List.mem_of_getElem? (i := 28) (by decide +kernel)), List.mem_append_right _ (List.mem_of_getElem? (i := 874) (by decide +kernel))⟩, List.mem_append_right _ (List.mem_of_getElem? (i := 9) (by decide +kernel)), List.mem_append_right _ (List.mem_of_getElem? (i := 875) (by decide +kernel)), ⟨by decide +kernel, by decide +kernel, by decide +kernel⟩⟩
abbrev ydX7_tick : am_Y := (yX7_tick, cX7_tick, 7, (some .int), 2, 44)
theorem okX7_tick : am_okV ydX7_tick 1 := ⟨⟨List.mem_append_right _ (List.mem_of_getElem? (i := 870) (by decide +kernel)), List.mem_append_right _ (List.mem_of_getElem? (i := 869) (by decide +kernel))⟩, List.mem_append_right _ (List.mem_of_getElem? (i := 9) (by decide +kernel)), List.mem_append_right _ (List.mem_of_getElem? (i := 871) (by decide +kernel)), ⟨by decide +kernel, by decide +kernel, by decide +kernel⟩⟩
abbrev ydX7_stop : am_Y := (yX7_stop, cX7_stop, 1, (some .int), 5, 122)
theorem okX7_stop : am_okV ydX7_stop 0 := ⟨⟨List.mem_append_right _ (List.mem_of_getElem? (i := 878) (by decide +kernel)), List.mem_append_right _ (List.mem_of_getElem? (i := 877) (by decide +kernel))⟩, List.mem_append_right _ (List.mem_of_getElem? (i := 9) (by decide +kernel)), List.mem_append_right _ (List.mem_of_getElem? (i := 879) (by decide +kernel)), ⟨by decide +kernel, by decide +kernel, by decide +kernel⟩⟩
abbrev ydX7_place : am_Y := (yX7_place, cX7_place, 3, (some .int), 1, 22)
theorem okX7_place : am_okV ydX7_place 2 := ⟨⟨List.mem_append_right _ (List.mem_of_getElem? (i := 882) (by decide +kernel)), List.mem_append_right _ (List.mem_of_getElem? (i := 881) (by decide +kernel))⟩, List.mem_append_right _ (List.mem_of_getElem? (i := 9) (by decide +kernel)), List.mem_append_right _ (List.mem_of_getElem? (i := 883) (by decide +kernel)), ⟨by decide +kernel, by decide +kernel, by decide +kernel⟩⟩
abbrev ydX7_state : am_Y := (yX7_state, cX7_state, 2, (some .int), 0, 0)
theorem okX7_state : am_okV ydX7_state 1 := ⟨⟨List.mem_append_right _ (List.mem_of_getElem? (i := 886) (by decide +kernel)), List.mem_append_right _ (List.mem_of_getElem? (i := 885) (by decide +kernel))⟩, List.mem_append_right _ (List.mem_of_getElem? (i := 9) (by decide +kernel)), List.mem_append_right _ (List.mem_of_getElem? (i := 887) (by decide +kernel)), ⟨by decide +kernel, by decide +kernel, by decide +kernel⟩⟩
abbrev ydX7_at : am_Y := (yX7_at, cX7_at, 3, (some .boolean), 1, 22)
theorem okX7_at : am_okV ydX7_at 2 := ⟨⟨List.mem_append_right _ (List.mem_of_getElem? (i := 890) (by decide +kernel)), List.mem_append_right _ (List.mem_of_getElem? (i := 889) (by decide +kernel))⟩, List.mem_append_right _ (List.mem_of_getElem? (i := 9) (by decide +kernel)), List.mem_append_right _ (List.mem_of_getElem? (i := 891) (by decide +kernel)), ⟨by decide +kernel, by decide +kernel, by decide +kernel⟩⟩
abbrev ydX7_on : am_Y := (yX7_on, cX7_on, 2, (some .int), 1, 22)
theorem okX7_on : am_okV ydX7_on 1 := ⟨⟨List.mem_append_right _ (List.mem_of_getElem? (i := 894) (by decide +kernel)), List.mem_append_right _ (List.mem_of_getElem? (i := 893) (by decide +kernel))⟩, List.mem_append_right _ (List.mem_of_getElem? (i := 9) (by decide +kernel)), List.mem_append_right _ (List.mem_of_getElem? (i := 895) (by decide +kernel)), ⟨by decide +kernel, by decide +kernel, by decide +kernel⟩⟩
abbrev ydX7_home : am_Y := (yX7_home, cX7_home, 3, (some .int), 1, 22)
theorem okX7_home : am_okV ydX7_home 1 := ⟨⟨List.mem_append_right _ (List.mem_of_getElem? (i := 898) (by decide +kernel)), List.mem_append_right _ (List.mem_of_getElem? (i := 897) (by decide +kernel))⟩, List.mem_append_right _ (List.mem_of_getElem? (i := 9) (by decide +kernel)), List.mem_append_right _ (List.mem_of_getElem? (i := 899) (by decide +kernel)), ⟨by decide +kernel, by decide +kernel, by decide +kernel⟩⟩
abbrev ydX7_table : am_Y := (yX7_table, cX7_table, 4, (some .boolean), 1, 22)
theorem okX7_table : am_okV ydX7_table 2 := ⟨⟨List.mem_append_right _ (List.mem_of_getElem? (i := 669) (by decide +kernel)), List.mem_append_right _ (List.mem_of_getElem? (i := 668) (by decide +kernel))⟩, List.mem_append_right _ (List.mem_of_getElem? (i := 9) (by decide +kernel)), List.mem_append_right _ (List.mem_of_getElem? (i := 670) (by decide +kernel)), ⟨by decide +kernel, by decide +kernel, by decide +kernel⟩⟩
abbrev ydX7_set : am_Y := (yX7_set, cX7_set, 3, (some .boolean), 1, 22)
theorem okX7_set : am_okV ydX7_set 2 := ⟨⟨List.mem_append_right _ (List.mem_of_getElem? (i := 903) (by decide +kernel)), List.mem_append_right _ (List.mem_of_getElem? (i := 902) (by decide +kernel))⟩, List.mem_append_right _ (List.mem_of_getElem? (i := 9) (by decide +kernel)), List.mem_append_right _ (List.mem_of_getElem? (i := 904) (by decide +kernel)), ⟨by decide +kernel, by decide +kernel, by decide +kernel⟩⟩
abbrev ydX7_current : am_Y := (yX7_current, cX7_current, 6, (some .int), 1, 22)
theorem okX7_current : am_okV ydX7_current 2 := ⟨⟨List.mem_append_right _ (List.mem_of_getElem? (i := 907) (by decide +kernel)), List.mem_append_right _ (List.mem_of_getElem? (i := 906) (by decide +kernel))⟩, List.mem_append_right _ (List.mem_of_getElem? (i := 9) (by decide +kernel)), List.mem_append_right _ (List.mem_of_getElem? (i := 908) (by decide +kernel)), ⟨by decide +kernel, by decide +kernel, by decide +kernel⟩⟩
abbrev ydX7_missOf : am_Y := (yX7_missOf, cX7_missOf, 2, (some .int), 1, 21)
theorem okX7_missOf : am_okV ydX7_missOf 1 := ⟨⟨List.mem_append_left _ (List.mem_of_getElem? (i := 29) (by decide +kernel)), List.mem_append_right _ (List.mem_of_getElem? (i := 915) (by decide +kernel))⟩, List.mem_append_right _ (List.mem_of_getElem? (i := 9) (by decide +kernel)), List.mem_append_right _ (List.mem_of_getElem? (i := 916) (by decide +kernel)), ⟨by decide +kernel, by decide +kernel, by decide +kernel⟩⟩
abbrev ydX7_miss : am_Y := (yX7_miss, cX7_miss, 2, (some .int), 2, 42)
theorem okX7_miss : am_okV ydX7_miss 1 := ⟨⟨List.mem_append_right _ (List.mem_of_getElem? (i := 911) (by decide +kernel)), List.mem_append_right _ (List.mem_of_getElem? (i := 910) (by decide +kernel))⟩, List.mem_append_right _ (List.mem_of_getElem? (i := 9) (by decide +kernel)), List.mem_append_right _ (List.mem_of_getElem? (i := 912) (by decide +kernel)), ⟨by decide +kernel, by decide +kernel, by decide +kernel⟩⟩
abbrev ydX7_evenness : am_Y := (yX7_evenness, cX7_evenness, 3, (some .int), 2, 42)
theorem okX7_evenness : am_okV ydX7_evenness 0 := ⟨⟨List.mem_append_right _ (List.mem_of_getElem? (i := 919) (by decide +kernel)), List.mem_append_right _ (List.mem_of_getElem? (i := 918) (by decide +kernel))⟩, List.mem_append_right _ (List.mem_of_getElem? (i := 9) (by decide +kernel)), List.mem_append_right _ (List.mem_of_getElem? (i := 920) (by decide +kernel)), ⟨by decide +kernel, by decide +kernel, by decide +kernel⟩⟩
abbrev ydX7_smooth : am_Y := (yX7_smooth, cX7_smooth, 8, (some .int), 3, 64)
theorem okX7_smooth : am_okV ydX7_smooth 0 := ⟨⟨List.mem_append_right _ (List.mem_of_getElem? (i := 923) (by decide +kernel)), List.mem_append_right _ (List.mem_of_getElem? (i := 922) (by decide +kernel))⟩, List.mem_append_right _ (List.mem_of_getElem? (i := 9) (by decide +kernel)), List.mem_append_right _ (List.mem_of_getElem? (i := 924) (by decide +kernel)), ⟨by decide +kernel, by decide +kernel, by decide +kernel⟩⟩
theorem mw_abs_s : Cond.static Lib.Math.abs.name ∈ lw_tbl := List.mem_append_right _ (List.mem_of_getElem? (i := 346) (by decide +kernel))
theorem mw_abs_c : Cond.code Lib.Math.abs.name Lib.Math.abs.code 1 (some .int) ∈ lw_tbl := List.mem_append_right _ (List.mem_of_getElem? (i := 347) (by decide +kernel))
theorem mw_max_s : Cond.static Lib.Math.max.name ∈ lw_tbl := List.mem_append_right _ (List.mem_of_getElem? (i := 360) (by decide +kernel))
theorem mw_max_c : Cond.code Lib.Math.max.name Lib.Math.max.code 2 (some .int) ∈ lw_tbl := List.mem_append_right _ (List.mem_of_getElem? (i := 361) (by decide +kernel))
theorem mw_min_s : Cond.static Lib.Math.min.name ∈ lw_tbl := List.mem_append_right _ (List.mem_of_getElem? (i := 353) (by decide +kernel))
theorem mw_min_c : Cond.code Lib.Math.min.name Lib.Math.min.code 2 (some .int) ∈ lw_tbl := List.mem_append_right _ (List.mem_of_getElem? (i := 354) (by decide +kernel))
theorem mw_i : Cond.initialized "java/lang/Math" ∈ lw_tbl := List.mem_append_right _ (List.mem_of_getElem? (i := 10) (by decide +kernel))
theorem ow_i : Cond.instanceMethod Lib.objectInit ∈ lw_tbl := List.mem_append_right _ (List.mem_of_getElem? (i := 21) (by decide +kernel))
theorem ow_c : Cond.code Lib.objectInit ⟨#[0xb1]⟩ 1 none ∈ lw_tbl := List.mem_append_right _ (List.mem_of_getElem? (i := 22) (by decide +kernel))
theorem kw_105 : Cond.constant RX7 105 1000000 ∈ lw_tbl := List.mem_append_right _ (List.mem_of_getElem? (i := 819) (by decide +kernel))
end
section
/-! small laws over the rows -/
def bI (b : Bool) : Int32 := match b with
  | true => 1
  | false => 0
def am_is (x : Int32) (N : am_M) : Option Value → am_M → Prop := fun r M => r = some (.int x) ∧ M = N
def am_un (N : am_M) : Option Value → am_M → Prop := fun r M => r = none ∧ M = N
theorem am_nb (b : Bool) : narrow .boolean (.int (bI b)) = .int (bI b) := by cases b <;> decide
theorem am_fb (b : Bool) : fits .boolean (.int (bI b)) = true := by cases b <;> decide
theorem am_vz (b : Bool) : vp_nar .boolean (bI b) = bI b := by cases b <;> decide
theorem am_nb01 {v : Int32} (h : v = 0 ∨ v = 1) : narrow .boolean (.int v) = .int v := by rcases h with rfl | rfl <;> decide
theorem am_fb01 {v : Int32} (h : v = 0 ∨ v = 1) : fits .boolean (.int v) = true := by rcases h with rfl | rfl <;> decide
theorem bI_0 (b : Bool) : bI b = 0 ↔ b = false := by cases b <;> decide
theorem bI_1 (b : Bool) : ¬ bI b = 0 ↔ b = true := by cases b <;> decide
theorem bI_inj {a b : Bool} : bI a = bI b ↔ a = b := by cases a <;> cases b <;> decide
theorem am_isT {b : Bool} {M : am_M} (h : b = true) : am_is (bI b) M (some (.int 1)) M := by subst h; exact ⟨rfl, rfl⟩
theorem am_isF {b : Bool} {M : am_M} (h : b = false) : am_is (bI b) M (some (.int 0)) M := by subst h; exact ⟨rfl, rfl⟩
theorem am_isE {x y : Int32} {M : am_M} (h : x = y) : am_is y M (some (.int x)) M := by subst h; exact ⟨rfl, rfl⟩
theorem am_vpI {x : Int32} {n : Nat} (h0 : 0 ≤ x.toInt) (h1 : x.toInt < n) : vp_in x n := vp_in_iff.mpr ⟨h0, h1⟩
def iabs (x : Int32) : Int32 := if 0 ≤ x then x else 0 - x
def imax (x y : Int32) : Int32 := if x < y then y else x
def imin (x y : Int32) : Int32 := if y < x then y else x
section AML
variable {Y : am_Y} {ad : Nat → Nat} {I : List Nat} {P : Option Value → am_M → Prop} {pc : Nat} {L : List (Option Value)} {st : List Value} {M : am_M}
theorem am_ifb_eq {b : Bool} {off : Int} {tgt : Nat} (ht : (pc : Int) + off = (tgt : Int)) (hdg : decode Y.2.1 pc = .ok (.ifCond .eq off, 3)) (kt : b = false → am_W Y ad I P tgt L st M) (kf : b = true → am_W Y ad I P (pc + 3) L st M) : am_W Y ad I P pc L (.int (bI b) :: st) M :=
  am_if_eq ht hdg (fun h => kt ((bI_0 b).mp h)) (fun h => kf ((bI_1 b).mp h))
theorem am_ifb_ne {b : Bool} {off : Int} {tgt : Nat} (ht : (pc : Int) + off = (tgt : Int)) (hdg : decode Y.2.1 pc = .ok (.ifCond .ne off, 3)) (kt : b = true → am_W Y ad I P tgt L st M) (kf : b = false → am_W Y ad I P (pc + 3) L st M) : am_W Y ad I P pc L (.int (bI b) :: st) M :=
  am_if_ne ht hdg (fun h => kt ((bI_1 b).mp h)) (fun h => kf ((bI_0 b).mp h))
variable {Y' : am_Y} {As rest : List Value} {index n : Nat}
theorem am_callVi {x : Int32} {N : am_M} {k ci Nf : Nat} {T : u_T} {fl : List (Option Nat)} (hM : am_C Y' ad I (.ref (ad k) :: As) M (am_is x N)) (ok : am_okV Y' n) (hlink : Cond.methodLink Y.1.cls index Y'.1 ∈ lw_tbl) (hk : k ∈ I) (hs : am_shp k = .inl (ci, fl)) (hc : vwCl[ci]? = some (Y'.1.cls, T, Nf)) (hn : As.length = n) (hR : Y'.2.2.2.2.1 + 1 ≤ Y.2.2.2.2.1 ∧ 8 + (Y'.2.2.1 + 11) + Y'.2.2.2.2.2 ≤ Y.2.2.2.2.2) (hW8 : (rest.map fun v => v.category).sum ≤ 8) {st0 : List Value} (hst : st0 = As.reverse ++ .ref (ad k) :: rest) (hdg : decode Y.2.1 pc = .ok (.invokevirtual index, 3)) (kk : am_W Y ad I P (pc + 3) L (.int x :: rest) N) : am_W Y ad I P pc L st0 M :=
  am_callV hM ok hlink hk hs hc hn hR hW8 hst hdg (fun r M' hp => by obtain ⟨rfl, rfl⟩ := hp; exact kk)
theorem am_callVv {N : am_M} {k ci Nf : Nat} {T : u_T} {fl : List (Option Nat)} (hM : am_C Y' ad I (.ref (ad k) :: As) M (am_un N)) (ok : am_okV Y' n) (hlink : Cond.methodLink Y.1.cls index Y'.1 ∈ lw_tbl) (hk : k ∈ I) (hs : am_shp k = .inl (ci, fl)) (hc : vwCl[ci]? = some (Y'.1.cls, T, Nf)) (hn : As.length = n) (hR : Y'.2.2.2.2.1 + 1 ≤ Y.2.2.2.2.1 ∧ 8 + (Y'.2.2.1 + 11) + Y'.2.2.2.2.2 ≤ Y.2.2.2.2.2) (hW8 : (rest.map fun v => v.category).sum ≤ 8) {st0 : List Value} (hst : st0 = As.reverse ++ .ref (ad k) :: rest) (hdg : decode Y.2.1 pc = .ok (.invokevirtual index, 3)) (kk : am_W Y ad I P (pc + 3) L rest N) : am_W Y ad I P pc L st0 M :=
  am_callV hM ok hlink hk hs hc hn hR hW8 hst hdg (fun r M' hp => by obtain ⟨rfl, rfl⟩ := hp; exact kk)
theorem am_callSi {x : Int32} {N : am_M} (hM : am_C Y' ad I As M (am_is x N)) (ok : am_okS Y' n) (hlink : Cond.methodLink Y.1.cls index Y'.1 ∈ lw_tbl) (hn : As.length = n) (hR : Y'.2.2.2.2.1 + 1 ≤ Y.2.2.2.2.1 ∧ 8 + (Y'.2.2.1 + 11) + Y'.2.2.2.2.2 ≤ Y.2.2.2.2.2) (hW8 : (rest.map fun v => v.category).sum ≤ 8) {st0 : List Value} (hst : st0 = As.reverse ++ rest) (hdg : decode Y.2.1 pc = .ok (.invokestatic index, 3)) (kk : am_W Y ad I P (pc + 3) L (.int x :: rest) N) : am_W Y ad I P pc L st0 M :=
  am_callS hM ok hlink hn hR hW8 hst hdg (fun r M' hp => by obtain ⟨rfl, rfl⟩ := hp; exact kk)
theorem am_callSv {N : am_M} (hM : am_C Y' ad I As M (am_un N)) (ok : am_okS Y' n) (hlink : Cond.methodLink Y.1.cls index Y'.1 ∈ lw_tbl) (hn : As.length = n) (hR : Y'.2.2.2.2.1 + 1 ≤ Y.2.2.2.2.1 ∧ 8 + (Y'.2.2.1 + 11) + Y'.2.2.2.2.2 ≤ Y.2.2.2.2.2) (hW8 : (rest.map fun v => v.category).sum ≤ 8) {st0 : List Value} (hst : st0 = As.reverse ++ rest) (hdg : decode Y.2.1 pc = .ok (.invokestatic index, 3)) (kk : am_W Y ad I P (pc + 3) L rest N) : am_W Y ad I P pc L st0 M :=
  am_callS hM ok hlink hn hR hW8 hst hdg (fun r M' hp => by obtain ⟨rfl, rfl⟩ := hp; exact kk)
theorem am_callNi {x : Int32} {N : am_M} {host : String} (hM : am_C Y' ad I As M (am_is x N)) (ok : am_okS Y' n) (hlink : Cond.methodLinkNest Y.1.cls index Y'.1 host ∈ am_nst) (hn : As.length = n) (hR : Y'.2.2.2.2.1 + 1 ≤ Y.2.2.2.2.1 ∧ 8 + (Y'.2.2.1 + 11) + Y'.2.2.2.2.2 ≤ Y.2.2.2.2.2) (hW8 : (rest.map fun v => v.category).sum ≤ 8) {st0 : List Value} (hst : st0 = As.reverse ++ rest) (hdg : decode Y.2.1 pc = .ok (.invokestatic index, 3)) (kk : am_W Y ad I P (pc + 3) L (.int x :: rest) N) : am_W Y ad I P pc L st0 M :=
  am_callN hM ok hlink hn hR hW8 hst hdg (fun r M' hp => by obtain ⟨rfl, rfl⟩ := hp; exact kk)
theorem am_mabsI {index : Nat} {x : Int32} (hlink : Cond.methodLink Y.1.cls index Lib.Math.abs.name ∈ lw_tbl) (hf : 1 ≤ Y.2.2.2.2.1) (hlc : (st.map fun v => v.category).sum + 13 ≤ Y.2.2.2.2.2) (hdg : decode Y.2.1 pc = .ok (.invokestatic index, 3)) (kk : am_W Y ad I P (pc + 3) L (.int (iabs x) :: st) M) : am_W Y ad I P pc L (.int x :: st) M :=
  am_mabs hlink mw_abs_s mw_i mw_abs_c hf hlc hdg kk
theorem am_mmaxI {index : Nat} {x y : Int32} (hlink : Cond.methodLink Y.1.cls index Lib.Math.max.name ∈ lw_tbl) (hf : 1 ≤ Y.2.2.2.2.1) (hlc : (st.map fun v => v.category).sum + 13 ≤ Y.2.2.2.2.2) (hdg : decode Y.2.1 pc = .ok (.invokestatic index, 3)) (kk : am_W Y ad I P (pc + 3) L (.int (imax x y) :: st) M) : am_W Y ad I P pc L (.int y :: .int x :: st) M :=
  am_mmax hlink mw_max_s mw_i mw_max_c hf hlc hdg kk
theorem am_mminI {index : Nat} {x y : Int32} (hlink : Cond.methodLink Y.1.cls index Lib.Math.min.name ∈ lw_tbl) (hf : 1 ≤ Y.2.2.2.2.1) (hlc : (st.map fun v => v.category).sum + 13 ≤ Y.2.2.2.2.2) (hdg : decode Y.2.1 pc = .ok (.invokestatic index, 3)) (kk : am_W Y ad I P (pc + 3) L (.int (imin x y) :: st) M) : am_W Y ad I P pc L (.int y :: .int x :: st) M :=
  am_mmin hlink mw_min_s mw_i mw_min_c hf hlc hdg kk
end AML
end
section
/-! Int32 as numbers that omega knows -/
theorem i_bm (z : Int) : z.bmod (2 ^ 32) = (z + 2147483648) % 4294967296 - 2147483648 := by
  unfold Int.bmod
  simp only [Nat.reducePow]
  split <;> omega
theorem i_add (x y : Int32) : (x + y).toInt = (x.toInt + y.toInt + 2147483648) % 4294967296 - 2147483648 := by rw [Int32.toInt_add, i_bm]
theorem i_sub (x y : Int32) : (x - y).toInt = (x.toInt - y.toInt + 2147483648) % 4294967296 - 2147483648 := by rw [Int32.toInt_sub, i_bm]
theorem i_neg (x : Int32) : (-x).toInt = (-x.toInt + 2147483648) % 4294967296 - 2147483648 := by rw [Int32.toInt_neg, i_bm]
theorem i_mul (x y : Int32) : (x * y).toInt = (x.toInt * y.toInt + 2147483648) % 4294967296 - 2147483648 := by rw [Int32.toInt_mul, i_bm]
theorem i_rng (x : Int32) : -2147483648 ≤ x.toInt ∧ x.toInt < 2147483648 := ⟨Int32.le_toInt x, Int32.toInt_lt x⟩
def iN (z : Int) : Int32 := Int32.ofInt z
theorem iN_e (z : Int) : (iN z).toInt = (z + 2147483648) % 4294967296 - 2147483648 := by
  unfold iN
  rw [Int32.toInt_ofInt, ← i_bm]
theorem nI_iN (a : Nat) : nI a = iN (a : Int) := by
  unfold nI iN
  exact (Int32.ofInt_eq_ofNat).symm
theorem nI_e (a : Nat) : (nI a).toInt = ((a : Int) + 2147483648) % 4294967296 - 2147483648 := by rw [nI_iN, iN_e]
theorem i_inj {x y : Int32} (h : x.toInt = y.toInt) : x = y := Int32.toInt_inj.mp h
theorem i_cl (x : Int32) : x.toNatClampNeg = x.toInt.toNat := rfl
theorem iN_self (x : Int32) : iN x.toInt = x := by
  apply i_inj
  have h := i_rng x
  rw [iN_e]
  omega
theorem iN_inc (z : Int) : iN z + Int32.ofInt 1 = iN (z + 1) := by
  apply i_inj
  rw [i_add, iN_e, iN_e]
  have : (Int32.ofInt 1).toInt = 1 := by decide
  omega
theorem iN_dec (z : Int) : iN z + Int32.ofInt (-1) = iN (z - 1) := by
  apply i_inj
  rw [i_add, iN_e, iN_e]
  have : (Int32.ofInt (-1)).toInt = -1 := by decide
  omega
theorem nI_inc (j : Nat) : nI j + Int32.ofInt 1 = nI (j + 1) := nI_1 j
theorem iN_add (a b : Int) : iN a + iN b = iN (a + b) := by
  apply i_inj
  rw [i_add, iN_e, iN_e, iN_e]
  omega
theorem iN_sub (a b : Int) : iN a - iN b = iN (a - b) := by
  apply i_inj
  rw [i_sub, iN_e, iN_e, iN_e]
  omega
theorem iN_neg (a : Int) : -iN a = iN (-a) := by
  apply i_inj
  rw [i_neg, iN_e, iN_e]
  omega
theorem am_eq {Y : am_Y} {ad : Nat → Nat} {I : List Nat} {P : Option Value → am_M → Prop} {pc : Nat} {L L' : List (Option Value)} {st st' : List Value} {M M' : am_M} (hL : L = L') (hst : st = st') (hM : M = M') (h : am_W Y ad I P pc L' st' M') : am_W Y ad I P pc L st M := by
  subst hL hst hM
  exact h
theorem am_M_eq {Y : am_Y} {ad : Nat → Nat} {I : List Nat} {P : Option Value → am_M → Prop} {pc : Nat} {L : List (Option Value)} {st : List Value} {M M' : am_M} (hM : M = M') (h : am_W Y ad I P pc L st M') : am_W Y ad I P pc L st M := by
  subst hM
  exact h
theorem am_put_row (M : am_M) (k : Nat) (f : Nat → Int32) (j : Nat) (v : Int32) : am_put (am_row M k f) k j v = am_row M k (upd f j v) := by
  funext a
  unfold am_put am_row
  by_cases h : a = k <;> simp [h]
theorem am_put_as_row (M : am_M) (k j : Nat) (v : Int32) : am_put M k j v = am_row M k (upd (M k) j v) := rfl
theorem am_row_self (M : am_M) (k : Nat) : am_row M k (M k) = M := by
  funext a
  unfold am_row
  by_cases h : a = k <;> simp [h]
theorem am_row_at (M : am_M) (k : Nat) (f : Nat → Int32) : am_row M k f k = f := by simp [am_row]
theorem am_row_ne (M : am_M) (k : Nat) (f : Nat → Int32) {a : Nat} (h : a ≠ k) : am_row M k f a = M a := by simp [am_row, h]
theorem am_put_ne (M : am_M) (k j : Nat) (v : Int32) {a : Nat} (h : a ≠ k) : am_put M k j v a = M a := by simp [am_put, h]
theorem am_put_at (M : am_M) (k j : Nat) (v : Int32) : am_put M k j v k = upd (M k) j v := by simp [am_put]
theorem am_row_row (M : am_M) (k : Nat) (f g : Nat → Int32) : am_row (am_row M k f) k g = am_row M k g := by
  funext a
  unfold am_row
  by_cases h : a = k <;> simp [h]
end
section
theorem kI_1 : (1 : Int32).toInt = 1 := by decide
theorem kI_2 : (2 : Int32).toInt = 2 := by decide
theorem kI_3 : (3 : Int32).toInt = 3 := by decide
theorem kI_4 : (4 : Int32).toInt = 4 := by decide
theorem kI_5 : (5 : Int32).toInt = 5 := by decide
theorem kI_6 : (6 : Int32).toInt = 6 := by decide
theorem kI_7 : (7 : Int32).toInt = 7 := by decide
theorem kI_8 : (8 : Int32).toInt = 8 := by decide
theorem kI_9 : (9 : Int32).toInt = 9 := by decide
theorem kI_10 : (10 : Int32).toInt = 10 := by decide
theorem kI_12 : (12 : Int32).toInt = 12 := by decide
theorem kI_13 : (13 : Int32).toInt = 13 := by decide
theorem kI_31 : (31 : Int32).toInt = 31 := by decide
theorem kI_100 : (100 : Int32).toInt = 100 := by decide
theorem kI_200 : (200 : Int32).toInt = 200 := by decide
theorem kI_201 : (201 : Int32).toInt = 201 := by decide
theorem kI_400 : (400 : Int32).toInt = 400 := by decide
theorem kI_1000 : (1000 : Int32).toInt = 1000 := by decide
theorem kI_2000 : (2000 : Int32).toInt = 2000 := by decide
theorem kI_1000000 : (1000000 : Int32).toInt = 1000000 := by decide
theorem kI_m1 : (-1 : Int32).toInt = -1 := by decide
theorem kI_m4 : (-4 : Int32).toInt = -4 := by decide
theorem kI_m200 : (-200 : Int32).toInt = -200 := by decide
theorem kI_m2000 : (-2000 : Int32).toInt = -2000 := by decide
def sp_in (n l m : Int32) : Bool := decide (l ≤ n ∧ n ≤ m)
def sp_speed (M : am_M) (v : Int32) : Bool := decide (0 ≤ v ∧ v ≤ M 1 0)
def sp_state (M : am_M) (v a : Int32) : Bool := decide (0 ≤ v ∧ v ≤ M 1 0 ∧ -(M 1 1) ≤ a ∧ a ≤ M 1 1)
def sp_rest (M : am_M) (v a : Int32) : Bool := decide (v = 0 ∧ sp_state M v a = true ∧ -(M 1 2) ≤ a ∧ a ≤ M 1 2)
def sp_bad (M : am_M) (v : Int32) : Bool := decide (0 ≤ v ∧ v < 13 ∧ ¬ M 2 v.toNatClampNeg = 0)
def sp_safe (M : am_M) (w b : Int32) : Bool := decide (0 ≤ w ∧ w < 13 ∧ M 1 3 + M 1 4 * iabs b ≤ M 3 w.toNatClampNeg)
def sp_mayEnd (M : am_M) (w b : Int32) (s : Bool) : Bool := decide (sp_state M w b = true ∧ ¬ (b = 0 ∧ sp_bad M w = true) ∧ (s = false ∨ sp_safe M w b = true))
theorem am_vp13 {x : Int32} (h0 : ¬ x < 0) (h1 : ¬ (13 : Int32) ≤ x) : vp_in x 13 := by
  have e13 : (13 : Int32).toInt = 13 := by decide
  simp only [Int32.le_iff_toInt_le, Int32.lt_iff_toInt_lt, Int32.toInt_zero] at h0 h1
  exact am_vpI (by omega) (by omega)
set_option maxRecDepth 100000 in
set_option maxHeartbeats 4000000 in
theorem c_X6_isWithin (ad : Nat → Nat) (M : am_M) (n l m : Int32) : am_C ydX6_isWithin ad am_II [.int n, .int l, .int m] M (am_is (bI (sp_in n l m)) M) := by
  refine am_ofW (by decide +kernel) (by simp [Value.category]) (Nat.le_of_ble_eq_true rfl) rfl ?_
  refine am_iload_n rfl dX6_isWithin_0 ?_
  refine am_iload_n rfl dX6_isWithin_1 ?_
  refine am_icmp_lt (tgt := 14) (by decide) dX6_isWithin_2 (fun h2 => ?_) (fun h2 => ?_)
  · refine am_iconst (v := 0) (by decide) dX6_isWithin_14 ?_
    refine am_zret rfl (by first | exact am_nb _ | decide) dX6_isWithin_15 ?_
    refine am_isF ?_
    simp only [sp_in, decide_eq_true_eq, decide_eq_false_iff_not, Bool.and_eq_true, Bool.or_eq_true, Bool.not_eq_true', Bool.and_eq_false_iff, bI_0] at *
    first | (simp_all; done) | (simp only [Int32.le_iff_toInt_le, Int32.lt_iff_toInt_lt, ← Int32.toInt_inj, Int32.toInt_zero, kI_1, kI_2, kI_3, kI_4, kI_5, kI_6, kI_7, kI_8, kI_9, kI_10, kI_12, kI_13, kI_31, kI_100, kI_200, kI_201, kI_400, kI_1000, kI_2000, kI_1000000, kI_m1, kI_m4, kI_m200, kI_m2000] at *; omega)
  · refine am_iload_n rfl dX6_isWithin_5 ?_
    refine am_iload_n rfl dX6_isWithin_6 ?_
    refine am_icmp_gt (tgt := 14) (by decide) dX6_isWithin_7 (fun h7 => ?_) (fun h7 => ?_)
    · refine am_iconst (v := 0) (by decide) dX6_isWithin_14 ?_
      refine am_zret rfl (by first | exact am_nb _ | decide) dX6_isWithin_15 ?_
      refine am_isF ?_
      simp only [sp_in, decide_eq_true_eq, decide_eq_false_iff_not, Bool.and_eq_true, Bool.or_eq_true, Bool.not_eq_true', Bool.and_eq_false_iff, bI_0] at *
      first | (simp_all; done) | (simp only [Int32.le_iff_toInt_le, Int32.lt_iff_toInt_lt, ← Int32.toInt_inj, Int32.toInt_zero, kI_1, kI_2, kI_3, kI_4, kI_5, kI_6, kI_7, kI_8, kI_9, kI_10, kI_12, kI_13, kI_31, kI_100, kI_200, kI_201, kI_400, kI_1000, kI_2000, kI_1000000, kI_m1, kI_m4, kI_m200, kI_m2000] at *; omega)
    · refine am_iconst (v := 1) (by decide) dX6_isWithin_10 ?_
      refine am_goto (tgt := 15) (by decide) dX6_isWithin_11 ?_
      refine am_zret rfl (by first | exact am_nb _ | decide) dX6_isWithin_15 ?_
      refine am_isT ?_
      simp only [sp_in, decide_eq_true_eq, decide_eq_false_iff_not, Bool.and_eq_true, Bool.or_eq_true, Bool.not_eq_true', Bool.and_eq_false_iff, bI_0] at *
      first | (simp_all; done) | (simp only [Int32.le_iff_toInt_le, Int32.lt_iff_toInt_lt, ← Int32.toInt_inj, Int32.toInt_zero, kI_1, kI_2, kI_3, kI_4, kI_5, kI_6, kI_7, kI_8, kI_9, kI_10, kI_12, kI_13, kI_31, kI_100, kI_200, kI_201, kI_400, kI_1000, kI_2000, kI_1000000, kI_m1, kI_m4, kI_m200, kI_m2000] at *; omega)
def sp_num (v a : Int32) : Int32 := v * 9 + a + 4
set_option maxRecDepth 100000 in
set_option maxHeartbeats 4000000 in
theorem c_X6_stateNumber (ad : Nat → Nat) (M : am_M) (v a : Int32) : am_C ydX6_stateNumber ad am_II [.int v, .int a] M (am_is (sp_num v a) M) := by
  refine am_ofW (by decide +kernel) (by simp [Value.category]) (Nat.le_of_ble_eq_true rfl) rfl ?_
  refine am_iload_n rfl dX6_stateNumber_0 ?_
  refine am_bipush (v := 9) (by decide) dX6_stateNumber_1 ?_
  refine am_imul dX6_stateNumber_3 ?_
  refine am_iload_n rfl dX6_stateNumber_4 ?_
  refine am_iadd dX6_stateNumber_5 ?_
  refine am_iconst (v := 4) (by decide) dX6_stateNumber_6 ?_
  refine am_iadd dX6_stateNumber_7 ?_
  refine am_iret rfl dX6_stateNumber_8 ?_
  exact ⟨rfl, rfl⟩
def sp_way (d : Int32) : Bool := sp_in d (-200) 200
set_option maxRecDepth 100000 in
set_option maxHeartbeats 4000000 in
theorem c_X6_isWay (ad : Nat → Nat) (M : am_M) (d : Int32) : am_C ydX6_isWay ad am_II [.int d] M (am_is (bI (sp_way d)) M) := by
  refine am_ofW (by decide +kernel) (by simp [Value.category]) (Nat.le_of_ble_eq_true rfl) rfl ?_
  refine am_iload_n rfl dX6_isWay_0 ?_
  refine am_sipush (v := (-200)) (by decide) dX6_isWay_1 ?_
  refine am_sipush (v := 200) (by decide) dX6_isWay_4 ?_
  refine am_callSi (c_X6_isWithin ad M _ _ _) okX6_isWithin ml_X6_66 rfl ⟨by decide, by decide⟩ (Nat.le_of_ble_eq_true rfl) rfl dX6_isWay_7 ?_
  refine am_zret rfl (by first | exact am_nb _ | decide) dX6_isWay_10 ?_
  exact ⟨rfl, rfl⟩
set_option maxRecDepth 100000 in
set_option maxHeartbeats 4000000 in
theorem c_X4_isSpeed (ad : Nat → Nat) (M : am_M) (v : Int32) : am_C ydX4_isSpeed ad am_II [.ref (ad 1), .int v] M (am_is (bI (sp_speed M v)) M) := by
  refine am_ofW (by decide +kernel) (by simp [Value.category]) (Nat.le_of_ble_eq_true rfl) rfl ?_
  refine am_iload_n rfl dX4_isSpeed_0 ?_
  refine am_if_lt (tgt := 16) (by decide) dX4_isSpeed_1 (fun h1 => ?_) (fun h1 => ?_)
  · refine am_iconst (v := 0) (by decide) dX4_isSpeed_16 ?_
    refine am_zret rfl (by first | exact am_nb _ | decide) dX4_isSpeed_17 ?_
    refine am_isF ?_
    simp only [sp_speed, decide_eq_true_eq, decide_eq_false_iff_not, Bool.and_eq_true, Bool.or_eq_true, Bool.not_eq_true', Bool.and_eq_false_iff, bI_0] at *
    first | (simp_all; done) | (simp only [Int32.le_iff_toInt_le, Int32.lt_iff_toInt_lt, ← Int32.toInt_inj, Int32.toInt_zero, kI_1, kI_2, kI_3, kI_4, kI_5, kI_6, kI_7, kI_8, kI_9, kI_10, kI_12, kI_13, kI_31, kI_100, kI_200, kI_201, kI_400, kI_1000, kI_2000, kI_1000000, kI_m1, kI_m4, kI_m200, kI_m2000] at *; omega)
  · refine am_iload_n rfl dX4_isSpeed_4 ?_
    refine am_aload_n rfl dX4_isSpeed_5 ?_
    refine am_geti (j := 0) (by decide) rfl rfl rfl hTX4 (by decide) fl_X4_9 dX4_isSpeed_6 ?_
    refine am_icmp_gt (tgt := 16) (by decide) dX4_isSpeed_9 (fun h9 => ?_) (fun h9 => ?_)
    · refine am_iconst (v := 0) (by decide) dX4_isSpeed_16 ?_
      refine am_zret rfl (by first | exact am_nb _ | decide) dX4_isSpeed_17 ?_
      refine am_isF ?_
      simp only [sp_speed, decide_eq_true_eq, decide_eq_false_iff_not, Bool.and_eq_true, Bool.or_eq_true, Bool.not_eq_true', Bool.and_eq_false_iff, bI_0] at *
      first | (simp_all; done) | (simp only [Int32.le_iff_toInt_le, Int32.lt_iff_toInt_lt, ← Int32.toInt_inj, Int32.toInt_zero, kI_1, kI_2, kI_3, kI_4, kI_5, kI_6, kI_7, kI_8, kI_9, kI_10, kI_12, kI_13, kI_31, kI_100, kI_200, kI_201, kI_400, kI_1000, kI_2000, kI_1000000, kI_m1, kI_m4, kI_m200, kI_m2000] at *; omega)
    · refine am_iconst (v := 1) (by decide) dX4_isSpeed_12 ?_
      refine am_goto (tgt := 17) (by decide) dX4_isSpeed_13 ?_
      refine am_zret rfl (by first | exact am_nb _ | decide) dX4_isSpeed_17 ?_
      refine am_isT ?_
      simp only [sp_speed, decide_eq_true_eq, decide_eq_false_iff_not, Bool.and_eq_true, Bool.or_eq_true, Bool.not_eq_true', Bool.and_eq_false_iff, bI_0] at *
      first | (simp_all; done) | (simp only [Int32.le_iff_toInt_le, Int32.lt_iff_toInt_lt, ← Int32.toInt_inj, Int32.toInt_zero, kI_1, kI_2, kI_3, kI_4, kI_5, kI_6, kI_7, kI_8, kI_9, kI_10, kI_12, kI_13, kI_31, kI_100, kI_200, kI_201, kI_400, kI_1000, kI_2000, kI_1000000, kI_m1, kI_m4, kI_m200, kI_m2000] at *; omega)
set_option maxRecDepth 100000 in
set_option maxHeartbeats 4000000 in
theorem c_X4_isState (ad : Nat → Nat) (M : am_M) (v a : Int32) : am_C ydX4_isState ad am_II [.ref (ad 1), .int v, .int a] M (am_is (bI (sp_state M v a)) M) := by
  refine am_ofW (by decide +kernel) (by simp [Value.category]) (Nat.le_of_ble_eq_true rfl) rfl ?_
  refine am_iload_n rfl dX4_isState_0 ?_
  refine am_if_lt (tgt := 33) (by decide) dX4_isState_1 (fun h1 => ?_) (fun h1 => ?_)
  · refine am_iconst (v := 0) (by decide) dX4_isState_33 ?_
    refine am_zret rfl (by first | exact am_nb _ | decide) dX4_isState_34 ?_
    refine am_isF ?_
    simp only [sp_state, decide_eq_true_eq, decide_eq_false_iff_not, Bool.and_eq_true, Bool.or_eq_true, Bool.not_eq_true', Bool.and_eq_false_iff, bI_0] at *
    first | (simp_all; done) | (simp only [Int32.le_iff_toInt_le, Int32.lt_iff_toInt_lt, ← Int32.toInt_inj, Int32.toInt_zero, kI_1, kI_2, kI_3, kI_4, kI_5, kI_6, kI_7, kI_8, kI_9, kI_10, kI_12, kI_13, kI_31, kI_100, kI_200, kI_201, kI_400, kI_1000, kI_2000, kI_1000000, kI_m1, kI_m4, kI_m200, kI_m2000] at *; omega)
  · refine am_iload_n rfl dX4_isState_4 ?_
    refine am_aload_n rfl dX4_isState_5 ?_
    refine am_geti (j := 0) (by decide) rfl rfl rfl hTX4 (by decide) fl_X4_9 dX4_isState_6 ?_
    refine am_icmp_gt (tgt := 33) (by decide) dX4_isState_9 (fun h9 => ?_) (fun h9 => ?_)
    · refine am_iconst (v := 0) (by decide) dX4_isState_33 ?_
      refine am_zret rfl (by first | exact am_nb _ | decide) dX4_isState_34 ?_
      refine am_isF ?_
      simp only [sp_state, decide_eq_true_eq, decide_eq_false_iff_not, Bool.and_eq_true, Bool.or_eq_true, Bool.not_eq_true', Bool.and_eq_false_iff, bI_0] at *
      first | (simp_all; done) | (simp only [Int32.le_iff_toInt_le, Int32.lt_iff_toInt_lt, ← Int32.toInt_inj, Int32.toInt_zero, kI_1, kI_2, kI_3, kI_4, kI_5, kI_6, kI_7, kI_8, kI_9, kI_10, kI_12, kI_13, kI_31, kI_100, kI_200, kI_201, kI_400, kI_1000, kI_2000, kI_1000000, kI_m1, kI_m4, kI_m200, kI_m2000] at *; omega)
    · refine am_iload_n rfl dX4_isState_12 ?_
      refine am_aload_n rfl dX4_isState_13 ?_
      refine am_geti (j := 1) (by decide) rfl rfl rfl hTX4 (by decide) fl_X4_15 dX4_isState_14 ?_
      refine am_ineg dX4_isState_17 ?_
      refine am_icmp_lt (tgt := 33) (by decide) dX4_isState_18 (fun h18 => ?_) (fun h18 => ?_)
      · refine am_iconst (v := 0) (by decide) dX4_isState_33 ?_
        refine am_zret rfl (by first | exact am_nb _ | decide) dX4_isState_34 ?_
        refine am_isF ?_
        simp only [sp_state, decide_eq_true_eq, decide_eq_false_iff_not, Bool.and_eq_true, Bool.or_eq_true, Bool.not_eq_true', Bool.and_eq_false_iff, bI_0] at *
        first | (simp_all; done) | (simp only [Int32.le_iff_toInt_le, Int32.lt_iff_toInt_lt, ← Int32.toInt_inj, Int32.toInt_zero, kI_1, kI_2, kI_3, kI_4, kI_5, kI_6, kI_7, kI_8, kI_9, kI_10, kI_12, kI_13, kI_31, kI_100, kI_200, kI_201, kI_400, kI_1000, kI_2000, kI_1000000, kI_m1, kI_m4, kI_m200, kI_m2000] at *; omega)
      · refine am_iload_n rfl dX4_isState_21 ?_
        refine am_aload_n rfl dX4_isState_22 ?_
        refine am_geti (j := 1) (by decide) rfl rfl rfl hTX4 (by decide) fl_X4_15 dX4_isState_23 ?_
        refine am_icmp_gt (tgt := 33) (by decide) dX4_isState_26 (fun h26 => ?_) (fun h26 => ?_)
        · refine am_iconst (v := 0) (by decide) dX4_isState_33 ?_
          refine am_zret rfl (by first | exact am_nb _ | decide) dX4_isState_34 ?_
          refine am_isF ?_
          simp only [sp_state, decide_eq_true_eq, decide_eq_false_iff_not, Bool.and_eq_true, Bool.or_eq_true, Bool.not_eq_true', Bool.and_eq_false_iff, bI_0] at *
          first | (simp_all; done) | (simp only [Int32.le_iff_toInt_le, Int32.lt_iff_toInt_lt, ← Int32.toInt_inj, Int32.toInt_zero, kI_1, kI_2, kI_3, kI_4, kI_5, kI_6, kI_7, kI_8, kI_9, kI_10, kI_12, kI_13, kI_31, kI_100, kI_200, kI_201, kI_400, kI_1000, kI_2000, kI_1000000, kI_m1, kI_m4, kI_m200, kI_m2000] at *; omega)
        · refine am_iconst (v := 1) (by decide) dX4_isState_29 ?_
          refine am_goto (tgt := 34) (by decide) dX4_isState_30 ?_
          refine am_zret rfl (by first | exact am_nb _ | decide) dX4_isState_34 ?_
          refine am_isT ?_
          simp only [sp_state, decide_eq_true_eq, decide_eq_false_iff_not, Bool.and_eq_true, Bool.or_eq_true, Bool.not_eq_true', Bool.and_eq_false_iff, bI_0] at *
          first | (simp_all; done) | (simp only [Int32.le_iff_toInt_le, Int32.lt_iff_toInt_lt, ← Int32.toInt_inj, Int32.toInt_zero, kI_1, kI_2, kI_3, kI_4, kI_5, kI_6, kI_7, kI_8, kI_9, kI_10, kI_12, kI_13, kI_31, kI_100, kI_200, kI_201, kI_400, kI_1000, kI_2000, kI_1000000, kI_m1, kI_m4, kI_m200, kI_m2000] at *; omega)
set_option maxRecDepth 100000 in
set_option maxHeartbeats 4000000 in
theorem c_X4_isRest (ad : Nat → Nat) (M : am_M) (v a : Int32) : am_C ydX4_isRest ad am_II [.ref (ad 1), .int v, .int a] M (am_is (bI (sp_rest M v a)) M) := by
  refine am_ofW (by decide +kernel) (by simp [Value.category]) (Nat.le_of_ble_eq_true rfl) rfl ?_
  refine am_iload_n rfl dX4_isRest_0 ?_
  refine am_if_ne (tgt := 34) (by decide) dX4_isRest_1 (fun h1 => ?_) (fun h1 => ?_)
  · refine am_iconst (v := 0) (by decide) dX4_isRest_34 ?_
    refine am_zret rfl (by first | exact am_nb _ | decide) dX4_isRest_35 ?_
    refine am_isF ?_
    simp only [sp_rest, decide_eq_true_eq, decide_eq_false_iff_not, Bool.and_eq_true, Bool.or_eq_true, Bool.not_eq_true', Bool.and_eq_false_iff, bI_0] at *
    first | (simp_all; done) | (simp only [Int32.le_iff_toInt_le, Int32.lt_iff_toInt_lt, ← Int32.toInt_inj, Int32.toInt_zero, kI_1, kI_2, kI_3, kI_4, kI_5, kI_6, kI_7, kI_8, kI_9, kI_10, kI_12, kI_13, kI_31, kI_100, kI_200, kI_201, kI_400, kI_1000, kI_2000, kI_1000000, kI_m1, kI_m4, kI_m200, kI_m2000] at *; omega)
  · refine am_aload_n rfl dX4_isRest_4 ?_
    refine am_iload_n rfl dX4_isRest_5 ?_
    refine am_iload_n rfl dX4_isRest_6 ?_
    refine am_callVi (c_X4_isState ad M _ _) okX4_isState ml_X4_52 (by decide) rfl rfl rfl ⟨by decide, by decide⟩ (Nat.le_of_ble_eq_true rfl) rfl dX4_isRest_7 ?_
    refine am_ifb_eq (tgt := 34) (by decide) dX4_isRest_10 (fun h10 => ?_) (fun h10 => ?_)
    · refine am_iconst (v := 0) (by decide) dX4_isRest_34 ?_
      refine am_zret rfl (by first | exact am_nb _ | decide) dX4_isRest_35 ?_
      refine am_isF ?_
      simp only [sp_rest, decide_eq_true_eq, decide_eq_false_iff_not, Bool.and_eq_true, Bool.or_eq_true, Bool.not_eq_true', Bool.and_eq_false_iff, bI_0] at *
      first | (simp_all; done) | (simp only [Int32.le_iff_toInt_le, Int32.lt_iff_toInt_lt, ← Int32.toInt_inj, Int32.toInt_zero, kI_1, kI_2, kI_3, kI_4, kI_5, kI_6, kI_7, kI_8, kI_9, kI_10, kI_12, kI_13, kI_31, kI_100, kI_200, kI_201, kI_400, kI_1000, kI_2000, kI_1000000, kI_m1, kI_m4, kI_m200, kI_m2000] at *; omega)
    · refine am_iload_n rfl dX4_isRest_13 ?_
      refine am_aload_n rfl dX4_isRest_14 ?_
      refine am_geti (j := 2) (by decide) rfl rfl rfl hTX4 (by decide) fl_X4_18 dX4_isRest_15 ?_
      refine am_ineg dX4_isRest_18 ?_
      refine am_icmp_lt (tgt := 34) (by decide) dX4_isRest_19 (fun h19 => ?_) (fun h19 => ?_)
      · refine am_iconst (v := 0) (by decide) dX4_isRest_34 ?_
        refine am_zret rfl (by first | exact am_nb _ | decide) dX4_isRest_35 ?_
        refine am_isF ?_
        simp only [sp_rest, decide_eq_true_eq, decide_eq_false_iff_not, Bool.and_eq_true, Bool.or_eq_true, Bool.not_eq_true', Bool.and_eq_false_iff, bI_0] at *
        first | (simp_all; done) | (simp only [Int32.le_iff_toInt_le, Int32.lt_iff_toInt_lt, ← Int32.toInt_inj, Int32.toInt_zero, kI_1, kI_2, kI_3, kI_4, kI_5, kI_6, kI_7, kI_8, kI_9, kI_10, kI_12, kI_13, kI_31, kI_100, kI_200, kI_201, kI_400, kI_1000, kI_2000, kI_1000000, kI_m1, kI_m4, kI_m200, kI_m2000] at *; omega)
      · refine am_iload_n rfl dX4_isRest_22 ?_
        refine am_aload_n rfl dX4_isRest_23 ?_
        refine am_geti (j := 2) (by decide) rfl rfl rfl hTX4 (by decide) fl_X4_18 dX4_isRest_24 ?_
        refine am_icmp_gt (tgt := 34) (by decide) dX4_isRest_27 (fun h27 => ?_) (fun h27 => ?_)
        · refine am_iconst (v := 0) (by decide) dX4_isRest_34 ?_
          refine am_zret rfl (by first | exact am_nb _ | decide) dX4_isRest_35 ?_
          refine am_isF ?_
          simp only [sp_rest, decide_eq_true_eq, decide_eq_false_iff_not, Bool.and_eq_true, Bool.or_eq_true, Bool.not_eq_true', Bool.and_eq_false_iff, bI_0] at *
          first | (simp_all; done) | (simp only [Int32.le_iff_toInt_le, Int32.lt_iff_toInt_lt, ← Int32.toInt_inj, Int32.toInt_zero, kI_1, kI_2, kI_3, kI_4, kI_5, kI_6, kI_7, kI_8, kI_9, kI_10, kI_12, kI_13, kI_31, kI_100, kI_200, kI_201, kI_400, kI_1000, kI_2000, kI_1000000, kI_m1, kI_m4, kI_m200, kI_m2000] at *; omega)
        · refine am_iconst (v := 1) (by decide) dX4_isRest_30 ?_
          refine am_goto (tgt := 35) (by decide) dX4_isRest_31 ?_
          refine am_zret rfl (by first | exact am_nb _ | decide) dX4_isRest_35 ?_
          refine am_isT ?_
          simp only [sp_rest, decide_eq_true_eq, decide_eq_false_iff_not, Bool.and_eq_true, Bool.or_eq_true, Bool.not_eq_true', Bool.and_eq_false_iff, bI_0] at *
          first | (simp_all; done) | (simp only [Int32.le_iff_toInt_le, Int32.lt_iff_toInt_lt, ← Int32.toInt_inj, Int32.toInt_zero, kI_1, kI_2, kI_3, kI_4, kI_5, kI_6, kI_7, kI_8, kI_9, kI_10, kI_12, kI_13, kI_31, kI_100, kI_200, kI_201, kI_400, kI_1000, kI_2000, kI_1000000, kI_m1, kI_m4, kI_m200, kI_m2000] at *; omega)
set_option maxRecDepth 100000 in
set_option maxHeartbeats 4000000 in
theorem c_X4_isBad (ad : Nat → Nat) (M : am_M) (v : Int32) : am_C ydX4_isBad ad am_II [.ref (ad 1), .int v] M (am_is (bI (sp_bad M v)) M) := by
  refine am_ofW (by decide +kernel) (by simp [Value.category]) (Nat.le_of_ble_eq_true rfl) rfl ?_
  refine am_iload_n rfl dX4_isBad_0 ?_
  refine am_if_lt (tgt := 26) (by decide) dX4_isBad_1 (fun h1 => ?_) (fun h1 => ?_)
  · refine am_iconst (v := 0) (by decide) dX4_isBad_26 ?_
    refine am_zret rfl (by first | exact am_nb _ | decide) dX4_isBad_27 ?_
    refine am_isF ?_
    simp only [sp_bad, decide_eq_true_eq, decide_eq_false_iff_not, Bool.and_eq_true, Bool.or_eq_true, Bool.not_eq_true', Bool.and_eq_false_iff, bI_0] at *
    first | (simp_all; done) | (simp only [Int32.le_iff_toInt_le, Int32.lt_iff_toInt_lt, ← Int32.toInt_inj, Int32.toInt_zero, kI_1, kI_2, kI_3, kI_4, kI_5, kI_6, kI_7, kI_8, kI_9, kI_10, kI_12, kI_13, kI_31, kI_100, kI_200, kI_201, kI_400, kI_1000, kI_2000, kI_1000000, kI_m1, kI_m4, kI_m200, kI_m2000] at *; omega)
  · refine am_iload_n rfl dX4_isBad_4 ?_
    refine am_aload_n rfl dX4_isBad_5 ?_
    refine am_getr (j := 5) (by decide) rfl rfl rfl hTX4 (by decide) fl_X4_27 dX4_isBad_6 ?_
    refine am_alen (v := 13) (by decide) rfl (by decide) dX4_isBad_9 ?_
    refine am_icmp_ge (tgt := 26) (by decide) dX4_isBad_10 (fun h10 => ?_) (fun h10 => ?_)
    · refine am_iconst (v := 0) (by decide) dX4_isBad_26 ?_
      refine am_zret rfl (by first | exact am_nb _ | decide) dX4_isBad_27 ?_
      refine am_isF ?_
      simp only [sp_bad, decide_eq_true_eq, decide_eq_false_iff_not, Bool.and_eq_true, Bool.or_eq_true, Bool.not_eq_true', Bool.and_eq_false_iff, bI_0] at *
      first | (simp_all; done) | (simp only [Int32.le_iff_toInt_le, Int32.lt_iff_toInt_lt, ← Int32.toInt_inj, Int32.toInt_zero, kI_1, kI_2, kI_3, kI_4, kI_5, kI_6, kI_7, kI_8, kI_9, kI_10, kI_12, kI_13, kI_31, kI_100, kI_200, kI_201, kI_400, kI_1000, kI_2000, kI_1000000, kI_m1, kI_m4, kI_m200, kI_m2000] at *; omega)
    · refine am_aload_n rfl dX4_isBad_13 ?_
      refine am_getr (j := 5) (by decide) rfl rfl rfl hTX4 (by decide) fl_X4_27 dX4_isBad_14 ?_
      refine am_iload_n rfl dX4_isBad_17 ?_
      refine am_zald (by decide) rfl (am_vp13 (by assumption) (by assumption)) dX4_isBad_18 ?_
      refine am_if_eq (tgt := 26) (by decide) dX4_isBad_19 (fun h19 => ?_) (fun h19 => ?_)
      · refine am_iconst (v := 0) (by decide) dX4_isBad_26 ?_
        refine am_zret rfl (by first | exact am_nb _ | decide) dX4_isBad_27 ?_
        refine am_isF ?_
        simp only [sp_bad, decide_eq_true_eq, decide_eq_false_iff_not, Bool.and_eq_true, Bool.or_eq_true, Bool.not_eq_true', Bool.and_eq_false_iff, bI_0] at *
        first | (simp_all; done) | (simp only [Int32.le_iff_toInt_le, Int32.lt_iff_toInt_lt, ← Int32.toInt_inj, Int32.toInt_zero, kI_1, kI_2, kI_3, kI_4, kI_5, kI_6, kI_7, kI_8, kI_9, kI_10, kI_12, kI_13, kI_31, kI_100, kI_200, kI_201, kI_400, kI_1000, kI_2000, kI_1000000, kI_m1, kI_m4, kI_m200, kI_m2000] at *; omega)
      · refine am_iconst (v := 1) (by decide) dX4_isBad_22 ?_
        refine am_goto (tgt := 27) (by decide) dX4_isBad_23 ?_
        refine am_zret rfl (by first | exact am_nb _ | decide) dX4_isBad_27 ?_
        refine am_isT ?_
        simp only [sp_bad, decide_eq_true_eq, decide_eq_false_iff_not, Bool.and_eq_true, Bool.or_eq_true, Bool.not_eq_true', Bool.and_eq_false_iff, bI_0] at *
        first | (simp_all; done) | (simp only [Int32.le_iff_toInt_le, Int32.lt_iff_toInt_lt, ← Int32.toInt_inj, Int32.toInt_zero, kI_1, kI_2, kI_3, kI_4, kI_5, kI_6, kI_7, kI_8, kI_9, kI_10, kI_12, kI_13, kI_31, kI_100, kI_200, kI_201, kI_400, kI_1000, kI_2000, kI_1000000, kI_m1, kI_m4, kI_m200, kI_m2000] at *; omega)
set_option maxRecDepth 100000 in
set_option maxHeartbeats 4000000 in
theorem c_X4_isSafe (ad : Nat → Nat) (M : am_M) (w b : Int32) : am_C ydX4_isSafe ad am_II [.ref (ad 1), .int w, .int b] M (am_is (bI (sp_safe M w b)) M) := by
  refine am_ofW (by decide +kernel) (by simp [Value.category]) (Nat.le_of_ble_eq_true rfl) rfl ?_
  refine am_iload_n rfl dX4_isSafe_0 ?_
  refine am_if_lt (tgt := 40) (by decide) dX4_isSafe_1 (fun h1 => ?_) (fun h1 => ?_)
  · refine am_iconst (v := 0) (by decide) dX4_isSafe_40 ?_
    refine am_zret rfl (by first | exact am_nb _ | decide) dX4_isSafe_41 ?_
    refine am_isF ?_
    simp only [sp_safe, decide_eq_true_eq, decide_eq_false_iff_not, Bool.and_eq_true, Bool.or_eq_true, Bool.not_eq_true', Bool.and_eq_false_iff, bI_0] at *
    first | (simp_all; done) | (simp only [Int32.le_iff_toInt_le, Int32.lt_iff_toInt_lt, ← Int32.toInt_inj, Int32.toInt_zero, kI_1, kI_2, kI_3, kI_4, kI_5, kI_6, kI_7, kI_8, kI_9, kI_10, kI_12, kI_13, kI_31, kI_100, kI_200, kI_201, kI_400, kI_1000, kI_2000, kI_1000000, kI_m1, kI_m4, kI_m200, kI_m2000] at *; omega)
  · refine am_iload_n rfl dX4_isSafe_4 ?_
    refine am_aload_n rfl dX4_isSafe_5 ?_
    refine am_getr (j := 6) (by decide) rfl rfl rfl hTX4 (by decide) fl_X4_31 dX4_isSafe_6 ?_
    refine am_alen (v := 13) (by decide) rfl (by decide) dX4_isSafe_9 ?_
    refine am_icmp_ge (tgt := 40) (by decide) dX4_isSafe_10 (fun h10 => ?_) (fun h10 => ?_)
    · refine am_iconst (v := 0) (by decide) dX4_isSafe_40 ?_
      refine am_zret rfl (by first | exact am_nb _ | decide) dX4_isSafe_41 ?_
      refine am_isF ?_
      simp only [sp_safe, decide_eq_true_eq, decide_eq_false_iff_not, Bool.and_eq_true, Bool.or_eq_true, Bool.not_eq_true', Bool.and_eq_false_iff, bI_0] at *
      first | (simp_all; done) | (simp only [Int32.le_iff_toInt_le, Int32.lt_iff_toInt_lt, ← Int32.toInt_inj, Int32.toInt_zero, kI_1, kI_2, kI_3, kI_4, kI_5, kI_6, kI_7, kI_8, kI_9, kI_10, kI_12, kI_13, kI_31, kI_100, kI_200, kI_201, kI_400, kI_1000, kI_2000, kI_1000000, kI_m1, kI_m4, kI_m200, kI_m2000] at *; omega)
    · refine am_aload_n rfl dX4_isSafe_13 ?_
      refine am_geti (j := 3) (by decide) rfl rfl rfl hTX4 (by decide) fl_X4_21 dX4_isSafe_14 ?_
      refine am_aload_n rfl dX4_isSafe_17 ?_
      refine am_geti (j := 4) (by decide) rfl rfl rfl hTX4 (by decide) fl_X4_24 dX4_isSafe_18 ?_
      refine am_iload_n rfl dX4_isSafe_21 ?_
      refine am_mabsI ml_X4_56 (by decide) (Nat.le_of_ble_eq_true rfl) dX4_isSafe_22 ?_
      refine am_imul dX4_isSafe_25 ?_
      refine am_iadd dX4_isSafe_26 ?_
      refine am_aload_n rfl dX4_isSafe_27 ?_
      refine am_getr (j := 6) (by decide) rfl rfl rfl hTX4 (by decide) fl_X4_31 dX4_isSafe_28 ?_
      refine am_iload_n rfl dX4_isSafe_31 ?_
      refine am_iald (by decide) rfl (am_vp13 (by assumption) (by assumption)) dX4_isSafe_32 ?_
      refine am_icmp_gt (tgt := 40) (by decide) dX4_isSafe_33 (fun h33 => ?_) (fun h33 => ?_)
      · refine am_iconst (v := 0) (by decide) dX4_isSafe_40 ?_
        refine am_zret rfl (by first | exact am_nb _ | decide) dX4_isSafe_41 ?_
        refine am_isF ?_
        simp only [sp_safe, decide_eq_true_eq, decide_eq_false_iff_not, Bool.and_eq_true, Bool.or_eq_true, Bool.not_eq_true', Bool.and_eq_false_iff, bI_0] at *
        first | (simp_all; done) | (simp only [Int32.le_iff_toInt_le, Int32.lt_iff_toInt_lt, ← Int32.toInt_inj, Int32.toInt_zero, kI_1, kI_2, kI_3, kI_4, kI_5, kI_6, kI_7, kI_8, kI_9, kI_10, kI_12, kI_13, kI_31, kI_100, kI_200, kI_201, kI_400, kI_1000, kI_2000, kI_1000000, kI_m1, kI_m4, kI_m200, kI_m2000] at *; omega)
      · refine am_iconst (v := 1) (by decide) dX4_isSafe_36 ?_
        refine am_goto (tgt := 41) (by decide) dX4_isSafe_37 ?_
        refine am_zret rfl (by first | exact am_nb _ | decide) dX4_isSafe_41 ?_
        refine am_isT ?_
        simp only [sp_safe, decide_eq_true_eq, decide_eq_false_iff_not, Bool.and_eq_true, Bool.or_eq_true, Bool.not_eq_true', Bool.and_eq_false_iff, bI_0] at *
        first | (simp_all; done) | (simp only [Int32.le_iff_toInt_le, Int32.lt_iff_toInt_lt, ← Int32.toInt_inj, Int32.toInt_zero, kI_1, kI_2, kI_3, kI_4, kI_5, kI_6, kI_7, kI_8, kI_9, kI_10, kI_12, kI_13, kI_31, kI_100, kI_200, kI_201, kI_400, kI_1000, kI_2000, kI_1000000, kI_m1, kI_m4, kI_m200, kI_m2000] at *; omega)
set_option maxRecDepth 100000 in
set_option maxHeartbeats 4000000 in
theorem c_X4_mayEnd (ad : Nat → Nat) (M : am_M) (w b : Int32) (s : Bool) : am_C ydX4_mayEnd ad am_II [.ref (ad 1), .int w, .int b, .int (bI s)] M (am_is (bI (sp_mayEnd M w b s)) M) := by
  refine am_ofW (by decide +kernel) (by simp [Value.category]) (Nat.le_of_ble_eq_true rfl) rfl ?_
  refine am_aload_n rfl dX4_mayEnd_0 ?_
  refine am_iload_n rfl dX4_mayEnd_1 ?_
  refine am_iload_n rfl dX4_mayEnd_2 ?_
  refine am_callVi (c_X4_isState ad M _ _) okX4_isState ml_X4_52 (by decide) rfl rfl rfl ⟨by decide, by decide⟩ (Nat.le_of_ble_eq_true rfl) rfl dX4_mayEnd_3 ?_
  refine am_ifb_eq (tgt := 38) (by decide) dX4_mayEnd_6 (fun h6 => ?_) (fun h6 => ?_)
  · refine am_iconst (v := 0) (by decide) dX4_mayEnd_38 ?_
    refine am_zret rfl (by first | exact am_nb _ | decide) dX4_mayEnd_39 ?_
    refine am_isF ?_
    simp only [sp_mayEnd, decide_eq_true_eq, decide_eq_false_iff_not, Bool.and_eq_true, Bool.or_eq_true, Bool.not_eq_true', Bool.and_eq_false_iff, bI_0] at *
    simp_all
  · refine am_iload_n rfl dX4_mayEnd_9 ?_
    refine am_if_ne (tgt := 21) (by decide) dX4_mayEnd_10 (fun h10 => ?_) (fun h10 => ?_)
    · refine am_iload_n rfl dX4_mayEnd_21 ?_
      refine am_if_eq (tgt := 34) (by decide) dX4_mayEnd_22 (fun h22 => ?_) (fun h22 => ?_)
      · refine am_iconst (v := 1) (by decide) dX4_mayEnd_34 ?_
        refine am_goto (tgt := 39) (by decide) dX4_mayEnd_35 ?_
        refine am_zret rfl (by first | exact am_nb _ | decide) dX4_mayEnd_39 ?_
        refine am_isT ?_
        simp only [sp_mayEnd, decide_eq_true_eq, decide_eq_false_iff_not, Bool.and_eq_true, Bool.or_eq_true, Bool.not_eq_true', Bool.and_eq_false_iff, bI_0] at *
        simp_all
      · refine am_aload_n rfl dX4_mayEnd_25 ?_
        refine am_iload_n rfl dX4_mayEnd_26 ?_
        refine am_iload_n rfl dX4_mayEnd_27 ?_
        refine am_callVi (c_X4_isSafe ad M _ _) okX4_isSafe ml_X4_66 (by decide) rfl rfl rfl ⟨by decide, by decide⟩ (Nat.le_of_ble_eq_true rfl) rfl dX4_mayEnd_28 ?_
        refine am_ifb_eq (tgt := 38) (by decide) dX4_mayEnd_31 (fun h31 => ?_) (fun h31 => ?_)
        · refine am_iconst (v := 0) (by decide) dX4_mayEnd_38 ?_
          refine am_zret rfl (by first | exact am_nb _ | decide) dX4_mayEnd_39 ?_
          refine am_isF ?_
          simp only [sp_mayEnd, decide_eq_true_eq, decide_eq_false_iff_not, Bool.and_eq_true, Bool.or_eq_true, Bool.not_eq_true', Bool.and_eq_false_iff, bI_0] at *
          simp_all
        · refine am_iconst (v := 1) (by decide) dX4_mayEnd_34 ?_
          refine am_goto (tgt := 39) (by decide) dX4_mayEnd_35 ?_
          refine am_zret rfl (by first | exact am_nb _ | decide) dX4_mayEnd_39 ?_
          refine am_isT ?_
          simp only [sp_mayEnd, decide_eq_true_eq, decide_eq_false_iff_not, Bool.and_eq_true, Bool.or_eq_true, Bool.not_eq_true', Bool.and_eq_false_iff, bI_0] at *
          simp_all
    · refine am_aload_n rfl dX4_mayEnd_13 ?_
      refine am_iload_n rfl dX4_mayEnd_14 ?_
      refine am_callVi (c_X4_isBad ad M _) okX4_isBad ml_X4_62 (by decide) rfl rfl rfl ⟨by decide, by decide⟩ (Nat.le_of_ble_eq_true rfl) rfl dX4_mayEnd_15 ?_
      refine am_ifb_ne (tgt := 38) (by decide) dX4_mayEnd_18 (fun h18 => ?_) (fun h18 => ?_)
      · refine am_iconst (v := 0) (by decide) dX4_mayEnd_38 ?_
        refine am_zret rfl (by first | exact am_nb _ | decide) dX4_mayEnd_39 ?_
        refine am_isF ?_
        simp only [sp_mayEnd, decide_eq_true_eq, decide_eq_false_iff_not, Bool.and_eq_true, Bool.or_eq_true, Bool.not_eq_true', Bool.and_eq_false_iff, bI_0] at *
        simp_all
      · refine am_iload_n rfl dX4_mayEnd_21 ?_
        refine am_if_eq (tgt := 34) (by decide) dX4_mayEnd_22 (fun h22 => ?_) (fun h22 => ?_)
        · refine am_iconst (v := 1) (by decide) dX4_mayEnd_34 ?_
          refine am_goto (tgt := 39) (by decide) dX4_mayEnd_35 ?_
          refine am_zret rfl (by first | exact am_nb _ | decide) dX4_mayEnd_39 ?_
          refine am_isT ?_
          simp only [sp_mayEnd, decide_eq_true_eq, decide_eq_false_iff_not, Bool.and_eq_true, Bool.or_eq_true, Bool.not_eq_true', Bool.and_eq_false_iff, bI_0] at *
          simp_all
        · refine am_aload_n rfl dX4_mayEnd_25 ?_
          refine am_iload_n rfl dX4_mayEnd_26 ?_
          refine am_iload_n rfl dX4_mayEnd_27 ?_
          refine am_callVi (c_X4_isSafe ad M _ _) okX4_isSafe ml_X4_66 (by decide) rfl rfl rfl ⟨by decide, by decide⟩ (Nat.le_of_ble_eq_true rfl) rfl dX4_mayEnd_28 ?_
          refine am_ifb_eq (tgt := 38) (by decide) dX4_mayEnd_31 (fun h31 => ?_) (fun h31 => ?_)
          · refine am_iconst (v := 0) (by decide) dX4_mayEnd_38 ?_
            refine am_zret rfl (by first | exact am_nb _ | decide) dX4_mayEnd_39 ?_
            refine am_isF ?_
            simp only [sp_mayEnd, decide_eq_true_eq, decide_eq_false_iff_not, Bool.and_eq_true, Bool.or_eq_true, Bool.not_eq_true', Bool.and_eq_false_iff, bI_0] at *
            simp_all
          · refine am_iconst (v := 1) (by decide) dX4_mayEnd_34 ?_
            refine am_goto (tgt := 39) (by decide) dX4_mayEnd_35 ?_
            refine am_zret rfl (by first | exact am_nb _ | decide) dX4_mayEnd_39 ?_
            refine am_isT ?_
            simp only [sp_mayEnd, decide_eq_true_eq, decide_eq_false_iff_not, Bool.and_eq_true, Bool.or_eq_true, Bool.not_eq_true', Bool.and_eq_false_iff, bI_0] at *
            simp_all
def sp_least (M : am_M) (a : Int32) : Int32 := imax (-(M 1 1)) (a - M 1 2)
def sp_most (M : am_M) (a : Int32) : Int32 := imin (M 1 1) (a + M 1 2)
set_option maxRecDepth 100000 in
set_option maxHeartbeats 4000000 in
theorem c_X4_leastBeside (ad : Nat → Nat) (M : am_M) (a : Int32) : am_C ydX4_leastBeside ad am_II [.ref (ad 1), .int a] M (am_is (sp_least M a) M) := by
  refine am_ofW (by decide +kernel) (by simp [Value.category]) (Nat.le_of_ble_eq_true rfl) rfl ?_
  refine am_aload_n rfl dX4_leastBeside_0 ?_
  refine am_geti (j := 1) (by decide) rfl rfl rfl hTX4 (by decide) fl_X4_15 dX4_leastBeside_1 ?_
  refine am_ineg dX4_leastBeside_4 ?_
  refine am_iload_n rfl dX4_leastBeside_5 ?_
  refine am_aload_n rfl dX4_leastBeside_6 ?_
  refine am_geti (j := 2) (by decide) rfl rfl rfl hTX4 (by decide) fl_X4_18 dX4_leastBeside_7 ?_
  refine am_isub dX4_leastBeside_10 ?_
  refine am_mmaxI ml_X4_69 (by decide) (Nat.le_of_ble_eq_true rfl) dX4_leastBeside_11 ?_
  refine am_iret rfl dX4_leastBeside_14 ?_
  exact ⟨rfl, rfl⟩
set_option maxRecDepth 100000 in
set_option maxHeartbeats 4000000 in
theorem c_X4_mostBeside (ad : Nat → Nat) (M : am_M) (a : Int32) : am_C ydX4_mostBeside ad am_II [.ref (ad 1), .int a] M (am_is (sp_most M a) M) := by
  refine am_ofW (by decide +kernel) (by simp [Value.category]) (Nat.le_of_ble_eq_true rfl) rfl ?_
  refine am_aload_n rfl dX4_mostBeside_0 ?_
  refine am_geti (j := 1) (by decide) rfl rfl rfl hTX4 (by decide) fl_X4_15 dX4_mostBeside_1 ?_
  refine am_iload_n rfl dX4_mostBeside_4 ?_
  refine am_aload_n rfl dX4_mostBeside_5 ?_
  refine am_geti (j := 2) (by decide) rfl rfl rfl hTX4 (by decide) fl_X4_18 dX4_mostBeside_6 ?_
  refine am_iadd dX4_mostBeside_9 ?_
  refine am_mminI ml_X4_73 (by decide) (Nat.le_of_ble_eq_true rfl) dX4_mostBeside_10 ?_
  refine am_iret rfl dX4_mostBeside_13 ?_
  exact ⟨rfl, rfl⟩
end
section
theorem am_isTc {b : Bool} {N M K : am_M} (h : b = true) (hK : K = N) : am_is (bI b) (if b = true then N else M) (some (.int 1)) K := by subst h hK; exact ⟨rfl, rfl⟩
theorem am_isFc {b : Bool} {N M K : am_M} (h : b = false) (hK : K = M) : am_is (bI b) (if b = true then N else M) (some (.int 0)) K := by subst h hK; exact ⟨rfl, rfl⟩
/-- a reading behind writings -/
theorem am_rd (M : am_M) (k j : Nat) (v : Int32) (a b : Nat) : am_put M k j v a b = if a = k ∧ b = j then v else M a b := by
  unfold am_put upd
  by_cases h : a = k
  · by_cases h2 : b = j
    · simp [h, h2]
    · simp [h, h2]
  · simp [h]
def sp_tLimits (M : am_M) (v a j : Int32) : am_M := am_put (am_put (am_put (am_put M 1 0 v) 1 1 a) 1 2 j) 1 8 (M 1 8 + 1)
def sp_tBad (M : am_M) (v : Int32) (b : Bool) : am_M := if sp_in v 0 12 = true then am_put (am_put M 2 v.toNatClampNeg (bI b)) 1 8 (M 1 8 + 1) else M
def sp_tPull (M : am_M) (v p : Int32) : am_M := if sp_in v 0 12 = true then am_put (am_put M 3 v.toNatClampNeg p) 1 8 (M 1 8 + 1) else M
def sp_tLoad (M : am_M) (x y : Int32) : am_M := am_put (am_put (am_put M 1 3 x) 1 4 y) 1 8 (M 1 8 + 1)
def sp_tOnly (M : am_M) (b : Bool) : am_M := am_put (am_put M 1 7 (bI b)) 1 8 (M 1 8 + 1)
theorem am_vpin {v : Int32} (h : sp_in v 0 12 = true) : vp_in v 13 := by
  simp only [sp_in, decide_eq_true_eq, Int32.le_iff_toInt_le, Int32.toInt_zero, kI_12] at h
  exact am_vpI h.1 (by omega)
set_option maxRecDepth 100000 in
set_option maxHeartbeats 400000 in
theorem c_X4_tellLimits (ad : Nat → Nat) (M : am_M) (v a j : Int32) : am_C ydX4_tellLimits ad am_II [.ref (ad 1), .int v, .int a, .int j] M (am_un (sp_tLimits M v a j)) := by
  refine am_ofW (by decide +kernel) (by simp [Value.category]) (Nat.le_of_ble_eq_true rfl) rfl ?_
  refine am_aload_n rfl dX4_tellLimits_0 ?_
  refine am_iload_n rfl dX4_tellLimits_1 ?_
  refine am_puti (j := 0) (by decide) rfl rfl rfl hTX4 tyX4_ok nmX4 (by decide) fl_X4_9 rfl rfl rfl rfl dX4_tellLimits_2 ?_
  refine am_aload_n rfl dX4_tellLimits_5 ?_
  refine am_iload_n rfl dX4_tellLimits_6 ?_
  refine am_puti (j := 1) (by decide) rfl rfl rfl hTX4 tyX4_ok nmX4 (by decide) fl_X4_15 rfl rfl rfl rfl dX4_tellLimits_7 ?_
  refine am_aload_n rfl dX4_tellLimits_10 ?_
  refine am_iload_n rfl dX4_tellLimits_11 ?_
  refine am_puti (j := 2) (by decide) rfl rfl rfl hTX4 tyX4_ok nmX4 (by decide) fl_X4_18 rfl rfl rfl rfl dX4_tellLimits_12 ?_
  refine am_aload_n rfl dX4_tellLimits_15 ?_
  refine am_dup rfl dX4_tellLimits_16 ?_
  refine am_geti (j := 8) (by decide) rfl rfl rfl hTX4 (by decide) fl_X4_39 dX4_tellLimits_17 ?_
  refine am_iconst (v := 1) (by decide) dX4_tellLimits_20 ?_
  refine am_iadd dX4_tellLimits_21 ?_
  refine am_puti (j := 8) (by decide) rfl rfl rfl hTX4 tyX4_ok nmX4 (by decide) fl_X4_39 rfl rfl rfl rfl dX4_tellLimits_22 ?_
  refine am_vret rfl dX4_tellLimits_25 ?_
  exact ⟨rfl, rfl⟩
set_option maxRecDepth 100000 in
set_option maxHeartbeats 400000 in
theorem c_X4_tellBad (ad : Nat → Nat) (M : am_M) (v : Int32) (b : Bool) : am_C ydX4_tellBad ad am_II [.ref (ad 1), .int v, .int (bI b)] M (am_un (sp_tBad M v b)) := by
  refine am_ofW (by decide +kernel) (by simp [Value.category]) (Nat.le_of_ble_eq_true rfl) rfl ?_
  refine am_iload_n rfl dX4_tellBad_0 ?_
  refine am_iconst (v := 0) (by decide) dX4_tellBad_1 ?_
  refine am_bipush (v := 12) (by decide) dX4_tellBad_2 ?_
  refine am_callNi (c_X6_isWithin ad M _ _ _) okX6_isWithin ml_X4_48 rfl ⟨by decide, by decide⟩ (Nat.le_of_ble_eq_true rfl) rfl dX4_tellBad_4 ?_
  refine am_ifb_eq (tgt := 27) (by decide) dX4_tellBad_7 (fun h7 => ?_) (fun h7 => ?_)
  · refine am_vret rfl dX4_tellBad_27 ?_
    exact ⟨rfl, by simp_all [sp_tBad, am_rd]⟩
  · refine am_aload_n rfl dX4_tellBad_10 ?_
    refine am_getr (j := 5) (by decide) rfl rfl rfl hTX4 (by decide) fl_X4_27 dX4_tellBad_11 ?_
    refine am_iload_n rfl dX4_tellBad_14 ?_
    refine am_iload_n rfl dX4_tellBad_15 ?_
    refine am_zast (by decide) rfl (am_vpin (by assumption)) (am_vz _) dX4_tellBad_16 ?_
    refine am_aload_n rfl dX4_tellBad_17 ?_
    refine am_dup rfl dX4_tellBad_18 ?_
    refine am_geti (j := 8) (by decide) rfl rfl rfl hTX4 (by decide) fl_X4_39 dX4_tellBad_19 ?_
    refine am_iconst (v := 1) (by decide) dX4_tellBad_22 ?_
    refine am_iadd dX4_tellBad_23 ?_
    refine am_puti (j := 8) (by decide) rfl rfl rfl hTX4 tyX4_ok nmX4 (by decide) fl_X4_39 rfl rfl rfl rfl dX4_tellBad_24 ?_
    refine am_vret rfl dX4_tellBad_27 ?_
    exact ⟨rfl, by simp_all [sp_tBad, am_rd]⟩
set_option maxRecDepth 100000 in
set_option maxHeartbeats 400000 in
theorem c_X4_tellPull (ad : Nat → Nat) (M : am_M) (v p : Int32) : am_C ydX4_tellPull ad am_II [.ref (ad 1), .int v, .int p] M (am_un (sp_tPull M v p)) := by
  refine am_ofW (by decide +kernel) (by simp [Value.category]) (Nat.le_of_ble_eq_true rfl) rfl ?_
  refine am_iload_n rfl dX4_tellPull_0 ?_
  refine am_iconst (v := 0) (by decide) dX4_tellPull_1 ?_
  refine am_bipush (v := 12) (by decide) dX4_tellPull_2 ?_
  refine am_callNi (c_X6_isWithin ad M _ _ _) okX6_isWithin ml_X4_48 rfl ⟨by decide, by decide⟩ (Nat.le_of_ble_eq_true rfl) rfl dX4_tellPull_4 ?_
  refine am_ifb_eq (tgt := 27) (by decide) dX4_tellPull_7 (fun h7 => ?_) (fun h7 => ?_)
  · refine am_vret rfl dX4_tellPull_27 ?_
    exact ⟨rfl, by simp_all [sp_tPull, am_rd]⟩
  · refine am_aload_n rfl dX4_tellPull_10 ?_
    refine am_getr (j := 6) (by decide) rfl rfl rfl hTX4 (by decide) fl_X4_31 dX4_tellPull_11 ?_
    refine am_iload_n rfl dX4_tellPull_14 ?_
    refine am_iload_n rfl dX4_tellPull_15 ?_
    refine am_iast (by decide) rfl (am_vpin (by assumption)) dX4_tellPull_16 ?_
    refine am_aload_n rfl dX4_tellPull_17 ?_
    refine am_dup rfl dX4_tellPull_18 ?_
    refine am_geti (j := 8) (by decide) rfl rfl rfl hTX4 (by decide) fl_X4_39 dX4_tellPull_19 ?_
    refine am_iconst (v := 1) (by decide) dX4_tellPull_22 ?_
    refine am_iadd dX4_tellPull_23 ?_
    refine am_puti (j := 8) (by decide) rfl rfl rfl hTX4 tyX4_ok nmX4 (by decide) fl_X4_39 rfl rfl rfl rfl dX4_tellPull_24 ?_
    refine am_vret rfl dX4_tellPull_27 ?_
    exact ⟨rfl, by simp_all [sp_tPull, am_rd]⟩
set_option maxRecDepth 100000 in
set_option maxHeartbeats 400000 in
theorem c_X4_tellLoad (ad : Nat → Nat) (M : am_M) (x y : Int32) : am_C ydX4_tellLoad ad am_II [.ref (ad 1), .int x, .int y] M (am_un (sp_tLoad M x y)) := by
  refine am_ofW (by decide +kernel) (by simp [Value.category]) (Nat.le_of_ble_eq_true rfl) rfl ?_
  refine am_aload_n rfl dX4_tellLoad_0 ?_
  refine am_iload_n rfl dX4_tellLoad_1 ?_
  refine am_puti (j := 3) (by decide) rfl rfl rfl hTX4 tyX4_ok nmX4 (by decide) fl_X4_21 rfl rfl rfl rfl dX4_tellLoad_2 ?_
  refine am_aload_n rfl dX4_tellLoad_5 ?_
  refine am_iload_n rfl dX4_tellLoad_6 ?_
  refine am_puti (j := 4) (by decide) rfl rfl rfl hTX4 tyX4_ok nmX4 (by decide) fl_X4_24 rfl rfl rfl rfl dX4_tellLoad_7 ?_
  refine am_aload_n rfl dX4_tellLoad_10 ?_
  refine am_dup rfl dX4_tellLoad_11 ?_
  refine am_geti (j := 8) (by decide) rfl rfl rfl hTX4 (by decide) fl_X4_39 dX4_tellLoad_12 ?_
  refine am_iconst (v := 1) (by decide) dX4_tellLoad_15 ?_
  refine am_iadd dX4_tellLoad_16 ?_
  refine am_puti (j := 8) (by decide) rfl rfl rfl hTX4 tyX4_ok nmX4 (by decide) fl_X4_39 rfl rfl rfl rfl dX4_tellLoad_17 ?_
  refine am_vret rfl dX4_tellLoad_20 ?_
  exact ⟨rfl, rfl⟩
set_option maxRecDepth 100000 in
set_option maxHeartbeats 400000 in
theorem c_X4_tellOnlySafe (ad : Nat → Nat) (M : am_M) (b : Bool) : am_C ydX4_tellOnlySafe ad am_II [.ref (ad 1), .int (bI b)] M (am_un (sp_tOnly M b)) := by
  refine am_ofW (by decide +kernel) (by simp [Value.category]) (Nat.le_of_ble_eq_true rfl) rfl ?_
  refine am_aload_n rfl dX4_tellOnlySafe_0 ?_
  refine am_iload_n rfl dX4_tellOnlySafe_1 ?_
  refine am_puti (j := 7) (by decide) rfl rfl rfl hTX4 tyX4_ok nmX4 (by decide) fl_X4_35 rfl rfl (by first | exact am_nb _ | decide) (by first | exact am_fb _ | decide) dX4_tellOnlySafe_2 ?_
  refine am_aload_n rfl dX4_tellOnlySafe_5 ?_
  refine am_dup rfl dX4_tellOnlySafe_6 ?_
  refine am_geti (j := 8) (by decide) rfl rfl rfl hTX4 (by decide) fl_X4_39 dX4_tellOnlySafe_7 ?_
  refine am_iconst (v := 1) (by decide) dX4_tellOnlySafe_10 ?_
  refine am_iadd dX4_tellOnlySafe_11 ?_
  refine am_puti (j := 8) (by decide) rfl rfl rfl hTX4 tyX4_ok nmX4 (by decide) fl_X4_39 rfl rfl rfl rfl dX4_tellOnlySafe_12 ?_
  refine am_vret rfl dX4_tellOnlySafe_15 ?_
  exact ⟨rfl, rfl⟩
def sp_goes (M : am_M) : Bool := decide (0 < M 15 9)
def sp_mStart (M : am_M) (n t : Int32) : am_M := am_put (am_put (am_put (am_put (am_put (am_put (am_put (am_put (am_put (am_put M 15 0 n) 15 1 0) 15 2 0) 15 3 0) 15 4 0) 15 5 0) 15 6 (-1)) 15 7 0) 15 8 0) 15 9 t
def sp_mSlow (M : am_M) (t : Int32) (b : Bool) : am_M := am_put (am_put (am_put M 15 7 1) 15 8 (bI b)) 15 9 t
def sp_mMiss (M : am_M) (w : Int32) (s : Bool) : am_M := if s = false ∧ ¬ w ≤ 0 then am_put (am_put M 15 5 (M 15 5 + w)) 15 6 (if M 15 6 = -1 then M 15 4 else M 15 6) else M
def sp_mTick (M : am_M) (w b : Int32) (s : Bool) : am_M := am_put (am_put (am_put (am_put (am_put (sp_mMiss M w s) 15 2 w) 15 3 b) 15 1 (M 15 1 + w)) 15 4 (M 15 4 + 1)) 15 9 (M 15 9 - 1)
def sp_mEnd (M : am_M) : am_M := am_put M 15 9 0
set_option maxRecDepth 100000 in
set_option maxHeartbeats 400000 in
theorem c_X2_goesOn (ad : Nat → Nat) (M : am_M)  : am_C ydX2_goesOn ad am_II [.ref (ad 15)] M (am_is (bI (sp_goes M)) M) := by
  refine am_ofW (by decide +kernel) (by simp [Value.category]) (Nat.le_of_ble_eq_true rfl) rfl ?_
  refine am_aload_n rfl dX2_goesOn_0 ?_
  refine am_geti (j := 9) (by decide) rfl rfl rfl hTX2 (by decide) fl_X2_40 dX2_goesOn_1 ?_
  refine am_if_le (tgt := 11) (by decide) dX2_goesOn_4 (fun h4 => ?_) (fun h4 => ?_)
  · refine am_iconst (v := 0) (by decide) dX2_goesOn_11 ?_
    refine am_zret rfl (by first | exact am_nb _ | decide) dX2_goesOn_12 ?_
    refine am_isF ?_
    simp only [sp_goes, decide_eq_true_eq, decide_eq_false_iff_not, Bool.and_eq_true, Bool.or_eq_true, Bool.not_eq_true', Bool.and_eq_false_iff, bI_0] at *
    first | (simp_all; done) | (simp only [Int32.le_iff_toInt_le, Int32.lt_iff_toInt_lt, ← Int32.toInt_inj, Int32.toInt_zero, kI_1, kI_2, kI_3, kI_4, kI_5, kI_6, kI_7, kI_8, kI_9, kI_10, kI_12, kI_13, kI_31, kI_100, kI_200, kI_201, kI_400, kI_1000, kI_2000, kI_1000000, kI_m1, kI_m4, kI_m200, kI_m2000] at *; omega)
  · refine am_iconst (v := 1) (by decide) dX2_goesOn_7 ?_
    refine am_goto (tgt := 12) (by decide) dX2_goesOn_8 ?_
    refine am_zret rfl (by first | exact am_nb _ | decide) dX2_goesOn_12 ?_
    refine am_isT ?_
    simp only [sp_goes, decide_eq_true_eq, decide_eq_false_iff_not, Bool.and_eq_true, Bool.or_eq_true, Bool.not_eq_true', Bool.and_eq_false_iff, bI_0] at *
    first | (simp_all; done) | (simp only [Int32.le_iff_toInt_le, Int32.lt_iff_toInt_lt, ← Int32.toInt_inj, Int32.toInt_zero, kI_1, kI_2, kI_3, kI_4, kI_5, kI_6, kI_7, kI_8, kI_9, kI_10, kI_12, kI_13, kI_31, kI_100, kI_200, kI_201, kI_400, kI_1000, kI_2000, kI_1000000, kI_m1, kI_m4, kI_m200, kI_m2000] at *; omega)
set_option maxRecDepth 100000 in
set_option maxHeartbeats 400000 in
theorem c_X2_start (ad : Nat → Nat) (M : am_M) (n t : Int32) : am_C ydX2_start ad am_II [.ref (ad 15), .int n, .int t] M (am_un (sp_mStart M n t)) := by
  refine am_ofW (by decide +kernel) (by simp [Value.category]) (Nat.le_of_ble_eq_true rfl) rfl ?_
  refine am_aload_n rfl dX2_start_0 ?_
  refine am_iload_n rfl dX2_start_1 ?_
  refine am_puti (j := 0) (by decide) rfl rfl rfl hTX2 tyX2_ok nmX2 (by decide) fl_X2_9 rfl rfl rfl rfl dX2_start_2 ?_
  refine am_aload_n rfl dX2_start_5 ?_
  refine am_iconst (v := 0) (by decide) dX2_start_6 ?_
  refine am_puti (j := 1) (by decide) rfl rfl rfl hTX2 tyX2_ok nmX2 (by decide) fl_X2_15 rfl rfl rfl rfl dX2_start_7 ?_
  refine am_aload_n rfl dX2_start_10 ?_
  refine am_iconst (v := 0) (by decide) dX2_start_11 ?_
  refine am_puti (j := 2) (by decide) rfl rfl rfl hTX2 tyX2_ok nmX2 (by decide) fl_X2_18 rfl rfl rfl rfl dX2_start_12 ?_
  refine am_aload_n rfl dX2_start_15 ?_
  refine am_iconst (v := 0) (by decide) dX2_start_16 ?_
  refine am_puti (j := 3) (by decide) rfl rfl rfl hTX2 tyX2_ok nmX2 (by decide) fl_X2_21 rfl rfl rfl rfl dX2_start_17 ?_
  refine am_aload_n rfl dX2_start_20 ?_
  refine am_iconst (v := 0) (by decide) dX2_start_21 ?_
  refine am_puti (j := 4) (by decide) rfl rfl rfl hTX2 tyX2_ok nmX2 (by decide) fl_X2_24 rfl rfl rfl rfl dX2_start_22 ?_
  refine am_aload_n rfl dX2_start_25 ?_
  refine am_iconst (v := 0) (by decide) dX2_start_26 ?_
  refine am_puti (j := 5) (by decide) rfl rfl rfl hTX2 tyX2_ok nmX2 (by decide) fl_X2_27 rfl rfl rfl rfl dX2_start_27 ?_
  refine am_aload_n rfl dX2_start_30 ?_
  refine am_iconst (v := (-1)) (by decide) dX2_start_31 ?_
  refine am_puti (j := 6) (by decide) rfl rfl rfl hTX2 tyX2_ok nmX2 (by decide) fl_X2_30 rfl rfl rfl rfl dX2_start_32 ?_
  refine am_aload_n rfl dX2_start_35 ?_
  refine am_iconst (v := 0) (by decide) dX2_start_36 ?_
  refine am_puti (j := 7) (by decide) rfl rfl rfl hTX2 tyX2_ok nmX2 (by decide) fl_X2_33 rfl rfl (by first | exact am_nb _ | decide) (by first | exact am_fb _ | decide) dX2_start_37 ?_
  refine am_aload_n rfl dX2_start_40 ?_
  refine am_iconst (v := 0) (by decide) dX2_start_41 ?_
  refine am_puti (j := 8) (by decide) rfl rfl rfl hTX2 tyX2_ok nmX2 (by decide) fl_X2_37 rfl rfl (by first | exact am_nb _ | decide) (by first | exact am_fb _ | decide) dX2_start_42 ?_
  refine am_aload_n rfl dX2_start_45 ?_
  refine am_iload_n rfl dX2_start_46 ?_
  refine am_puti (j := 9) (by decide) rfl rfl rfl hTX2 tyX2_ok nmX2 (by decide) fl_X2_40 rfl rfl rfl rfl dX2_start_47 ?_
  refine am_vret rfl dX2_start_50 ?_
  exact ⟨rfl, rfl⟩
set_option maxRecDepth 100000 in
set_option maxHeartbeats 400000 in
theorem c_X2_goBySlowing (ad : Nat → Nat) (M : am_M) (t : Int32) (b : Bool) : am_C ydX2_goBySlowing ad am_II [.ref (ad 15), .int t, .int (bI b)] M (am_un (sp_mSlow M t b)) := by
  refine am_ofW (by decide +kernel) (by simp [Value.category]) (Nat.le_of_ble_eq_true rfl) rfl ?_
  refine am_aload_n rfl dX2_goBySlowing_0 ?_
  refine am_iconst (v := 1) (by decide) dX2_goBySlowing_1 ?_
  refine am_puti (j := 7) (by decide) rfl rfl rfl hTX2 tyX2_ok nmX2 (by decide) fl_X2_33 rfl rfl (by first | exact am_nb _ | decide) (by first | exact am_fb _ | decide) dX2_goBySlowing_2 ?_
  refine am_aload_n rfl dX2_goBySlowing_5 ?_
  refine am_iload_n rfl dX2_goBySlowing_6 ?_
  refine am_puti (j := 8) (by decide) rfl rfl rfl hTX2 tyX2_ok nmX2 (by decide) fl_X2_37 rfl rfl (by first | exact am_nb _ | decide) (by first | exact am_fb _ | decide) dX2_goBySlowing_7 ?_
  refine am_aload_n rfl dX2_goBySlowing_10 ?_
  refine am_iload_n rfl dX2_goBySlowing_11 ?_
  refine am_puti (j := 9) (by decide) rfl rfl rfl hTX2 tyX2_ok nmX2 (by decide) fl_X2_40 rfl rfl rfl rfl dX2_goBySlowing_12 ?_
  refine am_vret rfl dX2_goBySlowing_15 ?_
  exact ⟨rfl, rfl⟩
set_option maxRecDepth 100000 in
set_option maxHeartbeats 400000 in
theorem c_X2_takeTick (ad : Nat → Nat) (M : am_M) (w b : Int32) (s : Bool) : am_C ydX2_takeTick ad am_II [.ref (ad 15), .int w, .int b, .int (bI s)] M (am_un (sp_mTick M w b s)) := by
  refine am_ofW (by decide +kernel) (by simp [Value.category]) (Nat.le_of_ble_eq_true rfl) rfl ?_
  refine am_iload_n rfl dX2_takeTick_0 ?_
  refine am_if_ne (tgt := 41) (by decide) dX2_takeTick_1 (fun h1 => ?_) (fun h1 => ?_)
  · refine am_aload_n rfl dX2_takeTick_41 ?_
    refine am_iload_n rfl dX2_takeTick_42 ?_
    refine am_puti (j := 2) (by decide) rfl rfl rfl hTX2 tyX2_ok nmX2 (by decide) fl_X2_18 rfl rfl rfl rfl dX2_takeTick_43 ?_
    refine am_aload_n rfl dX2_takeTick_46 ?_
    refine am_iload_n rfl dX2_takeTick_47 ?_
    refine am_puti (j := 3) (by decide) rfl rfl rfl hTX2 tyX2_ok nmX2 (by decide) fl_X2_21 rfl rfl rfl rfl dX2_takeTick_48 ?_
    refine am_aload_n rfl dX2_takeTick_51 ?_
    refine am_dup rfl dX2_takeTick_52 ?_
    refine am_geti (j := 1) (by decide) rfl rfl rfl hTX2 (by decide) fl_X2_15 dX2_takeTick_53 ?_
    refine am_iload_n rfl dX2_takeTick_56 ?_
    refine am_iadd dX2_takeTick_57 ?_
    refine am_puti (j := 1) (by decide) rfl rfl rfl hTX2 tyX2_ok nmX2 (by decide) fl_X2_15 rfl rfl rfl rfl dX2_takeTick_58 ?_
    refine am_aload_n rfl dX2_takeTick_61 ?_
    refine am_dup rfl dX2_takeTick_62 ?_
    refine am_geti (j := 4) (by decide) rfl rfl rfl hTX2 (by decide) fl_X2_24 dX2_takeTick_63 ?_
    refine am_iconst (v := 1) (by decide) dX2_takeTick_66 ?_
    refine am_iadd dX2_takeTick_67 ?_
    refine am_puti (j := 4) (by decide) rfl rfl rfl hTX2 tyX2_ok nmX2 (by decide) fl_X2_24 rfl rfl rfl rfl dX2_takeTick_68 ?_
    refine am_aload_n rfl dX2_takeTick_71 ?_
    refine am_dup rfl dX2_takeTick_72 ?_
    refine am_geti (j := 9) (by decide) rfl rfl rfl hTX2 (by decide) fl_X2_40 dX2_takeTick_73 ?_
    refine am_iconst (v := 1) (by decide) dX2_takeTick_76 ?_
    refine am_isub dX2_takeTick_77 ?_
    refine am_puti (j := 9) (by decide) rfl rfl rfl hTX2 tyX2_ok nmX2 (by decide) fl_X2_40 rfl rfl rfl rfl dX2_takeTick_78 ?_
    refine am_vret rfl dX2_takeTick_81 ?_
    refine ⟨rfl, ?_⟩
    first | (simp_all [sp_mTick, sp_mMiss, am_rd, bI_0]; done) | (simp_all [sp_mTick, sp_mMiss, am_rd, bI_0]; skip)
  · refine am_iload_n rfl dX2_takeTick_4 ?_
    refine am_if_le (tgt := 41) (by decide) dX2_takeTick_5 (fun h5 => ?_) (fun h5 => ?_)
    · refine am_aload_n rfl dX2_takeTick_41 ?_
      refine am_iload_n rfl dX2_takeTick_42 ?_
      refine am_puti (j := 2) (by decide) rfl rfl rfl hTX2 tyX2_ok nmX2 (by decide) fl_X2_18 rfl rfl rfl rfl dX2_takeTick_43 ?_
      refine am_aload_n rfl dX2_takeTick_46 ?_
      refine am_iload_n rfl dX2_takeTick_47 ?_
      refine am_puti (j := 3) (by decide) rfl rfl rfl hTX2 tyX2_ok nmX2 (by decide) fl_X2_21 rfl rfl rfl rfl dX2_takeTick_48 ?_
      refine am_aload_n rfl dX2_takeTick_51 ?_
      refine am_dup rfl dX2_takeTick_52 ?_
      refine am_geti (j := 1) (by decide) rfl rfl rfl hTX2 (by decide) fl_X2_15 dX2_takeTick_53 ?_
      refine am_iload_n rfl dX2_takeTick_56 ?_
      refine am_iadd dX2_takeTick_57 ?_
      refine am_puti (j := 1) (by decide) rfl rfl rfl hTX2 tyX2_ok nmX2 (by decide) fl_X2_15 rfl rfl rfl rfl dX2_takeTick_58 ?_
      refine am_aload_n rfl dX2_takeTick_61 ?_
      refine am_dup rfl dX2_takeTick_62 ?_
      refine am_geti (j := 4) (by decide) rfl rfl rfl hTX2 (by decide) fl_X2_24 dX2_takeTick_63 ?_
      refine am_iconst (v := 1) (by decide) dX2_takeTick_66 ?_
      refine am_iadd dX2_takeTick_67 ?_
      refine am_puti (j := 4) (by decide) rfl rfl rfl hTX2 tyX2_ok nmX2 (by decide) fl_X2_24 rfl rfl rfl rfl dX2_takeTick_68 ?_
      refine am_aload_n rfl dX2_takeTick_71 ?_
      refine am_dup rfl dX2_takeTick_72 ?_
      refine am_geti (j := 9) (by decide) rfl rfl rfl hTX2 (by decide) fl_X2_40 dX2_takeTick_73 ?_
      refine am_iconst (v := 1) (by decide) dX2_takeTick_76 ?_
      refine am_isub dX2_takeTick_77 ?_
      refine am_puti (j := 9) (by decide) rfl rfl rfl hTX2 tyX2_ok nmX2 (by decide) fl_X2_40 rfl rfl rfl rfl dX2_takeTick_78 ?_
      refine am_vret rfl dX2_takeTick_81 ?_
      refine ⟨rfl, ?_⟩
      first | (simp_all [sp_mTick, sp_mMiss, am_rd, bI_0]; done) | (simp_all [sp_mTick, sp_mMiss, am_rd, bI_0]; skip)
    · refine am_aload_n rfl dX2_takeTick_8 ?_
      refine am_dup rfl dX2_takeTick_9 ?_
      refine am_geti (j := 5) (by decide) rfl rfl rfl hTX2 (by decide) fl_X2_27 dX2_takeTick_10 ?_
      refine am_iload_n rfl dX2_takeTick_13 ?_
      refine am_iadd dX2_takeTick_14 ?_
      refine am_puti (j := 5) (by decide) rfl rfl rfl hTX2 tyX2_ok nmX2 (by decide) fl_X2_27 rfl rfl rfl rfl dX2_takeTick_15 ?_
      refine am_aload_n rfl dX2_takeTick_18 ?_
      refine am_aload_n rfl dX2_takeTick_19 ?_
      refine am_geti (j := 6) (by decide) rfl rfl rfl hTX2 (by decide) fl_X2_30 dX2_takeTick_20 ?_
      refine am_iconst (v := (-1)) (by decide) dX2_takeTick_23 ?_
      refine am_icmp_ne (tgt := 34) (by decide) dX2_takeTick_24 (fun h24 => ?_) (fun h24 => ?_)
      · refine am_aload_n rfl dX2_takeTick_34 ?_
        refine am_geti (j := 6) (by decide) rfl rfl rfl hTX2 (by decide) fl_X2_30 dX2_takeTick_35 ?_
        refine am_puti (j := 6) (by decide) rfl rfl rfl hTX2 tyX2_ok nmX2 (by decide) fl_X2_30 rfl rfl rfl rfl dX2_takeTick_38 ?_
        refine am_aload_n rfl dX2_takeTick_41 ?_
        refine am_iload_n rfl dX2_takeTick_42 ?_
        refine am_puti (j := 2) (by decide) rfl rfl rfl hTX2 tyX2_ok nmX2 (by decide) fl_X2_18 rfl rfl rfl rfl dX2_takeTick_43 ?_
        refine am_aload_n rfl dX2_takeTick_46 ?_
        refine am_iload_n rfl dX2_takeTick_47 ?_
        refine am_puti (j := 3) (by decide) rfl rfl rfl hTX2 tyX2_ok nmX2 (by decide) fl_X2_21 rfl rfl rfl rfl dX2_takeTick_48 ?_
        refine am_aload_n rfl dX2_takeTick_51 ?_
        refine am_dup rfl dX2_takeTick_52 ?_
        refine am_geti (j := 1) (by decide) rfl rfl rfl hTX2 (by decide) fl_X2_15 dX2_takeTick_53 ?_
        refine am_iload_n rfl dX2_takeTick_56 ?_
        refine am_iadd dX2_takeTick_57 ?_
        refine am_puti (j := 1) (by decide) rfl rfl rfl hTX2 tyX2_ok nmX2 (by decide) fl_X2_15 rfl rfl rfl rfl dX2_takeTick_58 ?_
        refine am_aload_n rfl dX2_takeTick_61 ?_
        refine am_dup rfl dX2_takeTick_62 ?_
        refine am_geti (j := 4) (by decide) rfl rfl rfl hTX2 (by decide) fl_X2_24 dX2_takeTick_63 ?_
        refine am_iconst (v := 1) (by decide) dX2_takeTick_66 ?_
        refine am_iadd dX2_takeTick_67 ?_
        refine am_puti (j := 4) (by decide) rfl rfl rfl hTX2 tyX2_ok nmX2 (by decide) fl_X2_24 rfl rfl rfl rfl dX2_takeTick_68 ?_
        refine am_aload_n rfl dX2_takeTick_71 ?_
        refine am_dup rfl dX2_takeTick_72 ?_
        refine am_geti (j := 9) (by decide) rfl rfl rfl hTX2 (by decide) fl_X2_40 dX2_takeTick_73 ?_
        refine am_iconst (v := 1) (by decide) dX2_takeTick_76 ?_
        refine am_isub dX2_takeTick_77 ?_
        refine am_puti (j := 9) (by decide) rfl rfl rfl hTX2 tyX2_ok nmX2 (by decide) fl_X2_40 rfl rfl rfl rfl dX2_takeTick_78 ?_
        refine am_vret rfl dX2_takeTick_81 ?_
        refine ⟨rfl, ?_⟩
        first | (simp_all [sp_mTick, sp_mMiss, am_rd, bI_0]; done) | (simp_all [sp_mTick, sp_mMiss, am_rd, bI_0]; skip)
      · refine am_aload_n rfl dX2_takeTick_27 ?_
        refine am_geti (j := 4) (by decide) rfl rfl rfl hTX2 (by decide) fl_X2_24 dX2_takeTick_28 ?_
        refine am_goto (tgt := 38) (by decide) dX2_takeTick_31 ?_
        refine am_puti (j := 6) (by decide) rfl rfl rfl hTX2 tyX2_ok nmX2 (by decide) fl_X2_30 rfl rfl rfl rfl dX2_takeTick_38 ?_
        refine am_aload_n rfl dX2_takeTick_41 ?_
        refine am_iload_n rfl dX2_takeTick_42 ?_
        refine am_puti (j := 2) (by decide) rfl rfl rfl hTX2 tyX2_ok nmX2 (by decide) fl_X2_18 rfl rfl rfl rfl dX2_takeTick_43 ?_
        refine am_aload_n rfl dX2_takeTick_46 ?_
        refine am_iload_n rfl dX2_takeTick_47 ?_
        refine am_puti (j := 3) (by decide) rfl rfl rfl hTX2 tyX2_ok nmX2 (by decide) fl_X2_21 rfl rfl rfl rfl dX2_takeTick_48 ?_
        refine am_aload_n rfl dX2_takeTick_51 ?_
        refine am_dup rfl dX2_takeTick_52 ?_
        refine am_geti (j := 1) (by decide) rfl rfl rfl hTX2 (by decide) fl_X2_15 dX2_takeTick_53 ?_
        refine am_iload_n rfl dX2_takeTick_56 ?_
        refine am_iadd dX2_takeTick_57 ?_
        refine am_puti (j := 1) (by decide) rfl rfl rfl hTX2 tyX2_ok nmX2 (by decide) fl_X2_15 rfl rfl rfl rfl dX2_takeTick_58 ?_
        refine am_aload_n rfl dX2_takeTick_61 ?_
        refine am_dup rfl dX2_takeTick_62 ?_
        refine am_geti (j := 4) (by decide) rfl rfl rfl hTX2 (by decide) fl_X2_24 dX2_takeTick_63 ?_
        refine am_iconst (v := 1) (by decide) dX2_takeTick_66 ?_
        refine am_iadd dX2_takeTick_67 ?_
        refine am_puti (j := 4) (by decide) rfl rfl rfl hTX2 tyX2_ok nmX2 (by decide) fl_X2_24 rfl rfl rfl rfl dX2_takeTick_68 ?_
        refine am_aload_n rfl dX2_takeTick_71 ?_
        refine am_dup rfl dX2_takeTick_72 ?_
        refine am_geti (j := 9) (by decide) rfl rfl rfl hTX2 (by decide) fl_X2_40 dX2_takeTick_73 ?_
        refine am_iconst (v := 1) (by decide) dX2_takeTick_76 ?_
        refine am_isub dX2_takeTick_77 ?_
        refine am_puti (j := 9) (by decide) rfl rfl rfl hTX2 tyX2_ok nmX2 (by decide) fl_X2_40 rfl rfl rfl rfl dX2_takeTick_78 ?_
        refine am_vret rfl dX2_takeTick_81 ?_
        refine ⟨rfl, ?_⟩
        first | (simp_all [sp_mTick, sp_mMiss, am_rd, bI_0]; done) | (simp_all [sp_mTick, sp_mMiss, am_rd, bI_0]; skip)
set_option maxRecDepth 100000 in
set_option maxHeartbeats 400000 in
theorem c_X2_end (ad : Nat → Nat) (M : am_M)  : am_C ydX2_end ad am_II [.ref (ad 15)] M (am_un (sp_mEnd M)) := by
  refine am_ofW (by decide +kernel) (by simp [Value.category]) (Nat.le_of_ble_eq_true rfl) rfl ?_
  refine am_aload_n rfl dX2_end_0 ?_
  refine am_iconst (v := 0) (by decide) dX2_end_1 ?_
  refine am_puti (j := 9) (by decide) rfl rfl rfl hTX2 tyX2_ok nmX2 (by decide) fl_X2_40 rfl rfl rfl rfl dX2_end_2 ?_
  refine am_vret rfl dX2_end_5 ?_
  exact ⟨rfl, rfl⟩
def sp_aStart (M : am_M) (k : Nat) (d : Int32) : am_M := am_put (am_put M k 4 d) k 5 0
def sp_gone (n m way : Int32) : Int32 := if 1 ≤ n then (if 0 ≤ way then (2 * m * iabs way + n) / (2 * n) else -((2 * m * iabs way + n) / (2 * n))) else 0
def sp_follow (M : am_M) (k : Nat) (n m : Int32) (s : Bool) : am_M := am_put (if s = true then am_put (am_put M k 0 (M k 0 + (sp_gone n m (M k 4) - M k 5))) k 1 (M k 1 + (sp_gone n m (M k 4) - M k 5)) else am_put M k 0 (M k 0 + (sp_gone n m (M k 4) - M k 5))) k 5 (sp_gone n m (M k 4))
def sp_putSw (M : am_M) (k : Nat) (s : Int32) : am_M := am_put (am_put M k 3 s) k 2 1
def sp_on (M : am_M) (k : Nat) : Bool := decide (M k 3 ≤ M k 1)
def sp_made (M : am_M) (k : Nat) : Int32 := if sp_on M k = true then M k 1 - (M k 3 - 1) + 1 else M k 3 - M k 1
def sp_find (M : am_M) (k : Nat) : am_M := am_put (am_put M k 1 (M k 3)) k 0 0
theorem am_2n {n : Int32} (h : 1 ≤ n) (h2 : n.toInt ≤ 1000000000) : ¬ 2 * n = 0 := by
  intro e
  have e1 : (2 * n).toInt = 0 := by rw [e]; rfl
  simp only [Int32.le_iff_toInt_le, kI_1] at h
  rw [Int32.toInt_mul, kI_2, Int.bmod_eq_of_le (by omega) (by omega)] at e1
  omega
set_option maxRecDepth 100000 in
set_option maxHeartbeats 400000 in
theorem c_X0_start_16 (ad : Nat → Nat) (M : am_M) (d : Int32) : am_C ydX0_start ad am_II [.ref (ad 16), .int d] M (am_un (sp_aStart M 16 d)) := by
  refine am_ofW (by decide +kernel) (by simp [Value.category]) (Nat.le_of_ble_eq_true rfl) rfl ?_
  refine am_aload_n rfl dX0_start_0 ?_
  refine am_iload_n rfl dX0_start_1 ?_
  refine am_puti (j := 4) (by decide) rfl rfl rfl hTX0 tyX0_ok nmX0 (by decide) fl_X0_23 rfl rfl rfl rfl dX0_start_2 ?_
  refine am_aload_n rfl dX0_start_5 ?_
  refine am_iconst (v := 0) (by decide) dX0_start_6 ?_
  refine am_puti (j := 5) (by decide) rfl rfl rfl hTX0 tyX0_ok nmX0 (by decide) fl_X0_26 rfl rfl rfl rfl dX0_start_7 ?_
  refine am_vret rfl dX0_start_10 ?_
  exact ⟨rfl, rfl⟩
set_option maxRecDepth 100000 in
set_option maxHeartbeats 400000 in
theorem c_X0_goneBehind_16 (ad : Nat → Nat) (M : am_M) (n m : Int32) (hn : n.toInt ≤ 1000000000) : am_C ydX0_goneBehind ad am_II [.ref (ad 16), .int n, .int m] M (am_is (sp_gone n m (M 16 4)) M) := by
  refine am_ofW (by decide +kernel) (by simp [Value.category]) (Nat.le_of_ble_eq_true rfl) rfl ?_
  refine am_iload_n rfl dX0_goneBehind_0 ?_
  refine am_iconst (v := 1) (by decide) dX0_goneBehind_1 ?_
  refine am_icmp_ge (tgt := 7) (by decide) dX0_goneBehind_2 (fun h2 => ?_) (fun h2 => ?_)
  · refine am_iconst (v := 2) (by decide) dX0_goneBehind_7 ?_
    refine am_iload_n rfl dX0_goneBehind_8 ?_
    refine am_imul dX0_goneBehind_9 ?_
    refine am_aload_n rfl dX0_goneBehind_10 ?_
    refine am_geti (j := 4) (by decide) rfl rfl rfl hTX0 (by decide) fl_X0_23 dX0_goneBehind_11 ?_
    refine am_mabsI ml_X0_33 (by decide) (Nat.le_of_ble_eq_true rfl) dX0_goneBehind_14 ?_
    refine am_imul dX0_goneBehind_17 ?_
    refine am_iload_n rfl dX0_goneBehind_18 ?_
    refine am_iadd dX0_goneBehind_19 ?_
    refine am_iconst (v := 2) (by decide) dX0_goneBehind_20 ?_
    refine am_iload_n rfl dX0_goneBehind_21 ?_
    refine am_imul dX0_goneBehind_22 ?_
    refine am_idiv (am_2n (by assumption) hn) dX0_goneBehind_23 ?_
    refine am_istore_n (by decide) dX0_goneBehind_24 ?_
    refine am_aload_n rfl dX0_goneBehind_25 ?_
    refine am_geti (j := 4) (by decide) rfl rfl rfl hTX0 (by decide) fl_X0_23 dX0_goneBehind_26 ?_
    refine am_if_ge (tgt := 37) (by decide) dX0_goneBehind_29 (fun h29 => ?_) (fun h29 => ?_)
    · refine am_iload_n rfl dX0_goneBehind_37 ?_
      refine am_iret rfl dX0_goneBehind_38 ?_
      refine am_isE ?_
      unfold sp_gone
      first | rw [if_pos h2, if_pos h29] | rw [if_pos h2, if_neg h29] | rw [if_neg h2]
    · refine am_iload_n rfl dX0_goneBehind_32 ?_
      refine am_ineg dX0_goneBehind_33 ?_
      refine am_goto (tgt := 38) (by decide) dX0_goneBehind_34 ?_
      refine am_iret rfl dX0_goneBehind_38 ?_
      refine am_isE ?_
      unfold sp_gone
      first | rw [if_pos h2, if_pos h29] | rw [if_pos h2, if_neg h29] | rw [if_neg h2]
  · refine am_iconst (v := 0) (by decide) dX0_goneBehind_5 ?_
    refine am_iret rfl dX0_goneBehind_6 ?_
    refine am_isE ?_
    unfold sp_gone
    first | rw [if_pos h2, if_pos h29] | rw [if_pos h2, if_neg h29] | rw [if_neg h2]
set_option maxRecDepth 100000 in
set_option maxHeartbeats 400000 in
theorem c_X0_follow_16 (ad : Nat → Nat) (M : am_M) (n m : Int32) (s : Bool) (hn : n.toInt ≤ 1000000000) : am_C ydX0_follow ad am_II [.ref (ad 16), .int n, .int m, .int (bI s)] M (am_un (sp_follow M 16 n m s)) := by
  refine am_ofW (by decide +kernel) (by simp [Value.category]) (Nat.le_of_ble_eq_true rfl) rfl ?_
  refine am_aload_n rfl dX0_follow_0 ?_
  refine am_iload_n rfl dX0_follow_1 ?_
  refine am_iload_n rfl dX0_follow_2 ?_
  refine am_callVi (c_X0_goneBehind_16 ad M _ _ hn) okX0_goneBehind ml_X0_29 (by decide) rfl rfl rfl ⟨by decide, by decide⟩ (Nat.le_of_ble_eq_true rfl) rfl dX0_follow_3 ?_
  refine am_istore (by decide) dX0_follow_6 ?_
  refine am_aload_n rfl dX0_follow_8 ?_
  refine am_dup rfl dX0_follow_9 ?_
  refine am_geti (j := 0) (by decide) rfl rfl rfl hTX0 (by decide) fl_X0_7 dX0_follow_10 ?_
  refine am_iload rfl dX0_follow_13 ?_
  refine am_aload_n rfl dX0_follow_15 ?_
  refine am_geti (j := 5) (by decide) rfl rfl rfl hTX0 (by decide) fl_X0_26 dX0_follow_16 ?_
  refine am_isub dX0_follow_19 ?_
  refine am_iadd dX0_follow_20 ?_
  refine am_puti (j := 0) (by decide) rfl rfl rfl hTX0 tyX0_ok nmX0 (by decide) fl_X0_7 rfl rfl rfl rfl dX0_follow_21 ?_
  refine am_iload_n rfl dX0_follow_24 ?_
  refine am_if_eq (tgt := 44) (by decide) dX0_follow_25 (fun h25 => ?_) (fun h25 => ?_)
  · refine am_aload_n rfl dX0_follow_44 ?_
    refine am_iload rfl dX0_follow_45 ?_
    refine am_puti (j := 5) (by decide) rfl rfl rfl hTX0 tyX0_ok nmX0 (by decide) fl_X0_26 rfl rfl rfl rfl dX0_follow_47 ?_
    refine am_vret rfl dX0_follow_50 ?_
    refine ⟨rfl, ?_⟩
    simp_all [sp_follow, am_rd, bI_0]
  · refine am_aload_n rfl dX0_follow_28 ?_
    refine am_dup rfl dX0_follow_29 ?_
    refine am_geti (j := 1) (by decide) rfl rfl rfl hTX0 (by decide) fl_X0_13 dX0_follow_30 ?_
    refine am_iload rfl dX0_follow_33 ?_
    refine am_aload_n rfl dX0_follow_35 ?_
    refine am_geti (j := 5) (by decide) rfl rfl rfl hTX0 (by decide) fl_X0_26 dX0_follow_36 ?_
    refine am_isub dX0_follow_39 ?_
    refine am_iadd dX0_follow_40 ?_
    refine am_puti (j := 1) (by decide) rfl rfl rfl hTX0 tyX0_ok nmX0 (by decide) fl_X0_13 rfl rfl rfl rfl dX0_follow_41 ?_
    refine am_aload_n rfl dX0_follow_44 ?_
    refine am_iload rfl dX0_follow_45 ?_
    refine am_puti (j := 5) (by decide) rfl rfl rfl hTX0 tyX0_ok nmX0 (by decide) fl_X0_26 rfl rfl rfl rfl dX0_follow_47 ?_
    refine am_vret rfl dX0_follow_50 ?_
    refine ⟨rfl, ?_⟩
    simp_all [sp_follow, am_rd, bI_0]
set_option maxRecDepth 100000 in
set_option maxHeartbeats 400000 in
theorem c_X0_putSwitch_16 (ad : Nat → Nat) (M : am_M) (s : Int32) : am_C ydX0_putSwitch ad am_II [.ref (ad 16), .int s] M (am_un (sp_putSw M 16 s)) := by
  refine am_ofW (by decide +kernel) (by simp [Value.category]) (Nat.le_of_ble_eq_true rfl) rfl ?_
  refine am_aload_n rfl dX0_putSwitch_0 ?_
  refine am_iload_n rfl dX0_putSwitch_1 ?_
  refine am_puti (j := 3) (by decide) rfl rfl rfl hTX0 tyX0_ok nmX0 (by decide) fl_X0_20 rfl rfl rfl rfl dX0_putSwitch_2 ?_
  refine am_aload_n rfl dX0_putSwitch_5 ?_
  refine am_iconst (v := 1) (by decide) dX0_putSwitch_6 ?_
  refine am_puti (j := 2) (by decide) rfl rfl rfl hTX0 tyX0_ok nmX0 (by decide) fl_X0_16 rfl rfl (by first | exact am_nb _ | decide) (by first | exact am_fb _ | decide) dX0_putSwitch_7 ?_
  refine am_vret rfl dX0_putSwitch_10 ?_
  exact ⟨rfl, rfl⟩
set_option maxRecDepth 100000 in
set_option maxHeartbeats 400000 in
theorem c_X0_isOn_16 (ad : Nat → Nat) (M : am_M)  : am_C ydX0_isOn ad am_II [.ref (ad 16)] M (am_is (bI (sp_on M 16)) M) := by
  refine am_ofW (by decide +kernel) (by simp [Value.category]) (Nat.le_of_ble_eq_true rfl) rfl ?_
  refine am_aload_n rfl dX0_isOn_0 ?_
  refine am_geti (j := 1) (by decide) rfl rfl rfl hTX0 (by decide) fl_X0_13 dX0_isOn_1 ?_
  refine am_aload_n rfl dX0_isOn_4 ?_
  refine am_geti (j := 3) (by decide) rfl rfl rfl hTX0 (by decide) fl_X0_20 dX0_isOn_5 ?_
  refine am_icmp_lt (tgt := 15) (by decide) dX0_isOn_8 (fun h8 => ?_) (fun h8 => ?_)
  · refine am_iconst (v := 0) (by decide) dX0_isOn_15 ?_
    refine am_zret rfl (by first | exact am_nb _ | decide) dX0_isOn_16 ?_
    refine am_isF ?_
    simp only [sp_on, decide_eq_true_eq, decide_eq_false_iff_not, Bool.and_eq_true, Bool.or_eq_true, Bool.not_eq_true', Bool.and_eq_false_iff, bI_0] at *
    first | (simp_all; done) | (simp only [Int32.le_iff_toInt_le, Int32.lt_iff_toInt_lt, ← Int32.toInt_inj, Int32.toInt_zero, kI_1, kI_2, kI_3, kI_4, kI_5, kI_6, kI_7, kI_8, kI_9, kI_10, kI_12, kI_13, kI_31, kI_100, kI_200, kI_201, kI_400, kI_1000, kI_2000, kI_1000000, kI_m1, kI_m4, kI_m200, kI_m2000] at *; omega)
  · refine am_iconst (v := 1) (by decide) dX0_isOn_11 ?_
    refine am_goto (tgt := 16) (by decide) dX0_isOn_12 ?_
    refine am_zret rfl (by first | exact am_nb _ | decide) dX0_isOn_16 ?_
    refine am_isT ?_
    simp only [sp_on, decide_eq_true_eq, decide_eq_false_iff_not, Bool.and_eq_true, Bool.or_eq_true, Bool.not_eq_true', Bool.and_eq_false_iff, bI_0] at *
    first | (simp_all; done) | (simp only [Int32.le_iff_toInt_le, Int32.lt_iff_toInt_lt, ← Int32.toInt_inj, Int32.toInt_zero, kI_1, kI_2, kI_3, kI_4, kI_5, kI_6, kI_7, kI_8, kI_9, kI_10, kI_12, kI_13, kI_31, kI_100, kI_200, kI_201, kI_400, kI_1000, kI_2000, kI_1000000, kI_m1, kI_m4, kI_m200, kI_m2000] at *; omega)
set_option maxRecDepth 100000 in
set_option maxHeartbeats 400000 in
theorem c_X0_findSwitch_16 (ad : Nat → Nat) (M : am_M)  : am_C ydX0_findSwitch ad am_II [.ref (ad 16)] M (am_is (sp_made M 16) (sp_find M 16)) := by
  refine am_ofW (by decide +kernel) (by simp [Value.category]) (Nat.le_of_ble_eq_true rfl) rfl ?_
  refine am_aload_n rfl dX0_findSwitch_0 ?_
  refine am_callVi (c_X0_isOn_16 ad M) okX0_isOn ml_X0_39 (by decide) rfl rfl rfl ⟨by decide, by decide⟩ (Nat.le_of_ble_eq_true rfl) rfl dX0_findSwitch_1 ?_
  refine am_ifb_eq (tgt := 23) (by decide) dX0_findSwitch_4 (fun h4 => ?_) (fun h4 => ?_)
  · refine am_aload_n rfl dX0_findSwitch_23 ?_
    refine am_geti (j := 3) (by decide) rfl rfl rfl hTX0 (by decide) fl_X0_20 dX0_findSwitch_24 ?_
    refine am_aload_n rfl dX0_findSwitch_27 ?_
    refine am_geti (j := 1) (by decide) rfl rfl rfl hTX0 (by decide) fl_X0_13 dX0_findSwitch_28 ?_
    refine am_isub dX0_findSwitch_31 ?_
    refine am_istore_n (by decide) dX0_findSwitch_32 ?_
    refine am_aload_n rfl dX0_findSwitch_33 ?_
    refine am_aload_n rfl dX0_findSwitch_34 ?_
    refine am_geti (j := 3) (by decide) rfl rfl rfl hTX0 (by decide) fl_X0_20 dX0_findSwitch_35 ?_
    refine am_puti (j := 1) (by decide) rfl rfl rfl hTX0 tyX0_ok nmX0 (by decide) fl_X0_13 rfl rfl rfl rfl dX0_findSwitch_38 ?_
    refine am_aload_n rfl dX0_findSwitch_41 ?_
    refine am_iconst (v := 0) (by decide) dX0_findSwitch_42 ?_
    refine am_puti (j := 0) (by decide) rfl rfl rfl hTX0 tyX0_ok nmX0 (by decide) fl_X0_7 rfl rfl rfl rfl dX0_findSwitch_43 ?_
    refine am_iload_n rfl dX0_findSwitch_46 ?_
    refine am_iret rfl dX0_findSwitch_47 ?_
    refine ⟨?_, rfl⟩
    simp_all [sp_made]
  · refine am_aload_n rfl dX0_findSwitch_7 ?_
    refine am_geti (j := 1) (by decide) rfl rfl rfl hTX0 (by decide) fl_X0_13 dX0_findSwitch_8 ?_
    refine am_aload_n rfl dX0_findSwitch_11 ?_
    refine am_geti (j := 3) (by decide) rfl rfl rfl hTX0 (by decide) fl_X0_20 dX0_findSwitch_12 ?_
    refine am_iconst (v := 1) (by decide) dX0_findSwitch_15 ?_
    refine am_isub dX0_findSwitch_16 ?_
    refine am_isub dX0_findSwitch_17 ?_
    refine am_iconst (v := 1) (by decide) dX0_findSwitch_18 ?_
    refine am_iadd dX0_findSwitch_19 ?_
    refine am_goto (tgt := 32) (by decide) dX0_findSwitch_20 ?_
    refine am_istore_n (by decide) dX0_findSwitch_32 ?_
    refine am_aload_n rfl dX0_findSwitch_33 ?_
    refine am_aload_n rfl dX0_findSwitch_34 ?_
    refine am_geti (j := 3) (by decide) rfl rfl rfl hTX0 (by decide) fl_X0_20 dX0_findSwitch_35 ?_
    refine am_puti (j := 1) (by decide) rfl rfl rfl hTX0 tyX0_ok nmX0 (by decide) fl_X0_13 rfl rfl rfl rfl dX0_findSwitch_38 ?_
    refine am_aload_n rfl dX0_findSwitch_41 ?_
    refine am_iconst (v := 0) (by decide) dX0_findSwitch_42 ?_
    refine am_puti (j := 0) (by decide) rfl rfl rfl hTX0 tyX0_ok nmX0 (by decide) fl_X0_7 rfl rfl rfl rfl dX0_findSwitch_43 ?_
    refine am_iload_n rfl dX0_findSwitch_46 ?_
    refine am_iret rfl dX0_findSwitch_47 ?_
    refine ⟨?_, rfl⟩
    simp_all [sp_made]
set_option maxRecDepth 100000 in
set_option maxHeartbeats 400000 in
theorem c_X0_start_17 (ad : Nat → Nat) (M : am_M) (d : Int32) : am_C ydX0_start ad am_II [.ref (ad 17), .int d] M (am_un (sp_aStart M 17 d)) := by
  refine am_ofW (by decide +kernel) (by simp [Value.category]) (Nat.le_of_ble_eq_true rfl) rfl ?_
  refine am_aload_n rfl dX0_start_0 ?_
  refine am_iload_n rfl dX0_start_1 ?_
  refine am_puti (j := 4) (by decide) rfl rfl rfl hTX0 tyX0_ok nmX0 (by decide) fl_X0_23 rfl rfl rfl rfl dX0_start_2 ?_
  refine am_aload_n rfl dX0_start_5 ?_
  refine am_iconst (v := 0) (by decide) dX0_start_6 ?_
  refine am_puti (j := 5) (by decide) rfl rfl rfl hTX0 tyX0_ok nmX0 (by decide) fl_X0_26 rfl rfl rfl rfl dX0_start_7 ?_
  refine am_vret rfl dX0_start_10 ?_
  exact ⟨rfl, rfl⟩
set_option maxRecDepth 100000 in
set_option maxHeartbeats 400000 in
theorem c_X0_goneBehind_17 (ad : Nat → Nat) (M : am_M) (n m : Int32) (hn : n.toInt ≤ 1000000000) : am_C ydX0_goneBehind ad am_II [.ref (ad 17), .int n, .int m] M (am_is (sp_gone n m (M 17 4)) M) := by
  refine am_ofW (by decide +kernel) (by simp [Value.category]) (Nat.le_of_ble_eq_true rfl) rfl ?_
  refine am_iload_n rfl dX0_goneBehind_0 ?_
  refine am_iconst (v := 1) (by decide) dX0_goneBehind_1 ?_
  refine am_icmp_ge (tgt := 7) (by decide) dX0_goneBehind_2 (fun h2 => ?_) (fun h2 => ?_)
  · refine am_iconst (v := 2) (by decide) dX0_goneBehind_7 ?_
    refine am_iload_n rfl dX0_goneBehind_8 ?_
    refine am_imul dX0_goneBehind_9 ?_
    refine am_aload_n rfl dX0_goneBehind_10 ?_
    refine am_geti (j := 4) (by decide) rfl rfl rfl hTX0 (by decide) fl_X0_23 dX0_goneBehind_11 ?_
    refine am_mabsI ml_X0_33 (by decide) (Nat.le_of_ble_eq_true rfl) dX0_goneBehind_14 ?_
    refine am_imul dX0_goneBehind_17 ?_
    refine am_iload_n rfl dX0_goneBehind_18 ?_
    refine am_iadd dX0_goneBehind_19 ?_
    refine am_iconst (v := 2) (by decide) dX0_goneBehind_20 ?_
    refine am_iload_n rfl dX0_goneBehind_21 ?_
    refine am_imul dX0_goneBehind_22 ?_
    refine am_idiv (am_2n (by assumption) hn) dX0_goneBehind_23 ?_
    refine am_istore_n (by decide) dX0_goneBehind_24 ?_
    refine am_aload_n rfl dX0_goneBehind_25 ?_
    refine am_geti (j := 4) (by decide) rfl rfl rfl hTX0 (by decide) fl_X0_23 dX0_goneBehind_26 ?_
    refine am_if_ge (tgt := 37) (by decide) dX0_goneBehind_29 (fun h29 => ?_) (fun h29 => ?_)
    · refine am_iload_n rfl dX0_goneBehind_37 ?_
      refine am_iret rfl dX0_goneBehind_38 ?_
      refine am_isE ?_
      unfold sp_gone
      first | rw [if_pos h2, if_pos h29] | rw [if_pos h2, if_neg h29] | rw [if_neg h2]
    · refine am_iload_n rfl dX0_goneBehind_32 ?_
      refine am_ineg dX0_goneBehind_33 ?_
      refine am_goto (tgt := 38) (by decide) dX0_goneBehind_34 ?_
      refine am_iret rfl dX0_goneBehind_38 ?_
      refine am_isE ?_
      unfold sp_gone
      first | rw [if_pos h2, if_pos h29] | rw [if_pos h2, if_neg h29] | rw [if_neg h2]
  · refine am_iconst (v := 0) (by decide) dX0_goneBehind_5 ?_
    refine am_iret rfl dX0_goneBehind_6 ?_
    refine am_isE ?_
    unfold sp_gone
    first | rw [if_pos h2, if_pos h29] | rw [if_pos h2, if_neg h29] | rw [if_neg h2]
set_option maxRecDepth 100000 in
set_option maxHeartbeats 400000 in
theorem c_X0_follow_17 (ad : Nat → Nat) (M : am_M) (n m : Int32) (s : Bool) (hn : n.toInt ≤ 1000000000) : am_C ydX0_follow ad am_II [.ref (ad 17), .int n, .int m, .int (bI s)] M (am_un (sp_follow M 17 n m s)) := by
  refine am_ofW (by decide +kernel) (by simp [Value.category]) (Nat.le_of_ble_eq_true rfl) rfl ?_
  refine am_aload_n rfl dX0_follow_0 ?_
  refine am_iload_n rfl dX0_follow_1 ?_
  refine am_iload_n rfl dX0_follow_2 ?_
  refine am_callVi (c_X0_goneBehind_17 ad M _ _ hn) okX0_goneBehind ml_X0_29 (by decide) rfl rfl rfl ⟨by decide, by decide⟩ (Nat.le_of_ble_eq_true rfl) rfl dX0_follow_3 ?_
  refine am_istore (by decide) dX0_follow_6 ?_
  refine am_aload_n rfl dX0_follow_8 ?_
  refine am_dup rfl dX0_follow_9 ?_
  refine am_geti (j := 0) (by decide) rfl rfl rfl hTX0 (by decide) fl_X0_7 dX0_follow_10 ?_
  refine am_iload rfl dX0_follow_13 ?_
  refine am_aload_n rfl dX0_follow_15 ?_
  refine am_geti (j := 5) (by decide) rfl rfl rfl hTX0 (by decide) fl_X0_26 dX0_follow_16 ?_
  refine am_isub dX0_follow_19 ?_
  refine am_iadd dX0_follow_20 ?_
  refine am_puti (j := 0) (by decide) rfl rfl rfl hTX0 tyX0_ok nmX0 (by decide) fl_X0_7 rfl rfl rfl rfl dX0_follow_21 ?_
  refine am_iload_n rfl dX0_follow_24 ?_
  refine am_if_eq (tgt := 44) (by decide) dX0_follow_25 (fun h25 => ?_) (fun h25 => ?_)
  · refine am_aload_n rfl dX0_follow_44 ?_
    refine am_iload rfl dX0_follow_45 ?_
    refine am_puti (j := 5) (by decide) rfl rfl rfl hTX0 tyX0_ok nmX0 (by decide) fl_X0_26 rfl rfl rfl rfl dX0_follow_47 ?_
    refine am_vret rfl dX0_follow_50 ?_
    refine ⟨rfl, ?_⟩
    simp_all [sp_follow, am_rd, bI_0]
  · refine am_aload_n rfl dX0_follow_28 ?_
    refine am_dup rfl dX0_follow_29 ?_
    refine am_geti (j := 1) (by decide) rfl rfl rfl hTX0 (by decide) fl_X0_13 dX0_follow_30 ?_
    refine am_iload rfl dX0_follow_33 ?_
    refine am_aload_n rfl dX0_follow_35 ?_
    refine am_geti (j := 5) (by decide) rfl rfl rfl hTX0 (by decide) fl_X0_26 dX0_follow_36 ?_
    refine am_isub dX0_follow_39 ?_
    refine am_iadd dX0_follow_40 ?_
    refine am_puti (j := 1) (by decide) rfl rfl rfl hTX0 tyX0_ok nmX0 (by decide) fl_X0_13 rfl rfl rfl rfl dX0_follow_41 ?_
    refine am_aload_n rfl dX0_follow_44 ?_
    refine am_iload rfl dX0_follow_45 ?_
    refine am_puti (j := 5) (by decide) rfl rfl rfl hTX0 tyX0_ok nmX0 (by decide) fl_X0_26 rfl rfl rfl rfl dX0_follow_47 ?_
    refine am_vret rfl dX0_follow_50 ?_
    refine ⟨rfl, ?_⟩
    simp_all [sp_follow, am_rd, bI_0]
set_option maxRecDepth 100000 in
set_option maxHeartbeats 400000 in
theorem c_X0_putSwitch_17 (ad : Nat → Nat) (M : am_M) (s : Int32) : am_C ydX0_putSwitch ad am_II [.ref (ad 17), .int s] M (am_un (sp_putSw M 17 s)) := by
  refine am_ofW (by decide +kernel) (by simp [Value.category]) (Nat.le_of_ble_eq_true rfl) rfl ?_
  refine am_aload_n rfl dX0_putSwitch_0 ?_
  refine am_iload_n rfl dX0_putSwitch_1 ?_
  refine am_puti (j := 3) (by decide) rfl rfl rfl hTX0 tyX0_ok nmX0 (by decide) fl_X0_20 rfl rfl rfl rfl dX0_putSwitch_2 ?_
  refine am_aload_n rfl dX0_putSwitch_5 ?_
  refine am_iconst (v := 1) (by decide) dX0_putSwitch_6 ?_
  refine am_puti (j := 2) (by decide) rfl rfl rfl hTX0 tyX0_ok nmX0 (by decide) fl_X0_16 rfl rfl (by first | exact am_nb _ | decide) (by first | exact am_fb _ | decide) dX0_putSwitch_7 ?_
  refine am_vret rfl dX0_putSwitch_10 ?_
  exact ⟨rfl, rfl⟩
set_option maxRecDepth 100000 in
set_option maxHeartbeats 400000 in
theorem c_X0_isOn_17 (ad : Nat → Nat) (M : am_M)  : am_C ydX0_isOn ad am_II [.ref (ad 17)] M (am_is (bI (sp_on M 17)) M) := by
  refine am_ofW (by decide +kernel) (by simp [Value.category]) (Nat.le_of_ble_eq_true rfl) rfl ?_
  refine am_aload_n rfl dX0_isOn_0 ?_
  refine am_geti (j := 1) (by decide) rfl rfl rfl hTX0 (by decide) fl_X0_13 dX0_isOn_1 ?_
  refine am_aload_n rfl dX0_isOn_4 ?_
  refine am_geti (j := 3) (by decide) rfl rfl rfl hTX0 (by decide) fl_X0_20 dX0_isOn_5 ?_
  refine am_icmp_lt (tgt := 15) (by decide) dX0_isOn_8 (fun h8 => ?_) (fun h8 => ?_)
  · refine am_iconst (v := 0) (by decide) dX0_isOn_15 ?_
    refine am_zret rfl (by first | exact am_nb _ | decide) dX0_isOn_16 ?_
    refine am_isF ?_
    simp only [sp_on, decide_eq_true_eq, decide_eq_false_iff_not, Bool.and_eq_true, Bool.or_eq_true, Bool.not_eq_true', Bool.and_eq_false_iff, bI_0] at *
    first | (simp_all; done) | (simp only [Int32.le_iff_toInt_le, Int32.lt_iff_toInt_lt, ← Int32.toInt_inj, Int32.toInt_zero, kI_1, kI_2, kI_3, kI_4, kI_5, kI_6, kI_7, kI_8, kI_9, kI_10, kI_12, kI_13, kI_31, kI_100, kI_200, kI_201, kI_400, kI_1000, kI_2000, kI_1000000, kI_m1, kI_m4, kI_m200, kI_m2000] at *; omega)
  · refine am_iconst (v := 1) (by decide) dX0_isOn_11 ?_
    refine am_goto (tgt := 16) (by decide) dX0_isOn_12 ?_
    refine am_zret rfl (by first | exact am_nb _ | decide) dX0_isOn_16 ?_
    refine am_isT ?_
    simp only [sp_on, decide_eq_true_eq, decide_eq_false_iff_not, Bool.and_eq_true, Bool.or_eq_true, Bool.not_eq_true', Bool.and_eq_false_iff, bI_0] at *
    first | (simp_all; done) | (simp only [Int32.le_iff_toInt_le, Int32.lt_iff_toInt_lt, ← Int32.toInt_inj, Int32.toInt_zero, kI_1, kI_2, kI_3, kI_4, kI_5, kI_6, kI_7, kI_8, kI_9, kI_10, kI_12, kI_13, kI_31, kI_100, kI_200, kI_201, kI_400, kI_1000, kI_2000, kI_1000000, kI_m1, kI_m4, kI_m200, kI_m2000] at *; omega)
set_option maxRecDepth 100000 in
set_option maxHeartbeats 400000 in
theorem c_X0_findSwitch_17 (ad : Nat → Nat) (M : am_M)  : am_C ydX0_findSwitch ad am_II [.ref (ad 17)] M (am_is (sp_made M 17) (sp_find M 17)) := by
  refine am_ofW (by decide +kernel) (by simp [Value.category]) (Nat.le_of_ble_eq_true rfl) rfl ?_
  refine am_aload_n rfl dX0_findSwitch_0 ?_
  refine am_callVi (c_X0_isOn_17 ad M) okX0_isOn ml_X0_39 (by decide) rfl rfl rfl ⟨by decide, by decide⟩ (Nat.le_of_ble_eq_true rfl) rfl dX0_findSwitch_1 ?_
  refine am_ifb_eq (tgt := 23) (by decide) dX0_findSwitch_4 (fun h4 => ?_) (fun h4 => ?_)
  · refine am_aload_n rfl dX0_findSwitch_23 ?_
    refine am_geti (j := 3) (by decide) rfl rfl rfl hTX0 (by decide) fl_X0_20 dX0_findSwitch_24 ?_
    refine am_aload_n rfl dX0_findSwitch_27 ?_
    refine am_geti (j := 1) (by decide) rfl rfl rfl hTX0 (by decide) fl_X0_13 dX0_findSwitch_28 ?_
    refine am_isub dX0_findSwitch_31 ?_
    refine am_istore_n (by decide) dX0_findSwitch_32 ?_
    refine am_aload_n rfl dX0_findSwitch_33 ?_
    refine am_aload_n rfl dX0_findSwitch_34 ?_
    refine am_geti (j := 3) (by decide) rfl rfl rfl hTX0 (by decide) fl_X0_20 dX0_findSwitch_35 ?_
    refine am_puti (j := 1) (by decide) rfl rfl rfl hTX0 tyX0_ok nmX0 (by decide) fl_X0_13 rfl rfl rfl rfl dX0_findSwitch_38 ?_
    refine am_aload_n rfl dX0_findSwitch_41 ?_
    refine am_iconst (v := 0) (by decide) dX0_findSwitch_42 ?_
    refine am_puti (j := 0) (by decide) rfl rfl rfl hTX0 tyX0_ok nmX0 (by decide) fl_X0_7 rfl rfl rfl rfl dX0_findSwitch_43 ?_
    refine am_iload_n rfl dX0_findSwitch_46 ?_
    refine am_iret rfl dX0_findSwitch_47 ?_
    refine ⟨?_, rfl⟩
    simp_all [sp_made]
  · refine am_aload_n rfl dX0_findSwitch_7 ?_
    refine am_geti (j := 1) (by decide) rfl rfl rfl hTX0 (by decide) fl_X0_13 dX0_findSwitch_8 ?_
    refine am_aload_n rfl dX0_findSwitch_11 ?_
    refine am_geti (j := 3) (by decide) rfl rfl rfl hTX0 (by decide) fl_X0_20 dX0_findSwitch_12 ?_
    refine am_iconst (v := 1) (by decide) dX0_findSwitch_15 ?_
    refine am_isub dX0_findSwitch_16 ?_
    refine am_isub dX0_findSwitch_17 ?_
    refine am_iconst (v := 1) (by decide) dX0_findSwitch_18 ?_
    refine am_iadd dX0_findSwitch_19 ?_
    refine am_goto (tgt := 32) (by decide) dX0_findSwitch_20 ?_
    refine am_istore_n (by decide) dX0_findSwitch_32 ?_
    refine am_aload_n rfl dX0_findSwitch_33 ?_
    refine am_aload_n rfl dX0_findSwitch_34 ?_
    refine am_geti (j := 3) (by decide) rfl rfl rfl hTX0 (by decide) fl_X0_20 dX0_findSwitch_35 ?_
    refine am_puti (j := 1) (by decide) rfl rfl rfl hTX0 tyX0_ok nmX0 (by decide) fl_X0_13 rfl rfl rfl rfl dX0_findSwitch_38 ?_
    refine am_aload_n rfl dX0_findSwitch_41 ?_
    refine am_iconst (v := 0) (by decide) dX0_findSwitch_42 ?_
    refine am_puti (j := 0) (by decide) rfl rfl rfl hTX0 tyX0_ok nmX0 (by decide) fl_X0_7 rfl rfl rfl rfl dX0_findSwitch_43 ?_
    refine am_iload_n rfl dX0_findSwitch_46 ?_
    refine am_iret rfl dX0_findSwitch_47 ?_
    refine ⟨?_, rfl⟩
    simp_all [sp_made]
set_option maxRecDepth 100000 in
set_option maxHeartbeats 400000 in
theorem c_X0_start_18 (ad : Nat → Nat) (M : am_M) (d : Int32) : am_C ydX0_start ad am_II [.ref (ad 18), .int d] M (am_un (sp_aStart M 18 d)) := by
  refine am_ofW (by decide +kernel) (by simp [Value.category]) (Nat.le_of_ble_eq_true rfl) rfl ?_
  refine am_aload_n rfl dX0_start_0 ?_
  refine am_iload_n rfl dX0_start_1 ?_
  refine am_puti (j := 4) (by decide) rfl rfl rfl hTX0 tyX0_ok nmX0 (by decide) fl_X0_23 rfl rfl rfl rfl dX0_start_2 ?_
  refine am_aload_n rfl dX0_start_5 ?_
  refine am_iconst (v := 0) (by decide) dX0_start_6 ?_
  refine am_puti (j := 5) (by decide) rfl rfl rfl hTX0 tyX0_ok nmX0 (by decide) fl_X0_26 rfl rfl rfl rfl dX0_start_7 ?_
  refine am_vret rfl dX0_start_10 ?_
  exact ⟨rfl, rfl⟩
set_option maxRecDepth 100000 in
set_option maxHeartbeats 400000 in
theorem c_X0_goneBehind_18 (ad : Nat → Nat) (M : am_M) (n m : Int32) (hn : n.toInt ≤ 1000000000) : am_C ydX0_goneBehind ad am_II [.ref (ad 18), .int n, .int m] M (am_is (sp_gone n m (M 18 4)) M) := by
  refine am_ofW (by decide +kernel) (by simp [Value.category]) (Nat.le_of_ble_eq_true rfl) rfl ?_
  refine am_iload_n rfl dX0_goneBehind_0 ?_
  refine am_iconst (v := 1) (by decide) dX0_goneBehind_1 ?_
  refine am_icmp_ge (tgt := 7) (by decide) dX0_goneBehind_2 (fun h2 => ?_) (fun h2 => ?_)
  · refine am_iconst (v := 2) (by decide) dX0_goneBehind_7 ?_
    refine am_iload_n rfl dX0_goneBehind_8 ?_
    refine am_imul dX0_goneBehind_9 ?_
    refine am_aload_n rfl dX0_goneBehind_10 ?_
    refine am_geti (j := 4) (by decide) rfl rfl rfl hTX0 (by decide) fl_X0_23 dX0_goneBehind_11 ?_
    refine am_mabsI ml_X0_33 (by decide) (Nat.le_of_ble_eq_true rfl) dX0_goneBehind_14 ?_
    refine am_imul dX0_goneBehind_17 ?_
    refine am_iload_n rfl dX0_goneBehind_18 ?_
    refine am_iadd dX0_goneBehind_19 ?_
    refine am_iconst (v := 2) (by decide) dX0_goneBehind_20 ?_
    refine am_iload_n rfl dX0_goneBehind_21 ?_
    refine am_imul dX0_goneBehind_22 ?_
    refine am_idiv (am_2n (by assumption) hn) dX0_goneBehind_23 ?_
    refine am_istore_n (by decide) dX0_goneBehind_24 ?_
    refine am_aload_n rfl dX0_goneBehind_25 ?_
    refine am_geti (j := 4) (by decide) rfl rfl rfl hTX0 (by decide) fl_X0_23 dX0_goneBehind_26 ?_
    refine am_if_ge (tgt := 37) (by decide) dX0_goneBehind_29 (fun h29 => ?_) (fun h29 => ?_)
    · refine am_iload_n rfl dX0_goneBehind_37 ?_
      refine am_iret rfl dX0_goneBehind_38 ?_
      refine am_isE ?_
      unfold sp_gone
      first | rw [if_pos h2, if_pos h29] | rw [if_pos h2, if_neg h29] | rw [if_neg h2]
    · refine am_iload_n rfl dX0_goneBehind_32 ?_
      refine am_ineg dX0_goneBehind_33 ?_
      refine am_goto (tgt := 38) (by decide) dX0_goneBehind_34 ?_
      refine am_iret rfl dX0_goneBehind_38 ?_
      refine am_isE ?_
      unfold sp_gone
      first | rw [if_pos h2, if_pos h29] | rw [if_pos h2, if_neg h29] | rw [if_neg h2]
  · refine am_iconst (v := 0) (by decide) dX0_goneBehind_5 ?_
    refine am_iret rfl dX0_goneBehind_6 ?_
    refine am_isE ?_
    unfold sp_gone
    first | rw [if_pos h2, if_pos h29] | rw [if_pos h2, if_neg h29] | rw [if_neg h2]
set_option maxRecDepth 100000 in
set_option maxHeartbeats 400000 in
theorem c_X0_follow_18 (ad : Nat → Nat) (M : am_M) (n m : Int32) (s : Bool) (hn : n.toInt ≤ 1000000000) : am_C ydX0_follow ad am_II [.ref (ad 18), .int n, .int m, .int (bI s)] M (am_un (sp_follow M 18 n m s)) := by
  refine am_ofW (by decide +kernel) (by simp [Value.category]) (Nat.le_of_ble_eq_true rfl) rfl ?_
  refine am_aload_n rfl dX0_follow_0 ?_
  refine am_iload_n rfl dX0_follow_1 ?_
  refine am_iload_n rfl dX0_follow_2 ?_
  refine am_callVi (c_X0_goneBehind_18 ad M _ _ hn) okX0_goneBehind ml_X0_29 (by decide) rfl rfl rfl ⟨by decide, by decide⟩ (Nat.le_of_ble_eq_true rfl) rfl dX0_follow_3 ?_
  refine am_istore (by decide) dX0_follow_6 ?_
  refine am_aload_n rfl dX0_follow_8 ?_
  refine am_dup rfl dX0_follow_9 ?_
  refine am_geti (j := 0) (by decide) rfl rfl rfl hTX0 (by decide) fl_X0_7 dX0_follow_10 ?_
  refine am_iload rfl dX0_follow_13 ?_
  refine am_aload_n rfl dX0_follow_15 ?_
  refine am_geti (j := 5) (by decide) rfl rfl rfl hTX0 (by decide) fl_X0_26 dX0_follow_16 ?_
  refine am_isub dX0_follow_19 ?_
  refine am_iadd dX0_follow_20 ?_
  refine am_puti (j := 0) (by decide) rfl rfl rfl hTX0 tyX0_ok nmX0 (by decide) fl_X0_7 rfl rfl rfl rfl dX0_follow_21 ?_
  refine am_iload_n rfl dX0_follow_24 ?_
  refine am_if_eq (tgt := 44) (by decide) dX0_follow_25 (fun h25 => ?_) (fun h25 => ?_)
  · refine am_aload_n rfl dX0_follow_44 ?_
    refine am_iload rfl dX0_follow_45 ?_
    refine am_puti (j := 5) (by decide) rfl rfl rfl hTX0 tyX0_ok nmX0 (by decide) fl_X0_26 rfl rfl rfl rfl dX0_follow_47 ?_
    refine am_vret rfl dX0_follow_50 ?_
    refine ⟨rfl, ?_⟩
    simp_all [sp_follow, am_rd, bI_0]
  · refine am_aload_n rfl dX0_follow_28 ?_
    refine am_dup rfl dX0_follow_29 ?_
    refine am_geti (j := 1) (by decide) rfl rfl rfl hTX0 (by decide) fl_X0_13 dX0_follow_30 ?_
    refine am_iload rfl dX0_follow_33 ?_
    refine am_aload_n rfl dX0_follow_35 ?_
    refine am_geti (j := 5) (by decide) rfl rfl rfl hTX0 (by decide) fl_X0_26 dX0_follow_36 ?_
    refine am_isub dX0_follow_39 ?_
    refine am_iadd dX0_follow_40 ?_
    refine am_puti (j := 1) (by decide) rfl rfl rfl hTX0 tyX0_ok nmX0 (by decide) fl_X0_13 rfl rfl rfl rfl dX0_follow_41 ?_
    refine am_aload_n rfl dX0_follow_44 ?_
    refine am_iload rfl dX0_follow_45 ?_
    refine am_puti (j := 5) (by decide) rfl rfl rfl hTX0 tyX0_ok nmX0 (by decide) fl_X0_26 rfl rfl rfl rfl dX0_follow_47 ?_
    refine am_vret rfl dX0_follow_50 ?_
    refine ⟨rfl, ?_⟩
    simp_all [sp_follow, am_rd, bI_0]
set_option maxRecDepth 100000 in
set_option maxHeartbeats 400000 in
theorem c_X0_putSwitch_18 (ad : Nat → Nat) (M : am_M) (s : Int32) : am_C ydX0_putSwitch ad am_II [.ref (ad 18), .int s] M (am_un (sp_putSw M 18 s)) := by
  refine am_ofW (by decide +kernel) (by simp [Value.category]) (Nat.le_of_ble_eq_true rfl) rfl ?_
  refine am_aload_n rfl dX0_putSwitch_0 ?_
  refine am_iload_n rfl dX0_putSwitch_1 ?_
  refine am_puti (j := 3) (by decide) rfl rfl rfl hTX0 tyX0_ok nmX0 (by decide) fl_X0_20 rfl rfl rfl rfl dX0_putSwitch_2 ?_
  refine am_aload_n rfl dX0_putSwitch_5 ?_
  refine am_iconst (v := 1) (by decide) dX0_putSwitch_6 ?_
  refine am_puti (j := 2) (by decide) rfl rfl rfl hTX0 tyX0_ok nmX0 (by decide) fl_X0_16 rfl rfl (by first | exact am_nb _ | decide) (by first | exact am_fb _ | decide) dX0_putSwitch_7 ?_
  refine am_vret rfl dX0_putSwitch_10 ?_
  exact ⟨rfl, rfl⟩
set_option maxRecDepth 100000 in
set_option maxHeartbeats 400000 in
theorem c_X0_isOn_18 (ad : Nat → Nat) (M : am_M)  : am_C ydX0_isOn ad am_II [.ref (ad 18)] M (am_is (bI (sp_on M 18)) M) := by
  refine am_ofW (by decide +kernel) (by simp [Value.category]) (Nat.le_of_ble_eq_true rfl) rfl ?_
  refine am_aload_n rfl dX0_isOn_0 ?_
  refine am_geti (j := 1) (by decide) rfl rfl rfl hTX0 (by decide) fl_X0_13 dX0_isOn_1 ?_
  refine am_aload_n rfl dX0_isOn_4 ?_
  refine am_geti (j := 3) (by decide) rfl rfl rfl hTX0 (by decide) fl_X0_20 dX0_isOn_5 ?_
  refine am_icmp_lt (tgt := 15) (by decide) dX0_isOn_8 (fun h8 => ?_) (fun h8 => ?_)
  · refine am_iconst (v := 0) (by decide) dX0_isOn_15 ?_
    refine am_zret rfl (by first | exact am_nb _ | decide) dX0_isOn_16 ?_
    refine am_isF ?_
    simp only [sp_on, decide_eq_true_eq, decide_eq_false_iff_not, Bool.and_eq_true, Bool.or_eq_true, Bool.not_eq_true', Bool.and_eq_false_iff, bI_0] at *
    first | (simp_all; done) | (simp only [Int32.le_iff_toInt_le, Int32.lt_iff_toInt_lt, ← Int32.toInt_inj, Int32.toInt_zero, kI_1, kI_2, kI_3, kI_4, kI_5, kI_6, kI_7, kI_8, kI_9, kI_10, kI_12, kI_13, kI_31, kI_100, kI_200, kI_201, kI_400, kI_1000, kI_2000, kI_1000000, kI_m1, kI_m4, kI_m200, kI_m2000] at *; omega)
  · refine am_iconst (v := 1) (by decide) dX0_isOn_11 ?_
    refine am_goto (tgt := 16) (by decide) dX0_isOn_12 ?_
    refine am_zret rfl (by first | exact am_nb _ | decide) dX0_isOn_16 ?_
    refine am_isT ?_
    simp only [sp_on, decide_eq_true_eq, decide_eq_false_iff_not, Bool.and_eq_true, Bool.or_eq_true, Bool.not_eq_true', Bool.and_eq_false_iff, bI_0] at *
    first | (simp_all; done) | (simp only [Int32.le_iff_toInt_le, Int32.lt_iff_toInt_lt, ← Int32.toInt_inj, Int32.toInt_zero, kI_1, kI_2, kI_3, kI_4, kI_5, kI_6, kI_7, kI_8, kI_9, kI_10, kI_12, kI_13, kI_31, kI_100, kI_200, kI_201, kI_400, kI_1000, kI_2000, kI_1000000, kI_m1, kI_m4, kI_m200, kI_m2000] at *; omega)
set_option maxRecDepth 100000 in
set_option maxHeartbeats 400000 in
theorem c_X0_findSwitch_18 (ad : Nat → Nat) (M : am_M)  : am_C ydX0_findSwitch ad am_II [.ref (ad 18)] M (am_is (sp_made M 18) (sp_find M 18)) := by
  refine am_ofW (by decide +kernel) (by simp [Value.category]) (Nat.le_of_ble_eq_true rfl) rfl ?_
  refine am_aload_n rfl dX0_findSwitch_0 ?_
  refine am_callVi (c_X0_isOn_18 ad M) okX0_isOn ml_X0_39 (by decide) rfl rfl rfl ⟨by decide, by decide⟩ (Nat.le_of_ble_eq_true rfl) rfl dX0_findSwitch_1 ?_
  refine am_ifb_eq (tgt := 23) (by decide) dX0_findSwitch_4 (fun h4 => ?_) (fun h4 => ?_)
  · refine am_aload_n rfl dX0_findSwitch_23 ?_
    refine am_geti (j := 3) (by decide) rfl rfl rfl hTX0 (by decide) fl_X0_20 dX0_findSwitch_24 ?_
    refine am_aload_n rfl dX0_findSwitch_27 ?_
    refine am_geti (j := 1) (by decide) rfl rfl rfl hTX0 (by decide) fl_X0_13 dX0_findSwitch_28 ?_
    refine am_isub dX0_findSwitch_31 ?_
    refine am_istore_n (by decide) dX0_findSwitch_32 ?_
    refine am_aload_n rfl dX0_findSwitch_33 ?_
    refine am_aload_n rfl dX0_findSwitch_34 ?_
    refine am_geti (j := 3) (by decide) rfl rfl rfl hTX0 (by decide) fl_X0_20 dX0_findSwitch_35 ?_
    refine am_puti (j := 1) (by decide) rfl rfl rfl hTX0 tyX0_ok nmX0 (by decide) fl_X0_13 rfl rfl rfl rfl dX0_findSwitch_38 ?_
    refine am_aload_n rfl dX0_findSwitch_41 ?_
    refine am_iconst (v := 0) (by decide) dX0_findSwitch_42 ?_
    refine am_puti (j := 0) (by decide) rfl rfl rfl hTX0 tyX0_ok nmX0 (by decide) fl_X0_7 rfl rfl rfl rfl dX0_findSwitch_43 ?_
    refine am_iload_n rfl dX0_findSwitch_46 ?_
    refine am_iret rfl dX0_findSwitch_47 ?_
    refine ⟨?_, rfl⟩
    simp_all [sp_made]
  · refine am_aload_n rfl dX0_findSwitch_7 ?_
    refine am_geti (j := 1) (by decide) rfl rfl rfl hTX0 (by decide) fl_X0_13 dX0_findSwitch_8 ?_
    refine am_aload_n rfl dX0_findSwitch_11 ?_
    refine am_geti (j := 3) (by decide) rfl rfl rfl hTX0 (by decide) fl_X0_20 dX0_findSwitch_12 ?_
    refine am_iconst (v := 1) (by decide) dX0_findSwitch_15 ?_
    refine am_isub dX0_findSwitch_16 ?_
    refine am_isub dX0_findSwitch_17 ?_
    refine am_iconst (v := 1) (by decide) dX0_findSwitch_18 ?_
    refine am_iadd dX0_findSwitch_19 ?_
    refine am_goto (tgt := 32) (by decide) dX0_findSwitch_20 ?_
    refine am_istore_n (by decide) dX0_findSwitch_32 ?_
    refine am_aload_n rfl dX0_findSwitch_33 ?_
    refine am_aload_n rfl dX0_findSwitch_34 ?_
    refine am_geti (j := 3) (by decide) rfl rfl rfl hTX0 (by decide) fl_X0_20 dX0_findSwitch_35 ?_
    refine am_puti (j := 1) (by decide) rfl rfl rfl hTX0 tyX0_ok nmX0 (by decide) fl_X0_13 rfl rfl rfl rfl dX0_findSwitch_38 ?_
    refine am_aload_n rfl dX0_findSwitch_41 ?_
    refine am_iconst (v := 0) (by decide) dX0_findSwitch_42 ?_
    refine am_puti (j := 0) (by decide) rfl rfl rfl hTX0 tyX0_ok nmX0 (by decide) fl_X0_7 rfl rfl rfl rfl dX0_findSwitch_43 ?_
    refine am_iload_n rfl dX0_findSwitch_46 ?_
    refine am_iret rfl dX0_findSwitch_47 ?_
    refine ⟨?_, rfl⟩
    simp_all [sp_made]
end
section
def sp_k (k : Nat) : Prop := k = 1 ∨ k = 2 ∨ k = 4 ∨ k = 8
theorem sp_k8 {k : Nat} (h : sp_k k) : 1 ≤ k ∧ k ≤ 8 := by unfold sp_k at h; omega
def sp_lv (k : Nat) (l : Int32) (q : Nat) : Int32 := l * (nI k - nI q) / nI k
def sp_layJ (M : am_M) (k : Nat) (l : Int32) (j : Nat) : am_M := am_row (am_put (am_put M 19 0 (nI k)) 19 1 l) 20 (fun q => if q < j then sp_lv k l q else M 20 q)
def sp_lay (M : am_M) (k : Nat) (l : Int32) : am_M := sp_layJ M k l (k + 1)
theorem sp_layJ_0 (M : am_M) (k : Nat) (l : Int32) : am_put (am_put M 19 0 (nI k)) 19 1 l = sp_layJ M k l 0 := by
  funext a
  unfold sp_layJ am_row
  by_cases h : a = 20
  · subst h
    simp [am_put]
  · simp [h]
theorem sp_layJ_s (M : am_M) (k : Nat) (l : Int32) (j : Nat) (hj : j < 2147483648) : am_put (sp_layJ M k l j) 20 (nI j).toNatClampNeg (sp_lv k l j) = sp_layJ M k l (j + 1) := by
  unfold sp_layJ
  rw [am_put_row, nI_clamp hj]
  congr 1
  funext q
  unfold upd
  by_cases h : q = j
  · subst h
    simp
  · rw [if_neg h]
    dsimp only
    by_cases h2 : q < j
    · rw [if_pos h2, if_pos (by omega)]
    · rw [if_neg h2, if_neg (by omega)]
theorem nI_nz {k : Nat} (h1 : 1 ≤ k) (h2 : k ≤ 8) : ¬ nI k = 0 := nI_ne0 (by omega) (by omega)
set_option maxRecDepth 100000 in
set_option maxHeartbeats 400000 in
theorem lp_X1_lay (ad : Nat → Nat) (I : List Nat) (h19 : 19 ∈ I) (h20 : 20 ∈ I) (M : am_M) (k : Nat) (hk : 1 ≤ k ∧ k ≤ 8) (l : Int32) : ∀ (n j : Nat), j ≤ k + 1 → k + 1 - j < n → am_W ydX1_lay ad I (am_un (sp_lay M k l)) 12 [some (.ref (ad 19)), some (.int (nI k)), some (.int l), some (.int (nI j))] [] (sp_layJ M k l j) := by
  intro n
  induction n with
  | zero => intro j _ h; omega
  | succ n ih =>
    intro j hj hn
    refine am_iload_n rfl dX1_lay_12 ?_
    refine am_iload_n rfl dX1_lay_13 ?_
    refine am_icmp_gt (tgt := 49) (by decide) dX1_lay_14 (fun h14 => ?_) (fun h14 => ?_)
    · refine am_vret rfl dX1_lay_49 ?_
      first | (exfalso; simp only [nI_e, Int32.lt_iff_toInt_lt, Int32.le_iff_toInt_le, Int32.toInt_zero, kI_9] at *; omega) | (obtain rfl : j = k + 1 := (by simp only [nI_e, Int32.lt_iff_toInt_lt] at *; omega); exact ⟨rfl, rfl⟩)
    · refine am_iload_n rfl dX1_lay_17 ?_
      refine am_aload_n rfl dX1_lay_18 ?_
      refine am_getr (j := 2) (by assumption) rfl rfl rfl hTX1 (by decide) fl_X1_18 dX1_lay_19 ?_
      refine am_alen (v := 9) (by assumption) rfl (by decide) dX1_lay_22 ?_
      refine am_icmp_ge (tgt := 49) (by decide) dX1_lay_23 (fun h23 => ?_) (fun h23 => ?_)
      · refine am_vret rfl dX1_lay_49 ?_
        first | (exfalso; simp only [nI_e, Int32.lt_iff_toInt_lt, Int32.le_iff_toInt_le, Int32.toInt_zero, kI_9] at *; omega) | (obtain rfl : j = k + 1 := (by simp only [nI_e, Int32.lt_iff_toInt_lt] at *; omega); exact ⟨rfl, rfl⟩)
      · refine am_iload_n rfl dX1_lay_26 ?_
        refine am_if_le (tgt := 49) (by decide) dX1_lay_27 (fun h27 => ?_) (fun h27 => ?_)
        · refine am_vret rfl dX1_lay_49 ?_
          first | (exfalso; simp only [nI_e, Int32.lt_iff_toInt_lt, Int32.le_iff_toInt_le, Int32.toInt_zero, kI_9] at *; omega) | (obtain rfl : j = k + 1 := (by simp only [nI_e, Int32.lt_iff_toInt_lt] at *; omega); exact ⟨rfl, rfl⟩)
        · refine am_aload_n rfl dX1_lay_30 ?_
          refine am_getr (j := 2) (by assumption) rfl rfl rfl hTX1 (by decide) fl_X1_18 dX1_lay_31 ?_
          refine am_iload_n rfl dX1_lay_34 ?_
          refine am_iload_n rfl dX1_lay_35 ?_
          refine am_iload_n rfl dX1_lay_36 ?_
          refine am_iload_n rfl dX1_lay_37 ?_
          refine am_isub dX1_lay_38 ?_
          refine am_imul dX1_lay_39 ?_
          refine am_iload_n rfl dX1_lay_40 ?_
          refine am_idiv (nI_nz hk.1 hk.2) dX1_lay_41 ?_
          refine am_iast (by assumption) rfl (am_vpI (by simp only [nI_e, Int32.lt_iff_toInt_lt] at *; omega) (by simp only [nI_e, Int32.lt_iff_toInt_lt] at *; omega)) dX1_lay_42 ?_
          refine am_iinc (v := nI (j + 1)) rfl (nI_inc j) (by decide) dX1_lay_43 ?_
          refine am_goto (tgt := 12) (by decide) dX1_lay_46 ?_
          exact am_M_eq (sp_layJ_s M k l j (by omega)) (ih (j + 1) (by simp only [nI_leI, nI_ltI, nI_e, Int32.lt_iff_toInt_lt] at *; omega) (by simp only [nI_e, Int32.lt_iff_toInt_lt] at *; omega))
set_option maxRecDepth 100000 in
set_option maxHeartbeats 400000 in
theorem c_X1_lay (ad : Nat → Nat) (I : List Nat) (h19 : 19 ∈ I) (h20 : 20 ∈ I) (M : am_M) (k : Nat) (hk : sp_k k) (l : Int32) : am_C ydX1_lay ad I [.ref (ad 19), .int (nI k), .int l] M (am_un (sp_lay M k l)) := by
  refine am_ofW (by decide +kernel) (by simp [Value.category]) (Nat.le_of_ble_eq_true rfl) rfl ?_
  refine am_aload_n rfl dX1_lay_0 ?_
  refine am_iload_n rfl dX1_lay_1 ?_
  refine am_puti (j := 0) (by assumption) rfl rfl rfl hTX1 tyX1_ok nmX1 (by decide) fl_X1_9 rfl rfl rfl rfl dX1_lay_2 ?_
  refine am_aload_n rfl dX1_lay_5 ?_
  refine am_iload_n rfl dX1_lay_6 ?_
  refine am_puti (j := 1) (by assumption) rfl rfl rfl hTX1 tyX1_ok nmX1 (by decide) fl_X1_15 rfl rfl rfl rfl dX1_lay_7 ?_
  refine am_iconst (v := 0) (by decide) dX1_lay_10 ?_
  refine am_istore_n (by decide) dX1_lay_11 ?_
  exact am_M_eq (sp_layJ_0 M k l) (lp_X1_lay ad I h19 h20 M k (sp_k8 hk) l (k + 2) 0 (by omega) (by omega))
def sp_put (M : am_M) (p a : Int32) : am_M := if sp_in p 0 8 = true then am_put M 20 p.toNatClampNeg a else M
def sp_at (M : am_M) (p : Int32) : Int32 := if sp_in p 0 8 = true then M 20 p.toNatClampNeg else 0
theorem am_vp9 {v : Int32} (h : sp_in v 0 8 = true) : vp_in v 9 := by
  simp only [sp_in, decide_eq_true_eq, Int32.le_iff_toInt_le, Int32.toInt_zero, kI_8] at h
  exact am_vpI h.1 (by omega)
def sp_rem (M : am_M) (p : Int32) : Int32 := if 1 ≤ M 19 0 then p - p / M 19 0 * M 19 0 else 0
def sp_quart (M : am_M) (p : Int32) : Int32 := if 1 ≤ M 19 0 then p / M 19 0 - p / M 19 0 / 4 * 4 else 0
theorem am_nz1 {x : Int32} (h : 1 ≤ x) : ¬ x = 0 := by
  intro e
  subst e
  revert h
  decide
def sp_first (M : am_M) (p : Int32) : Int32 := if sp_quart M p = 0 then sp_at M (sp_rem M p) else if sp_quart M p = 1 then -sp_at M (M 19 0 - sp_rem M p) else if sp_quart M p = 2 then -sp_at M (sp_rem M p) else sp_at M (M 19 0 - sp_rem M p)
def sp_second (M : am_M) (p : Int32) : Int32 := if sp_quart M p = 0 then sp_at M (M 19 0 - sp_rem M p) else if sp_quart M p = 1 then sp_at M (sp_rem M p) else if sp_quart M p = 2 then -sp_at M (M 19 0 - sp_rem M p) else -sp_at M (sp_rem M p)
def sp_pair (M : am_M) (x y : Int32) : Int32 := iabs (x * x + y * y - M 19 1 * M 19 1)
def sp_miss (M : am_M) (p : Int32) : Int32 := sp_pair M (sp_at M p) (sp_at M (M 19 0 - p))
def sp_apart (M : am_M) (p x y : Int32) : Int32 := iabs (x * p - y * (M 19 0 - p))
def sp_gm (f : Nat → Int32) : Nat → Int32
  | 0 => 0
  | j + 1 => imax (sp_gm f j) (f j)
def sp_even (M : am_M) : Int32 := sp_gm (fun p => sp_miss M (nI p)) ((M 19 0).toInt + 1).toNat
set_option maxRecDepth 100000 in
set_option maxHeartbeats 400000 in
theorem c_X1_put (ad : Nat → Nat) (M : am_M) (p a : Int32) : am_C ydX1_put ad am_II [.ref (ad 19), .int p, .int a] M (am_un (sp_put M p a)) := by
  refine am_ofW (by decide +kernel) (by simp [Value.category]) (Nat.le_of_ble_eq_true rfl) rfl ?_
  refine am_iload_n rfl dX1_put_0 ?_
  refine am_iconst (v := 0) (by decide) dX1_put_1 ?_
  refine am_bipush (v := 8) (by decide) dX1_put_2 ?_
  refine am_callNi (c_X6_isWithin ad _ _ _ _) okX6_isWithin ml_X1_26 rfl ⟨by decide, by decide⟩ (Nat.le_of_ble_eq_true rfl) rfl dX1_put_4 ?_
  refine am_ifb_eq (tgt := 17) (by decide) dX1_put_7 (fun h7 => ?_) (fun h7 => ?_)
  · refine am_vret rfl dX1_put_17 ?_
    exact ⟨rfl, by simp_all [sp_put]⟩
  · refine am_aload_n rfl dX1_put_10 ?_
    refine am_getr (j := 2) (by decide) rfl rfl rfl hTX1 (by decide) fl_X1_18 dX1_put_11 ?_
    refine am_iload_n rfl dX1_put_14 ?_
    refine am_iload_n rfl dX1_put_15 ?_
    refine am_iast (by decide) rfl (am_vp9 (by assumption)) dX1_put_16 ?_
    refine am_vret rfl dX1_put_17 ?_
    exact ⟨rfl, by simp_all [sp_put]⟩
set_option maxRecDepth 100000 in
set_option maxHeartbeats 400000 in
theorem c_X1_numberAt (ad : Nat → Nat) (M : am_M) (p : Int32) : am_C ydX1_numberAt ad am_II [.ref (ad 19), .int p] M (am_is (sp_at M p) M) := by
  refine am_ofW (by decide +kernel) (by simp [Value.category]) (Nat.le_of_ble_eq_true rfl) rfl ?_
  refine am_iload_n rfl dX1_numberAt_0 ?_
  refine am_iconst (v := 0) (by decide) dX1_numberAt_1 ?_
  refine am_bipush (v := 8) (by decide) dX1_numberAt_2 ?_
  refine am_callNi (c_X6_isWithin ad _ _ _ _) okX6_isWithin ml_X1_26 rfl ⟨by decide, by decide⟩ (Nat.le_of_ble_eq_true rfl) rfl dX1_numberAt_4 ?_
  refine am_ifb_eq (tgt := 19) (by decide) dX1_numberAt_7 (fun h7 => ?_) (fun h7 => ?_)
  · refine am_iconst (v := 0) (by decide) dX1_numberAt_19 ?_
    refine am_iret rfl dX1_numberAt_20 ?_
    refine am_isE ?_
    simp_all [sp_at]
  · refine am_aload_n rfl dX1_numberAt_10 ?_
    refine am_getr (j := 2) (by decide) rfl rfl rfl hTX1 (by decide) fl_X1_18 dX1_numberAt_11 ?_
    refine am_iload_n rfl dX1_numberAt_14 ?_
    refine am_iald (by decide) rfl (am_vp9 (by assumption)) dX1_numberAt_15 ?_
    refine am_goto (tgt := 20) (by decide) dX1_numberAt_16 ?_
    refine am_iret rfl dX1_numberAt_20 ?_
    refine am_isE ?_
    simp_all [sp_at]
set_option maxRecDepth 100000 in
set_option maxHeartbeats 400000 in
theorem c_X1_restOf (ad : Nat → Nat) (M : am_M) (p : Int32) : am_C ydX1_restOf ad am_II [.ref (ad 19), .int p] M (am_is (sp_rem M p) M) := by
  refine am_ofW (by decide +kernel) (by simp [Value.category]) (Nat.le_of_ble_eq_true rfl) rfl ?_
  refine am_aload_n rfl dX1_restOf_0 ?_
  refine am_geti (j := 0) (by decide) rfl rfl rfl hTX1 (by decide) fl_X1_9 dX1_restOf_1 ?_
  refine am_iconst (v := 1) (by decide) dX1_restOf_4 ?_
  refine am_icmp_ge (tgt := 12) (by decide) dX1_restOf_5 (fun h5 => ?_) (fun h5 => ?_)
  · refine am_iload_n rfl dX1_restOf_12 ?_
    refine am_aload_n rfl dX1_restOf_13 ?_
    refine am_geti (j := 0) (by decide) rfl rfl rfl hTX1 (by decide) fl_X1_9 dX1_restOf_14 ?_
    refine am_irem (am_nz1 (by assumption)) dX1_restOf_17 ?_
    refine am_iret rfl dX1_restOf_18 ?_
    refine am_isE ?_
    unfold sp_rem
    first | rw [if_pos (by assumption)] | rw [if_neg (by assumption)]
  · refine am_iconst (v := 0) (by decide) dX1_restOf_8 ?_
    refine am_goto (tgt := 18) (by decide) dX1_restOf_9 ?_
    refine am_iret rfl dX1_restOf_18 ?_
    refine am_isE ?_
    unfold sp_rem
    first | rw [if_pos (by assumption)] | rw [if_neg (by assumption)]
set_option maxRecDepth 100000 in
set_option maxHeartbeats 400000 in
theorem c_X1_quarterOf (ad : Nat → Nat) (M : am_M) (p : Int32) : am_C ydX1_quarterOf ad am_II [.ref (ad 19), .int p] M (am_is (sp_quart M p) M) := by
  refine am_ofW (by decide +kernel) (by simp [Value.category]) (Nat.le_of_ble_eq_true rfl) rfl ?_
  refine am_aload_n rfl dX1_quarterOf_0 ?_
  refine am_geti (j := 0) (by decide) rfl rfl rfl hTX1 (by decide) fl_X1_9 dX1_quarterOf_1 ?_
  refine am_iconst (v := 1) (by decide) dX1_quarterOf_4 ?_
  refine am_icmp_ge (tgt := 12) (by decide) dX1_quarterOf_5 (fun h5 => ?_) (fun h5 => ?_)
  · refine am_iload_n rfl dX1_quarterOf_12 ?_
    refine am_aload_n rfl dX1_quarterOf_13 ?_
    refine am_geti (j := 0) (by decide) rfl rfl rfl hTX1 (by decide) fl_X1_9 dX1_quarterOf_14 ?_
    refine am_idiv (am_nz1 (by assumption)) dX1_quarterOf_17 ?_
    refine am_iconst (v := 4) (by decide) dX1_quarterOf_18 ?_
    refine am_irem (by decide) dX1_quarterOf_19 ?_
    refine am_iret rfl dX1_quarterOf_20 ?_
    refine am_isE ?_
    unfold sp_quart
    first | rw [if_pos (by assumption)] | rw [if_neg (by assumption)]
  · refine am_iconst (v := 0) (by decide) dX1_quarterOf_8 ?_
    refine am_goto (tgt := 20) (by decide) dX1_quarterOf_9 ?_
    refine am_iret rfl dX1_quarterOf_20 ?_
    refine am_isE ?_
    unfold sp_quart
    first | rw [if_pos (by assumption)] | rw [if_neg (by assumption)]
set_option maxRecDepth 100000 in
set_option maxHeartbeats 400000 in
theorem c_X1_firstAt (ad : Nat → Nat) (M : am_M) (p : Int32) : am_C ydX1_firstAt ad am_II [.ref (ad 19), .int p] M (am_is (sp_first M p) M) := by
  refine am_ofW (by decide +kernel) (by simp [Value.category]) (Nat.le_of_ble_eq_true rfl) rfl ?_
  refine am_aload_n rfl dX1_firstAt_0 ?_
  refine am_iload_n rfl dX1_firstAt_1 ?_
  refine am_callVi (c_X1_restOf ad _ _) okX1_restOf ml_X1_30 (by decide) rfl rfl rfl ⟨by decide, by decide⟩ (Nat.le_of_ble_eq_true rfl) rfl dX1_firstAt_2 ?_
  refine am_istore_n (by decide) dX1_firstAt_5 ?_
  refine am_aload_n rfl dX1_firstAt_6 ?_
  refine am_iload_n rfl dX1_firstAt_7 ?_
  refine am_callVi (c_X1_quarterOf ad _ _) okX1_quarterOf ml_X1_34 (by decide) rfl rfl rfl ⟨by decide, by decide⟩ (Nat.le_of_ble_eq_true rfl) rfl dX1_firstAt_8 ?_
  by_cases h11o : (sp_quart M p).toInt < 0 ∨ 2 < (sp_quart M p).toInt
  · refine am_tabOut (tgt := 61) h11o (by decide) dX1_firstAt_11 ?_
    refine am_aload_n rfl dX1_firstAt_61 ?_
    refine am_aload_n rfl dX1_firstAt_62 ?_
    refine am_geti (j := 0) (by decide) rfl rfl rfl hTX1 (by decide) fl_X1_9 dX1_firstAt_63 ?_
    refine am_iload_n rfl dX1_firstAt_66 ?_
    refine am_isub dX1_firstAt_67 ?_
    refine am_callVi (c_X1_numberAt ad _ _) okX1_numberAt ml_X1_37 (by decide) rfl rfl rfl ⟨by decide, by decide⟩ (Nat.le_of_ble_eq_true rfl) rfl dX1_firstAt_68 ?_
    refine am_iret rfl dX1_firstAt_71 ?_
    refine am_isE ?_
    unfold sp_first
    first | (rw [h11c]; rfl) | (rw [if_neg (fun e => (by rw [e] at h11o; revert h11o; decide)), if_neg (fun e => (by rw [e] at h11o; revert h11o; decide)), if_neg (fun e => (by rw [e] at h11o; revert h11o; decide))])
  · have h11a : 0 ≤ (sp_quart M p).toInt ∧ (sp_quart M p).toInt ≤ 2 := by omega
    have h11d : (sp_quart M p) = 0 ∨ (sp_quart M p) = 1 ∨ (sp_quart M p) = 2 := by
      simp only [← Int32.toInt_inj]
      have e9 : ((0 : Int32).toInt = 0) ∧ ((1 : Int32).toInt = 1) ∧ ((2 : Int32).toInt = 2) := by decide
      omega
    rcases h11d with h11c | h11c | h11c
    · refine am_tabIn (off := 25) (tgt := 36) (by rw [h11c]; decide) (by rw [h11c]; decide) (by rw [h11c]; rfl) (by decide) dX1_firstAt_11 ?_
      refine am_aload_n rfl dX1_firstAt_36 ?_
      refine am_iload_n rfl dX1_firstAt_37 ?_
      refine am_callVi (c_X1_numberAt ad _ _) okX1_numberAt ml_X1_37 (by decide) rfl rfl rfl ⟨by decide, by decide⟩ (Nat.le_of_ble_eq_true rfl) rfl dX1_firstAt_38 ?_
      refine am_iret rfl dX1_firstAt_41 ?_
      refine am_isE ?_
      unfold sp_first
      first | (rw [h11c]; rfl) | (rw [if_neg (fun e => (by rw [e] at h11o; revert h11o; decide)), if_neg (fun e => (by rw [e] at h11o; revert h11o; decide)), if_neg (fun e => (by rw [e] at h11o; revert h11o; decide))])
    · refine am_tabIn (off := 31) (tgt := 42) (by rw [h11c]; decide) (by rw [h11c]; decide) (by rw [h11c]; rfl) (by decide) dX1_firstAt_11 ?_
      refine am_aload_n rfl dX1_firstAt_42 ?_
      refine am_aload_n rfl dX1_firstAt_43 ?_
      refine am_geti (j := 0) (by decide) rfl rfl rfl hTX1 (by decide) fl_X1_9 dX1_firstAt_44 ?_
      refine am_iload_n rfl dX1_firstAt_47 ?_
      refine am_isub dX1_firstAt_48 ?_
      refine am_callVi (c_X1_numberAt ad _ _) okX1_numberAt ml_X1_37 (by decide) rfl rfl rfl ⟨by decide, by decide⟩ (Nat.le_of_ble_eq_true rfl) rfl dX1_firstAt_49 ?_
      refine am_ineg dX1_firstAt_52 ?_
      refine am_iret rfl dX1_firstAt_53 ?_
      refine am_isE ?_
      unfold sp_first
      first | (rw [h11c]; rfl) | (rw [if_neg (fun e => (by rw [e] at h11o; revert h11o; decide)), if_neg (fun e => (by rw [e] at h11o; revert h11o; decide)), if_neg (fun e => (by rw [e] at h11o; revert h11o; decide))])
    · refine am_tabIn (off := 43) (tgt := 54) (by rw [h11c]; decide) (by rw [h11c]; decide) (by rw [h11c]; rfl) (by decide) dX1_firstAt_11 ?_
      refine am_aload_n rfl dX1_firstAt_54 ?_
      refine am_iload_n rfl dX1_firstAt_55 ?_
      refine am_callVi (c_X1_numberAt ad _ _) okX1_numberAt ml_X1_37 (by decide) rfl rfl rfl ⟨by decide, by decide⟩ (Nat.le_of_ble_eq_true rfl) rfl dX1_firstAt_56 ?_
      refine am_ineg dX1_firstAt_59 ?_
      refine am_iret rfl dX1_firstAt_60 ?_
      refine am_isE ?_
      unfold sp_first
      first | (rw [h11c]; rfl) | (rw [if_neg (fun e => (by rw [e] at h11o; revert h11o; decide)), if_neg (fun e => (by rw [e] at h11o; revert h11o; decide)), if_neg (fun e => (by rw [e] at h11o; revert h11o; decide))])
set_option maxRecDepth 100000 in
set_option maxHeartbeats 400000 in
theorem c_X1_secondAt (ad : Nat → Nat) (M : am_M) (p : Int32) : am_C ydX1_secondAt ad am_II [.ref (ad 19), .int p] M (am_is (sp_second M p) M) := by
  refine am_ofW (by decide +kernel) (by simp [Value.category]) (Nat.le_of_ble_eq_true rfl) rfl ?_
  refine am_aload_n rfl dX1_secondAt_0 ?_
  refine am_iload_n rfl dX1_secondAt_1 ?_
  refine am_callVi (c_X1_restOf ad _ _) okX1_restOf ml_X1_30 (by decide) rfl rfl rfl ⟨by decide, by decide⟩ (Nat.le_of_ble_eq_true rfl) rfl dX1_secondAt_2 ?_
  refine am_istore_n (by decide) dX1_secondAt_5 ?_
  refine am_aload_n rfl dX1_secondAt_6 ?_
  refine am_iload_n rfl dX1_secondAt_7 ?_
  refine am_callVi (c_X1_quarterOf ad _ _) okX1_quarterOf ml_X1_34 (by decide) rfl rfl rfl ⟨by decide, by decide⟩ (Nat.le_of_ble_eq_true rfl) rfl dX1_secondAt_8 ?_
  by_cases h11o : (sp_quart M p).toInt < 0 ∨ 2 < (sp_quart M p).toInt
  · refine am_tabOut (tgt := 65) h11o (by decide) dX1_secondAt_11 ?_
    refine am_aload_n rfl dX1_secondAt_65 ?_
    refine am_iload_n rfl dX1_secondAt_66 ?_
    refine am_callVi (c_X1_numberAt ad _ _) okX1_numberAt ml_X1_37 (by decide) rfl rfl rfl ⟨by decide, by decide⟩ (Nat.le_of_ble_eq_true rfl) rfl dX1_secondAt_67 ?_
    refine am_ineg dX1_secondAt_70 ?_
    refine am_iret rfl dX1_secondAt_71 ?_
    refine am_isE ?_
    unfold sp_second
    first | (rw [h11c]; rfl) | (rw [if_neg (fun e => (by rw [e] at h11o; revert h11o; decide)), if_neg (fun e => (by rw [e] at h11o; revert h11o; decide)), if_neg (fun e => (by rw [e] at h11o; revert h11o; decide))])
  · have h11a : 0 ≤ (sp_quart M p).toInt ∧ (sp_quart M p).toInt ≤ 2 := by omega
    have h11d : (sp_quart M p) = 0 ∨ (sp_quart M p) = 1 ∨ (sp_quart M p) = 2 := by
      simp only [← Int32.toInt_inj]
      have e9 : ((0 : Int32).toInt = 0) ∧ ((1 : Int32).toInt = 1) ∧ ((2 : Int32).toInt = 2) := by decide
      omega
    rcases h11d with h11c | h11c | h11c
    · refine am_tabIn (off := 25) (tgt := 36) (by rw [h11c]; decide) (by rw [h11c]; decide) (by rw [h11c]; rfl) (by decide) dX1_secondAt_11 ?_
      refine am_aload_n rfl dX1_secondAt_36 ?_
      refine am_aload_n rfl dX1_secondAt_37 ?_
      refine am_geti (j := 0) (by decide) rfl rfl rfl hTX1 (by decide) fl_X1_9 dX1_secondAt_38 ?_
      refine am_iload_n rfl dX1_secondAt_41 ?_
      refine am_isub dX1_secondAt_42 ?_
      refine am_callVi (c_X1_numberAt ad _ _) okX1_numberAt ml_X1_37 (by decide) rfl rfl rfl ⟨by decide, by decide⟩ (Nat.le_of_ble_eq_true rfl) rfl dX1_secondAt_43 ?_
      refine am_iret rfl dX1_secondAt_46 ?_
      refine am_isE ?_
      unfold sp_second
      first | (rw [h11c]; rfl) | (rw [if_neg (fun e => (by rw [e] at h11o; revert h11o; decide)), if_neg (fun e => (by rw [e] at h11o; revert h11o; decide)), if_neg (fun e => (by rw [e] at h11o; revert h11o; decide))])
    · refine am_tabIn (off := 36) (tgt := 47) (by rw [h11c]; decide) (by rw [h11c]; decide) (by rw [h11c]; rfl) (by decide) dX1_secondAt_11 ?_
      refine am_aload_n rfl dX1_secondAt_47 ?_
      refine am_iload_n rfl dX1_secondAt_48 ?_
      refine am_callVi (c_X1_numberAt ad _ _) okX1_numberAt ml_X1_37 (by decide) rfl rfl rfl ⟨by decide, by decide⟩ (Nat.le_of_ble_eq_true rfl) rfl dX1_secondAt_49 ?_
      refine am_iret rfl dX1_secondAt_52 ?_
      refine am_isE ?_
      unfold sp_second
      first | (rw [h11c]; rfl) | (rw [if_neg (fun e => (by rw [e] at h11o; revert h11o; decide)), if_neg (fun e => (by rw [e] at h11o; revert h11o; decide)), if_neg (fun e => (by rw [e] at h11o; revert h11o; decide))])
    · refine am_tabIn (off := 42) (tgt := 53) (by rw [h11c]; decide) (by rw [h11c]; decide) (by rw [h11c]; rfl) (by decide) dX1_secondAt_11 ?_
      refine am_aload_n rfl dX1_secondAt_53 ?_
      refine am_aload_n rfl dX1_secondAt_54 ?_
      refine am_geti (j := 0) (by decide) rfl rfl rfl hTX1 (by decide) fl_X1_9 dX1_secondAt_55 ?_
      refine am_iload_n rfl dX1_secondAt_58 ?_
      refine am_isub dX1_secondAt_59 ?_
      refine am_callVi (c_X1_numberAt ad _ _) okX1_numberAt ml_X1_37 (by decide) rfl rfl rfl ⟨by decide, by decide⟩ (Nat.le_of_ble_eq_true rfl) rfl dX1_secondAt_60 ?_
      refine am_ineg dX1_secondAt_63 ?_
      refine am_iret rfl dX1_secondAt_64 ?_
      refine am_isE ?_
      unfold sp_second
      first | (rw [h11c]; rfl) | (rw [if_neg (fun e => (by rw [e] at h11o; revert h11o; decide)), if_neg (fun e => (by rw [e] at h11o; revert h11o; decide)), if_neg (fun e => (by rw [e] at h11o; revert h11o; decide))])
set_option maxRecDepth 100000 in
set_option maxHeartbeats 400000 in
theorem c_X1_missOfPair (ad : Nat → Nat) (M : am_M) (x y : Int32) : am_C ydX1_missOfPair ad am_II [.ref (ad 19), .int x, .int y] M (am_is (sp_pair M x y) M) := by
  refine am_ofW (by decide +kernel) (by simp [Value.category]) (Nat.le_of_ble_eq_true rfl) rfl ?_
  refine am_iload_n rfl dX1_missOfPair_0 ?_
  refine am_iload_n rfl dX1_missOfPair_1 ?_
  refine am_imul dX1_missOfPair_2 ?_
  refine am_iload_n rfl dX1_missOfPair_3 ?_
  refine am_iload_n rfl dX1_missOfPair_4 ?_
  refine am_imul dX1_missOfPair_5 ?_
  refine am_iadd dX1_missOfPair_6 ?_
  refine am_aload_n rfl dX1_missOfPair_7 ?_
  refine am_geti (j := 1) (by decide) rfl rfl rfl hTX1 (by decide) fl_X1_15 dX1_missOfPair_8 ?_
  refine am_aload_n rfl dX1_missOfPair_11 ?_
  refine am_geti (j := 1) (by decide) rfl rfl rfl hTX1 (by decide) fl_X1_15 dX1_missOfPair_12 ?_
  refine am_imul dX1_missOfPair_15 ?_
  refine am_isub dX1_missOfPair_16 ?_
  refine am_mabsI ml_X1_40 (by decide) (Nat.le_of_ble_eq_true rfl) dX1_missOfPair_17 ?_
  refine am_iret rfl dX1_missOfPair_20 ?_
  exact ⟨rfl, rfl⟩
set_option maxRecDepth 100000 in
set_option maxHeartbeats 400000 in
theorem c_X1_missOf (ad : Nat → Nat) (M : am_M) (p : Int32) : am_C ydX1_missOf ad am_II [.ref (ad 19), .int p] M (am_is (sp_miss M p) M) := by
  refine am_ofW (by decide +kernel) (by simp [Value.category]) (Nat.le_of_ble_eq_true rfl) rfl ?_
  refine am_aload_n rfl dX1_missOf_0 ?_
  refine am_aload_n rfl dX1_missOf_1 ?_
  refine am_iload_n rfl dX1_missOf_2 ?_
  refine am_callVi (c_X1_numberAt ad _ _) okX1_numberAt ml_X1_37 (by decide) rfl rfl rfl ⟨by decide, by decide⟩ (Nat.le_of_ble_eq_true rfl) rfl dX1_missOf_3 ?_
  refine am_aload_n rfl dX1_missOf_6 ?_
  refine am_aload_n rfl dX1_missOf_7 ?_
  refine am_geti (j := 0) (by decide) rfl rfl rfl hTX1 (by decide) fl_X1_9 dX1_missOf_8 ?_
  refine am_iload_n rfl dX1_missOf_11 ?_
  refine am_isub dX1_missOf_12 ?_
  refine am_callVi (c_X1_numberAt ad _ _) okX1_numberAt ml_X1_37 (by decide) rfl rfl rfl ⟨by decide, by decide⟩ (Nat.le_of_ble_eq_true rfl) rfl dX1_missOf_13 ?_
  refine am_callVi (c_X1_missOfPair ad _ _ _) okX1_missOfPair ml_X1_45 (by decide) rfl rfl rfl ⟨by decide, by decide⟩ (Nat.le_of_ble_eq_true rfl) rfl dX1_missOf_16 ?_
  refine am_iret rfl dX1_missOf_19 ?_
  exact ⟨rfl, rfl⟩
set_option maxRecDepth 100000 in
set_option maxHeartbeats 400000 in
theorem c_X1_apart (ad : Nat → Nat) (M : am_M) (p x y : Int32) : am_C ydX1_apart ad am_II [.ref (ad 19), .int p, .int x, .int y] M (am_is (sp_apart M p x y) M) := by
  refine am_ofW (by decide +kernel) (by simp [Value.category]) (Nat.le_of_ble_eq_true rfl) rfl ?_
  refine am_iload_n rfl dX1_apart_0 ?_
  refine am_iload_n rfl dX1_apart_1 ?_
  refine am_imul dX1_apart_2 ?_
  refine am_iload_n rfl dX1_apart_3 ?_
  refine am_aload_n rfl dX1_apart_4 ?_
  refine am_geti (j := 0) (by decide) rfl rfl rfl hTX1 (by decide) fl_X1_9 dX1_apart_5 ?_
  refine am_iload_n rfl dX1_apart_8 ?_
  refine am_isub dX1_apart_9 ?_
  refine am_imul dX1_apart_10 ?_
  refine am_isub dX1_apart_11 ?_
  refine am_mabsI ml_X1_40 (by decide) (Nat.le_of_ble_eq_true rfl) dX1_apart_12 ?_
  refine am_iret rfl dX1_apart_15 ?_
  exact ⟨rfl, rfl⟩
set_option maxRecDepth 100000 in
set_option maxHeartbeats 400000 in
theorem lp_X1_greatestMiss (ad : Nat → Nat) (M : am_M) (hp : 0 ≤ (M 19 0).toInt ∧ (M 19 0).toInt ≤ 8) : ∀ (n j : Nat), (j : Int) ≤ (M 19 0).toInt + 1 → (M 19 0).toInt + 1 - j < n → am_W ydX1_greatestMiss ad am_II (am_is (sp_even M) M) 4 [some (.ref (ad 19)), some (.int (sp_gm (fun p => sp_miss M (nI p)) j)), some (.int (nI j))] [] M := by
  intro n
  induction n with
  | zero => intro j _ h; omega
  | succ n ih =>
    intro j hj hn
    refine am_iload_n rfl dX1_greatestMiss_4 ?_
    refine am_aload_n rfl dX1_greatestMiss_5 ?_
    refine am_geti (j := 0) (by decide) rfl rfl rfl hTX1 (by decide) fl_X1_9 dX1_greatestMiss_6 ?_
    refine am_icmp_gt (tgt := 28) (by decide) dX1_greatestMiss_9 (fun h9 => ?_) (fun h9 => ?_)
    · refine am_iload_n rfl dX1_greatestMiss_28 ?_
      refine am_iret rfl dX1_greatestMiss_29 ?_
      have e9 : ((M 19 0).toInt + 1).toNat = j := by (simp only [nI_e, Int32.lt_iff_toInt_lt] at *; omega)
      refine am_isE ?_
      unfold sp_even
      rw [e9]
    · refine am_iload_n rfl dX1_greatestMiss_12 ?_
      refine am_aload_n rfl dX1_greatestMiss_13 ?_
      refine am_iload_n rfl dX1_greatestMiss_14 ?_
      refine am_callVi (c_X1_missOf ad _ _) okX1_missOf ml_X1_49 (by decide) rfl rfl rfl ⟨by decide, by decide⟩ (Nat.le_of_ble_eq_true rfl) rfl dX1_greatestMiss_15 ?_
      refine am_mmaxI ml_X1_52 (by decide) (Nat.le_of_ble_eq_true rfl) dX1_greatestMiss_18 ?_
      refine am_istore_n (by decide) dX1_greatestMiss_21 ?_
      refine am_iinc (v := nI (j + 1)) rfl (nI_inc j) (by decide) dX1_greatestMiss_22 ?_
      refine am_goto (tgt := 4) (by decide) dX1_greatestMiss_25 ?_
      exact ih (j + 1) (by simp only [nI_e, Int32.lt_iff_toInt_lt] at *; omega) (by simp only [nI_e, Int32.lt_iff_toInt_lt] at *; omega)
set_option maxRecDepth 100000 in
set_option maxHeartbeats 400000 in
theorem c_X1_greatestMiss (ad : Nat → Nat) (M : am_M)  (hp : 0 ≤ (M 19 0).toInt ∧ (M 19 0).toInt ≤ 8) : am_C ydX1_greatestMiss ad am_II [.ref (ad 19)] M (am_is (sp_even M) M) := by
  refine am_ofW (by decide +kernel) (by simp [Value.category]) (Nat.le_of_ble_eq_true rfl) rfl ?_
  refine am_iconst (v := 0) (by decide) dX1_greatestMiss_0 ?_
  refine am_istore_n (by decide) dX1_greatestMiss_1 ?_
  refine am_iconst (v := 0) (by decide) dX1_greatestMiss_2 ?_
  refine am_istore_n (by decide) dX1_greatestMiss_3 ?_
  exact lp_X1_greatestMiss ad M hp 10 0 (by omega) (by omega)
end
section
def sp_mid (M : am_M) : Nat → Int32 → Int32
  | 0, b => b
  | t + 1, b => sp_mid M t (if sp_pair M (nI t) (nI t) < sp_pair M b b then nI t else b)
def sp_middle (M : am_M) (p : Int32) : am_M := sp_put M p (sp_mid M (M 19 1).toInt.toNat (M 19 1))
def sp_ew (M : am_M) (x : Int32) : Nat → Nat → Nat
  | 0, y => y
  | n + 1, y => if sp_pair M x (nI (y + 1)) < sp_pair M x (nI y) then sp_ew M x n (y + 1) else y
def sp_y2 (M : am_M) (t y : Nat) : Nat := sp_ew M (nI t) (t - min y t) (min y t)
def sp_bet (M : am_M) (p x y bx bz : Int32) : Prop := sp_pair M x y - sp_pair M bx bz < 0 ∨ (sp_pair M x y - sp_pair M bx bz = 0 ∧ sp_apart M p x y < sp_apart M p bx bz)
noncomputable def sp_eo (M : am_M) (p : Int32) : Nat → Int32 → Int32 → Nat → Int32 × Int32
  | 0, bx, bz, _ => (bx, bz)
  | t + 1, bx, bz, y => @ite _ (sp_bet M p (nI t) (nI (sp_y2 M t y)) bx bz) (Classical.propDecidable _) (sp_eo M p t (nI t) (nI (sp_y2 M t y)) (sp_y2 M t y)) (sp_eo M p t bx bz (sp_y2 M t y))
noncomputable def sp_xy (M : am_M) (p : Int32) : Int32 × Int32 := sp_eo M p ((M 19 1).toInt.toNat + 1) (M 19 1) 0 0
noncomputable def sp_pairs (M : am_M) (p : Int32) : am_M := sp_put (sp_put M p (sp_xy M p).1) ((sp_put M p (sp_xy M p).1) 19 0 - p) (sp_xy M p).2
noncomputable def sp_evs (k : Nat) : Nat → Nat → am_M → am_M
  | 0, _, M => M
  | n + 1, p, M => sp_evs k n (p + 1) (if 2 * p = k then sp_middle M (nI p) else sp_pairs M (nI p))
noncomputable def sp_smooth (M : am_M) : am_M := sp_evs (M 19 0).toInt.toNat ((M 19 0).toInt.toNat / 2 + 1) 0 M
theorem sp_put_19 (M : am_M) (p a : Int32) : sp_put M p a 19 = M 19 := by
  unfold sp_put
  split
  · rw [am_put_ne _ _ _ _ (by decide)]
  · rfl
theorem sp_middle_19 (M : am_M) (p : Int32) : sp_middle M p 19 = M 19 := sp_put_19 _ _ _
theorem sp_pairs_19 (M : am_M) (p : Int32) : sp_pairs M p 19 = M 19 := by
  unfold sp_pairs
  rw [sp_put_19, sp_put_19]
theorem nI_dec (t : Nat) (h : t < 2147483648) : (nI t + Int32.ofInt (-1)).toInt = (t : Int) - 1 := by
  have e1 : (Int32.ofInt (-1)).toInt = -1 := by decide
  rw [i_add, nI_e, e1]
  omega
theorem am_imin (a b : Nat) (ha : a < 2147483648) (hb : b < 2147483648) : imin (nI a) (nI b) = nI (min a b) := by
  unfold imin
  by_cases h : nI b < nI a
  · have h2 : b < a := by (simp only [Int32.lt_iff_toInt_lt, nI_e] at h; omega)
    rw [if_pos h, Nat.min_eq_right (by omega)]
  · have h2 : a ≤ b := by (simp only [Int32.lt_iff_toInt_lt, nI_e] at h; omega)
    rw [if_neg h, Nat.min_eq_left h2]
theorem sp_ew_le (M : am_M) (x : Int32) : ∀ (n y : Nat), sp_ew M x n y ≤ y + n ∧ y ≤ sp_ew M x n y := by
  intro n
  induction n with
  | zero => intro y; simp [sp_ew]
  | succ n ih =>
    intro y
    simp only [sp_ew]
    split
    · have := ih (y + 1); omega
    · omega
theorem sp_y2_le (M : am_M) (t y : Nat) : sp_y2 M t y ≤ t := by
  unfold sp_y2
  have := sp_ew_le M (nI t) (t - min y t) (min y t)
  omega
set_option maxRecDepth 100000 in
set_option maxHeartbeats 400000 in
theorem lp_X1_evenMiddle (ad : Nat → Nat) (M : am_M) (p r : Int32) : ∀ (t : Nat) (b x : Int32), x.toInt = (t : Int) - 1 → t < 1000 → sp_mid M t b = r → am_W ydX1_evenMiddle ad am_II (am_un (sp_put M p r)) 12 [some (.ref (ad 19)), some (.int p), some (.int b), some (.int x)] [] M := by
  intro t
  induction t with
  | zero =>
    intro b x hx ht he
    refine am_iload_n rfl dX1_evenMiddle_12 ?_
    refine am_if_lt (tgt := 39) (by decide) dX1_evenMiddle_13 (fun h13 => ?_) (fun h13 => (by exfalso; simp only [Int32.lt_iff_toInt_lt, Int32.toInt_zero] at h13; omega))
    subst he
    refine am_aload_n rfl dX1_evenMiddle_39 ?_
    refine am_iload_n rfl dX1_evenMiddle_40 ?_
    refine am_iload_n rfl dX1_evenMiddle_41 ?_
    refine am_callVv (c_X1_put ad _ _ _) okX1_put ml_X1_62 (by decide) rfl rfl rfl ⟨by decide, by decide⟩ (Nat.le_of_ble_eq_true rfl) rfl dX1_evenMiddle_42 ?_
    refine am_vret rfl dX1_evenMiddle_45 ?_
    exact ⟨rfl, rfl⟩
  | succ t ih =>
    intro b x hx ht he
    obtain rfl : x = nI t := i_inj (by rw [nI_e]; omega)
    refine am_iload_n rfl dX1_evenMiddle_12 ?_
    refine am_if_lt (tgt := 39) (by decide) dX1_evenMiddle_13 (fun h13 => (by exfalso; simp only [Int32.lt_iff_toInt_lt, Int32.toInt_zero, nI_e] at h13; omega)) (fun h13 => ?_)
    refine am_aload_n rfl dX1_evenMiddle_16 ?_
    refine am_iload_n rfl dX1_evenMiddle_17 ?_
    refine am_iload_n rfl dX1_evenMiddle_18 ?_
    refine am_callVi (c_X1_missOfPair ad _ _ _) okX1_missOfPair ml_X1_45 (by decide) rfl rfl rfl ⟨by decide, by decide⟩ (Nat.le_of_ble_eq_true rfl) rfl dX1_evenMiddle_19 ?_
    refine am_aload_n rfl dX1_evenMiddle_22 ?_
    refine am_iload_n rfl dX1_evenMiddle_23 ?_
    refine am_iload_n rfl dX1_evenMiddle_24 ?_
    refine am_callVi (c_X1_missOfPair ad _ _ _) okX1_missOfPair ml_X1_45 (by decide) rfl rfl rfl ⟨by decide, by decide⟩ (Nat.le_of_ble_eq_true rfl) rfl dX1_evenMiddle_25 ?_
    refine am_icmp_ge (tgt := 33) (by decide) dX1_evenMiddle_28 (fun h28 => ?_) (fun h28 => ?_)
    · refine am_iinc rfl rfl (by decide) dX1_evenMiddle_33 ?_
      refine am_goto (tgt := 12) (by decide) dX1_evenMiddle_36 ?_
      exact ih _ _ (nI_dec t (by omega)) (by omega) (by first | (rw [← he, sp_mid, if_pos (Int32.not_le.mp h28)]) | (rw [← he, sp_mid, if_neg (Int32.not_lt.mpr h28)]))
    · refine am_iload_n rfl dX1_evenMiddle_31 ?_
      refine am_istore_n (by decide) dX1_evenMiddle_32 ?_
      refine am_iinc rfl rfl (by decide) dX1_evenMiddle_33 ?_
      refine am_goto (tgt := 12) (by decide) dX1_evenMiddle_36 ?_
      exact ih _ _ (nI_dec t (by omega)) (by omega) (by first | (rw [← he, sp_mid, if_pos (Int32.not_le.mp h28)]) | (rw [← he, sp_mid, if_neg (Int32.not_lt.mpr h28)]))
set_option maxRecDepth 100000 in
set_option maxHeartbeats 400000 in
theorem c_X1_evenMiddle (ad : Nat → Nat) (M : am_M) (p : Int32) (hl : 0 ≤ (M 19 1).toInt ∧ (M 19 1).toInt ≤ 100) : am_C ydX1_evenMiddle ad am_II [.ref (ad 19), .int p] M (am_un (sp_middle M p)) := by
  refine am_ofW (by decide +kernel) (by simp [Value.category]) (Nat.le_of_ble_eq_true rfl) rfl ?_
  refine am_aload_n rfl dX1_evenMiddle_0 ?_
  refine am_geti (j := 1) (by decide) rfl rfl rfl hTX1 (by decide) fl_X1_15 dX1_evenMiddle_1 ?_
  refine am_istore_n (by decide) dX1_evenMiddle_4 ?_
  refine am_aload_n rfl dX1_evenMiddle_5 ?_
  refine am_geti (j := 1) (by decide) rfl rfl rfl hTX1 (by decide) fl_X1_15 dX1_evenMiddle_6 ?_
  refine am_iconst (v := 1) (by decide) dX1_evenMiddle_9 ?_
  refine am_isub dX1_evenMiddle_10 ?_
  refine am_istore_n (by decide) dX1_evenMiddle_11 ?_
  exact lp_X1_evenMiddle ad M p _ (M 19 1).toInt.toNat _ _ (by simp only [i_sub, kI_1]; omega) (by omega) rfl
set_option maxRecDepth 100000 in
set_option maxHeartbeats 400000 in
theorem lp_X1_ew (ad : Nat → Nat) (M : am_M) (P : Option Value → am_M → Prop) (p bx bz : Int32) (nr : Option Value) (t z : Nat) (ht : t < 1000) (K : am_W ydX1_evenPair ad am_II P 64 [some (.ref (ad 19)), some (.int p), some (.int bx), some (.int bz), some (.int (nI z)), some (.int (nI t)), nr] [] M) : ∀ (n y : Nat), y + n = t → sp_ew M (nI t) n y = z → am_W ydX1_evenPair ad am_II P 30 [some (.ref (ad 19)), some (.int p), some (.int bx), some (.int bz), some (.int (nI y)), some (.int (nI t)), nr] [] M := by
  intro n
  induction n with
  | zero =>
    intro y hy hz
    refine am_iload rfl dX1_evenPair_30 ?_
    refine am_iload rfl dX1_evenPair_32 ?_
    refine am_icmp_ge (tgt := 64) (by decide) dX1_evenPair_34 (fun h => ?_) (fun h => (by exfalso; simp only [Int32.le_iff_toInt_le, nI_e] at h; omega))
    rw [sp_ew] at hz
    subst hz
    exact K
  | succ n ih =>
    intro y hy hz
    refine am_iload rfl dX1_evenPair_30 ?_
    refine am_iload rfl dX1_evenPair_32 ?_
    refine am_icmp_ge (tgt := 64) (by decide) dX1_evenPair_34 (fun h => (by exfalso; simp only [Int32.le_iff_toInt_le, nI_e] at h; omega)) (fun h => ?_)
    rw [sp_ew] at hz
    refine am_aload_n rfl dX1_evenPair_37 ?_
    refine am_iload rfl dX1_evenPair_38 ?_
    refine am_iload rfl dX1_evenPair_40 ?_
    refine am_iconst (v := 1) (by decide) dX1_evenPair_42 ?_
    refine am_iadd dX1_evenPair_43 ?_
    refine am_callVi (c_X1_missOfPair ad M (nI t) (nI y + 1)) okX1_missOfPair ml_X1_45 (by decide) rfl rfl rfl ⟨by decide, by decide⟩ (Nat.le_of_ble_eq_true rfl) rfl dX1_evenPair_44 ?_
    refine am_aload_n rfl dX1_evenPair_47 ?_
    refine am_iload rfl dX1_evenPair_48 ?_
    refine am_iload rfl dX1_evenPair_50 ?_
    refine am_callVi (c_X1_missOfPair ad M (nI t) (nI y)) okX1_missOfPair ml_X1_45 (by decide) rfl rfl rfl ⟨by decide, by decide⟩ (Nat.le_of_ble_eq_true rfl) rfl dX1_evenPair_52 ?_
    refine am_icmp_ge (tgt := 64) (by decide) dX1_evenPair_55 (fun h55 => ?_) (fun h55 => ?_)
    · rw [nI_1] at h55
      rw [if_neg (Int32.not_lt.mpr h55)] at hz
      subst hz
      exact K
    · refine am_iinc (v := nI (y + 1)) rfl (nI_inc y) (by decide) dX1_evenPair_58 ?_
      refine am_goto (tgt := 30) (by decide) dX1_evenPair_61 ?_
      rw [nI_1] at h55
      rw [if_pos (Int32.not_le.mp h55)] at hz
      exact ih (y + 1) (by omega) hz
set_option maxRecDepth 100000 in
set_option maxHeartbeats 400000 in
theorem lp_X1_evenPair (ad : Nat → Nat) (M : am_M) (p : Int32) (r : Int32 × Int32) : ∀ (t : Nat) (bx bz : Int32) (y : Nat) (x : Int32) (nr : Option Value), x.toInt = (t : Int) - 1 → t < 1000 → y < 1000 → sp_eo M p t bx bz y = r → am_W ydX1_evenPair ad am_II (am_un (sp_put (sp_put M p r.1) ((sp_put M p r.1) 19 0 - p) r.2)) 16 [some (.ref (ad 19)), some (.int p), some (.int bx), some (.int bz), some (.int (nI y)), some (.int x), nr] [] M := by
  intro t
  induction t with
  | zero =>
    intro bx bz y x nr hx ht hy he
    refine am_iload rfl dX1_evenPair_16 ?_
    refine am_if_lt (tgt := 122) (by decide) dX1_evenPair_18 (fun h13 => ?_) (fun h13 => (by exfalso; simp only [Int32.lt_iff_toInt_lt, Int32.toInt_zero] at h13; omega))
    rw [sp_eo] at he
    subst he
    refine am_aload_n rfl dX1_evenPair_122 ?_
    refine am_iload_n rfl dX1_evenPair_123 ?_
    refine am_iload_n rfl dX1_evenPair_124 ?_
    refine am_callVv (c_X1_put ad _ _ _) okX1_put ml_X1_62 (by decide) rfl rfl rfl ⟨by decide, by decide⟩ (Nat.le_of_ble_eq_true rfl) rfl dX1_evenPair_125 ?_
    refine am_aload_n rfl dX1_evenPair_128 ?_
    refine am_aload_n rfl dX1_evenPair_129 ?_
    refine am_geti (j := 0) (by decide) rfl rfl rfl hTX1 (by decide) fl_X1_9 dX1_evenPair_130 ?_
    refine am_iload_n rfl dX1_evenPair_133 ?_
    refine am_isub dX1_evenPair_134 ?_
    refine am_iload_n rfl dX1_evenPair_135 ?_
    refine am_callVv (c_X1_put ad _ _ _) okX1_put ml_X1_62 (by decide) rfl rfl rfl ⟨by decide, by decide⟩ (Nat.le_of_ble_eq_true rfl) rfl dX1_evenPair_136 ?_
    refine am_vret rfl dX1_evenPair_139 ?_
    exact ⟨rfl, rfl⟩
  | succ t ih =>
    intro bx bz y x nr hx ht hy he
    obtain rfl : x = nI t := i_inj (by rw [nI_e]; omega)
    refine am_iload rfl dX1_evenPair_16 ?_
    refine am_if_lt (tgt := 122) (by decide) dX1_evenPair_18 (fun h13 => (by exfalso; simp only [Int32.lt_iff_toInt_lt, Int32.toInt_zero, nI_e] at h13; omega)) (fun h13 => ?_)
    rw [sp_eo] at he
    have KK : am_W ydX1_evenPair ad am_II (am_un (sp_put (sp_put M p r.1) ((sp_put M p r.1) 19 0 - p) r.2)) 64 [some (.ref (ad 19)), some (.int p), some (.int bx), some (.int bz), some (.int (nI (sp_y2 M t y))), some (.int (nI t)), nr] [] M := by
      refine am_aload_n rfl dX1_evenPair_64 ?_
      refine am_iload rfl dX1_evenPair_65 ?_
      refine am_iload rfl dX1_evenPair_67 ?_
      refine am_callVi (c_X1_missOfPair ad _ _ _) okX1_missOfPair ml_X1_45 (by decide) rfl rfl rfl ⟨by decide, by decide⟩ (Nat.le_of_ble_eq_true rfl) rfl dX1_evenPair_69 ?_
      refine am_aload_n rfl dX1_evenPair_72 ?_
      refine am_iload_n rfl dX1_evenPair_73 ?_
      refine am_iload_n rfl dX1_evenPair_74 ?_
      refine am_callVi (c_X1_missOfPair ad _ _ _) okX1_missOfPair ml_X1_45 (by decide) rfl rfl rfl ⟨by decide, by decide⟩ (Nat.le_of_ble_eq_true rfl) rfl dX1_evenPair_75 ?_
      refine am_isub dX1_evenPair_78 ?_
      refine am_istore (by decide) dX1_evenPair_79 ?_
      refine am_iload rfl dX1_evenPair_81 ?_
      refine am_if_lt (tgt := 110) (by decide) dX1_evenPair_83 (fun h83 => ?_) (fun h83 => ?_)
      · refine am_iload rfl dX1_evenPair_110 ?_
        refine am_istore_n (by decide) dX1_evenPair_112 ?_
        refine am_iload rfl dX1_evenPair_113 ?_
        refine am_istore_n (by decide) dX1_evenPair_115 ?_
        refine am_iinc rfl rfl (by decide) dX1_evenPair_116 ?_
        refine am_goto (tgt := 16) (by decide) dX1_evenPair_119 ?_
        first
        | exact ih _ _ _ _ _ (nI_dec t (by omega)) (by omega) (by have := sp_y2_le M t y; omega) (by rw [← he, if_pos (by first | exact Or.inl h83 | exact Or.inr ⟨h88, Int32.not_le.mp h107⟩)])
        | exact ih _ _ _ _ _ (nI_dec t (by omega)) (by omega) (by have := sp_y2_le M t y; omega) (by rw [← he, if_neg (fun q => by unfold sp_bet at q; rcases q with q | ⟨q1, q2⟩; exact h83 q; first | exact h88 q1 | exact absurd q2 (Int32.not_lt.mpr h107))])
      · refine am_iload rfl dX1_evenPair_86 ?_
        refine am_if_ne (tgt := 116) (by decide) dX1_evenPair_88 (fun h88 => ?_) (fun h88 => ?_)
        · refine am_iinc rfl rfl (by decide) dX1_evenPair_116 ?_
          refine am_goto (tgt := 16) (by decide) dX1_evenPair_119 ?_
          first
          | exact ih _ _ _ _ _ (nI_dec t (by omega)) (by omega) (by have := sp_y2_le M t y; omega) (by rw [← he, if_pos (by first | exact Or.inl h83 | exact Or.inr ⟨h88, Int32.not_le.mp h107⟩)])
          | exact ih _ _ _ _ _ (nI_dec t (by omega)) (by omega) (by have := sp_y2_le M t y; omega) (by rw [← he, if_neg (fun q => by unfold sp_bet at q; rcases q with q | ⟨q1, q2⟩; exact h83 q; first | exact h88 q1 | exact absurd q2 (Int32.not_lt.mpr h107))])
        · refine am_aload_n rfl dX1_evenPair_91 ?_
          refine am_iload_n rfl dX1_evenPair_92 ?_
          refine am_iload rfl dX1_evenPair_93 ?_
          refine am_iload rfl dX1_evenPair_95 ?_
          refine am_callVi (c_X1_apart ad _ _ _ _) okX1_apart ml_X1_68 (by decide) rfl rfl rfl ⟨by decide, by decide⟩ (Nat.le_of_ble_eq_true rfl) rfl dX1_evenPair_97 ?_
          refine am_aload_n rfl dX1_evenPair_100 ?_
          refine am_iload_n rfl dX1_evenPair_101 ?_
          refine am_iload_n rfl dX1_evenPair_102 ?_
          refine am_iload_n rfl dX1_evenPair_103 ?_
          refine am_callVi (c_X1_apart ad _ _ _ _) okX1_apart ml_X1_68 (by decide) rfl rfl rfl ⟨by decide, by decide⟩ (Nat.le_of_ble_eq_true rfl) rfl dX1_evenPair_104 ?_
          refine am_icmp_ge (tgt := 116) (by decide) dX1_evenPair_107 (fun h107 => ?_) (fun h107 => ?_)
          · refine am_iinc rfl rfl (by decide) dX1_evenPair_116 ?_
            refine am_goto (tgt := 16) (by decide) dX1_evenPair_119 ?_
            first
            | exact ih _ _ _ _ _ (nI_dec t (by omega)) (by omega) (by have := sp_y2_le M t y; omega) (by rw [← he, if_pos (by first | exact Or.inl h83 | exact Or.inr ⟨h88, Int32.not_le.mp h107⟩)])
            | exact ih _ _ _ _ _ (nI_dec t (by omega)) (by omega) (by have := sp_y2_le M t y; omega) (by rw [← he, if_neg (fun q => by unfold sp_bet at q; rcases q with q | ⟨q1, q2⟩; exact h83 q; first | exact h88 q1 | exact absurd q2 (Int32.not_lt.mpr h107))])
          · refine am_iload rfl dX1_evenPair_110 ?_
            refine am_istore_n (by decide) dX1_evenPair_112 ?_
            refine am_iload rfl dX1_evenPair_113 ?_
            refine am_istore_n (by decide) dX1_evenPair_115 ?_
            refine am_iinc rfl rfl (by decide) dX1_evenPair_116 ?_
            refine am_goto (tgt := 16) (by decide) dX1_evenPair_119 ?_
            first
            | exact ih _ _ _ _ _ (nI_dec t (by omega)) (by omega) (by have := sp_y2_le M t y; omega) (by rw [← he, if_pos (by first | exact Or.inl h83 | exact Or.inr ⟨h88, Int32.not_le.mp h107⟩)])
            | exact ih _ _ _ _ _ (nI_dec t (by omega)) (by omega) (by have := sp_y2_le M t y; omega) (by rw [← he, if_neg (fun q => by unfold sp_bet at q; rcases q with q | ⟨q1, q2⟩; exact h83 q; first | exact h88 q1 | exact absurd q2 (Int32.not_lt.mpr h107))])
    refine am_iload rfl dX1_evenPair_21 ?_
    refine am_iload rfl dX1_evenPair_23 ?_
    refine am_mminI ml_X1_65 (by decide) (Nat.le_of_ble_eq_true rfl) dX1_evenPair_25 ?_
    refine am_istore (by decide) dX1_evenPair_28 ?_
    rw [am_imin y t (by omega) (by omega)]
    refine lp_X1_ew ad M _ p bx bz nr t (sp_y2 M t y) (by omega) ?_ (t - min y t) (min y t) (by omega) rfl
    exact KK
set_option maxRecDepth 100000 in
set_option maxHeartbeats 400000 in
theorem c_X1_evenPair (ad : Nat → Nat) (M : am_M) (p : Int32) (hl : 0 ≤ (M 19 1).toInt ∧ (M 19 1).toInt ≤ 100) : am_C ydX1_evenPair ad am_II [.ref (ad 19), .int p] M (am_un (sp_pairs M p)) := by
  refine am_ofW (by decide +kernel) (by simp [Value.category]) (Nat.le_of_ble_eq_true rfl) rfl ?_
  refine am_aload_n rfl dX1_evenPair_0 ?_
  refine am_geti (j := 1) (by decide) rfl rfl rfl hTX1 (by decide) fl_X1_15 dX1_evenPair_1 ?_
  refine am_istore_n (by decide) dX1_evenPair_4 ?_
  refine am_iconst (v := 0) (by decide) dX1_evenPair_5 ?_
  refine am_istore_n (by decide) dX1_evenPair_6 ?_
  refine am_iconst (v := 0) (by decide) dX1_evenPair_7 ?_
  refine am_istore (by decide) dX1_evenPair_8 ?_
  refine am_aload_n rfl dX1_evenPair_10 ?_
  refine am_geti (j := 1) (by decide) rfl rfl rfl hTX1 (by decide) fl_X1_15 dX1_evenPair_11 ?_
  refine am_istore (by decide) dX1_evenPair_14 ?_
  exact lp_X1_evenPair ad M p _ ((M 19 1).toInt.toNat + 1) _ _ 0 _ _ (by omega) (by omega) (by omega) rfl
set_option maxRecDepth 100000 in
set_option maxHeartbeats 400000 in
theorem lp_X1_even (ad : Nat → Nat) (M0 r : am_M) (k : Nat) (hk : k ≤ 8) (h19 : M0 19 0 = nI k) (hl : 0 ≤ (M0 19 1).toInt ∧ (M0 19 1).toInt ≤ 100) : ∀ (n p : Nat) (M : am_M), M 19 = M0 19 → p + n = k / 2 + 1 → sp_evs k n p M = r → am_W ydX1_even ad am_II (am_un r) 2 [some (.ref (ad 19)), some (.int (nI p))] [] M := by
  intro n
  induction n with
  | zero =>
    intro p M hM hp he
    rw [sp_evs] at he
    subst he
    have e19 : M 19 0 = nI k := by rw [hM, h19]
    refine am_iconst (v := 2) (by decide) dX1_even_2 ?_
    refine am_iload_n rfl dX1_even_3 ?_
    refine am_imul dX1_even_4 ?_
    refine am_aload_n rfl dX1_even_5 ?_
    refine am_geti (j := 0) (by decide) rfl rfl rfl hTX1 (by decide) fl_X1_9 dX1_even_6 ?_
    refine am_icmp_gt (tgt := 41) (by decide) dX1_even_9 (fun h9 => ?_) (fun h9 => ?_)
    · refine am_vret rfl dX1_even_41 ?_
      exact ⟨rfl, rfl⟩
    · exfalso; rw [e19] at h9; simp only [Int32.lt_iff_toInt_lt, i_mul, kI_2, nI_e] at h9; omega
  | succ n ih =>
    intro p M hM hp he
    rw [sp_evs] at he
    have e19 : M 19 0 = nI k := by rw [hM, h19]
    have hl' : 0 ≤ (M 19 1).toInt ∧ (M 19 1).toInt ≤ 100 := by rw [hM]; exact hl
    refine am_iconst (v := 2) (by decide) dX1_even_2 ?_
    refine am_iload_n rfl dX1_even_3 ?_
    refine am_imul dX1_even_4 ?_
    refine am_aload_n rfl dX1_even_5 ?_
    refine am_geti (j := 0) (by decide) rfl rfl rfl hTX1 (by decide) fl_X1_9 dX1_even_6 ?_
    refine am_icmp_gt (tgt := 41) (by decide) dX1_even_9 (fun h9 => ?_) (fun h9 => ?_)
    · exfalso; rw [e19] at h9; simp only [Int32.lt_iff_toInt_lt, i_mul, kI_2, nI_e] at h9; omega
    · refine am_iconst (v := 2) (by decide) dX1_even_12 ?_
      refine am_iload_n rfl dX1_even_13 ?_
      refine am_imul dX1_even_14 ?_
      refine am_aload_n rfl dX1_even_15 ?_
      refine am_geti (j := 0) (by decide) rfl rfl rfl hTX1 (by decide) fl_X1_9 dX1_even_16 ?_
      refine am_icmp_ne (tgt := 30) (by decide) dX1_even_19 (fun h19e => ?_) (fun h19e => ?_)
      · refine am_aload_n rfl dX1_even_30 ?_
        refine am_iload_n rfl dX1_even_31 ?_
        refine am_callVv (c_X1_evenPair ad M _ hl') okX1_evenPair ml_X1_59 (by decide) rfl rfl rfl ⟨by decide, by decide⟩ (Nat.le_of_ble_eq_true rfl) rfl dX1_even_32 ?_
        refine am_iinc (v := nI (p + 1)) rfl (nI_inc p) (by decide) dX1_even_35 ?_
        refine am_goto (tgt := 2) (by decide) dX1_even_38 ?_
        first
        | (rw [if_pos (by rw [e19] at h19e; simp only [← Int32.toInt_inj, i_mul, kI_2, nI_e] at h19e; omega)] at he; exact ih (p + 1) _ (by rw [sp_middle_19, hM]) (by omega) he)
        | (rw [if_neg (by rw [e19] at h19e; simp only [← Int32.toInt_inj, i_mul, kI_2, nI_e] at h19e; omega)] at he; exact ih (p + 1) _ (by rw [sp_pairs_19, hM]) (by omega) he)
      · refine am_aload_n rfl dX1_even_22 ?_
        refine am_iload_n rfl dX1_even_23 ?_
        refine am_callVv (c_X1_evenMiddle ad M _ hl') okX1_evenMiddle ml_X1_55 (by decide) rfl rfl rfl ⟨by decide, by decide⟩ (Nat.le_of_ble_eq_true rfl) rfl dX1_even_24 ?_
        refine am_goto (tgt := 35) (by decide) dX1_even_27 ?_
        refine am_iinc (v := nI (p + 1)) rfl (nI_inc p) (by decide) dX1_even_35 ?_
        refine am_goto (tgt := 2) (by decide) dX1_even_38 ?_
        first
        | (rw [if_pos (by rw [e19] at h19e; simp only [← Int32.toInt_inj, i_mul, kI_2, nI_e] at h19e; omega)] at he; exact ih (p + 1) _ (by rw [sp_middle_19, hM]) (by omega) he)
        | (rw [if_neg (by rw [e19] at h19e; simp only [← Int32.toInt_inj, i_mul, kI_2, nI_e] at h19e; omega)] at he; exact ih (p + 1) _ (by rw [sp_pairs_19, hM]) (by omega) he)
set_option maxRecDepth 100000 in
set_option maxHeartbeats 400000 in
theorem c_X1_even (ad : Nat → Nat) (M : am_M)  (hp : 0 ≤ (M 19 0).toInt ∧ (M 19 0).toInt ≤ 8) (hl : 0 ≤ (M 19 1).toInt ∧ (M 19 1).toInt ≤ 100) : am_C ydX1_even ad am_II [.ref (ad 19)] M (am_un (sp_smooth M)) := by
  refine am_ofW (by decide +kernel) (by simp [Value.category]) (Nat.le_of_ble_eq_true rfl) rfl ?_
  refine am_iconst (v := 0) (by decide) dX1_even_0 ?_
  refine am_istore_n (by decide) dX1_even_1 ?_
  have hk9 : M 19 0 = nI (M 19 0).toInt.toNat := i_inj (by rw [nI_e]; omega)
  exact lp_X1_even ad M _ (M 19 0).toInt.toNat (by omega) hk9 hl _ 0 M rfl (by omega) rfl
end
section
def sp_okLim (M : am_M) (s c j : Int32) : Bool := !sp_goes M && sp_in s 1 12 && sp_in c 1 4 && sp_in j 1 4
def sp_okBad (M : am_M) (s : Int32) (b : Bool) : Bool := !sp_goes M && sp_in s 1 12 && (sp_bad M s != b)
def sp_okPull (M : am_M) (s p : Int32) : Bool := !sp_goes M && sp_in s 0 12 && sp_in p 0 1000
def sp_okLoad (M : am_M) (x y : Int32) : Bool := !sp_goes M && sp_in x 0 1000 && sp_in y 0 100
def sp_okOnly (M : am_M) (b : Bool) : Bool := !sp_goes M && !decide (M 1 7 = bI b)
def sp_stat (M : am_M) (w : Int32) : Int32 := if w = 0 then bI (sp_goes M) else if w = 1 then M 15 2 else if w = 2 then M 15 3 else if w = 3 then M 15 1 else if w = 4 then M 15 0 else if w = 5 then M 15 4 else if w = 6 then M 15 5 else if w = 7 then M 15 6 else if w = 8 then (if M 15 7 = 0 then 0 else 1) else -1
def sp_layN (M : am_M) (n l : Int32) : am_M := sp_lay M n.toInt.toNat l
def sp_okTab (n l : Int32) : Bool := decide (n = 1 ∨ n = 2 ∨ n = 4 ∨ n = 8) && sp_in l 1 100
def sp_okSet (M : am_M) (p a : Int32) : Bool := sp_in p 0 (M 19 0) && sp_in a 0 (M 19 1)
set_option maxRecDepth 100000 in
set_option maxHeartbeats 400000 in
theorem c_X6_limits (ad : Nat → Nat) (M : am_M) (v c j : Int32) : am_C ydX6_limits ad am_II [.ref (ad 0), .int v, .int c, .int j] M (am_is (bI (sp_okLim M v c j)) (if sp_okLim M v c j = true then sp_tLimits M v c j else M)) := by
  refine am_ofW (by decide +kernel) (by simp [Value.category]) (Nat.le_of_ble_eq_true rfl) rfl ?_
  refine am_aload_n rfl dX6_limits_0 ?_
  refine am_getr (j := 4) (by decide) rfl rfl rfl hTX6 (by decide) fl_X6_38 dX6_limits_1 ?_
  refine am_callVi (c_X2_goesOn ad M) okX2_goesOn ml_X6_62 (by decide) rfl rfl rfl ⟨by decide, by decide⟩ (Nat.le_of_ble_eq_true rfl) rfl dX6_limits_4 ?_
  refine am_ifb_ne (tgt := 38) (by decide) dX6_limits_7 (fun h7 => ?_) (fun h7 => ?_)
  · refine am_iconst (v := 0) (by decide) dX6_limits_38 ?_
    refine am_zret rfl (by first | exact am_nb _ | decide) dX6_limits_39 ?_
    refine am_isFc ?_ rfl
    simp_all [sp_okLim]
  · refine am_iload_n rfl dX6_limits_10 ?_
    refine am_iconst (v := 1) (by decide) dX6_limits_11 ?_
    refine am_bipush (v := 12) (by decide) dX6_limits_12 ?_
    refine am_callSi (c_X6_isWithin ad M _ _ _) okX6_isWithin ml_X6_66 rfl ⟨by decide, by decide⟩ (Nat.le_of_ble_eq_true rfl) rfl dX6_limits_14 ?_
    refine am_ifb_eq (tgt := 38) (by decide) dX6_limits_17 (fun h17 => ?_) (fun h17 => ?_)
    · refine am_iconst (v := 0) (by decide) dX6_limits_38 ?_
      refine am_zret rfl (by first | exact am_nb _ | decide) dX6_limits_39 ?_
      refine am_isFc ?_ rfl
      simp_all [sp_okLim]
    · refine am_iload_n rfl dX6_limits_20 ?_
      refine am_iconst (v := 1) (by decide) dX6_limits_21 ?_
      refine am_iconst (v := 4) (by decide) dX6_limits_22 ?_
      refine am_callSi (c_X6_isWithin ad M _ _ _) okX6_isWithin ml_X6_66 rfl ⟨by decide, by decide⟩ (Nat.le_of_ble_eq_true rfl) rfl dX6_limits_23 ?_
      refine am_ifb_eq (tgt := 38) (by decide) dX6_limits_26 (fun h26 => ?_) (fun h26 => ?_)
      · refine am_iconst (v := 0) (by decide) dX6_limits_38 ?_
        refine am_zret rfl (by first | exact am_nb _ | decide) dX6_limits_39 ?_
        refine am_isFc ?_ rfl
        simp_all [sp_okLim]
      · refine am_iload_n rfl dX6_limits_29 ?_
        refine am_iconst (v := 1) (by decide) dX6_limits_30 ?_
        refine am_iconst (v := 4) (by decide) dX6_limits_31 ?_
        refine am_callSi (c_X6_isWithin ad M _ _ _) okX6_isWithin ml_X6_66 rfl ⟨by decide, by decide⟩ (Nat.le_of_ble_eq_true rfl) rfl dX6_limits_32 ?_
        refine am_ifb_ne (tgt := 40) (by decide) dX6_limits_35 (fun h35 => ?_) (fun h35 => ?_)
        · refine am_aload_n rfl dX6_limits_40 ?_
          refine am_getr (j := 0) (by decide) rfl rfl rfl hTX6 (by decide) fl_X6_12 dX6_limits_41 ?_
          refine am_iload_n rfl dX6_limits_44 ?_
          refine am_iload_n rfl dX6_limits_45 ?_
          refine am_iload_n rfl dX6_limits_46 ?_
          refine am_callVv (c_X4_tellLimits ad M _ _ _) okX4_tellLimits ml_X6_70 (by decide) rfl rfl rfl ⟨by decide, by decide⟩ (Nat.le_of_ble_eq_true rfl) rfl dX6_limits_47 ?_
          refine am_iconst (v := 1) (by decide) dX6_limits_50 ?_
          refine am_zret rfl (by first | exact am_nb _ | decide) dX6_limits_51 ?_
          refine am_isTc ?_ rfl
          simp_all [sp_okLim]
        · refine am_iconst (v := 0) (by decide) dX6_limits_38 ?_
          refine am_zret rfl (by first | exact am_nb _ | decide) dX6_limits_39 ?_
          refine am_isFc ?_ rfl
          simp_all [sp_okLim]
set_option maxRecDepth 100000 in
set_option maxHeartbeats 400000 in
theorem c_X6_bad (ad : Nat → Nat) (M : am_M) (v : Int32) (b : Bool) : am_C ydX6_bad ad am_II [.ref (ad 0), .int v, .int (bI b)] M (am_is (bI (sp_okBad M v b)) (if sp_okBad M v b = true then sp_tBad M v b else M)) := by
  refine am_ofW (by decide +kernel) (by simp [Value.category]) (Nat.le_of_ble_eq_true rfl) rfl ?_
  refine am_aload_n rfl dX6_bad_0 ?_
  refine am_getr (j := 4) (by decide) rfl rfl rfl hTX6 (by decide) fl_X6_38 dX6_bad_1 ?_
  refine am_callVi (c_X2_goesOn ad M) okX2_goesOn ml_X6_62 (by decide) rfl rfl rfl ⟨by decide, by decide⟩ (Nat.le_of_ble_eq_true rfl) rfl dX6_bad_4 ?_
  refine am_ifb_ne (tgt := 32) (by decide) dX6_bad_7 (fun h7 => ?_) (fun h7 => ?_)
  · refine am_iconst (v := 0) (by decide) dX6_bad_32 ?_
    refine am_zret rfl (by first | exact am_nb _ | decide) dX6_bad_33 ?_
    refine am_isFc ?_ rfl
    simp_all [sp_okBad, bI_inj]
  · refine am_iload_n rfl dX6_bad_10 ?_
    refine am_iconst (v := 1) (by decide) dX6_bad_11 ?_
    refine am_bipush (v := 12) (by decide) dX6_bad_12 ?_
    refine am_callSi (c_X6_isWithin ad M _ _ _) okX6_isWithin ml_X6_66 rfl ⟨by decide, by decide⟩ (Nat.le_of_ble_eq_true rfl) rfl dX6_bad_14 ?_
    refine am_ifb_eq (tgt := 32) (by decide) dX6_bad_17 (fun h17 => ?_) (fun h17 => ?_)
    · refine am_iconst (v := 0) (by decide) dX6_bad_32 ?_
      refine am_zret rfl (by first | exact am_nb _ | decide) dX6_bad_33 ?_
      refine am_isFc ?_ rfl
      simp_all [sp_okBad, bI_inj]
    · refine am_aload_n rfl dX6_bad_20 ?_
      refine am_getr (j := 0) (by decide) rfl rfl rfl hTX6 (by decide) fl_X6_12 dX6_bad_21 ?_
      refine am_iload_n rfl dX6_bad_24 ?_
      refine am_callVi (c_X4_isBad ad M _) okX4_isBad ml_X6_74 (by decide) rfl rfl rfl ⟨by decide, by decide⟩ (Nat.le_of_ble_eq_true rfl) rfl dX6_bad_25 ?_
      refine am_iload_n rfl dX6_bad_28 ?_
      refine am_icmp_ne (tgt := 34) (by decide) dX6_bad_29 (fun h29 => ?_) (fun h29 => ?_)
      · refine am_aload_n rfl dX6_bad_34 ?_
        refine am_getr (j := 0) (by decide) rfl rfl rfl hTX6 (by decide) fl_X6_12 dX6_bad_35 ?_
        refine am_iload_n rfl dX6_bad_38 ?_
        refine am_iload_n rfl dX6_bad_39 ?_
        refine am_callVv (c_X4_tellBad ad M _ _) okX4_tellBad ml_X6_78 (by decide) rfl rfl rfl ⟨by decide, by decide⟩ (Nat.le_of_ble_eq_true rfl) rfl dX6_bad_40 ?_
        refine am_iconst (v := 1) (by decide) dX6_bad_43 ?_
        refine am_zret rfl (by first | exact am_nb _ | decide) dX6_bad_44 ?_
        refine am_isTc ?_ rfl
        simp_all [sp_okBad, bI_inj]
      · refine am_iconst (v := 0) (by decide) dX6_bad_32 ?_
        refine am_zret rfl (by first | exact am_nb _ | decide) dX6_bad_33 ?_
        refine am_isFc ?_ rfl
        simp_all [sp_okBad, bI_inj]
set_option maxRecDepth 100000 in
set_option maxHeartbeats 400000 in
theorem c_X6_pull (ad : Nat → Nat) (M : am_M) (v p : Int32) : am_C ydX6_pull ad am_II [.ref (ad 0), .int v, .int p] M (am_is (bI (sp_okPull M v p)) (if sp_okPull M v p = true then sp_tPull M v p else M)) := by
  refine am_ofW (by decide +kernel) (by simp [Value.category]) (Nat.le_of_ble_eq_true rfl) rfl ?_
  refine am_aload_n rfl dX6_pull_0 ?_
  refine am_getr (j := 4) (by decide) rfl rfl rfl hTX6 (by decide) fl_X6_38 dX6_pull_1 ?_
  refine am_callVi (c_X2_goesOn ad M) okX2_goesOn ml_X6_62 (by decide) rfl rfl rfl ⟨by decide, by decide⟩ (Nat.le_of_ble_eq_true rfl) rfl dX6_pull_4 ?_
  refine am_ifb_ne (tgt := 31) (by decide) dX6_pull_7 (fun h7 => ?_) (fun h7 => ?_)
  · refine am_iconst (v := 0) (by decide) dX6_pull_31 ?_
    refine am_zret rfl (by first | exact am_nb _ | decide) dX6_pull_32 ?_
    refine am_isFc ?_ rfl
    simp_all [sp_okPull]
  · refine am_iload_n rfl dX6_pull_10 ?_
    refine am_iconst (v := 0) (by decide) dX6_pull_11 ?_
    refine am_bipush (v := 12) (by decide) dX6_pull_12 ?_
    refine am_callSi (c_X6_isWithin ad M _ _ _) okX6_isWithin ml_X6_66 rfl ⟨by decide, by decide⟩ (Nat.le_of_ble_eq_true rfl) rfl dX6_pull_14 ?_
    refine am_ifb_eq (tgt := 31) (by decide) dX6_pull_17 (fun h17 => ?_) (fun h17 => ?_)
    · refine am_iconst (v := 0) (by decide) dX6_pull_31 ?_
      refine am_zret rfl (by first | exact am_nb _ | decide) dX6_pull_32 ?_
      refine am_isFc ?_ rfl
      simp_all [sp_okPull]
    · refine am_iload_n rfl dX6_pull_20 ?_
      refine am_iconst (v := 0) (by decide) dX6_pull_21 ?_
      refine am_sipush (v := 1000) (by decide) dX6_pull_22 ?_
      refine am_callSi (c_X6_isWithin ad M _ _ _) okX6_isWithin ml_X6_66 rfl ⟨by decide, by decide⟩ (Nat.le_of_ble_eq_true rfl) rfl dX6_pull_25 ?_
      refine am_ifb_ne (tgt := 33) (by decide) dX6_pull_28 (fun h28 => ?_) (fun h28 => ?_)
      · refine am_aload_n rfl dX6_pull_33 ?_
        refine am_getr (j := 0) (by decide) rfl rfl rfl hTX6 (by decide) fl_X6_12 dX6_pull_34 ?_
        refine am_iload_n rfl dX6_pull_37 ?_
        refine am_iload_n rfl dX6_pull_38 ?_
        refine am_callVv (c_X4_tellPull ad M _ _) okX4_tellPull ml_X6_82 (by decide) rfl rfl rfl ⟨by decide, by decide⟩ (Nat.le_of_ble_eq_true rfl) rfl dX6_pull_39 ?_
        refine am_iconst (v := 1) (by decide) dX6_pull_42 ?_
        refine am_zret rfl (by first | exact am_nb _ | decide) dX6_pull_43 ?_
        refine am_isTc ?_ rfl
        simp_all [sp_okPull]
      · refine am_iconst (v := 0) (by decide) dX6_pull_31 ?_
        refine am_zret rfl (by first | exact am_nb _ | decide) dX6_pull_32 ?_
        refine am_isFc ?_ rfl
        simp_all [sp_okPull]
set_option maxRecDepth 100000 in
set_option maxHeartbeats 400000 in
theorem c_X6_load (ad : Nat → Nat) (M : am_M) (x y : Int32) : am_C ydX6_load ad am_II [.ref (ad 0), .int x, .int y] M (am_is (bI (sp_okLoad M x y)) (if sp_okLoad M x y = true then sp_tLoad M x y else M)) := by
  refine am_ofW (by decide +kernel) (by simp [Value.category]) (Nat.le_of_ble_eq_true rfl) rfl ?_
  refine am_aload_n rfl dX6_load_0 ?_
  refine am_getr (j := 4) (by decide) rfl rfl rfl hTX6 (by decide) fl_X6_38 dX6_load_1 ?_
  refine am_callVi (c_X2_goesOn ad M) okX2_goesOn ml_X6_62 (by decide) rfl rfl rfl ⟨by decide, by decide⟩ (Nat.le_of_ble_eq_true rfl) rfl dX6_load_4 ?_
  refine am_ifb_ne (tgt := 31) (by decide) dX6_load_7 (fun h7 => ?_) (fun h7 => ?_)
  · refine am_iconst (v := 0) (by decide) dX6_load_31 ?_
    refine am_zret rfl (by first | exact am_nb _ | decide) dX6_load_32 ?_
    refine am_isFc ?_ rfl
    simp_all [sp_okLoad]
  · refine am_iload_n rfl dX6_load_10 ?_
    refine am_iconst (v := 0) (by decide) dX6_load_11 ?_
    refine am_sipush (v := 1000) (by decide) dX6_load_12 ?_
    refine am_callSi (c_X6_isWithin ad M _ _ _) okX6_isWithin ml_X6_66 rfl ⟨by decide, by decide⟩ (Nat.le_of_ble_eq_true rfl) rfl dX6_load_15 ?_
    refine am_ifb_eq (tgt := 31) (by decide) dX6_load_18 (fun h18 => ?_) (fun h18 => ?_)
    · refine am_iconst (v := 0) (by decide) dX6_load_31 ?_
      refine am_zret rfl (by first | exact am_nb _ | decide) dX6_load_32 ?_
      refine am_isFc ?_ rfl
      simp_all [sp_okLoad]
    · refine am_iload_n rfl dX6_load_21 ?_
      refine am_iconst (v := 0) (by decide) dX6_load_22 ?_
      refine am_bipush (v := 100) (by decide) dX6_load_23 ?_
      refine am_callSi (c_X6_isWithin ad M _ _ _) okX6_isWithin ml_X6_66 rfl ⟨by decide, by decide⟩ (Nat.le_of_ble_eq_true rfl) rfl dX6_load_25 ?_
      refine am_ifb_ne (tgt := 33) (by decide) dX6_load_28 (fun h28 => ?_) (fun h28 => ?_)
      · refine am_aload_n rfl dX6_load_33 ?_
        refine am_getr (j := 0) (by decide) rfl rfl rfl hTX6 (by decide) fl_X6_12 dX6_load_34 ?_
        refine am_iload_n rfl dX6_load_37 ?_
        refine am_iload_n rfl dX6_load_38 ?_
        refine am_callVv (c_X4_tellLoad ad M _ _) okX4_tellLoad ml_X6_86 (by decide) rfl rfl rfl ⟨by decide, by decide⟩ (Nat.le_of_ble_eq_true rfl) rfl dX6_load_39 ?_
        refine am_iconst (v := 1) (by decide) dX6_load_42 ?_
        refine am_zret rfl (by first | exact am_nb _ | decide) dX6_load_43 ?_
        refine am_isTc ?_ rfl
        simp_all [sp_okLoad]
      · refine am_iconst (v := 0) (by decide) dX6_load_31 ?_
        refine am_zret rfl (by first | exact am_nb _ | decide) dX6_load_32 ?_
        refine am_isFc ?_ rfl
        simp_all [sp_okLoad]
set_option maxRecDepth 100000 in
set_option maxHeartbeats 400000 in
theorem c_X6_only (ad : Nat → Nat) (M : am_M) (b : Bool) : am_C ydX6_only ad am_II [.ref (ad 0), .int (bI b)] M (am_is (bI (sp_okOnly M b)) (if sp_okOnly M b = true then sp_tOnly M b else M)) := by
  refine am_ofW (by decide +kernel) (by simp [Value.category]) (Nat.le_of_ble_eq_true rfl) rfl ?_
  refine am_aload_n rfl dX6_only_0 ?_
  refine am_getr (j := 4) (by decide) rfl rfl rfl hTX6 (by decide) fl_X6_38 dX6_only_1 ?_
  refine am_callVi (c_X2_goesOn ad M) okX2_goesOn ml_X6_62 (by decide) rfl rfl rfl ⟨by decide, by decide⟩ (Nat.le_of_ble_eq_true rfl) rfl dX6_only_4 ?_
  refine am_ifb_ne (tgt := 21) (by decide) dX6_only_7 (fun h7 => ?_) (fun h7 => ?_)
  · refine am_iconst (v := 0) (by decide) dX6_only_21 ?_
    refine am_zret rfl (by first | exact am_nb _ | decide) dX6_only_22 ?_
    refine am_isFc ?_ rfl
    simp_all [sp_okOnly]
  · refine am_aload_n rfl dX6_only_10 ?_
    refine am_getr (j := 0) (by decide) rfl rfl rfl hTX6 (by decide) fl_X6_12 dX6_only_11 ?_
    refine am_geti (j := 7) (by decide) rfl rfl rfl hTX4 (by decide) fl_X6_89 dX6_only_14 ?_
    refine am_iload_n rfl dX6_only_17 ?_
    refine am_icmp_ne (tgt := 23) (by decide) dX6_only_18 (fun h18 => ?_) (fun h18 => ?_)
    · refine am_aload_n rfl dX6_only_23 ?_
      refine am_getr (j := 0) (by decide) rfl rfl rfl hTX6 (by decide) fl_X6_12 dX6_only_24 ?_
      refine am_iload_n rfl dX6_only_27 ?_
      refine am_callVv (c_X4_tellOnlySafe ad M _) okX4_tellOnlySafe ml_X6_93 (by decide) rfl rfl rfl ⟨by decide, by decide⟩ (Nat.le_of_ble_eq_true rfl) rfl dX6_only_28 ?_
      refine am_iconst (v := 1) (by decide) dX6_only_31 ?_
      refine am_zret rfl (by first | exact am_nb _ | decide) dX6_only_32 ?_
      refine am_isTc ?_ rfl
      simp_all [sp_okOnly]
    · refine am_iconst (v := 0) (by decide) dX6_only_21 ?_
      refine am_zret rfl (by first | exact am_nb _ | decide) dX6_only_22 ?_
      refine am_isFc ?_ rfl
      simp_all [sp_okOnly]
set_option maxRecDepth 100000 in
set_option maxHeartbeats 400000 in
theorem c_X6_state (ad : Nat → Nat) (M : am_M) (w : Int32) : am_C ydX6_state ad am_II [.ref (ad 0), .int w] M (am_is (sp_stat M w) M) := by
  refine am_ofW (by decide +kernel) (by simp [Value.category]) (Nat.le_of_ble_eq_true rfl) rfl ?_
  refine am_iload_n rfl dX6_state_0 ?_
  by_cases h1o : (w).toInt < 0 ∨ 8 < (w).toInt
  · refine am_tabOut (tgt := 140) h1o (by decide) dX6_state_1 ?_
    refine am_iconst (v := (-1)) (by decide) dX6_state_140 ?_
    refine am_iret rfl dX6_state_141 ?_
    refine am_isE ?_
    unfold sp_stat
    first | (rw [h1c]; rfl) | (simp [h1c, h59, bI]; done) | (rw [h1c]; simp_all [bI]; done) | (simp [h1c, h131]; done) | (rw [if_neg (fun e => by rw [e] at h1o; revert h1o; decide), if_neg (fun e => by rw [e] at h1o; revert h1o; decide), if_neg (fun e => by rw [e] at h1o; revert h1o; decide), if_neg (fun e => by rw [e] at h1o; revert h1o; decide), if_neg (fun e => by rw [e] at h1o; revert h1o; decide), if_neg (fun e => by rw [e] at h1o; revert h1o; decide), if_neg (fun e => by rw [e] at h1o; revert h1o; decide), if_neg (fun e => by rw [e] at h1o; revert h1o; decide), if_neg (fun e => by rw [e] at h1o; revert h1o; decide)])
  · have h1a : 0 ≤ (w).toInt ∧ (w).toInt ≤ 8 := by omega
    have h1d : (w) = 0 ∨ (w) = 1 ∨ (w) = 2 ∨ (w) = 3 ∨ (w) = 4 ∨ (w) = 5 ∨ (w) = 6 ∨ (w) = 7 ∨ (w) = 8 := by
      simp only [← Int32.toInt_inj]
      have e9 : ((0 : Int32).toInt = 0) ∧ ((1 : Int32).toInt = 1) ∧ ((2 : Int32).toInt = 2) ∧ ((3 : Int32).toInt = 3) ∧ ((4 : Int32).toInt = 4) ∧ ((5 : Int32).toInt = 5) ∧ ((6 : Int32).toInt = 6) ∧ ((7 : Int32).toInt = 7) ∧ ((8 : Int32).toInt = 8) := by decide
      omega
    rcases h1d with h1c | h1c | h1c | h1c | h1c | h1c | h1c | h1c | h1c
    · refine am_tabIn (off := 51) (tgt := 52) (by rw [h1c]; decide) (by rw [h1c]; decide) (by rw [h1c]; rfl) (by decide) dX6_state_1 ?_
      refine am_aload_n rfl dX6_state_52 ?_
      refine am_getr (j := 4) (by decide) rfl rfl rfl hTX6 (by decide) fl_X6_38 dX6_state_53 ?_
      refine am_callVi (c_X2_goesOn ad M) okX2_goesOn ml_X6_62 (by decide) rfl rfl rfl ⟨by decide, by decide⟩ (Nat.le_of_ble_eq_true rfl) rfl dX6_state_56 ?_
      refine am_ifb_eq (tgt := 66) (by decide) dX6_state_59 (fun h59 => ?_) (fun h59 => ?_)
      · refine am_iconst (v := 0) (by decide) dX6_state_66 ?_
        refine am_iret rfl dX6_state_67 ?_
        refine am_isE ?_
        unfold sp_stat
        first | (rw [h1c]; rfl) | (simp [h1c, h59, bI]; done) | (rw [h1c]; simp_all [bI]; done) | (simp [h1c, h131]; done) | (rw [if_neg (fun e => by rw [e] at h1o; revert h1o; decide), if_neg (fun e => by rw [e] at h1o; revert h1o; decide), if_neg (fun e => by rw [e] at h1o; revert h1o; decide), if_neg (fun e => by rw [e] at h1o; revert h1o; decide), if_neg (fun e => by rw [e] at h1o; revert h1o; decide), if_neg (fun e => by rw [e] at h1o; revert h1o; decide), if_neg (fun e => by rw [e] at h1o; revert h1o; decide), if_neg (fun e => by rw [e] at h1o; revert h1o; decide), if_neg (fun e => by rw [e] at h1o; revert h1o; decide)])
      · refine am_iconst (v := 1) (by decide) dX6_state_62 ?_
        refine am_goto (tgt := 67) (by decide) dX6_state_63 ?_
        refine am_iret rfl dX6_state_67 ?_
        refine am_isE ?_
        unfold sp_stat
        first | (rw [h1c]; rfl) | (simp [h1c, h59, bI]; done) | (rw [h1c]; simp_all [bI]; done) | (simp [h1c, h131]; done) | (rw [if_neg (fun e => by rw [e] at h1o; revert h1o; decide), if_neg (fun e => by rw [e] at h1o; revert h1o; decide), if_neg (fun e => by rw [e] at h1o; revert h1o; decide), if_neg (fun e => by rw [e] at h1o; revert h1o; decide), if_neg (fun e => by rw [e] at h1o; revert h1o; decide), if_neg (fun e => by rw [e] at h1o; revert h1o; decide), if_neg (fun e => by rw [e] at h1o; revert h1o; decide), if_neg (fun e => by rw [e] at h1o; revert h1o; decide), if_neg (fun e => by rw [e] at h1o; revert h1o; decide)])
    · refine am_tabIn (off := 67) (tgt := 68) (by rw [h1c]; decide) (by rw [h1c]; decide) (by rw [h1c]; rfl) (by decide) dX6_state_1 ?_
      refine am_aload_n rfl dX6_state_68 ?_
      refine am_getr (j := 4) (by decide) rfl rfl rfl hTX6 (by decide) fl_X6_38 dX6_state_69 ?_
      refine am_geti (j := 2) (by decide) rfl rfl rfl hTX2 (by decide) fl_X6_146 dX6_state_72 ?_
      refine am_iret rfl dX6_state_75 ?_
      refine am_isE ?_
      unfold sp_stat
      first | (rw [h1c]; rfl) | (simp [h1c, h59, bI]; done) | (rw [h1c]; simp_all [bI]; done) | (simp [h1c, h131]; done) | (rw [if_neg (fun e => by rw [e] at h1o; revert h1o; decide), if_neg (fun e => by rw [e] at h1o; revert h1o; decide), if_neg (fun e => by rw [e] at h1o; revert h1o; decide), if_neg (fun e => by rw [e] at h1o; revert h1o; decide), if_neg (fun e => by rw [e] at h1o; revert h1o; decide), if_neg (fun e => by rw [e] at h1o; revert h1o; decide), if_neg (fun e => by rw [e] at h1o; revert h1o; decide), if_neg (fun e => by rw [e] at h1o; revert h1o; decide), if_neg (fun e => by rw [e] at h1o; revert h1o; decide)])
    · refine am_tabIn (off := 75) (tgt := 76) (by rw [h1c]; decide) (by rw [h1c]; decide) (by rw [h1c]; rfl) (by decide) dX6_state_1 ?_
      refine am_aload_n rfl dX6_state_76 ?_
      refine am_getr (j := 4) (by decide) rfl rfl rfl hTX6 (by decide) fl_X6_38 dX6_state_77 ?_
      refine am_geti (j := 3) (by decide) rfl rfl rfl hTX2 (by decide) fl_X6_150 dX6_state_80 ?_
      refine am_iret rfl dX6_state_83 ?_
      refine am_isE ?_
      unfold sp_stat
      first | (rw [h1c]; rfl) | (simp [h1c, h59, bI]; done) | (rw [h1c]; simp_all [bI]; done) | (simp [h1c, h131]; done) | (rw [if_neg (fun e => by rw [e] at h1o; revert h1o; decide), if_neg (fun e => by rw [e] at h1o; revert h1o; decide), if_neg (fun e => by rw [e] at h1o; revert h1o; decide), if_neg (fun e => by rw [e] at h1o; revert h1o; decide), if_neg (fun e => by rw [e] at h1o; revert h1o; decide), if_neg (fun e => by rw [e] at h1o; revert h1o; decide), if_neg (fun e => by rw [e] at h1o; revert h1o; decide), if_neg (fun e => by rw [e] at h1o; revert h1o; decide), if_neg (fun e => by rw [e] at h1o; revert h1o; decide)])
    · refine am_tabIn (off := 83) (tgt := 84) (by rw [h1c]; decide) (by rw [h1c]; decide) (by rw [h1c]; rfl) (by decide) dX6_state_1 ?_
      refine am_aload_n rfl dX6_state_84 ?_
      refine am_getr (j := 4) (by decide) rfl rfl rfl hTX6 (by decide) fl_X6_38 dX6_state_85 ?_
      refine am_geti (j := 1) (by decide) rfl rfl rfl hTX2 (by decide) fl_X6_169 dX6_state_88 ?_
      refine am_iret rfl dX6_state_91 ?_
      refine am_isE ?_
      unfold sp_stat
      first | (rw [h1c]; rfl) | (simp [h1c, h59, bI]; done) | (rw [h1c]; simp_all [bI]; done) | (simp [h1c, h131]; done) | (rw [if_neg (fun e => by rw [e] at h1o; revert h1o; decide), if_neg (fun e => by rw [e] at h1o; revert h1o; decide), if_neg (fun e => by rw [e] at h1o; revert h1o; decide), if_neg (fun e => by rw [e] at h1o; revert h1o; decide), if_neg (fun e => by rw [e] at h1o; revert h1o; decide), if_neg (fun e => by rw [e] at h1o; revert h1o; decide), if_neg (fun e => by rw [e] at h1o; revert h1o; decide), if_neg (fun e => by rw [e] at h1o; revert h1o; decide), if_neg (fun e => by rw [e] at h1o; revert h1o; decide)])
    · refine am_tabIn (off := 91) (tgt := 92) (by rw [h1c]; decide) (by rw [h1c]; decide) (by rw [h1c]; rfl) (by decide) dX6_state_1 ?_
      refine am_aload_n rfl dX6_state_92 ?_
      refine am_getr (j := 4) (by decide) rfl rfl rfl hTX6 (by decide) fl_X6_38 dX6_state_93 ?_
      refine am_geti (j := 0) (by decide) rfl rfl rfl hTX2 (by decide) fl_X6_172 dX6_state_96 ?_
      refine am_iret rfl dX6_state_99 ?_
      refine am_isE ?_
      unfold sp_stat
      first | (rw [h1c]; rfl) | (simp [h1c, h59, bI]; done) | (rw [h1c]; simp_all [bI]; done) | (simp [h1c, h131]; done) | (rw [if_neg (fun e => by rw [e] at h1o; revert h1o; decide), if_neg (fun e => by rw [e] at h1o; revert h1o; decide), if_neg (fun e => by rw [e] at h1o; revert h1o; decide), if_neg (fun e => by rw [e] at h1o; revert h1o; decide), if_neg (fun e => by rw [e] at h1o; revert h1o; decide), if_neg (fun e => by rw [e] at h1o; revert h1o; decide), if_neg (fun e => by rw [e] at h1o; revert h1o; decide), if_neg (fun e => by rw [e] at h1o; revert h1o; decide), if_neg (fun e => by rw [e] at h1o; revert h1o; decide)])
    · refine am_tabIn (off := 99) (tgt := 100) (by rw [h1c]; decide) (by rw [h1c]; decide) (by rw [h1c]; rfl) (by decide) dX6_state_1 ?_
      refine am_aload_n rfl dX6_state_100 ?_
      refine am_getr (j := 4) (by decide) rfl rfl rfl hTX6 (by decide) fl_X6_38 dX6_state_101 ?_
      refine am_geti (j := 4) (by decide) rfl rfl rfl hTX2 (by decide) fl_X6_175 dX6_state_104 ?_
      refine am_iret rfl dX6_state_107 ?_
      refine am_isE ?_
      unfold sp_stat
      first | (rw [h1c]; rfl) | (simp [h1c, h59, bI]; done) | (rw [h1c]; simp_all [bI]; done) | (simp [h1c, h131]; done) | (rw [if_neg (fun e => by rw [e] at h1o; revert h1o; decide), if_neg (fun e => by rw [e] at h1o; revert h1o; decide), if_neg (fun e => by rw [e] at h1o; revert h1o; decide), if_neg (fun e => by rw [e] at h1o; revert h1o; decide), if_neg (fun e => by rw [e] at h1o; revert h1o; decide), if_neg (fun e => by rw [e] at h1o; revert h1o; decide), if_neg (fun e => by rw [e] at h1o; revert h1o; decide), if_neg (fun e => by rw [e] at h1o; revert h1o; decide), if_neg (fun e => by rw [e] at h1o; revert h1o; decide)])
    · refine am_tabIn (off := 107) (tgt := 108) (by rw [h1c]; decide) (by rw [h1c]; decide) (by rw [h1c]; rfl) (by decide) dX6_state_1 ?_
      refine am_aload_n rfl dX6_state_108 ?_
      refine am_getr (j := 4) (by decide) rfl rfl rfl hTX6 (by decide) fl_X6_38 dX6_state_109 ?_
      refine am_geti (j := 5) (by decide) rfl rfl rfl hTX2 (by decide) fl_X6_178 dX6_state_112 ?_
      refine am_iret rfl dX6_state_115 ?_
      refine am_isE ?_
      unfold sp_stat
      first | (rw [h1c]; rfl) | (simp [h1c, h59, bI]; done) | (rw [h1c]; simp_all [bI]; done) | (simp [h1c, h131]; done) | (rw [if_neg (fun e => by rw [e] at h1o; revert h1o; decide), if_neg (fun e => by rw [e] at h1o; revert h1o; decide), if_neg (fun e => by rw [e] at h1o; revert h1o; decide), if_neg (fun e => by rw [e] at h1o; revert h1o; decide), if_neg (fun e => by rw [e] at h1o; revert h1o; decide), if_neg (fun e => by rw [e] at h1o; revert h1o; decide), if_neg (fun e => by rw [e] at h1o; revert h1o; decide), if_neg (fun e => by rw [e] at h1o; revert h1o; decide), if_neg (fun e => by rw [e] at h1o; revert h1o; decide)])
    · refine am_tabIn (off := 115) (tgt := 116) (by rw [h1c]; decide) (by rw [h1c]; decide) (by rw [h1c]; rfl) (by decide) dX6_state_1 ?_
      refine am_aload_n rfl dX6_state_116 ?_
      refine am_getr (j := 4) (by decide) rfl rfl rfl hTX6 (by decide) fl_X6_38 dX6_state_117 ?_
      refine am_geti (j := 6) (by decide) rfl rfl rfl hTX2 (by decide) fl_X6_181 dX6_state_120 ?_
      refine am_iret rfl dX6_state_123 ?_
      refine am_isE ?_
      unfold sp_stat
      first | (rw [h1c]; rfl) | (simp [h1c, h59, bI]; done) | (rw [h1c]; simp_all [bI]; done) | (simp [h1c, h131]; done) | (rw [if_neg (fun e => by rw [e] at h1o; revert h1o; decide), if_neg (fun e => by rw [e] at h1o; revert h1o; decide), if_neg (fun e => by rw [e] at h1o; revert h1o; decide), if_neg (fun e => by rw [e] at h1o; revert h1o; decide), if_neg (fun e => by rw [e] at h1o; revert h1o; decide), if_neg (fun e => by rw [e] at h1o; revert h1o; decide), if_neg (fun e => by rw [e] at h1o; revert h1o; decide), if_neg (fun e => by rw [e] at h1o; revert h1o; decide), if_neg (fun e => by rw [e] at h1o; revert h1o; decide)])
    · refine am_tabIn (off := 123) (tgt := 124) (by rw [h1c]; decide) (by rw [h1c]; decide) (by rw [h1c]; rfl) (by decide) dX6_state_1 ?_
      refine am_aload_n rfl dX6_state_124 ?_
      refine am_getr (j := 4) (by decide) rfl rfl rfl hTX6 (by decide) fl_X6_38 dX6_state_125 ?_
      refine am_geti (j := 7) (by decide) rfl rfl rfl hTX2 (by decide) fl_X6_143 dX6_state_128 ?_
      refine am_if_eq (tgt := 138) (by decide) dX6_state_131 (fun h131 => ?_) (fun h131 => ?_)
      · refine am_iconst (v := 0) (by decide) dX6_state_138 ?_
        refine am_iret rfl dX6_state_139 ?_
        refine am_isE ?_
        unfold sp_stat
        first | (rw [h1c]; rfl) | (simp [h1c, h59, bI]; done) | (rw [h1c]; simp_all [bI]; done) | (simp [h1c, h131]; done) | (rw [if_neg (fun e => by rw [e] at h1o; revert h1o; decide), if_neg (fun e => by rw [e] at h1o; revert h1o; decide), if_neg (fun e => by rw [e] at h1o; revert h1o; decide), if_neg (fun e => by rw [e] at h1o; revert h1o; decide), if_neg (fun e => by rw [e] at h1o; revert h1o; decide), if_neg (fun e => by rw [e] at h1o; revert h1o; decide), if_neg (fun e => by rw [e] at h1o; revert h1o; decide), if_neg (fun e => by rw [e] at h1o; revert h1o; decide), if_neg (fun e => by rw [e] at h1o; revert h1o; decide)])
      · refine am_iconst (v := 1) (by decide) dX6_state_134 ?_
        refine am_goto (tgt := 139) (by decide) dX6_state_135 ?_
        refine am_iret rfl dX6_state_139 ?_
        refine am_isE ?_
        unfold sp_stat
        first | (rw [h1c]; rfl) | (simp [h1c, h59, bI]; done) | (rw [h1c]; simp_all [bI]; done) | (simp [h1c, h131]; done) | (rw [if_neg (fun e => by rw [e] at h1o; revert h1o; decide), if_neg (fun e => by rw [e] at h1o; revert h1o; decide), if_neg (fun e => by rw [e] at h1o; revert h1o; decide), if_neg (fun e => by rw [e] at h1o; revert h1o; decide), if_neg (fun e => by rw [e] at h1o; revert h1o; decide), if_neg (fun e => by rw [e] at h1o; revert h1o; decide), if_neg (fun e => by rw [e] at h1o; revert h1o; decide), if_neg (fun e => by rw [e] at h1o; revert h1o; decide), if_neg (fun e => by rw [e] at h1o; revert h1o; decide)])
set_option maxRecDepth 100000 in
set_option maxHeartbeats 400000 in
theorem c_X6_axisOf_16 (ad : Nat → Nat) (M : am_M)  : am_C ydX6_axisOf ad am_II [.ref (ad 0), .int 0] M (fun r N => r = some (.ref (ad 16)) ∧ M = N) := by
  refine am_ofW (by decide +kernel) (by simp [Value.category]) (Nat.le_of_ble_eq_true rfl) rfl ?_
  refine am_iload_n rfl dX6_axisOf_0 ?_
  refine am_tabIn (off := 27) (tgt := 28) (by decide) (by decide) rfl (by decide) dX6_axisOf_1 ?_
  refine am_aload_n rfl dX6_axisOf_28 ?_
  refine am_getr (j := 5) (by decide) rfl rfl rfl hTX6 (by decide) fl_X6_45 dX6_axisOf_29 ?_
  refine am_aret rfl (Or.inr ⟨_, rfl⟩) dX6_axisOf_32 ?_
  exact ⟨rfl, rfl⟩
set_option maxRecDepth 100000 in
set_option maxHeartbeats 400000 in
theorem c_X6_axisOf_17 (ad : Nat → Nat) (M : am_M)  : am_C ydX6_axisOf ad am_II [.ref (ad 0), .int 1] M (fun r N => r = some (.ref (ad 17)) ∧ M = N) := by
  refine am_ofW (by decide +kernel) (by simp [Value.category]) (Nat.le_of_ble_eq_true rfl) rfl ?_
  refine am_iload_n rfl dX6_axisOf_0 ?_
  refine am_tabIn (off := 32) (tgt := 33) (by decide) (by decide) rfl (by decide) dX6_axisOf_1 ?_
  refine am_aload_n rfl dX6_axisOf_33 ?_
  refine am_getr (j := 6) (by decide) rfl rfl rfl hTX6 (by decide) fl_X6_49 dX6_axisOf_34 ?_
  refine am_aret rfl (Or.inr ⟨_, rfl⟩) dX6_axisOf_37 ?_
  exact ⟨rfl, rfl⟩
set_option maxRecDepth 100000 in
set_option maxHeartbeats 400000 in
theorem c_X6_axisOf_18 (ad : Nat → Nat) (M : am_M)  : am_C ydX6_axisOf ad am_II [.ref (ad 0), .int 2] M (fun r N => r = some (.ref (ad 18)) ∧ M = N) := by
  refine am_ofW (by decide +kernel) (by simp [Value.category]) (Nat.le_of_ble_eq_true rfl) rfl ?_
  refine am_iload_n rfl dX6_axisOf_0 ?_
  refine am_tabIn (off := 37) (tgt := 38) (by decide) (by decide) rfl (by decide) dX6_axisOf_1 ?_
  refine am_aload_n rfl dX6_axisOf_38 ?_
  refine am_getr (j := 7) (by decide) rfl rfl rfl hTX6 (by decide) fl_X6_52 dX6_axisOf_39 ?_
  refine am_aret rfl (Or.inr ⟨_, rfl⟩) dX6_axisOf_42 ?_
  exact ⟨rfl, rfl⟩
def sp_noax (x : Int32) : Prop := x.toInt < 0 ∨ 2 < x.toInt
set_option maxRecDepth 100000 in
set_option maxHeartbeats 400000 in
theorem c_X6_axisOf_N (ad : Nat → Nat) (M : am_M) (x : Int32) (hx : sp_noax x) : am_C ydX6_axisOf ad am_II [.ref (ad 0), .int x] M (fun r N => r = some .null ∧ M = N) := by
  refine am_ofW (by decide +kernel) (by simp [Value.category]) (Nat.le_of_ble_eq_true rfl) rfl ?_
  refine am_iload_n rfl dX6_axisOf_0 ?_
  refine am_tabOut (tgt := 43) hx (by decide) dX6_axisOf_1 ?_
  refine am_null dX6_axisOf_43 ?_
  refine am_aret rfl (Or.inl rfl) dX6_axisOf_44 ?_
  exact ⟨rfl, rfl⟩
set_option maxRecDepth 100000 in
set_option maxHeartbeats 400000 in
theorem c_X6_at_16 (ad : Nat → Nat) (M : am_M) (s : Int32) : am_C ydX6_at ad am_II [.ref (ad 0), .int 0, .int s] M (am_is (bI (sp_in s (-2000) 2000)) (if sp_in s (-2000) 2000 = true then sp_putSw M 16 s else M)) := by
  refine am_ofW (by decide +kernel) (by simp [Value.category]) (Nat.le_of_ble_eq_true rfl) rfl ?_
  refine am_aload_n rfl dX6_at_0 ?_
  refine am_iload_n rfl dX6_at_1 ?_
  refine am_callV (c_X6_axisOf_16 ad M) okX6_axisOf ml_X6_156 (by decide) rfl rfl rfl ⟨by decide, by decide⟩ (Nat.le_of_ble_eq_true rfl) rfl dX6_at_2 (fun r2 N2 p2 => ?_)
  obtain ⟨rfl, rfl⟩ := p2
  refine am_astore_n (by decide) dX6_at_5 ?_
  refine am_aload_n rfl dX6_at_6 ?_
  refine am_ifnull dX6_at_7 ?_
  refine am_iload_n rfl dX6_at_10 ?_
  refine am_sipush (v := (-2000)) (by decide) dX6_at_11 ?_
  refine am_sipush (v := 2000) (by decide) dX6_at_14 ?_
  refine am_callSi (c_X6_isWithin ad M _ _ _) okX6_isWithin ml_X6_66 rfl ⟨by decide, by decide⟩ (Nat.le_of_ble_eq_true rfl) rfl dX6_at_17 ?_
  refine am_ifb_ne (tgt := 25) (by decide) dX6_at_20 (fun h20 => ?_) (fun h20 => ?_)
  · refine am_aload_n rfl dX6_at_25 ?_
    refine am_iload_n rfl dX6_at_26 ?_
    refine am_callVv (c_X0_putSwitch_16 ad M _) okX0_putSwitch ml_X6_184 (by decide) rfl rfl rfl ⟨by decide, by decide⟩ (Nat.le_of_ble_eq_true rfl) rfl dX6_at_27 ?_
    refine am_iconst (v := 1) (by decide) dX6_at_30 ?_
    refine am_zret rfl (by first | exact am_nb _ | decide) dX6_at_31 ?_
    refine am_isTc ?_ rfl
    simp_all [bI]
  · refine am_iconst (v := 0) (by decide) dX6_at_23 ?_
    refine am_zret rfl (by first | exact am_nb _ | decide) dX6_at_24 ?_
    refine am_isFc ?_ rfl
    simp_all [bI]
def sp_onR_16 (M : am_M) : Int32 := if M 16 2 = 0 then -1 else bI (sp_on M 16)
set_option maxRecDepth 100000 in
set_option maxHeartbeats 400000 in
theorem c_X6_on_16 (ad : Nat → Nat) (M : am_M)  : am_C ydX6_on ad am_II [.ref (ad 0), .int 0] M (am_is (sp_onR_16 M) M) := by
  refine am_ofW (by decide +kernel) (by simp [Value.category]) (Nat.le_of_ble_eq_true rfl) rfl ?_
  refine am_aload_n rfl dX6_on_0 ?_
  refine am_iload_n rfl dX6_on_1 ?_
  refine am_callV (c_X6_axisOf_16 ad M) okX6_axisOf ml_X6_156 (by decide) rfl rfl rfl ⟨by decide, by decide⟩ (Nat.le_of_ble_eq_true rfl) rfl dX6_on_2 (fun r2 N2 p2 => ?_)
  obtain ⟨rfl, rfl⟩ := p2
  refine am_astore_n (by decide) dX6_on_5 ?_
  refine am_aload_n rfl dX6_on_6 ?_
  refine am_ifnull dX6_on_7 ?_
  refine am_aload_n rfl dX6_on_10 ?_
  refine am_geti (j := 2) (by decide) rfl rfl rfl hTX0 (by decide) fl_X6_187 dX6_on_11 ?_
  refine am_if_ne (tgt := 19) (by decide) dX6_on_14 (fun h14 => ?_) (fun h14 => ?_)
  · refine am_aload_n rfl dX6_on_19 ?_
    refine am_callVi (c_X0_isOn_16 ad M) okX0_isOn ml_X6_190 (by decide) rfl rfl rfl ⟨by decide, by decide⟩ (Nat.le_of_ble_eq_true rfl) rfl dX6_on_20 ?_
    refine am_ifb_eq (tgt := 30) (by decide) dX6_on_23 (fun h23 => ?_) (fun h23 => ?_)
    · refine am_iconst (v := 0) (by decide) dX6_on_30 ?_
      refine am_iret rfl dX6_on_31 ?_
      refine am_isE ?_
      simp_all [sp_onR_16, bI]
    · refine am_iconst (v := 1) (by decide) dX6_on_26 ?_
      refine am_goto (tgt := 31) (by decide) dX6_on_27 ?_
      refine am_iret rfl dX6_on_31 ?_
      refine am_isE ?_
      simp_all [sp_onR_16, bI]
  · refine am_iconst (v := (-1)) (by decide) dX6_on_17 ?_
    refine am_iret rfl dX6_on_18 ?_
    refine am_isE ?_
    simp_all [sp_onR_16, bI]
def sp_okHome_16 (M : am_M) : Bool := decide (¬ M 16 2 = 0) && !sp_goes M
set_option maxRecDepth 100000 in
set_option maxHeartbeats 400000 in
theorem c_X6_home_16 (ad : Nat → Nat) (M : am_M)  : am_C ydX6_home ad am_II [.ref (ad 0), .int 0] M (am_is (if sp_okHome_16 M = true then sp_made M 16 else -1) (if sp_okHome_16 M = true then sp_find M 16 else M)) := by
  refine am_ofW (by decide +kernel) (by simp [Value.category]) (Nat.le_of_ble_eq_true rfl) rfl ?_
  refine am_aload_n rfl dX6_home_0 ?_
  refine am_iload_n rfl dX6_home_1 ?_
  refine am_callV (c_X6_axisOf_16 ad M) okX6_axisOf ml_X6_156 (by decide) rfl rfl rfl ⟨by decide, by decide⟩ (Nat.le_of_ble_eq_true rfl) rfl dX6_home_2 (fun r2 N2 p2 => ?_)
  obtain ⟨rfl, rfl⟩ := p2
  refine am_astore_n (by decide) dX6_home_5 ?_
  refine am_aload_n rfl dX6_home_6 ?_
  refine am_ifnull dX6_home_7 ?_
  refine am_aload_n rfl dX6_home_10 ?_
  refine am_geti (j := 2) (by decide) rfl rfl rfl hTX0 (by decide) fl_X6_187 dX6_home_11 ?_
  refine am_if_eq (tgt := 27) (by decide) dX6_home_14 (fun h14 => ?_) (fun h14 => ?_)
  · refine am_iconst (v := (-1)) (by decide) dX6_home_27 ?_
    refine am_iret rfl dX6_home_28 ?_
    first | (rw [if_pos (show sp_okHome_16 M = true by simp_all [sp_okHome_16]), if_pos (show sp_okHome_16 M = true by simp_all [sp_okHome_16])]; exact ⟨rfl, rfl⟩) | (have e9 : ¬ sp_okHome_16 M = true := (by simp_all [sp_okHome_16]); rw [if_neg e9, if_neg e9]; exact ⟨rfl, rfl⟩)
  · refine am_aload_n rfl dX6_home_17 ?_
    refine am_getr (j := 4) (by decide) rfl rfl rfl hTX6 (by decide) fl_X6_38 dX6_home_18 ?_
    refine am_callVi (c_X2_goesOn ad M) okX2_goesOn ml_X6_62 (by decide) rfl rfl rfl ⟨by decide, by decide⟩ (Nat.le_of_ble_eq_true rfl) rfl dX6_home_21 ?_
    refine am_ifb_eq (tgt := 29) (by decide) dX6_home_24 (fun h24 => ?_) (fun h24 => ?_)
    · refine am_aload_n rfl dX6_home_29 ?_
      refine am_callVi (c_X0_findSwitch_16 ad M) okX0_findSwitch ml_X6_193 (by decide) rfl rfl rfl ⟨by decide, by decide⟩ (Nat.le_of_ble_eq_true rfl) rfl dX6_home_30 ?_
      refine am_iret rfl dX6_home_33 ?_
      first | (rw [if_pos (show sp_okHome_16 M = true by simp_all [sp_okHome_16]), if_pos (show sp_okHome_16 M = true by simp_all [sp_okHome_16])]; exact ⟨rfl, rfl⟩) | (have e9 : ¬ sp_okHome_16 M = true := (by simp_all [sp_okHome_16]); rw [if_neg e9, if_neg e9]; exact ⟨rfl, rfl⟩)
    · refine am_iconst (v := (-1)) (by decide) dX6_home_27 ?_
      refine am_iret rfl dX6_home_28 ?_
      first | (rw [if_pos (show sp_okHome_16 M = true by simp_all [sp_okHome_16]), if_pos (show sp_okHome_16 M = true by simp_all [sp_okHome_16])]; exact ⟨rfl, rfl⟩) | (have e9 : ¬ sp_okHome_16 M = true := (by simp_all [sp_okHome_16]); rw [if_neg e9, if_neg e9]; exact ⟨rfl, rfl⟩)
set_option maxRecDepth 100000 in
set_option maxHeartbeats 400000 in
theorem c_X6_place_16 (ad : Nat → Nat) (M : am_M) (b : Bool) : am_C ydX6_place ad am_II [.ref (ad 0), .int 0, .int (bI b)] M (am_is (if b = true then M 16 1 else M 16 0) M) := by
  refine am_ofW (by decide +kernel) (by simp [Value.category]) (Nat.le_of_ble_eq_true rfl) rfl ?_
  refine am_aload_n rfl dX6_place_0 ?_
  refine am_iload_n rfl dX6_place_1 ?_
  refine am_callV (c_X6_axisOf_16 ad M) okX6_axisOf ml_X6_156 (by decide) rfl rfl rfl ⟨by decide, by decide⟩ (Nat.le_of_ble_eq_true rfl) rfl dX6_place_2 (fun r2 N2 p2 => ?_)
  obtain ⟨rfl, rfl⟩ := p2
  refine am_astore_n (by decide) dX6_place_5 ?_
  refine am_aload_n rfl dX6_place_6 ?_
  refine am_ifnonnull (tgt := 18) (by decide) dX6_place_7 ?_
  refine am_iload_n rfl dX6_place_18 ?_
  refine am_if_eq (tgt := 29) (by decide) dX6_place_19 (fun h19 => ?_) (fun h19 => ?_)
  · refine am_aload_n rfl dX6_place_29 ?_
    refine am_geti (j := 0) (by decide) rfl rfl rfl hTX0 (by decide) fl_X6_166 dX6_place_30 ?_
    refine am_iret rfl dX6_place_33 ?_
    refine am_isE ?_
    simp_all [bI_0]
  · refine am_aload_n rfl dX6_place_22 ?_
    refine am_geti (j := 1) (by decide) rfl rfl rfl hTX0 (by decide) fl_X6_163 dX6_place_23 ?_
    refine am_goto (tgt := 33) (by decide) dX6_place_26 ?_
    refine am_iret rfl dX6_place_33 ?_
    refine am_isE ?_
    simp_all [bI_0]
set_option maxRecDepth 100000 in
set_option maxHeartbeats 400000 in
theorem c_X6_at_17 (ad : Nat → Nat) (M : am_M) (s : Int32) : am_C ydX6_at ad am_II [.ref (ad 0), .int 1, .int s] M (am_is (bI (sp_in s (-2000) 2000)) (if sp_in s (-2000) 2000 = true then sp_putSw M 17 s else M)) := by
  refine am_ofW (by decide +kernel) (by simp [Value.category]) (Nat.le_of_ble_eq_true rfl) rfl ?_
  refine am_aload_n rfl dX6_at_0 ?_
  refine am_iload_n rfl dX6_at_1 ?_
  refine am_callV (c_X6_axisOf_17 ad M) okX6_axisOf ml_X6_156 (by decide) rfl rfl rfl ⟨by decide, by decide⟩ (Nat.le_of_ble_eq_true rfl) rfl dX6_at_2 (fun r2 N2 p2 => ?_)
  obtain ⟨rfl, rfl⟩ := p2
  refine am_astore_n (by decide) dX6_at_5 ?_
  refine am_aload_n rfl dX6_at_6 ?_
  refine am_ifnull dX6_at_7 ?_
  refine am_iload_n rfl dX6_at_10 ?_
  refine am_sipush (v := (-2000)) (by decide) dX6_at_11 ?_
  refine am_sipush (v := 2000) (by decide) dX6_at_14 ?_
  refine am_callSi (c_X6_isWithin ad M _ _ _) okX6_isWithin ml_X6_66 rfl ⟨by decide, by decide⟩ (Nat.le_of_ble_eq_true rfl) rfl dX6_at_17 ?_
  refine am_ifb_ne (tgt := 25) (by decide) dX6_at_20 (fun h20 => ?_) (fun h20 => ?_)
  · refine am_aload_n rfl dX6_at_25 ?_
    refine am_iload_n rfl dX6_at_26 ?_
    refine am_callVv (c_X0_putSwitch_17 ad M _) okX0_putSwitch ml_X6_184 (by decide) rfl rfl rfl ⟨by decide, by decide⟩ (Nat.le_of_ble_eq_true rfl) rfl dX6_at_27 ?_
    refine am_iconst (v := 1) (by decide) dX6_at_30 ?_
    refine am_zret rfl (by first | exact am_nb _ | decide) dX6_at_31 ?_
    refine am_isTc ?_ rfl
    simp_all [bI]
  · refine am_iconst (v := 0) (by decide) dX6_at_23 ?_
    refine am_zret rfl (by first | exact am_nb _ | decide) dX6_at_24 ?_
    refine am_isFc ?_ rfl
    simp_all [bI]
def sp_onR_17 (M : am_M) : Int32 := if M 17 2 = 0 then -1 else bI (sp_on M 17)
set_option maxRecDepth 100000 in
set_option maxHeartbeats 400000 in
theorem c_X6_on_17 (ad : Nat → Nat) (M : am_M)  : am_C ydX6_on ad am_II [.ref (ad 0), .int 1] M (am_is (sp_onR_17 M) M) := by
  refine am_ofW (by decide +kernel) (by simp [Value.category]) (Nat.le_of_ble_eq_true rfl) rfl ?_
  refine am_aload_n rfl dX6_on_0 ?_
  refine am_iload_n rfl dX6_on_1 ?_
  refine am_callV (c_X6_axisOf_17 ad M) okX6_axisOf ml_X6_156 (by decide) rfl rfl rfl ⟨by decide, by decide⟩ (Nat.le_of_ble_eq_true rfl) rfl dX6_on_2 (fun r2 N2 p2 => ?_)
  obtain ⟨rfl, rfl⟩ := p2
  refine am_astore_n (by decide) dX6_on_5 ?_
  refine am_aload_n rfl dX6_on_6 ?_
  refine am_ifnull dX6_on_7 ?_
  refine am_aload_n rfl dX6_on_10 ?_
  refine am_geti (j := 2) (by decide) rfl rfl rfl hTX0 (by decide) fl_X6_187 dX6_on_11 ?_
  refine am_if_ne (tgt := 19) (by decide) dX6_on_14 (fun h14 => ?_) (fun h14 => ?_)
  · refine am_aload_n rfl dX6_on_19 ?_
    refine am_callVi (c_X0_isOn_17 ad M) okX0_isOn ml_X6_190 (by decide) rfl rfl rfl ⟨by decide, by decide⟩ (Nat.le_of_ble_eq_true rfl) rfl dX6_on_20 ?_
    refine am_ifb_eq (tgt := 30) (by decide) dX6_on_23 (fun h23 => ?_) (fun h23 => ?_)
    · refine am_iconst (v := 0) (by decide) dX6_on_30 ?_
      refine am_iret rfl dX6_on_31 ?_
      refine am_isE ?_
      simp_all [sp_onR_17, bI]
    · refine am_iconst (v := 1) (by decide) dX6_on_26 ?_
      refine am_goto (tgt := 31) (by decide) dX6_on_27 ?_
      refine am_iret rfl dX6_on_31 ?_
      refine am_isE ?_
      simp_all [sp_onR_17, bI]
  · refine am_iconst (v := (-1)) (by decide) dX6_on_17 ?_
    refine am_iret rfl dX6_on_18 ?_
    refine am_isE ?_
    simp_all [sp_onR_17, bI]
def sp_okHome_17 (M : am_M) : Bool := decide (¬ M 17 2 = 0) && !sp_goes M
set_option maxRecDepth 100000 in
set_option maxHeartbeats 400000 in
theorem c_X6_home_17 (ad : Nat → Nat) (M : am_M)  : am_C ydX6_home ad am_II [.ref (ad 0), .int 1] M (am_is (if sp_okHome_17 M = true then sp_made M 17 else -1) (if sp_okHome_17 M = true then sp_find M 17 else M)) := by
  refine am_ofW (by decide +kernel) (by simp [Value.category]) (Nat.le_of_ble_eq_true rfl) rfl ?_
  refine am_aload_n rfl dX6_home_0 ?_
  refine am_iload_n rfl dX6_home_1 ?_
  refine am_callV (c_X6_axisOf_17 ad M) okX6_axisOf ml_X6_156 (by decide) rfl rfl rfl ⟨by decide, by decide⟩ (Nat.le_of_ble_eq_true rfl) rfl dX6_home_2 (fun r2 N2 p2 => ?_)
  obtain ⟨rfl, rfl⟩ := p2
  refine am_astore_n (by decide) dX6_home_5 ?_
  refine am_aload_n rfl dX6_home_6 ?_
  refine am_ifnull dX6_home_7 ?_
  refine am_aload_n rfl dX6_home_10 ?_
  refine am_geti (j := 2) (by decide) rfl rfl rfl hTX0 (by decide) fl_X6_187 dX6_home_11 ?_
  refine am_if_eq (tgt := 27) (by decide) dX6_home_14 (fun h14 => ?_) (fun h14 => ?_)
  · refine am_iconst (v := (-1)) (by decide) dX6_home_27 ?_
    refine am_iret rfl dX6_home_28 ?_
    first | (rw [if_pos (show sp_okHome_17 M = true by simp_all [sp_okHome_17]), if_pos (show sp_okHome_17 M = true by simp_all [sp_okHome_17])]; exact ⟨rfl, rfl⟩) | (have e9 : ¬ sp_okHome_17 M = true := (by simp_all [sp_okHome_17]); rw [if_neg e9, if_neg e9]; exact ⟨rfl, rfl⟩)
  · refine am_aload_n rfl dX6_home_17 ?_
    refine am_getr (j := 4) (by decide) rfl rfl rfl hTX6 (by decide) fl_X6_38 dX6_home_18 ?_
    refine am_callVi (c_X2_goesOn ad M) okX2_goesOn ml_X6_62 (by decide) rfl rfl rfl ⟨by decide, by decide⟩ (Nat.le_of_ble_eq_true rfl) rfl dX6_home_21 ?_
    refine am_ifb_eq (tgt := 29) (by decide) dX6_home_24 (fun h24 => ?_) (fun h24 => ?_)
    · refine am_aload_n rfl dX6_home_29 ?_
      refine am_callVi (c_X0_findSwitch_17 ad M) okX0_findSwitch ml_X6_193 (by decide) rfl rfl rfl ⟨by decide, by decide⟩ (Nat.le_of_ble_eq_true rfl) rfl dX6_home_30 ?_
      refine am_iret rfl dX6_home_33 ?_
      first | (rw [if_pos (show sp_okHome_17 M = true by simp_all [sp_okHome_17]), if_pos (show sp_okHome_17 M = true by simp_all [sp_okHome_17])]; exact ⟨rfl, rfl⟩) | (have e9 : ¬ sp_okHome_17 M = true := (by simp_all [sp_okHome_17]); rw [if_neg e9, if_neg e9]; exact ⟨rfl, rfl⟩)
    · refine am_iconst (v := (-1)) (by decide) dX6_home_27 ?_
      refine am_iret rfl dX6_home_28 ?_
      first | (rw [if_pos (show sp_okHome_17 M = true by simp_all [sp_okHome_17]), if_pos (show sp_okHome_17 M = true by simp_all [sp_okHome_17])]; exact ⟨rfl, rfl⟩) | (have e9 : ¬ sp_okHome_17 M = true := (by simp_all [sp_okHome_17]); rw [if_neg e9, if_neg e9]; exact ⟨rfl, rfl⟩)
set_option maxRecDepth 100000 in
set_option maxHeartbeats 400000 in
theorem c_X6_place_17 (ad : Nat → Nat) (M : am_M) (b : Bool) : am_C ydX6_place ad am_II [.ref (ad 0), .int 1, .int (bI b)] M (am_is (if b = true then M 17 1 else M 17 0) M) := by
  refine am_ofW (by decide +kernel) (by simp [Value.category]) (Nat.le_of_ble_eq_true rfl) rfl ?_
  refine am_aload_n rfl dX6_place_0 ?_
  refine am_iload_n rfl dX6_place_1 ?_
  refine am_callV (c_X6_axisOf_17 ad M) okX6_axisOf ml_X6_156 (by decide) rfl rfl rfl ⟨by decide, by decide⟩ (Nat.le_of_ble_eq_true rfl) rfl dX6_place_2 (fun r2 N2 p2 => ?_)
  obtain ⟨rfl, rfl⟩ := p2
  refine am_astore_n (by decide) dX6_place_5 ?_
  refine am_aload_n rfl dX6_place_6 ?_
  refine am_ifnonnull (tgt := 18) (by decide) dX6_place_7 ?_
  refine am_iload_n rfl dX6_place_18 ?_
  refine am_if_eq (tgt := 29) (by decide) dX6_place_19 (fun h19 => ?_) (fun h19 => ?_)
  · refine am_aload_n rfl dX6_place_29 ?_
    refine am_geti (j := 0) (by decide) rfl rfl rfl hTX0 (by decide) fl_X6_166 dX6_place_30 ?_
    refine am_iret rfl dX6_place_33 ?_
    refine am_isE ?_
    simp_all [bI_0]
  · refine am_aload_n rfl dX6_place_22 ?_
    refine am_geti (j := 1) (by decide) rfl rfl rfl hTX0 (by decide) fl_X6_163 dX6_place_23 ?_
    refine am_goto (tgt := 33) (by decide) dX6_place_26 ?_
    refine am_iret rfl dX6_place_33 ?_
    refine am_isE ?_
    simp_all [bI_0]
set_option maxRecDepth 100000 in
set_option maxHeartbeats 400000 in
theorem c_X6_at_18 (ad : Nat → Nat) (M : am_M) (s : Int32) : am_C ydX6_at ad am_II [.ref (ad 0), .int 2, .int s] M (am_is (bI (sp_in s (-2000) 2000)) (if sp_in s (-2000) 2000 = true then sp_putSw M 18 s else M)) := by
  refine am_ofW (by decide +kernel) (by simp [Value.category]) (Nat.le_of_ble_eq_true rfl) rfl ?_
  refine am_aload_n rfl dX6_at_0 ?_
  refine am_iload_n rfl dX6_at_1 ?_
  refine am_callV (c_X6_axisOf_18 ad M) okX6_axisOf ml_X6_156 (by decide) rfl rfl rfl ⟨by decide, by decide⟩ (Nat.le_of_ble_eq_true rfl) rfl dX6_at_2 (fun r2 N2 p2 => ?_)
  obtain ⟨rfl, rfl⟩ := p2
  refine am_astore_n (by decide) dX6_at_5 ?_
  refine am_aload_n rfl dX6_at_6 ?_
  refine am_ifnull dX6_at_7 ?_
  refine am_iload_n rfl dX6_at_10 ?_
  refine am_sipush (v := (-2000)) (by decide) dX6_at_11 ?_
  refine am_sipush (v := 2000) (by decide) dX6_at_14 ?_
  refine am_callSi (c_X6_isWithin ad M _ _ _) okX6_isWithin ml_X6_66 rfl ⟨by decide, by decide⟩ (Nat.le_of_ble_eq_true rfl) rfl dX6_at_17 ?_
  refine am_ifb_ne (tgt := 25) (by decide) dX6_at_20 (fun h20 => ?_) (fun h20 => ?_)
  · refine am_aload_n rfl dX6_at_25 ?_
    refine am_iload_n rfl dX6_at_26 ?_
    refine am_callVv (c_X0_putSwitch_18 ad M _) okX0_putSwitch ml_X6_184 (by decide) rfl rfl rfl ⟨by decide, by decide⟩ (Nat.le_of_ble_eq_true rfl) rfl dX6_at_27 ?_
    refine am_iconst (v := 1) (by decide) dX6_at_30 ?_
    refine am_zret rfl (by first | exact am_nb _ | decide) dX6_at_31 ?_
    refine am_isTc ?_ rfl
    simp_all [bI]
  · refine am_iconst (v := 0) (by decide) dX6_at_23 ?_
    refine am_zret rfl (by first | exact am_nb _ | decide) dX6_at_24 ?_
    refine am_isFc ?_ rfl
    simp_all [bI]
def sp_onR_18 (M : am_M) : Int32 := if M 18 2 = 0 then -1 else bI (sp_on M 18)
set_option maxRecDepth 100000 in
set_option maxHeartbeats 400000 in
theorem c_X6_on_18 (ad : Nat → Nat) (M : am_M)  : am_C ydX6_on ad am_II [.ref (ad 0), .int 2] M (am_is (sp_onR_18 M) M) := by
  refine am_ofW (by decide +kernel) (by simp [Value.category]) (Nat.le_of_ble_eq_true rfl) rfl ?_
  refine am_aload_n rfl dX6_on_0 ?_
  refine am_iload_n rfl dX6_on_1 ?_
  refine am_callV (c_X6_axisOf_18 ad M) okX6_axisOf ml_X6_156 (by decide) rfl rfl rfl ⟨by decide, by decide⟩ (Nat.le_of_ble_eq_true rfl) rfl dX6_on_2 (fun r2 N2 p2 => ?_)
  obtain ⟨rfl, rfl⟩ := p2
  refine am_astore_n (by decide) dX6_on_5 ?_
  refine am_aload_n rfl dX6_on_6 ?_
  refine am_ifnull dX6_on_7 ?_
  refine am_aload_n rfl dX6_on_10 ?_
  refine am_geti (j := 2) (by decide) rfl rfl rfl hTX0 (by decide) fl_X6_187 dX6_on_11 ?_
  refine am_if_ne (tgt := 19) (by decide) dX6_on_14 (fun h14 => ?_) (fun h14 => ?_)
  · refine am_aload_n rfl dX6_on_19 ?_
    refine am_callVi (c_X0_isOn_18 ad M) okX0_isOn ml_X6_190 (by decide) rfl rfl rfl ⟨by decide, by decide⟩ (Nat.le_of_ble_eq_true rfl) rfl dX6_on_20 ?_
    refine am_ifb_eq (tgt := 30) (by decide) dX6_on_23 (fun h23 => ?_) (fun h23 => ?_)
    · refine am_iconst (v := 0) (by decide) dX6_on_30 ?_
      refine am_iret rfl dX6_on_31 ?_
      refine am_isE ?_
      simp_all [sp_onR_18, bI]
    · refine am_iconst (v := 1) (by decide) dX6_on_26 ?_
      refine am_goto (tgt := 31) (by decide) dX6_on_27 ?_
      refine am_iret rfl dX6_on_31 ?_
      refine am_isE ?_
      simp_all [sp_onR_18, bI]
  · refine am_iconst (v := (-1)) (by decide) dX6_on_17 ?_
    refine am_iret rfl dX6_on_18 ?_
    refine am_isE ?_
    simp_all [sp_onR_18, bI]
def sp_okHome_18 (M : am_M) : Bool := decide (¬ M 18 2 = 0) && !sp_goes M
set_option maxRecDepth 100000 in
set_option maxHeartbeats 400000 in
theorem c_X6_home_18 (ad : Nat → Nat) (M : am_M)  : am_C ydX6_home ad am_II [.ref (ad 0), .int 2] M (am_is (if sp_okHome_18 M = true then sp_made M 18 else -1) (if sp_okHome_18 M = true then sp_find M 18 else M)) := by
  refine am_ofW (by decide +kernel) (by simp [Value.category]) (Nat.le_of_ble_eq_true rfl) rfl ?_
  refine am_aload_n rfl dX6_home_0 ?_
  refine am_iload_n rfl dX6_home_1 ?_
  refine am_callV (c_X6_axisOf_18 ad M) okX6_axisOf ml_X6_156 (by decide) rfl rfl rfl ⟨by decide, by decide⟩ (Nat.le_of_ble_eq_true rfl) rfl dX6_home_2 (fun r2 N2 p2 => ?_)
  obtain ⟨rfl, rfl⟩ := p2
  refine am_astore_n (by decide) dX6_home_5 ?_
  refine am_aload_n rfl dX6_home_6 ?_
  refine am_ifnull dX6_home_7 ?_
  refine am_aload_n rfl dX6_home_10 ?_
  refine am_geti (j := 2) (by decide) rfl rfl rfl hTX0 (by decide) fl_X6_187 dX6_home_11 ?_
  refine am_if_eq (tgt := 27) (by decide) dX6_home_14 (fun h14 => ?_) (fun h14 => ?_)
  · refine am_iconst (v := (-1)) (by decide) dX6_home_27 ?_
    refine am_iret rfl dX6_home_28 ?_
    first | (rw [if_pos (show sp_okHome_18 M = true by simp_all [sp_okHome_18]), if_pos (show sp_okHome_18 M = true by simp_all [sp_okHome_18])]; exact ⟨rfl, rfl⟩) | (have e9 : ¬ sp_okHome_18 M = true := (by simp_all [sp_okHome_18]); rw [if_neg e9, if_neg e9]; exact ⟨rfl, rfl⟩)
  · refine am_aload_n rfl dX6_home_17 ?_
    refine am_getr (j := 4) (by decide) rfl rfl rfl hTX6 (by decide) fl_X6_38 dX6_home_18 ?_
    refine am_callVi (c_X2_goesOn ad M) okX2_goesOn ml_X6_62 (by decide) rfl rfl rfl ⟨by decide, by decide⟩ (Nat.le_of_ble_eq_true rfl) rfl dX6_home_21 ?_
    refine am_ifb_eq (tgt := 29) (by decide) dX6_home_24 (fun h24 => ?_) (fun h24 => ?_)
    · refine am_aload_n rfl dX6_home_29 ?_
      refine am_callVi (c_X0_findSwitch_18 ad M) okX0_findSwitch ml_X6_193 (by decide) rfl rfl rfl ⟨by decide, by decide⟩ (Nat.le_of_ble_eq_true rfl) rfl dX6_home_30 ?_
      refine am_iret rfl dX6_home_33 ?_
      first | (rw [if_pos (show sp_okHome_18 M = true by simp_all [sp_okHome_18]), if_pos (show sp_okHome_18 M = true by simp_all [sp_okHome_18])]; exact ⟨rfl, rfl⟩) | (have e9 : ¬ sp_okHome_18 M = true := (by simp_all [sp_okHome_18]); rw [if_neg e9, if_neg e9]; exact ⟨rfl, rfl⟩)
    · refine am_iconst (v := (-1)) (by decide) dX6_home_27 ?_
      refine am_iret rfl dX6_home_28 ?_
      first | (rw [if_pos (show sp_okHome_18 M = true by simp_all [sp_okHome_18]), if_pos (show sp_okHome_18 M = true by simp_all [sp_okHome_18])]; exact ⟨rfl, rfl⟩) | (have e9 : ¬ sp_okHome_18 M = true := (by simp_all [sp_okHome_18]); rw [if_neg e9, if_neg e9]; exact ⟨rfl, rfl⟩)
set_option maxRecDepth 100000 in
set_option maxHeartbeats 400000 in
theorem c_X6_place_18 (ad : Nat → Nat) (M : am_M) (b : Bool) : am_C ydX6_place ad am_II [.ref (ad 0), .int 2, .int (bI b)] M (am_is (if b = true then M 18 1 else M 18 0) M) := by
  refine am_ofW (by decide +kernel) (by simp [Value.category]) (Nat.le_of_ble_eq_true rfl) rfl ?_
  refine am_aload_n rfl dX6_place_0 ?_
  refine am_iload_n rfl dX6_place_1 ?_
  refine am_callV (c_X6_axisOf_18 ad M) okX6_axisOf ml_X6_156 (by decide) rfl rfl rfl ⟨by decide, by decide⟩ (Nat.le_of_ble_eq_true rfl) rfl dX6_place_2 (fun r2 N2 p2 => ?_)
  obtain ⟨rfl, rfl⟩ := p2
  refine am_astore_n (by decide) dX6_place_5 ?_
  refine am_aload_n rfl dX6_place_6 ?_
  refine am_ifnonnull (tgt := 18) (by decide) dX6_place_7 ?_
  refine am_iload_n rfl dX6_place_18 ?_
  refine am_if_eq (tgt := 29) (by decide) dX6_place_19 (fun h19 => ?_) (fun h19 => ?_)
  · refine am_aload_n rfl dX6_place_29 ?_
    refine am_geti (j := 0) (by decide) rfl rfl rfl hTX0 (by decide) fl_X6_166 dX6_place_30 ?_
    refine am_iret rfl dX6_place_33 ?_
    refine am_isE ?_
    simp_all [bI_0]
  · refine am_aload_n rfl dX6_place_22 ?_
    refine am_geti (j := 1) (by decide) rfl rfl rfl hTX0 (by decide) fl_X6_163 dX6_place_23 ?_
    refine am_goto (tgt := 33) (by decide) dX6_place_26 ?_
    refine am_iret rfl dX6_place_33 ?_
    refine am_isE ?_
    simp_all [bI_0]
set_option maxRecDepth 100000 in
set_option maxHeartbeats 400000 in
theorem c_X6_at_N (ad : Nat → Nat) (M : am_M) (x s : Int32) (hx : sp_noax x) : am_C ydX6_at ad am_II [.ref (ad 0), .int x, .int s] M (am_is (bI false) M) := by
  refine am_ofW (by decide +kernel) (by simp [Value.category]) (Nat.le_of_ble_eq_true rfl) rfl ?_
  refine am_aload_n rfl dX6_at_0 ?_
  refine am_iload_n rfl dX6_at_1 ?_
  refine am_callV (c_X6_axisOf_N ad M _ hx) okX6_axisOf ml_X6_156 (by decide) rfl rfl rfl ⟨by decide, by decide⟩ (Nat.le_of_ble_eq_true rfl) rfl dX6_at_2 (fun r2 N2 p2 => ?_)
  obtain ⟨rfl, rfl⟩ := p2
  refine am_astore_nN (by decide) dX6_at_5 ?_
  refine am_aload_nN rfl dX6_at_6 ?_
  refine am_ifnullN (tgt := 23) (by decide) dX6_at_7 ?_
  refine am_iconst (v := 0) (by decide) dX6_at_23 ?_
  refine am_zret rfl (by first | exact am_nb _ | decide) dX6_at_24 ?_
  exact ⟨rfl, rfl⟩
set_option maxRecDepth 100000 in
set_option maxHeartbeats 400000 in
theorem c_X6_on_N (ad : Nat → Nat) (M : am_M) (x : Int32) (hx : sp_noax x) : am_C ydX6_on ad am_II [.ref (ad 0), .int x] M (am_is (-1) M) := by
  refine am_ofW (by decide +kernel) (by simp [Value.category]) (Nat.le_of_ble_eq_true rfl) rfl ?_
  refine am_aload_n rfl dX6_on_0 ?_
  refine am_iload_n rfl dX6_on_1 ?_
  refine am_callV (c_X6_axisOf_N ad M _ hx) okX6_axisOf ml_X6_156 (by decide) rfl rfl rfl ⟨by decide, by decide⟩ (Nat.le_of_ble_eq_true rfl) rfl dX6_on_2 (fun r2 N2 p2 => ?_)
  obtain ⟨rfl, rfl⟩ := p2
  refine am_astore_nN (by decide) dX6_on_5 ?_
  refine am_aload_nN rfl dX6_on_6 ?_
  refine am_ifnullN (tgt := 17) (by decide) dX6_on_7 ?_
  refine am_iconst (v := (-1)) (by decide) dX6_on_17 ?_
  refine am_iret rfl dX6_on_18 ?_
  exact ⟨rfl, rfl⟩
set_option maxRecDepth 100000 in
set_option maxHeartbeats 400000 in
theorem c_X6_home_N (ad : Nat → Nat) (M : am_M) (x : Int32) (hx : sp_noax x) : am_C ydX6_home ad am_II [.ref (ad 0), .int x] M (am_is (-1) M) := by
  refine am_ofW (by decide +kernel) (by simp [Value.category]) (Nat.le_of_ble_eq_true rfl) rfl ?_
  refine am_aload_n rfl dX6_home_0 ?_
  refine am_iload_n rfl dX6_home_1 ?_
  refine am_callV (c_X6_axisOf_N ad M _ hx) okX6_axisOf ml_X6_156 (by decide) rfl rfl rfl ⟨by decide, by decide⟩ (Nat.le_of_ble_eq_true rfl) rfl dX6_home_2 (fun r2 N2 p2 => ?_)
  obtain ⟨rfl, rfl⟩ := p2
  refine am_astore_nN (by decide) dX6_home_5 ?_
  refine am_aload_nN rfl dX6_home_6 ?_
  refine am_ifnullN (tgt := 27) (by decide) dX6_home_7 ?_
  refine am_iconst (v := (-1)) (by decide) dX6_home_27 ?_
  refine am_iret rfl dX6_home_28 ?_
  exact ⟨rfl, rfl⟩
set_option maxRecDepth 100000 in
set_option maxHeartbeats 400000 in
theorem c_X1_layN (ad : Nat → Nat) (M : am_M) (n l : Int32) (hn : n = 1 ∨ n = 2 ∨ n = 4 ∨ n = 8) : am_C ydX1_lay ad am_II [.ref (ad 19), .int n, .int l] M (am_un (sp_layN M n l)) := by
  rcases hn with rfl | rfl | rfl | rfl
  · exact c_X1_lay ad am_II (by decide) (by decide) M 1 (Or.inl rfl) l
  · exact c_X1_lay ad am_II (by decide) (by decide) M 2 (Or.inr (Or.inl rfl)) l
  · exact c_X1_lay ad am_II (by decide) (by decide) M 4 (Or.inr (Or.inr (Or.inl rfl))) l
  · exact c_X1_lay ad am_II (by decide) (by decide) M 8 (Or.inr (Or.inr (Or.inr rfl))) l
set_option maxRecDepth 100000 in
set_option maxHeartbeats 400000 in
theorem c_X6_table (ad : Nat → Nat) (M : am_M) (n l : Int32) : am_C ydX6_table ad am_II [.ref (ad 0), .int n, .int l] M (am_is (bI (sp_okTab n l)) (if sp_okTab n l = true then sp_layN M n l else M)) := by
  refine am_ofW (by decide +kernel) (by simp [Value.category]) (Nat.le_of_ble_eq_true rfl) rfl ?_
  refine am_iload_n rfl dX6_table_0 ?_
  refine am_iconst (v := 1) (by decide) dX6_table_1 ?_
  refine am_icmp_eq (tgt := 21) (by decide) dX6_table_2 (fun h2 => ?_) (fun h2 => ?_)
  · refine am_iconst (v := 1) (by decide) dX6_table_21 ?_
    refine am_goto (tgt := 26) (by decide) dX6_table_22 ?_
    refine am_istore_n (by decide) dX6_table_26 ?_
    refine am_iload_n rfl dX6_table_27 ?_
    refine am_if_eq (tgt := 41) (by decide) dX6_table_28 (fun h28 => absurd h28 (by decide)) (fun h28 => ?_)
    refine am_iload_n rfl dX6_table_31 ?_
    refine am_iconst (v := 1) (by decide) dX6_table_32 ?_
    refine am_bipush (v := 100) (by decide) dX6_table_33 ?_
    refine am_callSi (c_X6_isWithin ad M _ _ _) okX6_isWithin ml_X6_66 rfl ⟨by decide, by decide⟩ (Nat.le_of_ble_eq_true rfl) rfl dX6_table_35 ?_
    refine am_ifb_ne (tgt := 43) (by decide) dX6_table_38 (fun h38 => ?_) (fun h38 => ?_)
    · refine am_aload_n rfl dX6_table_43 ?_
      refine am_getr (j := 8) (by decide) rfl rfl rfl hTX6 (by decide) fl_X6_58 dX6_table_44 ?_
      refine am_iload_n rfl dX6_table_47 ?_
      refine am_iload_n rfl dX6_table_48 ?_
      refine am_callVv (c_X1_layN ad M _ _ (by simp_all)) okX1_lay ml_X6_197 (by decide) rfl rfl rfl ⟨by decide, by decide⟩ (Nat.le_of_ble_eq_true rfl) rfl dX6_table_49 ?_
      refine am_iconst (v := 1) (by decide) dX6_table_52 ?_
      refine am_zret rfl (by first | exact am_nb _ | decide) dX6_table_53 ?_
      refine am_isTc ?_ rfl
      simp_all [sp_okTab]
    · refine am_iconst (v := 0) (by decide) dX6_table_41 ?_
      refine am_zret rfl (by first | exact am_nb _ | decide) dX6_table_42 ?_
      refine am_isFc ?_ rfl
      simp_all [sp_okTab]
  · refine am_iload_n rfl dX6_table_5 ?_
    refine am_iconst (v := 2) (by decide) dX6_table_6 ?_
    refine am_icmp_eq (tgt := 21) (by decide) dX6_table_7 (fun h7 => ?_) (fun h7 => ?_)
    · refine am_iconst (v := 1) (by decide) dX6_table_21 ?_
      refine am_goto (tgt := 26) (by decide) dX6_table_22 ?_
      refine am_istore_n (by decide) dX6_table_26 ?_
      refine am_iload_n rfl dX6_table_27 ?_
      refine am_if_eq (tgt := 41) (by decide) dX6_table_28 (fun h28 => absurd h28 (by decide)) (fun h28 => ?_)
      refine am_iload_n rfl dX6_table_31 ?_
      refine am_iconst (v := 1) (by decide) dX6_table_32 ?_
      refine am_bipush (v := 100) (by decide) dX6_table_33 ?_
      refine am_callSi (c_X6_isWithin ad M _ _ _) okX6_isWithin ml_X6_66 rfl ⟨by decide, by decide⟩ (Nat.le_of_ble_eq_true rfl) rfl dX6_table_35 ?_
      refine am_ifb_ne (tgt := 43) (by decide) dX6_table_38 (fun h38 => ?_) (fun h38 => ?_)
      · refine am_aload_n rfl dX6_table_43 ?_
        refine am_getr (j := 8) (by decide) rfl rfl rfl hTX6 (by decide) fl_X6_58 dX6_table_44 ?_
        refine am_iload_n rfl dX6_table_47 ?_
        refine am_iload_n rfl dX6_table_48 ?_
        refine am_callVv (c_X1_layN ad M _ _ (by simp_all)) okX1_lay ml_X6_197 (by decide) rfl rfl rfl ⟨by decide, by decide⟩ (Nat.le_of_ble_eq_true rfl) rfl dX6_table_49 ?_
        refine am_iconst (v := 1) (by decide) dX6_table_52 ?_
        refine am_zret rfl (by first | exact am_nb _ | decide) dX6_table_53 ?_
        refine am_isTc ?_ rfl
        simp_all [sp_okTab]
      · refine am_iconst (v := 0) (by decide) dX6_table_41 ?_
        refine am_zret rfl (by first | exact am_nb _ | decide) dX6_table_42 ?_
        refine am_isFc ?_ rfl
        simp_all [sp_okTab]
    · refine am_iload_n rfl dX6_table_10 ?_
      refine am_iconst (v := 4) (by decide) dX6_table_11 ?_
      refine am_icmp_eq (tgt := 21) (by decide) dX6_table_12 (fun h12 => ?_) (fun h12 => ?_)
      · refine am_iconst (v := 1) (by decide) dX6_table_21 ?_
        refine am_goto (tgt := 26) (by decide) dX6_table_22 ?_
        refine am_istore_n (by decide) dX6_table_26 ?_
        refine am_iload_n rfl dX6_table_27 ?_
        refine am_if_eq (tgt := 41) (by decide) dX6_table_28 (fun h28 => absurd h28 (by decide)) (fun h28 => ?_)
        refine am_iload_n rfl dX6_table_31 ?_
        refine am_iconst (v := 1) (by decide) dX6_table_32 ?_
        refine am_bipush (v := 100) (by decide) dX6_table_33 ?_
        refine am_callSi (c_X6_isWithin ad M _ _ _) okX6_isWithin ml_X6_66 rfl ⟨by decide, by decide⟩ (Nat.le_of_ble_eq_true rfl) rfl dX6_table_35 ?_
        refine am_ifb_ne (tgt := 43) (by decide) dX6_table_38 (fun h38 => ?_) (fun h38 => ?_)
        · refine am_aload_n rfl dX6_table_43 ?_
          refine am_getr (j := 8) (by decide) rfl rfl rfl hTX6 (by decide) fl_X6_58 dX6_table_44 ?_
          refine am_iload_n rfl dX6_table_47 ?_
          refine am_iload_n rfl dX6_table_48 ?_
          refine am_callVv (c_X1_layN ad M _ _ (by simp_all)) okX1_lay ml_X6_197 (by decide) rfl rfl rfl ⟨by decide, by decide⟩ (Nat.le_of_ble_eq_true rfl) rfl dX6_table_49 ?_
          refine am_iconst (v := 1) (by decide) dX6_table_52 ?_
          refine am_zret rfl (by first | exact am_nb _ | decide) dX6_table_53 ?_
          refine am_isTc ?_ rfl
          simp_all [sp_okTab]
        · refine am_iconst (v := 0) (by decide) dX6_table_41 ?_
          refine am_zret rfl (by first | exact am_nb _ | decide) dX6_table_42 ?_
          refine am_isFc ?_ rfl
          simp_all [sp_okTab]
      · refine am_iload_n rfl dX6_table_15 ?_
        refine am_bipush (v := 8) (by decide) dX6_table_16 ?_
        refine am_icmp_ne (tgt := 25) (by decide) dX6_table_18 (fun h18 => ?_) (fun h18 => ?_)
        · refine am_iconst (v := 0) (by decide) dX6_table_25 ?_
          refine am_istore_n (by decide) dX6_table_26 ?_
          refine am_iload_n rfl dX6_table_27 ?_
          refine am_if_eq (tgt := 41) (by decide) dX6_table_28 (fun h28 => ?_) (fun h28 => absurd h28 (by decide))
          refine am_iconst (v := 0) (by decide) dX6_table_41 ?_
          refine am_zret rfl (by first | exact am_nb _ | decide) dX6_table_42 ?_
          refine am_isFc ?_ rfl
          simp_all [sp_okTab]
        · refine am_iconst (v := 1) (by decide) dX6_table_21 ?_
          refine am_goto (tgt := 26) (by decide) dX6_table_22 ?_
          refine am_istore_n (by decide) dX6_table_26 ?_
          refine am_iload_n rfl dX6_table_27 ?_
          refine am_if_eq (tgt := 41) (by decide) dX6_table_28 (fun h28 => absurd h28 (by decide)) (fun h28 => ?_)
          refine am_iload_n rfl dX6_table_31 ?_
          refine am_iconst (v := 1) (by decide) dX6_table_32 ?_
          refine am_bipush (v := 100) (by decide) dX6_table_33 ?_
          refine am_callSi (c_X6_isWithin ad M _ _ _) okX6_isWithin ml_X6_66 rfl ⟨by decide, by decide⟩ (Nat.le_of_ble_eq_true rfl) rfl dX6_table_35 ?_
          refine am_ifb_ne (tgt := 43) (by decide) dX6_table_38 (fun h38 => ?_) (fun h38 => ?_)
          · refine am_aload_n rfl dX6_table_43 ?_
            refine am_getr (j := 8) (by decide) rfl rfl rfl hTX6 (by decide) fl_X6_58 dX6_table_44 ?_
            refine am_iload_n rfl dX6_table_47 ?_
            refine am_iload_n rfl dX6_table_48 ?_
            refine am_callVv (c_X1_layN ad M _ _ (by simp_all)) okX1_lay ml_X6_197 (by decide) rfl rfl rfl ⟨by decide, by decide⟩ (Nat.le_of_ble_eq_true rfl) rfl dX6_table_49 ?_
            refine am_iconst (v := 1) (by decide) dX6_table_52 ?_
            refine am_zret rfl (by first | exact am_nb _ | decide) dX6_table_53 ?_
            refine am_isTc ?_ rfl
            simp_all [sp_okTab]
          · refine am_iconst (v := 0) (by decide) dX6_table_41 ?_
            refine am_zret rfl (by first | exact am_nb _ | decide) dX6_table_42 ?_
            refine am_isFc ?_ rfl
            simp_all [sp_okTab]
set_option maxRecDepth 100000 in
set_option maxHeartbeats 400000 in
theorem c_X6_set (ad : Nat → Nat) (M : am_M) (p a : Int32) : am_C ydX6_set ad am_II [.ref (ad 0), .int p, .int a] M (am_is (bI (sp_okSet M p a)) (if sp_okSet M p a = true then sp_put M p a else M)) := by
  refine am_ofW (by decide +kernel) (by simp [Value.category]) (Nat.le_of_ble_eq_true rfl) rfl ?_
  refine am_iload_n rfl dX6_set_0 ?_
  refine am_iconst (v := 0) (by decide) dX6_set_1 ?_
  refine am_aload_n rfl dX6_set_2 ?_
  refine am_getr (j := 8) (by decide) rfl rfl rfl hTX6 (by decide) fl_X6_58 dX6_set_3 ?_
  refine am_geti (j := 0) (by decide) rfl rfl rfl hTX1 (by decide) fl_X6_200 dX6_set_6 ?_
  refine am_callSi (c_X6_isWithin ad M _ _ _) okX6_isWithin ml_X6_66 rfl ⟨by decide, by decide⟩ (Nat.le_of_ble_eq_true rfl) rfl dX6_set_9 ?_
  refine am_ifb_eq (tgt := 30) (by decide) dX6_set_12 (fun h12 => ?_) (fun h12 => ?_)
  · refine am_iconst (v := 0) (by decide) dX6_set_30 ?_
    refine am_zret rfl (by first | exact am_nb _ | decide) dX6_set_31 ?_
    refine am_isFc ?_ rfl
    simp_all [sp_okSet]
  · refine am_iload_n rfl dX6_set_15 ?_
    refine am_iconst (v := 0) (by decide) dX6_set_16 ?_
    refine am_aload_n rfl dX6_set_17 ?_
    refine am_getr (j := 8) (by decide) rfl rfl rfl hTX6 (by decide) fl_X6_58 dX6_set_18 ?_
    refine am_geti (j := 1) (by decide) rfl rfl rfl hTX1 (by decide) fl_X6_203 dX6_set_21 ?_
    refine am_callSi (c_X6_isWithin ad M _ _ _) okX6_isWithin ml_X6_66 rfl ⟨by decide, by decide⟩ (Nat.le_of_ble_eq_true rfl) rfl dX6_set_24 ?_
    refine am_ifb_ne (tgt := 32) (by decide) dX6_set_27 (fun h27 => ?_) (fun h27 => ?_)
    · refine am_aload_n rfl dX6_set_32 ?_
      refine am_getr (j := 8) (by decide) rfl rfl rfl hTX6 (by decide) fl_X6_58 dX6_set_33 ?_
      refine am_iload_n rfl dX6_set_36 ?_
      refine am_iload_n rfl dX6_set_37 ?_
      refine am_callVv (c_X1_put ad M _ _) okX1_put ml_X6_206 (by decide) rfl rfl rfl ⟨by decide, by decide⟩ (Nat.le_of_ble_eq_true rfl) rfl dX6_set_38 ?_
      refine am_iconst (v := 1) (by decide) dX6_set_41 ?_
      refine am_zret rfl (by first | exact am_nb _ | decide) dX6_set_42 ?_
      refine am_isTc ?_ rfl
      simp_all [sp_okSet]
    · refine am_iconst (v := 0) (by decide) dX6_set_30 ?_
      refine am_zret rfl (by first | exact am_nb _ | decide) dX6_set_31 ?_
      refine am_isFc ?_ rfl
      simp_all [sp_okSet]
set_option maxRecDepth 100000 in
set_option maxHeartbeats 400000 in
theorem c_X6_miss (ad : Nat → Nat) (M : am_M) (p : Int32) : am_C ydX6_miss ad am_II [.ref (ad 0), .int p] M (am_is (if sp_in p 0 (M 19 0) = true then sp_miss M p else -1) M) := by
  refine am_ofW (by decide +kernel) (by simp [Value.category]) (Nat.le_of_ble_eq_true rfl) rfl ?_
  refine am_iload_n rfl dX6_miss_0 ?_
  refine am_iconst (v := 0) (by decide) dX6_miss_1 ?_
  refine am_aload_n rfl dX6_miss_2 ?_
  refine am_getr (j := 8) (by decide) rfl rfl rfl hTX6 (by decide) fl_X6_58 dX6_miss_3 ?_
  refine am_geti (j := 0) (by decide) rfl rfl rfl hTX1 (by decide) fl_X6_200 dX6_miss_6 ?_
  refine am_callSi (c_X6_isWithin ad M _ _ _) okX6_isWithin ml_X6_66 rfl ⟨by decide, by decide⟩ (Nat.le_of_ble_eq_true rfl) rfl dX6_miss_9 ?_
  refine am_ifb_eq (tgt := 26) (by decide) dX6_miss_12 (fun h12 => ?_) (fun h12 => ?_)
  · refine am_iconst (v := (-1)) (by decide) dX6_miss_26 ?_
    refine am_iret rfl dX6_miss_27 ?_
    refine am_isE ?_
    simp_all
  · refine am_aload_n rfl dX6_miss_15 ?_
    refine am_getr (j := 8) (by decide) rfl rfl rfl hTX6 (by decide) fl_X6_58 dX6_miss_16 ?_
    refine am_iload_n rfl dX6_miss_19 ?_
    refine am_callVi (c_X1_missOf ad M _) okX1_missOf ml_X6_215 (by decide) rfl rfl rfl ⟨by decide, by decide⟩ (Nat.le_of_ble_eq_true rfl) rfl dX6_miss_20 ?_
    refine am_goto (tgt := 27) (by decide) dX6_miss_23 ?_
    refine am_iret rfl dX6_miss_27 ?_
    refine am_isE ?_
    simp_all
set_option maxRecDepth 100000 in
set_option maxHeartbeats 400000 in
theorem c_X6_current (ad : Nat → Nat) (M : am_M) (p w : Int32) (h1 : sp_in p 0 1000 = true) (h2 : sp_in w 0 1 = true) : am_C ydX6_current ad am_II [.ref (ad 0), .int p, .int w] M (am_is (if w = 0 then sp_first M p else sp_second M p) M) := by
  refine am_ofW (by decide +kernel) (by simp [Value.category]) (Nat.le_of_ble_eq_true rfl) rfl ?_
  refine am_iload_n rfl dX6_current_0 ?_
  refine am_iconst (v := 0) (by decide) dX6_current_1 ?_
  refine am_sipush (v := 1000) (by decide) dX6_current_2 ?_
  refine am_callSi (c_X6_isWithin ad M _ _ _) okX6_isWithin ml_X6_66 rfl ⟨by decide, by decide⟩ (Nat.le_of_ble_eq_true rfl) rfl dX6_current_5 ?_
  refine am_ifb_eq (tgt := 20) (by decide) dX6_current_8 (fun h8 => ?_) (fun h8 => ?_)
  · exfalso; simp_all
  · refine am_iload_n rfl dX6_current_11 ?_
    refine am_iconst (v := 0) (by decide) dX6_current_12 ?_
    refine am_iconst (v := 1) (by decide) dX6_current_13 ?_
    refine am_callSi (c_X6_isWithin ad M _ _ _) okX6_isWithin ml_X6_66 rfl ⟨by decide, by decide⟩ (Nat.le_of_ble_eq_true rfl) rfl dX6_current_14 ?_
    refine am_ifb_ne (tgt := 28) (by decide) dX6_current_17 (fun h17 => ?_) (fun h17 => ?_)
    · refine am_iload_n rfl dX6_current_28 ?_
      refine am_if_ne (tgt := 43) (by decide) dX6_current_29 (fun h29 => ?_) (fun h29 => ?_)
      · refine am_aload_n rfl dX6_current_43 ?_
        refine am_getr (j := 8) (by decide) rfl rfl rfl hTX6 (by decide) fl_X6_58 dX6_current_44 ?_
        refine am_iload_n rfl dX6_current_47 ?_
        refine am_callVi (c_X1_secondAt ad M _) okX1_secondAt ml_X6_212 (by decide) rfl rfl rfl ⟨by decide, by decide⟩ (Nat.le_of_ble_eq_true rfl) rfl dX6_current_48 ?_
        refine am_iret rfl dX6_current_51 ?_
        refine am_isE ?_
        simp_all
      · refine am_aload_n rfl dX6_current_32 ?_
        refine am_getr (j := 8) (by decide) rfl rfl rfl hTX6 (by decide) fl_X6_58 dX6_current_33 ?_
        refine am_iload_n rfl dX6_current_36 ?_
        refine am_callVi (c_X1_firstAt ad M _) okX1_firstAt ml_X6_209 (by decide) rfl rfl rfl ⟨by decide, by decide⟩ (Nat.le_of_ble_eq_true rfl) rfl dX6_current_37 ?_
        refine am_goto (tgt := 51) (by decide) dX6_current_40 ?_
        refine am_iret rfl dX6_current_51 ?_
        refine am_isE ?_
        simp_all
    · exfalso; simp_all
set_option maxRecDepth 100000 in
set_option maxHeartbeats 400000 in
theorem c_X6_evenness (ad : Nat → Nat) (M : am_M)  (hp : 0 ≤ (M 19 0).toInt ∧ (M 19 0).toInt ≤ 8) (hl : 0 ≤ (M 19 1).toInt ∧ (M 19 1).toInt ≤ 100) : am_C ydX6_evenness ad am_II [.ref (ad 0)] M (am_is (sp_even M) M) := by
  refine am_ofW (by decide +kernel) (by simp [Value.category]) (Nat.le_of_ble_eq_true rfl) rfl ?_
  refine am_aload_n rfl dX6_evenness_0 ?_
  refine am_getr (j := 8) (by decide) rfl rfl rfl hTX6 (by decide) fl_X6_58 dX6_evenness_1 ?_
  refine am_callVi (c_X1_greatestMiss ad M hp) okX1_greatestMiss ml_X6_218 (by decide) rfl rfl rfl ⟨by decide, by decide⟩ (Nat.le_of_ble_eq_true rfl) rfl dX6_evenness_4 ?_
  refine am_iret rfl dX6_evenness_7 ?_
  exact ⟨rfl, rfl⟩
theorem sp_evs_19 (k : Nat) : ∀ (n p : Nat) (M : am_M), sp_evs k n p M 19 = M 19 := by
  intro n
  induction n with
  | zero => intro p M; rfl
  | succ n ih =>
    intro p M
    rw [sp_evs, ih]
    split
    · exact sp_middle_19 _ _
    · exact sp_pairs_19 _ _
theorem sp_smooth_19 (M : am_M) : sp_smooth M 19 = M 19 := sp_evs_19 _ _ _ _
set_option maxRecDepth 100000 in
set_option maxHeartbeats 400000 in
theorem c_X6_smooth (ad : Nat → Nat) (M : am_M)  (hp : 0 ≤ (M 19 0).toInt ∧ (M 19 0).toInt ≤ 8) (hl : 0 ≤ (M 19 1).toInt ∧ (M 19 1).toInt ≤ 100) : am_C ydX6_smooth ad am_II [.ref (ad 0)] M (am_is (sp_even (sp_smooth M)) (sp_smooth M)) := by
  refine am_ofW (by decide +kernel) (by simp [Value.category]) (Nat.le_of_ble_eq_true rfl) rfl ?_
  refine am_aload_n rfl dX6_smooth_0 ?_
  refine am_getr (j := 8) (by decide) rfl rfl rfl hTX6 (by decide) fl_X6_58 dX6_smooth_1 ?_
  refine am_callVv (c_X1_even ad M hp hl) okX1_even ml_X6_221 (by decide) rfl rfl rfl ⟨by decide, by decide⟩ (Nat.le_of_ble_eq_true rfl) rfl dX6_smooth_4 ?_
  refine am_aload_n rfl dX6_smooth_7 ?_
  refine am_getr (j := 8) (by decide) rfl rfl rfl hTX6 (by decide) fl_X6_58 dX6_smooth_8 ?_
  refine am_callVi (c_X1_greatestMiss ad (sp_smooth M) (by rw [sp_smooth_19]; exact hp)) okX1_greatestMiss ml_X6_218 (by decide) rfl rfl rfl ⟨by decide, by decide⟩ (Nat.le_of_ble_eq_true rfl) rfl dX6_smooth_11 ?_
  refine am_iret rfl dX6_smooth_14 ?_
  exact ⟨rfl, rfl⟩
end
section
theorem fb_holes : ∀ (m n : Nat) (f : Nat → Nat), (∀ i, i < n → f i < m) → (∀ i j, i < j → j < n → f i ≠ f j) → n ≤ m := by
  intro m
  induction m with
  | zero =>
    intro n f h1 _
    rcases Nat.eq_zero_or_pos n with h | h
    · omega
    · exact absurd (h1 0 h) (Nat.not_lt_zero _)
  | succ m ih =>
    intro n f h1 h2
    by_cases hx : ∃ i, i < n ∧ f i = m
    · obtain ⟨a, ha, hfa⟩ := hx
      have hg := ih (n - 1) (fun i => if i < a then f i else f (i + 1)) (by
        intro i hi
        by_cases q : i < a
        · simp only [if_pos q]
          have b1 := h1 i (by omega)
          have b2 := h2 i a q ha
          omega
        · simp only [if_neg q]
          have b1 := h1 (i + 1) (by omega)
          have b2 := h2 a (i + 1) (by omega) (by omega)
          omega) (by
        intro i j hij hj
        by_cases q : i < a
        · by_cases r : j < a
          · simp only [if_pos q, if_pos r]
            exact h2 i j hij (by omega)
          · simp only [if_pos q, if_neg r]
            exact h2 i (j + 1) (by omega) (by omega)
        · have r : ¬ j < a := by omega
          simp only [if_neg q, if_neg r]
          exact h2 (i + 1) (j + 1) (by omega) (by omega))
      omega
    · have hg := ih n f (fun i hi => by
        have b1 := h1 i hi
        have b2 : f i ≠ m := fun e => hx ⟨i, hi, e⟩
        omega) h2
      omega
/-! the search: what each node's ticks are, the row of those found, how many they are -/
abbrev bf_B : Type := (Nat → Option Nat) × (Nat → Nat) × Nat
def bf_push (B : bf_B) (x d : Nat) : bf_B := match B.1 x with
  | some _ => B
  | none => (fun y => if y = x then some d else B.1 y, fun i => if i = B.2.2 then x else B.2.1 i, B.2.2 + 1)
def bf_fold (c : Int → Bool) (f : Int → Nat) (d : Nat) : Nat → Int → bf_B → bf_B
  | 0, _, B => B
  | n + 1, a, B => bf_fold c f d n (a + 1) (if c a = true then bf_push B (f a) d else B)
def bf_idx (v a l : Int) : Nat := ((v * 9 + a + 4) * 201 + l).toNat
def bf_w (x : Nat) : Int := ((x / 201 / 9 : Nat) : Int)
def bf_b (x : Nat) : Int := ((x / 201 % 9 : Nat) : Int) - 4
def bf_l (x : Nat) : Int := ((x % 201 : Nat) : Int)
/-- how far the neighbours of a change reach -/
def bf_lo (A J b : Int) : Int := max (-A) (b - J)
def bf_hi (A J b : Int) : Int := min A (b + J)
def bf_n (A J b : Int) : Nat := (bf_hi A J b - bf_lo A J b + 1).toNat
def bf_yes : Int → Bool := fun _ => true
def bf_stop (V : Int) (E : Int → Int → Bool) (x : Nat) : Prop := 200 < bf_l x + bf_w x ∨ bf_w x - bf_b x < 0 ∨ V < bf_w x - bf_b x ∨ E (bf_w x) (bf_b x) = false
noncomputable def bf_proc (V A J : Int) (E : Int → Int → Bool) (B : bf_B) (x : Nat) : bf_B := @ite _ (bf_stop V E x) (Classical.propDecidable _) B (bf_fold bf_yes (fun a => bf_idx (bf_w x - bf_b x) a (bf_l x + bf_w x)) ((B.1 x).getD 0 + 1) (bf_n A J (bf_b x)) (bf_lo A J (bf_b x)) B)
def bf_0 : bf_B := (fun _ => none, fun _ => 0, 0)
def bf_init (A J : Int) : bf_B := bf_fold bf_yes (fun a => bf_idx 0 a 0) 0 (bf_n A J 0) (bf_lo A J 0) bf_0
noncomputable def bf_T (V A J : Int) (E : Int → Int → Bool) : Nat → bf_B
  | 0 => bf_init A J
  | k + 1 => if k < (bf_T V A J E k).2.2 then bf_proc V A J E (bf_T V A J E k) ((bf_T V A J E k).2.1 k) else bf_T V A J E k
def bf_ok (B : bf_B) : Prop := (∀ i, i < B.2.2 → B.2.1 i < 23517 ∧ ∃ d, B.1 (B.2.1 i) = some d ∧ d ≤ i) ∧ (∀ x d, B.1 x = some d → ∃ i, i < B.2.2 ∧ B.2.1 i = x) ∧ ∀ i j, i < j → j < B.2.2 → B.2.1 i ≠ B.2.1 j
theorem bf_ok_0 : bf_ok bf_0 := ⟨fun i h => absurd h (Nat.not_lt_zero _), fun x d h => by simp [bf_0] at h, fun i j _ h => absurd h (Nat.not_lt_zero _)⟩
theorem bf_ok.lt {B : bf_B} (h : bf_ok B) {x : Nat} (hx : x < 23517) (hn : B.1 x = none) : B.2.2 < 23517 := by
  have h1 := fb_holes 23517 (B.2.2 + 1) (fun i => if i < B.2.2 then B.2.1 i else x) (by
    intro i hi
    by_cases q : i < B.2.2
    · simp only [if_pos q]; exact (h.1 i q).1
    · simp only [if_neg q]; exact hx) (by
    intro i j hij hj
    have hi : i < B.2.2 := by omega
    by_cases q : j < B.2.2
    · simp only [if_pos hi, if_pos q]; exact h.2.2 i j hij q
    · simp only [if_pos hi, if_neg q]
      intro e
      obtain ⟨-, d, hd, -⟩ := h.1 i hi
      rw [e, hn] at hd
      cases hd)
  omega
theorem bf_ok.le {B : bf_B} (h : bf_ok B) : B.2.2 ≤ 23517 := fb_holes 23517 B.2.2 B.2.1 (fun i hi => (h.1 i hi).1) h.2.2
theorem bf_push_some {B : bf_B} {x d e : Nat} (h : B.1 x = some e) : bf_push B x d = B := by simp [bf_push, h]
theorem bf_push_none {B : bf_B} {x d : Nat} (h : B.1 x = none) : bf_push B x d = (fun y => if y = x then some d else B.1 y, fun i => if i = B.2.2 then x else B.2.1 i, B.2.2 + 1) := by simp [bf_push, h]
theorem bf_push_ok {B : bf_B} (h : bf_ok B) {x d : Nat} (hx : x < 23517) (hd : d ≤ B.2.2) : bf_ok (bf_push B x d) := by
  cases hb : B.1 x with
  | some e => rw [bf_push_some hb]; exact h
  | none =>
    rw [bf_push_none hb]
    refine ⟨fun i hi => ?_, fun y e he => ?_, fun i j hij hj => ?_⟩
    · dsimp only at hi ⊢
      by_cases q : i = B.2.2
      · rw [if_pos q]
        exact ⟨hx, d, by rw [if_pos rfl], by omega⟩
      · rw [if_neg q]
        obtain ⟨h1, e, h2, h3⟩ := h.1 i (by omega)
        refine ⟨h1, e, ?_, h3⟩
        have hne : B.2.1 i ≠ x := fun z => by rw [z, hb] at h2; cases h2
        rw [if_neg hne]
        exact h2
    · dsimp only at he ⊢
      by_cases q : y = x
      · exact ⟨B.2.2, by omega, by rw [if_pos rfl, q]⟩
      · rw [if_neg q] at he
        obtain ⟨i, h1, h2⟩ := h.2.1 y e he
        exact ⟨i, by omega, by rw [if_neg (by omega)]; exact h2⟩
    · dsimp only at hj ⊢
      by_cases q : j = B.2.2
      · rw [if_pos q, if_neg (by omega)]
        intro z
        obtain ⟨-, e, h2, -⟩ := h.1 i (by omega)
        rw [z, hb] at h2
        cases h2
      · rw [if_neg q, if_neg (by omega)]
        exact h.2.2 i j hij (by omega)
theorem bf_push_c (B : bf_B) (x d : Nat) : B.2.2 ≤ (bf_push B x d).2.2 ∧ (∀ i, i < B.2.2 → (bf_push B x d).2.1 i = B.2.1 i) ∧ ∀ y e, B.1 y = some e → (bf_push B x d).1 y = some e := by
  cases hb : B.1 x with
  | some e => rw [bf_push_some hb]; exact ⟨Nat.le_refl _, fun _ _ => rfl, fun _ _ h => h⟩
  | none =>
    rw [bf_push_none hb]
    refine ⟨Nat.le_succ _, fun i hi => ?_, fun y e he => ?_⟩
    · dsimp only; rw [if_neg (by omega)]
    · dsimp only
      have : y ≠ x := fun z => by rw [z, hb] at he; cases he
      rw [if_neg this]
      exact he
def bf_le (B C : bf_B) : Prop := B.2.2 ≤ C.2.2 ∧ (∀ i, i < B.2.2 → C.2.1 i = B.2.1 i) ∧ ∀ y e, B.1 y = some e → C.1 y = some e
theorem bf_le.rf (B : bf_B) : bf_le B B := ⟨Nat.le_refl _, fun _ _ => rfl, fun _ _ h => h⟩
theorem bf_le.tr {B C D : bf_B} (h : bf_le B C) (k : bf_le C D) : bf_le B D := ⟨Nat.le_trans h.1 k.1, fun i hi => (k.2.1 i (Nat.lt_of_lt_of_le hi h.1)).trans (h.2.1 i hi), fun y e he => k.2.2 y e (h.2.2 y e he)⟩
theorem bf_fold_ok (c : Int → Bool) (f : Int → Nat) (d : Nat) : ∀ (n : Nat) (a : Int) (B : bf_B), bf_ok B → d ≤ B.2.2 → (∀ a2, a ≤ a2 → a2 < a + n → c a2 = true → f a2 < 23517) → bf_ok (bf_fold c f d n a B) ∧ bf_le B (bf_fold c f d n a B) := by
  intro n
  induction n with
  | zero => intro a B h _ _; exact ⟨h, bf_le.rf _⟩
  | succ n ih =>
    intro a B h hd hf
    rw [bf_fold]
    by_cases q : c a = true
    · rw [if_pos q]
      have h1 := bf_push_ok h (hf a (by omega) (by omega) q) hd
      have h2 := bf_push_c B (f a) d
      obtain ⟨h3, h4⟩ := ih (a + 1) _ h1 (Nat.le_trans hd h2.1) (fun a2 p1 p2 p3 => hf a2 (by omega) (by omega) p3)
      exact ⟨h3, bf_le.tr h2 h4⟩
    · rw [if_neg q]
      exact ih (a + 1) B h hd (fun a2 p1 p2 p3 => hf a2 (by omega) (by omega) p3)
theorem bf_idx_lt {v a l : Int} (h1 : 0 ≤ v) (h2 : v ≤ 12) (h3 : -4 ≤ a) (h4 : a ≤ 4) (h5 : 0 ≤ l) (h6 : l ≤ 200) : bf_idx v a l < 23517 ∧ ((bf_idx v a l : Nat) : Int) = (v * 9 + a + 4) * 201 + l := by
  unfold bf_idx
  omega
theorem bf_wbl {x : Nat} (hx : x < 23517) : 0 ≤ bf_w x ∧ bf_w x ≤ 12 ∧ -4 ≤ bf_b x ∧ bf_b x ≤ 4 ∧ 0 ≤ bf_l x ∧ bf_l x ≤ 200 := by
  unfold bf_w bf_b bf_l
  omega
set_option maxRecDepth 100000 in
set_option maxHeartbeats 400000 in
theorem lp_fill (ad : Nat → Nat) (I : List Nat) (k z : Nat) (hk : k ∈ I) (hs : am_shp k = .inr (false, z)) (hz : z < 100000) (M : am_M) (v : Int32) : ∀ (n j : Nat), j ≤ z → z - j < n → am_W ydJ7_fill_53178 ad I (am_un (am_row M k (fun q => if q < z then v else M k q))) 5 [some (.ref (ad k)), some (.int v), some (.int (nI j)), some (.int (nI z))] [] (am_row M k (fun q => if q < j then v else M k q)) := by
  intro n
  induction n with
  | zero => intro j _ h; omega
  | succ n ih =>
    intro j hj hn
    refine am_iload_n rfl dJ7_fill_53178_5 ?_
    refine am_iload_n rfl dJ7_fill_53178_6 ?_
    refine am_icmp_ge (tgt := 20) (by decide) dJ7_fill_53178_7 (fun h7 => ?_) (fun h7 => ?_)
    · refine am_vret rfl dJ7_fill_53178_20 ?_
      obtain rfl : j = z := (by simp only [nI_e, Int32.le_iff_toInt_le] at h7; omega)
      exact ⟨rfl, rfl⟩
    · refine am_aload_n rfl dJ7_fill_53178_10 ?_
      refine am_iload_n rfl dJ7_fill_53178_11 ?_
      refine am_iload_n rfl dJ7_fill_53178_12 ?_
      refine am_iast hk hs (vp_in_nI (by simp only [nI_e, Int32.le_iff_toInt_le] at h7; omega) (by omega)) dJ7_fill_53178_13 ?_
      refine am_iinc (v := nI (j + 1)) rfl (nI_inc j) (by decide) dJ7_fill_53178_14 ?_
      refine am_goto (tgt := 5) (by decide) dJ7_fill_53178_17 ?_
      refine am_M_eq ?_ (ih (j + 1) (by simp only [nI_e, Int32.le_iff_toInt_le] at h7; omega) (by simp only [nI_e, Int32.le_iff_toInt_le] at h7; omega))
      rw [am_put_row, nI_clamp (by omega)]
      congr 1
      funext q
      unfold upd
      by_cases h : q = j
      · subst h
        simp
      · rw [if_neg h]
        dsimp only
        by_cases h2 : q < j
        · rw [if_pos h2, if_pos (by omega)]
        · rw [if_neg h2, if_neg (by omega)]
set_option maxRecDepth 100000 in
set_option maxHeartbeats 400000 in
theorem c_J7_fill (ad : Nat → Nat) (I : List Nat) (k z : Nat) (hk : k ∈ I) (hs : am_shp k = .inr (false, z)) (hz : z < 100000) (M : am_M) (v : Int32) : am_C ydJ7_fill_53178 ad I [.ref (ad k), .int v] M (am_un (am_row M k (fun q => if q < z then v else M k q))) := by
  refine am_ofW (by decide +kernel) (by simp [Value.category]) (Nat.le_of_ble_eq_true rfl) rfl ?_
  refine am_iconst (v := 0) (by decide) dJ7_fill_53178_0 ?_
  refine am_istore_n (by decide) dJ7_fill_53178_1 ?_
  refine am_aload_n rfl dJ7_fill_53178_2 ?_
  refine am_alen (v := nI z) hk hs (rfl) dJ7_fill_53178_3 ?_
  refine am_istore_n (by decide) dJ7_fill_53178_4 ?_
  refine am_M_eq ?_ (lp_fill ad I k z hk hs hz M v (z + 1) 0 (by omega) (by omega))
  funext a
  unfold am_row
  by_cases h : a = k <;> simp [h]
end
section
set_option maxRecDepth 100000 in
set_option maxHeartbeats 400000 in
theorem c_X6_isIndexOf (ad : Nat → Nat) (M : am_M) (k n : Nat) (i : Int32) (hk : k ∈ am_II) (hs : am_shp k = .inr (false, n)) (hn : n < 2147483648) (hv : vp_in i n) : am_C ydX6_isIndexOf ad am_II [.ref (ad k), .int i] M (am_is (bI true) M) := by
  refine am_ofW (L := [some (.ref (ad k)), some (.int i)]) (by decide +kernel) (by simp [Value.category]) (Nat.le_of_ble_eq_true rfl) rfl ?_
  refine am_iload_n rfl dX6_isIndexOf_0 ?_
  refine am_if_lt (tgt := 14) (by decide) dX6_isIndexOf_1 (fun h1 => ?_) (fun h1 => ?_)
  · refine am_iconst (v := 0) (by decide) dX6_isIndexOf_14 ?_
    refine am_zret rfl (by first | exact am_nb _ | decide) dX6_isIndexOf_15 ?_
    first | exact ⟨rfl, rfl⟩ | (exfalso; obtain ⟨q1, q2⟩ := vp_in_iff.mp hv; simp only [Int32.le_iff_toInt_le, Int32.lt_iff_toInt_lt, Int32.toInt_zero, nI_e] at *; omega)
  · refine am_iload_n rfl dX6_isIndexOf_4 ?_
    refine am_aload_n rfl dX6_isIndexOf_5 ?_
    refine am_alen (v := nI n) hk hs (rfl) dX6_isIndexOf_6 ?_
    refine am_icmp_ge (tgt := 14) (by decide) dX6_isIndexOf_7 (fun h7 => ?_) (fun h7 => ?_)
    · refine am_iconst (v := 0) (by decide) dX6_isIndexOf_14 ?_
      refine am_zret rfl (by first | exact am_nb _ | decide) dX6_isIndexOf_15 ?_
      first | exact ⟨rfl, rfl⟩ | (exfalso; obtain ⟨q1, q2⟩ := vp_in_iff.mp hv; simp only [Int32.le_iff_toInt_le, Int32.lt_iff_toInt_lt, Int32.toInt_zero, nI_e] at *; omega)
    · refine am_iconst (v := 1) (by decide) dX6_isIndexOf_10 ?_
      refine am_goto (tgt := 15) (by decide) dX6_isIndexOf_11 ?_
      refine am_zret rfl (by first | exact am_nb _ | decide) dX6_isIndexOf_15 ?_
      first | exact ⟨rfl, rfl⟩ | (exfalso; obtain ⟨q1, q2⟩ := vp_in_iff.mp hv; simp only [Int32.le_iff_toInt_le, Int32.lt_iff_toInt_lt, Int32.toInt_zero, nI_e] at *; omega)
def rp_enc (o : Option Nat) : Int32 := match o with
  | none => -1
  | some d => nI d
def rp_RC (M : am_M) (B : bf_B) : Prop := (∀ x, x < 23517 → M 5 x = rp_enc (B.1 x)) ∧ (∀ i, i < B.2.2 → M 6 i = nI (B.2.1 i)) ∧ M 4 3 = nI B.2.2
def rp_fr (M N : am_M) : Prop := (∀ a, a ≠ 4 → a ≠ 5 → a ≠ 6 → N a = M a) ∧ ∀ j, j ≠ 3 → N 4 j = M 4 j
theorem rp_fr.rf (M : am_M) : rp_fr M M := ⟨fun _ _ _ _ => rfl, fun _ _ => rfl⟩
theorem rp_fr.tr {M N K : am_M} (h : rp_fr M N) (k : rp_fr N K) : rp_fr M K := ⟨fun a h1 h2 h3 => (k.1 a h1 h2 h3).trans (h.1 a h1 h2 h3), fun j h1 => (k.2 j h1).trans (h.2 j h1)⟩
theorem rp_enc_none {o : Option Nat} (h : ∀ d, o = some d → d < 2147483647) : rp_enc o = -1 ↔ o = none := by
  cases o with
  | none => exact ⟨fun _ => rfl, fun _ => rfl⟩
  | some d =>
    have hd := h d rfl
    refine ⟨fun e => ?_, fun e => by cases e⟩
    exfalso
    have e1 : (nI d).toInt = (-1 : Int32).toInt := by rw [show nI d = -1 from e]
    simp only [nI_e, kI_m1] at e1
    omega
theorem bf_ok.small {B : bf_B} (h : bf_ok B) {x d : Nat} (hx : B.1 x = some d) : d < 23517 ∧ d + 1 ≤ B.2.2 := by
  obtain ⟨i, h1, h2⟩ := h.2.1 x d hx
  obtain ⟨-, e, h3, h4⟩ := h.1 i h1
  rw [h2, hx] at h3
  cases h3
  have := h.le
  omega
theorem rp_found (M : am_M) (B : bf_B) (x d : Nat) (hRC : rp_RC M B) (hx : x < 23517) (hn : B.1 x = none) (hc : B.2.2 < 23517) : rp_RC (am_put (am_put (am_put M 5 x (nI d)) 6 B.2.2 (nI x)) 4 3 (nI (B.2.2 + 1))) (bf_push B x d) ∧ rp_fr M (am_put (am_put (am_put M 5 x (nI d)) 6 B.2.2 (nI x)) 4 3 (nI (B.2.2 + 1))) := by
  rw [bf_push_none hn]
  refine ⟨⟨fun y hy => ?_, fun i hi => ?_, ?_⟩, fun a h1 h2 h3 => ?_, fun j hj => ?_⟩
  · by_cases q : y = x
    · subst q
      simp [am_rd, rp_enc]
    · simp [am_rd, q, hRC.1 y hy]
  · dsimp only at hi ⊢
    by_cases q : i = B.2.2
    · subst q
      simp [am_rd]
    · simp [am_rd, q, hRC.2.1 i (by omega)]
  · simp [am_rd]
  · rw [am_put_ne _ _ _ _ h1, am_put_ne _ _ _ _ h3, am_put_ne _ _ _ _ h2]
  · simp [am_rd, hj]
set_option maxRecDepth 100000 in
set_option maxHeartbeats 400000 in
theorem c_X3_find (ad : Nat → Nat) (M : am_M) (B : bf_B) (x d : Nat) (hRC : rp_RC M B) (hok : bf_ok B) (hx : x < 23517) : am_C ydX3_find ad am_II [.ref (ad 4), .int (nI x), .int (nI d)] M (fun r N => r = none ∧ rp_RC N (bf_push B x d) ∧ rp_fr M N) := by
  have hv1 : vp_in (nI x) 23517 := vp_in_nI hx (by omega)
  refine am_ofW (L := [some (.ref (ad 4)), some (.int (nI x)), some (.int (nI d))]) (by decide +kernel) (by simp [Value.category]) (Nat.le_of_ble_eq_true rfl) rfl ?_
  refine am_aload_n rfl dX3_find_0 ?_
  refine am_getr (j := 0) (by decide) rfl rfl rfl hTX3 (by decide) fl_X3_9 dX3_find_1 ?_
  refine am_iload_n rfl dX3_find_4 ?_
  refine am_callNi (c_X6_isIndexOf ad M 5 23517 (nI x) (by decide) rfl (by decide) hv1) okX6_isIndexOf ml_X3_39 rfl ⟨by decide, by decide⟩ (Nat.le_of_ble_eq_true rfl) rfl dX3_find_5 ?_
  refine am_ifb_eq (tgt := 62) (by decide) dX3_find_8 (fun h8 => ?_) (fun h8 => ?_)
  · cases h8
  · refine am_aload_n rfl dX3_find_11 ?_
    refine am_getr (j := 0) (by decide) rfl rfl rfl hTX3 (by decide) fl_X3_9 dX3_find_12 ?_
    refine am_iload_n rfl dX3_find_15 ?_
    refine am_iald (by decide) rfl (hv1) dX3_find_16 ?_
    refine am_iconst (v := (-1)) (by decide) dX3_find_17 ?_
    refine am_icmp_ne (tgt := 62) (by decide) dX3_find_18 (fun h18 => ?_) (fun h18 => ?_)
    · refine am_vret rfl dX3_find_62 ?_
      first
      | (have h9 := rp_found M B x d hRC hx e9 hc
         have e7 : am_put (am_put M 5 x (nI d)) 6 B.2.2 (nI x) 4 3 + 1 = nI (B.2.2 + 1) := by (simp [am_rd, hRC.2.2, nI_1])
         have e6 : (am_put M 5 x (nI d) 4 3).toNatClampNeg = B.2.2 := by (rw [am_put_ne _ _ _ _ (show (4 : Nat) ≠ 5 by decide), hRC.2.2, nI_clamp (by omega)])
         rw [nI_clamp (by omega), e6, e7]
         exact ⟨rfl, h9⟩)
      | (rw [nI_clamp (by omega)] at h18
         have e9 : ¬ B.1 x = none := fun e => h18 (by rw [hRC.1 x hx, e]; rfl)
         cases e8 : B.1 x with
         | none => exact absurd e8 e9
         | some z => exact ⟨rfl, by rw [bf_push_some e8]; exact hRC, rp_fr.rf M⟩)
    · have e9 : B.1 x = none := (rp_enc_none (fun e he => by have := hok.small he; omega)).mp (by rw [← hRC.1 x hx]; rw [nI_clamp (by omega)] at h18; exact h18)
      have hc := hok.lt hx e9
      have hv2 : vp_in (M 4 3) 23517 := by rw [hRC.2.2]; exact vp_in_nI hc (by omega)
      have hv3 : vp_in (am_put M 5 (nI x).toNatClampNeg (nI d) 4 3) 23517 := by rw [am_put_ne _ _ _ _ (show (4 : Nat) ≠ 5 by decide), hRC.2.2]; exact vp_in_nI hc (by omega)
      refine am_aload_n rfl dX3_find_21 ?_
      refine am_getr (j := 1) (by decide) rfl rfl rfl hTX3 (by decide) fl_X3_15 dX3_find_22 ?_
      refine am_aload_n rfl dX3_find_25 ?_
      refine am_geti (j := 3) (by decide) rfl rfl rfl hTX3 (by decide) fl_X3_22 dX3_find_26 ?_
      refine am_callNi (c_X6_isIndexOf ad M 6 23517 (M 4 3) (by decide) rfl (by decide) hv2) okX6_isIndexOf ml_X3_39 rfl ⟨by decide, by decide⟩ (Nat.le_of_ble_eq_true rfl) rfl dX3_find_29 ?_
      refine am_ifb_eq (tgt := 62) (by decide) dX3_find_32 (fun h32 => ?_) (fun h32 => ?_)
      · cases h32
      · refine am_aload_n rfl dX3_find_35 ?_
        refine am_getr (j := 0) (by decide) rfl rfl rfl hTX3 (by decide) fl_X3_9 dX3_find_36 ?_
        refine am_iload_n rfl dX3_find_39 ?_
        refine am_iload_n rfl dX3_find_40 ?_
        refine am_iast (by decide) rfl (hv1) dX3_find_41 ?_
        refine am_aload_n rfl dX3_find_42 ?_
        refine am_getr (j := 1) (by decide) rfl rfl rfl hTX3 (by decide) fl_X3_15 dX3_find_43 ?_
        refine am_aload_n rfl dX3_find_46 ?_
        refine am_geti (j := 3) (by decide) rfl rfl rfl hTX3 (by decide) fl_X3_22 dX3_find_47 ?_
        refine am_iload_n rfl dX3_find_50 ?_
        refine am_iast (by decide) rfl (hv3) dX3_find_51 ?_
        refine am_aload_n rfl dX3_find_52 ?_
        refine am_dup rfl dX3_find_53 ?_
        refine am_geti (j := 3) (by decide) rfl rfl rfl hTX3 (by decide) fl_X3_22 dX3_find_54 ?_
        refine am_iconst (v := 1) (by decide) dX3_find_57 ?_
        refine am_iadd dX3_find_58 ?_
        refine am_puti (j := 3) (by decide) rfl rfl rfl hTX3 tyX3_ok nmX3 (by decide) fl_X3_22 rfl rfl rfl rfl dX3_find_59 ?_
        refine am_vret rfl dX3_find_62 ?_
        first
        | (have h9 := rp_found M B x d hRC hx e9 hc
           have e7 : am_put (am_put M 5 x (nI d)) 6 B.2.2 (nI x) 4 3 + 1 = nI (B.2.2 + 1) := by (simp [am_rd, hRC.2.2, nI_1])
           have e6 : (am_put M 5 x (nI d) 4 3).toNatClampNeg = B.2.2 := by (rw [am_put_ne _ _ _ _ (show (4 : Nat) ≠ 5 by decide), hRC.2.2, nI_clamp (by omega)])
           rw [nI_clamp (by omega), e6, e7]
           exact ⟨rfl, h9⟩)
        | (rw [nI_clamp (by omega)] at h18
           have e9 : ¬ B.1 x = none := fun e => h18 (by rw [hRC.1 x hx, e]; rfl)
           cases e8 : B.1 x with
           | none => exact absurd e8 e9
           | some z => exact ⟨rfl, by rw [bf_push_some e8]; exact hRC, rp_fr.rf M⟩)
end
section
def am_RI (M : am_M) : Prop := 1 ≤ (M 1 0).toInt ∧ (M 1 0).toInt ≤ 12 ∧ 1 ≤ (M 1 1).toInt ∧ (M 1 1).toInt ≤ 4 ∧ 1 ≤ (M 1 2).toInt ∧ (M 1 2).toInt ≤ 4 ∧ (M 1 7 = 0 ∨ M 1 7 = 1)
def am_s (M : am_M) : Bool := decide (¬ M 1 7 = 0)
theorem am_RI.s {M : am_M} (h : am_RI M) : M 1 7 = bI (am_s M) := by
  obtain ⟨-, -, -, -, -, -, h | h⟩ := h <;> simp [am_s, h, bI]
def am_V (M : am_M) : Int := (M 1 0).toInt
def am_Ac (M : am_M) : Int := (M 1 1).toInt
def am_J (M : am_M) : Int := (M 1 2).toInt
def am_E (M : am_M) (s : Bool) : Int → Int → Bool := fun w b => sp_mayEnd M (iN w) (iN b) s
theorem am_speed_iff {M : am_M} {v : Int} (h1 : -1000 ≤ v) (h2 : v ≤ 1000) : sp_speed M (iN v) = true ↔ 0 ≤ v ∧ v ≤ am_V M := by
  have := i_rng (M 1 0)
  simp only [sp_speed, am_V, decide_eq_true_eq, Int32.le_iff_toInt_le, Int32.toInt_zero, iN_e]
  omega
theorem am_state_iff {M : am_M} (hR : am_RI M) {v a : Int} (h1 : -1000 ≤ v) (h2 : v ≤ 1000) (h3 : -1000 ≤ a) (h4 : a ≤ 1000) : sp_state M (iN v) (iN a) = true ↔ (0 ≤ v ∧ v ≤ am_V M) ∧ -am_Ac M ≤ a ∧ a ≤ am_Ac M := by
  obtain ⟨q1, q2, q3, q4, -⟩ := hR
  simp only [sp_state, am_V, am_Ac, decide_eq_true_eq, Int32.le_iff_toInt_le, Int32.toInt_zero, iN_e, i_neg]
  omega
theorem am_rest_iff {M : am_M} (hR : am_RI M) {a : Int} (h3 : -1000 ≤ a) (h4 : a ≤ 1000) : sp_rest M 0 (iN a) = true ↔ (-am_Ac M ≤ a ∧ a ≤ am_Ac M) ∧ -am_J M ≤ a ∧ a ≤ am_J M := by
  have e := am_state_iff hR (v := 0) (by omega) (by omega) h3 h4
  have e0 : iN 0 = 0 := rfl
  rw [e0] at e
  obtain ⟨q1, q2, q3, q4, q5, q6, -⟩ := hR
  unfold am_V am_Ac at e
  simp only [sp_rest, decide_eq_true_eq]
  rw [e]
  unfold am_J am_Ac
  simp only [Int32.le_iff_toInt_le, iN_e, i_neg]
  constructor
  · intro h; omega
  · intro h; exact ⟨trivial, by omega, by omega, by omega⟩
theorem am_least_e {M : am_M} (hR : am_RI M) {b : Int} (h1 : -4 ≤ b) (h2 : b ≤ 4) : sp_least M (iN b) = iN (bf_lo (am_Ac M) (am_J M) b) := by
  obtain ⟨q1, q2, q3, q4, q5, q6, -⟩ := hR
  unfold sp_least imax bf_lo am_Ac am_J
  split
  · rename_i h
    simp only [Int32.lt_iff_toInt_lt, iN_e, i_sub, i_neg] at h
    apply i_inj
    simp only [i_sub, iN_e]
    omega
  · rename_i h
    simp only [Int32.lt_iff_toInt_lt, iN_e, i_sub, i_neg] at h
    apply i_inj
    simp only [i_neg, iN_e]
    omega
theorem am_most_e {M : am_M} (hR : am_RI M) {b : Int} (h1 : -4 ≤ b) (h2 : b ≤ 4) : sp_most M (iN b) = iN (bf_hi (am_Ac M) (am_J M) b) := by
  obtain ⟨q1, q2, q3, q4, q5, q6, -⟩ := hR
  unfold sp_most imin bf_hi am_Ac am_J
  split
  · rename_i h
    simp only [Int32.lt_iff_toInt_lt, iN_e, i_add] at h
    apply i_inj
    simp only [i_add, iN_e]
    omega
  · rename_i h
    simp only [Int32.lt_iff_toInt_lt, iN_e, i_add] at h
    apply i_inj
    simp only [iN_e]
    omega
def sp_node (v a l : Int32) : Int32 := sp_num v a * 201 + l
theorem sp_node_e {v a l : Int} (h1 : 0 ≤ v) (h2 : v ≤ 12) (h3 : -4 ≤ a) (h4 : a ≤ 4) (h5 : 0 ≤ l) (h6 : l ≤ 200) : sp_node (iN v) (iN a) (iN l) = nI (bf_idx v a l) := by
  obtain ⟨-, e⟩ := bf_idx_lt h1 h2 h3 h4 h5 h6
  apply i_inj
  simp only [sp_node, sp_num, i_add, i_mul, iN_e, nI_e, kI_201, kI_9, kI_4]
  rw [e]
  omega
theorem rp_w {x : Nat} (hx : x < 23517) : nI x / 201 / 9 = iN (bf_w x) := by
  rw [show (201 : Int32) = nI 201 from rfl, show (9 : Int32) = nI 9 from rfl, pk_div (by omega) (by omega) (by omega), pk_div (by omega) (by omega) (by omega), nI_iN]
  rfl
theorem rp_b {x : Nat} (hx : x < 23517) : nI x / 201 - nI x / 201 / 9 * 9 - 4 = iN (bf_b x) := by
  rw [show (201 : Int32) = nI 201 from rfl, show (9 : Int32) = nI 9 from rfl, pk_div (by omega) (by omega) (by omega), pk_rem (by omega) (by omega) (by omega)]
  apply i_inj
  simp only [i_sub, nI_e, iN_e, kI_4, bf_b]
  omega
theorem rp_l {x : Nat} (hx : x < 23517) : nI x - nI x / 201 * 201 + iN (bf_w x) = iN (bf_l x + bf_w x) := by
  rw [show (201 : Int32) = nI 201 from rfl, pk_rem (by omega) (by omega) (by omega), nI_iN, iN_add]
  rfl
theorem rp_lb {x : Nat} (hx : x < 23517) : nI x - nI x / 201 * 201 = iN (bf_l x) := by
  rw [show (201 : Int32) = nI 201 from rfl, pk_rem (by omega) (by omega) (by omega), nI_iN]
  rfl
theorem bf_wbl_x {x : Nat} (hx : x < 23517) : bf_idx (bf_w x) (bf_b x) (bf_l x) = x := by
  unfold bf_idx bf_w bf_b bf_l
  omega
set_option maxRecDepth 100000 in
set_option maxHeartbeats 400000 in
theorem c_X3_nodeOf (ad : Nat → Nat) (M : am_M) (v a l : Int32) : am_C ydX3_nodeOf ad am_II [.int v, .int a, .int l] M (am_is (sp_node v a l) M) := by
  refine am_ofW (by decide +kernel) (by simp [Value.category]) (Nat.le_of_ble_eq_true rfl) rfl ?_
  refine am_iload_n rfl dX3_nodeOf_0 ?_
  refine am_iload_n rfl dX3_nodeOf_1 ?_
  refine am_callNi (c_X6_stateNumber ad _ _ _) okX6_stateNumber ml_X3_91 rfl ⟨by decide, by decide⟩ (Nat.le_of_ble_eq_true rfl) rfl dX3_nodeOf_2 ?_
  refine am_sipush (v := 201) (by decide) dX3_nodeOf_5 ?_
  refine am_imul dX3_nodeOf_8 ?_
  refine am_iload_n rfl dX3_nodeOf_9 ?_
  refine am_iadd dX3_nodeOf_10 ?_
  refine am_iret rfl dX3_nodeOf_11 ?_
  exact ⟨rfl, rfl⟩
/-- behind begin -/
def rp_new (M N : am_M) : Prop := rp_RC N (bf_init (am_Ac M) (am_J M)) ∧ N 4 2 = 0 ∧ N 4 4 = M 1 8 ∧ ∀ a, a ≠ 4 → a ≠ 5 → a ≠ 6 → N a = M a
theorem bf_fold_app (c : Int → Bool) (f : Int → Nat) (d : Nat) : ∀ (n m : Nat) (a : Int) (B : bf_B), bf_fold c f d (n + m) a B = bf_fold c f d m (a + n) (bf_fold c f d n a B) := by
  intro n
  induction n with
  | zero => intro m a B; simp [bf_fold]
  | succ n ih =>
    intro m a B
    rw [show n + 1 + m = (n + m) + 1 by omega, bf_fold, bf_fold, ih]
    congr 1
    push_cast
    omega
theorem bf_fold_no {c : Int → Bool} (f : Int → Nat) (d : Nat) : ∀ (n : Nat) (a : Int) (B : bf_B), (∀ a2, a ≤ a2 → a2 < a + n → c a2 = false) → bf_fold c f d n a B = B := by
  intro n
  induction n with
  | zero => intro a B _; rfl
  | succ n ih =>
    intro a B h
    rw [bf_fold, h a (by omega) (by omega), if_neg (by decide)]
    exact ih (a + 1) B (fun a2 p1 p2 => h a2 (by omega) (by omega))
theorem bf_fold_cong {c c' : Int → Bool} (f : Int → Nat) (d : Nat) : ∀ (n : Nat) (a : Int) (B : bf_B), (∀ a2, a ≤ a2 → a2 < a + n → c a2 = c' a2) → bf_fold c f d n a B = bf_fold c' f d n a B := by
  intro n
  induction n with
  | zero => intro a B _; rfl
  | succ n ih =>
    intro a B h
    rw [bf_fold, bf_fold, h a (by omega) (by omega)]
    exact ih (a + 1) _ (fun a2 p1 p2 => h a2 (by omega) (by omega))
/-- a wide walk that takes only those within is the narrow one -/
theorem bf_fold_in {c : Int → Bool} (f : Int → Nat) (d : Nat) (lo hi a z : Int) (B : bf_B) (h1 : a ≤ lo) (h2 : hi ≤ z) (h3 : lo ≤ hi + 1) (hc : ∀ q, c q = true ↔ lo ≤ q ∧ q ≤ hi) : bf_fold c f d (z - a + 1).toNat a B = bf_fold bf_yes f d (hi - lo + 1).toNat lo B := by
  have hf : ∀ q, ¬ (lo ≤ q ∧ q ≤ hi) → c q = false := fun q hq => by
    cases e : c q with
    | false => rfl
    | true => exact absurd ((hc q).mp e) hq
  have e1 : (z - a + 1).toNat = (lo - a).toNat + ((hi - lo + 1).toNat + (z - hi).toNat) := by omega
  rw [e1, bf_fold_app, bf_fold_no f d _ a B (fun q p1 p2 => hf q (by omega)), bf_fold_app]
  have e2 : a + ((lo - a).toNat : Int) = lo := by omega
  rw [e2, bf_fold_cong f d _ lo B (c' := bf_yes) (fun q p1 p2 => (hc q).mpr (by omega))]
  exact bf_fold_no f d _ _ _ (fun q p1 p2 => hf q (by omega))
theorem bf_lohi {A J b : Int} (h1 : 1 ≤ A) (h3 : 1 ≤ J) (h5 : -A ≤ b) (h6 : b ≤ A) : -A ≤ bf_lo A J b ∧ bf_lo A J b ≤ b ∧ b ≤ bf_hi A J b ∧ bf_hi A J b ≤ A := by
  unfold bf_lo bf_hi
  omega
/-- who is at rest -/
def rp_c (M : am_M) : Int → Bool := fun a => decide ((-am_Ac M ≤ a ∧ a ≤ am_Ac M) ∧ -am_J M ≤ a ∧ a ≤ am_J M)
theorem rp_init_e {M : am_M} (hR : am_RI M) : bf_fold (rp_c M) (fun a => bf_idx 0 a 0) 0 9 (-4) bf_0 = bf_init (am_Ac M) (am_J M) := by
  obtain ⟨q1, q2, q3, q4, q5, q6, -⟩ := hR
  have h1 : am_Ac M = (M 1 1).toInt := rfl
  have h2 : am_J M = (M 1 2).toInt := rfl
  have e := bf_fold_in (c := rp_c M) (fun a => bf_idx 0 a 0) 0 (bf_lo (am_Ac M) (am_J M) 0) (bf_hi (am_Ac M) (am_J M) 0) (-4) 4 bf_0 (by unfold bf_lo; omega) (by unfold bf_hi; omega) (by unfold bf_lo bf_hi; omega) (fun q => by unfold rp_c bf_lo bf_hi; rw [decide_eq_true_eq]; omega)
  exact e
set_option maxRecDepth 100000 in
set_option maxHeartbeats 400000 in
theorem lp_X3_begin (ad : Nat → Nat) (M : am_M) (hR : am_RI M) : ∀ (n : Nat) (a : Int) (N : am_M) (B : bf_B), a + n = 5 → -4 ≤ a → rp_RC N B → bf_ok B → N 4 2 = 0 → N 4 4 = M 1 8 → (∀ q, q ≠ 4 → q ≠ 5 → q ≠ 6 → N q = M q) → bf_fold (rp_c M) (fun a => bf_idx 0 a 0) 0 n a B = bf_init (am_Ac M) (am_J M) → am_W ydX3_begin ad am_II (fun r N => r = none ∧ rp_new M N) 29 [some (.ref (ad 4)), some (.ref (ad 1)), some (.int (iN a))] [] N := by
  intro n
  induction n with
  | zero =>
    intro a N B ha h4 hRC hok h2 hv hf he
    refine am_iload_n rfl dX3_begin_29 ?_
    refine am_iconst (v := 4) (by decide) dX3_begin_30 ?_
    refine am_icmp_gt (tgt := 60) (by decide) dX3_begin_31 (fun h => ?_) (fun h => (by exfalso; simp only [Int32.lt_iff_toInt_lt, iN_e, kI_4] at h; omega))
    refine am_vret rfl dX3_begin_60 ?_
    rw [bf_fold] at he
    subst he
    exact ⟨rfl, hRC, h2, hv, hf⟩
  | succ n ih =>
    intro a N B ha h4 hRC hok h2 hv hf he
    have e1 : N 1 = M 1 := hf 1 (by decide) (by decide) (by decide)
    have hR' : am_RI N := by unfold am_RI; rw [e1]; exact hR
    have er := am_rest_iff hR' (a := a) (by omega) (by omega)
    have eA : am_Ac N = am_Ac M := by unfold am_Ac; rw [e1]
    have eJ : am_J N = am_J M := by unfold am_J; rw [e1]
    rw [eA, eJ] at er
    rw [bf_fold] at he
    refine am_iload_n rfl dX3_begin_29 ?_
    refine am_iconst (v := 4) (by decide) dX3_begin_30 ?_
    refine am_icmp_gt (tgt := 60) (by decide) dX3_begin_31 (fun h => (by exfalso; simp only [Int32.lt_iff_toInt_lt, iN_e, kI_4] at h; omega)) (fun h => ?_)
    refine am_aload_n rfl dX3_begin_34 ?_
    refine am_iconst (v := 0) (by decide) dX3_begin_35 ?_
    refine am_iload_n rfl dX3_begin_36 ?_
    refine am_callVi (c_X4_isRest ad N _ _) okX4_isRest ml_X3_76 (by decide) rfl rfl rfl ⟨by decide, by decide⟩ (Nat.le_of_ble_eq_true rfl) rfl dX3_begin_37 ?_
    refine am_ifb_eq (tgt := 54) (by decide) dX3_begin_40 (fun h40 => ?_) (fun h40 => ?_)
    · refine am_iinc rfl rfl (by decide) dX3_begin_54 ?_
      refine am_goto (tgt := 29) (by decide) dX3_begin_57 ?_
      first
      | (rw [if_neg (by unfold rp_c; rw [decide_eq_true_eq]; exact fun q => by rw [er.mpr q] at h40; cases h40)] at he; exact am_eq (by rw [iN_inc]; rfl) rfl rfl (ih (a + 1) N B (by omega) (by omega) hRC hok h2 hv hf he))
      | (rw [if_pos (by unfold rp_c; rw [decide_eq_true_eq]; exact er.mp h40)] at he; exact am_eq (by rw [iN_inc]; rfl) rfl rfl (ih (a + 1) _ _ (by omega) (by omega) hRC1 (bf_push_ok hok hix (Nat.zero_le _)) ((hfr1.2 2 (by decide)).trans h2) ((hfr1.2 4 (by decide)).trans hv) (fun q p1 p2 p3 => (hfr1.1 q p1 p2 p3).trans (hf q p1 p2 p3)) he))
    · refine am_aload_n rfl dX3_begin_43 ?_
      refine am_iconst (v := 0) (by decide) dX3_begin_44 ?_
      refine am_iload_n rfl dX3_begin_45 ?_
      refine am_iconst (v := 0) (by decide) dX3_begin_46 ?_
      refine am_callSi (c_X3_nodeOf ad N 0 (iN a) 0) okX3_nodeOf ml_X3_80 rfl ⟨by decide, by decide⟩ (Nat.le_of_ble_eq_true rfl) rfl dX3_begin_47 ?_
      rw [show sp_node 0 (iN a) 0 = nI (bf_idx 0 a 0) from sp_node_e (v := 0) (l := 0) (by omega) (by omega) (by omega) (by omega) (by omega) (by omega)]
      have hix : bf_idx 0 a 0 < 23517 := (bf_idx_lt (v := 0) (l := 0) (by omega) (by omega) (by omega) (by omega) (by omega) (by omega)).1
      refine am_iconst (v := 0) (by decide) dX3_begin_50 ?_
      refine am_callV (c_X3_find ad N B (bf_idx 0 a 0) 0 hRC hok hix) okX3_find ml_X3_83 (by decide) rfl rfl rfl ⟨by decide, by decide⟩ (Nat.le_of_ble_eq_true rfl) rfl dX3_begin_51 (fun r51 N51 p51 => ?_)
      obtain ⟨rfl, hRC1, hfr1⟩ := p51
      refine am_iinc rfl rfl (by decide) dX3_begin_54 ?_
      refine am_goto (tgt := 29) (by decide) dX3_begin_57 ?_
      first
      | (rw [if_neg (by unfold rp_c; rw [decide_eq_true_eq]; exact fun q => by rw [er.mpr q] at h40; cases h40)] at he; exact am_eq (by rw [iN_inc]; rfl) rfl rfl (ih (a + 1) N B (by omega) (by omega) hRC hok h2 hv hf he))
      | (rw [if_pos (by unfold rp_c; rw [decide_eq_true_eq]; exact er.mp h40)] at he; exact am_eq (by rw [iN_inc]; rfl) rfl rfl (ih (a + 1) _ _ (by omega) (by omega) hRC1 (bf_push_ok hok hix (Nat.zero_le _)) ((hfr1.2 2 (by decide)).trans h2) ((hfr1.2 4 (by decide)).trans hv) (fun q p1 p2 p3 => (hfr1.1 q p1 p2 p3).trans (hf q p1 p2 p3)) he))
set_option maxRecDepth 100000 in
set_option maxHeartbeats 400000 in
theorem c_X3_begin (ad : Nat → Nat) (M : am_M)  (hR : am_RI M) : am_C ydX3_begin ad am_II [.ref (ad 4), .ref (ad 1)] M (fun r N => r = none ∧ rp_new M N) := by
  refine am_ofW (L := [some (.ref (ad 4)), some (.ref (ad 1)), none]) (by decide +kernel) (by simp [Value.category]) (Nat.le_of_ble_eq_true rfl) rfl ?_
  refine am_aload_n rfl dX3_begin_0 ?_
  refine am_aload_n rfl dX3_begin_1 ?_
  refine am_geti (j := 8) (by decide) rfl rfl rfl hTX4 (by decide) fl_X3_32 dX3_begin_2 ?_
  refine am_puti (j := 4) (by decide) rfl rfl rfl hTX3 tyX3_ok nmX3 (by decide) fl_X3_25 rfl rfl rfl rfl dX3_begin_5 ?_
  refine am_aload_n rfl dX3_begin_8 ?_
  refine am_getr (j := 0) (by decide) rfl rfl rfl hTX3 (by decide) fl_X3_9 dX3_begin_9 ?_
  refine am_iconst (v := (-1)) (by decide) dX3_begin_12 ?_
  refine am_callSv (c_J7_fill ad am_II 5 23517 (by decide) rfl (by omega) _ _) okJ7_fill_53178 ml_X3_70 rfl ⟨by decide, by decide⟩ (Nat.le_of_ble_eq_true rfl) rfl dX3_begin_13 ?_
  refine am_aload_n rfl dX3_begin_16 ?_
  refine am_iconst (v := 0) (by decide) dX3_begin_17 ?_
  refine am_puti (j := 2) (by decide) rfl rfl rfl hTX3 tyX3_ok nmX3 (by decide) fl_X3_18 rfl rfl rfl rfl dX3_begin_18 ?_
  refine am_aload_n rfl dX3_begin_21 ?_
  refine am_iconst (v := 0) (by decide) dX3_begin_22 ?_
  refine am_puti (j := 3) (by decide) rfl rfl rfl hTX3 tyX3_ok nmX3 (by decide) fl_X3_22 rfl rfl rfl rfl dX3_begin_23 ?_
  refine am_bipush (v := (-4)) (by decide) dX3_begin_26 ?_
  refine am_istore_n (by decide) dX3_begin_28 ?_
  refine lp_X3_begin ad M hR 9 (-4) _ bf_0 (by omega) (by omega) ⟨fun x hx => ?_, fun i hi => absurd hi (Nat.not_lt_zero _), ?_⟩ bf_ok_0 ?_ ?_ (fun q p1 p2 p3 => ?_) (rp_init_e hR)
  · rw [am_put_ne _ _ _ _ (show (5 : Nat) ≠ 4 by decide), am_put_ne _ _ _ _ (show (5 : Nat) ≠ 4 by decide), am_row_at, if_pos hx]
    rfl
  · rw [am_rd]
    rfl
  · simp [am_rd]
  · rw [am_rd, am_rd, if_neg (by decide), if_neg (by decide), am_row_ne _ _ _ (by decide), am_rd]
    rfl
  · rw [am_put_ne _ _ _ _ p1, am_put_ne _ _ _ _ p1, am_row_ne _ _ _ p2, am_put_ne _ _ _ _ p1]
end
section
def tA (M : am_M) (v a l : Int) : Int32 := if 0 ≤ l ∧ l ≤ 200 then M 5 (bf_idx v a l) else -1
theorem am_in_iff {l : Int} (h1 : -100000 ≤ l) (h2 : l ≤ 100000) : sp_in (iN l) 0 200 = true ↔ 0 ≤ l ∧ l ≤ 200 := by
  simp only [sp_in, decide_eq_true_eq, Int32.le_iff_toInt_le, Int32.toInt_zero, iN_e, kI_200]
  omega
set_option maxRecDepth 100000 in
set_option maxHeartbeats 400000 in
theorem c_X3_ticksAt (ad : Nat → Nat) (M : am_M) (v a l : Int) (h1 : 0 ≤ v) (h2 : v ≤ 12) (h3 : -4 ≤ a) (h4 : a ≤ 4) (h5 : -100000 ≤ l) (h6 : l ≤ 100000) : am_C ydX3_ticksAt ad am_II [.ref (ad 4), .int (iN v), .int (iN a), .int (iN l)] M (am_is (tA M v a l) M) := by
  refine am_ofW (L := [some (.ref (ad 4)), some (.int (iN v)), some (.int (iN a)), some (.int (iN l)), none]) (by decide +kernel) (by simp [Value.category]) (Nat.le_of_ble_eq_true rfl) rfl ?_
  refine am_iload_n rfl dX3_ticksAt_0 ?_
  refine am_iload_n rfl dX3_ticksAt_1 ?_
  refine am_iload_n rfl dX3_ticksAt_2 ?_
  refine am_callSi (c_X3_nodeOf ad _ _ _ _) okX3_nodeOf ml_X3_80 rfl ⟨by decide, by decide⟩ (Nat.le_of_ble_eq_true rfl) rfl dX3_ticksAt_3 ?_
  refine am_istore (by decide) dX3_ticksAt_6 ?_
  refine am_iload_n rfl dX3_ticksAt_8 ?_
  refine am_iconst (v := 0) (by decide) dX3_ticksAt_9 ?_
  refine am_sipush (v := 200) (by decide) dX3_ticksAt_10 ?_
  refine am_callNi (c_X6_isWithin ad _ _ _ _) okX6_isWithin ml_X3_28 rfl ⟨by decide, by decide⟩ (Nat.le_of_ble_eq_true rfl) rfl dX3_ticksAt_13 ?_
  refine am_ifb_eq (tgt := 41) (by decide) dX3_ticksAt_16 (fun h16 => ?_) (fun h16 => ?_)
  · refine am_iconst (v := (-1)) (by decide) dX3_ticksAt_41 ?_
    refine am_iret rfl dX3_ticksAt_42 ?_
    refine am_isE ?_
    unfold tA
    first | rw [if_pos h9] | rw [if_neg (fun q => by rw [(am_in_iff h5 h6).mpr q] at h16; cases h16)]
  · have h9 := (am_in_iff h5 h6).mp h16
    rw [sp_node_e h1 h2 h3 h4 h9.1 h9.2]
    have hvp : vp_in (nI (bf_idx v a l)) 23517 := vp_in_nI (bf_idx_lt h1 h2 h3 h4 h9.1 h9.2).1 (by omega)
    refine am_aload_n rfl dX3_ticksAt_19 ?_
    refine am_getr (j := 0) (by decide) rfl rfl rfl hTX3 (by decide) fl_X3_9 dX3_ticksAt_20 ?_
    refine am_iload rfl dX3_ticksAt_23 ?_
    refine am_callNi (c_X6_isIndexOf ad M 5 23517 (nI (bf_idx v a l)) (by decide) rfl (by decide) hvp) okX6_isIndexOf ml_X3_39 rfl ⟨by decide, by decide⟩ (Nat.le_of_ble_eq_true rfl) rfl dX3_ticksAt_25 ?_
    refine am_ifb_eq (tgt := 41) (by decide) dX3_ticksAt_28 (fun h28 => ?_) (fun h28 => ?_)
    · cases h28
    · refine am_aload_n rfl dX3_ticksAt_31 ?_
      refine am_getr (j := 0) (by decide) rfl rfl rfl hTX3 (by decide) fl_X3_9 dX3_ticksAt_32 ?_
      refine am_iload rfl dX3_ticksAt_35 ?_
      refine am_iald (by decide) rfl (hvp) dX3_ticksAt_37 ?_
      rw [nI_clamp (by have := (bf_idx_lt h1 h2 h3 h4 h9.1 h9.2).1; omega)]
      refine am_goto (tgt := 42) (by decide) dX3_ticksAt_38 ?_
      refine am_iret rfl dX3_ticksAt_42 ?_
      refine am_isE ?_
      unfold tA
      first | rw [if_pos h9] | rw [if_neg (fun q => by rw [(am_in_iff h5 h6).mpr q] at h16; cases h16)]
def rp_st (n : Int) : Nat := bf_idx 0 0 n
theorem c_X3_ticksAtn (ad : Nat → Nat) (M : am_M) (n : Int32) (hn : 0 ≤ n.toInt) (hn2 : n.toInt ≤ 200) : am_C ydX3_ticksAt ad am_II [.ref (ad 4), .int 0, .int 0, .int n] M (am_is (M 5 (rp_st n.toInt)) M) := by
  have h := c_X3_ticksAt ad M 0 0 n.toInt (by omega) (by omega) (by omega) (by omega) (by omega) (by omega)
  rw [iN_self, show tA M 0 0 n.toInt = M 5 (rp_st n.toInt) from if_pos ⟨hn, hn2⟩] at h
  exact h
set_option maxRecDepth 100000 in
set_option maxHeartbeats 400000 in
theorem lp_X3_look (ad : Nat → Nat) (M : am_M) (x d : Nat) (hx : x < 23517) (v l hi : Int) (BF : bf_B) (h1 : 0 ≤ v) (h2 : v ≤ 12) (h3 : 0 ≤ l) (h4 : l ≤ 200) (h5 : hi ≤ 4) : ∀ (n : Nat) (a : Int) (N : am_M) (B : bf_B), a + n = hi + 1 → -4 ≤ a → rp_RC N B → bf_ok B → B.1 x = some d → rp_fr M N → bf_fold bf_yes (fun a => bf_idx v a l) (d + 1) n a B = BF → am_W ydX3_lookBehind ad am_II (fun r N => r = none ∧ rp_RC N BF ∧ rp_fr M N) 104 [some (.ref (ad 4)), some (.ref (ad 1)), some (.int (nI x)), some (.int (nI x / 201)), some (.int (iN (bf_w x))), some (.int (iN (bf_b x))), some (.int (iN v)), some (.int (iN (bf_l x))), some (.int (iN l)), some (.int (nI (d + 1))), some (.int (iN hi)), some (.int (iN a))] [] N := by
  intro n
  induction n with
  | zero =>
    intro a N B ha h6 hRC hok hd hf he
    refine am_iload rfl dX3_lookBehind_104 ?_
    refine am_iload rfl dX3_lookBehind_106 ?_
    refine am_icmp_gt (tgt := 132) (by decide) dX3_lookBehind_108 (fun h => ?_) (fun h => (by exfalso; simp only [Int32.lt_iff_toInt_lt, iN_e] at h; omega))
    refine am_vret rfl dX3_lookBehind_132 ?_
    rw [bf_fold] at he
    subst he
    exact ⟨rfl, hRC, hf⟩
  | succ n ih =>
    intro a N B ha h6 hRC hok hd hf he
    have hix := bf_idx_lt h1 h2 h6 (show a ≤ 4 by omega) h3 h4
    have hd1 := hok.small hd
    rw [bf_fold, show bf_yes a = true from rfl, if_pos rfl] at he
    refine am_iload rfl dX3_lookBehind_104 ?_
    refine am_iload rfl dX3_lookBehind_106 ?_
    refine am_icmp_gt (tgt := 132) (by decide) dX3_lookBehind_108 (fun h => (by exfalso; simp only [Int32.lt_iff_toInt_lt, iN_e] at h; omega)) (fun h => ?_)
    refine am_aload_n rfl dX3_lookBehind_111 ?_
    refine am_iload rfl dX3_lookBehind_112 ?_
    refine am_iload rfl dX3_lookBehind_114 ?_
    refine am_iload rfl dX3_lookBehind_116 ?_
    refine am_callSi (c_X3_nodeOf ad _ _ _ _) okX3_nodeOf ml_X3_80 rfl ⟨by decide, by decide⟩ (Nat.le_of_ble_eq_true rfl) rfl dX3_lookBehind_118 ?_
    rw [sp_node_e h1 h2 h6 (by omega) h3 h4]
    refine am_iload rfl dX3_lookBehind_121 ?_
    refine am_callV (c_X3_find ad N B (bf_idx v a l) (d + 1) hRC hok hix.1) okX3_find ml_X3_83 (by decide) rfl rfl rfl ⟨by decide, by decide⟩ (Nat.le_of_ble_eq_true rfl) rfl dX3_lookBehind_123 (fun r123 N123 p123 => ?_)
    obtain ⟨rfl, hRC1, hfr1⟩ := p123
    refine am_iinc rfl rfl (by decide) dX3_lookBehind_126 ?_
    refine am_goto (tgt := 104) (by decide) dX3_lookBehind_129 ?_
    exact am_eq (by rw [iN_inc]; rfl) rfl rfl (ih (a + 1) _ _ (by omega) (by omega) hRC1 (bf_push_ok hok hix.1 hd1.2) ((bf_push_c B _ _).2.2 x d hd) (hf.tr hfr1) he)
set_option maxRecDepth 100000 in
set_option maxHeartbeats 400000 in
theorem c_X3_lookBehind (ad : Nat → Nat) (M : am_M) (B : bf_B) (x d : Nat) (hR : am_RI M) (hRC : rp_RC M B) (hok : bf_ok B) (hx : x < 23517) (hd : B.1 x = some d) : am_C ydX3_lookBehind ad am_II [.ref (ad 4), .ref (ad 1), .int (nI x)] M (fun r N => r = none ∧ rp_RC N (bf_proc (am_V M) (am_Ac M) (am_J M) (am_E M (am_s M)) B x) ∧ rp_fr M N) := by
  have hw := bf_wbl hx
  have htA : tA M (bf_w x) (bf_b x) (bf_l x) = nI d := by
    unfold tA
    rw [if_pos hw.2.2.2.2, bf_wbl_x hx, hRC.1 x hx, hd]
    rfl
  have hsp := am_speed_iff (M := M) (v := bf_w x - bf_b x) (by omega) (by omega)
  refine am_ofW (L := [some (.ref (ad 4)), some (.ref (ad 1)), some (.int (nI x)), none, none, none, none, none, none, none, none, none]) (by decide +kernel) (by simp [Value.category]) (Nat.le_of_ble_eq_true rfl) rfl ?_
  refine am_iload_n rfl dX3_lookBehind_0 ?_
  refine am_sipush (v := 201) (by decide) dX3_lookBehind_1 ?_
  refine am_idiv (by decide) dX3_lookBehind_4 ?_
  refine am_istore_n (by decide) dX3_lookBehind_5 ?_
  refine am_iload_n rfl dX3_lookBehind_6 ?_
  refine am_bipush (v := 9) (by decide) dX3_lookBehind_7 ?_
  refine am_idiv (by decide) dX3_lookBehind_9 ?_
  rw [rp_w hx]
  refine am_istore (by decide) dX3_lookBehind_10 ?_
  refine am_iload_n rfl dX3_lookBehind_12 ?_
  refine am_bipush (v := 9) (by decide) dX3_lookBehind_13 ?_
  refine am_irem (by decide) dX3_lookBehind_15 ?_
  refine am_iconst (v := 4) (by decide) dX3_lookBehind_16 ?_
  refine am_isub dX3_lookBehind_17 ?_
  rw [← rp_w hx, rp_b hx, rp_w hx]
  refine am_istore (by decide) dX3_lookBehind_18 ?_
  refine am_iload rfl dX3_lookBehind_20 ?_
  refine am_iload rfl dX3_lookBehind_22 ?_
  refine am_isub dX3_lookBehind_24 ?_
  rw [iN_sub]
  refine am_istore (by decide) dX3_lookBehind_25 ?_
  refine am_iload_n rfl dX3_lookBehind_27 ?_
  refine am_sipush (v := 201) (by decide) dX3_lookBehind_28 ?_
  refine am_irem (by decide) dX3_lookBehind_31 ?_
  rw [rp_lb hx]
  refine am_istore (by decide) dX3_lookBehind_32 ?_
  refine am_iload rfl dX3_lookBehind_34 ?_
  refine am_iload rfl dX3_lookBehind_36 ?_
  refine am_iadd dX3_lookBehind_38 ?_
  rw [iN_add]
  refine am_istore (by decide) dX3_lookBehind_39 ?_
  refine am_iload rfl dX3_lookBehind_41 ?_
  refine am_sipush (v := 200) (by decide) dX3_lookBehind_43 ?_
  refine am_icmp_gt (tgt := 73) (by decide) dX3_lookBehind_46 (fun h46 => ?_) (fun h46 => ?_)
  · refine am_vret rfl dX3_lookBehind_73 ?_
    have hs9 : bf_stop (am_V M) (am_E M (am_s M)) x := by
      first
      | (exact Or.inl (by simp only [Int32.lt_iff_toInt_lt, iN_e, kI_200] at h46; omega))
      | (exact Or.inr (Or.inr (Or.inr h70)))
      | (refine Classical.byContradiction fun q => ?_
         have q2 : ¬ (bf_w x - bf_b x < 0) ∧ ¬ (am_V M < bf_w x - bf_b x) := ⟨fun z => q (Or.inr (Or.inl z)), fun z => q (Or.inr (Or.inr (Or.inl z)))⟩
         have q3 := hsp.mpr (by omega)
         rw [q3] at h55
         cases h55)
    unfold bf_proc
    rw [if_pos hs9]
    exact ⟨rfl, hRC, rp_fr.rf M⟩
  · refine am_aload_n rfl dX3_lookBehind_49 ?_
    refine am_iload rfl dX3_lookBehind_50 ?_
    refine am_callVi (c_X4_isSpeed ad M (iN (bf_w x - bf_b x))) okX4_isSpeed ml_X3_87 (by decide) rfl rfl rfl ⟨by decide, by decide⟩ (Nat.le_of_ble_eq_true rfl) rfl dX3_lookBehind_52 ?_
    refine am_ifb_eq (tgt := 73) (by decide) dX3_lookBehind_55 (fun h55 => ?_) (fun h55 => ?_)
    · refine am_vret rfl dX3_lookBehind_73 ?_
      have hs9 : bf_stop (am_V M) (am_E M (am_s M)) x := by
        first
        | (exact Or.inl (by simp only [Int32.lt_iff_toInt_lt, iN_e, kI_200] at h46; omega))
        | (exact Or.inr (Or.inr (Or.inr h70)))
        | (refine Classical.byContradiction fun q => ?_
           have q2 : ¬ (bf_w x - bf_b x < 0) ∧ ¬ (am_V M < bf_w x - bf_b x) := ⟨fun z => q (Or.inr (Or.inl z)), fun z => q (Or.inr (Or.inr (Or.inl z)))⟩
           have q3 := hsp.mpr (by omega)
           rw [q3] at h55
           cases h55)
      unfold bf_proc
      rw [if_pos hs9]
      exact ⟨rfl, hRC, rp_fr.rf M⟩
    · refine am_aload_n rfl dX3_lookBehind_58 ?_
      refine am_iload rfl dX3_lookBehind_59 ?_
      refine am_iload rfl dX3_lookBehind_61 ?_
      refine am_aload_n rfl dX3_lookBehind_63 ?_
      refine am_geti (j := 7) (by decide) rfl rfl rfl hTX4 (by decide) fl_X3_62 dX3_lookBehind_64 ?_
      rw [hR.s]
      refine am_callVi (c_X4_mayEnd ad M (iN (bf_w x)) (iN (bf_b x)) (am_s M)) okX4_mayEnd ml_X3_66 (by decide) rfl rfl rfl ⟨by decide, by decide⟩ (Nat.le_of_ble_eq_true rfl) rfl dX3_lookBehind_67 ?_
      refine am_ifb_ne (tgt := 74) (by decide) dX3_lookBehind_70 (fun h70 => ?_) (fun h70 => ?_)
      · refine am_aload_n rfl dX3_lookBehind_74 ?_
        refine am_iload rfl dX3_lookBehind_75 ?_
        refine am_iload rfl dX3_lookBehind_77 ?_
        refine am_iload rfl dX3_lookBehind_79 ?_
        refine am_callVi (c_X3_ticksAt ad M (bf_w x) (bf_b x) (bf_l x) hw.1 hw.2.1 hw.2.2.1 hw.2.2.2.1 (by omega) (by omega)) okX3_ticksAt ml_X3_43 (by decide) rfl rfl rfl ⟨by decide, by decide⟩ (Nat.le_of_ble_eq_true rfl) rfl dX3_lookBehind_81 ?_
        rw [htA]
        refine am_iconst (v := 1) (by decide) dX3_lookBehind_84 ?_
        refine am_iadd dX3_lookBehind_85 ?_
        rw [show nI d + 1 = nI (d + 1) from nI_1 d]
        refine am_istore (by decide) dX3_lookBehind_86 ?_
        refine am_aload_n rfl dX3_lookBehind_88 ?_
        refine am_iload rfl dX3_lookBehind_89 ?_
        refine am_callVi (c_X4_mostBeside ad _ _) okX4_mostBeside ml_X3_59 (by decide) rfl rfl rfl ⟨by decide, by decide⟩ (Nat.le_of_ble_eq_true rfl) rfl dX3_lookBehind_91 ?_
        rw [am_most_e hR hw.2.2.1 hw.2.2.2.1]
        refine am_istore (by decide) dX3_lookBehind_94 ?_
        refine am_aload_n rfl dX3_lookBehind_96 ?_
        refine am_iload rfl dX3_lookBehind_97 ?_
        refine am_callVi (c_X4_leastBeside ad _ _) okX4_leastBeside ml_X3_55 (by decide) rfl rfl rfl ⟨by decide, by decide⟩ (Nat.le_of_ble_eq_true rfl) rfl dX3_lookBehind_99 ?_
        rw [am_least_e hR hw.2.2.1 hw.2.2.2.1]
        refine am_istore (by decide) dX3_lookBehind_102 ?_
        have hsp2 := hsp.mp h55
        have hns : ¬ bf_stop (am_V M) (am_E M (am_s M)) x := by
          rintro (q | q | q | q)
          · simp only [Int32.lt_iff_toInt_lt, iN_e, kI_200] at h46; omega
          · omega
          · omega
          · exact absurd (q.symm.trans (show am_E M (am_s M) (bf_w x) (bf_b x) = true from h70)) (by decide)
        have hst := (am_state_iff hR (v := bf_w x) (a := bf_b x) (by omega) (by omega) (by omega) (by omega)).mp (by
          have h7 : sp_mayEnd M (iN (bf_w x)) (iN (bf_b x)) (am_s M) = true := h70
          simp only [sp_mayEnd, decide_eq_true_eq] at h7
          exact h7.1)
        have hq : am_V M = (M 1 0).toInt ∧ am_Ac M = (M 1 1).toInt ∧ am_J M = (M 1 2).toInt := ⟨rfl, rfl, rfl⟩
        have hq2 := hR
        unfold am_RI at hq2
        have hlh := bf_lohi (A := am_Ac M) (J := am_J M) (b := bf_b x) (by omega) (by omega) (by omega) (by omega)
        unfold bf_proc
        rw [if_neg hns, hd]
        refine lp_X3_look ad M x d hx _ _ _ _ (by omega) (by omega) (by omega) (by simp only [Int32.lt_iff_toInt_lt, iN_e, kI_200] at h46; omega) (by omega) (bf_n (am_Ac M) (am_J M) (bf_b x)) _ _ _ (by unfold bf_n; omega) (by omega) hRC hok hd (rp_fr.rf M) rfl
      · refine am_vret rfl dX3_lookBehind_73 ?_
        have hs9 : bf_stop (am_V M) (am_E M (am_s M)) x := by
          first
          | (exact Or.inl (by simp only [Int32.lt_iff_toInt_lt, iN_e, kI_200] at h46; omega))
          | (exact Or.inr (Or.inr (Or.inr h70)))
          | (refine Classical.byContradiction fun q => ?_
             have q2 : ¬ (bf_w x - bf_b x < 0) ∧ ¬ (am_V M < bf_w x - bf_b x) := ⟨fun z => q (Or.inr (Or.inl z)), fun z => q (Or.inr (Or.inr (Or.inl z)))⟩
             have q3 := hsp.mpr (by omega)
             rw [q3] at h55
             cases h55)
        unfold bf_proc
        rw [if_pos hs9]
        exact ⟨rfl, hRC, rp_fr.rf M⟩
end
section
def rn_s (c : Int → Bool) : Nat → Int → Int
  | 0, _ => 5
  | n + 1, b => if c b = true then b else rn_s c n (b - 1)
def rp_cb (M : am_M) (v a l : Int) : Int → Bool := fun b => sp_mayEnd M (iN (v + b)) (iN b) (am_s M) && decide (tA M (v + b) b (l - (v + b)) = tA M v a l - 1)
def rp_nc (M : am_M) (v a l : Int) : Int := if tA M v a l < 1 then 5 else rn_s (rp_cb M v a l) (bf_n (am_Ac M) (am_J M) a) (bf_hi (am_Ac M) (am_J M) a)
theorem rn_s_in {c : Int → Bool} : ∀ (n : Nat) (b r : Int), rn_s c n b = r → r ≠ 5 → b - n < r ∧ r ≤ b ∧ c r = true := by
  intro n
  induction n with
  | zero => intro b r h hr; exact absurd h.symm hr
  | succ n ih =>
    intro b r h hr
    rw [rn_s] at h
    by_cases q : c b = true
    · rw [if_pos q] at h
      subst h
      exact ⟨by omega, by omega, q⟩
    · rw [if_neg q] at h
      have := ih (b - 1) r h hr
      exact ⟨by omega, by omega, this.2.2⟩
set_option maxRecDepth 100000 in
set_option maxHeartbeats 400000 in
theorem lp_X3_nc (ad : Nat → Nat) (M : am_M) (hR : am_RI M) (v a l : Int) (h1 : 0 ≤ v) (h2 : v ≤ 12) (h3 : -4 ≤ a) (h4 : a ≤ 4) (h5 : -1000 ≤ l) (h6 : l ≤ 1000)  (lo R : Int) (hlo : -4 ≤ lo) (hlo2 : lo ≤ 8) : ∀ (n : Nat) (b : Int) (nr : Option Value), (b + 1 = lo + n ∨ (n = 0 ∧ b < lo)) → b ≤ 4 → -10 ≤ b → rn_s (rp_cb M v a l) n b = R → am_W ydX3_nextChange ad am_II (am_is (iN R) M) 32 [some (.ref (ad 4)), some (.ref (ad 1)), some (.int (iN v)), some (.int (iN a)), some (.int (iN l)), some (.int (tA M v a l)), some (.int (iN lo)), some (.int (iN b)), nr] [] M := by
  intro n
  induction n with
  | zero =>
    intro b nr hb hb4 hb5 he
    refine am_iload rfl dX3_nextChange_32 ?_
    refine am_iload rfl dX3_nextChange_34 ?_
    refine am_icmp_lt (tgt := 89) (by decide) dX3_nextChange_36 (fun h => ?_) (fun h => (by exfalso; simp only [Int32.lt_iff_toInt_lt, iN_e] at h; omega))
    rw [rn_s] at he
    subst he
    refine am_iconst (v := 5) (by decide) dX3_nextChange_89 ?_
    refine am_iret rfl dX3_nextChange_90 ?_
    exact ⟨rfl, rfl⟩
  | succ n ih =>
    intro b nr hb hb4 hb5 he
    rw [rn_s] at he
    refine am_iload rfl dX3_nextChange_32 ?_
    refine am_iload rfl dX3_nextChange_34 ?_
    refine am_icmp_lt (tgt := 89) (by decide) dX3_nextChange_36 (fun h => (by exfalso; simp only [Int32.lt_iff_toInt_lt, iN_e] at h; omega)) (fun h => ?_)
    have hst := am_state_iff hR (v := v + b) (a := b) (by omega) (by omega) (by omega) (by omega)
    have hq : am_V M = (M 1 0).toInt ∧ am_Ac M = (M 1 1).toInt ∧ am_J M = (M 1 2).toInt := ⟨rfl, rfl, rfl⟩
    have hq2 := hR
    unfold am_RI at hq2
    refine am_iload_n rfl dX3_nextChange_39 ?_
    refine am_iload rfl dX3_nextChange_40 ?_
    refine am_iadd dX3_nextChange_42 ?_
    rw [iN_add]
    refine am_istore (by decide) dX3_nextChange_43 ?_
    refine am_aload_n rfl dX3_nextChange_45 ?_
    refine am_iload rfl dX3_nextChange_46 ?_
    refine am_iload rfl dX3_nextChange_48 ?_
    refine am_aload_n rfl dX3_nextChange_50 ?_
    refine am_geti (j := 7) (by decide) rfl rfl rfl hTX4 (by decide) fl_X3_62 dX3_nextChange_51 ?_
    rw [hR.s]
    refine am_callVi (c_X4_mayEnd ad M (iN (v + b)) (iN b) (am_s M)) okX4_mayEnd ml_X3_66 (by decide) rfl rfl rfl ⟨by decide, by decide⟩ (Nat.le_of_ble_eq_true rfl) rfl dX3_nextChange_54 ?_
    refine am_ifb_eq (tgt := 83) (by decide) dX3_nextChange_57 (fun h57 => ?_) (fun h57 => ?_)
    · have hng : ¬ rp_cb M v a l b = true := fun q => by
        unfold rp_cb at q
        rw [Bool.and_eq_true, decide_eq_true_eq] at q
        first | exact h77 q.2 | (rw [q.1] at h57; cases h57)
      rw [if_neg hng] at he
      refine am_iinc rfl rfl (by decide) dX3_nextChange_83 ?_
      refine am_goto (tgt := 32) (by decide) dX3_nextChange_86 ?_
      exact am_eq (by rw [iN_dec]; rfl) rfl rfl (ih (b - 1) _ (by omega) (by omega) (by omega) he)
    · have hv := hst.mp (by have h7 := h57; simp only [sp_mayEnd, decide_eq_true_eq] at h7; exact h7.1)
      refine am_aload_n rfl dX3_nextChange_60 ?_
      refine am_iload rfl dX3_nextChange_61 ?_
      refine am_iload rfl dX3_nextChange_63 ?_
      refine am_iload rfl dX3_nextChange_65 ?_
      refine am_iload rfl dX3_nextChange_67 ?_
      refine am_isub dX3_nextChange_69 ?_
      rw [iN_sub]
      refine am_callVi (c_X3_ticksAt ad M (v + b) b (l - (v + b)) hv.1.1 (by omega) (by omega) (by omega) (by omega) (by omega)) okX3_ticksAt ml_X3_43 (by decide) rfl rfl rfl ⟨by decide, by decide⟩ (Nat.le_of_ble_eq_true rfl) rfl dX3_nextChange_70 ?_
      refine am_iload rfl dX3_nextChange_73 ?_
      refine am_iconst (v := 1) (by decide) dX3_nextChange_75 ?_
      refine am_isub dX3_nextChange_76 ?_
      refine am_icmp_ne (tgt := 83) (by decide) dX3_nextChange_77 (fun h77 => ?_) (fun h77 => ?_)
      · have hng : ¬ rp_cb M v a l b = true := fun q => by
          unfold rp_cb at q
          rw [Bool.and_eq_true, decide_eq_true_eq] at q
          first | exact h77 q.2 | (rw [q.1] at h57; cases h57)
        rw [if_neg hng] at he
        refine am_iinc rfl rfl (by decide) dX3_nextChange_83 ?_
        refine am_goto (tgt := 32) (by decide) dX3_nextChange_86 ?_
        exact am_eq (by rw [iN_dec]; rfl) rfl rfl (ih (b - 1) _ (by omega) (by omega) (by omega) he)
      · refine am_iload rfl dX3_nextChange_80 ?_
        refine am_iret rfl dX3_nextChange_82 ?_
        rw [if_pos (by unfold rp_cb; rw [Bool.and_eq_true, decide_eq_true_eq]; exact ⟨h57, h77⟩)] at he
        subst he
        exact ⟨rfl, rfl⟩
set_option maxRecDepth 100000 in
set_option maxHeartbeats 400000 in
theorem c_X3_nextChange (ad : Nat → Nat) (M : am_M) (v a l : Int) (hR : am_RI M) (h1 : 0 ≤ v) (h2 : v ≤ 12) (h3 : -4 ≤ a) (h4 : a ≤ 4) (h5 : -1000 ≤ l) (h6 : l ≤ 1000) : am_C ydX3_nextChange ad am_II [.ref (ad 4), .ref (ad 1), .int (iN v), .int (iN a), .int (iN l)] M (am_is (iN (rp_nc M v a l)) M) := by
  refine am_ofW (L := [some (.ref (ad 4)), some (.ref (ad 1)), some (.int (iN v)), some (.int (iN a)), some (.int (iN l)), none, none, none, none]) (by decide +kernel) (by simp [Value.category]) (Nat.le_of_ble_eq_true rfl) rfl ?_
  refine am_aload_n rfl dX3_nextChange_0 ?_
  refine am_iload_n rfl dX3_nextChange_1 ?_
  refine am_iload_n rfl dX3_nextChange_2 ?_
  refine am_iload rfl dX3_nextChange_3 ?_
  refine am_callVi (c_X3_ticksAt ad M v a l h1 h2 h3 h4 (by omega) (by omega)) okX3_ticksAt ml_X3_43 (by decide) rfl rfl rfl ⟨by decide, by decide⟩ (Nat.le_of_ble_eq_true rfl) rfl dX3_nextChange_5 ?_
  refine am_istore (by decide) dX3_nextChange_8 ?_
  refine am_iload rfl dX3_nextChange_10 ?_
  refine am_iconst (v := 1) (by decide) dX3_nextChange_12 ?_
  refine am_icmp_ge (tgt := 18) (by decide) dX3_nextChange_13 (fun h13 => ?_) (fun h13 => ?_)
  · refine am_aload_n rfl dX3_nextChange_18 ?_
    refine am_iload_n rfl dX3_nextChange_19 ?_
    refine am_callVi (c_X4_leastBeside ad _ _) okX4_leastBeside ml_X3_55 (by decide) rfl rfl rfl ⟨by decide, by decide⟩ (Nat.le_of_ble_eq_true rfl) rfl dX3_nextChange_20 ?_
    rw [am_least_e hR h3 h4]
    refine am_istore (by decide) dX3_nextChange_23 ?_
    refine am_aload_n rfl dX3_nextChange_25 ?_
    refine am_iload_n rfl dX3_nextChange_26 ?_
    refine am_callVi (c_X4_mostBeside ad _ _) okX4_mostBeside ml_X3_59 (by decide) rfl rfl rfl ⟨by decide, by decide⟩ (Nat.le_of_ble_eq_true rfl) rfl dX3_nextChange_27 ?_
    rw [am_most_e hR h3 h4]
    refine am_istore (by decide) dX3_nextChange_30 ?_
    have hq : am_Ac M = (M 1 1).toInt ∧ am_J M = (M 1 2).toInt := ⟨rfl, rfl⟩
    have hq2 := hR
    unfold am_RI at hq2
    unfold rp_nc
    rw [if_neg (Int32.not_lt.mpr h13)]
    have hb1 : -4 ≤ bf_lo (am_Ac M) (am_J M) a := by unfold bf_lo; omega
    have hb0 : bf_lo (am_Ac M) (am_J M) a ≤ 8 := by unfold bf_lo; omega
    have hb7 : -10 ≤ bf_hi (am_Ac M) (am_J M) a := by unfold bf_hi; omega
    have hb2 : bf_hi (am_Ac M) (am_J M) a ≤ 4 := by unfold bf_hi; omega
    exact lp_X3_nc ad M hR v a l h1 h2 h3 h4 h5 h6 _ _ hb1 hb0 (bf_n (am_Ac M) (am_J M) a) _ _ (by unfold bf_n; omega) hb2 hb7 rfl
  · refine am_iconst (v := 5) (by decide) dX3_nextChange_16 ?_
    refine am_iret rfl dX3_nextChange_17 ?_
    refine am_isE ?_
    unfold rp_nc
    rw [if_pos (Int32.not_le.mp h13)]
    rfl
theorem am_conj {Y : am_Y} {ad : Nat → Nat} {I : List Nat} {P P' : Option Value → am_M → Prop} {pc : Nat} {L : List (Option Value)} {st : List Value} {M : am_M} (hp : ∀ {r N}, P' r N → P r N) (h : am_W Y ad I P' pc L st M) : am_W Y ad I P pc L st M := by
  intro l D cyI cyZ p e s m args below meth c A H locs ls hX hA hl hP hD hS T hT X
  obtain ⟨t, h1, o, h2, h3, ⟨⟨r, N, g1, g2, g3⟩, g4⟩, h5⟩ := h l D cyI cyZ p e s m args below meth c A H locs ls hX hA hl hP hD hS T hT X
  exact ⟨t, h1, o, h2, h3, ⟨⟨r, N, g1, hp g2, g3⟩, g4⟩, h5⟩
theorem bf_proc_ok {V A J : Int} {E : Int → Int → Bool} (hV : V ≤ 12) (hA : A ≤ 4) {B : bf_B} {x d : Nat} (hok : bf_ok B) (hx : x < 23517) (hd : B.1 x = some d) : bf_ok (bf_proc V A J E B x) ∧ bf_le B (bf_proc V A J E B x) := by
  unfold bf_proc
  have hw := bf_wbl hx
  split
  · exact ⟨hok, bf_le.rf B⟩
  · rename_i h
    unfold bf_stop at h
    have h1 : ¬ 200 < bf_l x + bf_w x := fun q => h (Or.inl q)
    have h2 : ¬ bf_w x - bf_b x < 0 := fun q => h (Or.inr (Or.inl q))
    have h3 : ¬ V < bf_w x - bf_b x := fun q => h (Or.inr (Or.inr (Or.inl q)))
    rw [hd]
    refine bf_fold_ok _ _ _ _ _ _ hok (hok.small hd).2 (fun a p1 p2 _ => ?_)
    have p3 : -4 ≤ a := by (unfold bf_lo at p1; omega)
    have p4 : a ≤ 4 := by (unfold bf_n bf_lo bf_hi at *; omega)
    exact (bf_idx_lt (by omega) (by omega) p3 p4 (by omega) (by omega)).1
theorem bf_init_ok {A J : Int} (hA : A ≤ 4) : bf_ok (bf_init A J) := by
  refine (bf_fold_ok _ _ _ _ _ _ bf_ok_0 (Nat.zero_le _) (fun a p1 p2 _ => ?_)).1
  have p3 : -4 ≤ a := by (unfold bf_lo at p1; omega)
  have p4 : a ≤ 4 := by (unfold bf_n bf_lo bf_hi at *; omega)
  exact (bf_idx_lt (by omega) (by omega) p3 p4 (by omega) (by omega)).1
theorem bf_T_ok {V A J : Int} {E : Int → Int → Bool} (hV : V ≤ 12) (hA : A ≤ 4) : ∀ k, bf_ok (bf_T V A J E k) := by
  intro k
  induction k with
  | zero => exact bf_init_ok hA
  | succ k ih =>
    rw [bf_T]
    split
    · rename_i h
      obtain ⟨h1, d, h2, -⟩ := ih.1 k h
      exact (bf_proc_ok hV hA ih h1 h2).1
    · exact ih
noncomputable def rp_T (M : am_M) : Nat → bf_B := bf_T (am_V M) (am_Ac M) (am_J M) (am_E M (am_s M))
theorem rp_T_cong {M N : am_M} (h1 : N 1 = M 1) (h2 : N 2 = M 2) (h3 : N 3 = M 3) : rp_T N = rp_T M := by
  have e1 : am_V N = am_V M := by unfold am_V; rw [h1]
  have e2 : am_Ac N = am_Ac M := by unfold am_Ac; rw [h1]
  have e3 : am_J N = am_J M := by unfold am_J; rw [h1]
  have e4 : am_s N = am_s M := by unfold am_s; rw [h1]
  have e5 : am_E N (am_s N) = am_E M (am_s M) := by
    rw [e4]
    funext w b
    unfold am_E sp_mayEnd sp_state sp_bad sp_safe
    rw [h1, h2, h3]
  unfold rp_T
  rw [e1, e2, e3, e5]
theorem am_RI.V {M : am_M} (h : am_RI M) : am_V M ≤ 12 ∧ am_Ac M ≤ 4 := ⟨h.2.1, h.2.2.2.1⟩
theorem am_RI.cong {M N : am_M} (h : am_RI M) (h1 : N 1 = M 1) : am_RI N := by unfold am_RI; rw [h1]; exact h
/-- the search of M's rules stands at k in N -/
def rp_at (M N : am_M) (k : Nat) : Prop := k ≤ (rp_T M k).2.2 ∧ rp_RC N (rp_T M k) ∧ N 4 2 = nI k ∧ N 4 4 = M 1 8 ∧ ∀ a, a ≠ 4 → a ≠ 5 → a ≠ 6 → N a = M a
/-- the search is far enough for n -/
def rp_far (M : am_M) (n : Int) (k : Nat) : Prop := ((rp_T M k).1 (rp_st n) ≠ none ∨ k = (rp_T M k).2.2) ∧ (M 4 4 = M 1 8 → (M 4 2).toInt ≤ (k : Int))
set_option maxRecDepth 100000 in
set_option maxHeartbeats 400000 in
theorem lp_X3_ticksOf (ad : Nat → Nat) (M : am_M) (hR : am_RI M) (n32 : Int32) (hn : 0 ≤ n32.toInt) (hn2 : n32.toInt ≤ 200) (k0 : Nat) (hk0 : M 4 4 = M 1 8 → (M 4 2).toInt ≤ (k0 : Int)) : ∀ (z k : Nat) (N : am_M), 23517 - k < z → k0 ≤ k → rp_at M N k → am_W ydX3_ticksOf ad am_II (fun r N => ∃ k, rp_at M N k ∧ rp_far M n32.toInt k ∧ r = some (.int (rp_enc ((rp_T M k).1 (rp_st n32.toInt))))) 29 [some (.ref (ad 4)), some (.ref (ad 1)), some (.int n32)] [] N := by
  intro z
  induction z with
  | zero => intro k N hz _ _; omega
  | succ z ih =>
    intro k N hz hkk hat
    obtain ⟨hk, hRC, h2, hv, hf⟩ := id hat
    have hok : bf_ok (rp_T M k) := bf_T_ok hR.V.1 hR.V.2 k
    have hst : rp_st n32.toInt < 23517 := (bf_idx_lt (v := 0) (a := 0) (by omega) (by omega) (by omega) (by omega) hn hn2).1
    have hkc := hok.le
    have e1 : N 1 = M 1 := hf 1 (by decide) (by decide) (by decide)
    have eT : rp_T N = rp_T M := rp_T_cong e1 (hf 2 (by decide) (by decide) (by decide)) (hf 3 (by decide) (by decide) (by decide))
    have eE : bf_T (am_V N) (am_Ac N) (am_J N) (am_E N (am_s N)) = rp_T M := eT
    refine am_aload_n rfl dX3_ticksOf_29 ?_
    refine am_geti (j := 2) (by decide) rfl rfl rfl hTX3 (by decide) fl_X3_18 dX3_ticksOf_30 ?_
    refine am_aload_n rfl dX3_ticksOf_33 ?_
    refine am_geti (j := 3) (by decide) rfl rfl rfl hTX3 (by decide) fl_X3_22 dX3_ticksOf_34 ?_
    refine am_icmp_ge (tgt := 92) (by decide) dX3_ticksOf_37 (fun h37 => ?_) (fun h37 => ?_)
    · have hfar : rp_far M n32.toInt k := by
        refine ⟨?_, fun q => by have := hk0 q; omega⟩
        first
        | (exact Or.inr (by rw [h2, hRC.2.2] at h37; simp only [Int32.le_iff_toInt_le, nI_e] at h37; omega))
        | (exact Or.inl (fun e => h62 (by rw [hRC.1 _ hst, e]; rfl)))
      refine am_aload_n rfl dX3_ticksOf_92 ?_
      refine am_iconst (v := 0) (by decide) dX3_ticksOf_93 ?_
      refine am_iconst (v := 0) (by decide) dX3_ticksOf_94 ?_
      refine am_iload_n rfl dX3_ticksOf_95 ?_
      refine am_callVi (c_X3_ticksAtn ad N n32 hn hn2) okX3_ticksAt ml_X3_43 (by decide) rfl rfl rfl ⟨by decide, by decide⟩ (Nat.le_of_ble_eq_true rfl) rfl dX3_ticksOf_96 ?_
      rw [hRC.1 _ hst]
      refine am_iret rfl dX3_ticksOf_99 ?_
      exact ⟨k, hat, hfar, rfl⟩
    · have hlt : k < (rp_T M k).2.2 := by (rw [h2, hRC.2.2] at h37; simp only [Int32.le_iff_toInt_le, nI_e] at h37; omega)
      obtain ⟨hx, dk, hdk, -⟩ := hok.1 k hlt
      refine am_aload_n rfl dX3_ticksOf_40 ?_
      refine am_getr (j := 1) (by decide) rfl rfl rfl hTX3 (by decide) fl_X3_15 dX3_ticksOf_41 ?_
      refine am_aload_n rfl dX3_ticksOf_44 ?_
      refine am_geti (j := 2) (by decide) rfl rfl rfl hTX3 (by decide) fl_X3_18 dX3_ticksOf_45 ?_
      refine am_callNi (c_X6_isIndexOf ad N 6 23517 (N 4 2) (by decide) rfl (by decide) (by rw [h2]; exact vp_in_nI (by omega) (by omega))) okX6_isIndexOf ml_X3_39 rfl ⟨by decide, by decide⟩ (Nat.le_of_ble_eq_true rfl) rfl dX3_ticksOf_48 ?_
      refine am_ifb_eq (tgt := 92) (by decide) dX3_ticksOf_51 (fun h51 => ?_) (fun h51 => ?_)
      · cases h51
      · refine am_aload_n rfl dX3_ticksOf_54 ?_
        refine am_iconst (v := 0) (by decide) dX3_ticksOf_55 ?_
        refine am_iconst (v := 0) (by decide) dX3_ticksOf_56 ?_
        refine am_iload_n rfl dX3_ticksOf_57 ?_
        refine am_callVi (c_X3_ticksAtn ad N n32 hn hn2) okX3_ticksAt ml_X3_43 (by decide) rfl rfl rfl ⟨by decide, by decide⟩ (Nat.le_of_ble_eq_true rfl) rfl dX3_ticksOf_58 ?_
        refine am_iconst (v := (-1)) (by decide) dX3_ticksOf_61 ?_
        refine am_icmp_ne (tgt := 92) (by decide) dX3_ticksOf_62 (fun h62 => ?_) (fun h62 => ?_)
        · have hfar : rp_far M n32.toInt k := by
            refine ⟨?_, fun q => by have := hk0 q; omega⟩
            first
            | (exact Or.inr (by rw [h2, hRC.2.2] at h37; simp only [Int32.le_iff_toInt_le, nI_e] at h37; omega))
            | (exact Or.inl (fun e => h62 (by rw [hRC.1 _ hst, e]; rfl)))
          refine am_aload_n rfl dX3_ticksOf_92 ?_
          refine am_iconst (v := 0) (by decide) dX3_ticksOf_93 ?_
          refine am_iconst (v := 0) (by decide) dX3_ticksOf_94 ?_
          refine am_iload_n rfl dX3_ticksOf_95 ?_
          refine am_callVi (c_X3_ticksAtn ad N n32 hn hn2) okX3_ticksAt ml_X3_43 (by decide) rfl rfl rfl ⟨by decide, by decide⟩ (Nat.le_of_ble_eq_true rfl) rfl dX3_ticksOf_96 ?_
          rw [hRC.1 _ hst]
          refine am_iret rfl dX3_ticksOf_99 ?_
          exact ⟨k, hat, hfar, rfl⟩
        · refine am_aload_n rfl dX3_ticksOf_65 ?_
          refine am_aload_n rfl dX3_ticksOf_66 ?_
          refine am_aload_n rfl dX3_ticksOf_67 ?_
          refine am_getr (j := 1) (by decide) rfl rfl rfl hTX3 (by decide) fl_X3_15 dX3_ticksOf_68 ?_
          refine am_aload_n rfl dX3_ticksOf_71 ?_
          refine am_geti (j := 2) (by decide) rfl rfl rfl hTX3 (by decide) fl_X3_18 dX3_ticksOf_72 ?_
          refine am_iald (by decide) rfl ((by rw [h2]; exact vp_in_nI (by omega) (by omega))) dX3_ticksOf_75 ?_
          rw [h2, nI_clamp (by omega), hRC.2.1 k hlt]
          refine am_callV (c_X3_lookBehind ad N (rp_T M k) ((rp_T M k).2.1 k) dk (hR.cong e1) hRC hok hx hdk) okX3_lookBehind ml_X3_47 (by decide) rfl rfl rfl ⟨by decide, by decide⟩ (Nat.le_of_ble_eq_true rfl) rfl dX3_ticksOf_76 (fun r76 N76 p76 => ?_)
          obtain ⟨rfl, hRC1, hfr1⟩ := p76
          refine am_aload_n rfl dX3_ticksOf_79 ?_
          refine am_dup rfl dX3_ticksOf_80 ?_
          refine am_geti (j := 2) (by decide) rfl rfl rfl hTX3 (by decide) fl_X3_18 dX3_ticksOf_81 ?_
          refine am_iconst (v := 1) (by decide) dX3_ticksOf_84 ?_
          refine am_iadd dX3_ticksOf_85 ?_
          refine am_puti (j := 2) (by decide) rfl rfl rfl hTX3 tyX3_ok nmX3 (by decide) fl_X3_18 rfl rfl rfl rfl dX3_ticksOf_86 ?_
          refine am_goto (tgt := 29) (by decide) dX3_ticksOf_89 ?_
          have hnew : rp_T M (k + 1) = bf_proc (am_V N) (am_Ac N) (am_J N) (am_E N (am_s N)) (rp_T M k) ((rp_T M k).2.1 k) := by
            rw [← eE] at hlt ⊢
            rw [bf_T, if_pos hlt]
          rw [← hnew] at hRC1
          have hle : bf_le (rp_T M k) (rp_T M (k + 1)) := by rw [hnew]; exact (bf_proc_ok (hR.cong e1).V.1 (hR.cong e1).V.2 hok hx hdk).2
          refine ih (k + 1) _ (by omega) (by omega) ⟨by have := hle.1; omega, ⟨fun x hx => ?_, fun i hi => ?_, ?_⟩, ?_, ?_, fun a p1 p2 p3 => ?_⟩
          · rw [am_put_ne _ _ _ _ (by decide)]; exact hRC1.1 x hx
          · rw [am_put_ne _ _ _ _ (by decide)]; exact hRC1.2.1 i hi
          · rw [am_rd, if_neg (by decide)]; exact hRC1.2.2
          · rw [am_rd, if_pos (by decide), hfr1.2 2 (by decide), h2]; exact nI_1 k
          · rw [am_rd, if_neg (by decide), hfr1.2 4 (by decide), hv]
          · rw [am_put_ne _ _ _ _ p1, hfr1.1 a p1 p2 p3]; exact hf a p1 p2 p3
set_option maxRecDepth 100000 in
set_option maxHeartbeats 400000 in
theorem c_X3_ticksOf (ad : Nat → Nat) (M : am_M) (n : Int32) (hR : am_RI M) (hS : M 4 4 = M 1 8 → ∃ k, rp_at M M k) : am_C ydX3_ticksOf ad am_II [.ref (ad 4), .ref (ad 1), .int n] M (fun r N => (sp_in n 0 200 = false ∧ r = some (.int (-1)) ∧ M = N) ∨ (sp_in n 0 200 = true ∧ ∃ k, rp_at M N k ∧ rp_far M n.toInt k ∧ r = some (.int (rp_enc ((rp_T M k).1 (rp_st n.toInt)))))) := by
  refine am_ofW (L := [some (.ref (ad 4)), some (.ref (ad 1)), some (.int n)]) (by decide +kernel) (by simp [Value.category]) (Nat.le_of_ble_eq_true rfl) rfl ?_
  refine am_iload_n rfl dX3_ticksOf_0 ?_
  refine am_iconst (v := 0) (by decide) dX3_ticksOf_1 ?_
  refine am_sipush (v := 200) (by decide) dX3_ticksOf_2 ?_
  refine am_callNi (c_X6_isWithin ad _ _ _ _) okX6_isWithin ml_X3_28 rfl ⟨by decide, by decide⟩ (Nat.le_of_ble_eq_true rfl) rfl dX3_ticksOf_5 ?_
  refine am_ifb_ne (tgt := 13) (by decide) dX3_ticksOf_8 (fun h8 => ?_) (fun h8 => ?_)
  · have hn : 0 ≤ n.toInt ∧ n.toInt ≤ 200 := by (have h9 := h8; simp only [sp_in, decide_eq_true_eq, Int32.le_iff_toInt_le, Int32.toInt_zero, kI_200] at h9; exact h9)
    refine am_aload_n rfl dX3_ticksOf_13 ?_
    refine am_geti (j := 4) (by decide) rfl rfl rfl hTX3 (by decide) fl_X3_25 dX3_ticksOf_14 ?_
    refine am_aload_n rfl dX3_ticksOf_17 ?_
    refine am_geti (j := 8) (by decide) rfl rfl rfl hTX4 (by decide) fl_X3_32 dX3_ticksOf_18 ?_
    refine am_icmp_eq (tgt := 29) (by decide) dX3_ticksOf_21 (fun h21 => ?_) (fun h21 => ?_)
    · refine am_conj (fun h => Or.inr ⟨h8, h⟩) ?_
      first
      | (obtain ⟨k, hk⟩ := hS h21
         have hb := (bf_T_ok hR.V.1 hR.V.2 k : bf_ok (rp_T M k)).le
         exact lp_X3_ticksOf ad M hR n hn.1 hn.2 k (fun _ => by rw [hk.2.2.1, nI_e]; have := hk.1; omega) 23518 k M (by omega) (Nat.le_refl k) hk)
      | (exact lp_X3_ticksOf ad M hR n hn.1 hn.2 0 (fun q => absurd q h21) 23518 0 _ (by omega) (Nat.le_refl 0) ⟨Nat.zero_le _, hRC1, hz1, hv1, hf1⟩)
    · refine am_aload_n rfl dX3_ticksOf_24 ?_
      refine am_aload_n rfl dX3_ticksOf_25 ?_
      refine am_callV (c_X3_begin ad M hR) okX3_begin ml_X3_35 (by decide) rfl rfl rfl ⟨by decide, by decide⟩ (Nat.le_of_ble_eq_true rfl) rfl dX3_ticksOf_26 (fun r26 N26 p26 => ?_)
      obtain ⟨rfl, hRC1, hz1, hv1, hf1⟩ := p26
      refine am_conj (fun h => Or.inr ⟨h8, h⟩) ?_
      first
      | (obtain ⟨k, hk⟩ := hS h21
         have hb := (bf_T_ok hR.V.1 hR.V.2 k : bf_ok (rp_T M k)).le
         exact lp_X3_ticksOf ad M hR n hn.1 hn.2 k (fun _ => by rw [hk.2.2.1, nI_e]; have := hk.1; omega) 23518 k M (by omega) (Nat.le_refl k) hk)
      | (exact lp_X3_ticksOf ad M hR n hn.1 hn.2 0 (fun q => absurd q h21) 23518 0 _ (by omega) (Nat.le_refl 0) ⟨Nat.zero_le _, hRC1, hz1, hv1, hf1⟩)
  · refine am_iconst (v := (-1)) (by decide) dX3_ticksOf_11 ?_
    refine am_iret rfl dX3_ticksOf_12 ?_
    exact Or.inl ⟨h8, rfl, rfl⟩
end
section
theorem rp_nc_ok {M : am_M} (hR : am_RI M) {v a l : Int} (h1 : 0 ≤ v) (h2 : v ≤ 12) (h3 : -4 ≤ a) (h4 : a ≤ 4) (h5 : -1000 ≤ l) (h6 : l ≤ 1000) (hb : rp_nc M v a l ≠ 5) : -4 ≤ rp_nc M v a l ∧ rp_nc M v a l ≤ 4 ∧ 0 ≤ v + rp_nc M v a l ∧ v + rp_nc M v a l ≤ 12 ∧ 0 ≤ l - (v + rp_nc M v a l) ∧ l - (v + rp_nc M v a l) ≤ 200 ∧ rp_cb M v a l (rp_nc M v a l) = true ∧ ¬ tA M v a l < 1 ∧ bf_lo (am_Ac M) (am_J M) a ≤ rp_nc M v a l ∧ rp_nc M v a l ≤ bf_hi (am_Ac M) (am_J M) a := by
  have hq : am_V M = (M 1 0).toInt ∧ am_Ac M = (M 1 1).toInt ∧ am_J M = (M 1 2).toInt := ⟨rfl, rfl, rfl⟩
  have hq2 := hR
  unfold am_RI at hq2
  by_cases q : tA M v a l < 1
  · exfalso
    apply hb
    unfold rp_nc
    rw [if_pos q]
  · have e : rn_s (rp_cb M v a l) (bf_n (am_Ac M) (am_J M) a) (bf_hi (am_Ac M) (am_J M) a) = rp_nc M v a l := by
      unfold rp_nc
      rw [if_neg q]
    obtain ⟨p1, p2, p3⟩ := rn_s_in _ _ _ e hb
    generalize rp_nc M v a l = b at *
    have p4 : bf_lo (am_Ac M) (am_J M) a ≤ b := by (unfold bf_n at p1; omega)
    have p5 : -4 ≤ b := by (unfold bf_lo at p4; omega)
    have p6 : b ≤ 4 := by (unfold bf_hi at p2; omega)
    have p7 := p3
    unfold rp_cb at p7
    rw [Bool.and_eq_true, decide_eq_true_eq] at p7
    obtain ⟨p7, p8⟩ := p7
    simp only [sp_mayEnd, decide_eq_true_eq] at p7
    have p9 := (am_state_iff hR (v := v + b) (a := b) (by omega) (by omega) (by omega) (by omega)).mp p7.1
    have p10 : 0 ≤ l - (v + b) ∧ l - (v + b) ≤ 200 := by
      refine Classical.byContradiction fun z => ?_
      unfold tA at p8
      rw [if_neg z] at p8
      rw [Int32.lt_iff_toInt_lt, kI_1] at q
      have p11 : (-1 : Int32).toInt = _ := congrArg Int32.toInt p8
      rw [kI_m1, i_sub, kI_1] at p11
      have := i_rng (if 0 ≤ l ∧ l ≤ 200 then M 5 (bf_idx v a l) else -1)
      unfold tA at q
      omega
    exact ⟨p5, p6, by omega, by omega, p10.1, p10.2, p3, q, p4, p2⟩
def rp_sp (M : am_M) : Nat → Int → Int → Int → Int
  | 0, v, _, _ => v
  | n + 1, v, a, l => if rp_nc M v a l = 5 then -1 else rp_sp M n (v + rp_nc M v a l) (rp_nc M v a l) (l - (v + rp_nc M v a l))
set_option maxRecDepth 100000 in
set_option maxHeartbeats 400000 in
theorem lp_X3_speedIn (ad : Nat → Nat) (M : am_M) (hR : am_RI M) (n32 : Int32) (t R : Int) (ht : 0 ≤ t) (ht2 : t < 1000000) : ∀ (z : Nat) (i v a l : Int), i + z = t + 1 → 0 ≤ i → 0 ≤ v → v ≤ 12 → -4 ≤ a → a ≤ 4 → 0 ≤ l → l ≤ 200 → rp_sp M z v a l = R → am_W ydX3_speedIn ad am_II (am_is (iN R) M) 12 [some (.ref (ad 4)), some (.ref (ad 1)), some (.int n32), some (.int (iN t)), some (.int (iN v)), some (.int (iN a)), some (.int (iN l)), some (.int (iN i))] [] M := by
  intro z
  induction z with
  | zero =>
    intro i v a l hi hi0 h1 h2 h3 h4 h5 h6 he
    refine am_iload rfl dX3_speedIn_12 ?_
    refine am_iload_n rfl dX3_speedIn_14 ?_
    refine am_icmp_gt (tgt := 59) (by decide) dX3_speedIn_15 (fun h => ?_) (fun h => (by exfalso; simp only [Int32.lt_iff_toInt_lt, iN_e] at h; omega))
    rw [rp_sp] at he
    subst he
    refine am_iload rfl dX3_speedIn_59 ?_
    refine am_iret rfl dX3_speedIn_61 ?_
    exact ⟨rfl, rfl⟩
  | succ z ih =>
    intro i v a l hi hi0 h1 h2 h3 h4 h5 h6 he
    rw [rp_sp] at he
    refine am_iload rfl dX3_speedIn_12 ?_
    refine am_iload_n rfl dX3_speedIn_14 ?_
    refine am_icmp_gt (tgt := 59) (by decide) dX3_speedIn_15 (fun h => (by exfalso; simp only [Int32.lt_iff_toInt_lt, iN_e] at h; omega)) (fun h => ?_)
    have h55 : (iN (rp_nc M v a l) = 5) ↔ rp_nc M v a l = 5 := by
      constructor
      · intro e
        by_cases q : rp_nc M v a l = 5
        · exact q
        · have := rp_nc_ok hR h1 h2 h3 h4 (by omega) (by omega) q
          have e1 : (iN (rp_nc M v a l)).toInt = (5 : Int32).toInt := by rw [e]
          rw [iN_e, kI_5] at e1
          omega
      · intro e
        rw [e]
        rfl
    refine am_aload_n rfl dX3_speedIn_18 ?_
    refine am_aload_n rfl dX3_speedIn_19 ?_
    refine am_iload rfl dX3_speedIn_20 ?_
    refine am_iload rfl dX3_speedIn_22 ?_
    refine am_iload rfl dX3_speedIn_24 ?_
    refine am_callVi (c_X3_nextChange ad M v a l hR h1 h2 h3 h4 (by omega) (by omega)) okX3_nextChange ml_X3_51 (by decide) rfl rfl rfl ⟨by decide, by decide⟩ (Nat.le_of_ble_eq_true rfl) rfl dX3_speedIn_26 ?_
    refine am_istore (by decide) dX3_speedIn_29 ?_
    refine am_iload rfl dX3_speedIn_31 ?_
    refine am_iconst (v := 5) (by decide) dX3_speedIn_33 ?_
    refine am_icmp_ne (tgt := 39) (by decide) dX3_speedIn_34 (fun h34 => ?_) (fun h34 => ?_)
    · have h56 : ¬ rp_nc M v a l = 5 := fun e => h34 (h55.mpr e)
      have hn := rp_nc_ok hR h1 h2 h3 h4 (by omega) (by omega) h56
      rw [if_neg h56] at he
      refine am_iload rfl dX3_speedIn_39 ?_
      refine am_iload rfl dX3_speedIn_41 ?_
      refine am_iadd dX3_speedIn_43 ?_
      rw [iN_add]
      refine am_istore (by decide) dX3_speedIn_44 ?_
      refine am_iload rfl dX3_speedIn_46 ?_
      refine am_iload rfl dX3_speedIn_48 ?_
      refine am_isub dX3_speedIn_50 ?_
      rw [iN_sub]
      refine am_istore (by decide) dX3_speedIn_51 ?_
      refine am_iinc rfl rfl (by decide) dX3_speedIn_53 ?_
      refine am_goto (tgt := 12) (by decide) dX3_speedIn_56 ?_
      exact am_eq (by rw [iN_inc]; rfl) rfl rfl (ih (i + 1) _ _ _ (by omega) (by omega) (by omega) (by omega) (by omega) (by omega) (by omega) (by omega) he)
    · rw [if_pos (h55.mp h34)] at he
      subst he
      refine am_iconst (v := (-1)) (by decide) dX3_speedIn_37 ?_
      refine am_iret rfl dX3_speedIn_38 ?_
      exact ⟨rfl, rfl⟩
set_option maxRecDepth 100000 in
set_option maxHeartbeats 400000 in
theorem c_X3_speedIn (ad : Nat → Nat) (M : am_M) (n t : Int) (hR : am_RI M) (hn : 0 ≤ n) (hn2 : n ≤ 200) (ht : 0 ≤ t) (ht2 : t < 1000000) : am_C ydX3_speedIn ad am_II [.ref (ad 4), .ref (ad 1), .int (iN n), .int (iN t)] M (am_is (iN (rp_sp M (t + 1).toNat 0 0 n)) M) := by
  refine am_ofW (L := [some (.ref (ad 4)), some (.ref (ad 1)), some (.int (iN n)), some (.int (iN t)), none, none, none, none]) (by decide +kernel) (by simp [Value.category]) (Nat.le_of_ble_eq_true rfl) rfl ?_
  refine am_iconst (v := 0) (by decide) dX3_speedIn_0 ?_
  refine am_istore (by decide) dX3_speedIn_1 ?_
  refine am_iconst (v := 0) (by decide) dX3_speedIn_3 ?_
  refine am_istore (by decide) dX3_speedIn_4 ?_
  refine am_iload_n rfl dX3_speedIn_6 ?_
  refine am_istore (by decide) dX3_speedIn_7 ?_
  refine am_iconst (v := 0) (by decide) dX3_speedIn_9 ?_
  refine am_istore (by decide) dX3_speedIn_10 ?_
  exact lp_X3_speedIn ad M hR _ t _ ht ht2 (t + 1).toNat 0 0 0 n (by omega) (by omega) (by omega) (by omega) (by omega) (by omega) hn hn2 rfl
set_option maxRecDepth 100000 in
set_option maxHeartbeats 400000 in
theorem c_X6_ramp (ad : Nat → Nat) (M : am_M) (n : Int32) (hR : am_RI M) (hS : M 4 4 = M 1 8 → ∃ k, rp_at M M k) : am_C ydX6_ramp ad am_II [.ref (ad 0), .int n] M (fun r N => (sp_in n 0 200 = false ∧ r = some (.int (-1)) ∧ M = N) ∨ (sp_in n 0 200 = true ∧ ∃ k, rp_at M N k ∧ rp_far M n.toInt k ∧ r = some (.int (rp_enc ((rp_T M k).1 (rp_st n.toInt)))))) := by
  refine am_ofW (L := [some (.ref (ad 0)), some (.int n)]) (by decide +kernel) (by simp [Value.category]) (Nat.le_of_ble_eq_true rfl) rfl ?_
  refine am_aload_n rfl dX6_ramp_0 ?_
  refine am_getr (j := 1) (by decide) rfl rfl rfl hTX6 (by decide) fl_X6_19 dX6_ramp_1 ?_
  refine am_aload_n rfl dX6_ramp_4 ?_
  refine am_getr (j := 0) (by decide) rfl rfl rfl hTX6 (by decide) fl_X6_12 dX6_ramp_5 ?_
  refine am_iload_n rfl dX6_ramp_8 ?_
  refine am_callV (c_X3_ticksOf ad M n hR hS) okX3_ticksOf ml_X6_96 (by decide) rfl rfl rfl ⟨by decide, by decide⟩ (Nat.le_of_ble_eq_true rfl) rfl dX6_ramp_9 (fun r9 N9 p9 => ?_)
  skip
  obtain ⟨x, hx⟩ : ∃ x, r9 = some (.int x) := by
    rcases p9 with ⟨-, h, -⟩ | ⟨-, k, -, -, h⟩
    · exact ⟨_, h⟩
    · exact ⟨_, h⟩
  subst hx
  refine am_iret rfl dX6_ramp_12 ?_
  exact p9
theorem c_X3_speedIn32 (ad : Nat → Nat) (M : am_M) (n t : Int32) (hR : am_RI M) (hn : 0 ≤ n.toInt) (hn2 : n.toInt ≤ 200) (ht : 0 ≤ t.toInt) (ht2 : t.toInt < 1000000) : am_C ydX3_speedIn ad am_II [.ref (ad 4), .ref (ad 1), .int n, .int t] M (am_is (iN (rp_sp M (t.toInt + 1).toNat 0 0 n.toInt)) M) := by
  have h := c_X3_speedIn ad M n.toInt t.toInt hR hn hn2 ht ht2
  rwa [iN_self, iN_self] at h
theorem rp_enc_small {M : am_M} (hR : am_RI M) (k x : Nat) : (rp_enc ((rp_T M k).1 x)).toInt < 23517 ∧ -1 ≤ (rp_enc ((rp_T M k).1 x)).toInt := by
  have hok : bf_ok (rp_T M k) := bf_T_ok hR.V.1 hR.V.2 k
  cases e : (rp_T M k).1 x with
  | none => exact ⟨by decide, by decide⟩
  | some d =>
    have := hok.small e
    simp only [rp_enc, nI_e]
    omega
set_option maxRecDepth 100000 in
set_option maxHeartbeats 400000 in
theorem c_X6_speed (ad : Nat → Nat) (M : am_M) (n t : Int32) (hR : am_RI M) (hS : M 4 4 = M 1 8 → ∃ k, rp_at M M k) : am_C ydX6_speed ad am_II [.ref (ad 0), .int n, .int t] M (fun r N => ((t < 0 ∨ sp_in n 0 200 = false) ∧ r = some (.int (-1)) ∧ M = N) ∨ (0 ≤ t ∧ sp_in n 0 200 = true ∧ ∃ k, rp_at M N k ∧ rp_far M n.toInt k ∧ r = some (.int (if rp_enc ((rp_T M k).1 (rp_st n.toInt)) ≤ t then -1 else iN (rp_sp N (t.toInt + 1).toNat 0 0 n.toInt))))) := by
  refine am_ofW (L := [some (.ref (ad 0)), some (.int n), some (.int t)]) (by decide +kernel) (by simp [Value.category]) (Nat.le_of_ble_eq_true rfl) rfl ?_
  refine am_iload_n rfl dX6_speed_0 ?_
  refine am_if_lt (tgt := 20) (by decide) dX6_speed_1 (fun h1 => ?_) (fun h1 => ?_)
  · refine am_iconst (v := (-1)) (by decide) dX6_speed_20 ?_
    refine am_iret rfl dX6_speed_21 ?_
    first
    | exact Or.inl ⟨Or.inl h1, rfl, rfl⟩
    | exact Or.inr ⟨h1', q1, k, q2, q3, by rw [if_pos (Int32.not_lt.mp h17)]⟩
    | exact Or.inr ⟨h1', q1, k, q2, q3, by rw [if_neg (fun z => absurd h17 (Int32.not_lt.mpr z))]⟩
  · have h1' : 0 ≤ t := Int32.not_lt.mp h1
    refine am_iload_n rfl dX6_speed_4 ?_
    refine am_aload_n rfl dX6_speed_5 ?_
    refine am_getr (j := 1) (by decide) rfl rfl rfl hTX6 (by decide) fl_X6_19 dX6_speed_6 ?_
    refine am_aload_n rfl dX6_speed_9 ?_
    refine am_getr (j := 0) (by decide) rfl rfl rfl hTX6 (by decide) fl_X6_12 dX6_speed_10 ?_
    refine am_iload_n rfl dX6_speed_13 ?_
    refine am_callV (c_X3_ticksOf ad M n hR hS) okX3_ticksOf ml_X6_96 (by decide) rfl rfl rfl ⟨by decide, by decide⟩ (Nat.le_of_ble_eq_true rfl) rfl dX6_speed_14 (fun r14 N14 p14 => ?_)
    rcases p14 with ⟨q1, rfl, rfl⟩ | ⟨q1, k, q2, q3, rfl⟩
    · refine am_icmp_lt (tgt := 22) (by decide) dX6_speed_17 (fun h17 => ?_) (fun h17 => ?_)
      · exfalso; simp only [Int32.lt_iff_toInt_lt, Int32.toInt_zero, kI_m1] at h1 h17; omega
      · refine am_iconst (v := (-1)) (by decide) dX6_speed_20 ?_
        refine am_iret rfl dX6_speed_21 ?_
        exact Or.inl ⟨Or.inr q1, rfl, rfl⟩
    refine am_icmp_lt (tgt := 22) (by decide) dX6_speed_17 (fun h17 => ?_) (fun h17 => ?_)
    · have hn : 0 ≤ n.toInt ∧ n.toInt ≤ 200 := by (have h9 := q1; simp only [sp_in, decide_eq_true_eq, Int32.le_iff_toInt_le, Int32.toInt_zero, kI_200] at h9; exact h9)
      have hsm := rp_enc_small hR k (rp_st n.toInt)
      have h1t : 0 ≤ t.toInt ∧ t.toInt < 1000000 := by (simp only [Int32.lt_iff_toInt_lt, Int32.le_iff_toInt_le, Int32.toInt_zero] at h17 h1'; omega)
      refine am_aload_n rfl dX6_speed_22 ?_
      refine am_getr (j := 1) (by decide) rfl rfl rfl hTX6 (by decide) fl_X6_19 dX6_speed_23 ?_
      refine am_aload_n rfl dX6_speed_26 ?_
      refine am_getr (j := 0) (by decide) rfl rfl rfl hTX6 (by decide) fl_X6_12 dX6_speed_27 ?_
      refine am_iload_n rfl dX6_speed_30 ?_
      refine am_iload_n rfl dX6_speed_31 ?_
      refine am_callVi (c_X3_speedIn32 ad _ n t (hR.cong (q2.2.2.2.2 1 (by decide) (by decide) (by decide))) hn.1 hn.2 h1t.1 h1t.2) okX3_speedIn ml_X6_100 (by decide) rfl rfl rfl ⟨by decide, by decide⟩ (Nat.le_of_ble_eq_true rfl) rfl dX6_speed_32 ?_
      refine am_iret rfl dX6_speed_35 ?_
      first
      | exact Or.inl ⟨Or.inl h1, rfl, rfl⟩
      | exact Or.inr ⟨h1', q1, k, q2, q3, by rw [if_pos (Int32.not_lt.mp h17)]⟩
      | exact Or.inr ⟨h1', q1, k, q2, q3, by rw [if_neg (fun z => absurd h17 (Int32.not_lt.mpr z))]⟩
    · refine am_iconst (v := (-1)) (by decide) dX6_speed_20 ?_
      refine am_iret rfl dX6_speed_21 ?_
      first
      | exact Or.inl ⟨Or.inl h1, rfl, rfl⟩
      | exact Or.inr ⟨h1', q1, k, q2, q3, by rw [if_pos (Int32.not_lt.mp h17)]⟩
      | exact Or.inr ⟨h1', q1, k, q2, q3, by rw [if_neg (fun z => absurd h17 (Int32.not_lt.mpr z))]⟩
end
section
/-! the search for slowings: ticks and steps of each state, the row of those found, how many -/
abbrev sl_B : Type := (Nat → Option (Nat × Nat)) × (Nat → Nat) × Nat
def sl_push (B : sl_B) (x t s : Nat) : sl_B := match B.1 x with
  | some (t0, s0) => if t0 = t ∧ s < s0 then (fun y => if y = x then some (t0, s) else B.1 y, B.2.1, B.2.2) else B
  | none => (fun y => if y = x then some (t, s) else B.1 y, fun i => if i = B.2.2 then x else B.2.1 i, B.2.2 + 1)
def sl_fold (f : Int → Nat) (t s : Nat) : Nat → Int → sl_B → sl_B
  | 0, _, B => B
  | n + 1, a, B => sl_fold f t s n (a + 1) (sl_push B (f a) t s)
def sl_foldc (c : Int → Bool) (f : Int → Nat) (t s : Nat) : Nat → Int → sl_B → sl_B
  | 0, _, B => B
  | n + 1, a, B => sl_foldc c f t s n (a + 1) (if c a = true then sl_push B (f a) t s else B)
def sx (v a : Int) : Nat := (v * 9 + a + 4).toNat
def sl_w (x : Nat) : Int := ((x / 9 : Nat) : Int)
def sl_b (x : Nat) : Int := ((x % 9 : Nat) : Int) - 4
def sl_stop (V : Int) (E : Int → Int → Bool) (x : Nat) : Prop := sl_w x - sl_b x < 0 ∨ V < sl_w x - sl_b x ∨ E (sl_w x) (sl_b x) = false
noncomputable def sl_proc (V A J : Int) (E : Int → Int → Bool) (B : sl_B) (x : Nat) : sl_B := @ite _ (sl_stop V E x) (Classical.propDecidable _) B (sl_fold (fun a => sx (sl_w x - sl_b x) a) (((B.1 x).getD (0, 0)).1 + 1) (((B.1 x).getD (0, 0)).2 + x / 9) (bf_n A J (sl_b x)) (bf_lo A J (sl_b x)) B)
def sl_0 : sl_B := (fun _ => none, fun _ => 0, 0)
def sl_rest (A J : Int) : Int → Bool := fun a => decide ((-A ≤ a ∧ a ≤ A) ∧ -J ≤ a ∧ a ≤ J)
def sl_init (A J : Int) : sl_B := sl_foldc (sl_rest A J) (fun a => sx 0 a) 0 0 9 (-4) sl_0
noncomputable def sl_T (V A J : Int) (E : Int → Int → Bool) : Nat → sl_B
  | 0 => sl_init A J
  | k + 1 => if k < (sl_T V A J E k).2.2 then sl_proc V A J E (sl_T V A J E k) ((sl_T V A J E k).2.1 k) else sl_T V A J E k
def sl_ok (B : sl_B) : Prop := (∀ i, i < B.2.2 → B.2.1 i < 117 ∧ ∃ t s, B.1 (B.2.1 i) = some (t, s) ∧ t ≤ i ∧ s ≤ 12 * t) ∧ (∀ x p, B.1 x = some p → ∃ i, i < B.2.2 ∧ B.2.1 i = x) ∧ ∀ i j, i < j → j < B.2.2 → B.2.1 i ≠ B.2.1 j
theorem sl_ok_0 : sl_ok sl_0 := ⟨fun i h => absurd h (Nat.not_lt_zero _), fun x d h => by simp [sl_0] at h, fun i j _ h => absurd h (Nat.not_lt_zero _)⟩
theorem sl_ok.lt {B : sl_B} (h : sl_ok B) {x : Nat} (hx : x < 117) (hn : B.1 x = none) : B.2.2 < 117 := by
  have h1 := fb_holes 117 (B.2.2 + 1) (fun i => if i < B.2.2 then B.2.1 i else x) (by
    intro i hi
    by_cases q : i < B.2.2
    · simp only [if_pos q]; exact (h.1 i q).1
    · simp only [if_neg q]; exact hx) (by
    intro i j hij hj
    have hi : i < B.2.2 := by omega
    by_cases q : j < B.2.2
    · simp only [if_pos hi, if_pos q]; exact h.2.2 i j hij q
    · simp only [if_pos hi, if_neg q]
      intro e
      obtain ⟨-, t, s, hd, -⟩ := h.1 i hi
      rw [e, hn] at hd
      cases hd)
  omega
theorem sl_ok.le {B : sl_B} (h : sl_ok B) : B.2.2 ≤ 117 := fb_holes 117 B.2.2 B.2.1 (fun i hi => (h.1 i hi).1) h.2.2
theorem sl_ok.small {B : sl_B} (h : sl_ok B) {x t s : Nat} (hx : B.1 x = some (t, s)) : t < 117 ∧ t + 1 ≤ B.2.2 ∧ s ≤ 12 * t ∧ x < 117 := by
  obtain ⟨i, h1, h2⟩ := h.2.1 x _ hx
  obtain ⟨h0, e, f, h3, h4, h5⟩ := h.1 i h1
  rw [h2, hx] at h3
  cases h3
  have := h.le
  rw [h2] at h0
  omega
theorem sl_push_some {B : sl_B} {x t s t0 s0 : Nat} (h : B.1 x = some (t0, s0)) : sl_push B x t s = if t0 = t ∧ s < s0 then (fun y => if y = x then some (t0, s) else B.1 y, B.2.1, B.2.2) else B := by simp [sl_push, h]
theorem sl_push_none {B : sl_B} {x t s : Nat} (h : B.1 x = none) : sl_push B x t s = (fun y => if y = x then some (t, s) else B.1 y, fun i => if i = B.2.2 then x else B.2.1 i, B.2.2 + 1) := by simp [sl_push, h]
theorem sl_push_ok {B : sl_B} (h : sl_ok B) {x t s : Nat} (hx : x < 117) (hd : t ≤ B.2.2) (hs : s ≤ 12 * t) : sl_ok (sl_push B x t s) := by
  cases hb : B.1 x with
  | some p =>
    obtain ⟨t0, s0⟩ := p
    rw [sl_push_some hb]
    split
    · rename_i hc
      refine ⟨fun i hi => ?_, fun y p hp => ?_, h.2.2⟩
      · obtain ⟨h1, t1, s1, h2, h3, h4⟩ := h.1 i hi
        refine ⟨h1, ?_⟩
        dsimp only
        by_cases q : B.2.1 i = x
        · rw [if_pos q]
          rw [q, hb] at h2
          cases h2
          exact ⟨t0, s, rfl, h3, by omega⟩
        · rw [if_neg q]
          exact ⟨t1, s1, h2, h3, h4⟩
      · dsimp only at hp ⊢
        by_cases q : y = x
        · subst q
          exact h.2.1 y _ hb
        · rw [if_neg q] at hp
          exact h.2.1 y p hp
    · exact h
  | none =>
    rw [sl_push_none hb]
    refine ⟨fun i hi => ?_, fun y e he => ?_, fun i j hij hj => ?_⟩
    · dsimp only at hi ⊢
      by_cases q : i = B.2.2
      · rw [if_pos q]
        exact ⟨hx, t, s, by rw [if_pos rfl], by omega, hs⟩
      · rw [if_neg q]
        obtain ⟨h1, t1, s1, h2, h3, h4⟩ := h.1 i (by omega)
        refine ⟨h1, t1, s1, ?_, h3, h4⟩
        have hne : B.2.1 i ≠ x := fun z => by rw [z, hb] at h2; cases h2
        rw [if_neg hne]
        exact h2
    · dsimp only at he ⊢
      by_cases q : y = x
      · exact ⟨B.2.2, by omega, by rw [if_pos rfl, q]⟩
      · rw [if_neg q] at he
        obtain ⟨i, h1, h2⟩ := h.2.1 y e he
        exact ⟨i, by omega, by rw [if_neg (by omega)]; exact h2⟩
    · dsimp only at hj ⊢
      by_cases q : j = B.2.2
      · rw [if_pos q, if_neg (by omega)]
        intro z
        obtain ⟨-, t1, s1, h2, -⟩ := h.1 i (by omega)
        rw [z, hb] at h2
        cases h2
      · rw [if_neg q, if_neg (by omega)]
        exact h.2.2 i j hij (by omega)
/-- what a push of t keeps: those found, their ticks; of other ticks than t their steps too -/
def sl_le (t : Nat) (B C : sl_B) : Prop := B.2.2 ≤ C.2.2 ∧ (∀ i, i < B.2.2 → C.2.1 i = B.2.1 i) ∧ (∀ y t0 s0, B.1 y = some (t0, s0) → ∃ s1, C.1 y = some (t0, s1) ∧ s1 ≤ s0) ∧ ∀ y t0 s0, B.1 y = some (t0, s0) → t0 ≠ t → C.1 y = some (t0, s0)
theorem sl_le.rf (t : Nat) (B : sl_B) : sl_le t B B := ⟨Nat.le_refl _, fun _ _ => rfl, fun _ _ s0 h => ⟨s0, h, Nat.le_refl _⟩, fun _ _ _ h _ => h⟩
theorem sl_le.tr {t : Nat} {B C D : sl_B} (h : sl_le t B C) (k : sl_le t C D) : sl_le t B D := by
  refine ⟨Nat.le_trans h.1 k.1, fun i hi => (k.2.1 i (Nat.lt_of_lt_of_le hi h.1)).trans (h.2.1 i hi), fun y t0 s0 he => ?_, fun y t0 s0 he hn => k.2.2.2 y t0 s0 (h.2.2.2 y t0 s0 he hn) hn⟩
  obtain ⟨s1, h1, h2⟩ := h.2.2.1 y t0 s0 he
  obtain ⟨s2, h3, h4⟩ := k.2.2.1 y t0 s1 h1
  exact ⟨s2, h3, by omega⟩
theorem sl_push_le (B : sl_B) (x t s : Nat) : sl_le t B (sl_push B x t s) := by
  cases hb : B.1 x with
  | some p =>
    obtain ⟨t0, s0⟩ := p
    rw [sl_push_some hb]
    split
    · rename_i hc
      refine ⟨Nat.le_refl _, fun _ _ => rfl, fun y t1 s1 he => ?_, fun y t1 s1 he hn => ?_⟩
      · dsimp only
        by_cases q : y = x
        · subst q
          rw [hb] at he
          cases he
          exact ⟨s, by rw [if_pos rfl], by omega⟩
        · rw [if_neg q]
          exact ⟨s1, he, Nat.le_refl _⟩
      · dsimp only
        by_cases q : y = x
        · subst q
          rw [hb] at he
          cases he
          exact absurd hc.1 hn
        · rw [if_neg q]
          exact he
    · exact sl_le.rf t B
  | none =>
    rw [sl_push_none hb]
    refine ⟨Nat.le_succ _, fun i hi => ?_, fun y t1 s1 he => ?_, fun y t1 s1 he hn => ?_⟩
    · dsimp only; rw [if_neg (by omega)]
    · dsimp only
      have : y ≠ x := fun z => by rw [z, hb] at he; cases he
      rw [if_neg this]
      exact ⟨s1, he, Nat.le_refl _⟩
    · dsimp only
      have : y ≠ x := fun z => by rw [z, hb] at he; cases he
      rw [if_neg this]
      exact he
theorem sl_fold_ok (f : Int → Nat) (t s : Nat) : ∀ (n : Nat) (a : Int) (B : sl_B), sl_ok B → t ≤ B.2.2 → s ≤ 12 * t → (∀ a2, a ≤ a2 → a2 < a + n → f a2 < 117) → sl_ok (sl_fold f t s n a B) ∧ sl_le t B (sl_fold f t s n a B) := by
  intro n
  induction n with
  | zero => intro a B h _ _ _; exact ⟨h, sl_le.rf t _⟩
  | succ n ih =>
    intro a B h hd hs hf
    rw [sl_fold]
    have h1 := sl_push_ok h (hf a (by omega) (by omega)) hd hs
    have h2 := sl_push_le B (f a) t s
    obtain ⟨h3, h4⟩ := ih (a + 1) _ h1 (Nat.le_trans hd h2.1) hs (fun a2 p1 p2 => hf a2 (by omega) (by omega))
    exact ⟨h3, sl_le.tr h2 h4⟩
theorem sl_foldc_ok (c : Int → Bool) (f : Int → Nat) : ∀ (n : Nat) (a : Int) (B : sl_B), sl_ok B → (∀ a2, a ≤ a2 → a2 < a + n → f a2 < 117) → sl_ok (sl_foldc c f 0 0 n a B) := by
  intro n
  induction n with
  | zero => intro a B h _; exact h
  | succ n ih =>
    intro a B h hf
    rw [sl_foldc]
    refine ih (a + 1) _ ?_ (fun a2 p1 p2 => hf a2 (by omega) (by omega))
    split
    · exact sl_push_ok h (hf a (by omega) (by omega)) (Nat.zero_le _) (Nat.zero_le _)
    · exact h
theorem sx_lt {v a : Int} (h1 : 0 ≤ v) (h2 : v ≤ 12) (h3 : -4 ≤ a) (h4 : a ≤ 4) : sx v a < 117 ∧ ((sx v a : Nat) : Int) = v * 9 + a + 4 := by
  unfold sx
  omega
theorem sl_wb {x : Nat} (hx : x < 117) : 0 ≤ sl_w x ∧ sl_w x ≤ 12 ∧ -4 ≤ sl_b x ∧ sl_b x ≤ 4 := by
  unfold sl_w sl_b
  omega
theorem sl_proc_ok {V A J : Int} {E : Int → Int → Bool} (hV : V ≤ 12) (hA : A ≤ 4) {B : sl_B} {x t s : Nat} (hok : sl_ok B) (hx : x < 117) (hd : B.1 x = some (t, s)) : sl_ok (sl_proc V A J E B x) ∧ sl_le (t + 1) B (sl_proc V A J E B x) := by
  unfold sl_proc
  have hw := sl_wb hx
  split
  · exact ⟨hok, sl_le.rf _ B⟩
  · rename_i h
    unfold sl_stop at h
    have h2 : ¬ sl_w x - sl_b x < 0 := fun q => h (Or.inl q)
    have h3 : ¬ V < sl_w x - sl_b x := fun q => h (Or.inr (Or.inl q))
    rw [hd]
    have hsm := hok.small hd
    refine sl_fold_ok _ _ _ _ _ _ hok hsm.2.1 (by dsimp only [Option.getD]; omega) (fun a p1 p2 => ?_)
    have p3 : -4 ≤ a := by (unfold bf_lo at p1; omega)
    have p4 : a ≤ 4 := by (unfold bf_n bf_lo bf_hi at *; omega)
    exact (sx_lt (by omega) (by omega) p3 p4).1
theorem sl_init_ok {A J : Int} : sl_ok (sl_init A J) := sl_foldc_ok _ _ _ _ _ sl_ok_0 (fun a p1 p2 => (sx_lt (by omega) (by omega) (by omega) (by omega)).1)
theorem sl_T_ok {V A J : Int} {E : Int → Int → Bool} (hV : V ≤ 12) (hA : A ≤ 4) : ∀ k, sl_ok (sl_T V A J E k) := by
  intro k
  induction k with
  | zero => exact sl_init_ok
  | succ k ih =>
    rw [sl_T]
    split
    · rename_i h
      obtain ⟨h1, t, s, h2, -⟩ := ih.1 k h
      exact (sl_proc_ok hV hA ih h1 h2).1
    · exact ih
def sl_enc (o : Option (Nat × Nat)) : Int32 := match o with
  | none => -1
  | some p => nI p.1
def sl_RC (k : Nat) (M : am_M) (B : sl_B) : Prop := (∀ x, x < 117 → M (k + 1) x = sl_enc (B.1 x)) ∧ (∀ x t s, B.1 x = some (t, s) → M (k + 2) x = nI s) ∧ (∀ i, i < B.2.2 → M (k + 3) i = nI (B.2.1 i)) ∧ M k 4 = nI B.2.2
def sl_fr (k : Nat) (M N : am_M) : Prop := (∀ a, a ≠ k → a ≠ k + 1 → a ≠ k + 2 → a ≠ k + 3 → N a = M a) ∧ ∀ j, j ≠ 4 → N k j = M k j
theorem sl_fr.rf (k : Nat) (M : am_M) : sl_fr k M M := ⟨fun _ _ _ _ _ => rfl, fun _ _ => rfl⟩
theorem sl_fr.tr {k : Nat} {M N K : am_M} (h : sl_fr k M N) (g : sl_fr k N K) : sl_fr k M K := ⟨fun a h1 h2 h3 h4 => (g.1 a h1 h2 h3 h4).trans (h.1 a h1 h2 h3 h4), fun j h1 => (g.2 j h1).trans (h.2 j h1)⟩
theorem sl_enc_none {B : sl_B} (h : sl_ok B) (x : Nat) : sl_enc (B.1 x) = -1 ↔ B.1 x = none := by
  cases e : B.1 x with
  | none => exact ⟨fun _ => rfl, fun _ => rfl⟩
  | some p =>
    obtain ⟨t, s⟩ := p
    have hd := h.small e
    refine ⟨fun e => ?_, fun e => by cases e⟩
    exfalso
    have e1 : (nI t).toInt = (-1 : Int32).toInt := by rw [show nI t = -1 from e]
    simp only [nI_e, kI_m1] at e1
    omega
theorem sl_found (k : Nat) (M : am_M) (B : sl_B) (x t s : Nat) (hRC : sl_RC k M B) (hn : B.1 x = none) (hc : B.2.2 < 117) : sl_RC k (am_put (am_put (am_put (am_put M (k + 1) x (nI t)) (k + 2) x (nI s)) (k + 3) B.2.2 (nI x)) k 4 (nI (B.2.2 + 1))) (sl_push B x t s) ∧ sl_fr k M (am_put (am_put (am_put (am_put M (k + 1) x (nI t)) (k + 2) x (nI s)) (k + 3) B.2.2 (nI x)) k 4 (nI (B.2.2 + 1))) := by
  rw [sl_push_none hn]
  refine ⟨⟨fun y hy => ?_, fun y t1 s1 hy => ?_, fun i hi => ?_, ?_⟩, fun a h1 h2 h3 h4 => ?_, fun j hj => ?_⟩
  · by_cases q : y = x
    · subst q
      simp [am_rd, sl_enc]
    · simp [am_rd, q, hRC.1 y hy]
  · dsimp only at hy
    by_cases q : y = x
    · subst q
      rw [if_pos rfl] at hy
      cases hy
      simp [am_rd]
    · rw [if_neg q] at hy
      simp [am_rd, q, hRC.2.1 y t1 s1 hy]
  · dsimp only at hi ⊢
    by_cases q : i = B.2.2
    · subst q
      simp [am_rd]
    · simp [am_rd, q, hRC.2.2.1 i (by omega)]
  · simp [am_rd]
  · rw [am_put_ne _ _ _ _ h1, am_put_ne _ _ _ _ h4, am_put_ne _ _ _ _ h3, am_put_ne _ _ _ _ h2]
  · simp [am_rd, hj]
theorem sl_better (k : Nat) (M : am_M) (B : sl_B) (x t s s0 : Nat) (hRC : sl_RC k M B) (hb : B.1 x = some (t, s0)) (hc : s < s0) : sl_RC k (am_put M (k + 2) x (nI s)) (sl_push B x t s) ∧ sl_fr k M (am_put M (k + 2) x (nI s)) := by
  rw [sl_push_some hb, if_pos ⟨rfl, hc⟩]
  refine ⟨⟨fun y hy => ?_, fun y t1 s1 hy => ?_, fun i hi => ?_, ?_⟩, fun a h1 h2 h3 h4 => ?_, fun j hj => ?_⟩
  · rw [am_put_ne _ _ _ _ (by omega), hRC.1 y hy]
    by_cases q : y = x
    · subst q
      simp [hb, sl_enc]
    · simp [q]
  · dsimp only at hy
    by_cases q : y = x
    · subst q
      rw [if_pos rfl] at hy
      cases hy
      simp [am_rd]
    · rw [if_neg q] at hy
      simp [am_rd, q, hRC.2.1 y t1 s1 hy]
  · rw [am_put_ne _ _ _ _ (by omega)]
    exact hRC.2.2.1 i hi
  · rw [am_put_ne _ _ _ _ (by omega)]
    exact hRC.2.2.2
  · rw [am_put_ne _ _ _ _ h3]
  · rw [am_put_ne _ _ _ _ (by omega)]
set_option maxRecDepth 100000 in
set_option maxHeartbeats 400000 in
theorem c_X5_find_7 (ad : Nat → Nat) (M : am_M) (B : sl_B) (x t s : Nat) (hRC : sl_RC 7 M B) (hok : sl_ok B) (hx : x < 117) (ht : t < 1000) (hs : s < 100000) : am_C ydX5_find ad am_II [.ref (ad 7), .int (nI x), .int (nI t), .int (nI s)] M (fun r N => r = none ∧ sl_RC 7 N (sl_push B x t s) ∧ sl_fr 7 M N) := by
  have hv1 : vp_in (nI x) 117 := vp_in_nI hx (by omega)
  refine am_ofW (L := [some (.ref (ad 7)), some (.int (nI x)), some (.int (nI t)), some (.int (nI s))]) (by decide +kernel) (by simp [Value.category]) (Nat.le_of_ble_eq_true rfl) rfl ?_
  refine am_aload_n rfl dX5_find_0 ?_
  refine am_getr (j := 1) (by decide) rfl rfl rfl hTX5 (by decide) fl_X5_9 dX5_find_1 ?_
  refine am_iload_n rfl dX5_find_4 ?_
  refine am_callNi (c_X6_isIndexOf ad M 8 117 (nI x) (by decide) rfl (by decide) hv1) okX6_isIndexOf ml_X5_36 rfl ⟨by decide, by decide⟩ (Nat.le_of_ble_eq_true rfl) rfl dX5_find_5 ?_
  refine am_ifb_eq (tgt := 22) (by decide) dX5_find_8 (fun h8 => ?_) (fun h8 => ?_)
  · cases h8
  · refine am_aload_n rfl dX5_find_11 ?_
    refine am_getr (j := 2) (by decide) rfl rfl rfl hTX5 (by decide) fl_X5_15 dX5_find_12 ?_
    refine am_iload_n rfl dX5_find_15 ?_
    refine am_callNi (c_X6_isIndexOf ad M 9 117 (nI x) (by decide) rfl (by decide) hv1) okX6_isIndexOf ml_X5_36 rfl ⟨by decide, by decide⟩ (Nat.le_of_ble_eq_true rfl) rfl dX5_find_16 ?_
    refine am_ifb_ne (tgt := 23) (by decide) dX5_find_19 (fun h19 => ?_) (fun h19 => ?_)
    · refine am_aload_n rfl dX5_find_23 ?_
      refine am_getr (j := 1) (by decide) rfl rfl rfl hTX5 (by decide) fl_X5_9 dX5_find_24 ?_
      refine am_iload_n rfl dX5_find_27 ?_
      refine am_iald (by decide) rfl (hv1) dX5_find_28 ?_
      refine am_iconst (v := (-1)) (by decide) dX5_find_29 ?_
      refine am_icmp_ne (tgt := 84) (by decide) dX5_find_30 (fun h30 => ?_) (fun h30 => ?_)
      · obtain ⟨t0, s0, hb⟩ : ∃ t0 s0, B.1 x = some (t0, s0) := by
          cases e8 : B.1 x with
          | none => exact absurd (by rw [nI_clamp (by omega), hRC.1 x hx, e8]; rfl) h30
          | some p => exact ⟨p.1, p.2, rfl⟩
        have hsm := hok.small hb
        have et : M 8 (nI x).toNatClampNeg = nI t0 := by rw [nI_clamp (by omega), hRC.1 x hx, hb]; rfl
        have es : M 9 (nI x).toNatClampNeg = nI s0 := by rw [nI_clamp (by omega), hRC.2.1 x t0 s0 hb]
        refine am_aload_n rfl dX5_find_84 ?_
        refine am_getr (j := 1) (by decide) rfl rfl rfl hTX5 (by decide) fl_X5_9 dX5_find_85 ?_
        refine am_iload_n rfl dX5_find_88 ?_
        refine am_iald (by decide) rfl (hv1) dX5_find_89 ?_
        refine am_iload_n rfl dX5_find_90 ?_
        refine am_icmp_ne (tgt := 111) (by decide) dX5_find_91 (fun h91 => ?_) (fun h91 => ?_)
        · refine am_vret rfl dX5_find_111 ?_
          first
          | (have h9 := sl_found 7 M B x t s hRC e9 hc
             have e7 : am_put (am_put (am_put M 8 x (nI t)) 9 x (nI s)) 10 B.2.2 (nI x) 7 4 + 1 = nI (B.2.2 + 1) := by (simp [am_rd, hRC.2.2.2, nI_1])
             have e6 : (am_put (am_put M 8 x (nI t)) 9 x (nI s) 7 4).toNatClampNeg = B.2.2 := by (rw [am_put_ne _ _ _ _ (by decide), am_put_ne _ _ _ _ (by decide), hRC.2.2.2, nI_clamp (by omega)])
             rw [nI_clamp (by omega), e6, e7]
             exact ⟨rfl, h9⟩)
          | (rw [et] at h91; exact ⟨rfl, by rw [sl_push_some hb, if_neg (fun q => h91 (by rw [q.1]))]; exact hRC, sl_fr.rf 7 M⟩)
          | (rw [es] at h101; exact ⟨rfl, by rw [sl_push_some hb, if_neg (fun q => by simp only [Int32.le_iff_toInt_le, nI_e] at h101; omega)]; exact hRC, sl_fr.rf 7 M⟩)
          | (rw [et] at h91
             have e5 : t0 = t := by (have e4 := congrArg Int32.toInt h91; simp only [nI_e] at e4; omega)
             subst e5
             rw [es] at h101
             rw [nI_clamp (by omega)]
             exact ⟨rfl, sl_better 7 M B x t0 s s0 hRC hb (by simp only [Int32.le_iff_toInt_le, nI_e] at h101; omega)⟩)
        · refine am_iload_n rfl dX5_find_94 ?_
          refine am_aload_n rfl dX5_find_95 ?_
          refine am_getr (j := 2) (by decide) rfl rfl rfl hTX5 (by decide) fl_X5_15 dX5_find_96 ?_
          refine am_iload_n rfl dX5_find_99 ?_
          refine am_iald (by decide) rfl (hv1) dX5_find_100 ?_
          refine am_icmp_ge (tgt := 111) (by decide) dX5_find_101 (fun h101 => ?_) (fun h101 => ?_)
          · refine am_vret rfl dX5_find_111 ?_
            first
            | (have h9 := sl_found 7 M B x t s hRC e9 hc
               have e7 : am_put (am_put (am_put M 8 x (nI t)) 9 x (nI s)) 10 B.2.2 (nI x) 7 4 + 1 = nI (B.2.2 + 1) := by (simp [am_rd, hRC.2.2.2, nI_1])
               have e6 : (am_put (am_put M 8 x (nI t)) 9 x (nI s) 7 4).toNatClampNeg = B.2.2 := by (rw [am_put_ne _ _ _ _ (by decide), am_put_ne _ _ _ _ (by decide), hRC.2.2.2, nI_clamp (by omega)])
               rw [nI_clamp (by omega), e6, e7]
               exact ⟨rfl, h9⟩)
            | (rw [et] at h91; exact ⟨rfl, by rw [sl_push_some hb, if_neg (fun q => h91 (by rw [q.1]))]; exact hRC, sl_fr.rf 7 M⟩)
            | (rw [es] at h101; exact ⟨rfl, by rw [sl_push_some hb, if_neg (fun q => by simp only [Int32.le_iff_toInt_le, nI_e] at h101; omega)]; exact hRC, sl_fr.rf 7 M⟩)
            | (rw [et] at h91
               have e5 : t0 = t := by (have e4 := congrArg Int32.toInt h91; simp only [nI_e] at e4; omega)
               subst e5
               rw [es] at h101
               rw [nI_clamp (by omega)]
               exact ⟨rfl, sl_better 7 M B x t0 s s0 hRC hb (by simp only [Int32.le_iff_toInt_le, nI_e] at h101; omega)⟩)
          · refine am_aload_n rfl dX5_find_104 ?_
            refine am_getr (j := 2) (by decide) rfl rfl rfl hTX5 (by decide) fl_X5_15 dX5_find_105 ?_
            refine am_iload_n rfl dX5_find_108 ?_
            refine am_iload_n rfl dX5_find_109 ?_
            refine am_iast (by decide) rfl (hv1) dX5_find_110 ?_
            refine am_vret rfl dX5_find_111 ?_
            first
            | (have h9 := sl_found 7 M B x t s hRC e9 hc
               have e7 : am_put (am_put (am_put M 8 x (nI t)) 9 x (nI s)) 10 B.2.2 (nI x) 7 4 + 1 = nI (B.2.2 + 1) := by (simp [am_rd, hRC.2.2.2, nI_1])
               have e6 : (am_put (am_put M 8 x (nI t)) 9 x (nI s) 7 4).toNatClampNeg = B.2.2 := by (rw [am_put_ne _ _ _ _ (by decide), am_put_ne _ _ _ _ (by decide), hRC.2.2.2, nI_clamp (by omega)])
               rw [nI_clamp (by omega), e6, e7]
               exact ⟨rfl, h9⟩)
            | (rw [et] at h91; exact ⟨rfl, by rw [sl_push_some hb, if_neg (fun q => h91 (by rw [q.1]))]; exact hRC, sl_fr.rf 7 M⟩)
            | (rw [es] at h101; exact ⟨rfl, by rw [sl_push_some hb, if_neg (fun q => by simp only [Int32.le_iff_toInt_le, nI_e] at h101; omega)]; exact hRC, sl_fr.rf 7 M⟩)
            | (rw [et] at h91
               have e5 : t0 = t := by (have e4 := congrArg Int32.toInt h91; simp only [nI_e] at e4; omega)
               subst e5
               rw [es] at h101
               rw [nI_clamp (by omega)]
               exact ⟨rfl, sl_better 7 M B x t0 s s0 hRC hb (by simp only [Int32.le_iff_toInt_le, nI_e] at h101; omega)⟩)
      · have e9 : B.1 x = none := (sl_enc_none hok x).mp (by rw [← hRC.1 x hx]; rw [nI_clamp (by omega)] at h30; exact h30)
        have hc := hok.lt hx e9
        have hv2 : vp_in (M 7 4) 117 := by rw [hRC.2.2.2]; exact vp_in_nI hc (by omega)
        have hv3 : vp_in (am_put (am_put M 8 (nI x).toNatClampNeg (nI t)) 9 (nI x).toNatClampNeg (nI s) 7 4) 117 := by rw [am_put_ne _ _ _ _ (by decide), am_put_ne _ _ _ _ (by decide), hRC.2.2.2]; exact vp_in_nI hc (by omega)
        refine am_aload_n rfl dX5_find_33 ?_
        refine am_getr (j := 3) (by decide) rfl rfl rfl hTX5 (by decide) fl_X5_18 dX5_find_34 ?_
        refine am_aload_n rfl dX5_find_37 ?_
        refine am_geti (j := 4) (by decide) rfl rfl rfl hTX5 (by decide) fl_X5_21 dX5_find_38 ?_
        refine am_callNi (c_X6_isIndexOf ad M 10 117 (M 7 4) (by decide) rfl (by decide) hv2) okX6_isIndexOf ml_X5_36 rfl ⟨by decide, by decide⟩ (Nat.le_of_ble_eq_true rfl) rfl dX5_find_41 ?_
        refine am_ifb_eq (tgt := 84) (by decide) dX5_find_44 (fun h44 => ?_) (fun h44 => ?_)
        · cases h44
        · refine am_aload_n rfl dX5_find_47 ?_
          refine am_getr (j := 1) (by decide) rfl rfl rfl hTX5 (by decide) fl_X5_9 dX5_find_48 ?_
          refine am_iload_n rfl dX5_find_51 ?_
          refine am_iload_n rfl dX5_find_52 ?_
          refine am_iast (by decide) rfl (hv1) dX5_find_53 ?_
          refine am_aload_n rfl dX5_find_54 ?_
          refine am_getr (j := 2) (by decide) rfl rfl rfl hTX5 (by decide) fl_X5_15 dX5_find_55 ?_
          refine am_iload_n rfl dX5_find_58 ?_
          refine am_iload_n rfl dX5_find_59 ?_
          refine am_iast (by decide) rfl (hv1) dX5_find_60 ?_
          refine am_aload_n rfl dX5_find_61 ?_
          refine am_getr (j := 3) (by decide) rfl rfl rfl hTX5 (by decide) fl_X5_18 dX5_find_62 ?_
          refine am_aload_n rfl dX5_find_65 ?_
          refine am_geti (j := 4) (by decide) rfl rfl rfl hTX5 (by decide) fl_X5_21 dX5_find_66 ?_
          refine am_iload_n rfl dX5_find_69 ?_
          refine am_iast (by decide) rfl (hv3) dX5_find_70 ?_
          refine am_aload_n rfl dX5_find_71 ?_
          refine am_dup rfl dX5_find_72 ?_
          refine am_geti (j := 4) (by decide) rfl rfl rfl hTX5 (by decide) fl_X5_21 dX5_find_73 ?_
          refine am_iconst (v := 1) (by decide) dX5_find_76 ?_
          refine am_iadd dX5_find_77 ?_
          refine am_puti (j := 4) (by decide) rfl rfl rfl hTX5 tyX5_ok nmX5 (by decide) fl_X5_21 rfl rfl rfl rfl dX5_find_78 ?_
          refine am_goto (tgt := 111) (by decide) dX5_find_81 ?_
          refine am_vret rfl dX5_find_111 ?_
          first
          | (have h9 := sl_found 7 M B x t s hRC e9 hc
             have e7 : am_put (am_put (am_put M 8 x (nI t)) 9 x (nI s)) 10 B.2.2 (nI x) 7 4 + 1 = nI (B.2.2 + 1) := by (simp [am_rd, hRC.2.2.2, nI_1])
             have e6 : (am_put (am_put M 8 x (nI t)) 9 x (nI s) 7 4).toNatClampNeg = B.2.2 := by (rw [am_put_ne _ _ _ _ (by decide), am_put_ne _ _ _ _ (by decide), hRC.2.2.2, nI_clamp (by omega)])
             rw [nI_clamp (by omega), e6, e7]
             exact ⟨rfl, h9⟩)
          | (rw [et] at h91; exact ⟨rfl, by rw [sl_push_some hb, if_neg (fun q => h91 (by rw [q.1]))]; exact hRC, sl_fr.rf 7 M⟩)
          | (rw [es] at h101; exact ⟨rfl, by rw [sl_push_some hb, if_neg (fun q => by simp only [Int32.le_iff_toInt_le, nI_e] at h101; omega)]; exact hRC, sl_fr.rf 7 M⟩)
          | (rw [et] at h91
             have e5 : t0 = t := by (have e4 := congrArg Int32.toInt h91; simp only [nI_e] at e4; omega)
             subst e5
             rw [es] at h101
             rw [nI_clamp (by omega)]
             exact ⟨rfl, sl_better 7 M B x t0 s s0 hRC hb (by simp only [Int32.le_iff_toInt_le, nI_e] at h101; omega)⟩)
    · cases h19
set_option maxRecDepth 100000 in
set_option maxHeartbeats 400000 in
theorem c_X5_find_11 (ad : Nat → Nat) (M : am_M) (B : sl_B) (x t s : Nat) (hRC : sl_RC 11 M B) (hok : sl_ok B) (hx : x < 117) (ht : t < 1000) (hs : s < 100000) : am_C ydX5_find ad am_II [.ref (ad 11), .int (nI x), .int (nI t), .int (nI s)] M (fun r N => r = none ∧ sl_RC 11 N (sl_push B x t s) ∧ sl_fr 11 M N) := by
  have hv1 : vp_in (nI x) 117 := vp_in_nI hx (by omega)
  refine am_ofW (L := [some (.ref (ad 11)), some (.int (nI x)), some (.int (nI t)), some (.int (nI s))]) (by decide +kernel) (by simp [Value.category]) (Nat.le_of_ble_eq_true rfl) rfl ?_
  refine am_aload_n rfl dX5_find_0 ?_
  refine am_getr (j := 1) (by decide) rfl rfl rfl hTX5 (by decide) fl_X5_9 dX5_find_1 ?_
  refine am_iload_n rfl dX5_find_4 ?_
  refine am_callNi (c_X6_isIndexOf ad M 12 117 (nI x) (by decide) rfl (by decide) hv1) okX6_isIndexOf ml_X5_36 rfl ⟨by decide, by decide⟩ (Nat.le_of_ble_eq_true rfl) rfl dX5_find_5 ?_
  refine am_ifb_eq (tgt := 22) (by decide) dX5_find_8 (fun h8 => ?_) (fun h8 => ?_)
  · cases h8
  · refine am_aload_n rfl dX5_find_11 ?_
    refine am_getr (j := 2) (by decide) rfl rfl rfl hTX5 (by decide) fl_X5_15 dX5_find_12 ?_
    refine am_iload_n rfl dX5_find_15 ?_
    refine am_callNi (c_X6_isIndexOf ad M 13 117 (nI x) (by decide) rfl (by decide) hv1) okX6_isIndexOf ml_X5_36 rfl ⟨by decide, by decide⟩ (Nat.le_of_ble_eq_true rfl) rfl dX5_find_16 ?_
    refine am_ifb_ne (tgt := 23) (by decide) dX5_find_19 (fun h19 => ?_) (fun h19 => ?_)
    · refine am_aload_n rfl dX5_find_23 ?_
      refine am_getr (j := 1) (by decide) rfl rfl rfl hTX5 (by decide) fl_X5_9 dX5_find_24 ?_
      refine am_iload_n rfl dX5_find_27 ?_
      refine am_iald (by decide) rfl (hv1) dX5_find_28 ?_
      refine am_iconst (v := (-1)) (by decide) dX5_find_29 ?_
      refine am_icmp_ne (tgt := 84) (by decide) dX5_find_30 (fun h30 => ?_) (fun h30 => ?_)
      · obtain ⟨t0, s0, hb⟩ : ∃ t0 s0, B.1 x = some (t0, s0) := by
          cases e8 : B.1 x with
          | none => exact absurd (by rw [nI_clamp (by omega), hRC.1 x hx, e8]; rfl) h30
          | some p => exact ⟨p.1, p.2, rfl⟩
        have hsm := hok.small hb
        have et : M 12 (nI x).toNatClampNeg = nI t0 := by rw [nI_clamp (by omega), hRC.1 x hx, hb]; rfl
        have es : M 13 (nI x).toNatClampNeg = nI s0 := by rw [nI_clamp (by omega), hRC.2.1 x t0 s0 hb]
        refine am_aload_n rfl dX5_find_84 ?_
        refine am_getr (j := 1) (by decide) rfl rfl rfl hTX5 (by decide) fl_X5_9 dX5_find_85 ?_
        refine am_iload_n rfl dX5_find_88 ?_
        refine am_iald (by decide) rfl (hv1) dX5_find_89 ?_
        refine am_iload_n rfl dX5_find_90 ?_
        refine am_icmp_ne (tgt := 111) (by decide) dX5_find_91 (fun h91 => ?_) (fun h91 => ?_)
        · refine am_vret rfl dX5_find_111 ?_
          first
          | (have h9 := sl_found 11 M B x t s hRC e9 hc
             have e7 : am_put (am_put (am_put M 12 x (nI t)) 13 x (nI s)) 14 B.2.2 (nI x) 11 4 + 1 = nI (B.2.2 + 1) := by (simp [am_rd, hRC.2.2.2, nI_1])
             have e6 : (am_put (am_put M 12 x (nI t)) 13 x (nI s) 11 4).toNatClampNeg = B.2.2 := by (rw [am_put_ne _ _ _ _ (by decide), am_put_ne _ _ _ _ (by decide), hRC.2.2.2, nI_clamp (by omega)])
             rw [nI_clamp (by omega), e6, e7]
             exact ⟨rfl, h9⟩)
          | (rw [et] at h91; exact ⟨rfl, by rw [sl_push_some hb, if_neg (fun q => h91 (by rw [q.1]))]; exact hRC, sl_fr.rf 11 M⟩)
          | (rw [es] at h101; exact ⟨rfl, by rw [sl_push_some hb, if_neg (fun q => by simp only [Int32.le_iff_toInt_le, nI_e] at h101; omega)]; exact hRC, sl_fr.rf 11 M⟩)
          | (rw [et] at h91
             have e5 : t0 = t := by (have e4 := congrArg Int32.toInt h91; simp only [nI_e] at e4; omega)
             subst e5
             rw [es] at h101
             rw [nI_clamp (by omega)]
             exact ⟨rfl, sl_better 11 M B x t0 s s0 hRC hb (by simp only [Int32.le_iff_toInt_le, nI_e] at h101; omega)⟩)
        · refine am_iload_n rfl dX5_find_94 ?_
          refine am_aload_n rfl dX5_find_95 ?_
          refine am_getr (j := 2) (by decide) rfl rfl rfl hTX5 (by decide) fl_X5_15 dX5_find_96 ?_
          refine am_iload_n rfl dX5_find_99 ?_
          refine am_iald (by decide) rfl (hv1) dX5_find_100 ?_
          refine am_icmp_ge (tgt := 111) (by decide) dX5_find_101 (fun h101 => ?_) (fun h101 => ?_)
          · refine am_vret rfl dX5_find_111 ?_
            first
            | (have h9 := sl_found 11 M B x t s hRC e9 hc
               have e7 : am_put (am_put (am_put M 12 x (nI t)) 13 x (nI s)) 14 B.2.2 (nI x) 11 4 + 1 = nI (B.2.2 + 1) := by (simp [am_rd, hRC.2.2.2, nI_1])
               have e6 : (am_put (am_put M 12 x (nI t)) 13 x (nI s) 11 4).toNatClampNeg = B.2.2 := by (rw [am_put_ne _ _ _ _ (by decide), am_put_ne _ _ _ _ (by decide), hRC.2.2.2, nI_clamp (by omega)])
               rw [nI_clamp (by omega), e6, e7]
               exact ⟨rfl, h9⟩)
            | (rw [et] at h91; exact ⟨rfl, by rw [sl_push_some hb, if_neg (fun q => h91 (by rw [q.1]))]; exact hRC, sl_fr.rf 11 M⟩)
            | (rw [es] at h101; exact ⟨rfl, by rw [sl_push_some hb, if_neg (fun q => by simp only [Int32.le_iff_toInt_le, nI_e] at h101; omega)]; exact hRC, sl_fr.rf 11 M⟩)
            | (rw [et] at h91
               have e5 : t0 = t := by (have e4 := congrArg Int32.toInt h91; simp only [nI_e] at e4; omega)
               subst e5
               rw [es] at h101
               rw [nI_clamp (by omega)]
               exact ⟨rfl, sl_better 11 M B x t0 s s0 hRC hb (by simp only [Int32.le_iff_toInt_le, nI_e] at h101; omega)⟩)
          · refine am_aload_n rfl dX5_find_104 ?_
            refine am_getr (j := 2) (by decide) rfl rfl rfl hTX5 (by decide) fl_X5_15 dX5_find_105 ?_
            refine am_iload_n rfl dX5_find_108 ?_
            refine am_iload_n rfl dX5_find_109 ?_
            refine am_iast (by decide) rfl (hv1) dX5_find_110 ?_
            refine am_vret rfl dX5_find_111 ?_
            first
            | (have h9 := sl_found 11 M B x t s hRC e9 hc
               have e7 : am_put (am_put (am_put M 12 x (nI t)) 13 x (nI s)) 14 B.2.2 (nI x) 11 4 + 1 = nI (B.2.2 + 1) := by (simp [am_rd, hRC.2.2.2, nI_1])
               have e6 : (am_put (am_put M 12 x (nI t)) 13 x (nI s) 11 4).toNatClampNeg = B.2.2 := by (rw [am_put_ne _ _ _ _ (by decide), am_put_ne _ _ _ _ (by decide), hRC.2.2.2, nI_clamp (by omega)])
               rw [nI_clamp (by omega), e6, e7]
               exact ⟨rfl, h9⟩)
            | (rw [et] at h91; exact ⟨rfl, by rw [sl_push_some hb, if_neg (fun q => h91 (by rw [q.1]))]; exact hRC, sl_fr.rf 11 M⟩)
            | (rw [es] at h101; exact ⟨rfl, by rw [sl_push_some hb, if_neg (fun q => by simp only [Int32.le_iff_toInt_le, nI_e] at h101; omega)]; exact hRC, sl_fr.rf 11 M⟩)
            | (rw [et] at h91
               have e5 : t0 = t := by (have e4 := congrArg Int32.toInt h91; simp only [nI_e] at e4; omega)
               subst e5
               rw [es] at h101
               rw [nI_clamp (by omega)]
               exact ⟨rfl, sl_better 11 M B x t0 s s0 hRC hb (by simp only [Int32.le_iff_toInt_le, nI_e] at h101; omega)⟩)
      · have e9 : B.1 x = none := (sl_enc_none hok x).mp (by rw [← hRC.1 x hx]; rw [nI_clamp (by omega)] at h30; exact h30)
        have hc := hok.lt hx e9
        have hv2 : vp_in (M 11 4) 117 := by rw [hRC.2.2.2]; exact vp_in_nI hc (by omega)
        have hv3 : vp_in (am_put (am_put M 12 (nI x).toNatClampNeg (nI t)) 13 (nI x).toNatClampNeg (nI s) 11 4) 117 := by rw [am_put_ne _ _ _ _ (by decide), am_put_ne _ _ _ _ (by decide), hRC.2.2.2]; exact vp_in_nI hc (by omega)
        refine am_aload_n rfl dX5_find_33 ?_
        refine am_getr (j := 3) (by decide) rfl rfl rfl hTX5 (by decide) fl_X5_18 dX5_find_34 ?_
        refine am_aload_n rfl dX5_find_37 ?_
        refine am_geti (j := 4) (by decide) rfl rfl rfl hTX5 (by decide) fl_X5_21 dX5_find_38 ?_
        refine am_callNi (c_X6_isIndexOf ad M 14 117 (M 11 4) (by decide) rfl (by decide) hv2) okX6_isIndexOf ml_X5_36 rfl ⟨by decide, by decide⟩ (Nat.le_of_ble_eq_true rfl) rfl dX5_find_41 ?_
        refine am_ifb_eq (tgt := 84) (by decide) dX5_find_44 (fun h44 => ?_) (fun h44 => ?_)
        · cases h44
        · refine am_aload_n rfl dX5_find_47 ?_
          refine am_getr (j := 1) (by decide) rfl rfl rfl hTX5 (by decide) fl_X5_9 dX5_find_48 ?_
          refine am_iload_n rfl dX5_find_51 ?_
          refine am_iload_n rfl dX5_find_52 ?_
          refine am_iast (by decide) rfl (hv1) dX5_find_53 ?_
          refine am_aload_n rfl dX5_find_54 ?_
          refine am_getr (j := 2) (by decide) rfl rfl rfl hTX5 (by decide) fl_X5_15 dX5_find_55 ?_
          refine am_iload_n rfl dX5_find_58 ?_
          refine am_iload_n rfl dX5_find_59 ?_
          refine am_iast (by decide) rfl (hv1) dX5_find_60 ?_
          refine am_aload_n rfl dX5_find_61 ?_
          refine am_getr (j := 3) (by decide) rfl rfl rfl hTX5 (by decide) fl_X5_18 dX5_find_62 ?_
          refine am_aload_n rfl dX5_find_65 ?_
          refine am_geti (j := 4) (by decide) rfl rfl rfl hTX5 (by decide) fl_X5_21 dX5_find_66 ?_
          refine am_iload_n rfl dX5_find_69 ?_
          refine am_iast (by decide) rfl (hv3) dX5_find_70 ?_
          refine am_aload_n rfl dX5_find_71 ?_
          refine am_dup rfl dX5_find_72 ?_
          refine am_geti (j := 4) (by decide) rfl rfl rfl hTX5 (by decide) fl_X5_21 dX5_find_73 ?_
          refine am_iconst (v := 1) (by decide) dX5_find_76 ?_
          refine am_iadd dX5_find_77 ?_
          refine am_puti (j := 4) (by decide) rfl rfl rfl hTX5 tyX5_ok nmX5 (by decide) fl_X5_21 rfl rfl rfl rfl dX5_find_78 ?_
          refine am_goto (tgt := 111) (by decide) dX5_find_81 ?_
          refine am_vret rfl dX5_find_111 ?_
          first
          | (have h9 := sl_found 11 M B x t s hRC e9 hc
             have e7 : am_put (am_put (am_put M 12 x (nI t)) 13 x (nI s)) 14 B.2.2 (nI x) 11 4 + 1 = nI (B.2.2 + 1) := by (simp [am_rd, hRC.2.2.2, nI_1])
             have e6 : (am_put (am_put M 12 x (nI t)) 13 x (nI s) 11 4).toNatClampNeg = B.2.2 := by (rw [am_put_ne _ _ _ _ (by decide), am_put_ne _ _ _ _ (by decide), hRC.2.2.2, nI_clamp (by omega)])
             rw [nI_clamp (by omega), e6, e7]
             exact ⟨rfl, h9⟩)
          | (rw [et] at h91; exact ⟨rfl, by rw [sl_push_some hb, if_neg (fun q => h91 (by rw [q.1]))]; exact hRC, sl_fr.rf 11 M⟩)
          | (rw [es] at h101; exact ⟨rfl, by rw [sl_push_some hb, if_neg (fun q => by simp only [Int32.le_iff_toInt_le, nI_e] at h101; omega)]; exact hRC, sl_fr.rf 11 M⟩)
          | (rw [et] at h91
             have e5 : t0 = t := by (have e4 := congrArg Int32.toInt h91; simp only [nI_e] at e4; omega)
             subst e5
             rw [es] at h101
             rw [nI_clamp (by omega)]
             exact ⟨rfl, sl_better 11 M B x t0 s s0 hRC hb (by simp only [Int32.le_iff_toInt_le, nI_e] at h101; omega)⟩)
    · cases h19
end
section
theorem sp_num_e {v a : Int} (h1 : 0 ≤ v) (h2 : v ≤ 12) (h3 : -4 ≤ a) (h4 : a ≤ 4) : sp_num (iN v) (iN a) = nI (sx v a) := by
  obtain ⟨-, e⟩ := sx_lt h1 h2 h3 h4
  apply i_inj
  simp only [sp_num, i_add, i_mul, iN_e, nI_e, kI_9, kI_4]
  rw [e]
  omega
theorem sl_we {x : Nat} (hx : x < 117) : nI x / 9 = iN (sl_w x) := by
  rw [show (9 : Int32) = nI 9 from rfl, pk_div (by omega) (by omega) (by omega), nI_iN]
  rfl
theorem sl_be {x : Nat} (hx : x < 117) : nI x - nI x / 9 * 9 - 4 = iN (sl_b x) := by
  rw [show (9 : Int32) = nI 9 from rfl, pk_rem (by omega) (by omega) (by omega)]
  apply i_inj
  simp only [i_sub, nI_e, iN_e, kI_4, sl_b]
  omega
theorem sl_stepe {s x : Nat} : nI s + iN (sl_w x) = nI (s + x / 9) := by
  rw [nI_iN, nI_iN, iN_add]
  congr 1
set_option maxRecDepth 100000 in
set_option maxHeartbeats 400000 in
theorem c_X5_ticksFrom_7 (ad : Nat → Nat) (M : am_M) (v a : Int) (h1 : 0 ≤ v) (h2 : v ≤ 12) (h3 : -4 ≤ a) (h4 : a ≤ 4) : am_C ydX5_ticksFrom ad am_II [.ref (ad 7), .int (iN v), .int (iN a)] M (am_is (M 8 (sx v a)) M) := by
  refine am_ofW (L := [some (.ref (ad 7)), some (.int (iN v)), some (.int (iN a)), none]) (by decide +kernel) (by simp [Value.category]) (Nat.le_of_ble_eq_true rfl) rfl ?_
  refine am_iload_n rfl dX5_ticksFrom_0 ?_
  refine am_iload_n rfl dX5_ticksFrom_1 ?_
  refine am_callNi (c_X6_stateNumber ad _ _ _) okX6_stateNumber ml_X5_32 rfl ⟨by decide, by decide⟩ (Nat.le_of_ble_eq_true rfl) rfl dX5_ticksFrom_2 ?_
  rw [sp_num_e h1 h2 h3 h4]
  have hlt := (sx_lt h1 h2 h3 h4).1
  have hvp : vp_in (nI (sx v a)) 117 := vp_in_nI hlt (by omega)
  refine am_istore_n (by decide) dX5_ticksFrom_5 ?_
  refine am_aload_n rfl dX5_ticksFrom_6 ?_
  refine am_getr (j := 1) (by decide) rfl rfl rfl hTX5 (by decide) fl_X5_9 dX5_ticksFrom_7 ?_
  refine am_iload_n rfl dX5_ticksFrom_10 ?_
  refine am_callNi (c_X6_isIndexOf ad M 8 117 (nI (sx v a)) (by decide) rfl (by decide) hvp) okX6_isIndexOf ml_X5_36 rfl ⟨by decide, by decide⟩ (Nat.le_of_ble_eq_true rfl) rfl dX5_ticksFrom_11 ?_
  refine am_ifb_eq (tgt := 26) (by decide) dX5_ticksFrom_14 (fun h14 => ?_) (fun h14 => ?_)
  · cases h14
  · refine am_aload_n rfl dX5_ticksFrom_17 ?_
    refine am_getr (j := 1) (by decide) rfl rfl rfl hTX5 (by decide) fl_X5_9 dX5_ticksFrom_18 ?_
    refine am_iload_n rfl dX5_ticksFrom_21 ?_
    refine am_iald (by decide) rfl (hvp) dX5_ticksFrom_22 ?_
    refine am_goto (tgt := 27) (by decide) dX5_ticksFrom_23 ?_
    refine am_iret rfl dX5_ticksFrom_27 ?_
    refine am_isE ?_
    rw [nI_clamp (by omega)]
set_option maxRecDepth 100000 in
set_option maxHeartbeats 400000 in
theorem c_X5_stepsFrom_7 (ad : Nat → Nat) (M : am_M) (v a : Int) (h1 : 0 ≤ v) (h2 : v ≤ 12) (h3 : -4 ≤ a) (h4 : a ≤ 4) : am_C ydX5_stepsFrom ad am_II [.ref (ad 7), .int (iN v), .int (iN a)] M (am_is (M 9 (sx v a)) M) := by
  refine am_ofW (L := [some (.ref (ad 7)), some (.int (iN v)), some (.int (iN a)), none]) (by decide +kernel) (by simp [Value.category]) (Nat.le_of_ble_eq_true rfl) rfl ?_
  refine am_iload_n rfl dX5_stepsFrom_0 ?_
  refine am_iload_n rfl dX5_stepsFrom_1 ?_
  refine am_callNi (c_X6_stateNumber ad _ _ _) okX6_stateNumber ml_X5_32 rfl ⟨by decide, by decide⟩ (Nat.le_of_ble_eq_true rfl) rfl dX5_stepsFrom_2 ?_
  rw [sp_num_e h1 h2 h3 h4]
  have hlt := (sx_lt h1 h2 h3 h4).1
  have hvp : vp_in (nI (sx v a)) 117 := vp_in_nI hlt (by omega)
  refine am_istore_n (by decide) dX5_stepsFrom_5 ?_
  refine am_aload_n rfl dX5_stepsFrom_6 ?_
  refine am_getr (j := 2) (by decide) rfl rfl rfl hTX5 (by decide) fl_X5_15 dX5_stepsFrom_7 ?_
  refine am_iload_n rfl dX5_stepsFrom_10 ?_
  refine am_callNi (c_X6_isIndexOf ad M 9 117 (nI (sx v a)) (by decide) rfl (by decide) hvp) okX6_isIndexOf ml_X5_36 rfl ⟨by decide, by decide⟩ (Nat.le_of_ble_eq_true rfl) rfl dX5_stepsFrom_11 ?_
  refine am_ifb_eq (tgt := 26) (by decide) dX5_stepsFrom_14 (fun h14 => ?_) (fun h14 => ?_)
  · cases h14
  · refine am_aload_n rfl dX5_stepsFrom_17 ?_
    refine am_getr (j := 2) (by decide) rfl rfl rfl hTX5 (by decide) fl_X5_15 dX5_stepsFrom_18 ?_
    refine am_iload_n rfl dX5_stepsFrom_21 ?_
    refine am_iald (by decide) rfl (hvp) dX5_stepsFrom_22 ?_
    refine am_goto (tgt := 27) (by decide) dX5_stepsFrom_23 ?_
    refine am_iret rfl dX5_stepsFrom_27 ?_
    refine am_isE ?_
    rw [nI_clamp (by omega)]
set_option maxRecDepth 100000 in
set_option maxHeartbeats 400000 in
theorem lp_X5_look_7 (ad : Nat → Nat) (M : am_M) (x t s : Nat) (hx : x < 117) (v hi : Int) (BF : sl_B) (h1 : 0 ≤ v) (h2 : v ≤ 12) (h5 : hi ≤ 4) : ∀ (n : Nat) (a : Int) (N : am_M) (B : sl_B), a + n = hi + 1 → -4 ≤ a → sl_RC 7 N B → sl_ok B → B.1 x = some (t, s) → sl_fr 7 M N → sl_fold (fun a => sx v a) (t + 1) (s + x / 9) n a B = BF → am_W ydX5_lookBehind ad am_II (fun r N => r = none ∧ sl_RC 7 N BF ∧ sl_fr 7 M N) 81 [some (.ref (ad 7)), some (.ref (ad 1)), some (.int (nI x)), some (.int (iN (sl_w x))), some (.int (iN (sl_b x))), some (.int (iN v)), some (.int (nI (t + 1))), some (.int (nI (s + x / 9))), some (.int (iN hi)), some (.int (iN a))] [] N := by
  intro n
  induction n with
  | zero =>
    intro a N B ha h6 hRC hok hd hf he
    refine am_iload rfl dX5_lookBehind_81 ?_
    refine am_iload rfl dX5_lookBehind_83 ?_
    refine am_icmp_gt (tgt := 109) (by decide) dX5_lookBehind_85 (fun h => ?_) (fun h => (by exfalso; simp only [Int32.lt_iff_toInt_lt, iN_e] at h; omega))
    refine am_vret rfl dX5_lookBehind_109 ?_
    rw [sl_fold] at he
    subst he
    exact ⟨rfl, hRC, hf⟩
  | succ n ih =>
    intro a N B ha h6 hRC hok hd hf he
    have hix := sx_lt h1 h2 h6 (show a ≤ 4 by omega)
    have hd1 := hok.small hd
    rw [sl_fold] at he
    refine am_iload rfl dX5_lookBehind_81 ?_
    refine am_iload rfl dX5_lookBehind_83 ?_
    refine am_icmp_gt (tgt := 109) (by decide) dX5_lookBehind_85 (fun h => (by exfalso; simp only [Int32.lt_iff_toInt_lt, iN_e] at h; omega)) (fun h => ?_)
    refine am_aload_n rfl dX5_lookBehind_88 ?_
    refine am_iload rfl dX5_lookBehind_89 ?_
    refine am_iload rfl dX5_lookBehind_91 ?_
    refine am_callNi (c_X6_stateNumber ad _ _ _) okX6_stateNumber ml_X5_32 rfl ⟨by decide, by decide⟩ (Nat.le_of_ble_eq_true rfl) rfl dX5_lookBehind_93 ?_
    rw [sp_num_e h1 h2 h6 (by omega)]
    refine am_iload rfl dX5_lookBehind_96 ?_
    refine am_iload rfl dX5_lookBehind_98 ?_
    refine am_callV (c_X5_find_7 ad N B (sx v a) (t + 1) (s + x / 9) hRC hok hix.1 (by omega) (by omega)) okX5_find ml_X5_70 (by decide) rfl rfl rfl ⟨by decide, by decide⟩ (Nat.le_of_ble_eq_true rfl) rfl dX5_lookBehind_100 (fun r100 N100 p100 => ?_)
    obtain ⟨rfl, hRC1, hfr1⟩ := p100
    refine am_iinc rfl rfl (by decide) dX5_lookBehind_103 ?_
    refine am_goto (tgt := 81) (by decide) dX5_lookBehind_106 ?_
    exact am_eq (by rw [iN_inc]; rfl) rfl rfl (ih (a + 1) _ _ (by omega) (by omega) hRC1 (sl_push_ok hok hix.1 hd1.2.1 (by omega)) ((sl_push_le B _ _ _).2.2.2 x t s hd (by omega)) (hf.tr hfr1) he)
set_option maxRecDepth 100000 in
set_option maxHeartbeats 400000 in
theorem c_X5_lookBehind_7 (ad : Nat → Nat) (M : am_M) (B : sl_B) (x t s : Nat) (sb : Bool) (hR : am_RI M) (hsb : M 7 0 = bI sb) (hRC : sl_RC 7 M B) (hok : sl_ok B) (hx : x < 117) (hd : B.1 x = some (t, s)) : am_C ydX5_lookBehind ad am_II [.ref (ad 7), .ref (ad 1), .int (nI x)] M (fun r N => r = none ∧ sl_RC 7 N (sl_proc (am_V M) (am_Ac M) (am_J M) (am_E M sb) B x) ∧ sl_fr 7 M N) := by
  have hw := sl_wb hx
  have hxx : sx (sl_w x) (sl_b x) = x := by
    unfold sx sl_w sl_b
    omega
  have htk : M 8 (sx (sl_w x) (sl_b x)) = nI t := by
    rw [hxx, hRC.1 x hx, hd]
    rfl
  have hsk : M 9 (sx (sl_w x) (sl_b x)) = nI s := by
    rw [hxx]
    exact hRC.2.1 x t s hd
  have hsp := am_speed_iff (M := M) (v := sl_w x - sl_b x) (by omega) (by omega)
  refine am_ofW (L := [some (.ref (ad 7)), some (.ref (ad 1)), some (.int (nI x)), none, none, none, none, none, none, none]) (by decide +kernel) (by simp [Value.category]) (Nat.le_of_ble_eq_true rfl) rfl ?_
  refine am_iload_n rfl dX5_lookBehind_0 ?_
  refine am_bipush (v := 9) (by decide) dX5_lookBehind_1 ?_
  refine am_idiv (by decide) dX5_lookBehind_3 ?_
  rw [sl_we hx]
  refine am_istore_n (by decide) dX5_lookBehind_4 ?_
  refine am_iload_n rfl dX5_lookBehind_5 ?_
  refine am_bipush (v := 9) (by decide) dX5_lookBehind_6 ?_
  refine am_irem (by decide) dX5_lookBehind_8 ?_
  refine am_iconst (v := 4) (by decide) dX5_lookBehind_9 ?_
  refine am_isub dX5_lookBehind_10 ?_
  rw [← sl_we hx, sl_be hx, sl_we hx]
  refine am_istore (by decide) dX5_lookBehind_11 ?_
  refine am_iload_n rfl dX5_lookBehind_13 ?_
  refine am_iload rfl dX5_lookBehind_14 ?_
  refine am_isub dX5_lookBehind_16 ?_
  rw [iN_sub]
  refine am_istore (by decide) dX5_lookBehind_17 ?_
  refine am_aload_n rfl dX5_lookBehind_19 ?_
  refine am_iload rfl dX5_lookBehind_20 ?_
  refine am_callVi (c_X4_isSpeed ad M (iN (sl_w x - sl_b x))) okX4_isSpeed ml_X5_78 (by decide) rfl rfl rfl ⟨by decide, by decide⟩ (Nat.le_of_ble_eq_true rfl) rfl dX5_lookBehind_22 ?_
  refine am_ifb_eq (tgt := 42) (by decide) dX5_lookBehind_25 (fun h25 => ?_) (fun h25 => ?_)
  · refine am_vret rfl dX5_lookBehind_42 ?_
    have hs9 : sl_stop (am_V M) (am_E M sb) x := by
      first
      | (exact Or.inr (Or.inr h39))
      | (refine Classical.byContradiction fun q => ?_
         have q2 : ¬ (sl_w x - sl_b x < 0) ∧ ¬ (am_V M < sl_w x - sl_b x) := ⟨fun z => q (Or.inl z), fun z => q (Or.inr (Or.inl z))⟩
         have q3 := hsp.mpr (by omega)
         rw [q3] at h25
         cases h25)
    unfold sl_proc
    rw [if_pos hs9]
    exact ⟨rfl, hRC, sl_fr.rf 7 M⟩
  · refine am_aload_n rfl dX5_lookBehind_28 ?_
    refine am_iload_n rfl dX5_lookBehind_29 ?_
    refine am_iload rfl dX5_lookBehind_30 ?_
    refine am_aload_n rfl dX5_lookBehind_32 ?_
    refine am_geti (j := 0) (by decide) rfl rfl rfl hTX5 (by decide) fl_X5_28 dX5_lookBehind_33 ?_
    rw [hsb]
    refine am_callVi (c_X4_mayEnd ad M (iN (sl_w x)) (iN (sl_b x)) sb) okX4_mayEnd ml_X5_55 (by decide) rfl rfl rfl ⟨by decide, by decide⟩ (Nat.le_of_ble_eq_true rfl) rfl dX5_lookBehind_36 ?_
    refine am_ifb_ne (tgt := 43) (by decide) dX5_lookBehind_39 (fun h39 => ?_) (fun h39 => ?_)
    · refine am_aload_n rfl dX5_lookBehind_43 ?_
      refine am_iload_n rfl dX5_lookBehind_44 ?_
      refine am_iload rfl dX5_lookBehind_45 ?_
      refine am_callVi (c_X5_ticksFrom_7 ad M (sl_w x) (sl_b x) hw.1 hw.2.1 hw.2.2.1 hw.2.2.2) okX5_ticksFrom ml_X5_40 (by decide) rfl rfl rfl ⟨by decide, by decide⟩ (Nat.le_of_ble_eq_true rfl) rfl dX5_lookBehind_47 ?_
      rw [htk]
      refine am_iconst (v := 1) (by decide) dX5_lookBehind_50 ?_
      refine am_iadd dX5_lookBehind_51 ?_
      rw [show nI t + 1 = nI (t + 1) from nI_1 t]
      refine am_istore (by decide) dX5_lookBehind_52 ?_
      refine am_aload_n rfl dX5_lookBehind_54 ?_
      refine am_iload_n rfl dX5_lookBehind_55 ?_
      refine am_iload rfl dX5_lookBehind_56 ?_
      refine am_callVi (c_X5_stepsFrom_7 ad M (sl_w x) (sl_b x) hw.1 hw.2.1 hw.2.2.1 hw.2.2.2) okX5_stepsFrom ml_X5_43 (by decide) rfl rfl rfl ⟨by decide, by decide⟩ (Nat.le_of_ble_eq_true rfl) rfl dX5_lookBehind_58 ?_
      rw [hsk]
      refine am_iload_n rfl dX5_lookBehind_61 ?_
      refine am_iadd dX5_lookBehind_62 ?_
      rw [sl_stepe]
      refine am_istore (by decide) dX5_lookBehind_63 ?_
      refine am_aload_n rfl dX5_lookBehind_65 ?_
      refine am_iload rfl dX5_lookBehind_66 ?_
      refine am_callVi (c_X4_mostBeside ad _ _) okX4_mostBeside ml_X5_52 (by decide) rfl rfl rfl ⟨by decide, by decide⟩ (Nat.le_of_ble_eq_true rfl) rfl dX5_lookBehind_68 ?_
      rw [am_most_e hR hw.2.2.1 hw.2.2.2]
      refine am_istore (by decide) dX5_lookBehind_71 ?_
      refine am_aload_n rfl dX5_lookBehind_73 ?_
      refine am_iload rfl dX5_lookBehind_74 ?_
      refine am_callVi (c_X4_leastBeside ad _ _) okX4_leastBeside ml_X5_46 (by decide) rfl rfl rfl ⟨by decide, by decide⟩ (Nat.le_of_ble_eq_true rfl) rfl dX5_lookBehind_76 ?_
      rw [am_least_e hR hw.2.2.1 hw.2.2.2]
      refine am_istore (by decide) dX5_lookBehind_79 ?_
      have hsp2 := hsp.mp h25
      have hns : ¬ sl_stop (am_V M) (am_E M sb) x := by
        rintro (q | q | q)
        · omega
        · omega
        · exact absurd (q.symm.trans (show am_E M sb (sl_w x) (sl_b x) = true from h39)) (by decide)
      have hst := (am_state_iff hR (v := sl_w x) (a := sl_b x) (by omega) (by omega) (by omega) (by omega)).mp (by
        have h7 : sp_mayEnd M (iN (sl_w x)) (iN (sl_b x)) sb = true := h39
        simp only [sp_mayEnd, decide_eq_true_eq] at h7
        exact h7.1)
      have hq : am_V M = (M 1 0).toInt ∧ am_Ac M = (M 1 1).toInt ∧ am_J M = (M 1 2).toInt := ⟨rfl, rfl, rfl⟩
      have hq2 := hR
      unfold am_RI at hq2
      have hlh := bf_lohi (A := am_Ac M) (J := am_J M) (b := sl_b x) (by omega) (by omega) (by omega) (by omega)
      unfold sl_proc
      rw [if_neg hns, hd]
      refine lp_X5_look_7 ad M x t s hx _ _ _ (by omega) (by omega) (by omega) (bf_n (am_Ac M) (am_J M) (sl_b x)) _ _ _ (by unfold bf_n; omega) (by omega) hRC hok hd (sl_fr.rf 7 M) rfl
    · refine am_vret rfl dX5_lookBehind_42 ?_
      have hs9 : sl_stop (am_V M) (am_E M sb) x := by
        first
        | (exact Or.inr (Or.inr h39))
        | (refine Classical.byContradiction fun q => ?_
           have q2 : ¬ (sl_w x - sl_b x < 0) ∧ ¬ (am_V M < sl_w x - sl_b x) := ⟨fun z => q (Or.inl z), fun z => q (Or.inr (Or.inl z))⟩
           have q3 := hsp.mpr (by omega)
           rw [q3] at h25
           cases h25)
      unfold sl_proc
      rw [if_pos hs9]
      exact ⟨rfl, hRC, sl_fr.rf 7 M⟩
def sl_cb_7 (M : am_M) (v a : Int) : Int → Bool := fun b => sp_mayEnd M (iN (v + b)) (iN b) (decide (¬ M 7 0 = 0)) && decide (M 8 (sx (v + b) b) = M 8 (sx v a) - 1) && decide (M 9 (sx (v + b) b) + iN (v + b) = M 9 (sx v a))
def sl_nc_7 (M : am_M) (v a : Int) : Int := if M 8 (sx v a) < 1 then 5 else rn_s (sl_cb_7 M v a) (bf_n (am_Ac M) (am_J M) a) (bf_hi (am_Ac M) (am_J M) a)
theorem sl_flag_7 {M : am_M} (h : M 7 0 = 0 ∨ M 7 0 = 1) : M 7 0 = bI (decide (¬ M 7 0 = 0)) := by
  rcases h with h | h <;> simp [h, bI]
set_option maxRecDepth 100000 in
set_option maxHeartbeats 400000 in
theorem lp_X5_nc_7 (ad : Nat → Nat) (M : am_M) (hR : am_RI M) (h01 : M 7 0 = 0 ∨ M 7 0 = 1) (v a : Int) (h1 : 0 ≤ v) (h2 : v ≤ 12) (h3 : -4 ≤ a) (h4 : a ≤ 4)  (lo R : Int) (hlo : -4 ≤ lo) (hlo2 : lo ≤ 8) : ∀ (n : Nat) (b : Int) (nr : Option Value), (b + 1 = lo + n ∨ (n = 0 ∧ b < lo)) → b ≤ 4 → -10 ≤ b → rn_s (sl_cb_7 M v a) n b = R → am_W ydX5_nextChange ad am_II (am_is (iN R) M) 38 [some (.ref (ad 7)), some (.ref (ad 1)), some (.int (iN v)), some (.int (iN a)), some (.int (M 8 (sx v a))), some (.int (M 9 (sx v a))), some (.int (iN lo)), some (.int (iN b)), nr] [] M := by
  intro n
  induction n with
  | zero =>
    intro b nr hb hb4 hb5 he
    refine am_iload rfl dX5_nextChange_38 ?_
    refine am_iload rfl dX5_nextChange_40 ?_
    refine am_icmp_lt (tgt := 106) (by decide) dX5_nextChange_42 (fun h => ?_) (fun h => (by exfalso; simp only [Int32.lt_iff_toInt_lt, iN_e] at h; omega))
    rw [rn_s] at he
    subst he
    refine am_iconst (v := 5) (by decide) dX5_nextChange_106 ?_
    refine am_iret rfl dX5_nextChange_107 ?_
    exact ⟨rfl, rfl⟩
  | succ n ih =>
    intro b nr hb hb4 hb5 he
    rw [rn_s] at he
    refine am_iload rfl dX5_nextChange_38 ?_
    refine am_iload rfl dX5_nextChange_40 ?_
    refine am_icmp_lt (tgt := 106) (by decide) dX5_nextChange_42 (fun h => (by exfalso; simp only [Int32.lt_iff_toInt_lt, iN_e] at h; omega)) (fun h => ?_)
    have hst := am_state_iff hR (v := v + b) (a := b) (by omega) (by omega) (by omega) (by omega)
    have hq : am_V M = (M 1 0).toInt ∧ am_Ac M = (M 1 1).toInt ∧ am_J M = (M 1 2).toInt := ⟨rfl, rfl, rfl⟩
    have hq2 := hR
    unfold am_RI at hq2
    refine am_iload_n rfl dX5_nextChange_45 ?_
    refine am_iload rfl dX5_nextChange_46 ?_
    refine am_iadd dX5_nextChange_48 ?_
    rw [iN_add]
    refine am_istore (by decide) dX5_nextChange_49 ?_
    refine am_aload_n rfl dX5_nextChange_51 ?_
    refine am_iload rfl dX5_nextChange_52 ?_
    refine am_iload rfl dX5_nextChange_54 ?_
    refine am_aload_n rfl dX5_nextChange_56 ?_
    refine am_geti (j := 0) (by decide) rfl rfl rfl hTX5 (by decide) fl_X5_28 dX5_nextChange_57 ?_
    rw [sl_flag_7 h01]
    refine am_callVi (c_X4_mayEnd ad M (iN (v + b)) (iN b) (decide (¬ M 7 0 = 0))) okX4_mayEnd ml_X5_55 (by decide) rfl rfl rfl ⟨by decide, by decide⟩ (Nat.le_of_ble_eq_true rfl) rfl dX5_nextChange_60 ?_
    refine am_ifb_eq (tgt := 100) (by decide) dX5_nextChange_63 (fun h63 => ?_) (fun h63 => ?_)
    · have hng : ¬ sl_cb_7 M v a b = true := fun q => by
        unfold sl_cb_7 at q
        rw [Bool.and_eq_true, Bool.and_eq_true, decide_eq_true_eq, decide_eq_true_eq] at q
        first | exact h94 q.2 | exact h78 q.1.2 | (rw [q.1.1] at h63; cases h63)
      rw [if_neg hng] at he
      refine am_iinc rfl rfl (by decide) dX5_nextChange_100 ?_
      refine am_goto (tgt := 38) (by decide) dX5_nextChange_103 ?_
      exact am_eq (by rw [iN_dec]; rfl) rfl rfl (ih (b - 1) _ (by omega) (by omega) (by omega) he)
    · have hv := hst.mp (by have h7 := h63; simp only [sp_mayEnd, decide_eq_true_eq] at h7; exact h7.1)
      refine am_aload_n rfl dX5_nextChange_66 ?_
      refine am_iload rfl dX5_nextChange_67 ?_
      refine am_iload rfl dX5_nextChange_69 ?_
      refine am_callVi (c_X5_ticksFrom_7 ad M (v + b) b hv.1.1 (by omega) (by omega) (by omega)) okX5_ticksFrom ml_X5_40 (by decide) rfl rfl rfl ⟨by decide, by decide⟩ (Nat.le_of_ble_eq_true rfl) rfl dX5_nextChange_71 ?_
      refine am_iload rfl dX5_nextChange_74 ?_
      refine am_iconst (v := 1) (by decide) dX5_nextChange_76 ?_
      refine am_isub dX5_nextChange_77 ?_
      refine am_icmp_ne (tgt := 100) (by decide) dX5_nextChange_78 (fun h78 => ?_) (fun h78 => ?_)
      · have hng : ¬ sl_cb_7 M v a b = true := fun q => by
          unfold sl_cb_7 at q
          rw [Bool.and_eq_true, Bool.and_eq_true, decide_eq_true_eq, decide_eq_true_eq] at q
          first | exact h94 q.2 | exact h78 q.1.2 | (rw [q.1.1] at h63; cases h63)
        rw [if_neg hng] at he
        refine am_iinc rfl rfl (by decide) dX5_nextChange_100 ?_
        refine am_goto (tgt := 38) (by decide) dX5_nextChange_103 ?_
        exact am_eq (by rw [iN_dec]; rfl) rfl rfl (ih (b - 1) _ (by omega) (by omega) (by omega) he)
      · refine am_aload_n rfl dX5_nextChange_81 ?_
        refine am_iload rfl dX5_nextChange_82 ?_
        refine am_iload rfl dX5_nextChange_84 ?_
        refine am_callVi (c_X5_stepsFrom_7 ad M (v + b) b hv.1.1 (by omega) (by omega) (by omega)) okX5_stepsFrom ml_X5_43 (by decide) rfl rfl rfl ⟨by decide, by decide⟩ (Nat.le_of_ble_eq_true rfl) rfl dX5_nextChange_86 ?_
        refine am_iload rfl dX5_nextChange_89 ?_
        refine am_iadd dX5_nextChange_91 ?_
        refine am_iload rfl dX5_nextChange_92 ?_
        refine am_icmp_ne (tgt := 100) (by decide) dX5_nextChange_94 (fun h94 => ?_) (fun h94 => ?_)
        · have hng : ¬ sl_cb_7 M v a b = true := fun q => by
            unfold sl_cb_7 at q
            rw [Bool.and_eq_true, Bool.and_eq_true, decide_eq_true_eq, decide_eq_true_eq] at q
            first | exact h94 q.2 | exact h78 q.1.2 | (rw [q.1.1] at h63; cases h63)
          rw [if_neg hng] at he
          refine am_iinc rfl rfl (by decide) dX5_nextChange_100 ?_
          refine am_goto (tgt := 38) (by decide) dX5_nextChange_103 ?_
          exact am_eq (by rw [iN_dec]; rfl) rfl rfl (ih (b - 1) _ (by omega) (by omega) (by omega) he)
        · refine am_iload rfl dX5_nextChange_97 ?_
          refine am_iret rfl dX5_nextChange_99 ?_
          rw [if_pos (by unfold sl_cb_7; rw [Bool.and_eq_true, Bool.and_eq_true, decide_eq_true_eq, decide_eq_true_eq]; exact ⟨⟨h63, h78⟩, h94⟩)] at he
          subst he
          exact ⟨rfl, rfl⟩
set_option maxRecDepth 100000 in
set_option maxHeartbeats 400000 in
theorem c_X5_nextChange_7 (ad : Nat → Nat) (M : am_M) (v a : Int) (hR : am_RI M) (h01 : M 7 0 = 0 ∨ M 7 0 = 1) (h1 : 0 ≤ v) (h2 : v ≤ 12) (h3 : -4 ≤ a) (h4 : a ≤ 4) : am_C ydX5_nextChange ad am_II [.ref (ad 7), .ref (ad 1), .int (iN v), .int (iN a)] M (am_is (iN (sl_nc_7 M v a)) M) := by
  refine am_ofW (L := [some (.ref (ad 7)), some (.ref (ad 1)), some (.int (iN v)), some (.int (iN a)), none, none, none, none, none]) (by decide +kernel) (by simp [Value.category]) (Nat.le_of_ble_eq_true rfl) rfl ?_
  refine am_aload_n rfl dX5_nextChange_0 ?_
  refine am_iload_n rfl dX5_nextChange_1 ?_
  refine am_iload_n rfl dX5_nextChange_2 ?_
  refine am_callVi (c_X5_ticksFrom_7 ad M v a h1 h2 h3 h4) okX5_ticksFrom ml_X5_40 (by decide) rfl rfl rfl ⟨by decide, by decide⟩ (Nat.le_of_ble_eq_true rfl) rfl dX5_nextChange_3 ?_
  refine am_istore (by decide) dX5_nextChange_6 ?_
  refine am_iload rfl dX5_nextChange_8 ?_
  refine am_iconst (v := 1) (by decide) dX5_nextChange_10 ?_
  refine am_icmp_ge (tgt := 16) (by decide) dX5_nextChange_11 (fun h11 => ?_) (fun h11 => ?_)
  · refine am_aload_n rfl dX5_nextChange_16 ?_
    refine am_iload_n rfl dX5_nextChange_17 ?_
    refine am_iload_n rfl dX5_nextChange_18 ?_
    refine am_callVi (c_X5_stepsFrom_7 ad M v a h1 h2 h3 h4) okX5_stepsFrom ml_X5_43 (by decide) rfl rfl rfl ⟨by decide, by decide⟩ (Nat.le_of_ble_eq_true rfl) rfl dX5_nextChange_19 ?_
    refine am_istore (by decide) dX5_nextChange_22 ?_
    refine am_aload_n rfl dX5_nextChange_24 ?_
    refine am_iload_n rfl dX5_nextChange_25 ?_
    refine am_callVi (c_X4_leastBeside ad _ _) okX4_leastBeside ml_X5_46 (by decide) rfl rfl rfl ⟨by decide, by decide⟩ (Nat.le_of_ble_eq_true rfl) rfl dX5_nextChange_26 ?_
    rw [am_least_e hR h3 h4]
    refine am_istore (by decide) dX5_nextChange_29 ?_
    refine am_aload_n rfl dX5_nextChange_31 ?_
    refine am_iload_n rfl dX5_nextChange_32 ?_
    refine am_callVi (c_X4_mostBeside ad _ _) okX4_mostBeside ml_X5_52 (by decide) rfl rfl rfl ⟨by decide, by decide⟩ (Nat.le_of_ble_eq_true rfl) rfl dX5_nextChange_33 ?_
    rw [am_most_e hR h3 h4]
    refine am_istore (by decide) dX5_nextChange_36 ?_
    have hq : am_Ac M = (M 1 1).toInt ∧ am_J M = (M 1 2).toInt := ⟨rfl, rfl⟩
    have hq2 := hR
    unfold am_RI at hq2
    unfold sl_nc_7
    rw [if_neg (Int32.not_lt.mpr h11)]
    have hb1 : -4 ≤ bf_lo (am_Ac M) (am_J M) a := by unfold bf_lo; omega
    have hb0 : bf_lo (am_Ac M) (am_J M) a ≤ 8 := by unfold bf_lo; omega
    have hb7 : -10 ≤ bf_hi (am_Ac M) (am_J M) a := by unfold bf_hi; omega
    have hb2 : bf_hi (am_Ac M) (am_J M) a ≤ 4 := by unfold bf_hi; omega
    exact lp_X5_nc_7 ad M hR h01 v a h1 h2 h3 h4 _ _ hb1 hb0 (bf_n (am_Ac M) (am_J M) a) _ _ (by unfold bf_n; omega) hb2 hb7 rfl
  · refine am_iconst (v := 5) (by decide) dX5_nextChange_14 ?_
    refine am_iret rfl dX5_nextChange_15 ?_
    refine am_isE ?_
    unfold sl_nc_7
    rw [if_pos (Int32.not_le.mp h11)]
    rfl
set_option maxRecDepth 100000 in
set_option maxHeartbeats 400000 in
theorem c_X5_ticksFrom_11 (ad : Nat → Nat) (M : am_M) (v a : Int) (h1 : 0 ≤ v) (h2 : v ≤ 12) (h3 : -4 ≤ a) (h4 : a ≤ 4) : am_C ydX5_ticksFrom ad am_II [.ref (ad 11), .int (iN v), .int (iN a)] M (am_is (M 12 (sx v a)) M) := by
  refine am_ofW (L := [some (.ref (ad 11)), some (.int (iN v)), some (.int (iN a)), none]) (by decide +kernel) (by simp [Value.category]) (Nat.le_of_ble_eq_true rfl) rfl ?_
  refine am_iload_n rfl dX5_ticksFrom_0 ?_
  refine am_iload_n rfl dX5_ticksFrom_1 ?_
  refine am_callNi (c_X6_stateNumber ad _ _ _) okX6_stateNumber ml_X5_32 rfl ⟨by decide, by decide⟩ (Nat.le_of_ble_eq_true rfl) rfl dX5_ticksFrom_2 ?_
  rw [sp_num_e h1 h2 h3 h4]
  have hlt := (sx_lt h1 h2 h3 h4).1
  have hvp : vp_in (nI (sx v a)) 117 := vp_in_nI hlt (by omega)
  refine am_istore_n (by decide) dX5_ticksFrom_5 ?_
  refine am_aload_n rfl dX5_ticksFrom_6 ?_
  refine am_getr (j := 1) (by decide) rfl rfl rfl hTX5 (by decide) fl_X5_9 dX5_ticksFrom_7 ?_
  refine am_iload_n rfl dX5_ticksFrom_10 ?_
  refine am_callNi (c_X6_isIndexOf ad M 12 117 (nI (sx v a)) (by decide) rfl (by decide) hvp) okX6_isIndexOf ml_X5_36 rfl ⟨by decide, by decide⟩ (Nat.le_of_ble_eq_true rfl) rfl dX5_ticksFrom_11 ?_
  refine am_ifb_eq (tgt := 26) (by decide) dX5_ticksFrom_14 (fun h14 => ?_) (fun h14 => ?_)
  · cases h14
  · refine am_aload_n rfl dX5_ticksFrom_17 ?_
    refine am_getr (j := 1) (by decide) rfl rfl rfl hTX5 (by decide) fl_X5_9 dX5_ticksFrom_18 ?_
    refine am_iload_n rfl dX5_ticksFrom_21 ?_
    refine am_iald (by decide) rfl (hvp) dX5_ticksFrom_22 ?_
    refine am_goto (tgt := 27) (by decide) dX5_ticksFrom_23 ?_
    refine am_iret rfl dX5_ticksFrom_27 ?_
    refine am_isE ?_
    rw [nI_clamp (by omega)]
set_option maxRecDepth 100000 in
set_option maxHeartbeats 400000 in
theorem c_X5_stepsFrom_11 (ad : Nat → Nat) (M : am_M) (v a : Int) (h1 : 0 ≤ v) (h2 : v ≤ 12) (h3 : -4 ≤ a) (h4 : a ≤ 4) : am_C ydX5_stepsFrom ad am_II [.ref (ad 11), .int (iN v), .int (iN a)] M (am_is (M 13 (sx v a)) M) := by
  refine am_ofW (L := [some (.ref (ad 11)), some (.int (iN v)), some (.int (iN a)), none]) (by decide +kernel) (by simp [Value.category]) (Nat.le_of_ble_eq_true rfl) rfl ?_
  refine am_iload_n rfl dX5_stepsFrom_0 ?_
  refine am_iload_n rfl dX5_stepsFrom_1 ?_
  refine am_callNi (c_X6_stateNumber ad _ _ _) okX6_stateNumber ml_X5_32 rfl ⟨by decide, by decide⟩ (Nat.le_of_ble_eq_true rfl) rfl dX5_stepsFrom_2 ?_
  rw [sp_num_e h1 h2 h3 h4]
  have hlt := (sx_lt h1 h2 h3 h4).1
  have hvp : vp_in (nI (sx v a)) 117 := vp_in_nI hlt (by omega)
  refine am_istore_n (by decide) dX5_stepsFrom_5 ?_
  refine am_aload_n rfl dX5_stepsFrom_6 ?_
  refine am_getr (j := 2) (by decide) rfl rfl rfl hTX5 (by decide) fl_X5_15 dX5_stepsFrom_7 ?_
  refine am_iload_n rfl dX5_stepsFrom_10 ?_
  refine am_callNi (c_X6_isIndexOf ad M 13 117 (nI (sx v a)) (by decide) rfl (by decide) hvp) okX6_isIndexOf ml_X5_36 rfl ⟨by decide, by decide⟩ (Nat.le_of_ble_eq_true rfl) rfl dX5_stepsFrom_11 ?_
  refine am_ifb_eq (tgt := 26) (by decide) dX5_stepsFrom_14 (fun h14 => ?_) (fun h14 => ?_)
  · cases h14
  · refine am_aload_n rfl dX5_stepsFrom_17 ?_
    refine am_getr (j := 2) (by decide) rfl rfl rfl hTX5 (by decide) fl_X5_15 dX5_stepsFrom_18 ?_
    refine am_iload_n rfl dX5_stepsFrom_21 ?_
    refine am_iald (by decide) rfl (hvp) dX5_stepsFrom_22 ?_
    refine am_goto (tgt := 27) (by decide) dX5_stepsFrom_23 ?_
    refine am_iret rfl dX5_stepsFrom_27 ?_
    refine am_isE ?_
    rw [nI_clamp (by omega)]
set_option maxRecDepth 100000 in
set_option maxHeartbeats 400000 in
theorem lp_X5_look_11 (ad : Nat → Nat) (M : am_M) (x t s : Nat) (hx : x < 117) (v hi : Int) (BF : sl_B) (h1 : 0 ≤ v) (h2 : v ≤ 12) (h5 : hi ≤ 4) : ∀ (n : Nat) (a : Int) (N : am_M) (B : sl_B), a + n = hi + 1 → -4 ≤ a → sl_RC 11 N B → sl_ok B → B.1 x = some (t, s) → sl_fr 11 M N → sl_fold (fun a => sx v a) (t + 1) (s + x / 9) n a B = BF → am_W ydX5_lookBehind ad am_II (fun r N => r = none ∧ sl_RC 11 N BF ∧ sl_fr 11 M N) 81 [some (.ref (ad 11)), some (.ref (ad 1)), some (.int (nI x)), some (.int (iN (sl_w x))), some (.int (iN (sl_b x))), some (.int (iN v)), some (.int (nI (t + 1))), some (.int (nI (s + x / 9))), some (.int (iN hi)), some (.int (iN a))] [] N := by
  intro n
  induction n with
  | zero =>
    intro a N B ha h6 hRC hok hd hf he
    refine am_iload rfl dX5_lookBehind_81 ?_
    refine am_iload rfl dX5_lookBehind_83 ?_
    refine am_icmp_gt (tgt := 109) (by decide) dX5_lookBehind_85 (fun h => ?_) (fun h => (by exfalso; simp only [Int32.lt_iff_toInt_lt, iN_e] at h; omega))
    refine am_vret rfl dX5_lookBehind_109 ?_
    rw [sl_fold] at he
    subst he
    exact ⟨rfl, hRC, hf⟩
  | succ n ih =>
    intro a N B ha h6 hRC hok hd hf he
    have hix := sx_lt h1 h2 h6 (show a ≤ 4 by omega)
    have hd1 := hok.small hd
    rw [sl_fold] at he
    refine am_iload rfl dX5_lookBehind_81 ?_
    refine am_iload rfl dX5_lookBehind_83 ?_
    refine am_icmp_gt (tgt := 109) (by decide) dX5_lookBehind_85 (fun h => (by exfalso; simp only [Int32.lt_iff_toInt_lt, iN_e] at h; omega)) (fun h => ?_)
    refine am_aload_n rfl dX5_lookBehind_88 ?_
    refine am_iload rfl dX5_lookBehind_89 ?_
    refine am_iload rfl dX5_lookBehind_91 ?_
    refine am_callNi (c_X6_stateNumber ad _ _ _) okX6_stateNumber ml_X5_32 rfl ⟨by decide, by decide⟩ (Nat.le_of_ble_eq_true rfl) rfl dX5_lookBehind_93 ?_
    rw [sp_num_e h1 h2 h6 (by omega)]
    refine am_iload rfl dX5_lookBehind_96 ?_
    refine am_iload rfl dX5_lookBehind_98 ?_
    refine am_callV (c_X5_find_11 ad N B (sx v a) (t + 1) (s + x / 9) hRC hok hix.1 (by omega) (by omega)) okX5_find ml_X5_70 (by decide) rfl rfl rfl ⟨by decide, by decide⟩ (Nat.le_of_ble_eq_true rfl) rfl dX5_lookBehind_100 (fun r100 N100 p100 => ?_)
    obtain ⟨rfl, hRC1, hfr1⟩ := p100
    refine am_iinc rfl rfl (by decide) dX5_lookBehind_103 ?_
    refine am_goto (tgt := 81) (by decide) dX5_lookBehind_106 ?_
    exact am_eq (by rw [iN_inc]; rfl) rfl rfl (ih (a + 1) _ _ (by omega) (by omega) hRC1 (sl_push_ok hok hix.1 hd1.2.1 (by omega)) ((sl_push_le B _ _ _).2.2.2 x t s hd (by omega)) (hf.tr hfr1) he)
set_option maxRecDepth 100000 in
set_option maxHeartbeats 400000 in
theorem c_X5_lookBehind_11 (ad : Nat → Nat) (M : am_M) (B : sl_B) (x t s : Nat) (sb : Bool) (hR : am_RI M) (hsb : M 11 0 = bI sb) (hRC : sl_RC 11 M B) (hok : sl_ok B) (hx : x < 117) (hd : B.1 x = some (t, s)) : am_C ydX5_lookBehind ad am_II [.ref (ad 11), .ref (ad 1), .int (nI x)] M (fun r N => r = none ∧ sl_RC 11 N (sl_proc (am_V M) (am_Ac M) (am_J M) (am_E M sb) B x) ∧ sl_fr 11 M N) := by
  have hw := sl_wb hx
  have hxx : sx (sl_w x) (sl_b x) = x := by
    unfold sx sl_w sl_b
    omega
  have htk : M 12 (sx (sl_w x) (sl_b x)) = nI t := by
    rw [hxx, hRC.1 x hx, hd]
    rfl
  have hsk : M 13 (sx (sl_w x) (sl_b x)) = nI s := by
    rw [hxx]
    exact hRC.2.1 x t s hd
  have hsp := am_speed_iff (M := M) (v := sl_w x - sl_b x) (by omega) (by omega)
  refine am_ofW (L := [some (.ref (ad 11)), some (.ref (ad 1)), some (.int (nI x)), none, none, none, none, none, none, none]) (by decide +kernel) (by simp [Value.category]) (Nat.le_of_ble_eq_true rfl) rfl ?_
  refine am_iload_n rfl dX5_lookBehind_0 ?_
  refine am_bipush (v := 9) (by decide) dX5_lookBehind_1 ?_
  refine am_idiv (by decide) dX5_lookBehind_3 ?_
  rw [sl_we hx]
  refine am_istore_n (by decide) dX5_lookBehind_4 ?_
  refine am_iload_n rfl dX5_lookBehind_5 ?_
  refine am_bipush (v := 9) (by decide) dX5_lookBehind_6 ?_
  refine am_irem (by decide) dX5_lookBehind_8 ?_
  refine am_iconst (v := 4) (by decide) dX5_lookBehind_9 ?_
  refine am_isub dX5_lookBehind_10 ?_
  rw [← sl_we hx, sl_be hx, sl_we hx]
  refine am_istore (by decide) dX5_lookBehind_11 ?_
  refine am_iload_n rfl dX5_lookBehind_13 ?_
  refine am_iload rfl dX5_lookBehind_14 ?_
  refine am_isub dX5_lookBehind_16 ?_
  rw [iN_sub]
  refine am_istore (by decide) dX5_lookBehind_17 ?_
  refine am_aload_n rfl dX5_lookBehind_19 ?_
  refine am_iload rfl dX5_lookBehind_20 ?_
  refine am_callVi (c_X4_isSpeed ad M (iN (sl_w x - sl_b x))) okX4_isSpeed ml_X5_78 (by decide) rfl rfl rfl ⟨by decide, by decide⟩ (Nat.le_of_ble_eq_true rfl) rfl dX5_lookBehind_22 ?_
  refine am_ifb_eq (tgt := 42) (by decide) dX5_lookBehind_25 (fun h25 => ?_) (fun h25 => ?_)
  · refine am_vret rfl dX5_lookBehind_42 ?_
    have hs9 : sl_stop (am_V M) (am_E M sb) x := by
      first
      | (exact Or.inr (Or.inr h39))
      | (refine Classical.byContradiction fun q => ?_
         have q2 : ¬ (sl_w x - sl_b x < 0) ∧ ¬ (am_V M < sl_w x - sl_b x) := ⟨fun z => q (Or.inl z), fun z => q (Or.inr (Or.inl z))⟩
         have q3 := hsp.mpr (by omega)
         rw [q3] at h25
         cases h25)
    unfold sl_proc
    rw [if_pos hs9]
    exact ⟨rfl, hRC, sl_fr.rf 11 M⟩
  · refine am_aload_n rfl dX5_lookBehind_28 ?_
    refine am_iload_n rfl dX5_lookBehind_29 ?_
    refine am_iload rfl dX5_lookBehind_30 ?_
    refine am_aload_n rfl dX5_lookBehind_32 ?_
    refine am_geti (j := 0) (by decide) rfl rfl rfl hTX5 (by decide) fl_X5_28 dX5_lookBehind_33 ?_
    rw [hsb]
    refine am_callVi (c_X4_mayEnd ad M (iN (sl_w x)) (iN (sl_b x)) sb) okX4_mayEnd ml_X5_55 (by decide) rfl rfl rfl ⟨by decide, by decide⟩ (Nat.le_of_ble_eq_true rfl) rfl dX5_lookBehind_36 ?_
    refine am_ifb_ne (tgt := 43) (by decide) dX5_lookBehind_39 (fun h39 => ?_) (fun h39 => ?_)
    · refine am_aload_n rfl dX5_lookBehind_43 ?_
      refine am_iload_n rfl dX5_lookBehind_44 ?_
      refine am_iload rfl dX5_lookBehind_45 ?_
      refine am_callVi (c_X5_ticksFrom_11 ad M (sl_w x) (sl_b x) hw.1 hw.2.1 hw.2.2.1 hw.2.2.2) okX5_ticksFrom ml_X5_40 (by decide) rfl rfl rfl ⟨by decide, by decide⟩ (Nat.le_of_ble_eq_true rfl) rfl dX5_lookBehind_47 ?_
      rw [htk]
      refine am_iconst (v := 1) (by decide) dX5_lookBehind_50 ?_
      refine am_iadd dX5_lookBehind_51 ?_
      rw [show nI t + 1 = nI (t + 1) from nI_1 t]
      refine am_istore (by decide) dX5_lookBehind_52 ?_
      refine am_aload_n rfl dX5_lookBehind_54 ?_
      refine am_iload_n rfl dX5_lookBehind_55 ?_
      refine am_iload rfl dX5_lookBehind_56 ?_
      refine am_callVi (c_X5_stepsFrom_11 ad M (sl_w x) (sl_b x) hw.1 hw.2.1 hw.2.2.1 hw.2.2.2) okX5_stepsFrom ml_X5_43 (by decide) rfl rfl rfl ⟨by decide, by decide⟩ (Nat.le_of_ble_eq_true rfl) rfl dX5_lookBehind_58 ?_
      rw [hsk]
      refine am_iload_n rfl dX5_lookBehind_61 ?_
      refine am_iadd dX5_lookBehind_62 ?_
      rw [sl_stepe]
      refine am_istore (by decide) dX5_lookBehind_63 ?_
      refine am_aload_n rfl dX5_lookBehind_65 ?_
      refine am_iload rfl dX5_lookBehind_66 ?_
      refine am_callVi (c_X4_mostBeside ad _ _) okX4_mostBeside ml_X5_52 (by decide) rfl rfl rfl ⟨by decide, by decide⟩ (Nat.le_of_ble_eq_true rfl) rfl dX5_lookBehind_68 ?_
      rw [am_most_e hR hw.2.2.1 hw.2.2.2]
      refine am_istore (by decide) dX5_lookBehind_71 ?_
      refine am_aload_n rfl dX5_lookBehind_73 ?_
      refine am_iload rfl dX5_lookBehind_74 ?_
      refine am_callVi (c_X4_leastBeside ad _ _) okX4_leastBeside ml_X5_46 (by decide) rfl rfl rfl ⟨by decide, by decide⟩ (Nat.le_of_ble_eq_true rfl) rfl dX5_lookBehind_76 ?_
      rw [am_least_e hR hw.2.2.1 hw.2.2.2]
      refine am_istore (by decide) dX5_lookBehind_79 ?_
      have hsp2 := hsp.mp h25
      have hns : ¬ sl_stop (am_V M) (am_E M sb) x := by
        rintro (q | q | q)
        · omega
        · omega
        · exact absurd (q.symm.trans (show am_E M sb (sl_w x) (sl_b x) = true from h39)) (by decide)
      have hst := (am_state_iff hR (v := sl_w x) (a := sl_b x) (by omega) (by omega) (by omega) (by omega)).mp (by
        have h7 : sp_mayEnd M (iN (sl_w x)) (iN (sl_b x)) sb = true := h39
        simp only [sp_mayEnd, decide_eq_true_eq] at h7
        exact h7.1)
      have hq : am_V M = (M 1 0).toInt ∧ am_Ac M = (M 1 1).toInt ∧ am_J M = (M 1 2).toInt := ⟨rfl, rfl, rfl⟩
      have hq2 := hR
      unfold am_RI at hq2
      have hlh := bf_lohi (A := am_Ac M) (J := am_J M) (b := sl_b x) (by omega) (by omega) (by omega) (by omega)
      unfold sl_proc
      rw [if_neg hns, hd]
      refine lp_X5_look_11 ad M x t s hx _ _ _ (by omega) (by omega) (by omega) (bf_n (am_Ac M) (am_J M) (sl_b x)) _ _ _ (by unfold bf_n; omega) (by omega) hRC hok hd (sl_fr.rf 11 M) rfl
    · refine am_vret rfl dX5_lookBehind_42 ?_
      have hs9 : sl_stop (am_V M) (am_E M sb) x := by
        first
        | (exact Or.inr (Or.inr h39))
        | (refine Classical.byContradiction fun q => ?_
           have q2 : ¬ (sl_w x - sl_b x < 0) ∧ ¬ (am_V M < sl_w x - sl_b x) := ⟨fun z => q (Or.inl z), fun z => q (Or.inr (Or.inl z))⟩
           have q3 := hsp.mpr (by omega)
           rw [q3] at h25
           cases h25)
      unfold sl_proc
      rw [if_pos hs9]
      exact ⟨rfl, hRC, sl_fr.rf 11 M⟩
def sl_cb_11 (M : am_M) (v a : Int) : Int → Bool := fun b => sp_mayEnd M (iN (v + b)) (iN b) (decide (¬ M 11 0 = 0)) && decide (M 12 (sx (v + b) b) = M 12 (sx v a) - 1) && decide (M 13 (sx (v + b) b) + iN (v + b) = M 13 (sx v a))
def sl_nc_11 (M : am_M) (v a : Int) : Int := if M 12 (sx v a) < 1 then 5 else rn_s (sl_cb_11 M v a) (bf_n (am_Ac M) (am_J M) a) (bf_hi (am_Ac M) (am_J M) a)
theorem sl_flag_11 {M : am_M} (h : M 11 0 = 0 ∨ M 11 0 = 1) : M 11 0 = bI (decide (¬ M 11 0 = 0)) := by
  rcases h with h | h <;> simp [h, bI]
set_option maxRecDepth 100000 in
set_option maxHeartbeats 400000 in
theorem lp_X5_nc_11 (ad : Nat → Nat) (M : am_M) (hR : am_RI M) (h01 : M 11 0 = 0 ∨ M 11 0 = 1) (v a : Int) (h1 : 0 ≤ v) (h2 : v ≤ 12) (h3 : -4 ≤ a) (h4 : a ≤ 4)  (lo R : Int) (hlo : -4 ≤ lo) (hlo2 : lo ≤ 8) : ∀ (n : Nat) (b : Int) (nr : Option Value), (b + 1 = lo + n ∨ (n = 0 ∧ b < lo)) → b ≤ 4 → -10 ≤ b → rn_s (sl_cb_11 M v a) n b = R → am_W ydX5_nextChange ad am_II (am_is (iN R) M) 38 [some (.ref (ad 11)), some (.ref (ad 1)), some (.int (iN v)), some (.int (iN a)), some (.int (M 12 (sx v a))), some (.int (M 13 (sx v a))), some (.int (iN lo)), some (.int (iN b)), nr] [] M := by
  intro n
  induction n with
  | zero =>
    intro b nr hb hb4 hb5 he
    refine am_iload rfl dX5_nextChange_38 ?_
    refine am_iload rfl dX5_nextChange_40 ?_
    refine am_icmp_lt (tgt := 106) (by decide) dX5_nextChange_42 (fun h => ?_) (fun h => (by exfalso; simp only [Int32.lt_iff_toInt_lt, iN_e] at h; omega))
    rw [rn_s] at he
    subst he
    refine am_iconst (v := 5) (by decide) dX5_nextChange_106 ?_
    refine am_iret rfl dX5_nextChange_107 ?_
    exact ⟨rfl, rfl⟩
  | succ n ih =>
    intro b nr hb hb4 hb5 he
    rw [rn_s] at he
    refine am_iload rfl dX5_nextChange_38 ?_
    refine am_iload rfl dX5_nextChange_40 ?_
    refine am_icmp_lt (tgt := 106) (by decide) dX5_nextChange_42 (fun h => (by exfalso; simp only [Int32.lt_iff_toInt_lt, iN_e] at h; omega)) (fun h => ?_)
    have hst := am_state_iff hR (v := v + b) (a := b) (by omega) (by omega) (by omega) (by omega)
    have hq : am_V M = (M 1 0).toInt ∧ am_Ac M = (M 1 1).toInt ∧ am_J M = (M 1 2).toInt := ⟨rfl, rfl, rfl⟩
    have hq2 := hR
    unfold am_RI at hq2
    refine am_iload_n rfl dX5_nextChange_45 ?_
    refine am_iload rfl dX5_nextChange_46 ?_
    refine am_iadd dX5_nextChange_48 ?_
    rw [iN_add]
    refine am_istore (by decide) dX5_nextChange_49 ?_
    refine am_aload_n rfl dX5_nextChange_51 ?_
    refine am_iload rfl dX5_nextChange_52 ?_
    refine am_iload rfl dX5_nextChange_54 ?_
    refine am_aload_n rfl dX5_nextChange_56 ?_
    refine am_geti (j := 0) (by decide) rfl rfl rfl hTX5 (by decide) fl_X5_28 dX5_nextChange_57 ?_
    rw [sl_flag_11 h01]
    refine am_callVi (c_X4_mayEnd ad M (iN (v + b)) (iN b) (decide (¬ M 11 0 = 0))) okX4_mayEnd ml_X5_55 (by decide) rfl rfl rfl ⟨by decide, by decide⟩ (Nat.le_of_ble_eq_true rfl) rfl dX5_nextChange_60 ?_
    refine am_ifb_eq (tgt := 100) (by decide) dX5_nextChange_63 (fun h63 => ?_) (fun h63 => ?_)
    · have hng : ¬ sl_cb_11 M v a b = true := fun q => by
        unfold sl_cb_11 at q
        rw [Bool.and_eq_true, Bool.and_eq_true, decide_eq_true_eq, decide_eq_true_eq] at q
        first | exact h94 q.2 | exact h78 q.1.2 | (rw [q.1.1] at h63; cases h63)
      rw [if_neg hng] at he
      refine am_iinc rfl rfl (by decide) dX5_nextChange_100 ?_
      refine am_goto (tgt := 38) (by decide) dX5_nextChange_103 ?_
      exact am_eq (by rw [iN_dec]; rfl) rfl rfl (ih (b - 1) _ (by omega) (by omega) (by omega) he)
    · have hv := hst.mp (by have h7 := h63; simp only [sp_mayEnd, decide_eq_true_eq] at h7; exact h7.1)
      refine am_aload_n rfl dX5_nextChange_66 ?_
      refine am_iload rfl dX5_nextChange_67 ?_
      refine am_iload rfl dX5_nextChange_69 ?_
      refine am_callVi (c_X5_ticksFrom_11 ad M (v + b) b hv.1.1 (by omega) (by omega) (by omega)) okX5_ticksFrom ml_X5_40 (by decide) rfl rfl rfl ⟨by decide, by decide⟩ (Nat.le_of_ble_eq_true rfl) rfl dX5_nextChange_71 ?_
      refine am_iload rfl dX5_nextChange_74 ?_
      refine am_iconst (v := 1) (by decide) dX5_nextChange_76 ?_
      refine am_isub dX5_nextChange_77 ?_
      refine am_icmp_ne (tgt := 100) (by decide) dX5_nextChange_78 (fun h78 => ?_) (fun h78 => ?_)
      · have hng : ¬ sl_cb_11 M v a b = true := fun q => by
          unfold sl_cb_11 at q
          rw [Bool.and_eq_true, Bool.and_eq_true, decide_eq_true_eq, decide_eq_true_eq] at q
          first | exact h94 q.2 | exact h78 q.1.2 | (rw [q.1.1] at h63; cases h63)
        rw [if_neg hng] at he
        refine am_iinc rfl rfl (by decide) dX5_nextChange_100 ?_
        refine am_goto (tgt := 38) (by decide) dX5_nextChange_103 ?_
        exact am_eq (by rw [iN_dec]; rfl) rfl rfl (ih (b - 1) _ (by omega) (by omega) (by omega) he)
      · refine am_aload_n rfl dX5_nextChange_81 ?_
        refine am_iload rfl dX5_nextChange_82 ?_
        refine am_iload rfl dX5_nextChange_84 ?_
        refine am_callVi (c_X5_stepsFrom_11 ad M (v + b) b hv.1.1 (by omega) (by omega) (by omega)) okX5_stepsFrom ml_X5_43 (by decide) rfl rfl rfl ⟨by decide, by decide⟩ (Nat.le_of_ble_eq_true rfl) rfl dX5_nextChange_86 ?_
        refine am_iload rfl dX5_nextChange_89 ?_
        refine am_iadd dX5_nextChange_91 ?_
        refine am_iload rfl dX5_nextChange_92 ?_
        refine am_icmp_ne (tgt := 100) (by decide) dX5_nextChange_94 (fun h94 => ?_) (fun h94 => ?_)
        · have hng : ¬ sl_cb_11 M v a b = true := fun q => by
            unfold sl_cb_11 at q
            rw [Bool.and_eq_true, Bool.and_eq_true, decide_eq_true_eq, decide_eq_true_eq] at q
            first | exact h94 q.2 | exact h78 q.1.2 | (rw [q.1.1] at h63; cases h63)
          rw [if_neg hng] at he
          refine am_iinc rfl rfl (by decide) dX5_nextChange_100 ?_
          refine am_goto (tgt := 38) (by decide) dX5_nextChange_103 ?_
          exact am_eq (by rw [iN_dec]; rfl) rfl rfl (ih (b - 1) _ (by omega) (by omega) (by omega) he)
        · refine am_iload rfl dX5_nextChange_97 ?_
          refine am_iret rfl dX5_nextChange_99 ?_
          rw [if_pos (by unfold sl_cb_11; rw [Bool.and_eq_true, Bool.and_eq_true, decide_eq_true_eq, decide_eq_true_eq]; exact ⟨⟨h63, h78⟩, h94⟩)] at he
          subst he
          exact ⟨rfl, rfl⟩
set_option maxRecDepth 100000 in
set_option maxHeartbeats 400000 in
theorem c_X5_nextChange_11 (ad : Nat → Nat) (M : am_M) (v a : Int) (hR : am_RI M) (h01 : M 11 0 = 0 ∨ M 11 0 = 1) (h1 : 0 ≤ v) (h2 : v ≤ 12) (h3 : -4 ≤ a) (h4 : a ≤ 4) : am_C ydX5_nextChange ad am_II [.ref (ad 11), .ref (ad 1), .int (iN v), .int (iN a)] M (am_is (iN (sl_nc_11 M v a)) M) := by
  refine am_ofW (L := [some (.ref (ad 11)), some (.ref (ad 1)), some (.int (iN v)), some (.int (iN a)), none, none, none, none, none]) (by decide +kernel) (by simp [Value.category]) (Nat.le_of_ble_eq_true rfl) rfl ?_
  refine am_aload_n rfl dX5_nextChange_0 ?_
  refine am_iload_n rfl dX5_nextChange_1 ?_
  refine am_iload_n rfl dX5_nextChange_2 ?_
  refine am_callVi (c_X5_ticksFrom_11 ad M v a h1 h2 h3 h4) okX5_ticksFrom ml_X5_40 (by decide) rfl rfl rfl ⟨by decide, by decide⟩ (Nat.le_of_ble_eq_true rfl) rfl dX5_nextChange_3 ?_
  refine am_istore (by decide) dX5_nextChange_6 ?_
  refine am_iload rfl dX5_nextChange_8 ?_
  refine am_iconst (v := 1) (by decide) dX5_nextChange_10 ?_
  refine am_icmp_ge (tgt := 16) (by decide) dX5_nextChange_11 (fun h11 => ?_) (fun h11 => ?_)
  · refine am_aload_n rfl dX5_nextChange_16 ?_
    refine am_iload_n rfl dX5_nextChange_17 ?_
    refine am_iload_n rfl dX5_nextChange_18 ?_
    refine am_callVi (c_X5_stepsFrom_11 ad M v a h1 h2 h3 h4) okX5_stepsFrom ml_X5_43 (by decide) rfl rfl rfl ⟨by decide, by decide⟩ (Nat.le_of_ble_eq_true rfl) rfl dX5_nextChange_19 ?_
    refine am_istore (by decide) dX5_nextChange_22 ?_
    refine am_aload_n rfl dX5_nextChange_24 ?_
    refine am_iload_n rfl dX5_nextChange_25 ?_
    refine am_callVi (c_X4_leastBeside ad _ _) okX4_leastBeside ml_X5_46 (by decide) rfl rfl rfl ⟨by decide, by decide⟩ (Nat.le_of_ble_eq_true rfl) rfl dX5_nextChange_26 ?_
    rw [am_least_e hR h3 h4]
    refine am_istore (by decide) dX5_nextChange_29 ?_
    refine am_aload_n rfl dX5_nextChange_31 ?_
    refine am_iload_n rfl dX5_nextChange_32 ?_
    refine am_callVi (c_X4_mostBeside ad _ _) okX4_mostBeside ml_X5_52 (by decide) rfl rfl rfl ⟨by decide, by decide⟩ (Nat.le_of_ble_eq_true rfl) rfl dX5_nextChange_33 ?_
    rw [am_most_e hR h3 h4]
    refine am_istore (by decide) dX5_nextChange_36 ?_
    have hq : am_Ac M = (M 1 1).toInt ∧ am_J M = (M 1 2).toInt := ⟨rfl, rfl⟩
    have hq2 := hR
    unfold am_RI at hq2
    unfold sl_nc_11
    rw [if_neg (Int32.not_lt.mpr h11)]
    have hb1 : -4 ≤ bf_lo (am_Ac M) (am_J M) a := by unfold bf_lo; omega
    have hb0 : bf_lo (am_Ac M) (am_J M) a ≤ 8 := by unfold bf_lo; omega
    have hb7 : -10 ≤ bf_hi (am_Ac M) (am_J M) a := by unfold bf_hi; omega
    have hb2 : bf_hi (am_Ac M) (am_J M) a ≤ 4 := by unfold bf_hi; omega
    exact lp_X5_nc_11 ad M hR h01 v a h1 h2 h3 h4 _ _ hb1 hb0 (bf_n (am_Ac M) (am_J M) a) _ _ (by unfold bf_n; omega) hb2 hb7 rfl
  · refine am_iconst (v := 5) (by decide) dX5_nextChange_14 ?_
    refine am_iret rfl dX5_nextChange_15 ?_
    refine am_isE ?_
    unfold sl_nc_11
    rw [if_pos (Int32.not_le.mp h11)]
    rfl
end
section
noncomputable def sl_Tm (M : am_M) (sb : Bool) : Nat → sl_B := sl_T (am_V M) (am_Ac M) (am_J M) (am_E M sb)
noncomputable def sl_fin (M : am_M) (sb : Bool) : sl_B := sl_Tm M sb 117
theorem sl_Tm_ok {M : am_M} (hR : am_RI M) (sb : Bool) (k : Nat) : sl_ok (sl_Tm M sb k) := sl_T_ok hR.V.1 hR.V.2 k
theorem sl_Tm_end {M : am_M} {sb : Bool} {j : Nat} (h : j = (sl_Tm M sb j).2.2) : ∀ m, sl_Tm M sb (j + m) = sl_Tm M sb j := by
  intro m
  induction m with
  | zero => rfl
  | succ m ih =>
    have e : sl_Tm M sb (j + (m + 1)) = if j + m < (sl_Tm M sb (j + m)).2.2 then sl_proc (am_V M) (am_Ac M) (am_J M) (am_E M sb) (sl_Tm M sb (j + m)) ((sl_Tm M sb (j + m)).2.1 (j + m)) else sl_Tm M sb (j + m) := rfl
    rw [e, ih, ← h, if_neg (by omega)]
theorem sl_Tm_fin {M : am_M} (hR : am_RI M) {sb : Bool} {j : Nat} (h : j = (sl_Tm M sb j).2.2) : sl_fin M sb = sl_Tm M sb j := by
  have h1 := (sl_Tm_ok hR sb j).le
  have h2 := sl_Tm_end h (117 - j)
  unfold sl_fin
  rw [← h2]
  congr 1
  omega
theorem sl_fin_ok {M : am_M} (hR : am_RI M) (sb : Bool) : sl_ok (sl_fin M sb) := by
  unfold sl_fin
  exact sl_Tm_ok hR sb 117
theorem sl_Tm_cong {M N : am_M} (h1 : N 1 = M 1) (h2 : N 2 = M 2) (h3 : N 3 = M 3) (sb : Bool) : sl_Tm N sb = sl_Tm M sb := by
  have e1 : am_V N = am_V M := by unfold am_V; rw [h1]
  have e2 : am_Ac N = am_Ac M := by unfold am_Ac; rw [h1]
  have e3 : am_J N = am_J M := by unfold am_J; rw [h1]
  have e5 : am_E N sb = am_E M sb := by
    funext w b
    unfold am_E sp_mayEnd sp_state sp_bad sp_safe
    rw [h1, h2, h3]
  unfold sl_Tm
  rw [e1, e2, e3, e5]
theorem sl_fin_cong {M N : am_M} (h1 : N 1 = M 1) (h2 : N 2 = M 2) (h3 : N 3 = M 3) (sb : Bool) : sl_fin N sb = sl_fin M sb := by
  unfold sl_fin
  rw [sl_Tm_cong h1 h2 h3]
def sl_at (k : Nat) (M N : am_M) (sb : Bool) : Prop := sl_RC k N (sl_fin M sb) ∧ N k 5 = M 1 8 ∧ N k 0 = M k 0 ∧ ∀ a, a ≠ k → a ≠ k + 1 → a ≠ k + 2 → a ≠ k + 3 → N a = M a
set_option maxRecDepth 100000 in
set_option maxHeartbeats 400000 in
theorem lp_X5_renew2_7 (ad : Nat → Nat) (M : am_M) (hR : am_RI M) (sb : Bool) (hsb : M 7 0 = bI sb) : ∀ (z j : Nat) (N : am_M), 117 - j < z → j ≤ (sl_Tm M sb j).2.2 → sl_RC 7 N (sl_Tm M sb j) → N 7 5 = M 1 8 → N 7 0 = M 7 0 → (∀ a, a ≠ 7 → a ≠ 8 → a ≠ 9 → a ≠ 10 → N a = M a) → am_W ydX5_renew ad am_II (fun r N => r = none ∧ sl_at 7 M N sb) 69 [some (.ref (ad 7)), some (.ref (ad 1)), some (.int (nI j))] [] N := by
  intro z
  induction z with
  | zero => intro j N hz; omega
  | succ z ih =>
    intro j N hz hj hRC hv h0 hf
    have hok := sl_Tm_ok hR sb j
    have hle := hok.le
    have e1 : N 1 = M 1 := hf 1 (by decide) (by decide) (by decide) (by decide)
    have eT : sl_T (am_V N) (am_Ac N) (am_J N) (am_E N sb) = sl_Tm M sb := sl_Tm_cong e1 (hf 2 (by decide) (by decide) (by decide) (by decide)) (hf 3 (by decide) (by decide) (by decide) (by decide)) sb
    refine am_iload_n rfl dX5_renew_69 ?_
    refine am_aload_n rfl dX5_renew_70 ?_
    refine am_geti (j := 4) (by decide) rfl rfl rfl hTX5 (by decide) fl_X5_21 dX5_renew_71 ?_
    refine am_icmp_ge (tgt := 105) (by decide) dX5_renew_74 (fun h74 => ?_) (fun h74 => ?_)
    · refine am_vret rfl dX5_renew_105 ?_
      have hend : j = (sl_Tm M sb j).2.2 := by
        first
        | (rw [hRC.2.2.2] at h74; simp only [Int32.le_iff_toInt_le, nI_e] at h74; omega)
      exact ⟨rfl, by rw [sl_Tm_fin hR hend]; exact hRC, hv, h0, hf⟩
    · have hlt : j < (sl_Tm M sb j).2.2 := by (rw [hRC.2.2.2] at h74; simp only [Int32.le_iff_toInt_le, nI_e] at h74; omega)
      obtain ⟨hx, tj, sj, hdj, -⟩ := hok.1 j hlt
      refine am_aload_n rfl dX5_renew_77 ?_
      refine am_getr (j := 3) (by decide) rfl rfl rfl hTX5 (by decide) fl_X5_18 dX5_renew_78 ?_
      refine am_iload_n rfl dX5_renew_81 ?_
      refine am_callNi (c_X6_isIndexOf ad N 10 117 (nI j) (by decide) rfl (by decide) (vp_in_nI (by omega) (by omega))) okX6_isIndexOf ml_X5_36 rfl ⟨by decide, by decide⟩ (Nat.le_of_ble_eq_true rfl) rfl dX5_renew_82 ?_
      refine am_ifb_eq (tgt := 105) (by decide) dX5_renew_85 (fun h85 => ?_) (fun h85 => ?_)
      · cases h85
      · refine am_aload_n rfl dX5_renew_88 ?_
        refine am_aload_n rfl dX5_renew_89 ?_
        refine am_aload_n rfl dX5_renew_90 ?_
        refine am_getr (j := 3) (by decide) rfl rfl rfl hTX5 (by decide) fl_X5_18 dX5_renew_91 ?_
        refine am_iload_n rfl dX5_renew_94 ?_
        refine am_iald (by decide) rfl (vp_in_nI (by omega) (by omega)) dX5_renew_95 ?_
        rw [nI_clamp (by omega), hRC.2.2.1 j hlt]
        refine am_callV (c_X5_lookBehind_7 ad N (sl_Tm M sb j) ((sl_Tm M sb j).2.1 j) tj sj sb (hR.cong e1) (by rw [h0, hsb]) hRC hok hx hdj) okX5_lookBehind ml_X5_74 (by decide) rfl rfl rfl ⟨by decide, by decide⟩ (Nat.le_of_ble_eq_true rfl) rfl dX5_renew_96 (fun r96 N96 p96 => ?_)
        obtain ⟨rfl, hRC1, hfr1⟩ := p96
        refine am_iinc (v := nI (j + 1)) rfl (nI_inc j) (by decide) dX5_renew_99 ?_
        refine am_goto (tgt := 69) (by decide) dX5_renew_102 ?_
        have hnew : sl_Tm M sb (j + 1) = sl_proc (am_V N) (am_Ac N) (am_J N) (am_E N sb) (sl_Tm M sb j) ((sl_Tm M sb j).2.1 j) := by
          rw [← eT] at hlt ⊢
          rw [sl_T, if_pos hlt]
        rw [← hnew] at hRC1
        have hle2 := (sl_proc_ok (J := am_J N) (E := am_E N sb) (hR.cong e1).V.1 (hR.cong e1).V.2 hok hx hdj).2
        rw [← hnew] at hle2
        exact ih (j + 1) _ (by omega) (by have := hle2.1; omega) hRC1 ((hfr1.2 5 (by decide)).trans hv) ((hfr1.2 0 (by decide)).trans h0) (fun a p1 p2 p3 p4 => (hfr1.1 a p1 p2 p3 p4).trans (hf a p1 p2 p3 p4))
set_option maxRecDepth 100000 in
set_option maxHeartbeats 400000 in
theorem lp_X5_renew1_7 (ad : Nat → Nat) (M : am_M) (hR : am_RI M) (sb : Bool) (hsb : M 7 0 = bI sb) : ∀ (n : Nat) (a : Int) (N : am_M) (B : sl_B), a + n = 5 → -4 ≤ a → sl_RC 7 N B → sl_ok B → N 7 5 = M 1 8 → N 7 0 = M 7 0 → (∀ q, q ≠ 7 → q ≠ 8 → q ≠ 9 → q ≠ 10 → N q = M q) → sl_foldc (sl_rest (am_Ac M) (am_J M)) (fun a => sx 0 a) 0 0 n a B = sl_init (am_Ac M) (am_J M) → am_W ydX5_renew ad am_II (fun r N => r = none ∧ sl_at 7 M N sb) 36 [some (.ref (ad 7)), some (.ref (ad 1)), some (.int (iN a))] [] N := by
  intro n
  induction n with
  | zero =>
    intro a N B ha h4 hRC hok hv h0 hf he
    refine am_iload_n rfl dX5_renew_36 ?_
    refine am_iconst (v := 4) (by decide) dX5_renew_37 ?_
    refine am_icmp_gt (tgt := 67) (by decide) dX5_renew_38 (fun h => ?_) (fun h => (by exfalso; simp only [Int32.lt_iff_toInt_lt, iN_e, kI_4] at h; omega))
    rw [sl_foldc] at he
    subst he
    refine am_iconst (v := 0) (by decide) dX5_renew_67 ?_
    refine am_istore_n (by decide) dX5_renew_68 ?_
    exact lp_X5_renew2_7 ad M hR sb hsb 118 0 N (by omega) (Nat.zero_le _) hRC hv h0 hf
  | succ n ih =>
    intro a N B ha h4 hRC hok hv h0 hf he
    have e1 : N 1 = M 1 := hf 1 (by decide) (by decide) (by decide) (by decide)
    have hR' : am_RI N := hR.cong e1
    have er := am_rest_iff hR' (a := a) (by omega) (by omega)
    have eA : am_Ac N = am_Ac M := by unfold am_Ac; rw [e1]
    have eJ : am_J N = am_J M := by unfold am_J; rw [e1]
    rw [eA, eJ] at er
    rw [sl_foldc] at he
    refine am_iload_n rfl dX5_renew_36 ?_
    refine am_iconst (v := 4) (by decide) dX5_renew_37 ?_
    refine am_icmp_gt (tgt := 67) (by decide) dX5_renew_38 (fun h => (by exfalso; simp only [Int32.lt_iff_toInt_lt, iN_e, kI_4] at h; omega)) (fun h => ?_)
    refine am_aload_n rfl dX5_renew_41 ?_
    refine am_iconst (v := 0) (by decide) dX5_renew_42 ?_
    refine am_iload_n rfl dX5_renew_43 ?_
    refine am_callVi (c_X4_isRest ad N _ _) okX4_isRest ml_X5_66 (by decide) rfl rfl rfl ⟨by decide, by decide⟩ (Nat.le_of_ble_eq_true rfl) rfl dX5_renew_44 ?_
    refine am_ifb_eq (tgt := 61) (by decide) dX5_renew_47 (fun h47 => ?_) (fun h47 => ?_)
    · refine am_iinc rfl rfl (by decide) dX5_renew_61 ?_
      refine am_goto (tgt := 36) (by decide) dX5_renew_64 ?_
      first
      | (rw [if_neg (by unfold sl_rest; rw [decide_eq_true_eq]; exact fun q => by rw [er.mpr q] at h47; cases h47)] at he; exact am_eq (by rw [iN_inc]; rfl) rfl rfl (ih (a + 1) N B (by omega) (by omega) hRC hok hv h0 hf he))
      | (rw [if_pos (by unfold sl_rest; rw [decide_eq_true_eq]; exact er.mp h47)] at he; exact am_eq (by rw [iN_inc]; rfl) rfl rfl (ih (a + 1) _ _ (by omega) (by omega) hRC1 (sl_push_ok hok hix (Nat.zero_le _) (Nat.zero_le _)) ((hfr1.2 5 (by decide)).trans hv) ((hfr1.2 0 (by decide)).trans h0) (fun q p1 p2 p3 p4 => (hfr1.1 q p1 p2 p3 p4).trans (hf q p1 p2 p3 p4)) he))
    · refine am_aload_n rfl dX5_renew_50 ?_
      refine am_iconst (v := 0) (by decide) dX5_renew_51 ?_
      refine am_iload_n rfl dX5_renew_52 ?_
      refine am_callNi (c_X6_stateNumber ad N 0 (iN a)) okX6_stateNumber ml_X5_32 rfl ⟨by decide, by decide⟩ (Nat.le_of_ble_eq_true rfl) rfl dX5_renew_53 ?_
      rw [show sp_num 0 (iN a) = nI (sx 0 a) from sp_num_e (v := 0) (by omega) (by omega) (by omega) (by omega)]
      have hix : sx 0 a < 117 := (sx_lt (v := 0) (by omega) (by omega) (by omega) (by omega)).1
      refine am_iconst (v := 0) (by decide) dX5_renew_56 ?_
      refine am_iconst (v := 0) (by decide) dX5_renew_57 ?_
      refine am_callV (c_X5_find_7 ad N B (sx 0 a) 0 0 hRC hok hix (by omega) (by omega)) okX5_find ml_X5_70 (by decide) rfl rfl rfl ⟨by decide, by decide⟩ (Nat.le_of_ble_eq_true rfl) rfl dX5_renew_58 (fun r58 N58 p58 => ?_)
      obtain ⟨rfl, hRC1, hfr1⟩ := p58
      refine am_iinc rfl rfl (by decide) dX5_renew_61 ?_
      refine am_goto (tgt := 36) (by decide) dX5_renew_64 ?_
      first
      | (rw [if_neg (by unfold sl_rest; rw [decide_eq_true_eq]; exact fun q => by rw [er.mpr q] at h47; cases h47)] at he; exact am_eq (by rw [iN_inc]; rfl) rfl rfl (ih (a + 1) N B (by omega) (by omega) hRC hok hv h0 hf he))
      | (rw [if_pos (by unfold sl_rest; rw [decide_eq_true_eq]; exact er.mp h47)] at he; exact am_eq (by rw [iN_inc]; rfl) rfl rfl (ih (a + 1) _ _ (by omega) (by omega) hRC1 (sl_push_ok hok hix (Nat.zero_le _) (Nat.zero_le _)) ((hfr1.2 5 (by decide)).trans hv) ((hfr1.2 0 (by decide)).trans h0) (fun q p1 p2 p3 p4 => (hfr1.1 q p1 p2 p3 p4).trans (hf q p1 p2 p3 p4)) he))
set_option maxRecDepth 100000 in
set_option maxHeartbeats 400000 in
theorem c_X5_renew_7 (ad : Nat → Nat) (M : am_M) (sb : Bool) (hR : am_RI M) (hsb : M 7 0 = bI sb) (hS : M 7 5 = M 1 8 → sl_RC 7 M (sl_fin M sb)) : am_C ydX5_renew ad am_II [.ref (ad 7), .ref (ad 1)] M (fun r N => r = none ∧ sl_at 7 M N sb) := by
  refine am_ofW (L := [some (.ref (ad 7)), some (.ref (ad 1)), none]) (by decide +kernel) (by simp [Value.category]) (Nat.le_of_ble_eq_true rfl) rfl ?_
  refine am_aload_n rfl dX5_renew_0 ?_
  refine am_geti (j := 5) (by decide) rfl rfl rfl hTX5 (by decide) fl_X5_25 dX5_renew_1 ?_
  refine am_aload_n rfl dX5_renew_4 ?_
  refine am_geti (j := 8) (by decide) rfl rfl rfl hTX4 (by decide) fl_X5_59 dX5_renew_5 ?_
  refine am_icmp_ne (tgt := 12) (by decide) dX5_renew_8 (fun h8 => ?_) (fun h8 => ?_)
  · refine am_aload_n rfl dX5_renew_12 ?_
    refine am_aload_n rfl dX5_renew_13 ?_
    refine am_geti (j := 8) (by decide) rfl rfl rfl hTX4 (by decide) fl_X5_59 dX5_renew_14 ?_
    refine am_puti (j := 5) (by decide) rfl rfl rfl hTX5 tyX5_ok nmX5 (by decide) fl_X5_25 rfl rfl rfl rfl dX5_renew_17 ?_
    refine am_aload_n rfl dX5_renew_20 ?_
    refine am_getr (j := 1) (by decide) rfl rfl rfl hTX5 (by decide) fl_X5_9 dX5_renew_21 ?_
    refine am_iconst (v := (-1)) (by decide) dX5_renew_24 ?_
    refine am_callSv (c_J7_fill ad am_II 8 117 (by decide) rfl (by omega) _ _) okJ7_fill_53178 ml_X5_60 rfl ⟨by decide, by decide⟩ (Nat.le_of_ble_eq_true rfl) rfl dX5_renew_25 ?_
    refine am_aload_n rfl dX5_renew_28 ?_
    refine am_iconst (v := 0) (by decide) dX5_renew_29 ?_
    refine am_puti (j := 4) (by decide) rfl rfl rfl hTX5 tyX5_ok nmX5 (by decide) fl_X5_21 rfl rfl rfl rfl dX5_renew_30 ?_
    refine am_bipush (v := (-4)) (by decide) dX5_renew_33 ?_
    refine am_istore_n (by decide) dX5_renew_35 ?_
    refine lp_X5_renew1_7 ad M hR sb hsb 9 (-4) _ sl_0 (by omega) (by omega) ⟨fun x hx => ?_, fun x t s hx => ?_, fun i hi => absurd hi (Nat.not_lt_zero _), ?_⟩ sl_ok_0 ?_ ?_ (fun q p1 p2 p3 p4 => ?_) rfl
    · rw [am_put_ne _ _ _ _ (show (8 : Nat) ≠ 7 by decide), am_row_at, if_pos hx]
      rfl
    · cases hx
    · rw [am_rd]
      rfl
    · rw [am_rd, if_neg (by decide), am_row_ne _ _ _ (by decide), am_rd]
      rfl
    · rw [am_rd, if_neg (by decide), am_row_ne _ _ _ (by decide), am_rd]
      rfl
    · rw [am_put_ne _ _ _ _ p1, am_row_ne _ _ _ p2, am_put_ne _ _ _ _ p1]
  · refine am_vret rfl dX5_renew_11 ?_
    exact ⟨rfl, hS (by first | exact h8 | exact h8.symm), by first | exact h8 | exact h8.symm, rfl, fun _ _ _ _ _ => rfl⟩
set_option maxRecDepth 100000 in
set_option maxHeartbeats 400000 in
theorem lp_X5_renew2_11 (ad : Nat → Nat) (M : am_M) (hR : am_RI M) (sb : Bool) (hsb : M 11 0 = bI sb) : ∀ (z j : Nat) (N : am_M), 117 - j < z → j ≤ (sl_Tm M sb j).2.2 → sl_RC 11 N (sl_Tm M sb j) → N 11 5 = M 1 8 → N 11 0 = M 11 0 → (∀ a, a ≠ 11 → a ≠ 12 → a ≠ 13 → a ≠ 14 → N a = M a) → am_W ydX5_renew ad am_II (fun r N => r = none ∧ sl_at 11 M N sb) 69 [some (.ref (ad 11)), some (.ref (ad 1)), some (.int (nI j))] [] N := by
  intro z
  induction z with
  | zero => intro j N hz; omega
  | succ z ih =>
    intro j N hz hj hRC hv h0 hf
    have hok := sl_Tm_ok hR sb j
    have hle := hok.le
    have e1 : N 1 = M 1 := hf 1 (by decide) (by decide) (by decide) (by decide)
    have eT : sl_T (am_V N) (am_Ac N) (am_J N) (am_E N sb) = sl_Tm M sb := sl_Tm_cong e1 (hf 2 (by decide) (by decide) (by decide) (by decide)) (hf 3 (by decide) (by decide) (by decide) (by decide)) sb
    refine am_iload_n rfl dX5_renew_69 ?_
    refine am_aload_n rfl dX5_renew_70 ?_
    refine am_geti (j := 4) (by decide) rfl rfl rfl hTX5 (by decide) fl_X5_21 dX5_renew_71 ?_
    refine am_icmp_ge (tgt := 105) (by decide) dX5_renew_74 (fun h74 => ?_) (fun h74 => ?_)
    · refine am_vret rfl dX5_renew_105 ?_
      have hend : j = (sl_Tm M sb j).2.2 := by
        first
        | (rw [hRC.2.2.2] at h74; simp only [Int32.le_iff_toInt_le, nI_e] at h74; omega)
      exact ⟨rfl, by rw [sl_Tm_fin hR hend]; exact hRC, hv, h0, hf⟩
    · have hlt : j < (sl_Tm M sb j).2.2 := by (rw [hRC.2.2.2] at h74; simp only [Int32.le_iff_toInt_le, nI_e] at h74; omega)
      obtain ⟨hx, tj, sj, hdj, -⟩ := hok.1 j hlt
      refine am_aload_n rfl dX5_renew_77 ?_
      refine am_getr (j := 3) (by decide) rfl rfl rfl hTX5 (by decide) fl_X5_18 dX5_renew_78 ?_
      refine am_iload_n rfl dX5_renew_81 ?_
      refine am_callNi (c_X6_isIndexOf ad N 14 117 (nI j) (by decide) rfl (by decide) (vp_in_nI (by omega) (by omega))) okX6_isIndexOf ml_X5_36 rfl ⟨by decide, by decide⟩ (Nat.le_of_ble_eq_true rfl) rfl dX5_renew_82 ?_
      refine am_ifb_eq (tgt := 105) (by decide) dX5_renew_85 (fun h85 => ?_) (fun h85 => ?_)
      · cases h85
      · refine am_aload_n rfl dX5_renew_88 ?_
        refine am_aload_n rfl dX5_renew_89 ?_
        refine am_aload_n rfl dX5_renew_90 ?_
        refine am_getr (j := 3) (by decide) rfl rfl rfl hTX5 (by decide) fl_X5_18 dX5_renew_91 ?_
        refine am_iload_n rfl dX5_renew_94 ?_
        refine am_iald (by decide) rfl (vp_in_nI (by omega) (by omega)) dX5_renew_95 ?_
        rw [nI_clamp (by omega), hRC.2.2.1 j hlt]
        refine am_callV (c_X5_lookBehind_11 ad N (sl_Tm M sb j) ((sl_Tm M sb j).2.1 j) tj sj sb (hR.cong e1) (by rw [h0, hsb]) hRC hok hx hdj) okX5_lookBehind ml_X5_74 (by decide) rfl rfl rfl ⟨by decide, by decide⟩ (Nat.le_of_ble_eq_true rfl) rfl dX5_renew_96 (fun r96 N96 p96 => ?_)
        obtain ⟨rfl, hRC1, hfr1⟩ := p96
        refine am_iinc (v := nI (j + 1)) rfl (nI_inc j) (by decide) dX5_renew_99 ?_
        refine am_goto (tgt := 69) (by decide) dX5_renew_102 ?_
        have hnew : sl_Tm M sb (j + 1) = sl_proc (am_V N) (am_Ac N) (am_J N) (am_E N sb) (sl_Tm M sb j) ((sl_Tm M sb j).2.1 j) := by
          rw [← eT] at hlt ⊢
          rw [sl_T, if_pos hlt]
        rw [← hnew] at hRC1
        have hle2 := (sl_proc_ok (J := am_J N) (E := am_E N sb) (hR.cong e1).V.1 (hR.cong e1).V.2 hok hx hdj).2
        rw [← hnew] at hle2
        exact ih (j + 1) _ (by omega) (by have := hle2.1; omega) hRC1 ((hfr1.2 5 (by decide)).trans hv) ((hfr1.2 0 (by decide)).trans h0) (fun a p1 p2 p3 p4 => (hfr1.1 a p1 p2 p3 p4).trans (hf a p1 p2 p3 p4))
set_option maxRecDepth 100000 in
set_option maxHeartbeats 400000 in
theorem lp_X5_renew1_11 (ad : Nat → Nat) (M : am_M) (hR : am_RI M) (sb : Bool) (hsb : M 11 0 = bI sb) : ∀ (n : Nat) (a : Int) (N : am_M) (B : sl_B), a + n = 5 → -4 ≤ a → sl_RC 11 N B → sl_ok B → N 11 5 = M 1 8 → N 11 0 = M 11 0 → (∀ q, q ≠ 11 → q ≠ 12 → q ≠ 13 → q ≠ 14 → N q = M q) → sl_foldc (sl_rest (am_Ac M) (am_J M)) (fun a => sx 0 a) 0 0 n a B = sl_init (am_Ac M) (am_J M) → am_W ydX5_renew ad am_II (fun r N => r = none ∧ sl_at 11 M N sb) 36 [some (.ref (ad 11)), some (.ref (ad 1)), some (.int (iN a))] [] N := by
  intro n
  induction n with
  | zero =>
    intro a N B ha h4 hRC hok hv h0 hf he
    refine am_iload_n rfl dX5_renew_36 ?_
    refine am_iconst (v := 4) (by decide) dX5_renew_37 ?_
    refine am_icmp_gt (tgt := 67) (by decide) dX5_renew_38 (fun h => ?_) (fun h => (by exfalso; simp only [Int32.lt_iff_toInt_lt, iN_e, kI_4] at h; omega))
    rw [sl_foldc] at he
    subst he
    refine am_iconst (v := 0) (by decide) dX5_renew_67 ?_
    refine am_istore_n (by decide) dX5_renew_68 ?_
    exact lp_X5_renew2_11 ad M hR sb hsb 118 0 N (by omega) (Nat.zero_le _) hRC hv h0 hf
  | succ n ih =>
    intro a N B ha h4 hRC hok hv h0 hf he
    have e1 : N 1 = M 1 := hf 1 (by decide) (by decide) (by decide) (by decide)
    have hR' : am_RI N := hR.cong e1
    have er := am_rest_iff hR' (a := a) (by omega) (by omega)
    have eA : am_Ac N = am_Ac M := by unfold am_Ac; rw [e1]
    have eJ : am_J N = am_J M := by unfold am_J; rw [e1]
    rw [eA, eJ] at er
    rw [sl_foldc] at he
    refine am_iload_n rfl dX5_renew_36 ?_
    refine am_iconst (v := 4) (by decide) dX5_renew_37 ?_
    refine am_icmp_gt (tgt := 67) (by decide) dX5_renew_38 (fun h => (by exfalso; simp only [Int32.lt_iff_toInt_lt, iN_e, kI_4] at h; omega)) (fun h => ?_)
    refine am_aload_n rfl dX5_renew_41 ?_
    refine am_iconst (v := 0) (by decide) dX5_renew_42 ?_
    refine am_iload_n rfl dX5_renew_43 ?_
    refine am_callVi (c_X4_isRest ad N _ _) okX4_isRest ml_X5_66 (by decide) rfl rfl rfl ⟨by decide, by decide⟩ (Nat.le_of_ble_eq_true rfl) rfl dX5_renew_44 ?_
    refine am_ifb_eq (tgt := 61) (by decide) dX5_renew_47 (fun h47 => ?_) (fun h47 => ?_)
    · refine am_iinc rfl rfl (by decide) dX5_renew_61 ?_
      refine am_goto (tgt := 36) (by decide) dX5_renew_64 ?_
      first
      | (rw [if_neg (by unfold sl_rest; rw [decide_eq_true_eq]; exact fun q => by rw [er.mpr q] at h47; cases h47)] at he; exact am_eq (by rw [iN_inc]; rfl) rfl rfl (ih (a + 1) N B (by omega) (by omega) hRC hok hv h0 hf he))
      | (rw [if_pos (by unfold sl_rest; rw [decide_eq_true_eq]; exact er.mp h47)] at he; exact am_eq (by rw [iN_inc]; rfl) rfl rfl (ih (a + 1) _ _ (by omega) (by omega) hRC1 (sl_push_ok hok hix (Nat.zero_le _) (Nat.zero_le _)) ((hfr1.2 5 (by decide)).trans hv) ((hfr1.2 0 (by decide)).trans h0) (fun q p1 p2 p3 p4 => (hfr1.1 q p1 p2 p3 p4).trans (hf q p1 p2 p3 p4)) he))
    · refine am_aload_n rfl dX5_renew_50 ?_
      refine am_iconst (v := 0) (by decide) dX5_renew_51 ?_
      refine am_iload_n rfl dX5_renew_52 ?_
      refine am_callNi (c_X6_stateNumber ad N 0 (iN a)) okX6_stateNumber ml_X5_32 rfl ⟨by decide, by decide⟩ (Nat.le_of_ble_eq_true rfl) rfl dX5_renew_53 ?_
      rw [show sp_num 0 (iN a) = nI (sx 0 a) from sp_num_e (v := 0) (by omega) (by omega) (by omega) (by omega)]
      have hix : sx 0 a < 117 := (sx_lt (v := 0) (by omega) (by omega) (by omega) (by omega)).1
      refine am_iconst (v := 0) (by decide) dX5_renew_56 ?_
      refine am_iconst (v := 0) (by decide) dX5_renew_57 ?_
      refine am_callV (c_X5_find_11 ad N B (sx 0 a) 0 0 hRC hok hix (by omega) (by omega)) okX5_find ml_X5_70 (by decide) rfl rfl rfl ⟨by decide, by decide⟩ (Nat.le_of_ble_eq_true rfl) rfl dX5_renew_58 (fun r58 N58 p58 => ?_)
      obtain ⟨rfl, hRC1, hfr1⟩ := p58
      refine am_iinc rfl rfl (by decide) dX5_renew_61 ?_
      refine am_goto (tgt := 36) (by decide) dX5_renew_64 ?_
      first
      | (rw [if_neg (by unfold sl_rest; rw [decide_eq_true_eq]; exact fun q => by rw [er.mpr q] at h47; cases h47)] at he; exact am_eq (by rw [iN_inc]; rfl) rfl rfl (ih (a + 1) N B (by omega) (by omega) hRC hok hv h0 hf he))
      | (rw [if_pos (by unfold sl_rest; rw [decide_eq_true_eq]; exact er.mp h47)] at he; exact am_eq (by rw [iN_inc]; rfl) rfl rfl (ih (a + 1) _ _ (by omega) (by omega) hRC1 (sl_push_ok hok hix (Nat.zero_le _) (Nat.zero_le _)) ((hfr1.2 5 (by decide)).trans hv) ((hfr1.2 0 (by decide)).trans h0) (fun q p1 p2 p3 p4 => (hfr1.1 q p1 p2 p3 p4).trans (hf q p1 p2 p3 p4)) he))
set_option maxRecDepth 100000 in
set_option maxHeartbeats 400000 in
theorem c_X5_renew_11 (ad : Nat → Nat) (M : am_M) (sb : Bool) (hR : am_RI M) (hsb : M 11 0 = bI sb) (hS : M 11 5 = M 1 8 → sl_RC 11 M (sl_fin M sb)) : am_C ydX5_renew ad am_II [.ref (ad 11), .ref (ad 1)] M (fun r N => r = none ∧ sl_at 11 M N sb) := by
  refine am_ofW (L := [some (.ref (ad 11)), some (.ref (ad 1)), none]) (by decide +kernel) (by simp [Value.category]) (Nat.le_of_ble_eq_true rfl) rfl ?_
  refine am_aload_n rfl dX5_renew_0 ?_
  refine am_geti (j := 5) (by decide) rfl rfl rfl hTX5 (by decide) fl_X5_25 dX5_renew_1 ?_
  refine am_aload_n rfl dX5_renew_4 ?_
  refine am_geti (j := 8) (by decide) rfl rfl rfl hTX4 (by decide) fl_X5_59 dX5_renew_5 ?_
  refine am_icmp_ne (tgt := 12) (by decide) dX5_renew_8 (fun h8 => ?_) (fun h8 => ?_)
  · refine am_aload_n rfl dX5_renew_12 ?_
    refine am_aload_n rfl dX5_renew_13 ?_
    refine am_geti (j := 8) (by decide) rfl rfl rfl hTX4 (by decide) fl_X5_59 dX5_renew_14 ?_
    refine am_puti (j := 5) (by decide) rfl rfl rfl hTX5 tyX5_ok nmX5 (by decide) fl_X5_25 rfl rfl rfl rfl dX5_renew_17 ?_
    refine am_aload_n rfl dX5_renew_20 ?_
    refine am_getr (j := 1) (by decide) rfl rfl rfl hTX5 (by decide) fl_X5_9 dX5_renew_21 ?_
    refine am_iconst (v := (-1)) (by decide) dX5_renew_24 ?_
    refine am_callSv (c_J7_fill ad am_II 12 117 (by decide) rfl (by omega) _ _) okJ7_fill_53178 ml_X5_60 rfl ⟨by decide, by decide⟩ (Nat.le_of_ble_eq_true rfl) rfl dX5_renew_25 ?_
    refine am_aload_n rfl dX5_renew_28 ?_
    refine am_iconst (v := 0) (by decide) dX5_renew_29 ?_
    refine am_puti (j := 4) (by decide) rfl rfl rfl hTX5 tyX5_ok nmX5 (by decide) fl_X5_21 rfl rfl rfl rfl dX5_renew_30 ?_
    refine am_bipush (v := (-4)) (by decide) dX5_renew_33 ?_
    refine am_istore_n (by decide) dX5_renew_35 ?_
    refine lp_X5_renew1_11 ad M hR sb hsb 9 (-4) _ sl_0 (by omega) (by omega) ⟨fun x hx => ?_, fun x t s hx => ?_, fun i hi => absurd hi (Nat.not_lt_zero _), ?_⟩ sl_ok_0 ?_ ?_ (fun q p1 p2 p3 p4 => ?_) rfl
    · rw [am_put_ne _ _ _ _ (show (12 : Nat) ≠ 11 by decide), am_row_at, if_pos hx]
      rfl
    · cases hx
    · rw [am_rd]
      rfl
    · rw [am_rd, if_neg (by decide), am_row_ne _ _ _ (by decide), am_rd]
      rfl
    · rw [am_rd, if_neg (by decide), am_row_ne _ _ _ (by decide), am_rd]
      rfl
    · rw [am_put_ne _ _ _ _ p1, am_row_ne _ _ _ p2, am_put_ne _ _ _ _ p1]
  · refine am_vret rfl dX5_renew_11 ?_
    exact ⟨rfl, hS (by first | exact h8 | exact h8.symm), by first | exact h8 | exact h8.symm, rfl, fun _ _ _ _ _ => rfl⟩
/-- what holds of both Slowings at any time -/
def sl_I (M : am_M) : Prop := (M 7 0 = 1 ∧ (M 7 5 = M 1 8 → sl_RC 7 M (sl_fin M true))) ∧ M 11 0 = 0 ∧ (M 11 5 = M 1 8 → sl_RC 11 M (sl_fin M false))
/-- the safe rows are taken -/
def sl_saf (M : am_M) (v a : Int) : Prop := ¬ M 1 7 = 0 ∧ (sl_fin M true).1 (sx v a) ≠ none
def sl_mv (M N : am_M) : Prop := sl_I N ∧ (N 7 5 = M 7 5 ∨ N 7 5 = M 1 8) ∧ (N 11 5 = M 11 5 ∨ N 11 5 = M 1 8) ∧ ∀ a, (a < 7 ∨ 14 < a) → N a = M a
theorem sl_RC_cong {k : Nat} {M N : am_M} {B : sl_B} (h : sl_RC k M B) (h0 : N k = M k) (h1 : N (k + 1) = M (k + 1)) (h2 : N (k + 2) = M (k + 2)) (h3 : N (k + 3) = M (k + 3)) : sl_RC k N B := by
  unfold sl_RC
  rw [h0, h1, h2, h3]
  exact h
theorem sl_mv_7 {M N : am_M} (hI : sl_I M) (h : sl_at 7 M N true) : sl_mv M N ∧ N 7 5 = M 1 8 := by
  obtain ⟨h1, h2, h3, h4⟩ := h
  have e1 : N 1 = M 1 := h4 1 (by decide) (by decide) (by decide) (by decide)
  have ef : ∀ sb, sl_fin N sb = sl_fin M sb := sl_fin_cong e1 (h4 2 (by decide) (by decide) (by decide) (by decide)) (h4 3 (by decide) (by decide) (by decide) (by decide))
  refine ⟨⟨⟨⟨h3.trans hI.1.1, fun _ => by rw [ef]; exact h1⟩, by rw [h4 11 (by decide) (by decide) (by decide) (by decide)]; exact hI.2.1, fun q => ?_⟩, Or.inr h2, Or.inl (by rw [h4 11 (by decide) (by decide) (by decide) (by decide)]), fun a ha => h4 a (by omega) (by omega) (by omega) (by omega)⟩, h2⟩
  rw [ef]
  rw [h4 11 (by decide) (by decide) (by decide) (by decide), e1] at q
  exact sl_RC_cong (hI.2.2 q) (h4 _ (by decide) (by decide) (by decide) (by decide)) (h4 _ (by decide) (by decide) (by decide) (by decide)) (h4 _ (by decide) (by decide) (by decide) (by decide)) (h4 _ (by decide) (by decide) (by decide) (by decide))
theorem sl_mv_11 {M N : am_M} (hI : sl_I M) (h : sl_at 11 M N false) : sl_mv M N ∧ N 11 5 = M 1 8 := by
  obtain ⟨h1, h2, h3, h4⟩ := h
  have e1 : N 1 = M 1 := h4 1 (by decide) (by decide) (by decide) (by decide)
  have ef : ∀ sb, sl_fin N sb = sl_fin M sb := sl_fin_cong e1 (h4 2 (by decide) (by decide) (by decide) (by decide)) (h4 3 (by decide) (by decide) (by decide) (by decide))
  refine ⟨⟨⟨⟨by rw [h4 7 (by decide) (by decide) (by decide) (by decide)]; exact hI.1.1, fun q => ?_⟩, h3.trans hI.2.1, fun _ => by rw [ef]; exact h1⟩, Or.inl (by rw [h4 7 (by decide) (by decide) (by decide) (by decide)]), Or.inr h2, fun a ha => h4 a (by omega) (by omega) (by omega) (by omega)⟩, h2⟩
  rw [ef]
  rw [h4 7 (by decide) (by decide) (by decide) (by decide), e1] at q
  exact sl_RC_cong (hI.1.2 q) (h4 _ (by decide) (by decide) (by decide) (by decide)) (h4 _ (by decide) (by decide) (by decide) (by decide)) (h4 _ (by decide) (by decide) (by decide) (by decide)) (h4 _ (by decide) (by decide) (by decide) (by decide))
theorem sl_mv.tr {M N K : am_M} (h : sl_mv M N) (g : sl_mv N K) : sl_mv M K := by
  have e1 : N 1 = M 1 := h.2.2.2 1 (by omega)
  refine ⟨g.1, ?_, ?_, fun a ha => (g.2.2.2 a ha).trans (h.2.2.2 a ha)⟩
  · rcases g.2.1 with q | q
    · rw [q]; exact h.2.1
    · rw [q, e1]; exact Or.inr rfl
  · rcases g.2.2.1 with q | q
    · rw [q]; exact h.2.2.1
    · rw [q, e1]; exact Or.inr rfl
theorem sl_mv.rf {M : am_M} (h : sl_I M) : sl_mv M M := ⟨h, Or.inl rfl, Or.inl rfl, fun _ _ => rfl⟩
theorem sl_mv.fin {M N : am_M} (h : sl_mv M N) (sb : Bool) : sl_fin N sb = sl_fin M sb := sl_fin_cong (h.2.2.2 1 (by omega)) (h.2.2.2 2 (by omega)) (h.2.2.2 3 (by omega)) sb
set_option maxRecDepth 100000 in
set_option maxHeartbeats 400000 in
theorem c_X6_slowingsFrom (ad : Nat → Nat) (M : am_M) (v a : Int) (hR : am_RI M) (hI : sl_I M) (h1 : 0 ≤ v) (h2 : v ≤ 12) (h3 : -4 ≤ a) (h4 : a ≤ 4) : am_C ydX6_slowingsFrom ad am_II [.ref (ad 0), .int (iN v), .int (iN a)] M (fun r N => sl_mv M N ∧ ((r = some (.ref (ad 7)) ∧ sl_saf M v a ∧ N 7 5 = M 1 8) ∨ (r = some (.ref (ad 11)) ∧ ¬ sl_saf M v a ∧ N 11 5 = M 1 8))) := by
  refine am_ofW (L := [some (.ref (ad 0)), some (.int (iN v)), some (.int (iN a))]) (by decide +kernel) (by simp [Value.category]) (Nat.le_of_ble_eq_true rfl) rfl ?_
  refine am_aload_n rfl dX6_slowingsFrom_0 ?_
  refine am_getr (j := 0) (by decide) rfl rfl rfl hTX6 (by decide) fl_X6_12 dX6_slowingsFrom_1 ?_
  refine am_geti (j := 7) (by decide) rfl rfl rfl hTX4 (by decide) fl_X6_89 dX6_slowingsFrom_4 ?_
  refine am_if_eq (tgt := 39) (by decide) dX6_slowingsFrom_7 (fun h7 => ?_) (fun h7 => ?_)
  · first | have HM := hm7 | have HM := sl_mv.rf hI
    refine am_aload_n rfl dX6_slowingsFrom_39 ?_
    refine am_getr (j := 3) (by decide) rfl rfl rfl hTX6 (by decide) fl_X6_32 dX6_slowingsFrom_40 ?_
    refine am_aload_n rfl dX6_slowingsFrom_43 ?_
    refine am_getr (j := 0) (by decide) rfl rfl rfl hTX6 (by decide) fl_X6_12 dX6_slowingsFrom_44 ?_
    refine am_callV (c_X5_renew_11 ad _ false (hR.cong (HM.2.2.2 1 (by omega))) HM.1.2.1 HM.1.2.2) okX5_renew ml_X6_224 (by decide) rfl rfl rfl ⟨by decide, by decide⟩ (Nat.le_of_ble_eq_true rfl) rfl dX6_slowingsFrom_47 (fun r47 N47 p47 => ?_)
    obtain ⟨rfl, hat11⟩ := p47
    obtain ⟨hm11, hv11⟩ := sl_mv_11 HM.1 hat11
    refine am_aload_n rfl dX6_slowingsFrom_50 ?_
    refine am_getr (j := 3) (by decide) rfl rfl rfl hTX6 (by decide) fl_X6_32 dX6_slowingsFrom_51 ?_
    refine am_aret rfl (Or.inr ⟨_, rfl⟩) dX6_slowingsFrom_54 ?_
    first
    | exact ⟨hm7, Or.inl ⟨rfl, ⟨h7, fun e => h31 (by rw [e]; rfl)⟩, hv7⟩⟩
    | exact ⟨HM.tr hm11, Or.inr ⟨rfl, fun q => by first | exact q.1 h7 | exact q.2 ((sl_enc_none (sl_fin_ok hR true) _).mp h31), by rw [hv11, HM.2.2.2 1 (by omega)]⟩⟩
  · refine am_aload_n rfl dX6_slowingsFrom_10 ?_
    refine am_getr (j := 2) (by decide) rfl rfl rfl hTX6 (by decide) fl_X6_28 dX6_slowingsFrom_11 ?_
    refine am_aload_n rfl dX6_slowingsFrom_14 ?_
    refine am_getr (j := 0) (by decide) rfl rfl rfl hTX6 (by decide) fl_X6_12 dX6_slowingsFrom_15 ?_
    refine am_callV (c_X5_renew_7 ad M true hR hI.1.1 hI.1.2) okX5_renew ml_X6_224 (by decide) rfl rfl rfl ⟨by decide, by decide⟩ (Nat.le_of_ble_eq_true rfl) rfl dX6_slowingsFrom_18 (fun r18 N18 p18 => ?_)
    obtain ⟨rfl, hat7⟩ := p18
    obtain ⟨hm7, hv7⟩ := sl_mv_7 hI hat7
    refine am_aload_n rfl dX6_slowingsFrom_21 ?_
    refine am_getr (j := 2) (by decide) rfl rfl rfl hTX6 (by decide) fl_X6_28 dX6_slowingsFrom_22 ?_
    refine am_iload_n rfl dX6_slowingsFrom_25 ?_
    refine am_iload_n rfl dX6_slowingsFrom_26 ?_
    refine am_callVi (c_X5_ticksFrom_7 ad _ v a h1 h2 h3 h4) okX5_ticksFrom ml_X6_112 (by decide) rfl rfl rfl ⟨by decide, by decide⟩ (Nat.le_of_ble_eq_true rfl) rfl dX6_slowingsFrom_27 ?_
    rw [hat7.1.1 _ (sx_lt h1 h2 h3 h4).1]
    refine am_iconst (v := (-1)) (by decide) dX6_slowingsFrom_30 ?_
    refine am_icmp_eq (tgt := 39) (by decide) dX6_slowingsFrom_31 (fun h31 => ?_) (fun h31 => ?_)
    · first | have HM := hm7 | have HM := sl_mv.rf hI
      refine am_aload_n rfl dX6_slowingsFrom_39 ?_
      refine am_getr (j := 3) (by decide) rfl rfl rfl hTX6 (by decide) fl_X6_32 dX6_slowingsFrom_40 ?_
      refine am_aload_n rfl dX6_slowingsFrom_43 ?_
      refine am_getr (j := 0) (by decide) rfl rfl rfl hTX6 (by decide) fl_X6_12 dX6_slowingsFrom_44 ?_
      refine am_callV (c_X5_renew_11 ad _ false (hR.cong (HM.2.2.2 1 (by omega))) HM.1.2.1 HM.1.2.2) okX5_renew ml_X6_224 (by decide) rfl rfl rfl ⟨by decide, by decide⟩ (Nat.le_of_ble_eq_true rfl) rfl dX6_slowingsFrom_47 (fun r47 N47 p47 => ?_)
      obtain ⟨rfl, hat11⟩ := p47
      obtain ⟨hm11, hv11⟩ := sl_mv_11 HM.1 hat11
      refine am_aload_n rfl dX6_slowingsFrom_50 ?_
      refine am_getr (j := 3) (by decide) rfl rfl rfl hTX6 (by decide) fl_X6_32 dX6_slowingsFrom_51 ?_
      refine am_aret rfl (Or.inr ⟨_, rfl⟩) dX6_slowingsFrom_54 ?_
      first
      | exact ⟨hm7, Or.inl ⟨rfl, ⟨h7, fun e => h31 (by rw [e]; rfl)⟩, hv7⟩⟩
      | exact ⟨HM.tr hm11, Or.inr ⟨rfl, fun q => by first | exact q.1 h7 | exact q.2 ((sl_enc_none (sl_fin_ok hR true) _).mp h31), by rw [hv11, HM.2.2.2 1 (by omega)]⟩⟩
    · refine am_aload_n rfl dX6_slowingsFrom_34 ?_
      refine am_getr (j := 2) (by decide) rfl rfl rfl hTX6 (by decide) fl_X6_28 dX6_slowingsFrom_35 ?_
      refine am_aret rfl (Or.inr ⟨_, rfl⟩) dX6_slowingsFrom_38 ?_
      first
      | exact ⟨hm7, Or.inl ⟨rfl, ⟨h7, fun e => h31 (by rw [e]; rfl)⟩, hv7⟩⟩
      | exact ⟨HM.tr hm11, Or.inr ⟨rfl, fun q => by first | exact q.1 h7 | exact q.2 ((sl_enc_none (sl_fin_ok hR true) _).mp h31), by rw [hv11, HM.2.2.2 1 (by omega)]⟩⟩
end

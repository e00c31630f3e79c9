section
-- ===== PART A: goes FIRST, ahead of the names: the tables' words, and 'selects' of the private methods out of them =====
/-- a private method of a class that the tables say can be made, by its rows of tables_1 -/
def lw_okq (q : MethodName × Nat) : Prop := (q.1.cls ≠ "java/lang/invoke/MethodHandle" ∧ q.1.cls ≠ "java/lang/invoke/VarHandle") ∧ Cond.instantiable q.1.cls q.2 ∈ tables_1 ∧ Cond.privateMethod q.1 ∈ tables_1 ∧ Cond.instanceMethod q.1 ∈ tables_1
theorem lw_p0 : lw_okq (⟨"RampDriver$Ramps", "begin", "(LRampDriver$Rules;)V"⟩, 5) := ⟨⟨by decide +kernel, by decide +kernel⟩, List.mem_of_getElem? (i := 67) (by decide +kernel), List.mem_of_getElem? (i := 299) (by decide +kernel), List.mem_of_getElem? (i := 300) (by decide +kernel)⟩
theorem lw_p1 : lw_okq (⟨"RampDriver$Ramps", "find", "(II)V"⟩, 5) := ⟨⟨by decide +kernel, by decide +kernel⟩, List.mem_of_getElem? (i := 67) (by decide +kernel), List.mem_of_getElem? (i := 318) (by decide +kernel), List.mem_of_getElem? (i := 319) (by decide +kernel)⟩
theorem lw_p2 : lw_okq (⟨"RampDriver$Ramps", "lookBehind", "(LRampDriver$Rules;I)V"⟩, 5) := ⟨⟨by decide +kernel, by decide +kernel⟩, List.mem_of_getElem? (i := 67) (by decide +kernel), List.mem_of_getElem? (i := 322) (by decide +kernel), List.mem_of_getElem? (i := 323) (by decide +kernel)⟩
theorem lw_p3 : lw_okq (⟨"RampDriver$Ramps", "ticksAt", "(III)I"⟩, 5) := ⟨⟨by decide +kernel, by decide +kernel⟩, List.mem_of_getElem? (i := 67) (by decide +kernel), List.mem_of_getElem? (i := 368) (by decide +kernel), List.mem_of_getElem? (i := 369) (by decide +kernel)⟩
theorem lw_p4 : lw_okq (⟨"RampDriver", "slowingsFrom", "(II)LRampDriver$Slowings;"⟩, 9) := ⟨⟨by decide +kernel, by decide +kernel⟩, List.mem_of_getElem? (i := 16) (by decide +kernel), List.mem_of_getElem? (i := 377) (by decide +kernel), List.mem_of_getElem? (i := 378) (by decide +kernel)⟩
theorem lw_p5 : lw_okq (⟨"RampDriver$Slowings", "find", "(III)V"⟩, 6) := ⟨⟨by decide +kernel, by decide +kernel⟩, List.mem_of_getElem? (i := 89) (by decide +kernel), List.mem_of_getElem? (i := 388) (by decide +kernel), List.mem_of_getElem? (i := 389) (by decide +kernel)⟩
theorem lw_p6 : lw_okq (⟨"RampDriver$Slowings", "lookBehind", "(LRampDriver$Rules;I)V"⟩, 6) := ⟨⟨by decide +kernel, by decide +kernel⟩, List.mem_of_getElem? (i := 89) (by decide +kernel), List.mem_of_getElem? (i := 392) (by decide +kernel), List.mem_of_getElem? (i := 393) (by decide +kernel)⟩
theorem lw_p7 : lw_okq (⟨"RampDriver", "takeTick", "()V"⟩, 9) := ⟨⟨by decide +kernel, by decide +kernel⟩, List.mem_of_getElem? (i := 16) (by decide +kernel), List.mem_of_getElem? (i := 435) (by decide +kernel), List.mem_of_getElem? (i := 436) (by decide +kernel)⟩
theorem lw_p8 : lw_okq (⟨"RampDriver", "nextChange", "()I"⟩, 9) := ⟨⟨by decide +kernel, by decide +kernel⟩, List.mem_of_getElem? (i := 16) (by decide +kernel), List.mem_of_getElem? (i := 439) (by decide +kernel), List.mem_of_getElem? (i := 440) (by decide +kernel)⟩
theorem lw_p9 : lw_okq (⟨"RampDriver$Axis", "goneBehind", "(II)I"⟩, 6) := ⟨⟨by decide +kernel, by decide +kernel⟩, List.mem_of_getElem? (i := 160) (by decide +kernel), List.mem_of_getElem? (i := 457) (by decide +kernel), List.mem_of_getElem? (i := 458) (by decide +kernel)⟩
theorem lw_p10 : lw_okq (⟨"RampDriver", "axisOf", "(I)LRampDriver$Axis;"⟩, 9) := ⟨⟨by decide +kernel, by decide +kernel⟩, List.mem_of_getElem? (i := 16) (by decide +kernel), List.mem_of_getElem? (i := 478) (by decide +kernel), List.mem_of_getElem? (i := 479) (by decide +kernel)⟩
theorem lw_p11 : lw_okq (⟨"RampDriver$Currents", "numberAt", "(I)I"⟩, 3) := ⟨⟨by decide +kernel, by decide +kernel⟩, List.mem_of_getElem? (i := 188) (by decide +kernel), List.mem_of_getElem? (i := 525) (by decide +kernel), List.mem_of_getElem? (i := 526) (by decide +kernel)⟩
theorem lw_p12 : lw_okq (⟨"RampDriver$Currents", "missOfPair", "(II)I"⟩, 3) := ⟨⟨by decide +kernel, by decide +kernel⟩, List.mem_of_getElem? (i := 188) (by decide +kernel), List.mem_of_getElem? (i := 529) (by decide +kernel), List.mem_of_getElem? (i := 530) (by decide +kernel)⟩
theorem lw_p13 : lw_okq (⟨"RampDriver$Currents", "evenMiddle", "(I)V"⟩, 3) := ⟨⟨by decide +kernel, by decide +kernel⟩, List.mem_of_getElem? (i := 188) (by decide +kernel), List.mem_of_getElem? (i := 552) (by decide +kernel), List.mem_of_getElem? (i := 553) (by decide +kernel)⟩
theorem lw_p14 : lw_okq (⟨"RampDriver$Currents", "evenPair", "(I)V"⟩, 3) := ⟨⟨by decide +kernel, by decide +kernel⟩, List.mem_of_getElem? (i := 188) (by decide +kernel), List.mem_of_getElem? (i := 557) (by decide +kernel), List.mem_of_getElem? (i := 558) (by decide +kernel)⟩
theorem lw_p15 : lw_okq (⟨"RampDriver$Currents", "apart", "(III)I"⟩, 3) := ⟨⟨by decide +kernel, by decide +kernel⟩, List.mem_of_getElem? (i := 188) (by decide +kernel), List.mem_of_getElem? (i := 562) (by decide +kernel), List.mem_of_getElem? (i := 563) (by decide +kernel)⟩
def lw_privs_1 : List (MethodName × Nat) := [(⟨"RampDriver$Ramps", "begin", "(LRampDriver$Rules;)V"⟩, 5), (⟨"RampDriver$Ramps", "find", "(II)V"⟩, 5), (⟨"RampDriver$Ramps", "lookBehind", "(LRampDriver$Rules;I)V"⟩, 5), (⟨"RampDriver$Ramps", "ticksAt", "(III)I"⟩, 5), (⟨"RampDriver", "slowingsFrom", "(II)LRampDriver$Slowings;"⟩, 9), (⟨"RampDriver$Slowings", "find", "(III)V"⟩, 6), (⟨"RampDriver$Slowings", "lookBehind", "(LRampDriver$Rules;I)V"⟩, 6), (⟨"RampDriver", "takeTick", "()V"⟩, 9), (⟨"RampDriver", "nextChange", "()I"⟩, 9), (⟨"RampDriver$Axis", "goneBehind", "(II)I"⟩, 6), (⟨"RampDriver", "axisOf", "(I)LRampDriver$Axis;"⟩, 9), (⟨"RampDriver$Currents", "numberAt", "(I)I"⟩, 3), (⟨"RampDriver$Currents", "missOfPair", "(II)I"⟩, 3), (⟨"RampDriver$Currents", "evenMiddle", "(I)V"⟩, 3), (⟨"RampDriver$Currents", "evenPair", "(I)V"⟩, 3), (⟨"RampDriver$Currents", "apart", "(III)I"⟩, 3)]
theorem lw_r1 : ∀ q ∈ lw_privs_1, lw_okq q := List.forall_mem_cons.mpr ⟨lw_p0, List.forall_mem_cons.mpr ⟨lw_p1, List.forall_mem_cons.mpr ⟨lw_p2, List.forall_mem_cons.mpr ⟨lw_p3, List.forall_mem_cons.mpr ⟨lw_p4, List.forall_mem_cons.mpr ⟨lw_p5, List.forall_mem_cons.mpr ⟨lw_p6, List.forall_mem_cons.mpr ⟨lw_p7, List.forall_mem_cons.mpr ⟨lw_p8, List.forall_mem_cons.mpr ⟨lw_p9, List.forall_mem_cons.mpr ⟨lw_p10, List.forall_mem_cons.mpr ⟨lw_p11, List.forall_mem_cons.mpr ⟨lw_p12, List.forall_mem_cons.mpr ⟨lw_p13, List.forall_mem_cons.mpr ⟨lw_p14, List.forall_mem_cons.mpr ⟨lw_p15, fun _ h => absurd h List.not_mem_nil⟩⟩⟩⟩⟩⟩⟩⟩⟩⟩⟩⟩⟩⟩⟩⟩
theorem lw_p16 : lw_okq (⟨"java/lang/Throwable", "fillInStackTrace", "(I)Ljava/lang/Throwable;"⟩, 6) := ⟨⟨by decide +kernel, by decide +kernel⟩, List.mem_of_getElem? (i := 610) (by decide +kernel), List.mem_of_getElem? (i := 608) (by decide +kernel), List.mem_of_getElem? (i := 609) (by decide +kernel)⟩
theorem lw_p17 : lw_okq (⟨"RampDriver$Currents", "restOf", "(I)I"⟩, 3) := ⟨⟨by decide +kernel, by decide +kernel⟩, List.mem_of_getElem? (i := 188) (by decide +kernel), List.mem_of_getElem? (i := 646) (by decide +kernel), List.mem_of_getElem? (i := 647) (by decide +kernel)⟩
theorem lw_p18 : lw_okq (⟨"RampDriver$Currents", "quarterOf", "(I)I"⟩, 3) := ⟨⟨by decide +kernel, by decide +kernel⟩, List.mem_of_getElem? (i := 188) (by decide +kernel), List.mem_of_getElem? (i := 650) (by decide +kernel), List.mem_of_getElem? (i := 651) (by decide +kernel)⟩
theorem lw_p19 : lw_okq (⟨"RampDriverModel", "ramps", "(I)Z"⟩, 36) := ⟨⟨by decide +kernel, by decide +kernel⟩, List.mem_of_getElem? (i := 658) (by decide +kernel), List.mem_of_getElem? (i := 808) (by decide +kernel), List.mem_of_getElem? (i := 809) (by decide +kernel)⟩
theorem lw_p20 : lw_okq (⟨"RampDriverModel", "spread", "()V"⟩, 36) := ⟨⟨by decide +kernel, by decide +kernel⟩, List.mem_of_getElem? (i := 658) (by decide +kernel), List.mem_of_getElem? (i := 812) (by decide +kernel), List.mem_of_getElem? (i := 813) (by decide +kernel)⟩
theorem lw_p21 : lw_okq (⟨"RampDriverModel", "isRest", "(II)Z"⟩, 36) := ⟨⟨by decide +kernel, by decide +kernel⟩, List.mem_of_getElem? (i := 658) (by decide +kernel), List.mem_of_getElem? (i := 817) (by decide +kernel), List.mem_of_getElem? (i := 818) (by decide +kernel)⟩
theorem lw_p22 : lw_okq (⟨"RampDriverModel", "mayGo", "(IIIZ)Z"⟩, 36) := ⟨⟨by decide +kernel, by decide +kernel⟩, List.mem_of_getElem? (i := 658) (by decide +kernel), List.mem_of_getElem? (i := 825) (by decide +kernel), List.mem_of_getElem? (i := 826) (by decide +kernel)⟩
theorem lw_p23 : lw_okq (⟨"RampDriverModel", "isState", "(II)Z"⟩, 36) := ⟨⟨by decide +kernel, by decide +kernel⟩, List.mem_of_getElem? (i := 658) (by decide +kernel), List.mem_of_getElem? (i := 829) (by decide +kernel), List.mem_of_getElem? (i := 830) (by decide +kernel)⟩
theorem lw_p24 : lw_okq (⟨"RampDriverModel", "isSafe", "(II)Z"⟩, 36) := ⟨⟨by decide +kernel, by decide +kernel⟩, List.mem_of_getElem? (i := 658) (by decide +kernel), List.mem_of_getElem? (i := 833) (by decide +kernel), List.mem_of_getElem? (i := 834) (by decide +kernel)⟩
theorem lw_p25 : lw_okq (⟨"RampDriverModel", "slowsFrom", "(II)Z"⟩, 36) := ⟨⟨by decide +kernel, by decide +kernel⟩, List.mem_of_getElem? (i := 658) (by decide +kernel), List.mem_of_getElem? (i := 845) (by decide +kernel), List.mem_of_getElem? (i := 846) (by decide +kernel)⟩
theorem lw_p26 : lw_okq (⟨"RampDriverModel", "slows", "(Z)V"⟩, 36) := ⟨⟨by decide +kernel, by decide +kernel⟩, List.mem_of_getElem? (i := 658) (by decide +kernel), List.mem_of_getElem? (i := 849) (by decide +kernel), List.mem_of_getElem? (i := 850) (by decide +kernel)⟩
theorem lw_p27 : lw_okq (⟨"RampDriverModel", "follow", "()V"⟩, 36) := ⟨⟨by decide +kernel, by decide +kernel⟩, List.mem_of_getElem? (i := 658) (by decide +kernel), List.mem_of_getElem? (i := 861) (by decide +kernel), List.mem_of_getElem? (i := 862) (by decide +kernel)⟩
theorem lw_p28 : lw_okq (⟨"RampDriverModel", "gone", "(II)I"⟩, 36) := ⟨⟨by decide +kernel, by decide +kernel⟩, List.mem_of_getElem? (i := 658) (by decide +kernel), List.mem_of_getElem? (i := 869) (by decide +kernel), List.mem_of_getElem? (i := 870) (by decide +kernel)⟩
theorem lw_p29 : lw_okq (⟨"RampDriverModel", "missOf", "(I)I"⟩, 36) := ⟨⟨by decide +kernel, by decide +kernel⟩, List.mem_of_getElem? (i := 658) (by decide +kernel), List.mem_of_getElem? (i := 910) (by decide +kernel), List.mem_of_getElem? (i := 911) (by decide +kernel)⟩
def lw_privs_2 : List (MethodName × Nat) := [(⟨"java/lang/Throwable", "fillInStackTrace", "(I)Ljava/lang/Throwable;"⟩, 6), (⟨"RampDriver$Currents", "restOf", "(I)I"⟩, 3), (⟨"RampDriver$Currents", "quarterOf", "(I)I"⟩, 3), (⟨"RampDriverModel", "ramps", "(I)Z"⟩, 36), (⟨"RampDriverModel", "spread", "()V"⟩, 36), (⟨"RampDriverModel", "isRest", "(II)Z"⟩, 36), (⟨"RampDriverModel", "mayGo", "(IIIZ)Z"⟩, 36), (⟨"RampDriverModel", "isState", "(II)Z"⟩, 36), (⟨"RampDriverModel", "isSafe", "(II)Z"⟩, 36), (⟨"RampDriverModel", "slowsFrom", "(II)Z"⟩, 36), (⟨"RampDriverModel", "slows", "(Z)V"⟩, 36), (⟨"RampDriverModel", "follow", "()V"⟩, 36), (⟨"RampDriverModel", "gone", "(II)I"⟩, 36), (⟨"RampDriverModel", "missOf", "(I)I"⟩, 36)]
theorem lw_r2 : ∀ q ∈ lw_privs_2, lw_okq q := List.forall_mem_cons.mpr ⟨lw_p16, List.forall_mem_cons.mpr ⟨lw_p17, List.forall_mem_cons.mpr ⟨lw_p18, List.forall_mem_cons.mpr ⟨lw_p19, List.forall_mem_cons.mpr ⟨lw_p20, List.forall_mem_cons.mpr ⟨lw_p21, List.forall_mem_cons.mpr ⟨lw_p22, List.forall_mem_cons.mpr ⟨lw_p23, List.forall_mem_cons.mpr ⟨lw_p24, List.forall_mem_cons.mpr ⟨lw_p25, List.forall_mem_cons.mpr ⟨lw_p26, List.forall_mem_cons.mpr ⟨lw_p27, List.forall_mem_cons.mpr ⟨lw_p28, List.forall_mem_cons.mpr ⟨lw_p29, fun _ h => absurd h List.not_mem_nil⟩⟩⟩⟩⟩⟩⟩⟩⟩⟩⟩⟩⟩⟩
def lw_privs : List (MethodName × Nat) := lw_privs_1 ++ (lw_privs_2)
def lw_tbl : List Cond := k2_sels lw_privs ++ tables_1
theorem lw_privs_ok : ∀ q ∈ lw_privs, lw_okq q := by
  show ∀ q ∈ lw_privs_1 ++ (lw_privs_2), lw_okq q
  exact List.forall_mem_append.mpr ⟨lw_r1, lw_r2⟩
-- ===== end of PART A; then your names; then what follows =====
end
section
/-! ===== BEGIN printed: names, fields, word lists, decode rows ===== -/
def RX0 : String := "RampDriver$Axis"
def TX0 : u_T := fun k => match k with
  | 0 => ("RampDriver$Axis", "place", "I", false)
  | 1 => ("RampDriver$Axis", "truePlace", "I", false)
  | 2 => ("RampDriver$Axis", "hasSwitch", "Z", false)
  | 3 => ("RampDriver$Axis", "switchPlace", "I", false)
  | 4 => ("RampDriver$Axis", "way", "I", false)
  | _ => ("RampDriver$Axis", "gone", "I", false)
def tyX0 : Nat → FieldType := fun k => match k with
  | 0 => .int
  | 1 => .int
  | 2 => .boolean
  | 3 => .int
  | 4 => .int
  | _ => .int
theorem nmX0 : ∀ a, a < 6 → ∀ b, b < 6 → a ≠ b → (TX0 a).2.1 ≠ (TX0 b).2.1 := by decide +kernel
theorem tyX0_ok : ∀ k, k < 6 → parseFieldDescriptor (TX0 k).2.2.1 = some (tyX0 k) := by decide +kernel
abbrev cX0_init : ByteArray := prog_2_method_1_code
def yX0_init : MethodName := ⟨RX0, "<init>", "()V"⟩
abbrev cX0_start : ByteArray := prog_2_method_2_code
def yX0_start : MethodName := ⟨RX0, "start", "(I)V"⟩
abbrev cX0_follow : ByteArray := prog_2_method_3_code
def yX0_follow : MethodName := ⟨RX0, "follow", "(IIZ)V"⟩
abbrev cX0_goneBehind : ByteArray := prog_2_method_4_code
def yX0_goneBehind : MethodName := ⟨RX0, "goneBehind", "(II)I"⟩
abbrev cX0_putSwitch : ByteArray := prog_2_method_5_code
def yX0_putSwitch : MethodName := ⟨RX0, "putSwitch", "(I)V"⟩
abbrev cX0_isOn : ByteArray := prog_2_method_6_code
def yX0_isOn : MethodName := ⟨RX0, "isOn", "()Z"⟩
abbrev cX0_findSwitch : ByteArray := prog_2_method_7_code
def yX0_findSwitch : MethodName := ⟨RX0, "findSwitch", "()I"⟩
def RX1 : String := "RampDriver$Currents"
def TX1 : u_T := fun k => match k with
  | 0 => ("RampDriver$Currents", "parts", "I", false)
  | 1 => ("RampDriver$Currents", "level", "I", false)
  | _ => ("RampDriver$Currents", "numbers", "[I", true)
def tyX1 : Nat → FieldType := fun k => match k with
  | 0 => .int
  | 1 => .int
  | _ => .array .int
theorem nmX1 : ∀ a, a < 3 → ∀ b, b < 3 → a ≠ b → (TX1 a).2.1 ≠ (TX1 b).2.1 := by decide +kernel
theorem tyX1_ok : ∀ k, k < 3 → parseFieldDescriptor (TX1 k).2.2.1 = some (tyX1 k) := by decide +kernel
abbrev cX1_init : ByteArray := prog_3_method_1_code
def yX1_init : MethodName := ⟨RX1, "<init>", "()V"⟩
abbrev cX1_lay : ByteArray := prog_3_method_2_code
def yX1_lay : MethodName := ⟨RX1, "lay", "(II)V"⟩
abbrev cX1_put : ByteArray := prog_3_method_3_code
def yX1_put : MethodName := ⟨RX1, "put", "(II)V"⟩
abbrev cX1_numberAt : ByteArray := prog_3_method_4_code
def yX1_numberAt : MethodName := ⟨RX1, "numberAt", "(I)I"⟩
abbrev cX1_quarterOf : ByteArray := prog_3_method_5_code
def yX1_quarterOf : MethodName := ⟨RX1, "quarterOf", "(I)I"⟩
abbrev cX1_restOf : ByteArray := prog_3_method_6_code
def yX1_restOf : MethodName := ⟨RX1, "restOf", "(I)I"⟩
abbrev cX1_firstAt : ByteArray := prog_3_method_7_code
def yX1_firstAt : MethodName := ⟨RX1, "firstAt", "(I)I"⟩
abbrev cX1_secondAt : ByteArray := prog_3_method_8_code
def yX1_secondAt : MethodName := ⟨RX1, "secondAt", "(I)I"⟩
abbrev cX1_missOfPair : ByteArray := prog_3_method_9_code
def yX1_missOfPair : MethodName := ⟨RX1, "missOfPair", "(II)I"⟩
abbrev cX1_missOf : ByteArray := prog_3_method_10_code
def yX1_missOf : MethodName := ⟨RX1, "missOf", "(I)I"⟩
abbrev cX1_greatestMiss : ByteArray := prog_3_method_11_code
def yX1_greatestMiss : MethodName := ⟨RX1, "greatestMiss", "()I"⟩
abbrev cX1_even : ByteArray := prog_3_method_12_code
def yX1_even : MethodName := ⟨RX1, "even", "()V"⟩
abbrev cX1_evenMiddle : ByteArray := prog_3_method_13_code
def yX1_evenMiddle : MethodName := ⟨RX1, "evenMiddle", "(I)V"⟩
abbrev cX1_evenPair : ByteArray := prog_3_method_14_code
def yX1_evenPair : MethodName := ⟨RX1, "evenPair", "(I)V"⟩
abbrev cX1_apart : ByteArray := prog_3_method_15_code
def yX1_apart : MethodName := ⟨RX1, "apart", "(III)I"⟩
def RX2 : String := "RampDriver$Move"
def TX2 : u_T := fun k => match k with
  | 0 => ("RampDriver$Move", "steps", "I", false)
  | 1 => ("RampDriver$Move", "stepsMade", "I", false)
  | 2 => ("RampDriver$Move", "speed", "I", false)
  | 3 => ("RampDriver$Move", "change", "I", false)
  | 4 => ("RampDriver$Move", "ticksMade", "I", false)
  | 5 => ("RampDriver$Move", "stepsMissed", "I", false)
  | 6 => ("RampDriver$Move", "firstMissed", "I", false)
  | 7 => ("RampDriver$Move", "stopped", "Z", false)
  | 8 => ("RampDriver$Move", "slowsSafely", "Z", false)
  | _ => ("RampDriver$Move", "ticksLeft", "I", false)
def tyX2 : Nat → FieldType := fun k => match k with
  | 0 => .int
  | 1 => .int
  | 2 => .int
  | 3 => .int
  | 4 => .int
  | 5 => .int
  | 6 => .int
  | 7 => .boolean
  | 8 => .boolean
  | _ => .int
theorem nmX2 : ∀ a, a < 10 → ∀ b, b < 10 → a ≠ b → (TX2 a).2.1 ≠ (TX2 b).2.1 := by decide +kernel
theorem tyX2_ok : ∀ k, k < 10 → parseFieldDescriptor (TX2 k).2.2.1 = some (tyX2 k) := by decide +kernel
abbrev cX2_init : ByteArray := prog_4_method_1_code
def yX2_init : MethodName := ⟨RX2, "<init>", "()V"⟩
abbrev cX2_goesOn : ByteArray := prog_4_method_2_code
def yX2_goesOn : MethodName := ⟨RX2, "goesOn", "()Z"⟩
abbrev cX2_start : ByteArray := prog_4_method_3_code
def yX2_start : MethodName := ⟨RX2, "start", "(II)V"⟩
abbrev cX2_goBySlowing : ByteArray := prog_4_method_4_code
def yX2_goBySlowing : MethodName := ⟨RX2, "goBySlowing", "(IZ)V"⟩
abbrev cX2_takeTick : ByteArray := prog_4_method_5_code
def yX2_takeTick : MethodName := ⟨RX2, "takeTick", "(IIZ)V"⟩
abbrev cX2_end : ByteArray := prog_4_method_6_code
def yX2_end : MethodName := ⟨RX2, "end", "()V"⟩
def RX3 : String := "RampDriver$Ramps"
def TX3 : u_T := fun k => match k with
  | 0 => ("RampDriver$Ramps", "ticks", "[I", true)
  | 1 => ("RampDriver$Ramps", "found", "[I", true)
  | 2 => ("RampDriver$Ramps", "looked", "I", false)
  | 3 => ("RampDriver$Ramps", "count", "I", false)
  | _ => ("RampDriver$Ramps", "version", "I", false)
def tyX3 : Nat → FieldType := fun k => match k with
  | 0 => .array .int
  | 1 => .array .int
  | 2 => .int
  | 3 => .int
  | _ => .int
theorem nmX3 : ∀ a, a < 5 → ∀ b, b < 5 → a ≠ b → (TX3 a).2.1 ≠ (TX3 b).2.1 := by decide +kernel
theorem tyX3_ok : ∀ k, k < 5 → parseFieldDescriptor (TX3 k).2.2.1 = some (tyX3 k) := by decide +kernel
abbrev cX3_init : ByteArray := prog_5_method_1_code
def yX3_init : MethodName := ⟨RX3, "<init>", "()V"⟩
abbrev cX3_ticksOf : ByteArray := prog_5_method_2_code
def yX3_ticksOf : MethodName := ⟨RX3, "ticksOf", "(LRampDriver$Rules;I)I"⟩
abbrev cX3_speedIn : ByteArray := prog_5_method_3_code
def yX3_speedIn : MethodName := ⟨RX3, "speedIn", "(LRampDriver$Rules;II)I"⟩
abbrev cX3_nextChange : ByteArray := prog_5_method_4_code
def yX3_nextChange : MethodName := ⟨RX3, "nextChange", "(LRampDriver$Rules;III)I"⟩
abbrev cX3_begin : ByteArray := prog_5_method_5_code
def yX3_begin : MethodName := ⟨RX3, "begin", "(LRampDriver$Rules;)V"⟩
abbrev cX3_lookBehind : ByteArray := prog_5_method_6_code
def yX3_lookBehind : MethodName := ⟨RX3, "lookBehind", "(LRampDriver$Rules;I)V"⟩
abbrev cX3_find : ByteArray := prog_5_method_7_code
def yX3_find : MethodName := ⟨RX3, "find", "(II)V"⟩
abbrev cX3_ticksAt : ByteArray := prog_5_method_8_code
def yX3_ticksAt : MethodName := ⟨RX3, "ticksAt", "(III)I"⟩
abbrev cX3_nodeOf : ByteArray := prog_5_method_9_code
def yX3_nodeOf : MethodName := ⟨RX3, "nodeOf", "(III)I"⟩
def RX4 : String := "RampDriver$Rules"
def TX4 : u_T := fun k => match k with
  | 0 => ("RampDriver$Rules", "topSpeed", "I", false)
  | 1 => ("RampDriver$Rules", "topChange", "I", false)
  | 2 => ("RampDriver$Rules", "jerk", "I", false)
  | 3 => ("RampDriver$Rules", "load", "I", false)
  | 4 => ("RampDriver$Rules", "mass", "I", false)
  | 5 => ("RampDriver$Rules", "bads", "[Z", true)
  | 6 => ("RampDriver$Rules", "pulls", "[I", true)
  | 7 => ("RampDriver$Rules", "onlySafe", "Z", false)
  | _ => ("RampDriver$Rules", "version", "I", false)
def tyX4 : Nat → FieldType := fun k => match k with
  | 0 => .int
  | 1 => .int
  | 2 => .int
  | 3 => .int
  | 4 => .int
  | 5 => .array .boolean
  | 6 => .array .int
  | 7 => .boolean
  | _ => .int
theorem nmX4 : ∀ a, a < 9 → ∀ b, b < 9 → a ≠ b → (TX4 a).2.1 ≠ (TX4 b).2.1 := by decide +kernel
theorem tyX4_ok : ∀ k, k < 9 → parseFieldDescriptor (TX4 k).2.2.1 = some (tyX4 k) := by decide +kernel
abbrev cX4_init : ByteArray := prog_6_method_1_code
def yX4_init : MethodName := ⟨RX4, "<init>", "()V"⟩
abbrev cX4_tellLimits : ByteArray := prog_6_method_2_code
def yX4_tellLimits : MethodName := ⟨RX4, "tellLimits", "(III)V"⟩
abbrev cX4_tellBad : ByteArray := prog_6_method_3_code
def yX4_tellBad : MethodName := ⟨RX4, "tellBad", "(IZ)V"⟩
abbrev cX4_tellPull : ByteArray := prog_6_method_4_code
def yX4_tellPull : MethodName := ⟨RX4, "tellPull", "(II)V"⟩
abbrev cX4_tellLoad : ByteArray := prog_6_method_5_code
def yX4_tellLoad : MethodName := ⟨RX4, "tellLoad", "(II)V"⟩
abbrev cX4_tellOnlySafe : ByteArray := prog_6_method_6_code
def yX4_tellOnlySafe : MethodName := ⟨RX4, "tellOnlySafe", "(Z)V"⟩
abbrev cX4_isBad : ByteArray := prog_6_method_7_code
def yX4_isBad : MethodName := ⟨RX4, "isBad", "(I)Z"⟩
abbrev cX4_isSpeed : ByteArray := prog_6_method_8_code
def yX4_isSpeed : MethodName := ⟨RX4, "isSpeed", "(I)Z"⟩
abbrev cX4_isState : ByteArray := prog_6_method_9_code
def yX4_isState : MethodName := ⟨RX4, "isState", "(II)Z"⟩
abbrev cX4_isRest : ByteArray := prog_6_method_10_code
def yX4_isRest : MethodName := ⟨RX4, "isRest", "(II)Z"⟩
abbrev cX4_isSafe : ByteArray := prog_6_method_11_code
def yX4_isSafe : MethodName := ⟨RX4, "isSafe", "(II)Z"⟩
abbrev cX4_mayEnd : ByteArray := prog_6_method_12_code
def yX4_mayEnd : MethodName := ⟨RX4, "mayEnd", "(IIZ)Z"⟩
abbrev cX4_leastBeside : ByteArray := prog_6_method_13_code
def yX4_leastBeside : MethodName := ⟨RX4, "leastBeside", "(I)I"⟩
abbrev cX4_mostBeside : ByteArray := prog_6_method_14_code
def yX4_mostBeside : MethodName := ⟨RX4, "mostBeside", "(I)I"⟩
def RX5 : String := "RampDriver$Slowings"
def TX5 : u_T := fun k => match k with
  | 0 => ("RampDriver$Slowings", "safeAlone", "Z", true)
  | 1 => ("RampDriver$Slowings", "ticks", "[I", true)
  | 2 => ("RampDriver$Slowings", "steps", "[I", true)
  | 3 => ("RampDriver$Slowings", "found", "[I", true)
  | 4 => ("RampDriver$Slowings", "count", "I", false)
  | _ => ("RampDriver$Slowings", "version", "I", false)
def tyX5 : Nat → FieldType := fun k => match k with
  | 0 => .boolean
  | 1 => .array .int
  | 2 => .array .int
  | 3 => .array .int
  | 4 => .int
  | _ => .int
theorem nmX5 : ∀ a, a < 6 → ∀ b, b < 6 → a ≠ b → (TX5 a).2.1 ≠ (TX5 b).2.1 := by decide +kernel
theorem tyX5_ok : ∀ k, k < 6 → parseFieldDescriptor (TX5 k).2.2.1 = some (tyX5 k) := by decide +kernel
abbrev cX5_init : ByteArray := prog_7_method_1_code
def yX5_init : MethodName := ⟨RX5, "<init>", "(Z)V"⟩
abbrev cX5_ticksFrom : ByteArray := prog_7_method_2_code
def yX5_ticksFrom : MethodName := ⟨RX5, "ticksFrom", "(II)I"⟩
abbrev cX5_stepsFrom : ByteArray := prog_7_method_3_code
def yX5_stepsFrom : MethodName := ⟨RX5, "stepsFrom", "(II)I"⟩
abbrev cX5_nextChange : ByteArray := prog_7_method_4_code
def yX5_nextChange : MethodName := ⟨RX5, "nextChange", "(LRampDriver$Rules;II)I"⟩
abbrev cX5_renew : ByteArray := prog_7_method_5_code
def yX5_renew : MethodName := ⟨RX5, "renew", "(LRampDriver$Rules;)V"⟩
abbrev cX5_lookBehind : ByteArray := prog_7_method_6_code
def yX5_lookBehind : MethodName := ⟨RX5, "lookBehind", "(LRampDriver$Rules;I)V"⟩
abbrev cX5_find : ByteArray := prog_7_method_7_code
def yX5_find : MethodName := ⟨RX5, "find", "(III)V"⟩
def RX6 : String := "RampDriver"
def TX6 : u_T := fun k => match k with
  | 0 => ("RampDriver", "rules", "LRampDriver$Rules;", true)
  | 1 => ("RampDriver", "ramps", "LRampDriver$Ramps;", true)
  | 2 => ("RampDriver", "safeSlowings", "LRampDriver$Slowings;", true)
  | 3 => ("RampDriver", "anySlowings", "LRampDriver$Slowings;", true)
  | 4 => ("RampDriver", "latest", "LRampDriver$Move;", true)
  | 5 => ("RampDriver", "axis0", "LRampDriver$Axis;", true)
  | 6 => ("RampDriver", "axis1", "LRampDriver$Axis;", true)
  | 7 => ("RampDriver", "axis2", "LRampDriver$Axis;", true)
  | _ => ("RampDriver", "currents", "LRampDriver$Currents;", true)
def tyX6 : Nat → FieldType := fun k => match k with
  | 0 => .object "RampDriver$Rules"
  | 1 => .object "RampDriver$Ramps"
  | 2 => .object "RampDriver$Slowings"
  | 3 => .object "RampDriver$Slowings"
  | 4 => .object "RampDriver$Move"
  | 5 => .object "RampDriver$Axis"
  | 6 => .object "RampDriver$Axis"
  | 7 => .object "RampDriver$Axis"
  | _ => .object "RampDriver$Currents"
theorem nmX6 : ∀ a, a < 9 → ∀ b, b < 9 → a ≠ b → (TX6 a).2.1 ≠ (TX6 b).2.1 := by decide +kernel
theorem tyX6_ok : ∀ k, k < 9 → parseFieldDescriptor (TX6 k).2.2.1 = some (tyX6 k) := by decide +kernel
abbrev cX6_init : ByteArray := prog_1_method_1_code
def yX6_init : MethodName := ⟨RX6, "<init>", "()V"⟩
abbrev cX6_limits : ByteArray := prog_1_method_2_code
def yX6_limits : MethodName := ⟨RX6, "limits", "(III)Z"⟩
abbrev cX6_bad : ByteArray := prog_1_method_3_code
def yX6_bad : MethodName := ⟨RX6, "bad", "(IZ)Z"⟩
abbrev cX6_pull : ByteArray := prog_1_method_4_code
def yX6_pull : MethodName := ⟨RX6, "pull", "(II)Z"⟩
abbrev cX6_load : ByteArray := prog_1_method_5_code
def yX6_load : MethodName := ⟨RX6, "load", "(II)Z"⟩
abbrev cX6_only : ByteArray := prog_1_method_6_code
def yX6_only : MethodName := ⟨RX6, "only", "(Z)Z"⟩
abbrev cX6_ramp : ByteArray := prog_1_method_7_code
def yX6_ramp : MethodName := ⟨RX6, "ramp", "(I)I"⟩
abbrev cX6_speed : ByteArray := prog_1_method_8_code
def yX6_speed : MethodName := ⟨RX6, "speed", "(II)I"⟩
abbrev cX6_slowing : ByteArray := prog_1_method_9_code
def yX6_slowing : MethodName := ⟨RX6, "slowing", "(III)I"⟩
abbrev cX6_move : ByteArray := prog_1_method_10_code
def yX6_move : MethodName := ⟨RX6, "move", "(III)I"⟩
abbrev cX6_tick : ByteArray := prog_1_method_11_code
def yX6_tick : MethodName := ⟨RX6, "tick", "(I)I"⟩
abbrev cX6_stop : ByteArray := prog_1_method_12_code
def yX6_stop : MethodName := ⟨RX6, "stop", "()I"⟩
abbrev cX6_place : ByteArray := prog_1_method_13_code
def yX6_place : MethodName := ⟨RX6, "place", "(IZ)I"⟩
abbrev cX6_state : ByteArray := prog_1_method_14_code
def yX6_state : MethodName := ⟨RX6, "state", "(I)I"⟩
abbrev cX6_at : ByteArray := prog_1_method_15_code
def yX6_at : MethodName := ⟨RX6, "at", "(II)Z"⟩
abbrev cX6_on : ByteArray := prog_1_method_16_code
def yX6_on : MethodName := ⟨RX6, "on", "(I)I"⟩
abbrev cX6_home : ByteArray := prog_1_method_17_code
def yX6_home : MethodName := ⟨RX6, "home", "(I)I"⟩
abbrev cX6_table : ByteArray := prog_1_method_18_code
def yX6_table : MethodName := ⟨RX6, "table", "(II)Z"⟩
abbrev cX6_set : ByteArray := prog_1_method_19_code
def yX6_set : MethodName := ⟨RX6, "set", "(II)Z"⟩
abbrev cX6_current : ByteArray := prog_1_method_20_code
def yX6_current : MethodName := ⟨RX6, "current", "(II)I"⟩
abbrev cX6_miss : ByteArray := prog_1_method_21_code
def yX6_miss : MethodName := ⟨RX6, "miss", "(I)I"⟩
abbrev cX6_evenness : ByteArray := prog_1_method_22_code
def yX6_evenness : MethodName := ⟨RX6, "evenness", "()I"⟩
abbrev cX6_smooth : ByteArray := prog_1_method_23_code
def yX6_smooth : MethodName := ⟨RX6, "smooth", "()I"⟩
abbrev cX6_isWithin : ByteArray := prog_1_method_24_code
def yX6_isWithin : MethodName := ⟨RX6, "isWithin", "(III)Z"⟩
abbrev cX6_isWay : ByteArray := prog_1_method_25_code
def yX6_isWay : MethodName := ⟨RX6, "isWay", "(I)Z"⟩
abbrev cX6_stateNumber : ByteArray := prog_1_method_26_code
def yX6_stateNumber : MethodName := ⟨RX6, "stateNumber", "(II)I"⟩
abbrev cX6_axisOf : ByteArray := prog_1_method_27_code
def yX6_axisOf : MethodName := ⟨RX6, "axisOf", "(I)LRampDriver$Axis;"⟩
abbrev cX6_slowingsFrom : ByteArray := prog_1_method_28_code
def yX6_slowingsFrom : MethodName := ⟨RX6, "slowingsFrom", "(II)LRampDriver$Slowings;"⟩
abbrev cX6_takeTick : ByteArray := prog_1_method_29_code
def yX6_takeTick : MethodName := ⟨RX6, "takeTick", "()V"⟩
abbrev cX6_nextChange : ByteArray := prog_1_method_30_code
def yX6_nextChange : MethodName := ⟨RX6, "nextChange", "()I"⟩
def RX7 : String := "RampDriverModel"
def TX7 : u_T := fun k => match k with
  | 0 => ("RampDriverModel", "thrown", "I", false)
  | 1 => ("RampDriverModel", "top", "I", false)
  | 2 => ("RampDriverModel", "change", "I", false)
  | 3 => ("RampDriverModel", "jerk", "I", false)
  | 4 => ("RampDriverModel", "load", "I", false)
  | 5 => ("RampDriverModel", "mass", "I", false)
  | 6 => ("RampDriverModel", "isBad", "[Z", true)
  | 7 => ("RampDriverModel", "pull", "[I", true)
  | 8 => ("RampDriverModel", "isOnly", "Z", false)
  | 9 => ("RampDriverModel", "left", "[I", true)
  | 10 => ("RampDriverModel", "queue", "[I", true)
  | 11 => ("RampDriverModel", "row", "[I", true)
  | 12 => ("RampDriverModel", "rowLong", "I", false)
  | 13 => ("RampDriverModel", "slowTicks", "[I", true)
  | 14 => ("RampDriverModel", "slowSteps", "[I", true)
  | 15 => ("RampDriverModel", "isMove", "Z", false)
  | 16 => ("RampDriverModel", "isStopped", "Z", false)
  | 17 => ("RampDriverModel", "begun", "[I", true)
  | 18 => ("RampDriverModel", "by", "[I", true)
  | 19 => ("RampDriverModel", "places", "[I", true)
  | 20 => ("RampDriverModel", "truePlaces", "[I", true)
  | 21 => ("RampDriverModel", "plan", "[I", true)
  | 22 => ("RampDriverModel", "planLong", "I", false)
  | 23 => ("RampDriverModel", "planAt", "I", false)
  | 24 => ("RampDriverModel", "ticks", "I", false)
  | 25 => ("RampDriverModel", "m", "I", false)
  | 26 => ("RampDriverModel", "n", "I", false)
  | 27 => ("RampDriverModel", "v", "I", false)
  | 28 => ("RampDriverModel", "a", "I", false)
  | 29 => ("RampDriverModel", "missed", "I", false)
  | 30 => ("RampDriverModel", "firstMissed", "I", false)
  | 31 => ("RampDriverModel", "switchAt", "[I", true)
  | 32 => ("RampDriverModel", "hasSwitch", "[Z", true)
  | 33 => ("RampDriverModel", "currents", "[I", true)
  | 34 => ("RampDriverModel", "parts", "I", false)
  | _ => ("RampDriverModel", "level", "I", false)
def tyX7 : Nat → FieldType := fun k => match k with
  | 0 => .int
  | 1 => .int
  | 2 => .int
  | 3 => .int
  | 4 => .int
  | 5 => .int
  | 6 => .array .boolean
  | 7 => .array .int
  | 8 => .boolean
  | 9 => .array .int
  | 10 => .array .int
  | 11 => .array .int
  | 12 => .int
  | 13 => .array .int
  | 14 => .array .int
  | 15 => .boolean
  | 16 => .boolean
  | 17 => .array .int
  | 18 => .array .int
  | 19 => .array .int
  | 20 => .array .int
  | 21 => .array .int
  | 22 => .int
  | 23 => .int
  | 24 => .int
  | 25 => .int
  | 26 => .int
  | 27 => .int
  | 28 => .int
  | 29 => .int
  | 30 => .int
  | 31 => .array .int
  | 32 => .array .boolean
  | 33 => .array .int
  | 34 => .int
  | _ => .int
theorem nmX7 : ∀ a, a < 36 → ∀ b, b < 36 → a ≠ b → (TX7 a).2.1 ≠ (TX7 b).2.1 := by decide +kernel
theorem tyX7_ok : ∀ k, k < 36 → parseFieldDescriptor (TX7 k).2.2.1 = some (tyX7 k) := by decide +kernel
abbrev cX7_init : ByteArray := prog_9_method_1_code
def yX7_init : MethodName := ⟨RX7, "<init>", "()V"⟩
abbrev cX7_thrown : ByteArray := prog_9_method_2_code
def yX7_thrown : MethodName := ⟨RX7, "thrown", "()I"⟩
abbrev cX7_isIn : ByteArray := prog_9_method_3_code
def yX7_isIn : MethodName := ⟨RX7, "isIn", "(III)Z"⟩
abbrev cX7_limits : ByteArray := prog_9_method_4_code
def yX7_limits : MethodName := ⟨RX7, "limits", "(III)Z"⟩
abbrev cX7_bad : ByteArray := prog_9_method_5_code
def yX7_bad : MethodName := ⟨RX7, "bad", "(IZ)Z"⟩
abbrev cX7_pull : ByteArray := prog_9_method_6_code
def yX7_pull : MethodName := ⟨RX7, "pull", "(II)Z"⟩
abbrev cX7_load : ByteArray := prog_9_method_7_code
def yX7_load : MethodName := ⟨RX7, "load", "(II)Z"⟩
abbrev cX7_only : ByteArray := prog_9_method_8_code
def yX7_only : MethodName := ⟨RX7, "only", "(Z)Z"⟩
abbrev cX7_isState : ByteArray := prog_9_method_9_code
def yX7_isState : MethodName := ⟨RX7, "isState", "(II)Z"⟩
abbrev cX7_isSafe : ByteArray := prog_9_method_10_code
def yX7_isSafe : MethodName := ⟨RX7, "isSafe", "(II)Z"⟩
abbrev cX7_mayGo : ByteArray := prog_9_method_11_code
def yX7_mayGo : MethodName := ⟨RX7, "mayGo", "(IIIZ)Z"⟩
abbrev cX7_isRest : ByteArray := prog_9_method_12_code
def yX7_isRest : MethodName := ⟨RX7, "isRest", "(II)Z"⟩
abbrev cX7_index : ByteArray := prog_9_method_13_code
def yX7_index : MethodName := ⟨RX7, "index", "(III)I"⟩
abbrev cX7_spread : ByteArray := prog_9_method_14_code
def yX7_spread : MethodName := ⟨RX7, "spread", "()V"⟩
abbrev cX7_ramps : ByteArray := prog_9_method_15_code
def yX7_ramps : MethodName := ⟨RX7, "ramps", "(I)Z"⟩
abbrev cX7_ramp : ByteArray := prog_9_method_16_code
def yX7_ramp : MethodName := ⟨RX7, "ramp", "(I)I"⟩
abbrev cX7_speed : ByteArray := prog_9_method_17_code
def yX7_speed : MethodName := ⟨RX7, "speed", "(II)I"⟩
abbrev cX7_of : ByteArray := prog_9_method_18_code
def yX7_of : MethodName := ⟨RX7, "of", "(II)I"⟩
abbrev cX7_slows : ByteArray := prog_9_method_19_code
def yX7_slows : MethodName := ⟨RX7, "slows", "(Z)V"⟩
abbrev cX7_slowsFrom : ByteArray := prog_9_method_20_code
def yX7_slowsFrom : MethodName := ⟨RX7, "slowsFrom", "(II)Z"⟩
abbrev cX7_slowing : ByteArray := prog_9_method_21_code
def yX7_slowing : MethodName := ⟨RX7, "slowing", "(III)I"⟩
abbrev cX7_move : ByteArray := prog_9_method_22_code
def yX7_move : MethodName := ⟨RX7, "move", "(III)I"⟩
abbrev cX7_follow : ByteArray := prog_9_method_23_code
def yX7_follow : MethodName := ⟨RX7, "follow", "()V"⟩
abbrev cX7_gone : ByteArray := prog_9_method_24_code
def yX7_gone : MethodName := ⟨RX7, "gone", "(II)I"⟩
abbrev cX7_tick : ByteArray := prog_9_method_25_code
def yX7_tick : MethodName := ⟨RX7, "tick", "(I)I"⟩
abbrev cX7_stop : ByteArray := prog_9_method_26_code
def yX7_stop : MethodName := ⟨RX7, "stop", "()I"⟩
abbrev cX7_place : ByteArray := prog_9_method_27_code
def yX7_place : MethodName := ⟨RX7, "place", "(IZ)I"⟩
abbrev cX7_state : ByteArray := prog_9_method_28_code
def yX7_state : MethodName := ⟨RX7, "state", "(I)I"⟩
abbrev cX7_at : ByteArray := prog_9_method_29_code
def yX7_at : MethodName := ⟨RX7, "at", "(II)Z"⟩
abbrev cX7_on : ByteArray := prog_9_method_30_code
def yX7_on : MethodName := ⟨RX7, "on", "(I)I"⟩
abbrev cX7_home : ByteArray := prog_9_method_31_code
def yX7_home : MethodName := ⟨RX7, "home", "(I)I"⟩
abbrev cX7_table : ByteArray := prog_9_method_32_code
def yX7_table : MethodName := ⟨RX7, "table", "(II)Z"⟩
abbrev cX7_set : ByteArray := prog_9_method_33_code
def yX7_set : MethodName := ⟨RX7, "set", "(II)Z"⟩
abbrev cX7_current : ByteArray := prog_9_method_34_code
def yX7_current : MethodName := ⟨RX7, "current", "(II)I"⟩
abbrev cX7_missOf : ByteArray := prog_9_method_35_code
def yX7_missOf : MethodName := ⟨RX7, "missOf", "(I)I"⟩
abbrev cX7_miss : ByteArray := prog_9_method_36_code
def yX7_miss : MethodName := ⟨RX7, "miss", "(I)I"⟩
abbrev cX7_evenness : ByteArray := prog_9_method_37_code
def yX7_evenness : MethodName := ⟨RX7, "evenness", "()I"⟩
abbrev cX7_smooth : ByteArray := prog_9_method_38_code
def yX7_smooth : MethodName := ⟨RX7, "smooth", "()I"⟩
def RJx145de : String := "java/io/Serializable"
def TJx145de : u_T := fun k => match k with
  | _ => ("", "", "", false)
def tyJx145de : Nat → FieldType := fun k => match k with
  | _ => .int
theorem nmJx145de : ∀ a, a < 0 → ∀ b, b < 0 → a ≠ b → (TJx145de a).2.1 ≠ (TJx145de b).2.1 := by decide +kernel
theorem tyJx145de_ok : ∀ k, k < 0 → parseFieldDescriptor (TJx145de k).2.2.1 = some (tyJx145de k) := by decide +kernel
def RJ9 : String := "java/lang/Math"
def TJ9 : u_T := fun k => match k with
  | _ => ("", "", "", false)
def tyJ9 : Nat → FieldType := fun k => match k with
  | _ => .int
theorem nmJ9 : ∀ a, a < 0 → ∀ b, b < 0 → a ≠ b → (TJ9 a).2.1 ≠ (TJ9 b).2.1 := by decide +kernel
theorem tyJ9_ok : ∀ k, k < 0 → parseFieldDescriptor (TJ9 k).2.2.1 = some (tyJ9 k) := by decide +kernel
abbrev cJ9_abs_0f7a4 : ByteArray := prog_12_method_59_code
def yJ9_abs_0f7a4 : MethodName := ⟨RJ9, "abs", "(I)I"⟩
abbrev cJ9_max_7cf53 : ByteArray := prog_12_method_65_code
def yJ9_max_7cf53 : MethodName := ⟨RJ9, "max", "(II)I"⟩
abbrev cJ9_min_7cf53 : ByteArray := prog_12_method_69_code
def yJ9_min_7cf53 : MethodName := ⟨RJ9, "min", "(II)I"⟩
def RJ7 : String := "java/util/Arrays"
def TJ7 : u_T := fun k => match k with
  | _ => ("", "", "", false)
def tyJ7 : Nat → FieldType := fun k => match k with
  | _ => .int
theorem nmJ7 : ∀ a, a < 0 → ∀ b, b < 0 → a ≠ b → (TJ7 a).2.1 ≠ (TJ7 b).2.1 := by decide +kernel
theorem tyJ7_ok : ∀ k, k < 0 → parseFieldDescriptor (TJ7 k).2.2.1 = some (tyJ7 k) := by decide +kernel
abbrev cJ7_fill_53178 : ByteArray := prog_15_method_103_code
def yJ7_fill_53178 : MethodName := ⟨RJ7, "fill", "([II)V"⟩
def RL : String := "RampDriverLaw"
abbrev cL_place : ByteArray := method_3_code
def yL_place : MethodName := ⟨RL, "place", "(LRampDriver;IZ[J)I"⟩
abbrev cL_current : ByteArray := method_4_code
def yL_current : MethodName := ⟨RL, "current", "(LRampDriver;II[J)I"⟩
abbrev cL_law : ByteArray := code
def yL_law : MethodName := ⟨RL, "law", "([I)Z"⟩
abbrev vwCl : List vw_C := [(RX0, TX0, 6), (RX1, TX1, 3), (RX2, TX2, 10), (RX3, TX3, 5), (RX4, TX4, 9), (RX5, TX5, 6), (RX6, TX6, 9), (RX7, TX7, 36)]
end
section
/-! A logic over ONE world: every cell that the class and the reference ever hold has a number; M k j is what place j of cell k holds. -/
/-- what a cell is: its class and fields (none: an int; some r: the cell r), or an array (of booleans?, its length) -/
def am_shp : Nat → (Nat × List (Option Nat)) ⊕ (Bool × Nat) := fun k => match k with
  | 0 => .inl (6, [some 1, some 4, some 7, some 11, some 15, some 16, some 17, some 18, some 19])
  | 1 => .inl (4, [none, none, none, none, none, some 2, some 3, none, none])
  | 2 => .inr (true, 13)
  | 3 => .inr (false, 13)
  | 4 => .inl (3, [some 5, some 6, none, none, none])
  | 5 => .inr (false, 23517)
  | 6 => .inr (false, 23517)
  | 7 => .inl (5, [none, some 8, some 9, some 10, none, none])
  | 8 => .inr (false, 117)
  | 9 => .inr (false, 117)
  | 10 => .inr (false, 117)
  | 11 => .inl (5, [none, some 12, some 13, some 14, none, none])
  | 12 => .inr (false, 117)
  | 13 => .inr (false, 117)
  | 14 => .inr (false, 117)
  | 15 => .inl (2, [none, none, none, none, none, none, none, none, none, none])
  | 16 => .inl (0, [none, none, none, none, none, none])
  | 17 => .inl (0, [none, none, none, none, none, none])
  | 18 => .inl (0, [none, none, none, none, none, none])
  | 19 => .inl (1, [none, none, some 20])
  | 20 => .inr (false, 9)
  | 21 => .inl (7, [none, none, none, none, none, none, some 22, some 23, none, some 24, some 25, some 26, none, some 27, some 28, none, none, some 29, some 30, some 31, some 32, some 33, none, none, none, none, none, none, none, none, none, some 34, some 35, some 36, none, none])
  | 22 => .inr (true, 13)
  | 23 => .inr (false, 13)
  | 24 => .inr (false, 23517)
  | 25 => .inr (false, 23517)
  | 26 => .inr (false, 1000)
  | 27 => .inr (false, 117)
  | 28 => .inr (false, 117)
  | 29 => .inr (false, 3)
  | 30 => .inr (false, 3)
  | 31 => .inr (false, 3)
  | 32 => .inr (false, 3)
  | 33 => .inr (false, 1000)
  | 34 => .inr (false, 3)
  | 35 => .inr (true, 3)
  | _ => .inr (false, 9)
abbrev am_M : Type := Nat → Nat → Int32
/-- the cells of all: 0 .. 36 -/
def am_II : List Nat := List.range 37
def am_fs (ad : Nat → Nat) (f : Nat → Int32) : Nat → List (Option Nat) → List Value
  | _, [] => []
  | j, none :: l => .int (f j) :: am_fs ad f (j + 1) l
  | j, some r :: l => .ref (ad r) :: am_fs ad f (j + 1) l
def am_cell (cyI cyZ : ClassId) (ad : Nat → Nat) (M : am_M) (k : Nat) : va_E := match am_shp k with
  | .inl (ci, fl) => .inr (ci, am_fs ad (M k) 0 fl)
  | .inr (z, n) => .inl (if z = true then cyZ else cyI, n, .inl (M k))
def am_w (I : List Nat) (cyI cyZ : ClassId) (ad : Nat → Nat) (M : am_M) : va_W := I.map (fun k => (ad k, am_cell cyI cyZ ad M k))
def am_put (M : am_M) (k j : Nat) (v : Int32) : am_M := fun a => if a = k then upd (M k) j v else M a
/-- a whole row anew -/
def am_row (M : am_M) (k : Nat) (f : Nat → Int32) : am_M := fun a => if a = k then f else M a
theorem am_fs_i (ad : Nat → Nat) (f : Nat → Int32) : ∀ (fl : List (Option Nat)) (j0 j : Nat), fl[j]? = some none → (am_fs ad f j0 fl)[j]? = some (.int (f (j0 + j))) := by
  intro fl
  induction fl with
  | nil => intro j0 j h; simp at h
  | cons o l ih =>
    intro j0 j h
    cases j with
    | zero => simp at h; subst h; simp [am_fs]
    | succ j =>
      have h1 : l[j]? = some none := by simpa using h
      have h2 := ih (j0 + 1) j h1
      have e : j0 + 1 + j = j0 + (j + 1) := by omega
      rw [e] at h2
      cases o <;> simp [am_fs, h2]
theorem am_fs_r (ad : Nat → Nat) (f : Nat → Int32) : ∀ (fl : List (Option Nat)) (j0 j r : Nat), fl[j]? = some (some r) → (am_fs ad f j0 fl)[j]? = some (.ref (ad r)) := by
  intro fl
  induction fl with
  | nil => intro j0 j r h; simp at h
  | cons o l ih =>
    intro j0 j r h
    cases j with
    | zero => simp at h; subst h; simp [am_fs]
    | succ j =>
      have h1 : l[j]? = some (some r) := by simpa using h
      have h2 := ih (j0 + 1) j r h1
      cases o <;> simp [am_fs, h2]
theorem am_fs_len (ad : Nat → Nat) (f : Nat → Int32) : ∀ (fl : List (Option Nat)) (j0 : Nat), (am_fs ad f j0 fl).length = fl.length := by
  intro fl
  induction fl with
  | nil => intro j0; rfl
  | cons o l ih => intro j0; cases o <;> simp [am_fs, ih]
theorem am_fs_cong (ad : Nat → Nat) (f g : Nat → Int32) : ∀ (fl : List (Option Nat)) (j0 : Nat), (∀ j, j0 ≤ j → f j = g j) → am_fs ad f j0 fl = am_fs ad g j0 fl := by
  intro fl
  induction fl with
  | nil => intro j0 _; rfl
  | cons o l ih =>
    intro j0 h
    have h1 := ih (j0 + 1) (fun j hj => h j (by omega))
    cases o <;> simp [am_fs, h1, h j0 (Nat.le_refl _)]
theorem am_fs_set (ad : Nat → Nat) (f : Nat → Int32) (v : Int32) : ∀ (fl : List (Option Nat)) (j0 j : Nat), fl[j]? = some none → (am_fs ad f j0 fl).set j (.int v) = am_fs ad (upd f (j0 + j) v) j0 fl := by
  intro fl
  induction fl with
  | nil => intro j0 j h; simp at h
  | cons o l ih =>
    intro j0 j h
    cases j with
    | zero =>
      simp at h
      subst h
      have e : am_fs ad f (j0 + 1) l = am_fs ad (upd f (j0 + 0) v) (j0 + 1) l := am_fs_cong ad _ _ l (j0 + 1) (fun j hj => by
        have : j ≠ j0 + 0 := by omega
        unfold upd
        rw [if_neg this])
      simp only [am_fs, List.set_cons_zero]
      rw [e]
      simp [upd]
    | succ j =>
      have h1 : l[j]? = some none := by simpa using h
      have h2 := ih (j0 + 1) j h1
      have e : j0 + 1 + j = j0 + (j + 1) := by omega
      rw [e] at h2
      cases o
      · have h3 : upd f (j0 + (j + 1)) v j0 = f j0 := by
          have : j0 ≠ j0 + (j + 1) := by omega
          unfold upd
          rw [if_neg this]
        simp only [am_fs, List.set_cons_succ]
        rw [h2, h3]
      · simp only [am_fs, List.set_cons_succ]
        rw [h2]
theorem am_w_get {I : List Nat} {cyI cyZ : ClassId} {ad : Nat → Nat} {M : am_M} {q k : Nat} (h : I[q]? = some k) : (am_w I cyI cyZ ad M)[q]? = some (ad k, am_cell cyI cyZ ad M k) := by
  simp [am_w, h]
theorem am_w_set {A : Nat → Prop} {I : List Nat} {cyI cyZ : ClassId} {ad : Nat → Nat} {M M' : am_M} {q k : Nat} (hD : va_D A (am_w I cyI cyZ ad M)) (h : I[q]? = some k) (hM : ∀ a, a ≠ k → M' a = M a) :
    (am_w I cyI cyZ ad M).set q (ad k, am_cell cyI cyZ ad M' k) = am_w I cyI cyZ ad M' := by
  apply List.ext_getElem?
  intro i
  by_cases hi : i = q
  · subst hi
    have hl : i < (am_w I cyI cyZ ad M).length := (List.getElem?_eq_some_iff.mp (am_w_get (cyI := cyI) (cyZ := cyZ) (ad := ad) (M := M) h)).1
    rw [List.getElem?_set_self hl, am_w_get h]
  · rw [List.getElem?_set_ne (Ne.symm hi)]
    cases hI : I[i]? with
    | none => simp [am_w, hI]
    | some k2 =>
      have hne : k2 ≠ k := by
        intro e
        subst e
        exact hi (hD.1 i q _ _ (am_w_get hI) (am_w_get h) rfl)
      rw [am_w_get hI, am_w_get hI]
      have e2 : am_cell cyI cyZ ad M' k2 = am_cell cyI cyZ ad M k2 := by
        unfold am_cell
        rw [hM k2 hne]
      rw [e2]
def am_nst : List Cond := [.methodLinkNest RX1 26 yX6_isWithin RX6, .methodLinkNest RX3 28 yX6_isWithin RX6, .methodLinkNest RX4 48 yX6_isWithin RX6, .methodLinkNest RX3 87 yX6_stateNumber RX6, .methodLinkNest RX5 32 yX6_stateNumber RX6, .methodLinkNest RX6 18 yX3_init RX6, .methodLinkNest RX6 37 yX2_init RX6, .methodLinkNest RX6 44 yX0_init RX6]
def am_K (D : va_G) (cyI cyZ : ClassId) (U : State) : Prop := va_K D vwCl [(cyI, .int), (cyZ, .boolean)] U ∧ (∀ w ∈ lw_tbl, goodWord w = true → w.before #[] U = true) ∧ ∀ w ∈ am_nst, va_Nw w U
theorem am_nst_warm {s U : State} (hW : s.WarmedH U.vm) (h : ∀ w ∈ am_nst, va_Nw w s) : ∀ w ∈ am_nst, va_Nw w U := by
  intro w hw
  have h1 := h w hw
  simp only [am_nst, List.mem_cons, List.not_mem_nil, or_false] at hw
  rcases hw with rfl | rfl | rfl | rfl | rfl | rfl | rfl | rfl <;> exact va_Nw.warmM hW h1
theorem am_nst_on : ∀ w ∈ am_nst, w.onTables = true := by
  intro w hw
  simp only [am_nst, List.mem_cons, List.not_mem_nil, or_false] at hw
  rcases hw with rfl | rfl | rfl | rfl | rfl | rfl | rfl | rfl <;> rfl
theorem am_K.moved {D : va_G} {cyI cyZ : ClassId} {s U : State} (hW : s.WarmedH U.vm) (h : am_K D cyI cyZ s) : am_K D cyI cyZ U :=
  ⟨va_K.moved hW.alike h.1, fun w hw hg => word_at hW (good_of_word hg) (h.2.1 w hw hg), am_nst_warm hW h.2.2⟩
theorem am_word {D : va_G} {cyI cyZ : ClassId} {U : State} (h : am_K D cyI cyZ U) {w : Cond} (hw : w ∈ lw_tbl) (hg : goodWord w = true) (ho : w.onTables = true) (args : Array Value) : w.before args U = true := va_tabs ho rfl (h.2.1 w hw hg)
end
section
/-! methods: name, bytes, maxLocals, return type, frames and locals of room -/
abbrev am_Y : Type := MethodName × ByteArray × Nat × Option FieldType × Nat × Nat
def am_rm (Y : am_Y) : Jvm.Room := { frames := Y.2.2.2.2.1, cells := 0, slots := 0, locals := Y.2.2.2.2.2 }
def am_CX (Y : am_Y) (D : va_G) (cyI cyZ : ClassId) (p : Program) (s : State) (m : MethodId) (meth : Method) (c : Code) : Prop :=
  p.tables.exec = Jvm.exec ∧ c.code = Y.2.1 ∧ meth.sig.returnType = Y.2.2.2.1 ∧ c.maxLocals = Y.2.2.1 ∧ s.vm.findClass Y.1.cls = some m.cls ∧ meth.locks = false ∧ am_K D cyI cyZ s
def am_L (ls : Array Slot) (n : Nat) (L : List (Option Value)) : Prop := ls.size = n ∧ lv_wf ls ∧ ∀ (i : Nat) (v : Value), L[i]? = some (some v) → ls[i]? = some (.val v) ∧ v.category = 1
def am_Q (D : va_G) (cyI cyZ : ClassId) (ad : Nat → Nat) (I : List Nat) (P : Option Value → am_M → Prop) (A : Nat → Prop) : Array Value → State → Outcome → State → Prop := fun _ st o t =>
  (∃ (r : Option Value) (M : am_M), o = .returned r ∧ P r M ∧ va_P D vwCl (am_w I cyI cyZ ad M) t.heap ∧ am_K D cyI cyZ t ∧ va_D A (am_w I cyI cyZ ad M)) ∧ va_F A st t
/-- at pc, with these locals, this stack, this memory: the method comes to its end with P -/
def am_W (Y : am_Y) (ad : Nat → Nat) (I : List Nat) (P : Option Value → am_M → Prop) (pc : Nat) (L : List (Option Value)) (st : List Value) (M : am_M) : Prop :=
  ∀ (l : Launch) (D : va_G) (cyI cyZ : ClassId) (p : Program) (e : Env) (s : State) (m : MethodId) (args : Array Value) (below : List Frame) (meth : Method) (c : Code) (A : Nat → Prop) (H : Heap) (locs : List Loc) (ls : Array Slot),
    am_CX Y D cyI cyZ p s m meth c → (∀ q : Nat, s.heap.size ≤ q → A q) → am_L ls Y.2.2.1 L → va_P D vwCl (am_w I cyI cyZ ad M) H → va_D A (am_w I cyI cyZ ad M) → va_S A s.heap H locs →
    W p l e (am_rm Y) s m args below meth c H locs 0 0 (MQ below (am_Q D cyI cyZ ad I P A) args s 0 0 A) (F0 m pc ls st)
/-- the contract of a method: from the memory M, with these arguments, it ends with P -/
def am_C (Y : am_Y) (ad : Nat → Nat) (I : List Nat) (As : List Value) (M : am_M) (P : Option Value → am_M → Prop) : Prop :=
  ∀ (l : Launch) (D : va_G) (cyI cyZ : ClassId) (sz : Nat), Met l Y.1 [.code Y.1 Y.2.1 Y.2.2.1 Y.2.2.2.1] (am_rm Y)
    (va_Pc As (fun U => U.heap.size = sz ∧ va_P D vwCl (am_w I cyI cyZ ad M) U.heap ∧ am_K D cyI cyZ U ∧ va_D (fun _ => True) (am_w I cyI cyZ ad M)))
    (am_Q D cyI cyZ ad I P (va_A (am_w I cyI cyZ ad M) sz)) 0 0 (va_A (am_w I cyI cyZ ad M) sz)
theorem am_C.to {Y : am_Y} {ad : Nat → Nat} {I : List Nat} {As : List Value} {M : am_M} {P P' : Option Value → am_M → Prop} (h : am_C Y ad I As M P) (hp : ∀ r N, P r N → P' r N) : am_C Y ad I As M P' := by
  intro l D cyI cyZ sz p e ha hc hk s m args below hf happ hpre hK
  obtain ⟨k, o, h1, h2, h3, hQ, hE⟩ := h l D cyI cyZ sz p e ha hc hk s m args below hf happ hpre hK
  obtain ⟨⟨r, N, e1, e2, e3⟩, e4⟩ := hQ
  exact ⟨k, o, h1, h2, h3, ⟨⟨r, N, e1, hp r N e2, e3⟩, e4⟩, hE⟩
theorem am_args (vs : List Value) (hc : ∀ v ∈ vs, v.category = 1) : (lg_sl vs).length = vs.length ∧ ∀ (j i : Nat) (v : Value), vs[i]? = some v → (j + i, v) ∈ lv_args j vs := by
  induction vs with
  | nil => exact ⟨rfl, fun j i v h => by simp at h⟩
  | cons a l ih =>
    have ha : a.category = 1 := hc a List.mem_cons_self
    obtain ⟨h1, h2⟩ := ih (fun v h => hc v (List.mem_cons_of_mem _ h))
    have hn : ¬ a.category = 2 := by omega
    refine ⟨?_, fun j i v h => ?_⟩
    · have e : lg_sl (a :: l) = .val a :: lg_sl l := by
        simp [lg_sl, hn]
      rw [e, List.length_cons, List.length_cons, h1]
    · cases i with
      | zero =>
        have e : a = v := by simpa using h
        subst e
        simp [lv_args]
      | succ i =>
        have h3 : l[i]? = some v := by simpa using h
        have h4 := h2 (j + 1) i v h3
        have e : j + 1 + i = j + (i + 1) := by omega
        rw [e] at h4
        simp only [lv_args, if_neg hn]
        exact List.mem_cons_of_mem _ h4
theorem am_ofW {Y : am_Y} {ad : Nat → Nat} {I : List Nat} {As : List Value} {M : am_M} {P : Option Value → am_M → Prop} {L : List (Option Value)} (hp : plainName Y.1.cls = true) (hc : ∀ v ∈ As, v.category = 1) (hn : As.length ≤ Y.2.2.1)
    (hL : As.map some ++ List.replicate (Y.2.2.1 - As.length) none = L) (k : am_W Y ad I P 0 L [] M) : am_C Y ad I As M P := by
  intro l D cyI cyZ sz
  refine Met.ofW (cc := Y.2.1) (maxL := Y.2.2.1) (ret := Y.2.2.2.1) hp rfl ?_
  intro p e s m args below meth c s₁ B hml hv
  obtain ⟨rfl, hsz, hP, hK, hD0⟩ := hv
  subst hsz
  have hD := hD0.self (sz := s.heap.size)
  obtain ⟨ha1, ha2⟩ := am_args As hc
  have hl := lv_entry As (n := Y.2.2.1) (by rw [ha1]; exact hn)
  rw [lg_entry_eq]
  refine k l D cyI cyZ p e s m _ below meth c _ s.heap [] _ ⟨B.exec, B.bytes, B.returns, hml, findClass_of_methodNamed B.named, B.notSynchronized, hK⟩ (fun q h => Or.inr h) ⟨hl.1, hl.2.1, ?_⟩ hP hD va_S.rf
  intro i v hi
  rw [← hL] at hi
  have hi2 : As[i]? = some v := by
    by_cases h : i < As.length
    · rw [List.getElem?_append_left (by simpa using h)] at hi
      simpa using hi
    · rw [List.getElem?_append_right (by simpa using Nat.le_of_not_lt h)] at hi
      rw [List.getElem?_replicate] at hi
      split at hi <;> cases hi
  have h0 := ha2 0 i v hi2
  rw [Nat.zero_add] at h0
  exact ⟨hl.2.2 _ h0, hc v (List.mem_of_getElem? hi2)⟩
def am_l (L : List (Option Value)) : List (Nat × Value) := (List.range L.length).filterMap fun j => match L[j]? with
  | some (some v) => some (j, v)
  | _ => none
theorem am_l_mem {L : List (Option Value)} {q : Nat × Value} : q ∈ am_l L ↔ L[q.1]? = some (some q.2) := by
  unfold am_l
  rw [List.mem_filterMap]
  constructor
  · rintro ⟨j, -, h⟩
    split at h
    · rename_i v hv
      cases h
      exact hv
    · cases h
  · intro h
    refine ⟨q.1, List.mem_range.mpr (List.getElem?_eq_some_iff.mp h).1, ?_⟩
    rw [h]
theorem am_L.has {ls : Array Slot} {n : Nat} {L : List (Option Value)} (h : am_L ls n L) : lv_has ls n (am_l L) := ⟨h.1, h.2.1, fun _ hq => (h.2.2 _ _ (am_l_mem.mp hq)).1⟩
theorem am_L.at {ls : Array Slot} {n : Nat} {L : List (Option Value)} (h : am_L ls n L) {i : Nat} {v : Value} (hi : L[i]? = some (some v)) : ls[i]? = some (.val v) := (h.2.2 i v hi).1
theorem am_L.set {ls ls' : Array Slot} {n : Nat} {L : List (Option Value)} (h : am_L ls n L) {i : Nat} {v : Value} (hv : v.category = 1) (h' : lv_has ls' n ((i, v) :: (am_l L).filter (fun q => !(q.1 == i) && !(q.1 + 1 == i && q.2.category == 2)))) : am_L ls' n (L.set i (some v)) := by
  refine ⟨h'.1, h'.2.1, fun j w hj => ?_⟩
  by_cases hji : j = i
  · subst hji
    have hlt : j < L.length := by
      have := (List.getElem?_eq_some_iff.mp hj).1
      simpa using this
    rw [List.getElem?_set_self hlt] at hj
    cases hj
    exact ⟨h'.2.2 (j, v) List.mem_cons_self, hv⟩
  · rw [List.getElem?_set_ne (Ne.symm hji)] at hj
    obtain ⟨-, hw⟩ := h.2.2 j w hj
    refine ⟨h'.2.2 (j, w) (List.mem_cons_of_mem _ (List.mem_filter.mpr ⟨am_l_mem.mpr hj, ?_⟩)), hw⟩
    simp [hji, hw]
theorem am_L.cat {ls : Array Slot} {n : Nat} {L : List (Option Value)} (h : am_L ls n L) {i : Nat} {v : Value} (hi : L[i]? = some (some v)) : v.category = 1 := (h.2.2 i v hi).2
section AMR
variable {Y : am_Y} {ad : Nat → Nat} {I : List Nat} {P : Option Value → am_M → Prop} {pc : Nat} {L : List (Option Value)} {st : List Value} {M : am_M}
theorem am_iconst {n : Int} {v : Int32} (hv : Int32.ofInt n = v) (hdg : decode Y.2.1 pc = .ok (.iconst n, 1)) (k : am_W Y ad I P (pc + 1) L (.int v :: st) M) : am_W Y ad I P pc L (st) M := by
  intro l D cyI cyZ p e s m args below meth c A H locs ls hX hA hl hP hD hS
  obtain ⟨hx, hb, hr, hml, hown, hlk, hK⟩ := id hX
  exact lv_iconst hx hb hdg hv (k l D cyI cyZ p e s m args below meth c A H locs ls hX hA hl hP hD hS)
theorem am_bipush {n : Int} {v : Int32} (hv : (Int8.ofInt n).toInt32 = v) (hdg : decode Y.2.1 pc = .ok (.bipush n, 2)) (k : am_W Y ad I P (pc + 2) L (.int v :: st) M) : am_W Y ad I P pc L (st) M := by
  intro l D cyI cyZ p e s m args below meth c A H locs ls hX hA hl hP hD hS
  obtain ⟨hx, hb, hr, hml, hown, hlk, hK⟩ := id hX
  exact lv_bipush hx hb hdg hv (k l D cyI cyZ p e s m args below meth c A H locs ls hX hA hl hP hD hS)
theorem am_sipush {n : Int} {v : Int32} (hv : (Int16.ofInt n).toInt32 = v) (hdg : decode Y.2.1 pc = .ok (.sipush n, 3)) (k : am_W Y ad I P (pc + 3) L (.int v :: st) M) : am_W Y ad I P pc L (st) M := by
  intro l D cyI cyZ p e s m args below meth c A H locs ls hX hA hl hP hD hS
  obtain ⟨hx, hb, hr, hml, hown, hlk, hK⟩ := id hX
  exact lv_sipush hx hb hdg hv (k l D cyI cyZ p e s m args below meth c A H locs ls hX hA hl hP hD hS)
theorem am_ldc {index : Nat} {v : Int32} (hw : Cond.constant Y.1.cls index v ∈ lw_tbl) (hdg : decode Y.2.1 pc = .ok (.ldc index, 2)) (k : am_W Y ad I P (pc + 2) L (.int v :: st) M) : am_W Y ad I P pc L (st) M := by
  intro l D cyI cyZ p e s m args below meth c A H locs ls hX hA hl hP hD hS
  obtain ⟨hx, hb, hr, hml, hown, hlk, hK⟩ := id hX
  exact lv_ldc hx hb hown (am_word hK hw rfl rfl _) hdg (k l D cyI cyZ p e s m args below meth c A H locs ls hX hA hl hP hD hS)
theorem am_null (hdg : decode Y.2.1 pc = .ok (.aconst_null, 1)) (k : am_W Y ad I P (pc + 1) L (.null :: st) M) : am_W Y ad I P pc L (st) M := by
  intro l D cyI cyZ p e s m args below meth c A H locs ls hX hA hl hP hD hS
  obtain ⟨hx, hb, hr, hml, hown, hlk, hK⟩ := id hX
  exact lv_null hx hb hdg (k l D cyI cyZ p e s m args below meth c A H locs ls hX hA hl hP hD hS)
theorem am_iload_n {i : Fin 4} {v : Int32} (hi : L[(i : Nat)]? = some (some (.int v))) (hdg : decode Y.2.1 pc = .ok (.iload_n i, 1)) (k : am_W Y ad I P (pc + 1) L (.int v :: st) M) : am_W Y ad I P pc L (st) M := by
  intro l D cyI cyZ p e s m args below meth c A H locs ls hX hA hl hP hD hS
  obtain ⟨hx, hb, hr, hml, hown, hlk, hK⟩ := id hX
  exact lv_iload_n hx hb hdg rfl (hl.at hi) (k l D cyI cyZ p e s m args below meth c A H locs ls hX hA hl hP hD hS)
theorem am_iload {i : Nat} {v : Int32} (hi : L[i]? = some (some (.int v))) (hdg : decode Y.2.1 pc = .ok (.iload i, 2)) (k : am_W Y ad I P (pc + 2) L (.int v :: st) M) : am_W Y ad I P pc L (st) M := by
  intro l D cyI cyZ p e s m args below meth c A H locs ls hX hA hl hP hD hS
  obtain ⟨hx, hb, hr, hml, hown, hlk, hK⟩ := id hX
  exact lv_iload hx hb hdg (hl.at hi) (k l D cyI cyZ p e s m args below meth c A H locs ls hX hA hl hP hD hS)
theorem am_aload_n {i : Fin 4} {v : Nat} (hi : L[(i : Nat)]? = some (some (.ref v))) (hdg : decode Y.2.1 pc = .ok (.aload_n i, 1)) (k : am_W Y ad I P (pc + 1) L (.ref v :: st) M) : am_W Y ad I P pc L (st) M := by
  intro l D cyI cyZ p e s m args below meth c A H locs ls hX hA hl hP hD hS
  obtain ⟨hx, hb, hr, hml, hown, hlk, hK⟩ := id hX
  exact lv_aload_n hx hb hdg rfl (hl.at hi) (k l D cyI cyZ p e s m args below meth c A H locs ls hX hA hl hP hD hS)
theorem am_aload {i : Nat} {v : Nat} (hi : L[i]? = some (some (.ref v))) (hdg : decode Y.2.1 pc = .ok (.aload i, 2)) (k : am_W Y ad I P (pc + 2) L (.ref v :: st) M) : am_W Y ad I P pc L (st) M := by
  intro l D cyI cyZ p e s m args below meth c A H locs ls hX hA hl hP hD hS
  obtain ⟨hx, hb, hr, hml, hown, hlk, hK⟩ := id hX
  exact lv_aload hx hb hdg (hl.at hi) (k l D cyI cyZ p e s m args below meth c A H locs ls hX hA hl hP hD hS)
theorem am_aload_nN {i : Fin 4} (hi : L[(i : Nat)]? = some (some .null)) (hdg : decode Y.2.1 pc = .ok (.aload_n i, 1)) (k : am_W Y ad I P (pc + 1) L (.null :: st) M) : am_W Y ad I P pc L (st) M := by
  intro l D cyI cyZ p e s m args below meth c A H locs ls hX hA hl hP hD hS
  obtain ⟨hx, hb, hr, hml, hown, hlk, hK⟩ := id hX
  exact lv_aload_nN hx hb hdg rfl (hl.at hi) (k l D cyI cyZ p e s m args below meth c A H locs ls hX hA hl hP hD hS)
theorem am_iadd {x y : Int32} (hdg : decode Y.2.1 pc = .ok (.iadd, 1)) (k : am_W Y ad I P (pc + 1) L (.int (x + y) :: st) M) : am_W Y ad I P pc L (.int y :: .int x :: st) M := by
  intro l D cyI cyZ p e s m args below meth c A H locs ls hX hA hl hP hD hS
  obtain ⟨hx, hb, hr, hml, hown, hlk, hK⟩ := id hX
  exact lv_iadd hx hb hdg (k l D cyI cyZ p e s m args below meth c A H locs ls hX hA hl hP hD hS)
theorem am_isub {x y : Int32} (hdg : decode Y.2.1 pc = .ok (.isub, 1)) (k : am_W Y ad I P (pc + 1) L (.int (x - y) :: st) M) : am_W Y ad I P pc L (.int y :: .int x :: st) M := by
  intro l D cyI cyZ p e s m args below meth c A H locs ls hX hA hl hP hD hS
  obtain ⟨hx, hb, hr, hml, hown, hlk, hK⟩ := id hX
  exact lv_isub hx hb hdg (k l D cyI cyZ p e s m args below meth c A H locs ls hX hA hl hP hD hS)
theorem am_imul {x y : Int32} (hdg : decode Y.2.1 pc = .ok (.imul, 1)) (k : am_W Y ad I P (pc + 1) L (.int (x * y) :: st) M) : am_W Y ad I P pc L (.int y :: .int x :: st) M := by
  intro l D cyI cyZ p e s m args below meth c A H locs ls hX hA hl hP hD hS
  obtain ⟨hx, hb, hr, hml, hown, hlk, hK⟩ := id hX
  exact lv_imul hx hb hdg (k l D cyI cyZ p e s m args below meth c A H locs ls hX hA hl hP hD hS)
theorem am_iand {x y : Int32} (hdg : decode Y.2.1 pc = .ok (.iand, 1)) (k : am_W Y ad I P (pc + 1) L (.int (x &&& y) :: st) M) : am_W Y ad I P pc L (.int y :: .int x :: st) M := by
  intro l D cyI cyZ p e s m args below meth c A H locs ls hX hA hl hP hD hS
  obtain ⟨hx, hb, hr, hml, hown, hlk, hK⟩ := id hX
  exact lv_iand hx hb hdg (k l D cyI cyZ p e s m args below meth c A H locs ls hX hA hl hP hD hS)
theorem am_ineg {x : Int32} (hdg : decode Y.2.1 pc = .ok (.ineg, 1)) (k : am_W Y ad I P (pc + 1) L (.int (-x) :: st) M) : am_W Y ad I P pc L (.int x :: st) M := by
  intro l D cyI cyZ p e s m args below meth c A H locs ls hX hA hl hP hD hS
  obtain ⟨hx, hb, hr, hml, hown, hlk, hK⟩ := id hX
  exact lv_ineg hx hb hdg (k l D cyI cyZ p e s m args below meth c A H locs ls hX hA hl hP hD hS)
theorem am_idiv {x y : Int32} (hy : ¬ y = 0) (hdg : decode Y.2.1 pc = .ok (.idiv, 1)) (k : am_W Y ad I P (pc + 1) L (.int (x / y) :: st) M) : am_W Y ad I P pc L (.int y :: .int x :: st) M := by
  intro l D cyI cyZ p e s m args below meth c A H locs ls hX hA hl hP hD hS
  obtain ⟨hx, hb, hr, hml, hown, hlk, hK⟩ := id hX
  exact lv_idiv hx hb hdg hy (k l D cyI cyZ p e s m args below meth c A H locs ls hX hA hl hP hD hS)
theorem am_irem {x y : Int32} (hy : ¬ y = 0) (hdg : decode Y.2.1 pc = .ok (.irem, 1)) (k : am_W Y ad I P (pc + 1) L (.int (x - x / y * y) :: st) M) : am_W Y ad I P pc L (.int y :: .int x :: st) M := by
  intro l D cyI cyZ p e s m args below meth c A H locs ls hX hA hl hP hD hS
  obtain ⟨hx, hb, hr, hml, hown, hlk, hK⟩ := id hX
  exact lv_irem hx hb hdg hy (k l D cyI cyZ p e s m args below meth c A H locs ls hX hA hl hP hD hS)
theorem am_dup {v : Value} (hv : v.category = 1) (hdg : decode Y.2.1 pc = .ok (.dup, 1)) (k : am_W Y ad I P (pc + 1) L (v :: v :: st) M) : am_W Y ad I P pc L (v :: st) M := by
  intro l D cyI cyZ p e s m args below meth c A H locs ls hX hA hl hP hD hS
  obtain ⟨hx, hb, hr, hml, hown, hlk, hK⟩ := id hX
  exact lv_dup hx hb hdg hv (k l D cyI cyZ p e s m args below meth c A H locs ls hX hA hl hP hD hS)
theorem am_dup2 {v w : Value} (hv : v.category = 1) (hw : w.category = 1) (hdg : decode Y.2.1 pc = .ok (.dup2, 1)) (k : am_W Y ad I P (pc + 1) L (v :: w :: v :: w :: st) M) : am_W Y ad I P pc L (v :: w :: st) M := by
  intro l D cyI cyZ p e s m args below meth c A H locs ls hX hA hl hP hD hS
  obtain ⟨hx, hb, hr, hml, hown, hlk, hK⟩ := id hX
  exact lv_dup2_11 hx hb hdg hv hw (k l D cyI cyZ p e s m args below meth c A H locs ls hX hA hl hP hD hS)
theorem am_istore_n {i : Fin 4} {v : Int32} (hn : (i : Nat) < Y.2.2.1) (hdg : decode Y.2.1 pc = .ok (.istore_n i, 1)) (k : am_W Y ad I P (pc + 1) (L.set i (some (.int v))) st M) : am_W Y ad I P pc L (.int v :: st) M := by
  intro l D cyI cyZ p e s m args below meth c A H locs ls hX hA hl hP hD hS
  obtain ⟨hx, hb, hr, hml, hown, hlk, hK⟩ := id hX
  exact lv_istore_n hx hb hdg rfl hl.has hn rfl (fun ls' h' => k l D cyI cyZ p e s m args below meth c A H locs ls' hX hA (hl.set rfl h') hP hD hS)
theorem am_istore {i : Nat} {v : Int32} (hn : i < Y.2.2.1) (hdg : decode Y.2.1 pc = .ok (.istore i, 2)) (k : am_W Y ad I P (pc + 2) (L.set i (some (.int v))) st M) : am_W Y ad I P pc L (.int v :: st) M := by
  intro l D cyI cyZ p e s m args below meth c A H locs ls hX hA hl hP hD hS
  obtain ⟨hx, hb, hr, hml, hown, hlk, hK⟩ := id hX
  exact lv_istore hx hb hdg hl.has hn rfl (fun ls' h' => k l D cyI cyZ p e s m args below meth c A H locs ls' hX hA (hl.set rfl h') hP hD hS)
theorem am_astore_n {i : Fin 4} {v : Nat} (hn : (i : Nat) < Y.2.2.1) (hdg : decode Y.2.1 pc = .ok (.astore_n i, 1)) (k : am_W Y ad I P (pc + 1) (L.set i (some (.ref v))) st M) : am_W Y ad I P pc L (.ref v :: st) M := by
  intro l D cyI cyZ p e s m args below meth c A H locs ls hX hA hl hP hD hS
  obtain ⟨hx, hb, hr, hml, hown, hlk, hK⟩ := id hX
  exact lv_astore_n hx hb hdg rfl hl.has hn rfl (fun ls' h' => k l D cyI cyZ p e s m args below meth c A H locs ls' hX hA (hl.set rfl h') hP hD hS)
theorem am_astore {i : Nat} {v : Nat} (hn : i < Y.2.2.1) (hdg : decode Y.2.1 pc = .ok (.astore i, 2)) (k : am_W Y ad I P (pc + 2) (L.set i (some (.ref v))) st M) : am_W Y ad I P pc L (.ref v :: st) M := by
  intro l D cyI cyZ p e s m args below meth c A H locs ls hX hA hl hP hD hS
  obtain ⟨hx, hb, hr, hml, hown, hlk, hK⟩ := id hX
  exact lv_astore hx hb hdg hl.has hn rfl (fun ls' h' => k l D cyI cyZ p e s m args below meth c A H locs ls' hX hA (hl.set rfl h') hP hD hS)
theorem am_astore_nN {i : Fin 4} (hn : (i : Nat) < Y.2.2.1) (hdg : decode Y.2.1 pc = .ok (.astore_n i, 1)) (k : am_W Y ad I P (pc + 1) (L.set i (some (.null))) st M) : am_W Y ad I P pc L (.null :: st) M := by
  intro l D cyI cyZ p e s m args below meth c A H locs ls hX hA hl hP hD hS
  obtain ⟨hx, hb, hr, hml, hown, hlk, hK⟩ := id hX
  exact lv_astore_nN hx hb hdg rfl hl.has hn rfl (fun ls' h' => k l D cyI cyZ p e s m args below meth c A H locs ls' hX hA (hl.set rfl h') hP hD hS)
theorem am_iinc {i : Nat} {n : Int} {x v : Int32} (hi : L[i]? = some (some (.int x))) (hv : x + Int32.ofInt n = v) (hn : i < Y.2.2.1) (hdg : decode Y.2.1 pc = .ok (.iinc i n, 3)) (k : am_W Y ad I P (pc + 3) (L.set i (some (.int v))) st M) : am_W Y ad I P pc L st M := by
  intro l D cyI cyZ p e s m args below meth c A H locs ls hX hA hl hP hD hS
  obtain ⟨hx, hb, hr, hml, hown, hlk, hK⟩ := id hX
  obtain ⟨q, hq⟩ := List.getElem?_of_mem (am_l_mem (q := (i, .int x)).mpr hi)
  exact lv_iinc hx hb hdg hl.has hq hv hn rfl (fun ls' h' => k l D cyI cyZ p e s m args below meth c A H locs ls' hX hA (hl.set rfl h') hP hD hS)
theorem am_goto {off : Int} {tgt : Nat} (ht : (pc : Int) + off = (tgt : Int)) (hdg : decode Y.2.1 pc = .ok (.goto off, 3)) (k : am_W Y ad I P tgt L st M) : am_W Y ad I P pc L st M := by
  intro l D cyI cyZ p e s m args below meth c A H locs ls hX hA hl hP hD hS
  obtain ⟨hx, hb, hr, hml, hown, hlk, hK⟩ := id hX
  exact lv_goto hx hb hdg ht (k l D cyI cyZ p e s m args below meth c A H locs ls hX hA hl hP hD hS)
theorem am_if_eq {x : Int32} {off : Int} {tgt : Nat} (ht : (pc : Int) + off = (tgt : Int)) (hdg : decode Y.2.1 pc = .ok (.ifCond .eq off, 3)) (kt : x = 0 → am_W Y ad I P tgt L st M) (kf : ¬ x = 0 → am_W Y ad I P (pc + 3) L st M) : am_W Y ad I P pc L (.int x :: st) M := by
  intro l D cyI cyZ p e s m args below meth c A H locs ls hX hA hl hP hD hS
  obtain ⟨hx, hb, hr, hml, hown, hlk, hK⟩ := id hX
  exact lv_if_eq hx hb hdg ht (fun h => kt h l D cyI cyZ p e s m args below meth c A H locs ls hX hA hl hP hD hS) (fun h => kf h l D cyI cyZ p e s m args below meth c A H locs ls hX hA hl hP hD hS)
theorem am_if_ne {x : Int32} {off : Int} {tgt : Nat} (ht : (pc : Int) + off = (tgt : Int)) (hdg : decode Y.2.1 pc = .ok (.ifCond .ne off, 3)) (kt : ¬ x = 0 → am_W Y ad I P tgt L st M) (kf : x = 0 → am_W Y ad I P (pc + 3) L st M) : am_W Y ad I P pc L (.int x :: st) M := by
  intro l D cyI cyZ p e s m args below meth c A H locs ls hX hA hl hP hD hS
  obtain ⟨hx, hb, hr, hml, hown, hlk, hK⟩ := id hX
  exact lv_if_ne hx hb hdg ht (fun h => kt h l D cyI cyZ p e s m args below meth c A H locs ls hX hA hl hP hD hS) (fun h => kf h l D cyI cyZ p e s m args below meth c A H locs ls hX hA hl hP hD hS)
theorem am_if_lt {x : Int32} {off : Int} {tgt : Nat} (ht : (pc : Int) + off = (tgt : Int)) (hdg : decode Y.2.1 pc = .ok (.ifCond .lt off, 3)) (kt : x < 0 → am_W Y ad I P tgt L st M) (kf : ¬ x < 0 → am_W Y ad I P (pc + 3) L st M) : am_W Y ad I P pc L (.int x :: st) M := by
  intro l D cyI cyZ p e s m args below meth c A H locs ls hX hA hl hP hD hS
  obtain ⟨hx, hb, hr, hml, hown, hlk, hK⟩ := id hX
  exact lv_if_lt hx hb hdg ht (fun h => kt h l D cyI cyZ p e s m args below meth c A H locs ls hX hA hl hP hD hS) (fun h => kf h l D cyI cyZ p e s m args below meth c A H locs ls hX hA hl hP hD hS)
theorem am_if_ge {x : Int32} {off : Int} {tgt : Nat} (ht : (pc : Int) + off = (tgt : Int)) (hdg : decode Y.2.1 pc = .ok (.ifCond .ge off, 3)) (kt : 0 ≤ x → am_W Y ad I P tgt L st M) (kf : ¬ 0 ≤ x → am_W Y ad I P (pc + 3) L st M) : am_W Y ad I P pc L (.int x :: st) M := by
  intro l D cyI cyZ p e s m args below meth c A H locs ls hX hA hl hP hD hS
  obtain ⟨hx, hb, hr, hml, hown, hlk, hK⟩ := id hX
  exact lv_if_ge hx hb hdg ht (fun h => kt h l D cyI cyZ p e s m args below meth c A H locs ls hX hA hl hP hD hS) (fun h => kf h l D cyI cyZ p e s m args below meth c A H locs ls hX hA hl hP hD hS)
theorem am_if_gt {x : Int32} {off : Int} {tgt : Nat} (ht : (pc : Int) + off = (tgt : Int)) (hdg : decode Y.2.1 pc = .ok (.ifCond .gt off, 3)) (kt : 0 < x → am_W Y ad I P tgt L st M) (kf : ¬ 0 < x → am_W Y ad I P (pc + 3) L st M) : am_W Y ad I P pc L (.int x :: st) M := by
  intro l D cyI cyZ p e s m args below meth c A H locs ls hX hA hl hP hD hS
  obtain ⟨hx, hb, hr, hml, hown, hlk, hK⟩ := id hX
  exact lv_if_gt hx hb hdg ht (fun h => kt h l D cyI cyZ p e s m args below meth c A H locs ls hX hA hl hP hD hS) (fun h => kf h l D cyI cyZ p e s m args below meth c A H locs ls hX hA hl hP hD hS)
theorem am_if_le {x : Int32} {off : Int} {tgt : Nat} (ht : (pc : Int) + off = (tgt : Int)) (hdg : decode Y.2.1 pc = .ok (.ifCond .le off, 3)) (kt : x ≤ 0 → am_W Y ad I P tgt L st M) (kf : ¬ x ≤ 0 → am_W Y ad I P (pc + 3) L st M) : am_W Y ad I P pc L (.int x :: st) M := by
  intro l D cyI cyZ p e s m args below meth c A H locs ls hX hA hl hP hD hS
  obtain ⟨hx, hb, hr, hml, hown, hlk, hK⟩ := id hX
  exact lv_if_le hx hb hdg ht (fun h => kt h l D cyI cyZ p e s m args below meth c A H locs ls hX hA hl hP hD hS) (fun h => kf h l D cyI cyZ p e s m args below meth c A H locs ls hX hA hl hP hD hS)
theorem am_icmp_eq {x y : Int32} {off : Int} {tgt : Nat} (ht : (pc : Int) + off = (tgt : Int)) (hdg : decode Y.2.1 pc = .ok (.if_icmp .eq off, 3)) (kt : x = y → am_W Y ad I P tgt L st M) (kf : ¬ x = y → am_W Y ad I P (pc + 3) L st M) : am_W Y ad I P pc L (.int y :: .int x :: st) M := by
  intro l D cyI cyZ p e s m args below meth c A H locs ls hX hA hl hP hD hS
  obtain ⟨hx, hb, hr, hml, hown, hlk, hK⟩ := id hX
  exact lv_icmp_eq hx hb hdg ht (fun h => kt h l D cyI cyZ p e s m args below meth c A H locs ls hX hA hl hP hD hS) (fun h => kf h l D cyI cyZ p e s m args below meth c A H locs ls hX hA hl hP hD hS)
theorem am_icmp_ne {x y : Int32} {off : Int} {tgt : Nat} (ht : (pc : Int) + off = (tgt : Int)) (hdg : decode Y.2.1 pc = .ok (.if_icmp .ne off, 3)) (kt : ¬ x = y → am_W Y ad I P tgt L st M) (kf : x = y → am_W Y ad I P (pc + 3) L st M) : am_W Y ad I P pc L (.int y :: .int x :: st) M := by
  intro l D cyI cyZ p e s m args below meth c A H locs ls hX hA hl hP hD hS
  obtain ⟨hx, hb, hr, hml, hown, hlk, hK⟩ := id hX
  exact lv_icmp_ne hx hb hdg ht (fun h => kt h l D cyI cyZ p e s m args below meth c A H locs ls hX hA hl hP hD hS) (fun h => kf h l D cyI cyZ p e s m args below meth c A H locs ls hX hA hl hP hD hS)
theorem am_icmp_lt {x y : Int32} {off : Int} {tgt : Nat} (ht : (pc : Int) + off = (tgt : Int)) (hdg : decode Y.2.1 pc = .ok (.if_icmp .lt off, 3)) (kt : x < y → am_W Y ad I P tgt L st M) (kf : ¬ x < y → am_W Y ad I P (pc + 3) L st M) : am_W Y ad I P pc L (.int y :: .int x :: st) M := by
  intro l D cyI cyZ p e s m args below meth c A H locs ls hX hA hl hP hD hS
  obtain ⟨hx, hb, hr, hml, hown, hlk, hK⟩ := id hX
  exact lv_icmp_lt hx hb hdg ht (fun h => kt h l D cyI cyZ p e s m args below meth c A H locs ls hX hA hl hP hD hS) (fun h => kf h l D cyI cyZ p e s m args below meth c A H locs ls hX hA hl hP hD hS)
theorem am_icmp_ge {x y : Int32} {off : Int} {tgt : Nat} (ht : (pc : Int) + off = (tgt : Int)) (hdg : decode Y.2.1 pc = .ok (.if_icmp .ge off, 3)) (kt : y ≤ x → am_W Y ad I P tgt L st M) (kf : ¬ y ≤ x → am_W Y ad I P (pc + 3) L st M) : am_W Y ad I P pc L (.int y :: .int x :: st) M := by
  intro l D cyI cyZ p e s m args below meth c A H locs ls hX hA hl hP hD hS
  obtain ⟨hx, hb, hr, hml, hown, hlk, hK⟩ := id hX
  exact lv_icmp_ge hx hb hdg ht (fun h => kt h l D cyI cyZ p e s m args below meth c A H locs ls hX hA hl hP hD hS) (fun h => kf h l D cyI cyZ p e s m args below meth c A H locs ls hX hA hl hP hD hS)
theorem am_icmp_gt {x y : Int32} {off : Int} {tgt : Nat} (ht : (pc : Int) + off = (tgt : Int)) (hdg : decode Y.2.1 pc = .ok (.if_icmp .gt off, 3)) (kt : y < x → am_W Y ad I P tgt L st M) (kf : ¬ y < x → am_W Y ad I P (pc + 3) L st M) : am_W Y ad I P pc L (.int y :: .int x :: st) M := by
  intro l D cyI cyZ p e s m args below meth c A H locs ls hX hA hl hP hD hS
  obtain ⟨hx, hb, hr, hml, hown, hlk, hK⟩ := id hX
  exact lv_icmp_gt hx hb hdg ht (fun h => kt h l D cyI cyZ p e s m args below meth c A H locs ls hX hA hl hP hD hS) (fun h => kf h l D cyI cyZ p e s m args below meth c A H locs ls hX hA hl hP hD hS)
theorem am_icmp_le {x y : Int32} {off : Int} {tgt : Nat} (ht : (pc : Int) + off = (tgt : Int)) (hdg : decode Y.2.1 pc = .ok (.if_icmp .le off, 3)) (kt : x ≤ y → am_W Y ad I P tgt L st M) (kf : ¬ x ≤ y → am_W Y ad I P (pc + 3) L st M) : am_W Y ad I P pc L (.int y :: .int x :: st) M := by
  intro l D cyI cyZ p e s m args below meth c A H locs ls hX hA hl hP hD hS
  obtain ⟨hx, hb, hr, hml, hown, hlk, hK⟩ := id hX
  exact lv_icmp_le hx hb hdg ht (fun h => kt h l D cyI cyZ p e s m args below meth c A H locs ls hX hA hl hP hD hS) (fun h => kf h l D cyI cyZ p e s m args below meth c A H locs ls hX hA hl hP hD hS)
theorem am_ifnull {v : Nat} {off : Int} (hdg : decode Y.2.1 pc = .ok (.ifnull off, 3)) (k : am_W Y ad I P (pc + 3) L st M) : am_W Y ad I P pc L (.ref v :: st) M := by
  intro l D cyI cyZ p e s m args below meth c A H locs ls hX hA hl hP hD hS
  obtain ⟨hx, hb, hr, hml, hown, hlk, hK⟩ := id hX
  exact lv_ifnull hx hb hdg (k l D cyI cyZ p e s m args below meth c A H locs ls hX hA hl hP hD hS)
theorem am_ifnullN {off : Int} {tgt : Nat} (ht : (pc : Int) + off = (tgt : Int)) (hdg : decode Y.2.1 pc = .ok (.ifnull off, 3)) (k : am_W Y ad I P tgt L st M) : am_W Y ad I P pc L (.null :: st) M := by
  intro l D cyI cyZ p e s m args below meth c A H locs ls hX hA hl hP hD hS
  obtain ⟨hx, hb, hr, hml, hown, hlk, hK⟩ := id hX
  exact lv_ifnullN hx hb hdg ht (k l D cyI cyZ p e s m args below meth c A H locs ls hX hA hl hP hD hS)
theorem am_ifnonnull {v : Nat} {off : Int} {tgt : Nat} (ht : (pc : Int) + off = (tgt : Int)) (hdg : decode Y.2.1 pc = .ok (.ifnonnull off, 3)) (k : am_W Y ad I P tgt L st M) : am_W Y ad I P pc L (.ref v :: st) M := by
  intro l D cyI cyZ p e s m args below meth c A H locs ls hX hA hl hP hD hS
  obtain ⟨hx, hb, hr, hml, hown, hlk, hK⟩ := id hX
  exact lv_ifnonnull hx hb hdg ht (k l D cyI cyZ p e s m args below meth c A H locs ls hX hA hl hP hD hS)
theorem am_acmp_ne {v w : Nat} {off : Int} {tgt : Nat} (ht : (pc : Int) + off = (tgt : Int)) (hdg : decode Y.2.1 pc = .ok (.if_acmp .ne off, 3)) (kt : v ≠ w → am_W Y ad I P tgt L st M) (kf : v = w → am_W Y ad I P (pc + 3) L st M) : am_W Y ad I P pc L (.ref w :: .ref v :: st) M := by
  intro l D cyI cyZ p e s m args below meth c A H locs ls hX hA hl hP hD hS
  obtain ⟨hx, hb, hr, hml, hown, hlk, hK⟩ := id hX
  exact lv_acmp_ne (rx := some v) (ry := some w) hx hb hdg ht (fun h => kt (fun e => h (by rw [e])) l D cyI cyZ p e s m args below meth c A H locs ls hX hA hl hP hD hS) (fun h => kf (Option.some.inj h) l D cyI cyZ p e s m args below meth c A H locs ls hX hA hl hP hD hS)
theorem am_tabIn {dflt lo hi : Int} {offs : Array Int} {len : Nat} {x : Int32} {off : Int} {tgt : Nat} (h1 : ¬ x.toInt < lo) (h2 : ¬ hi < x.toInt) (ho : offs[(x.toInt - lo).toNat]? = some off) (ht : (pc : Int) + off = (tgt : Int)) (hdg : decode Y.2.1 pc = .ok (.tableswitch dflt lo hi offs, len)) (k : am_W Y ad I P tgt L st M) : am_W Y ad I P pc L (.int x :: st) M := by
  intro l D cyI cyZ p e s m args below meth c A H locs ls hX hA hl hP hD hS
  obtain ⟨hx, hb, hr, hml, hown, hlk, hK⟩ := id hX
  exact lv_tableIn hx hb hdg h1 h2 ho ht (k l D cyI cyZ p e s m args below meth c A H locs ls hX hA hl hP hD hS)
theorem am_tabOut {dflt lo hi : Int} {offs : Array Int} {len : Nat} {x : Int32} {tgt : Nat} (h : x.toInt < lo ∨ hi < x.toInt) (ht : (pc : Int) + dflt = (tgt : Int)) (hdg : decode Y.2.1 pc = .ok (.tableswitch dflt lo hi offs, len)) (k : am_W Y ad I P tgt L st M) : am_W Y ad I P pc L (.int x :: st) M := by
  intro l D cyI cyZ p e s m args below meth c A H locs ls hX hA hl hP hD hS
  obtain ⟨hx, hb, hr, hml, hown, hlk, hK⟩ := id hX
  exact lv_tableOut hx hb hdg h ht (k l D cyI cyZ p e s m args below meth c A H locs ls hX hA hl hP hD hS)
theorem am_K.cls {D : va_G} {cyI cyZ : ClassId} {s : State} (h : am_K D cyI cyZ s) {C : String} {T : u_T} {N : Nat} (hT : ∀ w ∈ u_ws C T N, w ∈ lw_tbl ∧ goodWord w = true) (args : Array Value) : ∀ w ∈ u_ws C T N, w.before args s = true := by
  intro w hw
  obtain ⟨h1, h2⟩ := hT w hw
  have h3 := h.2.1 w h1 h2
  refine va_tabs ?_ rfl h3
  obtain ⟨k, -, rfl⟩ := List.mem_map.mp hw
  unfold u_lay
  split <;> rfl
theorem am_geti {k j ci index N : Nat} {C : String} {T : u_T} {fl : List (Option Nat)} (hk : k ∈ I) (hs : am_shp k = .inl (ci, fl)) (hj : fl[j]? = some none) (hc : vwCl[ci]? = some (C, T, N)) (hT : ∀ w ∈ u_ws C T N, w ∈ lw_tbl ∧ goodWord w = true) (hN : j < N) (hw : Cond.fieldLink Y.1.cls index (T j).1 (T j).2.1 (T j).2.2.1 ∈ lw_tbl) (hdg : decode Y.2.1 pc = .ok (.getfield index, 3)) (kk : am_W Y ad I P (pc + 3) L (.int (M k j) :: st) M) : am_W Y ad I P pc L (.ref (ad k) :: st) M := by
  intro l D cyI cyZ p e s m args below meth c A H locs ls hX hA hl hP hD hS
  obtain ⟨hx, hb, hr, hml, hown, hlk, hK⟩ := id hX
  obtain ⟨q, hq⟩ := List.getElem?_of_mem hk
  have he : (am_w I cyI cyZ ad M)[q]? = some (ad k, .inr (ci, am_fs ad (M k) 0 fl)) := by rw [am_w_get hq, am_cell, hs]
  refine va_get (v := .int (M k j)) hx hb (hK.cls hT args) (fun _ h => h) hown hK.1 hP q he hc j hN (am_word hK hw rfl rfl args) (fun _ h => h) ?_ hdg (kk l D cyI cyZ p e s m args below meth c A H locs ls hX hA hl hP hD hS)
  have h0 := am_fs_i ad (M k) fl 0 j hj
  rwa [Nat.zero_add] at h0
theorem am_getr {z : Nat} {k j ci index N : Nat} {C : String} {T : u_T} {fl : List (Option Nat)} (hk : k ∈ I) (hs : am_shp k = .inl (ci, fl)) (hj : fl[j]? = some (some z)) (hc : vwCl[ci]? = some (C, T, N)) (hT : ∀ w ∈ u_ws C T N, w ∈ lw_tbl ∧ goodWord w = true) (hN : j < N) (hw : Cond.fieldLink Y.1.cls index (T j).1 (T j).2.1 (T j).2.2.1 ∈ lw_tbl) (hdg : decode Y.2.1 pc = .ok (.getfield index, 3)) (kk : am_W Y ad I P (pc + 3) L (.ref (ad z) :: st) M) : am_W Y ad I P pc L (.ref (ad k) :: st) M := by
  intro l D cyI cyZ p e s m args below meth c A H locs ls hX hA hl hP hD hS
  obtain ⟨hx, hb, hr, hml, hown, hlk, hK⟩ := id hX
  obtain ⟨q, hq⟩ := List.getElem?_of_mem hk
  have he : (am_w I cyI cyZ ad M)[q]? = some (ad k, .inr (ci, am_fs ad (M k) 0 fl)) := by rw [am_w_get hq, am_cell, hs]
  exact va_get (v := .ref (ad z)) hx hb (hK.cls hT args) (fun _ h => h) hown hK.1 hP q he hc j hN (am_word hK hw rfl rfl args) (fun _ h => h) (am_fs_r ad (M k) fl 0 j z hj) hdg (kk l D cyI cyZ p e s m args below meth c A H locs ls hX hA hl hP hD hS)
theorem am_put_ok {cyI cyZ : ClassId} {A : Nat → Prop} {q k j ci : Nat} {v : Int32} {fl : List (Option Nat)} (hq : I[q]? = some k) (hs : am_shp k = .inl (ci, fl)) (hj : fl[j]? = some none) (hD0 : va_D A (am_w I cyI cyZ ad M)) : (am_w I cyI cyZ ad M).set q (ad k, .inr (ci, (am_fs ad (M k) 0 fl).set j (.int v))) = am_w I cyI cyZ ad (am_put M k j v) := by
  rw [← am_w_set (M' := am_put M k j v) hD0 hq (fun a ha => by simp [am_put, ha])]
  have e : am_cell cyI cyZ ad (am_put M k j v) k = .inr (ci, am_fs ad (upd (M k) j v) 0 fl) := by simp [am_cell, hs, am_put]
  rw [e, am_fs_set ad (M k) v fl 0 j hj, Nat.zero_add]
theorem am_puti {v : Int32} {ty : FieldType} {tyf : Nat → FieldType} {k j ci index N : Nat} {C : String} {T : u_T} {fl : List (Option Nat)} (hk : k ∈ I) (hs : am_shp k = .inl (ci, fl)) (hj : fl[j]? = some none) (hc : vwCl[ci]? = some (C, T, N)) (hT : ∀ w ∈ u_ws C T N, w ∈ lw_tbl ∧ goodWord w = true) (hty : ∀ k, k < N → parseFieldDescriptor (T k).2.2.1 = some (tyf k)) (hnm : ∀ a, a < N → ∀ b, b < N → a ≠ b → (T a).2.1 ≠ (T b).2.1) (hN : j < N) (hw : Cond.fieldLink Y.1.cls index (T j).1 (T j).2.1 (T j).2.2.1 ∈ lw_tbl) (hfin : (T j).2.2.2 = false) (htyj : tyf j = ty) (hn : narrow ty (.int v) = .int v) (hfit : fits ty (.int v) = true) (hdg : decode Y.2.1 pc = .ok (.putfield index, 3)) (kk : am_W Y ad I P (pc + 3) L st (am_put M k j v)) : am_W Y ad I P pc L (.int v :: .ref (ad k) :: st) M := by
  intro l D cyI cyZ p e s m args below meth c A H locs ls hX hA hl hP hD hS
  obtain ⟨hx, hb, hr, hml, hown, hlk, hK⟩ := id hX
  obtain ⟨q, hq⟩ := List.getElem?_of_mem hk
  have he : (am_w I cyI cyZ ad M)[q]? = some (ad k, .inr (ci, am_fs ad (M k) 0 fl)) := by rw [am_w_get hq, am_cell, hs]
  refine va_put hx hb (hK.cls hT args) (fun _ h => h) tyf hty hnm hown hK.1 hP hD hS q he hc j hN (am_word hK hw rfl rfl args) (fun _ h => h) hfin (ty := ty) (by rw [hty j hN, htyj]) hn hfit ?_ hdg (fun H1 locs1 hP1 hD1 hS1 => ?_)
  · rw [am_fs_len]
    exact (List.getElem?_eq_some_iff.mp hj).1
  · have e9 := am_put_ok (v := v) hq hs hj hD
    rw [e9] at hP1 hD1
    exact kk l D cyI cyZ p e s m args below meth c A H1 locs1 ls hX hA hl hP1 hD1 hS1
theorem am_arr {cyI cyZ : ClassId} {q k n : Nat} {z : Bool} (hq : I[q]? = some k) (hs : am_shp k = .inr (z, n)) : (am_w I cyI cyZ ad M)[q]? = some (ad k, .inl (if z = true then cyZ else cyI, n, .inl (M k))) := by rw [am_w_get hq, am_cell, hs]
theorem am_iald {k n : Nat} {i : Int32} (hk : k ∈ I) (hs : am_shp k = .inr (false, n)) (hin : vp_in i n) (hdg : decode Y.2.1 pc = .ok (.iaload, 1)) (kk : am_W Y ad I P (pc + 1) L (.int (M k i.toNatClampNeg) :: st) M) : am_W Y ad I P pc L (.int i :: .ref (ad k) :: st) M := by
  intro l D cyI cyZ p e s m args below meth c A H locs ls hX hA hl hP hD hS
  obtain ⟨hx, hb, hr, hml, hown, hlk, hK⟩ := id hX
  obtain ⟨q, hq⟩ := List.getElem?_of_mem hk
  exact va_iald hx hb hK.1 hP q 0 (am_arr hq hs) rfl hin hdg (kk l D cyI cyZ p e s m args below meth c A H locs ls hX hA hl hP hD hS)
theorem am_zald {k n : Nat} {i : Int32} (hk : k ∈ I) (hs : am_shp k = .inr (true, n)) (hin : vp_in i n) (hdg : decode Y.2.1 pc = .ok (.baload, 1)) (kk : am_W Y ad I P (pc + 1) L (.int (M k i.toNatClampNeg) :: st) M) : am_W Y ad I P pc L (.int i :: .ref (ad k) :: st) M := by
  intro l D cyI cyZ p e s m args below meth c A H locs ls hX hA hl hP hD hS
  obtain ⟨hx, hb, hr, hml, hown, hlk, hK⟩ := id hX
  obtain ⟨q, hq⟩ := List.getElem?_of_mem hk
  exact va_zald hx hb hK.1 hP q 1 (am_arr hq hs) rfl hin hdg (kk l D cyI cyZ p e s m args below meth c A H locs ls hX hA hl hP hD hS)
theorem am_ast_ok {cyI cyZ : ClassId} {A : Nat → Prop} {q k n j : Nat} {z : Bool} {v : Int32} (hq : I[q]? = some k) (hs : am_shp k = .inr (z, n)) (hD0 : va_D A (am_w I cyI cyZ ad M)) : (am_w I cyI cyZ ad M).set q (ad k, .inl (if z = true then cyZ else cyI, n, .inl (upd (M k) j v))) = am_w I cyI cyZ ad (am_put M k j v) := by
  rw [← am_w_set (M' := am_put M k j v) hD0 hq (fun a ha => by simp [am_put, ha])]
  have e : am_cell cyI cyZ ad (am_put M k j v) k = .inl (if z = true then cyZ else cyI, n, .inl (upd (M k) j v)) := by simp [am_cell, hs, am_put]
  rw [e]
theorem am_iast {k n : Nat} {i v : Int32} (hk : k ∈ I) (hs : am_shp k = .inr (false, n)) (hin : vp_in i n) (hdg : decode Y.2.1 pc = .ok (.iastore, 1)) (kk : am_W Y ad I P (pc + 1) L st (am_put M k i.toNatClampNeg v)) : am_W Y ad I P pc L (.int v :: .int i :: .ref (ad k) :: st) M := by
  intro l D cyI cyZ p e s m args below meth c A H locs ls hX hA hl hP hD hS
  obtain ⟨hx, hb, hr, hml, hown, hlk, hK⟩ := id hX
  obtain ⟨q, hq⟩ := List.getElem?_of_mem hk
  refine va_iast hx hb hK.1 hP hD hS q 0 (am_arr hq hs) rfl hin hdg (fun H1 locs1 hP1 hD1 hS1 => ?_)
  have e := am_ast_ok (j := i.toNatClampNeg) (v := v) hq hs hD
  rw [e] at hP1 hD1
  exact kk l D cyI cyZ p _ s m args below meth c A H1 locs1 ls hX hA hl hP1 hD1 hS1
theorem am_zast {k n : Nat} {i v : Int32} (hk : k ∈ I) (hs : am_shp k = .inr (true, n)) (hin : vp_in i n) (hv : vp_nar .boolean v = v) (hdg : decode Y.2.1 pc = .ok (.bastore, 1)) (kk : am_W Y ad I P (pc + 1) L st (am_put M k i.toNatClampNeg v)) : am_W Y ad I P pc L (.int v :: .int i :: .ref (ad k) :: st) M := by
  intro l D cyI cyZ p e s m args below meth c A H locs ls hX hA hl hP hD hS
  obtain ⟨hx, hb, hr, hml, hown, hlk, hK⟩ := id hX
  obtain ⟨q, hq⟩ := List.getElem?_of_mem hk
  refine va_zast hx hb hK.1 hP hD hS q 1 (am_arr hq hs) rfl hin hdg (fun H1 locs1 hP1 hD1 hS1 => ?_)
  rw [hv] at hP1 hD1
  have e := am_ast_ok (j := i.toNatClampNeg) (v := v) hq hs hD
  rw [e] at hP1 hD1
  exact kk l D cyI cyZ p _ s m args below meth c A H1 locs1 ls hX hA hl hP1 hD1 hS1
theorem am_alen {k n : Nat} {z : Bool} {v : Int32} (hk : k ∈ I) (hs : am_shp k = .inr (z, n)) (hv : Int32.ofNat n = v) (hdg : decode Y.2.1 pc = .ok (.arraylength, 1)) (kk : am_W Y ad I P (pc + 1) L (.int v :: st) M) : am_W Y ad I P pc L (.ref (ad k) :: st) M := by
  intro l D cyI cyZ p e s m args below meth c A H locs ls hX hA hl hP hD hS
  obtain ⟨hx, hb, hr, hml, hown, hlk, hK⟩ := id hX
  obtain ⟨q, hq⟩ := List.getElem?_of_mem hk
  cases z with
  | false => exact va_alen hx hb hK.1 hP q 0 (am_arr hq hs) (ty := .int) rfl hv hdg (kk l D cyI cyZ p e s m args below meth c A H locs ls hX hA hl hP hD hS)
  | true => exact va_alen hx hb hK.1 hP q 1 (am_arr hq hs) (ty := .boolean) rfl hv hdg (kk l D cyI cyZ p e s m args below meth c A H locs ls hX hA hl hP hD hS)
theorem am_iret {v : Int32} (hret : Y.2.2.2.1 = some .int) (hdg : decode Y.2.1 pc = .ok (.ireturn, 1)) (hp : P (some (.int v)) M) : am_W Y ad I P pc L [.int v] M := by
  intro l D cyI cyZ p e s m args below meth c A H locs ls hX hA hl hP hD hS
  obtain ⟨hx, hb, hr, hml, hown, hlk, hK⟩ := id hX
  exact W.iret hx hb (hr.trans hret) (fun t ht hW => ⟨⟨_, M, rfl, hp, by rw [ht]; exact hP, hK.moved hW, hD⟩, hS.F ht⟩) hS.2.2 hdg hlk
theorem am_zret {v : Int32} (hret : Y.2.2.2.1 = some .boolean) (hn : narrow .boolean (.int v) = .int v) (hdg : decode Y.2.1 pc = .ok (.ireturn, 1)) (hp : P (some (.int v)) M) : am_W Y ad I P pc L [.int v] M := by
  intro l D cyI cyZ p e s m args below meth c A H locs ls hX hA hl hP hD hS
  obtain ⟨hx, hb, hr, hml, hown, hlk, hK⟩ := id hX
  exact W.zret hx hb (hr.trans hret) hn (fun t ht hW => ⟨⟨_, M, rfl, hp, by rw [ht]; exact hP, hK.moved hW, hD⟩, hS.F ht⟩) hS.2.2 hdg hlk
theorem am_vret (hret : Y.2.2.2.1 = none) (hdg : decode Y.2.1 pc = .ok (.return_, 1)) (hp : P none M) : am_W Y ad I P pc L [] M := by
  intro l D cyI cyZ p e s m args below meth c A H locs ls hX hA hl hP hD hS
  obtain ⟨hx, hb, hr, hml, hown, hlk, hK⟩ := id hX
  exact W.vret hx hb (hr.trans hret) (fun t ht hW => ⟨⟨_, M, rfl, hp, by rw [ht]; exact hP, hK.moved hW, hD⟩, hS.F ht⟩) hS.2.2 hdg hlk
theorem am_aret {v : Value} {cn : String} (hret : Y.2.2.2.1 = some (.object cn)) (hv : v = .null ∨ ∃ a, v = .ref a) (hdg : decode Y.2.1 pc = .ok (.areturn, 1)) (hp : P (some v) M) : am_W Y ad I P pc L [v] M := by
  intro l D cyI cyZ p e s m args below meth c A H locs ls hX hA hl hP hD hS
  obtain ⟨hx, hb, hr, hml, hown, hlk, hK⟩ := id hX
  exact W.aret hx hb (hr.trans hret) (Or.inl ⟨_, rfl⟩) hv (fun t ht hW => ⟨⟨_, M, rfl, hp, by rw [ht]; exact hP, hK.moved hW, hD⟩, hS.F ht⟩) hS.2.2 hdg hlk
theorem am_mabs {index : Nat} {x : Int32} (hlink : Cond.methodLink Y.1.cls index Lib.Math.abs.name ∈ lw_tbl) (hstat : Cond.static Lib.Math.abs.name ∈ lw_tbl) (hini : Cond.initialized "java/lang/Math" ∈ lw_tbl) (hcode : Cond.code Lib.Math.abs.name Lib.Math.abs.code 1 (some .int) ∈ lw_tbl) (hf : 1 ≤ Y.2.2.2.2.1) (hlc : (st.map fun v => v.category).sum + 13 ≤ Y.2.2.2.2.2) (hdg : decode Y.2.1 pc = .ok (.invokestatic index, 3)) (kk : am_W Y ad I P (pc + 3) L (.int (if 0 ≤ x then x else 0 - x) :: st) M) : am_W Y ad I P pc L (.int x :: st) M := by
  intro l D cyI cyZ p e s m args below meth c A H locs ls hX hA hl hP hD hS
  obtain ⟨hx, hb, hr, hml, hown, hlk, hK⟩ := id hX
  exact va_mabs hx hb (hml.trans hl.1.symm) hown (am_word hK hlink rfl rfl _) (am_word hK hstat rfl rfl _) (am_word hK hini rfl rfl _) (am_word hK hcode rfl rfl _) hf hlc (Nat.zero_le _) (Nat.zero_le _) hdg (kk l D cyI cyZ p e s m args below meth c A H locs ls hX hA hl hP hD hS)
theorem am_mmax {index : Nat} {x y : Int32} (hlink : Cond.methodLink Y.1.cls index Lib.Math.max.name ∈ lw_tbl) (hstat : Cond.static Lib.Math.max.name ∈ lw_tbl) (hini : Cond.initialized "java/lang/Math" ∈ lw_tbl) (hcode : Cond.code Lib.Math.max.name Lib.Math.max.code 2 (some .int) ∈ lw_tbl) (hf : 1 ≤ Y.2.2.2.2.1) (hlc : (st.map fun v => v.category).sum + 13 ≤ Y.2.2.2.2.2) (hdg : decode Y.2.1 pc = .ok (.invokestatic index, 3)) (kk : am_W Y ad I P (pc + 3) L (.int (if x < y then y else x) :: st) M) : am_W Y ad I P pc L (.int y :: .int x :: st) M := by
  intro l D cyI cyZ p e s m args below meth c A H locs ls hX hA hl hP hD hS
  obtain ⟨hx, hb, hr, hml, hown, hlk, hK⟩ := id hX
  exact va_mmax hx hb (hml.trans hl.1.symm) hown (am_word hK hlink rfl rfl _) (am_word hK hstat rfl rfl _) (am_word hK hini rfl rfl _) (am_word hK hcode rfl rfl _) hf hlc (Nat.zero_le _) (Nat.zero_le _) hdg (kk l D cyI cyZ p e s m args below meth c A H locs ls hX hA hl hP hD hS)
theorem am_mmin {index : Nat} {x y : Int32} (hlink : Cond.methodLink Y.1.cls index Lib.Math.min.name ∈ lw_tbl) (hstat : Cond.static Lib.Math.min.name ∈ lw_tbl) (hini : Cond.initialized "java/lang/Math" ∈ lw_tbl) (hcode : Cond.code Lib.Math.min.name Lib.Math.min.code 2 (some .int) ∈ lw_tbl) (hf : 1 ≤ Y.2.2.2.2.1) (hlc : (st.map fun v => v.category).sum + 13 ≤ Y.2.2.2.2.2) (hdg : decode Y.2.1 pc = .ok (.invokestatic index, 3)) (kk : am_W Y ad I P (pc + 3) L (.int (if y < x then y else x) :: st) M) : am_W Y ad I P pc L (.int y :: .int x :: st) M := by
  intro l D cyI cyZ p e s m args below meth c A H locs ls hX hA hl hP hD hS
  obtain ⟨hx, hb, hr, hml, hown, hlk, hK⟩ := id hX
  exact va_mmin hx hb (hml.trans hl.1.symm) hown (am_word hK hlink rfl rfl _) (am_word hK hstat rfl rfl _) (am_word hK hini rfl rfl _) (am_word hK hcode rfl rfl _) hf hlc (Nat.zero_le _) (Nat.zero_le _) hdg (kk l D cyI cyZ p e s m args below meth c A H locs ls hX hA hl hP hD hS)
theorem am_cont {p : Program} {l : Launch} {e : Env} {R : Jvm.Room} {s : State} {m : MethodId} {args a : Array Value} {below : List Frame} {meth : Method} {c : Code} {H : Heap} {locs : List Loc} {ls : Array Slot} {st0 rest : List Value} {Q : State → Prop} {D : va_G} {cyI cyZ : ClassId} {P' : Option Value → am_M → Prop} {A : Nat → Prop}
    (hr : va_Run p l e R s m args below meth c H locs 0 0 0 0 (F0 m pc ls st0) rest (am_Q D cyI cyZ ad I P' (va_A (am_w I cyI cyZ ad M) H.size) a) (va_A (am_w I cyI cyZ ad M) H.size))
    (hD : va_D A (am_w I cyI cyZ ad M)) (hS : va_S A s.heap H locs) (hA : ∀ q : Nat, s.heap.size ≤ q → A q)
    (kk : ∀ (r : Option Value) (M' : am_M) (H1 : Heap) (locs1 : List Loc), P' r M' → va_P D vwCl (am_w I cyI cyZ ad M') H1 → va_D A (am_w I cyI cyZ ad M') → va_S A s.heap H1 locs1 → W p l e R s m args below meth c H1 locs1 0 0 Q (F0 m (pc + 3) ls (r.toList ++ rest))) : W p l e R s m args below meth c H locs 0 0 Q (F0 m pc ls st0) := by
  intro T hT X
  obtain ⟨v, st₀, t, T', L9, h0, X', hL, e1, e2, ⟨⟨r, M', hv, hp, hP1, hK1, hD1⟩, hz, hk⟩, sg⟩ := hr T hT X
  cases hv
  rw [h0] at hz hk
  have hAA : ∀ q : Nat, va_A (am_w I cyI cyZ ad M) H.size q → A q := fun q h => by
    rcases h with ⟨k9, e9, h⟩ | h
    · exact hD.2 k9 _ h
    · exact hA q (Nat.le_trans hS.1 h)
  obtain ⟨t2, a1, b1⟩ := kk v M' T'.heap (locs ++ L9) hp (by rw [e1]; exact hP1) (hD1.weaken (fun _ _ _ h => hAA _ h))
    ⟨Nat.le_trans hS.1 (by rw [e1]; exact hz), fun q h1 h2 => by rw [e1, hk q (Nat.lt_of_lt_of_le h1 hS.1) (fun z => h2 (hAA q z))]; exact hS.2.1 q h1 h2, fun q hq => by
      rcases List.mem_append.mp hq with h | h
      · exact hS.2.2 q h
      · exact hAA _ (hL q h)⟩ T' rfl X'
  exact ⟨t2, sg t2 a1, b1⟩
/-- what a callee needs of the tables: n arguments; instance methods, static methods -/
def am_okV (Y' : am_Y) (n : Nat) : Prop := (Cond.selects Y'.1.cls Y'.1 Y'.1 ∈ lw_tbl ∧ Cond.instanceMethod Y'.1 ∈ lw_tbl) ∧ Cond.initialized Y'.1.cls ∈ lw_tbl ∧ Cond.code Y'.1 Y'.2.1 Y'.2.2.1 Y'.2.2.2.1 ∈ lw_tbl ∧ (Y'.1.cls ≠ "java/lang/invoke/MethodHandle" ∧ Y'.1.cls ≠ "java/lang/invoke/VarHandle" ∧ (parseMethodDescriptor Y'.1.desc).map (fun d => d.parameters.length) = some n)
def am_okS (Y' : am_Y) (n : Nat) : Prop := Cond.static Y'.1 ∈ lw_tbl ∧ Cond.initialized Y'.1.cls ∈ lw_tbl ∧ Cond.code Y'.1 Y'.2.1 Y'.2.2.1 Y'.2.2.2.1 ∈ lw_tbl ∧ (Y'.1.cls ≠ "java/lang/invoke/MethodHandle" ∧ Y'.1.cls ≠ "java/lang/invoke/VarHandle" ∧ (parseMethodDescriptor Y'.1.desc).map (fun d => d.parameters.length) = some n)
theorem am_pay {Y' : am_Y} {D : va_G} {cyI cyZ : ClassId} {s : State} (hK : am_K D cyI cyZ s) (hc : Cond.code Y'.1 Y'.2.1 Y'.2.2.1 Y'.2.2.2.1 ∈ lw_tbl) : ∀ w ∈ [Cond.code Y'.1 Y'.2.1 Y'.2.2.1 Y'.2.2.2.1], ∀ (a' : Array Value) (U : State), s.WarmedH U.vm → w.before a' U = true := by
  intro w hw a' U hW
  rw [List.mem_singleton] at hw
  subst hw
  exact word_at hW (Or.inl rfl) (hK.2.1 _ hc rfl)
theorem am_lens {Y' : am_Y} {n : Nat} (h : (parseMethodDescriptor Y'.1.desc).map (fun d => d.parameters.length) = some n) : ∀ sig, parseMethodDescriptor Y'.1.desc = some sig → n = sig.parameters.length := by
  intro sig h1
  rw [h1] at h
  exact (Option.some.inj h).symm
theorem am_blind {As : List Value} {sz : Nat} {D : va_G} {cyI cyZ : ClassId} : FrameBlind (va_Pc As (fun U => U.heap.size = sz ∧ va_P D vwCl (am_w I cyI cyZ ad M) U.heap ∧ am_K D cyI cyZ U ∧ va_D (fun _ => True) (am_w I cyI cyZ ad M))) := by
  intro a U g mk q
  obtain ⟨q0, q1, qP, qK, qD⟩ := q
  exact ⟨q0, q1, qP, ⟨va_K.moved (u := U) (U := U.calling g mk a) (Vm.Alike.refl U.vm) qK.1, fun w hw hg => by
    have h1 := qK.2.1 w hw hg
    rcases good_of_word hg with h | ⟨ty, rfl⟩
    · exact va_tabs (u := U) (U := U.calling g mk a) (by simp only [Bool.and_eq_true] at h; exact h.1) rfl h1
    · exact word_at (s := U) (U := U.calling g mk a) (State.WarmedH.refl U) (Or.inr ⟨ty, rfl⟩) h1, fun w hw => va_Nw.same (u := U) (U := U.calling g mk a) (am_nst_on w hw) rfl (qK.2.2 w hw)⟩, qD⟩
theorem am_callV {Y' : am_Y} {P' : Option Value → am_M → Prop} {As rest : List Value} {index n : Nat} {k ci N : Nat} {T : u_T} {fl : List (Option Nat)} (hM : am_C Y' ad I (.ref (ad k) :: As) M P') (ok : am_okV Y' n) (hlink : Cond.methodLink Y.1.cls index Y'.1 ∈ lw_tbl) (hk : k ∈ I) (hs : am_shp k = .inl (ci, fl)) (hc : vwCl[ci]? = some (Y'.1.cls, T, N)) (hn : As.length = n) (hR : Y'.2.2.2.2.1 + 1 ≤ Y.2.2.2.2.1 ∧ 8 + (Y'.2.2.1 + 11) + Y'.2.2.2.2.2 ≤ Y.2.2.2.2.2) (hW8 : (rest.map fun v => v.category).sum ≤ 8) {st0 : List Value} (hst : st0 = As.reverse ++ .ref (ad k) :: rest) (hdg : decode Y.2.1 pc = .ok (.invokevirtual index, 3)) (kk : ∀ r M', P' r M' → am_W Y ad I P (pc + 3) L (r.toList ++ rest) M') : am_W Y ad I P pc L st0 M := by
  intro l D cyI cyZ p e s m args below meth c A H locs ls hX hA hl hP hD hS
  obtain ⟨hx, hb, hr, hml, hown, hlk, hK⟩ := id hX
  subst hst
  obtain ⟨⟨ok1, ok2⟩, ok3, ok4, ok5, ok6, ok7⟩ := ok
  obtain ⟨q, hq⟩ := List.getElem?_of_mem hk
  have he : (am_w I cyI cyZ ad M)[q]? = some (ad k, .inr (ci, am_fs ad (M k) 0 fl)) := by rw [am_w_get hq, am_cell, hs]
  exact am_cont (va_runV (As := As) (rest := rest) (Ts := []) ⟨hx, hb, hml, hown, fun w h => absurd h List.not_mem_nil⟩ (hM l D cyI cyZ H.size) ⟨⟨rfl, rfl, hR.1, hR.2, am_pay hK ok4, List.mem_cons_self, am_word hK ok4 rfl rfl _, am_word hK ok3 rfl rfl _, ⟨ok5, ok6⟩, am_lens ok7, am_word hK hlink rfl rfl _⟩, am_word hK ok2 rfl rfl _, am_word hK ok1 rfl rfl _⟩ ⟨am_blind, va_recv hK.1 hP hc he, (fun U hU hW => ⟨rfl, by rw [hU], by rw [hU]; exact hP, hK.moved hW, hD.weaken (fun _ _ _ _ => trivial)⟩)⟩ rfl hn hl.1 rfl (lv_room hW8) hdg ⟨Nat.zero_le _, Nat.zero_le _⟩) hD hS hA (fun r M' H1 locs1 hp hP1 hD1 hS1 => kk r M' hp l D cyI cyZ p e s m args below meth c A H1 locs1 ls hX hA hl hP1 hD1 hS1)
theorem am_callS {Y' : am_Y} {P' : Option Value → am_M → Prop} {As rest : List Value} {index n : Nat} (hM : am_C Y' ad I As M P') (ok : am_okS Y' n) (hlink : Cond.methodLink Y.1.cls index Y'.1 ∈ lw_tbl) (hn : As.length = n) (hR : Y'.2.2.2.2.1 + 1 ≤ Y.2.2.2.2.1 ∧ 8 + (Y'.2.2.1 + 11) + Y'.2.2.2.2.2 ≤ Y.2.2.2.2.2) (hW8 : (rest.map fun v => v.category).sum ≤ 8) {st0 : List Value} (hst : st0 = As.reverse ++ rest) (hdg : decode Y.2.1 pc = .ok (.invokestatic index, 3)) (kk : ∀ r M', P' r M' → am_W Y ad I P (pc + 3) L (r.toList ++ rest) M') : am_W Y ad I P pc L st0 M := by
  intro l D cyI cyZ p e s m args below meth c A H locs ls hX hA hl hP hD hS
  obtain ⟨hx, hb, hr, hml, hown, hlk, hK⟩ := id hX
  subst hst
  obtain ⟨ok1, ok3, ok4, ok5, ok6, ok7⟩ := ok
  exact am_cont (va_runS (As := As) (rest := rest) (Ts := []) ⟨hx, hb, hml, hown, fun w h => absurd h List.not_mem_nil⟩ (hM l D cyI cyZ H.size) ⟨⟨rfl, rfl, hR.1, hR.2, am_pay hK ok4, List.mem_cons_self, am_word hK ok4 rfl rfl _, am_word hK ok3 rfl rfl _, ⟨ok5, ok6⟩, am_lens ok7, am_word hK hlink rfl rfl _⟩, am_word hK ok1 rfl rfl _⟩ ⟨am_blind, (fun U hU hW => ⟨rfl, by rw [hU], by rw [hU]; exact hP, hK.moved hW, hD.weaken (fun _ _ _ _ => trivial)⟩)⟩ rfl hn hl.1 rfl (lv_room hW8) hdg ⟨Nat.zero_le _, Nat.zero_le _⟩) hD hS hA (fun r M' H1 locs1 hp hP1 hD1 hS1 => kk r M' hp l D cyI cyZ p e s m args below meth c A H1 locs1 ls hX hA hl hP1 hD1 hS1)
theorem am_callN {Y' : am_Y} {P' : Option Value → am_M → Prop} {As rest : List Value} {index n : Nat} {host : String} (hM : am_C Y' ad I As M P') (ok : am_okS Y' n) (hlink : Cond.methodLinkNest Y.1.cls index Y'.1 host ∈ am_nst) (hn : As.length = n) (hR : Y'.2.2.2.2.1 + 1 ≤ Y.2.2.2.2.1 ∧ 8 + (Y'.2.2.1 + 11) + Y'.2.2.2.2.2 ≤ Y.2.2.2.2.2) (hW8 : (rest.map fun v => v.category).sum ≤ 8) {st0 : List Value} (hst : st0 = As.reverse ++ rest) (hdg : decode Y.2.1 pc = .ok (.invokestatic index, 3)) (kk : ∀ r M', P' r M' → am_W Y ad I P (pc + 3) L (r.toList ++ rest) M') : am_W Y ad I P pc L st0 M := by
  intro l D cyI cyZ p e s m args below meth c A H locs ls hX hA hl hP hD hS
  obtain ⟨hx, hb, hr, hml, hown, hlk, hK⟩ := id hX
  subst hst
  obtain ⟨ok1, ok3, ok4, ok5, ok6, ok7⟩ := ok
  exact am_cont (va_runSN (As := As) (rest := rest) (Ts := []) ⟨hx, hb, hml, hown, fun w h => absurd h List.not_mem_nil⟩ (hM l D cyI cyZ H.size) ⟨⟨⟨rfl, rfl, hR.1, hR.2, am_pay hK ok4, List.mem_cons_self⟩, am_word hK ok4 rfl rfl _, am_word hK ok3 rfl rfl _, ⟨ok5, ok6⟩, am_lens ok7, va_Nw.use rfl (hK.2.2 _ hlink)⟩, am_word hK ok1 rfl rfl _, trivial⟩ ⟨am_blind, (fun U hU hW => ⟨rfl, by rw [hU], by rw [hU]; exact hP, hK.moved hW, hD.weaken (fun _ _ _ _ => trivial)⟩)⟩ rfl hn hl.1 rfl (lv_room hW8) hdg ⟨Nat.zero_le _, Nat.zero_le _⟩) hD hS hA (fun r M' H1 locs1 hp hP1 hD1 hS1 => kk r M' hp l D cyI cyZ p e s m args below meth c A H1 locs1 ls hX hA hl hP1 hD1 hS1)
theorem am_oinit {index v : Nat} (hlink : Cond.methodLink Y.1.cls index Lib.objectInit ∈ lw_tbl) (hinst : Cond.instanceMethod Lib.objectInit ∈ lw_tbl) (hcode : Cond.code Lib.objectInit ⟨#[0xb1]⟩ 1 none ∈ lw_tbl) (hf : 1 ≤ Y.2.2.2.2.1) (hlc : (st.map fun v => v.category).sum + 12 ≤ Y.2.2.2.2.2) (hdg : decode Y.2.1 pc = .ok (.invokespecial index, 3)) (kk : am_W Y ad I P (pc + 3) L st M) : am_W Y ad I P pc L (.ref v :: st) M := by
  intro l D cyI cyZ p e s m args below meth c A H locs ls hX hA hl hP hD hS
  obtain ⟨hx, hb, hr, hml, hown, hlk, hK⟩ := id hX
  refine W.objInit hx hb hown (am_word hK hlink rfl rfl _) (am_word hK hinst rfl rfl _) (am_word hK hcode rfl rfl _) rfl (hl.1.trans hml.symm) rfl hdg hf (by show 2 * 0 + _ + 12 ≤ _; rw [Nat.mul_zero, Nat.zero_add]; exact hlc) ?_
  exact kk l D cyI cyZ p e s m args below meth c A H locs ls hX hA hl hP hD hS
end AMR
end

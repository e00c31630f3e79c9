theorem kI_1 : (1 : Int32).toInt = 1 := by decide
theorem kI_2 : (2 : Int32).toInt = 2 := by decide
theorem kI_3 : (3 : Int32).toInt = 3 := by decide
theorem kI_4 : (4 : Int32).toInt = 4 := by decide
theorem kI_5 : (5 : Int32).toInt = 5 := by decide
theorem kI_6 : (6 : Int32).toInt = 6 := by decide
theorem kI_7 : (7 : Int32).toInt = 7 := by decide
theorem kI_8 : (8 : Int32).toInt = 8 := by decide
theorem kI_9 : (9 : Int32).toInt = 9 := by decide
theorem kI_10 : (10 : Int32).toInt = 10 := by decide
theorem kI_12 : (12 : Int32).toInt = 12 := by decide
theorem kI_13 : (13 : Int32).toInt = 13 := by decide
theorem kI_31 : (31 : Int32).toInt = 31 := by decide
theorem kI_100 : (100 : Int32).toInt = 100 := by decide
theorem kI_200 : (200 : Int32).toInt = 200 := by decide
theorem kI_201 : (201 : Int32).toInt = 201 := by decide
theorem kI_400 : (400 : Int32).toInt = 400 := by decide
theorem kI_1000 : (1000 : Int32).toInt = 1000 := by decide
theorem kI_2000 : (2000 : Int32).toInt = 2000 := by decide
theorem kI_1000000 : (1000000 : Int32).toInt = 1000000 := by decide
theorem kI_m1 : (-1 : Int32).toInt = -1 := by decide
theorem kI_m4 : (-4 : Int32).toInt = -4 := by decide
theorem kI_m200 : (-200 : Int32).toInt = -200 := by decide
theorem kI_m2000 : (-2000 : Int32).toInt = -2000 := by decide
def sp_in (n l m : Int32) : Bool := decide (l ≤ n ∧ n ≤ m)
def sp_speed (M : am_M) (v : Int32) : Bool := decide (0 ≤ v ∧ v ≤ M 1 0)
def sp_state (M : am_M) (v a : Int32) : Bool := decide (0 ≤ v ∧ v ≤ M 1 0 ∧ -(M 1 1) ≤ a ∧ a ≤ M 1 1)
def sp_rest (M : am_M) (v a : Int32) : Bool := decide (v = 0 ∧ sp_state M v a = true ∧ -(M 1 2) ≤ a ∧ a ≤ M 1 2)
def sp_bad (M : am_M) (v : Int32) : Bool := decide (0 ≤ v ∧ v < 13 ∧ ¬ M 2 v.toNatClampNeg = 0)
def sp_safe (M : am_M) (w b : Int32) : Bool := decide (0 ≤ w ∧ w < 13 ∧ M 1 3 + M 1 4 * iabs b ≤ M 3 w.toNatClampNeg)
def sp_mayEnd (M : am_M) (w b : Int32) (s : Bool) : Bool := decide (sp_state M w b = true ∧ ¬ (b = 0 ∧ sp_bad M w = true) ∧ (s = false ∨ sp_safe M w b = true))
theorem am_vp13 {x : Int32} (h0 : ¬ x < 0) (h1 : ¬ (13 : Int32) ≤ x) : vp_in x 13 := by
  have e13 : (13 : Int32).toInt = 13 := by decide
  simp only [Int32.le_iff_toInt_le, Int32.lt_iff_toInt_lt, Int32.toInt_zero] at h0 h1
  exact am_vpI (by omega) (by omega)
set_option maxRecDepth 100000 in
set_option maxHeartbeats 4000000 in
theorem c_X6_isWithin (ad : Nat → Nat) (M : am_M) (n l m : Int32) : am_C ydX6_isWithin ad am_II [.int n, .int l, .int m] M (am_is (bI (sp_in n l m)) M) := by
  refine am_ofW (by decide +kernel) (by simp [Value.category]) (Nat.le_of_ble_eq_true rfl) rfl ?_
  refine am_iload_n rfl dX6_isWithin_0 ?_
  refine am_iload_n rfl dX6_isWithin_1 ?_
  refine am_icmp_lt (tgt := 14) (by decide) dX6_isWithin_2 (fun h2 => ?_) (fun h2 => ?_)
  · refine am_iconst (v := 0) (by decide) dX6_isWithin_14 ?_
    refine am_zret rfl (by first | exact am_nb _ | decide) dX6_isWithin_15 ?_
    refine am_isF ?_
    simp only [sp_in, decide_eq_true_eq, decide_eq_false_iff_not, Bool.and_eq_true, Bool.or_eq_true, Bool.not_eq_true', Bool.and_eq_false_iff, bI_0] at *
    first | (simp_all; done) | (simp only [Int32.le_iff_toInt_le, Int32.lt_iff_toInt_lt, ← Int32.toInt_inj, Int32.toInt_zero, kI_1, kI_2, kI_3, kI_4, kI_5, kI_6, kI_7, kI_8, kI_9, kI_10, kI_12, kI_13, kI_31, kI_100, kI_200, kI_201, kI_400, kI_1000, kI_2000, kI_1000000, kI_m1, kI_m4, kI_m200, kI_m2000] at *; omega)
  · refine am_iload_n rfl dX6_isWithin_5 ?_
    refine am_iload_n rfl dX6_isWithin_6 ?_
    refine am_icmp_gt (tgt := 14) (by decide) dX6_isWithin_7 (fun h7 => ?_) (fun h7 => ?_)
    · refine am_iconst (v := 0) (by decide) dX6_isWithin_14 ?_
      refine am_zret rfl (by first | exact am_nb _ | decide) dX6_isWithin_15 ?_
      refine am_isF ?_
      simp only [sp_in, decide_eq_true_eq, decide_eq_false_iff_not, Bool.and_eq_true, Bool.or_eq_true, Bool.not_eq_true', Bool.and_eq_false_iff, bI_0] at *
      first | (simp_all; done) | (simp only [Int32.le_iff_toInt_le, Int32.lt_iff_toInt_lt, ← Int32.toInt_inj, Int32.toInt_zero, kI_1, kI_2, kI_3, kI_4, kI_5, kI_6, kI_7, kI_8, kI_9, kI_10, kI_12, kI_13, kI_31, kI_100, kI_200, kI_201, kI_400, kI_1000, kI_2000, kI_1000000, kI_m1, kI_m4, kI_m200, kI_m2000] at *; omega)
    · refine am_iconst (v := 1) (by decide) dX6_isWithin_10 ?_
      refine am_goto (tgt := 15) (by decide) dX6_isWithin_11 ?_
      refine am_zret rfl (by first | exact am_nb _ | decide) dX6_isWithin_15 ?_
      refine am_isT ?_
      simp only [sp_in, decide_eq_true_eq, decide_eq_false_iff_not, Bool.and_eq_true, Bool.or_eq_true, Bool.not_eq_true', Bool.and_eq_false_iff, bI_0] at *
      first | (simp_all; done) | (simp only [Int32.le_iff_toInt_le, Int32.lt_iff_toInt_lt, ← Int32.toInt_inj, Int32.toInt_zero, kI_1, kI_2, kI_3, kI_4, kI_5, kI_6, kI_7, kI_8, kI_9, kI_10, kI_12, kI_13, kI_31, kI_100, kI_200, kI_201, kI_400, kI_1000, kI_2000, kI_1000000, kI_m1, kI_m4, kI_m200, kI_m2000] at *; omega)
def sp_num (v a : Int32) : Int32 := v * 9 + a + 4
set_option maxRecDepth 100000 in
set_option maxHeartbeats 4000000 in
theorem c_X6_stateNumber (ad : Nat → Nat) (M : am_M) (v a : Int32) : am_C ydX6_stateNumber ad am_II [.int v, .int a] M (am_is (sp_num v a) M) := by
  refine am_ofW (by decide +kernel) (by simp [Value.category]) (Nat.le_of_ble_eq_true rfl) rfl ?_
  refine am_iload_n rfl dX6_stateNumber_0 ?_
  refine am_bipush (v := 9) (by decide) dX6_stateNumber_1 ?_
  refine am_imul dX6_stateNumber_3 ?_
  refine am_iload_n rfl dX6_stateNumber_4 ?_
  refine am_iadd dX6_stateNumber_5 ?_
  refine am_iconst (v := 4) (by decide) dX6_stateNumber_6 ?_
  refine am_iadd dX6_stateNumber_7 ?_
  refine am_iret rfl dX6_stateNumber_8 ?_
  exact ⟨rfl, rfl⟩
def sp_way (d : Int32) : Bool := sp_in d (-200) 200
set_option maxRecDepth 100000 in
set_option maxHeartbeats 4000000 in
theorem c_X6_isWay (ad : Nat → Nat) (M : am_M) (d : Int32) : am_C ydX6_isWay ad am_II [.int d] M (am_is (bI (sp_way d)) M) := by
  refine am_ofW (by decide +kernel) (by simp [Value.category]) (Nat.le_of_ble_eq_true rfl) rfl ?_
  refine am_iload_n rfl dX6_isWay_0 ?_
  refine am_sipush (v := (-200)) (by decide) dX6_isWay_1 ?_
  refine am_sipush (v := 200) (by decide) dX6_isWay_4 ?_
  refine am_callSi (c_X6_isWithin ad M _ _ _) okX6_isWithin ml_X6_66 rfl ⟨by decide, by decide⟩ (Nat.le_of_ble_eq_true rfl) rfl dX6_isWay_7 ?_
  refine am_zret rfl (by first | exact am_nb _ | decide) dX6_isWay_10 ?_
  exact ⟨rfl, rfl⟩
set_option maxRecDepth 100000 in
set_option maxHeartbeats 4000000 in
theorem c_X4_isSpeed (ad : Nat → Nat) (M : am_M) (v : Int32) : am_C ydX4_isSpeed ad am_II [.ref (ad 1), .int v] M (am_is (bI (sp_speed M v)) M) := by
  refine am_ofW (by decide +kernel) (by simp [Value.category]) (Nat.le_of_ble_eq_true rfl) rfl ?_
  refine am_iload_n rfl dX4_isSpeed_0 ?_
  refine am_if_lt (tgt := 16) (by decide) dX4_isSpeed_1 (fun h1 => ?_) (fun h1 => ?_)
  · refine am_iconst (v := 0) (by decide) dX4_isSpeed_16 ?_
    refine am_zret rfl (by first | exact am_nb _ | decide) dX4_isSpeed_17 ?_
    refine am_isF ?_
    simp only [sp_speed, decide_eq_true_eq, decide_eq_false_iff_not, Bool.and_eq_true, Bool.or_eq_true, Bool.not_eq_true', Bool.and_eq_false_iff, bI_0] at *
    first | (simp_all; done) | (simp only [Int32.le_iff_toInt_le, Int32.lt_iff_toInt_lt, ← Int32.toInt_inj, Int32.toInt_zero, kI_1, kI_2, kI_3, kI_4, kI_5, kI_6, kI_7, kI_8, kI_9, kI_10, kI_12, kI_13, kI_31, kI_100, kI_200, kI_201, kI_400, kI_1000, kI_2000, kI_1000000, kI_m1, kI_m4, kI_m200, kI_m2000] at *; omega)
  · refine am_iload_n rfl dX4_isSpeed_4 ?_
    refine am_aload_n rfl dX4_isSpeed_5 ?_
    refine am_geti (j := 0) (by decide) rfl rfl rfl hTX4 (by decide) fl_X4_9 dX4_isSpeed_6 ?_
    refine am_icmp_gt (tgt := 16) (by decide) dX4_isSpeed_9 (fun h9 => ?_) (fun h9 => ?_)
    · refine am_iconst (v := 0) (by decide) dX4_isSpeed_16 ?_
      refine am_zret rfl (by first | exact am_nb _ | decide) dX4_isSpeed_17 ?_
      refine am_isF ?_
      simp only [sp_speed, decide_eq_true_eq, decide_eq_false_iff_not, Bool.and_eq_true, Bool.or_eq_true, Bool.not_eq_true', Bool.and_eq_false_iff, bI_0] at *
      first | (simp_all; done) | (simp only [Int32.le_iff_toInt_le, Int32.lt_iff_toInt_lt, ← Int32.toInt_inj, Int32.toInt_zero, kI_1, kI_2, kI_3, kI_4, kI_5, kI_6, kI_7, kI_8, kI_9, kI_10, kI_12, kI_13, kI_31, kI_100, kI_200, kI_201, kI_400, kI_1000, kI_2000, kI_1000000, kI_m1, kI_m4, kI_m200, kI_m2000] at *; omega)
    · refine am_iconst (v := 1) (by decide) dX4_isSpeed_12 ?_
      refine am_goto (tgt := 17) (by decide) dX4_isSpeed_13 ?_
      refine am_zret rfl (by first | exact am_nb _ | decide) dX4_isSpeed_17 ?_
      refine am_isT ?_
      simp only [sp_speed, decide_eq_true_eq, decide_eq_false_iff_not, Bool.and_eq_true, Bool.or_eq_true, Bool.not_eq_true', Bool.and_eq_false_iff, bI_0] at *
      first | (simp_all; done) | (simp only [Int32.le_iff_toInt_le, Int32.lt_iff_toInt_lt, ← Int32.toInt_inj, Int32.toInt_zero, kI_1, kI_2, kI_3, kI_4, kI_5, kI_6, kI_7, kI_8, kI_9, kI_10, kI_12, kI_13, kI_31, kI_100, kI_200, kI_201, kI_400, kI_1000, kI_2000, kI_1000000, kI_m1, kI_m4, kI_m200, kI_m2000] at *; omega)
set_option maxRecDepth 100000 in
set_option maxHeartbeats 4000000 in
theorem c_X4_isState (ad : Nat → Nat) (M : am_M) (v a : Int32) : am_C ydX4_isState ad am_II [.ref (ad 1), .int v, .int a] M (am_is (bI (sp_state M v a)) M) := by
  refine am_ofW (by decide +kernel) (by simp [Value.category]) (Nat.le_of_ble_eq_true rfl) rfl ?_
  refine am_iload_n rfl dX4_isState_0 ?_
  refine am_if_lt (tgt := 33) (by decide) dX4_isState_1 (fun h1 => ?_) (fun h1 => ?_)
  · refine am_iconst (v := 0) (by decide) dX4_isState_33 ?_
    refine am_zret rfl (by first | exact am_nb _ | decide) dX4_isState_34 ?_
    refine am_isF ?_
    simp only [sp_state, decide_eq_true_eq, decide_eq_false_iff_not, Bool.and_eq_true, Bool.or_eq_true, Bool.not_eq_true', Bool.and_eq_false_iff, bI_0] at *
    first | (simp_all; done) | (simp only [Int32.le_iff_toInt_le, Int32.lt_iff_toInt_lt, ← Int32.toInt_inj, Int32.toInt_zero, kI_1, kI_2, kI_3, kI_4, kI_5, kI_6, kI_7, kI_8, kI_9, kI_10, kI_12, kI_13, kI_31, kI_100, kI_200, kI_201, kI_400, kI_1000, kI_2000, kI_1000000, kI_m1, kI_m4, kI_m200, kI_m2000] at *; omega)
  · refine am_iload_n rfl dX4_isState_4 ?_
    refine am_aload_n rfl dX4_isState_5 ?_
    refine am_geti (j := 0) (by decide) rfl rfl rfl hTX4 (by decide) fl_X4_9 dX4_isState_6 ?_
    refine am_icmp_gt (tgt := 33) (by decide) dX4_isState_9 (fun h9 => ?_) (fun h9 => ?_)
    · refine am_iconst (v := 0) (by decide) dX4_isState_33 ?_
      refine am_zret rfl (by first | exact am_nb _ | decide) dX4_isState_34 ?_
      refine am_isF ?_
      simp only [sp_state, decide_eq_true_eq, decide_eq_false_iff_not, Bool.and_eq_true, Bool.or_eq_true, Bool.not_eq_true', Bool.and_eq_false_iff, bI_0] at *
      first | (simp_all; done) | (simp only [Int32.le_iff_toInt_le, Int32.lt_iff_toInt_lt, ← Int32.toInt_inj, Int32.toInt_zero, kI_1, kI_2, kI_3, kI_4, kI_5, kI_6, kI_7, kI_8, kI_9, kI_10, kI_12, kI_13, kI_31, kI_100, kI_200, kI_201, kI_400, kI_1000, kI_2000, kI_1000000, kI_m1, kI_m4, kI_m200, kI_m2000] at *; omega)
    · refine am_iload_n rfl dX4_isState_12 ?_
      refine am_aload_n rfl dX4_isState_13 ?_
      refine am_geti (j := 1) (by decide) rfl rfl rfl hTX4 (by decide) fl_X4_15 dX4_isState_14 ?_
      refine am_ineg dX4_isState_17 ?_
      refine am_icmp_lt (tgt := 33) (by decide) dX4_isState_18 (fun h18 => ?_) (fun h18 => ?_)
      · refine am_iconst (v := 0) (by decide) dX4_isState_33 ?_
        refine am_zret rfl (by first | exact am_nb _ | decide) dX4_isState_34 ?_
        refine am_isF ?_
        simp only [sp_state, decide_eq_true_eq, decide_eq_false_iff_not, Bool.and_eq_true, Bool.or_eq_true, Bool.not_eq_true', Bool.and_eq_false_iff, bI_0] at *
        first | (simp_all; done) | (simp only [Int32.le_iff_toInt_le, Int32.lt_iff_toInt_lt, ← Int32.toInt_inj, Int32.toInt_zero, kI_1, kI_2, kI_3, kI_4, kI_5, kI_6, kI_7, kI_8, kI_9, kI_10, kI_12, kI_13, kI_31, kI_100, kI_200, kI_201, kI_400, kI_1000, kI_2000, kI_1000000, kI_m1, kI_m4, kI_m200, kI_m2000] at *; omega)
      · refine am_iload_n rfl dX4_isState_21 ?_
        refine am_aload_n rfl dX4_isState_22 ?_
        refine am_geti (j := 1) (by decide) rfl rfl rfl hTX4 (by decide) fl_X4_15 dX4_isState_23 ?_
        refine am_icmp_gt (tgt := 33) (by decide) dX4_isState_26 (fun h26 => ?_) (fun h26 => ?_)
        · refine am_iconst (v := 0) (by decide) dX4_isState_33 ?_
          refine am_zret rfl (by first | exact am_nb _ | decide) dX4_isState_34 ?_
          refine am_isF ?_
          simp only [sp_state, decide_eq_true_eq, decide_eq_false_iff_not, Bool.and_eq_true, Bool.or_eq_true, Bool.not_eq_true', Bool.and_eq_false_iff, bI_0] at *
          first | (simp_all; done) | (simp only [Int32.le_iff_toInt_le, Int32.lt_iff_toInt_lt, ← Int32.toInt_inj, Int32.toInt_zero, kI_1, kI_2, kI_3, kI_4, kI_5, kI_6, kI_7, kI_8, kI_9, kI_10, kI_12, kI_13, kI_31, kI_100, kI_200, kI_201, kI_400, kI_1000, kI_2000, kI_1000000, kI_m1, kI_m4, kI_m200, kI_m2000] at *; omega)
        · refine am_iconst (v := 1) (by decide) dX4_isState_29 ?_
          refine am_goto (tgt := 34) (by decide) dX4_isState_30 ?_
          refine am_zret rfl (by first | exact am_nb _ | decide) dX4_isState_34 ?_
          refine am_isT ?_
          simp only [sp_state, decide_eq_true_eq, decide_eq_false_iff_not, Bool.and_eq_true, Bool.or_eq_true, Bool.not_eq_true', Bool.and_eq_false_iff, bI_0] at *
          first | (simp_all; done) | (simp only [Int32.le_iff_toInt_le, Int32.lt_iff_toInt_lt, ← Int32.toInt_inj, Int32.toInt_zero, kI_1, kI_2, kI_3, kI_4, kI_5, kI_6, kI_7, kI_8, kI_9, kI_10, kI_12, kI_13, kI_31, kI_100, kI_200, kI_201, kI_400, kI_1000, kI_2000, kI_1000000, kI_m1, kI_m4, kI_m200, kI_m2000] at *; omega)
set_option maxRecDepth 100000 in
set_option maxHeartbeats 4000000 in
theorem c_X4_isRest (ad : Nat → Nat) (M : am_M) (v a : Int32) : am_C ydX4_isRest ad am_II [.ref (ad 1), .int v, .int a] M (am_is (bI (sp_rest M v a)) M) := by
  refine am_ofW (by decide +kernel) (by simp [Value.category]) (Nat.le_of_ble_eq_true rfl) rfl ?_
  refine am_iload_n rfl dX4_isRest_0 ?_
  refine am_if_ne (tgt := 34) (by decide) dX4_isRest_1 (fun h1 => ?_) (fun h1 => ?_)
  · refine am_iconst (v := 0) (by decide) dX4_isRest_34 ?_
    refine am_zret rfl (by first | exact am_nb _ | decide) dX4_isRest_35 ?_
    refine am_isF ?_
    simp only [sp_rest, decide_eq_true_eq, decide_eq_false_iff_not, Bool.and_eq_true, Bool.or_eq_true, Bool.not_eq_true', Bool.and_eq_false_iff, bI_0] at *
    first | (simp_all; done) | (simp only [Int32.le_iff_toInt_le, Int32.lt_iff_toInt_lt, ← Int32.toInt_inj, Int32.toInt_zero, kI_1, kI_2, kI_3, kI_4, kI_5, kI_6, kI_7, kI_8, kI_9, kI_10, kI_12, kI_13, kI_31, kI_100, kI_200, kI_201, kI_400, kI_1000, kI_2000, kI_1000000, kI_m1, kI_m4, kI_m200, kI_m2000] at *; omega)
  · refine am_aload_n rfl dX4_isRest_4 ?_
    refine am_iload_n rfl dX4_isRest_5 ?_
    refine am_iload_n rfl dX4_isRest_6 ?_
    refine am_callVi (c_X4_isState ad M _ _) okX4_isState ml_X4_52 (by decide) rfl rfl rfl ⟨by decide, by decide⟩ (Nat.le_of_ble_eq_true rfl) rfl dX4_isRest_7 ?_
    refine am_ifb_eq (tgt := 34) (by decide) dX4_isRest_10 (fun h10 => ?_) (fun h10 => ?_)
    · refine am_iconst (v := 0) (by decide) dX4_isRest_34 ?_
      refine am_zret rfl (by first | exact am_nb _ | decide) dX4_isRest_35 ?_
      refine am_isF ?_
      simp only [sp_rest, decide_eq_true_eq, decide_eq_false_iff_not, Bool.and_eq_true, Bool.or_eq_true, Bool.not_eq_true', Bool.and_eq_false_iff, bI_0] at *
      first | (simp_all; done) | (simp only [Int32.le_iff_toInt_le, Int32.lt_iff_toInt_lt, ← Int32.toInt_inj, Int32.toInt_zero, kI_1, kI_2, kI_3, kI_4, kI_5, kI_6, kI_7, kI_8, kI_9, kI_10, kI_12, kI_13, kI_31, kI_100, kI_200, kI_201, kI_400, kI_1000, kI_2000, kI_1000000, kI_m1, kI_m4, kI_m200, kI_m2000] at *; omega)
    · refine am_iload_n rfl dX4_isRest_13 ?_
      refine am_aload_n rfl dX4_isRest_14 ?_
      refine am_geti (j := 2) (by decide) rfl rfl rfl hTX4 (by decide) fl_X4_18 dX4_isRest_15 ?_
      refine am_ineg dX4_isRest_18 ?_
      refine am_icmp_lt (tgt := 34) (by decide) dX4_isRest_19 (fun h19 => ?_) (fun h19 => ?_)
      · refine am_iconst (v := 0) (by decide) dX4_isRest_34 ?_
        refine am_zret rfl (by first | exact am_nb _ | decide) dX4_isRest_35 ?_
        refine am_isF ?_
        simp only [sp_rest, decide_eq_true_eq, decide_eq_false_iff_not, Bool.and_eq_true, Bool.or_eq_true, Bool.not_eq_true', Bool.and_eq_false_iff, bI_0] at *
        first | (simp_all; done) | (simp only [Int32.le_iff_toInt_le, Int32.lt_iff_toInt_lt, ← Int32.toInt_inj, Int32.toInt_zero, kI_1, kI_2, kI_3, kI_4, kI_5, kI_6, kI_7, kI_8, kI_9, kI_10, kI_12, kI_13, kI_31, kI_100, kI_200, kI_201, kI_400, kI_1000, kI_2000, kI_1000000, kI_m1, kI_m4, kI_m200, kI_m2000] at *; omega)
      · refine am_iload_n rfl dX4_isRest_22 ?_
        refine am_aload_n rfl dX4_isRest_23 ?_
        refine am_geti (j := 2) (by decide) rfl rfl rfl hTX4 (by decide) fl_X4_18 dX4_isRest_24 ?_
        refine am_icmp_gt (tgt := 34) (by decide) dX4_isRest_27 (fun h27 => ?_) (fun h27 => ?_)
        · refine am_iconst (v := 0) (by decide) dX4_isRest_34 ?_
          refine am_zret rfl (by first | exact am_nb _ | decide) dX4_isRest_35 ?_
          refine am_isF ?_
          simp only [sp_rest, decide_eq_true_eq, decide_eq_false_iff_not, Bool.and_eq_true, Bool.or_eq_true, Bool.not_eq_true', Bool.and_eq_false_iff, bI_0] at *
          first | (simp_all; done) | (simp only [Int32.le_iff_toInt_le, Int32.lt_iff_toInt_lt, ← Int32.toInt_inj, Int32.toInt_zero, kI_1, kI_2, kI_3, kI_4, kI_5, kI_6, kI_7, kI_8, kI_9, kI_10, kI_12, kI_13, kI_31, kI_100, kI_200, kI_201, kI_400, kI_1000, kI_2000, kI_1000000, kI_m1, kI_m4, kI_m200, kI_m2000] at *; omega)
        · refine am_iconst (v := 1) (by decide) dX4_isRest_30 ?_
          refine am_goto (tgt := 35) (by decide) dX4_isRest_31 ?_
          refine am_zret rfl (by first | exact am_nb _ | decide) dX4_isRest_35 ?_
          refine am_isT ?_
          simp only [sp_rest, decide_eq_true_eq, decide_eq_false_iff_not, Bool.and_eq_true, Bool.or_eq_true, Bool.not_eq_true', Bool.and_eq_false_iff, bI_0] at *
          first | (simp_all; done) | (simp only [Int32.le_iff_toInt_le, Int32.lt_iff_toInt_lt, ← Int32.toInt_inj, Int32.toInt_zero, kI_1, kI_2, kI_3, kI_4, kI_5, kI_6, kI_7, kI_8, kI_9, kI_10, kI_12, kI_13, kI_31, kI_100, kI_200, kI_201, kI_400, kI_1000, kI_2000, kI_1000000, kI_m1, kI_m4, kI_m200, kI_m2000] at *; omega)
set_option maxRecDepth 100000 in
set_option maxHeartbeats 4000000 in
theorem c_X4_isBad (ad : Nat → Nat) (M : am_M) (v : Int32) : am_C ydX4_isBad ad am_II [.ref (ad 1), .int v] M (am_is (bI (sp_bad M v)) M) := by
  refine am_ofW (by decide +kernel) (by simp [Value.category]) (Nat.le_of_ble_eq_true rfl) rfl ?_
  refine am_iload_n rfl dX4_isBad_0 ?_
  refine am_if_lt (tgt := 26) (by decide) dX4_isBad_1 (fun h1 => ?_) (fun h1 => ?_)
  · refine am_iconst (v := 0) (by decide) dX4_isBad_26 ?_
    refine am_zret rfl (by first | exact am_nb _ | decide) dX4_isBad_27 ?_
    refine am_isF ?_
    simp only [sp_bad, decide_eq_true_eq, decide_eq_false_iff_not, Bool.and_eq_true, Bool.or_eq_true, Bool.not_eq_true', Bool.and_eq_false_iff, bI_0] at *
    first | (simp_all; done) | (simp only [Int32.le_iff_toInt_le, Int32.lt_iff_toInt_lt, ← Int32.toInt_inj, Int32.toInt_zero, kI_1, kI_2, kI_3, kI_4, kI_5, kI_6, kI_7, kI_8, kI_9, kI_10, kI_12, kI_13, kI_31, kI_100, kI_200, kI_201, kI_400, kI_1000, kI_2000, kI_1000000, kI_m1, kI_m4, kI_m200, kI_m2000] at *; omega)
  · refine am_iload_n rfl dX4_isBad_4 ?_
    refine am_aload_n rfl dX4_isBad_5 ?_
    refine am_getr (j := 5) (by decide) rfl rfl rfl hTX4 (by decide) fl_X4_27 dX4_isBad_6 ?_
    refine am_alen (v := 13) (by decide) rfl (by decide) dX4_isBad_9 ?_
    refine am_icmp_ge (tgt := 26) (by decide) dX4_isBad_10 (fun h10 => ?_) (fun h10 => ?_)
    · refine am_iconst (v := 0) (by decide) dX4_isBad_26 ?_
      refine am_zret rfl (by first | exact am_nb _ | decide) dX4_isBad_27 ?_
      refine am_isF ?_
      simp only [sp_bad, decide_eq_true_eq, decide_eq_false_iff_not, Bool.and_eq_true, Bool.or_eq_true, Bool.not_eq_true', Bool.and_eq_false_iff, bI_0] at *
      first | (simp_all; done) | (simp only [Int32.le_iff_toInt_le, Int32.lt_iff_toInt_lt, ← Int32.toInt_inj, Int32.toInt_zero, kI_1, kI_2, kI_3, kI_4, kI_5, kI_6, kI_7, kI_8, kI_9, kI_10, kI_12, kI_13, kI_31, kI_100, kI_200, kI_201, kI_400, kI_1000, kI_2000, kI_1000000, kI_m1, kI_m4, kI_m200, kI_m2000] at *; omega)
    · refine am_aload_n rfl dX4_isBad_13 ?_
      refine am_getr (j := 5) (by decide) rfl rfl rfl hTX4 (by decide) fl_X4_27 dX4_isBad_14 ?_
      refine am_iload_n rfl dX4_isBad_17 ?_
      refine am_zald (by decide) rfl (am_vp13 (by assumption) (by assumption)) dX4_isBad_18 ?_
      refine am_if_eq (tgt := 26) (by decide) dX4_isBad_19 (fun h19 => ?_) (fun h19 => ?_)
      · refine am_iconst (v := 0) (by decide) dX4_isBad_26 ?_
        refine am_zret rfl (by first | exact am_nb _ | decide) dX4_isBad_27 ?_
        refine am_isF ?_
        simp only [sp_bad, decide_eq_true_eq, decide_eq_false_iff_not, Bool.and_eq_true, Bool.or_eq_true, Bool.not_eq_true', Bool.and_eq_false_iff, bI_0] at *
        first | (simp_all; done) | (simp only [Int32.le_iff_toInt_le, Int32.lt_iff_toInt_lt, ← Int32.toInt_inj, Int32.toInt_zero, kI_1, kI_2, kI_3, kI_4, kI_5, kI_6, kI_7, kI_8, kI_9, kI_10, kI_12, kI_13, kI_31, kI_100, kI_200, kI_201, kI_400, kI_1000, kI_2000, kI_1000000, kI_m1, kI_m4, kI_m200, kI_m2000] at *; omega)
      · refine am_iconst (v := 1) (by decide) dX4_isBad_22 ?_
        refine am_goto (tgt := 27) (by decide) dX4_isBad_23 ?_
        refine am_zret rfl (by first | exact am_nb _ | decide) dX4_isBad_27 ?_
        refine am_isT ?_
        simp only [sp_bad, decide_eq_true_eq, decide_eq_false_iff_not, Bool.and_eq_true, Bool.or_eq_true, Bool.not_eq_true', Bool.and_eq_false_iff, bI_0] at *
        first | (simp_all; done) | (simp only [Int32.le_iff_toInt_le, Int32.lt_iff_toInt_lt, ← Int32.toInt_inj, Int32.toInt_zero, kI_1, kI_2, kI_3, kI_4, kI_5, kI_6, kI_7, kI_8, kI_9, kI_10, kI_12, kI_13, kI_31, kI_100, kI_200, kI_201, kI_400, kI_1000, kI_2000, kI_1000000, kI_m1, kI_m4, kI_m200, kI_m2000] at *; omega)
set_option maxRecDepth 100000 in
set_option maxHeartbeats 4000000 in
theorem c_X4_isSafe (ad : Nat → Nat) (M : am_M) (w b : Int32) : am_C ydX4_isSafe ad am_II [.ref (ad 1), .int w, .int b] M (am_is (bI (sp_safe M w b)) M) := by
  refine am_ofW (by decide +kernel) (by simp [Value.category]) (Nat.le_of_ble_eq_true rfl) rfl ?_
  refine am_iload_n rfl dX4_isSafe_0 ?_
  refine am_if_lt (tgt := 40) (by decide) dX4_isSafe_1 (fun h1 => ?_) (fun h1 => ?_)
  · refine am_iconst (v := 0) (by decide) dX4_isSafe_40 ?_
    refine am_zret rfl (by first | exact am_nb _ | decide) dX4_isSafe_41 ?_
    refine am_isF ?_
    simp only [sp_safe, decide_eq_true_eq, decide_eq_false_iff_not, Bool.and_eq_true, Bool.or_eq_true, Bool.not_eq_true', Bool.and_eq_false_iff, bI_0] at *
    first | (simp_all; done) | (simp only [Int32.le_iff_toInt_le, Int32.lt_iff_toInt_lt, ← Int32.toInt_inj, Int32.toInt_zero, kI_1, kI_2, kI_3, kI_4, kI_5, kI_6, kI_7, kI_8, kI_9, kI_10, kI_12, kI_13, kI_31, kI_100, kI_200, kI_201, kI_400, kI_1000, kI_2000, kI_1000000, kI_m1, kI_m4, kI_m200, kI_m2000] at *; omega)
  · refine am_iload_n rfl dX4_isSafe_4 ?_
    refine am_aload_n rfl dX4_isSafe_5 ?_
    refine am_getr (j := 6) (by decide) rfl rfl rfl hTX4 (by decide) fl_X4_31 dX4_isSafe_6 ?_
    refine am_alen (v := 13) (by decide) rfl (by decide) dX4_isSafe_9 ?_
    refine am_icmp_ge (tgt := 40) (by decide) dX4_isSafe_10 (fun h10 => ?_) (fun h10 => ?_)
    · refine am_iconst (v := 0) (by decide) dX4_isSafe_40 ?_
      refine am_zret rfl (by first | exact am_nb _ | decide) dX4_isSafe_41 ?_
      refine am_isF ?_
      simp only [sp_safe, decide_eq_true_eq, decide_eq_false_iff_not, Bool.and_eq_true, Bool.or_eq_true, Bool.not_eq_true', Bool.and_eq_false_iff, bI_0] at *
      first | (simp_all; done) | (simp only [Int32.le_iff_toInt_le, Int32.lt_iff_toInt_lt, ← Int32.toInt_inj, Int32.toInt_zero, kI_1, kI_2, kI_3, kI_4, kI_5, kI_6, kI_7, kI_8, kI_9, kI_10, kI_12, kI_13, kI_31, kI_100, kI_200, kI_201, kI_400, kI_1000, kI_2000, kI_1000000, kI_m1, kI_m4, kI_m200, kI_m2000] at *; omega)
    · refine am_aload_n rfl dX4_isSafe_13 ?_
      refine am_geti (j := 3) (by decide) rfl rfl rfl hTX4 (by decide) fl_X4_21 dX4_isSafe_14 ?_
      refine am_aload_n rfl dX4_isSafe_17 ?_
      refine am_geti (j := 4) (by decide) rfl rfl rfl hTX4 (by decide) fl_X4_24 dX4_isSafe_18 ?_
      refine am_iload_n rfl dX4_isSafe_21 ?_
      refine am_mabsI ml_X4_56 (by decide) (Nat.le_of_ble_eq_true rfl) dX4_isSafe_22 ?_
      refine am_imul dX4_isSafe_25 ?_
      refine am_iadd dX4_isSafe_26 ?_
      refine am_aload_n rfl dX4_isSafe_27 ?_
      refine am_getr (j := 6) (by decide) rfl rfl rfl hTX4 (by decide) fl_X4_31 dX4_isSafe_28 ?_
      refine am_iload_n rfl dX4_isSafe_31 ?_
      refine am_iald (by decide) rfl (am_vp13 (by assumption) (by assumption)) dX4_isSafe_32 ?_
      refine am_icmp_gt (tgt := 40) (by decide) dX4_isSafe_33 (fun h33 => ?_) (fun h33 => ?_)
      · refine am_iconst (v := 0) (by decide) dX4_isSafe_40 ?_
        refine am_zret rfl (by first | exact am_nb _ | decide) dX4_isSafe_41 ?_
        refine am_isF ?_
        simp only [sp_safe, decide_eq_true_eq, decide_eq_false_iff_not, Bool.and_eq_true, Bool.or_eq_true, Bool.not_eq_true', Bool.and_eq_false_iff, bI_0] at *
        first | (simp_all; done) | (simp only [Int32.le_iff_toInt_le, Int32.lt_iff_toInt_lt, ← Int32.toInt_inj, Int32.toInt_zero, kI_1, kI_2, kI_3, kI_4, kI_5, kI_6, kI_7, kI_8, kI_9, kI_10, kI_12, kI_13, kI_31, kI_100, kI_200, kI_201, kI_400, kI_1000, kI_2000, kI_1000000, kI_m1, kI_m4, kI_m200, kI_m2000] at *; omega)
      · refine am_iconst (v := 1) (by decide) dX4_isSafe_36 ?_
        refine am_goto (tgt := 41) (by decide) dX4_isSafe_37 ?_
        refine am_zret rfl (by first | exact am_nb _ | decide) dX4_isSafe_41 ?_
        refine am_isT ?_
        simp only [sp_safe, decide_eq_true_eq, decide_eq_false_iff_not, Bool.and_eq_true, Bool.or_eq_true, Bool.not_eq_true', Bool.and_eq_false_iff, bI_0] at *
        first | (simp_all; done) | (simp only [Int32.le_iff_toInt_le, Int32.lt_iff_toInt_lt, ← Int32.toInt_inj, Int32.toInt_zero, kI_1, kI_2, kI_3, kI_4, kI_5, kI_6, kI_7, kI_8, kI_9, kI_10, kI_12, kI_13, kI_31, kI_100, kI_200, kI_201, kI_400, kI_1000, kI_2000, kI_1000000, kI_m1, kI_m4, kI_m200, kI_m2000] at *; omega)
set_option maxRecDepth 100000 in
set_option maxHeartbeats 4000000 in
theorem c_X4_mayEnd (ad : Nat → Nat) (M : am_M) (w b : Int32) (s : Bool) : am_C ydX4_mayEnd ad am_II [.ref (ad 1), .int w, .int b, .int (bI s)] M (am_is (bI (sp_mayEnd M w b s)) M) := by
  refine am_ofW (by decide +kernel) (by simp [Value.category]) (Nat.le_of_ble_eq_true rfl) rfl ?_
  refine am_aload_n rfl dX4_mayEnd_0 ?_
  refine am_iload_n rfl dX4_mayEnd_1 ?_
  refine am_iload_n rfl dX4_mayEnd_2 ?_
  refine am_callVi (c_X4_isState ad M _ _) okX4_isState ml_X4_52 (by decide) rfl rfl rfl ⟨by decide, by decide⟩ (Nat.le_of_ble_eq_true rfl) rfl dX4_mayEnd_3 ?_
  refine am_ifb_eq (tgt := 38) (by decide) dX4_mayEnd_6 (fun h6 => ?_) (fun h6 => ?_)
  · refine am_iconst (v := 0) (by decide) dX4_mayEnd_38 ?_
    refine am_zret rfl (by first | exact am_nb _ | decide) dX4_mayEnd_39 ?_
    refine am_isF ?_
    simp only [sp_mayEnd, decide_eq_true_eq, decide_eq_false_iff_not, Bool.and_eq_true, Bool.or_eq_true, Bool.not_eq_true', Bool.and_eq_false_iff, bI_0] at *
    simp_all
  · refine am_iload_n rfl dX4_mayEnd_9 ?_
    refine am_if_ne (tgt := 21) (by decide) dX4_mayEnd_10 (fun h10 => ?_) (fun h10 => ?_)
    · refine am_iload_n rfl dX4_mayEnd_21 ?_
      refine am_if_eq (tgt := 34) (by decide) dX4_mayEnd_22 (fun h22 => ?_) (fun h22 => ?_)
      · refine am_iconst (v := 1) (by decide) dX4_mayEnd_34 ?_
        refine am_goto (tgt := 39) (by decide) dX4_mayEnd_35 ?_
        refine am_zret rfl (by first | exact am_nb _ | decide) dX4_mayEnd_39 ?_
        refine am_isT ?_
        simp only [sp_mayEnd, decide_eq_true_eq, decide_eq_false_iff_not, Bool.and_eq_true, Bool.or_eq_true, Bool.not_eq_true', Bool.and_eq_false_iff, bI_0] at *
        simp_all
      · refine am_aload_n rfl dX4_mayEnd_25 ?_
        refine am_iload_n rfl dX4_mayEnd_26 ?_
        refine am_iload_n rfl dX4_mayEnd_27 ?_
        refine am_callVi (c_X4_isSafe ad M _ _) okX4_isSafe ml_X4_66 (by decide) rfl rfl rfl ⟨by decide, by decide⟩ (Nat.le_of_ble_eq_true rfl) rfl dX4_mayEnd_28 ?_
        refine am_ifb_eq (tgt := 38) (by decide) dX4_mayEnd_31 (fun h31 => ?_) (fun h31 => ?_)
        · refine am_iconst (v := 0) (by decide) dX4_mayEnd_38 ?_
          refine am_zret rfl (by first | exact am_nb _ | decide) dX4_mayEnd_39 ?_
          refine am_isF ?_
          simp only [sp_mayEnd, decide_eq_true_eq, decide_eq_false_iff_not, Bool.and_eq_true, Bool.or_eq_true, Bool.not_eq_true', Bool.and_eq_false_iff, bI_0] at *
          simp_all
        · refine am_iconst (v := 1) (by decide) dX4_mayEnd_34 ?_
          refine am_goto (tgt := 39) (by decide) dX4_mayEnd_35 ?_
          refine am_zret rfl (by first | exact am_nb _ | decide) dX4_mayEnd_39 ?_
          refine am_isT ?_
          simp only [sp_mayEnd, decide_eq_true_eq, decide_eq_false_iff_not, Bool.and_eq_true, Bool.or_eq_true, Bool.not_eq_true', Bool.and_eq_false_iff, bI_0] at *
          simp_all
    · refine am_aload_n rfl dX4_mayEnd_13 ?_
      refine am_iload_n rfl dX4_mayEnd_14 ?_
      refine am_callVi (c_X4_isBad ad M _) okX4_isBad ml_X4_62 (by decide) rfl rfl rfl ⟨by decide, by decide⟩ (Nat.le_of_ble_eq_true rfl) rfl dX4_mayEnd_15 ?_
      refine am_ifb_ne (tgt := 38) (by decide) dX4_mayEnd_18 (fun h18 => ?_) (fun h18 => ?_)
      · refine am_iconst (v := 0) (by decide) dX4_mayEnd_38 ?_
        refine am_zret rfl (by first | exact am_nb _ | decide) dX4_mayEnd_39 ?_
        refine am_isF ?_
        simp only [sp_mayEnd, decide_eq_true_eq, decide_eq_false_iff_not, Bool.and_eq_true, Bool.or_eq_true, Bool.not_eq_true', Bool.and_eq_false_iff, bI_0] at *
        simp_all
      · refine am_iload_n rfl dX4_mayEnd_21 ?_
        refine am_if_eq (tgt := 34) (by decide) dX4_mayEnd_22 (fun h22 => ?_) (fun h22 => ?_)
        · refine am_iconst (v := 1) (by decide) dX4_mayEnd_34 ?_
          refine am_goto (tgt := 39) (by decide) dX4_mayEnd_35 ?_
          refine am_zret rfl (by first | exact am_nb _ | decide) dX4_mayEnd_39 ?_
          refine am_isT ?_
          simp only [sp_mayEnd, decide_eq_true_eq, decide_eq_false_iff_not, Bool.and_eq_true, Bool.or_eq_true, Bool.not_eq_true', Bool.and_eq_false_iff, bI_0] at *
          simp_all
        · refine am_aload_n rfl dX4_mayEnd_25 ?_
          refine am_iload_n rfl dX4_mayEnd_26 ?_
          refine am_iload_n rfl dX4_mayEnd_27 ?_
          refine am_callVi (c_X4_isSafe ad M _ _) okX4_isSafe ml_X4_66 (by decide) rfl rfl rfl ⟨by decide, by decide⟩ (Nat.le_of_ble_eq_true rfl) rfl dX4_mayEnd_28 ?_
          refine am_ifb_eq (tgt := 38) (by decide) dX4_mayEnd_31 (fun h31 => ?_) (fun h31 => ?_)
          · refine am_iconst (v := 0) (by decide) dX4_mayEnd_38 ?_
            refine am_zret rfl (by first | exact am_nb _ | decide) dX4_mayEnd_39 ?_
            refine am_isF ?_
            simp only [sp_mayEnd, decide_eq_true_eq, decide_eq_false_iff_not, Bool.and_eq_true, Bool.or_eq_true, Bool.not_eq_true', Bool.and_eq_false_iff, bI_0] at *
            simp_all
          · refine am_iconst (v := 1) (by decide) dX4_mayEnd_34 ?_
            refine am_goto (tgt := 39) (by decide) dX4_mayEnd_35 ?_
            refine am_zret rfl (by first | exact am_nb _ | decide) dX4_mayEnd_39 ?_
            refine am_isT ?_
            simp only [sp_mayEnd, decide_eq_true_eq, decide_eq_false_iff_not, Bool.and_eq_true, Bool.or_eq_true, Bool.not_eq_true', Bool.and_eq_false_iff, bI_0] at *
            simp_all
def sp_least (M : am_M) (a : Int32) : Int32 := imax (-(M 1 1)) (a - M 1 2)
def sp_most (M : am_M) (a : Int32) : Int32 := imin (M 1 1) (a + M 1 2)
set_option maxRecDepth 100000 in
set_option maxHeartbeats 4000000 in
theorem c_X4_leastBeside (ad : Nat → Nat) (M : am_M) (a : Int32) : am_C ydX4_leastBeside ad am_II [.ref (ad 1), .int a] M (am_is (sp_least M a) M) := by
  refine am_ofW (by decide +kernel) (by simp [Value.category]) (Nat.le_of_ble_eq_true rfl) rfl ?_
  refine am_aload_n rfl dX4_leastBeside_0 ?_
  refine am_geti (j := 1) (by decide) rfl rfl rfl hTX4 (by decide) fl_X4_15 dX4_leastBeside_1 ?_
  refine am_ineg dX4_leastBeside_4 ?_
  refine am_iload_n rfl dX4_leastBeside_5 ?_
  refine am_aload_n rfl dX4_leastBeside_6 ?_
  refine am_geti (j := 2) (by decide) rfl rfl rfl hTX4 (by decide) fl_X4_18 dX4_leastBeside_7 ?_
  refine am_isub dX4_leastBeside_10 ?_
  refine am_mmaxI ml_X4_69 (by decide) (Nat.le_of_ble_eq_true rfl) dX4_leastBeside_11 ?_
  refine am_iret rfl dX4_leastBeside_14 ?_
  exact ⟨rfl, rfl⟩
set_option maxRecDepth 100000 in
set_option maxHeartbeats 4000000 in
theorem c_X4_mostBeside (ad : Nat → Nat) (M : am_M) (a : Int32) : am_C ydX4_mostBeside ad am_II [.ref (ad 1), .int a] M (am_is (sp_most M a) M) := by
  refine am_ofW (by decide +kernel) (by simp [Value.category]) (Nat.le_of_ble_eq_true rfl) rfl ?_
  refine am_aload_n rfl dX4_mostBeside_0 ?_
  refine am_geti (j := 1) (by decide) rfl rfl rfl hTX4 (by decide) fl_X4_15 dX4_mostBeside_1 ?_
  refine am_iload_n rfl dX4_mostBeside_4 ?_
  refine am_aload_n rfl dX4_mostBeside_5 ?_
  refine am_geti (j := 2) (by decide) rfl rfl rfl hTX4 (by decide) fl_X4_18 dX4_mostBeside_6 ?_
  refine am_iadd dX4_mostBeside_9 ?_
  refine am_mminI ml_X4_73 (by decide) (Nat.le_of_ble_eq_true rfl) dX4_mostBeside_10 ?_
  refine am_iret rfl dX4_mostBeside_13 ?_
  exact ⟨rfl, rfl⟩

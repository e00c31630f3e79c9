abbrev md (M : am_M) : am_M := am_put M 21 0 0
def mo_mv (K : am_M) : Bool := decide (¬ K 21 15 = 0)
def mo_okLim (K : am_M) (v c j : Int32) : Bool := !mo_mv K && sp_in v 1 12 && sp_in c 1 4 && sp_in j 1 4
def mo_okBad (K : am_M) (v : Int32) (b : Bool) : Bool := !mo_mv K && sp_in v 1 12 && decide (¬ K 22 v.toNatClampNeg = bI b)
def mo_okPull (K : am_M) (v p : Int32) : Bool := !mo_mv K && sp_in v 0 12 && sp_in p 0 1000
def mo_okLoad (K : am_M) (x y : Int32) : Bool := !mo_mv K && sp_in x 0 1000 && sp_in y 0 100
def mo_okOnly (K : am_M) (b : Bool) : Bool := !mo_mv K && !decide (K 21 8 = bI b)
def mo_state (M : am_M) (v a : Int32) : Bool := sp_in v 0 (M 21 1) && sp_in a (-(M 21 2)) (M 21 2)
def mo_safe (M : am_M) (w b : Int32) : Bool := decide (M 21 4 + M 21 5 * iabs b ≤ M 23 w.toNatClampNeg)
def mo_rest (M : am_M) (v a : Int32) : Bool := decide (v = 0 ∧ iabs a ≤ M 21 3)
def mo_go (M : am_M) (v a b : Int32) (s : Bool) : Bool := decide (mo_state M (v + b) b = true ∧ iabs (b - a) ≤ M 21 3 ∧ ¬ (b = 0 ∧ 0 < v + b ∧ ¬ M 22 (v + b).toNatClampNeg = 0) ∧ (s = false ∨ mo_safe M (v + b) b = true))
def mo_stat (K : am_M) (w : Int32) : Int32 := if w = 0 then (if K 21 15 = 0 then 0 else 1) else if w = 1 then K 21 27 else if w = 2 then K 21 28 else if w = 3 then K 21 25 else if w = 4 then K 21 26 else if w = 5 then K 21 24 else if w = 6 then K 21 29 else if w = 7 then K 21 30 else if w = 8 then (if K 21 16 = 0 then 0 else 1) else -1
def mo_okAt (x s : Int32) : Bool := sp_in x 0 2 && sp_in s (-2000) 2000
def mo_on (K : am_M) (x : Int32) : Int32 := if sp_in x 0 2 = true ∧ ¬ K 35 x.toNatClampNeg = 0 then bI (decide (K 34 x.toNatClampNeg ≤ K 32 x.toNatClampNeg)) else -1
theorem am_vp3 {v : Int32} (h : sp_in v 0 2 = true) : vp_in v 3 := by
  simp only [sp_in, decide_eq_true_eq, Int32.le_iff_toInt_le, Int32.toInt_zero, kI_2] at h
  exact am_vpI h.1 (by omega)
theorem am_vpin1 {v : Int32} (h : sp_in v 1 12 = true) : vp_in v 13 := by
  simp only [sp_in, decide_eq_true_eq, Int32.le_iff_toInt_le, kI_1, kI_12] at h
  exact am_vpI (by omega) (by omega)
theorem mo_vst {M : am_M} {v a : Int32} (hT : (M 21 1).toInt ≤ 12) (h : mo_state M v a = true) : vp_in v 13 := by
  unfold mo_state at h
  rw [Bool.and_eq_true] at h
  have h1 := h.1
  simp only [sp_in, decide_eq_true_eq, Int32.le_iff_toInt_le, Int32.toInt_zero] at h1
  exact am_vpI h1.1 (by omega)
set_option maxRecDepth 100000 in
set_option maxHeartbeats 400000 in
theorem c_X7_isIn (ad : Nat → Nat) (M : am_M) (n l m : Int32) : am_C ydX7_isIn ad am_II [.int n, .int l, .int m] M (am_is (bI (sp_in n l m)) M) := by
  refine am_ofW (by decide +kernel) (by simp [Value.category]) (Nat.le_of_ble_eq_true rfl) rfl ?_
  refine am_iload_n rfl dX7_isIn_0 ?_
  refine am_iload_n rfl dX7_isIn_1 ?_
  refine am_icmp_lt (tgt := 14) (by decide) dX7_isIn_2 (fun h2 => ?_) (fun h2 => ?_)
  · refine am_iconst (v := 0) (by decide) dX7_isIn_14 ?_
    refine am_zret rfl (by first | exact am_nb _ | decide) dX7_isIn_15 ?_
    refine am_isF ?_
    simp only [sp_in, decide_eq_true_eq, decide_eq_false_iff_not, Bool.and_eq_true, Bool.or_eq_true, Bool.not_eq_true', Bool.and_eq_false_iff, bI_0] at *
    first | (simp_all; done) | (simp only [Int32.le_iff_toInt_le, Int32.lt_iff_toInt_lt, ← Int32.toInt_inj, Int32.toInt_zero, kI_1, kI_2, kI_3, kI_4, kI_5, kI_6, kI_7, kI_8, kI_9, kI_10, kI_12, kI_13, kI_31, kI_100, kI_200, kI_201, kI_400, kI_1000, kI_2000, kI_1000000, kI_m1, kI_m4, kI_m200, kI_m2000] at *; omega)
  · refine am_iload_n rfl dX7_isIn_5 ?_
    refine am_iload_n rfl dX7_isIn_6 ?_
    refine am_icmp_gt (tgt := 14) (by decide) dX7_isIn_7 (fun h7 => ?_) (fun h7 => ?_)
    · refine am_iconst (v := 0) (by decide) dX7_isIn_14 ?_
      refine am_zret rfl (by first | exact am_nb _ | decide) dX7_isIn_15 ?_
      refine am_isF ?_
      simp only [sp_in, decide_eq_true_eq, decide_eq_false_iff_not, Bool.and_eq_true, Bool.or_eq_true, Bool.not_eq_true', Bool.and_eq_false_iff, bI_0] at *
      first | (simp_all; done) | (simp only [Int32.le_iff_toInt_le, Int32.lt_iff_toInt_lt, ← Int32.toInt_inj, Int32.toInt_zero, kI_1, kI_2, kI_3, kI_4, kI_5, kI_6, kI_7, kI_8, kI_9, kI_10, kI_12, kI_13, kI_31, kI_100, kI_200, kI_201, kI_400, kI_1000, kI_2000, kI_1000000, kI_m1, kI_m4, kI_m200, kI_m2000] at *; omega)
    · refine am_iconst (v := 1) (by decide) dX7_isIn_10 ?_
      refine am_goto (tgt := 15) (by decide) dX7_isIn_11 ?_
      refine am_zret rfl (by first | exact am_nb _ | decide) dX7_isIn_15 ?_
      refine am_isT ?_
      simp only [sp_in, decide_eq_true_eq, decide_eq_false_iff_not, Bool.and_eq_true, Bool.or_eq_true, Bool.not_eq_true', Bool.and_eq_false_iff, bI_0] at *
      first | (simp_all; done) | (simp only [Int32.le_iff_toInt_le, Int32.lt_iff_toInt_lt, ← Int32.toInt_inj, Int32.toInt_zero, kI_1, kI_2, kI_3, kI_4, kI_5, kI_6, kI_7, kI_8, kI_9, kI_10, kI_12, kI_13, kI_31, kI_100, kI_200, kI_201, kI_400, kI_1000, kI_2000, kI_1000000, kI_m1, kI_m4, kI_m200, kI_m2000] at *; omega)
set_option maxRecDepth 100000 in
set_option maxHeartbeats 400000 in
theorem c_X7_thrown (ad : Nat → Nat) (M : am_M)  : am_C ydX7_thrown ad am_II [.ref (ad 21)] M (am_is (M 21 0) M) := by
  refine am_ofW (by decide +kernel) (by simp [Value.category]) (Nat.le_of_ble_eq_true rfl) rfl ?_
  refine am_aload_n rfl dX7_thrown_0 ?_
  refine am_geti (j := 0) (by decide) rfl rfl rfl hTX7 (by decide) fl_X7_73 dX7_thrown_1 ?_
  refine am_iret rfl dX7_thrown_4 ?_
  exact ⟨rfl, rfl⟩
set_option maxRecDepth 100000 in
set_option maxHeartbeats 400000 in
theorem c_X7_index (ad : Nat → Nat) (M : am_M) (v a l : Int32) : am_C ydX7_index ad am_II [.int v, .int a, .int l] M (am_is (sp_node v a l) M) := by
  refine am_ofW (by decide +kernel) (by simp [Value.category]) (Nat.le_of_ble_eq_true rfl) rfl ?_
  refine am_iload_n rfl dX7_index_0 ?_
  refine am_bipush (v := 9) (by decide) dX7_index_1 ?_
  refine am_imul dX7_index_3 ?_
  refine am_iload_n rfl dX7_index_4 ?_
  refine am_iadd dX7_index_5 ?_
  refine am_iconst (v := 4) (by decide) dX7_index_6 ?_
  refine am_iadd dX7_index_7 ?_
  refine am_sipush (v := 201) (by decide) dX7_index_8 ?_
  refine am_imul dX7_index_11 ?_
  refine am_iload_n rfl dX7_index_12 ?_
  refine am_iadd dX7_index_13 ?_
  refine am_iret rfl dX7_index_14 ?_
  exact ⟨rfl, rfl⟩
set_option maxRecDepth 100000 in
set_option maxHeartbeats 400000 in
theorem c_X7_of (ad : Nat → Nat) (M : am_M) (v a : Int32) : am_C ydX7_of ad am_II [.int v, .int a] M (am_is (sp_num v a) M) := by
  refine am_ofW (by decide +kernel) (by simp [Value.category]) (Nat.le_of_ble_eq_true rfl) rfl ?_
  refine am_iload_n rfl dX7_of_0 ?_
  refine am_bipush (v := 9) (by decide) dX7_of_1 ?_
  refine am_imul dX7_of_3 ?_
  refine am_iload_n rfl dX7_of_4 ?_
  refine am_iadd dX7_of_5 ?_
  refine am_iconst (v := 4) (by decide) dX7_of_6 ?_
  refine am_iadd dX7_of_7 ?_
  refine am_iret rfl dX7_of_8 ?_
  exact ⟨rfl, rfl⟩
set_option maxRecDepth 100000 in
set_option maxHeartbeats 400000 in
theorem c_X7_isState (ad : Nat → Nat) (M : am_M) (v a : Int32) : am_C ydX7_isState ad am_II [.ref (ad 21), .int v, .int a] M (am_is (bI (mo_state M v a)) M) := by
  refine am_ofW (by decide +kernel) (by simp [Value.category]) (Nat.le_of_ble_eq_true rfl) rfl ?_
  refine am_iload_n rfl dX7_isState_0 ?_
  refine am_iconst (v := 0) (by decide) dX7_isState_1 ?_
  refine am_aload_n rfl dX7_isState_2 ?_
  refine am_geti (j := 1) (by decide) rfl rfl rfl hTX7 (by decide) fl_X7_7 dX7_isState_3 ?_
  refine am_callSi (c_X7_isIn ad _ _ _ _) okX7_isIn ml_X7_80 rfl ⟨by decide, by decide⟩ (Nat.le_of_ble_eq_true rfl) rfl dX7_isState_6 ?_
  refine am_ifb_eq (tgt := 32) (by decide) dX7_isState_9 (fun h9 => ?_) (fun h9 => ?_)
  · refine am_iconst (v := 0) (by decide) dX7_isState_32 ?_
    refine am_zret rfl (by first | exact am_nb _ | decide) dX7_isState_33 ?_
    refine am_isF ?_
    simp only [mo_state, decide_eq_true_eq, decide_eq_false_iff_not, Bool.and_eq_true, Bool.or_eq_true, Bool.not_eq_true', Bool.and_eq_false_iff, bI_0] at *
    simp_all
  · refine am_iload_n rfl dX7_isState_12 ?_
    refine am_aload_n rfl dX7_isState_13 ?_
    refine am_geti (j := 2) (by decide) rfl rfl rfl hTX7 (by decide) fl_X7_13 dX7_isState_14 ?_
    refine am_ineg dX7_isState_17 ?_
    refine am_aload_n rfl dX7_isState_18 ?_
    refine am_geti (j := 2) (by decide) rfl rfl rfl hTX7 (by decide) fl_X7_13 dX7_isState_19 ?_
    refine am_callSi (c_X7_isIn ad _ _ _ _) okX7_isIn ml_X7_80 rfl ⟨by decide, by decide⟩ (Nat.le_of_ble_eq_true rfl) rfl dX7_isState_22 ?_
    refine am_ifb_eq (tgt := 32) (by decide) dX7_isState_25 (fun h25 => ?_) (fun h25 => ?_)
    · refine am_iconst (v := 0) (by decide) dX7_isState_32 ?_
      refine am_zret rfl (by first | exact am_nb _ | decide) dX7_isState_33 ?_
      refine am_isF ?_
      simp only [mo_state, decide_eq_true_eq, decide_eq_false_iff_not, Bool.and_eq_true, Bool.or_eq_true, Bool.not_eq_true', Bool.and_eq_false_iff, bI_0] at *
      simp_all
    · refine am_iconst (v := 1) (by decide) dX7_isState_28 ?_
      refine am_goto (tgt := 33) (by decide) dX7_isState_29 ?_
      refine am_zret rfl (by first | exact am_nb _ | decide) dX7_isState_33 ?_
      refine am_isT ?_
      simp only [mo_state, decide_eq_true_eq, decide_eq_false_iff_not, Bool.and_eq_true, Bool.or_eq_true, Bool.not_eq_true', Bool.and_eq_false_iff, bI_0] at *
      simp_all
set_option maxRecDepth 100000 in
set_option maxHeartbeats 400000 in
theorem c_X7_isSafe (ad : Nat → Nat) (M : am_M) (w b : Int32) (hw : vp_in w 13) : am_C ydX7_isSafe ad am_II [.ref (ad 21), .int w, .int b] M (am_is (bI (mo_safe M w b)) M) := by
  refine am_ofW (by decide +kernel) (by simp [Value.category]) (Nat.le_of_ble_eq_true rfl) rfl ?_
  refine am_aload_n rfl dX7_isSafe_0 ?_
  refine am_geti (j := 4) (by decide) rfl rfl rfl hTX7 (by decide) fl_X7_84 dX7_isSafe_1 ?_
  refine am_aload_n rfl dX7_isSafe_4 ?_
  refine am_geti (j := 5) (by decide) rfl rfl rfl hTX7 (by decide) fl_X7_87 dX7_isSafe_5 ?_
  refine am_iload_n rfl dX7_isSafe_8 ?_
  refine am_mabsI ml_X7_93 (by decide) (Nat.le_of_ble_eq_true rfl) dX7_isSafe_9 ?_
  refine am_imul dX7_isSafe_12 ?_
  refine am_iadd dX7_isSafe_13 ?_
  refine am_aload_n rfl dX7_isSafe_14 ?_
  refine am_getr (j := 7) (by decide) rfl rfl rfl hTX7 (by decide) fl_X7_23 dX7_isSafe_15 ?_
  refine am_iload_n rfl dX7_isSafe_18 ?_
  refine am_iald (by decide) rfl (hw) dX7_isSafe_19 ?_
  refine am_icmp_gt (tgt := 27) (by decide) dX7_isSafe_20 (fun h20 => ?_) (fun h20 => ?_)
  · refine am_iconst (v := 0) (by decide) dX7_isSafe_27 ?_
    refine am_zret rfl (by first | exact am_nb _ | decide) dX7_isSafe_28 ?_
    refine am_isF ?_
    simp only [mo_safe, decide_eq_true_eq, decide_eq_false_iff_not, Bool.and_eq_true, Bool.or_eq_true, Bool.not_eq_true', Bool.and_eq_false_iff, bI_0] at *
    first | (simp_all; done) | (simp only [Int32.le_iff_toInt_le, Int32.lt_iff_toInt_lt, ← Int32.toInt_inj, Int32.toInt_zero, kI_1, kI_2, kI_3, kI_4, kI_5, kI_6, kI_7, kI_8, kI_9, kI_10, kI_12, kI_13, kI_31, kI_100, kI_200, kI_201, kI_400, kI_1000, kI_2000, kI_1000000, kI_m1, kI_m4, kI_m200, kI_m2000] at *; omega)
  · refine am_iconst (v := 1) (by decide) dX7_isSafe_23 ?_
    refine am_goto (tgt := 28) (by decide) dX7_isSafe_24 ?_
    refine am_zret rfl (by first | exact am_nb _ | decide) dX7_isSafe_28 ?_
    refine am_isT ?_
    simp only [mo_safe, decide_eq_true_eq, decide_eq_false_iff_not, Bool.and_eq_true, Bool.or_eq_true, Bool.not_eq_true', Bool.and_eq_false_iff, bI_0] at *
    first | (simp_all; done) | (simp only [Int32.le_iff_toInt_le, Int32.lt_iff_toInt_lt, ← Int32.toInt_inj, Int32.toInt_zero, kI_1, kI_2, kI_3, kI_4, kI_5, kI_6, kI_7, kI_8, kI_9, kI_10, kI_12, kI_13, kI_31, kI_100, kI_200, kI_201, kI_400, kI_1000, kI_2000, kI_1000000, kI_m1, kI_m4, kI_m200, kI_m2000] at *; omega)
set_option maxRecDepth 100000 in
set_option maxHeartbeats 400000 in
theorem c_X7_isRest (ad : Nat → Nat) (M : am_M) (v a : Int32) : am_C ydX7_isRest ad am_II [.ref (ad 21), .int v, .int a] M (am_is (bI (mo_rest M v a)) M) := by
  refine am_ofW (by decide +kernel) (by simp [Value.category]) (Nat.le_of_ble_eq_true rfl) rfl ?_
  refine am_iload_n rfl dX7_isRest_0 ?_
  refine am_if_ne (tgt := 19) (by decide) dX7_isRest_1 (fun h1 => ?_) (fun h1 => ?_)
  · refine am_iconst (v := 0) (by decide) dX7_isRest_19 ?_
    refine am_zret rfl (by first | exact am_nb _ | decide) dX7_isRest_20 ?_
    refine am_isF ?_
    simp only [mo_rest, decide_eq_true_eq, decide_eq_false_iff_not, Bool.and_eq_true, Bool.or_eq_true, Bool.not_eq_true', Bool.and_eq_false_iff, bI_0] at *
    first | (simp_all; done) | (simp only [Int32.le_iff_toInt_le, Int32.lt_iff_toInt_lt, ← Int32.toInt_inj, Int32.toInt_zero, kI_1, kI_2, kI_3, kI_4, kI_5, kI_6, kI_7, kI_8, kI_9, kI_10, kI_12, kI_13, kI_31, kI_100, kI_200, kI_201, kI_400, kI_1000, kI_2000, kI_1000000, kI_m1, kI_m4, kI_m200, kI_m2000] at *; omega)
  · refine am_iload_n rfl dX7_isRest_4 ?_
    refine am_mabsI ml_X7_93 (by decide) (Nat.le_of_ble_eq_true rfl) dX7_isRest_5 ?_
    refine am_aload_n rfl dX7_isRest_8 ?_
    refine am_geti (j := 3) (by decide) rfl rfl rfl hTX7 (by decide) fl_X7_16 dX7_isRest_9 ?_
    refine am_icmp_gt (tgt := 19) (by decide) dX7_isRest_12 (fun h12 => ?_) (fun h12 => ?_)
    · refine am_iconst (v := 0) (by decide) dX7_isRest_19 ?_
      refine am_zret rfl (by first | exact am_nb _ | decide) dX7_isRest_20 ?_
      refine am_isF ?_
      simp only [mo_rest, decide_eq_true_eq, decide_eq_false_iff_not, Bool.and_eq_true, Bool.or_eq_true, Bool.not_eq_true', Bool.and_eq_false_iff, bI_0] at *
      first | (simp_all; done) | (simp only [Int32.le_iff_toInt_le, Int32.lt_iff_toInt_lt, ← Int32.toInt_inj, Int32.toInt_zero, kI_1, kI_2, kI_3, kI_4, kI_5, kI_6, kI_7, kI_8, kI_9, kI_10, kI_12, kI_13, kI_31, kI_100, kI_200, kI_201, kI_400, kI_1000, kI_2000, kI_1000000, kI_m1, kI_m4, kI_m200, kI_m2000] at *; omega)
    · refine am_iconst (v := 1) (by decide) dX7_isRest_15 ?_
      refine am_goto (tgt := 20) (by decide) dX7_isRest_16 ?_
      refine am_zret rfl (by first | exact am_nb _ | decide) dX7_isRest_20 ?_
      refine am_isT ?_
      simp only [mo_rest, decide_eq_true_eq, decide_eq_false_iff_not, Bool.and_eq_true, Bool.or_eq_true, Bool.not_eq_true', Bool.and_eq_false_iff, bI_0] at *
      first | (simp_all; done) | (simp only [Int32.le_iff_toInt_le, Int32.lt_iff_toInt_lt, ← Int32.toInt_inj, Int32.toInt_zero, kI_1, kI_2, kI_3, kI_4, kI_5, kI_6, kI_7, kI_8, kI_9, kI_10, kI_12, kI_13, kI_31, kI_100, kI_200, kI_201, kI_400, kI_1000, kI_2000, kI_1000000, kI_m1, kI_m4, kI_m200, kI_m2000] at *; omega)
set_option maxRecDepth 100000 in
set_option maxHeartbeats 400000 in
theorem c_X7_mayGo (ad : Nat → Nat) (M : am_M) (v a b : Int32) (s : Bool) (hT : (M 21 1).toInt ≤ 12) : am_C ydX7_mayGo ad am_II [.ref (ad 21), .int v, .int a, .int b, .int (bI s)] M (am_is (bI (mo_go M v a b s)) M) := by
  refine am_ofW (L := [some (.ref (ad 21)), some (.int v), some (.int a), some (.int b), some (.int (bI s)), none]) (by decide +kernel) (by simp [Value.category]) (Nat.le_of_ble_eq_true rfl) rfl ?_
  refine am_iload_n rfl dX7_mayGo_0 ?_
  refine am_iload_n rfl dX7_mayGo_1 ?_
  refine am_iadd dX7_mayGo_2 ?_
  refine am_istore (by decide) dX7_mayGo_3 ?_
  refine am_aload_n rfl dX7_mayGo_5 ?_
  refine am_iload rfl dX7_mayGo_6 ?_
  refine am_iload_n rfl dX7_mayGo_8 ?_
  refine am_callVi (c_X7_isState ad _ _ _) okX7_isState ml_X7_99 (by decide) rfl rfl rfl ⟨by decide, by decide⟩ (Nat.le_of_ble_eq_true rfl) rfl dX7_mayGo_9 ?_
  refine am_ifb_eq (tgt := 47) (by decide) dX7_mayGo_12 (fun h12 => ?_) (fun h12 => ?_)
  · refine am_iconst (v := 0) (by decide) dX7_mayGo_47 ?_
    refine am_zret rfl (by first | exact am_nb _ | decide) dX7_mayGo_48 ?_
    refine am_isF ?_
    simp only [mo_go, decide_eq_true_eq, decide_eq_false_iff_not, Bool.and_eq_true, Bool.or_eq_true, Bool.not_eq_true', Bool.and_eq_false_iff, bI_0] at *
    first | (simp_all; done) | (simp_all; intros; exfalso; simp only [Int32.le_iff_toInt_le, Int32.lt_iff_toInt_lt, Int32.toInt_zero] at *; omega)
  · refine am_iload_n rfl dX7_mayGo_15 ?_
    refine am_iload_n rfl dX7_mayGo_16 ?_
    refine am_isub dX7_mayGo_17 ?_
    refine am_mabsI ml_X7_93 (by decide) (Nat.le_of_ble_eq_true rfl) dX7_mayGo_18 ?_
    refine am_aload_n rfl dX7_mayGo_21 ?_
    refine am_geti (j := 3) (by decide) rfl rfl rfl hTX7 (by decide) fl_X7_16 dX7_mayGo_22 ?_
    refine am_icmp_gt (tgt := 47) (by decide) dX7_mayGo_25 (fun h25 => ?_) (fun h25 => ?_)
    · refine am_iconst (v := 0) (by decide) dX7_mayGo_47 ?_
      refine am_zret rfl (by first | exact am_nb _ | decide) dX7_mayGo_48 ?_
      refine am_isF ?_
      simp only [mo_go, decide_eq_true_eq, decide_eq_false_iff_not, Bool.and_eq_true, Bool.or_eq_true, Bool.not_eq_true', Bool.and_eq_false_iff, bI_0] at *
      first | (simp_all; done) | (simp_all; intros; exfalso; simp only [Int32.le_iff_toInt_le, Int32.lt_iff_toInt_lt, Int32.toInt_zero] at *; omega)
    · refine am_iload_n rfl dX7_mayGo_28 ?_
      refine am_if_ne (tgt := 49) (by decide) dX7_mayGo_29 (fun h29 => ?_) (fun h29 => ?_)
      · refine am_iload rfl dX7_mayGo_49 ?_
        refine am_if_eq (tgt := 64) (by decide) dX7_mayGo_51 (fun h51 => ?_) (fun h51 => ?_)
        · refine am_iconst (v := 1) (by decide) dX7_mayGo_64 ?_
          refine am_goto (tgt := 69) (by decide) dX7_mayGo_65 ?_
          refine am_zret rfl (by first | exact am_nb _ | decide) dX7_mayGo_69 ?_
          refine am_isT ?_
          simp only [mo_go, decide_eq_true_eq, decide_eq_false_iff_not, Bool.and_eq_true, Bool.or_eq_true, Bool.not_eq_true', Bool.and_eq_false_iff, bI_0] at *
          first | (simp_all; done) | (simp_all; intros; exfalso; simp only [Int32.le_iff_toInt_le, Int32.lt_iff_toInt_lt, Int32.toInt_zero] at *; omega)
        · refine am_aload_n rfl dX7_mayGo_54 ?_
          refine am_iload rfl dX7_mayGo_55 ?_
          refine am_iload_n rfl dX7_mayGo_57 ?_
          refine am_callVi (c_X7_isSafe ad _ _ _ (mo_vst hT h12)) okX7_isSafe ml_X7_102 (by decide) rfl rfl rfl ⟨by decide, by decide⟩ (Nat.le_of_ble_eq_true rfl) rfl dX7_mayGo_58 ?_
          refine am_ifb_eq (tgt := 68) (by decide) dX7_mayGo_61 (fun h61 => ?_) (fun h61 => ?_)
          · refine am_iconst (v := 0) (by decide) dX7_mayGo_68 ?_
            refine am_zret rfl (by first | exact am_nb _ | decide) dX7_mayGo_69 ?_
            refine am_isF ?_
            simp only [mo_go, decide_eq_true_eq, decide_eq_false_iff_not, Bool.and_eq_true, Bool.or_eq_true, Bool.not_eq_true', Bool.and_eq_false_iff, bI_0] at *
            first | (simp_all; done) | (simp_all; intros; exfalso; simp only [Int32.le_iff_toInt_le, Int32.lt_iff_toInt_lt, Int32.toInt_zero] at *; omega)
          · refine am_iconst (v := 1) (by decide) dX7_mayGo_64 ?_
            refine am_goto (tgt := 69) (by decide) dX7_mayGo_65 ?_
            refine am_zret rfl (by first | exact am_nb _ | decide) dX7_mayGo_69 ?_
            refine am_isT ?_
            simp only [mo_go, decide_eq_true_eq, decide_eq_false_iff_not, Bool.and_eq_true, Bool.or_eq_true, Bool.not_eq_true', Bool.and_eq_false_iff, bI_0] at *
            first | (simp_all; done) | (simp_all; intros; exfalso; simp only [Int32.le_iff_toInt_le, Int32.lt_iff_toInt_lt, Int32.toInt_zero] at *; omega)
      · refine am_iload rfl dX7_mayGo_32 ?_
        refine am_if_le (tgt := 49) (by decide) dX7_mayGo_34 (fun h34 => ?_) (fun h34 => ?_)
        · refine am_iload rfl dX7_mayGo_49 ?_
          refine am_if_eq (tgt := 64) (by decide) dX7_mayGo_51 (fun h51 => ?_) (fun h51 => ?_)
          · refine am_iconst (v := 1) (by decide) dX7_mayGo_64 ?_
            refine am_goto (tgt := 69) (by decide) dX7_mayGo_65 ?_
            refine am_zret rfl (by first | exact am_nb _ | decide) dX7_mayGo_69 ?_
            refine am_isT ?_
            simp only [mo_go, decide_eq_true_eq, decide_eq_false_iff_not, Bool.and_eq_true, Bool.or_eq_true, Bool.not_eq_true', Bool.and_eq_false_iff, bI_0] at *
            first | (simp_all; done) | (simp_all; intros; exfalso; simp only [Int32.le_iff_toInt_le, Int32.lt_iff_toInt_lt, Int32.toInt_zero] at *; omega)
          · refine am_aload_n rfl dX7_mayGo_54 ?_
            refine am_iload rfl dX7_mayGo_55 ?_
            refine am_iload_n rfl dX7_mayGo_57 ?_
            refine am_callVi (c_X7_isSafe ad _ _ _ (mo_vst hT h12)) okX7_isSafe ml_X7_102 (by decide) rfl rfl rfl ⟨by decide, by decide⟩ (Nat.le_of_ble_eq_true rfl) rfl dX7_mayGo_58 ?_
            refine am_ifb_eq (tgt := 68) (by decide) dX7_mayGo_61 (fun h61 => ?_) (fun h61 => ?_)
            · refine am_iconst (v := 0) (by decide) dX7_mayGo_68 ?_
              refine am_zret rfl (by first | exact am_nb _ | decide) dX7_mayGo_69 ?_
              refine am_isF ?_
              simp only [mo_go, decide_eq_true_eq, decide_eq_false_iff_not, Bool.and_eq_true, Bool.or_eq_true, Bool.not_eq_true', Bool.and_eq_false_iff, bI_0] at *
              first | (simp_all; done) | (simp_all; intros; exfalso; simp only [Int32.le_iff_toInt_le, Int32.lt_iff_toInt_lt, Int32.toInt_zero] at *; omega)
            · refine am_iconst (v := 1) (by decide) dX7_mayGo_64 ?_
              refine am_goto (tgt := 69) (by decide) dX7_mayGo_65 ?_
              refine am_zret rfl (by first | exact am_nb _ | decide) dX7_mayGo_69 ?_
              refine am_isT ?_
              simp only [mo_go, decide_eq_true_eq, decide_eq_false_iff_not, Bool.and_eq_true, Bool.or_eq_true, Bool.not_eq_true', Bool.and_eq_false_iff, bI_0] at *
              first | (simp_all; done) | (simp_all; intros; exfalso; simp only [Int32.le_iff_toInt_le, Int32.lt_iff_toInt_lt, Int32.toInt_zero] at *; omega)
        · refine am_aload_n rfl dX7_mayGo_37 ?_
          refine am_getr (j := 6) (by decide) rfl rfl rfl hTX7 (by decide) fl_X7_19 dX7_mayGo_38 ?_
          refine am_iload rfl dX7_mayGo_41 ?_
          refine am_zald (by decide) rfl (mo_vst hT h12) dX7_mayGo_43 ?_
          refine am_if_eq (tgt := 49) (by decide) dX7_mayGo_44 (fun h44 => ?_) (fun h44 => ?_)
          · refine am_iload rfl dX7_mayGo_49 ?_
            refine am_if_eq (tgt := 64) (by decide) dX7_mayGo_51 (fun h51 => ?_) (fun h51 => ?_)
            · refine am_iconst (v := 1) (by decide) dX7_mayGo_64 ?_
              refine am_goto (tgt := 69) (by decide) dX7_mayGo_65 ?_
              refine am_zret rfl (by first | exact am_nb _ | decide) dX7_mayGo_69 ?_
              refine am_isT ?_
              simp only [mo_go, decide_eq_true_eq, decide_eq_false_iff_not, Bool.and_eq_true, Bool.or_eq_true, Bool.not_eq_true', Bool.and_eq_false_iff, bI_0] at *
              first | (simp_all; done) | (simp_all; intros; exfalso; simp only [Int32.le_iff_toInt_le, Int32.lt_iff_toInt_lt, Int32.toInt_zero] at *; omega)
            · refine am_aload_n rfl dX7_mayGo_54 ?_
              refine am_iload rfl dX7_mayGo_55 ?_
              refine am_iload_n rfl dX7_mayGo_57 ?_
              refine am_callVi (c_X7_isSafe ad _ _ _ (mo_vst hT h12)) okX7_isSafe ml_X7_102 (by decide) rfl rfl rfl ⟨by decide, by decide⟩ (Nat.le_of_ble_eq_true rfl) rfl dX7_mayGo_58 ?_
              refine am_ifb_eq (tgt := 68) (by decide) dX7_mayGo_61 (fun h61 => ?_) (fun h61 => ?_)
              · refine am_iconst (v := 0) (by decide) dX7_mayGo_68 ?_
                refine am_zret rfl (by first | exact am_nb _ | decide) dX7_mayGo_69 ?_
                refine am_isF ?_
                simp only [mo_go, decide_eq_true_eq, decide_eq_false_iff_not, Bool.and_eq_true, Bool.or_eq_true, Bool.not_eq_true', Bool.and_eq_false_iff, bI_0] at *
                first | (simp_all; done) | (simp_all; intros; exfalso; simp only [Int32.le_iff_toInt_le, Int32.lt_iff_toInt_lt, Int32.toInt_zero] at *; omega)
              · refine am_iconst (v := 1) (by decide) dX7_mayGo_64 ?_
                refine am_goto (tgt := 69) (by decide) dX7_mayGo_65 ?_
                refine am_zret rfl (by first | exact am_nb _ | decide) dX7_mayGo_69 ?_
                refine am_isT ?_
                simp only [mo_go, decide_eq_true_eq, decide_eq_false_iff_not, Bool.and_eq_true, Bool.or_eq_true, Bool.not_eq_true', Bool.and_eq_false_iff, bI_0] at *
                first | (simp_all; done) | (simp_all; intros; exfalso; simp only [Int32.le_iff_toInt_le, Int32.lt_iff_toInt_lt, Int32.toInt_zero] at *; omega)
          · refine am_iconst (v := 0) (by decide) dX7_mayGo_47 ?_
            refine am_zret rfl (by first | exact am_nb _ | decide) dX7_mayGo_48 ?_
            refine am_isF ?_
            simp only [mo_go, decide_eq_true_eq, decide_eq_false_iff_not, Bool.and_eq_true, Bool.or_eq_true, Bool.not_eq_true', Bool.and_eq_false_iff, bI_0] at *
            first | (simp_all; done) | (simp_all; intros; exfalso; simp only [Int32.le_iff_toInt_le, Int32.lt_iff_toInt_lt, Int32.toInt_zero] at *; omega)
set_option maxRecDepth 100000 in
set_option maxHeartbeats 400000 in
theorem c_X7_limits (ad : Nat → Nat) (M : am_M) (v c j : Int32) : am_C ydX7_limits ad am_II [.ref (ad 21), .int v, .int c, .int j] M (am_is (bI (mo_okLim (md M) v c j)) (if mo_okLim (md M) v c j = true then am_put (am_put (am_put (md M) 21 1 v) 21 2 c) 21 3 j else md M)) := by
  refine am_ofW (by decide +kernel) (by simp [Value.category]) (Nat.le_of_ble_eq_true rfl) rfl ?_
  refine am_aload_n rfl dX7_limits_0 ?_
  refine am_iconst (v := 0) (by decide) dX7_limits_1 ?_
  refine am_puti (j := 0) (by decide) rfl rfl rfl hTX7 tyX7_ok nmX7 (by decide) fl_X7_73 rfl rfl rfl rfl dX7_limits_2 ?_
  refine am_aload_n rfl dX7_limits_5 ?_
  refine am_geti (j := 15) (by decide) rfl rfl rfl hTX7 (by decide) fl_X7_76 dX7_limits_6 ?_
  refine am_if_ne (tgt := 40) (by decide) dX7_limits_9 (fun h9 => ?_) (fun h9 => ?_)
  · refine am_iconst (v := 0) (by decide) dX7_limits_40 ?_
    refine am_zret rfl (by first | exact am_nb _ | decide) dX7_limits_41 ?_
    refine am_isFc ?_ rfl
    simp_all [mo_okLim, mo_mv]
  · refine am_iload_n rfl dX7_limits_12 ?_
    refine am_iconst (v := 1) (by decide) dX7_limits_13 ?_
    refine am_bipush (v := 12) (by decide) dX7_limits_14 ?_
    refine am_callSi (c_X7_isIn ad _ _ _ _) okX7_isIn ml_X7_80 rfl ⟨by decide, by decide⟩ (Nat.le_of_ble_eq_true rfl) rfl dX7_limits_16 ?_
    refine am_ifb_eq (tgt := 40) (by decide) dX7_limits_19 (fun h19 => ?_) (fun h19 => ?_)
    · refine am_iconst (v := 0) (by decide) dX7_limits_40 ?_
      refine am_zret rfl (by first | exact am_nb _ | decide) dX7_limits_41 ?_
      refine am_isFc ?_ rfl
      simp_all [mo_okLim, mo_mv]
    · refine am_iload_n rfl dX7_limits_22 ?_
      refine am_iconst (v := 1) (by decide) dX7_limits_23 ?_
      refine am_iconst (v := 4) (by decide) dX7_limits_24 ?_
      refine am_callSi (c_X7_isIn ad _ _ _ _) okX7_isIn ml_X7_80 rfl ⟨by decide, by decide⟩ (Nat.le_of_ble_eq_true rfl) rfl dX7_limits_25 ?_
      refine am_ifb_eq (tgt := 40) (by decide) dX7_limits_28 (fun h28 => ?_) (fun h28 => ?_)
      · refine am_iconst (v := 0) (by decide) dX7_limits_40 ?_
        refine am_zret rfl (by first | exact am_nb _ | decide) dX7_limits_41 ?_
        refine am_isFc ?_ rfl
        simp_all [mo_okLim, mo_mv]
      · refine am_iload_n rfl dX7_limits_31 ?_
        refine am_iconst (v := 1) (by decide) dX7_limits_32 ?_
        refine am_iconst (v := 4) (by decide) dX7_limits_33 ?_
        refine am_callSi (c_X7_isIn ad _ _ _ _) okX7_isIn ml_X7_80 rfl ⟨by decide, by decide⟩ (Nat.le_of_ble_eq_true rfl) rfl dX7_limits_34 ?_
        refine am_ifb_ne (tgt := 42) (by decide) dX7_limits_37 (fun h37 => ?_) (fun h37 => ?_)
        · refine am_aload_n rfl dX7_limits_42 ?_
          refine am_iload_n rfl dX7_limits_43 ?_
          refine am_puti (j := 1) (by decide) rfl rfl rfl hTX7 tyX7_ok nmX7 (by decide) fl_X7_7 rfl rfl rfl rfl dX7_limits_44 ?_
          refine am_aload_n rfl dX7_limits_47 ?_
          refine am_iload_n rfl dX7_limits_48 ?_
          refine am_puti (j := 2) (by decide) rfl rfl rfl hTX7 tyX7_ok nmX7 (by decide) fl_X7_13 rfl rfl rfl rfl dX7_limits_49 ?_
          refine am_aload_n rfl dX7_limits_52 ?_
          refine am_iload_n rfl dX7_limits_53 ?_
          refine am_puti (j := 3) (by decide) rfl rfl rfl hTX7 tyX7_ok nmX7 (by decide) fl_X7_16 rfl rfl rfl rfl dX7_limits_54 ?_
          refine am_iconst (v := 1) (by decide) dX7_limits_57 ?_
          refine am_zret rfl (by first | exact am_nb _ | decide) dX7_limits_58 ?_
          refine am_isTc ?_ rfl
          simp_all [mo_okLim, mo_mv]
        · refine am_iconst (v := 0) (by decide) dX7_limits_40 ?_
          refine am_zret rfl (by first | exact am_nb _ | decide) dX7_limits_41 ?_
          refine am_isFc ?_ rfl
          simp_all [mo_okLim, mo_mv]
set_option maxRecDepth 100000 in
set_option maxHeartbeats 400000 in
theorem c_X7_bad (ad : Nat → Nat) (M : am_M) (v : Int32) (b : Bool) : am_C ydX7_bad ad am_II [.ref (ad 21), .int v, .int (bI b)] M (am_is (bI (mo_okBad (md M) v b)) (if mo_okBad (md M) v b = true then am_put (md M) 22 v.toNatClampNeg (bI b) else md M)) := by
  refine am_ofW (by decide +kernel) (by simp [Value.category]) (Nat.le_of_ble_eq_true rfl) rfl ?_
  refine am_aload_n rfl dX7_bad_0 ?_
  refine am_iconst (v := 0) (by decide) dX7_bad_1 ?_
  refine am_puti (j := 0) (by decide) rfl rfl rfl hTX7 tyX7_ok nmX7 (by decide) fl_X7_73 rfl rfl rfl rfl dX7_bad_2 ?_
  refine am_aload_n rfl dX7_bad_5 ?_
  refine am_geti (j := 15) (by decide) rfl rfl rfl hTX7 (by decide) fl_X7_76 dX7_bad_6 ?_
  refine am_if_ne (tgt := 32) (by decide) dX7_bad_9 (fun h9 => ?_) (fun h9 => ?_)
  · refine am_iconst (v := 0) (by decide) dX7_bad_32 ?_
    refine am_zret rfl (by first | exact am_nb _ | decide) dX7_bad_33 ?_
    refine am_isFc ?_ rfl
    simp_all [mo_okBad, mo_mv]
  · refine am_iload_n rfl dX7_bad_12 ?_
    refine am_iconst (v := 1) (by decide) dX7_bad_13 ?_
    refine am_bipush (v := 12) (by decide) dX7_bad_14 ?_
    refine am_callSi (c_X7_isIn ad _ _ _ _) okX7_isIn ml_X7_80 rfl ⟨by decide, by decide⟩ (Nat.le_of_ble_eq_true rfl) rfl dX7_bad_16 ?_
    refine am_ifb_eq (tgt := 32) (by decide) dX7_bad_19 (fun h19 => ?_) (fun h19 => ?_)
    · refine am_iconst (v := 0) (by decide) dX7_bad_32 ?_
      refine am_zret rfl (by first | exact am_nb _ | decide) dX7_bad_33 ?_
      refine am_isFc ?_ rfl
      simp_all [mo_okBad, mo_mv]
    · refine am_aload_n rfl dX7_bad_22 ?_
      refine am_getr (j := 6) (by decide) rfl rfl rfl hTX7 (by decide) fl_X7_19 dX7_bad_23 ?_
      refine am_iload_n rfl dX7_bad_26 ?_
      refine am_zald (by decide) rfl (am_vpin1 h19) dX7_bad_27 ?_
      refine am_iload_n rfl dX7_bad_28 ?_
      refine am_icmp_ne (tgt := 34) (by decide) dX7_bad_29 (fun h29 => ?_) (fun h29 => ?_)
      · refine am_aload_n rfl dX7_bad_34 ?_
        refine am_getr (j := 6) (by decide) rfl rfl rfl hTX7 (by decide) fl_X7_19 dX7_bad_35 ?_
        refine am_iload_n rfl dX7_bad_38 ?_
        refine am_iload_n rfl dX7_bad_39 ?_
        refine am_zast (by decide) rfl (am_vpin1 h19) (am_vz _) dX7_bad_40 ?_
        refine am_iconst (v := 1) (by decide) dX7_bad_41 ?_
        refine am_zret rfl (by first | exact am_nb _ | decide) dX7_bad_42 ?_
        refine am_isTc ?_ rfl
        simp_all [mo_okBad, mo_mv]
      · refine am_iconst (v := 0) (by decide) dX7_bad_32 ?_
        refine am_zret rfl (by first | exact am_nb _ | decide) dX7_bad_33 ?_
        refine am_isFc ?_ rfl
        simp_all [mo_okBad, mo_mv]
set_option maxRecDepth 100000 in
set_option maxHeartbeats 400000 in
theorem c_X7_pull (ad : Nat → Nat) (M : am_M) (v p : Int32) : am_C ydX7_pull ad am_II [.ref (ad 21), .int v, .int p] M (am_is (bI (mo_okPull (md M) v p)) (if mo_okPull (md M) v p = true then am_put (md M) 23 v.toNatClampNeg p else md M)) := by
  refine am_ofW (by decide +kernel) (by simp [Value.category]) (Nat.le_of_ble_eq_true rfl) rfl ?_
  refine am_aload_n rfl dX7_pull_0 ?_
  refine am_iconst (v := 0) (by decide) dX7_pull_1 ?_
  refine am_puti (j := 0) (by decide) rfl rfl rfl hTX7 tyX7_ok nmX7 (by decide) fl_X7_73 rfl rfl rfl rfl dX7_pull_2 ?_
  refine am_aload_n rfl dX7_pull_5 ?_
  refine am_geti (j := 15) (by decide) rfl rfl rfl hTX7 (by decide) fl_X7_76 dX7_pull_6 ?_
  refine am_if_ne (tgt := 33) (by decide) dX7_pull_9 (fun h9 => ?_) (fun h9 => ?_)
  · refine am_iconst (v := 0) (by decide) dX7_pull_33 ?_
    refine am_zret rfl (by first | exact am_nb _ | decide) dX7_pull_34 ?_
    refine am_isFc ?_ rfl
    simp_all [mo_okPull, mo_mv]
  · refine am_iload_n rfl dX7_pull_12 ?_
    refine am_iconst (v := 0) (by decide) dX7_pull_13 ?_
    refine am_bipush (v := 12) (by decide) dX7_pull_14 ?_
    refine am_callSi (c_X7_isIn ad _ _ _ _) okX7_isIn ml_X7_80 rfl ⟨by decide, by decide⟩ (Nat.le_of_ble_eq_true rfl) rfl dX7_pull_16 ?_
    refine am_ifb_eq (tgt := 33) (by decide) dX7_pull_19 (fun h19 => ?_) (fun h19 => ?_)
    · refine am_iconst (v := 0) (by decide) dX7_pull_33 ?_
      refine am_zret rfl (by first | exact am_nb _ | decide) dX7_pull_34 ?_
      refine am_isFc ?_ rfl
      simp_all [mo_okPull, mo_mv]
    · refine am_iload_n rfl dX7_pull_22 ?_
      refine am_iconst (v := 0) (by decide) dX7_pull_23 ?_
      refine am_sipush (v := 1000) (by decide) dX7_pull_24 ?_
      refine am_callSi (c_X7_isIn ad _ _ _ _) okX7_isIn ml_X7_80 rfl ⟨by decide, by decide⟩ (Nat.le_of_ble_eq_true rfl) rfl dX7_pull_27 ?_
      refine am_ifb_ne (tgt := 35) (by decide) dX7_pull_30 (fun h30 => ?_) (fun h30 => ?_)
      · refine am_aload_n rfl dX7_pull_35 ?_
        refine am_getr (j := 7) (by decide) rfl rfl rfl hTX7 (by decide) fl_X7_23 dX7_pull_36 ?_
        refine am_iload_n rfl dX7_pull_39 ?_
        refine am_iload_n rfl dX7_pull_40 ?_
        refine am_iast (by decide) rfl (am_vpin (by assumption)) dX7_pull_41 ?_
        refine am_iconst (v := 1) (by decide) dX7_pull_42 ?_
        refine am_zret rfl (by first | exact am_nb _ | decide) dX7_pull_43 ?_
        refine am_isTc ?_ rfl
        simp_all [mo_okPull, mo_mv]
      · refine am_iconst (v := 0) (by decide) dX7_pull_33 ?_
        refine am_zret rfl (by first | exact am_nb _ | decide) dX7_pull_34 ?_
        refine am_isFc ?_ rfl
        simp_all [mo_okPull, mo_mv]
set_option maxRecDepth 100000 in
set_option maxHeartbeats 400000 in
theorem c_X7_load (ad : Nat → Nat) (M : am_M) (x y : Int32) : am_C ydX7_load ad am_II [.ref (ad 21), .int x, .int y] M (am_is (bI (mo_okLoad (md M) x y)) (if mo_okLoad (md M) x y = true then am_put (am_put (md M) 21 4 x) 21 5 y else md M)) := by
  refine am_ofW (by decide +kernel) (by simp [Value.category]) (Nat.le_of_ble_eq_true rfl) rfl ?_
  refine am_aload_n rfl dX7_load_0 ?_
  refine am_iconst (v := 0) (by decide) dX7_load_1 ?_
  refine am_puti (j := 0) (by decide) rfl rfl rfl hTX7 tyX7_ok nmX7 (by decide) fl_X7_73 rfl rfl rfl rfl dX7_load_2 ?_
  refine am_aload_n rfl dX7_load_5 ?_
  refine am_geti (j := 15) (by decide) rfl rfl rfl hTX7 (by decide) fl_X7_76 dX7_load_6 ?_
  refine am_if_ne (tgt := 33) (by decide) dX7_load_9 (fun h9 => ?_) (fun h9 => ?_)
  · refine am_iconst (v := 0) (by decide) dX7_load_33 ?_
    refine am_zret rfl (by first | exact am_nb _ | decide) dX7_load_34 ?_
    refine am_isFc ?_ rfl
    simp_all [mo_okLoad, mo_mv]
  · refine am_iload_n rfl dX7_load_12 ?_
    refine am_iconst (v := 0) (by decide) dX7_load_13 ?_
    refine am_sipush (v := 1000) (by decide) dX7_load_14 ?_
    refine am_callSi (c_X7_isIn ad _ _ _ _) okX7_isIn ml_X7_80 rfl ⟨by decide, by decide⟩ (Nat.le_of_ble_eq_true rfl) rfl dX7_load_17 ?_
    refine am_ifb_eq (tgt := 33) (by decide) dX7_load_20 (fun h20 => ?_) (fun h20 => ?_)
    · refine am_iconst (v := 0) (by decide) dX7_load_33 ?_
      refine am_zret rfl (by first | exact am_nb _ | decide) dX7_load_34 ?_
      refine am_isFc ?_ rfl
      simp_all [mo_okLoad, mo_mv]
    · refine am_iload_n rfl dX7_load_23 ?_
      refine am_iconst (v := 0) (by decide) dX7_load_24 ?_
      refine am_bipush (v := 100) (by decide) dX7_load_25 ?_
      refine am_callSi (c_X7_isIn ad _ _ _ _) okX7_isIn ml_X7_80 rfl ⟨by decide, by decide⟩ (Nat.le_of_ble_eq_true rfl) rfl dX7_load_27 ?_
      refine am_ifb_ne (tgt := 35) (by decide) dX7_load_30 (fun h30 => ?_) (fun h30 => ?_)
      · refine am_aload_n rfl dX7_load_35 ?_
        refine am_iload_n rfl dX7_load_36 ?_
        refine am_puti (j := 4) (by decide) rfl rfl rfl hTX7 tyX7_ok nmX7 (by decide) fl_X7_84 rfl rfl rfl rfl dX7_load_37 ?_
        refine am_aload_n rfl dX7_load_40 ?_
        refine am_iload_n rfl dX7_load_41 ?_
        refine am_puti (j := 5) (by decide) rfl rfl rfl hTX7 tyX7_ok nmX7 (by decide) fl_X7_87 rfl rfl rfl rfl dX7_load_42 ?_
        refine am_iconst (v := 1) (by decide) dX7_load_45 ?_
        refine am_zret rfl (by first | exact am_nb _ | decide) dX7_load_46 ?_
        refine am_isTc ?_ rfl
        simp_all [mo_okLoad, mo_mv]
      · refine am_iconst (v := 0) (by decide) dX7_load_33 ?_
        refine am_zret rfl (by first | exact am_nb _ | decide) dX7_load_34 ?_
        refine am_isFc ?_ rfl
        simp_all [mo_okLoad, mo_mv]
set_option maxRecDepth 100000 in
set_option maxHeartbeats 400000 in
theorem c_X7_only (ad : Nat → Nat) (M : am_M) (b : Bool) : am_C ydX7_only ad am_II [.ref (ad 21), .int (bI b)] M (am_is (bI (mo_okOnly (md M) b)) (if mo_okOnly (md M) b = true then am_put (md M) 21 8 (bI b) else md M)) := by
  refine am_ofW (by decide +kernel) (by simp [Value.category]) (Nat.le_of_ble_eq_true rfl) rfl ?_
  refine am_aload_n rfl dX7_only_0 ?_
  refine am_iconst (v := 0) (by decide) dX7_only_1 ?_
  refine am_puti (j := 0) (by decide) rfl rfl rfl hTX7 tyX7_ok nmX7 (by decide) fl_X7_73 rfl rfl rfl rfl dX7_only_2 ?_
  refine am_aload_n rfl dX7_only_5 ?_
  refine am_geti (j := 15) (by decide) rfl rfl rfl hTX7 (by decide) fl_X7_76 dX7_only_6 ?_
  refine am_if_ne (tgt := 20) (by decide) dX7_only_9 (fun h9 => ?_) (fun h9 => ?_)
  · refine am_iconst (v := 0) (by decide) dX7_only_20 ?_
    refine am_zret rfl (by first | exact am_nb _ | decide) dX7_only_21 ?_
    refine am_isFc ?_ rfl
    simp_all [mo_okOnly, mo_mv]
  · refine am_aload_n rfl dX7_only_12 ?_
    refine am_geti (j := 8) (by decide) rfl rfl rfl hTX7 (by decide) fl_X7_90 dX7_only_13 ?_
    refine am_iload_n rfl dX7_only_16 ?_
    refine am_icmp_ne (tgt := 22) (by decide) dX7_only_17 (fun h17 => ?_) (fun h17 => ?_)
    · refine am_aload_n rfl dX7_only_22 ?_
      refine am_iload_n rfl dX7_only_23 ?_
      refine am_puti (j := 8) (by decide) rfl rfl rfl hTX7 tyX7_ok nmX7 (by decide) fl_X7_90 rfl rfl (by first | exact am_nb _ | decide) (by first | exact am_fb _ | decide) dX7_only_24 ?_
      refine am_iconst (v := 1) (by decide) dX7_only_27 ?_
      refine am_zret rfl (by first | exact am_nb _ | decide) dX7_only_28 ?_
      refine am_isTc ?_ rfl
      simp_all [mo_okOnly, mo_mv]
    · refine am_iconst (v := 0) (by decide) dX7_only_20 ?_
      refine am_zret rfl (by first | exact am_nb _ | decide) dX7_only_21 ?_
      refine am_isFc ?_ rfl
      simp_all [mo_okOnly, mo_mv]
set_option maxRecDepth 100000 in
set_option maxHeartbeats 400000 in
theorem c_X7_state (ad : Nat → Nat) (M : am_M) (w : Int32) : am_C ydX7_state ad am_II [.ref (ad 21), .int w] M (am_is (mo_stat (md M) w) (md M)) := by
  refine am_ofW (by decide +kernel) (by simp [Value.category]) (Nat.le_of_ble_eq_true rfl) rfl ?_
  refine am_aload_n rfl dX7_state_0 ?_
  refine am_iconst (v := 0) (by decide) dX7_state_1 ?_
  refine am_puti (j := 0) (by decide) rfl rfl rfl hTX7 tyX7_ok nmX7 (by decide) fl_X7_73 rfl rfl rfl rfl dX7_state_2 ?_
  refine am_iload_n rfl dX7_state_5 ?_
  by_cases h6o : (w).toInt < 0 ∨ 8 < (w).toInt
  · refine am_tabOut (tgt := 117) h6o (by decide) dX7_state_6 ?_
    refine am_iconst (v := (-1)) (by decide) dX7_state_117 ?_
    refine am_iret rfl dX7_state_118 ?_
    refine am_isE ?_
    unfold mo_stat
    first | (rw [h6c]; rfl) | (simp [h6c, h60]; done) | (simp [h6c, h108]; done) | (rw [if_neg (fun e => by rw [e] at h6o; revert h6o; decide), if_neg (fun e => by rw [e] at h6o; revert h6o; decide), if_neg (fun e => by rw [e] at h6o; revert h6o; decide), if_neg (fun e => by rw [e] at h6o; revert h6o; decide), if_neg (fun e => by rw [e] at h6o; revert h6o; decide), if_neg (fun e => by rw [e] at h6o; revert h6o; decide), if_neg (fun e => by rw [e] at h6o; revert h6o; decide), if_neg (fun e => by rw [e] at h6o; revert h6o; decide), if_neg (fun e => by rw [e] at h6o; revert h6o; decide)])
  · have h6a : 0 ≤ (w).toInt ∧ (w).toInt ≤ 8 := by omega
    have h6d : (w) = 0 ∨ (w) = 1 ∨ (w) = 2 ∨ (w) = 3 ∨ (w) = 4 ∨ (w) = 5 ∨ (w) = 6 ∨ (w) = 7 ∨ (w) = 8 := by
      simp only [← Int32.toInt_inj]
      have e9 : ((0 : Int32).toInt = 0) ∧ ((1 : Int32).toInt = 1) ∧ ((2 : Int32).toInt = 2) ∧ ((3 : Int32).toInt = 3) ∧ ((4 : Int32).toInt = 4) ∧ ((5 : Int32).toInt = 5) ∧ ((6 : Int32).toInt = 6) ∧ ((7 : Int32).toInt = 7) ∧ ((8 : Int32).toInt = 8) := by decide
      omega
    rcases h6d with h6c | h6c | h6c | h6c | h6c | h6c | h6c | h6c | h6c
    · refine am_tabIn (off := 50) (tgt := 56) (by rw [h6c]; decide) (by rw [h6c]; decide) (by rw [h6c]; rfl) (by decide) dX7_state_6 ?_
      refine am_aload_n rfl dX7_state_56 ?_
      refine am_geti (j := 15) (by decide) rfl rfl rfl hTX7 (by decide) fl_X7_76 dX7_state_57 ?_
      refine am_if_eq (tgt := 67) (by decide) dX7_state_60 (fun h60 => ?_) (fun h60 => ?_)
      · refine am_iconst (v := 0) (by decide) dX7_state_67 ?_
        refine am_iret rfl dX7_state_68 ?_
        refine am_isE ?_
        unfold mo_stat
        first | (rw [h6c]; rfl) | (simp [h6c, h60]; done) | (simp [h6c, h108]; done) | (rw [if_neg (fun e => by rw [e] at h6o; revert h6o; decide), if_neg (fun e => by rw [e] at h6o; revert h6o; decide), if_neg (fun e => by rw [e] at h6o; revert h6o; decide), if_neg (fun e => by rw [e] at h6o; revert h6o; decide), if_neg (fun e => by rw [e] at h6o; revert h6o; decide), if_neg (fun e => by rw [e] at h6o; revert h6o; decide), if_neg (fun e => by rw [e] at h6o; revert h6o; decide), if_neg (fun e => by rw [e] at h6o; revert h6o; decide), if_neg (fun e => by rw [e] at h6o; revert h6o; decide)])
      · refine am_iconst (v := 1) (by decide) dX7_state_63 ?_
        refine am_goto (tgt := 68) (by decide) dX7_state_64 ?_
        refine am_iret rfl dX7_state_68 ?_
        refine am_isE ?_
        unfold mo_stat
        first | (rw [h6c]; rfl) | (simp [h6c, h60]; done) | (simp [h6c, h108]; done) | (rw [if_neg (fun e => by rw [e] at h6o; revert h6o; decide), if_neg (fun e => by rw [e] at h6o; revert h6o; decide), if_neg (fun e => by rw [e] at h6o; revert h6o; decide), if_neg (fun e => by rw [e] at h6o; revert h6o; decide), if_neg (fun e => by rw [e] at h6o; revert h6o; decide), if_neg (fun e => by rw [e] at h6o; revert h6o; decide), if_neg (fun e => by rw [e] at h6o; revert h6o; decide), if_neg (fun e => by rw [e] at h6o; revert h6o; decide), if_neg (fun e => by rw [e] at h6o; revert h6o; decide)])
    · refine am_tabIn (off := 63) (tgt := 69) (by rw [h6c]; decide) (by rw [h6c]; decide) (by rw [h6c]; rfl) (by decide) dX7_state_6 ?_
      refine am_aload_n rfl dX7_state_69 ?_
      refine am_geti (j := 27) (by decide) rfl rfl rfl hTX7 (by decide) fl_X7_150 dX7_state_70 ?_
      refine am_iret rfl dX7_state_73 ?_
      refine am_isE ?_
      unfold mo_stat
      first | (rw [h6c]; rfl) | (simp [h6c, h60]; done) | (simp [h6c, h108]; done) | (rw [if_neg (fun e => by rw [e] at h6o; revert h6o; decide), if_neg (fun e => by rw [e] at h6o; revert h6o; decide), if_neg (fun e => by rw [e] at h6o; revert h6o; decide), if_neg (fun e => by rw [e] at h6o; revert h6o; decide), if_neg (fun e => by rw [e] at h6o; revert h6o; decide), if_neg (fun e => by rw [e] at h6o; revert h6o; decide), if_neg (fun e => by rw [e] at h6o; revert h6o; decide), if_neg (fun e => by rw [e] at h6o; revert h6o; decide), if_neg (fun e => by rw [e] at h6o; revert h6o; decide)])
    · refine am_tabIn (off := 68) (tgt := 74) (by rw [h6c]; decide) (by rw [h6c]; decide) (by rw [h6c]; rfl) (by decide) dX7_state_6 ?_
      refine am_aload_n rfl dX7_state_74 ?_
      refine am_geti (j := 28) (by decide) rfl rfl rfl hTX7 (by decide) fl_X7_153 dX7_state_75 ?_
      refine am_iret rfl dX7_state_78 ?_
      refine am_isE ?_
      unfold mo_stat
      first | (rw [h6c]; rfl) | (simp [h6c, h60]; done) | (simp [h6c, h108]; done) | (rw [if_neg (fun e => by rw [e] at h6o; revert h6o; decide), if_neg (fun e => by rw [e] at h6o; revert h6o; decide), if_neg (fun e => by rw [e] at h6o; revert h6o; decide), if_neg (fun e => by rw [e] at h6o; revert h6o; decide), if_neg (fun e => by rw [e] at h6o; revert h6o; decide), if_neg (fun e => by rw [e] at h6o; revert h6o; decide), if_neg (fun e => by rw [e] at h6o; revert h6o; decide), if_neg (fun e => by rw [e] at h6o; revert h6o; decide), if_neg (fun e => by rw [e] at h6o; revert h6o; decide)])
    · refine am_tabIn (off := 73) (tgt := 79) (by rw [h6c]; decide) (by rw [h6c]; decide) (by rw [h6c]; rfl) (by decide) dX7_state_6 ?_
      refine am_aload_n rfl dX7_state_79 ?_
      refine am_geti (j := 25) (by decide) rfl rfl rfl hTX7 (by decide) fl_X7_147 dX7_state_80 ?_
      refine am_iret rfl dX7_state_83 ?_
      refine am_isE ?_
      unfold mo_stat
      first | (rw [h6c]; rfl) | (simp [h6c, h60]; done) | (simp [h6c, h108]; done) | (rw [if_neg (fun e => by rw [e] at h6o; revert h6o; decide), if_neg (fun e => by rw [e] at h6o; revert h6o; decide), if_neg (fun e => by rw [e] at h6o; revert h6o; decide), if_neg (fun e => by rw [e] at h6o; revert h6o; decide), if_neg (fun e => by rw [e] at h6o; revert h6o; decide), if_neg (fun e => by rw [e] at h6o; revert h6o; decide), if_neg (fun e => by rw [e] at h6o; revert h6o; decide), if_neg (fun e => by rw [e] at h6o; revert h6o; decide), if_neg (fun e => by rw [e] at h6o; revert h6o; decide)])
    · refine am_tabIn (off := 78) (tgt := 84) (by rw [h6c]; decide) (by rw [h6c]; decide) (by rw [h6c]; rfl) (by decide) dX7_state_6 ?_
      refine am_aload_n rfl dX7_state_84 ?_
      refine am_geti (j := 26) (by decide) rfl rfl rfl hTX7 (by decide) fl_X7_144 dX7_state_85 ?_
      refine am_iret rfl dX7_state_88 ?_
      refine am_isE ?_
      unfold mo_stat
      first | (rw [h6c]; rfl) | (simp [h6c, h60]; done) | (simp [h6c, h108]; done) | (rw [if_neg (fun e => by rw [e] at h6o; revert h6o; decide), if_neg (fun e => by rw [e] at h6o; revert h6o; decide), if_neg (fun e => by rw [e] at h6o; revert h6o; decide), if_neg (fun e => by rw [e] at h6o; revert h6o; decide), if_neg (fun e => by rw [e] at h6o; revert h6o; decide), if_neg (fun e => by rw [e] at h6o; revert h6o; decide), if_neg (fun e => by rw [e] at h6o; revert h6o; decide), if_neg (fun e => by rw [e] at h6o; revert h6o; decide), if_neg (fun e => by rw [e] at h6o; revert h6o; decide)])
    · refine am_tabIn (off := 83) (tgt := 89) (by rw [h6c]; decide) (by rw [h6c]; decide) (by rw [h6c]; rfl) (by decide) dX7_state_6 ?_
      refine am_aload_n rfl dX7_state_89 ?_
      refine am_geti (j := 24) (by decide) rfl rfl rfl hTX7 (by decide) fl_X7_156 dX7_state_90 ?_
      refine am_iret rfl dX7_state_93 ?_
      refine am_isE ?_
      unfold mo_stat
      first | (rw [h6c]; rfl) | (simp [h6c, h60]; done) | (simp [h6c, h108]; done) | (rw [if_neg (fun e => by rw [e] at h6o; revert h6o; decide), if_neg (fun e => by rw [e] at h6o; revert h6o; decide), if_neg (fun e => by rw [e] at h6o; revert h6o; decide), if_neg (fun e => by rw [e] at h6o; revert h6o; decide), if_neg (fun e => by rw [e] at h6o; revert h6o; decide), if_neg (fun e => by rw [e] at h6o; revert h6o; decide), if_neg (fun e => by rw [e] at h6o; revert h6o; decide), if_neg (fun e => by rw [e] at h6o; revert h6o; decide), if_neg (fun e => by rw [e] at h6o; revert h6o; decide)])
    · refine am_tabIn (off := 88) (tgt := 94) (by rw [h6c]; decide) (by rw [h6c]; decide) (by rw [h6c]; rfl) (by decide) dX7_state_6 ?_
      refine am_aload_n rfl dX7_state_94 ?_
      refine am_geti (j := 29) (by decide) rfl rfl rfl hTX7 (by decide) fl_X7_159 dX7_state_95 ?_
      refine am_iret rfl dX7_state_98 ?_
      refine am_isE ?_
      unfold mo_stat
      first | (rw [h6c]; rfl) | (simp [h6c, h60]; done) | (simp [h6c, h108]; done) | (rw [if_neg (fun e => by rw [e] at h6o; revert h6o; decide), if_neg (fun e => by rw [e] at h6o; revert h6o; decide), if_neg (fun e => by rw [e] at h6o; revert h6o; decide), if_neg (fun e => by rw [e] at h6o; revert h6o; decide), if_neg (fun e => by rw [e] at h6o; revert h6o; decide), if_neg (fun e => by rw [e] at h6o; revert h6o; decide), if_neg (fun e => by rw [e] at h6o; revert h6o; decide), if_neg (fun e => by rw [e] at h6o; revert h6o; decide), if_neg (fun e => by rw [e] at h6o; revert h6o; decide)])
    · refine am_tabIn (off := 93) (tgt := 99) (by rw [h6c]; decide) (by rw [h6c]; decide) (by rw [h6c]; rfl) (by decide) dX7_state_6 ?_
      refine am_aload_n rfl dX7_state_99 ?_
      refine am_geti (j := 30) (by decide) rfl rfl rfl hTX7 (by decide) fl_X7_57 dX7_state_100 ?_
      refine am_iret rfl dX7_state_103 ?_
      refine am_isE ?_
      unfold mo_stat
      first | (rw [h6c]; rfl) | (simp [h6c, h60]; done) | (simp [h6c, h108]; done) | (rw [if_neg (fun e => by rw [e] at h6o; revert h6o; decide), if_neg (fun e => by rw [e] at h6o; revert h6o; decide), if_neg (fun e => by rw [e] at h6o; revert h6o; decide), if_neg (fun e => by rw [e] at h6o; revert h6o; decide), if_neg (fun e => by rw [e] at h6o; revert h6o; decide), if_neg (fun e => by rw [e] at h6o; revert h6o; decide), if_neg (fun e => by rw [e] at h6o; revert h6o; decide), if_neg (fun e => by rw [e] at h6o; revert h6o; decide), if_neg (fun e => by rw [e] at h6o; revert h6o; decide)])
    · refine am_tabIn (off := 98) (tgt := 104) (by rw [h6c]; decide) (by rw [h6c]; decide) (by rw [h6c]; rfl) (by decide) dX7_state_6 ?_
      refine am_aload_n rfl dX7_state_104 ?_
      refine am_geti (j := 16) (by decide) rfl rfl rfl hTX7 (by decide) fl_X7_162 dX7_state_105 ?_
      refine am_if_eq (tgt := 115) (by decide) dX7_state_108 (fun h108 => ?_) (fun h108 => ?_)
      · refine am_iconst (v := 0) (by decide) dX7_state_115 ?_
        refine am_iret rfl dX7_state_116 ?_
        refine am_isE ?_
        unfold mo_stat
        first | (rw [h6c]; rfl) | (simp [h6c, h60]; done) | (simp [h6c, h108]; done) | (rw [if_neg (fun e => by rw [e] at h6o; revert h6o; decide), if_neg (fun e => by rw [e] at h6o; revert h6o; decide), if_neg (fun e => by rw [e] at h6o; revert h6o; decide), if_neg (fun e => by rw [e] at h6o; revert h6o; decide), if_neg (fun e => by rw [e] at h6o; revert h6o; decide), if_neg (fun e => by rw [e] at h6o; revert h6o; decide), if_neg (fun e => by rw [e] at h6o; revert h6o; decide), if_neg (fun e => by rw [e] at h6o; revert h6o; decide), if_neg (fun e => by rw [e] at h6o; revert h6o; decide)])
      · refine am_iconst (v := 1) (by decide) dX7_state_111 ?_
        refine am_goto (tgt := 116) (by decide) dX7_state_112 ?_
        refine am_iret rfl dX7_state_116 ?_
        refine am_isE ?_
        unfold mo_stat
        first | (rw [h6c]; rfl) | (simp [h6c, h60]; done) | (simp [h6c, h108]; done) | (rw [if_neg (fun e => by rw [e] at h6o; revert h6o; decide), if_neg (fun e => by rw [e] at h6o; revert h6o; decide), if_neg (fun e => by rw [e] at h6o; revert h6o; decide), if_neg (fun e => by rw [e] at h6o; revert h6o; decide), if_neg (fun e => by rw [e] at h6o; revert h6o; decide), if_neg (fun e => by rw [e] at h6o; revert h6o; decide), if_neg (fun e => by rw [e] at h6o; revert h6o; decide), if_neg (fun e => by rw [e] at h6o; revert h6o; decide), if_neg (fun e => by rw [e] at h6o; revert h6o; decide)])
set_option maxRecDepth 100000 in
set_option maxHeartbeats 400000 in
theorem c_X7_at (ad : Nat → Nat) (M : am_M) (x s : Int32) : am_C ydX7_at ad am_II [.ref (ad 21), .int x, .int s] M (am_is (bI (mo_okAt x s)) (if mo_okAt x s = true then am_put (am_put (md M) 34 x.toNatClampNeg s) 35 x.toNatClampNeg 1 else md M)) := by
  refine am_ofW (by decide +kernel) (by simp [Value.category]) (Nat.le_of_ble_eq_true rfl) rfl ?_
  refine am_aload_n rfl dX7_at_0 ?_
  refine am_iconst (v := 0) (by decide) dX7_at_1 ?_
  refine am_puti (j := 0) (by decide) rfl rfl rfl hTX7 tyX7_ok nmX7 (by decide) fl_X7_73 rfl rfl rfl rfl dX7_at_2 ?_
  refine am_iload_n rfl dX7_at_5 ?_
  refine am_iconst (v := 0) (by decide) dX7_at_6 ?_
  refine am_iconst (v := 2) (by decide) dX7_at_7 ?_
  refine am_callSi (c_X7_isIn ad _ _ _ _) okX7_isIn ml_X7_80 rfl ⟨by decide, by decide⟩ (Nat.le_of_ble_eq_true rfl) rfl dX7_at_8 ?_
  refine am_ifb_eq (tgt := 27) (by decide) dX7_at_11 (fun h11 => ?_) (fun h11 => ?_)
  · refine am_iconst (v := 0) (by decide) dX7_at_27 ?_
    refine am_zret rfl (by first | exact am_nb _ | decide) dX7_at_28 ?_
    refine am_isFc ?_ rfl
    simp_all [mo_okAt]
  · refine am_iload_n rfl dX7_at_14 ?_
    refine am_sipush (v := (-2000)) (by decide) dX7_at_15 ?_
    refine am_sipush (v := 2000) (by decide) dX7_at_18 ?_
    refine am_callSi (c_X7_isIn ad _ _ _ _) okX7_isIn ml_X7_80 rfl ⟨by decide, by decide⟩ (Nat.le_of_ble_eq_true rfl) rfl dX7_at_21 ?_
    refine am_ifb_ne (tgt := 29) (by decide) dX7_at_24 (fun h24 => ?_) (fun h24 => ?_)
    · refine am_aload_n rfl dX7_at_29 ?_
      refine am_getr (j := 31) (by decide) rfl rfl rfl hTX7 (by decide) fl_X7_60 dX7_at_30 ?_
      refine am_iload_n rfl dX7_at_33 ?_
      refine am_iload_n rfl dX7_at_34 ?_
      refine am_iast (by decide) rfl (am_vp3 h11) dX7_at_35 ?_
      refine am_aload_n rfl dX7_at_36 ?_
      refine am_getr (j := 32) (by decide) rfl rfl rfl hTX7 (by decide) fl_X7_63 dX7_at_37 ?_
      refine am_iload_n rfl dX7_at_40 ?_
      refine am_iconst (v := 1) (by decide) dX7_at_41 ?_
      refine am_zast (by decide) rfl (am_vp3 h11) (by decide) dX7_at_42 ?_
      refine am_iconst (v := 1) (by decide) dX7_at_43 ?_
      refine am_zret rfl (by first | exact am_nb _ | decide) dX7_at_44 ?_
      refine am_isTc ?_ rfl
      simp_all [mo_okAt]
    · refine am_iconst (v := 0) (by decide) dX7_at_27 ?_
      refine am_zret rfl (by first | exact am_nb _ | decide) dX7_at_28 ?_
      refine am_isFc ?_ rfl
      simp_all [mo_okAt]
set_option maxRecDepth 100000 in
set_option maxHeartbeats 400000 in
theorem c_X7_on (ad : Nat → Nat) (M : am_M) (x : Int32) : am_C ydX7_on ad am_II [.ref (ad 21), .int x] M (am_is (mo_on (md M) x) (md M)) := by
  refine am_ofW (by decide +kernel) (by simp [Value.category]) (Nat.le_of_ble_eq_true rfl) rfl ?_
  refine am_aload_n rfl dX7_on_0 ?_
  refine am_iconst (v := 0) (by decide) dX7_on_1 ?_
  refine am_puti (j := 0) (by decide) rfl rfl rfl hTX7 tyX7_ok nmX7 (by decide) fl_X7_73 rfl rfl rfl rfl dX7_on_2 ?_
  refine am_iload_n rfl dX7_on_5 ?_
  refine am_iconst (v := 0) (by decide) dX7_on_6 ?_
  refine am_iconst (v := 2) (by decide) dX7_on_7 ?_
  refine am_callSi (c_X7_isIn ad _ _ _ _) okX7_isIn ml_X7_80 rfl ⟨by decide, by decide⟩ (Nat.le_of_ble_eq_true rfl) rfl dX7_on_8 ?_
  refine am_ifb_eq (tgt := 23) (by decide) dX7_on_11 (fun h11 => ?_) (fun h11 => ?_)
  · refine am_iconst (v := (-1)) (by decide) dX7_on_23 ?_
    refine am_iret rfl dX7_on_24 ?_
    refine am_isE ?_
    unfold mo_on
    first | (rw [if_pos ⟨h11, h20⟩, decide_eq_true h37]; rfl) | (rw [if_pos ⟨h11, h20⟩, decide_eq_false (Int32.not_le.mpr h37)]; rfl) | (rw [if_pos ⟨h11, h20⟩, decide_eq_true (Int32.not_lt.mp h37)]; rfl) | (rw [if_neg (fun q => by first | exact q.2 h20 | (rw [q.1] at h11; cases h11))])
  · refine am_aload_n rfl dX7_on_14 ?_
    refine am_getr (j := 32) (by decide) rfl rfl rfl hTX7 (by decide) fl_X7_63 dX7_on_15 ?_
    refine am_iload_n rfl dX7_on_18 ?_
    refine am_zald (by decide) rfl (am_vp3 h11) dX7_on_19 ?_
    refine am_if_ne (tgt := 25) (by decide) dX7_on_20 (fun h20 => ?_) (fun h20 => ?_)
    · refine am_aload_n rfl dX7_on_25 ?_
      refine am_getr (j := 20) (by decide) rfl rfl rfl hTX7 (by decide) fl_X7_51 dX7_on_26 ?_
      refine am_iload_n rfl dX7_on_29 ?_
      refine am_iald (by decide) rfl (am_vp3 h11) dX7_on_30 ?_
      refine am_aload_n rfl dX7_on_31 ?_
      refine am_getr (j := 31) (by decide) rfl rfl rfl hTX7 (by decide) fl_X7_60 dX7_on_32 ?_
      refine am_iload_n rfl dX7_on_35 ?_
      refine am_iald (by decide) rfl (am_vp3 h11) dX7_on_36 ?_
      refine am_icmp_lt (tgt := 44) (by decide) dX7_on_37 (fun h37 => ?_) (fun h37 => ?_)
      · refine am_iconst (v := 0) (by decide) dX7_on_44 ?_
        refine am_iret rfl dX7_on_45 ?_
        refine am_isE ?_
        unfold mo_on
        first | (rw [if_pos ⟨h11, h20⟩, decide_eq_true h37]; rfl) | (rw [if_pos ⟨h11, h20⟩, decide_eq_false (Int32.not_le.mpr h37)]; rfl) | (rw [if_pos ⟨h11, h20⟩, decide_eq_true (Int32.not_lt.mp h37)]; rfl) | (rw [if_neg (fun q => by first | exact q.2 h20 | (rw [q.1] at h11; cases h11))])
      · refine am_iconst (v := 1) (by decide) dX7_on_40 ?_
        refine am_goto (tgt := 45) (by decide) dX7_on_41 ?_
        refine am_iret rfl dX7_on_45 ?_
        refine am_isE ?_
        unfold mo_on
        first | (rw [if_pos ⟨h11, h20⟩, decide_eq_true h37]; rfl) | (rw [if_pos ⟨h11, h20⟩, decide_eq_false (Int32.not_le.mpr h37)]; rfl) | (rw [if_pos ⟨h11, h20⟩, decide_eq_true (Int32.not_lt.mp h37)]; rfl) | (rw [if_neg (fun q => by first | exact q.2 h20 | (rw [q.1] at h11; cases h11))])
    · refine am_iconst (v := (-1)) (by decide) dX7_on_23 ?_
      refine am_iret rfl dX7_on_24 ?_
      refine am_isE ?_
      unfold mo_on
      first | (rw [if_pos ⟨h11, h20⟩, decide_eq_true h37]; rfl) | (rw [if_pos ⟨h11, h20⟩, decide_eq_false (Int32.not_le.mpr h37)]; rfl) | (rw [if_pos ⟨h11, h20⟩, decide_eq_true (Int32.not_lt.mp h37)]; rfl) | (rw [if_neg (fun q => by first | exact q.2 h20 | (rw [q.1] at h11; cases h11))])
set_option maxRecDepth 100000 in
set_option maxHeartbeats 400000 in
theorem c_X7_place (ad : Nat → Nat) (M : am_M) (x : Int32) (b : Bool) : am_C ydX7_place ad am_II [.ref (ad 21), .int x, .int (bI b)] M (am_is (if sp_in x 0 2 = true then (if b = true then M 32 x.toNatClampNeg else M 31 x.toNatClampNeg) else 0) (am_put M 21 0 (if sp_in x 0 2 = true then 0 else 1))) := by
  refine am_ofW (by decide +kernel) (by simp [Value.category]) (Nat.le_of_ble_eq_true rfl) rfl ?_
  refine am_aload_n rfl dX7_place_0 ?_
  refine am_iload_n rfl dX7_place_1 ?_
  refine am_iconst (v := 0) (by decide) dX7_place_2 ?_
  refine am_iconst (v := 2) (by decide) dX7_place_3 ?_
  refine am_callSi (c_X7_isIn ad _ _ _ _) okX7_isIn ml_X7_80 rfl ⟨by decide, by decide⟩ (Nat.le_of_ble_eq_true rfl) rfl dX7_place_4 ?_
  refine am_ifb_eq (tgt := 14) (by decide) dX7_place_7 (fun h7 => ?_) (fun h7 => ?_)
  · refine am_iconst (v := 1) (by decide) dX7_place_14 ?_
    refine am_puti (j := 0) (by decide) rfl rfl rfl hTX7 tyX7_ok nmX7 (by decide) fl_X7_73 rfl rfl rfl rfl dX7_place_15 ?_
    refine am_aload_n rfl dX7_place_18 ?_
    refine am_geti (j := 0) (by decide) rfl rfl rfl hTX7 (by decide) fl_X7_73 dX7_place_19 ?_
    refine am_if_le (tgt := 29) (by decide) dX7_place_22 (fun h22 => ?_) (fun h22 => ?_)
    · refine am_iload_n rfl dX7_place_29 ?_
      refine am_if_eq (tgt := 42) (by decide) dX7_place_30 (fun h30 => ?_) (fun h30 => ?_)
      · refine am_aload_n rfl dX7_place_42 ?_
        refine am_getr (j := 19) (by decide) rfl rfl rfl hTX7 (by decide) fl_X7_48 dX7_place_43 ?_
        refine am_iload_n rfl dX7_place_46 ?_
        refine am_iald (by decide) rfl (by first | exact am_vp3 h7 | exact absurd h22 (by rw [am_rd, if_pos ⟨rfl, rfl⟩]; decide)) dX7_place_47 ?_
        refine am_iret rfl dX7_place_48 ?_
        first | (rw [if_pos h7, if_pos h7, if_pos ((bI_1 b).mp h30), am_put_ne _ _ _ _ (by decide)]; exact ⟨rfl, rfl⟩) | (rw [if_pos h7, if_pos h7, if_neg (by rw [(bI_0 b).mp h30]; decide), am_put_ne _ _ _ _ (by decide)]; exact ⟨rfl, rfl⟩) | (rw [if_neg (by rw [h7]; decide), if_neg (by rw [h7]; decide)]; exact ⟨rfl, rfl⟩) | exact absurd h22 (by rw [am_rd, if_pos ⟨rfl, rfl⟩]; decide)
      · refine am_aload_n rfl dX7_place_33 ?_
        refine am_getr (j := 20) (by decide) rfl rfl rfl hTX7 (by decide) fl_X7_51 dX7_place_34 ?_
        refine am_iload_n rfl dX7_place_37 ?_
        refine am_iald (by decide) rfl (by first | exact am_vp3 h7 | exact absurd h22 (by rw [am_rd, if_pos ⟨rfl, rfl⟩]; decide)) dX7_place_38 ?_
        refine am_goto (tgt := 48) (by decide) dX7_place_39 ?_
        refine am_iret rfl dX7_place_48 ?_
        first | (rw [if_pos h7, if_pos h7, if_pos ((bI_1 b).mp h30), am_put_ne _ _ _ _ (by decide)]; exact ⟨rfl, rfl⟩) | (rw [if_pos h7, if_pos h7, if_neg (by rw [(bI_0 b).mp h30]; decide), am_put_ne _ _ _ _ (by decide)]; exact ⟨rfl, rfl⟩) | (rw [if_neg (by rw [h7]; decide), if_neg (by rw [h7]; decide)]; exact ⟨rfl, rfl⟩) | exact absurd h22 (by rw [am_rd, if_pos ⟨rfl, rfl⟩]; decide)
    · refine am_iconst (v := 0) (by decide) dX7_place_25 ?_
      refine am_goto (tgt := 48) (by decide) dX7_place_26 ?_
      refine am_iret rfl dX7_place_48 ?_
      first | (rw [if_pos h7, if_pos h7, if_pos ((bI_1 b).mp h30), am_put_ne _ _ _ _ (by decide)]; exact ⟨rfl, rfl⟩) | (rw [if_pos h7, if_pos h7, if_neg (by rw [(bI_0 b).mp h30]; decide), am_put_ne _ _ _ _ (by decide)]; exact ⟨rfl, rfl⟩) | (rw [if_neg (by rw [h7]; decide), if_neg (by rw [h7]; decide)]; exact ⟨rfl, rfl⟩) | exact absurd h22 (by rw [am_rd, if_pos ⟨rfl, rfl⟩]; decide)
  · refine am_iconst (v := 0) (by decide) dX7_place_10 ?_
    refine am_goto (tgt := 15) (by decide) dX7_place_11 ?_
    refine am_puti (j := 0) (by decide) rfl rfl rfl hTX7 tyX7_ok nmX7 (by decide) fl_X7_73 rfl rfl rfl rfl dX7_place_15 ?_
    refine am_aload_n rfl dX7_place_18 ?_
    refine am_geti (j := 0) (by decide) rfl rfl rfl hTX7 (by decide) fl_X7_73 dX7_place_19 ?_
    refine am_if_le (tgt := 29) (by decide) dX7_place_22 (fun h22 => ?_) (fun h22 => ?_)
    · refine am_iload_n rfl dX7_place_29 ?_
      refine am_if_eq (tgt := 42) (by decide) dX7_place_30 (fun h30 => ?_) (fun h30 => ?_)
      · refine am_aload_n rfl dX7_place_42 ?_
        refine am_getr (j := 19) (by decide) rfl rfl rfl hTX7 (by decide) fl_X7_48 dX7_place_43 ?_
        refine am_iload_n rfl dX7_place_46 ?_
        refine am_iald (by decide) rfl (by first | exact am_vp3 h7 | exact absurd h22 (by rw [am_rd, if_pos ⟨rfl, rfl⟩]; decide)) dX7_place_47 ?_
        refine am_iret rfl dX7_place_48 ?_
        first | (rw [if_pos h7, if_pos h7, if_pos ((bI_1 b).mp h30), am_put_ne _ _ _ _ (by decide)]; exact ⟨rfl, rfl⟩) | (rw [if_pos h7, if_pos h7, if_neg (by rw [(bI_0 b).mp h30]; decide), am_put_ne _ _ _ _ (by decide)]; exact ⟨rfl, rfl⟩) | (rw [if_neg (by rw [h7]; decide), if_neg (by rw [h7]; decide)]; exact ⟨rfl, rfl⟩) | exact absurd h22 (by rw [am_rd, if_pos ⟨rfl, rfl⟩]; decide)
      · refine am_aload_n rfl dX7_place_33 ?_
        refine am_getr (j := 20) (by decide) rfl rfl rfl hTX7 (by decide) fl_X7_51 dX7_place_34 ?_
        refine am_iload_n rfl dX7_place_37 ?_
        refine am_iald (by decide) rfl (by first | exact am_vp3 h7 | exact absurd h22 (by rw [am_rd, if_pos ⟨rfl, rfl⟩]; decide)) dX7_place_38 ?_
        refine am_goto (tgt := 48) (by decide) dX7_place_39 ?_
        refine am_iret rfl dX7_place_48 ?_
        first | (rw [if_pos h7, if_pos h7, if_pos ((bI_1 b).mp h30), am_put_ne _ _ _ _ (by decide)]; exact ⟨rfl, rfl⟩) | (rw [if_pos h7, if_pos h7, if_neg (by rw [(bI_0 b).mp h30]; decide), am_put_ne _ _ _ _ (by decide)]; exact ⟨rfl, rfl⟩) | (rw [if_neg (by rw [h7]; decide), if_neg (by rw [h7]; decide)]; exact ⟨rfl, rfl⟩) | exact absurd h22 (by rw [am_rd, if_pos ⟨rfl, rfl⟩]; decide)
    · refine am_iconst (v := 0) (by decide) dX7_place_25 ?_
      refine am_goto (tgt := 48) (by decide) dX7_place_26 ?_
      refine am_iret rfl dX7_place_48 ?_
      first | (rw [if_pos h7, if_pos h7, if_pos ((bI_1 b).mp h30), am_put_ne _ _ _ _ (by decide)]; exact ⟨rfl, rfl⟩) | (rw [if_pos h7, if_pos h7, if_neg (by rw [(bI_0 b).mp h30]; decide), am_put_ne _ _ _ _ (by decide)]; exact ⟨rfl, rfl⟩) | (rw [if_neg (by rw [h7]; decide), if_neg (by rw [h7]; decide)]; exact ⟨rfl, rfl⟩) | exact absurd h22 (by rw [am_rd, if_pos ⟨rfl, rfl⟩]; decide)

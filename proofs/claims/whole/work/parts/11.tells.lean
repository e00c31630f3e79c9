theorem am_isTc {b : Bool} {N M K : am_M} (h : b = true) (hK : K = N) : am_is (bI b) (if b = true then N else M) (some (.int 1)) K := by subst h hK; exact ⟨rfl, rfl⟩
theorem am_isFc {b : Bool} {N M K : am_M} (h : b = false) (hK : K = M) : am_is (bI b) (if b = true then N else M) (some (.int 0)) K := by subst h hK; exact ⟨rfl, rfl⟩
/-- a reading behind writings -/
theorem am_rd (M : am_M) (k j : Nat) (v : Int32) (a b : Nat) : am_put M k j v a b = if a = k ∧ b = j then v else M a b := by
  unfold am_put upd
  by_cases h : a = k
  · by_cases h2 : b = j
    · simp [h, h2]
    · simp [h, h2]
  · simp [h]
def sp_tLimits (M : am_M) (v a j : Int32) : am_M := am_put (am_put (am_put (am_put M 1 0 v) 1 1 a) 1 2 j) 1 8 (M 1 8 + 1)
def sp_tBad (M : am_M) (v : Int32) (b : Bool) : am_M := if sp_in v 0 12 = true then am_put (am_put M 2 v.toNatClampNeg (bI b)) 1 8 (M 1 8 + 1) else M
def sp_tPull (M : am_M) (v p : Int32) : am_M := if sp_in v 0 12 = true then am_put (am_put M 3 v.toNatClampNeg p) 1 8 (M 1 8 + 1) else M
def sp_tLoad (M : am_M) (x y : Int32) : am_M := am_put (am_put (am_put M 1 3 x) 1 4 y) 1 8 (M 1 8 + 1)
def sp_tOnly (M : am_M) (b : Bool) : am_M := am_put (am_put M 1 7 (bI b)) 1 8 (M 1 8 + 1)
theorem am_vpin {v : Int32} (h : sp_in v 0 12 = true) : vp_in v 13 := by
  simp only [sp_in, decide_eq_true_eq, Int32.le_iff_toInt_le, Int32.toInt_zero, kI_12] at h
  exact am_vpI h.1 (by omega)
set_option maxRecDepth 100000 in
set_option maxHeartbeats 400000 in
theorem c_X4_tellLimits (ad : Nat → Nat) (M : am_M) (v a j : Int32) : am_C ydX4_tellLimits ad am_II [.ref (ad 1), .int v, .int a, .int j] M (am_un (sp_tLimits M v a j)) := by
  refine am_ofW (by decide +kernel) (by simp [Value.category]) (Nat.le_of_ble_eq_true rfl) rfl ?_
  refine am_aload_n rfl dX4_tellLimits_0 ?_
  refine am_iload_n rfl dX4_tellLimits_1 ?_
  refine am_puti (j := 0) (by decide) rfl rfl rfl hTX4 tyX4_ok nmX4 (by decide) fl_X4_9 rfl rfl rfl rfl dX4_tellLimits_2 ?_
  refine am_aload_n rfl dX4_tellLimits_5 ?_
  refine am_iload_n rfl dX4_tellLimits_6 ?_
  refine am_puti (j := 1) (by decide) rfl rfl rfl hTX4 tyX4_ok nmX4 (by decide) fl_X4_15 rfl rfl rfl rfl dX4_tellLimits_7 ?_
  refine am_aload_n rfl dX4_tellLimits_10 ?_
  refine am_iload_n rfl dX4_tellLimits_11 ?_
  refine am_puti (j := 2) (by decide) rfl rfl rfl hTX4 tyX4_ok nmX4 (by decide) fl_X4_18 rfl rfl rfl rfl dX4_tellLimits_12 ?_
  refine am_aload_n rfl dX4_tellLimits_15 ?_
  refine am_dup rfl dX4_tellLimits_16 ?_
  refine am_geti (j := 8) (by decide) rfl rfl rfl hTX4 (by decide) fl_X4_39 dX4_tellLimits_17 ?_
  refine am_iconst (v := 1) (by decide) dX4_tellLimits_20 ?_
  refine am_iadd dX4_tellLimits_21 ?_
  refine am_puti (j := 8) (by decide) rfl rfl rfl hTX4 tyX4_ok nmX4 (by decide) fl_X4_39 rfl rfl rfl rfl dX4_tellLimits_22 ?_
  refine am_vret rfl dX4_tellLimits_25 ?_
  exact ⟨rfl, rfl⟩
set_option maxRecDepth 100000 in
set_option maxHeartbeats 400000 in
theorem c_X4_tellBad (ad : Nat → Nat) (M : am_M) (v : Int32) (b : Bool) : am_C ydX4_tellBad ad am_II [.ref (ad 1), .int v, .int (bI b)] M (am_un (sp_tBad M v b)) := by
  refine am_ofW (by decide +kernel) (by simp [Value.category]) (Nat.le_of_ble_eq_true rfl) rfl ?_
  refine am_iload_n rfl dX4_tellBad_0 ?_
  refine am_iconst (v := 0) (by decide) dX4_tellBad_1 ?_
  refine am_bipush (v := 12) (by decide) dX4_tellBad_2 ?_
  refine am_callNi (c_X6_isWithin ad M _ _ _) okX6_isWithin ml_X4_48 rfl ⟨by decide, by decide⟩ (Nat.le_of_ble_eq_true rfl) rfl dX4_tellBad_4 ?_
  refine am_ifb_eq (tgt := 27) (by decide) dX4_tellBad_7 (fun h7 => ?_) (fun h7 => ?_)
  · refine am_vret rfl dX4_tellBad_27 ?_
    exact ⟨rfl, by simp_all [sp_tBad, am_rd]⟩
  · refine am_aload_n rfl dX4_tellBad_10 ?_
    refine am_getr (j := 5) (by decide) rfl rfl rfl hTX4 (by decide) fl_X4_27 dX4_tellBad_11 ?_
    refine am_iload_n rfl dX4_tellBad_14 ?_
    refine am_iload_n rfl dX4_tellBad_15 ?_
    refine am_zast (by decide) rfl (am_vpin (by assumption)) (am_vz _) dX4_tellBad_16 ?_
    refine am_aload_n rfl dX4_tellBad_17 ?_
    refine am_dup rfl dX4_tellBad_18 ?_
    refine am_geti (j := 8) (by decide) rfl rfl rfl hTX4 (by decide) fl_X4_39 dX4_tellBad_19 ?_
    refine am_iconst (v := 1) (by decide) dX4_tellBad_22 ?_
    refine am_iadd dX4_tellBad_23 ?_
    refine am_puti (j := 8) (by decide) rfl rfl rfl hTX4 tyX4_ok nmX4 (by decide) fl_X4_39 rfl rfl rfl rfl dX4_tellBad_24 ?_
    refine am_vret rfl dX4_tellBad_27 ?_
    exact ⟨rfl, by simp_all [sp_tBad, am_rd]⟩
set_option maxRecDepth 100000 in
set_option maxHeartbeats 400000 in
theorem c_X4_tellPull (ad : Nat → Nat) (M : am_M) (v p : Int32) : am_C ydX4_tellPull ad am_II [.ref (ad 1), .int v, .int p] M (am_un (sp_tPull M v p)) := by
  refine am_ofW (by decide +kernel) (by simp [Value.category]) (Nat.le_of_ble_eq_true rfl) rfl ?_
  refine am_iload_n rfl dX4_tellPull_0 ?_
  refine am_iconst (v := 0) (by decide) dX4_tellPull_1 ?_
  refine am_bipush (v := 12) (by decide) dX4_tellPull_2 ?_
  refine am_callNi (c_X6_isWithin ad M _ _ _) okX6_isWithin ml_X4_48 rfl ⟨by decide, by decide⟩ (Nat.le_of_ble_eq_true rfl) rfl dX4_tellPull_4 ?_
  refine am_ifb_eq (tgt := 27) (by decide) dX4_tellPull_7 (fun h7 => ?_) (fun h7 => ?_)
  · refine am_vret rfl dX4_tellPull_27 ?_
    exact ⟨rfl, by simp_all [sp_tPull, am_rd]⟩
  · refine am_aload_n rfl dX4_tellPull_10 ?_
    refine am_getr (j := 6) (by decide) rfl rfl rfl hTX4 (by decide) fl_X4_31 dX4_tellPull_11 ?_
    refine am_iload_n rfl dX4_tellPull_14 ?_
    refine am_iload_n rfl dX4_tellPull_15 ?_
    refine am_iast (by decide) rfl (am_vpin (by assumption)) dX4_tellPull_16 ?_
    refine am_aload_n rfl dX4_tellPull_17 ?_
    refine am_dup rfl dX4_tellPull_18 ?_
    refine am_geti (j := 8) (by decide) rfl rfl rfl hTX4 (by decide) fl_X4_39 dX4_tellPull_19 ?_
    refine am_iconst (v := 1) (by decide) dX4_tellPull_22 ?_
    refine am_iadd dX4_tellPull_23 ?_
    refine am_puti (j := 8) (by decide) rfl rfl rfl hTX4 tyX4_ok nmX4 (by decide) fl_X4_39 rfl rfl rfl rfl dX4_tellPull_24 ?_
    refine am_vret rfl dX4_tellPull_27 ?_
    exact ⟨rfl, by simp_all [sp_tPull, am_rd]⟩
set_option maxRecDepth 100000 in
set_option maxHeartbeats 400000 in
theorem c_X4_tellLoad (ad : Nat → Nat) (M : am_M) (x y : Int32) : am_C ydX4_tellLoad ad am_II [.ref (ad 1), .int x, .int y] M (am_un (sp_tLoad M x y)) := by
  refine am_ofW (by decide +kernel) (by simp [Value.category]) (Nat.le_of_ble_eq_true rfl) rfl ?_
  refine am_aload_n rfl dX4_tellLoad_0 ?_
  refine am_iload_n rfl dX4_tellLoad_1 ?_
  refine am_puti (j := 3) (by decide) rfl rfl rfl hTX4 tyX4_ok nmX4 (by decide) fl_X4_21 rfl rfl rfl rfl dX4_tellLoad_2 ?_
  refine am_aload_n rfl dX4_tellLoad_5 ?_
  refine am_iload_n rfl dX4_tellLoad_6 ?_
  refine am_puti (j := 4) (by decide) rfl rfl rfl hTX4 tyX4_ok nmX4 (by decide) fl_X4_24 rfl rfl rfl rfl dX4_tellLoad_7 ?_
  refine am_aload_n rfl dX4_tellLoad_10 ?_
  refine am_dup rfl dX4_tellLoad_11 ?_
  refine am_geti (j := 8) (by decide) rfl rfl rfl hTX4 (by decide) fl_X4_39 dX4_tellLoad_12 ?_
  refine am_iconst (v := 1) (by decide) dX4_tellLoad_15 ?_
  refine am_iadd dX4_tellLoad_16 ?_
  refine am_puti (j := 8) (by decide) rfl rfl rfl hTX4 tyX4_ok nmX4 (by decide) fl_X4_39 rfl rfl rfl rfl dX4_tellLoad_17 ?_
  refine am_vret rfl dX4_tellLoad_20 ?_
  exact ⟨rfl, rfl⟩
set_option maxRecDepth 100000 in
set_option maxHeartbeats 400000 in
theorem c_X4_tellOnlySafe (ad : Nat → Nat) (M : am_M) (b : Bool) : am_C ydX4_tellOnlySafe ad am_II [.ref (ad 1), .int (bI b)] M (am_un (sp_tOnly M b)) := by
  refine am_ofW (by decide +kernel) (by simp [Value.category]) (Nat.le_of_ble_eq_true rfl) rfl ?_
  refine am_aload_n rfl dX4_tellOnlySafe_0 ?_
  refine am_iload_n rfl dX4_tellOnlySafe_1 ?_
  refine am_puti (j := 7) (by decide) rfl rfl rfl hTX4 tyX4_ok nmX4 (by decide) fl_X4_35 rfl rfl (by first | exact am_nb _ | decide) (by first | exact am_fb _ | decide) dX4_tellOnlySafe_2 ?_
  refine am_aload_n rfl dX4_tellOnlySafe_5 ?_
  refine am_dup rfl dX4_tellOnlySafe_6 ?_
  refine am_geti (j := 8) (by decide) rfl rfl rfl hTX4 (by decide) fl_X4_39 dX4_tellOnlySafe_7 ?_
  refine am_iconst (v := 1) (by decide) dX4_tellOnlySafe_10 ?_
  refine am_iadd dX4_tellOnlySafe_11 ?_
  refine am_puti (j := 8) (by decide) rfl rfl rfl hTX4 tyX4_ok nmX4 (by decide) fl_X4_39 rfl rfl rfl rfl dX4_tellOnlySafe_12 ?_
  refine am_vret rfl dX4_tellOnlySafe_15 ?_
  exact ⟨rfl, rfl⟩
def sp_goes (M : am_M) : Bool := decide (0 < M 15 9)
def sp_mStart (M : am_M) (n t : Int32) : am_M := am_put (am_put (am_put (am_put (am_put (am_put (am_put (am_put (am_put (am_put M 15 0 n) 15 1 0) 15 2 0) 15 3 0) 15 4 0) 15 5 0) 15 6 (-1)) 15 7 0) 15 8 0) 15 9 t
def sp_mSlow (M : am_M) (t : Int32) (b : Bool) : am_M := am_put (am_put (am_put M 15 7 1) 15 8 (bI b)) 15 9 t
def sp_mMiss (M : am_M) (w : Int32) (s : Bool) : am_M := if s = false ∧ ¬ w ≤ 0 then am_put (am_put M 15 5 (M 15 5 + w)) 15 6 (if M 15 6 = -1 then M 15 4 else M 15 6) else M
def sp_mTick (M : am_M) (w b : Int32) (s : Bool) : am_M := am_put (am_put (am_put (am_put (am_put (sp_mMiss M w s) 15 2 w) 15 3 b) 15 1 (M 15 1 + w)) 15 4 (M 15 4 + 1)) 15 9 (M 15 9 - 1)
def sp_mEnd (M : am_M) : am_M := am_put M 15 9 0
set_option maxRecDepth 100000 in
set_option maxHeartbeats 400000 in
theorem c_X2_goesOn (ad : Nat → Nat) (M : am_M)  : am_C ydX2_goesOn ad am_II [.ref (ad 15)] M (am_is (bI (sp_goes M)) M) := by
  refine am_ofW (by decide +kernel) (by simp [Value.category]) (Nat.le_of_ble_eq_true rfl) rfl ?_
  refine am_aload_n rfl dX2_goesOn_0 ?_
  refine am_geti (j := 9) (by decide) rfl rfl rfl hTX2 (by decide) fl_X2_40 dX2_goesOn_1 ?_
  refine am_if_le (tgt := 11) (by decide) dX2_goesOn_4 (fun h4 => ?_) (fun h4 => ?_)
  · refine am_iconst (v := 0) (by decide) dX2_goesOn_11 ?_
    refine am_zret rfl (by first | exact am_nb _ | decide) dX2_goesOn_12 ?_
    refine am_isF ?_
    simp only [sp_goes, decide_eq_true_eq, decide_eq_false_iff_not, Bool.and_eq_true, Bool.or_eq_true, Bool.not_eq_true', Bool.and_eq_false_iff, bI_0] at *
    first | (simp_all; done) | (simp only [Int32.le_iff_toInt_le, Int32.lt_iff_toInt_lt, ← Int32.toInt_inj, Int32.toInt_zero, kI_1, kI_2, kI_3, kI_4, kI_5, kI_6, kI_7, kI_8, kI_9, kI_10, kI_12, kI_13, kI_31, kI_100, kI_200, kI_201, kI_400, kI_1000, kI_2000, kI_1000000, kI_m1, kI_m4, kI_m200, kI_m2000] at *; omega)
  · refine am_iconst (v := 1) (by decide) dX2_goesOn_7 ?_
    refine am_goto (tgt := 12) (by decide) dX2_goesOn_8 ?_
    refine am_zret rfl (by first | exact am_nb _ | decide) dX2_goesOn_12 ?_
    refine am_isT ?_
    simp only [sp_goes, decide_eq_true_eq, decide_eq_false_iff_not, Bool.and_eq_true, Bool.or_eq_true, Bool.not_eq_true', Bool.and_eq_false_iff, bI_0] at *
    first | (simp_all; done) | (simp only [Int32.le_iff_toInt_le, Int32.lt_iff_toInt_lt, ← Int32.toInt_inj, Int32.toInt_zero, kI_1, kI_2, kI_3, kI_4, kI_5, kI_6, kI_7, kI_8, kI_9, kI_10, kI_12, kI_13, kI_31, kI_100, kI_200, kI_201, kI_400, kI_1000, kI_2000, kI_1000000, kI_m1, kI_m4, kI_m200, kI_m2000] at *; omega)
set_option maxRecDepth 100000 in
set_option maxHeartbeats 400000 in
theorem c_X2_start (ad : Nat → Nat) (M : am_M) (n t : Int32) : am_C ydX2_start ad am_II [.ref (ad 15), .int n, .int t] M (am_un (sp_mStart M n t)) := by
  refine am_ofW (by decide +kernel) (by simp [Value.category]) (Nat.le_of_ble_eq_true rfl) rfl ?_
  refine am_aload_n rfl dX2_start_0 ?_
  refine am_iload_n rfl dX2_start_1 ?_
  refine am_puti (j := 0) (by decide) rfl rfl rfl hTX2 tyX2_ok nmX2 (by decide) fl_X2_9 rfl rfl rfl rfl dX2_start_2 ?_
  refine am_aload_n rfl dX2_start_5 ?_
  refine am_iconst (v := 0) (by decide) dX2_start_6 ?_
  refine am_puti (j := 1) (by decide) rfl rfl rfl hTX2 tyX2_ok nmX2 (by decide) fl_X2_15 rfl rfl rfl rfl dX2_start_7 ?_
  refine am_aload_n rfl dX2_start_10 ?_
  refine am_iconst (v := 0) (by decide) dX2_start_11 ?_
  refine am_puti (j := 2) (by decide) rfl rfl rfl hTX2 tyX2_ok nmX2 (by decide) fl_X2_18 rfl rfl rfl rfl dX2_start_12 ?_
  refine am_aload_n rfl dX2_start_15 ?_
  refine am_iconst (v := 0) (by decide) dX2_start_16 ?_
  refine am_puti (j := 3) (by decide) rfl rfl rfl hTX2 tyX2_ok nmX2 (by decide) fl_X2_21 rfl rfl rfl rfl dX2_start_17 ?_
  refine am_aload_n rfl dX2_start_20 ?_
  refine am_iconst (v := 0) (by decide) dX2_start_21 ?_
  refine am_puti (j := 4) (by decide) rfl rfl rfl hTX2 tyX2_ok nmX2 (by decide) fl_X2_24 rfl rfl rfl rfl dX2_start_22 ?_
  refine am_aload_n rfl dX2_start_25 ?_
  refine am_iconst (v := 0) (by decide) dX2_start_26 ?_
  refine am_puti (j := 5) (by decide) rfl rfl rfl hTX2 tyX2_ok nmX2 (by decide) fl_X2_27 rfl rfl rfl rfl dX2_start_27 ?_
  refine am_aload_n rfl dX2_start_30 ?_
  refine am_iconst (v := (-1)) (by decide) dX2_start_31 ?_
  refine am_puti (j := 6) (by decide) rfl rfl rfl hTX2 tyX2_ok nmX2 (by decide) fl_X2_30 rfl rfl rfl rfl dX2_start_32 ?_
  refine am_aload_n rfl dX2_start_35 ?_
  refine am_iconst (v := 0) (by decide) dX2_start_36 ?_
  refine am_puti (j := 7) (by decide) rfl rfl rfl hTX2 tyX2_ok nmX2 (by decide) fl_X2_33 rfl rfl (by first | exact am_nb _ | decide) (by first | exact am_fb _ | decide) dX2_start_37 ?_
  refine am_aload_n rfl dX2_start_40 ?_
  refine am_iconst (v := 0) (by decide) dX2_start_41 ?_
  refine am_puti (j := 8) (by decide) rfl rfl rfl hTX2 tyX2_ok nmX2 (by decide) fl_X2_37 rfl rfl (by first | exact am_nb _ | decide) (by first | exact am_fb _ | decide) dX2_start_42 ?_
  refine am_aload_n rfl dX2_start_45 ?_
  refine am_iload_n rfl dX2_start_46 ?_
  refine am_puti (j := 9) (by decide) rfl rfl rfl hTX2 tyX2_ok nmX2 (by decide) fl_X2_40 rfl rfl rfl rfl dX2_start_47 ?_
  refine am_vret rfl dX2_start_50 ?_
  exact ⟨rfl, rfl⟩
set_option maxRecDepth 100000 in
set_option maxHeartbeats 400000 in
theorem c_X2_goBySlowing (ad : Nat → Nat) (M : am_M) (t : Int32) (b : Bool) : am_C ydX2_goBySlowing ad am_II [.ref (ad 15), .int t, .int (bI b)] M (am_un (sp_mSlow M t b)) := by
  refine am_ofW (by decide +kernel) (by simp [Value.category]) (Nat.le_of_ble_eq_true rfl) rfl ?_
  refine am_aload_n rfl dX2_goBySlowing_0 ?_
  refine am_iconst (v := 1) (by decide) dX2_goBySlowing_1 ?_
  refine am_puti (j := 7) (by decide) rfl rfl rfl hTX2 tyX2_ok nmX2 (by decide) fl_X2_33 rfl rfl (by first | exact am_nb _ | decide) (by first | exact am_fb _ | decide) dX2_goBySlowing_2 ?_
  refine am_aload_n rfl dX2_goBySlowing_5 ?_
  refine am_iload_n rfl dX2_goBySlowing_6 ?_
  refine am_puti (j := 8) (by decide) rfl rfl rfl hTX2 tyX2_ok nmX2 (by decide) fl_X2_37 rfl rfl (by first | exact am_nb _ | decide) (by first | exact am_fb _ | decide) dX2_goBySlowing_7 ?_
  refine am_aload_n rfl dX2_goBySlowing_10 ?_
  refine am_iload_n rfl dX2_goBySlowing_11 ?_
  refine am_puti (j := 9) (by decide) rfl rfl rfl hTX2 tyX2_ok nmX2 (by decide) fl_X2_40 rfl rfl rfl rfl dX2_goBySlowing_12 ?_
  refine am_vret rfl dX2_goBySlowing_15 ?_
  exact ⟨rfl, rfl⟩
set_option maxRecDepth 100000 in
set_option maxHeartbeats 400000 in
theorem c_X2_takeTick (ad : Nat → Nat) (M : am_M) (w b : Int32) (s : Bool) : am_C ydX2_takeTick ad am_II [.ref (ad 15), .int w, .int b, .int (bI s)] M (am_un (sp_mTick M w b s)) := by
  refine am_ofW (by decide +kernel) (by simp [Value.category]) (Nat.le_of_ble_eq_true rfl) rfl ?_
  refine am_iload_n rfl dX2_takeTick_0 ?_
  refine am_if_ne (tgt := 41) (by decide) dX2_takeTick_1 (fun h1 => ?_) (fun h1 => ?_)
  · refine am_aload_n rfl dX2_takeTick_41 ?_
    refine am_iload_n rfl dX2_takeTick_42 ?_
    refine am_puti (j := 2) (by decide) rfl rfl rfl hTX2 tyX2_ok nmX2 (by decide) fl_X2_18 rfl rfl rfl rfl dX2_takeTick_43 ?_
    refine am_aload_n rfl dX2_takeTick_46 ?_
    refine am_iload_n rfl dX2_takeTick_47 ?_
    refine am_puti (j := 3) (by decide) rfl rfl rfl hTX2 tyX2_ok nmX2 (by decide) fl_X2_21 rfl rfl rfl rfl dX2_takeTick_48 ?_
    refine am_aload_n rfl dX2_takeTick_51 ?_
    refine am_dup rfl dX2_takeTick_52 ?_
    refine am_geti (j := 1) (by decide) rfl rfl rfl hTX2 (by decide) fl_X2_15 dX2_takeTick_53 ?_
    refine am_iload_n rfl dX2_takeTick_56 ?_
    refine am_iadd dX2_takeTick_57 ?_
    refine am_puti (j := 1) (by decide) rfl rfl rfl hTX2 tyX2_ok nmX2 (by decide) fl_X2_15 rfl rfl rfl rfl dX2_takeTick_58 ?_
    refine am_aload_n rfl dX2_takeTick_61 ?_
    refine am_dup rfl dX2_takeTick_62 ?_
    refine am_geti (j := 4) (by decide) rfl rfl rfl hTX2 (by decide) fl_X2_24 dX2_takeTick_63 ?_
    refine am_iconst (v := 1) (by decide) dX2_takeTick_66 ?_
    refine am_iadd dX2_takeTick_67 ?_
    refine am_puti (j := 4) (by decide) rfl rfl rfl hTX2 tyX2_ok nmX2 (by decide) fl_X2_24 rfl rfl rfl rfl dX2_takeTick_68 ?_
    refine am_aload_n rfl dX2_takeTick_71 ?_
    refine am_dup rfl dX2_takeTick_72 ?_
    refine am_geti (j := 9) (by decide) rfl rfl rfl hTX2 (by decide) fl_X2_40 dX2_takeTick_73 ?_
    refine am_iconst (v := 1) (by decide) dX2_takeTick_76 ?_
    refine am_isub dX2_takeTick_77 ?_
    refine am_puti (j := 9) (by decide) rfl rfl rfl hTX2 tyX2_ok nmX2 (by decide) fl_X2_40 rfl rfl rfl rfl dX2_takeTick_78 ?_
    refine am_vret rfl dX2_takeTick_81 ?_
    refine ⟨rfl, ?_⟩
    first | (simp_all [sp_mTick, sp_mMiss, am_rd, bI_0]; done) | (simp_all [sp_mTick, sp_mMiss, am_rd, bI_0]; skip)
  · refine am_iload_n rfl dX2_takeTick_4 ?_
    refine am_if_le (tgt := 41) (by decide) dX2_takeTick_5 (fun h5 => ?_) (fun h5 => ?_)
    · refine am_aload_n rfl dX2_takeTick_41 ?_
      refine am_iload_n rfl dX2_takeTick_42 ?_
      refine am_puti (j := 2) (by decide) rfl rfl rfl hTX2 tyX2_ok nmX2 (by decide) fl_X2_18 rfl rfl rfl rfl dX2_takeTick_43 ?_
      refine am_aload_n rfl dX2_takeTick_46 ?_
      refine am_iload_n rfl dX2_takeTick_47 ?_
      refine am_puti (j := 3) (by decide) rfl rfl rfl hTX2 tyX2_ok nmX2 (by decide) fl_X2_21 rfl rfl rfl rfl dX2_takeTick_48 ?_
      refine am_aload_n rfl dX2_takeTick_51 ?_
      refine am_dup rfl dX2_takeTick_52 ?_
      refine am_geti (j := 1) (by decide) rfl rfl rfl hTX2 (by decide) fl_X2_15 dX2_takeTick_53 ?_
      refine am_iload_n rfl dX2_takeTick_56 ?_
      refine am_iadd dX2_takeTick_57 ?_
      refine am_puti (j := 1) (by decide) rfl rfl rfl hTX2 tyX2_ok nmX2 (by decide) fl_X2_15 rfl rfl rfl rfl dX2_takeTick_58 ?_
      refine am_aload_n rfl dX2_takeTick_61 ?_
      refine am_dup rfl dX2_takeTick_62 ?_
      refine am_geti (j := 4) (by decide) rfl rfl rfl hTX2 (by decide) fl_X2_24 dX2_takeTick_63 ?_
      refine am_iconst (v := 1) (by decide) dX2_takeTick_66 ?_
      refine am_iadd dX2_takeTick_67 ?_
      refine am_puti (j := 4) (by decide) rfl rfl rfl hTX2 tyX2_ok nmX2 (by decide) fl_X2_24 rfl rfl rfl rfl dX2_takeTick_68 ?_
      refine am_aload_n rfl dX2_takeTick_71 ?_
      refine am_dup rfl dX2_takeTick_72 ?_
      refine am_geti (j := 9) (by decide) rfl rfl rfl hTX2 (by decide) fl_X2_40 dX2_takeTick_73 ?_
      refine am_iconst (v := 1) (by decide) dX2_takeTick_76 ?_
      refine am_isub dX2_takeTick_77 ?_
      refine am_puti (j := 9) (by decide) rfl rfl rfl hTX2 tyX2_ok nmX2 (by decide) fl_X2_40 rfl rfl rfl rfl dX2_takeTick_78 ?_
      refine am_vret rfl dX2_takeTick_81 ?_
      refine ⟨rfl, ?_⟩
      first | (simp_all [sp_mTick, sp_mMiss, am_rd, bI_0]; done) | (simp_all [sp_mTick, sp_mMiss, am_rd, bI_0]; skip)
    · refine am_aload_n rfl dX2_takeTick_8 ?_
      refine am_dup rfl dX2_takeTick_9 ?_
      refine am_geti (j := 5) (by decide) rfl rfl rfl hTX2 (by decide) fl_X2_27 dX2_takeTick_10 ?_
      refine am_iload_n rfl dX2_takeTick_13 ?_
      refine am_iadd dX2_takeTick_14 ?_
      refine am_puti (j := 5) (by decide) rfl rfl rfl hTX2 tyX2_ok nmX2 (by decide) fl_X2_27 rfl rfl rfl rfl dX2_takeTick_15 ?_
      refine am_aload_n rfl dX2_takeTick_18 ?_
      refine am_aload_n rfl dX2_takeTick_19 ?_
      refine am_geti (j := 6) (by decide) rfl rfl rfl hTX2 (by decide) fl_X2_30 dX2_takeTick_20 ?_
      refine am_iconst (v := (-1)) (by decide) dX2_takeTick_23 ?_
      refine am_icmp_ne (tgt := 34) (by decide) dX2_takeTick_24 (fun h24 => ?_) (fun h24 => ?_)
      · refine am_aload_n rfl dX2_takeTick_34 ?_
        refine am_geti (j := 6) (by decide) rfl rfl rfl hTX2 (by decide) fl_X2_30 dX2_takeTick_35 ?_
        refine am_puti (j := 6) (by decide) rfl rfl rfl hTX2 tyX2_ok nmX2 (by decide) fl_X2_30 rfl rfl rfl rfl dX2_takeTick_38 ?_
        refine am_aload_n rfl dX2_takeTick_41 ?_
        refine am_iload_n rfl dX2_takeTick_42 ?_
        refine am_puti (j := 2) (by decide) rfl rfl rfl hTX2 tyX2_ok nmX2 (by decide) fl_X2_18 rfl rfl rfl rfl dX2_takeTick_43 ?_
        refine am_aload_n rfl dX2_takeTick_46 ?_
        refine am_iload_n rfl dX2_takeTick_47 ?_
        refine am_puti (j := 3) (by decide) rfl rfl rfl hTX2 tyX2_ok nmX2 (by decide) fl_X2_21 rfl rfl rfl rfl dX2_takeTick_48 ?_
        refine am_aload_n rfl dX2_takeTick_51 ?_
        refine am_dup rfl dX2_takeTick_52 ?_
        refine am_geti (j := 1) (by decide) rfl rfl rfl hTX2 (by decide) fl_X2_15 dX2_takeTick_53 ?_
        refine am_iload_n rfl dX2_takeTick_56 ?_
        refine am_iadd dX2_takeTick_57 ?_
        refine am_puti (j := 1) (by decide) rfl rfl rfl hTX2 tyX2_ok nmX2 (by decide) fl_X2_15 rfl rfl rfl rfl dX2_takeTick_58 ?_
        refine am_aload_n rfl dX2_takeTick_61 ?_
        refine am_dup rfl dX2_takeTick_62 ?_
        refine am_geti (j := 4) (by decide) rfl rfl rfl hTX2 (by decide) fl_X2_24 dX2_takeTick_63 ?_
        refine am_iconst (v := 1) (by decide) dX2_takeTick_66 ?_
        refine am_iadd dX2_takeTick_67 ?_
        refine am_puti (j := 4) (by decide) rfl rfl rfl hTX2 tyX2_ok nmX2 (by decide) fl_X2_24 rfl rfl rfl rfl dX2_takeTick_68 ?_
        refine am_aload_n rfl dX2_takeTick_71 ?_
        refine am_dup rfl dX2_takeTick_72 ?_
        refine am_geti (j := 9) (by decide) rfl rfl rfl hTX2 (by decide) fl_X2_40 dX2_takeTick_73 ?_
        refine am_iconst (v := 1) (by decide) dX2_takeTick_76 ?_
        refine am_isub dX2_takeTick_77 ?_
        refine am_puti (j := 9) (by decide) rfl rfl rfl hTX2 tyX2_ok nmX2 (by decide) fl_X2_40 rfl rfl rfl rfl dX2_takeTick_78 ?_
        refine am_vret rfl dX2_takeTick_81 ?_
        refine ⟨rfl, ?_⟩
        first | (simp_all [sp_mTick, sp_mMiss, am_rd, bI_0]; done) | (simp_all [sp_mTick, sp_mMiss, am_rd, bI_0]; skip)
      · refine am_aload_n rfl dX2_takeTick_27 ?_
        refine am_geti (j := 4) (by decide) rfl rfl rfl hTX2 (by decide) fl_X2_24 dX2_takeTick_28 ?_
        refine am_goto (tgt := 38) (by decide) dX2_takeTick_31 ?_
        refine am_puti (j := 6) (by decide) rfl rfl rfl hTX2 tyX2_ok nmX2 (by decide) fl_X2_30 rfl rfl rfl rfl dX2_takeTick_38 ?_
        refine am_aload_n rfl dX2_takeTick_41 ?_
        refine am_iload_n rfl dX2_takeTick_42 ?_
        refine am_puti (j := 2) (by decide) rfl rfl rfl hTX2 tyX2_ok nmX2 (by decide) fl_X2_18 rfl rfl rfl rfl dX2_takeTick_43 ?_
        refine am_aload_n rfl dX2_takeTick_46 ?_
        refine am_iload_n rfl dX2_takeTick_47 ?_
        refine am_puti (j := 3) (by decide) rfl rfl rfl hTX2 tyX2_ok nmX2 (by decide) fl_X2_21 rfl rfl rfl rfl dX2_takeTick_48 ?_
        refine am_aload_n rfl dX2_takeTick_51 ?_
        refine am_dup rfl dX2_takeTick_52 ?_
        refine am_geti (j := 1) (by decide) rfl rfl rfl hTX2 (by decide) fl_X2_15 dX2_takeTick_53 ?_
        refine am_iload_n rfl dX2_takeTick_56 ?_
        refine am_iadd dX2_takeTick_57 ?_
        refine am_puti (j := 1) (by decide) rfl rfl rfl hTX2 tyX2_ok nmX2 (by decide) fl_X2_15 rfl rfl rfl rfl dX2_takeTick_58 ?_
        refine am_aload_n rfl dX2_takeTick_61 ?_
        refine am_dup rfl dX2_takeTick_62 ?_
        refine am_geti (j := 4) (by decide) rfl rfl rfl hTX2 (by decide) fl_X2_24 dX2_takeTick_63 ?_
        refine am_iconst (v := 1) (by decide) dX2_takeTick_66 ?_
        refine am_iadd dX2_takeTick_67 ?_
        refine am_puti (j := 4) (by decide) rfl rfl rfl hTX2 tyX2_ok nmX2 (by decide) fl_X2_24 rfl rfl rfl rfl dX2_takeTick_68 ?_
        refine am_aload_n rfl dX2_takeTick_71 ?_
        refine am_dup rfl dX2_takeTick_72 ?_
        refine am_geti (j := 9) (by decide) rfl rfl rfl hTX2 (by decide) fl_X2_40 dX2_takeTick_73 ?_
        refine am_iconst (v := 1) (by decide) dX2_takeTick_76 ?_
        refine am_isub dX2_takeTick_77 ?_
        refine am_puti (j := 9) (by decide) rfl rfl rfl hTX2 tyX2_ok nmX2 (by decide) fl_X2_40 rfl rfl rfl rfl dX2_takeTick_78 ?_
        refine am_vret rfl dX2_takeTick_81 ?_
        refine ⟨rfl, ?_⟩
        first | (simp_all [sp_mTick, sp_mMiss, am_rd, bI_0]; done) | (simp_all [sp_mTick, sp_mMiss, am_rd, bI_0]; skip)
set_option maxRecDepth 100000 in
set_option maxHeartbeats 400000 in
theorem c_X2_end (ad : Nat → Nat) (M : am_M)  : am_C ydX2_end ad am_II [.ref (ad 15)] M (am_un (sp_mEnd M)) := by
  refine am_ofW (by decide +kernel) (by simp [Value.category]) (Nat.le_of_ble_eq_true rfl) rfl ?_
  refine am_aload_n rfl dX2_end_0 ?_
  refine am_iconst (v := 0) (by decide) dX2_end_1 ?_
  refine am_puti (j := 9) (by decide) rfl rfl rfl hTX2 tyX2_ok nmX2 (by decide) fl_X2_40 rfl rfl rfl rfl dX2_end_2 ?_
  refine am_vret rfl dX2_end_5 ?_
  exact ⟨rfl, rfl⟩
def sp_aStart (M : am_M) (k : Nat) (d : Int32) : am_M := am_put (am_put M k 4 d) k 5 0
def sp_gone (n m way : Int32) : Int32 := if 1 ≤ n then (if 0 ≤ way then (2 * m * iabs way + n) / (2 * n) else -((2 * m * iabs way + n) / (2 * n))) else 0
def sp_follow (M : am_M) (k : Nat) (n m : Int32) (s : Bool) : am_M := am_put (if s = true then am_put (am_put M k 0 (M k 0 + (sp_gone n m (M k 4) - M k 5))) k 1 (M k 1 + (sp_gone n m (M k 4) - M k 5)) else am_put M k 0 (M k 0 + (sp_gone n m (M k 4) - M k 5))) k 5 (sp_gone n m (M k 4))
def sp_putSw (M : am_M) (k : Nat) (s : Int32) : am_M := am_put (am_put M k 3 s) k 2 1
def sp_on (M : am_M) (k : Nat) : Bool := decide (M k 3 ≤ M k 1)
def sp_made (M : am_M) (k : Nat) : Int32 := if sp_on M k = true then M k 1 - (M k 3 - 1) + 1 else M k 3 - M k 1
def sp_find (M : am_M) (k : Nat) : am_M := am_put (am_put M k 1 (M k 3)) k 0 0
theorem am_2n {n : Int32} (h : 1 ≤ n) (h2 : n.toInt ≤ 1000000000) : ¬ 2 * n = 0 := by
  intro e
  have e1 : (2 * n).toInt = 0 := by rw [e]; rfl
  simp only [Int32.le_iff_toInt_le, kI_1] at h
  rw [Int32.toInt_mul, kI_2, Int.bmod_eq_of_le (by omega) (by omega)] at e1
  omega
set_option maxRecDepth 100000 in
set_option maxHeartbeats 400000 in
theorem c_X0_start_16 (ad : Nat → Nat) (M : am_M) (d : Int32) : am_C ydX0_start ad am_II [.ref (ad 16), .int d] M (am_un (sp_aStart M 16 d)) := by
  refine am_ofW (by decide +kernel) (by simp [Value.category]) (Nat.le_of_ble_eq_true rfl) rfl ?_
  refine am_aload_n rfl dX0_start_0 ?_
  refine am_iload_n rfl dX0_start_1 ?_
  refine am_puti (j := 4) (by decide) rfl rfl rfl hTX0 tyX0_ok nmX0 (by decide) fl_X0_23 rfl rfl rfl rfl dX0_start_2 ?_
  refine am_aload_n rfl dX0_start_5 ?_
  refine am_iconst (v := 0) (by decide) dX0_start_6 ?_
  refine am_puti (j := 5) (by decide) rfl rfl rfl hTX0 tyX0_ok nmX0 (by decide) fl_X0_26 rfl rfl rfl rfl dX0_start_7 ?_
  refine am_vret rfl dX0_start_10 ?_
  exact ⟨rfl, rfl⟩
set_option maxRecDepth 100000 in
set_option maxHeartbeats 400000 in
theorem c_X0_goneBehind_16 (ad : Nat → Nat) (M : am_M) (n m : Int32) (hn : n.toInt ≤ 1000000000) : am_C ydX0_goneBehind ad am_II [.ref (ad 16), .int n, .int m] M (am_is (sp_gone n m (M 16 4)) M) := by
  refine am_ofW (by decide +kernel) (by simp [Value.category]) (Nat.le_of_ble_eq_true rfl) rfl ?_
  refine am_iload_n rfl dX0_goneBehind_0 ?_
  refine am_iconst (v := 1) (by decide) dX0_goneBehind_1 ?_
  refine am_icmp_ge (tgt := 7) (by decide) dX0_goneBehind_2 (fun h2 => ?_) (fun h2 => ?_)
  · refine am_iconst (v := 2) (by decide) dX0_goneBehind_7 ?_
    refine am_iload_n rfl dX0_goneBehind_8 ?_
    refine am_imul dX0_goneBehind_9 ?_
    refine am_aload_n rfl dX0_goneBehind_10 ?_
    refine am_geti (j := 4) (by decide) rfl rfl rfl hTX0 (by decide) fl_X0_23 dX0_goneBehind_11 ?_
    refine am_mabsI ml_X0_33 (by decide) (Nat.le_of_ble_eq_true rfl) dX0_goneBehind_14 ?_
    refine am_imul dX0_goneBehind_17 ?_
    refine am_iload_n rfl dX0_goneBehind_18 ?_
    refine am_iadd dX0_goneBehind_19 ?_
    refine am_iconst (v := 2) (by decide) dX0_goneBehind_20 ?_
    refine am_iload_n rfl dX0_goneBehind_21 ?_
    refine am_imul dX0_goneBehind_22 ?_
    refine am_idiv (am_2n (by assumption) hn) dX0_goneBehind_23 ?_
    refine am_istore_n (by decide) dX0_goneBehind_24 ?_
    refine am_aload_n rfl dX0_goneBehind_25 ?_
    refine am_geti (j := 4) (by decide) rfl rfl rfl hTX0 (by decide) fl_X0_23 dX0_goneBehind_26 ?_
    refine am_if_ge (tgt := 37) (by decide) dX0_goneBehind_29 (fun h29 => ?_) (fun h29 => ?_)
    · refine am_iload_n rfl dX0_goneBehind_37 ?_
      refine am_iret rfl dX0_goneBehind_38 ?_
      refine am_isE ?_
      unfold sp_gone
      first | rw [if_pos h2, if_pos h29] | rw [if_pos h2, if_neg h29] | rw [if_neg h2]
    · refine am_iload_n rfl dX0_goneBehind_32 ?_
      refine am_ineg dX0_goneBehind_33 ?_
      refine am_goto (tgt := 38) (by decide) dX0_goneBehind_34 ?_
      refine am_iret rfl dX0_goneBehind_38 ?_
      refine am_isE ?_
      unfold sp_gone
      first | rw [if_pos h2, if_pos h29] | rw [if_pos h2, if_neg h29] | rw [if_neg h2]
  · refine am_iconst (v := 0) (by decide) dX0_goneBehind_5 ?_
    refine am_iret rfl dX0_goneBehind_6 ?_
    refine am_isE ?_
    unfold sp_gone
    first | rw [if_pos h2, if_pos h29] | rw [if_pos h2, if_neg h29] | rw [if_neg h2]
set_option maxRecDepth 100000 in
set_option maxHeartbeats 400000 in
theorem c_X0_follow_16 (ad : Nat → Nat) (M : am_M) (n m : Int32) (s : Bool) (hn : n.toInt ≤ 1000000000) : am_C ydX0_follow ad am_II [.ref (ad 16), .int n, .int m, .int (bI s)] M (am_un (sp_follow M 16 n m s)) := by
  refine am_ofW (by decide +kernel) (by simp [Value.category]) (Nat.le_of_ble_eq_true rfl) rfl ?_
  refine am_aload_n rfl dX0_follow_0 ?_
  refine am_iload_n rfl dX0_follow_1 ?_
  refine am_iload_n rfl dX0_follow_2 ?_
  refine am_callVi (c_X0_goneBehind_16 ad M _ _ hn) okX0_goneBehind ml_X0_29 (by decide) rfl rfl rfl ⟨by decide, by decide⟩ (Nat.le_of_ble_eq_true rfl) rfl dX0_follow_3 ?_
  refine am_istore (by decide) dX0_follow_6 ?_
  refine am_aload_n rfl dX0_follow_8 ?_
  refine am_dup rfl dX0_follow_9 ?_
  refine am_geti (j := 0) (by decide) rfl rfl rfl hTX0 (by decide) fl_X0_7 dX0_follow_10 ?_
  refine am_iload rfl dX0_follow_13 ?_
  refine am_aload_n rfl dX0_follow_15 ?_
  refine am_geti (j := 5) (by decide) rfl rfl rfl hTX0 (by decide) fl_X0_26 dX0_follow_16 ?_
  refine am_isub dX0_follow_19 ?_
  refine am_iadd dX0_follow_20 ?_
  refine am_puti (j := 0) (by decide) rfl rfl rfl hTX0 tyX0_ok nmX0 (by decide) fl_X0_7 rfl rfl rfl rfl dX0_follow_21 ?_
  refine am_iload_n rfl dX0_follow_24 ?_
  refine am_if_eq (tgt := 44) (by decide) dX0_follow_25 (fun h25 => ?_) (fun h25 => ?_)
  · refine am_aload_n rfl dX0_follow_44 ?_
    refine am_iload rfl dX0_follow_45 ?_
    refine am_puti (j := 5) (by decide) rfl rfl rfl hTX0 tyX0_ok nmX0 (by decide) fl_X0_26 rfl rfl rfl rfl dX0_follow_47 ?_
    refine am_vret rfl dX0_follow_50 ?_
    refine ⟨rfl, ?_⟩
    simp_all [sp_follow, am_rd, bI_0]
  · refine am_aload_n rfl dX0_follow_28 ?_
    refine am_dup rfl dX0_follow_29 ?_
    refine am_geti (j := 1) (by decide) rfl rfl rfl hTX0 (by decide) fl_X0_13 dX0_follow_30 ?_
    refine am_iload rfl dX0_follow_33 ?_
    refine am_aload_n rfl dX0_follow_35 ?_
    refine am_geti (j := 5) (by decide) rfl rfl rfl hTX0 (by decide) fl_X0_26 dX0_follow_36 ?_
    refine am_isub dX0_follow_39 ?_
    refine am_iadd dX0_follow_40 ?_
    refine am_puti (j := 1) (by decide) rfl rfl rfl hTX0 tyX0_ok nmX0 (by decide) fl_X0_13 rfl rfl rfl rfl dX0_follow_41 ?_
    refine am_aload_n rfl dX0_follow_44 ?_
    refine am_iload rfl dX0_follow_45 ?_
    refine am_puti (j := 5) (by decide) rfl rfl rfl hTX0 tyX0_ok nmX0 (by decide) fl_X0_26 rfl rfl rfl rfl dX0_follow_47 ?_
    refine am_vret rfl dX0_follow_50 ?_
    refine ⟨rfl, ?_⟩
    simp_all [sp_follow, am_rd, bI_0]
set_option maxRecDepth 100000 in
set_option maxHeartbeats 400000 in
theorem c_X0_putSwitch_16 (ad : Nat → Nat) (M : am_M) (s : Int32) : am_C ydX0_putSwitch ad am_II [.ref (ad 16), .int s] M (am_un (sp_putSw M 16 s)) := by
  refine am_ofW (by decide +kernel) (by simp [Value.category]) (Nat.le_of_ble_eq_true rfl) rfl ?_
  refine am_aload_n rfl dX0_putSwitch_0 ?_
  refine am_iload_n rfl dX0_putSwitch_1 ?_
  refine am_puti (j := 3) (by decide) rfl rfl rfl hTX0 tyX0_ok nmX0 (by decide) fl_X0_20 rfl rfl rfl rfl dX0_putSwitch_2 ?_
  refine am_aload_n rfl dX0_putSwitch_5 ?_
  refine am_iconst (v := 1) (by decide) dX0_putSwitch_6 ?_
  refine am_puti (j := 2) (by decide) rfl rfl rfl hTX0 tyX0_ok nmX0 (by decide) fl_X0_16 rfl rfl (by first | exact am_nb _ | decide) (by first | exact am_fb _ | decide) dX0_putSwitch_7 ?_
  refine am_vret rfl dX0_putSwitch_10 ?_
  exact ⟨rfl, rfl⟩
set_option maxRecDepth 100000 in
set_option maxHeartbeats 400000 in
theorem c_X0_isOn_16 (ad : Nat → Nat) (M : am_M)  : am_C ydX0_isOn ad am_II [.ref (ad 16)] M (am_is (bI (sp_on M 16)) M) := by
  refine am_ofW (by decide +kernel) (by simp [Value.category]) (Nat.le_of_ble_eq_true rfl) rfl ?_
  refine am_aload_n rfl dX0_isOn_0 ?_
  refine am_geti (j := 1) (by decide) rfl rfl rfl hTX0 (by decide) fl_X0_13 dX0_isOn_1 ?_
  refine am_aload_n rfl dX0_isOn_4 ?_
  refine am_geti (j := 3) (by decide) rfl rfl rfl hTX0 (by decide) fl_X0_20 dX0_isOn_5 ?_
  refine am_icmp_lt (tgt := 15) (by decide) dX0_isOn_8 (fun h8 => ?_) (fun h8 => ?_)
  · refine am_iconst (v := 0) (by decide) dX0_isOn_15 ?_
    refine am_zret rfl (by first | exact am_nb _ | decide) dX0_isOn_16 ?_
    refine am_isF ?_
    simp only [sp_on, decide_eq_true_eq, decide_eq_false_iff_not, Bool.and_eq_true, Bool.or_eq_true, Bool.not_eq_true', Bool.and_eq_false_iff, bI_0] at *
    first | (simp_all; done) | (simp only [Int32.le_iff_toInt_le, Int32.lt_iff_toInt_lt, ← Int32.toInt_inj, Int32.toInt_zero, kI_1, kI_2, kI_3, kI_4, kI_5, kI_6, kI_7, kI_8, kI_9, kI_10, kI_12, kI_13, kI_31, kI_100, kI_200, kI_201, kI_400, kI_1000, kI_2000, kI_1000000, kI_m1, kI_m4, kI_m200, kI_m2000] at *; omega)
  · refine am_iconst (v := 1) (by decide) dX0_isOn_11 ?_
    refine am_goto (tgt := 16) (by decide) dX0_isOn_12 ?_
    refine am_zret rfl (by first | exact am_nb _ | decide) dX0_isOn_16 ?_
    refine am_isT ?_
    simp only [sp_on, decide_eq_true_eq, decide_eq_false_iff_not, Bool.and_eq_true, Bool.or_eq_true, Bool.not_eq_true', Bool.and_eq_false_iff, bI_0] at *
    first | (simp_all; done) | (simp only [Int32.le_iff_toInt_le, Int32.lt_iff_toInt_lt, ← Int32.toInt_inj, Int32.toInt_zero, kI_1, kI_2, kI_3, kI_4, kI_5, kI_6, kI_7, kI_8, kI_9, kI_10, kI_12, kI_13, kI_31, kI_100, kI_200, kI_201, kI_400, kI_1000, kI_2000, kI_1000000, kI_m1, kI_m4, kI_m200, kI_m2000] at *; omega)
set_option maxRecDepth 100000 in
set_option maxHeartbeats 400000 in
theorem c_X0_findSwitch_16 (ad : Nat → Nat) (M : am_M)  : am_C ydX0_findSwitch ad am_II [.ref (ad 16)] M (am_is (sp_made M 16) (sp_find M 16)) := by
  refine am_ofW (by decide +kernel) (by simp [Value.category]) (Nat.le_of_ble_eq_true rfl) rfl ?_
  refine am_aload_n rfl dX0_findSwitch_0 ?_
  refine am_callVi (c_X0_isOn_16 ad M) okX0_isOn ml_X0_39 (by decide) rfl rfl rfl ⟨by decide, by decide⟩ (Nat.le_of_ble_eq_true rfl) rfl dX0_findSwitch_1 ?_
  refine am_ifb_eq (tgt := 23) (by decide) dX0_findSwitch_4 (fun h4 => ?_) (fun h4 => ?_)
  · refine am_aload_n rfl dX0_findSwitch_23 ?_
    refine am_geti (j := 3) (by decide) rfl rfl rfl hTX0 (by decide) fl_X0_20 dX0_findSwitch_24 ?_
    refine am_aload_n rfl dX0_findSwitch_27 ?_
    refine am_geti (j := 1) (by decide) rfl rfl rfl hTX0 (by decide) fl_X0_13 dX0_findSwitch_28 ?_
    refine am_isub dX0_findSwitch_31 ?_
    refine am_istore_n (by decide) dX0_findSwitch_32 ?_
    refine am_aload_n rfl dX0_findSwitch_33 ?_
    refine am_aload_n rfl dX0_findSwitch_34 ?_
    refine am_geti (j := 3) (by decide) rfl rfl rfl hTX0 (by decide) fl_X0_20 dX0_findSwitch_35 ?_
    refine am_puti (j := 1) (by decide) rfl rfl rfl hTX0 tyX0_ok nmX0 (by decide) fl_X0_13 rfl rfl rfl rfl dX0_findSwitch_38 ?_
    refine am_aload_n rfl dX0_findSwitch_41 ?_
    refine am_iconst (v := 0) (by decide) dX0_findSwitch_42 ?_
    refine am_puti (j := 0) (by decide) rfl rfl rfl hTX0 tyX0_ok nmX0 (by decide) fl_X0_7 rfl rfl rfl rfl dX0_findSwitch_43 ?_
    refine am_iload_n rfl dX0_findSwitch_46 ?_
    refine am_iret rfl dX0_findSwitch_47 ?_
    refine ⟨?_, rfl⟩
    simp_all [sp_made]
  · refine am_aload_n rfl dX0_findSwitch_7 ?_
    refine am_geti (j := 1) (by decide) rfl rfl rfl hTX0 (by decide) fl_X0_13 dX0_findSwitch_8 ?_
    refine am_aload_n rfl dX0_findSwitch_11 ?_
    refine am_geti (j := 3) (by decide) rfl rfl rfl hTX0 (by decide) fl_X0_20 dX0_findSwitch_12 ?_
    refine am_iconst (v := 1) (by decide) dX0_findSwitch_15 ?_
    refine am_isub dX0_findSwitch_16 ?_
    refine am_isub dX0_findSwitch_17 ?_
    refine am_iconst (v := 1) (by decide) dX0_findSwitch_18 ?_
    refine am_iadd dX0_findSwitch_19 ?_
    refine am_goto (tgt := 32) (by decide) dX0_findSwitch_20 ?_
    refine am_istore_n (by decide) dX0_findSwitch_32 ?_
    refine am_aload_n rfl dX0_findSwitch_33 ?_
    refine am_aload_n rfl dX0_findSwitch_34 ?_
    refine am_geti (j := 3) (by decide) rfl rfl rfl hTX0 (by decide) fl_X0_20 dX0_findSwitch_35 ?_
    refine am_puti (j := 1) (by decide) rfl rfl rfl hTX0 tyX0_ok nmX0 (by decide) fl_X0_13 rfl rfl rfl rfl dX0_findSwitch_38 ?_
    refine am_aload_n rfl dX0_findSwitch_41 ?_
    refine am_iconst (v := 0) (by decide) dX0_findSwitch_42 ?_
    refine am_puti (j := 0) (by decide) rfl rfl rfl hTX0 tyX0_ok nmX0 (by decide) fl_X0_7 rfl rfl rfl rfl dX0_findSwitch_43 ?_
    refine am_iload_n rfl dX0_findSwitch_46 ?_
    refine am_iret rfl dX0_findSwitch_47 ?_
    refine ⟨?_, rfl⟩
    simp_all [sp_made]
set_option maxRecDepth 100000 in
set_option maxHeartbeats 400000 in
theorem c_X0_start_17 (ad : Nat → Nat) (M : am_M) (d : Int32) : am_C ydX0_start ad am_II [.ref (ad 17), .int d] M (am_un (sp_aStart M 17 d)) := by
  refine am_ofW (by decide +kernel) (by simp [Value.category]) (Nat.le_of_ble_eq_true rfl) rfl ?_
  refine am_aload_n rfl dX0_start_0 ?_
  refine am_iload_n rfl dX0_start_1 ?_
  refine am_puti (j := 4) (by decide) rfl rfl rfl hTX0 tyX0_ok nmX0 (by decide) fl_X0_23 rfl rfl rfl rfl dX0_start_2 ?_
  refine am_aload_n rfl dX0_start_5 ?_
  refine am_iconst (v := 0) (by decide) dX0_start_6 ?_
  refine am_puti (j := 5) (by decide) rfl rfl rfl hTX0 tyX0_ok nmX0 (by decide) fl_X0_26 rfl rfl rfl rfl dX0_start_7 ?_
  refine am_vret rfl dX0_start_10 ?_
  exact ⟨rfl, rfl⟩
set_option maxRecDepth 100000 in
set_option maxHeartbeats 400000 in
theorem c_X0_goneBehind_17 (ad : Nat → Nat) (M : am_M) (n m : Int32) (hn : n.toInt ≤ 1000000000) : am_C ydX0_goneBehind ad am_II [.ref (ad 17), .int n, .int m] M (am_is (sp_gone n m (M 17 4)) M) := by
  refine am_ofW (by decide +kernel) (by simp [Value.category]) (Nat.le_of_ble_eq_true rfl) rfl ?_
  refine am_iload_n rfl dX0_goneBehind_0 ?_
  refine am_iconst (v := 1) (by decide) dX0_goneBehind_1 ?_
  refine am_icmp_ge (tgt := 7) (by decide) dX0_goneBehind_2 (fun h2 => ?_) (fun h2 => ?_)
  · refine am_iconst (v := 2) (by decide) dX0_goneBehind_7 ?_
    refine am_iload_n rfl dX0_goneBehind_8 ?_
    refine am_imul dX0_goneBehind_9 ?_
    refine am_aload_n rfl dX0_goneBehind_10 ?_
    refine am_geti (j := 4) (by decide) rfl rfl rfl hTX0 (by decide) fl_X0_23 dX0_goneBehind_11 ?_
    refine am_mabsI ml_X0_33 (by decide) (Nat.le_of_ble_eq_true rfl) dX0_goneBehind_14 ?_
    refine am_imul dX0_goneBehind_17 ?_
    refine am_iload_n rfl dX0_goneBehind_18 ?_
    refine am_iadd dX0_goneBehind_19 ?_
    refine am_iconst (v := 2) (by decide) dX0_goneBehind_20 ?_
    refine am_iload_n rfl dX0_goneBehind_21 ?_
    refine am_imul dX0_goneBehind_22 ?_
    refine am_idiv (am_2n (by assumption) hn) dX0_goneBehind_23 ?_
    refine am_istore_n (by decide) dX0_goneBehind_24 ?_
    refine am_aload_n rfl dX0_goneBehind_25 ?_
    refine am_geti (j := 4) (by decide) rfl rfl rfl hTX0 (by decide) fl_X0_23 dX0_goneBehind_26 ?_
    refine am_if_ge (tgt := 37) (by decide) dX0_goneBehind_29 (fun h29 => ?_) (fun h29 => ?_)
    · refine am_iload_n rfl dX0_goneBehind_37 ?_
      refine am_iret rfl dX0_goneBehind_38 ?_
      refine am_isE ?_
      unfold sp_gone
      first | rw [if_pos h2, if_pos h29] | rw [if_pos h2, if_neg h29] | rw [if_neg h2]
    · refine am_iload_n rfl dX0_goneBehind_32 ?_
      refine am_ineg dX0_goneBehind_33 ?_
      refine am_goto (tgt := 38) (by decide) dX0_goneBehind_34 ?_
      refine am_iret rfl dX0_goneBehind_38 ?_
      refine am_isE ?_
      unfold sp_gone
      first | rw [if_pos h2, if_pos h29] | rw [if_pos h2, if_neg h29] | rw [if_neg h2]
  · refine am_iconst (v := 0) (by decide) dX0_goneBehind_5 ?_
    refine am_iret rfl dX0_goneBehind_6 ?_
    refine am_isE ?_
    unfold sp_gone
    first | rw [if_pos h2, if_pos h29] | rw [if_pos h2, if_neg h29] | rw [if_neg h2]
set_option maxRecDepth 100000 in
set_option maxHeartbeats 400000 in
theorem c_X0_follow_17 (ad : Nat → Nat) (M : am_M) (n m : Int32) (s : Bool) (hn : n.toInt ≤ 1000000000) : am_C ydX0_follow ad am_II [.ref (ad 17), .int n, .int m, .int (bI s)] M (am_un (sp_follow M 17 n m s)) := by
  refine am_ofW (by decide +kernel) (by simp [Value.category]) (Nat.le_of_ble_eq_true rfl) rfl ?_
  refine am_aload_n rfl dX0_follow_0 ?_
  refine am_iload_n rfl dX0_follow_1 ?_
  refine am_iload_n rfl dX0_follow_2 ?_
  refine am_callVi (c_X0_goneBehind_17 ad M _ _ hn) okX0_goneBehind ml_X0_29 (by decide) rfl rfl rfl ⟨by decide, by decide⟩ (Nat.le_of_ble_eq_true rfl) rfl dX0_follow_3 ?_
  refine am_istore (by decide) dX0_follow_6 ?_
  refine am_aload_n rfl dX0_follow_8 ?_
  refine am_dup rfl dX0_follow_9 ?_
  refine am_geti (j := 0) (by decide) rfl rfl rfl hTX0 (by decide) fl_X0_7 dX0_follow_10 ?_
  refine am_iload rfl dX0_follow_13 ?_
  refine am_aload_n rfl dX0_follow_15 ?_
  refine am_geti (j := 5) (by decide) rfl rfl rfl hTX0 (by decide) fl_X0_26 dX0_follow_16 ?_
  refine am_isub dX0_follow_19 ?_
  refine am_iadd dX0_follow_20 ?_
  refine am_puti (j := 0) (by decide) rfl rfl rfl hTX0 tyX0_ok nmX0 (by decide) fl_X0_7 rfl rfl rfl rfl dX0_follow_21 ?_
  refine am_iload_n rfl dX0_follow_24 ?_
  refine am_if_eq (tgt := 44) (by decide) dX0_follow_25 (fun h25 => ?_) (fun h25 => ?_)
  · refine am_aload_n rfl dX0_follow_44 ?_
    refine am_iload rfl dX0_follow_45 ?_
    refine am_puti (j := 5) (by decide) rfl rfl rfl hTX0 tyX0_ok nmX0 (by decide) fl_X0_26 rfl rfl rfl rfl dX0_follow_47 ?_
    refine am_vret rfl dX0_follow_50 ?_
    refine ⟨rfl, ?_⟩
    simp_all [sp_follow, am_rd, bI_0]
  · refine am_aload_n rfl dX0_follow_28 ?_
    refine am_dup rfl dX0_follow_29 ?_
    refine am_geti (j := 1) (by decide) rfl rfl rfl hTX0 (by decide) fl_X0_13 dX0_follow_30 ?_
    refine am_iload rfl dX0_follow_33 ?_
    refine am_aload_n rfl dX0_follow_35 ?_
    refine am_geti (j := 5) (by decide) rfl rfl rfl hTX0 (by decide) fl_X0_26 dX0_follow_36 ?_
    refine am_isub dX0_follow_39 ?_
    refine am_iadd dX0_follow_40 ?_
    refine am_puti (j := 1) (by decide) rfl rfl rfl hTX0 tyX0_ok nmX0 (by decide) fl_X0_13 rfl rfl rfl rfl dX0_follow_41 ?_
    refine am_aload_n rfl dX0_follow_44 ?_
    refine am_iload rfl dX0_follow_45 ?_
    refine am_puti (j := 5) (by decide) rfl rfl rfl hTX0 tyX0_ok nmX0 (by decide) fl_X0_26 rfl rfl rfl rfl dX0_follow_47 ?_
    refine am_vret rfl dX0_follow_50 ?_
    refine ⟨rfl, ?_⟩
    simp_all [sp_follow, am_rd, bI_0]
set_option maxRecDepth 100000 in
set_option maxHeartbeats 400000 in
theorem c_X0_putSwitch_17 (ad : Nat → Nat) (M : am_M) (s : Int32) : am_C ydX0_putSwitch ad am_II [.ref (ad 17), .int s] M (am_un (sp_putSw M 17 s)) := by
  refine am_ofW (by decide +kernel) (by simp [Value.category]) (Nat.le_of_ble_eq_true rfl) rfl ?_
  refine am_aload_n rfl dX0_putSwitch_0 ?_
  refine am_iload_n rfl dX0_putSwitch_1 ?_
  refine am_puti (j := 3) (by decide) rfl rfl rfl hTX0 tyX0_ok nmX0 (by decide) fl_X0_20 rfl rfl rfl rfl dX0_putSwitch_2 ?_
  refine am_aload_n rfl dX0_putSwitch_5 ?_
  refine am_iconst (v := 1) (by decide) dX0_putSwitch_6 ?_
  refine am_puti (j := 2) (by decide) rfl rfl rfl hTX0 tyX0_ok nmX0 (by decide) fl_X0_16 rfl rfl (by first | exact am_nb _ | decide) (by first | exact am_fb _ | decide) dX0_putSwitch_7 ?_
  refine am_vret rfl dX0_putSwitch_10 ?_
  exact ⟨rfl, rfl⟩
set_option maxRecDepth 100000 in
set_option maxHeartbeats 400000 in
theorem c_X0_isOn_17 (ad : Nat → Nat) (M : am_M)  : am_C ydX0_isOn ad am_II [.ref (ad 17)] M (am_is (bI (sp_on M 17)) M) := by
  refine am_ofW (by decide +kernel) (by simp [Value.category]) (Nat.le_of_ble_eq_true rfl) rfl ?_
  refine am_aload_n rfl dX0_isOn_0 ?_
  refine am_geti (j := 1) (by decide) rfl rfl rfl hTX0 (by decide) fl_X0_13 dX0_isOn_1 ?_
  refine am_aload_n rfl dX0_isOn_4 ?_
  refine am_geti (j := 3) (by decide) rfl rfl rfl hTX0 (by decide) fl_X0_20 dX0_isOn_5 ?_
  refine am_icmp_lt (tgt := 15) (by decide) dX0_isOn_8 (fun h8 => ?_) (fun h8 => ?_)
  · refine am_iconst (v := 0) (by decide) dX0_isOn_15 ?_
    refine am_zret rfl (by first | exact am_nb _ | decide) dX0_isOn_16 ?_
    refine am_isF ?_
    simp only [sp_on, decide_eq_true_eq, decide_eq_false_iff_not, Bool.and_eq_true, Bool.or_eq_true, Bool.not_eq_true', Bool.and_eq_false_iff, bI_0] at *
    first | (simp_all; done) | (simp only [Int32.le_iff_toInt_le, Int32.lt_iff_toInt_lt, ← Int32.toInt_inj, Int32.toInt_zero, kI_1, kI_2, kI_3, kI_4, kI_5, kI_6, kI_7, kI_8, kI_9, kI_10, kI_12, kI_13, kI_31, kI_100, kI_200, kI_201, kI_400, kI_1000, kI_2000, kI_1000000, kI_m1, kI_m4, kI_m200, kI_m2000] at *; omega)
  · refine am_iconst (v := 1) (by decide) dX0_isOn_11 ?_
    refine am_goto (tgt := 16) (by decide) dX0_isOn_12 ?_
    refine am_zret rfl (by first | exact am_nb _ | decide) dX0_isOn_16 ?_
    refine am_isT ?_
    simp only [sp_on, decide_eq_true_eq, decide_eq_false_iff_not, Bool.and_eq_true, Bool.or_eq_true, Bool.not_eq_true', Bool.and_eq_false_iff, bI_0] at *
    first | (simp_all; done) | (simp only [Int32.le_iff_toInt_le, Int32.lt_iff_toInt_lt, ← Int32.toInt_inj, Int32.toInt_zero, kI_1, kI_2, kI_3, kI_4, kI_5, kI_6, kI_7, kI_8, kI_9, kI_10, kI_12, kI_13, kI_31, kI_100, kI_200, kI_201, kI_400, kI_1000, kI_2000, kI_1000000, kI_m1, kI_m4, kI_m200, kI_m2000] at *; omega)
set_option maxRecDepth 100000 in
set_option maxHeartbeats 400000 in
theorem c_X0_findSwitch_17 (ad : Nat → Nat) (M : am_M)  : am_C ydX0_findSwitch ad am_II [.ref (ad 17)] M (am_is (sp_made M 17) (sp_find M 17)) := by
  refine am_ofW (by decide +kernel) (by simp [Value.category]) (Nat.le_of_ble_eq_true rfl) rfl ?_
  refine am_aload_n rfl dX0_findSwitch_0 ?_
  refine am_callVi (c_X0_isOn_17 ad M) okX0_isOn ml_X0_39 (by decide) rfl rfl rfl ⟨by decide, by decide⟩ (Nat.le_of_ble_eq_true rfl) rfl dX0_findSwitch_1 ?_
  refine am_ifb_eq (tgt := 23) (by decide) dX0_findSwitch_4 (fun h4 => ?_) (fun h4 => ?_)
  · refine am_aload_n rfl dX0_findSwitch_23 ?_
    refine am_geti (j := 3) (by decide) rfl rfl rfl hTX0 (by decide) fl_X0_20 dX0_findSwitch_24 ?_
    refine am_aload_n rfl dX0_findSwitch_27 ?_
    refine am_geti (j := 1) (by decide) rfl rfl rfl hTX0 (by decide) fl_X0_13 dX0_findSwitch_28 ?_
    refine am_isub dX0_findSwitch_31 ?_
    refine am_istore_n (by decide) dX0_findSwitch_32 ?_
    refine am_aload_n rfl dX0_findSwitch_33 ?_
    refine am_aload_n rfl dX0_findSwitch_34 ?_
    refine am_geti (j := 3) (by decide) rfl rfl rfl hTX0 (by decide) fl_X0_20 dX0_findSwitch_35 ?_
    refine am_puti (j := 1) (by decide) rfl rfl rfl hTX0 tyX0_ok nmX0 (by decide) fl_X0_13 rfl rfl rfl rfl dX0_findSwitch_38 ?_
    refine am_aload_n rfl dX0_findSwitch_41 ?_
    refine am_iconst (v := 0) (by decide) dX0_findSwitch_42 ?_
    refine am_puti (j := 0) (by decide) rfl rfl rfl hTX0 tyX0_ok nmX0 (by decide) fl_X0_7 rfl rfl rfl rfl dX0_findSwitch_43 ?_
    refine am_iload_n rfl dX0_findSwitch_46 ?_
    refine am_iret rfl dX0_findSwitch_47 ?_
    refine ⟨?_, rfl⟩
    simp_all [sp_made]
  · refine am_aload_n rfl dX0_findSwitch_7 ?_
    refine am_geti (j := 1) (by decide) rfl rfl rfl hTX0 (by decide) fl_X0_13 dX0_findSwitch_8 ?_
    refine am_aload_n rfl dX0_findSwitch_11 ?_
    refine am_geti (j := 3) (by decide) rfl rfl rfl hTX0 (by decide) fl_X0_20 dX0_findSwitch_12 ?_
    refine am_iconst (v := 1) (by decide) dX0_findSwitch_15 ?_
    refine am_isub dX0_findSwitch_16 ?_
    refine am_isub dX0_findSwitch_17 ?_
    refine am_iconst (v := 1) (by decide) dX0_findSwitch_18 ?_
    refine am_iadd dX0_findSwitch_19 ?_
    refine am_goto (tgt := 32) (by decide) dX0_findSwitch_20 ?_
    refine am_istore_n (by decide) dX0_findSwitch_32 ?_
    refine am_aload_n rfl dX0_findSwitch_33 ?_
    refine am_aload_n rfl dX0_findSwitch_34 ?_
    refine am_geti (j := 3) (by decide) rfl rfl rfl hTX0 (by decide) fl_X0_20 dX0_findSwitch_35 ?_
    refine am_puti (j := 1) (by decide) rfl rfl rfl hTX0 tyX0_ok nmX0 (by decide) fl_X0_13 rfl rfl rfl rfl dX0_findSwitch_38 ?_
    refine am_aload_n rfl dX0_findSwitch_41 ?_
    refine am_iconst (v := 0) (by decide) dX0_findSwitch_42 ?_
    refine am_puti (j := 0) (by decide) rfl rfl rfl hTX0 tyX0_ok nmX0 (by decide) fl_X0_7 rfl rfl rfl rfl dX0_findSwitch_43 ?_
    refine am_iload_n rfl dX0_findSwitch_46 ?_
    refine am_iret rfl dX0_findSwitch_47 ?_
    refine ⟨?_, rfl⟩
    simp_all [sp_made]
set_option maxRecDepth 100000 in
set_option maxHeartbeats 400000 in
theorem c_X0_start_18 (ad : Nat → Nat) (M : am_M) (d : Int32) : am_C ydX0_start ad am_II [.ref (ad 18), .int d] M (am_un (sp_aStart M 18 d)) := by
  refine am_ofW (by decide +kernel) (by simp [Value.category]) (Nat.le_of_ble_eq_true rfl) rfl ?_
  refine am_aload_n rfl dX0_start_0 ?_
  refine am_iload_n rfl dX0_start_1 ?_
  refine am_puti (j := 4) (by decide) rfl rfl rfl hTX0 tyX0_ok nmX0 (by decide) fl_X0_23 rfl rfl rfl rfl dX0_start_2 ?_
  refine am_aload_n rfl dX0_start_5 ?_
  refine am_iconst (v := 0) (by decide) dX0_start_6 ?_
  refine am_puti (j := 5) (by decide) rfl rfl rfl hTX0 tyX0_ok nmX0 (by decide) fl_X0_26 rfl rfl rfl rfl dX0_start_7 ?_
  refine am_vret rfl dX0_start_10 ?_
  exact ⟨rfl, rfl⟩
set_option maxRecDepth 100000 in
set_option maxHeartbeats 400000 in
theorem c_X0_goneBehind_18 (ad : Nat → Nat) (M : am_M) (n m : Int32) (hn : n.toInt ≤ 1000000000) : am_C ydX0_goneBehind ad am_II [.ref (ad 18), .int n, .int m] M (am_is (sp_gone n m (M 18 4)) M) := by
  refine am_ofW (by decide +kernel) (by simp [Value.category]) (Nat.le_of_ble_eq_true rfl) rfl ?_
  refine am_iload_n rfl dX0_goneBehind_0 ?_
  refine am_iconst (v := 1) (by decide) dX0_goneBehind_1 ?_
  refine am_icmp_ge (tgt := 7) (by decide) dX0_goneBehind_2 (fun h2 => ?_) (fun h2 => ?_)
  · refine am_iconst (v := 2) (by decide) dX0_goneBehind_7 ?_
    refine am_iload_n rfl dX0_goneBehind_8 ?_
    refine am_imul dX0_goneBehind_9 ?_
    refine am_aload_n rfl dX0_goneBehind_10 ?_
    refine am_geti (j := 4) (by decide) rfl rfl rfl hTX0 (by decide) fl_X0_23 dX0_goneBehind_11 ?_
    refine am_mabsI ml_X0_33 (by decide) (Nat.le_of_ble_eq_true rfl) dX0_goneBehind_14 ?_
    refine am_imul dX0_goneBehind_17 ?_
    refine am_iload_n rfl dX0_goneBehind_18 ?_
    refine am_iadd dX0_goneBehind_19 ?_
    refine am_iconst (v := 2) (by decide) dX0_goneBehind_20 ?_
    refine am_iload_n rfl dX0_goneBehind_21 ?_
    refine am_imul dX0_goneBehind_22 ?_
    refine am_idiv (am_2n (by assumption) hn) dX0_goneBehind_23 ?_
    refine am_istore_n (by decide) dX0_goneBehind_24 ?_
    refine am_aload_n rfl dX0_goneBehind_25 ?_
    refine am_geti (j := 4) (by decide) rfl rfl rfl hTX0 (by decide) fl_X0_23 dX0_goneBehind_26 ?_
    refine am_if_ge (tgt := 37) (by decide) dX0_goneBehind_29 (fun h29 => ?_) (fun h29 => ?_)
    · refine am_iload_n rfl dX0_goneBehind_37 ?_
      refine am_iret rfl dX0_goneBehind_38 ?_
      refine am_isE ?_
      unfold sp_gone
      first | rw [if_pos h2, if_pos h29] | rw [if_pos h2, if_neg h29] | rw [if_neg h2]
    · refine am_iload_n rfl dX0_goneBehind_32 ?_
      refine am_ineg dX0_goneBehind_33 ?_
      refine am_goto (tgt := 38) (by decide) dX0_goneBehind_34 ?_
      refine am_iret rfl dX0_goneBehind_38 ?_
      refine am_isE ?_
      unfold sp_gone
      first | rw [if_pos h2, if_pos h29] | rw [if_pos h2, if_neg h29] | rw [if_neg h2]
  · refine am_iconst (v := 0) (by decide) dX0_goneBehind_5 ?_
    refine am_iret rfl dX0_goneBehind_6 ?_
    refine am_isE ?_
    unfold sp_gone
    first | rw [if_pos h2, if_pos h29] | rw [if_pos h2, if_neg h29] | rw [if_neg h2]
set_option maxRecDepth 100000 in
set_option maxHeartbeats 400000 in
theorem c_X0_follow_18 (ad : Nat → Nat) (M : am_M) (n m : Int32) (s : Bool) (hn : n.toInt ≤ 1000000000) : am_C ydX0_follow ad am_II [.ref (ad 18), .int n, .int m, .int (bI s)] M (am_un (sp_follow M 18 n m s)) := by
  refine am_ofW (by decide +kernel) (by simp [Value.category]) (Nat.le_of_ble_eq_true rfl) rfl ?_
  refine am_aload_n rfl dX0_follow_0 ?_
  refine am_iload_n rfl dX0_follow_1 ?_
  refine am_iload_n rfl dX0_follow_2 ?_
  refine am_callVi (c_X0_goneBehind_18 ad M _ _ hn) okX0_goneBehind ml_X0_29 (by decide) rfl rfl rfl ⟨by decide, by decide⟩ (Nat.le_of_ble_eq_true rfl) rfl dX0_follow_3 ?_
  refine am_istore (by decide) dX0_follow_6 ?_
  refine am_aload_n rfl dX0_follow_8 ?_
  refine am_dup rfl dX0_follow_9 ?_
  refine am_geti (j := 0) (by decide) rfl rfl rfl hTX0 (by decide) fl_X0_7 dX0_follow_10 ?_
  refine am_iload rfl dX0_follow_13 ?_
  refine am_aload_n rfl dX0_follow_15 ?_
  refine am_geti (j := 5) (by decide) rfl rfl rfl hTX0 (by decide) fl_X0_26 dX0_follow_16 ?_
  refine am_isub dX0_follow_19 ?_
  refine am_iadd dX0_follow_20 ?_
  refine am_puti (j := 0) (by decide) rfl rfl rfl hTX0 tyX0_ok nmX0 (by decide) fl_X0_7 rfl rfl rfl rfl dX0_follow_21 ?_
  refine am_iload_n rfl dX0_follow_24 ?_
  refine am_if_eq (tgt := 44) (by decide) dX0_follow_25 (fun h25 => ?_) (fun h25 => ?_)
  · refine am_aload_n rfl dX0_follow_44 ?_
    refine am_iload rfl dX0_follow_45 ?_
    refine am_puti (j := 5) (by decide) rfl rfl rfl hTX0 tyX0_ok nmX0 (by decide) fl_X0_26 rfl rfl rfl rfl dX0_follow_47 ?_
    refine am_vret rfl dX0_follow_50 ?_
    refine ⟨rfl, ?_⟩
    simp_all [sp_follow, am_rd, bI_0]
  · refine am_aload_n rfl dX0_follow_28 ?_
    refine am_dup rfl dX0_follow_29 ?_
    refine am_geti (j := 1) (by decide) rfl rfl rfl hTX0 (by decide) fl_X0_13 dX0_follow_30 ?_
    refine am_iload rfl dX0_follow_33 ?_
    refine am_aload_n rfl dX0_follow_35 ?_
    refine am_geti (j := 5) (by decide) rfl rfl rfl hTX0 (by decide) fl_X0_26 dX0_follow_36 ?_
    refine am_isub dX0_follow_39 ?_
    refine am_iadd dX0_follow_40 ?_
    refine am_puti (j := 1) (by decide) rfl rfl rfl hTX0 tyX0_ok nmX0 (by decide) fl_X0_13 rfl rfl rfl rfl dX0_follow_41 ?_
    refine am_aload_n rfl dX0_follow_44 ?_
    refine am_iload rfl dX0_follow_45 ?_
    refine am_puti (j := 5) (by decide) rfl rfl rfl hTX0 tyX0_ok nmX0 (by decide) fl_X0_26 rfl rfl rfl rfl dX0_follow_47 ?_
    refine am_vret rfl dX0_follow_50 ?_
    refine ⟨rfl, ?_⟩
    simp_all [sp_follow, am_rd, bI_0]
set_option maxRecDepth 100000 in
set_option maxHeartbeats 400000 in
theorem c_X0_putSwitch_18 (ad : Nat → Nat) (M : am_M) (s : Int32) : am_C ydX0_putSwitch ad am_II [.ref (ad 18), .int s] M (am_un (sp_putSw M 18 s)) := by
  refine am_ofW (by decide +kernel) (by simp [Value.category]) (Nat.le_of_ble_eq_true rfl) rfl ?_
  refine am_aload_n rfl dX0_putSwitch_0 ?_
  refine am_iload_n rfl dX0_putSwitch_1 ?_
  refine am_puti (j := 3) (by decide) rfl rfl rfl hTX0 tyX0_ok nmX0 (by decide) fl_X0_20 rfl rfl rfl rfl dX0_putSwitch_2 ?_
  refine am_aload_n rfl dX0_putSwitch_5 ?_
  refine am_iconst (v := 1) (by decide) dX0_putSwitch_6 ?_
  refine am_puti (j := 2) (by decide) rfl rfl rfl hTX0 tyX0_ok nmX0 (by decide) fl_X0_16 rfl rfl (by first | exact am_nb _ | decide) (by first | exact am_fb _ | decide) dX0_putSwitch_7 ?_
  refine am_vret rfl dX0_putSwitch_10 ?_
  exact ⟨rfl, rfl⟩
set_option maxRecDepth 100000 in
set_option maxHeartbeats 400000 in
theorem c_X0_isOn_18 (ad : Nat → Nat) (M : am_M)  : am_C ydX0_isOn ad am_II [.ref (ad 18)] M (am_is (bI (sp_on M 18)) M) := by
  refine am_ofW (by decide +kernel) (by simp [Value.category]) (Nat.le_of_ble_eq_true rfl) rfl ?_
  refine am_aload_n rfl dX0_isOn_0 ?_
  refine am_geti (j := 1) (by decide) rfl rfl rfl hTX0 (by decide) fl_X0_13 dX0_isOn_1 ?_
  refine am_aload_n rfl dX0_isOn_4 ?_
  refine am_geti (j := 3) (by decide) rfl rfl rfl hTX0 (by decide) fl_X0_20 dX0_isOn_5 ?_
  refine am_icmp_lt (tgt := 15) (by decide) dX0_isOn_8 (fun h8 => ?_) (fun h8 => ?_)
  · refine am_iconst (v := 0) (by decide) dX0_isOn_15 ?_
    refine am_zret rfl (by first | exact am_nb _ | decide) dX0_isOn_16 ?_
    refine am_isF ?_
    simp only [sp_on, decide_eq_true_eq, decide_eq_false_iff_not, Bool.and_eq_true, Bool.or_eq_true, Bool.not_eq_true', Bool.and_eq_false_iff, bI_0] at *
    first | (simp_all; done) | (simp only [Int32.le_iff_toInt_le, Int32.lt_iff_toInt_lt, ← Int32.toInt_inj, Int32.toInt_zero, kI_1, kI_2, kI_3, kI_4, kI_5, kI_6, kI_7, kI_8, kI_9, kI_10, kI_12, kI_13, kI_31, kI_100, kI_200, kI_201, kI_400, kI_1000, kI_2000, kI_1000000, kI_m1, kI_m4, kI_m200, kI_m2000] at *; omega)
  · refine am_iconst (v := 1) (by decide) dX0_isOn_11 ?_
    refine am_goto (tgt := 16) (by decide) dX0_isOn_12 ?_
    refine am_zret rfl (by first | exact am_nb _ | decide) dX0_isOn_16 ?_
    refine am_isT ?_
    simp only [sp_on, decide_eq_true_eq, decide_eq_false_iff_not, Bool.and_eq_true, Bool.or_eq_true, Bool.not_eq_true', Bool.and_eq_false_iff, bI_0] at *
    first | (simp_all; done) | (simp only [Int32.le_iff_toInt_le, Int32.lt_iff_toInt_lt, ← Int32.toInt_inj, Int32.toInt_zero, kI_1, kI_2, kI_3, kI_4, kI_5, kI_6, kI_7, kI_8, kI_9, kI_10, kI_12, kI_13, kI_31, kI_100, kI_200, kI_201, kI_400, kI_1000, kI_2000, kI_1000000, kI_m1, kI_m4, kI_m200, kI_m2000] at *; omega)
set_option maxRecDepth 100000 in
set_option maxHeartbeats 400000 in
theorem c_X0_findSwitch_18 (ad : Nat → Nat) (M : am_M)  : am_C ydX0_findSwitch ad am_II [.ref (ad 18)] M (am_is (sp_made M 18) (sp_find M 18)) := by
  refine am_ofW (by decide +kernel) (by simp [Value.category]) (Nat.le_of_ble_eq_true rfl) rfl ?_
  refine am_aload_n rfl dX0_findSwitch_0 ?_
  refine am_callVi (c_X0_isOn_18 ad M) okX0_isOn ml_X0_39 (by decide) rfl rfl rfl ⟨by decide, by decide⟩ (Nat.le_of_ble_eq_true rfl) rfl dX0_findSwitch_1 ?_
  refine am_ifb_eq (tgt := 23) (by decide) dX0_findSwitch_4 (fun h4 => ?_) (fun h4 => ?_)
  · refine am_aload_n rfl dX0_findSwitch_23 ?_
    refine am_geti (j := 3) (by decide) rfl rfl rfl hTX0 (by decide) fl_X0_20 dX0_findSwitch_24 ?_
    refine am_aload_n rfl dX0_findSwitch_27 ?_
    refine am_geti (j := 1) (by decide) rfl rfl rfl hTX0 (by decide) fl_X0_13 dX0_findSwitch_28 ?_
    refine am_isub dX0_findSwitch_31 ?_
    refine am_istore_n (by decide) dX0_findSwitch_32 ?_
    refine am_aload_n rfl dX0_findSwitch_33 ?_
    refine am_aload_n rfl dX0_findSwitch_34 ?_
    refine am_geti (j := 3) (by decide) rfl rfl rfl hTX0 (by decide) fl_X0_20 dX0_findSwitch_35 ?_
    refine am_puti (j := 1) (by decide) rfl rfl rfl hTX0 tyX0_ok nmX0 (by decide) fl_X0_13 rfl rfl rfl rfl dX0_findSwitch_38 ?_
    refine am_aload_n rfl dX0_findSwitch_41 ?_
    refine am_iconst (v := 0) (by decide) dX0_findSwitch_42 ?_
    refine am_puti (j := 0) (by decide) rfl rfl rfl hTX0 tyX0_ok nmX0 (by decide) fl_X0_7 rfl rfl rfl rfl dX0_findSwitch_43 ?_
    refine am_iload_n rfl dX0_findSwitch_46 ?_
    refine am_iret rfl dX0_findSwitch_47 ?_
    refine ⟨?_, rfl⟩
    simp_all [sp_made]
  · refine am_aload_n rfl dX0_findSwitch_7 ?_
    refine am_geti (j := 1) (by decide) rfl rfl rfl hTX0 (by decide) fl_X0_13 dX0_findSwitch_8 ?_
    refine am_aload_n rfl dX0_findSwitch_11 ?_
    refine am_geti (j := 3) (by decide) rfl rfl rfl hTX0 (by decide) fl_X0_20 dX0_findSwitch_12 ?_
    refine am_iconst (v := 1) (by decide) dX0_findSwitch_15 ?_
    refine am_isub dX0_findSwitch_16 ?_
    refine am_isub dX0_findSwitch_17 ?_
    refine am_iconst (v := 1) (by decide) dX0_findSwitch_18 ?_
    refine am_iadd dX0_findSwitch_19 ?_
    refine am_goto (tgt := 32) (by decide) dX0_findSwitch_20 ?_
    refine am_istore_n (by decide) dX0_findSwitch_32 ?_
    refine am_aload_n rfl dX0_findSwitch_33 ?_
    refine am_aload_n rfl dX0_findSwitch_34 ?_
    refine am_geti (j := 3) (by decide) rfl rfl rfl hTX0 (by decide) fl_X0_20 dX0_findSwitch_35 ?_
    refine am_puti (j := 1) (by decide) rfl rfl rfl hTX0 tyX0_ok nmX0 (by decide) fl_X0_13 rfl rfl rfl rfl dX0_findSwitch_38 ?_
    refine am_aload_n rfl dX0_findSwitch_41 ?_
    refine am_iconst (v := 0) (by decide) dX0_findSwitch_42 ?_
    refine am_puti (j := 0) (by decide) rfl rfl rfl hTX0 tyX0_ok nmX0 (by decide) fl_X0_7 rfl rfl rfl rfl dX0_findSwitch_43 ?_
    refine am_iload_n rfl dX0_findSwitch_46 ?_
    refine am_iret rfl dX0_findSwitch_47 ?_
    refine ⟨?_, rfl⟩
    simp_all [sp_made]

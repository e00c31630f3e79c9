def sp_okLim (M : am_M) (s c j : Int32) : Bool := !sp_goes M && sp_in s 1 12 && sp_in c 1 4 && sp_in j 1 4
def sp_okBad (M : am_M) (s : Int32) (b : Bool) : Bool := !sp_goes M && sp_in s 1 12 && (sp_bad M s != b)
def sp_okPull (M : am_M) (s p : Int32) : Bool := !sp_goes M && sp_in s 0 12 && sp_in p 0 1000
def sp_okLoad (M : am_M) (x y : Int32) : Bool := !sp_goes M && sp_in x 0 1000 && sp_in y 0 100
def sp_okOnly (M : am_M) (b : Bool) : Bool := !sp_goes M && !decide (M 1 7 = bI b)
def sp_stat (M : am_M) (w : Int32) : Int32 := if w = 0 then bI (sp_goes M) else if w = 1 then M 15 2 else if w = 2 then M 15 3 else if w = 3 then M 15 1 else if w = 4 then M 15 0 else if w = 5 then M 15 4 else if w = 6 then M 15 5 else if w = 7 then M 15 6 else if w = 8 then (if M 15 7 = 0 then 0 else 1) else -1
def sp_layN (M : am_M) (n l : Int32) : am_M := sp_lay M n.toInt.toNat l
def sp_okTab (n l : Int32) : Bool := decide (n = 1 ∨ n = 2 ∨ n = 4 ∨ n = 8) && sp_in l 1 100
def sp_okSet (M : am_M) (p a : Int32) : Bool := sp_in p 0 (M 19 0) && sp_in a 0 (M 19 1)
set_option maxRecDepth 100000 in
set_option maxHeartbeats 400000 in
theorem c_X6_limits (ad : Nat → Nat) (M : am_M) (v c j : Int32) : am_C ydX6_limits ad am_II [.ref (ad 0), .int v, .int c, .int j] M (am_is (bI (sp_okLim M v c j)) (if sp_okLim M v c j = true then sp_tLimits M v c j else M)) := by
  refine am_ofW (by decide +kernel) (by simp [Value.category]) (Nat.le_of_ble_eq_true rfl) rfl ?_
  refine am_aload_n rfl dX6_limits_0 ?_
  refine am_getr (j := 4) (by decide) rfl rfl rfl hTX6 (by decide) fl_X6_38 dX6_limits_1 ?_
  refine am_callVi (c_X2_goesOn ad M) okX2_goesOn ml_X6_62 (by decide) rfl rfl rfl ⟨by decide, by decide⟩ (Nat.le_of_ble_eq_true rfl) rfl dX6_limits_4 ?_
  refine am_ifb_ne (tgt := 38) (by decide) dX6_limits_7 (fun h7 => ?_) (fun h7 => ?_)
  · refine am_iconst (v := 0) (by decide) dX6_limits_38 ?_
    refine am_zret rfl (by first | exact am_nb _ | decide) dX6_limits_39 ?_
    refine am_isFc ?_ rfl
    simp_all [sp_okLim]
  · refine am_iload_n rfl dX6_limits_10 ?_
    refine am_iconst (v := 1) (by decide) dX6_limits_11 ?_
    refine am_bipush (v := 12) (by decide) dX6_limits_12 ?_
    refine am_callSi (c_X6_isWithin ad M _ _ _) okX6_isWithin ml_X6_66 rfl ⟨by decide, by decide⟩ (Nat.le_of_ble_eq_true rfl) rfl dX6_limits_14 ?_
    refine am_ifb_eq (tgt := 38) (by decide) dX6_limits_17 (fun h17 => ?_) (fun h17 => ?_)
    · refine am_iconst (v := 0) (by decide) dX6_limits_38 ?_
      refine am_zret rfl (by first | exact am_nb _ | decide) dX6_limits_39 ?_
      refine am_isFc ?_ rfl
      simp_all [sp_okLim]
    · refine am_iload_n rfl dX6_limits_20 ?_
      refine am_iconst (v := 1) (by decide) dX6_limits_21 ?_
      refine am_iconst (v := 4) (by decide) dX6_limits_22 ?_
      refine am_callSi (c_X6_isWithin ad M _ _ _) okX6_isWithin ml_X6_66 rfl ⟨by decide, by decide⟩ (Nat.le_of_ble_eq_true rfl) rfl dX6_limits_23 ?_
      refine am_ifb_eq (tgt := 38) (by decide) dX6_limits_26 (fun h26 => ?_) (fun h26 => ?_)
      · refine am_iconst (v := 0) (by decide) dX6_limits_38 ?_
        refine am_zret rfl (by first | exact am_nb _ | decide) dX6_limits_39 ?_
        refine am_isFc ?_ rfl
        simp_all [sp_okLim]
      · refine am_iload_n rfl dX6_limits_29 ?_
        refine am_iconst (v := 1) (by decide) dX6_limits_30 ?_
        refine am_iconst (v := 4) (by decide) dX6_limits_31 ?_
        refine am_callSi (c_X6_isWithin ad M _ _ _) okX6_isWithin ml_X6_66 rfl ⟨by decide, by decide⟩ (Nat.le_of_ble_eq_true rfl) rfl dX6_limits_32 ?_
        refine am_ifb_ne (tgt := 40) (by decide) dX6_limits_35 (fun h35 => ?_) (fun h35 => ?_)
        · refine am_aload_n rfl dX6_limits_40 ?_
          refine am_getr (j := 0) (by decide) rfl rfl rfl hTX6 (by decide) fl_X6_12 dX6_limits_41 ?_
          refine am_iload_n rfl dX6_limits_44 ?_
          refine am_iload_n rfl dX6_limits_45 ?_
          refine am_iload_n rfl dX6_limits_46 ?_
          refine am_callVv (c_X4_tellLimits ad M _ _ _) okX4_tellLimits ml_X6_70 (by decide) rfl rfl rfl ⟨by decide, by decide⟩ (Nat.le_of_ble_eq_true rfl) rfl dX6_limits_47 ?_
          refine am_iconst (v := 1) (by decide) dX6_limits_50 ?_
          refine am_zret rfl (by first | exact am_nb _ | decide) dX6_limits_51 ?_
          refine am_isTc ?_ rfl
          simp_all [sp_okLim]
        · refine am_iconst (v := 0) (by decide) dX6_limits_38 ?_
          refine am_zret rfl (by first | exact am_nb _ | decide) dX6_limits_39 ?_
          refine am_isFc ?_ rfl
          simp_all [sp_okLim]
set_option maxRecDepth 100000 in
set_option maxHeartbeats 400000 in
theorem c_X6_bad (ad : Nat → Nat) (M : am_M) (v : Int32) (b : Bool) : am_C ydX6_bad ad am_II [.ref (ad 0), .int v, .int (bI b)] M (am_is (bI (sp_okBad M v b)) (if sp_okBad M v b = true then sp_tBad M v b else M)) := by
  refine am_ofW (by decide +kernel) (by simp [Value.category]) (Nat.le_of_ble_eq_true rfl) rfl ?_
  refine am_aload_n rfl dX6_bad_0 ?_
  refine am_getr (j := 4) (by decide) rfl rfl rfl hTX6 (by decide) fl_X6_38 dX6_bad_1 ?_
  refine am_callVi (c_X2_goesOn ad M) okX2_goesOn ml_X6_62 (by decide) rfl rfl rfl ⟨by decide, by decide⟩ (Nat.le_of_ble_eq_true rfl) rfl dX6_bad_4 ?_
  refine am_ifb_ne (tgt := 32) (by decide) dX6_bad_7 (fun h7 => ?_) (fun h7 => ?_)
  · refine am_iconst (v := 0) (by decide) dX6_bad_32 ?_
    refine am_zret rfl (by first | exact am_nb _ | decide) dX6_bad_33 ?_
    refine am_isFc ?_ rfl
    simp_all [sp_okBad, bI_inj]
  · refine am_iload_n rfl dX6_bad_10 ?_
    refine am_iconst (v := 1) (by decide) dX6_bad_11 ?_
    refine am_bipush (v := 12) (by decide) dX6_bad_12 ?_
    refine am_callSi (c_X6_isWithin ad M _ _ _) okX6_isWithin ml_X6_66 rfl ⟨by decide, by decide⟩ (Nat.le_of_ble_eq_true rfl) rfl dX6_bad_14 ?_
    refine am_ifb_eq (tgt := 32) (by decide) dX6_bad_17 (fun h17 => ?_) (fun h17 => ?_)
    · refine am_iconst (v := 0) (by decide) dX6_bad_32 ?_
      refine am_zret rfl (by first | exact am_nb _ | decide) dX6_bad_33 ?_
      refine am_isFc ?_ rfl
      simp_all [sp_okBad, bI_inj]
    · refine am_aload_n rfl dX6_bad_20 ?_
      refine am_getr (j := 0) (by decide) rfl rfl rfl hTX6 (by decide) fl_X6_12 dX6_bad_21 ?_
      refine am_iload_n rfl dX6_bad_24 ?_
      refine am_callVi (c_X4_isBad ad M _) okX4_isBad ml_X6_74 (by decide) rfl rfl rfl ⟨by decide, by decide⟩ (Nat.le_of_ble_eq_true rfl) rfl dX6_bad_25 ?_
      refine am_iload_n rfl dX6_bad_28 ?_
      refine am_icmp_ne (tgt := 34) (by decide) dX6_bad_29 (fun h29 => ?_) (fun h29 => ?_)
      · refine am_aload_n rfl dX6_bad_34 ?_
        refine am_getr (j := 0) (by decide) rfl rfl rfl hTX6 (by decide) fl_X6_12 dX6_bad_35 ?_
        refine am_iload_n rfl dX6_bad_38 ?_
        refine am_iload_n rfl dX6_bad_39 ?_
        refine am_callVv (c_X4_tellBad ad M _ _) okX4_tellBad ml_X6_78 (by decide) rfl rfl rfl ⟨by decide, by decide⟩ (Nat.le_of_ble_eq_true rfl) rfl dX6_bad_40 ?_
        refine am_iconst (v := 1) (by decide) dX6_bad_43 ?_
        refine am_zret rfl (by first | exact am_nb _ | decide) dX6_bad_44 ?_
        refine am_isTc ?_ rfl
        simp_all [sp_okBad, bI_inj]
      · refine am_iconst (v := 0) (by decide) dX6_bad_32 ?_
        refine am_zret rfl (by first | exact am_nb _ | decide) dX6_bad_33 ?_
        refine am_isFc ?_ rfl
        simp_all [sp_okBad, bI_inj]
set_option maxRecDepth 100000 in
set_option maxHeartbeats 400000 in
theorem c_X6_pull (ad : Nat → Nat) (M : am_M) (v p : Int32) : am_C ydX6_pull ad am_II [.ref (ad 0), .int v, .int p] M (am_is (bI (sp_okPull M v p)) (if sp_okPull M v p = true then sp_tPull M v p else M)) := by
  refine am_ofW (by decide +kernel) (by simp [Value.category]) (Nat.le_of_ble_eq_true rfl) rfl ?_
  refine am_aload_n rfl dX6_pull_0 ?_
  refine am_getr (j := 4) (by decide) rfl rfl rfl hTX6 (by decide) fl_X6_38 dX6_pull_1 ?_
  refine am_callVi (c_X2_goesOn ad M) okX2_goesOn ml_X6_62 (by decide) rfl rfl rfl ⟨by decide, by decide⟩ (Nat.le_of_ble_eq_true rfl) rfl dX6_pull_4 ?_
  refine am_ifb_ne (tgt := 31) (by decide) dX6_pull_7 (fun h7 => ?_) (fun h7 => ?_)
  · refine am_iconst (v := 0) (by decide) dX6_pull_31 ?_
    refine am_zret rfl (by first | exact am_nb _ | decide) dX6_pull_32 ?_
    refine am_isFc ?_ rfl
    simp_all [sp_okPull]
  · refine am_iload_n rfl dX6_pull_10 ?_
    refine am_iconst (v := 0) (by decide) dX6_pull_11 ?_
    refine am_bipush (v := 12) (by decide) dX6_pull_12 ?_
    refine am_callSi (c_X6_isWithin ad M _ _ _) okX6_isWithin ml_X6_66 rfl ⟨by decide, by decide⟩ (Nat.le_of_ble_eq_true rfl) rfl dX6_pull_14 ?_
    refine am_ifb_eq (tgt := 31) (by decide) dX6_pull_17 (fun h17 => ?_) (fun h17 => ?_)
    · refine am_iconst (v := 0) (by decide) dX6_pull_31 ?_
      refine am_zret rfl (by first | exact am_nb _ | decide) dX6_pull_32 ?_
      refine am_isFc ?_ rfl
      simp_all [sp_okPull]
    · refine am_iload_n rfl dX6_pull_20 ?_
      refine am_iconst (v := 0) (by decide) dX6_pull_21 ?_
      refine am_sipush (v := 1000) (by decide) dX6_pull_22 ?_
      refine am_callSi (c_X6_isWithin ad M _ _ _) okX6_isWithin ml_X6_66 rfl ⟨by decide, by decide⟩ (Nat.le_of_ble_eq_true rfl) rfl dX6_pull_25 ?_
      refine am_ifb_ne (tgt := 33) (by decide) dX6_pull_28 (fun h28 => ?_) (fun h28 => ?_)
      · refine am_aload_n rfl dX6_pull_33 ?_
        refine am_getr (j := 0) (by decide) rfl rfl rfl hTX6 (by decide) fl_X6_12 dX6_pull_34 ?_
        refine am_iload_n rfl dX6_pull_37 ?_
        refine am_iload_n rfl dX6_pull_38 ?_
        refine am_callVv (c_X4_tellPull ad M _ _) okX4_tellPull ml_X6_82 (by decide) rfl rfl rfl ⟨by decide, by decide⟩ (Nat.le_of_ble_eq_true rfl) rfl dX6_pull_39 ?_
        refine am_iconst (v := 1) (by decide) dX6_pull_42 ?_
        refine am_zret rfl (by first | exact am_nb _ | decide) dX6_pull_43 ?_
        refine am_isTc ?_ rfl
        simp_all [sp_okPull]
      · refine am_iconst (v := 0) (by decide) dX6_pull_31 ?_
        refine am_zret rfl (by first | exact am_nb _ | decide) dX6_pull_32 ?_
        refine am_isFc ?_ rfl
        simp_all [sp_okPull]
set_option maxRecDepth 100000 in
set_option maxHeartbeats 400000 in
theorem c_X6_load (ad : Nat → Nat) (M : am_M) (x y : Int32) : am_C ydX6_load ad am_II [.ref (ad 0), .int x, .int y] M (am_is (bI (sp_okLoad M x y)) (if sp_okLoad M x y = true then sp_tLoad M x y else M)) := by
  refine am_ofW (by decide +kernel) (by simp [Value.category]) (Nat.le_of_ble_eq_true rfl) rfl ?_
  refine am_aload_n rfl dX6_load_0 ?_
  refine am_getr (j := 4) (by decide) rfl rfl rfl hTX6 (by decide) fl_X6_38 dX6_load_1 ?_
  refine am_callVi (c_X2_goesOn ad M) okX2_goesOn ml_X6_62 (by decide) rfl rfl rfl ⟨by decide, by decide⟩ (Nat.le_of_ble_eq_true rfl) rfl dX6_load_4 ?_
  refine am_ifb_ne (tgt := 31) (by decide) dX6_load_7 (fun h7 => ?_) (fun h7 => ?_)
  · refine am_iconst (v := 0) (by decide) dX6_load_31 ?_
    refine am_zret rfl (by first | exact am_nb _ | decide) dX6_load_32 ?_
    refine am_isFc ?_ rfl
    simp_all [sp_okLoad]
  · refine am_iload_n rfl dX6_load_10 ?_
    refine am_iconst (v := 0) (by decide) dX6_load_11 ?_
    refine am_sipush (v := 1000) (by decide) dX6_load_12 ?_
    refine am_callSi (c_X6_isWithin ad M _ _ _) okX6_isWithin ml_X6_66 rfl ⟨by decide, by decide⟩ (Nat.le_of_ble_eq_true rfl) rfl dX6_load_15 ?_
    refine am_ifb_eq (tgt := 31) (by decide) dX6_load_18 (fun h18 => ?_) (fun h18 => ?_)
    · refine am_iconst (v := 0) (by decide) dX6_load_31 ?_
      refine am_zret rfl (by first | exact am_nb _ | decide) dX6_load_32 ?_
      refine am_isFc ?_ rfl
      simp_all [sp_okLoad]
    · refine am_iload_n rfl dX6_load_21 ?_
      refine am_iconst (v := 0) (by decide) dX6_load_22 ?_
      refine am_bipush (v := 100) (by decide) dX6_load_23 ?_
      refine am_callSi (c_X6_isWithin ad M _ _ _) okX6_isWithin ml_X6_66 rfl ⟨by decide, by decide⟩ (Nat.le_of_ble_eq_true rfl) rfl dX6_load_25 ?_
      refine am_ifb_ne (tgt := 33) (by decide) dX6_load_28 (fun h28 => ?_) (fun h28 => ?_)
      · refine am_aload_n rfl dX6_load_33 ?_
        refine am_getr (j := 0) (by decide) rfl rfl rfl hTX6 (by decide) fl_X6_12 dX6_load_34 ?_
        refine am_iload_n rfl dX6_load_37 ?_
        refine am_iload_n rfl dX6_load_38 ?_
        refine am_callVv (c_X4_tellLoad ad M _ _) okX4_tellLoad ml_X6_86 (by decide) rfl rfl rfl ⟨by decide, by decide⟩ (Nat.le_of_ble_eq_true rfl) rfl dX6_load_39 ?_
        refine am_iconst (v := 1) (by decide) dX6_load_42 ?_
        refine am_zret rfl (by first | exact am_nb _ | decide) dX6_load_43 ?_
        refine am_isTc ?_ rfl
        simp_all [sp_okLoad]
      · refine am_iconst (v := 0) (by decide) dX6_load_31 ?_
        refine am_zret rfl (by first | exact am_nb _ | decide) dX6_load_32 ?_
        refine am_isFc ?_ rfl
        simp_all [sp_okLoad]
set_option maxRecDepth 100000 in
set_option maxHeartbeats 400000 in
theorem c_X6_only (ad : Nat → Nat) (M : am_M) (b : Bool) : am_C ydX6_only ad am_II [.ref (ad 0), .int (bI b)] M (am_is (bI (sp_okOnly M b)) (if sp_okOnly M b = true then sp_tOnly M b else M)) := by
  refine am_ofW (by decide +kernel) (by simp [Value.category]) (Nat.le_of_ble_eq_true rfl) rfl ?_
  refine am_aload_n rfl dX6_only_0 ?_
  refine am_getr (j := 4) (by decide) rfl rfl rfl hTX6 (by decide) fl_X6_38 dX6_only_1 ?_
  refine am_callVi (c_X2_goesOn ad M) okX2_goesOn ml_X6_62 (by decide) rfl rfl rfl ⟨by decide, by decide⟩ (Nat.le_of_ble_eq_true rfl) rfl dX6_only_4 ?_
  refine am_ifb_ne (tgt := 21) (by decide) dX6_only_7 (fun h7 => ?_) (fun h7 => ?_)
  · refine am_iconst (v := 0) (by decide) dX6_only_21 ?_
    refine am_zret rfl (by first | exact am_nb _ | decide) dX6_only_22 ?_
    refine am_isFc ?_ rfl
    simp_all [sp_okOnly]
  · refine am_aload_n rfl dX6_only_10 ?_
    refine am_getr (j := 0) (by decide) rfl rfl rfl hTX6 (by decide) fl_X6_12 dX6_only_11 ?_
    refine am_geti (j := 7) (by decide) rfl rfl rfl hTX4 (by decide) fl_X6_89 dX6_only_14 ?_
    refine am_iload_n rfl dX6_only_17 ?_
    refine am_icmp_ne (tgt := 23) (by decide) dX6_only_18 (fun h18 => ?_) (fun h18 => ?_)
    · refine am_aload_n rfl dX6_only_23 ?_
      refine am_getr (j := 0) (by decide) rfl rfl rfl hTX6 (by decide) fl_X6_12 dX6_only_24 ?_
      refine am_iload_n rfl dX6_only_27 ?_
      refine am_callVv (c_X4_tellOnlySafe ad M _) okX4_tellOnlySafe ml_X6_93 (by decide) rfl rfl rfl ⟨by decide, by decide⟩ (Nat.le_of_ble_eq_true rfl) rfl dX6_only_28 ?_
      refine am_iconst (v := 1) (by decide) dX6_only_31 ?_
      refine am_zret rfl (by first | exact am_nb _ | decide) dX6_only_32 ?_
      refine am_isTc ?_ rfl
      simp_all [sp_okOnly]
    · refine am_iconst (v := 0) (by decide) dX6_only_21 ?_
      refine am_zret rfl (by first | exact am_nb _ | decide) dX6_only_22 ?_
      refine am_isFc ?_ rfl
      simp_all [sp_okOnly]
set_option maxRecDepth 100000 in
set_option maxHeartbeats 400000 in
theorem c_X6_state (ad : Nat → Nat) (M : am_M) (w : Int32) : am_C ydX6_state ad am_II [.ref (ad 0), .int w] M (am_is (sp_stat M w) M) := by
  refine am_ofW (by decide +kernel) (by simp [Value.category]) (Nat.le_of_ble_eq_true rfl) rfl ?_
  refine am_iload_n rfl dX6_state_0 ?_
  by_cases h1o : (w).toInt < 0 ∨ 8 < (w).toInt
  · refine am_tabOut (tgt := 140) h1o (by decide) dX6_state_1 ?_
    refine am_iconst (v := (-1)) (by decide) dX6_state_140 ?_
    refine am_iret rfl dX6_state_141 ?_
    refine am_isE ?_
    unfold sp_stat
    first | (rw [h1c]; rfl) | (simp [h1c, h59, bI]; done) | (rw [h1c]; simp_all [bI]; done) | (simp [h1c, h131]; done) | (rw [if_neg (fun e => by rw [e] at h1o; revert h1o; decide), if_neg (fun e => by rw [e] at h1o; revert h1o; decide), if_neg (fun e => by rw [e] at h1o; revert h1o; decide), if_neg (fun e => by rw [e] at h1o; revert h1o; decide), if_neg (fun e => by rw [e] at h1o; revert h1o; decide), if_neg (fun e => by rw [e] at h1o; revert h1o; decide), if_neg (fun e => by rw [e] at h1o; revert h1o; decide), if_neg (fun e => by rw [e] at h1o; revert h1o; decide), if_neg (fun e => by rw [e] at h1o; revert h1o; decide)])
  · have h1a : 0 ≤ (w).toInt ∧ (w).toInt ≤ 8 := by omega
    have h1d : (w) = 0 ∨ (w) = 1 ∨ (w) = 2 ∨ (w) = 3 ∨ (w) = 4 ∨ (w) = 5 ∨ (w) = 6 ∨ (w) = 7 ∨ (w) = 8 := by
      simp only [← Int32.toInt_inj]
      have e9 : ((0 : Int32).toInt = 0) ∧ ((1 : Int32).toInt = 1) ∧ ((2 : Int32).toInt = 2) ∧ ((3 : Int32).toInt = 3) ∧ ((4 : Int32).toInt = 4) ∧ ((5 : Int32).toInt = 5) ∧ ((6 : Int32).toInt = 6) ∧ ((7 : Int32).toInt = 7) ∧ ((8 : Int32).toInt = 8) := by decide
      omega
    rcases h1d with h1c | h1c | h1c | h1c | h1c | h1c | h1c | h1c | h1c
    · refine am_tabIn (off := 51) (tgt := 52) (by rw [h1c]; decide) (by rw [h1c]; decide) (by rw [h1c]; rfl) (by decide) dX6_state_1 ?_
      refine am_aload_n rfl dX6_state_52 ?_
      refine am_getr (j := 4) (by decide) rfl rfl rfl hTX6 (by decide) fl_X6_38 dX6_state_53 ?_
      refine am_callVi (c_X2_goesOn ad M) okX2_goesOn ml_X6_62 (by decide) rfl rfl rfl ⟨by decide, by decide⟩ (Nat.le_of_ble_eq_true rfl) rfl dX6_state_56 ?_
      refine am_ifb_eq (tgt := 66) (by decide) dX6_state_59 (fun h59 => ?_) (fun h59 => ?_)
      · refine am_iconst (v := 0) (by decide) dX6_state_66 ?_
        refine am_iret rfl dX6_state_67 ?_
        refine am_isE ?_
        unfold sp_stat
        first | (rw [h1c]; rfl) | (simp [h1c, h59, bI]; done) | (rw [h1c]; simp_all [bI]; done) | (simp [h1c, h131]; done) | (rw [if_neg (fun e => by rw [e] at h1o; revert h1o; decide), if_neg (fun e => by rw [e] at h1o; revert h1o; decide), if_neg (fun e => by rw [e] at h1o; revert h1o; decide), if_neg (fun e => by rw [e] at h1o; revert h1o; decide), if_neg (fun e => by rw [e] at h1o; revert h1o; decide), if_neg (fun e => by rw [e] at h1o; revert h1o; decide), if_neg (fun e => by rw [e] at h1o; revert h1o; decide), if_neg (fun e => by rw [e] at h1o; revert h1o; decide), if_neg (fun e => by rw [e] at h1o; revert h1o; decide)])
      · refine am_iconst (v := 1) (by decide) dX6_state_62 ?_
        refine am_goto (tgt := 67) (by decide) dX6_state_63 ?_
        refine am_iret rfl dX6_state_67 ?_
        refine am_isE ?_
        unfold sp_stat
        first | (rw [h1c]; rfl) | (simp [h1c, h59, bI]; done) | (rw [h1c]; simp_all [bI]; done) | (simp [h1c, h131]; done) | (rw [if_neg (fun e => by rw [e] at h1o; revert h1o; decide), if_neg (fun e => by rw [e] at h1o; revert h1o; decide), if_neg (fun e => by rw [e] at h1o; revert h1o; decide), if_neg (fun e => by rw [e] at h1o; revert h1o; decide), if_neg (fun e => by rw [e] at h1o; revert h1o; decide), if_neg (fun e => by rw [e] at h1o; revert h1o; decide), if_neg (fun e => by rw [e] at h1o; revert h1o; decide), if_neg (fun e => by rw [e] at h1o; revert h1o; decide), if_neg (fun e => by rw [e] at h1o; revert h1o; decide)])
    · refine am_tabIn (off := 67) (tgt := 68) (by rw [h1c]; decide) (by rw [h1c]; decide) (by rw [h1c]; rfl) (by decide) dX6_state_1 ?_
      refine am_aload_n rfl dX6_state_68 ?_
      refine am_getr (j := 4) (by decide) rfl rfl rfl hTX6 (by decide) fl_X6_38 dX6_state_69 ?_
      refine am_geti (j := 2) (by decide) rfl rfl rfl hTX2 (by decide) fl_X6_146 dX6_state_72 ?_
      refine am_iret rfl dX6_state_75 ?_
      refine am_isE ?_
      unfold sp_stat
      first | (rw [h1c]; rfl) | (simp [h1c, h59, bI]; done) | (rw [h1c]; simp_all [bI]; done) | (simp [h1c, h131]; done) | (rw [if_neg (fun e => by rw [e] at h1o; revert h1o; decide), if_neg (fun e => by rw [e] at h1o; revert h1o; decide), if_neg (fun e => by rw [e] at h1o; revert h1o; decide), if_neg (fun e => by rw [e] at h1o; revert h1o; decide), if_neg (fun e => by rw [e] at h1o; revert h1o; decide), if_neg (fun e => by rw [e] at h1o; revert h1o; decide), if_neg (fun e => by rw [e] at h1o; revert h1o; decide), if_neg (fun e => by rw [e] at h1o; revert h1o; decide), if_neg (fun e => by rw [e] at h1o; revert h1o; decide)])
    · refine am_tabIn (off := 75) (tgt := 76) (by rw [h1c]; decide) (by rw [h1c]; decide) (by rw [h1c]; rfl) (by decide) dX6_state_1 ?_
      refine am_aload_n rfl dX6_state_76 ?_
      refine am_getr (j := 4) (by decide) rfl rfl rfl hTX6 (by decide) fl_X6_38 dX6_state_77 ?_
      refine am_geti (j := 3) (by decide) rfl rfl rfl hTX2 (by decide) fl_X6_150 dX6_state_80 ?_
      refine am_iret rfl dX6_state_83 ?_
      refine am_isE ?_
      unfold sp_stat
      first | (rw [h1c]; rfl) | (simp [h1c, h59, bI]; done) | (rw [h1c]; simp_all [bI]; done) | (simp [h1c, h131]; done) | (rw [if_neg (fun e => by rw [e] at h1o; revert h1o; decide), if_neg (fun e => by rw [e] at h1o; revert h1o; decide), if_neg (fun e => by rw [e] at h1o; revert h1o; decide), if_neg (fun e => by rw [e] at h1o; revert h1o; decide), if_neg (fun e => by rw [e] at h1o; revert h1o; decide), if_neg (fun e => by rw [e] at h1o; revert h1o; decide), if_neg (fun e => by rw [e] at h1o; revert h1o; decide), if_neg (fun e => by rw [e] at h1o; revert h1o; decide), if_neg (fun e => by rw [e] at h1o; revert h1o; decide)])
    · refine am_tabIn (off := 83) (tgt := 84) (by rw [h1c]; decide) (by rw [h1c]; decide) (by rw [h1c]; rfl) (by decide) dX6_state_1 ?_
      refine am_aload_n rfl dX6_state_84 ?_
      refine am_getr (j := 4) (by decide) rfl rfl rfl hTX6 (by decide) fl_X6_38 dX6_state_85 ?_
      refine am_geti (j := 1) (by decide) rfl rfl rfl hTX2 (by decide) fl_X6_169 dX6_state_88 ?_
      refine am_iret rfl dX6_state_91 ?_
      refine am_isE ?_
      unfold sp_stat
      first | (rw [h1c]; rfl) | (simp [h1c, h59, bI]; done) | (rw [h1c]; simp_all [bI]; done) | (simp [h1c, h131]; done) | (rw [if_neg (fun e => by rw [e] at h1o; revert h1o; decide), if_neg (fun e => by rw [e] at h1o; revert h1o; decide), if_neg (fun e => by rw [e] at h1o; revert h1o; decide), if_neg (fun e => by rw [e] at h1o; revert h1o; decide), if_neg (fun e => by rw [e] at h1o; revert h1o; decide), if_neg (fun e => by rw [e] at h1o; revert h1o; decide), if_neg (fun e => by rw [e] at h1o; revert h1o; decide), if_neg (fun e => by rw [e] at h1o; revert h1o; decide), if_neg (fun e => by rw [e] at h1o; revert h1o; decide)])
    · refine am_tabIn (off := 91) (tgt := 92) (by rw [h1c]; decide) (by rw [h1c]; decide) (by rw [h1c]; rfl) (by decide) dX6_state_1 ?_
      refine am_aload_n rfl dX6_state_92 ?_
      refine am_getr (j := 4) (by decide) rfl rfl rfl hTX6 (by decide) fl_X6_38 dX6_state_93 ?_
      refine am_geti (j := 0) (by decide) rfl rfl rfl hTX2 (by decide) fl_X6_172 dX6_state_96 ?_
      refine am_iret rfl dX6_state_99 ?_
      refine am_isE ?_
      unfold sp_stat
      first | (rw [h1c]; rfl) | (simp [h1c, h59, bI]; done) | (rw [h1c]; simp_all [bI]; done) | (simp [h1c, h131]; done) | (rw [if_neg (fun e => by rw [e] at h1o; revert h1o; decide), if_neg (fun e => by rw [e] at h1o; revert h1o; decide), if_neg (fun e => by rw [e] at h1o; revert h1o; decide), if_neg (fun e => by rw [e] at h1o; revert h1o; decide), if_neg (fun e => by rw [e] at h1o; revert h1o; decide), if_neg (fun e => by rw [e] at h1o; revert h1o; decide), if_neg (fun e => by rw [e] at h1o; revert h1o; decide), if_neg (fun e => by rw [e] at h1o; revert h1o; decide), if_neg (fun e => by rw [e] at h1o; revert h1o; decide)])
    · refine am_tabIn (off := 99) (tgt := 100) (by rw [h1c]; decide) (by rw [h1c]; decide) (by rw [h1c]; rfl) (by decide) dX6_state_1 ?_
      refine am_aload_n rfl dX6_state_100 ?_
      refine am_getr (j := 4) (by decide) rfl rfl rfl hTX6 (by decide) fl_X6_38 dX6_state_101 ?_
      refine am_geti (j := 4) (by decide) rfl rfl rfl hTX2 (by decide) fl_X6_175 dX6_state_104 ?_
      refine am_iret rfl dX6_state_107 ?_
      refine am_isE ?_
      unfold sp_stat
      first | (rw [h1c]; rfl) | (simp [h1c, h59, bI]; done) | (rw [h1c]; simp_all [bI]; done) | (simp [h1c, h131]; done) | (rw [if_neg (fun e => by rw [e] at h1o; revert h1o; decide), if_neg (fun e => by rw [e] at h1o; revert h1o; decide), if_neg (fun e => by rw [e] at h1o; revert h1o; decide), if_neg (fun e => by rw [e] at h1o; revert h1o; decide), if_neg (fun e => by rw [e] at h1o; revert h1o; decide), if_neg (fun e => by rw [e] at h1o; revert h1o; decide), if_neg (fun e => by rw [e] at h1o; revert h1o; decide), if_neg (fun e => by rw [e] at h1o; revert h1o; decide), if_neg (fun e => by rw [e] at h1o; revert h1o; decide)])
    · refine am_tabIn (off := 107) (tgt := 108) (by rw [h1c]; decide) (by rw [h1c]; decide) (by rw [h1c]; rfl) (by decide) dX6_state_1 ?_
      refine am_aload_n rfl dX6_state_108 ?_
      refine am_getr (j := 4) (by decide) rfl rfl rfl hTX6 (by decide) fl_X6_38 dX6_state_109 ?_
      refine am_geti (j := 5) (by decide) rfl rfl rfl hTX2 (by decide) fl_X6_178 dX6_state_112 ?_
      refine am_iret rfl dX6_state_115 ?_
      refine am_isE ?_
      unfold sp_stat
      first | (rw [h1c]; rfl) | (simp [h1c, h59, bI]; done) | (rw [h1c]; simp_all [bI]; done) | (simp [h1c, h131]; done) | (rw [if_neg (fun e => by rw [e] at h1o; revert h1o; decide), if_neg (fun e => by rw [e] at h1o; revert h1o; decide), if_neg (fun e => by rw [e] at h1o; revert h1o; decide), if_neg (fun e => by rw [e] at h1o; revert h1o; decide), if_neg (fun e => by rw [e] at h1o; revert h1o; decide), if_neg (fun e => by rw [e] at h1o; revert h1o; decide), if_neg (fun e => by rw [e] at h1o; revert h1o; decide), if_neg (fun e => by rw [e] at h1o; revert h1o; decide), if_neg (fun e => by rw [e] at h1o; revert h1o; decide)])
    · refine am_tabIn (off := 115) (tgt := 116) (by rw [h1c]; decide) (by rw [h1c]; decide) (by rw [h1c]; rfl) (by decide) dX6_state_1 ?_
      refine am_aload_n rfl dX6_state_116 ?_
      refine am_getr (j := 4) (by decide) rfl rfl rfl hTX6 (by decide) fl_X6_38 dX6_state_117 ?_
      refine am_geti (j := 6) (by decide) rfl rfl rfl hTX2 (by decide) fl_X6_181 dX6_state_120 ?_
      refine am_iret rfl dX6_state_123 ?_
      refine am_isE ?_
      unfold sp_stat
      first | (rw [h1c]; rfl) | (simp [h1c, h59, bI]; done) | (rw [h1c]; simp_all [bI]; done) | (simp [h1c, h131]; done) | (rw [if_neg (fun e => by rw [e] at h1o; revert h1o; decide), if_neg (fun e => by rw [e] at h1o; revert h1o; decide), if_neg (fun e => by rw [e] at h1o; revert h1o; decide), if_neg (fun e => by rw [e] at h1o; revert h1o; decide), if_neg (fun e => by rw [e] at h1o; revert h1o; decide), if_neg (fun e => by rw [e] at h1o; revert h1o; decide), if_neg (fun e => by rw [e] at h1o; revert h1o; decide), if_neg (fun e => by rw [e] at h1o; revert h1o; decide), if_neg (fun e => by rw [e] at h1o; revert h1o; decide)])
    · refine am_tabIn (off := 123) (tgt := 124) (by rw [h1c]; decide) (by rw [h1c]; decide) (by rw [h1c]; rfl) (by decide) dX6_state_1 ?_
      refine am_aload_n rfl dX6_state_124 ?_
      refine am_getr (j := 4) (by decide) rfl rfl rfl hTX6 (by decide) fl_X6_38 dX6_state_125 ?_
      refine am_geti (j := 7) (by decide) rfl rfl rfl hTX2 (by decide) fl_X6_143 dX6_state_128 ?_
      refine am_if_eq (tgt := 138) (by decide) dX6_state_131 (fun h131 => ?_) (fun h131 => ?_)
      · refine am_iconst (v := 0) (by decide) dX6_state_138 ?_
        refine am_iret rfl dX6_state_139 ?_
        refine am_isE ?_
        unfold sp_stat
        first | (rw [h1c]; rfl) | (simp [h1c, h59, bI]; done) | (rw [h1c]; simp_all [bI]; done) | (simp [h1c, h131]; done) | (rw [if_neg (fun e => by rw [e] at h1o; revert h1o; decide), if_neg (fun e => by rw [e] at h1o; revert h1o; decide), if_neg (fun e => by rw [e] at h1o; revert h1o; decide), if_neg (fun e => by rw [e] at h1o; revert h1o; decide), if_neg (fun e => by rw [e] at h1o; revert h1o; decide), if_neg (fun e => by rw [e] at h1o; revert h1o; decide), if_neg (fun e => by rw [e] at h1o; revert h1o; decide), if_neg (fun e => by rw [e] at h1o; revert h1o; decide), if_neg (fun e => by rw [e] at h1o; revert h1o; decide)])
      · refine am_iconst (v := 1) (by decide) dX6_state_134 ?_
        refine am_goto (tgt := 139) (by decide) dX6_state_135 ?_
        refine am_iret rfl dX6_state_139 ?_
        refine am_isE ?_
        unfold sp_stat
        first | (rw [h1c]; rfl) | (simp [h1c, h59, bI]; done) | (rw [h1c]; simp_all [bI]; done) | (simp [h1c, h131]; done) | (rw [if_neg (fun e => by rw [e] at h1o; revert h1o; decide), if_neg (fun e => by rw [e] at h1o; revert h1o; decide), if_neg (fun e => by rw [e] at h1o; revert h1o; decide), if_neg (fun e => by rw [e] at h1o; revert h1o; decide), if_neg (fun e => by rw [e] at h1o; revert h1o; decide), if_neg (fun e => by rw [e] at h1o; revert h1o; decide), if_neg (fun e => by rw [e] at h1o; revert h1o; decide), if_neg (fun e => by rw [e] at h1o; revert h1o; decide), if_neg (fun e => by rw [e] at h1o; revert h1o; decide)])
set_option maxRecDepth 100000 in
set_option maxHeartbeats 400000 in
theorem c_X6_axisOf_16 (ad : Nat → Nat) (M : am_M)  : am_C ydX6_axisOf ad am_II [.ref (ad 0), .int 0] M (fun r N => r = some (.ref (ad 16)) ∧ M = N) := by
  refine am_ofW (by decide +kernel) (by simp [Value.category]) (Nat.le_of_ble_eq_true rfl) rfl ?_
  refine am_iload_n rfl dX6_axisOf_0 ?_
  refine am_tabIn (off := 27) (tgt := 28) (by decide) (by decide) rfl (by decide) dX6_axisOf_1 ?_
  refine am_aload_n rfl dX6_axisOf_28 ?_
  refine am_getr (j := 5) (by decide) rfl rfl rfl hTX6 (by decide) fl_X6_45 dX6_axisOf_29 ?_
  refine am_aret rfl (Or.inr ⟨_, rfl⟩) dX6_axisOf_32 ?_
  exact ⟨rfl, rfl⟩
set_option maxRecDepth 100000 in
set_option maxHeartbeats 400000 in
theorem c_X6_axisOf_17 (ad : Nat → Nat) (M : am_M)  : am_C ydX6_axisOf ad am_II [.ref (ad 0), .int 1] M (fun r N => r = some (.ref (ad 17)) ∧ M = N) := by
  refine am_ofW (by decide +kernel) (by simp [Value.category]) (Nat.le_of_ble_eq_true rfl) rfl ?_
  refine am_iload_n rfl dX6_axisOf_0 ?_
  refine am_tabIn (off := 32) (tgt := 33) (by decide) (by decide) rfl (by decide) dX6_axisOf_1 ?_
  refine am_aload_n rfl dX6_axisOf_33 ?_
  refine am_getr (j := 6) (by decide) rfl rfl rfl hTX6 (by decide) fl_X6_49 dX6_axisOf_34 ?_
  refine am_aret rfl (Or.inr ⟨_, rfl⟩) dX6_axisOf_37 ?_
  exact ⟨rfl, rfl⟩
set_option maxRecDepth 100000 in
set_option maxHeartbeats 400000 in
theorem c_X6_axisOf_18 (ad : Nat → Nat) (M : am_M)  : am_C ydX6_axisOf ad am_II [.ref (ad 0), .int 2] M (fun r N => r = some (.ref (ad 18)) ∧ M = N) := by
  refine am_ofW (by decide +kernel) (by simp [Value.category]) (Nat.le_of_ble_eq_true rfl) rfl ?_
  refine am_iload_n rfl dX6_axisOf_0 ?_
  refine am_tabIn (off := 37) (tgt := 38) (by decide) (by decide) rfl (by decide) dX6_axisOf_1 ?_
  refine am_aload_n rfl dX6_axisOf_38 ?_
  refine am_getr (j := 7) (by decide) rfl rfl rfl hTX6 (by decide) fl_X6_52 dX6_axisOf_39 ?_
  refine am_aret rfl (Or.inr ⟨_, rfl⟩) dX6_axisOf_42 ?_
  exact ⟨rfl, rfl⟩
def sp_noax (x : Int32) : Prop := x.toInt < 0 ∨ 2 < x.toInt
set_option maxRecDepth 100000 in
set_option maxHeartbeats 400000 in
theorem c_X6_axisOf_N (ad : Nat → Nat) (M : am_M) (x : Int32) (hx : sp_noax x) : am_C ydX6_axisOf ad am_II [.ref (ad 0), .int x] M (fun r N => r = some .null ∧ M = N) := by
  refine am_ofW (by decide +kernel) (by simp [Value.category]) (Nat.le_of_ble_eq_true rfl) rfl ?_
  refine am_iload_n rfl dX6_axisOf_0 ?_
  refine am_tabOut (tgt := 43) hx (by decide) dX6_axisOf_1 ?_
  refine am_null dX6_axisOf_43 ?_
  refine am_aret rfl (Or.inl rfl) dX6_axisOf_44 ?_
  exact ⟨rfl, rfl⟩
set_option maxRecDepth 100000 in
set_option maxHeartbeats 400000 in
theorem c_X6_at_16 (ad : Nat → Nat) (M : am_M) (s : Int32) : am_C ydX6_at ad am_II [.ref (ad 0), .int 0, .int s] M (am_is (bI (sp_in s (-2000) 2000)) (if sp_in s (-2000) 2000 = true then sp_putSw M 16 s else M)) := by
  refine am_ofW (by decide +kernel) (by simp [Value.category]) (Nat.le_of_ble_eq_true rfl) rfl ?_
  refine am_aload_n rfl dX6_at_0 ?_
  refine am_iload_n rfl dX6_at_1 ?_
  refine am_callV (c_X6_axisOf_16 ad M) okX6_axisOf ml_X6_156 (by decide) rfl rfl rfl ⟨by decide, by decide⟩ (Nat.le_of_ble_eq_true rfl) rfl dX6_at_2 (fun r2 N2 p2 => ?_)
  obtain ⟨rfl, rfl⟩ := p2
  refine am_astore_n (by decide) dX6_at_5 ?_
  refine am_aload_n rfl dX6_at_6 ?_
  refine am_ifnull dX6_at_7 ?_
  refine am_iload_n rfl dX6_at_10 ?_
  refine am_sipush (v := (-2000)) (by decide) dX6_at_11 ?_
  refine am_sipush (v := 2000) (by decide) dX6_at_14 ?_
  refine am_callSi (c_X6_isWithin ad M _ _ _) okX6_isWithin ml_X6_66 rfl ⟨by decide, by decide⟩ (Nat.le_of_ble_eq_true rfl) rfl dX6_at_17 ?_
  refine am_ifb_ne (tgt := 25) (by decide) dX6_at_20 (fun h20 => ?_) (fun h20 => ?_)
  · refine am_aload_n rfl dX6_at_25 ?_
    refine am_iload_n rfl dX6_at_26 ?_
    refine am_callVv (c_X0_putSwitch_16 ad M _) okX0_putSwitch ml_X6_184 (by decide) rfl rfl rfl ⟨by decide, by decide⟩ (Nat.le_of_ble_eq_true rfl) rfl dX6_at_27 ?_
    refine am_iconst (v := 1) (by decide) dX6_at_30 ?_
    refine am_zret rfl (by first | exact am_nb _ | decide) dX6_at_31 ?_
    refine am_isTc ?_ rfl
    simp_all [bI]
  · refine am_iconst (v := 0) (by decide) dX6_at_23 ?_
    refine am_zret rfl (by first | exact am_nb _ | decide) dX6_at_24 ?_
    refine am_isFc ?_ rfl
    simp_all [bI]
def sp_onR_16 (M : am_M) : Int32 := if M 16 2 = 0 then -1 else bI (sp_on M 16)
set_option maxRecDepth 100000 in
set_option maxHeartbeats 400000 in
theorem c_X6_on_16 (ad : Nat → Nat) (M : am_M)  : am_C ydX6_on ad am_II [.ref (ad 0), .int 0] M (am_is (sp_onR_16 M) M) := by
  refine am_ofW (by decide +kernel) (by simp [Value.category]) (Nat.le_of_ble_eq_true rfl) rfl ?_
  refine am_aload_n rfl dX6_on_0 ?_
  refine am_iload_n rfl dX6_on_1 ?_
  refine am_callV (c_X6_axisOf_16 ad M) okX6_axisOf ml_X6_156 (by decide) rfl rfl rfl ⟨by decide, by decide⟩ (Nat.le_of_ble_eq_true rfl) rfl dX6_on_2 (fun r2 N2 p2 => ?_)
  obtain ⟨rfl, rfl⟩ := p2
  refine am_astore_n (by decide) dX6_on_5 ?_
  refine am_aload_n rfl dX6_on_6 ?_
  refine am_ifnull dX6_on_7 ?_
  refine am_aload_n rfl dX6_on_10 ?_
  refine am_geti (j := 2) (by decide) rfl rfl rfl hTX0 (by decide) fl_X6_187 dX6_on_11 ?_
  refine am_if_ne (tgt := 19) (by decide) dX6_on_14 (fun h14 => ?_) (fun h14 => ?_)
  · refine am_aload_n rfl dX6_on_19 ?_
    refine am_callVi (c_X0_isOn_16 ad M) okX0_isOn ml_X6_190 (by decide) rfl rfl rfl ⟨by decide, by decide⟩ (Nat.le_of_ble_eq_true rfl) rfl dX6_on_20 ?_
    refine am_ifb_eq (tgt := 30) (by decide) dX6_on_23 (fun h23 => ?_) (fun h23 => ?_)
    · refine am_iconst (v := 0) (by decide) dX6_on_30 ?_
      refine am_iret rfl dX6_on_31 ?_
      refine am_isE ?_
      simp_all [sp_onR_16, bI]
    · refine am_iconst (v := 1) (by decide) dX6_on_26 ?_
      refine am_goto (tgt := 31) (by decide) dX6_on_27 ?_
      refine am_iret rfl dX6_on_31 ?_
      refine am_isE ?_
      simp_all [sp_onR_16, bI]
  · refine am_iconst (v := (-1)) (by decide) dX6_on_17 ?_
    refine am_iret rfl dX6_on_18 ?_
    refine am_isE ?_
    simp_all [sp_onR_16, bI]
def sp_okHome_16 (M : am_M) : Bool := decide (¬ M 16 2 = 0) && !sp_goes M
set_option maxRecDepth 100000 in
set_option maxHeartbeats 400000 in
theorem c_X6_home_16 (ad : Nat → Nat) (M : am_M)  : am_C ydX6_home ad am_II [.ref (ad 0), .int 0] M (am_is (if sp_okHome_16 M = true then sp_made M 16 else -1) (if sp_okHome_16 M = true then sp_find M 16 else M)) := by
  refine am_ofW (by decide +kernel) (by simp [Value.category]) (Nat.le_of_ble_eq_true rfl) rfl ?_
  refine am_aload_n rfl dX6_home_0 ?_
  refine am_iload_n rfl dX6_home_1 ?_
  refine am_callV (c_X6_axisOf_16 ad M) okX6_axisOf ml_X6_156 (by decide) rfl rfl rfl ⟨by decide, by decide⟩ (Nat.le_of_ble_eq_true rfl) rfl dX6_home_2 (fun r2 N2 p2 => ?_)
  obtain ⟨rfl, rfl⟩ := p2
  refine am_astore_n (by decide) dX6_home_5 ?_
  refine am_aload_n rfl dX6_home_6 ?_
  refine am_ifnull dX6_home_7 ?_
  refine am_aload_n rfl dX6_home_10 ?_
  refine am_geti (j := 2) (by decide) rfl rfl rfl hTX0 (by decide) fl_X6_187 dX6_home_11 ?_
  refine am_if_eq (tgt := 27) (by decide) dX6_home_14 (fun h14 => ?_) (fun h14 => ?_)
  · refine am_iconst (v := (-1)) (by decide) dX6_home_27 ?_
    refine am_iret rfl dX6_home_28 ?_
    first | (rw [if_pos (show sp_okHome_16 M = true by simp_all [sp_okHome_16]), if_pos (show sp_okHome_16 M = true by simp_all [sp_okHome_16])]; exact ⟨rfl, rfl⟩) | (have e9 : ¬ sp_okHome_16 M = true := (by simp_all [sp_okHome_16]); rw [if_neg e9, if_neg e9]; exact ⟨rfl, rfl⟩)
  · refine am_aload_n rfl dX6_home_17 ?_
    refine am_getr (j := 4) (by decide) rfl rfl rfl hTX6 (by decide) fl_X6_38 dX6_home_18 ?_
    refine am_callVi (c_X2_goesOn ad M) okX2_goesOn ml_X6_62 (by decide) rfl rfl rfl ⟨by decide, by decide⟩ (Nat.le_of_ble_eq_true rfl) rfl dX6_home_21 ?_
    refine am_ifb_eq (tgt := 29) (by decide) dX6_home_24 (fun h24 => ?_) (fun h24 => ?_)
    · refine am_aload_n rfl dX6_home_29 ?_
      refine am_callVi (c_X0_findSwitch_16 ad M) okX0_findSwitch ml_X6_193 (by decide) rfl rfl rfl ⟨by decide, by decide⟩ (Nat.le_of_ble_eq_true rfl) rfl dX6_home_30 ?_
      refine am_iret rfl dX6_home_33 ?_
      first | (rw [if_pos (show sp_okHome_16 M = true by simp_all [sp_okHome_16]), if_pos (show sp_okHome_16 M = true by simp_all [sp_okHome_16])]; exact ⟨rfl, rfl⟩) | (have e9 : ¬ sp_okHome_16 M = true := (by simp_all [sp_okHome_16]); rw [if_neg e9, if_neg e9]; exact ⟨rfl, rfl⟩)
    · refine am_iconst (v := (-1)) (by decide) dX6_home_27 ?_
      refine am_iret rfl dX6_home_28 ?_
      first | (rw [if_pos (show sp_okHome_16 M = true by simp_all [sp_okHome_16]), if_pos (show sp_okHome_16 M = true by simp_all [sp_okHome_16])]; exact ⟨rfl, rfl⟩) | (have e9 : ¬ sp_okHome_16 M = true := (by simp_all [sp_okHome_16]); rw [if_neg e9, if_neg e9]; exact ⟨rfl, rfl⟩)
set_option maxRecDepth 100000 in
set_option maxHeartbeats 400000 in
theorem c_X6_place_16 (ad : Nat → Nat) (M : am_M) (b : Bool) : am_C ydX6_place ad am_II [.ref (ad 0), .int 0, .int (bI b)] M (am_is (if b = true then M 16 1 else M 16 0) M) := by
  refine am_ofW (by decide +kernel) (by simp [Value.category]) (Nat.le_of_ble_eq_true rfl) rfl ?_
  refine am_aload_n rfl dX6_place_0 ?_
  refine am_iload_n rfl dX6_place_1 ?_
  refine am_callV (c_X6_axisOf_16 ad M) okX6_axisOf ml_X6_156 (by decide) rfl rfl rfl ⟨by decide, by decide⟩ (Nat.le_of_ble_eq_true rfl) rfl dX6_place_2 (fun r2 N2 p2 => ?_)
  obtain ⟨rfl, rfl⟩ := p2
  refine am_astore_n (by decide) dX6_place_5 ?_
  refine am_aload_n rfl dX6_place_6 ?_
  refine am_ifnonnull (tgt := 18) (by decide) dX6_place_7 ?_
  refine am_iload_n rfl dX6_place_18 ?_
  refine am_if_eq (tgt := 29) (by decide) dX6_place_19 (fun h19 => ?_) (fun h19 => ?_)
  · refine am_aload_n rfl dX6_place_29 ?_
    refine am_geti (j := 0) (by decide) rfl rfl rfl hTX0 (by decide) fl_X6_166 dX6_place_30 ?_
    refine am_iret rfl dX6_place_33 ?_
    refine am_isE ?_
    simp_all [bI_0]
  · refine am_aload_n rfl dX6_place_22 ?_
    refine am_geti (j := 1) (by decide) rfl rfl rfl hTX0 (by decide) fl_X6_163 dX6_place_23 ?_
    refine am_goto (tgt := 33) (by decide) dX6_place_26 ?_
    refine am_iret rfl dX6_place_33 ?_
    refine am_isE ?_
    simp_all [bI_0]
set_option maxRecDepth 100000 in
set_option maxHeartbeats 400000 in
theorem c_X6_at_17 (ad : Nat → Nat) (M : am_M) (s : Int32) : am_C ydX6_at ad am_II [.ref (ad 0), .int 1, .int s] M (am_is (bI (sp_in s (-2000) 2000)) (if sp_in s (-2000) 2000 = true then sp_putSw M 17 s else M)) := by
  refine am_ofW (by decide +kernel) (by simp [Value.category]) (Nat.le_of_ble_eq_true rfl) rfl ?_
  refine am_aload_n rfl dX6_at_0 ?_
  refine am_iload_n rfl dX6_at_1 ?_
  refine am_callV (c_X6_axisOf_17 ad M) okX6_axisOf ml_X6_156 (by decide) rfl rfl rfl ⟨by decide, by decide⟩ (Nat.le_of_ble_eq_true rfl) rfl dX6_at_2 (fun r2 N2 p2 => ?_)
  obtain ⟨rfl, rfl⟩ := p2
  refine am_astore_n (by decide) dX6_at_5 ?_
  refine am_aload_n rfl dX6_at_6 ?_
  refine am_ifnull dX6_at_7 ?_
  refine am_iload_n rfl dX6_at_10 ?_
  refine am_sipush (v := (-2000)) (by decide) dX6_at_11 ?_
  refine am_sipush (v := 2000) (by decide) dX6_at_14 ?_
  refine am_callSi (c_X6_isWithin ad M _ _ _) okX6_isWithin ml_X6_66 rfl ⟨by decide, by decide⟩ (Nat.le_of_ble_eq_true rfl) rfl dX6_at_17 ?_
  refine am_ifb_ne (tgt := 25) (by decide) dX6_at_20 (fun h20 => ?_) (fun h20 => ?_)
  · refine am_aload_n rfl dX6_at_25 ?_
    refine am_iload_n rfl dX6_at_26 ?_
    refine am_callVv (c_X0_putSwitch_17 ad M _) okX0_putSwitch ml_X6_184 (by decide) rfl rfl rfl ⟨by decide, by decide⟩ (Nat.le_of_ble_eq_true rfl) rfl dX6_at_27 ?_
    refine am_iconst (v := 1) (by decide) dX6_at_30 ?_
    refine am_zret rfl (by first | exact am_nb _ | decide) dX6_at_31 ?_
    refine am_isTc ?_ rfl
    simp_all [bI]
  · refine am_iconst (v := 0) (by decide) dX6_at_23 ?_
    refine am_zret rfl (by first | exact am_nb _ | decide) dX6_at_24 ?_
    refine am_isFc ?_ rfl
    simp_all [bI]
def sp_onR_17 (M : am_M) : Int32 := if M 17 2 = 0 then -1 else bI (sp_on M 17)
set_option maxRecDepth 100000 in
set_option maxHeartbeats 400000 in
theorem c_X6_on_17 (ad : Nat → Nat) (M : am_M)  : am_C ydX6_on ad am_II [.ref (ad 0), .int 1] M (am_is (sp_onR_17 M) M) := by
  refine am_ofW (by decide +kernel) (by simp [Value.category]) (Nat.le_of_ble_eq_true rfl) rfl ?_
  refine am_aload_n rfl dX6_on_0 ?_
  refine am_iload_n rfl dX6_on_1 ?_
  refine am_callV (c_X6_axisOf_17 ad M) okX6_axisOf ml_X6_156 (by decide) rfl rfl rfl ⟨by decide, by decide⟩ (Nat.le_of_ble_eq_true rfl) rfl dX6_on_2 (fun r2 N2 p2 => ?_)
  obtain ⟨rfl, rfl⟩ := p2
  refine am_astore_n (by decide) dX6_on_5 ?_
  refine am_aload_n rfl dX6_on_6 ?_
  refine am_ifnull dX6_on_7 ?_
  refine am_aload_n rfl dX6_on_10 ?_
  refine am_geti (j := 2) (by decide) rfl rfl rfl hTX0 (by decide) fl_X6_187 dX6_on_11 ?_
  refine am_if_ne (tgt := 19) (by decide) dX6_on_14 (fun h14 => ?_) (fun h14 => ?_)
  · refine am_aload_n rfl dX6_on_19 ?_
    refine am_callVi (c_X0_isOn_17 ad M) okX0_isOn ml_X6_190 (by decide) rfl rfl rfl ⟨by decide, by decide⟩ (Nat.le_of_ble_eq_true rfl) rfl dX6_on_20 ?_
    refine am_ifb_eq (tgt := 30) (by decide) dX6_on_23 (fun h23 => ?_) (fun h23 => ?_)
    · refine am_iconst (v := 0) (by decide) dX6_on_30 ?_
      refine am_iret rfl dX6_on_31 ?_
      refine am_isE ?_
      simp_all [sp_onR_17, bI]
    · refine am_iconst (v := 1) (by decide) dX6_on_26 ?_
      refine am_goto (tgt := 31) (by decide) dX6_on_27 ?_
      refine am_iret rfl dX6_on_31 ?_
      refine am_isE ?_
      simp_all [sp_onR_17, bI]
  · refine am_iconst (v := (-1)) (by decide) dX6_on_17 ?_
    refine am_iret rfl dX6_on_18 ?_
    refine am_isE ?_
    simp_all [sp_onR_17, bI]
def sp_okHome_17 (M : am_M) : Bool := decide (¬ M 17 2 = 0) && !sp_goes M
set_option maxRecDepth 100000 in
set_option maxHeartbeats 400000 in
theorem c_X6_home_17 (ad : Nat → Nat) (M : am_M)  : am_C ydX6_home ad am_II [.ref (ad 0), .int 1] M (am_is (if sp_okHome_17 M = true then sp_made M 17 else -1) (if sp_okHome_17 M = true then sp_find M 17 else M)) := by
  refine am_ofW (by decide +kernel) (by simp [Value.category]) (Nat.le_of_ble_eq_true rfl) rfl ?_
  refine am_aload_n rfl dX6_home_0 ?_
  refine am_iload_n rfl dX6_home_1 ?_
  refine am_callV (c_X6_axisOf_17 ad M) okX6_axisOf ml_X6_156 (by decide) rfl rfl rfl ⟨by decide, by decide⟩ (Nat.le_of_ble_eq_true rfl) rfl dX6_home_2 (fun r2 N2 p2 => ?_)
  obtain ⟨rfl, rfl⟩ := p2
  refine am_astore_n (by decide) dX6_home_5 ?_
  refine am_aload_n rfl dX6_home_6 ?_
  refine am_ifnull dX6_home_7 ?_
  refine am_aload_n rfl dX6_home_10 ?_
  refine am_geti (j := 2) (by decide) rfl rfl rfl hTX0 (by decide) fl_X6_187 dX6_home_11 ?_
  refine am_if_eq (tgt := 27) (by decide) dX6_home_14 (fun h14 => ?_) (fun h14 => ?_)
  · refine am_iconst (v := (-1)) (by decide) dX6_home_27 ?_
    refine am_iret rfl dX6_home_28 ?_
    first | (rw [if_pos (show sp_okHome_17 M = true by simp_all [sp_okHome_17]), if_pos (show sp_okHome_17 M = true by simp_all [sp_okHome_17])]; exact ⟨rfl, rfl⟩) | (have e9 : ¬ sp_okHome_17 M = true := (by simp_all [sp_okHome_17]); rw [if_neg e9, if_neg e9]; exact ⟨rfl, rfl⟩)
  · refine am_aload_n rfl dX6_home_17 ?_
    refine am_getr (j := 4) (by decide) rfl rfl rfl hTX6 (by decide) fl_X6_38 dX6_home_18 ?_
    refine am_callVi (c_X2_goesOn ad M) okX2_goesOn ml_X6_62 (by decide) rfl rfl rfl ⟨by decide, by decide⟩ (Nat.le_of_ble_eq_true rfl) rfl dX6_home_21 ?_
    refine am_ifb_eq (tgt := 29) (by decide) dX6_home_24 (fun h24 => ?_) (fun h24 => ?_)
    · refine am_aload_n rfl dX6_home_29 ?_
      refine am_callVi (c_X0_findSwitch_17 ad M) okX0_findSwitch ml_X6_193 (by decide) rfl rfl rfl ⟨by decide, by decide⟩ (Nat.le_of_ble_eq_true rfl) rfl dX6_home_30 ?_
      refine am_iret rfl dX6_home_33 ?_
      first | (rw [if_pos (show sp_okHome_17 M = true by simp_all [sp_okHome_17]), if_pos (show sp_okHome_17 M = true by simp_all [sp_okHome_17])]; exact ⟨rfl, rfl⟩) | (have e9 : ¬ sp_okHome_17 M = true := (by simp_all [sp_okHome_17]); rw [if_neg e9, if_neg e9]; exact ⟨rfl, rfl⟩)
    · refine am_iconst (v := (-1)) (by decide) dX6_home_27 ?_
      refine am_iret rfl dX6_home_28 ?_
      first | (rw [if_pos (show sp_okHome_17 M = true by simp_all [sp_okHome_17]), if_pos (show sp_okHome_17 M = true by simp_all [sp_okHome_17])]; exact ⟨rfl, rfl⟩) | (have e9 : ¬ sp_okHome_17 M = true := (by simp_all [sp_okHome_17]); rw [if_neg e9, if_neg e9]; exact ⟨rfl, rfl⟩)
set_option maxRecDepth 100000 in
set_option maxHeartbeats 400000 in
theorem c_X6_place_17 (ad : Nat → Nat) (M : am_M) (b : Bool) : am_C ydX6_place ad am_II [.ref (ad 0), .int 1, .int (bI b)] M (am_is (if b = true then M 17 1 else M 17 0) M) := by
  refine am_ofW (by decide +kernel) (by simp [Value.category]) (Nat.le_of_ble_eq_true rfl) rfl ?_
  refine am_aload_n rfl dX6_place_0 ?_
  refine am_iload_n rfl dX6_place_1 ?_
  refine am_callV (c_X6_axisOf_17 ad M) okX6_axisOf ml_X6_156 (by decide) rfl rfl rfl ⟨by decide, by decide⟩ (Nat.le_of_ble_eq_true rfl) rfl dX6_place_2 (fun r2 N2 p2 => ?_)
  obtain ⟨rfl, rfl⟩ := p2
  refine am_astore_n (by decide) dX6_place_5 ?_
  refine am_aload_n rfl dX6_place_6 ?_
  refine am_ifnonnull (tgt := 18) (by decide) dX6_place_7 ?_
  refine am_iload_n rfl dX6_place_18 ?_
  refine am_if_eq (tgt := 29) (by decide) dX6_place_19 (fun h19 => ?_) (fun h19 => ?_)
  · refine am_aload_n rfl dX6_place_29 ?_
    refine am_geti (j := 0) (by decide) rfl rfl rfl hTX0 (by decide) fl_X6_166 dX6_place_30 ?_
    refine am_iret rfl dX6_place_33 ?_
    refine am_isE ?_
    simp_all [bI_0]
  · refine am_aload_n rfl dX6_place_22 ?_
    refine am_geti (j := 1) (by decide) rfl rfl rfl hTX0 (by decide) fl_X6_163 dX6_place_23 ?_
    refine am_goto (tgt := 33) (by decide) dX6_place_26 ?_
    refine am_iret rfl dX6_place_33 ?_
    refine am_isE ?_
    simp_all [bI_0]
set_option maxRecDepth 100000 in
set_option maxHeartbeats 400000 in
theorem c_X6_at_18 (ad : Nat → Nat) (M : am_M) (s : Int32) : am_C ydX6_at ad am_II [.ref (ad 0), .int 2, .int s] M (am_is (bI (sp_in s (-2000) 2000)) (if sp_in s (-2000) 2000 = true then sp_putSw M 18 s else M)) := by
  refine am_ofW (by decide +kernel) (by simp [Value.category]) (Nat.le_of_ble_eq_true rfl) rfl ?_
  refine am_aload_n rfl dX6_at_0 ?_
  refine am_iload_n rfl dX6_at_1 ?_
  refine am_callV (c_X6_axisOf_18 ad M) okX6_axisOf ml_X6_156 (by decide) rfl rfl rfl ⟨by decide, by decide⟩ (Nat.le_of_ble_eq_true rfl) rfl dX6_at_2 (fun r2 N2 p2 => ?_)
  obtain ⟨rfl, rfl⟩ := p2
  refine am_astore_n (by decide) dX6_at_5 ?_
  refine am_aload_n rfl dX6_at_6 ?_
  refine am_ifnull dX6_at_7 ?_
  refine am_iload_n rfl dX6_at_10 ?_
  refine am_sipush (v := (-2000)) (by decide) dX6_at_11 ?_
  refine am_sipush (v := 2000) (by decide) dX6_at_14 ?_
  refine am_callSi (c_X6_isWithin ad M _ _ _) okX6_isWithin ml_X6_66 rfl ⟨by decide, by decide⟩ (Nat.le_of_ble_eq_true rfl) rfl dX6_at_17 ?_
  refine am_ifb_ne (tgt := 25) (by decide) dX6_at_20 (fun h20 => ?_) (fun h20 => ?_)
  · refine am_aload_n rfl dX6_at_25 ?_
    refine am_iload_n rfl dX6_at_26 ?_
    refine am_callVv (c_X0_putSwitch_18 ad M _) okX0_putSwitch ml_X6_184 (by decide) rfl rfl rfl ⟨by decide, by decide⟩ (Nat.le_of_ble_eq_true rfl) rfl dX6_at_27 ?_
    refine am_iconst (v := 1) (by decide) dX6_at_30 ?_
    refine am_zret rfl (by first | exact am_nb _ | decide) dX6_at_31 ?_
    refine am_isTc ?_ rfl
    simp_all [bI]
  · refine am_iconst (v := 0) (by decide) dX6_at_23 ?_
    refine am_zret rfl (by first | exact am_nb _ | decide) dX6_at_24 ?_
    refine am_isFc ?_ rfl
    simp_all [bI]
def sp_onR_18 (M : am_M) : Int32 := if M 18 2 = 0 then -1 else bI (sp_on M 18)
set_option maxRecDepth 100000 in
set_option maxHeartbeats 400000 in
theorem c_X6_on_18 (ad : Nat → Nat) (M : am_M)  : am_C ydX6_on ad am_II [.ref (ad 0), .int 2] M (am_is (sp_onR_18 M) M) := by
  refine am_ofW (by decide +kernel) (by simp [Value.category]) (Nat.le_of_ble_eq_true rfl) rfl ?_
  refine am_aload_n rfl dX6_on_0 ?_
  refine am_iload_n rfl dX6_on_1 ?_
  refine am_callV (c_X6_axisOf_18 ad M) okX6_axisOf ml_X6_156 (by decide) rfl rfl rfl ⟨by decide, by decide⟩ (Nat.le_of_ble_eq_true rfl) rfl dX6_on_2 (fun r2 N2 p2 => ?_)
  obtain ⟨rfl, rfl⟩ := p2
  refine am_astore_n (by decide) dX6_on_5 ?_
  refine am_aload_n rfl dX6_on_6 ?_
  refine am_ifnull dX6_on_7 ?_
  refine am_aload_n rfl dX6_on_10 ?_
  refine am_geti (j := 2) (by decide) rfl rfl rfl hTX0 (by decide) fl_X6_187 dX6_on_11 ?_
  refine am_if_ne (tgt := 19) (by decide) dX6_on_14 (fun h14 => ?_) (fun h14 => ?_)
  · refine am_aload_n rfl dX6_on_19 ?_
    refine am_callVi (c_X0_isOn_18 ad M) okX0_isOn ml_X6_190 (by decide) rfl rfl rfl ⟨by decide, by decide⟩ (Nat.le_of_ble_eq_true rfl) rfl dX6_on_20 ?_
    refine am_ifb_eq (tgt := 30) (by decide) dX6_on_23 (fun h23 => ?_) (fun h23 => ?_)
    · refine am_iconst (v := 0) (by decide) dX6_on_30 ?_
      refine am_iret rfl dX6_on_31 ?_
      refine am_isE ?_
      simp_all [sp_onR_18, bI]
    · refine am_iconst (v := 1) (by decide) dX6_on_26 ?_
      refine am_goto (tgt := 31) (by decide) dX6_on_27 ?_
      refine am_iret rfl dX6_on_31 ?_
      refine am_isE ?_
      simp_all [sp_onR_18, bI]
  · refine am_iconst (v := (-1)) (by decide) dX6_on_17 ?_
    refine am_iret rfl dX6_on_18 ?_
    refine am_isE ?_
    simp_all [sp_onR_18, bI]
def sp_okHome_18 (M : am_M) : Bool := decide (¬ M 18 2 = 0) && !sp_goes M
set_option maxRecDepth 100000 in
set_option maxHeartbeats 400000 in
theorem c_X6_home_18 (ad : Nat → Nat) (M : am_M)  : am_C ydX6_home ad am_II [.ref (ad 0), .int 2] M (am_is (if sp_okHome_18 M = true then sp_made M 18 else -1) (if sp_okHome_18 M = true then sp_find M 18 else M)) := by
  refine am_ofW (by decide +kernel) (by simp [Value.category]) (Nat.le_of_ble_eq_true rfl) rfl ?_
  refine am_aload_n rfl dX6_home_0 ?_
  refine am_iload_n rfl dX6_home_1 ?_
  refine am_callV (c_X6_axisOf_18 ad M) okX6_axisOf ml_X6_156 (by decide) rfl rfl rfl ⟨by decide, by decide⟩ (Nat.le_of_ble_eq_true rfl) rfl dX6_home_2 (fun r2 N2 p2 => ?_)
  obtain ⟨rfl, rfl⟩ := p2
  refine am_astore_n (by decide) dX6_home_5 ?_
  refine am_aload_n rfl dX6_home_6 ?_
  refine am_ifnull dX6_home_7 ?_
  refine am_aload_n rfl dX6_home_10 ?_
  refine am_geti (j := 2) (by decide) rfl rfl rfl hTX0 (by decide) fl_X6_187 dX6_home_11 ?_
  refine am_if_eq (tgt := 27) (by decide) dX6_home_14 (fun h14 => ?_) (fun h14 => ?_)
  · refine am_iconst (v := (-1)) (by decide) dX6_home_27 ?_
    refine am_iret rfl dX6_home_28 ?_
    first | (rw [if_pos (show sp_okHome_18 M = true by simp_all [sp_okHome_18]), if_pos (show sp_okHome_18 M = true by simp_all [sp_okHome_18])]; exact ⟨rfl, rfl⟩) | (have e9 : ¬ sp_okHome_18 M = true := (by simp_all [sp_okHome_18]); rw [if_neg e9, if_neg e9]; exact ⟨rfl, rfl⟩)
  · refine am_aload_n rfl dX6_home_17 ?_
    refine am_getr (j := 4) (by decide) rfl rfl rfl hTX6 (by decide) fl_X6_38 dX6_home_18 ?_
    refine am_callVi (c_X2_goesOn ad M) okX2_goesOn ml_X6_62 (by decide) rfl rfl rfl ⟨by decide, by decide⟩ (Nat.le_of_ble_eq_true rfl) rfl dX6_home_21 ?_
    refine am_ifb_eq (tgt := 29) (by decide) dX6_home_24 (fun h24 => ?_) (fun h24 => ?_)
    · refine am_aload_n rfl dX6_home_29 ?_
      refine am_callVi (c_X0_findSwitch_18 ad M) okX0_findSwitch ml_X6_193 (by decide) rfl rfl rfl ⟨by decide, by decide⟩ (Nat.le_of_ble_eq_true rfl) rfl dX6_home_30 ?_
      refine am_iret rfl dX6_home_33 ?_
      first | (rw [if_pos (show sp_okHome_18 M = true by simp_all [sp_okHome_18]), if_pos (show sp_okHome_18 M = true by simp_all [sp_okHome_18])]; exact ⟨rfl, rfl⟩) | (have e9 : ¬ sp_okHome_18 M = true := (by simp_all [sp_okHome_18]); rw [if_neg e9, if_neg e9]; exact ⟨rfl, rfl⟩)
    · refine am_iconst (v := (-1)) (by decide) dX6_home_27 ?_
      refine am_iret rfl dX6_home_28 ?_
      first | (rw [if_pos (show sp_okHome_18 M = true by simp_all [sp_okHome_18]), if_pos (show sp_okHome_18 M = true by simp_all [sp_okHome_18])]; exact ⟨rfl, rfl⟩) | (have e9 : ¬ sp_okHome_18 M = true := (by simp_all [sp_okHome_18]); rw [if_neg e9, if_neg e9]; exact ⟨rfl, rfl⟩)
set_option maxRecDepth 100000 in
set_option maxHeartbeats 400000 in
theorem c_X6_place_18 (ad : Nat → Nat) (M : am_M) (b : Bool) : am_C ydX6_place ad am_II [.ref (ad 0), .int 2, .int (bI b)] M (am_is (if b = true then M 18 1 else M 18 0) M) := by
  refine am_ofW (by decide +kernel) (by simp [Value.category]) (Nat.le_of_ble_eq_true rfl) rfl ?_
  refine am_aload_n rfl dX6_place_0 ?_
  refine am_iload_n rfl dX6_place_1 ?_
  refine am_callV (c_X6_axisOf_18 ad M) okX6_axisOf ml_X6_156 (by decide) rfl rfl rfl ⟨by decide, by decide⟩ (Nat.le_of_ble_eq_true rfl) rfl dX6_place_2 (fun r2 N2 p2 => ?_)
  obtain ⟨rfl, rfl⟩ := p2
  refine am_astore_n (by decide) dX6_place_5 ?_
  refine am_aload_n rfl dX6_place_6 ?_
  refine am_ifnonnull (tgt := 18) (by decide) dX6_place_7 ?_
  refine am_iload_n rfl dX6_place_18 ?_
  refine am_if_eq (tgt := 29) (by decide) dX6_place_19 (fun h19 => ?_) (fun h19 => ?_)
  · refine am_aload_n rfl dX6_place_29 ?_
    refine am_geti (j := 0) (by decide) rfl rfl rfl hTX0 (by decide) fl_X6_166 dX6_place_30 ?_
    refine am_iret rfl dX6_place_33 ?_
    refine am_isE ?_
    simp_all [bI_0]
  · refine am_aload_n rfl dX6_place_22 ?_
    refine am_geti (j := 1) (by decide) rfl rfl rfl hTX0 (by decide) fl_X6_163 dX6_place_23 ?_
    refine am_goto (tgt := 33) (by decide) dX6_place_26 ?_
    refine am_iret rfl dX6_place_33 ?_
    refine am_isE ?_
    simp_all [bI_0]
set_option maxRecDepth 100000 in
set_option maxHeartbeats 400000 in
theorem c_X6_at_N (ad : Nat → Nat) (M : am_M) (x s : Int32) (hx : sp_noax x) : am_C ydX6_at ad am_II [.ref (ad 0), .int x, .int s] M (am_is (bI false) M) := by
  refine am_ofW (by decide +kernel) (by simp [Value.category]) (Nat.le_of_ble_eq_true rfl) rfl ?_
  refine am_aload_n rfl dX6_at_0 ?_
  refine am_iload_n rfl dX6_at_1 ?_
  refine am_callV (c_X6_axisOf_N ad M _ hx) okX6_axisOf ml_X6_156 (by decide) rfl rfl rfl ⟨by decide, by decide⟩ (Nat.le_of_ble_eq_true rfl) rfl dX6_at_2 (fun r2 N2 p2 => ?_)
  obtain ⟨rfl, rfl⟩ := p2
  refine am_astore_nN (by decide) dX6_at_5 ?_
  refine am_aload_nN rfl dX6_at_6 ?_
  refine am_ifnullN (tgt := 23) (by decide) dX6_at_7 ?_
  refine am_iconst (v := 0) (by decide) dX6_at_23 ?_
  refine am_zret rfl (by first | exact am_nb _ | decide) dX6_at_24 ?_
  exact ⟨rfl, rfl⟩
set_option maxRecDepth 100000 in
set_option maxHeartbeats 400000 in
theorem c_X6_on_N (ad : Nat → Nat) (M : am_M) (x : Int32) (hx : sp_noax x) : am_C ydX6_on ad am_II [.ref (ad 0), .int x] M (am_is (-1) M) := by
  refine am_ofW (by decide +kernel) (by simp [Value.category]) (Nat.le_of_ble_eq_true rfl) rfl ?_
  refine am_aload_n rfl dX6_on_0 ?_
  refine am_iload_n rfl dX6_on_1 ?_
  refine am_callV (c_X6_axisOf_N ad M _ hx) okX6_axisOf ml_X6_156 (by decide) rfl rfl rfl ⟨by decide, by decide⟩ (Nat.le_of_ble_eq_true rfl) rfl dX6_on_2 (fun r2 N2 p2 => ?_)
  obtain ⟨rfl, rfl⟩ := p2
  refine am_astore_nN (by decide) dX6_on_5 ?_
  refine am_aload_nN rfl dX6_on_6 ?_
  refine am_ifnullN (tgt := 17) (by decide) dX6_on_7 ?_
  refine am_iconst (v := (-1)) (by decide) dX6_on_17 ?_
  refine am_iret rfl dX6_on_18 ?_
  exact ⟨rfl, rfl⟩
set_option maxRecDepth 100000 in
set_option maxHeartbeats 400000 in
theorem c_X6_home_N (ad : Nat → Nat) (M : am_M) (x : Int32) (hx : sp_noax x) : am_C ydX6_home ad am_II [.ref (ad 0), .int x] M (am_is (-1) M) := by
  refine am_ofW (by decide +kernel) (by simp [Value.category]) (Nat.le_of_ble_eq_true rfl) rfl ?_
  refine am_aload_n rfl dX6_home_0 ?_
  refine am_iload_n rfl dX6_home_1 ?_
  refine am_callV (c_X6_axisOf_N ad M _ hx) okX6_axisOf ml_X6_156 (by decide) rfl rfl rfl ⟨by decide, by decide⟩ (Nat.le_of_ble_eq_true rfl) rfl dX6_home_2 (fun r2 N2 p2 => ?_)
  obtain ⟨rfl, rfl⟩ := p2
  refine am_astore_nN (by decide) dX6_home_5 ?_
  refine am_aload_nN rfl dX6_home_6 ?_
  refine am_ifnullN (tgt := 27) (by decide) dX6_home_7 ?_
  refine am_iconst (v := (-1)) (by decide) dX6_home_27 ?_
  refine am_iret rfl dX6_home_28 ?_
  exact ⟨rfl, rfl⟩
set_option maxRecDepth 100000 in
set_option maxHeartbeats 400000 in
theorem c_X1_layN (ad : Nat → Nat) (M : am_M) (n l : Int32) (hn : n = 1 ∨ n = 2 ∨ n = 4 ∨ n = 8) : am_C ydX1_lay ad am_II [.ref (ad 19), .int n, .int l] M (am_un (sp_layN M n l)) := by
  rcases hn with rfl | rfl | rfl | rfl
  · exact c_X1_lay ad am_II (by decide) (by decide) M 1 (Or.inl rfl) l
  · exact c_X1_lay ad am_II (by decide) (by decide) M 2 (Or.inr (Or.inl rfl)) l
  · exact c_X1_lay ad am_II (by decide) (by decide) M 4 (Or.inr (Or.inr (Or.inl rfl))) l
  · exact c_X1_lay ad am_II (by decide) (by decide) M 8 (Or.inr (Or.inr (Or.inr rfl))) l
set_option maxRecDepth 100000 in
set_option maxHeartbeats 400000 in
theorem c_X6_table (ad : Nat → Nat) (M : am_M) (n l : Int32) : am_C ydX6_table ad am_II [.ref (ad 0), .int n, .int l] M (am_is (bI (sp_okTab n l)) (if sp_okTab n l = true then sp_layN M n l else M)) := by
  refine am_ofW (by decide +kernel) (by simp [Value.category]) (Nat.le_of_ble_eq_true rfl) rfl ?_
  refine am_iload_n rfl dX6_table_0 ?_
  refine am_iconst (v := 1) (by decide) dX6_table_1 ?_
  refine am_icmp_eq (tgt := 21) (by decide) dX6_table_2 (fun h2 => ?_) (fun h2 => ?_)
  · refine am_iconst (v := 1) (by decide) dX6_table_21 ?_
    refine am_goto (tgt := 26) (by decide) dX6_table_22 ?_
    refine am_istore_n (by decide) dX6_table_26 ?_
    refine am_iload_n rfl dX6_table_27 ?_
    refine am_if_eq (tgt := 41) (by decide) dX6_table_28 (fun h28 => absurd h28 (by decide)) (fun h28 => ?_)
    refine am_iload_n rfl dX6_table_31 ?_
    refine am_iconst (v := 1) (by decide) dX6_table_32 ?_
    refine am_bipush (v := 100) (by decide) dX6_table_33 ?_
    refine am_callSi (c_X6_isWithin ad M _ _ _) okX6_isWithin ml_X6_66 rfl ⟨by decide, by decide⟩ (Nat.le_of_ble_eq_true rfl) rfl dX6_table_35 ?_
    refine am_ifb_ne (tgt := 43) (by decide) dX6_table_38 (fun h38 => ?_) (fun h38 => ?_)
    · refine am_aload_n rfl dX6_table_43 ?_
      refine am_getr (j := 8) (by decide) rfl rfl rfl hTX6 (by decide) fl_X6_58 dX6_table_44 ?_
      refine am_iload_n rfl dX6_table_47 ?_
      refine am_iload_n rfl dX6_table_48 ?_
      refine am_callVv (c_X1_layN ad M _ _ (by simp_all)) okX1_lay ml_X6_197 (by decide) rfl rfl rfl ⟨by decide, by decide⟩ (Nat.le_of_ble_eq_true rfl) rfl dX6_table_49 ?_
      refine am_iconst (v := 1) (by decide) dX6_table_52 ?_
      refine am_zret rfl (by first | exact am_nb _ | decide) dX6_table_53 ?_
      refine am_isTc ?_ rfl
      simp_all [sp_okTab]
    · refine am_iconst (v := 0) (by decide) dX6_table_41 ?_
      refine am_zret rfl (by first | exact am_nb _ | decide) dX6_table_42 ?_
      refine am_isFc ?_ rfl
      simp_all [sp_okTab]
  · refine am_iload_n rfl dX6_table_5 ?_
    refine am_iconst (v := 2) (by decide) dX6_table_6 ?_
    refine am_icmp_eq (tgt := 21) (by decide) dX6_table_7 (fun h7 => ?_) (fun h7 => ?_)
    · refine am_iconst (v := 1) (by decide) dX6_table_21 ?_
      refine am_goto (tgt := 26) (by decide) dX6_table_22 ?_
      refine am_istore_n (by decide) dX6_table_26 ?_
      refine am_iload_n rfl dX6_table_27 ?_
      refine am_if_eq (tgt := 41) (by decide) dX6_table_28 (fun h28 => absurd h28 (by decide)) (fun h28 => ?_)
      refine am_iload_n rfl dX6_table_31 ?_
      refine am_iconst (v := 1) (by decide) dX6_table_32 ?_
      refine am_bipush (v := 100) (by decide) dX6_table_33 ?_
      refine am_callSi (c_X6_isWithin ad M _ _ _) okX6_isWithin ml_X6_66 rfl ⟨by decide, by decide⟩ (Nat.le_of_ble_eq_true rfl) rfl dX6_table_35 ?_
      refine am_ifb_ne (tgt := 43) (by decide) dX6_table_38 (fun h38 => ?_) (fun h38 => ?_)
      · refine am_aload_n rfl dX6_table_43 ?_
        refine am_getr (j := 8) (by decide) rfl rfl rfl hTX6 (by decide) fl_X6_58 dX6_table_44 ?_
        refine am_iload_n rfl dX6_table_47 ?_
        refine am_iload_n rfl dX6_table_48 ?_
        refine am_callVv (c_X1_layN ad M _ _ (by simp_all)) okX1_lay ml_X6_197 (by decide) rfl rfl rfl ⟨by decide, by decide⟩ (Nat.le_of_ble_eq_true rfl) rfl dX6_table_49 ?_
        refine am_iconst (v := 1) (by decide) dX6_table_52 ?_
        refine am_zret rfl (by first | exact am_nb _ | decide) dX6_table_53 ?_
        refine am_isTc ?_ rfl
        simp_all [sp_okTab]
      · refine am_iconst (v := 0) (by decide) dX6_table_41 ?_
        refine am_zret rfl (by first | exact am_nb _ | decide) dX6_table_42 ?_
        refine am_isFc ?_ rfl
        simp_all [sp_okTab]
    · refine am_iload_n rfl dX6_table_10 ?_
      refine am_iconst (v := 4) (by decide) dX6_table_11 ?_
      refine am_icmp_eq (tgt := 21) (by decide) dX6_table_12 (fun h12 => ?_) (fun h12 => ?_)
      · refine am_iconst (v := 1) (by decide) dX6_table_21 ?_
        refine am_goto (tgt := 26) (by decide) dX6_table_22 ?_
        refine am_istore_n (by decide) dX6_table_26 ?_
        refine am_iload_n rfl dX6_table_27 ?_
        refine am_if_eq (tgt := 41) (by decide) dX6_table_28 (fun h28 => absurd h28 (by decide)) (fun h28 => ?_)
        refine am_iload_n rfl dX6_table_31 ?_
        refine am_iconst (v := 1) (by decide) dX6_table_32 ?_
        refine am_bipush (v := 100) (by decide) dX6_table_33 ?_
        refine am_callSi (c_X6_isWithin ad M _ _ _) okX6_isWithin ml_X6_66 rfl ⟨by decide, by decide⟩ (Nat.le_of_ble_eq_true rfl) rfl dX6_table_35 ?_
        refine am_ifb_ne (tgt := 43) (by decide) dX6_table_38 (fun h38 => ?_) (fun h38 => ?_)
        · refine am_aload_n rfl dX6_table_43 ?_
          refine am_getr (j := 8) (by decide) rfl rfl rfl hTX6 (by decide) fl_X6_58 dX6_table_44 ?_
          refine am_iload_n rfl dX6_table_47 ?_
          refine am_iload_n rfl dX6_table_48 ?_
          refine am_callVv (c_X1_layN ad M _ _ (by simp_all)) okX1_lay ml_X6_197 (by decide) rfl rfl rfl ⟨by decide, by decide⟩ (Nat.le_of_ble_eq_true rfl) rfl dX6_table_49 ?_
          refine am_iconst (v := 1) (by decide) dX6_table_52 ?_
          refine am_zret rfl (by first | exact am_nb _ | decide) dX6_table_53 ?_
          refine am_isTc ?_ rfl
          simp_all [sp_okTab]
        · refine am_iconst (v := 0) (by decide) dX6_table_41 ?_
          refine am_zret rfl (by first | exact am_nb _ | decide) dX6_table_42 ?_
          refine am_isFc ?_ rfl
          simp_all [sp_okTab]
      · refine am_iload_n rfl dX6_table_15 ?_
        refine am_bipush (v := 8) (by decide) dX6_table_16 ?_
        refine am_icmp_ne (tgt := 25) (by decide) dX6_table_18 (fun h18 => ?_) (fun h18 => ?_)
        · refine am_iconst (v := 0) (by decide) dX6_table_25 ?_
          refine am_istore_n (by decide) dX6_table_26 ?_
          refine am_iload_n rfl dX6_table_27 ?_
          refine am_if_eq (tgt := 41) (by decide) dX6_table_28 (fun h28 => ?_) (fun h28 => absurd h28 (by decide))
          refine am_iconst (v := 0) (by decide) dX6_table_41 ?_
          refine am_zret rfl (by first | exact am_nb _ | decide) dX6_table_42 ?_
          refine am_isFc ?_ rfl
          simp_all [sp_okTab]
        · refine am_iconst (v := 1) (by decide) dX6_table_21 ?_
          refine am_goto (tgt := 26) (by decide) dX6_table_22 ?_
          refine am_istore_n (by decide) dX6_table_26 ?_
          refine am_iload_n rfl dX6_table_27 ?_
          refine am_if_eq (tgt := 41) (by decide) dX6_table_28 (fun h28 => absurd h28 (by decide)) (fun h28 => ?_)
          refine am_iload_n rfl dX6_table_31 ?_
          refine am_iconst (v := 1) (by decide) dX6_table_32 ?_
          refine am_bipush (v := 100) (by decide) dX6_table_33 ?_
          refine am_callSi (c_X6_isWithin ad M _ _ _) okX6_isWithin ml_X6_66 rfl ⟨by decide, by decide⟩ (Nat.le_of_ble_eq_true rfl) rfl dX6_table_35 ?_
          refine am_ifb_ne (tgt := 43) (by decide) dX6_table_38 (fun h38 => ?_) (fun h38 => ?_)
          · refine am_aload_n rfl dX6_table_43 ?_
            refine am_getr (j := 8) (by decide) rfl rfl rfl hTX6 (by decide) fl_X6_58 dX6_table_44 ?_
            refine am_iload_n rfl dX6_table_47 ?_
            refine am_iload_n rfl dX6_table_48 ?_
            refine am_callVv (c_X1_layN ad M _ _ (by simp_all)) okX1_lay ml_X6_197 (by decide) rfl rfl rfl ⟨by decide, by decide⟩ (Nat.le_of_ble_eq_true rfl) rfl dX6_table_49 ?_
            refine am_iconst (v := 1) (by decide) dX6_table_52 ?_
            refine am_zret rfl (by first | exact am_nb _ | decide) dX6_table_53 ?_
            refine am_isTc ?_ rfl
            simp_all [sp_okTab]
          · refine am_iconst (v := 0) (by decide) dX6_table_41 ?_
            refine am_zret rfl (by first | exact am_nb _ | decide) dX6_table_42 ?_
            refine am_isFc ?_ rfl
            simp_all [sp_okTab]
set_option maxRecDepth 100000 in
set_option maxHeartbeats 400000 in
theorem c_X6_set (ad : Nat → Nat) (M : am_M) (p a : Int32) : am_C ydX6_set ad am_II [.ref (ad 0), .int p, .int a] M (am_is (bI (sp_okSet M p a)) (if sp_okSet M p a = true then sp_put M p a else M)) := by
  refine am_ofW (by decide +kernel) (by simp [Value.category]) (Nat.le_of_ble_eq_true rfl) rfl ?_
  refine am_iload_n rfl dX6_set_0 ?_
  refine am_iconst (v := 0) (by decide) dX6_set_1 ?_
  refine am_aload_n rfl dX6_set_2 ?_
  refine am_getr (j := 8) (by decide) rfl rfl rfl hTX6 (by decide) fl_X6_58 dX6_set_3 ?_
  refine am_geti (j := 0) (by decide) rfl rfl rfl hTX1 (by decide) fl_X6_200 dX6_set_6 ?_
  refine am_callSi (c_X6_isWithin ad M _ _ _) okX6_isWithin ml_X6_66 rfl ⟨by decide, by decide⟩ (Nat.le_of_ble_eq_true rfl) rfl dX6_set_9 ?_
  refine am_ifb_eq (tgt := 30) (by decide) dX6_set_12 (fun h12 => ?_) (fun h12 => ?_)
  · refine am_iconst (v := 0) (by decide) dX6_set_30 ?_
    refine am_zret rfl (by first | exact am_nb _ | decide) dX6_set_31 ?_
    refine am_isFc ?_ rfl
    simp_all [sp_okSet]
  · refine am_iload_n rfl dX6_set_15 ?_
    refine am_iconst (v := 0) (by decide) dX6_set_16 ?_
    refine am_aload_n rfl dX6_set_17 ?_
    refine am_getr (j := 8) (by decide) rfl rfl rfl hTX6 (by decide) fl_X6_58 dX6_set_18 ?_
    refine am_geti (j := 1) (by decide) rfl rfl rfl hTX1 (by decide) fl_X6_203 dX6_set_21 ?_
    refine am_callSi (c_X6_isWithin ad M _ _ _) okX6_isWithin ml_X6_66 rfl ⟨by decide, by decide⟩ (Nat.le_of_ble_eq_true rfl) rfl dX6_set_24 ?_
    refine am_ifb_ne (tgt := 32) (by decide) dX6_set_27 (fun h27 => ?_) (fun h27 => ?_)
    · refine am_aload_n rfl dX6_set_32 ?_
      refine am_getr (j := 8) (by decide) rfl rfl rfl hTX6 (by decide) fl_X6_58 dX6_set_33 ?_
      refine am_iload_n rfl dX6_set_36 ?_
      refine am_iload_n rfl dX6_set_37 ?_
      refine am_callVv (c_X1_put ad M _ _) okX1_put ml_X6_206 (by decide) rfl rfl rfl ⟨by decide, by decide⟩ (Nat.le_of_ble_eq_true rfl) rfl dX6_set_38 ?_
      refine am_iconst (v := 1) (by decide) dX6_set_41 ?_
      refine am_zret rfl (by first | exact am_nb _ | decide) dX6_set_42 ?_
      refine am_isTc ?_ rfl
      simp_all [sp_okSet]
    · refine am_iconst (v := 0) (by decide) dX6_set_30 ?_
      refine am_zret rfl (by first | exact am_nb _ | decide) dX6_set_31 ?_
      refine am_isFc ?_ rfl
      simp_all [sp_okSet]
set_option maxRecDepth 100000 in
set_option maxHeartbeats 400000 in
theorem c_X6_miss (ad : Nat → Nat) (M : am_M) (p : Int32) : am_C ydX6_miss ad am_II [.ref (ad 0), .int p] M (am_is (if sp_in p 0 (M 19 0) = true then sp_miss M p else -1) M) := by
  refine am_ofW (by decide +kernel) (by simp [Value.category]) (Nat.le_of_ble_eq_true rfl) rfl ?_
  refine am_iload_n rfl dX6_miss_0 ?_
  refine am_iconst (v := 0) (by decide) dX6_miss_1 ?_
  refine am_aload_n rfl dX6_miss_2 ?_
  refine am_getr (j := 8) (by decide) rfl rfl rfl hTX6 (by decide) fl_X6_58 dX6_miss_3 ?_
  refine am_geti (j := 0) (by decide) rfl rfl rfl hTX1 (by decide) fl_X6_200 dX6_miss_6 ?_
  refine am_callSi (c_X6_isWithin ad M _ _ _) okX6_isWithin ml_X6_66 rfl ⟨by decide, by decide⟩ (Nat.le_of_ble_eq_true rfl) rfl dX6_miss_9 ?_
  refine am_ifb_eq (tgt := 26) (by decide) dX6_miss_12 (fun h12 => ?_) (fun h12 => ?_)
  · refine am_iconst (v := (-1)) (by decide) dX6_miss_26 ?_
    refine am_iret rfl dX6_miss_27 ?_
    refine am_isE ?_
    simp_all
  · refine am_aload_n rfl dX6_miss_15 ?_
    refine am_getr (j := 8) (by decide) rfl rfl rfl hTX6 (by decide) fl_X6_58 dX6_miss_16 ?_
    refine am_iload_n rfl dX6_miss_19 ?_
    refine am_callVi (c_X1_missOf ad M _) okX1_missOf ml_X6_215 (by decide) rfl rfl rfl ⟨by decide, by decide⟩ (Nat.le_of_ble_eq_true rfl) rfl dX6_miss_20 ?_
    refine am_goto (tgt := 27) (by decide) dX6_miss_23 ?_
    refine am_iret rfl dX6_miss_27 ?_
    refine am_isE ?_
    simp_all
set_option maxRecDepth 100000 in
set_option maxHeartbeats 400000 in
theorem c_X6_current (ad : Nat → Nat) (M : am_M) (p w : Int32) (h1 : sp_in p 0 1000 = true) (h2 : sp_in w 0 1 = true) : am_C ydX6_current ad am_II [.ref (ad 0), .int p, .int w] M (am_is (if w = 0 then sp_first M p else sp_second M p) M) := by
  refine am_ofW (by decide +kernel) (by simp [Value.category]) (Nat.le_of_ble_eq_true rfl) rfl ?_
  refine am_iload_n rfl dX6_current_0 ?_
  refine am_iconst (v := 0) (by decide) dX6_current_1 ?_
  refine am_sipush (v := 1000) (by decide) dX6_current_2 ?_
  refine am_callSi (c_X6_isWithin ad M _ _ _) okX6_isWithin ml_X6_66 rfl ⟨by decide, by decide⟩ (Nat.le_of_ble_eq_true rfl) rfl dX6_current_5 ?_
  refine am_ifb_eq (tgt := 20) (by decide) dX6_current_8 (fun h8 => ?_) (fun h8 => ?_)
  · exfalso; simp_all
  · refine am_iload_n rfl dX6_current_11 ?_
    refine am_iconst (v := 0) (by decide) dX6_current_12 ?_
    refine am_iconst (v := 1) (by decide) dX6_current_13 ?_
    refine am_callSi (c_X6_isWithin ad M _ _ _) okX6_isWithin ml_X6_66 rfl ⟨by decide, by decide⟩ (Nat.le_of_ble_eq_true rfl) rfl dX6_current_14 ?_
    refine am_ifb_ne (tgt := 28) (by decide) dX6_current_17 (fun h17 => ?_) (fun h17 => ?_)
    · refine am_iload_n rfl dX6_current_28 ?_
      refine am_if_ne (tgt := 43) (by decide) dX6_current_29 (fun h29 => ?_) (fun h29 => ?_)
      · refine am_aload_n rfl dX6_current_43 ?_
        refine am_getr (j := 8) (by decide) rfl rfl rfl hTX6 (by decide) fl_X6_58 dX6_current_44 ?_
        refine am_iload_n rfl dX6_current_47 ?_
        refine am_callVi (c_X1_secondAt ad M _) okX1_secondAt ml_X6_212 (by decide) rfl rfl rfl ⟨by decide, by decide⟩ (Nat.le_of_ble_eq_true rfl) rfl dX6_current_48 ?_
        refine am_iret rfl dX6_current_51 ?_
        refine am_isE ?_
        simp_all
      · refine am_aload_n rfl dX6_current_32 ?_
        refine am_getr (j := 8) (by decide) rfl rfl rfl hTX6 (by decide) fl_X6_58 dX6_current_33 ?_
        refine am_iload_n rfl dX6_current_36 ?_
        refine am_callVi (c_X1_firstAt ad M _) okX1_firstAt ml_X6_209 (by decide) rfl rfl rfl ⟨by decide, by decide⟩ (Nat.le_of_ble_eq_true rfl) rfl dX6_current_37 ?_
        refine am_goto (tgt := 51) (by decide) dX6_current_40 ?_
        refine am_iret rfl dX6_current_51 ?_
        refine am_isE ?_
        simp_all
    · exfalso; simp_all
set_option maxRecDepth 100000 in
set_option maxHeartbeats 400000 in
theorem c_X6_evenness (ad : Nat → Nat) (M : am_M)  (hp : 0 ≤ (M 19 0).toInt ∧ (M 19 0).toInt ≤ 8) (hl : 0 ≤ (M 19 1).toInt ∧ (M 19 1).toInt ≤ 100) : am_C ydX6_evenness ad am_II [.ref (ad 0)] M (am_is (sp_even M) M) := by
  refine am_ofW (by decide +kernel) (by simp [Value.category]) (Nat.le_of_ble_eq_true rfl) rfl ?_
  refine am_aload_n rfl dX6_evenness_0 ?_
  refine am_getr (j := 8) (by decide) rfl rfl rfl hTX6 (by decide) fl_X6_58 dX6_evenness_1 ?_
  refine am_callVi (c_X1_greatestMiss ad M hp) okX1_greatestMiss ml_X6_218 (by decide) rfl rfl rfl ⟨by decide, by decide⟩ (Nat.le_of_ble_eq_true rfl) rfl dX6_evenness_4 ?_
  refine am_iret rfl dX6_evenness_7 ?_
  exact ⟨rfl, rfl⟩
theorem sp_evs_19 (k : Nat) : ∀ (n p : Nat) (M : am_M), sp_evs k n p M 19 = M 19 := by
  intro n
  induction n with
  | zero => intro p M; rfl
  | succ n ih =>
    intro p M
    rw [sp_evs, ih]
    split
    · exact sp_middle_19 _ _
    · exact sp_pairs_19 _ _
theorem sp_smooth_19 (M : am_M) : sp_smooth M 19 = M 19 := sp_evs_19 _ _ _ _
set_option maxRecDepth 100000 in
set_option maxHeartbeats 400000 in
theorem c_X6_smooth (ad : Nat → Nat) (M : am_M)  (hp : 0 ≤ (M 19 0).toInt ∧ (M 19 0).toInt ≤ 8) (hl : 0 ≤ (M 19 1).toInt ∧ (M 19 1).toInt ≤ 100) : am_C ydX6_smooth ad am_II [.ref (ad 0)] M (am_is (sp_even (sp_smooth M)) (sp_smooth M)) := by
  refine am_ofW (by decide +kernel) (by simp [Value.category]) (Nat.le_of_ble_eq_true rfl) rfl ?_
  refine am_aload_n rfl dX6_smooth_0 ?_
  refine am_getr (j := 8) (by decide) rfl rfl rfl hTX6 (by decide) fl_X6_58 dX6_smooth_1 ?_
  refine am_callVv (c_X1_even ad M hp hl) okX1_even ml_X6_221 (by decide) rfl rfl rfl ⟨by decide, by decide⟩ (Nat.le_of_ble_eq_true rfl) rfl dX6_smooth_4 ?_
  refine am_aload_n rfl dX6_smooth_7 ?_
  refine am_getr (j := 8) (by decide) rfl rfl rfl hTX6 (by decide) fl_X6_58 dX6_smooth_8 ?_
  refine am_callVi (c_X1_greatestMiss ad (sp_smooth M) (by rw [sp_smooth_19]; exact hp)) okX1_greatestMiss ml_X6_218 (by decide) rfl rfl rfl ⟨by decide, by decide⟩ (Nat.le_of_ble_eq_true rfl) rfl dX6_smooth_11 ?_
  refine am_iret rfl dX6_smooth_14 ?_
  exact ⟨rfl, rfl⟩

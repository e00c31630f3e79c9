/-! constructors -/
theorem in_X0 : Cond.instantiable RX0 6 ∈ lw_tbl := List.mem_append_right _ (List.mem_of_getElem? (i := 160) (by decide +kernel))
theorem ii_X0 : Cond.initialized RX0 ∈ lw_tbl := List.mem_append_right _ (List.mem_of_getElem? (i := 7) (by decide +kernel))
theorem df_X0 : ∀ j, j < 6 → defaultValue (tyX0 j) = vp_V [.int 0, .int 0, .int 0, .int 0, .int 0, .int 0] j := fun j hj => match j, hj with
  | 0, _ => rfl
  | 1, _ => rfl
  | 2, _ => rfl
  | 3, _ => rfl
  | 4, _ => rfl
  | 5, _ => rfl
  | n + 6, h => absurd h (by omega)
theorem in_X1 : Cond.instantiable RX1 3 ∈ lw_tbl := List.mem_append_right _ (List.mem_of_getElem? (i := 188) (by decide +kernel))
theorem ii_X1 : Cond.initialized RX1 ∈ lw_tbl := List.mem_append_right _ (List.mem_of_getElem? (i := 8) (by decide +kernel))
theorem df_X1 : ∀ j, j < 3 → defaultValue (tyX1 j) = vp_V [.int 0, .int 0, .null] j := fun j hj => match j, hj with
  | 0, _ => rfl
  | 1, _ => rfl
  | 2, _ => rfl
  | n + 3, h => absurd h (by omega)
theorem in_X2 : Cond.instantiable RX2 10 ∈ lw_tbl := List.mem_append_right _ (List.mem_of_getElem? (i := 114) (by decide +kernel))
theorem ii_X2 : Cond.initialized RX2 ∈ lw_tbl := List.mem_append_right _ (List.mem_of_getElem? (i := 6) (by decide +kernel))
theorem df_X2 : ∀ j, j < 10 → defaultValue (tyX2 j) = vp_V [.int 0, .int 0, .int 0, .int 0, .int 0, .int 0, .int 0, .int 0, .int 0, .int 0] j := fun j hj => match j, hj with
  | 0, _ => rfl
  | 1, _ => rfl
  | 2, _ => rfl
  | 3, _ => rfl
  | 4, _ => rfl
  | 5, _ => rfl
  | 6, _ => rfl
  | 7, _ => rfl
  | 8, _ => rfl
  | 9, _ => rfl
  | n + 10, h => absurd h (by omega)
theorem in_X3 : Cond.instantiable RX3 5 ∈ lw_tbl := List.mem_append_right _ (List.mem_of_getElem? (i := 67) (by decide +kernel))
theorem ii_X3 : Cond.initialized RX3 ∈ lw_tbl := List.mem_append_right _ (List.mem_of_getElem? (i := 4) (by decide +kernel))
theorem df_X3 : ∀ j, j < 5 → defaultValue (tyX3 j) = vp_V [.null, .null, .int 0, .int 0, .int 0] j := fun j hj => match j, hj with
  | 0, _ => rfl
  | 1, _ => rfl
  | 2, _ => rfl
  | 3, _ => rfl
  | 4, _ => rfl
  | n + 5, h => absurd h (by omega)
theorem in_X4 : Cond.instantiable RX4 9 ∈ lw_tbl := List.mem_append_right _ (List.mem_of_getElem? (i := 24) (by decide +kernel))
theorem ii_X4 : Cond.initialized RX4 ∈ lw_tbl := List.mem_append_right _ (List.mem_of_getElem? (i := 2) (by decide +kernel))
theorem df_X4 : ∀ j, j < 9 → defaultValue (tyX4 j) = vp_V [.int 0, .int 0, .int 0, .int 0, .int 0, .null, .null, .int 0, .int 0] j := fun j hj => match j, hj with
  | 0, _ => rfl
  | 1, _ => rfl
  | 2, _ => rfl
  | 3, _ => rfl
  | 4, _ => rfl
  | 5, _ => rfl
  | 6, _ => rfl
  | 7, _ => rfl
  | 8, _ => rfl
  | n + 9, h => absurd h (by omega)
theorem in_X5 : Cond.instantiable RX5 6 ∈ lw_tbl := List.mem_append_right _ (List.mem_of_getElem? (i := 89) (by decide +kernel))
theorem ii_X5 : Cond.initialized RX5 ∈ lw_tbl := List.mem_append_right _ (List.mem_of_getElem? (i := 5) (by decide +kernel))
theorem df_X5 : ∀ j, j < 6 → defaultValue (tyX5 j) = vp_V [.int 0, .null, .null, .null, .int 0, .int 0] j := fun j hj => match j, hj with
  | 0, _ => rfl
  | 1, _ => rfl
  | 2, _ => rfl
  | 3, _ => rfl
  | 4, _ => rfl
  | 5, _ => rfl
  | n + 6, h => absurd h (by omega)
theorem in_X6 : Cond.instantiable RX6 9 ∈ lw_tbl := List.mem_append_right _ (List.mem_of_getElem? (i := 16) (by decide +kernel))
theorem ii_X6 : Cond.initialized RX6 ∈ lw_tbl := List.mem_append_right _ (List.mem_of_getElem? (i := 1) (by decide +kernel))
theorem df_X6 : ∀ j, j < 9 → defaultValue (tyX6 j) = vp_V [.null, .null, .null, .null, .null, .null, .null, .null, .null] j := fun j hj => match j, hj with
  | 0, _ => rfl
  | 1, _ => rfl
  | 2, _ => rfl
  | 3, _ => rfl
  | 4, _ => rfl
  | 5, _ => rfl
  | 6, _ => rfl
  | 7, _ => rfl
  | 8, _ => rfl
  | n + 9, h => absurd h (by omega)
theorem in_X7 : Cond.instantiable RX7 36 ∈ lw_tbl := List.mem_append_right _ (List.mem_of_getElem? (i := 662) (by decide +kernel))
theorem ii_X7 : Cond.initialized RX7 ∈ lw_tbl := List.mem_append_right _ (List.mem_of_getElem? (i := 9) (by decide +kernel))
theorem df_X7 : ∀ j, j < 36 → defaultValue (tyX7 j) = vp_V [.int 0, .int 0, .int 0, .int 0, .int 0, .int 0, .null, .null, .int 0, .null, .null, .null, .int 0, .null, .null, .int 0, .int 0, .null, .null, .null, .null, .null, .int 0, .int 0, .int 0, .int 0, .int 0, .int 0, .int 0, .int 0, .int 0, .null, .null, .null, .int 0, .int 0] j := fun j hj => match j, hj with
  | 0, _ => rfl
  | 1, _ => rfl
  | 2, _ => rfl
  | 3, _ => rfl
  | 4, _ => rfl
  | 5, _ => rfl
  | 6, _ => rfl
  | 7, _ => rfl
  | 8, _ => rfl
  | 9, _ => rfl
  | 10, _ => rfl
  | 11, _ => rfl
  | 12, _ => rfl
  | 13, _ => rfl
  | 14, _ => rfl
  | 15, _ => rfl
  | 16, _ => rfl
  | 17, _ => rfl
  | 18, _ => rfl
  | 19, _ => rfl
  | 20, _ => rfl
  | 21, _ => rfl
  | 22, _ => rfl
  | 23, _ => rfl
  | 24, _ => rfl
  | 25, _ => rfl
  | 26, _ => rfl
  | 27, _ => rfl
  | 28, _ => rfl
  | 29, _ => rfl
  | 30, _ => rfl
  | 31, _ => rfl
  | 32, _ => rfl
  | 33, _ => rfl
  | 34, _ => rfl
  | 35, _ => rfl
  | n + 36, h => absurd h (by omega)
theorem cl_X6_9 : Cond.classLink "RampDriver" 9 RX4 ∈ lw_tbl := List.mem_append_right _ (List.mem_of_getElem? (i := 23) (by decide +kernel))
theorem cl_X6_16 : Cond.classLink "RampDriver" 16 RX3 ∈ lw_tbl := List.mem_append_right _ (List.mem_of_getElem? (i := 66) (by decide +kernel))
theorem cl_X6_23 : Cond.classLink "RampDriver" 23 RX5 ∈ lw_tbl := List.mem_append_right _ (List.mem_of_getElem? (i := 88) (by decide +kernel))
theorem cl_X6_35 : Cond.classLink "RampDriver" 35 RX2 ∈ lw_tbl := List.mem_append_right _ (List.mem_of_getElem? (i := 113) (by decide +kernel))
theorem cl_X6_42 : Cond.classLink "RampDriver" 42 RX0 ∈ lw_tbl := List.mem_append_right _ (List.mem_of_getElem? (i := 159) (by decide +kernel))
theorem cl_X6_55 : Cond.classLink "RampDriver" 55 RX1 ∈ lw_tbl := List.mem_append_right _ (List.mem_of_getElem? (i := 187) (by decide +kernel))
theorem cl_L_8 : Cond.classLink "RampDriverLaw" 8 RX6 ∈ lw_tbl := List.mem_append_right _ (List.mem_of_getElem? (i := 15) (by decide +kernel))
theorem cl_L_20 : Cond.classLink "RampDriverLaw" 20 RX7 ∈ lw_tbl := List.mem_append_right _ (List.mem_of_getElem? (i := 661) (by decide +kernel))
theorem ar_I : Cond.arrayClass .int ∈ lw_tbl := List.mem_append_right _ (List.mem_of_getElem? (i := 65) (by decide +kernel))
theorem ar_Z : Cond.arrayClass .boolean ∈ lw_tbl := List.mem_append_right _ (List.mem_of_getElem? (i := 64) (by decide +kernel))
theorem ar_J : Cond.arrayClass .long ∈ lw_tbl := List.mem_append_right _ (List.mem_of_getElem? (i := 926) (by decide +kernel))
theorem okX0_init : an_okI ydX0_init 0 := ⟨⟨rfl, List.mem_append_right _ (List.mem_of_getElem? (i := 162) (by decide +kernel))⟩, List.mem_append_right _ (List.mem_of_getElem? (i := 7) (by decide +kernel)), List.mem_append_right _ (List.mem_of_getElem? (i := 163) (by decide +kernel)), rfl, ⟨by decide +kernel, by decide +kernel, by decide +kernel⟩⟩
theorem okX1_init : an_okI ydX1_init 0 := ⟨⟨rfl, List.mem_append_right _ (List.mem_of_getElem? (i := 190) (by decide +kernel))⟩, List.mem_append_right _ (List.mem_of_getElem? (i := 8) (by decide +kernel)), List.mem_append_right _ (List.mem_of_getElem? (i := 191) (by decide +kernel)), rfl, ⟨by decide +kernel, by decide +kernel, by decide +kernel⟩⟩
theorem okX2_init : an_okI ydX2_init 0 := ⟨⟨rfl, List.mem_append_right _ (List.mem_of_getElem? (i := 116) (by decide +kernel))⟩, List.mem_append_right _ (List.mem_of_getElem? (i := 6) (by decide +kernel)), List.mem_append_right _ (List.mem_of_getElem? (i := 117) (by decide +kernel)), rfl, ⟨by decide +kernel, by decide +kernel, by decide +kernel⟩⟩
theorem okX3_init : an_okI ydX3_init 0 := ⟨⟨rfl, List.mem_append_right _ (List.mem_of_getElem? (i := 69) (by decide +kernel))⟩, List.mem_append_right _ (List.mem_of_getElem? (i := 4) (by decide +kernel)), List.mem_append_right _ (List.mem_of_getElem? (i := 70) (by decide +kernel)), rfl, ⟨by decide +kernel, by decide +kernel, by decide +kernel⟩⟩
theorem okX4_init : an_okI ydX4_init 0 := ⟨⟨rfl, List.mem_append_right _ (List.mem_of_getElem? (i := 26) (by decide +kernel))⟩, List.mem_append_right _ (List.mem_of_getElem? (i := 2) (by decide +kernel)), List.mem_append_right _ (List.mem_of_getElem? (i := 27) (by decide +kernel)), rfl, ⟨by decide +kernel, by decide +kernel, by decide +kernel⟩⟩
theorem okX5_init : an_okI ydX5_init 1 := ⟨⟨rfl, List.mem_append_right _ (List.mem_of_getElem? (i := 91) (by decide +kernel))⟩, List.mem_append_right _ (List.mem_of_getElem? (i := 5) (by decide +kernel)), List.mem_append_right _ (List.mem_of_getElem? (i := 92) (by decide +kernel)), rfl, ⟨by decide +kernel, by decide +kernel, by decide +kernel⟩⟩
theorem okX6_init : an_okI ydX6_init 0 := ⟨⟨rfl, List.mem_append_right _ (List.mem_of_getElem? (i := 18) (by decide +kernel))⟩, List.mem_append_right _ (List.mem_of_getElem? (i := 1) (by decide +kernel)), List.mem_append_right _ (List.mem_of_getElem? (i := 19) (by decide +kernel)), rfl, ⟨by decide +kernel, by decide +kernel, by decide +kernel⟩⟩
theorem okX7_init : an_okI ydX7_init 0 := ⟨⟨rfl, List.mem_append_right _ (List.mem_of_getElem? (i := 664) (by decide +kernel))⟩, List.mem_append_right _ (List.mem_of_getElem? (i := 9) (by decide +kernel)), List.mem_append_right _ (List.mem_of_getElem? (i := 665) (by decide +kernel)), rfl, ⟨by decide +kernel, by decide +kernel, by decide +kernel⟩⟩
set_option maxRecDepth 100000 in
set_option maxHeartbeats 400000 in
theorem c2_X7_isIn (ad : Nat → Nat) (M : am_M) (n l m : Int32) : am_C ydX7_isIn ad [36, 21] [.int n, .int l, .int m] M (am_is (bI (sp_in n l m)) M) := by
  refine am_ofW (by decide +kernel) (by simp [Value.category]) (Nat.le_of_ble_eq_true rfl) rfl ?_
  refine am_iload_n rfl dX7_isIn_0 ?_
  refine am_iload_n rfl dX7_isIn_1 ?_
  refine am_icmp_lt (tgt := 14) (by decide) dX7_isIn_2 (fun h2 => ?_) (fun h2 => ?_)
  · refine am_iconst (v := 0) (by decide) dX7_isIn_14 ?_
    refine am_zret rfl (by first | exact am_nb _ | decide) dX7_isIn_15 ?_
    refine am_isF ?_
    simp only [sp_in, decide_eq_true_eq, decide_eq_false_iff_not, Bool.and_eq_true, Bool.or_eq_true, Bool.not_eq_true', Bool.and_eq_false_iff, bI_0] at *
    first | (simp_all; done) | (simp only [Int32.le_iff_toInt_le, Int32.lt_iff_toInt_lt, ← Int32.toInt_inj, Int32.toInt_zero, kI_1, kI_2, kI_3, kI_4, kI_5, kI_6, kI_7, kI_8, kI_9, kI_10, kI_12, kI_13, kI_31, kI_100, kI_200, kI_201, kI_400, kI_1000, kI_2000, kI_1000000, kI_m1, kI_m4, kI_m200, kI_m2000] at *; omega)
  · refine am_iload_n rfl dX7_isIn_5 ?_
    refine am_iload_n rfl dX7_isIn_6 ?_
    refine am_icmp_gt (tgt := 14) (by decide) dX7_isIn_7 (fun h7 => ?_) (fun h7 => ?_)
    · refine am_iconst (v := 0) (by decide) dX7_isIn_14 ?_
      refine am_zret rfl (by first | exact am_nb _ | decide) dX7_isIn_15 ?_
      refine am_isF ?_
      simp only [sp_in, decide_eq_true_eq, decide_eq_false_iff_not, Bool.and_eq_true, Bool.or_eq_true, Bool.not_eq_true', Bool.and_eq_false_iff, bI_0] at *
      first | (simp_all; done) | (simp only [Int32.le_iff_toInt_le, Int32.lt_iff_toInt_lt, ← Int32.toInt_inj, Int32.toInt_zero, kI_1, kI_2, kI_3, kI_4, kI_5, kI_6, kI_7, kI_8, kI_9, kI_10, kI_12, kI_13, kI_31, kI_100, kI_200, kI_201, kI_400, kI_1000, kI_2000, kI_1000000, kI_m1, kI_m4, kI_m200, kI_m2000] at *; omega)
    · refine am_iconst (v := 1) (by decide) dX7_isIn_10 ?_
      refine am_goto (tgt := 15) (by decide) dX7_isIn_11 ?_
      refine am_zret rfl (by first | exact am_nb _ | decide) dX7_isIn_15 ?_
      refine am_isT ?_
      simp only [sp_in, decide_eq_true_eq, decide_eq_false_iff_not, Bool.and_eq_true, Bool.or_eq_true, Bool.not_eq_true', Bool.and_eq_false_iff, bI_0] at *
      first | (simp_all; done) | (simp only [Int32.le_iff_toInt_le, Int32.lt_iff_toInt_lt, ← Int32.toInt_inj, Int32.toInt_zero, kI_1, kI_2, kI_3, kI_4, kI_5, kI_6, kI_7, kI_8, kI_9, kI_10, kI_12, kI_13, kI_31, kI_100, kI_200, kI_201, kI_400, kI_1000, kI_2000, kI_1000000, kI_m1, kI_m4, kI_m200, kI_m2000] at *; omega)
set_option maxRecDepth 100000 in
set_option maxHeartbeats 400000 in
theorem lp2_X7_table (ad : Nat → Nat) (M : am_M) (n32 : Int32) (k : Nat) (hk : 1 ≤ k ∧ k ≤ 8) (l : Int32) (b : Int32) (hb : b = 1) (P0 : am_M) (hP : mo_layJ M k l (k + 1) = P0) : ∀ (n j : Nat), j ≤ k + 1 → k + 1 - j < n → am_W ydX7_table ad [36, 21] (am_is b P0) 50 [some (.ref (ad 21)), some (.int n32), some (.int l), some (.int (nI j))] [] (mo_layJ M k l j) := by
  intro n
  induction n with
  | zero => intro j _ h; omega
  | succ n ih =>
    intro j hj hn
    have hf := mo_layJ_f M k l j
    refine am_iload_n rfl dX7_table_50 ?_
    refine am_aload_n rfl dX7_table_51 ?_
    refine am_geti (j := 34) (by decide) rfl rfl rfl hTX7 (by decide) fl_X7_174 dX7_table_52 ?_
    rw [hf.1]
    refine am_icmp_gt (tgt := 86) (by decide) dX7_table_55 (fun h55 => ?_) (fun h55 => ?_)
    · refine am_iconst (v := 1) (by decide) dX7_table_86 ?_
      refine am_zret rfl (by first | exact am_nb _ | decide) dX7_table_87 ?_
      obtain rfl : j = k + 1 := (by simp only [nI_e, Int32.lt_iff_toInt_lt] at h55; omega)
      exact ⟨by rw [hb], hP⟩
    · refine am_aload_n rfl dX7_table_58 ?_
      refine am_getr (j := 33) (by decide) rfl rfl rfl hTX7 (by decide) fl_X7_66 dX7_table_59 ?_
      refine am_iload_n rfl dX7_table_62 ?_
      refine am_aload_n rfl dX7_table_63 ?_
      refine am_geti (j := 35) (by decide) rfl rfl rfl hTX7 (by decide) fl_X7_177 dX7_table_64 ?_
      refine am_aload_n rfl dX7_table_67 ?_
      refine am_geti (j := 34) (by decide) rfl rfl rfl hTX7 (by decide) fl_X7_174 dX7_table_68 ?_
      refine am_iload_n rfl dX7_table_71 ?_
      refine am_isub dX7_table_72 ?_
      refine am_imul dX7_table_73 ?_
      refine am_aload_n rfl dX7_table_74 ?_
      refine am_geti (j := 34) (by decide) rfl rfl rfl hTX7 (by decide) fl_X7_174 dX7_table_75 ?_
      rw [hf.1, hf.2]
      refine am_idiv (nI_nz hk.1 hk.2) dX7_table_78 ?_
      refine am_iast (by decide) rfl (am_vpI (by simp only [nI_e, Int32.lt_iff_toInt_lt] at *; omega) (by simp only [nI_e, Int32.lt_iff_toInt_lt] at *; omega)) dX7_table_79 ?_
      refine am_iinc (v := nI (j + 1)) rfl (nI_inc j) (by decide) dX7_table_80 ?_
      refine am_goto (tgt := 50) (by decide) dX7_table_83 ?_
      refine am_M_eq ?_ (ih (j + 1) (by simp only [nI_e, Int32.lt_iff_toInt_lt] at *; omega) (by simp only [nI_e, Int32.lt_iff_toInt_lt] at *; omega))
      exact mo_layJ_s M k l j (by omega)
set_option maxRecDepth 100000 in
set_option maxHeartbeats 400000 in
theorem c2_X7_table (ad : Nat → Nat) (M : am_M) (n l : Int32) : am_C ydX7_table ad [36, 21] [.ref (ad 21), .int n, .int l] M (am_is (bI (sp_okTab n l)) (if sp_okTab n l = true then mo_lay (md M) n l else md M)) := by
  refine am_ofW (L := [some (.ref (ad 21)), some (.int n), some (.int l), none]) (by decide +kernel) (by simp [Value.category]) (Nat.le_of_ble_eq_true rfl) rfl ?_
  refine am_aload_n rfl dX7_table_0 ?_
  refine am_iconst (v := 0) (by decide) dX7_table_1 ?_
  refine am_puti (j := 0) (by decide) rfl rfl rfl hTX7 tyX7_ok nmX7 (by decide) fl_X7_73 rfl rfl rfl rfl dX7_table_2 ?_
  refine am_iload_n rfl dX7_table_5 ?_
  refine am_iconst (v := 1) (by decide) dX7_table_6 ?_
  refine am_icmp_eq (tgt := 26) (by decide) dX7_table_7 (fun h7 => ?_) (fun h7 => ?_)
  · refine am_iload_n rfl dX7_table_26 ?_
    refine am_iconst (v := 1) (by decide) dX7_table_27 ?_
    refine am_bipush (v := 100) (by decide) dX7_table_28 ?_
    refine am_callSi (c2_X7_isIn ad _ _ _ _) okX7_isIn ml_X7_80 rfl ⟨by decide, by decide⟩ (Nat.le_of_ble_eq_true rfl) rfl dX7_table_30 ?_
    refine am_ifb_ne (tgt := 38) (by decide) dX7_table_33 (fun h33 => ?_) (fun h33 => ?_)
    · refine am_aload_n rfl dX7_table_38 ?_
      refine am_iload_n rfl dX7_table_39 ?_
      refine am_puti (j := 34) (by decide) rfl rfl rfl hTX7 tyX7_ok nmX7 (by decide) fl_X7_174 rfl rfl rfl rfl dX7_table_40 ?_
      refine am_aload_n rfl dX7_table_43 ?_
      refine am_iload_n rfl dX7_table_44 ?_
      refine am_puti (j := 35) (by decide) rfl rfl rfl hTX7 tyX7_ok nmX7 (by decide) fl_X7_177 rfl rfl rfl rfl dX7_table_45 ?_
      refine am_iconst (v := 0) (by decide) dX7_table_48 ?_
      refine am_istore_n (by decide) dX7_table_49 ?_
      have hok : sp_okTab n l = true := (by simp_all [sp_okTab])
      rw [hok, if_pos rfl]
      have hk : 1 ≤ n.toInt.toNat ∧ n.toInt.toNat ≤ 8 ∧ n = nI n.toInt.toNat := by
        unfold sp_okTab at hok
        rw [Bool.and_eq_true, decide_eq_true_eq] at hok
        rcases hok.1 with e | e | e | e <;> rw [e] <;> decide
      refine am_eq rfl rfl (M' := mo_layJ (md M) n.toInt.toNat l 0) ?_ (lp2_X7_table ad (md M) n n.toInt.toNat ⟨hk.1, hk.2.1⟩ l _ rfl _ rfl (n.toInt.toNat + 2) 0 (by omega) (by omega))
      rw [← mo_layJ_0, ← hk.2.2]
    · refine am_iconst (v := 0) (by decide) dX7_table_36 ?_
      refine am_zret rfl (by first | exact am_nb _ | decide) dX7_table_37 ?_
      refine am_isFc ?_ rfl
      simp_all [sp_okTab]
  · refine am_iload_n rfl dX7_table_10 ?_
    refine am_iconst (v := 2) (by decide) dX7_table_11 ?_
    refine am_icmp_eq (tgt := 26) (by decide) dX7_table_12 (fun h12 => ?_) (fun h12 => ?_)
    · refine am_iload_n rfl dX7_table_26 ?_
      refine am_iconst (v := 1) (by decide) dX7_table_27 ?_
      refine am_bipush (v := 100) (by decide) dX7_table_28 ?_
      refine am_callSi (c2_X7_isIn ad _ _ _ _) okX7_isIn ml_X7_80 rfl ⟨by decide, by decide⟩ (Nat.le_of_ble_eq_true rfl) rfl dX7_table_30 ?_
      refine am_ifb_ne (tgt := 38) (by decide) dX7_table_33 (fun h33 => ?_) (fun h33 => ?_)
      · refine am_aload_n rfl dX7_table_38 ?_
        refine am_iload_n rfl dX7_table_39 ?_
        refine am_puti (j := 34) (by decide) rfl rfl rfl hTX7 tyX7_ok nmX7 (by decide) fl_X7_174 rfl rfl rfl rfl dX7_table_40 ?_
        refine am_aload_n rfl dX7_table_43 ?_
        refine am_iload_n rfl dX7_table_44 ?_
        refine am_puti (j := 35) (by decide) rfl rfl rfl hTX7 tyX7_ok nmX7 (by decide) fl_X7_177 rfl rfl rfl rfl dX7_table_45 ?_
        refine am_iconst (v := 0) (by decide) dX7_table_48 ?_
        refine am_istore_n (by decide) dX7_table_49 ?_
        have hok : sp_okTab n l = true := (by simp_all [sp_okTab])
        rw [hok, if_pos rfl]
        have hk : 1 ≤ n.toInt.toNat ∧ n.toInt.toNat ≤ 8 ∧ n = nI n.toInt.toNat := by
          unfold sp_okTab at hok
          rw [Bool.and_eq_true, decide_eq_true_eq] at hok
          rcases hok.1 with e | e | e | e <;> rw [e] <;> decide
        refine am_eq rfl rfl (M' := mo_layJ (md M) n.toInt.toNat l 0) ?_ (lp2_X7_table ad (md M) n n.toInt.toNat ⟨hk.1, hk.2.1⟩ l _ rfl _ rfl (n.toInt.toNat + 2) 0 (by omega) (by omega))
        rw [← mo_layJ_0, ← hk.2.2]
      · refine am_iconst (v := 0) (by decide) dX7_table_36 ?_
        refine am_zret rfl (by first | exact am_nb _ | decide) dX7_table_37 ?_
        refine am_isFc ?_ rfl
        simp_all [sp_okTab]
    · refine am_iload_n rfl dX7_table_15 ?_
      refine am_iconst (v := 4) (by decide) dX7_table_16 ?_
      refine am_icmp_eq (tgt := 26) (by decide) dX7_table_17 (fun h17 => ?_) (fun h17 => ?_)
      · refine am_iload_n rfl dX7_table_26 ?_
        refine am_iconst (v := 1) (by decide) dX7_table_27 ?_
        refine am_bipush (v := 100) (by decide) dX7_table_28 ?_
        refine am_callSi (c2_X7_isIn ad _ _ _ _) okX7_isIn ml_X7_80 rfl ⟨by decide, by decide⟩ (Nat.le_of_ble_eq_true rfl) rfl dX7_table_30 ?_
        refine am_ifb_ne (tgt := 38) (by decide) dX7_table_33 (fun h33 => ?_) (fun h33 => ?_)
        · refine am_aload_n rfl dX7_table_38 ?_
          refine am_iload_n rfl dX7_table_39 ?_
          refine am_puti (j := 34) (by decide) rfl rfl rfl hTX7 tyX7_ok nmX7 (by decide) fl_X7_174 rfl rfl rfl rfl dX7_table_40 ?_
          refine am_aload_n rfl dX7_table_43 ?_
          refine am_iload_n rfl dX7_table_44 ?_
          refine am_puti (j := 35) (by decide) rfl rfl rfl hTX7 tyX7_ok nmX7 (by decide) fl_X7_177 rfl rfl rfl rfl dX7_table_45 ?_
          refine am_iconst (v := 0) (by decide) dX7_table_48 ?_
          refine am_istore_n (by decide) dX7_table_49 ?_
          have hok : sp_okTab n l = true := (by simp_all [sp_okTab])
          rw [hok, if_pos rfl]
          have hk : 1 ≤ n.toInt.toNat ∧ n.toInt.toNat ≤ 8 ∧ n = nI n.toInt.toNat := by
            unfold sp_okTab at hok
            rw [Bool.and_eq_true, decide_eq_true_eq] at hok
            rcases hok.1 with e | e | e | e <;> rw [e] <;> decide
          refine am_eq rfl rfl (M' := mo_layJ (md M) n.toInt.toNat l 0) ?_ (lp2_X7_table ad (md M) n n.toInt.toNat ⟨hk.1, hk.2.1⟩ l _ rfl _ rfl (n.toInt.toNat + 2) 0 (by omega) (by omega))
          rw [← mo_layJ_0, ← hk.2.2]
        · refine am_iconst (v := 0) (by decide) dX7_table_36 ?_
          refine am_zret rfl (by first | exact am_nb _ | decide) dX7_table_37 ?_
          refine am_isFc ?_ rfl
          simp_all [sp_okTab]
      · refine am_iload_n rfl dX7_table_20 ?_
        refine am_bipush (v := 8) (by decide) dX7_table_21 ?_
        refine am_icmp_ne (tgt := 36) (by decide) dX7_table_23 (fun h23 => ?_) (fun h23 => ?_)
        · refine am_iconst (v := 0) (by decide) dX7_table_36 ?_
          refine am_zret rfl (by first | exact am_nb _ | decide) dX7_table_37 ?_
          refine am_isFc ?_ rfl
          simp_all [sp_okTab]
        · refine am_iload_n rfl dX7_table_26 ?_
          refine am_iconst (v := 1) (by decide) dX7_table_27 ?_
          refine am_bipush (v := 100) (by decide) dX7_table_28 ?_
          refine am_callSi (c2_X7_isIn ad _ _ _ _) okX7_isIn ml_X7_80 rfl ⟨by decide, by decide⟩ (Nat.le_of_ble_eq_true rfl) rfl dX7_table_30 ?_
          refine am_ifb_ne (tgt := 38) (by decide) dX7_table_33 (fun h33 => ?_) (fun h33 => ?_)
          · refine am_aload_n rfl dX7_table_38 ?_
            refine am_iload_n rfl dX7_table_39 ?_
            refine am_puti (j := 34) (by decide) rfl rfl rfl hTX7 tyX7_ok nmX7 (by decide) fl_X7_174 rfl rfl rfl rfl dX7_table_40 ?_
            refine am_aload_n rfl dX7_table_43 ?_
            refine am_iload_n rfl dX7_table_44 ?_
            refine am_puti (j := 35) (by decide) rfl rfl rfl hTX7 tyX7_ok nmX7 (by decide) fl_X7_177 rfl rfl rfl rfl dX7_table_45 ?_
            refine am_iconst (v := 0) (by decide) dX7_table_48 ?_
            refine am_istore_n (by decide) dX7_table_49 ?_
            have hok : sp_okTab n l = true := (by simp_all [sp_okTab])
            rw [hok, if_pos rfl]
            have hk : 1 ≤ n.toInt.toNat ∧ n.toInt.toNat ≤ 8 ∧ n = nI n.toInt.toNat := by
              unfold sp_okTab at hok
              rw [Bool.and_eq_true, decide_eq_true_eq] at hok
              rcases hok.1 with e | e | e | e <;> rw [e] <;> decide
            refine am_eq rfl rfl (M' := mo_layJ (md M) n.toInt.toNat l 0) ?_ (lp2_X7_table ad (md M) n n.toInt.toNat ⟨hk.1, hk.2.1⟩ l _ rfl _ rfl (n.toInt.toNat + 2) 0 (by omega) (by omega))
            rw [← mo_layJ_0, ← hk.2.2]
          · refine am_iconst (v := 0) (by decide) dX7_table_36 ?_
            refine am_zret rfl (by first | exact am_nb _ | decide) dX7_table_37 ?_
            refine am_isFc ?_ rfl
            simp_all [sp_okTab]
set_option maxRecDepth 100000 in
set_option maxHeartbeats 400000 in
theorem c_X0_init (q : Nat) : an_C ydX0_init 0 0 [.ref q] [(q, .inl (0, [.int 0, .int 0, .int 0, .int 0, .int 0, .int 0]))] (fun w => w = [(q, .inl (0, [.int 0, .int 0, .int 0, .int 0, .int 0, .int 0]))]) := by
  refine an_ofW (L := [some (.ref q)]) (by decide +kernel) rfl (by simp [Value.category]) (Nat.le_of_ble_eq_true rfl) rfl ?_
  refine an_aload_n rfl dX0_init_0 ?_
  refine an_oinit ml_X0_1 ow_i ow_c (by decide) (Nat.le_of_ble_eq_true rfl) dX0_init_1 ?_
  refine an_aload_n rfl dX0_init_4 ?_
  refine an_iconst (v := 0) (by decide) dX0_init_5 ?_
  refine an_put (k := 0) (ci := 0) rfl hTX0 tyX0_ok nmX0 0 rfl (by decide) fl_X0_7 rfl rfl rfl rfl (Nat.le_of_ble_eq_true rfl) dX0_init_6 (ws' := [(q, .inl (0, [.int 0, .int 0, .int 0, .int 0, .int 0, .int 0]))]) rfl ?_
  refine an_aload_n rfl dX0_init_9 ?_
  refine an_iconst (v := 0) (by decide) dX0_init_10 ?_
  refine an_put (k := 1) (ci := 0) rfl hTX0 tyX0_ok nmX0 0 rfl (by decide) fl_X0_13 rfl rfl rfl rfl (Nat.le_of_ble_eq_true rfl) dX0_init_11 (ws' := [(q, .inl (0, [.int 0, .int 0, .int 0, .int 0, .int 0, .int 0]))]) rfl ?_
  refine an_aload_n rfl dX0_init_14 ?_
  refine an_iconst (v := 0) (by decide) dX0_init_15 ?_
  refine an_put (k := 2) (ci := 0) rfl hTX0 tyX0_ok nmX0 0 rfl (by decide) fl_X0_16 rfl rfl rfl rfl (Nat.le_of_ble_eq_true rfl) dX0_init_16 (ws' := [(q, .inl (0, [.int 0, .int 0, .int 0, .int 0, .int 0, .int 0]))]) rfl ?_
  refine an_aload_n rfl dX0_init_19 ?_
  refine an_iconst (v := 0) (by decide) dX0_init_20 ?_
  refine an_put (k := 3) (ci := 0) rfl hTX0 tyX0_ok nmX0 0 rfl (by decide) fl_X0_20 rfl rfl rfl rfl (Nat.le_of_ble_eq_true rfl) dX0_init_21 (ws' := [(q, .inl (0, [.int 0, .int 0, .int 0, .int 0, .int 0, .int 0]))]) rfl ?_
  refine an_aload_n rfl dX0_init_24 ?_
  refine an_iconst (v := 0) (by decide) dX0_init_25 ?_
  refine an_put (k := 4) (ci := 0) rfl hTX0 tyX0_ok nmX0 0 rfl (by decide) fl_X0_23 rfl rfl rfl rfl (Nat.le_of_ble_eq_true rfl) dX0_init_26 (ws' := [(q, .inl (0, [.int 0, .int 0, .int 0, .int 0, .int 0, .int 0]))]) rfl ?_
  refine an_aload_n rfl dX0_init_29 ?_
  refine an_iconst (v := 0) (by decide) dX0_init_30 ?_
  refine an_put (k := 5) (ci := 0) rfl hTX0 tyX0_ok nmX0 0 rfl (by decide) fl_X0_26 rfl rfl rfl rfl (Nat.le_of_ble_eq_true rfl) dX0_init_31 (ws' := [(q, .inl (0, [.int 0, .int 0, .int 0, .int 0, .int 0, .int 0]))]) rfl ?_
  refine an_vret rfl dX0_init_34 ?_
  exact rfl
set_option maxRecDepth 100000 in
set_option maxHeartbeats 400000 in
theorem c_X2_init (q : Nat) : an_C ydX2_init 0 0 [.ref q] [(q, .inl (2, [.int 0, .int 0, .int 0, .int 0, .int 0, .int 0, .int 0, .int 0, .int 0, .int 0]))] (fun w => w = [(q, .inl (2, [.int 0, .int 0, .int 0, .int 0, .int 0, .int 0, .int (-1), .int 0, .int 0, .int 0]))]) := by
  refine an_ofW (L := [some (.ref q)]) (by decide +kernel) rfl (by simp [Value.category]) (Nat.le_of_ble_eq_true rfl) rfl ?_
  refine an_aload_n rfl dX2_init_0 ?_
  refine an_oinit ml_X2_3 ow_i ow_c (by decide) (Nat.le_of_ble_eq_true rfl) dX2_init_1 ?_
  refine an_aload_n rfl dX2_init_4 ?_
  refine an_iconst (v := 0) (by decide) dX2_init_5 ?_
  refine an_put (k := 0) (ci := 2) rfl hTX2 tyX2_ok nmX2 0 rfl (by decide) fl_X2_9 rfl rfl rfl rfl (Nat.le_of_ble_eq_true rfl) dX2_init_6 (ws' := [(q, .inl (2, [.int 0, .int 0, .int 0, .int 0, .int 0, .int 0, .int 0, .int 0, .int 0, .int 0]))]) rfl ?_
  refine an_aload_n rfl dX2_init_9 ?_
  refine an_iconst (v := 0) (by decide) dX2_init_10 ?_
  refine an_put (k := 1) (ci := 2) rfl hTX2 tyX2_ok nmX2 0 rfl (by decide) fl_X2_15 rfl rfl rfl rfl (Nat.le_of_ble_eq_true rfl) dX2_init_11 (ws' := [(q, .inl (2, [.int 0, .int 0, .int 0, .int 0, .int 0, .int 0, .int 0, .int 0, .int 0, .int 0]))]) rfl ?_
  refine an_aload_n rfl dX2_init_14 ?_
  refine an_iconst (v := 0) (by decide) dX2_init_15 ?_
  refine an_put (k := 2) (ci := 2) rfl hTX2 tyX2_ok nmX2 0 rfl (by decide) fl_X2_18 rfl rfl rfl rfl (Nat.le_of_ble_eq_true rfl) dX2_init_16 (ws' := [(q, .inl (2, [.int 0, .int 0, .int 0, .int 0, .int 0, .int 0, .int 0, .int 0, .int 0, .int 0]))]) rfl ?_
  refine an_aload_n rfl dX2_init_19 ?_
  refine an_iconst (v := 0) (by decide) dX2_init_20 ?_
  refine an_put (k := 3) (ci := 2) rfl hTX2 tyX2_ok nmX2 0 rfl (by decide) fl_X2_21 rfl rfl rfl rfl (Nat.le_of_ble_eq_true rfl) dX2_init_21 (ws' := [(q, .inl (2, [.int 0, .int 0, .int 0, .int 0, .int 0, .int 0, .int 0, .int 0, .int 0, .int 0]))]) rfl ?_
  refine an_aload_n rfl dX2_init_24 ?_
  refine an_iconst (v := 0) (by decide) dX2_init_25 ?_
  refine an_put (k := 4) (ci := 2) rfl hTX2 tyX2_ok nmX2 0 rfl (by decide) fl_X2_24 rfl rfl rfl rfl (Nat.le_of_ble_eq_true rfl) dX2_init_26 (ws' := [(q, .inl (2, [.int 0, .int 0, .int 0, .int 0, .int 0, .int 0, .int 0, .int 0, .int 0, .int 0]))]) rfl ?_
  refine an_aload_n rfl dX2_init_29 ?_
  refine an_iconst (v := 0) (by decide) dX2_init_30 ?_
  refine an_put (k := 5) (ci := 2) rfl hTX2 tyX2_ok nmX2 0 rfl (by decide) fl_X2_27 rfl rfl rfl rfl (Nat.le_of_ble_eq_true rfl) dX2_init_31 (ws' := [(q, .inl (2, [.int 0, .int 0, .int 0, .int 0, .int 0, .int 0, .int 0, .int 0, .int 0, .int 0]))]) rfl ?_
  refine an_aload_n rfl dX2_init_34 ?_
  refine an_iconst (v := (-1)) (by decide) dX2_init_35 ?_
  refine an_put (k := 6) (ci := 2) rfl hTX2 tyX2_ok nmX2 0 rfl (by decide) fl_X2_30 rfl rfl rfl rfl (Nat.le_of_ble_eq_true rfl) dX2_init_36 (ws' := [(q, .inl (2, [.int 0, .int 0, .int 0, .int 0, .int 0, .int 0, .int (-1), .int 0, .int 0, .int 0]))]) rfl ?_
  refine an_aload_n rfl dX2_init_39 ?_
  refine an_iconst (v := 0) (by decide) dX2_init_40 ?_
  refine an_put (k := 7) (ci := 2) rfl hTX2 tyX2_ok nmX2 0 rfl (by decide) fl_X2_33 rfl rfl rfl rfl (Nat.le_of_ble_eq_true rfl) dX2_init_41 (ws' := [(q, .inl (2, [.int 0, .int 0, .int 0, .int 0, .int 0, .int 0, .int (-1), .int 0, .int 0, .int 0]))]) rfl ?_
  refine an_aload_n rfl dX2_init_44 ?_
  refine an_iconst (v := 0) (by decide) dX2_init_45 ?_
  refine an_put (k := 8) (ci := 2) rfl hTX2 tyX2_ok nmX2 0 rfl (by decide) fl_X2_37 rfl rfl rfl rfl (Nat.le_of_ble_eq_true rfl) dX2_init_46 (ws' := [(q, .inl (2, [.int 0, .int 0, .int 0, .int 0, .int 0, .int 0, .int (-1), .int 0, .int 0, .int 0]))]) rfl ?_
  refine an_aload_n rfl dX2_init_49 ?_
  refine an_iconst (v := 0) (by decide) dX2_init_50 ?_
  refine an_put (k := 9) (ci := 2) rfl hTX2 tyX2_ok nmX2 0 rfl (by decide) fl_X2_40 rfl rfl rfl rfl (Nat.le_of_ble_eq_true rfl) dX2_init_51 (ws' := [(q, .inl (2, [.int 0, .int 0, .int 0, .int 0, .int 0, .int 0, .int (-1), .int 0, .int 0, .int 0]))]) rfl ?_
  refine an_vret rfl dX2_init_54 ?_
  exact rfl
set_option maxRecDepth 100000 in
set_option maxHeartbeats 400000 in
theorem c_X3_init (q : Nat) : an_C ydX3_init 2 47034 [.ref q] [(q, .inl (3, [.null, .null, .int 0, .int 0, .int 0]))] (fun w => ∃ q1 q2 : Nat, w = [(q, .inl (3, [.ref q1, .ref q2, .int 0, .int 0, .int 0])), (q1, .inr (.inl (false, 23517, fun _ => 0))), (q2, .inr (.inl (false, 23517, fun _ => 0)))]) := by
  refine an_ofW (L := [some (.ref q)]) (by decide +kernel) rfl (by simp [Value.category]) (Nat.le_of_ble_eq_true rfl) rfl ?_
  refine an_aload_n rfl dX3_init_0 ?_
  refine an_oinit ml_X3_3 ow_i ow_c (by decide) (Nat.le_of_ble_eq_true rfl) dX3_init_1 ?_
  refine an_aload_n rfl dX3_init_4 ?_
  refine an_sipush (v := 23517) (by decide) dX3_init_5 ?_
  refine an_newI (n' := 23517) ar_I (by decide) (by decide +kernel) (Nat.le_of_ble_eq_true rfl) (Nat.le_of_ble_eq_true rfl) (Nat.le_of_ble_eq_true rfl) dX3_init_8 (cs' := 1) (sl' := 23517) rfl rfl (fun q1 => ?_)
  refine an_ws (ws' := [(q, .inl (3, [.null, .null, .int 0, .int 0, .int 0])), (q1, .inr (.inl (false, 23517, fun _ => 0)))]) rfl ?_
  refine an_putF (k := 0) (ci := 3) rfl hTX3 tyX3_ok nmX3 0 rfl (by decide) fl_X3_9 rfl (fun _ _ _ _ _ _ h => h) rfl rfl rfl rfl (Nat.le_of_ble_eq_true rfl) dX3_init_10 (ws' := [(q, .inl (3, [.ref q1, .null, .int 0, .int 0, .int 0])), (q1, .inr (.inl (false, 23517, fun _ => 0)))]) rfl ?_
  refine an_aload_n rfl dX3_init_13 ?_
  refine an_sipush (v := 23517) (by decide) dX3_init_14 ?_
  refine an_newI (n' := 23517) ar_I (by decide) (by decide +kernel) (Nat.le_of_ble_eq_true rfl) (Nat.le_of_ble_eq_true rfl) (Nat.le_of_ble_eq_true rfl) dX3_init_17 (cs' := 2) (sl' := 47034) rfl rfl (fun q2 => ?_)
  refine an_ws (ws' := [(q, .inl (3, [.ref q1, .null, .int 0, .int 0, .int 0])), (q1, .inr (.inl (false, 23517, fun _ => 0))), (q2, .inr (.inl (false, 23517, fun _ => 0)))]) rfl ?_
  refine an_putF (k := 1) (ci := 3) rfl hTX3 tyX3_ok nmX3 0 rfl (by decide) fl_X3_15 rfl (fun _ _ _ _ _ _ h => h) rfl rfl rfl rfl (Nat.le_of_ble_eq_true rfl) dX3_init_19 (ws' := [(q, .inl (3, [.ref q1, .ref q2, .int 0, .int 0, .int 0])), (q1, .inr (.inl (false, 23517, fun _ => 0))), (q2, .inr (.inl (false, 23517, fun _ => 0)))]) rfl ?_
  refine an_aload_n rfl dX3_init_22 ?_
  refine an_iconst (v := 0) (by decide) dX3_init_23 ?_
  refine an_put (k := 2) (ci := 3) rfl hTX3 tyX3_ok nmX3 0 rfl (by decide) fl_X3_18 rfl rfl rfl rfl (Nat.le_of_ble_eq_true rfl) dX3_init_24 (ws' := [(q, .inl (3, [.ref q1, .ref q2, .int 0, .int 0, .int 0])), (q1, .inr (.inl (false, 23517, fun _ => 0))), (q2, .inr (.inl (false, 23517, fun _ => 0)))]) rfl ?_
  refine an_aload_n rfl dX3_init_27 ?_
  refine an_iconst (v := 0) (by decide) dX3_init_28 ?_
  refine an_put (k := 3) (ci := 3) rfl hTX3 tyX3_ok nmX3 0 rfl (by decide) fl_X3_22 rfl rfl rfl rfl (Nat.le_of_ble_eq_true rfl) dX3_init_29 (ws' := [(q, .inl (3, [.ref q1, .ref q2, .int 0, .int 0, .int 0])), (q1, .inr (.inl (false, 23517, fun _ => 0))), (q2, .inr (.inl (false, 23517, fun _ => 0)))]) rfl ?_
  refine an_aload_n rfl dX3_init_32 ?_
  refine an_iconst (v := 0) (by decide) dX3_init_33 ?_
  refine an_put (k := 4) (ci := 3) rfl hTX3 tyX3_ok nmX3 0 rfl (by decide) fl_X3_25 rfl rfl rfl rfl (Nat.le_of_ble_eq_true rfl) dX3_init_34 (ws' := [(q, .inl (3, [.ref q1, .ref q2, .int 0, .int 0, .int 0])), (q1, .inr (.inl (false, 23517, fun _ => 0))), (q2, .inr (.inl (false, 23517, fun _ => 0)))]) rfl ?_
  refine an_vret rfl dX3_init_37 ?_
  exact ⟨q1, q2, rfl⟩
set_option maxRecDepth 100000 in
set_option maxHeartbeats 400000 in
theorem c_X4_init (q : Nat) : an_C ydX4_init 2 26 [.ref q] [(q, .inl (4, [.int 0, .int 0, .int 0, .int 0, .int 0, .null, .null, .int 0, .int 0]))] (fun w => ∃ q1 q2 : Nat, w = [(q, .inl (4, [.int 6, .int 2, .int 1, .int 0, .int 0, .ref q1, .ref q2, .int 0, .int 1])), (q1, .inr (.inl (true, 13, fun _ => 0))), (q2, .inr (.inl (false, 13, fun q => if q < 13 then 100 else 0)))]) := by
  refine an_ofW (L := [some (.ref q)]) (by decide +kernel) rfl (by simp [Value.category]) (Nat.le_of_ble_eq_true rfl) rfl ?_
  refine an_aload_n rfl dX4_init_0 ?_
  refine an_oinit ml_X4_3 ow_i ow_c (by decide) (Nat.le_of_ble_eq_true rfl) dX4_init_1 ?_
  refine an_aload_n rfl dX4_init_4 ?_
  refine an_bipush (v := 6) (by decide) dX4_init_5 ?_
  refine an_put (k := 0) (ci := 4) rfl hTX4 tyX4_ok nmX4 0 rfl (by decide) fl_X4_9 rfl rfl rfl rfl (Nat.le_of_ble_eq_true rfl) dX4_init_7 (ws' := [(q, .inl (4, [.int 6, .int 0, .int 0, .int 0, .int 0, .null, .null, .int 0, .int 0]))]) rfl ?_
  refine an_aload_n rfl dX4_init_10 ?_
  refine an_iconst (v := 2) (by decide) dX4_init_11 ?_
  refine an_put (k := 1) (ci := 4) rfl hTX4 tyX4_ok nmX4 0 rfl (by decide) fl_X4_15 rfl rfl rfl rfl (Nat.le_of_ble_eq_true rfl) dX4_init_12 (ws' := [(q, .inl (4, [.int 6, .int 2, .int 0, .int 0, .int 0, .null, .null, .int 0, .int 0]))]) rfl ?_
  refine an_aload_n rfl dX4_init_15 ?_
  refine an_iconst (v := 1) (by decide) dX4_init_16 ?_
  refine an_put (k := 2) (ci := 4) rfl hTX4 tyX4_ok nmX4 0 rfl (by decide) fl_X4_18 rfl rfl rfl rfl (Nat.le_of_ble_eq_true rfl) dX4_init_17 (ws' := [(q, .inl (4, [.int 6, .int 2, .int 1, .int 0, .int 0, .null, .null, .int 0, .int 0]))]) rfl ?_
  refine an_aload_n rfl dX4_init_20 ?_
  refine an_iconst (v := 0) (by decide) dX4_init_21 ?_
  refine an_put (k := 3) (ci := 4) rfl hTX4 tyX4_ok nmX4 0 rfl (by decide) fl_X4_21 rfl rfl rfl rfl (Nat.le_of_ble_eq_true rfl) dX4_init_22 (ws' := [(q, .inl (4, [.int 6, .int 2, .int 1, .int 0, .int 0, .null, .null, .int 0, .int 0]))]) rfl ?_
  refine an_aload_n rfl dX4_init_25 ?_
  refine an_iconst (v := 0) (by decide) dX4_init_26 ?_
  refine an_put (k := 4) (ci := 4) rfl hTX4 tyX4_ok nmX4 0 rfl (by decide) fl_X4_24 rfl rfl rfl rfl (Nat.le_of_ble_eq_true rfl) dX4_init_27 (ws' := [(q, .inl (4, [.int 6, .int 2, .int 1, .int 0, .int 0, .null, .null, .int 0, .int 0]))]) rfl ?_
  refine an_aload_n rfl dX4_init_30 ?_
  refine an_bipush (v := 13) (by decide) dX4_init_31 ?_
  refine an_newZ (n' := 13) ar_Z (by decide) (by decide +kernel) (Nat.le_of_ble_eq_true rfl) (Nat.le_of_ble_eq_true rfl) (Nat.le_of_ble_eq_true rfl) dX4_init_33 (cs' := 1) (sl' := 13) rfl rfl (fun q1 => ?_)
  refine an_ws (ws' := [(q, .inl (4, [.int 6, .int 2, .int 1, .int 0, .int 0, .null, .null, .int 0, .int 0])), (q1, .inr (.inl (true, 13, fun _ => 0)))]) rfl ?_
  refine an_putF (k := 5) (ci := 4) rfl hTX4 tyX4_ok nmX4 0 rfl (by decide) fl_X4_27 rfl (fun _ _ _ _ _ _ h => h) rfl rfl rfl rfl (Nat.le_of_ble_eq_true rfl) dX4_init_35 (ws' := [(q, .inl (4, [.int 6, .int 2, .int 1, .int 0, .int 0, .ref q1, .null, .int 0, .int 0])), (q1, .inr (.inl (true, 13, fun _ => 0)))]) rfl ?_
  refine an_aload_n rfl dX4_init_38 ?_
  refine an_bipush (v := 13) (by decide) dX4_init_39 ?_
  refine an_newI (n' := 13) ar_I (by decide) (by decide +kernel) (Nat.le_of_ble_eq_true rfl) (Nat.le_of_ble_eq_true rfl) (Nat.le_of_ble_eq_true rfl) dX4_init_41 (cs' := 2) (sl' := 26) rfl rfl (fun q2 => ?_)
  refine an_ws (ws' := [(q, .inl (4, [.int 6, .int 2, .int 1, .int 0, .int 0, .ref q1, .null, .int 0, .int 0])), (q1, .inr (.inl (true, 13, fun _ => 0))), (q2, .inr (.inl (false, 13, fun _ => 0)))]) rfl ?_
  refine an_putF (k := 6) (ci := 4) rfl hTX4 tyX4_ok nmX4 0 rfl (by decide) fl_X4_31 rfl (fun _ _ _ _ _ _ h => h) rfl rfl rfl rfl (Nat.le_of_ble_eq_true rfl) dX4_init_43 (ws' := [(q, .inl (4, [.int 6, .int 2, .int 1, .int 0, .int 0, .ref q1, .ref q2, .int 0, .int 0])), (q1, .inr (.inl (true, 13, fun _ => 0))), (q2, .inr (.inl (false, 13, fun _ => 0)))]) rfl ?_
  refine an_aload_n rfl dX4_init_46 ?_
  refine an_iconst (v := 0) (by decide) dX4_init_47 ?_
  refine an_put (k := 7) (ci := 4) rfl hTX4 tyX4_ok nmX4 0 rfl (by decide) fl_X4_35 rfl rfl rfl rfl (Nat.le_of_ble_eq_true rfl) dX4_init_48 (ws' := [(q, .inl (4, [.int 6, .int 2, .int 1, .int 0, .int 0, .ref q1, .ref q2, .int 0, .int 0])), (q1, .inr (.inl (true, 13, fun _ => 0))), (q2, .inr (.inl (false, 13, fun _ => 0)))]) rfl ?_
  refine an_aload_n rfl dX4_init_51 ?_
  refine an_iconst (v := 1) (by decide) dX4_init_52 ?_
  refine an_put (k := 8) (ci := 4) rfl hTX4 tyX4_ok nmX4 0 rfl (by decide) fl_X4_39 rfl rfl rfl rfl (Nat.le_of_ble_eq_true rfl) dX4_init_53 (ws' := [(q, .inl (4, [.int 6, .int 2, .int 1, .int 0, .int 0, .ref q1, .ref q2, .int 0, .int 1])), (q1, .inr (.inl (true, 13, fun _ => 0))), (q2, .inr (.inl (false, 13, fun _ => 0)))]) rfl ?_
  refine an_aload_n rfl dX4_init_56 ?_
  refine an_getf (k := 6) (ci := 4) rfl hTX4 0 rfl (by decide) fl_X4_31 rfl dX4_init_57 ?_
  refine an_bipush (v := 100) (by decide) dX4_init_60 ?_
  refine an_callS (wr := [(q, .inl (4, [.int 6, .int 2, .int 1, .int 0, .int 0, .ref q1, .ref q2, .int 0, .int 1])), (q1, .inr (.inl (true, 13, fun _ => 0)))]) (c_J7_fill (fun _ => q2) [3] 3 13 (by decide) rfl (by decide) (fun _ _ => 0) 100) okJ7_fill_53178 ml_X4_42 rfl ⟨by decide, by decide⟩ ⟨(Nat.le_of_ble_eq_true rfl), (Nat.le_of_ble_eq_true rfl)⟩ (Nat.le_of_ble_eq_true rfl) rfl dX4_init_62 rfl (fun r M' h => ?_)
  obtain ⟨rfl, rfl⟩ := h
  refine an_ws (ws' := [(q, .inl (4, [.int 6, .int 2, .int 1, .int 0, .int 0, .ref q1, .ref q2, .int 0, .int 1])), (q1, .inr (.inl (true, 13, fun _ => 0))), (q2, .inr (.inl (false, 13, fun q => if q < 13 then 100 else 0)))]) rfl ?_
  refine an_vret rfl dX4_init_65 ?_
  exact ⟨q1, q2, rfl⟩
set_option maxRecDepth 100000 in
set_option maxHeartbeats 400000 in
theorem c_X5_init (q : Nat) (z : Int32) (hz : z = 0 ∨ z = 1) : an_C ydX5_init 3 351 [.ref q, .int z] [(q, .inl (5, [.int 0, .null, .null, .null, .int 0, .int 0]))] (fun w => ∃ q1 q2 q3 : Nat, w = [(q, .inl (5, [.int z, .ref q1, .ref q2, .ref q3, .int 0, .int 0])), (q1, .inr (.inl (false, 117, fun _ => 0))), (q2, .inr (.inl (false, 117, fun _ => 0))), (q3, .inr (.inl (false, 117, fun _ => 0)))]) := by
  refine an_ofW (L := [some (.ref q), some (.int z)]) (by decide +kernel) rfl (by simp [Value.category]) (Nat.le_of_ble_eq_true rfl) rfl ?_
  refine an_aload_n rfl dX5_init_0 ?_
  refine an_oinit ml_X5_3 ow_i ow_c (by decide) (Nat.le_of_ble_eq_true rfl) dX5_init_1 ?_
  refine an_aload_n rfl dX5_init_4 ?_
  refine an_bipush (v := 117) (by decide) dX5_init_5 ?_
  refine an_newI (n' := 117) ar_I (by decide) (by decide +kernel) (Nat.le_of_ble_eq_true rfl) (Nat.le_of_ble_eq_true rfl) (Nat.le_of_ble_eq_true rfl) dX5_init_7 (cs' := 1) (sl' := 117) rfl rfl (fun q1 => ?_)
  refine an_ws (ws' := [(q, .inl (5, [.int 0, .null, .null, .null, .int 0, .int 0])), (q1, .inr (.inl (false, 117, fun _ => 0)))]) rfl ?_
  refine an_putF (k := 1) (ci := 5) rfl hTX5 tyX5_ok nmX5 0 rfl (by decide) fl_X5_9 rfl (fun _ _ _ _ _ _ h => h) rfl rfl rfl rfl (Nat.le_of_ble_eq_true rfl) dX5_init_9 (ws' := [(q, .inl (5, [.int 0, .ref q1, .null, .null, .int 0, .int 0])), (q1, .inr (.inl (false, 117, fun _ => 0)))]) rfl ?_
  refine an_aload_n rfl dX5_init_12 ?_
  refine an_bipush (v := 117) (by decide) dX5_init_13 ?_
  refine an_newI (n' := 117) ar_I (by decide) (by decide +kernel) (Nat.le_of_ble_eq_true rfl) (Nat.le_of_ble_eq_true rfl) (Nat.le_of_ble_eq_true rfl) dX5_init_15 (cs' := 2) (sl' := 234) rfl rfl (fun q2 => ?_)
  refine an_ws (ws' := [(q, .inl (5, [.int 0, .ref q1, .null, .null, .int 0, .int 0])), (q1, .inr (.inl (false, 117, fun _ => 0))), (q2, .inr (.inl (false, 117, fun _ => 0)))]) rfl ?_
  refine an_putF (k := 2) (ci := 5) rfl hTX5 tyX5_ok nmX5 0 rfl (by decide) fl_X5_15 rfl (fun _ _ _ _ _ _ h => h) rfl rfl rfl rfl (Nat.le_of_ble_eq_true rfl) dX5_init_17 (ws' := [(q, .inl (5, [.int 0, .ref q1, .ref q2, .null, .int 0, .int 0])), (q1, .inr (.inl (false, 117, fun _ => 0))), (q2, .inr (.inl (false, 117, fun _ => 0)))]) rfl ?_
  refine an_aload_n rfl dX5_init_20 ?_
  refine an_bipush (v := 117) (by decide) dX5_init_21 ?_
  refine an_newI (n' := 117) ar_I (by decide) (by decide +kernel) (Nat.le_of_ble_eq_true rfl) (Nat.le_of_ble_eq_true rfl) (Nat.le_of_ble_eq_true rfl) dX5_init_23 (cs' := 3) (sl' := 351) rfl rfl (fun q3 => ?_)
  refine an_ws (ws' := [(q, .inl (5, [.int 0, .ref q1, .ref q2, .null, .int 0, .int 0])), (q1, .inr (.inl (false, 117, fun _ => 0))), (q2, .inr (.inl (false, 117, fun _ => 0))), (q3, .inr (.inl (false, 117, fun _ => 0)))]) rfl ?_
  refine an_putF (k := 3) (ci := 5) rfl hTX5 tyX5_ok nmX5 0 rfl (by decide) fl_X5_18 rfl (fun _ _ _ _ _ _ h => h) rfl rfl rfl rfl (Nat.le_of_ble_eq_true rfl) dX5_init_25 (ws' := [(q, .inl (5, [.int 0, .ref q1, .ref q2, .ref q3, .int 0, .int 0])), (q1, .inr (.inl (false, 117, fun _ => 0))), (q2, .inr (.inl (false, 117, fun _ => 0))), (q3, .inr (.inl (false, 117, fun _ => 0)))]) rfl ?_
  refine an_aload_n rfl dX5_init_28 ?_
  refine an_iconst (v := 0) (by decide) dX5_init_29 ?_
  refine an_put (k := 4) (ci := 5) rfl hTX5 tyX5_ok nmX5 0 rfl (by decide) fl_X5_21 rfl rfl rfl rfl (Nat.le_of_ble_eq_true rfl) dX5_init_30 (ws' := [(q, .inl (5, [.int 0, .ref q1, .ref q2, .ref q3, .int 0, .int 0])), (q1, .inr (.inl (false, 117, fun _ => 0))), (q2, .inr (.inl (false, 117, fun _ => 0))), (q3, .inr (.inl (false, 117, fun _ => 0)))]) rfl ?_
  refine an_aload_n rfl dX5_init_33 ?_
  refine an_iconst (v := 0) (by decide) dX5_init_34 ?_
  refine an_put (k := 5) (ci := 5) rfl hTX5 tyX5_ok nmX5 0 rfl (by decide) fl_X5_25 rfl rfl rfl rfl (Nat.le_of_ble_eq_true rfl) dX5_init_35 (ws' := [(q, .inl (5, [.int 0, .ref q1, .ref q2, .ref q3, .int 0, .int 0])), (q1, .inr (.inl (false, 117, fun _ => 0))), (q2, .inr (.inl (false, 117, fun _ => 0))), (q3, .inr (.inl (false, 117, fun _ => 0)))]) rfl ?_
  refine an_aload_n rfl dX5_init_38 ?_
  refine an_iload_n rfl dX5_init_39 ?_
  refine an_putF (k := 0) (ci := 5) rfl hTX5 tyX5_ok nmX5 0 rfl (by decide) fl_X5_28 rfl (fun _ _ _ _ _ _ h => h) rfl rfl (am_nb01 hz) (am_fb01 hz) (Nat.le_of_ble_eq_true rfl) dX5_init_40 (ws' := [(q, .inl (5, [.int z, .ref q1, .ref q2, .ref q3, .int 0, .int 0])), (q1, .inr (.inl (false, 117, fun _ => 0))), (q2, .inr (.inl (false, 117, fun _ => 0))), (q3, .inr (.inl (false, 117, fun _ => 0)))]) rfl ?_
  refine an_vret rfl dX5_init_43 ?_
  exact ⟨q1, q2, q3, rfl⟩
set_option maxRecDepth 100000 in
set_option maxHeartbeats 400000 in
theorem c_X1_init (q : Nat) : an_C ydX1_init 1 9 [.ref q] [(q, .inl (1, [.int 0, .int 0, .null]))] (fun w => ∃ q1 : Nat, w = [(q, .inl (1, [.int (nI 4), .int 10, .ref q1])), (q1, .inr (.inl (false, 9, fun q => if q < 5 then sp_lv 4 10 q else 0)))]) := by
  refine an_ofW (L := [some (.ref q)]) (by decide +kernel) rfl (by simp [Value.category]) (Nat.le_of_ble_eq_true rfl) rfl ?_
  refine an_aload_n rfl dX1_init_0 ?_
  refine an_oinit ml_X1_3 ow_i ow_c (by decide) (Nat.le_of_ble_eq_true rfl) dX1_init_1 ?_
  refine an_aload_n rfl dX1_init_4 ?_
  refine an_iconst (v := 4) (by decide) dX1_init_5 ?_
  refine an_put (k := 0) (ci := 1) rfl hTX1 tyX1_ok nmX1 0 rfl (by decide) fl_X1_9 rfl rfl rfl rfl (Nat.le_of_ble_eq_true rfl) dX1_init_6 (ws' := [(q, .inl (1, [.int 4, .int 0, .null]))]) rfl ?_
  refine an_aload_n rfl dX1_init_9 ?_
  refine an_bipush (v := 10) (by decide) dX1_init_10 ?_
  refine an_put (k := 1) (ci := 1) rfl hTX1 tyX1_ok nmX1 0 rfl (by decide) fl_X1_15 rfl rfl rfl rfl (Nat.le_of_ble_eq_true rfl) dX1_init_12 (ws' := [(q, .inl (1, [.int 4, .int 10, .null]))]) rfl ?_
  refine an_aload_n rfl dX1_init_15 ?_
  refine an_bipush (v := 9) (by decide) dX1_init_16 ?_
  refine an_newI (n' := 9) ar_I (by decide) (by decide +kernel) (Nat.le_of_ble_eq_true rfl) (Nat.le_of_ble_eq_true rfl) (Nat.le_of_ble_eq_true rfl) dX1_init_18 (cs' := 1) (sl' := 9) rfl rfl (fun q1 => ?_)
  refine an_ws (ws' := [(q, .inl (1, [.int 4, .int 10, .null])), (q1, .inr (.inl (false, 9, fun _ => 0)))]) rfl ?_
  refine an_putF (k := 2) (ci := 1) rfl hTX1 tyX1_ok nmX1 0 rfl (by decide) fl_X1_18 rfl (fun _ _ _ _ _ _ h => h) rfl rfl rfl rfl (Nat.le_of_ble_eq_true rfl) dX1_init_20 (ws' := [(q, .inl (1, [.int 4, .int 10, .ref q1])), (q1, .inr (.inl (false, 9, fun _ => 0)))]) rfl ?_
  refine an_aload_n rfl dX1_init_23 ?_
  refine an_iconst (v := 4) (by decide) dX1_init_24 ?_
  refine an_bipush (v := 10) (by decide) dX1_init_25 ?_
  refine an_callV (k := 19) (wr := []) (c_X1_lay (fun k => match k with | 19 => q | _ => q1) [19, 20] (by decide) (by decide) (fun k => match k with | 19 => (fun j => match j with | 0 => 4 | 1 => 10 | _ => 0) | _ => (fun _ => 0)) 4 (Or.inr (Or.inr (Or.inl rfl))) 10) okX1_lay ml_X1_22 (by decide) rfl rfl rfl ⟨by decide, by decide⟩ ⟨(Nat.le_of_ble_eq_true rfl), (Nat.le_of_ble_eq_true rfl)⟩ (Nat.le_of_ble_eq_true rfl) rfl dX1_init_27 rfl (fun r M' h => ?_)
  obtain ⟨rfl, rfl⟩ := h
  refine an_ws (ws' := [(q, .inl (1, [.int (nI 4), .int 10, .ref q1])), (q1, .inr (.inl (false, 9, fun q => if q < 5 then sp_lv 4 10 q else 0)))]) rfl ?_
  refine an_vret rfl dX1_init_30 ?_
  exact ⟨q1, rfl⟩
set_option maxRecDepth 100000 in
set_option maxHeartbeats 400000 in
theorem c_X6_init (q : Nat) : an_C ydX6_init 20 47828 [.ref q] [(q, .inl (6, [.null, .null, .null, .null, .null, .null, .null, .null, .null]))] (fun w => ∃ q1 q2 q3 q4 q5 q6 q7 q8 q9 q10 q11 q12 q13 q14 q15 q16 q17 q18 q19 q20 : Nat, w = [(q, .inl (6, [.ref q1, .ref q4, .ref q7, .ref q11, .ref q15, .ref q16, .ref q17, .ref q18, .ref q19])), (q1, .inl (4, [.int 6, .int 2, .int 1, .int 0, .int 0, .ref q2, .ref q3, .int 0, .int 1])), (q2, .inr (.inl (true, 13, fun _ => 0))), (q3, .inr (.inl (false, 13, fun q => if q < 13 then 100 else 0))), (q4, .inl (3, [.ref q5, .ref q6, .int 0, .int 0, .int 0])), (q5, .inr (.inl (false, 23517, fun _ => 0))), (q6, .inr (.inl (false, 23517, fun _ => 0))), (q7, .inl (5, [.int 1, .ref q8, .ref q9, .ref q10, .int 0, .int 0])), (q8, .inr (.inl (false, 117, fun _ => 0))), (q9, .inr (.inl (false, 117, fun _ => 0))), (q10, .inr (.inl (false, 117, fun _ => 0))), (q11, .inl (5, [.int 0, .ref q12, .ref q13, .ref q14, .int 0, .int 0])), (q12, .inr (.inl (false, 117, fun _ => 0))), (q13, .inr (.inl (false, 117, fun _ => 0))), (q14, .inr (.inl (false, 117, fun _ => 0))), (q15, .inl (2, [.int 0, .int 0, .int 0, .int 0, .int 0, .int 0, .int (-1), .int 0, .int 0, .int 0])), (q16, .inl (0, [.int 0, .int 0, .int 0, .int 0, .int 0, .int 0])), (q17, .inl (0, [.int 0, .int 0, .int 0, .int 0, .int 0, .int 0])), (q18, .inl (0, [.int 0, .int 0, .int 0, .int 0, .int 0, .int 0])), (q19, .inl (1, [.int (nI 4), .int 10, .ref q20])), (q20, .inr (.inl (false, 9, fun q => if q < 5 then sp_lv 4 10 q else 0)))]) := by
  refine an_ofW (L := [some (.ref q)]) (by decide +kernel) rfl (by simp [Value.category]) (Nat.le_of_ble_eq_true rfl) rfl ?_
  refine an_aload_n rfl dX6_init_0 ?_
  refine an_oinit ml_X6_3 ow_i ow_c (by decide) (Nat.le_of_ble_eq_true rfl) dX6_init_1 ?_
  refine an_aload_n rfl dX6_init_4 ?_
  refine an_new (ci := 4) rfl hTX4 tyX4_ok cl_X6_9 in_X4 ii_X4 (fs := [.int 0, .int 0, .int 0, .int 0, .int 0, .null, .null, .int 0, .int 0]) df_X4 (Nat.le_of_ble_eq_true rfl) (Nat.le_of_ble_eq_true rfl) dX6_init_5 (cs' := 1) (sl' := 9) rfl rfl (fun q1 => ?_)
  refine an_ws (ws' := [(q, .inl (6, [.null, .null, .null, .null, .null, .null, .null, .null, .null])), (q1, .inl (4, [.int 0, .int 0, .int 0, .int 0, .int 0, .null, .null, .int 0, .int 0]))]) rfl ?_
  refine an_dup rfl dX6_init_8 ?_
  refine an_callI (wr := [(q, .inl (6, [.null, .null, .null, .null, .null, .null, .null, .null, .null]))]) (wc := [(q1, .inl (4, [.int 0, .int 0, .int 0, .int 0, .int 0, .null, .null, .int 0, .int 0]))]) (mc := 2) (ms := 26) (c_X4_init q1) okX4_init ml_X6_11 rfl ⟨by decide, by decide⟩ ⟨(Nat.le_of_ble_eq_true rfl), (Nat.le_of_ble_eq_true rfl)⟩ (Nat.le_of_ble_eq_true rfl) rfl dX6_init_9 rfl (cs' := 3) (sl' := 35) rfl rfl (fun w1 h1 => ?_)
  obtain ⟨q2, q3, rfl⟩ := h1
  refine an_ws (ws' := [(q, .inl (6, [.null, .null, .null, .null, .null, .null, .null, .null, .null])), (q1, .inl (4, [.int 6, .int 2, .int 1, .int 0, .int 0, .ref q2, .ref q3, .int 0, .int 1])), (q2, .inr (.inl (true, 13, fun _ => 0))), (q3, .inr (.inl (false, 13, fun q => if q < 13 then 100 else 0)))]) rfl ?_
  refine an_putF (k := 0) (ci := 6) rfl hTX6 tyX6_ok nmX6 0 rfl (by decide) fl_X6_12 rfl (fun _ _ _ _ _ _ h => h) rfl rfl rfl rfl (Nat.le_of_ble_eq_true rfl) dX6_init_12 (ws' := [(q, .inl (6, [.ref q1, .null, .null, .null, .null, .null, .null, .null, .null])), (q1, .inl (4, [.int 6, .int 2, .int 1, .int 0, .int 0, .ref q2, .ref q3, .int 0, .int 1])), (q2, .inr (.inl (true, 13, fun _ => 0))), (q3, .inr (.inl (false, 13, fun q => if q < 13 then 100 else 0)))]) rfl ?_
  refine an_aload_n rfl dX6_init_15 ?_
  refine an_new (ci := 3) rfl hTX3 tyX3_ok cl_X6_16 in_X3 ii_X3 (fs := [.null, .null, .int 0, .int 0, .int 0]) df_X3 (Nat.le_of_ble_eq_true rfl) (Nat.le_of_ble_eq_true rfl) dX6_init_16 (cs' := 4) (sl' := 40) rfl rfl (fun q4 => ?_)
  refine an_ws (ws' := [(q, .inl (6, [.ref q1, .null, .null, .null, .null, .null, .null, .null, .null])), (q1, .inl (4, [.int 6, .int 2, .int 1, .int 0, .int 0, .ref q2, .ref q3, .int 0, .int 1])), (q2, .inr (.inl (true, 13, fun _ => 0))), (q3, .inr (.inl (false, 13, fun q => if q < 13 then 100 else 0))), (q4, .inl (3, [.null, .null, .int 0, .int 0, .int 0]))]) rfl ?_
  refine an_dup rfl dX6_init_19 ?_
  refine an_callIN (wr := [(q, .inl (6, [.ref q1, .null, .null, .null, .null, .null, .null, .null, .null])), (q1, .inl (4, [.int 6, .int 2, .int 1, .int 0, .int 0, .ref q2, .ref q3, .int 0, .int 1])), (q2, .inr (.inl (true, 13, fun _ => 0))), (q3, .inr (.inl (false, 13, fun q => if q < 13 then 100 else 0)))]) (wc := [(q4, .inl (3, [.null, .null, .int 0, .int 0, .int 0]))]) (mc := 2) (ms := 47034) (c_X3_init q4) okX3_init ml_X6_18 rfl ⟨by decide, by decide⟩ ⟨(Nat.le_of_ble_eq_true rfl), (Nat.le_of_ble_eq_true rfl)⟩ (Nat.le_of_ble_eq_true rfl) rfl dX6_init_20 rfl (cs' := 6) (sl' := 47074) rfl rfl (fun w1 h1 => ?_)
  obtain ⟨q5, q6, rfl⟩ := h1
  refine an_ws (ws' := [(q, .inl (6, [.ref q1, .null, .null, .null, .null, .null, .null, .null, .null])), (q1, .inl (4, [.int 6, .int 2, .int 1, .int 0, .int 0, .ref q2, .ref q3, .int 0, .int 1])), (q2, .inr (.inl (true, 13, fun _ => 0))), (q3, .inr (.inl (false, 13, fun q => if q < 13 then 100 else 0))), (q4, .inl (3, [.ref q5, .ref q6, .int 0, .int 0, .int 0])), (q5, .inr (.inl (false, 23517, fun _ => 0))), (q6, .inr (.inl (false, 23517, fun _ => 0)))]) rfl ?_
  refine an_putF (k := 1) (ci := 6) rfl hTX6 tyX6_ok nmX6 0 rfl (by decide) fl_X6_19 rfl (fun _ _ _ _ _ _ h => h) rfl rfl rfl rfl (Nat.le_of_ble_eq_true rfl) dX6_init_23 (ws' := [(q, .inl (6, [.ref q1, .ref q4, .null, .null, .null, .null, .null, .null, .null])), (q1, .inl (4, [.int 6, .int 2, .int 1, .int 0, .int 0, .ref q2, .ref q3, .int 0, .int 1])), (q2, .inr (.inl (true, 13, fun _ => 0))), (q3, .inr (.inl (false, 13, fun q => if q < 13 then 100 else 0))), (q4, .inl (3, [.ref q5, .ref q6, .int 0, .int 0, .int 0])), (q5, .inr (.inl (false, 23517, fun _ => 0))), (q6, .inr (.inl (false, 23517, fun _ => 0)))]) rfl ?_
  refine an_aload_n rfl dX6_init_26 ?_
  refine an_new (ci := 5) rfl hTX5 tyX5_ok cl_X6_23 in_X5 ii_X5 (fs := [.int 0, .null, .null, .null, .int 0, .int 0]) df_X5 (Nat.le_of_ble_eq_true rfl) (Nat.le_of_ble_eq_true rfl) dX6_init_27 (cs' := 7) (sl' := 47080) rfl rfl (fun q7 => ?_)
  refine an_ws (ws' := [(q, .inl (6, [.ref q1, .ref q4, .null, .null, .null, .null, .null, .null, .null])), (q1, .inl (4, [.int 6, .int 2, .int 1, .int 0, .int 0, .ref q2, .ref q3, .int 0, .int 1])), (q2, .inr (.inl (true, 13, fun _ => 0))), (q3, .inr (.inl (false, 13, fun q => if q < 13 then 100 else 0))), (q4, .inl (3, [.ref q5, .ref q6, .int 0, .int 0, .int 0])), (q5, .inr (.inl (false, 23517, fun _ => 0))), (q6, .inr (.inl (false, 23517, fun _ => 0))), (q7, .inl (5, [.int 0, .null, .null, .null, .int 0, .int 0]))]) rfl ?_
  refine an_dup rfl dX6_init_30 ?_
  refine an_iconst (v := 1) (by decide) dX6_init_31 ?_
  refine an_callI (wr := [(q, .inl (6, [.ref q1, .ref q4, .null, .null, .null, .null, .null, .null, .null])), (q1, .inl (4, [.int 6, .int 2, .int 1, .int 0, .int 0, .ref q2, .ref q3, .int 0, .int 1])), (q2, .inr (.inl (true, 13, fun _ => 0))), (q3, .inr (.inl (false, 13, fun q => if q < 13 then 100 else 0))), (q4, .inl (3, [.ref q5, .ref q6, .int 0, .int 0, .int 0])), (q5, .inr (.inl (false, 23517, fun _ => 0))), (q6, .inr (.inl (false, 23517, fun _ => 0)))]) (wc := [(q7, .inl (5, [.int 0, .null, .null, .null, .int 0, .int 0]))]) (mc := 3) (ms := 351) (c_X5_init q7 1 (by decide)) okX5_init ml_X6_25 rfl ⟨by decide, by decide⟩ ⟨(Nat.le_of_ble_eq_true rfl), (Nat.le_of_ble_eq_true rfl)⟩ (Nat.le_of_ble_eq_true rfl) rfl dX6_init_32 rfl (cs' := 10) (sl' := 47431) rfl rfl (fun w1 h1 => ?_)
  obtain ⟨q8, q9, q10, rfl⟩ := h1
  refine an_ws (ws' := [(q, .inl (6, [.ref q1, .ref q4, .null, .null, .null, .null, .null, .null, .null])), (q1, .inl (4, [.int 6, .int 2, .int 1, .int 0, .int 0, .ref q2, .ref q3, .int 0, .int 1])), (q2, .inr (.inl (true, 13, fun _ => 0))), (q3, .inr (.inl (false, 13, fun q => if q < 13 then 100 else 0))), (q4, .inl (3, [.ref q5, .ref q6, .int 0, .int 0, .int 0])), (q5, .inr (.inl (false, 23517, fun _ => 0))), (q6, .inr (.inl (false, 23517, fun _ => 0))), (q7, .inl (5, [.int 1, .ref q8, .ref q9, .ref q10, .int 0, .int 0])), (q8, .inr (.inl (false, 117, fun _ => 0))), (q9, .inr (.inl (false, 117, fun _ => 0))), (q10, .inr (.inl (false, 117, fun _ => 0)))]) rfl ?_
  refine an_putF (k := 2) (ci := 6) rfl hTX6 tyX6_ok nmX6 0 rfl (by decide) fl_X6_28 rfl (fun _ _ _ _ _ _ h => h) rfl rfl rfl rfl (Nat.le_of_ble_eq_true rfl) dX6_init_35 (ws' := [(q, .inl (6, [.ref q1, .ref q4, .ref q7, .null, .null, .null, .null, .null, .null])), (q1, .inl (4, [.int 6, .int 2, .int 1, .int 0, .int 0, .ref q2, .ref q3, .int 0, .int 1])), (q2, .inr (.inl (true, 13, fun _ => 0))), (q3, .inr (.inl (false, 13, fun q => if q < 13 then 100 else 0))), (q4, .inl (3, [.ref q5, .ref q6, .int 0, .int 0, .int 0])), (q5, .inr (.inl (false, 23517, fun _ => 0))), (q6, .inr (.inl (false, 23517, fun _ => 0))), (q7, .inl (5, [.int 1, .ref q8, .ref q9, .ref q10, .int 0, .int 0])), (q8, .inr (.inl (false, 117, fun _ => 0))), (q9, .inr (.inl (false, 117, fun _ => 0))), (q10, .inr (.inl (false, 117, fun _ => 0)))]) rfl ?_
  refine an_aload_n rfl dX6_init_38 ?_
  refine an_new (ci := 5) rfl hTX5 tyX5_ok cl_X6_23 in_X5 ii_X5 (fs := [.int 0, .null, .null, .null, .int 0, .int 0]) df_X5 (Nat.le_of_ble_eq_true rfl) (Nat.le_of_ble_eq_true rfl) dX6_init_39 (cs' := 11) (sl' := 47437) rfl rfl (fun q11 => ?_)
  refine an_ws (ws' := [(q, .inl (6, [.ref q1, .ref q4, .ref q7, .null, .null, .null, .null, .null, .null])), (q1, .inl (4, [.int 6, .int 2, .int 1, .int 0, .int 0, .ref q2, .ref q3, .int 0, .int 1])), (q2, .inr (.inl (true, 13, fun _ => 0))), (q3, .inr (.inl (false, 13, fun q => if q < 13 then 100 else 0))), (q4, .inl (3, [.ref q5, .ref q6, .int 0, .int 0, .int 0])), (q5, .inr (.inl (false, 23517, fun _ => 0))), (q6, .inr (.inl (false, 23517, fun _ => 0))), (q7, .inl (5, [.int 1, .ref q8, .ref q9, .ref q10, .int 0, .int 0])), (q8, .inr (.inl (false, 117, fun _ => 0))), (q9, .inr (.inl (false, 117, fun _ => 0))), (q10, .inr (.inl (false, 117, fun _ => 0))), (q11, .inl (5, [.int 0, .null, .null, .null, .int 0, .int 0]))]) rfl ?_
  refine an_dup rfl dX6_init_42 ?_
  refine an_iconst (v := 0) (by decide) dX6_init_43 ?_
  refine an_callI (wr := [(q, .inl (6, [.ref q1, .ref q4, .ref q7, .null, .null, .null, .null, .null, .null])), (q1, .inl (4, [.int 6, .int 2, .int 1, .int 0, .int 0, .ref q2, .ref q3, .int 0, .int 1])), (q2, .inr (.inl (true, 13, fun _ => 0))), (q3, .inr (.inl (false, 13, fun q => if q < 13 then 100 else 0))), (q4, .inl (3, [.ref q5, .ref q6, .int 0, .int 0, .int 0])), (q5, .inr (.inl (false, 23517, fun _ => 0))), (q6, .inr (.inl (false, 23517, fun _ => 0))), (q7, .inl (5, [.int 1, .ref q8, .ref q9, .ref q10, .int 0, .int 0])), (q8, .inr (.inl (false, 117, fun _ => 0))), (q9, .inr (.inl (false, 117, fun _ => 0))), (q10, .inr (.inl (false, 117, fun _ => 0)))]) (wc := [(q11, .inl (5, [.int 0, .null, .null, .null, .int 0, .int 0]))]) (mc := 3) (ms := 351) (c_X5_init q11 0 (by decide)) okX5_init ml_X6_25 rfl ⟨by decide, by decide⟩ ⟨(Nat.le_of_ble_eq_true rfl), (Nat.le_of_ble_eq_true rfl)⟩ (Nat.le_of_ble_eq_true rfl) rfl dX6_init_44 rfl (cs' := 14) (sl' := 47788) rfl rfl (fun w1 h1 => ?_)
  obtain ⟨q12, q13, q14, rfl⟩ := h1
  refine an_ws (ws' := [(q, .inl (6, [.ref q1, .ref q4, .ref q7, .null, .null, .null, .null, .null, .null])), (q1, .inl (4, [.int 6, .int 2, .int 1, .int 0, .int 0, .ref q2, .ref q3, .int 0, .int 1])), (q2, .inr (.inl (true, 13, fun _ => 0))), (q3, .inr (.inl (false, 13, fun q => if q < 13 then 100 else 0))), (q4, .inl (3, [.ref q5, .ref q6, .int 0, .int 0, .int 0])), (q5, .inr (.inl (false, 23517, fun _ => 0))), (q6, .inr (.inl (false, 23517, fun _ => 0))), (q7, .inl (5, [.int 1, .ref q8, .ref q9, .ref q10, .int 0, .int 0])), (q8, .inr (.inl (false, 117, fun _ => 0))), (q9, .inr (.inl (false, 117, fun _ => 0))), (q10, .inr (.inl (false, 117, fun _ => 0))), (q11, .inl (5, [.int 0, .ref q12, .ref q13, .ref q14, .int 0, .int 0])), (q12, .inr (.inl (false, 117, fun _ => 0))), (q13, .inr (.inl (false, 117, fun _ => 0))), (q14, .inr (.inl (false, 117, fun _ => 0)))]) rfl ?_
  refine an_putF (k := 3) (ci := 6) rfl hTX6 tyX6_ok nmX6 0 rfl (by decide) fl_X6_32 rfl (fun _ _ _ _ _ _ h => h) rfl rfl rfl rfl (Nat.le_of_ble_eq_true rfl) dX6_init_47 (ws' := [(q, .inl (6, [.ref q1, .ref q4, .ref q7, .ref q11, .null, .null, .null, .null, .null])), (q1, .inl (4, [.int 6, .int 2, .int 1, .int 0, .int 0, .ref q2, .ref q3, .int 0, .int 1])), (q2, .inr (.inl (true, 13, fun _ => 0))), (q3, .inr (.inl (false, 13, fun q => if q < 13 then 100 else 0))), (q4, .inl (3, [.ref q5, .ref q6, .int 0, .int 0, .int 0])), (q5, .inr (.inl (false, 23517, fun _ => 0))), (q6, .inr (.inl (false, 23517, fun _ => 0))), (q7, .inl (5, [.int 1, .ref q8, .ref q9, .ref q10, .int 0, .int 0])), (q8, .inr (.inl (false, 117, fun _ => 0))), (q9, .inr (.inl (false, 117, fun _ => 0))), (q10, .inr (.inl (false, 117, fun _ => 0))), (q11, .inl (5, [.int 0, .ref q12, .ref q13, .ref q14, .int 0, .int 0])), (q12, .inr (.inl (false, 117, fun _ => 0))), (q13, .inr (.inl (false, 117, fun _ => 0))), (q14, .inr (.inl (false, 117, fun _ => 0)))]) rfl ?_
  refine an_aload_n rfl dX6_init_50 ?_
  refine an_new (ci := 2) rfl hTX2 tyX2_ok cl_X6_35 in_X2 ii_X2 (fs := [.int 0, .int 0, .int 0, .int 0, .int 0, .int 0, .int 0, .int 0, .int 0, .int 0]) df_X2 (Nat.le_of_ble_eq_true rfl) (Nat.le_of_ble_eq_true rfl) dX6_init_51 (cs' := 15) (sl' := 47798) rfl rfl (fun q15 => ?_)
  refine an_ws (ws' := [(q, .inl (6, [.ref q1, .ref q4, .ref q7, .ref q11, .null, .null, .null, .null, .null])), (q1, .inl (4, [.int 6, .int 2, .int 1, .int 0, .int 0, .ref q2, .ref q3, .int 0, .int 1])), (q2, .inr (.inl (true, 13, fun _ => 0))), (q3, .inr (.inl (false, 13, fun q => if q < 13 then 100 else 0))), (q4, .inl (3, [.ref q5, .ref q6, .int 0, .int 0, .int 0])), (q5, .inr (.inl (false, 23517, fun _ => 0))), (q6, .inr (.inl (false, 23517, fun _ => 0))), (q7, .inl (5, [.int 1, .ref q8, .ref q9, .ref q10, .int 0, .int 0])), (q8, .inr (.inl (false, 117, fun _ => 0))), (q9, .inr (.inl (false, 117, fun _ => 0))), (q10, .inr (.inl (false, 117, fun _ => 0))), (q11, .inl (5, [.int 0, .ref q12, .ref q13, .ref q14, .int 0, .int 0])), (q12, .inr (.inl (false, 117, fun _ => 0))), (q13, .inr (.inl (false, 117, fun _ => 0))), (q14, .inr (.inl (false, 117, fun _ => 0))), (q15, .inl (2, [.int 0, .int 0, .int 0, .int 0, .int 0, .int 0, .int 0, .int 0, .int 0, .int 0]))]) rfl ?_
  refine an_dup rfl dX6_init_54 ?_
  refine an_callIN (wr := [(q, .inl (6, [.ref q1, .ref q4, .ref q7, .ref q11, .null, .null, .null, .null, .null])), (q1, .inl (4, [.int 6, .int 2, .int 1, .int 0, .int 0, .ref q2, .ref q3, .int 0, .int 1])), (q2, .inr (.inl (true, 13, fun _ => 0))), (q3, .inr (.inl (false, 13, fun q => if q < 13 then 100 else 0))), (q4, .inl (3, [.ref q5, .ref q6, .int 0, .int 0, .int 0])), (q5, .inr (.inl (false, 23517, fun _ => 0))), (q6, .inr (.inl (false, 23517, fun _ => 0))), (q7, .inl (5, [.int 1, .ref q8, .ref q9, .ref q10, .int 0, .int 0])), (q8, .inr (.inl (false, 117, fun _ => 0))), (q9, .inr (.inl (false, 117, fun _ => 0))), (q10, .inr (.inl (false, 117, fun _ => 0))), (q11, .inl (5, [.int 0, .ref q12, .ref q13, .ref q14, .int 0, .int 0])), (q12, .inr (.inl (false, 117, fun _ => 0))), (q13, .inr (.inl (false, 117, fun _ => 0))), (q14, .inr (.inl (false, 117, fun _ => 0)))]) (wc := [(q15, .inl (2, [.int 0, .int 0, .int 0, .int 0, .int 0, .int 0, .int 0, .int 0, .int 0, .int 0]))]) (mc := 0) (ms := 0) (c_X2_init q15) okX2_init ml_X6_37 rfl ⟨by decide, by decide⟩ ⟨(Nat.le_of_ble_eq_true rfl), (Nat.le_of_ble_eq_true rfl)⟩ (Nat.le_of_ble_eq_true rfl) rfl dX6_init_55 rfl (cs' := 15) (sl' := 47798) rfl rfl (fun w1 h1 => ?_)
  obtain rfl := h1
  refine an_ws (ws' := [(q, .inl (6, [.ref q1, .ref q4, .ref q7, .ref q11, .null, .null, .null, .null, .null])), (q1, .inl (4, [.int 6, .int 2, .int 1, .int 0, .int 0, .ref q2, .ref q3, .int 0, .int 1])), (q2, .inr (.inl (true, 13, fun _ => 0))), (q3, .inr (.inl (false, 13, fun q => if q < 13 then 100 else 0))), (q4, .inl (3, [.ref q5, .ref q6, .int 0, .int 0, .int 0])), (q5, .inr (.inl (false, 23517, fun _ => 0))), (q6, .inr (.inl (false, 23517, fun _ => 0))), (q7, .inl (5, [.int 1, .ref q8, .ref q9, .ref q10, .int 0, .int 0])), (q8, .inr (.inl (false, 117, fun _ => 0))), (q9, .inr (.inl (false, 117, fun _ => 0))), (q10, .inr (.inl (false, 117, fun _ => 0))), (q11, .inl (5, [.int 0, .ref q12, .ref q13, .ref q14, .int 0, .int 0])), (q12, .inr (.inl (false, 117, fun _ => 0))), (q13, .inr (.inl (false, 117, fun _ => 0))), (q14, .inr (.inl (false, 117, fun _ => 0))), (q15, .inl (2, [.int 0, .int 0, .int 0, .int 0, .int 0, .int 0, .int (-1), .int 0, .int 0, .int 0]))]) rfl ?_
  refine an_putF (k := 4) (ci := 6) rfl hTX6 tyX6_ok nmX6 0 rfl (by decide) fl_X6_38 rfl (fun _ _ _ _ _ _ h => h) rfl rfl rfl rfl (Nat.le_of_ble_eq_true rfl) dX6_init_58 (ws' := [(q, .inl (6, [.ref q1, .ref q4, .ref q7, .ref q11, .ref q15, .null, .null, .null, .null])), (q1, .inl (4, [.int 6, .int 2, .int 1, .int 0, .int 0, .ref q2, .ref q3, .int 0, .int 1])), (q2, .inr (.inl (true, 13, fun _ => 0))), (q3, .inr (.inl (false, 13, fun q => if q < 13 then 100 else 0))), (q4, .inl (3, [.ref q5, .ref q6, .int 0, .int 0, .int 0])), (q5, .inr (.inl (false, 23517, fun _ => 0))), (q6, .inr (.inl (false, 23517, fun _ => 0))), (q7, .inl (5, [.int 1, .ref q8, .ref q9, .ref q10, .int 0, .int 0])), (q8, .inr (.inl (false, 117, fun _ => 0))), (q9, .inr (.inl (false, 117, fun _ => 0))), (q10, .inr (.inl (false, 117, fun _ => 0))), (q11, .inl (5, [.int 0, .ref q12, .ref q13, .ref q14, .int 0, .int 0])), (q12, .inr (.inl (false, 117, fun _ => 0))), (q13, .inr (.inl (false, 117, fun _ => 0))), (q14, .inr (.inl (false, 117, fun _ => 0))), (q15, .inl (2, [.int 0, .int 0, .int 0, .int 0, .int 0, .int 0, .int (-1), .int 0, .int 0, .int 0]))]) rfl ?_
  refine an_aload_n rfl dX6_init_61 ?_
  refine an_new (ci := 0) rfl hTX0 tyX0_ok cl_X6_42 in_X0 ii_X0 (fs := [.int 0, .int 0, .int 0, .int 0, .int 0, .int 0]) df_X0 (Nat.le_of_ble_eq_true rfl) (Nat.le_of_ble_eq_true rfl) dX6_init_62 (cs' := 16) (sl' := 47804) rfl rfl (fun q16 => ?_)
  refine an_ws (ws' := [(q, .inl (6, [.ref q1, .ref q4, .ref q7, .ref q11, .ref q15, .null, .null, .null, .null])), (q1, .inl (4, [.int 6, .int 2, .int 1, .int 0, .int 0, .ref q2, .ref q3, .int 0, .int 1])), (q2, .inr (.inl (true, 13, fun _ => 0))), (q3, .inr (.inl (false, 13, fun q => if q < 13 then 100 else 0))), (q4, .inl (3, [.ref q5, .ref q6, .int 0, .int 0, .int 0])), (q5, .inr (.inl (false, 23517, fun _ => 0))), (q6, .inr (.inl (false, 23517, fun _ => 0))), (q7, .inl (5, [.int 1, .ref q8, .ref q9, .ref q10, .int 0, .int 0])), (q8, .inr (.inl (false, 117, fun _ => 0))), (q9, .inr (.inl (false, 117, fun _ => 0))), (q10, .inr (.inl (false, 117, fun _ => 0))), (q11, .inl (5, [.int 0, .ref q12, .ref q13, .ref q14, .int 0, .int 0])), (q12, .inr (.inl (false, 117, fun _ => 0))), (q13, .inr (.inl (false, 117, fun _ => 0))), (q14, .inr (.inl (false, 117, fun _ => 0))), (q15, .inl (2, [.int 0, .int 0, .int 0, .int 0, .int 0, .int 0, .int (-1), .int 0, .int 0, .int 0])), (q16, .inl (0, [.int 0, .int 0, .int 0, .int 0, .int 0, .int 0]))]) rfl ?_
  refine an_dup rfl dX6_init_65 ?_
  refine an_callIN (wr := [(q, .inl (6, [.ref q1, .ref q4, .ref q7, .ref q11, .ref q15, .null, .null, .null, .null])), (q1, .inl (4, [.int 6, .int 2, .int 1, .int 0, .int 0, .ref q2, .ref q3, .int 0, .int 1])), (q2, .inr (.inl (true, 13, fun _ => 0))), (q3, .inr (.inl (false, 13, fun q => if q < 13 then 100 else 0))), (q4, .inl (3, [.ref q5, .ref q6, .int 0, .int 0, .int 0])), (q5, .inr (.inl (false, 23517, fun _ => 0))), (q6, .inr (.inl (false, 23517, fun _ => 0))), (q7, .inl (5, [.int 1, .ref q8, .ref q9, .ref q10, .int 0, .int 0])), (q8, .inr (.inl (false, 117, fun _ => 0))), (q9, .inr (.inl (false, 117, fun _ => 0))), (q10, .inr (.inl (false, 117, fun _ => 0))), (q11, .inl (5, [.int 0, .ref q12, .ref q13, .ref q14, .int 0, .int 0])), (q12, .inr (.inl (false, 117, fun _ => 0))), (q13, .inr (.inl (false, 117, fun _ => 0))), (q14, .inr (.inl (false, 117, fun _ => 0))), (q15, .inl (2, [.int 0, .int 0, .int 0, .int 0, .int 0, .int 0, .int (-1), .int 0, .int 0, .int 0]))]) (wc := [(q16, .inl (0, [.int 0, .int 0, .int 0, .int 0, .int 0, .int 0]))]) (mc := 0) (ms := 0) (c_X0_init q16) okX0_init ml_X6_44 rfl ⟨by decide, by decide⟩ ⟨(Nat.le_of_ble_eq_true rfl), (Nat.le_of_ble_eq_true rfl)⟩ (Nat.le_of_ble_eq_true rfl) rfl dX6_init_66 rfl (cs' := 16) (sl' := 47804) rfl rfl (fun w1 h1 => ?_)
  obtain rfl := h1
  refine an_ws (ws' := [(q, .inl (6, [.ref q1, .ref q4, .ref q7, .ref q11, .ref q15, .null, .null, .null, .null])), (q1, .inl (4, [.int 6, .int 2, .int 1, .int 0, .int 0, .ref q2, .ref q3, .int 0, .int 1])), (q2, .inr (.inl (true, 13, fun _ => 0))), (q3, .inr (.inl (false, 13, fun q => if q < 13 then 100 else 0))), (q4, .inl (3, [.ref q5, .ref q6, .int 0, .int 0, .int 0])), (q5, .inr (.inl (false, 23517, fun _ => 0))), (q6, .inr (.inl (false, 23517, fun _ => 0))), (q7, .inl (5, [.int 1, .ref q8, .ref q9, .ref q10, .int 0, .int 0])), (q8, .inr (.inl (false, 117, fun _ => 0))), (q9, .inr (.inl (false, 117, fun _ => 0))), (q10, .inr (.inl (false, 117, fun _ => 0))), (q11, .inl (5, [.int 0, .ref q12, .ref q13, .ref q14, .int 0, .int 0])), (q12, .inr (.inl (false, 117, fun _ => 0))), (q13, .inr (.inl (false, 117, fun _ => 0))), (q14, .inr (.inl (false, 117, fun _ => 0))), (q15, .inl (2, [.int 0, .int 0, .int 0, .int 0, .int 0, .int 0, .int (-1), .int 0, .int 0, .int 0])), (q16, .inl (0, [.int 0, .int 0, .int 0, .int 0, .int 0, .int 0]))]) rfl ?_
  refine an_putF (k := 5) (ci := 6) rfl hTX6 tyX6_ok nmX6 0 rfl (by decide) fl_X6_45 rfl (fun _ _ _ _ _ _ h => h) rfl rfl rfl rfl (Nat.le_of_ble_eq_true rfl) dX6_init_69 (ws' := [(q, .inl (6, [.ref q1, .ref q4, .ref q7, .ref q11, .ref q15, .ref q16, .null, .null, .null])), (q1, .inl (4, [.int 6, .int 2, .int 1, .int 0, .int 0, .ref q2, .ref q3, .int 0, .int 1])), (q2, .inr (.inl (true, 13, fun _ => 0))), (q3, .inr (.inl (false, 13, fun q => if q < 13 then 100 else 0))), (q4, .inl (3, [.ref q5, .ref q6, .int 0, .int 0, .int 0])), (q5, .inr (.inl (false, 23517, fun _ => 0))), (q6, .inr (.inl (false, 23517, fun _ => 0))), (q7, .inl (5, [.int 1, .ref q8, .ref q9, .ref q10, .int 0, .int 0])), (q8, .inr (.inl (false, 117, fun _ => 0))), (q9, .inr (.inl (false, 117, fun _ => 0))), (q10, .inr (.inl (false, 117, fun _ => 0))), (q11, .inl (5, [.int 0, .ref q12, .ref q13, .ref q14, .int 0, .int 0])), (q12, .inr (.inl (false, 117, fun _ => 0))), (q13, .inr (.inl (false, 117, fun _ => 0))), (q14, .inr (.inl (false, 117, fun _ => 0))), (q15, .inl (2, [.int 0, .int 0, .int 0, .int 0, .int 0, .int 0, .int (-1), .int 0, .int 0, .int 0])), (q16, .inl (0, [.int 0, .int 0, .int 0, .int 0, .int 0, .int 0]))]) rfl ?_
  refine an_aload_n rfl dX6_init_72 ?_
  refine an_new (ci := 0) rfl hTX0 tyX0_ok cl_X6_42 in_X0 ii_X0 (fs := [.int 0, .int 0, .int 0, .int 0, .int 0, .int 0]) df_X0 (Nat.le_of_ble_eq_true rfl) (Nat.le_of_ble_eq_true rfl) dX6_init_73 (cs' := 17) (sl' := 47810) rfl rfl (fun q17 => ?_)
  refine an_ws (ws' := [(q, .inl (6, [.ref q1, .ref q4, .ref q7, .ref q11, .ref q15, .ref q16, .null, .null, .null])), (q1, .inl (4, [.int 6, .int 2, .int 1, .int 0, .int 0, .ref q2, .ref q3, .int 0, .int 1])), (q2, .inr (.inl (true, 13, fun _ => 0))), (q3, .inr (.inl (false, 13, fun q => if q < 13 then 100 else 0))), (q4, .inl (3, [.ref q5, .ref q6, .int 0, .int 0, .int 0])), (q5, .inr (.inl (false, 23517, fun _ => 0))), (q6, .inr (.inl (false, 23517, fun _ => 0))), (q7, .inl (5, [.int 1, .ref q8, .ref q9, .ref q10, .int 0, .int 0])), (q8, .inr (.inl (false, 117, fun _ => 0))), (q9, .inr (.inl (false, 117, fun _ => 0))), (q10, .inr (.inl (false, 117, fun _ => 0))), (q11, .inl (5, [.int 0, .ref q12, .ref q13, .ref q14, .int 0, .int 0])), (q12, .inr (.inl (false, 117, fun _ => 0))), (q13, .inr (.inl (false, 117, fun _ => 0))), (q14, .inr (.inl (false, 117, fun _ => 0))), (q15, .inl (2, [.int 0, .int 0, .int 0, .int 0, .int 0, .int 0, .int (-1), .int 0, .int 0, .int 0])), (q16, .inl (0, [.int 0, .int 0, .int 0, .int 0, .int 0, .int 0])), (q17, .inl (0, [.int 0, .int 0, .int 0, .int 0, .int 0, .int 0]))]) rfl ?_
  refine an_dup rfl dX6_init_76 ?_
  refine an_callIN (wr := [(q, .inl (6, [.ref q1, .ref q4, .ref q7, .ref q11, .ref q15, .ref q16, .null, .null, .null])), (q1, .inl (4, [.int 6, .int 2, .int 1, .int 0, .int 0, .ref q2, .ref q3, .int 0, .int 1])), (q2, .inr (.inl (true, 13, fun _ => 0))), (q3, .inr (.inl (false, 13, fun q => if q < 13 then 100 else 0))), (q4, .inl (3, [.ref q5, .ref q6, .int 0, .int 0, .int 0])), (q5, .inr (.inl (false, 23517, fun _ => 0))), (q6, .inr (.inl (false, 23517, fun _ => 0))), (q7, .inl (5, [.int 1, .ref q8, .ref q9, .ref q10, .int 0, .int 0])), (q8, .inr (.inl (false, 117, fun _ => 0))), (q9, .inr (.inl (false, 117, fun _ => 0))), (q10, .inr (.inl (false, 117, fun _ => 0))), (q11, .inl (5, [.int 0, .ref q12, .ref q13, .ref q14, .int 0, .int 0])), (q12, .inr (.inl (false, 117, fun _ => 0))), (q13, .inr (.inl (false, 117, fun _ => 0))), (q14, .inr (.inl (false, 117, fun _ => 0))), (q15, .inl (2, [.int 0, .int 0, .int 0, .int 0, .int 0, .int 0, .int (-1), .int 0, .int 0, .int 0])), (q16, .inl (0, [.int 0, .int 0, .int 0, .int 0, .int 0, .int 0]))]) (wc := [(q17, .inl (0, [.int 0, .int 0, .int 0, .int 0, .int 0, .int 0]))]) (mc := 0) (ms := 0) (c_X0_init q17) okX0_init ml_X6_44 rfl ⟨by decide, by decide⟩ ⟨(Nat.le_of_ble_eq_true rfl), (Nat.le_of_ble_eq_true rfl)⟩ (Nat.le_of_ble_eq_true rfl) rfl dX6_init_77 rfl (cs' := 17) (sl' := 47810) rfl rfl (fun w1 h1 => ?_)
  obtain rfl := h1
  refine an_ws (ws' := [(q, .inl (6, [.ref q1, .ref q4, .ref q7, .ref q11, .ref q15, .ref q16, .null, .null, .null])), (q1, .inl (4, [.int 6, .int 2, .int 1, .int 0, .int 0, .ref q2, .ref q3, .int 0, .int 1])), (q2, .inr (.inl (true, 13, fun _ => 0))), (q3, .inr (.inl (false, 13, fun q => if q < 13 then 100 else 0))), (q4, .inl (3, [.ref q5, .ref q6, .int 0, .int 0, .int 0])), (q5, .inr (.inl (false, 23517, fun _ => 0))), (q6, .inr (.inl (false, 23517, fun _ => 0))), (q7, .inl (5, [.int 1, .ref q8, .ref q9, .ref q10, .int 0, .int 0])), (q8, .inr (.inl (false, 117, fun _ => 0))), (q9, .inr (.inl (false, 117, fun _ => 0))), (q10, .inr (.inl (false, 117, fun _ => 0))), (q11, .inl (5, [.int 0, .ref q12, .ref q13, .ref q14, .int 0, .int 0])), (q12, .inr (.inl (false, 117, fun _ => 0))), (q13, .inr (.inl (false, 117, fun _ => 0))), (q14, .inr (.inl (false, 117, fun _ => 0))), (q15, .inl (2, [.int 0, .int 0, .int 0, .int 0, .int 0, .int 0, .int (-1), .int 0, .int 0, .int 0])), (q16, .inl (0, [.int 0, .int 0, .int 0, .int 0, .int 0, .int 0])), (q17, .inl (0, [.int 0, .int 0, .int 0, .int 0, .int 0, .int 0]))]) rfl ?_
  refine an_putF (k := 6) (ci := 6) rfl hTX6 tyX6_ok nmX6 0 rfl (by decide) fl_X6_49 rfl (fun _ _ _ _ _ _ h => h) rfl rfl rfl rfl (Nat.le_of_ble_eq_true rfl) dX6_init_80 (ws' := [(q, .inl (6, [.ref q1, .ref q4, .ref q7, .ref q11, .ref q15, .ref q16, .ref q17, .null, .null])), (q1, .inl (4, [.int 6, .int 2, .int 1, .int 0, .int 0, .ref q2, .ref q3, .int 0, .int 1])), (q2, .inr (.inl (true, 13, fun _ => 0))), (q3, .inr (.inl (false, 13, fun q => if q < 13 then 100 else 0))), (q4, .inl (3, [.ref q5, .ref q6, .int 0, .int 0, .int 0])), (q5, .inr (.inl (false, 23517, fun _ => 0))), (q6, .inr (.inl (false, 23517, fun _ => 0))), (q7, .inl (5, [.int 1, .ref q8, .ref q9, .ref q10, .int 0, .int 0])), (q8, .inr (.inl (false, 117, fun _ => 0))), (q9, .inr (.inl (false, 117, fun _ => 0))), (q10, .inr (.inl (false, 117, fun _ => 0))), (q11, .inl (5, [.int 0, .ref q12, .ref q13, .ref q14, .int 0, .int 0])), (q12, .inr (.inl (false, 117, fun _ => 0))), (q13, .inr (.inl (false, 117, fun _ => 0))), (q14, .inr (.inl (false, 117, fun _ => 0))), (q15, .inl (2, [.int 0, .int 0, .int 0, .int 0, .int 0, .int 0, .int (-1), .int 0, .int 0, .int 0])), (q16, .inl (0, [.int 0, .int 0, .int 0, .int 0, .int 0, .int 0])), (q17, .inl (0, [.int 0, .int 0, .int 0, .int 0, .int 0, .int 0]))]) rfl ?_
  refine an_aload_n rfl dX6_init_83 ?_
  refine an_new (ci := 0) rfl hTX0 tyX0_ok cl_X6_42 in_X0 ii_X0 (fs := [.int 0, .int 0, .int 0, .int 0, .int 0, .int 0]) df_X0 (Nat.le_of_ble_eq_true rfl) (Nat.le_of_ble_eq_true rfl) dX6_init_84 (cs' := 18) (sl' := 47816) rfl rfl (fun q18 => ?_)
  refine an_ws (ws' := [(q, .inl (6, [.ref q1, .ref q4, .ref q7, .ref q11, .ref q15, .ref q16, .ref q17, .null, .null])), (q1, .inl (4, [.int 6, .int 2, .int 1, .int 0, .int 0, .ref q2, .ref q3, .int 0, .int 1])), (q2, .inr (.inl (true, 13, fun _ => 0))), (q3, .inr (.inl (false, 13, fun q => if q < 13 then 100 else 0))), (q4, .inl (3, [.ref q5, .ref q6, .int 0, .int 0, .int 0])), (q5, .inr (.inl (false, 23517, fun _ => 0))), (q6, .inr (.inl (false, 23517, fun _ => 0))), (q7, .inl (5, [.int 1, .ref q8, .ref q9, .ref q10, .int 0, .int 0])), (q8, .inr (.inl (false, 117, fun _ => 0))), (q9, .inr (.inl (false, 117, fun _ => 0))), (q10, .inr (.inl (false, 117, fun _ => 0))), (q11, .inl (5, [.int 0, .ref q12, .ref q13, .ref q14, .int 0, .int 0])), (q12, .inr (.inl (false, 117, fun _ => 0))), (q13, .inr (.inl (false, 117, fun _ => 0))), (q14, .inr (.inl (false, 117, fun _ => 0))), (q15, .inl (2, [.int 0, .int 0, .int 0, .int 0, .int 0, .int 0, .int (-1), .int 0, .int 0, .int 0])), (q16, .inl (0, [.int 0, .int 0, .int 0, .int 0, .int 0, .int 0])), (q17, .inl (0, [.int 0, .int 0, .int 0, .int 0, .int 0, .int 0])), (q18, .inl (0, [.int 0, .int 0, .int 0, .int 0, .int 0, .int 0]))]) rfl ?_
  refine an_dup rfl dX6_init_87 ?_
  refine an_callIN (wr := [(q, .inl (6, [.ref q1, .ref q4, .ref q7, .ref q11, .ref q15, .ref q16, .ref q17, .null, .null])), (q1, .inl (4, [.int 6, .int 2, .int 1, .int 0, .int 0, .ref q2, .ref q3, .int 0, .int 1])), (q2, .inr (.inl (true, 13, fun _ => 0))), (q3, .inr (.inl (false, 13, fun q => if q < 13 then 100 else 0))), (q4, .inl (3, [.ref q5, .ref q6, .int 0, .int 0, .int 0])), (q5, .inr (.inl (false, 23517, fun _ => 0))), (q6, .inr (.inl (false, 23517, fun _ => 0))), (q7, .inl (5, [.int 1, .ref q8, .ref q9, .ref q10, .int 0, .int 0])), (q8, .inr (.inl (false, 117, fun _ => 0))), (q9, .inr (.inl (false, 117, fun _ => 0))), (q10, .inr (.inl (false, 117, fun _ => 0))), (q11, .inl (5, [.int 0, .ref q12, .ref q13, .ref q14, .int 0, .int 0])), (q12, .inr (.inl (false, 117, fun _ => 0))), (q13, .inr (.inl (false, 117, fun _ => 0))), (q14, .inr (.inl (false, 117, fun _ => 0))), (q15, .inl (2, [.int 0, .int 0, .int 0, .int 0, .int 0, .int 0, .int (-1), .int 0, .int 0, .int 0])), (q16, .inl (0, [.int 0, .int 0, .int 0, .int 0, .int 0, .int 0])), (q17, .inl (0, [.int 0, .int 0, .int 0, .int 0, .int 0, .int 0]))]) (wc := [(q18, .inl (0, [.int 0, .int 0, .int 0, .int 0, .int 0, .int 0]))]) (mc := 0) (ms := 0) (c_X0_init q18) okX0_init ml_X6_44 rfl ⟨by decide, by decide⟩ ⟨(Nat.le_of_ble_eq_true rfl), (Nat.le_of_ble_eq_true rfl)⟩ (Nat.le_of_ble_eq_true rfl) rfl dX6_init_88 rfl (cs' := 18) (sl' := 47816) rfl rfl (fun w1 h1 => ?_)
  obtain rfl := h1
  refine an_ws (ws' := [(q, .inl (6, [.ref q1, .ref q4, .ref q7, .ref q11, .ref q15, .ref q16, .ref q17, .null, .null])), (q1, .inl (4, [.int 6, .int 2, .int 1, .int 0, .int 0, .ref q2, .ref q3, .int 0, .int 1])), (q2, .inr (.inl (true, 13, fun _ => 0))), (q3, .inr (.inl (false, 13, fun q => if q < 13 then 100 else 0))), (q4, .inl (3, [.ref q5, .ref q6, .int 0, .int 0, .int 0])), (q5, .inr (.inl (false, 23517, fun _ => 0))), (q6, .inr (.inl (false, 23517, fun _ => 0))), (q7, .inl (5, [.int 1, .ref q8, .ref q9, .ref q10, .int 0, .int 0])), (q8, .inr (.inl (false, 117, fun _ => 0))), (q9, .inr (.inl (false, 117, fun _ => 0))), (q10, .inr (.inl (false, 117, fun _ => 0))), (q11, .inl (5, [.int 0, .ref q12, .ref q13, .ref q14, .int 0, .int 0])), (q12, .inr (.inl (false, 117, fun _ => 0))), (q13, .inr (.inl (false, 117, fun _ => 0))), (q14, .inr (.inl (false, 117, fun _ => 0))), (q15, .inl (2, [.int 0, .int 0, .int 0, .int 0, .int 0, .int 0, .int (-1), .int 0, .int 0, .int 0])), (q16, .inl (0, [.int 0, .int 0, .int 0, .int 0, .int 0, .int 0])), (q17, .inl (0, [.int 0, .int 0, .int 0, .int 0, .int 0, .int 0])), (q18, .inl (0, [.int 0, .int 0, .int 0, .int 0, .int 0, .int 0]))]) rfl ?_
  refine an_putF (k := 7) (ci := 6) rfl hTX6 tyX6_ok nmX6 0 rfl (by decide) fl_X6_52 rfl (fun _ _ _ _ _ _ h => h) rfl rfl rfl rfl (Nat.le_of_ble_eq_true rfl) dX6_init_91 (ws' := [(q, .inl (6, [.ref q1, .ref q4, .ref q7, .ref q11, .ref q15, .ref q16, .ref q17, .ref q18, .null])), (q1, .inl (4, [.int 6, .int 2, .int 1, .int 0, .int 0, .ref q2, .ref q3, .int 0, .int 1])), (q2, .inr (.inl (true, 13, fun _ => 0))), (q3, .inr (.inl (false, 13, fun q => if q < 13 then 100 else 0))), (q4, .inl (3, [.ref q5, .ref q6, .int 0, .int 0, .int 0])), (q5, .inr (.inl (false, 23517, fun _ => 0))), (q6, .inr (.inl (false, 23517, fun _ => 0))), (q7, .inl (5, [.int 1, .ref q8, .ref q9, .ref q10, .int 0, .int 0])), (q8, .inr (.inl (false, 117, fun _ => 0))), (q9, .inr (.inl (false, 117, fun _ => 0))), (q10, .inr (.inl (false, 117, fun _ => 0))), (q11, .inl (5, [.int 0, .ref q12, .ref q13, .ref q14, .int 0, .int 0])), (q12, .inr (.inl (false, 117, fun _ => 0))), (q13, .inr (.inl (false, 117, fun _ => 0))), (q14, .inr (.inl (false, 117, fun _ => 0))), (q15, .inl (2, [.int 0, .int 0, .int 0, .int 0, .int 0, .int 0, .int (-1), .int 0, .int 0, .int 0])), (q16, .inl (0, [.int 0, .int 0, .int 0, .int 0, .int 0, .int 0])), (q17, .inl (0, [.int 0, .int 0, .int 0, .int 0, .int 0, .int 0])), (q18, .inl (0, [.int 0, .int 0, .int 0, .int 0, .int 0, .int 0]))]) rfl ?_
  refine an_aload_n rfl dX6_init_94 ?_
  refine an_new (ci := 1) rfl hTX1 tyX1_ok cl_X6_55 in_X1 ii_X1 (fs := [.int 0, .int 0, .null]) df_X1 (Nat.le_of_ble_eq_true rfl) (Nat.le_of_ble_eq_true rfl) dX6_init_95 (cs' := 19) (sl' := 47819) rfl rfl (fun q19 => ?_)
  refine an_ws (ws' := [(q, .inl (6, [.ref q1, .ref q4, .ref q7, .ref q11, .ref q15, .ref q16, .ref q17, .ref q18, .null])), (q1, .inl (4, [.int 6, .int 2, .int 1, .int 0, .int 0, .ref q2, .ref q3, .int 0, .int 1])), (q2, .inr (.inl (true, 13, fun _ => 0))), (q3, .inr (.inl (false, 13, fun q => if q < 13 then 100 else 0))), (q4, .inl (3, [.ref q5, .ref q6, .int 0, .int 0, .int 0])), (q5, .inr (.inl (false, 23517, fun _ => 0))), (q6, .inr (.inl (false, 23517, fun _ => 0))), (q7, .inl (5, [.int 1, .ref q8, .ref q9, .ref q10, .int 0, .int 0])), (q8, .inr (.inl (false, 117, fun _ => 0))), (q9, .inr (.inl (false, 117, fun _ => 0))), (q10, .inr (.inl (false, 117, fun _ => 0))), (q11, .inl (5, [.int 0, .ref q12, .ref q13, .ref q14, .int 0, .int 0])), (q12, .inr (.inl (false, 117, fun _ => 0))), (q13, .inr (.inl (false, 117, fun _ => 0))), (q14, .inr (.inl (false, 117, fun _ => 0))), (q15, .inl (2, [.int 0, .int 0, .int 0, .int 0, .int 0, .int 0, .int (-1), .int 0, .int 0, .int 0])), (q16, .inl (0, [.int 0, .int 0, .int 0, .int 0, .int 0, .int 0])), (q17, .inl (0, [.int 0, .int 0, .int 0, .int 0, .int 0, .int 0])), (q18, .inl (0, [.int 0, .int 0, .int 0, .int 0, .int 0, .int 0])), (q19, .inl (1, [.int 0, .int 0, .null]))]) rfl ?_
  refine an_dup rfl dX6_init_98 ?_
  refine an_callI (wr := [(q, .inl (6, [.ref q1, .ref q4, .ref q7, .ref q11, .ref q15, .ref q16, .ref q17, .ref q18, .null])), (q1, .inl (4, [.int 6, .int 2, .int 1, .int 0, .int 0, .ref q2, .ref q3, .int 0, .int 1])), (q2, .inr (.inl (true, 13, fun _ => 0))), (q3, .inr (.inl (false, 13, fun q => if q < 13 then 100 else 0))), (q4, .inl (3, [.ref q5, .ref q6, .int 0, .int 0, .int 0])), (q5, .inr (.inl (false, 23517, fun _ => 0))), (q6, .inr (.inl (false, 23517, fun _ => 0))), (q7, .inl (5, [.int 1, .ref q8, .ref q9, .ref q10, .int 0, .int 0])), (q8, .inr (.inl (false, 117, fun _ => 0))), (q9, .inr (.inl (false, 117, fun _ => 0))), (q10, .inr (.inl (false, 117, fun _ => 0))), (q11, .inl (5, [.int 0, .ref q12, .ref q13, .ref q14, .int 0, .int 0])), (q12, .inr (.inl (false, 117, fun _ => 0))), (q13, .inr (.inl (false, 117, fun _ => 0))), (q14, .inr (.inl (false, 117, fun _ => 0))), (q15, .inl (2, [.int 0, .int 0, .int 0, .int 0, .int 0, .int 0, .int (-1), .int 0, .int 0, .int 0])), (q16, .inl (0, [.int 0, .int 0, .int 0, .int 0, .int 0, .int 0])), (q17, .inl (0, [.int 0, .int 0, .int 0, .int 0, .int 0, .int 0])), (q18, .inl (0, [.int 0, .int 0, .int 0, .int 0, .int 0, .int 0]))]) (wc := [(q19, .inl (1, [.int 0, .int 0, .null]))]) (mc := 1) (ms := 9) (c_X1_init q19) okX1_init ml_X6_57 rfl ⟨by decide, by decide⟩ ⟨(Nat.le_of_ble_eq_true rfl), (Nat.le_of_ble_eq_true rfl)⟩ (Nat.le_of_ble_eq_true rfl) rfl dX6_init_99 rfl (cs' := 20) (sl' := 47828) rfl rfl (fun w1 h1 => ?_)
  obtain ⟨q20, rfl⟩ := h1
  refine an_ws (ws' := [(q, .inl (6, [.ref q1, .ref q4, .ref q7, .ref q11, .ref q15, .ref q16, .ref q17, .ref q18, .null])), (q1, .inl (4, [.int 6, .int 2, .int 1, .int 0, .int 0, .ref q2, .ref q3, .int 0, .int 1])), (q2, .inr (.inl (true, 13, fun _ => 0))), (q3, .inr (.inl (false, 13, fun q => if q < 13 then 100 else 0))), (q4, .inl (3, [.ref q5, .ref q6, .int 0, .int 0, .int 0])), (q5, .inr (.inl (false, 23517, fun _ => 0))), (q6, .inr (.inl (false, 23517, fun _ => 0))), (q7, .inl (5, [.int 1, .ref q8, .ref q9, .ref q10, .int 0, .int 0])), (q8, .inr (.inl (false, 117, fun _ => 0))), (q9, .inr (.inl (false, 117, fun _ => 0))), (q10, .inr (.inl (false, 117, fun _ => 0))), (q11, .inl (5, [.int 0, .ref q12, .ref q13, .ref q14, .int 0, .int 0])), (q12, .inr (.inl (false, 117, fun _ => 0))), (q13, .inr (.inl (false, 117, fun _ => 0))), (q14, .inr (.inl (false, 117, fun _ => 0))), (q15, .inl (2, [.int 0, .int 0, .int 0, .int 0, .int 0, .int 0, .int (-1), .int 0, .int 0, .int 0])), (q16, .inl (0, [.int 0, .int 0, .int 0, .int 0, .int 0, .int 0])), (q17, .inl (0, [.int 0, .int 0, .int 0, .int 0, .int 0, .int 0])), (q18, .inl (0, [.int 0, .int 0, .int 0, .int 0, .int 0, .int 0])), (q19, .inl (1, [.int (nI 4), .int 10, .ref q20])), (q20, .inr (.inl (false, 9, fun q => if q < 5 then sp_lv 4 10 q else 0)))]) rfl ?_
  refine an_putF (k := 8) (ci := 6) rfl hTX6 tyX6_ok nmX6 0 rfl (by decide) fl_X6_58 rfl (fun _ _ _ _ _ _ h => h) rfl rfl rfl rfl (Nat.le_of_ble_eq_true rfl) dX6_init_102 (ws' := [(q, .inl (6, [.ref q1, .ref q4, .ref q7, .ref q11, .ref q15, .ref q16, .ref q17, .ref q18, .ref q19])), (q1, .inl (4, [.int 6, .int 2, .int 1, .int 0, .int 0, .ref q2, .ref q3, .int 0, .int 1])), (q2, .inr (.inl (true, 13, fun _ => 0))), (q3, .inr (.inl (false, 13, fun q => if q < 13 then 100 else 0))), (q4, .inl (3, [.ref q5, .ref q6, .int 0, .int 0, .int 0])), (q5, .inr (.inl (false, 23517, fun _ => 0))), (q6, .inr (.inl (false, 23517, fun _ => 0))), (q7, .inl (5, [.int 1, .ref q8, .ref q9, .ref q10, .int 0, .int 0])), (q8, .inr (.inl (false, 117, fun _ => 0))), (q9, .inr (.inl (false, 117, fun _ => 0))), (q10, .inr (.inl (false, 117, fun _ => 0))), (q11, .inl (5, [.int 0, .ref q12, .ref q13, .ref q14, .int 0, .int 0])), (q12, .inr (.inl (false, 117, fun _ => 0))), (q13, .inr (.inl (false, 117, fun _ => 0))), (q14, .inr (.inl (false, 117, fun _ => 0))), (q15, .inl (2, [.int 0, .int 0, .int 0, .int 0, .int 0, .int 0, .int (-1), .int 0, .int 0, .int 0])), (q16, .inl (0, [.int 0, .int 0, .int 0, .int 0, .int 0, .int 0])), (q17, .inl (0, [.int 0, .int 0, .int 0, .int 0, .int 0, .int 0])), (q18, .inl (0, [.int 0, .int 0, .int 0, .int 0, .int 0, .int 0])), (q19, .inl (1, [.int (nI 4), .int 10, .ref q20])), (q20, .inr (.inl (false, 9, fun q => if q < 5 then sp_lv 4 10 q else 0)))]) rfl ?_
  refine an_vret rfl dX6_init_105 ?_
  exact ⟨q1, q2, q3, q4, q5, q6, q7, q8, q9, q10, q11, q12, q13, q14, q15, q16, q17, q18, q19, q20, rfl⟩
set_option maxRecDepth 100000 in
set_option maxHeartbeats 400000 in
theorem lp_X7_init (rm : Jvm.Room) (QF : an_QF) (q q2 : Nat) (fs : List Value) (hf : fs[7]? = some (.ref q2)) (b : Nat × an_E) (ws : List (Nat × an_E)) (cs sl : Nat) (K : an_W ydX7_init rm QF an_H0 165 [some (.ref q), some (.int (nI 13))] [] ((q, .inl (7, fs)) :: b :: (q2, .inr (.inl (false, 13, fun q => if q < 13 then 100 else 0))) :: ws) cs sl) : ∀ (n j : Nat) (g : Nat → Int32), j + n = 13 → (g = fun q => if q < j then 100 else 0) → an_W ydX7_init rm QF an_H0 145 [some (.ref q), some (.int (nI j))] [] ((q, .inl (7, fs)) :: b :: (q2, .inr (.inl (false, 13, g))) :: ws) cs sl := by
  intro n
  induction n with
  | zero =>
    intro j g hj hg
    obtain rfl : j = 13 := by omega
    subst hg
    refine an_iload_n rfl dX7_init_145 ?_
    refine an_bipush (v := 13) (by decide) dX7_init_146 ?_
    exact an_icmp_ge (tgt := 165) (by decide) dX7_init_148 (fun _ => K) (fun h => absurd (by decide) h)
  | succ n ih =>
    intro j g hj hg
    refine an_iload_n rfl dX7_init_145 ?_
    refine an_bipush (v := 13) (by decide) dX7_init_146 ?_
    refine an_icmp_ge (tgt := 165) (by decide) dX7_init_148 (fun h => absurd h ?_) (fun h => ?_)
    · rw [Int32.le_iff_toInt_le, kI_13, nI_e]
      omega
    · refine an_aload_n rfl dX7_init_151 ?_
      refine an_getf (k := 7) (ci := 7) rfl hTX7 0 rfl (by decide) fl_X7_23 hf dX7_init_152 ?_
      refine an_iload_n rfl dX7_init_155 ?_
      refine an_bipush (v := 100) (by decide) dX7_init_156 ?_
      refine an_iast 2 rfl (am_vpI (by rw [nI_e]; omega) (by rw [nI_e]; omega)) dX7_init_158 (ws' := (q, .inl (7, fs)) :: b :: (q2, .inr (.inl (false, 13, upd g (nI j).toNatClampNeg 100))) :: ws) rfl ?_
      refine an_iinc (v := nI (j + 1)) rfl (nI_inc j) (by decide) dX7_init_159 ?_
      refine an_goto (tgt := 145) (by decide) dX7_init_162 ?_
      refine ih (j + 1) _ (by omega) ?_
      subst hg
      rw [nI_clamp (by omega)]
      funext x
      unfold upd
      by_cases h1 : x = j
      · subst h1
        simp
      · rw [if_neg h1]
        dsimp only
        by_cases h2 : x < j
        · rw [if_pos h2, if_pos (by omega)]
        · rw [if_neg h2, if_neg (by omega)]
set_option maxRecDepth 100000 in
set_option maxHeartbeats 4000000 in
theorem c_X7_init (q : Nat) : an_C ydX7_init 15 49321 [.ref q] [(q, .inl (7, [.int 0, .int 0, .int 0, .int 0, .int 0, .int 0, .null, .null, .int 0, .null, .null, .null, .int 0, .null, .null, .int 0, .int 0, .null, .null, .null, .null, .null, .int 0, .int 0, .int 0, .int 0, .int 0, .int 0, .int 0, .int 0, .int 0, .null, .null, .null, .int 0, .int 0]))] (fun w => ∃ q1 q2 q3 q4 q5 q6 q7 q8 q9 q10 q11 q12 q13 q14 q15 : Nat, w = [(q, .inl (7, [.int 0, .int 6, .int 2, .int 1, .int 0, .int 0, .ref q1, .ref q2, .int 0, .ref q3, .ref q4, .ref q5, .int 0, .ref q6, .ref q7, .int 0, .int 0, .ref q8, .ref q9, .ref q10, .ref q11, .ref q12, .int 0, .int 0, .int 0, .int 0, .int 0, .int 0, .int 0, .int 0, .int (-1), .ref q13, .ref q14, .ref q15, .int (nI 4), .int 10])), (q1, .inr (.inl (true, 13, fun _ => 0))), (q2, .inr (.inl (false, 13, fun q => if q < 13 then 100 else 0))), (q3, .inr (.inl (false, 23517, fun _ => 0))), (q4, .inr (.inl (false, 23517, fun _ => 0))), (q5, .inr (.inl (false, 1000, fun _ => 0))), (q6, .inr (.inl (false, 117, fun _ => 0))), (q7, .inr (.inl (false, 117, fun _ => 0))), (q8, .inr (.inl (false, 3, fun _ => 0))), (q9, .inr (.inl (false, 3, fun _ => 0))), (q10, .inr (.inl (false, 3, fun _ => 0))), (q11, .inr (.inl (false, 3, fun _ => 0))), (q12, .inr (.inl (false, 1000, fun _ => 0))), (q13, .inr (.inl (false, 3, fun _ => 0))), (q14, .inr (.inl (true, 3, fun _ => 0))), (q15, .inr (.inl (false, 9, fun q => if q < 5 then sp_lv 4 10 q else 0)))]) := by
  refine an_ofW (L := [some (.ref q), none]) (by decide +kernel) rfl (by simp [Value.category]) (Nat.le_of_ble_eq_true rfl) rfl ?_
  refine an_aload_n rfl dX7_init_0 ?_
  refine an_oinit ml_X7_1 ow_i ow_c (by decide) (Nat.le_of_ble_eq_true rfl) dX7_init_1 ?_
  refine an_aload_n rfl dX7_init_4 ?_
  refine an_bipush (v := 6) (by decide) dX7_init_5 ?_
  refine an_put (k := 1) (ci := 7) rfl hTX7 tyX7_ok nmX7 0 rfl (by decide) fl_X7_7 rfl rfl rfl rfl (Nat.le_of_ble_eq_true rfl) dX7_init_7 (ws' := [(q, .inl (7, [.int 0, .int 6, .int 0, .int 0, .int 0, .int 0, .null, .null, .int 0, .null, .null, .null, .int 0, .null, .null, .int 0, .int 0, .null, .null, .null, .null, .null, .int 0, .int 0, .int 0, .int 0, .int 0, .int 0, .int 0, .int 0, .int 0, .null, .null, .null, .int 0, .int 0]))]) rfl ?_
  refine an_aload_n rfl dX7_init_10 ?_
  refine an_iconst (v := 2) (by decide) dX7_init_11 ?_
  refine an_put (k := 2) (ci := 7) rfl hTX7 tyX7_ok nmX7 0 rfl (by decide) fl_X7_13 rfl rfl rfl rfl (Nat.le_of_ble_eq_true rfl) dX7_init_12 (ws' := [(q, .inl (7, [.int 0, .int 6, .int 2, .int 0, .int 0, .int 0, .null, .null, .int 0, .null, .null, .null, .int 0, .null, .null, .int 0, .int 0, .null, .null, .null, .null, .null, .int 0, .int 0, .int 0, .int 0, .int 0, .int 0, .int 0, .int 0, .int 0, .null, .null, .null, .int 0, .int 0]))]) rfl ?_
  refine an_aload_n rfl dX7_init_15 ?_
  refine an_iconst (v := 1) (by decide) dX7_init_16 ?_
  refine an_put (k := 3) (ci := 7) rfl hTX7 tyX7_ok nmX7 0 rfl (by decide) fl_X7_16 rfl rfl rfl rfl (Nat.le_of_ble_eq_true rfl) dX7_init_17 (ws' := [(q, .inl (7, [.int 0, .int 6, .int 2, .int 1, .int 0, .int 0, .null, .null, .int 0, .null, .null, .null, .int 0, .null, .null, .int 0, .int 0, .null, .null, .null, .null, .null, .int 0, .int 0, .int 0, .int 0, .int 0, .int 0, .int 0, .int 0, .int 0, .null, .null, .null, .int 0, .int 0]))]) rfl ?_
  refine an_aload_n rfl dX7_init_20 ?_
  refine an_bipush (v := 13) (by decide) dX7_init_21 ?_
  refine an_newZ (n' := 13) ar_Z (by decide) (by decide +kernel) (Nat.le_of_ble_eq_true rfl) (Nat.le_of_ble_eq_true rfl) (Nat.le_of_ble_eq_true rfl) dX7_init_23 (cs' := 1) (sl' := 13) rfl rfl (fun q1 => ?_)
  refine an_ws (ws' := [(q, .inl (7, [.int 0, .int 6, .int 2, .int 1, .int 0, .int 0, .null, .null, .int 0, .null, .null, .null, .int 0, .null, .null, .int 0, .int 0, .null, .null, .null, .null, .null, .int 0, .int 0, .int 0, .int 0, .int 0, .int 0, .int 0, .int 0, .int 0, .null, .null, .null, .int 0, .int 0])), (q1, .inr (.inl (true, 13, fun _ => 0)))]) rfl ?_
  refine an_putF (k := 6) (ci := 7) rfl hTX7 tyX7_ok nmX7 0 rfl (by decide) fl_X7_19 rfl (fun _ _ _ _ _ _ h => h) rfl rfl rfl rfl (Nat.le_of_ble_eq_true rfl) dX7_init_25 (ws' := [(q, .inl (7, [.int 0, .int 6, .int 2, .int 1, .int 0, .int 0, .ref q1, .null, .int 0, .null, .null, .null, .int 0, .null, .null, .int 0, .int 0, .null, .null, .null, .null, .null, .int 0, .int 0, .int 0, .int 0, .int 0, .int 0, .int 0, .int 0, .int 0, .null, .null, .null, .int 0, .int 0])), (q1, .inr (.inl (true, 13, fun _ => 0)))]) rfl ?_
  refine an_aload_n rfl dX7_init_28 ?_
  refine an_bipush (v := 13) (by decide) dX7_init_29 ?_
  refine an_newI (n' := 13) ar_I (by decide) (by decide +kernel) (Nat.le_of_ble_eq_true rfl) (Nat.le_of_ble_eq_true rfl) (Nat.le_of_ble_eq_true rfl) dX7_init_31 (cs' := 2) (sl' := 26) rfl rfl (fun q2 => ?_)
  refine an_ws (ws' := [(q, .inl (7, [.int 0, .int 6, .int 2, .int 1, .int 0, .int 0, .ref q1, .null, .int 0, .null, .null, .null, .int 0, .null, .null, .int 0, .int 0, .null, .null, .null, .null, .null, .int 0, .int 0, .int 0, .int 0, .int 0, .int 0, .int 0, .int 0, .int 0, .null, .null, .null, .int 0, .int 0])), (q1, .inr (.inl (true, 13, fun _ => 0))), (q2, .inr (.inl (false, 13, fun _ => 0)))]) rfl ?_
  refine an_putF (k := 7) (ci := 7) rfl hTX7 tyX7_ok nmX7 0 rfl (by decide) fl_X7_23 rfl (fun _ _ _ _ _ _ h => h) rfl rfl rfl rfl (Nat.le_of_ble_eq_true rfl) dX7_init_33 (ws' := [(q, .inl (7, [.int 0, .int 6, .int 2, .int 1, .int 0, .int 0, .ref q1, .ref q2, .int 0, .null, .null, .null, .int 0, .null, .null, .int 0, .int 0, .null, .null, .null, .null, .null, .int 0, .int 0, .int 0, .int 0, .int 0, .int 0, .int 0, .int 0, .int 0, .null, .null, .null, .int 0, .int 0])), (q1, .inr (.inl (true, 13, fun _ => 0))), (q2, .inr (.inl (false, 13, fun _ => 0)))]) rfl ?_
  refine an_aload_n rfl dX7_init_36 ?_
  refine an_sipush (v := 23517) (by decide) dX7_init_37 ?_
  refine an_newI (n' := 23517) ar_I (by decide) (by decide +kernel) (Nat.le_of_ble_eq_true rfl) (Nat.le_of_ble_eq_true rfl) (Nat.le_of_ble_eq_true rfl) dX7_init_40 (cs' := 3) (sl' := 23543) rfl rfl (fun q3 => ?_)
  refine an_ws (ws' := [(q, .inl (7, [.int 0, .int 6, .int 2, .int 1, .int 0, .int 0, .ref q1, .ref q2, .int 0, .null, .null, .null, .int 0, .null, .null, .int 0, .int 0, .null, .null, .null, .null, .null, .int 0, .int 0, .int 0, .int 0, .int 0, .int 0, .int 0, .int 0, .int 0, .null, .null, .null, .int 0, .int 0])), (q1, .inr (.inl (true, 13, fun _ => 0))), (q2, .inr (.inl (false, 13, fun _ => 0))), (q3, .inr (.inl (false, 23517, fun _ => 0)))]) rfl ?_
  refine an_putF (k := 9) (ci := 7) rfl hTX7 tyX7_ok nmX7 0 rfl (by decide) fl_X7_27 rfl (fun _ _ _ _ _ _ h => h) rfl rfl rfl rfl (Nat.le_of_ble_eq_true rfl) dX7_init_42 (ws' := [(q, .inl (7, [.int 0, .int 6, .int 2, .int 1, .int 0, .int 0, .ref q1, .ref q2, .int 0, .ref q3, .null, .null, .int 0, .null, .null, .int 0, .int 0, .null, .null, .null, .null, .null, .int 0, .int 0, .int 0, .int 0, .int 0, .int 0, .int 0, .int 0, .int 0, .null, .null, .null, .int 0, .int 0])), (q1, .inr (.inl (true, 13, fun _ => 0))), (q2, .inr (.inl (false, 13, fun _ => 0))), (q3, .inr (.inl (false, 23517, fun _ => 0)))]) rfl ?_
  refine an_aload_n rfl dX7_init_45 ?_
  refine an_sipush (v := 23517) (by decide) dX7_init_46 ?_
  refine an_newI (n' := 23517) ar_I (by decide) (by decide +kernel) (Nat.le_of_ble_eq_true rfl) (Nat.le_of_ble_eq_true rfl) (Nat.le_of_ble_eq_true rfl) dX7_init_49 (cs' := 4) (sl' := 47060) rfl rfl (fun q4 => ?_)
  refine an_ws (ws' := [(q, .inl (7, [.int 0, .int 6, .int 2, .int 1, .int 0, .int 0, .ref q1, .ref q2, .int 0, .ref q3, .null, .null, .int 0, .null, .null, .int 0, .int 0, .null, .null, .null, .null, .null, .int 0, .int 0, .int 0, .int 0, .int 0, .int 0, .int 0, .int 0, .int 0, .null, .null, .null, .int 0, .int 0])), (q1, .inr (.inl (true, 13, fun _ => 0))), (q2, .inr (.inl (false, 13, fun _ => 0))), (q3, .inr (.inl (false, 23517, fun _ => 0))), (q4, .inr (.inl (false, 23517, fun _ => 0)))]) rfl ?_
  refine an_putF (k := 10) (ci := 7) rfl hTX7 tyX7_ok nmX7 0 rfl (by decide) fl_X7_30 rfl (fun _ _ _ _ _ _ h => h) rfl rfl rfl rfl (Nat.le_of_ble_eq_true rfl) dX7_init_51 (ws' := [(q, .inl (7, [.int 0, .int 6, .int 2, .int 1, .int 0, .int 0, .ref q1, .ref q2, .int 0, .ref q3, .ref q4, .null, .int 0, .null, .null, .int 0, .int 0, .null, .null, .null, .null, .null, .int 0, .int 0, .int 0, .int 0, .int 0, .int 0, .int 0, .int 0, .int 0, .null, .null, .null, .int 0, .int 0])), (q1, .inr (.inl (true, 13, fun _ => 0))), (q2, .inr (.inl (false, 13, fun _ => 0))), (q3, .inr (.inl (false, 23517, fun _ => 0))), (q4, .inr (.inl (false, 23517, fun _ => 0)))]) rfl ?_
  refine an_aload_n rfl dX7_init_54 ?_
  refine an_sipush (v := 1000) (by decide) dX7_init_55 ?_
  refine an_newI (n' := 1000) ar_I (by decide) (by decide +kernel) (Nat.le_of_ble_eq_true rfl) (Nat.le_of_ble_eq_true rfl) (Nat.le_of_ble_eq_true rfl) dX7_init_58 (cs' := 5) (sl' := 48060) rfl rfl (fun q5 => ?_)
  refine an_ws (ws' := [(q, .inl (7, [.int 0, .int 6, .int 2, .int 1, .int 0, .int 0, .ref q1, .ref q2, .int 0, .ref q3, .ref q4, .null, .int 0, .null, .null, .int 0, .int 0, .null, .null, .null, .null, .null, .int 0, .int 0, .int 0, .int 0, .int 0, .int 0, .int 0, .int 0, .int 0, .null, .null, .null, .int 0, .int 0])), (q1, .inr (.inl (true, 13, fun _ => 0))), (q2, .inr (.inl (false, 13, fun _ => 0))), (q3, .inr (.inl (false, 23517, fun _ => 0))), (q4, .inr (.inl (false, 23517, fun _ => 0))), (q5, .inr (.inl (false, 1000, fun _ => 0)))]) rfl ?_
  refine an_putF (k := 11) (ci := 7) rfl hTX7 tyX7_ok nmX7 0 rfl (by decide) fl_X7_33 rfl (fun _ _ _ _ _ _ h => h) rfl rfl rfl rfl (Nat.le_of_ble_eq_true rfl) dX7_init_60 (ws' := [(q, .inl (7, [.int 0, .int 6, .int 2, .int 1, .int 0, .int 0, .ref q1, .ref q2, .int 0, .ref q3, .ref q4, .ref q5, .int 0, .null, .null, .int 0, .int 0, .null, .null, .null, .null, .null, .int 0, .int 0, .int 0, .int 0, .int 0, .int 0, .int 0, .int 0, .int 0, .null, .null, .null, .int 0, .int 0])), (q1, .inr (.inl (true, 13, fun _ => 0))), (q2, .inr (.inl (false, 13, fun _ => 0))), (q3, .inr (.inl (false, 23517, fun _ => 0))), (q4, .inr (.inl (false, 23517, fun _ => 0))), (q5, .inr (.inl (false, 1000, fun _ => 0)))]) rfl ?_
  refine an_aload_n rfl dX7_init_63 ?_
  refine an_bipush (v := 117) (by decide) dX7_init_64 ?_
  refine an_newI (n' := 117) ar_I (by decide) (by decide +kernel) (Nat.le_of_ble_eq_true rfl) (Nat.le_of_ble_eq_true rfl) (Nat.le_of_ble_eq_true rfl) dX7_init_66 (cs' := 6) (sl' := 48177) rfl rfl (fun q6 => ?_)
  refine an_ws (ws' := [(q, .inl (7, [.int 0, .int 6, .int 2, .int 1, .int 0, .int 0, .ref q1, .ref q2, .int 0, .ref q3, .ref q4, .ref q5, .int 0, .null, .null, .int 0, .int 0, .null, .null, .null, .null, .null, .int 0, .int 0, .int 0, .int 0, .int 0, .int 0, .int 0, .int 0, .int 0, .null, .null, .null, .int 0, .int 0])), (q1, .inr (.inl (true, 13, fun _ => 0))), (q2, .inr (.inl (false, 13, fun _ => 0))), (q3, .inr (.inl (false, 23517, fun _ => 0))), (q4, .inr (.inl (false, 23517, fun _ => 0))), (q5, .inr (.inl (false, 1000, fun _ => 0))), (q6, .inr (.inl (false, 117, fun _ => 0)))]) rfl ?_
  refine an_putF (k := 13) (ci := 7) rfl hTX7 tyX7_ok nmX7 0 rfl (by decide) fl_X7_36 rfl (fun _ _ _ _ _ _ h => h) rfl rfl rfl rfl (Nat.le_of_ble_eq_true rfl) dX7_init_68 (ws' := [(q, .inl (7, [.int 0, .int 6, .int 2, .int 1, .int 0, .int 0, .ref q1, .ref q2, .int 0, .ref q3, .ref q4, .ref q5, .int 0, .ref q6, .null, .int 0, .int 0, .null, .null, .null, .null, .null, .int 0, .int 0, .int 0, .int 0, .int 0, .int 0, .int 0, .int 0, .int 0, .null, .null, .null, .int 0, .int 0])), (q1, .inr (.inl (true, 13, fun _ => 0))), (q2, .inr (.inl (false, 13, fun _ => 0))), (q3, .inr (.inl (false, 23517, fun _ => 0))), (q4, .inr (.inl (false, 23517, fun _ => 0))), (q5, .inr (.inl (false, 1000, fun _ => 0))), (q6, .inr (.inl (false, 117, fun _ => 0)))]) rfl ?_
  refine an_aload_n rfl dX7_init_71 ?_
  refine an_bipush (v := 117) (by decide) dX7_init_72 ?_
  refine an_newI (n' := 117) ar_I (by decide) (by decide +kernel) (Nat.le_of_ble_eq_true rfl) (Nat.le_of_ble_eq_true rfl) (Nat.le_of_ble_eq_true rfl) dX7_init_74 (cs' := 7) (sl' := 48294) rfl rfl (fun q7 => ?_)
  refine an_ws (ws' := [(q, .inl (7, [.int 0, .int 6, .int 2, .int 1, .int 0, .int 0, .ref q1, .ref q2, .int 0, .ref q3, .ref q4, .ref q5, .int 0, .ref q6, .null, .int 0, .int 0, .null, .null, .null, .null, .null, .int 0, .int 0, .int 0, .int 0, .int 0, .int 0, .int 0, .int 0, .int 0, .null, .null, .null, .int 0, .int 0])), (q1, .inr (.inl (true, 13, fun _ => 0))), (q2, .inr (.inl (false, 13, fun _ => 0))), (q3, .inr (.inl (false, 23517, fun _ => 0))), (q4, .inr (.inl (false, 23517, fun _ => 0))), (q5, .inr (.inl (false, 1000, fun _ => 0))), (q6, .inr (.inl (false, 117, fun _ => 0))), (q7, .inr (.inl (false, 117, fun _ => 0)))]) rfl ?_
  refine an_putF (k := 14) (ci := 7) rfl hTX7 tyX7_ok nmX7 0 rfl (by decide) fl_X7_39 rfl (fun _ _ _ _ _ _ h => h) rfl rfl rfl rfl (Nat.le_of_ble_eq_true rfl) dX7_init_76 (ws' := [(q, .inl (7, [.int 0, .int 6, .int 2, .int 1, .int 0, .int 0, .ref q1, .ref q2, .int 0, .ref q3, .ref q4, .ref q5, .int 0, .ref q6, .ref q7, .int 0, .int 0, .null, .null, .null, .null, .null, .int 0, .int 0, .int 0, .int 0, .int 0, .int 0, .int 0, .int 0, .int 0, .null, .null, .null, .int 0, .int 0])), (q1, .inr (.inl (true, 13, fun _ => 0))), (q2, .inr (.inl (false, 13, fun _ => 0))), (q3, .inr (.inl (false, 23517, fun _ => 0))), (q4, .inr (.inl (false, 23517, fun _ => 0))), (q5, .inr (.inl (false, 1000, fun _ => 0))), (q6, .inr (.inl (false, 117, fun _ => 0))), (q7, .inr (.inl (false, 117, fun _ => 0)))]) rfl ?_
  refine an_aload_n rfl dX7_init_79 ?_
  refine an_iconst (v := 3) (by decide) dX7_init_80 ?_
  refine an_newI (n' := 3) ar_I (by decide) (by decide +kernel) (Nat.le_of_ble_eq_true rfl) (Nat.le_of_ble_eq_true rfl) (Nat.le_of_ble_eq_true rfl) dX7_init_81 (cs' := 8) (sl' := 48297) rfl rfl (fun q8 => ?_)
  refine an_ws (ws' := [(q, .inl (7, [.int 0, .int 6, .int 2, .int 1, .int 0, .int 0, .ref q1, .ref q2, .int 0, .ref q3, .ref q4, .ref q5, .int 0, .ref q6, .ref q7, .int 0, .int 0, .null, .null, .null, .null, .null, .int 0, .int 0, .int 0, .int 0, .int 0, .int 0, .int 0, .int 0, .int 0, .null, .null, .null, .int 0, .int 0])), (q1, .inr (.inl (true, 13, fun _ => 0))), (q2, .inr (.inl (false, 13, fun _ => 0))), (q3, .inr (.inl (false, 23517, fun _ => 0))), (q4, .inr (.inl (false, 23517, fun _ => 0))), (q5, .inr (.inl (false, 1000, fun _ => 0))), (q6, .inr (.inl (false, 117, fun _ => 0))), (q7, .inr (.inl (false, 117, fun _ => 0))), (q8, .inr (.inl (false, 3, fun _ => 0)))]) rfl ?_
  refine an_putF (k := 17) (ci := 7) rfl hTX7 tyX7_ok nmX7 0 rfl (by decide) fl_X7_42 rfl (fun _ _ _ _ _ _ h => h) rfl rfl rfl rfl (Nat.le_of_ble_eq_true rfl) dX7_init_83 (ws' := [(q, .inl (7, [.int 0, .int 6, .int 2, .int 1, .int 0, .int 0, .ref q1, .ref q2, .int 0, .ref q3, .ref q4, .ref q5, .int 0, .ref q6, .ref q7, .int 0, .int 0, .ref q8, .null, .null, .null, .null, .int 0, .int 0, .int 0, .int 0, .int 0, .int 0, .int 0, .int 0, .int 0, .null, .null, .null, .int 0, .int 0])), (q1, .inr (.inl (true, 13, fun _ => 0))), (q2, .inr (.inl (false, 13, fun _ => 0))), (q3, .inr (.inl (false, 23517, fun _ => 0))), (q4, .inr (.inl (false, 23517, fun _ => 0))), (q5, .inr (.inl (false, 1000, fun _ => 0))), (q6, .inr (.inl (false, 117, fun _ => 0))), (q7, .inr (.inl (false, 117, fun _ => 0))), (q8, .inr (.inl (false, 3, fun _ => 0)))]) rfl ?_
  refine an_aload_n rfl dX7_init_86 ?_
  refine an_iconst (v := 3) (by decide) dX7_init_87 ?_
  refine an_newI (n' := 3) ar_I (by decide) (by decide +kernel) (Nat.le_of_ble_eq_true rfl) (Nat.le_of_ble_eq_true rfl) (Nat.le_of_ble_eq_true rfl) dX7_init_88 (cs' := 9) (sl' := 48300) rfl rfl (fun q9 => ?_)
  refine an_ws (ws' := [(q, .inl (7, [.int 0, .int 6, .int 2, .int 1, .int 0, .int 0, .ref q1, .ref q2, .int 0, .ref q3, .ref q4, .ref q5, .int 0, .ref q6, .ref q7, .int 0, .int 0, .ref q8, .null, .null, .null, .null, .int 0, .int 0, .int 0, .int 0, .int 0, .int 0, .int 0, .int 0, .int 0, .null, .null, .null, .int 0, .int 0])), (q1, .inr (.inl (true, 13, fun _ => 0))), (q2, .inr (.inl (false, 13, fun _ => 0))), (q3, .inr (.inl (false, 23517, fun _ => 0))), (q4, .inr (.inl (false, 23517, fun _ => 0))), (q5, .inr (.inl (false, 1000, fun _ => 0))), (q6, .inr (.inl (false, 117, fun _ => 0))), (q7, .inr (.inl (false, 117, fun _ => 0))), (q8, .inr (.inl (false, 3, fun _ => 0))), (q9, .inr (.inl (false, 3, fun _ => 0)))]) rfl ?_
  refine an_putF (k := 18) (ci := 7) rfl hTX7 tyX7_ok nmX7 0 rfl (by decide) fl_X7_45 rfl (fun _ _ _ _ _ _ h => h) rfl rfl rfl rfl (Nat.le_of_ble_eq_true rfl) dX7_init_90 (ws' := [(q, .inl (7, [.int 0, .int 6, .int 2, .int 1, .int 0, .int 0, .ref q1, .ref q2, .int 0, .ref q3, .ref q4, .ref q5, .int 0, .ref q6, .ref q7, .int 0, .int 0, .ref q8, .ref q9, .null, .null, .null, .int 0, .int 0, .int 0, .int 0, .int 0, .int 0, .int 0, .int 0, .int 0, .null, .null, .null, .int 0, .int 0])), (q1, .inr (.inl (true, 13, fun _ => 0))), (q2, .inr (.inl (false, 13, fun _ => 0))), (q3, .inr (.inl (false, 23517, fun _ => 0))), (q4, .inr (.inl (false, 23517, fun _ => 0))), (q5, .inr (.inl (false, 1000, fun _ => 0))), (q6, .inr (.inl (false, 117, fun _ => 0))), (q7, .inr (.inl (false, 117, fun _ => 0))), (q8, .inr (.inl (false, 3, fun _ => 0))), (q9, .inr (.inl (false, 3, fun _ => 0)))]) rfl ?_
  refine an_aload_n rfl dX7_init_93 ?_
  refine an_iconst (v := 3) (by decide) dX7_init_94 ?_
  refine an_newI (n' := 3) ar_I (by decide) (by decide +kernel) (Nat.le_of_ble_eq_true rfl) (Nat.le_of_ble_eq_true rfl) (Nat.le_of_ble_eq_true rfl) dX7_init_95 (cs' := 10) (sl' := 48303) rfl rfl (fun q10 => ?_)
  refine an_ws (ws' := [(q, .inl (7, [.int 0, .int 6, .int 2, .int 1, .int 0, .int 0, .ref q1, .ref q2, .int 0, .ref q3, .ref q4, .ref q5, .int 0, .ref q6, .ref q7, .int 0, .int 0, .ref q8, .ref q9, .null, .null, .null, .int 0, .int 0, .int 0, .int 0, .int 0, .int 0, .int 0, .int 0, .int 0, .null, .null, .null, .int 0, .int 0])), (q1, .inr (.inl (true, 13, fun _ => 0))), (q2, .inr (.inl (false, 13, fun _ => 0))), (q3, .inr (.inl (false, 23517, fun _ => 0))), (q4, .inr (.inl (false, 23517, fun _ => 0))), (q5, .inr (.inl (false, 1000, fun _ => 0))), (q6, .inr (.inl (false, 117, fun _ => 0))), (q7, .inr (.inl (false, 117, fun _ => 0))), (q8, .inr (.inl (false, 3, fun _ => 0))), (q9, .inr (.inl (false, 3, fun _ => 0))), (q10, .inr (.inl (false, 3, fun _ => 0)))]) rfl ?_
  refine an_putF (k := 19) (ci := 7) rfl hTX7 tyX7_ok nmX7 0 rfl (by decide) fl_X7_48 rfl (fun _ _ _ _ _ _ h => h) rfl rfl rfl rfl (Nat.le_of_ble_eq_true rfl) dX7_init_97 (ws' := [(q, .inl (7, [.int 0, .int 6, .int 2, .int 1, .int 0, .int 0, .ref q1, .ref q2, .int 0, .ref q3, .ref q4, .ref q5, .int 0, .ref q6, .ref q7, .int 0, .int 0, .ref q8, .ref q9, .ref q10, .null, .null, .int 0, .int 0, .int 0, .int 0, .int 0, .int 0, .int 0, .int 0, .int 0, .null, .null, .null, .int 0, .int 0])), (q1, .inr (.inl (true, 13, fun _ => 0))), (q2, .inr (.inl (false, 13, fun _ => 0))), (q3, .inr (.inl (false, 23517, fun _ => 0))), (q4, .inr (.inl (false, 23517, fun _ => 0))), (q5, .inr (.inl (false, 1000, fun _ => 0))), (q6, .inr (.inl (false, 117, fun _ => 0))), (q7, .inr (.inl (false, 117, fun _ => 0))), (q8, .inr (.inl (false, 3, fun _ => 0))), (q9, .inr (.inl (false, 3, fun _ => 0))), (q10, .inr (.inl (false, 3, fun _ => 0)))]) rfl ?_
  refine an_aload_n rfl dX7_init_100 ?_
  refine an_iconst (v := 3) (by decide) dX7_init_101 ?_
  refine an_newI (n' := 3) ar_I (by decide) (by decide +kernel) (Nat.le_of_ble_eq_true rfl) (Nat.le_of_ble_eq_true rfl) (Nat.le_of_ble_eq_true rfl) dX7_init_102 (cs' := 11) (sl' := 48306) rfl rfl (fun q11 => ?_)
  refine an_ws (ws' := [(q, .inl (7, [.int 0, .int 6, .int 2, .int 1, .int 0, .int 0, .ref q1, .ref q2, .int 0, .ref q3, .ref q4, .ref q5, .int 0, .ref q6, .ref q7, .int 0, .int 0, .ref q8, .ref q9, .ref q10, .null, .null, .int 0, .int 0, .int 0, .int 0, .int 0, .int 0, .int 0, .int 0, .int 0, .null, .null, .null, .int 0, .int 0])), (q1, .inr (.inl (true, 13, fun _ => 0))), (q2, .inr (.inl (false, 13, fun _ => 0))), (q3, .inr (.inl (false, 23517, fun _ => 0))), (q4, .inr (.inl (false, 23517, fun _ => 0))), (q5, .inr (.inl (false, 1000, fun _ => 0))), (q6, .inr (.inl (false, 117, fun _ => 0))), (q7, .inr (.inl (false, 117, fun _ => 0))), (q8, .inr (.inl (false, 3, fun _ => 0))), (q9, .inr (.inl (false, 3, fun _ => 0))), (q10, .inr (.inl (false, 3, fun _ => 0))), (q11, .inr (.inl (false, 3, fun _ => 0)))]) rfl ?_
  refine an_putF (k := 20) (ci := 7) rfl hTX7 tyX7_ok nmX7 0 rfl (by decide) fl_X7_51 rfl (fun _ _ _ _ _ _ h => h) rfl rfl rfl rfl (Nat.le_of_ble_eq_true rfl) dX7_init_104 (ws' := [(q, .inl (7, [.int 0, .int 6, .int 2, .int 1, .int 0, .int 0, .ref q1, .ref q2, .int 0, .ref q3, .ref q4, .ref q5, .int 0, .ref q6, .ref q7, .int 0, .int 0, .ref q8, .ref q9, .ref q10, .ref q11, .null, .int 0, .int 0, .int 0, .int 0, .int 0, .int 0, .int 0, .int 0, .int 0, .null, .null, .null, .int 0, .int 0])), (q1, .inr (.inl (true, 13, fun _ => 0))), (q2, .inr (.inl (false, 13, fun _ => 0))), (q3, .inr (.inl (false, 23517, fun _ => 0))), (q4, .inr (.inl (false, 23517, fun _ => 0))), (q5, .inr (.inl (false, 1000, fun _ => 0))), (q6, .inr (.inl (false, 117, fun _ => 0))), (q7, .inr (.inl (false, 117, fun _ => 0))), (q8, .inr (.inl (false, 3, fun _ => 0))), (q9, .inr (.inl (false, 3, fun _ => 0))), (q10, .inr (.inl (false, 3, fun _ => 0))), (q11, .inr (.inl (false, 3, fun _ => 0)))]) rfl ?_
  refine an_aload_n rfl dX7_init_107 ?_
  refine an_sipush (v := 1000) (by decide) dX7_init_108 ?_
  refine an_newI (n' := 1000) ar_I (by decide) (by decide +kernel) (Nat.le_of_ble_eq_true rfl) (Nat.le_of_ble_eq_true rfl) (Nat.le_of_ble_eq_true rfl) dX7_init_111 (cs' := 12) (sl' := 49306) rfl rfl (fun q12 => ?_)
  refine an_ws (ws' := [(q, .inl (7, [.int 0, .int 6, .int 2, .int 1, .int 0, .int 0, .ref q1, .ref q2, .int 0, .ref q3, .ref q4, .ref q5, .int 0, .ref q6, .ref q7, .int 0, .int 0, .ref q8, .ref q9, .ref q10, .ref q11, .null, .int 0, .int 0, .int 0, .int 0, .int 0, .int 0, .int 0, .int 0, .int 0, .null, .null, .null, .int 0, .int 0])), (q1, .inr (.inl (true, 13, fun _ => 0))), (q2, .inr (.inl (false, 13, fun _ => 0))), (q3, .inr (.inl (false, 23517, fun _ => 0))), (q4, .inr (.inl (false, 23517, fun _ => 0))), (q5, .inr (.inl (false, 1000, fun _ => 0))), (q6, .inr (.inl (false, 117, fun _ => 0))), (q7, .inr (.inl (false, 117, fun _ => 0))), (q8, .inr (.inl (false, 3, fun _ => 0))), (q9, .inr (.inl (false, 3, fun _ => 0))), (q10, .inr (.inl (false, 3, fun _ => 0))), (q11, .inr (.inl (false, 3, fun _ => 0))), (q12, .inr (.inl (false, 1000, fun _ => 0)))]) rfl ?_
  refine an_putF (k := 21) (ci := 7) rfl hTX7 tyX7_ok nmX7 0 rfl (by decide) fl_X7_54 rfl (fun _ _ _ _ _ _ h => h) rfl rfl rfl rfl (Nat.le_of_ble_eq_true rfl) dX7_init_113 (ws' := [(q, .inl (7, [.int 0, .int 6, .int 2, .int 1, .int 0, .int 0, .ref q1, .ref q2, .int 0, .ref q3, .ref q4, .ref q5, .int 0, .ref q6, .ref q7, .int 0, .int 0, .ref q8, .ref q9, .ref q10, .ref q11, .ref q12, .int 0, .int 0, .int 0, .int 0, .int 0, .int 0, .int 0, .int 0, .int 0, .null, .null, .null, .int 0, .int 0])), (q1, .inr (.inl (true, 13, fun _ => 0))), (q2, .inr (.inl (false, 13, fun _ => 0))), (q3, .inr (.inl (false, 23517, fun _ => 0))), (q4, .inr (.inl (false, 23517, fun _ => 0))), (q5, .inr (.inl (false, 1000, fun _ => 0))), (q6, .inr (.inl (false, 117, fun _ => 0))), (q7, .inr (.inl (false, 117, fun _ => 0))), (q8, .inr (.inl (false, 3, fun _ => 0))), (q9, .inr (.inl (false, 3, fun _ => 0))), (q10, .inr (.inl (false, 3, fun _ => 0))), (q11, .inr (.inl (false, 3, fun _ => 0))), (q12, .inr (.inl (false, 1000, fun _ => 0)))]) rfl ?_
  refine an_aload_n rfl dX7_init_116 ?_
  refine an_iconst (v := (-1)) (by decide) dX7_init_117 ?_
  refine an_put (k := 30) (ci := 7) rfl hTX7 tyX7_ok nmX7 0 rfl (by decide) fl_X7_57 rfl rfl rfl rfl (Nat.le_of_ble_eq_true rfl) dX7_init_118 (ws' := [(q, .inl (7, [.int 0, .int 6, .int 2, .int 1, .int 0, .int 0, .ref q1, .ref q2, .int 0, .ref q3, .ref q4, .ref q5, .int 0, .ref q6, .ref q7, .int 0, .int 0, .ref q8, .ref q9, .ref q10, .ref q11, .ref q12, .int 0, .int 0, .int 0, .int 0, .int 0, .int 0, .int 0, .int 0, .int (-1), .null, .null, .null, .int 0, .int 0])), (q1, .inr (.inl (true, 13, fun _ => 0))), (q2, .inr (.inl (false, 13, fun _ => 0))), (q3, .inr (.inl (false, 23517, fun _ => 0))), (q4, .inr (.inl (false, 23517, fun _ => 0))), (q5, .inr (.inl (false, 1000, fun _ => 0))), (q6, .inr (.inl (false, 117, fun _ => 0))), (q7, .inr (.inl (false, 117, fun _ => 0))), (q8, .inr (.inl (false, 3, fun _ => 0))), (q9, .inr (.inl (false, 3, fun _ => 0))), (q10, .inr (.inl (false, 3, fun _ => 0))), (q11, .inr (.inl (false, 3, fun _ => 0))), (q12, .inr (.inl (false, 1000, fun _ => 0)))]) rfl ?_
  refine an_aload_n rfl dX7_init_121 ?_
  refine an_iconst (v := 3) (by decide) dX7_init_122 ?_
  refine an_newI (n' := 3) ar_I (by decide) (by decide +kernel) (Nat.le_of_ble_eq_true rfl) (Nat.le_of_ble_eq_true rfl) (Nat.le_of_ble_eq_true rfl) dX7_init_123 (cs' := 13) (sl' := 49309) rfl rfl (fun q13 => ?_)
  refine an_ws (ws' := [(q, .inl (7, [.int 0, .int 6, .int 2, .int 1, .int 0, .int 0, .ref q1, .ref q2, .int 0, .ref q3, .ref q4, .ref q5, .int 0, .ref q6, .ref q7, .int 0, .int 0, .ref q8, .ref q9, .ref q10, .ref q11, .ref q12, .int 0, .int 0, .int 0, .int 0, .int 0, .int 0, .int 0, .int 0, .int (-1), .null, .null, .null, .int 0, .int 0])), (q1, .inr (.inl (true, 13, fun _ => 0))), (q2, .inr (.inl (false, 13, fun _ => 0))), (q3, .inr (.inl (false, 23517, fun _ => 0))), (q4, .inr (.inl (false, 23517, fun _ => 0))), (q5, .inr (.inl (false, 1000, fun _ => 0))), (q6, .inr (.inl (false, 117, fun _ => 0))), (q7, .inr (.inl (false, 117, fun _ => 0))), (q8, .inr (.inl (false, 3, fun _ => 0))), (q9, .inr (.inl (false, 3, fun _ => 0))), (q10, .inr (.inl (false, 3, fun _ => 0))), (q11, .inr (.inl (false, 3, fun _ => 0))), (q12, .inr (.inl (false, 1000, fun _ => 0))), (q13, .inr (.inl (false, 3, fun _ => 0)))]) rfl ?_
  refine an_putF (k := 31) (ci := 7) rfl hTX7 tyX7_ok nmX7 0 rfl (by decide) fl_X7_60 rfl (fun _ _ _ _ _ _ h => h) rfl rfl rfl rfl (Nat.le_of_ble_eq_true rfl) dX7_init_125 (ws' := [(q, .inl (7, [.int 0, .int 6, .int 2, .int 1, .int 0, .int 0, .ref q1, .ref q2, .int 0, .ref q3, .ref q4, .ref q5, .int 0, .ref q6, .ref q7, .int 0, .int 0, .ref q8, .ref q9, .ref q10, .ref q11, .ref q12, .int 0, .int 0, .int 0, .int 0, .int 0, .int 0, .int 0, .int 0, .int (-1), .ref q13, .null, .null, .int 0, .int 0])), (q1, .inr (.inl (true, 13, fun _ => 0))), (q2, .inr (.inl (false, 13, fun _ => 0))), (q3, .inr (.inl (false, 23517, fun _ => 0))), (q4, .inr (.inl (false, 23517, fun _ => 0))), (q5, .inr (.inl (false, 1000, fun _ => 0))), (q6, .inr (.inl (false, 117, fun _ => 0))), (q7, .inr (.inl (false, 117, fun _ => 0))), (q8, .inr (.inl (false, 3, fun _ => 0))), (q9, .inr (.inl (false, 3, fun _ => 0))), (q10, .inr (.inl (false, 3, fun _ => 0))), (q11, .inr (.inl (false, 3, fun _ => 0))), (q12, .inr (.inl (false, 1000, fun _ => 0))), (q13, .inr (.inl (false, 3, fun _ => 0)))]) rfl ?_
  refine an_aload_n rfl dX7_init_128 ?_
  refine an_iconst (v := 3) (by decide) dX7_init_129 ?_
  refine an_newZ (n' := 3) ar_Z (by decide) (by decide +kernel) (Nat.le_of_ble_eq_true rfl) (Nat.le_of_ble_eq_true rfl) (Nat.le_of_ble_eq_true rfl) dX7_init_130 (cs' := 14) (sl' := 49312) rfl rfl (fun q14 => ?_)
  refine an_ws (ws' := [(q, .inl (7, [.int 0, .int 6, .int 2, .int 1, .int 0, .int 0, .ref q1, .ref q2, .int 0, .ref q3, .ref q4, .ref q5, .int 0, .ref q6, .ref q7, .int 0, .int 0, .ref q8, .ref q9, .ref q10, .ref q11, .ref q12, .int 0, .int 0, .int 0, .int 0, .int 0, .int 0, .int 0, .int 0, .int (-1), .ref q13, .null, .null, .int 0, .int 0])), (q1, .inr (.inl (true, 13, fun _ => 0))), (q2, .inr (.inl (false, 13, fun _ => 0))), (q3, .inr (.inl (false, 23517, fun _ => 0))), (q4, .inr (.inl (false, 23517, fun _ => 0))), (q5, .inr (.inl (false, 1000, fun _ => 0))), (q6, .inr (.inl (false, 117, fun _ => 0))), (q7, .inr (.inl (false, 117, fun _ => 0))), (q8, .inr (.inl (false, 3, fun _ => 0))), (q9, .inr (.inl (false, 3, fun _ => 0))), (q10, .inr (.inl (false, 3, fun _ => 0))), (q11, .inr (.inl (false, 3, fun _ => 0))), (q12, .inr (.inl (false, 1000, fun _ => 0))), (q13, .inr (.inl (false, 3, fun _ => 0))), (q14, .inr (.inl (true, 3, fun _ => 0)))]) rfl ?_
  refine an_putF (k := 32) (ci := 7) rfl hTX7 tyX7_ok nmX7 0 rfl (by decide) fl_X7_63 rfl (fun _ _ _ _ _ _ h => h) rfl rfl rfl rfl (Nat.le_of_ble_eq_true rfl) dX7_init_132 (ws' := [(q, .inl (7, [.int 0, .int 6, .int 2, .int 1, .int 0, .int 0, .ref q1, .ref q2, .int 0, .ref q3, .ref q4, .ref q5, .int 0, .ref q6, .ref q7, .int 0, .int 0, .ref q8, .ref q9, .ref q10, .ref q11, .ref q12, .int 0, .int 0, .int 0, .int 0, .int 0, .int 0, .int 0, .int 0, .int (-1), .ref q13, .ref q14, .null, .int 0, .int 0])), (q1, .inr (.inl (true, 13, fun _ => 0))), (q2, .inr (.inl (false, 13, fun _ => 0))), (q3, .inr (.inl (false, 23517, fun _ => 0))), (q4, .inr (.inl (false, 23517, fun _ => 0))), (q5, .inr (.inl (false, 1000, fun _ => 0))), (q6, .inr (.inl (false, 117, fun _ => 0))), (q7, .inr (.inl (false, 117, fun _ => 0))), (q8, .inr (.inl (false, 3, fun _ => 0))), (q9, .inr (.inl (false, 3, fun _ => 0))), (q10, .inr (.inl (false, 3, fun _ => 0))), (q11, .inr (.inl (false, 3, fun _ => 0))), (q12, .inr (.inl (false, 1000, fun _ => 0))), (q13, .inr (.inl (false, 3, fun _ => 0))), (q14, .inr (.inl (true, 3, fun _ => 0)))]) rfl ?_
  refine an_aload_n rfl dX7_init_135 ?_
  refine an_bipush (v := 9) (by decide) dX7_init_136 ?_
  refine an_newI (n' := 9) ar_I (by decide) (by decide +kernel) (Nat.le_of_ble_eq_true rfl) (Nat.le_of_ble_eq_true rfl) (Nat.le_of_ble_eq_true rfl) dX7_init_138 (cs' := 15) (sl' := 49321) rfl rfl (fun q15 => ?_)
  refine an_ws (ws' := [(q, .inl (7, [.int 0, .int 6, .int 2, .int 1, .int 0, .int 0, .ref q1, .ref q2, .int 0, .ref q3, .ref q4, .ref q5, .int 0, .ref q6, .ref q7, .int 0, .int 0, .ref q8, .ref q9, .ref q10, .ref q11, .ref q12, .int 0, .int 0, .int 0, .int 0, .int 0, .int 0, .int 0, .int 0, .int (-1), .ref q13, .ref q14, .null, .int 0, .int 0])), (q1, .inr (.inl (true, 13, fun _ => 0))), (q2, .inr (.inl (false, 13, fun _ => 0))), (q3, .inr (.inl (false, 23517, fun _ => 0))), (q4, .inr (.inl (false, 23517, fun _ => 0))), (q5, .inr (.inl (false, 1000, fun _ => 0))), (q6, .inr (.inl (false, 117, fun _ => 0))), (q7, .inr (.inl (false, 117, fun _ => 0))), (q8, .inr (.inl (false, 3, fun _ => 0))), (q9, .inr (.inl (false, 3, fun _ => 0))), (q10, .inr (.inl (false, 3, fun _ => 0))), (q11, .inr (.inl (false, 3, fun _ => 0))), (q12, .inr (.inl (false, 1000, fun _ => 0))), (q13, .inr (.inl (false, 3, fun _ => 0))), (q14, .inr (.inl (true, 3, fun _ => 0))), (q15, .inr (.inl (false, 9, fun _ => 0)))]) rfl ?_
  refine an_putF (k := 33) (ci := 7) rfl hTX7 tyX7_ok nmX7 0 rfl (by decide) fl_X7_66 rfl (fun _ _ _ _ _ _ h => h) rfl rfl rfl rfl (Nat.le_of_ble_eq_true rfl) dX7_init_140 (ws' := [(q, .inl (7, [.int 0, .int 6, .int 2, .int 1, .int 0, .int 0, .ref q1, .ref q2, .int 0, .ref q3, .ref q4, .ref q5, .int 0, .ref q6, .ref q7, .int 0, .int 0, .ref q8, .ref q9, .ref q10, .ref q11, .ref q12, .int 0, .int 0, .int 0, .int 0, .int 0, .int 0, .int 0, .int 0, .int (-1), .ref q13, .ref q14, .ref q15, .int 0, .int 0])), (q1, .inr (.inl (true, 13, fun _ => 0))), (q2, .inr (.inl (false, 13, fun _ => 0))), (q3, .inr (.inl (false, 23517, fun _ => 0))), (q4, .inr (.inl (false, 23517, fun _ => 0))), (q5, .inr (.inl (false, 1000, fun _ => 0))), (q6, .inr (.inl (false, 117, fun _ => 0))), (q7, .inr (.inl (false, 117, fun _ => 0))), (q8, .inr (.inl (false, 3, fun _ => 0))), (q9, .inr (.inl (false, 3, fun _ => 0))), (q10, .inr (.inl (false, 3, fun _ => 0))), (q11, .inr (.inl (false, 3, fun _ => 0))), (q12, .inr (.inl (false, 1000, fun _ => 0))), (q13, .inr (.inl (false, 3, fun _ => 0))), (q14, .inr (.inl (true, 3, fun _ => 0))), (q15, .inr (.inl (false, 9, fun _ => 0)))]) rfl ?_
  refine an_iconst (v := nI 0) (by decide) dX7_init_143 ?_
  refine an_istore_n (by decide) dX7_init_144 ?_
  refine lp_X7_init _ _ q q2 _ rfl _ _ _ _ ?_ 13 0 _ (by omega) (by funext x; simp)
  refine an_aload_n rfl dX7_init_165 ?_
  refine an_iconst (v := 4) (by decide) dX7_init_166 ?_
  refine an_bipush (v := 10) (by decide) dX7_init_167 ?_
  refine an_swap (a := [(q, .inl (7, [.int 0, .int 6, .int 2, .int 1, .int 0, .int 0, .ref q1, .ref q2, .int 0, .ref q3, .ref q4, .ref q5, .int 0, .ref q6, .ref q7, .int 0, .int 0, .ref q8, .ref q9, .ref q10, .ref q11, .ref q12, .int 0, .int 0, .int 0, .int 0, .int 0, .int 0, .int 0, .int 0, .int (-1), .ref q13, .ref q14, .ref q15, .int 0, .int 0]))]) (b := [(q1, .inr (.inl (true, 13, fun _ => 0))), (q2, .inr (.inl (false, 13, fun q => if q < 13 then 100 else 0))), (q3, .inr (.inl (false, 23517, fun _ => 0))), (q4, .inr (.inl (false, 23517, fun _ => 0))), (q5, .inr (.inl (false, 1000, fun _ => 0))), (q6, .inr (.inl (false, 117, fun _ => 0))), (q7, .inr (.inl (false, 117, fun _ => 0))), (q8, .inr (.inl (false, 3, fun _ => 0))), (q9, .inr (.inl (false, 3, fun _ => 0))), (q10, .inr (.inl (false, 3, fun _ => 0))), (q11, .inr (.inl (false, 3, fun _ => 0))), (q12, .inr (.inl (false, 1000, fun _ => 0))), (q13, .inr (.inl (false, 3, fun _ => 0))), (q14, .inr (.inl (true, 3, fun _ => 0))), (q15, .inr (.inl (false, 9, fun _ => 0)))]) rfl ?_
  refine an_callV (k := 21) (wr := [(q1, .inr (.inl (true, 13, fun _ => 0))), (q2, .inr (.inl (false, 13, fun q => if q < 13 then 100 else 0))), (q3, .inr (.inl (false, 23517, fun _ => 0))), (q4, .inr (.inl (false, 23517, fun _ => 0))), (q5, .inr (.inl (false, 1000, fun _ => 0))), (q6, .inr (.inl (false, 117, fun _ => 0))), (q7, .inr (.inl (false, 117, fun _ => 0))), (q8, .inr (.inl (false, 3, fun _ => 0))), (q9, .inr (.inl (false, 3, fun _ => 0))), (q10, .inr (.inl (false, 3, fun _ => 0))), (q11, .inr (.inl (false, 3, fun _ => 0))), (q12, .inr (.inl (false, 1000, fun _ => 0))), (q13, .inr (.inl (false, 3, fun _ => 0))), (q14, .inr (.inl (true, 3, fun _ => 0)))]) (c2_X7_table (fun k => match k with | 21 => q | 22 => q1 | 23 => q2 | 24 => q3 | 25 => q4 | 26 => q5 | 27 => q6 | 28 => q7 | 29 => q8 | 30 => q9 | 31 => q10 | 32 => q11 | 33 => q12 | 34 => q13 | 35 => q14 | _ => q15) (fun k => match k with | 21 => (fun j => match j with | 1 => 6 | 2 => 2 | 3 => 1 | 30 => (-1) | _ => 0) | _ => (fun _ => 0)) 4 10) okX7_table ml_X7_69 (by decide) rfl rfl rfl ⟨by decide, by decide⟩ ⟨(Nat.le_of_ble_eq_true rfl), (Nat.le_of_ble_eq_true rfl)⟩ (Nat.le_of_ble_eq_true rfl) rfl dX7_init_169 rfl (fun r M' h => ?_)
  rw [if_pos (by decide : sp_okTab 4 10 = true)] at h
  obtain ⟨rfl, rfl⟩ := h
  refine an_istore_n (by decide) dX7_init_172 ?_
  refine an_ws (ws' := [(q1, .inr (.inl (true, 13, fun _ => 0))), (q2, .inr (.inl (false, 13, fun q => if q < 13 then 100 else 0))), (q3, .inr (.inl (false, 23517, fun _ => 0))), (q4, .inr (.inl (false, 23517, fun _ => 0))), (q5, .inr (.inl (false, 1000, fun _ => 0))), (q6, .inr (.inl (false, 117, fun _ => 0))), (q7, .inr (.inl (false, 117, fun _ => 0))), (q8, .inr (.inl (false, 3, fun _ => 0))), (q9, .inr (.inl (false, 3, fun _ => 0))), (q10, .inr (.inl (false, 3, fun _ => 0))), (q11, .inr (.inl (false, 3, fun _ => 0))), (q12, .inr (.inl (false, 1000, fun _ => 0))), (q13, .inr (.inl (false, 3, fun _ => 0))), (q14, .inr (.inl (true, 3, fun _ => 0))), (q15, .inr (.inl (false, 9, fun q => if q < 5 then sp_lv 4 10 q else 0)))] ++ [(q, .inl (7, [.int 0, .int 6, .int 2, .int 1, .int 0, .int 0, .ref q1, .ref q2, .int 0, .ref q3, .ref q4, .ref q5, .int 0, .ref q6, .ref q7, .int 0, .int 0, .ref q8, .ref q9, .ref q10, .ref q11, .ref q12, .int 0, .int 0, .int 0, .int 0, .int 0, .int 0, .int 0, .int 0, .int (-1), .ref q13, .ref q14, .ref q15, .int (nI 4), .int 10]))]) rfl ?_
  refine an_swap rfl ?_
  refine an_vret rfl dX7_init_173 ?_
  exact ⟨q1, q2, q3, q4, q5, q6, q7, q8, q9, q10, q11, q12, q13, q14, q15, rfl⟩

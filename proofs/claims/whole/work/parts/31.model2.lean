theorem am_put_put (M : am_M) (k j : Nat) (u v : Int32) : am_put (am_put M k j u) k j v = am_put M k j v := by
  funext a
  unfold am_put
  by_cases h : a = k
  · subst h
    simp only [if_pos rfl]
    funext b
    unfold upd
    by_cases h2 : b = j <;> simp [h2]
  · simp [h]
theorem am_put_self (M : am_M) (k j : Nat) : am_put M k j (M k j) = M := by
  funext a
  unfold am_put
  by_cases h : a = k
  · subst h
    rw [if_pos rfl]
    funext b
    unfold upd
    by_cases h2 : b = j <;> simp [h2]
  · simp [h]
def mo_miss (M : am_M) (p : Int32) : Int32 := iabs (M 36 p.toNatClampNeg * M 36 p.toNatClampNeg + M 36 (M 21 34 - p).toNatClampNeg * M 36 (M 21 34 - p).toNatClampNeg - M 21 35 * M 21 35)
def mo_okSet (K : am_M) (p a : Int32) : Bool := sp_in p 0 (K 21 34) && sp_in a 0 (K 21 35)
theorem mo_vp {K : am_M} (hk : (K 21 34).toInt ≤ 8) {p : Int32} (h : sp_in p 0 (K 21 34) = true) : vp_in p 9 ∧ vp_in (K 21 34 - p) 9 := by
  simp only [sp_in, decide_eq_true_eq, Int32.le_iff_toInt_le, Int32.toInt_zero] at h
  exact ⟨am_vpI h.1 (by omega), am_vpI (by rw [i_sub]; omega) (by rw [i_sub]; omega)⟩
theorem md_ne (M : am_M) {a : Nat} (h : a ≠ 21) : md M a = M a := am_put_ne _ _ _ _ h
theorem md_f (M : am_M) {j : Nat} (h : j ≠ 0) : md M 21 j = M 21 j := by simp [am_rd, h]
set_option maxRecDepth 100000 in
set_option maxHeartbeats 400000 in
theorem c_X7_missOf (ad : Nat → Nat) (M : am_M) (p : Int32) (h1 : vp_in p 9) (h2 : vp_in (M 21 34 - p) 9) : am_C ydX7_missOf ad am_II [.ref (ad 21), .int p] M (am_is (mo_miss M p) M) := by
  refine am_ofW (by decide +kernel) (by simp [Value.category]) (Nat.le_of_ble_eq_true rfl) rfl ?_
  refine am_aload_n rfl dX7_missOf_0 ?_
  refine am_getr (j := 33) (by decide) rfl rfl rfl hTX7 (by decide) fl_X7_66 dX7_missOf_1 ?_
  refine am_iload_n rfl dX7_missOf_4 ?_
  refine am_iald (by decide) rfl (h1) dX7_missOf_5 ?_
  refine am_aload_n rfl dX7_missOf_6 ?_
  refine am_getr (j := 33) (by decide) rfl rfl rfl hTX7 (by decide) fl_X7_66 dX7_missOf_7 ?_
  refine am_iload_n rfl dX7_missOf_10 ?_
  refine am_iald (by decide) rfl (h1) dX7_missOf_11 ?_
  refine am_imul dX7_missOf_12 ?_
  refine am_aload_n rfl dX7_missOf_13 ?_
  refine am_getr (j := 33) (by decide) rfl rfl rfl hTX7 (by decide) fl_X7_66 dX7_missOf_14 ?_
  refine am_aload_n rfl dX7_missOf_17 ?_
  refine am_geti (j := 34) (by decide) rfl rfl rfl hTX7 (by decide) fl_X7_174 dX7_missOf_18 ?_
  refine am_iload_n rfl dX7_missOf_21 ?_
  refine am_isub dX7_missOf_22 ?_
  refine am_iald (by decide) rfl (h2) dX7_missOf_23 ?_
  refine am_aload_n rfl dX7_missOf_24 ?_
  refine am_getr (j := 33) (by decide) rfl rfl rfl hTX7 (by decide) fl_X7_66 dX7_missOf_25 ?_
  refine am_aload_n rfl dX7_missOf_28 ?_
  refine am_geti (j := 34) (by decide) rfl rfl rfl hTX7 (by decide) fl_X7_174 dX7_missOf_29 ?_
  refine am_iload_n rfl dX7_missOf_32 ?_
  refine am_isub dX7_missOf_33 ?_
  refine am_iald (by decide) rfl (h2) dX7_missOf_34 ?_
  refine am_imul dX7_missOf_35 ?_
  refine am_iadd dX7_missOf_36 ?_
  refine am_aload_n rfl dX7_missOf_37 ?_
  refine am_geti (j := 35) (by decide) rfl rfl rfl hTX7 (by decide) fl_X7_177 dX7_missOf_38 ?_
  refine am_aload_n rfl dX7_missOf_41 ?_
  refine am_geti (j := 35) (by decide) rfl rfl rfl hTX7 (by decide) fl_X7_177 dX7_missOf_42 ?_
  refine am_imul dX7_missOf_45 ?_
  refine am_isub dX7_missOf_46 ?_
  refine am_mabsI ml_X7_93 (by decide) (Nat.le_of_ble_eq_true rfl) dX7_missOf_47 ?_
  refine am_iret rfl dX7_missOf_50 ?_
  exact ⟨rfl, rfl⟩
set_option maxRecDepth 100000 in
set_option maxHeartbeats 400000 in
theorem c_X7_miss (ad : Nat → Nat) (M : am_M) (p : Int32) (hk : (M 21 34).toInt ≤ 8) : am_C ydX7_miss ad am_II [.ref (ad 21), .int p] M (am_is (if sp_in p 0 (md M 21 34) = true then mo_miss (md M) p else -1) (md M)) := by
  refine am_ofW (by decide +kernel) (by simp [Value.category]) (Nat.le_of_ble_eq_true rfl) rfl ?_
  refine am_aload_n rfl dX7_miss_0 ?_
  refine am_iconst (v := 0) (by decide) dX7_miss_1 ?_
  refine am_puti (j := 0) (by decide) rfl rfl rfl hTX7 tyX7_ok nmX7 (by decide) fl_X7_73 rfl rfl rfl rfl dX7_miss_2 ?_
  refine am_iload_n rfl dX7_miss_5 ?_
  refine am_iconst (v := 0) (by decide) dX7_miss_6 ?_
  refine am_aload_n rfl dX7_miss_7 ?_
  refine am_geti (j := 34) (by decide) rfl rfl rfl hTX7 (by decide) fl_X7_174 dX7_miss_8 ?_
  refine am_callSi (c_X7_isIn ad _ _ _ _) okX7_isIn ml_X7_80 rfl ⟨by decide, by decide⟩ (Nat.le_of_ble_eq_true rfl) rfl dX7_miss_11 ?_
  refine am_ifb_eq (tgt := 25) (by decide) dX7_miss_14 (fun h14 => ?_) (fun h14 => ?_)
  · refine am_iconst (v := (-1)) (by decide) dX7_miss_25 ?_
    refine am_iret rfl dX7_miss_26 ?_
    first | (rw [if_pos h14]; exact ⟨rfl, rfl⟩) | (rw [if_neg (by rw [h14]; decide)]; exact ⟨rfl, rfl⟩)
  · have hk2 : (md M 21 34).toInt ≤ 8 := by rw [md_f M (by decide)]; exact hk
    refine am_aload_n rfl dX7_miss_17 ?_
    refine am_iload_n rfl dX7_miss_18 ?_
    refine am_callVi (c_X7_missOf ad (md M) p (mo_vp hk2 h14).1 (mo_vp hk2 h14).2) okX7_missOf ml_X7_180 (by decide) rfl rfl rfl ⟨by decide, by decide⟩ (Nat.le_of_ble_eq_true rfl) rfl dX7_miss_19 ?_
    refine am_goto (tgt := 26) (by decide) dX7_miss_22 ?_
    refine am_iret rfl dX7_miss_26 ?_
    first | (rw [if_pos h14]; exact ⟨rfl, rfl⟩) | (rw [if_neg (by rw [h14]; decide)]; exact ⟨rfl, rfl⟩)
set_option maxRecDepth 100000 in
set_option maxHeartbeats 400000 in
theorem c_X7_set (ad : Nat → Nat) (M : am_M) (p a : Int32) (hk : (M 21 34).toInt ≤ 8) : am_C ydX7_set ad am_II [.ref (ad 21), .int p, .int a] M (am_is (bI (mo_okSet (md M) p a)) (if mo_okSet (md M) p a = true then am_put (md M) 36 p.toNatClampNeg a else md M)) := by
  refine am_ofW (by decide +kernel) (by simp [Value.category]) (Nat.le_of_ble_eq_true rfl) rfl ?_
  refine am_aload_n rfl dX7_set_0 ?_
  refine am_iconst (v := 0) (by decide) dX7_set_1 ?_
  refine am_puti (j := 0) (by decide) rfl rfl rfl hTX7 tyX7_ok nmX7 (by decide) fl_X7_73 rfl rfl rfl rfl dX7_set_2 ?_
  refine am_iload_n rfl dX7_set_5 ?_
  refine am_iconst (v := 0) (by decide) dX7_set_6 ?_
  refine am_aload_n rfl dX7_set_7 ?_
  refine am_geti (j := 34) (by decide) rfl rfl rfl hTX7 (by decide) fl_X7_174 dX7_set_8 ?_
  refine am_callSi (c_X7_isIn ad _ _ _ _) okX7_isIn ml_X7_80 rfl ⟨by decide, by decide⟩ (Nat.le_of_ble_eq_true rfl) rfl dX7_set_11 ?_
  refine am_ifb_eq (tgt := 29) (by decide) dX7_set_14 (fun h14 => ?_) (fun h14 => ?_)
  · refine am_iconst (v := 0) (by decide) dX7_set_29 ?_
    refine am_zret rfl (by first | exact am_nb _ | decide) dX7_set_30 ?_
    refine am_isFc ?_ rfl
    simp_all [mo_okSet]
  · refine am_iload_n rfl dX7_set_17 ?_
    refine am_iconst (v := 0) (by decide) dX7_set_18 ?_
    refine am_aload_n rfl dX7_set_19 ?_
    refine am_geti (j := 35) (by decide) rfl rfl rfl hTX7 (by decide) fl_X7_177 dX7_set_20 ?_
    refine am_callSi (c_X7_isIn ad _ _ _ _) okX7_isIn ml_X7_80 rfl ⟨by decide, by decide⟩ (Nat.le_of_ble_eq_true rfl) rfl dX7_set_23 ?_
    refine am_ifb_ne (tgt := 31) (by decide) dX7_set_26 (fun h26 => ?_) (fun h26 => ?_)
    · have hk2 : (md M 21 34).toInt ≤ 8 := by rw [md_f M (by decide)]; exact hk
      refine am_aload_n rfl dX7_set_31 ?_
      refine am_getr (j := 33) (by decide) rfl rfl rfl hTX7 (by decide) fl_X7_66 dX7_set_32 ?_
      refine am_iload_n rfl dX7_set_35 ?_
      refine am_iload_n rfl dX7_set_36 ?_
      refine am_iast (by decide) rfl ((mo_vp hk2 h14).1) dX7_set_37 ?_
      refine am_iconst (v := 1) (by decide) dX7_set_38 ?_
      refine am_zret rfl (by first | exact am_nb _ | decide) dX7_set_39 ?_
      refine am_isTc ?_ rfl
      simp_all [mo_okSet]
    · refine am_iconst (v := 0) (by decide) dX7_set_29 ?_
      refine am_zret rfl (by first | exact am_nb _ | decide) dX7_set_30 ?_
      refine am_isFc ?_ rfl
      simp_all [mo_okSet]
def mo_even (K : am_M) : Int32 := sp_gm (fun p => mo_miss K (nI p)) ((K 21 34).toInt + 1).toNat
set_option maxRecDepth 100000 in
set_option maxHeartbeats 400000 in
theorem lp_X7_evenness (ad : Nat → Nat) (M : am_M) (hp : 0 ≤ (M 21 34).toInt ∧ (M 21 34).toInt ≤ 8) : ∀ (n j : Nat), (j : Int) ≤ (M 21 34).toInt + 1 → (M 21 34).toInt + 1 - j < n → am_W ydX7_evenness ad am_II (am_is (mo_even M) M) 9 [some (.ref (ad 21)), some (.int (sp_gm (fun p => mo_miss M (nI p)) j)), some (.int (nI j))] [] M := by
  intro n
  induction n with
  | zero => intro j _ h; omega
  | succ n ih =>
    intro j hj hn
    refine am_iload_n rfl dX7_evenness_9 ?_
    refine am_aload_n rfl dX7_evenness_10 ?_
    refine am_geti (j := 34) (by decide) rfl rfl rfl hTX7 (by decide) fl_X7_174 dX7_evenness_11 ?_
    refine am_icmp_gt (tgt := 33) (by decide) dX7_evenness_14 (fun h14 => ?_) (fun h14 => ?_)
    · refine am_iload_n rfl dX7_evenness_33 ?_
      refine am_iret rfl dX7_evenness_34 ?_
      have e9 : ((M 21 34).toInt + 1).toNat = j := by (simp only [nI_e, Int32.lt_iff_toInt_lt] at *; omega)
      refine am_isE ?_
      unfold mo_even
      rw [e9]
    · have hin : sp_in (nI j) 0 (M 21 34) = true := by (simp only [sp_in, decide_eq_true_eq, Int32.le_iff_toInt_le, Int32.lt_iff_toInt_lt, Int32.toInt_zero, nI_e] at *; omega)
      refine am_iload_n rfl dX7_evenness_17 ?_
      refine am_aload_n rfl dX7_evenness_18 ?_
      refine am_iload_n rfl dX7_evenness_19 ?_
      refine am_callVi (c_X7_missOf ad M (nI j) (mo_vp hp.2 hin).1 (mo_vp hp.2 hin).2) okX7_missOf ml_X7_180 (by decide) rfl rfl rfl ⟨by decide, by decide⟩ (Nat.le_of_ble_eq_true rfl) rfl dX7_evenness_20 ?_
      refine am_mmaxI ml_X7_138 (by decide) (Nat.le_of_ble_eq_true rfl) dX7_evenness_23 ?_
      refine am_istore_n (by decide) dX7_evenness_26 ?_
      refine am_iinc (v := nI (j + 1)) rfl (nI_inc j) (by decide) dX7_evenness_27 ?_
      refine am_goto (tgt := 9) (by decide) dX7_evenness_30 ?_
      exact ih (j + 1) (by simp only [nI_e, Int32.lt_iff_toInt_lt] at *; omega) (by simp only [nI_e, Int32.lt_iff_toInt_lt] at *; omega)
set_option maxRecDepth 100000 in
set_option maxHeartbeats 400000 in
theorem c_X7_evenness (ad : Nat → Nat) (M : am_M)  (hp : 0 ≤ (M 21 34).toInt ∧ (M 21 34).toInt ≤ 8) : am_C ydX7_evenness ad am_II [.ref (ad 21)] M (am_is (mo_even (md M)) (md M)) := by
  refine am_ofW (by decide +kernel) (by simp [Value.category]) (Nat.le_of_ble_eq_true rfl) rfl ?_
  refine am_aload_n rfl dX7_evenness_0 ?_
  refine am_iconst (v := 0) (by decide) dX7_evenness_1 ?_
  refine am_puti (j := 0) (by decide) rfl rfl rfl hTX7 tyX7_ok nmX7 (by decide) fl_X7_73 rfl rfl rfl rfl dX7_evenness_2 ?_
  refine am_iconst (v := 0) (by decide) dX7_evenness_5 ?_
  refine am_istore_n (by decide) dX7_evenness_6 ?_
  refine am_iconst (v := 0) (by decide) dX7_evenness_7 ?_
  refine am_istore_n (by decide) dX7_evenness_8 ?_
  have hp2 : 0 ≤ (md M 21 34).toInt ∧ (md M 21 34).toInt ≤ 8 := by rw [md_f M (by decide)]; exact hp
  exact lp_X7_evenness ad (md M) hp2 10 0 (by omega) (by omega)
def mo_layJ (M : am_M) (k : Nat) (l : Int32) (j : Nat) : am_M := am_row (am_put (am_put M 21 34 (nI k)) 21 35 l) 36 (fun q => if q < j then sp_lv k l q else M 36 q)
theorem mo_layJ_0 (M : am_M) (k : Nat) (l : Int32) : am_put (am_put M 21 34 (nI k)) 21 35 l = mo_layJ M k l 0 := by
  funext a
  unfold mo_layJ am_row
  by_cases h : a = 36
  · subst h
    simp [am_put]
  · simp [h]
theorem mo_layJ_s (M : am_M) (k : Nat) (l : Int32) (j : Nat) (hj : j < 2147483648) : am_put (mo_layJ M k l j) 36 (nI j).toNatClampNeg (sp_lv k l j) = mo_layJ M k l (j + 1) := by
  unfold mo_layJ
  rw [am_put_row, nI_clamp hj]
  congr 1
  funext q
  unfold upd
  by_cases h : q = j
  · subst h
    simp
  · rw [if_neg h]
    dsimp only
    by_cases h2 : q < j
    · rw [if_pos h2, if_pos (by omega)]
    · rw [if_neg h2, if_neg (by omega)]
theorem mo_layJ_f (M : am_M) (k : Nat) (l : Int32) (j : Nat) : mo_layJ M k l j 21 34 = nI k ∧ mo_layJ M k l j 21 35 = l := by
  unfold mo_layJ
  rw [am_row_ne _ _ _ (by decide)]
  exact ⟨by simp [am_rd], by simp [am_rd]⟩
def mo_lay (M : am_M) (n l : Int32) : am_M := mo_layJ M n.toInt.toNat l (n.toInt.toNat + 1)
set_option maxRecDepth 100000 in
set_option maxHeartbeats 400000 in
theorem lp_X7_table (ad : Nat → Nat) (M : am_M) (n32 : Int32) (k : Nat) (hk : 1 ≤ k ∧ k ≤ 8) (l : Int32) (b : Int32) (hb : b = 1) (P0 : am_M) (hP : mo_layJ M k l (k + 1) = P0) : ∀ (n j : Nat), j ≤ k + 1 → k + 1 - j < n → am_W ydX7_table ad am_II (am_is b P0) 50 [some (.ref (ad 21)), some (.int n32), some (.int l), some (.int (nI j))] [] (mo_layJ M k l j) := by
  intro n
  induction n with
  | zero => intro j _ h; omega
  | succ n ih =>
    intro j hj hn
    have hf := mo_layJ_f M k l j
    refine am_iload_n rfl dX7_table_50 ?_
    refine am_aload_n rfl dX7_table_51 ?_
    refine am_geti (j := 34) (by decide) rfl rfl rfl hTX7 (by decide) fl_X7_174 dX7_table_52 ?_
    rw [hf.1]
    refine am_icmp_gt (tgt := 86) (by decide) dX7_table_55 (fun h55 => ?_) (fun h55 => ?_)
    · refine am_iconst (v := 1) (by decide) dX7_table_86 ?_
      refine am_zret rfl (by first | exact am_nb _ | decide) dX7_table_87 ?_
      obtain rfl : j = k + 1 := (by simp only [nI_e, Int32.lt_iff_toInt_lt] at h55; omega)
      exact ⟨by rw [hb], hP⟩
    · refine am_aload_n rfl dX7_table_58 ?_
      refine am_getr (j := 33) (by decide) rfl rfl rfl hTX7 (by decide) fl_X7_66 dX7_table_59 ?_
      refine am_iload_n rfl dX7_table_62 ?_
      refine am_aload_n rfl dX7_table_63 ?_
      refine am_geti (j := 35) (by decide) rfl rfl rfl hTX7 (by decide) fl_X7_177 dX7_table_64 ?_
      refine am_aload_n rfl dX7_table_67 ?_
      refine am_geti (j := 34) (by decide) rfl rfl rfl hTX7 (by decide) fl_X7_174 dX7_table_68 ?_
      refine am_iload_n rfl dX7_table_71 ?_
      refine am_isub dX7_table_72 ?_
      refine am_imul dX7_table_73 ?_
      refine am_aload_n rfl dX7_table_74 ?_
      refine am_geti (j := 34) (by decide) rfl rfl rfl hTX7 (by decide) fl_X7_174 dX7_table_75 ?_
      rw [hf.1, hf.2]
      refine am_idiv (nI_nz hk.1 hk.2) dX7_table_78 ?_
      refine am_iast (by decide) rfl (am_vpI (by simp only [nI_e, Int32.lt_iff_toInt_lt] at *; omega) (by simp only [nI_e, Int32.lt_iff_toInt_lt] at *; omega)) dX7_table_79 ?_
      refine am_iinc (v := nI (j + 1)) rfl (nI_inc j) (by decide) dX7_table_80 ?_
      refine am_goto (tgt := 50) (by decide) dX7_table_83 ?_
      refine am_M_eq ?_ (ih (j + 1) (by simp only [nI_e, Int32.lt_iff_toInt_lt] at *; omega) (by simp only [nI_e, Int32.lt_iff_toInt_lt] at *; omega))
      exact mo_layJ_s M k l j (by omega)
set_option maxRecDepth 100000 in
set_option maxHeartbeats 400000 in
theorem c_X7_table (ad : Nat → Nat) (M : am_M) (n l : Int32) : am_C ydX7_table ad am_II [.ref (ad 21), .int n, .int l] M (am_is (bI (sp_okTab n l)) (if sp_okTab n l = true then mo_lay (md M) n l else md M)) := by
  refine am_ofW (L := [some (.ref (ad 21)), some (.int n), some (.int l), none]) (by decide +kernel) (by simp [Value.category]) (Nat.le_of_ble_eq_true rfl) rfl ?_
  refine am_aload_n rfl dX7_table_0 ?_
  refine am_iconst (v := 0) (by decide) dX7_table_1 ?_
  refine am_puti (j := 0) (by decide) rfl rfl rfl hTX7 tyX7_ok nmX7 (by decide) fl_X7_73 rfl rfl rfl rfl dX7_table_2 ?_
  refine am_iload_n rfl dX7_table_5 ?_
  refine am_iconst (v := 1) (by decide) dX7_table_6 ?_
  refine am_icmp_eq (tgt := 26) (by decide) dX7_table_7 (fun h7 => ?_) (fun h7 => ?_)
  · refine am_iload_n rfl dX7_table_26 ?_
    refine am_iconst (v := 1) (by decide) dX7_table_27 ?_
    refine am_bipush (v := 100) (by decide) dX7_table_28 ?_
    refine am_callSi (c_X7_isIn ad _ _ _ _) okX7_isIn ml_X7_80 rfl ⟨by decide, by decide⟩ (Nat.le_of_ble_eq_true rfl) rfl dX7_table_30 ?_
    refine am_ifb_ne (tgt := 38) (by decide) dX7_table_33 (fun h33 => ?_) (fun h33 => ?_)
    · refine am_aload_n rfl dX7_table_38 ?_
      refine am_iload_n rfl dX7_table_39 ?_
      refine am_puti (j := 34) (by decide) rfl rfl rfl hTX7 tyX7_ok nmX7 (by decide) fl_X7_174 rfl rfl rfl rfl dX7_table_40 ?_
      refine am_aload_n rfl dX7_table_43 ?_
      refine am_iload_n rfl dX7_table_44 ?_
      refine am_puti (j := 35) (by decide) rfl rfl rfl hTX7 tyX7_ok nmX7 (by decide) fl_X7_177 rfl rfl rfl rfl dX7_table_45 ?_
      refine am_iconst (v := 0) (by decide) dX7_table_48 ?_
      refine am_istore_n (by decide) dX7_table_49 ?_
      have hok : sp_okTab n l = true := (by simp_all [sp_okTab])
      rw [hok, if_pos rfl]
      have hk : 1 ≤ n.toInt.toNat ∧ n.toInt.toNat ≤ 8 ∧ n = nI n.toInt.toNat := by
        unfold sp_okTab at hok
        rw [Bool.and_eq_true, decide_eq_true_eq] at hok
        rcases hok.1 with e | e | e | e <;> rw [e] <;> decide
      refine am_eq rfl rfl (M' := mo_layJ (md M) n.toInt.toNat l 0) ?_ (lp_X7_table ad (md M) n n.toInt.toNat ⟨hk.1, hk.2.1⟩ l _ rfl _ rfl (n.toInt.toNat + 2) 0 (by omega) (by omega))
      rw [← mo_layJ_0, ← hk.2.2]
    · refine am_iconst (v := 0) (by decide) dX7_table_36 ?_
      refine am_zret rfl (by first | exact am_nb _ | decide) dX7_table_37 ?_
      refine am_isFc ?_ rfl
      simp_all [sp_okTab]
  · refine am_iload_n rfl dX7_table_10 ?_
    refine am_iconst (v := 2) (by decide) dX7_table_11 ?_
    refine am_icmp_eq (tgt := 26) (by decide) dX7_table_12 (fun h12 => ?_) (fun h12 => ?_)
    · refine am_iload_n rfl dX7_table_26 ?_
      refine am_iconst (v := 1) (by decide) dX7_table_27 ?_
      refine am_bipush (v := 100) (by decide) dX7_table_28 ?_
      refine am_callSi (c_X7_isIn ad _ _ _ _) okX7_isIn ml_X7_80 rfl ⟨by decide, by decide⟩ (Nat.le_of_ble_eq_true rfl) rfl dX7_table_30 ?_
      refine am_ifb_ne (tgt := 38) (by decide) dX7_table_33 (fun h33 => ?_) (fun h33 => ?_)
      · refine am_aload_n rfl dX7_table_38 ?_
        refine am_iload_n rfl dX7_table_39 ?_
        refine am_puti (j := 34) (by decide) rfl rfl rfl hTX7 tyX7_ok nmX7 (by decide) fl_X7_174 rfl rfl rfl rfl dX7_table_40 ?_
        refine am_aload_n rfl dX7_table_43 ?_
        refine am_iload_n rfl dX7_table_44 ?_
        refine am_puti (j := 35) (by decide) rfl rfl rfl hTX7 tyX7_ok nmX7 (by decide) fl_X7_177 rfl rfl rfl rfl dX7_table_45 ?_
        refine am_iconst (v := 0) (by decide) dX7_table_48 ?_
        refine am_istore_n (by decide) dX7_table_49 ?_
        have hok : sp_okTab n l = true := (by simp_all [sp_okTab])
        rw [hok, if_pos rfl]
        have hk : 1 ≤ n.toInt.toNat ∧ n.toInt.toNat ≤ 8 ∧ n = nI n.toInt.toNat := by
          unfold sp_okTab at hok
          rw [Bool.and_eq_true, decide_eq_true_eq] at hok
          rcases hok.1 with e | e | e | e <;> rw [e] <;> decide
        refine am_eq rfl rfl (M' := mo_layJ (md M) n.toInt.toNat l 0) ?_ (lp_X7_table ad (md M) n n.toInt.toNat ⟨hk.1, hk.2.1⟩ l _ rfl _ rfl (n.toInt.toNat + 2) 0 (by omega) (by omega))
        rw [← mo_layJ_0, ← hk.2.2]
      · refine am_iconst (v := 0) (by decide) dX7_table_36 ?_
        refine am_zret rfl (by first | exact am_nb _ | decide) dX7_table_37 ?_
        refine am_isFc ?_ rfl
        simp_all [sp_okTab]
    · refine am_iload_n rfl dX7_table_15 ?_
      refine am_iconst (v := 4) (by decide) dX7_table_16 ?_
      refine am_icmp_eq (tgt := 26) (by decide) dX7_table_17 (fun h17 => ?_) (fun h17 => ?_)
      · refine am_iload_n rfl dX7_table_26 ?_
        refine am_iconst (v := 1) (by decide) dX7_table_27 ?_
        refine am_bipush (v := 100) (by decide) dX7_table_28 ?_
        refine am_callSi (c_X7_isIn ad _ _ _ _) okX7_isIn ml_X7_80 rfl ⟨by decide, by decide⟩ (Nat.le_of_ble_eq_true rfl) rfl dX7_table_30 ?_
        refine am_ifb_ne (tgt := 38) (by decide) dX7_table_33 (fun h33 => ?_) (fun h33 => ?_)
        · refine am_aload_n rfl dX7_table_38 ?_
          refine am_iload_n rfl dX7_table_39 ?_
          refine am_puti (j := 34) (by decide) rfl rfl rfl hTX7 tyX7_ok nmX7 (by decide) fl_X7_174 rfl rfl rfl rfl dX7_table_40 ?_
          refine am_aload_n rfl dX7_table_43 ?_
          refine am_iload_n rfl dX7_table_44 ?_
          refine am_puti (j := 35) (by decide) rfl rfl rfl hTX7 tyX7_ok nmX7 (by decide) fl_X7_177 rfl rfl rfl rfl dX7_table_45 ?_
          refine am_iconst (v := 0) (by decide) dX7_table_48 ?_
          refine am_istore_n (by decide) dX7_table_49 ?_
          have hok : sp_okTab n l = true := (by simp_all [sp_okTab])
          rw [hok, if_pos rfl]
          have hk : 1 ≤ n.toInt.toNat ∧ n.toInt.toNat ≤ 8 ∧ n = nI n.toInt.toNat := by
            unfold sp_okTab at hok
            rw [Bool.and_eq_true, decide_eq_true_eq] at hok
            rcases hok.1 with e | e | e | e <;> rw [e] <;> decide
          refine am_eq rfl rfl (M' := mo_layJ (md M) n.toInt.toNat l 0) ?_ (lp_X7_table ad (md M) n n.toInt.toNat ⟨hk.1, hk.2.1⟩ l _ rfl _ rfl (n.toInt.toNat + 2) 0 (by omega) (by omega))
          rw [← mo_layJ_0, ← hk.2.2]
        · refine am_iconst (v := 0) (by decide) dX7_table_36 ?_
          refine am_zret rfl (by first | exact am_nb _ | decide) dX7_table_37 ?_
          refine am_isFc ?_ rfl
          simp_all [sp_okTab]
      · refine am_iload_n rfl dX7_table_20 ?_
        refine am_bipush (v := 8) (by decide) dX7_table_21 ?_
        refine am_icmp_ne (tgt := 36) (by decide) dX7_table_23 (fun h23 => ?_) (fun h23 => ?_)
        · refine am_iconst (v := 0) (by decide) dX7_table_36 ?_
          refine am_zret rfl (by first | exact am_nb _ | decide) dX7_table_37 ?_
          refine am_isFc ?_ rfl
          simp_all [sp_okTab]
        · refine am_iload_n rfl dX7_table_26 ?_
          refine am_iconst (v := 1) (by decide) dX7_table_27 ?_
          refine am_bipush (v := 100) (by decide) dX7_table_28 ?_
          refine am_callSi (c_X7_isIn ad _ _ _ _) okX7_isIn ml_X7_80 rfl ⟨by decide, by decide⟩ (Nat.le_of_ble_eq_true rfl) rfl dX7_table_30 ?_
          refine am_ifb_ne (tgt := 38) (by decide) dX7_table_33 (fun h33 => ?_) (fun h33 => ?_)
          · refine am_aload_n rfl dX7_table_38 ?_
            refine am_iload_n rfl dX7_table_39 ?_
            refine am_puti (j := 34) (by decide) rfl rfl rfl hTX7 tyX7_ok nmX7 (by decide) fl_X7_174 rfl rfl rfl rfl dX7_table_40 ?_
            refine am_aload_n rfl dX7_table_43 ?_
            refine am_iload_n rfl dX7_table_44 ?_
            refine am_puti (j := 35) (by decide) rfl rfl rfl hTX7 tyX7_ok nmX7 (by decide) fl_X7_177 rfl rfl rfl rfl dX7_table_45 ?_
            refine am_iconst (v := 0) (by decide) dX7_table_48 ?_
            refine am_istore_n (by decide) dX7_table_49 ?_
            have hok : sp_okTab n l = true := (by simp_all [sp_okTab])
            rw [hok, if_pos rfl]
            have hk : 1 ≤ n.toInt.toNat ∧ n.toInt.toNat ≤ 8 ∧ n = nI n.toInt.toNat := by
              unfold sp_okTab at hok
              rw [Bool.and_eq_true, decide_eq_true_eq] at hok
              rcases hok.1 with e | e | e | e <;> rw [e] <;> decide
            refine am_eq rfl rfl (M' := mo_layJ (md M) n.toInt.toNat l 0) ?_ (lp_X7_table ad (md M) n n.toInt.toNat ⟨hk.1, hk.2.1⟩ l _ rfl _ rfl (n.toInt.toNat + 2) 0 (by omega) (by omega))
            rw [← mo_layJ_0, ← hk.2.2]
          · refine am_iconst (v := 0) (by decide) dX7_table_36 ?_
            refine am_zret rfl (by first | exact am_nb _ | decide) dX7_table_37 ?_
            refine am_isFc ?_ rfl
            simp_all [sp_okTab]
set_option maxRecDepth 100000 in
set_option maxHeartbeats 400000 in
theorem c_X7_gone (ad : Nat → Nat) (M : am_M) (x m : Int32) (hx : vp_in x 3) (hn : 0 ≤ (M 21 26).toInt) (hn2 : (M 21 26).toInt ≤ 1000000000) : am_C ydX7_gone ad am_II [.ref (ad 21), .int x, .int m] M (am_is (sp_gone (M 21 26) m (M 30 x.toNatClampNeg)) M) := by
  refine am_ofW (by decide +kernel) (by simp [Value.category]) (Nat.le_of_ble_eq_true rfl) rfl ?_
  refine am_aload_n rfl dX7_gone_0 ?_
  refine am_geti (j := 26) (by decide) rfl rfl rfl hTX7 (by decide) fl_X7_144 dX7_gone_1 ?_
  refine am_if_ne (tgt := 9) (by decide) dX7_gone_4 (fun h4 => ?_) (fun h4 => ?_)
  · have h1n : 1 ≤ M 21 26 := by (rw [Int32.le_iff_toInt_le, kI_1]; have e9 : ¬ (M 21 26).toInt = 0 := fun e => h4 (i_inj (by rw [e]; rfl)); omega)
    refine am_iconst (v := 2) (by decide) dX7_gone_9 ?_
    refine am_iload_n rfl dX7_gone_10 ?_
    refine am_imul dX7_gone_11 ?_
    refine am_aload_n rfl dX7_gone_12 ?_
    refine am_getr (j := 18) (by decide) rfl rfl rfl hTX7 (by decide) fl_X7_45 dX7_gone_13 ?_
    refine am_iload_n rfl dX7_gone_16 ?_
    refine am_iald (by decide) rfl (hx) dX7_gone_17 ?_
    refine am_mabsI ml_X7_93 (by decide) (Nat.le_of_ble_eq_true rfl) dX7_gone_18 ?_
    refine am_imul dX7_gone_21 ?_
    refine am_aload_n rfl dX7_gone_22 ?_
    refine am_geti (j := 26) (by decide) rfl rfl rfl hTX7 (by decide) fl_X7_144 dX7_gone_23 ?_
    refine am_iadd dX7_gone_26 ?_
    refine am_iconst (v := 2) (by decide) dX7_gone_27 ?_
    refine am_aload_n rfl dX7_gone_28 ?_
    refine am_geti (j := 26) (by decide) rfl rfl rfl hTX7 (by decide) fl_X7_144 dX7_gone_29 ?_
    refine am_imul dX7_gone_32 ?_
    refine am_idiv (am_2n h1n hn2) dX7_gone_33 ?_
    refine am_istore_n (by decide) dX7_gone_34 ?_
    refine am_aload_n rfl dX7_gone_35 ?_
    refine am_getr (j := 18) (by decide) rfl rfl rfl hTX7 (by decide) fl_X7_45 dX7_gone_36 ?_
    refine am_iload_n rfl dX7_gone_39 ?_
    refine am_iald (by decide) rfl (hx) dX7_gone_40 ?_
    refine am_if_ge (tgt := 49) (by decide) dX7_gone_41 (fun h41 => ?_) (fun h41 => ?_)
    · refine am_iload_n rfl dX7_gone_49 ?_
      refine am_iret rfl dX7_gone_50 ?_
      refine am_isE ?_
      unfold sp_gone
      first | rw [if_neg h1n] | rw [if_pos h1n, if_pos h41] | rw [if_pos h1n, if_neg h41]
    · refine am_iload_n rfl dX7_gone_44 ?_
      refine am_ineg dX7_gone_45 ?_
      refine am_goto (tgt := 50) (by decide) dX7_gone_46 ?_
      refine am_iret rfl dX7_gone_50 ?_
      refine am_isE ?_
      unfold sp_gone
      first | rw [if_neg h1n] | rw [if_pos h1n, if_pos h41] | rw [if_pos h1n, if_neg h41]
  · have h1n : ¬ 1 ≤ M 21 26 := by (rw [h4]; decide)
    refine am_iconst (v := 0) (by decide) dX7_gone_7 ?_
    refine am_iret rfl dX7_gone_8 ?_
    refine am_isE ?_
    unfold sp_gone
    first | rw [if_neg h1n] | rw [if_pos h1n, if_pos h41] | rw [if_pos h1n, if_neg h41]

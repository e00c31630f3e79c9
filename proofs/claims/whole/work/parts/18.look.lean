def tA (M : am_M) (v a l : Int) : Int32 := if 0 ≤ l ∧ l ≤ 200 then M 5 (bf_idx v a l) else -1
theorem am_in_iff {l : Int} (h1 : -100000 ≤ l) (h2 : l ≤ 100000) : sp_in (iN l) 0 200 = true ↔ 0 ≤ l ∧ l ≤ 200 := by
  simp only [sp_in, decide_eq_true_eq, Int32.le_iff_toInt_le, Int32.toInt_zero, iN_e, kI_200]
  omega
set_option maxRecDepth 100000 in
set_option maxHeartbeats 400000 in
theorem c_X3_ticksAt (ad : Nat → Nat) (M : am_M) (v a l : Int) (h1 : 0 ≤ v) (h2 : v ≤ 12) (h3 : -4 ≤ a) (h4 : a ≤ 4) (h5 : -100000 ≤ l) (h6 : l ≤ 100000) : am_C ydX3_ticksAt ad am_II [.ref (ad 4), .int (iN v), .int (iN a), .int (iN l)] M (am_is (tA M v a l) M) := by
  refine am_ofW (L := [some (.ref (ad 4)), some (.int (iN v)), some (.int (iN a)), some (.int (iN l)), none]) (by decide +kernel) (by simp [Value.category]) (Nat.le_of_ble_eq_true rfl) rfl ?_
  refine am_iload_n rfl dX3_ticksAt_0 ?_
  refine am_iload_n rfl dX3_ticksAt_1 ?_
  refine am_iload_n rfl dX3_ticksAt_2 ?_
  refine am_callSi (c_X3_nodeOf ad _ _ _ _) okX3_nodeOf ml_X3_80 rfl ⟨by decide, by decide⟩ (Nat.le_of_ble_eq_true rfl) rfl dX3_ticksAt_3 ?_
  refine am_istore (by decide) dX3_ticksAt_6 ?_
  refine am_iload_n rfl dX3_ticksAt_8 ?_
  refine am_iconst (v := 0) (by decide) dX3_ticksAt_9 ?_
  refine am_sipush (v := 200) (by decide) dX3_ticksAt_10 ?_
  refine am_callNi (c_X6_isWithin ad _ _ _ _) okX6_isWithin ml_X3_28 rfl ⟨by decide, by decide⟩ (Nat.le_of_ble_eq_true rfl) rfl dX3_ticksAt_13 ?_
  refine am_ifb_eq (tgt := 41) (by decide) dX3_ticksAt_16 (fun h16 => ?_) (fun h16 => ?_)
  · refine am_iconst (v := (-1)) (by decide) dX3_ticksAt_41 ?_
    refine am_iret rfl dX3_ticksAt_42 ?_
    refine am_isE ?_
    unfold tA
    first | rw [if_pos h9] | rw [if_neg (fun q => by rw [(am_in_iff h5 h6).mpr q] at h16; cases h16)]
  · have h9 := (am_in_iff h5 h6).mp h16
    rw [sp_node_e h1 h2 h3 h4 h9.1 h9.2]
    have hvp : vp_in (nI (bf_idx v a l)) 23517 := vp_in_nI (bf_idx_lt h1 h2 h3 h4 h9.1 h9.2).1 (by omega)
    refine am_aload_n rfl dX3_ticksAt_19 ?_
    refine am_getr (j := 0) (by decide) rfl rfl rfl hTX3 (by decide) fl_X3_9 dX3_ticksAt_20 ?_
    refine am_iload rfl dX3_ticksAt_23 ?_
    refine am_callNi (c_X6_isIndexOf ad M 5 23517 (nI (bf_idx v a l)) (by decide) rfl (by decide) hvp) okX6_isIndexOf ml_X3_39 rfl ⟨by decide, by decide⟩ (Nat.le_of_ble_eq_true rfl) rfl dX3_ticksAt_25 ?_
    refine am_ifb_eq (tgt := 41) (by decide) dX3_ticksAt_28 (fun h28 => ?_) (fun h28 => ?_)
    · cases h28
    · refine am_aload_n rfl dX3_ticksAt_31 ?_
      refine am_getr (j := 0) (by decide) rfl rfl rfl hTX3 (by decide) fl_X3_9 dX3_ticksAt_32 ?_
      refine am_iload rfl dX3_ticksAt_35 ?_
      refine am_iald (by decide) rfl (hvp) dX3_ticksAt_37 ?_
      rw [nI_clamp (by have := (bf_idx_lt h1 h2 h3 h4 h9.1 h9.2).1; omega)]
      refine am_goto (tgt := 42) (by decide) dX3_ticksAt_38 ?_
      refine am_iret rfl dX3_ticksAt_42 ?_
      refine am_isE ?_
      unfold tA
      first | rw [if_pos h9] | rw [if_neg (fun q => by rw [(am_in_iff h5 h6).mpr q] at h16; cases h16)]
def rp_st (n : Int) : Nat := bf_idx 0 0 n
theorem c_X3_ticksAtn (ad : Nat → Nat) (M : am_M) (n : Int32) (hn : 0 ≤ n.toInt) (hn2 : n.toInt ≤ 200) : am_C ydX3_ticksAt ad am_II [.ref (ad 4), .int 0, .int 0, .int n] M (am_is (M 5 (rp_st n.toInt)) M) := by
  have h := c_X3_ticksAt ad M 0 0 n.toInt (by omega) (by omega) (by omega) (by omega) (by omega) (by omega)
  rw [iN_self, show tA M 0 0 n.toInt = M 5 (rp_st n.toInt) from if_pos ⟨hn, hn2⟩] at h
  exact h
set_option maxRecDepth 100000 in
set_option maxHeartbeats 400000 in
theorem lp_X3_look (ad : Nat → Nat) (M : am_M) (x d : Nat) (hx : x < 23517) (v l hi : Int) (BF : bf_B) (h1 : 0 ≤ v) (h2 : v ≤ 12) (h3 : 0 ≤ l) (h4 : l ≤ 200) (h5 : hi ≤ 4) : ∀ (n : Nat) (a : Int) (N : am_M) (B : bf_B), a + n = hi + 1 → -4 ≤ a → rp_RC N B → bf_ok B → B.1 x = some d → rp_fr M N → bf_fold bf_yes (fun a => bf_idx v a l) (d + 1) n a B = BF → am_W ydX3_lookBehind ad am_II (fun r N => r = none ∧ rp_RC N BF ∧ rp_fr M N) 104 [some (.ref (ad 4)), some (.ref (ad 1)), some (.int (nI x)), some (.int (nI x / 201)), some (.int (iN (bf_w x))), some (.int (iN (bf_b x))), some (.int (iN v)), some (.int (iN (bf_l x))), some (.int (iN l)), some (.int (nI (d + 1))), some (.int (iN hi)), some (.int (iN a))] [] N := by
  intro n
  induction n with
  | zero =>
    intro a N B ha h6 hRC hok hd hf he
    refine am_iload rfl dX3_lookBehind_104 ?_
    refine am_iload rfl dX3_lookBehind_106 ?_
    refine am_icmp_gt (tgt := 132) (by decide) dX3_lookBehind_108 (fun h => ?_) (fun h => (by exfalso; simp only [Int32.lt_iff_toInt_lt, iN_e] at h; omega))
    refine am_vret rfl dX3_lookBehind_132 ?_
    rw [bf_fold] at he
    subst he
    exact ⟨rfl, hRC, hf⟩
  | succ n ih =>
    intro a N B ha h6 hRC hok hd hf he
    have hix := bf_idx_lt h1 h2 h6 (show a ≤ 4 by omega) h3 h4
    have hd1 := hok.small hd
    rw [bf_fold, show bf_yes a = true from rfl, if_pos rfl] at he
    refine am_iload rfl dX3_lookBehind_104 ?_
    refine am_iload rfl dX3_lookBehind_106 ?_
    refine am_icmp_gt (tgt := 132) (by decide) dX3_lookBehind_108 (fun h => (by exfalso; simp only [Int32.lt_iff_toInt_lt, iN_e] at h; omega)) (fun h => ?_)
    refine am_aload_n rfl dX3_lookBehind_111 ?_
    refine am_iload rfl dX3_lookBehind_112 ?_
    refine am_iload rfl dX3_lookBehind_114 ?_
    refine am_iload rfl dX3_lookBehind_116 ?_
    refine am_callSi (c_X3_nodeOf ad _ _ _ _) okX3_nodeOf ml_X3_80 rfl ⟨by decide, by decide⟩ (Nat.le_of_ble_eq_true rfl) rfl dX3_lookBehind_118 ?_
    rw [sp_node_e h1 h2 h6 (by omega) h3 h4]
    refine am_iload rfl dX3_lookBehind_121 ?_
    refine am_callV (c_X3_find ad N B (bf_idx v a l) (d + 1) hRC hok hix.1) okX3_find ml_X3_83 (by decide) rfl rfl rfl ⟨by decide, by decide⟩ (Nat.le_of_ble_eq_true rfl) rfl dX3_lookBehind_123 (fun r123 N123 p123 => ?_)
    obtain ⟨rfl, hRC1, hfr1⟩ := p123
    refine am_iinc rfl rfl (by decide) dX3_lookBehind_126 ?_
    refine am_goto (tgt := 104) (by decide) dX3_lookBehind_129 ?_
    exact am_eq (by rw [iN_inc]; rfl) rfl rfl (ih (a + 1) _ _ (by omega) (by omega) hRC1 (bf_push_ok hok hix.1 hd1.2) ((bf_push_c B _ _).2.2 x d hd) (hf.tr hfr1) he)
set_option maxRecDepth 100000 in
set_option maxHeartbeats 400000 in
theorem c_X3_lookBehind (ad : Nat → Nat) (M : am_M) (B : bf_B) (x d : Nat) (hR : am_RI M) (hRC : rp_RC M B) (hok : bf_ok B) (hx : x < 23517) (hd : B.1 x = some d) : am_C ydX3_lookBehind ad am_II [.ref (ad 4), .ref (ad 1), .int (nI x)] M (fun r N => r = none ∧ rp_RC N (bf_proc (am_V M) (am_Ac M) (am_J M) (am_E M (am_s M)) B x) ∧ rp_fr M N) := by
  have hw := bf_wbl hx
  have htA : tA M (bf_w x) (bf_b x) (bf_l x) = nI d := by
    unfold tA
    rw [if_pos hw.2.2.2.2, bf_wbl_x hx, hRC.1 x hx, hd]
    rfl
  have hsp := am_speed_iff (M := M) (v := bf_w x - bf_b x) (by omega) (by omega)
  refine am_ofW (L := [some (.ref (ad 4)), some (.ref (ad 1)), some (.int (nI x)), none, none, none, none, none, none, none, none, none]) (by decide +kernel) (by simp [Value.category]) (Nat.le_of_ble_eq_true rfl) rfl ?_
  refine am_iload_n rfl dX3_lookBehind_0 ?_
  refine am_sipush (v := 201) (by decide) dX3_lookBehind_1 ?_
  refine am_idiv (by decide) dX3_lookBehind_4 ?_
  refine am_istore_n (by decide) dX3_lookBehind_5 ?_
  refine am_iload_n rfl dX3_lookBehind_6 ?_
  refine am_bipush (v := 9) (by decide) dX3_lookBehind_7 ?_
  refine am_idiv (by decide) dX3_lookBehind_9 ?_
  rw [rp_w hx]
  refine am_istore (by decide) dX3_lookBehind_10 ?_
  refine am_iload_n rfl dX3_lookBehind_12 ?_
  refine am_bipush (v := 9) (by decide) dX3_lookBehind_13 ?_
  refine am_irem (by decide) dX3_lookBehind_15 ?_
  refine am_iconst (v := 4) (by decide) dX3_lookBehind_16 ?_
  refine am_isub dX3_lookBehind_17 ?_
  rw [← rp_w hx, rp_b hx, rp_w hx]
  refine am_istore (by decide) dX3_lookBehind_18 ?_
  refine am_iload rfl dX3_lookBehind_20 ?_
  refine am_iload rfl dX3_lookBehind_22 ?_
  refine am_isub dX3_lookBehind_24 ?_
  rw [iN_sub]
  refine am_istore (by decide) dX3_lookBehind_25 ?_
  refine am_iload_n rfl dX3_lookBehind_27 ?_
  refine am_sipush (v := 201) (by decide) dX3_lookBehind_28 ?_
  refine am_irem (by decide) dX3_lookBehind_31 ?_
  rw [rp_lb hx]
  refine am_istore (by decide) dX3_lookBehind_32 ?_
  refine am_iload rfl dX3_lookBehind_34 ?_
  refine am_iload rfl dX3_lookBehind_36 ?_
  refine am_iadd dX3_lookBehind_38 ?_
  rw [iN_add]
  refine am_istore (by decide) dX3_lookBehind_39 ?_
  refine am_iload rfl dX3_lookBehind_41 ?_
  refine am_sipush (v := 200) (by decide) dX3_lookBehind_43 ?_
  refine am_icmp_gt (tgt := 73) (by decide) dX3_lookBehind_46 (fun h46 => ?_) (fun h46 => ?_)
  · refine am_vret rfl dX3_lookBehind_73 ?_
    have hs9 : bf_stop (am_V M) (am_E M (am_s M)) x := by
      first
      | (exact Or.inl (by simp only [Int32.lt_iff_toInt_lt, iN_e, kI_200] at h46; omega))
      | (exact Or.inr (Or.inr (Or.inr h70)))
      | (refine Classical.byContradiction fun q => ?_
         have q2 : ¬ (bf_w x - bf_b x < 0) ∧ ¬ (am_V M < bf_w x - bf_b x) := ⟨fun z => q (Or.inr (Or.inl z)), fun z => q (Or.inr (Or.inr (Or.inl z)))⟩
         have q3 := hsp.mpr (by omega)
         rw [q3] at h55
         cases h55)
    unfold bf_proc
    rw [if_pos hs9]
    exact ⟨rfl, hRC, rp_fr.rf M⟩
  · refine am_aload_n rfl dX3_lookBehind_49 ?_
    refine am_iload rfl dX3_lookBehind_50 ?_
    refine am_callVi (c_X4_isSpeed ad M (iN (bf_w x - bf_b x))) okX4_isSpeed ml_X3_87 (by decide) rfl rfl rfl ⟨by decide, by decide⟩ (Nat.le_of_ble_eq_true rfl) rfl dX3_lookBehind_52 ?_
    refine am_ifb_eq (tgt := 73) (by decide) dX3_lookBehind_55 (fun h55 => ?_) (fun h55 => ?_)
    · refine am_vret rfl dX3_lookBehind_73 ?_
      have hs9 : bf_stop (am_V M) (am_E M (am_s M)) x := by
        first
        | (exact Or.inl (by simp only [Int32.lt_iff_toInt_lt, iN_e, kI_200] at h46; omega))
        | (exact Or.inr (Or.inr (Or.inr h70)))
        | (refine Classical.byContradiction fun q => ?_
           have q2 : ¬ (bf_w x - bf_b x < 0) ∧ ¬ (am_V M < bf_w x - bf_b x) := ⟨fun z => q (Or.inr (Or.inl z)), fun z => q (Or.inr (Or.inr (Or.inl z)))⟩
           have q3 := hsp.mpr (by omega)
           rw [q3] at h55
           cases h55)
      unfold bf_proc
      rw [if_pos hs9]
      exact ⟨rfl, hRC, rp_fr.rf M⟩
    · refine am_aload_n rfl dX3_lookBehind_58 ?_
      refine am_iload rfl dX3_lookBehind_59 ?_
      refine am_iload rfl dX3_lookBehind_61 ?_
      refine am_aload_n rfl dX3_lookBehind_63 ?_
      refine am_geti (j := 7) (by decide) rfl rfl rfl hTX4 (by decide) fl_X3_62 dX3_lookBehind_64 ?_
      rw [hR.s]
      refine am_callVi (c_X4_mayEnd ad M (iN (bf_w x)) (iN (bf_b x)) (am_s M)) okX4_mayEnd ml_X3_66 (by decide) rfl rfl rfl ⟨by decide, by decide⟩ (Nat.le_of_ble_eq_true rfl) rfl dX3_lookBehind_67 ?_
      refine am_ifb_ne (tgt := 74) (by decide) dX3_lookBehind_70 (fun h70 => ?_) (fun h70 => ?_)
      · refine am_aload_n rfl dX3_lookBehind_74 ?_
        refine am_iload rfl dX3_lookBehind_75 ?_
        refine am_iload rfl dX3_lookBehind_77 ?_
        refine am_iload rfl dX3_lookBehind_79 ?_
        refine am_callVi (c_X3_ticksAt ad M (bf_w x) (bf_b x) (bf_l x) hw.1 hw.2.1 hw.2.2.1 hw.2.2.2.1 (by omega) (by omega)) okX3_ticksAt ml_X3_43 (by decide) rfl rfl rfl ⟨by decide, by decide⟩ (Nat.le_of_ble_eq_true rfl) rfl dX3_lookBehind_81 ?_
        rw [htA]
        refine am_iconst (v := 1) (by decide) dX3_lookBehind_84 ?_
        refine am_iadd dX3_lookBehind_85 ?_
        rw [show nI d + 1 = nI (d + 1) from nI_1 d]
        refine am_istore (by decide) dX3_lookBehind_86 ?_
        refine am_aload_n rfl dX3_lookBehind_88 ?_
        refine am_iload rfl dX3_lookBehind_89 ?_
        refine am_callVi (c_X4_mostBeside ad _ _) okX4_mostBeside ml_X3_59 (by decide) rfl rfl rfl ⟨by decide, by decide⟩ (Nat.le_of_ble_eq_true rfl) rfl dX3_lookBehind_91 ?_
        rw [am_most_e hR hw.2.2.1 hw.2.2.2.1]
        refine am_istore (by decide) dX3_lookBehind_94 ?_
        refine am_aload_n rfl dX3_lookBehind_96 ?_
        refine am_iload rfl dX3_lookBehind_97 ?_
        refine am_callVi (c_X4_leastBeside ad _ _) okX4_leastBeside ml_X3_55 (by decide) rfl rfl rfl ⟨by decide, by decide⟩ (Nat.le_of_ble_eq_true rfl) rfl dX3_lookBehind_99 ?_
        rw [am_least_e hR hw.2.2.1 hw.2.2.2.1]
        refine am_istore (by decide) dX3_lookBehind_102 ?_
        have hsp2 := hsp.mp h55
        have hns : ¬ bf_stop (am_V M) (am_E M (am_s M)) x := by
          rintro (q | q | q | q)
          · simp only [Int32.lt_iff_toInt_lt, iN_e, kI_200] at h46; omega
          · omega
          · omega
          · exact absurd (q.symm.trans (show am_E M (am_s M) (bf_w x) (bf_b x) = true from h70)) (by decide)
        have hst := (am_state_iff hR (v := bf_w x) (a := bf_b x) (by omega) (by omega) (by omega) (by omega)).mp (by
          have h7 : sp_mayEnd M (iN (bf_w x)) (iN (bf_b x)) (am_s M) = true := h70
          simp only [sp_mayEnd, decide_eq_true_eq] at h7
          exact h7.1)
        have hq : am_V M = (M 1 0).toInt ∧ am_Ac M = (M 1 1).toInt ∧ am_J M = (M 1 2).toInt := ⟨rfl, rfl, rfl⟩
        have hq2 := hR
        unfold am_RI at hq2
        have hlh := bf_lohi (A := am_Ac M) (J := am_J M) (b := bf_b x) (by omega) (by omega) (by omega) (by omega)
        unfold bf_proc
        rw [if_neg hns, hd]
        refine lp_X3_look ad M x d hx _ _ _ _ (by omega) (by omega) (by omega) (by simp only [Int32.lt_iff_toInt_lt, iN_e, kI_200] at h46; omega) (by omega) (bf_n (am_Ac M) (am_J M) (bf_b x)) _ _ _ (by unfold bf_n; omega) (by omega) hRC hok hd (rp_fr.rf M) rfl
      · refine am_vret rfl dX3_lookBehind_73 ?_
        have hs9 : bf_stop (am_V M) (am_E M (am_s M)) x := by
          first
          | (exact Or.inl (by simp only [Int32.lt_iff_toInt_lt, iN_e, kI_200] at h46; omega))
          | (exact Or.inr (Or.inr (Or.inr h70)))
          | (refine Classical.byContradiction fun q => ?_
             have q2 : ¬ (bf_w x - bf_b x < 0) ∧ ¬ (am_V M < bf_w x - bf_b x) := ⟨fun z => q (Or.inr (Or.inl z)), fun z => q (Or.inr (Or.inr (Or.inl z)))⟩
             have q3 := hsp.mpr (by omega)
             rw [q3] at h55
             cases h55)
        unfold bf_proc
        rw [if_pos hs9]
        exact ⟨rfl, hRC, rp_fr.rf M⟩

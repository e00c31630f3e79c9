set_option maxRecDepth 100000 in
set_option maxHeartbeats 400000 in
theorem lp_X3_look (ad : Nat → Nat) (M : am_M) (x d : Nat) (hx : x < 23517) (v l hi : Int) (BF : bf_B) (h1 : 0 ≤ v) (h2 : v ≤ 12) (h3 : 0 ≤ l) (h4 : l ≤ 200) (h5 : hi ≤ 4) : ∀ (n : Nat) (a : Int) (N : am_M) (B : bf_B), a + n = hi + 1 → -4 ≤ a → rp_RC N B → bf_ok B → B.1 x = some d → rp_fr M N → bf_fold bf_yes (fun a => bf_idx v a l) (d + 1) n a B = BF → am_W ydX3_lookBehind ad am_II (fun r N => r = none ∧ rp_RC N BF ∧ rp_fr M N) 86 [some (.ref (ad 4)), some (.ref (ad 1)), some (.int (nI x)), some (.int (nI x / 201)), some (.int (iN (bf_w x))), some (.int (iN (bf_b x))), some (.int (iN v)), some (.int (iN l)), some (.int (iN hi)), some (.int (iN a))] [] N := by
  intro n
  induction n with
  | zero =>
    intro a N B ha h6 hRC hok hd hf he
    refine am_iload rfl dX3_lookBehind_86 ?_
    refine am_iload rfl dX3_lookBehind_88 ?_
    refine am_icmp_gt (tgt := 120) (by decide) dX3_lookBehind_90 (fun h => ?_) (fun h => (by exfalso; simp only [Int32.lt_iff_toInt_lt, iN_e] at h; omega))
    refine am_vret rfl dX3_lookBehind_120 ?_
    rw [bf_fold] at he
    subst he
    exact ⟨rfl, hRC, hf⟩
  | succ n ih =>
    intro a N B ha h6 hRC hok hd hf he
    have hix := bf_idx_lt h1 h2 h6 (show a ≤ 4 by omega) h3 h4
    have hd1 := hok.small hd
    have hvp : vp_in (nI x) 23517 := vp_in_nI hx (by omega)
    rw [bf_fold, show bf_yes a = true from rfl, if_pos rfl] at he
    refine am_iload rfl dX3_lookBehind_86 ?_
    refine am_iload rfl dX3_lookBehind_88 ?_
    refine am_icmp_gt (tgt := 120) (by decide) dX3_lookBehind_90 (fun h => (by exfalso; simp only [Int32.lt_iff_toInt_lt, iN_e] at h; omega)) (fun h => ?_)
    refine am_aload_n rfl dX3_lookBehind_93 ?_
    refine am_iload rfl dX3_lookBehind_94 ?_
    refine am_iload rfl dX3_lookBehind_96 ?_
    refine am_iload rfl dX3_lookBehind_98 ?_
    refine am_callSi (c_X3_nodeOf ad _ _ _ _) okX3_nodeOf ml_X3_39 rfl ⟨by decide, by decide⟩ (Nat.le_of_ble_eq_true rfl) rfl dX3_lookBehind_100 ?_
    rw [sp_node_e h1 h2 h6 (by omega) h3 h4]
    refine am_aload_n rfl dX3_lookBehind_103 ?_
    refine am_getr (j := 0) (by decide) rfl rfl rfl hTX3 (by decide) fl_X3_9 dX3_lookBehind_104 ?_
    refine am_iload_n rfl dX3_lookBehind_107 ?_
    refine am_iald (by decide) rfl (hvp) dX3_lookBehind_108 ?_
    refine am_iconst (v := 1) (by decide) dX3_lookBehind_109 ?_
    refine am_iadd dX3_lookBehind_110 ?_
    rw [nI_clamp (by omega), hRC.1 x hx, hd, show rp_enc (some d) + 1 = nI (d + 1) from nI_1 d]
    refine am_callV (c_X3_find ad N B (bf_idx v a l) (d + 1) hRC hok hix.1) okX3_find ml_X3_79 (by decide) rfl rfl rfl ⟨by decide, by decide⟩ (Nat.le_of_ble_eq_true rfl) rfl dX3_lookBehind_111 (fun r111 N111 p111 => ?_)
    obtain ⟨rfl, hRC1, hfr1⟩ := p111
    refine am_iinc rfl rfl (by decide) dX3_lookBehind_114 ?_
    refine am_goto (tgt := 86) (by decide) dX3_lookBehind_117 ?_
    exact am_eq (by rw [iN_inc]; rfl) rfl rfl (ih (a + 1) _ _ (by omega) (by omega) hRC1 (bf_push_ok hok hix.1 hd1.2) ((bf_push_c B _ _).2.2 x d hd) (hf.tr hfr1) he)
set_option maxRecDepth 100000 in
set_option maxHeartbeats 400000 in
theorem c_X3_lookBehind (ad : Nat → Nat) (M : am_M) (B : bf_B) (x d : Nat) (hR : am_RI M) (hRC : rp_RC M B) (hok : bf_ok B) (hx : x < 23517) (hd : B.1 x = some d) : am_C ydX3_lookBehind ad am_II [.ref (ad 4), .ref (ad 1), .int (nI x)] M (fun r N => r = none ∧ rp_RC N (bf_proc (am_V M) (am_Ac M) (am_J M) (am_E M (am_s M)) B x) ∧ rp_fr M N) := by
  have hw := bf_wbl hx
  have hsp := am_speed_iff (M := M) (v := bf_w x - bf_b x) (by omega) (by omega)
  refine am_ofW (L := [some (.ref (ad 4)), some (.ref (ad 1)), some (.int (nI x)), none, none, none, none, none, none, none]) (by decide +kernel) (by simp [Value.category]) (Nat.le_of_ble_eq_true rfl) rfl ?_
  refine am_iload_n rfl dX3_lookBehind_0 ?_
  refine am_sipush (v := 201) (by decide) dX3_lookBehind_1 ?_
  refine am_idiv (by decide) dX3_lookBehind_4 ?_
  refine am_istore_n (by decide) dX3_lookBehind_5 ?_
  refine am_iload_n rfl dX3_lookBehind_6 ?_
  refine am_bipush (v := 9) (by decide) dX3_lookBehind_7 ?_
  refine am_idiv (by decide) dX3_lookBehind_9 ?_
  rw [rp_w hx]
  refine am_istore (by decide) dX3_lookBehind_10 ?_
  refine am_iload_n rfl dX3_lookBehind_12 ?_
  refine am_bipush (v := 9) (by decide) dX3_lookBehind_13 ?_
  refine am_irem (by decide) dX3_lookBehind_15 ?_
  refine am_iconst (v := 4) (by decide) dX3_lookBehind_16 ?_
  refine am_isub dX3_lookBehind_17 ?_
  rw [← rp_w hx, rp_b hx, rp_w hx]
  refine am_istore (by decide) dX3_lookBehind_18 ?_
  refine am_iload rfl dX3_lookBehind_20 ?_
  refine am_iload rfl dX3_lookBehind_22 ?_
  refine am_isub dX3_lookBehind_24 ?_
  rw [iN_sub]
  refine am_istore (by decide) dX3_lookBehind_25 ?_
  refine am_iload_n rfl dX3_lookBehind_27 ?_
  refine am_sipush (v := 201) (by decide) dX3_lookBehind_28 ?_
  refine am_irem (by decide) dX3_lookBehind_31 ?_
  refine am_iload rfl dX3_lookBehind_32 ?_
  refine am_iadd dX3_lookBehind_34 ?_
  rw [rp_l hx]
  refine am_istore (by decide) dX3_lookBehind_35 ?_
  refine am_iload rfl dX3_lookBehind_37 ?_
  refine am_sipush (v := 200) (by decide) dX3_lookBehind_39 ?_
  refine am_icmp_gt (tgt := 69) (by decide) dX3_lookBehind_42 (fun h42 => ?_) (fun h42 => ?_)
  · refine am_vret rfl dX3_lookBehind_69 ?_
    have hs9 : bf_stop (am_V M) (am_E M (am_s M)) x := by
      first
      | (exact Or.inl (by simp only [Int32.lt_iff_toInt_lt, iN_e, kI_200] at h42; omega))
      | (exact Or.inr (Or.inr (Or.inr h66)))
      | (refine Classical.byContradiction fun q => ?_
         have q2 : ¬ (bf_w x - bf_b x < 0) ∧ ¬ (am_V M < bf_w x - bf_b x) := ⟨fun z => q (Or.inr (Or.inl z)), fun z => q (Or.inr (Or.inr (Or.inl z)))⟩
         have q3 := hsp.mpr (by omega)
         rw [q3] at h51
         cases h51)
    unfold bf_proc
    rw [if_pos hs9]
    exact ⟨rfl, hRC, rp_fr.rf M⟩
  · refine am_aload_n rfl dX3_lookBehind_45 ?_
    refine am_iload rfl dX3_lookBehind_46 ?_
    refine am_callVi (c_X4_isSpeed ad M (iN (bf_w x - bf_b x))) okX4_isSpeed ml_X3_83 (by decide) rfl rfl rfl ⟨by decide, by decide⟩ (Nat.le_of_ble_eq_true rfl) rfl dX3_lookBehind_48 ?_
    refine am_ifb_eq (tgt := 69) (by decide) dX3_lookBehind_51 (fun h51 => ?_) (fun h51 => ?_)
    · refine am_vret rfl dX3_lookBehind_69 ?_
      have hs9 : bf_stop (am_V M) (am_E M (am_s M)) x := by
        first
        | (exact Or.inl (by simp only [Int32.lt_iff_toInt_lt, iN_e, kI_200] at h42; omega))
        | (exact Or.inr (Or.inr (Or.inr h66)))
        | (refine Classical.byContradiction fun q => ?_
           have q2 : ¬ (bf_w x - bf_b x < 0) ∧ ¬ (am_V M < bf_w x - bf_b x) := ⟨fun z => q (Or.inr (Or.inl z)), fun z => q (Or.inr (Or.inr (Or.inl z)))⟩
           have q3 := hsp.mpr (by omega)
           rw [q3] at h51
           cases h51)
      unfold bf_proc
      rw [if_pos hs9]
      exact ⟨rfl, hRC, rp_fr.rf M⟩
    · refine am_aload_n rfl dX3_lookBehind_54 ?_
      refine am_iload rfl dX3_lookBehind_55 ?_
      refine am_iload rfl dX3_lookBehind_57 ?_
      refine am_aload_n rfl dX3_lookBehind_59 ?_
      refine am_geti (j := 7) (by decide) rfl rfl rfl hTX4 (by decide) fl_X3_61 dX3_lookBehind_60 ?_
      rw [hR.s]
      refine am_callVi (c_X4_mayEnd ad M (iN (bf_w x)) (iN (bf_b x)) (am_s M)) okX4_mayEnd ml_X3_65 (by decide) rfl rfl rfl ⟨by decide, by decide⟩ (Nat.le_of_ble_eq_true rfl) rfl dX3_lookBehind_63 ?_
      refine am_ifb_ne (tgt := 70) (by decide) dX3_lookBehind_66 (fun h66 => ?_) (fun h66 => ?_)
      · refine am_aload_n rfl dX3_lookBehind_70 ?_
        refine am_iload rfl dX3_lookBehind_71 ?_
        refine am_callVi (c_X4_mostBeside ad _ _) okX4_mostBeside ml_X3_58 (by decide) rfl rfl rfl ⟨by decide, by decide⟩ (Nat.le_of_ble_eq_true rfl) rfl dX3_lookBehind_73 ?_
        rw [am_most_e hR hw.2.2.1 hw.2.2.2.1]
        refine am_istore (by decide) dX3_lookBehind_76 ?_
        refine am_aload_n rfl dX3_lookBehind_78 ?_
        refine am_iload rfl dX3_lookBehind_79 ?_
        refine am_callVi (c_X4_leastBeside ad _ _) okX4_leastBeside ml_X3_54 (by decide) rfl rfl rfl ⟨by decide, by decide⟩ (Nat.le_of_ble_eq_true rfl) rfl dX3_lookBehind_81 ?_
        rw [am_least_e hR hw.2.2.1 hw.2.2.2.1]
        refine am_istore (by decide) dX3_lookBehind_84 ?_
        have hsp2 := hsp.mp h51
        have hns : ¬ bf_stop (am_V M) (am_E M (am_s M)) x := by
          rintro (q | q | q | q)
          · simp only [Int32.lt_iff_toInt_lt, iN_e, kI_200] at h42; omega
          · omega
          · omega
          · exact absurd (q.symm.trans (show am_E M (am_s M) (bf_w x) (bf_b x) = true from h66)) (by decide)
        have hst := (am_state_iff hR (v := bf_w x) (a := bf_b x) (by omega) (by omega) (by omega) (by omega)).mp (by
          have h7 : sp_mayEnd M (iN (bf_w x)) (iN (bf_b x)) (am_s M) = true := h66
          simp only [sp_mayEnd, decide_eq_true_eq] at h7
          exact h7.1)
        have hq : am_V M = (M 1 0).toInt ∧ am_Ac M = (M 1 1).toInt ∧ am_J M = (M 1 2).toInt := ⟨rfl, rfl, rfl⟩
        have hq2 := hR
        unfold am_RI at hq2
        have hlh := bf_lohi (A := am_Ac M) (J := am_J M) (b := bf_b x) (by omega) (by omega) (by omega) (by omega)
        unfold bf_proc
        rw [if_neg hns, hd]
        refine lp_X3_look ad M x d hx _ _ _ _ (by omega) (by omega) (by omega) (by simp only [Int32.lt_iff_toInt_lt, iN_e, kI_200] at h42; omega) (by omega) (bf_n (am_Ac M) (am_J M) (bf_b x)) _ _ _ (by unfold bf_n; omega) (by omega) hRC hok hd (rp_fr.rf M) rfl
      · refine am_vret rfl dX3_lookBehind_69 ?_
        have hs9 : bf_stop (am_V M) (am_E M (am_s M)) x := by
          first
          | (exact Or.inl (by simp only [Int32.lt_iff_toInt_lt, iN_e, kI_200] at h42; omega))
          | (exact Or.inr (Or.inr (Or.inr h66)))
          | (refine Classical.byContradiction fun q => ?_
             have q2 : ¬ (bf_w x - bf_b x < 0) ∧ ¬ (am_V M < bf_w x - bf_b x) := ⟨fun z => q (Or.inr (Or.inl z)), fun z => q (Or.inr (Or.inr (Or.inl z)))⟩
             have q3 := hsp.mpr (by omega)
             rw [q3] at h51
             cases h51)
        unfold bf_proc
        rw [if_pos hs9]
        exact ⟨rfl, hRC, rp_fr.rf M⟩

def rm_row (M N : am_M) (n : Int) (d : Nat) : Prop := N 21 12 = nI d ∧ ∀ i, i < d → N 26 i = iN (mg M n (i + 1)).2.1
theorem mg_s (M : am_M) (n : Int) (i : Nat) : mg M n (i + 1) = ((mg M n i).1 + gb (mA M) (mJ M) (mE M) (mF M) (mg M n i).1 (mg M n i).2.1 (mg M n i).2.2, gb (mA M) (mJ M) (mE M) (mF M) (mg M n i).1 (mg M n i).2.1 (mg M n i).2.2, (mg M n i).2.2 - ((mg M n i).1 + gb (mA M) (mJ M) (mE M) (mF M) (mg M n i).1 (mg M n i).2.1 (mg M n i).2.2)) := rfl
set_option maxRecDepth 100000 in
set_option maxHeartbeats 400000 in
theorem lp_X7_ra2 (ad : Nat → Nat) (M : am_M) (hR : mRI M) (n32 : Int32) (n : Int) (hn : 0 ≤ n) (hn2 : n ≤ 200) (d : Nat) (hd : mF M (bf_idx 0 0 n) = some d) : ∀ (z i : Nat) (N : am_M) (v a l : Int) (n5 : Option Value), d - i < z → i ≤ d → mg M n i = (v, a, l) → rm_fr4 M N → rm_at M N → N 21 12 = nI i → (∀ k, k < i → N 26 k = iN (mg M n (k + 1)).2.1) → am_W ydX7_ramps ad am_II (fun r N => rm_fr4 M N ∧ rm_at M N ∧ r = some (.int 1) ∧ rm_row M N n d) 40 [some (.ref (ad 21)), some (.int n32), some (.int (iN v)), some (.int (iN a)), some (.int (iN l)), n5] [] N := by
  intro z
  have hd602 := mF_le hR (v := 0) (a := 0) (l := n) (by omega) (by omega) (by omega) (by omega) hn hn2 hd
  induction z with
  | zero => intro i N v a l n5 hz; omega
  | succ z ih =>
    intro i N v a l n5 hz hi hs hf hat hrl hrow
    obtain ⟨⟨h1, h2⟩, ⟨h3, h4⟩, ⟨h5, h6⟩, h7⟩ := mg_ok hR hn hn2 hd i hi
    rw [hs] at h1 h2 h3 h4 h5 h6 h7
    dsimp only at h1 h2 h3 h4 h5 h6 h7
    obtain ⟨⟨eV, eA, eJ⟩, es, eE, eR⟩ := mr_cong hf.2 (hf.1 22 (by decide) (by decide) (by decide) (by decide)) (hf.1 23 (by decide) (by decide) (by decide) (by decide))
    have hix := bf_idx_lt h1 h2 h3 h4 h5 h6
    have hsx : sp_node (iN v) (iN a) (iN l) = nI (bf_idx v a l) := sp_node_e h1 h2 h3 h4 h5 h6
    have hv1 : vp_in (nI (bf_idx v a l)) 23517 := vp_in_nI hix.1 (by omega)
    have hq : mA M = (M 21 2).toInt := rfl
    have hA := hR.V.2
    have e22 : N 21 2 = M 21 2 := hf.2 2 (by decide)
    have KE : d - i = 0 → am_W ydX7_ramps ad am_II (fun r N => rm_fr4 M N ∧ rm_at M N ∧ r = some (.int 1) ∧ rm_row M N n d) 167 [some (.ref (ad 21)), some (.int n32), some (.int (iN v)), some (.int (iN a)), some (.int (iN l)), n5] [] N := by
      intro q
      refine am_iconst (v := 1) (by decide) dX7_ramps_167 ?_
      refine am_zret rfl (by decide) dX7_ramps_168 ?_
      obtain rfl : i = d := by omega
      exact ⟨hf, hat, rfl, hrl, hrow⟩
    have KN : ∀ e, d - i = e + 1 → am_W ydX7_ramps ad am_II (fun r N => rm_fr4 M N ∧ rm_at M N ∧ r = some (.int 1) ∧ rm_row M N n d) 55 [some (.ref (ad 21)), some (.int n32), some (.int (iN v)), some (.int (iN a)), some (.int (iN l)), n5] [] N := by
      intro e q
      rw [q] at h7
      have hp := bf_F_par (V := mV M) (A := mA M) (J := mJ M) (E := me_E M (m_s M)) hR.V.1 hR.2.2.1 hR.V.2 hR.2.2.2.2.1 (fun w b g1 g2 g3 g4 g5 => (mE_ok hR w b (by omega) (by omega) g3 g4 g5).1)
      obtain ⟨b0, hb0⟩ := hp v a l _ h1 h2 h3 h4 h5 h6 h7
      obtain ⟨g1, g2, g3, g4⟩ := gb_ok (J := mJ M) (E := mE M) hA h7 ⟨b0, mV M, hb0⟩
      have hnx := mg_s M n i
      rw [hs] at hnx
      dsimp only at hnx
      generalize gb (mA M) (mJ M) (mE M) (mF M) v a l = g at *
      have hiv : vp_in (nI i) 1000 := vp_in_nI (by omega) (by omega)
      refine am_aload_n rfl dX7_ramps_55 ?_
      refine am_geti (j := 2) (by decide) rfl rfl rfl hTX7 (by decide) fl_X7_13 dX7_ramps_56 ?_
      refine am_istore (by decide) dX7_ramps_59 ?_
      rw [e22, show M 21 2 = iN (mA M) from (iN_self _).symm]
      refine lp_X7_ra1 ad M N hR hf.2 (hf.1 22 (by decide) (by decide) (by decide) (by decide)) (hf.1 23 (by decide) (by decide) (by decide) (by decide)) hat _ n32 v a l g e h1 h2 h3 h4 h5 h6 h7 g1 g2 g4 g3 ?_ 100 (mA M) (by unfold bf_lo at g2; omega) (by unfold bf_hi at g3; omega) (Int.le_refl _)
      refine am_aload_n rfl dX7_ramps_129 ?_
      refine am_getr (j := 11) (by decide) rfl rfl rfl hTX7 (by decide) fl_X7_33 dX7_ramps_130 ?_
      refine am_aload_n rfl dX7_ramps_133 ?_
      refine am_geti (j := 12) (by decide) rfl rfl rfl hTX7 (by decide) fl_X7_120 dX7_ramps_134 ?_
      rw [hrl]
      refine am_iload rfl dX7_ramps_137 ?_
      refine am_iast (by decide) rfl (hiv) dX7_ramps_139 ?_
      refine am_aload_n rfl dX7_ramps_140 ?_
      refine am_dup rfl dX7_ramps_141 ?_
      refine am_geti (j := 12) (by decide) rfl rfl rfl hTX7 (by decide) fl_X7_120 dX7_ramps_142 ?_
      refine am_iconst (v := 1) (by decide) dX7_ramps_145 ?_
      refine am_iadd dX7_ramps_146 ?_
      refine am_puti (j := 12) (by decide) rfl rfl rfl hTX7 tyX7_ok nmX7 (by decide) fl_X7_120 rfl rfl rfl rfl dX7_ramps_147 ?_
      refine am_iload_n rfl dX7_ramps_150 ?_
      refine am_iload rfl dX7_ramps_151 ?_
      refine am_iadd dX7_ramps_153 ?_
      rw [iN_add]
      refine am_istore_n (by decide) dX7_ramps_154 ?_
      refine am_iload rfl dX7_ramps_155 ?_
      refine am_istore_n (by decide) dX7_ramps_157 ?_
      refine am_iload rfl dX7_ramps_158 ?_
      refine am_iload_n rfl dX7_ramps_160 ?_
      refine am_isub dX7_ramps_161 ?_
      rw [iN_sub]
      refine am_istore (by decide) dX7_ramps_162 ?_
      refine am_goto (tgt := 40) (by decide) dX7_ramps_164 ?_
      refine am_M_eq ?_ (ih (i + 1) (am_put (am_put N 26 i (iN g)) 21 12 (nI (i + 1))) (v + g) g (l - (v + g)) _ (by omega) (by omega) hnx ⟨fun q p1 p2 p3 p4 => ?_, fun j hj => ?_⟩ (fun x hx => ?_) ?_ (fun k hk => ?_))
      · rw [nI_clamp (by omega), am_put_ne N 26 _ _ (show (21 : Nat) ≠ 26 by decide), hrl, nI_1]
      · rw [am_put_ne _ _ _ _ p1, am_put_ne _ _ _ _ p4]
        exact hf.1 q p1 p2 p3 p4
      · rw [am_rd, if_neg (by omega), am_put_ne _ _ _ _ (by decide)]
        exact hf.2 j hj
      · rw [am_put_ne _ _ _ _ (by decide), am_put_ne _ _ _ _ (by decide)]
        exact hat x hx
      · rw [am_rd, if_pos ⟨rfl, rfl⟩]
      · rw [am_put_ne _ _ _ _ (by decide), am_rd]
        by_cases q2 : k = i
        · subst q2
          rw [if_pos ⟨rfl, rfl⟩, hnx]
        · rw [if_neg (by omega)]
          exact hrow k (by omega)
    refine am_aload_n rfl dX7_ramps_40 ?_
    refine am_getr (j := 9) (by decide) rfl rfl rfl hTX7 (by decide) fl_X7_27 dX7_ramps_41 ?_
    refine am_iload_n rfl dX7_ramps_44 ?_
    refine am_iload_n rfl dX7_ramps_45 ?_
    refine am_iload rfl dX7_ramps_46 ?_
    refine am_callSi (c_X7_index ad _ _ _ _) okX7_index ml_X7_109 rfl ⟨by decide, by decide⟩ (Nat.le_of_ble_eq_true rfl) rfl dX7_ramps_48 ?_
    rw [hsx]
    refine am_iald (by decide) rfl (hv1) dX7_ramps_51 ?_
    rw [nI_clamp (by omega), hat _ hix.1, h7, show rm_enc (some (d - i)) = nI (d - i) from rfl]
    refine am_if_le (tgt := 167) (by decide) dX7_ramps_52 (fun h52 => ?_) (fun h52 => ?_)
    · exact KE (by simp only [Int32.le_iff_toInt_le, Int32.toInt_zero, nI_e] at h52; omega)
    · exact KN (d - i - 1) (by simp only [Int32.le_iff_toInt_le, Int32.toInt_zero, nI_e] at h52; omega)
set_option maxRecDepth 100000 in
set_option maxHeartbeats 400000 in
theorem c_X7_ramps (ad : Nat → Nat) (M : am_M) (n : Int32) (hR : mRI M) (hn : 0 ≤ n.toInt) (hn2 : n.toInt ≤ 200) : am_C ydX7_ramps ad am_II [.ref (ad 21), .int n] M (fun r N => rm_fr4 M N ∧ rm_at M N ∧ ((n.toInt = 0 ∧ r = some (.int 1) ∧ N 21 12 = 0) ∨ (¬ n.toInt = 0 ∧ mF M (rp_st n.toInt) = none ∧ r = some (.int 0) ∧ N 21 12 = 0) ∨ (¬ n.toInt = 0 ∧ ∃ d, mF M (rp_st n.toInt) = some d ∧ r = some (.int 1) ∧ rm_row M N n.toInt d))) := by
  refine am_ofW (L := [some (.ref (ad 21)), some (.int n), none, none, none, none]) (by decide +kernel) (by simp [Value.category]) (Nat.le_of_ble_eq_true rfl) rfl ?_
  refine am_aload_n rfl dX7_ramps_0 ?_
  refine am_callV (c_X7_spread ad M hR) okX7_spread ml_X7_117 (by decide) rfl rfl rfl ⟨by decide, by decide⟩ (Nat.le_of_ble_eq_true rfl) rfl dX7_ramps_1 (fun r1 N1 p1 => ?_)
  obtain ⟨rfl, hf, j, hj, hRC⟩ := p1
  have hat0 := rm_at_of hR hj hRC
  have hat : rm_at M (am_put N1 21 12 0) := fun x hx => by rw [am_put_ne _ _ _ _ (by decide)]; exact hat0 x hx
  have hf4 : rm_fr4 M (am_put N1 21 12 0) := ⟨fun a p1 p2 p3 p4 => by rw [am_put_ne _ _ _ _ p1]; exact hf a p2 p3, fun j hj => by rw [am_rd, if_neg (by omega)]; rw [hf 21 (by decide) (by decide)]⟩
  have hrl : am_put N1 21 12 0 21 12 = 0 := by (rw [am_rd, if_pos ⟨rfl, rfl⟩])
  have hst : rp_st n.toInt < 23517 := (bf_idx_lt (v := 0) (a := 0) (by omega) (by omega) (by omega) (by omega) hn hn2).1
  have hsx : sp_node 0 0 n = nI (rp_st n.toInt) := by
    have h9 := sp_node_e (v := 0) (a := 0) (l := n.toInt) (by omega) (by omega) (by omega) (by omega) hn hn2
    rw [iN_self] at h9
    exact h9
  refine am_aload_n rfl dX7_ramps_4 ?_
  refine am_iconst (v := 0) (by decide) dX7_ramps_5 ?_
  refine am_puti (j := 12) (by decide) rfl rfl rfl hTX7 tyX7_ok nmX7 (by decide) fl_X7_120 rfl rfl rfl rfl dX7_ramps_6 ?_
  refine am_iload_n rfl dX7_ramps_9 ?_
  refine am_if_ne (tgt := 15) (by decide) dX7_ramps_10 (fun h10 => ?_) (fun h10 => ?_)
  · refine am_aload_n rfl dX7_ramps_15 ?_
    refine am_getr (j := 9) (by decide) rfl rfl rfl hTX7 (by decide) fl_X7_27 dX7_ramps_16 ?_
    refine am_iconst (v := 0) (by decide) dX7_ramps_19 ?_
    refine am_iconst (v := 0) (by decide) dX7_ramps_20 ?_
    refine am_iload_n rfl dX7_ramps_21 ?_
    refine am_callSi (c_X7_index ad _ _ _ _) okX7_index ml_X7_109 rfl ⟨by decide, by decide⟩ (Nat.le_of_ble_eq_true rfl) rfl dX7_ramps_22 ?_
    rw [hsx]
    refine am_iald (by decide) rfl ((vp_in_nI hst (by omega))) dX7_ramps_25 ?_
    refine am_ldc kw_105 dX7_ramps_26 ?_
    rw [nI_clamp (by omega), hat _ hst]
    refine am_icmp_ne (tgt := 33) (by decide) dX7_ramps_28 (fun h28 => ?_) (fun h28 => ?_)
    · refine am_iconst (v := 0) (by decide) dX7_ramps_33 ?_
      refine am_istore_n (by decide) dX7_ramps_34 ?_
      refine am_iconst (v := 0) (by decide) dX7_ramps_35 ?_
      refine am_istore_n (by decide) dX7_ramps_36 ?_
      refine am_iload_n rfl dX7_ramps_37 ?_
      refine am_istore (by decide) dX7_ramps_38 ?_
      obtain ⟨d, hd⟩ : ∃ d, mF M (rp_st n.toInt) = some d := by
        cases w : mF M (rp_st n.toInt) with
        | none => exact absurd ((rm_F_none hR _).mpr w) h28
        | some d => exact ⟨d, rfl⟩
      have h9 := lp_X7_ra2 ad M hR n n.toInt hn hn2 d hd (d + 1) 0 _ 0 0 n.toInt none (by omega) (by omega) rfl hf4 hat hrl (fun k hk => absurd hk (Nat.not_lt_zero _))
      rw [iN_self] at h9
      refine am_conj ?_ h9
      intros
      rename_i h
      exact ⟨h.1, h.2.1, Or.inr (Or.inr ⟨fun q => h10 (i_inj (by rw [q]; rfl)), d, hd, h.2.2⟩)⟩
    · refine am_iconst (v := 0) (by decide) dX7_ramps_31 ?_
      refine am_zret rfl (by first | exact am_nb _ | decide) dX7_ramps_32 ?_
      first
      | exact ⟨hf4, hat, Or.inl ⟨by rw [h10]; rfl, rfl, hrl⟩⟩
      | exact ⟨hf4, hat, Or.inr (Or.inl ⟨fun q => h10 (i_inj (by rw [q]; rfl)), (rm_F_none hR _).mp h28, rfl, hrl⟩)⟩
  · refine am_iconst (v := 1) (by decide) dX7_ramps_13 ?_
    refine am_zret rfl (by first | exact am_nb _ | decide) dX7_ramps_14 ?_
    first
    | exact ⟨hf4, hat, Or.inl ⟨by rw [h10]; rfl, rfl, hrl⟩⟩
    | exact ⟨hf4, hat, Or.inr (Or.inl ⟨fun q => h10 (i_inj (by rw [q]; rfl)), (rm_F_none hR _).mp h28, rfl, hrl⟩)⟩

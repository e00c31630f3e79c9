noncomputable def sl_Tm (M : am_M) (sb : Bool) : Nat → sl_B := sl_T (am_V M) (am_Ac M) (am_J M) (am_E M sb)
noncomputable def sl_fin (M : am_M) (sb : Bool) : sl_B := sl_Tm M sb 117
theorem sl_Tm_ok {M : am_M} (hR : am_RI M) (sb : Bool) (k : Nat) : sl_ok (sl_Tm M sb k) := sl_T_ok hR.V.1 hR.V.2 k
theorem sl_Tm_end {M : am_M} {sb : Bool} {j : Nat} (h : j = (sl_Tm M sb j).2.2) : ∀ m, sl_Tm M sb (j + m) = sl_Tm M sb j := by
  intro m
  induction m with
  | zero => rfl
  | succ m ih =>
    have e : sl_Tm M sb (j + (m + 1)) = if j + m < (sl_Tm M sb (j + m)).2.2 then sl_proc (am_V M) (am_Ac M) (am_J M) (am_E M sb) (sl_Tm M sb (j + m)) ((sl_Tm M sb (j + m)).2.1 (j + m)) else sl_Tm M sb (j + m) := rfl
    rw [e, ih, ← h, if_neg (by omega)]
theorem sl_Tm_fin {M : am_M} (hR : am_RI M) {sb : Bool} {j : Nat} (h : j = (sl_Tm M sb j).2.2) : sl_fin M sb = sl_Tm M sb j := by
  have h1 := (sl_Tm_ok hR sb j).le
  have h2 := sl_Tm_end h (117 - j)
  unfold sl_fin
  rw [← h2]
  congr 1
  omega
theorem sl_fin_ok {M : am_M} (hR : am_RI M) (sb : Bool) : sl_ok (sl_fin M sb) := by
  unfold sl_fin
  exact sl_Tm_ok hR sb 117
theorem sl_Tm_cong {M N : am_M} (h1 : N 1 = M 1) (h2 : N 2 = M 2) (h3 : N 3 = M 3) (sb : Bool) : sl_Tm N sb = sl_Tm M sb := by
  have e1 : am_V N = am_V M := by unfold am_V; rw [h1]
  have e2 : am_Ac N = am_Ac M := by unfold am_Ac; rw [h1]
  have e3 : am_J N = am_J M := by unfold am_J; rw [h1]
  have e5 : am_E N sb = am_E M sb := by
    funext w b
    unfold am_E sp_mayEnd sp_state sp_bad sp_safe
    rw [h1, h2, h3]
  unfold sl_Tm
  rw [e1, e2, e3, e5]
theorem sl_fin_cong {M N : am_M} (h1 : N 1 = M 1) (h2 : N 2 = M 2) (h3 : N 3 = M 3) (sb : Bool) : sl_fin N sb = sl_fin M sb := by
  unfold sl_fin
  rw [sl_Tm_cong h1 h2 h3]
def sl_at (k : Nat) (M N : am_M) (sb : Bool) : Prop := sl_RC k N (sl_fin M sb) ∧ N k 5 = M 1 8 ∧ N k 0 = M k 0 ∧ ∀ a, a ≠ k → a ≠ k + 1 → a ≠ k + 2 → a ≠ k + 3 → N a = M a
set_option maxRecDepth 100000 in
set_option maxHeartbeats 400000 in
theorem lp_X5_renew2_7 (ad : Nat → Nat) (M : am_M) (hR : am_RI M) (sb : Bool) (hsb : M 7 0 = bI sb) : ∀ (z j : Nat) (N : am_M), 117 - j < z → j ≤ (sl_Tm M sb j).2.2 → sl_RC 7 N (sl_Tm M sb j) → N 7 5 = M 1 8 → N 7 0 = M 7 0 → (∀ a, a ≠ 7 → a ≠ 8 → a ≠ 9 → a ≠ 10 → N a = M a) → am_W ydX5_renew ad am_II (fun r N => r = none ∧ sl_at 7 M N sb) 69 [some (.ref (ad 7)), some (.ref (ad 1)), some (.int (nI j))] [] N := by
  intro z
  induction z with
  | zero => intro j N hz; omega
  | succ z ih =>
    intro j N hz hj hRC hv h0 hf
    have hok := sl_Tm_ok hR sb j
    have hle := hok.le
    have e1 : N 1 = M 1 := hf 1 (by decide) (by decide) (by decide) (by decide)
    have eT : sl_T (am_V N) (am_Ac N) (am_J N) (am_E N sb) = sl_Tm M sb := sl_Tm_cong e1 (hf 2 (by decide) (by decide) (by decide) (by decide)) (hf 3 (by decide) (by decide) (by decide) (by decide)) sb
    refine am_iload_n rfl dX5_renew_69 ?_
    refine am_aload_n rfl dX5_renew_70 ?_
    refine am_geti (j := 4) (by decide) rfl rfl rfl hTX5 (by decide) fl_X5_21 dX5_renew_71 ?_
    refine am_icmp_ge (tgt := 105) (by decide) dX5_renew_74 (fun h74 => ?_) (fun h74 => ?_)
    · refine am_vret rfl dX5_renew_105 ?_
      have hend : j = (sl_Tm M sb j).2.2 := by
        first
        | (rw [hRC.2.2.2] at h74; simp only [Int32.le_iff_toInt_le, nI_e] at h74; omega)
      exact ⟨rfl, by rw [sl_Tm_fin hR hend]; exact hRC, hv, h0, hf⟩
    · have hlt : j < (sl_Tm M sb j).2.2 := by (rw [hRC.2.2.2] at h74; simp only [Int32.le_iff_toInt_le, nI_e] at h74; omega)
      obtain ⟨hx, tj, sj, hdj, -⟩ := hok.1 j hlt
      refine am_aload_n rfl dX5_renew_77 ?_
      refine am_getr (j := 3) (by decide) rfl rfl rfl hTX5 (by decide) fl_X5_18 dX5_renew_78 ?_
      refine am_iload_n rfl dX5_renew_81 ?_
      refine am_callNi (c_X6_isIndexOf ad N 10 117 (nI j) (by decide) rfl (by decide) (vp_in_nI (by omega) (by omega))) okX6_isIndexOf ml_X5_36 rfl ⟨by decide, by decide⟩ (Nat.le_of_ble_eq_true rfl) rfl dX5_renew_82 ?_
      refine am_ifb_eq (tgt := 105) (by decide) dX5_renew_85 (fun h85 => ?_) (fun h85 => ?_)
      · cases h85
      · refine am_aload_n rfl dX5_renew_88 ?_
        refine am_aload_n rfl dX5_renew_89 ?_
        refine am_aload_n rfl dX5_renew_90 ?_
        refine am_getr (j := 3) (by decide) rfl rfl rfl hTX5 (by decide) fl_X5_18 dX5_renew_91 ?_
        refine am_iload_n rfl dX5_renew_94 ?_
        refine am_iald (by decide) rfl (vp_in_nI (by omega) (by omega)) dX5_renew_95 ?_
        rw [nI_clamp (by omega), hRC.2.2.1 j hlt]
        refine am_callV (c_X5_lookBehind_7 ad N (sl_Tm M sb j) ((sl_Tm M sb j).2.1 j) tj sj sb (hR.cong e1) (by rw [h0, hsb]) hRC hok hx hdj) okX5_lookBehind ml_X5_74 (by decide) rfl rfl rfl ⟨by decide, by decide⟩ (Nat.le_of_ble_eq_true rfl) rfl dX5_renew_96 (fun r96 N96 p96 => ?_)
        obtain ⟨rfl, hRC1, hfr1⟩ := p96
        refine am_iinc (v := nI (j + 1)) rfl (nI_inc j) (by decide) dX5_renew_99 ?_
        refine am_goto (tgt := 69) (by decide) dX5_renew_102 ?_
        have hnew : sl_Tm M sb (j + 1) = sl_proc (am_V N) (am_Ac N) (am_J N) (am_E N sb) (sl_Tm M sb j) ((sl_Tm M sb j).2.1 j) := by
          rw [← eT] at hlt ⊢
          rw [sl_T, if_pos hlt]
        rw [← hnew] at hRC1
        have hle2 := (sl_proc_ok (J := am_J N) (E := am_E N sb) (hR.cong e1).V.1 (hR.cong e1).V.2 hok hx hdj).2
        rw [← hnew] at hle2
        exact ih (j + 1) _ (by omega) (by have := hle2.1; omega) hRC1 ((hfr1.2 5 (by decide)).trans hv) ((hfr1.2 0 (by decide)).trans h0) (fun a p1 p2 p3 p4 => (hfr1.1 a p1 p2 p3 p4).trans (hf a p1 p2 p3 p4))
set_option maxRecDepth 100000 in
set_option maxHeartbeats 400000 in
theorem lp_X5_renew1_7 (ad : Nat → Nat) (M : am_M) (hR : am_RI M) (sb : Bool) (hsb : M 7 0 = bI sb) : ∀ (n : Nat) (a : Int) (N : am_M) (B : sl_B), a + n = 5 → -4 ≤ a → sl_RC 7 N B → sl_ok B → N 7 5 = M 1 8 → N 7 0 = M 7 0 → (∀ q, q ≠ 7 → q ≠ 8 → q ≠ 9 → q ≠ 10 → N q = M q) → sl_foldc (sl_rest (am_Ac M) (am_J M)) (fun a => sx 0 a) 0 0 n a B = sl_init (am_Ac M) (am_J M) → am_W ydX5_renew ad am_II (fun r N => r = none ∧ sl_at 7 M N sb) 36 [some (.ref (ad 7)), some (.ref (ad 1)), some (.int (iN a))] [] N := by
  intro n
  induction n with
  | zero =>
    intro a N B ha h4 hRC hok hv h0 hf he
    refine am_iload_n rfl dX5_renew_36 ?_
    refine am_iconst (v := 4) (by decide) dX5_renew_37 ?_
    refine am_icmp_gt (tgt := 67) (by decide) dX5_renew_38 (fun h => ?_) (fun h => (by exfalso; simp only [Int32.lt_iff_toInt_lt, iN_e, kI_4] at h; omega))
    rw [sl_foldc] at he
    subst he
    refine am_iconst (v := 0) (by decide) dX5_renew_67 ?_
    refine am_istore_n (by decide) dX5_renew_68 ?_
    exact lp_X5_renew2_7 ad M hR sb hsb 118 0 N (by omega) (Nat.zero_le _) hRC hv h0 hf
  | succ n ih =>
    intro a N B ha h4 hRC hok hv h0 hf he
    have e1 : N 1 = M 1 := hf 1 (by decide) (by decide) (by decide) (by decide)
    have hR' : am_RI N := hR.cong e1
    have er := am_rest_iff hR' (a := a) (by omega) (by omega)
    have eA : am_Ac N = am_Ac M := by unfold am_Ac; rw [e1]
    have eJ : am_J N = am_J M := by unfold am_J; rw [e1]
    rw [eA, eJ] at er
    rw [sl_foldc] at he
    refine am_iload_n rfl dX5_renew_36 ?_
    refine am_iconst (v := 4) (by decide) dX5_renew_37 ?_
    refine am_icmp_gt (tgt := 67) (by decide) dX5_renew_38 (fun h => (by exfalso; simp only [Int32.lt_iff_toInt_lt, iN_e, kI_4] at h; omega)) (fun h => ?_)
    refine am_aload_n rfl dX5_renew_41 ?_
    refine am_iconst (v := 0) (by decide) dX5_renew_42 ?_
    refine am_iload_n rfl dX5_renew_43 ?_
    refine am_callVi (c_X4_isRest ad N _ _) okX4_isRest ml_X5_66 (by decide) rfl rfl rfl ⟨by decide, by decide⟩ (Nat.le_of_ble_eq_true rfl) rfl dX5_renew_44 ?_
    refine am_ifb_eq (tgt := 61) (by decide) dX5_renew_47 (fun h47 => ?_) (fun h47 => ?_)
    · refine am_iinc rfl rfl (by decide) dX5_renew_61 ?_
      refine am_goto (tgt := 36) (by decide) dX5_renew_64 ?_
      first
      | (rw [if_neg (by unfold sl_rest; rw [decide_eq_true_eq]; exact fun q => by rw [er.mpr q] at h47; cases h47)] at he; exact am_eq (by rw [iN_inc]; rfl) rfl rfl (ih (a + 1) N B (by omega) (by omega) hRC hok hv h0 hf he))
      | (rw [if_pos (by unfold sl_rest; rw [decide_eq_true_eq]; exact er.mp h47)] at he; exact am_eq (by rw [iN_inc]; rfl) rfl rfl (ih (a + 1) _ _ (by omega) (by omega) hRC1 (sl_push_ok hok hix (Nat.zero_le _) (Nat.zero_le _)) ((hfr1.2 5 (by decide)).trans hv) ((hfr1.2 0 (by decide)).trans h0) (fun q p1 p2 p3 p4 => (hfr1.1 q p1 p2 p3 p4).trans (hf q p1 p2 p3 p4)) he))
    · refine am_aload_n rfl dX5_renew_50 ?_
      refine am_iconst (v := 0) (by decide) dX5_renew_51 ?_
      refine am_iload_n rfl dX5_renew_52 ?_
      refine am_callNi (c_X6_stateNumber ad N 0 (iN a)) okX6_stateNumber ml_X5_32 rfl ⟨by decide, by decide⟩ (Nat.le_of_ble_eq_true rfl) rfl dX5_renew_53 ?_
      rw [show sp_num 0 (iN a) = nI (sx 0 a) from sp_num_e (v := 0) (by omega) (by omega) (by omega) (by omega)]
      have hix : sx 0 a < 117 := (sx_lt (v := 0) (by omega) (by omega) (by omega) (by omega)).1
      refine am_iconst (v := 0) (by decide) dX5_renew_56 ?_
      refine am_iconst (v := 0) (by decide) dX5_renew_57 ?_
      refine am_callV (c_X5_find_7 ad N B (sx 0 a) 0 0 hRC hok hix (by omega) (by omega)) okX5_find ml_X5_70 (by decide) rfl rfl rfl ⟨by decide, by decide⟩ (Nat.le_of_ble_eq_true rfl) rfl dX5_renew_58 (fun r58 N58 p58 => ?_)
      obtain ⟨rfl, hRC1, hfr1⟩ := p58
      refine am_iinc rfl rfl (by decide) dX5_renew_61 ?_
      refine am_goto (tgt := 36) (by decide) dX5_renew_64 ?_
      first
      | (rw [if_neg (by unfold sl_rest; rw [decide_eq_true_eq]; exact fun q => by rw [er.mpr q] at h47; cases h47)] at he; exact am_eq (by rw [iN_inc]; rfl) rfl rfl (ih (a + 1) N B (by omega) (by omega) hRC hok hv h0 hf he))
      | (rw [if_pos (by unfold sl_rest; rw [decide_eq_true_eq]; exact er.mp h47)] at he; exact am_eq (by rw [iN_inc]; rfl) rfl rfl (ih (a + 1) _ _ (by omega) (by omega) hRC1 (sl_push_ok hok hix (Nat.zero_le _) (Nat.zero_le _)) ((hfr1.2 5 (by decide)).trans hv) ((hfr1.2 0 (by decide)).trans h0) (fun q p1 p2 p3 p4 => (hfr1.1 q p1 p2 p3 p4).trans (hf q p1 p2 p3 p4)) he))
set_option maxRecDepth 100000 in
set_option maxHeartbeats 400000 in
theorem c_X5_renew_7 (ad : Nat → Nat) (M : am_M) (sb : Bool) (hR : am_RI M) (hsb : M 7 0 = bI sb) (hS : M 7 5 = M 1 8 → sl_RC 7 M (sl_fin M sb)) : am_C ydX5_renew ad am_II [.ref (ad 7), .ref (ad 1)] M (fun r N => r = none ∧ sl_at 7 M N sb) := by
  refine am_ofW (L := [some (.ref (ad 7)), some (.ref (ad 1)), none]) (by decide +kernel) (by simp [Value.category]) (Nat.le_of_ble_eq_true rfl) rfl ?_
  refine am_aload_n rfl dX5_renew_0 ?_
  refine am_geti (j := 5) (by decide) rfl rfl rfl hTX5 (by decide) fl_X5_25 dX5_renew_1 ?_
  refine am_aload_n rfl dX5_renew_4 ?_
  refine am_geti (j := 8) (by decide) rfl rfl rfl hTX4 (by decide) fl_X5_59 dX5_renew_5 ?_
  refine am_icmp_ne (tgt := 12) (by decide) dX5_renew_8 (fun h8 => ?_) (fun h8 => ?_)
  · refine am_aload_n rfl dX5_renew_12 ?_
    refine am_aload_n rfl dX5_renew_13 ?_
    refine am_geti (j := 8) (by decide) rfl rfl rfl hTX4 (by decide) fl_X5_59 dX5_renew_14 ?_
    refine am_puti (j := 5) (by decide) rfl rfl rfl hTX5 tyX5_ok nmX5 (by decide) fl_X5_25 rfl rfl rfl rfl dX5_renew_17 ?_
    refine am_aload_n rfl dX5_renew_20 ?_
    refine am_getr (j := 1) (by decide) rfl rfl rfl hTX5 (by decide) fl_X5_9 dX5_renew_21 ?_
    refine am_iconst (v := (-1)) (by decide) dX5_renew_24 ?_
    refine am_callSv (c_J7_fill ad am_II 8 117 (by decide) rfl (by omega) _ _) okJ7_fill_53178 ml_X5_60 rfl ⟨by decide, by decide⟩ (Nat.le_of_ble_eq_true rfl) rfl dX5_renew_25 ?_
    refine am_aload_n rfl dX5_renew_28 ?_
    refine am_iconst (v := 0) (by decide) dX5_renew_29 ?_
    refine am_puti (j := 4) (by decide) rfl rfl rfl hTX5 tyX5_ok nmX5 (by decide) fl_X5_21 rfl rfl rfl rfl dX5_renew_30 ?_
    refine am_bipush (v := (-4)) (by decide) dX5_renew_33 ?_
    refine am_istore_n (by decide) dX5_renew_35 ?_
    refine lp_X5_renew1_7 ad M hR sb hsb 9 (-4) _ sl_0 (by omega) (by omega) ⟨fun x hx => ?_, fun x t s hx => ?_, fun i hi => absurd hi (Nat.not_lt_zero _), ?_⟩ sl_ok_0 ?_ ?_ (fun q p1 p2 p3 p4 => ?_) rfl
    · rw [am_put_ne _ _ _ _ (show (8 : Nat) ≠ 7 by decide), am_row_at, if_pos hx]
      rfl
    · cases hx
    · rw [am_rd]
      rfl
    · rw [am_rd, if_neg (by decide), am_row_ne _ _ _ (by decide), am_rd]
      rfl
    · rw [am_rd, if_neg (by decide), am_row_ne _ _ _ (by decide), am_rd]
      rfl
    · rw [am_put_ne _ _ _ _ p1, am_row_ne _ _ _ p2, am_put_ne _ _ _ _ p1]
  · refine am_vret rfl dX5_renew_11 ?_
    exact ⟨rfl, hS (by first | exact h8 | exact h8.symm), by first | exact h8 | exact h8.symm, rfl, fun _ _ _ _ _ => rfl⟩
set_option maxRecDepth 100000 in
set_option maxHeartbeats 400000 in
theorem lp_X5_renew2_11 (ad : Nat → Nat) (M : am_M) (hR : am_RI M) (sb : Bool) (hsb : M 11 0 = bI sb) : ∀ (z j : Nat) (N : am_M), 117 - j < z → j ≤ (sl_Tm M sb j).2.2 → sl_RC 11 N (sl_Tm M sb j) → N 11 5 = M 1 8 → N 11 0 = M 11 0 → (∀ a, a ≠ 11 → a ≠ 12 → a ≠ 13 → a ≠ 14 → N a = M a) → am_W ydX5_renew ad am_II (fun r N => r = none ∧ sl_at 11 M N sb) 69 [some (.ref (ad 11)), some (.ref (ad 1)), some (.int (nI j))] [] N := by
  intro z
  induction z with
  | zero => intro j N hz; omega
  | succ z ih =>
    intro j N hz hj hRC hv h0 hf
    have hok := sl_Tm_ok hR sb j
    have hle := hok.le
    have e1 : N 1 = M 1 := hf 1 (by decide) (by decide) (by decide) (by decide)
    have eT : sl_T (am_V N) (am_Ac N) (am_J N) (am_E N sb) = sl_Tm M sb := sl_Tm_cong e1 (hf 2 (by decide) (by decide) (by decide) (by decide)) (hf 3 (by decide) (by decide) (by decide) (by decide)) sb
    refine am_iload_n rfl dX5_renew_69 ?_
    refine am_aload_n rfl dX5_renew_70 ?_
    refine am_geti (j := 4) (by decide) rfl rfl rfl hTX5 (by decide) fl_X5_21 dX5_renew_71 ?_
    refine am_icmp_ge (tgt := 105) (by decide) dX5_renew_74 (fun h74 => ?_) (fun h74 => ?_)
    · refine am_vret rfl dX5_renew_105 ?_
      have hend : j = (sl_Tm M sb j).2.2 := by
        first
        | (rw [hRC.2.2.2] at h74; simp only [Int32.le_iff_toInt_le, nI_e] at h74; omega)
      exact ⟨rfl, by rw [sl_Tm_fin hR hend]; exact hRC, hv, h0, hf⟩
    · have hlt : j < (sl_Tm M sb j).2.2 := by (rw [hRC.2.2.2] at h74; simp only [Int32.le_iff_toInt_le, nI_e] at h74; omega)
      obtain ⟨hx, tj, sj, hdj, -⟩ := hok.1 j hlt
      refine am_aload_n rfl dX5_renew_77 ?_
      refine am_getr (j := 3) (by decide) rfl rfl rfl hTX5 (by decide) fl_X5_18 dX5_renew_78 ?_
      refine am_iload_n rfl dX5_renew_81 ?_
      refine am_callNi (c_X6_isIndexOf ad N 14 117 (nI j) (by decide) rfl (by decide) (vp_in_nI (by omega) (by omega))) okX6_isIndexOf ml_X5_36 rfl ⟨by decide, by decide⟩ (Nat.le_of_ble_eq_true rfl) rfl dX5_renew_82 ?_
      refine am_ifb_eq (tgt := 105) (by decide) dX5_renew_85 (fun h85 => ?_) (fun h85 => ?_)
      · cases h85
      · refine am_aload_n rfl dX5_renew_88 ?_
        refine am_aload_n rfl dX5_renew_89 ?_
        refine am_aload_n rfl dX5_renew_90 ?_
        refine am_getr (j := 3) (by decide) rfl rfl rfl hTX5 (by decide) fl_X5_18 dX5_renew_91 ?_
        refine am_iload_n rfl dX5_renew_94 ?_
        refine am_iald (by decide) rfl (vp_in_nI (by omega) (by omega)) dX5_renew_95 ?_
        rw [nI_clamp (by omega), hRC.2.2.1 j hlt]
        refine am_callV (c_X5_lookBehind_11 ad N (sl_Tm M sb j) ((sl_Tm M sb j).2.1 j) tj sj sb (hR.cong e1) (by rw [h0, hsb]) hRC hok hx hdj) okX5_lookBehind ml_X5_74 (by decide) rfl rfl rfl ⟨by decide, by decide⟩ (Nat.le_of_ble_eq_true rfl) rfl dX5_renew_96 (fun r96 N96 p96 => ?_)
        obtain ⟨rfl, hRC1, hfr1⟩ := p96
        refine am_iinc (v := nI (j + 1)) rfl (nI_inc j) (by decide) dX5_renew_99 ?_
        refine am_goto (tgt := 69) (by decide) dX5_renew_102 ?_
        have hnew : sl_Tm M sb (j + 1) = sl_proc (am_V N) (am_Ac N) (am_J N) (am_E N sb) (sl_Tm M sb j) ((sl_Tm M sb j).2.1 j) := by
          rw [← eT] at hlt ⊢
          rw [sl_T, if_pos hlt]
        rw [← hnew] at hRC1
        have hle2 := (sl_proc_ok (J := am_J N) (E := am_E N sb) (hR.cong e1).V.1 (hR.cong e1).V.2 hok hx hdj).2
        rw [← hnew] at hle2
        exact ih (j + 1) _ (by omega) (by have := hle2.1; omega) hRC1 ((hfr1.2 5 (by decide)).trans hv) ((hfr1.2 0 (by decide)).trans h0) (fun a p1 p2 p3 p4 => (hfr1.1 a p1 p2 p3 p4).trans (hf a p1 p2 p3 p4))
set_option maxRecDepth 100000 in
set_option maxHeartbeats 400000 in
theorem lp_X5_renew1_11 (ad : Nat → Nat) (M : am_M) (hR : am_RI M) (sb : Bool) (hsb : M 11 0 = bI sb) : ∀ (n : Nat) (a : Int) (N : am_M) (B : sl_B), a + n = 5 → -4 ≤ a → sl_RC 11 N B → sl_ok B → N 11 5 = M 1 8 → N 11 0 = M 11 0 → (∀ q, q ≠ 11 → q ≠ 12 → q ≠ 13 → q ≠ 14 → N q = M q) → sl_foldc (sl_rest (am_Ac M) (am_J M)) (fun a => sx 0 a) 0 0 n a B = sl_init (am_Ac M) (am_J M) → am_W ydX5_renew ad am_II (fun r N => r = none ∧ sl_at 11 M N sb) 36 [some (.ref (ad 11)), some (.ref (ad 1)), some (.int (iN a))] [] N := by
  intro n
  induction n with
  | zero =>
    intro a N B ha h4 hRC hok hv h0 hf he
    refine am_iload_n rfl dX5_renew_36 ?_
    refine am_iconst (v := 4) (by decide) dX5_renew_37 ?_
    refine am_icmp_gt (tgt := 67) (by decide) dX5_renew_38 (fun h => ?_) (fun h => (by exfalso; simp only [Int32.lt_iff_toInt_lt, iN_e, kI_4] at h; omega))
    rw [sl_foldc] at he
    subst he
    refine am_iconst (v := 0) (by decide) dX5_renew_67 ?_
    refine am_istore_n (by decide) dX5_renew_68 ?_
    exact lp_X5_renew2_11 ad M hR sb hsb 118 0 N (by omega) (Nat.zero_le _) hRC hv h0 hf
  | succ n ih =>
    intro a N B ha h4 hRC hok hv h0 hf he
    have e1 : N 1 = M 1 := hf 1 (by decide) (by decide) (by decide) (by decide)
    have hR' : am_RI N := hR.cong e1
    have er := am_rest_iff hR' (a := a) (by omega) (by omega)
    have eA : am_Ac N = am_Ac M := by unfold am_Ac; rw [e1]
    have eJ : am_J N = am_J M := by unfold am_J; rw [e1]
    rw [eA, eJ] at er
    rw [sl_foldc] at he
    refine am_iload_n rfl dX5_renew_36 ?_
    refine am_iconst (v := 4) (by decide) dX5_renew_37 ?_
    refine am_icmp_gt (tgt := 67) (by decide) dX5_renew_38 (fun h => (by exfalso; simp only [Int32.lt_iff_toInt_lt, iN_e, kI_4] at h; omega)) (fun h => ?_)
    refine am_aload_n rfl dX5_renew_41 ?_
    refine am_iconst (v := 0) (by decide) dX5_renew_42 ?_
    refine am_iload_n rfl dX5_renew_43 ?_
    refine am_callVi (c_X4_isRest ad N _ _) okX4_isRest ml_X5_66 (by decide) rfl rfl rfl ⟨by decide, by decide⟩ (Nat.le_of_ble_eq_true rfl) rfl dX5_renew_44 ?_
    refine am_ifb_eq (tgt := 61) (by decide) dX5_renew_47 (fun h47 => ?_) (fun h47 => ?_)
    · refine am_iinc rfl rfl (by decide) dX5_renew_61 ?_
      refine am_goto (tgt := 36) (by decide) dX5_renew_64 ?_
      first
      | (rw [if_neg (by unfold sl_rest; rw [decide_eq_true_eq]; exact fun q => by rw [er.mpr q] at h47; cases h47)] at he; exact am_eq (by rw [iN_inc]; rfl) rfl rfl (ih (a + 1) N B (by omega) (by omega) hRC hok hv h0 hf he))
      | (rw [if_pos (by unfold sl_rest; rw [decide_eq_true_eq]; exact er.mp h47)] at he; exact am_eq (by rw [iN_inc]; rfl) rfl rfl (ih (a + 1) _ _ (by omega) (by omega) hRC1 (sl_push_ok hok hix (Nat.zero_le _) (Nat.zero_le _)) ((hfr1.2 5 (by decide)).trans hv) ((hfr1.2 0 (by decide)).trans h0) (fun q p1 p2 p3 p4 => (hfr1.1 q p1 p2 p3 p4).trans (hf q p1 p2 p3 p4)) he))
    · refine am_aload_n rfl dX5_renew_50 ?_
      refine am_iconst (v := 0) (by decide) dX5_renew_51 ?_
      refine am_iload_n rfl dX5_renew_52 ?_
      refine am_callNi (c_X6_stateNumber ad N 0 (iN a)) okX6_stateNumber ml_X5_32 rfl ⟨by decide, by decide⟩ (Nat.le_of_ble_eq_true rfl) rfl dX5_renew_53 ?_
      rw [show sp_num 0 (iN a) = nI (sx 0 a) from sp_num_e (v := 0) (by omega) (by omega) (by omega) (by omega)]
      have hix : sx 0 a < 117 := (sx_lt (v := 0) (by omega) (by omega) (by omega) (by omega)).1
      refine am_iconst (v := 0) (by decide) dX5_renew_56 ?_
      refine am_iconst (v := 0) (by decide) dX5_renew_57 ?_
      refine am_callV (c_X5_find_11 ad N B (sx 0 a) 0 0 hRC hok hix (by omega) (by omega)) okX5_find ml_X5_70 (by decide) rfl rfl rfl ⟨by decide, by decide⟩ (Nat.le_of_ble_eq_true rfl) rfl dX5_renew_58 (fun r58 N58 p58 => ?_)
      obtain ⟨rfl, hRC1, hfr1⟩ := p58
      refine am_iinc rfl rfl (by decide) dX5_renew_61 ?_
      refine am_goto (tgt := 36) (by decide) dX5_renew_64 ?_
      first
      | (rw [if_neg (by unfold sl_rest; rw [decide_eq_true_eq]; exact fun q => by rw [er.mpr q] at h47; cases h47)] at he; exact am_eq (by rw [iN_inc]; rfl) rfl rfl (ih (a + 1) N B (by omega) (by omega) hRC hok hv h0 hf he))
      | (rw [if_pos (by unfold sl_rest; rw [decide_eq_true_eq]; exact er.mp h47)] at he; exact am_eq (by rw [iN_inc]; rfl) rfl rfl (ih (a + 1) _ _ (by omega) (by omega) hRC1 (sl_push_ok hok hix (Nat.zero_le _) (Nat.zero_le _)) ((hfr1.2 5 (by decide)).trans hv) ((hfr1.2 0 (by decide)).trans h0) (fun q p1 p2 p3 p4 => (hfr1.1 q p1 p2 p3 p4).trans (hf q p1 p2 p3 p4)) he))
set_option maxRecDepth 100000 in
set_option maxHeartbeats 400000 in
theorem c_X5_renew_11 (ad : Nat → Nat) (M : am_M) (sb : Bool) (hR : am_RI M) (hsb : M 11 0 = bI sb) (hS : M 11 5 = M 1 8 → sl_RC 11 M (sl_fin M sb)) : am_C ydX5_renew ad am_II [.ref (ad 11), .ref (ad 1)] M (fun r N => r = none ∧ sl_at 11 M N sb) := by
  refine am_ofW (L := [some (.ref (ad 11)), some (.ref (ad 1)), none]) (by decide +kernel) (by simp [Value.category]) (Nat.le_of_ble_eq_true rfl) rfl ?_
  refine am_aload_n rfl dX5_renew_0 ?_
  refine am_geti (j := 5) (by decide) rfl rfl rfl hTX5 (by decide) fl_X5_25 dX5_renew_1 ?_
  refine am_aload_n rfl dX5_renew_4 ?_
  refine am_geti (j := 8) (by decide) rfl rfl rfl hTX4 (by decide) fl_X5_59 dX5_renew_5 ?_
  refine am_icmp_ne (tgt := 12) (by decide) dX5_renew_8 (fun h8 => ?_) (fun h8 => ?_)
  · refine am_aload_n rfl dX5_renew_12 ?_
    refine am_aload_n rfl dX5_renew_13 ?_
    refine am_geti (j := 8) (by decide) rfl rfl rfl hTX4 (by decide) fl_X5_59 dX5_renew_14 ?_
    refine am_puti (j := 5) (by decide) rfl rfl rfl hTX5 tyX5_ok nmX5 (by decide) fl_X5_25 rfl rfl rfl rfl dX5_renew_17 ?_
    refine am_aload_n rfl dX5_renew_20 ?_
    refine am_getr (j := 1) (by decide) rfl rfl rfl hTX5 (by decide) fl_X5_9 dX5_renew_21 ?_
    refine am_iconst (v := (-1)) (by decide) dX5_renew_24 ?_
    refine am_callSv (c_J7_fill ad am_II 12 117 (by decide) rfl (by omega) _ _) okJ7_fill_53178 ml_X5_60 rfl ⟨by decide, by decide⟩ (Nat.le_of_ble_eq_true rfl) rfl dX5_renew_25 ?_
    refine am_aload_n rfl dX5_renew_28 ?_
    refine am_iconst (v := 0) (by decide) dX5_renew_29 ?_
    refine am_puti (j := 4) (by decide) rfl rfl rfl hTX5 tyX5_ok nmX5 (by decide) fl_X5_21 rfl rfl rfl rfl dX5_renew_30 ?_
    refine am_bipush (v := (-4)) (by decide) dX5_renew_33 ?_
    refine am_istore_n (by decide) dX5_renew_35 ?_
    refine lp_X5_renew1_11 ad M hR sb hsb 9 (-4) _ sl_0 (by omega) (by omega) ⟨fun x hx => ?_, fun x t s hx => ?_, fun i hi => absurd hi (Nat.not_lt_zero _), ?_⟩ sl_ok_0 ?_ ?_ (fun q p1 p2 p3 p4 => ?_) rfl
    · rw [am_put_ne _ _ _ _ (show (12 : Nat) ≠ 11 by decide), am_row_at, if_pos hx]
      rfl
    · cases hx
    · rw [am_rd]
      rfl
    · rw [am_rd, if_neg (by decide), am_row_ne _ _ _ (by decide), am_rd]
      rfl
    · rw [am_rd, if_neg (by decide), am_row_ne _ _ _ (by decide), am_rd]
      rfl
    · rw [am_put_ne _ _ _ _ p1, am_row_ne _ _ _ p2, am_put_ne _ _ _ _ p1]
  · refine am_vret rfl dX5_renew_11 ?_
    exact ⟨rfl, hS (by first | exact h8 | exact h8.symm), by first | exact h8 | exact h8.symm, rfl, fun _ _ _ _ _ => rfl⟩
/-- what holds of both Slowings at any time -/
def sl_I (M : am_M) : Prop := (M 7 0 = 1 ∧ (M 7 5 = M 1 8 → sl_RC 7 M (sl_fin M true))) ∧ M 11 0 = 0 ∧ (M 11 5 = M 1 8 → sl_RC 11 M (sl_fin M false))
/-- the safe rows are taken -/
def sl_saf (M : am_M) (v a : Int) : Prop := ¬ M 1 7 = 0 ∧ (sl_fin M true).1 (sx v a) ≠ none
def sl_mv (M N : am_M) : Prop := sl_I N ∧ (N 7 5 = M 7 5 ∨ N 7 5 = M 1 8) ∧ (N 11 5 = M 11 5 ∨ N 11 5 = M 1 8) ∧ ∀ a, (a < 7 ∨ 14 < a) → N a = M a
theorem sl_RC_cong {k : Nat} {M N : am_M} {B : sl_B} (h : sl_RC k M B) (h0 : N k = M k) (h1 : N (k + 1) = M (k + 1)) (h2 : N (k + 2) = M (k + 2)) (h3 : N (k + 3) = M (k + 3)) : sl_RC k N B := by
  unfold sl_RC
  rw [h0, h1, h2, h3]
  exact h
theorem sl_mv_7 {M N : am_M} (hI : sl_I M) (h : sl_at 7 M N true) : sl_mv M N ∧ N 7 5 = M 1 8 := by
  obtain ⟨h1, h2, h3, h4⟩ := h
  have e1 : N 1 = M 1 := h4 1 (by decide) (by decide) (by decide) (by decide)
  have ef : ∀ sb, sl_fin N sb = sl_fin M sb := sl_fin_cong e1 (h4 2 (by decide) (by decide) (by decide) (by decide)) (h4 3 (by decide) (by decide) (by decide) (by decide))
  refine ⟨⟨⟨⟨h3.trans hI.1.1, fun _ => by rw [ef]; exact h1⟩, by rw [h4 11 (by decide) (by decide) (by decide) (by decide)]; exact hI.2.1, fun q => ?_⟩, Or.inr h2, Or.inl (by rw [h4 11 (by decide) (by decide) (by decide) (by decide)]), fun a ha => h4 a (by omega) (by omega) (by omega) (by omega)⟩, h2⟩
  rw [ef]
  rw [h4 11 (by decide) (by decide) (by decide) (by decide), e1] at q
  exact sl_RC_cong (hI.2.2 q) (h4 _ (by decide) (by decide) (by decide) (by decide)) (h4 _ (by decide) (by decide) (by decide) (by decide)) (h4 _ (by decide) (by decide) (by decide) (by decide)) (h4 _ (by decide) (by decide) (by decide) (by decide))
theorem sl_mv_11 {M N : am_M} (hI : sl_I M) (h : sl_at 11 M N false) : sl_mv M N ∧ N 11 5 = M 1 8 := by
  obtain ⟨h1, h2, h3, h4⟩ := h
  have e1 : N 1 = M 1 := h4 1 (by decide) (by decide) (by decide) (by decide)
  have ef : ∀ sb, sl_fin N sb = sl_fin M sb := sl_fin_cong e1 (h4 2 (by decide) (by decide) (by decide) (by decide)) (h4 3 (by decide) (by decide) (by decide) (by decide))
  refine ⟨⟨⟨⟨by rw [h4 7 (by decide) (by decide) (by decide) (by decide)]; exact hI.1.1, fun q => ?_⟩, h3.trans hI.2.1, fun _ => by rw [ef]; exact h1⟩, Or.inl (by rw [h4 7 (by decide) (by decide) (by decide) (by decide)]), Or.inr h2, fun a ha => h4 a (by omega) (by omega) (by omega) (by omega)⟩, h2⟩
  rw [ef]
  rw [h4 7 (by decide) (by decide) (by decide) (by decide), e1] at q
  exact sl_RC_cong (hI.1.2 q) (h4 _ (by decide) (by decide) (by decide) (by decide)) (h4 _ (by decide) (by decide) (by decide) (by decide)) (h4 _ (by decide) (by decide) (by decide) (by decide)) (h4 _ (by decide) (by decide) (by decide) (by decide))
theorem sl_mv.tr {M N K : am_M} (h : sl_mv M N) (g : sl_mv N K) : sl_mv M K := by
  have e1 : N 1 = M 1 := h.2.2.2 1 (by omega)
  refine ⟨g.1, ?_, ?_, fun a ha => (g.2.2.2 a ha).trans (h.2.2.2 a ha)⟩
  · rcases g.2.1 with q | q
    · rw [q]; exact h.2.1
    · rw [q, e1]; exact Or.inr rfl
  · rcases g.2.2.1 with q | q
    · rw [q]; exact h.2.2.1
    · rw [q, e1]; exact Or.inr rfl
theorem sl_mv.rf {M : am_M} (h : sl_I M) : sl_mv M M := ⟨h, Or.inl rfl, Or.inl rfl, fun _ _ => rfl⟩
theorem sl_mv.fin {M N : am_M} (h : sl_mv M N) (sb : Bool) : sl_fin N sb = sl_fin M sb := sl_fin_cong (h.2.2.2 1 (by omega)) (h.2.2.2 2 (by omega)) (h.2.2.2 3 (by omega)) sb
set_option maxRecDepth 100000 in
set_option maxHeartbeats 400000 in
theorem c_X6_slowingsFrom (ad : Nat → Nat) (M : am_M) (v a : Int) (hR : am_RI M) (hI : sl_I M) (h1 : 0 ≤ v) (h2 : v ≤ 12) (h3 : -4 ≤ a) (h4 : a ≤ 4) : am_C ydX6_slowingsFrom ad am_II [.ref (ad 0), .int (iN v), .int (iN a)] M (fun r N => sl_mv M N ∧ ((r = some (.ref (ad 7)) ∧ sl_saf M v a ∧ N 7 5 = M 1 8) ∨ (r = some (.ref (ad 11)) ∧ ¬ sl_saf M v a ∧ N 11 5 = M 1 8))) := by
  refine am_ofW (L := [some (.ref (ad 0)), some (.int (iN v)), some (.int (iN a))]) (by decide +kernel) (by simp [Value.category]) (Nat.le_of_ble_eq_true rfl) rfl ?_
  refine am_aload_n rfl dX6_slowingsFrom_0 ?_
  refine am_getr (j := 0) (by decide) rfl rfl rfl hTX6 (by decide) fl_X6_12 dX6_slowingsFrom_1 ?_
  refine am_geti (j := 7) (by decide) rfl rfl rfl hTX4 (by decide) fl_X6_89 dX6_slowingsFrom_4 ?_
  refine am_if_eq (tgt := 39) (by decide) dX6_slowingsFrom_7 (fun h7 => ?_) (fun h7 => ?_)
  · first | have HM := hm7 | have HM := sl_mv.rf hI
    refine am_aload_n rfl dX6_slowingsFrom_39 ?_
    refine am_getr (j := 3) (by decide) rfl rfl rfl hTX6 (by decide) fl_X6_32 dX6_slowingsFrom_40 ?_
    refine am_aload_n rfl dX6_slowingsFrom_43 ?_
    refine am_getr (j := 0) (by decide) rfl rfl rfl hTX6 (by decide) fl_X6_12 dX6_slowingsFrom_44 ?_
    refine am_callV (c_X5_renew_11 ad _ false (hR.cong (HM.2.2.2 1 (by omega))) HM.1.2.1 HM.1.2.2) okX5_renew ml_X6_224 (by decide) rfl rfl rfl ⟨by decide, by decide⟩ (Nat.le_of_ble_eq_true rfl) rfl dX6_slowingsFrom_47 (fun r47 N47 p47 => ?_)
    obtain ⟨rfl, hat11⟩ := p47
    obtain ⟨hm11, hv11⟩ := sl_mv_11 HM.1 hat11
    refine am_aload_n rfl dX6_slowingsFrom_50 ?_
    refine am_getr (j := 3) (by decide) rfl rfl rfl hTX6 (by decide) fl_X6_32 dX6_slowingsFrom_51 ?_
    refine am_aret rfl (Or.inr ⟨_, rfl⟩) dX6_slowingsFrom_54 ?_
    first
    | exact ⟨hm7, Or.inl ⟨rfl, ⟨h7, fun e => h31 (by rw [e]; rfl)⟩, hv7⟩⟩
    | exact ⟨HM.tr hm11, Or.inr ⟨rfl, fun q => by first | exact q.1 h7 | exact q.2 ((sl_enc_none (sl_fin_ok hR true) _).mp h31), by rw [hv11, HM.2.2.2 1 (by omega)]⟩⟩
  · refine am_aload_n rfl dX6_slowingsFrom_10 ?_
    refine am_getr (j := 2) (by decide) rfl rfl rfl hTX6 (by decide) fl_X6_28 dX6_slowingsFrom_11 ?_
    refine am_aload_n rfl dX6_slowingsFrom_14 ?_
    refine am_getr (j := 0) (by decide) rfl rfl rfl hTX6 (by decide) fl_X6_12 dX6_slowingsFrom_15 ?_
    refine am_callV (c_X5_renew_7 ad M true hR hI.1.1 hI.1.2) okX5_renew ml_X6_224 (by decide) rfl rfl rfl ⟨by decide, by decide⟩ (Nat.le_of_ble_eq_true rfl) rfl dX6_slowingsFrom_18 (fun r18 N18 p18 => ?_)
    obtain ⟨rfl, hat7⟩ := p18
    obtain ⟨hm7, hv7⟩ := sl_mv_7 hI hat7
    refine am_aload_n rfl dX6_slowingsFrom_21 ?_
    refine am_getr (j := 2) (by decide) rfl rfl rfl hTX6 (by decide) fl_X6_28 dX6_slowingsFrom_22 ?_
    refine am_iload_n rfl dX6_slowingsFrom_25 ?_
    refine am_iload_n rfl dX6_slowingsFrom_26 ?_
    refine am_callVi (c_X5_ticksFrom_7 ad _ v a h1 h2 h3 h4) okX5_ticksFrom ml_X6_112 (by decide) rfl rfl rfl ⟨by decide, by decide⟩ (Nat.le_of_ble_eq_true rfl) rfl dX6_slowingsFrom_27 ?_
    rw [hat7.1.1 _ (sx_lt h1 h2 h3 h4).1]
    refine am_iconst (v := (-1)) (by decide) dX6_slowingsFrom_30 ?_
    refine am_icmp_eq (tgt := 39) (by decide) dX6_slowingsFrom_31 (fun h31 => ?_) (fun h31 => ?_)
    · first | have HM := hm7 | have HM := sl_mv.rf hI
      refine am_aload_n rfl dX6_slowingsFrom_39 ?_
      refine am_getr (j := 3) (by decide) rfl rfl rfl hTX6 (by decide) fl_X6_32 dX6_slowingsFrom_40 ?_
      refine am_aload_n rfl dX6_slowingsFrom_43 ?_
      refine am_getr (j := 0) (by decide) rfl rfl rfl hTX6 (by decide) fl_X6_12 dX6_slowingsFrom_44 ?_
      refine am_callV (c_X5_renew_11 ad _ false (hR.cong (HM.2.2.2 1 (by omega))) HM.1.2.1 HM.1.2.2) okX5_renew ml_X6_224 (by decide) rfl rfl rfl ⟨by decide, by decide⟩ (Nat.le_of_ble_eq_true rfl) rfl dX6_slowingsFrom_47 (fun r47 N47 p47 => ?_)
      obtain ⟨rfl, hat11⟩ := p47
      obtain ⟨hm11, hv11⟩ := sl_mv_11 HM.1 hat11
      refine am_aload_n rfl dX6_slowingsFrom_50 ?_
      refine am_getr (j := 3) (by decide) rfl rfl rfl hTX6 (by decide) fl_X6_32 dX6_slowingsFrom_51 ?_
      refine am_aret rfl (Or.inr ⟨_, rfl⟩) dX6_slowingsFrom_54 ?_
      first
      | exact ⟨hm7, Or.inl ⟨rfl, ⟨h7, fun e => h31 (by rw [e]; rfl)⟩, hv7⟩⟩
      | exact ⟨HM.tr hm11, Or.inr ⟨rfl, fun q => by first | exact q.1 h7 | exact q.2 ((sl_enc_none (sl_fin_ok hR true) _).mp h31), by rw [hv11, HM.2.2.2 1 (by omega)]⟩⟩
    · refine am_aload_n rfl dX6_slowingsFrom_34 ?_
      refine am_getr (j := 2) (by decide) rfl rfl rfl hTX6 (by decide) fl_X6_28 dX6_slowingsFrom_35 ?_
      refine am_aret rfl (Or.inr ⟨_, rfl⟩) dX6_slowingsFrom_38 ?_
      first
      | exact ⟨hm7, Or.inl ⟨rfl, ⟨h7, fun e => h31 (by rw [e]; rfl)⟩, hv7⟩⟩
      | exact ⟨HM.tr hm11, Or.inr ⟨rfl, fun q => by first | exact q.1 h7 | exact q.2 ((sl_enc_none (sl_fin_ok hR true) _).mp h31), by rw [hv11, HM.2.2.2 1 (by omega)]⟩⟩

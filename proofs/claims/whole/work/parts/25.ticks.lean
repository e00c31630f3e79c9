def sp_follow' (M : am_M) (k : Nat) (s : Bool) : am_M := sp_follow M k (M 15 0) (M 15 1) s
def sp_step (M : am_M) (b : Int32) : am_M := sp_follow' (sp_follow' (sp_follow' (sp_mTick M (M 15 2 + b) b (sp_safe M (M 15 2 + b) b)) 16 (sp_safe M (M 15 2 + b) b)) 17 (sp_safe M (M 15 2 + b) b)) 18 (sp_safe M (M 15 2 + b) b)
def sp_tt (M : am_M) : am_M := if iN (sp_next M) = 5 then sp_mEnd M else sp_step M (iN (sp_next M))
theorem sp_follow_ne (M : am_M) (k : Nat) (n m : Int32) (s : Bool) {a : Nat} (h : a ≠ k) : sp_follow M k n m s a = M a := by
  unfold sp_follow
  rw [am_put_ne _ _ _ _ h]
  split
  · rw [am_put_ne _ _ _ _ h, am_put_ne _ _ _ _ h]
  · rw [am_put_ne _ _ _ _ h]
theorem sp_mMiss_ne (M : am_M) (w : Int32) (s : Bool) {a : Nat} (h : a ≠ 15) : sp_mMiss M w s a = M a := by
  unfold sp_mMiss
  split
  · rw [am_put_ne _ _ _ _ h, am_put_ne _ _ _ _ h]
  · rfl
theorem sp_mTick_ne (M : am_M) (w b : Int32) (s : Bool) {a : Nat} (h : a ≠ 15) : sp_mTick M w b s a = M a := by
  unfold sp_mTick
  rw [am_put_ne _ _ _ _ h, am_put_ne _ _ _ _ h, am_put_ne _ _ _ _ h, am_put_ne _ _ _ _ h, am_put_ne _ _ _ _ h, sp_mMiss_ne _ _ _ h]
theorem sp_mMiss_15 (M : am_M) (w : Int32) (s : Bool) {j : Nat} (h5 : j ≠ 5) (h6 : j ≠ 6) : sp_mMiss M w s 15 j = M 15 j := by
  unfold sp_mMiss
  split
  · simp [am_rd, h5, h6]
  · rfl
theorem sp_mTick_0 (M : am_M) (w b : Int32) (s : Bool) : sp_mTick M w b s 15 0 = M 15 0 := by
  simp [sp_mTick, am_rd, sp_mMiss_15]
theorem sp_mTick_2 (M : am_M) (w b : Int32) (s : Bool) : sp_mTick M w b s 15 2 = w ∧ sp_mTick M w b s 15 3 = b ∧ sp_mTick M w b s 15 1 = M 15 1 + w ∧ sp_mTick M w b s 15 7 = M 15 7 ∧ sp_mTick M w b s 15 8 = M 15 8 ∧ sp_mTick M w b s 15 9 = M 15 9 - 1 ∧ sp_mTick M w b s 15 4 = M 15 4 + 1 := by
  refine ⟨?_, ?_, ?_, ?_, ?_, ?_, ?_⟩ <;> simp [sp_mTick, am_rd, sp_mMiss_15]
theorem sp_step_15 (M : am_M) (b : Int32) : sp_step M b 15 = sp_mTick M (M 15 2 + b) b (sp_safe M (M 15 2 + b) b) 15 := by
  unfold sp_step sp_follow'
  rw [sp_follow_ne _ _ _ _ _ (by decide), sp_follow_ne _ _ _ _ _ (by decide), sp_follow_ne _ _ _ _ _ (by decide)]
theorem sp_step_ne (M : am_M) (b : Int32) {a : Nat} (h : a < 15 ∨ 18 < a) : sp_step M b a = M a := by
  unfold sp_step sp_follow'
  rw [sp_follow_ne _ _ _ _ _ (by omega), sp_follow_ne _ _ _ _ _ (by omega), sp_follow_ne _ _ _ _ _ (by omega), sp_mTick_ne _ _ _ _ (by omega)]
theorem sp_mEnd_ne (M : am_M) {a : Nat} (h : a ≠ 15) : sp_mEnd M a = M a := by
  unfold sp_mEnd
  rw [am_put_ne _ _ _ _ h]
theorem sp_tt_ne (M : am_M) {a : Nat} (h : a < 15 ∨ 18 < a) : sp_tt M a = M a := by
  unfold sp_tt
  split
  · exact sp_mEnd_ne M (by omega)
  · exact sp_step_ne M _ h
set_option maxRecDepth 100000 in
set_option maxHeartbeats 400000 in
theorem c_X6_takeTick (ad : Nat → Nat) (M : am_M)  (hF : mv_f M) (hb : mv_b M) (hn : (M 15 0).toInt ≤ 1000000000) : am_C ydX6_takeTick ad am_II [.ref (ad 0)] M (am_un (sp_tt M)) := by
  refine am_ofW (L := [some (.ref (ad 0)), none, none, none]) (by decide +kernel) (by simp [Value.category]) (Nat.le_of_ble_eq_true rfl) rfl ?_
  refine am_aload_n rfl dX6_takeTick_0 ?_
  refine am_callVi (c_X6_nextChange ad M hF hb) okX6_nextChange ml_X6_228 (by decide) rfl rfl rfl ⟨by decide, by decide⟩ (Nat.le_of_ble_eq_true rfl) rfl dX6_takeTick_1 ?_
  refine am_istore_n (by decide) dX6_takeTick_4 ?_
  refine am_iload_n rfl dX6_takeTick_5 ?_
  refine am_iconst (v := 5) (by decide) dX6_takeTick_6 ?_
  refine am_icmp_ne (tgt := 18) (by decide) dX6_takeTick_7 (fun h7 => ?_) (fun h7 => ?_)
  · refine am_aload_n rfl dX6_takeTick_18 ?_
    refine am_getr (j := 4) (by decide) rfl rfl rfl hTX6 (by decide) fl_X6_38 dX6_takeTick_19 ?_
    refine am_geti (j := 2) (by decide) rfl rfl rfl hTX2 (by decide) fl_X6_146 dX6_takeTick_22 ?_
    refine am_iload_n rfl dX6_takeTick_25 ?_
    refine am_iadd dX6_takeTick_26 ?_
    refine am_istore_n (by decide) dX6_takeTick_27 ?_
    refine am_aload_n rfl dX6_takeTick_28 ?_
    refine am_getr (j := 0) (by decide) rfl rfl rfl hTX6 (by decide) fl_X6_12 dX6_takeTick_29 ?_
    refine am_iload_n rfl dX6_takeTick_32 ?_
    refine am_iload_n rfl dX6_takeTick_33 ?_
    refine am_callVi (c_X4_isSafe ad _ _ _) okX4_isSafe ml_X6_233 (by decide) rfl rfl rfl ⟨by decide, by decide⟩ (Nat.le_of_ble_eq_true rfl) rfl dX6_takeTick_34 ?_
    refine am_istore_n (by decide) dX6_takeTick_37 ?_
    refine am_aload_n rfl dX6_takeTick_38 ?_
    refine am_getr (j := 4) (by decide) rfl rfl rfl hTX6 (by decide) fl_X6_38 dX6_takeTick_39 ?_
    refine am_iload_n rfl dX6_takeTick_42 ?_
    refine am_iload_n rfl dX6_takeTick_43 ?_
    refine am_iload_n rfl dX6_takeTick_44 ?_
    refine am_callVv (c_X2_takeTick ad M _ _ (sp_safe M (M 15 2 + iN (sp_next M)) (iN (sp_next M)))) okX2_takeTick ml_X6_236 (by decide) rfl rfl rfl ⟨by decide, by decide⟩ (Nat.le_of_ble_eq_true rfl) rfl dX6_takeTick_45 ?_
    refine am_aload_n rfl dX6_takeTick_48 ?_
    refine am_getr (j := 5) (by decide) rfl rfl rfl hTX6 (by decide) fl_X6_45 dX6_takeTick_49 ?_
    refine am_aload_n rfl dX6_takeTick_52 ?_
    refine am_getr (j := 4) (by decide) rfl rfl rfl hTX6 (by decide) fl_X6_38 dX6_takeTick_53 ?_
    refine am_geti (j := 0) (by decide) rfl rfl rfl hTX2 (by decide) fl_X6_172 dX6_takeTick_56 ?_
    refine am_aload_n rfl dX6_takeTick_59 ?_
    refine am_getr (j := 4) (by decide) rfl rfl rfl hTX6 (by decide) fl_X6_38 dX6_takeTick_60 ?_
    refine am_geti (j := 1) (by decide) rfl rfl rfl hTX2 (by decide) fl_X6_169 dX6_takeTick_63 ?_
    refine am_iload_n rfl dX6_takeTick_66 ?_
    refine am_callVv (c_X0_follow_16 ad _ _ _ (sp_safe M (M 15 2 + iN (sp_next M)) (iN (sp_next M))) (by rw [sp_mTick_0]; exact hn)) okX0_follow ml_X6_239 (by decide) rfl rfl rfl ⟨by decide, by decide⟩ (Nat.le_of_ble_eq_true rfl) rfl dX6_takeTick_67 ?_
    refine am_aload_n rfl dX6_takeTick_70 ?_
    refine am_getr (j := 6) (by decide) rfl rfl rfl hTX6 (by decide) fl_X6_49 dX6_takeTick_71 ?_
    refine am_aload_n rfl dX6_takeTick_74 ?_
    refine am_getr (j := 4) (by decide) rfl rfl rfl hTX6 (by decide) fl_X6_38 dX6_takeTick_75 ?_
    refine am_geti (j := 0) (by decide) rfl rfl rfl hTX2 (by decide) fl_X6_172 dX6_takeTick_78 ?_
    refine am_aload_n rfl dX6_takeTick_81 ?_
    refine am_getr (j := 4) (by decide) rfl rfl rfl hTX6 (by decide) fl_X6_38 dX6_takeTick_82 ?_
    refine am_geti (j := 1) (by decide) rfl rfl rfl hTX2 (by decide) fl_X6_169 dX6_takeTick_85 ?_
    refine am_iload_n rfl dX6_takeTick_88 ?_
    refine am_callVv (c_X0_follow_17 ad _ _ _ (sp_safe M (M 15 2 + iN (sp_next M)) (iN (sp_next M))) (by rw [sp_follow_ne _ _ _ _ _ (by decide), sp_mTick_0]; exact hn)) okX0_follow ml_X6_239 (by decide) rfl rfl rfl ⟨by decide, by decide⟩ (Nat.le_of_ble_eq_true rfl) rfl dX6_takeTick_89 ?_
    refine am_aload_n rfl dX6_takeTick_92 ?_
    refine am_getr (j := 7) (by decide) rfl rfl rfl hTX6 (by decide) fl_X6_52 dX6_takeTick_93 ?_
    refine am_aload_n rfl dX6_takeTick_96 ?_
    refine am_getr (j := 4) (by decide) rfl rfl rfl hTX6 (by decide) fl_X6_38 dX6_takeTick_97 ?_
    refine am_geti (j := 0) (by decide) rfl rfl rfl hTX2 (by decide) fl_X6_172 dX6_takeTick_100 ?_
    refine am_aload_n rfl dX6_takeTick_103 ?_
    refine am_getr (j := 4) (by decide) rfl rfl rfl hTX6 (by decide) fl_X6_38 dX6_takeTick_104 ?_
    refine am_geti (j := 1) (by decide) rfl rfl rfl hTX2 (by decide) fl_X6_169 dX6_takeTick_107 ?_
    refine am_iload_n rfl dX6_takeTick_110 ?_
    refine am_callVv (c_X0_follow_18 ad _ _ _ (sp_safe M (M 15 2 + iN (sp_next M)) (iN (sp_next M))) (by rw [sp_follow_ne _ _ _ _ _ (by decide), sp_follow_ne _ _ _ _ _ (by decide), sp_mTick_0]; exact hn)) okX0_follow ml_X6_239 (by decide) rfl rfl rfl ⟨by decide, by decide⟩ (Nat.le_of_ble_eq_true rfl) rfl dX6_takeTick_111 ?_
    refine am_vret rfl dX6_takeTick_114 ?_
    refine ⟨rfl, ?_⟩
    unfold sp_tt
    first | (rw [if_pos h7]; done) | (rw [if_neg h7]; rfl)
  · refine am_aload_n rfl dX6_takeTick_10 ?_
    refine am_getr (j := 4) (by decide) rfl rfl rfl hTX6 (by decide) fl_X6_38 dX6_takeTick_11 ?_
    refine am_callVv (c_X2_end ad _) okX2_end ml_X6_230 (by decide) rfl rfl rfl ⟨by decide, by decide⟩ (Nat.le_of_ble_eq_true rfl) rfl dX6_takeTick_14 ?_
    refine am_vret rfl dX6_takeTick_17 ?_
    refine ⟨rfl, ?_⟩
    unfold sp_tt
    first | (rw [if_pos h7]; done) | (rw [if_neg h7]; rfl)
/-- what a step keeps -/
def mv_ok (M : am_M) : Prop := mv_f M ∧ mv_b M ∧ (M 15 0).toInt ≤ 1000000000
theorem sl_nc_ok {M : am_M} (hR : am_RI M) {F c : Int → Bool} {v a b x : Int} (h1 : 0 ≤ v) (h2 : v ≤ 12) (h3 : -4 ≤ a) (h4 : a ≤ 4) {sb : Bool} (hx : x = b) (hc : ∀ b, c b = true → sp_mayEnd M (iN (v + b)) (iN b) sb = true) (e : rn_s c (bf_n (am_Ac M) (am_J M) a) (bf_hi (am_Ac M) (am_J M) a) = b) (hb : b ≠ 5) : (-4 ≤ b ∧ b ≤ 4 ∧ 0 ≤ v + b ∧ v + b ≤ 12) ∧ c b = true ∧ bf_lo (am_Ac M) (am_J M) a ≤ b ∧ b ≤ bf_hi (am_Ac M) (am_J M) a := by
  have hq : am_V M = (M 1 0).toInt ∧ am_Ac M = (M 1 1).toInt ∧ am_J M = (M 1 2).toInt := ⟨rfl, rfl, rfl⟩
  have hq2 := hR
  unfold am_RI at hq2
  obtain ⟨p1, p2, p3⟩ := rn_s_in _ _ _ e hb
  have p4 : bf_lo (am_Ac M) (am_J M) a ≤ b := by (unfold bf_n at p1; omega)
  have p5 : -4 ≤ b := by (unfold bf_lo at p4; omega)
  have p6 : b ≤ 4 := by (unfold bf_hi at p2; omega)
  have p7 := hc b p3
  simp only [sp_mayEnd, decide_eq_true_eq] at p7
  have p9 := (am_state_iff hR (v := v + b) (a := b) (by omega) (by omega) (by omega) (by omega)).mp p7.1
  exact ⟨⟨p5, p6, by omega, by omega⟩, p3, p4, p2⟩
theorem sp_next_ok {M : am_M} (h : mv_ok M) (h5 : sp_next M ≠ 5) : -4 ≤ sp_next M ∧ sp_next M ≤ 4 ∧ 0 ≤ (M 15 2).toInt + sp_next M ∧ (M 15 2).toInt + sp_next M ≤ 12 ∧ (M 15 7 = 0 → 0 ≤ (M 15 0 - M 15 1).toInt - ((M 15 2).toInt + sp_next M) ∧ (M 15 0 - M 15 1).toInt - ((M 15 2).toInt + sp_next M) ≤ 200) := by
  obtain ⟨⟨hR, -⟩, ⟨b1, b2, b3, b4, b5⟩, -⟩ := h
  by_cases q : M 15 7 = 0
  · have e : sp_next M = rp_nc M (M 15 2).toInt (M 15 3).toInt (M 15 0 - M 15 1).toInt := by unfold sp_next; rw [if_pos q]
    rw [e] at h5 ⊢
    have h9 := rp_nc_ok hR b1 b2 b3 b4 (b5 q).1 (b5 q).2 h5
    exact ⟨h9.1, h9.2.1, h9.2.2.1, h9.2.2.2.1, fun _ => ⟨h9.2.2.2.2.1, h9.2.2.2.2.2.1⟩⟩
  · by_cases q2 : M 15 8 = 0
    · have e : sp_next M = sl_nc_11 M (M 15 2).toInt (M 15 3).toInt := by unfold sp_next; rw [if_neg q, if_pos q2]
      rw [e] at h5 ⊢
      unfold sl_nc_11 at h5 ⊢
      split at h5
      · exact absurd rfl h5
      · rename_i q3
        rw [if_neg q3]
        have h9 := sl_nc_ok (F := bf_yes) hR b1 b2 b3 b4 rfl (sb := decide (¬ M 11 0 = 0)) (fun b hb => by unfold sl_cb_11 at hb; rw [Bool.and_eq_true, Bool.and_eq_true] at hb; exact hb.1.1) rfl h5
        exact ⟨h9.1.1, h9.1.2.1, h9.1.2.2.1, h9.1.2.2.2, fun z => absurd z q⟩
    · have e : sp_next M = sl_nc_7 M (M 15 2).toInt (M 15 3).toInt := by unfold sp_next; rw [if_neg q, if_neg q2]
      rw [e] at h5 ⊢
      unfold sl_nc_7 at h5 ⊢
      split at h5
      · exact absurd rfl h5
      · rename_i q3
        rw [if_neg q3]
        have h9 := sl_nc_ok (F := bf_yes) hR b1 b2 b3 b4 rfl (sb := decide (¬ M 7 0 = 0)) (fun b hb => by unfold sl_cb_7 at hb; rw [Bool.and_eq_true, Bool.and_eq_true] at hb; exact hb.1.1) rfl h5
        exact ⟨h9.1.1, h9.1.2.1, h9.1.2.2.1, h9.1.2.2.2, fun z => absurd z q⟩
theorem sp_next_5 {M : am_M} (h : mv_ok M) : iN (sp_next M) = 5 ↔ sp_next M = 5 := by
  constructor
  · intro e
    by_cases q : sp_next M = 5
    · exact q
    · have := sp_next_ok h q
      have e1 : (iN (sp_next M)).toInt = (5 : Int32).toInt := by rw [e]
      rw [iN_e, kI_5] at e1
      omega
  · intro e
    rw [e]
    rfl
theorem sp_step_b (M : am_M) (b : Int32) : sp_step M b 15 2 = M 15 2 + b ∧ sp_step M b 15 3 = b ∧ sp_step M b 15 1 = M 15 1 + (M 15 2 + b) ∧ sp_step M b 15 7 = M 15 7 ∧ sp_step M b 15 8 = M 15 8 ∧ sp_step M b 15 9 = M 15 9 - 1 ∧ sp_step M b 15 4 = M 15 4 + 1 ∧ sp_step M b 15 0 = M 15 0 := by
  rw [sp_step_15]
  obtain ⟨h1, h2, h3, h4, h5, h6, h7⟩ := sp_mTick_2 M (M 15 2 + b) b (sp_safe M (M 15 2 + b) b)
  exact ⟨h1, h2, h3, h4, h5, h6, h7, sp_mTick_0 _ _ _ _⟩
theorem mv_ok_tt {M : am_M} (h : mv_ok M) : mv_ok (sp_tt M) := by
  have hf : mv_f (sp_tt M) := by
    obtain ⟨h1, h2, h3⟩ := h.1
    refine ⟨h1.cong (sp_tt_ne M (by omega)), ?_, ?_⟩
    · rw [sp_tt_ne M (by omega)]; exact h2
    · rw [sp_tt_ne M (by omega)]; exact h3
  refine ⟨hf, ?_⟩
  by_cases q : iN (sp_next M) = 5
  · have e : sp_tt M = sp_mEnd M := by unfold sp_tt; rw [if_pos q]
    rw [e]
    have e2 : ∀ j, j ≠ 9 → sp_mEnd M 15 j = M 15 j := fun j hj => by simp [sp_mEnd, am_rd, hj]
    unfold mv_b
    rw [e2 2 (by decide), e2 3 (by decide), e2 7 (by decide), e2 0 (by decide), e2 1 (by decide)]
    exact h.2
  · have e : sp_tt M = sp_step M (iN (sp_next M)) := by unfold sp_tt; rw [if_neg q]
    have q5 : sp_next M ≠ 5 := fun z => q ((sp_next_5 h).mpr z)
    have h9 := sp_next_ok h q5
    rw [e]
    obtain ⟨g1, g2, g3, g4, g5, g6, g7, g8⟩ := sp_step_b M (iN (sp_next M))
    unfold mv_b
    rw [g1, g2, g3, g4, g8]
    have hr := i_rng (M 15 0 - M 15 1)
    refine ⟨⟨?_, ?_, ?_, ?_, fun z => ?_⟩, h.2.2⟩
    · simp only [i_add, iN_e]; omega
    · simp only [i_add, iN_e]; omega
    · simp only [iN_e]; omega
    · simp only [iN_e]; omega
    · have h10 := h9.2.2.2.2 z
      simp only [i_sub, i_add, iN_e] at h10 ⊢
      omega
def sp_run : Nat → am_M → Nat × am_M
  | 0, M => (0, M)
  | n + 1, M => if sp_goes M = true then ((sp_run n (sp_tt M)).1 + 1, (sp_run n (sp_tt M)).2) else (0, M)
def sp_okTick (M : am_M) (k : Int32) : Bool := sp_goes M && sp_in k 0 1000
set_option maxRecDepth 100000 in
set_option maxHeartbeats 400000 in
theorem lp_X6_tick (ad : Nat → Nat) (k : Nat) (hk : k ≤ 1000) (c : Nat) (R : am_M) : ∀ (z j : Nat) (M : am_M), j + z = k → mv_ok M → j + (sp_run z M).1 = c → (sp_run z M).2 = R → am_W ydX6_tick ad am_II (am_is (nI c) R) 25 [some (.ref (ad 0)), some (.int (nI k)), some (.int (nI j))] [] M := by
  intro z
  induction z with
  | zero =>
    intro j M hj hok hc hr
    refine am_iload_n rfl dX6_tick_25 ?_
    refine am_iload_n rfl dX6_tick_26 ?_
    refine am_icmp_ge (tgt := 50) (by decide) dX6_tick_27 (fun h => ?_) (fun h => (by exfalso; simp only [Int32.le_iff_toInt_le, nI_e] at h; omega))
    rw [sp_run] at hc hr
    dsimp only at hc hr
    subst hr
    obtain rfl : j = c := by omega
    refine am_iload_n rfl dX6_tick_50 ?_
    refine am_iret rfl dX6_tick_51 ?_
    exact ⟨rfl, rfl⟩
  | succ z ih =>
    intro j M hj hok hc hr
    rw [sp_run] at hc hr
    refine am_iload_n rfl dX6_tick_25 ?_
    refine am_iload_n rfl dX6_tick_26 ?_
    refine am_icmp_ge (tgt := 50) (by decide) dX6_tick_27 (fun h => (by exfalso; simp only [Int32.le_iff_toInt_le, nI_e] at h; omega)) (fun h => ?_)
    refine am_aload_n rfl dX6_tick_30 ?_
    refine am_getr (j := 4) (by decide) rfl rfl rfl hTX6 (by decide) fl_X6_38 dX6_tick_31 ?_
    refine am_callVi (c_X2_goesOn ad _) okX2_goesOn ml_X6_62 (by decide) rfl rfl rfl ⟨by decide, by decide⟩ (Nat.le_of_ble_eq_true rfl) rfl dX6_tick_34 ?_
    refine am_ifb_eq (tgt := 50) (by decide) dX6_tick_37 (fun h37 => ?_) (fun h37 => ?_)
    · refine am_iload_n rfl dX6_tick_50 ?_
      refine am_iret rfl dX6_tick_51 ?_
      rw [if_neg (by rw [h37]; decide)] at hc hr
      dsimp only at hc hr
      subst hr
      obtain rfl : j = c := by omega
      exact ⟨rfl, rfl⟩
    · refine am_aload_n rfl dX6_tick_40 ?_
      refine am_callVv (c_X6_takeTick ad M hok.1 hok.2.1 hok.2.2) okX6_takeTick ml_X6_140 (by decide) rfl rfl rfl ⟨by decide, by decide⟩ (Nat.le_of_ble_eq_true rfl) rfl dX6_tick_41 ?_
      refine am_iinc (v := nI (j + 1)) rfl (nI_inc j) (by decide) dX6_tick_44 ?_
      refine am_goto (tgt := 25) (by decide) dX6_tick_47 ?_
      rw [if_pos h37] at hc hr
      dsimp only at hc hr
      exact ih (j + 1) _ (by omega) (mv_ok_tt hok) (by omega) hr
set_option maxRecDepth 100000 in
set_option maxHeartbeats 400000 in
theorem c_X6_tick (ad : Nat → Nat) (M : am_M) (k : Int32) (hok : sp_goes M = true → mv_ok M) : am_C ydX6_tick ad am_II [.ref (ad 0), .int k] M (am_is (if sp_okTick M k = true then nI (sp_run k.toInt.toNat M).1 else -1) (if sp_okTick M k = true then (sp_run k.toInt.toNat M).2 else M)) := by
  refine am_ofW (L := [some (.ref (ad 0)), some (.int k), none]) (by decide +kernel) (by simp [Value.category]) (Nat.le_of_ble_eq_true rfl) rfl ?_
  refine am_aload_n rfl dX6_tick_0 ?_
  refine am_getr (j := 4) (by decide) rfl rfl rfl hTX6 (by decide) fl_X6_38 dX6_tick_1 ?_
  refine am_callVi (c_X2_goesOn ad _) okX2_goesOn ml_X6_62 (by decide) rfl rfl rfl ⟨by decide, by decide⟩ (Nat.le_of_ble_eq_true rfl) rfl dX6_tick_4 ?_
  refine am_ifb_eq (tgt := 21) (by decide) dX6_tick_7 (fun h7 => ?_) (fun h7 => ?_)
  · refine am_iconst (v := (-1)) (by decide) dX6_tick_21 ?_
    refine am_iret rfl dX6_tick_22 ?_
    have e9 : ¬ sp_okTick M k = true := (by simp_all [sp_okTick])
    rw [if_neg e9, if_neg e9]
    exact ⟨rfl, rfl⟩
  · refine am_iload_n rfl dX6_tick_10 ?_
    refine am_iconst (v := 0) (by decide) dX6_tick_11 ?_
    refine am_sipush (v := 1000) (by decide) dX6_tick_12 ?_
    refine am_callSi (c_X6_isWithin ad _ _ _ _) okX6_isWithin ml_X6_66 rfl ⟨by decide, by decide⟩ (Nat.le_of_ble_eq_true rfl) rfl dX6_tick_15 ?_
    refine am_ifb_ne (tgt := 23) (by decide) dX6_tick_18 (fun h18 => ?_) (fun h18 => ?_)
    · refine am_iconst (v := 0) (by decide) dX6_tick_23 ?_
      refine am_istore_n (by decide) dX6_tick_24 ?_
      have e9 : sp_okTick M k = true := (by unfold sp_okTick; rw [h7, h18]; rfl)
      rw [if_pos e9, if_pos e9]
      have hk : 0 ≤ k.toInt ∧ k.toInt ≤ 1000 := by (have h9 := h18; simp only [sp_in, decide_eq_true_eq, Int32.le_iff_toInt_le, Int32.toInt_zero, kI_1000] at h9; exact h9)
      have ek : k = nI k.toInt.toNat := i_inj (by rw [nI_e]; omega)
      generalize hz : k.toInt.toNat = z at *
      subst ek
      exact lp_X6_tick ad z (by omega) _ _ z 0 M (by omega) (hok h7) (by omega) rfl
    · refine am_iconst (v := (-1)) (by decide) dX6_tick_21 ?_
      refine am_iret rfl dX6_tick_22 ?_
      have e9 : ¬ sp_okTick M k = true := (by simp_all [sp_okTick])
      rw [if_neg e9, if_neg e9]
      exact ⟨rfl, rfl⟩
def sp_okStop (M : am_M) : Bool := sp_goes M && decide (M 15 7 = 0)
def sp_stopR (k : Nat) (M N : am_M) : Int32 := N (k + 1) (sx (M 15 2).toInt (M 15 3).toInt)
def sp_stopM (k : Nat) (b : Bool) (M N : am_M) : am_M := if sp_stopR k M N = -1 then N else sp_mSlow N (sp_stopR k M N) b
set_option maxRecDepth 100000 in
set_option maxHeartbeats 400000 in
theorem c_X6_stop (ad : Nat → Nat) (M : am_M)  (hR : am_RI M) (hI : sl_I M) (hb : 0 ≤ (M 15 2).toInt ∧ (M 15 2).toInt ≤ 12 ∧ -4 ≤ (M 15 3).toInt ∧ (M 15 3).toInt ≤ 4) : am_C ydX6_stop ad am_II [.ref (ad 0)] M (fun r N => (sp_okStop M = false ∧ r = some (.int (-1)) ∧ M = N) ∨ (sp_okStop M = true ∧ ∃ N0, sl_mv M N0 ∧ ((sl_saf M (M 15 2).toInt (M 15 3).toInt ∧ N0 7 5 = M 1 8 ∧ r = some (.int (sp_stopR 7 M N0)) ∧ N = sp_stopM 7 true M N0) ∨ (¬ sl_saf M (M 15 2).toInt (M 15 3).toInt ∧ N0 11 5 = M 1 8 ∧ r = some (.int (sp_stopR 11 M N0)) ∧ N = sp_stopM 11 false M N0)))) := by
  refine am_ofW (L := [some (.ref (ad 0)), none, none]) (by decide +kernel) (by simp [Value.category]) (Nat.le_of_ble_eq_true rfl) rfl ?_
  refine am_aload_n rfl dX6_stop_0 ?_
  refine am_getr (j := 4) (by decide) rfl rfl rfl hTX6 (by decide) fl_X6_38 dX6_stop_1 ?_
  refine am_callVi (c_X2_goesOn ad _) okX2_goesOn ml_X6_62 (by decide) rfl rfl rfl ⟨by decide, by decide⟩ (Nat.le_of_ble_eq_true rfl) rfl dX6_stop_4 ?_
  refine am_ifb_eq (tgt := 20) (by decide) dX6_stop_7 (fun h7 => ?_) (fun h7 => ?_)
  · refine am_iconst (v := (-1)) (by decide) dX6_stop_20 ?_
    refine am_iret rfl dX6_stop_21 ?_
    exact Or.inl ⟨by simp_all [sp_okStop], rfl, rfl⟩
  · refine am_aload_n rfl dX6_stop_10 ?_
    refine am_getr (j := 4) (by decide) rfl rfl rfl hTX6 (by decide) fl_X6_38 dX6_stop_11 ?_
    refine am_geti (j := 7) (by decide) rfl rfl rfl hTX2 (by decide) fl_X6_143 dX6_stop_14 ?_
    refine am_if_eq (tgt := 22) (by decide) dX6_stop_17 (fun h17 => ?_) (fun h17 => ?_)
    · have hok : sp_okStop M = true := by (unfold sp_okStop; rw [h7, decide_eq_true h17]; rfl)
      refine am_aload_n rfl dX6_stop_22 ?_
      refine am_aload_n rfl dX6_stop_23 ?_
      refine am_getr (j := 4) (by decide) rfl rfl rfl hTX6 (by decide) fl_X6_38 dX6_stop_24 ?_
      refine am_geti (j := 2) (by decide) rfl rfl rfl hTX2 (by decide) fl_X6_146 dX6_stop_27 ?_
      refine am_aload_n rfl dX6_stop_30 ?_
      refine am_getr (j := 4) (by decide) rfl rfl rfl hTX6 (by decide) fl_X6_38 dX6_stop_31 ?_
      refine am_geti (j := 3) (by decide) rfl rfl rfl hTX2 (by decide) fl_X6_150 dX6_stop_34 ?_
      refine am_callV (c_X6_slowingsFrom_32 ad M _ _ hR hI hb.1 hb.2.1 hb.2.2.1 hb.2.2.2) okX6_slowingsFrom ml_X6_108 (by decide) rfl rfl rfl ⟨by decide, by decide⟩ (Nat.le_of_ble_eq_true rfl) rfl dX6_stop_37 (fun r37 N37 p37 => ?_)
      obtain ⟨qm, ⟨rfl, qs, qv⟩ | ⟨rfl, qs, qv⟩⟩ := p37
      · have e15 : N37 15 = M 15 := qm.2.2.2 15 (by omega)
        refine am_astore_n (by decide) dX6_stop_40 ?_
        refine am_aload_n rfl dX6_stop_41 ?_
        refine am_aload_n rfl dX6_stop_42 ?_
        refine am_getr (j := 4) (by decide) rfl rfl rfl hTX6 (by decide) fl_X6_38 dX6_stop_43 ?_
        refine am_geti (j := 2) (by decide) rfl rfl rfl hTX2 (by decide) fl_X6_146 dX6_stop_46 ?_
        refine am_aload_n rfl dX6_stop_49 ?_
        refine am_getr (j := 4) (by decide) rfl rfl rfl hTX6 (by decide) fl_X6_38 dX6_stop_50 ?_
        refine am_geti (j := 3) (by decide) rfl rfl rfl hTX2 (by decide) fl_X6_150 dX6_stop_53 ?_
        refine am_callVi (c_X5_ticksFrom_7_32 ad _ _ _ (by rw [e15]; exact hb.1) (by rw [e15]; exact hb.2.1) (by rw [e15]; exact hb.2.2.1) (by rw [e15]; exact hb.2.2.2)) okX5_ticksFrom ml_X6_112 (by decide) rfl rfl rfl ⟨by decide, by decide⟩ (Nat.le_of_ble_eq_true rfl) rfl dX6_stop_56 ?_
        rw [e15]
        refine am_istore_n (by decide) dX6_stop_59 ?_
        refine am_iload_n rfl dX6_stop_60 ?_
        refine am_iconst (v := (-1)) (by decide) dX6_stop_61 ?_
        refine am_icmp_ne (tgt := 67) (by decide) dX6_stop_62 (fun h62 => ?_) (fun h62 => ?_)
        · refine am_aload_n rfl dX6_stop_67 ?_
          refine am_getr (j := 4) (by decide) rfl rfl rfl hTX6 (by decide) fl_X6_38 dX6_stop_68 ?_
          refine am_iload_n rfl dX6_stop_71 ?_
          refine am_aload_n rfl dX6_stop_72 ?_
          refine am_aload_n rfl dX6_stop_73 ?_
          refine am_getr (j := 2) (by decide) rfl rfl rfl hTX6 (by decide) fl_X6_28 dX6_stop_74 ?_
          refine am_acmp_ne (tgt := 84) (by decide) dX6_stop_77 (fun h => absurd rfl h) (fun _ => ?_)
          refine am_iconst (v := 1) (by decide) dX6_stop_80 ?_
          refine am_goto (tgt := 85) (by decide) dX6_stop_81 ?_
          refine am_callVv (c_X2_goBySlowing ad _ _ true) okX2_goBySlowing ml_X6_153 (by decide) rfl rfl rfl ⟨by decide, by decide⟩ (Nat.le_of_ble_eq_true rfl) rfl dX6_stop_85 ?_
          refine am_iload_n rfl dX6_stop_88 ?_
          refine am_iret rfl dX6_stop_89 ?_
          have e9 : ∀ x K, x = sp_stopR 7 M N37 → K = sp_stopM 7 true M N37 → (sp_okStop M = false ∧ some (Value.int x) = some (Value.int (-1)) ∧ M = K) ∨ (sp_okStop M = true ∧ ∃ N0, sl_mv M N0 ∧ ((sl_saf M (M 15 2).toInt (M 15 3).toInt ∧ N0 7 5 = M 1 8 ∧ some (Value.int x) = some (Value.int (sp_stopR 7 M N0)) ∧ K = sp_stopM 7 true M N0) ∨ (¬ sl_saf M (M 15 2).toInt (M 15 3).toInt ∧ N0 11 5 = M 1 8 ∧ some (Value.int x) = some (Value.int (sp_stopR 11 M N0)) ∧ K = sp_stopM 11 false M N0))) := by
            intro x K hx hK
            subst hx hK
            exact Or.inr ⟨hok, N37, qm, Or.inl ⟨qs, qv, rfl, rfl⟩⟩
          refine e9 _ _ ?_ ?_
          · first | exact h62.symm | rfl
          · unfold sp_stopM
            first | (rw [if_pos (show sp_stopR 7 M N37 = -1 from h62)]; done) | (rw [if_neg (show ¬ sp_stopR 7 M N37 = -1 from h62)]; rfl)
        · refine am_iconst (v := (-1)) (by decide) dX6_stop_65 ?_
          refine am_iret rfl dX6_stop_66 ?_
          have e9 : ∀ x K, x = sp_stopR 7 M N37 → K = sp_stopM 7 true M N37 → (sp_okStop M = false ∧ some (Value.int x) = some (Value.int (-1)) ∧ M = K) ∨ (sp_okStop M = true ∧ ∃ N0, sl_mv M N0 ∧ ((sl_saf M (M 15 2).toInt (M 15 3).toInt ∧ N0 7 5 = M 1 8 ∧ some (Value.int x) = some (Value.int (sp_stopR 7 M N0)) ∧ K = sp_stopM 7 true M N0) ∨ (¬ sl_saf M (M 15 2).toInt (M 15 3).toInt ∧ N0 11 5 = M 1 8 ∧ some (Value.int x) = some (Value.int (sp_stopR 11 M N0)) ∧ K = sp_stopM 11 false M N0))) := by
            intro x K hx hK
            subst hx hK
            exact Or.inr ⟨hok, N37, qm, Or.inl ⟨qs, qv, rfl, rfl⟩⟩
          refine e9 _ _ ?_ ?_
          · first | exact h62.symm | rfl
          · unfold sp_stopM
            first | (rw [if_pos (show sp_stopR 7 M N37 = -1 from h62)]; done) | (rw [if_neg (show ¬ sp_stopR 7 M N37 = -1 from h62)]; rfl)
      · have e15 : N37 15 = M 15 := qm.2.2.2 15 (by omega)
        refine am_astore_n (by decide) dX6_stop_40 ?_
        refine am_aload_n rfl dX6_stop_41 ?_
        refine am_aload_n rfl dX6_stop_42 ?_
        refine am_getr (j := 4) (by decide) rfl rfl rfl hTX6 (by decide) fl_X6_38 dX6_stop_43 ?_
        refine am_geti (j := 2) (by decide) rfl rfl rfl hTX2 (by decide) fl_X6_146 dX6_stop_46 ?_
        refine am_aload_n rfl dX6_stop_49 ?_
        refine am_getr (j := 4) (by decide) rfl rfl rfl hTX6 (by decide) fl_X6_38 dX6_stop_50 ?_
        refine am_geti (j := 3) (by decide) rfl rfl rfl hTX2 (by decide) fl_X6_150 dX6_stop_53 ?_
        refine am_callVi (c_X5_ticksFrom_11_32 ad _ _ _ (by rw [e15]; exact hb.1) (by rw [e15]; exact hb.2.1) (by rw [e15]; exact hb.2.2.1) (by rw [e15]; exact hb.2.2.2)) okX5_ticksFrom ml_X6_112 (by decide) rfl rfl rfl ⟨by decide, by decide⟩ (Nat.le_of_ble_eq_true rfl) rfl dX6_stop_56 ?_
        rw [e15]
        refine am_istore_n (by decide) dX6_stop_59 ?_
        refine am_iload_n rfl dX6_stop_60 ?_
        refine am_iconst (v := (-1)) (by decide) dX6_stop_61 ?_
        refine am_icmp_ne (tgt := 67) (by decide) dX6_stop_62 (fun h62 => ?_) (fun h62 => ?_)
        · refine am_aload_n rfl dX6_stop_67 ?_
          refine am_getr (j := 4) (by decide) rfl rfl rfl hTX6 (by decide) fl_X6_38 dX6_stop_68 ?_
          refine am_iload_n rfl dX6_stop_71 ?_
          refine am_aload_n rfl dX6_stop_72 ?_
          refine am_aload_n rfl dX6_stop_73 ?_
          refine am_getr (j := 2) (by decide) rfl rfl rfl hTX6 (by decide) fl_X6_28 dX6_stop_74 ?_
          refine am_acmp_neC (tgt := 84) (by decide) (by decide) (by decide) (by decide) dX6_stop_77 ?_
          refine am_iconst (v := 0) (by decide) dX6_stop_84 ?_
          refine am_callVv (c_X2_goBySlowing ad _ _ false) okX2_goBySlowing ml_X6_153 (by decide) rfl rfl rfl ⟨by decide, by decide⟩ (Nat.le_of_ble_eq_true rfl) rfl dX6_stop_85 ?_
          refine am_iload_n rfl dX6_stop_88 ?_
          refine am_iret rfl dX6_stop_89 ?_
          have e9 : ∀ x K, x = sp_stopR 11 M N37 → K = sp_stopM 11 false M N37 → (sp_okStop M = false ∧ some (Value.int x) = some (Value.int (-1)) ∧ M = K) ∨ (sp_okStop M = true ∧ ∃ N0, sl_mv M N0 ∧ ((sl_saf M (M 15 2).toInt (M 15 3).toInt ∧ N0 7 5 = M 1 8 ∧ some (Value.int x) = some (Value.int (sp_stopR 7 M N0)) ∧ K = sp_stopM 7 true M N0) ∨ (¬ sl_saf M (M 15 2).toInt (M 15 3).toInt ∧ N0 11 5 = M 1 8 ∧ some (Value.int x) = some (Value.int (sp_stopR 11 M N0)) ∧ K = sp_stopM 11 false M N0))) := by
            intro x K hx hK
            subst hx hK
            exact Or.inr ⟨hok, N37, qm, Or.inr ⟨qs, qv, rfl, rfl⟩⟩
          refine e9 _ _ ?_ ?_
          · first | exact h62.symm | rfl
          · unfold sp_stopM
            first | (rw [if_pos (show sp_stopR 11 M N37 = -1 from h62)]; done) | (rw [if_neg (show ¬ sp_stopR 11 M N37 = -1 from h62)]; rfl)
        · refine am_iconst (v := (-1)) (by decide) dX6_stop_65 ?_
          refine am_iret rfl dX6_stop_66 ?_
          have e9 : ∀ x K, x = sp_stopR 11 M N37 → K = sp_stopM 11 false M N37 → (sp_okStop M = false ∧ some (Value.int x) = some (Value.int (-1)) ∧ M = K) ∨ (sp_okStop M = true ∧ ∃ N0, sl_mv M N0 ∧ ((sl_saf M (M 15 2).toInt (M 15 3).toInt ∧ N0 7 5 = M 1 8 ∧ some (Value.int x) = some (Value.int (sp_stopR 7 M N0)) ∧ K = sp_stopM 7 true M N0) ∨ (¬ sl_saf M (M 15 2).toInt (M 15 3).toInt ∧ N0 11 5 = M 1 8 ∧ some (Value.int x) = some (Value.int (sp_stopR 11 M N0)) ∧ K = sp_stopM 11 false M N0))) := by
            intro x K hx hK
            subst hx hK
            exact Or.inr ⟨hok, N37, qm, Or.inr ⟨qs, qv, rfl, rfl⟩⟩
          refine e9 _ _ ?_ ?_
          · first | exact h62.symm | rfl
          · unfold sp_stopM
            first | (rw [if_pos (show sp_stopR 11 M N37 = -1 from h62)]; done) | (rw [if_neg (show ¬ sp_stopR 11 M N37 = -1 from h62)]; rfl)
    · refine am_iconst (v := (-1)) (by decide) dX6_stop_20 ?_
      refine am_iret rfl dX6_stop_21 ?_
      exact Or.inl ⟨by simp_all [sp_okStop], rfl, rfl⟩

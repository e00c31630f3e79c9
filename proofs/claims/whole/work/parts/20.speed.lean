theorem rp_nc_ok {M : am_M} (hR : am_RI M) {v a l : Int} (h1 : 0 ≤ v) (h2 : v ≤ 12) (h3 : -4 ≤ a) (h4 : a ≤ 4) (h5 : -1000 ≤ l) (h6 : l ≤ 1000) (hb : rp_nc M v a l ≠ 5) : -4 ≤ rp_nc M v a l ∧ rp_nc M v a l ≤ 4 ∧ 0 ≤ v + rp_nc M v a l ∧ v + rp_nc M v a l ≤ 12 ∧ 0 ≤ l - (v + rp_nc M v a l) ∧ l - (v + rp_nc M v a l) ≤ 200 ∧ rp_cb M v a l (rp_nc M v a l) = true ∧ ¬ tA M v a l < 1 ∧ bf_lo (am_Ac M) (am_J M) a ≤ rp_nc M v a l ∧ rp_nc M v a l ≤ bf_hi (am_Ac M) (am_J M) a := by
  have hq : am_V M = (M 1 0).toInt ∧ am_Ac M = (M 1 1).toInt ∧ am_J M = (M 1 2).toInt := ⟨rfl, rfl, rfl⟩
  have hq2 := hR
  unfold am_RI at hq2
  by_cases q : tA M v a l < 1
  · exfalso
    apply hb
    unfold rp_nc
    rw [if_pos q]
  · have e : rn_s (rp_cb M v a l) (bf_n (am_Ac M) (am_J M) a) (bf_hi (am_Ac M) (am_J M) a) = rp_nc M v a l := by
      unfold rp_nc
      rw [if_neg q]
    obtain ⟨p1, p2, p3⟩ := rn_s_in _ _ _ e hb
    generalize rp_nc M v a l = b at *
    have p4 : bf_lo (am_Ac M) (am_J M) a ≤ b := by (unfold bf_n at p1; omega)
    have p5 : -4 ≤ b := by (unfold bf_lo at p4; omega)
    have p6 : b ≤ 4 := by (unfold bf_hi at p2; omega)
    have p7 := p3
    unfold rp_cb at p7
    rw [Bool.and_eq_true, decide_eq_true_eq] at p7
    obtain ⟨p7, p8⟩ := p7
    simp only [sp_mayEnd, decide_eq_true_eq] at p7
    have p9 := (am_state_iff hR (v := v + b) (a := b) (by omega) (by omega) (by omega) (by omega)).mp p7.1
    have p10 : 0 ≤ l - (v + b) ∧ l - (v + b) ≤ 200 := by
      refine Classical.byContradiction fun z => ?_
      unfold tA at p8
      rw [if_neg z] at p8
      rw [Int32.lt_iff_toInt_lt, kI_1] at q
      have p11 : (-1 : Int32).toInt = _ := congrArg Int32.toInt p8
      rw [kI_m1, i_sub, kI_1] at p11
      have := i_rng (if 0 ≤ l ∧ l ≤ 200 then M 5 (bf_idx v a l) else -1)
      unfold tA at q
      omega
    exact ⟨p5, p6, by omega, by omega, p10.1, p10.2, p3, q, p4, p2⟩
def rp_sp (M : am_M) : Nat → Int → Int → Int → Int
  | 0, v, _, _ => v
  | n + 1, v, a, l => if rp_nc M v a l = 5 then -1 else rp_sp M n (v + rp_nc M v a l) (rp_nc M v a l) (l - (v + rp_nc M v a l))
set_option maxRecDepth 100000 in
set_option maxHeartbeats 400000 in
theorem lp_X3_speedIn (ad : Nat → Nat) (M : am_M) (hR : am_RI M) (n32 : Int32) (t R : Int) (ht : 0 ≤ t) (ht2 : t < 1000000) : ∀ (z : Nat) (i v a l : Int), i + z = t + 1 → 0 ≤ i → 0 ≤ v → v ≤ 12 → -4 ≤ a → a ≤ 4 → 0 ≤ l → l ≤ 200 → rp_sp M z v a l = R → am_W ydX3_speedIn ad am_II (am_is (iN R) M) 12 [some (.ref (ad 4)), some (.ref (ad 1)), some (.int n32), some (.int (iN t)), some (.int (iN v)), some (.int (iN a)), some (.int (iN l)), some (.int (iN i))] [] M := by
  intro z
  induction z with
  | zero =>
    intro i v a l hi hi0 h1 h2 h3 h4 h5 h6 he
    refine am_iload rfl dX3_speedIn_12 ?_
    refine am_iload_n rfl dX3_speedIn_14 ?_
    refine am_icmp_gt (tgt := 59) (by decide) dX3_speedIn_15 (fun h => ?_) (fun h => (by exfalso; simp only [Int32.lt_iff_toInt_lt, iN_e] at h; omega))
    rw [rp_sp] at he
    subst he
    refine am_iload rfl dX3_speedIn_59 ?_
    refine am_iret rfl dX3_speedIn_61 ?_
    exact ⟨rfl, rfl⟩
  | succ z ih =>
    intro i v a l hi hi0 h1 h2 h3 h4 h5 h6 he
    rw [rp_sp] at he
    refine am_iload rfl dX3_speedIn_12 ?_
    refine am_iload_n rfl dX3_speedIn_14 ?_
    refine am_icmp_gt (tgt := 59) (by decide) dX3_speedIn_15 (fun h => (by exfalso; simp only [Int32.lt_iff_toInt_lt, iN_e] at h; omega)) (fun h => ?_)
    have h55 : (iN (rp_nc M v a l) = 5) ↔ rp_nc M v a l = 5 := by
      constructor
      · intro e
        by_cases q : rp_nc M v a l = 5
        · exact q
        · have := rp_nc_ok hR h1 h2 h3 h4 (by omega) (by omega) q
          have e1 : (iN (rp_nc M v a l)).toInt = (5 : Int32).toInt := by rw [e]
          rw [iN_e, kI_5] at e1
          omega
      · intro e
        rw [e]
        rfl
    refine am_aload_n rfl dX3_speedIn_18 ?_
    refine am_aload_n rfl dX3_speedIn_19 ?_
    refine am_iload rfl dX3_speedIn_20 ?_
    refine am_iload rfl dX3_speedIn_22 ?_
    refine am_iload rfl dX3_speedIn_24 ?_
    refine am_callVi (c_X3_nextChange ad M v a l hR h1 h2 h3 h4 (by omega) (by omega)) okX3_nextChange ml_X3_51 (by decide) rfl rfl rfl ⟨by decide, by decide⟩ (Nat.le_of_ble_eq_true rfl) rfl dX3_speedIn_26 ?_
    refine am_istore (by decide) dX3_speedIn_29 ?_
    refine am_iload rfl dX3_speedIn_31 ?_
    refine am_iconst (v := 5) (by decide) dX3_speedIn_33 ?_
    refine am_icmp_ne (tgt := 39) (by decide) dX3_speedIn_34 (fun h34 => ?_) (fun h34 => ?_)
    · have h56 : ¬ rp_nc M v a l = 5 := fun e => h34 (h55.mpr e)
      have hn := rp_nc_ok hR h1 h2 h3 h4 (by omega) (by omega) h56
      rw [if_neg h56] at he
      refine am_iload rfl dX3_speedIn_39 ?_
      refine am_iload rfl dX3_speedIn_41 ?_
      refine am_iadd dX3_speedIn_43 ?_
      rw [iN_add]
      refine am_istore (by decide) dX3_speedIn_44 ?_
      refine am_iload rfl dX3_speedIn_46 ?_
      refine am_iload rfl dX3_speedIn_48 ?_
      refine am_isub dX3_speedIn_50 ?_
      rw [iN_sub]
      refine am_istore (by decide) dX3_speedIn_51 ?_
      refine am_iinc rfl rfl (by decide) dX3_speedIn_53 ?_
      refine am_goto (tgt := 12) (by decide) dX3_speedIn_56 ?_
      exact am_eq (by rw [iN_inc]; rfl) rfl rfl (ih (i + 1) _ _ _ (by omega) (by omega) (by omega) (by omega) (by omega) (by omega) (by omega) (by omega) he)
    · rw [if_pos (h55.mp h34)] at he
      subst he
      refine am_iconst (v := (-1)) (by decide) dX3_speedIn_37 ?_
      refine am_iret rfl dX3_speedIn_38 ?_
      exact ⟨rfl, rfl⟩
set_option maxRecDepth 100000 in
set_option maxHeartbeats 400000 in
theorem c_X3_speedIn (ad : Nat → Nat) (M : am_M) (n t : Int) (hR : am_RI M) (hn : 0 ≤ n) (hn2 : n ≤ 200) (ht : 0 ≤ t) (ht2 : t < 1000000) : am_C ydX3_speedIn ad am_II [.ref (ad 4), .ref (ad 1), .int (iN n), .int (iN t)] M (am_is (iN (rp_sp M (t + 1).toNat 0 0 n)) M) := by
  refine am_ofW (L := [some (.ref (ad 4)), some (.ref (ad 1)), some (.int (iN n)), some (.int (iN t)), none, none, none, none]) (by decide +kernel) (by simp [Value.category]) (Nat.le_of_ble_eq_true rfl) rfl ?_
  refine am_iconst (v := 0) (by decide) dX3_speedIn_0 ?_
  refine am_istore (by decide) dX3_speedIn_1 ?_
  refine am_iconst (v := 0) (by decide) dX3_speedIn_3 ?_
  refine am_istore (by decide) dX3_speedIn_4 ?_
  refine am_iload_n rfl dX3_speedIn_6 ?_
  refine am_istore (by decide) dX3_speedIn_7 ?_
  refine am_iconst (v := 0) (by decide) dX3_speedIn_9 ?_
  refine am_istore (by decide) dX3_speedIn_10 ?_
  exact lp_X3_speedIn ad M hR _ t _ ht ht2 (t + 1).toNat 0 0 0 n (by omega) (by omega) (by omega) (by omega) (by omega) (by omega) hn hn2 rfl
set_option maxRecDepth 100000 in
set_option maxHeartbeats 400000 in
theorem c_X6_ramp (ad : Nat → Nat) (M : am_M) (n : Int32) (hR : am_RI M) (hS : M 4 4 = M 1 8 → ∃ k, rp_at M M k) : am_C ydX6_ramp ad am_II [.ref (ad 0), .int n] M (fun r N => (sp_in n 0 200 = false ∧ r = some (.int (-1)) ∧ M = N) ∨ (sp_in n 0 200 = true ∧ ∃ k, rp_at M N k ∧ rp_far M n.toInt k ∧ r = some (.int (rp_enc ((rp_T M k).1 (rp_st n.toInt)))))) := by
  refine am_ofW (L := [some (.ref (ad 0)), some (.int n)]) (by decide +kernel) (by simp [Value.category]) (Nat.le_of_ble_eq_true rfl) rfl ?_
  refine am_aload_n rfl dX6_ramp_0 ?_
  refine am_getr (j := 1) (by decide) rfl rfl rfl hTX6 (by decide) fl_X6_19 dX6_ramp_1 ?_
  refine am_aload_n rfl dX6_ramp_4 ?_
  refine am_getr (j := 0) (by decide) rfl rfl rfl hTX6 (by decide) fl_X6_12 dX6_ramp_5 ?_
  refine am_iload_n rfl dX6_ramp_8 ?_
  refine am_callV (c_X3_ticksOf ad M n hR hS) okX3_ticksOf ml_X6_96 (by decide) rfl rfl rfl ⟨by decide, by decide⟩ (Nat.le_of_ble_eq_true rfl) rfl dX6_ramp_9 (fun r9 N9 p9 => ?_)
  skip
  obtain ⟨x, hx⟩ : ∃ x, r9 = some (.int x) := by
    rcases p9 with ⟨-, h, -⟩ | ⟨-, k, -, -, h⟩
    · exact ⟨_, h⟩
    · exact ⟨_, h⟩
  subst hx
  refine am_iret rfl dX6_ramp_12 ?_
  exact p9
theorem c_X3_speedIn32 (ad : Nat → Nat) (M : am_M) (n t : Int32) (hR : am_RI M) (hn : 0 ≤ n.toInt) (hn2 : n.toInt ≤ 200) (ht : 0 ≤ t.toInt) (ht2 : t.toInt < 1000000) : am_C ydX3_speedIn ad am_II [.ref (ad 4), .ref (ad 1), .int n, .int t] M (am_is (iN (rp_sp M (t.toInt + 1).toNat 0 0 n.toInt)) M) := by
  have h := c_X3_speedIn ad M n.toInt t.toInt hR hn hn2 ht ht2
  rwa [iN_self, iN_self] at h
theorem rp_enc_small {M : am_M} (hR : am_RI M) (k x : Nat) : (rp_enc ((rp_T M k).1 x)).toInt < 23517 ∧ -1 ≤ (rp_enc ((rp_T M k).1 x)).toInt := by
  have hok : bf_ok (rp_T M k) := bf_T_ok hR.V.1 hR.V.2 k
  cases e : (rp_T M k).1 x with
  | none => exact ⟨by decide, by decide⟩
  | some d =>
    have := hok.small e
    simp only [rp_enc, nI_e]
    omega
set_option maxRecDepth 100000 in
set_option maxHeartbeats 400000 in
theorem c_X6_speed (ad : Nat → Nat) (M : am_M) (n t : Int32) (hR : am_RI M) (hS : M 4 4 = M 1 8 → ∃ k, rp_at M M k) : am_C ydX6_speed ad am_II [.ref (ad 0), .int n, .int t] M (fun r N => ((t < 0 ∨ sp_in n 0 200 = false) ∧ r = some (.int (-1)) ∧ M = N) ∨ (0 ≤ t ∧ sp_in n 0 200 = true ∧ ∃ k, rp_at M N k ∧ rp_far M n.toInt k ∧ r = some (.int (if rp_enc ((rp_T M k).1 (rp_st n.toInt)) ≤ t then -1 else iN (rp_sp N (t.toInt + 1).toNat 0 0 n.toInt))))) := by
  refine am_ofW (L := [some (.ref (ad 0)), some (.int n), some (.int t)]) (by decide +kernel) (by simp [Value.category]) (Nat.le_of_ble_eq_true rfl) rfl ?_
  refine am_iload_n rfl dX6_speed_0 ?_
  refine am_if_lt (tgt := 20) (by decide) dX6_speed_1 (fun h1 => ?_) (fun h1 => ?_)
  · refine am_iconst (v := (-1)) (by decide) dX6_speed_20 ?_
    refine am_iret rfl dX6_speed_21 ?_
    first
    | exact Or.inl ⟨Or.inl h1, rfl, rfl⟩
    | exact Or.inr ⟨h1', q1, k, q2, q3, by rw [if_pos (Int32.not_lt.mp h17)]⟩
    | exact Or.inr ⟨h1', q1, k, q2, q3, by rw [if_neg (fun z => absurd h17 (Int32.not_lt.mpr z))]⟩
  · have h1' : 0 ≤ t := Int32.not_lt.mp h1
    refine am_iload_n rfl dX6_speed_4 ?_
    refine am_aload_n rfl dX6_speed_5 ?_
    refine am_getr (j := 1) (by decide) rfl rfl rfl hTX6 (by decide) fl_X6_19 dX6_speed_6 ?_
    refine am_aload_n rfl dX6_speed_9 ?_
    refine am_getr (j := 0) (by decide) rfl rfl rfl hTX6 (by decide) fl_X6_12 dX6_speed_10 ?_
    refine am_iload_n rfl dX6_speed_13 ?_
    refine am_callV (c_X3_ticksOf ad M n hR hS) okX3_ticksOf ml_X6_96 (by decide) rfl rfl rfl ⟨by decide, by decide⟩ (Nat.le_of_ble_eq_true rfl) rfl dX6_speed_14 (fun r14 N14 p14 => ?_)
    rcases p14 with ⟨q1, rfl, rfl⟩ | ⟨q1, k, q2, q3, rfl⟩
    · refine am_icmp_lt (tgt := 22) (by decide) dX6_speed_17 (fun h17 => ?_) (fun h17 => ?_)
      · exfalso; simp only [Int32.lt_iff_toInt_lt, Int32.toInt_zero, kI_m1] at h1 h17; omega
      · refine am_iconst (v := (-1)) (by decide) dX6_speed_20 ?_
        refine am_iret rfl dX6_speed_21 ?_
        exact Or.inl ⟨Or.inr q1, rfl, rfl⟩
    refine am_icmp_lt (tgt := 22) (by decide) dX6_speed_17 (fun h17 => ?_) (fun h17 => ?_)
    · have hn : 0 ≤ n.toInt ∧ n.toInt ≤ 200 := by (have h9 := q1; simp only [sp_in, decide_eq_true_eq, Int32.le_iff_toInt_le, Int32.toInt_zero, kI_200] at h9; exact h9)
      have hsm := rp_enc_small hR k (rp_st n.toInt)
      have h1t : 0 ≤ t.toInt ∧ t.toInt < 1000000 := by (simp only [Int32.lt_iff_toInt_lt, Int32.le_iff_toInt_le, Int32.toInt_zero] at h17 h1'; omega)
      refine am_aload_n rfl dX6_speed_22 ?_
      refine am_getr (j := 1) (by decide) rfl rfl rfl hTX6 (by decide) fl_X6_19 dX6_speed_23 ?_
      refine am_aload_n rfl dX6_speed_26 ?_
      refine am_getr (j := 0) (by decide) rfl rfl rfl hTX6 (by decide) fl_X6_12 dX6_speed_27 ?_
      refine am_iload_n rfl dX6_speed_30 ?_
      refine am_iload_n rfl dX6_speed_31 ?_
      refine am_callVi (c_X3_speedIn32 ad _ n t (hR.cong (q2.2.2.2.2 1 (by decide) (by decide) (by decide))) hn.1 hn.2 h1t.1 h1t.2) okX3_speedIn ml_X6_100 (by decide) rfl rfl rfl ⟨by decide, by decide⟩ (Nat.le_of_ble_eq_true rfl) rfl dX6_speed_32 ?_
      refine am_iret rfl dX6_speed_35 ?_
      first
      | exact Or.inl ⟨Or.inl h1, rfl, rfl⟩
      | exact Or.inr ⟨h1', q1, k, q2, q3, by rw [if_pos (Int32.not_lt.mp h17)]⟩
      | exact Or.inr ⟨h1', q1, k, q2, q3, by rw [if_neg (fun z => absurd h17 (Int32.not_lt.mpr z))]⟩
    · refine am_iconst (v := (-1)) (by decide) dX6_speed_20 ?_
      refine am_iret rfl dX6_speed_21 ?_
      first
      | exact Or.inl ⟨Or.inl h1, rfl, rfl⟩
      | exact Or.inr ⟨h1', q1, k, q2, q3, by rw [if_pos (Int32.not_lt.mp h17)]⟩
      | exact Or.inr ⟨h1', q1, k, q2, q3, by rw [if_neg (fun z => absurd h17 (Int32.not_lt.mpr z))]⟩

theorem sp_num_e {v a : Int} (h1 : 0 ≤ v) (h2 : v ≤ 12) (h3 : -4 ≤ a) (h4 : a ≤ 4) : sp_num (iN v) (iN a) = nI (sx v a) := by
  obtain ⟨-, e⟩ := sx_lt h1 h2 h3 h4
  apply i_inj
  simp only [sp_num, i_add, i_mul, iN_e, nI_e, kI_9, kI_4]
  rw [e]
  omega
theorem sl_we {x : Nat} (hx : x < 117) : nI x / 9 = iN (sl_w x) := by
  rw [show (9 : Int32) = nI 9 from rfl, pk_div (by omega) (by omega) (by omega), nI_iN]
  rfl
theorem sl_be {x : Nat} (hx : x < 117) : nI x - nI x / 9 * 9 - 4 = iN (sl_b x) := by
  rw [show (9 : Int32) = nI 9 from rfl, pk_rem (by omega) (by omega) (by omega)]
  apply i_inj
  simp only [i_sub, nI_e, iN_e, kI_4, sl_b]
  omega
theorem sl_stepe {s x : Nat} : nI s + iN (sl_w x) = nI (s + x / 9) := by
  rw [nI_iN, nI_iN, iN_add]
  congr 1
set_option maxRecDepth 100000 in
set_option maxHeartbeats 400000 in
theorem c_X5_ticksFrom_7 (ad : Nat → Nat) (M : am_M) (v a : Int) (h1 : 0 ≤ v) (h2 : v ≤ 12) (h3 : -4 ≤ a) (h4 : a ≤ 4) : am_C ydX5_ticksFrom ad am_II [.ref (ad 7), .int (iN v), .int (iN a)] M (am_is (M 8 (sx v a)) M) := by
  refine am_ofW (L := [some (.ref (ad 7)), some (.int (iN v)), some (.int (iN a)), none]) (by decide +kernel) (by simp [Value.category]) (Nat.le_of_ble_eq_true rfl) rfl ?_
  refine am_iload_n rfl dX5_ticksFrom_0 ?_
  refine am_iload_n rfl dX5_ticksFrom_1 ?_
  refine am_callNi (c_X6_stateNumber ad _ _ _) okX6_stateNumber ml_X5_32 rfl ⟨by decide, by decide⟩ (Nat.le_of_ble_eq_true rfl) rfl dX5_ticksFrom_2 ?_
  rw [sp_num_e h1 h2 h3 h4]
  have hlt := (sx_lt h1 h2 h3 h4).1
  have hvp : vp_in (nI (sx v a)) 117 := vp_in_nI hlt (by omega)
  refine am_istore_n (by decide) dX5_ticksFrom_5 ?_
  refine am_aload_n rfl dX5_ticksFrom_6 ?_
  refine am_getr (j := 1) (by decide) rfl rfl rfl hTX5 (by decide) fl_X5_9 dX5_ticksFrom_7 ?_
  refine am_iload_n rfl dX5_ticksFrom_10 ?_
  refine am_callNi (c_X6_isIndexOf ad M 8 117 (nI (sx v a)) (by decide) rfl (by decide) hvp) okX6_isIndexOf ml_X5_36 rfl ⟨by decide, by decide⟩ (Nat.le_of_ble_eq_true rfl) rfl dX5_ticksFrom_11 ?_
  refine am_ifb_eq (tgt := 26) (by decide) dX5_ticksFrom_14 (fun h14 => ?_) (fun h14 => ?_)
  · cases h14
  · refine am_aload_n rfl dX5_ticksFrom_17 ?_
    refine am_getr (j := 1) (by decide) rfl rfl rfl hTX5 (by decide) fl_X5_9 dX5_ticksFrom_18 ?_
    refine am_iload_n rfl dX5_ticksFrom_21 ?_
    refine am_iald (by decide) rfl (hvp) dX5_ticksFrom_22 ?_
    refine am_goto (tgt := 27) (by decide) dX5_ticksFrom_23 ?_
    refine am_iret rfl dX5_ticksFrom_27 ?_
    refine am_isE ?_
    rw [nI_clamp (by omega)]
set_option maxRecDepth 100000 in
set_option maxHeartbeats 400000 in
theorem c_X5_stepsFrom_7 (ad : Nat → Nat) (M : am_M) (v a : Int) (h1 : 0 ≤ v) (h2 : v ≤ 12) (h3 : -4 ≤ a) (h4 : a ≤ 4) : am_C ydX5_stepsFrom ad am_II [.ref (ad 7), .int (iN v), .int (iN a)] M (am_is (M 9 (sx v a)) M) := by
  refine am_ofW (L := [some (.ref (ad 7)), some (.int (iN v)), some (.int (iN a)), none]) (by decide +kernel) (by simp [Value.category]) (Nat.le_of_ble_eq_true rfl) rfl ?_
  refine am_iload_n rfl dX5_stepsFrom_0 ?_
  refine am_iload_n rfl dX5_stepsFrom_1 ?_
  refine am_callNi (c_X6_stateNumber ad _ _ _) okX6_stateNumber ml_X5_32 rfl ⟨by decide, by decide⟩ (Nat.le_of_ble_eq_true rfl) rfl dX5_stepsFrom_2 ?_
  rw [sp_num_e h1 h2 h3 h4]
  have hlt := (sx_lt h1 h2 h3 h4).1
  have hvp : vp_in (nI (sx v a)) 117 := vp_in_nI hlt (by omega)
  refine am_istore_n (by decide) dX5_stepsFrom_5 ?_
  refine am_aload_n rfl dX5_stepsFrom_6 ?_
  refine am_getr (j := 2) (by decide) rfl rfl rfl hTX5 (by decide) fl_X5_15 dX5_stepsFrom_7 ?_
  refine am_iload_n rfl dX5_stepsFrom_10 ?_
  refine am_callNi (c_X6_isIndexOf ad M 9 117 (nI (sx v a)) (by decide) rfl (by decide) hvp) okX6_isIndexOf ml_X5_36 rfl ⟨by decide, by decide⟩ (Nat.le_of_ble_eq_true rfl) rfl dX5_stepsFrom_11 ?_
  refine am_ifb_eq (tgt := 26) (by decide) dX5_stepsFrom_14 (fun h14 => ?_) (fun h14 => ?_)
  · cases h14
  · refine am_aload_n rfl dX5_stepsFrom_17 ?_
    refine am_getr (j := 2) (by decide) rfl rfl rfl hTX5 (by decide) fl_X5_15 dX5_stepsFrom_18 ?_
    refine am_iload_n rfl dX5_stepsFrom_21 ?_
    refine am_iald (by decide) rfl (hvp) dX5_stepsFrom_22 ?_
    refine am_goto (tgt := 27) (by decide) dX5_stepsFrom_23 ?_
    refine am_iret rfl dX5_stepsFrom_27 ?_
    refine am_isE ?_
    rw [nI_clamp (by omega)]
set_option maxRecDepth 100000 in
set_option maxHeartbeats 400000 in
theorem lp_X5_look_7 (ad : Nat → Nat) (M : am_M) (x t s : Nat) (hx : x < 117) (v hi : Int) (BF : sl_B) (h1 : 0 ≤ v) (h2 : v ≤ 12) (h5 : hi ≤ 4) : ∀ (n : Nat) (a : Int) (N : am_M) (B : sl_B), a + n = hi + 1 → -4 ≤ a → sl_RC 7 N B → sl_ok B → B.1 x = some (t, s) → sl_fr 7 M N → sl_fold (fun a => sx v a) (t + 1) (s + x / 9) n a B = BF → am_W ydX5_lookBehind ad am_II (fun r N => r = none ∧ sl_RC 7 N BF ∧ sl_fr 7 M N) 81 [some (.ref (ad 7)), some (.ref (ad 1)), some (.int (nI x)), some (.int (iN (sl_w x))), some (.int (iN (sl_b x))), some (.int (iN v)), some (.int (nI (t + 1))), some (.int (nI (s + x / 9))), some (.int (iN hi)), some (.int (iN a))] [] N := by
  intro n
  induction n with
  | zero =>
    intro a N B ha h6 hRC hok hd hf he
    refine am_iload rfl dX5_lookBehind_81 ?_
    refine am_iload rfl dX5_lookBehind_83 ?_
    refine am_icmp_gt (tgt := 109) (by decide) dX5_lookBehind_85 (fun h => ?_) (fun h => (by exfalso; simp only [Int32.lt_iff_toInt_lt, iN_e] at h; omega))
    refine am_vret rfl dX5_lookBehind_109 ?_
    rw [sl_fold] at he
    subst he
    exact ⟨rfl, hRC, hf⟩
  | succ n ih =>
    intro a N B ha h6 hRC hok hd hf he
    have hix := sx_lt h1 h2 h6 (show a ≤ 4 by omega)
    have hd1 := hok.small hd
    rw [sl_fold] at he
    refine am_iload rfl dX5_lookBehind_81 ?_
    refine am_iload rfl dX5_lookBehind_83 ?_
    refine am_icmp_gt (tgt := 109) (by decide) dX5_lookBehind_85 (fun h => (by exfalso; simp only [Int32.lt_iff_toInt_lt, iN_e] at h; omega)) (fun h => ?_)
    refine am_aload_n rfl dX5_lookBehind_88 ?_
    refine am_iload rfl dX5_lookBehind_89 ?_
    refine am_iload rfl dX5_lookBehind_91 ?_
    refine am_callNi (c_X6_stateNumber ad _ _ _) okX6_stateNumber ml_X5_32 rfl ⟨by decide, by decide⟩ (Nat.le_of_ble_eq_true rfl) rfl dX5_lookBehind_93 ?_
    rw [sp_num_e h1 h2 h6 (by omega)]
    refine am_iload rfl dX5_lookBehind_96 ?_
    refine am_iload rfl dX5_lookBehind_98 ?_
    refine am_callV (c_X5_find_7 ad N B (sx v a) (t + 1) (s + x / 9) hRC hok hix.1 (by omega) (by omega)) okX5_find ml_X5_70 (by decide) rfl rfl rfl ⟨by decide, by decide⟩ (Nat.le_of_ble_eq_true rfl) rfl dX5_lookBehind_100 (fun r100 N100 p100 => ?_)
    obtain ⟨rfl, hRC1, hfr1⟩ := p100
    refine am_iinc rfl rfl (by decide) dX5_lookBehind_103 ?_
    refine am_goto (tgt := 81) (by decide) dX5_lookBehind_106 ?_
    exact am_eq (by rw [iN_inc]; rfl) rfl rfl (ih (a + 1) _ _ (by omega) (by omega) hRC1 (sl_push_ok hok hix.1 hd1.2.1 (by omega)) ((sl_push_le B _ _ _).2.2.2 x t s hd (by omega)) (hf.tr hfr1) he)
set_option maxRecDepth 100000 in
set_option maxHeartbeats 400000 in
theorem c_X5_lookBehind_7 (ad : Nat → Nat) (M : am_M) (B : sl_B) (x t s : Nat) (sb : Bool) (hR : am_RI M) (hsb : M 7 0 = bI sb) (hRC : sl_RC 7 M B) (hok : sl_ok B) (hx : x < 117) (hd : B.1 x = some (t, s)) : am_C ydX5_lookBehind ad am_II [.ref (ad 7), .ref (ad 1), .int (nI x)] M (fun r N => r = none ∧ sl_RC 7 N (sl_proc (am_V M) (am_Ac M) (am_J M) (am_E M sb) B x) ∧ sl_fr 7 M N) := by
  have hw := sl_wb hx
  have hxx : sx (sl_w x) (sl_b x) = x := by
    unfold sx sl_w sl_b
    omega
  have htk : M 8 (sx (sl_w x) (sl_b x)) = nI t := by
    rw [hxx, hRC.1 x hx, hd]
    rfl
  have hsk : M 9 (sx (sl_w x) (sl_b x)) = nI s := by
    rw [hxx]
    exact hRC.2.1 x t s hd
  have hsp := am_speed_iff (M := M) (v := sl_w x - sl_b x) (by omega) (by omega)
  refine am_ofW (L := [some (.ref (ad 7)), some (.ref (ad 1)), some (.int (nI x)), none, none, none, none, none, none, none]) (by decide +kernel) (by simp [Value.category]) (Nat.le_of_ble_eq_true rfl) rfl ?_
  refine am_iload_n rfl dX5_lookBehind_0 ?_
  refine am_bipush (v := 9) (by decide) dX5_lookBehind_1 ?_
  refine am_idiv (by decide) dX5_lookBehind_3 ?_
  rw [sl_we hx]
  refine am_istore_n (by decide) dX5_lookBehind_4 ?_
  refine am_iload_n rfl dX5_lookBehind_5 ?_
  refine am_bipush (v := 9) (by decide) dX5_lookBehind_6 ?_
  refine am_irem (by decide) dX5_lookBehind_8 ?_
  refine am_iconst (v := 4) (by decide) dX5_lookBehind_9 ?_
  refine am_isub dX5_lookBehind_10 ?_
  rw [← sl_we hx, sl_be hx, sl_we hx]
  refine am_istore (by decide) dX5_lookBehind_11 ?_
  refine am_iload_n rfl dX5_lookBehind_13 ?_
  refine am_iload rfl dX5_lookBehind_14 ?_
  refine am_isub dX5_lookBehind_16 ?_
  rw [iN_sub]
  refine am_istore (by decide) dX5_lookBehind_17 ?_
  refine am_aload_n rfl dX5_lookBehind_19 ?_
  refine am_iload rfl dX5_lookBehind_20 ?_
  refine am_callVi (c_X4_isSpeed ad M (iN (sl_w x - sl_b x))) okX4_isSpeed ml_X5_78 (by decide) rfl rfl rfl ⟨by decide, by decide⟩ (Nat.le_of_ble_eq_true rfl) rfl dX5_lookBehind_22 ?_
  refine am_ifb_eq (tgt := 42) (by decide) dX5_lookBehind_25 (fun h25 => ?_) (fun h25 => ?_)
  · refine am_vret rfl dX5_lookBehind_42 ?_
    have hs9 : sl_stop (am_V M) (am_E M sb) x := by
      first
      | (exact Or.inr (Or.inr h39))
      | (refine Classical.byContradiction fun q => ?_
         have q2 : ¬ (sl_w x - sl_b x < 0) ∧ ¬ (am_V M < sl_w x - sl_b x) := ⟨fun z => q (Or.inl z), fun z => q (Or.inr (Or.inl z))⟩
         have q3 := hsp.mpr (by omega)
         rw [q3] at h25
         cases h25)
    unfold sl_proc
    rw [if_pos hs9]
    exact ⟨rfl, hRC, sl_fr.rf 7 M⟩
  · refine am_aload_n rfl dX5_lookBehind_28 ?_
    refine am_iload_n rfl dX5_lookBehind_29 ?_
    refine am_iload rfl dX5_lookBehind_30 ?_
    refine am_aload_n rfl dX5_lookBehind_32 ?_
    refine am_geti (j := 0) (by decide) rfl rfl rfl hTX5 (by decide) fl_X5_28 dX5_lookBehind_33 ?_
    rw [hsb]
    refine am_callVi (c_X4_mayEnd ad M (iN (sl_w x)) (iN (sl_b x)) sb) okX4_mayEnd ml_X5_55 (by decide) rfl rfl rfl ⟨by decide, by decide⟩ (Nat.le_of_ble_eq_true rfl) rfl dX5_lookBehind_36 ?_
    refine am_ifb_ne (tgt := 43) (by decide) dX5_lookBehind_39 (fun h39 => ?_) (fun h39 => ?_)
    · refine am_aload_n rfl dX5_lookBehind_43 ?_
      refine am_iload_n rfl dX5_lookBehind_44 ?_
      refine am_iload rfl dX5_lookBehind_45 ?_
      refine am_callVi (c_X5_ticksFrom_7 ad M (sl_w x) (sl_b x) hw.1 hw.2.1 hw.2.2.1 hw.2.2.2) okX5_ticksFrom ml_X5_40 (by decide) rfl rfl rfl ⟨by decide, by decide⟩ (Nat.le_of_ble_eq_true rfl) rfl dX5_lookBehind_47 ?_
      rw [htk]
      refine am_iconst (v := 1) (by decide) dX5_lookBehind_50 ?_
      refine am_iadd dX5_lookBehind_51 ?_
      rw [show nI t + 1 = nI (t + 1) from nI_1 t]
      refine am_istore (by decide) dX5_lookBehind_52 ?_
      refine am_aload_n rfl dX5_lookBehind_54 ?_
      refine am_iload_n rfl dX5_lookBehind_55 ?_
      refine am_iload rfl dX5_lookBehind_56 ?_
      refine am_callVi (c_X5_stepsFrom_7 ad M (sl_w x) (sl_b x) hw.1 hw.2.1 hw.2.2.1 hw.2.2.2) okX5_stepsFrom ml_X5_43 (by decide) rfl rfl rfl ⟨by decide, by decide⟩ (Nat.le_of_ble_eq_true rfl) rfl dX5_lookBehind_58 ?_
      rw [hsk]
      refine am_iload_n rfl dX5_lookBehind_61 ?_
      refine am_iadd dX5_lookBehind_62 ?_
      rw [sl_stepe]
      refine am_istore (by decide) dX5_lookBehind_63 ?_
      refine am_aload_n rfl dX5_lookBehind_65 ?_
      refine am_iload rfl dX5_lookBehind_66 ?_
      refine am_callVi (c_X4_mostBeside ad _ _) okX4_mostBeside ml_X5_52 (by decide) rfl rfl rfl ⟨by decide, by decide⟩ (Nat.le_of_ble_eq_true rfl) rfl dX5_lookBehind_68 ?_
      rw [am_most_e hR hw.2.2.1 hw.2.2.2]
      refine am_istore (by decide) dX5_lookBehind_71 ?_
      refine am_aload_n rfl dX5_lookBehind_73 ?_
      refine am_iload rfl dX5_lookBehind_74 ?_
      refine am_callVi (c_X4_leastBeside ad _ _) okX4_leastBeside ml_X5_46 (by decide) rfl rfl rfl ⟨by decide, by decide⟩ (Nat.le_of_ble_eq_true rfl) rfl dX5_lookBehind_76 ?_
      rw [am_least_e hR hw.2.2.1 hw.2.2.2]
      refine am_istore (by decide) dX5_lookBehind_79 ?_
      have hsp2 := hsp.mp h25
      have hns : ¬ sl_stop (am_V M) (am_E M sb) x := by
        rintro (q | q | q)
        · omega
        · omega
        · exact absurd (q.symm.trans (show am_E M sb (sl_w x) (sl_b x) = true from h39)) (by decide)
      have hst := (am_state_iff hR (v := sl_w x) (a := sl_b x) (by omega) (by omega) (by omega) (by omega)).mp (by
        have h7 : sp_mayEnd M (iN (sl_w x)) (iN (sl_b x)) sb = true := h39
        simp only [sp_mayEnd, decide_eq_true_eq] at h7
        exact h7.1)
      have hq : am_V M = (M 1 0).toInt ∧ am_Ac M = (M 1 1).toInt ∧ am_J M = (M 1 2).toInt := ⟨rfl, rfl, rfl⟩
      have hq2 := hR
      unfold am_RI at hq2
      have hlh := bf_lohi (A := am_Ac M) (J := am_J M) (b := sl_b x) (by omega) (by omega) (by omega) (by omega)
      unfold sl_proc
      rw [if_neg hns, hd]
      refine lp_X5_look_7 ad M x t s hx _ _ _ (by omega) (by omega) (by omega) (bf_n (am_Ac M) (am_J M) (sl_b x)) _ _ _ (by unfold bf_n; omega) (by omega) hRC hok hd (sl_fr.rf 7 M) rfl
    · refine am_vret rfl dX5_lookBehind_42 ?_
      have hs9 : sl_stop (am_V M) (am_E M sb) x := by
        first
        | (exact Or.inr (Or.inr h39))
        | (refine Classical.byContradiction fun q => ?_
           have q2 : ¬ (sl_w x - sl_b x < 0) ∧ ¬ (am_V M < sl_w x - sl_b x) := ⟨fun z => q (Or.inl z), fun z => q (Or.inr (Or.inl z))⟩
           have q3 := hsp.mpr (by omega)
           rw [q3] at h25
           cases h25)
      unfold sl_proc
      rw [if_pos hs9]
      exact ⟨rfl, hRC, sl_fr.rf 7 M⟩
def sl_cb_7 (M : am_M) (v a : Int) : Int → Bool := fun b => sp_mayEnd M (iN (v + b)) (iN b) (decide (¬ M 7 0 = 0)) && decide (M 8 (sx (v + b) b) = M 8 (sx v a) - 1) && decide (M 9 (sx (v + b) b) + iN (v + b) = M 9 (sx v a))
def sl_nc_7 (M : am_M) (v a : Int) : Int := if M 8 (sx v a) < 1 then 5 else rn_s (sl_cb_7 M v a) (bf_n (am_Ac M) (am_J M) a) (bf_hi (am_Ac M) (am_J M) a)
theorem sl_flag_7 {M : am_M} (h : M 7 0 = 0 ∨ M 7 0 = 1) : M 7 0 = bI (decide (¬ M 7 0 = 0)) := by
  rcases h with h | h <;> simp [h, bI]
set_option maxRecDepth 100000 in
set_option maxHeartbeats 400000 in
theorem lp_X5_nc_7 (ad : Nat → Nat) (M : am_M) (hR : am_RI M) (h01 : M 7 0 = 0 ∨ M 7 0 = 1) (v a : Int) (h1 : 0 ≤ v) (h2 : v ≤ 12) (h3 : -4 ≤ a) (h4 : a ≤ 4)  (lo R : Int) (hlo : -4 ≤ lo) (hlo2 : lo ≤ 8) : ∀ (n : Nat) (b : Int) (nr : Option Value), (b + 1 = lo + n ∨ (n = 0 ∧ b < lo)) → b ≤ 4 → -10 ≤ b → rn_s (sl_cb_7 M v a) n b = R → am_W ydX5_nextChange ad am_II (am_is (iN R) M) 38 [some (.ref (ad 7)), some (.ref (ad 1)), some (.int (iN v)), some (.int (iN a)), some (.int (M 8 (sx v a))), some (.int (M 9 (sx v a))), some (.int (iN lo)), some (.int (iN b)), nr] [] M := by
  intro n
  induction n with
  | zero =>
    intro b nr hb hb4 hb5 he
    refine am_iload rfl dX5_nextChange_38 ?_
    refine am_iload rfl dX5_nextChange_40 ?_
    refine am_icmp_lt (tgt := 106) (by decide) dX5_nextChange_42 (fun h => ?_) (fun h => (by exfalso; simp only [Int32.lt_iff_toInt_lt, iN_e] at h; omega))
    rw [rn_s] at he
    subst he
    refine am_iconst (v := 5) (by decide) dX5_nextChange_106 ?_
    refine am_iret rfl dX5_nextChange_107 ?_
    exact ⟨rfl, rfl⟩
  | succ n ih =>
    intro b nr hb hb4 hb5 he
    rw [rn_s] at he
    refine am_iload rfl dX5_nextChange_38 ?_
    refine am_iload rfl dX5_nextChange_40 ?_
    refine am_icmp_lt (tgt := 106) (by decide) dX5_nextChange_42 (fun h => (by exfalso; simp only [Int32.lt_iff_toInt_lt, iN_e] at h; omega)) (fun h => ?_)
    have hst := am_state_iff hR (v := v + b) (a := b) (by omega) (by omega) (by omega) (by omega)
    have hq : am_V M = (M 1 0).toInt ∧ am_Ac M = (M 1 1).toInt ∧ am_J M = (M 1 2).toInt := ⟨rfl, rfl, rfl⟩
    have hq2 := hR
    unfold am_RI at hq2
    refine am_iload_n rfl dX5_nextChange_45 ?_
    refine am_iload rfl dX5_nextChange_46 ?_
    refine am_iadd dX5_nextChange_48 ?_
    rw [iN_add]
    refine am_istore (by decide) dX5_nextChange_49 ?_
    refine am_aload_n rfl dX5_nextChange_51 ?_
    refine am_iload rfl dX5_nextChange_52 ?_
    refine am_iload rfl dX5_nextChange_54 ?_
    refine am_aload_n rfl dX5_nextChange_56 ?_
    refine am_geti (j := 0) (by decide) rfl rfl rfl hTX5 (by decide) fl_X5_28 dX5_nextChange_57 ?_
    rw [sl_flag_7 h01]
    refine am_callVi (c_X4_mayEnd ad M (iN (v + b)) (iN b) (decide (¬ M 7 0 = 0))) okX4_mayEnd ml_X5_55 (by decide) rfl rfl rfl ⟨by decide, by decide⟩ (Nat.le_of_ble_eq_true rfl) rfl dX5_nextChange_60 ?_
    refine am_ifb_eq (tgt := 100) (by decide) dX5_nextChange_63 (fun h63 => ?_) (fun h63 => ?_)
    · have hng : ¬ sl_cb_7 M v a b = true := fun q => by
        unfold sl_cb_7 at q
        rw [Bool.and_eq_true, Bool.and_eq_true, decide_eq_true_eq, decide_eq_true_eq] at q
        first | exact h94 q.2 | exact h78 q.1.2 | (rw [q.1.1] at h63; cases h63)
      rw [if_neg hng] at he
      refine am_iinc rfl rfl (by decide) dX5_nextChange_100 ?_
      refine am_goto (tgt := 38) (by decide) dX5_nextChange_103 ?_
      exact am_eq (by rw [iN_dec]; rfl) rfl rfl (ih (b - 1) _ (by omega) (by omega) (by omega) he)
    · have hv := hst.mp (by have h7 := h63; simp only [sp_mayEnd, decide_eq_true_eq] at h7; exact h7.1)
      refine am_aload_n rfl dX5_nextChange_66 ?_
      refine am_iload rfl dX5_nextChange_67 ?_
      refine am_iload rfl dX5_nextChange_69 ?_
      refine am_callVi (c_X5_ticksFrom_7 ad M (v + b) b hv.1.1 (by omega) (by omega) (by omega)) okX5_ticksFrom ml_X5_40 (by decide) rfl rfl rfl ⟨by decide, by decide⟩ (Nat.le_of_ble_eq_true rfl) rfl dX5_nextChange_71 ?_
      refine am_iload rfl dX5_nextChange_74 ?_
      refine am_iconst (v := 1) (by decide) dX5_nextChange_76 ?_
      refine am_isub dX5_nextChange_77 ?_
      refine am_icmp_ne (tgt := 100) (by decide) dX5_nextChange_78 (fun h78 => ?_) (fun h78 => ?_)
      · have hng : ¬ sl_cb_7 M v a b = true := fun q => by
          unfold sl_cb_7 at q
          rw [Bool.and_eq_true, Bool.and_eq_true, decide_eq_true_eq, decide_eq_true_eq] at q
          first | exact h94 q.2 | exact h78 q.1.2 | (rw [q.1.1] at h63; cases h63)
        rw [if_neg hng] at he
        refine am_iinc rfl rfl (by decide) dX5_nextChange_100 ?_
        refine am_goto (tgt := 38) (by decide) dX5_nextChange_103 ?_
        exact am_eq (by rw [iN_dec]; rfl) rfl rfl (ih (b - 1) _ (by omega) (by omega) (by omega) he)
      · refine am_aload_n rfl dX5_nextChange_81 ?_
        refine am_iload rfl dX5_nextChange_82 ?_
        refine am_iload rfl dX5_nextChange_84 ?_
        refine am_callVi (c_X5_stepsFrom_7 ad M (v + b) b hv.1.1 (by omega) (by omega) (by omega)) okX5_stepsFrom ml_X5_43 (by decide) rfl rfl rfl ⟨by decide, by decide⟩ (Nat.le_of_ble_eq_true rfl) rfl dX5_nextChange_86 ?_
        refine am_iload rfl dX5_nextChange_89 ?_
        refine am_iadd dX5_nextChange_91 ?_
        refine am_iload rfl dX5_nextChange_92 ?_
        refine am_icmp_ne (tgt := 100) (by decide) dX5_nextChange_94 (fun h94 => ?_) (fun h94 => ?_)
        · have hng : ¬ sl_cb_7 M v a b = true := fun q => by
            unfold sl_cb_7 at q
            rw [Bool.and_eq_true, Bool.and_eq_true, decide_eq_true_eq, decide_eq_true_eq] at q
            first | exact h94 q.2 | exact h78 q.1.2 | (rw [q.1.1] at h63; cases h63)
          rw [if_neg hng] at he
          refine am_iinc rfl rfl (by decide) dX5_nextChange_100 ?_
          refine am_goto (tgt := 38) (by decide) dX5_nextChange_103 ?_
          exact am_eq (by rw [iN_dec]; rfl) rfl rfl (ih (b - 1) _ (by omega) (by omega) (by omega) he)
        · refine am_iload rfl dX5_nextChange_97 ?_
          refine am_iret rfl dX5_nextChange_99 ?_
          rw [if_pos (by unfold sl_cb_7; rw [Bool.and_eq_true, Bool.and_eq_true, decide_eq_true_eq, decide_eq_true_eq]; exact ⟨⟨h63, h78⟩, h94⟩)] at he
          subst he
          exact ⟨rfl, rfl⟩
set_option maxRecDepth 100000 in
set_option maxHeartbeats 400000 in
theorem c_X5_nextChange_7 (ad : Nat → Nat) (M : am_M) (v a : Int) (hR : am_RI M) (h01 : M 7 0 = 0 ∨ M 7 0 = 1) (h1 : 0 ≤ v) (h2 : v ≤ 12) (h3 : -4 ≤ a) (h4 : a ≤ 4) : am_C ydX5_nextChange ad am_II [.ref (ad 7), .ref (ad 1), .int (iN v), .int (iN a)] M (am_is (iN (sl_nc_7 M v a)) M) := by
  refine am_ofW (L := [some (.ref (ad 7)), some (.ref (ad 1)), some (.int (iN v)), some (.int (iN a)), none, none, none, none, none]) (by decide +kernel) (by simp [Value.category]) (Nat.le_of_ble_eq_true rfl) rfl ?_
  refine am_aload_n rfl dX5_nextChange_0 ?_
  refine am_iload_n rfl dX5_nextChange_1 ?_
  refine am_iload_n rfl dX5_nextChange_2 ?_
  refine am_callVi (c_X5_ticksFrom_7 ad M v a h1 h2 h3 h4) okX5_ticksFrom ml_X5_40 (by decide) rfl rfl rfl ⟨by decide, by decide⟩ (Nat.le_of_ble_eq_true rfl) rfl dX5_nextChange_3 ?_
  refine am_istore (by decide) dX5_nextChange_6 ?_
  refine am_iload rfl dX5_nextChange_8 ?_
  refine am_iconst (v := 1) (by decide) dX5_nextChange_10 ?_
  refine am_icmp_ge (tgt := 16) (by decide) dX5_nextChange_11 (fun h11 => ?_) (fun h11 => ?_)
  · refine am_aload_n rfl dX5_nextChange_16 ?_
    refine am_iload_n rfl dX5_nextChange_17 ?_
    refine am_iload_n rfl dX5_nextChange_18 ?_
    refine am_callVi (c_X5_stepsFrom_7 ad M v a h1 h2 h3 h4) okX5_stepsFrom ml_X5_43 (by decide) rfl rfl rfl ⟨by decide, by decide⟩ (Nat.le_of_ble_eq_true rfl) rfl dX5_nextChange_19 ?_
    refine am_istore (by decide) dX5_nextChange_22 ?_
    refine am_aload_n rfl dX5_nextChange_24 ?_
    refine am_iload_n rfl dX5_nextChange_25 ?_
    refine am_callVi (c_X4_leastBeside ad _ _) okX4_leastBeside ml_X5_46 (by decide) rfl rfl rfl ⟨by decide, by decide⟩ (Nat.le_of_ble_eq_true rfl) rfl dX5_nextChange_26 ?_
    rw [am_least_e hR h3 h4]
    refine am_istore (by decide) dX5_nextChange_29 ?_
    refine am_aload_n rfl dX5_nextChange_31 ?_
    refine am_iload_n rfl dX5_nextChange_32 ?_
    refine am_callVi (c_X4_mostBeside ad _ _) okX4_mostBeside ml_X5_52 (by decide) rfl rfl rfl ⟨by decide, by decide⟩ (Nat.le_of_ble_eq_true rfl) rfl dX5_nextChange_33 ?_
    rw [am_most_e hR h3 h4]
    refine am_istore (by decide) dX5_nextChange_36 ?_
    have hq : am_Ac M = (M 1 1).toInt ∧ am_J M = (M 1 2).toInt := ⟨rfl, rfl⟩
    have hq2 := hR
    unfold am_RI at hq2
    unfold sl_nc_7
    rw [if_neg (Int32.not_lt.mpr h11)]
    have hb1 : -4 ≤ bf_lo (am_Ac M) (am_J M) a := by unfold bf_lo; omega
    have hb0 : bf_lo (am_Ac M) (am_J M) a ≤ 8 := by unfold bf_lo; omega
    have hb7 : -10 ≤ bf_hi (am_Ac M) (am_J M) a := by unfold bf_hi; omega
    have hb2 : bf_hi (am_Ac M) (am_J M) a ≤ 4 := by unfold bf_hi; omega
    exact lp_X5_nc_7 ad M hR h01 v a h1 h2 h3 h4 _ _ hb1 hb0 (bf_n (am_Ac M) (am_J M) a) _ _ (by unfold bf_n; omega) hb2 hb7 rfl
  · refine am_iconst (v := 5) (by decide) dX5_nextChange_14 ?_
    refine am_iret rfl dX5_nextChange_15 ?_
    refine am_isE ?_
    unfold sl_nc_7
    rw [if_pos (Int32.not_le.mp h11)]
    rfl
set_option maxRecDepth 100000 in
set_option maxHeartbeats 400000 in
theorem c_X5_ticksFrom_11 (ad : Nat → Nat) (M : am_M) (v a : Int) (h1 : 0 ≤ v) (h2 : v ≤ 12) (h3 : -4 ≤ a) (h4 : a ≤ 4) : am_C ydX5_ticksFrom ad am_II [.ref (ad 11), .int (iN v), .int (iN a)] M (am_is (M 12 (sx v a)) M) := by
  refine am_ofW (L := [some (.ref (ad 11)), some (.int (iN v)), some (.int (iN a)), none]) (by decide +kernel) (by simp [Value.category]) (Nat.le_of_ble_eq_true rfl) rfl ?_
  refine am_iload_n rfl dX5_ticksFrom_0 ?_
  refine am_iload_n rfl dX5_ticksFrom_1 ?_
  refine am_callNi (c_X6_stateNumber ad _ _ _) okX6_stateNumber ml_X5_32 rfl ⟨by decide, by decide⟩ (Nat.le_of_ble_eq_true rfl) rfl dX5_ticksFrom_2 ?_
  rw [sp_num_e h1 h2 h3 h4]
  have hlt := (sx_lt h1 h2 h3 h4).1
  have hvp : vp_in (nI (sx v a)) 117 := vp_in_nI hlt (by omega)
  refine am_istore_n (by decide) dX5_ticksFrom_5 ?_
  refine am_aload_n rfl dX5_ticksFrom_6 ?_
  refine am_getr (j := 1) (by decide) rfl rfl rfl hTX5 (by decide) fl_X5_9 dX5_ticksFrom_7 ?_
  refine am_iload_n rfl dX5_ticksFrom_10 ?_
  refine am_callNi (c_X6_isIndexOf ad M 12 117 (nI (sx v a)) (by decide) rfl (by decide) hvp) okX6_isIndexOf ml_X5_36 rfl ⟨by decide, by decide⟩ (Nat.le_of_ble_eq_true rfl) rfl dX5_ticksFrom_11 ?_
  refine am_ifb_eq (tgt := 26) (by decide) dX5_ticksFrom_14 (fun h14 => ?_) (fun h14 => ?_)
  · cases h14
  · refine am_aload_n rfl dX5_ticksFrom_17 ?_
    refine am_getr (j := 1) (by decide) rfl rfl rfl hTX5 (by decide) fl_X5_9 dX5_ticksFrom_18 ?_
    refine am_iload_n rfl dX5_ticksFrom_21 ?_
    refine am_iald (by decide) rfl (hvp) dX5_ticksFrom_22 ?_
    refine am_goto (tgt := 27) (by decide) dX5_ticksFrom_23 ?_
    refine am_iret rfl dX5_ticksFrom_27 ?_
    refine am_isE ?_
    rw [nI_clamp (by omega)]
set_option maxRecDepth 100000 in
set_option maxHeartbeats 400000 in
theorem c_X5_stepsFrom_11 (ad : Nat → Nat) (M : am_M) (v a : Int) (h1 : 0 ≤ v) (h2 : v ≤ 12) (h3 : -4 ≤ a) (h4 : a ≤ 4) : am_C ydX5_stepsFrom ad am_II [.ref (ad 11), .int (iN v), .int (iN a)] M (am_is (M 13 (sx v a)) M) := by
  refine am_ofW (L := [some (.ref (ad 11)), some (.int (iN v)), some (.int (iN a)), none]) (by decide +kernel) (by simp [Value.category]) (Nat.le_of_ble_eq_true rfl) rfl ?_
  refine am_iload_n rfl dX5_stepsFrom_0 ?_
  refine am_iload_n rfl dX5_stepsFrom_1 ?_
  refine am_callNi (c_X6_stateNumber ad _ _ _) okX6_stateNumber ml_X5_32 rfl ⟨by decide, by decide⟩ (Nat.le_of_ble_eq_true rfl) rfl dX5_stepsFrom_2 ?_
  rw [sp_num_e h1 h2 h3 h4]
  have hlt := (sx_lt h1 h2 h3 h4).1
  have hvp : vp_in (nI (sx v a)) 117 := vp_in_nI hlt (by omega)
  refine am_istore_n (by decide) dX5_stepsFrom_5 ?_
  refine am_aload_n rfl dX5_stepsFrom_6 ?_
  refine am_getr (j := 2) (by decide) rfl rfl rfl hTX5 (by decide) fl_X5_15 dX5_stepsFrom_7 ?_
  refine am_iload_n rfl dX5_stepsFrom_10 ?_
  refine am_callNi (c_X6_isIndexOf ad M 13 117 (nI (sx v a)) (by decide) rfl (by decide) hvp) okX6_isIndexOf ml_X5_36 rfl ⟨by decide, by decide⟩ (Nat.le_of_ble_eq_true rfl) rfl dX5_stepsFrom_11 ?_
  refine am_ifb_eq (tgt := 26) (by decide) dX5_stepsFrom_14 (fun h14 => ?_) (fun h14 => ?_)
  · cases h14
  · refine am_aload_n rfl dX5_stepsFrom_17 ?_
    refine am_getr (j := 2) (by decide) rfl rfl rfl hTX5 (by decide) fl_X5_15 dX5_stepsFrom_18 ?_
    refine am_iload_n rfl dX5_stepsFrom_21 ?_
    refine am_iald (by decide) rfl (hvp) dX5_stepsFrom_22 ?_
    refine am_goto (tgt := 27) (by decide) dX5_stepsFrom_23 ?_
    refine am_iret rfl dX5_stepsFrom_27 ?_
    refine am_isE ?_
    rw [nI_clamp (by omega)]
set_option maxRecDepth 100000 in
set_option maxHeartbeats 400000 in
theorem lp_X5_look_11 (ad : Nat → Nat) (M : am_M) (x t s : Nat) (hx : x < 117) (v hi : Int) (BF : sl_B) (h1 : 0 ≤ v) (h2 : v ≤ 12) (h5 : hi ≤ 4) : ∀ (n : Nat) (a : Int) (N : am_M) (B : sl_B), a + n = hi + 1 → -4 ≤ a → sl_RC 11 N B → sl_ok B → B.1 x = some (t, s) → sl_fr 11 M N → sl_fold (fun a => sx v a) (t + 1) (s + x / 9) n a B = BF → am_W ydX5_lookBehind ad am_II (fun r N => r = none ∧ sl_RC 11 N BF ∧ sl_fr 11 M N) 81 [some (.ref (ad 11)), some (.ref (ad 1)), some (.int (nI x)), some (.int (iN (sl_w x))), some (.int (iN (sl_b x))), some (.int (iN v)), some (.int (nI (t + 1))), some (.int (nI (s + x / 9))), some (.int (iN hi)), some (.int (iN a))] [] N := by
  intro n
  induction n with
  | zero =>
    intro a N B ha h6 hRC hok hd hf he
    refine am_iload rfl dX5_lookBehind_81 ?_
    refine am_iload rfl dX5_lookBehind_83 ?_
    refine am_icmp_gt (tgt := 109) (by decide) dX5_lookBehind_85 (fun h => ?_) (fun h => (by exfalso; simp only [Int32.lt_iff_toInt_lt, iN_e] at h; omega))
    refine am_vret rfl dX5_lookBehind_109 ?_
    rw [sl_fold] at he
    subst he
    exact ⟨rfl, hRC, hf⟩
  | succ n ih =>
    intro a N B ha h6 hRC hok hd hf he
    have hix := sx_lt h1 h2 h6 (show a ≤ 4 by omega)
    have hd1 := hok.small hd
    rw [sl_fold] at he
    refine am_iload rfl dX5_lookBehind_81 ?_
    refine am_iload rfl dX5_lookBehind_83 ?_
    refine am_icmp_gt (tgt := 109) (by decide) dX5_lookBehind_85 (fun h => (by exfalso; simp only [Int32.lt_iff_toInt_lt, iN_e] at h; omega)) (fun h => ?_)
    refine am_aload_n rfl dX5_lookBehind_88 ?_
    refine am_iload rfl dX5_lookBehind_89 ?_
    refine am_iload rfl dX5_lookBehind_91 ?_
    refine am_callNi (c_X6_stateNumber ad _ _ _) okX6_stateNumber ml_X5_32 rfl ⟨by decide, by decide⟩ (Nat.le_of_ble_eq_true rfl) rfl dX5_lookBehind_93 ?_
    rw [sp_num_e h1 h2 h6 (by omega)]
    refine am_iload rfl dX5_lookBehind_96 ?_
    refine am_iload rfl dX5_lookBehind_98 ?_
    refine am_callV (c_X5_find_11 ad N B (sx v a) (t + 1) (s + x / 9) hRC hok hix.1 (by omega) (by omega)) okX5_find ml_X5_70 (by decide) rfl rfl rfl ⟨by decide, by decide⟩ (Nat.le_of_ble_eq_true rfl) rfl dX5_lookBehind_100 (fun r100 N100 p100 => ?_)
    obtain ⟨rfl, hRC1, hfr1⟩ := p100
    refine am_iinc rfl rfl (by decide) dX5_lookBehind_103 ?_
    refine am_goto (tgt := 81) (by decide) dX5_lookBehind_106 ?_
    exact am_eq (by rw [iN_inc]; rfl) rfl rfl (ih (a + 1) _ _ (by omega) (by omega) hRC1 (sl_push_ok hok hix.1 hd1.2.1 (by omega)) ((sl_push_le B _ _ _).2.2.2 x t s hd (by omega)) (hf.tr hfr1) he)
set_option maxRecDepth 100000 in
set_option maxHeartbeats 400000 in
theorem c_X5_lookBehind_11 (ad : Nat → Nat) (M : am_M) (B : sl_B) (x t s : Nat) (sb : Bool) (hR : am_RI M) (hsb : M 11 0 = bI sb) (hRC : sl_RC 11 M B) (hok : sl_ok B) (hx : x < 117) (hd : B.1 x = some (t, s)) : am_C ydX5_lookBehind ad am_II [.ref (ad 11), .ref (ad 1), .int (nI x)] M (fun r N => r = none ∧ sl_RC 11 N (sl_proc (am_V M) (am_Ac M) (am_J M) (am_E M sb) B x) ∧ sl_fr 11 M N) := by
  have hw := sl_wb hx
  have hxx : sx (sl_w x) (sl_b x) = x := by
    unfold sx sl_w sl_b
    omega
  have htk : M 12 (sx (sl_w x) (sl_b x)) = nI t := by
    rw [hxx, hRC.1 x hx, hd]
    rfl
  have hsk : M 13 (sx (sl_w x) (sl_b x)) = nI s := by
    rw [hxx]
    exact hRC.2.1 x t s hd
  have hsp := am_speed_iff (M := M) (v := sl_w x - sl_b x) (by omega) (by omega)
  refine am_ofW (L := [some (.ref (ad 11)), some (.ref (ad 1)), some (.int (nI x)), none, none, none, none, none, none, none]) (by decide +kernel) (by simp [Value.category]) (Nat.le_of_ble_eq_true rfl) rfl ?_
  refine am_iload_n rfl dX5_lookBehind_0 ?_
  refine am_bipush (v := 9) (by decide) dX5_lookBehind_1 ?_
  refine am_idiv (by decide) dX5_lookBehind_3 ?_
  rw [sl_we hx]
  refine am_istore_n (by decide) dX5_lookBehind_4 ?_
  refine am_iload_n rfl dX5_lookBehind_5 ?_
  refine am_bipush (v := 9) (by decide) dX5_lookBehind_6 ?_
  refine am_irem (by decide) dX5_lookBehind_8 ?_
  refine am_iconst (v := 4) (by decide) dX5_lookBehind_9 ?_
  refine am_isub dX5_lookBehind_10 ?_
  rw [← sl_we hx, sl_be hx, sl_we hx]
  refine am_istore (by decide) dX5_lookBehind_11 ?_
  refine am_iload_n rfl dX5_lookBehind_13 ?_
  refine am_iload rfl dX5_lookBehind_14 ?_
  refine am_isub dX5_lookBehind_16 ?_
  rw [iN_sub]
  refine am_istore (by decide) dX5_lookBehind_17 ?_
  refine am_aload_n rfl dX5_lookBehind_19 ?_
  refine am_iload rfl dX5_lookBehind_20 ?_
  refine am_callVi (c_X4_isSpeed ad M (iN (sl_w x - sl_b x))) okX4_isSpeed ml_X5_78 (by decide) rfl rfl rfl ⟨by decide, by decide⟩ (Nat.le_of_ble_eq_true rfl) rfl dX5_lookBehind_22 ?_
  refine am_ifb_eq (tgt := 42) (by decide) dX5_lookBehind_25 (fun h25 => ?_) (fun h25 => ?_)
  · refine am_vret rfl dX5_lookBehind_42 ?_
    have hs9 : sl_stop (am_V M) (am_E M sb) x := by
      first
      | (exact Or.inr (Or.inr h39))
      | (refine Classical.byContradiction fun q => ?_
         have q2 : ¬ (sl_w x - sl_b x < 0) ∧ ¬ (am_V M < sl_w x - sl_b x) := ⟨fun z => q (Or.inl z), fun z => q (Or.inr (Or.inl z))⟩
         have q3 := hsp.mpr (by omega)
         rw [q3] at h25
         cases h25)
    unfold sl_proc
    rw [if_pos hs9]
    exact ⟨rfl, hRC, sl_fr.rf 11 M⟩
  · refine am_aload_n rfl dX5_lookBehind_28 ?_
    refine am_iload_n rfl dX5_lookBehind_29 ?_
    refine am_iload rfl dX5_lookBehind_30 ?_
    refine am_aload_n rfl dX5_lookBehind_32 ?_
    refine am_geti (j := 0) (by decide) rfl rfl rfl hTX5 (by decide) fl_X5_28 dX5_lookBehind_33 ?_
    rw [hsb]
    refine am_callVi (c_X4_mayEnd ad M (iN (sl_w x)) (iN (sl_b x)) sb) okX4_mayEnd ml_X5_55 (by decide) rfl rfl rfl ⟨by decide, by decide⟩ (Nat.le_of_ble_eq_true rfl) rfl dX5_lookBehind_36 ?_
    refine am_ifb_ne (tgt := 43) (by decide) dX5_lookBehind_39 (fun h39 => ?_) (fun h39 => ?_)
    · refine am_aload_n rfl dX5_lookBehind_43 ?_
      refine am_iload_n rfl dX5_lookBehind_44 ?_
      refine am_iload rfl dX5_lookBehind_45 ?_
      refine am_callVi (c_X5_ticksFrom_11 ad M (sl_w x) (sl_b x) hw.1 hw.2.1 hw.2.2.1 hw.2.2.2) okX5_ticksFrom ml_X5_40 (by decide) rfl rfl rfl ⟨by decide, by decide⟩ (Nat.le_of_ble_eq_true rfl) rfl dX5_lookBehind_47 ?_
      rw [htk]
      refine am_iconst (v := 1) (by decide) dX5_lookBehind_50 ?_
      refine am_iadd dX5_lookBehind_51 ?_
      rw [show nI t + 1 = nI (t + 1) from nI_1 t]
      refine am_istore (by decide) dX5_lookBehind_52 ?_
      refine am_aload_n rfl dX5_lookBehind_54 ?_
      refine am_iload_n rfl dX5_lookBehind_55 ?_
      refine am_iload rfl dX5_lookBehind_56 ?_
      refine am_callVi (c_X5_stepsFrom_11 ad M (sl_w x) (sl_b x) hw.1 hw.2.1 hw.2.2.1 hw.2.2.2) okX5_stepsFrom ml_X5_43 (by decide) rfl rfl rfl ⟨by decide, by decide⟩ (Nat.le_of_ble_eq_true rfl) rfl dX5_lookBehind_58 ?_
      rw [hsk]
      refine am_iload_n rfl dX5_lookBehind_61 ?_
      refine am_iadd dX5_lookBehind_62 ?_
      rw [sl_stepe]
      refine am_istore (by decide) dX5_lookBehind_63 ?_
      refine am_aload_n rfl dX5_lookBehind_65 ?_
      refine am_iload rfl dX5_lookBehind_66 ?_
      refine am_callVi (c_X4_mostBeside ad _ _) okX4_mostBeside ml_X5_52 (by decide) rfl rfl rfl ⟨by decide, by decide⟩ (Nat.le_of_ble_eq_true rfl) rfl dX5_lookBehind_68 ?_
      rw [am_most_e hR hw.2.2.1 hw.2.2.2]
      refine am_istore (by decide) dX5_lookBehind_71 ?_
      refine am_aload_n rfl dX5_lookBehind_73 ?_
      refine am_iload rfl dX5_lookBehind_74 ?_
      refine am_callVi (c_X4_leastBeside ad _ _) okX4_leastBeside ml_X5_46 (by decide) rfl rfl rfl ⟨by decide, by decide⟩ (Nat.le_of_ble_eq_true rfl) rfl dX5_lookBehind_76 ?_
      rw [am_least_e hR hw.2.2.1 hw.2.2.2]
      refine am_istore (by decide) dX5_lookBehind_79 ?_
      have hsp2 := hsp.mp h25
      have hns : ¬ sl_stop (am_V M) (am_E M sb) x := by
        rintro (q | q | q)
        · omega
        · omega
        · exact absurd (q.symm.trans (show am_E M sb (sl_w x) (sl_b x) = true from h39)) (by decide)
      have hst := (am_state_iff hR (v := sl_w x) (a := sl_b x) (by omega) (by omega) (by omega) (by omega)).mp (by
        have h7 : sp_mayEnd M (iN (sl_w x)) (iN (sl_b x)) sb = true := h39
        simp only [sp_mayEnd, decide_eq_true_eq] at h7
        exact h7.1)
      have hq : am_V M = (M 1 0).toInt ∧ am_Ac M = (M 1 1).toInt ∧ am_J M = (M 1 2).toInt := ⟨rfl, rfl, rfl⟩
      have hq2 := hR
      unfold am_RI at hq2
      have hlh := bf_lohi (A := am_Ac M) (J := am_J M) (b := sl_b x) (by omega) (by omega) (by omega) (by omega)
      unfold sl_proc
      rw [if_neg hns, hd]
      refine lp_X5_look_11 ad M x t s hx _ _ _ (by omega) (by omega) (by omega) (bf_n (am_Ac M) (am_J M) (sl_b x)) _ _ _ (by unfold bf_n; omega) (by omega) hRC hok hd (sl_fr.rf 11 M) rfl
    · refine am_vret rfl dX5_lookBehind_42 ?_
      have hs9 : sl_stop (am_V M) (am_E M sb) x := by
        first
        | (exact Or.inr (Or.inr h39))
        | (refine Classical.byContradiction fun q => ?_
           have q2 : ¬ (sl_w x - sl_b x < 0) ∧ ¬ (am_V M < sl_w x - sl_b x) := ⟨fun z => q (Or.inl z), fun z => q (Or.inr (Or.inl z))⟩
           have q3 := hsp.mpr (by omega)
           rw [q3] at h25
           cases h25)
      unfold sl_proc
      rw [if_pos hs9]
      exact ⟨rfl, hRC, sl_fr.rf 11 M⟩
def sl_cb_11 (M : am_M) (v a : Int) : Int → Bool := fun b => sp_mayEnd M (iN (v + b)) (iN b) (decide (¬ M 11 0 = 0)) && decide (M 12 (sx (v + b) b) = M 12 (sx v a) - 1) && decide (M 13 (sx (v + b) b) + iN (v + b) = M 13 (sx v a))
def sl_nc_11 (M : am_M) (v a : Int) : Int := if M 12 (sx v a) < 1 then 5 else rn_s (sl_cb_11 M v a) (bf_n (am_Ac M) (am_J M) a) (bf_hi (am_Ac M) (am_J M) a)
theorem sl_flag_11 {M : am_M} (h : M 11 0 = 0 ∨ M 11 0 = 1) : M 11 0 = bI (decide (¬ M 11 0 = 0)) := by
  rcases h with h | h <;> simp [h, bI]
set_option maxRecDepth 100000 in
set_option maxHeartbeats 400000 in
theorem lp_X5_nc_11 (ad : Nat → Nat) (M : am_M) (hR : am_RI M) (h01 : M 11 0 = 0 ∨ M 11 0 = 1) (v a : Int) (h1 : 0 ≤ v) (h2 : v ≤ 12) (h3 : -4 ≤ a) (h4 : a ≤ 4)  (lo R : Int) (hlo : -4 ≤ lo) (hlo2 : lo ≤ 8) : ∀ (n : Nat) (b : Int) (nr : Option Value), (b + 1 = lo + n ∨ (n = 0 ∧ b < lo)) → b ≤ 4 → -10 ≤ b → rn_s (sl_cb_11 M v a) n b = R → am_W ydX5_nextChange ad am_II (am_is (iN R) M) 38 [some (.ref (ad 11)), some (.ref (ad 1)), some (.int (iN v)), some (.int (iN a)), some (.int (M 12 (sx v a))), some (.int (M 13 (sx v a))), some (.int (iN lo)), some (.int (iN b)), nr] [] M := by
  intro n
  induction n with
  | zero =>
    intro b nr hb hb4 hb5 he
    refine am_iload rfl dX5_nextChange_38 ?_
    refine am_iload rfl dX5_nextChange_40 ?_
    refine am_icmp_lt (tgt := 106) (by decide) dX5_nextChange_42 (fun h => ?_) (fun h => (by exfalso; simp only [Int32.lt_iff_toInt_lt, iN_e] at h; omega))
    rw [rn_s] at he
    subst he
    refine am_iconst (v := 5) (by decide) dX5_nextChange_106 ?_
    refine am_iret rfl dX5_nextChange_107 ?_
    exact ⟨rfl, rfl⟩
  | succ n ih =>
    intro b nr hb hb4 hb5 he
    rw [rn_s] at he
    refine am_iload rfl dX5_nextChange_38 ?_
    refine am_iload rfl dX5_nextChange_40 ?_
    refine am_icmp_lt (tgt := 106) (by decide) dX5_nextChange_42 (fun h => (by exfalso; simp only [Int32.lt_iff_toInt_lt, iN_e] at h; omega)) (fun h => ?_)
    have hst := am_state_iff hR (v := v + b) (a := b) (by omega) (by omega) (by omega) (by omega)
    have hq : am_V M = (M 1 0).toInt ∧ am_Ac M = (M 1 1).toInt ∧ am_J M = (M 1 2).toInt := ⟨rfl, rfl, rfl⟩
    have hq2 := hR
    unfold am_RI at hq2
    refine am_iload_n rfl dX5_nextChange_45 ?_
    refine am_iload rfl dX5_nextChange_46 ?_
    refine am_iadd dX5_nextChange_48 ?_
    rw [iN_add]
    refine am_istore (by decide) dX5_nextChange_49 ?_
    refine am_aload_n rfl dX5_nextChange_51 ?_
    refine am_iload rfl dX5_nextChange_52 ?_
    refine am_iload rfl dX5_nextChange_54 ?_
    refine am_aload_n rfl dX5_nextChange_56 ?_
    refine am_geti (j := 0) (by decide) rfl rfl rfl hTX5 (by decide) fl_X5_28 dX5_nextChange_57 ?_
    rw [sl_flag_11 h01]
    refine am_callVi (c_X4_mayEnd ad M (iN (v + b)) (iN b) (decide (¬ M 11 0 = 0))) okX4_mayEnd ml_X5_55 (by decide) rfl rfl rfl ⟨by decide, by decide⟩ (Nat.le_of_ble_eq_true rfl) rfl dX5_nextChange_60 ?_
    refine am_ifb_eq (tgt := 100) (by decide) dX5_nextChange_63 (fun h63 => ?_) (fun h63 => ?_)
    · have hng : ¬ sl_cb_11 M v a b = true := fun q => by
        unfold sl_cb_11 at q
        rw [Bool.and_eq_true, Bool.and_eq_true, decide_eq_true_eq, decide_eq_true_eq] at q
        first | exact h94 q.2 | exact h78 q.1.2 | (rw [q.1.1] at h63; cases h63)
      rw [if_neg hng] at he
      refine am_iinc rfl rfl (by decide) dX5_nextChange_100 ?_
      refine am_goto (tgt := 38) (by decide) dX5_nextChange_103 ?_
      exact am_eq (by rw [iN_dec]; rfl) rfl rfl (ih (b - 1) _ (by omega) (by omega) (by omega) he)
    · have hv := hst.mp (by have h7 := h63; simp only [sp_mayEnd, decide_eq_true_eq] at h7; exact h7.1)
      refine am_aload_n rfl dX5_nextChange_66 ?_
      refine am_iload rfl dX5_nextChange_67 ?_
      refine am_iload rfl dX5_nextChange_69 ?_
      refine am_callVi (c_X5_ticksFrom_11 ad M (v + b) b hv.1.1 (by omega) (by omega) (by omega)) okX5_ticksFrom ml_X5_40 (by decide) rfl rfl rfl ⟨by decide, by decide⟩ (Nat.le_of_ble_eq_true rfl) rfl dX5_nextChange_71 ?_
      refine am_iload rfl dX5_nextChange_74 ?_
      refine am_iconst (v := 1) (by decide) dX5_nextChange_76 ?_
      refine am_isub dX5_nextChange_77 ?_
      refine am_icmp_ne (tgt := 100) (by decide) dX5_nextChange_78 (fun h78 => ?_) (fun h78 => ?_)
      · have hng : ¬ sl_cb_11 M v a b = true := fun q => by
          unfold sl_cb_11 at q
          rw [Bool.and_eq_true, Bool.and_eq_true, decide_eq_true_eq, decide_eq_true_eq] at q
          first | exact h94 q.2 | exact h78 q.1.2 | (rw [q.1.1] at h63; cases h63)
        rw [if_neg hng] at he
        refine am_iinc rfl rfl (by decide) dX5_nextChange_100 ?_
        refine am_goto (tgt := 38) (by decide) dX5_nextChange_103 ?_
        exact am_eq (by rw [iN_dec]; rfl) rfl rfl (ih (b - 1) _ (by omega) (by omega) (by omega) he)
      · refine am_aload_n rfl dX5_nextChange_81 ?_
        refine am_iload rfl dX5_nextChange_82 ?_
        refine am_iload rfl dX5_nextChange_84 ?_
        refine am_callVi (c_X5_stepsFrom_11 ad M (v + b) b hv.1.1 (by omega) (by omega) (by omega)) okX5_stepsFrom ml_X5_43 (by decide) rfl rfl rfl ⟨by decide, by decide⟩ (Nat.le_of_ble_eq_true rfl) rfl dX5_nextChange_86 ?_
        refine am_iload rfl dX5_nextChange_89 ?_
        refine am_iadd dX5_nextChange_91 ?_
        refine am_iload rfl dX5_nextChange_92 ?_
        refine am_icmp_ne (tgt := 100) (by decide) dX5_nextChange_94 (fun h94 => ?_) (fun h94 => ?_)
        · have hng : ¬ sl_cb_11 M v a b = true := fun q => by
            unfold sl_cb_11 at q
            rw [Bool.and_eq_true, Bool.and_eq_true, decide_eq_true_eq, decide_eq_true_eq] at q
            first | exact h94 q.2 | exact h78 q.1.2 | (rw [q.1.1] at h63; cases h63)
          rw [if_neg hng] at he
          refine am_iinc rfl rfl (by decide) dX5_nextChange_100 ?_
          refine am_goto (tgt := 38) (by decide) dX5_nextChange_103 ?_
          exact am_eq (by rw [iN_dec]; rfl) rfl rfl (ih (b - 1) _ (by omega) (by omega) (by omega) he)
        · refine am_iload rfl dX5_nextChange_97 ?_
          refine am_iret rfl dX5_nextChange_99 ?_
          rw [if_pos (by unfold sl_cb_11; rw [Bool.and_eq_true, Bool.and_eq_true, decide_eq_true_eq, decide_eq_true_eq]; exact ⟨⟨h63, h78⟩, h94⟩)] at he
          subst he
          exact ⟨rfl, rfl⟩
set_option maxRecDepth 100000 in
set_option maxHeartbeats 400000 in
theorem c_X5_nextChange_11 (ad : Nat → Nat) (M : am_M) (v a : Int) (hR : am_RI M) (h01 : M 11 0 = 0 ∨ M 11 0 = 1) (h1 : 0 ≤ v) (h2 : v ≤ 12) (h3 : -4 ≤ a) (h4 : a ≤ 4) : am_C ydX5_nextChange ad am_II [.ref (ad 11), .ref (ad 1), .int (iN v), .int (iN a)] M (am_is (iN (sl_nc_11 M v a)) M) := by
  refine am_ofW (L := [some (.ref (ad 11)), some (.ref (ad 1)), some (.int (iN v)), some (.int (iN a)), none, none, none, none, none]) (by decide +kernel) (by simp [Value.category]) (Nat.le_of_ble_eq_true rfl) rfl ?_
  refine am_aload_n rfl dX5_nextChange_0 ?_
  refine am_iload_n rfl dX5_nextChange_1 ?_
  refine am_iload_n rfl dX5_nextChange_2 ?_
  refine am_callVi (c_X5_ticksFrom_11 ad M v a h1 h2 h3 h4) okX5_ticksFrom ml_X5_40 (by decide) rfl rfl rfl ⟨by decide, by decide⟩ (Nat.le_of_ble_eq_true rfl) rfl dX5_nextChange_3 ?_
  refine am_istore (by decide) dX5_nextChange_6 ?_
  refine am_iload rfl dX5_nextChange_8 ?_
  refine am_iconst (v := 1) (by decide) dX5_nextChange_10 ?_
  refine am_icmp_ge (tgt := 16) (by decide) dX5_nextChange_11 (fun h11 => ?_) (fun h11 => ?_)
  · refine am_aload_n rfl dX5_nextChange_16 ?_
    refine am_iload_n rfl dX5_nextChange_17 ?_
    refine am_iload_n rfl dX5_nextChange_18 ?_
    refine am_callVi (c_X5_stepsFrom_11 ad M v a h1 h2 h3 h4) okX5_stepsFrom ml_X5_43 (by decide) rfl rfl rfl ⟨by decide, by decide⟩ (Nat.le_of_ble_eq_true rfl) rfl dX5_nextChange_19 ?_
    refine am_istore (by decide) dX5_nextChange_22 ?_
    refine am_aload_n rfl dX5_nextChange_24 ?_
    refine am_iload_n rfl dX5_nextChange_25 ?_
    refine am_callVi (c_X4_leastBeside ad _ _) okX4_leastBeside ml_X5_46 (by decide) rfl rfl rfl ⟨by decide, by decide⟩ (Nat.le_of_ble_eq_true rfl) rfl dX5_nextChange_26 ?_
    rw [am_least_e hR h3 h4]
    refine am_istore (by decide) dX5_nextChange_29 ?_
    refine am_aload_n rfl dX5_nextChange_31 ?_
    refine am_iload_n rfl dX5_nextChange_32 ?_
    refine am_callVi (c_X4_mostBeside ad _ _) okX4_mostBeside ml_X5_52 (by decide) rfl rfl rfl ⟨by decide, by decide⟩ (Nat.le_of_ble_eq_true rfl) rfl dX5_nextChange_33 ?_
    rw [am_most_e hR h3 h4]
    refine am_istore (by decide) dX5_nextChange_36 ?_
    have hq : am_Ac M = (M 1 1).toInt ∧ am_J M = (M 1 2).toInt := ⟨rfl, rfl⟩
    have hq2 := hR
    unfold am_RI at hq2
    unfold sl_nc_11
    rw [if_neg (Int32.not_lt.mpr h11)]
    have hb1 : -4 ≤ bf_lo (am_Ac M) (am_J M) a := by unfold bf_lo; omega
    have hb0 : bf_lo (am_Ac M) (am_J M) a ≤ 8 := by unfold bf_lo; omega
    have hb7 : -10 ≤ bf_hi (am_Ac M) (am_J M) a := by unfold bf_hi; omega
    have hb2 : bf_hi (am_Ac M) (am_J M) a ≤ 4 := by unfold bf_hi; omega
    exact lp_X5_nc_11 ad M hR h01 v a h1 h2 h3 h4 _ _ hb1 hb0 (bf_n (am_Ac M) (am_J M) a) _ _ (by unfold bf_n; omega) hb2 hb7 rfl
  · refine am_iconst (v := 5) (by decide) dX5_nextChange_14 ?_
    refine am_iret rfl dX5_nextChange_15 ?_
    refine am_isE ?_
    unfold sl_nc_11
    rw [if_pos (Int32.not_le.mp h11)]
    rfl

set_option maxRecDepth 100000 in
set_option maxHeartbeats 400000 in
theorem lp_X7_home2 (ad : Nat → Nat) (K : am_M) (ax : Int32) (h : sp_in ax 0 2 = true) (S : Int32) (hS : K 34 ax.toNatClampNeg = S) (hS2 : -2000 ≤ S.toInt ∧ S.toInt ≤ 2000) (r : Int32) : ∀ (z : Nat) (T c : Int32), S.toInt - T.toInt = z → c + (S - T) = r → am_W ydX7_home ad am_II (am_is r (am_put (am_put K 32 ax.toNatClampNeg S) 31 ax.toNatClampNeg 0)) 80 [some (.ref (ad 21)), some (.int ax), some (.int c)] [] (am_put K 32 ax.toNatClampNeg T) := by
  intro z
  induction z with
  | zero =>
    intro T c hz hr
    obtain rfl : T = S := i_inj (by omega)
    refine am_aload_n rfl dX7_home_80 ?_
    refine am_getr (j := 20) (by decide) rfl rfl rfl hTX7 (by decide) fl_X7_51 dX7_home_81 ?_
    refine am_iload_n rfl dX7_home_84 ?_
    refine am_iald (by decide) rfl (am_vp3 h) dX7_home_85 ?_
    refine am_aload_n rfl dX7_home_86 ?_
    refine am_getr (j := 31) (by decide) rfl rfl rfl hTX7 (by decide) fl_X7_60 dX7_home_87 ?_
    refine am_iload_n rfl dX7_home_90 ?_
    refine am_iald (by decide) rfl (am_vp3 h) dX7_home_91 ?_
    rw [am_put_ne K 32 _ _ (show (34 : Nat) ≠ 32 by decide), hS, am_rd, if_pos ⟨rfl, rfl⟩]
    refine am_icmp_ge (tgt := 111) (by decide) dX7_home_92 (fun h92 => ?_) (fun h92 => ?_)
    · refine am_aload_n rfl dX7_home_111 ?_
      refine am_getr (j := 19) (by decide) rfl rfl rfl hTX7 (by decide) fl_X7_48 dX7_home_112 ?_
      refine am_iload_n rfl dX7_home_115 ?_
      refine am_iconst (v := 0) (by decide) dX7_home_116 ?_
      refine am_iast (by decide) rfl (am_vp3 h) dX7_home_117 ?_
      refine am_iload_n rfl dX7_home_118 ?_
      refine am_iret rfl dX7_home_119 ?_
      refine ⟨?_, rfl⟩
      rw [← hr]
      congr 2
      apply i_inj
      have := i_rng c
      simp only [i_add, i_sub]
      omega
    · exfalso; simp only [Int32.le_iff_toInt_le] at h92; omega
  | succ z ih =>
    intro T c hz hr
    refine am_aload_n rfl dX7_home_80 ?_
    refine am_getr (j := 20) (by decide) rfl rfl rfl hTX7 (by decide) fl_X7_51 dX7_home_81 ?_
    refine am_iload_n rfl dX7_home_84 ?_
    refine am_iald (by decide) rfl (am_vp3 h) dX7_home_85 ?_
    refine am_aload_n rfl dX7_home_86 ?_
    refine am_getr (j := 31) (by decide) rfl rfl rfl hTX7 (by decide) fl_X7_60 dX7_home_87 ?_
    refine am_iload_n rfl dX7_home_90 ?_
    refine am_iald (by decide) rfl (am_vp3 h) dX7_home_91 ?_
    rw [am_put_ne K 32 _ _ (show (34 : Nat) ≠ 32 by decide), hS, am_rd, if_pos ⟨rfl, rfl⟩]
    refine am_icmp_ge (tgt := 111) (by decide) dX7_home_92 (fun h92 => ?_) (fun h92 => ?_)
    · exfalso; simp only [Int32.le_iff_toInt_le] at h92; omega
    · refine am_aload_n rfl dX7_home_95 ?_
      refine am_getr (j := 20) (by decide) rfl rfl rfl hTX7 (by decide) fl_X7_51 dX7_home_96 ?_
      refine am_iload_n rfl dX7_home_99 ?_
      refine am_dup2 rfl rfl dX7_home_100 ?_
      refine am_iald (by decide) rfl (am_vp3 h) dX7_home_101 ?_
      refine am_iconst (v := 1) (by decide) dX7_home_102 ?_
      rw [am_rd, if_pos ⟨rfl, rfl⟩]
      refine am_iadd dX7_home_103 ?_
      refine am_iast (by decide) rfl (am_vp3 h) dX7_home_104 ?_
      refine am_iinc rfl rfl (by decide) dX7_home_105 ?_
      refine am_goto (tgt := 80) (by decide) dX7_home_108 ?_
      have hT := i_rng T
      refine am_M_eq (am_put_put _ _ _ _ _) (ih (T + 1) _ (by simp only [i_add, kI_1]; omega) ?_)
      rw [← hr]
      apply i_inj
      have e1 : (Int32.ofInt 1).toInt = 1 := by decide
      simp only [i_add, i_sub, e1, kI_1]
      omega
set_option maxRecDepth 100000 in
set_option maxHeartbeats 400000 in
theorem lp_X7_home1 (ad : Nat → Nat) (K : am_M) (ax : Int32) (h : sp_in ax 0 2 = true) (S : Int32) (hS : K 34 ax.toNatClampNeg = S) (hS2 : -2000 ≤ S.toInt ∧ S.toInt ≤ 2000) (r : Int32) : ∀ (z : Nat) (T c : Int32), T.toInt - S.toInt + 1 = z → c + (T - (S - 1) + 1) = r → am_W ydX7_home ad am_II (am_is r (am_put (am_put K 32 ax.toNatClampNeg S) 31 ax.toNatClampNeg 0)) 49 [some (.ref (ad 21)), some (.int ax), some (.int c)] [] (am_put K 32 ax.toNatClampNeg T) := by
  intro z
  induction z with
  | zero =>
    intro T c hz hr
    refine am_aload_n rfl dX7_home_49 ?_
    refine am_getr (j := 20) (by decide) rfl rfl rfl hTX7 (by decide) fl_X7_51 dX7_home_50 ?_
    refine am_iload_n rfl dX7_home_53 ?_
    refine am_iald (by decide) rfl (am_vp3 h) dX7_home_54 ?_
    refine am_aload_n rfl dX7_home_55 ?_
    refine am_getr (j := 31) (by decide) rfl rfl rfl hTX7 (by decide) fl_X7_60 dX7_home_56 ?_
    refine am_iload_n rfl dX7_home_59 ?_
    refine am_iald (by decide) rfl (am_vp3 h) dX7_home_60 ?_
    rw [am_put_ne K 32 _ _ (show (34 : Nat) ≠ 32 by decide), hS, am_rd, if_pos ⟨rfl, rfl⟩]
    refine am_icmp_lt (tgt := 80) (by decide) dX7_home_61 (fun h61 => ?_) (fun h61 => ?_)
    · refine lp_X7_home2 ad K ax h S hS hS2 r 1 T c (by omega) ?_
      rw [← hr]
      apply i_inj
      simp only [i_add, i_sub, kI_1]
      omega
    · exfalso; simp only [Int32.lt_iff_toInt_lt] at h61; omega
  | succ z ih =>
    intro T c hz hr
    refine am_aload_n rfl dX7_home_49 ?_
    refine am_getr (j := 20) (by decide) rfl rfl rfl hTX7 (by decide) fl_X7_51 dX7_home_50 ?_
    refine am_iload_n rfl dX7_home_53 ?_
    refine am_iald (by decide) rfl (am_vp3 h) dX7_home_54 ?_
    refine am_aload_n rfl dX7_home_55 ?_
    refine am_getr (j := 31) (by decide) rfl rfl rfl hTX7 (by decide) fl_X7_60 dX7_home_56 ?_
    refine am_iload_n rfl dX7_home_59 ?_
    refine am_iald (by decide) rfl (am_vp3 h) dX7_home_60 ?_
    rw [am_put_ne K 32 _ _ (show (34 : Nat) ≠ 32 by decide), hS, am_rd, if_pos ⟨rfl, rfl⟩]
    refine am_icmp_lt (tgt := 80) (by decide) dX7_home_61 (fun h61 => ?_) (fun h61 => ?_)
    · exfalso; simp only [Int32.lt_iff_toInt_lt] at h61; omega
    · refine am_aload_n rfl dX7_home_64 ?_
      refine am_getr (j := 20) (by decide) rfl rfl rfl hTX7 (by decide) fl_X7_51 dX7_home_65 ?_
      refine am_iload_n rfl dX7_home_68 ?_
      refine am_dup2 rfl rfl dX7_home_69 ?_
      refine am_iald (by decide) rfl (am_vp3 h) dX7_home_70 ?_
      refine am_iconst (v := 1) (by decide) dX7_home_71 ?_
      rw [am_rd, if_pos ⟨rfl, rfl⟩]
      refine am_isub dX7_home_72 ?_
      refine am_iast (by decide) rfl (am_vp3 h) dX7_home_73 ?_
      refine am_iinc rfl rfl (by decide) dX7_home_74 ?_
      refine am_goto (tgt := 49) (by decide) dX7_home_77 ?_
      have hT := i_rng T
      refine am_M_eq (am_put_put _ _ _ _ _) (ih (T - 1) _ (by simp only [i_sub, kI_1]; omega) ?_)
      rw [← hr]
      apply i_inj
      have e1 : (Int32.ofInt 1).toInt = 1 := by decide
      simp only [i_add, i_sub, e1, kI_1]
      omega
def mo_okHome (K : am_M) (x : Int32) : Bool := !mo_mv K && sp_in x 0 2 && decide (¬ K 35 x.toNatClampNeg = 0)
def mo_made (K : am_M) (x : Nat) : Int32 := if K 34 x ≤ K 32 x then K 32 x - (K 34 x - 1) + 1 else K 34 x - K 32 x
set_option maxRecDepth 100000 in
set_option maxHeartbeats 400000 in
theorem c_X7_home (ad : Nat → Nat) (M : am_M) (ax : Int32) (hS : ∀ x, -2000 ≤ (M 34 x).toInt ∧ (M 34 x).toInt ≤ 2000) : am_C ydX7_home ad am_II [.ref (ad 21), .int ax] M (am_is (if mo_okHome (md M) ax = true then mo_made (md M) ax.toNatClampNeg else -1) (if mo_okHome (md M) ax = true then (am_put (am_put (md M) 32 ax.toNatClampNeg (md M 34 ax.toNatClampNeg)) 31 ax.toNatClampNeg 0) else md M)) := by
  refine am_ofW (L := [some (.ref (ad 21)), some (.int ax), none]) (by decide +kernel) (by simp [Value.category]) (Nat.le_of_ble_eq_true rfl) rfl ?_
  refine am_aload_n rfl dX7_home_0 ?_
  refine am_iconst (v := 0) (by decide) dX7_home_1 ?_
  refine am_puti (j := 0) (by decide) rfl rfl rfl hTX7 tyX7_ok nmX7 (by decide) fl_X7_73 rfl rfl rfl rfl dX7_home_2 ?_
  refine am_aload_n rfl dX7_home_5 ?_
  refine am_geti (j := 15) (by decide) rfl rfl rfl hTX7 (by decide) fl_X7_76 dX7_home_6 ?_
  refine am_if_ne (tgt := 30) (by decide) dX7_home_9 (fun h9 => ?_) (fun h9 => ?_)
  · refine am_iconst (v := (-1)) (by decide) dX7_home_30 ?_
    refine am_iret rfl dX7_home_31 ?_
    have hno : ¬ mo_okHome (md M) ax = true := (by simp_all [mo_okHome, mo_mv])
    rw [if_neg hno, if_neg hno]
    exact ⟨rfl, rfl⟩
  · refine am_iload_n rfl dX7_home_12 ?_
    refine am_iconst (v := 0) (by decide) dX7_home_13 ?_
    refine am_iconst (v := 2) (by decide) dX7_home_14 ?_
    refine am_callSi (c_X7_isIn ad _ _ _ _) okX7_isIn ml_X7_80 rfl ⟨by decide, by decide⟩ (Nat.le_of_ble_eq_true rfl) rfl dX7_home_15 ?_
    refine am_ifb_eq (tgt := 30) (by decide) dX7_home_18 (fun h18 => ?_) (fun h18 => ?_)
    · refine am_iconst (v := (-1)) (by decide) dX7_home_30 ?_
      refine am_iret rfl dX7_home_31 ?_
      have hno : ¬ mo_okHome (md M) ax = true := (by simp_all [mo_okHome, mo_mv])
      rw [if_neg hno, if_neg hno]
      exact ⟨rfl, rfl⟩
    · refine am_aload_n rfl dX7_home_21 ?_
      refine am_getr (j := 32) (by decide) rfl rfl rfl hTX7 (by decide) fl_X7_63 dX7_home_22 ?_
      refine am_iload_n rfl dX7_home_25 ?_
      refine am_zald (by decide) rfl (am_vp3 h18) dX7_home_26 ?_
      refine am_if_ne (tgt := 32) (by decide) dX7_home_27 (fun h27 => ?_) (fun h27 => ?_)
      · have hok : mo_okHome (md M) ax = true := (by simp_all [mo_okHome, mo_mv])
        rw [if_pos hok, if_pos hok]
        have hS2 : -2000 ≤ (md M 34 ax.toNatClampNeg).toInt ∧ (md M 34 ax.toNatClampNeg).toInt ≤ 2000 := by rw [md_ne M (by decide)]; exact hS _
        refine am_iconst (v := 0) (by decide) dX7_home_32 ?_
        refine am_istore_n (by decide) dX7_home_33 ?_
        refine am_aload_n rfl dX7_home_34 ?_
        refine am_getr (j := 20) (by decide) rfl rfl rfl hTX7 (by decide) fl_X7_51 dX7_home_35 ?_
        refine am_iload_n rfl dX7_home_38 ?_
        refine am_iald (by decide) rfl (am_vp3 h18) dX7_home_39 ?_
        refine am_aload_n rfl dX7_home_40 ?_
        refine am_getr (j := 31) (by decide) rfl rfl rfl hTX7 (by decide) fl_X7_60 dX7_home_41 ?_
        refine am_iload_n rfl dX7_home_44 ?_
        refine am_iald (by decide) rfl (am_vp3 h18) dX7_home_45 ?_
        refine am_icmp_lt (tgt := 80) (by decide) dX7_home_46 (fun h46 => ?_) (fun h46 => ?_)
        · refine am_M_eq (am_put_self (md M) 32 ax.toNatClampNeg).symm ?_
          have hlt : md M 32 ax.toNatClampNeg < md M 34 ax.toNatClampNeg := h46
          refine lp_X7_home2 ad (md M) ax h18 _ rfl hS2 _ ((md M 34 ax.toNatClampNeg).toInt - (md M 32 ax.toNatClampNeg).toInt).toNat _ _ ?_ ?_
          · rw [Int32.lt_iff_toInt_lt] at hlt; omega
          · unfold mo_made
            rw [if_neg (Int32.not_le.mpr hlt)]
            exact Int32.zero_add _
        · refine am_M_eq (am_put_self (md M) 32 ax.toNatClampNeg).symm ?_
          have hle : md M 34 ax.toNatClampNeg ≤ md M 32 ax.toNatClampNeg := Int32.not_lt.mp h46
          refine lp_X7_home1 ad (md M) ax h18 _ rfl hS2 _ ((md M 32 ax.toNatClampNeg).toInt - (md M 34 ax.toNatClampNeg).toInt + 1).toNat _ _ ?_ ?_
          · rw [Int32.le_iff_toInt_le] at hle; omega
          · unfold mo_made
            rw [if_pos hle]
            exact Int32.zero_add _
      · refine am_iconst (v := (-1)) (by decide) dX7_home_30 ?_
        refine am_iret rfl dX7_home_31 ?_
        have hno : ¬ mo_okHome (md M) ax = true := (by simp_all [mo_okHome, mo_mv])
        rw [if_neg hno, if_neg hno]
        exact ⟨rfl, rfl⟩
def mo_r (K : am_M) (p : Int32) : Int32 := p - p / K 21 34 * K 21 34
def mo_q (K : am_M) (p : Int32) : Int32 := p / K 21 34 - p / K 21 34 / 4 * 4
def mo_cur (K : am_M) (p w : Int32) : Int32 := if mo_q K p = 0 then (if w = 0 then K 36 (mo_r K p).toNatClampNeg else K 36 (K 21 34 - mo_r K p).toNatClampNeg) else if mo_q K p = 1 then (if w = 0 then -K 36 (K 21 34 - mo_r K p).toNatClampNeg else K 36 (mo_r K p).toNatClampNeg) else if mo_q K p = 2 then (if w = 0 then -K 36 (mo_r K p).toNatClampNeg else -K 36 (K 21 34 - mo_r K p).toNatClampNeg) else (if w = 0 then K 36 (K 21 34 - mo_r K p).toNatClampNeg else -K 36 (mo_r K p).toNatClampNeg)
def mo_okCur (p w : Int32) : Bool := sp_in p 0 1000 && sp_in w 0 1
theorem mo_r_in {K : am_M} {k : Nat} (h1 : 1 ≤ k) (h2 : k ≤ 8) (hK : K 21 34 = nI k) {p : Int32} (hp : sp_in p 0 1000 = true) : vp_in (mo_r K p) 9 ∧ vp_in (K 21 34 - mo_r K p) 9 := by
  simp only [sp_in, decide_eq_true_eq, Int32.le_iff_toInt_le, Int32.toInt_zero, kI_1000] at hp
  have ep : p = nI p.toInt.toNat := i_inj (by rw [nI_e]; omega)
  have e : mo_r K p = nI (p.toInt.toNat % k) := by
    unfold mo_r
    rw [hK]
    conv => lhs; rw [ep]
    exact pk_rem (by omega) (by omega) (by omega)
  have hl := Nat.mod_lt p.toInt.toNat (show 0 < k by omega)
  rw [e, hK]
  exact ⟨vp_in_nI (by omega) (by omega), am_vpI (by simp only [i_sub, nI_e]; omega) (by simp only [i_sub, nI_e]; omega)⟩
set_option maxRecDepth 100000 in
set_option maxHeartbeats 400000 in
theorem c_X7_current (ad : Nat → Nat) (M : am_M) (p w : Int32) (k : Nat) (hk : 1 ≤ k ∧ k ≤ 8) (hK : M 21 34 = nI k) : am_C ydX7_current ad am_II [.ref (ad 21), .int p, .int w] M (am_is (if mo_okCur p w = true then mo_cur (md M) p w else 0) (am_put M 21 0 (if mo_okCur p w = true then 0 else 1))) := by
  refine am_ofW (L := [some (.ref (ad 21)), some (.int p), some (.int w), none, none, none]) (by decide +kernel) (by simp [Value.category]) (Nat.le_of_ble_eq_true rfl) rfl ?_
  refine am_aload_n rfl dX7_current_0 ?_
  refine am_iload_n rfl dX7_current_1 ?_
  refine am_iconst (v := 0) (by decide) dX7_current_2 ?_
  refine am_sipush (v := 1000) (by decide) dX7_current_3 ?_
  refine am_callSi (c_X7_isIn ad _ _ _ _) okX7_isIn ml_X7_80 rfl ⟨by decide, by decide⟩ (Nat.le_of_ble_eq_true rfl) rfl dX7_current_6 ?_
  refine am_ifb_eq (tgt := 21) (by decide) dX7_current_9 (fun h9 => ?_) (fun h9 => ?_)
  · refine am_iconst (v := 1) (by decide) dX7_current_21 ?_
    refine am_goto (tgt := 26) (by decide) dX7_current_22 ?_
    refine am_puti (j := 0) (by decide) rfl rfl rfl hTX7 tyX7_ok nmX7 (by decide) fl_X7_73 rfl rfl rfl rfl dX7_current_26 ?_
    refine am_aload_n rfl dX7_current_29 ?_
    refine am_geti (j := 0) (by decide) rfl rfl rfl hTX7 (by decide) fl_X7_73 dX7_current_30 ?_
    refine am_if_le (tgt := 38) (by decide) dX7_current_33 (fun h33 => absurd h33 (by rw [am_rd, if_pos ⟨rfl, rfl⟩]; decide)) (fun h33 => ?_)
    refine am_iconst (v := 0) (by decide) dX7_current_36 ?_
    refine am_iret rfl dX7_current_37 ?_
    first
    | (have hno : ¬ mo_okCur p w = true := (by simp_all [mo_okCur])
       rw [if_neg hno, if_neg hno]; exact ⟨rfl, rfl⟩)
    | exact absurd h33 (by rw [am_rd, if_pos ⟨rfl, rfl⟩]; decide)
    | (rw [if_pos hok, if_pos hok]
       refine ⟨?_, rfl⟩
       unfold mo_cur mo_r
       first
       | (rw [show mo_q (md M) p = _ from h74c, if_pos rfl]; first | rw [if_pos h101] | rw [if_neg h101])
       | (rw [show mo_q (md M) p = _ from h74c, if_neg (by decide), if_pos rfl]; first | rw [if_pos h113] | rw [if_neg h113])
       | (rw [show mo_q (md M) p = _ from h74c, if_neg (by decide), if_neg (by decide), if_pos rfl]; first | rw [if_pos h126] | rw [if_neg h126])
       | (rw [if_neg (fun e => by have e2 : (p / am_put M 21 0 0 21 34 - p / am_put M 21 0 0 21 34 / 4 * 4) = _ := e; rw [e2] at h74o; revert h74o; decide), if_neg (fun e => by have e2 : (p / am_put M 21 0 0 21 34 - p / am_put M 21 0 0 21 34 / 4 * 4) = _ := e; rw [e2] at h74o; revert h74o; decide), if_neg (fun e => by have e2 : (p / am_put M 21 0 0 21 34 - p / am_put M 21 0 0 21 34 / 4 * 4) = _ := e; rw [e2] at h74o; revert h74o; decide)]; first | rw [if_pos h140] | rw [if_neg h140]))
  · refine am_iload_n rfl dX7_current_12 ?_
    refine am_iconst (v := 0) (by decide) dX7_current_13 ?_
    refine am_iconst (v := 1) (by decide) dX7_current_14 ?_
    refine am_callSi (c_X7_isIn ad _ _ _ _) okX7_isIn ml_X7_80 rfl ⟨by decide, by decide⟩ (Nat.le_of_ble_eq_true rfl) rfl dX7_current_15 ?_
    refine am_ifb_ne (tgt := 25) (by decide) dX7_current_18 (fun h18 => ?_) (fun h18 => ?_)
    · refine am_iconst (v := 0) (by decide) dX7_current_25 ?_
      refine am_puti (j := 0) (by decide) rfl rfl rfl hTX7 tyX7_ok nmX7 (by decide) fl_X7_73 rfl rfl rfl rfl dX7_current_26 ?_
      refine am_aload_n rfl dX7_current_29 ?_
      refine am_geti (j := 0) (by decide) rfl rfl rfl hTX7 (by decide) fl_X7_73 dX7_current_30 ?_
      refine am_if_le (tgt := 38) (by decide) dX7_current_33 (fun h33 => ?_) (fun h33 => absurd h33 (by rw [am_rd, if_pos ⟨rfl, rfl⟩]; decide))
      have hok : mo_okCur p w = true := by (unfold mo_okCur; rw [h9, h18]; rfl)
      have hK2 : md M 21 34 = nI k := by rw [md_f M (by decide)]; exact hK
      have hnz : ¬ md M 21 34 = 0 := by (rw [hK2]; exact nI_nz hk.1 hk.2)
      refine am_iload_n rfl dX7_current_38 ?_
      refine am_aload_n rfl dX7_current_39 ?_
      refine am_geti (j := 34) (by decide) rfl rfl rfl hTX7 (by decide) fl_X7_174 dX7_current_40 ?_
      refine am_irem (hnz) dX7_current_43 ?_
      refine am_istore_n (by decide) dX7_current_44 ?_
      refine am_aload_n rfl dX7_current_45 ?_
      refine am_getr (j := 33) (by decide) rfl rfl rfl hTX7 (by decide) fl_X7_66 dX7_current_46 ?_
      refine am_iload_n rfl dX7_current_49 ?_
      refine am_iald (by decide) rfl ((mo_r_in hk.1 hk.2 hK2 h9).1) dX7_current_50 ?_
      refine am_istore (by decide) dX7_current_51 ?_
      refine am_aload_n rfl dX7_current_53 ?_
      refine am_getr (j := 33) (by decide) rfl rfl rfl hTX7 (by decide) fl_X7_66 dX7_current_54 ?_
      refine am_aload_n rfl dX7_current_57 ?_
      refine am_geti (j := 34) (by decide) rfl rfl rfl hTX7 (by decide) fl_X7_174 dX7_current_58 ?_
      refine am_iload_n rfl dX7_current_61 ?_
      refine am_isub dX7_current_62 ?_
      refine am_iald (by decide) rfl ((mo_r_in hk.1 hk.2 hK2 h9).2) dX7_current_63 ?_
      refine am_istore (by decide) dX7_current_64 ?_
      refine am_iload_n rfl dX7_current_66 ?_
      refine am_aload_n rfl dX7_current_67 ?_
      refine am_geti (j := 34) (by decide) rfl rfl rfl hTX7 (by decide) fl_X7_174 dX7_current_68 ?_
      refine am_idiv (hnz) dX7_current_71 ?_
      refine am_iconst (v := 4) (by decide) dX7_current_72 ?_
      refine am_irem (by decide) dX7_current_73 ?_
      by_cases h74o : ((p / am_put M 21 0 0 21 34 - p / am_put M 21 0 0 21 34 / 4 * 4)).toInt < 0 ∨ 2 < ((p / am_put M 21 0 0 21 34 - p / am_put M 21 0 0 21 34 / 4 * 4)).toInt
      · refine am_tabOut (tgt := 139) h74o (by decide) dX7_current_74 ?_
        refine am_iload_n rfl dX7_current_139 ?_
        refine am_if_ne (tgt := 148) (by decide) dX7_current_140 (fun h140 => ?_) (fun h140 => ?_)
        · refine am_iload rfl dX7_current_148 ?_
          refine am_ineg dX7_current_150 ?_
          refine am_iret rfl dX7_current_151 ?_
          first
          | (have hno : ¬ mo_okCur p w = true := (by simp_all [mo_okCur])
             rw [if_neg hno, if_neg hno]; exact ⟨rfl, rfl⟩)
          | exact absurd h33 (by rw [am_rd, if_pos ⟨rfl, rfl⟩]; decide)
          | (rw [if_pos hok, if_pos hok]
             refine ⟨?_, rfl⟩
             unfold mo_cur mo_r
             first
             | (rw [show mo_q (md M) p = _ from h74c, if_pos rfl]; first | rw [if_pos h101] | rw [if_neg h101])
             | (rw [show mo_q (md M) p = _ from h74c, if_neg (by decide), if_pos rfl]; first | rw [if_pos h113] | rw [if_neg h113])
             | (rw [show mo_q (md M) p = _ from h74c, if_neg (by decide), if_neg (by decide), if_pos rfl]; first | rw [if_pos h126] | rw [if_neg h126])
             | (rw [if_neg (fun e => by have e2 : (p / am_put M 21 0 0 21 34 - p / am_put M 21 0 0 21 34 / 4 * 4) = _ := e; rw [e2] at h74o; revert h74o; decide), if_neg (fun e => by have e2 : (p / am_put M 21 0 0 21 34 - p / am_put M 21 0 0 21 34 / 4 * 4) = _ := e; rw [e2] at h74o; revert h74o; decide), if_neg (fun e => by have e2 : (p / am_put M 21 0 0 21 34 - p / am_put M 21 0 0 21 34 / 4 * 4) = _ := e; rw [e2] at h74o; revert h74o; decide)]; first | rw [if_pos h140] | rw [if_neg h140]))
        · refine am_iload rfl dX7_current_143 ?_
          refine am_goto (tgt := 151) (by decide) dX7_current_145 ?_
          refine am_iret rfl dX7_current_151 ?_
          first
          | (have hno : ¬ mo_okCur p w = true := (by simp_all [mo_okCur])
             rw [if_neg hno, if_neg hno]; exact ⟨rfl, rfl⟩)
          | exact absurd h33 (by rw [am_rd, if_pos ⟨rfl, rfl⟩]; decide)
          | (rw [if_pos hok, if_pos hok]
             refine ⟨?_, rfl⟩
             unfold mo_cur mo_r
             first
             | (rw [show mo_q (md M) p = _ from h74c, if_pos rfl]; first | rw [if_pos h101] | rw [if_neg h101])
             | (rw [show mo_q (md M) p = _ from h74c, if_neg (by decide), if_pos rfl]; first | rw [if_pos h113] | rw [if_neg h113])
             | (rw [show mo_q (md M) p = _ from h74c, if_neg (by decide), if_neg (by decide), if_pos rfl]; first | rw [if_pos h126] | rw [if_neg h126])
             | (rw [if_neg (fun e => by have e2 : (p / am_put M 21 0 0 21 34 - p / am_put M 21 0 0 21 34 / 4 * 4) = _ := e; rw [e2] at h74o; revert h74o; decide), if_neg (fun e => by have e2 : (p / am_put M 21 0 0 21 34 - p / am_put M 21 0 0 21 34 / 4 * 4) = _ := e; rw [e2] at h74o; revert h74o; decide), if_neg (fun e => by have e2 : (p / am_put M 21 0 0 21 34 - p / am_put M 21 0 0 21 34 / 4 * 4) = _ := e; rw [e2] at h74o; revert h74o; decide)]; first | rw [if_pos h140] | rw [if_neg h140]))
      · have h74a : 0 ≤ ((p / am_put M 21 0 0 21 34 - p / am_put M 21 0 0 21 34 / 4 * 4)).toInt ∧ ((p / am_put M 21 0 0 21 34 - p / am_put M 21 0 0 21 34 / 4 * 4)).toInt ≤ 2 := by omega
        have h74d : ((p / am_put M 21 0 0 21 34 - p / am_put M 21 0 0 21 34 / 4 * 4)) = 0 ∨ ((p / am_put M 21 0 0 21 34 - p / am_put M 21 0 0 21 34 / 4 * 4)) = 1 ∨ ((p / am_put M 21 0 0 21 34 - p / am_put M 21 0 0 21 34 / 4 * 4)) = 2 := by
          simp only [← Int32.toInt_inj]
          have e9 : ((0 : Int32).toInt = 0) ∧ ((1 : Int32).toInt = 1) ∧ ((2 : Int32).toInt = 2) := by decide
          omega
        rcases h74d with h74c | h74c | h74c
        · refine am_tabIn (off := 26) (tgt := 100) (by rw [h74c]; decide) (by rw [h74c]; decide) (by rw [h74c]; rfl) (by decide) dX7_current_74 ?_
          refine am_iload_n rfl dX7_current_100 ?_
          refine am_if_ne (tgt := 109) (by decide) dX7_current_101 (fun h101 => ?_) (fun h101 => ?_)
          · refine am_iload rfl dX7_current_109 ?_
            refine am_iret rfl dX7_current_111 ?_
            first
            | (have hno : ¬ mo_okCur p w = true := (by simp_all [mo_okCur])
               rw [if_neg hno, if_neg hno]; exact ⟨rfl, rfl⟩)
            | exact absurd h33 (by rw [am_rd, if_pos ⟨rfl, rfl⟩]; decide)
            | (rw [if_pos hok, if_pos hok]
               refine ⟨?_, rfl⟩
               unfold mo_cur mo_r
               first
               | (rw [show mo_q (md M) p = _ from h74c, if_pos rfl]; first | rw [if_pos h101] | rw [if_neg h101])
               | (rw [show mo_q (md M) p = _ from h74c, if_neg (by decide), if_pos rfl]; first | rw [if_pos h113] | rw [if_neg h113])
               | (rw [show mo_q (md M) p = _ from h74c, if_neg (by decide), if_neg (by decide), if_pos rfl]; first | rw [if_pos h126] | rw [if_neg h126])
               | (rw [if_neg (fun e => by have e2 : (p / am_put M 21 0 0 21 34 - p / am_put M 21 0 0 21 34 / 4 * 4) = _ := e; rw [e2] at h74o; revert h74o; decide), if_neg (fun e => by have e2 : (p / am_put M 21 0 0 21 34 - p / am_put M 21 0 0 21 34 / 4 * 4) = _ := e; rw [e2] at h74o; revert h74o; decide), if_neg (fun e => by have e2 : (p / am_put M 21 0 0 21 34 - p / am_put M 21 0 0 21 34 / 4 * 4) = _ := e; rw [e2] at h74o; revert h74o; decide)]; first | rw [if_pos h140] | rw [if_neg h140]))
          · refine am_iload rfl dX7_current_104 ?_
            refine am_goto (tgt := 111) (by decide) dX7_current_106 ?_
            refine am_iret rfl dX7_current_111 ?_
            first
            | (have hno : ¬ mo_okCur p w = true := (by simp_all [mo_okCur])
               rw [if_neg hno, if_neg hno]; exact ⟨rfl, rfl⟩)
            | exact absurd h33 (by rw [am_rd, if_pos ⟨rfl, rfl⟩]; decide)
            | (rw [if_pos hok, if_pos hok]
               refine ⟨?_, rfl⟩
               unfold mo_cur mo_r
               first
               | (rw [show mo_q (md M) p = _ from h74c, if_pos rfl]; first | rw [if_pos h101] | rw [if_neg h101])
               | (rw [show mo_q (md M) p = _ from h74c, if_neg (by decide), if_pos rfl]; first | rw [if_pos h113] | rw [if_neg h113])
               | (rw [show mo_q (md M) p = _ from h74c, if_neg (by decide), if_neg (by decide), if_pos rfl]; first | rw [if_pos h126] | rw [if_neg h126])
               | (rw [if_neg (fun e => by have e2 : (p / am_put M 21 0 0 21 34 - p / am_put M 21 0 0 21 34 / 4 * 4) = _ := e; rw [e2] at h74o; revert h74o; decide), if_neg (fun e => by have e2 : (p / am_put M 21 0 0 21 34 - p / am_put M 21 0 0 21 34 / 4 * 4) = _ := e; rw [e2] at h74o; revert h74o; decide), if_neg (fun e => by have e2 : (p / am_put M 21 0 0 21 34 - p / am_put M 21 0 0 21 34 / 4 * 4) = _ := e; rw [e2] at h74o; revert h74o; decide)]; first | rw [if_pos h140] | rw [if_neg h140]))
        · refine am_tabIn (off := 38) (tgt := 112) (by rw [h74c]; decide) (by rw [h74c]; decide) (by rw [h74c]; rfl) (by decide) dX7_current_74 ?_
          refine am_iload_n rfl dX7_current_112 ?_
          refine am_if_ne (tgt := 122) (by decide) dX7_current_113 (fun h113 => ?_) (fun h113 => ?_)
          · refine am_iload rfl dX7_current_122 ?_
            refine am_iret rfl dX7_current_124 ?_
            first
            | (have hno : ¬ mo_okCur p w = true := (by simp_all [mo_okCur])
               rw [if_neg hno, if_neg hno]; exact ⟨rfl, rfl⟩)
            | exact absurd h33 (by rw [am_rd, if_pos ⟨rfl, rfl⟩]; decide)
            | (rw [if_pos hok, if_pos hok]
               refine ⟨?_, rfl⟩
               unfold mo_cur mo_r
               first
               | (rw [show mo_q (md M) p = _ from h74c, if_pos rfl]; first | rw [if_pos h101] | rw [if_neg h101])
               | (rw [show mo_q (md M) p = _ from h74c, if_neg (by decide), if_pos rfl]; first | rw [if_pos h113] | rw [if_neg h113])
               | (rw [show mo_q (md M) p = _ from h74c, if_neg (by decide), if_neg (by decide), if_pos rfl]; first | rw [if_pos h126] | rw [if_neg h126])
               | (rw [if_neg (fun e => by have e2 : (p / am_put M 21 0 0 21 34 - p / am_put M 21 0 0 21 34 / 4 * 4) = _ := e; rw [e2] at h74o; revert h74o; decide), if_neg (fun e => by have e2 : (p / am_put M 21 0 0 21 34 - p / am_put M 21 0 0 21 34 / 4 * 4) = _ := e; rw [e2] at h74o; revert h74o; decide), if_neg (fun e => by have e2 : (p / am_put M 21 0 0 21 34 - p / am_put M 21 0 0 21 34 / 4 * 4) = _ := e; rw [e2] at h74o; revert h74o; decide)]; first | rw [if_pos h140] | rw [if_neg h140]))
          · refine am_iload rfl dX7_current_116 ?_
            refine am_ineg dX7_current_118 ?_
            refine am_goto (tgt := 124) (by decide) dX7_current_119 ?_
            refine am_iret rfl dX7_current_124 ?_
            first
            | (have hno : ¬ mo_okCur p w = true := (by simp_all [mo_okCur])
               rw [if_neg hno, if_neg hno]; exact ⟨rfl, rfl⟩)
            | exact absurd h33 (by rw [am_rd, if_pos ⟨rfl, rfl⟩]; decide)
            | (rw [if_pos hok, if_pos hok]
               refine ⟨?_, rfl⟩
               unfold mo_cur mo_r
               first
               | (rw [show mo_q (md M) p = _ from h74c, if_pos rfl]; first | rw [if_pos h101] | rw [if_neg h101])
               | (rw [show mo_q (md M) p = _ from h74c, if_neg (by decide), if_pos rfl]; first | rw [if_pos h113] | rw [if_neg h113])
               | (rw [show mo_q (md M) p = _ from h74c, if_neg (by decide), if_neg (by decide), if_pos rfl]; first | rw [if_pos h126] | rw [if_neg h126])
               | (rw [if_neg (fun e => by have e2 : (p / am_put M 21 0 0 21 34 - p / am_put M 21 0 0 21 34 / 4 * 4) = _ := e; rw [e2] at h74o; revert h74o; decide), if_neg (fun e => by have e2 : (p / am_put M 21 0 0 21 34 - p / am_put M 21 0 0 21 34 / 4 * 4) = _ := e; rw [e2] at h74o; revert h74o; decide), if_neg (fun e => by have e2 : (p / am_put M 21 0 0 21 34 - p / am_put M 21 0 0 21 34 / 4 * 4) = _ := e; rw [e2] at h74o; revert h74o; decide)]; first | rw [if_pos h140] | rw [if_neg h140]))
        · refine am_tabIn (off := 51) (tgt := 125) (by rw [h74c]; decide) (by rw [h74c]; decide) (by rw [h74c]; rfl) (by decide) dX7_current_74 ?_
          refine am_iload_n rfl dX7_current_125 ?_
          refine am_if_ne (tgt := 135) (by decide) dX7_current_126 (fun h126 => ?_) (fun h126 => ?_)
          · refine am_iload rfl dX7_current_135 ?_
            refine am_ineg dX7_current_137 ?_
            refine am_iret rfl dX7_current_138 ?_
            first
            | (have hno : ¬ mo_okCur p w = true := (by simp_all [mo_okCur])
               rw [if_neg hno, if_neg hno]; exact ⟨rfl, rfl⟩)
            | exact absurd h33 (by rw [am_rd, if_pos ⟨rfl, rfl⟩]; decide)
            | (rw [if_pos hok, if_pos hok]
               refine ⟨?_, rfl⟩
               unfold mo_cur mo_r
               first
               | (rw [show mo_q (md M) p = _ from h74c, if_pos rfl]; first | rw [if_pos h101] | rw [if_neg h101])
               | (rw [show mo_q (md M) p = _ from h74c, if_neg (by decide), if_pos rfl]; first | rw [if_pos h113] | rw [if_neg h113])
               | (rw [show mo_q (md M) p = _ from h74c, if_neg (by decide), if_neg (by decide), if_pos rfl]; first | rw [if_pos h126] | rw [if_neg h126])
               | (rw [if_neg (fun e => by have e2 : (p / am_put M 21 0 0 21 34 - p / am_put M 21 0 0 21 34 / 4 * 4) = _ := e; rw [e2] at h74o; revert h74o; decide), if_neg (fun e => by have e2 : (p / am_put M 21 0 0 21 34 - p / am_put M 21 0 0 21 34 / 4 * 4) = _ := e; rw [e2] at h74o; revert h74o; decide), if_neg (fun e => by have e2 : (p / am_put M 21 0 0 21 34 - p / am_put M 21 0 0 21 34 / 4 * 4) = _ := e; rw [e2] at h74o; revert h74o; decide)]; first | rw [if_pos h140] | rw [if_neg h140]))
          · refine am_iload rfl dX7_current_129 ?_
            refine am_ineg dX7_current_131 ?_
            refine am_goto (tgt := 138) (by decide) dX7_current_132 ?_
            refine am_iret rfl dX7_current_138 ?_
            first
            | (have hno : ¬ mo_okCur p w = true := (by simp_all [mo_okCur])
               rw [if_neg hno, if_neg hno]; exact ⟨rfl, rfl⟩)
            | exact absurd h33 (by rw [am_rd, if_pos ⟨rfl, rfl⟩]; decide)
            | (rw [if_pos hok, if_pos hok]
               refine ⟨?_, rfl⟩
               unfold mo_cur mo_r
               first
               | (rw [show mo_q (md M) p = _ from h74c, if_pos rfl]; first | rw [if_pos h101] | rw [if_neg h101])
               | (rw [show mo_q (md M) p = _ from h74c, if_neg (by decide), if_pos rfl]; first | rw [if_pos h113] | rw [if_neg h113])
               | (rw [show mo_q (md M) p = _ from h74c, if_neg (by decide), if_neg (by decide), if_pos rfl]; first | rw [if_pos h126] | rw [if_neg h126])
               | (rw [if_neg (fun e => by have e2 : (p / am_put M 21 0 0 21 34 - p / am_put M 21 0 0 21 34 / 4 * 4) = _ := e; rw [e2] at h74o; revert h74o; decide), if_neg (fun e => by have e2 : (p / am_put M 21 0 0 21 34 - p / am_put M 21 0 0 21 34 / 4 * 4) = _ := e; rw [e2] at h74o; revert h74o; decide), if_neg (fun e => by have e2 : (p / am_put M 21 0 0 21 34 - p / am_put M 21 0 0 21 34 / 4 * 4) = _ := e; rw [e2] at h74o; revert h74o; decide)]; first | rw [if_pos h140] | rw [if_neg h140]))
    · refine am_iconst (v := 1) (by decide) dX7_current_21 ?_
      refine am_goto (tgt := 26) (by decide) dX7_current_22 ?_
      refine am_puti (j := 0) (by decide) rfl rfl rfl hTX7 tyX7_ok nmX7 (by decide) fl_X7_73 rfl rfl rfl rfl dX7_current_26 ?_
      refine am_aload_n rfl dX7_current_29 ?_
      refine am_geti (j := 0) (by decide) rfl rfl rfl hTX7 (by decide) fl_X7_73 dX7_current_30 ?_
      refine am_if_le (tgt := 38) (by decide) dX7_current_33 (fun h33 => absurd h33 (by rw [am_rd, if_pos ⟨rfl, rfl⟩]; decide)) (fun h33 => ?_)
      refine am_iconst (v := 0) (by decide) dX7_current_36 ?_
      refine am_iret rfl dX7_current_37 ?_
      first
      | (have hno : ¬ mo_okCur p w = true := (by simp_all [mo_okCur])
         rw [if_neg hno, if_neg hno]; exact ⟨rfl, rfl⟩)
      | exact absurd h33 (by rw [am_rd, if_pos ⟨rfl, rfl⟩]; decide)
      | (rw [if_pos hok, if_pos hok]
         refine ⟨?_, rfl⟩
         unfold mo_cur mo_r
         first
         | (rw [show mo_q (md M) p = _ from h74c, if_pos rfl]; first | rw [if_pos h101] | rw [if_neg h101])
         | (rw [show mo_q (md M) p = _ from h74c, if_neg (by decide), if_pos rfl]; first | rw [if_pos h113] | rw [if_neg h113])
         | (rw [show mo_q (md M) p = _ from h74c, if_neg (by decide), if_neg (by decide), if_pos rfl]; first | rw [if_pos h126] | rw [if_neg h126])
         | (rw [if_neg (fun e => by have e2 : (p / am_put M 21 0 0 21 34 - p / am_put M 21 0 0 21 34 / 4 * 4) = _ := e; rw [e2] at h74o; revert h74o; decide), if_neg (fun e => by have e2 : (p / am_put M 21 0 0 21 34 - p / am_put M 21 0 0 21 34 / 4 * 4) = _ := e; rw [e2] at h74o; revert h74o; decide), if_neg (fun e => by have e2 : (p / am_put M 21 0 0 21 34 - p / am_put M 21 0 0 21 34 / 4 * 4) = _ := e; rw [e2] at h74o; revert h74o; decide)]; first | rw [if_pos h140] | rw [if_neg h140]))

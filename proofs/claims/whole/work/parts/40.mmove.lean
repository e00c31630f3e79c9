def mo_follow (K : am_M) (c : Nat) : am_M := am_put (am_row (am_put (am_put K 21 22 (nI c)) 21 23 0) 33 (fun q => if q < c then K 26 q else K 33 q)) 21 15 (if 0 < c then 1 else 0)
theorem am_row_step (K : am_M) (r : Nat) (f g : Nat → Int32) (k : Nat) (hk : k < 2147483648) : am_put (am_row K r (fun q => if q < k then f q else g q)) r (nI k).toNatClampNeg (f k) = am_row K r (fun q => if q < k + 1 then f q else g q) := by
  rw [am_put_row, nI_clamp hk]
  congr 1
  funext q
  unfold upd
  by_cases h : q = k
  · subst h
    simp
  · rw [if_neg h]
    dsimp only
    by_cases h2 : q < k
    · rw [if_pos h2, if_pos (by omega)]
    · rw [if_neg h2, if_neg (by omega)]
theorem am_row_0 (K : am_M) (r : Nat) (f g : Nat → Int32) (h : K r = g) : K = am_row K r (fun q => if q < 0 then f q else g q) := by
  have e : (fun q => if q < 0 then f q else g q) = g := by
    funext q
    rw [if_neg (Nat.not_lt_zero q)]
  rw [e, ← h, am_row_self]
set_option maxRecDepth 100000 in
set_option maxHeartbeats 400000 in
theorem lp_X7_follow (ad : Nat → Nat) (K : am_M) (c : Nat) (hc : c ≤ 1000) (h12 : K 21 12 = nI c) : ∀ (z k : Nat), c - k < z → k ≤ c → am_W ydX7_follow ad am_II (am_un (mo_follow K c)) 15 [some (.ref (ad 21)), some (.int (nI k))] [] (am_row (am_put (am_put K 21 22 (nI c)) 21 23 0) 33 (fun q => if q < k then K 26 q else K 33 q)) := by
  have e12 : ∀ k, (am_row (am_put (am_put K 21 22 (nI c)) 21 23 0) 33 (fun q => if q < k then K 26 q else K 33 q)) 21 12 = nI c := fun k => by
    rw [am_row_ne _ _ _ (by decide), am_rd, if_neg (by decide), am_rd, if_neg (by decide), h12]
  intro z
  induction z with
  | zero => intro k hz; omega
  | succ z ih =>
    intro k hz hk
    have KE : k = c → am_W ydX7_follow ad am_II (am_un (mo_follow K c)) 41 [some (.ref (ad 21)), some (.int (nI k))] [] (am_row (am_put (am_put K 21 22 (nI c)) 21 23 0) 33 (fun q => if q < k then K 26 q else K 33 q)) := by
      intro q
      subst q
      refine am_aload_n rfl dX7_follow_41 ?_
      refine am_aload_n rfl dX7_follow_42 ?_
      refine am_geti (j := 12) (by decide) rfl rfl rfl hTX7 (by decide) fl_X7_120 dX7_follow_43 ?_
      rw [e12]
      refine am_if_le (tgt := 53) (by decide) dX7_follow_46 (fun h46 => ?_) (fun h46 => ?_)
      · refine am_iconst (v := 0) (by decide) dX7_follow_53 ?_
        refine am_puti (j := 15) (by decide) rfl rfl rfl hTX7 tyX7_ok nmX7 (by decide) fl_X7_76 rfl rfl (by first | exact am_nb _ | decide) (by first | exact am_fb _ | decide) dX7_follow_54 ?_
        refine am_vret rfl dX7_follow_57 ?_
        refine ⟨rfl, ?_⟩
        unfold mo_follow
        first
        | rw [if_neg (fun q => by simp only [Int32.le_iff_toInt_le, Int32.toInt_zero, nI_e] at h46; omega)]
        | rw [if_pos (by simp only [Int32.le_iff_toInt_le, Int32.toInt_zero, nI_e] at h46; omega)]
      · refine am_iconst (v := 1) (by decide) dX7_follow_49 ?_
        refine am_goto (tgt := 54) (by decide) dX7_follow_50 ?_
        refine am_puti (j := 15) (by decide) rfl rfl rfl hTX7 tyX7_ok nmX7 (by decide) fl_X7_76 rfl rfl (by first | exact am_nb _ | decide) (by first | exact am_fb _ | decide) dX7_follow_54 ?_
        refine am_vret rfl dX7_follow_57 ?_
        refine ⟨rfl, ?_⟩
        unfold mo_follow
        first
        | rw [if_neg (fun q => by simp only [Int32.le_iff_toInt_le, Int32.toInt_zero, nI_e] at h46; omega)]
        | rw [if_pos (by simp only [Int32.le_iff_toInt_le, Int32.toInt_zero, nI_e] at h46; omega)]
    have KN : k < c → am_W ydX7_follow ad am_II (am_un (mo_follow K c)) 23 [some (.ref (ad 21)), some (.int (nI k))] [] (am_row (am_put (am_put K 21 22 (nI c)) 21 23 0) 33 (fun q => if q < k then K 26 q else K 33 q)) := by
      intro q
      have hv : vp_in (nI k) 1000 := vp_in_nI (by omega) (by omega)
      have e26 : (am_row (am_put (am_put K 21 22 (nI c)) 21 23 0) 33 (fun q => if q < k then K 26 q else K 33 q)) 26 = K 26 := by rw [am_row_ne _ _ _ (by decide), am_put_ne _ _ _ _ (by decide), am_put_ne _ _ _ _ (by decide)]
      refine am_aload_n rfl dX7_follow_23 ?_
      refine am_getr (j := 21) (by decide) rfl rfl rfl hTX7 (by decide) fl_X7_54 dX7_follow_24 ?_
      refine am_iload_n rfl dX7_follow_27 ?_
      refine am_aload_n rfl dX7_follow_28 ?_
      refine am_getr (j := 11) (by decide) rfl rfl rfl hTX7 (by decide) fl_X7_33 dX7_follow_29 ?_
      refine am_iload_n rfl dX7_follow_32 ?_
      refine am_iald (by decide) rfl (hv) dX7_follow_33 ?_
      rw [e26, nI_clamp (show k < 2 ^ 31 by omega)]
      refine am_iast (by decide) rfl (hv) dX7_follow_34 ?_
      refine am_iinc (v := nI (k + 1)) rfl (nI_inc k) (by decide) dX7_follow_35 ?_
      refine am_goto (tgt := 15) (by decide) dX7_follow_38 ?_
      refine am_M_eq ?_ (ih (k + 1) (by omega) (by omega))
      have h9 := am_row_step (am_put (am_put K 21 22 (nI c)) 21 23 0) 33 (K 26) (K 33) k (by omega)
      rw [nI_clamp (by omega)] at h9
      first | exact h9 | (rw [nI_clamp (by omega)]; exact h9)
    refine am_iload_n rfl dX7_follow_15 ?_
    refine am_aload_n rfl dX7_follow_16 ?_
    refine am_geti (j := 12) (by decide) rfl rfl rfl hTX7 (by decide) fl_X7_120 dX7_follow_17 ?_
    rw [e12]
    refine am_icmp_ge (tgt := 41) (by decide) dX7_follow_20 (fun h20 => ?_) (fun h20 => ?_)
    · exact KE (by simp only [Int32.le_iff_toInt_le, nI_e] at h20; omega)
    · exact KN (by simp only [Int32.le_iff_toInt_le, nI_e] at h20; omega)
set_option maxRecDepth 100000 in
set_option maxHeartbeats 400000 in
theorem c_X7_follow (ad : Nat → Nat) (M : am_M) (c : Nat) (hc : c ≤ 1000) (h12 : M 21 12 = nI c) : am_C ydX7_follow ad am_II [.ref (ad 21)] M (am_un (mo_follow M c)) := by
  refine am_ofW (L := [some (.ref (ad 21)), none]) (by decide +kernel) (by simp [Value.category]) (Nat.le_of_ble_eq_true rfl) rfl ?_
  refine am_aload_n rfl dX7_follow_0 ?_
  refine am_aload_n rfl dX7_follow_1 ?_
  refine am_geti (j := 12) (by decide) rfl rfl rfl hTX7 (by decide) fl_X7_120 dX7_follow_2 ?_
  rw [h12]
  refine am_puti (j := 22) (by decide) rfl rfl rfl hTX7 tyX7_ok nmX7 (by decide) fl_X7_165 rfl rfl rfl rfl dX7_follow_5 ?_
  refine am_aload_n rfl dX7_follow_8 ?_
  refine am_iconst (v := 0) (by decide) dX7_follow_9 ?_
  refine am_puti (j := 23) (by decide) rfl rfl rfl hTX7 tyX7_ok nmX7 (by decide) fl_X7_168 rfl rfl rfl rfl dX7_follow_10 ?_
  refine am_iconst (v := 0) (by decide) dX7_follow_13 ?_
  refine am_istore_n (by decide) dX7_follow_14 ?_
  refine am_M_eq ?_ (lp_X7_follow ad M c hc h12 (c + 1) 0 (by omega) (by omega))
  exact am_row_0 _ 33 (M 26) (M 33) (by rw [am_put_ne _ _ _ _ (by decide), am_put_ne _ _ _ _ (by decide)])
def mo_by (N : am_M) (d0 d1 d2 : Int32) : am_M := am_put (am_put (am_put N 30 0 d0) 30 1 d1) 30 2 d2
def mo_bg (K : am_M) : am_M := am_row K 29 (fun q => if q < 3 then K 31 q else K 29 q)
def mo_new (K : am_M) (n : Int32) : am_M := am_put (am_put (am_put (am_put (am_put (am_put (am_put (am_put K 21 26 n) 21 25 0) 21 27 0) 21 28 0) 21 24 0) 21 29 0) 21 30 (-1)) 21 16 0
def mo_move (N : am_M) (n d0 d1 d2 : Int32) (c : Nat) : am_M := mo_new (mo_follow (mo_bg (mo_by N d0 d1 d2)) c) n
def mo_okMove (K : am_M) (d0 d1 d2 : Int32) : Bool := !mo_mv K && sp_way d0 && sp_way d1 && sp_way d2
set_option maxRecDepth 100000 in
set_option maxHeartbeats 400000 in
theorem lp_X7_move (ad : Nat → Nat) (K : am_M) (P : Option Value → am_M → Prop) (l1 l2 l3 l4 : Option Value) (KK : am_W ydX7_move ad am_II P 134 [some (.ref (ad 21)), l1, l2, l3, l4, some (.int (nI 3))] [] (am_row K 29 (fun q => if q < 3 then K 31 q else K 29 q))) : ∀ (z k : Nat), 3 - k < z → k ≤ 3 → am_W ydX7_move ad am_II P 108 [some (.ref (ad 21)), l1, l2, l3, l4, some (.int (nI k))] [] (am_row K 29 (fun q => if q < k then K 31 q else K 29 q)) := by
  intro z
  induction z with
  | zero => intro k hz; omega
  | succ z ih =>
    intro k hz hk
    have KE : k = 3 → am_W ydX7_move ad am_II P 134 [some (.ref (ad 21)), l1, l2, l3, l4, some (.int (nI k))] [] (am_row K 29 (fun q => if q < k then K 31 q else K 29 q)) := by
      intro q
      subst q
      exact KK
    have KN : k < 3 → am_W ydX7_move ad am_II P 114 [some (.ref (ad 21)), l1, l2, l3, l4, some (.int (nI k))] [] (am_row K 29 (fun q => if q < k then K 31 q else K 29 q)) := by
      intro q
      have hv : vp_in (nI k) 3 := vp_in_nI (by omega) (by omega)
      have e31 : (am_row K 29 (fun q => if q < k then K 31 q else K 29 q)) 31 = K 31 := am_row_ne _ _ _ (by decide)
      refine am_aload_n rfl dX7_move_114 ?_
      refine am_getr (j := 17) (by decide) rfl rfl rfl hTX7 (by decide) fl_X7_42 dX7_move_115 ?_
      refine am_iload rfl dX7_move_118 ?_
      refine am_aload_n rfl dX7_move_120 ?_
      refine am_getr (j := 19) (by decide) rfl rfl rfl hTX7 (by decide) fl_X7_48 dX7_move_121 ?_
      refine am_iload rfl dX7_move_124 ?_
      refine am_iald (by decide) rfl (hv) dX7_move_126 ?_
      rw [e31, nI_clamp (show k < 2 ^ 31 by omega)]
      refine am_iast (by decide) rfl (hv) dX7_move_127 ?_
      refine am_iinc (v := nI (k + 1)) rfl (nI_inc k) (by decide) dX7_move_128 ?_
      refine am_goto (tgt := 108) (by decide) dX7_move_131 ?_
      refine am_M_eq ?_ (ih (k + 1) (by omega) (by omega))
      have h9 := am_row_step K 29 (K 31) (K 29) k (by omega)
      rw [nI_clamp (by omega)] at h9
      first | exact h9 | (rw [nI_clamp (by omega)]; exact h9)
    refine am_iload rfl dX7_move_108 ?_
    refine am_iconst (v := 3) (by decide) dX7_move_110 ?_
    refine am_icmp_ge (tgt := 134) (by decide) dX7_move_111 (fun h111 => ?_) (fun h111 => ?_)
    · exact KE (by simp only [Int32.le_iff_toInt_le, nI_e, kI_3] at h111; omega)
    · exact KN (by simp only [Int32.le_iff_toInt_le, nI_e, kI_3] at h111; omega)
theorem sp_way_b {d : Int32} (h : sp_in d (-200) 200 = true) : sp_way d = true := h
theorem mo_bad1 {K : am_M} {d0 d1 d2 : Int32} (h : ¬ K 21 15 = 0) : mo_okMove K d0 d1 d2 = false := by
  unfold mo_okMove mo_mv
  rw [decide_eq_true h]
  rfl
theorem mo_bad2 {K : am_M} {d0 d1 d2 : Int32} (h : sp_in d0 (-200) 200 = false) : mo_okMove K d0 d1 d2 = false := by
  unfold mo_okMove sp_way
  rw [h]
  simp
theorem mo_bad3 {K : am_M} {d0 d1 d2 : Int32} (h : sp_in d1 (-200) 200 = false) : mo_okMove K d0 d1 d2 = false := by
  unfold mo_okMove sp_way
  rw [h]
  simp
theorem mo_bad4 {K : am_M} {d0 d1 d2 : Int32} (h : sp_in d2 (-200) 200 = false) : mo_okMove K d0 d1 d2 = false := by
  unfold mo_okMove sp_way
  rw [h]
  simp
set_option maxRecDepth 100000 in
set_option maxHeartbeats 400000 in
theorem c_X7_move (ad : Nat → Nat) (M : am_M) (d0 d1 d2 : Int32) (hR : mRI M) : am_C ydX7_move ad am_II [.ref (ad 21), .int d0, .int d1, .int d2] M (fun r N => (mo_okMove (md M) d0 d1 d2 = false ∧ r = some (.int (-1)) ∧ md M = N) ∨ (mo_okMove (md M) d0 d1 d2 = true ∧ ∃ b N0 c, rm_P (md M) (sp_n d0 d1 d2) (some (.int (bI b))) N0 ∧ (b = true → N0 21 12 = nI c ∧ c ≤ 1000) ∧ r = some (.int (if b = true then nI c else -1)) ∧ N = if b = true then mo_move N0 (sp_n d0 d1 d2) d0 d1 d2 c else N0)) := by
  refine am_ofW (L := [some (.ref (ad 21)), some (.int d0), some (.int d1), some (.int d2), none, none]) (by decide +kernel) (by simp [Value.category]) (Nat.le_of_ble_eq_true rfl) rfl ?_
  refine am_aload_n rfl dX7_move_0 ?_
  refine am_iconst (v := 0) (by decide) dX7_move_1 ?_
  refine am_puti (j := 0) (by decide) rfl rfl rfl hTX7 tyX7_ok nmX7 (by decide) fl_X7_73 rfl rfl rfl rfl dX7_move_2 ?_
  refine am_aload_n rfl dX7_move_5 ?_
  refine am_geti (j := 15) (by decide) rfl rfl rfl hTX7 (by decide) fl_X7_76 dX7_move_6 ?_
  refine am_if_ne (tgt := 51) (by decide) dX7_move_9 (fun h9 => ?_) (fun h9 => ?_)
  · refine am_iconst (v := (-1)) (by decide) dX7_move_51 ?_
    refine am_iret rfl dX7_move_52 ?_
    first
    | exact Or.inl ⟨mo_bad1 h9, rfl, rfl⟩
    | exact Or.inl ⟨mo_bad2 h22, rfl, rfl⟩
    | exact Or.inl ⟨mo_bad3 h35, rfl, rfl⟩
    | exact Or.inl ⟨mo_bad4 h48, rfl, rfl⟩
    | (first | (have hb : b = false := h79) | (have hb : b = false := (bI_0 b).mp h79)
       subst hb
       exact Or.inr ⟨hok, false, N76, 0, hP, fun q => (by cases q), rfl, rfl⟩)
  · refine am_iload_n rfl dX7_move_12 ?_
    refine am_sipush (v := (-200)) (by decide) dX7_move_13 ?_
    refine am_sipush (v := 200) (by decide) dX7_move_16 ?_
    refine am_callSi (c_X7_isIn ad _ _ _ _) okX7_isIn ml_X7_80 rfl ⟨by decide, by decide⟩ (Nat.le_of_ble_eq_true rfl) rfl dX7_move_19 ?_
    refine am_ifb_eq (tgt := 51) (by decide) dX7_move_22 (fun h22 => ?_) (fun h22 => ?_)
    · refine am_iconst (v := (-1)) (by decide) dX7_move_51 ?_
      refine am_iret rfl dX7_move_52 ?_
      first
      | exact Or.inl ⟨mo_bad1 h9, rfl, rfl⟩
      | exact Or.inl ⟨mo_bad2 h22, rfl, rfl⟩
      | exact Or.inl ⟨mo_bad3 h35, rfl, rfl⟩
      | exact Or.inl ⟨mo_bad4 h48, rfl, rfl⟩
      | (first | (have hb : b = false := h79) | (have hb : b = false := (bI_0 b).mp h79)
         subst hb
         exact Or.inr ⟨hok, false, N76, 0, hP, fun q => (by cases q), rfl, rfl⟩)
    · refine am_iload_n rfl dX7_move_25 ?_
      refine am_sipush (v := (-200)) (by decide) dX7_move_26 ?_
      refine am_sipush (v := 200) (by decide) dX7_move_29 ?_
      refine am_callSi (c_X7_isIn ad _ _ _ _) okX7_isIn ml_X7_80 rfl ⟨by decide, by decide⟩ (Nat.le_of_ble_eq_true rfl) rfl dX7_move_32 ?_
      refine am_ifb_eq (tgt := 51) (by decide) dX7_move_35 (fun h35 => ?_) (fun h35 => ?_)
      · refine am_iconst (v := (-1)) (by decide) dX7_move_51 ?_
        refine am_iret rfl dX7_move_52 ?_
        first
        | exact Or.inl ⟨mo_bad1 h9, rfl, rfl⟩
        | exact Or.inl ⟨mo_bad2 h22, rfl, rfl⟩
        | exact Or.inl ⟨mo_bad3 h35, rfl, rfl⟩
        | exact Or.inl ⟨mo_bad4 h48, rfl, rfl⟩
        | (first | (have hb : b = false := h79) | (have hb : b = false := (bI_0 b).mp h79)
           subst hb
           exact Or.inr ⟨hok, false, N76, 0, hP, fun q => (by cases q), rfl, rfl⟩)
      · refine am_iload_n rfl dX7_move_38 ?_
        refine am_sipush (v := (-200)) (by decide) dX7_move_39 ?_
        refine am_sipush (v := 200) (by decide) dX7_move_42 ?_
        refine am_callSi (c_X7_isIn ad _ _ _ _) okX7_isIn ml_X7_80 rfl ⟨by decide, by decide⟩ (Nat.le_of_ble_eq_true rfl) rfl dX7_move_45 ?_
        refine am_ifb_ne (tgt := 53) (by decide) dX7_move_48 (fun h48 => ?_) (fun h48 => ?_)
        · refine am_iload_n rfl dX7_move_53 ?_
          refine am_mabsI ml_X7_93 (by decide) (Nat.le_of_ble_eq_true rfl) dX7_move_54 ?_
          refine am_iload_n rfl dX7_move_57 ?_
          refine am_mabsI ml_X7_93 (by decide) (Nat.le_of_ble_eq_true rfl) dX7_move_58 ?_
          refine am_iload_n rfl dX7_move_61 ?_
          refine am_mabsI ml_X7_93 (by decide) (Nat.le_of_ble_eq_true rfl) dX7_move_62 ?_
          refine am_mmaxI ml_X7_138 (by decide) (Nat.le_of_ble_eq_true rfl) dX7_move_65 ?_
          refine am_mmaxI ml_X7_138 (by decide) (Nat.le_of_ble_eq_true rfl) dX7_move_68 ?_
          refine am_istore (by decide) dX7_move_71 ?_
          refine am_aload_n rfl dX7_move_73 ?_
          refine am_iload rfl dX7_move_74 ?_
          have hin := sp_n_in h22 h35 h48
          have hok : mo_okMove (md M) d0 d1 d2 = true := by (unfold mo_okMove mo_mv; rw [show md M 21 15 = 0 from h9, sp_way_b h22, sp_way_b h35, sp_way_b h48]; rfl)
          refine am_callV (c_X7_rampsP ad (md M) (sp_n d0 d1 d2) hR.md hin) okX7_ramps ml_X7_123 (by decide) rfl rfl rfl ⟨by decide, by decide⟩ (Nat.le_of_ble_eq_true rfl) rfl dX7_move_76 (fun r76 N76 p76 => ?_)
          obtain ⟨hP, b, rfl, hb0, hb1⟩ := p76
          refine am_ifb_ne (tgt := 84) (by decide) dX7_move_79 (fun h79 => ?_) (fun h79 => ?_)
          · refine am_aload_n rfl dX7_move_84 ?_
            refine am_getr (j := 18) (by decide) rfl rfl rfl hTX7 (by decide) fl_X7_45 dX7_move_85 ?_
            refine am_iconst (v := 0) (by decide) dX7_move_88 ?_
            refine am_iload_n rfl dX7_move_89 ?_
            refine am_iast (by decide) rfl ((am_vpI (by decide) (by decide))) dX7_move_90 ?_
            refine am_aload_n rfl dX7_move_91 ?_
            refine am_getr (j := 18) (by decide) rfl rfl rfl hTX7 (by decide) fl_X7_45 dX7_move_92 ?_
            refine am_iconst (v := 1) (by decide) dX7_move_95 ?_
            refine am_iload_n rfl dX7_move_96 ?_
            refine am_iast (by decide) rfl ((am_vpI (by decide) (by decide))) dX7_move_97 ?_
            refine am_aload_n rfl dX7_move_98 ?_
            refine am_getr (j := 18) (by decide) rfl rfl rfl hTX7 (by decide) fl_X7_45 dX7_move_99 ?_
            refine am_iconst (v := 2) (by decide) dX7_move_102 ?_
            refine am_iload_n rfl dX7_move_103 ?_
            refine am_iast (by decide) rfl ((am_vpI (by decide) (by decide))) dX7_move_104 ?_
            refine am_iconst (v := 0) (by decide) dX7_move_105 ?_
            refine am_istore (by decide) dX7_move_106 ?_
            have hb : b = true := by first | exact h79 | exact (bI_1 b).mp h79
            obtain ⟨c, hc, h12⟩ : ∃ c, c ≤ 1000 ∧ N76 21 12 = nI c := by
              have hn9 := hin
              simp only [sp_in, decide_eq_true_eq, Int32.le_iff_toInt_le, Int32.toInt_zero, kI_200] at hn9
              rcases hb1 hb with ⟨z1, z2⟩ | ⟨d, z1, z2, z3⟩
              · exact ⟨0, by omega, z2⟩
              · have hd := mF_le hR.md (v := 0) (a := 0) (l := (sp_n d0 d1 d2).toInt) (by omega) (by omega) (by omega) (by omega) hn9.1 hn9.2 z2
                exact ⟨d, by omega, z3.1⟩
            refine am_M_eq (am_row_0 (mo_by N76 d0 d1 d2) 29 (mo_by N76 d0 d1 d2 31) (mo_by N76 d0 d1 d2 29) rfl) (lp_X7_move ad (mo_by N76 d0 d1 d2) _ _ _ _ _ ?_ 4 0 (by omega) (by omega))
            have e12 : mo_bg (mo_by N76 d0 d1 d2) 21 12 = nI c := by
              unfold mo_bg mo_by
              rw [am_row_ne _ _ _ (by decide), am_put_ne _ _ _ _ (by decide), am_put_ne _ _ _ _ (by decide), am_put_ne _ _ _ _ (by decide), h12]
            refine am_aload_n rfl dX7_move_134 ?_
            refine am_callVv (c_X7_follow ad (mo_bg (mo_by N76 d0 d1 d2)) c hc e12) okX7_follow ml_X7_141 (by decide) rfl rfl rfl ⟨by decide, by decide⟩ (Nat.le_of_ble_eq_true rfl) rfl dX7_move_135 ?_
            refine am_aload_n rfl dX7_move_138 ?_
            refine am_iload rfl dX7_move_139 ?_
            refine am_puti (j := 26) (by decide) rfl rfl rfl hTX7 tyX7_ok nmX7 (by decide) fl_X7_144 rfl rfl rfl rfl dX7_move_141 ?_
            refine am_aload_n rfl dX7_move_144 ?_
            refine am_iconst (v := 0) (by decide) dX7_move_145 ?_
            refine am_puti (j := 25) (by decide) rfl rfl rfl hTX7 tyX7_ok nmX7 (by decide) fl_X7_147 rfl rfl rfl rfl dX7_move_146 ?_
            refine am_aload_n rfl dX7_move_149 ?_
            refine am_iconst (v := 0) (by decide) dX7_move_150 ?_
            refine am_puti (j := 27) (by decide) rfl rfl rfl hTX7 tyX7_ok nmX7 (by decide) fl_X7_150 rfl rfl rfl rfl dX7_move_151 ?_
            refine am_aload_n rfl dX7_move_154 ?_
            refine am_iconst (v := 0) (by decide) dX7_move_155 ?_
            refine am_puti (j := 28) (by decide) rfl rfl rfl hTX7 tyX7_ok nmX7 (by decide) fl_X7_153 rfl rfl rfl rfl dX7_move_156 ?_
            refine am_aload_n rfl dX7_move_159 ?_
            refine am_iconst (v := 0) (by decide) dX7_move_160 ?_
            refine am_puti (j := 24) (by decide) rfl rfl rfl hTX7 tyX7_ok nmX7 (by decide) fl_X7_156 rfl rfl rfl rfl dX7_move_161 ?_
            refine am_aload_n rfl dX7_move_164 ?_
            refine am_iconst (v := 0) (by decide) dX7_move_165 ?_
            refine am_puti (j := 29) (by decide) rfl rfl rfl hTX7 tyX7_ok nmX7 (by decide) fl_X7_159 rfl rfl rfl rfl dX7_move_166 ?_
            refine am_aload_n rfl dX7_move_169 ?_
            refine am_iconst (v := (-1)) (by decide) dX7_move_170 ?_
            refine am_puti (j := 30) (by decide) rfl rfl rfl hTX7 tyX7_ok nmX7 (by decide) fl_X7_57 rfl rfl rfl rfl dX7_move_171 ?_
            refine am_aload_n rfl dX7_move_174 ?_
            refine am_iconst (v := 0) (by decide) dX7_move_175 ?_
            refine am_puti (j := 16) (by decide) rfl rfl rfl hTX7 tyX7_ok nmX7 (by decide) fl_X7_162 rfl rfl (by first | exact am_nb _ | decide) (by first | exact am_fb _ | decide) dX7_move_176 ?_
            refine am_aload_n rfl dX7_move_179 ?_
            refine am_geti (j := 22) (by decide) rfl rfl rfl hTX7 (by decide) fl_X7_165 dX7_move_180 ?_
            refine am_iret rfl dX7_move_183 ?_
            have e22 : mo_move N76 (sp_n d0 d1 d2) d0 d1 d2 c 21 22 = nI c := by
              unfold mo_move mo_new mo_follow
              simp [am_rd, am_row_ne]
            refine Or.inr ⟨hok, b, N76, c, hP, fun _ => ⟨h12, hc⟩, ?_, ?_⟩
            · rw [if_pos hb]
              exact congrArg (fun x => some (Value.int x)) e22
            · rw [if_pos hb]
              rfl
          · refine am_iconst (v := (-1)) (by decide) dX7_move_82 ?_
            refine am_iret rfl dX7_move_83 ?_
            first
            | exact Or.inl ⟨mo_bad1 h9, rfl, rfl⟩
            | exact Or.inl ⟨mo_bad2 h22, rfl, rfl⟩
            | exact Or.inl ⟨mo_bad3 h35, rfl, rfl⟩
            | exact Or.inl ⟨mo_bad4 h48, rfl, rfl⟩
            | (first | (have hb : b = false := h79) | (have hb : b = false := (bI_0 b).mp h79)
               subst hb
               exact Or.inr ⟨hok, false, N76, 0, hP, fun q => (by cases q), rfl, rfl⟩)
        · refine am_iconst (v := (-1)) (by decide) dX7_move_51 ?_
          refine am_iret rfl dX7_move_52 ?_
          first
          | exact Or.inl ⟨mo_bad1 h9, rfl, rfl⟩
          | exact Or.inl ⟨mo_bad2 h22, rfl, rfl⟩
          | exact Or.inl ⟨mo_bad3 h35, rfl, rfl⟩
          | exact Or.inl ⟨mo_bad4 h48, rfl, rfl⟩
          | (first | (have hb : b = false := h79) | (have hb : b = false := (bI_0 b).mp h79)
             subst hb
             exact Or.inr ⟨hok, false, N76, 0, hP, fun q => (by cases q), rfl, rfl⟩)

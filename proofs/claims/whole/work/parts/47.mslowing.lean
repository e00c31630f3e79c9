theorem c_X7_slowsFromP (ad : Nat → Nat) (M : am_M) (v a : Int32) (hR : mRI M) (h1 : 0 ≤ v.toInt) (h2 : v.toInt ≤ 12) (h3 : -4 ≤ a.toInt) (h4 : a.toInt ≤ 4) : am_C ydX7_slowsFrom ad am_II [.ref (ad 21), .int v, .int a] M (fun r N => ∃ b, r = some (.int (bI b)) ∧ so_fr4 M N ∧ so_RC N (so_F M (m_sb M v.toInt a.toInt)) ∧ (b = false → so_F M (m_sb M v.toInt a.toInt) (sx v.toInt a.toInt) = none) ∧ (b = true → ∃ d s, so_F M (m_sb M v.toInt a.toInt) (sx v.toInt a.toInt) = some (d, s) ∧ rs_row M N (m_sb M v.toInt a.toInt) v.toInt a.toInt d)) := by
  have h9 := c_X7_slowsFrom ad M v.toInt a.toInt hR h1 h2 h3 h4
  rw [iN_self, iN_self] at h9
  refine h9.to (fun r N h => ?_)
  obtain ⟨k1, k2, ⟨k3, k4, k5⟩ | ⟨d, s, k3, k4, k5⟩⟩ := h
  · exact ⟨false, k4, k1, k2, fun _ => k3, fun q => by cases q⟩
  · exact ⟨true, k4, k1, k2, fun q => (by cases q), fun _ => ⟨d, s, k3, k5⟩⟩
theorem mo_stB {K : am_M} (hR : mRI K) {v a : Int32} (h : mo_state K v a = true) : 0 ≤ v.toInt ∧ v.toInt ≤ 12 ∧ -4 ≤ a.toInt ∧ a.toInt ≤ 4 := by
  obtain ⟨r1, r2, r3, r4, -⟩ := hR
  unfold mo_state sp_in at h
  rw [Bool.and_eq_true, decide_eq_true_eq, decide_eq_true_eq] at h
  simp only [Int32.le_iff_toInt_le, Int32.toInt_zero, i_neg] at h
  omega
noncomputable def mo_slw (K : am_M) (v a : Int) (w : Int32) : Int32 := match so_F K (m_sb K v a) (sx v a) with
  | none => -1
  | some p => if w = 2 then (if p.1 = 0 then -1 else iN (ms K (m_sb K v a) v a 1).2) else if w = 0 then nI p.1 else nI p.2
theorem mo_slw_none {K : am_M} {v a : Int} {w : Int32} (h : so_F K (m_sb K v a) (sx v a) = none) : mo_slw K v a w = -1 := by
  unfold mo_slw
  rw [h]
theorem mo_slw_2 {K : am_M} {v a : Int} {d s : Nat} (h : so_F K (m_sb K v a) (sx v a) = some (d, s)) : mo_slw K v a 2 = if d = 0 then -1 else iN (ms K (m_sb K v a) v a 1).2 := by
  unfold mo_slw
  rw [h]
  exact if_pos rfl
theorem mo_slw_0 {K : am_M} {v a : Int} {d s : Nat} (h : so_F K (m_sb K v a) (sx v a) = some (d, s)) : mo_slw K v a 0 = nI d := by
  unfold mo_slw
  rw [h]
  rfl
theorem mo_slw_1 {K : am_M} {v a : Int} {d s : Nat} {w : Int32} (h : so_F K (m_sb K v a) (sx v a) = some (d, s)) (h2 : ¬ w = 2) (h0 : ¬ w = 0) : mo_slw K v a w = nI s := by
  unfold mo_slw
  rw [h]
  dsimp only
  rw [if_neg h2, if_neg h0]
set_option maxRecDepth 100000 in
set_option maxHeartbeats 400000 in
theorem c_X7_slowing (ad : Nat → Nat) (M : am_M) (v a w : Int32) (hR : mRI M) : am_C ydX7_slowing ad am_II [.ref (ad 21), .int v, .int a, .int w] M (fun r N => ((mo_state (md M) v a = false ∨ sp_in w 0 2 = false) ∧ r = some (.int (-1)) ∧ md M = N) ∨ (mo_state (md M) v a = true ∧ sp_in w 0 2 = true ∧ so_fr4 (md M) N ∧ r = some (.int (mo_slw (md M) v.toInt a.toInt w)))) := by
  refine am_ofW (L := [some (.ref (ad 21)), some (.int v), some (.int a), some (.int w)]) (by decide +kernel) (by simp [Value.category]) (Nat.le_of_ble_eq_true rfl) rfl ?_
  refine am_aload_n rfl dX7_slowing_0 ?_
  refine am_iconst (v := 0) (by decide) dX7_slowing_1 ?_
  refine am_puti (j := 0) (by decide) rfl rfl rfl hTX7 tyX7_ok nmX7 (by decide) fl_X7_73 rfl rfl rfl rfl dX7_slowing_2 ?_
  refine am_aload_n rfl dX7_slowing_5 ?_
  refine am_iload_n rfl dX7_slowing_6 ?_
  refine am_iload_n rfl dX7_slowing_7 ?_
  refine am_callVi (c_X7_isState ad _ _ _) okX7_isState ml_X7_99 (by decide) rfl rfl rfl ⟨by decide, by decide⟩ (Nat.le_of_ble_eq_true rfl) rfl dX7_slowing_8 ?_
  refine am_ifb_eq (tgt := 32) (by decide) dX7_slowing_11 (fun h11 => ?_) (fun h11 => ?_)
  · refine am_iconst (v := (-1)) (by decide) dX7_slowing_32 ?_
    refine am_iret rfl dX7_slowing_33 ?_
    first
    | exact Or.inl ⟨Or.inl h11, rfl, rfl⟩
    | exact Or.inl ⟨Or.inr h20, rfl, rfl⟩
    | exact Or.inr ⟨h11, h20, hf, by rw [mo_slw_none (hn (by first | exact h29 | exact (bI_0 b).mp h29))]⟩
    | exact Or.inr ⟨h11, h20, hf, by rw [h36, mo_slw_2 hF, if_neg (fun z => h43 (by rw [z]; rfl))]; exact congrArg (fun x => some (Value.int x)) (hrow.2 0 (by rcases d with _ | d; exact absurd rfl h43; omega))⟩
    | exact Or.inr ⟨h11, h20, hf, by rw [h36, mo_slw_2 hF, if_pos (by have z := congrArg Int32.toInt h43; rw [nI_e] at z; simp only [Int32.toInt_zero] at z; omega)]⟩
    | exact Or.inr ⟨h11, h20, hf, by rw [h58, mo_slw_0 hF]⟩
    | exact Or.inr ⟨h11, h20, hf, by rw [mo_slw_1 hF h36 h58, hsn.2, (hat _ hx).2, hF]; rfl⟩
  · refine am_iload_n rfl dX7_slowing_14 ?_
    refine am_iconst (v := 0) (by decide) dX7_slowing_15 ?_
    refine am_iconst (v := 2) (by decide) dX7_slowing_16 ?_
    refine am_callSi (c_X7_isIn ad _ _ _ _) okX7_isIn ml_X7_80 rfl ⟨by decide, by decide⟩ (Nat.le_of_ble_eq_true rfl) rfl dX7_slowing_17 ?_
    refine am_ifb_eq (tgt := 32) (by decide) dX7_slowing_20 (fun h20 => ?_) (fun h20 => ?_)
    · refine am_iconst (v := (-1)) (by decide) dX7_slowing_32 ?_
      refine am_iret rfl dX7_slowing_33 ?_
      first
      | exact Or.inl ⟨Or.inl h11, rfl, rfl⟩
      | exact Or.inl ⟨Or.inr h20, rfl, rfl⟩
      | exact Or.inr ⟨h11, h20, hf, by rw [mo_slw_none (hn (by first | exact h29 | exact (bI_0 b).mp h29))]⟩
      | exact Or.inr ⟨h11, h20, hf, by rw [h36, mo_slw_2 hF, if_neg (fun z => h43 (by rw [z]; rfl))]; exact congrArg (fun x => some (Value.int x)) (hrow.2 0 (by rcases d with _ | d; exact absurd rfl h43; omega))⟩
      | exact Or.inr ⟨h11, h20, hf, by rw [h36, mo_slw_2 hF, if_pos (by have z := congrArg Int32.toInt h43; rw [nI_e] at z; simp only [Int32.toInt_zero] at z; omega)]⟩
      | exact Or.inr ⟨h11, h20, hf, by rw [h58, mo_slw_0 hF]⟩
      | exact Or.inr ⟨h11, h20, hf, by rw [mo_slw_1 hF h36 h58, hsn.2, (hat _ hx).2, hF]; rfl⟩
    · refine am_aload_n rfl dX7_slowing_23 ?_
      obtain ⟨hb1, hb2, hb3, hb4⟩ := mo_stB hR.md h11
      have hsn := sp_num_in hb1 hb2 hb3 hb4
      have e : sp_num v a = nI (sx v.toInt a.toInt) := (by have q := sp_num_e hb1 hb2 hb3 hb4; rw [iN_self, iN_self] at q; exact q)
      have hx := (sx_lt hb1 hb2 hb3 hb4).1
      refine am_iload_n rfl dX7_slowing_24 ?_
      refine am_iload_n rfl dX7_slowing_25 ?_
      refine am_callV (c_X7_slowsFromP ad (md M) v a hR.md hb1 hb2 hb3 hb4) okX7_slowsFrom ml_X7_135 (by decide) rfl rfl rfl ⟨by decide, by decide⟩ (Nat.le_of_ble_eq_true rfl) rfl dX7_slowing_26 (fun r26 N26 p26 => ?_)
      obtain ⟨b, rfl, hf, hat, hn, hy⟩ := p26
      refine am_ifb_ne (tgt := 34) (by decide) dX7_slowing_29 (fun h29 => ?_) (fun h29 => ?_)
      · obtain ⟨d, s0, hF, hrow⟩ := hy (by first | exact h29 | exact (bI_1 b).mp h29)
        have hsm := so_sml hR.md hF
        refine am_iload_n rfl dX7_slowing_34 ?_
        refine am_iconst (v := 2) (by decide) dX7_slowing_35 ?_
        refine am_icmp_ne (tgt := 57) (by decide) dX7_slowing_36 (fun h36 => ?_) (fun h36 => ?_)
        · refine am_iload_n rfl dX7_slowing_57 ?_
          refine am_if_ne (tgt := 74) (by decide) dX7_slowing_58 (fun h58 => ?_) (fun h58 => ?_)
          · refine am_aload_n rfl dX7_slowing_74 ?_
            refine am_getr (j := 14) (by decide) rfl rfl rfl hTX7 (by decide) fl_X7_39 dX7_slowing_75 ?_
            refine am_iload_n rfl dX7_slowing_78 ?_
            refine am_iload_n rfl dX7_slowing_79 ?_
            refine am_callSi (c_X7_of ad _ _ _) okX7_of ml_X7_127 rfl ⟨by decide, by decide⟩ (Nat.le_of_ble_eq_true rfl) rfl dX7_slowing_80 ?_
            rw [e]
            refine am_iald (by decide) rfl (hsn.1) dX7_slowing_83 ?_
            refine am_iret rfl dX7_slowing_84 ?_
            first
            | exact Or.inl ⟨Or.inl h11, rfl, rfl⟩
            | exact Or.inl ⟨Or.inr h20, rfl, rfl⟩
            | exact Or.inr ⟨h11, h20, hf, by rw [mo_slw_none (hn (by first | exact h29 | exact (bI_0 b).mp h29))]⟩
            | exact Or.inr ⟨h11, h20, hf, by rw [h36, mo_slw_2 hF, if_neg (fun z => h43 (by rw [z]; rfl))]; exact congrArg (fun x => some (Value.int x)) (hrow.2 0 (by rcases d with _ | d; exact absurd rfl h43; omega))⟩
            | exact Or.inr ⟨h11, h20, hf, by rw [h36, mo_slw_2 hF, if_pos (by have z := congrArg Int32.toInt h43; rw [nI_e] at z; simp only [Int32.toInt_zero] at z; omega)]⟩
            | exact Or.inr ⟨h11, h20, hf, by rw [h58, mo_slw_0 hF]⟩
            | exact Or.inr ⟨h11, h20, hf, by rw [mo_slw_1 hF h36 h58, hsn.2, (hat _ hx).2, hF]; rfl⟩
          · refine am_aload_n rfl dX7_slowing_61 ?_
            refine am_getr (j := 13) (by decide) rfl rfl rfl hTX7 (by decide) fl_X7_36 dX7_slowing_62 ?_
            refine am_iload_n rfl dX7_slowing_65 ?_
            refine am_iload_n rfl dX7_slowing_66 ?_
            refine am_callSi (c_X7_of ad _ _ _) okX7_of ml_X7_127 rfl ⟨by decide, by decide⟩ (Nat.le_of_ble_eq_true rfl) rfl dX7_slowing_67 ?_
            rw [e]
            refine am_iald (by decide) rfl (hsn.1) dX7_slowing_70 ?_
            rw [hsn.2, (hat _ hx).1, hF, show so_enc (some (d, s0)) = nI d from rfl]
            refine am_goto (tgt := 84) (by decide) dX7_slowing_71 ?_
            refine am_iret rfl dX7_slowing_84 ?_
            first
            | exact Or.inl ⟨Or.inl h11, rfl, rfl⟩
            | exact Or.inl ⟨Or.inr h20, rfl, rfl⟩
            | exact Or.inr ⟨h11, h20, hf, by rw [mo_slw_none (hn (by first | exact h29 | exact (bI_0 b).mp h29))]⟩
            | exact Or.inr ⟨h11, h20, hf, by rw [h36, mo_slw_2 hF, if_neg (fun z => h43 (by rw [z]; rfl))]; exact congrArg (fun x => some (Value.int x)) (hrow.2 0 (by rcases d with _ | d; exact absurd rfl h43; omega))⟩
            | exact Or.inr ⟨h11, h20, hf, by rw [h36, mo_slw_2 hF, if_pos (by have z := congrArg Int32.toInt h43; rw [nI_e] at z; simp only [Int32.toInt_zero] at z; omega)]⟩
            | exact Or.inr ⟨h11, h20, hf, by rw [h58, mo_slw_0 hF]⟩
            | exact Or.inr ⟨h11, h20, hf, by rw [mo_slw_1 hF h36 h58, hsn.2, (hat _ hx).2, hF]; rfl⟩
        · refine am_aload_n rfl dX7_slowing_39 ?_
          refine am_geti (j := 12) (by decide) rfl rfl rfl hTX7 (by decide) fl_X7_120 dX7_slowing_40 ?_
          rw [hrow.1]
          refine am_if_ne (tgt := 50) (by decide) dX7_slowing_43 (fun h43 => ?_) (fun h43 => ?_)
          · refine am_aload_n rfl dX7_slowing_50 ?_
            refine am_getr (j := 11) (by decide) rfl rfl rfl hTX7 (by decide) fl_X7_33 dX7_slowing_51 ?_
            refine am_iconst (v := 0) (by decide) dX7_slowing_54 ?_
            refine am_iald (by decide) rfl ((am_vpI (by decide) (by decide))) dX7_slowing_55 ?_
            refine am_iret rfl dX7_slowing_56 ?_
            first
            | exact Or.inl ⟨Or.inl h11, rfl, rfl⟩
            | exact Or.inl ⟨Or.inr h20, rfl, rfl⟩
            | exact Or.inr ⟨h11, h20, hf, by rw [mo_slw_none (hn (by first | exact h29 | exact (bI_0 b).mp h29))]⟩
            | exact Or.inr ⟨h11, h20, hf, by rw [h36, mo_slw_2 hF, if_neg (fun z => h43 (by rw [z]; rfl))]; exact congrArg (fun x => some (Value.int x)) (hrow.2 0 (by rcases d with _ | d; exact absurd rfl h43; omega))⟩
            | exact Or.inr ⟨h11, h20, hf, by rw [h36, mo_slw_2 hF, if_pos (by have z := congrArg Int32.toInt h43; rw [nI_e] at z; simp only [Int32.toInt_zero] at z; omega)]⟩
            | exact Or.inr ⟨h11, h20, hf, by rw [h58, mo_slw_0 hF]⟩
            | exact Or.inr ⟨h11, h20, hf, by rw [mo_slw_1 hF h36 h58, hsn.2, (hat _ hx).2, hF]; rfl⟩
          · refine am_iconst (v := (-1)) (by decide) dX7_slowing_46 ?_
            refine am_goto (tgt := 56) (by decide) dX7_slowing_47 ?_
            refine am_iret rfl dX7_slowing_56 ?_
            first
            | exact Or.inl ⟨Or.inl h11, rfl, rfl⟩
            | exact Or.inl ⟨Or.inr h20, rfl, rfl⟩
            | exact Or.inr ⟨h11, h20, hf, by rw [mo_slw_none (hn (by first | exact h29 | exact (bI_0 b).mp h29))]⟩
            | exact Or.inr ⟨h11, h20, hf, by rw [h36, mo_slw_2 hF, if_neg (fun z => h43 (by rw [z]; rfl))]; exact congrArg (fun x => some (Value.int x)) (hrow.2 0 (by rcases d with _ | d; exact absurd rfl h43; omega))⟩
            | exact Or.inr ⟨h11, h20, hf, by rw [h36, mo_slw_2 hF, if_pos (by have z := congrArg Int32.toInt h43; rw [nI_e] at z; simp only [Int32.toInt_zero] at z; omega)]⟩
            | exact Or.inr ⟨h11, h20, hf, by rw [h58, mo_slw_0 hF]⟩
            | exact Or.inr ⟨h11, h20, hf, by rw [mo_slw_1 hF h36 h58, hsn.2, (hat _ hx).2, hF]; rfl⟩
      · refine am_iconst (v := (-1)) (by decide) dX7_slowing_32 ?_
        refine am_iret rfl dX7_slowing_33 ?_
        first
        | exact Or.inl ⟨Or.inl h11, rfl, rfl⟩
        | exact Or.inl ⟨Or.inr h20, rfl, rfl⟩
        | exact Or.inr ⟨h11, h20, hf, by rw [mo_slw_none (hn (by first | exact h29 | exact (bI_0 b).mp h29))]⟩
        | exact Or.inr ⟨h11, h20, hf, by rw [h36, mo_slw_2 hF, if_neg (fun z => h43 (by rw [z]; rfl))]; exact congrArg (fun x => some (Value.int x)) (hrow.2 0 (by rcases d with _ | d; exact absurd rfl h43; omega))⟩
        | exact Or.inr ⟨h11, h20, hf, by rw [h36, mo_slw_2 hF, if_pos (by have z := congrArg Int32.toInt h43; rw [nI_e] at z; simp only [Int32.toInt_zero] at z; omega)]⟩
        | exact Or.inr ⟨h11, h20, hf, by rw [h58, mo_slw_0 hF]⟩
        | exact Or.inr ⟨h11, h20, hf, by rw [mo_slw_1 hF h36 h58, hsn.2, (hat _ hx).2, hF]; rfl⟩
def mo_okStop (K : am_M) : Bool := mo_mv K && decide (K 21 16 = 0)
set_option maxRecDepth 100000 in
set_option maxHeartbeats 400000 in
theorem c_X7_stop (ad : Nat → Nat) (M : am_M)  (hR : mRI M) (hb : 0 ≤ (md M 21 27).toInt ∧ (md M 21 27).toInt ≤ 12 ∧ -4 ≤ (md M 21 28).toInt ∧ (md M 21 28).toInt ≤ 4) : am_C ydX7_stop ad am_II [.ref (ad 21)] M (fun r N => (mo_okStop (md M) = false ∧ r = some (.int (-1)) ∧ md M = N) ∨ (mo_okStop (md M) = true ∧ ∃ N0, so_fr4 (md M) N0 ∧ ((so_F (md M) (m_sb (md M) (md M 21 27).toInt (md M 21 28).toInt) (sx (md M 21 27).toInt (md M 21 28).toInt) = none ∧ r = some (.int (-1)) ∧ N = N0) ∨ ∃ d s, so_F (md M) (m_sb (md M) (md M 21 27).toInt (md M 21 28).toInt) (sx (md M 21 27).toInt (md M 21 28).toInt) = some (d, s) ∧ rs_row (md M) N0 (m_sb (md M) (md M 21 27).toInt (md M 21 28).toInt) (md M 21 27).toInt (md M 21 28).toInt d ∧ r = some (.int (nI d)) ∧ N = am_put (mo_follow N0 d) 21 16 1))) := by
  refine am_ofW (L := [some (.ref (ad 21))]) (by decide +kernel) (by simp [Value.category]) (Nat.le_of_ble_eq_true rfl) rfl ?_
  have hok : ∀ b, mo_okStop (md M) = b ↔ (mo_mv (md M) && decide (md M 21 16 = 0)) = b := fun b => Iff.rfl
  refine am_aload_n rfl dX7_stop_0 ?_
  refine am_iconst (v := 0) (by decide) dX7_stop_1 ?_
  refine am_puti (j := 0) (by decide) rfl rfl rfl hTX7 tyX7_ok nmX7 (by decide) fl_X7_73 rfl rfl rfl rfl dX7_stop_2 ?_
  refine am_aload_n rfl dX7_stop_5 ?_
  refine am_geti (j := 15) (by decide) rfl rfl rfl hTX7 (by decide) fl_X7_76 dX7_stop_6 ?_
  refine am_if_eq (tgt := 34) (by decide) dX7_stop_9 (fun h9 => ?_) (fun h9 => ?_)
  · refine am_iconst (v := (-1)) (by decide) dX7_stop_34 ?_
    refine am_iret rfl dX7_stop_35 ?_
    first
    | exact Or.inl ⟨by (unfold mo_okStop mo_mv; rw [show md M 21 15 = 0 from h9]; rfl), rfl, rfl⟩
    | exact Or.inl ⟨by (unfold mo_okStop; rw [decide_eq_false h16, Bool.and_false]), rfl, rfl⟩
    | exact Or.inr ⟨hy1, N28, hf, Or.inl ⟨hn (by first | exact h31 | exact (bI_0 b).mp h31), rfl, rfl⟩⟩
    | exact Or.inr ⟨hy1, N28, hf, Or.inr ⟨d, s0, hF, hrow, congrArg (fun x => some (Value.int x)) (by unfold mo_follow; simp [am_rd, am_row_ne]), rfl⟩⟩
  · refine am_aload_n rfl dX7_stop_12 ?_
    refine am_geti (j := 16) (by decide) rfl rfl rfl hTX7 (by decide) fl_X7_162 dX7_stop_13 ?_
    refine am_if_ne (tgt := 34) (by decide) dX7_stop_16 (fun h16 => ?_) (fun h16 => ?_)
    · refine am_iconst (v := (-1)) (by decide) dX7_stop_34 ?_
      refine am_iret rfl dX7_stop_35 ?_
      first
      | exact Or.inl ⟨by (unfold mo_okStop mo_mv; rw [show md M 21 15 = 0 from h9]; rfl), rfl, rfl⟩
      | exact Or.inl ⟨by (unfold mo_okStop; rw [decide_eq_false h16, Bool.and_false]), rfl, rfl⟩
      | exact Or.inr ⟨hy1, N28, hf, Or.inl ⟨hn (by first | exact h31 | exact (bI_0 b).mp h31), rfl, rfl⟩⟩
      | exact Or.inr ⟨hy1, N28, hf, Or.inr ⟨d, s0, hF, hrow, congrArg (fun x => some (Value.int x)) (by unfold mo_follow; simp [am_rd, am_row_ne]), rfl⟩⟩
    · have hy1 : mo_okStop (md M) = true := by (unfold mo_okStop mo_mv; rw [decide_eq_true h9, show md M 21 16 = 0 from h16]; rfl)
      refine am_aload_n rfl dX7_stop_19 ?_
      refine am_aload_n rfl dX7_stop_20 ?_
      refine am_geti (j := 27) (by decide) rfl rfl rfl hTX7 (by decide) fl_X7_150 dX7_stop_21 ?_
      refine am_aload_n rfl dX7_stop_24 ?_
      refine am_geti (j := 28) (by decide) rfl rfl rfl hTX7 (by decide) fl_X7_153 dX7_stop_25 ?_
      refine am_callV (c_X7_slowsFromP ad (md M) (md M 21 27) (md M 21 28) hR.md hb.1 hb.2.1 hb.2.2.1 hb.2.2.2) okX7_slowsFrom ml_X7_135 (by decide) rfl rfl rfl ⟨by decide, by decide⟩ (Nat.le_of_ble_eq_true rfl) rfl dX7_stop_28 (fun r28 N28 p28 => ?_)
      obtain ⟨b, rfl, hf, hat, hn, hy⟩ := p28
      refine am_ifb_ne (tgt := 36) (by decide) dX7_stop_31 (fun h31 => ?_) (fun h31 => ?_)
      · obtain ⟨d, s0, hF, hrow⟩ := hy (by first | exact h31 | exact (bI_1 b).mp h31)
        have hsm := so_sml hR.md hF
        refine am_aload_n rfl dX7_stop_36 ?_
        refine am_callVv (c_X7_follow ad N28 d (by omega) hrow.1) okX7_follow ml_X7_141 (by decide) rfl rfl rfl ⟨by decide, by decide⟩ (Nat.le_of_ble_eq_true rfl) rfl dX7_stop_37 ?_
        refine am_aload_n rfl dX7_stop_40 ?_
        refine am_iconst (v := 1) (by decide) dX7_stop_41 ?_
        refine am_puti (j := 16) (by decide) rfl rfl rfl hTX7 tyX7_ok nmX7 (by decide) fl_X7_162 rfl rfl (by first | exact am_nb _ | decide) (by first | exact am_fb _ | decide) dX7_stop_42 ?_
        refine am_aload_n rfl dX7_stop_45 ?_
        refine am_geti (j := 22) (by decide) rfl rfl rfl hTX7 (by decide) fl_X7_165 dX7_stop_46 ?_
        refine am_iret rfl dX7_stop_49 ?_
        first
        | exact Or.inl ⟨by (unfold mo_okStop mo_mv; rw [show md M 21 15 = 0 from h9]; rfl), rfl, rfl⟩
        | exact Or.inl ⟨by (unfold mo_okStop; rw [decide_eq_false h16, Bool.and_false]), rfl, rfl⟩
        | exact Or.inr ⟨hy1, N28, hf, Or.inl ⟨hn (by first | exact h31 | exact (bI_0 b).mp h31), rfl, rfl⟩⟩
        | exact Or.inr ⟨hy1, N28, hf, Or.inr ⟨d, s0, hF, hrow, congrArg (fun x => some (Value.int x)) (by unfold mo_follow; simp [am_rd, am_row_ne]), rfl⟩⟩
      · refine am_iconst (v := (-1)) (by decide) dX7_stop_34 ?_
        refine am_iret rfl dX7_stop_35 ?_
        first
        | exact Or.inl ⟨by (unfold mo_okStop mo_mv; rw [show md M 21 15 = 0 from h9]; rfl), rfl, rfl⟩
        | exact Or.inl ⟨by (unfold mo_okStop; rw [decide_eq_false h16, Bool.and_false]), rfl, rfl⟩
        | exact Or.inr ⟨hy1, N28, hf, Or.inl ⟨hn (by first | exact h31 | exact (bI_0 b).mp h31), rfl, rfl⟩⟩
        | exact Or.inr ⟨hy1, N28, hf, Or.inr ⟨d, s0, hF, hrow, congrArg (fun x => some (Value.int x)) (by unfold mo_follow; simp [am_rd, am_row_ne]), rfl⟩⟩

/-- what ramps leaves -/
def rm_P (M : am_M) (n : Int32) (r : Option Value) (N : am_M) : Prop := rm_fr4 M N ∧ rm_at M N ∧ ((n.toInt = 0 ∧ r = some (.int 1) ∧ N 21 12 = 0) ∨ (¬ n.toInt = 0 ∧ mF M (rp_st n.toInt) = none ∧ r = some (.int 0) ∧ N 21 12 = 0) ∨ (¬ n.toInt = 0 ∧ ∃ d, mF M (rp_st n.toInt) = some d ∧ r = some (.int 1) ∧ rm_row M N n.toInt d))
theorem mRI.md {M : am_M} (h : mRI M) : mRI (md M) := by
  unfold mRI
  rw [md_f M (by decide), md_f M (by decide), md_f M (by decide), md_f M (by decide)]
  exact h
theorem c_X7_rampsP (ad : Nat → Nat) (M : am_M) (n : Int32) (hR : mRI M) (hn : sp_in n 0 200 = true) : am_C ydX7_ramps ad am_II [.ref (ad 21), .int n] M (fun r N => rm_P M n r N ∧ ∃ b, r = some (.int (bI b)) ∧ (b = false → mF M (rp_st n.toInt) = none ∧ N 21 12 = 0) ∧ (b = true → (n.toInt = 0 ∧ N 21 12 = 0) ∨ ∃ d, ¬ n.toInt = 0 ∧ mF M (rp_st n.toInt) = some d ∧ rm_row M N n.toInt d)) := by
  have h9 := hn
  simp only [sp_in, decide_eq_true_eq, Int32.le_iff_toInt_le, Int32.toInt_zero, kI_200] at h9
  refine (c_X7_ramps ad M n hR h9.1 h9.2).to (fun r N h => ⟨h, ?_⟩)
  rcases h.2.2 with ⟨h1, h2, h3⟩ | ⟨h1, h2, h3, h4⟩ | ⟨h1, d, h2, h3, h4⟩
  · exact ⟨true, h2, fun q => (by cases q), fun _ => Or.inl ⟨h1, h3⟩⟩
  · exact ⟨false, h3, fun _ => ⟨h2, h4⟩, fun q => (by cases q)⟩
  · exact ⟨true, h3, fun q => (by cases q), fun _ => Or.inr ⟨d, h1, h2, h4⟩⟩
set_option maxRecDepth 100000 in
set_option maxHeartbeats 400000 in
theorem c_X7_ramp (ad : Nat → Nat) (M : am_M) (n : Int32) (hR : mRI M) : am_C ydX7_ramp ad am_II [.ref (ad 21), .int n] M (fun r N => (sp_in n 0 200 = false ∧ r = some (.int (-1)) ∧ md M = N) ∨ (sp_in n 0 200 = true ∧ ∃ b, rm_P (md M) n (some (.int (bI b))) N ∧ r = some (.int (if b = true then N 21 12 else -1)))) := by
  refine am_ofW (L := [some (.ref (ad 21)), some (.int n)]) (by decide +kernel) (by simp [Value.category]) (Nat.le_of_ble_eq_true rfl) rfl ?_
  refine am_aload_n rfl dX7_ramp_0 ?_
  refine am_iconst (v := 0) (by decide) dX7_ramp_1 ?_
  refine am_puti (j := 0) (by decide) rfl rfl rfl hTX7 tyX7_ok nmX7 (by decide) fl_X7_73 rfl rfl rfl rfl dX7_ramp_2 ?_
  refine am_iload_n rfl dX7_ramp_5 ?_
  refine am_iconst (v := 0) (by decide) dX7_ramp_6 ?_
  refine am_sipush (v := 200) (by decide) dX7_ramp_7 ?_
  refine am_callSi (c_X7_isIn ad _ _ _ _) okX7_isIn ml_X7_80 rfl ⟨by decide, by decide⟩ (Nat.le_of_ble_eq_true rfl) rfl dX7_ramp_10 ?_
  refine am_ifb_eq (tgt := 31) (by decide) dX7_ramp_13 (fun h13 => ?_) (fun h13 => ?_)
  · refine am_iconst (v := (-1)) (by decide) dX7_ramp_31 ?_
    refine am_iret rfl dX7_ramp_32 ?_
    first
    | exact Or.inl ⟨h13, rfl, rfl⟩
    | exact Or.inr ⟨h13, b, hP, by rw [if_pos ((bI_1 b).mp h21)]⟩
    | exact Or.inr ⟨h13, b, hP, by rw [if_neg (fun z => by rw [(bI_0 b).mp h21] at z; cases z)]⟩
    | exact Or.inr ⟨h13, b, hP, by rw [if_pos h21]⟩
    | exact Or.inr ⟨h13, b, hP, by rw [if_neg (by rw [h21]; decide)]⟩
  · refine am_aload_n rfl dX7_ramp_16 ?_
    refine am_iload_n rfl dX7_ramp_17 ?_
    refine am_callV (c_X7_rampsP ad (md M) n hR.md h13) okX7_ramps ml_X7_123 (by decide) rfl rfl rfl ⟨by decide, by decide⟩ (Nat.le_of_ble_eq_true rfl) rfl dX7_ramp_18 (fun r18 N18 p18 => ?_)
    obtain ⟨hP, b, rfl, hb0, hb1⟩ := p18
    refine am_ifb_eq (tgt := 31) (by decide) dX7_ramp_21 (fun h21 => ?_) (fun h21 => ?_)
    · refine am_iconst (v := (-1)) (by decide) dX7_ramp_31 ?_
      refine am_iret rfl dX7_ramp_32 ?_
      first
      | exact Or.inl ⟨h13, rfl, rfl⟩
      | exact Or.inr ⟨h13, b, hP, by rw [if_pos ((bI_1 b).mp h21)]⟩
      | exact Or.inr ⟨h13, b, hP, by rw [if_neg (fun z => by rw [(bI_0 b).mp h21] at z; cases z)]⟩
      | exact Or.inr ⟨h13, b, hP, by rw [if_pos h21]⟩
      | exact Or.inr ⟨h13, b, hP, by rw [if_neg (by rw [h21]; decide)]⟩
    · refine am_aload_n rfl dX7_ramp_24 ?_
      refine am_geti (j := 12) (by decide) rfl rfl rfl hTX7 (by decide) fl_X7_120 dX7_ramp_25 ?_
      refine am_goto (tgt := 32) (by decide) dX7_ramp_28 ?_
      refine am_iret rfl dX7_ramp_32 ?_
      first
      | exact Or.inl ⟨h13, rfl, rfl⟩
      | exact Or.inr ⟨h13, b, hP, by rw [if_pos ((bI_1 b).mp h21)]⟩
      | exact Or.inr ⟨h13, b, hP, by rw [if_neg (fun z => by rw [(bI_0 b).mp h21] at z; cases z)]⟩
      | exact Or.inr ⟨h13, b, hP, by rw [if_pos h21]⟩
      | exact Or.inr ⟨h13, b, hP, by rw [if_neg (by rw [h21]; decide)]⟩
set_option maxRecDepth 100000 in
set_option maxHeartbeats 400000 in
theorem lp_X7_speed (ad : Nat → Nat) (M N : am_M) (n t d : Nat) (n32 : Int32) (hd : d ≤ 1000) (ht : t < d) (hrow : rm_row M N n d) (P : Option Value → am_M → Prop) (hP : P (some (.int (iN (mg M n (t + 1)).1))) N) : ∀ (z k : Nat), t + 1 - k < z → k ≤ t + 1 → am_W ydX7_speed ad am_II P 43 [some (.ref (ad 21)), some (.int n32), some (.int (nI t)), some (.int (iN (mg M n k).1)), some (.int (nI k))] [] N := by
  intro z
  induction z with
  | zero => intro k hz; omega
  | succ z ih =>
    intro k hz hk
    have KE : k = t + 1 → am_W ydX7_speed ad am_II P 65 [some (.ref (ad 21)), some (.int n32), some (.int (nI t)), some (.int (iN (mg M n k).1)), some (.int (nI k))] [] N := by
      intro q
      subst q
      refine am_iload_n rfl dX7_speed_65 ?_
      exact am_iret rfl dX7_speed_66 hP
    have KN : k ≤ t → am_W ydX7_speed ad am_II P 49 [some (.ref (ad 21)), some (.int n32), some (.int (nI t)), some (.int (iN (mg M n k).1)), some (.int (nI k))] [] N := by
      intro q
      have hv : vp_in (nI k) 1000 := vp_in_nI (by omega) (by omega)
      refine am_iload_n rfl dX7_speed_49 ?_
      refine am_aload_n rfl dX7_speed_50 ?_
      refine am_getr (j := 11) (by decide) rfl rfl rfl hTX7 (by decide) fl_X7_33 dX7_speed_51 ?_
      refine am_iload rfl dX7_speed_54 ?_
      refine am_iald (by decide) rfl (hv) dX7_speed_56 ?_
      rw [nI_clamp (by omega), hrow.2 k (by omega)]
      refine am_iadd dX7_speed_57 ?_
      rw [iN_add, show (mg M n k).1 + (mg M n (k + 1)).2.1 = (mg M n (k + 1)).1 from rfl]
      refine am_istore_n (by decide) dX7_speed_58 ?_
      refine am_iinc (v := nI (k + 1)) rfl (nI_inc k) (by decide) dX7_speed_59 ?_
      refine am_goto (tgt := 43) (by decide) dX7_speed_62 ?_
      exact ih (k + 1) (by omega) (by omega)
    refine am_iload rfl dX7_speed_43 ?_
    refine am_iload_n rfl dX7_speed_45 ?_
    refine am_icmp_gt (tgt := 65) (by decide) dX7_speed_46 (fun h46 => ?_) (fun h46 => ?_)
    · exact KE (by simp only [Int32.lt_iff_toInt_lt, nI_e] at h46; omega)
    · exact KN (by simp only [Int32.lt_iff_toInt_lt, nI_e] at h46; omega)
set_option maxRecDepth 100000 in
set_option maxHeartbeats 400000 in
theorem c_X7_speed (ad : Nat → Nat) (M : am_M) (n t : Int32) (hR : mRI M) : am_C ydX7_speed ad am_II [.ref (ad 21), .int n, .int t] M (fun r N => (sp_in n 0 200 = false ∧ r = some (.int (-1)) ∧ md M = N) ∨ (sp_in n 0 200 = true ∧ ∃ b, rm_P (md M) n (some (.int (bI b))) N ∧ r = some (.int (if b = true ∧ ¬ t < 0 ∧ t < N 21 12 then iN (mg (md M) n.toInt (t.toInt.toNat + 1)).1 else -1)))) := by
  refine am_ofW (L := [some (.ref (ad 21)), some (.int n), some (.int t), none, none]) (by decide +kernel) (by simp [Value.category]) (Nat.le_of_ble_eq_true rfl) rfl ?_
  refine am_aload_n rfl dX7_speed_0 ?_
  refine am_iconst (v := 0) (by decide) dX7_speed_1 ?_
  refine am_puti (j := 0) (by decide) rfl rfl rfl hTX7 tyX7_ok nmX7 (by decide) fl_X7_73 rfl rfl rfl rfl dX7_speed_2 ?_
  refine am_iload_n rfl dX7_speed_5 ?_
  refine am_iconst (v := 0) (by decide) dX7_speed_6 ?_
  refine am_sipush (v := 200) (by decide) dX7_speed_7 ?_
  refine am_callSi (c_X7_isIn ad _ _ _ _) okX7_isIn ml_X7_80 rfl ⟨by decide, by decide⟩ (Nat.le_of_ble_eq_true rfl) rfl dX7_speed_10 ?_
  refine am_ifb_eq (tgt := 36) (by decide) dX7_speed_13 (fun h13 => ?_) (fun h13 => ?_)
  · refine am_iconst (v := (-1)) (by decide) dX7_speed_36 ?_
    refine am_iret rfl dX7_speed_37 ?_
    first
    | exact Or.inl ⟨h13, rfl, rfl⟩
    | exact Or.inr ⟨h13, b, hP, by rw [if_neg (fun z => absurd z.1 (by rw [(bI_0 b).mp h21]; decide))]⟩
    | exact Or.inr ⟨h13, b, hP, by rw [if_neg (fun z => absurd z.1 (by rw [h21]; decide))]⟩
    | exact Or.inr ⟨h13, b, hP, congrArg (fun x => some (Value.int x)) (if_neg (fun z => h33 z.2.2)).symm⟩
    | exact Or.inr ⟨h13, b, hP, congrArg (fun x => some (Value.int x)) (if_neg (fun z => z.2.1 h25)).symm⟩
  · refine am_aload_n rfl dX7_speed_16 ?_
    refine am_iload_n rfl dX7_speed_17 ?_
    refine am_callV (c_X7_rampsP ad (md M) n hR.md h13) okX7_ramps ml_X7_123 (by decide) rfl rfl rfl ⟨by decide, by decide⟩ (Nat.le_of_ble_eq_true rfl) rfl dX7_speed_18 (fun r18 N18 p18 => ?_)
    obtain ⟨hP, b, rfl, hb0, hb1⟩ := p18
    refine am_ifb_eq (tgt := 36) (by decide) dX7_speed_21 (fun h21 => ?_) (fun h21 => ?_)
    · refine am_iconst (v := (-1)) (by decide) dX7_speed_36 ?_
      refine am_iret rfl dX7_speed_37 ?_
      first
      | exact Or.inl ⟨h13, rfl, rfl⟩
      | exact Or.inr ⟨h13, b, hP, by rw [if_neg (fun z => absurd z.1 (by rw [(bI_0 b).mp h21]; decide))]⟩
      | exact Or.inr ⟨h13, b, hP, by rw [if_neg (fun z => absurd z.1 (by rw [h21]; decide))]⟩
      | exact Or.inr ⟨h13, b, hP, congrArg (fun x => some (Value.int x)) (if_neg (fun z => h33 z.2.2)).symm⟩
      | exact Or.inr ⟨h13, b, hP, congrArg (fun x => some (Value.int x)) (if_neg (fun z => z.2.1 h25)).symm⟩
    · refine am_iload_n rfl dX7_speed_24 ?_
      refine am_if_lt (tgt := 36) (by decide) dX7_speed_25 (fun h25 => ?_) (fun h25 => ?_)
      · refine am_iconst (v := (-1)) (by decide) dX7_speed_36 ?_
        refine am_iret rfl dX7_speed_37 ?_
        first
        | exact Or.inl ⟨h13, rfl, rfl⟩
        | exact Or.inr ⟨h13, b, hP, by rw [if_neg (fun z => absurd z.1 (by rw [(bI_0 b).mp h21]; decide))]⟩
        | exact Or.inr ⟨h13, b, hP, by rw [if_neg (fun z => absurd z.1 (by rw [h21]; decide))]⟩
        | exact Or.inr ⟨h13, b, hP, congrArg (fun x => some (Value.int x)) (if_neg (fun z => h33 z.2.2)).symm⟩
        | exact Or.inr ⟨h13, b, hP, congrArg (fun x => some (Value.int x)) (if_neg (fun z => z.2.1 h25)).symm⟩
      · refine am_iload_n rfl dX7_speed_28 ?_
        refine am_aload_n rfl dX7_speed_29 ?_
        refine am_geti (j := 12) (by decide) rfl rfl rfl hTX7 (by decide) fl_X7_120 dX7_speed_30 ?_
        refine am_icmp_lt (tgt := 38) (by decide) dX7_speed_33 (fun h33 => ?_) (fun h33 => ?_)
        · refine am_iconst (v := 0) (by decide) dX7_speed_38 ?_
          refine am_istore_n (by decide) dX7_speed_39 ?_
          refine am_iconst (v := 0) (by decide) dX7_speed_40 ?_
          refine am_istore (by decide) dX7_speed_41 ?_
          have hb : b = true := by first | exact (bI_1 b).mp h21 | exact h21
          have hn9 := h13
          simp only [sp_in, decide_eq_true_eq, Int32.le_iff_toInt_le, Int32.toInt_zero, kI_200] at hn9
          have en : ((n.toInt.toNat : Nat) : Int) = n.toInt := by omega
          rcases hb1 hb with ⟨z1, z2⟩ | ⟨d, z1, z2, z3⟩
          · exfalso
            rw [z2] at h33
            exact h25 h33
          · have hd := mF_le hR.md (v := 0) (a := 0) (l := n.toInt) (by omega) (by omega) (by omega) (by omega) hn9.1 hn9.2 z2
            have h33' := h33
            rw [z3.1] at h33'
            simp only [Int32.lt_iff_toInt_lt, Int32.toInt_zero, nI_e] at h33' h25
            have et : t = nI t.toInt.toNat := i_inj (by rw [nI_e]; omega)
            generalize hz : t.toInt.toNat = t9 at *
            subst et
            generalize hz2 : n.toInt.toNat = n9 at *
            rw [← en] at z3
            refine lp_X7_speed ad (md M) N18 n9 t9 d n (by omega) (by omega) z3 _ ?_ (t9 + 2) 0 (by omega) (by omega)
            exact Or.inr ⟨h13, b, hP, by rw [if_pos ⟨hb, by simp only [Int32.lt_iff_toInt_lt, Int32.toInt_zero, nI_e]; omega, h33⟩, en]⟩
        · refine am_iconst (v := (-1)) (by decide) dX7_speed_36 ?_
          refine am_iret rfl dX7_speed_37 ?_
          first
          | exact Or.inl ⟨h13, rfl, rfl⟩
          | exact Or.inr ⟨h13, b, hP, by rw [if_neg (fun z => absurd z.1 (by rw [(bI_0 b).mp h21]; decide))]⟩
          | exact Or.inr ⟨h13, b, hP, by rw [if_neg (fun z => absurd z.1 (by rw [h21]; decide))]⟩
          | exact Or.inr ⟨h13, b, hP, congrArg (fun x => some (Value.int x)) (if_neg (fun z => h33 z.2.2)).symm⟩
          | exact Or.inr ⟨h13, b, hP, congrArg (fun x => some (Value.int x)) (if_neg (fun z => z.2.1 h25)).symm⟩

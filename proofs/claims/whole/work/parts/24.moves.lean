theorem am_acmp_neC {Y : am_Y} {ad : Nat → Nat} {I : List Nat} {P : Option Value → am_M → Prop} {pc : Nat} {L : List (Option Value)} {st : List Value} {M : am_M} {k k' : Nat} {off : Int} {tgt : Nat} (hk : k ∈ I) (hk' : k' ∈ I) (hne : k ≠ k') (ht : (pc : Int) + off = (tgt : Int)) (hdg : decode Y.2.1 pc = .ok (.if_acmp .ne off, 3)) (kt : am_W Y ad I P tgt L st M) : am_W Y ad I P pc L (.ref (ad k') :: .ref (ad k) :: st) M := by
  intro l D cyI cyZ p e s m args below meth c A H locs ls hX hA hl hP hD hS
  obtain ⟨i, hi⟩ := List.getElem?_of_mem hk
  obtain ⟨j, hj⟩ := List.getElem?_of_mem hk'
  have hq : ad k ≠ ad k' := by
    intro e9
    have e8 := hD.1 i j _ _ (am_w_get hi) (am_w_get hj) e9
    subst e8
    rw [hi] at hj
    exact hne (Option.some.inj hj)
  exact am_acmp_ne ht hdg (fun _ => kt) (fun h => absurd h hq) l D cyI cyZ p e s m args below meth c A H locs ls hX hA hl hP hD hS
theorem c_X5_ticksFrom_7_32 (ad : Nat → Nat) (M : am_M) (v a : Int32) (h1 : 0 ≤ v.toInt) (h2 : v.toInt ≤ 12) (h3 : -4 ≤ a.toInt) (h4 : a.toInt ≤ 4) : am_C ydX5_ticksFrom ad am_II [.ref (ad 7), .int v, .int a] M (am_is (M 8 (sx v.toInt a.toInt)) M) := by
  have h := c_X5_ticksFrom_7 ad M v.toInt a.toInt h1 h2 h3 h4
  rwa [iN_self, iN_self] at h
theorem c_X5_stepsFrom_7_32 (ad : Nat → Nat) (M : am_M) (v a : Int32) (h1 : 0 ≤ v.toInt) (h2 : v.toInt ≤ 12) (h3 : -4 ≤ a.toInt) (h4 : a.toInt ≤ 4) : am_C ydX5_stepsFrom ad am_II [.ref (ad 7), .int v, .int a] M (am_is (M 9 (sx v.toInt a.toInt)) M) := by
  have h := c_X5_stepsFrom_7 ad M v.toInt a.toInt h1 h2 h3 h4
  rwa [iN_self, iN_self] at h
theorem c_X5_nextChange_7_32 (ad : Nat → Nat) (M : am_M) (v a : Int32) (hR : am_RI M) (h01 : M 7 0 = 0 ∨ M 7 0 = 1) (h1 : 0 ≤ v.toInt) (h2 : v.toInt ≤ 12) (h3 : -4 ≤ a.toInt) (h4 : a.toInt ≤ 4) : am_C ydX5_nextChange ad am_II [.ref (ad 7), .ref (ad 1), .int v, .int a] M (am_is (iN (sl_nc_7 M v.toInt a.toInt)) M) := by
  have h := c_X5_nextChange_7 ad M v.toInt a.toInt hR h01 h1 h2 h3 h4
  rwa [iN_self, iN_self] at h
def sl_ans_7 (N : am_M) (v a : Int) (w : Int32) : Int32 := if N 8 (sx v a) = -1 then -1 else if w = 0 then N 8 (sx v a) else if w = 1 then N 9 (sx v a) else if iN (sl_nc_7 N v a) = 5 then -1 else iN (sl_nc_7 N v a)
theorem c_X5_ticksFrom_11_32 (ad : Nat → Nat) (M : am_M) (v a : Int32) (h1 : 0 ≤ v.toInt) (h2 : v.toInt ≤ 12) (h3 : -4 ≤ a.toInt) (h4 : a.toInt ≤ 4) : am_C ydX5_ticksFrom ad am_II [.ref (ad 11), .int v, .int a] M (am_is (M 12 (sx v.toInt a.toInt)) M) := by
  have h := c_X5_ticksFrom_11 ad M v.toInt a.toInt h1 h2 h3 h4
  rwa [iN_self, iN_self] at h
theorem c_X5_stepsFrom_11_32 (ad : Nat → Nat) (M : am_M) (v a : Int32) (h1 : 0 ≤ v.toInt) (h2 : v.toInt ≤ 12) (h3 : -4 ≤ a.toInt) (h4 : a.toInt ≤ 4) : am_C ydX5_stepsFrom ad am_II [.ref (ad 11), .int v, .int a] M (am_is (M 13 (sx v.toInt a.toInt)) M) := by
  have h := c_X5_stepsFrom_11 ad M v.toInt a.toInt h1 h2 h3 h4
  rwa [iN_self, iN_self] at h
theorem c_X5_nextChange_11_32 (ad : Nat → Nat) (M : am_M) (v a : Int32) (hR : am_RI M) (h01 : M 11 0 = 0 ∨ M 11 0 = 1) (h1 : 0 ≤ v.toInt) (h2 : v.toInt ≤ 12) (h3 : -4 ≤ a.toInt) (h4 : a.toInt ≤ 4) : am_C ydX5_nextChange ad am_II [.ref (ad 11), .ref (ad 1), .int v, .int a] M (am_is (iN (sl_nc_11 M v.toInt a.toInt)) M) := by
  have h := c_X5_nextChange_11 ad M v.toInt a.toInt hR h01 h1 h2 h3 h4
  rwa [iN_self, iN_self] at h
def sl_ans_11 (N : am_M) (v a : Int) (w : Int32) : Int32 := if N 12 (sx v a) = -1 then -1 else if w = 0 then N 12 (sx v a) else if w = 1 then N 13 (sx v a) else if iN (sl_nc_11 N v a) = 5 then -1 else iN (sl_nc_11 N v a)
theorem c_X6_slowingsFrom_32 (ad : Nat → Nat) (M : am_M) (v a : Int32) (hR : am_RI M) (hI : sl_I M) (h1 : 0 ≤ v.toInt) (h2 : v.toInt ≤ 12) (h3 : -4 ≤ a.toInt) (h4 : a.toInt ≤ 4) : am_C ydX6_slowingsFrom ad am_II [.ref (ad 0), .int v, .int a] M (fun r N => sl_mv M N ∧ ((r = some (.ref (ad 7)) ∧ sl_saf M v.toInt a.toInt ∧ N 7 5 = M 1 8) ∨ (r = some (.ref (ad 11)) ∧ ¬ sl_saf M v.toInt a.toInt ∧ N 11 5 = M 1 8))) := by
  have h := c_X6_slowingsFrom ad M v.toInt a.toInt hR hI h1 h2 h3 h4
  rwa [iN_self, iN_self] at h
theorem am_stB {M : am_M} (hR : am_RI M) {v a : Int32} (h : sp_state M v a = true) : 0 ≤ v.toInt ∧ v.toInt ≤ 12 ∧ -4 ≤ a.toInt ∧ a.toInt ≤ 4 := by
  obtain ⟨q1, q2, q3, q4, -⟩ := hR
  have hv := i_rng v
  have ha := i_rng a
  simp only [sp_state, decide_eq_true_eq, Int32.le_iff_toInt_le, Int32.toInt_zero, i_neg] at h
  omega
theorem sl_I.f7 {M : am_M} (h : sl_I M) : M 7 0 = 0 ∨ M 7 0 = 1 := Or.inr h.1.1
theorem sl_I.f11 {M : am_M} (h : sl_I M) : M 11 0 = 0 ∨ M 11 0 = 1 := Or.inl h.2.1
set_option maxRecDepth 100000 in
set_option maxHeartbeats 400000 in
theorem c_X6_slowing (ad : Nat → Nat) (M : am_M) (v a w : Int32) (hR : am_RI M) (hI : sl_I M) : am_C ydX6_slowing ad am_II [.ref (ad 0), .int v, .int a, .int w] M (fun r N => ((sp_state M v a = false ∨ sp_in w 0 2 = false) ∧ r = some (.int (-1)) ∧ M = N) ∨ (sp_state M v a = true ∧ sp_in w 0 2 = true ∧ sl_mv M N ∧ ((sl_saf M v.toInt a.toInt ∧ N 7 5 = M 1 8 ∧ r = some (.int (sl_ans_7 N v.toInt a.toInt w))) ∨ (¬ sl_saf M v.toInt a.toInt ∧ N 11 5 = M 1 8 ∧ r = some (.int (sl_ans_11 N v.toInt a.toInt w)))))) := by
  refine am_ofW (L := [some (.ref (ad 0)), some (.int v), some (.int a), some (.int w), none, none, none]) (by decide +kernel) (by simp [Value.category]) (Nat.le_of_ble_eq_true rfl) rfl ?_
  refine am_aload_n rfl dX6_slowing_0 ?_
  refine am_getr (j := 0) (by decide) rfl rfl rfl hTX6 (by decide) fl_X6_12 dX6_slowing_1 ?_
  refine am_iload_n rfl dX6_slowing_4 ?_
  refine am_iload_n rfl dX6_slowing_5 ?_
  refine am_callVi (c_X4_isState ad _ _ _) okX4_isState ml_X6_104 (by decide) rfl rfl rfl ⟨by decide, by decide⟩ (Nat.le_of_ble_eq_true rfl) rfl dX6_slowing_6 ?_
  refine am_ifb_eq (tgt := 21) (by decide) dX6_slowing_9 (fun h9 => ?_) (fun h9 => ?_)
  · refine am_iconst (v := (-1)) (by decide) dX6_slowing_21 ?_
    refine am_iret rfl dX6_slowing_22 ?_
    first | exact Or.inl ⟨Or.inl h9, rfl, rfl⟩ | exact Or.inl ⟨Or.inr h18, rfl, rfl⟩
  · refine am_iload_n rfl dX6_slowing_12 ?_
    refine am_iconst (v := 0) (by decide) dX6_slowing_13 ?_
    refine am_iconst (v := 2) (by decide) dX6_slowing_14 ?_
    refine am_callSi (c_X6_isWithin ad _ _ _ _) okX6_isWithin ml_X6_66 rfl ⟨by decide, by decide⟩ (Nat.le_of_ble_eq_true rfl) rfl dX6_slowing_15 ?_
    refine am_ifb_ne (tgt := 23) (by decide) dX6_slowing_18 (fun h18 => ?_) (fun h18 => ?_)
    · have hb := am_stB hR h9
      refine am_aload_n rfl dX6_slowing_23 ?_
      refine am_iload_n rfl dX6_slowing_24 ?_
      refine am_iload_n rfl dX6_slowing_25 ?_
      refine am_callV (c_X6_slowingsFrom_32 ad M v a hR hI hb.1 hb.2.1 hb.2.2.1 hb.2.2.2) okX6_slowingsFrom ml_X6_108 (by decide) rfl rfl rfl ⟨by decide, by decide⟩ (Nat.le_of_ble_eq_true rfl) rfl dX6_slowing_26 (fun r26 N26 p26 => ?_)
      obtain ⟨qm, ⟨rfl, qs, qv⟩ | ⟨rfl, qs, qv⟩⟩ := p26
      · refine am_astore (by decide) dX6_slowing_29 ?_
        refine am_aload rfl dX6_slowing_31 ?_
        refine am_iload_n rfl dX6_slowing_33 ?_
        refine am_iload_n rfl dX6_slowing_34 ?_
        refine am_callVi (c_X5_ticksFrom_7_32 ad _ v a hb.1 hb.2.1 hb.2.2.1 hb.2.2.2) okX5_ticksFrom ml_X6_112 (by decide) rfl rfl rfl ⟨by decide, by decide⟩ (Nat.le_of_ble_eq_true rfl) rfl dX6_slowing_35 ?_
        refine am_istore (by decide) dX6_slowing_38 ?_
        refine am_iload rfl dX6_slowing_40 ?_
        refine am_iconst (v := (-1)) (by decide) dX6_slowing_42 ?_
        refine am_icmp_eq (tgt := 50) (by decide) dX6_slowing_43 (fun h43 => ?_) (fun h43 => ?_)
        · refine am_iload rfl dX6_slowing_50 ?_
          refine am_iret rfl dX6_slowing_52 ?_
          have e9 : ∀ x, x = sl_ans_7 N26 v.toInt a.toInt w → (sp_state M v a = false ∨ sp_in w 0 2 = false) ∧ some (Value.int x) = some (Value.int (-1)) ∧ M = N26 ∨ sp_state M v a = true ∧ sp_in w 0 2 = true ∧ sl_mv M N26 ∧ ((sl_saf M v.toInt a.toInt ∧ N26 7 5 = M 1 8 ∧ some (Value.int x) = some (Value.int (sl_ans_7 N26 v.toInt a.toInt w))) ∨ (¬ sl_saf M v.toInt a.toInt ∧ N26 11 5 = M 1 8 ∧ some (Value.int x) = some (Value.int (sl_ans_11 N26 v.toInt a.toInt w)))) := by
            intro x hx
            subst hx
            exact Or.inr ⟨h9, h18, qm, Or.inl ⟨qs, qv, rfl⟩⟩
          apply e9
          unfold sl_ans_7
          first
          | (rw [if_pos h43]; exact h43)
          | (rw [if_neg h43, if_pos h47])
          | (rw [if_neg h43, if_neg h47, if_pos h55])
          | (rw [if_neg h43, if_neg h47, if_neg h55, if_pos h82])
          | (rw [if_neg h43, if_neg h47, if_neg h55, if_neg h82])
        · refine am_iload_n rfl dX6_slowing_46 ?_
          refine am_if_ne (tgt := 53) (by decide) dX6_slowing_47 (fun h47 => ?_) (fun h47 => ?_)
          · refine am_iload_n rfl dX6_slowing_53 ?_
            refine am_iconst (v := 1) (by decide) dX6_slowing_54 ?_
            refine am_icmp_ne (tgt := 66) (by decide) dX6_slowing_55 (fun h55 => ?_) (fun h55 => ?_)
            · refine am_aload rfl dX6_slowing_66 ?_
              refine am_aload_n rfl dX6_slowing_68 ?_
              refine am_getr (j := 0) (by decide) rfl rfl rfl hTX6 (by decide) fl_X6_12 dX6_slowing_69 ?_
              refine am_iload_n rfl dX6_slowing_72 ?_
              refine am_iload_n rfl dX6_slowing_73 ?_
              refine am_callVi (c_X5_nextChange_7_32 ad _ v a (hR.cong (qm.2.2.2 1 (by omega))) qm.1.f7 hb.1 hb.2.1 hb.2.2.1 hb.2.2.2) okX5_nextChange ml_X6_119 (by decide) rfl rfl rfl ⟨by decide, by decide⟩ (Nat.le_of_ble_eq_true rfl) rfl dX6_slowing_74 ?_
              refine am_istore (by decide) dX6_slowing_77 ?_
              refine am_iload rfl dX6_slowing_79 ?_
              refine am_iconst (v := 5) (by decide) dX6_slowing_81 ?_
              refine am_icmp_ne (tgt := 89) (by decide) dX6_slowing_82 (fun h82 => ?_) (fun h82 => ?_)
              · refine am_iload rfl dX6_slowing_89 ?_
                refine am_iret rfl dX6_slowing_91 ?_
                have e9 : ∀ x, x = sl_ans_7 N26 v.toInt a.toInt w → (sp_state M v a = false ∨ sp_in w 0 2 = false) ∧ some (Value.int x) = some (Value.int (-1)) ∧ M = N26 ∨ sp_state M v a = true ∧ sp_in w 0 2 = true ∧ sl_mv M N26 ∧ ((sl_saf M v.toInt a.toInt ∧ N26 7 5 = M 1 8 ∧ some (Value.int x) = some (Value.int (sl_ans_7 N26 v.toInt a.toInt w))) ∨ (¬ sl_saf M v.toInt a.toInt ∧ N26 11 5 = M 1 8 ∧ some (Value.int x) = some (Value.int (sl_ans_11 N26 v.toInt a.toInt w)))) := by
                  intro x hx
                  subst hx
                  exact Or.inr ⟨h9, h18, qm, Or.inl ⟨qs, qv, rfl⟩⟩
                apply e9
                unfold sl_ans_7
                first
                | (rw [if_pos h43]; exact h43)
                | (rw [if_neg h43, if_pos h47])
                | (rw [if_neg h43, if_neg h47, if_pos h55])
                | (rw [if_neg h43, if_neg h47, if_neg h55, if_pos h82])
                | (rw [if_neg h43, if_neg h47, if_neg h55, if_neg h82])
              · refine am_iconst (v := (-1)) (by decide) dX6_slowing_85 ?_
                refine am_goto (tgt := 91) (by decide) dX6_slowing_86 ?_
                refine am_iret rfl dX6_slowing_91 ?_
                have e9 : ∀ x, x = sl_ans_7 N26 v.toInt a.toInt w → (sp_state M v a = false ∨ sp_in w 0 2 = false) ∧ some (Value.int x) = some (Value.int (-1)) ∧ M = N26 ∨ sp_state M v a = true ∧ sp_in w 0 2 = true ∧ sl_mv M N26 ∧ ((sl_saf M v.toInt a.toInt ∧ N26 7 5 = M 1 8 ∧ some (Value.int x) = some (Value.int (sl_ans_7 N26 v.toInt a.toInt w))) ∨ (¬ sl_saf M v.toInt a.toInt ∧ N26 11 5 = M 1 8 ∧ some (Value.int x) = some (Value.int (sl_ans_11 N26 v.toInt a.toInt w)))) := by
                  intro x hx
                  subst hx
                  exact Or.inr ⟨h9, h18, qm, Or.inl ⟨qs, qv, rfl⟩⟩
                apply e9
                unfold sl_ans_7
                first
                | (rw [if_pos h43]; exact h43)
                | (rw [if_neg h43, if_pos h47])
                | (rw [if_neg h43, if_neg h47, if_pos h55])
                | (rw [if_neg h43, if_neg h47, if_neg h55, if_pos h82])
                | (rw [if_neg h43, if_neg h47, if_neg h55, if_neg h82])
            · refine am_aload rfl dX6_slowing_58 ?_
              refine am_iload_n rfl dX6_slowing_60 ?_
              refine am_iload_n rfl dX6_slowing_61 ?_
              refine am_callVi (c_X5_stepsFrom_7_32 ad _ v a hb.1 hb.2.1 hb.2.2.1 hb.2.2.2) okX5_stepsFrom ml_X6_116 (by decide) rfl rfl rfl ⟨by decide, by decide⟩ (Nat.le_of_ble_eq_true rfl) rfl dX6_slowing_62 ?_
              refine am_iret rfl dX6_slowing_65 ?_
              have e9 : ∀ x, x = sl_ans_7 N26 v.toInt a.toInt w → (sp_state M v a = false ∨ sp_in w 0 2 = false) ∧ some (Value.int x) = some (Value.int (-1)) ∧ M = N26 ∨ sp_state M v a = true ∧ sp_in w 0 2 = true ∧ sl_mv M N26 ∧ ((sl_saf M v.toInt a.toInt ∧ N26 7 5 = M 1 8 ∧ some (Value.int x) = some (Value.int (sl_ans_7 N26 v.toInt a.toInt w))) ∨ (¬ sl_saf M v.toInt a.toInt ∧ N26 11 5 = M 1 8 ∧ some (Value.int x) = some (Value.int (sl_ans_11 N26 v.toInt a.toInt w)))) := by
                intro x hx
                subst hx
                exact Or.inr ⟨h9, h18, qm, Or.inl ⟨qs, qv, rfl⟩⟩
              apply e9
              unfold sl_ans_7
              first
              | (rw [if_pos h43]; exact h43)
              | (rw [if_neg h43, if_pos h47])
              | (rw [if_neg h43, if_neg h47, if_pos h55])
              | (rw [if_neg h43, if_neg h47, if_neg h55, if_pos h82])
              | (rw [if_neg h43, if_neg h47, if_neg h55, if_neg h82])
          · refine am_iload rfl dX6_slowing_50 ?_
            refine am_iret rfl dX6_slowing_52 ?_
            have e9 : ∀ x, x = sl_ans_7 N26 v.toInt a.toInt w → (sp_state M v a = false ∨ sp_in w 0 2 = false) ∧ some (Value.int x) = some (Value.int (-1)) ∧ M = N26 ∨ sp_state M v a = true ∧ sp_in w 0 2 = true ∧ sl_mv M N26 ∧ ((sl_saf M v.toInt a.toInt ∧ N26 7 5 = M 1 8 ∧ some (Value.int x) = some (Value.int (sl_ans_7 N26 v.toInt a.toInt w))) ∨ (¬ sl_saf M v.toInt a.toInt ∧ N26 11 5 = M 1 8 ∧ some (Value.int x) = some (Value.int (sl_ans_11 N26 v.toInt a.toInt w)))) := by
              intro x hx
              subst hx
              exact Or.inr ⟨h9, h18, qm, Or.inl ⟨qs, qv, rfl⟩⟩
            apply e9
            unfold sl_ans_7
            first
            | (rw [if_pos h43]; exact h43)
            | (rw [if_neg h43, if_pos h47])
            | (rw [if_neg h43, if_neg h47, if_pos h55])
            | (rw [if_neg h43, if_neg h47, if_neg h55, if_pos h82])
            | (rw [if_neg h43, if_neg h47, if_neg h55, if_neg h82])
      · refine am_astore (by decide) dX6_slowing_29 ?_
        refine am_aload rfl dX6_slowing_31 ?_
        refine am_iload_n rfl dX6_slowing_33 ?_
        refine am_iload_n rfl dX6_slowing_34 ?_
        refine am_callVi (c_X5_ticksFrom_11_32 ad _ v a hb.1 hb.2.1 hb.2.2.1 hb.2.2.2) okX5_ticksFrom ml_X6_112 (by decide) rfl rfl rfl ⟨by decide, by decide⟩ (Nat.le_of_ble_eq_true rfl) rfl dX6_slowing_35 ?_
        refine am_istore (by decide) dX6_slowing_38 ?_
        refine am_iload rfl dX6_slowing_40 ?_
        refine am_iconst (v := (-1)) (by decide) dX6_slowing_42 ?_
        refine am_icmp_eq (tgt := 50) (by decide) dX6_slowing_43 (fun h43 => ?_) (fun h43 => ?_)
        · refine am_iload rfl dX6_slowing_50 ?_
          refine am_iret rfl dX6_slowing_52 ?_
          have e9 : ∀ x, x = sl_ans_11 N26 v.toInt a.toInt w → (sp_state M v a = false ∨ sp_in w 0 2 = false) ∧ some (Value.int x) = some (Value.int (-1)) ∧ M = N26 ∨ sp_state M v a = true ∧ sp_in w 0 2 = true ∧ sl_mv M N26 ∧ ((sl_saf M v.toInt a.toInt ∧ N26 7 5 = M 1 8 ∧ some (Value.int x) = some (Value.int (sl_ans_7 N26 v.toInt a.toInt w))) ∨ (¬ sl_saf M v.toInt a.toInt ∧ N26 11 5 = M 1 8 ∧ some (Value.int x) = some (Value.int (sl_ans_11 N26 v.toInt a.toInt w)))) := by
            intro x hx
            subst hx
            exact Or.inr ⟨h9, h18, qm, Or.inr ⟨qs, qv, rfl⟩⟩
          apply e9
          unfold sl_ans_11
          first
          | (rw [if_pos h43]; exact h43)
          | (rw [if_neg h43, if_pos h47])
          | (rw [if_neg h43, if_neg h47, if_pos h55])
          | (rw [if_neg h43, if_neg h47, if_neg h55, if_pos h82])
          | (rw [if_neg h43, if_neg h47, if_neg h55, if_neg h82])
        · refine am_iload_n rfl dX6_slowing_46 ?_
          refine am_if_ne (tgt := 53) (by decide) dX6_slowing_47 (fun h47 => ?_) (fun h47 => ?_)
          · refine am_iload_n rfl dX6_slowing_53 ?_
            refine am_iconst (v := 1) (by decide) dX6_slowing_54 ?_
            refine am_icmp_ne (tgt := 66) (by decide) dX6_slowing_55 (fun h55 => ?_) (fun h55 => ?_)
            · refine am_aload rfl dX6_slowing_66 ?_
              refine am_aload_n rfl dX6_slowing_68 ?_
              refine am_getr (j := 0) (by decide) rfl rfl rfl hTX6 (by decide) fl_X6_12 dX6_slowing_69 ?_
              refine am_iload_n rfl dX6_slowing_72 ?_
              refine am_iload_n rfl dX6_slowing_73 ?_
              refine am_callVi (c_X5_nextChange_11_32 ad _ v a (hR.cong (qm.2.2.2 1 (by omega))) qm.1.f11 hb.1 hb.2.1 hb.2.2.1 hb.2.2.2) okX5_nextChange ml_X6_119 (by decide) rfl rfl rfl ⟨by decide, by decide⟩ (Nat.le_of_ble_eq_true rfl) rfl dX6_slowing_74 ?_
              refine am_istore (by decide) dX6_slowing_77 ?_
              refine am_iload rfl dX6_slowing_79 ?_
              refine am_iconst (v := 5) (by decide) dX6_slowing_81 ?_
              refine am_icmp_ne (tgt := 89) (by decide) dX6_slowing_82 (fun h82 => ?_) (fun h82 => ?_)
              · refine am_iload rfl dX6_slowing_89 ?_
                refine am_iret rfl dX6_slowing_91 ?_
                have e9 : ∀ x, x = sl_ans_11 N26 v.toInt a.toInt w → (sp_state M v a = false ∨ sp_in w 0 2 = false) ∧ some (Value.int x) = some (Value.int (-1)) ∧ M = N26 ∨ sp_state M v a = true ∧ sp_in w 0 2 = true ∧ sl_mv M N26 ∧ ((sl_saf M v.toInt a.toInt ∧ N26 7 5 = M 1 8 ∧ some (Value.int x) = some (Value.int (sl_ans_7 N26 v.toInt a.toInt w))) ∨ (¬ sl_saf M v.toInt a.toInt ∧ N26 11 5 = M 1 8 ∧ some (Value.int x) = some (Value.int (sl_ans_11 N26 v.toInt a.toInt w)))) := by
                  intro x hx
                  subst hx
                  exact Or.inr ⟨h9, h18, qm, Or.inr ⟨qs, qv, rfl⟩⟩
                apply e9
                unfold sl_ans_11
                first
                | (rw [if_pos h43]; exact h43)
                | (rw [if_neg h43, if_pos h47])
                | (rw [if_neg h43, if_neg h47, if_pos h55])
                | (rw [if_neg h43, if_neg h47, if_neg h55, if_pos h82])
                | (rw [if_neg h43, if_neg h47, if_neg h55, if_neg h82])
              · refine am_iconst (v := (-1)) (by decide) dX6_slowing_85 ?_
                refine am_goto (tgt := 91) (by decide) dX6_slowing_86 ?_
                refine am_iret rfl dX6_slowing_91 ?_
                have e9 : ∀ x, x = sl_ans_11 N26 v.toInt a.toInt w → (sp_state M v a = false ∨ sp_in w 0 2 = false) ∧ some (Value.int x) = some (Value.int (-1)) ∧ M = N26 ∨ sp_state M v a = true ∧ sp_in w 0 2 = true ∧ sl_mv M N26 ∧ ((sl_saf M v.toInt a.toInt ∧ N26 7 5 = M 1 8 ∧ some (Value.int x) = some (Value.int (sl_ans_7 N26 v.toInt a.toInt w))) ∨ (¬ sl_saf M v.toInt a.toInt ∧ N26 11 5 = M 1 8 ∧ some (Value.int x) = some (Value.int (sl_ans_11 N26 v.toInt a.toInt w)))) := by
                  intro x hx
                  subst hx
                  exact Or.inr ⟨h9, h18, qm, Or.inr ⟨qs, qv, rfl⟩⟩
                apply e9
                unfold sl_ans_11
                first
                | (rw [if_pos h43]; exact h43)
                | (rw [if_neg h43, if_pos h47])
                | (rw [if_neg h43, if_neg h47, if_pos h55])
                | (rw [if_neg h43, if_neg h47, if_neg h55, if_pos h82])
                | (rw [if_neg h43, if_neg h47, if_neg h55, if_neg h82])
            · refine am_aload rfl dX6_slowing_58 ?_
              refine am_iload_n rfl dX6_slowing_60 ?_
              refine am_iload_n rfl dX6_slowing_61 ?_
              refine am_callVi (c_X5_stepsFrom_11_32 ad _ v a hb.1 hb.2.1 hb.2.2.1 hb.2.2.2) okX5_stepsFrom ml_X6_116 (by decide) rfl rfl rfl ⟨by decide, by decide⟩ (Nat.le_of_ble_eq_true rfl) rfl dX6_slowing_62 ?_
              refine am_iret rfl dX6_slowing_65 ?_
              have e9 : ∀ x, x = sl_ans_11 N26 v.toInt a.toInt w → (sp_state M v a = false ∨ sp_in w 0 2 = false) ∧ some (Value.int x) = some (Value.int (-1)) ∧ M = N26 ∨ sp_state M v a = true ∧ sp_in w 0 2 = true ∧ sl_mv M N26 ∧ ((sl_saf M v.toInt a.toInt ∧ N26 7 5 = M 1 8 ∧ some (Value.int x) = some (Value.int (sl_ans_7 N26 v.toInt a.toInt w))) ∨ (¬ sl_saf M v.toInt a.toInt ∧ N26 11 5 = M 1 8 ∧ some (Value.int x) = some (Value.int (sl_ans_11 N26 v.toInt a.toInt w)))) := by
                intro x hx
                subst hx
                exact Or.inr ⟨h9, h18, qm, Or.inr ⟨qs, qv, rfl⟩⟩
              apply e9
              unfold sl_ans_11
              first
              | (rw [if_pos h43]; exact h43)
              | (rw [if_neg h43, if_pos h47])
              | (rw [if_neg h43, if_neg h47, if_pos h55])
              | (rw [if_neg h43, if_neg h47, if_neg h55, if_pos h82])
              | (rw [if_neg h43, if_neg h47, if_neg h55, if_neg h82])
          · refine am_iload rfl dX6_slowing_50 ?_
            refine am_iret rfl dX6_slowing_52 ?_
            have e9 : ∀ x, x = sl_ans_11 N26 v.toInt a.toInt w → (sp_state M v a = false ∨ sp_in w 0 2 = false) ∧ some (Value.int x) = some (Value.int (-1)) ∧ M = N26 ∨ sp_state M v a = true ∧ sp_in w 0 2 = true ∧ sl_mv M N26 ∧ ((sl_saf M v.toInt a.toInt ∧ N26 7 5 = M 1 8 ∧ some (Value.int x) = some (Value.int (sl_ans_7 N26 v.toInt a.toInt w))) ∨ (¬ sl_saf M v.toInt a.toInt ∧ N26 11 5 = M 1 8 ∧ some (Value.int x) = some (Value.int (sl_ans_11 N26 v.toInt a.toInt w)))) := by
              intro x hx
              subst hx
              exact Or.inr ⟨h9, h18, qm, Or.inr ⟨qs, qv, rfl⟩⟩
            apply e9
            unfold sl_ans_11
            first
            | (rw [if_pos h43]; exact h43)
            | (rw [if_neg h43, if_pos h47])
            | (rw [if_neg h43, if_neg h47, if_pos h55])
            | (rw [if_neg h43, if_neg h47, if_neg h55, if_pos h82])
            | (rw [if_neg h43, if_neg h47, if_neg h55, if_neg h82])
    · refine am_iconst (v := (-1)) (by decide) dX6_slowing_21 ?_
      refine am_iret rfl dX6_slowing_22 ?_
      first | exact Or.inl ⟨Or.inl h9, rfl, rfl⟩ | exact Or.inl ⟨Or.inr h18, rfl, rfl⟩
def sp_n (d0 d1 d2 : Int32) : Int32 := imax (iabs d0) (imax (iabs d1) (iabs d2))
def sp_okMove (M : am_M) (d0 d1 d2 : Int32) : Bool := !sp_goes M && sp_way d0 && sp_way d1 && sp_way d2
def sp_mv (N : am_M) (n t d0 d1 d2 : Int32) : am_M := sp_aStart (sp_aStart (sp_aStart (sp_mStart N n t) 16 d0) 17 d1) 18 d2
theorem sp_way_iff {d : Int32} : sp_way d = true ↔ -200 ≤ d.toInt ∧ d.toInt ≤ 200 := by
  unfold sp_way
  simp only [sp_in, decide_eq_true_eq, Int32.le_iff_toInt_le, kI_200, kI_m200]
theorem sp_n_in {d0 d1 d2 : Int32} (h0 : sp_way d0 = true) (h1 : sp_way d1 = true) (h2 : sp_way d2 = true) : sp_in (sp_n d0 d1 d2) 0 200 = true := by
  have q0 := sp_way_iff.mp h0
  have q1 := sp_way_iff.mp h1
  have q2 := sp_way_iff.mp h2
  have ha : ∀ x : Int32, -200 ≤ x.toInt ∧ x.toInt ≤ 200 → 0 ≤ (iabs x).toInt ∧ (iabs x).toInt ≤ 200 := by
    intro x hx
    unfold iabs
    split
    · rename_i h
      rw [Int32.le_iff_toInt_le, Int32.toInt_zero] at h
      omega
    · rename_i h
      rw [Int32.le_iff_toInt_le, Int32.toInt_zero] at h
      rw [i_sub, Int32.toInt_zero]
      omega
  have hm : ∀ x y : Int32, (0 ≤ x.toInt ∧ x.toInt ≤ 200) → (0 ≤ y.toInt ∧ y.toInt ≤ 200) → 0 ≤ (imax x y).toInt ∧ (imax x y).toInt ≤ 200 := by
    intro x y hx hy
    unfold imax
    split
    · exact hy
    · exact hx
  have h9 := hm _ _ (ha _ q0) (hm _ _ (ha _ q1) (ha _ q2))
  simp only [sp_in, decide_eq_true_eq, Int32.le_iff_toInt_le, Int32.toInt_zero, kI_200]
  exact h9
set_option maxRecDepth 100000 in
set_option maxHeartbeats 400000 in
theorem c_X6_move (ad : Nat → Nat) (M : am_M) (d0 d1 d2 : Int32) (hR : am_RI M) (hS : M 4 4 = M 1 8 → ∃ k, rp_at M M k) : am_C ydX6_move ad am_II [.ref (ad 0), .int d0, .int d1, .int d2] M (fun r N => (sp_okMove M d0 d1 d2 = false ∧ r = some (.int (-1)) ∧ M = N) ∨ (sp_okMove M d0 d1 d2 = true ∧ ∃ k N0, rp_at M N0 k ∧ rp_far M (sp_n d0 d1 d2).toInt k ∧ r = some (.int (rp_enc ((rp_T M k).1 (rp_st (sp_n d0 d1 d2).toInt)))) ∧ N = if rp_enc ((rp_T M k).1 (rp_st (sp_n d0 d1 d2).toInt)) = -1 then N0 else sp_mv N0 (sp_n d0 d1 d2) (rp_enc ((rp_T M k).1 (rp_st (sp_n d0 d1 d2).toInt))) d0 d1 d2)) := by
  refine am_ofW (L := [some (.ref (ad 0)), some (.int d0), some (.int d1), some (.int d2), none, none]) (by decide +kernel) (by simp [Value.category]) (Nat.le_of_ble_eq_true rfl) rfl ?_
  refine am_aload_n rfl dX6_move_0 ?_
  refine am_getr (j := 4) (by decide) rfl rfl rfl hTX6 (by decide) fl_X6_38 dX6_move_1 ?_
  refine am_callVi (c_X2_goesOn ad _) okX2_goesOn ml_X6_62 (by decide) rfl rfl rfl ⟨by decide, by decide⟩ (Nat.le_of_ble_eq_true rfl) rfl dX6_move_4 ?_
  refine am_ifb_ne (tgt := 31) (by decide) dX6_move_7 (fun h7 => ?_) (fun h7 => ?_)
  · refine am_iconst (v := (-1)) (by decide) dX6_move_31 ?_
    refine am_iret rfl dX6_move_32 ?_
    first
    | exact Or.inl ⟨by simp_all [sp_okMove], rfl, rfl⟩
    | exact Or.inr ⟨hok, k, _, q2, q3, by rw [h71], by rw [if_pos h71]⟩
    | exact Or.inr ⟨hok, k, _, q2, q3, rfl, by rw [if_neg h71]; rfl⟩
  · refine am_iload_n rfl dX6_move_10 ?_
    refine am_callSi (c_X6_isWay ad _ _) okX6_isWay ml_X6_122 rfl ⟨by decide, by decide⟩ (Nat.le_of_ble_eq_true rfl) rfl dX6_move_11 ?_
    refine am_ifb_eq (tgt := 31) (by decide) dX6_move_14 (fun h14 => ?_) (fun h14 => ?_)
    · refine am_iconst (v := (-1)) (by decide) dX6_move_31 ?_
      refine am_iret rfl dX6_move_32 ?_
      first
      | exact Or.inl ⟨by simp_all [sp_okMove], rfl, rfl⟩
      | exact Or.inr ⟨hok, k, _, q2, q3, by rw [h71], by rw [if_pos h71]⟩
      | exact Or.inr ⟨hok, k, _, q2, q3, rfl, by rw [if_neg h71]; rfl⟩
    · refine am_iload_n rfl dX6_move_17 ?_
      refine am_callSi (c_X6_isWay ad _ _) okX6_isWay ml_X6_122 rfl ⟨by decide, by decide⟩ (Nat.le_of_ble_eq_true rfl) rfl dX6_move_18 ?_
      refine am_ifb_eq (tgt := 31) (by decide) dX6_move_21 (fun h21 => ?_) (fun h21 => ?_)
      · refine am_iconst (v := (-1)) (by decide) dX6_move_31 ?_
        refine am_iret rfl dX6_move_32 ?_
        first
        | exact Or.inl ⟨by simp_all [sp_okMove], rfl, rfl⟩
        | exact Or.inr ⟨hok, k, _, q2, q3, by rw [h71], by rw [if_pos h71]⟩
        | exact Or.inr ⟨hok, k, _, q2, q3, rfl, by rw [if_neg h71]; rfl⟩
      · refine am_iload_n rfl dX6_move_24 ?_
        refine am_callSi (c_X6_isWay ad _ _) okX6_isWay ml_X6_122 rfl ⟨by decide, by decide⟩ (Nat.le_of_ble_eq_true rfl) rfl dX6_move_25 ?_
        refine am_ifb_ne (tgt := 33) (by decide) dX6_move_28 (fun h28 => ?_) (fun h28 => ?_)
        · refine am_iload_n rfl dX6_move_33 ?_
          refine am_mabsI ml_X6_125 (by decide) (Nat.le_of_ble_eq_true rfl) dX6_move_34 ?_
          refine am_iload_n rfl dX6_move_37 ?_
          refine am_mabsI ml_X6_125 (by decide) (Nat.le_of_ble_eq_true rfl) dX6_move_38 ?_
          refine am_iload_n rfl dX6_move_41 ?_
          refine am_mabsI ml_X6_125 (by decide) (Nat.le_of_ble_eq_true rfl) dX6_move_42 ?_
          refine am_mmaxI ml_X6_131 (by decide) (Nat.le_of_ble_eq_true rfl) dX6_move_45 ?_
          refine am_mmaxI ml_X6_131 (by decide) (Nat.le_of_ble_eq_true rfl) dX6_move_48 ?_
          refine am_istore (by decide) dX6_move_51 ?_
          refine am_aload_n rfl dX6_move_53 ?_
          refine am_getr (j := 1) (by decide) rfl rfl rfl hTX6 (by decide) fl_X6_19 dX6_move_54 ?_
          refine am_aload_n rfl dX6_move_57 ?_
          refine am_getr (j := 0) (by decide) rfl rfl rfl hTX6 (by decide) fl_X6_12 dX6_move_58 ?_
          refine am_iload rfl dX6_move_61 ?_
          have hin := sp_n_in h14 h21 h28
          have hok : sp_okMove M d0 d1 d2 = true := by (unfold sp_okMove; rw [h7, h14, h21, h28]; rfl)
          refine am_callV (c_X3_ticksOf ad M (sp_n d0 d1 d2) hR hS) okX3_ticksOf ml_X6_96 (by decide) rfl rfl rfl ⟨by decide, by decide⟩ (Nat.le_of_ble_eq_true rfl) rfl dX6_move_63 (fun r63 N63 p63 => ?_)
          obtain ⟨q1, -, -⟩ | ⟨q1, k, q2, q3, rfl⟩ := p63
          · exact absurd q1 (by rw [hin]; decide)
          refine am_istore (by decide) dX6_move_66 ?_
          refine am_iload rfl dX6_move_68 ?_
          refine am_iconst (v := (-1)) (by decide) dX6_move_70 ?_
          refine am_icmp_ne (tgt := 76) (by decide) dX6_move_71 (fun h71 => ?_) (fun h71 => ?_)
          · refine am_aload_n rfl dX6_move_76 ?_
            refine am_getr (j := 4) (by decide) rfl rfl rfl hTX6 (by decide) fl_X6_38 dX6_move_77 ?_
            refine am_iload rfl dX6_move_80 ?_
            refine am_iload rfl dX6_move_82 ?_
            refine am_callVv (c_X2_start ad _ _ _) okX2_start ml_X6_134 (by decide) rfl rfl rfl ⟨by decide, by decide⟩ (Nat.le_of_ble_eq_true rfl) rfl dX6_move_84 ?_
            refine am_aload_n rfl dX6_move_87 ?_
            refine am_getr (j := 5) (by decide) rfl rfl rfl hTX6 (by decide) fl_X6_45 dX6_move_88 ?_
            refine am_iload_n rfl dX6_move_91 ?_
            refine am_callVv (c_X0_start_16 ad _ _) okX0_start ml_X6_137 (by decide) rfl rfl rfl ⟨by decide, by decide⟩ (Nat.le_of_ble_eq_true rfl) rfl dX6_move_92 ?_
            refine am_aload_n rfl dX6_move_95 ?_
            refine am_getr (j := 6) (by decide) rfl rfl rfl hTX6 (by decide) fl_X6_49 dX6_move_96 ?_
            refine am_iload_n rfl dX6_move_99 ?_
            refine am_callVv (c_X0_start_17 ad _ _) okX0_start ml_X6_137 (by decide) rfl rfl rfl ⟨by decide, by decide⟩ (Nat.le_of_ble_eq_true rfl) rfl dX6_move_100 ?_
            refine am_aload_n rfl dX6_move_103 ?_
            refine am_getr (j := 7) (by decide) rfl rfl rfl hTX6 (by decide) fl_X6_52 dX6_move_104 ?_
            refine am_iload_n rfl dX6_move_107 ?_
            refine am_callVv (c_X0_start_18 ad _ _) okX0_start ml_X6_137 (by decide) rfl rfl rfl ⟨by decide, by decide⟩ (Nat.le_of_ble_eq_true rfl) rfl dX6_move_108 ?_
            refine am_iload rfl dX6_move_111 ?_
            refine am_iret rfl dX6_move_113 ?_
            first
            | exact Or.inl ⟨by simp_all [sp_okMove], rfl, rfl⟩
            | exact Or.inr ⟨hok, k, _, q2, q3, by rw [h71], by rw [if_pos h71]⟩
            | exact Or.inr ⟨hok, k, _, q2, q3, rfl, by rw [if_neg h71]; rfl⟩
          · refine am_iconst (v := (-1)) (by decide) dX6_move_74 ?_
            refine am_iret rfl dX6_move_75 ?_
            first
            | exact Or.inl ⟨by simp_all [sp_okMove], rfl, rfl⟩
            | exact Or.inr ⟨hok, k, _, q2, q3, by rw [h71], by rw [if_pos h71]⟩
            | exact Or.inr ⟨hok, k, _, q2, q3, rfl, by rw [if_neg h71]; rfl⟩
        · refine am_iconst (v := (-1)) (by decide) dX6_move_31 ?_
          refine am_iret rfl dX6_move_32 ?_
          first
          | exact Or.inl ⟨by simp_all [sp_okMove], rfl, rfl⟩
          | exact Or.inr ⟨hok, k, _, q2, q3, by rw [h71], by rw [if_pos h71]⟩
          | exact Or.inr ⟨hok, k, _, q2, q3, rfl, by rw [if_neg h71]; rfl⟩
def sp_next (M : am_M) : Int := if M 15 7 = 0 then rp_nc M (M 15 2).toInt (M 15 3).toInt (M 15 0 - M 15 1).toInt else if M 15 8 = 0 then sl_nc_11 M (M 15 2).toInt (M 15 3).toInt else sl_nc_7 M (M 15 2).toInt (M 15 3).toInt
theorem c_X3_nextChange_32 (ad : Nat → Nat) (M : am_M) (v a l : Int32) (hR : am_RI M) (h1 : 0 ≤ v.toInt) (h2 : v.toInt ≤ 12) (h3 : -4 ≤ a.toInt) (h4 : a.toInt ≤ 4) (h5 : -1000 ≤ l.toInt) (h6 : l.toInt ≤ 1000) : am_C ydX3_nextChange ad am_II [.ref (ad 4), .ref (ad 1), .int v, .int a, .int l] M (am_is (iN (rp_nc M v.toInt a.toInt l.toInt)) M) := by
  have h := c_X3_nextChange ad M v.toInt a.toInt l.toInt hR h1 h2 h3 h4 h5 h6
  rwa [iN_self, iN_self, iN_self] at h
/-- what a step of a move needs -/
def mv_b (M : am_M) : Prop := 0 ≤ (M 15 2).toInt ∧ (M 15 2).toInt ≤ 12 ∧ -4 ≤ (M 15 3).toInt ∧ (M 15 3).toInt ≤ 4 ∧ (M 15 7 = 0 → -1000 ≤ (M 15 0 - M 15 1).toInt ∧ (M 15 0 - M 15 1).toInt ≤ 1000)
def mv_f (M : am_M) : Prop := am_RI M ∧ (M 7 0 = 0 ∨ M 7 0 = 1) ∧ (M 11 0 = 0 ∨ M 11 0 = 1)
set_option maxRecDepth 100000 in
set_option maxHeartbeats 400000 in
theorem c_X6_nextChange (ad : Nat → Nat) (M : am_M)  (hF : mv_f M) (hb : mv_b M) : am_C ydX6_nextChange ad am_II [.ref (ad 0)] M (am_is (iN (sp_next M)) M) := by
  refine am_ofW (L := [some (.ref (ad 0)), none, none, none]) (by decide +kernel) (by simp [Value.category]) (Nat.le_of_ble_eq_true rfl) rfl ?_
  refine am_aload_n rfl dX6_nextChange_0 ?_
  refine am_getr (j := 4) (by decide) rfl rfl rfl hTX6 (by decide) fl_X6_38 dX6_nextChange_1 ?_
  refine am_geti (j := 2) (by decide) rfl rfl rfl hTX2 (by decide) fl_X6_146 dX6_nextChange_4 ?_
  refine am_istore_n (by decide) dX6_nextChange_7 ?_
  refine am_aload_n rfl dX6_nextChange_8 ?_
  refine am_getr (j := 4) (by decide) rfl rfl rfl hTX6 (by decide) fl_X6_38 dX6_nextChange_9 ?_
  refine am_geti (j := 3) (by decide) rfl rfl rfl hTX2 (by decide) fl_X6_150 dX6_nextChange_12 ?_
  refine am_istore_n (by decide) dX6_nextChange_15 ?_
  refine am_aload_n rfl dX6_nextChange_16 ?_
  refine am_getr (j := 4) (by decide) rfl rfl rfl hTX6 (by decide) fl_X6_38 dX6_nextChange_17 ?_
  refine am_geti (j := 7) (by decide) rfl rfl rfl hTX2 (by decide) fl_X6_143 dX6_nextChange_20 ?_
  refine am_if_ne (tgt := 55) (by decide) dX6_nextChange_23 (fun h23 => ?_) (fun h23 => ?_)
  · refine am_aload_n rfl dX6_nextChange_55 ?_
    refine am_getr (j := 4) (by decide) rfl rfl rfl hTX6 (by decide) fl_X6_38 dX6_nextChange_56 ?_
    refine am_geti (j := 8) (by decide) rfl rfl rfl hTX2 (by decide) fl_X6_245 dX6_nextChange_59 ?_
    refine am_if_eq (tgt := 72) (by decide) dX6_nextChange_62 (fun h62 => ?_) (fun h62 => ?_)
    · refine am_aload_n rfl dX6_nextChange_72 ?_
      refine am_getr (j := 3) (by decide) rfl rfl rfl hTX6 (by decide) fl_X6_32 dX6_nextChange_73 ?_
      refine am_astore_n (by decide) dX6_nextChange_76 ?_
      refine am_aload_n rfl dX6_nextChange_77 ?_
      refine am_aload_n rfl dX6_nextChange_78 ?_
      refine am_getr (j := 0) (by decide) rfl rfl rfl hTX6 (by decide) fl_X6_12 dX6_nextChange_79 ?_
      refine am_iload_n rfl dX6_nextChange_82 ?_
      refine am_iload_n rfl dX6_nextChange_83 ?_
      refine am_callVi (c_X5_nextChange_11_32 ad M _ _ hF.1 hF.2.2 hb.1 hb.2.1 hb.2.2.1 hb.2.2.2.1) okX5_nextChange ml_X6_119 (by decide) rfl rfl rfl ⟨by decide, by decide⟩ (Nat.le_of_ble_eq_true rfl) rfl dX6_nextChange_84 ?_
      refine am_iret rfl dX6_nextChange_87 ?_
      refine am_isE ?_
      unfold sp_next
      first | rw [if_pos h23] | rw [if_neg h23, if_pos h62] | rw [if_neg h23, if_neg h62]
    · refine am_aload_n rfl dX6_nextChange_65 ?_
      refine am_getr (j := 2) (by decide) rfl rfl rfl hTX6 (by decide) fl_X6_28 dX6_nextChange_66 ?_
      refine am_goto (tgt := 76) (by decide) dX6_nextChange_69 ?_
      refine am_astore_n (by decide) dX6_nextChange_76 ?_
      refine am_aload_n rfl dX6_nextChange_77 ?_
      refine am_aload_n rfl dX6_nextChange_78 ?_
      refine am_getr (j := 0) (by decide) rfl rfl rfl hTX6 (by decide) fl_X6_12 dX6_nextChange_79 ?_
      refine am_iload_n rfl dX6_nextChange_82 ?_
      refine am_iload_n rfl dX6_nextChange_83 ?_
      refine am_callVi (c_X5_nextChange_7_32 ad M _ _ hF.1 hF.2.1 hb.1 hb.2.1 hb.2.2.1 hb.2.2.2.1) okX5_nextChange ml_X6_119 (by decide) rfl rfl rfl ⟨by decide, by decide⟩ (Nat.le_of_ble_eq_true rfl) rfl dX6_nextChange_84 ?_
      refine am_iret rfl dX6_nextChange_87 ?_
      refine am_isE ?_
      unfold sp_next
      first | rw [if_pos h23] | rw [if_neg h23, if_pos h62] | rw [if_neg h23, if_neg h62]
  · refine am_aload_n rfl dX6_nextChange_26 ?_
    refine am_getr (j := 1) (by decide) rfl rfl rfl hTX6 (by decide) fl_X6_19 dX6_nextChange_27 ?_
    refine am_aload_n rfl dX6_nextChange_30 ?_
    refine am_getr (j := 0) (by decide) rfl rfl rfl hTX6 (by decide) fl_X6_12 dX6_nextChange_31 ?_
    refine am_iload_n rfl dX6_nextChange_34 ?_
    refine am_iload_n rfl dX6_nextChange_35 ?_
    refine am_aload_n rfl dX6_nextChange_36 ?_
    refine am_getr (j := 4) (by decide) rfl rfl rfl hTX6 (by decide) fl_X6_38 dX6_nextChange_37 ?_
    refine am_geti (j := 0) (by decide) rfl rfl rfl hTX2 (by decide) fl_X6_172 dX6_nextChange_40 ?_
    refine am_aload_n rfl dX6_nextChange_43 ?_
    refine am_getr (j := 4) (by decide) rfl rfl rfl hTX6 (by decide) fl_X6_38 dX6_nextChange_44 ?_
    refine am_geti (j := 1) (by decide) rfl rfl rfl hTX2 (by decide) fl_X6_169 dX6_nextChange_47 ?_
    refine am_isub dX6_nextChange_50 ?_
    refine am_callVi (c_X3_nextChange_32 ad M _ _ _ hF.1 hb.1 hb.2.1 hb.2.2.1 hb.2.2.2.1 (hb.2.2.2.2 h23).1 (hb.2.2.2.2 h23).2) okX3_nextChange ml_X6_242 (by decide) rfl rfl rfl ⟨by decide, by decide⟩ (Nat.le_of_ble_eq_true rfl) rfl dX6_nextChange_51 ?_
    refine am_iret rfl dX6_nextChange_54 ?_
    refine am_isE ?_
    unfold sp_next
    first | rw [if_pos h23] | rw [if_neg h23, if_pos h62] | rw [if_neg h23, if_neg h62]

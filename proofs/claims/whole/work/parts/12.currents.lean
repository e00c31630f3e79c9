def sp_k (k : Nat) : Prop := k = 1 ∨ k = 2 ∨ k = 4 ∨ k = 8
theorem sp_k8 {k : Nat} (h : sp_k k) : 1 ≤ k ∧ k ≤ 8 := by unfold sp_k at h; omega
def sp_lv (k : Nat) (l : Int32) (q : Nat) : Int32 := l * (nI k - nI q) / nI k
def sp_layJ (M : am_M) (k : Nat) (l : Int32) (j : Nat) : am_M := am_row (am_put (am_put M 19 0 (nI k)) 19 1 l) 20 (fun q => if q < j then sp_lv k l q else M 20 q)
def sp_lay (M : am_M) (k : Nat) (l : Int32) : am_M := sp_layJ M k l (k + 1)
theorem sp_layJ_0 (M : am_M) (k : Nat) (l : Int32) : am_put (am_put M 19 0 (nI k)) 19 1 l = sp_layJ M k l 0 := by
  funext a
  unfold sp_layJ am_row
  by_cases h : a = 20
  · subst h
    simp [am_put]
  · simp [h]
theorem sp_layJ_s (M : am_M) (k : Nat) (l : Int32) (j : Nat) (hj : j < 2147483648) : am_put (sp_layJ M k l j) 20 (nI j).toNatClampNeg (sp_lv k l j) = sp_layJ M k l (j + 1) := by
  unfold sp_layJ
  rw [am_put_row, nI_clamp hj]
  congr 1
  funext q
  unfold upd
  by_cases h : q = j
  · subst h
    simp
  · rw [if_neg h]
    dsimp only
    by_cases h2 : q < j
    · rw [if_pos h2, if_pos (by omega)]
    · rw [if_neg h2, if_neg (by omega)]
theorem nI_nz {k : Nat} (h1 : 1 ≤ k) (h2 : k ≤ 8) : ¬ nI k = 0 := nI_ne0 (by omega) (by omega)
set_option maxRecDepth 100000 in
set_option maxHeartbeats 400000 in
theorem lp_X1_lay (ad : Nat → Nat) (I : List Nat) (h19 : 19 ∈ I) (h20 : 20 ∈ I) (M : am_M) (k : Nat) (hk : 1 ≤ k ∧ k ≤ 8) (l : Int32) : ∀ (n j : Nat), j ≤ k + 1 → k + 1 - j < n → am_W ydX1_lay ad I (am_un (sp_lay M k l)) 12 [some (.ref (ad 19)), some (.int (nI k)), some (.int l), some (.int (nI j))] [] (sp_layJ M k l j) := by
  intro n
  induction n with
  | zero => intro j _ h; omega
  | succ n ih =>
    intro j hj hn
    refine am_iload_n rfl dX1_lay_12 ?_
    refine am_iload_n rfl dX1_lay_13 ?_
    refine am_icmp_gt (tgt := 49) (by decide) dX1_lay_14 (fun h14 => ?_) (fun h14 => ?_)
    · refine am_vret rfl dX1_lay_49 ?_
      first | (exfalso; simp only [nI_e, Int32.lt_iff_toInt_lt, Int32.le_iff_toInt_le, Int32.toInt_zero, kI_9] at *; omega) | (obtain rfl : j = k + 1 := (by simp only [nI_e, Int32.lt_iff_toInt_lt] at *; omega); exact ⟨rfl, rfl⟩)
    · refine am_iload_n rfl dX1_lay_17 ?_
      refine am_aload_n rfl dX1_lay_18 ?_
      refine am_getr (j := 2) (by assumption) rfl rfl rfl hTX1 (by decide) fl_X1_18 dX1_lay_19 ?_
      refine am_alen (v := 9) (by assumption) rfl (by decide) dX1_lay_22 ?_
      refine am_icmp_ge (tgt := 49) (by decide) dX1_lay_23 (fun h23 => ?_) (fun h23 => ?_)
      · refine am_vret rfl dX1_lay_49 ?_
        first | (exfalso; simp only [nI_e, Int32.lt_iff_toInt_lt, Int32.le_iff_toInt_le, Int32.toInt_zero, kI_9] at *; omega) | (obtain rfl : j = k + 1 := (by simp only [nI_e, Int32.lt_iff_toInt_lt] at *; omega); exact ⟨rfl, rfl⟩)
      · refine am_iload_n rfl dX1_lay_26 ?_
        refine am_if_le (tgt := 49) (by decide) dX1_lay_27 (fun h27 => ?_) (fun h27 => ?_)
        · refine am_vret rfl dX1_lay_49 ?_
          first | (exfalso; simp only [nI_e, Int32.lt_iff_toInt_lt, Int32.le_iff_toInt_le, Int32.toInt_zero, kI_9] at *; omega) | (obtain rfl : j = k + 1 := (by simp only [nI_e, Int32.lt_iff_toInt_lt] at *; omega); exact ⟨rfl, rfl⟩)
        · refine am_aload_n rfl dX1_lay_30 ?_
          refine am_getr (j := 2) (by assumption) rfl rfl rfl hTX1 (by decide) fl_X1_18 dX1_lay_31 ?_
          refine am_iload_n rfl dX1_lay_34 ?_
          refine am_iload_n rfl dX1_lay_35 ?_
          refine am_iload_n rfl dX1_lay_36 ?_
          refine am_iload_n rfl dX1_lay_37 ?_
          refine am_isub dX1_lay_38 ?_
          refine am_imul dX1_lay_39 ?_
          refine am_iload_n rfl dX1_lay_40 ?_
          refine am_idiv (nI_nz hk.1 hk.2) dX1_lay_41 ?_
          refine am_iast (by assumption) rfl (am_vpI (by simp only [nI_e, Int32.lt_iff_toInt_lt] at *; omega) (by simp only [nI_e, Int32.lt_iff_toInt_lt] at *; omega)) dX1_lay_42 ?_
          refine am_iinc (v := nI (j + 1)) rfl (nI_inc j) (by decide) dX1_lay_43 ?_
          refine am_goto (tgt := 12) (by decide) dX1_lay_46 ?_
          exact am_M_eq (sp_layJ_s M k l j (by omega)) (ih (j + 1) (by simp only [nI_leI, nI_ltI, nI_e, Int32.lt_iff_toInt_lt] at *; omega) (by simp only [nI_e, Int32.lt_iff_toInt_lt] at *; omega))
set_option maxRecDepth 100000 in
set_option maxHeartbeats 400000 in
theorem c_X1_lay (ad : Nat → Nat) (I : List Nat) (h19 : 19 ∈ I) (h20 : 20 ∈ I) (M : am_M) (k : Nat) (hk : sp_k k) (l : Int32) : am_C ydX1_lay ad I [.ref (ad 19), .int (nI k), .int l] M (am_un (sp_lay M k l)) := by
  refine am_ofW (by decide +kernel) (by simp [Value.category]) (Nat.le_of_ble_eq_true rfl) rfl ?_
  refine am_aload_n rfl dX1_lay_0 ?_
  refine am_iload_n rfl dX1_lay_1 ?_
  refine am_puti (j := 0) (by assumption) rfl rfl rfl hTX1 tyX1_ok nmX1 (by decide) fl_X1_9 rfl rfl rfl rfl dX1_lay_2 ?_
  refine am_aload_n rfl dX1_lay_5 ?_
  refine am_iload_n rfl dX1_lay_6 ?_
  refine am_puti (j := 1) (by assumption) rfl rfl rfl hTX1 tyX1_ok nmX1 (by decide) fl_X1_15 rfl rfl rfl rfl dX1_lay_7 ?_
  refine am_iconst (v := 0) (by decide) dX1_lay_10 ?_
  refine am_istore_n (by decide) dX1_lay_11 ?_
  exact am_M_eq (sp_layJ_0 M k l) (lp_X1_lay ad I h19 h20 M k (sp_k8 hk) l (k + 2) 0 (by omega) (by omega))
def sp_put (M : am_M) (p a : Int32) : am_M := if sp_in p 0 8 = true then am_put M 20 p.toNatClampNeg a else M
def sp_at (M : am_M) (p : Int32) : Int32 := if sp_in p 0 8 = true then M 20 p.toNatClampNeg else 0
theorem am_vp9 {v : Int32} (h : sp_in v 0 8 = true) : vp_in v 9 := by
  simp only [sp_in, decide_eq_true_eq, Int32.le_iff_toInt_le, Int32.toInt_zero, kI_8] at h
  exact am_vpI h.1 (by omega)
def sp_rem (M : am_M) (p : Int32) : Int32 := if 1 ≤ M 19 0 then p - p / M 19 0 * M 19 0 else 0
def sp_quart (M : am_M) (p : Int32) : Int32 := if 1 ≤ M 19 0 then p / M 19 0 - p / M 19 0 / 4 * 4 else 0
theorem am_nz1 {x : Int32} (h : 1 ≤ x) : ¬ x = 0 := by
  intro e
  subst e
  revert h
  decide
def sp_first (M : am_M) (p : Int32) : Int32 := if sp_quart M p = 0 then sp_at M (sp_rem M p) else if sp_quart M p = 1 then -sp_at M (M 19 0 - sp_rem M p) else if sp_quart M p = 2 then -sp_at M (sp_rem M p) else sp_at M (M 19 0 - sp_rem M p)
def sp_second (M : am_M) (p : Int32) : Int32 := if sp_quart M p = 0 then sp_at M (M 19 0 - sp_rem M p) else if sp_quart M p = 1 then sp_at M (sp_rem M p) else if sp_quart M p = 2 then -sp_at M (M 19 0 - sp_rem M p) else -sp_at M (sp_rem M p)
def sp_pair (M : am_M) (x y : Int32) : Int32 := iabs (x * x + y * y - M 19 1 * M 19 1)
def sp_miss (M : am_M) (p : Int32) : Int32 := sp_pair M (sp_at M p) (sp_at M (M 19 0 - p))
def sp_apart (M : am_M) (p x y : Int32) : Int32 := iabs (x * p - y * (M 19 0 - p))
def sp_gm (f : Nat → Int32) : Nat → Int32
  | 0 => 0
  | j + 1 => imax (sp_gm f j) (f j)
def sp_even (M : am_M) : Int32 := sp_gm (fun p => sp_miss M (nI p)) ((M 19 0).toInt + 1).toNat
set_option maxRecDepth 100000 in
set_option maxHeartbeats 400000 in
theorem c_X1_put (ad : Nat → Nat) (M : am_M) (p a : Int32) : am_C ydX1_put ad am_II [.ref (ad 19), .int p, .int a] M (am_un (sp_put M p a)) := by
  refine am_ofW (by decide +kernel) (by simp [Value.category]) (Nat.le_of_ble_eq_true rfl) rfl ?_
  refine am_iload_n rfl dX1_put_0 ?_
  refine am_iconst (v := 0) (by decide) dX1_put_1 ?_
  refine am_bipush (v := 8) (by decide) dX1_put_2 ?_
  refine am_callNi (c_X6_isWithin ad _ _ _ _) okX6_isWithin ml_X1_26 rfl ⟨by decide, by decide⟩ (Nat.le_of_ble_eq_true rfl) rfl dX1_put_4 ?_
  refine am_ifb_eq (tgt := 17) (by decide) dX1_put_7 (fun h7 => ?_) (fun h7 => ?_)
  · refine am_vret rfl dX1_put_17 ?_
    exact ⟨rfl, by simp_all [sp_put]⟩
  · refine am_aload_n rfl dX1_put_10 ?_
    refine am_getr (j := 2) (by decide) rfl rfl rfl hTX1 (by decide) fl_X1_18 dX1_put_11 ?_
    refine am_iload_n rfl dX1_put_14 ?_
    refine am_iload_n rfl dX1_put_15 ?_
    refine am_iast (by decide) rfl (am_vp9 (by assumption)) dX1_put_16 ?_
    refine am_vret rfl dX1_put_17 ?_
    exact ⟨rfl, by simp_all [sp_put]⟩
set_option maxRecDepth 100000 in
set_option maxHeartbeats 400000 in
theorem c_X1_numberAt (ad : Nat → Nat) (M : am_M) (p : Int32) : am_C ydX1_numberAt ad am_II [.ref (ad 19), .int p] M (am_is (sp_at M p) M) := by
  refine am_ofW (by decide +kernel) (by simp [Value.category]) (Nat.le_of_ble_eq_true rfl) rfl ?_
  refine am_iload_n rfl dX1_numberAt_0 ?_
  refine am_iconst (v := 0) (by decide) dX1_numberAt_1 ?_
  refine am_bipush (v := 8) (by decide) dX1_numberAt_2 ?_
  refine am_callNi (c_X6_isWithin ad _ _ _ _) okX6_isWithin ml_X1_26 rfl ⟨by decide, by decide⟩ (Nat.le_of_ble_eq_true rfl) rfl dX1_numberAt_4 ?_
  refine am_ifb_eq (tgt := 19) (by decide) dX1_numberAt_7 (fun h7 => ?_) (fun h7 => ?_)
  · refine am_iconst (v := 0) (by decide) dX1_numberAt_19 ?_
    refine am_iret rfl dX1_numberAt_20 ?_
    refine am_isE ?_
    simp_all [sp_at]
  · refine am_aload_n rfl dX1_numberAt_10 ?_
    refine am_getr (j := 2) (by decide) rfl rfl rfl hTX1 (by decide) fl_X1_18 dX1_numberAt_11 ?_
    refine am_iload_n rfl dX1_numberAt_14 ?_
    refine am_iald (by decide) rfl (am_vp9 (by assumption)) dX1_numberAt_15 ?_
    refine am_goto (tgt := 20) (by decide) dX1_numberAt_16 ?_
    refine am_iret rfl dX1_numberAt_20 ?_
    refine am_isE ?_
    simp_all [sp_at]
set_option maxRecDepth 100000 in
set_option maxHeartbeats 400000 in
theorem c_X1_restOf (ad : Nat → Nat) (M : am_M) (p : Int32) : am_C ydX1_restOf ad am_II [.ref (ad 19), .int p] M (am_is (sp_rem M p) M) := by
  refine am_ofW (by decide +kernel) (by simp [Value.category]) (Nat.le_of_ble_eq_true rfl) rfl ?_
  refine am_aload_n rfl dX1_restOf_0 ?_
  refine am_geti (j := 0) (by decide) rfl rfl rfl hTX1 (by decide) fl_X1_9 dX1_restOf_1 ?_
  refine am_iconst (v := 1) (by decide) dX1_restOf_4 ?_
  refine am_icmp_ge (tgt := 12) (by decide) dX1_restOf_5 (fun h5 => ?_) (fun h5 => ?_)
  · refine am_iload_n rfl dX1_restOf_12 ?_
    refine am_aload_n rfl dX1_restOf_13 ?_
    refine am_geti (j := 0) (by decide) rfl rfl rfl hTX1 (by decide) fl_X1_9 dX1_restOf_14 ?_
    refine am_irem (am_nz1 (by assumption)) dX1_restOf_17 ?_
    refine am_iret rfl dX1_restOf_18 ?_
    refine am_isE ?_
    unfold sp_rem
    first | rw [if_pos (by assumption)] | rw [if_neg (by assumption)]
  · refine am_iconst (v := 0) (by decide) dX1_restOf_8 ?_
    refine am_goto (tgt := 18) (by decide) dX1_restOf_9 ?_
    refine am_iret rfl dX1_restOf_18 ?_
    refine am_isE ?_
    unfold sp_rem
    first | rw [if_pos (by assumption)] | rw [if_neg (by assumption)]
set_option maxRecDepth 100000 in
set_option maxHeartbeats 400000 in
theorem c_X1_quarterOf (ad : Nat → Nat) (M : am_M) (p : Int32) : am_C ydX1_quarterOf ad am_II [.ref (ad 19), .int p] M (am_is (sp_quart M p) M) := by
  refine am_ofW (by decide +kernel) (by simp [Value.category]) (Nat.le_of_ble_eq_true rfl) rfl ?_
  refine am_aload_n rfl dX1_quarterOf_0 ?_
  refine am_geti (j := 0) (by decide) rfl rfl rfl hTX1 (by decide) fl_X1_9 dX1_quarterOf_1 ?_
  refine am_iconst (v := 1) (by decide) dX1_quarterOf_4 ?_
  refine am_icmp_ge (tgt := 12) (by decide) dX1_quarterOf_5 (fun h5 => ?_) (fun h5 => ?_)
  · refine am_iload_n rfl dX1_quarterOf_12 ?_
    refine am_aload_n rfl dX1_quarterOf_13 ?_
    refine am_geti (j := 0) (by decide) rfl rfl rfl hTX1 (by decide) fl_X1_9 dX1_quarterOf_14 ?_
    refine am_idiv (am_nz1 (by assumption)) dX1_quarterOf_17 ?_
    refine am_iconst (v := 4) (by decide) dX1_quarterOf_18 ?_
    refine am_irem (by decide) dX1_quarterOf_19 ?_
    refine am_iret rfl dX1_quarterOf_20 ?_
    refine am_isE ?_
    unfold sp_quart
    first | rw [if_pos (by assumption)] | rw [if_neg (by assumption)]
  · refine am_iconst (v := 0) (by decide) dX1_quarterOf_8 ?_
    refine am_goto (tgt := 20) (by decide) dX1_quarterOf_9 ?_
    refine am_iret rfl dX1_quarterOf_20 ?_
    refine am_isE ?_
    unfold sp_quart
    first | rw [if_pos (by assumption)] | rw [if_neg (by assumption)]
set_option maxRecDepth 100000 in
set_option maxHeartbeats 400000 in
theorem c_X1_firstAt (ad : Nat → Nat) (M : am_M) (p : Int32) : am_C ydX1_firstAt ad am_II [.ref (ad 19), .int p] M (am_is (sp_first M p) M) := by
  refine am_ofW (by decide +kernel) (by simp [Value.category]) (Nat.le_of_ble_eq_true rfl) rfl ?_
  refine am_aload_n rfl dX1_firstAt_0 ?_
  refine am_iload_n rfl dX1_firstAt_1 ?_
  refine am_callVi (c_X1_restOf ad _ _) okX1_restOf ml_X1_30 (by decide) rfl rfl rfl ⟨by decide, by decide⟩ (Nat.le_of_ble_eq_true rfl) rfl dX1_firstAt_2 ?_
  refine am_istore_n (by decide) dX1_firstAt_5 ?_
  refine am_aload_n rfl dX1_firstAt_6 ?_
  refine am_iload_n rfl dX1_firstAt_7 ?_
  refine am_callVi (c_X1_quarterOf ad _ _) okX1_quarterOf ml_X1_34 (by decide) rfl rfl rfl ⟨by decide, by decide⟩ (Nat.le_of_ble_eq_true rfl) rfl dX1_firstAt_8 ?_
  by_cases h11o : (sp_quart M p).toInt < 0 ∨ 2 < (sp_quart M p).toInt
  · refine am_tabOut (tgt := 61) h11o (by decide) dX1_firstAt_11 ?_
    refine am_aload_n rfl dX1_firstAt_61 ?_
    refine am_aload_n rfl dX1_firstAt_62 ?_
    refine am_geti (j := 0) (by decide) rfl rfl rfl hTX1 (by decide) fl_X1_9 dX1_firstAt_63 ?_
    refine am_iload_n rfl dX1_firstAt_66 ?_
    refine am_isub dX1_firstAt_67 ?_
    refine am_callVi (c_X1_numberAt ad _ _) okX1_numberAt ml_X1_37 (by decide) rfl rfl rfl ⟨by decide, by decide⟩ (Nat.le_of_ble_eq_true rfl) rfl dX1_firstAt_68 ?_
    refine am_iret rfl dX1_firstAt_71 ?_
    refine am_isE ?_
    unfold sp_first
    first | (rw [h11c]; rfl) | (rw [if_neg (fun e => (by rw [e] at h11o; revert h11o; decide)), if_neg (fun e => (by rw [e] at h11o; revert h11o; decide)), if_neg (fun e => (by rw [e] at h11o; revert h11o; decide))])
  · have h11a : 0 ≤ (sp_quart M p).toInt ∧ (sp_quart M p).toInt ≤ 2 := by omega
    have h11d : (sp_quart M p) = 0 ∨ (sp_quart M p) = 1 ∨ (sp_quart M p) = 2 := by
      simp only [← Int32.toInt_inj]
      have e9 : ((0 : Int32).toInt = 0) ∧ ((1 : Int32).toInt = 1) ∧ ((2 : Int32).toInt = 2) := by decide
      omega
    rcases h11d with h11c | h11c | h11c
    · refine am_tabIn (off := 25) (tgt := 36) (by rw [h11c]; decide) (by rw [h11c]; decide) (by rw [h11c]; rfl) (by decide) dX1_firstAt_11 ?_
      refine am_aload_n rfl dX1_firstAt_36 ?_
      refine am_iload_n rfl dX1_firstAt_37 ?_
      refine am_callVi (c_X1_numberAt ad _ _) okX1_numberAt ml_X1_37 (by decide) rfl rfl rfl ⟨by decide, by decide⟩ (Nat.le_of_ble_eq_true rfl) rfl dX1_firstAt_38 ?_
      refine am_iret rfl dX1_firstAt_41 ?_
      refine am_isE ?_
      unfold sp_first
      first | (rw [h11c]; rfl) | (rw [if_neg (fun e => (by rw [e] at h11o; revert h11o; decide)), if_neg (fun e => (by rw [e] at h11o; revert h11o; decide)), if_neg (fun e => (by rw [e] at h11o; revert h11o; decide))])
    · refine am_tabIn (off := 31) (tgt := 42) (by rw [h11c]; decide) (by rw [h11c]; decide) (by rw [h11c]; rfl) (by decide) dX1_firstAt_11 ?_
      refine am_aload_n rfl dX1_firstAt_42 ?_
      refine am_aload_n rfl dX1_firstAt_43 ?_
      refine am_geti (j := 0) (by decide) rfl rfl rfl hTX1 (by decide) fl_X1_9 dX1_firstAt_44 ?_
      refine am_iload_n rfl dX1_firstAt_47 ?_
      refine am_isub dX1_firstAt_48 ?_
      refine am_callVi (c_X1_numberAt ad _ _) okX1_numberAt ml_X1_37 (by decide) rfl rfl rfl ⟨by decide, by decide⟩ (Nat.le_of_ble_eq_true rfl) rfl dX1_firstAt_49 ?_
      refine am_ineg dX1_firstAt_52 ?_
      refine am_iret rfl dX1_firstAt_53 ?_
      refine am_isE ?_
      unfold sp_first
      first | (rw [h11c]; rfl) | (rw [if_neg (fun e => (by rw [e] at h11o; revert h11o; decide)), if_neg (fun e => (by rw [e] at h11o; revert h11o; decide)), if_neg (fun e => (by rw [e] at h11o; revert h11o; decide))])
    · refine am_tabIn (off := 43) (tgt := 54) (by rw [h11c]; decide) (by rw [h11c]; decide) (by rw [h11c]; rfl) (by decide) dX1_firstAt_11 ?_
      refine am_aload_n rfl dX1_firstAt_54 ?_
      refine am_iload_n rfl dX1_firstAt_55 ?_
      refine am_callVi (c_X1_numberAt ad _ _) okX1_numberAt ml_X1_37 (by decide) rfl rfl rfl ⟨by decide, by decide⟩ (Nat.le_of_ble_eq_true rfl) rfl dX1_firstAt_56 ?_
      refine am_ineg dX1_firstAt_59 ?_
      refine am_iret rfl dX1_firstAt_60 ?_
      refine am_isE ?_
      unfold sp_first
      first | (rw [h11c]; rfl) | (rw [if_neg (fun e => (by rw [e] at h11o; revert h11o; decide)), if_neg (fun e => (by rw [e] at h11o; revert h11o; decide)), if_neg (fun e => (by rw [e] at h11o; revert h11o; decide))])
set_option maxRecDepth 100000 in
set_option maxHeartbeats 400000 in
theorem c_X1_secondAt (ad : Nat → Nat) (M : am_M) (p : Int32) : am_C ydX1_secondAt ad am_II [.ref (ad 19), .int p] M (am_is (sp_second M p) M) := by
  refine am_ofW (by decide +kernel) (by simp [Value.category]) (Nat.le_of_ble_eq_true rfl) rfl ?_
  refine am_aload_n rfl dX1_secondAt_0 ?_
  refine am_iload_n rfl dX1_secondAt_1 ?_
  refine am_callVi (c_X1_restOf ad _ _) okX1_restOf ml_X1_30 (by decide) rfl rfl rfl ⟨by decide, by decide⟩ (Nat.le_of_ble_eq_true rfl) rfl dX1_secondAt_2 ?_
  refine am_istore_n (by decide) dX1_secondAt_5 ?_
  refine am_aload_n rfl dX1_secondAt_6 ?_
  refine am_iload_n rfl dX1_secondAt_7 ?_
  refine am_callVi (c_X1_quarterOf ad _ _) okX1_quarterOf ml_X1_34 (by decide) rfl rfl rfl ⟨by decide, by decide⟩ (Nat.le_of_ble_eq_true rfl) rfl dX1_secondAt_8 ?_
  by_cases h11o : (sp_quart M p).toInt < 0 ∨ 2 < (sp_quart M p).toInt
  · refine am_tabOut (tgt := 65) h11o (by decide) dX1_secondAt_11 ?_
    refine am_aload_n rfl dX1_secondAt_65 ?_
    refine am_iload_n rfl dX1_secondAt_66 ?_
    refine am_callVi (c_X1_numberAt ad _ _) okX1_numberAt ml_X1_37 (by decide) rfl rfl rfl ⟨by decide, by decide⟩ (Nat.le_of_ble_eq_true rfl) rfl dX1_secondAt_67 ?_
    refine am_ineg dX1_secondAt_70 ?_
    refine am_iret rfl dX1_secondAt_71 ?_
    refine am_isE ?_
    unfold sp_second
    first | (rw [h11c]; rfl) | (rw [if_neg (fun e => (by rw [e] at h11o; revert h11o; decide)), if_neg (fun e => (by rw [e] at h11o; revert h11o; decide)), if_neg (fun e => (by rw [e] at h11o; revert h11o; decide))])
  · have h11a : 0 ≤ (sp_quart M p).toInt ∧ (sp_quart M p).toInt ≤ 2 := by omega
    have h11d : (sp_quart M p) = 0 ∨ (sp_quart M p) = 1 ∨ (sp_quart M p) = 2 := by
      simp only [← Int32.toInt_inj]
      have e9 : ((0 : Int32).toInt = 0) ∧ ((1 : Int32).toInt = 1) ∧ ((2 : Int32).toInt = 2) := by decide
      omega
    rcases h11d with h11c | h11c | h11c
    · refine am_tabIn (off := 25) (tgt := 36) (by rw [h11c]; decide) (by rw [h11c]; decide) (by rw [h11c]; rfl) (by decide) dX1_secondAt_11 ?_
      refine am_aload_n rfl dX1_secondAt_36 ?_
      refine am_aload_n rfl dX1_secondAt_37 ?_
      refine am_geti (j := 0) (by decide) rfl rfl rfl hTX1 (by decide) fl_X1_9 dX1_secondAt_38 ?_
      refine am_iload_n rfl dX1_secondAt_41 ?_
      refine am_isub dX1_secondAt_42 ?_
      refine am_callVi (c_X1_numberAt ad _ _) okX1_numberAt ml_X1_37 (by decide) rfl rfl rfl ⟨by decide, by decide⟩ (Nat.le_of_ble_eq_true rfl) rfl dX1_secondAt_43 ?_
      refine am_iret rfl dX1_secondAt_46 ?_
      refine am_isE ?_
      unfold sp_second
      first | (rw [h11c]; rfl) | (rw [if_neg (fun e => (by rw [e] at h11o; revert h11o; decide)), if_neg (fun e => (by rw [e] at h11o; revert h11o; decide)), if_neg (fun e => (by rw [e] at h11o; revert h11o; decide))])
    · refine am_tabIn (off := 36) (tgt := 47) (by rw [h11c]; decide) (by rw [h11c]; decide) (by rw [h11c]; rfl) (by decide) dX1_secondAt_11 ?_
      refine am_aload_n rfl dX1_secondAt_47 ?_
      refine am_iload_n rfl dX1_secondAt_48 ?_
      refine am_callVi (c_X1_numberAt ad _ _) okX1_numberAt ml_X1_37 (by decide) rfl rfl rfl ⟨by decide, by decide⟩ (Nat.le_of_ble_eq_true rfl) rfl dX1_secondAt_49 ?_
      refine am_iret rfl dX1_secondAt_52 ?_
      refine am_isE ?_
      unfold sp_second
      first | (rw [h11c]; rfl) | (rw [if_neg (fun e => (by rw [e] at h11o; revert h11o; decide)), if_neg (fun e => (by rw [e] at h11o; revert h11o; decide)), if_neg (fun e => (by rw [e] at h11o; revert h11o; decide))])
    · refine am_tabIn (off := 42) (tgt := 53) (by rw [h11c]; decide) (by rw [h11c]; decide) (by rw [h11c]; rfl) (by decide) dX1_secondAt_11 ?_
      refine am_aload_n rfl dX1_secondAt_53 ?_
      refine am_aload_n rfl dX1_secondAt_54 ?_
      refine am_geti (j := 0) (by decide) rfl rfl rfl hTX1 (by decide) fl_X1_9 dX1_secondAt_55 ?_
      refine am_iload_n rfl dX1_secondAt_58 ?_
      refine am_isub dX1_secondAt_59 ?_
      refine am_callVi (c_X1_numberAt ad _ _) okX1_numberAt ml_X1_37 (by decide) rfl rfl rfl ⟨by decide, by decide⟩ (Nat.le_of_ble_eq_true rfl) rfl dX1_secondAt_60 ?_
      refine am_ineg dX1_secondAt_63 ?_
      refine am_iret rfl dX1_secondAt_64 ?_
      refine am_isE ?_
      unfold sp_second
      first | (rw [h11c]; rfl) | (rw [if_neg (fun e => (by rw [e] at h11o; revert h11o; decide)), if_neg (fun e => (by rw [e] at h11o; revert h11o; decide)), if_neg (fun e => (by rw [e] at h11o; revert h11o; decide))])
set_option maxRecDepth 100000 in
set_option maxHeartbeats 400000 in
theorem c_X1_missOfPair (ad : Nat → Nat) (M : am_M) (x y : Int32) : am_C ydX1_missOfPair ad am_II [.ref (ad 19), .int x, .int y] M (am_is (sp_pair M x y) M) := by
  refine am_ofW (by decide +kernel) (by simp [Value.category]) (Nat.le_of_ble_eq_true rfl) rfl ?_
  refine am_iload_n rfl dX1_missOfPair_0 ?_
  refine am_iload_n rfl dX1_missOfPair_1 ?_
  refine am_imul dX1_missOfPair_2 ?_
  refine am_iload_n rfl dX1_missOfPair_3 ?_
  refine am_iload_n rfl dX1_missOfPair_4 ?_
  refine am_imul dX1_missOfPair_5 ?_
  refine am_iadd dX1_missOfPair_6 ?_
  refine am_aload_n rfl dX1_missOfPair_7 ?_
  refine am_geti (j := 1) (by decide) rfl rfl rfl hTX1 (by decide) fl_X1_15 dX1_missOfPair_8 ?_
  refine am_aload_n rfl dX1_missOfPair_11 ?_
  refine am_geti (j := 1) (by decide) rfl rfl rfl hTX1 (by decide) fl_X1_15 dX1_missOfPair_12 ?_
  refine am_imul dX1_missOfPair_15 ?_
  refine am_isub dX1_missOfPair_16 ?_
  refine am_mabsI ml_X1_40 (by decide) (Nat.le_of_ble_eq_true rfl) dX1_missOfPair_17 ?_
  refine am_iret rfl dX1_missOfPair_20 ?_
  exact ⟨rfl, rfl⟩
set_option maxRecDepth 100000 in
set_option maxHeartbeats 400000 in
theorem c_X1_missOf (ad : Nat → Nat) (M : am_M) (p : Int32) : am_C ydX1_missOf ad am_II [.ref (ad 19), .int p] M (am_is (sp_miss M p) M) := by
  refine am_ofW (by decide +kernel) (by simp [Value.category]) (Nat.le_of_ble_eq_true rfl) rfl ?_
  refine am_aload_n rfl dX1_missOf_0 ?_
  refine am_aload_n rfl dX1_missOf_1 ?_
  refine am_iload_n rfl dX1_missOf_2 ?_
  refine am_callVi (c_X1_numberAt ad _ _) okX1_numberAt ml_X1_37 (by decide) rfl rfl rfl ⟨by decide, by decide⟩ (Nat.le_of_ble_eq_true rfl) rfl dX1_missOf_3 ?_
  refine am_aload_n rfl dX1_missOf_6 ?_
  refine am_aload_n rfl dX1_missOf_7 ?_
  refine am_geti (j := 0) (by decide) rfl rfl rfl hTX1 (by decide) fl_X1_9 dX1_missOf_8 ?_
  refine am_iload_n rfl dX1_missOf_11 ?_
  refine am_isub dX1_missOf_12 ?_
  refine am_callVi (c_X1_numberAt ad _ _) okX1_numberAt ml_X1_37 (by decide) rfl rfl rfl ⟨by decide, by decide⟩ (Nat.le_of_ble_eq_true rfl) rfl dX1_missOf_13 ?_
  refine am_callVi (c_X1_missOfPair ad _ _ _) okX1_missOfPair ml_X1_45 (by decide) rfl rfl rfl ⟨by decide, by decide⟩ (Nat.le_of_ble_eq_true rfl) rfl dX1_missOf_16 ?_
  refine am_iret rfl dX1_missOf_19 ?_
  exact ⟨rfl, rfl⟩
set_option maxRecDepth 100000 in
set_option maxHeartbeats 400000 in
theorem c_X1_apart (ad : Nat → Nat) (M : am_M) (p x y : Int32) : am_C ydX1_apart ad am_II [.ref (ad 19), .int p, .int x, .int y] M (am_is (sp_apart M p x y) M) := by
  refine am_ofW (by decide +kernel) (by simp [Value.category]) (Nat.le_of_ble_eq_true rfl) rfl ?_
  refine am_iload_n rfl dX1_apart_0 ?_
  refine am_iload_n rfl dX1_apart_1 ?_
  refine am_imul dX1_apart_2 ?_
  refine am_iload_n rfl dX1_apart_3 ?_
  refine am_aload_n rfl dX1_apart_4 ?_
  refine am_geti (j := 0) (by decide) rfl rfl rfl hTX1 (by decide) fl_X1_9 dX1_apart_5 ?_
  refine am_iload_n rfl dX1_apart_8 ?_
  refine am_isub dX1_apart_9 ?_
  refine am_imul dX1_apart_10 ?_
  refine am_isub dX1_apart_11 ?_
  refine am_mabsI ml_X1_40 (by decide) (Nat.le_of_ble_eq_true rfl) dX1_apart_12 ?_
  refine am_iret rfl dX1_apart_15 ?_
  exact ⟨rfl, rfl⟩
set_option maxRecDepth 100000 in
set_option maxHeartbeats 400000 in
theorem lp_X1_greatestMiss (ad : Nat → Nat) (M : am_M) (hp : 0 ≤ (M 19 0).toInt ∧ (M 19 0).toInt ≤ 8) : ∀ (n j : Nat), (j : Int) ≤ (M 19 0).toInt + 1 → (M 19 0).toInt + 1 - j < n → am_W ydX1_greatestMiss ad am_II (am_is (sp_even M) M) 4 [some (.ref (ad 19)), some (.int (sp_gm (fun p => sp_miss M (nI p)) j)), some (.int (nI j))] [] M := by
  intro n
  induction n with
  | zero => intro j _ h; omega
  | succ n ih =>
    intro j hj hn
    refine am_iload_n rfl dX1_greatestMiss_4 ?_
    refine am_aload_n rfl dX1_greatestMiss_5 ?_
    refine am_geti (j := 0) (by decide) rfl rfl rfl hTX1 (by decide) fl_X1_9 dX1_greatestMiss_6 ?_
    refine am_icmp_gt (tgt := 28) (by decide) dX1_greatestMiss_9 (fun h9 => ?_) (fun h9 => ?_)
    · refine am_iload_n rfl dX1_greatestMiss_28 ?_
      refine am_iret rfl dX1_greatestMiss_29 ?_
      have e9 : ((M 19 0).toInt + 1).toNat = j := by (simp only [nI_e, Int32.lt_iff_toInt_lt] at *; omega)
      refine am_isE ?_
      unfold sp_even
      rw [e9]
    · refine am_iload_n rfl dX1_greatestMiss_12 ?_
      refine am_aload_n rfl dX1_greatestMiss_13 ?_
      refine am_iload_n rfl dX1_greatestMiss_14 ?_
      refine am_callVi (c_X1_missOf ad _ _) okX1_missOf ml_X1_49 (by decide) rfl rfl rfl ⟨by decide, by decide⟩ (Nat.le_of_ble_eq_true rfl) rfl dX1_greatestMiss_15 ?_
      refine am_mmaxI ml_X1_52 (by decide) (Nat.le_of_ble_eq_true rfl) dX1_greatestMiss_18 ?_
      refine am_istore_n (by decide) dX1_greatestMiss_21 ?_
      refine am_iinc (v := nI (j + 1)) rfl (nI_inc j) (by decide) dX1_greatestMiss_22 ?_
      refine am_goto (tgt := 4) (by decide) dX1_greatestMiss_25 ?_
      exact ih (j + 1) (by simp only [nI_e, Int32.lt_iff_toInt_lt] at *; omega) (by simp only [nI_e, Int32.lt_iff_toInt_lt] at *; omega)
set_option maxRecDepth 100000 in
set_option maxHeartbeats 400000 in
theorem c_X1_greatestMiss (ad : Nat → Nat) (M : am_M)  (hp : 0 ≤ (M 19 0).toInt ∧ (M 19 0).toInt ≤ 8) : am_C ydX1_greatestMiss ad am_II [.ref (ad 19)] M (am_is (sp_even M) M) := by
  refine am_ofW (by decide +kernel) (by simp [Value.category]) (Nat.le_of_ble_eq_true rfl) rfl ?_
  refine am_iconst (v := 0) (by decide) dX1_greatestMiss_0 ?_
  refine am_istore_n (by decide) dX1_greatestMiss_1 ?_
  refine am_iconst (v := 0) (by decide) dX1_greatestMiss_2 ?_
  refine am_istore_n (by decide) dX1_greatestMiss_3 ?_
  exact lp_X1_greatestMiss ad M hp 10 0 (by omega) (by omega)

def sp_mid (M : am_M) : Nat → Int32 → Int32
  | 0, b => b
  | t + 1, b => sp_mid M t (if sp_pair M (nI t) (nI t) < sp_pair M b b then nI t else b)
def sp_middle (M : am_M) (p : Int32) : am_M := sp_put M p (sp_mid M (M 19 1).toInt.toNat (M 19 1))
def sp_ew (M : am_M) (x : Int32) : Nat → Nat → Nat
  | 0, y => y
  | n + 1, y => if sp_pair M x (nI (y + 1)) < sp_pair M x (nI y) then sp_ew M x n (y + 1) else y
def sp_y2 (M : am_M) (t y : Nat) : Nat := sp_ew M (nI t) (t - min y t) (min y t)
def sp_bet (M : am_M) (p x y bx bz : Int32) : Prop := sp_pair M x y - sp_pair M bx bz < 0 ∨ (sp_pair M x y - sp_pair M bx bz = 0 ∧ sp_apart M p x y < sp_apart M p bx bz)
noncomputable def sp_eo (M : am_M) (p : Int32) : Nat → Int32 → Int32 → Nat → Int32 × Int32
  | 0, bx, bz, _ => (bx, bz)
  | t + 1, bx, bz, y => @ite _ (sp_bet M p (nI t) (nI (sp_y2 M t y)) bx bz) (Classical.propDecidable _) (sp_eo M p t (nI t) (nI (sp_y2 M t y)) (sp_y2 M t y)) (sp_eo M p t bx bz (sp_y2 M t y))
noncomputable def sp_xy (M : am_M) (p : Int32) : Int32 × Int32 := sp_eo M p ((M 19 1).toInt.toNat + 1) (M 19 1) 0 0
noncomputable def sp_pairs (M : am_M) (p : Int32) : am_M := sp_put (sp_put M p (sp_xy M p).1) ((sp_put M p (sp_xy M p).1) 19 0 - p) (sp_xy M p).2
noncomputable def sp_evs (k : Nat) : Nat → Nat → am_M → am_M
  | 0, _, M => M
  | n + 1, p, M => sp_evs k n (p + 1) (if 2 * p = k then sp_middle M (nI p) else sp_pairs M (nI p))
noncomputable def sp_smooth (M : am_M) : am_M := sp_evs (M 19 0).toInt.toNat ((M 19 0).toInt.toNat / 2 + 1) 0 M
theorem sp_put_19 (M : am_M) (p a : Int32) : sp_put M p a 19 = M 19 := by
  unfold sp_put
  split
  · rw [am_put_ne _ _ _ _ (by decide)]
  · rfl
theorem sp_middle_19 (M : am_M) (p : Int32) : sp_middle M p 19 = M 19 := sp_put_19 _ _ _
theorem sp_pairs_19 (M : am_M) (p : Int32) : sp_pairs M p 19 = M 19 := by
  unfold sp_pairs
  rw [sp_put_19, sp_put_19]
theorem nI_dec (t : Nat) (h : t < 2147483648) : (nI t + Int32.ofInt (-1)).toInt = (t : Int) - 1 := by
  have e1 : (Int32.ofInt (-1)).toInt = -1 := by decide
  rw [i_add, nI_e, e1]
  omega
theorem am_imin (a b : Nat) (ha : a < 2147483648) (hb : b < 2147483648) : imin (nI a) (nI b) = nI (min a b) := by
  unfold imin
  by_cases h : nI b < nI a
  · have h2 : b < a := by (simp only [Int32.lt_iff_toInt_lt, nI_e] at h; omega)
    rw [if_pos h, Nat.min_eq_right (by omega)]
  · have h2 : a ≤ b := by (simp only [Int32.lt_iff_toInt_lt, nI_e] at h; omega)
    rw [if_neg h, Nat.min_eq_left h2]
theorem sp_ew_le (M : am_M) (x : Int32) : ∀ (n y : Nat), sp_ew M x n y ≤ y + n ∧ y ≤ sp_ew M x n y := by
  intro n
  induction n with
  | zero => intro y; simp [sp_ew]
  | succ n ih =>
    intro y
    simp only [sp_ew]
    split
    · have := ih (y + 1); omega
    · omega
theorem sp_y2_le (M : am_M) (t y : Nat) : sp_y2 M t y ≤ t := by
  unfold sp_y2
  have := sp_ew_le M (nI t) (t - min y t) (min y t)
  omega
set_option maxRecDepth 100000 in
set_option maxHeartbeats 400000 in
theorem lp_X1_evenMiddle (ad : Nat → Nat) (M : am_M) (p r : Int32) : ∀ (t : Nat) (b x : Int32), x.toInt = (t : Int) - 1 → t < 1000 → sp_mid M t b = r → am_W ydX1_evenMiddle ad am_II (am_un (sp_put M p r)) 12 [some (.ref (ad 19)), some (.int p), some (.int b), some (.int x)] [] M := by
  intro t
  induction t with
  | zero =>
    intro b x hx ht he
    refine am_iload_n rfl dX1_evenMiddle_12 ?_
    refine am_if_lt (tgt := 39) (by decide) dX1_evenMiddle_13 (fun h13 => ?_) (fun h13 => (by exfalso; simp only [Int32.lt_iff_toInt_lt, Int32.toInt_zero] at h13; omega))
    subst he
    refine am_aload_n rfl dX1_evenMiddle_39 ?_
    refine am_iload_n rfl dX1_evenMiddle_40 ?_
    refine am_iload_n rfl dX1_evenMiddle_41 ?_
    refine am_callVv (c_X1_put ad _ _ _) okX1_put ml_X1_62 (by decide) rfl rfl rfl ⟨by decide, by decide⟩ (Nat.le_of_ble_eq_true rfl) rfl dX1_evenMiddle_42 ?_
    refine am_vret rfl dX1_evenMiddle_45 ?_
    exact ⟨rfl, rfl⟩
  | succ t ih =>
    intro b x hx ht he
    obtain rfl : x = nI t := i_inj (by rw [nI_e]; omega)
    refine am_iload_n rfl dX1_evenMiddle_12 ?_
    refine am_if_lt (tgt := 39) (by decide) dX1_evenMiddle_13 (fun h13 => (by exfalso; simp only [Int32.lt_iff_toInt_lt, Int32.toInt_zero, nI_e] at h13; omega)) (fun h13 => ?_)
    refine am_aload_n rfl dX1_evenMiddle_16 ?_
    refine am_iload_n rfl dX1_evenMiddle_17 ?_
    refine am_iload_n rfl dX1_evenMiddle_18 ?_
    refine am_callVi (c_X1_missOfPair ad _ _ _) okX1_missOfPair ml_X1_45 (by decide) rfl rfl rfl ⟨by decide, by decide⟩ (Nat.le_of_ble_eq_true rfl) rfl dX1_evenMiddle_19 ?_
    refine am_aload_n rfl dX1_evenMiddle_22 ?_
    refine am_iload_n rfl dX1_evenMiddle_23 ?_
    refine am_iload_n rfl dX1_evenMiddle_24 ?_
    refine am_callVi (c_X1_missOfPair ad _ _ _) okX1_missOfPair ml_X1_45 (by decide) rfl rfl rfl ⟨by decide, by decide⟩ (Nat.le_of_ble_eq_true rfl) rfl dX1_evenMiddle_25 ?_
    refine am_icmp_ge (tgt := 33) (by decide) dX1_evenMiddle_28 (fun h28 => ?_) (fun h28 => ?_)
    · refine am_iinc rfl rfl (by decide) dX1_evenMiddle_33 ?_
      refine am_goto (tgt := 12) (by decide) dX1_evenMiddle_36 ?_
      exact ih _ _ (nI_dec t (by omega)) (by omega) (by first | (rw [← he, sp_mid, if_pos (Int32.not_le.mp h28)]) | (rw [← he, sp_mid, if_neg (Int32.not_lt.mpr h28)]))
    · refine am_iload_n rfl dX1_evenMiddle_31 ?_
      refine am_istore_n (by decide) dX1_evenMiddle_32 ?_
      refine am_iinc rfl rfl (by decide) dX1_evenMiddle_33 ?_
      refine am_goto (tgt := 12) (by decide) dX1_evenMiddle_36 ?_
      exact ih _ _ (nI_dec t (by omega)) (by omega) (by first | (rw [← he, sp_mid, if_pos (Int32.not_le.mp h28)]) | (rw [← he, sp_mid, if_neg (Int32.not_lt.mpr h28)]))
set_option maxRecDepth 100000 in
set_option maxHeartbeats 400000 in
theorem c_X1_evenMiddle (ad : Nat → Nat) (M : am_M) (p : Int32) (hl : 0 ≤ (M 19 1).toInt ∧ (M 19 1).toInt ≤ 100) : am_C ydX1_evenMiddle ad am_II [.ref (ad 19), .int p] M (am_un (sp_middle M p)) := by
  refine am_ofW (by decide +kernel) (by simp [Value.category]) (Nat.le_of_ble_eq_true rfl) rfl ?_
  refine am_aload_n rfl dX1_evenMiddle_0 ?_
  refine am_geti (j := 1) (by decide) rfl rfl rfl hTX1 (by decide) fl_X1_15 dX1_evenMiddle_1 ?_
  refine am_istore_n (by decide) dX1_evenMiddle_4 ?_
  refine am_aload_n rfl dX1_evenMiddle_5 ?_
  refine am_geti (j := 1) (by decide) rfl rfl rfl hTX1 (by decide) fl_X1_15 dX1_evenMiddle_6 ?_
  refine am_iconst (v := 1) (by decide) dX1_evenMiddle_9 ?_
  refine am_isub dX1_evenMiddle_10 ?_
  refine am_istore_n (by decide) dX1_evenMiddle_11 ?_
  exact lp_X1_evenMiddle ad M p _ (M 19 1).toInt.toNat _ _ (by simp only [i_sub, kI_1]; omega) (by omega) rfl
set_option maxRecDepth 100000 in
set_option maxHeartbeats 400000 in
theorem lp_X1_ew (ad : Nat → Nat) (M : am_M) (P : Option Value → am_M → Prop) (p bx bz : Int32) (nr : Option Value) (t z : Nat) (ht : t < 1000) (K : am_W ydX1_evenPair ad am_II P 64 [some (.ref (ad 19)), some (.int p), some (.int bx), some (.int bz), some (.int (nI z)), some (.int (nI t)), nr] [] M) : ∀ (n y : Nat), y + n = t → sp_ew M (nI t) n y = z → am_W ydX1_evenPair ad am_II P 30 [some (.ref (ad 19)), some (.int p), some (.int bx), some (.int bz), some (.int (nI y)), some (.int (nI t)), nr] [] M := by
  intro n
  induction n with
  | zero =>
    intro y hy hz
    refine am_iload rfl dX1_evenPair_30 ?_
    refine am_iload rfl dX1_evenPair_32 ?_
    refine am_icmp_ge (tgt := 64) (by decide) dX1_evenPair_34 (fun h => ?_) (fun h => (by exfalso; simp only [Int32.le_iff_toInt_le, nI_e] at h; omega))
    rw [sp_ew] at hz
    subst hz
    exact K
  | succ n ih =>
    intro y hy hz
    refine am_iload rfl dX1_evenPair_30 ?_
    refine am_iload rfl dX1_evenPair_32 ?_
    refine am_icmp_ge (tgt := 64) (by decide) dX1_evenPair_34 (fun h => (by exfalso; simp only [Int32.le_iff_toInt_le, nI_e] at h; omega)) (fun h => ?_)
    rw [sp_ew] at hz
    refine am_aload_n rfl dX1_evenPair_37 ?_
    refine am_iload rfl dX1_evenPair_38 ?_
    refine am_iload rfl dX1_evenPair_40 ?_
    refine am_iconst (v := 1) (by decide) dX1_evenPair_42 ?_
    refine am_iadd dX1_evenPair_43 ?_
    refine am_callVi (c_X1_missOfPair ad M (nI t) (nI y + 1)) okX1_missOfPair ml_X1_45 (by decide) rfl rfl rfl ⟨by decide, by decide⟩ (Nat.le_of_ble_eq_true rfl) rfl dX1_evenPair_44 ?_
    refine am_aload_n rfl dX1_evenPair_47 ?_
    refine am_iload rfl dX1_evenPair_48 ?_
    refine am_iload rfl dX1_evenPair_50 ?_
    refine am_callVi (c_X1_missOfPair ad M (nI t) (nI y)) okX1_missOfPair ml_X1_45 (by decide) rfl rfl rfl ⟨by decide, by decide⟩ (Nat.le_of_ble_eq_true rfl) rfl dX1_evenPair_52 ?_
    refine am_icmp_ge (tgt := 64) (by decide) dX1_evenPair_55 (fun h55 => ?_) (fun h55 => ?_)
    · rw [nI_1] at h55
      rw [if_neg (Int32.not_lt.mpr h55)] at hz
      subst hz
      exact K
    · refine am_iinc (v := nI (y + 1)) rfl (nI_inc y) (by decide) dX1_evenPair_58 ?_
      refine am_goto (tgt := 30) (by decide) dX1_evenPair_61 ?_
      rw [nI_1] at h55
      rw [if_pos (Int32.not_le.mp h55)] at hz
      exact ih (y + 1) (by omega) hz
set_option maxRecDepth 100000 in
set_option maxHeartbeats 400000 in
theorem lp_X1_evenPair (ad : Nat → Nat) (M : am_M) (p : Int32) (r : Int32 × Int32) : ∀ (t : Nat) (bx bz : Int32) (y : Nat) (x : Int32) (nr : Option Value), x.toInt = (t : Int) - 1 → t < 1000 → y < 1000 → sp_eo M p t bx bz y = r → am_W ydX1_evenPair ad am_II (am_un (sp_put (sp_put M p r.1) ((sp_put M p r.1) 19 0 - p) r.2)) 16 [some (.ref (ad 19)), some (.int p), some (.int bx), some (.int bz), some (.int (nI y)), some (.int x), nr] [] M := by
  intro t
  induction t with
  | zero =>
    intro bx bz y x nr hx ht hy he
    refine am_iload rfl dX1_evenPair_16 ?_
    refine am_if_lt (tgt := 122) (by decide) dX1_evenPair_18 (fun h13 => ?_) (fun h13 => (by exfalso; simp only [Int32.lt_iff_toInt_lt, Int32.toInt_zero] at h13; omega))
    rw [sp_eo] at he
    subst he
    refine am_aload_n rfl dX1_evenPair_122 ?_
    refine am_iload_n rfl dX1_evenPair_123 ?_
    refine am_iload_n rfl dX1_evenPair_124 ?_
    refine am_callVv (c_X1_put ad _ _ _) okX1_put ml_X1_62 (by decide) rfl rfl rfl ⟨by decide, by decide⟩ (Nat.le_of_ble_eq_true rfl) rfl dX1_evenPair_125 ?_
    refine am_aload_n rfl dX1_evenPair_128 ?_
    refine am_aload_n rfl dX1_evenPair_129 ?_
    refine am_geti (j := 0) (by decide) rfl rfl rfl hTX1 (by decide) fl_X1_9 dX1_evenPair_130 ?_
    refine am_iload_n rfl dX1_evenPair_133 ?_
    refine am_isub dX1_evenPair_134 ?_
    refine am_iload_n rfl dX1_evenPair_135 ?_
    refine am_callVv (c_X1_put ad _ _ _) okX1_put ml_X1_62 (by decide) rfl rfl rfl ⟨by decide, by decide⟩ (Nat.le_of_ble_eq_true rfl) rfl dX1_evenPair_136 ?_
    refine am_vret rfl dX1_evenPair_139 ?_
    exact ⟨rfl, rfl⟩
  | succ t ih =>
    intro bx bz y x nr hx ht hy he
    obtain rfl : x = nI t := i_inj (by rw [nI_e]; omega)
    refine am_iload rfl dX1_evenPair_16 ?_
    refine am_if_lt (tgt := 122) (by decide) dX1_evenPair_18 (fun h13 => (by exfalso; simp only [Int32.lt_iff_toInt_lt, Int32.toInt_zero, nI_e] at h13; omega)) (fun h13 => ?_)
    rw [sp_eo] at he
    have KK : am_W ydX1_evenPair ad am_II (am_un (sp_put (sp_put M p r.1) ((sp_put M p r.1) 19 0 - p) r.2)) 64 [some (.ref (ad 19)), some (.int p), some (.int bx), some (.int bz), some (.int (nI (sp_y2 M t y))), some (.int (nI t)), nr] [] M := by
      refine am_aload_n rfl dX1_evenPair_64 ?_
      refine am_iload rfl dX1_evenPair_65 ?_
      refine am_iload rfl dX1_evenPair_67 ?_
      refine am_callVi (c_X1_missOfPair ad _ _ _) okX1_missOfPair ml_X1_45 (by decide) rfl rfl rfl ⟨by decide, by decide⟩ (Nat.le_of_ble_eq_true rfl) rfl dX1_evenPair_69 ?_
      refine am_aload_n rfl dX1_evenPair_72 ?_
      refine am_iload_n rfl dX1_evenPair_73 ?_
      refine am_iload_n rfl dX1_evenPair_74 ?_
      refine am_callVi (c_X1_missOfPair ad _ _ _) okX1_missOfPair ml_X1_45 (by decide) rfl rfl rfl ⟨by decide, by decide⟩ (Nat.le_of_ble_eq_true rfl) rfl dX1_evenPair_75 ?_
      refine am_isub dX1_evenPair_78 ?_
      refine am_istore (by decide) dX1_evenPair_79 ?_
      refine am_iload rfl dX1_evenPair_81 ?_
      refine am_if_lt (tgt := 110) (by decide) dX1_evenPair_83 (fun h83 => ?_) (fun h83 => ?_)
      · refine am_iload rfl dX1_evenPair_110 ?_
        refine am_istore_n (by decide) dX1_evenPair_112 ?_
        refine am_iload rfl dX1_evenPair_113 ?_
        refine am_istore_n (by decide) dX1_evenPair_115 ?_
        refine am_iinc rfl rfl (by decide) dX1_evenPair_116 ?_
        refine am_goto (tgt := 16) (by decide) dX1_evenPair_119 ?_
        first
        | exact ih _ _ _ _ _ (nI_dec t (by omega)) (by omega) (by have := sp_y2_le M t y; omega) (by rw [← he, if_pos (by first | exact Or.inl h83 | exact Or.inr ⟨h88, Int32.not_le.mp h107⟩)])
        | exact ih _ _ _ _ _ (nI_dec t (by omega)) (by omega) (by have := sp_y2_le M t y; omega) (by rw [← he, if_neg (fun q => by unfold sp_bet at q; rcases q with q | ⟨q1, q2⟩; exact h83 q; first | exact h88 q1 | exact absurd q2 (Int32.not_lt.mpr h107))])
      · refine am_iload rfl dX1_evenPair_86 ?_
        refine am_if_ne (tgt := 116) (by decide) dX1_evenPair_88 (fun h88 => ?_) (fun h88 => ?_)
        · refine am_iinc rfl rfl (by decide) dX1_evenPair_116 ?_
          refine am_goto (tgt := 16) (by decide) dX1_evenPair_119 ?_
          first
          | exact ih _ _ _ _ _ (nI_dec t (by omega)) (by omega) (by have := sp_y2_le M t y; omega) (by rw [← he, if_pos (by first | exact Or.inl h83 | exact Or.inr ⟨h88, Int32.not_le.mp h107⟩)])
          | exact ih _ _ _ _ _ (nI_dec t (by omega)) (by omega) (by have := sp_y2_le M t y; omega) (by rw [← he, if_neg (fun q => by unfold sp_bet at q; rcases q with q | ⟨q1, q2⟩; exact h83 q; first | exact h88 q1 | exact absurd q2 (Int32.not_lt.mpr h107))])
        · refine am_aload_n rfl dX1_evenPair_91 ?_
          refine am_iload_n rfl dX1_evenPair_92 ?_
          refine am_iload rfl dX1_evenPair_93 ?_
          refine am_iload rfl dX1_evenPair_95 ?_
          refine am_callVi (c_X1_apart ad _ _ _ _) okX1_apart ml_X1_68 (by decide) rfl rfl rfl ⟨by decide, by decide⟩ (Nat.le_of_ble_eq_true rfl) rfl dX1_evenPair_97 ?_
          refine am_aload_n rfl dX1_evenPair_100 ?_
          refine am_iload_n rfl dX1_evenPair_101 ?_
          refine am_iload_n rfl dX1_evenPair_102 ?_
          refine am_iload_n rfl dX1_evenPair_103 ?_
          refine am_callVi (c_X1_apart ad _ _ _ _) okX1_apart ml_X1_68 (by decide) rfl rfl rfl ⟨by decide, by decide⟩ (Nat.le_of_ble_eq_true rfl) rfl dX1_evenPair_104 ?_
          refine am_icmp_ge (tgt := 116) (by decide) dX1_evenPair_107 (fun h107 => ?_) (fun h107 => ?_)
          · refine am_iinc rfl rfl (by decide) dX1_evenPair_116 ?_
            refine am_goto (tgt := 16) (by decide) dX1_evenPair_119 ?_
            first
            | exact ih _ _ _ _ _ (nI_dec t (by omega)) (by omega) (by have := sp_y2_le M t y; omega) (by rw [← he, if_pos (by first | exact Or.inl h83 | exact Or.inr ⟨h88, Int32.not_le.mp h107⟩)])
            | exact ih _ _ _ _ _ (nI_dec t (by omega)) (by omega) (by have := sp_y2_le M t y; omega) (by rw [← he, if_neg (fun q => by unfold sp_bet at q; rcases q with q | ⟨q1, q2⟩; exact h83 q; first | exact h88 q1 | exact absurd q2 (Int32.not_lt.mpr h107))])
          · refine am_iload rfl dX1_evenPair_110 ?_
            refine am_istore_n (by decide) dX1_evenPair_112 ?_
            refine am_iload rfl dX1_evenPair_113 ?_
            refine am_istore_n (by decide) dX1_evenPair_115 ?_
            refine am_iinc rfl rfl (by decide) dX1_evenPair_116 ?_
            refine am_goto (tgt := 16) (by decide) dX1_evenPair_119 ?_
            first
            | exact ih _ _ _ _ _ (nI_dec t (by omega)) (by omega) (by have := sp_y2_le M t y; omega) (by rw [← he, if_pos (by first | exact Or.inl h83 | exact Or.inr ⟨h88, Int32.not_le.mp h107⟩)])
            | exact ih _ _ _ _ _ (nI_dec t (by omega)) (by omega) (by have := sp_y2_le M t y; omega) (by rw [← he, if_neg (fun q => by unfold sp_bet at q; rcases q with q | ⟨q1, q2⟩; exact h83 q; first | exact h88 q1 | exact absurd q2 (Int32.not_lt.mpr h107))])
    refine am_iload rfl dX1_evenPair_21 ?_
    refine am_iload rfl dX1_evenPair_23 ?_
    refine am_mminI ml_X1_65 (by decide) (Nat.le_of_ble_eq_true rfl) dX1_evenPair_25 ?_
    refine am_istore (by decide) dX1_evenPair_28 ?_
    rw [am_imin y t (by omega) (by omega)]
    refine lp_X1_ew ad M _ p bx bz nr t (sp_y2 M t y) (by omega) ?_ (t - min y t) (min y t) (by omega) rfl
    exact KK
set_option maxRecDepth 100000 in
set_option maxHeartbeats 400000 in
theorem c_X1_evenPair (ad : Nat → Nat) (M : am_M) (p : Int32) (hl : 0 ≤ (M 19 1).toInt ∧ (M 19 1).toInt ≤ 100) : am_C ydX1_evenPair ad am_II [.ref (ad 19), .int p] M (am_un (sp_pairs M p)) := by
  refine am_ofW (by decide +kernel) (by simp [Value.category]) (Nat.le_of_ble_eq_true rfl) rfl ?_
  refine am_aload_n rfl dX1_evenPair_0 ?_
  refine am_geti (j := 1) (by decide) rfl rfl rfl hTX1 (by decide) fl_X1_15 dX1_evenPair_1 ?_
  refine am_istore_n (by decide) dX1_evenPair_4 ?_
  refine am_iconst (v := 0) (by decide) dX1_evenPair_5 ?_
  refine am_istore_n (by decide) dX1_evenPair_6 ?_
  refine am_iconst (v := 0) (by decide) dX1_evenPair_7 ?_
  refine am_istore (by decide) dX1_evenPair_8 ?_
  refine am_aload_n rfl dX1_evenPair_10 ?_
  refine am_geti (j := 1) (by decide) rfl rfl rfl hTX1 (by decide) fl_X1_15 dX1_evenPair_11 ?_
  refine am_istore (by decide) dX1_evenPair_14 ?_
  exact lp_X1_evenPair ad M p _ ((M 19 1).toInt.toNat + 1) _ _ 0 _ _ (by omega) (by omega) (by omega) rfl
set_option maxRecDepth 100000 in
set_option maxHeartbeats 400000 in
theorem lp_X1_even (ad : Nat → Nat) (M0 r : am_M) (k : Nat) (hk : k ≤ 8) (h19 : M0 19 0 = nI k) (hl : 0 ≤ (M0 19 1).toInt ∧ (M0 19 1).toInt ≤ 100) : ∀ (n p : Nat) (M : am_M), M 19 = M0 19 → p + n = k / 2 + 1 → sp_evs k n p M = r → am_W ydX1_even ad am_II (am_un r) 2 [some (.ref (ad 19)), some (.int (nI p))] [] M := by
  intro n
  induction n with
  | zero =>
    intro p M hM hp he
    rw [sp_evs] at he
    subst he
    have e19 : M 19 0 = nI k := by rw [hM, h19]
    refine am_iconst (v := 2) (by decide) dX1_even_2 ?_
    refine am_iload_n rfl dX1_even_3 ?_
    refine am_imul dX1_even_4 ?_
    refine am_aload_n rfl dX1_even_5 ?_
    refine am_geti (j := 0) (by decide) rfl rfl rfl hTX1 (by decide) fl_X1_9 dX1_even_6 ?_
    refine am_icmp_gt (tgt := 41) (by decide) dX1_even_9 (fun h9 => ?_) (fun h9 => ?_)
    · refine am_vret rfl dX1_even_41 ?_
      exact ⟨rfl, rfl⟩
    · exfalso; rw [e19] at h9; simp only [Int32.lt_iff_toInt_lt, i_mul, kI_2, nI_e] at h9; omega
  | succ n ih =>
    intro p M hM hp he
    rw [sp_evs] at he
    have e19 : M 19 0 = nI k := by rw [hM, h19]
    have hl' : 0 ≤ (M 19 1).toInt ∧ (M 19 1).toInt ≤ 100 := by rw [hM]; exact hl
    refine am_iconst (v := 2) (by decide) dX1_even_2 ?_
    refine am_iload_n rfl dX1_even_3 ?_
    refine am_imul dX1_even_4 ?_
    refine am_aload_n rfl dX1_even_5 ?_
    refine am_geti (j := 0) (by decide) rfl rfl rfl hTX1 (by decide) fl_X1_9 dX1_even_6 ?_
    refine am_icmp_gt (tgt := 41) (by decide) dX1_even_9 (fun h9 => ?_) (fun h9 => ?_)
    · exfalso; rw [e19] at h9; simp only [Int32.lt_iff_toInt_lt, i_mul, kI_2, nI_e] at h9; omega
    · refine am_iconst (v := 2) (by decide) dX1_even_12 ?_
      refine am_iload_n rfl dX1_even_13 ?_
      refine am_imul dX1_even_14 ?_
      refine am_aload_n rfl dX1_even_15 ?_
      refine am_geti (j := 0) (by decide) rfl rfl rfl hTX1 (by decide) fl_X1_9 dX1_even_16 ?_
      refine am_icmp_ne (tgt := 30) (by decide) dX1_even_19 (fun h19e => ?_) (fun h19e => ?_)
      · refine am_aload_n rfl dX1_even_30 ?_
        refine am_iload_n rfl dX1_even_31 ?_
        refine am_callVv (c_X1_evenPair ad M _ hl') okX1_evenPair ml_X1_59 (by decide) rfl rfl rfl ⟨by decide, by decide⟩ (Nat.le_of_ble_eq_true rfl) rfl dX1_even_32 ?_
        refine am_iinc (v := nI (p + 1)) rfl (nI_inc p) (by decide) dX1_even_35 ?_
        refine am_goto (tgt := 2) (by decide) dX1_even_38 ?_
        first
        | (rw [if_pos (by rw [e19] at h19e; simp only [← Int32.toInt_inj, i_mul, kI_2, nI_e] at h19e; omega)] at he; exact ih (p + 1) _ (by rw [sp_middle_19, hM]) (by omega) he)
        | (rw [if_neg (by rw [e19] at h19e; simp only [← Int32.toInt_inj, i_mul, kI_2, nI_e] at h19e; omega)] at he; exact ih (p + 1) _ (by rw [sp_pairs_19, hM]) (by omega) he)
      · refine am_aload_n rfl dX1_even_22 ?_
        refine am_iload_n rfl dX1_even_23 ?_
        refine am_callVv (c_X1_evenMiddle ad M _ hl') okX1_evenMiddle ml_X1_55 (by decide) rfl rfl rfl ⟨by decide, by decide⟩ (Nat.le_of_ble_eq_true rfl) rfl dX1_even_24 ?_
        refine am_goto (tgt := 35) (by decide) dX1_even_27 ?_
        refine am_iinc (v := nI (p + 1)) rfl (nI_inc p) (by decide) dX1_even_35 ?_
        refine am_goto (tgt := 2) (by decide) dX1_even_38 ?_
        first
        | (rw [if_pos (by rw [e19] at h19e; simp only [← Int32.toInt_inj, i_mul, kI_2, nI_e] at h19e; omega)] at he; exact ih (p + 1) _ (by rw [sp_middle_19, hM]) (by omega) he)
        | (rw [if_neg (by rw [e19] at h19e; simp only [← Int32.toInt_inj, i_mul, kI_2, nI_e] at h19e; omega)] at he; exact ih (p + 1) _ (by rw [sp_pairs_19, hM]) (by omega) he)
set_option maxRecDepth 100000 in
set_option maxHeartbeats 400000 in
theorem c_X1_even (ad : Nat → Nat) (M : am_M)  (hp : 0 ≤ (M 19 0).toInt ∧ (M 19 0).toInt ≤ 8) (hl : 0 ≤ (M 19 1).toInt ∧ (M 19 1).toInt ≤ 100) : am_C ydX1_even ad am_II [.ref (ad 19)] M (am_un (sp_smooth M)) := by
  refine am_ofW (by decide +kernel) (by simp [Value.category]) (Nat.le_of_ble_eq_true rfl) rfl ?_
  refine am_iconst (v := 0) (by decide) dX1_even_0 ?_
  refine am_istore_n (by decide) dX1_even_1 ?_
  have hk9 : M 19 0 = nI (M 19 0).toInt.toNat := i_inj (by rw [nI_e]; omega)
  exact lp_X1_even ad M _ (M 19 0).toInt.toNat (by omega) hk9 hl _ 0 M rfl (by omega) rfl

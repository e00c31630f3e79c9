def si_one (K : am_M) (v a : Int) : am_M := am_put (am_put K 27 (sx v a) (if mo_state K (iN v) (iN a) = true ∧ mo_rest K (iN v) (iN a) = true then 0 else 1000000)) 28 (sx v a) 0
def si_a (v : Int) : Nat → Int → am_M → am_M
  | 0, _, K => K
  | n + 1, a, K => si_a v n (a + 1) (si_one K v a)
def si_v : Nat → Int → am_M → am_M
  | 0, _, K => K
  | n + 1, v, K => si_v n (v + 1) (si_a v 9 (-4) K)
def sn_t (K : am_M) (v b : Int) : Int32 := 1 + K 27 (sx (v + b) b)
def sn_s (K : am_M) (v b : Int) : Int32 := iN (v + b) + K 28 (sx (v + b) b)
def sn_skip (K : am_M) (s : Bool) (v a b : Int) : Prop := mo_go K (iN v) (iN a) (iN b) s = false ∨ 1000000 < sn_t K v b ∨ K 27 (sx v a) < sn_t K v b ∨ (sn_t K v b = K 27 (sx v a) ∧ K 28 (sx v a) ≤ sn_s K v b)
noncomputable def sn_one (s : Bool) (v a b : Int) (m : Bool × am_M) : Bool × am_M := @ite _ (sn_skip m.2 s v a b) (Classical.propDecidable _) m (true, am_put (am_put m.2 27 (sx v a) (sn_t m.2 v b)) 28 (sx v a) (sn_s m.2 v b))
noncomputable def sn_b (s : Bool) (v a : Int) : Nat → Int → Bool × am_M → Bool × am_M
  | 0, _, m => m
  | n + 1, b, m => sn_b s v a n (b + 1) (sn_one s v a b m)
noncomputable def sn_a (s : Bool) (A v : Int) : Nat → Int → Bool × am_M → Bool × am_M
  | 0, _, m => m
  | n + 1, a, m => sn_a s A v n (a + 1) (sn_b s v a (2 * A + 1).toNat (-A) m)
noncomputable def sn_v (s : Bool) (A : Int) : Nat → Int → Bool × am_M → Bool × am_M
  | 0, _, m => m
  | n + 1, v, m => sn_v s A n (v + 1) (sn_a s A v (2 * A + 1).toNat (-A) m)
/-- one pass over all states -/
noncomputable def sn_pass (s : Bool) (V A : Int) (K : am_M) : Bool × am_M := sn_v s A (V + 1).toNat 0 (false, K)
theorem si_one_ne (K : am_M) (v a : Int) {q : Nat} (h1 : q ≠ 27) (h2 : q ≠ 28) : si_one K v a q = K q := by
  unfold si_one
  rw [am_put_ne _ _ _ _ h2, am_put_ne _ _ _ _ h1]
theorem si_a_ne (v : Int) {q : Nat} (h1 : q ≠ 27) (h2 : q ≠ 28) : ∀ (n : Nat) (a : Int) (K : am_M), si_a v n a K q = K q := by
  intro n
  induction n with
  | zero => intro a K; rfl
  | succ n ih => intro a K; rw [si_a, ih, si_one_ne _ _ _ h1 h2]
theorem si_v_ne {q : Nat} (h1 : q ≠ 27) (h2 : q ≠ 28) : ∀ (n : Nat) (v : Int) (K : am_M), si_v n v K q = K q := by
  intro n
  induction n with
  | zero => intro v K; rfl
  | succ n ih => intro v K; rw [si_v, ih, si_a_ne _ h1 h2]
theorem sn_one_ne (s : Bool) (v a b : Int) (m : Bool × am_M) {q : Nat} (h1 : q ≠ 27) (h2 : q ≠ 28) : (sn_one s v a b m).2 q = m.2 q := by
  unfold sn_one
  split
  · rfl
  · dsimp only
    rw [am_put_ne _ _ _ _ h2, am_put_ne _ _ _ _ h1]
theorem sn_b_ne (s : Bool) (v a : Int) {q : Nat} (h1 : q ≠ 27) (h2 : q ≠ 28) : ∀ (n : Nat) (b : Int) (m : Bool × am_M), (sn_b s v a n b m).2 q = m.2 q := by
  intro n
  induction n with
  | zero => intro b m; rfl
  | succ n ih => intro b m; rw [sn_b, ih, sn_one_ne _ _ _ _ _ h1 h2]
theorem sn_a_ne (s : Bool) (A v : Int) {q : Nat} (h1 : q ≠ 27) (h2 : q ≠ 28) : ∀ (n : Nat) (a : Int) (m : Bool × am_M), (sn_a s A v n a m).2 q = m.2 q := by
  intro n
  induction n with
  | zero => intro a m; rfl
  | succ n ih => intro a m; rw [sn_a, ih, sn_b_ne _ _ _ h1 h2]
theorem sn_v_ne (s : Bool) (A : Int) {q : Nat} (h1 : q ≠ 27) (h2 : q ≠ 28) : ∀ (n : Nat) (v : Int) (m : Bool × am_M), (sn_v s A n v m).2 q = m.2 q := by
  intro n
  induction n with
  | zero => intro v m; rfl
  | succ n ih => intro v m; rw [sn_v, ih, sn_a_ne _ _ _ h1 h2]
theorem sp_num_in {v a : Int} (h1 : 0 ≤ v) (h2 : v ≤ 12) (h3 : -4 ≤ a) (h4 : a ≤ 4) : vp_in (nI (sx v a)) 117 ∧ (nI (sx v a)).toNatClampNeg = sx v a := by
  have := (sx_lt h1 h2 h3 h4).1
  exact ⟨vp_in_nI this (by omega), nI_clamp (by omega)⟩
set_option maxRecDepth 100000 in
set_option maxHeartbeats 400000 in
theorem lp_X7_siA (ad : Nat → Nat) (P : Option Value → am_M → Prop) (s : Bool) (v : Int) (h1 : 0 ≤ v) (h2 : v ≤ 12) (KF : am_M) (KK : ∀ l3 l4 l5 l6 l7, am_W ydX7_slows ad am_II P 79 [some (.ref (ad 21)), some (.int (bI s)), some (.int (iN v)), l3, l4, l5, l6, l7] [] KF) : ∀ (n : Nat) (a : Int) (K : am_M) (l4 l5 l6 l7 : Option Value), a + n = 5 → -4 ≤ a → si_a v n a K = KF → am_W ydX7_slows ad am_II P 11 [some (.ref (ad 21)), some (.int (bI s)), some (.int (iN v)), some (.int (iN a)), l4, l5, l6, l7] [] K := by
  intro n
  induction n with
  | zero =>
    intro a K l4 l5 l6 l7 ha h4 he
    rw [si_a] at he
    subst he
    refine am_iload_n rfl dX7_slows_11 ?_
    refine am_iconst (v := 4) (by decide) dX7_slows_12 ?_
    refine am_icmp_gt (tgt := 79) (by decide) dX7_slows_13 (fun h13 => ?_) (fun h13 => ?_)
    · exact KK _ _ _ _ _
    · exfalso; simp only [Int32.lt_iff_toInt_lt, iN_e, kI_4] at h13; omega
  | succ n ih =>
    intro a K l4 l5 l6 l7 ha h4 he
    rw [si_a] at he
    have hs := sp_num_in h1 h2 h4 (show a ≤ 4 by omega)
    have e : sp_num (iN v) (iN a) = nI (sx v a) := sp_num_e h1 h2 h4 (by omega)
    have KS : ∀ l4 l5 l6 l7, am_W ydX7_slows ad am_II P 11 [some (.ref (ad 21)), some (.int (bI s)), some (.int (iN v)), some (.int (iN (a + 1))), l4, l5, l6, l7] [] (si_one K v a) := fun l4 l5 l6 l7 => ih (a + 1) _ l4 l5 l6 l7 (by omega) (by omega) he
    have K1 : mo_state K (iN v) (iN a) = true → mo_rest K (iN v) (iN a) = true → am_put (am_put K 27 (sx v a) 0) 28 (sx v a) 0 = si_one K v a := fun q1 q2 => by
      unfold si_one
      rw [if_pos ⟨q1, q2⟩]
    have K2 : mo_state K (iN v) (iN a) = false → am_put (am_put K 27 (sx v a) 1000000) 28 (sx v a) 0 = si_one K v a := fun q1 => by
      unfold si_one
      rw [if_neg (fun q => by rw [q.1] at q1; cases q1)]
    have K3 : mo_rest K (iN v) (iN a) = false → am_put (am_put K 27 (sx v a) 1000000) 28 (sx v a) 0 = si_one K v a := fun q1 => by
      unfold si_one
      rw [if_neg (fun q => by rw [q.2] at q1; cases q1)]
    refine am_iload_n rfl dX7_slows_11 ?_
    refine am_iconst (v := 4) (by decide) dX7_slows_12 ?_
    refine am_icmp_gt (tgt := 79) (by decide) dX7_slows_13 (fun h13 => ?_) (fun h13 => ?_)
    · exfalso; simp only [Int32.lt_iff_toInt_lt, iN_e, kI_4] at h13; omega
    · refine am_aload_n rfl dX7_slows_16 ?_
      refine am_iload_n rfl dX7_slows_17 ?_
      refine am_iload_n rfl dX7_slows_18 ?_
      refine am_callVi (c_X7_isState ad _ _ _) okX7_isState ml_X7_99 (by decide) rfl rfl rfl ⟨by decide, by decide⟩ (Nat.le_of_ble_eq_true rfl) rfl dX7_slows_19 ?_
      refine am_ifb_eq (tgt := 38) (by decide) dX7_slows_22 (fun h22 => ?_) (fun h22 => ?_)
      · refine am_iconst (v := 0) (by decide) dX7_slows_38 ?_
        refine am_istore (by decide) dX7_slows_39 ?_
        refine am_aload_n rfl dX7_slows_41 ?_
        refine am_getr (j := 13) (by decide) rfl rfl rfl hTX7 (by decide) fl_X7_36 dX7_slows_42 ?_
        refine am_iload_n rfl dX7_slows_45 ?_
        refine am_iload_n rfl dX7_slows_46 ?_
        refine am_callSi (c_X7_of ad _ _ _) okX7_of ml_X7_127 rfl ⟨by decide, by decide⟩ (Nat.le_of_ble_eq_true rfl) rfl dX7_slows_47 ?_
        rw [e]
        refine am_iload rfl dX7_slows_50 ?_
        refine am_if_eq (tgt := 59) (by decide) dX7_slows_52 (fun h52 => ?_) (fun h52 => absurd h52 (by decide))
        refine am_ldc kw_105 dX7_slows_59 ?_
        refine am_iast (by decide) rfl (hs.1) dX7_slows_61 ?_
        refine am_aload_n rfl dX7_slows_62 ?_
        refine am_getr (j := 14) (by decide) rfl rfl rfl hTX7 (by decide) fl_X7_39 dX7_slows_63 ?_
        refine am_iload_n rfl dX7_slows_66 ?_
        refine am_iload_n rfl dX7_slows_67 ?_
        refine am_callSi (c_X7_of ad _ _ _) okX7_of ml_X7_127 rfl ⟨by decide, by decide⟩ (Nat.le_of_ble_eq_true rfl) rfl dX7_slows_68 ?_
        rw [e]
        refine am_iconst (v := 0) (by decide) dX7_slows_71 ?_
        refine am_iast (by decide) rfl (hs.1) dX7_slows_72 ?_
        refine am_iinc (v := iN (a + 1)) rfl (iN_inc a) (by decide) dX7_slows_73 ?_
        refine am_goto (tgt := 11) (by decide) dX7_slows_76 ?_
        rw [hs.2]
        first
        | exact am_M_eq (K1 h22 h31) (KS _ _ _ _)
        | exact am_M_eq (K2 h22) (KS _ _ _ _)
        | exact am_M_eq (K3 h31) (KS _ _ _ _)
      · refine am_aload_n rfl dX7_slows_25 ?_
        refine am_iload_n rfl dX7_slows_26 ?_
        refine am_iload_n rfl dX7_slows_27 ?_
        refine am_callVi (c_X7_isRest ad _ _ _) okX7_isRest ml_X7_106 (by decide) rfl rfl rfl ⟨by decide, by decide⟩ (Nat.le_of_ble_eq_true rfl) rfl dX7_slows_28 ?_
        refine am_ifb_eq (tgt := 38) (by decide) dX7_slows_31 (fun h31 => ?_) (fun h31 => ?_)
        · refine am_iconst (v := 0) (by decide) dX7_slows_38 ?_
          refine am_istore (by decide) dX7_slows_39 ?_
          refine am_aload_n rfl dX7_slows_41 ?_
          refine am_getr (j := 13) (by decide) rfl rfl rfl hTX7 (by decide) fl_X7_36 dX7_slows_42 ?_
          refine am_iload_n rfl dX7_slows_45 ?_
          refine am_iload_n rfl dX7_slows_46 ?_
          refine am_callSi (c_X7_of ad _ _ _) okX7_of ml_X7_127 rfl ⟨by decide, by decide⟩ (Nat.le_of_ble_eq_true rfl) rfl dX7_slows_47 ?_
          rw [e]
          refine am_iload rfl dX7_slows_50 ?_
          refine am_if_eq (tgt := 59) (by decide) dX7_slows_52 (fun h52 => ?_) (fun h52 => absurd h52 (by decide))
          refine am_ldc kw_105 dX7_slows_59 ?_
          refine am_iast (by decide) rfl (hs.1) dX7_slows_61 ?_
          refine am_aload_n rfl dX7_slows_62 ?_
          refine am_getr (j := 14) (by decide) rfl rfl rfl hTX7 (by decide) fl_X7_39 dX7_slows_63 ?_
          refine am_iload_n rfl dX7_slows_66 ?_
          refine am_iload_n rfl dX7_slows_67 ?_
          refine am_callSi (c_X7_of ad _ _ _) okX7_of ml_X7_127 rfl ⟨by decide, by decide⟩ (Nat.le_of_ble_eq_true rfl) rfl dX7_slows_68 ?_
          rw [e]
          refine am_iconst (v := 0) (by decide) dX7_slows_71 ?_
          refine am_iast (by decide) rfl (hs.1) dX7_slows_72 ?_
          refine am_iinc (v := iN (a + 1)) rfl (iN_inc a) (by decide) dX7_slows_73 ?_
          refine am_goto (tgt := 11) (by decide) dX7_slows_76 ?_
          rw [hs.2]
          first
          | exact am_M_eq (K1 h22 h31) (KS _ _ _ _)
          | exact am_M_eq (K2 h22) (KS _ _ _ _)
          | exact am_M_eq (K3 h31) (KS _ _ _ _)
        · refine am_iconst (v := 1) (by decide) dX7_slows_34 ?_
          refine am_goto (tgt := 39) (by decide) dX7_slows_35 ?_
          refine am_istore (by decide) dX7_slows_39 ?_
          refine am_aload_n rfl dX7_slows_41 ?_
          refine am_getr (j := 13) (by decide) rfl rfl rfl hTX7 (by decide) fl_X7_36 dX7_slows_42 ?_
          refine am_iload_n rfl dX7_slows_45 ?_
          refine am_iload_n rfl dX7_slows_46 ?_
          refine am_callSi (c_X7_of ad _ _ _) okX7_of ml_X7_127 rfl ⟨by decide, by decide⟩ (Nat.le_of_ble_eq_true rfl) rfl dX7_slows_47 ?_
          rw [e]
          refine am_iload rfl dX7_slows_50 ?_
          refine am_if_eq (tgt := 59) (by decide) dX7_slows_52 (fun h52 => absurd h52 (by decide)) (fun h52 => ?_)
          refine am_iconst (v := 0) (by decide) dX7_slows_55 ?_
          refine am_goto (tgt := 61) (by decide) dX7_slows_56 ?_
          refine am_iast (by decide) rfl (hs.1) dX7_slows_61 ?_
          refine am_aload_n rfl dX7_slows_62 ?_
          refine am_getr (j := 14) (by decide) rfl rfl rfl hTX7 (by decide) fl_X7_39 dX7_slows_63 ?_
          refine am_iload_n rfl dX7_slows_66 ?_
          refine am_iload_n rfl dX7_slows_67 ?_
          refine am_callSi (c_X7_of ad _ _ _) okX7_of ml_X7_127 rfl ⟨by decide, by decide⟩ (Nat.le_of_ble_eq_true rfl) rfl dX7_slows_68 ?_
          rw [e]
          refine am_iconst (v := 0) (by decide) dX7_slows_71 ?_
          refine am_iast (by decide) rfl (hs.1) dX7_slows_72 ?_
          refine am_iinc (v := iN (a + 1)) rfl (iN_inc a) (by decide) dX7_slows_73 ?_
          refine am_goto (tgt := 11) (by decide) dX7_slows_76 ?_
          rw [hs.2]
          first
          | exact am_M_eq (K1 h22 h31) (KS _ _ _ _)
          | exact am_M_eq (K2 h22) (KS _ _ _ _)
          | exact am_M_eq (K3 h31) (KS _ _ _ _)
set_option maxRecDepth 100000 in
set_option maxHeartbeats 400000 in
theorem lp_X7_siV (ad : Nat → Nat) (P : Option Value → am_M → Prop) (s : Bool) (KF : am_M) (KK : ∀ l2 l3 l4 l5 l6 l7, am_W ydX7_slows ad am_II P 85 [some (.ref (ad 21)), some (.int (bI s)), l2, l3, l4, l5, l6, l7] [] KF) : ∀ (n : Nat) (v : Int) (K : am_M) (l3 l4 l5 l6 l7 : Option Value), v + n = 13 → 0 ≤ v → si_v n v K = KF → am_W ydX7_slows ad am_II P 2 [some (.ref (ad 21)), some (.int (bI s)), some (.int (iN v)), l3, l4, l5, l6, l7] [] K := by
  intro n
  induction n with
  | zero =>
    intro v K l3 l4 l5 l6 l7 hv h0 he
    rw [si_v] at he
    subst he
    refine am_iload_n rfl dX7_slows_2 ?_
    refine am_bipush (v := 13) (by decide) dX7_slows_3 ?_
    refine am_icmp_ge (tgt := 85) (by decide) dX7_slows_5 (fun h5 => ?_) (fun h5 => ?_)
    · exact KK _ _ _ _ _ _
    · exfalso; simp only [Int32.le_iff_toInt_le, iN_e, kI_13] at h5; omega
  | succ n ih =>
    intro v K l3 l4 l5 l6 l7 hv h0 he
    rw [si_v] at he
    refine am_iload_n rfl dX7_slows_2 ?_
    refine am_bipush (v := 13) (by decide) dX7_slows_3 ?_
    refine am_icmp_ge (tgt := 85) (by decide) dX7_slows_5 (fun h5 => ?_) (fun h5 => ?_)
    · exfalso; simp only [Int32.le_iff_toInt_le, iN_e, kI_13] at h5; omega
    · refine am_bipush (v := (-4)) (by decide) dX7_slows_8 ?_
      refine am_istore_n (by decide) dX7_slows_10 ?_
      refine lp_X7_siA ad P s v h0 (by omega) _ (fun l3 l4 l5 l6 l7 => ?_) 9 (-4) K _ _ _ _ (by omega) (by omega) rfl
      refine am_iinc (v := iN (v + 1)) rfl (iN_inc v) (by decide) dX7_slows_79 ?_
      refine am_goto (tgt := 2) (by decide) dX7_slows_82 ?_
      exact ih (v + 1) _ _ _ _ _ _ (by omega) (by omega) he
set_option maxRecDepth 100000 in
set_option maxHeartbeats 400000 in
theorem lp_X7_snB (ad : Nat → Nat) (P : Option Value → am_M → Prop) (s : Bool) (v a A : Int) (hA1 : 1 ≤ A) (hA : A ≤ 4) (h1 : 0 ≤ v) (h2 : v ≤ 12) (h3 : -4 ≤ a) (h4 : a ≤ 4) (KF : Bool × am_M) (KK : ∀ l5 l6 l7, am_W ydX7_slows ad am_II P 282 [some (.ref (ad 21)), some (.int (bI s)), some (.int (bI KF.1)), some (.int (iN v)), some (.int (iN a)), l5, l6, l7] [] KF.2) : ∀ (n : Nat) (b : Int) (m : Bool × am_M) (l6 l7 : Option Value), b + n = A + 1 → -A ≤ b → mRI m.2 → mA m.2 = A → sn_b s v a n b m = KF → am_W ydX7_slows ad am_II P 126 [some (.ref (ad 21)), some (.int (bI s)), some (.int (bI m.1)), some (.int (iN v)), some (.int (iN a)), some (.int (iN b)), l6, l7] [] m.2 := by
  intro n
  induction n with
  | zero =>
    intro b m l6 l7 hb h0 hR hAm he
    have e2 : m.2 21 2 = iN A := by (rw [← hAm]; exact (iN_self _).symm)
    rw [sn_b] at he
    subst he
    refine am_iload rfl dX7_slows_126 ?_
    refine am_aload_n rfl dX7_slows_128 ?_
    refine am_geti (j := 2) (by decide) rfl rfl rfl hTX7 (by decide) fl_X7_13 dX7_slows_129 ?_
    rw [e2]
    refine am_icmp_gt (tgt := 282) (by decide) dX7_slows_132 (fun h132 => ?_) (fun h132 => ?_)
    · exact KK _ _ _
    · exfalso; simp only [Int32.lt_iff_toInt_lt, iN_e] at h132; omega
  | succ n ih =>
    intro b m l6 l7 hb h0 hR hAm he
    have e2 : m.2 21 2 = iN A := by (rw [← hAm]; exact (iN_self _).symm)
    rw [sn_b] at he
    have hs := sp_num_in h1 h2 h3 h4
    have e : sp_num (iN v) (iN a) = nI (sx v a) := sp_num_e h1 h2 h3 h4
    have hgo := mo_go_iff hR (v := v) (a := a) (b := b) (s := s) (by omega) (by omega) (by omega) (by omega) (by omega) (by omega)
    have hV := hR.V.1
    have hrk : ∀ m2 : Bool × am_M, m2.2 21 = m.2 21 → mRI m2.2 ∧ mA m2.2 = A := fun m2 h => ⟨hR.cong h, by unfold mA at hAm ⊢; rw [h]; exact hAm⟩
    have KSk : sn_skip m.2 s v a b → ∀ l6 l7, am_W ydX7_slows ad am_II P 126 [some (.ref (ad 21)), some (.int (bI s)), some (.int (bI m.1)), some (.int (iN v)), some (.int (iN a)), some (.int (iN (b + 1))), l6, l7] [] m.2 := by
      intro q l6 l7
      have e9 : sn_one s v a b m = m := (by unfold sn_one; rw [if_pos q])
      rw [e9] at he
      exact ih (b + 1) m l6 l7 (by omega) (by omega) hR hAm he
    have KDo : ¬ sn_skip m.2 s v a b → ∀ l6 l7, am_W ydX7_slows ad am_II P 126 [some (.ref (ad 21)), some (.int (bI s)), some (.int (bI true)), some (.int (iN v)), some (.int (iN a)), some (.int (iN (b + 1))), l6, l7] [] (am_put (am_put m.2 27 (sx v a) (sn_t m.2 v b)) 28 (sx v a) (sn_s m.2 v b)) := by
      intro q l6 l7
      have e9 : sn_one s v a b m = (true, am_put (am_put m.2 27 (sx v a) (sn_t m.2 v b)) 28 (sx v a) (sn_s m.2 v b)) := (by unfold sn_one; rw [if_neg q])
      rw [e9] at he
      have h9 := hrk (true, am_put (am_put m.2 27 (sx v a) (sn_t m.2 v b)) 28 (sx v a) (sn_s m.2 v b)) (by dsimp only; rw [am_put_ne _ _ _ _ (by decide), am_put_ne _ _ _ _ (by decide)])
      exact ih (b + 1) _ l6 l7 (by omega) (by omega) h9.1 h9.2 he
    have KD4 : mo_go m.2 (iN v) (iN a) (iN b) s = true → ¬ 1000000 < sn_t m.2 v b → ¬ m.2 27 (sx v a) < sn_t m.2 v b → ¬ (sn_t m.2 v b = m.2 27 (sx v a) ∧ m.2 28 (sx v a) ≤ sn_s m.2 v b) → ¬ sn_skip m.2 s v a b := fun q1 q2 q3 q4 q => by
      rcases q with q | q | q | q
      · rw [q1] at q; cases q
      · exact q2 q
      · exact q3 q
      · exact q4 q
    refine am_iload rfl dX7_slows_126 ?_
    refine am_aload_n rfl dX7_slows_128 ?_
    refine am_geti (j := 2) (by decide) rfl rfl rfl hTX7 (by decide) fl_X7_13 dX7_slows_129 ?_
    rw [e2]
    refine am_icmp_gt (tgt := 282) (by decide) dX7_slows_132 (fun h132 => ?_) (fun h132 => ?_)
    · exfalso; simp only [Int32.lt_iff_toInt_lt, iN_e] at h132; omega
    · refine am_aload_n rfl dX7_slows_135 ?_
      refine am_iload_n rfl dX7_slows_136 ?_
      refine am_iload rfl dX7_slows_137 ?_
      refine am_iload rfl dX7_slows_139 ?_
      refine am_iload_n rfl dX7_slows_141 ?_
      refine am_callVi (c_X7_mayGo ad m.2 (iN v) (iN a) (iN b) s hR.2.1) okX7_mayGo ml_X7_113 (by decide) rfl rfl rfl ⟨by decide, by decide⟩ (Nat.le_of_ble_eq_true rfl) rfl dX7_slows_142 ?_
      refine am_ifb_ne (tgt := 151) (by decide) dX7_slows_145 (fun h145 => ?_) (fun h145 => ?_)
      · have hg := hgo.mp h145
        have hst := (mo_state_iff hR (v := v + b) (a := b) (by omega) (by omega) (by omega) (by omega)).mp (by have h9 := hg.2; unfold me_E at h9; rw [decide_eq_true_eq] at h9; exact h9.1)
        have hs2 := sp_num_in (v := v + b) (a := b) (by omega) (by omega) (by omega) (by omega)
        have ee2 : sp_num (iN (v + b)) (iN b) = nI (sx (v + b) b) := sp_num_e (by omega) (by omega) (by omega) (by omega)
        refine am_iconst (v := 1) (by decide) dX7_slows_151 ?_
        refine am_aload_n rfl dX7_slows_152 ?_
        refine am_getr (j := 13) (by decide) rfl rfl rfl hTX7 (by decide) fl_X7_36 dX7_slows_153 ?_
        refine am_iload_n rfl dX7_slows_156 ?_
        refine am_iload rfl dX7_slows_157 ?_
        refine am_iadd dX7_slows_159 ?_
        rw [iN_add]
        refine am_iload rfl dX7_slows_160 ?_
        refine am_callSi (c_X7_of ad _ _ _) okX7_of ml_X7_127 rfl ⟨by decide, by decide⟩ (Nat.le_of_ble_eq_true rfl) rfl dX7_slows_162 ?_
        rw [ee2]
        refine am_iald (by decide) rfl (hs2.1) dX7_slows_165 ?_
        rw [hs2.2]
        refine am_iadd dX7_slows_166 ?_
        refine am_istore (by decide) dX7_slows_167 ?_
        refine am_iload_n rfl dX7_slows_169 ?_
        refine am_iload rfl dX7_slows_170 ?_
        refine am_iadd dX7_slows_172 ?_
        rw [iN_add]
        refine am_aload_n rfl dX7_slows_173 ?_
        refine am_getr (j := 14) (by decide) rfl rfl rfl hTX7 (by decide) fl_X7_39 dX7_slows_174 ?_
        refine am_iload_n rfl dX7_slows_177 ?_
        refine am_iload rfl dX7_slows_178 ?_
        refine am_iadd dX7_slows_180 ?_
        rw [iN_add]
        refine am_iload rfl dX7_slows_181 ?_
        refine am_callSi (c_X7_of ad _ _ _) okX7_of ml_X7_127 rfl ⟨by decide, by decide⟩ (Nat.le_of_ble_eq_true rfl) rfl dX7_slows_183 ?_
        rw [ee2]
        refine am_iald (by decide) rfl (hs2.1) dX7_slows_186 ?_
        rw [hs2.2]
        refine am_iadd dX7_slows_187 ?_
        refine am_istore (by decide) dX7_slows_188 ?_
        refine am_iload rfl dX7_slows_190 ?_
        refine am_ldc kw_105 dX7_slows_192 ?_
        refine am_icmp_gt (tgt := 276) (by decide) dX7_slows_194 (fun h194 => ?_) (fun h194 => ?_)
        · refine am_iinc (v := iN (b + 1)) rfl (iN_inc b) (by decide) dX7_slows_276 ?_
          refine am_goto (tgt := 126) (by decide) dX7_slows_279 ?_
          first
          | exact KSk (Or.inl h145) _ _
          | exact KSk (Or.inr (Or.inl h194)) _ _
          | exact KSk (Or.inr (Or.inr (Or.inl h210))) _ _
          | exact KSk (Or.inr (Or.inr (Or.inr ⟨h226, Int32.not_lt.mp h242⟩))) _ _
          | exact am_M_eq (by rw [hs.2]; rfl) (KDo (KD4 h145 h194 h210 (fun q => h226 q.1)) _ _)
          | exact am_M_eq (by rw [hs.2]; rfl) (KDo (KD4 h145 h194 h210 (fun q => absurd h242 (Int32.not_lt.mpr q.2))) _ _)
        · refine am_iload rfl dX7_slows_197 ?_
          refine am_aload_n rfl dX7_slows_199 ?_
          refine am_getr (j := 13) (by decide) rfl rfl rfl hTX7 (by decide) fl_X7_36 dX7_slows_200 ?_
          refine am_iload_n rfl dX7_slows_203 ?_
          refine am_iload rfl dX7_slows_204 ?_
          refine am_callSi (c_X7_of ad _ _ _) okX7_of ml_X7_127 rfl ⟨by decide, by decide⟩ (Nat.le_of_ble_eq_true rfl) rfl dX7_slows_206 ?_
          rw [e]
          refine am_iald (by decide) rfl (hs.1) dX7_slows_209 ?_
          rw [hs.2]
          refine am_icmp_gt (tgt := 276) (by decide) dX7_slows_210 (fun h210 => ?_) (fun h210 => ?_)
          · refine am_iinc (v := iN (b + 1)) rfl (iN_inc b) (by decide) dX7_slows_276 ?_
            refine am_goto (tgt := 126) (by decide) dX7_slows_279 ?_
            first
            | exact KSk (Or.inl h145) _ _
            | exact KSk (Or.inr (Or.inl h194)) _ _
            | exact KSk (Or.inr (Or.inr (Or.inl h210))) _ _
            | exact KSk (Or.inr (Or.inr (Or.inr ⟨h226, Int32.not_lt.mp h242⟩))) _ _
            | exact am_M_eq (by rw [hs.2]; rfl) (KDo (KD4 h145 h194 h210 (fun q => h226 q.1)) _ _)
            | exact am_M_eq (by rw [hs.2]; rfl) (KDo (KD4 h145 h194 h210 (fun q => absurd h242 (Int32.not_lt.mpr q.2))) _ _)
          · refine am_iload rfl dX7_slows_213 ?_
            refine am_aload_n rfl dX7_slows_215 ?_
            refine am_getr (j := 13) (by decide) rfl rfl rfl hTX7 (by decide) fl_X7_36 dX7_slows_216 ?_
            refine am_iload_n rfl dX7_slows_219 ?_
            refine am_iload rfl dX7_slows_220 ?_
            refine am_callSi (c_X7_of ad _ _ _) okX7_of ml_X7_127 rfl ⟨by decide, by decide⟩ (Nat.le_of_ble_eq_true rfl) rfl dX7_slows_222 ?_
            rw [e]
            refine am_iald (by decide) rfl (hs.1) dX7_slows_225 ?_
            rw [hs.2]
            refine am_icmp_ne (tgt := 248) (by decide) dX7_slows_226 (fun h226 => ?_) (fun h226 => ?_)
            · refine am_aload_n rfl dX7_slows_248 ?_
              refine am_getr (j := 13) (by decide) rfl rfl rfl hTX7 (by decide) fl_X7_36 dX7_slows_249 ?_
              refine am_iload_n rfl dX7_slows_252 ?_
              refine am_iload rfl dX7_slows_253 ?_
              refine am_callSi (c_X7_of ad _ _ _) okX7_of ml_X7_127 rfl ⟨by decide, by decide⟩ (Nat.le_of_ble_eq_true rfl) rfl dX7_slows_255 ?_
              rw [e]
              refine am_iload rfl dX7_slows_258 ?_
              refine am_iast (by decide) rfl (hs.1) dX7_slows_260 ?_
              refine am_aload_n rfl dX7_slows_261 ?_
              refine am_getr (j := 14) (by decide) rfl rfl rfl hTX7 (by decide) fl_X7_39 dX7_slows_262 ?_
              refine am_iload_n rfl dX7_slows_265 ?_
              refine am_iload rfl dX7_slows_266 ?_
              refine am_callSi (c_X7_of ad _ _ _) okX7_of ml_X7_127 rfl ⟨by decide, by decide⟩ (Nat.le_of_ble_eq_true rfl) rfl dX7_slows_268 ?_
              rw [e]
              refine am_iload rfl dX7_slows_271 ?_
              refine am_iast (by decide) rfl (hs.1) dX7_slows_273 ?_
              refine am_iconst (v := 1) (by decide) dX7_slows_274 ?_
              refine am_istore_n (by decide) dX7_slows_275 ?_
              refine am_iinc (v := iN (b + 1)) rfl (iN_inc b) (by decide) dX7_slows_276 ?_
              refine am_goto (tgt := 126) (by decide) dX7_slows_279 ?_
              first
              | exact KSk (Or.inl h145) _ _
              | exact KSk (Or.inr (Or.inl h194)) _ _
              | exact KSk (Or.inr (Or.inr (Or.inl h210))) _ _
              | exact KSk (Or.inr (Or.inr (Or.inr ⟨h226, Int32.not_lt.mp h242⟩))) _ _
              | exact am_M_eq (by rw [hs.2]; rfl) (KDo (KD4 h145 h194 h210 (fun q => h226 q.1)) _ _)
              | exact am_M_eq (by rw [hs.2]; rfl) (KDo (KD4 h145 h194 h210 (fun q => absurd h242 (Int32.not_lt.mpr q.2))) _ _)
            · refine am_iload rfl dX7_slows_229 ?_
              refine am_aload_n rfl dX7_slows_231 ?_
              refine am_getr (j := 14) (by decide) rfl rfl rfl hTX7 (by decide) fl_X7_39 dX7_slows_232 ?_
              refine am_iload_n rfl dX7_slows_235 ?_
              refine am_iload rfl dX7_slows_236 ?_
              refine am_callSi (c_X7_of ad _ _ _) okX7_of ml_X7_127 rfl ⟨by decide, by decide⟩ (Nat.le_of_ble_eq_true rfl) rfl dX7_slows_238 ?_
              rw [e]
              refine am_iald (by decide) rfl (hs.1) dX7_slows_241 ?_
              rw [hs.2]
              refine am_icmp_lt (tgt := 248) (by decide) dX7_slows_242 (fun h242 => ?_) (fun h242 => ?_)
              · refine am_aload_n rfl dX7_slows_248 ?_
                refine am_getr (j := 13) (by decide) rfl rfl rfl hTX7 (by decide) fl_X7_36 dX7_slows_249 ?_
                refine am_iload_n rfl dX7_slows_252 ?_
                refine am_iload rfl dX7_slows_253 ?_
                refine am_callSi (c_X7_of ad _ _ _) okX7_of ml_X7_127 rfl ⟨by decide, by decide⟩ (Nat.le_of_ble_eq_true rfl) rfl dX7_slows_255 ?_
                rw [e]
                refine am_iload rfl dX7_slows_258 ?_
                refine am_iast (by decide) rfl (hs.1) dX7_slows_260 ?_
                refine am_aload_n rfl dX7_slows_261 ?_
                refine am_getr (j := 14) (by decide) rfl rfl rfl hTX7 (by decide) fl_X7_39 dX7_slows_262 ?_
                refine am_iload_n rfl dX7_slows_265 ?_
                refine am_iload rfl dX7_slows_266 ?_
                refine am_callSi (c_X7_of ad _ _ _) okX7_of ml_X7_127 rfl ⟨by decide, by decide⟩ (Nat.le_of_ble_eq_true rfl) rfl dX7_slows_268 ?_
                rw [e]
                refine am_iload rfl dX7_slows_271 ?_
                refine am_iast (by decide) rfl (hs.1) dX7_slows_273 ?_
                refine am_iconst (v := 1) (by decide) dX7_slows_274 ?_
                refine am_istore_n (by decide) dX7_slows_275 ?_
                refine am_iinc (v := iN (b + 1)) rfl (iN_inc b) (by decide) dX7_slows_276 ?_
                refine am_goto (tgt := 126) (by decide) dX7_slows_279 ?_
                first
                | exact KSk (Or.inl h145) _ _
                | exact KSk (Or.inr (Or.inl h194)) _ _
                | exact KSk (Or.inr (Or.inr (Or.inl h210))) _ _
                | exact KSk (Or.inr (Or.inr (Or.inr ⟨h226, Int32.not_lt.mp h242⟩))) _ _
                | exact am_M_eq (by rw [hs.2]; rfl) (KDo (KD4 h145 h194 h210 (fun q => h226 q.1)) _ _)
                | exact am_M_eq (by rw [hs.2]; rfl) (KDo (KD4 h145 h194 h210 (fun q => absurd h242 (Int32.not_lt.mpr q.2))) _ _)
              · refine am_goto (tgt := 276) (by decide) dX7_slows_245 ?_
                refine am_iinc (v := iN (b + 1)) rfl (iN_inc b) (by decide) dX7_slows_276 ?_
                refine am_goto (tgt := 126) (by decide) dX7_slows_279 ?_
                first
                | exact KSk (Or.inl h145) _ _
                | exact KSk (Or.inr (Or.inl h194)) _ _
                | exact KSk (Or.inr (Or.inr (Or.inl h210))) _ _
                | exact KSk (Or.inr (Or.inr (Or.inr ⟨h226, Int32.not_lt.mp h242⟩))) _ _
                | exact am_M_eq (by rw [hs.2]; rfl) (KDo (KD4 h145 h194 h210 (fun q => h226 q.1)) _ _)
                | exact am_M_eq (by rw [hs.2]; rfl) (KDo (KD4 h145 h194 h210 (fun q => absurd h242 (Int32.not_lt.mpr q.2))) _ _)
      · refine am_goto (tgt := 276) (by decide) dX7_slows_148 ?_
        refine am_iinc (v := iN (b + 1)) rfl (iN_inc b) (by decide) dX7_slows_276 ?_
        refine am_goto (tgt := 126) (by decide) dX7_slows_279 ?_
        first
        | exact KSk (Or.inl h145) _ _
        | exact KSk (Or.inr (Or.inl h194)) _ _
        | exact KSk (Or.inr (Or.inr (Or.inl h210))) _ _
        | exact KSk (Or.inr (Or.inr (Or.inr ⟨h226, Int32.not_lt.mp h242⟩))) _ _
        | exact am_M_eq (by rw [hs.2]; rfl) (KDo (KD4 h145 h194 h210 (fun q => h226 q.1)) _ _)
        | exact am_M_eq (by rw [hs.2]; rfl) (KDo (KD4 h145 h194 h210 (fun q => absurd h242 (Int32.not_lt.mpr q.2))) _ _)

def ms_far (L x y : Int32) : Int32 := iabs (x * x + y * y - L * L)
def ms_off (n p x y : Int32) : Int32 := iabs (x * p - y * (n - p))
abbrev ms_S : Type := Int32 × Int32 × am_M
def ms_one (n L p x y : Int32) (s : ms_S) : ms_S := if (2 * p = n ∧ ¬ x = y) ∨ s.1 < ms_far L x y ∨ (ms_far L x y = s.1 ∧ s.2.1 ≤ ms_off n p x y) then s else (ms_far L x y, ms_off n p x y, am_put (am_put s.2.2 36 p.toNatClampNeg x) 36 (n - p).toNatClampNeg y)
def ms_y (n L p x : Int32) : Nat → Nat → ms_S → ms_S
  | 0, _, s => s
  | c + 1, y, s => ms_y n L p x c (y + 1) (ms_one n L p x (nI y) s)
def ms_x (n L p : Int32) : Nat → ms_S → ms_S
  | 0, s => s
  | t + 1, s => ms_x n L p t (ms_y n L p (nI t) (t + 1) 0 s)
def ms_p (n L : Int32) : Nat → Nat → am_M → am_M
  | 0, _, M => M
  | c + 1, p, M => ms_p n L c (p + 1) (ms_x n L (nI p) (L.toInt.toNat + 1) (1000000, 1000000, M)).2.2
theorem ms_one_21 (n L p x y : Int32) (s : ms_S) {a : Nat} (h : a ≠ 36) : (ms_one n L p x y s).2.2 a = s.2.2 a := by
  unfold ms_one
  split
  · rfl
  · dsimp only
    rw [am_put_ne _ _ _ _ h, am_put_ne _ _ _ _ h]
theorem ms_y_21 (n L p x : Int32) {a : Nat} (h : a ≠ 36) : ∀ (c y : Nat) (s : ms_S), (ms_y n L p x c y s).2.2 a = s.2.2 a := by
  intro c
  induction c with
  | zero => intro y s; rfl
  | succ c ih => intro y s; rw [ms_y, ih, ms_one_21 _ _ _ _ _ _ h]
theorem ms_x_21 (n L p : Int32) {a : Nat} (h : a ≠ 36) : ∀ (t : Nat) (s : ms_S), (ms_x n L p t s).2.2 a = s.2.2 a := by
  intro t
  induction t with
  | zero => intro s; rfl
  | succ t ih => intro s; rw [ms_x, ih, ms_y_21 _ _ _ _ h]
theorem ms_p_21 (n L : Int32) {a : Nat} (h : a ≠ 36) : ∀ (c p : Nat) (M : am_M), ms_p n L c p M a = M a := by
  intro c
  induction c with
  | zero => intro p M; rfl
  | succ c ih => intro p M; rw [ms_p, ih, ms_x_21 _ _ _ h]
set_option maxRecDepth 100000 in
set_option maxHeartbeats 400000 in
theorem lp_X7_smY (ad : Nat → Nat) (n L : Int32) (k : Nat) (hk : k ≤ 8) (hn : n = nI k) (p : Nat) (hp : 2 * p ≤ k) (P : Option Value → am_M → Prop) (t : Nat) (ht : t < 1000) (r : ms_S) (KK : ∀ n5 n6 n7, am_W ydX7_smooth ad am_II P 163 [some (.ref (ad 21)), some (.int (nI p)), some (.int r.1), some (.int r.2.1), some (.int (nI t)), n5, n6, n7] [] r.2.2) : ∀ (c y : Nat) (s : ms_S) (n6 n7 : Option Value), y + c = t + 1 → s.2.2 21 34 = n → s.2.2 21 35 = L → ms_y n L (nI p) (nI t) c y s = r → am_W ydX7_smooth ad am_II P 37 [some (.ref (ad 21)), some (.int (nI p)), some (.int s.1), some (.int s.2.1), some (.int (nI t)), some (.int (nI y)), n6, n7] [] s.2.2 := by
  intro c
  induction c with
  | zero =>
    intro y s n6 n7 hy e1 e2 he
    rw [ms_y] at he
    subst he
    refine am_iload rfl dX7_smooth_37 ?_
    refine am_iload rfl dX7_smooth_39 ?_
    refine am_icmp_gt (tgt := 163) (by decide) dX7_smooth_41 (fun h => ?_) (fun h => (by exfalso; simp only [Int32.lt_iff_toInt_lt, nI_e] at h; omega))
    exact KK _ _ _
  | succ c ih =>
    intro y s n6 n7 hy e1 e2 he
    rw [ms_y] at he
    have hv1 : vp_in (nI p) 9 := vp_in_nI (by omega) (by omega)
    have hv2 : vp_in (n - nI p) 9 := by rw [hn]; exact am_vpI (by simp only [i_sub, nI_e]; omega) (by simp only [i_sub, nI_e]; omega)
    have K1 : 2 * nI p = n → ¬ nI t = nI y → ∀ n6 n7, am_W ydX7_smooth ad am_II P 37 [some (.ref (ad 21)), some (.int (nI p)), some (.int (s.1)), some (.int (s.2.1)), some (.int (nI t)), some (.int (nI (y + 1))), n6, n7] [] s.2.2 := by
      intro q1 q2 n6 n7
      have hs : ms_one n L (nI p) (nI t) (nI y) s = s := if_pos (Or.inl ⟨q1, q2⟩)
      rw [hs] at he
      exact ih (y + 1) s _ _ (by omega) e1 e2 he
    have K2 : s.1 < ms_far L (nI t) (nI y) → ∀ n6 n7, am_W ydX7_smooth ad am_II P 37 [some (.ref (ad 21)), some (.int (nI p)), some (.int (s.1)), some (.int (s.2.1)), some (.int (nI t)), some (.int (nI (y + 1))), n6, n7] [] s.2.2 := by
      intro q1 n6 n7
      have hs : ms_one n L (nI p) (nI t) (nI y) s = s := if_pos (Or.inr (Or.inl q1))
      rw [hs] at he
      exact ih (y + 1) s _ _ (by omega) e1 e2 he
    have K3 : ms_far L (nI t) (nI y) = s.1 → s.2.1 ≤ ms_off n (nI p) (nI t) (nI y) → ∀ n6 n7, am_W ydX7_smooth ad am_II P 37 [some (.ref (ad 21)), some (.int (nI p)), some (.int (s.1)), some (.int (s.2.1)), some (.int (nI t)), some (.int (nI (y + 1))), n6, n7] [] s.2.2 := by
      intro q1 q2 n6 n7
      have hs : ms_one n L (nI p) (nI t) (nI y) s = s := if_pos (Or.inr (Or.inr ⟨q1, q2⟩))
      rw [hs] at he
      exact ih (y + 1) s _ _ (by omega) e1 e2 he
    have K4 : ¬ (2 * nI p = n ∧ ¬ nI t = nI y) → ¬ s.1 < ms_far L (nI t) (nI y) → ¬ (ms_far L (nI t) (nI y) = s.1 ∧ s.2.1 ≤ ms_off n (nI p) (nI t) (nI y)) → ∀ n6 n7, am_W ydX7_smooth ad am_II P 37 [some (.ref (ad 21)), some (.int (nI p)), some (.int (ms_far L (nI t) (nI y))), some (.int (ms_off n (nI p) (nI t) (nI y))), some (.int (nI t)), some (.int (nI (y + 1))), n6, n7] [] (am_put (am_put s.2.2 36 (nI p).toNatClampNeg (nI t)) 36 (n - nI p).toNatClampNeg (nI y)) := by
      intro q1 q2 q3 n6 n7
      have hs : ms_one n L (nI p) (nI t) (nI y) s = (ms_far L (nI t) (nI y), ms_off n (nI p) (nI t) (nI y), am_put (am_put s.2.2 36 (nI p).toNatClampNeg (nI t)) 36 (n - nI p).toNatClampNeg (nI y)) := if_neg (fun q => q.elim q1 (fun q => q.elim q2 q3))
      rw [hs] at he
      exact ih (y + 1) _ _ _ (by omega) (by dsimp only; rw [am_put_ne _ _ _ _ (by decide), am_put_ne _ _ _ _ (by decide)]; exact e1) (by dsimp only; rw [am_put_ne _ _ _ _ (by decide), am_put_ne _ _ _ _ (by decide)]; exact e2) he
    refine am_iload rfl dX7_smooth_37 ?_
    refine am_iload rfl dX7_smooth_39 ?_
    refine am_icmp_gt (tgt := 163) (by decide) dX7_smooth_41 (fun h => (by exfalso; simp only [Int32.lt_iff_toInt_lt, nI_e] at h; omega)) (fun h => ?_)
    refine am_iconst (v := 2) (by decide) dX7_smooth_44 ?_
    refine am_iload_n rfl dX7_smooth_45 ?_
    refine am_imul dX7_smooth_46 ?_
    refine am_aload_n rfl dX7_smooth_47 ?_
    refine am_geti (j := 34) (by decide) rfl rfl rfl hTX7 (by decide) fl_X7_174 dX7_smooth_48 ?_
    rw [e1]
    refine am_icmp_ne (tgt := 64) (by decide) dX7_smooth_51 (fun h51 => ?_) (fun h51 => ?_)
    · refine am_iload rfl dX7_smooth_64 ?_
      refine am_iload rfl dX7_smooth_66 ?_
      refine am_imul dX7_smooth_68 ?_
      refine am_iload rfl dX7_smooth_69 ?_
      refine am_iload rfl dX7_smooth_71 ?_
      refine am_imul dX7_smooth_73 ?_
      refine am_iadd dX7_smooth_74 ?_
      refine am_aload_n rfl dX7_smooth_75 ?_
      refine am_geti (j := 35) (by decide) rfl rfl rfl hTX7 (by decide) fl_X7_177 dX7_smooth_76 ?_
      refine am_aload_n rfl dX7_smooth_79 ?_
      refine am_geti (j := 35) (by decide) rfl rfl rfl hTX7 (by decide) fl_X7_177 dX7_smooth_80 ?_
      refine am_imul dX7_smooth_83 ?_
      rw [e2]
      refine am_isub dX7_smooth_84 ?_
      refine am_mabsI ml_X7_93 (by decide) (Nat.le_of_ble_eq_true rfl) dX7_smooth_85 ?_
      refine am_istore (by decide) dX7_smooth_88 ?_
      refine am_iload rfl dX7_smooth_90 ?_
      refine am_iload_n rfl dX7_smooth_92 ?_
      refine am_imul dX7_smooth_93 ?_
      refine am_iload rfl dX7_smooth_94 ?_
      refine am_aload_n rfl dX7_smooth_96 ?_
      refine am_geti (j := 34) (by decide) rfl rfl rfl hTX7 (by decide) fl_X7_174 dX7_smooth_97 ?_
      refine am_iload_n rfl dX7_smooth_100 ?_
      rw [e1]
      refine am_isub dX7_smooth_101 ?_
      refine am_imul dX7_smooth_102 ?_
      refine am_isub dX7_smooth_103 ?_
      refine am_mabsI ml_X7_93 (by decide) (Nat.le_of_ble_eq_true rfl) dX7_smooth_104 ?_
      refine am_istore (by decide) dX7_smooth_107 ?_
      refine am_iload rfl dX7_smooth_109 ?_
      refine am_iload_n rfl dX7_smooth_111 ?_
      refine am_icmp_gt (tgt := 157) (by decide) dX7_smooth_112 (fun h112 => ?_) (fun h112 => ?_)
      · refine am_iinc (v := nI (y + 1)) rfl (nI_inc y) (by decide) dX7_smooth_157 ?_
        refine am_goto (tgt := 37) (by decide) dX7_smooth_160 ?_
        first
        | exact K1 h51 h58 _ _
        | exact K2 h112 _ _
        | exact K3 h118 (Int32.not_lt.mp h124) _ _
        | exact K4 (fun q => h51 q.1) h112 (fun q => h118 q.1) _ _
        | exact K4 (fun q => h51 q.1) h112 (fun q => absurd h124 (Int32.not_lt.mpr q.2)) _ _
        | exact K4 (fun q => q.2 h58) h112 (fun q => h118 q.1) _ _
        | exact K4 (fun q => q.2 h58) h112 (fun q => absurd h124 (Int32.not_lt.mpr q.2)) _ _
      · refine am_iload rfl dX7_smooth_115 ?_
        refine am_iload_n rfl dX7_smooth_117 ?_
        refine am_icmp_ne (tgt := 130) (by decide) dX7_smooth_118 (fun h118 => ?_) (fun h118 => ?_)
        · refine am_iload rfl dX7_smooth_130 ?_
          refine am_istore_n (by decide) dX7_smooth_132 ?_
          refine am_iload rfl dX7_smooth_133 ?_
          refine am_istore_n (by decide) dX7_smooth_135 ?_
          refine am_aload_n rfl dX7_smooth_136 ?_
          refine am_getr (j := 33) (by decide) rfl rfl rfl hTX7 (by decide) fl_X7_66 dX7_smooth_137 ?_
          refine am_iload_n rfl dX7_smooth_140 ?_
          refine am_iload rfl dX7_smooth_141 ?_
          refine am_iast (by decide) rfl (hv1) dX7_smooth_143 ?_
          refine am_aload_n rfl dX7_smooth_144 ?_
          refine am_getr (j := 33) (by decide) rfl rfl rfl hTX7 (by decide) fl_X7_66 dX7_smooth_145 ?_
          refine am_aload_n rfl dX7_smooth_148 ?_
          refine am_geti (j := 34) (by decide) rfl rfl rfl hTX7 (by decide) fl_X7_174 dX7_smooth_149 ?_
          refine am_iload_n rfl dX7_smooth_152 ?_
          rw [am_put_ne _ _ _ _ (show (21 : Nat) ≠ 36 by decide), e1]
          refine am_isub dX7_smooth_153 ?_
          refine am_iload rfl dX7_smooth_154 ?_
          refine am_iast (by decide) rfl (hv2) dX7_smooth_156 ?_
          refine am_iinc (v := nI (y + 1)) rfl (nI_inc y) (by decide) dX7_smooth_157 ?_
          refine am_goto (tgt := 37) (by decide) dX7_smooth_160 ?_
          first
          | exact K1 h51 h58 _ _
          | exact K2 h112 _ _
          | exact K3 h118 (Int32.not_lt.mp h124) _ _
          | exact K4 (fun q => h51 q.1) h112 (fun q => h118 q.1) _ _
          | exact K4 (fun q => h51 q.1) h112 (fun q => absurd h124 (Int32.not_lt.mpr q.2)) _ _
          | exact K4 (fun q => q.2 h58) h112 (fun q => h118 q.1) _ _
          | exact K4 (fun q => q.2 h58) h112 (fun q => absurd h124 (Int32.not_lt.mpr q.2)) _ _
        · refine am_iload rfl dX7_smooth_121 ?_
          refine am_iload_n rfl dX7_smooth_123 ?_
          refine am_icmp_lt (tgt := 130) (by decide) dX7_smooth_124 (fun h124 => ?_) (fun h124 => ?_)
          · refine am_iload rfl dX7_smooth_130 ?_
            refine am_istore_n (by decide) dX7_smooth_132 ?_
            refine am_iload rfl dX7_smooth_133 ?_
            refine am_istore_n (by decide) dX7_smooth_135 ?_
            refine am_aload_n rfl dX7_smooth_136 ?_
            refine am_getr (j := 33) (by decide) rfl rfl rfl hTX7 (by decide) fl_X7_66 dX7_smooth_137 ?_
            refine am_iload_n rfl dX7_smooth_140 ?_
            refine am_iload rfl dX7_smooth_141 ?_
            refine am_iast (by decide) rfl (hv1) dX7_smooth_143 ?_
            refine am_aload_n rfl dX7_smooth_144 ?_
            refine am_getr (j := 33) (by decide) rfl rfl rfl hTX7 (by decide) fl_X7_66 dX7_smooth_145 ?_
            refine am_aload_n rfl dX7_smooth_148 ?_
            refine am_geti (j := 34) (by decide) rfl rfl rfl hTX7 (by decide) fl_X7_174 dX7_smooth_149 ?_
            refine am_iload_n rfl dX7_smooth_152 ?_
            rw [am_put_ne _ _ _ _ (show (21 : Nat) ≠ 36 by decide), e1]
            refine am_isub dX7_smooth_153 ?_
            refine am_iload rfl dX7_smooth_154 ?_
            refine am_iast (by decide) rfl (hv2) dX7_smooth_156 ?_
            refine am_iinc (v := nI (y + 1)) rfl (nI_inc y) (by decide) dX7_smooth_157 ?_
            refine am_goto (tgt := 37) (by decide) dX7_smooth_160 ?_
            first
            | exact K1 h51 h58 _ _
            | exact K2 h112 _ _
            | exact K3 h118 (Int32.not_lt.mp h124) _ _
            | exact K4 (fun q => h51 q.1) h112 (fun q => h118 q.1) _ _
            | exact K4 (fun q => h51 q.1) h112 (fun q => absurd h124 (Int32.not_lt.mpr q.2)) _ _
            | exact K4 (fun q => q.2 h58) h112 (fun q => h118 q.1) _ _
            | exact K4 (fun q => q.2 h58) h112 (fun q => absurd h124 (Int32.not_lt.mpr q.2)) _ _
          · refine am_goto (tgt := 157) (by decide) dX7_smooth_127 ?_
            refine am_iinc (v := nI (y + 1)) rfl (nI_inc y) (by decide) dX7_smooth_157 ?_
            refine am_goto (tgt := 37) (by decide) dX7_smooth_160 ?_
            first
            | exact K1 h51 h58 _ _
            | exact K2 h112 _ _
            | exact K3 h118 (Int32.not_lt.mp h124) _ _
            | exact K4 (fun q => h51 q.1) h112 (fun q => h118 q.1) _ _
            | exact K4 (fun q => h51 q.1) h112 (fun q => absurd h124 (Int32.not_lt.mpr q.2)) _ _
            | exact K4 (fun q => q.2 h58) h112 (fun q => h118 q.1) _ _
            | exact K4 (fun q => q.2 h58) h112 (fun q => absurd h124 (Int32.not_lt.mpr q.2)) _ _
    · refine am_iload rfl dX7_smooth_54 ?_
      refine am_iload rfl dX7_smooth_56 ?_
      refine am_icmp_eq (tgt := 64) (by decide) dX7_smooth_58 (fun h58 => ?_) (fun h58 => ?_)
      · refine am_iload rfl dX7_smooth_64 ?_
        refine am_iload rfl dX7_smooth_66 ?_
        refine am_imul dX7_smooth_68 ?_
        refine am_iload rfl dX7_smooth_69 ?_
        refine am_iload rfl dX7_smooth_71 ?_
        refine am_imul dX7_smooth_73 ?_
        refine am_iadd dX7_smooth_74 ?_
        refine am_aload_n rfl dX7_smooth_75 ?_
        refine am_geti (j := 35) (by decide) rfl rfl rfl hTX7 (by decide) fl_X7_177 dX7_smooth_76 ?_
        refine am_aload_n rfl dX7_smooth_79 ?_
        refine am_geti (j := 35) (by decide) rfl rfl rfl hTX7 (by decide) fl_X7_177 dX7_smooth_80 ?_
        refine am_imul dX7_smooth_83 ?_
        rw [e2]
        refine am_isub dX7_smooth_84 ?_
        refine am_mabsI ml_X7_93 (by decide) (Nat.le_of_ble_eq_true rfl) dX7_smooth_85 ?_
        refine am_istore (by decide) dX7_smooth_88 ?_
        refine am_iload rfl dX7_smooth_90 ?_
        refine am_iload_n rfl dX7_smooth_92 ?_
        refine am_imul dX7_smooth_93 ?_
        refine am_iload rfl dX7_smooth_94 ?_
        refine am_aload_n rfl dX7_smooth_96 ?_
        refine am_geti (j := 34) (by decide) rfl rfl rfl hTX7 (by decide) fl_X7_174 dX7_smooth_97 ?_
        refine am_iload_n rfl dX7_smooth_100 ?_
        rw [e1]
        refine am_isub dX7_smooth_101 ?_
        refine am_imul dX7_smooth_102 ?_
        refine am_isub dX7_smooth_103 ?_
        refine am_mabsI ml_X7_93 (by decide) (Nat.le_of_ble_eq_true rfl) dX7_smooth_104 ?_
        refine am_istore (by decide) dX7_smooth_107 ?_
        refine am_iload rfl dX7_smooth_109 ?_
        refine am_iload_n rfl dX7_smooth_111 ?_
        refine am_icmp_gt (tgt := 157) (by decide) dX7_smooth_112 (fun h112 => ?_) (fun h112 => ?_)
        · refine am_iinc (v := nI (y + 1)) rfl (nI_inc y) (by decide) dX7_smooth_157 ?_
          refine am_goto (tgt := 37) (by decide) dX7_smooth_160 ?_
          first
          | exact K1 h51 h58 _ _
          | exact K2 h112 _ _
          | exact K3 h118 (Int32.not_lt.mp h124) _ _
          | exact K4 (fun q => h51 q.1) h112 (fun q => h118 q.1) _ _
          | exact K4 (fun q => h51 q.1) h112 (fun q => absurd h124 (Int32.not_lt.mpr q.2)) _ _
          | exact K4 (fun q => q.2 h58) h112 (fun q => h118 q.1) _ _
          | exact K4 (fun q => q.2 h58) h112 (fun q => absurd h124 (Int32.not_lt.mpr q.2)) _ _
        · refine am_iload rfl dX7_smooth_115 ?_
          refine am_iload_n rfl dX7_smooth_117 ?_
          refine am_icmp_ne (tgt := 130) (by decide) dX7_smooth_118 (fun h118 => ?_) (fun h118 => ?_)
          · refine am_iload rfl dX7_smooth_130 ?_
            refine am_istore_n (by decide) dX7_smooth_132 ?_
            refine am_iload rfl dX7_smooth_133 ?_
            refine am_istore_n (by decide) dX7_smooth_135 ?_
            refine am_aload_n rfl dX7_smooth_136 ?_
            refine am_getr (j := 33) (by decide) rfl rfl rfl hTX7 (by decide) fl_X7_66 dX7_smooth_137 ?_
            refine am_iload_n rfl dX7_smooth_140 ?_
            refine am_iload rfl dX7_smooth_141 ?_
            refine am_iast (by decide) rfl (hv1) dX7_smooth_143 ?_
            refine am_aload_n rfl dX7_smooth_144 ?_
            refine am_getr (j := 33) (by decide) rfl rfl rfl hTX7 (by decide) fl_X7_66 dX7_smooth_145 ?_
            refine am_aload_n rfl dX7_smooth_148 ?_
            refine am_geti (j := 34) (by decide) rfl rfl rfl hTX7 (by decide) fl_X7_174 dX7_smooth_149 ?_
            refine am_iload_n rfl dX7_smooth_152 ?_
            rw [am_put_ne _ _ _ _ (show (21 : Nat) ≠ 36 by decide), e1]
            refine am_isub dX7_smooth_153 ?_
            refine am_iload rfl dX7_smooth_154 ?_
            refine am_iast (by decide) rfl (hv2) dX7_smooth_156 ?_
            refine am_iinc (v := nI (y + 1)) rfl (nI_inc y) (by decide) dX7_smooth_157 ?_
            refine am_goto (tgt := 37) (by decide) dX7_smooth_160 ?_
            first
            | exact K1 h51 h58 _ _
            | exact K2 h112 _ _
            | exact K3 h118 (Int32.not_lt.mp h124) _ _
            | exact K4 (fun q => h51 q.1) h112 (fun q => h118 q.1) _ _
            | exact K4 (fun q => h51 q.1) h112 (fun q => absurd h124 (Int32.not_lt.mpr q.2)) _ _
            | exact K4 (fun q => q.2 h58) h112 (fun q => h118 q.1) _ _
            | exact K4 (fun q => q.2 h58) h112 (fun q => absurd h124 (Int32.not_lt.mpr q.2)) _ _
          · refine am_iload rfl dX7_smooth_121 ?_
            refine am_iload_n rfl dX7_smooth_123 ?_
            refine am_icmp_lt (tgt := 130) (by decide) dX7_smooth_124 (fun h124 => ?_) (fun h124 => ?_)
            · refine am_iload rfl dX7_smooth_130 ?_
              refine am_istore_n (by decide) dX7_smooth_132 ?_
              refine am_iload rfl dX7_smooth_133 ?_
              refine am_istore_n (by decide) dX7_smooth_135 ?_
              refine am_aload_n rfl dX7_smooth_136 ?_
              refine am_getr (j := 33) (by decide) rfl rfl rfl hTX7 (by decide) fl_X7_66 dX7_smooth_137 ?_
              refine am_iload_n rfl dX7_smooth_140 ?_
              refine am_iload rfl dX7_smooth_141 ?_
              refine am_iast (by decide) rfl (hv1) dX7_smooth_143 ?_
              refine am_aload_n rfl dX7_smooth_144 ?_
              refine am_getr (j := 33) (by decide) rfl rfl rfl hTX7 (by decide) fl_X7_66 dX7_smooth_145 ?_
              refine am_aload_n rfl dX7_smooth_148 ?_
              refine am_geti (j := 34) (by decide) rfl rfl rfl hTX7 (by decide) fl_X7_174 dX7_smooth_149 ?_
              refine am_iload_n rfl dX7_smooth_152 ?_
              rw [am_put_ne _ _ _ _ (show (21 : Nat) ≠ 36 by decide), e1]
              refine am_isub dX7_smooth_153 ?_
              refine am_iload rfl dX7_smooth_154 ?_
              refine am_iast (by decide) rfl (hv2) dX7_smooth_156 ?_
              refine am_iinc (v := nI (y + 1)) rfl (nI_inc y) (by decide) dX7_smooth_157 ?_
              refine am_goto (tgt := 37) (by decide) dX7_smooth_160 ?_
              first
              | exact K1 h51 h58 _ _
              | exact K2 h112 _ _
              | exact K3 h118 (Int32.not_lt.mp h124) _ _
              | exact K4 (fun q => h51 q.1) h112 (fun q => h118 q.1) _ _
              | exact K4 (fun q => h51 q.1) h112 (fun q => absurd h124 (Int32.not_lt.mpr q.2)) _ _
              | exact K4 (fun q => q.2 h58) h112 (fun q => h118 q.1) _ _
              | exact K4 (fun q => q.2 h58) h112 (fun q => absurd h124 (Int32.not_lt.mpr q.2)) _ _
            · refine am_goto (tgt := 157) (by decide) dX7_smooth_127 ?_
              refine am_iinc (v := nI (y + 1)) rfl (nI_inc y) (by decide) dX7_smooth_157 ?_
              refine am_goto (tgt := 37) (by decide) dX7_smooth_160 ?_
              first
              | exact K1 h51 h58 _ _
              | exact K2 h112 _ _
              | exact K3 h118 (Int32.not_lt.mp h124) _ _
              | exact K4 (fun q => h51 q.1) h112 (fun q => h118 q.1) _ _
              | exact K4 (fun q => h51 q.1) h112 (fun q => absurd h124 (Int32.not_lt.mpr q.2)) _ _
              | exact K4 (fun q => q.2 h58) h112 (fun q => h118 q.1) _ _
              | exact K4 (fun q => q.2 h58) h112 (fun q => absurd h124 (Int32.not_lt.mpr q.2)) _ _
      · refine am_goto (tgt := 157) (by decide) dX7_smooth_61 ?_
        refine am_iinc (v := nI (y + 1)) rfl (nI_inc y) (by decide) dX7_smooth_157 ?_
        refine am_goto (tgt := 37) (by decide) dX7_smooth_160 ?_
        first
        | exact K1 h51 h58 _ _
        | exact K2 h112 _ _
        | exact K3 h118 (Int32.not_lt.mp h124) _ _
        | exact K4 (fun q => h51 q.1) h112 (fun q => h118 q.1) _ _
        | exact K4 (fun q => h51 q.1) h112 (fun q => absurd h124 (Int32.not_lt.mpr q.2)) _ _
        | exact K4 (fun q => q.2 h58) h112 (fun q => h118 q.1) _ _
        | exact K4 (fun q => q.2 h58) h112 (fun q => absurd h124 (Int32.not_lt.mpr q.2)) _ _
set_option maxRecDepth 100000 in
set_option maxHeartbeats 400000 in
theorem lp_X7_smX (ad : Nat → Nat) (n L : Int32) (k : Nat) (hk : k ≤ 8) (hn : n = nI k) (p : Nat) (hp : 2 * p ≤ k) (P : Option Value → am_M → Prop) (r : ms_S) (KK : ∀ b f x n5 n6 n7, am_W ydX7_smooth ad am_II P 169 [some (.ref (ad 21)), some (.int (nI p)), b, f, x, n5, n6, n7] [] r.2.2) : ∀ (t : Nat) (s : ms_S) (x : Int32) (n5 n6 n7 : Option Value), x.toInt = (t : Int) - 1 → t < 1000 → s.2.2 21 34 = n → s.2.2 21 35 = L → ms_x n L (nI p) t s = r → am_W ydX7_smooth ad am_II P 29 [some (.ref (ad 21)), some (.int (nI p)), some (.int s.1), some (.int s.2.1), some (.int x), n5, n6, n7] [] s.2.2 := by
  intro t
  induction t with
  | zero =>
    intro s x n5 n6 n7 hx ht e1 e2 he
    rw [ms_x] at he
    subst he
    refine am_iload rfl dX7_smooth_29 ?_
    refine am_if_lt (tgt := 169) (by decide) dX7_smooth_31 (fun h => ?_) (fun h => (by exfalso; simp only [Int32.lt_iff_toInt_lt, Int32.toInt_zero] at h; omega))
    exact KK _ _ _ _ _ _
  | succ t ih =>
    intro s x n5 n6 n7 hx ht e1 e2 he
    rw [ms_x] at he
    obtain rfl : x = nI t := i_inj (by rw [nI_e]; omega)
    refine am_iload rfl dX7_smooth_29 ?_
    refine am_if_lt (tgt := 169) (by decide) dX7_smooth_31 (fun h => (by exfalso; simp only [Int32.lt_iff_toInt_lt, Int32.toInt_zero, nI_e] at h; omega)) (fun h => ?_)
    refine am_iconst (v := 0) (by decide) dX7_smooth_34 ?_
    refine am_istore (by decide) dX7_smooth_35 ?_
    refine lp_X7_smY ad n L k hk hn p hp P t (by omega) _ (fun n5 n6 n7 => ?_) (t + 1) 0 s n6 n7 (by omega) e1 e2 rfl
    refine am_iinc rfl rfl (by decide) dX7_smooth_163 ?_
    refine am_goto (tgt := 29) (by decide) dX7_smooth_166 ?_
    exact ih _ _ _ _ _ (nI_dec t (by omega)) (by omega) (by rw [ms_y_21 _ _ _ _ (by decide)]; exact e1) (by rw [ms_y_21 _ _ _ _ (by decide)]; exact e2) he
set_option maxRecDepth 100000 in
set_option maxHeartbeats 400000 in
theorem lp_X7_smP (ad : Nat → Nat) (n L : Int32) (k : Nat) (hk : k ≤ 8) (hn : n = nI k) (hL : 0 ≤ L.toInt ∧ L.toInt ≤ 100) (P : Option Value → am_M → Prop) (R9 : am_M) (K2 : ∀ p n2 n3 n4 n5 n6 n7, am_W ydX7_smooth ad am_II P 175 [some (.ref (ad 21)), p, n2, n3, n4, n5, n6, n7] [] R9) : ∀ (c p : Nat) (M : am_M) (n2 n3 n4 n5 n6 n7 : Option Value), p + c = k / 2 + 1 → M 21 34 = n → M 21 35 = L → ms_p n L c p M = R9 → am_W ydX7_smooth ad am_II P 7 [some (.ref (ad 21)), some (.int (nI p)), n2, n3, n4, n5, n6, n7] [] M := by
  intro c
  induction c with
  | zero =>
    intro p M n2 n3 n4 n5 n6 n7 hp e1 e2 he
    rw [ms_p] at he
    subst he
    refine am_iconst (v := 2) (by decide) dX7_smooth_7 ?_
    refine am_iload_n rfl dX7_smooth_8 ?_
    refine am_imul dX7_smooth_9 ?_
    refine am_aload_n rfl dX7_smooth_10 ?_
    refine am_geti (j := 34) (by decide) rfl rfl rfl hTX7 (by decide) fl_X7_174 dX7_smooth_11 ?_
    rw [e1, hn]
    refine am_icmp_gt (tgt := 175) (by decide) dX7_smooth_14 (fun h14 => ?_) (fun h14 => ?_)
    · exact K2 _ _ _ _ _ _ _
    · exfalso; simp only [Int32.lt_iff_toInt_lt, i_mul, kI_2, nI_e] at h14; omega
  | succ c ih =>
    intro p M n2 n3 n4 n5 n6 n7 hp e1 e2 he
    rw [ms_p] at he
    refine am_iconst (v := 2) (by decide) dX7_smooth_7 ?_
    refine am_iload_n rfl dX7_smooth_8 ?_
    refine am_imul dX7_smooth_9 ?_
    refine am_aload_n rfl dX7_smooth_10 ?_
    refine am_geti (j := 34) (by decide) rfl rfl rfl hTX7 (by decide) fl_X7_174 dX7_smooth_11 ?_
    rw [e1, hn]
    refine am_icmp_gt (tgt := 175) (by decide) dX7_smooth_14 (fun h14 => ?_) (fun h14 => ?_)
    · exfalso; simp only [Int32.lt_iff_toInt_lt, i_mul, kI_2, nI_e] at h14; omega
    · refine am_ldc kw_105 dX7_smooth_17 ?_
      refine am_istore_n (by decide) dX7_smooth_19 ?_
      refine am_ldc kw_105 dX7_smooth_20 ?_
      refine am_istore_n (by decide) dX7_smooth_22 ?_
      refine am_aload_n rfl dX7_smooth_23 ?_
      refine am_geti (j := 35) (by decide) rfl rfl rfl hTX7 (by decide) fl_X7_177 dX7_smooth_24 ?_
      refine am_istore (by decide) dX7_smooth_27 ?_
      rw [e2]
      refine lp_X7_smX ad n L k hk hn p (by omega) P _ (fun b f x n5 n6 n7 => ?_) (L.toInt.toNat + 1) (1000000, 1000000, M) _ _ _ _ (by omega) (by omega) e1 e2 rfl
      refine am_iinc (v := nI (p + 1)) rfl (nI_inc p) (by decide) dX7_smooth_169 ?_
      refine am_goto (tgt := 7) (by decide) dX7_smooth_172 ?_
      exact ih (p + 1) _ _ _ _ _ _ _ (by omega) (by rw [ms_x_21 _ _ _ (by decide)]; exact e1) (by rw [ms_x_21 _ _ _ (by decide)]; exact e2) he
def mo_sm (K : am_M) : am_M := ms_p (K 21 34) (K 21 35) ((K 21 34).toInt.toNat / 2 + 1) 0 K
set_option maxRecDepth 100000 in
set_option maxHeartbeats 400000 in
theorem c_X7_smooth (ad : Nat → Nat) (M : am_M) (k : Nat) (hk : 1 ≤ k ∧ k ≤ 8) (hK : M 21 34 = nI k) (hL : 0 ≤ (M 21 35).toInt ∧ (M 21 35).toInt ≤ 100) : am_C ydX7_smooth ad am_II [.ref (ad 21)] M (am_is (mo_even (md (mo_sm (md M)))) (md (mo_sm (md M)))) := by
  refine am_ofW (L := [some (.ref (ad 21)), none, none, none, none, none, none, none]) (by decide +kernel) (by simp [Value.category]) (Nat.le_of_ble_eq_true rfl) rfl ?_
  refine am_aload_n rfl dX7_smooth_0 ?_
  refine am_iconst (v := 0) (by decide) dX7_smooth_1 ?_
  refine am_puti (j := 0) (by decide) rfl rfl rfl hTX7 tyX7_ok nmX7 (by decide) fl_X7_73 rfl rfl rfl rfl dX7_smooth_2 ?_
  refine am_iconst (v := 0) (by decide) dX7_smooth_5 ?_
  refine am_istore_n (by decide) dX7_smooth_6 ?_
  have e1 : md M 21 34 = nI k := by rw [md_f M (by decide)]; exact hK
  have eL : 0 ≤ (md M 21 35).toInt ∧ (md M 21 35).toInt ≤ 100 := by rw [md_f M (by decide)]; exact hL
  have ek : (md M 21 34).toInt.toNat = k := by rw [e1, nI_e]; omega
  refine lp_X7_smP ad _ (md M 21 35) k hk.2 e1 eL _ (mo_sm (md M)) (fun p n2 n3 n4 n5 n6 n7 => ?_) (k / 2 + 1) 0 _ _ _ _ _ _ _ (by omega) rfl rfl (by unfold mo_sm; rw [ek])
  have e9 : (mo_sm (md M)) 21 34 = nI k := by (unfold mo_sm; rw [ms_p_21 _ _ (by decide)]; exact e1)
  refine am_aload_n rfl dX7_smooth_175 ?_
  refine am_callVi (c_X7_evenness ad (mo_sm (md M)) (by rw [e9, nI_e]; omega)) okX7_evenness ml_X7_183 (by decide) rfl rfl rfl ⟨by decide, by decide⟩ (Nat.le_of_ble_eq_true rfl) rfl dX7_smooth_176 ?_
  refine am_iret rfl dX7_smooth_179 ?_
  exact ⟨rfl, rfl⟩

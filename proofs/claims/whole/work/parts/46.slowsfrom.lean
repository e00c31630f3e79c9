def sgc (E : Int → Int → Bool) (F : Nat → Option (Nat × Nat)) (v : Int) (t s : Nat) : Int → Bool := fun b => E (v + b) b && (match F (sx (v + b) b) with
  | some p => decide (p.1 = t ∧ p.2 + (v + b).toNat = s)
  | none => false)
def sg (A J : Int) (E : Int → Int → Bool) (F : Nat → Option (Nat × Nat)) (v a : Int) : Int := match F (sx v a) with
  | some (t + 1, s) => rn_s (sgc E F v t s) (bf_n A J a) (bf_hi A J a)
  | _ => 5
def sst (A J : Int) (E : Int → Int → Bool) (F : Nat → Option (Nat × Nat)) (v0 a0 : Int) : Nat → Int × Int
  | 0 => (v0, a0)
  | i + 1 => ((sst A J E F v0 a0 i).1 + sg A J E F (sst A J E F v0 a0 i).1 (sst A J E F v0 a0 i).2, sg A J E F (sst A J E F v0 a0 i).1 (sst A J E F v0 a0 i).2)
theorem sgc_t {E : Int → Int → Bool} {F : Nat → Option (Nat × Nat)} {v : Int} {t s : Nat} {b : Int} : sgc E F v t s b = true ↔ E (v + b) b = true ∧ ∃ s0, F (sx (v + b) b) = some (t, s0) ∧ s0 + (v + b).toNat = s := by
  unfold sgc
  rw [Bool.and_eq_true]
  cases h : F (sx (v + b) b) with
  | none => simp
  | some p =>
    obtain ⟨t1, s1⟩ := p
    simp only [decide_eq_true_eq]
    constructor
    · rintro ⟨k1, rfl, k2⟩
      exact ⟨k1, s1, rfl, k2⟩
    · rintro ⟨k1, s0, k2, k3⟩
      cases k2
      exact ⟨k1, rfl, k3⟩
theorem sg_ok {V A J : Int} {E : Int → Int → Bool} {F : Nat → Option (Nat × Nat)} (hp : sl_pr V A J E F) {v a : Int} {t s : Nat} (h1 : 0 ≤ v) (h2 : v ≤ 12) (h3 : -4 ≤ a) (h4 : a ≤ 4) (he : F (sx v a) = some (t + 1, s)) : sgc E F v t s (sg A J E F v a) = true ∧ bf_lo A J a ≤ sg A J E F v a ∧ sg A J E F v a ≤ bf_hi A J a ∧ ∀ b', sg A J E F v a < b' → b' ≤ bf_hi A J a → sgc E F v t s b' = false := by
  obtain ⟨b, s0, ⟨n1, n2, n3, n4, n5, n6⟩, n7, n8⟩ := hp v a t s h1 h2 h3 h4 he
  have e : sg A J E F v a = rn_s (sgc E F v t s) (bf_n A J a) (bf_hi A J a) := by
    unfold sg
    rw [he]
  have h := rn_s_ex (c := sgc E F v t s) (bf_n A J a) (bf_hi A J a) ⟨b, by unfold bf_n bf_hi bf_lo; omega, by unfold bf_hi; omega, sgc_t.mpr ⟨n6, s0, n7, n8.symm⟩⟩
  rw [← e] at h
  refine ⟨h.1, ?_, h.2.2.1, h.2.2.2⟩
  have h2 := h.2.1
  unfold bf_n at h2
  omega
theorem sst_ok {V A J : Int} {E : Int → Int → Bool} {F : Nat → Option (Nat × Nat)} (hp : sl_pr V A J E F) (hV : V ≤ 12) (hA : A ≤ 4) (hE : ∀ w b, -100 ≤ w → w ≤ 100 → -4 ≤ b → b ≤ 4 → E w b = true → (-A ≤ b ∧ b ≤ A) ∧ 0 ≤ w ∧ w ≤ V) {v0 a0 : Int} (g1 : 0 ≤ v0) (g2 : v0 ≤ 12) (g3 : -4 ≤ a0) (g4 : a0 ≤ 4) {d s : Nat} (hd : F (sx v0 a0) = some (d, s)) : ∀ i, i ≤ d → (0 ≤ (sst A J E F v0 a0 i).1 ∧ (sst A J E F v0 a0 i).1 ≤ 12) ∧ (-4 ≤ (sst A J E F v0 a0 i).2 ∧ (sst A J E F v0 a0 i).2 ≤ 4) ∧ ∃ s', F (sx (sst A J E F v0 a0 i).1 (sst A J E F v0 a0 i).2) = some (d - i, s') := by
  intro i
  induction i with
  | zero => intro _; exact ⟨⟨g1, g2⟩, ⟨g3, g4⟩, s, hd⟩
  | succ i ih =>
    intro hi
    obtain ⟨⟨h1, h2⟩, ⟨h3, h4⟩, s', h7⟩ := ih (by omega)
    rw [sst]
    generalize sst A J E F v0 a0 i = q at *
    obtain ⟨v, a⟩ := q
    dsimp only at *
    rw [show d - i = (d - (i + 1)) + 1 by omega] at h7
    have h8 := sg_ok hp h1 h2 h3 h4 h7
    generalize sg A J E F v a = b at *
    obtain ⟨h9, s0, h10, -⟩ := sgc_t.mp h8.1
    have hb1 : -4 ≤ b ∧ b ≤ 4 := by
      have := h8.2.1
      have := h8.2.2.1
      unfold bf_lo at *
      unfold bf_hi at *
      omega
    have h11 := hE _ _ (by omega) (by omega) hb1.1 hb1.2 h9
    exact ⟨⟨by omega, by omega⟩, hb1, s0, h10⟩
noncomputable def ms (M : am_M) (s : Bool) (v a : Int) : Nat → Int × Int := sst (mA M) (mJ M) (me_E M s) (so_F M s) v a
theorem so_E2 {M : am_M} (hR : mRI M) (s : Bool) : ∀ w b, -100 ≤ w → w ≤ 100 → -4 ≤ b → b ≤ 4 → me_E M s w b = true → (-mA M ≤ b ∧ b ≤ mA M) ∧ 0 ≤ w ∧ w ≤ mV M := by
  intro w b h1 h2 h3 h4 h
  unfold me_E at h
  rw [decide_eq_true_eq] at h
  have h5 := (mo_state_iff hR (v := w) (a := b) (by omega) (by omega) (by omega) (by omega)).mp h.1
  exact ⟨h5.2, h5.1⟩
theorem so_F_pr {M : am_M} (hR : mRI M) (s : Bool) : sl_pr (mV M) (mA M) (mJ M) (me_E M s) (so_F M s) := sl_F_pr hR.V.1 hR.V.2 (so_E hR s)
theorem ms_ok {M : am_M} (hR : mRI M) {s : Bool} {v0 a0 : Int} (g1 : 0 ≤ v0) (g2 : v0 ≤ 12) (g3 : -4 ≤ a0) (g4 : a0 ≤ 4) {d s0 : Nat} (hd : so_F M s (sx v0 a0) = some (d, s0)) : ∀ i, i ≤ d → (0 ≤ (ms M s v0 a0 i).1 ∧ (ms M s v0 a0 i).1 ≤ 12) ∧ (-4 ≤ (ms M s v0 a0 i).2 ∧ (ms M s v0 a0 i).2 ≤ 4) ∧ ∃ s', so_F M s (sx (ms M s v0 a0 i).1 (ms M s v0 a0 i).2) = some (d - i, s') := sst_ok (so_F_pr hR s) hR.V.1 hR.V.2 (so_E2 hR s) g1 g2 g3 g4 hd
theorem so_sml {M : am_M} (hR : mRI M) {s : Bool} {x t s0 : Nat} (h : so_F M s x = some (t, s0)) : t < 117 ∧ s0 ≤ 12 * t ∧ x < 117 := sl_F_sm hR.V.1 hR.V.2 h
theorem so_enc_none {M : am_M} (hR : mRI M) {s : Bool} (x : Nat) : so_enc (so_F M s x) = 1000000 ↔ so_F M s x = none := by
  cases e : so_F M s x with
  | none => exact ⟨fun _ => rfl, fun _ => rfl⟩
  | some p =>
    have := so_sml hR (t := p.1) (s0 := p.2) e
    refine ⟨fun h => ?_, fun h => by cases h⟩
    have h2 := congrArg Int32.toInt h
    simp only [so_enc, nI_e, kI_1000000] at h2
    omega
theorem so_F_cong {M N : am_M} (h : ∀ j, j ≠ 12 → N 21 j = M 21 j) (h2 : N 22 = M 22) (h3 : N 23 = M 23) (s : Bool) : so_F N s = so_F M s := by
  obtain ⟨⟨eV, eA, eJ⟩, -, eE, -⟩ := mr_cong h h2 h3
  unfold so_F
  rw [eV, eA, eJ, eE]
def so_fr4 (M N : am_M) : Prop := (∀ a, a ≠ 21 → a ≠ 26 → a ≠ 27 → a ≠ 28 → N a = M a) ∧ ∀ j, j ≠ 12 → N 21 j = M 21 j
theorem so_RC_cong {N N' : am_M} {F : Nat → Option (Nat × Nat)} (h : so_RC N F) (h1 : N' 27 = N 27) (h2 : N' 28 = N 28) : so_RC N' F := by
  intro x hx
  rw [h1, h2]
  exact h x hx
set_option maxRecDepth 100000 in
set_option maxHeartbeats 400000 in
theorem lp_X7_sf1 (ad : Nat → Nat) (M N : am_M) (hR : mRI M) (hf : so_fr4 M N) (sb : Bool) (hat : so_RC N (so_F M sb)) (P : Option Value → am_M → Prop) (v32 a32 : Int32) (v a g : Int) (t s : Nat) (h1 : 0 ≤ v) (h2 : v ≤ 12) (h3 : -4 ≤ a) (h4 : a ≤ 4) (he : so_F M sb (sx v a) = some (t + 1, s)) (hg1 : sgc (me_E M sb) (so_F M sb) v t s g = true) (hg2 : bf_lo (mA M) (mJ M) a ≤ g) (hg4 : ∀ b', g < b' → b' ≤ bf_hi (mA M) (mJ M) a → sgc (me_E M sb) (so_F M sb) v t s b' = false) (hg3 : g ≤ bf_hi (mA M) (mJ M) a) (KK : am_W ydX7_slowsFrom ad am_II P 173 [some (.ref (ad 21)), some (.int v32), some (.int a32), some (.int (bI sb)), some (.int (iN v)), some (.int (iN a)), some (.int (iN g))] [] N) : ∀ (z : Nat) (b : Int), b - g < z → g ≤ b → b ≤ mA M → am_W ydX7_slowsFrom ad am_II P 85 [some (.ref (ad 21)), some (.int v32), some (.int a32), some (.int (bI sb)), some (.int (iN v)), some (.int (iN a)), some (.int (iN b))] [] N := by
  obtain ⟨⟨eV, eA, eJ⟩, es, eE, eR⟩ := mr_cong hf.2 (hf.1 22 (by decide) (by decide) (by decide) (by decide)) (hf.1 23 (by decide) (by decide) (by decide) (by decide))
  have hR' := eR hR
  have hA4 : mA M ≤ 4 := hR.V.2
  have hA1 : 1 ≤ mA M := hR.2.2.1
  have hV12 : mV M ≤ 12 := hR.V.1
  have hle := so_sml hR he
  have hg5 : -4 ≤ g := by (unfold bf_lo at hg2; omega)
  have hs := sp_num_in h1 h2 h3 h4
  have e : sp_num (iN v) (iN a) = nI (sx v a) := sp_num_e h1 h2 h3 h4
  have et : N 27 (sx v a) = nI (t + 1) := by rw [(hat _ (sx_lt h1 h2 h3 h4).1).1, he]; rfl
  have est : N 28 (sx v a) = nI s := by rw [(hat _ (sx_lt h1 h2 h3 h4).1).2, he]; rfl
  obtain ⟨gE, s0, gF, gs⟩ := sgc_t.mp hg1
  have hg6 : g ≤ 4 := by (unfold bf_hi at hg3; omega)
  have hgE := so_E2 hR sb _ _ (by omega) (by omega) (by omega) hg6 gE
  have hgx := sx_lt (v := v + g) (a := g) (by omega) (by omega) (by omega) (by omega)
  intro z
  induction z with
  | zero => intro b hz hb; omega
  | succ z ih =>
    intro b hz hb hbA
    have hgo := mo_go_iff hR' (v := v) (a := a) (b := b) (s := sb) (by omega) (by omega) (by omega) (by omega) (by omega) (by omega)
    rw [eJ, eE] at hgo
    have KF : b ≠ g → am_W ydX7_slowsFrom ad am_II P 85 [some (.ref (ad 21)), some (.int v32), some (.int a32), some (.int (bI sb)), some (.int (iN v)), some (.int (iN a)), some (.int (iN (b - 1)))] [] N := by
      intro hne
      exact ih (b - 1) (by omega) (by omega) (by omega)
    have hE := so_E2 hR sb (v + b) b (by omega) (by omega) (by omega) (by omega)
    have KF1 : mo_go N (iN v) (iN a) (iN b) sb = false → b ≠ g := by
      intro q q2
      rw [← q2] at gE hg2 hg3
      have q4 : mo_go N (iN v) (iN a) (iN b) sb = true := hgo.mpr ⟨by unfold bf_hi at hg3; unfold bf_lo at hg2; omega, gE⟩
      rw [q4] at q
      cases q
    have KF2 : ¬ N 27 (sx (v + b) b) = nI t → b ≠ g := by
      intro q q2
      rw [← q2] at gF hgx
      exact q (by rw [(hat _ hgx.1).1, gF]; rfl)
    have KF3 : ¬ N 28 (sx (v + b) b) + iN v + iN b = nI s → b ≠ g := by
      intro q q2
      rw [← q2] at gF hgx gs hgE
      refine q ?_
      rw [(hat _ hgx.1).2, gF, ← gs, show so_st (some (t, s0)) = nI s0 from rfl, nI_iN, nI_iN, iN_add, iN_add]
      exact congrArg iN (by omega)
    refine am_aload_n rfl dX7_slowsFrom_85 ?_
    refine am_iload rfl dX7_slowsFrom_86 ?_
    refine am_iload rfl dX7_slowsFrom_88 ?_
    refine am_iload rfl dX7_slowsFrom_90 ?_
    refine am_iload_n rfl dX7_slowsFrom_92 ?_
    refine am_callVi (c_X7_mayGo ad N (iN v) (iN a) (iN b) sb hR'.2.1) okX7_mayGo ml_X7_113 (by decide) rfl rfl rfl ⟨by decide, by decide⟩ (Nat.le_of_ble_eq_true rfl) rfl dX7_slowsFrom_93 ?_
    refine am_ifb_eq (tgt := 167) (by decide) dX7_slowsFrom_96 (fun h96 => ?_) (fun h96 => ?_)
    · refine am_iinc (v := iN (b - 1)) rfl (iN_dec b) (by decide) dX7_slowsFrom_167 ?_
      refine am_goto (tgt := 85) (by decide) dX7_slowsFrom_170 ?_
      first
      | exact KF (KF1 h96)
      | exact KF (KF2 h128)
      | exact KF (KF3 h164)
    · have hgt := hgo.mp h96
      have hE2 := hE hgt.2
      have hs2 := sp_num_in (v := v + b) (a := b) (by omega) (by omega) (by omega) (by omega)
      have ee2 : sp_num (iN (v + b)) (iN b) = nI (sx (v + b) b) := sp_num_e (by omega) (by omega) (by omega) (by omega)
      refine am_aload_n rfl dX7_slowsFrom_99 ?_
      refine am_getr (j := 13) (by decide) rfl rfl rfl hTX7 (by decide) fl_X7_36 dX7_slowsFrom_100 ?_
      refine am_iload rfl dX7_slowsFrom_103 ?_
      refine am_iload rfl dX7_slowsFrom_105 ?_
      refine am_iadd dX7_slowsFrom_107 ?_
      rw [iN_add]
      refine am_iload rfl dX7_slowsFrom_108 ?_
      refine am_callSi (c_X7_of ad _ _ _) okX7_of ml_X7_127 rfl ⟨by decide, by decide⟩ (Nat.le_of_ble_eq_true rfl) rfl dX7_slowsFrom_110 ?_
      rw [ee2]
      refine am_iald (by decide) rfl (hs2.1) dX7_slowsFrom_113 ?_
      rw [hs2.2]
      refine am_aload_n rfl dX7_slowsFrom_114 ?_
      refine am_getr (j := 13) (by decide) rfl rfl rfl hTX7 (by decide) fl_X7_36 dX7_slowsFrom_115 ?_
      refine am_iload rfl dX7_slowsFrom_118 ?_
      refine am_iload rfl dX7_slowsFrom_120 ?_
      refine am_callSi (c_X7_of ad _ _ _) okX7_of ml_X7_127 rfl ⟨by decide, by decide⟩ (Nat.le_of_ble_eq_true rfl) rfl dX7_slowsFrom_122 ?_
      rw [e]
      refine am_iald (by decide) rfl (hs.1) dX7_slowsFrom_125 ?_
      rw [hs.2, et]
      refine am_iconst (v := 1) (by decide) dX7_slowsFrom_126 ?_
      refine am_isub dX7_slowsFrom_127 ?_
      rw [nI_m1]
      refine am_icmp_ne (tgt := 167) (by decide) dX7_slowsFrom_128 (fun h128 => ?_) (fun h128 => ?_)
      · refine am_iinc (v := iN (b - 1)) rfl (iN_dec b) (by decide) dX7_slowsFrom_167 ?_
        refine am_goto (tgt := 85) (by decide) dX7_slowsFrom_170 ?_
        first
        | exact KF (KF1 h96)
        | exact KF (KF2 h128)
        | exact KF (KF3 h164)
      · refine am_aload_n rfl dX7_slowsFrom_131 ?_
        refine am_getr (j := 14) (by decide) rfl rfl rfl hTX7 (by decide) fl_X7_39 dX7_slowsFrom_132 ?_
        refine am_iload rfl dX7_slowsFrom_135 ?_
        refine am_iload rfl dX7_slowsFrom_137 ?_
        refine am_iadd dX7_slowsFrom_139 ?_
        rw [iN_add]
        refine am_iload rfl dX7_slowsFrom_140 ?_
        refine am_callSi (c_X7_of ad _ _ _) okX7_of ml_X7_127 rfl ⟨by decide, by decide⟩ (Nat.le_of_ble_eq_true rfl) rfl dX7_slowsFrom_142 ?_
        rw [ee2]
        refine am_iald (by decide) rfl (hs2.1) dX7_slowsFrom_145 ?_
        rw [hs2.2]
        refine am_iload rfl dX7_slowsFrom_146 ?_
        refine am_iadd dX7_slowsFrom_148 ?_
        refine am_iload rfl dX7_slowsFrom_149 ?_
        refine am_iadd dX7_slowsFrom_151 ?_
        refine am_aload_n rfl dX7_slowsFrom_152 ?_
        refine am_getr (j := 14) (by decide) rfl rfl rfl hTX7 (by decide) fl_X7_39 dX7_slowsFrom_153 ?_
        refine am_iload rfl dX7_slowsFrom_156 ?_
        refine am_iload rfl dX7_slowsFrom_158 ?_
        refine am_callSi (c_X7_of ad _ _ _) okX7_of ml_X7_127 rfl ⟨by decide, by decide⟩ (Nat.le_of_ble_eq_true rfl) rfl dX7_slowsFrom_160 ?_
        rw [e]
        refine am_iald (by decide) rfl (hs.1) dX7_slowsFrom_163 ?_
        rw [hs.2, est]
        refine am_icmp_eq (tgt := 173) (by decide) dX7_slowsFrom_164 (fun h164 => ?_) (fun h164 => ?_)
        · have hy := (sx_lt (v := v + b) (a := b) (by omega) (by omega) (by omega) (by omega)).1
          have hF2 : so_F M sb (sx (v + b) b) = some (t, s - (v + b).toNat) ∧ (v + b).toNat ≤ s := by
            rw [(hat _ hy).1] at h128
            rw [(hat _ hy).2] at h164
            cases w : so_F M sb (sx (v + b) b) with
            | none => rw [w] at h128; exfalso; have h9 := congrArg Int32.toInt h128; simp only [so_enc, nI_e, kI_1000000] at h9; omega
            | some p =>
              obtain ⟨t2, s2⟩ := p
              have h8 := so_sml hR w
              rw [w] at h128 h164
              have h9 := congrArg Int32.toInt h128
              rw [show so_st (some (t2, s2)) = nI s2 from rfl, nI_iN, nI_iN, iN_add, iN_add] at h164
              have h10 := congrArg Int32.toInt h164
              simp only [so_enc, nI_e] at h9
              rw [iN_e, iN_e] at h10
              have q1 : t2 = t := by omega
              have q2 : s2 + (v + b).toNat = s := by omega
              subst q1
              exact ⟨by rw [show s2 = s - (v + b).toNat by omega], by omega⟩
          have hgc : sgc (me_E M sb) (so_F M sb) v t s b = true := sgc_t.mpr ⟨hgt.2, _, hF2.1, by omega⟩
          have hbg : b = g := by
            by_cases q : b = g
            · exact q
            · have := hg4 b (by omega) (by unfold bf_hi; omega)
              rw [hgc] at this
              cases this
          subst hbg
          exact KK
        · refine am_iinc (v := iN (b - 1)) rfl (iN_dec b) (by decide) dX7_slowsFrom_167 ?_
          refine am_goto (tgt := 85) (by decide) dX7_slowsFrom_170 ?_
          first
          | exact KF (KF1 h96)
          | exact KF (KF2 h128)
          | exact KF (KF3 h164)
def rs_row (M N : am_M) (sb : Bool) (v a : Int) (d : Nat) : Prop := N 21 12 = nI d ∧ ∀ i, i < d → N 26 i = iN (ms M sb v a (i + 1)).2
theorem ms_s (M : am_M) (sb : Bool) (v a : Int) (i : Nat) : ms M sb v a (i + 1) = ((ms M sb v a i).1 + sg (mA M) (mJ M) (me_E M sb) (so_F M sb) (ms M sb v a i).1 (ms M sb v a i).2, sg (mA M) (mJ M) (me_E M sb) (so_F M sb) (ms M sb v a i).1 (ms M sb v a i).2) := rfl
set_option maxRecDepth 100000 in
set_option maxHeartbeats 400000 in
theorem lp_X7_sf2 (ad : Nat → Nat) (M : am_M) (hR : mRI M) (sb : Bool) (v32 a32 : Int32) (v0 a0 : Int) (c1 : 0 ≤ v0) (c2 : v0 ≤ 12) (c3 : -4 ≤ a0) (c4 : a0 ≤ 4) (d s0 : Nat) (hd : so_F M sb (sx v0 a0) = some (d, s0)) : ∀ (z i : Nat) (N : am_M) (v a : Int) (n6 : Option Value), d - i < z → i ≤ d → ms M sb v0 a0 i = (v, a) → so_fr4 M N → so_RC N (so_F M sb) → N 21 12 = nI i → (∀ k, k < i → N 26 k = iN (ms M sb v0 a0 (k + 1)).2) → am_W ydX7_slowsFrom ad am_II (fun r N => so_fr4 M N ∧ so_RC N (so_F M sb) ∧ r = some (.int 1) ∧ rs_row M N sb v0 a0 d) 64 [some (.ref (ad 21)), some (.int v32), some (.int a32), some (.int (bI sb)), some (.int (iN v)), some (.int (iN a)), n6] [] N := by
  intro z
  have hd117 := so_sml hR hd
  induction z with
  | zero => intro i N v a n6 hz; omega
  | succ z ih =>
    intro i N v a n6 hz hi hs hf hat hrl hrow
    obtain ⟨⟨h1, h2⟩, ⟨h3, h4⟩, s1, h7⟩ := ms_ok hR c1 c2 c3 c4 hd i hi
    rw [hs] at h1 h2 h3 h4 h7
    dsimp only at h1 h2 h3 h4 h7
    have hsn := sp_num_in h1 h2 h3 h4
    have e : sp_num (iN v) (iN a) = nI (sx v a) := sp_num_e h1 h2 h3 h4
    have hA := hR.V.2
    have e22 : N 21 2 = M 21 2 := hf.2 2 (by decide)
    have KE : d - i = 0 → am_W ydX7_slowsFrom ad am_II (fun r N => so_fr4 M N ∧ so_RC N (so_F M sb) ∧ r = some (.int 1) ∧ rs_row M N sb v0 a0 d) 208 [some (.ref (ad 21)), some (.int v32), some (.int a32), some (.int (bI sb)), some (.int (iN v)), some (.int (iN a)), n6] [] N := by
      intro q
      refine am_iconst (v := 1) (by decide) dX7_slowsFrom_208 ?_
      refine am_zret rfl (by decide) dX7_slowsFrom_209 ?_
      obtain rfl : i = d := by omega
      exact ⟨hf, hat, rfl, hrl, hrow⟩
    have KN : ∀ e, d - i = e + 1 → am_W ydX7_slowsFrom ad am_II (fun r N => so_fr4 M N ∧ so_RC N (so_F M sb) ∧ r = some (.int 1) ∧ rs_row M N sb v0 a0 d) 79 [some (.ref (ad 21)), some (.int v32), some (.int a32), some (.int (bI sb)), some (.int (iN v)), some (.int (iN a)), n6] [] N := by
      intro e q
      rw [q] at h7
      obtain ⟨g1, g2, g3, g4⟩ := sg_ok (so_F_pr hR sb) h1 h2 h3 h4 h7
      have hnx := ms_s M sb v0 a0 i
      rw [hs] at hnx
      dsimp only at hnx
      generalize sg (mA M) (mJ M) (me_E M sb) (so_F M sb) v a = g at *
      have hiv : vp_in (nI i) 1000 := vp_in_nI (by omega) (by omega)
      refine am_aload_n rfl dX7_slowsFrom_79 ?_
      refine am_geti (j := 2) (by decide) rfl rfl rfl hTX7 (by decide) fl_X7_13 dX7_slowsFrom_80 ?_
      refine am_istore (by decide) dX7_slowsFrom_83 ?_
      rw [e22, show M 21 2 = iN (mA M) from (iN_self _).symm]
      refine lp_X7_sf1 ad M N hR hf sb hat _ v32 a32 v a g e s1 h1 h2 h3 h4 h7 g1 g2 g4 g3 ?_ 100 (mA M) (by unfold bf_lo at g2; omega) (by unfold bf_hi at g3; omega) (Int.le_refl _)
      refine am_aload_n rfl dX7_slowsFrom_173 ?_
      refine am_getr (j := 11) (by decide) rfl rfl rfl hTX7 (by decide) fl_X7_33 dX7_slowsFrom_174 ?_
      refine am_aload_n rfl dX7_slowsFrom_177 ?_
      refine am_geti (j := 12) (by decide) rfl rfl rfl hTX7 (by decide) fl_X7_120 dX7_slowsFrom_178 ?_
      rw [hrl]
      refine am_iload rfl dX7_slowsFrom_181 ?_
      refine am_iast (by decide) rfl (hiv) dX7_slowsFrom_183 ?_
      refine am_aload_n rfl dX7_slowsFrom_184 ?_
      refine am_dup rfl dX7_slowsFrom_185 ?_
      refine am_geti (j := 12) (by decide) rfl rfl rfl hTX7 (by decide) fl_X7_120 dX7_slowsFrom_186 ?_
      refine am_iconst (v := 1) (by decide) dX7_slowsFrom_189 ?_
      refine am_iadd dX7_slowsFrom_190 ?_
      refine am_puti (j := 12) (by decide) rfl rfl rfl hTX7 tyX7_ok nmX7 (by decide) fl_X7_120 rfl rfl rfl rfl dX7_slowsFrom_191 ?_
      refine am_iload rfl dX7_slowsFrom_194 ?_
      refine am_iload rfl dX7_slowsFrom_196 ?_
      refine am_iadd dX7_slowsFrom_198 ?_
      rw [iN_add]
      refine am_istore (by decide) dX7_slowsFrom_199 ?_
      refine am_iload rfl dX7_slowsFrom_201 ?_
      refine am_istore (by decide) dX7_slowsFrom_203 ?_
      refine am_goto (tgt := 64) (by decide) dX7_slowsFrom_205 ?_
      refine am_M_eq ?_ (ih (i + 1) (am_put (am_put N 26 i (iN g)) 21 12 (nI (i + 1))) (v + g) g _ (by omega) (by omega) hnx ⟨fun q p1 p2 p3 p4 => ?_, fun j hj => ?_⟩ (so_RC_cong hat ?_ ?_) ?_ (fun k hk => ?_))
      · rw [nI_clamp (by omega), am_put_ne N 26 _ _ (show (21 : Nat) ≠ 26 by decide), hrl, nI_1]
      · rw [am_put_ne _ _ _ _ p1, am_put_ne _ _ _ _ p2]
        exact hf.1 q p1 p2 p3 p4
      · rw [am_rd, if_neg (by omega), am_put_ne _ _ _ _ (by decide)]
        exact hf.2 j hj
      · rw [am_put_ne _ _ _ _ (by decide), am_put_ne _ _ _ _ (by decide)]
      · rw [am_put_ne _ _ _ _ (by decide), am_put_ne _ _ _ _ (by decide)]
      · rw [am_rd, if_pos ⟨rfl, rfl⟩]
      · rw [am_put_ne _ _ _ _ (by decide), am_rd]
        by_cases q2 : k = i
        · subst q2
          rw [if_pos ⟨rfl, rfl⟩, hnx]
        · rw [if_neg (by omega)]
          exact hrow k (by omega)
    refine am_aload_n rfl dX7_slowsFrom_64 ?_
    refine am_getr (j := 13) (by decide) rfl rfl rfl hTX7 (by decide) fl_X7_36 dX7_slowsFrom_65 ?_
    refine am_iload rfl dX7_slowsFrom_68 ?_
    refine am_iload rfl dX7_slowsFrom_70 ?_
    refine am_callSi (c_X7_of ad _ _ _) okX7_of ml_X7_127 rfl ⟨by decide, by decide⟩ (Nat.le_of_ble_eq_true rfl) rfl dX7_slowsFrom_72 ?_
    rw [e]
    refine am_iald (by decide) rfl (hsn.1) dX7_slowsFrom_75 ?_
    rw [hsn.2, (hat _ (sx_lt h1 h2 h3 h4).1).1, h7, show so_enc (some (d - i, s1)) = nI (d - i) from rfl]
    refine am_if_le (tgt := 208) (by decide) dX7_slowsFrom_76 (fun h76 => ?_) (fun h76 => ?_)
    · exact KE (by simp only [Int32.le_iff_toInt_le, Int32.toInt_zero, nI_e] at h76; omega)
    · exact KN (d - i - 1) (by simp only [Int32.le_iff_toInt_le, Int32.toInt_zero, nI_e] at h76; omega)
/-- whether the slowing from a state goes by safe ticks alone -/
noncomputable def m_sb (M : am_M) (v a : Int) : Bool := m_s M && (so_F M true (sx v a)).isSome
def rs_P (M : am_M) (v a : Int) (r : Option Value) (N : am_M) : Prop := so_fr4 M N ∧ so_RC N (so_F M (m_sb M v a)) ∧ ((so_F M (m_sb M v a) (sx v a) = none ∧ r = some (.int 0) ∧ N 21 12 = 0) ∨ ∃ d s, so_F M (m_sb M v a) (sx v a) = some (d, s) ∧ r = some (.int 1) ∧ rs_row M N (m_sb M v a) v a d)
set_option maxRecDepth 100000 in
set_option maxHeartbeats 400000 in
theorem lp_X7_sf3 (ad : Nat → Nat) (M N : am_M) (hR : mRI M) (v a : Int) (h1 : 0 ≤ v) (h2 : v ≤ 12) (h3 : -4 ≤ a) (h4 : a ≤ 4) (sb : Bool) (hsb : m_sb M v a = sb) (hf : so_fr M N) (hat : so_RC N (so_F M sb)) : am_W ydX7_slowsFrom ad am_II (rs_P M v a) 36 [some (.ref (ad 21)), some (.int (iN v)), some (.int (iN a)), some (.int (bI sb)), none, none, none] [] N := by
  have hsn := sp_num_in h1 h2 h3 h4
  have e : sp_num (iN v) (iN a) = nI (sx v a) := sp_num_e h1 h2 h3 h4
  have hx := (sx_lt h1 h2 h3 h4).1
  have hf4 : so_fr4 M (am_put N 21 12 0) := ⟨fun q p1 p2 p3 p4 => by rw [am_put_ne _ _ _ _ p1]; exact hf q p3 p4, fun j hj => by rw [am_rd, if_neg (by omega), hf 21 (by decide) (by decide)]⟩
  have hat4 : so_RC (am_put N 21 12 0) (so_F M sb) := so_RC_cong hat (am_put_ne _ _ _ _ (by decide)) (am_put_ne _ _ _ _ (by decide))
  have hrl : am_put N 21 12 0 21 12 = 0 := by (rw [am_rd, if_pos ⟨rfl, rfl⟩])
  refine am_aload_n rfl dX7_slowsFrom_36 ?_
  refine am_iconst (v := 0) (by decide) dX7_slowsFrom_37 ?_
  refine am_puti (j := 12) (by decide) rfl rfl rfl hTX7 tyX7_ok nmX7 (by decide) fl_X7_120 rfl rfl rfl rfl dX7_slowsFrom_38 ?_
  refine am_aload_n rfl dX7_slowsFrom_41 ?_
  refine am_getr (j := 13) (by decide) rfl rfl rfl hTX7 (by decide) fl_X7_36 dX7_slowsFrom_42 ?_
  refine am_iload_n rfl dX7_slowsFrom_45 ?_
  refine am_iload_n rfl dX7_slowsFrom_46 ?_
  refine am_callSi (c_X7_of ad _ _ _) okX7_of ml_X7_127 rfl ⟨by decide, by decide⟩ (Nat.le_of_ble_eq_true rfl) rfl dX7_slowsFrom_47 ?_
  rw [e]
  refine am_iald (by decide) rfl (hsn.1) dX7_slowsFrom_50 ?_
  rw [hsn.2, (hat4 _ hx).1]
  refine am_ldc kw_105 dX7_slowsFrom_51 ?_
  refine am_icmp_ne (tgt := 58) (by decide) dX7_slowsFrom_53 (fun h53 => ?_) (fun h53 => ?_)
  · obtain ⟨d, s0, hd⟩ : ∃ d s0, so_F M sb (sx v a) = some (d, s0) := by
      cases w : so_F M sb (sx v a) with
      | none => exact absurd ((so_enc_none hR _).mpr w) h53
      | some p => exact ⟨p.1, p.2, rfl⟩
    refine am_iload_n rfl dX7_slowsFrom_58 ?_
    refine am_istore (by decide) dX7_slowsFrom_59 ?_
    refine am_iload_n rfl dX7_slowsFrom_61 ?_
    refine am_istore (by decide) dX7_slowsFrom_62 ?_
    have h9 := lp_X7_sf2 ad M hR sb (iN v) (iN a) v a h1 h2 h3 h4 d s0 hd (d + 1) 0 _ v a none (by omega) (by omega) rfl hf4 hat4 hrl (fun k hk => absurd hk (Nat.not_lt_zero _))
    refine am_conj ?_ h9
    intros
    rename_i h
    unfold rs_P
    rw [hsb]
    exact ⟨h.1, h.2.1, Or.inr ⟨d, s0, hd, h.2.2⟩⟩
  · refine am_iconst (v := 0) (by decide) dX7_slowsFrom_56 ?_
    refine am_zret rfl (by first | exact am_nb _ | decide) dX7_slowsFrom_57 ?_
    unfold rs_P
    rw [hsb]
    exact ⟨hf4, hat4, Or.inl ⟨(so_enc_none hR _).mp h53, rfl, hrl⟩⟩
set_option maxRecDepth 100000 in
set_option maxHeartbeats 400000 in
theorem c_X7_slowsFrom (ad : Nat → Nat) (M : am_M) (v a : Int) (hR : mRI M) (h1 : 0 ≤ v) (h2 : v ≤ 12) (h3 : -4 ≤ a) (h4 : a ≤ 4) : am_C ydX7_slowsFrom ad am_II [.ref (ad 21), .int (iN v), .int (iN a)] M (rs_P M v a) := by
  refine am_ofW (L := [some (.ref (ad 21)), some (.int (iN v)), some (.int (iN a)), none, none, none, none]) (by decide +kernel) (by simp [Value.category]) (Nat.le_of_ble_eq_true rfl) rfl ?_
  have hsn := sp_num_in h1 h2 h3 h4
  have e : sp_num (iN v) (iN a) = nI (sx v a) := sp_num_e h1 h2 h3 h4
  have hx := (sx_lt h1 h2 h3 h4).1
  have KSa : bI (m_s M) = 0 → m_sb M v a = m_s M := fun q => by
    unfold m_sb
    rw [(bI_0 _).mp q]
    rfl
  have KSb : ¬ bI (m_s M) = 0 → ¬ so_enc (so_F M (m_s M) (sx v a)) = 1000000 → m_sb M v a = m_s M := fun q1 q2 => by
    have q3 := (bI_1 _).mp q1
    rw [q3] at q2 ⊢
    unfold m_sb
    rw [q3]
    cases w : so_F M true (sx v a) with
    | none => exact absurd ((so_enc_none hR _).mpr w) q2
    | some p => rfl
  have KSc : ¬ bI (m_s M) = 0 → so_enc (so_F M (m_s M) (sx v a)) = 1000000 → m_sb M v a = false := fun q1 q2 => by
    have q3 := (bI_1 _).mp q1
    rw [q3] at q2
    unfold m_sb
    rw [q3, (so_enc_none hR _).mp q2]
    rfl
  refine am_aload_n rfl dX7_slowsFrom_0 ?_
  refine am_geti (j := 8) (by decide) rfl rfl rfl hTX7 (by decide) fl_X7_90 dX7_slowsFrom_1 ?_
  rw [hR.s]
  refine am_istore_n (by decide) dX7_slowsFrom_4 ?_
  refine am_aload_n rfl dX7_slowsFrom_5 ?_
  refine am_iload_n rfl dX7_slowsFrom_6 ?_
  refine am_callV (c_X7_slows ad M (m_s M) hR) okX7_slows ml_X7_131 (by decide) rfl rfl rfl ⟨by decide, by decide⟩ (Nat.le_of_ble_eq_true rfl) rfl dX7_slowsFrom_7 (fun r7 N7 p7 => ?_)
  obtain ⟨rfl, hat, hf⟩ := p7
  have KS : ∀ sb, m_s M = sb → m_sb M v a = sb → am_W ydX7_slowsFrom ad am_II (rs_P M v a) 36 [some (.ref (ad 21)), some (.int (iN v)), some (.int (iN a)), some (.int (bI sb)), none, none, none] [] N7 := fun sb q1 q2 => lp_X7_sf3 ad M N7 hR v a h1 h2 h3 h4 sb q2 hf (by rw [← q1]; exact hat)
  refine am_iload_n rfl dX7_slowsFrom_10 ?_
  refine am_if_eq (tgt := 36) (by decide) dX7_slowsFrom_11 (fun h11 => ?_) (fun h11 => ?_)
  · first
    | exact KS _ rfl (KSa h11)
    | exact KS _ rfl (KSb h11 h26)
    | exact lp_X7_sf3 ad M N33 hR v a h1 h2 h3 h4 false (KSc h11 h26) (fun q p1 p2 => (hf2 q p1 p2).trans (hf q p1 p2)) hat2
  · refine am_aload_n rfl dX7_slowsFrom_14 ?_
    refine am_getr (j := 13) (by decide) rfl rfl rfl hTX7 (by decide) fl_X7_36 dX7_slowsFrom_15 ?_
    refine am_iload_n rfl dX7_slowsFrom_18 ?_
    refine am_iload_n rfl dX7_slowsFrom_19 ?_
    refine am_callSi (c_X7_of ad _ _ _) okX7_of ml_X7_127 rfl ⟨by decide, by decide⟩ (Nat.le_of_ble_eq_true rfl) rfl dX7_slowsFrom_20 ?_
    rw [e]
    refine am_iald (by decide) rfl (hsn.1) dX7_slowsFrom_23 ?_
    rw [hsn.2, (hat _ hx).1]
    refine am_ldc kw_105 dX7_slowsFrom_24 ?_
    refine am_icmp_ne (tgt := 36) (by decide) dX7_slowsFrom_26 (fun h26 => ?_) (fun h26 => ?_)
    · first
      | exact KS _ rfl (KSa h11)
      | exact KS _ rfl (KSb h11 h26)
      | exact lp_X7_sf3 ad M N33 hR v a h1 h2 h3 h4 false (KSc h11 h26) (fun q p1 p2 => (hf2 q p1 p2).trans (hf q p1 p2)) hat2
    · refine am_iconst (v := 0) (by decide) dX7_slowsFrom_29 ?_
      refine am_istore_n (by decide) dX7_slowsFrom_30 ?_
      refine am_aload_n rfl dX7_slowsFrom_31 ?_
      refine am_iconst (v := 0) (by decide) dX7_slowsFrom_32 ?_
      refine am_callV (c_X7_slows ad N7 false (hR.cong (hf 21 (by decide) (by decide)))) okX7_slows ml_X7_131 (by decide) rfl rfl rfl ⟨by decide, by decide⟩ (Nat.le_of_ble_eq_true rfl) rfl dX7_slowsFrom_33 (fun r33 N33 p33 => ?_)
      obtain ⟨rfl, hat2, hf2⟩ := p33
      have eF := so_F_cong (M := M) (N := N7) (fun j _ => by rw [hf 21 (by decide) (by decide)]) (hf 22 (by decide) (by decide)) (hf 23 (by decide) (by decide)) false
      rw [eF] at hat2
      first
      | exact KS _ rfl (KSa h11)
      | exact KS _ rfl (KSb h11 h26)
      | exact lp_X7_sf3 ad M N33 hR v a h1 h2 h3 h4 false (KSc h11 h26) (fun q p1 p2 => (hf2 q p1 p2).trans (hf q p1 p2)) hat2

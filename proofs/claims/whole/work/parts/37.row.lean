theorem rn_s_ex {c : Int → Bool} : ∀ (n : Nat) (b : Int), (∃ b0, b - n < b0 ∧ b0 ≤ b ∧ c b0 = true) → c (rn_s c n b) = true ∧ b - n < rn_s c n b ∧ rn_s c n b ≤ b ∧ ∀ b', rn_s c n b < b' → b' ≤ b → c b' = false := by
  intro n
  induction n with
  | zero => rintro b ⟨b0, h1, h2, -⟩; omega
  | succ n ih =>
    rintro b ⟨b0, h1, h2, h3⟩
    rw [rn_s]
    by_cases q : c b = true
    · rw [if_pos q]
      exact ⟨q, by omega, by omega, fun b' p1 p2 => by omega⟩
    · rw [if_neg q]
      have hne : b0 ≠ b := fun e => q (by rw [← e]; exact h3)
      obtain ⟨g1, g2, g3, g4⟩ := ih (b - 1) ⟨b0, by omega, by omega, h3⟩
      refine ⟨g1, by omega, by omega, fun b' p1 p2 => ?_⟩
      by_cases q2 : b' = b
      · rw [q2]
        cases z : c b with
        | false => rfl
        | true => exact absurd z q
      · exact g4 b' p1 (by omega)
theorem rn_s_cong {c c' : Int → Bool} : ∀ (n : Nat) (b : Int), (∀ q, b - n < q → q ≤ b → c q = c' q) → rn_s c n b = rn_s c' n b := by
  intro n
  induction n with
  | zero => intro b _; rfl
  | succ n ih =>
    intro b h
    rw [rn_s, rn_s, h b (by omega) (by omega), ih (b - 1) (fun q p1 p2 => h q (by omega) (by omega))]
def gbc (E : Int → Int → Bool) (F : Nat → Option Nat) (v l : Int) (d : Nat) : Int → Bool := fun b => E (v + b) b && decide ((0 ≤ l - (v + b) ∧ l - (v + b) ≤ 200) ∧ F (bf_idx (v + b) b (l - (v + b))) = some d)
def gb (A J : Int) (E : Int → Int → Bool) (F : Nat → Option Nat) (v a l : Int) : Int := match F (bf_idx v a l) with
  | some (d + 1) => rn_s (gbc E F v l d) (bf_n A J a) (bf_hi A J a)
  | _ => 5
def gst (A J : Int) (E : Int → Int → Bool) (F : Nat → Option Nat) (n : Int) : Nat → Int × Int × Int
  | 0 => (0, 0, n)
  | i + 1 => ((gst A J E F n i).1 + gb A J E F (gst A J E F n i).1 (gst A J E F n i).2.1 (gst A J E F n i).2.2, gb A J E F (gst A J E F n i).1 (gst A J E F n i).2.1 (gst A J E F n i).2.2, (gst A J E F n i).2.2 - ((gst A J E F n i).1 + gb A J E F (gst A J E F n i).1 (gst A J E F n i).2.1 (gst A J E F n i).2.2))
theorem gb_ok {A J : Int} {E : Int → Int → Bool} {F : Nat → Option Nat} {v a l : Int} {d : Nat} (hA : A ≤ 4) (he : F (bf_idx v a l) = some (d + 1)) (hn : ∃ b V, bf_nx V A J E F v a l d b) : gbc E F v l d (gb A J E F v a l) = true ∧ bf_lo A J a ≤ gb A J E F v a l ∧ gb A J E F v a l ≤ bf_hi A J a ∧ ∀ b', gb A J E F v a l < b' → b' ≤ bf_hi A J a → gbc E F v l d b' = false := by
  obtain ⟨b, V, n1, n2, n3, n4, n5, n6⟩ := hn
  have e : gb A J E F v a l = rn_s (gbc E F v l d) (bf_n A J a) (bf_hi A J a) := by
    unfold gb
    rw [he]
  have h := rn_s_ex (c := gbc E F v l d) (bf_n A J a) (bf_hi A J a) ⟨b, by unfold bf_n bf_hi bf_lo; omega, by unfold bf_hi; omega, by unfold gbc; rw [n4, Bool.true_and, decide_eq_true_eq]; exact ⟨n5, n6⟩⟩
  rw [← e] at h
  refine ⟨h.1, ?_, h.2.2.1, h.2.2.2⟩
  have h2 := h.2.1
  unfold bf_n at h2
  omega
theorem gst_ok {V A J : Int} {E : Int → Int → Bool} (hV : V ≤ 12) (hA1 : 1 ≤ A) (hA : A ≤ 4) (hJ : 1 ≤ J) (hE : ∀ w b, -100 ≤ w → w ≤ 100 → -4 ≤ b → b ≤ 4 → E w b = true → (-A ≤ b ∧ b ≤ A) ∧ 0 ≤ w ∧ w ≤ V) {n : Int} (hn : 0 ≤ n) (hn2 : n ≤ 200) {d : Nat} (hd : bf_F V A J E (bf_idx 0 0 n) = some d) : ∀ i, i ≤ d → (0 ≤ (gst A J E (bf_F V A J E) n i).1 ∧ (gst A J E (bf_F V A J E) n i).1 ≤ 12) ∧ (-4 ≤ (gst A J E (bf_F V A J E) n i).2.1 ∧ (gst A J E (bf_F V A J E) n i).2.1 ≤ 4) ∧ (0 ≤ (gst A J E (bf_F V A J E) n i).2.2 ∧ (gst A J E (bf_F V A J E) n i).2.2 ≤ 200) ∧ bf_F V A J E (bf_idx (gst A J E (bf_F V A J E) n i).1 (gst A J E (bf_F V A J E) n i).2.1 (gst A J E (bf_F V A J E) n i).2.2) = some (d - i) := by
  have hp := bf_F_par (V := V) (A := A) (J := J) (E := E) hV hA1 hA hJ (fun w b h1 h2 h3 h4 h5 => (hE w b (by omega) (by omega) h3 h4 h5).1)
  intro i
  induction i with
  | zero => intro _; exact ⟨⟨(by decide : (0 : Int) ≤ 0), (by decide : (0 : Int) ≤ 12)⟩, ⟨(by decide : (-4 : Int) ≤ 0), (by decide : (0 : Int) ≤ 4)⟩, ⟨hn, hn2⟩, hd⟩
  | succ i ih =>
    intro hi
    obtain ⟨⟨h1, h2⟩, ⟨h3, h4⟩, ⟨h5, h6⟩, h7⟩ := ih (by omega)
    rw [gst]
    generalize gst A J E (bf_F V A J E) n i = s at *
    obtain ⟨v, a, l⟩ := s
    dsimp only at *
    rw [show d - i = (d - (i + 1)) + 1 by omega] at h7
    obtain ⟨b0, hb0⟩ := hp v a l _ h1 h2 h3 h4 h5 h6 h7
    have h8 := gb_ok hA h7 ⟨b0, V, hb0⟩
    generalize gb A J E (bf_F V A J E) v a l = b at *
    have h9 := h8.1
    unfold gbc at h9
    rw [Bool.and_eq_true, decide_eq_true_eq] at h9
    have hb1 : -4 ≤ b ∧ b ≤ 4 := by
      have := h8.2.1
      have := h8.2.2.1
      unfold bf_lo at *
      unfold bf_hi at *
      omega
    have h10 := hE _ _ (by omega) (by omega) hb1.1 hb1.2 h9.1
    exact ⟨⟨by omega, by omega⟩, hb1, h9.2.1, h9.2.2⟩
noncomputable def mF (M : am_M) : Nat → Option Nat := bf_F (mV M) (mA M) (mJ M) (me_E M (m_s M))
def mE (M : am_M) : Int → Int → Bool := me_E M (m_s M)
noncomputable def mg (M : am_M) (n : Int) : Nat → Int × Int × Int := gst (mA M) (mJ M) (mE M) (mF M) n
theorem mE_ok {M : am_M} (hR : mRI M) : ∀ w b, -100 ≤ w → w ≤ 100 → -4 ≤ b → b ≤ 4 → mE M w b = true → (-mA M ≤ b ∧ b ≤ mA M) ∧ 0 ≤ w ∧ w ≤ mV M := by
  intro w b h1 h2 h3 h4 h
  unfold mE me_E at h
  rw [decide_eq_true_eq] at h
  have h5 := (mo_state_iff hR (v := w) (a := b) (by omega) (by omega) (by omega) (by omega)).mp h.1
  exact ⟨h5.2, h5.1⟩
theorem mg_ok {M : am_M} (hR : mRI M) {n : Int} (hn : 0 ≤ n) (hn2 : n ≤ 200) {d : Nat} (hd : mF M (bf_idx 0 0 n) = some d) : ∀ i, i ≤ d → (0 ≤ (mg M n i).1 ∧ (mg M n i).1 ≤ 12) ∧ (-4 ≤ (mg M n i).2.1 ∧ (mg M n i).2.1 ≤ 4) ∧ (0 ≤ (mg M n i).2.2 ∧ (mg M n i).2.2 ≤ 200) ∧ mF M (bf_idx (mg M n i).1 (mg M n i).2.1 (mg M n i).2.2) = some (d - i) :=
  gst_ok hR.V.1 hR.2.2.1 hR.V.2 hR.2.2.2.2.1 (mE_ok hR) hn hn2 hd
theorem mF_le {M : am_M} (hR : mRI M) {v a l : Int} {d : Nat} (h1 : 0 ≤ v) (h2 : v ≤ 12) (h3 : -4 ≤ a) (h4 : a ≤ 4) (h5 : 0 ≤ l) (h6 : l ≤ 200) (hd : mF M (bf_idx v a l) = some d) : d ≤ 602 := by
  have hp := bf_F_par (V := mV M) (A := mA M) (J := mJ M) (E := me_E M (m_s M)) hR.V.1 hR.2.2.1 hR.V.2 hR.2.2.2.2.1 (fun w b h1 h2 h3 h4 h5 => (mE_ok hR w b (by omega) (by omega) h3 h4 h5).1)
  have := bf_F_le hp hR.V.2 l.toNat v a l d h1 h2 h3 h4 h5 h6 (Nat.le_refl _) hd
  omega
/-- what stands in the reference's row of ticks left, behind spread -/
def rm_at (M N : am_M) : Prop := ∀ x, x < 23517 → N 24 x = rm_enc (mF M x)
theorem rm_at_of {M N : am_M} (hR : mRI M) {j : Nat} (hj : j = (rm_T M j).2.2) (h : rm_RC N (rm_T M j)) : rm_at M N := by
  intro x hx
  have e : bf_T (mV M) (mA M) (mJ M) (me_E M (m_s M)) bf_Z = rm_T M j := by
    have h9 := bf_T_fin (V := mV M) (A := mA M) (J := mJ M) (E := me_E M (m_s M)) hR.V.1 hR.V.2 hj
    exact h9
  rw [h.1 x hx]
  unfold mF bf_F
  rw [e]
theorem rm_F_none {M : am_M} (hR : mRI M) (x : Nat) : rm_enc (mF M x) = 1000000 ↔ mF M x = none := rm_enc_none (bf_T_ok hR.V.1 hR.V.2 bf_Z) x
def rm_fr4 (M N : am_M) : Prop := (∀ a, a ≠ 21 → a ≠ 24 → a ≠ 25 → a ≠ 26 → N a = M a) ∧ ∀ j, j ≠ 12 → N 21 j = M 21 j
theorem mr_cong {M N : am_M} (h : ∀ j, j ≠ 12 → N 21 j = M 21 j) (h2 : N 22 = M 22) (h3 : N 23 = M 23) : (mV N = mV M ∧ mA N = mA M ∧ mJ N = mJ M) ∧ m_s N = m_s M ∧ (∀ s, me_E N s = me_E M s) ∧ (mRI M → mRI N) := by
  refine ⟨⟨?_, ?_, ?_⟩, ?_, fun s => ?_, fun hR => ?_⟩
  · unfold mV; rw [h 1 (by decide)]
  · unfold mA; rw [h 2 (by decide)]
  · unfold mJ; rw [h 3 (by decide)]
  · unfold m_s; rw [h 8 (by decide)]
  · funext w b
    unfold me_E mo_state mo_safe
    rw [h 1 (by decide), h 2 (by decide), h 4 (by decide), h 5 (by decide), h2, h3]
  · unfold mRI
    rw [h 1 (by decide), h 2 (by decide), h 3 (by decide), h 8 (by decide)]
    exact hR
theorem nI_m1 (e : Nat) : nI (e + 1) - 1 = nI e := nI_pred e
set_option maxRecDepth 100000 in
set_option maxHeartbeats 400000 in
theorem lp_X7_ra1 (ad : Nat → Nat) (M N : am_M) (hR : mRI M) (hf : ∀ j, j ≠ 12 → N 21 j = M 21 j) (hf2 : N 22 = M 22) (hf3 : N 23 = M 23) (hat : rm_at M N) (P : Option Value → am_M → Prop) (n32 : Int32) (v a l g : Int) (e : Nat) (h1 : 0 ≤ v) (h2 : v ≤ 12) (h3 : -4 ≤ a) (h4 : a ≤ 4) (h5 : 0 ≤ l) (h6 : l ≤ 200) (he : mF M (bf_idx v a l) = some (e + 1)) (hg1 : gbc (mE M) (mF M) v l e g = true) (hg2 : bf_lo (mA M) (mJ M) a ≤ g) (hg4 : ∀ b', g < b' → b' ≤ bf_hi (mA M) (mJ M) a → gbc (mE M) (mF M) v l e b' = false) (hg3 : g ≤ bf_hi (mA M) (mJ M) a) (KK : am_W ydX7_ramps ad am_II P 129 [some (.ref (ad 21)), some (.int n32), some (.int (iN v)), some (.int (iN a)), some (.int (iN l)), some (.int (iN g))] [] N) : ∀ (z : Nat) (b : Int), b - g < z → g ≤ b → b ≤ mA M → am_W ydX7_ramps ad am_II P 61 [some (.ref (ad 21)), some (.int n32), some (.int (iN v)), some (.int (iN a)), some (.int (iN l)), some (.int (iN b))] [] N := by
  obtain ⟨⟨eV, eA, eJ⟩, es, eE, eR⟩ := mr_cong hf hf2 hf3
  have hR' := eR hR
  have hA4 : mA M ≤ 4 := hR.V.2
  have hA1 : 1 ≤ mA M := hR.2.2.1
  have hV12 : mV M ≤ 12 := hR.V.1
  have hle := mF_le hR h1 h2 h3 h4 h5 h6 he
  have hg5 : -4 ≤ g := by (unfold bf_lo at hg2; omega)
  have hix := bf_idx_lt h1 h2 h3 h4 h5 h6
  have hsx : sp_node (iN v) (iN a) (iN l) = nI (bf_idx v a l) := sp_node_e h1 h2 h3 h4 h5 h6
  have hv1 : vp_in (nI (bf_idx v a l)) 23517 := vp_in_nI hix.1 (by omega)
  intro z
  induction z with
  | zero => intro b hz hb; omega
  | succ z ih =>
    intro b hz hb hbA
    have hgo := mo_go_iff hR' (v := v) (a := a) (b := b) (s := m_s N) (by omega) (by omega) (by omega) (by omega) (by omega) (by omega)
    rw [eJ, es, eE] at hgo
    have KF : b ≠ g → am_W ydX7_ramps ad am_II P 61 [some (.ref (ad 21)), some (.int n32), some (.int (iN v)), some (.int (iN a)), some (.int (iN l)), some (.int (iN (b - 1)))] [] N := by
      intro hne
      exact ih (b - 1) (by omega) (by omega) (by omega)
    have hE := mE_ok hR (v + b) b (by omega) (by omega) (by omega) (by omega)
    have KF1 : mo_go N (iN v) (iN a) (iN b) (m_s N) = false → b ≠ g := by
      intro q q2
      rw [← q2] at hg1 hg2 hg3
      unfold gbc at hg1
      rw [Bool.and_eq_true] at hg1
      have q4 : mo_go N (iN v) (iN a) (iN b) (m_s N) = true := by
        rw [es]
        exact hgo.mpr ⟨by unfold bf_hi at hg3; unfold bf_lo at hg2; omega, hg1.1⟩
      rw [q4] at q
      cases q
    have KF2 : iN l < iN (v + b) → b ≠ g := by
      intro q q2
      rw [← q2] at hg1
      simp only [Int32.lt_iff_toInt_lt, iN_e] at q
      unfold gbc at hg1
      rw [Bool.and_eq_true, decide_eq_true_eq] at hg1
      omega
    have KF3 : bf_idx (v + b) b (l - v - b) < 23517 → ¬ rm_enc (mF M (bf_idx (v + b) b (l - v - b))) = nI e → b ≠ g := by
      intro _ q q2
      rw [← q2] at hg1
      unfold gbc at hg1
      rw [Bool.and_eq_true, decide_eq_true_eq] at hg1
      exact q (by rw [show l - v - b = l - (v + b) by omega, hg1.2.2]; rfl)
    refine am_aload_n rfl dX7_ramps_61 ?_
    refine am_iload_n rfl dX7_ramps_62 ?_
    refine am_iload_n rfl dX7_ramps_63 ?_
    refine am_iload rfl dX7_ramps_64 ?_
    refine am_aload_n rfl dX7_ramps_66 ?_
    refine am_geti (j := 8) (by decide) rfl rfl rfl hTX7 (by decide) fl_X7_90 dX7_ramps_67 ?_
    rw [hR'.s]
    refine am_callVi (c_X7_mayGo ad N (iN v) (iN a) (iN b) (m_s N) hR'.2.1) okX7_mayGo ml_X7_113 (by decide) rfl rfl rfl ⟨by decide, by decide⟩ (Nat.le_of_ble_eq_true rfl) rfl dX7_ramps_70 ?_
    refine am_ifb_eq (tgt := 123) (by decide) dX7_ramps_73 (fun h73 => ?_) (fun h73 => ?_)
    · refine am_iinc (v := iN (b - 1)) rfl (iN_dec b) (by decide) dX7_ramps_123 ?_
      refine am_goto (tgt := 61) (by decide) dX7_ramps_126 ?_
      first
      | exact KF (KF1 h73)
      | exact KF (KF2 h82)
      | exact KF (KF3 hix2.1 h120)
    · have hgt := hgo.mp (by rw [← es]; exact h73)
      have hE2 := hE hgt.2
      refine am_iload_n rfl dX7_ramps_76 ?_
      refine am_iload rfl dX7_ramps_77 ?_
      refine am_iadd dX7_ramps_79 ?_
      refine am_iload rfl dX7_ramps_80 ?_
      rw [iN_add]
      refine am_icmp_gt (tgt := 123) (by decide) dX7_ramps_82 (fun h82 => ?_) (fun h82 => ?_)
      · refine am_iinc (v := iN (b - 1)) rfl (iN_dec b) (by decide) dX7_ramps_123 ?_
        refine am_goto (tgt := 61) (by decide) dX7_ramps_126 ?_
        first
        | exact KF (KF1 h73)
        | exact KF (KF2 h82)
        | exact KF (KF3 hix2.1 h120)
      · have hvl : v + b ≤ l := by (simp only [Int32.lt_iff_toInt_lt, iN_add, iN_e] at h82; omega)
        have hix2 := bf_idx_lt (v := v + b) (a := b) (l := l - v - b) (by omega) (by omega) (by omega) (by omega) (by omega) (by omega)
        have hsx2 : sp_node (iN (v + b)) (iN b) (iN (l - v - b)) = nI (bf_idx (v + b) b (l - v - b)) := sp_node_e (by omega) (by omega) (by omega) (by omega) (by omega) (by omega)
        have hv2 : vp_in (nI (bf_idx (v + b) b (l - v - b))) 23517 := vp_in_nI hix2.1 (by omega)
        refine am_aload_n rfl dX7_ramps_85 ?_
        refine am_getr (j := 9) (by decide) rfl rfl rfl hTX7 (by decide) fl_X7_27 dX7_ramps_86 ?_
        refine am_iload_n rfl dX7_ramps_89 ?_
        refine am_iload rfl dX7_ramps_90 ?_
        refine am_iadd dX7_ramps_92 ?_
        rw [iN_add]
        refine am_iload rfl dX7_ramps_93 ?_
        refine am_iload rfl dX7_ramps_95 ?_
        refine am_iload_n rfl dX7_ramps_97 ?_
        refine am_isub dX7_ramps_98 ?_
        refine am_iload rfl dX7_ramps_99 ?_
        refine am_isub dX7_ramps_101 ?_
        rw [iN_sub, iN_sub]
        refine am_callSi (c_X7_index ad _ _ _ _) okX7_index ml_X7_109 rfl ⟨by decide, by decide⟩ (Nat.le_of_ble_eq_true rfl) rfl dX7_ramps_102 ?_
        rw [hsx2]
        refine am_iald (by decide) rfl (hv2) dX7_ramps_105 ?_
        rw [nI_clamp (by omega), hat _ hix2.1]
        refine am_aload_n rfl dX7_ramps_106 ?_
        refine am_getr (j := 9) (by decide) rfl rfl rfl hTX7 (by decide) fl_X7_27 dX7_ramps_107 ?_
        refine am_iload_n rfl dX7_ramps_110 ?_
        refine am_iload_n rfl dX7_ramps_111 ?_
        refine am_iload rfl dX7_ramps_112 ?_
        refine am_callSi (c_X7_index ad _ _ _ _) okX7_index ml_X7_109 rfl ⟨by decide, by decide⟩ (Nat.le_of_ble_eq_true rfl) rfl dX7_ramps_114 ?_
        rw [hsx]
        refine am_iald (by decide) rfl (hv1) dX7_ramps_117 ?_
        rw [nI_clamp (by omega), hat _ hix.1, he, show rm_enc (some (e + 1)) = nI (e + 1) from rfl]
        refine am_iconst (v := 1) (by decide) dX7_ramps_118 ?_
        refine am_isub dX7_ramps_119 ?_
        rw [nI_m1]
        refine am_icmp_eq (tgt := 129) (by decide) dX7_ramps_120 (fun h120 => ?_) (fun h120 => ?_)
        · have hF2 : mF M (bf_idx (v + b) b (l - v - b)) = some e := by
            cases w : mF M (bf_idx (v + b) b (l - v - b)) with
            | none => rw [w] at h120; exfalso; have h9 := congrArg Int32.toInt h120; simp only [rm_enc, nI_e, kI_1000000] at h9; omega
            | some e2 => rw [w] at h120; have h9 := congrArg Int32.toInt h120; have h8 := mF_le hR (v := v + b) (a := b) (l := l - v - b) (by omega) (by omega) (by omega) (by omega) (by omega) (by omega) w; simp only [rm_enc, nI_e] at h9; have h10 : e2 = e := (by omega); rw [h10]
          have hgc : gbc (mE M) (mF M) v l e b = true := by
            unfold gbc
            rw [show l - (v + b) = l - v - b by omega, Bool.and_eq_true, decide_eq_true_eq]
            exact ⟨hgt.2, ⟨by omega, by omega⟩, hF2⟩
          have hbg : b = g := by
            by_cases q : b = g
            · exact q
            · have := hg4 b (by omega) (by unfold bf_hi; omega)
              rw [hgc] at this
              cases this
          subst hbg
          exact KK
        · refine am_iinc (v := iN (b - 1)) rfl (iN_dec b) (by decide) dX7_ramps_123 ?_
          refine am_goto (tgt := 61) (by decide) dX7_ramps_126 ?_
          first
          | exact KF (KF1 h73)
          | exact KF (KF2 h82)
          | exact KF (KF3 hix2.1 h120)


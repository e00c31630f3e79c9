theorem sl_I.same {M N : am_M} (h : sl_I M) (e : ∀ a, a < 15 → N a = M a) : sl_I N := by
  obtain ⟨⟨s1, s2⟩, s3, s4⟩ := h
  have ef : ∀ sb, sl_fin N sb = sl_fin M sb := fun sb => sl_fin_cong (e 1 (by decide)) (e 2 (by decide)) (e 3 (by decide)) sb
  refine ⟨⟨?_, fun z => ?_⟩, ?_, fun z => ?_⟩
  · rw [e 7 (by decide)]; exact s1
  · rw [e 7 (by decide), e 1 (by decide)] at z
    rw [ef]
    exact sl_RC_cong (s2 z) (e 7 (by decide)) (e 8 (by decide)) (e 9 (by decide)) (e 10 (by decide))
  · rw [e 11 (by decide)]; exact s3
  · rw [e 11 (by decide), e 1 (by decide)] at z
    rw [ef]
    exact sl_RC_cong (s4 z) (e 11 (by decide)) (e 12 (by decide)) (e 13 (by decide)) (e 14 (by decide))
theorem rl_md6 {M N : am_M} (h1 : N 1 = M 1) (h2 : N 2 = M 2) (h3 : N 3 = M 3) (h21 : N 21 = M 21) (h22 : N 22 = M 22) (h23 : N 23 = M 23) : rl_eq M (md N) := by
  refine ⟨?_, ?_, ?_, ⟨?_, ?_, ?_, ?_, ?_, ?_⟩, ?_, ?_⟩
  · rw [md_ne _ (by decide)]; exact h1
  · rw [md_ne _ (by decide)]; exact h2
  · rw [md_ne _ (by decide)]; exact h3
  · rw [md_f _ (by decide), h21]
  · rw [md_f _ (by decide), h21]
  · rw [md_f _ (by decide), h21]
  · rw [md_f _ (by decide), h21]
  · rw [md_f _ (by decide), h21]
  · rw [md_f _ (by decide), h21]
  · rw [md_ne _ (by decide)]; exact h22
  · rw [md_ne _ (by decide)]; exact h23
theorem rl_eq.st {M N : am_M} (q : rl_eq M N) (v a : Int32) : mo_state N v a = mo_state M v a := by
  unfold mo_state
  rw [q.2.2.2.1.1, q.2.2.2.1.2.1]
/-- behind a call that has changed how the move goes on -/
theorem R.mvq {n : Nat} {M N : am_M} (h : R n M) (hrl : rl_eq M N) (h4 : N 4 4 = M 4 4 ∨ N 4 4 = M 1 8) (hc : N 4 4 = M 1 8 → ∃ k, rp_at N N k) (hs : sl_I N) (h7 : N 7 5 = M 7 5 ∨ N 7 5 = M 1 8) (h11 : N 11 5 = M 11 5 ∨ N 11 5 = M 1 8) (h19 : N 19 = M 19) (h20 : N 20 = M 20) (h36 : N 36 = M 36) (h34 : N 21 34 = M 21 34) (h35 : N 21 35 = M 21 35) (ha : R_ax N) (hf : R_f N) (hgo : sp_goes N = true → R_go N) : R n N := by
  obtain ⟨hru, ⟨v1, v2, v3, v4, v5⟩, -, ⟨k, c1, c2, c3, c4, c5, c6⟩, -⟩ := h
  have e1 := hrl.1
  refine ⟨hrl.rules hru, ⟨?_, ?_, ?_, ?_, ?_⟩, ⟨?_, hs⟩, ⟨k, c1, ?_, ?_, ?_, ?_, ?_⟩, ha, hf, hgo⟩
  · rw [e1]; exact v1
  · rw [e1]; exact v2
  · rw [e1]; rcases h4 with e | e <;> rw [e] <;> omega
  · rw [e1]; rcases h7 with e | e <;> rw [e] <;> omega
  · rw [e1]; rcases h11 with e | e <;> rw [e] <;> omega
  · rw [e1]; exact hc
  · rw [h19]; exact c2
  · rw [h34]; exact c3
  · rw [h35, h19]; exact c4
  · rw [h19]; exact c5
  · rw [h36, h20]; exact c6
theorem sb_of {M K : am_M} (h : R_rules M) (hq : rl_eq M K) (v a : Int) : m_sb K v a = true ↔ sl_saf M v a := by
  unfold m_sb sl_saf
  rw [hq.so, hq.n.1.2.2.2, re_fin h, ← (re_n h).2.2.2, Bool.and_eq_true]
  unfold am_s
  rw [decide_eq_true_eq]
  cases so_F M true (sx v a) <;> simp
theorem slw_7 {M N K : am_M} (h : R_rules M) (hI : sl_I N) (e1 : N 1 = M 1) (e2 : N 2 = M 2) (e3 : N 3 = M 3) (h5 : N 7 5 = M 1 8) (hq : rl_eq M K) {v a : Int} (g1 : 0 ≤ v) (g2 : v ≤ 12) (g3 : -4 ≤ a) (g4 : a ≤ 4) (hsb : m_sb K v a = true) {w : Int32} (hw : w = 0 ∨ w = 1 ∨ w = 2) : mo_slw K v a w = sl_ans_7 N v a w := by
  have hR := h.mRI
  have hRC : sl_RC 7 N (sl_fin M true) := by
    rw [← sl_fin_cong e1 e2 e3]
    exact hI.1.2 (by rw [h5, e1])
  have h0 : N 7 0 = bI true := hI.1.1
  have ht := hRC.1 (sx v a) (sx_lt g1 g2 g3 g4).1
  rw [re_fin h] at ht
  unfold sl_ans_7
  cases e : so_F M true (sx v a) with
  | none =>
    rw [e] at ht
    have ht2 : N 8 (sx v a) = -1 := ht
    rw [mo_slw_none (by rw [hsb, hq.so]; exact e), if_pos ht2]
  | some p =>
    obtain ⟨d, s⟩ := p
    have hsm := so_sml hR e
    have hs := hRC.2.1 (sx v a) d s (by rw [re_fin h]; exact e)
    rw [e] at ht
    have ht2 : N 8 (sx v a) = nI d := ht
    have eK : so_F K (m_sb K v a) (sx v a) = some (d, s) := by rw [hsb, hq.so]; exact e
    rw [ht2, hs, if_neg (nI_not_m1 (by omega))]
    rcases hw with rfl | rfl | rfl
    · rw [mo_slw_0 eK, if_pos rfl]
    · rw [mo_slw_1 eK (by decide) (by decide), if_neg (by decide), if_pos rfl]
    · rw [mo_slw_2 eK, if_neg (show ¬ (2 : Int32) = 0 by decide), if_neg (show ¬ (2 : Int32) = 1 by decide), hsb, hq.s]
      rcases Nat.eq_zero_or_pos d with z | z
      · have hn : sl_nc_7 N v a = 5 := by
          unfold sl_nc_7
          rw [if_pos (by rw [ht2, z]; decide)]
        rw [if_pos z, hn, if_pos (by decide)]
      · have h9 := rk_sl_7 h e1 e2 e3 h0 hRC g1 g2 g3 g4 e z
        have h8 := ms_s M true v a 0
        have h7 := (ms_ok hR (s := true) g1 g2 g3 g4 e 1 (by omega)).2.1
        have h6 : ms M true v a 0 = (v, a) := rfl
        rw [h6] at h8 h9
        rw [Nat.zero_add] at h8
        dsimp only at h8 h9
        have h10 : sl_nc_7 N v a = (ms M true v a 1).2 := by
          rw [h9, h8]
        rw [if_neg (by omega), h10, if_neg (by
          intro q
          have q2 : (iN (ms M true v a 1).2).toInt = (5 : Int32).toInt := by rw [q]
          rw [iN_e, kI_5] at q2
          omega)]
theorem slw_11 {M N K : am_M} (h : R_rules M) (hI : sl_I N) (e1 : N 1 = M 1) (e2 : N 2 = M 2) (e3 : N 3 = M 3) (h5 : N 11 5 = M 1 8) (hq : rl_eq M K) {v a : Int} (g1 : 0 ≤ v) (g2 : v ≤ 12) (g3 : -4 ≤ a) (g4 : a ≤ 4) (hsb : m_sb K v a = false) {w : Int32} (hw : w = 0 ∨ w = 1 ∨ w = 2) : mo_slw K v a w = sl_ans_11 N v a w := by
  have hR := h.mRI
  have hRC : sl_RC 11 N (sl_fin M false) := by
    rw [← sl_fin_cong e1 e2 e3]
    exact hI.2.2 (by rw [h5, e1])
  have h0 : N 11 0 = bI false := hI.2.1
  have ht := hRC.1 (sx v a) (sx_lt g1 g2 g3 g4).1
  rw [re_fin h] at ht
  unfold sl_ans_11
  cases e : so_F M false (sx v a) with
  | none =>
    rw [e] at ht
    have ht2 : N 12 (sx v a) = -1 := ht
    rw [mo_slw_none (by rw [hsb, hq.so]; exact e), if_pos ht2]
  | some p =>
    obtain ⟨d, s⟩ := p
    have hsm := so_sml hR e
    have hs := hRC.2.1 (sx v a) d s (by rw [re_fin h]; exact e)
    rw [e] at ht
    have ht2 : N 12 (sx v a) = nI d := ht
    have eK : so_F K (m_sb K v a) (sx v a) = some (d, s) := by rw [hsb, hq.so]; exact e
    rw [ht2, hs, if_neg (nI_not_m1 (by omega))]
    rcases hw with rfl | rfl | rfl
    · rw [mo_slw_0 eK, if_pos rfl]
    · rw [mo_slw_1 eK (by decide) (by decide), if_neg (by decide), if_pos rfl]
    · rw [mo_slw_2 eK, if_neg (show ¬ (2 : Int32) = 0 by decide), if_neg (show ¬ (2 : Int32) = 1 by decide), hsb, hq.s]
      rcases Nat.eq_zero_or_pos d with z | z
      · have hn : sl_nc_11 N v a = 5 := by
          unfold sl_nc_11
          rw [if_pos (by rw [ht2, z]; decide)]
        rw [if_pos z, hn, if_pos (by decide)]
      · have h9 := rk_sl_11 h e1 e2 e3 h0 hRC g1 g2 g3 g4 e z
        have h8 := ms_s M false v a 0
        have h7 := (ms_ok hR (s := false) g1 g2 g3 g4 e 1 (by omega)).2.1
        have h6 : ms M false v a 0 = (v, a) := rfl
        rw [h6] at h8 h9
        rw [Nat.zero_add] at h8
        dsimp only at h8 h9
        have h10 : sl_nc_11 N v a = (ms M false v a 1).2 := by
          rw [h9, h8]
        rw [if_neg (by omega), h10, if_neg (by
          intro q
          have q2 : (iN (ms M false v a 1).2).toInt = (5 : Int32).toInt := by rw [q]
          rw [iN_e, kI_5] at q2
          omega)]
theorem in02 {w : Int32} (h : sp_in w 0 2 = true) : w = 0 ∨ w = 1 ∨ w = 2 := by
  rw [in_iff, Int32.toInt_zero, kI_2] at h
  rcases ax_case w with q | q | q | q
  · exact Or.inl q
  · exact Or.inr (Or.inl q)
  · exact Or.inr (Or.inr q)
  · unfold sp_noax at q
    omega
theorem two_slowing (ad : Nat → Nat) {n : Nat} {M : am_M} (h : R n M) (v a w : Int32) : Two ad ydX6_slowing ydX7_slowing [.int v, .int a, .int w] (n + 1) M := by
  have hru := h.1
  refine ⟨_, c_X6_slowing ad M v a w hru.2.2.2.2.2 h.2.2.1.2, fun r1 N1 p1 => ?_⟩
  rcases p1 with ⟨i1, rfl, rfl⟩ | ⟨i1, i2, hmv, hr⟩
  · refine ⟨_, c_X7_slowing ad M v a w hru.mRI, fun r2 N2 p2 => ?_⟩
    rcases p2 with ⟨-, rfl, rfl⟩ | ⟨j1, j2, -⟩
    · exact ⟨_, rfl, rfl, h.md.mono (Nat.le_succ n)⟩
    · exfalso
      rw [(rl_md6 rfl rfl rfl rfl rfl rfl : rl_eq M (md M)).st, ← re_state hru] at j1
      rw [j1, j2] at i1
      rcases i1 with z | z <;> cases z
  · have hq := sl_rl hmv
    have ef : ∀ a, (a < 7 ∨ 14 < a) → N1 a = M a := hmv.2.2.2
    have hRN : mRI N1 := hru.mRI.cong (ef 21 (by decide))
    refine ⟨_, c_X7_slowing ad N1 v a w hRN, fun r2 N2 p2 => ?_⟩
    rw [re_state hru] at i1
    rcases p2 with ⟨j1, -⟩ | ⟨-, -, hfr, rfl⟩
    · exfalso
      rw [hq.st] at j1
      rw [i1, i2] at j1
      rcases j1 with z | z <;> cases z
    · have hb := re_in hru i1
      have hfq := so_q hfr
      have hRn : R (n + 1) N2 := (h.qt (qt_sl h hmv hfq.1 hfq.2)).mono (Nat.le_succ n)
      rcases hr with ⟨z1, z2, rfl⟩ | ⟨z1, z2, rfl⟩
      · exact ⟨_, rfl, by rw [slw_7 hru hmv.1 (ef 1 (by decide)) (ef 2 (by decide)) (ef 3 (by decide)) z2 hq hb.1 hb.2.1 hb.2.2.1 hb.2.2.2 ((sb_of hru hq _ _).mpr z1) (in02 i2)], hRn⟩
      · have hsb : m_sb (md N1) v.toInt a.toInt = false := by
          cases e : m_sb (md N1) v.toInt a.toInt with
          | false => rfl
          | true => exact absurd ((sb_of hru hq _ _).mp e) z1
        exact ⟨_, rfl, by rw [slw_11 hru hmv.1 (ef 1 (by decide)) (ef 2 (by decide)) (ef 3 (by decide)) z2 hq hb.1 hb.2.1 hb.2.2.1 hb.2.2.2 hsb (in02 i2)], hRn⟩
theorem goes_nI {d : Nat} (h : d ≤ 1000000) : decide (0 < nI d) = decide (0 < d) := by
  rw [decide_eq_decide, show (0 : Int32) = nI 0 from rfl, nI_ltN (by omega) h]
/-- a stop that goes: both sides alike -/
theorem R_stopped {n : Nat} {M N0 N1 K0 N2 : am_M} {sb : Bool} {d s : Nat} (h : R n M) (hg : sp_goes M = true) (hmv : sl_mv M N0) (hd : so_F M sb (sx (M 15 2).toInt (M 15 3).toInt) = some (d, s)) (h5 : (sb = true ∧ N0 7 5 = M 1 8) ∨ (sb = false ∧ N0 11 5 = M 1 8))
    (e1 : N1 = sp_mSlow N0 (nI d) sb) (hfr : so_fr4 (md N1) K0) (hrow : rs_row (md N1) K0 sb (M 15 2).toInt (M 15 3).toInt d) (e2 : N2 = am_put (mo_follow K0 d) 21 16 1) : R n N2 := by
  have hru := h.1
  have ef : ∀ a, (a < 7 ∨ 14 < a) → N0 a = M a := hmv.2.2.2
  obtain ⟨-, -, -, -, ⟨a1, a2⟩, ⟨⟨f1, f2, f3, f4, f5, f6, f7, f8⟩, f9, f10, f11⟩, hgo⟩ := id h
  have hsm := so_sml hru.mRI hd
  have n1 : ∀ a, a ≠ 15 → N1 a = N0 a := fun a ha => by rw [e1]; simp [sp_mSlow, am_put, ha]
  have k0 : ∀ a, a ≠ 21 → a ≠ 26 → a ≠ 27 → a ≠ 28 → K0 a = N1 a := fun a p1 p2 p3 p4 => by rw [hfr.1 a p1 p2 p3 p4, md_ne _ p1]
  have k21 : ∀ j, j ≠ 0 → j ≠ 12 → K0 21 j = M 21 j := fun j p1 p2 => by rw [hfr.2 j p2, md_f _ p1, n1 21 (by decide), ef 21 (by decide)]
  have n2 : ∀ a, a ≠ 21 → a ≠ 33 → N2 a = K0 a := fun a p1 p2 => by rw [e2]; simp [mo_follow, am_put, am_row, p1, p2]
  have n21 : ∀ j, j ≠ 15 → j ≠ 16 → j ≠ 22 → j ≠ 23 → N2 21 j = K0 21 j := fun j p1 p2 p3 p4 => by rw [e2]; simp [mo_follow, am_rd, am_row, am_put, upd, p1, p2, p3, p4]
  have hlo : ∀ a, a < 15 → N2 a = N0 a := fun a p => by rw [n2 a (by omega) (by omega), k0 a (by omega) (by omega) (by omega) (by omega), n1 a (by omega)]
  have hhi : ∀ a, 15 < a → a ≠ 21 → a ≠ 26 → a ≠ 27 → a ≠ 28 → a ≠ 33 → N2 a = M a := fun a p p1 p2 p3 p4 p5 => by rw [n2 a p1 p5, k0 a p1 p2 p3 p4, n1 a (by omega), ef a (by omega)]
  have h15 : N2 15 = N1 15 := by rw [n2 15 (by decide) (by decide), k0 15 (by decide) (by decide) (by decide) (by decide)]
  have h15j : ∀ j, j ≠ 7 → j ≠ 8 → j ≠ 9 → N2 15 j = M 15 j := fun j p1 p2 p3 => by rw [h15, e1]; simp [sp_mSlow, am_rd, p1, p2, p3]; rw [ef 15 (by decide)]
  have h157 : N2 15 7 = 1 := by rw [h15, e1]; simp [sp_mSlow, am_rd]
  have h158 : N2 15 8 = bI sb := by rw [h15, e1]; simp [sp_mSlow, am_rd]
  have h159 : N2 15 9 = nI d := by rw [h15, e1]; simp [sp_mSlow, am_rd]
  have hgN : sp_goes N2 = decide (0 < d) := by unfold sp_goes; rw [h159]; exact goes_nI (by omega)
  have g1 : N2 1 = M 1 := (hlo 1 (by decide)).trans (ef 1 (by decide))
  have g2 : N2 2 = M 2 := (hlo 2 (by decide)).trans (ef 2 (by decide))
  have g3 : N2 3 = M 3 := (hlo 3 (by decide)).trans (ef 3 (by decide))
  have gj : ∀ j, j ≠ 0 → j ≠ 12 → j ≠ 15 → j ≠ 16 → j ≠ 22 → j ≠ 23 → N2 21 j = M 21 j := fun j p1 p2 p3 p4 p5 p6 => by rw [n21 j p3 p4 p5 p6, k21 j p1 p2]
  have hrl : rl_eq M N2 := ⟨g1, g2, g3, ⟨gj 1 (by decide) (by decide) (by decide) (by decide) (by decide) (by decide), gj 2 (by decide) (by decide) (by decide) (by decide) (by decide) (by decide), gj 3 (by decide) (by decide) (by decide) (by decide) (by decide) (by decide), gj 4 (by decide) (by decide) (by decide) (by decide) (by decide) (by decide), gj 5 (by decide) (by decide) (by decide) (by decide) (by decide) (by decide), gj 8 (by decide) (by decide) (by decide) (by decide) (by decide) (by decide)⟩, hhi 22 (by decide) (by decide) (by decide) (by decide) (by decide) (by decide), hhi 23 (by decide) (by decide) (by decide) (by decide) (by decide) (by decide)⟩
  have hq1 : rl_eq M (md N1) := rl_md6 ((n1 1 (by decide)).trans (ef 1 (by decide))) ((n1 2 (by decide)).trans (ef 2 (by decide))) ((n1 3 (by decide)).trans (ef 3 (by decide))) ((n1 21 (by decide)).trans (ef 21 (by decide))) ((n1 22 (by decide)).trans (ef 22 (by decide))) ((n1 23 (by decide)).trans (ef 23 (by decide)))
  have x26 := gj 26 (by decide) (by decide) (by decide) (by decide) (by decide) (by decide)
  have x25 := gj 25 (by decide) (by decide) (by decide) (by decide) (by decide) (by decide)
  have e16 : ∀ x, x < 3 → N2 (16 + x) = M (16 + x) := fun x hx => hhi (16 + x) (by omega) (by omega) (by omega) (by omega) (by omega) (by omega)
  have e29 := hhi 29 (by decide) (by decide) (by decide) (by decide) (by decide) (by decide)
  have e30 := hhi 30 (by decide) (by decide) (by decide) (by decide) (by decide) (by decide)
  have e31 := hhi 31 (by decide) (by decide) (by decide) (by decide) (by decide) (by decide)
  have e32 := hhi 32 (by decide) (by decide) (by decide) (by decide) (by decide) (by decide)
  have e34 := hhi 34 (by decide) (by decide) (by decide) (by decide) (by decide) (by decide)
  have e35 := hhi 35 (by decide) (by decide) (by decide) (by decide) (by decide) (by decide)
  have x22 : N2 21 22 = nI d := by rw [e2]; simp [mo_follow, am_rd, am_row, am_put, upd]
  have x23 : N2 21 23 = nI 0 := by rw [e2]; simp [mo_follow, am_rd, am_row, am_put, upd]; rfl
  have x15 : N2 21 15 = if 0 < d then 1 else 0 := by rw [e2]; simp [mo_follow, am_rd, am_row, am_put, upd]
  have x16 : N2 21 16 = 1 := by rw [e2]; simp [mo_follow, am_rd]
  have x33 : ∀ i, i < d → N2 33 i = K0 26 i := fun i hi => by rw [e2]; simp [mo_follow, am_rd, am_row, am_put, hi]
  refine h.mvq hrl ?_ ?_ (hmv.1.same hlo) ?_ ?_ ?_ ?_ ?_ ?_ ?_ ⟨?_, ?_⟩ ⟨⟨?_, ?_, ?_, ?_, ?_, ?_, ?_, ?_⟩, ?_, ?_, ?_⟩ ?_
  · rw [hlo 4 (by decide), ef 4 (by decide)]; exact Or.inl rfl
  · rw [hlo 4 (by decide), ef 4 (by decide)]
    intro z
    obtain ⟨k, hk⟩ := h.2.2.1.1 z
    exact ⟨k, hk.same g1 g2 g3 ((hlo 4 (by decide)).trans (ef 4 (by decide))) ((hlo 5 (by decide)).trans (ef 5 (by decide))) ((hlo 6 (by decide)).trans (ef 6 (by decide)))⟩
  · rw [hlo 7 (by decide)]; exact hmv.2.1
  · rw [hlo 11 (by decide)]; exact hmv.2.2.1
  · exact hhi 19 (by decide) (by decide) (by decide) (by decide) (by decide) (by decide)
  · exact hhi 20 (by decide) (by decide) (by decide) (by decide) (by decide) (by decide)
  · exact hhi 36 (by decide) (by decide) (by decide) (by decide) (by decide) (by decide)
  · exact gj 34 (by decide) (by decide) (by decide) (by decide) (by decide) (by decide)
  · exact gj 35 (by decide) (by decide) (by decide) (by decide) (by decide) (by decide)
  · intro x hx
    rw [e16 x hx, e31, e32, e35, e34, e30]
    exact a1 x hx
  · rw [e34]; exact a2
  · rw [h15j 0 (by decide) (by decide) (by decide), x26]; exact f1
  · rw [h15j 1 (by decide) (by decide) (by decide), x25]; exact f2
  · rw [h15j 2 (by decide) (by decide) (by decide), gj 27 (by decide) (by decide) (by decide) (by decide) (by decide) (by decide)]; exact f3
  · rw [h15j 3 (by decide) (by decide) (by decide), gj 28 (by decide) (by decide) (by decide) (by decide) (by decide) (by decide)]; exact f4
  · rw [h15j 4 (by decide) (by decide) (by decide), gj 24 (by decide) (by decide) (by decide) (by decide) (by decide) (by decide)]; exact f5
  · rw [h15j 5 (by decide) (by decide) (by decide), gj 29 (by decide) (by decide) (by decide) (by decide) (by decide) (by decide)]; exact f6
  · rw [h15j 6 (by decide) (by decide) (by decide), gj 30 (by decide) (by decide) (by decide) (by decide) (by decide) (by decide)]; exact f7
  · rw [h157, x16]
  · rw [x26]; exact f9
  · rw [h15j 2 (by decide) (by decide) (by decide), h15j 3 (by decide) (by decide) (by decide)]; exact f10
  · rw [hgN, x15]
    by_cases q : 0 < d <;> simp [q, bI]
  · intro z
    rw [hgN, decide_eq_true_eq] at z
    obtain ⟨p0, c0, -, -, -, -, q5, -⟩ := hgo hg
    refine ⟨0, d, ⟨z, by omega⟩, x23, x22, by rw [h159, Nat.sub_zero], fun x hx => by rw [e16 x hx, x26, x25, e30, e31, e29]; exact q5 x hx, Or.inr ⟨sb, (M 15 2).toInt, (M 15 3).toInt, s, h157, h158, f10, by rw [hrl.so]; exact hd, ?_, ?_, ?_, fun i _ hi => ?_⟩⟩
    · rw [hlo 7 (by decide), hlo 11 (by decide), g1]; exact h5
    · rw [h15j 2 (by decide) (by decide) (by decide)]
      exact (iN_self _).symm
    · rw [h15j 3 (by decide) (by decide) (by decide)]
      exact (iN_self _).symm
    · rw [x33 i hi, hrow.2 i hi, hq1.s, hrl.s]
theorem two_stop (ad : Nat → Nat) {n : Nat} {M : am_M} (h : R n M) : Two ad ydX6_stop ydX7_stop [] (n + 1) M := by
  have hru := h.1
  obtain ⟨⟨f1, f2, f3, f4, f5, f6, f7, f8⟩, f9, f10, f11⟩ := id h.2.2.2.2.2.1
  have hok : ∀ N1 : am_M, N1 21 = M 21 → mo_okStop (md N1) = sp_okStop M := fun N1 e => by
    unfold mo_okStop sp_okStop
    rw [mo_mv_of e, h.mv, md_f _ (by decide), e, f8]
  have hb0 : ∀ N1 : am_M, N1 21 = M 21 → 0 ≤ (md N1 21 27).toInt ∧ (md N1 21 27).toInt ≤ 12 ∧ -4 ≤ (md N1 21 28).toInt ∧ (md N1 21 28).toInt ≤ 4 := fun N1 e => by
    rw [md_f _ (by decide), md_f _ (by decide), e, ← f3, ← f4]; exact f10
  refine ⟨_, c_X6_stop ad M hru.2.2.2.2.2 h.2.2.1.2 f10, fun r1 N1 p1 => ?_⟩
  rcases p1 with ⟨i1, rfl, rfl⟩ | ⟨i1, N0, hmv, hr⟩
  · refine ⟨_, c_X7_stop ad M hru.mRI (hb0 M rfl), fun r2 N2 p2 => ?_⟩
    rcases p2 with ⟨-, rfl, rfl⟩ | ⟨j1, -⟩
    · exact ⟨_, rfl, rfl, h.md.mono (Nat.le_succ n)⟩
    · rw [hok M rfl, i1] at j1; cases j1
  · have ef : ∀ a, (a < 7 ∨ 14 < a) → N0 a = M a := hmv.2.2.2
    have hg : sp_goes M = true := by
      unfold sp_okStop at i1
      rw [Bool.and_eq_true] at i1
      exact i1.1
    obtain ⟨sb, k, hsb, h5, hst⟩ : ∃ (sb : Bool) (k : Nat), ((sb = true ∧ k = 7 ∧ sl_saf M (M 15 2).toInt (M 15 3).toInt) ∨ (sb = false ∧ k = 11 ∧ ¬ sl_saf M (M 15 2).toInt (M 15 3).toInt)) ∧ ((sb = true ∧ N0 7 5 = M 1 8) ∨ (sb = false ∧ N0 11 5 = M 1 8)) ∧ (r1 = some (.int (sp_stopR k M N0)) ∧ N1 = sp_stopM k sb M N0) := by
      rcases hr with ⟨z1, z2, z3, z4⟩ | ⟨z1, z2, z3, z4⟩
      · exact ⟨true, 7, Or.inl ⟨rfl, rfl, z1⟩, Or.inl ⟨rfl, z2⟩, z3, z4⟩
      · exact ⟨false, 11, Or.inr ⟨rfl, rfl, z1⟩, Or.inr ⟨rfl, z2⟩, z3, z4⟩
    obtain ⟨rfl, e1⟩ := hst
    have hR0 : sp_stopR k M N0 = sl_enc (so_F M sb (sx (M 15 2).toInt (M 15 3).toInt)) := by
      unfold sp_stopR
      have hx := (sx_lt f10.1 f10.2.1 f10.2.2.1 f10.2.2.2).1
      rw [← re_fin hru, ← sl_fin_cong (ef 1 (by decide)) (ef 2 (by decide)) (ef 3 (by decide))]
      rcases hsb with ⟨rfl, rfl, -⟩ | ⟨rfl, rfl, -⟩
      · refine (hmv.1.1.2 ?_).1 _ hx
        rcases h5 with ⟨-, z⟩ | ⟨z, -⟩
        · rw [z, ef 1 (by decide)]
        · cases z
      · refine (hmv.1.2.2 ?_).1 _ hx
        rcases h5 with ⟨z, -⟩ | ⟨-, z⟩
        · cases z
        · rw [z, ef 1 (by decide)]
    have n1 : ∀ a, a ≠ 15 → N1 a = N0 a := fun a ha => by
      rw [e1]
      unfold sp_stopM
      split
      · rfl
      · simp [sp_mSlow, am_put, ha]
    have h21 : N1 21 = M 21 := (n1 21 (by decide)).trans (ef 21 (by decide))
    have hq1 : rl_eq M (md N1) := rl_md6 ((n1 1 (by decide)).trans (ef 1 (by decide))) ((n1 2 (by decide)).trans (ef 2 (by decide))) ((n1 3 (by decide)).trans (ef 3 (by decide))) h21 ((n1 22 (by decide)).trans (ef 22 (by decide))) ((n1 23 (by decide)).trans (ef 23 (by decide)))
    have hmsb : m_sb (md N1) (M 15 2).toInt (M 15 3).toInt = sb := by
      rcases hsb with ⟨rfl, -, z⟩ | ⟨rfl, -, z⟩
      · exact (sb_of hru hq1 _ _).mpr z
      · cases e : m_sb (md N1) (M 15 2).toInt (M 15 3).toInt with
        | false => rfl
        | true => exact absurd ((sb_of hru hq1 _ _).mp e) z
    have e27 : md N1 21 27 = M 15 2 := by rw [md_f _ (by decide), h21, f3]
    have e28 : md N1 21 28 = M 15 3 := by rw [md_f _ (by decide), h21, f4]
    refine ⟨_, c_X7_stop ad N1 (hru.mRI.cong h21) (hb0 N1 h21), fun r2 N2 p2 => ?_⟩
    rcases p2 with ⟨j1, -⟩ | ⟨-, K0, hfr, hP⟩
    · rw [hok N1 h21, i1] at j1; cases j1
    · rw [e27, e28, hmsb, hq1.so] at hP
      rcases hP with ⟨z1, rfl, rfl⟩ | ⟨d, s, z1, z2, rfl, z4⟩
      · rw [z1] at hR0
        have e9 : N1 = N0 := by
          rw [e1]
          unfold sp_stopM
          rw [if_pos (show sp_stopR k M N0 = -1 from hR0)]
        subst e9
        have hfq := so_q hfr
        exact ⟨_, rfl, by rw [hR0]; rfl, (h.qt (qt_sl h hmv hfq.1 hfq.2)).mono (Nat.le_succ n)⟩
      · rw [z1] at hR0
        have hR1 : sp_stopR k M N0 = nI d := hR0
        have hsm := so_sml hru.mRI z1
        have e9 : N1 = sp_mSlow N0 (nI d) sb := by
          rw [e1]
          unfold sp_stopM
          rw [hR1, if_neg (nI_not_m1 (by omega))]
        exact ⟨_, rfl, by rw [hR1], (R_stopped h hg hmv z1 h5 e9 hfr z2 z4).mono (Nat.le_succ n)⟩

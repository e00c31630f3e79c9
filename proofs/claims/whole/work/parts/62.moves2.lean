theorem sp_gone_0 {n way : Int32} (h0 : 0 ≤ n.toInt) (h1 : n.toInt ≤ 200) : sp_gone n 0 way = 0 := by
  unfold sp_gone
  by_cases q : 1 ≤ n
  · rw [Int32.le_iff_toInt_le, kI_1] at q
    obtain ⟨m, hm⟩ : ∃ m : Nat, n.toInt = m := ⟨n.toInt.toNat, by omega⟩
    have hn : n = nI m := i_inj (by rw [nI_s (by omega)]; exact hm)
    have e1 : (2 * 0 * iabs way + n : Int32) = nI m := by
      apply i_inj
      have z : (2 * 0 * iabs way : Int32).toInt = 0 := by
        have z1 : (2 * 0 : Int32).toInt = 0 := by decide
        rw [i_mul_s (by rw [z1, Int.zero_mul]; omega), z1, Int.zero_mul]
      rw [i_add, z, nI_s (by omega)]
      omega
    have e2 : (2 * n : Int32) = nI (2 * m) := by
      apply i_inj
      rw [i_mul_s (by rw [kI_2]; omega), kI_2, nI_s (by omega), hm]
      omega
    have e3 : nI m / nI (2 * m) = 0 := by
      rw [pk_div (by omega) (by omega) (by omega), Nat.div_eq_of_lt (by omega)]
      rfl
    rw [if_pos (by rw [Int32.le_iff_toInt_le, kI_1]; exact q), e1, e2, e3]
    split <;> rfl
  · rw [if_neg q]
/-- a move that goes: both sides alike -/
theorem R_moved {n : Nat} {M N0 N1 K0 N2 : am_M} {k c : Nat} {x d0 d1 d2 : Int32} (h : R n M) (hat : rp_at M N0 k) (hfar : rp_far M x.toInt k) (hx : 0 ≤ x.toInt ∧ x.toInt ≤ 200) (hc : mF M (rp_st x.toInt) = some c)
    (e1 : N1 = sp_mv N0 x (nI c) d0 d1 d2) (hfr : rm_fr4 (md N1) K0) (hrow : ∀ i, i < c → K0 26 i = iN (mg M x.toInt (i + 1)).2.1) (e2 : N2 = mo_move K0 x d0 d1 d2 c) : R n N2 := by
  have hru := h.1
  have ef : ∀ a, a ≠ 4 → a ≠ 5 → a ≠ 6 → N0 a = M a := hat.2.2.2.2
  obtain ⟨-, -, -, -, ⟨a1, a2⟩, -⟩ := id h
  have hcl := mF_le hru.mRI (by omega) (by omega) (by omega) (by omega) hx.1 hx.2 hc
  have n1 : ∀ a, a ≠ 15 → a ≠ 16 → a ≠ 17 → a ≠ 18 → N1 a = N0 a := fun a p1 p2 p3 p4 => by rw [e1]; simp [sp_mv, sp_aStart, sp_mStart, am_put, p1, p2, p3, p4]
  have k0 : ∀ a, a ≠ 21 → a ≠ 24 → a ≠ 25 → a ≠ 26 → K0 a = N1 a := fun a p1 p2 p3 p4 => by rw [hfr.1 a p1 p2 p3 p4, md_ne _ p1]
  have k21 : ∀ j, j ≠ 0 → j ≠ 12 → K0 21 j = M 21 j := fun j p1 p2 => by rw [hfr.2 j p2, md_f _ p1, n1 21 (by decide) (by decide) (by decide) (by decide), ef 21 (by decide) (by decide) (by decide)]
  have n2 : ∀ a, a ≠ 21 → a ≠ 29 → a ≠ 30 → a ≠ 33 → N2 a = K0 a := fun a p1 p2 p3 p4 => by rw [e2]; simp [mo_move, mo_new, mo_follow, mo_bg, mo_by, am_put, am_row, p1, p2, p3, p4]
  have hlo : ∀ a, a < 15 → N2 a = N0 a := fun a p => by rw [n2 a (by omega) (by omega) (by omega) (by omega), k0 a (by omega) (by omega) (by omega) (by omega), n1 a (by omega) (by omega) (by omega) (by omega)]
  have hmid : ∀ a, 14 < a → a < 19 → N2 a = N1 a := fun a p q => by rw [n2 a (by omega) (by omega) (by omega) (by omega), k0 a (by omega) (by omega) (by omega) (by omega)]
  have hhi : ∀ a, 18 < a → a ≠ 21 → a ≠ 24 → a ≠ 25 → a ≠ 26 → a ≠ 29 → a ≠ 30 → a ≠ 33 → N2 a = M a := fun a p p1 p2 p3 p4 p5 p6 p7 => by rw [n2 a p1 p5 p6 p7, k0 a p1 p2 p3 p4, n1 a (by omega) (by omega) (by omega) (by omega), ef a (by omega) (by omega) (by omega)]
  have kM : ∀ a, 18 < a → a ≠ 21 → a ≠ 24 → a ≠ 25 → a ≠ 26 → K0 a = M a := fun a p p1 p2 p3 p4 => by rw [k0 a p1 p2 p3 p4, n1 a (by omega) (by omega) (by omega) (by omega), ef a (by omega) (by omega) (by omega)]
  have gj : ∀ j, j ≠ 0 → j ≠ 12 → j < 15 ∨ 30 < j → N2 21 j = M 21 j := fun j p1 p2 p3 => by
    rw [e2, ← k21 j p1 p2]
    have q1 : j ≠ 15 := by omega
    have q2 : j ≠ 16 := by omega
    have q3 : j ≠ 22 := by omega
    have q4 : j ≠ 23 := by omega
    have q5 : j ≠ 24 := by omega
    have q6 : j ≠ 25 := by omega
    have q7 : j ≠ 26 := by omega
    have q8 : j ≠ 27 := by omega
    have q9 : j ≠ 28 := by omega
    have q10 : j ≠ 29 := by omega
    have q11 : j ≠ 30 := by omega
    simp [mo_move, mo_new, mo_follow, mo_bg, mo_by, am_rd, am_row, am_put, upd, q1, q2, q3, q4, q5, q6, q7, q8, q9, q10, q11]
  have g1 : N2 1 = M 1 := (hlo 1 (by decide)).trans (ef 1 (by decide) (by decide) (by decide))
  have g2 : N2 2 = M 2 := (hlo 2 (by decide)).trans (ef 2 (by decide) (by decide) (by decide))
  have g3 : N2 3 = M 3 := (hlo 3 (by decide)).trans (ef 3 (by decide) (by decide) (by decide))
  have hrl : rl_eq M N2 := ⟨g1, g2, g3, ⟨gj 1 (by decide) (by decide) (by decide), gj 2 (by decide) (by decide) (by decide), gj 3 (by decide) (by decide) (by decide), gj 4 (by decide) (by decide) (by decide), gj 5 (by decide) (by decide) (by decide), gj 8 (by decide) (by decide) (by decide)⟩, hhi 22 (by decide) (by decide) (by decide) (by decide) (by decide) (by decide) (by decide) (by decide), hhi 23 (by decide) (by decide) (by decide) (by decide) (by decide) (by decide) (by decide) (by decide)⟩
  have x26 : N2 21 26 = x := by rw [e2]; simp [mo_move, mo_new, am_rd]
  have x25 : N2 21 25 = 0 := by rw [e2]; simp [mo_move, mo_new, am_rd]
  have x27 : N2 21 27 = 0 := by rw [e2]; simp [mo_move, mo_new, am_rd]
  have x28 : N2 21 28 = 0 := by rw [e2]; simp [mo_move, mo_new, am_rd]
  have x24 : N2 21 24 = 0 := by rw [e2]; simp [mo_move, mo_new, am_rd]
  have x29 : N2 21 29 = 0 := by rw [e2]; simp [mo_move, mo_new, am_rd]
  have x30 : N2 21 30 = -1 := by rw [e2]; simp [mo_move, mo_new, am_rd]
  have x16 : N2 21 16 = 0 := by rw [e2]; simp [mo_move, mo_new, am_rd]
  have x22 : N2 21 22 = nI c := by rw [e2]; simp [mo_move, mo_new, mo_follow, am_rd, am_row, am_put, upd]
  have x23 : N2 21 23 = nI 0 := by rw [e2]; simp [mo_move, mo_new, mo_follow, am_rd, am_row, am_put, upd]; rfl
  have x15 : N2 21 15 = if 0 < c then 1 else 0 := by rw [e2]; simp [mo_move, mo_new, mo_follow, am_rd, am_row, am_put, upd]
  have x33 : ∀ i, i < c → N2 33 i = K0 26 i := fun i hi => by rw [e2]; simp [mo_move, mo_new, mo_follow, mo_bg, mo_by, am_rd, am_row, am_put, hi]
  have y29 : ∀ q, q < 3 → N2 29 q = M 31 q := fun q hq => by
    rw [← kM 31 (by decide) (by decide) (by decide) (by decide) (by decide), e2]
    simp [mo_move, mo_new, mo_follow, mo_bg, mo_by, am_rd, am_row, am_put, hq]
  have y30 : ∀ q, q < 3 → N2 30 q = if q = 0 then d0 else if q = 1 then d1 else d2 := fun q hq => by
    rw [e2]
    rcases (by omega : q = 0 ∨ q = 1 ∨ q = 2) with rfl | rfl | rfl <;> simp [mo_move, mo_new, mo_follow, mo_bg, mo_by, am_rd, am_row, am_put, upd]
  have m15 : ∀ j, N2 15 j = sp_mStart N0 x (nI c) 15 j := fun j => by rw [hmid 15 (by decide) (by decide), e1]; simp [sp_mv, sp_aStart, am_put]
  have m15_0 : N2 15 0 = x := by rw [m15]; simp [sp_mStart, am_rd]
  have m15_1 : N2 15 1 = 0 := by rw [m15]; simp [sp_mStart, am_rd]
  have m15_2 : N2 15 2 = 0 := by rw [m15]; simp [sp_mStart, am_rd]
  have m15_3 : N2 15 3 = 0 := by rw [m15]; simp [sp_mStart, am_rd]
  have m15_4 : N2 15 4 = 0 := by rw [m15]; simp [sp_mStart, am_rd]
  have m15_5 : N2 15 5 = 0 := by rw [m15]; simp [sp_mStart, am_rd]
  have m15_6 : N2 15 6 = -1 := by rw [m15]; simp [sp_mStart, am_rd]
  have m15_7 : N2 15 7 = 0 := by rw [m15]; simp [sp_mStart, am_rd]
  have m15_9 : N2 15 9 = nI c := by rw [m15]; simp [sp_mStart, am_rd]
  have hax : ∀ q, q < 3 → (∀ j, j ≠ 4 → j ≠ 5 → N2 (16 + q) j = M (16 + q) j) ∧ N2 (16 + q) 4 = N2 30 q ∧ N2 (16 + q) 5 = 0 := fun q hq => by
    rw [y30 q hq]
    refine ⟨fun j p1 p2 => ?_, ?_, ?_⟩
    · rw [← ef (16 + q) (by omega) (by omega) (by omega), hmid (16 + q) (by omega) (by omega), e1]
      rcases (by omega : q = 0 ∨ q = 1 ∨ q = 2) with rfl | rfl | rfl <;> simp [sp_mv, sp_aStart, sp_mStart, am_rd, p1, p2]
    · rw [hmid (16 + q) (by omega) (by omega), e1]
      rcases (by omega : q = 0 ∨ q = 1 ∨ q = 2) with rfl | rfl | rfl <;> simp [sp_mv, sp_aStart, sp_mStart, am_rd]
    · rw [hmid (16 + q) (by omega) (by omega), e1]
      rcases (by omega : q = 0 ∨ q = 1 ∨ q = 2) with rfl | rfl | rfl <;> simp [sp_mv, sp_aStart, sp_mStart, am_rd]
  have hgN : sp_goes N2 = decide (0 < c) := by unfold sp_goes; rw [m15_9]; exact goes_nI (by omega)
  have e31 := hhi 31 (by decide) (by decide) (by decide) (by decide) (by decide) (by decide) (by decide) (by decide)
  have e32 := hhi 32 (by decide) (by decide) (by decide) (by decide) (by decide) (by decide) (by decide) (by decide)
  have e34 := hhi 34 (by decide) (by decide) (by decide) (by decide) (by decide) (by decide) (by decide) (by decide)
  have e35 := hhi 35 (by decide) (by decide) (by decide) (by decide) (by decide) (by decide) (by decide) (by decide)
  have hself := hat.self.same (hlo 1 (by decide)) (hlo 2 (by decide)) (hlo 3 (by decide)) (hlo 4 (by decide)) (hlo 5 (by decide)) (hlo 6 (by decide))
  have h44 : N2 4 4 = M 1 8 := by rw [hlo 4 (by decide)]; exact hat.2.2.2.1
  refine h.mvq hrl (Or.inr h44) (fun _ => ⟨k, hself⟩) ?_ ?_ ?_ ?_ ?_ ?_ ?_ ?_ ⟨?_, ?_⟩ ⟨⟨?_, ?_, ?_, ?_, ?_, ?_, ?_, ?_⟩, ?_, ?_, ?_⟩ ?_
  · obtain ⟨⟨s1, s2⟩, s3, s4⟩ := h.2.2.1.2
    have e7 : ∀ a, 6 < a → a < 15 → N2 a = M a := fun a p1 p2 => (hlo a p2).trans (ef a (by omega) (by omega) (by omega))
    refine ⟨⟨?_, fun z => ?_⟩, ?_, fun z => ?_⟩
    · rw [e7 7 (by decide) (by decide)]; exact s1
    · rw [e7 7 (by decide) (by decide), g1] at z
      rw [hrl.fin]
      exact sl_RC_cong (s2 z) (e7 7 (by decide) (by decide)) (e7 8 (by decide) (by decide)) (e7 9 (by decide) (by decide)) (e7 10 (by decide) (by decide))
    · rw [e7 11 (by decide) (by decide)]; exact s3
    · rw [e7 11 (by decide) (by decide), g1] at z
      rw [hrl.fin]
      exact sl_RC_cong (s4 z) (e7 11 (by decide) (by decide)) (e7 12 (by decide) (by decide)) (e7 13 (by decide) (by decide)) (e7 14 (by decide) (by decide))
  · rw [hlo 7 (by decide), ef 7 (by decide) (by decide) (by decide)]; exact Or.inl rfl
  · rw [hlo 11 (by decide), ef 11 (by decide) (by decide) (by decide)]; exact Or.inl rfl
  · exact hhi 19 (by decide) (by decide) (by decide) (by decide) (by decide) (by decide) (by decide) (by decide)
  · exact hhi 20 (by decide) (by decide) (by decide) (by decide) (by decide) (by decide) (by decide) (by decide)
  · exact hhi 36 (by decide) (by decide) (by decide) (by decide) (by decide) (by decide) (by decide) (by decide)
  · exact gj 34 (by decide) (by decide) (by decide)
  · exact gj 35 (by decide) (by decide) (by decide)
  · intro q hq
    obtain ⟨b1, b2, b3⟩ := hax q hq
    rw [b1 0 (by decide) (by decide), b1 1 (by decide) (by decide), b1 2 (by decide) (by decide), b1 3 (by decide) (by decide), e31, e32, e34, e35]
    obtain ⟨z1, z2, z3, z4, -⟩ := a1 q hq
    exact ⟨z1, z2, z3, z4, b2⟩
  · rw [e34]; exact a2
  · rw [m15_0, x26]
  · rw [m15_1, x25]
  · rw [m15_2, x27]
  · rw [m15_3, x28]
  · rw [m15_4, x24]
  · rw [m15_5, x29]
  · rw [m15_6, x30]
  · rw [m15_7, x16]
  · rw [x26]; exact hx
  · rw [m15_2, m15_3]; decide
  · rw [hgN, x15]
    by_cases q : 0 < c <;> simp [q, bI]
  · intro z
    rw [hgN, decide_eq_true_eq] at z
    refine ⟨0, c, ⟨z, by omega⟩, x23, x22, by rw [m15_9, Nat.sub_zero], fun q hq => ?_, Or.inl ⟨m15_7, by rw [h44, g1], ⟨k, hself, ?_⟩, ?_, ?_, ?_, fun i _ hi => ?_⟩⟩
    · rw [(hax q hq).2.2, x26, x25, e31, y29 q hq, sp_gone_0 hx.1 hx.2]
      refine ⟨rfl, ?_⟩
      apply i_inj
      rw [i_add, Int32.toInt_zero]
      have := i_rng (M 31 q)
      omega
    · rw [m15_0, hrl.T, rk_ans hru hat.1 hfar.1]; exact hc
    · rw [m15_2]; rfl
    · rw [m15_3]; rfl
    · rw [m15_0, m15_1]
      show x - 0 = iN x.toInt
      rw [iN_self]
      apply i_inj
      rw [i_sub, Int32.toInt_zero]
      have := i_rng x
      omega
    · rw [x33 i hi, hrow i hi, m15_0, hrl.g]
theorem two_move (ad : Nat → Nat) {n : Nat} {M : am_M} (h : R n M) (d0 d1 d2 : Int32) : Two ad ydX6_move ydX7_move [.int d0, .int d1, .int d2] (n + 1) M := by
  have hru := h.1
  have hok : ∀ N1 : am_M, N1 21 = M 21 → mo_okMove (md N1) d0 d1 d2 = sp_okMove M d0 d1 d2 := fun N1 e => by
    unfold mo_okMove sp_okMove
    rw [mo_mv_of e, h.mv]
  refine ⟨_, c_X6_move ad M d0 d1 d2 hru.2.2.2.2.2 h.2.2.1.1, fun r1 N1 p1 => ?_⟩
  rcases p1 with ⟨i1, rfl, rfl⟩ | ⟨i1, k, N0, hat, hfar, rfl, e1⟩
  · refine ⟨_, c_X7_move ad M d0 d1 d2 hru.mRI, fun r2 N2 p2 => ?_⟩
    rcases p2 with ⟨-, rfl, rfl⟩ | ⟨j1, -⟩
    · exact ⟨_, rfl, rfl, h.md.mono (Nat.le_succ n)⟩
    · rw [hok M rfl, i1] at j1; cases j1
  · have ef : ∀ a, a ≠ 4 → a ≠ 5 → a ≠ 6 → N0 a = M a := hat.2.2.2.2
    have hx : 0 ≤ (sp_n d0 d1 d2).toInt ∧ (sp_n d0 d1 d2).toInt ≤ 200 := by
      have i2 := i1
      unfold sp_okMove at i2
      simp only [Bool.and_eq_true] at i2
      have h9 := sp_n_in i2.1.1.2 i2.1.2 i2.2
      rw [in_iff, Int32.toInt_zero, kI_200] at h9
      exact h9
    have hans := rk_ans hru hat.1 hfar.1
    obtain ⟨x, hxe⟩ : ∃ x, sp_n d0 d1 d2 = x := ⟨_, rfl⟩
    rw [hans] at e1 ⊢
    rw [hxe] at e1 hx hfar hans ⊢
    have n1 : ∀ a, a ≠ 15 → a ≠ 16 → a ≠ 17 → a ≠ 18 → N1 a = N0 a := fun a p1 p2 p3 p4 => by
      rw [e1]
      split
      · rfl
      · simp [sp_mv, sp_aStart, sp_mStart, am_put, p1, p2, p3, p4]
    have h21 : N1 21 = M 21 := (n1 21 (by decide) (by decide) (by decide) (by decide)).trans (ef 21 (by decide) (by decide) (by decide))
    have nM : ∀ a, a ≠ 4 → a ≠ 5 → a ≠ 6 → a ≠ 15 → a ≠ 16 → a ≠ 17 → a ≠ 18 → N1 a = M a := fun a p1 p2 p3 p4 p5 p6 p7 => (n1 a p4 p5 p6 p7).trans (ef a p1 p2 p3)
    have hq1 : rl_eq M (md N1) := rl_md6 (nM 1 (by decide) (by decide) (by decide) (by decide) (by decide) (by decide) (by decide)) (nM 2 (by decide) (by decide) (by decide) (by decide) (by decide) (by decide) (by decide)) (nM 3 (by decide) (by decide) (by decide) (by decide) (by decide) (by decide) (by decide)) h21 (nM 22 (by decide) (by decide) (by decide) (by decide) (by decide) (by decide) (by decide)) (nM 23 (by decide) (by decide) (by decide) (by decide) (by decide) (by decide) (by decide))
    refine ⟨_, c_X7_move ad N1 d0 d1 d2 (hru.mRI.cong h21), fun r2 N2 p2 => ?_⟩
    rcases p2 with ⟨j1, -⟩ | ⟨-, b, K0, c, ⟨hfr, hat2, hP⟩, hb12, rfl, e2⟩
    · rw [hok N1 h21, i1] at j1; cases j1
    · rw [hxe] at hP e2
      rw [hq1.F] at hP
      rcases hP with ⟨z1, z2, z3⟩ | ⟨z1, z2, z3, z4⟩ | ⟨z1, d, z2, z3, z4⟩
      · have hb : b = true := by
          cases b
          · exact absurd z2 (by simp [bI])
          · rfl
        obtain ⟨q1, q2⟩ := hb12 hb
        have hc0 : c = 0 := nI_small (by omega) (by omega) (q1.symm.trans z3)
        subst hc0
        have hF : mF M (rp_st x.toInt) = some 0 := by rw [z1]; exact mF_0 hru.mRI
        rw [hF, if_neg (show ¬ rp_enc (some 0) = -1 from nI_not_m1 (by omega))] at e1
        rw [if_pos hb] at e2
        exact ⟨_, rfl, by rw [if_pos hb, hF]; rfl, (R_moved h hat hfar hx hF e1 hfr (fun i hi => absurd hi (by omega)) e2).mono (Nat.le_succ n)⟩
      · have hb : ¬ b = true := by
          cases b
          · simp
          · exact absurd z3 (by simp [bI])
        rw [z2, if_pos (show rp_enc none = -1 from rfl)] at e1
        rw [if_neg hb] at e2
        subst e1 e2
        have hfq := rm_q hfr
        exact ⟨_, rfl, by rw [if_neg hb, z2]; rfl, (h.qt (qt_rp h hat hfar.2 hfq.1 hfq.2)).mono (Nat.le_succ n)⟩
      · have hb : b = true := by
          cases b
          · exact absurd z3 (by simp [bI])
          · rfl
        obtain ⟨q1, q2⟩ := hb12 hb
        have hd := mF_le hru.mRI (by omega) (by omega) (by omega) (by omega) hx.1 hx.2 z2
        have hcd : c = d := nI_small (by omega) (by omega) (q1.symm.trans z4.1)
        subst hcd
        rw [z2, if_neg (show ¬ rp_enc (some c) = -1 from nI_not_m1 (by omega))] at e1
        rw [if_pos hb] at e2
        exact ⟨_, rfl, by rw [if_pos hb, z2]; rfl, (R_moved h hat hfar hx z2 e1 hfr (fun i hi => by rw [z4.2 i hi, hq1.g]) e2).mono (Nat.le_succ n)⟩

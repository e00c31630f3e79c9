theorem in_iff {n l m : Int32} : sp_in n l m = true ↔ l.toInt ≤ n.toInt ∧ n.toInt ≤ m.toInt := by
  unfold sp_in
  rw [decide_eq_true_eq, Int32.le_iff_toInt_le, Int32.le_iff_toInt_le]
theorem mo_mv_of {M N : am_M} (h : N 21 = M 21) : mo_mv (md N) = mo_mv (md M) := by
  unfold mo_mv
  rw [md_f N (by decide), md_f M (by decide), h]
set_option maxRecDepth 100000 in
theorem two_limits (ad : Nat → Nat) {n : Nat} {M : am_M} (h : R n M) (hn : n ≤ 1000) (v c j : Int32) : Two ad ydX6_limits ydX7_limits [.int v, .int c, .int j] (n + 1) M := by
  refine ⟨_, c_X6_limits ad M v c j, fun r1 N1 p1 => ⟨_, c_X7_limits ad N1 v c j, fun r2 N2 p2 => ?_⟩⟩
  obtain ⟨rfl, e1⟩ := p1
  obtain ⟨rfl, e2⟩ := p2
  have h21 : N1 21 = M 21 := by
    rw [e1]
    split
    · simp [sp_tLimits, am_put]
    · rfl
  have hmo : mo_okLim (md N1) v c j = sp_okLim M v c j := by
    unfold mo_okLim sp_okLim
    rw [mo_mv_of h21, h.mv]
  rw [hmo] at e2
  refine ⟨_, rfl, by rw [hmo], ?_⟩
  cases hok : sp_okLim M v c j with
  | false =>
    rw [hok, if_neg (by decide)] at e1 e2
    rw [e2, e1]
    exact h.md.mono (by omega)
  | true =>
    rw [hok, if_pos rfl] at e1 e2
    unfold sp_okLim at hok
    simp only [Bool.and_eq_true, Bool.not_eq_true'] at hok
    obtain ⟨⟨⟨hg, i1⟩, i2⟩, i3⟩ := hok
    rw [in_iff] at i1 i2 i3
    rw [e2, e1]
    obtain ⟨⟨h1, h2, h3, h4, h5, h6⟩, h7, h8, h9, h10, h11⟩ := h.1
    refine h.told hn hg ⟨⟨?_, ?_, ?_, ?_, ?_, ?_⟩, ?_, ?_, ?_, ?_, ?_⟩ ?_ ?_ ?_
    · simp [sp_tLimits, am_rd]
    · simp [sp_tLimits, am_rd]
    · simp [sp_tLimits, am_rd]
    · simpa [sp_tLimits, am_rd] using h4
    · simpa [sp_tLimits, am_rd] using h5
    · simpa [sp_tLimits, am_rd] using h6
    · simpa [sp_tLimits, am_rd] using h7
    · simpa [sp_tLimits, am_rd] using h8
    · simpa [sp_tLimits, am_rd] using h9
    · simpa [sp_tLimits, am_rd] using h10
    · unfold am_RI at h11 ⊢
      simp [sp_tLimits, am_rd]
      rw [kI_1, kI_12] at i1
      rw [kI_1, kI_4] at i2 i3
      exact ⟨i1.1, i1.2, i2.1, i2.2, i3.1, i3.2, h11.2.2.2.2.2.2⟩
    · simp [sp_tLimits, am_rd]
    · intro a p1 p2 p3 p4
      have q1 : a ≠ 1 := by omega
      have q2 : a ≠ 2 := by omega
      have q3 : a ≠ 3 := by omega
      simp [sp_tLimits, am_put, p2, p3, p4, q1, q2, q3]
    · intro j' hj
      have q1 : j' ≠ 0 := by omega
      have q2 : j' ≠ 1 := by omega
      have q3 : j' ≠ 2 := by omega
      have q4 : j' ≠ 3 := by omega
      have q5 : j' ≠ 4 := by omega
      have q6 : j' ≠ 5 := by omega
      have q7 : j' ≠ 8 := by omega
      simp [sp_tLimits, am_rd, q1, q2, q3, q4, q5, q6, q7]
set_option maxRecDepth 100000 in
theorem two_load (ad : Nat → Nat) {n : Nat} {M : am_M} (h : R n M) (hn : n ≤ 1000) (x y : Int32) : Two ad ydX6_load ydX7_load [.int x, .int y] (n + 1) M := by
  refine ⟨_, c_X6_load ad M x y, fun r1 N1 p1 => ⟨_, c_X7_load ad N1 x y, fun r2 N2 p2 => ?_⟩⟩
  obtain ⟨rfl, e1⟩ := p1
  obtain ⟨rfl, e2⟩ := p2
  have h21 : N1 21 = M 21 := by
    rw [e1]
    split
    · simp [sp_tLoad, am_put]
    · rfl
  have hmo : mo_okLoad (md N1) x y = sp_okLoad M x y := by
    unfold mo_okLoad sp_okLoad
    rw [mo_mv_of h21, h.mv]
  rw [hmo] at e2
  refine ⟨_, rfl, by rw [hmo], ?_⟩
  cases hok : sp_okLoad M x y with
  | false =>
    rw [hok, if_neg (by decide)] at e1 e2
    rw [e2, e1]
    exact h.md.mono (by omega)
  | true =>
    rw [hok, if_pos rfl] at e1 e2
    unfold sp_okLoad at hok
    simp only [Bool.and_eq_true, Bool.not_eq_true'] at hok
    obtain ⟨⟨hg, i1⟩, i2⟩ := hok
    rw [e2, e1]
    obtain ⟨⟨h1, h2, h3, h4, h5, h6⟩, h7, h8, h9, h10, h11⟩ := h.1
    refine h.told hn hg ⟨⟨?_, ?_, ?_, ?_, ?_, ?_⟩, ?_, ?_, ?_, ?_, ?_⟩ ?_ ?_ ?_
    · simpa [sp_tLoad, am_rd] using h1
    · simpa [sp_tLoad, am_rd] using h2
    · simpa [sp_tLoad, am_rd] using h3
    · simp [sp_tLoad, am_rd]
    · simp [sp_tLoad, am_rd]
    · simpa [sp_tLoad, am_rd] using h6
    · simpa [sp_tLoad, am_rd] using h7
    · simpa [sp_tLoad, am_rd] using h8
    · simpa [sp_tLoad, am_rd] using h9
    · simpa [sp_tLoad, am_rd] using h10
    · unfold am_RI at h11 ⊢
      simpa [sp_tLoad, am_rd] using h11
    · simp [sp_tLoad, am_rd]
    · intro a p1 p2 p3 p4
      have q1 : a ≠ 1 := by omega
      have q2 : a ≠ 2 := by omega
      have q3 : a ≠ 3 := by omega
      simp [sp_tLoad, am_put, p2, p3, p4, q1, q2, q3]
    · intro j' hj
      have q1 : j' ≠ 0 := by omega
      have q2 : j' ≠ 1 := by omega
      have q3 : j' ≠ 2 := by omega
      have q4 : j' ≠ 3 := by omega
      have q5 : j' ≠ 4 := by omega
      have q6 : j' ≠ 5 := by omega
      have q7 : j' ≠ 8 := by omega
      simp [sp_tLoad, am_rd, q1, q2, q3, q4, q5, q6, q7]
set_option maxRecDepth 100000 in
theorem two_pull (ad : Nat → Nat) {n : Nat} {M : am_M} (h : R n M) (hn : n ≤ 1000) (v p : Int32) : Two ad ydX6_pull ydX7_pull [.int v, .int p] (n + 1) M := by
  refine ⟨_, c_X6_pull ad M v p, fun r1 N1 p1 => ⟨_, c_X7_pull ad N1 v p, fun r2 N2 p2 => ?_⟩⟩
  obtain ⟨rfl, e1⟩ := p1
  obtain ⟨rfl, e2⟩ := p2
  have h21 : N1 21 = M 21 := by
    rw [e1]
    split
    · unfold sp_tPull; split <;> simp [am_put]
    · rfl
  have hmo : mo_okPull (md N1) v p = sp_okPull M v p := by
    unfold mo_okPull sp_okPull
    rw [mo_mv_of h21, h.mv]
  rw [hmo] at e2
  refine ⟨_, rfl, by rw [hmo], ?_⟩
  cases hok : sp_okPull M v p with
  | false =>
    rw [hok, if_neg (by decide)] at e1 e2
    rw [e2, e1]
    exact h.md.mono (by omega)
  | true =>
    rw [hok, if_pos rfl] at e1 e2
    unfold sp_okPull at hok
    simp only [Bool.and_eq_true, Bool.not_eq_true'] at hok
    obtain ⟨⟨hg, i1⟩, i2⟩ := hok
    unfold sp_tPull at e1
    rw [if_pos i1] at e1
    rw [e2, e1]
    obtain ⟨⟨h1, h2, h3, h4, h5, h6⟩, h7, h8, h9, h10, h11⟩ := h.1
    refine h.told hn hg ⟨⟨?_, ?_, ?_, ?_, ?_, ?_⟩, ?_, ?_, ?_, ?_, ?_⟩ ?_ ?_ ?_
    · simpa [am_rd, am_rd] using h1
    · simpa [am_rd, am_rd] using h2
    · simpa [am_rd, am_rd] using h3
    · simpa [am_rd, am_rd] using h4
    · simpa [am_rd, am_rd] using h5
    · simpa [am_rd, am_rd] using h6
    · simpa [am_rd, am_rd] using h7
    · intro j hj
      by_cases q : j = v.toNatClampNeg
      · simp [am_rd, q]
      · simpa [am_rd, q] using h8 j hj
    · simpa [am_rd, am_rd] using h9
    · simpa [am_rd, am_rd] using h10
    · unfold am_RI at h11 ⊢
      simpa [am_rd, am_rd] using h11
    · simp [am_rd]
    · intro a p1 p2 p3 p4
      have q1 : a ≠ 1 := by omega
      have q2 : a ≠ 2 := by omega
      have q3 : a ≠ 3 := by omega
      simp [am_rd, am_put, p2, p3, p4, q1, q2, q3]
    · intro j' hj
      have q1 : j' ≠ 0 := by omega
      have q2 : j' ≠ 1 := by omega
      have q3 : j' ≠ 2 := by omega
      have q4 : j' ≠ 3 := by omega
      have q5 : j' ≠ 4 := by omega
      have q6 : j' ≠ 5 := by omega
      have q7 : j' ≠ 8 := by omega
      simp [am_rd, am_rd, q1, q2, q3, q4, q5, q6, q7]
set_option maxRecDepth 100000 in
theorem two_only (ad : Nat → Nat) {n : Nat} {M : am_M} (h : R n M) (hn : n ≤ 1000) (b : Bool) : Two ad ydX6_only ydX7_only [.int (bI b)] (n + 1) M := by
  refine ⟨_, c_X6_only ad M b, fun r1 N1 p1 => ⟨_, c_X7_only ad N1 b, fun r2 N2 p2 => ?_⟩⟩
  obtain ⟨rfl, e1⟩ := p1
  obtain ⟨rfl, e2⟩ := p2
  have h21 : N1 21 = M 21 := by
    rw [e1]
    split
    · simp [sp_tOnly, am_put]
    · rfl
  have hmo : mo_okOnly (md N1) b = sp_okOnly M b := by
    unfold mo_okOnly sp_okOnly
    rw [mo_mv_of h21, h.mv, md_f N1 (by decide), h21, h.1.1.2.2.2.2.2]
  rw [hmo] at e2
  refine ⟨_, rfl, by rw [hmo], ?_⟩
  cases hok : sp_okOnly M b with
  | false =>
    rw [hok, if_neg (by decide)] at e1 e2
    rw [e2, e1]
    exact h.md.mono (by omega)
  | true =>
    rw [hok, if_pos rfl] at e1 e2
    unfold sp_okOnly at hok
    simp only [Bool.and_eq_true, Bool.not_eq_true'] at hok
    obtain ⟨hg, i1⟩ := hok
    rw [e2, e1]
    obtain ⟨⟨h1, h2, h3, h4, h5, h6⟩, h7, h8, h9, h10, h11⟩ := h.1
    refine h.told hn hg ⟨⟨?_, ?_, ?_, ?_, ?_, ?_⟩, ?_, ?_, ?_, ?_, ?_⟩ ?_ ?_ ?_
    · simpa [sp_tOnly, am_rd] using h1
    · simpa [sp_tOnly, am_rd] using h2
    · simpa [sp_tOnly, am_rd] using h3
    · simpa [sp_tOnly, am_rd] using h4
    · simpa [sp_tOnly, am_rd] using h5
    · simp [sp_tOnly, am_rd]
    · simpa [sp_tOnly, am_rd] using h7
    · simpa [sp_tOnly, am_rd] using h8
    · simpa [sp_tOnly, am_rd] using h9
    · simpa [sp_tOnly, am_rd] using h10
    · unfold am_RI at h11 ⊢
      simp [sp_tOnly, am_rd]
      refine ⟨h11.1, h11.2.1, h11.2.2.1, h11.2.2.2.1, h11.2.2.2.2.1, h11.2.2.2.2.2.1, ?_⟩
      cases b <;> simp [bI]
    · simp [sp_tOnly, am_rd]
    · intro a p1 p2 p3 p4
      have q1 : a ≠ 1 := by omega
      have q2 : a ≠ 2 := by omega
      have q3 : a ≠ 3 := by omega
      simp [sp_tOnly, am_put, p2, p3, p4, q1, q2, q3]
    · intro j' hj
      have q1 : j' ≠ 0 := by omega
      have q2 : j' ≠ 1 := by omega
      have q3 : j' ≠ 2 := by omega
      have q4 : j' ≠ 3 := by omega
      have q5 : j' ≠ 4 := by omega
      have q6 : j' ≠ 5 := by omega
      have q7 : j' ≠ 8 := by omega
      simp [sp_tOnly, am_rd, q1, q2, q3, q4, q5, q6, q7]
set_option maxRecDepth 100000 in
theorem two_bad (ad : Nat → Nat) {n : Nat} {M : am_M} (h : R n M) (hn : n ≤ 1000) (v : Int32) (b : Bool) : Two ad ydX6_bad ydX7_bad [.int v, .int (bI b)] (n + 1) M := by
  refine ⟨_, c_X6_bad ad M v b, fun r1 N1 p1 => ⟨_, c_X7_bad ad N1 v b, fun r2 N2 p2 => ?_⟩⟩
  obtain ⟨rfl, e1⟩ := p1
  obtain ⟨rfl, e2⟩ := p2
  have h21 : N1 21 = M 21 := by
    rw [e1]
    split
    · unfold sp_tBad; split <;> simp [am_put]
    · rfl
  have h22 : N1 22 = M 22 := by
    rw [e1]
    split
    · unfold sp_tBad; split <;> simp [am_put]
    · rfl
  have hmo : mo_okBad (md N1) v b = sp_okBad M v b := by
    unfold mo_okBad sp_okBad
    rw [mo_mv_of h21, h.mv]
    cases hi : sp_in v 1 12 with
    | false => simp
    | true =>
      rw [in_iff, kI_1, kI_12] at hi
      have hc : v.toNatClampNeg < 13 := by rw [i_cl]; omega
      have e22 : md N1 22 v.toNatClampNeg = M 2 v.toNatClampNeg := by
        rw [md_ne N1 (by decide), h22, h.1.2.1 _ hc]
      have eb : sp_bad M v = decide (¬ M 2 v.toNatClampNeg = 0) := by
        unfold sp_bad
        rw [decide_eq_decide]
        exact ⟨fun q => q.2.2, fun q => ⟨by rw [Int32.le_iff_toInt_le, Int32.toInt_zero]; omega, by rw [Int32.lt_iff_toInt_lt, kI_13]; omega, q⟩⟩
      rw [e22, eb]
      congr 1
      rcases h.1.2.2.2.2.1 v.toNatClampNeg with z | z <;> rw [z] <;> cases b <;> decide
  rw [hmo] at e2
  refine ⟨_, rfl, by rw [hmo], ?_⟩
  cases hok : sp_okBad M v b with
  | false =>
    rw [hok, if_neg (by decide)] at e1 e2
    rw [e2, e1]
    exact h.md.mono (by omega)
  | true =>
    rw [hok, if_pos rfl] at e1 e2
    unfold sp_okBad at hok
    simp only [Bool.and_eq_true, Bool.not_eq_true'] at hok
    obtain ⟨⟨hg, i1⟩, i2⟩ := hok
    have i0 : sp_in v 0 12 = true := by
      rw [in_iff] at i1 ⊢
      rw [kI_1] at i1
      rw [Int32.toInt_zero]
      omega
    have iv : 1 ≤ v.toNatClampNeg := by
      rw [in_iff, kI_1] at i1
      rw [i_cl]
      omega
    unfold sp_tBad at e1
    rw [if_pos i0] at e1
    rw [e2, e1]
    obtain ⟨⟨h1, h2, h3, h4, h5, h6⟩, h7, h8, h9, h10, h11⟩ := h.1
    refine h.told hn hg ⟨⟨?_, ?_, ?_, ?_, ?_, ?_⟩, ?_, ?_, ?_, ?_, ?_⟩ ?_ ?_ ?_
    · simpa [am_rd, am_rd] using h1
    · simpa [am_rd, am_rd] using h2
    · simpa [am_rd, am_rd] using h3
    · simpa [am_rd, am_rd] using h4
    · simpa [am_rd, am_rd] using h5
    · simpa [am_rd, am_rd] using h6
    · intro j hj
      by_cases q : j = v.toNatClampNeg
      · simp [am_rd, q]
      · simpa [am_rd, q] using h7 j hj
    · simpa [am_rd, am_rd] using h8
    · have q : ¬ 0 = v.toNatClampNeg := by omega
      simpa [am_rd, q] using h9
    · intro j
      by_cases q : j = v.toNatClampNeg
      · simp [am_rd, q]
        cases b <;> simp [bI]
      · simpa [am_rd, q] using h10 j
    · unfold am_RI at h11 ⊢
      simpa [am_rd, am_rd] using h11
    · simp [am_rd]
    · intro a p1 p2 p3 p4
      have q1 : a ≠ 1 := by omega
      have q2 : a ≠ 2 := by omega
      have q3 : a ≠ 3 := by omega
      simp [am_rd, am_put, p2, p3, p4, q1, q2, q3]
    · intro j' hj
      have q1 : j' ≠ 0 := by omega
      have q2 : j' ≠ 1 := by omega
      have q3 : j' ≠ 2 := by omega
      have q4 : j' ≠ 3 := by omega
      have q5 : j' ≠ 4 := by omega
      have q6 : j' ≠ 5 := by omega
      have q7 : j' ≠ 8 := by omega
      simp [am_rd, am_rd, q1, q2, q3, q4, q5, q6, q7]
theorem two_state (ad : Nat → Nat) {n : Nat} {M : am_M} (h : R n M) (w : Int32) : Two ad ydX6_state ydX7_state [.int w] (n + 1) M := by
  refine Two.is (c_X6_state ad M w) (c_X7_state ad M w) ?_ (h.md.mono (by omega))
  obtain ⟨⟨f1, f2, f3, f4, f5, f6, f7, f8⟩, f9, f10, f11⟩ := h.2.2.2.2.2.1
  unfold mo_stat sp_stat
  rw [md_f M (by decide), md_f M (by decide), md_f M (by decide), md_f M (by decide), md_f M (by decide), md_f M (by decide), md_f M (by decide), md_f M (by decide), md_f M (by decide), f11, ← f1, ← f2, ← f3, ← f4, ← f5, ← f6, ← f7, ← f8]
  cases sp_goes M <;> simp [bI]

/-- where the axes and switches alone have changed -/
theorem R.axs {n : Nat} {M N : am_M} (h : R n M) (hsm : ∀ a, a ≠ 16 → a ≠ 17 → a ≠ 18 → a ≠ 31 → a ≠ 32 → a ≠ 34 → a ≠ 35 → N a = M a) (ha : R_ax N) (hgo : sp_goes M = true → ∀ x, x < 3 → N (16 + x) 5 = M (16 + x) 5 ∧ N 31 x = M 31 x) : R n N := by
  have e : ∀ a, a < 16 → N a = M a := fun a p => hsm a (by omega) (by omega) (by omega) (by omega) (by omega) (by omega) (by omega)
  have s19 : N 19 = M 19 := hsm 19 (by decide) (by decide) (by decide) (by decide) (by decide) (by decide) (by decide)
  have s20 : N 20 = M 20 := hsm 20 (by decide) (by decide) (by decide) (by decide) (by decide) (by decide) (by decide)
  have s21 : N 21 = M 21 := hsm 21 (by decide) (by decide) (by decide) (by decide) (by decide) (by decide) (by decide)
  have s22 : N 22 = M 22 := hsm 22 (by decide) (by decide) (by decide) (by decide) (by decide) (by decide) (by decide)
  have s23 : N 23 = M 23 := hsm 23 (by decide) (by decide) (by decide) (by decide) (by decide) (by decide) (by decide)
  have s29 : N 29 = M 29 := hsm 29 (by decide) (by decide) (by decide) (by decide) (by decide) (by decide) (by decide)
  have s30 : N 30 = M 30 := hsm 30 (by decide) (by decide) (by decide) (by decide) (by decide) (by decide) (by decide)
  have s33 : N 33 = M 33 := hsm 33 (by decide) (by decide) (by decide) (by decide) (by decide) (by decide) (by decide)
  have s36 : N 36 = M 36 := hsm 36 (by decide) (by decide) (by decide) (by decide) (by decide) (by decide) (by decide)
  have hq : rl_eq M N := ⟨e 1 (by decide), e 2 (by decide), e 3 (by decide), by rw [s21]; exact ⟨rfl, rfl, rfl, rfl, rfl, rfl⟩, s22, s23⟩
  have eg : sp_goes N = sp_goes M := by unfold sp_goes; rw [e 15 (by decide)]
  obtain ⟨hru, hv, ⟨hc1, ⟨s1, s2⟩, s3, s4⟩, ⟨k, c1, c2, c3, c4, c5, c6⟩, -, hf, hg⟩ := h
  refine ⟨hq.rules hru, ?_, ⟨fun z => ?_, ⟨?_, fun z => ?_⟩, ?_, fun z => ?_⟩, ⟨k, c1, ?_, ?_, ?_, ?_, ?_⟩, ha, ?_, ?_⟩
  · unfold R_ver
    rw [e 1 (by decide), e 4 (by decide), e 7 (by decide), e 11 (by decide)]
    exact hv
  · rw [e 4 (by decide), e 1 (by decide)] at z
    obtain ⟨k, hk⟩ := hc1 z
    exact ⟨k, hk.same (e 1 (by decide)) (e 2 (by decide)) (e 3 (by decide)) (e 4 (by decide)) (e 5 (by decide)) (e 6 (by decide))⟩
  · rw [e 7 (by decide)]; exact s1
  · rw [e 7 (by decide), e 1 (by decide)] at z
    rw [hq.fin]
    exact sl_RC_cong (s2 z) (e 7 (by decide)) (e 8 (by decide)) (e 9 (by decide)) (e 10 (by decide))
  · rw [e 11 (by decide)]; exact s3
  · rw [e 11 (by decide), e 1 (by decide)] at z
    rw [hq.fin]
    exact sl_RC_cong (s4 z) (e 11 (by decide)) (e 12 (by decide)) (e 13 (by decide)) (e 14 (by decide))
  · rw [s19]; exact c2
  · rw [s21]; exact c3
  · rw [s21, s19]; exact c4
  · rw [s19]; exact c5
  · rw [s36, s20]; exact c6
  · unfold R_f
    rw [eg, e 15 (by decide), s21]
    exact hf
  · intro z
    rw [eg] at z
    have hx := hgo z
    obtain ⟨p, c, g1, g2, g3, g4, g5, g6⟩ := hg z
    refine ⟨p, c, g1, by rw [s21]; exact g2, by rw [s21]; exact g3, by rw [e 15 (by decide)]; exact g4, fun x hx3 => by rw [(hx x hx3).1, (hx x hx3).2, s21, s30, s29]; exact g5 x hx3, ?_⟩
    rcases g6 with ⟨m1, m2, ⟨k1, m3, m4⟩, m5, m6, m7, m8⟩ | ⟨sb, v0, a0, s, m1, m2, m3, m4, m5, m6, m7, m8⟩
    · refine Or.inl ⟨by rw [e 15 (by decide)]; exact m1, by rw [e 4 (by decide), e 1 (by decide)]; exact m2, ⟨k1, m3.same (e 1 (by decide)) (e 2 (by decide)) (e 3 (by decide)) (e 4 (by decide)) (e 5 (by decide)) (e 6 (by decide)), by rw [hq.T, e 15 (by decide)]; exact m4⟩, ?_, ?_, ?_, ?_⟩
      · rw [e 15 (by decide), hq.g]; exact m5
      · rw [e 15 (by decide), hq.g]; exact m6
      · rw [e 15 (by decide), hq.g]; exact m7
      · rw [e 15 (by decide), hq.g, s33]; exact m8
    · refine Or.inr ⟨sb, v0, a0, s, by rw [e 15 (by decide)]; exact m1, by rw [e 15 (by decide)]; exact m2, m3, by rw [hq.so]; exact m4, by rw [e 7 (by decide), e 11 (by decide), e 1 (by decide)]; exact m5, ?_, ?_, ?_⟩
      · rw [e 15 (by decide), hq.s]; exact m6
      · rw [e 15 (by decide), hq.s]; exact m7
      · rw [hq.s, s33]; exact m8
/-- where the currents alone have changed -/
theorem R.curs {n : Nat} {M N : am_M} (h : R n M) (hsm : ∀ a, a ≠ 19 → a ≠ 20 → a ≠ 21 → a ≠ 36 → N a = M a) (h21 : ∀ j, j ≠ 34 → j ≠ 35 → N 21 j = M 21 j) (hc : R_cur N) : R n N := by
  have e : ∀ a, a ≠ 19 → a ≠ 20 → a ≠ 21 → a ≠ 36 → N a = M a := hsm
  have ej : ∀ j, j < 34 → N 21 j = M 21 j := fun j hj => h21 j (by omega) (by omega)
  have e1 : N 1 = M 1 := e 1 (by decide) (by decide) (by decide) (by decide)
  have e2 : N 2 = M 2 := e 2 (by decide) (by decide) (by decide) (by decide)
  have e3 : N 3 = M 3 := e 3 (by decide) (by decide) (by decide) (by decide)
  have e4 : N 4 = M 4 := e 4 (by decide) (by decide) (by decide) (by decide)
  have e5 : N 5 = M 5 := e 5 (by decide) (by decide) (by decide) (by decide)
  have e6 : N 6 = M 6 := e 6 (by decide) (by decide) (by decide) (by decide)
  have e7 : N 7 = M 7 := e 7 (by decide) (by decide) (by decide) (by decide)
  have e11 : N 11 = M 11 := e 11 (by decide) (by decide) (by decide) (by decide)
  have e15 : N 15 = M 15 := e 15 (by decide) (by decide) (by decide) (by decide)
  have e16 : ∀ x, x < 3 → N (16 + x) = M (16 + x) := fun x hx => e (16 + x) (by omega) (by omega) (by omega) (by omega)
  have e29 : N 29 = M 29 := e 29 (by decide) (by decide) (by decide) (by decide)
  have e30 : N 30 = M 30 := e 30 (by decide) (by decide) (by decide) (by decide)
  have e31 : N 31 = M 31 := e 31 (by decide) (by decide) (by decide) (by decide)
  have e32 : N 32 = M 32 := e 32 (by decide) (by decide) (by decide) (by decide)
  have e33 : N 33 = M 33 := e 33 (by decide) (by decide) (by decide) (by decide)
  have e34 : N 34 = M 34 := e 34 (by decide) (by decide) (by decide) (by decide)
  have e35 : N 35 = M 35 := e 35 (by decide) (by decide) (by decide) (by decide)
  have hq : rl_eq M N := ⟨e1, e2, e3, ⟨ej 1 (by decide), ej 2 (by decide), ej 3 (by decide), ej 4 (by decide), ej 5 (by decide), ej 8 (by decide)⟩, e 22 (by decide) (by decide) (by decide) (by decide), e 23 (by decide) (by decide) (by decide) (by decide)⟩
  have eg : sp_goes N = sp_goes M := by unfold sp_goes; rw [e15]
  obtain ⟨hru, hv, ⟨hc1, ⟨s1, s2⟩, s3, s4⟩, -, ⟨a1, a2⟩, ⟨⟨f1, f2, f3, f4, f5, f6, f7, f8⟩, f9, f10, f11⟩, hg⟩ := h
  refine ⟨hq.rules hru, ?_, ⟨fun z => ?_, ⟨?_, fun z => ?_⟩, ?_, fun z => ?_⟩, hc, ⟨?_, ?_⟩, ⟨⟨?_, ?_, ?_, ?_, ?_, ?_, ?_, ?_⟩, ?_, ?_, ?_⟩, ?_⟩
  · unfold R_ver
    rw [e1, e4, e7, e11]
    exact hv
  · rw [e4, e1] at z
    obtain ⟨k, hk⟩ := hc1 z
    exact ⟨k, hk.same e1 e2 e3 e4 e5 e6⟩
  · rw [e7]; exact s1
  · rw [e7, e1] at z
    rw [hq.fin]
    exact sl_RC_cong (s2 z) e7 (e 8 (by decide) (by decide) (by decide) (by decide)) (e 9 (by decide) (by decide) (by decide) (by decide)) (e 10 (by decide) (by decide) (by decide) (by decide))
  · rw [e11]; exact s3
  · rw [e11, e1] at z
    rw [hq.fin]
    exact sl_RC_cong (s4 z) e11 (e 12 (by decide) (by decide) (by decide) (by decide)) (e 13 (by decide) (by decide) (by decide) (by decide)) (e 14 (by decide) (by decide) (by decide) (by decide))
  · intro x hx
    rw [e16 x hx, e31, e32, e35, e34, e30]
    exact a1 x hx
  · rw [e34]; exact a2
  · rw [e15, ej 26 (by decide)]; exact f1
  · rw [e15, ej 25 (by decide)]; exact f2
  · rw [e15, ej 27 (by decide)]; exact f3
  · rw [e15, ej 28 (by decide)]; exact f4
  · rw [e15, ej 24 (by decide)]; exact f5
  · rw [e15, ej 29 (by decide)]; exact f6
  · rw [e15, ej 30 (by decide)]; exact f7
  · rw [e15, ej 16 (by decide)]; exact f8
  · rw [ej 26 (by decide)]; exact f9
  · rw [e15]; exact f10
  · rw [eg, ej 15 (by decide)]; exact f11
  · intro z
    rw [eg] at z
    obtain ⟨p, c, g1, g2, g3, g4, g5, g6⟩ := hg z
    refine ⟨p, c, g1, by rw [ej 23 (by decide)]; exact g2, by rw [ej 22 (by decide)]; exact g3, by rw [e15]; exact g4, fun x hx => by rw [e16 x hx, ej 26 (by decide), ej 25 (by decide), e30, e31, e29]; exact g5 x hx, ?_⟩
    rcases g6 with ⟨m1, m2, ⟨k1, m3, m4⟩, m5, m6, m7, m8⟩ | ⟨sb, v0, a0, s, m1, m2, m3, m4, m5, m6, m7, m8⟩
    · refine Or.inl ⟨by rw [e15]; exact m1, by rw [e4, e1]; exact m2, ⟨k1, m3.same e1 e2 e3 e4 e5 e6, by rw [hq.T, e15]; exact m4⟩, ?_, ?_, ?_, ?_⟩
      · rw [e15, hq.g]; exact m5
      · rw [e15, hq.g]; exact m6
      · rw [e15, hq.g]; exact m7
      · rw [e15, hq.g, e33]; exact m8
    · refine Or.inr ⟨sb, v0, a0, s, by rw [e15]; exact m1, by rw [e15]; exact m2, m3, by rw [hq.so]; exact m4, by rw [e7, e11, e1]; exact m5, ?_, ?_, ?_⟩
      · rw [e15, hq.s]; exact m6
      · rw [e15, hq.s]; exact m7
      · rw [hq.s, e33]; exact m8
theorem ax_case (x : Int32) : x = 0 ∨ x = 1 ∨ x = 2 ∨ sp_noax x := by
  unfold sp_noax
  rcases (by omega : x.toInt = 0 ∨ x.toInt = 1 ∨ x.toInt = 2 ∨ (x.toInt < 0 ∨ 2 < x.toInt)) with q | q | q | q
  · exact Or.inl (i_inj (by rw [q]; rfl))
  · exact Or.inr (Or.inl (i_inj (by rw [q]; rfl)))
  · exact Or.inr (Or.inr (Or.inl (i_inj (by rw [q]; rfl))))
  · exact Or.inr (Or.inr (Or.inr q))
theorem noax_in {x : Int32} (h : sp_noax x) : sp_in x 0 2 = false := by
  cases e : sp_in x 0 2 with
  | false => rfl
  | true =>
    rw [in_iff, Int32.toInt_zero, kI_2] at e
    unfold sp_noax at h
    omega
set_option maxRecDepth 100000 in
theorem two_at_0 (ad : Nat → Nat) {n : Nat} {M : am_M} (h : R n M) (s : Int32) : Two ad ydX6_at ydX7_at [.int 0, .int s] (n + 1) M := by
  have e0 : (0 : Int32).toNatClampNeg = 0 := by decide
  have eo : mo_okAt 0 s = sp_in s (-2000) 2000 := by
    unfold mo_okAt
    rw [show sp_in 0 0 2 = true by decide, Bool.true_and]
  refine Two.is (c_X6_at_16 ad M s) (c_X7_at ad _ 0 s) (by rw [eo]) ?_
  rw [eo, e0]
  cases hs : sp_in s (-2000) 2000 with
  | false => exact h.md.mono (by omega)
  | true =>
    rw [if_pos rfl, if_pos rfl]
    rw [in_iff, kI_m2000, kI_2000] at hs
    obtain ⟨a1, a2⟩ := h.2.2.2.2.1
    refine (h.md.axs (fun a p1 p2 p3 p4 p5 p6 p7 => ?_) ⟨fun x hx => ?_, fun x => ?_⟩ (fun _ x hx => ?_)).mono (Nat.le_succ n)
    · simp [sp_putSw, am_put, p1, p2, p3, p6, p7]
    · have h1 := a1 x hx
      rcases (by omega : x = 0 ∨ x = 1 ∨ x = 2) with rfl | rfl | rfl <;> first | (simpa [sp_putSw, am_rd] using h1; done) | (simp [sp_putSw, am_rd]; exact ⟨h1.1, h1.2.1, h1.2.2.2.2⟩)
    · by_cases q : x = 0
      · simp [sp_putSw, am_rd, q]
        exact hs
      · simpa [sp_putSw, am_rd, q] using a2 x
    · rcases (by omega : x = 0 ∨ x = 1 ∨ x = 2) with rfl | rfl | rfl <;> simp [sp_putSw, am_rd]
theorem two_on_0 (ad : Nat → Nat) {n : Nat} {M : am_M} (h : R n M) : Two ad ydX6_on ydX7_on [.int 0] (n + 1) M := by
  have e0 : (0 : Int32).toNatClampNeg = 0 := by decide
  refine Two.is (c_X6_on_16 ad M) (c_X7_on ad _ 0) ?_ (h.md.mono (by omega))
  obtain ⟨-, h2, h3, h4, -⟩ := h.2.2.2.2.1.1 0 (by decide)
  unfold mo_on sp_onR_16 sp_on
  rw [show sp_in 0 0 2 = true by decide, e0, md_ne M (by decide), md_ne M (by decide), md_ne M (by decide), ← h2, ← h3, ← h4]
  by_cases q : M 16 2 = 0 <;> simp [q]
theorem two_home_0 (ad : Nat → Nat) {n : Nat} {M : am_M} (h : R n M) : Two ad ydX6_home ydX7_home [.int 0] (n + 1) M := by
  have e0 : (0 : Int32).toNatClampNeg = 0 := by decide
  obtain ⟨a1, a2⟩ := h.2.2.2.2.1
  obtain ⟨h1, h2, h3, h4, h5⟩ := a1 0 (by decide)
  refine ⟨_, c_X6_home_16 ad M, fun r1 N1 p1 => ?_⟩
  obtain ⟨rfl, e1⟩ := p1
  have hsm : ∀ a, a ≠ 16 → N1 a = M a := by
    rw [e1]
    split
    · intro a p1
      simp [sp_find, am_put, p1]
    · exact fun _ _ => rfl
  refine ⟨_, c_X7_home ad N1 0 (by rw [hsm 34 (by decide)]; exact a2), fun r2 N2 p2 => ?_⟩
  obtain ⟨rfl, e2⟩ := p2
  have hmo : mo_okHome (md N1) 0 = sp_okHome_16 M := by
    unfold mo_okHome sp_okHome_16
    rw [mo_mv_of (hsm 21 (by decide)), h.mv, show sp_in 0 0 2 = true by decide, e0, md_ne N1 (by decide), hsm 35 (by decide), ← h3, Bool.and_true, Bool.and_comm]
  have hmd : mo_made (md N1) 0 = sp_made M 16 := by
    unfold mo_made sp_made sp_on
    rw [md_ne N1 (by decide), md_ne N1 (by decide), hsm 34 (by decide), hsm 32 (by decide), ← h2, ← h4]
    by_cases q : M 16 3 ≤ M 16 1 <;> simp [q]
  rw [hmo, e0] at e2
  refine ⟨_, rfl, by rw [hmo, e0, hmd], ?_⟩
  cases hok : sp_okHome_16 M with
  | false =>
    rw [hok, if_neg (by decide)] at e1 e2
    rw [e2, e1]
    exact h.md.mono (by omega)
  | true =>
    rw [hok, if_pos rfl] at e1 e2
    unfold sp_okHome_16 at hok
    simp only [Bool.and_eq_true, Bool.not_eq_true', decide_eq_true_eq] at hok
    rw [e2, e1]
    refine (h.md.axs (fun a p1 p2 p3 p4 p5 p6 p7 => ?_) ⟨fun x hx => ?_, fun x => ?_⟩ (fun hg x hx => ?_)).mono (Nat.le_succ n)
    · simp [sp_find, am_put, p1, p2, p3, p4, p5]
    · have h1 := a1 x hx
      rcases (by omega : x = 0 ∨ x = 1 ∨ x = 2) with rfl | rfl | rfl
      · have h9 := a1 0 (by decide)
        have h8 := a1 0 (by decide)
        simp [sp_find, am_rd] at *
        simp_all
      · have h9 := a1 1 (by decide)
        have h8 := a1 0 (by decide)
        simp [sp_find, am_rd] at *
        simp_all
      · have h9 := a1 2 (by decide)
        have h8 := a1 0 (by decide)
        simp [sp_find, am_rd] at *
        simp_all
    · simpa [sp_find, am_rd] using a2 x
    · exfalso
      have hg2 : sp_goes M = true := by
        rw [← hg]
        unfold sp_goes
        rw [md_ne M (by decide)]
      rw [hg2] at hok
      cases hok.2
set_option maxRecDepth 100000 in
theorem two_at_1 (ad : Nat → Nat) {n : Nat} {M : am_M} (h : R n M) (s : Int32) : Two ad ydX6_at ydX7_at [.int 1, .int s] (n + 1) M := by
  have e0 : (1 : Int32).toNatClampNeg = 1 := by decide
  have eo : mo_okAt 1 s = sp_in s (-2000) 2000 := by
    unfold mo_okAt
    rw [show sp_in 1 0 2 = true by decide, Bool.true_and]
  refine Two.is (c_X6_at_17 ad M s) (c_X7_at ad _ 1 s) (by rw [eo]) ?_
  rw [eo, e0]
  cases hs : sp_in s (-2000) 2000 with
  | false => exact h.md.mono (by omega)
  | true =>
    rw [if_pos rfl, if_pos rfl]
    rw [in_iff, kI_m2000, kI_2000] at hs
    obtain ⟨a1, a2⟩ := h.2.2.2.2.1
    refine (h.md.axs (fun a p1 p2 p3 p4 p5 p6 p7 => ?_) ⟨fun x hx => ?_, fun x => ?_⟩ (fun _ x hx => ?_)).mono (Nat.le_succ n)
    · simp [sp_putSw, am_put, p1, p2, p3, p6, p7]
    · have h1 := a1 x hx
      rcases (by omega : x = 0 ∨ x = 1 ∨ x = 2) with rfl | rfl | rfl <;> first | (simpa [sp_putSw, am_rd] using h1; done) | (simp [sp_putSw, am_rd]; exact ⟨h1.1, h1.2.1, h1.2.2.2.2⟩)
    · by_cases q : x = 1
      · simp [sp_putSw, am_rd, q]
        exact hs
      · simpa [sp_putSw, am_rd, q] using a2 x
    · rcases (by omega : x = 0 ∨ x = 1 ∨ x = 2) with rfl | rfl | rfl <;> simp [sp_putSw, am_rd]
theorem two_on_1 (ad : Nat → Nat) {n : Nat} {M : am_M} (h : R n M) : Two ad ydX6_on ydX7_on [.int 1] (n + 1) M := by
  have e0 : (1 : Int32).toNatClampNeg = 1 := by decide
  refine Two.is (c_X6_on_17 ad M) (c_X7_on ad _ 1) ?_ (h.md.mono (by omega))
  obtain ⟨-, h2, h3, h4, -⟩ := h.2.2.2.2.1.1 1 (by decide)
  unfold mo_on sp_onR_17 sp_on
  rw [show sp_in 1 0 2 = true by decide, e0, md_ne M (by decide), md_ne M (by decide), md_ne M (by decide), ← h2, ← h3, ← h4]
  by_cases q : M 17 2 = 0 <;> simp [q]
theorem two_home_1 (ad : Nat → Nat) {n : Nat} {M : am_M} (h : R n M) : Two ad ydX6_home ydX7_home [.int 1] (n + 1) M := by
  have e0 : (1 : Int32).toNatClampNeg = 1 := by decide
  obtain ⟨a1, a2⟩ := h.2.2.2.2.1
  obtain ⟨h1, h2, h3, h4, h5⟩ := a1 1 (by decide)
  refine ⟨_, c_X6_home_17 ad M, fun r1 N1 p1 => ?_⟩
  obtain ⟨rfl, e1⟩ := p1
  have hsm : ∀ a, a ≠ 17 → N1 a = M a := by
    rw [e1]
    split
    · intro a p1
      simp [sp_find, am_put, p1]
    · exact fun _ _ => rfl
  refine ⟨_, c_X7_home ad N1 1 (by rw [hsm 34 (by decide)]; exact a2), fun r2 N2 p2 => ?_⟩
  obtain ⟨rfl, e2⟩ := p2
  have hmo : mo_okHome (md N1) 1 = sp_okHome_17 M := by
    unfold mo_okHome sp_okHome_17
    rw [mo_mv_of (hsm 21 (by decide)), h.mv, show sp_in 1 0 2 = true by decide, e0, md_ne N1 (by decide), hsm 35 (by decide), ← h3, Bool.and_true, Bool.and_comm]
  have hmd : mo_made (md N1) 1 = sp_made M 17 := by
    unfold mo_made sp_made sp_on
    rw [md_ne N1 (by decide), md_ne N1 (by decide), hsm 34 (by decide), hsm 32 (by decide), ← h2, ← h4]
    by_cases q : M 17 3 ≤ M 17 1 <;> simp [q]
  rw [hmo, e0] at e2
  refine ⟨_, rfl, by rw [hmo, e0, hmd], ?_⟩
  cases hok : sp_okHome_17 M with
  | false =>
    rw [hok, if_neg (by decide)] at e1 e2
    rw [e2, e1]
    exact h.md.mono (by omega)
  | true =>
    rw [hok, if_pos rfl] at e1 e2
    unfold sp_okHome_17 at hok
    simp only [Bool.and_eq_true, Bool.not_eq_true', decide_eq_true_eq] at hok
    rw [e2, e1]
    refine (h.md.axs (fun a p1 p2 p3 p4 p5 p6 p7 => ?_) ⟨fun x hx => ?_, fun x => ?_⟩ (fun hg x hx => ?_)).mono (Nat.le_succ n)
    · simp [sp_find, am_put, p1, p2, p3, p4, p5]
    · have h1 := a1 x hx
      rcases (by omega : x = 0 ∨ x = 1 ∨ x = 2) with rfl | rfl | rfl
      · have h9 := a1 0 (by decide)
        have h8 := a1 1 (by decide)
        simp [sp_find, am_rd] at *
        simp_all
      · have h9 := a1 1 (by decide)
        have h8 := a1 1 (by decide)
        simp [sp_find, am_rd] at *
        simp_all
      · have h9 := a1 2 (by decide)
        have h8 := a1 1 (by decide)
        simp [sp_find, am_rd] at *
        simp_all
    · simpa [sp_find, am_rd] using a2 x
    · exfalso
      have hg2 : sp_goes M = true := by
        rw [← hg]
        unfold sp_goes
        rw [md_ne M (by decide)]
      rw [hg2] at hok
      cases hok.2
set_option maxRecDepth 100000 in
theorem two_at_2 (ad : Nat → Nat) {n : Nat} {M : am_M} (h : R n M) (s : Int32) : Two ad ydX6_at ydX7_at [.int 2, .int s] (n + 1) M := by
  have e0 : (2 : Int32).toNatClampNeg = 2 := by decide
  have eo : mo_okAt 2 s = sp_in s (-2000) 2000 := by
    unfold mo_okAt
    rw [show sp_in 2 0 2 = true by decide, Bool.true_and]
  refine Two.is (c_X6_at_18 ad M s) (c_X7_at ad _ 2 s) (by rw [eo]) ?_
  rw [eo, e0]
  cases hs : sp_in s (-2000) 2000 with
  | false => exact h.md.mono (by omega)
  | true =>
    rw [if_pos rfl, if_pos rfl]
    rw [in_iff, kI_m2000, kI_2000] at hs
    obtain ⟨a1, a2⟩ := h.2.2.2.2.1
    refine (h.md.axs (fun a p1 p2 p3 p4 p5 p6 p7 => ?_) ⟨fun x hx => ?_, fun x => ?_⟩ (fun _ x hx => ?_)).mono (Nat.le_succ n)
    · simp [sp_putSw, am_put, p1, p2, p3, p6, p7]
    · have h1 := a1 x hx
      rcases (by omega : x = 0 ∨ x = 1 ∨ x = 2) with rfl | rfl | rfl <;> first | (simpa [sp_putSw, am_rd] using h1; done) | (simp [sp_putSw, am_rd]; exact ⟨h1.1, h1.2.1, h1.2.2.2.2⟩)
    · by_cases q : x = 2
      · simp [sp_putSw, am_rd, q]
        exact hs
      · simpa [sp_putSw, am_rd, q] using a2 x
    · rcases (by omega : x = 0 ∨ x = 1 ∨ x = 2) with rfl | rfl | rfl <;> simp [sp_putSw, am_rd]
theorem two_on_2 (ad : Nat → Nat) {n : Nat} {M : am_M} (h : R n M) : Two ad ydX6_on ydX7_on [.int 2] (n + 1) M := by
  have e0 : (2 : Int32).toNatClampNeg = 2 := by decide
  refine Two.is (c_X6_on_18 ad M) (c_X7_on ad _ 2) ?_ (h.md.mono (by omega))
  obtain ⟨-, h2, h3, h4, -⟩ := h.2.2.2.2.1.1 2 (by decide)
  unfold mo_on sp_onR_18 sp_on
  rw [show sp_in 2 0 2 = true by decide, e0, md_ne M (by decide), md_ne M (by decide), md_ne M (by decide), ← h2, ← h3, ← h4]
  by_cases q : M 18 2 = 0 <;> simp [q]
theorem two_home_2 (ad : Nat → Nat) {n : Nat} {M : am_M} (h : R n M) : Two ad ydX6_home ydX7_home [.int 2] (n + 1) M := by
  have e0 : (2 : Int32).toNatClampNeg = 2 := by decide
  obtain ⟨a1, a2⟩ := h.2.2.2.2.1
  obtain ⟨h1, h2, h3, h4, h5⟩ := a1 2 (by decide)
  refine ⟨_, c_X6_home_18 ad M, fun r1 N1 p1 => ?_⟩
  obtain ⟨rfl, e1⟩ := p1
  have hsm : ∀ a, a ≠ 18 → N1 a = M a := by
    rw [e1]
    split
    · intro a p1
      simp [sp_find, am_put, p1]
    · exact fun _ _ => rfl
  refine ⟨_, c_X7_home ad N1 2 (by rw [hsm 34 (by decide)]; exact a2), fun r2 N2 p2 => ?_⟩
  obtain ⟨rfl, e2⟩ := p2
  have hmo : mo_okHome (md N1) 2 = sp_okHome_18 M := by
    unfold mo_okHome sp_okHome_18
    rw [mo_mv_of (hsm 21 (by decide)), h.mv, show sp_in 2 0 2 = true by decide, e0, md_ne N1 (by decide), hsm 35 (by decide), ← h3, Bool.and_true, Bool.and_comm]
  have hmd : mo_made (md N1) 2 = sp_made M 18 := by
    unfold mo_made sp_made sp_on
    rw [md_ne N1 (by decide), md_ne N1 (by decide), hsm 34 (by decide), hsm 32 (by decide), ← h2, ← h4]
    by_cases q : M 18 3 ≤ M 18 1 <;> simp [q]
  rw [hmo, e0] at e2
  refine ⟨_, rfl, by rw [hmo, e0, hmd], ?_⟩
  cases hok : sp_okHome_18 M with
  | false =>
    rw [hok, if_neg (by decide)] at e1 e2
    rw [e2, e1]
    exact h.md.mono (by omega)
  | true =>
    rw [hok, if_pos rfl] at e1 e2
    unfold sp_okHome_18 at hok
    simp only [Bool.and_eq_true, Bool.not_eq_true', decide_eq_true_eq] at hok
    rw [e2, e1]
    refine (h.md.axs (fun a p1 p2 p3 p4 p5 p6 p7 => ?_) ⟨fun x hx => ?_, fun x => ?_⟩ (fun hg x hx => ?_)).mono (Nat.le_succ n)
    · simp [sp_find, am_put, p1, p2, p3, p4, p5]
    · have h1 := a1 x hx
      rcases (by omega : x = 0 ∨ x = 1 ∨ x = 2) with rfl | rfl | rfl
      · have h9 := a1 0 (by decide)
        have h8 := a1 2 (by decide)
        simp [sp_find, am_rd] at *
        simp_all
      · have h9 := a1 1 (by decide)
        have h8 := a1 2 (by decide)
        simp [sp_find, am_rd] at *
        simp_all
      · have h9 := a1 2 (by decide)
        have h8 := a1 2 (by decide)
        simp [sp_find, am_rd] at *
        simp_all
    · simpa [sp_find, am_rd] using a2 x
    · exfalso
      have hg2 : sp_goes M = true := by
        rw [← hg]
        unfold sp_goes
        rw [md_ne M (by decide)]
      rw [hg2] at hok
      cases hok.2
theorem two_at (ad : Nat → Nat) {n : Nat} {M : am_M} (h : R n M) (x s : Int32) : Two ad ydX6_at ydX7_at [.int x, .int s] (n + 1) M := by
  rcases ax_case x with rfl | rfl | rfl | hx
  · exact two_at_0 ad h s
  · exact two_at_1 ad h s
  · exact two_at_2 ad h s
  · have eo : mo_okAt x s = false := by
      unfold mo_okAt
      rw [noax_in hx, Bool.false_and]
    refine Two.is (c_X6_at_N ad M x s hx) (c_X7_at ad _ x s) (by rw [eo]) ?_
    rw [eo]
    exact h.md.mono (by omega)
theorem two_on (ad : Nat → Nat) {n : Nat} {M : am_M} (h : R n M) (x : Int32) : Two ad ydX6_on ydX7_on [.int x] (n + 1) M := by
  rcases ax_case x with rfl | rfl | rfl | hx
  · exact two_on_0 ad h
  · exact two_on_1 ad h
  · exact two_on_2 ad h
  · refine Two.is (c_X6_on_N ad M x hx) (c_X7_on ad _ x) ?_ (h.md.mono (by omega))
    unfold mo_on
    rw [noax_in hx]
    simp
theorem two_home (ad : Nat → Nat) {n : Nat} {M : am_M} (h : R n M) (x : Int32) : Two ad ydX6_home ydX7_home [.int x] (n + 1) M := by
  rcases ax_case x with rfl | rfl | rfl | hx
  · exact two_home_0 ad h
  · exact two_home_1 ad h
  · exact two_home_2 ad h
  · have eo : mo_okHome (md M) x = false := by
      unfold mo_okHome
      rw [noax_in hx, Bool.and_false, Bool.false_and]
    refine Two.is (c_X6_home_N ad M x hx) (c_X7_home ad M x h.2.2.2.2.1.2) (by rw [eo]; rfl) ?_
    rw [eo]
    exact h.md.mono (by omega)
/-! currents -/
theorem sp_gm_cong {f g : Nat → Int32} : ∀ n, (∀ j, j < n → f j = g j) → sp_gm f n = sp_gm g n := by
  intro n
  induction n with
  | zero => intro _; rfl
  | succ n ih =>
    intro h
    rw [sp_gm, sp_gm, ih (fun j hj => h j (by omega)), h n (by omega)]
theorem sp_at_of {M : am_M} {p : Int32} (h0 : 0 ≤ p.toInt) (h1 : p.toInt ≤ 8) : sp_at M p = M 20 p.toNatClampNeg := by
  unfold sp_at
  rw [if_pos (by rw [in_iff, Int32.toInt_zero, kI_8]; exact ⟨h0, h1⟩)]
theorem miss_eq {M : am_M} (h : R_cur M) {p : Int32} (h0 : 0 ≤ p.toInt) (h1 : p.toInt ≤ (M 19 0).toInt) : mo_miss M p = sp_miss M p := by
  obtain ⟨k, c1, c2, c3, c4, c5, c6⟩ := h
  have hk := sp_k8 c1
  rw [c2, nI_e] at h1
  unfold mo_miss sp_miss sp_pair
  have hm : (M 19 0 - p).toInt = k - p.toInt := by rw [i_sub, c2, nI_e]; omega
  rw [sp_at_of h0 (by omega), sp_at_of (by rw [hm]; omega) (by rw [hm]; omega), c4, c3, ← c2, c6 _ (by rw [i_cl]; omega), c6 _ (by rw [i_cl, hm]; omega)]
theorem cur_md {M : am_M} (p : Int32) : mo_miss (md M) p = mo_miss M p := by
  unfold mo_miss
  rw [md_ne M (by decide), md_f M (by decide), md_f M (by decide)]
theorem even_eq {M : am_M} (h : R_cur M) : mo_even (md M) = sp_even M := by
  unfold mo_even sp_even
  obtain ⟨k, c1, c2, c3, c4, c5, c6⟩ := id h
  have hk := sp_k8 c1
  rw [md_f M (by decide), c3, ← c2]
  refine sp_gm_cong _ (fun j hj => ?_)
  rw [cur_md]
  rw [c2, nI_e] at hj
  exact miss_eq h (by rw [nI_e]; omega) (by rw [nI_e, c2, nI_e]; omega)
set_option maxRecDepth 100000 in
theorem two_miss (ad : Nat → Nat) {n : Nat} {M : am_M} (h : R n M) (p : Int32) : Two ad ydX6_miss ydX7_miss [.int p] (n + 1) M := by
  obtain ⟨k, c1, c2, c3, c4, c5, c6⟩ := id h.2.2.2.1
  have hk := sp_k8 c1
  refine Two.is (c_X6_miss ad M p) (c_X7_miss ad M p (by rw [c3, nI_e]; omega)) ?_ (h.md.mono (by omega))
  rw [md_f M (by decide), c3, ← c2]
  cases q : sp_in p 0 (M 19 0) with
  | false => rw [if_neg (by decide), if_neg (by decide)]
  | true =>
    rw [if_pos rfl, if_pos rfl, cur_md]
    rw [in_iff, Int32.toInt_zero] at q
    exact miss_eq h.2.2.2.1 q.1 q.2
theorem two_evenness (ad : Nat → Nat) {n : Nat} {M : am_M} (h : R n M) : Two ad ydX6_evenness ydX7_evenness [] (n + 1) M := by
  obtain ⟨k, c1, c2, c3, c4, c5, c6⟩ := id h.2.2.2.1
  have hk := sp_k8 c1
  exact Two.is (c_X6_evenness ad M (by rw [c2, nI_e]; omega) c5) (c_X7_evenness ad M (by rw [c3, nI_e]; omega)) (even_eq h.2.2.2.1) (h.md.mono (by omega))
theorem two_set (ad : Nat → Nat) {n : Nat} {M : am_M} (h : R n M) (p a : Int32) : Two ad ydX6_set ydX7_set [.int p, .int a] (n + 1) M := by
  obtain ⟨k, c1, c2, c3, c4, c5, c6⟩ := id h.2.2.2.1
  have hk := sp_k8 c1
  refine ⟨_, c_X6_set ad M p a, fun r1 N1 p1 => ?_⟩
  obtain ⟨rfl, e1⟩ := p1
  have h21 : N1 21 = M 21 := by
    rw [e1]
    split
    · unfold sp_put; split <;> simp [am_put]
    · rfl
  refine ⟨_, c_X7_set ad N1 p a (by rw [h21, c3, nI_e]; omega), fun r2 N2 p2 => ?_⟩
  obtain ⟨rfl, e2⟩ := p2
  have hmo : mo_okSet (md N1) p a = sp_okSet M p a := by
    unfold mo_okSet sp_okSet
    rw [md_f N1 (by decide), md_f N1 (by decide), h21, c3, c4, ← c2]
  rw [hmo] at e2
  refine ⟨_, rfl, by rw [hmo], ?_⟩
  cases hok : sp_okSet M p a with
  | false =>
    rw [hok, if_neg (by decide)] at e1 e2
    rw [e2, e1]
    exact h.md.mono (by omega)
  | true =>
    rw [hok, if_pos rfl] at e1 e2
    unfold sp_okSet at hok
    simp only [Bool.and_eq_true] at hok
    have i1 := hok.1
    rw [in_iff, Int32.toInt_zero, c2, nI_e] at i1
    unfold sp_put at e1
    rw [if_pos (by rw [in_iff, Int32.toInt_zero, kI_8]; omega)] at e1
    rw [e2, e1]
    refine (h.md.curs (fun a p1 p2 p3 p4 => ?_) (fun j p1 p2 => ?_) ⟨k, c1, ?_, ?_, ?_, ?_, fun j hj => ?_⟩).mono (Nat.le_succ n)
    · simp [am_put, p2, p3, p4]
    · simp [am_rd]
    · simpa [am_rd] using c2
    · simpa [am_rd] using c3
    · simpa [am_rd] using c4
    · simpa [am_rd] using c5
    · by_cases q : j = p.toNatClampNeg
      · simp [am_rd, q]
      · simpa [am_rd, q] using c6 j hj
theorem two_table (ad : Nat → Nat) {n : Nat} {M : am_M} (h : R n M) (m l : Int32) : Two ad ydX6_table ydX7_table [.int m, .int l] (n + 1) M := by
  obtain ⟨k0, c1, c2, c3, c4, c5, c6⟩ := id h.2.2.2.1
  refine Two.is (c_X6_table ad M m l) (c_X7_table ad _ m l) rfl ?_
  cases hok : sp_okTab m l with
  | false => exact h.md.mono (by omega)
  | true =>
    rw [if_pos rfl, if_pos rfl]
    unfold sp_okTab at hok
    rw [Bool.and_eq_true, decide_eq_true_eq, in_iff, kI_1, kI_100] at hok
    obtain ⟨k, hk, e⟩ : ∃ k, sp_k k ∧ m.toInt.toNat = k := ⟨m.toInt.toNat, by unfold sp_k; rcases hok.1 with q | q | q | q <;> rw [q] <;> decide, rfl⟩
    unfold sp_layN sp_lay mo_lay sp_layJ mo_layJ
    rw [e]
    refine (h.md.curs (fun a p1 p2 p3 p4 => ?_) (fun j p1 p2 => ?_) ⟨k, hk, ?_, ?_, ?_, ?_, fun j hj => ?_⟩).mono (Nat.le_succ n)
    · simp [am_row, am_put, p1, p2, p3, p4]
    · simp [am_row, am_put, upd, p1, p2]
    · simp [am_row, am_put, upd]
    · simp [am_row, am_put, upd]
    · simp [am_row, am_put, upd]
    · simp [am_row, am_put, upd]
      omega
    · simp [am_row, am_put, upd]
      by_cases q : j < k + 1
      · simp [q]
      · simpa [q] using c6 j hj

def R_ver (n : Nat) (M : am_M) : Prop := 1 ≤ (M 1 8).toInt ∧ (M 1 8).toInt ≤ (n : Int) + 1 ∧ (M 4 4).toInt ≤ (M 1 8).toInt ∧ (M 7 5).toInt ≤ (M 1 8).toInt ∧ (M 11 5).toInt ≤ (M 1 8).toInt
def R_cache (M : am_M) : Prop := (M 4 4 = M 1 8 → ∃ k, rp_at M M k) ∧ sl_I M
def R_cur (M : am_M) : Prop := ∃ k, sp_k k ∧ M 19 0 = nI k ∧ M 21 34 = nI k ∧ M 21 35 = M 19 1 ∧ (0 ≤ (M 19 1).toInt ∧ (M 19 1).toInt ≤ 100) ∧ ∀ j, j < 9 → M 36 j = M 20 j
def R_ax (M : am_M) : Prop := (∀ x, x < 3 → M (16 + x) 0 = M 31 x ∧ M (16 + x) 1 = M 32 x ∧ M (16 + x) 2 = M 35 x ∧ M (16 + x) 3 = M 34 x ∧ M (16 + x) 4 = M 30 x) ∧ ∀ x, -2000 ≤ (M 34 x).toInt ∧ (M 34 x).toInt ≤ 2000
def R_f (M : am_M) : Prop := (M 15 0 = M 21 26 ∧ M 15 1 = M 21 25 ∧ M 15 2 = M 21 27 ∧ M 15 3 = M 21 28 ∧ M 15 4 = M 21 24 ∧ M 15 5 = M 21 29 ∧ M 15 6 = M 21 30 ∧ M 15 7 = M 21 16) ∧ (0 ≤ (M 21 26).toInt ∧ (M 21 26).toInt ≤ 200) ∧ (0 ≤ (M 15 2).toInt ∧ (M 15 2).toInt ≤ 12 ∧ -4 ≤ (M 15 3).toInt ∧ (M 15 3).toInt ≤ 4) ∧ M 21 15 = bI (sp_goes M)
def R_mA (M : am_M) (p c : Nat) : Prop := M 15 7 = 0 ∧ M 4 4 = M 1 8 ∧ (∃ k, rp_at M M k ∧ (rp_T M k).1 (rp_st (M 15 0).toInt) = some c) ∧ M 15 2 = iN (mg M (M 15 0).toInt p).1 ∧ M 15 3 = iN (mg M (M 15 0).toInt p).2.1 ∧ M 15 0 - M 15 1 = iN (mg M (M 15 0).toInt p).2.2 ∧ ∀ i, p ≤ i → i < c → M 33 i = iN (mg M (M 15 0).toInt (i + 1)).2.1
def R_mB (M : am_M) (p c : Nat) : Prop := ∃ (sb : Bool) (v0 a0 : Int) (s : Nat), M 15 7 = 1 ∧ M 15 8 = bI sb ∧ (0 ≤ v0 ∧ v0 ≤ 12 ∧ -4 ≤ a0 ∧ a0 ≤ 4) ∧ so_F M sb (sx v0 a0) = some (c, s) ∧ ((sb = true ∧ M 7 5 = M 1 8) ∨ (sb = false ∧ M 11 5 = M 1 8)) ∧ M 15 2 = iN (ms M sb v0 a0 p).1 ∧ M 15 3 = iN (ms M sb v0 a0 p).2 ∧ ∀ i, p ≤ i → i < c → M 33 i = iN (ms M sb v0 a0 (i + 1)).2
def R_go (M : am_M) : Prop := ∃ p c : Nat, (p < c ∧ c ≤ 1000) ∧ M 21 23 = nI p ∧ M 21 22 = nI c ∧ M 15 9 = nI (c - p) ∧ (∀ x, x < 3 → M (16 + x) 5 = sp_gone (M 21 26) (M 21 25) (M 30 x) ∧ M 31 x = M 29 x + sp_gone (M 21 26) (M 21 25) (M 30 x)) ∧ (R_mA M p c ∨ R_mB M p c)
def R (n : Nat) (M : am_M) : Prop := R_rules M ∧ R_ver n M ∧ R_cache M ∧ R_cur M ∧ R_ax M ∧ R_f M ∧ (sp_goes M = true → R_go M)
theorem R.mono {n m : Nat} {M : am_M} (h : R n M) (hm : n ≤ m) : R m M := by
  obtain ⟨h1, ⟨v1, v2, v3⟩, h3⟩ := h
  exact ⟨h1, ⟨v1, by omega, v3⟩, h3⟩
theorem R.mv {n : Nat} {M : am_M} (h : R n M) : mo_mv (md M) = sp_goes M := by
  unfold mo_mv
  rw [md_f M (by decide), h.2.2.2.2.2.1.2.2.2]
  cases sp_goes M <;> decide
theorem rp_T_le {M : am_M} (hR : am_RI M) {k k' : Nat} (h : k ≤ k') {y e : Nat} (hy : (rp_T M k).1 y = some e) : (rp_T M k').1 y = some e := by
  have h2 := bf_T_le (V := am_V M) (A := am_Ac M) (J := am_J M) (E := am_E M (am_s M)) hR.V.1 hR.V.2 k (k' - k)
  rw [show k + (k' - k) = k' by omega] at h2
  exact h2.2.2 y e hy
theorem rp_at.self {M N : am_M} {k : Nat} (h : rp_at M N k) : rp_at N N k := by
  obtain ⟨h1, h2, h3, h4, h5⟩ := h
  have e1 := h5 1 (by decide) (by decide) (by decide)
  have eT : rp_T N = rp_T M := rp_T_cong e1 (h5 2 (by decide) (by decide) (by decide)) (h5 3 (by decide) (by decide) (by decide))
  exact ⟨by rw [eT]; exact h1, by rw [eT]; exact h2, h3, by rw [e1]; exact h4, fun _ _ _ _ => rfl⟩
theorem rp_at.same {M N : am_M} {k : Nat} (h : rp_at M M k) (h1 : N 1 = M 1) (h2 : N 2 = M 2) (h3 : N 3 = M 3) (h4 : N 4 = M 4) (h5 : N 5 = M 5) (h6 : N 6 = M 6) : rp_at N N k := by
  obtain ⟨g1, ⟨g2, g3, g4⟩, g5, g6, -⟩ := h
  have eT : rp_T N = rp_T M := rp_T_cong h1 h2 h3
  refine ⟨by rw [eT]; exact g1, ⟨?_, ?_, ?_⟩, by rw [h4]; exact g5, by rw [h4, h1]; exact g6, fun _ _ _ _ => rfl⟩
  · rw [eT, h5]; exact g2
  · rw [eT, h6]; exact g3
  · rw [eT, h4]; exact g4
/-- what a call that tells nothing may change -/
def qt (M N : am_M) : Prop := (∀ a, (a < 4 ∨ 14 < a) → a ≠ 21 → a ≠ 24 → a ≠ 25 → a ≠ 26 → a ≠ 27 → a ≠ 28 → N a = M a) ∧ (∀ j, j ≠ 0 → j ≠ 12 → N 21 j = M 21 j) ∧ (N 4 4 = M 4 4 ∨ N 4 4 = M 1 8) ∧ (M 4 4 = M 1 8 → (M 4 2).toInt ≤ (N 4 2).toInt ∧ N 4 4 = M 1 8) ∧ (N 4 4 = M 1 8 → ∃ k, rp_at N N k) ∧ sl_I N ∧ (N 7 5 = M 7 5 ∨ N 7 5 = M 1 8) ∧ (N 11 5 = M 11 5 ∨ N 11 5 = M 1 8)
theorem qt.rl {M N : am_M} (q : qt M N) : rl_eq M N := by
  obtain ⟨q1, q2, -⟩ := q
  refine ⟨q1 1 (by decide) (by decide) (by decide) (by decide) (by decide) (by decide) (by decide), q1 2 (by decide) (by decide) (by decide) (by decide) (by decide) (by decide) (by decide), q1 3 (by decide) (by decide) (by decide) (by decide) (by decide) (by decide) (by decide), ⟨q2 1 (by decide) (by decide), q2 2 (by decide) (by decide), q2 3 (by decide) (by decide), q2 4 (by decide) (by decide), q2 5 (by decide) (by decide), q2 8 (by decide) (by decide)⟩, q1 22 (by decide) (by decide) (by decide) (by decide) (by decide) (by decide) (by decide), q1 23 (by decide) (by decide) (by decide) (by decide) (by decide) (by decide) (by decide)⟩
theorem R.qt {n : Nat} {M N : am_M} (h : R n M) (q : qt M N) : R n N := by
  have hq := q.rl
  obtain ⟨hru, ⟨v1, v2, v3, v4, v5⟩, ⟨hc1, hc2⟩, ⟨k, c1, c2, c3, c4, c5, c6⟩, ⟨a1, a2⟩, ⟨⟨f1, f2, f3, f4, f5, f6, f7, f8⟩, f9, f10, f11⟩, hgo⟩ := h
  obtain ⟨q1, q2, q3, q4, q5, q6, q7, q8⟩ := q
  have e1 : N 1 = M 1 := hq.1
  have e15 : N 15 = M 15 := q1 15 (by decide) (by decide) (by decide) (by decide) (by decide) (by decide) (by decide)
  have e16 : ∀ x, x < 3 → N (16 + x) = M (16 + x) := fun x hx => q1 (16 + x) (by omega) (by omega) (by omega) (by omega) (by omega) (by omega) (by omega)
  have e19 : N 19 = M 19 := q1 19 (by decide) (by decide) (by decide) (by decide) (by decide) (by decide) (by decide)
  have e20 : N 20 = M 20 := q1 20 (by decide) (by decide) (by decide) (by decide) (by decide) (by decide) (by decide)
  have e29 : N 29 = M 29 := q1 29 (by decide) (by decide) (by decide) (by decide) (by decide) (by decide) (by decide)
  have e30 : N 30 = M 30 := q1 30 (by decide) (by decide) (by decide) (by decide) (by decide) (by decide) (by decide)
  have e31 : N 31 = M 31 := q1 31 (by decide) (by decide) (by decide) (by decide) (by decide) (by decide) (by decide)
  have e32 : N 32 = M 32 := q1 32 (by decide) (by decide) (by decide) (by decide) (by decide) (by decide) (by decide)
  have e33 : N 33 = M 33 := q1 33 (by decide) (by decide) (by decide) (by decide) (by decide) (by decide) (by decide)
  have e34 : N 34 = M 34 := q1 34 (by decide) (by decide) (by decide) (by decide) (by decide) (by decide) (by decide)
  have e35 : N 35 = M 35 := q1 35 (by decide) (by decide) (by decide) (by decide) (by decide) (by decide) (by decide)
  have e36 : N 36 = M 36 := q1 36 (by decide) (by decide) (by decide) (by decide) (by decide) (by decide) (by decide)
  have eg : sp_goes N = sp_goes M := by unfold sp_goes; rw [e15]
  refine ⟨hq.rules hru, ⟨?_, ?_, ?_, ?_, ?_⟩, ⟨?_, q6⟩, ⟨k, c1, ?_, ?_, ?_, ?_, ?_⟩, ⟨?_, ?_⟩, ⟨⟨?_, ?_, ?_, ?_, ?_, ?_, ?_, ?_⟩, ?_, ?_, ?_⟩, ?_⟩
  · rw [e1]; exact v1
  · rw [e1]; exact v2
  · rw [e1]; rcases q3 with e | e <;> rw [e] <;> omega
  · rw [e1]; rcases q7 with e | e <;> rw [e] <;> omega
  · rw [e1]; rcases q8 with e | e <;> rw [e] <;> omega
  · rw [e1]; exact q5
  · rw [e19]; exact c2
  · rw [q2 34 (by decide) (by decide)]; exact c3
  · rw [q2 35 (by decide) (by decide), e19]; exact c4
  · rw [e19]; exact c5
  · rw [e36, e20]; exact c6
  · intro x hx
    rw [e16 x hx, e31, e32, e35, e34, e30]
    exact a1 x hx
  · rw [e34]; exact a2
  · rw [e15, q2 26 (by decide) (by decide)]; exact f1
  · rw [e15, q2 25 (by decide) (by decide)]; exact f2
  · rw [e15, q2 27 (by decide) (by decide)]; exact f3
  · rw [e15, q2 28 (by decide) (by decide)]; exact f4
  · rw [e15, q2 24 (by decide) (by decide)]; exact f5
  · rw [e15, q2 29 (by decide) (by decide)]; exact f6
  · rw [e15, q2 30 (by decide) (by decide)]; exact f7
  · rw [e15, q2 16 (by decide) (by decide)]; exact f8
  · rw [q2 26 (by decide) (by decide)]; exact f9
  · rw [e15]; exact f10
  · rw [eg, q2 15 (by decide) (by decide)]; exact f11
  · intro hg
    rw [eg] at hg
    obtain ⟨p, c, g1, g2, g3, g4, g5, g6⟩ := hgo hg
    refine ⟨p, c, g1, by rw [q2 23 (by decide) (by decide)]; exact g2, by rw [q2 22 (by decide) (by decide)]; exact g3, by rw [e15]; exact g4, fun x hx => by rw [e16 x hx, q2 26 (by decide) (by decide), q2 25 (by decide) (by decide), e30, e31, e29]; exact g5 x hx, ?_⟩
    rcases g6 with ⟨m1, m2, ⟨k1, m3, m4⟩, m5, m6, m7, m8⟩ | ⟨sb, v0, a0, s, m1, m2, m3, m4, m5, m6, m7, m8⟩
    · obtain ⟨z1, z2⟩ := q4 m2
      obtain ⟨k2, hk2⟩ := q5 z2
      have hb1 : (rp_T M k1).2.2 ≤ 23517 := (bf_T_ok hru.2.2.2.2.2.V.1 hru.2.2.2.2.2.V.2 k1 : bf_ok (rp_T M k1)).le
      have hb2 : (rp_T N k2).2.2 ≤ 23517 := (bf_T_ok (hq.rules hru).2.2.2.2.2.V.1 (hq.rules hru).2.2.2.2.2.V.2 k2 : bf_ok (rp_T N k2)).le
      have hle : k1 ≤ k2 := by
        have w1 := m3.1
        have w2 := hk2.1
        rw [m3.2.2.1, hk2.2.2.1, nI_e, nI_e] at z1
        omega
      refine Or.inl ⟨by rw [e15]; exact m1, by rw [e1]; exact z2, ⟨k2, hk2, ?_⟩, ?_, ?_, ?_, ?_⟩
      · rw [e15, hq.T]; exact rp_T_le hru.2.2.2.2.2 hle m4
      · rw [e15, hq.g]; exact m5
      · rw [e15, hq.g]; exact m6
      · rw [e15, hq.g]; exact m7
      · rw [e15, hq.g, e33]; exact m8
    · refine Or.inr ⟨sb, v0, a0, s, by rw [e15]; exact m1, by rw [e15]; exact m2, m3, by rw [hq.so]; exact m4, ?_, ?_, ?_, ?_⟩
      · rw [e1]
        rcases m5 with ⟨z1, z2⟩ | ⟨z1, z2⟩
        · exact Or.inl ⟨z1, by rcases q7 with e | e <;> rw [e]; exact z2⟩
        · exact Or.inr ⟨z1, by rcases q8 with e | e <;> rw [e]; exact z2⟩
      · rw [e15, hq.s]; exact m6
      · rw [e15, hq.s]; exact m7
      · rw [hq.s, e33]; exact m8
/-- .. of the reference alone -/
theorem qt_mo {n : Nat} {M N : am_M} (h : R n M) (h1 : ∀ a, a ≠ 21 → a ≠ 24 → a ≠ 25 → a ≠ 26 → a ≠ 27 → a ≠ 28 → N a = M a) (h2 : ∀ j, j ≠ 0 → j ≠ 12 → N 21 j = M 21 j) : qt M N := by
  have e : ∀ a, a < 21 → N a = M a := fun a ha => h1 a (by omega) (by omega) (by omega) (by omega) (by omega) (by omega)
  obtain ⟨-, -, ⟨hc1, hc2⟩, -⟩ := h
  refine ⟨fun a _ p1 p2 p3 p4 p5 p6 => h1 a p1 p2 p3 p4 p5 p6, h2, ?_, ?_, ?_, ?_, ?_, ?_⟩
  · rw [e 4 (by decide)]; exact Or.inl rfl
  · rw [e 4 (by decide)]; exact fun z => ⟨Int.le_refl _, z⟩
  · rw [e 4 (by decide)]
    intro z
    obtain ⟨k, hk⟩ := hc1 z
    exact ⟨k, hk.same (e 1 (by decide)) (e 2 (by decide)) (e 3 (by decide)) (e 4 (by decide)) (e 5 (by decide)) (e 6 (by decide))⟩
  · obtain ⟨⟨s1, s2⟩, s3, s4⟩ := hc2
    have ef : ∀ sb, sl_fin N sb = sl_fin M sb := fun sb => sl_fin_cong (e 1 (by decide)) (e 2 (by decide)) (e 3 (by decide)) sb
    refine ⟨⟨by rw [e 7 (by decide)]; exact s1, fun z => ?_⟩, by rw [e 11 (by decide)]; exact s3, fun z => ?_⟩
    · rw [e 7 (by decide), e 1 (by decide)] at z
      rw [ef]
      exact sl_RC_cong (s2 z) (e 7 (by decide)) (e 8 (by decide)) (e 9 (by decide)) (e 10 (by decide))
    · rw [e 11 (by decide), e 1 (by decide)] at z
      rw [ef]
      exact sl_RC_cong (s4 z) (e 11 (by decide)) (e 12 (by decide)) (e 13 (by decide)) (e 14 (by decide))
  · rw [e 7 (by decide)]; exact Or.inl rfl
  · rw [e 11 (by decide)]; exact Or.inl rfl
theorem R.md {n : Nat} {M : am_M} (h : R n M) : R n (md M) := h.qt (qt_mo h (fun a p1 _ _ _ _ _ => md_ne M p1) (fun j p1 _ => md_f M p1))
/-- two calls, one of the class, one of the reference -/
def Two (ad : Nat → Nat) (Y1 Y2 : am_Y) (As : List Value) (n : Nat) (M : am_M) : Prop := ∃ P1, am_C Y1 ad am_II (.ref (ad 0) :: As) M P1 ∧ ∀ r1 N1, P1 r1 N1 → ∃ P2, am_C Y2 ad am_II (.ref (ad 21) :: As) N1 P2 ∧ ∀ r2 N2, P2 r2 N2 → ∃ x, r1 = some (.int x) ∧ r2 = some (.int x) ∧ R n N2
theorem Two.is {ad : Nat → Nat} {Y1 Y2 : am_Y} {As : List Value} {n : Nat} {M N1 N2 : am_M} {x1 x2 : Int32} (c1 : am_C Y1 ad am_II (.ref (ad 0) :: As) M (am_is x1 N1)) (c2 : am_C Y2 ad am_II (.ref (ad 21) :: As) N1 (am_is x2 N2)) (hx : x2 = x1) (hR : R n N2) : Two ad Y1 Y2 As n M := by
  refine ⟨_, c1, fun r1 K1 p1 => ?_⟩
  obtain ⟨rfl, rfl⟩ := p1
  refine ⟨_, c2, fun r2 K2 p2 => ?_⟩
  obtain ⟨rfl, rfl⟩ := p2
  exact ⟨x1, rfl, by rw [hx], hR⟩
/-- behind a telling of rules, while no move goes on -/
theorem R.told {n : Nat} {M N : am_M} (h : R n M) (hn : n ≤ 1000) (hg : sp_goes M = false) (hru : R_rules N) (hv : N 1 8 = M 1 8 + 1) (hsm : ∀ a, 3 < a → a ≠ 21 → a ≠ 22 → a ≠ 23 → N a = M a) (h21 : ∀ j, 8 < j → N 21 j = M 21 j) : R (n + 1) N := by
  obtain ⟨-, ⟨v1, v2, v3, v4, v5⟩, ⟨hc1, ⟨s1, s2⟩, s3, s4⟩, ⟨k, c1, c2, c3, c4, c5, c6⟩, ⟨a1, a2⟩, ⟨⟨f1, f2, f3, f4, f5, f6, f7, f8⟩, f9, f10, f11⟩, hgo⟩ := h
  have hv2 : (N 1 8).toInt = (M 1 8).toInt + 1 := by rw [hv, i_add, kI_1]; omega
  have e : ∀ a, 3 < a → a < 21 → N a = M a := fun a p1 p2 => hsm a p1 (by omega) (by omega) (by omega)
  have e2 : ∀ a, 23 < a → N a = M a := fun a p1 => hsm a (by omega) (by omega) (by omega) (by omega)
  have eg : sp_goes N = sp_goes M := by unfold sp_goes; rw [e 15 (by decide) (by decide)]
  refine ⟨hru, ⟨?_, ?_, ?_, ?_, ?_⟩, ⟨fun z => ?_, ⟨?_, fun z => ?_⟩, ?_, fun z => ?_⟩, ⟨k, c1, ?_, ?_, ?_, ?_, ?_⟩, ⟨?_, ?_⟩, ⟨⟨?_, ?_, ?_, ?_, ?_, ?_, ?_, ?_⟩, ?_, ?_, ?_⟩, ?_⟩
  · rw [hv2]; omega
  · rw [hv2]; omega
  · rw [hv2, e 4 (by decide) (by decide)]; omega
  · rw [hv2, e 7 (by decide) (by decide)]; omega
  · rw [hv2, e 11 (by decide) (by decide)]; omega
  · exfalso
    rw [e 4 (by decide) (by decide)] at z
    rw [← z] at hv2
    omega
  · rw [e 7 (by decide) (by decide)]; exact s1
  · exfalso
    rw [e 7 (by decide) (by decide)] at z
    rw [← z] at hv2
    omega
  · rw [e 11 (by decide) (by decide)]; exact s3
  · exfalso
    rw [e 11 (by decide) (by decide)] at z
    rw [← z] at hv2
    omega
  · rw [e 19 (by decide) (by decide)]; exact c2
  · rw [h21 34 (by decide)]; exact c3
  · rw [h21 35 (by decide), e 19 (by decide) (by decide)]; exact c4
  · rw [e 19 (by decide) (by decide)]; exact c5
  · rw [e2 36 (by decide), e 20 (by decide) (by decide)]; exact c6
  · intro x hx
    rw [e (16 + x) (by omega) (by omega), e2 31 (by decide), e2 32 (by decide), e2 35 (by decide), e2 34 (by decide), e2 30 (by decide)]
    exact a1 x hx
  · rw [e2 34 (by decide)]; exact a2
  · rw [e 15 (by decide) (by decide), h21 26 (by decide)]; exact f1
  · rw [e 15 (by decide) (by decide), h21 25 (by decide)]; exact f2
  · rw [e 15 (by decide) (by decide), h21 27 (by decide)]; exact f3
  · rw [e 15 (by decide) (by decide), h21 28 (by decide)]; exact f4
  · rw [e 15 (by decide) (by decide), h21 24 (by decide)]; exact f5
  · rw [e 15 (by decide) (by decide), h21 29 (by decide)]; exact f6
  · rw [e 15 (by decide) (by decide), h21 30 (by decide)]; exact f7
  · rw [e 15 (by decide) (by decide), h21 16 (by decide)]; exact f8
  · rw [h21 26 (by decide)]; exact f9
  · rw [e 15 (by decide) (by decide)]; exact f10
  · rw [eg, h21 15 (by decide)]; exact f11
  · intro z
    rw [eg, hg] at z
    cases z

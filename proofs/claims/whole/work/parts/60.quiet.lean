theorem bf_fold_keepS (c : Int → Bool) (f : Int → Nat) (d : Nat) : ∀ (n : Nat) (a : Int) (B : bf_B) (y e : Nat), B.1 y = some e → (bf_fold c f d n a B).1 y = some e := by
  intro n
  induction n with
  | zero => intro a B y e h; exact h
  | succ n ih =>
    intro a B y e h
    rw [bf_fold]
    refine ih _ _ _ _ ?_
    split
    · exact (bf_push_c B (f a) d).2.2 y e h
    · exact h
theorem bf_fold_has (f : Int → Nat) (d : Nat) : ∀ (n : Nat) (a : Int) (B : bf_B) (a2 : Int), a ≤ a2 → a2 < a + n → ∃ e, (bf_fold bf_yes f d n a B).1 (f a2) = some e := by
  intro n
  induction n with
  | zero => intro a B a2 h1 h2; omega
  | succ n ih =>
    intro a B a2 h1 h2
    rw [bf_fold, if_pos (by rfl)]
    by_cases e : a2 = a
    · subst e
      cases hb : B.1 (f a2) with
      | some e1 => exact ⟨e1, bf_fold_keepS _ _ _ _ _ _ _ _ ((bf_push_c B (f a2) d).2.2 _ _ hb)⟩
      | none =>
        refine ⟨d, bf_fold_keepS _ _ _ _ _ _ _ _ ?_⟩
        rw [bf_push_none hb]
        exact if_pos rfl
    · exact ih (a + 1) _ a2 (by omega) (by omega)
theorem mF_0 {M : am_M} (hR : mRI M) : mF M (rp_st 0) = some 0 := by
  have hV := hR.V
  obtain ⟨r1, r2, r3, r4, r5, r6, r7⟩ := hR
  have hl := bf_lohi (A := mA M) (J := mJ M) (b := 0) r3 r5 (by unfold mA; omega) (by unfold mA; omega)
  obtain ⟨e, he⟩ := bf_fold_has (fun a => bf_idx 0 a 0) 0 (bf_n (mA M) (mJ M) 0) (bf_lo (mA M) (mJ M) 0) bf_0 0 hl.2.1 (by unfold bf_n; omega)
  have h0 := bf_init_keep (V := mV M) (A := mA M) (J := mJ M) (E := mE M) (bf_n (mA M) (mJ M) 0) (bf_lo (mA M) (mJ M) 0) bf_0 bf_ok_0 (fun x d h => by simp [bf_0] at h) (fun a2 p1 p2 => (bf_idx_lt (by omega) (by omega) (by unfold bf_n at p2; omega) (by unfold bf_n at p2; omega) (by omega) (by omega)).1) _ _ he
  subst h0
  have h1 := bf_T_le (V := mV M) (A := mA M) (J := mJ M) (E := mE M) hV.1 hV.2 0 bf_Z
  rw [Nat.zero_add] at h1
  exact h1.2.2 _ _ he
theorem qt_rp {n : Nat} {M N1 N2 : am_M} {k : Nat} (h : R n M) (hat : rp_at M N1 k) (hm : M 4 4 = M 1 8 → (M 4 2).toInt ≤ (k : Int)) (h1 : ∀ a, a ≠ 21 → a ≠ 24 → a ≠ 25 → a ≠ 26 → a ≠ 27 → a ≠ 28 → N2 a = N1 a) (h2 : ∀ j, j ≠ 0 → j ≠ 12 → N2 21 j = N1 21 j) : qt M N2 := by
  have e : ∀ a, a < 21 → N2 a = N1 a := fun a ha => h1 a (by omega) (by omega) (by omega) (by omega) (by omega) (by omega)
  have hf := hat.2.2.2.2
  have e1 : N2 1 = M 1 := (e 1 (by decide)).trans (hf 1 (by decide) (by decide) (by decide))
  have e2 : N2 2 = M 2 := (e 2 (by decide)).trans (hf 2 (by decide) (by decide) (by decide))
  have e3 : N2 3 = M 3 := (e 3 (by decide)).trans (hf 3 (by decide) (by decide) (by decide))
  have e7 : ∀ a, 6 < a → a < 21 → N2 a = M a := fun a p1 p2 => (e a p2).trans (hf a (by omega) (by omega) (by omega))
  have hkb : (rp_T M k).2.2 ≤ 23517 := (bf_T_ok h.1.2.2.2.2.2.V.1 h.1.2.2.2.2.2.V.2 k : bf_ok (rp_T M k)).le
  have hk1 := hat.1
  obtain ⟨-, -, ⟨-, ⟨s1, s2⟩, s3, s4⟩, -⟩ := h
  refine ⟨fun a p0 p1 p2 p3 p4 p5 p6 => (h1 a p1 p2 p3 p4 p5 p6).trans (hf a (by omega) (by omega) (by omega)), fun j p1 p2 => ?_, Or.inr ?_, fun z => ⟨?_, ?_⟩, fun _ => ⟨k, hat.self.same (e 1 (by decide)) (e 2 (by decide)) (e 3 (by decide)) (e 4 (by decide)) (e 5 (by decide)) (e 6 (by decide))⟩, ⟨⟨?_, fun z => ?_⟩, ?_, fun z => ?_⟩, Or.inl ?_, Or.inl ?_⟩
  · rw [h2 j p1 p2, hf 21 (by decide) (by decide) (by decide)]
  · rw [e 4 (by decide)]; exact hat.2.2.2.1
  · rw [e 4 (by decide), hat.2.2.1, nI_s (by omega)]
    exact hm z
  · rw [e 4 (by decide)]; exact hat.2.2.2.1
  · rw [e7 7 (by decide) (by decide)]; exact s1
  · rw [e7 7 (by decide) (by decide), e1] at z
    rw [sl_fin_cong e1 e2 e3]
    exact sl_RC_cong (s2 z) (e7 7 (by decide) (by decide)) (e7 8 (by decide) (by decide)) (e7 9 (by decide) (by decide)) (e7 10 (by decide) (by decide))
  · rw [e7 11 (by decide) (by decide)]; exact s3
  · rw [e7 11 (by decide) (by decide), e1] at z
    rw [sl_fin_cong e1 e2 e3]
    exact sl_RC_cong (s4 z) (e7 11 (by decide) (by decide)) (e7 12 (by decide) (by decide)) (e7 13 (by decide) (by decide)) (e7 14 (by decide) (by decide))
  · rw [e7 7 (by decide) (by decide)]
  · rw [e7 11 (by decide) (by decide)]
theorem qt_sl {n : Nat} {M N1 N2 : am_M} (h : R n M) (hmv : sl_mv M N1) (h1 : ∀ a, a ≠ 21 → a ≠ 24 → a ≠ 25 → a ≠ 26 → a ≠ 27 → a ≠ 28 → N2 a = N1 a) (h2 : ∀ j, j ≠ 0 → j ≠ 12 → N2 21 j = N1 21 j) : qt M N2 := by
  have e : ∀ a, a < 21 → N2 a = N1 a := fun a ha => h1 a (by omega) (by omega) (by omega) (by omega) (by omega) (by omega)
  obtain ⟨⟨⟨s1, s2⟩, s3, s4⟩, m1, m2, hf⟩ := hmv
  have e0 : ∀ a, a < 7 → N2 a = M a := fun a p => (e a (by omega)).trans (hf a (Or.inl p))
  obtain ⟨-, -, ⟨hc1, -⟩, -⟩ := h
  have ef : ∀ sb, sl_fin N2 sb = sl_fin N1 sb := fun sb => sl_fin_cong (e 1 (by decide)) (e 2 (by decide)) (e 3 (by decide)) sb
  refine ⟨fun a p0 p1 p2 p3 p4 p5 p6 => (h1 a p1 p2 p3 p4 p5 p6).trans (hf a (by omega)), fun j p1 p2 => ?_, Or.inl ?_, fun z => ⟨?_, ?_⟩, fun z => ?_, ⟨⟨?_, fun z => ?_⟩, ?_, fun z => ?_⟩, ?_, ?_⟩
  · rw [h2 j p1 p2, hf 21 (by decide)]
  · rw [e0 4 (by decide)]
  · rw [e0 4 (by decide)]
    exact Int.le_refl _
  · rw [e0 4 (by decide)]; exact z
  · rw [e0 4 (by decide)] at z
    obtain ⟨k, hk⟩ := hc1 z
    exact ⟨k, hk.same (e0 1 (by decide)) (e0 2 (by decide)) (e0 3 (by decide)) (e0 4 (by decide)) (e0 5 (by decide)) (e0 6 (by decide))⟩
  · rw [e 7 (by decide)]; exact s1
  · rw [e 7 (by decide), e 1 (by decide)] at z
    rw [ef]
    exact sl_RC_cong (s2 z) (e 7 (by decide)) (e 8 (by decide)) (e 9 (by decide)) (e 10 (by decide))
  · rw [e 11 (by decide)]; exact s3
  · rw [e 11 (by decide), e 1 (by decide)] at z
    rw [ef]
    exact sl_RC_cong (s4 z) (e 11 (by decide)) (e 12 (by decide)) (e 13 (by decide)) (e 14 (by decide))
  · rw [e 7 (by decide)]; exact m1
  · rw [e 11 (by decide)]; exact m2
theorem rl_md {M N : am_M} (h : ∀ a, (a < 4 ∨ 14 < a) → N a = M a) : rl_eq M (md N) := by
  refine ⟨?_, ?_, ?_, ⟨?_, ?_, ?_, ?_, ?_, ?_⟩, ?_, ?_⟩
  · rw [md_ne _ (by decide)]; exact h 1 (by decide)
  · rw [md_ne _ (by decide)]; exact h 2 (by decide)
  · rw [md_ne _ (by decide)]; exact h 3 (by decide)
  · rw [md_f _ (by decide), h 21 (by decide)]
  · rw [md_f _ (by decide), h 21 (by decide)]
  · rw [md_f _ (by decide), h 21 (by decide)]
  · rw [md_f _ (by decide), h 21 (by decide)]
  · rw [md_f _ (by decide), h 21 (by decide)]
  · rw [md_f _ (by decide), h 21 (by decide)]
  · rw [md_ne _ (by decide)]; exact h 22 (by decide)
  · rw [md_ne _ (by decide)]; exact h 23 (by decide)
theorem rp_rl {M N : am_M} {k : Nat} (hat : rp_at M N k) : rl_eq M (md N) := rl_md (fun a ha => hat.2.2.2.2 a (by omega) (by omega) (by omega))
theorem sl_rl {M N : am_M} (hmv : sl_mv M N) : rl_eq M (md N) := rl_md (fun a ha => hmv.2.2.2 a (by omega))
/-- what the reference's ramps leaves is quiet -/
theorem rm_q {K N : am_M} (h : rm_fr4 (md K) N) : (∀ a, a ≠ 21 → a ≠ 24 → a ≠ 25 → a ≠ 26 → a ≠ 27 → a ≠ 28 → N a = K a) ∧ ∀ j, j ≠ 0 → j ≠ 12 → N 21 j = K 21 j := by
  refine ⟨fun a p1 p2 p3 p4 _ _ => ?_, fun j p1 p2 => ?_⟩
  · rw [h.1 a p1 p2 p3 p4, md_ne _ p1]
  · rw [h.2 j p2, md_f _ p1]
theorem so_q {K N : am_M} (h : so_fr4 (md K) N) : (∀ a, a ≠ 21 → a ≠ 24 → a ≠ 25 → a ≠ 26 → a ≠ 27 → a ≠ 28 → N a = K a) ∧ ∀ j, j ≠ 0 → j ≠ 12 → N 21 j = K 21 j := by
  refine ⟨fun a p1 _ _ p4 p5 p6 => ?_, fun j p1 p2 => ?_⟩
  · rw [h.1 a p1 p4 p5 p6, md_ne _ p1]
  · rw [h.2 j p2, md_f _ p1]
theorem enc_some (d : Nat) : rp_enc (some d) = nI d := rfl
theorem two_ramp (ad : Nat → Nat) {n : Nat} {M : am_M} (h : R n M) (x : Int32) : Two ad ydX6_ramp ydX7_ramp [.int x] (n + 1) M := by
  have hru := h.1
  refine ⟨_, c_X6_ramp ad M x hru.2.2.2.2.2 h.2.2.1.1, fun r1 N1 p1 => ?_⟩
  rcases p1 with ⟨i1, rfl, rfl⟩ | ⟨i1, k, hat, hfar, rfl⟩
  · refine ⟨_, c_X7_ramp ad M x hru.mRI, fun r2 N2 p2 => ?_⟩
    rcases p2 with ⟨-, rfl, rfl⟩ | ⟨j1, -⟩
    · exact ⟨_, rfl, rfl, h.md.mono (Nat.le_succ n)⟩
    · rw [i1] at j1; cases j1
  · have hq := rp_rl hat
    have hx := in_iff.mp i1
    rw [Int32.toInt_zero, kI_200] at hx
    have hRN : mRI N1 := hru.mRI.cong (hat.2.2.2.2 21 (by decide) (by decide) (by decide))
    refine ⟨_, c_X7_ramp ad N1 x hRN, fun r2 N2 p2 => ?_⟩
    rcases p2 with ⟨j1, -⟩ | ⟨-, b, ⟨hfr, hat2, hP⟩, rfl⟩
    · rw [i1] at j1; cases j1
    · rw [rk_ans hru hat.1 hfar.1]
      have hfq := rm_q hfr
      refine ⟨_, rfl, ?_, (h.qt (qt_rp h hat hfar.2 hfq.1 hfq.2)).mono (Nat.le_succ n)⟩
      rw [hq.F] at hP
      rcases hP with ⟨z1, z2, z3⟩ | ⟨z1, z2, z3, z4⟩ | ⟨z1, d, z2, z3, z4⟩
      · have hb : b = true := by
          cases b
          · exact absurd z2 (by simp [bI])
          · rfl
        rw [if_pos hb, z3, z1, mF_0 hru.mRI]
        rfl
      · have hb : ¬ b = true := by
          cases b
          · simp
          · exact absurd z3 (by simp [bI])
        rw [if_neg hb, z2]
        rfl
      · have hb : b = true := by
          cases b
          · exact absurd z3 (by simp [bI])
          · rfl
        rw [if_pos hb, z4.1, z2]
        rfl
/-- the speeds of a row: the class's way -/
theorem rk_sp {M N : am_M} (h : R_rules M) {k : Nat} (hat : rp_at M N k) {n : Int} (hn : 0 ≤ n) (hn2 : n ≤ 200) {c : Nat} (hc : (rp_T M k).1 (rp_st n) = some c) : ∀ (z i : Nat), i + z ≤ c → rp_sp N z (mg M n i).1 (mg M n i).2.1 (mg M n i).2.2 = (mg M n (i + z)).1 := by
  have hF : mF M (rp_st n) = some c := by rw [← rk_ans h hat.1 (Or.inl (by rw [hc]; simp)), hc]
  intro z
  induction z with
  | zero => intro i _; rfl
  | succ z ih =>
    intro i hi
    have h1 := rk_nc h hat hn hn2 hc (i := i) (by omega)
    have h2 := mg_s M n i
    have h3 := (mg_ok h.mRI hn hn2 hF (i + 1) (by omega)).2.1
    rw [h2] at h3
    dsimp only at h3
    have h4 := ih (i + 1) (by omega)
    rw [h2] at h4
    dsimp only at h4
    rw [rp_sp, h1, if_neg (by omega), h4, show i + (z + 1) = i + 1 + z by omega]
theorem two_speed (ad : Nat → Nat) {n : Nat} {M : am_M} (h : R n M) (x t : Int32) : Two ad ydX6_speed ydX7_speed [.int x, .int t] (n + 1) M := by
  have hru := h.1
  refine ⟨_, c_X6_speed ad M x t hru.2.2.2.2.2 h.2.2.1.1, fun r1 N1 p1 => ?_⟩
  rcases p1 with ⟨i1, rfl, rfl⟩ | ⟨i0, i1, k, hat, hfar, rfl⟩
  · refine ⟨_, c_X7_speed ad M x t hru.mRI, fun r2 N2 p2 => ?_⟩
    rcases p2 with ⟨-, rfl, rfl⟩ | ⟨j1, b, ⟨hfr, hat2, hP⟩, rfl⟩
    · exact ⟨_, rfl, rfl, h.md.mono (Nat.le_succ n)⟩
    · have ht : t < 0 := i1.resolve_right (by rw [j1]; decide)
      have hfq := rm_q hfr
      exact ⟨_, rfl, by rw [if_neg (fun w => w.2.1 ht)], (h.qt (qt_mo h hfq.1 hfq.2)).mono (Nat.le_succ n)⟩
  · have hq := rp_rl hat
    have hx := in_iff.mp i1
    rw [Int32.toInt_zero, kI_200] at hx
    have hRN : mRI N1 := hru.mRI.cong (hat.2.2.2.2 21 (by decide) (by decide) (by decide))
    have ht0 : 0 ≤ t.toInt := by
      rw [Int32.le_iff_toInt_le, Int32.toInt_zero] at i0
      exact i0
    have htn : ¬ t < 0 := by
      rw [Int32.lt_iff_toInt_lt, Int32.toInt_zero]
      omega
    refine ⟨_, c_X7_speed ad N1 x t hRN, fun r2 N2 p2 => ?_⟩
    rcases p2 with ⟨j1, -⟩ | ⟨-, b, ⟨hfr, hat2, hP⟩, rfl⟩
    · rw [i1] at j1; cases j1
    · have hfq := rm_q hfr
      refine ⟨_, rfl, ?_, (h.qt (qt_rp h hat hfar.2 hfq.1 hfq.2)).mono (Nat.le_succ n)⟩
      have hans := rk_ans hru hat.1 hfar.1
      rw [hq.F] at hP
      rw [hans, hq.g]
      rcases hP with ⟨z1, z2, z3⟩ | ⟨z1, z2, z3, z4⟩ | ⟨z1, d, z2, z3, z4⟩
      · rw [z1, mF_0 hru.mRI, if_neg (fun w => htn (by rw [z3] at w; exact w.2.2)), if_pos (by rw [enc_some]; exact i0)]
      · have hb : ¬ b = true := by
          cases b
          · simp
          · exact absurd z3 (by simp [bI])
        rw [z2, if_neg (fun w => hb w.1), if_pos (by
          show (-1 : Int32) ≤ t
          rw [Int32.le_iff_toInt_le, kI_m1]
          omega)]
      · have hb : b = true := by
          cases b
          · exact absurd z3 (by simp [bI])
          · rfl
        have hd := mF_le hru.mRI (by omega) (by omega) (by omega) (by omega) hx.1 hx.2 z2
        rw [z2, enc_some, z4.1]
        by_cases q : nI d ≤ t
        · rw [if_pos q, if_neg (fun w => by
            have w2 := w.2.2
            rw [Int32.lt_iff_toInt_lt] at w2
            rw [Int32.le_iff_toInt_le] at q
            omega)]
        · have q2 : t < nI d := by
            rw [Int32.lt_iff_toInt_lt]
            rw [Int32.le_iff_toInt_le] at q
            omega
          have q3 : t.toInt < d := by
            rw [Int32.lt_iff_toInt_lt, nI_s (by omega)] at q2
            exact q2
          rw [if_neg q, if_pos ⟨hb, htn, q2⟩]
          have h9 := rk_sp hru hat hx.1 hx.2 (c := d) (by rw [hans]; exact z2) (t.toInt.toNat + 1) 0 (by omega)
          rw [Nat.zero_add] at h9
          rw [show (t.toInt + 1).toNat = t.toInt.toNat + 1 by omega, ← h9]
          rfl

/-! place, current: what the law's own calls answer, and what the reference says behind -/
theorem noax_of {x : Int32} (h : ¬ sp_noax x) : sp_in x 0 2 = true := by
  rw [in_iff, Int32.toInt_zero, show (2 : Int32).toInt = 2 from rfl]
  unfold sp_noax at h
  omega
theorem R_thrown {n : Nat} {M : am_M} (h : R n M) (v : Int32) : R (n + 1) (am_put M 21 0 v) := R.mono (R.qt h (qt_mo h (fun a p1 _ _ _ _ _ => am_put_ne _ _ _ _ p1) (fun j p1 _ => by simp [am_rd, p1]))) (Nat.le_succ n)
/-- one throw or one answer: the class's call stands in the law's, the reference tells which -/
def Thr (YL : am_Y) (Y7 : am_Y) (ad : Nat → Nat) (x y : Int32) (n : Nat) (M : am_M) : Prop := ∀ (q3 : Nat) (cL : ClassId) (f : Nat → Int64), ∃ (t : Int32) (f' : Nat → Int64), ah_C YL hhL 1 6 cL [.ref (ad 0), .int x, .int y, .ref q3] (an_am am_II ad M ++ [(q3, .inr (.inr (cL, 1, f)))]) (fun r w1 => r = some (.int t) ∧ w1 = an_am am_II ad M ++ [(q3, .inr (.inr (cL, 1, f')))]) ∧ ∃ (v : Int32) (N : am_M), am_C Y7 ad am_II [.ref (ad 21), .int x, .int y] M (am_is v N) ∧ R (n + 1) N ∧ N 21 0 = t ∧ (t = 0 → f' 0 = v.toInt64)
theorem upd0 (f : Nat → Int64) (v : Int64) : vp_updL f 0 v 0 = v := by simp [vp_updL]
theorem vp_bd {x : Int32} (h : vp_in x 9) : 0 ≤ x.toInt ∧ x.toInt ≤ 8 := by
  unfold vp_in at h
  rw [Int32.lt_iff_toInt_lt, Int32.toInt_zero, i_cl] at h
  omega
theorem th_place (ad : Nat → Nat) {n : Nat} {M : am_M} (h : R n M) (x : Int32) (b : Bool) : Thr ydL_place ydX7_place ad x (bI b) n M := by
  intro q3 cL f
  obtain ⟨a1, -⟩ := h.2.2.2.2.1
  by_cases hx : sp_noax x
  · refine ⟨1, f, t_L_place ad M x (bI b) q3 cL f (t_X6_place ad M x (bI b) hx), _, _, c_X7_place ad M x b, R_thrown h _, ?_, fun q => absurd q (by decide)⟩
    rw [noax_in hx, if_neg (by decide)]
    simp [am_rd]
  · have key : ∀ v, am_C ydX6_place ad am_II [.ref (ad 0), .int x, .int (bI b)] M (am_is v M) → v = (if b = true then M 32 x.toNatClampNeg else M 31 x.toNatClampNeg) → ∃ (t : Int32) (f' : Nat → Int64), ah_C ydL_place hhL 1 6 cL [.ref (ad 0), .int x, .int (bI b), .ref q3] (an_am am_II ad M ++ [(q3, .inr (.inr (cL, 1, f)))]) (fun r w1 => r = some (.int t) ∧ w1 = an_am am_II ad M ++ [(q3, .inr (.inr (cL, 1, f')))]) ∧ ∃ (v : Int32) (N : am_M), am_C ydX7_place ad am_II [.ref (ad 21), .int x, .int (bI b)] M (am_is v N) ∧ R (n + 1) N ∧ N 21 0 = t ∧ (t = 0 → f' 0 = v.toInt64) := by
      intro v hc hv
      refine ⟨0, _, c_L_place ad M x (bI b) v q3 cL f hc, _, _, c_X7_place ad M x b, R_thrown h _, ?_, fun _ => ?_⟩
      · rw [noax_of hx, if_pos rfl]
        simp [am_rd]
      · rw [upd0, noax_of hx, if_pos rfl, hv]
    rcases ax_case x with rfl | rfl | rfl | hx2
    · refine key _ (c_X6_place_16 ad M b) ?_
      have h1 := a1 0 (by decide)
      rw [show (0 : Int32).toNatClampNeg = 0 by decide, ← h1.1, ← h1.2.1]
    · refine key _ (c_X6_place_17 ad M b) ?_
      have h1 := a1 1 (by decide)
      rw [show (1 : Int32).toNatClampNeg = 1 by decide, ← h1.1, ← h1.2.1]
    · refine key _ (c_X6_place_18 ad M b) ?_
      have h1 := a1 2 (by decide)
      rw [show (2 : Int32).toNatClampNeg = 2 by decide, ← h1.1, ← h1.2.1]
    · exact absurd hx2 hx
theorem cur_eq {M : am_M} (h : R_cur M) {p w : Int32} (hp : sp_in p 0 1000 = true) : (if w = 0 then sp_first M p else sp_second M p) = mo_cur (md M) p w := by
  obtain ⟨k, c1, c2, c3, c4, c5, c6⟩ := h
  have hk := sp_k8 c1
  have h36 : md M 36 = M 36 := md_ne M (by decide)
  have h34 : md M 21 34 = M 19 0 := by rw [md_f M (by decide), c3, c2]
  obtain ⟨hr1, hr2⟩ := mo_r_in (K := md M) hk.1 hk.2 (by rw [md_f M (by decide), c3]) hp
  have er : sp_rem M p = mo_r (md M) p := by
    unfold sp_rem mo_r
    rw [if_pos (by rw [Int32.le_iff_toInt_le, kI_1, c2, nI_e]; omega), h34]
  have eq : sp_quart M p = mo_q (md M) p := by
    unfold sp_quart mo_q
    rw [if_pos (by rw [Int32.le_iff_toInt_le, kI_1, c2, nI_e]; omega), h34]
  have e1 : sp_at M (mo_r (md M) p) = M 36 (mo_r (md M) p).toNatClampNeg := by
    have hb := vp_bd hr1
    rw [sp_at_of hb.1 hb.2, c6 _ (by rw [i_cl]; omega)]
  have e2 : sp_at M (M 19 0 - mo_r (md M) p) = M 36 (M 19 0 - mo_r (md M) p).toNatClampNeg := by
    rw [h34] at hr2
    have hb := vp_bd hr2
    rw [sp_at_of hb.1 hb.2, c6 _ (by rw [i_cl]; omega)]
  unfold sp_first sp_second mo_cur
  rw [er, eq, e1, e2, h36, h34]
  by_cases q0 : mo_q (md M) p = 0
  · rw [if_pos q0, if_pos q0, if_pos q0]
  · rw [if_neg q0, if_neg q0, if_neg q0]
    by_cases q1 : mo_q (md M) p = 1
    · rw [if_pos q1, if_pos q1, if_pos q1]
    · rw [if_neg q1, if_neg q1, if_neg q1]
      by_cases q2 : mo_q (md M) p = 2
      · rw [if_pos q2, if_pos q2, if_pos q2]
      · rw [if_neg q2, if_neg q2, if_neg q2]
theorem th_current (ad : Nat → Nat) {n : Nat} {M : am_M} (h : R n M) (p w : Int32) : Thr ydL_current ydX7_current ad p w n M := by
  intro q3 cL f
  have hcu := h.2.2.2.1
  obtain ⟨k, c1, c2, c3, c4, c5, c6⟩ := id hcu
  have hk := sp_k8 c1
  by_cases hx : mo_okCur p w = true
  · have hx2 := hx
    unfold mo_okCur at hx2
    rw [Bool.and_eq_true] at hx2
    refine ⟨0, _, c_L_current ad M p w _ q3 cL f (c_X6_current ad M p w hx2.1 hx2.2), _, _, c_X7_current ad M p w k hk c3, R_thrown h _, ?_, fun _ => ?_⟩
    · rw [if_pos hx]
      simp [am_rd]
    · rw [upd0, if_pos hx, cur_eq hcu hx2.1]
  · refine ⟨1, f, t_L_current ad M p w q3 cL f (t_X6_current ad M p w ?_), _, _, c_X7_current ad M p w k hk c3, R_thrown h _, ?_, fun q => absurd q (by decide)⟩
    · unfold mo_okCur at hx
      cases e1 : sp_in p 0 1000 with
      | false => exact Or.inl rfl
      | true =>
        rw [e1, Bool.true_and, Bool.not_eq_true] at hx
        exact Or.inr hx
    · rw [if_neg hx]
      simp [am_rd]

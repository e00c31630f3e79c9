/-! what holds between the class and the reference between two calls -/
def R_rules (M : am_M) : Prop := (M 21 1 = M 1 0 ∧ M 21 2 = M 1 1 ∧ M 21 3 = M 1 2 ∧ M 21 4 = M 1 3 ∧ M 21 5 = M 1 4 ∧ M 21 8 = M 1 7) ∧ (∀ j, j < 13 → M 22 j = M 2 j) ∧ (∀ j, j < 13 → M 23 j = M 3 j) ∧ M 2 0 = 0 ∧ (∀ j, M 2 j = 0 ∨ M 2 j = 1) ∧ am_RI M
theorem R_rules_mRI {M : am_M} (h : R_rules M) : mRI M := by
  obtain ⟨⟨h1, h2, h3, h4, h5, h6⟩, -, -, -, -, hR⟩ := h
  unfold mRI
  rw [h1, h2, h3, h6]
  exact hR
theorem R_rules.mRI {M : am_M} (h : R_rules M) : mRI M := R_rules_mRI h
theorem re_state {M : am_M} (h : R_rules M) (v a : Int32) : sp_state M v a = mo_state M v a := by
  obtain ⟨⟨h1, h2, -⟩, -⟩ := h
  unfold sp_state mo_state sp_in
  rw [h1, h2, Bool.eq_iff_iff]
  simp only [decide_eq_true_eq, Bool.and_eq_true, and_assoc]
theorem re_in {M : am_M} (h : R_rules M) {v a : Int32} (hs : mo_state M v a = true) : 0 ≤ v.toInt ∧ v.toInt ≤ 12 ∧ -4 ≤ a.toInt ∧ a.toInt ≤ 4 := mo_stB h.mRI hs
theorem re_safe {M : am_M} (h : R_rules M) {w b : Int32} (h0 : 0 ≤ w.toInt) (h1 : w.toInt ≤ 12) : sp_safe M w b = mo_safe M w b := by
  obtain ⟨⟨-, -, -, h4, h5, -⟩, -, h23, -⟩ := h
  have hc : w.toNatClampNeg < 13 := by rw [i_cl]; omega
  unfold sp_safe mo_safe
  rw [h4, h5, h23 _ hc, Bool.eq_iff_iff]
  simp only [decide_eq_true_eq]
  refine ⟨fun q => q.2.2, fun q => ⟨?_, ?_, q⟩⟩
  · rw [Int32.le_iff_toInt_le, Int32.toInt_zero]; exact h0
  · rw [Int32.lt_iff_toInt_lt, kI_13]; omega
theorem re_may {M : am_M} (h : R_rules M) (w b : Int32) (s : Bool) : sp_mayEnd M w b s = decide (mo_state M w b = true ∧ ¬ (b = 0 ∧ 0 < w ∧ ¬ M 22 w.toNatClampNeg = 0) ∧ (s = false ∨ mo_safe M w b = true)) := by
  unfold sp_mayEnd
  rw [re_state h, decide_eq_decide]
  by_cases hs : mo_state M w b = true
  · have hb := re_in h hs
    rw [re_safe h hb.1 hb.2.1]
    have hc : w.toNatClampNeg < 13 := by rw [i_cl]; omega
    have hbad : sp_bad M w = true ↔ (0 < w ∧ ¬ M 22 w.toNatClampNeg = 0) := by
      unfold sp_bad
      rw [decide_eq_true_eq, h.2.1 _ hc]
      refine ⟨fun q => ⟨?_, q.2.2⟩, fun q => ⟨?_, ?_, q.2⟩⟩
      · rw [Int32.lt_iff_toInt_lt, Int32.toInt_zero]
        rcases Int.lt_or_eq_of_le hb.1 with z | z
        · exact z
        · exfalso
          have : w.toNatClampNeg = 0 := by rw [i_cl, ← z]; rfl
          rw [this] at q
          exact q.2.2 h.2.2.2.1
      · rw [Int32.le_iff_toInt_le, Int32.toInt_zero]; exact hb.1
      · rw [Int32.lt_iff_toInt_lt, kI_13]; omega
    rw [hbad]
  · simp [hs]
theorem re_E {M : am_M} (h : R_rules M) (s : Bool) : am_E M s = me_E M s := by
  funext w b
  unfold am_E me_E
  exact re_may h _ _ s
theorem re_n {M : am_M} (h : R_rules M) : am_V M = mV M ∧ am_Ac M = mA M ∧ am_J M = mJ M ∧ am_s M = m_s M := by
  obtain ⟨⟨h1, h2, h3, -, -, h6⟩, -⟩ := h
  unfold am_V mV am_Ac mA am_J mJ am_s m_s
  rw [h1, h2, h3, h6]
  exact ⟨rfl, rfl, rfl, rfl⟩
theorem re_T {M : am_M} (h : R_rules M) : rp_T M = bf_T (mV M) (mA M) (mJ M) (mE M) := by
  obtain ⟨h1, h2, h3, h4⟩ := re_n h
  unfold rp_T mE
  rw [h1, h2, h3, h4, re_E h]
theorem re_F {M : am_M} : mF M = bf_F (mV M) (mA M) (mJ M) (mE M) := rfl
theorem re_fin {M : am_M} (h : R_rules M) (sb : Bool) : (sl_fin M sb).1 = so_F M sb := by
  obtain ⟨h1, h2, h3, h4⟩ := re_n h
  unfold sl_fin sl_Tm so_F sl_F
  rw [h1, h2, h3, re_E h]
theorem re_hE {M : am_M} (h : R_rules M) : ∀ w b, 0 ≤ w → w ≤ 12 → -4 ≤ b → b ≤ 4 → mE M w b = true → -mA M ≤ b ∧ b ≤ mA M := fun w b h1 h2 h3 h4 h5 => (mE_ok h.mRI w b (by omega) (by omega) h3 h4 h5).1
/-- the rules alike -/
def rl_eq (M N : am_M) : Prop := N 1 = M 1 ∧ N 2 = M 2 ∧ N 3 = M 3 ∧ (N 21 1 = M 21 1 ∧ N 21 2 = M 21 2 ∧ N 21 3 = M 21 3 ∧ N 21 4 = M 21 4 ∧ N 21 5 = M 21 5 ∧ N 21 8 = M 21 8) ∧ N 22 = M 22 ∧ N 23 = M 23
theorem rl_eq.rules {M N : am_M} (q : rl_eq M N) (h : R_rules M) : R_rules N := by
  obtain ⟨q1, q2, q3, ⟨q4, q5, q6, q7, q8, q9⟩, q10, q11⟩ := q
  obtain ⟨⟨h1, h2, h3, h4, h5, h6⟩, h7, h8, h9, h10, h11⟩ := h
  refine ⟨⟨?_, ?_, ?_, ?_, ?_, ?_⟩, ?_, ?_, ?_, ?_, h11.cong q1⟩
  · rw [q4, q1]; exact h1
  · rw [q5, q1]; exact h2
  · rw [q6, q1]; exact h3
  · rw [q7, q1]; exact h4
  · rw [q8, q1]; exact h5
  · rw [q9, q1]; exact h6
  · rw [q10, q2]; exact h7
  · rw [q11, q3]; exact h8
  · rw [q2]; exact h9
  · rw [q2]; exact h10
theorem rl_eq.n {M N : am_M} (q : rl_eq M N) : (mV N = mV M ∧ mA N = mA M ∧ mJ N = mJ M ∧ m_s N = m_s M) ∧ ∀ s, me_E N s = me_E M s := by
  obtain ⟨q1, q2, q3, ⟨q4, q5, q6, q7, q8, q9⟩, q10, q11⟩ := q
  refine ⟨⟨?_, ?_, ?_, ?_⟩, fun s => ?_⟩
  · unfold mV; rw [q4]
  · unfold mA; rw [q5]
  · unfold mJ; rw [q6]
  · unfold m_s; rw [q9]
  · funext w b
    unfold me_E mo_state mo_safe
    rw [q4, q5, q7, q8, q10, q11]
theorem rl_eq.F {M N : am_M} (q : rl_eq M N) : mF N = mF M := by
  obtain ⟨⟨h1, h2, h3, h4⟩, h5⟩ := q.n
  unfold mF
  rw [h1, h2, h3, h4, h5]
theorem rl_eq.g {M N : am_M} (q : rl_eq M N) : mg N = mg M := by
  obtain ⟨⟨h1, h2, h3, h4⟩, h5⟩ := q.n
  funext n
  unfold mg mE
  rw [q.F, h2, h3, h4, h5]
theorem rl_eq.so {M N : am_M} (q : rl_eq M N) : so_F N = so_F M := by
  obtain ⟨⟨h1, h2, h3, h4⟩, h5⟩ := q.n
  funext s
  unfold so_F
  rw [h1, h2, h3, h5]
theorem rl_eq.s {M N : am_M} (q : rl_eq M N) : ms N = ms M := by
  obtain ⟨⟨h1, h2, h3, h4⟩, h5⟩ := q.n
  funext s v a
  unfold ms
  rw [q.so, h2, h3, h5]
theorem rl_eq.T {M N : am_M} (q : rl_eq M N) : rp_T N = rp_T M := rp_T_cong q.1 q.2.1 q.2.2.1
theorem rl_eq.fin {M N : am_M} (q : rl_eq M N) (sb : Bool) : sl_fin N sb = sl_fin M sb := sl_fin_cong q.1 q.2.1 q.2.2.1 sb
theorem rl_eq.may {M N : am_M} (q : rl_eq M N) : sp_mayEnd N = sp_mayEnd M := by
  obtain ⟨q1, q2, q3, -⟩ := q
  funext w b s
  unfold sp_mayEnd sp_state sp_bad sp_safe
  rw [q1, q2, q3]
theorem rl_eq.rf (M : am_M) : rl_eq M M := ⟨rfl, rfl, rfl, ⟨rfl, rfl, rfl, rfl, rfl, rfl⟩, rfl, rfl⟩
theorem rl_eq.tr {M N K : am_M} (h : rl_eq M N) (g : rl_eq N K) : rl_eq M K := by
  obtain ⟨q1, q2, q3, ⟨q4, q5, q6, q7, q8, q9⟩, q10, q11⟩ := h
  obtain ⟨r1, r2, r3, ⟨r4, r5, r6, r7, r8, r9⟩, r10, r11⟩ := g
  exact ⟨r1.trans q1, r2.trans q2, r3.trans q3, ⟨r4.trans q4, r5.trans q5, r6.trans q6, r7.trans q7, r8.trans q8, r9.trans q9⟩, r10.trans q10, r11.trans q11⟩
/-- the driver's search is the reference's -/
theorem rk_ans {M : am_M} (h : R_rules M) {n : Int} {k : Nat} (hk : k ≤ (rp_T M k).2.2) (hf : (rp_T M k).1 (rp_st n) ≠ none ∨ k = (rp_T M k).2.2) : (rp_T M k).1 (rp_st n) = mF M (rp_st n) := by
  have hV := h.mRI.V
  rw [re_T h] at hk hf ⊢
  rw [re_F]
  by_cases q : k = (bf_T (mV M) (mA M) (mJ M) (mE M) k).2.2
  · unfold bf_F
    rw [bf_T_fin hV.1 hV.2 q]
  · cases e : (bf_T (mV M) (mA M) (mJ M) (mE M) k).1 (rp_st n) with
    | none => exact absurd e (hf.resolve_right q)
    | some d => exact (bf_T_F hV.1 hV.2 hk e).symm
theorem nI_small {a b : Nat} (ha : a < 2147483648) (hb : b < 2147483648) (e : nI a = nI b) : a = b := by
  have e1 : (nI a).toInt = (nI b).toInt := by rw [e]
  rw [nI_e, nI_e] at e1
  omega
theorem nI_not_m1 {a : Nat} (ha : a < 2147483648) : ¬ nI a = -1 := by
  intro e
  have e1 : (nI a).toInt = (-1 : Int32).toInt := by rw [e]
  rw [nI_e, kI_m1] at e1
  omega
theorem rk_lohi {A J a b : Int} (hA : A ≤ 4) (h1 : bf_hi A J a - bf_n A J a < b) (h2 : b ≤ bf_hi A J a) : -4 ≤ b ∧ b ≤ 4 ∧ bf_lo A J a ≤ b := by
  unfold bf_n at h1
  unfold bf_hi at *
  unfold bf_lo at *
  omega
/-- what the class does next, out of a search that has met the start, is what the reference's row says -/
theorem rk_nc' {M N : am_M} (h : R_rules M) {k : Nat} (hk : k ≤ (rp_T M k).2.2) (hRC : rp_RC N (rp_T M k)) (hq : N 1 = M 1) (hq2 : N 2 = M 2) (hq3 : N 3 = M 3) {n : Int} (hn : 0 ≤ n) (hn2 : n ≤ 200) {c : Nat} (hc : (rp_T M k).1 (rp_st n) = some c) {i : Nat} (hi : i < c) :
    rp_nc N (mg M n i).1 (mg M n i).2.1 (mg M n i).2.2 = gb (mA M) (mJ M) (mE M) (mF M) (mg M n i).1 (mg M n i).2.1 (mg M n i).2.2 := by
  have hR := h.mRI
  have hV := hR.V
  have hok : bf_ok (rp_T M k) := bf_T_ok h.2.2.2.2.2.V.1 h.2.2.2.2.2.V.2 k
  rw [re_T h] at hk hRC hc hok
  have hF : mF M (rp_st n) = some c := bf_T_F hV.1 hV.2 hk hc
  obtain ⟨⟨h1, h12⟩, ⟨ha1, ha2⟩, ⟨hl1, hl2⟩, hFi⟩ := mg_ok hR hn hn2 hF i (by omega)
  have hTi : (bf_T (mV M) (mA M) (mJ M) (mE M) k).1 (bf_idx (mg M n i).1 (mg M n i).2.1 (mg M n i).2.2) = some (c - i) := by
    rcases Nat.eq_zero_or_pos i with z | z
    · subst z
      exact hc
    · exact bf_near hV.1 hR.2.2.1 hV.2 hR.2.2.2.2.1 (re_hE h) hk hc hFi (by omega)
  generalize mg M n i = s at *
  obtain ⟨v, a, l⟩ := s
  dsimp only at *
  obtain ⟨d, hd⟩ : ∃ d, c - i = d + 1 := ⟨c - i - 1, by omega⟩
  rw [hd] at hFi hTi
  have hds := hok.small hTi
  have hix : ∀ (w b l' : Int), 0 ≤ w → w ≤ 12 → -4 ≤ b → b ≤ 4 → 0 ≤ l' → l' ≤ 200 → N 5 (bf_idx w b l') = rp_enc ((bf_T (mV M) (mA M) (mJ M) (mE M) k).1 (bf_idx w b l')) := fun w b l' p1 p2 p3 p4 p5 p6 => by
    rw [← re_T h]
    have h9 := hRC.1 (bf_idx w b l') (bf_idx_lt p1 p2 p3 p4 p5 p6).1
    rw [re_T h]
    exact h9
  have htA : tA N v a l = nI (d + 1) := by
    unfold tA
    rw [if_pos ⟨hl1, hl2⟩, hix v a l h1 h12 ha1 ha2 hl1 hl2, hTi]
    rfl
  have hE : ∀ b, sp_mayEnd N (iN (v + b)) (iN b) (am_s N) = mE M (v + b) b := fun b => by
    have e1 : sp_mayEnd N = sp_mayEnd M := by
      funext w b s
      unfold sp_mayEnd sp_state sp_bad sp_safe
      rw [hq, hq2, hq3]
    have e2 : am_s N = m_s M := by
      unfold am_s
      rw [hq]
      exact (re_n h).2.2.2
    rw [e1, e2]
    exact congrFun (congrFun (re_E h (m_s M)) (v + b)) b
  have hn : am_Ac N = mA M ∧ am_J N = mJ M := by
    unfold am_Ac am_J
    rw [hq]
    exact ⟨(re_n h).2.1, (re_n h).2.2.1⟩
  unfold rp_nc gb
  rw [htA, hFi, if_neg (by rw [Int32.lt_iff_toInt_lt, nI_e, kI_1]; omega), hn.1, hn.2]
  refine rn_s_cong _ _ (fun b p1 p2 => ?_)
  obtain ⟨b1, b2, b3⟩ := rk_lohi hV.2 p1 p2
  unfold rp_cb gbc
  rw [hE b, htA]
  cases hEb : mE M (v + b) b with
  | false => rw [Bool.false_and, Bool.false_and]
  | true =>
    rw [Bool.true_and, Bool.true_and, decide_eq_decide, nI_m1]
    have hw := (mE_ok hR (v + b) b (by omega) (by omega) b1 b2 hEb).2
    unfold tA
    by_cases hr : 0 ≤ l - (v + b) ∧ l - (v + b) ≤ 200
    · rw [if_pos hr, hix _ _ _ hw.1 (by omega) b1 b2 hr.1 hr.2]
      refine ⟨fun q => ⟨hr, ?_⟩, fun q => ?_⟩
      · cases e : (bf_T (mV M) (mA M) (mJ M) (mE M) k).1 (bf_idx (v + b) b (l - (v + b))) with
        | none =>
          rw [e] at q
          exact absurd q.symm (nI_not_m1 (by omega))
        | some d2 =>
          rw [e] at q
          have hs2 := hok.small e
          have : d2 = d := nI_small (by omega) (by omega) q
          rw [re_F, bf_T_F hV.1 hV.2 hk e, this]
      · have h9 : (bf_T (mV M) (mA M) (mJ M) (mE M) k).1 (bf_idx (v + b) b (l - (v + b))) = some d := bf_near hV.1 hR.2.2.1 hV.2 hR.2.2.2.2.1 (re_hE h) hk hTi q.2 (by omega)
        rw [h9]
        rfl
    · rw [if_neg hr]
      exact ⟨fun q => absurd q.symm (nI_not_m1 (by omega)), fun q => absurd q.1 hr⟩
theorem rk_nc {M N : am_M} (h : R_rules M) {k : Nat} (hat : rp_at M N k) {n : Int} (hn : 0 ≤ n) (hn2 : n ≤ 200) {c : Nat} (hc : (rp_T M k).1 (rp_st n) = some c) {i : Nat} (hi : i < c) :
    rp_nc N (mg M n i).1 (mg M n i).2.1 (mg M n i).2.2 = gb (mA M) (mJ M) (mE M) (mF M) (mg M n i).1 (mg M n i).2.1 (mg M n i).2.2 :=
  rk_nc' h hat.1 hat.2.1 (hat.2.2.2.2 1 (by decide) (by decide) (by decide)) (hat.2.2.2.2 2 (by decide) (by decide) (by decide)) (hat.2.2.2.2 3 (by decide) (by decide) (by decide)) hn hn2 hc hi
/-- .. and out of its rows of slowings (7) -/
theorem rk_sl_7 {M N : am_M} (h : R_rules M) (hq : N 1 = M 1) (hq2 : N 2 = M 2) (hq3 : N 3 = M 3) (h0 : N 7 0 = bI true) (hRC : sl_RC 7 N (sl_fin M true)) {v0 a0 : Int} (g1 : 0 ≤ v0) (g2 : v0 ≤ 12) (g3 : -4 ≤ a0) (g4 : a0 ≤ 4) {c s0 : Nat} (hc : so_F M true (sx v0 a0) = some (c, s0)) {i : Nat} (hi : i < c) :
    sl_nc_7 N (ms M true v0 a0 i).1 (ms M true v0 a0 i).2 = sg (mA M) (mJ M) (me_E M true) (so_F M true) (ms M true v0 a0 i).1 (ms M true v0 a0 i).2 := by
  have hR := h.mRI
  have hV := hR.V
  obtain ⟨⟨h1, h12⟩, ⟨ha1, ha2⟩, s', hFi⟩ := ms_ok hR g1 g2 g3 g4 hc i (by omega)
  generalize ms M true v0 a0 i = st at *
  obtain ⟨v, a⟩ := st
  dsimp only at *
  obtain ⟨d, hd⟩ : ∃ d, c - i = d + 1 := ⟨c - i - 1, by omega⟩
  rw [hd] at hFi
  have hsm := so_sml hR hFi
  have hit : ∀ (w b : Int), 0 ≤ w → w ≤ 12 → -4 ≤ b → b ≤ 4 → N 8 (sx w b) = sl_enc (so_F M true (sx w b)) := fun w b p1 p2 p3 p4 => by
    rw [← re_fin h]
    exact hRC.1 (sx w b) (sx_lt p1 p2 p3 p4).1
  have his : ∀ (w b : Int) (t s : Nat), so_F M true (sx w b) = some (t, s) → N 9 (sx w b) = nI s := fun w b t s e => by
    rw [← re_fin h] at e
    exact hRC.2.1 (sx w b) t s e
  have ht : N 8 (sx v a) = nI (d + 1) := by
    rw [hit v a h1 h12 ha1 ha2, hFi]
    rfl
  have hs := his v a _ _ hFi
  have hE : ∀ b, sp_mayEnd N (iN (v + b)) (iN b) (decide (¬ N 7 0 = 0)) = me_E M true (v + b) b := fun b => by
    have e1 : sp_mayEnd N = sp_mayEnd M := by
      funext w b s
      unfold sp_mayEnd sp_state sp_bad sp_safe
      rw [hq, hq2, hq3]
    rw [e1, h0, show decide (¬ bI true = 0) = true from by decide]
    exact congrFun (congrFun (re_E h true) (v + b)) b
  have hn : am_Ac N = mA M ∧ am_J N = mJ M := by
    unfold am_Ac am_J
    rw [hq]
    exact ⟨(re_n h).2.1, (re_n h).2.2.1⟩
  unfold sl_nc_7 sg
  rw [ht, hFi, if_neg (by rw [Int32.lt_iff_toInt_lt, nI_e, kI_1]; omega), hn.1, hn.2]
  refine rn_s_cong _ _ (fun b p1 p2 => ?_)
  obtain ⟨b1, b2, b3⟩ := rk_lohi hV.2 p1 p2
  unfold sl_cb_7 sgc
  rw [hE b, ht, hs, nI_m1]
  cases hEb : me_E M true (v + b) b with
  | false => rw [Bool.false_and, Bool.false_and, Bool.false_and]
  | true =>
    rw [Bool.true_and, Bool.true_and]
    have hw := (so_E2 hR true (v + b) b (by omega) (by omega) b1 b2 hEb).2
    rw [hit (v + b) b hw.1 (by omega) b1 b2]
    cases e : so_F M true (sx (v + b) b) with
    | none =>
      have : ¬ sl_enc (none : Option (Nat × Nat)) = nI d := fun q => nI_not_m1 (a := d) (by omega) q.symm
      simp [this]
    | some p =>
      obtain ⟨t2, s2⟩ := p
      have hs2 := so_sml hR e
      rw [his _ _ _ _ e]
      have e1 : sl_enc (some (t2, s2)) = nI t2 := rfl
      have e2 : nI s2 + iN (v + b) = nI (s2 + (v + b).toNat) := by
        have h9 := so_e2 hw.1 s2
        rw [← h9]
        exact Int32.add_comm _ _
      rw [e1, e2, Bool.eq_iff_iff]
      simp only [Bool.and_eq_true, decide_eq_true_eq]
      refine ⟨fun q => ⟨nI_small (by omega) (by omega) q.1, nI_small (by omega) (by omega) q.2⟩, fun q => ⟨by rw [q.1], by rw [q.2]⟩⟩
/-- .. and out of its rows of slowings (11) -/
theorem rk_sl_11 {M N : am_M} (h : R_rules M) (hq : N 1 = M 1) (hq2 : N 2 = M 2) (hq3 : N 3 = M 3) (h0 : N 11 0 = bI false) (hRC : sl_RC 11 N (sl_fin M false)) {v0 a0 : Int} (g1 : 0 ≤ v0) (g2 : v0 ≤ 12) (g3 : -4 ≤ a0) (g4 : a0 ≤ 4) {c s0 : Nat} (hc : so_F M false (sx v0 a0) = some (c, s0)) {i : Nat} (hi : i < c) :
    sl_nc_11 N (ms M false v0 a0 i).1 (ms M false v0 a0 i).2 = sg (mA M) (mJ M) (me_E M false) (so_F M false) (ms M false v0 a0 i).1 (ms M false v0 a0 i).2 := by
  have hR := h.mRI
  have hV := hR.V
  obtain ⟨⟨h1, h12⟩, ⟨ha1, ha2⟩, s', hFi⟩ := ms_ok hR g1 g2 g3 g4 hc i (by omega)
  generalize ms M false v0 a0 i = st at *
  obtain ⟨v, a⟩ := st
  dsimp only at *
  obtain ⟨d, hd⟩ : ∃ d, c - i = d + 1 := ⟨c - i - 1, by omega⟩
  rw [hd] at hFi
  have hsm := so_sml hR hFi
  have hit : ∀ (w b : Int), 0 ≤ w → w ≤ 12 → -4 ≤ b → b ≤ 4 → N 12 (sx w b) = sl_enc (so_F M false (sx w b)) := fun w b p1 p2 p3 p4 => by
    rw [← re_fin h]
    exact hRC.1 (sx w b) (sx_lt p1 p2 p3 p4).1
  have his : ∀ (w b : Int) (t s : Nat), so_F M false (sx w b) = some (t, s) → N 13 (sx w b) = nI s := fun w b t s e => by
    rw [← re_fin h] at e
    exact hRC.2.1 (sx w b) t s e
  have ht : N 12 (sx v a) = nI (d + 1) := by
    rw [hit v a h1 h12 ha1 ha2, hFi]
    rfl
  have hs := his v a _ _ hFi
  have hE : ∀ b, sp_mayEnd N (iN (v + b)) (iN b) (decide (¬ N 11 0 = 0)) = me_E M false (v + b) b := fun b => by
    have e1 : sp_mayEnd N = sp_mayEnd M := by
      funext w b s
      unfold sp_mayEnd sp_state sp_bad sp_safe
      rw [hq, hq2, hq3]
    rw [e1, h0, show decide (¬ bI false = 0) = false from by decide]
    exact congrFun (congrFun (re_E h false) (v + b)) b
  have hn : am_Ac N = mA M ∧ am_J N = mJ M := by
    unfold am_Ac am_J
    rw [hq]
    exact ⟨(re_n h).2.1, (re_n h).2.2.1⟩
  unfold sl_nc_11 sg
  rw [ht, hFi, if_neg (by rw [Int32.lt_iff_toInt_lt, nI_e, kI_1]; omega), hn.1, hn.2]
  refine rn_s_cong _ _ (fun b p1 p2 => ?_)
  obtain ⟨b1, b2, b3⟩ := rk_lohi hV.2 p1 p2
  unfold sl_cb_11 sgc
  rw [hE b, ht, hs, nI_m1]
  cases hEb : me_E M false (v + b) b with
  | false => rw [Bool.false_and, Bool.false_and, Bool.false_and]
  | true =>
    rw [Bool.true_and, Bool.true_and]
    have hw := (so_E2 hR false (v + b) b (by omega) (by omega) b1 b2 hEb).2
    rw [hit (v + b) b hw.1 (by omega) b1 b2]
    cases e : so_F M false (sx (v + b) b) with
    | none =>
      have : ¬ sl_enc (none : Option (Nat × Nat)) = nI d := fun q => nI_not_m1 (a := d) (by omega) q.symm
      simp [this]
    | some p =>
      obtain ⟨t2, s2⟩ := p
      have hs2 := so_sml hR e
      rw [his _ _ _ _ e]
      have e1 : sl_enc (some (t2, s2)) = nI t2 := rfl
      have e2 : nI s2 + iN (v + b) = nI (s2 + (v + b).toNat) := by
        have h9 := so_e2 hw.1 s2
        rw [← h9]
        exact Int32.add_comm _ _
      rw [e1, e2, Bool.eq_iff_iff]
      simp only [Bool.and_eq_true, decide_eq_true_eq]
      refine ⟨fun q => ⟨nI_small (by omega) (by omega) q.1, nI_small (by omega) (by omega) q.2⟩, fun q => ⟨by rw [q.1], by rw [q.2]⟩⟩

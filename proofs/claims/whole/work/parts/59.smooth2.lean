theorem pf_l0 (l : Nat) : pf l l 0 = 0 := by
  unfold pf
  omega
theorem pf_ly {l y : Nat} (h : 1 ≤ y) : 0 < pf l l y := by
  have h1 : 1 * 1 ≤ y * y := Nat.mul_le_mul h h
  have h2 : ((y * y : Nat) : Int) = (y : Int) * y := Int.natCast_mul y y
  unfold pf
  omega
theorem far_no {a : Nat} (h : a ≤ 20000) : ¬ (1000000 : Int32) < nI a ∧ ¬ nI a = 1000000 := by
  refine ⟨fun q => ?_, fun q => ?_⟩
  · rw [Int32.lt_iff_toInt_lt, nI_s (by omega), kI_1000000] at q
    omega
  · have e : (nI a).toInt = (1000000 : Int32).toInt := by rw [q]
    rw [nI_s (by omega), kI_1000000] at e
    omega
theorem ms_rest {K : am_M} {l k q p : Nat} (hl : l ≤ 100) (hk : p + q = k) (hk8 : k ≤ 8) : ∀ (c y : Nat) (s : ms_S), y + c = l + 1 → 1 ≤ y → pS K l q p s (l, 0) → pS K l q p (ms_y (nI k) (nI l) (nI p) (nI l) c y s) (l, 0) := by
  intro c
  induction c with
  | zero => intro y s _ _ h; exact h
  | succ c ih =>
    intro y s hy h1 hS
    rw [ms_y]
    rw [ms_one_no hl hk hk8 hl (by omega) hS (Or.inl ?_)]
    · exact ih (y + 1) s (by omega) (by omega) hS
    · have a1 := pf_ly (l := l) h1
      have a2 := pf_l0 l
      unfold pb
      dsimp only
      omega
theorem ms_one_new {K : am_M} {l k q p x y : Nat} (hl : l ≤ 100) (hk : p + q = k) (hk8 : k ≤ 8) (hx : x ≤ 100) (hy : y ≤ 100) (hm : ¬ (2 * nI p = nI k ∧ ¬ nI x = nI y)) : pS K l q p (ms_one (nI k) (nI l) (nI p) (nI x) (nI y) (1000000, 1000000, K)) (x, y) := by
  have b1 := pf_le hl hx hy
  have h9 := far_no b1
  have eq : (nI k - nI p).toNatClampNeg = q := by
    rw [i_cl, i_sub, nI_s (by omega), nI_s (by omega)]
    omega
  unfold ms_one
  rw [ms_far_e hl hx hy, ms_off_e hk hk8 hx hy]
  rw [if_neg (by
    rintro (q1 | q1 | q1)
    · exact hm q1
    · exact h9.1 q1
    · exact h9.2 q1.1)]
  refine ⟨⟨hx, hy⟩, rfl, rfl, ?_⟩
  dsimp only
  rw [nI_clamp (by omega), eq]
theorem ms_first {K : am_M} {l k q p : Nat} (hl : l ≤ 100) (hk : p + q = k) (hk8 : k ≤ 8) (hm : ¬ 2 * nI p = nI k) : pS K l q p (ms_y (nI k) (nI l) (nI p) (nI l) (l + 1) 0 (1000000, 1000000, K)) (l, 0) := by
  rw [ms_y]
  exact ms_rest hl hk hk8 l 1 _ (by omega) (Nat.le_refl 1) (ms_one_new hl hk hk8 hl (by omega) (fun z => hm z.1))
theorem xy_eq {K M : am_M} {l k q p : Nat} (hl : l ≤ 100) (hk : p + q = k) (hk8 : k ≤ 8) (hm : ¬ 2 * nI p = nI k) (hM : M 19 1 = nI l) (hK : M 19 0 = nI k) : ∃ b', pS K l q p (ms_x (nI k) (nI l) (nI p) (l + 1) (1000000, 1000000, K)) b' ∧ sp_xy M (nI p) = (nI b'.1, nI b'.2) := by
  have hz : ∀ z, z < 0 → pc l l z := fun z h => absurd h (Nat.not_lt_zero z)
  obtain ⟨h1, h2⟩ := sp_y2_ok (M := M) (y := 0) hl hl hM hz
  have hy0 : sp_y2 M l 0 = 0 := by
    by_cases e : sp_y2 M l 0 = 0
    · exact e
    · have := h2.2 0 (Nat.zero_le l) (fun z => e z.symm)
      have := pf_l0 l
      omega
  have hb := bet_iff (M := M) (x := l) (y := 0) (bx := l) (bz := 0) hl hM hK hk hk8 hl (by omega) hl (by omega)
  have hnb : ¬ pb l q p (l, 0) (l, 0) := by
    unfold pb
    dsimp only
    omega
  have e1 : sp_xy M (nI p) = sp_eo M (nI p) l (nI l) (nI 0) 0 := by
    unfold sp_xy
    rw [hM, nI_s (by omega), Int.toNat_natCast, sp_eo, hy0]
    exact if_neg (fun z => hnb (hb.mp z))
  rw [e1, ms_x]
  exact ms_cols hl hk hk8 hm hM hK l 0 (l, 0) _ (Nat.le_refl l) (ms_first hl hk hk8 hm) hz
/-! the middle -/
theorem mid_row {l k p t : Nat} (hm : 2 * nI p = nI k) (ht : t ≤ 100) : ∀ (c y : Nat) (s : ms_S), y + c = t + 1 → y ≤ t → ms_y (nI k) (nI l) (nI p) (nI t) c y s = ms_one (nI k) (nI l) (nI p) (nI t) (nI t) s := by
  intro c
  induction c with
  | zero => intro y s h1 h2; omega
  | succ c ih =>
    intro y s h1 h2
    rw [ms_y]
    by_cases e : y = t
    · subst e
      obtain rfl : c = 0 := by omega
      rfl
    · have hs : ms_one (nI k) (nI l) (nI p) (nI t) (nI y) s = s := if_pos (Or.inl ⟨hm, fun z => e (nI_small (by omega) (by omega) z).symm⟩)
      rw [hs]
      exact ih (y + 1) s (by omega) (by omega)
theorem po_mid (p x : Nat) : po p p x x = 0 := by
  unfold po
  omega
theorem mid_cols {K M : am_M} {l k p : Nat} (hl : l ≤ 100) (hk : p + p = k) (hk8 : k ≤ 8) (hm : 2 * nI p = nI k) (hM : M 19 1 = nI l) : ∀ (t b : Nat) (s : ms_S), t ≤ l → pS K l p p s (b, b) → ∃ b', pS K l p p (ms_x (nI k) (nI l) (nI p) t s) (b', b') ∧ sp_mid M t (nI b) = nI b' := by
  intro t
  induction t with
  | zero => intro b s _ hS; exact ⟨b, hS, rfl⟩
  | succ t ih =>
    intro b s ht hS
    have hb := hS.1.1
    dsimp only at hb
    rw [ms_x, mid_row hm (by omega) (t + 1) 0 s (by omega) (Nat.zero_le t), sp_mid]
    have e1 : sp_pair M (nI t) (nI t) = nI (pf l t t) := by
      have h9 := ms_far_e (l := l) (x := t) (y := t) hl (by omega) (by omega)
      rw [← hM] at h9
      exact h9
    have e2 : sp_pair M (nI b) (nI b) = nI (pf l b b) := by
      have h9 := ms_far_e (l := l) (x := b) (y := b) hl hb hb
      rw [← hM] at h9
      exact h9
    have b1 := pf_le (l := l) (x := t) (y := t) hl (by omega) (by omega)
    have b2 := pf_le (l := l) (x := b) (y := b) hl hb hb
    rw [e1, e2]
    have p1 := po_mid p t
    have p2 := po_mid p b
    by_cases z : pf l t t < pf l b b
    · rw [if_pos ((nI_ltN (by omega) (by omega)).mpr z)]
      exact ih t _ (by omega) (ms_one_set hl hk hk8 (by omega) (by omega) hS (Or.inl z) (fun w => w.2 rfl))
    · rw [if_neg (fun w => z ((nI_ltN (by omega) (by omega)).mp w))]
      rw [ms_one_no hl hk hk8 (by omega) (by omega) hS (Or.inl (by
        unfold pb
        dsimp only
        omega))]
      exact ih b s (by omega) hS
theorem mid_eq {K M : am_M} {l k p : Nat} (hl : l ≤ 100) (hk : p + p = k) (hk8 : k ≤ 8) (hm : 2 * nI p = nI k) (hM : M 19 1 = nI l) : ∃ b', pS K l p p (ms_x (nI k) (nI l) (nI p) (l + 1) (1000000, 1000000, K)) (b', b') ∧ sp_mid M (M 19 1).toInt.toNat (M 19 1) = nI b' := by
  rw [ms_x, mid_row hm hl (l + 1) 0 _ (by omega) (Nat.zero_le l), hM, nI_s (by omega), Int.toNat_natCast]
  exact mid_cols hl hk hk8 hm hM l l _ (Nat.le_refl l) (ms_one_new hl hk hk8 hl hl (fun w => w.2 rfl))
theorem put_n {M : am_M} {p : Nat} {a : Int32} (hp : p ≤ 8) : sp_put M (nI p) a = am_put M 20 p a := by
  unfold sp_put
  rw [if_pos (by rw [in_iff, Int32.toInt_zero, kI_8, nI_s (by omega)]; omega), nI_clamp (by omega)]
/-- one p: both sides write the same -/
theorem ev_step {K M : am_M} {l k p : Nat} (hl : l ≤ 100) (hp : 2 * p ≤ k) (hk8 : k ≤ 8) (hM : M 19 1 = nI l) (hK : M 19 0 = nI k) (hj : ∀ j, j < 9 → K 36 j = M 20 j) : ∀ j, j < 9 → (ms_x (nI k) (nI l) (nI p) (l + 1) (1000000, 1000000, K)).2.2 36 j = (if 2 * p = k then sp_middle M (nI p) else sp_pairs M (nI p)) 20 j := by
  intro j h9
  have h2p : (2 * nI p : Int32).toInt = 2 * p := by
    rw [i_mul_s (by rw [kI_2, nI_s (by omega)]; omega), kI_2, nI_s (by omega)]
  by_cases e : 2 * p = k
  · have hm : 2 * nI p = nI k := by
      apply i_inj
      rw [h2p, nI_s (by omega)]
      omega
    obtain ⟨b', ⟨h1, h2, h3, h4⟩, h5⟩ := mid_eq (K := K) (M := M) hl (by omega) hk8 hm hM
    rw [if_pos e, h4]
    unfold sp_middle
    rw [h5, put_n (by omega)]
    simp only [am_rd]
    by_cases q : j = p
    · simp [q]
    · simp [q]
      exact hj j h9
  · have hm : ¬ 2 * nI p = nI k := fun z => by
      have z2 : (2 * nI p : Int32).toInt = (nI k).toInt := by rw [z]
      rw [h2p, nI_s (by omega)] at z2
      omega
    obtain ⟨b', ⟨h1, h2, h3, h4⟩, h5⟩ := xy_eq (K := K) (M := M) (q := k - p) hl (by omega) hk8 hm hM hK
    rw [if_neg e, h4]
    unfold sp_pairs
    rw [h5, sp_put_19, hK, show nI k - nI p = nI (k - p) from by
      apply i_inj
      rw [i_sub, nI_s (by omega), nI_s (by omega), nI_s (by omega)]
      omega, put_n (by omega), put_n (by omega)]
    rw [am_rd, am_rd, am_rd, am_rd]
    by_cases q : j = p
    · rw [if_neg (by omega), if_pos ⟨rfl, q⟩, if_neg (by omega), if_pos ⟨rfl, q⟩]
    · by_cases q2 : j = k - p
      · rw [if_pos ⟨rfl, q2⟩, if_pos ⟨rfl, q2⟩]
      · rw [if_neg (by omega), if_neg (by omega), if_neg (by omega), if_neg (by omega)]
        exact hj j h9
theorem ev_all {l k : Nat} (hl : l ≤ 100) (hk8 : k ≤ 8) : ∀ (c p : Nat) (K M : am_M), p + c = k / 2 + 1 → M 19 1 = nI l → M 19 0 = nI k → (∀ j, j < 9 → K 36 j = M 20 j) → ∀ j, j < 9 → ms_p (nI k) (nI l) c p K 36 j = sp_evs k c p M 20 j := by
  intro c
  induction c with
  | zero => intro p K M _ _ _ h; exact h
  | succ c ih =>
    intro p K M hp h1 h2 h
    rw [ms_p, sp_evs, nI_s (by omega), Int.toNat_natCast]
    have h19 : (if 2 * p = k then sp_middle M (nI p) else sp_pairs M (nI p)) 19 = M 19 := by
      split
      · exact sp_middle_19 _ _
      · exact sp_pairs_19 _ _
    exact ih (p + 1) _ _ (by omega) (by rw [h19]; exact h1) (by rw [h19]; exact h2) (ev_step hl (by omega) hk8 h1 h2 h)
theorem sp_put_ne (M : am_M) (p a : Int32) {b : Nat} (h : b ≠ 20) : sp_put M p a b = M b := by
  unfold sp_put
  split
  · exact am_put_ne _ _ _ _ h
  · rfl
theorem sp_evs_ne (k : Nat) {b : Nat} (h : b ≠ 20) : ∀ (n p : Nat) (M : am_M), sp_evs k n p M b = M b := by
  intro n
  induction n with
  | zero => intro p M; rfl
  | succ n ih =>
    intro p M
    rw [sp_evs, ih]
    split
    · unfold sp_middle
      exact sp_put_ne _ _ _ h
    · unfold sp_pairs
      rw [sp_put_ne _ _ _ h, sp_put_ne _ _ _ h]
theorem sp_even_cong {M N : am_M} (h1 : N 19 = M 19) (h2 : N 20 = M 20) : sp_even N = sp_even M := by
  unfold sp_even
  rw [h1]
  refine sp_gm_cong _ (fun j _ => ?_)
  unfold sp_miss sp_pair sp_at
  rw [h1, h2]
theorem two_smooth (ad : Nat → Nat) {n : Nat} {M : am_M} (h : R n M) : Two ad ydX6_smooth ydX7_smooth [] (n + 1) M := by
  obtain ⟨k, c1, c2, c3, c4, c5, c6⟩ := id h.2.2.2.1
  have hk := sp_k8 c1
  obtain ⟨l, hl⟩ : ∃ l : Nat, (M 19 1).toInt = l := ⟨(M 19 1).toInt.toNat, by omega⟩
  have hMl : M 19 1 = nI l := i_inj (by rw [nI_s (by omega)]; exact hl)
  have hs : sp_smooth M = sp_evs k (k / 2 + 1) 0 M := by
    unfold sp_smooth
    rw [c2, nI_s (by omega), Int.toNat_natCast]
  have hne : ∀ b, b ≠ 20 → sp_smooth M b = M b := fun b hb => by rw [hs]; exact sp_evs_ne k hb _ _ _
  have hm : mo_sm (md (sp_smooth M)) = ms_p (nI k) (nI l) (k / 2 + 1) 0 (md (sp_smooth M)) := by
    unfold mo_sm
    rw [md_f _ (by decide), md_f _ (by decide), hne 21 (by decide), c3, c4, hMl, nI_s (by omega), Int.toNat_natCast]
  have hmn : ∀ a, a ≠ 36 → mo_sm (md (sp_smooth M)) a = md (sp_smooth M) a := fun a ha => by rw [hm]; exact ms_p_21 _ _ ha _ _ _
  have h36 : ∀ j, j < 9 → mo_sm (md (sp_smooth M)) 36 j = sp_smooth M 20 j := by
    rw [hm]
    intro j hj
    have h9 := ev_all (l := l) (by omega) hk.2 (k / 2 + 1) 0 (md (sp_smooth M)) M (by omega) hMl c2 (fun j hj => by rw [md_ne _ (by decide), hne 36 (by decide)]; exact c6 j hj) j hj
    rw [h9, hs]
  have hcur : R_cur (mo_sm (md (sp_smooth M))) := by
    refine ⟨k, c1, ?_, ?_, ?_, ?_, ?_⟩
    · rw [hmn 19 (by decide), md_ne _ (by decide), hne 19 (by decide)]; exact c2
    · rw [hmn 21 (by decide), md_f _ (by decide), hne 21 (by decide)]; exact c3
    · rw [hmn 21 (by decide), hmn 19 (by decide), md_f _ (by decide), md_ne _ (by decide), hne 21 (by decide), hne 19 (by decide)]; exact c4
    · rw [hmn 19 (by decide), md_ne _ (by decide), hne 19 (by decide)]; exact c5
    · rw [hmn 20 (by decide), md_ne _ (by decide)]; exact h36
  refine Two.is (c_X6_smooth ad M (by rw [c2, nI_s (by omega)]; omega) c5) (c_X7_smooth ad (sp_smooth M) k ⟨by omega, hk.2⟩ (by rw [hne 21 (by decide)]; exact c3) (by rw [hne 21 (by decide), c4]; exact c5)) ?_ ?_
  · rw [even_eq hcur]
    exact sp_even_cong (by rw [hmn 19 (by decide), md_ne _ (by decide)]) (by rw [hmn 20 (by decide), md_ne _ (by decide)])
  · refine (h.md.curs (fun a p1 p2 p3 p4 => ?_) (fun j p1 p2 => ?_) ?_).mono (Nat.le_succ n)
    · rw [md_ne _ p3, hmn a p4, md_ne _ p3, hne a p2, md_ne _ p3]
    · by_cases q : j = 0
      · simp [am_rd, q]
      · rw [md_f _ q, hmn 21 (by decide), md_f _ q, hne 21 (by decide), md_f _ q]
    · obtain ⟨k', d1, d2, d3, d4, d5, d6⟩ := hcur
      refine ⟨k', d1, ?_, ?_, ?_, ?_, ?_⟩
      · rw [md_ne _ (by decide)]; exact d2
      · rw [md_f _ (by decide)]; exact d3
      · rw [md_f _ (by decide), md_ne _ (by decide)]; exact d4
      · rw [md_ne _ (by decide)]; exact d5
      · rw [md_ne _ (by decide), md_ne _ (by decide)]; exact d6

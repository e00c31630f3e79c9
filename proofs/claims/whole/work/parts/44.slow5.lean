/-! the reference's passes: what each one keeps, and what it adds -/
theorem sl_lx.tr {t s t' s' t'' s'' : Nat} (h : sl_lx t s t' s') (g : sl_lx t' s' t'' s'') : sl_lx t s t'' s'' := by
  unfold sl_lx at *
  omega
theorem sl_lx.add {t s t' s' : Nat} (n : Nat) (h : sl_lx t s t' s') : sl_lx (t + 1) (s + n) (t' + 1) (s' + n) := by
  unfold sl_lx at *
  omega
theorem sl_lx.anti {t s t' s' : Nat} (h : sl_lx t s t' s') (g : sl_lx t' s' t s) : t = t' ∧ s = s' := by
  unfold sl_lx at *
  omega
theorem sl_lx.rf (t s : Nat) : sl_lx t s t s := Or.inr ⟨rfl, Nat.le_refl _⟩
def so_enc (o : Option (Nat × Nat)) : Int32 := match o with
  | none => 1000000
  | some p => nI p.1
def so_st (o : Option (Nat × Nat)) : Int32 := match o with
  | none => 0
  | some p => nI p.2
def so_RC (K : am_M) (G : Nat → Option (Nat × Nat)) : Prop := ∀ x, x < 117 → K 27 x = so_enc (G x) ∧ K 28 x = so_st (G x)
def so_I (F : Nat → Option (Nat × Nat)) (c : Nat) (D : Nat → Prop) (K : am_M) : Prop := ∃ G, so_RC K G ∧ (∀ x t s, G x = some (t, s) → t ≤ c ∧ s ≤ 12 * t) ∧ (∀ x t s, G x = some (t, s) → ∃ t0 s0, F x = some (t0, s0) ∧ sl_lx t0 s0 t s) ∧ ∀ x, D x → ∀ p, F x = some p → G x = some p
theorem so_I.mono {F : Nat → Option (Nat × Nat)} {c c' : Nat} {D D' : Nat → Prop} {K : am_M} (h : so_I F c D K) (hc : c ≤ c') (hD : ∀ x, D' x → D x) : so_I F c' D' K := by
  obtain ⟨G, h1, h2, h3, h4⟩ := h
  exact ⟨G, h1, fun x t s e => by have := h2 x t s e; omega, h3, fun x hx => h4 x (hD x hx)⟩
theorem so_e1 (t : Nat) : (1 : Int32) + nI t = nI (t + 1) := by
  rw [nI_iN, nI_iN, show (1 : Int32) = iN 1 from rfl, iN_add]
  congr 1
  omega
theorem so_e2 {w : Int} (h : 0 ≤ w) (s : Nat) : iN w + nI s = nI (s + w.toNat) := by
  rw [nI_iN, nI_iN, iN_add]
  congr 1
  omega
def so_at (V A J : Int) (E : Int → Int → Bool) (F : Nat → Option (Nat × Nat)) (v a b : Int) : Prop := sl_tr V A J E v a b ∧ ∃ t s, F (sx (v + b) b) = some (t, s) ∧ F (sx v a) = some (t + 1, s + (v + b).toNat)
theorem so_one {V A J : Int} {E : Int → Int → Bool} {F : Nat → Option (Nat × Nat)} (hA : A ≤ 4) (hV : V ≤ 12) (hlw : ∀ {v a b : Int} {t s : Nat}, sl_tr V A J E v a b → F (sx (v + b) b) = some (t, s) → ∃ t' s', F (sx v a) = some (t', s') ∧ sl_lx t' s' (t + 1) (s + (v + b).toNat))
    {s : Bool} {v a b : Int} {c : Nat} {D : Nat → Prop} {m : Bool × am_M} (hc : c < 900000) (hI : so_I F c D m.2) (hgo : mo_go m.2 (iN v) (iN a) (iN b) s = true ↔ sl_tr V A J E v a b) :
    so_I F (c + 1) (fun x => D x ∨ (x = sx v a ∧ so_at V A J E F v a b ∧ D (sx (v + b) b))) (sn_one s v a b m).2 := by
  by_cases hg : mo_go m.2 (iN v) (iN a) (iN b) s = true
  · have htr := hgo.mp hg
    obtain ⟨r1, r2, r3, r4, r5, r6⟩ := id htr
    have hx0 := (sx_lt r1.1 (by omega) (show -4 ≤ a by omega) (by omega)).1
    have hy := (sx_lt r5.1 r5.2 (show -4 ≤ b by omega) (by omega)).1
    obtain ⟨G, h1, h2, h3, h4⟩ := hI
    cases hGy : G (sx (v + b) b) with
    | none =>
      have e : sn_one s v a b m = m := by
        unfold sn_one
        rw [if_pos]
        right; left
        unfold sn_t
        rw [(h1 _ hy).1, hGy]
        simp only [Int32.lt_iff_toInt_lt, so_enc]
        decide
      rw [e]
      refine ⟨G, h1, fun x t s e => by have := h2 x t s e; omega, h3, fun x hx p hp => ?_⟩
      rcases hx with hx | ⟨-, ⟨-, t, s, k1, -⟩, k2⟩
      · exact h4 x hx p hp
      · have := h4 _ k2 _ k1
        rw [hGy] at this
        cases this
    | some p =>
      obtain ⟨ty, sy⟩ := p
      have hb := h2 _ _ _ hGy
      have et : sn_t m.2 v b = nI (ty + 1) := by
        unfold sn_t
        rw [(h1 _ hy).1, hGy]
        exact so_e1 ty
      have es : sn_s m.2 v b = nI (sy + (v + b).toNat) := by
        unfold sn_s
        rw [(h1 _ hy).2, hGy]
        exact so_e2 r5.1 sy
      obtain ⟨t0, s0, k1, k2⟩ := h3 _ _ _ hGy
      obtain ⟨t', s', k3, k4⟩ := hlw htr k1
      have k5 : sl_lx t' s' (ty + 1) (sy + (v + b).toNat) := k4.tr (k2.add _)
      have hskip : sn_skip m.2 s v a b ↔ ∃ tx sx', G (sx v a) = some (tx, sx') ∧ sl_lx tx sx' (ty + 1) (sy + (v + b).toNat) := by
        unfold sn_skip
        rw [et, es, (h1 _ hx0).1, (h1 _ hx0).2, hg]
        cases hGx : G (sx v a) with
        | none =>
          simp only [so_enc, so_st]
          constructor
          · rintro (q | q | q | ⟨q, -⟩)
            · cases q
            · simp only [Int32.lt_iff_toInt_lt, nI_e, kI_1000000] at q; omega
            · simp only [Int32.lt_iff_toInt_lt, nI_e, kI_1000000] at q; omega
            · have q2 := congrArg Int32.toInt q
              simp only [nI_e, kI_1000000] at q2
              omega
          · rintro ⟨_, _, q, -⟩
            cases q
        | some p =>
          obtain ⟨tx, sx'⟩ := p
          have hb2 := h2 _ _ _ hGx
          simp only [so_enc, so_st]
          constructor
          · intro q
            refine ⟨tx, sx', rfl, ?_⟩
            rcases q with q | q | q | ⟨q, q3⟩
            · cases q
            · simp only [Int32.lt_iff_toInt_lt, nI_e, kI_1000000] at q; omega
            · simp only [Int32.lt_iff_toInt_lt, nI_e] at q
              exact Or.inl (by omega)
            · have q2 := congrArg Int32.toInt q
              simp only [Int32.le_iff_toInt_le, nI_e] at q2 q3
              exact Or.inr (by omega)
          · rintro ⟨_, _, q, q2⟩
            cases q
            right; right
            rcases q2 with q2 | ⟨q2, q3⟩
            · left
              simp only [Int32.lt_iff_toInt_lt, nI_e]
              omega
            · right
              refine ⟨by rw [q2], ?_⟩
              simp only [Int32.le_iff_toInt_le, nI_e]
              omega
      by_cases hs : sn_skip m.2 s v a b
      · have e : sn_one s v a b m = m := by (unfold sn_one; rw [if_pos hs])
        rw [e]
        obtain ⟨tx, sx', k6, k7⟩ := hskip.mp hs
        refine ⟨G, h1, fun x t s e => by have := h2 x t s e; omega, h3, fun x hx p hp => ?_⟩
        rcases hx with hx | ⟨rfl, ⟨-, t, s9, k8, k9⟩, k10⟩
        · exact h4 x hx p hp
        · have z1 := h4 _ k10 _ k8
          rw [hGy] at z1
          have z2 := Option.some.inj z1
          have z3 := congrArg Prod.fst z2
          have z4 := congrArg Prod.snd z2
          dsimp only at z3 z4
          obtain ⟨t3, s3, z5, z6⟩ := h3 _ _ _ k6
          rw [k9] at z5 hp
          have z7 := Option.some.inj z5
          have z8 := congrArg Prod.fst z7
          have z9 := congrArg Prod.snd z7
          dsimp only at z8 z9
          rw [k6, ← hp]
          rw [z3, z4] at k7
          rw [← z8, ← z9] at z6
          obtain ⟨e1, e2⟩ := k7.anti z6
          rw [e1, e2]
      · have e : sn_one s v a b m = (true, am_put (am_put m.2 27 (sx v a) (sn_t m.2 v b)) 28 (sx v a) (sn_s m.2 v b)) := by (unfold sn_one; rw [if_neg hs])
        rw [e, et, es]
        refine ⟨fun x => if x = sx v a then some (ty + 1, sy + (v + b).toNat) else G x, fun x hx => ?_, fun x t s e => ?_, fun x t s e => ?_, fun x hx p hp => ?_⟩
        · by_cases q : x = sx v a
          · subst q
            simp [am_rd, so_enc, so_st]
          · simp [am_rd, q, h1 x hx]
        · dsimp only at e
          by_cases q : x = sx v a
          · rw [if_pos q] at e
            cases e
            omega
          · rw [if_neg q] at e
            have := h2 x t s e
            omega
        · dsimp only at e
          by_cases q : x = sx v a
          · rw [if_pos q] at e
            cases e
            rw [q]
            exact ⟨t', s', k3, k5⟩
          · rw [if_neg q] at e
            exact h3 x t s e
        · dsimp only
          by_cases q : x = sx v a
          · rw [if_pos q]
            rcases hx with hx | ⟨-, ⟨-, t, s9, k8, k9⟩, k10⟩
            · exfalso
              have z1 := h4 x hx p hp
              rw [q] at z1 hp
              rw [k3] at hp
              have z2 := Option.some.inj hp
              exact hs (hskip.mpr ⟨t', s', by rw [z1, z2], k5⟩)
            · have z1 := h4 _ k10 _ k8
              rw [hGy] at z1
              have z2 := Option.some.inj z1
              rw [q, k9] at hp
              rw [← hp]
              have z3 := congrArg Prod.fst z2
              have z4 := congrArg Prod.snd z2
              dsimp only at z3 z4
              rw [z3, z4]
          · rw [if_neg q]
            rcases hx with hx | ⟨z, -⟩
            · exact h4 x hx p hp
            · exact absurd z q
  · have e : sn_one s v a b m = m := by
      unfold sn_one
      rw [if_pos]
      left
      exact Bool.eq_false_iff.mpr hg
    rw [e]
    refine hI.mono (Nat.le_succ _) (fun x hx => ?_)
    rcases hx with hx | ⟨-, hx, -⟩
    · exact hx
    · exact absurd (hgo.mpr hx.1) hg
theorem so_stop {V A J : Int} {E : Int → Int → Bool} {F : Nat → Option (Nat × Nat)} (hA : A ≤ 4) (hV : V ≤ 12) (hlw : ∀ {v a b : Int} {t s : Nat}, sl_tr V A J E v a b → F (sx (v + b) b) = some (t, s) → ∃ t' s', F (sx v a) = some (t', s') ∧ sl_lx t' s' (t + 1) (s + (v + b).toNat))
    {s : Bool} {v a b : Int} {c : Nat} {m : Bool × am_M} (hc : c < 900000) (hI : so_I F c (fun _ => True) m.2) (hgo : mo_go m.2 (iN v) (iN a) (iN b) s = true ↔ sl_tr V A J E v a b) : sn_one s v a b m = m := by
  unfold sn_one
  rw [if_pos]
  by_cases hg : mo_go m.2 (iN v) (iN a) (iN b) s = true
  · have htr := hgo.mp hg
    obtain ⟨r1, r2, r3, r4, r5, r6⟩ := id htr
    have hx0 := (sx_lt r1.1 (by omega) (show -4 ≤ a by omega) (by omega)).1
    have hy := (sx_lt r5.1 r5.2 (show -4 ≤ b by omega) (by omega)).1
    obtain ⟨G, h1, h2, h3, h4⟩ := hI
    right
    cases hGy : G (sx (v + b) b) with
    | none =>
      left
      unfold sn_t
      rw [(h1 _ hy).1, hGy]
      simp only [Int32.lt_iff_toInt_lt, so_enc]
      decide
    | some p =>
      right
      obtain ⟨ty, sy⟩ := p
      have hb := h2 _ _ _ hGy
      have et : sn_t m.2 v b = nI (ty + 1) := by
        unfold sn_t
        rw [(h1 _ hy).1, hGy]
        exact so_e1 ty
      have es : sn_s m.2 v b = nI (sy + (v + b).toNat) := by
        unfold sn_s
        rw [(h1 _ hy).2, hGy]
        exact so_e2 r5.1 sy
      obtain ⟨t0, s0, k1, k2⟩ := h3 _ _ _ hGy
      obtain ⟨t', s', k3, k4⟩ := hlw htr k1
      have k5 : sl_lx t' s' (ty + 1) (sy + (v + b).toNat) := k4.tr (k2.add _)
      have k6 := h4 _ trivial _ k3
      have hb2 := h2 _ _ _ k6
      rw [et, es, (h1 _ hx0).1, (h1 _ hx0).2, k6]
      simp only [so_enc, so_st]
      rcases k5 with q2 | ⟨q2, q3⟩
      · left
        simp only [Int32.lt_iff_toInt_lt, nI_e]
        omega
      · right
        refine ⟨by rw [q2], ?_⟩
        simp only [Int32.le_iff_toInt_le, nI_e]
        omega
  · left
    exact Bool.eq_false_iff.mpr hg
theorem so_one_f {s : Bool} {v a b : Int} {m : Bool × am_M} (h : (sn_one s v a b m).1 = false) : sn_one s v a b m = m := by
  unfold sn_one at h ⊢
  split
  · rfl
  · rename_i q
    rw [if_neg q] at h
    cases h
theorem so_b_f {s : Bool} {v a : Int} : ∀ (n : Nat) (b : Int) (m : Bool × am_M), (sn_b s v a n b m).1 = false → sn_b s v a n b m = m := by
  intro n
  induction n with
  | zero => intro b m _; rfl
  | succ n ih =>
    intro b m h
    rw [sn_b] at h ⊢
    have h1 := ih _ _ h
    rw [h1] at h ⊢
    exact so_one_f h
theorem so_a_f {s : Bool} {A v : Int} : ∀ (n : Nat) (a : Int) (m : Bool × am_M), (sn_a s A v n a m).1 = false → sn_a s A v n a m = m := by
  intro n
  induction n with
  | zero => intro b m _; rfl
  | succ n ih =>
    intro b m h
    rw [sn_a] at h ⊢
    have h1 := ih _ _ h
    rw [h1] at h ⊢
    exact so_b_f _ _ _ h
theorem so_v_f {s : Bool} {A : Int} : ∀ (n : Nat) (v : Int) (m : Bool × am_M), (sn_v s A n v m).1 = false → sn_v s A n v m = m := by
  intro n
  induction n with
  | zero => intro b m _; rfl
  | succ n ih =>
    intro b m h
    rw [sn_v] at h ⊢
    have h1 := ih _ _ h
    rw [h1] at h ⊢
    exact so_a_f _ _ _ h
theorem so_go {K0 K : am_M} (hR : mRI K0) (h1 : K 21 = K0 21) (h2 : K 22 = K0 22) (h3 : K 23 = K0 23) {s : Bool} {v a b : Int} (hv : 0 ≤ v ∧ v ≤ mV K0) (ha : -mA K0 ≤ a ∧ a ≤ mA K0) (hb : -mA K0 ≤ b ∧ b ≤ mA K0) : mo_go K (iN v) (iN a) (iN b) s = true ↔ sl_tr (mV K0) (mA K0) (mJ K0) (me_E K0 s) v a b := by
  have hV := hR.V
  have e : mo_go K (iN v) (iN a) (iN b) s = mo_go K0 (iN v) (iN a) (iN b) s := by
    unfold mo_go mo_state mo_safe
    rw [h1, h2, h3]
  rw [e, mo_go_iff hR (by omega) (by omega) (by omega) (by omega) (by omega) (by omega)]
  constructor
  · rintro ⟨k1, k2⟩
    have hst := (mo_state_iff hR (v := v + b) (a := b) (by omega) (by omega) (by omega) (by omega)).mp (by have h9 := k2; unfold me_E at h9; rw [decide_eq_true_eq] at h9; exact h9.1)
    exact ⟨hv, ha, hb, k1, ⟨hst.1.1, by omega⟩, k2⟩
  · rintro ⟨-, -, -, k1, -, k2⟩
    exact ⟨k1, k2⟩
theorem so_E {K : am_M} (hR : mRI K) (s : Bool) : ∀ w b, 0 ≤ w → w ≤ 12 → -4 ≤ b → b ≤ 4 → me_E K s w b = true → -mA K ≤ b ∧ b ≤ mA K := by
  intro w b h1 h2 h3 h4 h
  unfold me_E at h
  rw [decide_eq_true_eq] at h
  exact ((mo_state_iff hR (by omega) (by omega) (by omega) (by omega)).mp h.1).2
noncomputable def so_F (K : am_M) (s : Bool) : Nat → Option (Nat × Nat) := sl_F (mV K) (mA K) (mJ K) (me_E K s)
def so_sm (K0 K : am_M) : Prop := K 21 = K0 21 ∧ K 22 = K0 22 ∧ K 23 = K0 23
theorem so_F_lw {K0 : am_M} (hR : mRI K0) (s : Bool) {v a b : Int} {t s1 : Nat} (htr : sl_tr (mV K0) (mA K0) (mJ K0) (me_E K0 s) v a b) (hF : so_F K0 s (sx (v + b) b) = some (t, s1)) : ∃ t' s', so_F K0 s (sx v a) = some (t', s') ∧ sl_lx t' s' (t + 1) (s1 + (v + b).toNat) := sl_F_lw hR.V.1 hR.V.2 (so_E hR s) htr hF
abbrev so_A (K0 : am_M) (s : Bool) (v a b : Int) : Prop := so_at (mV K0) (mA K0) (mJ K0) (me_E K0 s) (so_F K0 s) v a b
theorem so_b {K0 : am_M} (hR : mRI K0) {s : Bool} {v a : Int} (hv : 0 ≤ v ∧ v ≤ mV K0) (ha : -mA K0 ≤ a ∧ a ≤ mA K0) : ∀ (n : Nat) (b : Int) (m : Bool × am_M) (c : Nat) (D : Nat → Prop), so_I (so_F K0 s) c D m.2 → c + n < 900000 → so_sm K0 m.2 → -mA K0 ≤ b → b + n ≤ mA K0 + 1 → so_I (so_F K0 s) (c + n) (fun x => D x ∨ (x = sx v a ∧ ∃ b', (b ≤ b' ∧ b' < b + n) ∧ so_A K0 s v a b' ∧ D (sx (v + b') b'))) (sn_b s v a n b m).2 := by
  intro n
  induction n with
  | zero =>
    intro b m c D hI hc hq h1 h2
    refine hI.mono (Nat.le_refl _) (fun x hx => ?_)
    rcases hx with hx | ⟨-, b', hx, -⟩
    · exact hx
    · omega
  | succ n ih =>
    intro b m c D hI hc hq h1 h2
    rw [sn_b]
    have hV := hR.V
    have h3 := so_one (s := s) (v := v) (a := a) (b := b) (m := m) hV.2 hV.1 (so_F_lw hR s) (by omega) hI (so_go hR hq.1 hq.2.1 hq.2.2 hv ha ⟨h1, by omega⟩)
    have hq2 : so_sm K0 (sn_one s v a b m).2 := ⟨(sn_one_ne _ _ _ _ _ (by decide) (by decide)).trans hq.1, (sn_one_ne _ _ _ _ _ (by decide) (by decide)).trans hq.2.1, (sn_one_ne _ _ _ _ _ (by decide) (by decide)).trans hq.2.2⟩
    refine (ih (b + 1) _ (c + 1) _ h3 (by omega) hq2 (by omega) (by omega)).mono (by omega) (fun x hx => ?_)
    rcases hx with hx | ⟨hx, b', k1, k2, k3⟩
    · exact Or.inl (Or.inl hx)
    · by_cases q : b' = b
      · subst q
        exact Or.inl (Or.inr ⟨hx, k2, k3⟩)
      · exact Or.inr ⟨hx, b', ⟨by omega, by omega⟩, k2, Or.inl k3⟩
theorem so_a {K0 : am_M} (hR : mRI K0) {s : Bool} {v : Int} (hv : 0 ≤ v ∧ v ≤ mV K0) : ∀ (n : Nat) (a : Int) (m : Bool × am_M) (c : Nat) (D : Nat → Prop), so_I (so_F K0 s) c D m.2 → c + 9 * n < 900000 → so_sm K0 m.2 → -mA K0 ≤ a → a + n ≤ mA K0 + 1 → so_I (so_F K0 s) (c + 9 * n) (fun x => D x ∨ (∃ a' b', (a ≤ a' ∧ a' < a + n) ∧ x = sx v a' ∧ so_A K0 s v a' b' ∧ D (sx (v + b') b'))) (sn_a s (mA K0) v n a m).2 := by
  intro n
  induction n with
  | zero =>
    intro a m c D hI hc hq h1 h2
    refine hI.mono (by omega) (fun x hx => ?_)
    rcases hx with hx | ⟨a', b', hx, -⟩
    · exact hx
    · omega
  | succ n ih =>
    intro a m c D hI hc hq h1 h2
    rw [sn_a]
    have hV := hR.V
    have h3 := so_b hR (s := s) hv (a := a) ⟨h1, by omega⟩ (2 * mA K0 + 1).toNat (-mA K0) m c D hI (by omega) hq (by omega) (by omega)
    have hq2 : so_sm K0 (sn_b s v a (2 * mA K0 + 1).toNat (-mA K0) m).2 := ⟨(sn_b_ne _ _ _ (by decide) (by decide) _ _ _).trans hq.1, (sn_b_ne _ _ _ (by decide) (by decide) _ _ _).trans hq.2.1, (sn_b_ne _ _ _ (by decide) (by decide) _ _ _).trans hq.2.2⟩
    refine (ih (a + 1) _ (c + 9) _ (h3.mono (by omega) (fun _ h => h)) (by omega) hq2 (by omega) (by omega)).mono (by omega) (fun x hx => ?_)
    rcases hx with hx | ⟨a', b', k1, k2, k3, k4⟩
    · exact Or.inl (Or.inl hx)
    · by_cases q : a' = a
      · subst q
        have hr := k3.1.2.2.1
        exact Or.inl (Or.inr ⟨k2, b', ⟨by omega, by omega⟩, k3, k4⟩)
      · exact Or.inr ⟨a', b', ⟨by omega, by omega⟩, k2, k3, Or.inl k4⟩
theorem so_v {K0 : am_M} (hR : mRI K0) {s : Bool} : ∀ (n : Nat) (v : Int) (m : Bool × am_M) (c : Nat) (D : Nat → Prop), so_I (so_F K0 s) c D m.2 → c + 81 * n < 900000 → so_sm K0 m.2 → 0 ≤ v → v + n ≤ mV K0 + 1 → so_I (so_F K0 s) (c + 81 * n) (fun x => D x ∨ (∃ v' a' b', (v ≤ v' ∧ v' < v + n) ∧ x = sx v' a' ∧ so_A K0 s v' a' b' ∧ D (sx (v' + b') b'))) (sn_v s (mA K0) n v m).2 := by
  intro n
  induction n with
  | zero =>
    intro v m c D hI hc hq h1 h2
    refine hI.mono (by omega) (fun x hx => ?_)
    rcases hx with hx | ⟨v', a', b', hx, -⟩
    · exact hx
    · omega
  | succ n ih =>
    intro v m c D hI hc hq h1 h2
    rw [sn_v]
    have hV := hR.V
    have hA1 : 1 ≤ mA K0 := hR.2.2.1
    have h3 := so_a hR (s := s) (v := v) ⟨h1, by omega⟩ (2 * mA K0 + 1).toNat (-mA K0) m c D hI (by omega) hq (by omega) (by omega)
    have hq2 : so_sm K0 (sn_a s (mA K0) v (2 * mA K0 + 1).toNat (-mA K0) m).2 := ⟨(sn_a_ne _ _ _ (by decide) (by decide) _ _ _).trans hq.1, (sn_a_ne _ _ _ (by decide) (by decide) _ _ _).trans hq.2.1, (sn_a_ne _ _ _ (by decide) (by decide) _ _ _).trans hq.2.2⟩
    refine (ih (v + 1) _ (c + 81) _ (h3.mono (by omega) (fun _ h => h)) (by omega) hq2 (by omega) (by omega)).mono (by omega) (fun x hx => ?_)
    rcases hx with hx | ⟨v', a', b', k1, k2, k3, k4⟩
    · exact Or.inl (Or.inl hx)
    · by_cases q : v' = v
      · subst q
        have hr := k3.1.2.1
        exact Or.inl (Or.inr ⟨a', b', ⟨by omega, by omega⟩, k2, k3, k4⟩)
      · exact Or.inr ⟨v', a', b', ⟨by omega, by omega⟩, k2, k3, Or.inl k4⟩
def so_D (F : Nat → Option (Nat × Nat)) (k : Nat) (x : Nat) : Prop := ∃ t s, F x = some (t, s) ∧ t ≤ k
/-- one pass more: the states of one tick more are right -/
theorem so_pass {K0 K : am_M} (hR : mRI K0) {s : Bool} {c k : Nat} (hI : so_I (so_F K0 s) c (so_D (so_F K0 s) k) K) (hc : c + 1053 < 900000) (hq : so_sm K0 K) : so_I (so_F K0 s) (c + 1053) (so_D (so_F K0 s) (k + 1)) (sn_pass s (mV K0) (mA K0) K).2 := by
  have hV := hR.V
  have hV1 : 1 ≤ mV K0 := hR.1
  have h1 := so_v hR (s := s) (mV K0 + 1).toNat 0 (false, K) c _ hI (by omega) hq (by omega) (by omega)
  refine h1.mono (by omega) (fun x hx => ?_)
  obtain ⟨t, s1, h2, h3⟩ := hx
  by_cases q : t ≤ k
  · exact Or.inl ⟨t, s1, h2, q⟩
  · obtain ⟨t2, rfl⟩ : ∃ t2, t = t2 + 1 := ⟨t - 1, by omega⟩
    have hx := (sl_F_sm hV.1 hV.2 h2).2.2
    have hw := sl_wb hx
    have hd := sx_dec hx
    rw [← hd] at h2
    obtain ⟨b, s0, k1, k2, k3⟩ := sl_F_pr hV.1 hV.2 (so_E hR s) _ _ _ _ hw.1 hw.2.1 hw.2.2.1 hw.2.2.2 h2
    have k4 := k1.1
    refine Or.inr ⟨sl_w x, sl_b x, b, ⟨by omega, by omega⟩, hd.symm, ⟨k1, t2, s0, k2, ?_⟩, ⟨t2, s0, k2, by omega⟩⟩
    rw [← k3]
    exact h2
/-- a pass that changes nothing: all is right -/
theorem so_done {K0 K : am_M} (hR : mRI K0) {s : Bool} {c : Nat} (hI : so_I (so_F K0 s) c (so_D (so_F K0 s) 0) K) (hc : c + 1053 * 120 < 900000) (hq : so_sm K0 K) (hf : sn_pass s (mV K0) (mA K0) K = (false, K)) : so_RC K (so_F K0 s) := by
  have hV := hR.V
  have h1 : ∀ k, k ≤ 117 → so_I (so_F K0 s) (c + 1053 * k) (so_D (so_F K0 s) k) K := by
    intro k
    induction k with
    | zero => intro _; exact hI
    | succ k ih =>
      intro hk
      have h2 := so_pass hR (ih (by omega)) (by omega) hq
      rw [hf] at h2
      exact h2.mono (by omega) (fun _ h => h)
  obtain ⟨G, g1, g2, g3, g4⟩ := h1 117 (Nat.le_refl _)
  have e : ∀ x, G x = so_F K0 s x := by
    intro x
    cases hx : so_F K0 s x with
    | some p =>
      have := sl_F_sm (t := p.1) (s := p.2) hV.1 hV.2 hx
      exact g4 x ⟨p.1, p.2, hx, by omega⟩ p hx
    | none =>
      cases hg : G x with
      | none => rfl
      | some p =>
        obtain ⟨t0, s0, h3, -⟩ := g3 x p.1 p.2 hg
        rw [hx] at h3
        cases h3
  intro x hx
  rw [← e]
  exact g1 x hx

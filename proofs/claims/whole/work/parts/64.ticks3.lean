theorem TI.run {n : Nat} {M : am_M} (h : R n M) {c : Nat} {q : Nat → Int × Int × Int} (hc : c ≤ 1000) (h22 : M 21 22 = nI c) (hq : SQ M c q) {p0 : Nat} (h33 : ∀ i, p0 ≤ i → i < c → M 33 i = iN (q (i + 1)).2.1) : ∀ (k p : Nat) (K1 K2 : am_M), TI M c q p0 p K1 K2 → (sp_run k K1).1 = (mo_run k K2).1 ∧ ∃ p', TI M c q p0 p' (sp_run k K1).2 (mo_run k K2).2 := by
  intro k
  induction k with
  | zero => intro p K1 K2 hT; exact ⟨rfl, p, hT⟩
  | succ k ih =>
    intro p K1 K2 hT
    have hg : sp_goes K1 = decide (p < c) := by
      unfold sp_goes
      rw [hT.2.2.2.2.2.1.2.1, goes_nI (by omega), decide_eq_decide]
      omega
    have h15 := hT.2.2.2.2.2.1.2.2
    rw [sp_run, mo_run, hg, h15]
    by_cases z : p < c
    · rw [if_pos (decide_eq_true z), if_pos z, if_neg (show ¬ (1 : Int32) = 0 by decide)]
      obtain ⟨i1, i2⟩ := ih (p + 1) _ _ (TI.step h hc h22 hq h33 hT z)
      exact ⟨congrArg (· + 1) i1, i2⟩
    · rw [if_neg (show ¬ decide (p < c) = true from fun y => z (of_decide_eq_true y)), if_neg z, if_pos (show (0 : Int32) = 0 from rfl)]
      exact ⟨rfl, p, hT⟩
theorem sp_run_ne {a : Nat} (h : a < 15 ∨ 18 < a) : ∀ (k : Nat) (M : am_M), (sp_run k M).2 a = M a := by
  intro k
  induction k with
  | zero => intro M; rfl
  | succ k ih =>
    intro M
    rw [sp_run]
    split
    · dsimp only
      rw [ih, sp_tt_ne _ h]
    · rfl
theorem mo_run_ne {a : Nat} (h1 : a ≠ 31) (h2 : a ≠ 32) (h3 : a ≠ 21) : ∀ (k : Nat) (K : am_M), (mo_run k K).2 a = K a := by
  intro k
  induction k with
  | zero => intro K; rfl
  | succ k ih =>
    intro K
    rw [mo_run]
    split
    · rfl
    · dsimp only
      rw [ih]
      unfold mo_step
      rw [mo_stepb_ne _ _ h1 h2 h3]
theorem two_tick (ad : Nat → Nat) {n : Nat} {M : am_M} (h : R n M) (k : Int32) : Two ad ydX6_tick ydX7_tick [.int k] (n + 1) M := by
  have hru := h.1
  obtain ⟨⟨f1, f2, f3, f4, f5, f6, f7, f8⟩, f9, f10, f11⟩ := id h.2.2.2.2.2.1
  have hmv : sp_goes M = true → mv_ok M := fun hg => by
    obtain ⟨p, c, q, ⟨g1, g2⟩, ⟨q1, q2, q3, q4⟩, ⟨s1, s2, s3, s4⟩, -⟩ := sq_of h hg
    refine ⟨⟨hru.2.2.2.2.2, h.2.2.1.2.f7, h.2.2.1.2.f11⟩, ⟨f10.1, f10.2.1, f10.2.2.1, f10.2.2.2, fun z => ?_⟩, by rw [f1]; omega⟩
    have h9 := (q3 z).1 p (by omega)
    rw [s3 z, iN_t (by omega) (by omega)]
    omega
  refine ⟨_, c_X6_tick ad M k hmv, fun r1 N1 p1 => ?_⟩
  obtain ⟨rfl, e1⟩ := p1
  have n1 : ∀ a, (a < 15 ∨ 18 < a) → N1 a = M a := fun a ha => by
    rw [e1]
    split
    · exact sp_run_ne ha _ _
    · rfl
  have h21 : N1 21 = M 21 := n1 21 (by decide)
  have hmt : ¬ md N1 21 15 = 0 → mt_ok (md N1) := fun hz => by
    rw [md_f _ (by decide), h21, f11] at hz
    have hg : sp_goes M = true := (bI_1 _).mp hz
    obtain ⟨p, c, q, ⟨g1, g2⟩, ⟨q1, q2, q3, q4⟩, ⟨s1, s2, s3, s4⟩, t1, t2, t3, t4, -⟩ := sq_of h hg
    refine ⟨fun i => (q i).1, p, c, ⟨g2, by omega⟩, ?_, ?_, ?_, fun i _ hi => (q1 i hi).1, ?_, fun i hi hi2 => ?_, ?_, ?_⟩
    · rw [md_f _ (by decide), h21]; exact t1
    · rw [md_f _ (by decide), h21]; exact t2
    · rw [md_f _ (by decide), h21, f11, hg, if_pos g1]; rfl
    · rw [md_f _ (by decide), h21, ← f3]; exact s1
    · rw [md_ne _ (by decide), n1 33 (by decide), s4 i hi hi2]
      congr 1
      have := q2 i hi2
      dsimp only
      omega
    · rw [md_f _ (by decide), h21]; exact f9.1
    · rw [md_f _ (by decide), h21]; omega
  refine ⟨_, c_X7_tick ad N1 k hmt, fun r2 N2 p2 => ?_⟩
  obtain ⟨rfl, e2⟩ := p2
  have hok : mo_okTick (md N1) k = sp_okTick M k := by
    unfold mo_okTick sp_okTick
    rw [mo_mv_of h21, h.mv]
  rw [hok] at e2
  cases hk : sp_okTick M k with
  | false =>
    rw [hk, if_neg (by decide)] at e1 e2
    refine ⟨_, rfl, by rw [hok, hk, if_neg (by decide), if_neg (by decide)], ?_⟩
    rw [e2, e1]
    exact h.md.mono (Nat.le_succ n)
  | true =>
    rw [hk, if_pos rfl] at e1 e2
    have hg : sp_goes M = true := by
      unfold sp_okTick at hk
      rw [Bool.and_eq_true] at hk
      exact hk.1
    obtain ⟨p, c, q, ⟨g1, g2⟩, hSQ, ⟨s1, s2, s3, s4⟩, t1, t2, t3, t4, hback⟩ := sq_of h hg
    have hT0 : TI M c q p p M (md N1) := by
      refine ⟨⟨fun _ _ => rfl, fun a p1 p2 p3 => ?_, fun j hj => ?_⟩, ⟨rfl, rfl, rfl⟩, ⟨?_, ?_, ?_, ?_, ?_, ?_⟩, ⟨s1, s2, s3⟩, ⟨Nat.le_refl p, by omega⟩, ⟨?_, t3, ?_⟩, fun x hx => ⟨⟨rfl, rfl, rfl⟩, ?_, ?_, ?_, ?_⟩⟩
      · rw [md_ne _ (by omega), n1 a (by omega)]
      · rw [md_f _ hj.1, h21]
      · rw [md_f _ (by decide), h21]; exact f2
      · rw [md_f _ (by decide), h21]; exact f3
      · rw [md_f _ (by decide), h21]; exact f4
      · rw [md_f _ (by decide), h21]; exact f5
      · rw [md_f _ (by decide), h21]; exact f6
      · rw [md_f _ (by decide), h21]; exact f7
      · rw [md_f _ (by decide), h21]; exact t1
      · rw [md_f _ (by decide), h21, f11, hg, if_pos g1]; rfl
      · rw [md_ne _ (by decide), n1 31 (by decide)]; exact (h.2.2.2.2.1.1 x hx).1
      · rw [md_ne _ (by decide), n1 32 (by decide)]; exact (h.2.2.2.2.1.1 x hx).2.1
      · rw [md_f _ (by decide), h21]; exact (t4 x hx).1
      · rw [md_ne _ (by decide), n1 31 (by decide), md_f _ (by decide), h21]; exact (t4 x hx).2
    obtain ⟨i1, p', hT⟩ := TI.run h g2 t2 hSQ s4 k.toInt.toNat p M (md N1) hT0
    refine ⟨_, rfl, by rw [hok, hk, if_pos rfl, if_pos rfl, i1], ?_⟩
    rw [← e1, ← e2] at hT
    have n2 : ∀ a, a ≠ 31 → a ≠ 32 → a ≠ 21 → N2 a = N1 a := fun a p1 p2 p3 => by rw [e2, mo_run_ne p1 p2 p3, md_ne _ p3]
    obtain ⟨⟨u1, u2, u3⟩, ⟨v0, v7, v8⟩, ⟨w1, w2, w3, w4, w5, w6⟩, ⟨x1, x2, x3⟩, ⟨y1, y2⟩, ⟨z1, z2, z3⟩, hax⟩ := hT
    have hlo : ∀ a, a < 15 → N2 a = M a := fun a ha => (n2 a (by omega) (by omega) (by omega)).trans (u1 a (Or.inl ha))
    have hhi : ∀ a, 18 < a → a ≠ 31 → a ≠ 32 → a ≠ 21 → N2 a = M a := fun a ha p1 p2 p3 => (n2 a p1 p2 p3).trans (u1 a (Or.inr ha))
    have e15 : N2 15 = N1 15 := n2 15 (by decide) (by decide) (by decide)
    have e16 : ∀ x, x < 3 → N2 (16 + x) = N1 (16 + x) := fun x hx => n2 (16 + x) (by omega) (by omega) (by omega)
    have hrl : rl_eq M N2 := ⟨hlo 1 (by decide), hlo 2 (by decide), hlo 3 (by decide), ⟨u3 1 (by decide), u3 2 (by decide), u3 3 (by decide), u3 4 (by decide), u3 5 (by decide), u3 8 (by decide)⟩, hhi 22 (by decide) (by decide) (by decide) (by decide), hhi 23 (by decide) (by decide) (by decide) (by decide)⟩
    have hgN : sp_goes N2 = decide (p' < c) := by
      unfold sp_goes
      rw [e15, z2, goes_nI (by omega), decide_eq_decide]
      omega
    have hb := hSQ.1 p' y2
    have k26 := u3 26 (by decide)
    have e29 := hhi 29 (by decide) (by decide) (by decide) (by decide)
    have e30 := hhi 30 (by decide) (by decide) (by decide) (by decide)
    refine (h.mvq hrl ?_ ?_ (h.2.2.1.2.same hlo) ?_ ?_ ?_ ?_ ?_ ?_ ?_ ⟨?_, ?_⟩ ⟨⟨?_, ?_, ?_, ?_, ?_, ?_, ?_, ?_⟩, ?_, ?_, ?_⟩ ?_).mono (Nat.le_succ n)
    · rw [hlo 4 (by decide)]; exact Or.inl rfl
    · rw [hlo 4 (by decide)]
      intro z
      obtain ⟨k, hk⟩ := h.2.2.1.1 z
      exact ⟨k, hk.same (hlo 1 (by decide)) (hlo 2 (by decide)) (hlo 3 (by decide)) (hlo 4 (by decide)) (hlo 5 (by decide)) (hlo 6 (by decide))⟩
    · rw [hlo 7 (by decide)]; exact Or.inl rfl
    · rw [hlo 11 (by decide)]; exact Or.inl rfl
    · exact hhi 19 (by decide) (by decide) (by decide) (by decide)
    · exact hhi 20 (by decide) (by decide) (by decide) (by decide)
    · exact hhi 36 (by decide) (by decide) (by decide) (by decide)
    · exact u3 34 (by decide)
    · exact u3 35 (by decide)
    · intro x hx
      obtain ⟨⟨a1, a2, a3⟩, a4, a5, a6, a7⟩ := hax x hx
      obtain ⟨b1, b2, b3, b4, b5⟩ := h.2.2.2.2.1.1 x hx
      rw [e16 x hx, a1, a2, a3, e30, hhi 34 (by decide) (by decide) (by decide) (by decide), hhi 35 (by decide) (by decide) (by decide) (by decide)]
      exact ⟨a4, a5, b3, b4, b5⟩
    · rw [hhi 34 (by decide) (by decide) (by decide) (by decide)]; exact h.2.2.2.2.1.2
    · rw [e15, v0, k26]; exact f1
    · rw [e15]; exact w1
    · rw [e15]; exact w2
    · rw [e15]; exact w3
    · rw [e15]; exact w4
    · rw [e15]; exact w5
    · rw [e15]; exact w6
    · rw [e15, v7, u3 16 (by decide)]; exact f8
    · rw [k26]; exact f9
    · rw [e15, x1, x2, iN_t (by omega) (by omega), iN_t (by omega) (by omega)]
      omega
    · rw [hgN, z3]
      by_cases z : p' < c <;> simp [z, bI]
    · intro z
      rw [hgN, decide_eq_true_eq] at z
      refine ⟨p', c, ⟨z, g2⟩, z1, ?_, by rw [e15]; exact z2, fun x hx => ?_, ?_⟩
      · rw [u3 22 (by decide)]; exact t2
      · obtain ⟨⟨a1, a2, a3⟩, a4, a5, a6, a7⟩ := hax x hx
        rw [e16 x hx, k26, e30, e29]
        exact ⟨a6, a7⟩
      · refine hback N2 p' y1 z hrl hlo ?_ ?_ ?_ (hhi 33 (by decide) (by decide) (by decide) (by decide)) ?_ ?_ ?_
        · rw [e15]; exact v0
        · rw [e15]; exact v7
        · rw [e15]; exact v8
        · rw [e15]; exact x1
        · rw [e15]; exact x2
        · rw [e15]; exact x3

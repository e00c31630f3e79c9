/-! ticks: both sides go alike -/
theorem sp_step_ax (M : am_M) (b : Int32) {x : Nat} (hx : x < 3) : sp_step M b (16 + x) 0 = M (16 + x) 0 + (sp_gone (M 15 0) (M 15 1 + (M 15 2 + b)) (M (16 + x) 4) - M (16 + x) 5) ∧ sp_step M b (16 + x) 1 = (if sp_safe M (M 15 2 + b) b = true then M (16 + x) 1 + (sp_gone (M 15 0) (M 15 1 + (M 15 2 + b)) (M (16 + x) 4) - M (16 + x) 5) else M (16 + x) 1) ∧ sp_step M b (16 + x) 5 = sp_gone (M 15 0) (M 15 1 + (M 15 2 + b)) (M (16 + x) 4) ∧ ∀ j, j ≠ 0 → j ≠ 1 → j ≠ 5 → sp_step M b (16 + x) j = M (16 + x) j := by
  unfold sp_step
  have e0 := sp_mTick_0 M (M 15 2 + b) b (sp_safe M (M 15 2 + b) b)
  have e1 := (sp_mTick_2 M (M 15 2 + b) b (sp_safe M (M 15 2 + b) b)).2.2.1
  have e16 := sp_mTick_ne M (M 15 2 + b) b (sp_safe M (M 15 2 + b) b) (a := 16) (by decide)
  have e17 := sp_mTick_ne M (M 15 2 + b) b (sp_safe M (M 15 2 + b) b) (a := 17) (by decide)
  have e18 := sp_mTick_ne M (M 15 2 + b) b (sp_safe M (M 15 2 + b) b) (a := 18) (by decide)
  generalize sp_mTick M (M 15 2 + b) b (sp_safe M (M 15 2 + b) b) = T at *
  generalize sp_safe M (M 15 2 + b) b = s
  rcases (by omega : x = 0 ∨ x = 1 ∨ x = 2) with rfl | rfl | rfl <;> cases s <;> refine ⟨?_, ?_, ?_, fun j p1 p2 p3 => ?_⟩ <;> simp [sp_follow', sp_follow, am_rd, e0, e1, e16, e17, e18, *]
theorem sp_step_m (M : am_M) (b : Int32) : sp_step M b 15 5 = (if sp_safe M (M 15 2 + b) b = false ∧ ¬ M 15 2 + b ≤ 0 then M 15 5 + (M 15 2 + b) else M 15 5) ∧ sp_step M b 15 6 = (if sp_safe M (M 15 2 + b) b = false ∧ ¬ M 15 2 + b ≤ 0 then (if M 15 6 = -1 then M 15 4 else M 15 6) else M 15 6) := by
  rw [sp_step_15]
  generalize sp_safe M (M 15 2 + b) b = s
  generalize M 15 2 + b = w
  by_cases q : s = false ∧ ¬ w ≤ 0
  · rw [if_pos q, if_pos q]
    refine ⟨?_, ?_⟩ <;> simp [sp_mTick, sp_mMiss, am_rd, q]
  · rw [if_neg q, if_neg q]
    have e : sp_mMiss M w s = M := by
      unfold sp_mMiss
      rw [if_neg q]
    refine ⟨?_, ?_⟩ <;> simp [sp_mTick, e, am_rd]
theorem mo_axn_3 (K : am_M) (s : Bool) {x : Nat} (hx : x < 3) : mo_axn s 3 0 K 31 x = K 29 x + sp_gone (K 21 26) (K 21 25 + K 21 27) (K 30 x) ∧ mo_axn s 3 0 K 32 x = if s = true then K 32 x + (sp_gone (K 21 26) (K 21 25 + K 21 27) (K 30 x) - sp_gone (K 21 26) (K 21 25) (K 30 x)) else K 32 x := by
  rcases (by omega : x = 0 ∨ x = 1 ∨ x = 2) with rfl | rfl | rfl <;> cases s <;> refine ⟨?_, ?_⟩ <;> simp [mo_axn, mo_axs, am_rd]
theorem mo_stepb_ax (K : am_M) (b : Int32) {x : Nat} (hx : x < 3) : mo_stepb K b 31 x = K 29 x + sp_gone (K 21 26) (K 21 25 + (K 21 27 + b)) (K 30 x) ∧ mo_stepb K b 32 x = if mo_sf K b = true then K 32 x + (sp_gone (K 21 26) (K 21 25 + (K 21 27 + b)) (K 30 x) - sp_gone (K 21 26) (K 21 25) (K 30 x)) else K 32 x := by
  have h := mo_axn_3 (mo_miss2 (mo_k1 K b) (mo_sf K b)) (mo_sf K b) hx
  have k27 : mo_k1 K b 21 27 = K 21 27 + b := by simp [mo_k1, am_rd]
  have kj : ∀ j, j ≠ 27 → j ≠ 28 → mo_k1 K b 21 j = K 21 j := fun j h1 h2 => by simp [mo_k1, am_rd, h1, h2]
  have ka : ∀ a, a ≠ 21 → mo_miss2 (mo_k1 K b) (mo_sf K b) a = K a := fun a ha => by
    rw [mo_miss2_ne _ _ ha]
    simp [mo_k1, am_put, ha]
  rw [mo_miss2_f _ _ (by decide) (by decide), mo_miss2_f _ _ (by decide) (by decide), mo_miss2_f _ _ (by decide) (by decide), k27, kj 26 (by decide) (by decide), kj 25 (by decide) (by decide), ka 29 (by decide), ka 30 (by decide), ka 32 (by decide)] at h
  have e31 : mo_stepb K b 31 = mo_axn (mo_sf K b) 3 0 (mo_miss2 (mo_k1 K b) (mo_sf K b)) 31 := by
    simp [mo_stepb, mo_k5, mo_k43, mo_k42, mo_k41, am_put]
  have e32 : mo_stepb K b 32 = mo_axn (mo_sf K b) 3 0 (mo_miss2 (mo_k1 K b) (mo_sf K b)) 32 := by
    simp [mo_stepb, mo_k5, mo_k43, mo_k42, mo_k41, am_put]
  rw [e31, e32]
  exact h
theorem mo_stepb_m (K : am_M) (b : Int32) : mo_stepb K b 21 29 = (if mo_sf K b = true then K 21 29 else K 21 29 + (K 21 27 + b)) ∧ mo_stepb K b 21 30 = (if mo_sf K b = true ∨ K 21 27 + b ≤ 0 then K 21 30 else if K 21 30 = -1 then K 21 24 else K 21 30) := by
  have e : ∀ j, mo_axn (mo_sf K b) 3 0 (mo_miss2 (mo_k1 K b) (mo_sf K b)) 21 j = mo_miss2 (mo_k1 K b) (mo_sf K b) 21 j := fun j => by rw [mo_axn_ne _ (by decide) (by decide)]
  have k27 : mo_k1 K b 21 27 = K 21 27 + b := by simp [mo_k1, am_rd]
  have kj : ∀ j, j ≠ 27 → j ≠ 28 → mo_k1 K b 21 j = K 21 j := fun j h1 h2 => by simp [mo_k1, am_rd, h1, h2]
  have z29 : mo_stepb K b 21 29 = mo_miss2 (mo_k1 K b) (mo_sf K b) 21 29 := by
    rw [← e]
    simp [mo_stepb, mo_k5, mo_k43, mo_k42, mo_k41, am_rd]
  have z30 : mo_stepb K b 21 30 = mo_miss2 (mo_k1 K b) (mo_sf K b) 21 30 := by
    rw [← e]
    simp [mo_stepb, mo_k5, mo_k43, mo_k42, mo_k41, am_rd]
  rw [z29, z30]
  unfold mo_miss2 mo_a
  cases mo_sf K b with
  | true => rw [if_pos rfl, if_pos rfl, if_pos (Or.inl rfl), kj 29 (by decide) (by decide), kj 30 (by decide) (by decide)]; exact ⟨rfl, rfl⟩
  | false =>
    have e1 : (am_put (mo_k1 K b) 21 29 (mo_k1 K b 21 29 + mo_k1 K b 21 27)) 21 27 = K 21 27 + b := by rw [am_rd, if_neg (by decide), k27]
    have e2 : (am_put (mo_k1 K b) 21 29 (mo_k1 K b 21 29 + mo_k1 K b 21 27)) 21 30 = K 21 30 := by rw [am_rd, if_neg (by decide), kj 30 (by decide) (by decide)]
    have e3 : (am_put (mo_k1 K b) 21 29 (mo_k1 K b 21 29 + mo_k1 K b 21 27)) 21 24 = K 21 24 := by rw [am_rd, if_neg (by decide), kj 24 (by decide) (by decide)]
    have e4 : (am_put (mo_k1 K b) 21 29 (mo_k1 K b 21 29 + mo_k1 K b 21 27)) 21 29 = K 21 29 + (K 21 27 + b) := by rw [am_rd, if_pos (by decide), kj 29 (by decide) (by decide), k27]
    have h0 : ¬ (false = true) := by decide
    rw [e1, e2, e3, if_neg h0, if_neg h0]
    by_cases q : K 21 27 + b ≤ 0
    · rw [if_pos q, if_pos (show false = true ∨ K 21 27 + b ≤ 0 from Or.inr q), e4, e2]
      exact ⟨rfl, rfl⟩
    · rw [if_neg q, if_neg (show ¬ (false = true ∨ K 21 27 + b ≤ 0) from fun z => z.elim h0 q)]
      by_cases q2 : K 21 30 = -1
      · rw [if_pos q2, if_pos q2, am_rd, if_neg (by decide), e4, am_rd, if_pos (by decide)]
        exact ⟨rfl, rfl⟩
      · rw [if_neg q2, if_neg q2, e4, e2]
        exact ⟨rfl, rfl⟩
/-- what comes next, tick by tick -/
def SQ (M : am_M) (c : Nat) (q : Nat → Int × Int × Int) : Prop := (∀ i, i ≤ c → (0 ≤ (q i).1 ∧ (q i).1 ≤ 12) ∧ -4 ≤ (q i).2.1 ∧ (q i).2.1 ≤ 4) ∧ (∀ i, i < c → (q (i + 1)).1 = (q i).1 + (q (i + 1)).2.1) ∧ (M 15 7 = 0 → (∀ i, i ≤ c → 0 ≤ (q i).2.2 ∧ (q i).2.2 ≤ 200) ∧ ∀ i, i < c → (q (i + 1)).2.2 = (q i).2.2 - (q (i + 1)).1) ∧ ∀ i, i < c → ∀ K : am_M, (∀ a, a < 15 → K a = M a) → K 15 7 = M 15 7 → K 15 8 = M 15 8 → K 15 2 = iN (q i).1 → K 15 3 = iN (q i).2.1 → (M 15 7 = 0 → K 15 0 - K 15 1 = iN (q i).2.2) → sp_next K = (q (i + 1)).2.1
theorem iN_t {z : Int} (h1 : -1000000 ≤ z) (h2 : z ≤ 1000000) : (iN z).toInt = z := by
  rw [iN_e]
  omega
noncomputable def qB (M : am_M) (sb : Bool) (v0 a0 : Int) : Nat → Int × Int × Int := fun i => ((ms M sb v0 a0 i).1, (ms M sb v0 a0 i).2, 0)
theorem qB_1 (M : am_M) (sb : Bool) (v0 a0 : Int) (i : Nat) : (qB M sb v0 a0 i).1 = (ms M sb v0 a0 i).1 := rfl
theorem qB_2 (M : am_M) (sb : Bool) (v0 a0 : Int) (i : Nat) : (qB M sb v0 a0 i).2.1 = (ms M sb v0 a0 i).2 := rfl
theorem sq_of {n : Nat} {M : am_M} (h : R n M) (hg : sp_goes M = true) : ∃ (p c : Nat) (q : Nat → Int × Int × Int), (p < c ∧ c ≤ 1000) ∧ SQ M c q ∧ (M 15 2 = iN (q p).1 ∧ M 15 3 = iN (q p).2.1 ∧ (M 15 7 = 0 → M 15 0 - M 15 1 = iN (q p).2.2) ∧ ∀ i, p ≤ i → i < c → M 33 i = iN (q (i + 1)).2.1) ∧ M 21 23 = nI p ∧ M 21 22 = nI c ∧ M 15 9 = nI (c - p) ∧ (∀ x, x < 3 → M (16 + x) 5 = sp_gone (M 21 26) (M 21 25) (M 30 x) ∧ M 31 x = M 29 x + sp_gone (M 21 26) (M 21 25) (M 30 x)) ∧
    ∀ (N : am_M) (p' : Nat), p ≤ p' → p' < c → rl_eq M N → (∀ a, a < 15 → N a = M a) → N 15 0 = M 15 0 → N 15 7 = M 15 7 → N 15 8 = M 15 8 → N 33 = M 33 → N 15 2 = iN (q p').1 → N 15 3 = iN (q p').2.1 → (M 15 7 = 0 → N 15 0 - N 15 1 = iN (q p').2.2) → R_mA N p' c ∨ R_mB N p' c := by
  have hru := h.1
  have hR := hru.mRI
  obtain ⟨p, c, g1, g2, g3, g4, g5, g6⟩ := h.2.2.2.2.2.2 hg
  have hf := h.2.2.2.2.2.1
  have hcache := h.2.2.1
  rcases g6 with ⟨m1, m2, ⟨k, m3, m4⟩, m5, m6, m7, m8⟩ | ⟨sb, v0, a0, s, m1, m2, ⟨b1, b2, b3, b4⟩, m4, m5, m6, m7, m8⟩
  · have hn : 0 ≤ (M 15 0).toInt ∧ (M 15 0).toInt ≤ 200 := by rw [hf.1.1]; exact hf.2.1
    have hF : mF M (rp_st (M 15 0).toInt) = some c := by rw [← rk_ans hru m3.1 (Or.inl (by rw [m4]; simp)), m4]
    have hok := mg_ok hR hn.1 hn.2 hF
    refine ⟨p, c, mg M (M 15 0).toInt, g1, ⟨fun i hi => ?_, fun i hi => ?_, fun _ => ⟨fun i hi => ?_, fun i hi => ?_⟩, fun i hi K e15 e7 e8 e2 e3 el => ?_⟩, ⟨m5, m6, fun _ => m7, m8⟩, g2, g3, g4, g5, fun N p' hp hp' hrl e15 e0 e7 e8 e33 e2 e3 el => Or.inl ⟨by rw [e7]; exact m1, by rw [e15 4 (by decide), e15 1 (by decide)]; exact m2, ⟨k, m3.same (e15 1 (by decide)) (e15 2 (by decide)) (e15 3 (by decide)) (e15 4 (by decide)) (e15 5 (by decide)) (e15 6 (by decide)), by rw [hrl.T, e0]; exact m4⟩, ?_, ?_, ?_, fun i hi1 hi2 => ?_⟩⟩
    · exact ⟨(hok i hi).1, (hok i hi).2.1⟩
    · rw [mg_s]
    · exact (hok i hi).2.2.1
    · rw [mg_s]
    · have hb := hok i (by omega)
      have h9 := rk_nc' (N := K) hru m3.1 (by
        refine ⟨?_, ?_, ?_⟩
        · rw [e15 5 (by decide)]; exact m3.2.1.1
        · rw [e15 6 (by decide)]; exact m3.2.1.2.1
        · rw [e15 4 (by decide)]; exact m3.2.1.2.2) (e15 1 (by decide)) (e15 2 (by decide)) (e15 3 (by decide)) hn.1 hn.2 m4 hi
      unfold sp_next
      rw [e7, if_pos m1, e2, e3, el m1, iN_t (by omega) (by omega), iN_t (by omega) (by omega), iN_t (by omega) (by omega), h9, mg_s]
    · rw [e0, hrl.g]; exact e2
    · rw [e0, hrl.g]; exact e3
    · rw [hrl.g, el m1, e0]
    · rw [e33, e0, hrl.g]; exact m8 i (by omega) hi2
  · have hok := ms_ok hR (s := sb) b1 b2 b3 b4 m4
    have hne : ¬ M 15 7 = 0 := by rw [m1]; decide
    refine ⟨p, c, qB M sb v0 a0, g1, ⟨fun i hi => ?_, fun i hi => ?_, fun z => absurd z hne, fun i hi K e15 e7 e8 e2 e3 _ => ?_⟩, ⟨by rw [qB_1]; exact m6, by rw [qB_2]; exact m7, fun z => absurd z hne, fun i h1 h2 => by rw [qB_2]; exact m8 i h1 h2⟩, g2, g3, g4, g5, fun N p' hp hp' hrl e15 e0 e7 e8 e33 e2 e3 el => Or.inr ⟨sb, v0, a0, s, by rw [e7]; exact m1, by rw [e8]; exact m2, ⟨b1, b2, b3, b4⟩, by rw [hrl.so]; exact m4, by rw [e15 7 (by decide), e15 11 (by decide), e15 1 (by decide)]; exact m5, ?_, ?_, fun i hi1 hi2 => ?_⟩⟩
    · rw [qB_1, qB_2]; exact ⟨(hok i hi).1, (hok i hi).2.1⟩
    · rw [qB_1, qB_1, qB_2, ms_s]
    · have hb := hok i (by omega)
      rw [qB_1] at e2
      rw [qB_2] at e3 ⊢
      unfold sp_next
      rw [e7, if_neg hne, e8, m2, e2, e3, iN_t (by omega) (by omega), iN_t (by omega) (by omega)]
      cases sb with
      | true =>
        rw [if_neg (by decide)]
        have hz : M 7 5 = M 1 8 := by
          rcases m5 with z | z
          · exact z.2
          · cases z.1
        have h9 := rk_sl_7 (N := K) hru (e15 1 (by decide)) (e15 2 (by decide)) (e15 3 (by decide)) (by rw [e15 7 (by decide)]; exact hcache.2.1.1) (sl_RC_cong (hcache.2.1.2 hz) (e15 7 (by decide)) (e15 8 (by decide)) (e15 9 (by decide)) (e15 10 (by decide))) b1 b2 b3 b4 m4 hi
        rw [h9, ms_s]
      | false =>
        rw [if_pos (by decide)]
        have hz : M 11 5 = M 1 8 := by
          rcases m5 with z | z
          · cases z.1
          · exact z.2
        have h9 := rk_sl_11 (N := K) hru (e15 1 (by decide)) (e15 2 (by decide)) (e15 3 (by decide)) (by rw [e15 11 (by decide)]; exact hcache.2.2.1) (sl_RC_cong (hcache.2.2.2 hz) (e15 11 (by decide)) (e15 12 (by decide)) (e15 13 (by decide)) (e15 14 (by decide))) b1 b2 b3 b4 m4 hi
        rw [h9, ms_s]
    · rw [hrl.s, ← qB_1]; exact e2
    · rw [hrl.s, ← qB_2]; exact e3
    · rw [e33, hrl.s]; exact m8 i (by omega) hi2
def TI (M : am_M) (c : Nat) (q : Nat → Int × Int × Int) (p0 p : Nat) (K1 K2 : am_M) : Prop :=
  ((∀ a, (a < 15 ∨ 18 < a) → K1 a = M a) ∧ (∀ a, 21 < a → a ≠ 31 → a ≠ 32 → K2 a = M a) ∧ (∀ j, j ≠ 0 ∧ j ≠ 15 ∧ j ≠ 23 ∧ j ≠ 24 ∧ j ≠ 25 ∧ j ≠ 27 ∧ j ≠ 28 ∧ j ≠ 29 ∧ j ≠ 30 → K2 21 j = M 21 j)) ∧
  (K1 15 0 = M 15 0 ∧ K1 15 7 = M 15 7 ∧ K1 15 8 = M 15 8) ∧ (K1 15 1 = K2 21 25 ∧ K1 15 2 = K2 21 27 ∧ K1 15 3 = K2 21 28 ∧ K1 15 4 = K2 21 24 ∧ K1 15 5 = K2 21 29 ∧ K1 15 6 = K2 21 30) ∧
  (K1 15 2 = iN (q p).1 ∧ K1 15 3 = iN (q p).2.1 ∧ (M 15 7 = 0 → K1 15 0 - K1 15 1 = iN (q p).2.2)) ∧ (p0 ≤ p ∧ p ≤ c) ∧ (K2 21 23 = nI p ∧ K1 15 9 = nI (c - p) ∧ K2 21 15 = if p < c then 1 else 0) ∧
  ∀ x, x < 3 → (K1 (16 + x) 2 = M (16 + x) 2 ∧ K1 (16 + x) 3 = M (16 + x) 3 ∧ K1 (16 + x) 4 = M (16 + x) 4) ∧ K1 (16 + x) 0 = K2 31 x ∧ K1 (16 + x) 1 = K2 32 x ∧ K1 (16 + x) 5 = sp_gone (M 21 26) (K2 21 25) (M 30 x) ∧ K2 31 x = M 29 x + sp_gone (M 21 26) (K2 21 25) (M 30 x)
theorem i_xg (x g z : Int32) : x + g + (z - g) = x + z := by
  apply i_inj
  simp only [i_add, i_sub]
  omega
theorem i_sub3 (x y z : Int32) : x - (y + z) = x - y - z := by
  apply i_inj
  simp only [i_add, i_sub]
  omega
theorem TI.step {n : Nat} {M : am_M} (h : R n M) {c : Nat} {q : Nat → Int × Int × Int} (hc : c ≤ 1000) (h22 : M 21 22 = nI c) (hq : SQ M c q) {p0 : Nat} (h33 : ∀ i, p0 ≤ i → i < c → M 33 i = iN (q (i + 1)).2.1) {p : Nat} {K1 K2 : am_M} (hT : TI M c q p0 p K1 K2) (hp : p < c) : TI M c q p0 (p + 1) (sp_tt K1) (mo_step K2) := by
  have hru := h.1
  obtain ⟨⟨t1, t2, t3⟩, ⟨u0, u7, u8⟩, ⟨w1, w2, w3, w4, w5, w6⟩, ⟨s1, s2, s3⟩, ⟨p1, p2⟩, ⟨r1, r2, r3⟩, hax⟩ := hT
  obtain ⟨q1, q2, q3, q4⟩ := hq
  have hnext : sp_next K1 = (q (p + 1)).2.1 := q4 p hp K1 (fun a ha => t1 a (Or.inl ha)) u7 u8 s1 s2 s3
  have hb := q1 (p + 1) (by omega)
  have hb0 := q1 p (by omega)
  have hv := q2 p hp
  have hne5 : ¬ iN (q (p + 1)).2.1 = 5 := by
    intro z
    have z2 : (iN (q (p + 1)).2.1).toInt = (5 : Int32).toInt := by rw [z]
    rw [iN_t (by omega) (by omega), kI_5] at z2
    omega
  have eT : sp_tt K1 = sp_step K1 (iN (q (p + 1)).2.1) := by
    unfold sp_tt
    rw [hnext, if_neg hne5]
  have eM : mo_step K2 = mo_stepb K2 (iN (q (p + 1)).2.1) := by
    unfold mo_step
    rw [r1, nI_clamp (by omega), t2 33 (by decide) (by decide) (by decide), h33 p p1 hp]
  rw [eT, eM]
  obtain ⟨a1, a2, a3, a4, a5, a6, a7, a8⟩ := sp_step_b K1 (iN (q (p + 1)).2.1)
  obtain ⟨c1, c2, c3, c4, c5, c6⟩ := mo_stepb_v K2 (iN (q (p + 1)).2.1)
  obtain ⟨d1, d2⟩ := sp_step_m K1 (iN (q (p + 1)).2.1)
  obtain ⟨f1, f2⟩ := mo_stepb_m K2 (iN (q (p + 1)).2.1)
  have hw : K1 15 2 + iN (q (p + 1)).2.1 = iN (q (p + 1)).1 := by rw [s1, iN_add, hv]
  have hwt : (K1 15 2 + iN (q (p + 1)).2.1).toInt = (q (p + 1)).1 := by rw [hw, iN_t (by omega) (by omega)]
  have hsf : mo_sf K2 (iN (q (p + 1)).2.1) = sp_safe K1 (K1 15 2 + iN (q (p + 1)).2.1) (iN (q (p + 1)).2.1) := by
    have e1 : sp_safe K1 (K1 15 2 + iN (q (p + 1)).2.1) (iN (q (p + 1)).2.1) = sp_safe M (K1 15 2 + iN (q (p + 1)).2.1) (iN (q (p + 1)).2.1) := by
      unfold sp_safe
      rw [t1 1 (by decide), t1 3 (by decide)]
    rw [e1, re_safe hru (by omega) (by omega)]
    unfold mo_sf mo_safe
    have k27 : mo_k1 K2 (iN (q (p + 1)).2.1) 21 27 = K2 21 27 + iN (q (p + 1)).2.1 := by simp [mo_k1, am_rd]
    have k4 : mo_k1 K2 (iN (q (p + 1)).2.1) 21 4 = M 21 4 := by
      rw [← t3 4 (by decide)]
      simp [mo_k1, am_rd]
    have k5 : mo_k1 K2 (iN (q (p + 1)).2.1) 21 5 = M 21 5 := by
      rw [← t3 5 (by decide)]
      simp [mo_k1, am_rd]
    have k23 : mo_k1 K2 (iN (q (p + 1)).2.1) 23 = M 23 := by
      rw [← t2 23 (by decide) (by decide) (by decide)]
      simp [mo_k1, am_put]
    rw [k27, k4, k5, k23, w2]
  rw [hsf] at f1 f2
  have hcp : nI (c - p) - 1 = nI (c - (p + 1)) := by
    rw [show c - p = (c - (p + 1)) + 1 by omega, nI_m1]
  refine ⟨⟨fun a ha => ?_, fun a h1 h2 h3 => ?_, fun j hj => ?_⟩, ⟨?_, ?_, ?_⟩, ⟨?_, ?_, ?_, ?_, ?_, ?_⟩, ⟨?_, ?_, fun z => ?_⟩, ⟨by omega, by omega⟩, ⟨?_, ?_, ?_⟩, fun x hx => ?_⟩
  · rw [sp_step_ne _ _ ha]; exact t1 a ha
  · rw [mo_stepb_ne _ _ h2 h3 (by omega)]; exact t2 a h1 h2 h3
  · rw [mo_stepb_f _ _ ⟨hj.2.1, hj.2.2.1, hj.2.2.2.1, hj.2.2.2.2.1, hj.2.2.2.2.2.1, hj.2.2.2.2.2.2.1, hj.2.2.2.2.2.2.2.1, hj.2.2.2.2.2.2.2.2⟩]; exact t3 j hj
  · rw [a8]; exact u0
  · rw [a4]; exact u7
  · rw [a5]; exact u8
  · rw [a3, c3, w1, w2]
  · rw [a1, c1, w2]
  · rw [a2, c2]
  · rw [a7, c4, w4]
  · rw [d1, f1, ← w2, ← w5]
    cases sp_safe K1 (K1 15 2 + iN (q (p + 1)).2.1) (iN (q (p + 1)).2.1) with
    | true => rw [if_neg (fun z => by cases z.1), if_pos rfl]
    | false =>
      rw [if_neg (show ¬ false = true by decide)]
      by_cases z : K1 15 2 + iN (q (p + 1)).2.1 ≤ 0
      · rw [if_neg (fun y => y.2 z)]
        rw [Int32.le_iff_toInt_le, hwt, Int32.toInt_zero] at z
        apply i_inj
        rw [i_add, hwt]
        have := i_rng (K1 15 5)
        omega
      · rw [if_pos ⟨rfl, z⟩]
  · rw [d2, f2, ← w2, ← w6, ← w4]
    cases sp_safe K1 (K1 15 2 + iN (q (p + 1)).2.1) (iN (q (p + 1)).2.1) with
    | true => rw [if_neg (fun z => by cases z.1), if_pos (Or.inl rfl)]
    | false =>
      by_cases z : K1 15 2 + iN (q (p + 1)).2.1 ≤ 0
      · rw [if_neg (fun y => y.2 z), if_pos (Or.inr z)]
      · rw [if_pos ⟨rfl, z⟩, if_neg (show ¬ (false = true ∨ K1 15 2 + iN (q (p + 1)).2.1 ≤ 0) from fun y => y.elim (by decide) z)]
  · rw [a1, hw]
  · rw [a2]
  · rw [a8, a3, i_sub3, s3 z, hw, iN_sub, (q3 z).2 p hp]
  · rw [c5, r1]
    exact nI_1 p
  · rw [a6, r2, hcp]
  · rw [c6, t3 22 (by decide), h22, r1, nI_1 p]
    by_cases z : p + 1 < c
    · rw [if_pos z, if_neg (by rw [nI_le2 (by omega) (by omega)]; omega)]
    · rw [if_neg z, if_pos (by rw [nI_le2 (by omega) (by omega)]; omega)]
  · obtain ⟨⟨x1, x2, x3⟩, x4, x5, x6, x7⟩ := hax x hx
    obtain ⟨y1, y2, y3, y4⟩ := sp_step_ax K1 (iN (q (p + 1)).2.1) hx
    obtain ⟨v1, v2⟩ := mo_stepb_ax K2 (iN (q (p + 1)).2.1) hx
    have h30 : M (16 + x) 4 = M 30 x := (h.2.2.2.2.1.1 x hx).2.2.2.2
    have h26 : M 15 0 = M 21 26 := h.2.2.2.2.2.1.1.1
    have k26 := t3 26 (by decide)
    have k29 := t2 29 (by decide) (by decide) (by decide)
    have k30 := t2 30 (by decide) (by decide) (by decide)
    rw [u0, x3, h30, h26, x6, w1, w2] at y1 y2
    rw [u0, x3, h30, h26, w1, w2] at y3
    rw [k26, k29, k30] at v1
    rw [k26, k30, hsf, w2] at v2
    refine ⟨⟨?_, ?_, ?_⟩, ?_, ?_, ?_, ?_⟩
    · rw [y4 2 (by decide) (by decide) (by decide)]; exact x1
    · rw [y4 3 (by decide) (by decide) (by decide)]; exact x2
    · rw [y4 4 (by decide) (by decide) (by decide)]; exact x3
    · rw [y1, v1, x4, x7, i_xg]
    · rw [y2, v2, x5]
    · rw [y3, c3]
    · rw [v1, c3]

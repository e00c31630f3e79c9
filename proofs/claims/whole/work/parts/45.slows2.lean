theorem so_stop_b {K0 : am_M} (hR : mRI K0) {s : Bool} {v a : Int} (hv : 0 ≤ v ∧ v ≤ mV K0) (ha : -mA K0 ≤ a ∧ a ≤ mA K0) {c : Nat} {m : Bool × am_M} (hI : so_I (so_F K0 s) c (fun _ => True) m.2) (hc : c < 900000) (hq : so_sm K0 m.2) : ∀ (n : Nat) (b : Int), -mA K0 ≤ b → b + n ≤ mA K0 + 1 → sn_b s v a n b m = m := by
  intro n
  induction n with
  | zero => intro b _ _; rfl
  | succ n ih =>
    intro b h1 h2
    rw [sn_b, so_stop hR.V.2 hR.V.1 (so_F_lw hR s) hc hI (so_go hR hq.1 hq.2.1 hq.2.2 hv ha ⟨h1, by omega⟩)]
    exact ih (b + 1) (by omega) (by omega)
theorem so_stop_a {K0 : am_M} (hR : mRI K0) {s : Bool} {v : Int} (hv : 0 ≤ v ∧ v ≤ mV K0) {c : Nat} {m : Bool × am_M} (hI : so_I (so_F K0 s) c (fun _ => True) m.2) (hc : c < 900000) (hq : so_sm K0 m.2) : ∀ (n : Nat) (a : Int), -mA K0 ≤ a → a + n ≤ mA K0 + 1 → sn_a s (mA K0) v n a m = m := by
  have hA1 : 1 ≤ mA K0 := hR.2.2.1
  intro n
  induction n with
  | zero => intro b _ _; rfl
  | succ n ih =>
    intro a h1 h2
    rw [sn_a, so_stop_b hR hv ⟨h1, by omega⟩ hI hc hq (2 * mA K0 + 1).toNat (-mA K0) (by omega) (by omega)]
    exact ih (a + 1) (by omega) (by omega)
theorem so_stop_v {K0 : am_M} (hR : mRI K0) {s : Bool} {c : Nat} {m : Bool × am_M} (hI : so_I (so_F K0 s) c (fun _ => True) m.2) (hc : c < 900000) (hq : so_sm K0 m.2) : ∀ (n : Nat) (v : Int), 0 ≤ v → v + n ≤ mV K0 + 1 → sn_v s (mA K0) n v m = m := by
  have hA1 : 1 ≤ mA K0 := hR.2.2.1
  intro n
  induction n with
  | zero => intro b _ _; rfl
  | succ n ih =>
    intro v h1 h2
    rw [sn_v, so_stop_a hR ⟨h1, by omega⟩ hI hc hq (2 * mA K0 + 1).toNat (-mA K0) (by omega) (by omega)]
    exact ih (v + 1) (by omega) (by omega)
theorem so_stop_p {K0 K : am_M} (hR : mRI K0) {s : Bool} {c : Nat} (hI : so_I (so_F K0 s) c (so_D (so_F K0 s) 117) K) (hc : c < 900000) (hq : so_sm K0 K) : sn_pass s (mV K0) (mA K0) K = (false, K) := by
  have hV1 : 1 ≤ mV K0 := hR.1
  refine so_stop_v hR (m := (false, K)) (c := c) ?_ hc hq _ _ (by omega) (by omega)
  obtain ⟨G, g1, g2, g3, g4⟩ := hI
  refine ⟨G, g1, g2, g3, fun x _ p hp => g4 x ⟨p.1, p.2, hp, ?_⟩ p hp⟩
  have := sl_F_sm (t := p.1) (s := p.2) hR.V.1 hR.V.2 hp
  omega
def si_G (A J : Int) (x : Nat) : Option (Nat × Nat) := if sl_w x = 0 ∧ sl_rest A J (sl_b x) = true then some (0, 0) else none
def si_P (A J : Int) (j : Nat) (K : am_M) : Prop := ∀ x, x < j → K 27 x = so_enc (si_G A J x) ∧ K 28 x = so_st (si_G A J x)
theorem si_one_P {K0 K : am_M} (hR : mRI K0) (h21 : K 21 = K0 21) {v a : Int} (h1 : 0 ≤ v) (h2 : v ≤ 12) (h3 : -4 ≤ a) (h4 : a ≤ 4) (hP : si_P (mA K0) (mJ K0) (sx v a) K) : si_P (mA K0) (mJ K0) (sx v a + 1) (si_one K v a) := by
  intro x hx
  by_cases q : x = sx v a
  · have e1 : sl_w (sx v a) = v := by (unfold sl_w sx; omega)
    have e2 : sl_b (sx v a) = a := by (unfold sl_b sx; omega)
    have hR2 := hR.cong h21
    have hst := mo_state_iff hR2 (v := v) (a := a) (by omega) (by omega) (by omega) (by omega)
    have eA : mA K = mA K0 := by unfold mA; rw [h21]
    have eV : mV K = mV K0 := by unfold mV; rw [h21]
    have eJ : mJ K = mJ K0 := by unfold mJ; rw [h21]
    have hV1 : 1 ≤ mV K0 := hR.1
    have e3 : (mo_state K (iN v) (iN a) = true ∧ mo_rest K (iN v) (iN a) = true) ↔ (v = 0 ∧ sl_rest (mA K0) (mJ K0) a = true) := by
      unfold sl_rest
      rw [decide_eq_true_eq, hst, eA, eV]
      constructor
      · rintro ⟨k1, k2⟩
        have k3 : v = 0 := by
          unfold mo_rest at k2
          rw [decide_eq_true_eq] at k2
          have := congrArg Int32.toInt k2.1
          rw [iN_e] at this
          have e0 : (0 : Int32).toInt = 0 := by decide
          omega
        subst k3
        have k4 := (mo_rest_iff hR2 (a := a) (by omega) (by omega)).mp k2
        rw [eJ] at k4
        exact ⟨rfl, k1.2, k4⟩
      · rintro ⟨rfl, k1, k2⟩
        refine ⟨⟨by omega, k1⟩, (mo_rest_iff hR2 (a := a) (by omega) (by omega)).mpr ?_⟩
        rw [eJ]
        exact k2
    subst q
    unfold si_one si_G
    rw [e1, e2]
    by_cases q : v = 0 ∧ sl_rest (mA K0) (mJ K0) a = true
    · rw [if_pos (e3.mpr q), if_pos q]
      constructor
      · rw [am_put_ne _ _ _ _ (by decide), am_put_at]
        simp [upd, so_enc]
        rfl
      · rw [am_put_at]
        simp [upd, so_st]
        rfl
    · rw [if_neg (fun z => q (e3.mp z)), if_neg q]
      constructor
      · rw [am_put_ne _ _ _ _ (by decide), am_put_at]
        simp [upd, so_enc]
      · rw [am_put_at]
        simp [upd, so_st]
  · have h5 := hP x (by omega)
    unfold si_one
    rw [am_put_ne _ _ _ _ (show 27 ≠ 28 by decide), am_put_at, am_put_at, am_put_ne _ _ _ _ (show 28 ≠ 27 by decide)]
    simp only [upd, if_neg q]
    exact h5
theorem si_a_P {K0 : am_M} (hR : mRI K0) {v : Int} (h1 : 0 ≤ v) (h2 : v ≤ 12) : ∀ (n : Nat) (a : Int) (K : am_M), -4 ≤ a → a + n = 5 → K 21 = K0 21 → si_P (mA K0) (mJ K0) (sx v a) K → si_P (mA K0) (mJ K0) (sx (v + 1) (-4)) (si_a v n a K) := by
  intro n
  induction n with
  | zero =>
    intro a K h3 h4 _ h
    rw [si_a, show sx (v + 1) (-4) = sx v a by unfold sx; omega]
    exact h
  | succ n ih =>
    intro a K h3 h4 h21 h
    rw [si_a]
    refine ih (a + 1) _ (by omega) (by omega) ((si_one_ne _ _ _ (by decide) (by decide)).trans h21) ?_
    rw [show sx v (a + 1) = sx v a + 1 by unfold sx; omega]
    exact si_one_P hR h21 h1 h2 h3 (by omega) h
theorem si_v_P {K0 : am_M} (hR : mRI K0) : ∀ (n : Nat) (v : Int) (K : am_M), 0 ≤ v → v + n = 13 → K 21 = K0 21 → si_P (mA K0) (mJ K0) (sx v (-4)) K → si_P (mA K0) (mJ K0) 117 (si_v n v K) := by
  intro n
  induction n with
  | zero =>
    intro v K h1 h2 _ h
    rw [si_v, show (117 : Nat) = sx v (-4) by unfold sx; omega]
    exact h
  | succ n ih =>
    intro v K h1 h2 h21 h
    rw [si_v]
    exact ih (v + 1) _ (by omega) (by omega) ((si_a_ne _ (by decide) (by decide) _ _ _).trans h21) (si_a_P hR h1 (by omega) 9 (-4) K (by omega) (by omega) h21 h)
theorem si_I {K0 : am_M} (hR : mRI K0) (s : Bool) : so_I (so_F K0 s) 0 (so_D (so_F K0 s) 0) (si_v 13 0 K0) := by
  have hz := sl_F_zr (V := mV K0) (A := mA K0) (J := mJ K0) (E := me_E K0 s) hR.V.1 hR.V.2 (so_E hR s)
  refine ⟨si_G (mA K0) (mJ K0), si_v_P hR 13 0 K0 (by omega) (by omega) rfl (fun x hx => absurd hx (by unfold sx; omega)), fun x t s1 h => ?_, fun x t s1 h => ?_, fun x hx p hp => ?_⟩
  · unfold si_G at h
    split at h
    · cases h
      omega
    · cases h
  · unfold si_G at h
    split at h
    · rename_i hc
      have h2 := Option.some.inj h
      have z1 := congrArg Prod.fst h2
      have z2 := congrArg Prod.snd h2
      dsimp only at z1 z2
      subst z1 z2
      have e : x = sx 0 (sl_b x) := by
        have := hc.1
        unfold sl_w at this
        unfold sx sl_b
        omega
      refine ⟨0, 0, ?_, sl_lx.rf _ _⟩
      rw [e]
      exact hz.2 (sl_b x) (by unfold sl_b; omega) (by unfold sl_b; omega) hc.2
    · cases h
  · obtain ⟨t, s1, h1, h2⟩ := hx
    have h3 : t = 0 := by omega
    subst h3
    obtain ⟨rfl, a, h4, h5, h6⟩ := hz.1 x s1 h1
    have h7 : so_F K0 s x = some (0, 0) := h1
    rw [h7] at hp
    rw [← hp]
    unfold si_G
    rw [if_pos]
    subst h5
    refine ⟨by unfold sl_w sx; omega, ?_⟩
    rw [show sl_b (sx 0 a) = a by unfold sl_b sx; omega]
    exact h6
def so_fr (M N : am_M) : Prop := ∀ a, a ≠ 27 → a ≠ 28 → N a = M a
set_option maxRecDepth 100000 in
set_option maxHeartbeats 400000 in
theorem lp_X7_snA (ad : Nat → Nat) (P : Option Value → am_M → Prop) (s : Bool) (v A : Int) (hA1 : 1 ≤ A) (hA : A ≤ 4) (h1 : 0 ≤ v) (h2 : v ≤ 12) (KF : Bool × am_M) (KK : ∀ l4 l5 l6 l7, am_W ydX7_slows ad am_II P 288 [some (.ref (ad 21)), some (.int (bI s)), some (.int (bI KF.1)), some (.int (iN v)), l4, l5, l6, l7] [] KF.2) : ∀ (n : Nat) (a : Int) (m : Bool × am_M) (l5 l6 l7 : Option Value), a + n = A + 1 → -A ≤ a → mRI m.2 → mA m.2 = A → sn_a s A v n a m = KF → am_W ydX7_slows ad am_II P 110 [some (.ref (ad 21)), some (.int (bI s)), some (.int (bI m.1)), some (.int (iN v)), some (.int (iN a)), l5, l6, l7] [] m.2 := by
  intro n
  induction n with
  | zero =>
    intro a m l5 l6 l7 hb h0 hR hAm he
    have e2 : m.2 21 2 = iN A := by (rw [← hAm]; exact (iN_self _).symm)
    rw [sn_a] at he
    subst he
    refine am_iload rfl dX7_slows_110 ?_
    refine am_aload_n rfl dX7_slows_112 ?_
    refine am_geti (j := 2) (by decide) rfl rfl rfl hTX7 (by decide) fl_X7_13 dX7_slows_113 ?_
    rw [e2]
    refine am_icmp_gt (tgt := 288) (by decide) dX7_slows_116 (fun h116 => ?_) (fun h116 => ?_)
    · exact KK _ _ _ _
    · exfalso; simp only [Int32.lt_iff_toInt_lt, iN_e] at h116; omega
  | succ n ih =>
    intro a m l5 l6 l7 hb h0 hR hAm he
    have e2 : m.2 21 2 = iN A := by (rw [← hAm]; exact (iN_self _).symm)
    rw [sn_a] at he
    have hrk : mRI (sn_b s v a (2 * A + 1).toNat (-A) m).2 ∧ mA (sn_b s v a (2 * A + 1).toNat (-A) m).2 = A := by
      have h := sn_b_ne s v a (q := 21) (by decide) (by decide) (2 * A + 1).toNat (-A) m
      exact ⟨hR.cong h, by unfold mA at hAm ⊢; rw [h]; exact hAm⟩
    refine am_iload rfl dX7_slows_110 ?_
    refine am_aload_n rfl dX7_slows_112 ?_
    refine am_geti (j := 2) (by decide) rfl rfl rfl hTX7 (by decide) fl_X7_13 dX7_slows_113 ?_
    rw [e2]
    refine am_icmp_gt (tgt := 288) (by decide) dX7_slows_116 (fun h116 => ?_) (fun h116 => ?_)
    · exfalso; simp only [Int32.lt_iff_toInt_lt, iN_e] at h116; omega
    · refine am_aload_n rfl dX7_slows_119 ?_
      refine am_geti (j := 2) (by decide) rfl rfl rfl hTX7 (by decide) fl_X7_13 dX7_slows_120 ?_
      rw [e2]
      refine am_ineg dX7_slows_123 ?_
      rw [iN_neg]
      refine am_istore (by decide) dX7_slows_124 ?_
      refine lp_X7_snB ad P s v a A hA1 hA h1 h2 (by omega) (by omega) _ (fun l5 l6 l7 => ?_) (2 * A + 1).toNat (-A) m _ _ (by omega) (by omega) hR hAm rfl
      refine am_iinc (v := iN (a + 1)) rfl (iN_inc a) (by decide) dX7_slows_282 ?_
      refine am_goto (tgt := 110) (by decide) dX7_slows_285 ?_
      exact ih (a + 1) _ _ _ _ (by omega) (by omega) hrk.1 hrk.2 he
set_option maxRecDepth 100000 in
set_option maxHeartbeats 400000 in
theorem lp_X7_snV (ad : Nat → Nat) (P : Option Value → am_M → Prop) (s : Bool) (V A : Int) (hA1 : 1 ≤ A) (hA : A ≤ 4) (hV : V ≤ 12) (KF : Bool × am_M) (KK : ∀ l3 l4 l5 l6 l7, am_W ydX7_slows ad am_II P 294 [some (.ref (ad 21)), some (.int (bI s)), some (.int (bI KF.1)), l3, l4, l5, l6, l7] [] KF.2) : ∀ (n : Nat) (v : Int) (m : Bool × am_M) (l4 l5 l6 l7 : Option Value), v + n = V + 1 → 0 ≤ v → mRI m.2 → mA m.2 = A → mV m.2 = V → sn_v s A n v m = KF → am_W ydX7_slows ad am_II P 95 [some (.ref (ad 21)), some (.int (bI s)), some (.int (bI m.1)), some (.int (iN v)), l4, l5, l6, l7] [] m.2 := by
  intro n
  induction n with
  | zero =>
    intro v m l4 l5 l6 l7 hb h0 hR hAm hVm he
    have e1 : m.2 21 1 = iN V := by (rw [← hVm]; exact (iN_self _).symm)
    rw [sn_v] at he
    subst he
    refine am_iload_n rfl dX7_slows_95 ?_
    refine am_aload_n rfl dX7_slows_96 ?_
    refine am_geti (j := 1) (by decide) rfl rfl rfl hTX7 (by decide) fl_X7_7 dX7_slows_97 ?_
    rw [e1]
    refine am_icmp_gt (tgt := 294) (by decide) dX7_slows_100 (fun h100 => ?_) (fun h100 => ?_)
    · exact KK _ _ _ _ _
    · exfalso; simp only [Int32.lt_iff_toInt_lt, iN_e] at h100; omega
  | succ n ih =>
    intro v m l4 l5 l6 l7 hb h0 hR hAm hVm he
    have e1 : m.2 21 1 = iN V := by (rw [← hVm]; exact (iN_self _).symm)
    have e2 : m.2 21 2 = iN A := by (rw [← hAm]; exact (iN_self _).symm)
    rw [sn_v] at he
    have hrk : mRI (sn_a s A v (2 * A + 1).toNat (-A) m).2 ∧ mA (sn_a s A v (2 * A + 1).toNat (-A) m).2 = A ∧ mV (sn_a s A v (2 * A + 1).toNat (-A) m).2 = V := by
      have h := sn_a_ne s A v (q := 21) (by decide) (by decide) (2 * A + 1).toNat (-A) m
      exact ⟨hR.cong h, by unfold mA at hAm ⊢; rw [h]; exact hAm, by unfold mV at hVm ⊢; rw [h]; exact hVm⟩
    refine am_iload_n rfl dX7_slows_95 ?_
    refine am_aload_n rfl dX7_slows_96 ?_
    refine am_geti (j := 1) (by decide) rfl rfl rfl hTX7 (by decide) fl_X7_7 dX7_slows_97 ?_
    rw [e1]
    refine am_icmp_gt (tgt := 294) (by decide) dX7_slows_100 (fun h100 => ?_) (fun h100 => ?_)
    · exfalso; simp only [Int32.lt_iff_toInt_lt, iN_e] at h100; omega
    · refine am_aload_n rfl dX7_slows_103 ?_
      refine am_geti (j := 2) (by decide) rfl rfl rfl hTX7 (by decide) fl_X7_13 dX7_slows_104 ?_
      rw [e2]
      refine am_ineg dX7_slows_107 ?_
      rw [iN_neg]
      refine am_istore (by decide) dX7_slows_108 ?_
      refine lp_X7_snA ad P s v A hA1 hA h0 (by omega) _ (fun l4 l5 l6 l7 => ?_) (2 * A + 1).toNat (-A) m _ _ _ (by omega) (by omega) hR hAm rfl
      refine am_iinc (v := iN (v + 1)) rfl (iN_inc v) (by decide) dX7_slows_288 ?_
      refine am_goto (tgt := 95) (by decide) dX7_slows_291 ?_
      exact ih (v + 1) _ _ _ _ _ (by omega) (by omega) hrk.1 hrk.2.1 hrk.2.2 he
set_option maxRecDepth 100000 in
set_option maxHeartbeats 400000 in
theorem lp_X7_slows (ad : Nat → Nat) (M : am_M) (hR : mRI M) (s : Bool) : ∀ (z k : Nat) (K : am_M) (l3 l4 l5 l6 l7 : Option Value), 117 - k < z → k ≤ 117 → so_I (so_F M s) (1053 * k) (so_D (so_F M s) k) K → so_fr M K → am_W ydX7_slows ad am_II (fun r N => r = none ∧ so_RC N (so_F M s) ∧ so_fr M N) 87 [some (.ref (ad 21)), some (.int (bI s)), some (.int (bI true)), l3, l4, l5, l6, l7] [] K := by
  have hA1 : 1 ≤ mA M := hR.2.2.1
  have hV1 : 1 ≤ mV M := hR.1
  intro z
  induction z with
  | zero => intro k K l3 l4 l5 l6 l7 hz; omega
  | succ z ih =>
    intro k K l3 l4 l5 l6 l7 hz hk hI hf
    have h21 := hf 21 (by decide) (by decide)
    have hKA : mA K = mA M := by (unfold mA; rw [h21])
    have hKV : mV K = mV M := by (unfold mV; rw [h21])
    have hq : so_sm M K := ⟨h21, hf 22 (by decide) (by decide), hf 23 (by decide) (by decide)⟩
    have hfr2 : so_fr M (sn_pass s (mV M) (mA M) K).2 := fun a p1 p2 => (sn_v_ne s (mA M) p1 p2 _ _ _).trans (hf a p1 p2)
    have hEnd : (sn_pass s (mV M) (mA M) K).1 = false → so_RC (sn_pass s (mV M) (mA M) K).2 (so_F M s) := fun h => by
      have e := so_v_f _ _ _ h
      have e2 : sn_pass s (mV M) (mA M) K = (false, K) := e
      rw [e2]
      refine so_done hR (hI.mono (Nat.le_refl _) (fun x hx => ?_)) (by omega) hq e2
      obtain ⟨t, s1, p1, p2⟩ := hx
      exact ⟨t, s1, p1, by omega⟩
    have hMore : (sn_pass s (mV M) (mA M) K).1 = true → k < 117 ∧ so_I (so_F M s) (1053 * (k + 1)) (so_D (so_F M s) (k + 1)) (sn_pass s (mV M) (mA M) K).2 := fun h => by
      by_cases q : k = 117
      · subst q
        rw [so_stop_p hR hI (by omega) hq] at h
        cases h
      · exact ⟨by omega, (so_pass hR hI (by omega) hq).mono (by omega) (fun _ h => h)⟩
    refine am_iload_n rfl dX7_slows_87 ?_
    refine am_if_eq (tgt := 297) (by decide) dX7_slows_88 (fun h88 => ?_) (fun h88 => ?_)
    · exact absurd h88 (by decide)
    · refine am_iconst (v := 0) (by decide) dX7_slows_91 ?_
      refine am_istore_n (by decide) dX7_slows_92 ?_
      refine am_iconst (v := 0) (by decide) dX7_slows_93 ?_
      refine am_istore_n (by decide) dX7_slows_94 ?_
      refine lp_X7_snV ad _ s (mV M) (mA M) hA1 hR.V.2 hR.V.1 _ (fun l3 l4 l5 l6 l7 => ?_) (mV M + 1).toNat 0 (false, K) _ _ _ _ (by omega) (by omega) (hR.cong h21) hKA hKV rfl
      refine am_goto (tgt := 87) (by decide) dX7_slows_294 ?_
      cases hb : (sn_v s (mA M) (mV M + 1).toNat 0 (false, K)).1 with
      | true =>
        obtain ⟨k1, k2⟩ := hMore hb
        exact ih (k + 1) _ _ _ _ _ _ (by omega) (by omega) k2 hfr2
      | false =>
        refine am_iload_n rfl dX7_slows_87 ?_
        refine am_if_eq (tgt := 297) (by decide) dX7_slows_88 (fun _ => ?_) (fun h => absurd rfl h)
        refine am_vret rfl dX7_slows_297 ?_
        exact ⟨rfl, hEnd hb, hfr2⟩
set_option maxRecDepth 100000 in
set_option maxHeartbeats 400000 in
theorem c_X7_slows (ad : Nat → Nat) (M : am_M) (s : Bool) (hR : mRI M) : am_C ydX7_slows ad am_II [.ref (ad 21), .int (bI s)] M (fun r N => r = none ∧ so_RC N (so_F M s) ∧ so_fr M N) := by
  refine am_ofW (L := [some (.ref (ad 21)), some (.int (bI s)), none, none, none, none, none, none]) (by decide +kernel) (by cases s <;> simp [Value.category]) (Nat.le_of_ble_eq_true rfl) rfl ?_
  refine am_iconst (v := 0) (by decide) dX7_slows_0 ?_
  refine am_istore_n (by decide) dX7_slows_1 ?_
  refine lp_X7_siV ad _ s _ (fun l2 l3 l4 l5 l6 l7 => ?_) 13 0 M _ _ _ _ _ (by omega) (by omega) rfl
  refine am_iconst (v := 1) (by decide) dX7_slows_85 ?_
  refine am_istore_n (by decide) dX7_slows_86 ?_
  exact lp_X7_slows ad M hR s 118 0 _ _ _ _ _ _ (by omega) (by omega) (si_I hR s) (fun a p1 p2 => si_v_ne p1 p2 _ _ _)

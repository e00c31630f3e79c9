def mo_axs (K : am_M) (s : Bool) (x : Nat) : am_M := if s = true then am_put (am_put K 31 x (K 29 x + sp_gone (K 21 26) (K 21 25 + K 21 27) (K 30 x))) 32 x (K 32 x + (sp_gone (K 21 26) (K 21 25 + K 21 27) (K 30 x) - sp_gone (K 21 26) (K 21 25) (K 30 x))) else am_put K 31 x (K 29 x + sp_gone (K 21 26) (K 21 25 + K 21 27) (K 30 x))
def mo_axn (s : Bool) : Nat → Nat → am_M → am_M
  | 0, _, K => K
  | c + 1, x, K => mo_axn s c (x + 1) (mo_axs K s x)
theorem mo_axs_ne (K : am_M) (s : Bool) (x : Nat) {a : Nat} (h1 : a ≠ 31) (h2 : a ≠ 32) : mo_axs K s x a = K a := by
  unfold mo_axs
  split
  · rw [am_put_ne _ _ _ _ h2, am_put_ne _ _ _ _ h1]
  · rw [am_put_ne _ _ _ _ h1]
theorem mo_axn_ne (s : Bool) {a : Nat} (h1 : a ≠ 31) (h2 : a ≠ 32) : ∀ (c x : Nat) (K : am_M), mo_axn s c x K a = K a := by
  intro c
  induction c with
  | zero => intro x K; rfl
  | succ c ih => intro x K; rw [mo_axn, ih, mo_axs_ne _ _ _ h1 h2]
def mo_k1 (K : am_M) (b : Int32) : am_M := am_put (am_put K 21 27 (K 21 27 + b)) 21 28 b
def mo_a (K : am_M) : am_M := am_put K 21 29 (K 21 29 + K 21 27)
def mo_miss2 (K : am_M) (s : Bool) : am_M := if s = true then K else if mo_a K 21 27 ≤ 0 then mo_a K else if mo_a K 21 30 = -1 then am_put (mo_a K) 21 30 (mo_a K 21 24) else mo_a K
def mo_k41 (K : am_M) : am_M := am_put K 21 25 (K 21 25 + K 21 27)
def mo_k42 (K : am_M) : am_M := am_put K 21 24 (K 21 24 + 1)
def mo_k43 (K : am_M) : am_M := am_put K 21 23 (K 21 23 + 1)
def mo_k5 (K : am_M) : am_M := am_put K 21 15 (if K 21 22 ≤ K 21 23 then 0 else 1)
def mo_sf (K : am_M) (b : Int32) : Bool := mo_safe (mo_k1 K b) (mo_k1 K b 21 27) b
def mo_stepb (K : am_M) (b : Int32) : am_M := mo_k5 (mo_k43 (mo_k42 (mo_k41 (mo_axn (mo_sf K b) 3 0 (mo_miss2 (mo_k1 K b) (mo_sf K b))))))
def mo_step (K : am_M) : am_M := mo_stepb K (K 33 (K 21 23).toNatClampNeg)
def mo_run : Nat → am_M → Nat × am_M
  | 0, K => (0, K)
  | n + 1, K => if K 21 15 = 0 then (0, K) else ((mo_run n (mo_step K)).1 + 1, (mo_run n (mo_step K)).2)
theorem mo_miss2_ne (K : am_M) (s : Bool) {a : Nat} (h : a ≠ 21) : mo_miss2 K s a = K a := by
  unfold mo_miss2 mo_a
  split
  · rfl
  · split
    · rw [am_put_ne _ _ _ _ h]
    · split
      · rw [am_put_ne _ _ _ _ h, am_put_ne _ _ _ _ h]
      · rw [am_put_ne _ _ _ _ h]
theorem mo_miss2_f (K : am_M) (s : Bool) {j : Nat} (h1 : j ≠ 29) (h2 : j ≠ 30) : mo_miss2 K s 21 j = K 21 j := by
  unfold mo_miss2 mo_a
  split
  · rfl
  · split
    · simp [am_rd, h1]
    · split
      · simp [am_rd, h1, h2]
      · simp [am_rd, h1]
theorem mo_stepb_ne (K : am_M) (b : Int32) {a : Nat} (h1 : a ≠ 31) (h2 : a ≠ 32) (h3 : a ≠ 21) : mo_stepb K b a = K a := by
  unfold mo_stepb mo_k5 mo_k43 mo_k42 mo_k41
  rw [am_put_ne _ _ _ _ h3, am_put_ne _ _ _ _ h3, am_put_ne _ _ _ _ h3, am_put_ne _ _ _ _ h3, mo_axn_ne _ h1 h2, mo_miss2_ne _ _ h3]
  unfold mo_k1
  rw [am_put_ne _ _ _ _ h3, am_put_ne _ _ _ _ h3]
theorem mo_stepb_f (K : am_M) (b : Int32) {j : Nat} (h : j ≠ 15 ∧ j ≠ 23 ∧ j ≠ 24 ∧ j ≠ 25 ∧ j ≠ 27 ∧ j ≠ 28 ∧ j ≠ 29 ∧ j ≠ 30) : mo_stepb K b 21 j = K 21 j := by
  unfold mo_stepb mo_k5 mo_k43 mo_k42 mo_k41
  rw [am_rd, if_neg (by omega), am_rd, if_neg (by omega), am_rd, if_neg (by omega), am_rd, if_neg (by omega), mo_axn_ne _ (by decide) (by decide), mo_miss2_f _ _ (by omega) (by omega)]
  unfold mo_k1
  rw [am_rd, if_neg (by omega), am_rd, if_neg (by omega)]
theorem mo_stepb_v (K : am_M) (b : Int32) : mo_stepb K b 21 27 = K 21 27 + b ∧ mo_stepb K b 21 28 = b ∧ mo_stepb K b 21 25 = K 21 25 + (K 21 27 + b) ∧ mo_stepb K b 21 24 = K 21 24 + 1 ∧ mo_stepb K b 21 23 = K 21 23 + 1 ∧ mo_stepb K b 21 15 = (if K 21 22 ≤ K 21 23 + 1 then 0 else 1) := by
  have e : ∀ j, mo_axn (mo_sf K b) 3 0 (mo_miss2 (mo_k1 K b) (mo_sf K b)) 21 j = mo_miss2 (mo_k1 K b) (mo_sf K b) 21 j := fun j => by rw [mo_axn_ne _ (by decide) (by decide)]
  have k27 : mo_k1 K b 21 27 = K 21 27 + b := by simp [mo_k1, am_rd]
  have k28 : mo_k1 K b 21 28 = b := by simp [mo_k1, am_rd]
  have kj : ∀ j, j ≠ 27 → j ≠ 28 → mo_k1 K b 21 j = K 21 j := fun j h1 h2 => by simp [mo_k1, am_rd, h1, h2]
  have m : ∀ j, j ≠ 29 → j ≠ 30 → mo_miss2 (mo_k1 K b) (mo_sf K b) 21 j = mo_k1 K b 21 j := fun j h1 h2 => mo_miss2_f _ _ h1 h2
  refine ⟨?_, ?_, ?_, ?_, ?_, ?_⟩ <;> simp [mo_stepb, mo_k5, mo_k43, mo_k42, mo_k41, am_rd, e, m, k27, k28, kj]
/-- the row that the reference goes by stays within the speeds -/
def mt_ok (K : am_M) : Prop := ∃ (f : Nat → Int) (p c : Nat), (c ≤ 1000 ∧ p ≤ c) ∧ K 21 23 = nI p ∧ K 21 22 = nI c ∧ K 21 15 = (if p < c then 1 else 0) ∧ (∀ i, p ≤ i → i ≤ c → 0 ≤ f i ∧ f i ≤ 12) ∧ K 21 27 = iN (f p) ∧ (∀ i, p ≤ i → i < c → K 33 i = iN (f (i + 1) - f i)) ∧ 0 ≤ (K 21 26).toInt ∧ (K 21 26).toInt ≤ 1000000000
theorem mt_ok_step {K : am_M} (h : mt_ok K) (h15 : ¬ K 21 15 = 0) : mt_ok (mo_step K) ∧ vp_in (K 21 23) 1000 ∧ vp_in (K 21 27 + K 33 (K 21 23).toNatClampNeg) 13 := by
  obtain ⟨f, p, c, ⟨hc, hp⟩, e23, e22, e15, hf, e27, hrow, hn, hn2⟩ := h
  have hlt : p < c := by
    by_cases q : p < c
    · exact q
    · rw [if_neg q] at e15; exact absurd e15 h15
  have hb : K 33 (K 21 23).toNatClampNeg = iN (f (p + 1) - f p) := by rw [e23, nI_clamp (by omega)]; exact hrow p (Nat.le_refl _) hlt
  have hw : K 21 27 + K 33 (K 21 23).toNatClampNeg = iN (f (p + 1)) := by rw [hb, e27, iN_add]; congr 1; omega
  have hf1 := hf (p + 1) (by omega) (by omega)
  refine ⟨⟨f, p + 1, c, ⟨hc, by omega⟩, ?_, ?_, ?_, fun i h1 h2 => hf i (by omega) h2, ?_, fun i h1 h2 => ?_, ?_, ?_⟩, by rw [e23]; exact vp_in_nI (by omega) (by omega), by rw [hw]; exact am_vpI (by rw [iN_e]; omega) (by rw [iN_e]; omega)⟩
  · unfold mo_step
    rw [(mo_stepb_v K _).2.2.2.2.1, e23, nI_1]
  · unfold mo_step
    rw [mo_stepb_f K _ (by decide), e22]
  · unfold mo_step
    rw [(mo_stepb_v K _).2.2.2.2.2, e22, e23, nI_1]
    by_cases q : p + 1 < c
    · rw [if_pos q, if_neg (by simp only [Int32.le_iff_toInt_le, nI_e]; omega)]
    · rw [if_neg q, if_pos (by simp only [Int32.le_iff_toInt_le, nI_e]; omega)]
  · unfold mo_step
    rw [(mo_stepb_v K _).1, hw]
  · unfold mo_step
    rw [mo_stepb_ne K _ (by decide) (by decide) (by decide)]
    exact hrow i (by omega) h2
  · unfold mo_step
    rw [mo_stepb_f K _ (by decide)]
    exact hn
  · unfold mo_step
    rw [mo_stepb_f K _ (by decide)]
    exact hn2
def mo_okTick (K : am_M) (k : Int32) : Bool := mo_mv K && sp_in k 0 1000
set_option maxRecDepth 100000 in
set_option maxHeartbeats 400000 in
theorem lp_X7_tkA (ad : Nat → Nat) (P : Option Value → am_M → Prop) (s : Bool) (l1 l2 l3 : Option Value) (KF : am_M) (KK : ∀ l5 l6, am_W ydX7_tick ad am_II P 206 [some (.ref (ad 21)), l1, l2, l3, some (.int (bI s)), l5, l6] [] KF) : ∀ (c x : Nat) (K : am_M) (l6 : Option Value), x + c = 3 → 0 ≤ (K 21 26).toInt → (K 21 26).toInt ≤ 1000000000 → mo_axn s c x K = KF → am_W ydX7_tick ad am_II P 119 [some (.ref (ad 21)), l1, l2, l3, some (.int (bI s)), some (.int (nI x)), l6] [] K := by
  intro c
  induction c with
  | zero =>
    intro x K l6 hx hn hn2 he
    rw [mo_axn] at he
    subst he
    refine am_iload rfl dX7_tick_119 ?_
    refine am_iconst (v := 3) (by decide) dX7_tick_121 ?_
    refine am_icmp_ge (tgt := 206) (by decide) dX7_tick_122 (fun h122 => ?_) (fun h122 => ?_)
    · exact KK _ _
    · exfalso; simp only [Int32.le_iff_toInt_le, nI_e, kI_3] at h122; omega
  | succ c ih =>
    intro x K l6 hx hn hn2 he
    rw [mo_axn] at he
    have hv : vp_in (nI x) 3 := vp_in_nI (by omega) (by omega)
    have hc : (nI x).toNatClampNeg = x := nI_clamp (by omega)
    have KS : ∀ l6, am_W ydX7_tick ad am_II P 119 [some (.ref (ad 21)), l1, l2, l3, some (.int (bI s)), some (.int (nI (x + 1))), l6] [] (mo_axs K s x) := fun l6 => ih (x + 1) _ l6 (by omega) (by rw [mo_axs_ne _ _ _ (by decide) (by decide)]; exact hn) (by rw [mo_axs_ne _ _ _ (by decide) (by decide)]; exact hn2) he
    have e29 : am_put K 31 x (K 29 x + sp_gone (K 21 26) (K 21 25 + K 21 27) (K 30 x)) 32 = K 32 := am_put_ne _ _ _ _ (by decide)
    have CG : ∀ m, am_C ydX7_gone ad am_II [.ref (ad 21), .int (nI x), .int m] K (am_is (sp_gone (K 21 26) m (K 30 x)) K) := fun m => by
      have h9 := c_X7_gone ad K (nI x) m hv hn hn2
      rw [hc] at h9
      exact h9
    refine am_iload rfl dX7_tick_119 ?_
    refine am_iconst (v := 3) (by decide) dX7_tick_121 ?_
    refine am_icmp_ge (tgt := 206) (by decide) dX7_tick_122 (fun h122 => ?_) (fun h122 => ?_)
    · exfalso; simp only [Int32.le_iff_toInt_le, nI_e, kI_3] at h122; omega
    · refine am_aload_n rfl dX7_tick_125 ?_
      refine am_iload rfl dX7_tick_126 ?_
      refine am_aload_n rfl dX7_tick_128 ?_
      refine am_geti (j := 25) (by decide) rfl rfl rfl hTX7 (by decide) fl_X7_147 dX7_tick_129 ?_
      refine am_aload_n rfl dX7_tick_132 ?_
      refine am_geti (j := 27) (by decide) rfl rfl rfl hTX7 (by decide) fl_X7_150 dX7_tick_133 ?_
      refine am_iadd dX7_tick_136 ?_
      refine am_callVi (CG _) okX7_gone ml_X7_171 (by decide) rfl rfl rfl ⟨by decide, by decide⟩ (Nat.le_of_ble_eq_true rfl) rfl dX7_tick_137 ?_
      refine am_aload_n rfl dX7_tick_140 ?_
      refine am_iload rfl dX7_tick_141 ?_
      refine am_aload_n rfl dX7_tick_143 ?_
      refine am_geti (j := 25) (by decide) rfl rfl rfl hTX7 (by decide) fl_X7_147 dX7_tick_144 ?_
      refine am_callVi (CG _) okX7_gone ml_X7_171 (by decide) rfl rfl rfl ⟨by decide, by decide⟩ (Nat.le_of_ble_eq_true rfl) rfl dX7_tick_147 ?_
      refine am_isub dX7_tick_150 ?_
      refine am_istore (by decide) dX7_tick_151 ?_
      refine am_aload_n rfl dX7_tick_153 ?_
      refine am_getr (j := 19) (by decide) rfl rfl rfl hTX7 (by decide) fl_X7_48 dX7_tick_154 ?_
      refine am_iload rfl dX7_tick_157 ?_
      refine am_aload_n rfl dX7_tick_159 ?_
      refine am_getr (j := 17) (by decide) rfl rfl rfl hTX7 (by decide) fl_X7_42 dX7_tick_160 ?_
      refine am_iload rfl dX7_tick_163 ?_
      refine am_iald (by decide) rfl (hv) dX7_tick_165 ?_
      rw [hc]
      refine am_aload_n rfl dX7_tick_166 ?_
      refine am_iload rfl dX7_tick_167 ?_
      refine am_aload_n rfl dX7_tick_169 ?_
      refine am_geti (j := 25) (by decide) rfl rfl rfl hTX7 (by decide) fl_X7_147 dX7_tick_170 ?_
      refine am_aload_n rfl dX7_tick_173 ?_
      refine am_geti (j := 27) (by decide) rfl rfl rfl hTX7 (by decide) fl_X7_150 dX7_tick_174 ?_
      refine am_iadd dX7_tick_177 ?_
      refine am_callVi (CG _) okX7_gone ml_X7_171 (by decide) rfl rfl rfl ⟨by decide, by decide⟩ (Nat.le_of_ble_eq_true rfl) rfl dX7_tick_178 ?_
      refine am_iadd dX7_tick_181 ?_
      refine am_iast (by decide) rfl (hv) dX7_tick_182 ?_
      rw [hc]
      refine am_iload rfl dX7_tick_183 ?_
      refine am_if_eq (tgt := 200) (by decide) dX7_tick_185 (fun h185 => ?_) (fun h185 => ?_)
      · refine am_iinc (v := nI (x + 1)) rfl (nI_inc x) (by decide) dX7_tick_200 ?_
        refine am_goto (tgt := 119) (by decide) dX7_tick_203 ?_
        first
        | (have hs : s = true := (bI_1 s).mp h185
           have e : mo_axs K s x = am_put (am_put K 31 x (K 29 x + sp_gone (K 21 26) (K 21 25 + K 21 27) (K 30 x))) 32 x (K 32 x + (sp_gone (K 21 26) (K 21 25 + K 21 27) (K 30 x) - sp_gone (K 21 26) (K 21 25) (K 30 x))) := if_pos hs
           refine am_M_eq ?_ (KS _)
           rw [e, hc])
        | (have hs : ¬ s = true := fun q => (bI_1 s).mpr q h185
           have e : mo_axs K s x = am_put K 31 x (K 29 x + sp_gone (K 21 26) (K 21 25 + K 21 27) (K 30 x)) := if_neg hs
           exact am_M_eq e.symm (KS _))
      · refine am_aload_n rfl dX7_tick_188 ?_
        refine am_getr (j := 20) (by decide) rfl rfl rfl hTX7 (by decide) fl_X7_51 dX7_tick_189 ?_
        refine am_iload rfl dX7_tick_192 ?_
        refine am_dup2 rfl rfl dX7_tick_194 ?_
        refine am_iald (by decide) rfl (hv) dX7_tick_195 ?_
        rw [hc, e29]
        refine am_iload rfl dX7_tick_196 ?_
        refine am_iadd dX7_tick_198 ?_
        refine am_iast (by decide) rfl (hv) dX7_tick_199 ?_
        refine am_iinc (v := nI (x + 1)) rfl (nI_inc x) (by decide) dX7_tick_200 ?_
        refine am_goto (tgt := 119) (by decide) dX7_tick_203 ?_
        first
        | (have hs : s = true := (bI_1 s).mp h185
           have e : mo_axs K s x = am_put (am_put K 31 x (K 29 x + sp_gone (K 21 26) (K 21 25 + K 21 27) (K 30 x))) 32 x (K 32 x + (sp_gone (K 21 26) (K 21 25 + K 21 27) (K 30 x) - sp_gone (K 21 26) (K 21 25) (K 30 x))) := if_pos hs
           refine am_M_eq ?_ (KS _)
           rw [e, hc])
        | (have hs : ¬ s = true := fun q => (bI_1 s).mpr q h185
           have e : mo_axs K s x = am_put K 31 x (K 29 x + sp_gone (K 21 26) (K 21 25 + K 21 27) (K 30 x)) := if_neg hs
           exact am_M_eq e.symm (KS _))
theorem mo_m1 (K : am_M) (s : Bool) (h : s = true) : K = mo_miss2 K s := (if_pos h).symm
theorem mo_m2 (K : am_M) (s : Bool) (h : s = false) (h2 : mo_a K 21 27 ≤ 0) : mo_a K = mo_miss2 K s := by
  unfold mo_miss2
  rw [if_neg (by rw [h]; decide), if_pos h2]
theorem mo_m3 (K : am_M) (s : Bool) (h : s = false) (h2 : ¬ mo_a K 21 27 ≤ 0) (h3 : ¬ mo_a K 21 30 = -1) : mo_a K = mo_miss2 K s := by
  unfold mo_miss2
  rw [if_neg (by rw [h]; decide), if_neg h2, if_neg h3]
theorem mo_m4 (K : am_M) (s : Bool) (h : s = false) (h2 : ¬ mo_a K 21 27 ≤ 0) (h3 : mo_a K 21 30 = -1) : am_put (mo_a K) 21 30 (mo_a K 21 24) = mo_miss2 K s := by
  unfold mo_miss2
  rw [if_neg (by rw [h]; decide), if_neg h2, if_pos h3]
set_option maxRecDepth 100000 in
set_option maxHeartbeats 400000 in
theorem lp_X7_tick (ad : Nat → Nat) (k : Nat) (hk : k ≤ 1000) (c : Nat) (RR : am_M) : ∀ (z j : Nat) (K : am_M) (l3 l4 l5 l6 : Option Value), j + z = k → mt_ok K → j + (mo_run z K).1 = c → (mo_run z K).2 = RR → am_W ydX7_tick ad am_II (am_is (nI c) RR) 27 [some (.ref (ad 21)), some (.int (nI k)), some (.int (nI j)), l3, l4, l5, l6] [] K := by
  intro z
  induction z with
  | zero =>
    intro j K l3 l4 l5 l6 hj hok hc hr
    rw [mo_run] at hc hr
    dsimp only at hc hr
    subst hr
    obtain rfl : j = c := by omega
    refine am_iload_n rfl dX7_tick_27 ?_
    refine am_iload_n rfl dX7_tick_28 ?_
    refine am_icmp_ge (tgt := 265) (by decide) dX7_tick_29 (fun h29 => ?_) (fun h29 => ?_)
    · refine am_iload_n rfl dX7_tick_265 ?_
      refine am_iret rfl dX7_tick_266 ?_
      exact ⟨rfl, rfl⟩
    · exfalso; simp only [Int32.le_iff_toInt_le, nI_e] at h29; omega
  | succ z ih =>
    intro j K l3 l4 l5 l6 hj hok hc hr
    rw [mo_run] at hc hr
    have KE : K 21 15 = 0 → am_W ydX7_tick ad am_II (am_is (nI c) RR) 265 [some (.ref (ad 21)), some (.int (nI k)), some (.int (nI j)), l3, l4, l5, l6] [] K := by
      intro q
      rw [if_pos q] at hc hr
      dsimp only at hc hr
      subst hr
      obtain rfl : j = c := by omega
      refine am_iload_n rfl dX7_tick_265 ?_
      refine am_iret rfl dX7_tick_266 ?_
      exact ⟨rfl, rfl⟩
    have KN : ¬ K 21 15 = 0 → am_W ydX7_tick ad am_II (am_is (nI c) RR) 39 [some (.ref (ad 21)), some (.int (nI k)), some (.int (nI j)), l3, l4, l5, l6] [] K := by
      intro q
      rw [if_neg q] at hc hr
      dsimp only at hc hr
      obtain ⟨hok2, hv1, hv2⟩ := mt_ok_step hok q
      have hn : 0 ≤ (K 21 26).toInt ∧ (K 21 26).toInt ≤ 1000000000 := by
        obtain ⟨f, p, c, -, -, -, -, -, -, -, g1, g2⟩ := hok
        exact ⟨g1, g2⟩
      have KS : ∀ l3 l4 l5 l6, am_W ydX7_tick ad am_II (am_is (nI c) RR) 27 [some (.ref (ad 21)), some (.int (nI k)), some (.int (nI (j + 1))), l3, l4, l5, l6] [] (mo_step K) := fun l3 l4 l5 l6 => ih (j + 1) _ l3 l4 l5 l6 (by omega) hok2 (by omega) hr
      unfold mo_step at KS
      obtain ⟨b, hb⟩ : ∃ b, b = K 33 (K 21 23).toNatClampNeg := ⟨_, rfl⟩
      rw [← hb] at KS hv2
      have KM : ∀ l3 l5 l6, am_W ydX7_tick ad am_II (am_is (nI c) RR) 116 [some (.ref (ad 21)), some (.int (nI k)), some (.int (nI j)), l3, some (.int (bI (mo_sf K b))), l5, l6] [] (mo_miss2 (mo_k1 K b) (mo_sf K b)) := by
        intro l3 l5 l6
        refine am_iconst (v := 0) (by decide) dX7_tick_116 ?_
        refine am_istore (by decide) dX7_tick_117 ?_
        refine lp_X7_tkA ad _ (mo_sf K b) _ _ l3 _ (fun l5 l6 => ?_) 3 0 _ l6 (by omega) ?_ ?_ rfl
        refine am_aload_n rfl dX7_tick_206 ?_
        refine am_dup rfl dX7_tick_207 ?_
        refine am_geti (j := 25) (by decide) rfl rfl rfl hTX7 (by decide) fl_X7_147 dX7_tick_208 ?_
        refine am_aload_n rfl dX7_tick_211 ?_
        refine am_geti (j := 27) (by decide) rfl rfl rfl hTX7 (by decide) fl_X7_150 dX7_tick_212 ?_
        refine am_iadd dX7_tick_215 ?_
        refine am_puti (j := 25) (by decide) rfl rfl rfl hTX7 tyX7_ok nmX7 (by decide) fl_X7_147 rfl rfl rfl rfl dX7_tick_216 ?_
        refine am_aload_n rfl dX7_tick_219 ?_
        refine am_dup rfl dX7_tick_220 ?_
        refine am_geti (j := 24) (by decide) rfl rfl rfl hTX7 (by decide) fl_X7_156 dX7_tick_221 ?_
        refine am_iconst (v := 1) (by decide) dX7_tick_224 ?_
        refine am_iadd dX7_tick_225 ?_
        refine am_puti (j := 24) (by decide) rfl rfl rfl hTX7 tyX7_ok nmX7 (by decide) fl_X7_156 rfl rfl rfl rfl dX7_tick_226 ?_
        refine am_aload_n rfl dX7_tick_229 ?_
        refine am_dup rfl dX7_tick_230 ?_
        refine am_geti (j := 23) (by decide) rfl rfl rfl hTX7 (by decide) fl_X7_168 dX7_tick_231 ?_
        refine am_iconst (v := 1) (by decide) dX7_tick_234 ?_
        refine am_iadd dX7_tick_235 ?_
        refine am_puti (j := 23) (by decide) rfl rfl rfl hTX7 tyX7_ok nmX7 (by decide) fl_X7_168 rfl rfl rfl rfl dX7_tick_236 ?_
        refine am_iinc (v := nI (j + 1)) rfl (nI_inc j) (by decide) dX7_tick_239 ?_
        refine am_aload_n rfl dX7_tick_242 ?_
        refine am_aload_n rfl dX7_tick_243 ?_
        refine am_geti (j := 23) (by decide) rfl rfl rfl hTX7 (by decide) fl_X7_168 dX7_tick_244 ?_
        refine am_aload_n rfl dX7_tick_247 ?_
        refine am_geti (j := 22) (by decide) rfl rfl rfl hTX7 (by decide) fl_X7_165 dX7_tick_248 ?_
        refine am_icmp_ge (tgt := 258) (by decide) dX7_tick_251 (fun h251 => ?_) (fun h251 => ?_)
        · refine am_iconst (v := 0) (by decide) dX7_tick_258 ?_
          refine am_puti (j := 15) (by decide) rfl rfl rfl hTX7 tyX7_ok nmX7 (by decide) fl_X7_76 rfl rfl (by first | exact am_nb _ | decide) (by first | exact am_fb _ | decide) dX7_tick_259 ?_
          refine am_goto (tgt := 27) (by decide) dX7_tick_262 ?_
          first
          | exact am_M_eq (by unfold mo_stepb mo_k5; rw [if_pos (show mo_k43 (mo_k42 (mo_k41 (mo_axn (mo_sf K b) 3 0 (mo_miss2 (mo_k1 K b) (mo_sf K b))))) 21 22 ≤ mo_k43 (mo_k42 (mo_k41 (mo_axn (mo_sf K b) 3 0 (mo_miss2 (mo_k1 K b) (mo_sf K b))))) 21 23 from h251)]; rfl) (KS _ _ _ _)
          | exact am_M_eq (by unfold mo_stepb mo_k5; rw [if_neg (show ¬ mo_k43 (mo_k42 (mo_k41 (mo_axn (mo_sf K b) 3 0 (mo_miss2 (mo_k1 K b) (mo_sf K b))))) 21 22 ≤ mo_k43 (mo_k42 (mo_k41 (mo_axn (mo_sf K b) 3 0 (mo_miss2 (mo_k1 K b) (mo_sf K b))))) 21 23 from h251)]; rfl) (KS _ _ _ _)
        · refine am_iconst (v := 1) (by decide) dX7_tick_254 ?_
          refine am_goto (tgt := 259) (by decide) dX7_tick_255 ?_
          refine am_puti (j := 15) (by decide) rfl rfl rfl hTX7 tyX7_ok nmX7 (by decide) fl_X7_76 rfl rfl (by first | exact am_nb _ | decide) (by first | exact am_fb _ | decide) dX7_tick_259 ?_
          refine am_goto (tgt := 27) (by decide) dX7_tick_262 ?_
          first
          | exact am_M_eq (by unfold mo_stepb mo_k5; rw [if_pos (show mo_k43 (mo_k42 (mo_k41 (mo_axn (mo_sf K b) 3 0 (mo_miss2 (mo_k1 K b) (mo_sf K b))))) 21 22 ≤ mo_k43 (mo_k42 (mo_k41 (mo_axn (mo_sf K b) 3 0 (mo_miss2 (mo_k1 K b) (mo_sf K b))))) 21 23 from h251)]; rfl) (KS _ _ _ _)
          | exact am_M_eq (by unfold mo_stepb mo_k5; rw [if_neg (show ¬ mo_k43 (mo_k42 (mo_k41 (mo_axn (mo_sf K b) 3 0 (mo_miss2 (mo_k1 K b) (mo_sf K b))))) 21 22 ≤ mo_k43 (mo_k42 (mo_k41 (mo_axn (mo_sf K b) 3 0 (mo_miss2 (mo_k1 K b) (mo_sf K b))))) 21 23 from h251)]; rfl) (KS _ _ _ _)
        · rw [mo_miss2_f _ _ (by decide) (by decide)]; simp [mo_k1, am_rd]; exact hn.1
        · rw [mo_miss2_f _ _ (by decide) (by decide)]; simp [mo_k1, am_rd]; exact hn.2
      refine am_aload_n rfl dX7_tick_39 ?_
      refine am_getr (j := 21) (by decide) rfl rfl rfl hTX7 (by decide) fl_X7_54 dX7_tick_40 ?_
      refine am_aload_n rfl dX7_tick_43 ?_
      refine am_geti (j := 23) (by decide) rfl rfl rfl hTX7 (by decide) fl_X7_168 dX7_tick_44 ?_
      refine am_iald (by decide) rfl (hv1) dX7_tick_47 ?_
      rw [← hb]
      refine am_istore_n (by decide) dX7_tick_48 ?_
      refine am_aload_n rfl dX7_tick_49 ?_
      refine am_dup rfl dX7_tick_50 ?_
      refine am_geti (j := 27) (by decide) rfl rfl rfl hTX7 (by decide) fl_X7_150 dX7_tick_51 ?_
      refine am_iload_n rfl dX7_tick_54 ?_
      refine am_iadd dX7_tick_55 ?_
      refine am_puti (j := 27) (by decide) rfl rfl rfl hTX7 tyX7_ok nmX7 (by decide) fl_X7_150 rfl rfl rfl rfl dX7_tick_56 ?_
      refine am_aload_n rfl dX7_tick_59 ?_
      refine am_iload_n rfl dX7_tick_60 ?_
      refine am_puti (j := 28) (by decide) rfl rfl rfl hTX7 tyX7_ok nmX7 (by decide) fl_X7_153 rfl rfl rfl rfl dX7_tick_61 ?_
      refine am_aload_n rfl dX7_tick_64 ?_
      refine am_aload_n rfl dX7_tick_65 ?_
      refine am_geti (j := 27) (by decide) rfl rfl rfl hTX7 (by decide) fl_X7_150 dX7_tick_66 ?_
      refine am_iload_n rfl dX7_tick_69 ?_
      refine am_callVi (c_X7_isSafe ad (mo_k1 K b) (mo_k1 K b 21 27) b (by simp [mo_k1, am_rd]; exact hv2)) okX7_isSafe ml_X7_102 (by decide) rfl rfl rfl ⟨by decide, by decide⟩ (Nat.le_of_ble_eq_true rfl) rfl dX7_tick_70 ?_
      refine am_istore (by decide) dX7_tick_73 ?_
      refine am_iload rfl dX7_tick_75 ?_
      refine am_if_ne (tgt := 116) (by decide) dX7_tick_77 (fun h77 => ?_) (fun h77 => ?_)
      · first
        | exact am_M_eq (mo_m1 _ _ ((bI_1 _).mp h77)) (KM _ _ _)
        | exact am_M_eq (mo_m2 _ _ ((bI_0 _).mp h77) h97) (KM _ _ _)
        | exact am_M_eq (mo_m3 _ _ ((bI_0 _).mp h77) h97 h105) (KM _ _ _)
        | exact am_M_eq (mo_m4 _ _ ((bI_0 _).mp h77) h97 h105) (KM _ _ _)
        | exact am_M_eq (mo_m1 _ _ h77) (KM _ _ _)
        | exact am_M_eq (mo_m2 _ _ h77 h97) (KM _ _ _)
        | exact am_M_eq (mo_m3 _ _ h77 h97 h105) (KM _ _ _)
        | exact am_M_eq (mo_m4 _ _ h77 h97 h105) (KM _ _ _)
      · refine am_aload_n rfl dX7_tick_80 ?_
        refine am_dup rfl dX7_tick_81 ?_
        refine am_geti (j := 29) (by decide) rfl rfl rfl hTX7 (by decide) fl_X7_159 dX7_tick_82 ?_
        refine am_aload_n rfl dX7_tick_85 ?_
        refine am_geti (j := 27) (by decide) rfl rfl rfl hTX7 (by decide) fl_X7_150 dX7_tick_86 ?_
        refine am_iadd dX7_tick_89 ?_
        refine am_puti (j := 29) (by decide) rfl rfl rfl hTX7 tyX7_ok nmX7 (by decide) fl_X7_159 rfl rfl rfl rfl dX7_tick_90 ?_
        refine am_aload_n rfl dX7_tick_93 ?_
        refine am_geti (j := 27) (by decide) rfl rfl rfl hTX7 (by decide) fl_X7_150 dX7_tick_94 ?_
        refine am_if_le (tgt := 116) (by decide) dX7_tick_97 (fun h97 => ?_) (fun h97 => ?_)
        · first
          | exact am_M_eq (mo_m1 _ _ ((bI_1 _).mp h77)) (KM _ _ _)
          | exact am_M_eq (mo_m2 _ _ ((bI_0 _).mp h77) h97) (KM _ _ _)
          | exact am_M_eq (mo_m3 _ _ ((bI_0 _).mp h77) h97 h105) (KM _ _ _)
          | exact am_M_eq (mo_m4 _ _ ((bI_0 _).mp h77) h97 h105) (KM _ _ _)
          | exact am_M_eq (mo_m1 _ _ h77) (KM _ _ _)
          | exact am_M_eq (mo_m2 _ _ h77 h97) (KM _ _ _)
          | exact am_M_eq (mo_m3 _ _ h77 h97 h105) (KM _ _ _)
          | exact am_M_eq (mo_m4 _ _ h77 h97 h105) (KM _ _ _)
        · refine am_aload_n rfl dX7_tick_100 ?_
          refine am_geti (j := 30) (by decide) rfl rfl rfl hTX7 (by decide) fl_X7_57 dX7_tick_101 ?_
          refine am_iconst (v := (-1)) (by decide) dX7_tick_104 ?_
          refine am_icmp_ne (tgt := 116) (by decide) dX7_tick_105 (fun h105 => ?_) (fun h105 => ?_)
          · first
            | exact am_M_eq (mo_m1 _ _ ((bI_1 _).mp h77)) (KM _ _ _)
            | exact am_M_eq (mo_m2 _ _ ((bI_0 _).mp h77) h97) (KM _ _ _)
            | exact am_M_eq (mo_m3 _ _ ((bI_0 _).mp h77) h97 h105) (KM _ _ _)
            | exact am_M_eq (mo_m4 _ _ ((bI_0 _).mp h77) h97 h105) (KM _ _ _)
            | exact am_M_eq (mo_m1 _ _ h77) (KM _ _ _)
            | exact am_M_eq (mo_m2 _ _ h77 h97) (KM _ _ _)
            | exact am_M_eq (mo_m3 _ _ h77 h97 h105) (KM _ _ _)
            | exact am_M_eq (mo_m4 _ _ h77 h97 h105) (KM _ _ _)
          · refine am_aload_n rfl dX7_tick_108 ?_
            refine am_aload_n rfl dX7_tick_109 ?_
            refine am_geti (j := 24) (by decide) rfl rfl rfl hTX7 (by decide) fl_X7_156 dX7_tick_110 ?_
            refine am_puti (j := 30) (by decide) rfl rfl rfl hTX7 tyX7_ok nmX7 (by decide) fl_X7_57 rfl rfl rfl rfl dX7_tick_113 ?_
            first
            | exact am_M_eq (mo_m1 _ _ ((bI_1 _).mp h77)) (KM _ _ _)
            | exact am_M_eq (mo_m2 _ _ ((bI_0 _).mp h77) h97) (KM _ _ _)
            | exact am_M_eq (mo_m3 _ _ ((bI_0 _).mp h77) h97 h105) (KM _ _ _)
            | exact am_M_eq (mo_m4 _ _ ((bI_0 _).mp h77) h97 h105) (KM _ _ _)
            | exact am_M_eq (mo_m1 _ _ h77) (KM _ _ _)
            | exact am_M_eq (mo_m2 _ _ h77 h97) (KM _ _ _)
            | exact am_M_eq (mo_m3 _ _ h77 h97 h105) (KM _ _ _)
            | exact am_M_eq (mo_m4 _ _ h77 h97 h105) (KM _ _ _)
    refine am_iload_n rfl dX7_tick_27 ?_
    refine am_iload_n rfl dX7_tick_28 ?_
    refine am_icmp_ge (tgt := 265) (by decide) dX7_tick_29 (fun h29 => ?_) (fun h29 => ?_)
    · exfalso; simp only [Int32.le_iff_toInt_le, nI_e] at h29; omega
    · refine am_aload_n rfl dX7_tick_32 ?_
      refine am_geti (j := 15) (by decide) rfl rfl rfl hTX7 (by decide) fl_X7_76 dX7_tick_33 ?_
      refine am_if_eq (tgt := 265) (by decide) dX7_tick_36 (fun h36 => ?_) (fun h36 => ?_)
      · exact KE h36
      · exact KN h36
set_option maxRecDepth 100000 in
set_option maxHeartbeats 400000 in
theorem c_X7_tick (ad : Nat → Nat) (M : am_M) (k : Int32) (hok : ¬ md M 21 15 = 0 → mt_ok (md M)) : am_C ydX7_tick ad am_II [.ref (ad 21), .int k] M (am_is (if mo_okTick (md M) k = true then nI (mo_run k.toInt.toNat (md M)).1 else -1) (if mo_okTick (md M) k = true then (mo_run k.toInt.toNat (md M)).2 else md M)) := by
  refine am_ofW (L := [some (.ref (ad 21)), some (.int k), none, none, none, none, none]) (by decide +kernel) (by simp [Value.category]) (Nat.le_of_ble_eq_true rfl) rfl ?_
  refine am_aload_n rfl dX7_tick_0 ?_
  refine am_iconst (v := 0) (by decide) dX7_tick_1 ?_
  refine am_puti (j := 0) (by decide) rfl rfl rfl hTX7 tyX7_ok nmX7 (by decide) fl_X7_73 rfl rfl rfl rfl dX7_tick_2 ?_
  refine am_aload_n rfl dX7_tick_5 ?_
  refine am_geti (j := 15) (by decide) rfl rfl rfl hTX7 (by decide) fl_X7_76 dX7_tick_6 ?_
  refine am_if_eq (tgt := 23) (by decide) dX7_tick_9 (fun h9 => ?_) (fun h9 => ?_)
  · refine am_iconst (v := (-1)) (by decide) dX7_tick_23 ?_
    refine am_iret rfl dX7_tick_24 ?_
    have e9 : ¬ mo_okTick (md M) k = true := (by simp_all [mo_okTick, mo_mv])
    rw [if_neg e9, if_neg e9]
    exact ⟨rfl, rfl⟩
  · refine am_iload_n rfl dX7_tick_12 ?_
    refine am_iconst (v := 0) (by decide) dX7_tick_13 ?_
    refine am_sipush (v := 1000) (by decide) dX7_tick_14 ?_
    refine am_callSi (c_X7_isIn ad _ _ _ _) okX7_isIn ml_X7_80 rfl ⟨by decide, by decide⟩ (Nat.le_of_ble_eq_true rfl) rfl dX7_tick_17 ?_
    refine am_ifb_ne (tgt := 25) (by decide) dX7_tick_20 (fun h20 => ?_) (fun h20 => ?_)
    · refine am_iconst (v := 0) (by decide) dX7_tick_25 ?_
      refine am_istore_n (by decide) dX7_tick_26 ?_
      have e9 : mo_okTick (md M) k = true := (by simp_all [mo_okTick, mo_mv])
      rw [if_pos e9, if_pos e9]
      have hk : 0 ≤ k.toInt ∧ k.toInt ≤ 1000 := by (have h9 := h20; simp only [sp_in, decide_eq_true_eq, Int32.le_iff_toInt_le, Int32.toInt_zero, kI_1000] at h9; exact h9)
      have ek : k = nI k.toInt.toNat := i_inj (by rw [nI_e]; omega)
      generalize hz : k.toInt.toNat = z at *
      subst ek
      exact lp_X7_tick ad z (by omega) _ _ z 0 (md M) _ _ _ _ (by omega) (hok h9) (by omega) rfl
    · refine am_iconst (v := (-1)) (by decide) dX7_tick_23 ?_
      refine am_iret rfl dX7_tick_24 ?_
      have e9 : ¬ mo_okTick (md M) k = true := (by simp_all [mo_okTick, mo_mv])
      rw [if_neg e9, if_neg e9]
      exact ⟨rfl, rfl⟩

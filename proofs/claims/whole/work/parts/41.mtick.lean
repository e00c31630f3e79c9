def mo_axs (K : am_M) (s : Bool) (x : Nat) : am_M := if s = true then am_put (am_put K 31 x (K 29 x + sp_gone (K 21 26) (K 21 25 + K 21 27) (K 30 x))) 32 x (K 32 x + (sp_gone (K 21 26) (K 21 25 + K 21 27) (K 30 x) - sp_gone (K 21 26) (K 21 25) (K 30 x))) else am_put K 31 x (K 29 x + sp_gone (K 21 26) (K 21 25 + K 21 27) (K 30 x))
def mo_axn (s : Bool) : Nat → Nat → am_M → am_M
  | 0, _, K => K
  | c + 1, x, K => mo_axn s c (x + 1) (mo_axs K s x)
theorem mo_axs_ne (K : am_M) (s : Bool) (x : Nat) {a : Nat} (h1 : a ≠ 31) (h2 : a ≠ 32) : mo_axs K s x a = K a := by
  unfold mo_axs
  split
  · rw [am_put_ne _ _ _ _ h2, am_put_ne _ _ _ _ h1]
  · rw [am_put_ne _ _ _ _ h1]
theorem mo_axn_ne (s : Bool) {a : Nat} (h1 : a ≠ 31) (h2 : a ≠ 32) : ∀ (c x : Nat) (K : am_M), mo_axn s c x K a = K a := by
  intro c
  induction c with
  | zero => intro x K; rfl
  | succ c ih => intro x K; rw [mo_axn, ih, mo_axs_ne _ _ _ h1 h2]
def mo_k1 (K : am_M) (b : Int32) : am_M := am_put (am_put K 21 27 (K 21 27 + b)) 21 28 b
def mo_miss2 (K : am_M) (s : Bool) (w : Int32) : am_M := if s = true then K else if w ≤ 0 then am_put K 21 29 (K 21 29 + w) else if K 21 30 = -1 then am_put (am_put K 21 29 (K 21 29 + w)) 21 30 (K 21 24) else am_put K 21 29 (K 21 29 + w)
def mo_k4 (K : am_M) : am_M := am_put (am_put (am_put K 21 25 (K 21 25 + K 21 27)) 21 24 (K 21 24 + 1)) 21 23 (K 21 23 + 1)
def mo_k5 (K : am_M) : am_M := am_put K 21 15 (if K 21 23 < K 21 22 then 1 else 0)
def mo_stepb (K : am_M) (b : Int32) : am_M := mo_k5 (mo_k4 (mo_axn (mo_safe (mo_k1 K b) (K 21 27 + b) b) 3 0 (mo_miss2 (mo_k1 K b) (mo_safe (mo_k1 K b) (K 21 27 + b) b) (K 21 27 + b))))
def mo_step (K : am_M) : am_M := mo_stepb K (K 33 (K 21 23).toNatClampNeg)
def mo_run : Nat → am_M → Nat × am_M
  | 0, K => (0, K)
  | n + 1, K => if K 21 15 = 0 then (0, K) else ((mo_run n (mo_step K)).1 + 1, (mo_run n (mo_step K)).2)
set_option maxRecDepth 100000 in
set_option maxHeartbeats 400000 in
theorem lp_X7_tkA (ad : Nat → Nat) (P : Option Value → am_M → Prop) (s : Bool) (l1 l2 l3 : Option Value) (KF : am_M) (KK : ∀ l5 l6, am_W ydX7_tick ad am_II P 206 [some (.ref (ad 21)), l1, l2, l3, some (.int (bI s)), l5, l6] [] KF) : ∀ (c x : Nat) (K : am_M) (l6 : Option Value), x + c = 3 → 0 ≤ (K 21 26).toInt → (K 21 26).toInt ≤ 1000000000 → mo_axn s c x K = KF → am_W ydX7_tick ad am_II P 119 [some (.ref (ad 21)), l1, l2, l3, some (.int (bI s)), some (.int (nI x)), l6] [] K := by
  intro c
  induction c with
  | zero =>
    intro x K l6 hx hn hn2 he
    rw [mo_axn] at he
    subst he
    refine am_iload rfl dX7_tick_119 ?_
    refine am_iconst (v := 3) (by decide) dX7_tick_121 ?_
    refine am_icmp_ge (tgt := 206) (by decide) dX7_tick_122 (fun h122 => ?_) (fun h122 => ?_)
    · exact KK _ _
    · exfalso; simp only [Int32.le_iff_toInt_le, nI_e, kI_3] at h122; omega
  | succ c ih =>
    intro x K l6 hx hn hn2 he
    rw [mo_axn] at he
    have hv : vp_in (nI x) 3 := vp_in_nI (by omega) (by omega)
    have hc : (nI x).toNatClampNeg = x := nI_clamp (by omega)
    have KS : ∀ l6, am_W ydX7_tick ad am_II P 119 [some (.ref (ad 21)), l1, l2, l3, some (.int (bI s)), some (.int (nI (x + 1))), l6] [] (mo_axs K s x) := fun l6 => ih (x + 1) _ l6 (by omega) (by rw [mo_axs_ne _ _ _ (by decide) (by decide)]; exact hn) (by rw [mo_axs_ne _ _ _ (by decide) (by decide)]; exact hn2) he
    have e29 : am_put K 31 x (K 29 x + sp_gone (K 21 26) (K 21 25 + K 21 27) (K 30 x)) 32 = K 32 := am_put_ne _ _ _ _ (by decide)
    have CG : ∀ m, am_C ydX7_gone ad am_II [.ref (ad 21), .int (nI x), .int m] K (am_is (sp_gone (K 21 26) m (K 30 x)) K) := fun m => by
      have h9 := c_X7_gone ad K (nI x) m hv hn hn2
      rw [hc] at h9
      exact h9
    refine am_iload rfl dX7_tick_119 ?_
    refine am_iconst (v := 3) (by decide) dX7_tick_121 ?_
    refine am_icmp_ge (tgt := 206) (by decide) dX7_tick_122 (fun h122 => ?_) (fun h122 => ?_)
    · exfalso; simp only [Int32.le_iff_toInt_le, nI_e, kI_3] at h122; omega
    · refine am_aload_n rfl dX7_tick_125 ?_
      refine am_iload rfl dX7_tick_126 ?_
      refine am_aload_n rfl dX7_tick_128 ?_
      refine am_geti (j := 25) (by decide) rfl rfl rfl hTX7 (by decide) fl_X7_147 dX7_tick_129 ?_
      refine am_aload_n rfl dX7_tick_132 ?_
      refine am_geti (j := 27) (by decide) rfl rfl rfl hTX7 (by decide) fl_X7_150 dX7_tick_133 ?_
      refine am_iadd dX7_tick_136 ?_
      refine am_callVi (CG _) okX7_gone ml_X7_171 (by decide) rfl rfl rfl ⟨by decide, by decide⟩ (Nat.le_of_ble_eq_true rfl) rfl dX7_tick_137 ?_
      refine am_aload_n rfl dX7_tick_140 ?_
      refine am_iload rfl dX7_tick_141 ?_
      refine am_aload_n rfl dX7_tick_143 ?_
      refine am_geti (j := 25) (by decide) rfl rfl rfl hTX7 (by decide) fl_X7_147 dX7_tick_144 ?_
      refine am_callVi (CG _) okX7_gone ml_X7_171 (by decide) rfl rfl rfl ⟨by decide, by decide⟩ (Nat.le_of_ble_eq_true rfl) rfl dX7_tick_147 ?_
      refine am_isub dX7_tick_150 ?_
      refine am_istore (by decide) dX7_tick_151 ?_
      refine am_aload_n rfl dX7_tick_153 ?_
      refine am_getr (j := 19) (by decide) rfl rfl rfl hTX7 (by decide) fl_X7_48 dX7_tick_154 ?_
      refine am_iload rfl dX7_tick_157 ?_
      refine am_aload_n rfl dX7_tick_159 ?_
      refine am_getr (j := 17) (by decide) rfl rfl rfl hTX7 (by decide) fl_X7_42 dX7_tick_160 ?_
      refine am_iload rfl dX7_tick_163 ?_
      refine am_iald (by decide) rfl (hv) dX7_tick_165 ?_
      rw [hc]
      refine am_aload_n rfl dX7_tick_166 ?_
      refine am_iload rfl dX7_tick_167 ?_
      refine am_aload_n rfl dX7_tick_169 ?_
      refine am_geti (j := 25) (by decide) rfl rfl rfl hTX7 (by decide) fl_X7_147 dX7_tick_170 ?_
      refine am_aload_n rfl dX7_tick_173 ?_
      refine am_geti (j := 27) (by decide) rfl rfl rfl hTX7 (by decide) fl_X7_150 dX7_tick_174 ?_
      refine am_iadd dX7_tick_177 ?_
      refine am_callVi (CG _) okX7_gone ml_X7_171 (by decide) rfl rfl rfl ⟨by decide, by decide⟩ (Nat.le_of_ble_eq_true rfl) rfl dX7_tick_178 ?_
      refine am_iadd dX7_tick_181 ?_
      refine am_iast (by decide) rfl (hv) dX7_tick_182 ?_
      rw [hc]
      refine am_iload rfl dX7_tick_183 ?_
      refine am_if_eq (tgt := 200) (by decide) dX7_tick_185 (fun h185 => ?_) (fun h185 => ?_)
      · refine am_iinc (v := nI (x + 1)) rfl (nI_inc x) (by decide) dX7_tick_200 ?_
        refine am_goto (tgt := 119) (by decide) dX7_tick_203 ?_
        first
        | (have hs : s = true := (bI_1 s).mp h185
           have e : mo_axs K s x = am_put (am_put K 31 x (K 29 x + sp_gone (K 21 26) (K 21 25 + K 21 27) (K 30 x))) 32 x (K 32 x + (sp_gone (K 21 26) (K 21 25 + K 21 27) (K 30 x) - sp_gone (K 21 26) (K 21 25) (K 30 x))) := if_pos hs
           refine am_M_eq ?_ (KS _)
           rw [e, hc])
        | (have hs : ¬ s = true := fun q => (bI_1 s).mpr q h185
           have e : mo_axs K s x = am_put K 31 x (K 29 x + sp_gone (K 21 26) (K 21 25 + K 21 27) (K 30 x)) := if_neg hs
           exact am_M_eq e.symm (KS _))
      · refine am_aload_n rfl dX7_tick_188 ?_
        refine am_getr (j := 20) (by decide) rfl rfl rfl hTX7 (by decide) fl_X7_51 dX7_tick_189 ?_
        refine am_iload rfl dX7_tick_192 ?_
        refine am_dup2 rfl rfl dX7_tick_194 ?_
        refine am_iald (by decide) rfl (hv) dX7_tick_195 ?_
        rw [hc, e29]
        refine am_iload rfl dX7_tick_196 ?_
        refine am_iadd dX7_tick_198 ?_
        refine am_iast (by decide) rfl (hv) dX7_tick_199 ?_
        refine am_iinc (v := nI (x + 1)) rfl (nI_inc x) (by decide) dX7_tick_200 ?_
        refine am_goto (tgt := 119) (by decide) dX7_tick_203 ?_
        first
        | (have hs : s = true := (bI_1 s).mp h185
           have e : mo_axs K s x = am_put (am_put K 31 x (K 29 x + sp_gone (K 21 26) (K 21 25 + K 21 27) (K 30 x))) 32 x (K 32 x + (sp_gone (K 21 26) (K 21 25 + K 21 27) (K 30 x) - sp_gone (K 21 26) (K 21 25) (K 30 x))) := if_pos hs
           refine am_M_eq ?_ (KS _)
           rw [e, hc])
        | (have hs : ¬ s = true := fun q => (bI_1 s).mpr q h185
           have e : mo_axs K s x = am_put K 31 x (K 29 x + sp_gone (K 21 26) (K 21 25 + K 21 27) (K 30 x)) := if_neg hs
           exact am_M_eq e.symm (KS _))

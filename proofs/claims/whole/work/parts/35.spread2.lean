theorem rm_l1 {x : Nat} (hx : x < 23517) : nI x - nI x / 201 * 201 = nI (x % 201) := by
  rw [show (201 : Int32) = nI 201 from rfl, pk_rem (by omega) (by omega) (by omega)]
theorem rm_l2 {x : Nat} : nI (x % 201) + iN (bf_w x) = iN (bf_l x + bf_w x) := by
  rw [nI_iN, iN_add]
  rfl
theorem rm_T_cong {M N : am_M} (h1 : N 21 = M 21) (h2 : N 22 = M 22) (h3 : N 23 = M 23) : rm_T N = rm_T M := by
  have e1 : mV N = mV M := by unfold mV; rw [h1]
  have e2 : mA N = mA M := by unfold mA; rw [h1]
  have e3 : mJ N = mJ M := by unfold mJ; rw [h1]
  have e4 : m_s N = m_s M := by unfold m_s; rw [h1]
  have e5 : me_E N (m_s N) = me_E M (m_s M) := by
    rw [e4]
    funext w b
    unfold me_E mo_state mo_safe
    rw [h1, h2, h3]
  unfold rm_T
  rw [e1, e2, e3, e5]
theorem rm_cg_cong {M N : am_M} (h1 : N 21 = M 21) (h2 : N 22 = M 22) (h3 : N 23 = M 23) (w b : Int) : rm_cg N w b = rm_cg M w b := by
  have e3 : mJ N = mJ M := by unfold mJ; rw [h1]
  have e4 : m_s N = m_s M := by unfold m_s; rw [h1]
  funext a
  unfold rm_cg me_E mo_state mo_safe
  rw [e3, e4, h1, h2, h3]
set_option maxRecDepth 100000 in
set_option maxHeartbeats 400000 in
theorem lp_X7_sp4 (ad : Nat → Nat) (M : am_M) (hR : mRI M) (P : Option Value → am_M → Prop) (j x d : Nat) (hx : x < 23517) (g1 : ¬ 200 < bf_l x + bf_w x) (g2 : ¬ bf_w x - bf_b x < 0) (g3 : ¬ mV M < bf_w x - bf_b x) (BF : bf_B) (KK : ∀ a8 n8 N, rm_RC N BF → rm_fr M N → am_W ydX7_spread ad am_II P 268 [some (.ref (ad 21)), some (.int (nI BF.2.2)), some (.int (nI j)), some (.int (nI (x % 201))), some (.int (iN (bf_w x))), some (.int (iN (bf_b x))), some (.int (iN (bf_w x - bf_b x))), a8, n8] [] N) : ∀ (n : Nat) (a : Int) (N : am_M) (B : bf_B) (n8 : Option Value), a + n = mA M + 1 → -mA M ≤ a → rm_RC N B → bf_ok B → rm_fr M N → j < B.2.2 → B.2.1 j = x → B.1 x = some d → bf_fold (rm_cg M (bf_w x) (bf_b x)) (fun a => bf_idx (bf_w x - bf_b x) a (bf_l x + bf_w x)) (d + 1) n a B = BF → am_W ydX7_spread ad am_II P 177 [some (.ref (ad 21)), some (.int (nI B.2.2)), some (.int (nI j)), some (.int (nI (x % 201))), some (.int (iN (bf_w x))), some (.int (iN (bf_b x))), some (.int (iN (bf_w x - bf_b x))), some (.int (iN a)), n8] [] N := by
  intro n
  have hq : mV M = (M 21 1).toInt ∧ mA M = (M 21 2).toInt ∧ mJ M = (M 21 3).toInt := ⟨rfl, rfl, rfl⟩
  have hq2 := hR
  unfold mRI at hq2
  have hw := bf_wbl hx
  induction n with
  | zero =>
    intro a N B n8 ha h4 hRC hok hf hj hjx hd he
    have e21 : N 21 = M 21 := hf 21 (by decide) (by decide)
    rw [bf_fold] at he
    subst he
    refine am_iload rfl dX7_spread_177 ?_
    refine am_aload_n rfl dX7_spread_179 ?_
    refine am_geti (j := 2) (by decide) rfl rfl rfl hTX7 (by decide) fl_X7_13 dX7_spread_180 ?_
    rw [e21]
    refine am_icmp_gt (tgt := 268) (by decide) dX7_spread_183 (fun h183 => ?_) (fun h183 => ?_)
    · exact KK _ _ _ hRC hf
    · exfalso; simp only [Int32.lt_iff_toInt_lt, iN_e] at h183; omega
  | succ n ih =>
    intro a N B n8 ha h4 hRC hok hf hj hjx hd he
    have e21 : N 21 = M 21 := hf 21 (by decide) (by decide)
    have hR' : mRI N := hR.cong e21
    have ecg := rm_cg_cong e21 (hf 22 (by decide) (by decide)) (hf 23 (by decide) (by decide)) (bf_w x) (bf_b x)
    have hgo := mo_go_iff hR' (v := bf_w x - bf_b x) (a := a) (b := bf_b x) (s := m_s N) (by omega) (by omega) (by omega) (by omega) (by omega) (by omega)
    have hcg : rm_cg M (bf_w x) (bf_b x) a = true ↔ mo_go N (iN (bf_w x - bf_b x)) (iN a) (iN (bf_b x)) (m_s N) = true := by
      rw [hgo, ← ecg]
      unfold rm_cg
      rw [Bool.and_eq_true, decide_eq_true_eq, show bf_w x - bf_b x + bf_b x = bf_w x by omega]
    have hix := bf_idx_lt (v := bf_w x - bf_b x) (a := a) (l := bf_l x + bf_w x) (by omega) (by omega) (by omega) (by omega) (by omega) (by omega)
    have hsx : sp_node (iN (bf_w x - bf_b x)) (iN a) (iN (bf_l x + bf_w x)) = nI (bf_idx (bf_w x - bf_b x) a (bf_l x + bf_w x)) := sp_node_e (by omega) (by omega) (by omega) (by omega) (by omega) (by omega)
    have hv1 : vp_in (nI (bf_idx (bf_w x - bf_b x) a (bf_l x + bf_w x))) 23517 := vp_in_nI hix.1 (by omega)
    have hv3 : vp_in (nI j) 23517 := vp_in_nI (by have := hok.le; omega) (by omega)
    have hv4 : vp_in (nI x) 23517 := vp_in_nI hx (by omega)
    have hd1 := hok.small hd
    have hle := hok.le
    rw [bf_fold] at he
    have KA : ¬ B.1 (bf_idx (bf_w x - bf_b x) a (bf_l x + bf_w x)) = none → ∀ n8, am_W ydX7_spread ad am_II P 177 [some (.ref (ad 21)), some (.int (nI B.2.2)), some (.int (nI j)), some (.int (nI (x % 201))), some (.int (iN (bf_w x))), some (.int (iN (bf_b x))), some (.int (iN (bf_w x - bf_b x))), some (.int (iN (a + 1))), n8] [] N := by
      intro q n8
      have e : (if rm_cg M (bf_w x) (bf_b x) a = true then bf_push B (bf_idx (bf_w x - bf_b x) a (bf_l x + bf_w x)) (d + 1) else B) = B := by
        split
        · cases z : B.1 (bf_idx (bf_w x - bf_b x) a (bf_l x + bf_w x)) with
          | none => exact absurd z q
          | some d9 => rw [bf_push_some z]
        · rfl
      rw [e] at he
      exact ih (a + 1) N B _ (by omega) (by omega) hRC hok hf hj hjx hd he
    have KB : mo_go N (iN (bf_w x - bf_b x)) (iN a) (iN (bf_b x)) (m_s N) = false → ∀ n8, am_W ydX7_spread ad am_II P 177 [some (.ref (ad 21)), some (.int (nI B.2.2)), some (.int (nI j)), some (.int (nI (x % 201))), some (.int (iN (bf_w x))), some (.int (iN (bf_b x))), some (.int (iN (bf_w x - bf_b x))), some (.int (iN (a + 1))), n8] [] N := by
      intro q n8
      rw [if_neg (fun z => by rw [hcg.mp z] at q; cases q)] at he
      exact ih (a + 1) N B _ (by omega) (by omega) hRC hok hf hj hjx hd he
    have KC : B.1 (bf_idx (bf_w x - bf_b x) a (bf_l x + bf_w x)) = none → mo_go N (iN (bf_w x - bf_b x)) (iN a) (iN (bf_b x)) (m_s N) = true → ∀ n8, am_W ydX7_spread ad am_II P 177 [some (.ref (ad 21)), some (.int (nI (B.2.2 + 1))), some (.int (nI j)), some (.int (nI (x % 201))), some (.int (iN (bf_w x))), some (.int (iN (bf_b x))), some (.int (iN (bf_w x - bf_b x))), some (.int (iN (a + 1))), n8] [] (am_put (am_put N 24 (bf_idx (bf_w x - bf_b x) a (bf_l x + bf_w x)) (nI (d + 1))) 25 B.2.2 (nI (bf_idx (bf_w x - bf_b x) a (bf_l x + bf_w x)))) := by
      intro q1 q2 n8
      rw [if_pos (hcg.mpr q2)] at he
      have h9 := rm_found N B (bf_idx (bf_w x - bf_b x) a (bf_l x + bf_w x)) (d + 1) hRC q1
      have hp := bf_push_c B (bf_idx (bf_w x - bf_b x) a (bf_l x + bf_w x)) (d + 1)
      have h8 := ih (a + 1) _ _ n8 (by omega) (by omega) h9.1 (bf_push_ok hok hix.1 hd1.2) (fun z p1 p2 => (h9.2.1 z p1 p2).trans (hf z p1 p2)) (by omega) ((hp.2.1 j hj).trans hjx) (hp.2.2 x d hd) he
      rw [h9.2.2] at h8
      exact h8
    refine am_iload rfl dX7_spread_177 ?_
    refine am_aload_n rfl dX7_spread_179 ?_
    refine am_geti (j := 2) (by decide) rfl rfl rfl hTX7 (by decide) fl_X7_13 dX7_spread_180 ?_
    rw [e21]
    refine am_icmp_gt (tgt := 268) (by decide) dX7_spread_183 (fun h183 => ?_) (fun h183 => ?_)
    · exfalso; simp only [Int32.lt_iff_toInt_lt, iN_e] at h183; omega
    · refine am_iload rfl dX7_spread_186 ?_
      refine am_iload rfl dX7_spread_188 ?_
      refine am_iload_n rfl dX7_spread_190 ?_
      refine am_iload rfl dX7_spread_191 ?_
      refine am_iadd dX7_spread_193 ?_
      rw [rm_l2]
      refine am_callSi (c_X7_index ad _ _ _ _) okX7_index ml_X7_109 rfl ⟨by decide, by decide⟩ (Nat.le_of_ble_eq_true rfl) rfl dX7_spread_194 ?_
      rw [hsx]
      refine am_istore (by decide) dX7_spread_197 ?_
      refine am_aload_n rfl dX7_spread_199 ?_
      refine am_getr (j := 9) (by decide) rfl rfl rfl hTX7 (by decide) fl_X7_27 dX7_spread_200 ?_
      refine am_iload rfl dX7_spread_203 ?_
      refine am_iald (by decide) rfl (hv1) dX7_spread_205 ?_
      refine am_ldc kw_105 dX7_spread_206 ?_
      rw [nI_clamp (by omega), hRC.1 _ hix.1]
      refine am_icmp_ne (tgt := 262) (by decide) dX7_spread_208 (fun h208 => ?_) (fun h208 => ?_)
      · refine am_iinc (v := iN (a + 1)) rfl (iN_inc a) (by decide) dX7_spread_262 ?_
        refine am_goto (tgt := 177) (by decide) dX7_spread_265 ?_
        first
        | exact KA (fun z => h208 ((rm_enc_none hok _).mpr z)) _
        | exact KB h225 _
        | exact am_M_eq (by rw [nI_clamp (by omega), nI_clamp (by omega)]) (KC hnone h225 _)
      · refine am_aload_n rfl dX7_spread_211 ?_
        refine am_iload rfl dX7_spread_212 ?_
        refine am_iload rfl dX7_spread_214 ?_
        refine am_iload rfl dX7_spread_216 ?_
        refine am_aload_n rfl dX7_spread_218 ?_
        refine am_geti (j := 8) (by decide) rfl rfl rfl hTX7 (by decide) fl_X7_90 dX7_spread_219 ?_
        rw [hR'.s]
        refine am_callVi (c_X7_mayGo ad N _ _ _ (m_s N) hR'.2.1) okX7_mayGo ml_X7_113 (by decide) rfl rfl rfl ⟨by decide, by decide⟩ (Nat.le_of_ble_eq_true rfl) rfl dX7_spread_222 ?_
        refine am_ifb_ne (tgt := 231) (by decide) dX7_spread_225 (fun h225 => ?_) (fun h225 => ?_)
        · have hnone : B.1 (bf_idx (bf_w x - bf_b x) a (bf_l x + bf_w x)) = none := (rm_enc_none hok _).mp h208
          have hc := hok.lt hix.1 hnone
          have hv5 : vp_in (nI B.2.2) 23517 := vp_in_nI hc (by omega)
          refine am_aload_n rfl dX7_spread_231 ?_
          refine am_getr (j := 9) (by decide) rfl rfl rfl hTX7 (by decide) fl_X7_27 dX7_spread_232 ?_
          refine am_iload rfl dX7_spread_235 ?_
          refine am_aload_n rfl dX7_spread_237 ?_
          refine am_getr (j := 9) (by decide) rfl rfl rfl hTX7 (by decide) fl_X7_27 dX7_spread_238 ?_
          refine am_aload_n rfl dX7_spread_241 ?_
          refine am_getr (j := 10) (by decide) rfl rfl rfl hTX7 (by decide) fl_X7_30 dX7_spread_242 ?_
          refine am_iload_n rfl dX7_spread_245 ?_
          refine am_iald (by decide) rfl (hv3) dX7_spread_246 ?_
          rw [nI_clamp (by omega), hRC.2 j hj, hjx]
          refine am_iald (by decide) rfl (hv4) dX7_spread_247 ?_
          rw [nI_clamp (by omega), hRC.1 x hx, hd]
          refine am_iconst (v := 1) (by decide) dX7_spread_248 ?_
          refine am_iadd dX7_spread_249 ?_
          rw [show rm_enc (some d) + 1 = nI (d + 1) from nI_1 d]
          refine am_iast (by decide) rfl (hv1) dX7_spread_250 ?_
          refine am_aload_n rfl dX7_spread_251 ?_
          refine am_getr (j := 10) (by decide) rfl rfl rfl hTX7 (by decide) fl_X7_30 dX7_spread_252 ?_
          refine am_iload_n rfl dX7_spread_255 ?_
          refine am_iload rfl dX7_spread_256 ?_
          refine am_iast (by decide) rfl (hv5) dX7_spread_258 ?_
          refine am_iinc (v := nI (B.2.2 + 1)) rfl (nI_inc _) (by decide) dX7_spread_259 ?_
          refine am_iinc (v := iN (a + 1)) rfl (iN_inc a) (by decide) dX7_spread_262 ?_
          refine am_goto (tgt := 177) (by decide) dX7_spread_265 ?_
          first
          | exact KA (fun z => h208 ((rm_enc_none hok _).mpr z)) _
          | exact KB h225 _
          | exact am_M_eq (by rw [nI_clamp (by omega), nI_clamp (by omega)]) (KC hnone h225 _)
        · refine am_goto (tgt := 262) (by decide) dX7_spread_228 ?_
          refine am_iinc (v := iN (a + 1)) rfl (iN_inc a) (by decide) dX7_spread_262 ?_
          refine am_goto (tgt := 177) (by decide) dX7_spread_265 ?_
          first
          | exact KA (fun z => h208 ((rm_enc_none hok _).mpr z)) _
          | exact KB h225 _
          | exact am_M_eq (by rw [nI_clamp (by omega), nI_clamp (by omega)]) (KC hnone h225 _)
set_option maxRecDepth 100000 in
set_option maxHeartbeats 400000 in
theorem lp_X7_sp3 (ad : Nat → Nat) (M : am_M) (hR : mRI M) : ∀ (z j : Nat) (N : am_M) (n3 n4 n5 n6 n7 n8 : Option Value), 23517 - j < z → j ≤ (rm_T M j).2.2 → rm_RC N (rm_T M j) → rm_fr M N → am_W ydX7_spread ad am_II (fun r N => r = none ∧ rm_fr M N ∧ ∃ j, j = (rm_T M j).2.2 ∧ rm_RC N (rm_T M j)) 88 [some (.ref (ad 21)), some (.int (nI (rm_T M j).2.2)), some (.int (nI j)), n3, n4, n5, n6, n7, n8] [] N := by
  intro z
  induction z with
  | zero => intro j N n3 n4 n5 n6 n7 n8 hz; omega
  | succ z ih =>
    intro j N n3 n4 n5 n6 n7 n8 hz hj hRC hf
    have hok : bf_ok (rm_T M j) := bf_T_ok hR.V.1 hR.V.2 j
    have hle := hok.le
    have e21 : N 21 = M 21 := hf 21 (by decide) (by decide)
    have hq : mV M = (M 21 1).toInt ∧ mA M = (M 21 2).toInt ∧ mJ M = (M 21 3).toInt := ⟨rfl, rfl, rfl⟩
    have hq2 := hR
    unfold mRI at hq2
    by_cases hlt : j < (rm_T M j).2.2
    · obtain ⟨hx, d, hd, -⟩ := hok.1 j hlt
      generalize hxe : (rm_T M j).2.1 j = x at *
      have hw := bf_wbl hx
      have hv3 : vp_in (nI j) 23517 := vp_in_nI (by omega) (by omega)
      have hnew : rm_T M (j + 1) = bf_proc (mV M) (mA M) (mJ M) (me_E M (m_s M)) (rm_T M j) x := by
        rw [← hxe]
        unfold rm_T
        rw [bf_T]
        exact if_pos hlt
      have hpo := bf_proc_ok (V := mV M) (A := mA M) (J := mJ M) (E := me_E M (m_s M)) hR.V.1 hR.V.2 hok hx hd
      rw [← hnew] at hpo
      have KS : bf_stop (mV M) (me_E M (m_s M)) x → ∀ n3 n4 n5 n6 n7 n8, am_W ydX7_spread ad am_II (fun r N => r = none ∧ rm_fr M N ∧ ∃ j, j = (rm_T M j).2.2 ∧ rm_RC N (rm_T M j)) 88 [some (.ref (ad 21)), some (.int (nI (rm_T M j).2.2)), some (.int (nI (j + 1))), n3, n4, n5, n6, n7, n8] [] N := by
        intro q n3 n4 n5 n6 n7 n8
        have e : rm_T M (j + 1) = rm_T M j := by (rw [hnew]; unfold bf_proc; rw [if_pos q])
        have h8 := ih (j + 1) N n3 n4 n5 n6 n7 n8 (by omega) (by rw [e]; omega) (by rw [e]; exact hRC) hf
        rw [e] at h8
        exact h8
      have am_g1 : 200 < iN (bf_l x + bf_w x) → 200 < bf_l x + bf_w x := fun q => by
        simp only [Int32.lt_iff_toInt_lt, iN_e, kI_200] at q
        omega
      have am_g2 : iN (bf_w x - bf_b x) < 0 → bf_w x - bf_b x < 0 := fun q => by
        simp only [Int32.lt_iff_toInt_lt, iN_e, Int32.toInt_zero] at q
        omega
      have am_g3 : ¬ iN (bf_w x - bf_b x) ≤ M 21 1 → mV M < bf_w x - bf_b x := fun q => by
        simp only [Int32.le_iff_toInt_le, iN_e] at q
        omega
      refine am_iload_n rfl dX7_spread_88 ?_
      refine am_iload_n rfl dX7_spread_89 ?_
      refine am_icmp_ge (tgt := 274) (by decide) dX7_spread_90 (fun h => (by exfalso; simp only [Int32.le_iff_toInt_le, nI_e] at h; omega)) (fun h => ?_)
      refine am_aload_n rfl dX7_spread_93 ?_
      refine am_getr (j := 10) (by decide) rfl rfl rfl hTX7 (by decide) fl_X7_30 dX7_spread_94 ?_
      refine am_iload_n rfl dX7_spread_97 ?_
      refine am_iald (by decide) rfl (hv3) dX7_spread_98 ?_
      rw [nI_clamp (by omega), hRC.2 j hlt, hxe]
      refine am_sipush (v := 201) (by decide) dX7_spread_99 ?_
      refine am_irem (by decide) dX7_spread_102 ?_
      rw [rm_l1 hx]
      refine am_istore_n (by decide) dX7_spread_103 ?_
      refine am_aload_n rfl dX7_spread_104 ?_
      refine am_getr (j := 10) (by decide) rfl rfl rfl hTX7 (by decide) fl_X7_30 dX7_spread_105 ?_
      refine am_iload_n rfl dX7_spread_108 ?_
      refine am_iald (by decide) rfl (hv3) dX7_spread_109 ?_
      rw [nI_clamp (by omega), hRC.2 j hlt, hxe]
      refine am_sipush (v := 201) (by decide) dX7_spread_110 ?_
      refine am_idiv (by decide) dX7_spread_113 ?_
      refine am_bipush (v := 9) (by decide) dX7_spread_114 ?_
      refine am_idiv (by decide) dX7_spread_116 ?_
      rw [rp_w hx]
      refine am_istore (by decide) dX7_spread_117 ?_
      refine am_aload_n rfl dX7_spread_119 ?_
      refine am_getr (j := 10) (by decide) rfl rfl rfl hTX7 (by decide) fl_X7_30 dX7_spread_120 ?_
      refine am_iload_n rfl dX7_spread_123 ?_
      refine am_iald (by decide) rfl (hv3) dX7_spread_124 ?_
      rw [nI_clamp (by omega), hRC.2 j hlt, hxe]
      refine am_sipush (v := 201) (by decide) dX7_spread_125 ?_
      refine am_idiv (by decide) dX7_spread_128 ?_
      refine am_bipush (v := 9) (by decide) dX7_spread_129 ?_
      refine am_irem (by decide) dX7_spread_131 ?_
      refine am_iconst (v := 4) (by decide) dX7_spread_132 ?_
      refine am_isub dX7_spread_133 ?_
      rw [rp_b hx]
      refine am_istore (by decide) dX7_spread_134 ?_
      refine am_iload rfl dX7_spread_136 ?_
      refine am_iload rfl dX7_spread_138 ?_
      refine am_isub dX7_spread_140 ?_
      rw [iN_sub]
      refine am_istore (by decide) dX7_spread_141 ?_
      refine am_iload_n rfl dX7_spread_143 ?_
      refine am_iload rfl dX7_spread_144 ?_
      refine am_iadd dX7_spread_146 ?_
      rw [rm_l2]
      refine am_sipush (v := 200) (by decide) dX7_spread_147 ?_
      refine am_icmp_gt (tgt := 268) (by decide) dX7_spread_150 (fun h150 => ?_) (fun h150 => ?_)
      · refine am_iinc (v := nI (j + 1)) rfl (nI_inc j) (by decide) dX7_spread_268 ?_
        refine am_goto (tgt := 88) (by decide) dX7_spread_271 ?_
        first
        | exact KS (Or.inl (am_g1 h150)) _ _ _ _ _ _
        | exact KS (Or.inr (Or.inl (am_g2 h155))) _ _ _ _ _ _
        | exact KS (Or.inr (Or.inr (Or.inl (am_g3 h164)))) _ _ _ _ _ _
      · refine am_iload rfl dX7_spread_153 ?_
        refine am_if_lt (tgt := 268) (by decide) dX7_spread_155 (fun h155 => ?_) (fun h155 => ?_)
        · refine am_iinc (v := nI (j + 1)) rfl (nI_inc j) (by decide) dX7_spread_268 ?_
          refine am_goto (tgt := 88) (by decide) dX7_spread_271 ?_
          first
          | exact KS (Or.inl (am_g1 h150)) _ _ _ _ _ _
          | exact KS (Or.inr (Or.inl (am_g2 h155))) _ _ _ _ _ _
          | exact KS (Or.inr (Or.inr (Or.inl (am_g3 h164)))) _ _ _ _ _ _
        · refine am_iload rfl dX7_spread_158 ?_
          refine am_aload_n rfl dX7_spread_160 ?_
          refine am_geti (j := 1) (by decide) rfl rfl rfl hTX7 (by decide) fl_X7_7 dX7_spread_161 ?_
          rw [e21]
          refine am_icmp_le (tgt := 170) (by decide) dX7_spread_164 (fun h164 => ?_) (fun h164 => ?_)
          · refine am_aload_n rfl dX7_spread_170 ?_
            refine am_geti (j := 2) (by decide) rfl rfl rfl hTX7 (by decide) fl_X7_13 dX7_spread_171 ?_
            refine am_ineg dX7_spread_174 ?_
            rw [e21, show -M 21 2 = iN (-mA M) from by (apply i_inj; rw [iN_e, i_neg]; omega)]
            refine am_istore (by decide) dX7_spread_175 ?_
            have g1 : ¬ 200 < bf_l x + bf_w x := by (simp only [Int32.lt_iff_toInt_lt, iN_e, kI_200] at h150; omega)
            have g2 : ¬ bf_w x - bf_b x < 0 := by (simp only [Int32.lt_iff_toInt_lt, iN_e, Int32.toInt_zero] at h155; omega)
            have g3 : ¬ mV M < bf_w x - bf_b x := by (simp only [Int32.le_iff_toInt_le, iN_e] at h164; omega)
            refine lp_X7_sp4 ad M hR _ j x d hx g1 g2 g3 (rm_T M (j + 1)) (fun a8 n8 N2 k1 k2 => ?_) (mA M - (-mA M) + 1).toNat (-mA M) N (rm_T M j) _ (by omega) (by omega) hRC hok hf hlt hxe hd (by rw [hnew]; exact rm_proc_e hR hx hd g1 g2 g3)
            refine am_iinc (v := nI (j + 1)) rfl (nI_inc j) (by decide) dX7_spread_268 ?_
            refine am_goto (tgt := 88) (by decide) dX7_spread_271 ?_
            exact ih (j + 1) N2 _ _ _ _ _ _ (by omega) (by have := hpo.2.1; omega) k1 k2
          · refine am_goto (tgt := 268) (by decide) dX7_spread_167 ?_
            refine am_iinc (v := nI (j + 1)) rfl (nI_inc j) (by decide) dX7_spread_268 ?_
            refine am_goto (tgt := 88) (by decide) dX7_spread_271 ?_
            first
            | exact KS (Or.inl (am_g1 h150)) _ _ _ _ _ _
            | exact KS (Or.inr (Or.inl (am_g2 h155))) _ _ _ _ _ _
            | exact KS (Or.inr (Or.inr (Or.inl (am_g3 h164)))) _ _ _ _ _ _
    · have hend : j = (rm_T M j).2.2 := by omega
      refine am_iload_n rfl dX7_spread_88 ?_
      refine am_iload_n rfl dX7_spread_89 ?_
      refine am_icmp_ge (tgt := 274) (by decide) dX7_spread_90 (fun h => ?_) (fun h => (by exfalso; simp only [Int32.le_iff_toInt_le, nI_e] at h; omega))
      refine am_vret rfl dX7_spread_274 ?_
      exact ⟨rfl, hf, j, hend, hRC⟩
set_option maxRecDepth 100000 in
set_option maxHeartbeats 400000 in
theorem c_X7_spread (ad : Nat → Nat) (M : am_M)  (hR : mRI M) : am_C ydX7_spread ad am_II [.ref (ad 21)] M (fun r N => r = none ∧ rm_fr M N ∧ ∃ j, j = (rm_T M j).2.2 ∧ rm_RC N (rm_T M j)) := by
  refine am_ofW (L := [some (.ref (ad 21)), none, none, none, none, none, none, none, none]) (by decide +kernel) (by simp [Value.category]) (Nat.le_of_ble_eq_true rfl) rfl ?_
  refine am_iconst (v := 0) (by decide) dX7_spread_0 ?_
  refine am_istore_n (by decide) dX7_spread_1 ?_
  refine am_M_eq (M' := am_row M 24 (fun q => if q < 0 then 1000000 else M 24 q)) ?_ (lp_X7_sp1 ad M _ (fun x => ?_) 23518 0 (by omega) (by omega))
  · funext a
    unfold am_row
    by_cases h : a = 24 <;> simp [h]
  refine am_iconst (v := 0) (by decide) dX7_spread_25 ?_
  refine am_istore_n (by decide) dX7_spread_26 ?_
  refine am_aload_n rfl dX7_spread_27 ?_
  refine am_geti (j := 2) (by decide) rfl rfl rfl hTX7 (by decide) fl_X7_13 dX7_spread_28 ?_
  refine am_ineg dX7_spread_31 ?_
  refine am_istore_n (by decide) dX7_spread_32 ?_
  have hq : mA M = (M 21 2).toInt := rfl
  have hq2 := hR
  unfold mRI at hq2
  have e21 : am_row M 24 (fun q => if q < 23517 then 1000000 else M 24 q) 21 = M 21 := am_row_ne _ _ _ (by decide)
  rw [e21, show -M 21 2 = iN (-mA M) from by (apply i_inj; rw [iN_e, i_neg]; omega)]
  refine lp_X7_sp2 ad M hR _ (fun x N k1 k2 => ?_) (mA M - (-mA M) + 1).toNat (-mA M) _ bf_0 (by omega) (by omega) ⟨fun x hx => ?_, fun i hi => absurd hi (Nat.not_lt_zero _)⟩ bf_ok_0 (fun a h1 h2 => am_row_ne _ _ _ h1) (fun x e hx => by cases hx) (rm_init_e hR)
  · refine am_iconst (v := 0) (by decide) dX7_spread_86 ?_
    refine am_istore_n (by decide) dX7_spread_87 ?_
    exact lp_X7_sp3 ad M hR 23518 0 N _ _ _ _ _ _ (by omega) (Nat.zero_le _) k1 k2
  · rw [am_row_at, if_pos hx]
    rfl

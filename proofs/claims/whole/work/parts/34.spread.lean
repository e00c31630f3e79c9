def mRI (M : am_M) : Prop := 1 ≤ (M 21 1).toInt ∧ (M 21 1).toInt ≤ 12 ∧ 1 ≤ (M 21 2).toInt ∧ (M 21 2).toInt ≤ 4 ∧ 1 ≤ (M 21 3).toInt ∧ (M 21 3).toInt ≤ 4 ∧ (M 21 8 = 0 ∨ M 21 8 = 1)
def mV (M : am_M) : Int := (M 21 1).toInt
def mA (M : am_M) : Int := (M 21 2).toInt
def mJ (M : am_M) : Int := (M 21 3).toInt
def m_s (M : am_M) : Bool := decide (¬ M 21 8 = 0)
theorem mRI.s {M : am_M} (h : mRI M) : M 21 8 = bI (m_s M) := by
  obtain ⟨-, -, -, -, -, -, h | h⟩ := h <;> simp [m_s, h, bI]
def me_E (M : am_M) (s : Bool) : Int → Int → Bool := fun w b => decide (mo_state M (iN w) (iN b) = true ∧ ¬ (iN b = 0 ∧ 0 < iN w ∧ ¬ M 22 (iN w).toNatClampNeg = 0) ∧ (s = false ∨ mo_safe M (iN w) (iN b) = true))
theorem mo_state_iff {M : am_M} (hR : mRI M) {v a : Int} (h1 : -1000 ≤ v) (h2 : v ≤ 1000) (h3 : -1000 ≤ a) (h4 : a ≤ 1000) : mo_state M (iN v) (iN a) = true ↔ (0 ≤ v ∧ v ≤ mV M) ∧ -mA M ≤ a ∧ a ≤ mA M := by
  obtain ⟨q1, q2, q3, q4, -⟩ := hR
  simp only [mo_state, sp_in, mV, mA, Bool.and_eq_true, decide_eq_true_eq, Int32.le_iff_toInt_le, Int32.toInt_zero, iN_e, i_neg]
  omega
theorem iabs_le {x : Int} {K : Int32} (h1 : -1000 ≤ x) (h2 : x ≤ 1000) (hK : 0 ≤ K.toInt) : iabs (iN x) ≤ K ↔ -K.toInt ≤ x ∧ x ≤ K.toInt := by
  unfold iabs
  split
  · rename_i h
    simp only [Int32.le_iff_toInt_le, Int32.toInt_zero, iN_e] at h ⊢
    omega
  · rename_i h
    simp only [Int32.le_iff_toInt_le, Int32.toInt_zero, iN_e, i_sub] at h ⊢
    omega
theorem mo_go_iff {M : am_M} (hR : mRI M) {v a b : Int} {s : Bool} (h1 : -100 ≤ v) (h2 : v ≤ 100) (h3 : -100 ≤ a) (h4 : a ≤ 100) (h5 : -100 ≤ b) (h6 : b ≤ 100) : mo_go M (iN v) (iN a) (iN b) s = true ↔ (b - mJ M ≤ a ∧ a ≤ b + mJ M) ∧ me_E M s (v + b) b = true := by
  obtain ⟨q1, q2, q3, q4, q5, q6, -⟩ := hR
  have e := iabs_le (x := b - a) (K := M 21 3) (by omega) (by omega) (by omega)
  unfold mo_go me_E
  rw [iN_add, iN_sub, decide_eq_true_eq, decide_eq_true_eq, e]
  unfold mJ
  constructor
  · rintro ⟨g1, g2, g3⟩
    exact ⟨⟨by omega, by omega⟩, g1, g3⟩
  · rintro ⟨g2, g1, g3⟩
    exact ⟨g1, ⟨by omega, by omega⟩, g3⟩
theorem mo_rest_iff {M : am_M} (hR : mRI M) {a : Int} (h3 : -100 ≤ a) (h4 : a ≤ 100) : mo_rest M 0 (iN a) = true ↔ -mJ M ≤ a ∧ a ≤ mJ M := by
  obtain ⟨q1, q2, q3, q4, q5, q6, -⟩ := hR
  have e := iabs_le (x := a) (K := M 21 3) (by omega) (by omega) (by omega)
  unfold mo_rest mJ
  rw [decide_eq_true_eq, e]
  exact ⟨fun h => h.2, fun h => ⟨rfl, h⟩⟩
def rm_enc (o : Option Nat) : Int32 := match o with
  | none => 1000000
  | some d => nI d
def rm_RC (N : am_M) (B : bf_B) : Prop := (∀ x, x < 23517 → N 24 x = rm_enc (B.1 x)) ∧ ∀ i, i < B.2.2 → N 25 i = nI (B.2.1 i)
def rm_fr (M N : am_M) : Prop := ∀ a, a ≠ 24 → a ≠ 25 → N a = M a
theorem rm_enc_none {B : bf_B} (h : bf_ok B) (x : Nat) : rm_enc (B.1 x) = 1000000 ↔ B.1 x = none := by
  cases e : B.1 x with
  | none => exact ⟨fun _ => rfl, fun _ => rfl⟩
  | some d =>
    have hd := h.small e
    refine ⟨fun e => ?_, fun e => by cases e⟩
    exfalso
    have e1 : (nI d).toInt = (1000000 : Int32).toInt := by rw [show nI d = 1000000 from e]
    simp only [nI_e, kI_1000000] at e1
    omega
theorem rm_found (M : am_M) (B : bf_B) (x d : Nat) (hRC : rm_RC M B) (hn : B.1 x = none) : rm_RC (am_put (am_put M 24 x (nI d)) 25 B.2.2 (nI x)) (bf_push B x d) ∧ rm_fr M (am_put (am_put M 24 x (nI d)) 25 B.2.2 (nI x)) ∧ (bf_push B x d).2.2 = B.2.2 + 1 := by
  rw [bf_push_none hn]
  refine ⟨⟨fun y hy => ?_, fun i hi => ?_⟩, fun a h1 h2 => ?_, rfl⟩
  · by_cases q : y = x
    · subst q
      simp [am_rd, rm_enc]
    · simp [am_rd, q, hRC.1 y hy]
  · dsimp only at hi ⊢
    by_cases q : i = B.2.2
    · subst q
      simp [am_rd]
    · simp [am_rd, q, hRC.2 i (by omega)]
  · rw [am_put_ne _ _ _ _ h2, am_put_ne _ _ _ _ h1]
noncomputable def rm_T (M : am_M) : Nat → bf_B := bf_T (mV M) (mA M) (mJ M) (me_E M (m_s M))
theorem mRI.V {M : am_M} (h : mRI M) : mV M ≤ 12 ∧ mA M ≤ 4 := ⟨h.2.1, h.2.2.2.1⟩
theorem mRI.cong {M N : am_M} (h : mRI M) (h1 : N 21 = M 21) : mRI N := by unfold mRI; rw [h1]; exact h
def rm_cr (M : am_M) : Int → Bool := fun a => decide (-mJ M ≤ a ∧ a ≤ mJ M)
theorem rm_init_e {M : am_M} (hR : mRI M) : bf_fold (rm_cr M) (fun a => bf_idx 0 a 0) 0 (mA M - (-mA M) + 1).toNat (-mA M) bf_0 = bf_init (mA M) (mJ M) := by
  obtain ⟨q1, q2, q3, q4, q5, q6, -⟩ := hR
  have h1 : mA M = (M 21 2).toInt := rfl
  have h2 : mJ M = (M 21 3).toInt := rfl
  have e := bf_fold_in (c := fun a => decide ((-mA M ≤ a ∧ a ≤ mA M) ∧ -mJ M ≤ a ∧ a ≤ mJ M)) (fun a => bf_idx 0 a 0) 0 (bf_lo (mA M) (mJ M) 0) (bf_hi (mA M) (mJ M) 0) (-mA M) (mA M) bf_0 (by unfold bf_lo; omega) (by unfold bf_hi; omega) (by unfold bf_lo bf_hi; omega) (fun q => by unfold bf_lo bf_hi; rw [decide_eq_true_eq]; omega)
  rw [bf_fold_cong (c := rm_cr M) (c' := fun a => decide ((-mA M ≤ a ∧ a ≤ mA M) ∧ -mJ M ≤ a ∧ a ≤ mJ M)) _ _ _ _ _ (fun a p1 p2 => by unfold rm_cr; congr 1; apply propext; omega)]
  exact e
def rm_cg (M : am_M) (w b : Int) : Int → Bool := fun a => decide (b - mJ M ≤ a ∧ a ≤ b + mJ M) && me_E M (m_s M) w b
theorem rm_proc_e {M : am_M} (hR : mRI M) {B : bf_B} {x d : Nat} (hx : x < 23517) (hd : B.1 x = some d) (h1 : ¬ 200 < bf_l x + bf_w x) (h2 : ¬ bf_w x - bf_b x < 0) (h3 : ¬ mV M < bf_w x - bf_b x) : bf_fold (rm_cg M (bf_w x) (bf_b x)) (fun a => bf_idx (bf_w x - bf_b x) a (bf_l x + bf_w x)) (d + 1) (mA M - (-mA M) + 1).toNat (-mA M) B = bf_proc (mV M) (mA M) (mJ M) (me_E M (m_s M)) B x := by
  have hw := bf_wbl hx
  unfold bf_proc
  by_cases q : me_E M (m_s M) (bf_w x) (bf_b x) = true
  · have hns : ¬ bf_stop (mV M) (me_E M (m_s M)) x := by
      rintro (z | z | z | z)
      · exact h1 z
      · exact h2 z
      · exact h3 z
      · rw [z] at q; cases q
    rw [if_neg hns, hd]
    have hst := (mo_state_iff hR (v := bf_w x) (a := bf_b x) (by omega) (by omega) (by omega) (by omega)).mp (by unfold me_E at q; rw [decide_eq_true_eq] at q; exact q.1)
    obtain ⟨q1, q2, q3, q4, q5, q6, -⟩ := hR
    have g1 : mA M = (M 21 2).toInt := rfl
    have g2 : mJ M = (M 21 3).toInt := rfl
    have e := bf_fold_in (c := fun a => decide ((-mA M ≤ a ∧ a ≤ mA M) ∧ bf_b x - mJ M ≤ a ∧ a ≤ bf_b x + mJ M)) (fun a => bf_idx (bf_w x - bf_b x) a (bf_l x + bf_w x)) (d + 1) (bf_lo (mA M) (mJ M) (bf_b x)) (bf_hi (mA M) (mJ M) (bf_b x)) (-mA M) (mA M) B (by unfold bf_lo; omega) (by unfold bf_hi; omega) (by unfold bf_lo bf_hi; omega) (fun q => by unfold bf_lo bf_hi; rw [decide_eq_true_eq]; omega)
    rw [bf_fold_cong (c := rm_cg M (bf_w x) (bf_b x)) (c' := fun a => decide ((-mA M ≤ a ∧ a ≤ mA M) ∧ bf_b x - mJ M ≤ a ∧ a ≤ bf_b x + mJ M)) _ _ _ _ _ (fun a p1 p2 => by unfold rm_cg; rw [q, Bool.and_true]; congr 1; apply propext; omega)]
    exact e
  · have hs : bf_stop (mV M) (me_E M (m_s M)) x := Or.inr (Or.inr (Or.inr (by cases z : me_E M (m_s M) (bf_w x) (bf_b x) with | false => rfl | true => exact absurd z q)))
    rw [if_pos hs]
    exact bf_fold_no _ _ _ _ _ (fun a p1 p2 => by unfold rm_cg; cases z : me_E M (m_s M) (bf_w x) (bf_b x) with | false => rw [Bool.and_false] | true => exact absurd z q)
set_option maxRecDepth 100000 in
set_option maxHeartbeats 400000 in
theorem lp_X7_sp1 (ad : Nat → Nat) (M : am_M) (P : Option Value → am_M → Prop) (KK : ∀ x, am_W ydX7_spread ad am_II P 25 [some (.ref (ad 21)), x, none, none, none, none, none, none, none] [] (am_row M 24 (fun q => if q < 23517 then 1000000 else M 24 q))) : ∀ (n j : Nat), j ≤ 23517 → 23517 - j < n → am_W ydX7_spread ad am_II P 2 [some (.ref (ad 21)), some (.int (nI j)), none, none, none, none, none, none, none] [] (am_row M 24 (fun q => if q < j then 1000000 else M 24 q)) := by
  intro n
  induction n with
  | zero => intro j _ h; omega
  | succ n ih =>
    intro j hj hn
    refine am_iload_n rfl dX7_spread_2 ?_
    refine am_aload_n rfl dX7_spread_3 ?_
    refine am_getr (j := 9) (by decide) rfl rfl rfl hTX7 (by decide) fl_X7_27 dX7_spread_4 ?_
    refine am_alen (v := nI 23517) (by decide) rfl (rfl) dX7_spread_7 ?_
    refine am_icmp_ge (tgt := 25) (by decide) dX7_spread_8 (fun h8 => ?_) (fun h8 => ?_)
    · obtain rfl : j = 23517 := (by simp only [nI_e, Int32.le_iff_toInt_le] at h8; omega)
      exact KK _
    · refine am_aload_n rfl dX7_spread_11 ?_
      refine am_getr (j := 9) (by decide) rfl rfl rfl hTX7 (by decide) fl_X7_27 dX7_spread_12 ?_
      refine am_iload_n rfl dX7_spread_15 ?_
      refine am_ldc kw_105 dX7_spread_16 ?_
      refine am_iast (by decide) rfl (vp_in_nI (by simp only [nI_e, Int32.le_iff_toInt_le] at h8; omega) (by omega)) dX7_spread_18 ?_
      refine am_iinc (v := nI (j + 1)) rfl (nI_inc j) (by decide) dX7_spread_19 ?_
      refine am_goto (tgt := 2) (by decide) dX7_spread_22 ?_
      refine am_M_eq ?_ (ih (j + 1) (by simp only [nI_e, Int32.le_iff_toInt_le] at h8; omega) (by simp only [nI_e, Int32.le_iff_toInt_le] at h8; omega))
      rw [am_put_row, nI_clamp (by omega)]
      congr 1
      funext q
      unfold upd
      by_cases h : q = j
      · subst h
        simp
      · rw [if_neg h]
        dsimp only
        by_cases h2 : q < j
        · rw [if_pos h2, if_pos (by omega)]
        · rw [if_neg h2, if_neg (by omega)]
set_option maxRecDepth 100000 in
set_option maxHeartbeats 400000 in
theorem lp_X7_sp2 (ad : Nat → Nat) (M : am_M) (hR : mRI M) (P : Option Value → am_M → Prop) (KK : ∀ x N, rm_RC N (bf_init (mA M) (mJ M)) → rm_fr M N → am_W ydX7_spread ad am_II P 86 [some (.ref (ad 21)), some (.int (nI (bf_init (mA M) (mJ M)).2.2)), x, none, none, none, none, none, none] [] N) : ∀ (n : Nat) (a : Int) (N : am_M) (B : bf_B), a + n = mA M + 1 → -mA M ≤ a → rm_RC N B → bf_ok B → rm_fr M N → (∀ x e, B.1 x = some e → ∃ a', -4 ≤ a' ∧ a' < a ∧ x = bf_idx 0 a' 0) → bf_fold (rm_cr M) (fun a => bf_idx 0 a 0) 0 n a B = bf_init (mA M) (mJ M) → am_W ydX7_spread ad am_II P 33 [some (.ref (ad 21)), some (.int (nI B.2.2)), some (.int (iN a)), none, none, none, none, none, none] [] N := by
  intro n
  have hq : mA M = (M 21 2).toInt ∧ mJ M = (M 21 3).toInt := ⟨rfl, rfl⟩
  have hq2 := hR
  unfold mRI at hq2
  induction n with
  | zero =>
    intro a N B ha h4 hRC hok hf hi he
    have e21 : N 21 = M 21 := hf 21 (by decide) (by decide)
    rw [bf_fold] at he
    subst he
    refine am_iload_n rfl dX7_spread_33 ?_
    refine am_aload_n rfl dX7_spread_34 ?_
    refine am_geti (j := 2) (by decide) rfl rfl rfl hTX7 (by decide) fl_X7_13 dX7_spread_35 ?_
    rw [e21]
    refine am_icmp_gt (tgt := 86) (by decide) dX7_spread_38 (fun h38 => ?_) (fun h38 => ?_)
    · exact KK _ _ hRC hf
    · exfalso; simp only [Int32.lt_iff_toInt_lt, iN_e] at h38; omega
  | succ n ih =>
    intro a N B ha h4 hRC hok hf hi he
    have e21 : N 21 = M 21 := hf 21 (by decide) (by decide)
    have hR' : mRI N := hR.cong e21
    have er := mo_rest_iff hR' (a := a) (by omega) (by omega)
    have eJ : mJ N = mJ M := by unfold mJ; rw [e21]
    rw [eJ] at er
    have hix := bf_idx_lt (v := 0) (a := a) (l := 0) (by omega) (by omega) (by omega) (by omega) (by omega) (by omega)
    have hnone : B.1 (bf_idx 0 a 0) = none := by
      cases e : B.1 (bf_idx 0 a 0) with
      | none => rfl
      | some d =>
        obtain ⟨a', p1, p2, p3⟩ := hi _ _ e
        have h9 := bf_idx_lt (v := 0) (a := a') (l := 0) (by omega) (by omega) (by omega) (by omega) (by omega) (by omega)
        omega
    have hc := hok.lt hix.1 hnone
    have h9 := rm_found N B (bf_idx 0 a 0) 0 hRC hnone
    have hv1 : vp_in (nI (bf_idx 0 a 0)) 23517 := vp_in_nI hix.1 (by omega)
    have hv2 : vp_in (nI B.2.2) 23517 := vp_in_nI hc (by omega)
    have hsx : sp_node 0 (iN a) 0 = nI (bf_idx 0 a 0) := sp_node_e (v := 0) (l := 0) (by omega) (by omega) (by omega) (by omega) (by omega) (by omega)
    rw [bf_fold] at he
    have KB : mo_rest N 0 (iN a) = false → am_W ydX7_spread ad am_II P 33 [some (.ref (ad 21)), some (.int (nI B.2.2)), some (.int (iN (a + 1))), none, none, none, none, none, none] [] N := by
      intro q
      rw [if_neg (by unfold rm_cr; rw [decide_eq_true_eq]; exact fun z => by rw [er.mpr z] at q; cases q)] at he
      exact ih (a + 1) N B (by omega) (by omega) hRC hok hf (fun x e hx => by obtain ⟨a', p1, p2, p3⟩ := hi x e hx; exact ⟨a', p1, by omega, p3⟩) he
    have KA : mo_rest N 0 (iN a) = true → am_W ydX7_spread ad am_II P 33 [some (.ref (ad 21)), some (.int (nI (B.2.2 + 1))), some (.int (iN (a + 1))), none, none, none, none, none, none] [] (am_put (am_put N 24 (nI (bf_idx 0 a 0)).toNatClampNeg 0) 25 (nI B.2.2).toNatClampNeg (nI (bf_idx 0 a 0))) := by
      intro q
      rw [if_pos (by unfold rm_cr; rw [decide_eq_true_eq]; exact er.mp q)] at he
      rw [nI_clamp (by omega), nI_clamp (by omega)]
      have h8 := ih (a + 1) _ _ (by omega) (by omega) h9.1 (bf_push_ok hok hix.1 (Nat.zero_le _)) (fun z p1 p2 => (h9.2.1 z p1 p2).trans (hf z p1 p2)) (fun x e hx => by
        rw [bf_push_none hnone] at hx
        dsimp only at hx
        by_cases q9 : x = bf_idx 0 a 0
        · exact ⟨a, by omega, by omega, q9⟩
        · rw [if_neg q9] at hx
          obtain ⟨a', p1, p2, p3⟩ := hi x e hx
          exact ⟨a', p1, by omega, p3⟩) he
      rw [h9.2.2] at h8
      exact h8
    refine am_iload_n rfl dX7_spread_33 ?_
    refine am_aload_n rfl dX7_spread_34 ?_
    refine am_geti (j := 2) (by decide) rfl rfl rfl hTX7 (by decide) fl_X7_13 dX7_spread_35 ?_
    rw [e21]
    refine am_icmp_gt (tgt := 86) (by decide) dX7_spread_38 (fun h38 => ?_) (fun h38 => ?_)
    · exfalso; simp only [Int32.lt_iff_toInt_lt, iN_e] at h38; omega
    · refine am_aload_n rfl dX7_spread_41 ?_
      refine am_iconst (v := 0) (by decide) dX7_spread_42 ?_
      refine am_iload_n rfl dX7_spread_43 ?_
      refine am_callVi (c_X7_isRest ad N _ _) okX7_isRest ml_X7_106 (by decide) rfl rfl rfl ⟨by decide, by decide⟩ (Nat.le_of_ble_eq_true rfl) rfl dX7_spread_44 ?_
      refine am_ifb_ne (tgt := 53) (by decide) dX7_spread_47 (fun h47 => ?_) (fun h47 => ?_)
      · refine am_aload_n rfl dX7_spread_53 ?_
        refine am_getr (j := 9) (by decide) rfl rfl rfl hTX7 (by decide) fl_X7_27 dX7_spread_54 ?_
        refine am_iconst (v := 0) (by decide) dX7_spread_57 ?_
        refine am_iload_n rfl dX7_spread_58 ?_
        refine am_iconst (v := 0) (by decide) dX7_spread_59 ?_
        refine am_callSi (c_X7_index ad _ _ _ _) okX7_index ml_X7_109 rfl ⟨by decide, by decide⟩ (Nat.le_of_ble_eq_true rfl) rfl dX7_spread_60 ?_
        rw [hsx]
        refine am_iconst (v := 0) (by decide) dX7_spread_63 ?_
        refine am_iast (by decide) rfl (hv1) dX7_spread_64 ?_
        refine am_aload_n rfl dX7_spread_65 ?_
        refine am_getr (j := 10) (by decide) rfl rfl rfl hTX7 (by decide) fl_X7_30 dX7_spread_66 ?_
        refine am_iload_n rfl dX7_spread_69 ?_
        refine am_iconst (v := 0) (by decide) dX7_spread_70 ?_
        refine am_iload_n rfl dX7_spread_71 ?_
        refine am_iconst (v := 0) (by decide) dX7_spread_72 ?_
        refine am_callSi (c_X7_index ad _ _ _ _) okX7_index ml_X7_109 rfl ⟨by decide, by decide⟩ (Nat.le_of_ble_eq_true rfl) rfl dX7_spread_73 ?_
        rw [hsx]
        refine am_iast (by decide) rfl (hv2) dX7_spread_76 ?_
        refine am_iinc (v := nI (B.2.2 + 1)) rfl (nI_inc _) (by decide) dX7_spread_77 ?_
        refine am_iinc (v := iN (a + 1)) rfl (iN_inc a) (by decide) dX7_spread_80 ?_
        refine am_goto (tgt := 33) (by decide) dX7_spread_83 ?_
        first
        | exact (KA h47 : _)
        | exact (KB h47 : _)
      · refine am_goto (tgt := 80) (by decide) dX7_spread_50 ?_
        refine am_iinc (v := iN (a + 1)) rfl (iN_inc a) (by decide) dX7_spread_80 ?_
        refine am_goto (tgt := 33) (by decide) dX7_spread_83 ?_
        first
        | exact (KA h47 : _)
        | exact (KB h47 : _)

def am_RI (M : am_M) : Prop := 1 ≤ (M 1 0).toInt ∧ (M 1 0).toInt ≤ 12 ∧ 1 ≤ (M 1 1).toInt ∧ (M 1 1).toInt ≤ 4 ∧ 1 ≤ (M 1 2).toInt ∧ (M 1 2).toInt ≤ 4 ∧ (M 1 7 = 0 ∨ M 1 7 = 1)
def am_s (M : am_M) : Bool := decide (¬ M 1 7 = 0)
theorem am_RI.s {M : am_M} (h : am_RI M) : M 1 7 = bI (am_s M) := by
  obtain ⟨-, -, -, -, -, -, h | h⟩ := h <;> simp [am_s, h, bI]
def am_V (M : am_M) : Int := (M 1 0).toInt
def am_Ac (M : am_M) : Int := (M 1 1).toInt
def am_J (M : am_M) : Int := (M 1 2).toInt
def am_E (M : am_M) (s : Bool) : Int → Int → Bool := fun w b => sp_mayEnd M (iN w) (iN b) s
theorem am_speed_iff {M : am_M} {v : Int} (h1 : -1000 ≤ v) (h2 : v ≤ 1000) : sp_speed M (iN v) = true ↔ 0 ≤ v ∧ v ≤ am_V M := by
  have := i_rng (M 1 0)
  simp only [sp_speed, am_V, decide_eq_true_eq, Int32.le_iff_toInt_le, Int32.toInt_zero, iN_e]
  omega
theorem am_state_iff {M : am_M} (hR : am_RI M) {v a : Int} (h1 : -1000 ≤ v) (h2 : v ≤ 1000) (h3 : -1000 ≤ a) (h4 : a ≤ 1000) : sp_state M (iN v) (iN a) = true ↔ (0 ≤ v ∧ v ≤ am_V M) ∧ -am_Ac M ≤ a ∧ a ≤ am_Ac M := by
  obtain ⟨q1, q2, q3, q4, -⟩ := hR
  simp only [sp_state, am_V, am_Ac, decide_eq_true_eq, Int32.le_iff_toInt_le, Int32.toInt_zero, iN_e, i_neg]
  omega
theorem am_rest_iff {M : am_M} (hR : am_RI M) {a : Int} (h3 : -1000 ≤ a) (h4 : a ≤ 1000) : sp_rest M 0 (iN a) = true ↔ (-am_Ac M ≤ a ∧ a ≤ am_Ac M) ∧ -am_J M ≤ a ∧ a ≤ am_J M := by
  have e := am_state_iff hR (v := 0) (by omega) (by omega) h3 h4
  have e0 : iN 0 = 0 := rfl
  rw [e0] at e
  obtain ⟨q1, q2, q3, q4, q5, q6, -⟩ := hR
  unfold am_V am_Ac at e
  simp only [sp_rest, decide_eq_true_eq]
  rw [e]
  unfold am_J am_Ac
  simp only [Int32.le_iff_toInt_le, iN_e, i_neg]
  constructor
  · intro h; omega
  · intro h; exact ⟨trivial, by omega, by omega, by omega⟩
theorem am_least_e {M : am_M} (hR : am_RI M) {b : Int} (h1 : -4 ≤ b) (h2 : b ≤ 4) : sp_least M (iN b) = iN (bf_lo (am_Ac M) (am_J M) b) := by
  obtain ⟨q1, q2, q3, q4, q5, q6, -⟩ := hR
  unfold sp_least imax bf_lo am_Ac am_J
  split
  · rename_i h
    simp only [Int32.lt_iff_toInt_lt, iN_e, i_sub, i_neg] at h
    apply i_inj
    simp only [i_sub, iN_e]
    omega
  · rename_i h
    simp only [Int32.lt_iff_toInt_lt, iN_e, i_sub, i_neg] at h
    apply i_inj
    simp only [i_neg, iN_e]
    omega
theorem am_most_e {M : am_M} (hR : am_RI M) {b : Int} (h1 : -4 ≤ b) (h2 : b ≤ 4) : sp_most M (iN b) = iN (bf_hi (am_Ac M) (am_J M) b) := by
  obtain ⟨q1, q2, q3, q4, q5, q6, -⟩ := hR
  unfold sp_most imin bf_hi am_Ac am_J
  split
  · rename_i h
    simp only [Int32.lt_iff_toInt_lt, iN_e, i_add] at h
    apply i_inj
    simp only [i_add, iN_e]
    omega
  · rename_i h
    simp only [Int32.lt_iff_toInt_lt, iN_e, i_add] at h
    apply i_inj
    simp only [iN_e]
    omega
def sp_node (v a l : Int32) : Int32 := sp_num v a * 201 + l
theorem sp_node_e {v a l : Int} (h1 : 0 ≤ v) (h2 : v ≤ 12) (h3 : -4 ≤ a) (h4 : a ≤ 4) (h5 : 0 ≤ l) (h6 : l ≤ 200) : sp_node (iN v) (iN a) (iN l) = nI (bf_idx v a l) := by
  obtain ⟨-, e⟩ := bf_idx_lt h1 h2 h3 h4 h5 h6
  apply i_inj
  simp only [sp_node, sp_num, i_add, i_mul, iN_e, nI_e, kI_201, kI_9, kI_4]
  rw [e]
  omega
theorem rp_w {x : Nat} (hx : x < 23517) : nI x / 201 / 9 = iN (bf_w x) := by
  rw [show (201 : Int32) = nI 201 from rfl, show (9 : Int32) = nI 9 from rfl, pk_div (by omega) (by omega) (by omega), pk_div (by omega) (by omega) (by omega), nI_iN]
  rfl
theorem rp_b {x : Nat} (hx : x < 23517) : nI x / 201 - nI x / 201 / 9 * 9 - 4 = iN (bf_b x) := by
  rw [show (201 : Int32) = nI 201 from rfl, show (9 : Int32) = nI 9 from rfl, pk_div (by omega) (by omega) (by omega), pk_rem (by omega) (by omega) (by omega)]
  apply i_inj
  simp only [i_sub, nI_e, iN_e, kI_4, bf_b]
  omega
theorem rp_l {x : Nat} (hx : x < 23517) : nI x - nI x / 201 * 201 + iN (bf_w x) = iN (bf_l x + bf_w x) := by
  rw [show (201 : Int32) = nI 201 from rfl, pk_rem (by omega) (by omega) (by omega), nI_iN, iN_add]
  rfl
theorem rp_lb {x : Nat} (hx : x < 23517) : nI x - nI x / 201 * 201 = iN (bf_l x) := by
  rw [show (201 : Int32) = nI 201 from rfl, pk_rem (by omega) (by omega) (by omega), nI_iN]
  rfl
theorem bf_wbl_x {x : Nat} (hx : x < 23517) : bf_idx (bf_w x) (bf_b x) (bf_l x) = x := by
  unfold bf_idx bf_w bf_b bf_l
  omega
set_option maxRecDepth 100000 in
set_option maxHeartbeats 400000 in
theorem c_X3_nodeOf (ad : Nat → Nat) (M : am_M) (v a l : Int32) : am_C ydX3_nodeOf ad am_II [.int v, .int a, .int l] M (am_is (sp_node v a l) M) := by
  refine am_ofW (by decide +kernel) (by simp [Value.category]) (Nat.le_of_ble_eq_true rfl) rfl ?_
  refine am_iload_n rfl dX3_nodeOf_0 ?_
  refine am_iload_n rfl dX3_nodeOf_1 ?_
  refine am_callNi (c_X6_stateNumber ad _ _ _) okX6_stateNumber ml_X3_91 rfl ⟨by decide, by decide⟩ (Nat.le_of_ble_eq_true rfl) rfl dX3_nodeOf_2 ?_
  refine am_sipush (v := 201) (by decide) dX3_nodeOf_5 ?_
  refine am_imul dX3_nodeOf_8 ?_
  refine am_iload_n rfl dX3_nodeOf_9 ?_
  refine am_iadd dX3_nodeOf_10 ?_
  refine am_iret rfl dX3_nodeOf_11 ?_
  exact ⟨rfl, rfl⟩
/-- behind begin -/
def rp_new (M N : am_M) : Prop := rp_RC N (bf_init (am_Ac M) (am_J M)) ∧ N 4 2 = 0 ∧ N 4 4 = M 1 8 ∧ ∀ a, a ≠ 4 → a ≠ 5 → a ≠ 6 → N a = M a
theorem bf_fold_app (c : Int → Bool) (f : Int → Nat) (d : Nat) : ∀ (n m : Nat) (a : Int) (B : bf_B), bf_fold c f d (n + m) a B = bf_fold c f d m (a + n) (bf_fold c f d n a B) := by
  intro n
  induction n with
  | zero => intro m a B; simp [bf_fold]
  | succ n ih =>
    intro m a B
    rw [show n + 1 + m = (n + m) + 1 by omega, bf_fold, bf_fold, ih]
    congr 1
    push_cast
    omega
theorem bf_fold_no {c : Int → Bool} (f : Int → Nat) (d : Nat) : ∀ (n : Nat) (a : Int) (B : bf_B), (∀ a2, a ≤ a2 → a2 < a + n → c a2 = false) → bf_fold c f d n a B = B := by
  intro n
  induction n with
  | zero => intro a B _; rfl
  | succ n ih =>
    intro a B h
    rw [bf_fold, h a (by omega) (by omega), if_neg (by decide)]
    exact ih (a + 1) B (fun a2 p1 p2 => h a2 (by omega) (by omega))
theorem bf_fold_cong {c c' : Int → Bool} (f : Int → Nat) (d : Nat) : ∀ (n : Nat) (a : Int) (B : bf_B), (∀ a2, a ≤ a2 → a2 < a + n → c a2 = c' a2) → bf_fold c f d n a B = bf_fold c' f d n a B := by
  intro n
  induction n with
  | zero => intro a B _; rfl
  | succ n ih =>
    intro a B h
    rw [bf_fold, bf_fold, h a (by omega) (by omega)]
    exact ih (a + 1) _ (fun a2 p1 p2 => h a2 (by omega) (by omega))
/-- a wide walk that takes only those within is the narrow one -/
theorem bf_fold_in {c : Int → Bool} (f : Int → Nat) (d : Nat) (lo hi a z : Int) (B : bf_B) (h1 : a ≤ lo) (h2 : hi ≤ z) (h3 : lo ≤ hi + 1) (hc : ∀ q, c q = true ↔ lo ≤ q ∧ q ≤ hi) : bf_fold c f d (z - a + 1).toNat a B = bf_fold bf_yes f d (hi - lo + 1).toNat lo B := by
  have hf : ∀ q, ¬ (lo ≤ q ∧ q ≤ hi) → c q = false := fun q hq => by
    cases e : c q with
    | false => rfl
    | true => exact absurd ((hc q).mp e) hq
  have e1 : (z - a + 1).toNat = (lo - a).toNat + ((hi - lo + 1).toNat + (z - hi).toNat) := by omega
  rw [e1, bf_fold_app, bf_fold_no f d _ a B (fun q p1 p2 => hf q (by omega)), bf_fold_app]
  have e2 : a + ((lo - a).toNat : Int) = lo := by omega
  rw [e2, bf_fold_cong f d _ lo B (c' := bf_yes) (fun q p1 p2 => (hc q).mpr (by omega))]
  exact bf_fold_no f d _ _ _ (fun q p1 p2 => hf q (by omega))
theorem bf_lohi {A J b : Int} (h1 : 1 ≤ A) (h3 : 1 ≤ J) (h5 : -A ≤ b) (h6 : b ≤ A) : -A ≤ bf_lo A J b ∧ bf_lo A J b ≤ b ∧ b ≤ bf_hi A J b ∧ bf_hi A J b ≤ A := by
  unfold bf_lo bf_hi
  omega
/-- who is at rest -/
def rp_c (M : am_M) : Int → Bool := fun a => decide ((-am_Ac M ≤ a ∧ a ≤ am_Ac M) ∧ -am_J M ≤ a ∧ a ≤ am_J M)
theorem rp_init_e {M : am_M} (hR : am_RI M) : bf_fold (rp_c M) (fun a => bf_idx 0 a 0) 0 9 (-4) bf_0 = bf_init (am_Ac M) (am_J M) := by
  obtain ⟨q1, q2, q3, q4, q5, q6, -⟩ := hR
  have h1 : am_Ac M = (M 1 1).toInt := rfl
  have h2 : am_J M = (M 1 2).toInt := rfl
  have e := bf_fold_in (c := rp_c M) (fun a => bf_idx 0 a 0) 0 (bf_lo (am_Ac M) (am_J M) 0) (bf_hi (am_Ac M) (am_J M) 0) (-4) 4 bf_0 (by unfold bf_lo; omega) (by unfold bf_hi; omega) (by unfold bf_lo bf_hi; omega) (fun q => by unfold rp_c bf_lo bf_hi; rw [decide_eq_true_eq]; omega)
  exact e
set_option maxRecDepth 100000 in
set_option maxHeartbeats 400000 in
theorem lp_X3_begin (ad : Nat → Nat) (M : am_M) (hR : am_RI M) : ∀ (n : Nat) (a : Int) (N : am_M) (B : bf_B), a + n = 5 → -4 ≤ a → rp_RC N B → bf_ok B → N 4 2 = 0 → N 4 4 = M 1 8 → (∀ q, q ≠ 4 → q ≠ 5 → q ≠ 6 → N q = M q) → bf_fold (rp_c M) (fun a => bf_idx 0 a 0) 0 n a B = bf_init (am_Ac M) (am_J M) → am_W ydX3_begin ad am_II (fun r N => r = none ∧ rp_new M N) 29 [some (.ref (ad 4)), some (.ref (ad 1)), some (.int (iN a))] [] N := by
  intro n
  induction n with
  | zero =>
    intro a N B ha h4 hRC hok h2 hv hf he
    refine am_iload_n rfl dX3_begin_29 ?_
    refine am_iconst (v := 4) (by decide) dX3_begin_30 ?_
    refine am_icmp_gt (tgt := 60) (by decide) dX3_begin_31 (fun h => ?_) (fun h => (by exfalso; simp only [Int32.lt_iff_toInt_lt, iN_e, kI_4] at h; omega))
    refine am_vret rfl dX3_begin_60 ?_
    rw [bf_fold] at he
    subst he
    exact ⟨rfl, hRC, h2, hv, hf⟩
  | succ n ih =>
    intro a N B ha h4 hRC hok h2 hv hf he
    have e1 : N 1 = M 1 := hf 1 (by decide) (by decide) (by decide)
    have hR' : am_RI N := by unfold am_RI; rw [e1]; exact hR
    have er := am_rest_iff hR' (a := a) (by omega) (by omega)
    have eA : am_Ac N = am_Ac M := by unfold am_Ac; rw [e1]
    have eJ : am_J N = am_J M := by unfold am_J; rw [e1]
    rw [eA, eJ] at er
    rw [bf_fold] at he
    refine am_iload_n rfl dX3_begin_29 ?_
    refine am_iconst (v := 4) (by decide) dX3_begin_30 ?_
    refine am_icmp_gt (tgt := 60) (by decide) dX3_begin_31 (fun h => (by exfalso; simp only [Int32.lt_iff_toInt_lt, iN_e, kI_4] at h; omega)) (fun h => ?_)
    refine am_aload_n rfl dX3_begin_34 ?_
    refine am_iconst (v := 0) (by decide) dX3_begin_35 ?_
    refine am_iload_n rfl dX3_begin_36 ?_
    refine am_callVi (c_X4_isRest ad N _ _) okX4_isRest ml_X3_76 (by decide) rfl rfl rfl ⟨by decide, by decide⟩ (Nat.le_of_ble_eq_true rfl) rfl dX3_begin_37 ?_
    refine am_ifb_eq (tgt := 54) (by decide) dX3_begin_40 (fun h40 => ?_) (fun h40 => ?_)
    · refine am_iinc rfl rfl (by decide) dX3_begin_54 ?_
      refine am_goto (tgt := 29) (by decide) dX3_begin_57 ?_
      first
      | (rw [if_neg (by unfold rp_c; rw [decide_eq_true_eq]; exact fun q => by rw [er.mpr q] at h40; cases h40)] at he; exact am_eq (by rw [iN_inc]; rfl) rfl rfl (ih (a + 1) N B (by omega) (by omega) hRC hok h2 hv hf he))
      | (rw [if_pos (by unfold rp_c; rw [decide_eq_true_eq]; exact er.mp h40)] at he; exact am_eq (by rw [iN_inc]; rfl) rfl rfl (ih (a + 1) _ _ (by omega) (by omega) hRC1 (bf_push_ok hok hix (Nat.zero_le _)) ((hfr1.2 2 (by decide)).trans h2) ((hfr1.2 4 (by decide)).trans hv) (fun q p1 p2 p3 => (hfr1.1 q p1 p2 p3).trans (hf q p1 p2 p3)) he))
    · refine am_aload_n rfl dX3_begin_43 ?_
      refine am_iconst (v := 0) (by decide) dX3_begin_44 ?_
      refine am_iload_n rfl dX3_begin_45 ?_
      refine am_iconst (v := 0) (by decide) dX3_begin_46 ?_
      refine am_callSi (c_X3_nodeOf ad N 0 (iN a) 0) okX3_nodeOf ml_X3_80 rfl ⟨by decide, by decide⟩ (Nat.le_of_ble_eq_true rfl) rfl dX3_begin_47 ?_
      rw [show sp_node 0 (iN a) 0 = nI (bf_idx 0 a 0) from sp_node_e (v := 0) (l := 0) (by omega) (by omega) (by omega) (by omega) (by omega) (by omega)]
      have hix : bf_idx 0 a 0 < 23517 := (bf_idx_lt (v := 0) (l := 0) (by omega) (by omega) (by omega) (by omega) (by omega) (by omega)).1
      refine am_iconst (v := 0) (by decide) dX3_begin_50 ?_
      refine am_callV (c_X3_find ad N B (bf_idx 0 a 0) 0 hRC hok hix) okX3_find ml_X3_83 (by decide) rfl rfl rfl ⟨by decide, by decide⟩ (Nat.le_of_ble_eq_true rfl) rfl dX3_begin_51 (fun r51 N51 p51 => ?_)
      obtain ⟨rfl, hRC1, hfr1⟩ := p51
      refine am_iinc rfl rfl (by decide) dX3_begin_54 ?_
      refine am_goto (tgt := 29) (by decide) dX3_begin_57 ?_
      first
      | (rw [if_neg (by unfold rp_c; rw [decide_eq_true_eq]; exact fun q => by rw [er.mpr q] at h40; cases h40)] at he; exact am_eq (by rw [iN_inc]; rfl) rfl rfl (ih (a + 1) N B (by omega) (by omega) hRC hok h2 hv hf he))
      | (rw [if_pos (by unfold rp_c; rw [decide_eq_true_eq]; exact er.mp h40)] at he; exact am_eq (by rw [iN_inc]; rfl) rfl rfl (ih (a + 1) _ _ (by omega) (by omega) hRC1 (bf_push_ok hok hix (Nat.zero_le _)) ((hfr1.2 2 (by decide)).trans h2) ((hfr1.2 4 (by decide)).trans hv) (fun q p1 p2 p3 => (hfr1.1 q p1 p2 p3).trans (hf q p1 p2 p3)) he))
set_option maxRecDepth 100000 in
set_option maxHeartbeats 400000 in
theorem c_X3_begin (ad : Nat → Nat) (M : am_M)  (hR : am_RI M) : am_C ydX3_begin ad am_II [.ref (ad 4), .ref (ad 1)] M (fun r N => r = none ∧ rp_new M N) := by
  refine am_ofW (L := [some (.ref (ad 4)), some (.ref (ad 1)), none]) (by decide +kernel) (by simp [Value.category]) (Nat.le_of_ble_eq_true rfl) rfl ?_
  refine am_aload_n rfl dX3_begin_0 ?_
  refine am_aload_n rfl dX3_begin_1 ?_
  refine am_geti (j := 8) (by decide) rfl rfl rfl hTX4 (by decide) fl_X3_32 dX3_begin_2 ?_
  refine am_puti (j := 4) (by decide) rfl rfl rfl hTX3 tyX3_ok nmX3 (by decide) fl_X3_25 rfl rfl rfl rfl dX3_begin_5 ?_
  refine am_aload_n rfl dX3_begin_8 ?_
  refine am_getr (j := 0) (by decide) rfl rfl rfl hTX3 (by decide) fl_X3_9 dX3_begin_9 ?_
  refine am_iconst (v := (-1)) (by decide) dX3_begin_12 ?_
  refine am_callSv (c_J7_fill ad am_II 5 23517 (by decide) rfl (by omega) _ _) okJ7_fill_53178 ml_X3_70 rfl ⟨by decide, by decide⟩ (Nat.le_of_ble_eq_true rfl) rfl dX3_begin_13 ?_
  refine am_aload_n rfl dX3_begin_16 ?_
  refine am_iconst (v := 0) (by decide) dX3_begin_17 ?_
  refine am_puti (j := 2) (by decide) rfl rfl rfl hTX3 tyX3_ok nmX3 (by decide) fl_X3_18 rfl rfl rfl rfl dX3_begin_18 ?_
  refine am_aload_n rfl dX3_begin_21 ?_
  refine am_iconst (v := 0) (by decide) dX3_begin_22 ?_
  refine am_puti (j := 3) (by decide) rfl rfl rfl hTX3 tyX3_ok nmX3 (by decide) fl_X3_22 rfl rfl rfl rfl dX3_begin_23 ?_
  refine am_bipush (v := (-4)) (by decide) dX3_begin_26 ?_
  refine am_istore_n (by decide) dX3_begin_28 ?_
  refine lp_X3_begin ad M hR 9 (-4) _ bf_0 (by omega) (by omega) ⟨fun x hx => ?_, fun i hi => absurd hi (Nat.not_lt_zero _), ?_⟩ bf_ok_0 ?_ ?_ (fun q p1 p2 p3 => ?_) (rp_init_e hR)
  · rw [am_put_ne _ _ _ _ (show (5 : Nat) ≠ 4 by decide), am_put_ne _ _ _ _ (show (5 : Nat) ≠ 4 by decide), am_row_at, if_pos hx]
    rfl
  · rw [am_rd]
    rfl
  · simp [am_rd]
  · rw [am_rd, am_rd, if_neg (by decide), if_neg (by decide), am_row_ne _ _ _ (by decide), am_rd]
    rfl
  · rw [am_put_ne _ _ _ _ p1, am_put_ne _ _ _ _ p1, am_row_ne _ _ _ p2, am_put_ne _ _ _ _ p1]

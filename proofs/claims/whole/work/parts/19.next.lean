def rn_s (c : Int → Bool) : Nat → Int → Int
  | 0, _ => 5
  | n + 1, b => if c b = true then b else rn_s c n (b - 1)
def rp_cb (M : am_M) (v a l : Int) : Int → Bool := fun b => sp_mayEnd M (iN (v + b)) (iN b) (am_s M) && decide (tA M (v + b) b (l - (v + b)) = tA M v a l - 1)
def rp_nc (M : am_M) (v a l : Int) : Int := if tA M v a l < 1 then 5 else rn_s (rp_cb M v a l) (bf_n (am_Ac M) (am_J M) a) (bf_hi (am_Ac M) (am_J M) a)
theorem rn_s_in {c : Int → Bool} : ∀ (n : Nat) (b r : Int), rn_s c n b = r → r ≠ 5 → b - n < r ∧ r ≤ b ∧ c r = true := by
  intro n
  induction n with
  | zero => intro b r h hr; exact absurd h.symm hr
  | succ n ih =>
    intro b r h hr
    rw [rn_s] at h
    by_cases q : c b = true
    · rw [if_pos q] at h
      subst h
      exact ⟨by omega, by omega, q⟩
    · rw [if_neg q] at h
      have := ih (b - 1) r h hr
      exact ⟨by omega, by omega, this.2.2⟩
set_option maxRecDepth 100000 in
set_option maxHeartbeats 400000 in
theorem lp_X3_nc (ad : Nat → Nat) (M : am_M) (hR : am_RI M) (v a l : Int) (h1 : 0 ≤ v) (h2 : v ≤ 12) (h3 : -4 ≤ a) (h4 : a ≤ 4) (h5 : -1000 ≤ l) (h6 : l ≤ 1000)  (lo R : Int) (hlo : -4 ≤ lo) (hlo2 : lo ≤ 8) : ∀ (n : Nat) (b : Int) (nr : Option Value), (b + 1 = lo + n ∨ (n = 0 ∧ b < lo)) → b ≤ 4 → -10 ≤ b → rn_s (rp_cb M v a l) n b = R → am_W ydX3_nextChange ad am_II (am_is (iN R) M) 32 [some (.ref (ad 4)), some (.ref (ad 1)), some (.int (iN v)), some (.int (iN a)), some (.int (iN l)), some (.int (tA M v a l)), some (.int (iN lo)), some (.int (iN b)), nr] [] M := by
  intro n
  induction n with
  | zero =>
    intro b nr hb hb4 hb5 he
    refine am_iload rfl dX3_nextChange_32 ?_
    refine am_iload rfl dX3_nextChange_34 ?_
    refine am_icmp_lt (tgt := 89) (by decide) dX3_nextChange_36 (fun h => ?_) (fun h => (by exfalso; simp only [Int32.lt_iff_toInt_lt, iN_e] at h; omega))
    rw [rn_s] at he
    subst he
    refine am_iconst (v := 5) (by decide) dX3_nextChange_89 ?_
    refine am_iret rfl dX3_nextChange_90 ?_
    exact ⟨rfl, rfl⟩
  | succ n ih =>
    intro b nr hb hb4 hb5 he
    rw [rn_s] at he
    refine am_iload rfl dX3_nextChange_32 ?_
    refine am_iload rfl dX3_nextChange_34 ?_
    refine am_icmp_lt (tgt := 89) (by decide) dX3_nextChange_36 (fun h => (by exfalso; simp only [Int32.lt_iff_toInt_lt, iN_e] at h; omega)) (fun h => ?_)
    have hst := am_state_iff hR (v := v + b) (a := b) (by omega) (by omega) (by omega) (by omega)
    have hq : am_V M = (M 1 0).toInt ∧ am_Ac M = (M 1 1).toInt ∧ am_J M = (M 1 2).toInt := ⟨rfl, rfl, rfl⟩
    have hq2 := hR
    unfold am_RI at hq2
    refine am_iload_n rfl dX3_nextChange_39 ?_
    refine am_iload rfl dX3_nextChange_40 ?_
    refine am_iadd dX3_nextChange_42 ?_
    rw [iN_add]
    refine am_istore (by decide) dX3_nextChange_43 ?_
    refine am_aload_n rfl dX3_nextChange_45 ?_
    refine am_iload rfl dX3_nextChange_46 ?_
    refine am_iload rfl dX3_nextChange_48 ?_
    refine am_aload_n rfl dX3_nextChange_50 ?_
    refine am_geti (j := 7) (by decide) rfl rfl rfl hTX4 (by decide) fl_X3_62 dX3_nextChange_51 ?_
    rw [hR.s]
    refine am_callVi (c_X4_mayEnd ad M (iN (v + b)) (iN b) (am_s M)) okX4_mayEnd ml_X3_66 (by decide) rfl rfl rfl ⟨by decide, by decide⟩ (Nat.le_of_ble_eq_true rfl) rfl dX3_nextChange_54 ?_
    refine am_ifb_eq (tgt := 83) (by decide) dX3_nextChange_57 (fun h57 => ?_) (fun h57 => ?_)
    · have hng : ¬ rp_cb M v a l b = true := fun q => by
        unfold rp_cb at q
        rw [Bool.and_eq_true, decide_eq_true_eq] at q
        first | exact h77 q.2 | (rw [q.1] at h57; cases h57)
      rw [if_neg hng] at he
      refine am_iinc rfl rfl (by decide) dX3_nextChange_83 ?_
      refine am_goto (tgt := 32) (by decide) dX3_nextChange_86 ?_
      exact am_eq (by rw [iN_dec]; rfl) rfl rfl (ih (b - 1) _ (by omega) (by omega) (by omega) he)
    · have hv := hst.mp (by have h7 := h57; simp only [sp_mayEnd, decide_eq_true_eq] at h7; exact h7.1)
      refine am_aload_n rfl dX3_nextChange_60 ?_
      refine am_iload rfl dX3_nextChange_61 ?_
      refine am_iload rfl dX3_nextChange_63 ?_
      refine am_iload rfl dX3_nextChange_65 ?_
      refine am_iload rfl dX3_nextChange_67 ?_
      refine am_isub dX3_nextChange_69 ?_
      rw [iN_sub]
      refine am_callVi (c_X3_ticksAt ad M (v + b) b (l - (v + b)) hv.1.1 (by omega) (by omega) (by omega) (by omega) (by omega)) okX3_ticksAt ml_X3_43 (by decide) rfl rfl rfl ⟨by decide, by decide⟩ (Nat.le_of_ble_eq_true rfl) rfl dX3_nextChange_70 ?_
      refine am_iload rfl dX3_nextChange_73 ?_
      refine am_iconst (v := 1) (by decide) dX3_nextChange_75 ?_
      refine am_isub dX3_nextChange_76 ?_
      refine am_icmp_ne (tgt := 83) (by decide) dX3_nextChange_77 (fun h77 => ?_) (fun h77 => ?_)
      · have hng : ¬ rp_cb M v a l b = true := fun q => by
          unfold rp_cb at q
          rw [Bool.and_eq_true, decide_eq_true_eq] at q
          first | exact h77 q.2 | (rw [q.1] at h57; cases h57)
        rw [if_neg hng] at he
        refine am_iinc rfl rfl (by decide) dX3_nextChange_83 ?_
        refine am_goto (tgt := 32) (by decide) dX3_nextChange_86 ?_
        exact am_eq (by rw [iN_dec]; rfl) rfl rfl (ih (b - 1) _ (by omega) (by omega) (by omega) he)
      · refine am_iload rfl dX3_nextChange_80 ?_
        refine am_iret rfl dX3_nextChange_82 ?_
        rw [if_pos (by unfold rp_cb; rw [Bool.and_eq_true, decide_eq_true_eq]; exact ⟨h57, h77⟩)] at he
        subst he
        exact ⟨rfl, rfl⟩
set_option maxRecDepth 100000 in
set_option maxHeartbeats 400000 in
theorem c_X3_nextChange (ad : Nat → Nat) (M : am_M) (v a l : Int) (hR : am_RI M) (h1 : 0 ≤ v) (h2 : v ≤ 12) (h3 : -4 ≤ a) (h4 : a ≤ 4) (h5 : -1000 ≤ l) (h6 : l ≤ 1000) : am_C ydX3_nextChange ad am_II [.ref (ad 4), .ref (ad 1), .int (iN v), .int (iN a), .int (iN l)] M (am_is (iN (rp_nc M v a l)) M) := by
  refine am_ofW (L := [some (.ref (ad 4)), some (.ref (ad 1)), some (.int (iN v)), some (.int (iN a)), some (.int (iN l)), none, none, none, none]) (by decide +kernel) (by simp [Value.category]) (Nat.le_of_ble_eq_true rfl) rfl ?_
  refine am_aload_n rfl dX3_nextChange_0 ?_
  refine am_iload_n rfl dX3_nextChange_1 ?_
  refine am_iload_n rfl dX3_nextChange_2 ?_
  refine am_iload rfl dX3_nextChange_3 ?_
  refine am_callVi (c_X3_ticksAt ad M v a l h1 h2 h3 h4 (by omega) (by omega)) okX3_ticksAt ml_X3_43 (by decide) rfl rfl rfl ⟨by decide, by decide⟩ (Nat.le_of_ble_eq_true rfl) rfl dX3_nextChange_5 ?_
  refine am_istore (by decide) dX3_nextChange_8 ?_
  refine am_iload rfl dX3_nextChange_10 ?_
  refine am_iconst (v := 1) (by decide) dX3_nextChange_12 ?_
  refine am_icmp_ge (tgt := 18) (by decide) dX3_nextChange_13 (fun h13 => ?_) (fun h13 => ?_)
  · refine am_aload_n rfl dX3_nextChange_18 ?_
    refine am_iload_n rfl dX3_nextChange_19 ?_
    refine am_callVi (c_X4_leastBeside ad _ _) okX4_leastBeside ml_X3_55 (by decide) rfl rfl rfl ⟨by decide, by decide⟩ (Nat.le_of_ble_eq_true rfl) rfl dX3_nextChange_20 ?_
    rw [am_least_e hR h3 h4]
    refine am_istore (by decide) dX3_nextChange_23 ?_
    refine am_aload_n rfl dX3_nextChange_25 ?_
    refine am_iload_n rfl dX3_nextChange_26 ?_
    refine am_callVi (c_X4_mostBeside ad _ _) okX4_mostBeside ml_X3_59 (by decide) rfl rfl rfl ⟨by decide, by decide⟩ (Nat.le_of_ble_eq_true rfl) rfl dX3_nextChange_27 ?_
    rw [am_most_e hR h3 h4]
    refine am_istore (by decide) dX3_nextChange_30 ?_
    have hq : am_Ac M = (M 1 1).toInt ∧ am_J M = (M 1 2).toInt := ⟨rfl, rfl⟩
    have hq2 := hR
    unfold am_RI at hq2
    unfold rp_nc
    rw [if_neg (Int32.not_lt.mpr h13)]
    have hb1 : -4 ≤ bf_lo (am_Ac M) (am_J M) a := by unfold bf_lo; omega
    have hb0 : bf_lo (am_Ac M) (am_J M) a ≤ 8 := by unfold bf_lo; omega
    have hb7 : -10 ≤ bf_hi (am_Ac M) (am_J M) a := by unfold bf_hi; omega
    have hb2 : bf_hi (am_Ac M) (am_J M) a ≤ 4 := by unfold bf_hi; omega
    exact lp_X3_nc ad M hR v a l h1 h2 h3 h4 h5 h6 _ _ hb1 hb0 (bf_n (am_Ac M) (am_J M) a) _ _ (by unfold bf_n; omega) hb2 hb7 rfl
  · refine am_iconst (v := 5) (by decide) dX3_nextChange_16 ?_
    refine am_iret rfl dX3_nextChange_17 ?_
    refine am_isE ?_
    unfold rp_nc
    rw [if_pos (Int32.not_le.mp h13)]
    rfl
theorem am_conj {Y : am_Y} {ad : Nat → Nat} {I : List Nat} {P P' : Option Value → am_M → Prop} {pc : Nat} {L : List (Option Value)} {st : List Value} {M : am_M} (hp : ∀ {r N}, P' r N → P r N) (h : am_W Y ad I P' pc L st M) : am_W Y ad I P pc L st M := by
  intro l D cyI cyZ p e s m args below meth c A H locs ls hX hA hl hP hD hS T hT X
  obtain ⟨t, h1, o, h2, h3, ⟨⟨r, N, g1, g2, g3⟩, g4⟩, h5⟩ := h l D cyI cyZ p e s m args below meth c A H locs ls hX hA hl hP hD hS T hT X
  exact ⟨t, h1, o, h2, h3, ⟨⟨r, N, g1, hp g2, g3⟩, g4⟩, h5⟩
theorem bf_proc_ok {V A J : Int} {E : Int → Int → Bool} (hV : V ≤ 12) (hA : A ≤ 4) {B : bf_B} {x d : Nat} (hok : bf_ok B) (hx : x < 23517) (hd : B.1 x = some d) : bf_ok (bf_proc V A J E B x) ∧ bf_le B (bf_proc V A J E B x) := by
  unfold bf_proc
  have hw := bf_wbl hx
  split
  · exact ⟨hok, bf_le.rf B⟩
  · rename_i h
    unfold bf_stop at h
    have h1 : ¬ 200 < bf_l x + bf_w x := fun q => h (Or.inl q)
    have h2 : ¬ bf_w x - bf_b x < 0 := fun q => h (Or.inr (Or.inl q))
    have h3 : ¬ V < bf_w x - bf_b x := fun q => h (Or.inr (Or.inr (Or.inl q)))
    rw [hd]
    refine bf_fold_ok _ _ _ _ _ _ hok (hok.small hd).2 (fun a p1 p2 _ => ?_)
    have p3 : -4 ≤ a := by (unfold bf_lo at p1; omega)
    have p4 : a ≤ 4 := by (unfold bf_n bf_lo bf_hi at *; omega)
    exact (bf_idx_lt (by omega) (by omega) p3 p4 (by omega) (by omega)).1
theorem bf_init_ok {A J : Int} (hA : A ≤ 4) : bf_ok (bf_init A J) := by
  refine (bf_fold_ok _ _ _ _ _ _ bf_ok_0 (Nat.zero_le _) (fun a p1 p2 _ => ?_)).1
  have p3 : -4 ≤ a := by (unfold bf_lo at p1; omega)
  have p4 : a ≤ 4 := by (unfold bf_n bf_lo bf_hi at *; omega)
  exact (bf_idx_lt (by omega) (by omega) p3 p4 (by omega) (by omega)).1
theorem bf_T_ok {V A J : Int} {E : Int → Int → Bool} (hV : V ≤ 12) (hA : A ≤ 4) : ∀ k, bf_ok (bf_T V A J E k) := by
  intro k
  induction k with
  | zero => exact bf_init_ok hA
  | succ k ih =>
    rw [bf_T]
    split
    · rename_i h
      obtain ⟨h1, d, h2, -⟩ := ih.1 k h
      exact (bf_proc_ok hV hA ih h1 h2).1
    · exact ih
noncomputable def rp_T (M : am_M) : Nat → bf_B := bf_T (am_V M) (am_Ac M) (am_J M) (am_E M (am_s M))
theorem rp_T_cong {M N : am_M} (h1 : N 1 = M 1) (h2 : N 2 = M 2) (h3 : N 3 = M 3) : rp_T N = rp_T M := by
  have e1 : am_V N = am_V M := by unfold am_V; rw [h1]
  have e2 : am_Ac N = am_Ac M := by unfold am_Ac; rw [h1]
  have e3 : am_J N = am_J M := by unfold am_J; rw [h1]
  have e4 : am_s N = am_s M := by unfold am_s; rw [h1]
  have e5 : am_E N (am_s N) = am_E M (am_s M) := by
    rw [e4]
    funext w b
    unfold am_E sp_mayEnd sp_state sp_bad sp_safe
    rw [h1, h2, h3]
  unfold rp_T
  rw [e1, e2, e3, e5]
theorem am_RI.V {M : am_M} (h : am_RI M) : am_V M ≤ 12 ∧ am_Ac M ≤ 4 := ⟨h.2.1, h.2.2.2.1⟩
theorem am_RI.cong {M N : am_M} (h : am_RI M) (h1 : N 1 = M 1) : am_RI N := by unfold am_RI; rw [h1]; exact h
/-- the search of M's rules stands at k in N -/
def rp_at (M N : am_M) (k : Nat) : Prop := k ≤ (rp_T M k).2.2 ∧ rp_RC N (rp_T M k) ∧ N 4 2 = nI k ∧ N 4 4 = M 1 8 ∧ ∀ a, a ≠ 4 → a ≠ 5 → a ≠ 6 → N a = M a
/-- the search is far enough for n -/
def rp_far (M : am_M) (n : Int) (k : Nat) : Prop := ((rp_T M k).1 (rp_st n) ≠ none ∨ k = (rp_T M k).2.2) ∧ (M 4 4 = M 1 8 → (M 4 2).toInt ≤ (k : Int))
set_option maxRecDepth 100000 in
set_option maxHeartbeats 400000 in
theorem lp_X3_ticksOf (ad : Nat → Nat) (M : am_M) (hR : am_RI M) (n32 : Int32) (hn : 0 ≤ n32.toInt) (hn2 : n32.toInt ≤ 200) (k0 : Nat) (hk0 : M 4 4 = M 1 8 → (M 4 2).toInt ≤ (k0 : Int)) : ∀ (z k : Nat) (N : am_M), 23517 - k < z → k0 ≤ k → rp_at M N k → am_W ydX3_ticksOf ad am_II (fun r N => ∃ k, rp_at M N k ∧ rp_far M n32.toInt k ∧ r = some (.int (rp_enc ((rp_T M k).1 (rp_st n32.toInt))))) 29 [some (.ref (ad 4)), some (.ref (ad 1)), some (.int n32)] [] N := by
  intro z
  induction z with
  | zero => intro k N hz _ _; omega
  | succ z ih =>
    intro k N hz hkk hat
    obtain ⟨hk, hRC, h2, hv, hf⟩ := id hat
    have hok : bf_ok (rp_T M k) := bf_T_ok hR.V.1 hR.V.2 k
    have hst : rp_st n32.toInt < 23517 := (bf_idx_lt (v := 0) (a := 0) (by omega) (by omega) (by omega) (by omega) hn hn2).1
    have hkc := hok.le
    have e1 : N 1 = M 1 := hf 1 (by decide) (by decide) (by decide)
    have eT : rp_T N = rp_T M := rp_T_cong e1 (hf 2 (by decide) (by decide) (by decide)) (hf 3 (by decide) (by decide) (by decide))
    have eE : bf_T (am_V N) (am_Ac N) (am_J N) (am_E N (am_s N)) = rp_T M := eT
    refine am_aload_n rfl dX3_ticksOf_29 ?_
    refine am_geti (j := 2) (by decide) rfl rfl rfl hTX3 (by decide) fl_X3_18 dX3_ticksOf_30 ?_
    refine am_aload_n rfl dX3_ticksOf_33 ?_
    refine am_geti (j := 3) (by decide) rfl rfl rfl hTX3 (by decide) fl_X3_22 dX3_ticksOf_34 ?_
    refine am_icmp_ge (tgt := 92) (by decide) dX3_ticksOf_37 (fun h37 => ?_) (fun h37 => ?_)
    · have hfar : rp_far M n32.toInt k := by
        refine ⟨?_, fun q => by have := hk0 q; omega⟩
        first
        | (exact Or.inr (by rw [h2, hRC.2.2] at h37; simp only [Int32.le_iff_toInt_le, nI_e] at h37; omega))
        | (exact Or.inl (fun e => h62 (by rw [hRC.1 _ hst, e]; rfl)))
      refine am_aload_n rfl dX3_ticksOf_92 ?_
      refine am_iconst (v := 0) (by decide) dX3_ticksOf_93 ?_
      refine am_iconst (v := 0) (by decide) dX3_ticksOf_94 ?_
      refine am_iload_n rfl dX3_ticksOf_95 ?_
      refine am_callVi (c_X3_ticksAtn ad N n32 hn hn2) okX3_ticksAt ml_X3_43 (by decide) rfl rfl rfl ⟨by decide, by decide⟩ (Nat.le_of_ble_eq_true rfl) rfl dX3_ticksOf_96 ?_
      rw [hRC.1 _ hst]
      refine am_iret rfl dX3_ticksOf_99 ?_
      exact ⟨k, hat, hfar, rfl⟩
    · have hlt : k < (rp_T M k).2.2 := by (rw [h2, hRC.2.2] at h37; simp only [Int32.le_iff_toInt_le, nI_e] at h37; omega)
      obtain ⟨hx, dk, hdk, -⟩ := hok.1 k hlt
      refine am_aload_n rfl dX3_ticksOf_40 ?_
      refine am_getr (j := 1) (by decide) rfl rfl rfl hTX3 (by decide) fl_X3_15 dX3_ticksOf_41 ?_
      refine am_aload_n rfl dX3_ticksOf_44 ?_
      refine am_geti (j := 2) (by decide) rfl rfl rfl hTX3 (by decide) fl_X3_18 dX3_ticksOf_45 ?_
      refine am_callNi (c_X6_isIndexOf ad N 6 23517 (N 4 2) (by decide) rfl (by decide) (by rw [h2]; exact vp_in_nI (by omega) (by omega))) okX6_isIndexOf ml_X3_39 rfl ⟨by decide, by decide⟩ (Nat.le_of_ble_eq_true rfl) rfl dX3_ticksOf_48 ?_
      refine am_ifb_eq (tgt := 92) (by decide) dX3_ticksOf_51 (fun h51 => ?_) (fun h51 => ?_)
      · cases h51
      · refine am_aload_n rfl dX3_ticksOf_54 ?_
        refine am_iconst (v := 0) (by decide) dX3_ticksOf_55 ?_
        refine am_iconst (v := 0) (by decide) dX3_ticksOf_56 ?_
        refine am_iload_n rfl dX3_ticksOf_57 ?_
        refine am_callVi (c_X3_ticksAtn ad N n32 hn hn2) okX3_ticksAt ml_X3_43 (by decide) rfl rfl rfl ⟨by decide, by decide⟩ (Nat.le_of_ble_eq_true rfl) rfl dX3_ticksOf_58 ?_
        refine am_iconst (v := (-1)) (by decide) dX3_ticksOf_61 ?_
        refine am_icmp_ne (tgt := 92) (by decide) dX3_ticksOf_62 (fun h62 => ?_) (fun h62 => ?_)
        · have hfar : rp_far M n32.toInt k := by
            refine ⟨?_, fun q => by have := hk0 q; omega⟩
            first
            | (exact Or.inr (by rw [h2, hRC.2.2] at h37; simp only [Int32.le_iff_toInt_le, nI_e] at h37; omega))
            | (exact Or.inl (fun e => h62 (by rw [hRC.1 _ hst, e]; rfl)))
          refine am_aload_n rfl dX3_ticksOf_92 ?_
          refine am_iconst (v := 0) (by decide) dX3_ticksOf_93 ?_
          refine am_iconst (v := 0) (by decide) dX3_ticksOf_94 ?_
          refine am_iload_n rfl dX3_ticksOf_95 ?_
          refine am_callVi (c_X3_ticksAtn ad N n32 hn hn2) okX3_ticksAt ml_X3_43 (by decide) rfl rfl rfl ⟨by decide, by decide⟩ (Nat.le_of_ble_eq_true rfl) rfl dX3_ticksOf_96 ?_
          rw [hRC.1 _ hst]
          refine am_iret rfl dX3_ticksOf_99 ?_
          exact ⟨k, hat, hfar, rfl⟩
        · refine am_aload_n rfl dX3_ticksOf_65 ?_
          refine am_aload_n rfl dX3_ticksOf_66 ?_
          refine am_aload_n rfl dX3_ticksOf_67 ?_
          refine am_getr (j := 1) (by decide) rfl rfl rfl hTX3 (by decide) fl_X3_15 dX3_ticksOf_68 ?_
          refine am_aload_n rfl dX3_ticksOf_71 ?_
          refine am_geti (j := 2) (by decide) rfl rfl rfl hTX3 (by decide) fl_X3_18 dX3_ticksOf_72 ?_
          refine am_iald (by decide) rfl ((by rw [h2]; exact vp_in_nI (by omega) (by omega))) dX3_ticksOf_75 ?_
          rw [h2, nI_clamp (by omega), hRC.2.1 k hlt]
          refine am_callV (c_X3_lookBehind ad N (rp_T M k) ((rp_T M k).2.1 k) dk (hR.cong e1) hRC hok hx hdk) okX3_lookBehind ml_X3_47 (by decide) rfl rfl rfl ⟨by decide, by decide⟩ (Nat.le_of_ble_eq_true rfl) rfl dX3_ticksOf_76 (fun r76 N76 p76 => ?_)
          obtain ⟨rfl, hRC1, hfr1⟩ := p76
          refine am_aload_n rfl dX3_ticksOf_79 ?_
          refine am_dup rfl dX3_ticksOf_80 ?_
          refine am_geti (j := 2) (by decide) rfl rfl rfl hTX3 (by decide) fl_X3_18 dX3_ticksOf_81 ?_
          refine am_iconst (v := 1) (by decide) dX3_ticksOf_84 ?_
          refine am_iadd dX3_ticksOf_85 ?_
          refine am_puti (j := 2) (by decide) rfl rfl rfl hTX3 tyX3_ok nmX3 (by decide) fl_X3_18 rfl rfl rfl rfl dX3_ticksOf_86 ?_
          refine am_goto (tgt := 29) (by decide) dX3_ticksOf_89 ?_
          have hnew : rp_T M (k + 1) = bf_proc (am_V N) (am_Ac N) (am_J N) (am_E N (am_s N)) (rp_T M k) ((rp_T M k).2.1 k) := by
            rw [← eE] at hlt ⊢
            rw [bf_T, if_pos hlt]
          rw [← hnew] at hRC1
          have hle : bf_le (rp_T M k) (rp_T M (k + 1)) := by rw [hnew]; exact (bf_proc_ok (hR.cong e1).V.1 (hR.cong e1).V.2 hok hx hdk).2
          refine ih (k + 1) _ (by omega) (by omega) ⟨by have := hle.1; omega, ⟨fun x hx => ?_, fun i hi => ?_, ?_⟩, ?_, ?_, fun a p1 p2 p3 => ?_⟩
          · rw [am_put_ne _ _ _ _ (by decide)]; exact hRC1.1 x hx
          · rw [am_put_ne _ _ _ _ (by decide)]; exact hRC1.2.1 i hi
          · rw [am_rd, if_neg (by decide)]; exact hRC1.2.2
          · rw [am_rd, if_pos (by decide), hfr1.2 2 (by decide), h2]; exact nI_1 k
          · rw [am_rd, if_neg (by decide), hfr1.2 4 (by decide), hv]
          · rw [am_put_ne _ _ _ _ p1, hfr1.1 a p1 p2 p3]; exact hf a p1 p2 p3
set_option maxRecDepth 100000 in
set_option maxHeartbeats 400000 in
theorem c_X3_ticksOf (ad : Nat → Nat) (M : am_M) (n : Int32) (hR : am_RI M) (hS : M 4 4 = M 1 8 → ∃ k, rp_at M M k) : am_C ydX3_ticksOf ad am_II [.ref (ad 4), .ref (ad 1), .int n] M (fun r N => (sp_in n 0 200 = false ∧ r = some (.int (-1)) ∧ M = N) ∨ (sp_in n 0 200 = true ∧ ∃ k, rp_at M N k ∧ rp_far M n.toInt k ∧ r = some (.int (rp_enc ((rp_T M k).1 (rp_st n.toInt)))))) := by
  refine am_ofW (L := [some (.ref (ad 4)), some (.ref (ad 1)), some (.int n)]) (by decide +kernel) (by simp [Value.category]) (Nat.le_of_ble_eq_true rfl) rfl ?_
  refine am_iload_n rfl dX3_ticksOf_0 ?_
  refine am_iconst (v := 0) (by decide) dX3_ticksOf_1 ?_
  refine am_sipush (v := 200) (by decide) dX3_ticksOf_2 ?_
  refine am_callNi (c_X6_isWithin ad _ _ _ _) okX6_isWithin ml_X3_28 rfl ⟨by decide, by decide⟩ (Nat.le_of_ble_eq_true rfl) rfl dX3_ticksOf_5 ?_
  refine am_ifb_ne (tgt := 13) (by decide) dX3_ticksOf_8 (fun h8 => ?_) (fun h8 => ?_)
  · have hn : 0 ≤ n.toInt ∧ n.toInt ≤ 200 := by (have h9 := h8; simp only [sp_in, decide_eq_true_eq, Int32.le_iff_toInt_le, Int32.toInt_zero, kI_200] at h9; exact h9)
    refine am_aload_n rfl dX3_ticksOf_13 ?_
    refine am_geti (j := 4) (by decide) rfl rfl rfl hTX3 (by decide) fl_X3_25 dX3_ticksOf_14 ?_
    refine am_aload_n rfl dX3_ticksOf_17 ?_
    refine am_geti (j := 8) (by decide) rfl rfl rfl hTX4 (by decide) fl_X3_32 dX3_ticksOf_18 ?_
    refine am_icmp_eq (tgt := 29) (by decide) dX3_ticksOf_21 (fun h21 => ?_) (fun h21 => ?_)
    · refine am_conj (fun h => Or.inr ⟨h8, h⟩) ?_
      first
      | (obtain ⟨k, hk⟩ := hS h21
         have hb := (bf_T_ok hR.V.1 hR.V.2 k : bf_ok (rp_T M k)).le
         exact lp_X3_ticksOf ad M hR n hn.1 hn.2 k (fun _ => by rw [hk.2.2.1, nI_e]; have := hk.1; omega) 23518 k M (by omega) (Nat.le_refl k) hk)
      | (exact lp_X3_ticksOf ad M hR n hn.1 hn.2 0 (fun q => absurd q h21) 23518 0 _ (by omega) (Nat.le_refl 0) ⟨Nat.zero_le _, hRC1, hz1, hv1, hf1⟩)
    · refine am_aload_n rfl dX3_ticksOf_24 ?_
      refine am_aload_n rfl dX3_ticksOf_25 ?_
      refine am_callV (c_X3_begin ad M hR) okX3_begin ml_X3_35 (by decide) rfl rfl rfl ⟨by decide, by decide⟩ (Nat.le_of_ble_eq_true rfl) rfl dX3_ticksOf_26 (fun r26 N26 p26 => ?_)
      obtain ⟨rfl, hRC1, hz1, hv1, hf1⟩ := p26
      refine am_conj (fun h => Or.inr ⟨h8, h⟩) ?_
      first
      | (obtain ⟨k, hk⟩ := hS h21
         have hb := (bf_T_ok hR.V.1 hR.V.2 k : bf_ok (rp_T M k)).le
         exact lp_X3_ticksOf ad M hR n hn.1 hn.2 k (fun _ => by rw [hk.2.2.1, nI_e]; have := hk.1; omega) 23518 k M (by omega) (Nat.le_refl k) hk)
      | (exact lp_X3_ticksOf ad M hR n hn.1 hn.2 0 (fun q => absurd q h21) 23518 0 _ (by omega) (Nat.le_refl 0) ⟨Nat.zero_le _, hRC1, hz1, hv1, hf1⟩)
  · refine am_iconst (v := (-1)) (by decide) dX3_ticksOf_11 ?_
    refine am_iret rfl dX3_ticksOf_12 ?_
    exact Or.inl ⟨h8, rfl, rfl⟩

set_option maxRecDepth 100000 in
set_option maxHeartbeats 400000 in
theorem c_X6_isIndexOf (ad : Nat → Nat) (M : am_M) (k n : Nat) (i : Int32) (hk : k ∈ am_II) (hs : am_shp k = .inr (false, n)) (hn : n < 2147483648) (hv : vp_in i n) : am_C ydX6_isIndexOf ad am_II [.ref (ad k), .int i] M (am_is (bI true) M) := by
  refine am_ofW (L := [some (.ref (ad k)), some (.int i)]) (by decide +kernel) (by simp [Value.category]) (Nat.le_of_ble_eq_true rfl) rfl ?_
  refine am_iload_n rfl dX6_isIndexOf_0 ?_
  refine am_if_lt (tgt := 14) (by decide) dX6_isIndexOf_1 (fun h1 => ?_) (fun h1 => ?_)
  · refine am_iconst (v := 0) (by decide) dX6_isIndexOf_14 ?_
    refine am_zret rfl (by first | exact am_nb _ | decide) dX6_isIndexOf_15 ?_
    first | exact ⟨rfl, rfl⟩ | (exfalso; obtain ⟨q1, q2⟩ := vp_in_iff.mp hv; simp only [Int32.le_iff_toInt_le, Int32.lt_iff_toInt_lt, Int32.toInt_zero, nI_e] at *; omega)
  · refine am_iload_n rfl dX6_isIndexOf_4 ?_
    refine am_aload_n rfl dX6_isIndexOf_5 ?_
    refine am_alen (v := nI n) hk hs (rfl) dX6_isIndexOf_6 ?_
    refine am_icmp_ge (tgt := 14) (by decide) dX6_isIndexOf_7 (fun h7 => ?_) (fun h7 => ?_)
    · refine am_iconst (v := 0) (by decide) dX6_isIndexOf_14 ?_
      refine am_zret rfl (by first | exact am_nb _ | decide) dX6_isIndexOf_15 ?_
      first | exact ⟨rfl, rfl⟩ | (exfalso; obtain ⟨q1, q2⟩ := vp_in_iff.mp hv; simp only [Int32.le_iff_toInt_le, Int32.lt_iff_toInt_lt, Int32.toInt_zero, nI_e] at *; omega)
    · refine am_iconst (v := 1) (by decide) dX6_isIndexOf_10 ?_
      refine am_goto (tgt := 15) (by decide) dX6_isIndexOf_11 ?_
      refine am_zret rfl (by first | exact am_nb _ | decide) dX6_isIndexOf_15 ?_
      first | exact ⟨rfl, rfl⟩ | (exfalso; obtain ⟨q1, q2⟩ := vp_in_iff.mp hv; simp only [Int32.le_iff_toInt_le, Int32.lt_iff_toInt_lt, Int32.toInt_zero, nI_e] at *; omega)
def rp_enc (o : Option Nat) : Int32 := match o with
  | none => -1
  | some d => nI d
def rp_RC (M : am_M) (B : bf_B) : Prop := (∀ x, x < 23517 → M 5 x = rp_enc (B.1 x)) ∧ (∀ i, i < B.2.2 → M 6 i = nI (B.2.1 i)) ∧ M 4 3 = nI B.2.2
def rp_fr (M N : am_M) : Prop := (∀ a, a ≠ 4 → a ≠ 5 → a ≠ 6 → N a = M a) ∧ ∀ j, j ≠ 3 → N 4 j = M 4 j
theorem rp_fr.rf (M : am_M) : rp_fr M M := ⟨fun _ _ _ _ => rfl, fun _ _ => rfl⟩
theorem rp_fr.tr {M N K : am_M} (h : rp_fr M N) (k : rp_fr N K) : rp_fr M K := ⟨fun a h1 h2 h3 => (k.1 a h1 h2 h3).trans (h.1 a h1 h2 h3), fun j h1 => (k.2 j h1).trans (h.2 j h1)⟩
theorem rp_enc_none {o : Option Nat} (h : ∀ d, o = some d → d < 2147483647) : rp_enc o = -1 ↔ o = none := by
  cases o with
  | none => exact ⟨fun _ => rfl, fun _ => rfl⟩
  | some d =>
    have hd := h d rfl
    refine ⟨fun e => ?_, fun e => by cases e⟩
    exfalso
    have e1 : (nI d).toInt = (-1 : Int32).toInt := by rw [show nI d = -1 from e]
    simp only [nI_e, kI_m1] at e1
    omega
theorem bf_ok.small {B : bf_B} (h : bf_ok B) {x d : Nat} (hx : B.1 x = some d) : d < 23517 ∧ d + 1 ≤ B.2.2 := by
  obtain ⟨i, h1, h2⟩ := h.2.1 x d hx
  obtain ⟨-, e, h3, h4⟩ := h.1 i h1
  rw [h2, hx] at h3
  cases h3
  have := h.le
  omega
theorem rp_found (M : am_M) (B : bf_B) (x d : Nat) (hRC : rp_RC M B) (hx : x < 23517) (hn : B.1 x = none) (hc : B.2.2 < 23517) : rp_RC (am_put (am_put (am_put M 5 x (nI d)) 6 B.2.2 (nI x)) 4 3 (nI (B.2.2 + 1))) (bf_push B x d) ∧ rp_fr M (am_put (am_put (am_put M 5 x (nI d)) 6 B.2.2 (nI x)) 4 3 (nI (B.2.2 + 1))) := by
  rw [bf_push_none hn]
  refine ⟨⟨fun y hy => ?_, fun i hi => ?_, ?_⟩, fun a h1 h2 h3 => ?_, fun j hj => ?_⟩
  · by_cases q : y = x
    · subst q
      simp [am_rd, rp_enc]
    · simp [am_rd, q, hRC.1 y hy]
  · dsimp only at hi ⊢
    by_cases q : i = B.2.2
    · subst q
      simp [am_rd]
    · simp [am_rd, q, hRC.2.1 i (by omega)]
  · simp [am_rd]
  · rw [am_put_ne _ _ _ _ h1, am_put_ne _ _ _ _ h3, am_put_ne _ _ _ _ h2]
  · simp [am_rd, hj]
set_option maxRecDepth 100000 in
set_option maxHeartbeats 400000 in
theorem c_X3_find (ad : Nat → Nat) (M : am_M) (B : bf_B) (x d : Nat) (hRC : rp_RC M B) (hok : bf_ok B) (hx : x < 23517) : am_C ydX3_find ad am_II [.ref (ad 4), .int (nI x), .int (nI d)] M (fun r N => r = none ∧ rp_RC N (bf_push B x d) ∧ rp_fr M N) := by
  have hv1 : vp_in (nI x) 23517 := vp_in_nI hx (by omega)
  refine am_ofW (L := [some (.ref (ad 4)), some (.int (nI x)), some (.int (nI d))]) (by decide +kernel) (by simp [Value.category]) (Nat.le_of_ble_eq_true rfl) rfl ?_
  refine am_aload_n rfl dX3_find_0 ?_
  refine am_getr (j := 0) (by decide) rfl rfl rfl hTX3 (by decide) fl_X3_9 dX3_find_1 ?_
  refine am_iload_n rfl dX3_find_4 ?_
  refine am_callNi (c_X6_isIndexOf ad M 5 23517 (nI x) (by decide) rfl (by decide) hv1) okX6_isIndexOf ml_X3_39 rfl ⟨by decide, by decide⟩ (Nat.le_of_ble_eq_true rfl) rfl dX3_find_5 ?_
  refine am_ifb_eq (tgt := 62) (by decide) dX3_find_8 (fun h8 => ?_) (fun h8 => ?_)
  · cases h8
  · refine am_aload_n rfl dX3_find_11 ?_
    refine am_getr (j := 0) (by decide) rfl rfl rfl hTX3 (by decide) fl_X3_9 dX3_find_12 ?_
    refine am_iload_n rfl dX3_find_15 ?_
    refine am_iald (by decide) rfl (hv1) dX3_find_16 ?_
    refine am_iconst (v := (-1)) (by decide) dX3_find_17 ?_
    refine am_icmp_ne (tgt := 62) (by decide) dX3_find_18 (fun h18 => ?_) (fun h18 => ?_)
    · refine am_vret rfl dX3_find_62 ?_
      first
      | (have h9 := rp_found M B x d hRC hx e9 hc
         have e7 : am_put (am_put M 5 x (nI d)) 6 B.2.2 (nI x) 4 3 + 1 = nI (B.2.2 + 1) := by (simp [am_rd, hRC.2.2, nI_1])
         have e6 : (am_put M 5 x (nI d) 4 3).toNatClampNeg = B.2.2 := by (rw [am_put_ne _ _ _ _ (show (4 : Nat) ≠ 5 by decide), hRC.2.2, nI_clamp (by omega)])
         rw [nI_clamp (by omega), e6, e7]
         exact ⟨rfl, h9⟩)
      | (rw [nI_clamp (by omega)] at h18
         have e9 : ¬ B.1 x = none := fun e => h18 (by rw [hRC.1 x hx, e]; rfl)
         cases e8 : B.1 x with
         | none => exact absurd e8 e9
         | some z => exact ⟨rfl, by rw [bf_push_some e8]; exact hRC, rp_fr.rf M⟩)
    · have e9 : B.1 x = none := (rp_enc_none (fun e he => by have := hok.small he; omega)).mp (by rw [← hRC.1 x hx]; rw [nI_clamp (by omega)] at h18; exact h18)
      have hc := hok.lt hx e9
      have hv2 : vp_in (M 4 3) 23517 := by rw [hRC.2.2]; exact vp_in_nI hc (by omega)
      have hv3 : vp_in (am_put M 5 (nI x).toNatClampNeg (nI d) 4 3) 23517 := by rw [am_put_ne _ _ _ _ (show (4 : Nat) ≠ 5 by decide), hRC.2.2]; exact vp_in_nI hc (by omega)
      refine am_aload_n rfl dX3_find_21 ?_
      refine am_getr (j := 1) (by decide) rfl rfl rfl hTX3 (by decide) fl_X3_15 dX3_find_22 ?_
      refine am_aload_n rfl dX3_find_25 ?_
      refine am_geti (j := 3) (by decide) rfl rfl rfl hTX3 (by decide) fl_X3_22 dX3_find_26 ?_
      refine am_callNi (c_X6_isIndexOf ad M 6 23517 (M 4 3) (by decide) rfl (by decide) hv2) okX6_isIndexOf ml_X3_39 rfl ⟨by decide, by decide⟩ (Nat.le_of_ble_eq_true rfl) rfl dX3_find_29 ?_
      refine am_ifb_eq (tgt := 62) (by decide) dX3_find_32 (fun h32 => ?_) (fun h32 => ?_)
      · cases h32
      · refine am_aload_n rfl dX3_find_35 ?_
        refine am_getr (j := 0) (by decide) rfl rfl rfl hTX3 (by decide) fl_X3_9 dX3_find_36 ?_
        refine am_iload_n rfl dX3_find_39 ?_
        refine am_iload_n rfl dX3_find_40 ?_
        refine am_iast (by decide) rfl (hv1) dX3_find_41 ?_
        refine am_aload_n rfl dX3_find_42 ?_
        refine am_getr (j := 1) (by decide) rfl rfl rfl hTX3 (by decide) fl_X3_15 dX3_find_43 ?_
        refine am_aload_n rfl dX3_find_46 ?_
        refine am_geti (j := 3) (by decide) rfl rfl rfl hTX3 (by decide) fl_X3_22 dX3_find_47 ?_
        refine am_iload_n rfl dX3_find_50 ?_
        refine am_iast (by decide) rfl (hv3) dX3_find_51 ?_
        refine am_aload_n rfl dX3_find_52 ?_
        refine am_dup rfl dX3_find_53 ?_
        refine am_geti (j := 3) (by decide) rfl rfl rfl hTX3 (by decide) fl_X3_22 dX3_find_54 ?_
        refine am_iconst (v := 1) (by decide) dX3_find_57 ?_
        refine am_iadd dX3_find_58 ?_
        refine am_puti (j := 3) (by decide) rfl rfl rfl hTX3 tyX3_ok nmX3 (by decide) fl_X3_22 rfl rfl rfl rfl dX3_find_59 ?_
        refine am_vret rfl dX3_find_62 ?_
        first
        | (have h9 := rp_found M B x d hRC hx e9 hc
           have e7 : am_put (am_put M 5 x (nI d)) 6 B.2.2 (nI x) 4 3 + 1 = nI (B.2.2 + 1) := by (simp [am_rd, hRC.2.2, nI_1])
           have e6 : (am_put M 5 x (nI d) 4 3).toNatClampNeg = B.2.2 := by (rw [am_put_ne _ _ _ _ (show (4 : Nat) ≠ 5 by decide), hRC.2.2, nI_clamp (by omega)])
           rw [nI_clamp (by omega), e6, e7]
           exact ⟨rfl, h9⟩)
        | (rw [nI_clamp (by omega)] at h18
           have e9 : ¬ B.1 x = none := fun e => h18 (by rw [hRC.1 x hx, e]; rfl)
           cases e8 : B.1 x with
           | none => exact absurd e8 e9
           | some z => exact ⟨rfl, by rw [bf_push_some e8]; exact hRC, rp_fr.rf M⟩)

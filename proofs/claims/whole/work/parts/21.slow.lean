/-! the search for slowings: ticks and steps of each state, the row of those found, how many -/
abbrev sl_B : Type := (Nat → Option (Nat × Nat)) × (Nat → Nat) × Nat
def sl_push (B : sl_B) (x t s : Nat) : sl_B := match B.1 x with
  | some (t0, s0) => if t0 = t ∧ s < s0 then (fun y => if y = x then some (t0, s) else B.1 y, B.2.1, B.2.2) else B
  | none => (fun y => if y = x then some (t, s) else B.1 y, fun i => if i = B.2.2 then x else B.2.1 i, B.2.2 + 1)
def sl_fold (f : Int → Nat) (t s : Nat) : Nat → Int → sl_B → sl_B
  | 0, _, B => B
  | n + 1, a, B => sl_fold f t s n (a + 1) (sl_push B (f a) t s)
def sl_foldc (c : Int → Bool) (f : Int → Nat) (t s : Nat) : Nat → Int → sl_B → sl_B
  | 0, _, B => B
  | n + 1, a, B => sl_foldc c f t s n (a + 1) (if c a = true then sl_push B (f a) t s else B)
def sx (v a : Int) : Nat := (v * 9 + a + 4).toNat
def sl_w (x : Nat) : Int := ((x / 9 : Nat) : Int)
def sl_b (x : Nat) : Int := ((x % 9 : Nat) : Int) - 4
def sl_stop (V : Int) (E : Int → Int → Bool) (x : Nat) : Prop := sl_w x - sl_b x < 0 ∨ V < sl_w x - sl_b x ∨ E (sl_w x) (sl_b x) = false
noncomputable def sl_proc (V A J : Int) (E : Int → Int → Bool) (B : sl_B) (x : Nat) : sl_B := @ite _ (sl_stop V E x) (Classical.propDecidable _) B (sl_fold (fun a => sx (sl_w x - sl_b x) a) (((B.1 x).getD (0, 0)).1 + 1) (((B.1 x).getD (0, 0)).2 + x / 9) (bf_n A J (sl_b x)) (bf_lo A J (sl_b x)) B)
def sl_0 : sl_B := (fun _ => none, fun _ => 0, 0)
def sl_rest (A J : Int) : Int → Bool := fun a => decide ((-A ≤ a ∧ a ≤ A) ∧ -J ≤ a ∧ a ≤ J)
def sl_init (A J : Int) : sl_B := sl_foldc (sl_rest A J) (fun a => sx 0 a) 0 0 9 (-4) sl_0
noncomputable def sl_T (V A J : Int) (E : Int → Int → Bool) : Nat → sl_B
  | 0 => sl_init A J
  | k + 1 => if k < (sl_T V A J E k).2.2 then sl_proc V A J E (sl_T V A J E k) ((sl_T V A J E k).2.1 k) else sl_T V A J E k
def sl_ok (B : sl_B) : Prop := (∀ i, i < B.2.2 → B.2.1 i < 117 ∧ ∃ t s, B.1 (B.2.1 i) = some (t, s) ∧ t ≤ i ∧ s ≤ 12 * t) ∧ (∀ x p, B.1 x = some p → ∃ i, i < B.2.2 ∧ B.2.1 i = x) ∧ ∀ i j, i < j → j < B.2.2 → B.2.1 i ≠ B.2.1 j
theorem sl_ok_0 : sl_ok sl_0 := ⟨fun i h => absurd h (Nat.not_lt_zero _), fun x d h => by simp [sl_0] at h, fun i j _ h => absurd h (Nat.not_lt_zero _)⟩
theorem sl_ok.lt {B : sl_B} (h : sl_ok B) {x : Nat} (hx : x < 117) (hn : B.1 x = none) : B.2.2 < 117 := by
  have h1 := fb_holes 117 (B.2.2 + 1) (fun i => if i < B.2.2 then B.2.1 i else x) (by
    intro i hi
    by_cases q : i < B.2.2
    · simp only [if_pos q]; exact (h.1 i q).1
    · simp only [if_neg q]; exact hx) (by
    intro i j hij hj
    have hi : i < B.2.2 := by omega
    by_cases q : j < B.2.2
    · simp only [if_pos hi, if_pos q]; exact h.2.2 i j hij q
    · simp only [if_pos hi, if_neg q]
      intro e
      obtain ⟨-, t, s, hd, -⟩ := h.1 i hi
      rw [e, hn] at hd
      cases hd)
  omega
theorem sl_ok.le {B : sl_B} (h : sl_ok B) : B.2.2 ≤ 117 := fb_holes 117 B.2.2 B.2.1 (fun i hi => (h.1 i hi).1) h.2.2
theorem sl_ok.small {B : sl_B} (h : sl_ok B) {x t s : Nat} (hx : B.1 x = some (t, s)) : t < 117 ∧ t + 1 ≤ B.2.2 ∧ s ≤ 12 * t ∧ x < 117 := by
  obtain ⟨i, h1, h2⟩ := h.2.1 x _ hx
  obtain ⟨h0, e, f, h3, h4, h5⟩ := h.1 i h1
  rw [h2, hx] at h3
  cases h3
  have := h.le
  rw [h2] at h0
  omega
theorem sl_push_some {B : sl_B} {x t s t0 s0 : Nat} (h : B.1 x = some (t0, s0)) : sl_push B x t s = if t0 = t ∧ s < s0 then (fun y => if y = x then some (t0, s) else B.1 y, B.2.1, B.2.2) else B := by simp [sl_push, h]
theorem sl_push_none {B : sl_B} {x t s : Nat} (h : B.1 x = none) : sl_push B x t s = (fun y => if y = x then some (t, s) else B.1 y, fun i => if i = B.2.2 then x else B.2.1 i, B.2.2 + 1) := by simp [sl_push, h]
theorem sl_push_ok {B : sl_B} (h : sl_ok B) {x t s : Nat} (hx : x < 117) (hd : t ≤ B.2.2) (hs : s ≤ 12 * t) : sl_ok (sl_push B x t s) := by
  cases hb : B.1 x with
  | some p =>
    obtain ⟨t0, s0⟩ := p
    rw [sl_push_some hb]
    split
    · rename_i hc
      refine ⟨fun i hi => ?_, fun y p hp => ?_, h.2.2⟩
      · obtain ⟨h1, t1, s1, h2, h3, h4⟩ := h.1 i hi
        refine ⟨h1, ?_⟩
        dsimp only
        by_cases q : B.2.1 i = x
        · rw [if_pos q]
          rw [q, hb] at h2
          cases h2
          exact ⟨t0, s, rfl, h3, by omega⟩
        · rw [if_neg q]
          exact ⟨t1, s1, h2, h3, h4⟩
      · dsimp only at hp ⊢
        by_cases q : y = x
        · subst q
          exact h.2.1 y _ hb
        · rw [if_neg q] at hp
          exact h.2.1 y p hp
    · exact h
  | none =>
    rw [sl_push_none hb]
    refine ⟨fun i hi => ?_, fun y e he => ?_, fun i j hij hj => ?_⟩
    · dsimp only at hi ⊢
      by_cases q : i = B.2.2
      · rw [if_pos q]
        exact ⟨hx, t, s, by rw [if_pos rfl], by omega, hs⟩
      · rw [if_neg q]
        obtain ⟨h1, t1, s1, h2, h3, h4⟩ := h.1 i (by omega)
        refine ⟨h1, t1, s1, ?_, h3, h4⟩
        have hne : B.2.1 i ≠ x := fun z => by rw [z, hb] at h2; cases h2
        rw [if_neg hne]
        exact h2
    · dsimp only at he ⊢
      by_cases q : y = x
      · exact ⟨B.2.2, by omega, by rw [if_pos rfl, q]⟩
      · rw [if_neg q] at he
        obtain ⟨i, h1, h2⟩ := h.2.1 y e he
        exact ⟨i, by omega, by rw [if_neg (by omega)]; exact h2⟩
    · dsimp only at hj ⊢
      by_cases q : j = B.2.2
      · rw [if_pos q, if_neg (by omega)]
        intro z
        obtain ⟨-, t1, s1, h2, -⟩ := h.1 i (by omega)
        rw [z, hb] at h2
        cases h2
      · rw [if_neg q, if_neg (by omega)]
        exact h.2.2 i j hij (by omega)
/-- what a push of t keeps: those found, their ticks; of other ticks than t their steps too -/
def sl_le (t : Nat) (B C : sl_B) : Prop := B.2.2 ≤ C.2.2 ∧ (∀ i, i < B.2.2 → C.2.1 i = B.2.1 i) ∧ (∀ y t0 s0, B.1 y = some (t0, s0) → ∃ s1, C.1 y = some (t0, s1) ∧ s1 ≤ s0) ∧ ∀ y t0 s0, B.1 y = some (t0, s0) → t0 ≠ t → C.1 y = some (t0, s0)
theorem sl_le.rf (t : Nat) (B : sl_B) : sl_le t B B := ⟨Nat.le_refl _, fun _ _ => rfl, fun _ _ s0 h => ⟨s0, h, Nat.le_refl _⟩, fun _ _ _ h _ => h⟩
theorem sl_le.tr {t : Nat} {B C D : sl_B} (h : sl_le t B C) (k : sl_le t C D) : sl_le t B D := by
  refine ⟨Nat.le_trans h.1 k.1, fun i hi => (k.2.1 i (Nat.lt_of_lt_of_le hi h.1)).trans (h.2.1 i hi), fun y t0 s0 he => ?_, fun y t0 s0 he hn => k.2.2.2 y t0 s0 (h.2.2.2 y t0 s0 he hn) hn⟩
  obtain ⟨s1, h1, h2⟩ := h.2.2.1 y t0 s0 he
  obtain ⟨s2, h3, h4⟩ := k.2.2.1 y t0 s1 h1
  exact ⟨s2, h3, by omega⟩
theorem sl_push_le (B : sl_B) (x t s : Nat) : sl_le t B (sl_push B x t s) := by
  cases hb : B.1 x with
  | some p =>
    obtain ⟨t0, s0⟩ := p
    rw [sl_push_some hb]
    split
    · rename_i hc
      refine ⟨Nat.le_refl _, fun _ _ => rfl, fun y t1 s1 he => ?_, fun y t1 s1 he hn => ?_⟩
      · dsimp only
        by_cases q : y = x
        · subst q
          rw [hb] at he
          cases he
          exact ⟨s, by rw [if_pos rfl], by omega⟩
        · rw [if_neg q]
          exact ⟨s1, he, Nat.le_refl _⟩
      · dsimp only
        by_cases q : y = x
        · subst q
          rw [hb] at he
          cases he
          exact absurd hc.1 hn
        · rw [if_neg q]
          exact he
    · exact sl_le.rf t B
  | none =>
    rw [sl_push_none hb]
    refine ⟨Nat.le_succ _, fun i hi => ?_, fun y t1 s1 he => ?_, fun y t1 s1 he hn => ?_⟩
    · dsimp only; rw [if_neg (by omega)]
    · dsimp only
      have : y ≠ x := fun z => by rw [z, hb] at he; cases he
      rw [if_neg this]
      exact ⟨s1, he, Nat.le_refl _⟩
    · dsimp only
      have : y ≠ x := fun z => by rw [z, hb] at he; cases he
      rw [if_neg this]
      exact he
theorem sl_fold_ok (f : Int → Nat) (t s : Nat) : ∀ (n : Nat) (a : Int) (B : sl_B), sl_ok B → t ≤ B.2.2 → s ≤ 12 * t → (∀ a2, a ≤ a2 → a2 < a + n → f a2 < 117) → sl_ok (sl_fold f t s n a B) ∧ sl_le t B (sl_fold f t s n a B) := by
  intro n
  induction n with
  | zero => intro a B h _ _ _; exact ⟨h, sl_le.rf t _⟩
  | succ n ih =>
    intro a B h hd hs hf
    rw [sl_fold]
    have h1 := sl_push_ok h (hf a (by omega) (by omega)) hd hs
    have h2 := sl_push_le B (f a) t s
    obtain ⟨h3, h4⟩ := ih (a + 1) _ h1 (Nat.le_trans hd h2.1) hs (fun a2 p1 p2 => hf a2 (by omega) (by omega))
    exact ⟨h3, sl_le.tr h2 h4⟩
theorem sl_foldc_ok (c : Int → Bool) (f : Int → Nat) : ∀ (n : Nat) (a : Int) (B : sl_B), sl_ok B → (∀ a2, a ≤ a2 → a2 < a + n → f a2 < 117) → sl_ok (sl_foldc c f 0 0 n a B) := by
  intro n
  induction n with
  | zero => intro a B h _; exact h
  | succ n ih =>
    intro a B h hf
    rw [sl_foldc]
    refine ih (a + 1) _ ?_ (fun a2 p1 p2 => hf a2 (by omega) (by omega))
    split
    · exact sl_push_ok h (hf a (by omega) (by omega)) (Nat.zero_le _) (Nat.zero_le _)
    · exact h
theorem sx_lt {v a : Int} (h1 : 0 ≤ v) (h2 : v ≤ 12) (h3 : -4 ≤ a) (h4 : a ≤ 4) : sx v a < 117 ∧ ((sx v a : Nat) : Int) = v * 9 + a + 4 := by
  unfold sx
  omega
theorem sl_wb {x : Nat} (hx : x < 117) : 0 ≤ sl_w x ∧ sl_w x ≤ 12 ∧ -4 ≤ sl_b x ∧ sl_b x ≤ 4 := by
  unfold sl_w sl_b
  omega
theorem sl_proc_ok {V A J : Int} {E : Int → Int → Bool} (hV : V ≤ 12) (hA : A ≤ 4) {B : sl_B} {x t s : Nat} (hok : sl_ok B) (hx : x < 117) (hd : B.1 x = some (t, s)) : sl_ok (sl_proc V A J E B x) ∧ sl_le (t + 1) B (sl_proc V A J E B x) := by
  unfold sl_proc
  have hw := sl_wb hx
  split
  · exact ⟨hok, sl_le.rf _ B⟩
  · rename_i h
    unfold sl_stop at h
    have h2 : ¬ sl_w x - sl_b x < 0 := fun q => h (Or.inl q)
    have h3 : ¬ V < sl_w x - sl_b x := fun q => h (Or.inr (Or.inl q))
    rw [hd]
    have hsm := hok.small hd
    refine sl_fold_ok _ _ _ _ _ _ hok hsm.2.1 (by dsimp only [Option.getD]; omega) (fun a p1 p2 => ?_)
    have p3 : -4 ≤ a := by (unfold bf_lo at p1; omega)
    have p4 : a ≤ 4 := by (unfold bf_n bf_lo bf_hi at *; omega)
    exact (sx_lt (by omega) (by omega) p3 p4).1
theorem sl_init_ok {A J : Int} : sl_ok (sl_init A J) := sl_foldc_ok _ _ _ _ _ sl_ok_0 (fun a p1 p2 => (sx_lt (by omega) (by omega) (by omega) (by omega)).1)
theorem sl_T_ok {V A J : Int} {E : Int → Int → Bool} (hV : V ≤ 12) (hA : A ≤ 4) : ∀ k, sl_ok (sl_T V A J E k) := by
  intro k
  induction k with
  | zero => exact sl_init_ok
  | succ k ih =>
    rw [sl_T]
    split
    · rename_i h
      obtain ⟨h1, t, s, h2, -⟩ := ih.1 k h
      exact (sl_proc_ok hV hA ih h1 h2).1
    · exact ih
def sl_enc (o : Option (Nat × Nat)) : Int32 := match o with
  | none => -1
  | some p => nI p.1
def sl_RC (k : Nat) (M : am_M) (B : sl_B) : Prop := (∀ x, x < 117 → M (k + 1) x = sl_enc (B.1 x)) ∧ (∀ x t s, B.1 x = some (t, s) → M (k + 2) x = nI s) ∧ (∀ i, i < B.2.2 → M (k + 3) i = nI (B.2.1 i)) ∧ M k 4 = nI B.2.2
def sl_fr (k : Nat) (M N : am_M) : Prop := (∀ a, a ≠ k → a ≠ k + 1 → a ≠ k + 2 → a ≠ k + 3 → N a = M a) ∧ ∀ j, j ≠ 4 → N k j = M k j
theorem sl_fr.rf (k : Nat) (M : am_M) : sl_fr k M M := ⟨fun _ _ _ _ _ => rfl, fun _ _ => rfl⟩
theorem sl_fr.tr {k : Nat} {M N K : am_M} (h : sl_fr k M N) (g : sl_fr k N K) : sl_fr k M K := ⟨fun a h1 h2 h3 h4 => (g.1 a h1 h2 h3 h4).trans (h.1 a h1 h2 h3 h4), fun j h1 => (g.2 j h1).trans (h.2 j h1)⟩
theorem sl_enc_none {B : sl_B} (h : sl_ok B) (x : Nat) : sl_enc (B.1 x) = -1 ↔ B.1 x = none := by
  cases e : B.1 x with
  | none => exact ⟨fun _ => rfl, fun _ => rfl⟩
  | some p =>
    obtain ⟨t, s⟩ := p
    have hd := h.small e
    refine ⟨fun e => ?_, fun e => by cases e⟩
    exfalso
    have e1 : (nI t).toInt = (-1 : Int32).toInt := by rw [show nI t = -1 from e]
    simp only [nI_e, kI_m1] at e1
    omega
theorem sl_found (k : Nat) (M : am_M) (B : sl_B) (x t s : Nat) (hRC : sl_RC k M B) (hn : B.1 x = none) (hc : B.2.2 < 117) : sl_RC k (am_put (am_put (am_put (am_put M (k + 1) x (nI t)) (k + 2) x (nI s)) (k + 3) B.2.2 (nI x)) k 4 (nI (B.2.2 + 1))) (sl_push B x t s) ∧ sl_fr k M (am_put (am_put (am_put (am_put M (k + 1) x (nI t)) (k + 2) x (nI s)) (k + 3) B.2.2 (nI x)) k 4 (nI (B.2.2 + 1))) := by
  rw [sl_push_none hn]
  refine ⟨⟨fun y hy => ?_, fun y t1 s1 hy => ?_, fun i hi => ?_, ?_⟩, fun a h1 h2 h3 h4 => ?_, fun j hj => ?_⟩
  · by_cases q : y = x
    · subst q
      simp [am_rd, sl_enc]
    · simp [am_rd, q, hRC.1 y hy]
  · dsimp only at hy
    by_cases q : y = x
    · subst q
      rw [if_pos rfl] at hy
      cases hy
      simp [am_rd]
    · rw [if_neg q] at hy
      simp [am_rd, q, hRC.2.1 y t1 s1 hy]
  · dsimp only at hi ⊢
    by_cases q : i = B.2.2
    · subst q
      simp [am_rd]
    · simp [am_rd, q, hRC.2.2.1 i (by omega)]
  · simp [am_rd]
  · rw [am_put_ne _ _ _ _ h1, am_put_ne _ _ _ _ h4, am_put_ne _ _ _ _ h3, am_put_ne _ _ _ _ h2]
  · simp [am_rd, hj]
theorem sl_better (k : Nat) (M : am_M) (B : sl_B) (x t s s0 : Nat) (hRC : sl_RC k M B) (hb : B.1 x = some (t, s0)) (hc : s < s0) : sl_RC k (am_put M (k + 2) x (nI s)) (sl_push B x t s) ∧ sl_fr k M (am_put M (k + 2) x (nI s)) := by
  rw [sl_push_some hb, if_pos ⟨rfl, hc⟩]
  refine ⟨⟨fun y hy => ?_, fun y t1 s1 hy => ?_, fun i hi => ?_, ?_⟩, fun a h1 h2 h3 h4 => ?_, fun j hj => ?_⟩
  · rw [am_put_ne _ _ _ _ (by omega), hRC.1 y hy]
    by_cases q : y = x
    · subst q
      simp [hb, sl_enc]
    · simp [q]
  · dsimp only at hy
    by_cases q : y = x
    · subst q
      rw [if_pos rfl] at hy
      cases hy
      simp [am_rd]
    · rw [if_neg q] at hy
      simp [am_rd, q, hRC.2.1 y t1 s1 hy]
  · rw [am_put_ne _ _ _ _ (by omega)]
    exact hRC.2.2.1 i hi
  · rw [am_put_ne _ _ _ _ (by omega)]
    exact hRC.2.2.2
  · rw [am_put_ne _ _ _ _ h3]
  · rw [am_put_ne _ _ _ _ (by omega)]
set_option maxRecDepth 100000 in
set_option maxHeartbeats 400000 in
theorem c_X5_find_7 (ad : Nat → Nat) (M : am_M) (B : sl_B) (x t s : Nat) (hRC : sl_RC 7 M B) (hok : sl_ok B) (hx : x < 117) (ht : t < 1000) (hs : s < 100000) : am_C ydX5_find ad am_II [.ref (ad 7), .int (nI x), .int (nI t), .int (nI s)] M (fun r N => r = none ∧ sl_RC 7 N (sl_push B x t s) ∧ sl_fr 7 M N) := by
  have hv1 : vp_in (nI x) 117 := vp_in_nI hx (by omega)
  refine am_ofW (L := [some (.ref (ad 7)), some (.int (nI x)), some (.int (nI t)), some (.int (nI s))]) (by decide +kernel) (by simp [Value.category]) (Nat.le_of_ble_eq_true rfl) rfl ?_
  refine am_aload_n rfl dX5_find_0 ?_
  refine am_getr (j := 1) (by decide) rfl rfl rfl hTX5 (by decide) fl_X5_9 dX5_find_1 ?_
  refine am_iload_n rfl dX5_find_4 ?_
  refine am_callNi (c_X6_isIndexOf ad M 8 117 (nI x) (by decide) rfl (by decide) hv1) okX6_isIndexOf ml_X5_36 rfl ⟨by decide, by decide⟩ (Nat.le_of_ble_eq_true rfl) rfl dX5_find_5 ?_
  refine am_ifb_eq (tgt := 22) (by decide) dX5_find_8 (fun h8 => ?_) (fun h8 => ?_)
  · cases h8
  · refine am_aload_n rfl dX5_find_11 ?_
    refine am_getr (j := 2) (by decide) rfl rfl rfl hTX5 (by decide) fl_X5_15 dX5_find_12 ?_
    refine am_iload_n rfl dX5_find_15 ?_
    refine am_callNi (c_X6_isIndexOf ad M 9 117 (nI x) (by decide) rfl (by decide) hv1) okX6_isIndexOf ml_X5_36 rfl ⟨by decide, by decide⟩ (Nat.le_of_ble_eq_true rfl) rfl dX5_find_16 ?_
    refine am_ifb_ne (tgt := 23) (by decide) dX5_find_19 (fun h19 => ?_) (fun h19 => ?_)
    · refine am_aload_n rfl dX5_find_23 ?_
      refine am_getr (j := 1) (by decide) rfl rfl rfl hTX5 (by decide) fl_X5_9 dX5_find_24 ?_
      refine am_iload_n rfl dX5_find_27 ?_
      refine am_iald (by decide) rfl (hv1) dX5_find_28 ?_
      refine am_iconst (v := (-1)) (by decide) dX5_find_29 ?_
      refine am_icmp_ne (tgt := 84) (by decide) dX5_find_30 (fun h30 => ?_) (fun h30 => ?_)
      · obtain ⟨t0, s0, hb⟩ : ∃ t0 s0, B.1 x = some (t0, s0) := by
          cases e8 : B.1 x with
          | none => exact absurd (by rw [nI_clamp (by omega), hRC.1 x hx, e8]; rfl) h30
          | some p => exact ⟨p.1, p.2, rfl⟩
        have hsm := hok.small hb
        have et : M 8 (nI x).toNatClampNeg = nI t0 := by rw [nI_clamp (by omega), hRC.1 x hx, hb]; rfl
        have es : M 9 (nI x).toNatClampNeg = nI s0 := by rw [nI_clamp (by omega), hRC.2.1 x t0 s0 hb]
        refine am_aload_n rfl dX5_find_84 ?_
        refine am_getr (j := 1) (by decide) rfl rfl rfl hTX5 (by decide) fl_X5_9 dX5_find_85 ?_
        refine am_iload_n rfl dX5_find_88 ?_
        refine am_iald (by decide) rfl (hv1) dX5_find_89 ?_
        refine am_iload_n rfl dX5_find_90 ?_
        refine am_icmp_ne (tgt := 111) (by decide) dX5_find_91 (fun h91 => ?_) (fun h91 => ?_)
        · refine am_vret rfl dX5_find_111 ?_
          first
          | (have h9 := sl_found 7 M B x t s hRC e9 hc
             have e7 : am_put (am_put (am_put M 8 x (nI t)) 9 x (nI s)) 10 B.2.2 (nI x) 7 4 + 1 = nI (B.2.2 + 1) := by (simp [am_rd, hRC.2.2.2, nI_1])
             have e6 : (am_put (am_put M 8 x (nI t)) 9 x (nI s) 7 4).toNatClampNeg = B.2.2 := by (rw [am_put_ne _ _ _ _ (by decide), am_put_ne _ _ _ _ (by decide), hRC.2.2.2, nI_clamp (by omega)])
             rw [nI_clamp (by omega), e6, e7]
             exact ⟨rfl, h9⟩)
          | (rw [et] at h91; exact ⟨rfl, by rw [sl_push_some hb, if_neg (fun q => h91 (by rw [q.1]))]; exact hRC, sl_fr.rf 7 M⟩)
          | (rw [es] at h101; exact ⟨rfl, by rw [sl_push_some hb, if_neg (fun q => by simp only [Int32.le_iff_toInt_le, nI_e] at h101; omega)]; exact hRC, sl_fr.rf 7 M⟩)
          | (rw [et] at h91
             have e5 : t0 = t := by (have e4 := congrArg Int32.toInt h91; simp only [nI_e] at e4; omega)
             subst e5
             rw [es] at h101
             rw [nI_clamp (by omega)]
             exact ⟨rfl, sl_better 7 M B x t0 s s0 hRC hb (by simp only [Int32.le_iff_toInt_le, nI_e] at h101; omega)⟩)
        · refine am_iload_n rfl dX5_find_94 ?_
          refine am_aload_n rfl dX5_find_95 ?_
          refine am_getr (j := 2) (by decide) rfl rfl rfl hTX5 (by decide) fl_X5_15 dX5_find_96 ?_
          refine am_iload_n rfl dX5_find_99 ?_
          refine am_iald (by decide) rfl (hv1) dX5_find_100 ?_
          refine am_icmp_ge (tgt := 111) (by decide) dX5_find_101 (fun h101 => ?_) (fun h101 => ?_)
          · refine am_vret rfl dX5_find_111 ?_
            first
            | (have h9 := sl_found 7 M B x t s hRC e9 hc
               have e7 : am_put (am_put (am_put M 8 x (nI t)) 9 x (nI s)) 10 B.2.2 (nI x) 7 4 + 1 = nI (B.2.2 + 1) := by (simp [am_rd, hRC.2.2.2, nI_1])
               have e6 : (am_put (am_put M 8 x (nI t)) 9 x (nI s) 7 4).toNatClampNeg = B.2.2 := by (rw [am_put_ne _ _ _ _ (by decide), am_put_ne _ _ _ _ (by decide), hRC.2.2.2, nI_clamp (by omega)])
               rw [nI_clamp (by omega), e6, e7]
               exact ⟨rfl, h9⟩)
            | (rw [et] at h91; exact ⟨rfl, by rw [sl_push_some hb, if_neg (fun q => h91 (by rw [q.1]))]; exact hRC, sl_fr.rf 7 M⟩)
            | (rw [es] at h101; exact ⟨rfl, by rw [sl_push_some hb, if_neg (fun q => by simp only [Int32.le_iff_toInt_le, nI_e] at h101; omega)]; exact hRC, sl_fr.rf 7 M⟩)
            | (rw [et] at h91
               have e5 : t0 = t := by (have e4 := congrArg Int32.toInt h91; simp only [nI_e] at e4; omega)
               subst e5
               rw [es] at h101
               rw [nI_clamp (by omega)]
               exact ⟨rfl, sl_better 7 M B x t0 s s0 hRC hb (by simp only [Int32.le_iff_toInt_le, nI_e] at h101; omega)⟩)
          · refine am_aload_n rfl dX5_find_104 ?_
            refine am_getr (j := 2) (by decide) rfl rfl rfl hTX5 (by decide) fl_X5_15 dX5_find_105 ?_
            refine am_iload_n rfl dX5_find_108 ?_
            refine am_iload_n rfl dX5_find_109 ?_
            refine am_iast (by decide) rfl (hv1) dX5_find_110 ?_
            refine am_vret rfl dX5_find_111 ?_
            first
            | (have h9 := sl_found 7 M B x t s hRC e9 hc
               have e7 : am_put (am_put (am_put M 8 x (nI t)) 9 x (nI s)) 10 B.2.2 (nI x) 7 4 + 1 = nI (B.2.2 + 1) := by (simp [am_rd, hRC.2.2.2, nI_1])
               have e6 : (am_put (am_put M 8 x (nI t)) 9 x (nI s) 7 4).toNatClampNeg = B.2.2 := by (rw [am_put_ne _ _ _ _ (by decide), am_put_ne _ _ _ _ (by decide), hRC.2.2.2, nI_clamp (by omega)])
               rw [nI_clamp (by omega), e6, e7]
               exact ⟨rfl, h9⟩)
            | (rw [et] at h91; exact ⟨rfl, by rw [sl_push_some hb, if_neg (fun q => h91 (by rw [q.1]))]; exact hRC, sl_fr.rf 7 M⟩)
            | (rw [es] at h101; exact ⟨rfl, by rw [sl_push_some hb, if_neg (fun q => by simp only [Int32.le_iff_toInt_le, nI_e] at h101; omega)]; exact hRC, sl_fr.rf 7 M⟩)
            | (rw [et] at h91
               have e5 : t0 = t := by (have e4 := congrArg Int32.toInt h91; simp only [nI_e] at e4; omega)
               subst e5
               rw [es] at h101
               rw [nI_clamp (by omega)]
               exact ⟨rfl, sl_better 7 M B x t0 s s0 hRC hb (by simp only [Int32.le_iff_toInt_le, nI_e] at h101; omega)⟩)
      · have e9 : B.1 x = none := (sl_enc_none hok x).mp (by rw [← hRC.1 x hx]; rw [nI_clamp (by omega)] at h30; exact h30)
        have hc := hok.lt hx e9
        have hv2 : vp_in (M 7 4) 117 := by rw [hRC.2.2.2]; exact vp_in_nI hc (by omega)
        have hv3 : vp_in (am_put (am_put M 8 (nI x).toNatClampNeg (nI t)) 9 (nI x).toNatClampNeg (nI s) 7 4) 117 := by rw [am_put_ne _ _ _ _ (by decide), am_put_ne _ _ _ _ (by decide), hRC.2.2.2]; exact vp_in_nI hc (by omega)
        refine am_aload_n rfl dX5_find_33 ?_
        refine am_getr (j := 3) (by decide) rfl rfl rfl hTX5 (by decide) fl_X5_18 dX5_find_34 ?_
        refine am_aload_n rfl dX5_find_37 ?_
        refine am_geti (j := 4) (by decide) rfl rfl rfl hTX5 (by decide) fl_X5_21 dX5_find_38 ?_
        refine am_callNi (c_X6_isIndexOf ad M 10 117 (M 7 4) (by decide) rfl (by decide) hv2) okX6_isIndexOf ml_X5_36 rfl ⟨by decide, by decide⟩ (Nat.le_of_ble_eq_true rfl) rfl dX5_find_41 ?_
        refine am_ifb_eq (tgt := 84) (by decide) dX5_find_44 (fun h44 => ?_) (fun h44 => ?_)
        · cases h44
        · refine am_aload_n rfl dX5_find_47 ?_
          refine am_getr (j := 1) (by decide) rfl rfl rfl hTX5 (by decide) fl_X5_9 dX5_find_48 ?_
          refine am_iload_n rfl dX5_find_51 ?_
          refine am_iload_n rfl dX5_find_52 ?_
          refine am_iast (by decide) rfl (hv1) dX5_find_53 ?_
          refine am_aload_n rfl dX5_find_54 ?_
          refine am_getr (j := 2) (by decide) rfl rfl rfl hTX5 (by decide) fl_X5_15 dX5_find_55 ?_
          refine am_iload_n rfl dX5_find_58 ?_
          refine am_iload_n rfl dX5_find_59 ?_
          refine am_iast (by decide) rfl (hv1) dX5_find_60 ?_
          refine am_aload_n rfl dX5_find_61 ?_
          refine am_getr (j := 3) (by decide) rfl rfl rfl hTX5 (by decide) fl_X5_18 dX5_find_62 ?_
          refine am_aload_n rfl dX5_find_65 ?_
          refine am_geti (j := 4) (by decide) rfl rfl rfl hTX5 (by decide) fl_X5_21 dX5_find_66 ?_
          refine am_iload_n rfl dX5_find_69 ?_
          refine am_iast (by decide) rfl (hv3) dX5_find_70 ?_
          refine am_aload_n rfl dX5_find_71 ?_
          refine am_dup rfl dX5_find_72 ?_
          refine am_geti (j := 4) (by decide) rfl rfl rfl hTX5 (by decide) fl_X5_21 dX5_find_73 ?_
          refine am_iconst (v := 1) (by decide) dX5_find_76 ?_
          refine am_iadd dX5_find_77 ?_
          refine am_puti (j := 4) (by decide) rfl rfl rfl hTX5 tyX5_ok nmX5 (by decide) fl_X5_21 rfl rfl rfl rfl dX5_find_78 ?_
          refine am_goto (tgt := 111) (by decide) dX5_find_81 ?_
          refine am_vret rfl dX5_find_111 ?_
          first
          | (have h9 := sl_found 7 M B x t s hRC e9 hc
             have e7 : am_put (am_put (am_put M 8 x (nI t)) 9 x (nI s)) 10 B.2.2 (nI x) 7 4 + 1 = nI (B.2.2 + 1) := by (simp [am_rd, hRC.2.2.2, nI_1])
             have e6 : (am_put (am_put M 8 x (nI t)) 9 x (nI s) 7 4).toNatClampNeg = B.2.2 := by (rw [am_put_ne _ _ _ _ (by decide), am_put_ne _ _ _ _ (by decide), hRC.2.2.2, nI_clamp (by omega)])
             rw [nI_clamp (by omega), e6, e7]
             exact ⟨rfl, h9⟩)
          | (rw [et] at h91; exact ⟨rfl, by rw [sl_push_some hb, if_neg (fun q => h91 (by rw [q.1]))]; exact hRC, sl_fr.rf 7 M⟩)
          | (rw [es] at h101; exact ⟨rfl, by rw [sl_push_some hb, if_neg (fun q => by simp only [Int32.le_iff_toInt_le, nI_e] at h101; omega)]; exact hRC, sl_fr.rf 7 M⟩)
          | (rw [et] at h91
             have e5 : t0 = t := by (have e4 := congrArg Int32.toInt h91; simp only [nI_e] at e4; omega)
             subst e5
             rw [es] at h101
             rw [nI_clamp (by omega)]
             exact ⟨rfl, sl_better 7 M B x t0 s s0 hRC hb (by simp only [Int32.le_iff_toInt_le, nI_e] at h101; omega)⟩)
    · cases h19
set_option maxRecDepth 100000 in
set_option maxHeartbeats 400000 in
theorem c_X5_find_11 (ad : Nat → Nat) (M : am_M) (B : sl_B) (x t s : Nat) (hRC : sl_RC 11 M B) (hok : sl_ok B) (hx : x < 117) (ht : t < 1000) (hs : s < 100000) : am_C ydX5_find ad am_II [.ref (ad 11), .int (nI x), .int (nI t), .int (nI s)] M (fun r N => r = none ∧ sl_RC 11 N (sl_push B x t s) ∧ sl_fr 11 M N) := by
  have hv1 : vp_in (nI x) 117 := vp_in_nI hx (by omega)
  refine am_ofW (L := [some (.ref (ad 11)), some (.int (nI x)), some (.int (nI t)), some (.int (nI s))]) (by decide +kernel) (by simp [Value.category]) (Nat.le_of_ble_eq_true rfl) rfl ?_
  refine am_aload_n rfl dX5_find_0 ?_
  refine am_getr (j := 1) (by decide) rfl rfl rfl hTX5 (by decide) fl_X5_9 dX5_find_1 ?_
  refine am_iload_n rfl dX5_find_4 ?_
  refine am_callNi (c_X6_isIndexOf ad M 12 117 (nI x) (by decide) rfl (by decide) hv1) okX6_isIndexOf ml_X5_36 rfl ⟨by decide, by decide⟩ (Nat.le_of_ble_eq_true rfl) rfl dX5_find_5 ?_
  refine am_ifb_eq (tgt := 22) (by decide) dX5_find_8 (fun h8 => ?_) (fun h8 => ?_)
  · cases h8
  · refine am_aload_n rfl dX5_find_11 ?_
    refine am_getr (j := 2) (by decide) rfl rfl rfl hTX5 (by decide) fl_X5_15 dX5_find_12 ?_
    refine am_iload_n rfl dX5_find_15 ?_
    refine am_callNi (c_X6_isIndexOf ad M 13 117 (nI x) (by decide) rfl (by decide) hv1) okX6_isIndexOf ml_X5_36 rfl ⟨by decide, by decide⟩ (Nat.le_of_ble_eq_true rfl) rfl dX5_find_16 ?_
    refine am_ifb_ne (tgt := 23) (by decide) dX5_find_19 (fun h19 => ?_) (fun h19 => ?_)
    · refine am_aload_n rfl dX5_find_23 ?_
      refine am_getr (j := 1) (by decide) rfl rfl rfl hTX5 (by decide) fl_X5_9 dX5_find_24 ?_
      refine am_iload_n rfl dX5_find_27 ?_
      refine am_iald (by decide) rfl (hv1) dX5_find_28 ?_
      refine am_iconst (v := (-1)) (by decide) dX5_find_29 ?_
      refine am_icmp_ne (tgt := 84) (by decide) dX5_find_30 (fun h30 => ?_) (fun h30 => ?_)
      · obtain ⟨t0, s0, hb⟩ : ∃ t0 s0, B.1 x = some (t0, s0) := by
          cases e8 : B.1 x with
          | none => exact absurd (by rw [nI_clamp (by omega), hRC.1 x hx, e8]; rfl) h30
          | some p => exact ⟨p.1, p.2, rfl⟩
        have hsm := hok.small hb
        have et : M 12 (nI x).toNatClampNeg = nI t0 := by rw [nI_clamp (by omega), hRC.1 x hx, hb]; rfl
        have es : M 13 (nI x).toNatClampNeg = nI s0 := by rw [nI_clamp (by omega), hRC.2.1 x t0 s0 hb]
        refine am_aload_n rfl dX5_find_84 ?_
        refine am_getr (j := 1) (by decide) rfl rfl rfl hTX5 (by decide) fl_X5_9 dX5_find_85 ?_
        refine am_iload_n rfl dX5_find_88 ?_
        refine am_iald (by decide) rfl (hv1) dX5_find_89 ?_
        refine am_iload_n rfl dX5_find_90 ?_
        refine am_icmp_ne (tgt := 111) (by decide) dX5_find_91 (fun h91 => ?_) (fun h91 => ?_)
        · refine am_vret rfl dX5_find_111 ?_
          first
          | (have h9 := sl_found 11 M B x t s hRC e9 hc
             have e7 : am_put (am_put (am_put M 12 x (nI t)) 13 x (nI s)) 14 B.2.2 (nI x) 11 4 + 1 = nI (B.2.2 + 1) := by (simp [am_rd, hRC.2.2.2, nI_1])
             have e6 : (am_put (am_put M 12 x (nI t)) 13 x (nI s) 11 4).toNatClampNeg = B.2.2 := by (rw [am_put_ne _ _ _ _ (by decide), am_put_ne _ _ _ _ (by decide), hRC.2.2.2, nI_clamp (by omega)])
             rw [nI_clamp (by omega), e6, e7]
             exact ⟨rfl, h9⟩)
          | (rw [et] at h91; exact ⟨rfl, by rw [sl_push_some hb, if_neg (fun q => h91 (by rw [q.1]))]; exact hRC, sl_fr.rf 11 M⟩)
          | (rw [es] at h101; exact ⟨rfl, by rw [sl_push_some hb, if_neg (fun q => by simp only [Int32.le_iff_toInt_le, nI_e] at h101; omega)]; exact hRC, sl_fr.rf 11 M⟩)
          | (rw [et] at h91
             have e5 : t0 = t := by (have e4 := congrArg Int32.toInt h91; simp only [nI_e] at e4; omega)
             subst e5
             rw [es] at h101
             rw [nI_clamp (by omega)]
             exact ⟨rfl, sl_better 11 M B x t0 s s0 hRC hb (by simp only [Int32.le_iff_toInt_le, nI_e] at h101; omega)⟩)
        · refine am_iload_n rfl dX5_find_94 ?_
          refine am_aload_n rfl dX5_find_95 ?_
          refine am_getr (j := 2) (by decide) rfl rfl rfl hTX5 (by decide) fl_X5_15 dX5_find_96 ?_
          refine am_iload_n rfl dX5_find_99 ?_
          refine am_iald (by decide) rfl (hv1) dX5_find_100 ?_
          refine am_icmp_ge (tgt := 111) (by decide) dX5_find_101 (fun h101 => ?_) (fun h101 => ?_)
          · refine am_vret rfl dX5_find_111 ?_
            first
            | (have h9 := sl_found 11 M B x t s hRC e9 hc
               have e7 : am_put (am_put (am_put M 12 x (nI t)) 13 x (nI s)) 14 B.2.2 (nI x) 11 4 + 1 = nI (B.2.2 + 1) := by (simp [am_rd, hRC.2.2.2, nI_1])
               have e6 : (am_put (am_put M 12 x (nI t)) 13 x (nI s) 11 4).toNatClampNeg = B.2.2 := by (rw [am_put_ne _ _ _ _ (by decide), am_put_ne _ _ _ _ (by decide), hRC.2.2.2, nI_clamp (by omega)])
               rw [nI_clamp (by omega), e6, e7]
               exact ⟨rfl, h9⟩)
            | (rw [et] at h91; exact ⟨rfl, by rw [sl_push_some hb, if_neg (fun q => h91 (by rw [q.1]))]; exact hRC, sl_fr.rf 11 M⟩)
            | (rw [es] at h101; exact ⟨rfl, by rw [sl_push_some hb, if_neg (fun q => by simp only [Int32.le_iff_toInt_le, nI_e] at h101; omega)]; exact hRC, sl_fr.rf 11 M⟩)
            | (rw [et] at h91
               have e5 : t0 = t := by (have e4 := congrArg Int32.toInt h91; simp only [nI_e] at e4; omega)
               subst e5
               rw [es] at h101
               rw [nI_clamp (by omega)]
               exact ⟨rfl, sl_better 11 M B x t0 s s0 hRC hb (by simp only [Int32.le_iff_toInt_le, nI_e] at h101; omega)⟩)
          · refine am_aload_n rfl dX5_find_104 ?_
            refine am_getr (j := 2) (by decide) rfl rfl rfl hTX5 (by decide) fl_X5_15 dX5_find_105 ?_
            refine am_iload_n rfl dX5_find_108 ?_
            refine am_iload_n rfl dX5_find_109 ?_
            refine am_iast (by decide) rfl (hv1) dX5_find_110 ?_
            refine am_vret rfl dX5_find_111 ?_
            first
            | (have h9 := sl_found 11 M B x t s hRC e9 hc
               have e7 : am_put (am_put (am_put M 12 x (nI t)) 13 x (nI s)) 14 B.2.2 (nI x) 11 4 + 1 = nI (B.2.2 + 1) := by (simp [am_rd, hRC.2.2.2, nI_1])
               have e6 : (am_put (am_put M 12 x (nI t)) 13 x (nI s) 11 4).toNatClampNeg = B.2.2 := by (rw [am_put_ne _ _ _ _ (by decide), am_put_ne _ _ _ _ (by decide), hRC.2.2.2, nI_clamp (by omega)])
               rw [nI_clamp (by omega), e6, e7]
               exact ⟨rfl, h9⟩)
            | (rw [et] at h91; exact ⟨rfl, by rw [sl_push_some hb, if_neg (fun q => h91 (by rw [q.1]))]; exact hRC, sl_fr.rf 11 M⟩)
            | (rw [es] at h101; exact ⟨rfl, by rw [sl_push_some hb, if_neg (fun q => by simp only [Int32.le_iff_toInt_le, nI_e] at h101; omega)]; exact hRC, sl_fr.rf 11 M⟩)
            | (rw [et] at h91
               have e5 : t0 = t := by (have e4 := congrArg Int32.toInt h91; simp only [nI_e] at e4; omega)
               subst e5
               rw [es] at h101
               rw [nI_clamp (by omega)]
               exact ⟨rfl, sl_better 11 M B x t0 s s0 hRC hb (by simp only [Int32.le_iff_toInt_le, nI_e] at h101; omega)⟩)
      · have e9 : B.1 x = none := (sl_enc_none hok x).mp (by rw [← hRC.1 x hx]; rw [nI_clamp (by omega)] at h30; exact h30)
        have hc := hok.lt hx e9
        have hv2 : vp_in (M 11 4) 117 := by rw [hRC.2.2.2]; exact vp_in_nI hc (by omega)
        have hv3 : vp_in (am_put (am_put M 12 (nI x).toNatClampNeg (nI t)) 13 (nI x).toNatClampNeg (nI s) 11 4) 117 := by rw [am_put_ne _ _ _ _ (by decide), am_put_ne _ _ _ _ (by decide), hRC.2.2.2]; exact vp_in_nI hc (by omega)
        refine am_aload_n rfl dX5_find_33 ?_
        refine am_getr (j := 3) (by decide) rfl rfl rfl hTX5 (by decide) fl_X5_18 dX5_find_34 ?_
        refine am_aload_n rfl dX5_find_37 ?_
        refine am_geti (j := 4) (by decide) rfl rfl rfl hTX5 (by decide) fl_X5_21 dX5_find_38 ?_
        refine am_callNi (c_X6_isIndexOf ad M 14 117 (M 11 4) (by decide) rfl (by decide) hv2) okX6_isIndexOf ml_X5_36 rfl ⟨by decide, by decide⟩ (Nat.le_of_ble_eq_true rfl) rfl dX5_find_41 ?_
        refine am_ifb_eq (tgt := 84) (by decide) dX5_find_44 (fun h44 => ?_) (fun h44 => ?_)
        · cases h44
        · refine am_aload_n rfl dX5_find_47 ?_
          refine am_getr (j := 1) (by decide) rfl rfl rfl hTX5 (by decide) fl_X5_9 dX5_find_48 ?_
          refine am_iload_n rfl dX5_find_51 ?_
          refine am_iload_n rfl dX5_find_52 ?_
          refine am_iast (by decide) rfl (hv1) dX5_find_53 ?_
          refine am_aload_n rfl dX5_find_54 ?_
          refine am_getr (j := 2) (by decide) rfl rfl rfl hTX5 (by decide) fl_X5_15 dX5_find_55 ?_
          refine am_iload_n rfl dX5_find_58 ?_
          refine am_iload_n rfl dX5_find_59 ?_
          refine am_iast (by decide) rfl (hv1) dX5_find_60 ?_
          refine am_aload_n rfl dX5_find_61 ?_
          refine am_getr (j := 3) (by decide) rfl rfl rfl hTX5 (by decide) fl_X5_18 dX5_find_62 ?_
          refine am_aload_n rfl dX5_find_65 ?_
          refine am_geti (j := 4) (by decide) rfl rfl rfl hTX5 (by decide) fl_X5_21 dX5_find_66 ?_
          refine am_iload_n rfl dX5_find_69 ?_
          refine am_iast (by decide) rfl (hv3) dX5_find_70 ?_
          refine am_aload_n rfl dX5_find_71 ?_
          refine am_dup rfl dX5_find_72 ?_
          refine am_geti (j := 4) (by decide) rfl rfl rfl hTX5 (by decide) fl_X5_21 dX5_find_73 ?_
          refine am_iconst (v := 1) (by decide) dX5_find_76 ?_
          refine am_iadd dX5_find_77 ?_
          refine am_puti (j := 4) (by decide) rfl rfl rfl hTX5 tyX5_ok nmX5 (by decide) fl_X5_21 rfl rfl rfl rfl dX5_find_78 ?_
          refine am_goto (tgt := 111) (by decide) dX5_find_81 ?_
          refine am_vret rfl dX5_find_111 ?_
          first
          | (have h9 := sl_found 11 M B x t s hRC e9 hc
             have e7 : am_put (am_put (am_put M 12 x (nI t)) 13 x (nI s)) 14 B.2.2 (nI x) 11 4 + 1 = nI (B.2.2 + 1) := by (simp [am_rd, hRC.2.2.2, nI_1])
             have e6 : (am_put (am_put M 12 x (nI t)) 13 x (nI s) 11 4).toNatClampNeg = B.2.2 := by (rw [am_put_ne _ _ _ _ (by decide), am_put_ne _ _ _ _ (by decide), hRC.2.2.2, nI_clamp (by omega)])
             rw [nI_clamp (by omega), e6, e7]
             exact ⟨rfl, h9⟩)
          | (rw [et] at h91; exact ⟨rfl, by rw [sl_push_some hb, if_neg (fun q => h91 (by rw [q.1]))]; exact hRC, sl_fr.rf 11 M⟩)
          | (rw [es] at h101; exact ⟨rfl, by rw [sl_push_some hb, if_neg (fun q => by simp only [Int32.le_iff_toInt_le, nI_e] at h101; omega)]; exact hRC, sl_fr.rf 11 M⟩)
          | (rw [et] at h91
             have e5 : t0 = t := by (have e4 := congrArg Int32.toInt h91; simp only [nI_e] at e4; omega)
             subst e5
             rw [es] at h101
             rw [nI_clamp (by omega)]
             exact ⟨rfl, sl_better 11 M B x t0 s s0 hRC hb (by simp only [Int32.le_iff_toInt_le, nI_e] at h101; omega)⟩)
    · cases h19

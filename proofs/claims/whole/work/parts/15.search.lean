theorem fb_holes : ∀ (m n : Nat) (f : Nat → Nat), (∀ i, i < n → f i < m) → (∀ i j, i < j → j < n → f i ≠ f j) → n ≤ m := by
  intro m
  induction m with
  | zero =>
    intro n f h1 _
    rcases Nat.eq_zero_or_pos n with h | h
    · omega
    · exact absurd (h1 0 h) (Nat.not_lt_zero _)
  | succ m ih =>
    intro n f h1 h2
    by_cases hx : ∃ i, i < n ∧ f i = m
    · obtain ⟨a, ha, hfa⟩ := hx
      have hg := ih (n - 1) (fun i => if i < a then f i else f (i + 1)) (by
        intro i hi
        by_cases q : i < a
        · simp only [if_pos q]
          have b1 := h1 i (by omega)
          have b2 := h2 i a q ha
          omega
        · simp only [if_neg q]
          have b1 := h1 (i + 1) (by omega)
          have b2 := h2 a (i + 1) (by omega) (by omega)
          omega) (by
        intro i j hij hj
        by_cases q : i < a
        · by_cases r : j < a
          · simp only [if_pos q, if_pos r]
            exact h2 i j hij (by omega)
          · simp only [if_pos q, if_neg r]
            exact h2 i (j + 1) (by omega) (by omega)
        · have r : ¬ j < a := by omega
          simp only [if_neg q, if_neg r]
          exact h2 (i + 1) (j + 1) (by omega) (by omega))
      omega
    · have hg := ih n f (fun i hi => by
        have b1 := h1 i hi
        have b2 : f i ≠ m := fun e => hx ⟨i, hi, e⟩
        omega) h2
      omega
/-! the search: what each node's ticks are, the row of those found, how many they are -/
abbrev bf_B : Type := (Nat → Option Nat) × (Nat → Nat) × Nat
def bf_push (B : bf_B) (x d : Nat) : bf_B := match B.1 x with
  | some _ => B
  | none => (fun y => if y = x then some d else B.1 y, fun i => if i = B.2.2 then x else B.2.1 i, B.2.2 + 1)
def bf_fold (c : Int → Bool) (f : Int → Nat) (d : Nat) : Nat → Int → bf_B → bf_B
  | 0, _, B => B
  | n + 1, a, B => bf_fold c f d n (a + 1) (if c a = true then bf_push B (f a) d else B)
def bf_idx (v a l : Int) : Nat := ((v * 9 + a + 4) * 201 + l).toNat
def bf_w (x : Nat) : Int := ((x / 201 / 9 : Nat) : Int)
def bf_b (x : Nat) : Int := ((x / 201 % 9 : Nat) : Int) - 4
def bf_l (x : Nat) : Int := ((x % 201 : Nat) : Int)
/-- how far the neighbours of a change reach -/
def bf_lo (A J b : Int) : Int := max (-A) (b - J)
def bf_hi (A J b : Int) : Int := min A (b + J)
def bf_n (A J b : Int) : Nat := (bf_hi A J b - bf_lo A J b + 1).toNat
def bf_yes : Int → Bool := fun _ => true
def bf_stop (V : Int) (E : Int → Int → Bool) (x : Nat) : Prop := 200 < bf_l x + bf_w x ∨ bf_w x - bf_b x < 0 ∨ V < bf_w x - bf_b x ∨ E (bf_w x) (bf_b x) = false
noncomputable def bf_proc (V A J : Int) (E : Int → Int → Bool) (B : bf_B) (x : Nat) : bf_B := @ite _ (bf_stop V E x) (Classical.propDecidable _) B (bf_fold bf_yes (fun a => bf_idx (bf_w x - bf_b x) a (bf_l x + bf_w x)) ((B.1 x).getD 0 + 1) (bf_n A J (bf_b x)) (bf_lo A J (bf_b x)) B)
def bf_0 : bf_B := (fun _ => none, fun _ => 0, 0)
def bf_init (A J : Int) : bf_B := bf_fold bf_yes (fun a => bf_idx 0 a 0) 0 (bf_n A J 0) (bf_lo A J 0) bf_0
noncomputable def bf_T (V A J : Int) (E : Int → Int → Bool) : Nat → bf_B
  | 0 => bf_init A J
  | k + 1 => if k < (bf_T V A J E k).2.2 then bf_proc V A J E (bf_T V A J E k) ((bf_T V A J E k).2.1 k) else bf_T V A J E k
def bf_ok (B : bf_B) : Prop := (∀ i, i < B.2.2 → B.2.1 i < 23517 ∧ ∃ d, B.1 (B.2.1 i) = some d ∧ d ≤ i) ∧ (∀ x d, B.1 x = some d → ∃ i, i < B.2.2 ∧ B.2.1 i = x) ∧ ∀ i j, i < j → j < B.2.2 → B.2.1 i ≠ B.2.1 j
theorem bf_ok_0 : bf_ok bf_0 := ⟨fun i h => absurd h (Nat.not_lt_zero _), fun x d h => by simp [bf_0] at h, fun i j _ h => absurd h (Nat.not_lt_zero _)⟩
theorem bf_ok.lt {B : bf_B} (h : bf_ok B) {x : Nat} (hx : x < 23517) (hn : B.1 x = none) : B.2.2 < 23517 := by
  have h1 := fb_holes 23517 (B.2.2 + 1) (fun i => if i < B.2.2 then B.2.1 i else x) (by
    intro i hi
    by_cases q : i < B.2.2
    · simp only [if_pos q]; exact (h.1 i q).1
    · simp only [if_neg q]; exact hx) (by
    intro i j hij hj
    have hi : i < B.2.2 := by omega
    by_cases q : j < B.2.2
    · simp only [if_pos hi, if_pos q]; exact h.2.2 i j hij q
    · simp only [if_pos hi, if_neg q]
      intro e
      obtain ⟨-, d, hd, -⟩ := h.1 i hi
      rw [e, hn] at hd
      cases hd)
  omega
theorem bf_ok.le {B : bf_B} (h : bf_ok B) : B.2.2 ≤ 23517 := fb_holes 23517 B.2.2 B.2.1 (fun i hi => (h.1 i hi).1) h.2.2
theorem bf_push_some {B : bf_B} {x d e : Nat} (h : B.1 x = some e) : bf_push B x d = B := by simp [bf_push, h]
theorem bf_push_none {B : bf_B} {x d : Nat} (h : B.1 x = none) : bf_push B x d = (fun y => if y = x then some d else B.1 y, fun i => if i = B.2.2 then x else B.2.1 i, B.2.2 + 1) := by simp [bf_push, h]
theorem bf_push_ok {B : bf_B} (h : bf_ok B) {x d : Nat} (hx : x < 23517) (hd : d ≤ B.2.2) : bf_ok (bf_push B x d) := by
  cases hb : B.1 x with
  | some e => rw [bf_push_some hb]; exact h
  | none =>
    rw [bf_push_none hb]
    refine ⟨fun i hi => ?_, fun y e he => ?_, fun i j hij hj => ?_⟩
    · dsimp only at hi ⊢
      by_cases q : i = B.2.2
      · rw [if_pos q]
        exact ⟨hx, d, by rw [if_pos rfl], by omega⟩
      · rw [if_neg q]
        obtain ⟨h1, e, h2, h3⟩ := h.1 i (by omega)
        refine ⟨h1, e, ?_, h3⟩
        have hne : B.2.1 i ≠ x := fun z => by rw [z, hb] at h2; cases h2
        rw [if_neg hne]
        exact h2
    · dsimp only at he ⊢
      by_cases q : y = x
      · exact ⟨B.2.2, by omega, by rw [if_pos rfl, q]⟩
      · rw [if_neg q] at he
        obtain ⟨i, h1, h2⟩ := h.2.1 y e he
        exact ⟨i, by omega, by rw [if_neg (by omega)]; exact h2⟩
    · dsimp only at hj ⊢
      by_cases q : j = B.2.2
      · rw [if_pos q, if_neg (by omega)]
        intro z
        obtain ⟨-, e, h2, -⟩ := h.1 i (by omega)
        rw [z, hb] at h2
        cases h2
      · rw [if_neg q, if_neg (by omega)]
        exact h.2.2 i j hij (by omega)
theorem bf_push_c (B : bf_B) (x d : Nat) : B.2.2 ≤ (bf_push B x d).2.2 ∧ (∀ i, i < B.2.2 → (bf_push B x d).2.1 i = B.2.1 i) ∧ ∀ y e, B.1 y = some e → (bf_push B x d).1 y = some e := by
  cases hb : B.1 x with
  | some e => rw [bf_push_some hb]; exact ⟨Nat.le_refl _, fun _ _ => rfl, fun _ _ h => h⟩
  | none =>
    rw [bf_push_none hb]
    refine ⟨Nat.le_succ _, fun i hi => ?_, fun y e he => ?_⟩
    · dsimp only; rw [if_neg (by omega)]
    · dsimp only
      have : y ≠ x := fun z => by rw [z, hb] at he; cases he
      rw [if_neg this]
      exact he
def bf_le (B C : bf_B) : Prop := B.2.2 ≤ C.2.2 ∧ (∀ i, i < B.2.2 → C.2.1 i = B.2.1 i) ∧ ∀ y e, B.1 y = some e → C.1 y = some e
theorem bf_le.rf (B : bf_B) : bf_le B B := ⟨Nat.le_refl _, fun _ _ => rfl, fun _ _ h => h⟩
theorem bf_le.tr {B C D : bf_B} (h : bf_le B C) (k : bf_le C D) : bf_le B D := ⟨Nat.le_trans h.1 k.1, fun i hi => (k.2.1 i (Nat.lt_of_lt_of_le hi h.1)).trans (h.2.1 i hi), fun y e he => k.2.2 y e (h.2.2 y e he)⟩
theorem bf_fold_ok (c : Int → Bool) (f : Int → Nat) (d : Nat) : ∀ (n : Nat) (a : Int) (B : bf_B), bf_ok B → d ≤ B.2.2 → (∀ a2, a ≤ a2 → a2 < a + n → c a2 = true → f a2 < 23517) → bf_ok (bf_fold c f d n a B) ∧ bf_le B (bf_fold c f d n a B) := by
  intro n
  induction n with
  | zero => intro a B h _ _; exact ⟨h, bf_le.rf _⟩
  | succ n ih =>
    intro a B h hd hf
    rw [bf_fold]
    by_cases q : c a = true
    · rw [if_pos q]
      have h1 := bf_push_ok h (hf a (by omega) (by omega) q) hd
      have h2 := bf_push_c B (f a) d
      obtain ⟨h3, h4⟩ := ih (a + 1) _ h1 (Nat.le_trans hd h2.1) (fun a2 p1 p2 p3 => hf a2 (by omega) (by omega) p3)
      exact ⟨h3, bf_le.tr h2 h4⟩
    · rw [if_neg q]
      exact ih (a + 1) B h hd (fun a2 p1 p2 p3 => hf a2 (by omega) (by omega) p3)
theorem bf_idx_lt {v a l : Int} (h1 : 0 ≤ v) (h2 : v ≤ 12) (h3 : -4 ≤ a) (h4 : a ≤ 4) (h5 : 0 ≤ l) (h6 : l ≤ 200) : bf_idx v a l < 23517 ∧ ((bf_idx v a l : Nat) : Int) = (v * 9 + a + 4) * 201 + l := by
  unfold bf_idx
  omega
theorem bf_wbl {x : Nat} (hx : x < 23517) : 0 ≤ bf_w x ∧ bf_w x ≤ 12 ∧ -4 ≤ bf_b x ∧ bf_b x ≤ 4 ∧ 0 ≤ bf_l x ∧ bf_l x ≤ 200 := by
  unfold bf_w bf_b bf_l
  omega
set_option maxRecDepth 100000 in
set_option maxHeartbeats 400000 in
theorem lp_fill (ad : Nat → Nat) (I : List Nat) (k z : Nat) (hk : k ∈ I) (hs : am_shp k = .inr (false, z)) (hz : z < 100000) (M : am_M) (v : Int32) : ∀ (n j : Nat), j ≤ z → z - j < n → am_W ydJ7_fill_53178 ad I (am_un (am_row M k (fun q => if q < z then v else M k q))) 5 [some (.ref (ad k)), some (.int v), some (.int (nI j)), some (.int (nI z))] [] (am_row M k (fun q => if q < j then v else M k q)) := by
  intro n
  induction n with
  | zero => intro j _ h; omega
  | succ n ih =>
    intro j hj hn
    refine am_iload_n rfl dJ7_fill_53178_5 ?_
    refine am_iload_n rfl dJ7_fill_53178_6 ?_
    refine am_icmp_ge (tgt := 20) (by decide) dJ7_fill_53178_7 (fun h7 => ?_) (fun h7 => ?_)
    · refine am_vret rfl dJ7_fill_53178_20 ?_
      obtain rfl : j = z := (by simp only [nI_e, Int32.le_iff_toInt_le] at h7; omega)
      exact ⟨rfl, rfl⟩
    · refine am_aload_n rfl dJ7_fill_53178_10 ?_
      refine am_iload_n rfl dJ7_fill_53178_11 ?_
      refine am_iload_n rfl dJ7_fill_53178_12 ?_
      refine am_iast hk hs (vp_in_nI (by simp only [nI_e, Int32.le_iff_toInt_le] at h7; omega) (by omega)) dJ7_fill_53178_13 ?_
      refine am_iinc (v := nI (j + 1)) rfl (nI_inc j) (by decide) dJ7_fill_53178_14 ?_
      refine am_goto (tgt := 5) (by decide) dJ7_fill_53178_17 ?_
      refine am_M_eq ?_ (ih (j + 1) (by simp only [nI_e, Int32.le_iff_toInt_le] at h7; omega) (by simp only [nI_e, Int32.le_iff_toInt_le] at h7; omega))
      rw [am_put_row, nI_clamp (by omega)]
      congr 1
      funext q
      unfold upd
      by_cases h : q = j
      · subst h
        simp
      · rw [if_neg h]
        dsimp only
        by_cases h2 : q < j
        · rw [if_pos h2, if_pos (by omega)]
        · rw [if_neg h2, if_neg (by omega)]
set_option maxRecDepth 100000 in
set_option maxHeartbeats 400000 in
theorem c_J7_fill (ad : Nat → Nat) (I : List Nat) (k z : Nat) (hk : k ∈ I) (hs : am_shp k = .inr (false, z)) (hz : z < 100000) (M : am_M) (v : Int32) : am_C ydJ7_fill_53178 ad I [.ref (ad k), .int v] M (am_un (am_row M k (fun q => if q < z then v else M k q))) := by
  refine am_ofW (by decide +kernel) (by simp [Value.category]) (Nat.le_of_ble_eq_true rfl) rfl ?_
  refine am_iconst (v := 0) (by decide) dJ7_fill_53178_0 ?_
  refine am_istore_n (by decide) dJ7_fill_53178_1 ?_
  refine am_aload_n rfl dJ7_fill_53178_2 ?_
  refine am_alen (v := nI z) hk hs (rfl) dJ7_fill_53178_3 ?_
  refine am_istore_n (by decide) dJ7_fill_53178_4 ?_
  refine am_M_eq ?_ (lp_fill ad I k z hk hs hz M v (z + 1) 0 (by omega) (by omega))
  funext a
  unfold am_row
  by_cases h : a = k <;> simp [h]

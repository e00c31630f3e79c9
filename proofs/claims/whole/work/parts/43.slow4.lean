/-! the search for slowings, to its end: what each state's ticks and steps are -/
def sl_lx (t s t' s' : Nat) : Prop := t < t' ∨ (t = t' ∧ s ≤ s')
def sl_tr (V A J : Int) (E : Int → Int → Bool) (v a b : Int) : Prop := (0 ≤ v ∧ v ≤ V) ∧ (-A ≤ a ∧ a ≤ A) ∧ (-A ≤ b ∧ b ≤ A) ∧ (b - J ≤ a ∧ a ≤ b + J) ∧ (0 ≤ v + b ∧ v + b ≤ 12) ∧ E (v + b) b = true
def sl_D (B : sl_B) (i : Nat) : Nat := ((B.1 (B.2.1 i)).getD (0, 0)).1
def sl_srt (B : sl_B) (k : Nat) : Prop := (∀ i j, i ≤ j → j < B.2.2 → sl_D B i ≤ sl_D B j) ∧ ∀ i, i < B.2.2 → k < B.2.2 → sl_D B i ≤ sl_D B k + 1
def sl_pr (V A J : Int) (E : Int → Int → Bool) (F : Nat → Option (Nat × Nat)) : Prop := ∀ (v a : Int) (t s : Nat), 0 ≤ v → v ≤ 12 → -4 ≤ a → a ≤ 4 → F (sx v a) = some (t + 1, s) → ∃ b s0, sl_tr V A J E v a b ∧ F (sx (v + b) b) = some (t, s0) ∧ s = s0 + (v + b).toNat
def sl_zr (A J : Int) (F : Nat → Option (Nat × Nat)) : Prop := (∀ x s, F x = some (0, s) → s = 0 ∧ ∃ a, (-4 ≤ a ∧ a ≤ 4) ∧ x = sx 0 a ∧ sl_rest A J a = true) ∧ ∀ a, -4 ≤ a → a ≤ 4 → sl_rest A J a = true → F (sx 0 a) = some (0, 0)
def sl_lw (V A J : Int) (E : Int → Int → Bool) (B : sl_B) (k : Nat) : Prop := ∀ i, i < k → i < B.2.2 → ∀ v a b t s, sl_tr V A J E v a b → B.2.1 i = sx (v + b) b → B.1 (sx (v + b) b) = some (t, s) → ∃ t' s', B.1 (sx v a) = some (t', s') ∧ sl_lx t' s' (t + 1) (s + (v + b).toNat)
def sl_up (o : Option (Nat × Nat)) (t s : Nat) : Option (Nat × Nat) := match o with
  | none => some (t, s)
  | some p => if p.1 = t ∧ s < p.2 then some (p.1, s) else some p
theorem sl_push_1 (B : sl_B) (x t s y : Nat) : (sl_push B x t s).1 y = if y = x then sl_up (B.1 x) t s else B.1 y := by
  cases hb : B.1 x with
  | none =>
    rw [sl_push_none hb]
    rfl
  | some p =>
    obtain ⟨t0, s0⟩ := p
    rw [sl_push_some hb]
    split
    · rename_i h
      by_cases q : y = x
      · simp [q, sl_up, h]
      · simp [q]
    · rename_i h
      by_cases q : y = x
      · subst q
        simp [sl_up, h, hb]
      · simp [q]
theorem sl_D_of {B : sl_B} (hok : sl_ok B) {i : Nat} (hi : i < B.2.2) : ∃ s, B.1 (B.2.1 i) = some (sl_D B i, s) := by
  obtain ⟨-, t, s, h, -⟩ := hok.1 i hi
  unfold sl_D
  rw [h]
  exact ⟨s, rfl⟩
theorem sl_push_D {B : sl_B} (hok : sl_ok B) {x t s i : Nat} (hi : i < B.2.2) : sl_D (sl_push B x t s) i = sl_D B i := by
  have h := sl_push_le B x t s
  obtain ⟨s0, h0⟩ := sl_D_of hok hi
  obtain ⟨s1, h1, -⟩ := h.2.2.1 _ _ _ h0
  unfold sl_D at h1 ⊢
  rw [h.2.1 i hi, h1]
  rfl
theorem sl_push_srt {B : sl_B} {k x s : Nat} (hok : sl_ok B) (hs : sl_srt B k) (hk : k < B.2.2) : sl_srt (sl_push B x (sl_D B k + 1) s) k := by
  have hD : ∀ i, i < B.2.2 → sl_D (sl_push B x (sl_D B k + 1) s) i = sl_D B i := fun i hi => sl_push_D hok hi
  have hcs : (sl_push B x (sl_D B k + 1) s).2.2 = B.2.2 ∨ ((sl_push B x (sl_D B k + 1) s).2.2 = B.2.2 + 1 ∧ sl_D (sl_push B x (sl_D B k + 1) s) B.2.2 = sl_D B k + 1) := by
    cases hb : B.1 x with
    | some p =>
      left
      rw [sl_push_some (t0 := p.1) (s0 := p.2) hb]
      split <;> rfl
    | none =>
      right
      rw [sl_push_none hb]
      simp [sl_D]
  rcases hcs with hc | ⟨hc, hl⟩
  · refine ⟨fun i j hij hj => ?_, fun i hi _ => ?_⟩
    · rw [hc] at hj
      rw [hD j hj, hD i (by omega)]
      exact hs.1 i j hij hj
    · rw [hc] at hi
      rw [hD k hk, hD i hi]
      exact hs.2 i hi hk
  · refine ⟨fun i j hij hj => ?_, fun i hi _ => ?_⟩
    · rw [hc] at hj
      by_cases q : j = B.2.2
      · subst q
        rw [hl]
        by_cases q2 : i = B.2.2
        · rw [q2, hl]; omega
        · rw [hD i (by omega)]
          exact hs.2 i (by omega) hk
      · rw [hD j (by omega), hD i (by omega)]
        exact hs.1 i j hij (by omega)
    · rw [hc] at hi
      rw [hD k hk]
      by_cases q : i = B.2.2
      · rw [q, hl]; omega
      · rw [hD i (by omega)]
        exact hs.2 i (by omega) hk
/-- no tick is later than the next to come -/
theorem sl_srt.top {B : sl_B} {k : Nat} (hs : sl_srt B k) (hok : sl_ok B) (hk : k < B.2.2) {y t s : Nat} (hy : B.1 y = some (t, s)) : t ≤ sl_D B k + 1 := by
  obtain ⟨i, h1, h2⟩ := hok.2.1 y _ hy
  have h3 := hs.2 i h1 hk
  unfold sl_D at h3 ⊢
  rw [h2, hy] at h3
  exact h3
theorem sx_inj {v a v' a' : Int} (h1 : 0 ≤ v) (h3 : -4 ≤ a) (h4 : a ≤ 4) (g1 : 0 ≤ v') (g3 : -4 ≤ a') (g4 : a' ≤ 4) (e : sx v a = sx v' a') : v = v' ∧ a = a' := by
  unfold sx at e
  omega
theorem sx_dec {x : Nat} (hx : x < 117) : sx (sl_w x) (sl_b x) = x := by
  unfold sx sl_w sl_b
  omega
theorem sl_push_keep {V A J : Int} {E : Int → Int → Bool} {k x : Nat} {w b a : Int} {wn t s : Nat} {B : sl_B} (hw : (wn : Int) = w) (hA : A ≤ 4) (htr : sl_tr V A J E (w - b) a b) (hx : x = sx w b) (hV : V ≤ 12)
    (hok : sl_ok B) (hs : sl_srt B k) (hk : k < B.2.2) (hkx : B.2.1 k = x) (hd : B.1 x = some (t, s)) (hp : sl_pr V A J E B.1) (hz : sl_zr A J B.1) (hl : sl_lw V A J E B k) :
    (sl_srt (sl_push B (sx (w - b) a) (t + 1) (s + wn)) k ∧ sl_pr V A J E (sl_push B (sx (w - b) a) (t + 1) (s + wn)).1 ∧ sl_zr A J (sl_push B (sx (w - b) a) (t + 1) (s + wn)).1 ∧ sl_lw V A J E (sl_push B (sx (w - b) a) (t + 1) (s + wn)) k) ∧ (sl_push B (sx (w - b) a) (t + 1) (s + wn)).1 x = some (t, s) ∧ ∃ t' s', (sl_push B (sx (w - b) a) (t + 1) (s + wn)).1 (sx (w - b) a) = some (t', s') ∧ sl_lx t' s' (t + 1) (s + wn) := by
  have hDk : sl_D B k = t := by
    unfold sl_D
    rw [hkx, hd]
    rfl
  have hle := sl_push_le B (sx (w - b) a) (t + 1) (s + wn)
  have hx2 : (sl_push B (sx (w - b) a) (t + 1) (s + wn)).1 x = some (t, s) := hle.2.2.2 x t s hd (by omega)
  have htop : ∀ {y t0 s0 : Nat}, B.1 y = some (t0, s0) → t0 ≤ t + 1 := fun hy => by
    have := hs.top hok hk hy
    omega
  obtain ⟨r1, r2, r3, r4, r5, r6⟩ := id htr
  refine ⟨⟨?_, ?_, ?_, ?_⟩, hx2, ?_⟩
  · have := sl_push_srt (x := sx (w - b) a) (s := s + wn) hok hs hk
    rwa [hDk] at this
  · intro v' a' t1 s1 g1 g2 g3 g4 he
    have hold : B.1 (sx v' a') = some (t1 + 1, s1) → ∃ b9 s0, sl_tr V A J E v' a' b9 ∧ (sl_push B (sx (w - b) a) (t + 1) (s + wn)).1 (sx (v' + b9) b9) = some (t1, s0) ∧ s1 = s0 + (v' + b9).toNat := by
      intro h
      obtain ⟨b9, s9, h1, h2, h3⟩ := hp v' a' t1 s1 g1 g2 g3 g4 h
      have h4 := htop h
      exact ⟨b9, s9, h1, hle.2.2.2 _ t1 s9 h2 (by omega), h3⟩
    rw [sl_push_1] at he
    by_cases q : sx v' a' = sx (w - b) a
    · rw [if_pos q] at he
      obtain ⟨e1, e2⟩ := sx_inj g1 g3 g4 r1.1 (by omega) (by omega) q
      have hnew : t1 + 1 = t + 1 → s1 = s + wn → ∃ b9 s0, sl_tr V A J E v' a' b9 ∧ (sl_push B (sx (w - b) a) (t + 1) (s + wn)).1 (sx (v' + b9) b9) = some (t1, s0) ∧ s1 = s0 + (v' + b9).toNat := by
        intro z1 z2
        refine ⟨b, s, by rw [e1, e2]; exact htr, ?_, ?_⟩
        · rw [e1, show w - b + b = w by omega, ← hx, hx2, show t1 = t by omega]
        · rw [e1, show w - b + b = w by omega]
          omega
      cases hb : B.1 (sx (w - b) a) with
      | none =>
        rw [hb] at he
        have he2 := Option.some.inj he
        exact hnew (congrArg Prod.fst he2).symm (congrArg Prod.snd he2).symm
      | some p =>
        rw [hb] at he
        unfold sl_up at he
        dsimp only at he
        split at he
        · rename_i hc
          have he2 := Option.some.inj he
          have z1 := congrArg Prod.fst he2
          have z2 := congrArg Prod.snd he2
          dsimp only at z1 z2
          exact hnew (by omega) (by omega)
        · exact hold (by rw [q, hb]; exact he)
    · rw [if_neg q] at he
      exact hold he
  · refine ⟨fun y s' he => ?_, fun a' g3 g4 hr => hle.2.2.2 _ 0 0 (hz.2 a' g3 g4 hr) (by omega)⟩
    rw [sl_push_1] at he
    by_cases q : y = sx (w - b) a
    · rw [if_pos q] at he
      cases hb : B.1 (sx (w - b) a) with
      | none =>
        rw [hb] at he
        have z1 := congrArg Prod.fst (Option.some.inj he)
        dsimp only at z1
        omega
      | some p =>
        rw [hb] at he
        unfold sl_up at he
        dsimp only at he
        split at he
        · rename_i hc
          have z1 := congrArg Prod.fst (Option.some.inj he)
          dsimp only at z1
          omega
        · exact hz.1 y s' (by rw [q, hb]; exact he)
    · rw [if_neg q] at he
      exact hz.1 y s' he
  · intro i hi hic v' a' b' t1 s1 htr' hord hF
    have hi2 : i < B.2.2 := by omega
    rw [hle.2.1 i hi2] at hord
    obtain ⟨si, h0⟩ := sl_D_of hok hi2
    have h1 := hs.1 i k (by omega) hk
    rw [hord] at h0
    have h2 := hle.2.2.2 _ _ _ h0 (by omega)
    rw [h2] at hF
    have hF2 := Option.some.inj hF
    have z1 := congrArg Prod.fst hF2
    have z2 := congrArg Prod.snd hF2
    dsimp only at z1 z2
    subst z1 z2
    obtain ⟨t', s', h3, h4⟩ := hl i hi hi2 v' a' b' _ _ htr' hord h0
    obtain ⟨s'', h5, h6⟩ := hle.2.2.1 _ _ _ h3
    refine ⟨t', s'', h5, ?_⟩
    rcases h4 with h4 | ⟨h4, h7⟩
    · exact Or.inl h4
    · exact Or.inr ⟨h4, by omega⟩
  · rw [sl_push_1, if_pos rfl]
    cases hb : B.1 (sx (w - b) a) with
    | none => exact ⟨_, _, rfl, Or.inr ⟨rfl, Nat.le_refl _⟩⟩
    | some p =>
      have h1 := htop (t0 := p.1) (s0 := p.2) hb
      unfold sl_up
      dsimp only
      split
      · rename_i hc
        exact ⟨_, _, rfl, Or.inr ⟨hc.1, Nat.le_refl _⟩⟩
      · rename_i hc
        refine ⟨p.1, p.2, rfl, ?_⟩
        by_cases z : p.1 = t + 1
        · exact Or.inr ⟨z, Nat.le_of_not_lt fun z2 => hc ⟨z, z2⟩⟩
        · exact Or.inl (by omega)
theorem sl_fold_keep {V A J : Int} {E : Int → Int → Bool} {k x : Nat} {w b : Int} {wn t s : Nat} (hw : (wn : Int) = w) (hw2 : w ≤ 12) (hA : A ≤ 4) (hx : x = sx w b) (hV : V ≤ 12) (hst : s ≤ 12 * t) :
    ∀ (n : Nat) (a : Int) (B : sl_B), (∀ a2, a ≤ a2 → a2 < a + n → sl_tr V A J E (w - b) a2 b) → sl_ok B → sl_srt B k → k < B.2.2 → B.2.1 k = x → B.1 x = some (t, s) → sl_pr V A J E B.1 → sl_zr A J B.1 → sl_lw V A J E B k →
    (sl_srt (sl_fold (fun a => sx (w - b) a) (t + 1) (s + wn) n a B) k ∧ sl_pr V A J E (sl_fold (fun a => sx (w - b) a) (t + 1) (s + wn) n a B).1 ∧ sl_zr A J (sl_fold (fun a => sx (w - b) a) (t + 1) (s + wn) n a B).1 ∧ sl_lw V A J E (sl_fold (fun a => sx (w - b) a) (t + 1) (s + wn) n a B) k) ∧ ((sl_fold (fun a => sx (w - b) a) (t + 1) (s + wn) n a B).1 x = some (t, s) ∧ (sl_fold (fun a => sx (w - b) a) (t + 1) (s + wn) n a B).2.1 k = x) ∧ ∀ a2, a ≤ a2 → a2 < a + n → ∃ t' s', (sl_fold (fun a => sx (w - b) a) (t + 1) (s + wn) n a B).1 (sx (w - b) a2) = some (t', s') ∧ sl_lx t' s' (t + 1) (s + wn) := by
  intro n
  induction n with
  | zero => intro a B _ _ hs _ hkx hd hp hz hl; exact ⟨⟨hs, hp, hz, hl⟩, ⟨hd, hkx⟩, fun a2 _ _ => by omega⟩
  | succ n ih =>
    intro a B ha hok hs hk hkx hd hp hz hl
    rw [sl_fold]
    have h0 := ha a (by omega) (by omega)
    obtain ⟨⟨k1, k2, k3, k4⟩, k5, t', s', k6, k7⟩ := sl_push_keep hw hA h0 hx hV hok hs hk hkx hd hp hz hl
    have hle := sl_push_le B (sx (w - b) a) (t + 1) (s + wn)
    obtain ⟨r1, r2, r3, r4, r5, r6⟩ := id h0
    have hsm := hok.small hd
    have hok2 := sl_push_ok (x := sx (w - b) a) (t := t + 1) (s := s + wn) hok (sx_lt r1.1 (by omega) (by omega) (by omega)).1 hsm.2.1 (by omega)
    obtain ⟨j1, j2, j3⟩ := ih (a + 1) _ (fun a2 p1 p2 => ha a2 (by omega) (by omega)) hok2 k1 (Nat.lt_of_lt_of_le hk hle.1) ((hle.2.1 k hk).trans hkx) k5 k2 k3 k4
    refine ⟨j1, j2, fun a2 p1 p2 => ?_⟩
    by_cases q : a2 = a
    · subst q
      have hle2 := (sl_fold_ok (fun a => sx (w - b) a) (t + 1) (s + wn) n (a2 + 1) _ hok2 (Nat.le_trans hsm.2.1 hle.1) (by omega) (fun a3 p1 p2 => by
        obtain ⟨q1, q2, q3, -⟩ := ha a3 (by omega) (by omega)
        exact (sx_lt q1.1 (by omega) (by omega) (by omega)).1)).2
      obtain ⟨s'', h5, h6⟩ := hle2.2.2.1 _ _ _ k6
      refine ⟨t', s'', h5, ?_⟩
      rcases k7 with k7 | ⟨k7, k8⟩
      · exact Or.inl k7
      · exact Or.inr ⟨k7, by omega⟩
    · exact j3 a2 (by omega) (by omega)
theorem sl_srt_next {B : sl_B} {k : Nat} (hs : sl_srt B k) (hk : k < B.2.2) : sl_srt B (k + 1) := by
  refine ⟨hs.1, fun i hi hk1 => ?_⟩
  have h1 := hs.2 i hi hk
  have h2 := hs.1 k (k + 1) (by omega) hk1
  omega
theorem sl_init_keep {A J : Int} : ∀ (n : Nat) (a : Int) (B : sl_B), -4 ≤ a → a + n = 5 → sl_ok B → (∀ x p, B.1 x = some p → p = (0, 0) ∧ ∃ a', (-4 ≤ a' ∧ a' ≤ 4) ∧ x = sx 0 a' ∧ sl_rest A J a' = true) → (∀ a', -4 ≤ a' → a' < a → sl_rest A J a' = true → B.1 (sx 0 a') = some (0, 0)) →
    (∀ x p, (sl_foldc (sl_rest A J) (fun a => sx 0 a) 0 0 n a B).1 x = some p → p = (0, 0) ∧ ∃ a', (-4 ≤ a' ∧ a' ≤ 4) ∧ x = sx 0 a' ∧ sl_rest A J a' = true) ∧ ∀ a', -4 ≤ a' → a' < a + n → sl_rest A J a' = true → (sl_foldc (sl_rest A J) (fun a => sx 0 a) 0 0 n a B).1 (sx 0 a') = some (0, 0) := by
  intro n
  induction n with
  | zero => intro a B h4 h5 hok h1 h2; exact ⟨h1, fun a' p1 p2 => h2 a' p1 (by omega)⟩
  | succ n ih =>
    intro a B h4 h5 hok h1 h2
    rw [sl_foldc]
    have hok2 : sl_ok (if sl_rest A J a = true then sl_push B (sx 0 a) 0 0 else B) := by
      split
      · exact sl_push_ok hok (sx_lt (by omega) (by omega) (by omega) (by omega)).1 (Nat.zero_le _) (Nat.zero_le _)
      · exact hok
    have h9 := ih (a + 1) _ (by omega) (by omega) hok2 (fun x p he => by
      split at he
      · rename_i hc
        rw [sl_push_1] at he
        by_cases q : x = sx 0 a
        · rw [if_pos q] at he
          cases hb : B.1 (sx 0 a) with
          | none =>
            rw [hb] at he
            exact ⟨(Option.some.inj he).symm, a, ⟨by omega, by omega⟩, q, hc⟩
          | some p2 =>
            rw [hb] at he
            have h7 := (h1 _ _ hb).1
            subst h7
            exact h1 x p (by rw [q, hb]; exact he)
        · rw [if_neg q] at he
          exact h1 x p he
      · exact h1 x p he) (fun a' p1 p2 hr => by
      by_cases q : a' = a
      · subst q
        rw [if_pos hr, sl_push_1, if_pos rfl]
        cases hb : B.1 (sx 0 a') with
        | none => rfl
        | some p2 =>
          have := (h1 _ _ hb).1
          subst this
          rfl
      · have h3 := h2 a' p1 (by omega) hr
        split
        · exact ((sl_push_le B (sx 0 a) 0 0).2.2.1 _ _ _ h3).elim fun s1 h => by rw [h.1, show s1 = 0 by omega]
        · exact h3)
    refine ⟨h9.1, fun a' p1 p2 hr => h9.2 a' p1 (by omega) hr⟩
/-- the search's state at any time -/
theorem sl_T_keep {V A J : Int} {E : Int → Int → Bool} (hV : V ≤ 12) (hA : A ≤ 4) (hE : ∀ w b, 0 ≤ w → w ≤ 12 → -4 ≤ b → b ≤ 4 → E w b = true → -A ≤ b ∧ b ≤ A) : ∀ k, sl_srt (sl_T V A J E k) k ∧ sl_pr V A J E (sl_T V A J E k).1 ∧ sl_zr A J (sl_T V A J E k).1 ∧ sl_lw V A J E (sl_T V A J E k) k := by
  intro k
  induction k with
  | zero =>
    have h9 := sl_init_keep (A := A) (J := J) 9 (-4) sl_0 (by omega) (by omega) sl_ok_0 (fun x p h => by cases h) (fun a' p1 p2 => by omega)
    have h0 : ∀ x p, (sl_init A J).1 x = some p → p = (0, 0) ∧ ∃ a', (-4 ≤ a' ∧ a' ≤ 4) ∧ x = sx 0 a' ∧ sl_rest A J a' = true := h9.1
    have hok : sl_ok (sl_init A J) := sl_init_ok
    have hD : ∀ i, i < (sl_init A J).2.2 → sl_D (sl_init A J) i = 0 := fun i hi => by
      obtain ⟨s, h1⟩ := sl_D_of hok hi
      exact congrArg Prod.fst (h0 _ _ h1).1
    refine ⟨⟨fun i j hij hj => ?_, fun i hi _ => ?_⟩, fun v a t s _ _ _ _ he => ?_, ⟨fun x s he => ?_, fun a g3 g4 hr => h9.2 a g3 (by omega) hr⟩, fun i hi => absurd hi (Nat.not_lt_zero _)⟩
    · show sl_D (sl_init A J) i ≤ sl_D (sl_init A J) j
      rw [hD i (Nat.lt_of_le_of_lt hij hj), hD j hj]
      exact Nat.le_refl _
    · show sl_D (sl_init A J) i ≤ _
      rw [hD i hi]
      omega
    · have := congrArg Prod.fst (h0 _ _ he).1
      dsimp only at this
      omega
    · obtain ⟨h1, h2⟩ := h0 _ _ he
      exact ⟨congrArg Prod.snd h1, h2⟩
  | succ k ih =>
    obtain ⟨hs, hp, hz, hl⟩ := ih
    have hok : sl_ok (sl_T V A J E k) := sl_T_ok hV hA k
    rw [sl_T]
    split
    · rename_i hk
      obtain ⟨hx, t, s, hd, -, hst⟩ := hok.1 k hk
      have hpo := sl_proc_ok (J := J) (E := E) hV hA hok hx hd
      generalize hxe : (sl_T V A J E k).2.1 k = x at *
      have hw := sl_wb hx
      have hdx := sx_dec hx
      have hwn : ((x / 9 : Nat) : Int) = sl_w x := rfl
      by_cases q : sl_stop V E x
      · have e : sl_proc V A J E (sl_T V A J E k) x = sl_T V A J E k := by (unfold sl_proc; rw [if_pos q])
        rw [e]
        refine ⟨sl_srt_next hs hk, hp, hz, fun i hi hic v a b t1 s1 htr hord hF => ?_⟩
        by_cases q2 : i = k
        · exfalso
          rw [q2, hxe] at hord
          obtain ⟨r1, r2, r3, r4, r5, r6⟩ := htr
          obtain ⟨e1, e2⟩ := sx_inj hw.1 hw.2.2.1 hw.2.2.2 r5.1 (by omega) (by omega) (hdx.trans hord)
          unfold sl_stop at q
          rw [e1, e2, r6] at q
          simp at q
          omega
        · exact hl i (by omega) hic v a b t1 s1 htr hord hF
      · have q2 : ¬ sl_w x - sl_b x < 0 := fun z => q (Or.inl z)
        have q3 : ¬ V < sl_w x - sl_b x := fun z => q (Or.inr (Or.inl z))
        have q4 : E (sl_w x) (sl_b x) = true := by
          cases z : E (sl_w x) (sl_b x) with
          | true => rfl
          | false => exact absurd (Or.inr (Or.inr z)) q
        have q5 := hE _ _ hw.1 hw.2.1 hw.2.2.1 hw.2.2.2 q4
        have e : sl_proc V A J E (sl_T V A J E k) x = sl_fold (fun a => sx (sl_w x - sl_b x) a) (t + 1) (s + x / 9) (bf_n A J (sl_b x)) (bf_lo A J (sl_b x)) (sl_T V A J E k) := by
          unfold sl_proc
          rw [if_neg q, hd]
          rfl
        have hrng : ∀ a, bf_lo A J (sl_b x) ≤ a → a < bf_lo A J (sl_b x) + bf_n A J (sl_b x) → sl_tr V A J E (sl_w x - sl_b x) a (sl_b x) := fun a p1 p2 => by
          have p3 : -A ≤ a ∧ a ≤ A ∧ sl_b x - J ≤ a ∧ a ≤ sl_b x + J := by (unfold bf_n bf_lo bf_hi at *; omega)
          refine ⟨⟨by omega, by omega⟩, ⟨p3.1, p3.2.1⟩, q5, p3.2.2, ⟨by omega, by omega⟩, ?_⟩
          rw [show sl_w x - sl_b x + sl_b x = sl_w x by omega]
          exact q4
        have h9 := sl_fold_keep (V := V) (A := A) (J := J) (E := E) (k := k) (x := x) (w := sl_w x) (b := sl_b x) (wn := x / 9) (t := t) (s := s) hwn hw.2.1 hA hdx.symm hV hst (bf_n A J (sl_b x)) (bf_lo A J (sl_b x)) _ hrng hok hs hk hxe hd hp hz hl
        rw [e] at hpo ⊢
        obtain ⟨⟨k1, k2, k3, k4⟩, ⟨k5, k6⟩, k7⟩ := h9
        refine ⟨sl_srt_next k1 (Nat.lt_of_lt_of_le hk hpo.2.1), k2, k3, fun i hi hic v a b t1 s1 htr hord hF => ?_⟩
        by_cases q6 : i = k
        · rw [q6, k6] at hord
          obtain ⟨r1, r2, r3, r4, r5, r6⟩ := htr
          obtain ⟨e1, e2⟩ := sx_inj hw.1 hw.2.2.1 hw.2.2.2 r5.1 (by omega) (by omega) (hdx.trans hord)
          rw [← hord, k5] at hF
          have z1 := congrArg Prod.fst (Option.some.inj hF)
          have z2 := congrArg Prod.snd (Option.some.inj hF)
          dsimp only at z1 z2
          obtain ⟨t', s', m1, m2⟩ := k7 a (by unfold bf_lo; omega) (by unfold bf_n bf_lo bf_hi; omega)
          refine ⟨t', s', ?_, ?_⟩
          · rw [show v = sl_w x - sl_b x by omega]
            exact m1
          · rw [← z1, ← z2, show (v + b).toNat = x / 9 by omega]
            exact m2
        · exact k4 i (by omega) hic v a b t1 s1 htr hord hF
    · rename_i hk
      exact ⟨⟨hs.1, fun i hi h => absurd (Nat.lt_of_succ_lt h) hk⟩, hp, hz, fun i hi hic => hl i (by omega) hic⟩
/-- the ticks and steps of each state, found to the end -/
noncomputable def sl_F (V A J : Int) (E : Int → Int → Bool) : Nat → Option (Nat × Nat) := (sl_T V A J E 117).1
theorem sl_F_lw {V A J : Int} {E : Int → Int → Bool} (hV : V ≤ 12) (hA : A ≤ 4) (hE : ∀ w b, 0 ≤ w → w ≤ 12 → -4 ≤ b → b ≤ 4 → E w b = true → -A ≤ b ∧ b ≤ A) {v a b : Int} {t s : Nat} (htr : sl_tr V A J E v a b) (hF : sl_F V A J E (sx (v + b) b) = some (t, s)) : ∃ t' s', sl_F V A J E (sx v a) = some (t', s') ∧ sl_lx t' s' (t + 1) (s + (v + b).toNat) := by
  have hok := sl_T_ok (J := J) (E := E) hV hA 117
  obtain ⟨i, h1, h2⟩ := hok.2.1 _ _ hF
  have h3 := hok.le
  exact (sl_T_keep hV hA hE 117).2.2.2 i (by omega) h1 v a b t s htr h2 hF
theorem sl_F_pr {V A J : Int} {E : Int → Int → Bool} (hV : V ≤ 12) (hA : A ≤ 4) (hE : ∀ w b, 0 ≤ w → w ≤ 12 → -4 ≤ b → b ≤ 4 → E w b = true → -A ≤ b ∧ b ≤ A) : sl_pr V A J E (sl_F V A J E) := (sl_T_keep hV hA hE 117).2.1
theorem sl_F_zr {V A J : Int} {E : Int → Int → Bool} (hV : V ≤ 12) (hA : A ≤ 4) (hE : ∀ w b, 0 ≤ w → w ≤ 12 → -4 ≤ b → b ≤ 4 → E w b = true → -A ≤ b ∧ b ≤ A) : sl_zr A J (sl_F V A J E) := (sl_T_keep hV hA hE 117).2.2.1
theorem sl_F_sm {V A J : Int} {E : Int → Int → Bool} (hV : V ≤ 12) (hA : A ≤ 4) {x t s : Nat} (h : sl_F V A J E x = some (t, s)) : t < 117 ∧ s ≤ 12 * t ∧ x < 117 := by
  have := (sl_T_ok (J := J) (E := E) hV hA 117).small h
  omega

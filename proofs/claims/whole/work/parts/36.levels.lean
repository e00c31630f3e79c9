/-! what the search by breadth keeps: the row found is in the order of the ticks, and each node has a next one with one tick fewer -/
def bf_D (B : bf_B) (i : Nat) : Nat := (B.1 (B.2.1 i)).getD 0
/-- the next node of x by a change b, one tick nearer to rest -/
def bf_nx (V A J : Int) (E : Int → Int → Bool) (F : Nat → Option Nat) (v a l : Int) (d : Nat) (b : Int) : Prop := (-A ≤ b ∧ b ≤ A) ∧ (b - J ≤ a ∧ a ≤ b + J) ∧ (0 ≤ v + b ∧ v + b ≤ 12) ∧ E (v + b) b = true ∧ (0 ≤ l - (v + b) ∧ l - (v + b) ≤ 200) ∧ F (bf_idx (v + b) b (l - (v + b))) = some d
def bf_par (V A J : Int) (E : Int → Int → Bool) (B : bf_B) : Prop := ∀ (v a l : Int) (d : Nat), 0 ≤ v → v ≤ 12 → -4 ≤ a → a ≤ 4 → 0 ≤ l → l ≤ 200 → B.1 (bf_idx v a l) = some (d + 1) → ∃ b, bf_nx V A J E B.1 v a l d b
def bf_srt (B : bf_B) (k : Nat) : Prop := (∀ i j, i ≤ j → j < B.2.2 → bf_D B i ≤ bf_D B j) ∧ ∀ i, i < B.2.2 → k < B.2.2 → bf_D B i ≤ bf_D B k + 1
theorem bf_idx_inj {v a l v' a' l' : Int} (h1 : 0 ≤ v) (h2 : v ≤ 12) (h3 : -4 ≤ a) (h4 : a ≤ 4) (h5 : 0 ≤ l) (h6 : l ≤ 200) (g1 : 0 ≤ v') (g2 : v' ≤ 12) (g3 : -4 ≤ a') (g4 : a' ≤ 4) (g5 : 0 ≤ l') (g6 : l' ≤ 200) (e : bf_idx v a l = bf_idx v' a' l') : v = v' ∧ a = a' ∧ l = l' := by
  have e1 := (bf_idx_lt h1 h2 h3 h4 h5 h6).2
  have e2 := (bf_idx_lt g1 g2 g3 g4 g5 g6).2
  rw [e] at e1
  omega
theorem bf_idx_dec {x : Nat} (hx : x < 23517) : bf_idx (bf_w x) (bf_b x) (bf_l x) = x := by
  unfold bf_idx bf_w bf_b bf_l
  omega
theorem bf_D_of {B : bf_B} (hok : bf_ok B) {i : Nat} (hi : i < B.2.2) : B.1 (B.2.1 i) = some (bf_D B i) := by
  obtain ⟨-, d, h, -⟩ := hok.1 i hi
  unfold bf_D
  rw [h]
  rfl
theorem bf_push_D {B : bf_B} (hok : bf_ok B) {x d i : Nat} (hi : i < B.2.2) : bf_D (bf_push B x d) i = bf_D B i := by
  have h := bf_push_c B x d
  unfold bf_D
  rw [h.2.1 i hi, h.2.2 _ _ (bf_D_of hok hi), bf_D_of hok hi]
theorem bf_push_srt {B : bf_B} {k x : Nat} (hok : bf_ok B) (hs : bf_srt B k) (hk : k < B.2.2) : bf_srt (bf_push B x (bf_D B k + 1)) k := by
  cases hb : B.1 x with
  | some e => rw [bf_push_some hb]; exact hs
  | none =>
    have hc : (bf_push B x (bf_D B k + 1)).2.2 = B.2.2 + 1 := by rw [bf_push_none hb]
    have hl : bf_D (bf_push B x (bf_D B k + 1)) B.2.2 = bf_D B k + 1 := by
      rw [bf_push_none hb]
      simp [bf_D]
    have hD : ∀ i, i < B.2.2 → bf_D (bf_push B x (bf_D B k + 1)) i = bf_D B i := fun i hi => bf_push_D hok hi
    refine ⟨fun i j hij hj => ?_, fun i hi _ => ?_⟩
    · rw [hc] at hj
      by_cases q : j = B.2.2
      · subst q
        rw [hl]
        by_cases q2 : i = B.2.2
        · rw [q2, hl]; omega
        · rw [hD i (by omega)]
          exact hs.2 i (by omega) hk
      · rw [hD j (by omega), hD i (by omega)]
        exact hs.1 i j hij (by omega)
    · rw [hc] at hi
      rw [hD k hk]
      by_cases q : i = B.2.2
      · rw [q, hl]; omega
      · rw [hD i (by omega)]
        exact hs.2 i (by omega) hk
theorem bf_nx_mono {V A J : Int} {E : Int → Int → Bool} {F G : Nat → Option Nat} (h : ∀ y e, F y = some e → G y = some e) {v a l : Int} {d : Nat} {b : Int} (hn : bf_nx V A J E F v a l d b) : bf_nx V A J E G v a l d b := ⟨hn.1, hn.2.1, hn.2.2.1, hn.2.2.2.1, hn.2.2.2.2.1, h _ _ hn.2.2.2.2.2⟩
theorem bf_push_par {V A J : Int} {E : Int → Int → Bool} {B : bf_B} (hp : bf_par V A J E B) {x d : Nat} (hx : ∀ (v a l : Int), 0 ≤ v → v ≤ 12 → -4 ≤ a → a ≤ 4 → 0 ≤ l → l ≤ 200 → bf_idx v a l = x → ∀ e, d = e + 1 → ∃ b, bf_nx V A J E B.1 v a l e b) : bf_par V A J E (bf_push B x d) := by
  intro v a l e h1 h2 h3 h4 h5 h6 he
  have hm := (bf_push_c B x d).2.2
  cases hb : B.1 x with
  | some e9 =>
    rw [bf_push_some hb] at he ⊢
    exact hp v a l e h1 h2 h3 h4 h5 h6 he
  | none =>
    by_cases q : bf_idx v a l = x
    · rw [bf_push_none hb] at he
      dsimp only at he
      rw [if_pos q] at he
      obtain ⟨b, hn⟩ := hx v a l h1 h2 h3 h4 h5 h6 q e (Option.some.inj he)
      exact ⟨b, bf_nx_mono hm hn⟩
    · have he2 : B.1 (bf_idx v a l) = some (e + 1) := by
        rw [bf_push_none hb] at he
        dsimp only at he
        rwa [if_neg q] at he
      obtain ⟨b, hn⟩ := hp v a l e h1 h2 h3 h4 h5 h6 he2
      exact ⟨b, bf_nx_mono hm hn⟩
theorem bf_fold_keep {V A J : Int} {E : Int → Int → Bool} {k x : Nat} {w b l : Int} (h1 : 0 ≤ w) (h2 : w ≤ 12) (h3 : -A ≤ b) (h4 : b ≤ A) (hA : A ≤ 4) (h5 : 0 ≤ l) (h7 : l + w ≤ 200) (hE : E w b = true) (hv : 0 ≤ w - b) (hv2 : w - b ≤ 12) (hx : x = bf_idx w b l) :
    ∀ (n : Nat) (a : Int) (B : bf_B), bf_ok B → bf_srt B k → k < B.2.2 → B.2.1 k = x → bf_par V A J E B → (∀ a2, a ≤ a2 → a2 < a + n → (-A ≤ a2 ∧ a2 ≤ A) ∧ b - J ≤ a2 ∧ a2 ≤ b + J) → bf_srt (bf_fold bf_yes (fun a => bf_idx (w - b) a (l + w)) (bf_D B k + 1) n a B) k ∧ bf_par V A J E (bf_fold bf_yes (fun a => bf_idx (w - b) a (l + w)) (bf_D B k + 1) n a B) := by
  intro n
  induction n with
  | zero => intro a B _ hs _ _ hp _; exact ⟨hs, hp⟩
  | succ n ih =>
    intro a B hok hs hk hkx hp ha
    rw [bf_fold, show bf_yes a = true from rfl, if_pos rfl]
    have ha1 := ha a (by omega) (by omega)
    have hix := (bf_idx_lt (v := w - b) (a := a) (l := l + w) hv hv2 (by omega) (by omega) (by omega) h7).1
    have hDk := bf_D_of hok hk
    have hd : bf_D B k + 1 ≤ B.2.2 := (hok.small hDk).2
    have hok2 := bf_push_ok hok hix hd
    have hs2 := bf_push_srt (x := bf_idx (w - b) a (l + w)) hok hs hk
    have hc := bf_push_c B (bf_idx (w - b) a (l + w)) (bf_D B k + 1)
    have hD2 : bf_D (bf_push B (bf_idx (w - b) a (l + w)) (bf_D B k + 1)) k = bf_D B k := bf_push_D hok hk
    have hp2 : bf_par V A J E (bf_push B (bf_idx (w - b) a (l + w)) (bf_D B k + 1)) := by
      apply bf_push_par hp
      intro v' a' l' g1 g2 g3 g4 g5 g6 e9 e he
      obtain ⟨r1, r2, r3⟩ := bf_idx_inj g1 g2 g3 g4 g5 g6 hv hv2 (by omega) (by omega) (by omega) h7 e9
      subst r1 r2 r3
      refine ⟨b, ⟨h3, h4⟩, ha1.2, ?_, ?_, ?_, ?_⟩
      · omega
      · rw [show w - b + b = w by omega]; exact hE
      · omega
      · rw [show w - b + b = w by omega, show l + w - w = l by omega, ← hx, ← hkx, hDk]
        congr 1
        omega
    have h9 := ih (a + 1) _ hok2 hs2 (by omega) ((hc.2.1 k hk).trans hkx) hp2 (fun a2 p1 p2 => ha a2 (by omega) (by omega))
    rw [hD2] at h9
    exact h9
theorem bf_srt_next {B : bf_B} {k : Nat} (hs : bf_srt B k) (hk : k < B.2.2) : bf_srt B (k + 1) := by
  refine ⟨hs.1, fun i hi hk1 => ?_⟩
  have h1 := hs.2 i hi hk
  have h2 := hs.1 k (k + 1) (by omega) hk1
  omega
theorem bf_init_keep {V A J : Int} {E : Int → Int → Bool} : ∀ (n : Nat) (a : Int) (B : bf_B), bf_ok B → (∀ x d, B.1 x = some d → d = 0) → (∀ a2, a ≤ a2 → a2 < a + n → bf_idx 0 a2 0 < 23517) → (∀ x d, (bf_fold bf_yes (fun a => bf_idx 0 a 0) 0 n a B).1 x = some d → d = 0) := by
  intro n
  induction n with
  | zero => intro a B _ h _; exact h
  | succ n ih =>
    intro a B hok h hx
    rw [bf_fold, show bf_yes a = true from rfl, if_pos rfl]
    refine ih (a + 1) _ (bf_push_ok hok (hx a (by omega) (by omega)) (Nat.zero_le _)) (fun x d he => ?_) (fun a2 p1 p2 => hx a2 (by omega) (by omega))
    cases hb : B.1 (bf_idx 0 a 0) with
    | some e9 => rw [bf_push_some hb] at he; exact h x d he
    | none =>
      rw [bf_push_none hb] at he
      dsimp only at he
      by_cases q : x = bf_idx 0 a 0
      · rw [if_pos q] at he; exact (Option.some.inj he).symm
      · rw [if_neg q] at he; exact h x d he
/-- the search's row at any time -/
theorem bf_T_keep {V A J : Int} {E : Int → Int → Bool} (hV : V ≤ 12) (hA1 : 1 ≤ A) (hA : A ≤ 4) (hJ : 1 ≤ J) (hE : ∀ w b, 0 ≤ w → w ≤ 12 → -4 ≤ b → b ≤ 4 → E w b = true → -A ≤ b ∧ b ≤ A) : ∀ k, bf_srt (bf_T V A J E k) k ∧ bf_par V A J E (bf_T V A J E k) := by
  intro k
  induction k with
  | zero =>
    have h0 : ∀ x d, (bf_init A J).1 x = some d → d = 0 := by
      refine bf_init_keep (V := V) (A := A) (J := J) (E := E) _ _ _ bf_ok_0 (fun x d he => by cases he) (fun a p1 p2 => ?_)
      have p3 : -4 ≤ a := by (unfold bf_lo at p1; omega)
      have p4 : a ≤ 4 := by (unfold bf_n bf_lo bf_hi at *; omega)
      exact (bf_idx_lt (by omega) (by omega) p3 p4 (by omega) (by omega)).1
    have hok : bf_ok (bf_init A J) := bf_init_ok hA
    have hD : ∀ i, i < (bf_init A J).2.2 → bf_D (bf_init A J) i = 0 := fun i hi => h0 _ _ (bf_D_of hok hi)
    refine ⟨⟨fun i j hij hj => ?_, fun i hi _ => ?_⟩, fun v a l d _ _ _ _ _ _ he => ?_⟩
    · show bf_D (bf_init A J) i ≤ bf_D (bf_init A J) j
      rw [hD i (Nat.lt_of_le_of_lt hij hj), hD j hj]
      exact Nat.le_refl _
    · show bf_D (bf_init A J) i ≤ _
      rw [hD i hi]
      omega
    · exact absurd (h0 _ _ he) (by omega)
  | succ k ih =>
    obtain ⟨hs, hp⟩ := ih
    have hok : bf_ok (bf_T V A J E k) := bf_T_ok hV hA k
    rw [bf_T]
    split
    · rename_i hk
      obtain ⟨hx, d, hd, -⟩ := hok.1 k hk
      have hpo := bf_proc_ok (J := J) (E := E) hV hA hok hx hd
      generalize hxe : (bf_T V A J E k).2.1 k = x at *
      have hw := bf_wbl hx
      have hdD : bf_D (bf_T V A J E k) k = d := by
        unfold bf_D
        rw [hxe, hd]
        rfl
      by_cases q : bf_stop V E x
      · have e : bf_proc V A J E (bf_T V A J E k) x = bf_T V A J E k := by (unfold bf_proc; rw [if_pos q])
        rw [e]
        exact ⟨bf_srt_next hs hk, hp⟩
      · have e : bf_proc V A J E (bf_T V A J E k) x = bf_fold bf_yes (fun a => bf_idx (bf_w x - bf_b x) a (bf_l x + bf_w x)) (bf_D (bf_T V A J E k) k + 1) (bf_n A J (bf_b x)) (bf_lo A J (bf_b x)) (bf_T V A J E k) := by
          unfold bf_proc
          rw [if_neg q, hd, hdD]
          rfl
        have q1 : ¬ 200 < bf_l x + bf_w x := fun z => q (Or.inl z)
        have q2 : ¬ bf_w x - bf_b x < 0 := fun z => q (Or.inr (Or.inl z))
        have q3 : ¬ V < bf_w x - bf_b x := fun z => q (Or.inr (Or.inr (Or.inl z)))
        have q4 : E (bf_w x) (bf_b x) = true := by
          cases z : E (bf_w x) (bf_b x) with
          | true => rfl
          | false => exact absurd (Or.inr (Or.inr (Or.inr z))) q
        have q5 := hE _ _ hw.1 hw.2.1 hw.2.2.1 hw.2.2.2.1 q4
        have h9 := bf_fold_keep (V := V) (A := A) (J := J) (E := E) (k := k) (x := x) (w := bf_w x) (b := bf_b x) (l := bf_l x) hw.1 hw.2.1 q5.1 q5.2 hA hw.2.2.2.2.1 (by omega) q4 (by omega) (by omega) (bf_idx_dec hx).symm (bf_n A J (bf_b x)) (bf_lo A J (bf_b x)) _ hok hs hk hxe hp (fun a p1 p2 => by unfold bf_n bf_lo bf_hi at *; omega)
        rw [e] at hpo ⊢
        exact ⟨bf_srt_next h9.1 (Nat.lt_of_lt_of_le hk hpo.2.1), h9.2⟩
    · exact ⟨⟨hs.1, fun i hi h => absurd (Nat.lt_of_succ_lt h) (by omega)⟩, hp⟩
/-- of two times of the search: what is found stays -/
theorem bf_T_le {V A J : Int} {E : Int → Int → Bool} (hV : V ≤ 12) (hA : A ≤ 4) (k : Nat) : ∀ m, bf_le (bf_T V A J E k) (bf_T V A J E (k + m)) := by
  intro m
  induction m with
  | zero => exact bf_le.rf _
  | succ m ih =>
    refine ih.tr ?_
    show bf_le _ (bf_T V A J E (k + m + 1))
    rw [bf_T]
    split
    · rename_i h
      have hok : bf_ok (bf_T V A J E (k + m)) := bf_T_ok hV hA _
      obtain ⟨hx, d, hd, -⟩ := hok.1 _ h
      exact (bf_proc_ok (J := J) (E := E) hV hA hok hx hd).2
    · exact bf_le.rf _
theorem bf_T_end {V A J : Int} {E : Int → Int → Bool} {j : Nat} (h : j = (bf_T V A J E j).2.2) : ∀ m, bf_T V A J E (j + m) = bf_T V A J E j := by
  intro m
  induction m with
  | zero => rfl
  | succ m ih =>
    have e : bf_T V A J E (j + (m + 1)) = if j + m < (bf_T V A J E (j + m)).2.2 then bf_proc V A J E (bf_T V A J E (j + m)) ((bf_T V A J E (j + m)).2.1 (j + m)) else bf_T V A J E (j + m) := rfl
    rw [e, ih, ← h, if_neg (by omega)]
/-- the search's last time, as a number that nothing unfolds -/
noncomputable def bf_Z : Nat := Classical.choose (⟨23517, rfl⟩ : ∃ z : Nat, z = 23517)
theorem bf_Z_eq : bf_Z = 23517 := Classical.choose_spec (⟨23517, rfl⟩ : ∃ z : Nat, z = 23517)
/-- how many ticks are left, found to the end -/
noncomputable def bf_F (V A J : Int) (E : Int → Int → Bool) : Nat → Option Nat := (bf_T V A J E bf_Z).1
theorem bf_T_fin {V A J : Int} {E : Int → Int → Bool} (hV : V ≤ 12) (hA : A ≤ 4) {j : Nat} (h : j = (bf_T V A J E j).2.2) : bf_T V A J E bf_Z = bf_T V A J E j := by
  have h1 := (bf_T_ok (J := J) (E := E) hV hA j).le
  have h2 := bf_T_end h (bf_Z - j)
  have hz := bf_Z_eq
  rw [← h2]
  congr 1
  omega
theorem bf_T_F {V A J : Int} {E : Int → Int → Bool} (hV : V ≤ 12) (hA : A ≤ 4) {k : Nat} (hk : k ≤ (bf_T V A J E k).2.2) {y e : Nat} (h : (bf_T V A J E k).1 y = some e) : bf_F V A J E y = some e := by
  have h1 := (bf_T_ok (J := J) (E := E) hV hA k).le
  have hz := bf_Z_eq
  have h2 := bf_T_le (J := J) (E := E) hV hA k (bf_Z - k)
  rw [show k + (bf_Z - k) = bf_Z by omega] at h2
  exact h2.2.2 y e h
/-- those that are nearer than one that is found are found -/
theorem bf_near {V A J : Int} {E : Int → Int → Bool} (hV : V ≤ 12) (hA1 : 1 ≤ A) (hA : A ≤ 4) (hJ : 1 ≤ J) (hE : ∀ w b, 0 ≤ w → w ≤ 12 → -4 ≤ b → b ≤ 4 → E w b = true → -A ≤ b ∧ b ≤ A) {k : Nat} (hk : k ≤ (bf_T V A J E k).2.2) {x y d e : Nat} (hx : (bf_T V A J E k).1 x = some d) (hy : bf_F V A J E y = some e) (hl : e < d) : (bf_T V A J E k).1 y = some e := by
  have hok := bf_T_ok (J := J) (E := E) hV hA k
  have hok2 := bf_T_ok (J := J) (E := E) hV hA bf_Z
  have h1 := hok.le
  have hz := bf_Z_eq
  have h2 := bf_T_le (J := J) (E := E) hV hA k (bf_Z - k)
  rw [show k + (bf_Z - k) = bf_Z by omega] at h2
  have hs := (bf_T_keep (J := J) (E := E) hV hA1 hA hJ hE bf_Z).1.1
  obtain ⟨i, hi, hix⟩ := hok.2.1 x d hx
  obtain ⟨j, hj, hjy⟩ := hok2.2.1 y e hy
  by_cases q : j < (bf_T V A J E k).2.2
  · obtain ⟨-, e9, h3, -⟩ := hok.1 j q
    have h4 := h2.2.1 j q
    rw [hjy] at h4
    rw [← h4] at h3
    have h5 := h2.2.2 y e9 h3
    have h6 : some e9 = some e := h5.symm.trans hy
    rw [h3, h6]
  · exfalso
    have h3 := hs i j (by omega) hj
    have h4 := bf_D_of hok2 hj
    rw [hjy] at h4
    have h5 := bf_D_of hok2 (Nat.lt_of_lt_of_le hi h2.1)
    rw [h2.2.1 i hi, hix, h2.2.2 x d hx] at h5
    have h6 : some e = some (bf_D (bf_T V A J E bf_Z) j) := hy.symm.trans h4
    have h7 := Option.some.inj h5
    have h8 := Option.some.inj h6
    omega
theorem bf_F_par {V A J : Int} {E : Int → Int → Bool} (hV : V ≤ 12) (hA1 : 1 ≤ A) (hA : A ≤ 4) (hJ : 1 ≤ J) (hE : ∀ w b, 0 ≤ w → w ≤ 12 → -4 ≤ b → b ≤ 4 → E w b = true → -A ≤ b ∧ b ≤ A) : bf_par V A J E (bf_T V A J E bf_Z) := (bf_T_keep (J := J) (E := E) hV hA1 hA hJ hE bf_Z).2
/-- no row is longer than three ticks a step, and two -/
theorem bf_F_le {V A J : Int} {E : Int → Int → Bool} (hp : bf_par V A J E (bf_T V A J E bf_Z)) (hA : A ≤ 4) : ∀ (n : Nat) (v a l : Int) (d : Nat), 0 ≤ v → v ≤ 12 → -4 ≤ a → a ≤ 4 → 0 ≤ l → l ≤ 200 → l.toNat ≤ n → bf_F V A J E (bf_idx v a l) = some d → d ≤ 3 * l.toNat + 2 := by
  intro n
  induction n with
  | zero =>
    intro v a l d h1 h2 h3 h4 h5 h6 hn he
    -- no step is left: at most two ticks
    rcases d with _ | d
    · omega
    · obtain ⟨b, n1, n2, n3, n4, n5, n6⟩ := hp v a l d h1 h2 h3 h4 h5 h6 he
      rcases d with _ | d
      · omega
      · obtain ⟨b2, m1, m2, m3, m4, m5, m6⟩ := hp (v + b) b (l - (v + b)) d (by omega) (by omega) (by omega) (by omega) (by omega) (by omega) n6
        rcases d with _ | d
        · omega
        · exfalso
          obtain ⟨b3, r1, r2, r3, r4, r5, r6⟩ := hp (v + b + b2) b2 (l - (v + b) - (v + b + b2)) d (by omega) (by omega) (by omega) (by omega) (by omega) (by omega) m6
          have e0 : b3 = b2 := by omega
          have e1 : b2 = 0 := by omega
          subst e0
          rw [show v + b + b3 + b3 = v + b + b3 by omega, show l - (v + b) - (v + b + b3) - (v + b + b3) = l - (v + b) - (v + b + b3) by omega] at r6
          have m7 : bf_F V A J E (bf_idx (v + b + b3) b3 (l - (v + b) - (v + b + b3))) = some (d + 1) := m6
          have := Option.some.inj (r6.symm.trans m7)
          omega
  | succ n ih =>
    intro v a l d h1 h2 h3 h4 h5 h6 hn he
    rcases d with _ | d
    · omega
    · obtain ⟨b, n1, n2, n3, n4, n5, n6⟩ := hp v a l d h1 h2 h3 h4 h5 h6 he
      by_cases w1 : 0 < v + b
      · have := ih (v + b) b (l - (v + b)) d (by omega) (by omega) (by omega) (by omega) (by omega) (by omega) (by omega) n6
        omega
      · rcases d with _ | d
        · omega
        · obtain ⟨b2, m1, m2, m3, m4, m5, m6⟩ := hp (v + b) b (l - (v + b)) d (by omega) (by omega) (by omega) (by omega) (by omega) (by omega) n6
          by_cases w2 : 0 < v + b + b2
          · have := ih (v + b + b2) b2 (l - (v + b) - (v + b + b2)) d (by omega) (by omega) (by omega) (by omega) (by omega) (by omega) (by omega) m6
            omega
          · rcases d with _ | d
            · omega
            · obtain ⟨b3, r1, r2, r3, r4, r5, r6⟩ := hp (v + b + b2) b2 (l - (v + b) - (v + b + b2)) d (by omega) (by omega) (by omega) (by omega) (by omega) (by omega) m6
              by_cases w3 : 0 < v + b + b2 + b3
              · have := ih (v + b + b2 + b3) b3 (l - (v + b) - (v + b + b2) - (v + b + b2 + b3)) d (by omega) (by omega) (by omega) (by omega) (by omega) (by omega) (by omega) r6
                omega
              · exfalso
                have e1 : b2 = 0 := by omega
                have e2 : b3 = b2 := by omega
                subst e2
                rw [show v + b + b3 + b3 = v + b + b3 by omega, show l - (v + b) - (v + b + b3) - (v + b + b3) = l - (v + b) - (v + b + b3) by omega] at r6
                have m7 : bf_F V A J E (bf_idx (v + b + b3) b3 (l - (v + b) - (v + b + b3))) = some (d + 1) := m6
                have := Option.some.inj (r6.symm.trans m7)
                omega

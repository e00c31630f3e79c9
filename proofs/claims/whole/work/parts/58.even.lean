/-! smoothing: the class's way and the reference's end alike -/
def pf (l x y : Nat) : Nat := ((x : Int) * x + (y : Int) * y - (l : Int) * l).natAbs
def po (q p x y : Nat) : Nat := ((x : Int) * p - (y : Int) * q).natAbs
theorem sq_le {x : Nat} (h : x ≤ 100) : 0 ≤ (x : Int) * x ∧ (x : Int) * x ≤ 10000 := by
  have h1 : x * x ≤ 100 * 100 := Nat.mul_le_mul h h
  have h2 : ((x * x : Nat) : Int) = (x : Int) * x := Int.natCast_mul x x
  omega
theorem pr_le {x p : Nat} (h : x ≤ 100) (hp : p ≤ 8) : 0 ≤ (x : Int) * p ∧ (x : Int) * p ≤ 800 := by
  have h1 : x * p ≤ 100 * 8 := Nat.mul_le_mul h hp
  have h2 : ((x * p : Nat) : Int) = (x : Int) * p := Int.natCast_mul x p
  omega
theorem sq_s (y : Nat) : ((y + 1 : Nat) : Int) * ((y + 1 : Nat) : Int) = (y : Int) * y + 2 * y + 1 := by
  have h2 : ((y + 1 : Nat) : Int) = (y : Int) + 1 := rfl
  rw [h2, Int.add_mul, Int.mul_add]
  omega
theorem pf_le {l x y : Nat} (hl : l ≤ 100) (hx : x ≤ 100) (hy : y ≤ 100) : pf l x y ≤ 20000 := by
  have h1 := sq_le hl
  have h2 := sq_le hx
  have h3 := sq_le hy
  unfold pf
  omega
theorem po_le {q p x y : Nat} (hq : q ≤ 8) (hp : p ≤ 8) (hx : x ≤ 100) (hy : y ≤ 100) : po q p x y ≤ 800 := by
  have h2 := pr_le hx hp
  have h3 := pr_le hy hq
  unfold po
  omega
theorem iabs_e {x : Int32} (h : -1000000 ≤ x.toInt) : (iabs x).toInt = (x.toInt.natAbs : Int) := by
  have hr := i_rng x
  unfold iabs
  split
  · rename_i h1
    rw [Int32.le_iff_toInt_le, Int32.toInt_zero] at h1
    omega
  · rename_i h1
    rw [Int32.le_iff_toInt_le, Int32.toInt_zero] at h1
    rw [i_sub, Int32.toInt_zero]
    omega
theorem nI_s {x : Nat} (h : x ≤ 1000000) : (nI x).toInt = x := by
  rw [nI_e]
  omega
theorem i_mul_s {x y : Int32} (h : -1000000000 ≤ x.toInt * y.toInt ∧ x.toInt * y.toInt ≤ 1000000000) : (x * y).toInt = x.toInt * y.toInt := by
  rw [i_mul]
  generalize x.toInt * y.toInt = z at *
  omega
theorem i_add_s {x y : Int32} (h : -1000000000 ≤ x.toInt ∧ x.toInt ≤ 1000000000) (g : -1000000000 ≤ y.toInt ∧ y.toInt ≤ 1000000000) : (x + y).toInt = x.toInt + y.toInt := by
  rw [i_add]
  omega
theorem i_sub_s {x y : Int32} (h : -1000000000 ≤ x.toInt ∧ x.toInt ≤ 1000000000) (g : -1000000000 ≤ y.toInt ∧ y.toInt ≤ 1000000000) : (x - y).toInt = x.toInt - y.toInt := by
  rw [i_sub]
  omega
theorem sq_i {x : Nat} (h : x ≤ 100) : (nI x * nI x).toInt = (x : Int) * x := by
  have h1 := sq_le h
  rw [i_mul_s (by rw [nI_s (by omega)]; omega), nI_s (by omega)]
theorem ms_far_e {l x y : Nat} (hl : l ≤ 100) (hx : x ≤ 100) (hy : y ≤ 100) : ms_far (nI l) (nI x) (nI y) = nI (pf l x y) := by
  have h1 := sq_le hl
  have h2 := sq_le hx
  have h3 := sq_le hy
  have h4 := pf_le hl hx hy
  have e : (nI x * nI x + nI y * nI y - nI l * nI l).toInt = (x : Int) * x + (y : Int) * y - (l : Int) * l := by
    rw [i_sub_s (by rw [i_add_s (by rw [sq_i hx]; omega) (by rw [sq_i hy]; omega), sq_i hx, sq_i hy]; omega) (by rw [sq_i hl]; omega), i_add_s (by rw [sq_i hx]; omega) (by rw [sq_i hy]; omega), sq_i hx, sq_i hy, sq_i hl]
  apply i_inj
  unfold ms_far
  rw [iabs_e (by rw [e]; omega), e, nI_s (by omega)]
  rfl
theorem ms_off_e {k q p x y : Nat} (hk : p + q = k) (hk8 : k ≤ 8) (hx : x ≤ 100) (hy : y ≤ 100) : ms_off (nI k) (nI p) (nI x) (nI y) = nI (po q p x y) := by
  have h2 := pr_le hx (p := p) (by omega)
  have h3 := pr_le hy (p := q) (by omega)
  have h4 := po_le (q := q) (p := p) (by omega) (by omega) hx hy
  have ek : (nI k - nI p).toInt = (q : Int) := by
    rw [i_sub, nI_s (by omega), nI_s (by omega)]
    omega
  have e1 : (nI x * nI p).toInt = (x : Int) * p := by
    rw [i_mul_s (by rw [nI_s (by omega), nI_s (by omega)]; omega), nI_s (by omega), nI_s (by omega)]
  have e2 : (nI y * (nI k - nI p)).toInt = (y : Int) * q := by
    rw [i_mul_s (by rw [ek, nI_s (by omega)]; omega), ek, nI_s (by omega)]
  have e : (nI x * nI p - nI y * (nI k - nI p)).toInt = (x : Int) * p - (y : Int) * q := by
    rw [i_sub_s (by rw [e1]; omega) (by rw [e2]; omega), e1, e2]
  apply i_inj
  unfold ms_off
  rw [iabs_e (by rw [e]; omega), e, nI_s (by omega)]
  rfl
theorem nI_ltN {a b : Nat} (ha : a ≤ 1000000) (hb : b ≤ 1000000) : nI a < nI b ↔ a < b := by
  rw [Int32.lt_iff_toInt_lt, nI_s ha, nI_s hb]
  omega
theorem nI_le2 {a b : Nat} (ha : a ≤ 1000000) (hb : b ≤ 1000000) : nI a ≤ nI b ↔ a ≤ b := by
  rw [Int32.le_iff_toInt_le, nI_s ha, nI_s hb]
  omega
theorem nI_eqN {a b : Nat} (ha : a ≤ 1000000) (hb : b ≤ 1000000) : nI a = nI b ↔ a = b :=
  ⟨fun h => nI_small (by omega) (by omega) h, fun h => by rw [h]⟩
/-- whether the next y is nearer -/
def pc (l t y : Nat) : Prop := 2 * ((y : Int) * y) + 2 * y + 1 + 2 * ((t : Int) * t) < 2 * ((l : Int) * l)
theorem pf_step {l t y : Nat} : pf l t (y + 1) < pf l t y ↔ pc l t y := by
  have h := sq_s y
  have h0 : 0 ≤ (y : Int) := Int.natCast_nonneg y
  unfold pf pc
  rw [h]
  omega
theorem pf_up {l t y : Nat} (hn : ¬ pc l t y) : pf l t y < pf l t (y + 1) := by
  have h := sq_s y
  have h0 : 0 ≤ (y : Int) := Int.natCast_nonneg y
  unfold pc at hn
  unfold pf
  rw [h]
  omega
theorem pc_y {l t y : Nat} (h : pc l t (y + 1)) : pc l t y := by
  have h1 := sq_s y
  have h0 : 0 ≤ (y : Int) := Int.natCast_nonneg y
  unfold pc at *
  rw [h1] at h
  omega
theorem pc_t {l t y : Nat} (h : pc l (t + 1) y) : pc l t y := by
  have h1 := sq_s t
  have h0 : 0 ≤ (t : Int) := Int.natCast_nonneg t
  unfold pc at *
  rw [h1] at h
  omega
theorem pc_le {l t : Nat} : ∀ (d y : Nat), pc l t (y + d) → pc l t y := by
  intro d
  induction d with
  | zero => intro y h; exact h
  | succ d ih => intro y h; exact ih y (pc_y h)
theorem pf_down {l t : Nat} : ∀ (d y : Nat), (∀ z, y ≤ z → z < y + d + 1 → pc l t z) → pf l t (y + d + 1) < pf l t y := by
  intro d
  induction d with
  | zero => intro y h; exact pf_step.mpr (h y (Nat.le_refl y) (by omega))
  | succ d ih =>
    intro y h
    have h1 := ih y (fun z p1 p2 => h z p1 (by omega))
    have h2 := pf_step.mpr (h (y + d + 1) (by omega) (by omega))
    have e : y + (d + 1) + 1 = y + d + 1 + 1 := by omega
    rw [e]
    omega
theorem pf_ups {l t y : Nat} (hn : ¬ pc l t y) : ∀ d, pf l t y < pf l t (y + d + 1) := by
  intro d
  induction d with
  | zero => exact pf_up hn
  | succ d ih =>
    have h2 : ¬ pc l t (y + d + 1) := fun h => hn (pc_le (d + 1) y h)
    have h3 := pf_up h2
    have e : y + (d + 1) + 1 = y + d + 1 + 1 := by omega
    rw [e]
    omega
/-- the one nearest y -/
def pm (l t y2 : Nat) : Prop := y2 ≤ t ∧ ∀ y, y ≤ t → y ≠ y2 → pf l t y2 < pf l t y
theorem pm_of {l t y2 : Nat} (h1 : y2 ≤ t) (h2 : ∀ z, z < y2 → pc l t z) (h3 : y2 = t ∨ ¬ pc l t y2) : pm l t y2 := by
  refine ⟨h1, fun y p1 p2 => ?_⟩
  rcases Nat.lt_or_ge y y2 with q | q
  · have h4 := pf_down (l := l) (t := t) (y2 - y - 1) y (fun z z1 z2 => h2 z (by omega))
    rw [show y + (y2 - y - 1) + 1 = y2 by omega] at h4
    exact h4
  · rcases h3 with h3 | h3
    · omega
    · have h4 := pf_ups h3 (y - y2 - 1)
      rw [show y2 + (y - y2 - 1) + 1 = y by omega] at h4
      exact h4
theorem sp_ew_ok {M : am_M} {l t : Nat} (hl : l ≤ 100) (ht : t ≤ 100) (hM : M 19 1 = nI l) : ∀ (n y : Nat), y + n = t → (∀ z, z < y → pc l t z) → (∀ z, z < sp_ew M (nI t) n y → pc l t z) ∧ sp_ew M (nI t) n y ≤ t ∧ (sp_ew M (nI t) n y = t ∨ ¬ pc l t (sp_ew M (nI t) n y)) := by
  intro n
  induction n with
  | zero => intro y hy h; exact ⟨h, by rw [sp_ew]; omega, Or.inl (by rw [sp_ew]; omega)⟩
  | succ n ih =>
    intro y hy h
    have e1 : sp_pair M (nI t) (nI (y + 1)) = nI (pf l t (y + 1)) := by
      have h9 := ms_far_e (l := l) (x := t) (y := y + 1) hl ht (by omega)
      rw [← hM] at h9
      exact h9
    have e2 : sp_pair M (nI t) (nI y) = nI (pf l t y) := by
      have h9 := ms_far_e (l := l) (x := t) (y := y) hl ht (by omega)
      rw [← hM] at h9
      exact h9
    have b1 := pf_le (l := l) (x := t) (y := y + 1) hl ht (by omega)
    have b2 := pf_le (l := l) (x := t) (y := y) hl ht (by omega)
    rw [sp_ew, e1, e2]
    by_cases q : pc l t y
    · rw [if_pos ((nI_ltN (by omega) (by omega)).mpr (pf_step.mpr q))]
      exact ih (y + 1) (by omega) (fun z hz => by
        rcases (by omega : z < y ∨ z = y) with r | r
        · exact h z r
        · rw [r]; exact q)
    · rw [if_neg (fun z => q (pf_step.mp ((nI_ltN (by omega) (by omega)).mp z)))]
      exact ⟨h, by omega, Or.inr q⟩
theorem sp_y2_ok {M : am_M} {l t y : Nat} (hl : l ≤ 100) (ht : t ≤ 100) (hM : M 19 1 = nI l) (h : ∀ z, z < y → pc l t z) : (∀ z, z < sp_y2 M t y → pc l t z) ∧ pm l t (sp_y2 M t y) := by
  have h1 := sp_ew_ok hl ht hM (t - min y t) (min y t) (by omega) (fun z hz => h z (by omega))
  exact ⟨h1.1, pm_of h1.2.1 h1.1 h1.2.2⟩
def pb (l q p : Nat) (a b : Nat × Nat) : Prop := pf l a.1 a.2 < pf l b.1 b.2 ∨ (pf l a.1 a.2 = pf l b.1 b.2 ∧ po q p a.1 a.2 < po q p b.1 b.2)
theorem bet_iff {M : am_M} {l k q p x y bx bz : Nat} (hl : l ≤ 100) (hM : M 19 1 = nI l) (hK : M 19 0 = nI k) (hk : p + q = k) (hk8 : k ≤ 8) (hx : x ≤ 100) (hy : y ≤ 100) (hbx : bx ≤ 100) (hbz : bz ≤ 100) : sp_bet M (nI p) (nI x) (nI y) (nI bx) (nI bz) ↔ pb l q p (x, y) (bx, bz) := by
  have e1 : sp_pair M (nI x) (nI y) = nI (pf l x y) := by
    have h9 := ms_far_e (l := l) hl hx hy
    rw [← hM] at h9
    exact h9
  have e2 : sp_pair M (nI bx) (nI bz) = nI (pf l bx bz) := by
    have h9 := ms_far_e (l := l) hl hbx hbz
    rw [← hM] at h9
    exact h9
  have e3 : sp_apart M (nI p) (nI x) (nI y) = nI (po q p x y) := by
    have h9 := ms_off_e hk hk8 hx hy
    rw [← hK] at h9
    exact h9
  have e4 : sp_apart M (nI p) (nI bx) (nI bz) = nI (po q p bx bz) := by
    have h9 := ms_off_e hk hk8 hbx hbz
    rw [← hK] at h9
    exact h9
  have b1 := pf_le hl hx hy
  have b2 := pf_le hl hbx hbz
  have b3 := po_le (q := q) (p := p) (by omega) (by omega) hx hy
  have b4 := po_le (q := q) (p := p) (by omega) (by omega) hbx hbz
  unfold sp_bet pb
  rw [e1, e2, e3, e4, nI_ltN (by omega) (by omega), Int32.lt_iff_toInt_lt, ← Int32.toInt_inj, i_sub, nI_s (by omega), nI_s (by omega), Int32.toInt_zero]
  dsimp only
  omega
/-- where the reference's search stands: the best pair so far -/
def pS (K : am_M) (l q p : Nat) (s : ms_S) (b : Nat × Nat) : Prop := (b.1 ≤ 100 ∧ b.2 ≤ 100) ∧ s.1 = nI (pf l b.1 b.2) ∧ s.2.1 = nI (po q p b.1 b.2) ∧ s.2.2 = am_put (am_put K 36 p (nI b.1)) 36 q (nI b.2)
theorem put4 (K : am_M) (p q : Nat) (x y x' y' : Int32) : am_put (am_put (am_put (am_put K 36 p x) 36 q y) 36 p x') 36 q y' = am_put (am_put K 36 p x') 36 q y' := by
  funext a j
  simp only [am_rd]
  by_cases h1 : a = 36 <;> by_cases h2 : j = q <;> by_cases h3 : j = p <;> simp [h1, h2, h3]
theorem ms_one_set {K : am_M} {l k q p x y : Nat} {s : ms_S} {b : Nat × Nat} (hl : l ≤ 100) (hk : p + q = k) (hk8 : k ≤ 8) (hx : x ≤ 100) (hy : y ≤ 100) (hS : pS K l q p s b) (hb : pb l q p (x, y) b) (hm : ¬ (2 * nI p = nI k ∧ ¬ nI x = nI y)) : pS K l q p (ms_one (nI k) (nI l) (nI p) (nI x) (nI y) s) (x, y) := by
  obtain ⟨⟨h1, h2⟩, h3, h4, h5⟩ := hS
  have b1 := pf_le hl hx hy
  have b2 := pf_le hl h1 h2
  have b3 := po_le (q := q) (p := p) (by omega) (by omega) hx hy
  have b4 := po_le (q := q) (p := p) (by omega) (by omega) h1 h2
  unfold ms_one
  rw [ms_far_e hl hx hy, ms_off_e hk hk8 hx hy, h3, h4]
  unfold pb at hb
  dsimp only at hb
  rw [if_neg (by
    rintro (q1 | q1 | q1)
    · exact hm q1
    · rw [nI_ltN (by omega) (by omega)] at q1
      omega
    · rw [nI_eqN (by omega) (by omega), nI_le2 (by omega) (by omega)] at q1
      omega)]
  have eq : (nI k - nI p).toNatClampNeg = q := by
    rw [i_cl, i_sub, nI_s (by omega), nI_s (by omega)]
    omega
  refine ⟨⟨hx, hy⟩, rfl, rfl, ?_⟩
  dsimp only
  rw [h5, nI_clamp (by omega), eq, put4]
theorem ms_one_no {K : am_M} {l k q p x y : Nat} {s : ms_S} {b : Nat × Nat} (hl : l ≤ 100) (hk : p + q = k) (hk8 : k ≤ 8) (hx : x ≤ 100) (hy : y ≤ 100) (hS : pS K l q p s b) (hb : ¬ pb l q p (x, y) b ∨ (2 * nI p = nI k ∧ ¬ nI x = nI y)) : ms_one (nI k) (nI l) (nI p) (nI x) (nI y) s = s := by
  obtain ⟨⟨h1, h2⟩, h3, h4, h5⟩ := hS
  have b1 := pf_le hl hx hy
  have b2 := pf_le hl h1 h2
  have b3 := po_le (q := q) (p := p) (by omega) (by omega) hx hy
  have b4 := po_le (q := q) (p := p) (by omega) (by omega) h1 h2
  unfold ms_one
  rw [ms_far_e hl hx hy, ms_off_e hk hk8 hx hy, h3, h4]
  unfold pb at hb
  dsimp only at hb
  rw [if_pos (by
    rcases hb with hb | hb
    · right
      rw [nI_ltN (by omega) (by omega), nI_eqN (by omega) (by omega), nI_le2 (by omega) (by omega)]
      omega
    · exact Or.inl hb)]
/-- a row of the reference's search: x stays, y goes up -/
theorem ms_row {K : am_M} {l k q p t y2 : Nat} {b : Nat × Nat} (hl : l ≤ 100) (hk : p + q = k) (hk8 : k ≤ 8) (ht : t ≤ 100) (hm : ¬ 2 * nI p = nI k) (hy2 : pm l t y2) {r : Nat × Nat} (hr : (pb l q p (t, y2) b ∧ r = (t, y2)) ∨ (¬ pb l q p (t, y2) b ∧ r = b)) : ∀ (c y : Nat) (s : ms_S), y + c = t + 1 → (y ≤ y2 → ∃ b', pS K l q p s b' ∧ (b' = b ∨ ∃ z, z < y ∧ b' = (t, z) ∧ pb l q p b' b)) → (y2 < y → pS K l q p s r) → pS K l q p (ms_y (nI k) (nI l) (nI p) (nI t) c y s) r := by
  intro c
  induction c with
  | zero =>
    intro y s hy h1 h2
    rw [ms_y]
    exact h2 (by have := hy2.1; omega)
  | succ c ih =>
    intro y s hy h1 h2
    rw [ms_y]
    have hm' : ¬ (2 * nI p = nI k ∧ ¬ nI t = nI y) := fun z => hm z.1
    refine ih (y + 1) _ (by omega) (fun q1 => ?_) (fun q1 => ?_)
    · obtain ⟨b', hS, hb'⟩ := h1 (by omega)
      have hlt := hy2.2 y (by omega) (by omega)
      by_cases z : pb l q p (t, y) b'
      · refine ⟨(t, y), ms_one_set hl hk hk8 ht (by omega) hS z hm', Or.inr ⟨y, by omega, rfl, ?_⟩⟩
        rcases hb' with hb' | ⟨z1, z2, z3, z4⟩
        · rw [← hb']; exact z
        · unfold pb at *
          omega
      · rw [ms_one_no hl hk hk8 ht (by omega) hS (Or.inl z)]
        refine ⟨b', hS, ?_⟩
        rcases hb' with hb' | ⟨z1, z2, z3, z4⟩
        · exact Or.inl hb'
        · exact Or.inr ⟨z1, by omega, z3, z4⟩
    · by_cases q2 : y = y2
      · subst q2
        obtain ⟨b', hS, hb'⟩ := h1 (Nat.le_refl _)
        rcases hb' with hb' | ⟨z1, z2, z3, z4⟩
        · subst hb'
          rcases hr with ⟨r1, r2⟩ | ⟨r1, r2⟩
          · rw [r2]; exact ms_one_set hl hk hk8 ht (by omega) hS r1 hm'
          · rw [ms_one_no hl hk hk8 ht (by omega) hS (Or.inl r1), r2]; exact hS
        · have hlt := hy2.2 z1 (by omega) (by omega)
          have p1 : pb l q p (t, y) b' := by
            rw [z3]
            exact Or.inl hlt
          have p2 : pb l q p (t, y) b := by
            rw [z3] at z4
            unfold pb at *
            dsimp only at *
            omega
          rcases hr with ⟨r1, r2⟩ | ⟨r1, r2⟩
          · rw [r2]; exact ms_one_set hl hk hk8 ht (by omega) hS p1 hm'
          · exact absurd p2 r1
      · have hS := h2 (by omega)
        have hlt := hy2.2 y (by omega) q2
        rw [ms_one_no hl hk hk8 ht (by omega) hS (Or.inl ?_)]
        · exact hS
        · rcases hr with ⟨r1, r2⟩ | ⟨r1, r2⟩
          · rw [r2]
            unfold pb
            dsimp only
            omega
          · rw [r2]
            unfold pb at *
            dsimp only at *
            omega
/-- x goes down: both sides keep the same pair -/
theorem ms_cols {K M : am_M} {l k q p : Nat} (hl : l ≤ 100) (hk : p + q = k) (hk8 : k ≤ 8) (hm : ¬ 2 * nI p = nI k) (hM : M 19 1 = nI l) (hK : M 19 0 = nI k) : ∀ (t y : Nat) (b : Nat × Nat) (s : ms_S), t ≤ l → pS K l q p s b → (∀ z, z < y → pc l t z) → ∃ b', pS K l q p (ms_x (nI k) (nI l) (nI p) t s) b' ∧ sp_eo M (nI p) t (nI b.1) (nI b.2) y = (nI b'.1, nI b'.2) := by
  intro t
  induction t with
  | zero => intro y b s ht hS _; exact ⟨b, hS, rfl⟩
  | succ t ih =>
    intro y b s ht hS hc
    rw [ms_x, sp_eo]
    obtain ⟨h1, h2⟩ := sp_y2_ok (M := M) (l := l) (t := t) (y := y) hl (by omega) hM (fun z hz => pc_t (hc z hz))
    generalize sp_y2 M t y = y2 at *
    have hb := bet_iff (M := M) (x := t) (y := y2) (bx := b.1) (bz := b.2) hl hM hK hk hk8 (by omega) (by have := h2.1; omega) hS.1.1 hS.1.2
    by_cases z : pb l q p (t, y2) (b.1, b.2)
    · rw [if_pos (hb.mpr z)]
      have h3 := ms_row (K := K) hl hk hk8 (by omega : t ≤ 100) hm h2 (b := b) (Or.inl ⟨z, rfl⟩) (t + 1) 0 s (by omega) (fun _ => ⟨b, hS, Or.inl rfl⟩) (fun w => absurd w (by omega))
      exact ih y2 (t, y2) _ (by omega) h3 h1
    · rw [if_neg (fun w => z (hb.mp w))]
      have h3 := ms_row (K := K) hl hk hk8 (by omega : t ≤ 100) hm h2 (b := b) (Or.inr ⟨z, rfl⟩) (t + 1) 0 s (by omega) (fun _ => ⟨b, hS, Or.inl rfl⟩) (fun w => absurd w (by omega))
      exact ih y2 b _ (by omega) h3 h1

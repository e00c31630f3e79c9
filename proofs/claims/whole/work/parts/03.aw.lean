/-! A logic over ONE world: every cell that the class and the reference ever hold has a number; M k j is what place j of cell k holds. -/
/-- what a cell is: its class and fields (none: an int; some r: the cell r), or an array (of booleans?, its length) -/
def am_shp : Nat → (Nat × List (Option Nat)) ⊕ (Bool × Nat) := fun k => match k with
  | 0 => .inl (6, [some 1, some 4, some 7, some 11, some 15, some 16, some 17, some 18, some 19])
  | 1 => .inl (4, [none, none, none, none, none, some 2, some 3, none, none])
  | 2 => .inr (true, 13)
  | 3 => .inr (false, 13)
  | 4 => .inl (3, [some 5, some 6, none, none, none])
  | 5 => .inr (false, 23517)
  | 6 => .inr (false, 23517)
  | 7 => .inl (5, [none, some 8, some 9, some 10, none, none])
  | 8 => .inr (false, 117)
  | 9 => .inr (false, 117)
  | 10 => .inr (false, 117)
  | 11 => .inl (5, [none, some 12, some 13, some 14, none, none])
  | 12 => .inr (false, 117)
  | 13 => .inr (false, 117)
  | 14 => .inr (false, 117)
  | 15 => .inl (2, [none, none, none, none, none, none, none, none, none, none])
  | 16 => .inl (0, [none, none, none, none, none, none])
  | 17 => .inl (0, [none, none, none, none, none, none])
  | 18 => .inl (0, [none, none, none, none, none, none])
  | 19 => .inl (1, [none, none, some 20])
  | 20 => .inr (false, 9)
  | 21 => .inl (7, [none, none, none, none, none, none, some 22, some 23, none, some 24, some 25, some 26, none, some 27, some 28, none, none, some 29, some 30, some 31, some 32, some 33, none, none, none, none, none, none, none, none, none, some 34, some 35, some 36, none, none])
  | 22 => .inr (true, 13)
  | 23 => .inr (false, 13)
  | 24 => .inr (false, 23517)
  | 25 => .inr (false, 23517)
  | 26 => .inr (false, 1000)
  | 27 => .inr (false, 117)
  | 28 => .inr (false, 117)
  | 29 => .inr (false, 3)
  | 30 => .inr (false, 3)
  | 31 => .inr (false, 3)
  | 32 => .inr (false, 3)
  | 33 => .inr (false, 1000)
  | 34 => .inr (false, 3)
  | 35 => .inr (true, 3)
  | _ => .inr (false, 9)
abbrev am_M : Type := Nat → Nat → Int32
/-- the cells of all: 0 .. 36 -/
def am_II : List Nat := List.range 37
def am_fs (ad : Nat → Nat) (f : Nat → Int32) : Nat → List (Option Nat) → List Value
  | _, [] => []
  | j, none :: l => .int (f j) :: am_fs ad f (j + 1) l
  | j, some r :: l => .ref (ad r) :: am_fs ad f (j + 1) l
def am_cell (cyI cyZ : ClassId) (ad : Nat → Nat) (M : am_M) (k : Nat) : va_E := match am_shp k with
  | .inl (ci, fl) => .inr (ci, am_fs ad (M k) 0 fl)
  | .inr (z, n) => .inl (if z = true then cyZ else cyI, n, .inl (M k))
def am_w (I : List Nat) (cyI cyZ : ClassId) (ad : Nat → Nat) (M : am_M) : va_W := I.map (fun k => (ad k, am_cell cyI cyZ ad M k))
def am_put (M : am_M) (k j : Nat) (v : Int32) : am_M := fun a => if a = k then upd (M k) j v else M a
/-- a whole row anew -/
def am_row (M : am_M) (k : Nat) (f : Nat → Int32) : am_M := fun a => if a = k then f else M a
theorem am_fs_i (ad : Nat → Nat) (f : Nat → Int32) : ∀ (fl : List (Option Nat)) (j0 j : Nat), fl[j]? = some none → (am_fs ad f j0 fl)[j]? = some (.int (f (j0 + j))) := by
  intro fl
  induction fl with
  | nil => intro j0 j h; simp at h
  | cons o l ih =>
    intro j0 j h
    cases j with
    | zero => simp at h; subst h; simp [am_fs]
    | succ j =>
      have h1 : l[j]? = some none := by simpa using h
      have h2 := ih (j0 + 1) j h1
      have e : j0 + 1 + j = j0 + (j + 1) := by omega
      rw [e] at h2
      cases o <;> simp [am_fs, h2]
theorem am_fs_r (ad : Nat → Nat) (f : Nat → Int32) : ∀ (fl : List (Option Nat)) (j0 j r : Nat), fl[j]? = some (some r) → (am_fs ad f j0 fl)[j]? = some (.ref (ad r)) := by
  intro fl
  induction fl with
  | nil => intro j0 j r h; simp at h
  | cons o l ih =>
    intro j0 j r h
    cases j with
    | zero => simp at h; subst h; simp [am_fs]
    | succ j =>
      have h1 : l[j]? = some (some r) := by simpa using h
      have h2 := ih (j0 + 1) j r h1
      cases o <;> simp [am_fs, h2]
theorem am_fs_len (ad : Nat → Nat) (f : Nat → Int32) : ∀ (fl : List (Option Nat)) (j0 : Nat), (am_fs ad f j0 fl).length = fl.length := by
  intro fl
  induction fl with
  | nil => intro j0; rfl
  | cons o l ih => intro j0; cases o <;> simp [am_fs, ih]
theorem am_fs_cong (ad : Nat → Nat) (f g : Nat → Int32) : ∀ (fl : List (Option Nat)) (j0 : Nat), (∀ j, j0 ≤ j → f j = g j) → am_fs ad f j0 fl = am_fs ad g j0 fl := by
  intro fl
  induction fl with
  | nil => intro j0 _; rfl
  | cons o l ih =>
    intro j0 h
    have h1 := ih (j0 + 1) (fun j hj => h j (by omega))
    cases o <;> simp [am_fs, h1, h j0 (Nat.le_refl _)]
theorem am_fs_set (ad : Nat → Nat) (f : Nat → Int32) (v : Int32) : ∀ (fl : List (Option Nat)) (j0 j : Nat), fl[j]? = some none → (am_fs ad f j0 fl).set j (.int v) = am_fs ad (upd f (j0 + j) v) j0 fl := by
  intro fl
  induction fl with
  | nil => intro j0 j h; simp at h
  | cons o l ih =>
    intro j0 j h
    cases j with
    | zero =>
      simp at h
      subst h
      have e : am_fs ad f (j0 + 1) l = am_fs ad (upd f (j0 + 0) v) (j0 + 1) l := am_fs_cong ad _ _ l (j0 + 1) (fun j hj => by
        have : j ≠ j0 + 0 := by omega
        unfold upd
        rw [if_neg this])
      simp only [am_fs, List.set_cons_zero]
      rw [e]
      simp [upd]
    | succ j =>
      have h1 : l[j]? = some none := by simpa using h
      have h2 := ih (j0 + 1) j h1
      have e : j0 + 1 + j = j0 + (j + 1) := by omega
      rw [e] at h2
      cases o
      · have h3 : upd f (j0 + (j + 1)) v j0 = f j0 := by
          have : j0 ≠ j0 + (j + 1) := by omega
          unfold upd
          rw [if_neg this]
        simp only [am_fs, List.set_cons_succ]
        rw [h2, h3]
      · simp only [am_fs, List.set_cons_succ]
        rw [h2]
theorem am_w_get {I : List Nat} {cyI cyZ : ClassId} {ad : Nat → Nat} {M : am_M} {q k : Nat} (h : I[q]? = some k) : (am_w I cyI cyZ ad M)[q]? = some (ad k, am_cell cyI cyZ ad M k) := by
  simp [am_w, h]
theorem am_w_set {A : Nat → Prop} {I : List Nat} {cyI cyZ : ClassId} {ad : Nat → Nat} {M M' : am_M} {q k : Nat} (hD : va_D A (am_w I cyI cyZ ad M)) (h : I[q]? = some k) (hM : ∀ a, a ≠ k → M' a = M a) :
    (am_w I cyI cyZ ad M).set q (ad k, am_cell cyI cyZ ad M' k) = am_w I cyI cyZ ad M' := by
  apply List.ext_getElem?
  intro i
  by_cases hi : i = q
  · subst hi
    have hl : i < (am_w I cyI cyZ ad M).length := (List.getElem?_eq_some_iff.mp (am_w_get (cyI := cyI) (cyZ := cyZ) (ad := ad) (M := M) h)).1
    rw [List.getElem?_set_self hl, am_w_get h]
  · rw [List.getElem?_set_ne (Ne.symm hi)]
    cases hI : I[i]? with
    | none => simp [am_w, hI]
    | some k2 =>
      have hne : k2 ≠ k := by
        intro e
        subst e
        exact hi (hD.1 i q _ _ (am_w_get hI) (am_w_get h) rfl)
      rw [am_w_get hI, am_w_get hI]
      have e2 : am_cell cyI cyZ ad M' k2 = am_cell cyI cyZ ad M k2 := by
        unfold am_cell
        rw [hM k2 hne]
      rw [e2]
def am_nst : List Cond := [.methodLinkNest RX1 26 yX6_isWithin RX6, .methodLinkNest RX3 28 yX6_isWithin RX6, .methodLinkNest RX4 48 yX6_isWithin RX6, .methodLinkNest RX3 91 yX6_stateNumber RX6, .methodLinkNest RX5 32 yX6_stateNumber RX6, .methodLinkNest RX6 18 yX3_init RX6, .methodLinkNest RX6 37 yX2_init RX6, .methodLinkNest RX6 44 yX0_init RX6, .methodLinkNest RX3 39 yX6_isIndexOf RX6, .methodLinkNest RX5 36 yX6_isIndexOf RX6]
def am_K (D : va_G) (cyI cyZ : ClassId) (U : State) : Prop := va_K D vwCl [(cyI, .int), (cyZ, .boolean)] U ∧ (∀ w ∈ lw_tbl, goodWord w = true → w.before #[] U = true) ∧ ∀ w ∈ am_nst, va_Nw w U
theorem am_nst_warm {s U : State} (hW : s.WarmedH U.vm) (h : ∀ w ∈ am_nst, va_Nw w s) : ∀ w ∈ am_nst, va_Nw w U := by
  intro w hw
  have h1 := h w hw
  simp only [am_nst, List.mem_cons, List.not_mem_nil, or_false] at hw
  rcases hw with rfl | rfl | rfl | rfl | rfl | rfl | rfl | rfl | rfl | rfl <;> exact va_Nw.warmM hW h1
theorem am_nst_on : ∀ w ∈ am_nst, w.onTables = true := by
  intro w hw
  simp only [am_nst, List.mem_cons, List.not_mem_nil, or_false] at hw
  rcases hw with rfl | rfl | rfl | rfl | rfl | rfl | rfl | rfl | rfl | rfl <;> rfl
theorem am_K.moved {D : va_G} {cyI cyZ : ClassId} {s U : State} (hW : s.WarmedH U.vm) (h : am_K D cyI cyZ s) : am_K D cyI cyZ U :=
  ⟨va_K.moved hW.alike h.1, fun w hw hg => word_at hW (good_of_word hg) (h.2.1 w hw hg), am_nst_warm hW h.2.2⟩
theorem am_word {D : va_G} {cyI cyZ : ClassId} {U : State} (h : am_K D cyI cyZ U) {w : Cond} (hw : w ∈ lw_tbl) (hg : goodWord w = true) (ho : w.onTables = true) (args : Array Value) : w.before args U = true := va_tabs ho rfl (h.2.1 w hw hg)

/-! Int32 as numbers that omega knows -/
theorem i_bm (z : Int) : z.bmod (2 ^ 32) = (z + 2147483648) % 4294967296 - 2147483648 := by
  unfold Int.bmod
  simp only [Nat.reducePow]
  split <;> omega
theorem i_add (x y : Int32) : (x + y).toInt = (x.toInt + y.toInt + 2147483648) % 4294967296 - 2147483648 := by rw [Int32.toInt_add, i_bm]
theorem i_sub (x y : Int32) : (x - y).toInt = (x.toInt - y.toInt + 2147483648) % 4294967296 - 2147483648 := by rw [Int32.toInt_sub, i_bm]
theorem i_neg (x : Int32) : (-x).toInt = (-x.toInt + 2147483648) % 4294967296 - 2147483648 := by rw [Int32.toInt_neg, i_bm]
theorem i_mul (x y : Int32) : (x * y).toInt = (x.toInt * y.toInt + 2147483648) % 4294967296 - 2147483648 := by rw [Int32.toInt_mul, i_bm]
theorem i_rng (x : Int32) : -2147483648 ≤ x.toInt ∧ x.toInt < 2147483648 := ⟨Int32.le_toInt x, Int32.toInt_lt x⟩
def iN (z : Int) : Int32 := Int32.ofInt z
theorem iN_e (z : Int) : (iN z).toInt = (z + 2147483648) % 4294967296 - 2147483648 := by
  unfold iN
  rw [Int32.toInt_ofInt, ← i_bm]
theorem nI_iN (a : Nat) : nI a = iN (a : Int) := by
  unfold nI iN
  exact (Int32.ofInt_eq_ofNat).symm
theorem nI_e (a : Nat) : (nI a).toInt = ((a : Int) + 2147483648) % 4294967296 - 2147483648 := by rw [nI_iN, iN_e]
theorem i_inj {x y : Int32} (h : x.toInt = y.toInt) : x = y := Int32.toInt_inj.mp h
theorem i_cl (x : Int32) : x.toNatClampNeg = x.toInt.toNat := rfl
theorem iN_self (x : Int32) : iN x.toInt = x := by
  apply i_inj
  have h := i_rng x
  rw [iN_e]
  omega
theorem iN_inc (z : Int) : iN z + Int32.ofInt 1 = iN (z + 1) := by
  apply i_inj
  rw [i_add, iN_e, iN_e]
  have : (Int32.ofInt 1).toInt = 1 := by decide
  omega
theorem iN_dec (z : Int) : iN z + Int32.ofInt (-1) = iN (z - 1) := by
  apply i_inj
  rw [i_add, iN_e, iN_e]
  have : (Int32.ofInt (-1)).toInt = -1 := by decide
  omega
theorem nI_inc (j : Nat) : nI j + Int32.ofInt 1 = nI (j + 1) := nI_1 j
theorem iN_add (a b : Int) : iN a + iN b = iN (a + b) := by
  apply i_inj
  rw [i_add, iN_e, iN_e, iN_e]
  omega
theorem iN_sub (a b : Int) : iN a - iN b = iN (a - b) := by
  apply i_inj
  rw [i_sub, iN_e, iN_e, iN_e]
  omega
theorem iN_neg (a : Int) : -iN a = iN (-a) := by
  apply i_inj
  rw [i_neg, iN_e, iN_e]
  omega
theorem am_eq {Y : am_Y} {ad : Nat → Nat} {I : List Nat} {P : Option Value → am_M → Prop} {pc : Nat} {L L' : List (Option Value)} {st st' : List Value} {M M' : am_M} (hL : L = L') (hst : st = st') (hM : M = M') (h : am_W Y ad I P pc L' st' M') : am_W Y ad I P pc L st M := by
  subst hL hst hM
  exact h
theorem am_M_eq {Y : am_Y} {ad : Nat → Nat} {I : List Nat} {P : Option Value → am_M → Prop} {pc : Nat} {L : List (Option Value)} {st : List Value} {M M' : am_M} (hM : M = M') (h : am_W Y ad I P pc L st M') : am_W Y ad I P pc L st M := by
  subst hM
  exact h
theorem am_put_row (M : am_M) (k : Nat) (f : Nat → Int32) (j : Nat) (v : Int32) : am_put (am_row M k f) k j v = am_row M k (upd f j v) := by
  funext a
  unfold am_put am_row
  by_cases h : a = k <;> simp [h]
theorem am_put_as_row (M : am_M) (k j : Nat) (v : Int32) : am_put M k j v = am_row M k (upd (M k) j v) := rfl
theorem am_row_self (M : am_M) (k : Nat) : am_row M k (M k) = M := by
  funext a
  unfold am_row
  by_cases h : a = k <;> simp [h]
theorem am_row_at (M : am_M) (k : Nat) (f : Nat → Int32) : am_row M k f k = f := by simp [am_row]
theorem am_row_ne (M : am_M) (k : Nat) (f : Nat → Int32) {a : Nat} (h : a ≠ k) : am_row M k f a = M a := by simp [am_row, h]
theorem am_put_ne (M : am_M) (k j : Nat) (v : Int32) {a : Nat} (h : a ≠ k) : am_put M k j v a = M a := by simp [am_put, h]
theorem am_put_at (M : am_M) (k j : Nat) (v : Int32) : am_put M k j v k = upd (M k) j v := by simp [am_put]
theorem am_row_row (M : am_M) (k : Nat) (f g : Nat → Int32) : am_row (am_row M k f) k g = am_row M k g := by
  funext a
  unfold am_row
  by_cases h : a = k <;> simp [h]

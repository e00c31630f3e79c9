/-! small laws over the rows -/
def bI (b : Bool) : Int32 := match b with
  | true => 1
  | false => 0
def am_is (x : Int32) (N : am_M) : Option Value → am_M → Prop := fun r M => r = some (.int x) ∧ M = N
def am_un (N : am_M) : Option Value → am_M → Prop := fun r M => r = none ∧ M = N
theorem am_nb (b : Bool) : narrow .boolean (.int (bI b)) = .int (bI b) := by cases b <;> decide
theorem am_fb (b : Bool) : fits .boolean (.int (bI b)) = true := by cases b <;> decide
theorem am_vz (b : Bool) : vp_nar .boolean (bI b) = bI b := by cases b <;> decide
theorem am_nb01 {v : Int32} (h : v = 0 ∨ v = 1) : narrow .boolean (.int v) = .int v := by rcases h with rfl | rfl <;> decide
theorem am_fb01 {v : Int32} (h : v = 0 ∨ v = 1) : fits .boolean (.int v) = true := by rcases h with rfl | rfl <;> decide
theorem bI_0 (b : Bool) : bI b = 0 ↔ b = false := by cases b <;> decide
theorem bI_1 (b : Bool) : ¬ bI b = 0 ↔ b = true := by cases b <;> decide
theorem bI_inj {a b : Bool} : bI a = bI b ↔ a = b := by cases a <;> cases b <;> decide
theorem am_isT {b : Bool} {M : am_M} (h : b = true) : am_is (bI b) M (some (.int 1)) M := by subst h; exact ⟨rfl, rfl⟩
theorem am_isF {b : Bool} {M : am_M} (h : b = false) : am_is (bI b) M (some (.int 0)) M := by subst h; exact ⟨rfl, rfl⟩
theorem am_isE {x y : Int32} {M : am_M} (h : x = y) : am_is y M (some (.int x)) M := by subst h; exact ⟨rfl, rfl⟩
theorem am_vpI {x : Int32} {n : Nat} (h0 : 0 ≤ x.toInt) (h1 : x.toInt < n) : vp_in x n := vp_in_iff.mpr ⟨h0, h1⟩
def iabs (x : Int32) : Int32 := if 0 ≤ x then x else 0 - x
def imax (x y : Int32) : Int32 := if x < y then y else x
def imin (x y : Int32) : Int32 := if y < x then y else x
section AML
variable {Y : am_Y} {ad : Nat → Nat} {I : List Nat} {P : Option Value → am_M → Prop} {pc : Nat} {L : List (Option Value)} {st : List Value} {M : am_M}
theorem am_ifb_eq {b : Bool} {off : Int} {tgt : Nat} (ht : (pc : Int) + off = (tgt : Int)) (hdg : decode Y.2.1 pc = .ok (.ifCond .eq off, 3)) (kt : b = false → am_W Y ad I P tgt L st M) (kf : b = true → am_W Y ad I P (pc + 3) L st M) : am_W Y ad I P pc L (.int (bI b) :: st) M :=
  am_if_eq ht hdg (fun h => kt ((bI_0 b).mp h)) (fun h => kf ((bI_1 b).mp h))
theorem am_ifb_ne {b : Bool} {off : Int} {tgt : Nat} (ht : (pc : Int) + off = (tgt : Int)) (hdg : decode Y.2.1 pc = .ok (.ifCond .ne off, 3)) (kt : b = true → am_W Y ad I P tgt L st M) (kf : b = false → am_W Y ad I P (pc + 3) L st M) : am_W Y ad I P pc L (.int (bI b) :: st) M :=
  am_if_ne ht hdg (fun h => kt ((bI_1 b).mp h)) (fun h => kf ((bI_0 b).mp h))
variable {Y' : am_Y} {As rest : List Value} {index n : Nat}
theorem am_callVi {x : Int32} {N : am_M} {k ci Nf : Nat} {T : u_T} {fl : List (Option Nat)} (hM : am_C Y' ad I (.ref (ad k) :: As) M (am_is x N)) (ok : am_okV Y' n) (hlink : Cond.methodLink Y.1.cls index Y'.1 ∈ lw_tbl) (hk : k ∈ I) (hs : am_shp k = .inl (ci, fl)) (hc : vwCl[ci]? = some (Y'.1.cls, T, Nf)) (hn : As.length = n) (hR : Y'.2.2.2.2.1 + 1 ≤ Y.2.2.2.2.1 ∧ 8 + (Y'.2.2.1 + 11) + Y'.2.2.2.2.2 ≤ Y.2.2.2.2.2) (hW8 : (rest.map fun v => v.category).sum ≤ 8) {st0 : List Value} (hst : st0 = As.reverse ++ .ref (ad k) :: rest) (hdg : decode Y.2.1 pc = .ok (.invokevirtual index, 3)) (kk : am_W Y ad I P (pc + 3) L (.int x :: rest) N) : am_W Y ad I P pc L st0 M :=
  am_callV hM ok hlink hk hs hc hn hR hW8 hst hdg (fun r M' hp => by obtain ⟨rfl, rfl⟩ := hp; exact kk)
theorem am_callVv {N : am_M} {k ci Nf : Nat} {T : u_T} {fl : List (Option Nat)} (hM : am_C Y' ad I (.ref (ad k) :: As) M (am_un N)) (ok : am_okV Y' n) (hlink : Cond.methodLink Y.1.cls index Y'.1 ∈ lw_tbl) (hk : k ∈ I) (hs : am_shp k = .inl (ci, fl)) (hc : vwCl[ci]? = some (Y'.1.cls, T, Nf)) (hn : As.length = n) (hR : Y'.2.2.2.2.1 + 1 ≤ Y.2.2.2.2.1 ∧ 8 + (Y'.2.2.1 + 11) + Y'.2.2.2.2.2 ≤ Y.2.2.2.2.2) (hW8 : (rest.map fun v => v.category).sum ≤ 8) {st0 : List Value} (hst : st0 = As.reverse ++ .ref (ad k) :: rest) (hdg : decode Y.2.1 pc = .ok (.invokevirtual index, 3)) (kk : am_W Y ad I P (pc + 3) L rest N) : am_W Y ad I P pc L st0 M :=
  am_callV hM ok hlink hk hs hc hn hR hW8 hst hdg (fun r M' hp => by obtain ⟨rfl, rfl⟩ := hp; exact kk)
theorem am_callSi {x : Int32} {N : am_M} (hM : am_C Y' ad I As M (am_is x N)) (ok : am_okS Y' n) (hlink : Cond.methodLink Y.1.cls index Y'.1 ∈ lw_tbl) (hn : As.length = n) (hR : Y'.2.2.2.2.1 + 1 ≤ Y.2.2.2.2.1 ∧ 8 + (Y'.2.2.1 + 11) + Y'.2.2.2.2.2 ≤ Y.2.2.2.2.2) (hW8 : (rest.map fun v => v.category).sum ≤ 8) {st0 : List Value} (hst : st0 = As.reverse ++ rest) (hdg : decode Y.2.1 pc = .ok (.invokestatic index, 3)) (kk : am_W Y ad I P (pc + 3) L (.int x :: rest) N) : am_W Y ad I P pc L st0 M :=
  am_callS hM ok hlink hn hR hW8 hst hdg (fun r M' hp => by obtain ⟨rfl, rfl⟩ := hp; exact kk)
theorem am_callSv {N : am_M} (hM : am_C Y' ad I As M (am_un N)) (ok : am_okS Y' n) (hlink : Cond.methodLink Y.1.cls index Y'.1 ∈ lw_tbl) (hn : As.length = n) (hR : Y'.2.2.2.2.1 + 1 ≤ Y.2.2.2.2.1 ∧ 8 + (Y'.2.2.1 + 11) + Y'.2.2.2.2.2 ≤ Y.2.2.2.2.2) (hW8 : (rest.map fun v => v.category).sum ≤ 8) {st0 : List Value} (hst : st0 = As.reverse ++ rest) (hdg : decode Y.2.1 pc = .ok (.invokestatic index, 3)) (kk : am_W Y ad I P (pc + 3) L rest N) : am_W Y ad I P pc L st0 M :=
  am_callS hM ok hlink hn hR hW8 hst hdg (fun r M' hp => by obtain ⟨rfl, rfl⟩ := hp; exact kk)
theorem am_callNi {x : Int32} {N : am_M} {host : String} (hM : am_C Y' ad I As M (am_is x N)) (ok : am_okS Y' n) (hlink : Cond.methodLinkNest Y.1.cls index Y'.1 host ∈ am_nst) (hn : As.length = n) (hR : Y'.2.2.2.2.1 + 1 ≤ Y.2.2.2.2.1 ∧ 8 + (Y'.2.2.1 + 11) + Y'.2.2.2.2.2 ≤ Y.2.2.2.2.2) (hW8 : (rest.map fun v => v.category).sum ≤ 8) {st0 : List Value} (hst : st0 = As.reverse ++ rest) (hdg : decode Y.2.1 pc = .ok (.invokestatic index, 3)) (kk : am_W Y ad I P (pc + 3) L (.int x :: rest) N) : am_W Y ad I P pc L st0 M :=
  am_callN hM ok hlink hn hR hW8 hst hdg (fun r M' hp => by obtain ⟨rfl, rfl⟩ := hp; exact kk)
theorem am_mabsI {index : Nat} {x : Int32} (hlink : Cond.methodLink Y.1.cls index Lib.Math.abs.name ∈ lw_tbl) (hf : 1 ≤ Y.2.2.2.2.1) (hlc : (st.map fun v => v.category).sum + 13 ≤ Y.2.2.2.2.2) (hdg : decode Y.2.1 pc = .ok (.invokestatic index, 3)) (kk : am_W Y ad I P (pc + 3) L (.int (iabs x) :: st) M) : am_W Y ad I P pc L (.int x :: st) M :=
  am_mabs hlink mw_abs_s mw_i mw_abs_c hf hlc hdg kk
theorem am_mmaxI {index : Nat} {x y : Int32} (hlink : Cond.methodLink Y.1.cls index Lib.Math.max.name ∈ lw_tbl) (hf : 1 ≤ Y.2.2.2.2.1) (hlc : (st.map fun v => v.category).sum + 13 ≤ Y.2.2.2.2.2) (hdg : decode Y.2.1 pc = .ok (.invokestatic index, 3)) (kk : am_W Y ad I P (pc + 3) L (.int (imax x y) :: st) M) : am_W Y ad I P pc L (.int y :: .int x :: st) M :=
  am_mmax hlink mw_max_s mw_i mw_max_c hf hlc hdg kk
theorem am_mminI {index : Nat} {x y : Int32} (hlink : Cond.methodLink Y.1.cls index Lib.Math.min.name ∈ lw_tbl) (hf : 1 ≤ Y.2.2.2.2.1) (hlc : (st.map fun v => v.category).sum + 13 ≤ Y.2.2.2.2.2) (hdg : decode Y.2.1 pc = .ok (.invokestatic index, 3)) (kk : am_W Y ad I P (pc + 3) L (.int (imin x y) :: st) M) : am_W Y ad I P pc L (.int y :: .int x :: st) M :=
  am_mmin hlink mw_min_s mw_i mw_min_c hf hlc hdg kk
end AML

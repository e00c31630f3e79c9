/-! a logic over a world that grows: constructors, and the law -/
abbrev an_E : Type := (Nat × List Value) ⊕ ((Bool × Nat × (Nat → Int32)) ⊕ (ClassId × Nat × (Nat → Int64)))
def an_c (cyI cyZ : ClassId) (x : an_E) : va_E := match x with
  | .inl y => .inr y
  | .inr (.inl (z, n, f)) => .inl (if z = true then cyZ else cyI, n, .inl f)
  | .inr (.inr (k, n, f)) => .inl (k, n, .inr (.inl f))
def an_w (cyI cyZ : ClassId) (ws : List (Nat × an_E)) : va_W := ws.map (fun q => (q.1, an_c cyI cyZ q.2))
theorem an_get {cyI cyZ : ClassId} {ws : List (Nat × an_E)} {i : Nat} {q : Nat × an_E} (h : ws[i]? = some q) : (an_w cyI cyZ ws)[i]? = some (q.1, an_c cyI cyZ q.2) := by
  simp [an_w, h]
theorem an_set {cyI cyZ : ClassId} {ws : List (Nat × an_E)} {i : Nat} {a : Nat} {x : an_E} : (an_w cyI cyZ ws).set i (a, an_c cyI cyZ x) = an_w cyI cyZ (ws.set i (a, x)) := by
  simp [an_w, List.map_set]
theorem an_app {cyI cyZ : ClassId} {w1 w2 : List (Nat × an_E)} : an_w cyI cyZ (w1 ++ w2) = an_w cyI cyZ w1 ++ an_w cyI cyZ w2 := by simp [an_w]
/-- a cell of the world of the 37 as one of this world -/
def an_cell (ad : Nat → Nat) (M : am_M) (k : Nat) : an_E := match am_shp k with
  | .inl (ci, fl) => .inl (ci, am_fs ad (M k) 0 fl)
  | .inr (z, n) => .inr (.inl (z, n, M k))
def an_am (I : List Nat) (ad : Nat → Nat) (M : am_M) : List (Nat × an_E) := I.map (fun k => (ad k, an_cell ad M k))
theorem an_am_w (cyI cyZ : ClassId) (I : List Nat) (ad : Nat → Nat) (M : am_M) : an_w cyI cyZ (an_am I ad M) = am_w I cyI cyZ ad M := by
  unfold an_w an_am am_w
  rw [List.map_map]
  apply List.map_congr_left
  intro k _
  simp only [Function.comp_def, an_cell, am_cell]
  cases am_shp k with
  | inl p => rfl
  | inr p => rfl
abbrev an_QF : Type := va_G → ClassId → ClassId → List Frame → Array Value → State → (Nat → Prop) → State → Prop
abbrev an_HY : Type := Launch → Method → Code → State → Array Value → (Nat → Prop) → Prop
def an_W (Y : am_Y) (rm : Jvm.Room) (QF : an_QF) (Hy : an_HY) (pc : Nat) (L : List (Option Value)) (st : List Value) (ws : List (Nat × an_E)) (cs sl : Nat) : Prop :=
  ∀ (l : Launch) (D : va_G) (cyI cyZ : ClassId) (p : Program) (e : Env) (s : State) (m : MethodId) (args : Array Value) (below : List Frame) (meth : Method) (c : Code) (A : Nat → Prop) (H : Heap) (locs : List Loc) (ls : Array Slot),
    am_CX Y D cyI cyZ p s m meth c → Hy l meth c s args A → (∀ q : Nat, s.heap.size ≤ q → A q) → am_L ls Y.2.2.1 L → va_P D vwCl (an_w cyI cyZ ws) H → va_D A (an_w cyI cyZ ws) → va_S A s.heap H locs →
    W p l e rm s m args below meth c H locs cs sl (QF D cyI cyZ below args s A) (F0 m pc ls st)
def an_Q (D : va_G) (cyI cyZ : ClassId) (P : List (Nat × an_E) → Prop) (A : Nat → Prop) : Array Value → State → Outcome → State → Prop := fun _ st o t =>
  (∃ ws : List (Nat × an_E), o = .returned none ∧ P ws ∧ va_P D vwCl (an_w cyI cyZ ws) t.heap ∧ am_K D cyI cyZ t ∧ va_D A (an_w cyI cyZ ws)) ∧ va_F A st t
def an_rm (Y : am_Y) (mc ms : Nat) : Jvm.Room := { frames := Y.2.2.2.2.1, cells := mc, slots := ms, locals := Y.2.2.2.2.2 }
/-- a constructor's contract -/
def an_C (Y : am_Y) (mc ms : Nat) (As : List Value) (ws : List (Nat × an_E)) (P : List (Nat × an_E) → Prop) : Prop :=
  ∀ (l : Launch) (D : va_G) (cyI cyZ : ClassId) (sz : Nat), Met l Y.1 [.code Y.1 Y.2.1 Y.2.2.1 Y.2.2.2.1] (an_rm Y mc ms)
    (va_Pc As (fun U => U.heap.size = sz ∧ va_P D vwCl (an_w cyI cyZ ws) U.heap ∧ am_K D cyI cyZ U ∧ va_D (fun _ => True) (an_w cyI cyZ ws)))
    (an_Q D cyI cyZ P (va_A (an_w cyI cyZ ws) sz)) mc ms (va_A (an_w cyI cyZ ws) sz)
/-- a constructor's end -/
abbrev an_E0 (mc ms : Nat) (P : List (Nat × an_E) → Prop) : an_QF := fun D cyI cyZ below args s A => MQ below (an_Q D cyI cyZ P A) args s mc ms A
abbrev an_H0 : an_HY := fun _ meth _ _ _ _ => meth.name = "<init>"
theorem an_ofW {Y : am_Y} {mc ms : Nat} {As : List Value} {ws : List (Nat × an_E)} {P : List (Nat × an_E) → Prop} {L : List (Option Value)} (hp : plainName Y.1.cls = true) (hini : Y.1.name = "<init>") (hc : ∀ v ∈ As, v.category = 1) (hn : As.length ≤ Y.2.2.1)
    (hL : As.map some ++ List.replicate (Y.2.2.1 - As.length) none = L) (k : an_W Y (an_rm Y mc ms) (an_E0 mc ms P) an_H0 0 L [] ws 0 0) : an_C Y mc ms As ws P := by
  intro l D cyI cyZ sz
  refine Met.ofW (cc := Y.2.1) (maxL := Y.2.2.1) (ret := Y.2.2.2.1) hp rfl ?_
  intro p e s m args below meth c s₁ B hml hv
  obtain ⟨rfl, hsz, hP, hK, hD0⟩ := hv
  subst hsz
  have hD := hD0.self (sz := s.heap.size)
  obtain ⟨ha1, ha2⟩ := am_args As hc
  have hl := lv_entry As (n := Y.2.2.1) (by rw [ha1]; exact hn)
  have hin : meth.name = "<init>" := ((name_of_methodNamed B.named B.method).1).trans hini
  rw [lg_entry_eq]
  refine k l D cyI cyZ p e s m _ below meth c _ s.heap [] _ ⟨B.exec, B.bytes, B.returns, hml, findClass_of_methodNamed B.named, B.notSynchronized, hK⟩ hin (fun q h => Or.inr h) ⟨hl.1, hl.2.1, ?_⟩ hP hD va_S.rf
  intro i v hi
  rw [← hL] at hi
  have hi2 : As[i]? = some v := by
    by_cases h : i < As.length
    · rw [List.getElem?_append_left (by simpa using h)] at hi
      simpa using hi
    · rw [List.getElem?_append_right (by simpa using Nat.le_of_not_lt h)] at hi
      rw [List.getElem?_replicate] at hi
      split at hi <;> cases hi
  have h0 := ha2 0 i v hi2
  rw [Nat.zero_add] at h0
  exact ⟨hl.2.2 _ h0, hc v (List.mem_of_getElem? hi2)⟩
section ANR
variable {Y : am_Y} {rm : Jvm.Room} {QF : an_QF} {Hy : an_HY} {pc : Nat} {L : List (Option Value)} {st : List Value} {ws : List (Nat × an_E)} {cs sl : Nat}
theorem an_iconst {n : Int} {v : Int32} (hv : Int32.ofInt n = v) (hdg : decode Y.2.1 pc = .ok (.iconst n, 1)) (k : an_W Y rm QF Hy (pc + 1) L (.int v :: st) ws cs sl) : an_W Y rm QF Hy pc L (st) ws cs sl := by
  intro l D cyI cyZ p e s m args below meth c A H locs ls hX hY hA hl hP hD hS
  obtain ⟨hx, hb, hr, hml, hown, hlk, hK⟩ := id hX
  exact lv_iconst hx hb hdg hv (k l D cyI cyZ p e s m args below meth c A H locs ls hX hY hA hl hP hD hS)
theorem an_bipush {n : Int} {v : Int32} (hv : (Int8.ofInt n).toInt32 = v) (hdg : decode Y.2.1 pc = .ok (.bipush n, 2)) (k : an_W Y rm QF Hy (pc + 2) L (.int v :: st) ws cs sl) : an_W Y rm QF Hy pc L (st) ws cs sl := by
  intro l D cyI cyZ p e s m args below meth c A H locs ls hX hY hA hl hP hD hS
  obtain ⟨hx, hb, hr, hml, hown, hlk, hK⟩ := id hX
  exact lv_bipush hx hb hdg hv (k l D cyI cyZ p e s m args below meth c A H locs ls hX hY hA hl hP hD hS)
theorem an_sipush {n : Int} {v : Int32} (hv : (Int16.ofInt n).toInt32 = v) (hdg : decode Y.2.1 pc = .ok (.sipush n, 3)) (k : an_W Y rm QF Hy (pc + 3) L (.int v :: st) ws cs sl) : an_W Y rm QF Hy pc L (st) ws cs sl := by
  intro l D cyI cyZ p e s m args below meth c A H locs ls hX hY hA hl hP hD hS
  obtain ⟨hx, hb, hr, hml, hown, hlk, hK⟩ := id hX
  exact lv_sipush hx hb hdg hv (k l D cyI cyZ p e s m args below meth c A H locs ls hX hY hA hl hP hD hS)
theorem an_null (hdg : decode Y.2.1 pc = .ok (.aconst_null, 1)) (k : an_W Y rm QF Hy (pc + 1) L (.null :: st) ws cs sl) : an_W Y rm QF Hy pc L (st) ws cs sl := by
  intro l D cyI cyZ p e s m args below meth c A H locs ls hX hY hA hl hP hD hS
  obtain ⟨hx, hb, hr, hml, hown, hlk, hK⟩ := id hX
  exact lv_null hx hb hdg (k l D cyI cyZ p e s m args below meth c A H locs ls hX hY hA hl hP hD hS)
theorem an_iload_n {i : Fin 4} {v : Int32} (hi : L[(i : Nat)]? = some (some (.int v))) (hdg : decode Y.2.1 pc = .ok (.iload_n i, 1)) (k : an_W Y rm QF Hy (pc + 1) L (.int v :: st) ws cs sl) : an_W Y rm QF Hy pc L (st) ws cs sl := by
  intro l D cyI cyZ p e s m args below meth c A H locs ls hX hY hA hl hP hD hS
  obtain ⟨hx, hb, hr, hml, hown, hlk, hK⟩ := id hX
  exact lv_iload_n hx hb hdg rfl (hl.at hi) (k l D cyI cyZ p e s m args below meth c A H locs ls hX hY hA hl hP hD hS)
theorem an_iload {i : Nat} {v : Int32} (hi : L[i]? = some (some (.int v))) (hdg : decode Y.2.1 pc = .ok (.iload i, 2)) (k : an_W Y rm QF Hy (pc + 2) L (.int v :: st) ws cs sl) : an_W Y rm QF Hy pc L (st) ws cs sl := by
  intro l D cyI cyZ p e s m args below meth c A H locs ls hX hY hA hl hP hD hS
  obtain ⟨hx, hb, hr, hml, hown, hlk, hK⟩ := id hX
  exact lv_iload hx hb hdg (hl.at hi) (k l D cyI cyZ p e s m args below meth c A H locs ls hX hY hA hl hP hD hS)
theorem an_aload_n {i : Fin 4} {v : Nat} (hi : L[(i : Nat)]? = some (some (.ref v))) (hdg : decode Y.2.1 pc = .ok (.aload_n i, 1)) (k : an_W Y rm QF Hy (pc + 1) L (.ref v :: st) ws cs sl) : an_W Y rm QF Hy pc L (st) ws cs sl := by
  intro l D cyI cyZ p e s m args below meth c A H locs ls hX hY hA hl hP hD hS
  obtain ⟨hx, hb, hr, hml, hown, hlk, hK⟩ := id hX
  exact lv_aload_n hx hb hdg rfl (hl.at hi) (k l D cyI cyZ p e s m args below meth c A H locs ls hX hY hA hl hP hD hS)
theorem an_aload {i : Nat} {v : Nat} (hi : L[i]? = some (some (.ref v))) (hdg : decode Y.2.1 pc = .ok (.aload i, 2)) (k : an_W Y rm QF Hy (pc + 2) L (.ref v :: st) ws cs sl) : an_W Y rm QF Hy pc L (st) ws cs sl := by
  intro l D cyI cyZ p e s m args below meth c A H locs ls hX hY hA hl hP hD hS
  obtain ⟨hx, hb, hr, hml, hown, hlk, hK⟩ := id hX
  exact lv_aload hx hb hdg (hl.at hi) (k l D cyI cyZ p e s m args below meth c A H locs ls hX hY hA hl hP hD hS)
theorem an_iadd {x y : Int32} (hdg : decode Y.2.1 pc = .ok (.iadd, 1)) (k : an_W Y rm QF Hy (pc + 1) L (.int (x + y) :: st) ws cs sl) : an_W Y rm QF Hy pc L (.int y :: .int x :: st) ws cs sl := by
  intro l D cyI cyZ p e s m args below meth c A H locs ls hX hY hA hl hP hD hS
  obtain ⟨hx, hb, hr, hml, hown, hlk, hK⟩ := id hX
  exact lv_iadd hx hb hdg (k l D cyI cyZ p e s m args below meth c A H locs ls hX hY hA hl hP hD hS)
theorem an_isub {x y : Int32} (hdg : decode Y.2.1 pc = .ok (.isub, 1)) (k : an_W Y rm QF Hy (pc + 1) L (.int (x - y) :: st) ws cs sl) : an_W Y rm QF Hy pc L (.int y :: .int x :: st) ws cs sl := by
  intro l D cyI cyZ p e s m args below meth c A H locs ls hX hY hA hl hP hD hS
  obtain ⟨hx, hb, hr, hml, hown, hlk, hK⟩ := id hX
  exact lv_isub hx hb hdg (k l D cyI cyZ p e s m args below meth c A H locs ls hX hY hA hl hP hD hS)
theorem an_iand {x y : Int32} (hdg : decode Y.2.1 pc = .ok (.iand, 1)) (k : an_W Y rm QF Hy (pc + 1) L (.int (x &&& y) :: st) ws cs sl) : an_W Y rm QF Hy pc L (.int y :: .int x :: st) ws cs sl := by
  intro l D cyI cyZ p e s m args below meth c A H locs ls hX hY hA hl hP hD hS
  obtain ⟨hx, hb, hr, hml, hown, hlk, hK⟩ := id hX
  exact lv_iand hx hb hdg (k l D cyI cyZ p e s m args below meth c A H locs ls hX hY hA hl hP hD hS)
theorem an_dup {v : Value} (hv : v.category = 1) (hdg : decode Y.2.1 pc = .ok (.dup, 1)) (k : an_W Y rm QF Hy (pc + 1) L (v :: v :: st) ws cs sl) : an_W Y rm QF Hy pc L (v :: st) ws cs sl := by
  intro l D cyI cyZ p e s m args below meth c A H locs ls hX hY hA hl hP hD hS
  obtain ⟨hx, hb, hr, hml, hown, hlk, hK⟩ := id hX
  exact lv_dup hx hb hdg hv (k l D cyI cyZ p e s m args below meth c A H locs ls hX hY hA hl hP hD hS)
theorem an_istore_n {i : Fin 4} {v : Int32} (hn : (i : Nat) < Y.2.2.1) (hdg : decode Y.2.1 pc = .ok (.istore_n i, 1)) (k : an_W Y rm QF Hy (pc + 1) (L.set i (some (.int v))) st ws cs sl) : an_W Y rm QF Hy pc L (.int v :: st) ws cs sl := by
  intro l D cyI cyZ p e s m args below meth c A H locs ls hX hY hA hl hP hD hS
  obtain ⟨hx, hb, hr, hml, hown, hlk, hK⟩ := id hX
  exact lv_istore_n hx hb hdg rfl hl.has hn rfl (fun ls' h' => k l D cyI cyZ p e s m args below meth c A H locs ls' hX hY hA (hl.set rfl h') hP hD hS)
theorem an_istore {i : Nat} {v : Int32} (hn : i < Y.2.2.1) (hdg : decode Y.2.1 pc = .ok (.istore i, 2)) (k : an_W Y rm QF Hy (pc + 2) (L.set i (some (.int v))) st ws cs sl) : an_W Y rm QF Hy pc L (.int v :: st) ws cs sl := by
  intro l D cyI cyZ p e s m args below meth c A H locs ls hX hY hA hl hP hD hS
  obtain ⟨hx, hb, hr, hml, hown, hlk, hK⟩ := id hX
  exact lv_istore hx hb hdg hl.has hn rfl (fun ls' h' => k l D cyI cyZ p e s m args below meth c A H locs ls' hX hY hA (hl.set rfl h') hP hD hS)
theorem an_astore_n {i : Fin 4} {v : Nat} (hn : (i : Nat) < Y.2.2.1) (hdg : decode Y.2.1 pc = .ok (.astore_n i, 1)) (k : an_W Y rm QF Hy (pc + 1) (L.set i (some (.ref v))) st ws cs sl) : an_W Y rm QF Hy pc L (.ref v :: st) ws cs sl := by
  intro l D cyI cyZ p e s m args below meth c A H locs ls hX hY hA hl hP hD hS
  obtain ⟨hx, hb, hr, hml, hown, hlk, hK⟩ := id hX
  exact lv_astore_n hx hb hdg rfl hl.has hn rfl (fun ls' h' => k l D cyI cyZ p e s m args below meth c A H locs ls' hX hY hA (hl.set rfl h') hP hD hS)
theorem an_astore {i : Nat} {v : Nat} (hn : i < Y.2.2.1) (hdg : decode Y.2.1 pc = .ok (.astore i, 2)) (k : an_W Y rm QF Hy (pc + 2) (L.set i (some (.ref v))) st ws cs sl) : an_W Y rm QF Hy pc L (.ref v :: st) ws cs sl := by
  intro l D cyI cyZ p e s m args below meth c A H locs ls hX hY hA hl hP hD hS
  obtain ⟨hx, hb, hr, hml, hown, hlk, hK⟩ := id hX
  exact lv_astore hx hb hdg hl.has hn rfl (fun ls' h' => k l D cyI cyZ p e s m args below meth c A H locs ls' hX hY hA (hl.set rfl h') hP hD hS)
theorem an_iinc {i : Nat} {n : Int} {x v : Int32} (hi : L[i]? = some (some (.int x))) (hv : x + Int32.ofInt n = v) (hn : i < Y.2.2.1) (hdg : decode Y.2.1 pc = .ok (.iinc i n, 3)) (k : an_W Y rm QF Hy (pc + 3) (L.set i (some (.int v))) st ws cs sl) : an_W Y rm QF Hy pc L st ws cs sl := by
  intro l D cyI cyZ p e s m args below meth c A H locs ls hX hY hA hl hP hD hS
  obtain ⟨hx, hb, hr, hml, hown, hlk, hK⟩ := id hX
  obtain ⟨q, hq⟩ := List.getElem?_of_mem (am_l_mem (q := (i, .int x)).mpr hi)
  exact lv_iinc hx hb hdg hl.has hq hv hn rfl (fun ls' h' => k l D cyI cyZ p e s m args below meth c A H locs ls' hX hY hA (hl.set rfl h') hP hD hS)
theorem an_goto {off : Int} {tgt : Nat} (ht : (pc : Int) + off = (tgt : Int)) (hdg : decode Y.2.1 pc = .ok (.goto off, 3)) (k : an_W Y rm QF Hy tgt L st ws cs sl) : an_W Y rm QF Hy pc L st ws cs sl := by
  intro l D cyI cyZ p e s m args below meth c A H locs ls hX hY hA hl hP hD hS
  obtain ⟨hx, hb, hr, hml, hown, hlk, hK⟩ := id hX
  exact lv_goto hx hb hdg ht (k l D cyI cyZ p e s m args below meth c A H locs ls hX hY hA hl hP hD hS)
theorem an_if_eq {x : Int32} {off : Int} {tgt : Nat} (ht : (pc : Int) + off = (tgt : Int)) (hdg : decode Y.2.1 pc = .ok (.ifCond .eq off, 3)) (kt : x = 0 → an_W Y rm QF Hy tgt L st ws cs sl) (kf : ¬ x = 0 → an_W Y rm QF Hy (pc + 3) L st ws cs sl) : an_W Y rm QF Hy pc L (.int x :: st) ws cs sl := by
  intro l D cyI cyZ p e s m args below meth c A H locs ls hX hY hA hl hP hD hS
  obtain ⟨hx, hb, hr, hml, hown, hlk, hK⟩ := id hX
  exact lv_if_eq hx hb hdg ht (fun h => kt h l D cyI cyZ p e s m args below meth c A H locs ls hX hY hA hl hP hD hS) (fun h => kf h l D cyI cyZ p e s m args below meth c A H locs ls hX hY hA hl hP hD hS)
theorem an_if_ne {x : Int32} {off : Int} {tgt : Nat} (ht : (pc : Int) + off = (tgt : Int)) (hdg : decode Y.2.1 pc = .ok (.ifCond .ne off, 3)) (kt : ¬ x = 0 → an_W Y rm QF Hy tgt L st ws cs sl) (kf : x = 0 → an_W Y rm QF Hy (pc + 3) L st ws cs sl) : an_W Y rm QF Hy pc L (.int x :: st) ws cs sl := by
  intro l D cyI cyZ p e s m args below meth c A H locs ls hX hY hA hl hP hD hS
  obtain ⟨hx, hb, hr, hml, hown, hlk, hK⟩ := id hX
  exact lv_if_ne hx hb hdg ht (fun h => kt h l D cyI cyZ p e s m args below meth c A H locs ls hX hY hA hl hP hD hS) (fun h => kf h l D cyI cyZ p e s m args below meth c A H locs ls hX hY hA hl hP hD hS)
theorem an_icmp_eq {x y : Int32} {off : Int} {tgt : Nat} (ht : (pc : Int) + off = (tgt : Int)) (hdg : decode Y.2.1 pc = .ok (.if_icmp .eq off, 3)) (kt : x = y → an_W Y rm QF Hy tgt L st ws cs sl) (kf : ¬ x = y → an_W Y rm QF Hy (pc + 3) L st ws cs sl) : an_W Y rm QF Hy pc L (.int y :: .int x :: st) ws cs sl := by
  intro l D cyI cyZ p e s m args below meth c A H locs ls hX hY hA hl hP hD hS
  obtain ⟨hx, hb, hr, hml, hown, hlk, hK⟩ := id hX
  exact lv_icmp_eq hx hb hdg ht (fun h => kt h l D cyI cyZ p e s m args below meth c A H locs ls hX hY hA hl hP hD hS) (fun h => kf h l D cyI cyZ p e s m args below meth c A H locs ls hX hY hA hl hP hD hS)
theorem an_icmp_ne {x y : Int32} {off : Int} {tgt : Nat} (ht : (pc : Int) + off = (tgt : Int)) (hdg : decode Y.2.1 pc = .ok (.if_icmp .ne off, 3)) (kt : ¬ x = y → an_W Y rm QF Hy tgt L st ws cs sl) (kf : x = y → an_W Y rm QF Hy (pc + 3) L st ws cs sl) : an_W Y rm QF Hy pc L (.int y :: .int x :: st) ws cs sl := by
  intro l D cyI cyZ p e s m args below meth c A H locs ls hX hY hA hl hP hD hS
  obtain ⟨hx, hb, hr, hml, hown, hlk, hK⟩ := id hX
  exact lv_icmp_ne hx hb hdg ht (fun h => kt h l D cyI cyZ p e s m args below meth c A H locs ls hX hY hA hl hP hD hS) (fun h => kf h l D cyI cyZ p e s m args below meth c A H locs ls hX hY hA hl hP hD hS)
theorem an_icmp_gt {x y : Int32} {off : Int} {tgt : Nat} (ht : (pc : Int) + off = (tgt : Int)) (hdg : decode Y.2.1 pc = .ok (.if_icmp .gt off, 3)) (kt : y < x → an_W Y rm QF Hy tgt L st ws cs sl) (kf : ¬ y < x → an_W Y rm QF Hy (pc + 3) L st ws cs sl) : an_W Y rm QF Hy pc L (.int y :: .int x :: st) ws cs sl := by
  intro l D cyI cyZ p e s m args below meth c A H locs ls hX hY hA hl hP hD hS
  obtain ⟨hx, hb, hr, hml, hown, hlk, hK⟩ := id hX
  exact lv_icmp_gt hx hb hdg ht (fun h => kt h l D cyI cyZ p e s m args below meth c A H locs ls hX hY hA hl hP hD hS) (fun h => kf h l D cyI cyZ p e s m args below meth c A H locs ls hX hY hA hl hP hD hS)
theorem an_icmp_ge {x y : Int32} {off : Int} {tgt : Nat} (ht : (pc : Int) + off = (tgt : Int)) (hdg : decode Y.2.1 pc = .ok (.if_icmp .ge off, 3)) (kt : y ≤ x → an_W Y rm QF Hy tgt L st ws cs sl) (kf : ¬ y ≤ x → an_W Y rm QF Hy (pc + 3) L st ws cs sl) : an_W Y rm QF Hy pc L (.int y :: .int x :: st) ws cs sl := by
  intro l D cyI cyZ p e s m args below meth c A H locs ls hX hY hA hl hP hD hS
  obtain ⟨hx, hb, hr, hml, hown, hlk, hK⟩ := id hX
  exact lv_icmp_ge hx hb hdg ht (fun h => kt h l D cyI cyZ p e s m args below meth c A H locs ls hX hY hA hl hP hD hS) (fun h => kf h l D cyI cyZ p e s m args below meth c A H locs ls hX hY hA hl hP hD hS)
theorem an_tabIn {dflt lo hi : Int} {offs : Array Int} {len : Nat} {x : Int32} {off : Int} {tgt : Nat} (h1 : ¬ x.toInt < lo) (h2 : ¬ hi < x.toInt) (ho : offs[(x.toInt - lo).toNat]? = some off) (ht : (pc : Int) + off = (tgt : Int)) (hdg : decode Y.2.1 pc = .ok (.tableswitch dflt lo hi offs, len)) (k : an_W Y rm QF Hy tgt L st ws cs sl) : an_W Y rm QF Hy pc L (.int x :: st) ws cs sl := by
  intro l D cyI cyZ p e s m args below meth c A H locs ls hX hY hA hl hP hD hS
  obtain ⟨hx, hb, hr, hml, hown, hlk, hK⟩ := id hX
  exact lv_tableIn hx hb hdg h1 h2 ho ht (k l D cyI cyZ p e s m args below meth c A H locs ls hX hY hA hl hP hD hS)
theorem an_tabOut {dflt lo hi : Int} {offs : Array Int} {len : Nat} {x : Int32} {tgt : Nat} (h : x.toInt < lo ∨ hi < x.toInt) (ht : (pc : Int) + dflt = (tgt : Int)) (hdg : decode Y.2.1 pc = .ok (.tableswitch dflt lo hi offs, len)) (k : an_W Y rm QF Hy tgt L st ws cs sl) : an_W Y rm QF Hy pc L (.int x :: st) ws cs sl := by
  intro l D cyI cyZ p e s m args below meth c A H locs ls hX hY hA hl hP hD hS
  obtain ⟨hx, hb, hr, hml, hown, hlk, hK⟩ := id hX
  exact lv_tableOut hx hb hdg h ht (k l D cyI cyZ p e s m args below meth c A H locs ls hX hY hA hl hP hD hS)
theorem an_oinit {index v : Nat} (hlink : Cond.methodLink Y.1.cls index Lib.objectInit ∈ lw_tbl) (hinst : Cond.instanceMethod Lib.objectInit ∈ lw_tbl) (hcode : Cond.code Lib.objectInit ⟨#[0xb1]⟩ 1 none ∈ lw_tbl) (hf : 1 ≤ rm.frames) (hlc : (st.map fun v => v.category).sum + 12 ≤ rm.locals) (hdg : decode Y.2.1 pc = .ok (.invokespecial index, 3)) (kk : an_W Y rm QF Hy (pc + 3) L st ws cs sl) : an_W Y rm QF Hy pc L (.ref v :: st) ws cs sl := by
  intro l D cyI cyZ p e s m args below meth c A H locs ls hX hY hA hl hP hD hS
  obtain ⟨hx, hb, hr, hml, hown, hlk, hK⟩ := id hX
  refine W.objInit hx hb hown (am_word hK hlink rfl rfl _) (am_word hK hinst rfl rfl _) (am_word hK hcode rfl rfl _) rfl (hl.1.trans hml.symm) rfl hdg hf (by show 2 * 0 + _ + 12 ≤ _; rw [Nat.mul_zero, Nat.zero_add]; exact hlc) ?_
  exact kk l D cyI cyZ p e s m args below meth c A H locs ls hX hY hA hl hP hD hS
theorem an_getf {k ci index N : Nat} {C : String} {T : u_T} (hc : vwCl[ci]? = some (C, T, N)) (hT : ∀ w ∈ u_ws C T N, w ∈ lw_tbl ∧ goodWord w = true) (q0 : Nat) {a : Nat} {fs : List Value} {v : Value} (he : ws[q0]? = some (a, .inl (ci, fs))) (hN : k < N) (hw : Cond.fieldLink Y.1.cls index (T k).1 (T k).2.1 (T k).2.2.1 ∈ lw_tbl) (hv : fs[k]? = some v) (hdg : decode Y.2.1 pc = .ok (.getfield index, 3)) (kk : an_W Y rm QF Hy (pc + 3) L (v :: st) ws cs sl) : an_W Y rm QF Hy pc L (.ref a :: st) ws cs sl := by
  intro l D cyI cyZ p e s m args below meth c A H locs ls hX hY hA hl hP hD hS
  obtain ⟨hx, hb, hr, hml, hown, hlk, hK⟩ := id hX
  exact va_get (v := v) hx hb (hK.cls hT args) (fun _ h => h) hown hK.1 hP q0 (an_get he) hc k hN (am_word hK hw rfl rfl args) (fun _ h => h) hv hdg (kk l D cyI cyZ p e s m args below meth c A H locs ls hX hY hA hl hP hD hS)
theorem an_put {k ci index N : Nat} {C : String} {T : u_T} (hc : vwCl[ci]? = some (C, T, N)) (hT : ∀ w ∈ u_ws C T N, w ∈ lw_tbl ∧ goodWord w = true) {v : Value} {ty : FieldType} {tyf : Nat → FieldType} (hty : ∀ k, k < N → parseFieldDescriptor (T k).2.2.1 = some (tyf k)) (hnm : ∀ a, a < N → ∀ b, b < N → a ≠ b → (T a).2.1 ≠ (T b).2.1) (q0 : Nat) {a : Nat} {fs : List Value} (he : ws[q0]? = some (a, .inl (ci, fs))) (hN : k < N) (hw : Cond.fieldLink Y.1.cls index (T k).1 (T k).2.1 (T k).2.2.1 ∈ lw_tbl) (hfin : (T k).2.2.2 = false) (htyj : tyf k = ty) (hn : narrow ty v = v) (hfit : fits ty v = true) (hlen : k < fs.length) (hdg : decode Y.2.1 pc = .ok (.putfield index, 3)) {ws' : List (Nat × an_E)} (hws : ws.set q0 (a, .inl (ci, fs.set k v)) = ws') (kk : an_W Y rm QF Hy (pc + 3) L st ws' cs sl) : an_W Y rm QF Hy pc L (v :: .ref a :: st) ws cs sl := by
  intro l D cyI cyZ p e s m args below meth c A H locs ls hX hY hA hl hP hD hS
  obtain ⟨hx, hb, hr, hml, hown, hlk, hK⟩ := id hX
  refine va_put hx hb (hK.cls hT args) (fun _ h => h) tyf hty hnm hown hK.1 hP hD hS q0 (an_get he) hc k hN (am_word hK hw rfl rfl args) (fun _ h => h) hfin (ty := ty) (by rw [hty k hN, htyj]) hn hfit hlen hdg (fun H1 locs1 hP1 hD1 hS1 => ?_)
  have ew := an_set (cyI := cyI) (cyZ := cyZ) (ws := ws) (i := q0) (a := a) (x := .inl (ci, fs.set k v))
  rw [hws] at ew
  change va_P D vwCl ((an_w cyI cyZ ws).set q0 (a, an_c cyI cyZ (.inl (ci, fs.set k v)))) H1 at hP1
  change va_D A ((an_w cyI cyZ ws).set q0 (a, an_c cyI cyZ (.inl (ci, fs.set k v)))) at hD1
  rw [ew] at hP1 hD1
  exact kk l D cyI cyZ p e s m args below meth c A H1 locs1 ls hX hY hA hl hP1 hD1 hS1
theorem an_putF {k ci index N : Nat} {C : String} {T : u_T} (hc : vwCl[ci]? = some (C, T, N)) (hT : ∀ w ∈ u_ws C T N, w ∈ lw_tbl ∧ goodWord w = true) {v : Value} {ty : FieldType} {tyf : Nat → FieldType} (hty : ∀ k, k < N → parseFieldDescriptor (T k).2.2.1 = some (tyf k)) (hnm : ∀ a, a < N → ∀ b, b < N → a ≠ b → (T a).2.1 ≠ (T b).2.1) (q0 : Nat) {a : Nat} {fs : List Value} (he : ws[q0]? = some (a, .inl (ci, fs))) (hN : k < N) (hw : Cond.fieldLink Y.1.cls index (T k).1 (T k).2.1 (T k).2.2.1 ∈ lw_tbl) (hfin : (T k).2.2.2 = true) (hin : ∀ l meth c s args A, Hy l meth c s args A → meth.name = "<init>") (hdecl : (T k).1 = Y.1.cls) (htyj : tyf k = ty) (hn : narrow ty v = v) (hfit : fits ty v = true) (hlen : k < fs.length) (hdg : decode Y.2.1 pc = .ok (.putfield index, 3)) {ws' : List (Nat × an_E)} (hws : ws.set q0 (a, .inl (ci, fs.set k v)) = ws') (kk : an_W Y rm QF Hy (pc + 3) L st ws' cs sl) : an_W Y rm QF Hy pc L (v :: .ref a :: st) ws cs sl := by
  intro l D cyI cyZ p e s m args below meth c A H locs ls hX hY hA hl hP hD hS
  obtain ⟨hx, hb, hr, hml, hown, hlk, hK⟩ := id hX
  refine va_putF hx hb (hK.cls hT args) (fun _ h => h) tyf hty hnm hown hK.1 hP hD hS q0 (an_get he) hc k hN (am_word hK hw rfl rfl args) (fun _ h => h) hfin (hin _ _ _ _ _ _ hY) hdecl (ty := ty) (by rw [hty k hN, htyj]) hn hfit hlen hdg (fun H1 locs1 hP1 hD1 hS1 => ?_)
  have ew := an_set (cyI := cyI) (cyZ := cyZ) (ws := ws) (i := q0) (a := a) (x := .inl (ci, fs.set k v))
  rw [hws] at ew
  change va_P D vwCl ((an_w cyI cyZ ws).set q0 (a, an_c cyI cyZ (.inl (ci, fs.set k v)))) H1 at hP1
  change va_D A ((an_w cyI cyZ ws).set q0 (a, an_c cyI cyZ (.inl (ci, fs.set k v)))) at hD1
  rw [ew] at hP1 hD1
  exact kk l D cyI cyZ p e s m args below meth c A H1 locs1 ls hX hY hA hl hP1 hD1 hS1
theorem an_new {ci index N : Nat} {C : String} {T : u_T} (hc : vwCl[ci]? = some (C, T, N)) (hT : ∀ w ∈ u_ws C T N, w ∈ lw_tbl ∧ goodWord w = true) {tyf : Nat → FieldType} (hty : ∀ k, k < N → parseFieldDescriptor (T k).2.2.1 = some (tyf k)) (hcl : Cond.classLink Y.1.cls index C ∈ lw_tbl) (hinst : Cond.instantiable C N ∈ lw_tbl) (hini : Cond.initialized C ∈ lw_tbl) {fs : List Value} (hfs : ∀ j, j < N → defaultValue (tyf j) = vp_V fs j) (hcells : cs + 1 ≤ rm.cells) (hslots : sl + N ≤ rm.slots) (hdg : decode Y.2.1 pc = .ok (.new index, 3)) {cs' sl' : Nat} (e1 : cs + 1 = cs') (e2 : sl + N = sl') (kk : ∀ q, an_W Y rm QF Hy (pc + 3) L (.ref q :: st) (ws ++ [(q, .inl (ci, fs))]) cs' sl') : an_W Y rm QF Hy pc L st ws cs sl := by
  intro l D cyI cyZ p e s m args below meth c A H locs ls hX hY hA hl hP hD hS
  obtain ⟨hx, hb, hr, hml, hown, hlk, hK⟩ := id hX
  subst e1 e2
  refine va_new (fs := fs) hx hb (hK.cls hT args) (fun _ h => h) tyf hty hown (am_word hK hcl rfl rfl args) (am_word hK hinst rfl rfl args) (am_word hK hini rfl rfl args) hK.1 hP hD hS hA hc hfs hcells hslots hdg (fun q H1 hP1 hD1 hS1 => ?_)
  have ew : an_w cyI cyZ ws ++ [(q, .inr (ci, fs))] = an_w cyI cyZ (ws ++ [(q, .inl (ci, fs))]) := by rw [an_app]; rfl
  rw [ew] at hP1 hD1
  exact kk q l D cyI cyZ p e s m args below meth c A H1 locs ls hX hY hA hl hP1 hD1 hS1
theorem an_newI {n : Int32} {n' : Nat} (harr : Cond.arrayClass .int ∈ lw_tbl) (hn : ¬ n < 0) (hN : n.toNatClampNeg = n') (hbytes : n' * componentBytes .int ≤ 536870912) (hcells : cs + 1 ≤ rm.cells) (hslots : sl + n' ≤ rm.slots) (hdg : decode Y.2.1 pc = .ok (.newarray .int, 2)) {cs' sl' : Nat} (e1 : cs + 1 = cs') (e2 : sl + n' = sl') (kk : ∀ q, an_W Y rm QF Hy (pc + 2) L (.ref q :: st) (ws ++ [(q, .inr (.inl (false, n', fun _ => 0)))]) cs' sl') : an_W Y rm QF Hy pc L (.int n :: st) ws cs sl := by
  intro l D cyI cyZ p e s m args below meth c A H locs ls hX hY hA hl hP hD hS
  obtain ⟨hx, hb, hr, hml, hown, hlk, hK⟩ := id hX
  subst e1 e2
  refine va_newa (atype := .int) (ty := .int) (a0 := (n', .inl (fun _ => 0))) hx hb (word_at (State.WarmedH.refl s) (good_of_word rfl) (hK.2.1 _ harr rfl)) rfl hK.1 hP hD hS hA (fun cA => rfl) hn hN hbytes hcells hslots hdg (fun q cA H1 hK1 hP1 hD1 hS1 => ?_)
  have e9 : cA = cyI := by
    have h1 : s.vm.findClass ("[" ++ (FieldType.int).toString) = some cA := (hK1.2 2 (cA, .int) rfl).2
    have h2 : s.vm.findClass ("[" ++ (FieldType.int).toString) = some cyI := (hK.1.2 0 (cyI, .int) rfl).2
    exact Option.some.inj (h1.symm.trans h2)
  subst e9
  have ew : an_w cA cyZ ws ++ [(q, .inl (cA, n', .inl (fun _ => 0)))] = an_w cA cyZ (ws ++ [(q, .inr (.inl (false, n', fun _ => 0)))]) := by rw [an_app]; rfl
  rw [ew] at hP1 hD1
  exact kk q l D cA cyZ p e s m args below meth c A H1 locs ls hX hY hA hl hP1 hD1 hS1
theorem an_newZ {n : Int32} {n' : Nat} (harr : Cond.arrayClass .boolean ∈ lw_tbl) (hn : ¬ n < 0) (hN : n.toNatClampNeg = n') (hbytes : n' * componentBytes .boolean ≤ 536870912) (hcells : cs + 1 ≤ rm.cells) (hslots : sl + n' ≤ rm.slots) (hdg : decode Y.2.1 pc = .ok (.newarray .boolean, 2)) {cs' sl' : Nat} (e1 : cs + 1 = cs') (e2 : sl + n' = sl') (kk : ∀ q, an_W Y rm QF Hy (pc + 2) L (.ref q :: st) (ws ++ [(q, .inr (.inl (true, n', fun _ => 0)))]) cs' sl') : an_W Y rm QF Hy pc L (.int n :: st) ws cs sl := by
  intro l D cyI cyZ p e s m args below meth c A H locs ls hX hY hA hl hP hD hS
  obtain ⟨hx, hb, hr, hml, hown, hlk, hK⟩ := id hX
  subst e1 e2
  refine va_newa (atype := .boolean) (ty := .boolean) (a0 := (n', .inl (fun _ => 0))) hx hb (word_at (State.WarmedH.refl s) (good_of_word rfl) (hK.2.1 _ harr rfl)) rfl hK.1 hP hD hS hA (fun cA => rfl) hn hN hbytes hcells hslots hdg (fun q cA H1 hK1 hP1 hD1 hS1 => ?_)
  have e9 : cA = cyZ := by
    have h1 : s.vm.findClass ("[" ++ (FieldType.boolean).toString) = some cA := (hK1.2 2 (cA, .boolean) rfl).2
    have h2 : s.vm.findClass ("[" ++ (FieldType.boolean).toString) = some cyZ := (hK.1.2 1 (cyZ, .boolean) rfl).2
    exact Option.some.inj (h1.symm.trans h2)
  subst e9
  have ew : an_w cyI cA ws ++ [(q, .inl (cA, n', .inl (fun _ => 0)))] = an_w cyI cA (ws ++ [(q, .inr (.inl (true, n', fun _ => 0)))]) := by rw [an_app]; rfl
  rw [ew] at hP1 hD1
  exact kk q l D cyI cA p e s m args below meth c A H1 locs ls hX hY hA hl hP1 hD1 hS1
theorem an_vret {mc ms : Nat} {P : List (Nat × an_E) → Prop} (hret : Y.2.2.2.1 = none) (hdg : decode Y.2.1 pc = .ok (.return_, 1)) (hp : P ws) : an_W Y rm (an_E0 mc ms P) Hy pc L [] ws mc ms := by
  intro l D cyI cyZ p e s m args below meth c A H locs ls hX hY hA hl hP hD hS
  obtain ⟨hx, hb, hr, hml, hown, hlk, hK⟩ := id hX
  exact W.vret hx hb (hr.trans hret) (fun t ht hW => ⟨⟨ws, rfl, hp, by rw [ht]; exact hP, hK.moved hW, hD⟩, hS.F ht⟩) hS.2.2 hdg hlk
theorem an_ws {ws' : List (Nat × an_E)} (h : ws = ws') (kk : an_W Y rm QF Hy pc L st ws' cs sl) : an_W Y rm QF Hy pc L st ws cs sl := by
  rw [h]
  exact kk
end ANR

/-! methods: name, bytes, maxLocals, return type, frames and locals of room -/
abbrev am_Y : Type := MethodName × ByteArray × Nat × Option FieldType × Nat × Nat
def am_rm (Y : am_Y) : Jvm.Room := { frames := Y.2.2.2.2.1, cells := 0, slots := 0, locals := Y.2.2.2.2.2 }
def am_CX (Y : am_Y) (D : va_G) (cyI cyZ : ClassId) (p : Program) (s : State) (m : MethodId) (meth : Method) (c : Code) : Prop :=
  p.tables.exec = Jvm.exec ∧ c.code = Y.2.1 ∧ meth.sig.returnType = Y.2.2.2.1 ∧ c.maxLocals = Y.2.2.1 ∧ s.vm.findClass Y.1.cls = some m.cls ∧ meth.locks = false ∧ am_K D cyI cyZ s
def am_L (ls : Array Slot) (n : Nat) (L : List (Option Value)) : Prop := ls.size = n ∧ lv_wf ls ∧ ∀ (i : Nat) (v : Value), L[i]? = some (some v) → ls[i]? = some (.val v) ∧ v.category = 1
def am_Q (D : va_G) (cyI cyZ : ClassId) (ad : Nat → Nat) (I : List Nat) (P : Option Value → am_M → Prop) (A : Nat → Prop) : Array Value → State → Outcome → State → Prop := fun _ st o t =>
  (∃ (r : Option Value) (M : am_M), o = .returned r ∧ P r M ∧ va_P D vwCl (am_w I cyI cyZ ad M) t.heap ∧ am_K D cyI cyZ t ∧ va_D A (am_w I cyI cyZ ad M)) ∧ va_F A st t
/-- at pc, with these locals, this stack, this memory: the method comes to its end with P -/
def am_W (Y : am_Y) (ad : Nat → Nat) (I : List Nat) (P : Option Value → am_M → Prop) (pc : Nat) (L : List (Option Value)) (st : List Value) (M : am_M) : Prop :=
  ∀ (l : Launch) (D : va_G) (cyI cyZ : ClassId) (p : Program) (e : Env) (s : State) (m : MethodId) (args : Array Value) (below : List Frame) (meth : Method) (c : Code) (A : Nat → Prop) (H : Heap) (locs : List Loc) (ls : Array Slot),
    am_CX Y D cyI cyZ p s m meth c → (∀ q : Nat, s.heap.size ≤ q → A q) → am_L ls Y.2.2.1 L → va_P D vwCl (am_w I cyI cyZ ad M) H → va_D A (am_w I cyI cyZ ad M) → va_S A s.heap H locs →
    W p l e (am_rm Y) s m args below meth c H locs 0 0 (MQ below (am_Q D cyI cyZ ad I P A) args s 0 0 A) (F0 m pc ls st)
/-- the contract of a method: from the memory M, with these arguments, it ends with P -/
def am_C (Y : am_Y) (ad : Nat → Nat) (I : List Nat) (As : List Value) (M : am_M) (P : Option Value → am_M → Prop) : Prop :=
  ∀ (l : Launch) (D : va_G) (cyI cyZ : ClassId) (sz : Nat), Met l Y.1 [.code Y.1 Y.2.1 Y.2.2.1 Y.2.2.2.1] (am_rm Y)
    (va_Pc As (fun U => U.heap.size = sz ∧ va_P D vwCl (am_w I cyI cyZ ad M) U.heap ∧ am_K D cyI cyZ U ∧ va_D (fun _ => True) (am_w I cyI cyZ ad M)))
    (am_Q D cyI cyZ ad I P (va_A (am_w I cyI cyZ ad M) sz)) 0 0 (va_A (am_w I cyI cyZ ad M) sz)
theorem am_C.to {Y : am_Y} {ad : Nat → Nat} {I : List Nat} {As : List Value} {M : am_M} {P P' : Option Value → am_M → Prop} (h : am_C Y ad I As M P) (hp : ∀ r N, P r N → P' r N) : am_C Y ad I As M P' := by
  intro l D cyI cyZ sz p e ha hc hk s m args below hf happ hpre hK
  obtain ⟨k, o, h1, h2, h3, hQ, hE⟩ := h l D cyI cyZ sz p e ha hc hk s m args below hf happ hpre hK
  obtain ⟨⟨r, N, e1, e2, e3⟩, e4⟩ := hQ
  exact ⟨k, o, h1, h2, h3, ⟨⟨r, N, e1, hp r N e2, e3⟩, e4⟩, hE⟩
theorem am_args (vs : List Value) (hc : ∀ v ∈ vs, v.category = 1) : (lg_sl vs).length = vs.length ∧ ∀ (j i : Nat) (v : Value), vs[i]? = some v → (j + i, v) ∈ lv_args j vs := by
  induction vs with
  | nil => exact ⟨rfl, fun j i v h => by simp at h⟩
  | cons a l ih =>
    have ha : a.category = 1 := hc a List.mem_cons_self
    obtain ⟨h1, h2⟩ := ih (fun v h => hc v (List.mem_cons_of_mem _ h))
    have hn : ¬ a.category = 2 := by omega
    refine ⟨?_, fun j i v h => ?_⟩
    · have e : lg_sl (a :: l) = .val a :: lg_sl l := by
        simp [lg_sl, hn]
      rw [e, List.length_cons, List.length_cons, h1]
    · cases i with
      | zero =>
        have e : a = v := by simpa using h
        subst e
        simp [lv_args]
      | succ i =>
        have h3 : l[i]? = some v := by simpa using h
        have h4 := h2 (j + 1) i v h3
        have e : j + 1 + i = j + (i + 1) := by omega
        rw [e] at h4
        simp only [lv_args, if_neg hn]
        exact List.mem_cons_of_mem _ h4
theorem am_ofW {Y : am_Y} {ad : Nat → Nat} {I : List Nat} {As : List Value} {M : am_M} {P : Option Value → am_M → Prop} {L : List (Option Value)} (hp : plainName Y.1.cls = true) (hc : ∀ v ∈ As, v.category = 1) (hn : As.length ≤ Y.2.2.1)
    (hL : As.map some ++ List.replicate (Y.2.2.1 - As.length) none = L) (k : am_W Y ad I P 0 L [] M) : am_C Y ad I As M P := by
  intro l D cyI cyZ sz
  refine Met.ofW (cc := Y.2.1) (maxL := Y.2.2.1) (ret := Y.2.2.2.1) hp rfl ?_
  intro p e s m args below meth c s₁ B hml hv
  obtain ⟨rfl, hsz, hP, hK, hD0⟩ := hv
  subst hsz
  have hD := hD0.self (sz := s.heap.size)
  obtain ⟨ha1, ha2⟩ := am_args As hc
  have hl := lv_entry As (n := Y.2.2.1) (by rw [ha1]; exact hn)
  rw [lg_entry_eq]
  refine k l D cyI cyZ p e s m _ below meth c _ s.heap [] _ ⟨B.exec, B.bytes, B.returns, hml, findClass_of_methodNamed B.named, B.notSynchronized, hK⟩ (fun q h => Or.inr h) ⟨hl.1, hl.2.1, ?_⟩ hP hD va_S.rf
  intro i v hi
  rw [← hL] at hi
  have hi2 : As[i]? = some v := by
    by_cases h : i < As.length
    · rw [List.getElem?_append_left (by simpa using h)] at hi
      simpa using hi
    · rw [List.getElem?_append_right (by simpa using Nat.le_of_not_lt h)] at hi
      rw [List.getElem?_replicate] at hi
      split at hi <;> cases hi
  have h0 := ha2 0 i v hi2
  rw [Nat.zero_add] at h0
  exact ⟨hl.2.2 _ h0, hc v (List.mem_of_getElem? hi2)⟩
def am_l (L : List (Option Value)) : List (Nat × Value) := (List.range L.length).filterMap fun j => match L[j]? with
  | some (some v) => some (j, v)
  | _ => none
theorem am_l_mem {L : List (Option Value)} {q : Nat × Value} : q ∈ am_l L ↔ L[q.1]? = some (some q.2) := by
  unfold am_l
  rw [List.mem_filterMap]
  constructor
  · rintro ⟨j, -, h⟩
    split at h
    · rename_i v hv
      cases h
      exact hv
    · cases h
  · intro h
    refine ⟨q.1, List.mem_range.mpr (List.getElem?_eq_some_iff.mp h).1, ?_⟩
    rw [h]
theorem am_L.has {ls : Array Slot} {n : Nat} {L : List (Option Value)} (h : am_L ls n L) : lv_has ls n (am_l L) := ⟨h.1, h.2.1, fun _ hq => (h.2.2 _ _ (am_l_mem.mp hq)).1⟩
theorem am_L.at {ls : Array Slot} {n : Nat} {L : List (Option Value)} (h : am_L ls n L) {i : Nat} {v : Value} (hi : L[i]? = some (some v)) : ls[i]? = some (.val v) := (h.2.2 i v hi).1
theorem am_L.set {ls ls' : Array Slot} {n : Nat} {L : List (Option Value)} (h : am_L ls n L) {i : Nat} {v : Value} (hv : v.category = 1) (h' : lv_has ls' n ((i, v) :: (am_l L).filter (fun q => !(q.1 == i) && !(q.1 + 1 == i && q.2.category == 2)))) : am_L ls' n (L.set i (some v)) := by
  refine ⟨h'.1, h'.2.1, fun j w hj => ?_⟩
  by_cases hji : j = i
  · subst hji
    have hlt : j < L.length := by
      have := (List.getElem?_eq_some_iff.mp hj).1
      simpa using this
    rw [List.getElem?_set_self hlt] at hj
    cases hj
    exact ⟨h'.2.2 (j, v) List.mem_cons_self, hv⟩
  · rw [List.getElem?_set_ne (Ne.symm hji)] at hj
    obtain ⟨-, hw⟩ := h.2.2 j w hj
    refine ⟨h'.2.2 (j, w) (List.mem_cons_of_mem _ (List.mem_filter.mpr ⟨am_l_mem.mpr hj, ?_⟩)), hw⟩
    simp [hji, hw]
theorem am_L.cat {ls : Array Slot} {n : Nat} {L : List (Option Value)} (h : am_L ls n L) {i : Nat} {v : Value} (hi : L[i]? = some (some v)) : v.category = 1 := (h.2.2 i v hi).2
section AMR
variable {Y : am_Y} {ad : Nat → Nat} {I : List Nat} {P : Option Value → am_M → Prop} {pc : Nat} {L : List (Option Value)} {st : List Value} {M : am_M}
theorem am_iconst {n : Int} {v : Int32} (hv : Int32.ofInt n = v) (hdg : decode Y.2.1 pc = .ok (.iconst n, 1)) (k : am_W Y ad I P (pc + 1) L (.int v :: st) M) : am_W Y ad I P pc L (st) M := by
  intro l D cyI cyZ p e s m args below meth c A H locs ls hX hA hl hP hD hS
  obtain ⟨hx, hb, hr, hml, hown, hlk, hK⟩ := id hX
  exact lv_iconst hx hb hdg hv (k l D cyI cyZ p e s m args below meth c A H locs ls hX hA hl hP hD hS)
theorem am_bipush {n : Int} {v : Int32} (hv : (Int8.ofInt n).toInt32 = v) (hdg : decode Y.2.1 pc = .ok (.bipush n, 2)) (k : am_W Y ad I P (pc + 2) L (.int v :: st) M) : am_W Y ad I P pc L (st) M := by
  intro l D cyI cyZ p e s m args below meth c A H locs ls hX hA hl hP hD hS
  obtain ⟨hx, hb, hr, hml, hown, hlk, hK⟩ := id hX
  exact lv_bipush hx hb hdg hv (k l D cyI cyZ p e s m args below meth c A H locs ls hX hA hl hP hD hS)
theorem am_sipush {n : Int} {v : Int32} (hv : (Int16.ofInt n).toInt32 = v) (hdg : decode Y.2.1 pc = .ok (.sipush n, 3)) (k : am_W Y ad I P (pc + 3) L (.int v :: st) M) : am_W Y ad I P pc L (st) M := by
  intro l D cyI cyZ p e s m args below meth c A H locs ls hX hA hl hP hD hS
  obtain ⟨hx, hb, hr, hml, hown, hlk, hK⟩ := id hX
  exact lv_sipush hx hb hdg hv (k l D cyI cyZ p e s m args below meth c A H locs ls hX hA hl hP hD hS)
theorem am_ldc {index : Nat} {v : Int32} (hw : Cond.constant Y.1.cls index v ∈ lw_tbl) (hdg : decode Y.2.1 pc = .ok (.ldc index, 2)) (k : am_W Y ad I P (pc + 2) L (.int v :: st) M) : am_W Y ad I P pc L (st) M := by
  intro l D cyI cyZ p e s m args below meth c A H locs ls hX hA hl hP hD hS
  obtain ⟨hx, hb, hr, hml, hown, hlk, hK⟩ := id hX
  exact lv_ldc hx hb hown (am_word hK hw rfl rfl _) hdg (k l D cyI cyZ p e s m args below meth c A H locs ls hX hA hl hP hD hS)
theorem am_null (hdg : decode Y.2.1 pc = .ok (.aconst_null, 1)) (k : am_W Y ad I P (pc + 1) L (.null :: st) M) : am_W Y ad I P pc L (st) M := by
  intro l D cyI cyZ p e s m args below meth c A H locs ls hX hA hl hP hD hS
  obtain ⟨hx, hb, hr, hml, hown, hlk, hK⟩ := id hX
  exact lv_null hx hb hdg (k l D cyI cyZ p e s m args below meth c A H locs ls hX hA hl hP hD hS)
theorem am_iload_n {i : Fin 4} {v : Int32} (hi : L[(i : Nat)]? = some (some (.int v))) (hdg : decode Y.2.1 pc = .ok (.iload_n i, 1)) (k : am_W Y ad I P (pc + 1) L (.int v :: st) M) : am_W Y ad I P pc L (st) M := by
  intro l D cyI cyZ p e s m args below meth c A H locs ls hX hA hl hP hD hS
  obtain ⟨hx, hb, hr, hml, hown, hlk, hK⟩ := id hX
  exact lv_iload_n hx hb hdg rfl (hl.at hi) (k l D cyI cyZ p e s m args below meth c A H locs ls hX hA hl hP hD hS)
theorem am_iload {i : Nat} {v : Int32} (hi : L[i]? = some (some (.int v))) (hdg : decode Y.2.1 pc = .ok (.iload i, 2)) (k : am_W Y ad I P (pc + 2) L (.int v :: st) M) : am_W Y ad I P pc L (st) M := by
  intro l D cyI cyZ p e s m args below meth c A H locs ls hX hA hl hP hD hS
  obtain ⟨hx, hb, hr, hml, hown, hlk, hK⟩ := id hX
  exact lv_iload hx hb hdg (hl.at hi) (k l D cyI cyZ p e s m args below meth c A H locs ls hX hA hl hP hD hS)
theorem am_aload_n {i : Fin 4} {v : Nat} (hi : L[(i : Nat)]? = some (some (.ref v))) (hdg : decode Y.2.1 pc = .ok (.aload_n i, 1)) (k : am_W Y ad I P (pc + 1) L (.ref v :: st) M) : am_W Y ad I P pc L (st) M := by
  intro l D cyI cyZ p e s m args below meth c A H locs ls hX hA hl hP hD hS
  obtain ⟨hx, hb, hr, hml, hown, hlk, hK⟩ := id hX
  exact lv_aload_n hx hb hdg rfl (hl.at hi) (k l D cyI cyZ p e s m args below meth c A H locs ls hX hA hl hP hD hS)
theorem am_aload {i : Nat} {v : Nat} (hi : L[i]? = some (some (.ref v))) (hdg : decode Y.2.1 pc = .ok (.aload i, 2)) (k : am_W Y ad I P (pc + 2) L (.ref v :: st) M) : am_W Y ad I P pc L (st) M := by
  intro l D cyI cyZ p e s m args below meth c A H locs ls hX hA hl hP hD hS
  obtain ⟨hx, hb, hr, hml, hown, hlk, hK⟩ := id hX
  exact lv_aload hx hb hdg (hl.at hi) (k l D cyI cyZ p e s m args below meth c A H locs ls hX hA hl hP hD hS)
theorem am_aload_nN {i : Fin 4} (hi : L[(i : Nat)]? = some (some .null)) (hdg : decode Y.2.1 pc = .ok (.aload_n i, 1)) (k : am_W Y ad I P (pc + 1) L (.null :: st) M) : am_W Y ad I P pc L (st) M := by
  intro l D cyI cyZ p e s m args below meth c A H locs ls hX hA hl hP hD hS
  obtain ⟨hx, hb, hr, hml, hown, hlk, hK⟩ := id hX
  exact lv_aload_nN hx hb hdg rfl (hl.at hi) (k l D cyI cyZ p e s m args below meth c A H locs ls hX hA hl hP hD hS)
theorem am_iadd {x y : Int32} (hdg : decode Y.2.1 pc = .ok (.iadd, 1)) (k : am_W Y ad I P (pc + 1) L (.int (x + y) :: st) M) : am_W Y ad I P pc L (.int y :: .int x :: st) M := by
  intro l D cyI cyZ p e s m args below meth c A H locs ls hX hA hl hP hD hS
  obtain ⟨hx, hb, hr, hml, hown, hlk, hK⟩ := id hX
  exact lv_iadd hx hb hdg (k l D cyI cyZ p e s m args below meth c A H locs ls hX hA hl hP hD hS)
theorem am_isub {x y : Int32} (hdg : decode Y.2.1 pc = .ok (.isub, 1)) (k : am_W Y ad I P (pc + 1) L (.int (x - y) :: st) M) : am_W Y ad I P pc L (.int y :: .int x :: st) M := by
  intro l D cyI cyZ p e s m args below meth c A H locs ls hX hA hl hP hD hS
  obtain ⟨hx, hb, hr, hml, hown, hlk, hK⟩ := id hX
  exact lv_isub hx hb hdg (k l D cyI cyZ p e s m args below meth c A H locs ls hX hA hl hP hD hS)
theorem am_imul {x y : Int32} (hdg : decode Y.2.1 pc = .ok (.imul, 1)) (k : am_W Y ad I P (pc + 1) L (.int (x * y) :: st) M) : am_W Y ad I P pc L (.int y :: .int x :: st) M := by
  intro l D cyI cyZ p e s m args below meth c A H locs ls hX hA hl hP hD hS
  obtain ⟨hx, hb, hr, hml, hown, hlk, hK⟩ := id hX
  exact lv_imul hx hb hdg (k l D cyI cyZ p e s m args below meth c A H locs ls hX hA hl hP hD hS)
theorem am_iand {x y : Int32} (hdg : decode Y.2.1 pc = .ok (.iand, 1)) (k : am_W Y ad I P (pc + 1) L (.int (x &&& y) :: st) M) : am_W Y ad I P pc L (.int y :: .int x :: st) M := by
  intro l D cyI cyZ p e s m args below meth c A H locs ls hX hA hl hP hD hS
  obtain ⟨hx, hb, hr, hml, hown, hlk, hK⟩ := id hX
  exact lv_iand hx hb hdg (k l D cyI cyZ p e s m args below meth c A H locs ls hX hA hl hP hD hS)
theorem am_ineg {x : Int32} (hdg : decode Y.2.1 pc = .ok (.ineg, 1)) (k : am_W Y ad I P (pc + 1) L (.int (-x) :: st) M) : am_W Y ad I P pc L (.int x :: st) M := by
  intro l D cyI cyZ p e s m args below meth c A H locs ls hX hA hl hP hD hS
  obtain ⟨hx, hb, hr, hml, hown, hlk, hK⟩ := id hX
  exact lv_ineg hx hb hdg (k l D cyI cyZ p e s m args below meth c A H locs ls hX hA hl hP hD hS)
theorem am_idiv {x y : Int32} (hy : ¬ y = 0) (hdg : decode Y.2.1 pc = .ok (.idiv, 1)) (k : am_W Y ad I P (pc + 1) L (.int (x / y) :: st) M) : am_W Y ad I P pc L (.int y :: .int x :: st) M := by
  intro l D cyI cyZ p e s m args below meth c A H locs ls hX hA hl hP hD hS
  obtain ⟨hx, hb, hr, hml, hown, hlk, hK⟩ := id hX
  exact lv_idiv hx hb hdg hy (k l D cyI cyZ p e s m args below meth c A H locs ls hX hA hl hP hD hS)
theorem am_irem {x y : Int32} (hy : ¬ y = 0) (hdg : decode Y.2.1 pc = .ok (.irem, 1)) (k : am_W Y ad I P (pc + 1) L (.int (x - x / y * y) :: st) M) : am_W Y ad I P pc L (.int y :: .int x :: st) M := by
  intro l D cyI cyZ p e s m args below meth c A H locs ls hX hA hl hP hD hS
  obtain ⟨hx, hb, hr, hml, hown, hlk, hK⟩ := id hX
  exact lv_irem hx hb hdg hy (k l D cyI cyZ p e s m args below meth c A H locs ls hX hA hl hP hD hS)
theorem am_dup {v : Value} (hv : v.category = 1) (hdg : decode Y.2.1 pc = .ok (.dup, 1)) (k : am_W Y ad I P (pc + 1) L (v :: v :: st) M) : am_W Y ad I P pc L (v :: st) M := by
  intro l D cyI cyZ p e s m args below meth c A H locs ls hX hA hl hP hD hS
  obtain ⟨hx, hb, hr, hml, hown, hlk, hK⟩ := id hX
  exact lv_dup hx hb hdg hv (k l D cyI cyZ p e s m args below meth c A H locs ls hX hA hl hP hD hS)
theorem am_dup2 {v w : Value} (hv : v.category = 1) (hw : w.category = 1) (hdg : decode Y.2.1 pc = .ok (.dup2, 1)) (k : am_W Y ad I P (pc + 1) L (v :: w :: v :: w :: st) M) : am_W Y ad I P pc L (v :: w :: st) M := by
  intro l D cyI cyZ p e s m args below meth c A H locs ls hX hA hl hP hD hS
  obtain ⟨hx, hb, hr, hml, hown, hlk, hK⟩ := id hX
  exact lv_dup2_11 hx hb hdg hv hw (k l D cyI cyZ p e s m args below meth c A H locs ls hX hA hl hP hD hS)
theorem am_istore_n {i : Fin 4} {v : Int32} (hn : (i : Nat) < Y.2.2.1) (hdg : decode Y.2.1 pc = .ok (.istore_n i, 1)) (k : am_W Y ad I P (pc + 1) (L.set i (some (.int v))) st M) : am_W Y ad I P pc L (.int v :: st) M := by
  intro l D cyI cyZ p e s m args below meth c A H locs ls hX hA hl hP hD hS
  obtain ⟨hx, hb, hr, hml, hown, hlk, hK⟩ := id hX
  exact lv_istore_n hx hb hdg rfl hl.has hn rfl (fun ls' h' => k l D cyI cyZ p e s m args below meth c A H locs ls' hX hA (hl.set rfl h') hP hD hS)
theorem am_istore {i : Nat} {v : Int32} (hn : i < Y.2.2.1) (hdg : decode Y.2.1 pc = .ok (.istore i, 2)) (k : am_W Y ad I P (pc + 2) (L.set i (some (.int v))) st M) : am_W Y ad I P pc L (.int v :: st) M := by
  intro l D cyI cyZ p e s m args below meth c A H locs ls hX hA hl hP hD hS
  obtain ⟨hx, hb, hr, hml, hown, hlk, hK⟩ := id hX
  exact lv_istore hx hb hdg hl.has hn rfl (fun ls' h' => k l D cyI cyZ p e s m args below meth c A H locs ls' hX hA (hl.set rfl h') hP hD hS)
theorem am_astore_n {i : Fin 4} {v : Nat} (hn : (i : Nat) < Y.2.2.1) (hdg : decode Y.2.1 pc = .ok (.astore_n i, 1)) (k : am_W Y ad I P (pc + 1) (L.set i (some (.ref v))) st M) : am_W Y ad I P pc L (.ref v :: st) M := by
  intro l D cyI cyZ p e s m args below meth c A H locs ls hX hA hl hP hD hS
  obtain ⟨hx, hb, hr, hml, hown, hlk, hK⟩ := id hX
  exact lv_astore_n hx hb hdg rfl hl.has hn rfl (fun ls' h' => k l D cyI cyZ p e s m args below meth c A H locs ls' hX hA (hl.set rfl h') hP hD hS)
theorem am_astore {i : Nat} {v : Nat} (hn : i < Y.2.2.1) (hdg : decode Y.2.1 pc = .ok (.astore i, 2)) (k : am_W Y ad I P (pc + 2) (L.set i (some (.ref v))) st M) : am_W Y ad I P pc L (.ref v :: st) M := by
  intro l D cyI cyZ p e s m args below meth c A H locs ls hX hA hl hP hD hS
  obtain ⟨hx, hb, hr, hml, hown, hlk, hK⟩ := id hX
  exact lv_astore hx hb hdg hl.has hn rfl (fun ls' h' => k l D cyI cyZ p e s m args below meth c A H locs ls' hX hA (hl.set rfl h') hP hD hS)
theorem am_astore_nN {i : Fin 4} (hn : (i : Nat) < Y.2.2.1) (hdg : decode Y.2.1 pc = .ok (.astore_n i, 1)) (k : am_W Y ad I P (pc + 1) (L.set i (some (.null))) st M) : am_W Y ad I P pc L (.null :: st) M := by
  intro l D cyI cyZ p e s m args below meth c A H locs ls hX hA hl hP hD hS
  obtain ⟨hx, hb, hr, hml, hown, hlk, hK⟩ := id hX
  exact lv_astore_nN hx hb hdg rfl hl.has hn rfl (fun ls' h' => k l D cyI cyZ p e s m args below meth c A H locs ls' hX hA (hl.set rfl h') hP hD hS)
theorem am_iinc {i : Nat} {n : Int} {x v : Int32} (hi : L[i]? = some (some (.int x))) (hv : x + Int32.ofInt n = v) (hn : i < Y.2.2.1) (hdg : decode Y.2.1 pc = .ok (.iinc i n, 3)) (k : am_W Y ad I P (pc + 3) (L.set i (some (.int v))) st M) : am_W Y ad I P pc L st M := by
  intro l D cyI cyZ p e s m args below meth c A H locs ls hX hA hl hP hD hS
  obtain ⟨hx, hb, hr, hml, hown, hlk, hK⟩ := id hX
  obtain ⟨q, hq⟩ := List.getElem?_of_mem (am_l_mem (q := (i, .int x)).mpr hi)
  exact lv_iinc hx hb hdg hl.has hq hv hn rfl (fun ls' h' => k l D cyI cyZ p e s m args below meth c A H locs ls' hX hA (hl.set rfl h') hP hD hS)
theorem am_goto {off : Int} {tgt : Nat} (ht : (pc : Int) + off = (tgt : Int)) (hdg : decode Y.2.1 pc = .ok (.goto off, 3)) (k : am_W Y ad I P tgt L st M) : am_W Y ad I P pc L st M := by
  intro l D cyI cyZ p e s m args below meth c A H locs ls hX hA hl hP hD hS
  obtain ⟨hx, hb, hr, hml, hown, hlk, hK⟩ := id hX
  exact lv_goto hx hb hdg ht (k l D cyI cyZ p e s m args below meth c A H locs ls hX hA hl hP hD hS)
theorem am_if_eq {x : Int32} {off : Int} {tgt : Nat} (ht : (pc : Int) + off = (tgt : Int)) (hdg : decode Y.2.1 pc = .ok (.ifCond .eq off, 3)) (kt : x = 0 → am_W Y ad I P tgt L st M) (kf : ¬ x = 0 → am_W Y ad I P (pc + 3) L st M) : am_W Y ad I P pc L (.int x :: st) M := by
  intro l D cyI cyZ p e s m args below meth c A H locs ls hX hA hl hP hD hS
  obtain ⟨hx, hb, hr, hml, hown, hlk, hK⟩ := id hX
  exact lv_if_eq hx hb hdg ht (fun h => kt h l D cyI cyZ p e s m args below meth c A H locs ls hX hA hl hP hD hS) (fun h => kf h l D cyI cyZ p e s m args below meth c A H locs ls hX hA hl hP hD hS)
theorem am_if_ne {x : Int32} {off : Int} {tgt : Nat} (ht : (pc : Int) + off = (tgt : Int)) (hdg : decode Y.2.1 pc = .ok (.ifCond .ne off, 3)) (kt : ¬ x = 0 → am_W Y ad I P tgt L st M) (kf : x = 0 → am_W Y ad I P (pc + 3) L st M) : am_W Y ad I P pc L (.int x :: st) M := by
  intro l D cyI cyZ p e s m args below meth c A H locs ls hX hA hl hP hD hS
  obtain ⟨hx, hb, hr, hml, hown, hlk, hK⟩ := id hX
  exact lv_if_ne hx hb hdg ht (fun h => kt h l D cyI cyZ p e s m args below meth c A H locs ls hX hA hl hP hD hS) (fun h => kf h l D cyI cyZ p e s m args below meth c A H locs ls hX hA hl hP hD hS)
theorem am_if_lt {x : Int32} {off : Int} {tgt : Nat} (ht : (pc : Int) + off = (tgt : Int)) (hdg : decode Y.2.1 pc = .ok (.ifCond .lt off, 3)) (kt : x < 0 → am_W Y ad I P tgt L st M) (kf : ¬ x < 0 → am_W Y ad I P (pc + 3) L st M) : am_W Y ad I P pc L (.int x :: st) M := by
  intro l D cyI cyZ p e s m args below meth c A H locs ls hX hA hl hP hD hS
  obtain ⟨hx, hb, hr, hml, hown, hlk, hK⟩ := id hX
  exact lv_if_lt hx hb hdg ht (fun h => kt h l D cyI cyZ p e s m args below meth c A H locs ls hX hA hl hP hD hS) (fun h => kf h l D cyI cyZ p e s m args below meth c A H locs ls hX hA hl hP hD hS)
theorem am_if_ge {x : Int32} {off : Int} {tgt : Nat} (ht : (pc : Int) + off = (tgt : Int)) (hdg : decode Y.2.1 pc = .ok (.ifCond .ge off, 3)) (kt : 0 ≤ x → am_W Y ad I P tgt L st M) (kf : ¬ 0 ≤ x → am_W Y ad I P (pc + 3) L st M) : am_W Y ad I P pc L (.int x :: st) M := by
  intro l D cyI cyZ p e s m args below meth c A H locs ls hX hA hl hP hD hS
  obtain ⟨hx, hb, hr, hml, hown, hlk, hK⟩ := id hX
  exact lv_if_ge hx hb hdg ht (fun h => kt h l D cyI cyZ p e s m args below meth c A H locs ls hX hA hl hP hD hS) (fun h => kf h l D cyI cyZ p e s m args below meth c A H locs ls hX hA hl hP hD hS)
theorem am_if_gt {x : Int32} {off : Int} {tgt : Nat} (ht : (pc : Int) + off = (tgt : Int)) (hdg : decode Y.2.1 pc = .ok (.ifCond .gt off, 3)) (kt : 0 < x → am_W Y ad I P tgt L st M) (kf : ¬ 0 < x → am_W Y ad I P (pc + 3) L st M) : am_W Y ad I P pc L (.int x :: st) M := by
  intro l D cyI cyZ p e s m args below meth c A H locs ls hX hA hl hP hD hS
  obtain ⟨hx, hb, hr, hml, hown, hlk, hK⟩ := id hX
  exact lv_if_gt hx hb hdg ht (fun h => kt h l D cyI cyZ p e s m args below meth c A H locs ls hX hA hl hP hD hS) (fun h => kf h l D cyI cyZ p e s m args below meth c A H locs ls hX hA hl hP hD hS)
theorem am_if_le {x : Int32} {off : Int} {tgt : Nat} (ht : (pc : Int) + off = (tgt : Int)) (hdg : decode Y.2.1 pc = .ok (.ifCond .le off, 3)) (kt : x ≤ 0 → am_W Y ad I P tgt L st M) (kf : ¬ x ≤ 0 → am_W Y ad I P (pc + 3) L st M) : am_W Y ad I P pc L (.int x :: st) M := by
  intro l D cyI cyZ p e s m args below meth c A H locs ls hX hA hl hP hD hS
  obtain ⟨hx, hb, hr, hml, hown, hlk, hK⟩ := id hX
  exact lv_if_le hx hb hdg ht (fun h => kt h l D cyI cyZ p e s m args below meth c A H locs ls hX hA hl hP hD hS) (fun h => kf h l D cyI cyZ p e s m args below meth c A H locs ls hX hA hl hP hD hS)
theorem am_icmp_eq {x y : Int32} {off : Int} {tgt : Nat} (ht : (pc : Int) + off = (tgt : Int)) (hdg : decode Y.2.1 pc = .ok (.if_icmp .eq off, 3)) (kt : x = y → am_W Y ad I P tgt L st M) (kf : ¬ x = y → am_W Y ad I P (pc + 3) L st M) : am_W Y ad I P pc L (.int y :: .int x :: st) M := by
  intro l D cyI cyZ p e s m args below meth c A H locs ls hX hA hl hP hD hS
  obtain ⟨hx, hb, hr, hml, hown, hlk, hK⟩ := id hX
  exact lv_icmp_eq hx hb hdg ht (fun h => kt h l D cyI cyZ p e s m args below meth c A H locs ls hX hA hl hP hD hS) (fun h => kf h l D cyI cyZ p e s m args below meth c A H locs ls hX hA hl hP hD hS)
theorem am_icmp_ne {x y : Int32} {off : Int} {tgt : Nat} (ht : (pc : Int) + off = (tgt : Int)) (hdg : decode Y.2.1 pc = .ok (.if_icmp .ne off, 3)) (kt : ¬ x = y → am_W Y ad I P tgt L st M) (kf : x = y → am_W Y ad I P (pc + 3) L st M) : am_W Y ad I P pc L (.int y :: .int x :: st) M := by
  intro l D cyI cyZ p e s m args below meth c A H locs ls hX hA hl hP hD hS
  obtain ⟨hx, hb, hr, hml, hown, hlk, hK⟩ := id hX
  exact lv_icmp_ne hx hb hdg ht (fun h => kt h l D cyI cyZ p e s m args below meth c A H locs ls hX hA hl hP hD hS) (fun h => kf h l D cyI cyZ p e s m args below meth c A H locs ls hX hA hl hP hD hS)
theorem am_icmp_lt {x y : Int32} {off : Int} {tgt : Nat} (ht : (pc : Int) + off = (tgt : Int)) (hdg : decode Y.2.1 pc = .ok (.if_icmp .lt off, 3)) (kt : x < y → am_W Y ad I P tgt L st M) (kf : ¬ x < y → am_W Y ad I P (pc + 3) L st M) : am_W Y ad I P pc L (.int y :: .int x :: st) M := by
  intro l D cyI cyZ p e s m args below meth c A H locs ls hX hA hl hP hD hS
  obtain ⟨hx, hb, hr, hml, hown, hlk, hK⟩ := id hX
  exact lv_icmp_lt hx hb hdg ht (fun h => kt h l D cyI cyZ p e s m args below meth c A H locs ls hX hA hl hP hD hS) (fun h => kf h l D cyI cyZ p e s m args below meth c A H locs ls hX hA hl hP hD hS)
theorem am_icmp_ge {x y : Int32} {off : Int} {tgt : Nat} (ht : (pc : Int) + off = (tgt : Int)) (hdg : decode Y.2.1 pc = .ok (.if_icmp .ge off, 3)) (kt : y ≤ x → am_W Y ad I P tgt L st M) (kf : ¬ y ≤ x → am_W Y ad I P (pc + 3) L st M) : am_W Y ad I P pc L (.int y :: .int x :: st) M := by
  intro l D cyI cyZ p e s m args below meth c A H locs ls hX hA hl hP hD hS
  obtain ⟨hx, hb, hr, hml, hown, hlk, hK⟩ := id hX
  exact lv_icmp_ge hx hb hdg ht (fun h => kt h l D cyI cyZ p e s m args below meth c A H locs ls hX hA hl hP hD hS) (fun h => kf h l D cyI cyZ p e s m args below meth c A H locs ls hX hA hl hP hD hS)
theorem am_icmp_gt {x y : Int32} {off : Int} {tgt : Nat} (ht : (pc : Int) + off = (tgt : Int)) (hdg : decode Y.2.1 pc = .ok (.if_icmp .gt off, 3)) (kt : y < x → am_W Y ad I P tgt L st M) (kf : ¬ y < x → am_W Y ad I P (pc + 3) L st M) : am_W Y ad I P pc L (.int y :: .int x :: st) M := by
  intro l D cyI cyZ p e s m args below meth c A H locs ls hX hA hl hP hD hS
  obtain ⟨hx, hb, hr, hml, hown, hlk, hK⟩ := id hX
  exact lv_icmp_gt hx hb hdg ht (fun h => kt h l D cyI cyZ p e s m args below meth c A H locs ls hX hA hl hP hD hS) (fun h => kf h l D cyI cyZ p e s m args below meth c A H locs ls hX hA hl hP hD hS)
theorem am_icmp_le {x y : Int32} {off : Int} {tgt : Nat} (ht : (pc : Int) + off = (tgt : Int)) (hdg : decode Y.2.1 pc = .ok (.if_icmp .le off, 3)) (kt : x ≤ y → am_W Y ad I P tgt L st M) (kf : ¬ x ≤ y → am_W Y ad I P (pc + 3) L st M) : am_W Y ad I P pc L (.int y :: .int x :: st) M := by
  intro l D cyI cyZ p e s m args below meth c A H locs ls hX hA hl hP hD hS
  obtain ⟨hx, hb, hr, hml, hown, hlk, hK⟩ := id hX
  exact lv_icmp_le hx hb hdg ht (fun h => kt h l D cyI cyZ p e s m args below meth c A H locs ls hX hA hl hP hD hS) (fun h => kf h l D cyI cyZ p e s m args below meth c A H locs ls hX hA hl hP hD hS)
theorem am_ifnull {v : Nat} {off : Int} (hdg : decode Y.2.1 pc = .ok (.ifnull off, 3)) (k : am_W Y ad I P (pc + 3) L st M) : am_W Y ad I P pc L (.ref v :: st) M := by
  intro l D cyI cyZ p e s m args below meth c A H locs ls hX hA hl hP hD hS
  obtain ⟨hx, hb, hr, hml, hown, hlk, hK⟩ := id hX
  exact lv_ifnull hx hb hdg (k l D cyI cyZ p e s m args below meth c A H locs ls hX hA hl hP hD hS)
theorem am_ifnullN {off : Int} {tgt : Nat} (ht : (pc : Int) + off = (tgt : Int)) (hdg : decode Y.2.1 pc = .ok (.ifnull off, 3)) (k : am_W Y ad I P tgt L st M) : am_W Y ad I P pc L (.null :: st) M := by
  intro l D cyI cyZ p e s m args below meth c A H locs ls hX hA hl hP hD hS
  obtain ⟨hx, hb, hr, hml, hown, hlk, hK⟩ := id hX
  exact lv_ifnullN hx hb hdg ht (k l D cyI cyZ p e s m args below meth c A H locs ls hX hA hl hP hD hS)
theorem am_ifnonnull {v : Nat} {off : Int} {tgt : Nat} (ht : (pc : Int) + off = (tgt : Int)) (hdg : decode Y.2.1 pc = .ok (.ifnonnull off, 3)) (k : am_W Y ad I P tgt L st M) : am_W Y ad I P pc L (.ref v :: st) M := by
  intro l D cyI cyZ p e s m args below meth c A H locs ls hX hA hl hP hD hS
  obtain ⟨hx, hb, hr, hml, hown, hlk, hK⟩ := id hX
  exact lv_ifnonnull hx hb hdg ht (k l D cyI cyZ p e s m args below meth c A H locs ls hX hA hl hP hD hS)
theorem am_acmp_ne {v w : Nat} {off : Int} {tgt : Nat} (ht : (pc : Int) + off = (tgt : Int)) (hdg : decode Y.2.1 pc = .ok (.if_acmp .ne off, 3)) (kt : v ≠ w → am_W Y ad I P tgt L st M) (kf : v = w → am_W Y ad I P (pc + 3) L st M) : am_W Y ad I P pc L (.ref w :: .ref v :: st) M := by
  intro l D cyI cyZ p e s m args below meth c A H locs ls hX hA hl hP hD hS
  obtain ⟨hx, hb, hr, hml, hown, hlk, hK⟩ := id hX
  exact lv_acmp_ne (rx := some v) (ry := some w) hx hb hdg ht (fun h => kt (fun e => h (by rw [e])) l D cyI cyZ p e s m args below meth c A H locs ls hX hA hl hP hD hS) (fun h => kf (Option.some.inj h) l D cyI cyZ p e s m args below meth c A H locs ls hX hA hl hP hD hS)
theorem am_tabIn {dflt lo hi : Int} {offs : Array Int} {len : Nat} {x : Int32} {off : Int} {tgt : Nat} (h1 : ¬ x.toInt < lo) (h2 : ¬ hi < x.toInt) (ho : offs[(x.toInt - lo).toNat]? = some off) (ht : (pc : Int) + off = (tgt : Int)) (hdg : decode Y.2.1 pc = .ok (.tableswitch dflt lo hi offs, len)) (k : am_W Y ad I P tgt L st M) : am_W Y ad I P pc L (.int x :: st) M := by
  intro l D cyI cyZ p e s m args below meth c A H locs ls hX hA hl hP hD hS
  obtain ⟨hx, hb, hr, hml, hown, hlk, hK⟩ := id hX
  exact lv_tableIn hx hb hdg h1 h2 ho ht (k l D cyI cyZ p e s m args below meth c A H locs ls hX hA hl hP hD hS)
theorem am_tabOut {dflt lo hi : Int} {offs : Array Int} {len : Nat} {x : Int32} {tgt : Nat} (h : x.toInt < lo ∨ hi < x.toInt) (ht : (pc : Int) + dflt = (tgt : Int)) (hdg : decode Y.2.1 pc = .ok (.tableswitch dflt lo hi offs, len)) (k : am_W Y ad I P tgt L st M) : am_W Y ad I P pc L (.int x :: st) M := by
  intro l D cyI cyZ p e s m args below meth c A H locs ls hX hA hl hP hD hS
  obtain ⟨hx, hb, hr, hml, hown, hlk, hK⟩ := id hX
  exact lv_tableOut hx hb hdg h ht (k l D cyI cyZ p e s m args below meth c A H locs ls hX hA hl hP hD hS)
theorem am_K.cls {D : va_G} {cyI cyZ : ClassId} {s : State} (h : am_K D cyI cyZ s) {C : String} {T : u_T} {N : Nat} (hT : ∀ w ∈ u_ws C T N, w ∈ lw_tbl ∧ goodWord w = true) (args : Array Value) : ∀ w ∈ u_ws C T N, w.before args s = true := by
  intro w hw
  obtain ⟨h1, h2⟩ := hT w hw
  have h3 := h.2.1 w h1 h2
  refine va_tabs ?_ rfl h3
  obtain ⟨k, -, rfl⟩ := List.mem_map.mp hw
  unfold u_lay
  split <;> rfl
theorem am_geti {k j ci index N : Nat} {C : String} {T : u_T} {fl : List (Option Nat)} (hk : k ∈ I) (hs : am_shp k = .inl (ci, fl)) (hj : fl[j]? = some none) (hc : vwCl[ci]? = some (C, T, N)) (hT : ∀ w ∈ u_ws C T N, w ∈ lw_tbl ∧ goodWord w = true) (hN : j < N) (hw : Cond.fieldLink Y.1.cls index (T j).1 (T j).2.1 (T j).2.2.1 ∈ lw_tbl) (hdg : decode Y.2.1 pc = .ok (.getfield index, 3)) (kk : am_W Y ad I P (pc + 3) L (.int (M k j) :: st) M) : am_W Y ad I P pc L (.ref (ad k) :: st) M := by
  intro l D cyI cyZ p e s m args below meth c A H locs ls hX hA hl hP hD hS
  obtain ⟨hx, hb, hr, hml, hown, hlk, hK⟩ := id hX
  obtain ⟨q, hq⟩ := List.getElem?_of_mem hk
  have he : (am_w I cyI cyZ ad M)[q]? = some (ad k, .inr (ci, am_fs ad (M k) 0 fl)) := by rw [am_w_get hq, am_cell, hs]
  refine va_get (v := .int (M k j)) hx hb (hK.cls hT args) (fun _ h => h) hown hK.1 hP q he hc j hN (am_word hK hw rfl rfl args) (fun _ h => h) ?_ hdg (kk l D cyI cyZ p e s m args below meth c A H locs ls hX hA hl hP hD hS)
  have h0 := am_fs_i ad (M k) fl 0 j hj
  rwa [Nat.zero_add] at h0
theorem am_getr {z : Nat} {k j ci index N : Nat} {C : String} {T : u_T} {fl : List (Option Nat)} (hk : k ∈ I) (hs : am_shp k = .inl (ci, fl)) (hj : fl[j]? = some (some z)) (hc : vwCl[ci]? = some (C, T, N)) (hT : ∀ w ∈ u_ws C T N, w ∈ lw_tbl ∧ goodWord w = true) (hN : j < N) (hw : Cond.fieldLink Y.1.cls index (T j).1 (T j).2.1 (T j).2.2.1 ∈ lw_tbl) (hdg : decode Y.2.1 pc = .ok (.getfield index, 3)) (kk : am_W Y ad I P (pc + 3) L (.ref (ad z) :: st) M) : am_W Y ad I P pc L (.ref (ad k) :: st) M := by
  intro l D cyI cyZ p e s m args below meth c A H locs ls hX hA hl hP hD hS
  obtain ⟨hx, hb, hr, hml, hown, hlk, hK⟩ := id hX
  obtain ⟨q, hq⟩ := List.getElem?_of_mem hk
  have he : (am_w I cyI cyZ ad M)[q]? = some (ad k, .inr (ci, am_fs ad (M k) 0 fl)) := by rw [am_w_get hq, am_cell, hs]
  exact va_get (v := .ref (ad z)) hx hb (hK.cls hT args) (fun _ h => h) hown hK.1 hP q he hc j hN (am_word hK hw rfl rfl args) (fun _ h => h) (am_fs_r ad (M k) fl 0 j z hj) hdg (kk l D cyI cyZ p e s m args below meth c A H locs ls hX hA hl hP hD hS)
theorem am_put_ok {cyI cyZ : ClassId} {A : Nat → Prop} {q k j ci : Nat} {v : Int32} {fl : List (Option Nat)} (hq : I[q]? = some k) (hs : am_shp k = .inl (ci, fl)) (hj : fl[j]? = some none) (hD0 : va_D A (am_w I cyI cyZ ad M)) : (am_w I cyI cyZ ad M).set q (ad k, .inr (ci, (am_fs ad (M k) 0 fl).set j (.int v))) = am_w I cyI cyZ ad (am_put M k j v) := by
  rw [← am_w_set (M' := am_put M k j v) hD0 hq (fun a ha => by simp [am_put, ha])]
  have e : am_cell cyI cyZ ad (am_put M k j v) k = .inr (ci, am_fs ad (upd (M k) j v) 0 fl) := by simp [am_cell, hs, am_put]
  rw [e, am_fs_set ad (M k) v fl 0 j hj, Nat.zero_add]
theorem am_puti {v : Int32} {ty : FieldType} {tyf : Nat → FieldType} {k j ci index N : Nat} {C : String} {T : u_T} {fl : List (Option Nat)} (hk : k ∈ I) (hs : am_shp k = .inl (ci, fl)) (hj : fl[j]? = some none) (hc : vwCl[ci]? = some (C, T, N)) (hT : ∀ w ∈ u_ws C T N, w ∈ lw_tbl ∧ goodWord w = true) (hty : ∀ k, k < N → parseFieldDescriptor (T k).2.2.1 = some (tyf k)) (hnm : ∀ a, a < N → ∀ b, b < N → a ≠ b → (T a).2.1 ≠ (T b).2.1) (hN : j < N) (hw : Cond.fieldLink Y.1.cls index (T j).1 (T j).2.1 (T j).2.2.1 ∈ lw_tbl) (hfin : (T j).2.2.2 = false) (htyj : tyf j = ty) (hn : narrow ty (.int v) = .int v) (hfit : fits ty (.int v) = true) (hdg : decode Y.2.1 pc = .ok (.putfield index, 3)) (kk : am_W Y ad I P (pc + 3) L st (am_put M k j v)) : am_W Y ad I P pc L (.int v :: .ref (ad k) :: st) M := by
  intro l D cyI cyZ p e s m args below meth c A H locs ls hX hA hl hP hD hS
  obtain ⟨hx, hb, hr, hml, hown, hlk, hK⟩ := id hX
  obtain ⟨q, hq⟩ := List.getElem?_of_mem hk
  have he : (am_w I cyI cyZ ad M)[q]? = some (ad k, .inr (ci, am_fs ad (M k) 0 fl)) := by rw [am_w_get hq, am_cell, hs]
  refine va_put hx hb (hK.cls hT args) (fun _ h => h) tyf hty hnm hown hK.1 hP hD hS q he hc j hN (am_word hK hw rfl rfl args) (fun _ h => h) hfin (ty := ty) (by rw [hty j hN, htyj]) hn hfit ?_ hdg (fun H1 locs1 hP1 hD1 hS1 => ?_)
  · rw [am_fs_len]
    exact (List.getElem?_eq_some_iff.mp hj).1
  · have e9 := am_put_ok (v := v) hq hs hj hD
    rw [e9] at hP1 hD1
    exact kk l D cyI cyZ p e s m args below meth c A H1 locs1 ls hX hA hl hP1 hD1 hS1
theorem am_arr {cyI cyZ : ClassId} {q k n : Nat} {z : Bool} (hq : I[q]? = some k) (hs : am_shp k = .inr (z, n)) : (am_w I cyI cyZ ad M)[q]? = some (ad k, .inl (if z = true then cyZ else cyI, n, .inl (M k))) := by rw [am_w_get hq, am_cell, hs]
theorem am_iald {k n : Nat} {i : Int32} (hk : k ∈ I) (hs : am_shp k = .inr (false, n)) (hin : vp_in i n) (hdg : decode Y.2.1 pc = .ok (.iaload, 1)) (kk : am_W Y ad I P (pc + 1) L (.int (M k i.toNatClampNeg) :: st) M) : am_W Y ad I P pc L (.int i :: .ref (ad k) :: st) M := by
  intro l D cyI cyZ p e s m args below meth c A H locs ls hX hA hl hP hD hS
  obtain ⟨hx, hb, hr, hml, hown, hlk, hK⟩ := id hX
  obtain ⟨q, hq⟩ := List.getElem?_of_mem hk
  exact va_iald hx hb hK.1 hP q 0 (am_arr hq hs) rfl hin hdg (kk l D cyI cyZ p e s m args below meth c A H locs ls hX hA hl hP hD hS)
theorem am_zald {k n : Nat} {i : Int32} (hk : k ∈ I) (hs : am_shp k = .inr (true, n)) (hin : vp_in i n) (hdg : decode Y.2.1 pc = .ok (.baload, 1)) (kk : am_W Y ad I P (pc + 1) L (.int (M k i.toNatClampNeg) :: st) M) : am_W Y ad I P pc L (.int i :: .ref (ad k) :: st) M := by
  intro l D cyI cyZ p e s m args below meth c A H locs ls hX hA hl hP hD hS
  obtain ⟨hx, hb, hr, hml, hown, hlk, hK⟩ := id hX
  obtain ⟨q, hq⟩ := List.getElem?_of_mem hk
  exact va_zald hx hb hK.1 hP q 1 (am_arr hq hs) rfl hin hdg (kk l D cyI cyZ p e s m args below meth c A H locs ls hX hA hl hP hD hS)
theorem am_ast_ok {cyI cyZ : ClassId} {A : Nat → Prop} {q k n j : Nat} {z : Bool} {v : Int32} (hq : I[q]? = some k) (hs : am_shp k = .inr (z, n)) (hD0 : va_D A (am_w I cyI cyZ ad M)) : (am_w I cyI cyZ ad M).set q (ad k, .inl (if z = true then cyZ else cyI, n, .inl (upd (M k) j v))) = am_w I cyI cyZ ad (am_put M k j v) := by
  rw [← am_w_set (M' := am_put M k j v) hD0 hq (fun a ha => by simp [am_put, ha])]
  have e : am_cell cyI cyZ ad (am_put M k j v) k = .inl (if z = true then cyZ else cyI, n, .inl (upd (M k) j v)) := by simp [am_cell, hs, am_put]
  rw [e]
theorem am_iast {k n : Nat} {i v : Int32} (hk : k ∈ I) (hs : am_shp k = .inr (false, n)) (hin : vp_in i n) (hdg : decode Y.2.1 pc = .ok (.iastore, 1)) (kk : am_W Y ad I P (pc + 1) L st (am_put M k i.toNatClampNeg v)) : am_W Y ad I P pc L (.int v :: .int i :: .ref (ad k) :: st) M := by
  intro l D cyI cyZ p e s m args below meth c A H locs ls hX hA hl hP hD hS
  obtain ⟨hx, hb, hr, hml, hown, hlk, hK⟩ := id hX
  obtain ⟨q, hq⟩ := List.getElem?_of_mem hk
  refine va_iast hx hb hK.1 hP hD hS q 0 (am_arr hq hs) rfl hin hdg (fun H1 locs1 hP1 hD1 hS1 => ?_)
  have e := am_ast_ok (j := i.toNatClampNeg) (v := v) hq hs hD
  rw [e] at hP1 hD1
  exact kk l D cyI cyZ p _ s m args below meth c A H1 locs1 ls hX hA hl hP1 hD1 hS1
theorem am_zast {k n : Nat} {i v : Int32} (hk : k ∈ I) (hs : am_shp k = .inr (true, n)) (hin : vp_in i n) (hv : vp_nar .boolean v = v) (hdg : decode Y.2.1 pc = .ok (.bastore, 1)) (kk : am_W Y ad I P (pc + 1) L st (am_put M k i.toNatClampNeg v)) : am_W Y ad I P pc L (.int v :: .int i :: .ref (ad k) :: st) M := by
  intro l D cyI cyZ p e s m args below meth c A H locs ls hX hA hl hP hD hS
  obtain ⟨hx, hb, hr, hml, hown, hlk, hK⟩ := id hX
  obtain ⟨q, hq⟩ := List.getElem?_of_mem hk
  refine va_zast hx hb hK.1 hP hD hS q 1 (am_arr hq hs) rfl hin hdg (fun H1 locs1 hP1 hD1 hS1 => ?_)
  rw [hv] at hP1 hD1
  have e := am_ast_ok (j := i.toNatClampNeg) (v := v) hq hs hD
  rw [e] at hP1 hD1
  exact kk l D cyI cyZ p _ s m args below meth c A H1 locs1 ls hX hA hl hP1 hD1 hS1
theorem am_alen {k n : Nat} {z : Bool} {v : Int32} (hk : k ∈ I) (hs : am_shp k = .inr (z, n)) (hv : Int32.ofNat n = v) (hdg : decode Y.2.1 pc = .ok (.arraylength, 1)) (kk : am_W Y ad I P (pc + 1) L (.int v :: st) M) : am_W Y ad I P pc L (.ref (ad k) :: st) M := by
  intro l D cyI cyZ p e s m args below meth c A H locs ls hX hA hl hP hD hS
  obtain ⟨hx, hb, hr, hml, hown, hlk, hK⟩ := id hX
  obtain ⟨q, hq⟩ := List.getElem?_of_mem hk
  cases z with
  | false => exact va_alen hx hb hK.1 hP q 0 (am_arr hq hs) (ty := .int) rfl hv hdg (kk l D cyI cyZ p e s m args below meth c A H locs ls hX hA hl hP hD hS)
  | true => exact va_alen hx hb hK.1 hP q 1 (am_arr hq hs) (ty := .boolean) rfl hv hdg (kk l D cyI cyZ p e s m args below meth c A H locs ls hX hA hl hP hD hS)
theorem am_iret {v : Int32} (hret : Y.2.2.2.1 = some .int) (hdg : decode Y.2.1 pc = .ok (.ireturn, 1)) (hp : P (some (.int v)) M) : am_W Y ad I P pc L [.int v] M := by
  intro l D cyI cyZ p e s m args below meth c A H locs ls hX hA hl hP hD hS
  obtain ⟨hx, hb, hr, hml, hown, hlk, hK⟩ := id hX
  exact W.iret hx hb (hr.trans hret) (fun t ht hW => ⟨⟨_, M, rfl, hp, by rw [ht]; exact hP, hK.moved hW, hD⟩, hS.F ht⟩) hS.2.2 hdg hlk
theorem am_zret {v : Int32} (hret : Y.2.2.2.1 = some .boolean) (hn : narrow .boolean (.int v) = .int v) (hdg : decode Y.2.1 pc = .ok (.ireturn, 1)) (hp : P (some (.int v)) M) : am_W Y ad I P pc L [.int v] M := by
  intro l D cyI cyZ p e s m args below meth c A H locs ls hX hA hl hP hD hS
  obtain ⟨hx, hb, hr, hml, hown, hlk, hK⟩ := id hX
  exact W.zret hx hb (hr.trans hret) hn (fun t ht hW => ⟨⟨_, M, rfl, hp, by rw [ht]; exact hP, hK.moved hW, hD⟩, hS.F ht⟩) hS.2.2 hdg hlk
theorem am_vret (hret : Y.2.2.2.1 = none) (hdg : decode Y.2.1 pc = .ok (.return_, 1)) (hp : P none M) : am_W Y ad I P pc L [] M := by
  intro l D cyI cyZ p e s m args below meth c A H locs ls hX hA hl hP hD hS
  obtain ⟨hx, hb, hr, hml, hown, hlk, hK⟩ := id hX
  exact W.vret hx hb (hr.trans hret) (fun t ht hW => ⟨⟨_, M, rfl, hp, by rw [ht]; exact hP, hK.moved hW, hD⟩, hS.F ht⟩) hS.2.2 hdg hlk
theorem am_aret {v : Value} {cn : String} (hret : Y.2.2.2.1 = some (.object cn)) (hv : v = .null ∨ ∃ a, v = .ref a) (hdg : decode Y.2.1 pc = .ok (.areturn, 1)) (hp : P (some v) M) : am_W Y ad I P pc L [v] M := by
  intro l D cyI cyZ p e s m args below meth c A H locs ls hX hA hl hP hD hS
  obtain ⟨hx, hb, hr, hml, hown, hlk, hK⟩ := id hX
  exact W.aret hx hb (hr.trans hret) (Or.inl ⟨_, rfl⟩) hv (fun t ht hW => ⟨⟨_, M, rfl, hp, by rw [ht]; exact hP, hK.moved hW, hD⟩, hS.F ht⟩) hS.2.2 hdg hlk
theorem am_mabs {index : Nat} {x : Int32} (hlink : Cond.methodLink Y.1.cls index Lib.Math.abs.name ∈ lw_tbl) (hstat : Cond.static Lib.Math.abs.name ∈ lw_tbl) (hini : Cond.initialized "java/lang/Math" ∈ lw_tbl) (hcode : Cond.code Lib.Math.abs.name Lib.Math.abs.code 1 (some .int) ∈ lw_tbl) (hf : 1 ≤ Y.2.2.2.2.1) (hlc : (st.map fun v => v.category).sum + 13 ≤ Y.2.2.2.2.2) (hdg : decode Y.2.1 pc = .ok (.invokestatic index, 3)) (kk : am_W Y ad I P (pc + 3) L (.int (if 0 ≤ x then x else 0 - x) :: st) M) : am_W Y ad I P pc L (.int x :: st) M := by
  intro l D cyI cyZ p e s m args below meth c A H locs ls hX hA hl hP hD hS
  obtain ⟨hx, hb, hr, hml, hown, hlk, hK⟩ := id hX
  exact va_mabs hx hb (hml.trans hl.1.symm) hown (am_word hK hlink rfl rfl _) (am_word hK hstat rfl rfl _) (am_word hK hini rfl rfl _) (am_word hK hcode rfl rfl _) hf hlc (Nat.zero_le _) (Nat.zero_le _) hdg (kk l D cyI cyZ p e s m args below meth c A H locs ls hX hA hl hP hD hS)
theorem am_mmax {index : Nat} {x y : Int32} (hlink : Cond.methodLink Y.1.cls index Lib.Math.max.name ∈ lw_tbl) (hstat : Cond.static Lib.Math.max.name ∈ lw_tbl) (hini : Cond.initialized "java/lang/Math" ∈ lw_tbl) (hcode : Cond.code Lib.Math.max.name Lib.Math.max.code 2 (some .int) ∈ lw_tbl) (hf : 1 ≤ Y.2.2.2.2.1) (hlc : (st.map fun v => v.category).sum + 13 ≤ Y.2.2.2.2.2) (hdg : decode Y.2.1 pc = .ok (.invokestatic index, 3)) (kk : am_W Y ad I P (pc + 3) L (.int (if x < y then y else x) :: st) M) : am_W Y ad I P pc L (.int y :: .int x :: st) M := by
  intro l D cyI cyZ p e s m args below meth c A H locs ls hX hA hl hP hD hS
  obtain ⟨hx, hb, hr, hml, hown, hlk, hK⟩ := id hX
  exact va_mmax hx hb (hml.trans hl.1.symm) hown (am_word hK hlink rfl rfl _) (am_word hK hstat rfl rfl _) (am_word hK hini rfl rfl _) (am_word hK hcode rfl rfl _) hf hlc (Nat.zero_le _) (Nat.zero_le _) hdg (kk l D cyI cyZ p e s m args below meth c A H locs ls hX hA hl hP hD hS)
theorem am_mmin {index : Nat} {x y : Int32} (hlink : Cond.methodLink Y.1.cls index Lib.Math.min.name ∈ lw_tbl) (hstat : Cond.static Lib.Math.min.name ∈ lw_tbl) (hini : Cond.initialized "java/lang/Math" ∈ lw_tbl) (hcode : Cond.code Lib.Math.min.name Lib.Math.min.code 2 (some .int) ∈ lw_tbl) (hf : 1 ≤ Y.2.2.2.2.1) (hlc : (st.map fun v => v.category).sum + 13 ≤ Y.2.2.2.2.2) (hdg : decode Y.2.1 pc = .ok (.invokestatic index, 3)) (kk : am_W Y ad I P (pc + 3) L (.int (if y < x then y else x) :: st) M) : am_W Y ad I P pc L (.int y :: .int x :: st) M := by
  intro l D cyI cyZ p e s m args below meth c A H locs ls hX hA hl hP hD hS
  obtain ⟨hx, hb, hr, hml, hown, hlk, hK⟩ := id hX
  exact va_mmin hx hb (hml.trans hl.1.symm) hown (am_word hK hlink rfl rfl _) (am_word hK hstat rfl rfl _) (am_word hK hini rfl rfl _) (am_word hK hcode rfl rfl _) hf hlc (Nat.zero_le _) (Nat.zero_le _) hdg (kk l D cyI cyZ p e s m args below meth c A H locs ls hX hA hl hP hD hS)
theorem am_cont {p : Program} {l : Launch} {e : Env} {R : Jvm.Room} {s : State} {m : MethodId} {args a : Array Value} {below : List Frame} {meth : Method} {c : Code} {H : Heap} {locs : List Loc} {ls : Array Slot} {st0 rest : List Value} {Q : State → Prop} {D : va_G} {cyI cyZ : ClassId} {P' : Option Value → am_M → Prop} {A : Nat → Prop}
    (hr : va_Run p l e R s m args below meth c H locs 0 0 0 0 (F0 m pc ls st0) rest (am_Q D cyI cyZ ad I P' (va_A (am_w I cyI cyZ ad M) H.size) a) (va_A (am_w I cyI cyZ ad M) H.size))
    (hD : va_D A (am_w I cyI cyZ ad M)) (hS : va_S A s.heap H locs) (hA : ∀ q : Nat, s.heap.size ≤ q → A q)
    (kk : ∀ (r : Option Value) (M' : am_M) (H1 : Heap) (locs1 : List Loc), P' r M' → va_P D vwCl (am_w I cyI cyZ ad M') H1 → va_D A (am_w I cyI cyZ ad M') → va_S A s.heap H1 locs1 → W p l e R s m args below meth c H1 locs1 0 0 Q (F0 m (pc + 3) ls (r.toList ++ rest))) : W p l e R s m args below meth c H locs 0 0 Q (F0 m pc ls st0) := by
  intro T hT X
  obtain ⟨v, st₀, t, T', L9, h0, X', hL, e1, e2, ⟨⟨r, M', hv, hp, hP1, hK1, hD1⟩, hz, hk⟩, sg⟩ := hr T hT X
  cases hv
  rw [h0] at hz hk
  have hAA : ∀ q : Nat, va_A (am_w I cyI cyZ ad M) H.size q → A q := fun q h => by
    rcases h with ⟨k9, e9, h⟩ | h
    · exact hD.2 k9 _ h
    · exact hA q (Nat.le_trans hS.1 h)
  obtain ⟨t2, a1, b1⟩ := kk v M' T'.heap (locs ++ L9) hp (by rw [e1]; exact hP1) (hD1.weaken (fun _ _ _ h => hAA _ h))
    ⟨Nat.le_trans hS.1 (by rw [e1]; exact hz), fun q h1 h2 => by rw [e1, hk q (Nat.lt_of_lt_of_le h1 hS.1) (fun z => h2 (hAA q z))]; exact hS.2.1 q h1 h2, fun q hq => by
      rcases List.mem_append.mp hq with h | h
      · exact hS.2.2 q h
      · exact hAA _ (hL q h)⟩ T' rfl X'
  exact ⟨t2, sg t2 a1, b1⟩
/-- what a callee needs of the tables: n arguments; instance methods, static methods -/
def am_okV (Y' : am_Y) (n : Nat) : Prop := (Cond.selects Y'.1.cls Y'.1 Y'.1 ∈ lw_tbl ∧ Cond.instanceMethod Y'.1 ∈ lw_tbl) ∧ Cond.initialized Y'.1.cls ∈ lw_tbl ∧ Cond.code Y'.1 Y'.2.1 Y'.2.2.1 Y'.2.2.2.1 ∈ lw_tbl ∧ (Y'.1.cls ≠ "java/lang/invoke/MethodHandle" ∧ Y'.1.cls ≠ "java/lang/invoke/VarHandle" ∧ (parseMethodDescriptor Y'.1.desc).map (fun d => d.parameters.length) = some n)
def am_okS (Y' : am_Y) (n : Nat) : Prop := Cond.static Y'.1 ∈ lw_tbl ∧ Cond.initialized Y'.1.cls ∈ lw_tbl ∧ Cond.code Y'.1 Y'.2.1 Y'.2.2.1 Y'.2.2.2.1 ∈ lw_tbl ∧ (Y'.1.cls ≠ "java/lang/invoke/MethodHandle" ∧ Y'.1.cls ≠ "java/lang/invoke/VarHandle" ∧ (parseMethodDescriptor Y'.1.desc).map (fun d => d.parameters.length) = some n)
theorem am_pay {Y' : am_Y} {D : va_G} {cyI cyZ : ClassId} {s : State} (hK : am_K D cyI cyZ s) (hc : Cond.code Y'.1 Y'.2.1 Y'.2.2.1 Y'.2.2.2.1 ∈ lw_tbl) : ∀ w ∈ [Cond.code Y'.1 Y'.2.1 Y'.2.2.1 Y'.2.2.2.1], ∀ (a' : Array Value) (U : State), s.WarmedH U.vm → w.before a' U = true := by
  intro w hw a' U hW
  rw [List.mem_singleton] at hw
  subst hw
  exact word_at hW (Or.inl rfl) (hK.2.1 _ hc rfl)
theorem am_lens {Y' : am_Y} {n : Nat} (h : (parseMethodDescriptor Y'.1.desc).map (fun d => d.parameters.length) = some n) : ∀ sig, parseMethodDescriptor Y'.1.desc = some sig → n = sig.parameters.length := by
  intro sig h1
  rw [h1] at h
  exact (Option.some.inj h).symm
theorem am_blind {As : List Value} {sz : Nat} {D : va_G} {cyI cyZ : ClassId} : FrameBlind (va_Pc As (fun U => U.heap.size = sz ∧ va_P D vwCl (am_w I cyI cyZ ad M) U.heap ∧ am_K D cyI cyZ U ∧ va_D (fun _ => True) (am_w I cyI cyZ ad M))) := by
  intro a U g mk q
  obtain ⟨q0, q1, qP, qK, qD⟩ := q
  exact ⟨q0, q1, qP, ⟨va_K.moved (u := U) (U := U.calling g mk a) (Vm.Alike.refl U.vm) qK.1, fun w hw hg => by
    have h1 := qK.2.1 w hw hg
    rcases good_of_word hg with h | ⟨ty, rfl⟩
    · exact va_tabs (u := U) (U := U.calling g mk a) (by simp only [Bool.and_eq_true] at h; exact h.1) rfl h1
    · exact word_at (s := U) (U := U.calling g mk a) (State.WarmedH.refl U) (Or.inr ⟨ty, rfl⟩) h1, fun w hw => va_Nw.same (u := U) (U := U.calling g mk a) (am_nst_on w hw) rfl (qK.2.2 w hw)⟩, qD⟩
theorem am_callV {Y' : am_Y} {P' : Option Value → am_M → Prop} {As rest : List Value} {index n : Nat} {k ci N : Nat} {T : u_T} {fl : List (Option Nat)} (hM : am_C Y' ad I (.ref (ad k) :: As) M P') (ok : am_okV Y' n) (hlink : Cond.methodLink Y.1.cls index Y'.1 ∈ lw_tbl) (hk : k ∈ I) (hs : am_shp k = .inl (ci, fl)) (hc : vwCl[ci]? = some (Y'.1.cls, T, N)) (hn : As.length = n) (hR : Y'.2.2.2.2.1 + 1 ≤ Y.2.2.2.2.1 ∧ 8 + (Y'.2.2.1 + 11) + Y'.2.2.2.2.2 ≤ Y.2.2.2.2.2) (hW8 : (rest.map fun v => v.category).sum ≤ 8) {st0 : List Value} (hst : st0 = As.reverse ++ .ref (ad k) :: rest) (hdg : decode Y.2.1 pc = .ok (.invokevirtual index, 3)) (kk : ∀ r M', P' r M' → am_W Y ad I P (pc + 3) L (r.toList ++ rest) M') : am_W Y ad I P pc L st0 M := by
  intro l D cyI cyZ p e s m args below meth c A H locs ls hX hA hl hP hD hS
  obtain ⟨hx, hb, hr, hml, hown, hlk, hK⟩ := id hX
  subst hst
  obtain ⟨⟨ok1, ok2⟩, ok3, ok4, ok5, ok6, ok7⟩ := ok
  obtain ⟨q, hq⟩ := List.getElem?_of_mem hk
  have he : (am_w I cyI cyZ ad M)[q]? = some (ad k, .inr (ci, am_fs ad (M k) 0 fl)) := by rw [am_w_get hq, am_cell, hs]
  exact am_cont (va_runV (As := As) (rest := rest) (Ts := []) ⟨hx, hb, hml, hown, fun w h => absurd h List.not_mem_nil⟩ (hM l D cyI cyZ H.size) ⟨⟨rfl, rfl, hR.1, hR.2, am_pay hK ok4, List.mem_cons_self, am_word hK ok4 rfl rfl _, am_word hK ok3 rfl rfl _, ⟨ok5, ok6⟩, am_lens ok7, am_word hK hlink rfl rfl _⟩, am_word hK ok2 rfl rfl _, am_word hK ok1 rfl rfl _⟩ ⟨am_blind, va_recv hK.1 hP hc he, (fun U hU hW => ⟨rfl, by rw [hU], by rw [hU]; exact hP, hK.moved hW, hD.weaken (fun _ _ _ _ => trivial)⟩)⟩ rfl hn hl.1 rfl (lv_room hW8) hdg ⟨Nat.zero_le _, Nat.zero_le _⟩) hD hS hA (fun r M' H1 locs1 hp hP1 hD1 hS1 => kk r M' hp l D cyI cyZ p e s m args below meth c A H1 locs1 ls hX hA hl hP1 hD1 hS1)
theorem am_callS {Y' : am_Y} {P' : Option Value → am_M → Prop} {As rest : List Value} {index n : Nat} (hM : am_C Y' ad I As M P') (ok : am_okS Y' n) (hlink : Cond.methodLink Y.1.cls index Y'.1 ∈ lw_tbl) (hn : As.length = n) (hR : Y'.2.2.2.2.1 + 1 ≤ Y.2.2.2.2.1 ∧ 8 + (Y'.2.2.1 + 11) + Y'.2.2.2.2.2 ≤ Y.2.2.2.2.2) (hW8 : (rest.map fun v => v.category).sum ≤ 8) {st0 : List Value} (hst : st0 = As.reverse ++ rest) (hdg : decode Y.2.1 pc = .ok (.invokestatic index, 3)) (kk : ∀ r M', P' r M' → am_W Y ad I P (pc + 3) L (r.toList ++ rest) M') : am_W Y ad I P pc L st0 M := by
  intro l D cyI cyZ p e s m args below meth c A H locs ls hX hA hl hP hD hS
  obtain ⟨hx, hb, hr, hml, hown, hlk, hK⟩ := id hX
  subst hst
  obtain ⟨ok1, ok3, ok4, ok5, ok6, ok7⟩ := ok
  exact am_cont (va_runS (As := As) (rest := rest) (Ts := []) ⟨hx, hb, hml, hown, fun w h => absurd h List.not_mem_nil⟩ (hM l D cyI cyZ H.size) ⟨⟨rfl, rfl, hR.1, hR.2, am_pay hK ok4, List.mem_cons_self, am_word hK ok4 rfl rfl _, am_word hK ok3 rfl rfl _, ⟨ok5, ok6⟩, am_lens ok7, am_word hK hlink rfl rfl _⟩, am_word hK ok1 rfl rfl _⟩ ⟨am_blind, (fun U hU hW => ⟨rfl, by rw [hU], by rw [hU]; exact hP, hK.moved hW, hD.weaken (fun _ _ _ _ => trivial)⟩)⟩ rfl hn hl.1 rfl (lv_room hW8) hdg ⟨Nat.zero_le _, Nat.zero_le _⟩) hD hS hA (fun r M' H1 locs1 hp hP1 hD1 hS1 => kk r M' hp l D cyI cyZ p e s m args below meth c A H1 locs1 ls hX hA hl hP1 hD1 hS1)
theorem am_callN {Y' : am_Y} {P' : Option Value → am_M → Prop} {As rest : List Value} {index n : Nat} {host : String} (hM : am_C Y' ad I As M P') (ok : am_okS Y' n) (hlink : Cond.methodLinkNest Y.1.cls index Y'.1 host ∈ am_nst) (hn : As.length = n) (hR : Y'.2.2.2.2.1 + 1 ≤ Y.2.2.2.2.1 ∧ 8 + (Y'.2.2.1 + 11) + Y'.2.2.2.2.2 ≤ Y.2.2.2.2.2) (hW8 : (rest.map fun v => v.category).sum ≤ 8) {st0 : List Value} (hst : st0 = As.reverse ++ rest) (hdg : decode Y.2.1 pc = .ok (.invokestatic index, 3)) (kk : ∀ r M', P' r M' → am_W Y ad I P (pc + 3) L (r.toList ++ rest) M') : am_W Y ad I P pc L st0 M := by
  intro l D cyI cyZ p e s m args below meth c A H locs ls hX hA hl hP hD hS
  obtain ⟨hx, hb, hr, hml, hown, hlk, hK⟩ := id hX
  subst hst
  obtain ⟨ok1, ok3, ok4, ok5, ok6, ok7⟩ := ok
  exact am_cont (va_runSN (As := As) (rest := rest) (Ts := []) ⟨hx, hb, hml, hown, fun w h => absurd h List.not_mem_nil⟩ (hM l D cyI cyZ H.size) ⟨⟨⟨rfl, rfl, hR.1, hR.2, am_pay hK ok4, List.mem_cons_self⟩, am_word hK ok4 rfl rfl _, am_word hK ok3 rfl rfl _, ⟨ok5, ok6⟩, am_lens ok7, va_Nw.use rfl (hK.2.2 _ hlink)⟩, am_word hK ok1 rfl rfl _, trivial⟩ ⟨am_blind, (fun U hU hW => ⟨rfl, by rw [hU], by rw [hU]; exact hP, hK.moved hW, hD.weaken (fun _ _ _ _ => trivial)⟩)⟩ rfl hn hl.1 rfl (lv_room hW8) hdg ⟨Nat.zero_le _, Nat.zero_le _⟩) hD hS hA (fun r M' H1 locs1 hp hP1 hD1 hS1 => kk r M' hp l D cyI cyZ p e s m args below meth c A H1 locs1 ls hX hA hl hP1 hD1 hS1)
theorem am_oinit {index v : Nat} (hlink : Cond.methodLink Y.1.cls index Lib.objectInit ∈ lw_tbl) (hinst : Cond.instanceMethod Lib.objectInit ∈ lw_tbl) (hcode : Cond.code Lib.objectInit ⟨#[0xb1]⟩ 1 none ∈ lw_tbl) (hf : 1 ≤ Y.2.2.2.2.1) (hlc : (st.map fun v => v.category).sum + 12 ≤ Y.2.2.2.2.2) (hdg : decode Y.2.1 pc = .ok (.invokespecial index, 3)) (kk : am_W Y ad I P (pc + 3) L st M) : am_W Y ad I P pc L (.ref v :: st) M := by
  intro l D cyI cyZ p e s m args below meth c A H locs ls hX hA hl hP hD hS
  obtain ⟨hx, hb, hr, hml, hown, hlk, hK⟩ := id hX
  refine W.objInit hx hb hown (am_word hK hlink rfl rfl _) (am_word hK hinst rfl rfl _) (am_word hK hcode rfl rfl _) rfl (hl.1.trans hml.symm) rfl hdg hf (by show 2 * 0 + _ + 12 ≤ _; rw [Nat.mul_zero, Nat.zero_add]; exact hlc) ?_
  exact kk l D cyI cyZ p e s m args below meth c A H locs ls hX hA hl hP hD hS
end AMR

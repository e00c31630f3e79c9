/-! calls in the world that grows -/
theorem an_left {α : Type} {a b : List α} {k : Nat} {q : α} (h : a[k]? = some q) : (a ++ b)[k]? = some q := by
  rw [List.getElem?_append_left (List.getElem?_eq_some_iff.mp h).1]
  exact h
theorem an_right {α : Type} {a b : List α} {k : Nat} {q : α} (h : b[k]? = some q) : (a ++ b)[a.length + k]? = some q := by
  rw [List.getElem?_append_right (Nat.le_add_right _ _), Nat.add_sub_cancel_left]
  exact h
theorem an_PL {D : va_G} {a b : va_W} {H : Heap} (h : va_P D vwCl (a ++ b) H) : va_P D vwCl a H := fun k q hk => h k q (an_left hk)
theorem an_PR {D : va_G} {a b : va_W} {H : Heap} (h : va_P D vwCl (a ++ b) H) : va_P D vwCl b H := fun k q hk => h (a.length + k) q (an_right hk)
theorem an_DL {A : Nat → Prop} {a b : va_W} (h : va_D A (a ++ b)) : va_D A a := ⟨fun i j x y hx hy e => h.1 i j x y (an_left hx) (an_left hy) e, fun k q hk => h.2 k q (an_left hk)⟩
theorem an_DR {A : Nat → Prop} {a b : va_W} (h : va_D A (a ++ b)) : va_D A b := ⟨fun i j x y hx hy e => by
    have h1 := h.1 (a.length + i) (a.length + j) x y (an_right hx) (an_right hy) e
    omega, fun k q hk => h.2 (a.length + k) q (an_right hk)⟩
theorem an_sep {A : Nat → Prop} {a b : va_W} (h : va_D A (a ++ b)) {i j : Nat} {x y : Nat × va_E} (hx : a[i]? = some x) (hy : b[j]? = some y) (e : x.1 = y.1) : False := by
  have h1 := h.1 i (a.length + j) x y (an_left hx) (an_right hy) e
  have h2 := (List.getElem?_eq_some_iff.mp hx).1
  omega
theorem an_join {A0 : Nat → Prop} {D : va_G} {wr wc w1 : va_W} {H H1 : Heap} (hP : va_P D vwCl (wr ++ wc) H) (hD : va_D A0 (wr ++ wc)) (hk : ∀ q : Nat, q < H.size → ¬ va_A wc H.size q → H1[q]? = H[q]?) (hF : ∀ q, va_A wc H.size q → A0 q) (hP1 : va_P D vwCl w1 H1) (hD1 : va_D (va_A wc H.size) w1) : va_P D vwCl (wr ++ w1) H1 ∧ va_D A0 (wr ++ w1) := by
  have apart : ∀ (k : Nat) (q : Nat × va_E), wr[k]? = some q → q.1 < H.size ∧ ¬ va_A wc H.size q.1 := by
    intro k q hq
    have hl := ((an_PL hP) k q hq).lt
    refine ⟨hl, fun h => ?_⟩
    rcases h with ⟨k2, e, h⟩ | h
    · exact an_sep hD hq h rfl
    · omega
  refine ⟨va_P.app (fun k q hq => ?_) hP1, va_D.app (an_DL hD) (hD1.weaken (fun k q _ h => hF q.1 h)) (fun i j x y hx hy hxy => ?_)⟩
  · obtain ⟨g1, g2⟩ := apart k q hq
    exact ((an_PL hP) k q hq).kept (hk q.1 g1 g2)
  · exact (apart i x hx).2 (by rw [hxy]; exact hD1.2 j y hy)
theorem an_free {A0 : Nat → Prop} {wr wc : va_W} {H0 H : Heap} {locs : List Loc} (hD : va_D A0 (wr ++ wc)) (hS : va_S A0 H0 H locs) (hA : ∀ q, H0.size ≤ q → A0 q) : ∀ q, va_A wc H.size q → A0 q := by
  intro q h
  rcases h with ⟨k, e, h⟩ | h
  · exact hD.2 (wr.length + k) (q, e) (an_right h)
  · exact hA q (Nat.le_trans hS.1 h)
def an_QG (D : va_G) (cyI cyZ : ClassId) (G : Option Value → List (Nat × an_E) → Prop) (A : Nat → Prop) : State → Outcome → State → Prop := fun st o t =>
  (∃ (r : Option Value) (w1 : List (Nat × an_E)), o = .returned r ∧ G r w1 ∧ va_P D vwCl (an_w cyI cyZ w1) t.heap ∧ va_D A (an_w cyI cyZ w1)) ∧ va_F A st t
theorem an_blind {As : List Value} {sz : Nat} {D : va_G} {cyI cyZ : ClassId} {w : va_W} : FrameBlind (va_Pc As (fun U => U.heap.size = sz ∧ va_P D vwCl w U.heap ∧ am_K D cyI cyZ U ∧ va_D (fun _ => True) w)) := by
  intro a U g mk q
  obtain ⟨q0, q1, qP, qK, qD⟩ := q
  exact ⟨q0, q1, qP, ⟨va_K.moved (u := U) (U := U.calling g mk a) (Vm.Alike.refl U.vm) qK.1, fun w hw hg => by
    have h1 := qK.2.1 w hw hg
    rcases good_of_word hg with h | ⟨ty, rfl⟩
    · exact va_tabs (u := U) (U := U.calling g mk a) (by simp only [Bool.and_eq_true] at h; exact h.1) rfl h1
    · exact word_at (s := U) (U := U.calling g mk a) (State.WarmedH.refl U) (Or.inr ⟨ty, rfl⟩) h1, fun w hw => va_Nw.same (u := U) (U := U.calling g mk a) (am_nst_on w hw) rfl (qK.2.2 w hw)⟩, qD⟩
section ANC
variable {Y : am_Y} {rm : Jvm.Room} {QF : an_QF} {Hy : an_HY} {pc : Nat} {L : List (Option Value)} {st : List Value} {ws : List (Nat × an_E)} {cs sl : Nat}
theorem an_cont {p : Program} {l : Launch} {e : Env} {R : Jvm.Room} {s : State} {m : MethodId} {args : Array Value} {below : List Frame} {meth : Method} {c : Code} {H : Heap} {locs : List Loc} {ls : Array Slot} {st0 rest : List Value} {Q : State → Prop} {D : va_G} {cyI cyZ : ClassId} {G : Option Value → List (Nat × an_E) → Prop} {A : Nat → Prop} {mc ms : Nat} {wr wc : List (Nat × an_E)} {QQ : State → Outcome → State → Prop}
    (hr : va_Run p l e R s m args below meth c H locs cs sl mc ms (F0 m pc ls st0) rest QQ (va_A (an_w cyI cyZ wc) H.size))
    (hq : ∀ st o t, QQ st o t → an_QG D cyI cyZ G (va_A (an_w cyI cyZ wc) H.size) st o t)
    (hP : va_P D vwCl (an_w cyI cyZ (wr ++ wc)) H) (hD : va_D A (an_w cyI cyZ (wr ++ wc))) (hS : va_S A s.heap H locs) (hA : ∀ q : Nat, s.heap.size ≤ q → A q)
    (kk : ∀ (r : Option Value) (w1 : List (Nat × an_E)) (H1 : Heap) (locs1 : List Loc), G r w1 → va_P D vwCl (an_w cyI cyZ (wr ++ w1)) H1 → va_D A (an_w cyI cyZ (wr ++ w1)) → va_S A s.heap H1 locs1 → W p l e R s m args below meth c H1 locs1 (cs + mc) (sl + ms) Q (F0 m (pc + 3) ls (r.toList ++ rest))) : W p l e R s m args below meth c H locs cs sl Q (F0 m pc ls st0) := by
  intro T hT X
  obtain ⟨v, st₀, t, T', L9, h0, X', hL, e1, e2, hQ, sg⟩ := hr T hT X
  obtain ⟨⟨r, w1, hv, hp, hP1, hD1⟩, hz, hk⟩ := hq _ _ _ hQ
  cases hv
  rw [h0] at hz hk
  rw [an_app] at hP hD
  have hF := an_free hD hS hA
  obtain ⟨hP2, hD2⟩ := an_join hP hD hk hF hP1 hD1
  rw [← an_app] at hP2 hD2
  obtain ⟨t2, a1, b1⟩ := kk v w1 T'.heap (locs ++ L9) hp (by rw [e1]; exact hP2) hD2
    ⟨Nat.le_trans hS.1 (by rw [e1]; exact hz), fun q h1 h2 => by rw [e1, hk q (Nat.lt_of_lt_of_le h1 hS.1) (fun z => h2 (hF q z))]; exact hS.2.1 q h1 h2, fun q hq => by
      rcases List.mem_append.mp hq with h | h
      · exact hS.2.2 q h
      · exact hF _ (hL q h)⟩ T' rfl X'
  exact ⟨t2, sg t2 a1, b1⟩
/-- what a constructor needs of the tables -/
def an_okI (Y' : am_Y) (n : Nat) : Prop := (Y'.1.name = "<init>" ∧ Cond.instanceMethod Y'.1 ∈ lw_tbl) ∧ Cond.initialized Y'.1.cls ∈ lw_tbl ∧ Cond.code Y'.1 Y'.2.1 Y'.2.2.1 Y'.2.2.2.1 ∈ lw_tbl ∧ Y'.2.2.2.1 = none ∧ (Y'.1.cls ≠ "java/lang/invoke/MethodHandle" ∧ Y'.1.cls ≠ "java/lang/invoke/VarHandle" ∧ (parseMethodDescriptor Y'.1.desc).map (fun d => d.parameters.length) = some n)
theorem an_C_post {D : va_G} {cyI cyZ : ClassId} {P : List (Nat × an_E) → Prop} {A : Nat → Prop} {a : Array Value} {st : State} {o : Outcome} {t : State} (h : an_Q D cyI cyZ P A a st o t) : an_QG D cyI cyZ (fun r w1 => r = none ∧ P w1) A st o t := by
  obtain ⟨⟨w1, h1, h2, h3, -, h5⟩, h6⟩ := h
  exact ⟨⟨none, w1, h1, ⟨rfl, h2⟩, h3, h5⟩, h6⟩
theorem an_M_post {D : va_G} {cyI cyZ : ClassId} {ad : Nat → Nat} {I : List Nat} {P : Option Value → am_M → Prop} {A : Nat → Prop} {a : Array Value} {st : State} {o : Outcome} {t : State} (h : am_Q D cyI cyZ ad I P A a st o t) : an_QG D cyI cyZ (fun r w1 => ∃ M', P r M' ∧ w1 = an_am I ad M') A st o t := by
  obtain ⟨⟨r, M', h1, h2, h3, -, h5⟩, h6⟩ := h
  exact ⟨⟨r, an_am I ad M', h1, ⟨M', h2, rfl⟩, by rw [an_am_w]; exact h3, by rw [an_am_w]; exact h5⟩, h6⟩
theorem an_callI {Y' : am_Y} {mc ms n index a : Nat} {As rest : List Value} {wr wc : List (Nat × an_E)} {P' : List (Nat × an_E) → Prop} (hM : an_C Y' mc ms (.ref a :: As) wc P') (ok : an_okI Y' n) (hlink : Cond.methodLink Y.1.cls index Y'.1 ∈ lw_tbl) (hn : As.length = n) (hR : Y'.2.2.2.2.1 + 1 ≤ rm.frames ∧ 8 + (Y'.2.2.1 + 11) + Y'.2.2.2.2.2 ≤ rm.locals) (hf : cs + mc ≤ rm.cells ∧ sl + ms ≤ rm.slots) (hW8 : (rest.map fun v => v.category).sum ≤ 8) {st0 : List Value} (hst : st0 = As.reverse ++ .ref a :: rest) (hdg : decode Y.2.1 pc = .ok (.invokespecial index, 3)) (hws : ws = wr ++ wc) {cs' sl' : Nat} (e1 : cs + mc = cs') (e2 : sl + ms = sl') (kk : ∀ w1, P' w1 → an_W Y rm QF Hy (pc + 3) L rest (wr ++ w1) cs' sl') : an_W Y rm QF Hy pc L st0 ws cs sl := by
  subst e1 e2 hws hst
  obtain ⟨y, cb, nl, rt, fr, lo⟩ := Y'
  obtain ⟨⟨ok0, ok2⟩, ok3, ok4, hret, ok5, ok6, ok7⟩ := ok
  dsimp only at hret ok0 ok2 ok3 ok4 ok5 ok6 ok7 hlink hR
  subst hret
  intro l D cyI cyZ p e s m args below meth c A H locs ls hX hY hA hl hP hD hS
  obtain ⟨hx, hb, hr, hml, hown, hlk, hK⟩ := id hX
  have hPc : va_P D vwCl (an_w cyI cyZ wc) H := an_PR (by rw [← an_app]; exact hP)
  have hDc : va_D A (an_w cyI cyZ wc) := an_DR (by rw [← an_app]; exact hD)
  refine an_cont (wr := wr) (wc := wc) (rest := rest) (mc := mc) (ms := ms) (va_runI (As := As) (rest := rest) (Ts := []) ⟨hx, hb, hml, hown, fun w h => absurd h List.not_mem_nil⟩ (hM l D cyI cyZ H.size) ⟨⟨rfl, rfl, hR.1, hR.2, am_pay (Y' := (y, cb, nl, none, fr, lo)) hK ok4, List.mem_cons_self, am_word hK ok4 rfl rfl _, am_word hK ok3 rfl rfl _, ⟨ok5, ok6⟩, am_lens (Y' := (y, cb, nl, none, fr, lo)) ok7, am_word hK hlink rfl rfl _⟩, ok0, am_word hK ok2 rfl rfl _⟩ ⟨an_blind, (fun U hU hW => ⟨rfl, by rw [hU], by rw [hU]; exact hPc, hK.moved hW, hDc.weaken (fun _ _ _ _ => trivial)⟩)⟩ rfl hn hl.1 rfl (lv_room hW8) hdg hf) (fun _ _ _ h => an_C_post h) hP hD hS hA (fun r w1 H1 locs1 hp hP1 hD1 hS1 => ?_)
  obtain ⟨rfl, hp⟩ := hp
  exact kk w1 hp l D cyI cyZ p e s m args below meth c A H1 locs1 ls hX hY hA hl hP1 hD1 hS1
theorem an_callIN {Y' : am_Y} {mc ms n index a : Nat} {As rest : List Value} {wr wc : List (Nat × an_E)} {P' : List (Nat × an_E) → Prop} (hM : an_C Y' mc ms (.ref a :: As) wc P') (ok : an_okI Y' n) {host : String} (hlink : Cond.methodLinkNest Y.1.cls index Y'.1 host ∈ am_nst) (hn : As.length = n) (hR : Y'.2.2.2.2.1 + 1 ≤ rm.frames ∧ 8 + (Y'.2.2.1 + 11) + Y'.2.2.2.2.2 ≤ rm.locals) (hf : cs + mc ≤ rm.cells ∧ sl + ms ≤ rm.slots) (hW8 : (rest.map fun v => v.category).sum ≤ 8) {st0 : List Value} (hst : st0 = As.reverse ++ .ref a :: rest) (hdg : decode Y.2.1 pc = .ok (.invokespecial index, 3)) (hws : ws = wr ++ wc) {cs' sl' : Nat} (e1 : cs + mc = cs') (e2 : sl + ms = sl') (kk : ∀ w1, P' w1 → an_W Y rm QF Hy (pc + 3) L rest (wr ++ w1) cs' sl') : an_W Y rm QF Hy pc L st0 ws cs sl := by
  subst e1 e2 hws hst
  obtain ⟨y, cb, nl, rt, fr, lo⟩ := Y'
  obtain ⟨⟨ok0, ok2⟩, ok3, ok4, hret, ok5, ok6, ok7⟩ := ok
  dsimp only at hret ok0 ok2 ok3 ok4 ok5 ok6 ok7 hlink hR
  subst hret
  intro l D cyI cyZ p e s m args below meth c A H locs ls hX hY hA hl hP hD hS
  obtain ⟨hx, hb, hr, hml, hown, hlk, hK⟩ := id hX
  have hPc : va_P D vwCl (an_w cyI cyZ wc) H := an_PR (by rw [← an_app]; exact hP)
  have hDc : va_D A (an_w cyI cyZ wc) := an_DR (by rw [← an_app]; exact hD)
  refine an_cont (wr := wr) (wc := wc) (rest := rest) (mc := mc) (ms := ms) (va_runIN (As := As) (rest := rest) (Ts := []) ⟨hx, hb, hml, hown, fun w h => absurd h List.not_mem_nil⟩ (hM l D cyI cyZ H.size) ⟨⟨⟨rfl, rfl, hR.1, hR.2, am_pay (Y' := (y, cb, nl, none, fr, lo)) hK ok4, List.mem_cons_self⟩, am_word hK ok4 rfl rfl _, am_word hK ok3 rfl rfl _, ⟨ok5, ok6⟩, am_lens (Y' := (y, cb, nl, none, fr, lo)) ok7, va_Nw.use rfl (hK.2.2 _ hlink)⟩, ok0, am_word hK ok2 rfl rfl _⟩ ⟨an_blind, (fun U hU hW => ⟨rfl, by rw [hU], by rw [hU]; exact hPc, hK.moved hW, hDc.weaken (fun _ _ _ _ => trivial)⟩)⟩ rfl hn hl.1 rfl (lv_room hW8) hdg hf) (fun _ _ _ h => an_C_post h) hP hD hS hA (fun r w1 H1 locs1 hp hP1 hD1 hS1 => ?_)
  obtain ⟨rfl, hp⟩ := hp
  exact kk w1 hp l D cyI cyZ p e s m args below meth c A H1 locs1 ls hX hY hA hl hP1 hD1 hS1
theorem an_callV {Y' : am_Y} {ad : Nat → Nat} {I : List Nat} {M : am_M} {P' : Option Value → am_M → Prop} {As rest : List Value} {index n : Nat} {k ci N : Nat} {T : u_T} {fl : List (Option Nat)} {wr : List (Nat × an_E)} (hM : am_C Y' ad I (.ref (ad k) :: As) M P') (ok : am_okV Y' n) (hlink : Cond.methodLink Y.1.cls index Y'.1 ∈ lw_tbl) (hk : k ∈ I) (hs : am_shp k = .inl (ci, fl)) (hc : vwCl[ci]? = some (Y'.1.cls, T, N)) (hn : As.length = n) (hR : Y'.2.2.2.2.1 + 1 ≤ rm.frames ∧ 8 + (Y'.2.2.1 + 11) + Y'.2.2.2.2.2 ≤ rm.locals) (hf : cs ≤ rm.cells ∧ sl ≤ rm.slots) (hW8 : (rest.map fun v => v.category).sum ≤ 8) {st0 : List Value} (hst : st0 = As.reverse ++ .ref (ad k) :: rest) (hdg : decode Y.2.1 pc = .ok (.invokevirtual index, 3)) (hws : ws = wr ++ an_am I ad M) (kk : ∀ r M', P' r M' → an_W Y rm QF Hy (pc + 3) L (r.toList ++ rest) (wr ++ an_am I ad M') cs sl) : an_W Y rm QF Hy pc L st0 ws cs sl := by
  subst hws hst
  intro l D cyI cyZ p e s m args below meth c A H locs ls hX hY hA hl hP hD hS
  obtain ⟨hx, hb, hr, hml, hown, hlk, hK⟩ := id hX
  obtain ⟨⟨ok1, ok2⟩, ok3, ok4, ok5, ok6, ok7⟩ := ok
  have hPc : va_P D vwCl (am_w I cyI cyZ ad M) H := by
    rw [← an_am_w]
    exact an_PR (by rw [← an_app]; exact hP)
  have hDc : va_D A (am_w I cyI cyZ ad M) := by
    rw [← an_am_w]
    exact an_DR (by rw [← an_app]; exact hD)
  obtain ⟨q, hq⟩ := List.getElem?_of_mem hk
  have he : (am_w I cyI cyZ ad M)[q]? = some (ad k, .inr (ci, am_fs ad (M k) 0 fl)) := by rw [am_w_get hq, am_cell, hs]
  have hrun := va_runV (l := l) (p := p) (e := e) (R := rm) (below := below) (args := args) (meth := meth) (H := H) (locs := locs) (cells := cs) (slots := sl) (g := F0 m pc ls (As.reverse ++ .ref (ad k) :: rest)) (As := As) (rest := rest) (Ts := []) ⟨hx, hb, hml, hown, fun w h => absurd h List.not_mem_nil⟩ (hM l D cyI cyZ H.size) ⟨⟨rfl, rfl, hR.1, hR.2, am_pay hK ok4, List.mem_cons_self, am_word hK ok4 rfl rfl _, am_word hK ok3 rfl rfl _, ⟨ok5, ok6⟩, am_lens ok7, am_word hK hlink rfl rfl _⟩, am_word hK ok2 rfl rfl _, am_word hK ok1 rfl rfl _⟩ ⟨am_blind, va_recv hK.1 hPc hc he, (fun U hU hW => ⟨rfl, by rw [hU], by rw [hU]; exact hPc, hK.moved hW, hDc.weaken (fun _ _ _ _ => trivial)⟩)⟩ rfl hn hl.1 rfl (lv_room hW8) hdg hf
  rw [← an_am_w] at hrun
  refine an_cont (wr := wr) (wc := an_am I ad M) (rest := rest) (mc := 0) (ms := 0) hrun (fun _ _ _ h => an_M_post h) hP hD hS hA (fun r w1 H1 locs1 hp hP1 hD1 hS1 => ?_)
  obtain ⟨M', hp, rfl⟩ := hp
  exact kk r M' hp l D cyI cyZ p e s m args below meth c A H1 locs1 ls hX hY hA hl hP1 hD1 hS1
theorem an_callS {Y' : am_Y} {ad : Nat → Nat} {I : List Nat} {M : am_M} {P' : Option Value → am_M → Prop} {As rest : List Value} {index n : Nat} {wr : List (Nat × an_E)} (hM : am_C Y' ad I As M P') (ok : am_okS Y' n) (hlink : Cond.methodLink Y.1.cls index Y'.1 ∈ lw_tbl) (hn : As.length = n) (hR : Y'.2.2.2.2.1 + 1 ≤ rm.frames ∧ 8 + (Y'.2.2.1 + 11) + Y'.2.2.2.2.2 ≤ rm.locals) (hf : cs ≤ rm.cells ∧ sl ≤ rm.slots) (hW8 : (rest.map fun v => v.category).sum ≤ 8) {st0 : List Value} (hst : st0 = As.reverse ++ rest) (hdg : decode Y.2.1 pc = .ok (.invokestatic index, 3)) (hws : ws = wr ++ an_am I ad M) (kk : ∀ r M', P' r M' → an_W Y rm QF Hy (pc + 3) L (r.toList ++ rest) (wr ++ an_am I ad M') cs sl) : an_W Y rm QF Hy pc L st0 ws cs sl := by
  subst hws hst
  intro l D cyI cyZ p e s m args below meth c A H locs ls hX hY hA hl hP hD hS
  obtain ⟨hx, hb, hr, hml, hown, hlk, hK⟩ := id hX
  obtain ⟨ok1, ok3, ok4, ok5, ok6, ok7⟩ := ok
  have hPc : va_P D vwCl (am_w I cyI cyZ ad M) H := by
    rw [← an_am_w]
    exact an_PR (by rw [← an_app]; exact hP)
  have hDc : va_D A (am_w I cyI cyZ ad M) := by
    rw [← an_am_w]
    exact an_DR (by rw [← an_app]; exact hD)
  have hrun := va_runS (l := l) (p := p) (e := e) (R := rm) (below := below) (args := args) (meth := meth) (H := H) (locs := locs) (cells := cs) (slots := sl) (g := F0 m pc ls (As.reverse ++ rest)) (As := As) (rest := rest) (Ts := []) ⟨hx, hb, hml, hown, fun w h => absurd h List.not_mem_nil⟩ (hM l D cyI cyZ H.size) ⟨⟨rfl, rfl, hR.1, hR.2, am_pay hK ok4, List.mem_cons_self, am_word hK ok4 rfl rfl _, am_word hK ok3 rfl rfl _, ⟨ok5, ok6⟩, am_lens ok7, am_word hK hlink rfl rfl _⟩, am_word hK ok1 rfl rfl _⟩ ⟨am_blind, (fun U hU hW => ⟨rfl, by rw [hU], by rw [hU]; exact hPc, hK.moved hW, hDc.weaken (fun _ _ _ _ => trivial)⟩)⟩ rfl hn hl.1 rfl (lv_room hW8) hdg hf
  rw [← an_am_w] at hrun
  refine an_cont (wr := wr) (wc := an_am I ad M) (rest := rest) (mc := 0) (ms := 0) hrun (fun _ _ _ h => an_M_post h) hP hD hS hA (fun r w1 H1 locs1 hp hP1 hD1 hS1 => ?_)
  obtain ⟨M', hp, rfl⟩ := hp
  exact kk r M' hp l D cyI cyZ p e s m args below meth c A H1 locs1 ls hX hY hA hl hP1 hD1 hS1
theorem an_swap {a b : List (Nat × an_E)} (h : ws = a ++ b) (kk : an_W Y rm QF Hy pc L st (b ++ a) cs sl) : an_W Y rm QF Hy pc L st ws cs sl := by
  subst h
  intro l D cyI cyZ p e s m args below meth c A H locs ls hX hY hA hl hP hD hS
  obtain ⟨hx, hb, hr, hml, hown, hlk, hK⟩ := id hX
  rw [an_app] at hP hD
  exact kk l D cyI cyZ p e s m args below meth c A H locs ls hX hY hA hl (by rw [an_app]; exact va_P.app (an_PR hP) (an_PL hP)) (by rw [an_app]; exact va_D.app (an_DR hD) (an_DL hD) (fun i j x y hx hy hxy => an_sep hD hy hx hxy.symm)) hS
theorem an_widen {cs' sl' : Nat} (h1 : cs ≤ cs') (h2 : sl ≤ sl') (kk : an_W Y rm QF Hy pc L st ws cs' sl') : an_W Y rm QF Hy pc L st ws cs sl := by
  intro l D cyI cyZ p e s m args below meth c A H locs ls hX hY hA hl hP hD hS
  obtain ⟨hx, hb, hr, hml, hown, hlk, hK⟩ := id hX
  exact W.widen h1 h2 (kk l D cyI cyZ p e s m args below meth c A H locs ls hX hY hA hl hP hD hS)
theorem an_iast (q0 : Nat) {a n : Nat} {f : Nat → Int32} {i v : Int32} (he : ws[q0]? = some (a, .inr (.inl (false, n, f)))) (hin : vp_in i n) (hdg : decode Y.2.1 pc = .ok (.iastore, 1)) {ws' : List (Nat × an_E)} (hws : ws.set q0 (a, .inr (.inl (false, n, upd f i.toNatClampNeg v))) = ws') (kk : an_W Y rm QF Hy (pc + 1) L st ws' cs sl) : an_W Y rm QF Hy pc L (.int v :: .int i :: .ref a :: st) ws cs sl := by
  intro l D cyI cyZ p e s m args below meth c A H locs ls hX hY hA hl hP hD hS
  obtain ⟨hx, hb, hr, hml, hown, hlk, hK⟩ := id hX
  refine va_iast hx hb hK.1 hP hD hS q0 0 (an_get he) rfl hin hdg (fun H1 locs1 hP1 hD1 hS1 => ?_)
  have ew := an_set (cyI := cyI) (cyZ := cyZ) (ws := ws) (i := q0) (a := a) (x := .inr (.inl (false, n, upd f i.toNatClampNeg v)))
  rw [hws] at ew
  change va_P D vwCl ((an_w cyI cyZ ws).set q0 (a, an_c cyI cyZ (.inr (.inl (false, n, upd f i.toNatClampNeg v))))) H1 at hP1
  change va_D A ((an_w cyI cyZ ws).set q0 (a, an_c cyI cyZ (.inr (.inl (false, n, upd f i.toNatClampNeg v))))) at hD1
  rw [ew] at hP1 hD1
  exact kk l D cyI cyZ p e s m args below meth c A H1 locs1 ls hX hY hA hl hP1 hD1 hS1
end ANC

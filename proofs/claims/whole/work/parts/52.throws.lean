/-! throws, and the law's two methods that catch them -/
abbrev ax_N : String := "java/util/NoSuchElementException"
theorem ax_good : (vx_at0 "RampDriver" 162 ax_N ["java/lang/RuntimeException", "java/lang/Exception"]).filter goodWord = ([11, 599, 608, 610, 613, 615, 600, 601, 21, 22, 602, 607, 611, 627, 589, 628, 591, 629, 593, 603, 605, 595, 617, 618, 619, 620, 620, 621, 622, 623, 623, 624, 625, 600, 616, 578, 586, 587, 588, 590, 592, 594, 598, 597, 596] : List Nat).filterMap (fun i => tables_1[i]?) := by decide +kernel
def ax_B : List Cond := [.declares ⟨"java/lang/RuntimeException", "<init>", "()V"⟩, .declares ⟨"java/lang/Exception", "<init>", "()V"⟩, .declares ⟨"java/lang/Throwable", "<init>", "()V"⟩, .castable ax_N ax_N]
theorem ax_bad : ∀ w ∈ (vx_at0 "RampDriver" 162 ax_N ["java/lang/RuntimeException", "java/lang/Exception"]).filter (fun w => !goodWord w), w ∈ ax_B := by decide +kernel
theorem ax_ot : ∀ w ∈ Cond.classLink "RampDriver" 160 ax_N :: Cond.initialized ax_N :: vx_at0 "RampDriver" 162 ax_N ["java/lang/RuntimeException", "java/lang/Exception"], vx_ot w = true := by decide +kernel
theorem ax_cl : Cond.classLink "RampDriver" 160 ax_N ∈ lw_tbl := List.mem_append_right _ (List.mem_of_getElem? (i := 577) (by decide +kernel))
theorem ax_clL : Cond.classLink "RampDriverLaw" 13 ax_N ∈ lw_tbl := List.mem_append_right _ (List.mem_of_getElem? (i := 572) (by decide +kernel))
theorem ax_in : Cond.initialized ax_N ∈ lw_tbl := List.mem_append_right _ (List.mem_of_getElem? (i := 14) (by decide +kernel))
def ax_K (U : State) : Prop := ∀ w ∈ ax_B, va_Nw w U
theorem ax_K.warm {s U : State} (hW : s.WarmedH U.vm) (h : ax_K s) : ax_K U := by
  intro w hw
  have h1 := h w hw
  simp only [ax_B, List.mem_cons, List.not_mem_nil, or_false] at hw
  rcases hw with rfl | rfl | rfl | rfl
  · exact va_Nw.warmD hW h1
  · exact va_Nw.warmD hW h1
  · exact va_Nw.warmD hW h1
  · exact va_Nw.warmC hW h1
theorem ax_on : ∀ w ∈ ax_B, w.onTables = true := by
  intro w hw
  simp only [ax_B, List.mem_cons, List.not_mem_nil, or_false] at hw
  rcases hw with rfl | rfl | rfl | rfl <;> rfl
theorem ax_K.same {u U : State} (h : u.vm = U.vm) (hK : ax_K u) : ax_K U := fun w hw => va_Nw.same (ax_on w hw) h (hK w hw)
def ax_X (A : Nat → Prop) (U : State) (H : Heap) : Prop := ax_K U ∧ vx_Zq Bundle.tN "UNASSIGNED_STACK" Bundle.steD A U H ∧ vx_Zq Bundle.tN "SUPPRESSED_SENTINEL" Bundle.listD A U H
theorem ax_X.moved {A : Nat → Prop} {s U : State} {H : Heap} (hW : s.WarmedH U.vm) (h : ax_X A s H) : ax_X A U H := ⟨h.1.warm hW, vx_Zq.moved hW.alike h.2.1, vx_Zq.moved hW.alike h.2.2⟩
theorem ax_X.kept {A B : Nat → Prop} {U : State} {H H1 : Heap} (h : ax_X A U H) (hq : ∀ a : Nat, a < H.size → ¬ A a → H1[a]? = H[a]?) (hAB : ∀ q, B q → A q) : ax_X B U H1 := ⟨h.1, (h.2.1.kept hq).narrow hAB, (h.2.2.kept hq).narrow hAB⟩
theorem ax_words {D : va_G} {cyI cyZ : ClassId} {s : State} (hK : am_K D cyI cyZ s) (hB : ax_K s) (args : Array Value) : ∀ w ∈ vx_at0 "RampDriver" 162 ax_N ["java/lang/RuntimeException", "java/lang/Exception"], w.before args s = true := by
  refine vx_hat (B := ax_B) (fun w hw => ?_) ax_bad (fun w hw => va_Nw.use (ax_on w hw) (hB w hw))
  have hg : goodWord w = true := (List.mem_filter.mp hw).2
  rw [ax_good] at hw
  obtain ⟨i, -, hi⟩ := List.mem_filterMap.mp hw
  have hm : w ∈ lw_tbl := List.mem_append_right _ (List.mem_of_getElem? hi)
  have h1 := hK.2.1 w hm hg
  exact word_at (State.WarmedH.refl s) (good_of_word hg) h1
section AXR
variable {Y : am_Y} {rm : Jvm.Room} {QF : an_QF} {Hy : an_HY} {pc : Nat} {L : List (Option Value)} {st : List Value} {ws : List (Nat × an_E)} {cs sl : Nat}
theorem an_aload_nN {i : Fin 4} (hi : L[(i : Nat)]? = some (some .null)) (hdg : decode Y.2.1 pc = .ok (.aload_n i, 1)) (k : an_W Y rm QF Hy (pc + 1) L (.null :: st) ws cs sl) : an_W Y rm QF Hy pc L (st) ws cs sl := by
  intro l D cyI cyZ p e s m args below meth c A H locs ls hX hY hA hl hP hD hS
  obtain ⟨hx, hb, hr, hml, hown, hlk, hK⟩ := id hX
  exact lv_aload_nN hx hb hdg rfl (hl.at hi) (k l D cyI cyZ p e s m args below meth c A H locs ls hX hY hA hl hP hD hS)
theorem an_astore_nN {i : Fin 4} (hn : (i : Nat) < Y.2.2.1) (hdg : decode Y.2.1 pc = .ok (.astore_n i, 1)) (k : an_W Y rm QF Hy (pc + 1) (L.set i (some (.null))) st ws cs sl) : an_W Y rm QF Hy pc L (.null :: st) ws cs sl := by
  intro l D cyI cyZ p e s m args below meth c A H locs ls hX hY hA hl hP hD hS
  obtain ⟨hx, hb, hr, hml, hown, hlk, hK⟩ := id hX
  exact lv_astore_nN hx hb hdg rfl hl.has hn rfl (fun ls' h' => k l D cyI cyZ p e s m args below meth c A H locs ls' hX hY hA (hl.set rfl h') hP hD hS)
theorem an_ifnonnullN {off : Int} (hdg : decode Y.2.1 pc = .ok (.ifnonnull off, 3)) (k : an_W Y rm QF Hy (pc + 3) L st ws cs sl) : an_W Y rm QF Hy pc L (.null :: st) ws cs sl := by
  intro l D cyI cyZ p e s m args below meth c A H locs ls hX hY hA hl hP hD hS
  obtain ⟨hx, hb, hr, hml, hown, hlk, hK⟩ := id hX
  exact lv_ifnonnullN hx hb hdg (k l D cyI cyZ p e s m args below meth c A H locs ls hX hY hA hl hP hD hS)
theorem an_i2l {x : Int32} (hdg : decode Y.2.1 pc = .ok (.i2l, 1)) (k : an_W Y rm QF Hy (pc + 1) L (.long x.toInt64 :: st) ws cs sl) : an_W Y rm QF Hy pc L (.int x :: st) ws cs sl := by
  intro l D cyI cyZ p e s m args below meth c A H locs ls hX hY hA hl hP hD hS
  obtain ⟨hx, hb, hr, hml, hown, hlk, hK⟩ := id hX
  exact lv_i2l hx hb hdg rfl (k l D cyI cyZ p e s m args below meth c A H locs ls hX hY hA hl hP hD hS)
theorem an_lcmp {x y : Int64} (hdg : decode Y.2.1 pc = .ok (.lcmp, 1)) (k : an_W Y rm QF Hy (pc + 1) L (.int (lg_cmp x y) :: st) ws cs sl) : an_W Y rm QF Hy pc L (.long y :: .long x :: st) ws cs sl := by
  intro l D cyI cyZ p e s m args below meth c A H locs ls hX hY hA hl hP hD hS
  obtain ⟨hx, hb, hr, hml, hown, hlk, hK⟩ := id hX
  exact W.lcmp hx hb hdg (k l D cyI cyZ p e s m args below meth c A H locs ls hX hY hA hl hP hD hS)
def an_LA (cL : ClassId) (s : State) : Prop := ArrOfT s cL .long ∧ va_RA s cL .long
theorem an_LA.moved {cL : ClassId} {u U : State} (h : u.vm.Alike U.vm) (hL : an_LA cL u) : an_LA cL U := ⟨arrOfT_moved h hL.1, hL.2.moved h⟩
theorem an_newL {n : Int32} {n' : Nat} (harr : Cond.arrayClass .long ∈ lw_tbl) (hn : ¬ n < 0) (hN : n.toNatClampNeg = n') (hbytes : n' * componentBytes .long ≤ 536870912) (hcells : cs + 1 ≤ rm.cells) (hslots : sl + n' ≤ rm.slots) (hdg : decode Y.2.1 pc = .ok (.newarray .long, 2)) {cs' sl' : Nat} (e1 : cs + 1 = cs') (e2 : sl + n' = sl') (kk : ∀ q cL, an_W Y rm QF (fun l meth c s args A => Hy l meth c s args A ∧ an_LA cL s) (pc + 2) L (.ref q :: st) (ws ++ [(q, .inr (.inr (cL, n', fun _ => 0)))]) cs' sl') : an_W Y rm QF Hy pc L (.int n :: st) ws cs sl := by
  intro l D cyI cyZ p e s m args below meth c A H locs ls hX hY hA hl hP hD hS
  obtain ⟨hx, hb, hr, hml, hown, hlk, hK⟩ := id hX
  subst e1 e2
  refine va_newa (atype := .long) (ty := .long) (a0 := (n', .inr (.inl (fun _ => 0)))) hx hb (word_at (State.WarmedH.refl s) (good_of_word rfl) (hK.2.1 _ harr rfl)) rfl hK.1 hP hD hS hA (fun cA => rfl) hn hN hbytes hcells hslots hdg (fun q cA H1 hK1 hP1 hD1 hS1 => ?_)
  have ew : an_w cyI cyZ ws ++ [(q, .inl (cA, n', .inr (.inl (fun _ => 0))))] = an_w cyI cyZ (ws ++ [(q, .inr (.inr (cA, n', fun _ => 0)))]) := by rw [an_app]; rfl
  rw [ew] at hP1 hD1
  exact kk q cA l D cyI cyZ p e s m args below meth c A H1 locs ls hX ⟨hY, hK1.2 2 (cA, .long) rfl⟩ hA hl hP1 hD1 hS1
theorem an_last (q0 : Nat) {a n : Nat} {cL : ClassId} {f : Nat → Int64} {i : Int32} {v : Int64} (hHy : ∀ l meth c s args A, Hy l meth c s args A → an_LA cL s) (he : ws[q0]? = some (a, .inr (.inr (cL, n, f)))) (hin : vp_in i n) (hdg : decode Y.2.1 pc = .ok (.lastore, 1)) {ws' : List (Nat × an_E)} (hws : ws.set q0 (a, .inr (.inr (cL, n, vp_updL f i.toNatClampNeg v))) = ws') (kk : an_W Y rm QF Hy (pc + 1) L st ws' cs sl) : an_W Y rm QF Hy pc L (.long v :: .int i :: .ref a :: st) ws cs sl := by
  intro l D cyI cyZ p e s m args below meth c A H locs ls hX hY hA hl hP hD hS
  obtain ⟨hx, hb, hr, hml, hown, hlk, hK⟩ := id hX
  have hLA := hHy _ _ _ _ _ _ hY
  have hK1 : va_K D vwCl [(cL, .long)] s := ⟨hK.1.1, fun k q hk => by
    have hz : k < 1 := (List.getElem?_eq_some_iff.mp hk).1
    rw [show k = 0 by omega] at hk
    cases hk
    exact hLA⟩
  refine va_last hx hb hK1 hP hD hS q0 0 (an_get he) rfl hin hdg (fun H1 locs1 hP1 hD1 hS1 => ?_)
  have ew := an_set (cyI := cyI) (cyZ := cyZ) (ws := ws) (i := q0) (a := a) (x := .inr (.inr (cL, n, vp_updL f i.toNatClampNeg v)))
  rw [hws] at ew
  change va_P D vwCl ((an_w cyI cyZ ws).set q0 (a, an_c cyI cyZ (.inr (.inr (cL, n, vp_updL f i.toNatClampNeg v))))) H1 at hP1
  change va_D A ((an_w cyI cyZ ws).set q0 (a, an_c cyI cyZ (.inr (.inr (cL, n, vp_updL f i.toNatClampNeg v))))) at hD1
  rw [ew] at hP1 hD1
  exact kk l D cyI cyZ p e s m args below meth c A H1 locs1 ls hX hY hA hl hP1 hD1 hS1
theorem an_lald (q0 : Nat) {a n : Nat} {cL : ClassId} {f : Nat → Int64} {i : Int32} (hHy : ∀ l meth c s args A, Hy l meth c s args A → an_LA cL s) (he : ws[q0]? = some (a, .inr (.inr (cL, n, f)))) (hin : vp_in i n) (hdg : decode Y.2.1 pc = .ok (.laload, 1)) (kk : an_W Y rm QF Hy (pc + 1) L (.long (f i.toNatClampNeg) :: st) ws cs sl) : an_W Y rm QF Hy pc L (.int i :: .ref a :: st) ws cs sl := by
  intro l D cyI cyZ p e s m args below meth c A H locs ls hX hY hA hl hP hD hS
  obtain ⟨hx, hb, hr, hml, hown, hlk, hK⟩ := id hX
  have hLA := hHy _ _ _ _ _ _ hY
  have hK1 : va_K D vwCl [(cL, .long)] s := ⟨hK.1.1, fun k q hk => by
    have hz : k < 1 := (List.getElem?_eq_some_iff.mp hk).1
    rw [show k = 0 by omega] at hk
    cases hk
    exact hLA⟩
  exact va_lald hx hb hK1 hP q0 0 (an_get he) rfl hin hdg (kk l D cyI cyZ p e s m args below meth c A H locs ls hX hY hA hl hP hD hS)
theorem an_sld {b Ln : Nat} {xs : Nat → Int32} {i : Int32} (hHy : ∀ l meth c s args A, Hy l meth c s args A → va_X b Ln xs s s.heap ∧ b < s.heap.size ∧ ¬ A b) (hin : vp_in i Ln) (hdg : decode Y.2.1 pc = .ok (.iaload, 1)) (kk : an_W Y rm QF Hy (pc + 1) L (.int (xs i.toNatClampNeg) :: st) ws cs sl) : an_W Y rm QF Hy pc L (.int i :: .ref b :: st) ws cs sl := by
  intro l D cyI cyZ p e s m args below meth c A H locs ls hX hY hA hl hP hD hS
  obtain ⟨hx, hb, hr, hml, hown, hlk, hK⟩ := id hX
  obtain ⟨h1, h2, h3⟩ := hHy _ _ _ _ _ _ hY
  exact va_sld hx hb h1 h2 h3 hS hin hdg (kk l D cyI cyZ p e s m args below meth c A H locs ls hX hY hA hl hP hD hS)
theorem an_slen {b Ln : Nat} {xs : Nat → Int32} (hHy : ∀ l meth c s args A, Hy l meth c s args A → va_X b Ln xs s s.heap ∧ b < s.heap.size ∧ ¬ A b) (hdg : decode Y.2.1 pc = .ok (.arraylength, 1)) (kk : an_W Y rm QF Hy (pc + 1) L (.int (Int32.ofNat Ln) :: st) ws cs sl) : an_W Y rm QF Hy pc L (.ref b :: st) ws cs sl := by
  intro l D cyI cyZ p e s m args below meth c A H locs ls hX hY hA hl hP hD hS
  obtain ⟨hx, hb, hr, hml, hown, hlk, hK⟩ := id hX
  obtain ⟨h1, h2, h3⟩ := hHy _ _ _ _ _ _ hY
  exact va_slen hx hb h1 h2 h3 hS hdg (kk l D cyI cyZ p e s m args below meth c A H locs ls hX hY hA hl hP hD hS)
/-- a method of the class that throws: what it owes, what it starts with -/
def ax_BX (D : va_G) (cyI cyZ : ClassId) (w1 : List (Nat × an_E)) (A : Nat → Prop) : String → Unit → State → Prop := fun E _ t => E = ax_N ∧ va_P D vwCl (an_w cyI cyZ w1) t.heap ∧ va_D A (an_w cyI cyZ w1)
abbrev ax_XC (D : va_G) (cyI cyZ : ClassId) (w1 : List (Nat × an_E)) (A : Nat → Prop) : String → State → State → Prop := vx_X (fun _ => True) (ax_BX D cyI cyZ w1 A) A
abbrev ax_Qc (A : Nat → Prop) : Array Value → State → Outcome → State → Prop := va_Qi (fun _ (_ : Unit) => False) (fun _ _ => True) A
abbrev ax_QF (w1 : List (Nat × an_E)) : an_QF := fun D cyI cyZ below args s A => vx_MQ below (ax_Qc A) (ax_XC D cyI cyZ w1 A) args s 1 6 A
abbrev ax_H : an_HY := fun l _ c s _ A => l.stackTraces = false ∧ (∀ x ∈ c.exceptionTable.toList, False) ∧ ax_X A s s.heap
theorem an_throw (hcls : Y.1.cls = "RampDriver") (d0 : decode Y.2.1 pc = .ok (.new 160, 3)) (d3 : decode Y.2.1 (pc + 3) = .ok (.dup, 1)) (d4 : decode Y.2.1 (pc + 4) = .ok (.invokespecial 162, 3)) (d7 : decode Y.2.1 (pc + 7) = .ok (.athrow, 1)) (hf : 6 ≤ rm.frames ∧ (st.map fun v => v.category).sum + 81 ≤ rm.locals ∧ 1 ≤ rm.cells ∧ 6 ≤ rm.slots) : an_W Y rm (ax_QF ws) ax_H pc L st ws 0 0 := by
  intro l D cyI cyZ p e s m args below meth c A H locs ls hX hY hA hl hP hD hS
  obtain ⟨hx, hb, hr, hml, hown, hlk, hK⟩ := id hX
  obtain ⟨hls, htab, hXX⟩ := hY
  rw [hcls] at hown
  refine vx_throw0 (own := "RampDriver") (cls := ax_N) (names := ["java/lang/RuntimeException", "java/lang/Exception"]) (ik := 160) (ic := 162) (A := A) hx hb hls hown (by decide +kernel) (by decide +kernel) (am_word hK ax_cl rfl rfl args) (am_word hK ax_in rfl rfl args) (ax_words hK hXX.1 args) ax_ot hXX.2.1 hXX.2.2 hS (hl.1.trans hml.symm) d0 d3 d4 d7 (fun x hx => absurd hx (fun h => htab x h)) (by have := hf.1; show 2 + 3 < _; omega) (by have := hf.2.1; show _ + (13 * (2 + 1) + 42) ≤ _; omega) (by have := hf.2.2.1; omega) (by have := hf.2.2.2; omega) hlk (fun t ht h1 h2 => ?_) hS.2.2 (by omega) (by omega)
  refine ⟨(), trivial, ⟨rfl, hP.kept (fun k q hk => h2 q.1 ((hP k q hk).lt)), hD⟩, ⟨Nat.le_trans hS.1 h1, fun q hq hA2 => ?_⟩⟩
  rw [h2 q (Nat.lt_of_lt_of_le hq hS.1)]
  exact hS.2.1 q hq hA2
/-- the contract of a method of the class that throws -/
def ax_C (Y' : am_Y) (rm : Jvm.Room) (As : List Value) (ws : List (Nat × an_E)) : Prop :=
  ∀ (l : Launch) (D : va_G) (cyI cyZ : ClassId) (sz : Nat), l.stackTraces = false → vx_Met l Y'.1 [.code Y'.1 Y'.2.1 Y'.2.2.1 Y'.2.2.2.1] rm
    (va_Pc As (fun U => (U.heap.size = sz ∧ va_P D vwCl (an_w cyI cyZ ws) U.heap ∧ am_K D cyI cyZ U ∧ va_D (fun _ => True) (an_w cyI cyZ ws)) ∧ ax_X (va_A (an_w cyI cyZ ws) sz) U U.heap))
    (ax_Qc (va_A (an_w cyI cyZ ws) sz)) (ax_XC D cyI cyZ ws (va_A (an_w cyI cyZ ws) sz)) 1 6 (va_A (an_w cyI cyZ ws) sz)
theorem ax_ofW {Y' : am_Y} {As : List Value} {L' : List (Option Value)} (hp : plainName Y'.1.cls = true) (hc : ∀ v ∈ As, v.category = 1) (hn : As.length ≤ Y'.2.2.1)
    (hL : As.map some ++ List.replicate (Y'.2.2.1 - As.length) none = L') (k : an_W Y' rm (ax_QF ws) ax_H 0 L' [] ws 0 0) : ax_C Y' rm As ws := by
  intro l D cyI cyZ sz hls
  refine vx_ofW (cc := Y'.2.1) (maxL := Y'.2.2.1) (ret := Y'.2.2.2.1) hp rfl ?_
  intro p e s m args below meth c s₁ B hml ht hv
  obtain ⟨rfl, ⟨hsz, hP, hK, hD0⟩, hXX⟩ := hv
  subst hsz
  have hD := hD0.self (sz := s.heap.size)
  obtain ⟨ha1, ha2⟩ := am_args As hc
  have hl := lv_entry As (n := Y'.2.2.1) (by rw [ha1]; exact hn)
  rw [lg_entry_eq]
  refine k l D cyI cyZ p e s m _ below meth c _ s.heap [] _ ⟨B.exec, B.bytes, B.returns, hml, findClass_of_methodNamed B.named, B.notSynchronized, hK⟩ ⟨hls, ht, hXX⟩ (fun q h => Or.inr h) ⟨hl.1, hl.2.1, ?_⟩ hP hD va_S.rf
  intro i v hi
  rw [← hL] at hi
  have hi2 : As[i]? = some v := by
    by_cases h : i < As.length
    · rw [List.getElem?_append_left (by simpa using h)] at hi
      simpa using hi
    · rw [List.getElem?_append_right (by simpa using Nat.le_of_not_lt h)] at hi
      rw [List.getElem?_replicate] at hi
      split at hi <;> cases hi
  have h0 := ha2 0 i v hi2
  rw [Nat.zero_add] at h0
  exact ⟨hl.2.2 _ h0, hc v (List.mem_of_getElem? hi2)⟩
theorem an_blindX {As : List Value} {sz : Nat} {D : va_G} {cyI cyZ : ClassId} {w : va_W} {A : Nat → Prop} : FrameBlind (va_Pc As (fun U => (U.heap.size = sz ∧ va_P D vwCl w U.heap ∧ am_K D cyI cyZ U ∧ va_D (fun _ => True) w) ∧ ax_X A U U.heap)) := by
  intro a U g mk q
  obtain ⟨q0, q1, qX⟩ := q
  have h1 := an_blind (As := As) a U g mk ⟨q0, q1⟩
  exact ⟨h1.1, h1.2, ax_K.same (u := U) (U := U.calling g mk a) rfl qX.1, vx_Zq.moved (u := U) (U := U.calling g mk a) (Vm.Alike.refl U.vm) qX.2.1, vx_Zq.moved (u := U) (U := U.calling g mk a) (Vm.Alike.refl U.vm) qX.2.2⟩
/-- the contract of one of the law's methods that catch -/
abbrev ah_G (G : Option Value → List (Nat × an_E) → Prop) (mc ms : Nat) : an_QF := fun D cyI cyZ below args s A => MQ below (fun _ st o t => an_QG D cyI cyZ G A st o t) args s mc ms A
def ah_C (Y' : am_Y) (hh : List (Nat × Nat × Nat × Nat)) (mc ms : Nat) (cL : ClassId) (As : List Value) (ws : List (Nat × an_E)) (G : Option Value → List (Nat × an_E) → Prop) : Prop :=
  ∀ (l : Launch) (D : va_G) (cyI cyZ : ClassId) (sz : Nat), l.stackTraces = false → Met l Y'.1 [.codeWith Y'.1 Y'.2.1 Y'.2.2.1 Y'.2.2.2.1 hh] (an_rm Y' mc ms)
    (va_Pc As (fun U => ((U.heap.size = sz ∧ va_P D vwCl (an_w cyI cyZ ws) U.heap ∧ am_K D cyI cyZ U ∧ va_D (fun _ => True) (an_w cyI cyZ ws)) ∧ ax_X (va_A (an_w cyI cyZ ws) sz) U U.heap) ∧ an_LA cL U))
    (fun _ st o t => an_QG D cyI cyZ G (va_A (an_w cyI cyZ ws) sz) st o t) mc ms (va_A (an_w cyI cyZ ws) sz)
abbrev ah_H (hh : List (Nat × Nat × Nat × Nat)) (cL : ClassId) : an_HY := fun l _ c s _ A => l.stackTraces = false ∧ c.exceptionTable.toList = tableOf hh ∧ ax_X A s s.heap ∧ an_LA cL s
theorem an_hret {G : Option Value → List (Nat × an_E) → Prop} {mc ms : Nat} {v : Int32} (hret : Y.2.2.2.1 = some .int) (hdg : decode Y.2.1 pc = .ok (.ireturn, 1)) (hp : G (some (.int v)) ws) : an_W Y rm (ah_G G mc ms) Hy pc L [.int v] ws mc ms := by
  intro l D cyI cyZ p e s m args below meth c A H locs ls hX hY hA hl hP hD hS
  obtain ⟨hx, hb, hr, hml, hown, hlk, hK⟩ := id hX
  exact W.iret hx hb (hr.trans hret) (fun t ht hW => ⟨⟨_, ws, rfl, hp, by rw [ht]; exact hP, hD⟩, hS.F ht⟩) hS.2.2 hdg hlk
theorem ah_ofW {Y' : am_Y} {hh : List (Nat × Nat × Nat × Nat)} {mc ms : Nat} {cL : ClassId} {G : Option Value → List (Nat × an_E) → Prop} {As : List Value} {L' : List (Option Value)} (hp : plainName Y'.1.cls = true) (hc : ∀ v ∈ As, v.category = 1) (hn : As.length ≤ Y'.2.2.1)
    (hL : As.map some ++ List.replicate (Y'.2.2.1 - As.length) none = L') (k : an_W Y' (an_rm Y' mc ms) (ah_G G mc ms) (ah_H hh cL) 0 L' [] ws 0 0) : ah_C Y' hh mc ms cL As ws G := by
  intro l D cyI cyZ sz hls
  refine MetFree.of_bodyS (code := Y'.2.1) (maxLocals := Y'.2.2.1) (ret := Y'.2.2.2.1) hp ?_ ?_
  · intro args s m h hn9
    obtain ⟨m9, meth, c, hn9', h1, h2, h3, h4, -, h5, h6, -⟩ := Cond.codeWith_spec (atoms_spec (ws := [Cond.codeWith Y'.1 Y'.2.1 Y'.2.2.1 Y'.2.2.2.1 hh]) h _ List.mem_cons_self)
    cases hn9.symm.trans hn9'
    exact ⟨meth, c, h1, h2, h3, h4, h5, h6⟩
  · intro p e s m args below meth c s₁ B hml hv _
    have hh0 : s₁.heap = s.heap := by rw [B.state]; rfl
    have htab : c.exceptionTable.toList = tableOf hh := vx_table (x := Y'.1) B (atoms_spec (ws := [Cond.codeWith Y'.1 Y'.2.1 Y'.2.2.1 Y'.2.2.2.1 hh]) B.pre _ List.mem_cons_self)
    obtain ⟨rfl, ⟨⟨hsz, hP, hK, hD0⟩, hXX⟩, hLA⟩ := hv
    subst hsz
    have hD := hD0.self (sz := s.heap.size)
    obtain ⟨ha1, ha2⟩ := am_args As hc
    have hl := lv_entry As (n := Y'.2.2.1) (by rw [ha1]; exact hn)
    have K : W p l e (an_rm Y' mc ms) s m As.toArray below meth c s.heap [] 0 0 (MQ below (fun _ st o t => an_QG D cyI cyZ G (va_A (an_w cyI cyZ ws) s.heap.size) st o t) As.toArray s mc ms (va_A (an_w cyI cyZ ws) s.heap.size)) (entryFrame m As.toArray Y'.2.2.1) := by
      rw [lg_entry_eq]
      refine k l D cyI cyZ p e s m _ below meth c _ s.heap [] _ ⟨B.exec, B.bytes, B.returns, hml, findClass_of_methodNamed B.named, B.notSynchronized, hK⟩ ⟨hls, htab, hXX, hLA⟩ (fun q h => Or.inr h) ⟨hl.1, hl.2.1, ?_⟩ hP hD va_S.rf
      intro i v hi
      rw [← hL] at hi
      have hi2 : As[i]? = some v := by
        by_cases h : i < As.length
        · rw [List.getElem?_append_left (by simpa using h)] at hi
          simpa using hi
        · rw [List.getElem?_append_right (by simpa using Nat.le_of_not_lt h)] at hi
          rw [List.getElem?_replicate] at hi
          split at hi <;> cases hi
      have h0 := ha2 0 i v hi2
      rw [Nat.zero_add] at h0
      exact ⟨hl.2.2 _ h0, hc v (List.mem_of_getElem? hi2)⟩
    obtain ⟨t, a1, o, b1, b2, b3⟩ := K s₁ hh0 (Stand.of_body B)
    exact ⟨t, o, a1, b1, b2, ⟨b3.1, b3.2⟩⟩
/-- a call that throws, caught here: on at the handler -/
theorem an_catch {Y' : am_Y} {rm' : Jvm.Room} {hh : List (Nat × Nat × Nat × Nat)} {cL : ClassId} {As rest : List Value} {index n b ci N i0 : Nat} {T : u_T} {fs : List Value} {wr wc : List (Nat × an_E)} {hpc : Nat} (hM : ax_C Y' rm' (.ref b :: As) wc) (hrm : rm'.cells = 1 ∧ rm'.slots = 6) (ok : am_okV Y' n) (hlink : Cond.methodLink Y.1.cls index Y'.1 ∈ lw_tbl) (he : wc[i0]? = some (b, .inl (ci, fs))) (hc : vwCl[ci]? = some (Y'.1.cls, T, N)) (hn : As.length = n) (hR : rm'.frames + 1 ≤ rm.frames ∧ 8 + (Y'.2.2.1 + 11) + rm'.locals ≤ rm.locals) (hf : cs + 1 ≤ rm.cells ∧ sl + 6 ≤ rm.slots) (hW8 : (rest.map fun v => v.category).sum ≤ 8) {st0 : List Value} (hst : st0 = As.reverse ++ .ref b :: rest) (hdg : decode Y.2.1 pc = .ok (.invokevirtual index, 3)) (hws : ws = wr ++ wc) {cs' sl' : Nat} (e1 : cs + 1 = cs') (e2 : sl + 6 = sl')
    (hown9 : Y.1.cls = "RampDriverLaw") (x : ExceptionTableEntry) (htab : tableOf hh = [x]) (hcov : covers x pc = true) (hcat : x.catchType = 13) (hhp : x.handlerPc = hpc)
    (kk : ∀ q, an_W Y rm QF (ah_H hh cL) hpc L [.ref q] ws cs' sl') : an_W Y rm QF (ah_H hh cL) pc L st0 ws cs sl := by
  subst hws hst e1 e2 hhp
  intro l D cyI cyZ p e s m args below meth c A H locs ls hX hY hA hl hP hD hS
  obtain ⟨hx, hb, hr, hml, hown, hlk, hK⟩ := id hX
  obtain ⟨hls, htb, hXX, hLA⟩ := id hY
  obtain ⟨⟨ok1, ok2⟩, ok3, ok4, ok5, ok6, ok7⟩ := ok
  have hP' := hP
  have hD' := hD
  rw [an_app] at hP' hD'
  have hPc : va_P D vwCl (an_w cyI cyZ wc) H := an_PR hP'
  have hDc : va_D A (an_w cyI cyZ wc) := an_DR hD'
  have hF := an_free hD' hS hA
  refine vx_calli (S := Unit) (SX := Unit) (A1 := va_A (an_w cyI cyZ wc) H.size) (AX := va_A (an_w cyI cyZ wc) H.size) (free := va_A (an_w cyI cyZ wc) H.size) (mc := 1) (ms := 6) (rest := rest)
    (vx_runV (As := As) (rest := rest) (Ts := []) ⟨hx, hb, hml, hown, fun w h => absurd h List.not_mem_nil⟩ (hM l D cyI cyZ H.size hls) ⟨⟨hrm.1, hrm.2, hR.1, hR.2, am_pay hK ok4, List.mem_cons_self, am_word hK ok4 rfl rfl _, am_word hK ok3 rfl rfl _, ⟨ok5, ok6⟩, am_lens ok7, am_word hK hlink rfl rfl _⟩, am_word hK ok2 rfl rfl _, am_word hK ok1 rfl rfl _⟩
      ⟨an_blindX, va_recv hK.1 hPc hc (an_get he), (fun U hU hW => ⟨rfl, ⟨by rw [hU], by rw [hU]; exact hPc, hK.moved hW, hDc.weaken (fun _ _ _ _ => trivial)⟩, by rw [hU]; exact (hXX.kept hS.2.1 hF).moved hW⟩)⟩ rfl hn hl.1 rfl (lv_room hW8) hdg hf)
    hS (fun q _ h => hF q h) hF (fun q _ h => hF q h) (fun E ce q9 u t H1 locs1 ht hvm hpx hB hz hk hS1 hce hcv hcl => ?_) (fun r u t H1 locs1 ht hvm hpost hB hz hk hS1 => hpost.elim)
  obtain ⟨rfl, hP1, hD1⟩ := hB
  rw [ht] at hP1
  obtain ⟨hP2, hD2⟩ := an_join hP' hD' hk hF hP1 hD1
  rw [← an_app] at hP2 hD2
  have hcast : (Cond.castable ax_N ax_N).before args s = true := va_Nw.use rfl (hXX.1 _ (by simp [ax_B]))
  rw [hown9] at hown
  refine vx_catch (own := "RampDriverLaw") (name := ax_N) (E := ax_N) (ce := ce) hown [] x [] (by rw [htb, htab]; rfl) (fun z hz => absurd hz List.not_mem_nil) hcov (by rw [hcat]; decide) (by rw [hcat]; exact am_word hK ax_clL rfl rfl args) hcast hce hcv hcl ?_
  exact kk q9 l D cyI cyZ p e s m args below meth c A H1 locs1 ls hX hY hA hl hP2 hD2 hS1
def ah_ok (Y' : am_Y) (hh : List (Nat × Nat × Nat × Nat)) (n : Nat) : Prop := Cond.static Y'.1 ∈ lw_tbl ∧ Cond.initialized Y'.1.cls ∈ lw_tbl ∧ Cond.codeWith Y'.1 Y'.2.1 Y'.2.2.1 Y'.2.2.2.1 hh ∈ lw_tbl ∧ (Y'.1.cls ≠ "java/lang/invoke/MethodHandle" ∧ Y'.1.cls ≠ "java/lang/invoke/VarHandle" ∧ (parseMethodDescriptor Y'.1.desc).map (fun d => d.parameters.length) = some n)
theorem an_blindH {As : List Value} {sz : Nat} {D : va_G} {cyI cyZ cL : ClassId} {w : va_W} {A : Nat → Prop} : FrameBlind (va_Pc As (fun U => ((U.heap.size = sz ∧ va_P D vwCl w U.heap ∧ am_K D cyI cyZ U ∧ va_D (fun _ => True) w) ∧ ax_X A U U.heap) ∧ an_LA cL U)) := by
  intro a U g mk q
  obtain ⟨q0, q1, qL⟩ := q
  have h1 := an_blindX (As := As) a U g mk ⟨q0, q1⟩
  exact ⟨h1.1, h1.2, an_LA.moved (u := U) (U := U.calling g mk a) (Vm.Alike.refl U.vm) qL⟩
theorem an_callSW {Y' : am_Y} {hh : List (Nat × Nat × Nat × Nat)} {mc ms n index : Nat} {cL : ClassId} {As rest : List Value} {wr wc : List (Nat × an_E)} {G : Option Value → List (Nat × an_E) → Prop} (hM : ah_C Y' hh mc ms cL As wc G) (ok : ah_ok Y' hh n) (hlink : Cond.methodLink Y.1.cls index Y'.1 ∈ lw_tbl) (hn : As.length = n) (hR : Y'.2.2.2.2.1 + 1 ≤ rm.frames ∧ 8 + (Y'.2.2.1 + 11) + Y'.2.2.2.2.2 ≤ rm.locals) (hf : cs + mc ≤ rm.cells ∧ sl + ms ≤ rm.slots) (hW8 : (rest.map fun v => v.category).sum ≤ 8) {st0 : List Value} (hst : st0 = As.reverse ++ rest) (hdg : decode Y.2.1 pc = .ok (.invokestatic index, 3)) (hws : ws = wr ++ wc) {cs' sl' : Nat} (e1 : cs + mc = cs') (e2 : sl + ms = sl') (hHy : ∀ l meth c s args A, Hy l meth c s args A → l.stackTraces = false ∧ ax_X A s s.heap ∧ an_LA cL s) (kk : ∀ r w1, G r w1 → an_W Y rm QF Hy (pc + 3) L (r.toList ++ rest) (wr ++ w1) cs' sl') : an_W Y rm QF Hy pc L st0 ws cs sl := by
  subst hws hst e1 e2
  intro l D cyI cyZ p e s m args below meth c A H locs ls hX hY hA hl hP hD hS
  obtain ⟨hx, hb, hr, hml, hown, hlk, hK⟩ := id hX
  obtain ⟨hls, hXX, hLA⟩ := hHy _ _ _ _ _ _ hY
  obtain ⟨ok1, ok3, ok4, ok5, ok6, ok7⟩ := ok
  have hP' := hP
  have hD' := hD
  rw [an_app] at hP' hD'
  have hPc : va_P D vwCl (an_w cyI cyZ wc) H := an_PR hP'
  have hDc : va_D A (an_w cyI cyZ wc) := an_DR hD'
  have hF := an_free hD' hS hA
  refine an_cont (wr := wr) (wc := wc) (rest := rest) (mc := mc) (ms := ms) (vx_runSW (hh := hh) (As := As) (rest := rest) (Ts := []) ⟨hx, hb, hml, hown, fun w h => absurd h List.not_mem_nil⟩ (hM l D cyI cyZ H.size hls) ⟨⟨rfl, rfl, hR.1, hR.2, (fun w hw a' U hW => by
      rw [List.mem_singleton] at hw
      subst hw
      exact word_at hW (Or.inl rfl) (hK.2.1 _ ok4 rfl)), List.mem_cons_self⟩, am_word hK ok4 rfl rfl _, am_word hK ok3 rfl rfl _, ⟨ok5, ok6⟩, am_lens ok7, am_word hK hlink rfl rfl _, am_word hK ok1 rfl rfl _⟩
      ⟨an_blindH, (fun U hU hW => ⟨rfl, ⟨⟨by rw [hU], by rw [hU]; exact hPc, hK.moved hW, hDc.weaken (fun _ _ _ _ => trivial)⟩, by rw [hU]; exact (hXX.kept hS.2.1 hF).moved hW⟩, hLA.moved hW.alike⟩)⟩ rfl hn hl.1 rfl (lv_room hW8) hdg hf) (fun _ _ _ h => h) hP hD hS hA (fun r w1 H1 locs1 hp hP1 hD1 hS1 => ?_)
  exact kk r w1 hp l D cyI cyZ p e s m args below meth c A H1 locs1 ls hX hY hA hl hP1 hD1 hS1
end AXR

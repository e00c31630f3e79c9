/-! THE CLAIM OUT OF ONE WALK OF THE LAW'S BODY. Your part is whole_start (and what it stands on); all else here is the same for every law, but numbers. -/
def R_law : String := "RampDriverLaw"
def lw_P (b : Addr) (xs : List Int32) (args : Array Value) (s : State) : Prop := args = #[.ref b] ∧ s.IntsAt b xs ∧ xs.length ≤ 2048 ∧ (Jvm.Cond.and given_1 narrow_1).before args s = true
def lw_Q (_ : Array Value) (s : State) (o : Outcome) (t : State) : Prop := o = .returned (some (.int 1)) ∧ Framed s o t [] 1064 105399
def lw_Z (below : List Frame) (a : Array Value) (s : State) : State → Prop := fun t => ∃ o, t.status = .running ∧ Ended t below o ∧ lw_Q a s o t
/-- the law's own end, with 1 on the stack, nothing written that was there before, its room as the claim has it -/
theorem lw_ret {p : Program} {l : Launch} {e : Env} {s : State} {m : MethodId} {below : List Frame} {meth : Method} {c : Code} {b : Nat} (hx : p.tables.exec = Jvm.exec) (hb : c.code = code) (hr : meth.sig.returnType = ret) (hlocks : meth.locks = false) {pc : Nat} {H : Heap} {ls : Array Slot} (hdg : decode code pc = .ok (.ireturn, 1)) : W p l e room_1 s m #[Value.ref b] below meth c H [] 1064 105399 (lw_Z below #[Value.ref b] s) (F0 m pc ls [.int 1]) := by
  intro T hT X
  obtain ⟨fs, hret, hrun, hended, hW, hframe⟩ := X.leave (v := some (.int 1)) (hlocks := hlocks) (fun h => by rw [hr] at h; cases h)
  have hmeth' : T.vm.method? m = some meth := X.method'
  refine ⟨T.setFrames fs, ?_, .returned (some (.int 1)), hrun, hended, rfl, ⟨_, rfl⟩, hW, hframe⟩
  jvm_step X.here [X.here.top, hx, hb, hdg, hmeth', hr, ret, narrow_b1]
  (try refine ⟨rfl, ?_⟩); (try refine ⟨rfl, ?_⟩)
  first | (intro acts; rw [hret _ acts rfl rfl rfl]) | rw [hret _ _ rfl rfl rfl]
  exact Steps.refl _
/-- what holds at the law's entry: the machine, the code, the tables' words (any of lw_tbl by 'hts w (by decide +kernel)'), the script of L ints xs at the cell b, what the Statement gives of the start (any of its parts by flat_of_before) -/
def lw_At (p : Program) (s : State) (m : MethodId) (meth : Method) (c : Code) (b L : Nat) (xs : Nat → Int32) : Prop :=
  p.tables.exec = Jvm.exec ∧ c.code = code ∧ meth.sig.returnType = ret ∧ c.maxLocals = 7 ∧ s.vm.findClass R_law = some m.cls ∧ (∀ w ∈ lw_tbl, w.before #[Value.ref b] s = true) ∧ va_X b L xs s s.heap ∧ b < s.heap.size ∧ meth.locks = false ∧ (Jvm.Cond.and given_1 narrow_1).before #[Value.ref b] s = true
/-! the law's machine at its entry -/
abbrev lwQ : an_QF := fun _ _ _ below args s _ => lw_Z below args s
abbrev lwH (b Ln : Nat) (xs : Nat → Int32) : an_HY := fun l _ _ s args A => l.stackTraces = false ∧ ax_X A s s.heap ∧ (va_X b Ln xs s s.heap ∧ b < s.heap.size ∧ ¬ A b) ∧ args = #[.ref b] ∧ A = (fun q : Nat => s.heap.size ≤ q)
abbrev lwH2 (b Ln : Nat) (xs : Nat → Int32) (cL : ClassId) : an_HY := fun l meth c s args A => lwH b Ln xs l meth c s args A ∧ an_LA cL s
theorem lw_arr {s : State} {args : Array Value} {ty : FieldType} (h : (Cond.arrayClass ty).before args s = true) : ∃ cA, ArrOfT s cA ty ∧ s.vm.findClass ("[" ++ ty.toString) = some cA := by
  obtain ⟨cA, kA, comp, h1, h2, h3⟩ := Cond.arrayClass_spec h
  exact ⟨cA, fun n z => ⟨fun k h => (by cases h), kA, h2, comp, h3⟩, h1⟩
theorem lw_mach {p : Program} {s : State} {m : MethodId} {meth : Method} {c : Code} {b Ln : Nat} {xs : Nat → Int32} (C0 : lw_At p s m meth c b Ln xs) : ∃ D cyI cyZ, am_CX ydL_law D cyI cyZ p s m meth c := by
  obtain ⟨hx, hb, hr, hml, hown, hts, hX, hbl, hlocks, hgv⟩ := id C0
  obtain ⟨c0, i0, h0⟩ := u_known (C := RX0) (T := TX0) (N := 6) (n := 6) hts (fun w h => (hTX0 w h).1) (hts _ in_X0)
  obtain ⟨c1, i1, h1⟩ := u_known (C := RX1) (T := TX1) (N := 3) (n := 3) hts (fun w h => (hTX1 w h).1) (hts _ in_X1)
  obtain ⟨c2, i2, h2⟩ := u_known (C := RX2) (T := TX2) (N := 10) (n := 10) hts (fun w h => (hTX2 w h).1) (hts _ in_X2)
  obtain ⟨c3, i3, h3⟩ := u_known (C := RX3) (T := TX3) (N := 5) (n := 5) hts (fun w h => (hTX3 w h).1) (hts _ in_X3)
  obtain ⟨c4, i4, h4⟩ := u_known (C := RX4) (T := TX4) (N := 9) (n := 9) hts (fun w h => (hTX4 w h).1) (hts _ in_X4)
  obtain ⟨c5, i5, h5⟩ := u_known (C := RX5) (T := TX5) (N := 6) (n := 6) hts (fun w h => (hTX5 w h).1) (hts _ in_X5)
  obtain ⟨c6, i6, h6⟩ := u_known (C := RX6) (T := TX6) (N := 9) (n := 9) hts (fun w h => (hTX6 w h).1) (hts _ in_X6)
  obtain ⟨c7, i7, h7⟩ := u_known (C := RX7) (T := TX7) (N := 36) (n := 36) hts (fun w h => (hTX7 w h).1) (hts _ in_X7)
  obtain ⟨cI, aI, nI'⟩ := lw_arr (hts _ ar_I)
  obtain ⟨cZ, aZ, nZ'⟩ := lw_arr (hts _ ar_Z)
  refine ⟨(fun k => match k with | 0 => c0 | 1 => c1 | 2 => c2 | 3 => c3 | 4 => c4 | 5 => c5 | 6 => c6 | _ => c7, fun k => match k with | 0 => i0 | 1 => i1 | 2 => i2 | 3 => i3 | 4 => i4 | 5 => i5 | 6 => i6 | _ => i7), cI, cZ, hx, hb, hr, hml, hown, hlocks, ⟨fun k q hk => ?_, fun k q hk => ?_⟩, fun w hw hg => word_at (State.WarmedH.refl s) (good_of_word hg) (hts w hw), fun w hw => ?_⟩
  · match k, hk with
    | 0, hk => cases hk; exact h0
    | 1, hk => cases hk; exact h1
    | 2, hk => cases hk; exact h2
    | 3, hk => cases hk; exact h3
    | 4, hk => cases hk; exact h4
    | 5, hk => cases hk; exact h5
    | 6, hk => cases hk; exact h6
    | 7, hk => cases hk; exact h7
    | k + 8, hk => simp [vwCl] at hk
  · match k, hk with
    | 0, hk => cases hk; exact ⟨aI, nI'⟩
    | 1, hk => cases hk; exact ⟨aZ, nZ'⟩
    | k + 2, hk => simp at hk
  · refine va_Nw.of (am_nst_on w hw) (hts w ?_)
    simp only [am_nst, List.mem_cons, List.not_mem_nil, or_false] at hw
    rcases hw with rfl | rfl | rfl | rfl | rfl | rfl | rfl | rfl | rfl | rfl
    · exact List.mem_append_right _ (List.mem_of_getElem? (i := 519) (by decide +kernel))
    · exact List.mem_append_right _ (List.mem_of_getElem? (i := 297) (by decide +kernel))
    · exact List.mem_append_right _ (List.mem_of_getElem? (i := 264) (by decide +kernel))
    · exact List.mem_append_right _ (List.mem_of_getElem? (i := 314) (by decide +kernel))
    · exact List.mem_append_right _ (List.mem_of_getElem? (i := 389) (by decide +kernel))
    · exact List.mem_append_right _ (List.mem_of_getElem? (i := 68) (by decide +kernel))
    · exact List.mem_append_right _ (List.mem_of_getElem? (i := 115) (by decide +kernel))
    · exact List.mem_append_right _ (List.mem_of_getElem? (i := 161) (by decide +kernel))
    · exact List.mem_append_right _ (List.mem_of_getElem? (i := 321) (by decide +kernel))
    · exact List.mem_append_right _ (List.mem_of_getElem? (i := 394) (by decide +kernel))
theorem lw_axX {p : Program} {s : State} {m : MethodId} {meth : Method} {c : Code} {b Ln : Nat} {xs : Nat → Int32} (C0 : lw_At p s m meth c b Ln xs) : ax_X (fun q : Nat => s.heap.size ≤ q) s s.heap := by
  obtain ⟨hx, hb, hr, hml, hown, hts, hX, hbl, hlocks, hgv⟩ := id C0
  have hs := flat_of_before _ hgv
  have hA : ∀ a : Nat, a < s.heap.size → ¬ (fun q : Nat => s.heap.size ≤ q) a := fun a h => Nat.not_le.mpr h
  have hi : (Cond.initialized Bundle.tN).before #[Value.ref b] s = true := hts _ (List.mem_append_right _ (List.mem_of_getElem? (i := 11) (by decide +kernel)))
  refine ⟨fun w hw => ?_, vx_Zqof (hts _ (List.mem_append_right _ (List.mem_of_getElem? (i := 604) (by decide +kernel)))) hi (hs _ (by decide +kernel)) hA, vx_Zqof (hts _ (List.mem_append_right _ (List.mem_of_getElem? (i := 606) (by decide +kernel)))) hi (hs _ (by decide +kernel)) hA⟩
  refine va_Nw.of (ax_on w hw) (hts w ?_)
  simp only [ax_B, List.mem_cons, List.not_mem_nil, or_false] at hw
  rcases hw with rfl | rfl | rfl | rfl
  · exact List.mem_append_right _ (List.mem_of_getElem? (i := 580) (by decide +kernel))
  · exact List.mem_append_right _ (List.mem_of_getElem? (i := 582) (by decide +kernel))
  · exact List.mem_append_right _ (List.mem_of_getElem? (i := 584) (by decide +kernel))
  · exact List.mem_append_right _ (List.mem_of_getElem? (i := 579) (by decide +kernel))
theorem lw_flags (l : Launch) (hflags : l.flags = flags0) : l.stackTraces = false := by
  unfold Launch.stackTraces
  rw [hflags]
  decide +kernel
/-- the law out of one walk in the growing world -/
theorem lw_ofW {p : Program} {e : Env} {s : State} {m : MethodId} {below : List Frame} {meth : Method} {c : Code} (l : Launch) (hflags : l.flags = flags0) {b L : Nat} {xs : Nat → Int32} (C0 : lw_At p s m meth c b L xs) (k : an_W ydL_law room_1 lwQ (lwH b L xs) 0 [some (.ref b), none, none, none, none, none, none] [] [] 0 0) : W p l e room_1 s m #[Value.ref b] below meth c s.heap [] 0 0 (lw_Z below #[Value.ref b] s) (entryFrame m ([Value.ref b] : List Value).toArray 7) := by
  obtain ⟨D, cyI, cyZ, hX⟩ := lw_mach C0
  obtain ⟨-, -, -, -, -, -, hsc, hbl, -, -⟩ := id C0
  have hl := lv_entry ([.ref b]) (n := 7) (Nat.le_of_ble_eq_true rfl)
  rw [lg_entry_eq]
  refine k l D cyI cyZ p e s m _ below meth c (fun q : Nat => s.heap.size ≤ q) s.heap [] _ hX ⟨lw_flags l hflags, lw_axX C0, ⟨hsc, hbl, Nat.not_le.mpr hbl⟩, rfl, rfl⟩ (fun q h => h) ⟨hl.1, hl.2.1, fun i v hi => ?_⟩ (fun k q h => by simp [an_w] at h) ⟨fun i j p q h => by simp [an_w] at h, fun k q h => by simp [an_w] at h⟩ va_S.rf
  match i, hi with
  | 0, hi => cases hi; exact ⟨hl.2.2 (0, .ref b) (List.mem_of_getElem? (i := 0) rfl), rfl⟩
  | 1, hi => cases hi
  | 2, hi => cases hi
  | 3, hi => cases hi
  | 4, hi => cases hi
  | 5, hi => cases hi
  | 6, hi => cases hi
  | k + 7, hi => simp at hi
/-- the law's own end -/
theorem lw_end {Hy : an_HY} {b : Nat} (hHy : ∀ l meth c s args A, Hy l meth c s args A → args = #[.ref b] ∧ A = (fun q : Nat => s.heap.size ≤ q)) {L : List (Option Value)} {ws : List (Nat × an_E)} {cs sl : Nat} (hc : cs ≤ 1064) (hs : sl ≤ 105399) : an_W ydL_law room_1 lwQ Hy 950 L [] ws cs sl := by
  refine an_iconst (v := 1) (by decide) dL_law_950 ?_
  refine an_widen hc hs ?_
  intro l D cyI cyZ p e s m args below meth c A H locs ls hX hY hA hl hP hD hS
  obtain ⟨hx, hb, hr, hml, hown, hlk, hK⟩ := id hX
  obtain ⟨rfl, rfl⟩ := hHy _ _ _ _ _ _ hY
  exact va_forget hS.2.2 (lw_ret hx hb hr hlk dL_law_951)

def ax_rm : Jvm.Room := { frames := 6, cells := 1, slots := 6, locals := 100 }
abbrev ydL_place : am_Y := (yL_place, cL_place, 5, (some .int), 7, 140)
abbrev hhL : List (Nat × Nat × Nat × Nat) := [(0, 10, 13, 13)]
theorem okL_place : ah_ok ydL_place hhL 4 := ⟨List.mem_append_right _ (List.mem_of_getElem? (i := 570) (by decide +kernel)), List.mem_append_right _ (List.mem_of_getElem? (i := 0) (by decide +kernel)), List.mem_append_right _ (List.mem_of_getElem? (i := 571) (by decide +kernel)), ⟨by decide +kernel, by decide +kernel, by decide +kernel⟩⟩
abbrev ydL_current : am_Y := (yL_current, cL_current, 5, (some .int), 7, 140)
theorem okL_current : ah_ok ydL_current hhL 4 := ⟨List.mem_append_right _ (List.mem_of_getElem? (i := 639) (by decide +kernel)), List.mem_append_right _ (List.mem_of_getElem? (i := 0) (by decide +kernel)), List.mem_append_right _ (List.mem_of_getElem? (i := 640) (by decide +kernel)), ⟨by decide +kernel, by decide +kernel, by decide +kernel⟩⟩
set_option maxRecDepth 100000 in
set_option maxHeartbeats 400000 in
theorem t_X6_place (ad : Nat → Nat) (M : am_M) (x y : Int32) (hx : sp_noax x) : ax_C ydX6_place ax_rm [.ref (ad 0), .int x, .int y] (an_am am_II ad M) := by
  refine ax_ofW (L' := [some (.ref (ad 0)), some (.int x), some (.int y), none]) (by decide +kernel) (by simp [Value.category]) (Nat.le_of_ble_eq_true rfl) rfl ?_
  refine an_aload_n rfl dX6_place_0 ?_
  refine an_iload_n rfl dX6_place_1 ?_
  refine an_callV (k := 0) (wr := []) (c_X6_axisOf_N ad M x hx) okX6_axisOf ml_X6_156 (by decide) rfl rfl rfl ⟨by decide, by decide⟩ ⟨(Nat.le_of_ble_eq_true rfl), (Nat.le_of_ble_eq_true rfl)⟩ (Nat.le_of_ble_eq_true rfl) rfl dX6_place_2 rfl (fun r M' h => ?_)
  obtain ⟨rfl, rfl⟩ := h
  refine an_ws (ws' := an_am am_II ad M) rfl ?_
  refine an_astore_nN (by decide) dX6_place_5 ?_
  refine an_aload_nN rfl dX6_place_6 ?_
  refine an_ifnonnullN dX6_place_7 ?_
  exact an_throw rfl dX6_place_10 dX6_place_13 dX6_place_14 dX6_place_17 ⟨by decide, by decide, by decide, by decide⟩
set_option maxRecDepth 100000 in
set_option maxHeartbeats 400000 in
theorem t_X6_current (ad : Nat → Nat) (M : am_M) (p w : Int32) (hx : sp_in p 0 1000 = false ∨ sp_in w 0 1 = false) : ax_C ydX6_current ax_rm [.ref (ad 0), .int p, .int w] (an_am am_II ad M) := by
  refine ax_ofW (L' := [some (.ref (ad 0)), some (.int p), some (.int w)]) (by decide +kernel) (by simp [Value.category]) (Nat.le_of_ble_eq_true rfl) rfl ?_
  refine an_iload_n rfl dX6_current_0 ?_
  refine an_iconst (v := 0) (by decide) dX6_current_1 ?_
  refine an_sipush (v := 1000) (by decide) dX6_current_2 ?_
  refine an_callS (wr := []) (c_X6_isWithin ad _ _ _ _) okX6_isWithin ml_X6_66 rfl ⟨by decide, by decide⟩ ⟨(Nat.le_of_ble_eq_true rfl), (Nat.le_of_ble_eq_true rfl)⟩ (Nat.le_of_ble_eq_true rfl) rfl dX6_current_5 rfl (fun r5 M5 h5 => ?_)
  obtain ⟨rfl, e5⟩ := h5
  refine an_ws (ws' := an_am am_II ad M) (by rw [e5]; rfl) ?_
  refine an_if_eq (tgt := 20) (by decide) dX6_current_8 (fun h8 => ?_) (fun h8 => ?_)
  · exact an_throw rfl dX6_current_20 dX6_current_23 dX6_current_24 dX6_current_27 ⟨by decide, by decide, by decide, by decide⟩
  · have h1 : sp_in p 0 1000 = true := (bI_1 _).mp h8
    have h2 : sp_in w 0 1 = false := hx.resolve_left (by rw [h1]; decide)
    refine an_iload_n rfl dX6_current_11 ?_
    refine an_iconst (v := 0) (by decide) dX6_current_12 ?_
    refine an_iconst (v := 1) (by decide) dX6_current_13 ?_
    refine an_callS (wr := []) (c_X6_isWithin ad _ _ _ _) okX6_isWithin ml_X6_66 rfl ⟨by decide, by decide⟩ ⟨(Nat.le_of_ble_eq_true rfl), (Nat.le_of_ble_eq_true rfl)⟩ (Nat.le_of_ble_eq_true rfl) rfl dX6_current_14 rfl (fun r14 M14 h14 => ?_)
    obtain ⟨rfl, e14⟩ := h14
    refine an_ws (ws' := an_am am_II ad M) (by rw [e14]; rfl) ?_
    refine an_if_ne (tgt := 28) (by decide) dX6_current_17 (fun h17 => absurd ((bI_1 _).mp h17) (by rw [h2]; decide)) (fun h17 => ?_)
    exact an_throw rfl dX6_current_20 dX6_current_23 dX6_current_24 dX6_current_27 ⟨by decide, by decide, by decide, by decide⟩
set_option maxRecDepth 100000 in
set_option maxHeartbeats 400000 in
theorem c_L_place (ad : Nat → Nat) (M : am_M) (x y v : Int32) (q3 : Nat) (cL : ClassId) (f : Nat → Int64) (hc : am_C ydX6_place ad am_II [.ref (ad 0), .int x, .int y] M (am_is v M)) : ah_C ydL_place hhL 1 6 cL [.ref (ad 0), .int x, .int y, .ref q3] (an_am am_II ad M ++ [(q3, .inr (.inr (cL, 1, f)))]) (fun r w1 => r = some (.int 0) ∧ w1 = an_am am_II ad M ++ [(q3, .inr (.inr (cL, 1, vp_updL f 0 v.toInt64)))]) := by
  refine ah_ofW (L' := [some (.ref (ad 0)), some (.int x), some (.int y), some (.ref q3), none]) (by decide +kernel) (by simp [Value.category]) (Nat.le_of_ble_eq_true rfl) rfl ?_
  refine an_aload_n rfl dL_place_0 ?_
  refine an_iconst (v := 0) (by decide) dL_place_1 ?_
  refine an_aload_n rfl dL_place_2 ?_
  refine an_iload_n rfl dL_place_3 ?_
  refine an_iload_n rfl dL_place_4 ?_
  refine an_swap rfl ?_
  refine an_callV (k := 0) (wr := [(q3, .inr (.inr (cL, 1, f)))]) hc okX6_place ml_L_7 (by decide) rfl rfl rfl ⟨by decide, by decide⟩ ⟨(Nat.le_of_ble_eq_true rfl), (Nat.le_of_ble_eq_true rfl)⟩ (Nat.le_of_ble_eq_true rfl) rfl dL_place_5 rfl (fun r M' h => ?_)
  obtain ⟨rfl, e⟩ := h
  rw [e]
  refine an_i2l dL_place_8 ?_
  refine an_last 0 (fun l meth c s args A h => h.2.2.2) rfl (am_vpI (by decide) (by decide)) dL_place_9 (ws' := [(q3, .inr (.inr (cL, 1, vp_updL f 0 v.toInt64)))] ++ an_am am_II ad M) rfl ?_
  refine an_swap rfl ?_
  refine an_goto (tgt := 17) (by decide) dL_place_10 ?_
  refine an_iconst (v := 0) (by decide) dL_place_17 ?_
  refine an_widen (cs' := 1) (sl' := 6) (by decide) (by decide) ?_
  exact an_hret rfl dL_place_18 ⟨rfl, rfl⟩
set_option maxRecDepth 100000 in
set_option maxHeartbeats 400000 in
theorem t_L_place (ad : Nat → Nat) (M : am_M) (x y : Int32) (q3 : Nat) (cL : ClassId) (f : Nat → Int64) (hc : ax_C ydX6_place ax_rm [.ref (ad 0), .int x, .int y] (an_am am_II ad M)) : ah_C ydL_place hhL 1 6 cL [.ref (ad 0), .int x, .int y, .ref q3] (an_am am_II ad M ++ [(q3, .inr (.inr (cL, 1, f)))]) (fun r w1 => r = some (.int 1) ∧ w1 = an_am am_II ad M ++ [(q3, .inr (.inr (cL, 1, f)))]) := by
  refine ah_ofW (L' := [some (.ref (ad 0)), some (.int x), some (.int y), some (.ref q3), none]) (by decide +kernel) (by simp [Value.category]) (Nat.le_of_ble_eq_true rfl) rfl ?_
  refine an_aload_n rfl dL_place_0 ?_
  refine an_iconst (v := 0) (by decide) dL_place_1 ?_
  refine an_aload_n rfl dL_place_2 ?_
  refine an_iload_n rfl dL_place_3 ?_
  refine an_iload_n rfl dL_place_4 ?_
  refine an_swap rfl ?_
  refine an_catch (i0 := 0) (wr := [(q3, .inr (.inr (cL, 1, f)))]) (wc := an_am am_II ad M) (hpc := 13) hc ⟨rfl, rfl⟩ okX6_place ml_L_7 rfl rfl rfl ⟨by decide, by decide⟩ ⟨(Nat.le_of_ble_eq_true rfl), (Nat.le_of_ble_eq_true rfl)⟩ (Nat.le_of_ble_eq_true rfl) rfl dL_place_5 rfl (cs' := 1) (sl' := 6) rfl rfl rfl _ rfl rfl rfl rfl (fun q => ?_)
  refine an_swap rfl ?_
  refine an_astore (by decide) dL_place_13 ?_
  refine an_iconst (v := 1) (by decide) dL_place_15 ?_
  exact an_hret rfl dL_place_16 ⟨rfl, rfl⟩
set_option maxRecDepth 100000 in
set_option maxHeartbeats 400000 in
theorem c_L_current (ad : Nat → Nat) (M : am_M) (x y v : Int32) (q3 : Nat) (cL : ClassId) (f : Nat → Int64) (hc : am_C ydX6_current ad am_II [.ref (ad 0), .int x, .int y] M (am_is v M)) : ah_C ydL_current hhL 1 6 cL [.ref (ad 0), .int x, .int y, .ref q3] (an_am am_II ad M ++ [(q3, .inr (.inr (cL, 1, f)))]) (fun r w1 => r = some (.int 0) ∧ w1 = an_am am_II ad M ++ [(q3, .inr (.inr (cL, 1, vp_updL f 0 v.toInt64)))]) := by
  refine ah_ofW (L' := [some (.ref (ad 0)), some (.int x), some (.int y), some (.ref q3), none]) (by decide +kernel) (by simp [Value.category]) (Nat.le_of_ble_eq_true rfl) rfl ?_
  refine an_aload_n rfl dL_current_0 ?_
  refine an_iconst (v := 0) (by decide) dL_current_1 ?_
  refine an_aload_n rfl dL_current_2 ?_
  refine an_iload_n rfl dL_current_3 ?_
  refine an_iload_n rfl dL_current_4 ?_
  refine an_swap rfl ?_
  refine an_callV (k := 0) (wr := [(q3, .inr (.inr (cL, 1, f)))]) hc okX6_current ml_L_15 (by decide) rfl rfl rfl ⟨by decide, by decide⟩ ⟨(Nat.le_of_ble_eq_true rfl), (Nat.le_of_ble_eq_true rfl)⟩ (Nat.le_of_ble_eq_true rfl) rfl dL_current_5 rfl (fun r M' h => ?_)
  obtain ⟨rfl, e⟩ := h
  rw [e]
  refine an_i2l dL_current_8 ?_
  refine an_last 0 (fun l meth c s args A h => h.2.2.2) rfl (am_vpI (by decide) (by decide)) dL_current_9 (ws' := [(q3, .inr (.inr (cL, 1, vp_updL f 0 v.toInt64)))] ++ an_am am_II ad M) rfl ?_
  refine an_swap rfl ?_
  refine an_goto (tgt := 17) (by decide) dL_current_10 ?_
  refine an_iconst (v := 0) (by decide) dL_current_17 ?_
  refine an_widen (cs' := 1) (sl' := 6) (by decide) (by decide) ?_
  exact an_hret rfl dL_current_18 ⟨rfl, rfl⟩
set_option maxRecDepth 100000 in
set_option maxHeartbeats 400000 in
theorem t_L_current (ad : Nat → Nat) (M : am_M) (x y : Int32) (q3 : Nat) (cL : ClassId) (f : Nat → Int64) (hc : ax_C ydX6_current ax_rm [.ref (ad 0), .int x, .int y] (an_am am_II ad M)) : ah_C ydL_current hhL 1 6 cL [.ref (ad 0), .int x, .int y, .ref q3] (an_am am_II ad M ++ [(q3, .inr (.inr (cL, 1, f)))]) (fun r w1 => r = some (.int 1) ∧ w1 = an_am am_II ad M ++ [(q3, .inr (.inr (cL, 1, f)))]) := by
  refine ah_ofW (L' := [some (.ref (ad 0)), some (.int x), some (.int y), some (.ref q3), none]) (by decide +kernel) (by simp [Value.category]) (Nat.le_of_ble_eq_true rfl) rfl ?_
  refine an_aload_n rfl dL_current_0 ?_
  refine an_iconst (v := 0) (by decide) dL_current_1 ?_
  refine an_aload_n rfl dL_current_2 ?_
  refine an_iload_n rfl dL_current_3 ?_
  refine an_iload_n rfl dL_current_4 ?_
  refine an_swap rfl ?_
  refine an_catch (i0 := 0) (wr := [(q3, .inr (.inr (cL, 1, f)))]) (wc := an_am am_II ad M) (hpc := 13) hc ⟨rfl, rfl⟩ okX6_current ml_L_15 rfl rfl rfl ⟨by decide, by decide⟩ ⟨(Nat.le_of_ble_eq_true rfl), (Nat.le_of_ble_eq_true rfl)⟩ (Nat.le_of_ble_eq_true rfl) rfl dL_current_5 rfl (cs' := 1) (sl' := 6) rfl rfl rfl _ rfl rfl rfl rfl (fun q => ?_)
  refine an_swap rfl ?_
  refine an_astore (by decide) dL_current_13 ?_
  refine an_iconst (v := 1) (by decide) dL_current_15 ?_
  exact an_hret rfl dL_current_16 ⟨rfl, rfl⟩

/-! the law's start -/
def in_M : am_M := fun a => match a with
  | 1 => fun j => match j with
    | 0 => 6
    | 1 => 2
    | 2 => 1
    | 8 => 1
    | _ => 0
  | 3 => fun q => if q < 13 then 100 else 0
  | 7 => fun j => match j with
    | 0 => 1
    | _ => 0
  | 15 => fun j => match j with
    | 6 => -1
    | _ => 0
  | 19 => fun j => match j with
    | 0 => nI 4
    | 1 => 10
    | _ => 0
  | 20 => fun q => if q < 5 then sp_lv 4 10 q else 0
  | 21 => fun j => match j with
    | 1 => 6
    | 2 => 2
    | 3 => 1
    | 30 => -1
    | 34 => nI 4
    | 35 => 10
    | _ => 0
  | 23 => fun q => if q < 13 then 100 else 0
  | 36 => fun q => if q < 5 then sp_lv 4 10 q else 0
  | _ => fun _ => 0
theorem in_R : R 0 in_M := by
  have z0 : (0 : Int32).toInt = 0 := by decide
  refine ⟨⟨⟨rfl, rfl, rfl, rfl, rfl, rfl⟩, fun j _ => rfl, fun j _ => rfl, rfl, fun j => Or.inl rfl, ?_⟩, ⟨?_, ?_, ?_, ?_, ?_⟩, ⟨fun z => ?_, ⟨rfl, fun z => ?_⟩, rfl, fun z => ?_⟩, ⟨4, Or.inr (Or.inr (Or.inl rfl)), rfl, rfl, rfl, ?_, fun j _ => rfl⟩, ⟨fun x hx => ?_, fun x => ?_⟩, ⟨⟨rfl, rfl, rfl, rfl, rfl, rfl, rfl, rfl⟩, ?_, ?_, ?_⟩, fun z => ?_⟩
  · exact ⟨by decide, by decide, by decide, by decide, by decide, by decide, Or.inl rfl⟩
  · decide
  · decide
  · decide
  · decide
  · decide
  · exact absurd z (by decide)
  · exact absurd z (by decide)
  · exact absurd z (by decide)
  · decide
  · rcases (by omega : x = 0 ∨ x = 1 ∨ x = 2) with rfl | rfl | rfl <;> exact ⟨rfl, rfl, rfl, rfl, rfl⟩
  · show -2000 ≤ (0 : Int32).toInt ∧ (0 : Int32).toInt ≤ 2000
    rw [z0]; decide
  · decide
  · decide
  · decide
  · exact absurd z (by decide)
theorem in_II : am_II = [0, 1, 2, 3, 4, 5, 6, 7, 8, 9, 10, 11, 12, 13, 14, 15, 16, 17, 18, 19, 20, 21, 22, 23, 24, 25, 26, 27, 28, 29, 30, 31, 32, 33, 34, 35, 36] := by decide
set_option maxRecDepth 100000 in
set_option maxHeartbeats 400000 in
theorem lw_walk0 {b Ln : Nat} {xs : Nat → Int32} (hL : Ln ≤ 2048) : an_W ydL_law room_1 lwQ (lwH b Ln xs) 0 [some (.ref b), none, none, none, none, none, none] [] [] 0 0 := by
  refine an_new (ci := 6) rfl hTX6 tyX6_ok cl_L_8 in_X6 ii_X6 df_X6 (Nat.le_of_ble_eq_true rfl) (Nat.le_of_ble_eq_true rfl) dL_law_0 (cs' := 1) (sl' := 9) rfl rfl (fun q0 => ?_)
  refine an_dup rfl dL_law_3 ?_
  refine an_callI (wr := []) (c_X6_init q0) okX6_init ml_L_19 rfl ⟨by decide, by decide⟩ ⟨Nat.le_of_ble_eq_true rfl, Nat.le_of_ble_eq_true rfl⟩ (Nat.le_of_ble_eq_true rfl) rfl dL_law_4 rfl (cs' := 21) (sl' := 47837) rfl rfl (fun w1 h => ?_)
  obtain ⟨q1, q2, q3, q4, q5, q6, q7, q8, q9, q10, q11, q12, q13, q14, q15, q16, q17, q18, q19, q20, rfl⟩ := h
  refine an_astore_n (by decide) dL_law_7 ?_
  refine an_new (ci := 7) rfl hTX7 tyX7_ok cl_L_20 in_X7 ii_X7 df_X7 (Nat.le_of_ble_eq_true rfl) (Nat.le_of_ble_eq_true rfl) dL_law_8 (cs' := 22) (sl' := 47873) rfl rfl (fun p0 => ?_)
  refine an_dup rfl dL_law_11 ?_
  refine an_callI (wr := [(q0, .inl (6, [.ref q1, .ref q4, .ref q7, .ref q11, .ref q15, .ref q16, .ref q17, .ref q18, .ref q19])), (q1, .inl (4, [.int 6, .int 2, .int 1, .int 0, .int 0, .ref q2, .ref q3, .int 0, .int 1])), (q2, .inr (.inl (true, 13, fun _ => 0))), (q3, .inr (.inl (false, 13, fun q => if q < 13 then 100 else 0))), (q4, .inl (3, [.ref q5, .ref q6, .int 0, .int 0, .int 0])), (q5, .inr (.inl (false, 23517, fun _ => 0))), (q6, .inr (.inl (false, 23517, fun _ => 0))), (q7, .inl (5, [.int 1, .ref q8, .ref q9, .ref q10, .int 0, .int 0])), (q8, .inr (.inl (false, 117, fun _ => 0))), (q9, .inr (.inl (false, 117, fun _ => 0))), (q10, .inr (.inl (false, 117, fun _ => 0))), (q11, .inl (5, [.int 0, .ref q12, .ref q13, .ref q14, .int 0, .int 0])), (q12, .inr (.inl (false, 117, fun _ => 0))), (q13, .inr (.inl (false, 117, fun _ => 0))), (q14, .inr (.inl (false, 117, fun _ => 0))), (q15, .inl (2, [.int 0, .int 0, .int 0, .int 0, .int 0, .int 0, .int (-1), .int 0, .int 0, .int 0])), (q16, .inl (0, [.int 0, .int 0, .int 0, .int 0, .int 0, .int 0])), (q17, .inl (0, [.int 0, .int 0, .int 0, .int 0, .int 0, .int 0])), (q18, .inl (0, [.int 0, .int 0, .int 0, .int 0, .int 0, .int 0])), (q19, .inl (1, [.int (nI 4), .int 10, .ref q20])), (q20, .inr (.inl (false, 9, fun q => if q < 5 then sp_lv 4 10 q else 0)))]) (c_X7_init p0) okX7_init ml_L_22 rfl ⟨by decide, by decide⟩ ⟨Nat.le_of_ble_eq_true rfl, Nat.le_of_ble_eq_true rfl⟩ (Nat.le_of_ble_eq_true rfl) rfl dL_law_12 rfl (cs' := 37) (sl' := 97194) rfl rfl (fun w2 h => ?_)
  obtain ⟨p1, p2, p3, p4, p5, p6, p7, p8, p9, p10, p11, p12, p13, p14, p15, rfl⟩ := h
  refine an_astore_n (by decide) dL_law_15 ?_
  refine an_iconst (v := 1) (by decide) dL_law_16 ?_
  refine an_newL (n' := 1) ar_J (by decide) (by decide +kernel) (Nat.le_of_ble_eq_true rfl) (Nat.le_of_ble_eq_true rfl) (Nat.le_of_ble_eq_true rfl) dL_law_17 (cs' := 38) (sl' := 97195) rfl rfl (fun qL cL => ?_)
  refine an_astore_n (by decide) dL_law_19 ?_
  refine an_iconst (v := nI 0) (by decide) dL_law_20 ?_
  refine an_istore (by decide) dL_law_21 ?_
  refine an_swap rfl ?_
  refine an_ws (ws' := lwW (fun k => match k with | 0 => q0 | 1 => q1 | 2 => q2 | 3 => q3 | 4 => q4 | 5 => q5 | 6 => q6 | 7 => q7 | 8 => q8 | 9 => q9 | 10 => q10 | 11 => q11 | 12 => q12 | 13 => q13 | 14 => q14 | 15 => q15 | 16 => q16 | 17 => q17 | 18 => q18 | 19 => q19 | 20 => q20 | 21 => p0 | 22 => p1 | 23 => p2 | 24 => p3 | 25 => p4 | 26 => p5 | 27 => p6 | 28 => p7 | 29 => p8 | 30 => p9 | 31 => p10 | 32 => p11 | 33 => p12 | 34 => p13 | 35 => p14 | _ => p15) qL cL (fun _ => 0) in_M) ?_ ?_
  · unfold lwW an_am
    rw [in_II]
    rfl
  · exact lw_loop (fun k => match k with | 0 => q0 | 1 => q1 | 2 => q2 | 3 => q3 | 4 => q4 | 5 => q5 | 6 => q6 | 7 => q7 | 8 => q8 | 9 => q9 | 10 => q10 | 11 => q11 | 12 => q12 | 13 => q13 | 14 => q14 | 15 => q15 | 16 => q16 | 17 => q17 | 18 => q18 | 19 => q19 | 20 => q20 | 21 => p0 | 22 => p1 | 23 => p2 | 24 => p3 | 25 => p4 | 26 => p5 | 27 => p6 | 28 => p7 | 29 => p8 | 30 => p9 | 31 => p10 | 32 => p11 | 33 => p12 | 34 => p13 | 35 => p14 | _ => p15) hL (Ln + 1) 0 38 97195 in_M (fun _ => 0) none none (by omega) (by omega) rfl rfl in_R

/-! the law's loop -/
theorem lw_in {j Ln : Nat} (h : 4 * j + 4 ≤ Ln) (hL : Ln ≤ 2048) : lwI Ln (nI (4 * j)) := by
  refine ⟨am_vpI ?_ ?_, am_vpI ?_ ?_, am_vpI ?_ ?_, am_vpI ?_ ?_⟩
  · rw [nI_e]; omega
  · rw [nI_e]; omega
  · rw [i_add, kI_1, nI_e]; omega
  · rw [i_add, kI_1, nI_e]; omega
  · rw [i_add, kI_2, nI_e]; omega
  · rw [i_add, kI_2, nI_e]; omega
  · rw [i_add, kI_3, nI_e]; omega
  · rw [i_add, kI_3, nI_e]; omega
set_option maxRecDepth 100000 in
set_option maxHeartbeats 400000 in
theorem lw_loop (ad : Nat → Nat) {b Ln : Nat} {xs : Nat → Int32} {cL : ClassId} {q3 : Nat} (hL : Ln ≤ 2048) : ∀ (k j cs sl : Nat) (M : am_M) (f : Nat → Int64) (k5 k6 : Option Value), Ln < 4 * j + k → j ≤ 512 → cs = 38 + j → sl = 97195 + 6 * j → R j M → an_W ydL_law room_1 lwQ (lwH2 b Ln xs cL) 23 (lwL ad b q3 (nI (4 * j)) k5 k6) [] (lwW ad q3 cL f M) cs sl := by
  intro k
  induction k with
  | zero =>
    intro j cs sl M f k5 k6 h1 h2 h3 h4 hR
    refine an_iload rfl dL_law_23 ?_
    refine an_aload_n rfl dL_law_25 ?_
    refine an_slen lw_hs dL_law_26 ?_
    refine an_iconst (v := 4) (by decide) dL_law_27 ?_
    refine an_isub dL_law_28 ?_
    refine an_icmp_gt (tgt := 950) (by decide) dL_law_29 (fun _ => lw_end lw_he (by omega) (by omega)) (fun h9 => ?_)
    exfalso
    rw [Int32.lt_iff_toInt_lt, i_sub, kI_4, show Int32.ofNat Ln = nI Ln from rfl, nI_e, nI_e] at h9
    omega
  | succ k ih =>
    intro j cs sl M f k5 k6 h1 h2 h3 h4 hR
    refine an_iload rfl dL_law_23 ?_
    refine an_aload_n rfl dL_law_25 ?_
    refine an_slen lw_hs dL_law_26 ?_
    refine an_iconst (v := 4) (by decide) dL_law_27 ?_
    refine an_isub dL_law_28 ?_
    refine an_icmp_gt (tgt := 950) (by decide) dL_law_29 (fun _ => lw_end lw_he (by omega) (by omega)) (fun h9 => ?_)
    have hj : 4 * j + 4 ≤ Ln := by
      rw [Int32.lt_iff_toInt_lt, i_sub, kI_4, show Int32.ofNat Ln = nI Ln from rfl, nI_e, nI_e] at h9
      omega
    have hI := lw_in hj hL
    have hc : cs ≤ room_1.cells ∧ sl ≤ room_1.slots := ⟨by show cs ≤ 1064; omega, by show sl ≤ 105399; omega⟩
    have hc1 : cs + 1 ≤ room_1.cells ∧ sl + 6 ≤ room_1.slots := ⟨by show cs + 1 ≤ 1064; omega, by show sl + 6 ≤ 105399; omega⟩
    have hn : j ≤ 1000 := by omega
    have K : lwK b Ln xs cL ad q3 (nI (4 * j)) j cs sl := by
      intro N g y5 y6 hN
      refine an_iinc (v := nI (4 * (j + 1))) rfl ?_ (by decide) dL_law_944 ?_
      · refine i_inj ?_
        rw [i_add, nI_e, nI_e, show (Int32.ofInt 4).toInt = 4 from by decide]
        omega
      · exact an_goto (tgt := 23) (by decide) dL_law_947 (ih (j + 1) (cs + 1) (sl + 6) N g y5 y6 (by omega) (by omega) (by omega) (by omega) hN)
    refine an_aload_n rfl dL_law_32 ?_
    refine an_iload rfl dL_law_33 ?_
    refine an_sld lw_hs hI.1 dL_law_35 ?_
    refine an_bipush (v := 31) (by decide) dL_law_36 ?_
    refine an_iand dL_law_38 ?_
    generalize xs (nI (4 * j)).toNatClampNeg &&& 31 = z
    by_cases ho : z.toInt < 0 ∨ 21 < z.toInt
    · exact an_tabOut (tgt := 944) ho (by decide) dL_law_39 (an_widen (Nat.le_succ cs) (Nat.le_add_right sl 6) (K M f k5 k6 (R.mono hR (Nat.le_succ j))))
    · have ha : 0 ≤ z.toInt ∧ z.toInt ≤ 21 := by omega
      have hd : z = 0 ∨ z = 1 ∨ z = 2 ∨ z = 3 ∨ z = 4 ∨ z = 5 ∨ z = 6 ∨ z = 7 ∨ z = 8 ∨ z = 9 ∨ z = 10 ∨ z = 11 ∨ z = 12 ∨ z = 13 ∨ z = 14 ∨ z = 15 ∨ z = 16 ∨ z = 17 ∨ z = 18 ∨ z = 19 ∨ z = 20 ∨ z = 21 := by
        simp only [← Int32.toInt_inj]
        have e9 : (((0 : Int32).toInt = 0)) ∧ (((1 : Int32).toInt = 1)) ∧ (((2 : Int32).toInt = 2)) ∧ (((3 : Int32).toInt = 3)) ∧ (((4 : Int32).toInt = 4)) ∧ (((5 : Int32).toInt = 5)) ∧ (((6 : Int32).toInt = 6)) ∧ (((7 : Int32).toInt = 7)) ∧ (((8 : Int32).toInt = 8)) ∧ (((9 : Int32).toInt = 9)) ∧ (((10 : Int32).toInt = 10)) ∧ (((11 : Int32).toInt = 11)) ∧ (((12 : Int32).toInt = 12)) ∧ (((13 : Int32).toInt = 13)) ∧ (((14 : Int32).toInt = 14)) ∧ (((15 : Int32).toInt = 15)) ∧ (((16 : Int32).toInt = 16)) ∧ (((17 : Int32).toInt = 17)) ∧ (((18 : Int32).toInt = 18)) ∧ (((19 : Int32).toInt = 19)) ∧ (((20 : Int32).toInt = 20)) ∧ (((21 : Int32).toInt = 21)) := by decide
        omega
      rcases hd with rfl | rfl | rfl | rfl | rfl | rfl | rfl | rfl | rfl | rfl | rfl | rfl | rfl | rfl | rfl | rfl | rfl | rfl | rfl | rfl | rfl | rfl
      · exact an_tabIn (off := 101) (tgt := 140) (by decide) (by decide) rfl (by decide) dL_law_39 (lc_140 ad f k5 k6 hR hn hI hc hc1 K)
      · exact an_tabIn (off := 150) (tgt := 189) (by decide) (by decide) rfl (by decide) dL_law_39 (lc_189 ad f k5 k6 hR hn hI hc hc1 K)
      · exact an_tabIn (off := 203) (tgt := 242) (by decide) (by decide) rfl (by decide) dL_law_39 (lc_242 ad f k5 k6 hR hn hI hc hc1 K)
      · exact an_tabIn (off := 240) (tgt := 279) (by decide) (by decide) rfl (by decide) dL_law_39 (lc_279 ad f k5 k6 hR hn hI hc hc1 K)
      · exact an_tabIn (off := 277) (tgt := 316) (by decide) (by decide) rfl (by decide) dL_law_39 (lc_316 ad f k5 k6 hR hn hI hc hc1 K)
      · exact an_tabIn (off := 318) (tgt := 357) (by decide) (by decide) rfl (by decide) dL_law_39 (lc_357 ad f k5 k6 hR hn hI hc hc1 K)
      · exact an_tabIn (off := 343) (tgt := 382) (by decide) (by decide) rfl (by decide) dL_law_39 (lc_382 ad f k5 k6 hR hn hI hc hc1 K)
      · exact an_tabIn (off := 380) (tgt := 419) (by decide) (by decide) rfl (by decide) dL_law_39 (lc_419 ad f k5 k6 hR hn hI hc hc1 K)
      · exact an_tabIn (off := 429) (tgt := 468) (by decide) (by decide) rfl (by decide) dL_law_39 (lc_468 ad f k5 k6 hR hn hI hc hc1 K)
      · exact an_tabIn (off := 478) (tgt := 517) (by decide) (by decide) rfl (by decide) dL_law_39 (lc_517 ad f k5 k6 hR hn hI hc hc1 K)
      · exact an_tabIn (off := 503) (tgt := 542) (by decide) (by decide) rfl (by decide) dL_law_39 (lc_542 ad f k5 k6 hR hn hI hc hc1 K)
      · exact an_tabIn (off := 516) (tgt := 555) (by decide) (by decide) rfl (by decide) dL_law_39 (lc_555 ad f k5 k6 hR hn hI hc hc1 K)
      · exact an_tabIn (off := 600) (tgt := 639) (by decide) (by decide) rfl (by decide) dL_law_39 (lc_639 ad f k5 k6 hR hn hI hc hc1 K)
      · exact an_tabIn (off := 625) (tgt := 664) (by decide) (by decide) rfl (by decide) dL_law_39 (lc_664 ad f k5 k6 hR hn hI hc hc1 K)
      · exact an_tabIn (off := 662) (tgt := 701) (by decide) (by decide) rfl (by decide) dL_law_39 (lc_701 ad f k5 k6 hR hn hI hc hc1 K)
      · exact an_tabIn (off := 687) (tgt := 726) (by decide) (by decide) rfl (by decide) dL_law_39 (lc_726 ad f k5 k6 hR hn hI hc hc1 K)
      · exact an_tabIn (off := 712) (tgt := 751) (by decide) (by decide) rfl (by decide) dL_law_39 (lc_751 ad f k5 k6 hR hn hI hc hc1 K)
      · exact an_tabIn (off := 749) (tgt := 788) (by decide) (by decide) rfl (by decide) dL_law_39 (lc_788 ad f k5 k6 hR hn hI hc hc1 K)
      · exact an_tabIn (off := 786) (tgt := 825) (by decide) (by decide) rfl (by decide) dL_law_39 (lc_825 ad f k5 k6 hR hn hI hc hc1 K)
      · exact an_tabIn (off := 854) (tgt := 893) (by decide) (by decide) rfl (by decide) dL_law_39 (lc_893 ad f k5 k6 hR hn hI hc hc1 K)
      · exact an_tabIn (off := 879) (tgt := 918) (by decide) (by decide) rfl (by decide) dL_law_39 (lc_918 ad f k5 k6 hR hn hI hc hc1 K)
      · exact an_tabIn (off := 892) (tgt := 931) (by decide) (by decide) rfl (by decide) dL_law_39 (lc_931 ad f k5 k6 hR hn hI hc hc1 K)

/-! the cases of the law's loop -/
abbrev lwL (ad : Nat → Nat) (b q3 : Nat) (i : Int32) (k5 k6 : Option Value) : List (Option Value) := [some (.ref b), some (.ref (ad 0)), some (.ref (ad 21)), some (.ref q3), some (.int i), k5, k6]
abbrev lwX (q3 : Nat) (cL : ClassId) (f : Nat → Int64) : List (Nat × an_E) := [(q3, .inr (.inr (cL, 1, f)))]
abbrev lwW (ad : Nat → Nat) (q3 : Nat) (cL : ClassId) (f : Nat → Int64) (M : am_M) : List (Nat × an_E) := lwX q3 cL f ++ an_am am_II ad M
def lwK (b Ln : Nat) (xs : Nat → Int32) (cL : ClassId) (ad : Nat → Nat) (q3 : Nat) (i : Int32) (n cs sl : Nat) : Prop := ∀ (M : am_M) (f : Nat → Int64) (k5 k6 : Option Value), R (n + 1) M → an_W ydL_law room_1 lwQ (lwH2 b Ln xs cL) 944 (lwL ad b q3 i k5 k6) [] (lwW ad q3 cL f M) (cs + 1) (sl + 6)
def lwI (Ln : Nat) (i : Int32) : Prop := vp_in i Ln ∧ vp_in (i + 1) Ln ∧ vp_in (i + 2) Ln ∧ vp_in (i + 3) Ln
theorem lw_cat (r : Option Value) : ((r.toList ++ ([] : List Value)).map fun v : Value => v.category).sum ≤ 8 := by
  cases r with
  | none => decide
  | some v => cases v <;> simp [Value.category]
theorem lw_hs {b Ln : Nat} {xs : Nat → Int32} {cL : ClassId} : ∀ l meth c s args A, lwH2 b Ln xs cL l meth c s args A → va_X b Ln xs s s.heap ∧ b < s.heap.size ∧ ¬ A b := fun _ _ _ _ _ _ h => h.1.2.2.1
theorem lw_hx {b Ln : Nat} {xs : Nat → Int32} {cL : ClassId} : ∀ l meth c s args A, lwH2 b Ln xs cL l meth c s args A → l.stackTraces = false ∧ ax_X A s s.heap ∧ an_LA cL s := fun _ _ _ _ _ _ h => ⟨h.1.1, h.1.2.1, h.2⟩
theorem lw_hl {b Ln : Nat} {xs : Nat → Int32} {cL : ClassId} : ∀ l meth c s args A, lwH2 b Ln xs cL l meth c s args A → an_LA cL s := fun _ _ _ _ _ _ h => h.2
theorem lw_he {b Ln : Nat} {xs : Nat → Int32} {cL : ClassId} : ∀ l meth c s args A, lwH2 b Ln xs cL l meth c s args A → args = #[.ref b] ∧ A = (fun q : Nat => s.heap.size ≤ q) := fun _ _ _ _ _ _ h => h.1.2.2.2
theorem lw_same (x : Int64) : lg_cmp x x = 0 := by
  unfold lg_cmp
  rw [if_neg Int64.lt_irrefl, if_pos rfl]

set_option maxRecDepth 100000 in
set_option maxHeartbeats 400000 in
theorem lc_140 (ad : Nat → Nat) {b Ln : Nat} {xs : Nat → Int32} {cL : ClassId} {q3 : Nat} {i : Int32} {n cs sl : Nat} {M : am_M} (f : Nat → Int64) (k5 k6 : Option Value) (h : R n M) (hn : n ≤ 1000) (hI : lwI Ln i) (hc : cs ≤ room_1.cells ∧ sl ≤ room_1.slots) (hc1 : cs + 1 ≤ room_1.cells ∧ sl + 6 ≤ room_1.slots) (K : lwK b Ln xs cL ad q3 i n cs sl) : an_W ydL_law room_1 lwQ (lwH2 b Ln xs cL) 140 (lwL ad b q3 i k5 k6) [] (lwW ad q3 cL f M) cs sl := by
  obtain ⟨P1, c1, h1⟩ := two_limits ad h hn (xs (i + 1).toNatClampNeg) (xs (i + 2).toNatClampNeg) (xs (i + 3).toNatClampNeg)
  refine an_aload_n rfl dL_law_140 ?_
  refine an_aload_n rfl dL_law_141 ?_
  refine an_iload rfl dL_law_142 ?_
  refine an_iconst (v := 1) (by decide) dL_law_144 ?_
  refine an_iadd dL_law_145 ?_
  refine an_sld lw_hs hI.2.1 dL_law_146 ?_
  refine an_aload_n rfl dL_law_147 ?_
  refine an_iload rfl dL_law_148 ?_
  refine an_iconst (v := 2) (by decide) dL_law_150 ?_
  refine an_iadd dL_law_151 ?_
  refine an_sld lw_hs hI.2.2.1 dL_law_152 ?_
  refine an_aload_n rfl dL_law_153 ?_
  refine an_iload rfl dL_law_154 ?_
  refine an_iconst (v := 3) (by decide) dL_law_156 ?_
  refine an_iadd dL_law_157 ?_
  refine an_sld lw_hs hI.2.2.2 dL_law_158 ?_
  refine an_callV (k := 0) (wr := lwX q3 cL f) c1 okX6_limits ml_L_23 (by decide) rfl rfl rfl ⟨by decide, by decide⟩ hc (Nat.le_of_ble_eq_true rfl) rfl dL_law_159 rfl (fun r1 N1 p1 => ?_)
  obtain ⟨P2, c2, h2⟩ := h1 r1 N1 p1
  refine an_aload_n rfl dL_law_162 ?_
  refine an_aload_n rfl dL_law_163 ?_
  refine an_iload rfl dL_law_164 ?_
  refine an_iconst (v := 1) (by decide) dL_law_166 ?_
  refine an_iadd dL_law_167 ?_
  refine an_sld lw_hs hI.2.1 dL_law_168 ?_
  refine an_aload_n rfl dL_law_169 ?_
  refine an_iload rfl dL_law_170 ?_
  refine an_iconst (v := 2) (by decide) dL_law_172 ?_
  refine an_iadd dL_law_173 ?_
  refine an_sld lw_hs hI.2.2.1 dL_law_174 ?_
  refine an_aload_n rfl dL_law_175 ?_
  refine an_iload rfl dL_law_176 ?_
  refine an_iconst (v := 3) (by decide) dL_law_178 ?_
  refine an_iadd dL_law_179 ?_
  refine an_sld lw_hs hI.2.2.2 dL_law_180 ?_
  refine an_callV (k := 21) (wr := lwX q3 cL f) c2 okX7_limits ml_L_27 (by decide) rfl rfl rfl ⟨by decide, by decide⟩ hc (lw_cat r1) rfl dL_law_181 rfl (fun r2 N2 p2 => ?_)
  obtain ⟨x, rfl, rfl, hR⟩ := h2 r2 N2 p2
  refine an_icmp_eq (tgt := 944) (by decide) dL_law_184 (fun _ => ?_) (fun h9 => absurd rfl h9)
  exact an_widen (Nat.le_succ cs) (Nat.le_add_right sl 6) (K N2 f k5 k6 hR)
set_option maxRecDepth 100000 in
set_option maxHeartbeats 400000 in
theorem lc_189 (ad : Nat → Nat) {b Ln : Nat} {xs : Nat → Int32} {cL : ClassId} {q3 : Nat} {i : Int32} {n cs sl : Nat} {M : am_M} (f : Nat → Int64) (k5 k6 : Option Value) (h : R n M) (hn : n ≤ 1000) (hI : lwI Ln i) (hc : cs ≤ room_1.cells ∧ sl ≤ room_1.slots) (hc1 : cs + 1 ≤ room_1.cells ∧ sl + 6 ≤ room_1.slots) (K : lwK b Ln xs cL ad q3 i n cs sl) : an_W ydL_law room_1 lwQ (lwH2 b Ln xs cL) 189 (lwL ad b q3 i k5 k6) [] (lwW ad q3 cL f M) cs sl := by
  by_cases hb : xs (i + 2).toNatClampNeg = 0
  · obtain ⟨P1, c1, h1⟩ := two_bad ad h hn (xs (i + 1).toNatClampNeg) false
    refine an_aload_n rfl dL_law_189 ?_
    refine an_aload_n rfl dL_law_190 ?_
    refine an_iload rfl dL_law_191 ?_
    refine an_iconst (v := 1) (by decide) dL_law_193 ?_
    refine an_iadd dL_law_194 ?_
    refine an_sld lw_hs hI.2.1 dL_law_195 ?_
    refine an_aload_n rfl dL_law_196 ?_
    refine an_iload rfl dL_law_197 ?_
    refine an_iconst (v := 2) (by decide) dL_law_199 ?_
    refine an_iadd dL_law_200 ?_
    refine an_sld lw_hs hI.2.2.1 dL_law_201 ?_
    refine an_if_eq (tgt := 209) (by decide) dL_law_202 (fun _ => ?_) (fun h => absurd hb h)
    refine an_iconst (v := bI false) (by decide) dL_law_209 ?_
    refine an_callV (k := 0) (wr := lwX q3 cL f) c1 okX6_bad ml_L_28 (by decide) rfl rfl rfl ⟨by decide, by decide⟩ hc (Nat.le_of_ble_eq_true rfl) rfl dL_law_210 rfl (fun r1 N1 p1 => ?_)
    obtain ⟨P2, c2, h2⟩ := h1 r1 N1 p1
    refine an_aload_n rfl dL_law_213 ?_
    refine an_aload_n rfl dL_law_214 ?_
    refine an_iload rfl dL_law_215 ?_
    refine an_iconst (v := 1) (by decide) dL_law_217 ?_
    refine an_iadd dL_law_218 ?_
    refine an_sld lw_hs hI.2.1 dL_law_219 ?_
    refine an_aload_n rfl dL_law_220 ?_
    refine an_iload rfl dL_law_221 ?_
    refine an_iconst (v := 2) (by decide) dL_law_223 ?_
    refine an_iadd dL_law_224 ?_
    refine an_sld lw_hs hI.2.2.1 dL_law_225 ?_
    refine an_if_eq (tgt := 233) (by decide) dL_law_226 (fun _ => ?_) (fun h => absurd hb h)
    refine an_iconst (v := bI false) (by decide) dL_law_233 ?_
    refine an_callV (k := 21) (wr := lwX q3 cL f) c2 okX7_bad ml_L_32 (by decide) rfl rfl rfl ⟨by decide, by decide⟩ hc (lw_cat r1) rfl dL_law_234 rfl (fun r2 N2 p2 => ?_)
    obtain ⟨x, rfl, rfl, hR⟩ := h2 r2 N2 p2
    refine an_icmp_eq (tgt := 944) (by decide) dL_law_237 (fun _ => ?_) (fun h9 => absurd rfl h9)
    exact an_widen (Nat.le_succ cs) (Nat.le_add_right sl 6) (K N2 f k5 k6 hR)
  · obtain ⟨P1, c1, h1⟩ := two_bad ad h hn (xs (i + 1).toNatClampNeg) true
    refine an_aload_n rfl dL_law_189 ?_
    refine an_aload_n rfl dL_law_190 ?_
    refine an_iload rfl dL_law_191 ?_
    refine an_iconst (v := 1) (by decide) dL_law_193 ?_
    refine an_iadd dL_law_194 ?_
    refine an_sld lw_hs hI.2.1 dL_law_195 ?_
    refine an_aload_n rfl dL_law_196 ?_
    refine an_iload rfl dL_law_197 ?_
    refine an_iconst (v := 2) (by decide) dL_law_199 ?_
    refine an_iadd dL_law_200 ?_
    refine an_sld lw_hs hI.2.2.1 dL_law_201 ?_
    refine an_if_eq (tgt := 209) (by decide) dL_law_202 (fun h => absurd h hb) (fun _ => ?_)
    refine an_iconst (v := bI true) (by decide) dL_law_205 ?_
    refine an_goto (tgt := 210) (by decide) dL_law_206 ?_
    refine an_callV (k := 0) (wr := lwX q3 cL f) c1 okX6_bad ml_L_28 (by decide) rfl rfl rfl ⟨by decide, by decide⟩ hc (Nat.le_of_ble_eq_true rfl) rfl dL_law_210 rfl (fun r1 N1 p1 => ?_)
    obtain ⟨P2, c2, h2⟩ := h1 r1 N1 p1
    refine an_aload_n rfl dL_law_213 ?_
    refine an_aload_n rfl dL_law_214 ?_
    refine an_iload rfl dL_law_215 ?_
    refine an_iconst (v := 1) (by decide) dL_law_217 ?_
    refine an_iadd dL_law_218 ?_
    refine an_sld lw_hs hI.2.1 dL_law_219 ?_
    refine an_aload_n rfl dL_law_220 ?_
    refine an_iload rfl dL_law_221 ?_
    refine an_iconst (v := 2) (by decide) dL_law_223 ?_
    refine an_iadd dL_law_224 ?_
    refine an_sld lw_hs hI.2.2.1 dL_law_225 ?_
    refine an_if_eq (tgt := 233) (by decide) dL_law_226 (fun h => absurd h hb) (fun _ => ?_)
    refine an_iconst (v := bI true) (by decide) dL_law_229 ?_
    refine an_goto (tgt := 234) (by decide) dL_law_230 ?_
    refine an_callV (k := 21) (wr := lwX q3 cL f) c2 okX7_bad ml_L_32 (by decide) rfl rfl rfl ⟨by decide, by decide⟩ hc (lw_cat r1) rfl dL_law_234 rfl (fun r2 N2 p2 => ?_)
    obtain ⟨x, rfl, rfl, hR⟩ := h2 r2 N2 p2
    refine an_icmp_eq (tgt := 944) (by decide) dL_law_237 (fun _ => ?_) (fun h9 => absurd rfl h9)
    exact an_widen (Nat.le_succ cs) (Nat.le_add_right sl 6) (K N2 f k5 k6 hR)
set_option maxRecDepth 100000 in
set_option maxHeartbeats 400000 in
theorem lc_242 (ad : Nat → Nat) {b Ln : Nat} {xs : Nat → Int32} {cL : ClassId} {q3 : Nat} {i : Int32} {n cs sl : Nat} {M : am_M} (f : Nat → Int64) (k5 k6 : Option Value) (h : R n M) (hn : n ≤ 1000) (hI : lwI Ln i) (hc : cs ≤ room_1.cells ∧ sl ≤ room_1.slots) (hc1 : cs + 1 ≤ room_1.cells ∧ sl + 6 ≤ room_1.slots) (K : lwK b Ln xs cL ad q3 i n cs sl) : an_W ydL_law room_1 lwQ (lwH2 b Ln xs cL) 242 (lwL ad b q3 i k5 k6) [] (lwW ad q3 cL f M) cs sl := by
  obtain ⟨P1, c1, h1⟩ := two_pull ad h hn (xs (i + 1).toNatClampNeg) (xs (i + 2).toNatClampNeg)
  refine an_aload_n rfl dL_law_242 ?_
  refine an_aload_n rfl dL_law_243 ?_
  refine an_iload rfl dL_law_244 ?_
  refine an_iconst (v := 1) (by decide) dL_law_246 ?_
  refine an_iadd dL_law_247 ?_
  refine an_sld lw_hs hI.2.1 dL_law_248 ?_
  refine an_aload_n rfl dL_law_249 ?_
  refine an_iload rfl dL_law_250 ?_
  refine an_iconst (v := 2) (by decide) dL_law_252 ?_
  refine an_iadd dL_law_253 ?_
  refine an_sld lw_hs hI.2.2.1 dL_law_254 ?_
  refine an_callV (k := 0) (wr := lwX q3 cL f) c1 okX6_pull ml_L_33 (by decide) rfl rfl rfl ⟨by decide, by decide⟩ hc (Nat.le_of_ble_eq_true rfl) rfl dL_law_255 rfl (fun r1 N1 p1 => ?_)
  obtain ⟨P2, c2, h2⟩ := h1 r1 N1 p1
  refine an_aload_n rfl dL_law_258 ?_
  refine an_aload_n rfl dL_law_259 ?_
  refine an_iload rfl dL_law_260 ?_
  refine an_iconst (v := 1) (by decide) dL_law_262 ?_
  refine an_iadd dL_law_263 ?_
  refine an_sld lw_hs hI.2.1 dL_law_264 ?_
  refine an_aload_n rfl dL_law_265 ?_
  refine an_iload rfl dL_law_266 ?_
  refine an_iconst (v := 2) (by decide) dL_law_268 ?_
  refine an_iadd dL_law_269 ?_
  refine an_sld lw_hs hI.2.2.1 dL_law_270 ?_
  refine an_callV (k := 21) (wr := lwX q3 cL f) c2 okX7_pull ml_L_37 (by decide) rfl rfl rfl ⟨by decide, by decide⟩ hc (lw_cat r1) rfl dL_law_271 rfl (fun r2 N2 p2 => ?_)
  obtain ⟨x, rfl, rfl, hR⟩ := h2 r2 N2 p2
  refine an_icmp_eq (tgt := 944) (by decide) dL_law_274 (fun _ => ?_) (fun h9 => absurd rfl h9)
  exact an_widen (Nat.le_succ cs) (Nat.le_add_right sl 6) (K N2 f k5 k6 hR)
set_option maxRecDepth 100000 in
set_option maxHeartbeats 400000 in
theorem lc_279 (ad : Nat → Nat) {b Ln : Nat} {xs : Nat → Int32} {cL : ClassId} {q3 : Nat} {i : Int32} {n cs sl : Nat} {M : am_M} (f : Nat → Int64) (k5 k6 : Option Value) (h : R n M) (hn : n ≤ 1000) (hI : lwI Ln i) (hc : cs ≤ room_1.cells ∧ sl ≤ room_1.slots) (hc1 : cs + 1 ≤ room_1.cells ∧ sl + 6 ≤ room_1.slots) (K : lwK b Ln xs cL ad q3 i n cs sl) : an_W ydL_law room_1 lwQ (lwH2 b Ln xs cL) 279 (lwL ad b q3 i k5 k6) [] (lwW ad q3 cL f M) cs sl := by
  obtain ⟨P1, c1, h1⟩ := two_load ad h hn (xs (i + 1).toNatClampNeg) (xs (i + 2).toNatClampNeg)
  refine an_aload_n rfl dL_law_279 ?_
  refine an_aload_n rfl dL_law_280 ?_
  refine an_iload rfl dL_law_281 ?_
  refine an_iconst (v := 1) (by decide) dL_law_283 ?_
  refine an_iadd dL_law_284 ?_
  refine an_sld lw_hs hI.2.1 dL_law_285 ?_
  refine an_aload_n rfl dL_law_286 ?_
  refine an_iload rfl dL_law_287 ?_
  refine an_iconst (v := 2) (by decide) dL_law_289 ?_
  refine an_iadd dL_law_290 ?_
  refine an_sld lw_hs hI.2.2.1 dL_law_291 ?_
  refine an_callV (k := 0) (wr := lwX q3 cL f) c1 okX6_load ml_L_38 (by decide) rfl rfl rfl ⟨by decide, by decide⟩ hc (Nat.le_of_ble_eq_true rfl) rfl dL_law_292 rfl (fun r1 N1 p1 => ?_)
  obtain ⟨P2, c2, h2⟩ := h1 r1 N1 p1
  refine an_aload_n rfl dL_law_295 ?_
  refine an_aload_n rfl dL_law_296 ?_
  refine an_iload rfl dL_law_297 ?_
  refine an_iconst (v := 1) (by decide) dL_law_299 ?_
  refine an_iadd dL_law_300 ?_
  refine an_sld lw_hs hI.2.1 dL_law_301 ?_
  refine an_aload_n rfl dL_law_302 ?_
  refine an_iload rfl dL_law_303 ?_
  refine an_iconst (v := 2) (by decide) dL_law_305 ?_
  refine an_iadd dL_law_306 ?_
  refine an_sld lw_hs hI.2.2.1 dL_law_307 ?_
  refine an_callV (k := 21) (wr := lwX q3 cL f) c2 okX7_load ml_L_41 (by decide) rfl rfl rfl ⟨by decide, by decide⟩ hc (lw_cat r1) rfl dL_law_308 rfl (fun r2 N2 p2 => ?_)
  obtain ⟨x, rfl, rfl, hR⟩ := h2 r2 N2 p2
  refine an_icmp_eq (tgt := 944) (by decide) dL_law_311 (fun _ => ?_) (fun h9 => absurd rfl h9)
  exact an_widen (Nat.le_succ cs) (Nat.le_add_right sl 6) (K N2 f k5 k6 hR)
set_option maxRecDepth 100000 in
set_option maxHeartbeats 400000 in
theorem lc_316 (ad : Nat → Nat) {b Ln : Nat} {xs : Nat → Int32} {cL : ClassId} {q3 : Nat} {i : Int32} {n cs sl : Nat} {M : am_M} (f : Nat → Int64) (k5 k6 : Option Value) (h : R n M) (hn : n ≤ 1000) (hI : lwI Ln i) (hc : cs ≤ room_1.cells ∧ sl ≤ room_1.slots) (hc1 : cs + 1 ≤ room_1.cells ∧ sl + 6 ≤ room_1.slots) (K : lwK b Ln xs cL ad q3 i n cs sl) : an_W ydL_law room_1 lwQ (lwH2 b Ln xs cL) 316 (lwL ad b q3 i k5 k6) [] (lwW ad q3 cL f M) cs sl := by
  by_cases hb : xs (i + 1).toNatClampNeg = 0
  · obtain ⟨P1, c1, h1⟩ := two_only ad h hn false
    refine an_aload_n rfl dL_law_316 ?_
    refine an_aload_n rfl dL_law_317 ?_
    refine an_iload rfl dL_law_318 ?_
    refine an_iconst (v := 1) (by decide) dL_law_320 ?_
    refine an_iadd dL_law_321 ?_
    refine an_sld lw_hs hI.2.1 dL_law_322 ?_
    refine an_if_eq (tgt := 330) (by decide) dL_law_323 (fun _ => ?_) (fun h => absurd hb h)
    refine an_iconst (v := bI false) (by decide) dL_law_330 ?_
    refine an_callV (k := 0) (wr := lwX q3 cL f) c1 okX6_only ml_L_42 (by decide) rfl rfl rfl ⟨by decide, by decide⟩ hc (Nat.le_of_ble_eq_true rfl) rfl dL_law_331 rfl (fun r1 N1 p1 => ?_)
    obtain ⟨P2, c2, h2⟩ := h1 r1 N1 p1
    refine an_aload_n rfl dL_law_334 ?_
    refine an_aload_n rfl dL_law_335 ?_
    refine an_iload rfl dL_law_336 ?_
    refine an_iconst (v := 1) (by decide) dL_law_338 ?_
    refine an_iadd dL_law_339 ?_
    refine an_sld lw_hs hI.2.1 dL_law_340 ?_
    refine an_if_eq (tgt := 348) (by decide) dL_law_341 (fun _ => ?_) (fun h => absurd hb h)
    refine an_iconst (v := bI false) (by decide) dL_law_348 ?_
    refine an_callV (k := 21) (wr := lwX q3 cL f) c2 okX7_only ml_L_46 (by decide) rfl rfl rfl ⟨by decide, by decide⟩ hc (lw_cat r1) rfl dL_law_349 rfl (fun r2 N2 p2 => ?_)
    obtain ⟨x, rfl, rfl, hR⟩ := h2 r2 N2 p2
    refine an_icmp_eq (tgt := 944) (by decide) dL_law_352 (fun _ => ?_) (fun h9 => absurd rfl h9)
    exact an_widen (Nat.le_succ cs) (Nat.le_add_right sl 6) (K N2 f k5 k6 hR)
  · obtain ⟨P1, c1, h1⟩ := two_only ad h hn true
    refine an_aload_n rfl dL_law_316 ?_
    refine an_aload_n rfl dL_law_317 ?_
    refine an_iload rfl dL_law_318 ?_
    refine an_iconst (v := 1) (by decide) dL_law_320 ?_
    refine an_iadd dL_law_321 ?_
    refine an_sld lw_hs hI.2.1 dL_law_322 ?_
    refine an_if_eq (tgt := 330) (by decide) dL_law_323 (fun h => absurd h hb) (fun _ => ?_)
    refine an_iconst (v := bI true) (by decide) dL_law_326 ?_
    refine an_goto (tgt := 331) (by decide) dL_law_327 ?_
    refine an_callV (k := 0) (wr := lwX q3 cL f) c1 okX6_only ml_L_42 (by decide) rfl rfl rfl ⟨by decide, by decide⟩ hc (Nat.le_of_ble_eq_true rfl) rfl dL_law_331 rfl (fun r1 N1 p1 => ?_)
    obtain ⟨P2, c2, h2⟩ := h1 r1 N1 p1
    refine an_aload_n rfl dL_law_334 ?_
    refine an_aload_n rfl dL_law_335 ?_
    refine an_iload rfl dL_law_336 ?_
    refine an_iconst (v := 1) (by decide) dL_law_338 ?_
    refine an_iadd dL_law_339 ?_
    refine an_sld lw_hs hI.2.1 dL_law_340 ?_
    refine an_if_eq (tgt := 348) (by decide) dL_law_341 (fun h => absurd h hb) (fun _ => ?_)
    refine an_iconst (v := bI true) (by decide) dL_law_344 ?_
    refine an_goto (tgt := 349) (by decide) dL_law_345 ?_
    refine an_callV (k := 21) (wr := lwX q3 cL f) c2 okX7_only ml_L_46 (by decide) rfl rfl rfl ⟨by decide, by decide⟩ hc (lw_cat r1) rfl dL_law_349 rfl (fun r2 N2 p2 => ?_)
    obtain ⟨x, rfl, rfl, hR⟩ := h2 r2 N2 p2
    refine an_icmp_eq (tgt := 944) (by decide) dL_law_352 (fun _ => ?_) (fun h9 => absurd rfl h9)
    exact an_widen (Nat.le_succ cs) (Nat.le_add_right sl 6) (K N2 f k5 k6 hR)
set_option maxRecDepth 100000 in
set_option maxHeartbeats 400000 in
theorem lc_357 (ad : Nat → Nat) {b Ln : Nat} {xs : Nat → Int32} {cL : ClassId} {q3 : Nat} {i : Int32} {n cs sl : Nat} {M : am_M} (f : Nat → Int64) (k5 k6 : Option Value) (h : R n M) (hn : n ≤ 1000) (hI : lwI Ln i) (hc : cs ≤ room_1.cells ∧ sl ≤ room_1.slots) (hc1 : cs + 1 ≤ room_1.cells ∧ sl + 6 ≤ room_1.slots) (K : lwK b Ln xs cL ad q3 i n cs sl) : an_W ydL_law room_1 lwQ (lwH2 b Ln xs cL) 357 (lwL ad b q3 i k5 k6) [] (lwW ad q3 cL f M) cs sl := by
  obtain ⟨P1, c1, h1⟩ := two_ramp ad h (xs (i + 1).toNatClampNeg)
  refine an_aload_n rfl dL_law_357 ?_
  refine an_aload_n rfl dL_law_358 ?_
  refine an_iload rfl dL_law_359 ?_
  refine an_iconst (v := 1) (by decide) dL_law_361 ?_
  refine an_iadd dL_law_362 ?_
  refine an_sld lw_hs hI.2.1 dL_law_363 ?_
  refine an_callV (k := 0) (wr := lwX q3 cL f) c1 okX6_ramp ml_L_47 (by decide) rfl rfl rfl ⟨by decide, by decide⟩ hc (Nat.le_of_ble_eq_true rfl) rfl dL_law_364 rfl (fun r1 N1 p1 => ?_)
  obtain ⟨P2, c2, h2⟩ := h1 r1 N1 p1
  refine an_aload_n rfl dL_law_367 ?_
  refine an_aload_n rfl dL_law_368 ?_
  refine an_iload rfl dL_law_369 ?_
  refine an_iconst (v := 1) (by decide) dL_law_371 ?_
  refine an_iadd dL_law_372 ?_
  refine an_sld lw_hs hI.2.1 dL_law_373 ?_
  refine an_callV (k := 21) (wr := lwX q3 cL f) c2 okX7_ramp ml_L_51 (by decide) rfl rfl rfl ⟨by decide, by decide⟩ hc (lw_cat r1) rfl dL_law_374 rfl (fun r2 N2 p2 => ?_)
  obtain ⟨x, rfl, rfl, hR⟩ := h2 r2 N2 p2
  refine an_icmp_eq (tgt := 944) (by decide) dL_law_377 (fun _ => ?_) (fun h9 => absurd rfl h9)
  exact an_widen (Nat.le_succ cs) (Nat.le_add_right sl 6) (K N2 f k5 k6 hR)
set_option maxRecDepth 100000 in
set_option maxHeartbeats 400000 in
theorem lc_382 (ad : Nat → Nat) {b Ln : Nat} {xs : Nat → Int32} {cL : ClassId} {q3 : Nat} {i : Int32} {n cs sl : Nat} {M : am_M} (f : Nat → Int64) (k5 k6 : Option Value) (h : R n M) (hn : n ≤ 1000) (hI : lwI Ln i) (hc : cs ≤ room_1.cells ∧ sl ≤ room_1.slots) (hc1 : cs + 1 ≤ room_1.cells ∧ sl + 6 ≤ room_1.slots) (K : lwK b Ln xs cL ad q3 i n cs sl) : an_W ydL_law room_1 lwQ (lwH2 b Ln xs cL) 382 (lwL ad b q3 i k5 k6) [] (lwW ad q3 cL f M) cs sl := by
  obtain ⟨P1, c1, h1⟩ := two_speed ad h (xs (i + 1).toNatClampNeg) (xs (i + 2).toNatClampNeg)
  refine an_aload_n rfl dL_law_382 ?_
  refine an_aload_n rfl dL_law_383 ?_
  refine an_iload rfl dL_law_384 ?_
  refine an_iconst (v := 1) (by decide) dL_law_386 ?_
  refine an_iadd dL_law_387 ?_
  refine an_sld lw_hs hI.2.1 dL_law_388 ?_
  refine an_aload_n rfl dL_law_389 ?_
  refine an_iload rfl dL_law_390 ?_
  refine an_iconst (v := 2) (by decide) dL_law_392 ?_
  refine an_iadd dL_law_393 ?_
  refine an_sld lw_hs hI.2.2.1 dL_law_394 ?_
  refine an_callV (k := 0) (wr := lwX q3 cL f) c1 okX6_speed ml_L_52 (by decide) rfl rfl rfl ⟨by decide, by decide⟩ hc (Nat.le_of_ble_eq_true rfl) rfl dL_law_395 rfl (fun r1 N1 p1 => ?_)
  obtain ⟨P2, c2, h2⟩ := h1 r1 N1 p1
  refine an_aload_n rfl dL_law_398 ?_
  refine an_aload_n rfl dL_law_399 ?_
  refine an_iload rfl dL_law_400 ?_
  refine an_iconst (v := 1) (by decide) dL_law_402 ?_
  refine an_iadd dL_law_403 ?_
  refine an_sld lw_hs hI.2.1 dL_law_404 ?_
  refine an_aload_n rfl dL_law_405 ?_
  refine an_iload rfl dL_law_406 ?_
  refine an_iconst (v := 2) (by decide) dL_law_408 ?_
  refine an_iadd dL_law_409 ?_
  refine an_sld lw_hs hI.2.2.1 dL_law_410 ?_
  refine an_callV (k := 21) (wr := lwX q3 cL f) c2 okX7_speed ml_L_55 (by decide) rfl rfl rfl ⟨by decide, by decide⟩ hc (lw_cat r1) rfl dL_law_411 rfl (fun r2 N2 p2 => ?_)
  obtain ⟨x, rfl, rfl, hR⟩ := h2 r2 N2 p2
  refine an_icmp_eq (tgt := 944) (by decide) dL_law_414 (fun _ => ?_) (fun h9 => absurd rfl h9)
  exact an_widen (Nat.le_succ cs) (Nat.le_add_right sl 6) (K N2 f k5 k6 hR)
set_option maxRecDepth 100000 in
set_option maxHeartbeats 400000 in
theorem lc_419 (ad : Nat → Nat) {b Ln : Nat} {xs : Nat → Int32} {cL : ClassId} {q3 : Nat} {i : Int32} {n cs sl : Nat} {M : am_M} (f : Nat → Int64) (k5 k6 : Option Value) (h : R n M) (hn : n ≤ 1000) (hI : lwI Ln i) (hc : cs ≤ room_1.cells ∧ sl ≤ room_1.slots) (hc1 : cs + 1 ≤ room_1.cells ∧ sl + 6 ≤ room_1.slots) (K : lwK b Ln xs cL ad q3 i n cs sl) : an_W ydL_law room_1 lwQ (lwH2 b Ln xs cL) 419 (lwL ad b q3 i k5 k6) [] (lwW ad q3 cL f M) cs sl := by
  obtain ⟨P1, c1, h1⟩ := two_slowing ad h (xs (i + 1).toNatClampNeg) (xs (i + 2).toNatClampNeg) (xs (i + 3).toNatClampNeg)
  refine an_aload_n rfl dL_law_419 ?_
  refine an_aload_n rfl dL_law_420 ?_
  refine an_iload rfl dL_law_421 ?_
  refine an_iconst (v := 1) (by decide) dL_law_423 ?_
  refine an_iadd dL_law_424 ?_
  refine an_sld lw_hs hI.2.1 dL_law_425 ?_
  refine an_aload_n rfl dL_law_426 ?_
  refine an_iload rfl dL_law_427 ?_
  refine an_iconst (v := 2) (by decide) dL_law_429 ?_
  refine an_iadd dL_law_430 ?_
  refine an_sld lw_hs hI.2.2.1 dL_law_431 ?_
  refine an_aload_n rfl dL_law_432 ?_
  refine an_iload rfl dL_law_433 ?_
  refine an_iconst (v := 3) (by decide) dL_law_435 ?_
  refine an_iadd dL_law_436 ?_
  refine an_sld lw_hs hI.2.2.2 dL_law_437 ?_
  refine an_callV (k := 0) (wr := lwX q3 cL f) c1 okX6_slowing ml_L_56 (by decide) rfl rfl rfl ⟨by decide, by decide⟩ hc (Nat.le_of_ble_eq_true rfl) rfl dL_law_438 rfl (fun r1 N1 p1 => ?_)
  obtain ⟨P2, c2, h2⟩ := h1 r1 N1 p1
  refine an_aload_n rfl dL_law_441 ?_
  refine an_aload_n rfl dL_law_442 ?_
  refine an_iload rfl dL_law_443 ?_
  refine an_iconst (v := 1) (by decide) dL_law_445 ?_
  refine an_iadd dL_law_446 ?_
  refine an_sld lw_hs hI.2.1 dL_law_447 ?_
  refine an_aload_n rfl dL_law_448 ?_
  refine an_iload rfl dL_law_449 ?_
  refine an_iconst (v := 2) (by decide) dL_law_451 ?_
  refine an_iadd dL_law_452 ?_
  refine an_sld lw_hs hI.2.2.1 dL_law_453 ?_
  refine an_aload_n rfl dL_law_454 ?_
  refine an_iload rfl dL_law_455 ?_
  refine an_iconst (v := 3) (by decide) dL_law_457 ?_
  refine an_iadd dL_law_458 ?_
  refine an_sld lw_hs hI.2.2.2 dL_law_459 ?_
  refine an_callV (k := 21) (wr := lwX q3 cL f) c2 okX7_slowing ml_L_60 (by decide) rfl rfl rfl ⟨by decide, by decide⟩ hc (lw_cat r1) rfl dL_law_460 rfl (fun r2 N2 p2 => ?_)
  obtain ⟨x, rfl, rfl, hR⟩ := h2 r2 N2 p2
  refine an_icmp_eq (tgt := 944) (by decide) dL_law_463 (fun _ => ?_) (fun h9 => absurd rfl h9)
  exact an_widen (Nat.le_succ cs) (Nat.le_add_right sl 6) (K N2 f k5 k6 hR)
set_option maxRecDepth 100000 in
set_option maxHeartbeats 400000 in
theorem lc_468 (ad : Nat → Nat) {b Ln : Nat} {xs : Nat → Int32} {cL : ClassId} {q3 : Nat} {i : Int32} {n cs sl : Nat} {M : am_M} (f : Nat → Int64) (k5 k6 : Option Value) (h : R n M) (hn : n ≤ 1000) (hI : lwI Ln i) (hc : cs ≤ room_1.cells ∧ sl ≤ room_1.slots) (hc1 : cs + 1 ≤ room_1.cells ∧ sl + 6 ≤ room_1.slots) (K : lwK b Ln xs cL ad q3 i n cs sl) : an_W ydL_law room_1 lwQ (lwH2 b Ln xs cL) 468 (lwL ad b q3 i k5 k6) [] (lwW ad q3 cL f M) cs sl := by
  obtain ⟨P1, c1, h1⟩ := two_move ad h (xs (i + 1).toNatClampNeg) (xs (i + 2).toNatClampNeg) (xs (i + 3).toNatClampNeg)
  refine an_aload_n rfl dL_law_468 ?_
  refine an_aload_n rfl dL_law_469 ?_
  refine an_iload rfl dL_law_470 ?_
  refine an_iconst (v := 1) (by decide) dL_law_472 ?_
  refine an_iadd dL_law_473 ?_
  refine an_sld lw_hs hI.2.1 dL_law_474 ?_
  refine an_aload_n rfl dL_law_475 ?_
  refine an_iload rfl dL_law_476 ?_
  refine an_iconst (v := 2) (by decide) dL_law_478 ?_
  refine an_iadd dL_law_479 ?_
  refine an_sld lw_hs hI.2.2.1 dL_law_480 ?_
  refine an_aload_n rfl dL_law_481 ?_
  refine an_iload rfl dL_law_482 ?_
  refine an_iconst (v := 3) (by decide) dL_law_484 ?_
  refine an_iadd dL_law_485 ?_
  refine an_sld lw_hs hI.2.2.2 dL_law_486 ?_
  refine an_callV (k := 0) (wr := lwX q3 cL f) c1 okX6_move ml_L_61 (by decide) rfl rfl rfl ⟨by decide, by decide⟩ hc (Nat.le_of_ble_eq_true rfl) rfl dL_law_487 rfl (fun r1 N1 p1 => ?_)
  obtain ⟨P2, c2, h2⟩ := h1 r1 N1 p1
  refine an_aload_n rfl dL_law_490 ?_
  refine an_aload_n rfl dL_law_491 ?_
  refine an_iload rfl dL_law_492 ?_
  refine an_iconst (v := 1) (by decide) dL_law_494 ?_
  refine an_iadd dL_law_495 ?_
  refine an_sld lw_hs hI.2.1 dL_law_496 ?_
  refine an_aload_n rfl dL_law_497 ?_
  refine an_iload rfl dL_law_498 ?_
  refine an_iconst (v := 2) (by decide) dL_law_500 ?_
  refine an_iadd dL_law_501 ?_
  refine an_sld lw_hs hI.2.2.1 dL_law_502 ?_
  refine an_aload_n rfl dL_law_503 ?_
  refine an_iload rfl dL_law_504 ?_
  refine an_iconst (v := 3) (by decide) dL_law_506 ?_
  refine an_iadd dL_law_507 ?_
  refine an_sld lw_hs hI.2.2.2 dL_law_508 ?_
  refine an_callV (k := 21) (wr := lwX q3 cL f) c2 okX7_move ml_L_64 (by decide) rfl rfl rfl ⟨by decide, by decide⟩ hc (lw_cat r1) rfl dL_law_509 rfl (fun r2 N2 p2 => ?_)
  obtain ⟨x, rfl, rfl, hR⟩ := h2 r2 N2 p2
  refine an_icmp_eq (tgt := 944) (by decide) dL_law_512 (fun _ => ?_) (fun h9 => absurd rfl h9)
  exact an_widen (Nat.le_succ cs) (Nat.le_add_right sl 6) (K N2 f k5 k6 hR)
set_option maxRecDepth 100000 in
set_option maxHeartbeats 400000 in
theorem lc_517 (ad : Nat → Nat) {b Ln : Nat} {xs : Nat → Int32} {cL : ClassId} {q3 : Nat} {i : Int32} {n cs sl : Nat} {M : am_M} (f : Nat → Int64) (k5 k6 : Option Value) (h : R n M) (hn : n ≤ 1000) (hI : lwI Ln i) (hc : cs ≤ room_1.cells ∧ sl ≤ room_1.slots) (hc1 : cs + 1 ≤ room_1.cells ∧ sl + 6 ≤ room_1.slots) (K : lwK b Ln xs cL ad q3 i n cs sl) : an_W ydL_law room_1 lwQ (lwH2 b Ln xs cL) 517 (lwL ad b q3 i k5 k6) [] (lwW ad q3 cL f M) cs sl := by
  obtain ⟨P1, c1, h1⟩ := two_tick ad h (xs (i + 1).toNatClampNeg)
  refine an_aload_n rfl dL_law_517 ?_
  refine an_aload_n rfl dL_law_518 ?_
  refine an_iload rfl dL_law_519 ?_
  refine an_iconst (v := 1) (by decide) dL_law_521 ?_
  refine an_iadd dL_law_522 ?_
  refine an_sld lw_hs hI.2.1 dL_law_523 ?_
  refine an_callV (k := 0) (wr := lwX q3 cL f) c1 okX6_tick ml_L_65 (by decide) rfl rfl rfl ⟨by decide, by decide⟩ hc (Nat.le_of_ble_eq_true rfl) rfl dL_law_524 rfl (fun r1 N1 p1 => ?_)
  obtain ⟨P2, c2, h2⟩ := h1 r1 N1 p1
  refine an_aload_n rfl dL_law_527 ?_
  refine an_aload_n rfl dL_law_528 ?_
  refine an_iload rfl dL_law_529 ?_
  refine an_iconst (v := 1) (by decide) dL_law_531 ?_
  refine an_iadd dL_law_532 ?_
  refine an_sld lw_hs hI.2.1 dL_law_533 ?_
  refine an_callV (k := 21) (wr := lwX q3 cL f) c2 okX7_tick ml_L_68 (by decide) rfl rfl rfl ⟨by decide, by decide⟩ hc (lw_cat r1) rfl dL_law_534 rfl (fun r2 N2 p2 => ?_)
  obtain ⟨x, rfl, rfl, hR⟩ := h2 r2 N2 p2
  refine an_icmp_eq (tgt := 944) (by decide) dL_law_537 (fun _ => ?_) (fun h9 => absurd rfl h9)
  exact an_widen (Nat.le_succ cs) (Nat.le_add_right sl 6) (K N2 f k5 k6 hR)
set_option maxRecDepth 100000 in
set_option maxHeartbeats 400000 in
theorem lc_542 (ad : Nat → Nat) {b Ln : Nat} {xs : Nat → Int32} {cL : ClassId} {q3 : Nat} {i : Int32} {n cs sl : Nat} {M : am_M} (f : Nat → Int64) (k5 k6 : Option Value) (h : R n M) (hn : n ≤ 1000) (hI : lwI Ln i) (hc : cs ≤ room_1.cells ∧ sl ≤ room_1.slots) (hc1 : cs + 1 ≤ room_1.cells ∧ sl + 6 ≤ room_1.slots) (K : lwK b Ln xs cL ad q3 i n cs sl) : an_W ydL_law room_1 lwQ (lwH2 b Ln xs cL) 542 (lwL ad b q3 i k5 k6) [] (lwW ad q3 cL f M) cs sl := by
  obtain ⟨P1, c1, h1⟩ := two_stop ad h
  refine an_aload_n rfl dL_law_542 ?_
  refine an_callV (k := 0) (wr := lwX q3 cL f) c1 okX6_stop ml_L_69 (by decide) rfl rfl rfl ⟨by decide, by decide⟩ hc (Nat.le_of_ble_eq_true rfl) rfl dL_law_543 rfl (fun r1 N1 p1 => ?_)
  obtain ⟨P2, c2, h2⟩ := h1 r1 N1 p1
  refine an_aload_n rfl dL_law_546 ?_
  refine an_callV (k := 21) (wr := lwX q3 cL f) c2 okX7_stop ml_L_73 (by decide) rfl rfl rfl ⟨by decide, by decide⟩ hc (lw_cat r1) rfl dL_law_547 rfl (fun r2 N2 p2 => ?_)
  obtain ⟨x, rfl, rfl, hR⟩ := h2 r2 N2 p2
  refine an_icmp_eq (tgt := 944) (by decide) dL_law_550 (fun _ => ?_) (fun h9 => absurd rfl h9)
  exact an_widen (Nat.le_succ cs) (Nat.le_add_right sl 6) (K N2 f k5 k6 hR)
set_option maxRecDepth 100000 in
set_option maxHeartbeats 400000 in
theorem lc_555 (ad : Nat → Nat) {b Ln : Nat} {xs : Nat → Int32} {cL : ClassId} {q3 : Nat} {i : Int32} {n cs sl : Nat} {M : am_M} (f : Nat → Int64) (k5 k6 : Option Value) (h : R n M) (hn : n ≤ 1000) (hI : lwI Ln i) (hc : cs ≤ room_1.cells ∧ sl ≤ room_1.slots) (hc1 : cs + 1 ≤ room_1.cells ∧ sl + 6 ≤ room_1.slots) (K : lwK b Ln xs cL ad q3 i n cs sl) : an_W ydL_law room_1 lwQ (lwH2 b Ln xs cL) 555 (lwL ad b q3 i k5 k6) [] (lwW ad q3 cL f M) cs sl := by
  by_cases hb : xs (i + 2).toNatClampNeg = 0
  · obtain ⟨t, f', c1, v, N, c2, hR, ht, hv⟩ := th_place ad h (xs (i + 1).toNatClampNeg) false q3 cL f
    refine an_aload_n rfl dL_law_555 ?_
    refine an_aload_n rfl dL_law_556 ?_
    refine an_iload rfl dL_law_557 ?_
    refine an_iconst (v := 1) (by decide) dL_law_559 ?_
    refine an_iadd dL_law_560 ?_
    refine an_sld lw_hs hI.2.1 dL_law_561 ?_
    refine an_aload_n rfl dL_law_562 ?_
    refine an_iload rfl dL_law_563 ?_
    refine an_iconst (v := 2) (by decide) dL_law_565 ?_
    refine an_iadd dL_law_566 ?_
    refine an_sld lw_hs hI.2.2.1 dL_law_567 ?_
    refine an_if_eq (tgt := 575) (by decide) dL_law_568 (fun _ => ?_) (fun h => absurd hb h)
    refine an_iconst (v := bI false) (by decide) dL_law_575 ?_
    refine an_aload_n rfl dL_law_576 ?_
    refine an_swap (a := lwX q3 cL f) (b := an_am am_II ad M) rfl ?_
    refine an_callSW (wr := []) c1 okL_place ml_L_74 rfl ⟨by decide, by decide⟩ hc1 (Nat.le_of_ble_eq_true rfl) rfl dL_law_577 rfl rfl rfl lw_hx (fun r1 w1 p1 => ?_)
    obtain ⟨rfl, rfl⟩ := p1
    refine an_istore (by decide) dL_law_580 ?_
    refine an_swap (a := an_am am_II ad M) (b := lwX q3 cL f') rfl ?_
    refine an_aload_n rfl dL_law_582 ?_
    refine an_aload_n rfl dL_law_583 ?_
    refine an_iload rfl dL_law_584 ?_
    refine an_iconst (v := 1) (by decide) dL_law_586 ?_
    refine an_iadd dL_law_587 ?_
    refine an_sld lw_hs hI.2.1 dL_law_588 ?_
    refine an_aload_n rfl dL_law_589 ?_
    refine an_iload rfl dL_law_590 ?_
    refine an_iconst (v := 2) (by decide) dL_law_592 ?_
    refine an_iadd dL_law_593 ?_
    refine an_sld lw_hs hI.2.2.1 dL_law_594 ?_
    refine an_if_eq (tgt := 602) (by decide) dL_law_595 (fun _ => ?_) (fun h => absurd hb h)
    refine an_iconst (v := bI false) (by decide) dL_law_602 ?_
    refine an_callV (k := 21) (wr := lwX q3 cL f') c2 okX7_place ml_L_79 (by decide) rfl rfl rfl ⟨by decide, by decide⟩ hc1 (Nat.le_of_ble_eq_true rfl) rfl dL_law_603 rfl (fun r2 N2 p2 => ?_)
    obtain ⟨rfl, rfl⟩ := p2
    refine an_istore (by decide) dL_law_606 ?_
    refine an_aload_n rfl dL_law_608 ?_
    refine an_callV (k := 21) (wr := lwX q3 cL f') (c_X7_thrown ad _) okX7_thrown ml_L_80 (by decide) rfl rfl rfl ⟨by decide, by decide⟩ hc1 (Nat.le_of_ble_eq_true rfl) rfl dL_law_609 rfl (fun r3 N3 p3 => ?_)
    obtain ⟨rfl, rfl⟩ := p3
    refine an_iload rfl dL_law_612 ?_
    refine an_icmp_eq (tgt := 619) (by decide) dL_law_614 (fun _ => ?_) (fun h9 => absurd ht h9)
    refine an_iload rfl dL_law_619 ?_
    have Kg : an_W ydL_law room_1 lwQ (lwH2 b Ln xs cL) 636 (lwL ad b q3 i (some (.int t)) (some (.int v))) [] (lwW ad q3 cL f' N3) (cs + 1) (sl + 6) := an_goto (tgt := 944) (by decide) dL_law_636 (K N3 f' _ _ hR)
    refine an_if_ne (tgt := 636) (by decide) dL_law_621 (fun _ => Kg) (fun h0 => ?_)
    refine an_aload_n rfl dL_law_624 ?_
    refine an_iconst (v := 0) (by decide) dL_law_625 ?_
    refine an_lald 0 lw_hl rfl (am_vpI (by decide) (by decide)) dL_law_626 ?_
    refine an_iload rfl dL_law_627 ?_
    refine an_i2l dL_law_629 ?_
    refine an_lcmp dL_law_630 ?_
    refine an_if_eq (tgt := 636) (by decide) dL_law_631 (fun _ => Kg) (fun h9 => absurd ?_ h9)
    rw [show (0 : Int32).toNatClampNeg = 0 from by decide, hv h0]
    exact lw_same _
  · obtain ⟨t, f', c1, v, N, c2, hR, ht, hv⟩ := th_place ad h (xs (i + 1).toNatClampNeg) true q3 cL f
    refine an_aload_n rfl dL_law_555 ?_
    refine an_aload_n rfl dL_law_556 ?_
    refine an_iload rfl dL_law_557 ?_
    refine an_iconst (v := 1) (by decide) dL_law_559 ?_
    refine an_iadd dL_law_560 ?_
    refine an_sld lw_hs hI.2.1 dL_law_561 ?_
    refine an_aload_n rfl dL_law_562 ?_
    refine an_iload rfl dL_law_563 ?_
    refine an_iconst (v := 2) (by decide) dL_law_565 ?_
    refine an_iadd dL_law_566 ?_
    refine an_sld lw_hs hI.2.2.1 dL_law_567 ?_
    refine an_if_eq (tgt := 575) (by decide) dL_law_568 (fun h => absurd h hb) (fun _ => ?_)
    refine an_iconst (v := bI true) (by decide) dL_law_571 ?_
    refine an_goto (tgt := 576) (by decide) dL_law_572 ?_
    refine an_aload_n rfl dL_law_576 ?_
    refine an_swap (a := lwX q3 cL f) (b := an_am am_II ad M) rfl ?_
    refine an_callSW (wr := []) c1 okL_place ml_L_74 rfl ⟨by decide, by decide⟩ hc1 (Nat.le_of_ble_eq_true rfl) rfl dL_law_577 rfl rfl rfl lw_hx (fun r1 w1 p1 => ?_)
    obtain ⟨rfl, rfl⟩ := p1
    refine an_istore (by decide) dL_law_580 ?_
    refine an_swap (a := an_am am_II ad M) (b := lwX q3 cL f') rfl ?_
    refine an_aload_n rfl dL_law_582 ?_
    refine an_aload_n rfl dL_law_583 ?_
    refine an_iload rfl dL_law_584 ?_
    refine an_iconst (v := 1) (by decide) dL_law_586 ?_
    refine an_iadd dL_law_587 ?_
    refine an_sld lw_hs hI.2.1 dL_law_588 ?_
    refine an_aload_n rfl dL_law_589 ?_
    refine an_iload rfl dL_law_590 ?_
    refine an_iconst (v := 2) (by decide) dL_law_592 ?_
    refine an_iadd dL_law_593 ?_
    refine an_sld lw_hs hI.2.2.1 dL_law_594 ?_
    refine an_if_eq (tgt := 602) (by decide) dL_law_595 (fun h => absurd h hb) (fun _ => ?_)
    refine an_iconst (v := bI true) (by decide) dL_law_598 ?_
    refine an_goto (tgt := 603) (by decide) dL_law_599 ?_
    refine an_callV (k := 21) (wr := lwX q3 cL f') c2 okX7_place ml_L_79 (by decide) rfl rfl rfl ⟨by decide, by decide⟩ hc1 (Nat.le_of_ble_eq_true rfl) rfl dL_law_603 rfl (fun r2 N2 p2 => ?_)
    obtain ⟨rfl, rfl⟩ := p2
    refine an_istore (by decide) dL_law_606 ?_
    refine an_aload_n rfl dL_law_608 ?_
    refine an_callV (k := 21) (wr := lwX q3 cL f') (c_X7_thrown ad _) okX7_thrown ml_L_80 (by decide) rfl rfl rfl ⟨by decide, by decide⟩ hc1 (Nat.le_of_ble_eq_true rfl) rfl dL_law_609 rfl (fun r3 N3 p3 => ?_)
    obtain ⟨rfl, rfl⟩ := p3
    refine an_iload rfl dL_law_612 ?_
    refine an_icmp_eq (tgt := 619) (by decide) dL_law_614 (fun _ => ?_) (fun h9 => absurd ht h9)
    refine an_iload rfl dL_law_619 ?_
    have Kg : an_W ydL_law room_1 lwQ (lwH2 b Ln xs cL) 636 (lwL ad b q3 i (some (.int t)) (some (.int v))) [] (lwW ad q3 cL f' N3) (cs + 1) (sl + 6) := an_goto (tgt := 944) (by decide) dL_law_636 (K N3 f' _ _ hR)
    refine an_if_ne (tgt := 636) (by decide) dL_law_621 (fun _ => Kg) (fun h0 => ?_)
    refine an_aload_n rfl dL_law_624 ?_
    refine an_iconst (v := 0) (by decide) dL_law_625 ?_
    refine an_lald 0 lw_hl rfl (am_vpI (by decide) (by decide)) dL_law_626 ?_
    refine an_iload rfl dL_law_627 ?_
    refine an_i2l dL_law_629 ?_
    refine an_lcmp dL_law_630 ?_
    refine an_if_eq (tgt := 636) (by decide) dL_law_631 (fun _ => Kg) (fun h9 => absurd ?_ h9)
    rw [show (0 : Int32).toNatClampNeg = 0 from by decide, hv h0]
    exact lw_same _
set_option maxRecDepth 100000 in
set_option maxHeartbeats 400000 in
theorem lc_639 (ad : Nat → Nat) {b Ln : Nat} {xs : Nat → Int32} {cL : ClassId} {q3 : Nat} {i : Int32} {n cs sl : Nat} {M : am_M} (f : Nat → Int64) (k5 k6 : Option Value) (h : R n M) (hn : n ≤ 1000) (hI : lwI Ln i) (hc : cs ≤ room_1.cells ∧ sl ≤ room_1.slots) (hc1 : cs + 1 ≤ room_1.cells ∧ sl + 6 ≤ room_1.slots) (K : lwK b Ln xs cL ad q3 i n cs sl) : an_W ydL_law room_1 lwQ (lwH2 b Ln xs cL) 639 (lwL ad b q3 i k5 k6) [] (lwW ad q3 cL f M) cs sl := by
  obtain ⟨P1, c1, h1⟩ := two_state ad h (xs (i + 1).toNatClampNeg)
  refine an_aload_n rfl dL_law_639 ?_
  refine an_aload_n rfl dL_law_640 ?_
  refine an_iload rfl dL_law_641 ?_
  refine an_iconst (v := 1) (by decide) dL_law_643 ?_
  refine an_iadd dL_law_644 ?_
  refine an_sld lw_hs hI.2.1 dL_law_645 ?_
  refine an_callV (k := 0) (wr := lwX q3 cL f) c1 okX6_state ml_L_83 (by decide) rfl rfl rfl ⟨by decide, by decide⟩ hc (Nat.le_of_ble_eq_true rfl) rfl dL_law_646 rfl (fun r1 N1 p1 => ?_)
  obtain ⟨P2, c2, h2⟩ := h1 r1 N1 p1
  refine an_aload_n rfl dL_law_649 ?_
  refine an_aload_n rfl dL_law_650 ?_
  refine an_iload rfl dL_law_651 ?_
  refine an_iconst (v := 1) (by decide) dL_law_653 ?_
  refine an_iadd dL_law_654 ?_
  refine an_sld lw_hs hI.2.1 dL_law_655 ?_
  refine an_callV (k := 21) (wr := lwX q3 cL f) c2 okX7_state ml_L_86 (by decide) rfl rfl rfl ⟨by decide, by decide⟩ hc (lw_cat r1) rfl dL_law_656 rfl (fun r2 N2 p2 => ?_)
  obtain ⟨x, rfl, rfl, hR⟩ := h2 r2 N2 p2
  refine an_icmp_eq (tgt := 944) (by decide) dL_law_659 (fun _ => ?_) (fun h9 => absurd rfl h9)
  exact an_widen (Nat.le_succ cs) (Nat.le_add_right sl 6) (K N2 f k5 k6 hR)
set_option maxRecDepth 100000 in
set_option maxHeartbeats 400000 in
theorem lc_664 (ad : Nat → Nat) {b Ln : Nat} {xs : Nat → Int32} {cL : ClassId} {q3 : Nat} {i : Int32} {n cs sl : Nat} {M : am_M} (f : Nat → Int64) (k5 k6 : Option Value) (h : R n M) (hn : n ≤ 1000) (hI : lwI Ln i) (hc : cs ≤ room_1.cells ∧ sl ≤ room_1.slots) (hc1 : cs + 1 ≤ room_1.cells ∧ sl + 6 ≤ room_1.slots) (K : lwK b Ln xs cL ad q3 i n cs sl) : an_W ydL_law room_1 lwQ (lwH2 b Ln xs cL) 664 (lwL ad b q3 i k5 k6) [] (lwW ad q3 cL f M) cs sl := by
  obtain ⟨P1, c1, h1⟩ := two_at ad h (xs (i + 1).toNatClampNeg) (xs (i + 2).toNatClampNeg)
  refine an_aload_n rfl dL_law_664 ?_
  refine an_aload_n rfl dL_law_665 ?_
  refine an_iload rfl dL_law_666 ?_
  refine an_iconst (v := 1) (by decide) dL_law_668 ?_
  refine an_iadd dL_law_669 ?_
  refine an_sld lw_hs hI.2.1 dL_law_670 ?_
  refine an_aload_n rfl dL_law_671 ?_
  refine an_iload rfl dL_law_672 ?_
  refine an_iconst (v := 2) (by decide) dL_law_674 ?_
  refine an_iadd dL_law_675 ?_
  refine an_sld lw_hs hI.2.2.1 dL_law_676 ?_
  refine an_callV (k := 0) (wr := lwX q3 cL f) c1 okX6_at ml_L_87 (by decide) rfl rfl rfl ⟨by decide, by decide⟩ hc (Nat.le_of_ble_eq_true rfl) rfl dL_law_677 rfl (fun r1 N1 p1 => ?_)
  obtain ⟨P2, c2, h2⟩ := h1 r1 N1 p1
  refine an_aload_n rfl dL_law_680 ?_
  refine an_aload_n rfl dL_law_681 ?_
  refine an_iload rfl dL_law_682 ?_
  refine an_iconst (v := 1) (by decide) dL_law_684 ?_
  refine an_iadd dL_law_685 ?_
  refine an_sld lw_hs hI.2.1 dL_law_686 ?_
  refine an_aload_n rfl dL_law_687 ?_
  refine an_iload rfl dL_law_688 ?_
  refine an_iconst (v := 2) (by decide) dL_law_690 ?_
  refine an_iadd dL_law_691 ?_
  refine an_sld lw_hs hI.2.2.1 dL_law_692 ?_
  refine an_callV (k := 21) (wr := lwX q3 cL f) c2 okX7_at ml_L_90 (by decide) rfl rfl rfl ⟨by decide, by decide⟩ hc (lw_cat r1) rfl dL_law_693 rfl (fun r2 N2 p2 => ?_)
  obtain ⟨x, rfl, rfl, hR⟩ := h2 r2 N2 p2
  refine an_icmp_eq (tgt := 944) (by decide) dL_law_696 (fun _ => ?_) (fun h9 => absurd rfl h9)
  exact an_widen (Nat.le_succ cs) (Nat.le_add_right sl 6) (K N2 f k5 k6 hR)
set_option maxRecDepth 100000 in
set_option maxHeartbeats 400000 in
theorem lc_701 (ad : Nat → Nat) {b Ln : Nat} {xs : Nat → Int32} {cL : ClassId} {q3 : Nat} {i : Int32} {n cs sl : Nat} {M : am_M} (f : Nat → Int64) (k5 k6 : Option Value) (h : R n M) (hn : n ≤ 1000) (hI : lwI Ln i) (hc : cs ≤ room_1.cells ∧ sl ≤ room_1.slots) (hc1 : cs + 1 ≤ room_1.cells ∧ sl + 6 ≤ room_1.slots) (K : lwK b Ln xs cL ad q3 i n cs sl) : an_W ydL_law room_1 lwQ (lwH2 b Ln xs cL) 701 (lwL ad b q3 i k5 k6) [] (lwW ad q3 cL f M) cs sl := by
  obtain ⟨P1, c1, h1⟩ := two_on ad h (xs (i + 1).toNatClampNeg)
  refine an_aload_n rfl dL_law_701 ?_
  refine an_aload_n rfl dL_law_702 ?_
  refine an_iload rfl dL_law_703 ?_
  refine an_iconst (v := 1) (by decide) dL_law_705 ?_
  refine an_iadd dL_law_706 ?_
  refine an_sld lw_hs hI.2.1 dL_law_707 ?_
  refine an_callV (k := 0) (wr := lwX q3 cL f) c1 okX6_on ml_L_91 (by decide) rfl rfl rfl ⟨by decide, by decide⟩ hc (Nat.le_of_ble_eq_true rfl) rfl dL_law_708 rfl (fun r1 N1 p1 => ?_)
  obtain ⟨P2, c2, h2⟩ := h1 r1 N1 p1
  refine an_aload_n rfl dL_law_711 ?_
  refine an_aload_n rfl dL_law_712 ?_
  refine an_iload rfl dL_law_713 ?_
  refine an_iconst (v := 1) (by decide) dL_law_715 ?_
  refine an_iadd dL_law_716 ?_
  refine an_sld lw_hs hI.2.1 dL_law_717 ?_
  refine an_callV (k := 21) (wr := lwX q3 cL f) c2 okX7_on ml_L_94 (by decide) rfl rfl rfl ⟨by decide, by decide⟩ hc (lw_cat r1) rfl dL_law_718 rfl (fun r2 N2 p2 => ?_)
  obtain ⟨x, rfl, rfl, hR⟩ := h2 r2 N2 p2
  refine an_icmp_eq (tgt := 944) (by decide) dL_law_721 (fun _ => ?_) (fun h9 => absurd rfl h9)
  exact an_widen (Nat.le_succ cs) (Nat.le_add_right sl 6) (K N2 f k5 k6 hR)
set_option maxRecDepth 100000 in
set_option maxHeartbeats 400000 in
theorem lc_726 (ad : Nat → Nat) {b Ln : Nat} {xs : Nat → Int32} {cL : ClassId} {q3 : Nat} {i : Int32} {n cs sl : Nat} {M : am_M} (f : Nat → Int64) (k5 k6 : Option Value) (h : R n M) (hn : n ≤ 1000) (hI : lwI Ln i) (hc : cs ≤ room_1.cells ∧ sl ≤ room_1.slots) (hc1 : cs + 1 ≤ room_1.cells ∧ sl + 6 ≤ room_1.slots) (K : lwK b Ln xs cL ad q3 i n cs sl) : an_W ydL_law room_1 lwQ (lwH2 b Ln xs cL) 726 (lwL ad b q3 i k5 k6) [] (lwW ad q3 cL f M) cs sl := by
  obtain ⟨P1, c1, h1⟩ := two_home ad h (xs (i + 1).toNatClampNeg)
  refine an_aload_n rfl dL_law_726 ?_
  refine an_aload_n rfl dL_law_727 ?_
  refine an_iload rfl dL_law_728 ?_
  refine an_iconst (v := 1) (by decide) dL_law_730 ?_
  refine an_iadd dL_law_731 ?_
  refine an_sld lw_hs hI.2.1 dL_law_732 ?_
  refine an_callV (k := 0) (wr := lwX q3 cL f) c1 okX6_home ml_L_95 (by decide) rfl rfl rfl ⟨by decide, by decide⟩ hc (Nat.le_of_ble_eq_true rfl) rfl dL_law_733 rfl (fun r1 N1 p1 => ?_)
  obtain ⟨P2, c2, h2⟩ := h1 r1 N1 p1
  refine an_aload_n rfl dL_law_736 ?_
  refine an_aload_n rfl dL_law_737 ?_
  refine an_iload rfl dL_law_738 ?_
  refine an_iconst (v := 1) (by decide) dL_law_740 ?_
  refine an_iadd dL_law_741 ?_
  refine an_sld lw_hs hI.2.1 dL_law_742 ?_
  refine an_callV (k := 21) (wr := lwX q3 cL f) c2 okX7_home ml_L_98 (by decide) rfl rfl rfl ⟨by decide, by decide⟩ hc (lw_cat r1) rfl dL_law_743 rfl (fun r2 N2 p2 => ?_)
  obtain ⟨x, rfl, rfl, hR⟩ := h2 r2 N2 p2
  refine an_icmp_eq (tgt := 944) (by decide) dL_law_746 (fun _ => ?_) (fun h9 => absurd rfl h9)
  exact an_widen (Nat.le_succ cs) (Nat.le_add_right sl 6) (K N2 f k5 k6 hR)
set_option maxRecDepth 100000 in
set_option maxHeartbeats 400000 in
theorem lc_751 (ad : Nat → Nat) {b Ln : Nat} {xs : Nat → Int32} {cL : ClassId} {q3 : Nat} {i : Int32} {n cs sl : Nat} {M : am_M} (f : Nat → Int64) (k5 k6 : Option Value) (h : R n M) (hn : n ≤ 1000) (hI : lwI Ln i) (hc : cs ≤ room_1.cells ∧ sl ≤ room_1.slots) (hc1 : cs + 1 ≤ room_1.cells ∧ sl + 6 ≤ room_1.slots) (K : lwK b Ln xs cL ad q3 i n cs sl) : an_W ydL_law room_1 lwQ (lwH2 b Ln xs cL) 751 (lwL ad b q3 i k5 k6) [] (lwW ad q3 cL f M) cs sl := by
  obtain ⟨P1, c1, h1⟩ := two_table ad h (xs (i + 1).toNatClampNeg) (xs (i + 2).toNatClampNeg)
  refine an_aload_n rfl dL_law_751 ?_
  refine an_aload_n rfl dL_law_752 ?_
  refine an_iload rfl dL_law_753 ?_
  refine an_iconst (v := 1) (by decide) dL_law_755 ?_
  refine an_iadd dL_law_756 ?_
  refine an_sld lw_hs hI.2.1 dL_law_757 ?_
  refine an_aload_n rfl dL_law_758 ?_
  refine an_iload rfl dL_law_759 ?_
  refine an_iconst (v := 2) (by decide) dL_law_761 ?_
  refine an_iadd dL_law_762 ?_
  refine an_sld lw_hs hI.2.2.1 dL_law_763 ?_
  refine an_callV (k := 0) (wr := lwX q3 cL f) c1 okX6_table ml_L_99 (by decide) rfl rfl rfl ⟨by decide, by decide⟩ hc (Nat.le_of_ble_eq_true rfl) rfl dL_law_764 rfl (fun r1 N1 p1 => ?_)
  obtain ⟨P2, c2, h2⟩ := h1 r1 N1 p1
  refine an_aload_n rfl dL_law_767 ?_
  refine an_aload_n rfl dL_law_768 ?_
  refine an_iload rfl dL_law_769 ?_
  refine an_iconst (v := 1) (by decide) dL_law_771 ?_
  refine an_iadd dL_law_772 ?_
  refine an_sld lw_hs hI.2.1 dL_law_773 ?_
  refine an_aload_n rfl dL_law_774 ?_
  refine an_iload rfl dL_law_775 ?_
  refine an_iconst (v := 2) (by decide) dL_law_777 ?_
  refine an_iadd dL_law_778 ?_
  refine an_sld lw_hs hI.2.2.1 dL_law_779 ?_
  refine an_callV (k := 21) (wr := lwX q3 cL f) c2 okX7_table ml_L_102 (by decide) rfl rfl rfl ⟨by decide, by decide⟩ hc (lw_cat r1) rfl dL_law_780 rfl (fun r2 N2 p2 => ?_)
  obtain ⟨x, rfl, rfl, hR⟩ := h2 r2 N2 p2
  refine an_icmp_eq (tgt := 944) (by decide) dL_law_783 (fun _ => ?_) (fun h9 => absurd rfl h9)
  exact an_widen (Nat.le_succ cs) (Nat.le_add_right sl 6) (K N2 f k5 k6 hR)
set_option maxRecDepth 100000 in
set_option maxHeartbeats 400000 in
theorem lc_788 (ad : Nat → Nat) {b Ln : Nat} {xs : Nat → Int32} {cL : ClassId} {q3 : Nat} {i : Int32} {n cs sl : Nat} {M : am_M} (f : Nat → Int64) (k5 k6 : Option Value) (h : R n M) (hn : n ≤ 1000) (hI : lwI Ln i) (hc : cs ≤ room_1.cells ∧ sl ≤ room_1.slots) (hc1 : cs + 1 ≤ room_1.cells ∧ sl + 6 ≤ room_1.slots) (K : lwK b Ln xs cL ad q3 i n cs sl) : an_W ydL_law room_1 lwQ (lwH2 b Ln xs cL) 788 (lwL ad b q3 i k5 k6) [] (lwW ad q3 cL f M) cs sl := by
  obtain ⟨P1, c1, h1⟩ := two_set ad h (xs (i + 1).toNatClampNeg) (xs (i + 2).toNatClampNeg)
  refine an_aload_n rfl dL_law_788 ?_
  refine an_aload_n rfl dL_law_789 ?_
  refine an_iload rfl dL_law_790 ?_
  refine an_iconst (v := 1) (by decide) dL_law_792 ?_
  refine an_iadd dL_law_793 ?_
  refine an_sld lw_hs hI.2.1 dL_law_794 ?_
  refine an_aload_n rfl dL_law_795 ?_
  refine an_iload rfl dL_law_796 ?_
  refine an_iconst (v := 2) (by decide) dL_law_798 ?_
  refine an_iadd dL_law_799 ?_
  refine an_sld lw_hs hI.2.2.1 dL_law_800 ?_
  refine an_callV (k := 0) (wr := lwX q3 cL f) c1 okX6_set ml_L_103 (by decide) rfl rfl rfl ⟨by decide, by decide⟩ hc (Nat.le_of_ble_eq_true rfl) rfl dL_law_801 rfl (fun r1 N1 p1 => ?_)
  obtain ⟨P2, c2, h2⟩ := h1 r1 N1 p1
  refine an_aload_n rfl dL_law_804 ?_
  refine an_aload_n rfl dL_law_805 ?_
  refine an_iload rfl dL_law_806 ?_
  refine an_iconst (v := 1) (by decide) dL_law_808 ?_
  refine an_iadd dL_law_809 ?_
  refine an_sld lw_hs hI.2.1 dL_law_810 ?_
  refine an_aload_n rfl dL_law_811 ?_
  refine an_iload rfl dL_law_812 ?_
  refine an_iconst (v := 2) (by decide) dL_law_814 ?_
  refine an_iadd dL_law_815 ?_
  refine an_sld lw_hs hI.2.2.1 dL_law_816 ?_
  refine an_callV (k := 21) (wr := lwX q3 cL f) c2 okX7_set ml_L_106 (by decide) rfl rfl rfl ⟨by decide, by decide⟩ hc (lw_cat r1) rfl dL_law_817 rfl (fun r2 N2 p2 => ?_)
  obtain ⟨x, rfl, rfl, hR⟩ := h2 r2 N2 p2
  refine an_icmp_eq (tgt := 944) (by decide) dL_law_820 (fun _ => ?_) (fun h9 => absurd rfl h9)
  exact an_widen (Nat.le_succ cs) (Nat.le_add_right sl 6) (K N2 f k5 k6 hR)
set_option maxRecDepth 100000 in
set_option maxHeartbeats 400000 in
theorem lc_825 (ad : Nat → Nat) {b Ln : Nat} {xs : Nat → Int32} {cL : ClassId} {q3 : Nat} {i : Int32} {n cs sl : Nat} {M : am_M} (f : Nat → Int64) (k5 k6 : Option Value) (h : R n M) (hn : n ≤ 1000) (hI : lwI Ln i) (hc : cs ≤ room_1.cells ∧ sl ≤ room_1.slots) (hc1 : cs + 1 ≤ room_1.cells ∧ sl + 6 ≤ room_1.slots) (K : lwK b Ln xs cL ad q3 i n cs sl) : an_W ydL_law room_1 lwQ (lwH2 b Ln xs cL) 825 (lwL ad b q3 i k5 k6) [] (lwW ad q3 cL f M) cs sl := by
  obtain ⟨t, f', c1, v, N, c2, hR, ht, hv⟩ := th_current ad h (xs (i + 1).toNatClampNeg) (xs (i + 2).toNatClampNeg) q3 cL f
  refine an_aload_n rfl dL_law_825 ?_
  refine an_aload_n rfl dL_law_826 ?_
  refine an_iload rfl dL_law_827 ?_
  refine an_iconst (v := 1) (by decide) dL_law_829 ?_
  refine an_iadd dL_law_830 ?_
  refine an_sld lw_hs hI.2.1 dL_law_831 ?_
  refine an_aload_n rfl dL_law_832 ?_
  refine an_iload rfl dL_law_833 ?_
  refine an_iconst (v := 2) (by decide) dL_law_835 ?_
  refine an_iadd dL_law_836 ?_
  refine an_sld lw_hs hI.2.2.1 dL_law_837 ?_
  refine an_aload_n rfl dL_law_838 ?_
  refine an_swap (a := lwX q3 cL f) (b := an_am am_II ad M) rfl ?_
  refine an_callSW (wr := []) c1 okL_current ml_L_107 rfl ⟨by decide, by decide⟩ hc1 (Nat.le_of_ble_eq_true rfl) rfl dL_law_839 rfl rfl rfl lw_hx (fun r1 w1 p1 => ?_)
  obtain ⟨rfl, rfl⟩ := p1
  refine an_istore (by decide) dL_law_842 ?_
  refine an_swap (a := an_am am_II ad M) (b := lwX q3 cL f') rfl ?_
  refine an_aload_n rfl dL_law_844 ?_
  refine an_aload_n rfl dL_law_845 ?_
  refine an_iload rfl dL_law_846 ?_
  refine an_iconst (v := 1) (by decide) dL_law_848 ?_
  refine an_iadd dL_law_849 ?_
  refine an_sld lw_hs hI.2.1 dL_law_850 ?_
  refine an_aload_n rfl dL_law_851 ?_
  refine an_iload rfl dL_law_852 ?_
  refine an_iconst (v := 2) (by decide) dL_law_854 ?_
  refine an_iadd dL_law_855 ?_
  refine an_sld lw_hs hI.2.2.1 dL_law_856 ?_
  refine an_callV (k := 21) (wr := lwX q3 cL f') c2 okX7_current ml_L_110 (by decide) rfl rfl rfl ⟨by decide, by decide⟩ hc1 (Nat.le_of_ble_eq_true rfl) rfl dL_law_857 rfl (fun r2 N2 p2 => ?_)
  obtain ⟨rfl, rfl⟩ := p2
  refine an_istore (by decide) dL_law_860 ?_
  refine an_aload_n rfl dL_law_862 ?_
  refine an_callV (k := 21) (wr := lwX q3 cL f') (c_X7_thrown ad _) okX7_thrown ml_L_80 (by decide) rfl rfl rfl ⟨by decide, by decide⟩ hc1 (Nat.le_of_ble_eq_true rfl) rfl dL_law_863 rfl (fun r3 N3 p3 => ?_)
  obtain ⟨rfl, rfl⟩ := p3
  refine an_iload rfl dL_law_866 ?_
  refine an_icmp_eq (tgt := 873) (by decide) dL_law_868 (fun _ => ?_) (fun h9 => absurd ht h9)
  refine an_iload rfl dL_law_873 ?_
  have Kg : an_W ydL_law room_1 lwQ (lwH2 b Ln xs cL) 890 (lwL ad b q3 i (some (.int t)) (some (.int v))) [] (lwW ad q3 cL f' N3) (cs + 1) (sl + 6) := an_goto (tgt := 944) (by decide) dL_law_890 (K N3 f' _ _ hR)
  refine an_if_ne (tgt := 890) (by decide) dL_law_875 (fun _ => Kg) (fun h0 => ?_)
  refine an_aload_n rfl dL_law_878 ?_
  refine an_iconst (v := 0) (by decide) dL_law_879 ?_
  refine an_lald 0 lw_hl rfl (am_vpI (by decide) (by decide)) dL_law_880 ?_
  refine an_iload rfl dL_law_881 ?_
  refine an_i2l dL_law_883 ?_
  refine an_lcmp dL_law_884 ?_
  refine an_if_eq (tgt := 890) (by decide) dL_law_885 (fun _ => Kg) (fun h9 => absurd ?_ h9)
  rw [show (0 : Int32).toNatClampNeg = 0 from by decide, hv h0]
  exact lw_same _
set_option maxRecDepth 100000 in
set_option maxHeartbeats 400000 in
theorem lc_893 (ad : Nat → Nat) {b Ln : Nat} {xs : Nat → Int32} {cL : ClassId} {q3 : Nat} {i : Int32} {n cs sl : Nat} {M : am_M} (f : Nat → Int64) (k5 k6 : Option Value) (h : R n M) (hn : n ≤ 1000) (hI : lwI Ln i) (hc : cs ≤ room_1.cells ∧ sl ≤ room_1.slots) (hc1 : cs + 1 ≤ room_1.cells ∧ sl + 6 ≤ room_1.slots) (K : lwK b Ln xs cL ad q3 i n cs sl) : an_W ydL_law room_1 lwQ (lwH2 b Ln xs cL) 893 (lwL ad b q3 i k5 k6) [] (lwW ad q3 cL f M) cs sl := by
  obtain ⟨P1, c1, h1⟩ := two_miss ad h (xs (i + 1).toNatClampNeg)
  refine an_aload_n rfl dL_law_893 ?_
  refine an_aload_n rfl dL_law_894 ?_
  refine an_iload rfl dL_law_895 ?_
  refine an_iconst (v := 1) (by decide) dL_law_897 ?_
  refine an_iadd dL_law_898 ?_
  refine an_sld lw_hs hI.2.1 dL_law_899 ?_
  refine an_callV (k := 0) (wr := lwX q3 cL f) c1 okX6_miss ml_L_111 (by decide) rfl rfl rfl ⟨by decide, by decide⟩ hc (Nat.le_of_ble_eq_true rfl) rfl dL_law_900 rfl (fun r1 N1 p1 => ?_)
  obtain ⟨P2, c2, h2⟩ := h1 r1 N1 p1
  refine an_aload_n rfl dL_law_903 ?_
  refine an_aload_n rfl dL_law_904 ?_
  refine an_iload rfl dL_law_905 ?_
  refine an_iconst (v := 1) (by decide) dL_law_907 ?_
  refine an_iadd dL_law_908 ?_
  refine an_sld lw_hs hI.2.1 dL_law_909 ?_
  refine an_callV (k := 21) (wr := lwX q3 cL f) c2 okX7_miss ml_L_114 (by decide) rfl rfl rfl ⟨by decide, by decide⟩ hc (lw_cat r1) rfl dL_law_910 rfl (fun r2 N2 p2 => ?_)
  obtain ⟨x, rfl, rfl, hR⟩ := h2 r2 N2 p2
  refine an_icmp_eq (tgt := 944) (by decide) dL_law_913 (fun _ => ?_) (fun h9 => absurd rfl h9)
  exact an_widen (Nat.le_succ cs) (Nat.le_add_right sl 6) (K N2 f k5 k6 hR)
set_option maxRecDepth 100000 in
set_option maxHeartbeats 400000 in
theorem lc_918 (ad : Nat → Nat) {b Ln : Nat} {xs : Nat → Int32} {cL : ClassId} {q3 : Nat} {i : Int32} {n cs sl : Nat} {M : am_M} (f : Nat → Int64) (k5 k6 : Option Value) (h : R n M) (hn : n ≤ 1000) (hI : lwI Ln i) (hc : cs ≤ room_1.cells ∧ sl ≤ room_1.slots) (hc1 : cs + 1 ≤ room_1.cells ∧ sl + 6 ≤ room_1.slots) (K : lwK b Ln xs cL ad q3 i n cs sl) : an_W ydL_law room_1 lwQ (lwH2 b Ln xs cL) 918 (lwL ad b q3 i k5 k6) [] (lwW ad q3 cL f M) cs sl := by
  obtain ⟨P1, c1, h1⟩ := two_evenness ad h
  refine an_aload_n rfl dL_law_918 ?_
  refine an_callV (k := 0) (wr := lwX q3 cL f) c1 okX6_evenness ml_L_115 (by decide) rfl rfl rfl ⟨by decide, by decide⟩ hc (Nat.le_of_ble_eq_true rfl) rfl dL_law_919 rfl (fun r1 N1 p1 => ?_)
  obtain ⟨P2, c2, h2⟩ := h1 r1 N1 p1
  refine an_aload_n rfl dL_law_922 ?_
  refine an_callV (k := 21) (wr := lwX q3 cL f) c2 okX7_evenness ml_L_118 (by decide) rfl rfl rfl ⟨by decide, by decide⟩ hc (lw_cat r1) rfl dL_law_923 rfl (fun r2 N2 p2 => ?_)
  obtain ⟨x, rfl, rfl, hR⟩ := h2 r2 N2 p2
  refine an_icmp_eq (tgt := 944) (by decide) dL_law_926 (fun _ => ?_) (fun h9 => absurd rfl h9)
  exact an_widen (Nat.le_succ cs) (Nat.le_add_right sl 6) (K N2 f k5 k6 hR)
set_option maxRecDepth 100000 in
set_option maxHeartbeats 400000 in
theorem lc_931 (ad : Nat → Nat) {b Ln : Nat} {xs : Nat → Int32} {cL : ClassId} {q3 : Nat} {i : Int32} {n cs sl : Nat} {M : am_M} (f : Nat → Int64) (k5 k6 : Option Value) (h : R n M) (hn : n ≤ 1000) (hI : lwI Ln i) (hc : cs ≤ room_1.cells ∧ sl ≤ room_1.slots) (hc1 : cs + 1 ≤ room_1.cells ∧ sl + 6 ≤ room_1.slots) (K : lwK b Ln xs cL ad q3 i n cs sl) : an_W ydL_law room_1 lwQ (lwH2 b Ln xs cL) 931 (lwL ad b q3 i k5 k6) [] (lwW ad q3 cL f M) cs sl := by
  obtain ⟨P1, c1, h1⟩ := two_smooth ad h
  refine an_aload_n rfl dL_law_931 ?_
  refine an_callV (k := 0) (wr := lwX q3 cL f) c1 okX6_smooth ml_L_119 (by decide) rfl rfl rfl ⟨by decide, by decide⟩ hc (Nat.le_of_ble_eq_true rfl) rfl dL_law_932 rfl (fun r1 N1 p1 => ?_)
  obtain ⟨P2, c2, h2⟩ := h1 r1 N1 p1
  refine an_aload_n rfl dL_law_935 ?_
  refine an_callV (k := 21) (wr := lwX q3 cL f) c2 okX7_smooth ml_L_122 (by decide) rfl rfl rfl ⟨by decide, by decide⟩ hc (lw_cat r1) rfl dL_law_936 rfl (fun r2 N2 p2 => ?_)
  obtain ⟨x, rfl, rfl, hR⟩ := h2 r2 N2 p2
  refine an_icmp_eq (tgt := 944) (by decide) dL_law_939 (fun _ => ?_) (fun h9 => absurd rfl h9)
  exact an_widen (Nat.le_succ cs) (Nat.le_add_right sl 6) (K N2 f k5 k6 hR)

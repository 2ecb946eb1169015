set_option maxHeartbeats 4000000 in
set_option maxRecDepth 100000 in
theorem law_hull {p : Program} {l : Launch} {e : Env} {s : State} {m : MethodId} {below : List Frame} {meth : Method} {c : Code} {b L : Nat} {xs : Nat → Int32} {D : va_G} {K : Nat → ClassId} {α β : Nat → Nat} (F : xLF p s m meth c b L xs D K α β) {σ τ : Nat → Nat → Int32} {H : Heap} {locs : List Loc} {ls : Array Slot} {i : Nat} (hv : xLI D K α β s σ τ H locs) (hl : lv_has ls 4 [(3, .int (nI i)), (2, .ref (β 0)), (1, .ref (α 0)), (0, .ref b)]) (hi : i + 6 ≤ L) (kk : ∀ (σ2 τ2 : Nat → Nat → Int32) (H2 : Heap) (locs2 : List Loc), xLI D K α β s σ2 τ2 H2 locs2 → W p l e room_1 s m #[Value.ref b] below meth c H2 locs2 62 1210 (lw_Z below #[Value.ref b] s) (F0 m 1350 ls [])) : W p l e room_1 s m #[Value.ref b] below meth c H locs 62 1210 (lw_Z below #[Value.ref b] s) (F0 m 196 ls []) := by
  obtain ⟨S, hr, hX, hbl, hL, hK, hI1, hI2, hα, hβ, hdis⟩ := F
  obtain ⟨hP1, hP2, hS, hrel⟩ := hv
  have hx := S.1
  have hb := S.2.1
  have hR := hrel.2
  have hbA : ¬ (fun q : Nat => s.heap.size ≤ q) b := Nat.not_le.mpr hbl
  have hA1 : ∀ q, xw_R 42 α q → (fun q : Nat => s.heap.size ≤ q) q := fun q ⟨k, hk, e9⟩ => e9 ▸ hα k hk
  have hA2 : ∀ q, xw_R 20 β q → (fun q : Nat => s.heap.size ≤ q) q := fun q ⟨k, hk, e9⟩ => e9 ▸ hβ k hk
  refine lv_aload_n hx hb dL_law_196 rfl (lv_at hl 2 rfl) ?_
  refine lv_aload_n hx hb dL_law_197 rfl (lv_at hl 3 rfl) ?_
  refine lv_iload_n hx hb dL_law_198 rfl (lv_at hl 0 rfl) ?_
  refine lv_iconst (v := nI 1) hx hb dL_law_199 (by decide) ?_
  refine x_iaddN S dL_law_200 ?_
  refine x_sld S hX hbl hbA hS (j := (i + 1)) (by omega) (by omega) dL_law_201 ?_
  refine lv_aload_n hx hb dL_law_202 rfl (lv_at hl 3 rfl) ?_
  refine lv_iload_n hx hb dL_law_203 rfl (lv_at hl 0 rfl) ?_
  refine lv_iconst (v := nI 2) hx hb dL_law_204 (by decide) ?_
  refine x_iaddN S dL_law_205 ?_
  refine x_sld S hX hbl hbA hS (j := (i + 2)) (by omega) (by omega) dL_law_206 ?_
  refine lv_aload_n hx hb dL_law_207 rfl (lv_at hl 3 rfl) ?_
  refine lv_iload_n hx hb dL_law_208 rfl (lv_at hl 0 rfl) ?_
  refine lv_iconst (v := nI 3) hx hb dL_law_209 (by decide) ?_
  refine x_iaddN S dL_law_210 ?_
  refine x_sld S hX hbl hbA hS (j := (i + 3)) (by omega) (by omega) dL_law_211 ?_
  refine x_cVWi (As := [.int (xs (i + 1)), .int (xs (i + 2)), .int (xs (i + 3))]) (rest := []) S hK hP1 hS hA1 0 (by omega) rfl rfl (c_X8_hull l σ hI1 (xs (i + 1)) (xs (i + 2)) (xs (i + 3)) ) (x_cwV (n0 := 3) (cq := (RX8, TX8, 9)) S gL_law_X8_hull rfl (by decide +kernel) ⟨(Nat.le_of_ble_eq_true rfl), (Nat.le_of_ble_eq_true rfl)⟩) rfl hl.1 rfl (Nat.le_of_ble_eq_true rfl) dL_law_212 ⟨(Nat.le_of_ble_eq_true rfl), (Nat.le_of_ble_eq_true rfl)⟩ (fun r1 σ1 H1 locs hr1 hP1 hk9 hS => ?_)
  have hP2 := xkeep hP2 (fun i j hi hj e9 => hdis j i hj hi e9.symm) hk9
  refine lv_aload_n hx hb dL_law_215 rfl (lv_at hl 1 rfl) ?_
  refine lv_aload_n hx hb dL_law_216 rfl (lv_at hl 3 rfl) ?_
  refine lv_iload_n hx hb dL_law_217 rfl (lv_at hl 0 rfl) ?_
  refine lv_iconst (v := nI 1) hx hb dL_law_218 (by decide) ?_
  refine x_iaddN S dL_law_219 ?_
  refine x_sld S hX hbl hbA hS (j := (i + 1)) (by omega) (by omega) dL_law_220 ?_
  refine lv_aload_n hx hb dL_law_221 rfl (lv_at hl 3 rfl) ?_
  refine lv_iload_n hx hb dL_law_222 rfl (lv_at hl 0 rfl) ?_
  refine lv_iconst (v := nI 2) hx hb dL_law_223 (by decide) ?_
  refine x_iaddN S dL_law_224 ?_
  refine x_sld S hX hbl hbA hS (j := (i + 2)) (by omega) (by omega) dL_law_225 ?_
  refine lv_aload_n hx hb dL_law_226 rfl (lv_at hl 3 rfl) ?_
  refine lv_iload_n hx hb dL_law_227 rfl (lv_at hl 0 rfl) ?_
  refine lv_iconst (v := nI 3) hx hb dL_law_228 (by decide) ?_
  refine x_iaddN S dL_law_229 ?_
  refine x_sld S hX hbl hbA hS (j := (i + 3)) (by omega) (by omega) dL_law_230 ?_
  refine x_cVWi (As := [.int (xs (i + 1)), .int (xs (i + 2)), .int (xs (i + 3))]) (rest := [.int r1]) S hK hP2 hS hA2 0 (by omega) rfl rfl (c_X9_hull l τ hI2 (xs (i + 1)) (xs (i + 2)) (xs (i + 3)) ) (x_cwV (n0 := 3) (cq := (RX9, TX9, 24)) S gL_law_X9_hull rfl (by decide +kernel) ⟨(Nat.le_of_ble_eq_true rfl), (Nat.le_of_ble_eq_true rfl)⟩) rfl hl.1 rfl (Nat.le_of_ble_eq_true rfl) dL_law_231 ⟨(Nat.le_of_ble_eq_true rfl), (Nat.le_of_ble_eq_true rfl)⟩ (fun r2 τ1 H1 locs hr2 hP2 hk9 hS => ?_)
  have hP1 := xkeep hP1 (fun i j hi hj e9 => hdis i j hi hj e9) hk9
  obtain ⟨hr1, hs1⟩ := hr1
  obtain ⟨hr2, hs2⟩ := hr2
  have hq := xR_hull hrel (xs (i + 1)) (xs (i + 2)) (xs (i + 3))
  have hres : r1 = r2 := hr1.trans (hq.1.symm.trans hr2.symm)
  have hrel2 : xRel σ1 τ1 := by rw [hs1, hs2]; exact hq.2
  refine lv_icmp_eq (tgt := 1350) hx hb dL_law_234 (by decide) (fun _ => ?_) (fun q => absurd hres q)
  exact kk _ _ _ _ ⟨hP1, hP2, hS, hrel2⟩
set_option maxHeartbeats 4000000 in
set_option maxRecDepth 100000 in
theorem law_name {p : Program} {l : Launch} {e : Env} {s : State} {m : MethodId} {below : List Frame} {meth : Method} {c : Code} {b L : Nat} {xs : Nat → Int32} {D : va_G} {K : Nat → ClassId} {α β : Nat → Nat} (F : xLF p s m meth c b L xs D K α β) {σ τ : Nat → Nat → Int32} {H : Heap} {locs : List Loc} {ls : Array Slot} {i : Nat} (hv : xLI D K α β s σ τ H locs) (hl : lv_has ls 4 [(3, .int (nI i)), (2, .ref (β 0)), (1, .ref (α 0)), (0, .ref b)]) (hi : i + 6 ≤ L) (kk : ∀ (σ2 τ2 : Nat → Nat → Int32) (H2 : Heap) (locs2 : List Loc), xLI D K α β s σ2 τ2 H2 locs2 → W p l e room_1 s m #[Value.ref b] below meth c H2 locs2 62 1210 (lw_Z below #[Value.ref b] s) (F0 m 1350 ls [])) : W p l e room_1 s m #[Value.ref b] below meth c H locs 62 1210 (lw_Z below #[Value.ref b] s) (F0 m 239 ls []) := by
  obtain ⟨S, hr, hX, hbl, hL, hK, hI1, hI2, hα, hβ, hdis⟩ := F
  obtain ⟨hP1, hP2, hS, hrel⟩ := hv
  have hx := S.1
  have hb := S.2.1
  have hR := hrel.2
  have hbA : ¬ (fun q : Nat => s.heap.size ≤ q) b := Nat.not_le.mpr hbl
  have hA1 : ∀ q, xw_R 42 α q → (fun q : Nat => s.heap.size ≤ q) q := fun q ⟨k, hk, e9⟩ => e9 ▸ hα k hk
  have hA2 : ∀ q, xw_R 20 β q → (fun q : Nat => s.heap.size ≤ q) q := fun q ⟨k, hk, e9⟩ => e9 ▸ hβ k hk
  refine lv_aload_n hx hb dL_law_239 rfl (lv_at hl 2 rfl) ?_
  refine lv_aload_n hx hb dL_law_240 rfl (lv_at hl 3 rfl) ?_
  refine lv_iload_n hx hb dL_law_241 rfl (lv_at hl 0 rfl) ?_
  refine lv_iconst (v := nI 1) hx hb dL_law_242 (by decide) ?_
  refine x_iaddN S dL_law_243 ?_
  refine x_sld S hX hbl hbA hS (j := (i + 1)) (by omega) (by omega) dL_law_244 ?_
  refine lv_aload_n hx hb dL_law_245 rfl (lv_at hl 3 rfl) ?_
  refine lv_iload_n hx hb dL_law_246 rfl (lv_at hl 0 rfl) ?_
  refine lv_iconst (v := nI 2) hx hb dL_law_247 (by decide) ?_
  refine x_iaddN S dL_law_248 ?_
  refine x_sld S hX hbl hbA hS (j := (i + 2)) (by omega) (by omega) dL_law_249 ?_
  refine lv_aload_n hx hb dL_law_250 rfl (lv_at hl 3 rfl) ?_
  refine lv_iload_n hx hb dL_law_251 rfl (lv_at hl 0 rfl) ?_
  refine lv_iconst (v := nI 3) hx hb dL_law_252 (by decide) ?_
  refine x_iaddN S dL_law_253 ?_
  refine x_sld S hX hbl hbA hS (j := (i + 3)) (by omega) (by omega) dL_law_254 ?_
  refine x_cVWi (As := [.int (xs (i + 1)), .int (xs (i + 2)), .int (xs (i + 3))]) (rest := []) S hK hP1 hS hA1 0 (by omega) rfl rfl (c_X8_name l σ hI1 (xs (i + 1)) (xs (i + 2)) (xs (i + 3)) ) (x_cwV (n0 := 3) (cq := (RX8, TX8, 9)) S gL_law_X8_name rfl (by decide +kernel) ⟨(Nat.le_of_ble_eq_true rfl), (Nat.le_of_ble_eq_true rfl)⟩) rfl hl.1 rfl (Nat.le_of_ble_eq_true rfl) dL_law_255 ⟨(Nat.le_of_ble_eq_true rfl), (Nat.le_of_ble_eq_true rfl)⟩ (fun r1 σ1 H1 locs hr1 hP1 hk9 hS => ?_)
  have hP2 := xkeep hP2 (fun i j hi hj e9 => hdis j i hj hi e9.symm) hk9
  refine lv_aload_n hx hb dL_law_258 rfl (lv_at hl 1 rfl) ?_
  refine lv_aload_n hx hb dL_law_259 rfl (lv_at hl 3 rfl) ?_
  refine lv_iload_n hx hb dL_law_260 rfl (lv_at hl 0 rfl) ?_
  refine lv_iconst (v := nI 1) hx hb dL_law_261 (by decide) ?_
  refine x_iaddN S dL_law_262 ?_
  refine x_sld S hX hbl hbA hS (j := (i + 1)) (by omega) (by omega) dL_law_263 ?_
  refine lv_aload_n hx hb dL_law_264 rfl (lv_at hl 3 rfl) ?_
  refine lv_iload_n hx hb dL_law_265 rfl (lv_at hl 0 rfl) ?_
  refine lv_iconst (v := nI 2) hx hb dL_law_266 (by decide) ?_
  refine x_iaddN S dL_law_267 ?_
  refine x_sld S hX hbl hbA hS (j := (i + 2)) (by omega) (by omega) dL_law_268 ?_
  refine lv_aload_n hx hb dL_law_269 rfl (lv_at hl 3 rfl) ?_
  refine lv_iload_n hx hb dL_law_270 rfl (lv_at hl 0 rfl) ?_
  refine lv_iconst (v := nI 3) hx hb dL_law_271 (by decide) ?_
  refine x_iaddN S dL_law_272 ?_
  refine x_sld S hX hbl hbA hS (j := (i + 3)) (by omega) (by omega) dL_law_273 ?_
  refine x_cVWi (As := [.int (xs (i + 1)), .int (xs (i + 2)), .int (xs (i + 3))]) (rest := [.int r1]) S hK hP2 hS hA2 0 (by omega) rfl rfl (c_X9_name l τ hI2 (xs (i + 1)) (xs (i + 2)) (xs (i + 3)) ) (x_cwV (n0 := 3) (cq := (RX9, TX9, 24)) S gL_law_X9_name rfl (by decide +kernel) ⟨(Nat.le_of_ble_eq_true rfl), (Nat.le_of_ble_eq_true rfl)⟩) rfl hl.1 rfl (Nat.le_of_ble_eq_true rfl) dL_law_274 ⟨(Nat.le_of_ble_eq_true rfl), (Nat.le_of_ble_eq_true rfl)⟩ (fun r2 τ1 H1 locs hr2 hP2 hk9 hS => ?_)
  have hP1 := xkeep hP1 (fun i j hi hj e9 => hdis i j hi hj e9) hk9
  obtain ⟨hr1, hs1⟩ := hr1
  obtain ⟨hr2, hs2⟩ := hr2
  have hq := xR_name hrel (xs (i + 1)) (xs (i + 2)) (xs (i + 3))
  have hres : r1 = r2 := hr1.trans (hq.1.symm.trans hr2.symm)
  have hrel2 : xRel σ1 τ1 := by rw [hs1, hs2]; exact hq.2
  refine lv_icmp_eq (tgt := 1350) hx hb dL_law_277 (by decide) (fun _ => ?_) (fun q => absurd hres q)
  exact kk _ _ _ _ ⟨hP1, hP2, hS, hrel2⟩
set_option maxHeartbeats 4000000 in
set_option maxRecDepth 100000 in
theorem law_fits {p : Program} {l : Launch} {e : Env} {s : State} {m : MethodId} {below : List Frame} {meth : Method} {c : Code} {b L : Nat} {xs : Nat → Int32} {D : va_G} {K : Nat → ClassId} {α β : Nat → Nat} (F : xLF p s m meth c b L xs D K α β) {σ τ : Nat → Nat → Int32} {H : Heap} {locs : List Loc} {ls : Array Slot} {i : Nat} (hv : xLI D K α β s σ τ H locs) (hl : lv_has ls 4 [(3, .int (nI i)), (2, .ref (β 0)), (1, .ref (α 0)), (0, .ref b)]) (hi : i + 6 ≤ L) (kk : ∀ (σ2 τ2 : Nat → Nat → Int32) (H2 : Heap) (locs2 : List Loc), xLI D K α β s σ2 τ2 H2 locs2 → W p l e room_1 s m #[Value.ref b] below meth c H2 locs2 62 1210 (lw_Z below #[Value.ref b] s) (F0 m 1350 ls [])) : W p l e room_1 s m #[Value.ref b] below meth c H locs 62 1210 (lw_Z below #[Value.ref b] s) (F0 m 282 ls []) := by
  obtain ⟨S, hr, hX, hbl, hL, hK, hI1, hI2, hα, hβ, hdis⟩ := F
  obtain ⟨hP1, hP2, hS, hrel⟩ := hv
  have hx := S.1
  have hb := S.2.1
  have hR := hrel.2
  have hbA : ¬ (fun q : Nat => s.heap.size ≤ q) b := Nat.not_le.mpr hbl
  have hA1 : ∀ q, xw_R 42 α q → (fun q : Nat => s.heap.size ≤ q) q := fun q ⟨k, hk, e9⟩ => e9 ▸ hα k hk
  have hA2 : ∀ q, xw_R 20 β q → (fun q : Nat => s.heap.size ≤ q) q := fun q ⟨k, hk, e9⟩ => e9 ▸ hβ k hk
  refine lv_aload_n hx hb dL_law_282 rfl (lv_at hl 2 rfl) ?_
  refine lv_aload_n hx hb dL_law_283 rfl (lv_at hl 3 rfl) ?_
  refine lv_iload_n hx hb dL_law_284 rfl (lv_at hl 0 rfl) ?_
  refine lv_iconst (v := nI 1) hx hb dL_law_285 (by decide) ?_
  refine x_iaddN S dL_law_286 ?_
  refine x_sld S hX hbl hbA hS (j := (i + 1)) (by omega) (by omega) dL_law_287 ?_
  refine lv_aload_n hx hb dL_law_288 rfl (lv_at hl 3 rfl) ?_
  refine lv_iload_n hx hb dL_law_289 rfl (lv_at hl 0 rfl) ?_
  refine lv_iconst (v := nI 2) hx hb dL_law_290 (by decide) ?_
  refine x_iaddN S dL_law_291 ?_
  refine x_sld S hX hbl hbA hS (j := (i + 2)) (by omega) (by omega) dL_law_292 ?_
  refine x_cVRi (As := [.int (xs (i + 1)), .int (xs (i + 2))]) (rest := []) S hK hP1 0 (by omega) rfl rfl (c_X8_fits l σ (xs (i + 1)) (xs (i + 2)) ) (x_cwV (n0 := 2) (cq := (RX8, TX8, 9)) S gL_law_X8_fits rfl (by decide +kernel) ⟨(Nat.le_of_ble_eq_true rfl), (Nat.le_of_ble_eq_true rfl)⟩) rfl hl.1 rfl (Nat.le_of_ble_eq_true rfl) dL_law_293 ⟨(Nat.le_of_ble_eq_true rfl), (Nat.le_of_ble_eq_true rfl)⟩ (fun r1 hr1 => ?_)
  refine lv_aload_n hx hb dL_law_296 rfl (lv_at hl 1 rfl) ?_
  refine lv_aload_n hx hb dL_law_297 rfl (lv_at hl 3 rfl) ?_
  refine lv_iload_n hx hb dL_law_298 rfl (lv_at hl 0 rfl) ?_
  refine lv_iconst (v := nI 1) hx hb dL_law_299 (by decide) ?_
  refine x_iaddN S dL_law_300 ?_
  refine x_sld S hX hbl hbA hS (j := (i + 1)) (by omega) (by omega) dL_law_301 ?_
  refine lv_aload_n hx hb dL_law_302 rfl (lv_at hl 3 rfl) ?_
  refine lv_iload_n hx hb dL_law_303 rfl (lv_at hl 0 rfl) ?_
  refine lv_iconst (v := nI 2) hx hb dL_law_304 (by decide) ?_
  refine x_iaddN S dL_law_305 ?_
  refine x_sld S hX hbl hbA hS (j := (i + 2)) (by omega) (by omega) dL_law_306 ?_
  refine x_cVRi (As := [.int (xs (i + 1)), .int (xs (i + 2))]) (rest := [.int r1]) S hK hP2 0 (by omega) rfl rfl (c_X9_fits l τ (xs (i + 1)) (xs (i + 2)) ) (x_cwV (n0 := 2) (cq := (RX9, TX9, 24)) S gL_law_X9_fits rfl (by decide +kernel) ⟨(Nat.le_of_ble_eq_true rfl), (Nat.le_of_ble_eq_true rfl)⟩) rfl hl.1 rfl (Nat.le_of_ble_eq_true rfl) dL_law_307 ⟨(Nat.le_of_ble_eq_true rfl), (Nat.le_of_ble_eq_true rfl)⟩ (fun r2 hr2 => ?_)
  have hres : r1 = r2 := by rw [hr1, hr2]; simp only [xRw_F hR, xRw_L hR, xRw_Y hR, xRw_c hR, xRw_s hR, hR.2.1.1, hR.2.2.1.1, hR.2.2.1.2.1, hR.2.2.1.2.2.1, hR.2.2.2.1.1, hR.2.2.2.1.2.1, hR.2.2.2.1.2.2.1, hR.2.2.2.2.1, xpm_sound_eq, xpm_chance_eq, xpm_could_eq]
  have hrel2 : xRel σ τ := hrel
  refine lv_icmp_eq (tgt := 1350) hx hb dL_law_310 (by decide) (fun _ => ?_) (fun q => absurd hres q)
  exact kk _ _ _ _ ⟨hP1, hP2, hS, hrel2⟩
set_option maxHeartbeats 4000000 in
set_option maxRecDepth 100000 in
theorem law_type {p : Program} {l : Launch} {e : Env} {s : State} {m : MethodId} {below : List Frame} {meth : Method} {c : Code} {b L : Nat} {xs : Nat → Int32} {D : va_G} {K : Nat → ClassId} {α β : Nat → Nat} (F : xLF p s m meth c b L xs D K α β) {σ τ : Nat → Nat → Int32} {H : Heap} {locs : List Loc} {ls : Array Slot} {i : Nat} (hv : xLI D K α β s σ τ H locs) (hl : lv_has ls 4 [(3, .int (nI i)), (2, .ref (β 0)), (1, .ref (α 0)), (0, .ref b)]) (hi : i + 6 ≤ L) (kk : ∀ (σ2 τ2 : Nat → Nat → Int32) (H2 : Heap) (locs2 : List Loc), xLI D K α β s σ2 τ2 H2 locs2 → W p l e room_1 s m #[Value.ref b] below meth c H2 locs2 62 1210 (lw_Z below #[Value.ref b] s) (F0 m 1350 ls [])) : W p l e room_1 s m #[Value.ref b] below meth c H locs 62 1210 (lw_Z below #[Value.ref b] s) (F0 m 315 ls []) := by
  obtain ⟨S, hr, hX, hbl, hL, hK, hI1, hI2, hα, hβ, hdis⟩ := F
  obtain ⟨hP1, hP2, hS, hrel⟩ := hv
  have hx := S.1
  have hb := S.2.1
  have hR := hrel.2
  have hbA : ¬ (fun q : Nat => s.heap.size ≤ q) b := Nat.not_le.mpr hbl
  have hA1 : ∀ q, xw_R 42 α q → (fun q : Nat => s.heap.size ≤ q) q := fun q ⟨k, hk, e9⟩ => e9 ▸ hα k hk
  have hA2 : ∀ q, xw_R 20 β q → (fun q : Nat => s.heap.size ≤ q) q := fun q ⟨k, hk, e9⟩ => e9 ▸ hβ k hk
  refine lv_aload_n hx hb dL_law_315 rfl (lv_at hl 2 rfl) ?_
  refine lv_aload_n hx hb dL_law_316 rfl (lv_at hl 3 rfl) ?_
  refine lv_iload_n hx hb dL_law_317 rfl (lv_at hl 0 rfl) ?_
  refine lv_iconst (v := nI 1) hx hb dL_law_318 (by decide) ?_
  refine x_iaddN S dL_law_319 ?_
  refine x_sld S hX hbl hbA hS (j := (i + 1)) (by omega) (by omega) dL_law_320 ?_
  refine x_cVWi (As := [.int (xs (i + 1))]) (rest := []) S hK hP1 hS hA1 0 (by omega) rfl rfl (c_X8_type l σ hI1 (xs (i + 1)) hrel.1) (x_cwV (n0 := 1) (cq := (RX8, TX8, 9)) S gL_law_X8_type rfl (by decide +kernel) ⟨(Nat.le_of_ble_eq_true rfl), (Nat.le_of_ble_eq_true rfl)⟩) rfl hl.1 rfl (Nat.le_of_ble_eq_true rfl) dL_law_321 ⟨(Nat.le_of_ble_eq_true rfl), (Nat.le_of_ble_eq_true rfl)⟩ (fun r1 σ1 H1 locs hr1 hP1 hk9 hS => ?_)
  have hP2 := xkeep hP2 (fun i j hi hj e9 => hdis j i hj hi e9.symm) hk9
  refine lv_aload_n hx hb dL_law_324 rfl (lv_at hl 1 rfl) ?_
  refine lv_aload_n hx hb dL_law_325 rfl (lv_at hl 3 rfl) ?_
  refine lv_iload_n hx hb dL_law_326 rfl (lv_at hl 0 rfl) ?_
  refine lv_iconst (v := nI 1) hx hb dL_law_327 (by decide) ?_
  refine x_iaddN S dL_law_328 ?_
  refine x_sld S hX hbl hbA hS (j := (i + 1)) (by omega) (by omega) dL_law_329 ?_
  refine x_cVWi (As := [.int (xs (i + 1))]) (rest := [.int r1]) S hK hP2 hS hA2 0 (by omega) rfl rfl (c_X9_type l τ hI2 (xs (i + 1)) (xRel_IM hrel)) (x_cwV (n0 := 1) (cq := (RX9, TX9, 24)) S gL_law_X9_type rfl (by decide +kernel) ⟨(Nat.le_of_ble_eq_true rfl), (Nat.le_of_ble_eq_true rfl)⟩) rfl hl.1 rfl (Nat.le_of_ble_eq_true rfl) dL_law_330 ⟨(Nat.le_of_ble_eq_true rfl), (Nat.le_of_ble_eq_true rfl)⟩ (fun r2 τ1 H1 locs hr2 hP2 hk9 hS => ?_)
  have hP1 := xkeep hP1 (fun i j hi hj e9 => hdis i j hi hj e9) hk9
  obtain ⟨hr1, hs1⟩ := hr1
  obtain ⟨hr2, hs2⟩ := hr2
  have hq := xR_type hrel (xs (i + 1))
  have hres : r1 = r2 := hr1.trans (hq.1.symm.trans hr2.symm)
  have hrel2 : xRel σ1 τ1 := by rw [hs1, hs2]; exact hq.2
  refine lv_icmp_eq (tgt := 1350) hx hb dL_law_333 (by decide) (fun _ => ?_) (fun q => absurd hres q)
  exact kk _ _ _ _ ⟨hP1, hP2, hS, hrel2⟩
set_option maxHeartbeats 4000000 in
set_option maxRecDepth 100000 in
theorem law_wipe {p : Program} {l : Launch} {e : Env} {s : State} {m : MethodId} {below : List Frame} {meth : Method} {c : Code} {b L : Nat} {xs : Nat → Int32} {D : va_G} {K : Nat → ClassId} {α β : Nat → Nat} (F : xLF p s m meth c b L xs D K α β) {σ τ : Nat → Nat → Int32} {H : Heap} {locs : List Loc} {ls : Array Slot} {i : Nat} (hv : xLI D K α β s σ τ H locs) (hl : lv_has ls 4 [(3, .int (nI i)), (2, .ref (β 0)), (1, .ref (α 0)), (0, .ref b)]) (hi : i + 6 ≤ L) (kk : ∀ (σ2 τ2 : Nat → Nat → Int32) (H2 : Heap) (locs2 : List Loc), xLI D K α β s σ2 τ2 H2 locs2 → W p l e room_1 s m #[Value.ref b] below meth c H2 locs2 62 1210 (lw_Z below #[Value.ref b] s) (F0 m 1350 ls [])) : W p l e room_1 s m #[Value.ref b] below meth c H locs 62 1210 (lw_Z below #[Value.ref b] s) (F0 m 338 ls []) := by
  obtain ⟨S, hr, hX, hbl, hL, hK, hI1, hI2, hα, hβ, hdis⟩ := F
  obtain ⟨hP1, hP2, hS, hrel⟩ := hv
  have hx := S.1
  have hb := S.2.1
  have hR := hrel.2
  have hbA : ¬ (fun q : Nat => s.heap.size ≤ q) b := Nat.not_le.mpr hbl
  have hA1 : ∀ q, xw_R 42 α q → (fun q : Nat => s.heap.size ≤ q) q := fun q ⟨k, hk, e9⟩ => e9 ▸ hα k hk
  have hA2 : ∀ q, xw_R 20 β q → (fun q : Nat => s.heap.size ≤ q) q := fun q ⟨k, hk, e9⟩ => e9 ▸ hβ k hk
  refine lv_aload_n hx hb dL_law_338 rfl (lv_at hl 2 rfl) ?_
  refine x_cVWi (As := []) (rest := []) S hK hP1 hS hA1 0 (by omega) rfl rfl (c_X8_wipe l σ hI1  hrel.1) (x_cwV (n0 := 0) (cq := (RX8, TX8, 9)) S gL_law_X8_wipe rfl (by decide +kernel) ⟨(Nat.le_of_ble_eq_true rfl), (Nat.le_of_ble_eq_true rfl)⟩) rfl hl.1 rfl (Nat.le_of_ble_eq_true rfl) dL_law_339 ⟨(Nat.le_of_ble_eq_true rfl), (Nat.le_of_ble_eq_true rfl)⟩ (fun r1 σ1 H1 locs hr1 hP1 hk9 hS => ?_)
  have hP2 := xkeep hP2 (fun i j hi hj e9 => hdis j i hj hi e9.symm) hk9
  refine lv_aload_n hx hb dL_law_342 rfl (lv_at hl 1 rfl) ?_
  refine x_cVWi (As := []) (rest := [.int r1]) S hK hP2 hS hA2 0 (by omega) rfl rfl (c_X9_wipe l τ hI2  (xRel_IM hrel)) (x_cwV (n0 := 0) (cq := (RX9, TX9, 24)) S gL_law_X9_wipe rfl (by decide +kernel) ⟨(Nat.le_of_ble_eq_true rfl), (Nat.le_of_ble_eq_true rfl)⟩) rfl hl.1 rfl (Nat.le_of_ble_eq_true rfl) dL_law_343 ⟨(Nat.le_of_ble_eq_true rfl), (Nat.le_of_ble_eq_true rfl)⟩ (fun r2 τ1 H1 locs hr2 hP2 hk9 hS => ?_)
  have hP1 := xkeep hP1 (fun i j hi hj e9 => hdis i j hi hj e9) hk9
  obtain ⟨hr1, hs1⟩ := hr1
  obtain ⟨hr2, hs2⟩ := hr2
  have hq := xR_wipe hrel 
  have hres : r1 = r2 := by rw [hr1, hr2, hq.1]
  have hrel2 : xRel σ1 τ1 := by rw [hs1, hs2]; exact hq.2
  refine lv_icmp_eq (tgt := 1350) hx hb dL_law_346 (by decide) (fun _ => ?_) (fun q => absurd hres q)
  exact kk _ _ _ _ ⟨hP1, hP2, hS, hrel2⟩
set_option maxHeartbeats 4000000 in
set_option maxRecDepth 100000 in
theorem law_fault {p : Program} {l : Launch} {e : Env} {s : State} {m : MethodId} {below : List Frame} {meth : Method} {c : Code} {b L : Nat} {xs : Nat → Int32} {D : va_G} {K : Nat → ClassId} {α β : Nat → Nat} (F : xLF p s m meth c b L xs D K α β) {σ τ : Nat → Nat → Int32} {H : Heap} {locs : List Loc} {ls : Array Slot} {i : Nat} (hv : xLI D K α β s σ τ H locs) (hl : lv_has ls 4 [(3, .int (nI i)), (2, .ref (β 0)), (1, .ref (α 0)), (0, .ref b)]) (hi : i + 6 ≤ L) (kk : ∀ (σ2 τ2 : Nat → Nat → Int32) (H2 : Heap) (locs2 : List Loc), xLI D K α β s σ2 τ2 H2 locs2 → W p l e room_1 s m #[Value.ref b] below meth c H2 locs2 62 1210 (lw_Z below #[Value.ref b] s) (F0 m 1350 ls [])) : W p l e room_1 s m #[Value.ref b] below meth c H locs 62 1210 (lw_Z below #[Value.ref b] s) (F0 m 351 ls []) := by
  obtain ⟨S, hr, hX, hbl, hL, hK, hI1, hI2, hα, hβ, hdis⟩ := F
  obtain ⟨hP1, hP2, hS, hrel⟩ := hv
  have hx := S.1
  have hb := S.2.1
  have hR := hrel.2
  have hbA : ¬ (fun q : Nat => s.heap.size ≤ q) b := Nat.not_le.mpr hbl
  have hA1 : ∀ q, xw_R 42 α q → (fun q : Nat => s.heap.size ≤ q) q := fun q ⟨k, hk, e9⟩ => e9 ▸ hα k hk
  have hA2 : ∀ q, xw_R 20 β q → (fun q : Nat => s.heap.size ≤ q) q := fun q ⟨k, hk, e9⟩ => e9 ▸ hβ k hk
  refine lv_aload_n hx hb dL_law_351 rfl (lv_at hl 2 rfl) ?_
  refine x_cVRi (As := []) (rest := []) S hK hP1 0 (by omega) rfl rfl (c_X8_fault l σ  hrel.1) (x_cwV (n0 := 0) (cq := (RX8, TX8, 9)) S gL_law_X8_fault rfl (by decide +kernel) ⟨(Nat.le_of_ble_eq_true rfl), (Nat.le_of_ble_eq_true rfl)⟩) rfl hl.1 rfl (Nat.le_of_ble_eq_true rfl) dL_law_352 ⟨(Nat.le_of_ble_eq_true rfl), (Nat.le_of_ble_eq_true rfl)⟩ (fun r1 hr1 => ?_)
  refine lv_aload_n hx hb dL_law_355 rfl (lv_at hl 1 rfl) ?_
  refine x_cVWi (As := []) (rest := [.int r1]) S hK hP2 hS hA2 0 (by omega) rfl rfl (c_X9_fault l τ hI2  (xRel_IM hrel)) (x_cwV (n0 := 0) (cq := (RX9, TX9, 24)) S gL_law_X9_fault rfl (by decide +kernel) ⟨(Nat.le_of_ble_eq_true rfl), (Nat.le_of_ble_eq_true rfl)⟩) rfl hl.1 rfl (Nat.le_of_ble_eq_true rfl) dL_law_356 ⟨(Nat.le_of_ble_eq_true rfl), (Nat.le_of_ble_eq_true rfl)⟩ (fun r2 τ1 H1 locs hr2 hP2 hk9 hS => ?_)
  have hP1 := xkeep hP1 (fun i j hi hj e9 => hdis i j hi hj e9) hk9
  obtain ⟨hr2, hs2⟩ := hr2
  have hres : r1 = r2 := by rw [hr1, hr2]; simp only [xRw_F hR, xRw_L hR, xRw_Y hR, xRw_c hR, xRw_s hR, hR.2.1.1, hR.2.2.1.1, hR.2.2.1.2.1, hR.2.2.1.2.2.1, hR.2.2.2.1.1, hR.2.2.2.1.2.1, hR.2.2.2.1.2.2.1, hR.2.2.2.2.1, xpm_sound_eq, xpm_chance_eq, xpm_could_eq]
  have hrel2 : xRel σ τ1 := (xRel_Ms hrel hs2)
  refine lv_icmp_eq (tgt := 1350) hx hb dL_law_359 (by decide) (fun _ => ?_) (fun q => absurd hres q)
  exact kk _ _ _ _ ⟨hP1, hP2, hS, hrel2⟩
set_option maxHeartbeats 4000000 in
set_option maxRecDepth 100000 in
theorem law_read {p : Program} {l : Launch} {e : Env} {s : State} {m : MethodId} {below : List Frame} {meth : Method} {c : Code} {b L : Nat} {xs : Nat → Int32} {D : va_G} {K : Nat → ClassId} {α β : Nat → Nat} (F : xLF p s m meth c b L xs D K α β) {σ τ : Nat → Nat → Int32} {H : Heap} {locs : List Loc} {ls : Array Slot} {i : Nat} (hv : xLI D K α β s σ τ H locs) (hl : lv_has ls 4 [(3, .int (nI i)), (2, .ref (β 0)), (1, .ref (α 0)), (0, .ref b)]) (hi : i + 6 ≤ L) (kk : ∀ (σ2 τ2 : Nat → Nat → Int32) (H2 : Heap) (locs2 : List Loc), xLI D K α β s σ2 τ2 H2 locs2 → W p l e room_1 s m #[Value.ref b] below meth c H2 locs2 62 1210 (lw_Z below #[Value.ref b] s) (F0 m 1350 ls [])) : W p l e room_1 s m #[Value.ref b] below meth c H locs 62 1210 (lw_Z below #[Value.ref b] s) (F0 m 364 ls []) := by
  obtain ⟨S, hr, hX, hbl, hL, hK, hI1, hI2, hα, hβ, hdis⟩ := F
  obtain ⟨hP1, hP2, hS, hrel⟩ := hv
  have hx := S.1
  have hb := S.2.1
  have hR := hrel.2
  have hbA : ¬ (fun q : Nat => s.heap.size ≤ q) b := Nat.not_le.mpr hbl
  have hA1 : ∀ q, xw_R 42 α q → (fun q : Nat => s.heap.size ≤ q) q := fun q ⟨k, hk, e9⟩ => e9 ▸ hα k hk
  have hA2 : ∀ q, xw_R 20 β q → (fun q : Nat => s.heap.size ≤ q) q := fun q ⟨k, hk, e9⟩ => e9 ▸ hβ k hk
  refine lv_aload_n hx hb dL_law_364 rfl (lv_at hl 2 rfl) ?_
  refine lv_aload_n hx hb dL_law_365 rfl (lv_at hl 3 rfl) ?_
  refine lv_iload_n hx hb dL_law_366 rfl (lv_at hl 0 rfl) ?_
  refine lv_iconst (v := nI 1) hx hb dL_law_367 (by decide) ?_
  refine x_iaddN S dL_law_368 ?_
  refine x_sld S hX hbl hbA hS (j := (i + 1)) (by omega) (by omega) dL_law_369 ?_
  refine x_cVWi (As := [.int (xs (i + 1))]) (rest := []) S hK hP1 hS hA1 0 (by omega) rfl rfl (c_X8_read l σ hI1 (xs (i + 1)) hrel.1) (x_cwV (n0 := 1) (cq := (RX8, TX8, 9)) S gL_law_X8_read rfl (by decide +kernel) ⟨(Nat.le_of_ble_eq_true rfl), (Nat.le_of_ble_eq_true rfl)⟩) rfl hl.1 rfl (Nat.le_of_ble_eq_true rfl) dL_law_370 ⟨(Nat.le_of_ble_eq_true rfl), (Nat.le_of_ble_eq_true rfl)⟩ (fun r1 σ1 H1 locs hr1 hP1 hk9 hS => ?_)
  have hP2 := xkeep hP2 (fun i j hi hj e9 => hdis j i hj hi e9.symm) hk9
  refine lv_aload_n hx hb dL_law_373 rfl (lv_at hl 1 rfl) ?_
  refine lv_aload_n hx hb dL_law_374 rfl (lv_at hl 3 rfl) ?_
  refine lv_iload_n hx hb dL_law_375 rfl (lv_at hl 0 rfl) ?_
  refine lv_iconst (v := nI 1) hx hb dL_law_376 (by decide) ?_
  refine x_iaddN S dL_law_377 ?_
  refine x_sld S hX hbl hbA hS (j := (i + 1)) (by omega) (by omega) dL_law_378 ?_
  refine x_cVWi (As := [.int (xs (i + 1))]) (rest := [.int r1]) S hK hP2 hS hA2 0 (by omega) rfl rfl (c_X9_read l τ hI2 (xs (i + 1)) (xRel_IM hrel)) (x_cwV (n0 := 1) (cq := (RX9, TX9, 24)) S gL_law_X9_read rfl (by decide +kernel) ⟨(Nat.le_of_ble_eq_true rfl), (Nat.le_of_ble_eq_true rfl)⟩) rfl hl.1 rfl (Nat.le_of_ble_eq_true rfl) dL_law_379 ⟨(Nat.le_of_ble_eq_true rfl), (Nat.le_of_ble_eq_true rfl)⟩ (fun r2 τ1 H1 locs hr2 hP2 hk9 hS => ?_)
  have hP1 := xkeep hP1 (fun i j hi hj e9 => hdis i j hi hj e9) hk9
  obtain ⟨hr1, hs1⟩ := hr1
  obtain ⟨hr2, hs2⟩ := hr2
  have hq := xR_read hrel (xs (i + 1))
  have hres : r1 = r2 := hr1.trans (hq.1.symm.trans hr2.symm)
  have hrel2 : xRel σ1 τ1 := by rw [hs1, hs2]; exact hq.2
  refine lv_icmp_eq (tgt := 1350) hx hb dL_law_382 (by decide) (fun _ => ?_) (fun q => absurd hres q)
  exact kk _ _ _ _ ⟨hP1, hP2, hS, hrel2⟩
set_option maxHeartbeats 4000000 in
set_option maxRecDepth 100000 in
theorem law_borne {p : Program} {l : Launch} {e : Env} {s : State} {m : MethodId} {below : List Frame} {meth : Method} {c : Code} {b L : Nat} {xs : Nat → Int32} {D : va_G} {K : Nat → ClassId} {α β : Nat → Nat} (F : xLF p s m meth c b L xs D K α β) {σ τ : Nat → Nat → Int32} {H : Heap} {locs : List Loc} {ls : Array Slot} {i : Nat} (hv : xLI D K α β s σ τ H locs) (hl : lv_has ls 4 [(3, .int (nI i)), (2, .ref (β 0)), (1, .ref (α 0)), (0, .ref b)]) (hi : i + 6 ≤ L) (kk : ∀ (σ2 τ2 : Nat → Nat → Int32) (H2 : Heap) (locs2 : List Loc), xLI D K α β s σ2 τ2 H2 locs2 → W p l e room_1 s m #[Value.ref b] below meth c H2 locs2 62 1210 (lw_Z below #[Value.ref b] s) (F0 m 1350 ls [])) : W p l e room_1 s m #[Value.ref b] below meth c H locs 62 1210 (lw_Z below #[Value.ref b] s) (F0 m 387 ls []) := by
  obtain ⟨S, hr, hX, hbl, hL, hK, hI1, hI2, hα, hβ, hdis⟩ := F
  obtain ⟨hP1, hP2, hS, hrel⟩ := hv
  have hx := S.1
  have hb := S.2.1
  have hR := hrel.2
  have hbA : ¬ (fun q : Nat => s.heap.size ≤ q) b := Nat.not_le.mpr hbl
  have hA1 : ∀ q, xw_R 42 α q → (fun q : Nat => s.heap.size ≤ q) q := fun q ⟨k, hk, e9⟩ => e9 ▸ hα k hk
  have hA2 : ∀ q, xw_R 20 β q → (fun q : Nat => s.heap.size ≤ q) q := fun q ⟨k, hk, e9⟩ => e9 ▸ hβ k hk
  refine lv_aload_n hx hb dL_law_387 rfl (lv_at hl 2 rfl) ?_
  refine lv_aload_n hx hb dL_law_388 rfl (lv_at hl 3 rfl) ?_
  refine lv_iload_n hx hb dL_law_389 rfl (lv_at hl 0 rfl) ?_
  refine lv_iconst (v := nI 1) hx hb dL_law_390 (by decide) ?_
  refine x_iaddN S dL_law_391 ?_
  refine x_sld S hX hbl hbA hS (j := (i + 1)) (by omega) (by omega) dL_law_392 ?_
  refine lv_aload_n hx hb dL_law_393 rfl (lv_at hl 3 rfl) ?_
  refine lv_iload_n hx hb dL_law_394 rfl (lv_at hl 0 rfl) ?_
  refine lv_iconst (v := nI 2) hx hb dL_law_395 (by decide) ?_
  refine x_iaddN S dL_law_396 ?_
  refine x_sld S hX hbl hbA hS (j := (i + 2)) (by omega) (by omega) dL_law_397 ?_
  refine x_cVRi (As := [.int (xs (i + 1)), .int (xs (i + 2))]) (rest := []) S hK hP1 0 (by omega) rfl rfl (c_X8_borne l σ (xs (i + 1)) (xs (i + 2)) hrel.1) (x_cwV (n0 := 2) (cq := (RX8, TX8, 9)) S gL_law_X8_borne rfl (by decide +kernel) ⟨(Nat.le_of_ble_eq_true rfl), (Nat.le_of_ble_eq_true rfl)⟩) rfl hl.1 rfl (Nat.le_of_ble_eq_true rfl) dL_law_398 ⟨(Nat.le_of_ble_eq_true rfl), (Nat.le_of_ble_eq_true rfl)⟩ (fun r1 hr1 => ?_)
  refine lv_aload_n hx hb dL_law_401 rfl (lv_at hl 1 rfl) ?_
  refine lv_aload_n hx hb dL_law_402 rfl (lv_at hl 3 rfl) ?_
  refine lv_iload_n hx hb dL_law_403 rfl (lv_at hl 0 rfl) ?_
  refine lv_iconst (v := nI 1) hx hb dL_law_404 (by decide) ?_
  refine x_iaddN S dL_law_405 ?_
  refine x_sld S hX hbl hbA hS (j := (i + 1)) (by omega) (by omega) dL_law_406 ?_
  refine lv_aload_n hx hb dL_law_407 rfl (lv_at hl 3 rfl) ?_
  refine lv_iload_n hx hb dL_law_408 rfl (lv_at hl 0 rfl) ?_
  refine lv_iconst (v := nI 2) hx hb dL_law_409 (by decide) ?_
  refine x_iaddN S dL_law_410 ?_
  refine x_sld S hX hbl hbA hS (j := (i + 2)) (by omega) (by omega) dL_law_411 ?_
  refine x_cVWi (As := [.int (xs (i + 1)), .int (xs (i + 2))]) (rest := [.int r1]) S hK hP2 hS hA2 0 (by omega) rfl rfl (c_X9_borne l τ hI2 (xs (i + 1)) (xs (i + 2)) (xRel_IM hrel)) (x_cwV (n0 := 2) (cq := (RX9, TX9, 24)) S gL_law_X9_borne rfl (by decide +kernel) ⟨(Nat.le_of_ble_eq_true rfl), (Nat.le_of_ble_eq_true rfl)⟩) rfl hl.1 rfl (Nat.le_of_ble_eq_true rfl) dL_law_412 ⟨(Nat.le_of_ble_eq_true rfl), (Nat.le_of_ble_eq_true rfl)⟩ (fun r2 τ1 H1 locs hr2 hP2 hk9 hS => ?_)
  have hP1 := xkeep hP1 (fun i j hi hj e9 => hdis i j hi hj e9) hk9
  obtain ⟨hr2, hs2⟩ := hr2
  have hres : r1 = r2 := by rw [hr1, hr2]; simp only [xRw_F hR, xRw_L hR, xRw_Y hR, xRw_c hR, xRw_s hR, hR.2.1.1, hR.2.2.1.1, hR.2.2.1.2.1, hR.2.2.1.2.2.1, hR.2.2.2.1.1, hR.2.2.2.1.2.1, hR.2.2.2.1.2.2.1, hR.2.2.2.2.1, xpm_sound_eq, xpm_chance_eq, xpm_could_eq]
  have hrel2 : xRel σ τ1 := (xRel_Ms hrel hs2)
  refine lv_icmp_eq (tgt := 1350) hx hb dL_law_415 (by decide) (fun _ => ?_) (fun q => absurd hres q)
  exact kk _ _ _ _ ⟨hP1, hP2, hS, hrel2⟩
set_option maxHeartbeats 4000000 in
set_option maxRecDepth 100000 in
theorem law_purse {p : Program} {l : Launch} {e : Env} {s : State} {m : MethodId} {below : List Frame} {meth : Method} {c : Code} {b L : Nat} {xs : Nat → Int32} {D : va_G} {K : Nat → ClassId} {α β : Nat → Nat} (F : xLF p s m meth c b L xs D K α β) {σ τ : Nat → Nat → Int32} {H : Heap} {locs : List Loc} {ls : Array Slot} {i : Nat} (hv : xLI D K α β s σ τ H locs) (hl : lv_has ls 4 [(3, .int (nI i)), (2, .ref (β 0)), (1, .ref (α 0)), (0, .ref b)]) (hi : i + 6 ≤ L) (kk : ∀ (σ2 τ2 : Nat → Nat → Int32) (H2 : Heap) (locs2 : List Loc), xLI D K α β s σ2 τ2 H2 locs2 → W p l e room_1 s m #[Value.ref b] below meth c H2 locs2 62 1210 (lw_Z below #[Value.ref b] s) (F0 m 1350 ls [])) : W p l e room_1 s m #[Value.ref b] below meth c H locs 62 1210 (lw_Z below #[Value.ref b] s) (F0 m 420 ls []) := by
  obtain ⟨S, hr, hX, hbl, hL, hK, hI1, hI2, hα, hβ, hdis⟩ := F
  obtain ⟨hP1, hP2, hS, hrel⟩ := hv
  have hx := S.1
  have hb := S.2.1
  have hR := hrel.2
  have hbA : ¬ (fun q : Nat => s.heap.size ≤ q) b := Nat.not_le.mpr hbl
  have hA1 : ∀ q, xw_R 42 α q → (fun q : Nat => s.heap.size ≤ q) q := fun q ⟨k, hk, e9⟩ => e9 ▸ hα k hk
  have hA2 : ∀ q, xw_R 20 β q → (fun q : Nat => s.heap.size ≤ q) q := fun q ⟨k, hk, e9⟩ => e9 ▸ hβ k hk
  refine lv_aload_n hx hb dL_law_420 rfl (lv_at hl 2 rfl) ?_
  refine lv_aload_n hx hb dL_law_421 rfl (lv_at hl 3 rfl) ?_
  refine lv_iload_n hx hb dL_law_422 rfl (lv_at hl 0 rfl) ?_
  refine lv_iconst (v := nI 1) hx hb dL_law_423 (by decide) ?_
  refine x_iaddN S dL_law_424 ?_
  refine x_sld S hX hbl hbA hS (j := (i + 1)) (by omega) (by omega) dL_law_425 ?_
  refine lv_aload_n hx hb dL_law_426 rfl (lv_at hl 3 rfl) ?_
  refine lv_iload_n hx hb dL_law_427 rfl (lv_at hl 0 rfl) ?_
  refine lv_iconst (v := nI 2) hx hb dL_law_428 (by decide) ?_
  refine x_iaddN S dL_law_429 ?_
  refine x_sld S hX hbl hbA hS (j := (i + 2)) (by omega) (by omega) dL_law_430 ?_
  refine x_cVRi (As := [.int (xs (i + 1)), .int (xs (i + 2))]) (rest := []) S hK hP1 0 (by omega) rfl rfl (c_X8_purse l σ (xs (i + 1)) (xs (i + 2)) hrel.1) (x_cwV (n0 := 2) (cq := (RX8, TX8, 9)) S gL_law_X8_purse rfl (by decide +kernel) ⟨(Nat.le_of_ble_eq_true rfl), (Nat.le_of_ble_eq_true rfl)⟩) rfl hl.1 rfl (Nat.le_of_ble_eq_true rfl) dL_law_431 ⟨(Nat.le_of_ble_eq_true rfl), (Nat.le_of_ble_eq_true rfl)⟩ (fun r1 hr1 => ?_)
  refine lv_aload_n hx hb dL_law_434 rfl (lv_at hl 1 rfl) ?_
  refine lv_aload_n hx hb dL_law_435 rfl (lv_at hl 3 rfl) ?_
  refine lv_iload_n hx hb dL_law_436 rfl (lv_at hl 0 rfl) ?_
  refine lv_iconst (v := nI 1) hx hb dL_law_437 (by decide) ?_
  refine x_iaddN S dL_law_438 ?_
  refine x_sld S hX hbl hbA hS (j := (i + 1)) (by omega) (by omega) dL_law_439 ?_
  refine lv_aload_n hx hb dL_law_440 rfl (lv_at hl 3 rfl) ?_
  refine lv_iload_n hx hb dL_law_441 rfl (lv_at hl 0 rfl) ?_
  refine lv_iconst (v := nI 2) hx hb dL_law_442 (by decide) ?_
  refine x_iaddN S dL_law_443 ?_
  refine x_sld S hX hbl hbA hS (j := (i + 2)) (by omega) (by omega) dL_law_444 ?_
  refine x_cVWi (As := [.int (xs (i + 1)), .int (xs (i + 2))]) (rest := [.int r1]) S hK hP2 hS hA2 0 (by omega) rfl rfl (c_X9_purse l τ hI2 (xs (i + 1)) (xs (i + 2)) (xRel_IM hrel)) (x_cwV (n0 := 2) (cq := (RX9, TX9, 24)) S gL_law_X9_purse rfl (by decide +kernel) ⟨(Nat.le_of_ble_eq_true rfl), (Nat.le_of_ble_eq_true rfl)⟩) rfl hl.1 rfl (Nat.le_of_ble_eq_true rfl) dL_law_445 ⟨(Nat.le_of_ble_eq_true rfl), (Nat.le_of_ble_eq_true rfl)⟩ (fun r2 τ1 H1 locs hr2 hP2 hk9 hS => ?_)
  have hP1 := xkeep hP1 (fun i j hi hj e9 => hdis i j hi hj e9) hk9
  obtain ⟨hr2, hs2⟩ := hr2
  have hres : r1 = r2 := by rw [hr1, hr2]; simp only [xRw_F hR, xRw_L hR, xRw_Y hR, xRw_c hR, xRw_s hR, hR.2.1.1, hR.2.2.1.1, hR.2.2.1.2.1, hR.2.2.1.2.2.1, hR.2.2.2.1.1, hR.2.2.2.1.2.1, hR.2.2.2.1.2.2.1, hR.2.2.2.2.1, xpm_sound_eq, xpm_chance_eq, xpm_could_eq]
  have hrel2 : xRel σ τ1 := (xRel_Ms hrel hs2)
  refine lv_icmp_eq (tgt := 1350) hx hb dL_law_448 (by decide) (fun _ => ?_) (fun q => absurd hres q)
  exact kk _ _ _ _ ⟨hP1, hP2, hS, hrel2⟩
set_option maxHeartbeats 4000000 in
set_option maxRecDepth 100000 in
theorem law_debt {p : Program} {l : Launch} {e : Env} {s : State} {m : MethodId} {below : List Frame} {meth : Method} {c : Code} {b L : Nat} {xs : Nat → Int32} {D : va_G} {K : Nat → ClassId} {α β : Nat → Nat} (F : xLF p s m meth c b L xs D K α β) {σ τ : Nat → Nat → Int32} {H : Heap} {locs : List Loc} {ls : Array Slot} {i : Nat} (hv : xLI D K α β s σ τ H locs) (hl : lv_has ls 4 [(3, .int (nI i)), (2, .ref (β 0)), (1, .ref (α 0)), (0, .ref b)]) (hi : i + 6 ≤ L) (kk : ∀ (σ2 τ2 : Nat → Nat → Int32) (H2 : Heap) (locs2 : List Loc), xLI D K α β s σ2 τ2 H2 locs2 → W p l e room_1 s m #[Value.ref b] below meth c H2 locs2 62 1210 (lw_Z below #[Value.ref b] s) (F0 m 1350 ls [])) : W p l e room_1 s m #[Value.ref b] below meth c H locs 62 1210 (lw_Z below #[Value.ref b] s) (F0 m 453 ls []) := by
  obtain ⟨S, hr, hX, hbl, hL, hK, hI1, hI2, hα, hβ, hdis⟩ := F
  obtain ⟨hP1, hP2, hS, hrel⟩ := hv
  have hx := S.1
  have hb := S.2.1
  have hR := hrel.2
  have hbA : ¬ (fun q : Nat => s.heap.size ≤ q) b := Nat.not_le.mpr hbl
  have hA1 : ∀ q, xw_R 42 α q → (fun q : Nat => s.heap.size ≤ q) q := fun q ⟨k, hk, e9⟩ => e9 ▸ hα k hk
  have hA2 : ∀ q, xw_R 20 β q → (fun q : Nat => s.heap.size ≤ q) q := fun q ⟨k, hk, e9⟩ => e9 ▸ hβ k hk
  refine lv_aload_n hx hb dL_law_453 rfl (lv_at hl 2 rfl) ?_
  refine lv_aload_n hx hb dL_law_454 rfl (lv_at hl 3 rfl) ?_
  refine lv_iload_n hx hb dL_law_455 rfl (lv_at hl 0 rfl) ?_
  refine lv_iconst (v := nI 1) hx hb dL_law_456 (by decide) ?_
  refine x_iaddN S dL_law_457 ?_
  refine x_sld S hX hbl hbA hS (j := (i + 1)) (by omega) (by omega) dL_law_458 ?_
  refine lv_aload_n hx hb dL_law_459 rfl (lv_at hl 3 rfl) ?_
  refine lv_iload_n hx hb dL_law_460 rfl (lv_at hl 0 rfl) ?_
  refine lv_iconst (v := nI 2) hx hb dL_law_461 (by decide) ?_
  refine x_iaddN S dL_law_462 ?_
  refine x_sld S hX hbl hbA hS (j := (i + 2)) (by omega) (by omega) dL_law_463 ?_
  refine lv_aload_n hx hb dL_law_464 rfl (lv_at hl 3 rfl) ?_
  refine lv_iload_n hx hb dL_law_465 rfl (lv_at hl 0 rfl) ?_
  refine lv_iconst (v := nI 3) hx hb dL_law_466 (by decide) ?_
  refine x_iaddN S dL_law_467 ?_
  refine x_sld S hX hbl hbA hS (j := (i + 3)) (by omega) (by omega) dL_law_468 ?_
  refine x_cVRi (As := [.int (xs (i + 1)), .int (xs (i + 2)), .int (xs (i + 3))]) (rest := []) S hK hP1 0 (by omega) rfl rfl (c_X8_debt l σ (xs (i + 1)) (xs (i + 2)) (xs (i + 3)) hrel.1) (x_cwV (n0 := 3) (cq := (RX8, TX8, 9)) S gL_law_X8_debt rfl (by decide +kernel) ⟨(Nat.le_of_ble_eq_true rfl), (Nat.le_of_ble_eq_true rfl)⟩) rfl hl.1 rfl (Nat.le_of_ble_eq_true rfl) dL_law_469 ⟨(Nat.le_of_ble_eq_true rfl), (Nat.le_of_ble_eq_true rfl)⟩ (fun r1 hr1 => ?_)
  refine lv_aload_n hx hb dL_law_472 rfl (lv_at hl 1 rfl) ?_
  refine lv_aload_n hx hb dL_law_473 rfl (lv_at hl 3 rfl) ?_
  refine lv_iload_n hx hb dL_law_474 rfl (lv_at hl 0 rfl) ?_
  refine lv_iconst (v := nI 1) hx hb dL_law_475 (by decide) ?_
  refine x_iaddN S dL_law_476 ?_
  refine x_sld S hX hbl hbA hS (j := (i + 1)) (by omega) (by omega) dL_law_477 ?_
  refine lv_aload_n hx hb dL_law_478 rfl (lv_at hl 3 rfl) ?_
  refine lv_iload_n hx hb dL_law_479 rfl (lv_at hl 0 rfl) ?_
  refine lv_iconst (v := nI 2) hx hb dL_law_480 (by decide) ?_
  refine x_iaddN S dL_law_481 ?_
  refine x_sld S hX hbl hbA hS (j := (i + 2)) (by omega) (by omega) dL_law_482 ?_
  refine lv_aload_n hx hb dL_law_483 rfl (lv_at hl 3 rfl) ?_
  refine lv_iload_n hx hb dL_law_484 rfl (lv_at hl 0 rfl) ?_
  refine lv_iconst (v := nI 3) hx hb dL_law_485 (by decide) ?_
  refine x_iaddN S dL_law_486 ?_
  refine x_sld S hX hbl hbA hS (j := (i + 3)) (by omega) (by omega) dL_law_487 ?_
  refine x_cVWi (As := [.int (xs (i + 1)), .int (xs (i + 2)), .int (xs (i + 3))]) (rest := [.int r1]) S hK hP2 hS hA2 0 (by omega) rfl rfl (c_X9_debt l τ hI2 (xs (i + 1)) (xs (i + 2)) (xs (i + 3)) (xRel_IM hrel)) (x_cwV (n0 := 3) (cq := (RX9, TX9, 24)) S gL_law_X9_debt rfl (by decide +kernel) ⟨(Nat.le_of_ble_eq_true rfl), (Nat.le_of_ble_eq_true rfl)⟩) rfl hl.1 rfl (Nat.le_of_ble_eq_true rfl) dL_law_488 ⟨(Nat.le_of_ble_eq_true rfl), (Nat.le_of_ble_eq_true rfl)⟩ (fun r2 τ1 H1 locs hr2 hP2 hk9 hS => ?_)
  have hP1 := xkeep hP1 (fun i j hi hj e9 => hdis i j hi hj e9) hk9
  obtain ⟨hr2, hs2⟩ := hr2
  have hres : r1 = r2 := by rw [hr1, hr2]; simp only [xRw_F hR, xRw_L hR, xRw_Y hR, xRw_c hR, xRw_s hR, hR.2.1.1, hR.2.2.1.1, hR.2.2.1.2.1, hR.2.2.1.2.2.1, hR.2.2.2.1.1, hR.2.2.2.1.2.1, hR.2.2.2.1.2.2.1, hR.2.2.2.2.1, xpm_sound_eq, xpm_chance_eq, xpm_could_eq]
  have hrel2 : xRel σ τ1 := (xRel_Ms hrel hs2)
  refine lv_icmp_eq (tgt := 1350) hx hb dL_law_491 (by decide) (fun _ => ?_) (fun q => absurd hres q)
  exact kk _ _ _ _ ⟨hP1, hP2, hS, hrel2⟩

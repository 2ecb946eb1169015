set_option maxHeartbeats 4000000 in
set_option maxRecDepth 100000 in
theorem law_been {p : Program} {l : Launch} {e : Env} {s : State} {m : MethodId} {below : List Frame} {meth : Method} {c : Code} {b L : Nat} {xs : Nat → Int32} {D : va_G} {K : Nat → ClassId} {α β : Nat → Nat} (F : xLF p s m meth c b L xs D K α β) {σ τ : Nat → Nat → Int32} {H : Heap} {locs : List Loc} {ls : Array Slot} {i : Nat} (hv : xLI D K α β s σ τ H locs) (hl : lv_has ls 4 [(3, .int (nI i)), (2, .ref (β 0)), (1, .ref (α 0)), (0, .ref b)]) (hi : i + 6 ≤ L) (kk : ∀ (σ2 τ2 : Nat → Nat → Int32) (H2 : Heap) (locs2 : List Loc), xLI D K α β s σ2 τ2 H2 locs2 → W p l e room_1 s m #[Value.ref b] below meth c H2 locs2 62 1210 (lw_Z below #[Value.ref b] s) (F0 m 1350 ls [])) : W p l e room_1 s m #[Value.ref b] below meth c H locs 62 1210 (lw_Z below #[Value.ref b] s) (F0 m 496 ls []) := by
  obtain ⟨S, hr, hX, hbl, hL, hK, hI1, hI2, hα, hβ, hdis⟩ := F
  obtain ⟨hP1, hP2, hS, hrel⟩ := hv
  have hx := S.1
  have hb := S.2.1
  have hR := hrel.2
  have hbA : ¬ (fun q : Nat => s.heap.size ≤ q) b := Nat.not_le.mpr hbl
  have hA1 : ∀ q, xw_R 42 α q → (fun q : Nat => s.heap.size ≤ q) q := fun q ⟨k, hk, e9⟩ => e9 ▸ hα k hk
  have hA2 : ∀ q, xw_R 20 β q → (fun q : Nat => s.heap.size ≤ q) q := fun q ⟨k, hk, e9⟩ => e9 ▸ hβ k hk
  refine lv_aload_n hx hb dL_law_496 rfl (lv_at hl 2 rfl) ?_
  refine lv_aload_n hx hb dL_law_497 rfl (lv_at hl 3 rfl) ?_
  refine lv_iload_n hx hb dL_law_498 rfl (lv_at hl 0 rfl) ?_
  refine lv_iconst (v := nI 1) hx hb dL_law_499 (by decide) ?_
  refine x_iaddN S dL_law_500 ?_
  refine x_sld S hX hbl hbA hS (j := (i + 1)) (by omega) (by omega) dL_law_501 ?_
  refine lv_aload_n hx hb dL_law_502 rfl (lv_at hl 3 rfl) ?_
  refine lv_iload_n hx hb dL_law_503 rfl (lv_at hl 0 rfl) ?_
  refine lv_iconst (v := nI 2) hx hb dL_law_504 (by decide) ?_
  refine x_iaddN S dL_law_505 ?_
  refine x_sld S hX hbl hbA hS (j := (i + 2)) (by omega) (by omega) dL_law_506 ?_
  refine x_cVRi (As := [.int (xs (i + 1)), .int (xs (i + 2))]) (rest := []) S hK hP1 0 (by omega) rfl rfl (c_X8_been l σ (xs (i + 1)) (xs (i + 2)) hrel.1) (x_cwV (n0 := 2) (cq := (RX8, TX8, 9)) S gL_law_X8_been rfl (by decide +kernel) ⟨(Nat.le_of_ble_eq_true rfl), (Nat.le_of_ble_eq_true rfl)⟩) rfl hl.1 rfl (Nat.le_of_ble_eq_true rfl) dL_law_507 ⟨(Nat.le_of_ble_eq_true rfl), (Nat.le_of_ble_eq_true rfl)⟩ (fun r1 hr1 => ?_)
  refine lv_aload_n hx hb dL_law_510 rfl (lv_at hl 1 rfl) ?_
  refine lv_aload_n hx hb dL_law_511 rfl (lv_at hl 3 rfl) ?_
  refine lv_iload_n hx hb dL_law_512 rfl (lv_at hl 0 rfl) ?_
  refine lv_iconst (v := nI 1) hx hb dL_law_513 (by decide) ?_
  refine x_iaddN S dL_law_514 ?_
  refine x_sld S hX hbl hbA hS (j := (i + 1)) (by omega) (by omega) dL_law_515 ?_
  refine lv_aload_n hx hb dL_law_516 rfl (lv_at hl 3 rfl) ?_
  refine lv_iload_n hx hb dL_law_517 rfl (lv_at hl 0 rfl) ?_
  refine lv_iconst (v := nI 2) hx hb dL_law_518 (by decide) ?_
  refine x_iaddN S dL_law_519 ?_
  refine x_sld S hX hbl hbA hS (j := (i + 2)) (by omega) (by omega) dL_law_520 ?_
  refine x_cVWi (As := [.int (xs (i + 1)), .int (xs (i + 2))]) (rest := [.int r1]) S hK hP2 hS hA2 0 (by omega) rfl rfl (c_X9_been l τ hI2 (xs (i + 1)) (xs (i + 2)) (xRel_IM hrel)) (x_cwV (n0 := 2) (cq := (RX9, TX9, 24)) S gL_law_X9_been rfl (by decide +kernel) ⟨(Nat.le_of_ble_eq_true rfl), (Nat.le_of_ble_eq_true rfl)⟩) rfl hl.1 rfl (Nat.le_of_ble_eq_true rfl) dL_law_521 ⟨(Nat.le_of_ble_eq_true rfl), (Nat.le_of_ble_eq_true rfl)⟩ (fun r2 τ1 H1 locs hr2 hP2 hk9 hS => ?_)
  have hP1 := xkeep hP1 (fun i j hi hj e9 => hdis i j hi hj e9) hk9
  obtain ⟨hr2, hs2⟩ := hr2
  have hres : r1 = r2 := by rw [hr1, hr2]; simp only [xRw_F hR, xRw_L hR, xRw_Y hR, xRw_c hR, xRw_s hR, hR.2.1.1, hR.2.2.1.1, hR.2.2.1.2.1, hR.2.2.1.2.2.1, hR.2.2.2.1.1, hR.2.2.2.1.2.1, hR.2.2.2.1.2.2.1, hR.2.2.2.2.1, xpm_sound_eq, xpm_chance_eq, xpm_could_eq]
  have hrel2 : xRel σ τ1 := (xRel_Ms hrel hs2)
  refine lv_icmp_eq (tgt := 1350) hx hb dL_law_524 (by decide) (fun _ => ?_) (fun q => absurd hres q)
  exact kk _ _ _ _ ⟨hP1, hP2, hS, hrel2⟩
set_option maxHeartbeats 4000000 in
set_option maxRecDepth 100000 in
theorem law_home {p : Program} {l : Launch} {e : Env} {s : State} {m : MethodId} {below : List Frame} {meth : Method} {c : Code} {b L : Nat} {xs : Nat → Int32} {D : va_G} {K : Nat → ClassId} {α β : Nat → Nat} (F : xLF p s m meth c b L xs D K α β) {σ τ : Nat → Nat → Int32} {H : Heap} {locs : List Loc} {ls : Array Slot} {i : Nat} (hv : xLI D K α β s σ τ H locs) (hl : lv_has ls 4 [(3, .int (nI i)), (2, .ref (β 0)), (1, .ref (α 0)), (0, .ref b)]) (hi : i + 6 ≤ L) (kk : ∀ (σ2 τ2 : Nat → Nat → Int32) (H2 : Heap) (locs2 : List Loc), xLI D K α β s σ2 τ2 H2 locs2 → W p l e room_1 s m #[Value.ref b] below meth c H2 locs2 62 1210 (lw_Z below #[Value.ref b] s) (F0 m 1350 ls [])) : W p l e room_1 s m #[Value.ref b] below meth c H locs 62 1210 (lw_Z below #[Value.ref b] s) (F0 m 529 ls []) := by
  obtain ⟨S, hr, hX, hbl, hL, hK, hI1, hI2, hα, hβ, hdis⟩ := F
  obtain ⟨hP1, hP2, hS, hrel⟩ := hv
  have hx := S.1
  have hb := S.2.1
  have hR := hrel.2
  have hbA : ¬ (fun q : Nat => s.heap.size ≤ q) b := Nat.not_le.mpr hbl
  have hA1 : ∀ q, xw_R 42 α q → (fun q : Nat => s.heap.size ≤ q) q := fun q ⟨k, hk, e9⟩ => e9 ▸ hα k hk
  have hA2 : ∀ q, xw_R 20 β q → (fun q : Nat => s.heap.size ≤ q) q := fun q ⟨k, hk, e9⟩ => e9 ▸ hβ k hk
  refine lv_aload_n hx hb dL_law_529 rfl (lv_at hl 2 rfl) ?_
  refine lv_aload_n hx hb dL_law_530 rfl (lv_at hl 3 rfl) ?_
  refine lv_iload_n hx hb dL_law_531 rfl (lv_at hl 0 rfl) ?_
  refine lv_iconst (v := nI 1) hx hb dL_law_532 (by decide) ?_
  refine x_iaddN S dL_law_533 ?_
  refine x_sld S hX hbl hbA hS (j := (i + 1)) (by omega) (by omega) dL_law_534 ?_
  refine x_cVRi (As := [.int (xs (i + 1))]) (rest := []) S hK hP1 0 (by omega) rfl rfl (c_X8_home l σ (xs (i + 1)) hrel.1) (x_cwV (n0 := 1) (cq := (RX8, TX8, 9)) S gL_law_X8_home rfl (by decide +kernel) ⟨(Nat.le_of_ble_eq_true rfl), (Nat.le_of_ble_eq_true rfl)⟩) rfl hl.1 rfl (Nat.le_of_ble_eq_true rfl) dL_law_535 ⟨(Nat.le_of_ble_eq_true rfl), (Nat.le_of_ble_eq_true rfl)⟩ (fun r1 hr1 => ?_)
  refine lv_aload_n hx hb dL_law_538 rfl (lv_at hl 1 rfl) ?_
  refine lv_aload_n hx hb dL_law_539 rfl (lv_at hl 3 rfl) ?_
  refine lv_iload_n hx hb dL_law_540 rfl (lv_at hl 0 rfl) ?_
  refine lv_iconst (v := nI 1) hx hb dL_law_541 (by decide) ?_
  refine x_iaddN S dL_law_542 ?_
  refine x_sld S hX hbl hbA hS (j := (i + 1)) (by omega) (by omega) dL_law_543 ?_
  refine x_cVWi (As := [.int (xs (i + 1))]) (rest := [.int r1]) S hK hP2 hS hA2 0 (by omega) rfl rfl (c_X9_home l τ hI2 (xs (i + 1)) (xRel_IM hrel)) (x_cwV (n0 := 1) (cq := (RX9, TX9, 24)) S gL_law_X9_home rfl (by decide +kernel) ⟨(Nat.le_of_ble_eq_true rfl), (Nat.le_of_ble_eq_true rfl)⟩) rfl hl.1 rfl (Nat.le_of_ble_eq_true rfl) dL_law_544 ⟨(Nat.le_of_ble_eq_true rfl), (Nat.le_of_ble_eq_true rfl)⟩ (fun r2 τ1 H1 locs hr2 hP2 hk9 hS => ?_)
  have hP1 := xkeep hP1 (fun i j hi hj e9 => hdis i j hi hj e9) hk9
  obtain ⟨hr2, hs2⟩ := hr2
  have hres : r1 = r2 := by rw [hr1, hr2]; simp only [xRw_F hR, xRw_L hR, xRw_Y hR, xRw_c hR, xRw_s hR, hR.2.1.1, hR.2.2.1.1, hR.2.2.1.2.1, hR.2.2.1.2.2.1, hR.2.2.2.1.1, hR.2.2.2.1.2.1, hR.2.2.2.1.2.2.1, hR.2.2.2.2.1, xpm_sound_eq, xpm_chance_eq, xpm_could_eq]
  have hrel2 : xRel σ τ1 := (xRel_Ms hrel hs2)
  refine lv_icmp_eq (tgt := 1350) hx hb dL_law_547 (by decide) (fun _ => ?_) (fun q => absurd hres q)
  exact kk _ _ _ _ ⟨hP1, hP2, hS, hrel2⟩
set_option maxHeartbeats 4000000 in
set_option maxRecDepth 100000 in
theorem law_other {p : Program} {l : Launch} {e : Env} {s : State} {m : MethodId} {below : List Frame} {meth : Method} {c : Code} {b L : Nat} {xs : Nat → Int32} {D : va_G} {K : Nat → ClassId} {α β : Nat → Nat} (F : xLF p s m meth c b L xs D K α β) {σ τ : Nat → Nat → Int32} {H : Heap} {locs : List Loc} {ls : Array Slot} {i : Nat} (hv : xLI D K α β s σ τ H locs) (hl : lv_has ls 4 [(3, .int (nI i)), (2, .ref (β 0)), (1, .ref (α 0)), (0, .ref b)]) (hi : i + 6 ≤ L) (kk : ∀ (σ2 τ2 : Nat → Nat → Int32) (H2 : Heap) (locs2 : List Loc), xLI D K α β s σ2 τ2 H2 locs2 → W p l e room_1 s m #[Value.ref b] below meth c H2 locs2 62 1210 (lw_Z below #[Value.ref b] s) (F0 m 1350 ls [])) : W p l e room_1 s m #[Value.ref b] below meth c H locs 62 1210 (lw_Z below #[Value.ref b] s) (F0 m 552 ls []) := by
  obtain ⟨S, hr, hX, hbl, hL, hK, hI1, hI2, hα, hβ, hdis⟩ := F
  obtain ⟨hP1, hP2, hS, hrel⟩ := hv
  have hx := S.1
  have hb := S.2.1
  have hR := hrel.2
  have hbA : ¬ (fun q : Nat => s.heap.size ≤ q) b := Nat.not_le.mpr hbl
  have hA1 : ∀ q, xw_R 42 α q → (fun q : Nat => s.heap.size ≤ q) q := fun q ⟨k, hk, e9⟩ => e9 ▸ hα k hk
  have hA2 : ∀ q, xw_R 20 β q → (fun q : Nat => s.heap.size ≤ q) q := fun q ⟨k, hk, e9⟩ => e9 ▸ hβ k hk
  refine lv_aload_n hx hb dL_law_552 rfl (lv_at hl 2 rfl) ?_
  refine lv_aload_n hx hb dL_law_553 rfl (lv_at hl 3 rfl) ?_
  refine lv_iload_n hx hb dL_law_554 rfl (lv_at hl 0 rfl) ?_
  refine lv_iconst (v := nI 1) hx hb dL_law_555 (by decide) ?_
  refine x_iaddN S dL_law_556 ?_
  refine x_sld S hX hbl hbA hS (j := (i + 1)) (by omega) (by omega) dL_law_557 ?_
  refine lv_aload_n hx hb dL_law_558 rfl (lv_at hl 3 rfl) ?_
  refine lv_iload_n hx hb dL_law_559 rfl (lv_at hl 0 rfl) ?_
  refine lv_iconst (v := nI 2) hx hb dL_law_560 (by decide) ?_
  refine x_iaddN S dL_law_561 ?_
  refine x_sld S hX hbl hbA hS (j := (i + 2)) (by omega) (by omega) dL_law_562 ?_
  refine x_cVRi (As := [.int (xs (i + 1)), .int (xs (i + 2))]) (rest := []) S hK hP1 0 (by omega) rfl rfl (c_X8_other l σ (xs (i + 1)) (xs (i + 2)) hrel.1) (x_cwV (n0 := 2) (cq := (RX8, TX8, 9)) S gL_law_X8_other rfl (by decide +kernel) ⟨(Nat.le_of_ble_eq_true rfl), (Nat.le_of_ble_eq_true rfl)⟩) rfl hl.1 rfl (Nat.le_of_ble_eq_true rfl) dL_law_563 ⟨(Nat.le_of_ble_eq_true rfl), (Nat.le_of_ble_eq_true rfl)⟩ (fun r1 hr1 => ?_)
  refine lv_aload_n hx hb dL_law_566 rfl (lv_at hl 1 rfl) ?_
  refine lv_aload_n hx hb dL_law_567 rfl (lv_at hl 3 rfl) ?_
  refine lv_iload_n hx hb dL_law_568 rfl (lv_at hl 0 rfl) ?_
  refine lv_iconst (v := nI 1) hx hb dL_law_569 (by decide) ?_
  refine x_iaddN S dL_law_570 ?_
  refine x_sld S hX hbl hbA hS (j := (i + 1)) (by omega) (by omega) dL_law_571 ?_
  refine lv_aload_n hx hb dL_law_572 rfl (lv_at hl 3 rfl) ?_
  refine lv_iload_n hx hb dL_law_573 rfl (lv_at hl 0 rfl) ?_
  refine lv_iconst (v := nI 2) hx hb dL_law_574 (by decide) ?_
  refine x_iaddN S dL_law_575 ?_
  refine x_sld S hX hbl hbA hS (j := (i + 2)) (by omega) (by omega) dL_law_576 ?_
  refine x_cVWi (As := [.int (xs (i + 1)), .int (xs (i + 2))]) (rest := [.int r1]) S hK hP2 hS hA2 0 (by omega) rfl rfl (c_X9_other l τ hI2 (xs (i + 1)) (xs (i + 2)) (xRel_IM hrel)) (x_cwV (n0 := 2) (cq := (RX9, TX9, 24)) S gL_law_X9_other rfl (by decide +kernel) ⟨(Nat.le_of_ble_eq_true rfl), (Nat.le_of_ble_eq_true rfl)⟩) rfl hl.1 rfl (Nat.le_of_ble_eq_true rfl) dL_law_577 ⟨(Nat.le_of_ble_eq_true rfl), (Nat.le_of_ble_eq_true rfl)⟩ (fun r2 τ1 H1 locs hr2 hP2 hk9 hS => ?_)
  have hP1 := xkeep hP1 (fun i j hi hj e9 => hdis i j hi hj e9) hk9
  obtain ⟨hr2, hs2⟩ := hr2
  have hres : r1 = r2 := by rw [hr1, hr2]; simp only [xRw_F hR, xRw_L hR, xRw_Y hR, xRw_c hR, xRw_s hR, hR.2.1.1, hR.2.2.1.1, hR.2.2.1.2.1, hR.2.2.1.2.2.1, hR.2.2.2.1.1, hR.2.2.2.1.2.1, hR.2.2.2.1.2.2.1, hR.2.2.2.2.1, xpm_sound_eq, xpm_chance_eq, xpm_could_eq]
  have hrel2 : xRel σ τ1 := (xRel_Ms hrel hs2)
  refine lv_icmp_eq (tgt := 1350) hx hb dL_law_580 (by decide) (fun _ => ?_) (fun q => absurd hres q)
  exact kk _ _ _ _ ⟨hP1, hP2, hS, hrel2⟩
set_option maxHeartbeats 4000000 in
set_option maxRecDepth 100000 in
theorem law_sound {p : Program} {l : Launch} {e : Env} {s : State} {m : MethodId} {below : List Frame} {meth : Method} {c : Code} {b L : Nat} {xs : Nat → Int32} {D : va_G} {K : Nat → ClassId} {α β : Nat → Nat} (F : xLF p s m meth c b L xs D K α β) {σ τ : Nat → Nat → Int32} {H : Heap} {locs : List Loc} {ls : Array Slot} {i : Nat} (hv : xLI D K α β s σ τ H locs) (hl : lv_has ls 4 [(3, .int (nI i)), (2, .ref (β 0)), (1, .ref (α 0)), (0, .ref b)]) (hi : i + 6 ≤ L) (kk : ∀ (σ2 τ2 : Nat → Nat → Int32) (H2 : Heap) (locs2 : List Loc), xLI D K α β s σ2 τ2 H2 locs2 → W p l e room_1 s m #[Value.ref b] below meth c H2 locs2 62 1210 (lw_Z below #[Value.ref b] s) (F0 m 1350 ls [])) : W p l e room_1 s m #[Value.ref b] below meth c H locs 62 1210 (lw_Z below #[Value.ref b] s) (F0 m 585 ls []) := by
  obtain ⟨S, hr, hX, hbl, hL, hK, hI1, hI2, hα, hβ, hdis⟩ := F
  obtain ⟨hP1, hP2, hS, hrel⟩ := hv
  have hx := S.1
  have hb := S.2.1
  have hR := hrel.2
  have hbA : ¬ (fun q : Nat => s.heap.size ≤ q) b := Nat.not_le.mpr hbl
  have hA1 : ∀ q, xw_R 42 α q → (fun q : Nat => s.heap.size ≤ q) q := fun q ⟨k, hk, e9⟩ => e9 ▸ hα k hk
  have hA2 : ∀ q, xw_R 20 β q → (fun q : Nat => s.heap.size ≤ q) q := fun q ⟨k, hk, e9⟩ => e9 ▸ hβ k hk
  refine lv_aload_n hx hb dL_law_585 rfl (lv_at hl 2 rfl) ?_
  refine lv_aload_n hx hb dL_law_586 rfl (lv_at hl 3 rfl) ?_
  refine lv_iload_n hx hb dL_law_587 rfl (lv_at hl 0 rfl) ?_
  refine lv_iconst (v := nI 1) hx hb dL_law_588 (by decide) ?_
  refine x_iaddN S dL_law_589 ?_
  refine x_sld S hX hbl hbA hS (j := (i + 1)) (by omega) (by omega) dL_law_590 ?_
  refine x_cVWi (As := [.int (xs (i + 1))]) (rest := []) S hK hP1 hS hA1 0 (by omega) rfl rfl (c_X8_sound l σ hI1 (xs (i + 1)) ) (x_cwV (n0 := 1) (cq := (RX8, TX8, 9)) S gL_law_X8_sound rfl (by decide +kernel) ⟨(Nat.le_of_ble_eq_true rfl), (Nat.le_of_ble_eq_true rfl)⟩) rfl hl.1 rfl (Nat.le_of_ble_eq_true rfl) dL_law_591 ⟨(Nat.le_of_ble_eq_true rfl), (Nat.le_of_ble_eq_true rfl)⟩ (fun r1 σ1 H1 locs hr1 hP1 hk9 hS => ?_)
  have hP2 := xkeep hP2 (fun i j hi hj e9 => hdis j i hj hi e9.symm) hk9
  refine lv_aload_n hx hb dL_law_594 rfl (lv_at hl 1 rfl) ?_
  refine lv_aload_n hx hb dL_law_595 rfl (lv_at hl 3 rfl) ?_
  refine lv_iload_n hx hb dL_law_596 rfl (lv_at hl 0 rfl) ?_
  refine lv_iconst (v := nI 1) hx hb dL_law_597 (by decide) ?_
  refine x_iaddN S dL_law_598 ?_
  refine x_sld S hX hbl hbA hS (j := (i + 1)) (by omega) (by omega) dL_law_599 ?_
  refine x_cVWi (As := [.int (xs (i + 1))]) (rest := [.int r1]) S hK hP2 hS hA2 0 (by omega) rfl rfl (c_X9_sound l τ hI2 (xs (i + 1)) ) (x_cwV (n0 := 1) (cq := (RX9, TX9, 24)) S gL_law_X9_sound rfl (by decide +kernel) ⟨(Nat.le_of_ble_eq_true rfl), (Nat.le_of_ble_eq_true rfl)⟩) rfl hl.1 rfl (Nat.le_of_ble_eq_true rfl) dL_law_600 ⟨(Nat.le_of_ble_eq_true rfl), (Nat.le_of_ble_eq_true rfl)⟩ (fun r2 τ1 H1 locs hr2 hP2 hk9 hS => ?_)
  have hP1 := xkeep hP1 (fun i j hi hj e9 => hdis i j hi hj e9) hk9
  obtain ⟨hr1, hs1⟩ := hr1
  obtain ⟨hr2, hs2⟩ := hr2
  have hres : r1 = r2 := by rw [hr1, hr2]; simp only [xRw_F hR, xRw_L hR, xRw_Y hR, xRw_c hR, xRw_s hR, hR.2.1.1, hR.2.2.1.1, hR.2.2.1.2.1, hR.2.2.1.2.2.1, hR.2.2.2.1.1, hR.2.2.2.1.2.1, hR.2.2.2.1.2.2.1, hR.2.2.2.2.1, xpm_sound_eq, xpm_chance_eq, xpm_could_eq]
  have hrel2 : xRel σ1 τ1 := (xRel_Ms (xRel_Cs hrel hs1) hs2)
  refine lv_icmp_eq (tgt := 1350) hx hb dL_law_603 (by decide) (fun _ => ?_) (fun q => absurd hres q)
  exact kk _ _ _ _ ⟨hP1, hP2, hS, hrel2⟩
set_option maxHeartbeats 4000000 in
set_option maxRecDepth 100000 in
theorem law_chance {p : Program} {l : Launch} {e : Env} {s : State} {m : MethodId} {below : List Frame} {meth : Method} {c : Code} {b L : Nat} {xs : Nat → Int32} {D : va_G} {K : Nat → ClassId} {α β : Nat → Nat} (F : xLF p s m meth c b L xs D K α β) {σ τ : Nat → Nat → Int32} {H : Heap} {locs : List Loc} {ls : Array Slot} {i : Nat} (hv : xLI D K α β s σ τ H locs) (hl : lv_has ls 4 [(3, .int (nI i)), (2, .ref (β 0)), (1, .ref (α 0)), (0, .ref b)]) (hi : i + 6 ≤ L) (kk : ∀ (σ2 τ2 : Nat → Nat → Int32) (H2 : Heap) (locs2 : List Loc), xLI D K α β s σ2 τ2 H2 locs2 → W p l e room_1 s m #[Value.ref b] below meth c H2 locs2 62 1210 (lw_Z below #[Value.ref b] s) (F0 m 1350 ls [])) : W p l e room_1 s m #[Value.ref b] below meth c H locs 62 1210 (lw_Z below #[Value.ref b] s) (F0 m 608 ls []) := by
  obtain ⟨S, hr, hX, hbl, hL, hK, hI1, hI2, hα, hβ, hdis⟩ := F
  obtain ⟨hP1, hP2, hS, hrel⟩ := hv
  have hx := S.1
  have hb := S.2.1
  have hR := hrel.2
  have hbA : ¬ (fun q : Nat => s.heap.size ≤ q) b := Nat.not_le.mpr hbl
  have hA1 : ∀ q, xw_R 42 α q → (fun q : Nat => s.heap.size ≤ q) q := fun q ⟨k, hk, e9⟩ => e9 ▸ hα k hk
  have hA2 : ∀ q, xw_R 20 β q → (fun q : Nat => s.heap.size ≤ q) q := fun q ⟨k, hk, e9⟩ => e9 ▸ hβ k hk
  refine lv_aload_n hx hb dL_law_608 rfl (lv_at hl 2 rfl) ?_
  refine lv_aload_n hx hb dL_law_609 rfl (lv_at hl 3 rfl) ?_
  refine lv_iload_n hx hb dL_law_610 rfl (lv_at hl 0 rfl) ?_
  refine lv_iconst (v := nI 1) hx hb dL_law_611 (by decide) ?_
  refine x_iaddN S dL_law_612 ?_
  refine x_sld S hX hbl hbA hS (j := (i + 1)) (by omega) (by omega) dL_law_613 ?_
  refine lv_aload_n hx hb dL_law_614 rfl (lv_at hl 3 rfl) ?_
  refine lv_iload_n hx hb dL_law_615 rfl (lv_at hl 0 rfl) ?_
  refine lv_iconst (v := nI 2) hx hb dL_law_616 (by decide) ?_
  refine x_iaddN S dL_law_617 ?_
  refine x_sld S hX hbl hbA hS (j := (i + 2)) (by omega) (by omega) dL_law_618 ?_
  refine lv_aload_n hx hb dL_law_619 rfl (lv_at hl 3 rfl) ?_
  refine lv_iload_n hx hb dL_law_620 rfl (lv_at hl 0 rfl) ?_
  refine lv_iconst (v := nI 3) hx hb dL_law_621 (by decide) ?_
  refine x_iaddN S dL_law_622 ?_
  refine x_sld S hX hbl hbA hS (j := (i + 3)) (by omega) (by omega) dL_law_623 ?_
  refine x_cVWl (As := [.int (xs (i + 1)), .int (xs (i + 2)), .int (xs (i + 3))]) (rest := []) S hK hP1 hS hA1 0 (by omega) rfl rfl (c_X8_chance l σ hI1 (xs (i + 1)) (xs (i + 2)) (xs (i + 3)) ) (x_cwV (n0 := 3) (cq := (RX8, TX8, 9)) S gL_law_X8_chance rfl (by decide +kernel) ⟨(Nat.le_of_ble_eq_true rfl), (Nat.le_of_ble_eq_true rfl)⟩) rfl hl.1 rfl (Nat.le_of_ble_eq_true rfl) dL_law_624 ⟨(Nat.le_of_ble_eq_true rfl), (Nat.le_of_ble_eq_true rfl)⟩ (fun r1 σ1 H1 locs hr1 hP1 hk9 hS => ?_)
  have hP2 := xkeep hP2 (fun i j hi hj e9 => hdis j i hj hi e9.symm) hk9
  refine lv_aload_n hx hb dL_law_627 rfl (lv_at hl 1 rfl) ?_
  refine lv_aload_n hx hb dL_law_628 rfl (lv_at hl 3 rfl) ?_
  refine lv_iload_n hx hb dL_law_629 rfl (lv_at hl 0 rfl) ?_
  refine lv_iconst (v := nI 1) hx hb dL_law_630 (by decide) ?_
  refine x_iaddN S dL_law_631 ?_
  refine x_sld S hX hbl hbA hS (j := (i + 1)) (by omega) (by omega) dL_law_632 ?_
  refine lv_aload_n hx hb dL_law_633 rfl (lv_at hl 3 rfl) ?_
  refine lv_iload_n hx hb dL_law_634 rfl (lv_at hl 0 rfl) ?_
  refine lv_iconst (v := nI 2) hx hb dL_law_635 (by decide) ?_
  refine x_iaddN S dL_law_636 ?_
  refine x_sld S hX hbl hbA hS (j := (i + 2)) (by omega) (by omega) dL_law_637 ?_
  refine lv_aload_n hx hb dL_law_638 rfl (lv_at hl 3 rfl) ?_
  refine lv_iload_n hx hb dL_law_639 rfl (lv_at hl 0 rfl) ?_
  refine lv_iconst (v := nI 3) hx hb dL_law_640 (by decide) ?_
  refine x_iaddN S dL_law_641 ?_
  refine x_sld S hX hbl hbA hS (j := (i + 3)) (by omega) (by omega) dL_law_642 ?_
  refine x_cVWl (As := [.int (xs (i + 1)), .int (xs (i + 2)), .int (xs (i + 3))]) (rest := [.long r1]) S hK hP2 hS hA2 0 (by omega) rfl rfl (c_X9_chance l τ hI2 (xs (i + 1)) (xs (i + 2)) (xs (i + 3)) ) (x_cwV (n0 := 3) (cq := (RX9, TX9, 24)) S gL_law_X9_chance rfl (by decide +kernel) ⟨(Nat.le_of_ble_eq_true rfl), (Nat.le_of_ble_eq_true rfl)⟩) rfl hl.1 rfl (Nat.le_of_ble_eq_true rfl) dL_law_643 ⟨(Nat.le_of_ble_eq_true rfl), (Nat.le_of_ble_eq_true rfl)⟩ (fun r2 τ1 H1 locs hr2 hP2 hk9 hS => ?_)
  have hP1 := xkeep hP1 (fun i j hi hj e9 => hdis i j hi hj e9) hk9
  refine W.lcmp hx hb dL_law_646 ?_
  obtain ⟨hr1, hs1⟩ := hr1
  obtain ⟨hr2, hs2⟩ := hr2
  have hres : r1 = r2 := by rw [hr1, hr2]; simp only [xRw_F hR, xRw_L hR, xRw_Y hR, xRw_c hR, xRw_s hR, hR.2.1.1, hR.2.2.1.1, hR.2.2.1.2.1, hR.2.2.1.2.2.1, hR.2.2.2.1.1, hR.2.2.2.1.2.1, hR.2.2.2.1.2.2.1, hR.2.2.2.2.1, xpm_sound_eq, xpm_chance_eq, xpm_could_eq]
  have hrel2 : xRel σ1 τ1 := (xRel_Ms (xRel_Cs hrel hs1) hs2)
  refine lv_if_eq (tgt := 1350) hx hb dL_law_647 (by decide) (fun _ => ?_) (fun q => absurd ((lg_cmp_eq _ _).mpr hres) q)
  exact kk _ _ _ _ ⟨hP1, hP2, hS, hrel2⟩
set_option maxHeartbeats 4000000 in
set_option maxRecDepth 100000 in
theorem law_ahead {p : Program} {l : Launch} {e : Env} {s : State} {m : MethodId} {below : List Frame} {meth : Method} {c : Code} {b L : Nat} {xs : Nat → Int32} {D : va_G} {K : Nat → ClassId} {α β : Nat → Nat} (F : xLF p s m meth c b L xs D K α β) {σ τ : Nat → Nat → Int32} {H : Heap} {locs : List Loc} {ls : Array Slot} {i : Nat} (hv : xLI D K α β s σ τ H locs) (hl : lv_has ls 4 [(3, .int (nI i)), (2, .ref (β 0)), (1, .ref (α 0)), (0, .ref b)]) (hi : i + 6 ≤ L) (kk : ∀ (σ2 τ2 : Nat → Nat → Int32) (H2 : Heap) (locs2 : List Loc), xLI D K α β s σ2 τ2 H2 locs2 → W p l e room_1 s m #[Value.ref b] below meth c H2 locs2 62 1210 (lw_Z below #[Value.ref b] s) (F0 m 1350 ls [])) : W p l e room_1 s m #[Value.ref b] below meth c H locs 62 1210 (lw_Z below #[Value.ref b] s) (F0 m 652 ls []) := by
  obtain ⟨S, hr, hX, hbl, hL, hK, hI1, hI2, hα, hβ, hdis⟩ := F
  obtain ⟨hP1, hP2, hS, hrel⟩ := hv
  have hx := S.1
  have hb := S.2.1
  have hR := hrel.2
  have hbA : ¬ (fun q : Nat => s.heap.size ≤ q) b := Nat.not_le.mpr hbl
  have hA1 : ∀ q, xw_R 42 α q → (fun q : Nat => s.heap.size ≤ q) q := fun q ⟨k, hk, e9⟩ => e9 ▸ hα k hk
  have hA2 : ∀ q, xw_R 20 β q → (fun q : Nat => s.heap.size ≤ q) q := fun q ⟨k, hk, e9⟩ => e9 ▸ hβ k hk
  refine lv_aload_n hx hb dL_law_652 rfl (lv_at hl 2 rfl) ?_
  refine lv_aload_n hx hb dL_law_653 rfl (lv_at hl 3 rfl) ?_
  refine lv_iload_n hx hb dL_law_654 rfl (lv_at hl 0 rfl) ?_
  refine lv_iconst (v := nI 1) hx hb dL_law_655 (by decide) ?_
  refine x_iaddN S dL_law_656 ?_
  refine x_sld S hX hbl hbA hS (j := (i + 1)) (by omega) (by omega) dL_law_657 ?_
  refine lv_aload_n hx hb dL_law_658 rfl (lv_at hl 3 rfl) ?_
  refine lv_iload_n hx hb dL_law_659 rfl (lv_at hl 0 rfl) ?_
  refine lv_iconst (v := nI 2) hx hb dL_law_660 (by decide) ?_
  refine x_iaddN S dL_law_661 ?_
  refine x_sld S hX hbl hbA hS (j := (i + 2)) (by omega) (by omega) dL_law_662 ?_
  refine x_cVRl (As := [.int (xs (i + 1)), .int (xs (i + 2))]) (rest := []) S hK hP1 0 (by omega) rfl rfl (c_X8_ahead l σ (xs (i + 1)) (xs (i + 2)) hrel.1) (x_cwV (n0 := 2) (cq := (RX8, TX8, 9)) S gL_law_X8_ahead rfl (by decide +kernel) ⟨(Nat.le_of_ble_eq_true rfl), (Nat.le_of_ble_eq_true rfl)⟩) rfl hl.1 rfl (Nat.le_of_ble_eq_true rfl) dL_law_663 ⟨(Nat.le_of_ble_eq_true rfl), (Nat.le_of_ble_eq_true rfl)⟩ (fun r1 hr1 => ?_)
  refine lv_aload_n hx hb dL_law_666 rfl (lv_at hl 1 rfl) ?_
  refine lv_aload_n hx hb dL_law_667 rfl (lv_at hl 3 rfl) ?_
  refine lv_iload_n hx hb dL_law_668 rfl (lv_at hl 0 rfl) ?_
  refine lv_iconst (v := nI 1) hx hb dL_law_669 (by decide) ?_
  refine x_iaddN S dL_law_670 ?_
  refine x_sld S hX hbl hbA hS (j := (i + 1)) (by omega) (by omega) dL_law_671 ?_
  refine lv_aload_n hx hb dL_law_672 rfl (lv_at hl 3 rfl) ?_
  refine lv_iload_n hx hb dL_law_673 rfl (lv_at hl 0 rfl) ?_
  refine lv_iconst (v := nI 2) hx hb dL_law_674 (by decide) ?_
  refine x_iaddN S dL_law_675 ?_
  refine x_sld S hX hbl hbA hS (j := (i + 2)) (by omega) (by omega) dL_law_676 ?_
  refine x_cVRl (As := [.int (xs (i + 1)), .int (xs (i + 2))]) (rest := [.long r1]) S hK hP2 0 (by omega) rfl rfl (c_X9_ahead l τ (xs (i + 1)) (xs (i + 2)) (xRel_IM hrel)) (x_cwV (n0 := 2) (cq := (RX9, TX9, 24)) S gL_law_X9_ahead rfl (by decide +kernel) ⟨(Nat.le_of_ble_eq_true rfl), (Nat.le_of_ble_eq_true rfl)⟩) rfl hl.1 rfl (Nat.le_of_ble_eq_true rfl) dL_law_677 ⟨(Nat.le_of_ble_eq_true rfl), (Nat.le_of_ble_eq_true rfl)⟩ (fun r2 hr2 => ?_)
  refine W.lcmp hx hb dL_law_680 ?_
  have hres : r1 = r2 := by rw [hr1, hr2]; simp only [xRw_F hR, xRw_L hR, xRw_Y hR, xRw_c hR, xRw_s hR, hR.2.1.1, hR.2.2.1.1, hR.2.2.1.2.1, hR.2.2.1.2.2.1, hR.2.2.2.1.1, hR.2.2.2.1.2.1, hR.2.2.2.1.2.2.1, hR.2.2.2.2.1, xpm_sound_eq, xpm_chance_eq, xpm_could_eq]
  have hrel2 : xRel σ τ := hrel
  refine lv_if_eq (tgt := 1350) hx hb dL_law_681 (by decide) (fun _ => ?_) (fun q => absurd ((lg_cmp_eq _ _).mpr hres) q)
  exact kk _ _ _ _ ⟨hP1, hP2, hS, hrel2⟩
set_option maxHeartbeats 4000000 in
set_option maxRecDepth 100000 in
theorem law_best {p : Program} {l : Launch} {e : Env} {s : State} {m : MethodId} {below : List Frame} {meth : Method} {c : Code} {b L : Nat} {xs : Nat → Int32} {D : va_G} {K : Nat → ClassId} {α β : Nat → Nat} (F : xLF p s m meth c b L xs D K α β) {σ τ : Nat → Nat → Int32} {H : Heap} {locs : List Loc} {ls : Array Slot} {i : Nat} (hv : xLI D K α β s σ τ H locs) (hl : lv_has ls 4 [(3, .int (nI i)), (2, .ref (β 0)), (1, .ref (α 0)), (0, .ref b)]) (hi : i + 6 ≤ L) (kk : ∀ (σ2 τ2 : Nat → Nat → Int32) (H2 : Heap) (locs2 : List Loc), xLI D K α β s σ2 τ2 H2 locs2 → W p l e room_1 s m #[Value.ref b] below meth c H2 locs2 62 1210 (lw_Z below #[Value.ref b] s) (F0 m 1350 ls [])) : W p l e room_1 s m #[Value.ref b] below meth c H locs 62 1210 (lw_Z below #[Value.ref b] s) (F0 m 686 ls []) := by
  obtain ⟨S, hr, hX, hbl, hL, hK, hI1, hI2, hα, hβ, hdis⟩ := F
  obtain ⟨hP1, hP2, hS, hrel⟩ := hv
  have hx := S.1
  have hb := S.2.1
  have hR := hrel.2
  have hbA : ¬ (fun q : Nat => s.heap.size ≤ q) b := Nat.not_le.mpr hbl
  have hA1 : ∀ q, xw_R 42 α q → (fun q : Nat => s.heap.size ≤ q) q := fun q ⟨k, hk, e9⟩ => e9 ▸ hα k hk
  have hA2 : ∀ q, xw_R 20 β q → (fun q : Nat => s.heap.size ≤ q) q := fun q ⟨k, hk, e9⟩ => e9 ▸ hβ k hk
  refine lv_aload_n hx hb dL_law_686 rfl (lv_at hl 2 rfl) ?_
  refine lv_aload_n hx hb dL_law_687 rfl (lv_at hl 3 rfl) ?_
  refine lv_iload_n hx hb dL_law_688 rfl (lv_at hl 0 rfl) ?_
  refine lv_iconst (v := nI 1) hx hb dL_law_689 (by decide) ?_
  refine x_iaddN S dL_law_690 ?_
  refine x_sld S hX hbl hbA hS (j := (i + 1)) (by omega) (by omega) dL_law_691 ?_
  refine x_cVWi (As := [.int (xs (i + 1))]) (rest := []) S hK hP1 hS hA1 0 (by omega) rfl rfl (c_X8_best l σ hI1 (xs (i + 1)) hrel.1) (x_cwV (n0 := 1) (cq := (RX8, TX8, 9)) S gL_law_X8_best rfl (by decide +kernel) ⟨(Nat.le_of_ble_eq_true rfl), (Nat.le_of_ble_eq_true rfl)⟩) rfl hl.1 rfl (Nat.le_of_ble_eq_true rfl) dL_law_692 ⟨(Nat.le_of_ble_eq_true rfl), (Nat.le_of_ble_eq_true rfl)⟩ (fun r1 σ1 H1 locs hr1 hP1 hk9 hS => ?_)
  have hP2 := xkeep hP2 (fun i j hi hj e9 => hdis j i hj hi e9.symm) hk9
  refine lv_aload_n hx hb dL_law_695 rfl (lv_at hl 1 rfl) ?_
  refine lv_aload_n hx hb dL_law_696 rfl (lv_at hl 3 rfl) ?_
  refine lv_iload_n hx hb dL_law_697 rfl (lv_at hl 0 rfl) ?_
  refine lv_iconst (v := nI 1) hx hb dL_law_698 (by decide) ?_
  refine x_iaddN S dL_law_699 ?_
  refine x_sld S hX hbl hbA hS (j := (i + 1)) (by omega) (by omega) dL_law_700 ?_
  refine x_cVWi (As := [.int (xs (i + 1))]) (rest := [.int r1]) S hK hP2 hS hA2 0 (by omega) rfl rfl (c_X9_best l τ hI2 (xs (i + 1)) (xRel_IM hrel)) (x_cwV (n0 := 1) (cq := (RX9, TX9, 24)) S gL_law_X9_best rfl (by decide +kernel) ⟨(Nat.le_of_ble_eq_true rfl), (Nat.le_of_ble_eq_true rfl)⟩) rfl hl.1 rfl (Nat.le_of_ble_eq_true rfl) dL_law_701 ⟨(Nat.le_of_ble_eq_true rfl), (Nat.le_of_ble_eq_true rfl)⟩ (fun r2 τ1 H1 locs hr2 hP2 hk9 hS => ?_)
  have hP1 := xkeep hP1 (fun i j hi hj e9 => hdis i j hi hj e9) hk9
  obtain ⟨hr1, hs1⟩ := hr1
  obtain ⟨hr2, hs2⟩ := hr2
  have hE : ∀ h, h < 6 → ∀ n, n < 6 → xE (xFC σ) h n ≤ 9 := fun h _ n hn => (xE_ok (F := xFC σ) (xIC_iff.mp hrel.1).2.2.2.1 h hn).2
  have hres : r1 = r2 := by rw [hr1, hr2]; simp only [xRw_F hR, xRw_L hR, xRw_Y hR, xRw_c hR, xRw_s hR, hR.2.1.1, hR.2.2.1.1, hR.2.2.1.2.1, hR.2.2.1.2.2.1, hR.2.2.2.1.1, hR.2.2.2.1.2.1, hR.2.2.2.1.2.2.1, hR.2.2.2.2.1, xpm_sound_eq, xpm_chance_eq, xpm_could_eq, xpm_best_eq hE]
  have hrel2 : xRel σ1 τ1 := (xRel_Ms (xRel_Cs hrel hs1) hs2)
  refine lv_icmp_eq (tgt := 1350) hx hb dL_law_704 (by decide) (fun _ => ?_) (fun q => absurd hres q)
  exact kk _ _ _ _ ⟨hP1, hP2, hS, hrel2⟩
set_option maxHeartbeats 4000000 in
set_option maxRecDepth 100000 in
theorem law_rather {p : Program} {l : Launch} {e : Env} {s : State} {m : MethodId} {below : List Frame} {meth : Method} {c : Code} {b L : Nat} {xs : Nat → Int32} {D : va_G} {K : Nat → ClassId} {α β : Nat → Nat} (F : xLF p s m meth c b L xs D K α β) {σ τ : Nat → Nat → Int32} {H : Heap} {locs : List Loc} {ls : Array Slot} {i : Nat} (hv : xLI D K α β s σ τ H locs) (hl : lv_has ls 4 [(3, .int (nI i)), (2, .ref (β 0)), (1, .ref (α 0)), (0, .ref b)]) (hi : i + 6 ≤ L) (kk : ∀ (σ2 τ2 : Nat → Nat → Int32) (H2 : Heap) (locs2 : List Loc), xLI D K α β s σ2 τ2 H2 locs2 → W p l e room_1 s m #[Value.ref b] below meth c H2 locs2 62 1210 (lw_Z below #[Value.ref b] s) (F0 m 1350 ls [])) : W p l e room_1 s m #[Value.ref b] below meth c H locs 62 1210 (lw_Z below #[Value.ref b] s) (F0 m 709 ls []) := by
  obtain ⟨S, hr, hX, hbl, hL, hK, hI1, hI2, hα, hβ, hdis⟩ := F
  obtain ⟨hP1, hP2, hS, hrel⟩ := hv
  have hx := S.1
  have hb := S.2.1
  have hR := hrel.2
  have hbA : ¬ (fun q : Nat => s.heap.size ≤ q) b := Nat.not_le.mpr hbl
  have hA1 : ∀ q, xw_R 42 α q → (fun q : Nat => s.heap.size ≤ q) q := fun q ⟨k, hk, e9⟩ => e9 ▸ hα k hk
  have hA2 : ∀ q, xw_R 20 β q → (fun q : Nat => s.heap.size ≤ q) q := fun q ⟨k, hk, e9⟩ => e9 ▸ hβ k hk
  refine lv_aload_n hx hb dL_law_709 rfl (lv_at hl 2 rfl) ?_
  refine lv_aload_n hx hb dL_law_710 rfl (lv_at hl 3 rfl) ?_
  refine lv_iload_n hx hb dL_law_711 rfl (lv_at hl 0 rfl) ?_
  refine lv_iconst (v := nI 1) hx hb dL_law_712 (by decide) ?_
  refine x_iaddN S dL_law_713 ?_
  refine x_sld S hX hbl hbA hS (j := (i + 1)) (by omega) (by omega) dL_law_714 ?_
  refine x_cVRi (As := [.int (xs (i + 1))]) (rest := []) S hK hP1 0 (by omega) rfl rfl (c_X8_rather l σ (xs (i + 1)) hrel.1) (x_cwV (n0 := 1) (cq := (RX8, TX8, 9)) S gL_law_X8_rather rfl (by decide +kernel) ⟨(Nat.le_of_ble_eq_true rfl), (Nat.le_of_ble_eq_true rfl)⟩) rfl hl.1 rfl (Nat.le_of_ble_eq_true rfl) dL_law_715 ⟨(Nat.le_of_ble_eq_true rfl), (Nat.le_of_ble_eq_true rfl)⟩ (fun r1 hr1 => ?_)
  refine lv_aload_n hx hb dL_law_718 rfl (lv_at hl 1 rfl) ?_
  refine lv_aload_n hx hb dL_law_719 rfl (lv_at hl 3 rfl) ?_
  refine lv_iload_n hx hb dL_law_720 rfl (lv_at hl 0 rfl) ?_
  refine lv_iconst (v := nI 1) hx hb dL_law_721 (by decide) ?_
  refine x_iaddN S dL_law_722 ?_
  refine x_sld S hX hbl hbA hS (j := (i + 1)) (by omega) (by omega) dL_law_723 ?_
  refine x_cVWi (As := [.int (xs (i + 1))]) (rest := [.int r1]) S hK hP2 hS hA2 0 (by omega) rfl rfl (c_X9_rather l τ hI2 (xs (i + 1)) (xRel_IM hrel)) (x_cwV (n0 := 1) (cq := (RX9, TX9, 24)) S gL_law_X9_rather rfl (by decide +kernel) ⟨(Nat.le_of_ble_eq_true rfl), (Nat.le_of_ble_eq_true rfl)⟩) rfl hl.1 rfl (Nat.le_of_ble_eq_true rfl) dL_law_724 ⟨(Nat.le_of_ble_eq_true rfl), (Nat.le_of_ble_eq_true rfl)⟩ (fun r2 τ1 H1 locs hr2 hP2 hk9 hS => ?_)
  have hP1 := xkeep hP1 (fun i j hi hj e9 => hdis i j hi hj e9) hk9
  obtain ⟨hr2, hs2⟩ := hr2
  have hres : r1 = r2 := by rw [hr1, hr2]; simp only [xRw_F hR, xRw_L hR, xRw_Y hR, xRw_c hR, xRw_s hR, hR.2.1.1, hR.2.2.1.1, hR.2.2.1.2.1, hR.2.2.1.2.2.1, hR.2.2.2.1.1, hR.2.2.2.1.2.1, hR.2.2.2.1.2.2.1, hR.2.2.2.2.1, xpm_sound_eq, xpm_chance_eq, xpm_could_eq]
  have hrel2 : xRel σ τ1 := (xRel_Ms hrel hs2)
  refine lv_icmp_eq (tgt := 1350) hx hb dL_law_727 (by decide) (fun _ => ?_) (fun q => absurd hres q)
  exact kk _ _ _ _ ⟨hP1, hP2, hS, hrel2⟩
set_option maxHeartbeats 4000000 in
set_option maxRecDepth 100000 in
theorem law_on {p : Program} {l : Launch} {e : Env} {s : State} {m : MethodId} {below : List Frame} {meth : Method} {c : Code} {b L : Nat} {xs : Nat → Int32} {D : va_G} {K : Nat → ClassId} {α β : Nat → Nat} (F : xLF p s m meth c b L xs D K α β) {σ τ : Nat → Nat → Int32} {H : Heap} {locs : List Loc} {ls : Array Slot} {i : Nat} (hv : xLI D K α β s σ τ H locs) (hl : lv_has ls 4 [(3, .int (nI i)), (2, .ref (β 0)), (1, .ref (α 0)), (0, .ref b)]) (hi : i + 6 ≤ L) (kk : ∀ (σ2 τ2 : Nat → Nat → Int32) (H2 : Heap) (locs2 : List Loc), xLI D K α β s σ2 τ2 H2 locs2 → W p l e room_1 s m #[Value.ref b] below meth c H2 locs2 62 1210 (lw_Z below #[Value.ref b] s) (F0 m 1350 ls [])) : W p l e room_1 s m #[Value.ref b] below meth c H locs 62 1210 (lw_Z below #[Value.ref b] s) (F0 m 732 ls []) := by
  obtain ⟨S, hr, hX, hbl, hL, hK, hI1, hI2, hα, hβ, hdis⟩ := F
  obtain ⟨hP1, hP2, hS, hrel⟩ := hv
  have hx := S.1
  have hb := S.2.1
  have hR := hrel.2
  have hbA : ¬ (fun q : Nat => s.heap.size ≤ q) b := Nat.not_le.mpr hbl
  have hA1 : ∀ q, xw_R 42 α q → (fun q : Nat => s.heap.size ≤ q) q := fun q ⟨k, hk, e9⟩ => e9 ▸ hα k hk
  have hA2 : ∀ q, xw_R 20 β q → (fun q : Nat => s.heap.size ≤ q) q := fun q ⟨k, hk, e9⟩ => e9 ▸ hβ k hk
  refine lv_aload_n hx hb dL_law_732 rfl (lv_at hl 2 rfl) ?_
  refine lv_aload_n hx hb dL_law_733 rfl (lv_at hl 3 rfl) ?_
  refine lv_iload_n hx hb dL_law_734 rfl (lv_at hl 0 rfl) ?_
  refine lv_iconst (v := nI 1) hx hb dL_law_735 (by decide) ?_
  refine x_iaddN S dL_law_736 ?_
  refine x_sld S hX hbl hbA hS (j := (i + 1)) (by omega) (by omega) dL_law_737 ?_
  refine lv_aload_n hx hb dL_law_738 rfl (lv_at hl 3 rfl) ?_
  refine lv_iload_n hx hb dL_law_739 rfl (lv_at hl 0 rfl) ?_
  refine lv_iconst (v := nI 2) hx hb dL_law_740 (by decide) ?_
  refine x_iaddN S dL_law_741 ?_
  refine x_sld S hX hbl hbA hS (j := (i + 2)) (by omega) (by omega) dL_law_742 ?_
  refine lv_aload_n hx hb dL_law_743 rfl (lv_at hl 3 rfl) ?_
  refine lv_iload_n hx hb dL_law_744 rfl (lv_at hl 0 rfl) ?_
  refine lv_iconst (v := nI 3) hx hb dL_law_745 (by decide) ?_
  refine x_iaddN S dL_law_746 ?_
  refine x_sld S hX hbl hbA hS (j := (i + 3)) (by omega) (by omega) dL_law_747 ?_
  refine x_cVRi (As := [.int (xs (i + 1)), .int (xs (i + 2)), .int (xs (i + 3))]) (rest := []) S hK hP1 0 (by omega) rfl rfl (c_X8_on l σ (xs (i + 1)) (xs (i + 2)) (xs (i + 3)) hrel.1) (x_cwV (n0 := 3) (cq := (RX8, TX8, 9)) S gL_law_X8_on rfl (by decide +kernel) ⟨(Nat.le_of_ble_eq_true rfl), (Nat.le_of_ble_eq_true rfl)⟩) rfl hl.1 rfl (Nat.le_of_ble_eq_true rfl) dL_law_748 ⟨(Nat.le_of_ble_eq_true rfl), (Nat.le_of_ble_eq_true rfl)⟩ (fun r1 hr1 => ?_)
  refine lv_aload_n hx hb dL_law_751 rfl (lv_at hl 1 rfl) ?_
  refine lv_aload_n hx hb dL_law_752 rfl (lv_at hl 3 rfl) ?_
  refine lv_iload_n hx hb dL_law_753 rfl (lv_at hl 0 rfl) ?_
  refine lv_iconst (v := nI 1) hx hb dL_law_754 (by decide) ?_
  refine x_iaddN S dL_law_755 ?_
  refine x_sld S hX hbl hbA hS (j := (i + 1)) (by omega) (by omega) dL_law_756 ?_
  refine lv_aload_n hx hb dL_law_757 rfl (lv_at hl 3 rfl) ?_
  refine lv_iload_n hx hb dL_law_758 rfl (lv_at hl 0 rfl) ?_
  refine lv_iconst (v := nI 2) hx hb dL_law_759 (by decide) ?_
  refine x_iaddN S dL_law_760 ?_
  refine x_sld S hX hbl hbA hS (j := (i + 2)) (by omega) (by omega) dL_law_761 ?_
  refine lv_aload_n hx hb dL_law_762 rfl (lv_at hl 3 rfl) ?_
  refine lv_iload_n hx hb dL_law_763 rfl (lv_at hl 0 rfl) ?_
  refine lv_iconst (v := nI 3) hx hb dL_law_764 (by decide) ?_
  refine x_iaddN S dL_law_765 ?_
  refine x_sld S hX hbl hbA hS (j := (i + 3)) (by omega) (by omega) dL_law_766 ?_
  refine x_cVWi (As := [.int (xs (i + 1)), .int (xs (i + 2)), .int (xs (i + 3))]) (rest := [.int r1]) S hK hP2 hS hA2 0 (by omega) rfl rfl (c_X9_on l τ hI2 (xs (i + 1)) (xs (i + 2)) (xs (i + 3)) (xRel_IM hrel)) (x_cwV (n0 := 3) (cq := (RX9, TX9, 24)) S gL_law_X9_on rfl (by decide +kernel) ⟨(Nat.le_of_ble_eq_true rfl), (Nat.le_of_ble_eq_true rfl)⟩) rfl hl.1 rfl (Nat.le_of_ble_eq_true rfl) dL_law_767 ⟨(Nat.le_of_ble_eq_true rfl), (Nat.le_of_ble_eq_true rfl)⟩ (fun r2 τ1 H1 locs hr2 hP2 hk9 hS => ?_)
  have hP1 := xkeep hP1 (fun i j hi hj e9 => hdis i j hi hj e9) hk9
  obtain ⟨hr2, hs2⟩ := hr2
  have hres : r1 = r2 := by rw [hr1, hr2]; simp only [xRw_F hR, xRw_L hR, xRw_Y hR, xRw_c hR, xRw_s hR, hR.2.1.1, hR.2.2.1.1, hR.2.2.1.2.1, hR.2.2.1.2.2.1, hR.2.2.2.1.1, hR.2.2.2.1.2.1, hR.2.2.2.1.2.2.1, hR.2.2.2.2.1, xpm_sound_eq, xpm_chance_eq, xpm_could_eq]
  have hrel2 : xRel σ τ1 := (xRel_Ms hrel hs2)
  refine lv_icmp_eq (tgt := 1350) hx hb dL_law_770 (by decide) (fun _ => ?_) (fun q => absurd hres q)
  exact kk _ _ _ _ ⟨hP1, hP2, hS, hrel2⟩
set_option maxHeartbeats 4000000 in
set_option maxRecDepth 100000 in
theorem law_returns {p : Program} {l : Launch} {e : Env} {s : State} {m : MethodId} {below : List Frame} {meth : Method} {c : Code} {b L : Nat} {xs : Nat → Int32} {D : va_G} {K : Nat → ClassId} {α β : Nat → Nat} (F : xLF p s m meth c b L xs D K α β) {σ τ : Nat → Nat → Int32} {H : Heap} {locs : List Loc} {ls : Array Slot} {i : Nat} (hv : xLI D K α β s σ τ H locs) (hl : lv_has ls 4 [(3, .int (nI i)), (2, .ref (β 0)), (1, .ref (α 0)), (0, .ref b)]) (hi : i + 6 ≤ L) (kk : ∀ (σ2 τ2 : Nat → Nat → Int32) (H2 : Heap) (locs2 : List Loc), xLI D K α β s σ2 τ2 H2 locs2 → W p l e room_1 s m #[Value.ref b] below meth c H2 locs2 62 1210 (lw_Z below #[Value.ref b] s) (F0 m 1350 ls [])) : W p l e room_1 s m #[Value.ref b] below meth c H locs 62 1210 (lw_Z below #[Value.ref b] s) (F0 m 775 ls []) := by
  obtain ⟨S, hr, hX, hbl, hL, hK, hI1, hI2, hα, hβ, hdis⟩ := F
  obtain ⟨hP1, hP2, hS, hrel⟩ := hv
  have hx := S.1
  have hb := S.2.1
  have hR := hrel.2
  have hbA : ¬ (fun q : Nat => s.heap.size ≤ q) b := Nat.not_le.mpr hbl
  have hA1 : ∀ q, xw_R 42 α q → (fun q : Nat => s.heap.size ≤ q) q := fun q ⟨k, hk, e9⟩ => e9 ▸ hα k hk
  have hA2 : ∀ q, xw_R 20 β q → (fun q : Nat => s.heap.size ≤ q) q := fun q ⟨k, hk, e9⟩ => e9 ▸ hβ k hk
  refine lv_aload_n hx hb dL_law_775 rfl (lv_at hl 2 rfl) ?_
  refine lv_aload_n hx hb dL_law_776 rfl (lv_at hl 3 rfl) ?_
  refine lv_iload_n hx hb dL_law_777 rfl (lv_at hl 0 rfl) ?_
  refine lv_iconst (v := nI 1) hx hb dL_law_778 (by decide) ?_
  refine x_iaddN S dL_law_779 ?_
  refine x_sld S hX hbl hbA hS (j := (i + 1)) (by omega) (by omega) dL_law_780 ?_
  refine lv_aload_n hx hb dL_law_781 rfl (lv_at hl 3 rfl) ?_
  refine lv_iload_n hx hb dL_law_782 rfl (lv_at hl 0 rfl) ?_
  refine lv_iconst (v := nI 2) hx hb dL_law_783 (by decide) ?_
  refine x_iaddN S dL_law_784 ?_
  refine x_sld S hX hbl hbA hS (j := (i + 2)) (by omega) (by omega) dL_law_785 ?_
  refine x_cVRi (As := [.int (xs (i + 1)), .int (xs (i + 2))]) (rest := []) S hK hP1 0 (by omega) rfl rfl (c_X8_returns l σ (xs (i + 1)) (xs (i + 2)) hrel.1) (x_cwV (n0 := 2) (cq := (RX8, TX8, 9)) S gL_law_X8_returns rfl (by decide +kernel) ⟨(Nat.le_of_ble_eq_true rfl), (Nat.le_of_ble_eq_true rfl)⟩) rfl hl.1 rfl (Nat.le_of_ble_eq_true rfl) dL_law_786 ⟨(Nat.le_of_ble_eq_true rfl), (Nat.le_of_ble_eq_true rfl)⟩ (fun r1 hr1 => ?_)
  refine lv_aload_n hx hb dL_law_789 rfl (lv_at hl 1 rfl) ?_
  refine lv_aload_n hx hb dL_law_790 rfl (lv_at hl 3 rfl) ?_
  refine lv_iload_n hx hb dL_law_791 rfl (lv_at hl 0 rfl) ?_
  refine lv_iconst (v := nI 1) hx hb dL_law_792 (by decide) ?_
  refine x_iaddN S dL_law_793 ?_
  refine x_sld S hX hbl hbA hS (j := (i + 1)) (by omega) (by omega) dL_law_794 ?_
  refine lv_aload_n hx hb dL_law_795 rfl (lv_at hl 3 rfl) ?_
  refine lv_iload_n hx hb dL_law_796 rfl (lv_at hl 0 rfl) ?_
  refine lv_iconst (v := nI 2) hx hb dL_law_797 (by decide) ?_
  refine x_iaddN S dL_law_798 ?_
  refine x_sld S hX hbl hbA hS (j := (i + 2)) (by omega) (by omega) dL_law_799 ?_
  refine x_cVWi (As := [.int (xs (i + 1)), .int (xs (i + 2))]) (rest := [.int r1]) S hK hP2 hS hA2 0 (by omega) rfl rfl (c_X9_returns l τ hI2 (xs (i + 1)) (xs (i + 2)) (xRel_IM hrel)) (x_cwV (n0 := 2) (cq := (RX9, TX9, 24)) S gL_law_X9_returns rfl (by decide +kernel) ⟨(Nat.le_of_ble_eq_true rfl), (Nat.le_of_ble_eq_true rfl)⟩) rfl hl.1 rfl (Nat.le_of_ble_eq_true rfl) dL_law_800 ⟨(Nat.le_of_ble_eq_true rfl), (Nat.le_of_ble_eq_true rfl)⟩ (fun r2 τ1 H1 locs hr2 hP2 hk9 hS => ?_)
  have hP1 := xkeep hP1 (fun i j hi hj e9 => hdis i j hi hj e9) hk9
  obtain ⟨hr2, hs2⟩ := hr2
  have hres : r1 = r2 := by rw [hr1, hr2]; simp only [xRw_F hR, xRw_L hR, xRw_Y hR, xRw_c hR, xRw_s hR, hR.2.1.1, hR.2.2.1.1, hR.2.2.1.2.1, hR.2.2.1.2.2.1, hR.2.2.2.1.1, hR.2.2.2.1.2.1, hR.2.2.2.1.2.2.1, hR.2.2.2.2.1, xpm_sound_eq, xpm_chance_eq, xpm_could_eq]
  have hrel2 : xRel σ τ1 := (xRel_Ms hrel hs2)
  refine lv_icmp_eq (tgt := 1350) hx hb dL_law_803 (by decide) (fun _ => ?_) (fun q => absurd hres q)
  exact kk _ _ _ _ ⟨hP1, hP2, hS, hrel2⟩

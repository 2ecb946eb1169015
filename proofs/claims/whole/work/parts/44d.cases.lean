set_option maxHeartbeats 4000000 in
set_option maxRecDepth 100000 in
theorem law_lot {p : Program} {l : Launch} {e : Env} {s : State} {m : MethodId} {below : List Frame} {meth : Method} {c : Code} {b L : Nat} {xs : Nat → Int32} {D : va_G} {K : Nat → ClassId} {α β : Nat → Nat} (F : xLF p s m meth c b L xs D K α β) {σ τ : Nat → Nat → Int32} {H : Heap} {locs : List Loc} {ls : Array Slot} {i : Nat} (hv : xLI D K α β s σ τ H locs) (hl : lv_has ls 4 [(3, .int (nI i)), (2, .ref (β 0)), (1, .ref (α 0)), (0, .ref b)]) (hi : i + 6 ≤ L) (kk : ∀ (σ2 τ2 : Nat → Nat → Int32) (H2 : Heap) (locs2 : List Loc), xLI D K α β s σ2 τ2 H2 locs2 → W p l e room_1 s m #[Value.ref b] below meth c H2 locs2 62 1210 (lw_Z below #[Value.ref b] s) (F0 m 1350 ls [])) : W p l e room_1 s m #[Value.ref b] below meth c H locs 62 1210 (lw_Z below #[Value.ref b] s) (F0 m 808 ls []) := by
  obtain ⟨S, hr, hX, hbl, hL, hK, hI1, hI2, hα, hβ, hdis⟩ := F
  obtain ⟨hP1, hP2, hS, hrel⟩ := hv
  have hx := S.1
  have hb := S.2.1
  have hR := hrel.2
  have hbA : ¬ (fun q : Nat => s.heap.size ≤ q) b := Nat.not_le.mpr hbl
  have hA1 : ∀ q, xw_R 42 α q → (fun q : Nat => s.heap.size ≤ q) q := fun q ⟨k, hk, e9⟩ => e9 ▸ hα k hk
  have hA2 : ∀ q, xw_R 20 β q → (fun q : Nat => s.heap.size ≤ q) q := fun q ⟨k, hk, e9⟩ => e9 ▸ hβ k hk
  refine lv_aload_n hx hb dL_law_808 rfl (lv_at hl 2 rfl) ?_
  refine lv_aload_n hx hb dL_law_809 rfl (lv_at hl 3 rfl) ?_
  refine lv_iload_n hx hb dL_law_810 rfl (lv_at hl 0 rfl) ?_
  refine lv_iconst (v := nI 1) hx hb dL_law_811 (by decide) ?_
  refine x_iaddN S dL_law_812 ?_
  refine x_sld S hX hbl hbA hS (j := (i + 1)) (by omega) (by omega) dL_law_813 ?_
  refine lv_aload_n hx hb dL_law_814 rfl (lv_at hl 3 rfl) ?_
  refine lv_iload_n hx hb dL_law_815 rfl (lv_at hl 0 rfl) ?_
  refine lv_iconst (v := nI 2) hx hb dL_law_816 (by decide) ?_
  refine x_iaddN S dL_law_817 ?_
  refine x_sld S hX hbl hbA hS (j := (i + 2)) (by omega) (by omega) dL_law_818 ?_
  refine x_cVRi (As := [.int (xs (i + 1)), .int (xs (i + 2))]) (rest := []) S hK hP1 0 (by omega) rfl rfl (c_X8_lot l σ (xs (i + 1)) (xs (i + 2)) ) (x_cwV (n0 := 2) (cq := (RX8, TX8, 9)) S gL_law_X8_lot rfl (by decide +kernel) ⟨(Nat.le_of_ble_eq_true rfl), (Nat.le_of_ble_eq_true rfl)⟩) rfl hl.1 rfl (Nat.le_of_ble_eq_true rfl) dL_law_819 ⟨(Nat.le_of_ble_eq_true rfl), (Nat.le_of_ble_eq_true rfl)⟩ (fun r1 hr1 => ?_)
  refine lv_aload_n hx hb dL_law_822 rfl (lv_at hl 1 rfl) ?_
  refine lv_aload_n hx hb dL_law_823 rfl (lv_at hl 3 rfl) ?_
  refine lv_iload_n hx hb dL_law_824 rfl (lv_at hl 0 rfl) ?_
  refine lv_iconst (v := nI 1) hx hb dL_law_825 (by decide) ?_
  refine x_iaddN S dL_law_826 ?_
  refine x_sld S hX hbl hbA hS (j := (i + 1)) (by omega) (by omega) dL_law_827 ?_
  refine lv_aload_n hx hb dL_law_828 rfl (lv_at hl 3 rfl) ?_
  refine lv_iload_n hx hb dL_law_829 rfl (lv_at hl 0 rfl) ?_
  refine lv_iconst (v := nI 2) hx hb dL_law_830 (by decide) ?_
  refine x_iaddN S dL_law_831 ?_
  refine x_sld S hX hbl hbA hS (j := (i + 2)) (by omega) (by omega) dL_law_832 ?_
  refine x_cVWi (As := [.int (xs (i + 1)), .int (xs (i + 2))]) (rest := [.int r1]) S hK hP2 hS hA2 0 (by omega) rfl rfl (c_X9_lot l τ hI2 (xs (i + 1)) (xs (i + 2)) ) (x_cwV (n0 := 2) (cq := (RX9, TX9, 24)) S gL_law_X9_lot rfl (by decide +kernel) ⟨(Nat.le_of_ble_eq_true rfl), (Nat.le_of_ble_eq_true rfl)⟩) rfl hl.1 rfl (Nat.le_of_ble_eq_true rfl) dL_law_833 ⟨(Nat.le_of_ble_eq_true rfl), (Nat.le_of_ble_eq_true rfl)⟩ (fun r2 τ1 H1 locs hr2 hP2 hk9 hS => ?_)
  have hP1 := xkeep hP1 (fun i j hi hj e9 => hdis i j hi hj e9) hk9
  obtain ⟨hr2, hs2⟩ := hr2
  have hres : r1 = r2 := hr1.trans hr2.symm
  have hrel2 : xRel σ τ1 := (xRel_Ms hrel hs2)
  refine lv_icmp_eq (tgt := 1350) hx hb dL_law_836 (by decide) (fun _ => ?_) (fun q => absurd hres q)
  exact kk _ _ _ _ ⟨hP1, hP2, hS, hrel2⟩
set_option maxHeartbeats 4000000 in
set_option maxRecDepth 100000 in
theorem law_claim {p : Program} {l : Launch} {e : Env} {s : State} {m : MethodId} {below : List Frame} {meth : Method} {c : Code} {b L : Nat} {xs : Nat → Int32} {D : va_G} {K : Nat → ClassId} {α β : Nat → Nat} (F : xLF p s m meth c b L xs D K α β) {σ τ : Nat → Nat → Int32} {H : Heap} {locs : List Loc} {ls : Array Slot} {i : Nat} (hv : xLI D K α β s σ τ H locs) (hl : lv_has ls 4 [(3, .int (nI i)), (2, .ref (β 0)), (1, .ref (α 0)), (0, .ref b)]) (hi : i + 6 ≤ L) (kk : ∀ (σ2 τ2 : Nat → Nat → Int32) (H2 : Heap) (locs2 : List Loc), xLI D K α β s σ2 τ2 H2 locs2 → W p l e room_1 s m #[Value.ref b] below meth c H2 locs2 62 1210 (lw_Z below #[Value.ref b] s) (F0 m 1350 ls [])) : W p l e room_1 s m #[Value.ref b] below meth c H locs 62 1210 (lw_Z below #[Value.ref b] s) (F0 m 841 ls []) := by
  obtain ⟨S, hr, hX, hbl, hL, hK, hI1, hI2, hα, hβ, hdis⟩ := F
  obtain ⟨hP1, hP2, hS, hrel⟩ := hv
  have hx := S.1
  have hb := S.2.1
  have hR := hrel.2
  have hbA : ¬ (fun q : Nat => s.heap.size ≤ q) b := Nat.not_le.mpr hbl
  have hA1 : ∀ q, xw_R 42 α q → (fun q : Nat => s.heap.size ≤ q) q := fun q ⟨k, hk, e9⟩ => e9 ▸ hα k hk
  have hA2 : ∀ q, xw_R 20 β q → (fun q : Nat => s.heap.size ≤ q) q := fun q ⟨k, hk, e9⟩ => e9 ▸ hβ k hk
  refine lv_aload_n hx hb dL_law_841 rfl (lv_at hl 2 rfl) ?_
  refine lv_aload_n hx hb dL_law_842 rfl (lv_at hl 3 rfl) ?_
  refine lv_iload_n hx hb dL_law_843 rfl (lv_at hl 0 rfl) ?_
  refine lv_iconst (v := nI 1) hx hb dL_law_844 (by decide) ?_
  refine x_iaddN S dL_law_845 ?_
  refine x_sld S hX hbl hbA hS (j := (i + 1)) (by omega) (by omega) dL_law_846 ?_
  refine lv_aload_n hx hb dL_law_847 rfl (lv_at hl 3 rfl) ?_
  refine lv_iload_n hx hb dL_law_848 rfl (lv_at hl 0 rfl) ?_
  refine lv_iconst (v := nI 2) hx hb dL_law_849 (by decide) ?_
  refine x_iaddN S dL_law_850 ?_
  refine x_sld S hX hbl hbA hS (j := (i + 2)) (by omega) (by omega) dL_law_851 ?_
  refine lv_aload_n hx hb dL_law_852 rfl (lv_at hl 3 rfl) ?_
  refine lv_iload_n hx hb dL_law_853 rfl (lv_at hl 0 rfl) ?_
  refine lv_iconst (v := nI 3) hx hb dL_law_854 (by decide) ?_
  refine x_iaddN S dL_law_855 ?_
  refine x_sld S hX hbl hbA hS (j := (i + 3)) (by omega) (by omega) dL_law_856 ?_
  refine x_cVWi (As := [.int (xs (i + 1)), .int (xs (i + 2)), .int (xs (i + 3))]) (rest := []) S hK hP1 hS hA1 0 (by omega) rfl rfl (c_X8_claim l σ hI1 (xs (i + 1)) (xs (i + 2)) (xs (i + 3)) hrel.1) (x_cwV (n0 := 3) (cq := (RX8, TX8, 9)) S gL_law_X8_claim rfl (by decide +kernel) ⟨(Nat.le_of_ble_eq_true rfl), (Nat.le_of_ble_eq_true rfl)⟩) rfl hl.1 rfl (Nat.le_of_ble_eq_true rfl) dL_law_857 ⟨(Nat.le_of_ble_eq_true rfl), (Nat.le_of_ble_eq_true rfl)⟩ (fun r1 σ1 H1 locs hr1 hP1 hk9 hS => ?_)
  have hP2 := xkeep hP2 (fun i j hi hj e9 => hdis j i hj hi e9.symm) hk9
  refine lv_aload_n hx hb dL_law_860 rfl (lv_at hl 1 rfl) ?_
  refine lv_aload_n hx hb dL_law_861 rfl (lv_at hl 3 rfl) ?_
  refine lv_iload_n hx hb dL_law_862 rfl (lv_at hl 0 rfl) ?_
  refine lv_iconst (v := nI 1) hx hb dL_law_863 (by decide) ?_
  refine x_iaddN S dL_law_864 ?_
  refine x_sld S hX hbl hbA hS (j := (i + 1)) (by omega) (by omega) dL_law_865 ?_
  refine lv_aload_n hx hb dL_law_866 rfl (lv_at hl 3 rfl) ?_
  refine lv_iload_n hx hb dL_law_867 rfl (lv_at hl 0 rfl) ?_
  refine lv_iconst (v := nI 2) hx hb dL_law_868 (by decide) ?_
  refine x_iaddN S dL_law_869 ?_
  refine x_sld S hX hbl hbA hS (j := (i + 2)) (by omega) (by omega) dL_law_870 ?_
  refine lv_aload_n hx hb dL_law_871 rfl (lv_at hl 3 rfl) ?_
  refine lv_iload_n hx hb dL_law_872 rfl (lv_at hl 0 rfl) ?_
  refine lv_iconst (v := nI 3) hx hb dL_law_873 (by decide) ?_
  refine x_iaddN S dL_law_874 ?_
  refine x_sld S hX hbl hbA hS (j := (i + 3)) (by omega) (by omega) dL_law_875 ?_
  refine x_cVWi (As := [.int (xs (i + 1)), .int (xs (i + 2)), .int (xs (i + 3))]) (rest := [.int r1]) S hK hP2 hS hA2 0 (by omega) rfl rfl (c_X9_claim l τ hI2 (xs (i + 1)) (xs (i + 2)) (xs (i + 3)) (xRel_IM hrel)) (x_cwV (n0 := 3) (cq := (RX9, TX9, 24)) S gL_law_X9_claim rfl (by decide +kernel) ⟨(Nat.le_of_ble_eq_true rfl), (Nat.le_of_ble_eq_true rfl)⟩) rfl hl.1 rfl (Nat.le_of_ble_eq_true rfl) dL_law_876 ⟨(Nat.le_of_ble_eq_true rfl), (Nat.le_of_ble_eq_true rfl)⟩ (fun r2 τ1 H1 locs hr2 hP2 hk9 hS => ?_)
  have hP1 := xkeep hP1 (fun i j hi hj e9 => hdis i j hi hj e9) hk9
  obtain ⟨hr1, hs1⟩ := hr1
  obtain ⟨hr2, hs2⟩ := hr2
  have hq := xR_claim hrel (xs (i + 1)) (xs (i + 2)) (xs (i + 3))
  have hres : r1 = r2 := hr1.trans (hq.1.symm.trans hr2.symm)
  have hrel2 : xRel σ1 τ1 := by rw [hs1, hs2]; exact hq.2
  refine lv_icmp_eq (tgt := 1350) hx hb dL_law_879 (by decide) (fun _ => ?_) (fun q => absurd hres q)
  exact kk _ _ _ _ ⟨hP1, hP2, hS, hrel2⟩
set_option maxHeartbeats 4000000 in
set_option maxRecDepth 100000 in
theorem law_owed {p : Program} {l : Launch} {e : Env} {s : State} {m : MethodId} {below : List Frame} {meth : Method} {c : Code} {b L : Nat} {xs : Nat → Int32} {D : va_G} {K : Nat → ClassId} {α β : Nat → Nat} (F : xLF p s m meth c b L xs D K α β) {σ τ : Nat → Nat → Int32} {H : Heap} {locs : List Loc} {ls : Array Slot} {i : Nat} (hv : xLI D K α β s σ τ H locs) (hl : lv_has ls 4 [(3, .int (nI i)), (2, .ref (β 0)), (1, .ref (α 0)), (0, .ref b)]) (hi : i + 6 ≤ L) (kk : ∀ (σ2 τ2 : Nat → Nat → Int32) (H2 : Heap) (locs2 : List Loc), xLI D K α β s σ2 τ2 H2 locs2 → W p l e room_1 s m #[Value.ref b] below meth c H2 locs2 62 1210 (lw_Z below #[Value.ref b] s) (F0 m 1350 ls [])) : W p l e room_1 s m #[Value.ref b] below meth c H locs 62 1210 (lw_Z below #[Value.ref b] s) (F0 m 884 ls []) := by
  obtain ⟨S, hr, hX, hbl, hL, hK, hI1, hI2, hα, hβ, hdis⟩ := F
  obtain ⟨hP1, hP2, hS, hrel⟩ := hv
  have hx := S.1
  have hb := S.2.1
  have hR := hrel.2
  have hbA : ¬ (fun q : Nat => s.heap.size ≤ q) b := Nat.not_le.mpr hbl
  have hA1 : ∀ q, xw_R 42 α q → (fun q : Nat => s.heap.size ≤ q) q := fun q ⟨k, hk, e9⟩ => e9 ▸ hα k hk
  have hA2 : ∀ q, xw_R 20 β q → (fun q : Nat => s.heap.size ≤ q) q := fun q ⟨k, hk, e9⟩ => e9 ▸ hβ k hk
  refine lv_aload_n hx hb dL_law_884 rfl (lv_at hl 2 rfl) ?_
  refine lv_aload_n hx hb dL_law_885 rfl (lv_at hl 3 rfl) ?_
  refine lv_iload_n hx hb dL_law_886 rfl (lv_at hl 0 rfl) ?_
  refine lv_iconst (v := nI 1) hx hb dL_law_887 (by decide) ?_
  refine x_iaddN S dL_law_888 ?_
  refine x_sld S hX hbl hbA hS (j := (i + 1)) (by omega) (by omega) dL_law_889 ?_
  refine lv_aload_n hx hb dL_law_890 rfl (lv_at hl 3 rfl) ?_
  refine lv_iload_n hx hb dL_law_891 rfl (lv_at hl 0 rfl) ?_
  refine lv_iconst (v := nI 2) hx hb dL_law_892 (by decide) ?_
  refine x_iaddN S dL_law_893 ?_
  refine x_sld S hX hbl hbA hS (j := (i + 2)) (by omega) (by omega) dL_law_894 ?_
  refine x_cVRi (As := [.int (xs (i + 1)), .int (xs (i + 2))]) (rest := []) S hK hP1 0 (by omega) rfl rfl (c_X8_owed l σ (xs (i + 1)) (xs (i + 2)) hrel.1) (x_cwV (n0 := 2) (cq := (RX8, TX8, 9)) S gL_law_X8_owed rfl (by decide +kernel) ⟨(Nat.le_of_ble_eq_true rfl), (Nat.le_of_ble_eq_true rfl)⟩) rfl hl.1 rfl (Nat.le_of_ble_eq_true rfl) dL_law_895 ⟨(Nat.le_of_ble_eq_true rfl), (Nat.le_of_ble_eq_true rfl)⟩ (fun r1 hr1 => ?_)
  refine lv_aload_n hx hb dL_law_898 rfl (lv_at hl 1 rfl) ?_
  refine lv_aload_n hx hb dL_law_899 rfl (lv_at hl 3 rfl) ?_
  refine lv_iload_n hx hb dL_law_900 rfl (lv_at hl 0 rfl) ?_
  refine lv_iconst (v := nI 1) hx hb dL_law_901 (by decide) ?_
  refine x_iaddN S dL_law_902 ?_
  refine x_sld S hX hbl hbA hS (j := (i + 1)) (by omega) (by omega) dL_law_903 ?_
  refine lv_aload_n hx hb dL_law_904 rfl (lv_at hl 3 rfl) ?_
  refine lv_iload_n hx hb dL_law_905 rfl (lv_at hl 0 rfl) ?_
  refine lv_iconst (v := nI 2) hx hb dL_law_906 (by decide) ?_
  refine x_iaddN S dL_law_907 ?_
  refine x_sld S hX hbl hbA hS (j := (i + 2)) (by omega) (by omega) dL_law_908 ?_
  refine x_cVWi (As := [.int (xs (i + 1)), .int (xs (i + 2))]) (rest := [.int r1]) S hK hP2 hS hA2 0 (by omega) rfl rfl (c_X9_owed l τ hI2 (xs (i + 1)) (xs (i + 2)) (xRel_IM hrel)) (x_cwV (n0 := 2) (cq := (RX9, TX9, 24)) S gL_law_X9_owed rfl (by decide +kernel) ⟨(Nat.le_of_ble_eq_true rfl), (Nat.le_of_ble_eq_true rfl)⟩) rfl hl.1 rfl (Nat.le_of_ble_eq_true rfl) dL_law_909 ⟨(Nat.le_of_ble_eq_true rfl), (Nat.le_of_ble_eq_true rfl)⟩ (fun r2 τ1 H1 locs hr2 hP2 hk9 hS => ?_)
  have hP1 := xkeep hP1 (fun i j hi hj e9 => hdis i j hi hj e9) hk9
  obtain ⟨hr2, hs2⟩ := hr2
  have hres : r1 = r2 := by rw [hr1, hr2]; simp only [xRw_F hR, xRw_L hR, xRw_Y hR, xRw_c hR, xRw_s hR, hR.2.1.1, hR.2.2.1.1, hR.2.2.1.2.1, hR.2.2.1.2.2.1, hR.2.2.2.1.1, hR.2.2.2.1.2.1, hR.2.2.2.1.2.2.1, hR.2.2.2.2.1, xpm_sound_eq, xpm_chance_eq, xpm_could_eq]
  have hrel2 : xRel σ τ1 := (xRel_Ms hrel hs2)
  refine lv_icmp_eq (tgt := 1350) hx hb dL_law_912 (by decide) (fun _ => ?_) (fun q => absurd hres q)
  exact kk _ _ _ _ ⟨hP1, hP2, hS, hrel2⟩
set_option maxHeartbeats 4000000 in
set_option maxRecDepth 100000 in
theorem law_lightest {p : Program} {l : Launch} {e : Env} {s : State} {m : MethodId} {below : List Frame} {meth : Method} {c : Code} {b L : Nat} {xs : Nat → Int32} {D : va_G} {K : Nat → ClassId} {α β : Nat → Nat} (F : xLF p s m meth c b L xs D K α β) {σ τ : Nat → Nat → Int32} {H : Heap} {locs : List Loc} {ls : Array Slot} {i : Nat} (hv : xLI D K α β s σ τ H locs) (hl : lv_has ls 4 [(3, .int (nI i)), (2, .ref (β 0)), (1, .ref (α 0)), (0, .ref b)]) (hi : i + 6 ≤ L) (kk : ∀ (σ2 τ2 : Nat → Nat → Int32) (H2 : Heap) (locs2 : List Loc), xLI D K α β s σ2 τ2 H2 locs2 → W p l e room_1 s m #[Value.ref b] below meth c H2 locs2 62 1210 (lw_Z below #[Value.ref b] s) (F0 m 1350 ls [])) : W p l e room_1 s m #[Value.ref b] below meth c H locs 62 1210 (lw_Z below #[Value.ref b] s) (F0 m 917 ls []) := by
  obtain ⟨S, hr, hX, hbl, hL, hK, hI1, hI2, hα, hβ, hdis⟩ := F
  obtain ⟨hP1, hP2, hS, hrel⟩ := hv
  have hx := S.1
  have hb := S.2.1
  have hR := hrel.2
  have hbA : ¬ (fun q : Nat => s.heap.size ≤ q) b := Nat.not_le.mpr hbl
  have hA1 : ∀ q, xw_R 42 α q → (fun q : Nat => s.heap.size ≤ q) q := fun q ⟨k, hk, e9⟩ => e9 ▸ hα k hk
  have hA2 : ∀ q, xw_R 20 β q → (fun q : Nat => s.heap.size ≤ q) q := fun q ⟨k, hk, e9⟩ => e9 ▸ hβ k hk
  refine lv_aload_n hx hb dL_law_917 rfl (lv_at hl 2 rfl) ?_
  refine lv_aload_n hx hb dL_law_918 rfl (lv_at hl 3 rfl) ?_
  refine lv_iload_n hx hb dL_law_919 rfl (lv_at hl 0 rfl) ?_
  refine lv_iconst (v := nI 1) hx hb dL_law_920 (by decide) ?_
  refine x_iaddN S dL_law_921 ?_
  refine x_sld S hX hbl hbA hS (j := (i + 1)) (by omega) (by omega) dL_law_922 ?_
  refine x_cVRi (As := [.int (xs (i + 1))]) (rest := []) S hK hP1 0 (by omega) rfl rfl (c_X8_lightest l σ (xs (i + 1)) hrel.1) (x_cwV (n0 := 1) (cq := (RX8, TX8, 9)) S gL_law_X8_lightest rfl (by decide +kernel) ⟨(Nat.le_of_ble_eq_true rfl), (Nat.le_of_ble_eq_true rfl)⟩) rfl hl.1 rfl (Nat.le_of_ble_eq_true rfl) dL_law_923 ⟨(Nat.le_of_ble_eq_true rfl), (Nat.le_of_ble_eq_true rfl)⟩ (fun r1 hr1 => ?_)
  refine lv_aload_n hx hb dL_law_926 rfl (lv_at hl 1 rfl) ?_
  refine lv_aload_n hx hb dL_law_927 rfl (lv_at hl 3 rfl) ?_
  refine lv_iload_n hx hb dL_law_928 rfl (lv_at hl 0 rfl) ?_
  refine lv_iconst (v := nI 1) hx hb dL_law_929 (by decide) ?_
  refine x_iaddN S dL_law_930 ?_
  refine x_sld S hX hbl hbA hS (j := (i + 1)) (by omega) (by omega) dL_law_931 ?_
  refine x_cVWi (As := [.int (xs (i + 1))]) (rest := [.int r1]) S hK hP2 hS hA2 0 (by omega) rfl rfl (c_X9_lightest l τ hI2 (xs (i + 1)) (xRel_IM hrel)) (x_cwV (n0 := 1) (cq := (RX9, TX9, 24)) S gL_law_X9_lightest rfl (by decide +kernel) ⟨(Nat.le_of_ble_eq_true rfl), (Nat.le_of_ble_eq_true rfl)⟩) rfl hl.1 rfl (Nat.le_of_ble_eq_true rfl) dL_law_932 ⟨(Nat.le_of_ble_eq_true rfl), (Nat.le_of_ble_eq_true rfl)⟩ (fun r2 τ1 H1 locs hr2 hP2 hk9 hS => ?_)
  have hP1 := xkeep hP1 (fun i j hi hj e9 => hdis i j hi hj e9) hk9
  obtain ⟨hr2, hs2⟩ := hr2
  have hres : r1 = r2 := by rw [hr1, hr2]; simp only [xRw_F hR, xRw_L hR, xRw_Y hR, xRw_c hR, xRw_s hR, hR.2.1.1, hR.2.2.1.1, hR.2.2.1.2.1, hR.2.2.1.2.2.1, hR.2.2.2.1.1, hR.2.2.2.1.2.1, hR.2.2.2.1.2.2.1, hR.2.2.2.2.1, xpm_sound_eq, xpm_chance_eq, xpm_could_eq]
  have hrel2 : xRel σ τ1 := (xRel_Ms hrel hs2)
  refine lv_icmp_eq (tgt := 1350) hx hb dL_law_935 (by decide) (fun _ => ?_) (fun q => absurd hres q)
  exact kk _ _ _ _ ⟨hP1, hP2, hS, hrel2⟩
set_option maxHeartbeats 4000000 in
set_option maxRecDepth 100000 in
theorem law_disputed {p : Program} {l : Launch} {e : Env} {s : State} {m : MethodId} {below : List Frame} {meth : Method} {c : Code} {b L : Nat} {xs : Nat → Int32} {D : va_G} {K : Nat → ClassId} {α β : Nat → Nat} (F : xLF p s m meth c b L xs D K α β) {σ τ : Nat → Nat → Int32} {H : Heap} {locs : List Loc} {ls : Array Slot} {i : Nat} (hv : xLI D K α β s σ τ H locs) (hl : lv_has ls 4 [(3, .int (nI i)), (2, .ref (β 0)), (1, .ref (α 0)), (0, .ref b)]) (hi : i + 6 ≤ L) (kk : ∀ (σ2 τ2 : Nat → Nat → Int32) (H2 : Heap) (locs2 : List Loc), xLI D K α β s σ2 τ2 H2 locs2 → W p l e room_1 s m #[Value.ref b] below meth c H2 locs2 62 1210 (lw_Z below #[Value.ref b] s) (F0 m 1350 ls [])) : W p l e room_1 s m #[Value.ref b] below meth c H locs 62 1210 (lw_Z below #[Value.ref b] s) (F0 m 940 ls []) := by
  obtain ⟨S, hr, hX, hbl, hL, hK, hI1, hI2, hα, hβ, hdis⟩ := F
  obtain ⟨hP1, hP2, hS, hrel⟩ := hv
  have hx := S.1
  have hb := S.2.1
  have hR := hrel.2
  have hbA : ¬ (fun q : Nat => s.heap.size ≤ q) b := Nat.not_le.mpr hbl
  have hA1 : ∀ q, xw_R 42 α q → (fun q : Nat => s.heap.size ≤ q) q := fun q ⟨k, hk, e9⟩ => e9 ▸ hα k hk
  have hA2 : ∀ q, xw_R 20 β q → (fun q : Nat => s.heap.size ≤ q) q := fun q ⟨k, hk, e9⟩ => e9 ▸ hβ k hk
  refine lv_aload_n hx hb dL_law_940 rfl (lv_at hl 2 rfl) ?_
  refine x_cVRi (As := []) (rest := []) S hK hP1 0 (by omega) rfl rfl (c_X8_disputed l σ  hrel.1) (x_cwV (n0 := 0) (cq := (RX8, TX8, 9)) S gL_law_X8_disputed rfl (by decide +kernel) ⟨(Nat.le_of_ble_eq_true rfl), (Nat.le_of_ble_eq_true rfl)⟩) rfl hl.1 rfl (Nat.le_of_ble_eq_true rfl) dL_law_941 ⟨(Nat.le_of_ble_eq_true rfl), (Nat.le_of_ble_eq_true rfl)⟩ (fun r1 hr1 => ?_)
  refine lv_aload_n hx hb dL_law_944 rfl (lv_at hl 1 rfl) ?_
  refine x_cVWi (As := []) (rest := [.int r1]) S hK hP2 hS hA2 0 (by omega) rfl rfl (c_X9_disputed l τ hI2  (xRel_IM hrel)) (x_cwV (n0 := 0) (cq := (RX9, TX9, 24)) S gL_law_X9_disputed rfl (by decide +kernel) ⟨(Nat.le_of_ble_eq_true rfl), (Nat.le_of_ble_eq_true rfl)⟩) rfl hl.1 rfl (Nat.le_of_ble_eq_true rfl) dL_law_945 ⟨(Nat.le_of_ble_eq_true rfl), (Nat.le_of_ble_eq_true rfl)⟩ (fun r2 τ1 H1 locs hr2 hP2 hk9 hS => ?_)
  have hP1 := xkeep hP1 (fun i j hi hj e9 => hdis i j hi hj e9) hk9
  obtain ⟨hr2, hs2⟩ := hr2
  have hres : r1 = r2 := by rw [hr1, hr2]; simp only [xRw_F hR, xRw_L hR, xRw_Y hR, xRw_c hR, xRw_s hR, hR.2.1.1, hR.2.2.1.1, hR.2.2.1.2.1, hR.2.2.1.2.2.1, hR.2.2.2.1.1, hR.2.2.2.1.2.1, hR.2.2.2.1.2.2.1, hR.2.2.2.2.1, xpm_sound_eq, xpm_chance_eq, xpm_could_eq]
  have hrel2 : xRel σ τ1 := (xRel_Ms hrel hs2)
  refine lv_icmp_eq (tgt := 1350) hx hb dL_law_948 (by decide) (fun _ => ?_) (fun q => absurd hres q)
  exact kk _ _ _ _ ⟨hP1, hP2, hS, hrel2⟩
set_option maxHeartbeats 4000000 in
set_option maxRecDepth 100000 in
theorem law_seen {p : Program} {l : Launch} {e : Env} {s : State} {m : MethodId} {below : List Frame} {meth : Method} {c : Code} {b L : Nat} {xs : Nat → Int32} {D : va_G} {K : Nat → ClassId} {α β : Nat → Nat} (F : xLF p s m meth c b L xs D K α β) {σ τ : Nat → Nat → Int32} {H : Heap} {locs : List Loc} {ls : Array Slot} {i : Nat} (hv : xLI D K α β s σ τ H locs) (hl : lv_has ls 4 [(3, .int (nI i)), (2, .ref (β 0)), (1, .ref (α 0)), (0, .ref b)]) (hi : i + 6 ≤ L) (kk : ∀ (σ2 τ2 : Nat → Nat → Int32) (H2 : Heap) (locs2 : List Loc), xLI D K α β s σ2 τ2 H2 locs2 → W p l e room_1 s m #[Value.ref b] below meth c H2 locs2 62 1210 (lw_Z below #[Value.ref b] s) (F0 m 1350 ls [])) : W p l e room_1 s m #[Value.ref b] below meth c H locs 62 1210 (lw_Z below #[Value.ref b] s) (F0 m 953 ls []) := by
  obtain ⟨S, hr, hX, hbl, hL, hK, hI1, hI2, hα, hβ, hdis⟩ := F
  obtain ⟨hP1, hP2, hS, hrel⟩ := hv
  have hx := S.1
  have hb := S.2.1
  have hR := hrel.2
  have hbA : ¬ (fun q : Nat => s.heap.size ≤ q) b := Nat.not_le.mpr hbl
  have hA1 : ∀ q, xw_R 42 α q → (fun q : Nat => s.heap.size ≤ q) q := fun q ⟨k, hk, e9⟩ => e9 ▸ hα k hk
  have hA2 : ∀ q, xw_R 20 β q → (fun q : Nat => s.heap.size ≤ q) q := fun q ⟨k, hk, e9⟩ => e9 ▸ hβ k hk
  refine lv_aload_n hx hb dL_law_953 rfl (lv_at hl 2 rfl) ?_
  refine lv_aload_n hx hb dL_law_954 rfl (lv_at hl 3 rfl) ?_
  refine lv_iload_n hx hb dL_law_955 rfl (lv_at hl 0 rfl) ?_
  refine lv_iconst (v := nI 1) hx hb dL_law_956 (by decide) ?_
  refine x_iaddN S dL_law_957 ?_
  refine x_sld S hX hbl hbA hS (j := (i + 1)) (by omega) (by omega) dL_law_958 ?_
  refine lv_aload_n hx hb dL_law_959 rfl (lv_at hl 3 rfl) ?_
  refine lv_iload_n hx hb dL_law_960 rfl (lv_at hl 0 rfl) ?_
  refine lv_iconst (v := nI 2) hx hb dL_law_961 (by decide) ?_
  refine x_iaddN S dL_law_962 ?_
  refine x_sld S hX hbl hbA hS (j := (i + 2)) (by omega) (by omega) dL_law_963 ?_
  refine lv_aload_n hx hb dL_law_964 rfl (lv_at hl 3 rfl) ?_
  refine lv_iload_n hx hb dL_law_965 rfl (lv_at hl 0 rfl) ?_
  refine lv_iconst (v := nI 3) hx hb dL_law_966 (by decide) ?_
  refine x_iaddN S dL_law_967 ?_
  refine x_sld S hX hbl hbA hS (j := (i + 3)) (by omega) (by omega) dL_law_968 ?_
  refine x_cVWi (As := [.int (xs (i + 1)), .int (xs (i + 2)), .int (xs (i + 3))]) (rest := []) S hK hP1 hS hA1 0 (by omega) rfl rfl (c_X8_seen l σ hI1 (xs (i + 1)) (xs (i + 2)) (xs (i + 3)) hrel.1) (x_cwV (n0 := 3) (cq := (RX8, TX8, 9)) S gL_law_X8_seen rfl (by decide +kernel) ⟨(Nat.le_of_ble_eq_true rfl), (Nat.le_of_ble_eq_true rfl)⟩) rfl hl.1 rfl (Nat.le_of_ble_eq_true rfl) dL_law_969 ⟨(Nat.le_of_ble_eq_true rfl), (Nat.le_of_ble_eq_true rfl)⟩ (fun r1 σ1 H1 locs hr1 hP1 hk9 hS => ?_)
  have hP2 := xkeep hP2 (fun i j hi hj e9 => hdis j i hj hi e9.symm) hk9
  refine lv_aload_n hx hb dL_law_972 rfl (lv_at hl 1 rfl) ?_
  refine lv_aload_n hx hb dL_law_973 rfl (lv_at hl 3 rfl) ?_
  refine lv_iload_n hx hb dL_law_974 rfl (lv_at hl 0 rfl) ?_
  refine lv_iconst (v := nI 1) hx hb dL_law_975 (by decide) ?_
  refine x_iaddN S dL_law_976 ?_
  refine x_sld S hX hbl hbA hS (j := (i + 1)) (by omega) (by omega) dL_law_977 ?_
  refine lv_aload_n hx hb dL_law_978 rfl (lv_at hl 3 rfl) ?_
  refine lv_iload_n hx hb dL_law_979 rfl (lv_at hl 0 rfl) ?_
  refine lv_iconst (v := nI 2) hx hb dL_law_980 (by decide) ?_
  refine x_iaddN S dL_law_981 ?_
  refine x_sld S hX hbl hbA hS (j := (i + 2)) (by omega) (by omega) dL_law_982 ?_
  refine lv_aload_n hx hb dL_law_983 rfl (lv_at hl 3 rfl) ?_
  refine lv_iload_n hx hb dL_law_984 rfl (lv_at hl 0 rfl) ?_
  refine lv_iconst (v := nI 3) hx hb dL_law_985 (by decide) ?_
  refine x_iaddN S dL_law_986 ?_
  refine x_sld S hX hbl hbA hS (j := (i + 3)) (by omega) (by omega) dL_law_987 ?_
  refine x_cVWi (As := [.int (xs (i + 1)), .int (xs (i + 2)), .int (xs (i + 3))]) (rest := [.int r1]) S hK hP2 hS hA2 0 (by omega) rfl rfl (c_X9_seen l τ hI2 (xs (i + 1)) (xs (i + 2)) (xs (i + 3)) (xRel_IM hrel)) (x_cwV (n0 := 3) (cq := (RX9, TX9, 24)) S gL_law_X9_seen rfl (by decide +kernel) ⟨(Nat.le_of_ble_eq_true rfl), (Nat.le_of_ble_eq_true rfl)⟩) rfl hl.1 rfl (Nat.le_of_ble_eq_true rfl) dL_law_988 ⟨(Nat.le_of_ble_eq_true rfl), (Nat.le_of_ble_eq_true rfl)⟩ (fun r2 τ1 H1 locs hr2 hP2 hk9 hS => ?_)
  have hP1 := xkeep hP1 (fun i j hi hj e9 => hdis i j hi hj e9) hk9
  obtain ⟨hr1, hs1⟩ := hr1
  obtain ⟨hr2, hs2⟩ := hr2
  have hq := xR_seen hrel (xs (i + 1)) (xs (i + 2)) (xs (i + 3))
  have hres : r1 = r2 := hr1.trans (hq.1.symm.trans hr2.symm)
  have hrel2 : xRel σ1 τ1 := by rw [hs1, hs2]; exact hq.2
  refine lv_icmp_eq (tgt := 1350) hx hb dL_law_991 (by decide) (fun _ => ?_) (fun q => absurd hres q)
  exact kk _ _ _ _ ⟨hP1, hP2, hS, hrel2⟩
set_option maxHeartbeats 4000000 in
set_option maxRecDepth 100000 in
theorem law_forget {p : Program} {l : Launch} {e : Env} {s : State} {m : MethodId} {below : List Frame} {meth : Method} {c : Code} {b L : Nat} {xs : Nat → Int32} {D : va_G} {K : Nat → ClassId} {α β : Nat → Nat} (F : xLF p s m meth c b L xs D K α β) {σ τ : Nat → Nat → Int32} {H : Heap} {locs : List Loc} {ls : Array Slot} {i : Nat} (hv : xLI D K α β s σ τ H locs) (hl : lv_has ls 4 [(3, .int (nI i)), (2, .ref (β 0)), (1, .ref (α 0)), (0, .ref b)]) (hi : i + 6 ≤ L) (kk : ∀ (σ2 τ2 : Nat → Nat → Int32) (H2 : Heap) (locs2 : List Loc), xLI D K α β s σ2 τ2 H2 locs2 → W p l e room_1 s m #[Value.ref b] below meth c H2 locs2 62 1210 (lw_Z below #[Value.ref b] s) (F0 m 1350 ls [])) : W p l e room_1 s m #[Value.ref b] below meth c H locs 62 1210 (lw_Z below #[Value.ref b] s) (F0 m 996 ls []) := by
  obtain ⟨S, hr, hX, hbl, hL, hK, hI1, hI2, hα, hβ, hdis⟩ := F
  obtain ⟨hP1, hP2, hS, hrel⟩ := hv
  have hx := S.1
  have hb := S.2.1
  have hR := hrel.2
  have hbA : ¬ (fun q : Nat => s.heap.size ≤ q) b := Nat.not_le.mpr hbl
  have hA1 : ∀ q, xw_R 42 α q → (fun q : Nat => s.heap.size ≤ q) q := fun q ⟨k, hk, e9⟩ => e9 ▸ hα k hk
  have hA2 : ∀ q, xw_R 20 β q → (fun q : Nat => s.heap.size ≤ q) q := fun q ⟨k, hk, e9⟩ => e9 ▸ hβ k hk
  refine lv_aload_n hx hb dL_law_996 rfl (lv_at hl 2 rfl) ?_
  refine lv_aload_n hx hb dL_law_997 rfl (lv_at hl 3 rfl) ?_
  refine lv_iload_n hx hb dL_law_998 rfl (lv_at hl 0 rfl) ?_
  refine lv_iconst (v := nI 1) hx hb dL_law_999 (by decide) ?_
  refine x_iaddN S dL_law_1000 ?_
  refine x_sld S hX hbl hbA hS (j := (i + 1)) (by omega) (by omega) dL_law_1001 ?_
  refine x_cVWi (As := [.int (xs (i + 1))]) (rest := []) S hK hP1 hS hA1 0 (by omega) rfl rfl (c_X8_forget l σ hI1 (xs (i + 1)) hrel.1) (x_cwV (n0 := 1) (cq := (RX8, TX8, 9)) S gL_law_X8_forget rfl (by decide +kernel) ⟨(Nat.le_of_ble_eq_true rfl), (Nat.le_of_ble_eq_true rfl)⟩) rfl hl.1 rfl (Nat.le_of_ble_eq_true rfl) dL_law_1002 ⟨(Nat.le_of_ble_eq_true rfl), (Nat.le_of_ble_eq_true rfl)⟩ (fun r1 σ1 H1 locs hr1 hP1 hk9 hS => ?_)
  have hP2 := xkeep hP2 (fun i j hi hj e9 => hdis j i hj hi e9.symm) hk9
  refine lv_aload_n hx hb dL_law_1005 rfl (lv_at hl 1 rfl) ?_
  refine lv_aload_n hx hb dL_law_1006 rfl (lv_at hl 3 rfl) ?_
  refine lv_iload_n hx hb dL_law_1007 rfl (lv_at hl 0 rfl) ?_
  refine lv_iconst (v := nI 1) hx hb dL_law_1008 (by decide) ?_
  refine x_iaddN S dL_law_1009 ?_
  refine x_sld S hX hbl hbA hS (j := (i + 1)) (by omega) (by omega) dL_law_1010 ?_
  refine x_cVWi (As := [.int (xs (i + 1))]) (rest := [.int r1]) S hK hP2 hS hA2 0 (by omega) rfl rfl (c_X9_forget l τ hI2 (xs (i + 1)) (xRel_IM hrel)) (x_cwV (n0 := 1) (cq := (RX9, TX9, 24)) S gL_law_X9_forget rfl (by decide +kernel) ⟨(Nat.le_of_ble_eq_true rfl), (Nat.le_of_ble_eq_true rfl)⟩) rfl hl.1 rfl (Nat.le_of_ble_eq_true rfl) dL_law_1011 ⟨(Nat.le_of_ble_eq_true rfl), (Nat.le_of_ble_eq_true rfl)⟩ (fun r2 τ1 H1 locs hr2 hP2 hk9 hS => ?_)
  have hP1 := xkeep hP1 (fun i j hi hj e9 => hdis i j hi hj e9) hk9
  obtain ⟨hr1, hs1⟩ := hr1
  obtain ⟨hr2, hs2⟩ := hr2
  have hq := xR_forget hrel (xs (i + 1))
  have hres : r1 = r2 := hr1.trans (hq.1.symm.trans hr2.symm)
  have hrel2 : xRel σ1 τ1 := by rw [hs1, hs2]; exact hq.2
  refine lv_icmp_eq (tgt := 1350) hx hb dL_law_1014 (by decide) (fun _ => ?_) (fun q => absurd hres q)
  exact kk _ _ _ _ ⟨hP1, hP2, hS, hrel2⟩
set_option maxHeartbeats 4000000 in
set_option maxRecDepth 100000 in
theorem law_could {p : Program} {l : Launch} {e : Env} {s : State} {m : MethodId} {below : List Frame} {meth : Method} {c : Code} {b L : Nat} {xs : Nat → Int32} {D : va_G} {K : Nat → ClassId} {α β : Nat → Nat} (F : xLF p s m meth c b L xs D K α β) {σ τ : Nat → Nat → Int32} {H : Heap} {locs : List Loc} {ls : Array Slot} {i : Nat} (hv : xLI D K α β s σ τ H locs) (hl : lv_has ls 4 [(3, .int (nI i)), (2, .ref (β 0)), (1, .ref (α 0)), (0, .ref b)]) (hi : i + 6 ≤ L) (kk : ∀ (σ2 τ2 : Nat → Nat → Int32) (H2 : Heap) (locs2 : List Loc), xLI D K α β s σ2 τ2 H2 locs2 → W p l e room_1 s m #[Value.ref b] below meth c H2 locs2 62 1210 (lw_Z below #[Value.ref b] s) (F0 m 1350 ls [])) : W p l e room_1 s m #[Value.ref b] below meth c H locs 62 1210 (lw_Z below #[Value.ref b] s) (F0 m 1019 ls []) := by
  obtain ⟨S, hr, hX, hbl, hL, hK, hI1, hI2, hα, hβ, hdis⟩ := F
  obtain ⟨hP1, hP2, hS, hrel⟩ := hv
  have hx := S.1
  have hb := S.2.1
  have hR := hrel.2
  have hbA : ¬ (fun q : Nat => s.heap.size ≤ q) b := Nat.not_le.mpr hbl
  have hA1 : ∀ q, xw_R 42 α q → (fun q : Nat => s.heap.size ≤ q) q := fun q ⟨k, hk, e9⟩ => e9 ▸ hα k hk
  have hA2 : ∀ q, xw_R 20 β q → (fun q : Nat => s.heap.size ≤ q) q := fun q ⟨k, hk, e9⟩ => e9 ▸ hβ k hk
  refine lv_aload_n hx hb dL_law_1019 rfl (lv_at hl 2 rfl) ?_
  refine lv_aload_n hx hb dL_law_1020 rfl (lv_at hl 3 rfl) ?_
  refine lv_iload_n hx hb dL_law_1021 rfl (lv_at hl 0 rfl) ?_
  refine lv_iconst (v := nI 1) hx hb dL_law_1022 (by decide) ?_
  refine x_iaddN S dL_law_1023 ?_
  refine x_sld S hX hbl hbA hS (j := (i + 1)) (by omega) (by omega) dL_law_1024 ?_
  refine x_cVWi (As := [.int (xs (i + 1))]) (rest := []) S hK hP1 hS hA1 0 (by omega) rfl rfl (c_X8_could l σ hI1 (xs (i + 1)) hrel.1) (x_cwV (n0 := 1) (cq := (RX8, TX8, 9)) S gL_law_X8_could rfl (by decide +kernel) ⟨(Nat.le_of_ble_eq_true rfl), (Nat.le_of_ble_eq_true rfl)⟩) rfl hl.1 rfl (Nat.le_of_ble_eq_true rfl) dL_law_1025 ⟨(Nat.le_of_ble_eq_true rfl), (Nat.le_of_ble_eq_true rfl)⟩ (fun r1 σ1 H1 locs hr1 hP1 hk9 hS => ?_)
  have hP2 := xkeep hP2 (fun i j hi hj e9 => hdis j i hj hi e9.symm) hk9
  refine lv_aload_n hx hb dL_law_1028 rfl (lv_at hl 1 rfl) ?_
  refine lv_aload_n hx hb dL_law_1029 rfl (lv_at hl 3 rfl) ?_
  refine lv_iload_n hx hb dL_law_1030 rfl (lv_at hl 0 rfl) ?_
  refine lv_iconst (v := nI 1) hx hb dL_law_1031 (by decide) ?_
  refine x_iaddN S dL_law_1032 ?_
  refine x_sld S hX hbl hbA hS (j := (i + 1)) (by omega) (by omega) dL_law_1033 ?_
  refine x_cVWi (As := [.int (xs (i + 1))]) (rest := [.int r1]) S hK hP2 hS hA2 0 (by omega) rfl rfl (c_X9_could l τ hI2 (xs (i + 1)) (xRel_IM hrel)) (x_cwV (n0 := 1) (cq := (RX9, TX9, 24)) S gL_law_X9_could rfl (by decide +kernel) ⟨(Nat.le_of_ble_eq_true rfl), (Nat.le_of_ble_eq_true rfl)⟩) rfl hl.1 rfl (Nat.le_of_ble_eq_true rfl) dL_law_1034 ⟨(Nat.le_of_ble_eq_true rfl), (Nat.le_of_ble_eq_true rfl)⟩ (fun r2 τ1 H1 locs hr2 hP2 hk9 hS => ?_)
  have hP1 := xkeep hP1 (fun i j hi hj e9 => hdis i j hi hj e9) hk9
  obtain ⟨hr1, hs1⟩ := hr1
  obtain ⟨hr2, hs2⟩ := hr2
  have hres : r1 = r2 := by rw [hr1, hr2]; simp only [xRw_F hR, xRw_L hR, xRw_Y hR, xRw_c hR, xRw_s hR, hR.2.1.1, hR.2.2.1.1, hR.2.2.1.2.1, hR.2.2.1.2.2.1, hR.2.2.2.1.1, hR.2.2.2.1.2.1, hR.2.2.2.1.2.2.1, hR.2.2.2.2.1, xpm_sound_eq, xpm_chance_eq, xpm_could_eq]
  have hrel2 : xRel σ1 τ1 := (xRel_Ms (xRel_Cs hrel hs1) hs2)
  refine lv_icmp_eq (tgt := 1350) hx hb dL_law_1037 (by decide) (fun _ => ?_) (fun q => absurd hres q)
  exact kk _ _ _ _ ⟨hP1, hP2, hS, hrel2⟩
set_option maxHeartbeats 4000000 in
set_option maxRecDepth 100000 in
theorem law_isFalse {p : Program} {l : Launch} {e : Env} {s : State} {m : MethodId} {below : List Frame} {meth : Method} {c : Code} {b L : Nat} {xs : Nat → Int32} {D : va_G} {K : Nat → ClassId} {α β : Nat → Nat} (F : xLF p s m meth c b L xs D K α β) {σ τ : Nat → Nat → Int32} {H : Heap} {locs : List Loc} {ls : Array Slot} {i : Nat} (hv : xLI D K α β s σ τ H locs) (hl : lv_has ls 4 [(3, .int (nI i)), (2, .ref (β 0)), (1, .ref (α 0)), (0, .ref b)]) (hi : i + 6 ≤ L) (kk : ∀ (σ2 τ2 : Nat → Nat → Int32) (H2 : Heap) (locs2 : List Loc), xLI D K α β s σ2 τ2 H2 locs2 → W p l e room_1 s m #[Value.ref b] below meth c H2 locs2 62 1210 (lw_Z below #[Value.ref b] s) (F0 m 1350 ls [])) : W p l e room_1 s m #[Value.ref b] below meth c H locs 62 1210 (lw_Z below #[Value.ref b] s) (F0 m 1042 ls []) := by
  obtain ⟨S, hr, hX, hbl, hL, hK, hI1, hI2, hα, hβ, hdis⟩ := F
  obtain ⟨hP1, hP2, hS, hrel⟩ := hv
  have hx := S.1
  have hb := S.2.1
  have hR := hrel.2
  have hbA : ¬ (fun q : Nat => s.heap.size ≤ q) b := Nat.not_le.mpr hbl
  have hA1 : ∀ q, xw_R 42 α q → (fun q : Nat => s.heap.size ≤ q) q := fun q ⟨k, hk, e9⟩ => e9 ▸ hα k hk
  have hA2 : ∀ q, xw_R 20 β q → (fun q : Nat => s.heap.size ≤ q) q := fun q ⟨k, hk, e9⟩ => e9 ▸ hβ k hk
  refine lv_aload_n hx hb dL_law_1042 rfl (lv_at hl 2 rfl) ?_
  refine x_cVRi (As := []) (rest := []) S hK hP1 0 (by omega) rfl rfl (c_X8_isFalse l σ  hrel.1) (x_cwV (n0 := 0) (cq := (RX8, TX8, 9)) S gL_law_X8_isFalse rfl (by decide +kernel) ⟨(Nat.le_of_ble_eq_true rfl), (Nat.le_of_ble_eq_true rfl)⟩) rfl hl.1 rfl (Nat.le_of_ble_eq_true rfl) dL_law_1043 ⟨(Nat.le_of_ble_eq_true rfl), (Nat.le_of_ble_eq_true rfl)⟩ (fun r1 hr1 => ?_)
  refine lv_aload_n hx hb dL_law_1046 rfl (lv_at hl 1 rfl) ?_
  refine x_cVRi (As := []) (rest := [.int r1]) S hK hP2 0 (by omega) rfl rfl (c_X9_isFalse l τ  (xRel_IM hrel)) (x_cwV (n0 := 0) (cq := (RX9, TX9, 24)) S gL_law_X9_isFalse rfl (by decide +kernel) ⟨(Nat.le_of_ble_eq_true rfl), (Nat.le_of_ble_eq_true rfl)⟩) rfl hl.1 rfl (Nat.le_of_ble_eq_true rfl) dL_law_1047 ⟨(Nat.le_of_ble_eq_true rfl), (Nat.le_of_ble_eq_true rfl)⟩ (fun r2 hr2 => ?_)
  have hres : r1 = r2 := by rw [hr1, hr2]; simp only [xRw_F hR, xRw_L hR, xRw_Y hR, xRw_c hR, xRw_s hR, hR.2.1.1, hR.2.2.1.1, hR.2.2.1.2.1, hR.2.2.1.2.2.1, hR.2.2.2.1.1, hR.2.2.2.1.2.1, hR.2.2.2.1.2.2.1, hR.2.2.2.2.1, xpm_sound_eq, xpm_chance_eq, xpm_could_eq]
  have hrel2 : xRel σ τ := hrel
  refine lv_icmp_eq (tgt := 1350) hx hb dL_law_1050 (by decide) (fun _ => ?_) (fun q => absurd hres q)
  exact kk _ _ _ _ ⟨hP1, hP2, hS, hrel2⟩
set_option maxHeartbeats 4000000 in
set_option maxRecDepth 100000 in
theorem law_sheet {p : Program} {l : Launch} {e : Env} {s : State} {m : MethodId} {below : List Frame} {meth : Method} {c : Code} {b L : Nat} {xs : Nat → Int32} {D : va_G} {K : Nat → ClassId} {α β : Nat → Nat} (F : xLF p s m meth c b L xs D K α β) {σ τ : Nat → Nat → Int32} {H : Heap} {locs : List Loc} {ls : Array Slot} {i : Nat} (hv : xLI D K α β s σ τ H locs) (hl : lv_has ls 4 [(3, .int (nI i)), (2, .ref (β 0)), (1, .ref (α 0)), (0, .ref b)]) (hi : i + 6 ≤ L) (kk : ∀ (σ2 τ2 : Nat → Nat → Int32) (H2 : Heap) (locs2 : List Loc), xLI D K α β s σ2 τ2 H2 locs2 → W p l e room_1 s m #[Value.ref b] below meth c H2 locs2 62 1210 (lw_Z below #[Value.ref b] s) (F0 m 1350 ls [])) : W p l e room_1 s m #[Value.ref b] below meth c H locs 62 1210 (lw_Z below #[Value.ref b] s) (F0 m 1055 ls []) := by
  obtain ⟨S, hr, hX, hbl, hL, hK, hI1, hI2, hα, hβ, hdis⟩ := F
  obtain ⟨hP1, hP2, hS, hrel⟩ := hv
  have hx := S.1
  have hb := S.2.1
  have hR := hrel.2
  have hbA : ¬ (fun q : Nat => s.heap.size ≤ q) b := Nat.not_le.mpr hbl
  have hA1 : ∀ q, xw_R 42 α q → (fun q : Nat => s.heap.size ≤ q) q := fun q ⟨k, hk, e9⟩ => e9 ▸ hα k hk
  have hA2 : ∀ q, xw_R 20 β q → (fun q : Nat => s.heap.size ≤ q) q := fun q ⟨k, hk, e9⟩ => e9 ▸ hβ k hk
  refine lv_aload_n hx hb dL_law_1055 rfl (lv_at hl 2 rfl) ?_
  refine lv_aload_n hx hb dL_law_1056 rfl (lv_at hl 3 rfl) ?_
  refine lv_iload_n hx hb dL_law_1057 rfl (lv_at hl 0 rfl) ?_
  refine lv_iconst (v := nI 1) hx hb dL_law_1058 (by decide) ?_
  refine x_iaddN S dL_law_1059 ?_
  refine x_sld S hX hbl hbA hS (j := (i + 1)) (by omega) (by omega) dL_law_1060 ?_
  refine lv_aload_n hx hb dL_law_1061 rfl (lv_at hl 3 rfl) ?_
  refine lv_iload_n hx hb dL_law_1062 rfl (lv_at hl 0 rfl) ?_
  refine lv_iconst (v := nI 2) hx hb dL_law_1063 (by decide) ?_
  refine x_iaddN S dL_law_1064 ?_
  refine x_sld S hX hbl hbA hS (j := (i + 2)) (by omega) (by omega) dL_law_1065 ?_
  refine lv_aload_n hx hb dL_law_1066 rfl (lv_at hl 3 rfl) ?_
  refine lv_iload_n hx hb dL_law_1067 rfl (lv_at hl 0 rfl) ?_
  refine lv_iconst (v := nI 3) hx hb dL_law_1068 (by decide) ?_
  refine x_iaddN S dL_law_1069 ?_
  refine x_sld S hX hbl hbA hS (j := (i + 3)) (by omega) (by omega) dL_law_1070 ?_
  refine x_cVWi (As := [.int (xs (i + 1)), .int (xs (i + 2)), .int (xs (i + 3))]) (rest := []) S hK hP1 hS hA1 0 (by omega) rfl rfl (c_X8_sheet l σ hI1 (xs (i + 1)) (xs (i + 2)) (xs (i + 3)) hrel.1) (x_cwV (n0 := 3) (cq := (RX8, TX8, 9)) S gL_law_X8_sheet rfl (by decide +kernel) ⟨(Nat.le_of_ble_eq_true rfl), (Nat.le_of_ble_eq_true rfl)⟩) rfl hl.1 rfl (Nat.le_of_ble_eq_true rfl) dL_law_1071 ⟨(Nat.le_of_ble_eq_true rfl), (Nat.le_of_ble_eq_true rfl)⟩ (fun r1 σ1 H1 locs hr1 hP1 hk9 hS => ?_)
  have hP2 := xkeep hP2 (fun i j hi hj e9 => hdis j i hj hi e9.symm) hk9
  refine lv_aload_n hx hb dL_law_1074 rfl (lv_at hl 1 rfl) ?_
  refine lv_aload_n hx hb dL_law_1075 rfl (lv_at hl 3 rfl) ?_
  refine lv_iload_n hx hb dL_law_1076 rfl (lv_at hl 0 rfl) ?_
  refine lv_iconst (v := nI 1) hx hb dL_law_1077 (by decide) ?_
  refine x_iaddN S dL_law_1078 ?_
  refine x_sld S hX hbl hbA hS (j := (i + 1)) (by omega) (by omega) dL_law_1079 ?_
  refine lv_aload_n hx hb dL_law_1080 rfl (lv_at hl 3 rfl) ?_
  refine lv_iload_n hx hb dL_law_1081 rfl (lv_at hl 0 rfl) ?_
  refine lv_iconst (v := nI 2) hx hb dL_law_1082 (by decide) ?_
  refine x_iaddN S dL_law_1083 ?_
  refine x_sld S hX hbl hbA hS (j := (i + 2)) (by omega) (by omega) dL_law_1084 ?_
  refine lv_aload_n hx hb dL_law_1085 rfl (lv_at hl 3 rfl) ?_
  refine lv_iload_n hx hb dL_law_1086 rfl (lv_at hl 0 rfl) ?_
  refine lv_iconst (v := nI 3) hx hb dL_law_1087 (by decide) ?_
  refine x_iaddN S dL_law_1088 ?_
  refine x_sld S hX hbl hbA hS (j := (i + 3)) (by omega) (by omega) dL_law_1089 ?_
  refine x_cVWi (As := [.int (xs (i + 1)), .int (xs (i + 2)), .int (xs (i + 3))]) (rest := [.int r1]) S hK hP2 hS hA2 0 (by omega) rfl rfl (c_X9_sheet l τ hI2 (xs (i + 1)) (xs (i + 2)) (xs (i + 3)) (xRel_IM hrel)) (x_cwV (n0 := 3) (cq := (RX9, TX9, 24)) S gL_law_X9_sheet rfl (by decide +kernel) ⟨(Nat.le_of_ble_eq_true rfl), (Nat.le_of_ble_eq_true rfl)⟩) rfl hl.1 rfl (Nat.le_of_ble_eq_true rfl) dL_law_1090 ⟨(Nat.le_of_ble_eq_true rfl), (Nat.le_of_ble_eq_true rfl)⟩ (fun r2 τ1 H1 locs hr2 hP2 hk9 hS => ?_)
  have hP1 := xkeep hP1 (fun i j hi hj e9 => hdis i j hi hj e9) hk9
  obtain ⟨hr1, hs1⟩ := hr1
  obtain ⟨hr2, hs2⟩ := hr2
  have hq := xR_sheet hrel (xs (i + 1)) (xs (i + 2)) (xs (i + 3))
  have hres : r1 = r2 := hr1.trans hr2.symm
  have hrel2 : xRel σ1 τ1 := by rw [hs1, hs2]; exact hq
  refine lv_icmp_eq (tgt := 1350) hx hb dL_law_1093 (by decide) (fun _ => ?_) (fun q => absurd hres q)
  exact kk _ _ _ _ ⟨hP1, hP2, hS, hrel2⟩

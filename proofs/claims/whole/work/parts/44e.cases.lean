set_option maxHeartbeats 4000000 in
set_option maxRecDepth 100000 in
theorem law_lose {p : Program} {l : Launch} {e : Env} {s : State} {m : MethodId} {below : List Frame} {meth : Method} {c : Code} {b L : Nat} {xs : Nat → Int32} {D : va_G} {K : Nat → ClassId} {α β : Nat → Nat} (F : xLF p s m meth c b L xs D K α β) {σ τ : Nat → Nat → Int32} {H : Heap} {locs : List Loc} {ls : Array Slot} {i : Nat} (hv : xLI D K α β s σ τ H locs) (hl : lv_has ls 4 [(3, .int (nI i)), (2, .ref (β 0)), (1, .ref (α 0)), (0, .ref b)]) (hi : i + 6 ≤ L) (kk : ∀ (σ2 τ2 : Nat → Nat → Int32) (H2 : Heap) (locs2 : List Loc), xLI D K α β s σ2 τ2 H2 locs2 → W p l e room_1 s m #[Value.ref b] below meth c H2 locs2 62 1210 (lw_Z below #[Value.ref b] s) (F0 m 1350 ls [])) : W p l e room_1 s m #[Value.ref b] below meth c H locs 62 1210 (lw_Z below #[Value.ref b] s) (F0 m 1098 ls []) := by
  obtain ⟨S, hr, hX, hbl, hL, hK, hI1, hI2, hα, hβ, hdis⟩ := F
  obtain ⟨hP1, hP2, hS, hrel⟩ := hv
  have hx := S.1
  have hb := S.2.1
  have hR := hrel.2
  have hbA : ¬ (fun q : Nat => s.heap.size ≤ q) b := Nat.not_le.mpr hbl
  have hA1 : ∀ q, xw_R 42 α q → (fun q : Nat => s.heap.size ≤ q) q := fun q ⟨k, hk, e9⟩ => e9 ▸ hα k hk
  have hA2 : ∀ q, xw_R 20 β q → (fun q : Nat => s.heap.size ≤ q) q := fun q ⟨k, hk, e9⟩ => e9 ▸ hβ k hk
  refine lv_aload_n hx hb dL_law_1098 rfl (lv_at hl 2 rfl) ?_
  refine lv_aload_n hx hb dL_law_1099 rfl (lv_at hl 3 rfl) ?_
  refine lv_iload_n hx hb dL_law_1100 rfl (lv_at hl 0 rfl) ?_
  refine lv_iconst (v := nI 1) hx hb dL_law_1101 (by decide) ?_
  refine x_iaddN S dL_law_1102 ?_
  refine x_sld S hX hbl hbA hS (j := (i + 1)) (by omega) (by omega) dL_law_1103 ?_
  refine x_cVWi (As := [.int (xs (i + 1))]) (rest := []) S hK hP1 hS hA1 0 (by omega) rfl rfl (c_X8_lose l σ hI1 (xs (i + 1)) hrel.1) (x_cwV (n0 := 1) (cq := (RX8, TX8, 9)) S gL_law_X8_lose rfl (by decide +kernel) ⟨(Nat.le_of_ble_eq_true rfl), (Nat.le_of_ble_eq_true rfl)⟩) rfl hl.1 rfl (Nat.le_of_ble_eq_true rfl) dL_law_1104 ⟨(Nat.le_of_ble_eq_true rfl), (Nat.le_of_ble_eq_true rfl)⟩ (fun r1 σ1 H1 locs hr1 hP1 hk9 hS => ?_)
  have hP2 := xkeep hP2 (fun i j hi hj e9 => hdis j i hj hi e9.symm) hk9
  refine lv_aload_n hx hb dL_law_1107 rfl (lv_at hl 1 rfl) ?_
  refine lv_aload_n hx hb dL_law_1108 rfl (lv_at hl 3 rfl) ?_
  refine lv_iload_n hx hb dL_law_1109 rfl (lv_at hl 0 rfl) ?_
  refine lv_iconst (v := nI 1) hx hb dL_law_1110 (by decide) ?_
  refine x_iaddN S dL_law_1111 ?_
  refine x_sld S hX hbl hbA hS (j := (i + 1)) (by omega) (by omega) dL_law_1112 ?_
  refine x_cVWi (As := [.int (xs (i + 1))]) (rest := [.int r1]) S hK hP2 hS hA2 0 (by omega) rfl rfl (c_X9_lose l τ hI2 (xs (i + 1)) (xRel_IM hrel)) (x_cwV (n0 := 1) (cq := (RX9, TX9, 24)) S gL_law_X9_lose rfl (by decide +kernel) ⟨(Nat.le_of_ble_eq_true rfl), (Nat.le_of_ble_eq_true rfl)⟩) rfl hl.1 rfl (Nat.le_of_ble_eq_true rfl) dL_law_1113 ⟨(Nat.le_of_ble_eq_true rfl), (Nat.le_of_ble_eq_true rfl)⟩ (fun r2 τ1 H1 locs hr2 hP2 hk9 hS => ?_)
  have hP1 := xkeep hP1 (fun i j hi hj e9 => hdis i j hi hj e9) hk9
  obtain ⟨hr1, hs1⟩ := hr1
  obtain ⟨hr2, hs2⟩ := hr2
  have hq := xR_lose hrel (xs (i + 1))
  have hres : r1 = r2 := hr1.trans (hq.1.symm.trans hr2.symm)
  have hrel2 : xRel σ1 τ1 := by rw [hs1, hs2]; exact hq.2
  refine lv_icmp_eq (tgt := 1350) hx hb dL_law_1116 (by decide) (fun _ => ?_) (fun q => absurd hres q)
  exact kk _ _ _ _ ⟨hP1, hP2, hS, hrel2⟩
set_option maxHeartbeats 4000000 in
set_option maxRecDepth 100000 in
theorem law_put {p : Program} {l : Launch} {e : Env} {s : State} {m : MethodId} {below : List Frame} {meth : Method} {c : Code} {b L : Nat} {xs : Nat → Int32} {D : va_G} {K : Nat → ClassId} {α β : Nat → Nat} (F : xLF p s m meth c b L xs D K α β) {σ τ : Nat → Nat → Int32} {H : Heap} {locs : List Loc} {ls : Array Slot} {i : Nat} (hv : xLI D K α β s σ τ H locs) (hl : lv_has ls 4 [(3, .int (nI i)), (2, .ref (β 0)), (1, .ref (α 0)), (0, .ref b)]) (hi : i + 6 ≤ L) (kk : ∀ (σ2 τ2 : Nat → Nat → Int32) (H2 : Heap) (locs2 : List Loc), xLI D K α β s σ2 τ2 H2 locs2 → W p l e room_1 s m #[Value.ref b] below meth c H2 locs2 62 1210 (lw_Z below #[Value.ref b] s) (F0 m 1350 ls [])) : W p l e room_1 s m #[Value.ref b] below meth c H locs 62 1210 (lw_Z below #[Value.ref b] s) (F0 m 1121 ls []) := by
  obtain ⟨S, hr, hX, hbl, hL, hK, hI1, hI2, hα, hβ, hdis⟩ := F
  obtain ⟨hP1, hP2, hS, hrel⟩ := hv
  have hx := S.1
  have hb := S.2.1
  have hR := hrel.2
  have hbA : ¬ (fun q : Nat => s.heap.size ≤ q) b := Nat.not_le.mpr hbl
  have hA1 : ∀ q, xw_R 42 α q → (fun q : Nat => s.heap.size ≤ q) q := fun q ⟨k, hk, e9⟩ => e9 ▸ hα k hk
  have hA2 : ∀ q, xw_R 20 β q → (fun q : Nat => s.heap.size ≤ q) q := fun q ⟨k, hk, e9⟩ => e9 ▸ hβ k hk
  refine lv_aload_n hx hb dL_law_1121 rfl (lv_at hl 2 rfl) ?_
  refine lv_aload_n hx hb dL_law_1122 rfl (lv_at hl 3 rfl) ?_
  refine lv_iload_n hx hb dL_law_1123 rfl (lv_at hl 0 rfl) ?_
  refine lv_iconst (v := nI 1) hx hb dL_law_1124 (by decide) ?_
  refine x_iaddN S dL_law_1125 ?_
  refine x_sld S hX hbl hbA hS (j := (i + 1)) (by omega) (by omega) dL_law_1126 ?_
  refine lv_aload_n hx hb dL_law_1127 rfl (lv_at hl 3 rfl) ?_
  refine lv_iload_n hx hb dL_law_1128 rfl (lv_at hl 0 rfl) ?_
  refine lv_iconst (v := nI 2) hx hb dL_law_1129 (by decide) ?_
  refine x_iaddN S dL_law_1130 ?_
  refine x_sld S hX hbl hbA hS (j := (i + 2)) (by omega) (by omega) dL_law_1131 ?_
  refine lv_aload_n hx hb dL_law_1132 rfl (lv_at hl 3 rfl) ?_
  refine lv_iload_n hx hb dL_law_1133 rfl (lv_at hl 0 rfl) ?_
  refine lv_iconst (v := nI 3) hx hb dL_law_1134 (by decide) ?_
  refine x_iaddN S dL_law_1135 ?_
  refine x_sld S hX hbl hbA hS (j := (i + 3)) (by omega) (by omega) dL_law_1136 ?_
  refine lv_aload_n hx hb dL_law_1137 rfl (lv_at hl 3 rfl) ?_
  refine lv_iload_n hx hb dL_law_1138 rfl (lv_at hl 0 rfl) ?_
  refine lv_iconst (v := nI 4) hx hb dL_law_1139 (by decide) ?_
  refine x_iaddN S dL_law_1140 ?_
  refine x_sld S hX hbl hbA hS (j := (i + 4)) (by omega) (by omega) dL_law_1141 ?_
  refine x_cVWi (As := [.int (xs (i + 1)), .int (xs (i + 2)), .int (xs (i + 3)), .int (xs (i + 4))]) (rest := []) S hK hP1 hS hA1 0 (by omega) rfl rfl (c_X8_put l σ hI1 (xs (i + 1)) (xs (i + 2)) (xs (i + 3)) (xs (i + 4)) hrel.1) (x_cwV (n0 := 4) (cq := (RX8, TX8, 9)) S gL_law_X8_put rfl (by decide +kernel) ⟨(Nat.le_of_ble_eq_true rfl), (Nat.le_of_ble_eq_true rfl)⟩) rfl hl.1 rfl (Nat.le_of_ble_eq_true rfl) dL_law_1142 ⟨(Nat.le_of_ble_eq_true rfl), (Nat.le_of_ble_eq_true rfl)⟩ (fun r1 σ1 H1 locs hr1 hP1 hk9 hS => ?_)
  have hP2 := xkeep hP2 (fun i j hi hj e9 => hdis j i hj hi e9.symm) hk9
  refine lv_aload_n hx hb dL_law_1145 rfl (lv_at hl 1 rfl) ?_
  refine lv_aload_n hx hb dL_law_1146 rfl (lv_at hl 3 rfl) ?_
  refine lv_iload_n hx hb dL_law_1147 rfl (lv_at hl 0 rfl) ?_
  refine lv_iconst (v := nI 1) hx hb dL_law_1148 (by decide) ?_
  refine x_iaddN S dL_law_1149 ?_
  refine x_sld S hX hbl hbA hS (j := (i + 1)) (by omega) (by omega) dL_law_1150 ?_
  refine lv_aload_n hx hb dL_law_1151 rfl (lv_at hl 3 rfl) ?_
  refine lv_iload_n hx hb dL_law_1152 rfl (lv_at hl 0 rfl) ?_
  refine lv_iconst (v := nI 2) hx hb dL_law_1153 (by decide) ?_
  refine x_iaddN S dL_law_1154 ?_
  refine x_sld S hX hbl hbA hS (j := (i + 2)) (by omega) (by omega) dL_law_1155 ?_
  refine lv_aload_n hx hb dL_law_1156 rfl (lv_at hl 3 rfl) ?_
  refine lv_iload_n hx hb dL_law_1157 rfl (lv_at hl 0 rfl) ?_
  refine lv_iconst (v := nI 3) hx hb dL_law_1158 (by decide) ?_
  refine x_iaddN S dL_law_1159 ?_
  refine x_sld S hX hbl hbA hS (j := (i + 3)) (by omega) (by omega) dL_law_1160 ?_
  refine lv_aload_n hx hb dL_law_1161 rfl (lv_at hl 3 rfl) ?_
  refine lv_iload_n hx hb dL_law_1162 rfl (lv_at hl 0 rfl) ?_
  refine lv_iconst (v := nI 4) hx hb dL_law_1163 (by decide) ?_
  refine x_iaddN S dL_law_1164 ?_
  refine x_sld S hX hbl hbA hS (j := (i + 4)) (by omega) (by omega) dL_law_1165 ?_
  refine x_cVWi (As := [.int (xs (i + 1)), .int (xs (i + 2)), .int (xs (i + 3)), .int (xs (i + 4))]) (rest := [.int r1]) S hK hP2 hS hA2 0 (by omega) rfl rfl (c_X9_put l τ hI2 (xs (i + 1)) (xs (i + 2)) (xs (i + 3)) (xs (i + 4)) (xRel_IM hrel)) (x_cwV (n0 := 4) (cq := (RX9, TX9, 24)) S gL_law_X9_put rfl (by decide +kernel) ⟨(Nat.le_of_ble_eq_true rfl), (Nat.le_of_ble_eq_true rfl)⟩) rfl hl.1 rfl (Nat.le_of_ble_eq_true rfl) dL_law_1166 ⟨(Nat.le_of_ble_eq_true rfl), (Nat.le_of_ble_eq_true rfl)⟩ (fun r2 τ1 H1 locs hr2 hP2 hk9 hS => ?_)
  have hP1 := xkeep hP1 (fun i j hi hj e9 => hdis i j hi hj e9) hk9
  obtain ⟨hr1, hs1⟩ := hr1
  obtain ⟨hr2, hs2⟩ := hr2
  have hq := xR_put hrel (xs (i + 1)) (xs (i + 2)) (xs (i + 3)) (xs (i + 4))
  have hres : r1 = r2 := hr1.trans (hq.1.symm.trans hr2.symm)
  have hrel2 : xRel σ1 τ1 := by rw [hs1, hs2]; exact hq.2
  refine lv_icmp_eq (tgt := 1350) hx hb dL_law_1169 (by decide) (fun _ => ?_) (fun q => absurd hres q)
  exact kk _ _ _ _ ⟨hP1, hP2, hS, hrel2⟩
set_option maxHeartbeats 4000000 in
set_option maxRecDepth 100000 in
theorem law_get {p : Program} {l : Launch} {e : Env} {s : State} {m : MethodId} {below : List Frame} {meth : Method} {c : Code} {b L : Nat} {xs : Nat → Int32} {D : va_G} {K : Nat → ClassId} {α β : Nat → Nat} (F : xLF p s m meth c b L xs D K α β) {σ τ : Nat → Nat → Int32} {H : Heap} {locs : List Loc} {ls : Array Slot} {i : Nat} (hv : xLI D K α β s σ τ H locs) (hl : lv_has ls 4 [(3, .int (nI i)), (2, .ref (β 0)), (1, .ref (α 0)), (0, .ref b)]) (hi : i + 6 ≤ L) (kk : ∀ (σ2 τ2 : Nat → Nat → Int32) (H2 : Heap) (locs2 : List Loc), xLI D K α β s σ2 τ2 H2 locs2 → W p l e room_1 s m #[Value.ref b] below meth c H2 locs2 62 1210 (lw_Z below #[Value.ref b] s) (F0 m 1350 ls [])) : W p l e room_1 s m #[Value.ref b] below meth c H locs 62 1210 (lw_Z below #[Value.ref b] s) (F0 m 1174 ls []) := by
  obtain ⟨S, hr, hX, hbl, hL, hK, hI1, hI2, hα, hβ, hdis⟩ := F
  obtain ⟨hP1, hP2, hS, hrel⟩ := hv
  have hx := S.1
  have hb := S.2.1
  have hR := hrel.2
  have hbA : ¬ (fun q : Nat => s.heap.size ≤ q) b := Nat.not_le.mpr hbl
  have hA1 : ∀ q, xw_R 42 α q → (fun q : Nat => s.heap.size ≤ q) q := fun q ⟨k, hk, e9⟩ => e9 ▸ hα k hk
  have hA2 : ∀ q, xw_R 20 β q → (fun q : Nat => s.heap.size ≤ q) q := fun q ⟨k, hk, e9⟩ => e9 ▸ hβ k hk
  refine lv_aload_n hx hb dL_law_1174 rfl (lv_at hl 2 rfl) ?_
  refine lv_aload_n hx hb dL_law_1175 rfl (lv_at hl 3 rfl) ?_
  refine lv_iload_n hx hb dL_law_1176 rfl (lv_at hl 0 rfl) ?_
  refine lv_iconst (v := nI 1) hx hb dL_law_1177 (by decide) ?_
  refine x_iaddN S dL_law_1178 ?_
  refine x_sld S hX hbl hbA hS (j := (i + 1)) (by omega) (by omega) dL_law_1179 ?_
  refine lv_aload_n hx hb dL_law_1180 rfl (lv_at hl 3 rfl) ?_
  refine lv_iload_n hx hb dL_law_1181 rfl (lv_at hl 0 rfl) ?_
  refine lv_iconst (v := nI 2) hx hb dL_law_1182 (by decide) ?_
  refine x_iaddN S dL_law_1183 ?_
  refine x_sld S hX hbl hbA hS (j := (i + 2)) (by omega) (by omega) dL_law_1184 ?_
  refine lv_aload_n hx hb dL_law_1185 rfl (lv_at hl 3 rfl) ?_
  refine lv_iload_n hx hb dL_law_1186 rfl (lv_at hl 0 rfl) ?_
  refine lv_iconst (v := nI 3) hx hb dL_law_1187 (by decide) ?_
  refine x_iaddN S dL_law_1188 ?_
  refine x_sld S hX hbl hbA hS (j := (i + 3)) (by omega) (by omega) dL_law_1189 ?_
  refine x_cVWi (As := [.int (xs (i + 1)), .int (xs (i + 2)), .int (xs (i + 3))]) (rest := []) S hK hP1 hS hA1 0 (by omega) rfl rfl (c_X8_get l σ hI1 (xs (i + 1)) (xs (i + 2)) (xs (i + 3)) hrel.1) (x_cwV (n0 := 3) (cq := (RX8, TX8, 9)) S gL_law_X8_get rfl (by decide +kernel) ⟨(Nat.le_of_ble_eq_true rfl), (Nat.le_of_ble_eq_true rfl)⟩) rfl hl.1 rfl (Nat.le_of_ble_eq_true rfl) dL_law_1190 ⟨(Nat.le_of_ble_eq_true rfl), (Nat.le_of_ble_eq_true rfl)⟩ (fun r1 σ1 H1 locs hr1 hP1 hk9 hS => ?_)
  have hP2 := xkeep hP2 (fun i j hi hj e9 => hdis j i hj hi e9.symm) hk9
  refine lv_aload_n hx hb dL_law_1193 rfl (lv_at hl 1 rfl) ?_
  refine lv_aload_n hx hb dL_law_1194 rfl (lv_at hl 3 rfl) ?_
  refine lv_iload_n hx hb dL_law_1195 rfl (lv_at hl 0 rfl) ?_
  refine lv_iconst (v := nI 1) hx hb dL_law_1196 (by decide) ?_
  refine x_iaddN S dL_law_1197 ?_
  refine x_sld S hX hbl hbA hS (j := (i + 1)) (by omega) (by omega) dL_law_1198 ?_
  refine lv_aload_n hx hb dL_law_1199 rfl (lv_at hl 3 rfl) ?_
  refine lv_iload_n hx hb dL_law_1200 rfl (lv_at hl 0 rfl) ?_
  refine lv_iconst (v := nI 2) hx hb dL_law_1201 (by decide) ?_
  refine x_iaddN S dL_law_1202 ?_
  refine x_sld S hX hbl hbA hS (j := (i + 2)) (by omega) (by omega) dL_law_1203 ?_
  refine lv_aload_n hx hb dL_law_1204 rfl (lv_at hl 3 rfl) ?_
  refine lv_iload_n hx hb dL_law_1205 rfl (lv_at hl 0 rfl) ?_
  refine lv_iconst (v := nI 3) hx hb dL_law_1206 (by decide) ?_
  refine x_iaddN S dL_law_1207 ?_
  refine x_sld S hX hbl hbA hS (j := (i + 3)) (by omega) (by omega) dL_law_1208 ?_
  refine x_cVWi (As := [.int (xs (i + 1)), .int (xs (i + 2)), .int (xs (i + 3))]) (rest := [.int r1]) S hK hP2 hS hA2 0 (by omega) rfl rfl (c_X9_get l τ hI2 (xs (i + 1)) (xs (i + 2)) (xs (i + 3)) (xRel_IM hrel)) (x_cwV (n0 := 3) (cq := (RX9, TX9, 24)) S gL_law_X9_get rfl (by decide +kernel) ⟨(Nat.le_of_ble_eq_true rfl), (Nat.le_of_ble_eq_true rfl)⟩) rfl hl.1 rfl (Nat.le_of_ble_eq_true rfl) dL_law_1209 ⟨(Nat.le_of_ble_eq_true rfl), (Nat.le_of_ble_eq_true rfl)⟩ (fun r2 τ1 H1 locs hr2 hP2 hk9 hS => ?_)
  have hP1 := xkeep hP1 (fun i j hi hj e9 => hdis i j hi hj e9) hk9
  obtain ⟨hr1, hs1⟩ := hr1
  obtain ⟨hr2, hs2⟩ := hr2
  have hq := xR_get hrel (xs (i + 1)) (xs (i + 2)) (xs (i + 3))
  have hres : r1 = r2 := hr1.trans (hq.1.symm.trans hr2.symm)
  have hrel2 : xRel σ1 τ1 := by rw [hs1, hs2]; exact hq.2
  refine lv_icmp_eq (tgt := 1350) hx hb dL_law_1212 (by decide) (fun _ => ?_) (fun q => absurd hres q)
  exact kk _ _ _ _ ⟨hP1, hP2, hS, hrel2⟩
set_option maxHeartbeats 4000000 in
set_option maxRecDepth 100000 in
theorem law_copy {p : Program} {l : Launch} {e : Env} {s : State} {m : MethodId} {below : List Frame} {meth : Method} {c : Code} {b L : Nat} {xs : Nat → Int32} {D : va_G} {K : Nat → ClassId} {α β : Nat → Nat} (F : xLF p s m meth c b L xs D K α β) {σ τ : Nat → Nat → Int32} {H : Heap} {locs : List Loc} {ls : Array Slot} {i : Nat} (hv : xLI D K α β s σ τ H locs) (hl : lv_has ls 4 [(3, .int (nI i)), (2, .ref (β 0)), (1, .ref (α 0)), (0, .ref b)]) (hi : i + 6 ≤ L) (kk : ∀ (σ2 τ2 : Nat → Nat → Int32) (H2 : Heap) (locs2 : List Loc), xLI D K α β s σ2 τ2 H2 locs2 → W p l e room_1 s m #[Value.ref b] below meth c H2 locs2 62 1210 (lw_Z below #[Value.ref b] s) (F0 m 1350 ls [])) : W p l e room_1 s m #[Value.ref b] below meth c H locs 62 1210 (lw_Z below #[Value.ref b] s) (F0 m 1217 ls []) := by
  obtain ⟨S, hr, hX, hbl, hL, hK, hI1, hI2, hα, hβ, hdis⟩ := F
  obtain ⟨hP1, hP2, hS, hrel⟩ := hv
  have hx := S.1
  have hb := S.2.1
  have hR := hrel.2
  have hbA : ¬ (fun q : Nat => s.heap.size ≤ q) b := Nat.not_le.mpr hbl
  have hA1 : ∀ q, xw_R 42 α q → (fun q : Nat => s.heap.size ≤ q) q := fun q ⟨k, hk, e9⟩ => e9 ▸ hα k hk
  have hA2 : ∀ q, xw_R 20 β q → (fun q : Nat => s.heap.size ≤ q) q := fun q ⟨k, hk, e9⟩ => e9 ▸ hβ k hk
  refine lv_aload_n hx hb dL_law_1217 rfl (lv_at hl 2 rfl) ?_
  refine lv_aload_n hx hb dL_law_1218 rfl (lv_at hl 3 rfl) ?_
  refine lv_iload_n hx hb dL_law_1219 rfl (lv_at hl 0 rfl) ?_
  refine lv_iconst (v := nI 1) hx hb dL_law_1220 (by decide) ?_
  refine x_iaddN S dL_law_1221 ?_
  refine x_sld S hX hbl hbA hS (j := (i + 1)) (by omega) (by omega) dL_law_1222 ?_
  refine lv_aload_n hx hb dL_law_1223 rfl (lv_at hl 3 rfl) ?_
  refine lv_iload_n hx hb dL_law_1224 rfl (lv_at hl 0 rfl) ?_
  refine lv_iconst (v := nI 2) hx hb dL_law_1225 (by decide) ?_
  refine x_iaddN S dL_law_1226 ?_
  refine x_sld S hX hbl hbA hS (j := (i + 2)) (by omega) (by omega) dL_law_1227 ?_
  refine lv_aload_n hx hb dL_law_1228 rfl (lv_at hl 3 rfl) ?_
  refine lv_iload_n hx hb dL_law_1229 rfl (lv_at hl 0 rfl) ?_
  refine lv_iconst (v := nI 3) hx hb dL_law_1230 (by decide) ?_
  refine x_iaddN S dL_law_1231 ?_
  refine x_sld S hX hbl hbA hS (j := (i + 3)) (by omega) (by omega) dL_law_1232 ?_
  refine lv_aload_n hx hb dL_law_1233 rfl (lv_at hl 3 rfl) ?_
  refine lv_iload_n hx hb dL_law_1234 rfl (lv_at hl 0 rfl) ?_
  refine lv_iconst (v := nI 4) hx hb dL_law_1235 (by decide) ?_
  refine x_iaddN S dL_law_1236 ?_
  refine x_sld S hX hbl hbA hS (j := (i + 4)) (by omega) (by omega) dL_law_1237 ?_
  refine lv_aload_n hx hb dL_law_1238 rfl (lv_at hl 3 rfl) ?_
  refine lv_iload_n hx hb dL_law_1239 rfl (lv_at hl 0 rfl) ?_
  refine lv_iconst (v := nI 5) hx hb dL_law_1240 (by decide) ?_
  refine x_iaddN S dL_law_1241 ?_
  refine x_sld S hX hbl hbA hS (j := (i + 5)) (by omega) (by omega) dL_law_1242 ?_
  refine x_cVWi (As := [.int (xs (i + 1)), .int (xs (i + 2)), .int (xs (i + 3)), .int (xs (i + 4)), .int (xs (i + 5))]) (rest := []) S hK hP1 hS hA1 0 (by omega) rfl rfl (c_X8_copy l σ hI1 (xs (i + 1)) (xs (i + 2)) (xs (i + 3)) (xs (i + 4)) (xs (i + 5)) hrel.1) (x_cwV (n0 := 5) (cq := (RX8, TX8, 9)) S gL_law_X8_copy rfl (by decide +kernel) ⟨(Nat.le_of_ble_eq_true rfl), (Nat.le_of_ble_eq_true rfl)⟩) rfl hl.1 rfl (Nat.le_of_ble_eq_true rfl) dL_law_1243 ⟨(Nat.le_of_ble_eq_true rfl), (Nat.le_of_ble_eq_true rfl)⟩ (fun r1 σ1 H1 locs hr1 hP1 hk9 hS => ?_)
  have hP2 := xkeep hP2 (fun i j hi hj e9 => hdis j i hj hi e9.symm) hk9
  refine lv_aload_n hx hb dL_law_1246 rfl (lv_at hl 1 rfl) ?_
  refine lv_aload_n hx hb dL_law_1247 rfl (lv_at hl 3 rfl) ?_
  refine lv_iload_n hx hb dL_law_1248 rfl (lv_at hl 0 rfl) ?_
  refine lv_iconst (v := nI 1) hx hb dL_law_1249 (by decide) ?_
  refine x_iaddN S dL_law_1250 ?_
  refine x_sld S hX hbl hbA hS (j := (i + 1)) (by omega) (by omega) dL_law_1251 ?_
  refine lv_aload_n hx hb dL_law_1252 rfl (lv_at hl 3 rfl) ?_
  refine lv_iload_n hx hb dL_law_1253 rfl (lv_at hl 0 rfl) ?_
  refine lv_iconst (v := nI 2) hx hb dL_law_1254 (by decide) ?_
  refine x_iaddN S dL_law_1255 ?_
  refine x_sld S hX hbl hbA hS (j := (i + 2)) (by omega) (by omega) dL_law_1256 ?_
  refine lv_aload_n hx hb dL_law_1257 rfl (lv_at hl 3 rfl) ?_
  refine lv_iload_n hx hb dL_law_1258 rfl (lv_at hl 0 rfl) ?_
  refine lv_iconst (v := nI 3) hx hb dL_law_1259 (by decide) ?_
  refine x_iaddN S dL_law_1260 ?_
  refine x_sld S hX hbl hbA hS (j := (i + 3)) (by omega) (by omega) dL_law_1261 ?_
  refine lv_aload_n hx hb dL_law_1262 rfl (lv_at hl 3 rfl) ?_
  refine lv_iload_n hx hb dL_law_1263 rfl (lv_at hl 0 rfl) ?_
  refine lv_iconst (v := nI 4) hx hb dL_law_1264 (by decide) ?_
  refine x_iaddN S dL_law_1265 ?_
  refine x_sld S hX hbl hbA hS (j := (i + 4)) (by omega) (by omega) dL_law_1266 ?_
  refine lv_aload_n hx hb dL_law_1267 rfl (lv_at hl 3 rfl) ?_
  refine lv_iload_n hx hb dL_law_1268 rfl (lv_at hl 0 rfl) ?_
  refine lv_iconst (v := nI 5) hx hb dL_law_1269 (by decide) ?_
  refine x_iaddN S dL_law_1270 ?_
  refine x_sld S hX hbl hbA hS (j := (i + 5)) (by omega) (by omega) dL_law_1271 ?_
  refine x_cVWi (As := [.int (xs (i + 1)), .int (xs (i + 2)), .int (xs (i + 3)), .int (xs (i + 4)), .int (xs (i + 5))]) (rest := [.int r1]) S hK hP2 hS hA2 0 (by omega) rfl rfl (c_X9_copy l τ hI2 (xs (i + 1)) (xs (i + 2)) (xs (i + 3)) (xs (i + 4)) (xs (i + 5)) (xRel_IM hrel)) (x_cwV (n0 := 5) (cq := (RX9, TX9, 24)) S gL_law_X9_copy rfl (by decide +kernel) ⟨(Nat.le_of_ble_eq_true rfl), (Nat.le_of_ble_eq_true rfl)⟩) rfl hl.1 rfl (Nat.le_of_ble_eq_true rfl) dL_law_1272 ⟨(Nat.le_of_ble_eq_true rfl), (Nat.le_of_ble_eq_true rfl)⟩ (fun r2 τ1 H1 locs hr2 hP2 hk9 hS => ?_)
  have hP1 := xkeep hP1 (fun i j hi hj e9 => hdis i j hi hj e9) hk9
  obtain ⟨hr1, hs1⟩ := hr1
  obtain ⟨hr2, hs2⟩ := hr2
  have hq := xR_copy hrel (xs (i + 1)) (xs (i + 2)) (xs (i + 3)) (xs (i + 4)) (xs (i + 5))
  have hres : r1 = r2 := hr1.trans (hq.1.symm.trans hr2.symm)
  have hrel2 : xRel σ1 τ1 := by rw [hs1]; exact xRel_Ms hq.2 hs2
  refine lv_icmp_eq (tgt := 1350) hx hb dL_law_1275 (by decide) (fun _ => ?_) (fun q => absurd hres q)
  exact kk _ _ _ _ ⟨hP1, hP2, hS, hrel2⟩
set_option maxHeartbeats 4000000 in
set_option maxRecDepth 100000 in
theorem law_write {p : Program} {l : Launch} {e : Env} {s : State} {m : MethodId} {below : List Frame} {meth : Method} {c : Code} {b L : Nat} {xs : Nat → Int32} {D : va_G} {K : Nat → ClassId} {α β : Nat → Nat} (F : xLF p s m meth c b L xs D K α β) {σ τ : Nat → Nat → Int32} {H : Heap} {locs : List Loc} {ls : Array Slot} {i : Nat} (hv : xLI D K α β s σ τ H locs) (hl : lv_has ls 4 [(3, .int (nI i)), (2, .ref (β 0)), (1, .ref (α 0)), (0, .ref b)]) (hi : i + 6 ≤ L) (kk : ∀ (σ2 τ2 : Nat → Nat → Int32) (H2 : Heap) (locs2 : List Loc), xLI D K α β s σ2 τ2 H2 locs2 → W p l e room_1 s m #[Value.ref b] below meth c H2 locs2 62 1210 (lw_Z below #[Value.ref b] s) (F0 m 1350 ls [])) : W p l e room_1 s m #[Value.ref b] below meth c H locs 62 1210 (lw_Z below #[Value.ref b] s) (F0 m 1280 ls []) := by
  obtain ⟨S, hr, hX, hbl, hL, hK, hI1, hI2, hα, hβ, hdis⟩ := F
  obtain ⟨hP1, hP2, hS, hrel⟩ := hv
  have hx := S.1
  have hb := S.2.1
  have hR := hrel.2
  have hbA : ¬ (fun q : Nat => s.heap.size ≤ q) b := Nat.not_le.mpr hbl
  have hA1 : ∀ q, xw_R 42 α q → (fun q : Nat => s.heap.size ≤ q) q := fun q ⟨k, hk, e9⟩ => e9 ▸ hα k hk
  have hA2 : ∀ q, xw_R 20 β q → (fun q : Nat => s.heap.size ≤ q) q := fun q ⟨k, hk, e9⟩ => e9 ▸ hβ k hk
  refine lv_aload_n hx hb dL_law_1280 rfl (lv_at hl 2 rfl) ?_
  refine lv_aload_n hx hb dL_law_1281 rfl (lv_at hl 3 rfl) ?_
  refine lv_iload_n hx hb dL_law_1282 rfl (lv_at hl 0 rfl) ?_
  refine lv_iconst (v := nI 1) hx hb dL_law_1283 (by decide) ?_
  refine x_iaddN S dL_law_1284 ?_
  refine x_sld S hX hbl hbA hS (j := (i + 1)) (by omega) (by omega) dL_law_1285 ?_
  refine lv_aload_n hx hb dL_law_1286 rfl (lv_at hl 3 rfl) ?_
  refine lv_iload_n hx hb dL_law_1287 rfl (lv_at hl 0 rfl) ?_
  refine lv_iconst (v := nI 2) hx hb dL_law_1288 (by decide) ?_
  refine x_iaddN S dL_law_1289 ?_
  refine x_sld S hX hbl hbA hS (j := (i + 2)) (by omega) (by omega) dL_law_1290 ?_
  refine x_cVWi (As := [.int (xs (i + 1)), .int (xs (i + 2))]) (rest := []) S hK hP1 hS hA1 0 (by omega) rfl rfl (c_X8_write l σ hI1 (xs (i + 1)) (xs (i + 2)) hrel.1) (x_cwV (n0 := 2) (cq := (RX8, TX8, 9)) S gL_law_X8_write rfl (by decide +kernel) ⟨(Nat.le_of_ble_eq_true rfl), (Nat.le_of_ble_eq_true rfl)⟩) rfl hl.1 rfl (Nat.le_of_ble_eq_true rfl) dL_law_1291 ⟨(Nat.le_of_ble_eq_true rfl), (Nat.le_of_ble_eq_true rfl)⟩ (fun r1 σ1 H1 locs hr1 hP1 hk9 hS => ?_)
  have hP2 := xkeep hP2 (fun i j hi hj e9 => hdis j i hj hi e9.symm) hk9
  refine lv_aload_n hx hb dL_law_1294 rfl (lv_at hl 1 rfl) ?_
  refine lv_aload_n hx hb dL_law_1295 rfl (lv_at hl 3 rfl) ?_
  refine lv_iload_n hx hb dL_law_1296 rfl (lv_at hl 0 rfl) ?_
  refine lv_iconst (v := nI 1) hx hb dL_law_1297 (by decide) ?_
  refine x_iaddN S dL_law_1298 ?_
  refine x_sld S hX hbl hbA hS (j := (i + 1)) (by omega) (by omega) dL_law_1299 ?_
  refine lv_aload_n hx hb dL_law_1300 rfl (lv_at hl 3 rfl) ?_
  refine lv_iload_n hx hb dL_law_1301 rfl (lv_at hl 0 rfl) ?_
  refine lv_iconst (v := nI 2) hx hb dL_law_1302 (by decide) ?_
  refine x_iaddN S dL_law_1303 ?_
  refine x_sld S hX hbl hbA hS (j := (i + 2)) (by omega) (by omega) dL_law_1304 ?_
  refine x_cVWi (As := [.int (xs (i + 1)), .int (xs (i + 2))]) (rest := [.int r1]) S hK hP2 hS hA2 0 (by omega) rfl rfl (c_X9_write l τ hI2 (xs (i + 1)) (xs (i + 2)) (xRel_IM hrel)) (x_cwV (n0 := 2) (cq := (RX9, TX9, 24)) S gL_law_X9_write rfl (by decide +kernel) ⟨(Nat.le_of_ble_eq_true rfl), (Nat.le_of_ble_eq_true rfl)⟩) rfl hl.1 rfl (Nat.le_of_ble_eq_true rfl) dL_law_1305 ⟨(Nat.le_of_ble_eq_true rfl), (Nat.le_of_ble_eq_true rfl)⟩ (fun r2 τ1 H1 locs hr2 hP2 hk9 hS => ?_)
  have hP1 := xkeep hP1 (fun i j hi hj e9 => hdis i j hi hj e9) hk9
  obtain ⟨hr1, hs1⟩ := hr1
  obtain ⟨hr2, hs2⟩ := hr2
  have hq := xR_write hrel (xs (i + 1)) (xs (i + 2))
  have hres : r1 = r2 := hr1.trans (hq.1.symm.trans hr2.symm)
  have hrel2 : xRel σ1 τ1 := by rw [hs1]; exact xRel_Ms hq.2 hs2
  refine lv_icmp_eq (tgt := 1350) hx hb dL_law_1308 (by decide) (fun _ => ?_) (fun q => absurd hres q)
  exact kk _ _ _ _ ⟨hP1, hP2, hS, hrel2⟩
set_option maxHeartbeats 4000000 in
set_option maxRecDepth 100000 in
theorem law_count {p : Program} {l : Launch} {e : Env} {s : State} {m : MethodId} {below : List Frame} {meth : Method} {c : Code} {b L : Nat} {xs : Nat → Int32} {D : va_G} {K : Nat → ClassId} {α β : Nat → Nat} (F : xLF p s m meth c b L xs D K α β) {σ τ : Nat → Nat → Int32} {H : Heap} {locs : List Loc} {ls : Array Slot} {i : Nat} (hv : xLI D K α β s σ τ H locs) (hl : lv_has ls 4 [(3, .int (nI i)), (2, .ref (β 0)), (1, .ref (α 0)), (0, .ref b)]) (hi : i + 6 ≤ L) (kk : ∀ (σ2 τ2 : Nat → Nat → Int32) (H2 : Heap) (locs2 : List Loc), xLI D K α β s σ2 τ2 H2 locs2 → W p l e room_1 s m #[Value.ref b] below meth c H2 locs2 62 1210 (lw_Z below #[Value.ref b] s) (F0 m 1350 ls [])) : W p l e room_1 s m #[Value.ref b] below meth c H locs 62 1210 (lw_Z below #[Value.ref b] s) (F0 m 1313 ls []) := by
  obtain ⟨S, hr, hX, hbl, hL, hK, hI1, hI2, hα, hβ, hdis⟩ := F
  obtain ⟨hP1, hP2, hS, hrel⟩ := hv
  have hx := S.1
  have hb := S.2.1
  have hR := hrel.2
  have hbA : ¬ (fun q : Nat => s.heap.size ≤ q) b := Nat.not_le.mpr hbl
  have hA1 : ∀ q, xw_R 42 α q → (fun q : Nat => s.heap.size ≤ q) q := fun q ⟨k, hk, e9⟩ => e9 ▸ hα k hk
  have hA2 : ∀ q, xw_R 20 β q → (fun q : Nat => s.heap.size ≤ q) q := fun q ⟨k, hk, e9⟩ => e9 ▸ hβ k hk
  refine lv_aload_n hx hb dL_law_1313 rfl (lv_at hl 2 rfl) ?_
  refine lv_aload_n hx hb dL_law_1314 rfl (lv_at hl 3 rfl) ?_
  refine lv_iload_n hx hb dL_law_1315 rfl (lv_at hl 0 rfl) ?_
  refine lv_iconst (v := nI 1) hx hb dL_law_1316 (by decide) ?_
  refine x_iaddN S dL_law_1317 ?_
  refine x_sld S hX hbl hbA hS (j := (i + 1)) (by omega) (by omega) dL_law_1318 ?_
  refine x_cVRi (As := [.int (xs (i + 1))]) (rest := []) S hK hP1 0 (by omega) rfl rfl (c_X8_count l σ (xs (i + 1)) hrel.1) (x_cwV (n0 := 1) (cq := (RX8, TX8, 9)) S gL_law_X8_count rfl (by decide +kernel) ⟨(Nat.le_of_ble_eq_true rfl), (Nat.le_of_ble_eq_true rfl)⟩) rfl hl.1 rfl (Nat.le_of_ble_eq_true rfl) dL_law_1319 ⟨(Nat.le_of_ble_eq_true rfl), (Nat.le_of_ble_eq_true rfl)⟩ (fun r1 hr1 => ?_)
  refine lv_aload_n hx hb dL_law_1322 rfl (lv_at hl 1 rfl) ?_
  refine lv_aload_n hx hb dL_law_1323 rfl (lv_at hl 3 rfl) ?_
  refine lv_iload_n hx hb dL_law_1324 rfl (lv_at hl 0 rfl) ?_
  refine lv_iconst (v := nI 1) hx hb dL_law_1325 (by decide) ?_
  refine x_iaddN S dL_law_1326 ?_
  refine x_sld S hX hbl hbA hS (j := (i + 1)) (by omega) (by omega) dL_law_1327 ?_
  refine x_cVWi (As := [.int (xs (i + 1))]) (rest := [.int r1]) S hK hP2 hS hA2 0 (by omega) rfl rfl (c_X9_count l τ hI2 (xs (i + 1)) (xRel_IM hrel)) (x_cwV (n0 := 1) (cq := (RX9, TX9, 24)) S gL_law_X9_count rfl (by decide +kernel) ⟨(Nat.le_of_ble_eq_true rfl), (Nat.le_of_ble_eq_true rfl)⟩) rfl hl.1 rfl (Nat.le_of_ble_eq_true rfl) dL_law_1328 ⟨(Nat.le_of_ble_eq_true rfl), (Nat.le_of_ble_eq_true rfl)⟩ (fun r2 τ1 H1 locs hr2 hP2 hk9 hS => ?_)
  have hP1 := xkeep hP1 (fun i j hi hj e9 => hdis i j hi hj e9) hk9
  obtain ⟨hr2, hs2⟩ := hr2
  have hres : r1 = r2 := by rw [hr1, hr2]; simp only [xRw_F hR, xRw_L hR, xRw_Y hR, xRw_c hR, xRw_s hR, hR.2.1.1, hR.2.2.1.1, hR.2.2.1.2.1, hR.2.2.1.2.2.1, hR.2.2.2.1.1, hR.2.2.2.1.2.1, hR.2.2.2.1.2.2.1, hR.2.2.2.2.1, xpm_sound_eq, xpm_chance_eq, xpm_could_eq]
  have hrel2 : xRel σ τ1 := (xRel_Ms hrel hs2)
  refine lv_icmp_eq (tgt := 1350) hx hb dL_law_1331 (by decide) (fun _ => ?_) (fun q => absurd hres q)
  exact kk _ _ _ _ ⟨hP1, hP2, hS, hrel2⟩
set_option maxHeartbeats 4000000 in
set_option maxRecDepth 100000 in
theorem law_digest {p : Program} {l : Launch} {e : Env} {s : State} {m : MethodId} {below : List Frame} {meth : Method} {c : Code} {b L : Nat} {xs : Nat → Int32} {D : va_G} {K : Nat → ClassId} {α β : Nat → Nat} (F : xLF p s m meth c b L xs D K α β) {σ τ : Nat → Nat → Int32} {H : Heap} {locs : List Loc} {ls : Array Slot} {i : Nat} (hv : xLI D K α β s σ τ H locs) (hl : lv_has ls 4 [(3, .int (nI i)), (2, .ref (β 0)), (1, .ref (α 0)), (0, .ref b)]) (hi : i + 6 ≤ L) (kk : ∀ (σ2 τ2 : Nat → Nat → Int32) (H2 : Heap) (locs2 : List Loc), xLI D K α β s σ2 τ2 H2 locs2 → W p l e room_1 s m #[Value.ref b] below meth c H2 locs2 62 1210 (lw_Z below #[Value.ref b] s) (F0 m 1350 ls [])) : W p l e room_1 s m #[Value.ref b] below meth c H locs 62 1210 (lw_Z below #[Value.ref b] s) (F0 m 1336 ls []) := by
  obtain ⟨S, hr, hX, hbl, hL, hK, hI1, hI2, hα, hβ, hdis⟩ := F
  obtain ⟨hP1, hP2, hS, hrel⟩ := hv
  have hx := S.1
  have hb := S.2.1
  have hR := hrel.2
  have hbA : ¬ (fun q : Nat => s.heap.size ≤ q) b := Nat.not_le.mpr hbl
  have hA1 : ∀ q, xw_R 42 α q → (fun q : Nat => s.heap.size ≤ q) q := fun q ⟨k, hk, e9⟩ => e9 ▸ hα k hk
  have hA2 : ∀ q, xw_R 20 β q → (fun q : Nat => s.heap.size ≤ q) q := fun q ⟨k, hk, e9⟩ => e9 ▸ hβ k hk
  refine lv_aload_n hx hb dL_law_1336 rfl (lv_at hl 2 rfl) ?_
  refine x_cVWl (As := []) (rest := []) S hK hP1 hS hA1 0 (by omega) rfl rfl (c_X8_digest l σ hI1  hrel.1) (x_cwV (n0 := 0) (cq := (RX8, TX8, 9)) S gL_law_X8_digest rfl (by decide +kernel) ⟨(Nat.le_of_ble_eq_true rfl), (Nat.le_of_ble_eq_true rfl)⟩) rfl hl.1 rfl (Nat.le_of_ble_eq_true rfl) dL_law_1337 ⟨(Nat.le_of_ble_eq_true rfl), (Nat.le_of_ble_eq_true rfl)⟩ (fun r1 σ1 H1 locs hr1 hP1 hk9 hS => ?_)
  have hP2 := xkeep hP2 (fun i j hi hj e9 => hdis j i hj hi e9.symm) hk9
  refine lv_aload_n hx hb dL_law_1340 rfl (lv_at hl 1 rfl) ?_
  refine x_cVWl (As := []) (rest := [.long r1]) S hK hP2 hS hA2 0 (by omega) rfl rfl (c_X9_digest l τ hI2  (xRel_IM hrel)) (x_cwV (n0 := 0) (cq := (RX9, TX9, 24)) S gL_law_X9_digest rfl (by decide +kernel) ⟨(Nat.le_of_ble_eq_true rfl), (Nat.le_of_ble_eq_true rfl)⟩) rfl hl.1 rfl (Nat.le_of_ble_eq_true rfl) dL_law_1341 ⟨(Nat.le_of_ble_eq_true rfl), (Nat.le_of_ble_eq_true rfl)⟩ (fun r2 τ1 H1 locs hr2 hP2 hk9 hS => ?_)
  have hP1 := xkeep hP1 (fun i j hi hj e9 => hdis i j hi hj e9) hk9
  refine W.lcmp hx hb dL_law_1344 ?_
  obtain ⟨hr1, hs1⟩ := hr1
  obtain ⟨hr2, hs2⟩ := hr2
  have hres : r1 = r2 := by rw [hr1, hr2]; simp only [xRw_F hR, xRw_L hR, xRw_Y hR, xRw_c hR, xRw_s hR, hR.2.1.1, hR.2.2.1.1, hR.2.2.1.2.1, hR.2.2.1.2.2.1, hR.2.2.2.1.1, hR.2.2.2.1.2.1, hR.2.2.2.1.2.2.1, hR.2.2.2.2.1, xpm_sound_eq, xpm_chance_eq, xpm_could_eq]
  have hrel2 : xRel σ1 τ1 := (xRel_Ms (xRel_Cs hrel hs1) hs2)
  refine lv_if_eq (tgt := 1350) hx hb dL_law_1345 (by decide) (fun _ => ?_) (fun q => absurd ((lg_cmp_eq _ _).mpr hres) q)
  exact kk _ _ _ _ ⟨hP1, hP2, hS, hrel2⟩

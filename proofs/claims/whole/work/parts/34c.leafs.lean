set_option maxHeartbeats 8000000 in
set_option maxRecDepth 100000 in
theorem c_X1_init (l : Launch) {D : va_G} {K : Nat → ClassId} (h0 sz : Nat) : Met l yX1_init wsX1_init (xrc 1 1 90) (va_Pc [.ref h0] (xcP D K h0 sz (.inr (1, [.null, .int 0, .int 0, .int 0])))) (xcQ D h0 sz (fun u : Nat => True) (fun u => [(h0, .inr (1, [.ref u, .int (nI 0), .int (nI 0), .int (-1)])), (u, .inl (K 0, 90, .inl (fun _ => 0)))])) 1 90 (xcA h0 sz) := by
  refine Met.ofW (cc := cX1_init) (maxL := 1) (ret := none) (by decide) rfl ?_
  intro p e s m args below meth c s₁ B hml hv
  obtain ⟨rfl, hsz, hKI, hP⟩ := hv
  subst hsz
  have S : CallFix p m c cX1_init 1 s _ wsX1_init RX1 := ⟨B.exec, B.bytes, hml, findClass_of_methodNamed B.named, atoms_spec (ws := wsX1_init) B.pre⟩
  have hx := S.1
  have hb := S.2.1
  have hr := B.returns
  have hlocks := B.notSynchronized
  have hin2 : meth.name = "<init>" := (name_of_methodNamed B.named B.method).1
  have hK := hKI.1
  have hD := xcD (h0 := h0) (sz := s.heap.size) (e0 := .inr (1, [.null, .int 0, .int 0, .int 0]))
  have hA : ∀ q : Nat, s.heap.size ≤ q → xcA h0 s.heap.size q := fun q h => Or.inr h
  have hS : va_S (xcA h0 s.heap.size) s.heap s.heap [] := va_S.rf
  have hl := lv_entry ([.ref h0]) (n := 1) (Nat.le_of_ble_eq_true rfl)
  rw [lg_entry_eq]
  generalize (lg_sl ([.ref h0]) ++ List.replicate (1 - (lg_sl ([.ref h0])).length) Slot.unset).toArray = ls at hl ⊢
  have hl : lv_has ls 1 [(0, .ref h0)] := hl
  refine lv_aload_n hx hb dX1_init_0 rfl (lv_at hl 0 rfl) ?_
  refine W.objInit hx hb S.2.2.2.1 (S.2.2.2.2 (.methodLink RX1 3 objectInit) (List.mem_of_getElem? (i := 1) rfl)) (S.2.2.2.2 (.instanceMethod objectInit) (List.mem_of_getElem? (i := 2) rfl)) (S.2.2.2.2 (.code objectInit ⟨#[0xb1]⟩ 1 none) (List.mem_of_getElem? (i := 3) rfl)) rfl (by rw [hml]; exact hl.1) rfl dX1_init_1 (Nat.le_of_ble_eq_true rfl) (Nat.le_of_ble_eq_true rfl) ?_
  refine W.eq (g2 := F0 m 4 ls []) rfl ?_
  refine lv_aload_n hx hb dX1_init_4 rfl (lv_at hl 0 rfl) ?_
  refine lv_bipush (v := (nI 90)) hx hb dX1_init_5 (by decide) ?_
  refine x_newaI S (List.mem_of_getElem? (i := 4) rfl) hK hP hD hS hA 90 (nI_pos (by decide)) (nI_clamp (by decide)) (by decide) (Nat.le_of_ble_eq_true rfl) (Nat.le_of_ble_eq_true rfl) dX1_init_7 (fun q1 H hPn hDn hSn => ?_)
  clear hP hD hS
  have hP : va_P D vwCl [(h0, .inr (1, [.null, .int 0, .int 0, .int 0])), (q1, .inl (K 0, 90, .inl (fun _ => 0)))] H := hPn
  have hD : va_D (xcA h0 s.heap.size) [(h0, .inr (1, [.null, .int 0, .int 0, .int 0])), (q1, .inl (K 0, 90, .inl (fun _ => 0)))] := hDn
  have hS := hSn
  clear hPn hDn hSn
  refine va_putF hx hb S.2.2.2.2 (fun w h => List.mem_cons_of_mem _ (List.mem_append_right _ h)) tyX1 tyX1_ok nmX1 S.2.2.2.1 hK.1 hP hD hS 0 rfl rfl 0 (by decide) (S.2.2.2.2 _ (List.mem_of_getElem? (i := 5) rfl)) (fun _ h => h) rfl hin2 rfl (ty := .array .int) (v := .ref q1) (by decide +kernel) rfl rfl (Nat.le_of_ble_eq_true rfl) dX1_init_9 (fun H locs hPn hDn hSn => ?_)
  clear hP hD hS
  have hP : va_P D vwCl [(h0, .inr (1, [.ref q1, .int 0, .int 0, .int 0])), (q1, .inl (K 0, 90, .inl (fun _ => 0)))] H := hPn
  have hD : va_D (xcA h0 s.heap.size) [(h0, .inr (1, [.ref q1, .int 0, .int 0, .int 0])), (q1, .inl (K 0, 90, .inl (fun _ => 0)))] := hDn
  have hS := hSn
  clear hPn hDn hSn
  refine lv_aload_n hx hb dX1_init_12 rfl (lv_at hl 0 rfl) ?_
  refine lv_iconst (v := (nI 0)) hx hb dX1_init_13 (by decide) ?_
  refine va_put hx hb S.2.2.2.2 (fun w h => List.mem_cons_of_mem _ (List.mem_append_right _ h)) tyX1 tyX1_ok nmX1 S.2.2.2.1 hK.1 hP hD hS 0 rfl rfl 1 (by decide) (S.2.2.2.2 _ (List.mem_of_getElem? (i := 6) rfl)) (fun _ h => h) rfl (ty := .int) (v := .int (nI 0)) (by decide +kernel) rfl rfl (Nat.le_of_ble_eq_true rfl) dX1_init_14 (fun H locs hPn hDn hSn => ?_)
  clear hP hD hS
  have hP : va_P D vwCl [(h0, .inr (1, [.ref q1, .int (nI 0), .int 0, .int 0])), (q1, .inl (K 0, 90, .inl (fun _ => 0)))] H := hPn
  have hD : va_D (xcA h0 s.heap.size) [(h0, .inr (1, [.ref q1, .int (nI 0), .int 0, .int 0])), (q1, .inl (K 0, 90, .inl (fun _ => 0)))] := hDn
  have hS := hSn
  clear hPn hDn hSn
  refine lv_aload_n hx hb dX1_init_17 rfl (lv_at hl 0 rfl) ?_
  refine lv_iconst (v := (nI 0)) hx hb dX1_init_18 (by decide) ?_
  refine va_put hx hb S.2.2.2.2 (fun w h => List.mem_cons_of_mem _ (List.mem_append_right _ h)) tyX1 tyX1_ok nmX1 S.2.2.2.1 hK.1 hP hD hS 0 rfl rfl 2 (by decide) (S.2.2.2.2 _ (List.mem_of_getElem? (i := 7) rfl)) (fun _ h => h) rfl (ty := .int) (v := .int (nI 0)) (by decide +kernel) rfl rfl (Nat.le_of_ble_eq_true rfl) dX1_init_19 (fun H locs hPn hDn hSn => ?_)
  clear hP hD hS
  have hP : va_P D vwCl [(h0, .inr (1, [.ref q1, .int (nI 0), .int (nI 0), .int 0])), (q1, .inl (K 0, 90, .inl (fun _ => 0)))] H := hPn
  have hD : va_D (xcA h0 s.heap.size) [(h0, .inr (1, [.ref q1, .int (nI 0), .int (nI 0), .int 0])), (q1, .inl (K 0, 90, .inl (fun _ => 0)))] := hDn
  have hS := hSn
  clear hPn hDn hSn
  refine lv_aload_n hx hb dX1_init_22 rfl (lv_at hl 0 rfl) ?_
  refine lv_iconst (v := (-1)) hx hb dX1_init_23 (by decide) ?_
  refine va_put hx hb S.2.2.2.2 (fun w h => List.mem_cons_of_mem _ (List.mem_append_right _ h)) tyX1 tyX1_ok nmX1 S.2.2.2.1 hK.1 hP hD hS 0 rfl rfl 3 (by decide) (S.2.2.2.2 _ (List.mem_of_getElem? (i := 8) rfl)) (fun _ h => h) rfl (ty := .int) (v := .int (-1)) (by decide +kernel) rfl rfl (Nat.le_of_ble_eq_true rfl) dX1_init_24 (fun H locs hPn hDn hSn => ?_)
  clear hP hD hS
  have hP : va_P D vwCl [(h0, .inr (1, [.ref q1, .int (nI 0), .int (nI 0), .int (-1)])), (q1, .inl (K 0, 90, .inl (fun _ => 0)))] H := hPn
  have hD : va_D (xcA h0 s.heap.size) [(h0, .inr (1, [.ref q1, .int (nI 0), .int (nI 0), .int (-1)])), (q1, .inl (K 0, 90, .inl (fun _ => 0)))] := hDn
  have hS := hSn
  clear hPn hDn hSn
  exact W.vret hx hb hr (fun t ht hW => ⟨⟨q1, rfl, trivial, by rw [ht]; exact hP, hD⟩, hS.F ht⟩) hS.2.2 dX1_init_27
set_option maxHeartbeats 8000000 in
set_option maxRecDepth 100000 in
theorem c_X2_init (l : Launch) {D : va_G} {K : Nat → ClassId} (h0 sz : Nat) (a1 : Nat) : Met l yX2_init wsX2_init (xrc 1 3 36) (va_Pc [.ref h0, .ref a1] (xcP D K h0 sz (.inr (2, [.null, .null, .null, .null, .int 0])))) (xcQ D h0 sz (fun u : Nat × Nat × Nat => True) (fun u => [(h0, .inr (2, [.ref a1, .ref u.1, .ref u.2.1, .ref u.2.2, .int (nI 0)])), (u.1, .inl (K 0, 12, .inl (fun _ => 0))), (u.2.1, .inl (K 0, 12, .inl (fun _ => 0))), (u.2.2, .inl (K 0, 12, .inl (fun _ => 0)))])) 3 36 (xcA h0 sz) := by
  refine Met.ofW (cc := cX2_init) (maxL := 2) (ret := none) (by decide) rfl ?_
  intro p e s m args below meth c s₁ B hml hv
  obtain ⟨rfl, hsz, hKI, hP⟩ := hv
  subst hsz
  have S : CallFix p m c cX2_init 2 s _ wsX2_init RX2 := ⟨B.exec, B.bytes, hml, findClass_of_methodNamed B.named, atoms_spec (ws := wsX2_init) B.pre⟩
  have hx := S.1
  have hb := S.2.1
  have hr := B.returns
  have hlocks := B.notSynchronized
  have hin2 : meth.name = "<init>" := (name_of_methodNamed B.named B.method).1
  have hK := hKI.1
  have hD := xcD (h0 := h0) (sz := s.heap.size) (e0 := .inr (2, [.null, .null, .null, .null, .int 0]))
  have hA : ∀ q : Nat, s.heap.size ≤ q → xcA h0 s.heap.size q := fun q h => Or.inr h
  have hS : va_S (xcA h0 s.heap.size) s.heap s.heap [] := va_S.rf
  have hl := lv_entry ([.ref h0, .ref a1]) (n := 2) (Nat.le_of_ble_eq_true rfl)
  rw [lg_entry_eq]
  generalize (lg_sl ([.ref h0, .ref a1]) ++ List.replicate (2 - (lg_sl ([.ref h0, .ref a1])).length) Slot.unset).toArray = ls at hl ⊢
  have hl : lv_has ls 2 [(0, .ref h0), (1, .ref a1)] := hl
  refine lv_aload_n hx hb dX2_init_0 rfl (lv_at hl 0 rfl) ?_
  refine W.objInit hx hb S.2.2.2.1 (S.2.2.2.2 (.methodLink RX2 1 objectInit) (List.mem_of_getElem? (i := 1) rfl)) (S.2.2.2.2 (.instanceMethod objectInit) (List.mem_of_getElem? (i := 2) rfl)) (S.2.2.2.2 (.code objectInit ⟨#[0xb1]⟩ 1 none) (List.mem_of_getElem? (i := 3) rfl)) rfl (by rw [hml]; exact hl.1) rfl dX2_init_1 (Nat.le_of_ble_eq_true rfl) (Nat.le_of_ble_eq_true rfl) ?_
  refine W.eq (g2 := F0 m 4 ls []) rfl ?_
  refine lv_aload_n hx hb dX2_init_4 rfl (lv_at hl 0 rfl) ?_
  refine lv_bipush (v := (nI 12)) hx hb dX2_init_5 (by decide) ?_
  refine x_newaI S (List.mem_of_getElem? (i := 4) rfl) hK hP hD hS hA 12 (nI_pos (by decide)) (nI_clamp (by decide)) (by decide) (Nat.le_of_ble_eq_true rfl) (Nat.le_of_ble_eq_true rfl) dX2_init_7 (fun q1 H hPn hDn hSn => ?_)
  clear hP hD hS
  have hP : va_P D vwCl [(h0, .inr (2, [.null, .null, .null, .null, .int 0])), (q1, .inl (K 0, 12, .inl (fun _ => 0)))] H := hPn
  have hD : va_D (xcA h0 s.heap.size) [(h0, .inr (2, [.null, .null, .null, .null, .int 0])), (q1, .inl (K 0, 12, .inl (fun _ => 0)))] := hDn
  have hS := hSn
  clear hPn hDn hSn
  refine va_putF hx hb S.2.2.2.2 (fun w h => List.mem_cons_of_mem _ (List.mem_append_right _ h)) tyX2 tyX2_ok nmX2 S.2.2.2.1 hK.1 hP hD hS 0 rfl rfl 1 (by decide) (S.2.2.2.2 _ (List.mem_of_getElem? (i := 5) rfl)) (fun _ h => h) rfl hin2 rfl (ty := .array .int) (v := .ref q1) (by decide +kernel) rfl rfl (Nat.le_of_ble_eq_true rfl) dX2_init_9 (fun H locs hPn hDn hSn => ?_)
  clear hP hD hS
  have hP : va_P D vwCl [(h0, .inr (2, [.null, .ref q1, .null, .null, .int 0])), (q1, .inl (K 0, 12, .inl (fun _ => 0)))] H := hPn
  have hD : va_D (xcA h0 s.heap.size) [(h0, .inr (2, [.null, .ref q1, .null, .null, .int 0])), (q1, .inl (K 0, 12, .inl (fun _ => 0)))] := hDn
  have hS := hSn
  clear hPn hDn hSn
  refine lv_aload_n hx hb dX2_init_12 rfl (lv_at hl 0 rfl) ?_
  refine lv_bipush (v := (nI 12)) hx hb dX2_init_13 (by decide) ?_
  refine x_newaI S (List.mem_of_getElem? (i := 4) rfl) hK hP hD hS hA 12 (nI_pos (by decide)) (nI_clamp (by decide)) (by decide) (Nat.le_of_ble_eq_true rfl) (Nat.le_of_ble_eq_true rfl) dX2_init_15 (fun q2 H hPn hDn hSn => ?_)
  clear hP hD hS
  have hP : va_P D vwCl [(h0, .inr (2, [.null, .ref q1, .null, .null, .int 0])), (q1, .inl (K 0, 12, .inl (fun _ => 0))), (q2, .inl (K 0, 12, .inl (fun _ => 0)))] H := hPn
  have hD : va_D (xcA h0 s.heap.size) [(h0, .inr (2, [.null, .ref q1, .null, .null, .int 0])), (q1, .inl (K 0, 12, .inl (fun _ => 0))), (q2, .inl (K 0, 12, .inl (fun _ => 0)))] := hDn
  have hS := hSn
  clear hPn hDn hSn
  refine va_putF hx hb S.2.2.2.2 (fun w h => List.mem_cons_of_mem _ (List.mem_append_right _ h)) tyX2 tyX2_ok nmX2 S.2.2.2.1 hK.1 hP hD hS 0 rfl rfl 2 (by decide) (S.2.2.2.2 _ (List.mem_of_getElem? (i := 6) rfl)) (fun _ h => h) rfl hin2 rfl (ty := .array .int) (v := .ref q2) (by decide +kernel) rfl rfl (Nat.le_of_ble_eq_true rfl) dX2_init_17 (fun H locs hPn hDn hSn => ?_)
  clear hP hD hS
  have hP : va_P D vwCl [(h0, .inr (2, [.null, .ref q1, .ref q2, .null, .int 0])), (q1, .inl (K 0, 12, .inl (fun _ => 0))), (q2, .inl (K 0, 12, .inl (fun _ => 0)))] H := hPn
  have hD : va_D (xcA h0 s.heap.size) [(h0, .inr (2, [.null, .ref q1, .ref q2, .null, .int 0])), (q1, .inl (K 0, 12, .inl (fun _ => 0))), (q2, .inl (K 0, 12, .inl (fun _ => 0)))] := hDn
  have hS := hSn
  clear hPn hDn hSn
  refine lv_aload_n hx hb dX2_init_20 rfl (lv_at hl 0 rfl) ?_
  refine lv_bipush (v := (nI 12)) hx hb dX2_init_21 (by decide) ?_
  refine x_newaI S (List.mem_of_getElem? (i := 4) rfl) hK hP hD hS hA 12 (nI_pos (by decide)) (nI_clamp (by decide)) (by decide) (Nat.le_of_ble_eq_true rfl) (Nat.le_of_ble_eq_true rfl) dX2_init_23 (fun q3 H hPn hDn hSn => ?_)
  clear hP hD hS
  have hP : va_P D vwCl [(h0, .inr (2, [.null, .ref q1, .ref q2, .null, .int 0])), (q1, .inl (K 0, 12, .inl (fun _ => 0))), (q2, .inl (K 0, 12, .inl (fun _ => 0))), (q3, .inl (K 0, 12, .inl (fun _ => 0)))] H := hPn
  have hD : va_D (xcA h0 s.heap.size) [(h0, .inr (2, [.null, .ref q1, .ref q2, .null, .int 0])), (q1, .inl (K 0, 12, .inl (fun _ => 0))), (q2, .inl (K 0, 12, .inl (fun _ => 0))), (q3, .inl (K 0, 12, .inl (fun _ => 0)))] := hDn
  have hS := hSn
  clear hPn hDn hSn
  refine va_putF hx hb S.2.2.2.2 (fun w h => List.mem_cons_of_mem _ (List.mem_append_right _ h)) tyX2 tyX2_ok nmX2 S.2.2.2.1 hK.1 hP hD hS 0 rfl rfl 3 (by decide) (S.2.2.2.2 _ (List.mem_of_getElem? (i := 7) rfl)) (fun _ h => h) rfl hin2 rfl (ty := .array .int) (v := .ref q3) (by decide +kernel) rfl rfl (Nat.le_of_ble_eq_true rfl) dX2_init_25 (fun H locs hPn hDn hSn => ?_)
  clear hP hD hS
  have hP : va_P D vwCl [(h0, .inr (2, [.null, .ref q1, .ref q2, .ref q3, .int 0])), (q1, .inl (K 0, 12, .inl (fun _ => 0))), (q2, .inl (K 0, 12, .inl (fun _ => 0))), (q3, .inl (K 0, 12, .inl (fun _ => 0)))] H := hPn
  have hD : va_D (xcA h0 s.heap.size) [(h0, .inr (2, [.null, .ref q1, .ref q2, .ref q3, .int 0])), (q1, .inl (K 0, 12, .inl (fun _ => 0))), (q2, .inl (K 0, 12, .inl (fun _ => 0))), (q3, .inl (K 0, 12, .inl (fun _ => 0)))] := hDn
  have hS := hSn
  clear hPn hDn hSn
  refine lv_aload_n hx hb dX2_init_28 rfl (lv_at hl 0 rfl) ?_
  refine lv_iconst (v := (nI 0)) hx hb dX2_init_29 (by decide) ?_
  refine va_put hx hb S.2.2.2.2 (fun w h => List.mem_cons_of_mem _ (List.mem_append_right _ h)) tyX2 tyX2_ok nmX2 S.2.2.2.1 hK.1 hP hD hS 0 rfl rfl 4 (by decide) (S.2.2.2.2 _ (List.mem_of_getElem? (i := 8) rfl)) (fun _ h => h) rfl (ty := .int) (v := .int (nI 0)) (by decide +kernel) rfl rfl (Nat.le_of_ble_eq_true rfl) dX2_init_30 (fun H locs hPn hDn hSn => ?_)
  clear hP hD hS
  have hP : va_P D vwCl [(h0, .inr (2, [.null, .ref q1, .ref q2, .ref q3, .int (nI 0)])), (q1, .inl (K 0, 12, .inl (fun _ => 0))), (q2, .inl (K 0, 12, .inl (fun _ => 0))), (q3, .inl (K 0, 12, .inl (fun _ => 0)))] H := hPn
  have hD : va_D (xcA h0 s.heap.size) [(h0, .inr (2, [.null, .ref q1, .ref q2, .ref q3, .int (nI 0)])), (q1, .inl (K 0, 12, .inl (fun _ => 0))), (q2, .inl (K 0, 12, .inl (fun _ => 0))), (q3, .inl (K 0, 12, .inl (fun _ => 0)))] := hDn
  have hS := hSn
  clear hPn hDn hSn
  refine lv_aload_n hx hb dX2_init_33 rfl (lv_at hl 0 rfl) ?_
  refine lv_aload_n hx hb dX2_init_34 rfl (lv_at hl 1 rfl) ?_
  refine va_putF hx hb S.2.2.2.2 (fun w h => List.mem_cons_of_mem _ (List.mem_append_right _ h)) tyX2 tyX2_ok nmX2 S.2.2.2.1 hK.1 hP hD hS 0 rfl rfl 0 (by decide) (S.2.2.2.2 _ (List.mem_of_getElem? (i := 9) rfl)) (fun _ h => h) rfl hin2 rfl (ty := .object "SailAsAnother$Book") (v := .ref a1) (by decide +kernel) rfl rfl (Nat.le_of_ble_eq_true rfl) dX2_init_35 (fun H locs hPn hDn hSn => ?_)
  clear hP hD hS
  have hP : va_P D vwCl [(h0, .inr (2, [.ref a1, .ref q1, .ref q2, .ref q3, .int (nI 0)])), (q1, .inl (K 0, 12, .inl (fun _ => 0))), (q2, .inl (K 0, 12, .inl (fun _ => 0))), (q3, .inl (K 0, 12, .inl (fun _ => 0)))] H := hPn
  have hD : va_D (xcA h0 s.heap.size) [(h0, .inr (2, [.ref a1, .ref q1, .ref q2, .ref q3, .int (nI 0)])), (q1, .inl (K 0, 12, .inl (fun _ => 0))), (q2, .inl (K 0, 12, .inl (fun _ => 0))), (q3, .inl (K 0, 12, .inl (fun _ => 0)))] := hDn
  have hS := hSn
  clear hPn hDn hSn
  exact W.vret hx hb hr (fun t ht hW => ⟨⟨(q1, q2, q3), rfl, trivial, by rw [ht]; exact hP, hD⟩, hS.F ht⟩) hS.2.2 dX2_init_38
set_option maxHeartbeats 8000000 in
set_option maxRecDepth 100000 in
theorem c_X3_init (l : Launch) {D : va_G} {K : Nat → ClassId} (h0 sz : Nat) : Met l yX3_init wsX3_init (xrc 1 3 134) (va_Pc [.ref h0] (xcP D K h0 sz (.inr (3, [.null, .null, .null])))) (xcQ D h0 sz (fun u : Nat × Nat × Nat => True) (fun u => [(h0, .inr (3, [.ref u.1, .ref u.2.1, .ref u.2.2])), (u.1, .inl (K 0, 6, .inl (fun _ => 0))), (u.2.1, .inl (K 0, 64, .inl (fun _ => 0))), (u.2.2, .inl (K 0, 64, .inl (fun _ => 0)))])) 3 134 (xcA h0 sz) := by
  refine Met.ofW (cc := cX3_init) (maxL := 1) (ret := none) (by decide) rfl ?_
  intro p e s m args below meth c s₁ B hml hv
  obtain ⟨rfl, hsz, hKI, hP⟩ := hv
  subst hsz
  have S : CallFix p m c cX3_init 1 s _ wsX3_init RX3 := ⟨B.exec, B.bytes, hml, findClass_of_methodNamed B.named, atoms_spec (ws := wsX3_init) B.pre⟩
  have hx := S.1
  have hb := S.2.1
  have hr := B.returns
  have hlocks := B.notSynchronized
  have hin2 : meth.name = "<init>" := (name_of_methodNamed B.named B.method).1
  have hK := hKI.1
  have hD := xcD (h0 := h0) (sz := s.heap.size) (e0 := .inr (3, [.null, .null, .null]))
  have hA : ∀ q : Nat, s.heap.size ≤ q → xcA h0 s.heap.size q := fun q h => Or.inr h
  have hS : va_S (xcA h0 s.heap.size) s.heap s.heap [] := va_S.rf
  have hl := lv_entry ([.ref h0]) (n := 1) (Nat.le_of_ble_eq_true rfl)
  rw [lg_entry_eq]
  generalize (lg_sl ([.ref h0]) ++ List.replicate (1 - (lg_sl ([.ref h0])).length) Slot.unset).toArray = ls at hl ⊢
  have hl : lv_has ls 1 [(0, .ref h0)] := hl
  refine lv_aload_n hx hb dX3_init_0 rfl (lv_at hl 0 rfl) ?_
  refine W.objInit hx hb S.2.2.2.1 (S.2.2.2.2 (.methodLink RX3 3 objectInit) (List.mem_of_getElem? (i := 1) rfl)) (S.2.2.2.2 (.instanceMethod objectInit) (List.mem_of_getElem? (i := 2) rfl)) (S.2.2.2.2 (.code objectInit ⟨#[0xb1]⟩ 1 none) (List.mem_of_getElem? (i := 3) rfl)) rfl (by rw [hml]; exact hl.1) rfl dX3_init_1 (Nat.le_of_ble_eq_true rfl) (Nat.le_of_ble_eq_true rfl) ?_
  refine W.eq (g2 := F0 m 4 ls []) rfl ?_
  refine lv_aload_n hx hb dX3_init_4 rfl (lv_at hl 0 rfl) ?_
  refine lv_bipush (v := (nI 6)) hx hb dX3_init_5 (by decide) ?_
  refine x_newaI S (List.mem_of_getElem? (i := 4) rfl) hK hP hD hS hA 6 (nI_pos (by decide)) (nI_clamp (by decide)) (by decide) (Nat.le_of_ble_eq_true rfl) (Nat.le_of_ble_eq_true rfl) dX3_init_7 (fun q1 H hPn hDn hSn => ?_)
  clear hP hD hS
  have hP : va_P D vwCl [(h0, .inr (3, [.null, .null, .null])), (q1, .inl (K 0, 6, .inl (fun _ => 0)))] H := hPn
  have hD : va_D (xcA h0 s.heap.size) [(h0, .inr (3, [.null, .null, .null])), (q1, .inl (K 0, 6, .inl (fun _ => 0)))] := hDn
  have hS := hSn
  clear hPn hDn hSn
  refine va_putF hx hb S.2.2.2.2 (fun w h => List.mem_cons_of_mem _ (List.mem_append_right _ h)) tyX3 tyX3_ok nmX3 S.2.2.2.1 hK.1 hP hD hS 0 rfl rfl 0 (by decide) (S.2.2.2.2 _ (List.mem_of_getElem? (i := 5) rfl)) (fun _ h => h) rfl hin2 rfl (ty := .array .int) (v := .ref q1) (by decide +kernel) rfl rfl (Nat.le_of_ble_eq_true rfl) dX3_init_9 (fun H locs hPn hDn hSn => ?_)
  clear hP hD hS
  have hP : va_P D vwCl [(h0, .inr (3, [.ref q1, .null, .null])), (q1, .inl (K 0, 6, .inl (fun _ => 0)))] H := hPn
  have hD : va_D (xcA h0 s.heap.size) [(h0, .inr (3, [.ref q1, .null, .null])), (q1, .inl (K 0, 6, .inl (fun _ => 0)))] := hDn
  have hS := hSn
  clear hPn hDn hSn
  refine lv_aload_n hx hb dX3_init_12 rfl (lv_at hl 0 rfl) ?_
  refine lv_bipush (v := (nI 64)) hx hb dX3_init_13 (by decide) ?_
  refine x_newaI S (List.mem_of_getElem? (i := 4) rfl) hK hP hD hS hA 64 (nI_pos (by decide)) (nI_clamp (by decide)) (by decide) (Nat.le_of_ble_eq_true rfl) (Nat.le_of_ble_eq_true rfl) dX3_init_15 (fun q2 H hPn hDn hSn => ?_)
  clear hP hD hS
  have hP : va_P D vwCl [(h0, .inr (3, [.ref q1, .null, .null])), (q1, .inl (K 0, 6, .inl (fun _ => 0))), (q2, .inl (K 0, 64, .inl (fun _ => 0)))] H := hPn
  have hD : va_D (xcA h0 s.heap.size) [(h0, .inr (3, [.ref q1, .null, .null])), (q1, .inl (K 0, 6, .inl (fun _ => 0))), (q2, .inl (K 0, 64, .inl (fun _ => 0)))] := hDn
  have hS := hSn
  clear hPn hDn hSn
  refine va_putF hx hb S.2.2.2.2 (fun w h => List.mem_cons_of_mem _ (List.mem_append_right _ h)) tyX3 tyX3_ok nmX3 S.2.2.2.1 hK.1 hP hD hS 0 rfl rfl 1 (by decide) (S.2.2.2.2 _ (List.mem_of_getElem? (i := 6) rfl)) (fun _ h => h) rfl hin2 rfl (ty := .array .int) (v := .ref q2) (by decide +kernel) rfl rfl (Nat.le_of_ble_eq_true rfl) dX3_init_17 (fun H locs hPn hDn hSn => ?_)
  clear hP hD hS
  have hP : va_P D vwCl [(h0, .inr (3, [.ref q1, .ref q2, .null])), (q1, .inl (K 0, 6, .inl (fun _ => 0))), (q2, .inl (K 0, 64, .inl (fun _ => 0)))] H := hPn
  have hD : va_D (xcA h0 s.heap.size) [(h0, .inr (3, [.ref q1, .ref q2, .null])), (q1, .inl (K 0, 6, .inl (fun _ => 0))), (q2, .inl (K 0, 64, .inl (fun _ => 0)))] := hDn
  have hS := hSn
  clear hPn hDn hSn
  refine lv_aload_n hx hb dX3_init_20 rfl (lv_at hl 0 rfl) ?_
  refine lv_bipush (v := (nI 64)) hx hb dX3_init_21 (by decide) ?_
  refine x_newaI S (List.mem_of_getElem? (i := 4) rfl) hK hP hD hS hA 64 (nI_pos (by decide)) (nI_clamp (by decide)) (by decide) (Nat.le_of_ble_eq_true rfl) (Nat.le_of_ble_eq_true rfl) dX3_init_23 (fun q3 H hPn hDn hSn => ?_)
  clear hP hD hS
  have hP : va_P D vwCl [(h0, .inr (3, [.ref q1, .ref q2, .null])), (q1, .inl (K 0, 6, .inl (fun _ => 0))), (q2, .inl (K 0, 64, .inl (fun _ => 0))), (q3, .inl (K 0, 64, .inl (fun _ => 0)))] H := hPn
  have hD : va_D (xcA h0 s.heap.size) [(h0, .inr (3, [.ref q1, .ref q2, .null])), (q1, .inl (K 0, 6, .inl (fun _ => 0))), (q2, .inl (K 0, 64, .inl (fun _ => 0))), (q3, .inl (K 0, 64, .inl (fun _ => 0)))] := hDn
  have hS := hSn
  clear hPn hDn hSn
  refine va_putF hx hb S.2.2.2.2 (fun w h => List.mem_cons_of_mem _ (List.mem_append_right _ h)) tyX3 tyX3_ok nmX3 S.2.2.2.1 hK.1 hP hD hS 0 rfl rfl 2 (by decide) (S.2.2.2.2 _ (List.mem_of_getElem? (i := 7) rfl)) (fun _ h => h) rfl hin2 rfl (ty := .array .int) (v := .ref q3) (by decide +kernel) rfl rfl (Nat.le_of_ble_eq_true rfl) dX3_init_25 (fun H locs hPn hDn hSn => ?_)
  clear hP hD hS
  have hP : va_P D vwCl [(h0, .inr (3, [.ref q1, .ref q2, .ref q3])), (q1, .inl (K 0, 6, .inl (fun _ => 0))), (q2, .inl (K 0, 64, .inl (fun _ => 0))), (q3, .inl (K 0, 64, .inl (fun _ => 0)))] H := hPn
  have hD : va_D (xcA h0 s.heap.size) [(h0, .inr (3, [.ref q1, .ref q2, .ref q3])), (q1, .inl (K 0, 6, .inl (fun _ => 0))), (q2, .inl (K 0, 64, .inl (fun _ => 0))), (q3, .inl (K 0, 64, .inl (fun _ => 0)))] := hDn
  have hS := hSn
  clear hPn hDn hSn
  exact W.vret hx hb hr (fun t ht hW => ⟨⟨(q1, q2, q3), rfl, trivial, by rw [ht]; exact hP, hD⟩, hS.F ht⟩) hS.2.2 dX3_init_28
set_option maxHeartbeats 8000000 in
set_option maxRecDepth 100000 in
theorem c_X5_init (l : Launch) {D : va_G} {K : Nat → ClassId} (h0 sz : Nat) : Met l yX5_init wsX5_init (xrc 1 1 48) (va_Pc [.ref h0] (xcP D K h0 sz (.inr (5, [.null, .int 0, .int 0, .int 0])))) (xcQ D h0 sz (fun u : Nat => True) (fun u => [(h0, .inr (5, [.ref u, .int (nI 1), .int (nI 0), .int (nI 0)])), (u, .inl (K 0, 48, .inl (fun _ => 0)))])) 1 48 (xcA h0 sz) := by
  refine Met.ofW (cc := cX5_init) (maxL := 1) (ret := none) (by decide) rfl ?_
  intro p e s m args below meth c s₁ B hml hv
  obtain ⟨rfl, hsz, hKI, hP⟩ := hv
  subst hsz
  have S : CallFix p m c cX5_init 1 s _ wsX5_init RX5 := ⟨B.exec, B.bytes, hml, findClass_of_methodNamed B.named, atoms_spec (ws := wsX5_init) B.pre⟩
  have hx := S.1
  have hb := S.2.1
  have hr := B.returns
  have hlocks := B.notSynchronized
  have hin2 : meth.name = "<init>" := (name_of_methodNamed B.named B.method).1
  have hK := hKI.1
  have hD := xcD (h0 := h0) (sz := s.heap.size) (e0 := .inr (5, [.null, .int 0, .int 0, .int 0]))
  have hA : ∀ q : Nat, s.heap.size ≤ q → xcA h0 s.heap.size q := fun q h => Or.inr h
  have hS : va_S (xcA h0 s.heap.size) s.heap s.heap [] := va_S.rf
  have hl := lv_entry ([.ref h0]) (n := 1) (Nat.le_of_ble_eq_true rfl)
  rw [lg_entry_eq]
  generalize (lg_sl ([.ref h0]) ++ List.replicate (1 - (lg_sl ([.ref h0])).length) Slot.unset).toArray = ls at hl ⊢
  have hl : lv_has ls 1 [(0, .ref h0)] := hl
  refine lv_aload_n hx hb dX5_init_0 rfl (lv_at hl 0 rfl) ?_
  refine W.objInit hx hb S.2.2.2.1 (S.2.2.2.2 (.methodLink RX5 3 objectInit) (List.mem_of_getElem? (i := 1) rfl)) (S.2.2.2.2 (.instanceMethod objectInit) (List.mem_of_getElem? (i := 2) rfl)) (S.2.2.2.2 (.code objectInit ⟨#[0xb1]⟩ 1 none) (List.mem_of_getElem? (i := 3) rfl)) rfl (by rw [hml]; exact hl.1) rfl dX5_init_1 (Nat.le_of_ble_eq_true rfl) (Nat.le_of_ble_eq_true rfl) ?_
  refine W.eq (g2 := F0 m 4 ls []) rfl ?_
  refine lv_aload_n hx hb dX5_init_4 rfl (lv_at hl 0 rfl) ?_
  refine lv_bipush (v := (nI 48)) hx hb dX5_init_5 (by decide) ?_
  refine x_newaI S (List.mem_of_getElem? (i := 4) rfl) hK hP hD hS hA 48 (nI_pos (by decide)) (nI_clamp (by decide)) (by decide) (Nat.le_of_ble_eq_true rfl) (Nat.le_of_ble_eq_true rfl) dX5_init_7 (fun q1 H hPn hDn hSn => ?_)
  clear hP hD hS
  have hP : va_P D vwCl [(h0, .inr (5, [.null, .int 0, .int 0, .int 0])), (q1, .inl (K 0, 48, .inl (fun _ => 0)))] H := hPn
  have hD : va_D (xcA h0 s.heap.size) [(h0, .inr (5, [.null, .int 0, .int 0, .int 0])), (q1, .inl (K 0, 48, .inl (fun _ => 0)))] := hDn
  have hS := hSn
  clear hPn hDn hSn
  refine va_putF hx hb S.2.2.2.2 (fun w h => List.mem_cons_of_mem _ (List.mem_append_right _ h)) tyX5 tyX5_ok nmX5 S.2.2.2.1 hK.1 hP hD hS 0 rfl rfl 0 (by decide) (S.2.2.2.2 _ (List.mem_of_getElem? (i := 5) rfl)) (fun _ h => h) rfl hin2 rfl (ty := .array .int) (v := .ref q1) (by decide +kernel) rfl rfl (Nat.le_of_ble_eq_true rfl) dX5_init_9 (fun H locs hPn hDn hSn => ?_)
  clear hP hD hS
  have hP : va_P D vwCl [(h0, .inr (5, [.ref q1, .int 0, .int 0, .int 0])), (q1, .inl (K 0, 48, .inl (fun _ => 0)))] H := hPn
  have hD : va_D (xcA h0 s.heap.size) [(h0, .inr (5, [.ref q1, .int 0, .int 0, .int 0])), (q1, .inl (K 0, 48, .inl (fun _ => 0)))] := hDn
  have hS := hSn
  clear hPn hDn hSn
  refine lv_aload_n hx hb dX5_init_12 rfl (lv_at hl 0 rfl) ?_
  refine lv_iconst (v := (nI 1)) hx hb dX5_init_13 (by decide) ?_
  refine va_put hx hb S.2.2.2.2 (fun w h => List.mem_cons_of_mem _ (List.mem_append_right _ h)) tyX5 tyX5_ok nmX5 S.2.2.2.1 hK.1 hP hD hS 0 rfl rfl 1 (by decide) (S.2.2.2.2 _ (List.mem_of_getElem? (i := 6) rfl)) (fun _ h => h) rfl (ty := .boolean) (v := .int (nI 1)) (by decide +kernel) rfl rfl (Nat.le_of_ble_eq_true rfl) dX5_init_14 (fun H locs hPn hDn hSn => ?_)
  clear hP hD hS
  have hP : va_P D vwCl [(h0, .inr (5, [.ref q1, .int (nI 1), .int 0, .int 0])), (q1, .inl (K 0, 48, .inl (fun _ => 0)))] H := hPn
  have hD : va_D (xcA h0 s.heap.size) [(h0, .inr (5, [.ref q1, .int (nI 1), .int 0, .int 0])), (q1, .inl (K 0, 48, .inl (fun _ => 0)))] := hDn
  have hS := hSn
  clear hPn hDn hSn
  refine lv_aload_n hx hb dX5_init_17 rfl (lv_at hl 0 rfl) ?_
  refine lv_iconst (v := (nI 0)) hx hb dX5_init_18 (by decide) ?_
  refine va_put hx hb S.2.2.2.2 (fun w h => List.mem_cons_of_mem _ (List.mem_append_right _ h)) tyX5 tyX5_ok nmX5 S.2.2.2.1 hK.1 hP hD hS 0 rfl rfl 2 (by decide) (S.2.2.2.2 _ (List.mem_of_getElem? (i := 7) rfl)) (fun _ h => h) rfl (ty := .int) (v := .int (nI 0)) (by decide +kernel) rfl rfl (Nat.le_of_ble_eq_true rfl) dX5_init_19 (fun H locs hPn hDn hSn => ?_)
  clear hP hD hS
  have hP : va_P D vwCl [(h0, .inr (5, [.ref q1, .int (nI 1), .int (nI 0), .int 0])), (q1, .inl (K 0, 48, .inl (fun _ => 0)))] H := hPn
  have hD : va_D (xcA h0 s.heap.size) [(h0, .inr (5, [.ref q1, .int (nI 1), .int (nI 0), .int 0])), (q1, .inl (K 0, 48, .inl (fun _ => 0)))] := hDn
  have hS := hSn
  clear hPn hDn hSn
  refine lv_aload_n hx hb dX5_init_22 rfl (lv_at hl 0 rfl) ?_
  refine lv_iconst (v := (nI 0)) hx hb dX5_init_23 (by decide) ?_
  refine va_put hx hb S.2.2.2.2 (fun w h => List.mem_cons_of_mem _ (List.mem_append_right _ h)) tyX5 tyX5_ok nmX5 S.2.2.2.1 hK.1 hP hD hS 0 rfl rfl 3 (by decide) (S.2.2.2.2 _ (List.mem_of_getElem? (i := 8) rfl)) (fun _ h => h) rfl (ty := .int) (v := .int (nI 0)) (by decide +kernel) rfl rfl (Nat.le_of_ble_eq_true rfl) dX5_init_24 (fun H locs hPn hDn hSn => ?_)
  clear hP hD hS
  have hP : va_P D vwCl [(h0, .inr (5, [.ref q1, .int (nI 1), .int (nI 0), .int (nI 0)])), (q1, .inl (K 0, 48, .inl (fun _ => 0)))] H := hPn
  have hD : va_D (xcA h0 s.heap.size) [(h0, .inr (5, [.ref q1, .int (nI 1), .int (nI 0), .int (nI 0)])), (q1, .inl (K 0, 48, .inl (fun _ => 0)))] := hDn
  have hS := hSn
  clear hPn hDn hSn
  exact W.vret hx hb hr (fun t ht hW => ⟨⟨q1, rfl, trivial, by rw [ht]; exact hP, hD⟩, hS.F ht⟩) hS.2.2 dX5_init_27
set_option maxHeartbeats 8000000 in
set_option maxRecDepth 100000 in
theorem c_X6_init (l : Launch) {D : va_G} {K : Nat → ClassId} (h0 sz : Nat) (a1 : Nat) : Met l yX6_init wsX6_init (xrc 1 3 24) (va_Pc [.ref h0, .ref a1] (xcP D K h0 sz (.inr (6, [.null, .null, .null, .null, .int 0])))) (xcQ D h0 sz (fun u : Nat × Nat × Nat => True) (fun u => [(h0, .inr (6, [.ref a1, .ref u.1, .ref u.2.1, .ref u.2.2, .int (nI 0)])), (u.1, .inl (K 0, 8, .inl (fun _ => 0))), (u.2.1, .inl (K 0, 8, .inl (fun _ => 0))), (u.2.2, .inl (K 0, 8, .inl (fun _ => 0)))])) 3 24 (xcA h0 sz) := by
  refine Met.ofW (cc := cX6_init) (maxL := 2) (ret := none) (by decide) rfl ?_
  intro p e s m args below meth c s₁ B hml hv
  obtain ⟨rfl, hsz, hKI, hP⟩ := hv
  subst hsz
  have S : CallFix p m c cX6_init 2 s _ wsX6_init RX6 := ⟨B.exec, B.bytes, hml, findClass_of_methodNamed B.named, atoms_spec (ws := wsX6_init) B.pre⟩
  have hx := S.1
  have hb := S.2.1
  have hr := B.returns
  have hlocks := B.notSynchronized
  have hin2 : meth.name = "<init>" := (name_of_methodNamed B.named B.method).1
  have hK := hKI.1
  have hD := xcD (h0 := h0) (sz := s.heap.size) (e0 := .inr (6, [.null, .null, .null, .null, .int 0]))
  have hA : ∀ q : Nat, s.heap.size ≤ q → xcA h0 s.heap.size q := fun q h => Or.inr h
  have hS : va_S (xcA h0 s.heap.size) s.heap s.heap [] := va_S.rf
  have hl := lv_entry ([.ref h0, .ref a1]) (n := 2) (Nat.le_of_ble_eq_true rfl)
  rw [lg_entry_eq]
  generalize (lg_sl ([.ref h0, .ref a1]) ++ List.replicate (2 - (lg_sl ([.ref h0, .ref a1])).length) Slot.unset).toArray = ls at hl ⊢
  have hl : lv_has ls 2 [(0, .ref h0), (1, .ref a1)] := hl
  refine lv_aload_n hx hb dX6_init_0 rfl (lv_at hl 0 rfl) ?_
  refine W.objInit hx hb S.2.2.2.1 (S.2.2.2.2 (.methodLink RX6 3 objectInit) (List.mem_of_getElem? (i := 1) rfl)) (S.2.2.2.2 (.instanceMethod objectInit) (List.mem_of_getElem? (i := 2) rfl)) (S.2.2.2.2 (.code objectInit ⟨#[0xb1]⟩ 1 none) (List.mem_of_getElem? (i := 3) rfl)) rfl (by rw [hml]; exact hl.1) rfl dX6_init_1 (Nat.le_of_ble_eq_true rfl) (Nat.le_of_ble_eq_true rfl) ?_
  refine W.eq (g2 := F0 m 4 ls []) rfl ?_
  refine lv_aload_n hx hb dX6_init_4 rfl (lv_at hl 0 rfl) ?_
  refine lv_bipush (v := (nI 8)) hx hb dX6_init_5 (by decide) ?_
  refine x_newaI S (List.mem_of_getElem? (i := 4) rfl) hK hP hD hS hA 8 (nI_pos (by decide)) (nI_clamp (by decide)) (by decide) (Nat.le_of_ble_eq_true rfl) (Nat.le_of_ble_eq_true rfl) dX6_init_7 (fun q1 H hPn hDn hSn => ?_)
  clear hP hD hS
  have hP : va_P D vwCl [(h0, .inr (6, [.null, .null, .null, .null, .int 0])), (q1, .inl (K 0, 8, .inl (fun _ => 0)))] H := hPn
  have hD : va_D (xcA h0 s.heap.size) [(h0, .inr (6, [.null, .null, .null, .null, .int 0])), (q1, .inl (K 0, 8, .inl (fun _ => 0)))] := hDn
  have hS := hSn
  clear hPn hDn hSn
  refine va_putF hx hb S.2.2.2.2 (fun w h => List.mem_cons_of_mem _ (List.mem_append_right _ h)) tyX6 tyX6_ok nmX6 S.2.2.2.1 hK.1 hP hD hS 0 rfl rfl 1 (by decide) (S.2.2.2.2 _ (List.mem_of_getElem? (i := 5) rfl)) (fun _ h => h) rfl hin2 rfl (ty := .array .int) (v := .ref q1) (by decide +kernel) rfl rfl (Nat.le_of_ble_eq_true rfl) dX6_init_9 (fun H locs hPn hDn hSn => ?_)
  clear hP hD hS
  have hP : va_P D vwCl [(h0, .inr (6, [.null, .ref q1, .null, .null, .int 0])), (q1, .inl (K 0, 8, .inl (fun _ => 0)))] H := hPn
  have hD : va_D (xcA h0 s.heap.size) [(h0, .inr (6, [.null, .ref q1, .null, .null, .int 0])), (q1, .inl (K 0, 8, .inl (fun _ => 0)))] := hDn
  have hS := hSn
  clear hPn hDn hSn
  refine lv_aload_n hx hb dX6_init_12 rfl (lv_at hl 0 rfl) ?_
  refine lv_bipush (v := (nI 8)) hx hb dX6_init_13 (by decide) ?_
  refine x_newaI S (List.mem_of_getElem? (i := 4) rfl) hK hP hD hS hA 8 (nI_pos (by decide)) (nI_clamp (by decide)) (by decide) (Nat.le_of_ble_eq_true rfl) (Nat.le_of_ble_eq_true rfl) dX6_init_15 (fun q2 H hPn hDn hSn => ?_)
  clear hP hD hS
  have hP : va_P D vwCl [(h0, .inr (6, [.null, .ref q1, .null, .null, .int 0])), (q1, .inl (K 0, 8, .inl (fun _ => 0))), (q2, .inl (K 0, 8, .inl (fun _ => 0)))] H := hPn
  have hD : va_D (xcA h0 s.heap.size) [(h0, .inr (6, [.null, .ref q1, .null, .null, .int 0])), (q1, .inl (K 0, 8, .inl (fun _ => 0))), (q2, .inl (K 0, 8, .inl (fun _ => 0)))] := hDn
  have hS := hSn
  clear hPn hDn hSn
  refine va_putF hx hb S.2.2.2.2 (fun w h => List.mem_cons_of_mem _ (List.mem_append_right _ h)) tyX6 tyX6_ok nmX6 S.2.2.2.1 hK.1 hP hD hS 0 rfl rfl 2 (by decide) (S.2.2.2.2 _ (List.mem_of_getElem? (i := 6) rfl)) (fun _ h => h) rfl hin2 rfl (ty := .array .int) (v := .ref q2) (by decide +kernel) rfl rfl (Nat.le_of_ble_eq_true rfl) dX6_init_17 (fun H locs hPn hDn hSn => ?_)
  clear hP hD hS
  have hP : va_P D vwCl [(h0, .inr (6, [.null, .ref q1, .ref q2, .null, .int 0])), (q1, .inl (K 0, 8, .inl (fun _ => 0))), (q2, .inl (K 0, 8, .inl (fun _ => 0)))] H := hPn
  have hD : va_D (xcA h0 s.heap.size) [(h0, .inr (6, [.null, .ref q1, .ref q2, .null, .int 0])), (q1, .inl (K 0, 8, .inl (fun _ => 0))), (q2, .inl (K 0, 8, .inl (fun _ => 0)))] := hDn
  have hS := hSn
  clear hPn hDn hSn
  refine lv_aload_n hx hb dX6_init_20 rfl (lv_at hl 0 rfl) ?_
  refine lv_bipush (v := (nI 8)) hx hb dX6_init_21 (by decide) ?_
  refine x_newaI S (List.mem_of_getElem? (i := 4) rfl) hK hP hD hS hA 8 (nI_pos (by decide)) (nI_clamp (by decide)) (by decide) (Nat.le_of_ble_eq_true rfl) (Nat.le_of_ble_eq_true rfl) dX6_init_23 (fun q3 H hPn hDn hSn => ?_)
  clear hP hD hS
  have hP : va_P D vwCl [(h0, .inr (6, [.null, .ref q1, .ref q2, .null, .int 0])), (q1, .inl (K 0, 8, .inl (fun _ => 0))), (q2, .inl (K 0, 8, .inl (fun _ => 0))), (q3, .inl (K 0, 8, .inl (fun _ => 0)))] H := hPn
  have hD : va_D (xcA h0 s.heap.size) [(h0, .inr (6, [.null, .ref q1, .ref q2, .null, .int 0])), (q1, .inl (K 0, 8, .inl (fun _ => 0))), (q2, .inl (K 0, 8, .inl (fun _ => 0))), (q3, .inl (K 0, 8, .inl (fun _ => 0)))] := hDn
  have hS := hSn
  clear hPn hDn hSn
  refine va_putF hx hb S.2.2.2.2 (fun w h => List.mem_cons_of_mem _ (List.mem_append_right _ h)) tyX6 tyX6_ok nmX6 S.2.2.2.1 hK.1 hP hD hS 0 rfl rfl 3 (by decide) (S.2.2.2.2 _ (List.mem_of_getElem? (i := 7) rfl)) (fun _ h => h) rfl hin2 rfl (ty := .array .int) (v := .ref q3) (by decide +kernel) rfl rfl (Nat.le_of_ble_eq_true rfl) dX6_init_25 (fun H locs hPn hDn hSn => ?_)
  clear hP hD hS
  have hP : va_P D vwCl [(h0, .inr (6, [.null, .ref q1, .ref q2, .ref q3, .int 0])), (q1, .inl (K 0, 8, .inl (fun _ => 0))), (q2, .inl (K 0, 8, .inl (fun _ => 0))), (q3, .inl (K 0, 8, .inl (fun _ => 0)))] H := hPn
  have hD : va_D (xcA h0 s.heap.size) [(h0, .inr (6, [.null, .ref q1, .ref q2, .ref q3, .int 0])), (q1, .inl (K 0, 8, .inl (fun _ => 0))), (q2, .inl (K 0, 8, .inl (fun _ => 0))), (q3, .inl (K 0, 8, .inl (fun _ => 0)))] := hDn
  have hS := hSn
  clear hPn hDn hSn
  refine lv_aload_n hx hb dX6_init_28 rfl (lv_at hl 0 rfl) ?_
  refine lv_iconst (v := (nI 0)) hx hb dX6_init_29 (by decide) ?_
  refine va_put hx hb S.2.2.2.2 (fun w h => List.mem_cons_of_mem _ (List.mem_append_right _ h)) tyX6 tyX6_ok nmX6 S.2.2.2.1 hK.1 hP hD hS 0 rfl rfl 4 (by decide) (S.2.2.2.2 _ (List.mem_of_getElem? (i := 8) rfl)) (fun _ h => h) rfl (ty := .int) (v := .int (nI 0)) (by decide +kernel) rfl rfl (Nat.le_of_ble_eq_true rfl) dX6_init_30 (fun H locs hPn hDn hSn => ?_)
  clear hP hD hS
  have hP : va_P D vwCl [(h0, .inr (6, [.null, .ref q1, .ref q2, .ref q3, .int (nI 0)])), (q1, .inl (K 0, 8, .inl (fun _ => 0))), (q2, .inl (K 0, 8, .inl (fun _ => 0))), (q3, .inl (K 0, 8, .inl (fun _ => 0)))] H := hPn
  have hD : va_D (xcA h0 s.heap.size) [(h0, .inr (6, [.null, .ref q1, .ref q2, .ref q3, .int (nI 0)])), (q1, .inl (K 0, 8, .inl (fun _ => 0))), (q2, .inl (K 0, 8, .inl (fun _ => 0))), (q3, .inl (K 0, 8, .inl (fun _ => 0)))] := hDn
  have hS := hSn
  clear hPn hDn hSn
  refine lv_aload_n hx hb dX6_init_33 rfl (lv_at hl 0 rfl) ?_
  refine lv_aload_n hx hb dX6_init_34 rfl (lv_at hl 1 rfl) ?_
  refine va_putF hx hb S.2.2.2.2 (fun w h => List.mem_cons_of_mem _ (List.mem_append_right _ h)) tyX6 tyX6_ok nmX6 S.2.2.2.1 hK.1 hP hD hS 0 rfl rfl 0 (by decide) (S.2.2.2.2 _ (List.mem_of_getElem? (i := 9) rfl)) (fun _ h => h) rfl hin2 rfl (ty := .object "SailAsAnother$Harbour") (v := .ref a1) (by decide +kernel) rfl rfl (Nat.le_of_ble_eq_true rfl) dX6_init_35 (fun H locs hPn hDn hSn => ?_)
  clear hP hD hS
  have hP : va_P D vwCl [(h0, .inr (6, [.ref a1, .ref q1, .ref q2, .ref q3, .int (nI 0)])), (q1, .inl (K 0, 8, .inl (fun _ => 0))), (q2, .inl (K 0, 8, .inl (fun _ => 0))), (q3, .inl (K 0, 8, .inl (fun _ => 0)))] H := hPn
  have hD : va_D (xcA h0 s.heap.size) [(h0, .inr (6, [.ref a1, .ref q1, .ref q2, .ref q3, .int (nI 0)])), (q1, .inl (K 0, 8, .inl (fun _ => 0))), (q2, .inl (K 0, 8, .inl (fun _ => 0))), (q3, .inl (K 0, 8, .inl (fun _ => 0)))] := hDn
  have hS := hSn
  clear hPn hDn hSn
  exact W.vret hx hb hr (fun t ht hW => ⟨⟨(q1, q2, q3), rfl, trivial, by rw [ht]; exact hP, hD⟩, hS.F ht⟩) hS.2.2 dX6_init_38
set_option maxHeartbeats 8000000 in
set_option maxRecDepth 100000 in
theorem c_X7_init (l : Launch) {D : va_G} {K : Nat → ClassId} (h0 sz : Nat) (a1 : Nat) (a2 : Nat) : Met l yX7_init wsX7_init (xrc 1 0 0) (va_Pc [.ref h0, .ref a1, .ref a2] (xcP D K h0 sz (.inr (7, [.null, .null])))) (xcQ D h0 sz (fun u : Unit => True) (fun u => [(h0, .inr (7, [.ref a1, .ref a2]))])) 0 0 (xcA h0 sz) := by
  refine Met.ofW (cc := cX7_init) (maxL := 3) (ret := none) (by decide) rfl ?_
  intro p e s m args below meth c s₁ B hml hv
  obtain ⟨rfl, hsz, hKI, hP⟩ := hv
  subst hsz
  have S : CallFix p m c cX7_init 3 s _ wsX7_init RX7 := ⟨B.exec, B.bytes, hml, findClass_of_methodNamed B.named, atoms_spec (ws := wsX7_init) B.pre⟩
  have hx := S.1
  have hb := S.2.1
  have hr := B.returns
  have hlocks := B.notSynchronized
  have hin2 : meth.name = "<init>" := (name_of_methodNamed B.named B.method).1
  have hK := hKI.1
  have hD := xcD (h0 := h0) (sz := s.heap.size) (e0 := .inr (7, [.null, .null]))
  have hA : ∀ q : Nat, s.heap.size ≤ q → xcA h0 s.heap.size q := fun q h => Or.inr h
  have hS : va_S (xcA h0 s.heap.size) s.heap s.heap [] := va_S.rf
  have hl := lv_entry ([.ref h0, .ref a1, .ref a2]) (n := 3) (Nat.le_of_ble_eq_true rfl)
  rw [lg_entry_eq]
  generalize (lg_sl ([.ref h0, .ref a1, .ref a2]) ++ List.replicate (3 - (lg_sl ([.ref h0, .ref a1, .ref a2])).length) Slot.unset).toArray = ls at hl ⊢
  have hl : lv_has ls 3 [(0, .ref h0), (1, .ref a1), (2, .ref a2)] := hl
  refine lv_aload_n hx hb dX7_init_0 rfl (lv_at hl 0 rfl) ?_
  refine W.objInit hx hb S.2.2.2.1 (S.2.2.2.2 (.methodLink RX7 3 objectInit) (List.mem_of_getElem? (i := 1) rfl)) (S.2.2.2.2 (.instanceMethod objectInit) (List.mem_of_getElem? (i := 2) rfl)) (S.2.2.2.2 (.code objectInit ⟨#[0xb1]⟩ 1 none) (List.mem_of_getElem? (i := 3) rfl)) rfl (by rw [hml]; exact hl.1) rfl dX7_init_1 (Nat.le_of_ble_eq_true rfl) (Nat.le_of_ble_eq_true rfl) ?_
  refine W.eq (g2 := F0 m 4 ls []) rfl ?_
  refine lv_aload_n hx hb dX7_init_4 rfl (lv_at hl 0 rfl) ?_
  refine lv_aload_n hx hb dX7_init_5 rfl (lv_at hl 1 rfl) ?_
  refine va_putF hx hb S.2.2.2.2 (fun w h => List.mem_cons_of_mem _ (List.mem_append_right _ h)) tyX7 tyX7_ok nmX7 S.2.2.2.1 hK.1 hP hD hS 0 rfl rfl 0 (by decide) (S.2.2.2.2 _ (List.mem_of_getElem? (i := 4) rfl)) (fun _ h => h) rfl hin2 rfl (ty := .object "SailAsAnother$Harbour") (v := .ref a1) (by decide +kernel) rfl rfl (Nat.le_of_ble_eq_true rfl) dX7_init_6 (fun H locs hPn hDn hSn => ?_)
  clear hP hD hS
  have hP : va_P D vwCl [(h0, .inr (7, [.ref a1, .null]))] H := hPn
  have hD : va_D (xcA h0 s.heap.size) [(h0, .inr (7, [.ref a1, .null]))] := hDn
  have hS := hSn
  clear hPn hDn hSn
  refine lv_aload_n hx hb dX7_init_9 rfl (lv_at hl 0 rfl) ?_
  refine lv_aload_n hx hb dX7_init_10 rfl (lv_at hl 2 rfl) ?_
  refine va_putF hx hb S.2.2.2.2 (fun w h => List.mem_cons_of_mem _ (List.mem_append_right _ h)) tyX7 tyX7_ok nmX7 S.2.2.2.1 hK.1 hP hD hS 0 rfl rfl 1 (by decide) (S.2.2.2.2 _ (List.mem_of_getElem? (i := 5) rfl)) (fun _ h => h) rfl hin2 rfl (ty := .object "SailAsAnother$Book") (v := .ref a2) (by decide +kernel) rfl rfl (Nat.le_of_ble_eq_true rfl) dX7_init_11 (fun H locs hPn hDn hSn => ?_)
  clear hP hD hS
  have hP : va_P D vwCl [(h0, .inr (7, [.ref a1, .ref a2]))] H := hPn
  have hD : va_D (xcA h0 s.heap.size) [(h0, .inr (7, [.ref a1, .ref a2]))] := hDn
  have hS := hSn
  clear hPn hDn hSn
  exact W.vret hx hb hr (fun t ht hW => ⟨⟨(), rfl, trivial, by rw [ht]; exact hP, hD⟩, hS.F ht⟩) hS.2.2 dX7_init_14
set_option maxHeartbeats 8000000 in
set_option maxRecDepth 100000 in
theorem c_X0_init (l : Launch) {D : va_G} {K : Nat → ClassId} (h0 sz : Nat) (a1 : Nat) : Met l yX0_init wsX0_init (xrc 1 8 106) (va_Pc [.ref h0, .ref a1] (xcP D K h0 sz (.inr (0, [.null, .null, .null])))) (xcQ D h0 sz (fun u : Nat × (Nat → Nat) × Nat => True) (fun u => [(h0, .inr (0, [.ref a1, .ref u.1, .ref u.2.2])), (u.1, .inl (K 1, 6, .inr (.inr (.inr (.inr (fun i => some (u.2.1 i))))))), ((u.2.1 0), .inl (K 0, 6, .inl (fun _ => 0))), ((u.2.1 1), .inl (K 0, 6, .inl (fun _ => 0))), ((u.2.1 2), .inl (K 0, 6, .inl (fun _ => 0))), ((u.2.1 3), .inl (K 0, 6, .inl (fun _ => 0))), ((u.2.1 4), .inl (K 0, 6, .inl (fun _ => 0))), ((u.2.1 5), .inl (K 0, 6, .inl (fun _ => 0))), (u.2.2, .inl (K 0, 64, .inl (fun _ => 0)))])) 8 106 (xcA h0 sz) := by
  refine Met.ofW (cc := cX0_init) (maxL := 2) (ret := none) (by decide) rfl ?_
  intro p e s m args below meth c s₁ B hml hv
  obtain ⟨rfl, hsz, hKI, hP⟩ := hv
  subst hsz
  have S : CallFix p m c cX0_init 2 s _ wsX0_init RX0 := ⟨B.exec, B.bytes, hml, findClass_of_methodNamed B.named, atoms_spec (ws := wsX0_init) B.pre⟩
  have hx := S.1
  have hb := S.2.1
  have hr := B.returns
  have hlocks := B.notSynchronized
  have hin2 : meth.name = "<init>" := (name_of_methodNamed B.named B.method).1
  have hK := hKI.1
  have hD := xcD (h0 := h0) (sz := s.heap.size) (e0 := .inr (0, [.null, .null, .null]))
  have hA : ∀ q : Nat, s.heap.size ≤ q → xcA h0 s.heap.size q := fun q h => Or.inr h
  have hS : va_S (xcA h0 s.heap.size) s.heap s.heap [] := va_S.rf
  have hl := lv_entry ([.ref h0, .ref a1]) (n := 2) (Nat.le_of_ble_eq_true rfl)
  rw [lg_entry_eq]
  generalize (lg_sl ([.ref h0, .ref a1]) ++ List.replicate (2 - (lg_sl ([.ref h0, .ref a1])).length) Slot.unset).toArray = ls at hl ⊢
  have hl : lv_has ls 2 [(0, .ref h0), (1, .ref a1)] := hl
  refine lv_aload_n hx hb dX0_init_0 rfl (lv_at hl 0 rfl) ?_
  refine W.objInit hx hb S.2.2.2.1 (S.2.2.2.2 (.methodLink RX0 3 objectInit) (List.mem_of_getElem? (i := 1) rfl)) (S.2.2.2.2 (.instanceMethod objectInit) (List.mem_of_getElem? (i := 2) rfl)) (S.2.2.2.2 (.code objectInit ⟨#[0xb1]⟩ 1 none) (List.mem_of_getElem? (i := 3) rfl)) rfl (by rw [hml]; exact hl.1) rfl dX0_init_1 (Nat.le_of_ble_eq_true rfl) (Nat.le_of_ble_eq_true rfl) ?_
  refine W.eq (g2 := F0 m 4 ls []) rfl ?_
  refine lv_aload_n hx hb dX0_init_4 rfl (lv_at hl 0 rfl) ?_
  refine lv_bipush (v := (nI 6)) hx hb dX0_init_5 (by decide) ?_
  refine lv_bipush (v := (nI 6)) hx hb dX0_init_7 (by decide) ?_
  refine x_mna S (List.mem_of_getElem? (i := 4) rfl) (List.mem_of_getElem? (i := 5) rfl) hKI hP hD hS hA 6 6 (nI_pos (by decide)) (nI_pos (by decide)) (nI_clamp (by decide)) (nI_clamp (by decide)) (by decide) (by decide) (Nat.le_of_ble_eq_true rfl) (Nat.le_of_ble_eq_true rfl) dX0_init_9 (fun q1 r1 H hPn hDn hSn => ?_)
  clear hP hD hS
  have hP : va_P D vwCl [(h0, .inr (0, [.null, .null, .null])), (q1, .inl (K 1, 6, .inr (.inr (.inr (.inr (fun i => some (r1 i))))))), ((r1 0), .inl (K 0, 6, .inl (fun _ => 0))), ((r1 1), .inl (K 0, 6, .inl (fun _ => 0))), ((r1 2), .inl (K 0, 6, .inl (fun _ => 0))), ((r1 3), .inl (K 0, 6, .inl (fun _ => 0))), ((r1 4), .inl (K 0, 6, .inl (fun _ => 0))), ((r1 5), .inl (K 0, 6, .inl (fun _ => 0)))] H := hPn
  have hD : va_D (xcA h0 s.heap.size) [(h0, .inr (0, [.null, .null, .null])), (q1, .inl (K 1, 6, .inr (.inr (.inr (.inr (fun i => some (r1 i))))))), ((r1 0), .inl (K 0, 6, .inl (fun _ => 0))), ((r1 1), .inl (K 0, 6, .inl (fun _ => 0))), ((r1 2), .inl (K 0, 6, .inl (fun _ => 0))), ((r1 3), .inl (K 0, 6, .inl (fun _ => 0))), ((r1 4), .inl (K 0, 6, .inl (fun _ => 0))), ((r1 5), .inl (K 0, 6, .inl (fun _ => 0)))] := hDn
  have hS := hSn
  clear hPn hDn hSn
  refine va_putF hx hb S.2.2.2.2 (fun w h => List.mem_cons_of_mem _ (List.mem_append_right _ h)) tyX0 tyX0_ok nmX0 S.2.2.2.1 hK.1 hP hD hS 0 rfl rfl 1 (by decide) (S.2.2.2.2 _ (List.mem_of_getElem? (i := 6) rfl)) (fun _ h => h) rfl hin2 rfl (ty := .array (.array .int)) (v := .ref q1) (by decide +kernel) rfl rfl (Nat.le_of_ble_eq_true rfl) dX0_init_13 (fun H locs hPn hDn hSn => ?_)
  clear hP hD hS
  have hP : va_P D vwCl [(h0, .inr (0, [.null, .ref q1, .null])), (q1, .inl (K 1, 6, .inr (.inr (.inr (.inr (fun i => some (r1 i))))))), ((r1 0), .inl (K 0, 6, .inl (fun _ => 0))), ((r1 1), .inl (K 0, 6, .inl (fun _ => 0))), ((r1 2), .inl (K 0, 6, .inl (fun _ => 0))), ((r1 3), .inl (K 0, 6, .inl (fun _ => 0))), ((r1 4), .inl (K 0, 6, .inl (fun _ => 0))), ((r1 5), .inl (K 0, 6, .inl (fun _ => 0)))] H := hPn
  have hD : va_D (xcA h0 s.heap.size) [(h0, .inr (0, [.null, .ref q1, .null])), (q1, .inl (K 1, 6, .inr (.inr (.inr (.inr (fun i => some (r1 i))))))), ((r1 0), .inl (K 0, 6, .inl (fun _ => 0))), ((r1 1), .inl (K 0, 6, .inl (fun _ => 0))), ((r1 2), .inl (K 0, 6, .inl (fun _ => 0))), ((r1 3), .inl (K 0, 6, .inl (fun _ => 0))), ((r1 4), .inl (K 0, 6, .inl (fun _ => 0))), ((r1 5), .inl (K 0, 6, .inl (fun _ => 0)))] := hDn
  have hS := hSn
  clear hPn hDn hSn
  refine lv_aload_n hx hb dX0_init_16 rfl (lv_at hl 0 rfl) ?_
  refine lv_bipush (v := (nI 64)) hx hb dX0_init_17 (by decide) ?_
  refine x_newaI S (List.mem_of_getElem? (i := 5) rfl) hK hP hD hS hA 64 (nI_pos (by decide)) (nI_clamp (by decide)) (by decide) (Nat.le_of_ble_eq_true rfl) (Nat.le_of_ble_eq_true rfl) dX0_init_19 (fun q2 H hPn hDn hSn => ?_)
  clear hP hD hS
  have hP : va_P D vwCl [(h0, .inr (0, [.null, .ref q1, .null])), (q1, .inl (K 1, 6, .inr (.inr (.inr (.inr (fun i => some (r1 i))))))), ((r1 0), .inl (K 0, 6, .inl (fun _ => 0))), ((r1 1), .inl (K 0, 6, .inl (fun _ => 0))), ((r1 2), .inl (K 0, 6, .inl (fun _ => 0))), ((r1 3), .inl (K 0, 6, .inl (fun _ => 0))), ((r1 4), .inl (K 0, 6, .inl (fun _ => 0))), ((r1 5), .inl (K 0, 6, .inl (fun _ => 0))), (q2, .inl (K 0, 64, .inl (fun _ => 0)))] H := hPn
  have hD : va_D (xcA h0 s.heap.size) [(h0, .inr (0, [.null, .ref q1, .null])), (q1, .inl (K 1, 6, .inr (.inr (.inr (.inr (fun i => some (r1 i))))))), ((r1 0), .inl (K 0, 6, .inl (fun _ => 0))), ((r1 1), .inl (K 0, 6, .inl (fun _ => 0))), ((r1 2), .inl (K 0, 6, .inl (fun _ => 0))), ((r1 3), .inl (K 0, 6, .inl (fun _ => 0))), ((r1 4), .inl (K 0, 6, .inl (fun _ => 0))), ((r1 5), .inl (K 0, 6, .inl (fun _ => 0))), (q2, .inl (K 0, 64, .inl (fun _ => 0)))] := hDn
  have hS := hSn
  clear hPn hDn hSn
  refine va_putF hx hb S.2.2.2.2 (fun w h => List.mem_cons_of_mem _ (List.mem_append_right _ h)) tyX0 tyX0_ok nmX0 S.2.2.2.1 hK.1 hP hD hS 0 rfl rfl 2 (by decide) (S.2.2.2.2 _ (List.mem_of_getElem? (i := 7) rfl)) (fun _ h => h) rfl hin2 rfl (ty := .array .int) (v := .ref q2) (by decide +kernel) rfl rfl (Nat.le_of_ble_eq_true rfl) dX0_init_21 (fun H locs hPn hDn hSn => ?_)
  clear hP hD hS
  have hP : va_P D vwCl [(h0, .inr (0, [.null, .ref q1, .ref q2])), (q1, .inl (K 1, 6, .inr (.inr (.inr (.inr (fun i => some (r1 i))))))), ((r1 0), .inl (K 0, 6, .inl (fun _ => 0))), ((r1 1), .inl (K 0, 6, .inl (fun _ => 0))), ((r1 2), .inl (K 0, 6, .inl (fun _ => 0))), ((r1 3), .inl (K 0, 6, .inl (fun _ => 0))), ((r1 4), .inl (K 0, 6, .inl (fun _ => 0))), ((r1 5), .inl (K 0, 6, .inl (fun _ => 0))), (q2, .inl (K 0, 64, .inl (fun _ => 0)))] H := hPn
  have hD : va_D (xcA h0 s.heap.size) [(h0, .inr (0, [.null, .ref q1, .ref q2])), (q1, .inl (K 1, 6, .inr (.inr (.inr (.inr (fun i => some (r1 i))))))), ((r1 0), .inl (K 0, 6, .inl (fun _ => 0))), ((r1 1), .inl (K 0, 6, .inl (fun _ => 0))), ((r1 2), .inl (K 0, 6, .inl (fun _ => 0))), ((r1 3), .inl (K 0, 6, .inl (fun _ => 0))), ((r1 4), .inl (K 0, 6, .inl (fun _ => 0))), ((r1 5), .inl (K 0, 6, .inl (fun _ => 0))), (q2, .inl (K 0, 64, .inl (fun _ => 0)))] := hDn
  have hS := hSn
  clear hPn hDn hSn
  refine lv_aload_n hx hb dX0_init_24 rfl (lv_at hl 0 rfl) ?_
  refine lv_aload_n hx hb dX0_init_25 rfl (lv_at hl 1 rfl) ?_
  refine va_putF hx hb S.2.2.2.2 (fun w h => List.mem_cons_of_mem _ (List.mem_append_right _ h)) tyX0 tyX0_ok nmX0 S.2.2.2.1 hK.1 hP hD hS 0 rfl rfl 0 (by decide) (S.2.2.2.2 _ (List.mem_of_getElem? (i := 8) rfl)) (fun _ h => h) rfl hin2 rfl (ty := .object "SailAsAnother$Harbour") (v := .ref a1) (by decide +kernel) rfl rfl (Nat.le_of_ble_eq_true rfl) dX0_init_26 (fun H locs hPn hDn hSn => ?_)
  clear hP hD hS
  have hP : va_P D vwCl [(h0, .inr (0, [.ref a1, .ref q1, .ref q2])), (q1, .inl (K 1, 6, .inr (.inr (.inr (.inr (fun i => some (r1 i))))))), ((r1 0), .inl (K 0, 6, .inl (fun _ => 0))), ((r1 1), .inl (K 0, 6, .inl (fun _ => 0))), ((r1 2), .inl (K 0, 6, .inl (fun _ => 0))), ((r1 3), .inl (K 0, 6, .inl (fun _ => 0))), ((r1 4), .inl (K 0, 6, .inl (fun _ => 0))), ((r1 5), .inl (K 0, 6, .inl (fun _ => 0))), (q2, .inl (K 0, 64, .inl (fun _ => 0)))] H := hPn
  have hD : va_D (xcA h0 s.heap.size) [(h0, .inr (0, [.ref a1, .ref q1, .ref q2])), (q1, .inl (K 1, 6, .inr (.inr (.inr (.inr (fun i => some (r1 i))))))), ((r1 0), .inl (K 0, 6, .inl (fun _ => 0))), ((r1 1), .inl (K 0, 6, .inl (fun _ => 0))), ((r1 2), .inl (K 0, 6, .inl (fun _ => 0))), ((r1 3), .inl (K 0, 6, .inl (fun _ => 0))), ((r1 4), .inl (K 0, 6, .inl (fun _ => 0))), ((r1 5), .inl (K 0, 6, .inl (fun _ => 0))), (q2, .inl (K 0, 64, .inl (fun _ => 0)))] := hDn
  have hS := hSn
  clear hPn hDn hSn
  exact W.vret hx hb hr (fun t ht hW => ⟨⟨(q1, r1, q2), rfl, trivial, by rw [ht]; exact hP, hD⟩, hS.F ht⟩) hS.2.2 dX0_init_29
set_option maxHeartbeats 8000000 in
set_option maxRecDepth 100000 in
theorem c_X4_init (l : Launch) {D : va_G} {K : Nat → ClassId} (h0 sz : Nat) : Met l yX4_init wsX4_init (xrc 1 7 35) (va_Pc [.ref h0] (xcP D K h0 sz (.inr (4, [.null, .null])))) (xcQ D h0 sz (fun u : Nat × (Nat → Nat) × Nat × (Nat → Nat) => True) (fun u => [(h0, .inr (4, [.ref u.1, .ref u.2.2.1])), (u.1, .inl (K 1, 2, .inr (.inr (.inr (.inr (fun i => some (u.2.1 i))))))), ((u.2.1 0), .inl (K 0, 6, .inl (fa_fill (fun j => nI (j + 1)) (fun _ => 0) 6))), ((u.2.1 1), .inl (K 0, 6, .inl (fa_fill (fun _ => nI 5) (fun _ => 0) 6))), (u.2.2.1, .inl (K 1, 3, .inr (.inr (.inr (.inr (fun i => some (u.2.2.2 i))))))), ((u.2.2.2 0), .inl (K 0, 6, .inl (fa_fill (fun _ => nI 3) (fun _ => 0) 6))), ((u.2.2.2 1), .inl (K 0, 6, .inl (fa_fill (fun _ => nI 5) (fun _ => 0) 6))), ((u.2.2.2 2), .inl (K 0, 6, .inl (fa_fill (fun j => nI (j + 1)) (fun _ => 0) 6)))])) 7 35 (xcA h0 sz) := by
  refine Met.ofW (cc := cX4_init) (maxL := 2) (ret := none) (by decide) rfl ?_
  intro p e s m args below meth c s₁ B hml hv
  obtain ⟨rfl, hsz, hKI, hP⟩ := hv
  subst hsz
  have S : CallFix p m c cX4_init 2 s _ wsX4_init RX4 := ⟨B.exec, B.bytes, hml, findClass_of_methodNamed B.named, atoms_spec (ws := wsX4_init) B.pre⟩
  have hx := S.1
  have hb := S.2.1
  have hr := B.returns
  have hlocks := B.notSynchronized
  have hin2 : meth.name = "<init>" := (name_of_methodNamed B.named B.method).1
  have hK := hKI.1
  have hD := xcD (h0 := h0) (sz := s.heap.size) (e0 := .inr (4, [.null, .null]))
  have hA : ∀ q : Nat, s.heap.size ≤ q → xcA h0 s.heap.size q := fun q h => Or.inr h
  have hS : va_S (xcA h0 s.heap.size) s.heap s.heap [] := va_S.rf
  have hl := lv_entry ([.ref h0]) (n := 2) (Nat.le_of_ble_eq_true rfl)
  rw [lg_entry_eq]
  generalize (lg_sl ([.ref h0]) ++ List.replicate (2 - (lg_sl ([.ref h0])).length) Slot.unset).toArray = ls at hl ⊢
  have hl : lv_has ls 2 [(0, .ref h0)] := hl
  refine lv_aload_n hx hb dX4_init_0 rfl (lv_at hl 0 rfl) ?_
  refine W.objInit hx hb S.2.2.2.1 (S.2.2.2.2 (.methodLink RX4 3 objectInit) (List.mem_of_getElem? (i := 1) rfl)) (S.2.2.2.2 (.instanceMethod objectInit) (List.mem_of_getElem? (i := 2) rfl)) (S.2.2.2.2 (.code objectInit ⟨#[0xb1]⟩ 1 none) (List.mem_of_getElem? (i := 3) rfl)) rfl (by rw [hml]; exact hl.1) rfl dX4_init_1 (Nat.le_of_ble_eq_true rfl) (Nat.le_of_ble_eq_true rfl) ?_
  refine W.eq (g2 := F0 m 4 ls []) rfl ?_
  refine lv_aload_n hx hb dX4_init_4 rfl (lv_at hl 0 rfl) ?_
  refine lv_iconst (v := (nI 2)) hx hb dX4_init_5 (by decide) ?_
  refine lv_bipush (v := (nI 6)) hx hb dX4_init_6 (by decide) ?_
  refine x_mna S (List.mem_of_getElem? (i := 4) rfl) (List.mem_of_getElem? (i := 5) rfl) hKI hP hD hS hA 2 6 (nI_pos (by decide)) (nI_pos (by decide)) (nI_clamp (by decide)) (nI_clamp (by decide)) (by decide) (by decide) (Nat.le_of_ble_eq_true rfl) (Nat.le_of_ble_eq_true rfl) dX4_init_8 (fun q1 r1 H hPn hDn hSn => ?_)
  clear hP hD hS
  have hP : va_P D vwCl [(h0, .inr (4, [.null, .null])), (q1, .inl (K 1, 2, .inr (.inr (.inr (.inr (fun i => some (r1 i))))))), ((r1 0), .inl (K 0, 6, .inl (fun _ => 0))), ((r1 1), .inl (K 0, 6, .inl (fun _ => 0)))] H := hPn
  have hD : va_D (xcA h0 s.heap.size) [(h0, .inr (4, [.null, .null])), (q1, .inl (K 1, 2, .inr (.inr (.inr (.inr (fun i => some (r1 i))))))), ((r1 0), .inl (K 0, 6, .inl (fun _ => 0))), ((r1 1), .inl (K 0, 6, .inl (fun _ => 0)))] := hDn
  have hS := hSn
  clear hPn hDn hSn
  refine va_putF hx hb S.2.2.2.2 (fun w h => List.mem_cons_of_mem _ (List.mem_append_right _ h)) tyX4 tyX4_ok nmX4 S.2.2.2.1 hK.1 hP hD hS 0 rfl rfl 0 (by decide) (S.2.2.2.2 _ (List.mem_of_getElem? (i := 6) rfl)) (fun _ h => h) rfl hin2 rfl (ty := .array (.array .int)) (v := .ref q1) (by decide +kernel) rfl rfl (Nat.le_of_ble_eq_true rfl) dX4_init_12 (fun H locs hPn hDn hSn => ?_)
  clear hP hD hS
  have hP : va_P D vwCl [(h0, .inr (4, [.ref q1, .null])), (q1, .inl (K 1, 2, .inr (.inr (.inr (.inr (fun i => some (r1 i))))))), ((r1 0), .inl (K 0, 6, .inl (fun _ => 0))), ((r1 1), .inl (K 0, 6, .inl (fun _ => 0)))] H := hPn
  have hD : va_D (xcA h0 s.heap.size) [(h0, .inr (4, [.ref q1, .null])), (q1, .inl (K 1, 2, .inr (.inr (.inr (.inr (fun i => some (r1 i))))))), ((r1 0), .inl (K 0, 6, .inl (fun _ => 0))), ((r1 1), .inl (K 0, 6, .inl (fun _ => 0)))] := hDn
  have hS := hSn
  clear hPn hDn hSn
  refine lv_aload_n hx hb dX4_init_15 rfl (lv_at hl 0 rfl) ?_
  refine lv_iconst (v := (nI 3)) hx hb dX4_init_16 (by decide) ?_
  refine lv_bipush (v := (nI 6)) hx hb dX4_init_17 (by decide) ?_
  refine x_mna S (List.mem_of_getElem? (i := 4) rfl) (List.mem_of_getElem? (i := 5) rfl) hKI hP hD hS hA 3 6 (nI_pos (by decide)) (nI_pos (by decide)) (nI_clamp (by decide)) (nI_clamp (by decide)) (by decide) (by decide) (Nat.le_of_ble_eq_true rfl) (Nat.le_of_ble_eq_true rfl) dX4_init_19 (fun q2 r2 H hPn hDn hSn => ?_)
  clear hP hD hS
  have hP : va_P D vwCl [(h0, .inr (4, [.ref q1, .null])), (q1, .inl (K 1, 2, .inr (.inr (.inr (.inr (fun i => some (r1 i))))))), ((r1 0), .inl (K 0, 6, .inl (fun _ => 0))), ((r1 1), .inl (K 0, 6, .inl (fun _ => 0))), (q2, .inl (K 1, 3, .inr (.inr (.inr (.inr (fun i => some (r2 i))))))), ((r2 0), .inl (K 0, 6, .inl (fun _ => 0))), ((r2 1), .inl (K 0, 6, .inl (fun _ => 0))), ((r2 2), .inl (K 0, 6, .inl (fun _ => 0)))] H := hPn
  have hD : va_D (xcA h0 s.heap.size) [(h0, .inr (4, [.ref q1, .null])), (q1, .inl (K 1, 2, .inr (.inr (.inr (.inr (fun i => some (r1 i))))))), ((r1 0), .inl (K 0, 6, .inl (fun _ => 0))), ((r1 1), .inl (K 0, 6, .inl (fun _ => 0))), (q2, .inl (K 1, 3, .inr (.inr (.inr (.inr (fun i => some (r2 i))))))), ((r2 0), .inl (K 0, 6, .inl (fun _ => 0))), ((r2 1), .inl (K 0, 6, .inl (fun _ => 0))), ((r2 2), .inl (K 0, 6, .inl (fun _ => 0)))] := hDn
  have hS := hSn
  clear hPn hDn hSn
  refine va_putF hx hb S.2.2.2.2 (fun w h => List.mem_cons_of_mem _ (List.mem_append_right _ h)) tyX4 tyX4_ok nmX4 S.2.2.2.1 hK.1 hP hD hS 0 rfl rfl 1 (by decide) (S.2.2.2.2 _ (List.mem_of_getElem? (i := 7) rfl)) (fun _ h => h) rfl hin2 rfl (ty := .array (.array .int)) (v := .ref q2) (by decide +kernel) rfl rfl (Nat.le_of_ble_eq_true rfl) dX4_init_23 (fun H locs hPn hDn hSn => ?_)
  clear hP hD hS
  have hP : va_P D vwCl [(h0, .inr (4, [.ref q1, .ref q2])), (q1, .inl (K 1, 2, .inr (.inr (.inr (.inr (fun i => some (r1 i))))))), ((r1 0), .inl (K 0, 6, .inl (fun _ => 0))), ((r1 1), .inl (K 0, 6, .inl (fun _ => 0))), (q2, .inl (K 1, 3, .inr (.inr (.inr (.inr (fun i => some (r2 i))))))), ((r2 0), .inl (K 0, 6, .inl (fun _ => 0))), ((r2 1), .inl (K 0, 6, .inl (fun _ => 0))), ((r2 2), .inl (K 0, 6, .inl (fun _ => 0)))] H := hPn
  have hD : va_D (xcA h0 s.heap.size) [(h0, .inr (4, [.ref q1, .ref q2])), (q1, .inl (K 1, 2, .inr (.inr (.inr (.inr (fun i => some (r1 i))))))), ((r1 0), .inl (K 0, 6, .inl (fun _ => 0))), ((r1 1), .inl (K 0, 6, .inl (fun _ => 0))), (q2, .inl (K 1, 3, .inr (.inr (.inr (.inr (fun i => some (r2 i))))))), ((r2 0), .inl (K 0, 6, .inl (fun _ => 0))), ((r2 1), .inl (K 0, 6, .inl (fun _ => 0))), ((r2 2), .inl (K 0, 6, .inl (fun _ => 0)))] := hDn
  have hS := hSn
  clear hPn hDn hSn
  refine lv_iconst (v := (nI 0)) hx hb dX4_init_26 (by decide) ?_
  refine lv_istore_n (lv' := [(1, .int (nI 0)), (0, .ref h0)]) hx hb dX4_init_27 rfl hl (by decide) rfl (fun ls hl => ?_)
  refine x_loopW (ι := Nat) (fun i H locs ls => i ≤ 6 ∧ lv_has ls 2 [(1, .int (nI i)), (0, .ref h0)] ∧ va_P D vwCl [(h0, .inr (4, [.ref q1, .ref q2])), (q1, .inl (K 1, 2, .inr (.inr (.inr (.inr (fun i => some (r1 i))))))), ((r1 0), .inl (K 0, 6, .inl (fa_fill (fun j => nI (j + 1)) (fun _ => 0) i))), ((r1 1), .inl (K 0, 6, .inl (fa_fill (fun _ => nI 5) (fun _ => 0) i))), (q2, .inl (K 1, 3, .inr (.inr (.inr (.inr (fun i => some (r2 i))))))), ((r2 0), .inl (K 0, 6, .inl (fa_fill (fun _ => nI 3) (fun _ => 0) i))), ((r2 1), .inl (K 0, 6, .inl (fa_fill (fun _ => nI 5) (fun _ => 0) i))), ((r2 2), .inl (K 0, 6, .inl (fa_fill (fun j => nI (j + 1)) (fun _ => 0) i)))] H ∧ va_D (xcA h0 s.heap.size) [(h0, .inr (4, [.ref q1, .ref q2])), (q1, .inl (K 1, 2, .inr (.inr (.inr (.inr (fun i => some (r1 i))))))), ((r1 0), .inl (K 0, 6, .inl (fa_fill (fun j => nI (j + 1)) (fun _ => 0) i))), ((r1 1), .inl (K 0, 6, .inl (fa_fill (fun _ => nI 5) (fun _ => 0) i))), (q2, .inl (K 1, 3, .inr (.inr (.inr (.inr (fun i => some (r2 i))))))), ((r2 0), .inl (K 0, 6, .inl (fa_fill (fun _ => nI 3) (fun _ => 0) i))), ((r2 1), .inl (K 0, 6, .inl (fa_fill (fun _ => nI 5) (fun _ => 0) i))), ((r2 2), .inl (K 0, 6, .inl (fa_fill (fun j => nI (j + 1)) (fun _ => 0) i)))] ∧ va_S (xcA h0 s.heap.size) s.heap H locs) (fun i => 6 - i) ?_ 0 ls ⟨Nat.zero_le _, hl, by simp only [fa_fill_0]; exact hP, by simp only [fa_fill_0]; exact hD, hS⟩
  intro i H locs ls hinv ih
  obtain ⟨hi, hl, hP, hD, hS⟩ := hinv
  have hl : lv_has ls 2 [(1, .int (nI i)), (0, .ref h0)] := hl
  have hP : va_P D vwCl [(h0, .inr (4, [.ref q1, .ref q2])), (q1, .inl (K 1, 2, .inr (.inr (.inr (.inr (fun i => some (r1 i))))))), ((r1 0), .inl (K 0, 6, .inl (fa_fill (fun j => nI (j + 1)) (fun _ => 0) i))), ((r1 1), .inl (K 0, 6, .inl (fa_fill (fun _ => nI 5) (fun _ => 0) i))), (q2, .inl (K 1, 3, .inr (.inr (.inr (.inr (fun i => some (r2 i))))))), ((r2 0), .inl (K 0, 6, .inl (fa_fill (fun _ => nI 3) (fun _ => 0) i))), ((r2 1), .inl (K 0, 6, .inl (fa_fill (fun _ => nI 5) (fun _ => 0) i))), ((r2 2), .inl (K 0, 6, .inl (fa_fill (fun j => nI (j + 1)) (fun _ => 0) i)))] H := hP
  have hD : va_D (xcA h0 s.heap.size) [(h0, .inr (4, [.ref q1, .ref q2])), (q1, .inl (K 1, 2, .inr (.inr (.inr (.inr (fun i => some (r1 i))))))), ((r1 0), .inl (K 0, 6, .inl (fa_fill (fun j => nI (j + 1)) (fun _ => 0) i))), ((r1 1), .inl (K 0, 6, .inl (fa_fill (fun _ => nI 5) (fun _ => 0) i))), (q2, .inl (K 1, 3, .inr (.inr (.inr (.inr (fun i => some (r2 i))))))), ((r2 0), .inl (K 0, 6, .inl (fa_fill (fun _ => nI 3) (fun _ => 0) i))), ((r2 1), .inl (K 0, 6, .inl (fa_fill (fun _ => nI 5) (fun _ => 0) i))), ((r2 2), .inl (K 0, 6, .inl (fa_fill (fun j => nI (j + 1)) (fun _ => 0) i)))] := hD
  refine lv_iload_n hx hb dX4_init_28 rfl (lv_at hl 0 rfl) ?_
  refine lv_bipush (v := (nI 6)) hx hb dX4_init_29 (by decide) ?_
  refine x_icmpN_ge (tgt := 89) S dX4_init_31 (by decide) (by omega) (by omega) (fun c_31 => ?_) (fun c_31 => ?_)
  · skip
    have e9 : i = 6 := by omega
    subst e9
    exact W.vret hx hb hr (fun t ht hW => ⟨⟨(q1, r1, q2, r2), rfl, trivial, by rw [ht]; exact hP, hD⟩, hS.F ht⟩) hS.2.2 dX4_init_89
  · skip
    refine lv_aload_n hx hb dX4_init_34 rfl (lv_at hl 1 rfl) ?_
    refine va_get hx hb S.2.2.2.2 (fun w h => List.mem_cons_of_mem _ (List.mem_append_right _ h)) S.2.2.2.1 hK.1 hP 0 rfl rfl 0 (by decide) (S.2.2.2.2 _ (List.mem_of_getElem? (i := 6) rfl)) (fun _ h => h) rfl dX4_init_35 ?_
    refine lv_iconst (v := (nI 0)) hx hb dX4_init_38 (by decide) ?_
    refine x_aaldL S hK hP 1 rfl (j := 0) (by decide) (by decide) (b := r1 0) rfl dX4_init_39 ?_
    refine lv_iload_n hx hb dX4_init_40 rfl (lv_at hl 0 rfl) ?_
    refine lv_iload_n hx hb dX4_init_41 rfl (lv_at hl 0 rfl) ?_
    refine lv_iconst (v := (nI 1)) hx hb dX4_init_42 (by decide) ?_
    refine x_iaddN S dX4_init_43 ?_
    refine x_iastL S hK hP hD hS 2 rfl (j := i) (by omega) (by omega) dX4_init_44 (fun H locs hPn hDn hSn => ?_)
    rw [show upd (fa_fill (fun j => nI (j + 1)) (fun _ => 0) i) i (nI (i + 1)) = fa_fill (fun j => nI (j + 1)) (fun _ => 0) (i + 1) from fa_fill_succ _ _ _] at hPn hDn
    clear hP hD hS
    have hP : va_P D vwCl [(h0, .inr (4, [.ref q1, .ref q2])), (q1, .inl (K 1, 2, .inr (.inr (.inr (.inr (fun i => some (r1 i))))))), ((r1 0), .inl (K 0, 6, .inl (fa_fill (fun j => nI (j + 1)) (fun _ => 0) (i + 1)))), ((r1 1), .inl (K 0, 6, .inl (fa_fill (fun _ => nI 5) (fun _ => 0) i))), (q2, .inl (K 1, 3, .inr (.inr (.inr (.inr (fun i => some (r2 i))))))), ((r2 0), .inl (K 0, 6, .inl (fa_fill (fun _ => nI 3) (fun _ => 0) i))), ((r2 1), .inl (K 0, 6, .inl (fa_fill (fun _ => nI 5) (fun _ => 0) i))), ((r2 2), .inl (K 0, 6, .inl (fa_fill (fun j => nI (j + 1)) (fun _ => 0) i)))] H := hPn
    have hD : va_D (xcA h0 s.heap.size) [(h0, .inr (4, [.ref q1, .ref q2])), (q1, .inl (K 1, 2, .inr (.inr (.inr (.inr (fun i => some (r1 i))))))), ((r1 0), .inl (K 0, 6, .inl (fa_fill (fun j => nI (j + 1)) (fun _ => 0) (i + 1)))), ((r1 1), .inl (K 0, 6, .inl (fa_fill (fun _ => nI 5) (fun _ => 0) i))), (q2, .inl (K 1, 3, .inr (.inr (.inr (.inr (fun i => some (r2 i))))))), ((r2 0), .inl (K 0, 6, .inl (fa_fill (fun _ => nI 3) (fun _ => 0) i))), ((r2 1), .inl (K 0, 6, .inl (fa_fill (fun _ => nI 5) (fun _ => 0) i))), ((r2 2), .inl (K 0, 6, .inl (fa_fill (fun j => nI (j + 1)) (fun _ => 0) i)))] := hDn
    have hS := hSn
    clear hPn hDn hSn
    refine lv_aload_n hx hb dX4_init_45 rfl (lv_at hl 1 rfl) ?_
    refine va_get hx hb S.2.2.2.2 (fun w h => List.mem_cons_of_mem _ (List.mem_append_right _ h)) S.2.2.2.1 hK.1 hP 0 rfl rfl 0 (by decide) (S.2.2.2.2 _ (List.mem_of_getElem? (i := 6) rfl)) (fun _ h => h) rfl dX4_init_46 ?_
    refine lv_iconst (v := (nI 1)) hx hb dX4_init_49 (by decide) ?_
    refine x_aaldL S hK hP 1 rfl (j := 1) (by decide) (by decide) (b := r1 1) rfl dX4_init_50 ?_
    refine lv_iload_n hx hb dX4_init_51 rfl (lv_at hl 0 rfl) ?_
    refine lv_iconst (v := (nI 5)) hx hb dX4_init_52 (by decide) ?_
    refine x_iastL S hK hP hD hS 3 rfl (j := i) (by omega) (by omega) dX4_init_53 (fun H locs hPn hDn hSn => ?_)
    rw [show upd (fa_fill (fun _ => nI 5) (fun _ => 0) i) i (nI 5) = fa_fill (fun _ => nI 5) (fun _ => 0) (i + 1) from fa_fill_succ _ _ _] at hPn hDn
    clear hP hD hS
    have hP : va_P D vwCl [(h0, .inr (4, [.ref q1, .ref q2])), (q1, .inl (K 1, 2, .inr (.inr (.inr (.inr (fun i => some (r1 i))))))), ((r1 0), .inl (K 0, 6, .inl (fa_fill (fun j => nI (j + 1)) (fun _ => 0) (i + 1)))), ((r1 1), .inl (K 0, 6, .inl (fa_fill (fun _ => nI 5) (fun _ => 0) (i + 1)))), (q2, .inl (K 1, 3, .inr (.inr (.inr (.inr (fun i => some (r2 i))))))), ((r2 0), .inl (K 0, 6, .inl (fa_fill (fun _ => nI 3) (fun _ => 0) i))), ((r2 1), .inl (K 0, 6, .inl (fa_fill (fun _ => nI 5) (fun _ => 0) i))), ((r2 2), .inl (K 0, 6, .inl (fa_fill (fun j => nI (j + 1)) (fun _ => 0) i)))] H := hPn
    have hD : va_D (xcA h0 s.heap.size) [(h0, .inr (4, [.ref q1, .ref q2])), (q1, .inl (K 1, 2, .inr (.inr (.inr (.inr (fun i => some (r1 i))))))), ((r1 0), .inl (K 0, 6, .inl (fa_fill (fun j => nI (j + 1)) (fun _ => 0) (i + 1)))), ((r1 1), .inl (K 0, 6, .inl (fa_fill (fun _ => nI 5) (fun _ => 0) (i + 1)))), (q2, .inl (K 1, 3, .inr (.inr (.inr (.inr (fun i => some (r2 i))))))), ((r2 0), .inl (K 0, 6, .inl (fa_fill (fun _ => nI 3) (fun _ => 0) i))), ((r2 1), .inl (K 0, 6, .inl (fa_fill (fun _ => nI 5) (fun _ => 0) i))), ((r2 2), .inl (K 0, 6, .inl (fa_fill (fun j => nI (j + 1)) (fun _ => 0) i)))] := hDn
    have hS := hSn
    clear hPn hDn hSn
    refine lv_aload_n hx hb dX4_init_54 rfl (lv_at hl 1 rfl) ?_
    refine va_get hx hb S.2.2.2.2 (fun w h => List.mem_cons_of_mem _ (List.mem_append_right _ h)) S.2.2.2.1 hK.1 hP 0 rfl rfl 1 (by decide) (S.2.2.2.2 _ (List.mem_of_getElem? (i := 7) rfl)) (fun _ h => h) rfl dX4_init_55 ?_
    refine lv_iconst (v := (nI 0)) hx hb dX4_init_58 (by decide) ?_
    refine x_aaldL S hK hP 4 rfl (j := 0) (by decide) (by decide) (b := r2 0) rfl dX4_init_59 ?_
    refine lv_iload_n hx hb dX4_init_60 rfl (lv_at hl 0 rfl) ?_
    refine lv_iconst (v := (nI 3)) hx hb dX4_init_61 (by decide) ?_
    refine x_iastL S hK hP hD hS 5 rfl (j := i) (by omega) (by omega) dX4_init_62 (fun H locs hPn hDn hSn => ?_)
    rw [show upd (fa_fill (fun _ => nI 3) (fun _ => 0) i) i (nI 3) = fa_fill (fun _ => nI 3) (fun _ => 0) (i + 1) from fa_fill_succ _ _ _] at hPn hDn
    clear hP hD hS
    have hP : va_P D vwCl [(h0, .inr (4, [.ref q1, .ref q2])), (q1, .inl (K 1, 2, .inr (.inr (.inr (.inr (fun i => some (r1 i))))))), ((r1 0), .inl (K 0, 6, .inl (fa_fill (fun j => nI (j + 1)) (fun _ => 0) (i + 1)))), ((r1 1), .inl (K 0, 6, .inl (fa_fill (fun _ => nI 5) (fun _ => 0) (i + 1)))), (q2, .inl (K 1, 3, .inr (.inr (.inr (.inr (fun i => some (r2 i))))))), ((r2 0), .inl (K 0, 6, .inl (fa_fill (fun _ => nI 3) (fun _ => 0) (i + 1)))), ((r2 1), .inl (K 0, 6, .inl (fa_fill (fun _ => nI 5) (fun _ => 0) i))), ((r2 2), .inl (K 0, 6, .inl (fa_fill (fun j => nI (j + 1)) (fun _ => 0) i)))] H := hPn
    have hD : va_D (xcA h0 s.heap.size) [(h0, .inr (4, [.ref q1, .ref q2])), (q1, .inl (K 1, 2, .inr (.inr (.inr (.inr (fun i => some (r1 i))))))), ((r1 0), .inl (K 0, 6, .inl (fa_fill (fun j => nI (j + 1)) (fun _ => 0) (i + 1)))), ((r1 1), .inl (K 0, 6, .inl (fa_fill (fun _ => nI 5) (fun _ => 0) (i + 1)))), (q2, .inl (K 1, 3, .inr (.inr (.inr (.inr (fun i => some (r2 i))))))), ((r2 0), .inl (K 0, 6, .inl (fa_fill (fun _ => nI 3) (fun _ => 0) (i + 1)))), ((r2 1), .inl (K 0, 6, .inl (fa_fill (fun _ => nI 5) (fun _ => 0) i))), ((r2 2), .inl (K 0, 6, .inl (fa_fill (fun j => nI (j + 1)) (fun _ => 0) i)))] := hDn
    have hS := hSn
    clear hPn hDn hSn
    refine lv_aload_n hx hb dX4_init_63 rfl (lv_at hl 1 rfl) ?_
    refine va_get hx hb S.2.2.2.2 (fun w h => List.mem_cons_of_mem _ (List.mem_append_right _ h)) S.2.2.2.1 hK.1 hP 0 rfl rfl 1 (by decide) (S.2.2.2.2 _ (List.mem_of_getElem? (i := 7) rfl)) (fun _ h => h) rfl dX4_init_64 ?_
    refine lv_iconst (v := (nI 1)) hx hb dX4_init_67 (by decide) ?_
    refine x_aaldL S hK hP 4 rfl (j := 1) (by decide) (by decide) (b := r2 1) rfl dX4_init_68 ?_
    refine lv_iload_n hx hb dX4_init_69 rfl (lv_at hl 0 rfl) ?_
    refine lv_iconst (v := (nI 5)) hx hb dX4_init_70 (by decide) ?_
    refine x_iastL S hK hP hD hS 6 rfl (j := i) (by omega) (by omega) dX4_init_71 (fun H locs hPn hDn hSn => ?_)
    rw [show upd (fa_fill (fun _ => nI 5) (fun _ => 0) i) i (nI 5) = fa_fill (fun _ => nI 5) (fun _ => 0) (i + 1) from fa_fill_succ _ _ _] at hPn hDn
    clear hP hD hS
    have hP : va_P D vwCl [(h0, .inr (4, [.ref q1, .ref q2])), (q1, .inl (K 1, 2, .inr (.inr (.inr (.inr (fun i => some (r1 i))))))), ((r1 0), .inl (K 0, 6, .inl (fa_fill (fun j => nI (j + 1)) (fun _ => 0) (i + 1)))), ((r1 1), .inl (K 0, 6, .inl (fa_fill (fun _ => nI 5) (fun _ => 0) (i + 1)))), (q2, .inl (K 1, 3, .inr (.inr (.inr (.inr (fun i => some (r2 i))))))), ((r2 0), .inl (K 0, 6, .inl (fa_fill (fun _ => nI 3) (fun _ => 0) (i + 1)))), ((r2 1), .inl (K 0, 6, .inl (fa_fill (fun _ => nI 5) (fun _ => 0) (i + 1)))), ((r2 2), .inl (K 0, 6, .inl (fa_fill (fun j => nI (j + 1)) (fun _ => 0) i)))] H := hPn
    have hD : va_D (xcA h0 s.heap.size) [(h0, .inr (4, [.ref q1, .ref q2])), (q1, .inl (K 1, 2, .inr (.inr (.inr (.inr (fun i => some (r1 i))))))), ((r1 0), .inl (K 0, 6, .inl (fa_fill (fun j => nI (j + 1)) (fun _ => 0) (i + 1)))), ((r1 1), .inl (K 0, 6, .inl (fa_fill (fun _ => nI 5) (fun _ => 0) (i + 1)))), (q2, .inl (K 1, 3, .inr (.inr (.inr (.inr (fun i => some (r2 i))))))), ((r2 0), .inl (K 0, 6, .inl (fa_fill (fun _ => nI 3) (fun _ => 0) (i + 1)))), ((r2 1), .inl (K 0, 6, .inl (fa_fill (fun _ => nI 5) (fun _ => 0) (i + 1)))), ((r2 2), .inl (K 0, 6, .inl (fa_fill (fun j => nI (j + 1)) (fun _ => 0) i)))] := hDn
    have hS := hSn
    clear hPn hDn hSn
    refine lv_aload_n hx hb dX4_init_72 rfl (lv_at hl 1 rfl) ?_
    refine va_get hx hb S.2.2.2.2 (fun w h => List.mem_cons_of_mem _ (List.mem_append_right _ h)) S.2.2.2.1 hK.1 hP 0 rfl rfl 1 (by decide) (S.2.2.2.2 _ (List.mem_of_getElem? (i := 7) rfl)) (fun _ h => h) rfl dX4_init_73 ?_
    refine lv_iconst (v := (nI 2)) hx hb dX4_init_76 (by decide) ?_
    refine x_aaldL S hK hP 4 rfl (j := 2) (by decide) (by decide) (b := r2 2) rfl dX4_init_77 ?_
    refine lv_iload_n hx hb dX4_init_78 rfl (lv_at hl 0 rfl) ?_
    refine lv_iload_n hx hb dX4_init_79 rfl (lv_at hl 0 rfl) ?_
    refine lv_iconst (v := (nI 1)) hx hb dX4_init_80 (by decide) ?_
    refine x_iaddN S dX4_init_81 ?_
    refine x_iastL S hK hP hD hS 7 rfl (j := i) (by omega) (by omega) dX4_init_82 (fun H locs hPn hDn hSn => ?_)
    rw [show upd (fa_fill (fun j => nI (j + 1)) (fun _ => 0) i) i (nI (i + 1)) = fa_fill (fun j => nI (j + 1)) (fun _ => 0) (i + 1) from fa_fill_succ _ _ _] at hPn hDn
    clear hP hD hS
    have hP : va_P D vwCl [(h0, .inr (4, [.ref q1, .ref q2])), (q1, .inl (K 1, 2, .inr (.inr (.inr (.inr (fun i => some (r1 i))))))), ((r1 0), .inl (K 0, 6, .inl (fa_fill (fun j => nI (j + 1)) (fun _ => 0) (i + 1)))), ((r1 1), .inl (K 0, 6, .inl (fa_fill (fun _ => nI 5) (fun _ => 0) (i + 1)))), (q2, .inl (K 1, 3, .inr (.inr (.inr (.inr (fun i => some (r2 i))))))), ((r2 0), .inl (K 0, 6, .inl (fa_fill (fun _ => nI 3) (fun _ => 0) (i + 1)))), ((r2 1), .inl (K 0, 6, .inl (fa_fill (fun _ => nI 5) (fun _ => 0) (i + 1)))), ((r2 2), .inl (K 0, 6, .inl (fa_fill (fun j => nI (j + 1)) (fun _ => 0) (i + 1))))] H := hPn
    have hD : va_D (xcA h0 s.heap.size) [(h0, .inr (4, [.ref q1, .ref q2])), (q1, .inl (K 1, 2, .inr (.inr (.inr (.inr (fun i => some (r1 i))))))), ((r1 0), .inl (K 0, 6, .inl (fa_fill (fun j => nI (j + 1)) (fun _ => 0) (i + 1)))), ((r1 1), .inl (K 0, 6, .inl (fa_fill (fun _ => nI 5) (fun _ => 0) (i + 1)))), (q2, .inl (K 1, 3, .inr (.inr (.inr (.inr (fun i => some (r2 i))))))), ((r2 0), .inl (K 0, 6, .inl (fa_fill (fun _ => nI 3) (fun _ => 0) (i + 1)))), ((r2 1), .inl (K 0, 6, .inl (fa_fill (fun _ => nI 5) (fun _ => 0) (i + 1)))), ((r2 2), .inl (K 0, 6, .inl (fa_fill (fun j => nI (j + 1)) (fun _ => 0) (i + 1))))] := hDn
    have hS := hSn
    clear hPn hDn hSn
    refine lv_iinc (v := (nI (i + 1))) (lv' := [(1, .int (nI (i + 1))), (0, .ref h0)]) hx hb dX4_init_83 hl (k := 0) rfl (nI_add i 1) (by decide) rfl (fun ls hl => ?_)
    refine lv_goto (tgt := 28) hx hb dX4_init_86 (by decide) ?_
    exact ih (i + 1) H locs ls ⟨by omega, hl, hP, hD, hS⟩ (by omega)

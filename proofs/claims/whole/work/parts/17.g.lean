set_option maxHeartbeats 4000000 in
set_option maxRecDepth 100000 in
theorem c_X8_isYear (l : Launch) {D : va_G} {K : Nat → ClassId} {α : Nat → Nat} (σ : Nat → Nat → Int32) (x : Int32) (Y : Nat)  (hYr : σ 9 2 = nI Y) : Met l yX8_isYear wsX8_isYear (xrm 1) (va_Pc [.ref (α 0), .int x] (xPre D K 42 α (xC α K) σ)) (vp_Si (fun r => r = xb (xin x Y))) 0 0 (fun _ => False) := by
  refine Met.ofW (cc := cX8_isYear) (maxL := 2) (ret := (some .boolean)) (by decide) rfl ?_
  intro p e s m args below meth c s₁ B hml hv
  obtain ⟨rfl, hK, hP⟩ := hv
  have S : CallFix p m c cX8_isYear 2 s _ wsX8_isYear RX8 := ⟨B.exec, B.bytes, hml, findClass_of_methodNamed B.named, atoms_spec (ws := wsX8_isYear) B.pre⟩
  have hx := S.1
  have hb := S.2.1
  have hr := B.returns
  have hlocks := B.notSynchronized
  have hl := lv_entry ([.ref (α 0), .int x]) (n := 2) (Nat.le_of_ble_eq_true rfl)
  rw [lg_entry_eq]
  generalize (lg_sl ([.ref (α 0), .int x]) ++ List.replicate (2 - (lg_sl ([.ref (α 0), .int x])).length) Slot.unset).toArray = ls at hl ⊢
  have hl : lv_has ls 2 [(0, .ref (α 0)), (1, .int x)] := hl
  have hPP := hP
  refine lv_iload_n hx hb dX8_isYear_0 rfl (lv_at hl 1 rfl) ?_
  refine lv_aload_n hx hb dX8_isYear_1 rfl (lv_at hl 0 rfl) ?_
  refine x_get S (fun w h => List.mem_cons_of_mem _ (List.mem_append_left _ (List.mem_append_right _ h))) hK hP 0 (by omega) rfl rfl 1 (by decide) (List.mem_of_getElem? (i := 1) rfl) rfl dX8_isYear_2 ?_
  refine x_get S (fun w h => List.mem_cons_of_mem _ (List.mem_append_right _ h)) hK hP 9 (by omega) rfl rfl 2 (by decide) (List.mem_of_getElem? (i := 2) rfl) rfl dX8_isYear_5 ?_
  refine x_top S (y := nI Y) (hYr) ?_
  refine x_cSi (As := [.int x, .int (nI Y)]) (rest := []) S (c_X8_isBelow l x (nI Y)  ) (x_cwS (n0 := 2) S gX8_isYear_X8_isBelow rfl (by decide +kernel) ⟨Nat.le_of_ble_eq_true rfl, Nat.le_of_ble_eq_true rfl⟩) rfl hl.1 rfl (Nat.le_of_ble_eq_true rfl) dX8_isYear_8 ⟨Nat.le_refl _, Nat.le_refl _⟩ (fun r_8 hr_8 => ?_)
  subst hr_8
  exact x_iretR S hlocks hr xb_nar (rfl) dX8_isYear_11
set_option maxHeartbeats 4000000 in
set_option maxRecDepth 100000 in
theorem c_X8_isSpan (l : Launch) {D : va_G} {K : Nat → ClassId} {α : Nat → Nat} (σ : Nat → Nat → Int32) (x : Int32) (Y : Nat)  (hYr : σ 9 2 = nI Y) : Met l yX8_isSpan wsX8_isSpan (xrm 1) (va_Pc [.ref (α 0), .int x] (xPre D K 42 α (xC α K) σ)) (vp_Si (fun r => r = xb (xin x (Y + 1)))) 0 0 (fun _ => False) := by
  refine Met.ofW (cc := cX8_isSpan) (maxL := 2) (ret := (some .boolean)) (by decide) rfl ?_
  intro p e s m args below meth c s₁ B hml hv
  obtain ⟨rfl, hK, hP⟩ := hv
  have S : CallFix p m c cX8_isSpan 2 s _ wsX8_isSpan RX8 := ⟨B.exec, B.bytes, hml, findClass_of_methodNamed B.named, atoms_spec (ws := wsX8_isSpan) B.pre⟩
  have hx := S.1
  have hb := S.2.1
  have hr := B.returns
  have hlocks := B.notSynchronized
  have hl := lv_entry ([.ref (α 0), .int x]) (n := 2) (Nat.le_of_ble_eq_true rfl)
  rw [lg_entry_eq]
  generalize (lg_sl ([.ref (α 0), .int x]) ++ List.replicate (2 - (lg_sl ([.ref (α 0), .int x])).length) Slot.unset).toArray = ls at hl ⊢
  have hl : lv_has ls 2 [(0, .ref (α 0)), (1, .int x)] := hl
  have hPP := hP
  refine lv_iload_n hx hb dX8_isSpan_0 rfl (lv_at hl 1 rfl) ?_
  refine lv_aload_n hx hb dX8_isSpan_1 rfl (lv_at hl 0 rfl) ?_
  refine x_get S (fun w h => List.mem_cons_of_mem _ (List.mem_append_left _ (List.mem_append_right _ h))) hK hP 0 (by omega) rfl rfl 1 (by decide) (List.mem_of_getElem? (i := 1) rfl) rfl dX8_isSpan_2 ?_
  refine x_get S (fun w h => List.mem_cons_of_mem _ (List.mem_append_right _ h)) hK hP 9 (by omega) rfl rfl 2 (by decide) (List.mem_of_getElem? (i := 2) rfl) rfl dX8_isSpan_5 ?_
  refine x_top S (y := nI Y) (hYr) ?_
  refine lv_iconst (v := nI 1) hx hb dX8_isSpan_8 (by decide) ?_
  refine x_iaddN S dX8_isSpan_9 ?_
  refine x_cSi (As := [.int x, .int (nI (Y + 1))]) (rest := []) S (c_X8_isBelow l x (nI (Y + 1))  ) (x_cwS (n0 := 2) S gX8_isSpan_X8_isBelow rfl (by decide +kernel) ⟨Nat.le_of_ble_eq_true rfl, Nat.le_of_ble_eq_true rfl⟩) rfl hl.1 rfl (Nat.le_of_ble_eq_true rfl) dX8_isSpan_10 ⟨Nat.le_refl _, Nat.le_refl _⟩ (fun r_10 hr_10 => ?_)
  subst hr_10
  exact x_iretR S hlocks hr xb_nar (rfl) dX8_isSpan_13
set_option maxHeartbeats 4000000 in
set_option maxRecDepth 100000 in
theorem c_X8_found (l : Launch) {D : va_G} {K : Nat → ClassId} {α : Nat → Nat} (σ : Nat → Nat → Int32) (hI : xw_I 42 α) (x : Int32)  : Met l yX8_found wsX8_found (xrm 0) (va_Pc [.ref (α 0), .int x] (xPre D K 42 α (xC α K) σ)) (xQi D 42 α (xC α K) (fun r τ => r = (-10 : Int32) - x ∧ τ = xst_f σ x)) 0 0 (xw_R 42 α) := by
  refine Met.ofW (cc := cX8_found) (maxL := 2) (ret := (some .int)) (by decide) rfl ?_
  intro p e s m args below meth c s₁ B hml hv
  obtain ⟨rfl, hK, hP⟩ := hv
  have S : CallFix p m c cX8_found 2 s _ wsX8_found RX8 := ⟨B.exec, B.bytes, hml, findClass_of_methodNamed B.named, atoms_spec (ws := wsX8_found) B.pre⟩
  have hx := S.1
  have hb := S.2.1
  have hr := B.returns
  have hlocks := B.notSynchronized
  have hS : va_S (xw_R 42 α) s.heap s.heap [] := va_S.rf
  have hl := lv_entry ([.ref (α 0), .int x]) (n := 2) (Nat.le_of_ble_eq_true rfl)
  rw [lg_entry_eq]
  generalize (lg_sl ([.ref (α 0), .int x]) ++ List.replicate (2 - (lg_sl ([.ref (α 0), .int x])).length) Slot.unset).toArray = ls at hl ⊢
  have hl : lv_has ls 2 [(0, .ref (α 0)), (1, .int x)] := hl
  have hPP := hP
  refine lv_aload_n hx hb dX8_found_0 rfl (lv_at hl 0 rfl) ?_
  refine lv_iload_n hx hb dX8_found_1 rfl (lv_at hl 1 rfl) ?_
  refine x_put S (fun w h => List.mem_cons_of_mem _ (List.mem_append_right _ h)) tyX8 tyX8_ok nmX8 hK hP hI hS 0 (by omega) rfl rfl 8 (by decide) (List.mem_of_getElem? (i := 1) rfl) rfl (ty := .int) (v := .int x) (by decide +kernel) rfl rfl (Nat.le_of_ble_eq_true rfl) (upd (σ 0) 8 x) rfl dX8_found_2 (fun H locs hP hS => ?_)
  refine lv_bipush (v := (-10)) hx hb dX8_found_5 (by decide) ?_
  refine lv_iload_n hx hb dX8_found_7 rfl (lv_at hl 1 rfl) ?_
  refine lv_isub hx hb dX8_found_8 ?_
  exact x_iretW S hlocks hP hS hr rfl (⟨rfl, rfl⟩) dX8_found_9
set_option maxHeartbeats 4000000 in
set_option maxRecDepth 100000 in
theorem c_X8_hull (l : Launch) {D : va_G} {K : Nat → ClassId} {α : Nat → Nat} (σ : Nat → Nat → Int32) (hI : xw_I 42 α) (x0 : Int32) (x1 : Int32) (x2 : Int32)  : Met l yX8_hull wsX8_hull (xrm 2) (va_Pc [.ref (α 0), .int x0, .int x1, .int x2] (xPre D K 42 α (xC α K) σ)) (xQi D 42 α (xC α K) (fun r τ => r = xp_tr 4 2 σ x0 x1 x2 ∧ τ = xst_tr 4 2 σ x0 x1 x2)) 0 0 (xw_R 42 α) := by
  refine Met.ofW (cc := cX8_hull) (maxL := 5) (ret := (some .int)) (by decide) rfl ?_
  intro p e s m args below meth c s₁ B hml hv
  obtain ⟨rfl, hK, hP⟩ := hv
  have S : CallFix p m c cX8_hull 5 s _ wsX8_hull RX8 := ⟨B.exec, B.bytes, hml, findClass_of_methodNamed B.named, atoms_spec (ws := wsX8_hull) B.pre⟩
  have hx := S.1
  have hb := S.2.1
  have hr := B.returns
  have hlocks := B.notSynchronized
  have hS : va_S (xw_R 42 α) s.heap s.heap [] := va_S.rf
  have hl := lv_entry ([.ref (α 0), .int x0, .int x1, .int x2]) (n := 5) (Nat.le_of_ble_eq_true rfl)
  rw [lg_entry_eq]
  generalize (lg_sl ([.ref (α 0), .int x0, .int x1, .int x2]) ++ List.replicate (5 - (lg_sl ([.ref (α 0), .int x0, .int x1, .int x2])).length) Slot.unset).toArray = ls at hl ⊢
  have hl : lv_has ls 5 [(0, .ref (α 0)), (1, .int x0), (2, .int x1), (3, .int x2)] := hl
  have hPP := hP
  refine lv_iload_n hx hb dX8_hull_0 rfl (lv_at hl 1 rfl) ?_
  refine x_cSi (As := [.int x0]) (rest := []) S (c_X8_isShip l x0  ) (x_cwS (n0 := 1) S gX8_hull_X8_isShip rfl (by decide +kernel) ⟨Nat.le_of_ble_eq_true rfl, Nat.le_of_ble_eq_true rfl⟩) rfl hl.1 rfl (Nat.le_of_ble_eq_true rfl) dX8_hull_1 ⟨Nat.le_refl _, Nat.le_refl _⟩ (fun r_1 hr_1 => ?_)
  subst hr_1
  refine x_if_eqB (tgt := 23) S dX8_hull_4 (by decide) (fun c_4 => ?_) (fun c_4 => ?_)
  · refine lv_bipush (v := (-2)) hx hb dX8_hull_23 (by decide) ?_
    exact x_iretW S hlocks hP hS hr rfl (by first | exact ⟨by rw [xp_tr, if_neg (fun q => c_4 q.1)], by rw [xst_tr, if_neg (fun q => c_4 q.1)]⟩ | exact ⟨by rw [xp_tr, if_neg (fun q => c_12 q.2.1)], by rw [xst_tr, if_neg (fun q => c_12 q.2.1)]⟩ | exact ⟨by rw [xp_tr, if_neg (fun q => c_20 q.2.2)], by rw [xst_tr, if_neg (fun q => c_20 q.2.2)]⟩) dX8_hull_25
  · refine lv_iload_n hx hb dX8_hull_7 rfl (lv_at hl 2 rfl) ?_
    refine lv_iconst (v := nI 2) hx hb dX8_hull_8 (by decide) ?_
    refine x_cSi (As := [.int x1, .int (nI 2)]) (rest := []) S (c_X8_isBelow l x1 (nI 2)  ) (x_cwS (n0 := 2) S gX8_hull_X8_isBelow rfl (by decide +kernel) ⟨Nat.le_of_ble_eq_true rfl, Nat.le_of_ble_eq_true rfl⟩) rfl hl.1 rfl (Nat.le_of_ble_eq_true rfl) dX8_hull_9 ⟨Nat.le_refl _, Nat.le_refl _⟩ (fun r_9 hr_9 => ?_)
    subst hr_9
    refine x_if_eqB (tgt := 23) S dX8_hull_12 (by decide) (fun c_12 => ?_) (fun c_12 => ?_)
    · refine lv_bipush (v := (-2)) hx hb dX8_hull_23 (by decide) ?_
      exact x_iretW S hlocks hP hS hr rfl (by first | exact ⟨by rw [xp_tr, if_neg (fun q => c_4 q.1)], by rw [xst_tr, if_neg (fun q => c_4 q.1)]⟩ | exact ⟨by rw [xp_tr, if_neg (fun q => c_12 q.2.1)], by rw [xst_tr, if_neg (fun q => c_12 q.2.1)]⟩ | exact ⟨by rw [xp_tr, if_neg (fun q => c_20 q.2.2)], by rw [xst_tr, if_neg (fun q => c_20 q.2.2)]⟩) dX8_hull_25
    · refine lv_iload_n hx hb dX8_hull_15 rfl (lv_at hl 2 rfl) ?_
      refine lv_iload_n hx hb dX8_hull_16 rfl (lv_at hl 3 rfl) ?_
      refine x_cSi (As := [.int x1, .int x2]) (rest := []) S (c_X8_isTrait l x1 x2  ) (x_cwS (n0 := 2) S gX8_hull_X8_isTrait rfl (by decide +kernel) ⟨Nat.le_of_ble_eq_true rfl, Nat.le_of_ble_eq_true rfl⟩) rfl hl.1 rfl (Nat.le_of_ble_eq_true rfl) dX8_hull_17 ⟨Nat.le_refl _, Nat.le_refl _⟩ (fun r_17 hr_17 => ?_)
      subst hr_17
      refine x_if_neB (tgt := 26) S dX8_hull_20 (by decide) (fun c_20 => ?_) (fun c_20 => ?_)
      · obtain ⟨h, hh, rfl⟩ := xin_of c_4 (by omega)
        obtain ⟨w, hw, rfl⟩ := xin_of c_12 (by omega)
        refine lv_aload_n hx hb dX8_hull_26 rfl (lv_at hl 0 rfl) ?_
        refine x_get S (fun w h => List.mem_cons_of_mem _ (List.mem_append_left _ (List.mem_append_right _ h))) hK hP 0 (by omega) rfl rfl 0 (by decide) (List.mem_of_getElem? (i := 1) rfl) rfl dX8_hull_27 ?_
        refine x_get S (fun w h => List.mem_cons_of_mem _ (List.mem_append_right _ h)) hK hP 1 (by omega) rfl rfl 0 (by decide) (List.mem_of_getElem? (i := 2) rfl) rfl dX8_hull_30 ?_
        refine lv_iload_n hx hb dX8_hull_33 rfl (lv_at hl 2 rfl) ?_
        refine x_aald S hK hP 2 1 (by omega) rfl rfl rfl (by first | assumption | omega) (by omega) rfl dX8_hull_34 ?_
        refine lv_iload_n hx hb dX8_hull_35 rfl (lv_at hl 1 rfl) ?_
        refine x_iald S hK hP (4 + w) (by omega) (xC_h (by first | assumption | omega) _) (by first | assumption | omega) (by omega) dX8_hull_36 ?_
        refine lv_istore (lv' := [(4, .int (σ (4 + w) h)), (0, .ref (α 0)), (1, .int (nI h)), (2, .int (nI w)), (3, .int x2)]) hx hb dX8_hull_37 hl (by decide) rfl (fun ls hl => ?_)
        refine lv_aload_n hx hb dX8_hull_39 rfl (lv_at hl 1 rfl) ?_
        refine x_get S (fun w h => List.mem_cons_of_mem _ (List.mem_append_left _ (List.mem_append_right _ h))) hK hP 0 (by omega) rfl rfl 0 (by decide) (List.mem_of_getElem? (i := 1) rfl) rfl dX8_hull_40 ?_
        refine x_get S (fun w h => List.mem_cons_of_mem _ (List.mem_append_right _ h)) hK hP 1 (by omega) rfl rfl 0 (by decide) (List.mem_of_getElem? (i := 2) rfl) rfl dX8_hull_43 ?_
        refine lv_iload_n hx hb dX8_hull_46 rfl (lv_at hl 3 rfl) ?_
        refine x_aald S hK hP 2 1 (by omega) rfl rfl rfl (by first | assumption | omega) (by omega) rfl dX8_hull_47 ?_
        refine lv_iload_n hx hb dX8_hull_48 rfl (lv_at hl 2 rfl) ?_
        refine lv_iload_n hx hb dX8_hull_49 rfl (lv_at hl 4 rfl) ?_
        refine x_iast S hK hP hI hS (4 + w) (by omega) (fun v => xC_h (by first | assumption | omega) v) (by first | assumption | omega) (by omega) dX8_hull_50 (fun H locs hP hS => ?_)
        refine lv_iload hx hb dX8_hull_51 (lv_at hl 0 rfl) ?_
        exact x_iretW S hlocks hP hS hr rfl (⟨by rw [xp_tr, if_pos ⟨xin_nI (by omega) (by omega), xin_nI (by omega) (by omega), c_20⟩, cN_nI (by omega), cN_nI (by omega)], by rw [xst_tr, if_pos ⟨xin_nI (by omega) (by omega), xin_nI (by omega) (by omega), c_20⟩, cN_nI (by omega), cN_nI (by omega)]⟩) dX8_hull_53
      · refine lv_bipush (v := (-2)) hx hb dX8_hull_23 (by decide) ?_
        exact x_iretW S hlocks hP hS hr rfl (by first | exact ⟨by rw [xp_tr, if_neg (fun q => c_4 q.1)], by rw [xst_tr, if_neg (fun q => c_4 q.1)]⟩ | exact ⟨by rw [xp_tr, if_neg (fun q => c_12 q.2.1)], by rw [xst_tr, if_neg (fun q => c_12 q.2.1)]⟩ | exact ⟨by rw [xp_tr, if_neg (fun q => c_20 q.2.2)], by rw [xst_tr, if_neg (fun q => c_20 q.2.2)]⟩) dX8_hull_25
set_option maxHeartbeats 4000000 in
set_option maxRecDepth 100000 in
theorem c_X8_name (l : Launch) {D : va_G} {K : Nat → ClassId} {α : Nat → Nat} (σ : Nat → Nat → Int32) (hI : xw_I 42 α) (x0 : Int32) (x1 : Int32) (x2 : Int32)  : Met l yX8_name wsX8_name (xrm 2) (va_Pc [.ref (α 0), .int x0, .int x1, .int x2] (xPre D K 42 α (xC α K) σ)) (xQi D 42 α (xC α K) (fun r τ => r = xp_tr 6 3 σ x0 x1 x2 ∧ τ = xst_tr 6 3 σ x0 x1 x2)) 0 0 (xw_R 42 α) := by
  refine Met.ofW (cc := cX8_name) (maxL := 5) (ret := (some .int)) (by decide) rfl ?_
  intro p e s m args below meth c s₁ B hml hv
  obtain ⟨rfl, hK, hP⟩ := hv
  have S : CallFix p m c cX8_name 5 s _ wsX8_name RX8 := ⟨B.exec, B.bytes, hml, findClass_of_methodNamed B.named, atoms_spec (ws := wsX8_name) B.pre⟩
  have hx := S.1
  have hb := S.2.1
  have hr := B.returns
  have hlocks := B.notSynchronized
  have hS : va_S (xw_R 42 α) s.heap s.heap [] := va_S.rf
  have hl := lv_entry ([.ref (α 0), .int x0, .int x1, .int x2]) (n := 5) (Nat.le_of_ble_eq_true rfl)
  rw [lg_entry_eq]
  generalize (lg_sl ([.ref (α 0), .int x0, .int x1, .int x2]) ++ List.replicate (5 - (lg_sl ([.ref (α 0), .int x0, .int x1, .int x2])).length) Slot.unset).toArray = ls at hl ⊢
  have hl : lv_has ls 5 [(0, .ref (α 0)), (1, .int x0), (2, .int x1), (3, .int x2)] := hl
  have hPP := hP
  refine lv_iload_n hx hb dX8_name_0 rfl (lv_at hl 1 rfl) ?_
  refine x_cSi (As := [.int x0]) (rest := []) S (c_X8_isShip l x0  ) (x_cwS (n0 := 1) S gX8_name_X8_isShip rfl (by decide +kernel) ⟨Nat.le_of_ble_eq_true rfl, Nat.le_of_ble_eq_true rfl⟩) rfl hl.1 rfl (Nat.le_of_ble_eq_true rfl) dX8_name_1 ⟨Nat.le_refl _, Nat.le_refl _⟩ (fun r_1 hr_1 => ?_)
  subst hr_1
  refine x_if_eqB (tgt := 23) S dX8_name_4 (by decide) (fun c_4 => ?_) (fun c_4 => ?_)
  · refine lv_bipush (v := (-2)) hx hb dX8_name_23 (by decide) ?_
    exact x_iretW S hlocks hP hS hr rfl (by first | exact ⟨by rw [xp_tr, if_neg (fun q => c_4 q.1)], by rw [xst_tr, if_neg (fun q => c_4 q.1)]⟩ | exact ⟨by rw [xp_tr, if_neg (fun q => c_12 q.2.1)], by rw [xst_tr, if_neg (fun q => c_12 q.2.1)]⟩ | exact ⟨by rw [xp_tr, if_neg (fun q => c_20 q.2.2)], by rw [xst_tr, if_neg (fun q => c_20 q.2.2)]⟩) dX8_name_25
  · refine lv_iload_n hx hb dX8_name_7 rfl (lv_at hl 2 rfl) ?_
    refine lv_iconst (v := nI 3) hx hb dX8_name_8 (by decide) ?_
    refine x_cSi (As := [.int x1, .int (nI 3)]) (rest := []) S (c_X8_isBelow l x1 (nI 3)  ) (x_cwS (n0 := 2) S gX8_name_X8_isBelow rfl (by decide +kernel) ⟨Nat.le_of_ble_eq_true rfl, Nat.le_of_ble_eq_true rfl⟩) rfl hl.1 rfl (Nat.le_of_ble_eq_true rfl) dX8_name_9 ⟨Nat.le_refl _, Nat.le_refl _⟩ (fun r_9 hr_9 => ?_)
    subst hr_9
    refine x_if_eqB (tgt := 23) S dX8_name_12 (by decide) (fun c_12 => ?_) (fun c_12 => ?_)
    · refine lv_bipush (v := (-2)) hx hb dX8_name_23 (by decide) ?_
      exact x_iretW S hlocks hP hS hr rfl (by first | exact ⟨by rw [xp_tr, if_neg (fun q => c_4 q.1)], by rw [xst_tr, if_neg (fun q => c_4 q.1)]⟩ | exact ⟨by rw [xp_tr, if_neg (fun q => c_12 q.2.1)], by rw [xst_tr, if_neg (fun q => c_12 q.2.1)]⟩ | exact ⟨by rw [xp_tr, if_neg (fun q => c_20 q.2.2)], by rw [xst_tr, if_neg (fun q => c_20 q.2.2)]⟩) dX8_name_25
    · refine lv_iload_n hx hb dX8_name_15 rfl (lv_at hl 2 rfl) ?_
      refine lv_iload_n hx hb dX8_name_16 rfl (lv_at hl 3 rfl) ?_
      refine x_cSi (As := [.int x1, .int x2]) (rest := []) S (c_X8_isTrait l x1 x2  ) (x_cwS (n0 := 2) S gX8_name_X8_isTrait rfl (by decide +kernel) ⟨Nat.le_of_ble_eq_true rfl, Nat.le_of_ble_eq_true rfl⟩) rfl hl.1 rfl (Nat.le_of_ble_eq_true rfl) dX8_name_17 ⟨Nat.le_refl _, Nat.le_refl _⟩ (fun r_17 hr_17 => ?_)
      subst hr_17
      refine x_if_neB (tgt := 26) S dX8_name_20 (by decide) (fun c_20 => ?_) (fun c_20 => ?_)
      · obtain ⟨h, hh, rfl⟩ := xin_of c_4 (by omega)
        obtain ⟨w, hw, rfl⟩ := xin_of c_12 (by omega)
        refine lv_aload_n hx hb dX8_name_26 rfl (lv_at hl 0 rfl) ?_
        refine x_get S (fun w h => List.mem_cons_of_mem _ (List.mem_append_left _ (List.mem_append_right _ h))) hK hP 0 (by omega) rfl rfl 0 (by decide) (List.mem_of_getElem? (i := 1) rfl) rfl dX8_name_27 ?_
        refine x_get S (fun w h => List.mem_cons_of_mem _ (List.mem_append_right _ h)) hK hP 1 (by omega) rfl rfl 1 (by decide) (List.mem_of_getElem? (i := 2) rfl) rfl dX8_name_30 ?_
        refine lv_iload_n hx hb dX8_name_33 rfl (lv_at hl 2 rfl) ?_
        refine x_aald S hK hP 3 1 (by omega) rfl rfl rfl (by first | assumption | omega) (by omega) rfl dX8_name_34 ?_
        refine lv_iload_n hx hb dX8_name_35 rfl (lv_at hl 1 rfl) ?_
        refine x_iald S hK hP (6 + w) (by omega) (xC_n (by first | assumption | omega) _) (by first | assumption | omega) (by omega) dX8_name_36 ?_
        refine lv_istore (lv' := [(4, .int (σ (6 + w) h)), (0, .ref (α 0)), (1, .int (nI h)), (2, .int (nI w)), (3, .int x2)]) hx hb dX8_name_37 hl (by decide) rfl (fun ls hl => ?_)
        refine lv_aload_n hx hb dX8_name_39 rfl (lv_at hl 1 rfl) ?_
        refine x_get S (fun w h => List.mem_cons_of_mem _ (List.mem_append_left _ (List.mem_append_right _ h))) hK hP 0 (by omega) rfl rfl 0 (by decide) (List.mem_of_getElem? (i := 1) rfl) rfl dX8_name_40 ?_
        refine x_get S (fun w h => List.mem_cons_of_mem _ (List.mem_append_right _ h)) hK hP 1 (by omega) rfl rfl 1 (by decide) (List.mem_of_getElem? (i := 2) rfl) rfl dX8_name_43 ?_
        refine lv_iload_n hx hb dX8_name_46 rfl (lv_at hl 3 rfl) ?_
        refine x_aald S hK hP 3 1 (by omega) rfl rfl rfl (by first | assumption | omega) (by omega) rfl dX8_name_47 ?_
        refine lv_iload_n hx hb dX8_name_48 rfl (lv_at hl 2 rfl) ?_
        refine lv_iload_n hx hb dX8_name_49 rfl (lv_at hl 4 rfl) ?_
        refine x_iast S hK hP hI hS (6 + w) (by omega) (fun v => xC_n (by first | assumption | omega) v) (by first | assumption | omega) (by omega) dX8_name_50 (fun H locs hP hS => ?_)
        refine lv_iload hx hb dX8_name_51 (lv_at hl 0 rfl) ?_
        exact x_iretW S hlocks hP hS hr rfl (⟨by rw [xp_tr, if_pos ⟨xin_nI (by omega) (by omega), xin_nI (by omega) (by omega), c_20⟩, cN_nI (by omega), cN_nI (by omega)], by rw [xst_tr, if_pos ⟨xin_nI (by omega) (by omega), xin_nI (by omega) (by omega), c_20⟩, cN_nI (by omega), cN_nI (by omega)]⟩) dX8_name_53
      · refine lv_bipush (v := (-2)) hx hb dX8_name_23 (by decide) ?_
        exact x_iretW S hlocks hP hS hr rfl (by first | exact ⟨by rw [xp_tr, if_neg (fun q => c_4 q.1)], by rw [xst_tr, if_neg (fun q => c_4 q.1)]⟩ | exact ⟨by rw [xp_tr, if_neg (fun q => c_12 q.2.1)], by rw [xst_tr, if_neg (fun q => c_12 q.2.1)]⟩ | exact ⟨by rw [xp_tr, if_neg (fun q => c_20 q.2.2)], by rw [xst_tr, if_neg (fun q => c_20 q.2.2)]⟩) dX8_name_25
set_option maxHeartbeats 4000000 in
set_option maxRecDepth 100000 in
theorem c_X8_fits (l : Launch) {D : va_G} {K : Nat → ClassId} {α : Nat → Nat} (σ : Nat → Nat → Int32) (x0 : Int32) (x1 : Int32)  : Met l yX8_fits wsX8_fits (xrm 2) (va_Pc [.ref (α 0), .int x0, .int x1] (xPre D K 42 α (xC α K) σ)) (vp_Si (fun r => r = xp_fits (xFC σ) x0 x1)) 0 0 (fun _ => False) := by
  refine Met.ofW (cc := cX8_fits) (maxL := 3) (ret := (some .int)) (by decide) rfl ?_
  intro p e s m args below meth c s₁ B hml hv
  obtain ⟨rfl, hK, hP⟩ := hv
  have S : CallFix p m c cX8_fits 3 s _ wsX8_fits RX8 := ⟨B.exec, B.bytes, hml, findClass_of_methodNamed B.named, atoms_spec (ws := wsX8_fits) B.pre⟩
  have hx := S.1
  have hb := S.2.1
  have hr := B.returns
  have hlocks := B.notSynchronized
  have hl := lv_entry ([.ref (α 0), .int x0, .int x1]) (n := 3) (Nat.le_of_ble_eq_true rfl)
  rw [lg_entry_eq]
  generalize (lg_sl ([.ref (α 0), .int x0, .int x1]) ++ List.replicate (3 - (lg_sl ([.ref (α 0), .int x0, .int x1])).length) Slot.unset).toArray = ls at hl ⊢
  have hl : lv_has ls 3 [(0, .ref (α 0)), (1, .int x0), (2, .int x1)] := hl
  have hPP := hP
  refine lv_iload_n hx hb dX8_fits_0 rfl (lv_at hl 1 rfl) ?_
  refine x_cSi (As := [.int x0]) (rest := []) S (c_X8_isShip l x0  ) (x_cwS (n0 := 1) S gX8_fits_X8_isShip rfl (by decide +kernel) ⟨Nat.le_of_ble_eq_true rfl, Nat.le_of_ble_eq_true rfl⟩) rfl hl.1 rfl (Nat.le_of_ble_eq_true rfl) dX8_fits_1 ⟨Nat.le_refl _, Nat.le_refl _⟩ (fun r_1 hr_1 => ?_)
  subst hr_1
  refine x_if_eqB (tgt := 14) S dX8_fits_4 (by decide) (fun c_4 => ?_) (fun c_4 => ?_)
  · refine lv_bipush (v := (-2)) hx hb dX8_fits_14 (by decide) ?_
    exact x_iretR S hlocks hr rfl (by first | rw [xp_fits, if_neg (fun q => c_4 q.1)] | rw [xp_fits, if_neg (fun q => c_11 q.2)]) dX8_fits_16
  · refine lv_iload_n hx hb dX8_fits_7 rfl (lv_at hl 2 rfl) ?_
    refine x_cSi (As := [.int x1]) (rest := []) S (c_X8_isShip l x1  ) (x_cwS (n0 := 1) S gX8_fits_X8_isShip rfl (by decide +kernel) ⟨Nat.le_of_ble_eq_true rfl, Nat.le_of_ble_eq_true rfl⟩) rfl hl.1 rfl (Nat.le_of_ble_eq_true rfl) dX8_fits_8 ⟨Nat.le_refl _, Nat.le_refl _⟩ (fun r_8 hr_8 => ?_)
    subst hr_8
    refine x_if_neB (tgt := 17) S dX8_fits_11 (by decide) (fun c_11 => ?_) (fun c_11 => ?_)
    · obtain ⟨h, hh, rfl⟩ := xin_of c_4 (by omega)
      obtain ⟨n, hn, rfl⟩ := xin_of c_11 (by omega)
      refine lv_aload_n hx hb dX8_fits_17 rfl (lv_at hl 0 rfl) ?_
      refine x_get S (fun w h => List.mem_cons_of_mem _ (List.mem_append_left _ (List.mem_append_right _ h))) hK hP 0 (by omega) rfl rfl 0 (by decide) (List.mem_of_getElem? (i := 1) rfl) rfl dX8_fits_18 ?_
      refine lv_iload_n hx hb dX8_fits_21 rfl (lv_at hl 1 rfl) ?_
      refine lv_iload_n hx hb dX8_fits_22 rfl (lv_at hl 2 rfl) ?_
      refine x_cVRi (As := [.int (nI h), .int (nI n)]) (rest := []) S hK hP 1 (by omega) rfl rfl (c_X4_suits l σ h n  (by first | assumption | omega) (by first | assumption | omega)) (x_cwV (n0 := 2) (cq := (RX4, TX4, 2)) S gX8_fits_X4_suits rfl (by decide +kernel) ⟨Nat.le_of_ble_eq_true rfl, Nat.le_of_ble_eq_true rfl⟩) rfl hl.1 rfl (Nat.le_of_ble_eq_true rfl) dX8_fits_23 ⟨Nat.le_refl _, Nat.le_refl _⟩ (fun r_23 hr_23 => ?_)
      subst hr_23
      refine x_if_eqB (tgt := 33) S dX8_fits_26 (by decide) (fun c_26 => ?_) (fun c_26 => ?_)
      · refine lv_iconst (v := nI 0) hx hb dX8_fits_33 (by decide) ?_
        exact x_iretR S hlocks hr rfl (by rw [xp_fits, if_pos ⟨xin_nI (by omega) (by omega), xin_nI (by omega) (by omega)⟩, cN_nI (by omega), cN_nI (by omega), xb_f c_26]; rfl) dX8_fits_34
      · refine lv_iconst (v := nI 1) hx hb dX8_fits_29 (by decide) ?_
        refine lv_goto (tgt := 34) hx hb dX8_fits_30 (by decide) ?_
        exact x_iretR S hlocks hr rfl (by rw [xp_fits, if_pos ⟨xin_nI (by omega) (by omega), xin_nI (by omega) (by omega)⟩, cN_nI (by omega), cN_nI (by omega), xb_t c_26]; rfl) dX8_fits_34
    · refine lv_bipush (v := (-2)) hx hb dX8_fits_14 (by decide) ?_
      exact x_iretR S hlocks hr rfl (by first | rw [xp_fits, if_neg (fun q => c_4 q.1)] | rw [xp_fits, if_neg (fun q => c_11 q.2)]) dX8_fits_16
set_option maxHeartbeats 4000000 in
set_option maxRecDepth 100000 in
theorem c_X8_type (l : Launch) {D : va_G} {K : Nat → ClassId} {α : Nat → Nat} (σ : Nat → Nat → Int32) (hI : xw_I 42 α) (x : Int32)  (hC : xIC σ) : Met l yX8_type wsX8_type (xrm 5) (va_Pc [.ref (α 0), .int x] (xPre D K 42 α (xC α K) σ)) (xQi D 42 α (xC α K) (fun r τ => r = xp_type (xLC σ) x ∧ τ = xst_type σ x)) 0 0 (xw_R 42 α) := by
  refine Met.ofW (cc := cX8_type) (maxL := 2) (ret := (some .int)) (by decide) rfl ?_
  intro p e s m args below meth c s₁ B hml hv
  obtain ⟨rfl, hK, hP⟩ := hv
  have S : CallFix p m c cX8_type 2 s _ wsX8_type RX8 := ⟨B.exec, B.bytes, hml, findClass_of_methodNamed B.named, atoms_spec (ws := wsX8_type) B.pre⟩
  have hx := S.1
  have hb := S.2.1
  have hr := B.returns
  have hlocks := B.notSynchronized
  have hS : va_S (xw_R 42 α) s.heap s.heap [] := va_S.rf
  have hl := lv_entry ([.ref (α 0), .int x]) (n := 2) (Nat.le_of_ble_eq_true rfl)
  rw [lg_entry_eq]
  generalize (lg_sl ([.ref (α 0), .int x]) ++ List.replicate (2 - (lg_sl ([.ref (α 0), .int x])).length) Slot.unset).toArray = ls at hl ⊢
  have hl : lv_has ls 2 [(0, .ref (α 0)), (1, .int x)] := hl
  have hPP := hP
  have hY := xIC_Y hC
  have hY12 := xIC_12 hC
  obtain ⟨⟨hL, hL9⟩, ⟨hF, hYr⟩, ⟨hcs, hcn, hc1, hc2⟩, ⟨hss, hsn, hs1, hs2⟩, hfe, hsh⟩ := hC
  generalize hLe : xLC σ = L at hL hL9 hF ⊢
  generalize hYe : xYC σ = Y at hY hY12 hYr ⊢
  generalize hcne : xcC σ = cn at hcs hcn hc1 hc2 ⊢
  generalize hsne : xsC σ = sn at hss hsn hs1 hs2 ⊢
  refine lv_iload_n hx hb dX8_type_0 rfl (lv_at hl 1 rfl) ?_
  refine lv_sipush (v := nI 256) hx hb dX8_type_1 (by decide) ?_
  refine x_cSi (As := [.int x, .int (nI 256)]) (rest := []) S (c_X8_isBelow l x (nI 256)  ) (x_cwS (n0 := 2) S gX8_type_X8_isBelow rfl (by decide +kernel) ⟨Nat.le_of_ble_eq_true rfl, Nat.le_of_ble_eq_true rfl⟩) rfl hl.1 rfl (Nat.le_of_ble_eq_true rfl) dX8_type_4 ⟨Nat.le_refl _, Nat.le_refl _⟩ (fun r_4 hr_4 => ?_)
  subst hr_4
  refine x_if_neB (tgt := 13) S dX8_type_7 (by decide) (fun c_7 => ?_) (fun c_7 => ?_)
  · refine lv_aload_n hx hb dX8_type_13 rfl (lv_at hl 0 rfl) ?_
    refine x_get S (fun w h => List.mem_cons_of_mem _ (List.mem_append_left _ (List.mem_append_right _ h))) hK hP 0 (by omega) rfl rfl 1 (by decide) (List.mem_of_getElem? (i := 1) rfl) rfl dX8_type_14 ?_
    refine x_cVRi (As := []) (rest := []) S hK hP 9 (by omega) rfl rfl (c_X1_room l σ   ) (x_cwV (n0 := 0) (cq := (RX1, TX1, 4)) S gX8_type_X1_room rfl (by decide +kernel) ⟨Nat.le_of_ble_eq_true rfl, Nat.le_of_ble_eq_true rfl⟩) rfl hl.1 rfl (Nat.le_of_ble_eq_true rfl) dX8_type_17 ⟨Nat.le_refl _, Nat.le_refl _⟩ (fun r_17 hr_17 => ?_)
    subst hr_17
    refine x_top S (y := nI (90 - L)) (by rw [hL]; exact nI_90 hL9) ?_
    refine lv_iconst (v := nI 1) hx hb dX8_type_20 (by decide) ?_
    refine x_icmpN_ge (tgt := 27) S dX8_type_21 (by decide) (by omega) (by omega) (fun c_21 => ?_) (fun c_21 => ?_)
    · refine lv_aload_n hx hb dX8_type_27 rfl (lv_at hl 0 rfl) ?_
      refine x_get S (fun w h => List.mem_cons_of_mem _ (List.mem_append_left _ (List.mem_append_right _ h))) hK hP 0 (by omega) rfl rfl 1 (by decide) (List.mem_of_getElem? (i := 1) rfl) rfl dX8_type_28 ?_
      refine lv_iload_n hx hb dX8_type_31 rfl (lv_at hl 1 rfl) ?_
      refine x_cVWv (As := [.int x]) (rest := []) S hK hP hS (fun _ h => h) 9 (by omega) rfl rfl (c_X1_append l σ hI x L  (by first | assumption | omega) (by first | assumption | omega)) (x_cwV (n0 := 1) (cq := (RX1, TX1, 4)) S gX8_type_X1_append rfl (by decide +kernel) ⟨Nat.le_of_ble_eq_true rfl, Nat.le_of_ble_eq_true rfl⟩) rfl hl.1 rfl (Nat.le_of_ble_eq_true rfl) dX8_type_32 ⟨Nat.le_refl _, Nat.le_refl _⟩ (fun τ_32 H locs hr_32 hP hk_32 hS => ?_)
      subst hr_32
      refine lv_aload_n hx hb dX8_type_35 rfl (lv_at hl 0 rfl) ?_
      refine x_get S (fun w h => List.mem_cons_of_mem _ (List.mem_append_left _ (List.mem_append_right _ h))) hK hP 0 (by omega) rfl rfl 1 (by decide) (List.mem_of_getElem? (i := 1) rfl) rfl dX8_type_36 ?_
      refine x_get S (fun w h => List.mem_cons_of_mem _ (List.mem_append_right _ h)) hK hP 9 (by omega) rfl rfl 1 (by decide) (List.mem_of_getElem? (i := 2) rfl) rfl dX8_type_39 ?_
      refine x_top S (y := nI (L + 1)) (by rw [xst_parse_L]; exact xst_add_L _ _ _) ?_
      exact x_iretW S hlocks hP hS hr rfl (⟨by rw [xp_type, if_pos c_7, if_pos (by omega)], by rw [xst_type, hLe, if_pos ⟨c_7, by omega⟩]⟩) dX8_type_42
    · refine lv_bipush (v := (-4)) hx hb dX8_type_24 (by decide) ?_
      exact x_iretW S hlocks hP hS hr rfl (⟨by rw [xp_type, if_pos c_7, if_neg (by omega)], by rw [xst_type, if_neg (fun q => by have := q.2; omega)]⟩) dX8_type_26
  · refine lv_bipush (v := (-2)) hx hb dX8_type_10 (by decide) ?_
    exact x_iretW S hlocks hP hS hr rfl (⟨by rw [xp_type, if_neg c_7], by rw [xst_type, if_neg (fun q => c_7 q.1)]⟩) dX8_type_12
set_option maxHeartbeats 4000000 in
set_option maxRecDepth 100000 in
theorem c_X8_wipe (l : Launch) {D : va_G} {K : Nat → ClassId} {α : Nat → Nat} (σ : Nat → Nat → Int32) (hI : xw_I 42 α)   (hC : xIC σ) : Met l yX8_wipe wsX8_wipe (xrm 5) (va_Pc [.ref (α 0)] (xPre D K 42 α (xC α K) σ)) (xQi D 42 α (xC α K) (fun r τ => r = nI (xLC σ) ∧ τ = xst_parse (va_up σ 9 (upd (σ 9) 1 (nI 0))) 0)) 0 0 (xw_R 42 α) := by
  refine Met.ofW (cc := cX8_wipe) (maxL := 1) (ret := (some .int)) (by decide) rfl ?_
  intro p e s m args below meth c s₁ B hml hv
  obtain ⟨rfl, hK, hP⟩ := hv
  have S : CallFix p m c cX8_wipe 1 s _ wsX8_wipe RX8 := ⟨B.exec, B.bytes, hml, findClass_of_methodNamed B.named, atoms_spec (ws := wsX8_wipe) B.pre⟩
  have hx := S.1
  have hb := S.2.1
  have hr := B.returns
  have hlocks := B.notSynchronized
  have hS : va_S (xw_R 42 α) s.heap s.heap [] := va_S.rf
  have hl := lv_entry ([.ref (α 0)]) (n := 1) (Nat.le_of_ble_eq_true rfl)
  rw [lg_entry_eq]
  generalize (lg_sl ([.ref (α 0)]) ++ List.replicate (1 - (lg_sl ([.ref (α 0)])).length) Slot.unset).toArray = ls at hl ⊢
  have hl : lv_has ls 1 [(0, .ref (α 0))] := hl
  have hPP := hP
  have hY := xIC_Y hC
  have hY12 := xIC_12 hC
  obtain ⟨⟨hL, hL9⟩, ⟨hF, hYr⟩, ⟨hcs, hcn, hc1, hc2⟩, ⟨hss, hsn, hs1, hs2⟩, hfe, hsh⟩ := hC
  generalize hLe : xLC σ = L at hL hL9 hF ⊢
  generalize hYe : xYC σ = Y at hY hY12 hYr ⊢
  generalize hcne : xcC σ = cn at hcs hcn hc1 hc2 ⊢
  generalize hsne : xsC σ = sn at hss hsn hs1 hs2 ⊢
  refine lv_aload_n hx hb dX8_wipe_0 rfl (lv_at hl 0 rfl) ?_
  refine x_get S (fun w h => List.mem_cons_of_mem _ (List.mem_append_left _ (List.mem_append_right _ h))) hK hP 0 (by omega) rfl rfl 1 (by decide) (List.mem_of_getElem? (i := 1) rfl) rfl dX8_wipe_1 ?_
  refine x_cVWi (As := []) (rest := []) S hK hP hS (fun _ h => h) 9 (by omega) rfl rfl (c_X1_clear l σ hI L  (by first | assumption | omega) (by first | assumption | omega)) (x_cwV (n0 := 0) (cq := (RX1, TX1, 4)) S gX8_wipe_X1_clear rfl (by decide +kernel) ⟨Nat.le_of_ble_eq_true rfl, Nat.le_of_ble_eq_true rfl⟩) rfl hl.1 rfl (Nat.le_of_ble_eq_true rfl) dX8_wipe_4 ⟨Nat.le_refl _, Nat.le_refl _⟩ (fun r_4 τ_4 H locs hr_4 hP hk_4 hS => ?_)
  obtain ⟨hr_4, hs_4⟩ := hr_4
  subst hr_4
  subst hs_4
  exact x_iretW S hlocks hP hS hr rfl (⟨rfl, rfl⟩) dX8_wipe_7
set_option maxHeartbeats 4000000 in
set_option maxRecDepth 100000 in
theorem c_X8_fault (l : Launch) {D : va_G} {K : Nat → ClassId} {α : Nat → Nat} (σ : Nat → Nat → Int32)   (hC : xIC σ) : Met l yX8_fault wsX8_fault (xrm 0) (va_Pc [.ref (α 0)] (xPre D K 42 α (xC α K) σ)) (vp_Si (fun r => r = xt_fault (σ 10) (xLC σ))) 0 0 (fun _ => False) := by
  refine Met.ofW (cc := cX8_fault) (maxL := 1) (ret := (some .int)) (by decide) rfl ?_
  intro p e s m args below meth c s₁ B hml hv
  obtain ⟨rfl, hK, hP⟩ := hv
  have S : CallFix p m c cX8_fault 1 s _ wsX8_fault RX8 := ⟨B.exec, B.bytes, hml, findClass_of_methodNamed B.named, atoms_spec (ws := wsX8_fault) B.pre⟩
  have hx := S.1
  have hb := S.2.1
  have hr := B.returns
  have hlocks := B.notSynchronized
  have hl := lv_entry ([.ref (α 0)]) (n := 1) (Nat.le_of_ble_eq_true rfl)
  rw [lg_entry_eq]
  generalize (lg_sl ([.ref (α 0)]) ++ List.replicate (1 - (lg_sl ([.ref (α 0)])).length) Slot.unset).toArray = ls at hl ⊢
  have hl : lv_has ls 1 [(0, .ref (α 0))] := hl
  have hPP := hP
  have hY := xIC_Y hC
  have hY12 := xIC_12 hC
  obtain ⟨⟨hL, hL9⟩, ⟨hF, hYr⟩, ⟨hcs, hcn, hc1, hc2⟩, ⟨hss, hsn, hs1, hs2⟩, hfe, hsh⟩ := hC
  generalize hLe : xLC σ = L at hL hL9 hF ⊢
  generalize hYe : xYC σ = Y at hY hY12 hYr ⊢
  generalize hcne : xcC σ = cn at hcs hcn hc1 hc2 ⊢
  generalize hsne : xsC σ = sn at hss hsn hs1 hs2 ⊢
  refine lv_aload_n hx hb dX8_fault_0 rfl (lv_at hl 0 rfl) ?_
  refine x_get S (fun w h => List.mem_cons_of_mem _ (List.mem_append_left _ (List.mem_append_right _ h))) hK hP 0 (by omega) rfl rfl 1 (by decide) (List.mem_of_getElem? (i := 1) rfl) rfl dX8_fault_1 ?_
  refine x_get S (fun w h => List.mem_cons_of_mem _ (List.mem_append_right _ h)) hK hP 9 (by omega) rfl rfl 3 (by decide) (List.mem_of_getElem? (i := 2) rfl) rfl dX8_fault_4 ?_
  exact x_iretR S hlocks hr rfl (hF) dX8_fault_7
set_option maxHeartbeats 4000000 in
set_option maxRecDepth 100000 in
theorem c_X8_read (l : Launch) {D : va_G} {K : Nat → ClassId} {α : Nat → Nat} (σ : Nat → Nat → Int32) (hI : xw_I 42 α) (x : Int32)  (hC : xIC σ) : Met l yX8_read wsX8_read (xrm 5) (va_Pc [.ref (α 0), .int x] (xPre D K 42 α (xC α K) σ)) (xQi D 42 α (xC α K) (fun r τ => r = xp_read (xVC σ) (xJC σ) (xLC σ) x ∧ τ = xst_read σ x)) 0 0 (xw_R 42 α) := by
  refine Met.ofW (cc := cX8_read) (maxL := 3) (ret := (some .int)) (by decide) rfl ?_
  intro p e s m args below meth c s₁ B hml hv
  obtain ⟨rfl, hK, hP⟩ := hv
  have S : CallFix p m c cX8_read 3 s _ wsX8_read RX8 := ⟨B.exec, B.bytes, hml, findClass_of_methodNamed B.named, atoms_spec (ws := wsX8_read) B.pre⟩
  have hx := S.1
  have hb := S.2.1
  have hr := B.returns
  have hlocks := B.notSynchronized
  have hS : va_S (xw_R 42 α) s.heap s.heap [] := va_S.rf
  have hl := lv_entry ([.ref (α 0), .int x]) (n := 3) (Nat.le_of_ble_eq_true rfl)
  rw [lg_entry_eq]
  generalize (lg_sl ([.ref (α 0), .int x]) ++ List.replicate (3 - (lg_sl ([.ref (α 0), .int x])).length) Slot.unset).toArray = ls at hl ⊢
  have hl : lv_has ls 3 [(0, .ref (α 0)), (1, .int x)] := hl
  have hPP := hP
  have hY := xIC_Y hC
  have hY12 := xIC_12 hC
  obtain ⟨⟨hL, hL9⟩, ⟨hF, hYr⟩, ⟨hcs, hcn, hc1, hc2⟩, ⟨hss, hsn, hs1, hs2⟩, hfe, hsh⟩ := hC
  generalize hLe : xLC σ = L at hL hL9 hF ⊢
  generalize hYe : xYC σ = Y at hY hY12 hYr ⊢
  generalize hcne : xcC σ = cn at hcs hcn hc1 hc2 ⊢
  generalize hsne : xsC σ = sn at hss hsn hs1 hs2 ⊢
  refine lv_iload_n hx hb dX8_read_0 rfl (lv_at hl 1 rfl) ?_
  refine lv_iconst (v := nI 4) hx hb dX8_read_1 (by decide) ?_
  refine x_cSi (As := [.int x, .int (nI 4)]) (rest := []) S (c_X8_isBelow l x (nI 4)  ) (x_cwS (n0 := 2) S gX8_read_X8_isBelow rfl (by decide +kernel) ⟨Nat.le_of_ble_eq_true rfl, Nat.le_of_ble_eq_true rfl⟩) rfl hl.1 rfl (Nat.le_of_ble_eq_true rfl) dX8_read_2 ⟨Nat.le_refl _, Nat.le_refl _⟩ (fun r_2 hr_2 => ?_)
  subst hr_2
  refine x_if_neB (tgt := 11) S dX8_read_5 (by decide) (fun c_5 => ?_) (fun c_5 => ?_)
  · obtain ⟨w, hw, rfl⟩ := xin_of c_5 (by omega)
    refine lv_aload_n hx hb dX8_read_11 rfl (lv_at hl 0 rfl) ?_
    refine x_get S (fun w h => List.mem_cons_of_mem _ (List.mem_append_left _ (List.mem_append_left _ (List.mem_append_right _ h)))) hK hP 0 (by omega) rfl rfl 7 (by decide) (List.mem_of_getElem? (i := 1) rfl) rfl dX8_read_12 ?_
    refine lv_iload_n hx hb dX8_read_15 rfl (lv_at hl 1 rfl) ?_
    refine x_aald S hK hP 33 2 (by omega) rfl rfl rfl (by first | assumption | omega) (by omega) rfl dX8_read_16 ?_
    refine lv_astore_n (lv' := [(2, .ref (α (34 + 2 * w))), (0, .ref (α 0)), (1, .int (nI w))]) hx hb dX8_read_17 rfl hl (by decide) rfl (fun ls hl => ?_)
    refine lv_aload_n hx hb dX8_read_18 rfl (lv_at hl 0 rfl) ?_
    refine x_get S (fun w h => List.mem_cons_of_mem _ (List.mem_append_left _ (List.mem_append_right _ h))) hK hP (34 + 2 * w) (by omega) (xC_s (by first | assumption | omega) _) rfl 1 (by decide) (List.mem_of_getElem? (i := 2) rfl) rfl dX8_read_19 ?_
    refine lv_if_eq (tgt := 31) hx hb dX8_read_22 (by decide) (fun c_22 => ?_) (fun c_22 => ?_)
    · have c_22 : xVC σ w 1 = 0 := c_22
      refine lv_aload_n hx hb dX8_read_31 rfl (lv_at hl 0 rfl) ?_
      refine x_cVRi (As := []) (rest := []) S hK hP (34 + 2 * w) (by omega) (xC_s (by first | assumption | omega) _) rfl (c_X5_holdsYear l σ w (xnat (σ (34 + 2 * w)) 3)  (by first | assumption | omega) ((hsh w (by omega)).2.2.2) ((hsh w (by omega)).2.2.1)) (x_cwV (n0 := 0) (cq := (RX5, TX5, 4)) S gX8_read_X5_holdsYear rfl (by decide +kernel) ⟨Nat.le_of_ble_eq_true rfl, Nat.le_of_ble_eq_true rfl⟩) rfl hl.1 rfl (Nat.le_of_ble_eq_true rfl) dX8_read_32 ⟨Nat.le_refl _, Nat.le_refl _⟩ (fun r_32 hr_32 => ?_)
      subst hr_32
      refine x_if_neB (tgt := 41) S dX8_read_35 (by decide) (fun c_35 => ?_) (fun c_35 => ?_)
      · have c_35 : xs_hold (xnat (xVC σ w) 3) (xJC σ w) := c_35
        refine lv_aload_n hx hb dX8_read_41 rfl (lv_at hl 1 rfl) ?_
        refine x_get S (fun w h => List.mem_cons_of_mem _ (List.mem_append_left _ (List.mem_append_left _ (List.mem_append_right _ h)))) hK hP 0 (by omega) rfl rfl 1 (by decide) (List.mem_of_getElem? (i := 3) rfl) rfl dX8_read_42 ?_
        refine x_cVRi (As := []) (rest := []) S hK hP 9 (by omega) rfl rfl (c_X1_room l σ   ) (x_cwV (n0 := 0) (cq := (RX1, TX1, 4)) S gX8_read_X1_room rfl (by decide +kernel) ⟨Nat.le_of_ble_eq_true rfl, Nat.le_of_ble_eq_true rfl⟩) rfl hl.1 rfl (Nat.le_of_ble_eq_true rfl) dX8_read_45 ⟨Nat.le_refl _, Nat.le_refl _⟩ (fun r_45 hr_45 => ?_)
        subst hr_45
        refine x_top S (y := nI (90 - L)) (by rw [hL]; exact nI_90 hL9) ?_
        refine lv_aload_n hx hb dX8_read_48 rfl (lv_at hl 1 rfl) ?_
        refine x_get S (fun w h => List.mem_cons_of_mem _ (List.mem_append_left _ (List.mem_append_left _ (List.mem_append_right _ h)))) hK hP 0 (by omega) rfl rfl 1 (by decide) (List.mem_of_getElem? (i := 3) rfl) rfl dX8_read_49 ?_
        refine x_cVRi (As := []) (rest := [.int (nI (90 - L))]) S hK hP 9 (by omega) rfl rfl (c_X1_bytesForYear l σ L  (by first | assumption | omega) (by first | assumption | omega)) (x_cwV (n0 := 0) (cq := (RX1, TX1, 4)) S gX8_read_X1_bytesForYear rfl (by decide +kernel) ⟨Nat.le_of_ble_eq_true rfl, Nat.le_of_ble_eq_true rfl⟩) rfl hl.1 rfl (Nat.le_of_ble_eq_true rfl) dX8_read_52 ⟨Nat.le_refl _, Nat.le_refl _⟩ (fun r_52 hr_52 => ?_)
        subst hr_52
        have hif := xyb_or L
        refine x_icmpN_ge (tgt := 61) S dX8_read_55 (by decide) (by omega) (by omega) (fun c_55 => ?_) (fun c_55 => ?_)
        · refine lv_aload_n hx hb dX8_read_61 rfl (lv_at hl 1 rfl) ?_
          refine x_get S (fun w h => List.mem_cons_of_mem _ (List.mem_append_left _ (List.mem_append_left _ (List.mem_append_right _ h)))) hK hP 0 (by omega) rfl rfl 1 (by decide) (List.mem_of_getElem? (i := 3) rfl) rfl dX8_read_62 ?_
          refine lv_aload_n hx hb dX8_read_65 rfl (lv_at hl 0 rfl) ?_
          refine x_cVWv (As := [.ref (α (34 + 2 * w))]) (rest := []) S hK hP hS (fun _ h => h) 9 (by omega) rfl rfl (c_X1_appendYear l σ hI w L  (by first | assumption | omega) (by first | assumption | omega) (by omega)) (x_cwV (n0 := 1) (cq := (RX1, TX1, 4)) S gX8_read_X1_appendYear rfl (by decide +kernel) ⟨Nat.le_of_ble_eq_true rfl, Nat.le_of_ble_eq_true rfl⟩) rfl hl.1 rfl (Nat.le_of_ble_eq_true rfl) dX8_read_66 ⟨Nat.le_refl _, Nat.le_refl _⟩ (fun τ_66 H locs hr_66 hP hk_66 hS => ?_)
          subst hr_66
          refine lv_aload_n hx hb dX8_read_69 rfl (lv_at hl 1 rfl) ?_
          refine x_get S (fun w h => List.mem_cons_of_mem _ (List.mem_append_left _ (List.mem_append_left _ (List.mem_append_right _ h)))) hK hP 0 (by omega) rfl rfl 1 (by decide) (List.mem_of_getElem? (i := 3) rfl) rfl dX8_read_70 ?_
          refine x_get S (fun w h => List.mem_cons_of_mem _ (List.mem_append_right _ h)) hK hP 9 (by omega) rfl rfl 1 (by decide) (List.mem_of_getElem? (i := 4) rfl) rfl dX8_read_73 ?_
          refine x_top S (y := nI (L + xyb L)) (xst_ry_L hL) ?_
          exact x_iretW S hlocks hP hS hr rfl (⟨by rw [xp_read, if_pos (xin_nI (by omega) (by omega)), cN_nI (by omega), if_neg (not_not_intro c_22), if_pos c_35, if_pos (by omega)], by rw [xst_read, hLe, if_pos (xin_nI (by omega) (by omega)), cN_nI (by omega), if_neg (not_not_intro c_22), if_pos ⟨c_35, by omega⟩]⟩) dX8_read_76
        · refine lv_bipush (v := (-4)) hx hb dX8_read_58 (by decide) ?_
          exact x_iretW S hlocks hP hS hr rfl (⟨by rw [xp_read, if_pos (xin_nI (by omega) (by omega)), cN_nI (by omega), if_neg (not_not_intro c_22), if_pos c_35, if_neg (by omega)], by rw [xst_read, hLe, if_pos (xin_nI (by omega) (by omega)), cN_nI (by omega), if_neg (not_not_intro c_22), if_neg (fun q => by have := q.2; omega)]⟩) dX8_read_60
      · have c_35 : ¬ xs_hold (xnat (xVC σ w) 3) (xJC σ w) := c_35
        refine lv_bipush (v := (-3)) hx hb dX8_read_38 (by decide) ?_
        exact x_iretW S hlocks hP hS hr rfl (⟨by rw [xp_read, if_pos (xin_nI (by omega) (by omega)), cN_nI (by omega), if_neg (not_not_intro c_22), if_neg c_35], by rw [xst_read, if_pos (xin_nI (by omega) (by omega)), cN_nI (by omega), if_neg (not_not_intro c_22), if_neg (fun q => c_35 q.1)]⟩) dX8_read_40
    · have c_22 : ¬ xVC σ w 1 = 0 := c_22
      refine lv_aload_n hx hb dX8_read_25 rfl (lv_at hl 1 rfl) ?_
      refine lv_iconst (v := nI 1) hx hb dX8_read_26 (by decide) ?_
      refine x_cVWi (As := [.int (nI 1)]) (rest := []) S hK hP hS (fun _ h => h) 0 (by omega) rfl rfl (c_X8_found l σ hI (nI 1)  ) (x_cwV (n0 := 1) (cq := (RX8, TX8, 9)) S gX8_read_X8_found rfl (by decide +kernel) ⟨Nat.le_of_ble_eq_true rfl, Nat.le_of_ble_eq_true rfl⟩) rfl hl.1 rfl (Nat.le_of_ble_eq_true rfl) dX8_read_27 ⟨Nat.le_refl _, Nat.le_refl _⟩ (fun r_27 τ_27 H locs hr_27 hP hk_27 hS => ?_)
      obtain ⟨hr_27, hs_27⟩ := hr_27
      subst hr_27
      subst hs_27
      exact x_iretW S hlocks hP hS hr rfl (⟨by rw [xp_read, if_pos (xin_nI (by omega) (by omega)), cN_nI (by omega), if_pos c_22]; rfl, by rw [xst_read, if_pos (xin_nI (by omega) (by omega)), cN_nI (by omega), if_pos c_22]⟩) dX8_read_30
  · refine lv_bipush (v := (-2)) hx hb dX8_read_8 (by decide) ?_
    exact x_iretW S hlocks hP hS hr rfl (⟨by rw [xp_read, if_neg c_5], by rw [xst_read, if_neg c_5]⟩) dX8_read_10
set_option maxHeartbeats 4000000 in
set_option maxRecDepth 100000 in
theorem c_X8_borne (l : Launch) {D : va_G} {K : Nat → ClassId} {α : Nat → Nat} (σ : Nat → Nat → Int32) (x0 : Int32) (x1 : Int32)  (hC : xIC σ) : Met l yX8_borne wsX8_borne (xrm 2) (va_Pc [.ref (α 0), .int x0, .int x1] (xPre D K 42 α (xC α K) σ)) (vp_Si (fun r => r = xp_borne (σ 10) (xYC σ) x0 x1)) 0 0 (fun _ => False) := by
  refine Met.ofW (cc := cX8_borne) (maxL := 3) (ret := (some .int)) (by decide) rfl ?_
  intro p e s m args below meth c s₁ B hml hv
  obtain ⟨rfl, hK, hP⟩ := hv
  have S : CallFix p m c cX8_borne 3 s _ wsX8_borne RX8 := ⟨B.exec, B.bytes, hml, findClass_of_methodNamed B.named, atoms_spec (ws := wsX8_borne) B.pre⟩
  have hx := S.1
  have hb := S.2.1
  have hr := B.returns
  have hlocks := B.notSynchronized
  have hl := lv_entry ([.ref (α 0), .int x0, .int x1]) (n := 3) (Nat.le_of_ble_eq_true rfl)
  rw [lg_entry_eq]
  generalize (lg_sl ([.ref (α 0), .int x0, .int x1]) ++ List.replicate (3 - (lg_sl ([.ref (α 0), .int x0, .int x1])).length) Slot.unset).toArray = ls at hl ⊢
  have hl : lv_has ls 3 [(0, .ref (α 0)), (1, .int x0), (2, .int x1)] := hl
  have hPP := hP
  have hY := xIC_Y hC
  have hY12 := xIC_12 hC
  obtain ⟨⟨hL, hL9⟩, ⟨hF, hYr⟩, ⟨hcs, hcn, hc1, hc2⟩, ⟨hss, hsn, hs1, hs2⟩, hfe, hsh⟩ := hC
  generalize hLe : xLC σ = L at hL hL9 hF ⊢
  generalize hYe : xYC σ = Y at hY hY12 hYr ⊢
  generalize hcne : xcC σ = cn at hcs hcn hc1 hc2 ⊢
  generalize hsne : xsC σ = sn at hss hsn hs1 hs2 ⊢
  refine lv_iload_n hx hb dX8_borne_0 rfl (lv_at hl 1 rfl) ?_
  refine x_cSi (As := [.int x0]) (rest := []) S (c_X8_isShip l x0  ) (x_cwS (n0 := 1) S gX8_borne_X8_isShip rfl (by decide +kernel) ⟨Nat.le_of_ble_eq_true rfl, Nat.le_of_ble_eq_true rfl⟩) rfl hl.1 rfl (Nat.le_of_ble_eq_true rfl) dX8_borne_1 ⟨Nat.le_refl _, Nat.le_refl _⟩ (fun r_1 hr_1 => ?_)
  subst hr_1
  refine x_if_eqB (tgt := 15) S dX8_borne_4 (by decide) (fun c_4 => ?_) (fun c_4 => ?_)
  · refine lv_bipush (v := (-2)) hx hb dX8_borne_15 (by decide) ?_
    exact x_iretR S hlocks hr rfl (by first | rw [xp_borne, if_neg (fun q => c_4 q.1)] | rw [xp_borne, if_neg (fun q => c_12 q.2)]) dX8_borne_17
  · refine lv_aload_n hx hb dX8_borne_7 rfl (lv_at hl 0 rfl) ?_
    refine lv_iload_n hx hb dX8_borne_8 rfl (lv_at hl 2 rfl) ?_
    refine x_cVRi (As := [.int x1]) (rest := []) S hK hP 0 (by omega) rfl rfl (c_X8_isYear l σ x1 Y  (by first | assumption | omega)) (x_cwV (n0 := 1) (cq := (RX8, TX8, 9)) S gX8_borne_X8_isYear rfl (by decide +kernel) ⟨Nat.le_of_ble_eq_true rfl, Nat.le_of_ble_eq_true rfl⟩) rfl hl.1 rfl (Nat.le_of_ble_eq_true rfl) dX8_borne_9 ⟨Nat.le_refl _, Nat.le_refl _⟩ (fun r_9 hr_9 => ?_)
    subst hr_9
    refine x_if_neB (tgt := 18) S dX8_borne_12 (by decide) (fun c_12 => ?_) (fun c_12 => ?_)
    · obtain ⟨h, hh, rfl⟩ := xin_of c_4 (by omega)
      obtain ⟨y, hy, rfl⟩ := xin_of c_12 (by omega)
      refine lv_aload_n hx hb dX8_borne_18 rfl (lv_at hl 0 rfl) ?_
      refine x_get S (fun w h => List.mem_cons_of_mem _ (List.mem_append_left _ (List.mem_append_right _ h))) hK hP 0 (by omega) rfl rfl 1 (by decide) (List.mem_of_getElem? (i := 1) rfl) rfl dX8_borne_19 ?_
      refine lv_iload_n hx hb dX8_borne_22 rfl (lv_at hl 1 rfl) ?_
      refine lv_iload_n hx hb dX8_borne_23 rfl (lv_at hl 2 rfl) ?_
      refine x_cVRi (As := [.int (nI h), .int (nI y)]) (rest := []) S hK hP 9 (by omega) rfl rfl (c_X1_nameOf l σ h y Y  (by first | assumption | omega) (by first | assumption | omega) (by first | assumption | omega) (by first | assumption | omega)) (x_cwV (n0 := 2) (cq := (RX1, TX1, 4)) S gX8_borne_X1_nameOf rfl (by decide +kernel) ⟨Nat.le_of_ble_eq_true rfl, Nat.le_of_ble_eq_true rfl⟩) rfl hl.1 rfl (Nat.le_of_ble_eq_true rfl) dX8_borne_24 ⟨Nat.le_refl _, Nat.le_refl _⟩ (fun r_24 hr_24 => ?_)
      subst hr_24
      exact x_iretR S hlocks hr rfl (by rw [xp_borne, if_pos ⟨xin_nI (by omega) (by omega), xin_nI (by omega) (by omega)⟩, cN_nI (by omega), cN_nI (by omega)]) dX8_borne_27
    · refine lv_bipush (v := (-2)) hx hb dX8_borne_15 (by decide) ?_
      exact x_iretR S hlocks hr rfl (by first | rw [xp_borne, if_neg (fun q => c_4 q.1)] | rw [xp_borne, if_neg (fun q => c_12 q.2)]) dX8_borne_17
set_option maxHeartbeats 4000000 in
set_option maxRecDepth 100000 in
theorem c_X8_purse (l : Launch) {D : va_G} {K : Nat → ClassId} {α : Nat → Nat} (σ : Nat → Nat → Int32) (x0 : Int32) (x1 : Int32)  (hC : xIC σ) : Met l yX8_purse wsX8_purse (xrm 3) (va_Pc [.ref (α 0), .int x0, .int x1] (xPre D K 42 α (xC α K) σ)) (vp_Si (fun r => r = xp_purse (xFC σ) (σ 10) (xYC σ) x0 x1)) 0 0 (fun _ => False) := by
  refine Met.ofW (cc := cX8_purse) (maxL := 3) (ret := (some .int)) (by decide) rfl ?_
  intro p e s m args below meth c s₁ B hml hv
  obtain ⟨rfl, hK, hP⟩ := hv
  have S : CallFix p m c cX8_purse 3 s _ wsX8_purse RX8 := ⟨B.exec, B.bytes, hml, findClass_of_methodNamed B.named, atoms_spec (ws := wsX8_purse) B.pre⟩
  have hx := S.1
  have hb := S.2.1
  have hr := B.returns
  have hlocks := B.notSynchronized
  have hl := lv_entry ([.ref (α 0), .int x0, .int x1]) (n := 3) (Nat.le_of_ble_eq_true rfl)
  rw [lg_entry_eq]
  generalize (lg_sl ([.ref (α 0), .int x0, .int x1]) ++ List.replicate (3 - (lg_sl ([.ref (α 0), .int x0, .int x1])).length) Slot.unset).toArray = ls at hl ⊢
  have hl : lv_has ls 3 [(0, .ref (α 0)), (1, .int x0), (2, .int x1)] := hl
  have hPP := hP
  have hY := xIC_Y hC
  have hY12 := xIC_12 hC
  obtain ⟨⟨hL, hL9⟩, ⟨hF, hYr⟩, ⟨hcs, hcn, hc1, hc2⟩, ⟨hss, hsn, hs1, hs2⟩, hfe, hsh⟩ := hC
  generalize hLe : xLC σ = L at hL hL9 hF ⊢
  generalize hYe : xYC σ = Y at hY hY12 hYr ⊢
  generalize hcne : xcC σ = cn at hcs hcn hc1 hc2 ⊢
  generalize hsne : xsC σ = sn at hss hsn hs1 hs2 ⊢
  refine lv_iload_n hx hb dX8_purse_0 rfl (lv_at hl 1 rfl) ?_
  refine x_cSi (As := [.int x0]) (rest := []) S (c_X8_isShip l x0  ) (x_cwS (n0 := 1) S gX8_purse_X8_isShip rfl (by decide +kernel) ⟨Nat.le_of_ble_eq_true rfl, Nat.le_of_ble_eq_true rfl⟩) rfl hl.1 rfl (Nat.le_of_ble_eq_true rfl) dX8_purse_1 ⟨Nat.le_refl _, Nat.le_refl _⟩ (fun r_1 hr_1 => ?_)
  subst hr_1
  refine x_if_eqB (tgt := 15) S dX8_purse_4 (by decide) (fun c_4 => ?_) (fun c_4 => ?_)
  · refine lv_bipush (v := (-2)) hx hb dX8_purse_15 (by decide) ?_
    exact x_iretR S hlocks hr rfl (by first | rw [xp_purse, if_neg (fun q => c_4 q.1)] | rw [xp_purse, if_neg (fun q => c_12 q.2)]) dX8_purse_17
  · refine lv_aload_n hx hb dX8_purse_7 rfl (lv_at hl 0 rfl) ?_
    refine lv_iload_n hx hb dX8_purse_8 rfl (lv_at hl 2 rfl) ?_
    refine x_cVRi (As := [.int x1]) (rest := []) S hK hP 0 (by omega) rfl rfl (c_X8_isSpan l σ x1 Y  (by first | assumption | omega)) (x_cwV (n0 := 1) (cq := (RX8, TX8, 9)) S gX8_purse_X8_isSpan rfl (by decide +kernel) ⟨Nat.le_of_ble_eq_true rfl, Nat.le_of_ble_eq_true rfl⟩) rfl hl.1 rfl (Nat.le_of_ble_eq_true rfl) dX8_purse_9 ⟨Nat.le_refl _, Nat.le_refl _⟩ (fun r_9 hr_9 => ?_)
    subst hr_9
    refine x_if_neB (tgt := 18) S dX8_purse_12 (by decide) (fun c_12 => ?_) (fun c_12 => ?_)
    · obtain ⟨h, hh, rfl⟩ := xin_of c_4 (by omega)
      obtain ⟨k, hk, rfl⟩ := xin_of c_12 (by omega)
      refine lv_aload_n hx hb dX8_purse_18 rfl (lv_at hl 0 rfl) ?_
      refine x_get S (fun w h => List.mem_cons_of_mem _ (List.mem_append_left _ (List.mem_append_left _ (List.mem_append_left _ (List.mem_append_right _ h))))) hK hP 0 (by omega) rfl rfl 2 (by decide) (List.mem_of_getElem? (i := 1) rfl) rfl dX8_purse_19 ?_
      refine lv_iload_n hx hb dX8_purse_22 rfl (lv_at hl 1 rfl) ?_
      refine lv_iload_n hx hb dX8_purse_23 rfl (lv_at hl 2 rfl) ?_
      refine x_cVRi (As := [.int (nI h), .int (nI k)]) (rest := []) S hK hP 11 (by omega) rfl rfl (c_X7_earnedBy l σ h k Y  (by first | assumption | omega) (by first | assumption | omega) (by first | assumption | omega) (by first | assumption | omega)) (x_cwV (n0 := 2) (cq := (RX7, TX7, 2)) S gX8_purse_X7_earnedBy rfl (by decide +kernel) ⟨Nat.le_of_ble_eq_true rfl, Nat.le_of_ble_eq_true rfl⟩) rfl hl.1 rfl (Nat.le_of_ble_eq_true rfl) dX8_purse_24 ⟨Nat.le_refl _, Nat.le_refl _⟩ (fun r_24 hr_24 => ?_)
      subst hr_24
      exact x_iretR S hlocks hr rfl (by rw [xp_purse, if_pos ⟨xin_nI (by omega) (by omega), xin_nI (by omega) (by omega)⟩, cN_nI (by omega), cN_nI (by omega)]) dX8_purse_27
    · refine lv_bipush (v := (-2)) hx hb dX8_purse_15 (by decide) ?_
      exact x_iretR S hlocks hr rfl (by first | rw [xp_purse, if_neg (fun q => c_4 q.1)] | rw [xp_purse, if_neg (fun q => c_12 q.2)]) dX8_purse_17
set_option maxHeartbeats 4000000 in
set_option maxRecDepth 100000 in
theorem c_X8_been (l : Launch) {D : va_G} {K : Nat → ClassId} {α : Nat → Nat} (σ : Nat → Nat → Int32) (x0 : Int32) (x1 : Int32)  (hC : xIC σ) : Met l yX8_been wsX8_been (xrm 2) (va_Pc [.ref (α 0), .int x0, .int x1] (xPre D K 42 α (xC α K) σ)) (vp_Si (fun r => r = xp_been (σ 10) (xYC σ) x0 x1)) 0 0 (fun _ => False) := by
  refine Met.ofW (cc := cX8_been) (maxL := 3) (ret := (some .int)) (by decide) rfl ?_
  intro p e s m args below meth c s₁ B hml hv
  obtain ⟨rfl, hK, hP⟩ := hv
  have S : CallFix p m c cX8_been 3 s _ wsX8_been RX8 := ⟨B.exec, B.bytes, hml, findClass_of_methodNamed B.named, atoms_spec (ws := wsX8_been) B.pre⟩
  have hx := S.1
  have hb := S.2.1
  have hr := B.returns
  have hlocks := B.notSynchronized
  have hl := lv_entry ([.ref (α 0), .int x0, .int x1]) (n := 3) (Nat.le_of_ble_eq_true rfl)
  rw [lg_entry_eq]
  generalize (lg_sl ([.ref (α 0), .int x0, .int x1]) ++ List.replicate (3 - (lg_sl ([.ref (α 0), .int x0, .int x1])).length) Slot.unset).toArray = ls at hl ⊢
  have hl : lv_has ls 3 [(0, .ref (α 0)), (1, .int x0), (2, .int x1)] := hl
  have hPP := hP
  have hY := xIC_Y hC
  have hY12 := xIC_12 hC
  obtain ⟨⟨hL, hL9⟩, ⟨hF, hYr⟩, ⟨hcs, hcn, hc1, hc2⟩, ⟨hss, hsn, hs1, hs2⟩, hfe, hsh⟩ := hC
  generalize hLe : xLC σ = L at hL hL9 hF ⊢
  generalize hYe : xYC σ = Y at hY hY12 hYr ⊢
  generalize hcne : xcC σ = cn at hcs hcn hc1 hc2 ⊢
  generalize hsne : xsC σ = sn at hss hsn hs1 hs2 ⊢
  refine lv_iload_n hx hb dX8_been_0 rfl (lv_at hl 1 rfl) ?_
  refine x_cSi (As := [.int x0]) (rest := []) S (c_X8_isShip l x0  ) (x_cwS (n0 := 1) S gX8_been_X8_isShip rfl (by decide +kernel) ⟨Nat.le_of_ble_eq_true rfl, Nat.le_of_ble_eq_true rfl⟩) rfl hl.1 rfl (Nat.le_of_ble_eq_true rfl) dX8_been_1 ⟨Nat.le_refl _, Nat.le_refl _⟩ (fun r_1 hr_1 => ?_)
  subst hr_1
  refine x_if_eqB (tgt := 15) S dX8_been_4 (by decide) (fun c_4 => ?_) (fun c_4 => ?_)
  · refine lv_bipush (v := (-2)) hx hb dX8_been_15 (by decide) ?_
    exact x_iretR S hlocks hr rfl (by first | rw [xp_been, if_neg (fun q => c_4 q.1)] | rw [xp_been, if_neg (fun q => c_12 q.2)]) dX8_been_17
  · refine lv_aload_n hx hb dX8_been_7 rfl (lv_at hl 0 rfl) ?_
    refine lv_iload_n hx hb dX8_been_8 rfl (lv_at hl 2 rfl) ?_
    refine x_cVRi (As := [.int x1]) (rest := []) S hK hP 0 (by omega) rfl rfl (c_X8_isSpan l σ x1 Y  (by first | assumption | omega)) (x_cwV (n0 := 1) (cq := (RX8, TX8, 9)) S gX8_been_X8_isSpan rfl (by decide +kernel) ⟨Nat.le_of_ble_eq_true rfl, Nat.le_of_ble_eq_true rfl⟩) rfl hl.1 rfl (Nat.le_of_ble_eq_true rfl) dX8_been_9 ⟨Nat.le_refl _, Nat.le_refl _⟩ (fun r_9 hr_9 => ?_)
    subst hr_9
    refine x_if_neB (tgt := 18) S dX8_been_12 (by decide) (fun c_12 => ?_) (fun c_12 => ?_)
    · obtain ⟨h, hh, rfl⟩ := xin_of c_4 (by omega)
      obtain ⟨k, hk, rfl⟩ := xin_of c_12 (by omega)
      refine lv_aload_n hx hb dX8_been_18 rfl (lv_at hl 0 rfl) ?_
      refine x_get S (fun w h => List.mem_cons_of_mem _ (List.mem_append_left _ (List.mem_append_left _ (List.mem_append_right _ h)))) hK hP 0 (by omega) rfl rfl 2 (by decide) (List.mem_of_getElem? (i := 1) rfl) rfl dX8_been_19 ?_
      refine lv_iload_n hx hb dX8_been_22 rfl (lv_at hl 1 rfl) ?_
      refine lv_iload_n hx hb dX8_been_23 rfl (lv_at hl 2 rfl) ?_
      refine x_cVRi (As := [.int (nI h), .int (nI k)]) (rest := []) S hK hP 11 (by omega) rfl rfl (c_X7_namesBorne l σ h k Y  (by first | assumption | omega) (by first | assumption | omega) (by first | assumption | omega) (by first | assumption | omega)) (x_cwV (n0 := 2) (cq := (RX7, TX7, 2)) S gX8_been_X7_namesBorne rfl (by decide +kernel) ⟨Nat.le_of_ble_eq_true rfl, Nat.le_of_ble_eq_true rfl⟩) rfl hl.1 rfl (Nat.le_of_ble_eq_true rfl) dX8_been_24 ⟨Nat.le_refl _, Nat.le_refl _⟩ (fun r_24 hr_24 => ?_)
      subst hr_24
      exact x_iretR S hlocks hr rfl (by rw [xp_been, if_pos ⟨xin_nI (by omega) (by omega), xin_nI (by omega) (by omega)⟩, cN_nI (by omega), cN_nI (by omega)]) dX8_been_27
    · refine lv_bipush (v := (-2)) hx hb dX8_been_15 (by decide) ?_
      exact x_iretR S hlocks hr rfl (by first | rw [xp_been, if_neg (fun q => c_4 q.1)] | rw [xp_been, if_neg (fun q => c_12 q.2)]) dX8_been_17
set_option maxHeartbeats 4000000 in
set_option maxRecDepth 100000 in
theorem c_X8_debt (l : Launch) {D : va_G} {K : Nat → ClassId} {α : Nat → Nat} (σ : Nat → Nat → Int32) (x0 : Int32) (x1 : Int32) (x2 : Int32)  (hC : xIC σ) : Met l yX8_debt wsX8_debt (xrm 4) (va_Pc [.ref (α 0), .int x0, .int x1, .int x2] (xPre D K 42 α (xC α K) σ)) (vp_Si (fun r => r = xp_debt (xFC σ) (σ 10) (xYC σ) x0 x1 x2)) 0 0 (fun _ => False) := by
  refine Met.ofW (cc := cX8_debt) (maxL := 4) (ret := (some .int)) (by decide) rfl ?_
  intro p e s m args below meth c s₁ B hml hv
  obtain ⟨rfl, hK, hP⟩ := hv
  have S : CallFix p m c cX8_debt 4 s _ wsX8_debt RX8 := ⟨B.exec, B.bytes, hml, findClass_of_methodNamed B.named, atoms_spec (ws := wsX8_debt) B.pre⟩
  have hx := S.1
  have hb := S.2.1
  have hr := B.returns
  have hlocks := B.notSynchronized
  have hl := lv_entry ([.ref (α 0), .int x0, .int x1, .int x2]) (n := 4) (Nat.le_of_ble_eq_true rfl)
  rw [lg_entry_eq]
  generalize (lg_sl ([.ref (α 0), .int x0, .int x1, .int x2]) ++ List.replicate (4 - (lg_sl ([.ref (α 0), .int x0, .int x1, .int x2])).length) Slot.unset).toArray = ls at hl ⊢
  have hl : lv_has ls 4 [(0, .ref (α 0)), (1, .int x0), (2, .int x1), (3, .int x2)] := hl
  have hPP := hP
  have hY := xIC_Y hC
  have hY12 := xIC_12 hC
  obtain ⟨⟨hL, hL9⟩, ⟨hF, hYr⟩, ⟨hcs, hcn, hc1, hc2⟩, ⟨hss, hsn, hs1, hs2⟩, hfe, hsh⟩ := hC
  generalize hLe : xLC σ = L at hL hL9 hF ⊢
  generalize hYe : xYC σ = Y at hY hY12 hYr ⊢
  generalize hcne : xcC σ = cn at hcs hcn hc1 hc2 ⊢
  generalize hsne : xsC σ = sn at hss hsn hs1 hs2 ⊢
  refine lv_iload_n hx hb dX8_debt_0 rfl (lv_at hl 1 rfl) ?_
  refine x_cSi (As := [.int x0]) (rest := []) S (c_X8_isShip l x0  ) (x_cwS (n0 := 1) S gX8_debt_X8_isShip rfl (by decide +kernel) ⟨Nat.le_of_ble_eq_true rfl, Nat.le_of_ble_eq_true rfl⟩) rfl hl.1 rfl (Nat.le_of_ble_eq_true rfl) dX8_debt_1 ⟨Nat.le_refl _, Nat.le_refl _⟩ (fun r_1 hr_1 => ?_)
  subst hr_1
  refine x_if_eqB (tgt := 23) S dX8_debt_4 (by decide) (fun c_4 => ?_) (fun c_4 => ?_)
  · refine lv_bipush (v := (-2)) hx hb dX8_debt_23 (by decide) ?_
    exact x_iretR S hlocks hr rfl (by first | rw [xp_debt, if_neg (fun q => c_4 q.1)] | rw [xp_debt, if_neg (fun q => c_12 q.2.1)] | rw [xp_debt, if_neg (fun q => c_20 q.2.2)]) dX8_debt_25
  · refine lv_aload_n hx hb dX8_debt_7 rfl (lv_at hl 0 rfl) ?_
    refine lv_iload_n hx hb dX8_debt_8 rfl (lv_at hl 2 rfl) ?_
    refine x_cVRi (As := [.int x1]) (rest := []) S hK hP 0 (by omega) rfl rfl (c_X8_isSpan l σ x1 Y  (by first | assumption | omega)) (x_cwV (n0 := 1) (cq := (RX8, TX8, 9)) S gX8_debt_X8_isSpan rfl (by decide +kernel) ⟨Nat.le_of_ble_eq_true rfl, Nat.le_of_ble_eq_true rfl⟩) rfl hl.1 rfl (Nat.le_of_ble_eq_true rfl) dX8_debt_9 ⟨Nat.le_refl _, Nat.le_refl _⟩ (fun r_9 hr_9 => ?_)
    subst hr_9
    refine x_if_eqB (tgt := 23) S dX8_debt_12 (by decide) (fun c_12 => ?_) (fun c_12 => ?_)
    · refine lv_bipush (v := (-2)) hx hb dX8_debt_23 (by decide) ?_
      exact x_iretR S hlocks hr rfl (by first | rw [xp_debt, if_neg (fun q => c_4 q.1)] | rw [xp_debt, if_neg (fun q => c_12 q.2.1)] | rw [xp_debt, if_neg (fun q => c_20 q.2.2)]) dX8_debt_25
    · refine lv_iload_n hx hb dX8_debt_15 rfl (lv_at hl 3 rfl) ?_
      refine lv_iconst (v := nI 2) hx hb dX8_debt_16 (by decide) ?_
      refine x_cSi (As := [.int x2, .int (nI 2)]) (rest := []) S (c_X8_isBelow l x2 (nI 2)  ) (x_cwS (n0 := 2) S gX8_debt_X8_isBelow rfl (by decide +kernel) ⟨Nat.le_of_ble_eq_true rfl, Nat.le_of_ble_eq_true rfl⟩) rfl hl.1 rfl (Nat.le_of_ble_eq_true rfl) dX8_debt_17 ⟨Nat.le_refl _, Nat.le_refl _⟩ (fun r_17 hr_17 => ?_)
      subst hr_17
      refine x_if_neB (tgt := 26) S dX8_debt_20 (by decide) (fun c_20 => ?_) (fun c_20 => ?_)
      · obtain ⟨n, hn, rfl⟩ := xin_of c_4 (by omega)
        obtain ⟨k, hk, rfl⟩ := xin_of c_12 (by omega)
        refine lv_iload_n hx hb dX8_debt_26 rfl (lv_at hl 3 rfl) ?_
        refine lv_if_ne (tgt := 42) hx hb dX8_debt_27 (by decide) (fun c_27 => ?_) (fun c_27 => ?_)
        · refine lv_aload_n hx hb dX8_debt_42 rfl (lv_at hl 0 rfl) ?_
          refine x_get S (fun w h => List.mem_cons_of_mem _ (List.mem_append_left _ (List.mem_append_left _ (List.mem_append_left _ (List.mem_append_right _ h))))) hK hP 0 (by omega) rfl rfl 2 (by decide) (List.mem_of_getElem? (i := 1) rfl) rfl dX8_debt_43 ?_
          refine lv_iload_n hx hb dX8_debt_46 rfl (lv_at hl 1 rfl) ?_
          refine lv_iload_n hx hb dX8_debt_47 rfl (lv_at hl 2 rfl) ?_
          refine x_cVRi (As := [.int (nI n), .int (nI k)]) (rest := []) S hK hP 11 (by omega) rfl rfl (c_X7_shameOf l σ n k Y  (by first | assumption | omega) (by first | assumption | omega) (by first | assumption | omega) (by first | assumption | omega)) (x_cwV (n0 := 2) (cq := (RX7, TX7, 2)) S gX8_debt_X7_shameOf rfl (by decide +kernel) ⟨Nat.le_of_ble_eq_true rfl, Nat.le_of_ble_eq_true rfl⟩) rfl hl.1 rfl (Nat.le_of_ble_eq_true rfl) dX8_debt_48 ⟨Nat.le_refl _, Nat.le_refl _⟩ (fun r_48 hr_48 => ?_)
          subst hr_48
          exact x_iretR S hlocks hr rfl (by rw [xp_debt, if_pos ⟨xin_nI (by omega) (by omega), xin_nI (by omega) (by omega), c_20⟩, cN_nI (by omega), cN_nI (by omega)]; first | exact (if_neg c_27).symm | exact (if_pos c_27).symm) dX8_debt_51
        · refine lv_aload_n hx hb dX8_debt_30 rfl (lv_at hl 0 rfl) ?_
          refine x_get S (fun w h => List.mem_cons_of_mem _ (List.mem_append_left _ (List.mem_append_left _ (List.mem_append_left _ (List.mem_append_right _ h))))) hK hP 0 (by omega) rfl rfl 2 (by decide) (List.mem_of_getElem? (i := 1) rfl) rfl dX8_debt_31 ?_
          refine lv_iload_n hx hb dX8_debt_34 rfl (lv_at hl 1 rfl) ?_
          refine lv_iload_n hx hb dX8_debt_35 rfl (lv_at hl 2 rfl) ?_
          refine x_cVRi (As := [.int (nI n), .int (nI k)]) (rest := []) S hK hP 11 (by omega) rfl rfl (c_X7_debtOf l σ n k Y  (by first | assumption | omega) (by first | assumption | omega) (by first | assumption | omega) (by first | assumption | omega)) (x_cwV (n0 := 2) (cq := (RX7, TX7, 2)) S gX8_debt_X7_debtOf rfl (by decide +kernel) ⟨Nat.le_of_ble_eq_true rfl, Nat.le_of_ble_eq_true rfl⟩) rfl hl.1 rfl (Nat.le_of_ble_eq_true rfl) dX8_debt_36 ⟨Nat.le_refl _, Nat.le_refl _⟩ (fun r_36 hr_36 => ?_)
          subst hr_36
          refine lv_goto (tgt := 51) hx hb dX8_debt_39 (by decide) ?_
          exact x_iretR S hlocks hr rfl (by rw [xp_debt, if_pos ⟨xin_nI (by omega) (by omega), xin_nI (by omega) (by omega), c_20⟩, cN_nI (by omega), cN_nI (by omega)]; first | exact (if_neg c_27).symm | exact (if_pos c_27).symm) dX8_debt_51
      · refine lv_bipush (v := (-2)) hx hb dX8_debt_23 (by decide) ?_
        exact x_iretR S hlocks hr rfl (by first | rw [xp_debt, if_neg (fun q => c_4 q.1)] | rw [xp_debt, if_neg (fun q => c_12 q.2.1)] | rw [xp_debt, if_neg (fun q => c_20 q.2.2)]) dX8_debt_25
set_option maxHeartbeats 4000000 in
set_option maxRecDepth 100000 in
theorem c_X8_home (l : Launch) {D : va_G} {K : Nat → ClassId} {α : Nat → Nat} (σ : Nat → Nat → Int32) (x0 : Int32)  (hC : xIC σ) : Met l yX8_home wsX8_home (xrm 2) (va_Pc [.ref (α 0), .int x0] (xPre D K 42 α (xC α K) σ)) (vp_Si (fun r => r = xp_home (σ 10) (xYC σ) x0)) 0 0 (fun _ => False) := by
  refine Met.ofW (cc := cX8_home) (maxL := 2) (ret := (some .int)) (by decide) rfl ?_
  intro p e s m args below meth c s₁ B hml hv
  obtain ⟨rfl, hK, hP⟩ := hv
  have S : CallFix p m c cX8_home 2 s _ wsX8_home RX8 := ⟨B.exec, B.bytes, hml, findClass_of_methodNamed B.named, atoms_spec (ws := wsX8_home) B.pre⟩
  have hx := S.1
  have hb := S.2.1
  have hr := B.returns
  have hlocks := B.notSynchronized
  have hl := lv_entry ([.ref (α 0), .int x0]) (n := 2) (Nat.le_of_ble_eq_true rfl)
  rw [lg_entry_eq]
  generalize (lg_sl ([.ref (α 0), .int x0]) ++ List.replicate (2 - (lg_sl ([.ref (α 0), .int x0])).length) Slot.unset).toArray = ls at hl ⊢
  have hl : lv_has ls 2 [(0, .ref (α 0)), (1, .int x0)] := hl
  have hPP := hP
  have hY := xIC_Y hC
  have hY12 := xIC_12 hC
  obtain ⟨⟨hL, hL9⟩, ⟨hF, hYr⟩, ⟨hcs, hcn, hc1, hc2⟩, ⟨hss, hsn, hs1, hs2⟩, hfe, hsh⟩ := hC
  generalize hLe : xLC σ = L at hL hL9 hF ⊢
  generalize hYe : xYC σ = Y at hY hY12 hYr ⊢
  generalize hcne : xcC σ = cn at hcs hcn hc1 hc2 ⊢
  generalize hsne : xsC σ = sn at hss hsn hs1 hs2 ⊢
  refine lv_iload_n hx hb dX8_home_0 rfl (lv_at hl 1 rfl) ?_
  refine x_cSi (As := [.int x0]) (rest := []) S (c_X8_isShip l x0  ) (x_cwS (n0 := 1) S gX8_home_X8_isShip rfl (by decide +kernel) ⟨Nat.le_of_ble_eq_true rfl, Nat.le_of_ble_eq_true rfl⟩) rfl hl.1 rfl (Nat.le_of_ble_eq_true rfl) dX8_home_1 ⟨Nat.le_refl _, Nat.le_refl _⟩ (fun r_1 hr_1 => ?_)
  subst hr_1
  refine x_if_neB (tgt := 10) S dX8_home_4 (by decide) (fun c_4 => ?_) (fun c_4 => ?_)
  · obtain ⟨h, hh, rfl⟩ := xin_of c_4 (by omega)
    refine lv_aload_n hx hb dX8_home_10 rfl (lv_at hl 0 rfl) ?_
    refine x_get S (fun w h => List.mem_cons_of_mem _ (List.mem_append_left _ (List.mem_append_left _ (List.mem_append_right _ h)))) hK hP 0 (by omega) rfl rfl 2 (by decide) (List.mem_of_getElem? (i := 1) rfl) rfl dX8_home_11 ?_
    refine lv_iload_n hx hb dX8_home_14 rfl (lv_at hl 1 rfl) ?_
    refine lv_iload_n hx hb dX8_home_15 rfl (lv_at hl 1 rfl) ?_
    refine x_cVRi (As := [.int (nI h), .int (nI h)]) (rest := []) S hK hP 11 (by omega) rfl rfl (c_X7_firstYearAs l σ h h Y  (by first | assumption | omega) (by first | assumption | omega) (by first | assumption | omega) (by first | assumption | omega) (by first | assumption | omega)) (x_cwV (n0 := 2) (cq := (RX7, TX7, 2)) S gX8_home_X7_firstYearAs rfl (by decide +kernel) ⟨Nat.le_of_ble_eq_true rfl, Nat.le_of_ble_eq_true rfl⟩) rfl hl.1 rfl (Nat.le_of_ble_eq_true rfl) dX8_home_16 ⟨Nat.le_refl _, Nat.le_refl _⟩ (fun r_16 hr_16 => ?_)
    subst hr_16
    exact x_iretR S hlocks hr rfl (by rw [xp_home, if_pos (xin_nI (by omega) (by omega)), cN_nI (by omega)]) dX8_home_19
  · refine lv_bipush (v := (-2)) hx hb dX8_home_7 (by decide) ?_
    exact x_iretR S hlocks hr rfl (by rw [xp_home, if_neg c_4]) dX8_home_9
set_option maxHeartbeats 4000000 in
set_option maxRecDepth 100000 in
theorem c_X8_other (l : Launch) {D : va_G} {K : Nat → ClassId} {α : Nat → Nat} (σ : Nat → Nat → Int32) (x0 : Int32) (x1 : Int32)  (hC : xIC σ) : Met l yX8_other wsX8_other (xrm 2) (va_Pc [.ref (α 0), .int x0, .int x1] (xPre D K 42 α (xC α K) σ)) (vp_Si (fun r => r = xp_other (σ 10) (xYC σ) x0 x1)) 0 0 (fun _ => False) := by
  refine Met.ofW (cc := cX8_other) (maxL := 3) (ret := (some .int)) (by decide) rfl ?_
  intro p e s m args below meth c s₁ B hml hv
  obtain ⟨rfl, hK, hP⟩ := hv
  have S : CallFix p m c cX8_other 3 s _ wsX8_other RX8 := ⟨B.exec, B.bytes, hml, findClass_of_methodNamed B.named, atoms_spec (ws := wsX8_other) B.pre⟩
  have hx := S.1
  have hb := S.2.1
  have hr := B.returns
  have hlocks := B.notSynchronized
  have hl := lv_entry ([.ref (α 0), .int x0, .int x1]) (n := 3) (Nat.le_of_ble_eq_true rfl)
  rw [lg_entry_eq]
  generalize (lg_sl ([.ref (α 0), .int x0, .int x1]) ++ List.replicate (3 - (lg_sl ([.ref (α 0), .int x0, .int x1])).length) Slot.unset).toArray = ls at hl ⊢
  have hl : lv_has ls 3 [(0, .ref (α 0)), (1, .int x0), (2, .int x1)] := hl
  have hPP := hP
  have hY := xIC_Y hC
  have hY12 := xIC_12 hC
  obtain ⟨⟨hL, hL9⟩, ⟨hF, hYr⟩, ⟨hcs, hcn, hc1, hc2⟩, ⟨hss, hsn, hs1, hs2⟩, hfe, hsh⟩ := hC
  generalize hLe : xLC σ = L at hL hL9 hF ⊢
  generalize hYe : xYC σ = Y at hY hY12 hYr ⊢
  generalize hcne : xcC σ = cn at hcs hcn hc1 hc2 ⊢
  generalize hsne : xsC σ = sn at hss hsn hs1 hs2 ⊢
  refine lv_iload_n hx hb dX8_other_0 rfl (lv_at hl 1 rfl) ?_
  refine x_cSi (As := [.int x0]) (rest := []) S (c_X8_isShip l x0  ) (x_cwS (n0 := 1) S gX8_other_X8_isShip rfl (by decide +kernel) ⟨Nat.le_of_ble_eq_true rfl, Nat.le_of_ble_eq_true rfl⟩) rfl hl.1 rfl (Nat.le_of_ble_eq_true rfl) dX8_other_1 ⟨Nat.le_refl _, Nat.le_refl _⟩ (fun r_1 hr_1 => ?_)
  subst hr_1
  refine x_if_eqB (tgt := 19) S dX8_other_4 (by decide) (fun c_4 => ?_) (fun c_4 => ?_)
  · refine lv_bipush (v := (-2)) hx hb dX8_other_19 (by decide) ?_
    exact x_iretR S hlocks hr rfl (by first | rw [xp_other, if_neg (fun q => c_4 q.1)] | rw [xp_other, if_neg (fun q => c_11 q.2.1)] | rw [xp_other, if_neg (fun q => q.2.2 c_16)]) dX8_other_21
  · refine lv_iload_n hx hb dX8_other_7 rfl (lv_at hl 2 rfl) ?_
    refine x_cSi (As := [.int x1]) (rest := []) S (c_X8_isShip l x1  ) (x_cwS (n0 := 1) S gX8_other_X8_isShip rfl (by decide +kernel) ⟨Nat.le_of_ble_eq_true rfl, Nat.le_of_ble_eq_true rfl⟩) rfl hl.1 rfl (Nat.le_of_ble_eq_true rfl) dX8_other_8 ⟨Nat.le_refl _, Nat.le_refl _⟩ (fun r_8 hr_8 => ?_)
    subst hr_8
    refine x_if_eqB (tgt := 19) S dX8_other_11 (by decide) (fun c_11 => ?_) (fun c_11 => ?_)
    · refine lv_bipush (v := (-2)) hx hb dX8_other_19 (by decide) ?_
      exact x_iretR S hlocks hr rfl (by first | rw [xp_other, if_neg (fun q => c_4 q.1)] | rw [xp_other, if_neg (fun q => c_11 q.2.1)] | rw [xp_other, if_neg (fun q => q.2.2 c_16)]) dX8_other_21
    · refine lv_iload_n hx hb dX8_other_14 rfl (lv_at hl 1 rfl) ?_
      refine lv_iload_n hx hb dX8_other_15 rfl (lv_at hl 2 rfl) ?_
      refine lv_icmp_ne (tgt := 22) hx hb dX8_other_16 (by decide) (fun c_16 => ?_) (fun c_16 => ?_)
      · obtain ⟨a, ha, rfl⟩ := xin_of c_4 (by omega)
        obtain ⟨b, hb6, rfl⟩ := xin_of c_11 (by omega)
        refine lv_aload_n hx hb dX8_other_22 rfl (lv_at hl 0 rfl) ?_
        refine x_get S (fun w h => List.mem_cons_of_mem _ (List.mem_append_left _ (List.mem_append_left _ (List.mem_append_right _ h)))) hK hP 0 (by omega) rfl rfl 2 (by decide) (List.mem_of_getElem? (i := 1) rfl) rfl dX8_other_23 ?_
        refine lv_iload_n hx hb dX8_other_26 rfl (lv_at hl 1 rfl) ?_
        refine lv_iload_n hx hb dX8_other_27 rfl (lv_at hl 2 rfl) ?_
        refine x_cVRi (As := [.int (nI a), .int (nI b)]) (rest := []) S hK hP 11 (by omega) rfl rfl (c_X7_firstYearAs l σ a b Y  (by first | assumption | omega) (by first | assumption | omega) (by first | assumption | omega) (by first | assumption | omega) (by first | assumption | omega)) (x_cwV (n0 := 2) (cq := (RX7, TX7, 2)) S gX8_other_X7_firstYearAs rfl (by decide +kernel) ⟨Nat.le_of_ble_eq_true rfl, Nat.le_of_ble_eq_true rfl⟩) rfl hl.1 rfl (Nat.le_of_ble_eq_true rfl) dX8_other_28 ⟨Nat.le_refl _, Nat.le_refl _⟩ (fun r_28 hr_28 => ?_)
        subst hr_28
        exact x_iretR S hlocks hr rfl (by rw [xp_other, if_pos ⟨xin_nI (by omega) (by omega), xin_nI (by omega) (by omega), c_16⟩, cN_nI (by omega), cN_nI (by omega)]) dX8_other_31
      · refine lv_bipush (v := (-2)) hx hb dX8_other_19 (by decide) ?_
        exact x_iretR S hlocks hr rfl (by first | rw [xp_other, if_neg (fun q => c_4 q.1)] | rw [xp_other, if_neg (fun q => c_11 q.2.1)] | rw [xp_other, if_neg (fun q => q.2.2 c_16)]) dX8_other_21

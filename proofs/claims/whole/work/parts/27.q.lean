set_option maxHeartbeats 4000000 in
set_option maxRecDepth 100000 in
theorem c_X9_lacks (l : Launch) {D : va_G} {K : Nat → ClassId} {α : Nat → Nat} (σ : Nat → Nat → Int32) (w : Nat) (f : Int32) (x : Int32) (z : Nat)  (hw : w < 4) (hz : σ 17 w = nI z) (hz48 : z ≤ 48) : Met l yX9_lacks wsX9_lacks (xrm 1) (va_Pc [.ref (α 0), .int (nI w), .int f, .int x] (xPre D K 20 α (xM α K) σ)) (vp_Si (fun r => r = xs_find (xVM σ w) f x)) 0 0 (fun _ => False) := by
  refine Met.ofW (cc := cX9_lacks) (maxL := 4) (ret := (some .int)) (by decide) rfl ?_
  intro p e s m args below meth c s₁ B hml hv
  obtain ⟨rfl, hK, hP⟩ := hv
  have S : CallFix p m c cX9_lacks 4 s _ wsX9_lacks RX9 := ⟨B.exec, B.bytes, hml, findClass_of_methodNamed B.named, atoms_spec (ws := wsX9_lacks) B.pre⟩
  have hx := S.1
  have hb := S.2.1
  have hr := B.returns
  have hlocks := B.notSynchronized
  have hl := lv_entry ([.ref (α 0), .int (nI w), .int f, .int x]) (n := 4) (Nat.le_of_ble_eq_true rfl)
  rw [lg_entry_eq]
  generalize (lg_sl ([.ref (α 0), .int (nI w), .int f, .int x]) ++ List.replicate (4 - (lg_sl ([.ref (α 0), .int (nI w), .int f, .int x])).length) Slot.unset).toArray = ls at hl ⊢
  have hl : lv_has ls 4 [(0, .ref (α 0)), (1, .int (nI w)), (2, .int f), (3, .int x)] := hl
  have hPP := hP
  refine lv_aload_n hx hb dX9_lacks_0 rfl (lv_at hl 0 rfl) ?_
  refine x_get S (fun w h => List.mem_cons_of_mem _ (List.mem_append_right _ h)) hK hP 0 (by omega) rfl rfl 18 (by decide) (List.mem_of_getElem? (i := 1) rfl) rfl dX9_lacks_1 ?_
  refine lv_iload_n hx hb dX9_lacks_4 rfl (lv_at hl 1 rfl) ?_
  refine x_zald S hK hP 15 (by omega) rfl (by first | assumption | omega) (by omega) dX9_lacks_5 ?_
  refine lv_if_ne (tgt := 13) hx hb dX9_lacks_6 (by decide) (fun c_6 => ?_) (fun c_6 => ?_)
  · refine lv_aload_n hx hb dX9_lacks_13 rfl (lv_at hl 0 rfl) ?_
    refine x_get S (fun w h => List.mem_cons_of_mem _ (List.mem_append_right _ h)) hK hP 0 (by omega) rfl rfl 19 (by decide) (List.mem_of_getElem? (i := 2) rfl) rfl dX9_lacks_14 ?_
    refine lv_iload_n hx hb dX9_lacks_17 rfl (lv_at hl 1 rfl) ?_
    refine x_iald S hK hP 16 (by omega) rfl (by first | assumption | omega) (by omega) dX9_lacks_18 ?_
    refine lv_iload_n hx hb dX9_lacks_19 rfl (lv_at hl 2 rfl) ?_
    refine lv_icmp_eq (tgt := 27) hx hb dX9_lacks_20 (by decide) (fun c_20 => ?_) (fun c_20 => ?_)
    · have c_20 : xVM σ w 2 = f := c_20
      refine lv_iload_n hx hb dX9_lacks_27 rfl (lv_at hl 3 rfl) ?_
      refine lv_iconst (v := nI 0) hx hb dX9_lacks_28 (by decide) ?_
      refine lv_aload_n hx hb dX9_lacks_29 rfl (lv_at hl 0 rfl) ?_
      refine x_get S (fun w h => List.mem_cons_of_mem _ (List.mem_append_right _ h)) hK hP 0 (by omega) rfl rfl 20 (by decide) (List.mem_of_getElem? (i := 3) rfl) rfl dX9_lacks_30 ?_
      refine lv_iload_n hx hb dX9_lacks_33 rfl (lv_at hl 1 rfl) ?_
      refine x_iald S hK hP 17 (by omega) rfl (by first | assumption | omega) (by omega) dX9_lacks_34 ?_
      refine x_top S (y := nI z) (hz) ?_
      refine lv_iconst (v := nI 1) hx hb dX9_lacks_35 (by decide) ?_
      refine lv_isub hx hb dX9_lacks_36 ?_
      refine x_cSi (As := [.int x, .int (nI 0), .int ((nI z) - (nI 1))]) (rest := []) S (c_X9_in l x (nI 0) ((nI z) - (nI 1))  ) (x_cwS (n0 := 3) S gX9_lacks_X9_in rfl (by decide +kernel) ⟨Nat.le_of_ble_eq_true rfl, Nat.le_of_ble_eq_true rfl⟩) rfl hl.1 rfl (Nat.le_of_ble_eq_true rfl) dX9_lacks_37 ⟨Nat.le_refl _, Nat.le_refl _⟩ (fun r_37 hr_37 => ?_)
      subst hr_37
      refine x_if_eqB (tgt := 47) S dX9_lacks_40 (by decide) (fun c_40 => ?_) (fun c_40 => ?_)
      · refine lv_iconst (v := nI 2) hx hb dX9_lacks_47 (by decide) ?_
        exact x_iretR S hlocks hr rfl (by unfold xs_find; rw [if_neg (not_not_intro (xVM_0 c_6)), if_neg (not_not_intro c_20), xVM_3, hz, if_neg (fun q => c_40 ((xin_sub (by omega)).mpr q))]) dX9_lacks_48
      · refine lv_iconst (v := nI 0) hx hb dX9_lacks_43 (by decide) ?_
        refine lv_goto (tgt := 48) hx hb dX9_lacks_44 (by decide) ?_
        exact x_iretR S hlocks hr rfl (by unfold xs_find; rw [if_neg (not_not_intro (xVM_0 c_6)), if_neg (not_not_intro c_20), xVM_3, hz, if_pos ((xin_sub (by omega)).mp c_40)]) dX9_lacks_48
    · have c_20 : ¬ xVM σ w 2 = f := c_20
      refine lv_iconst (v := nI 3) hx hb dX9_lacks_23 (by decide) ?_
      refine lv_goto (tgt := 48) hx hb dX9_lacks_24 (by decide) ?_
      exact x_iretR S hlocks hr rfl (by unfold xs_find; rw [if_neg (not_not_intro (xVM_0 c_6)), if_pos c_20]) dX9_lacks_48
  · refine lv_iconst (v := nI 1) hx hb dX9_lacks_9 (by decide) ?_
    refine lv_goto (tgt := 48) hx hb dX9_lacks_10 (by decide) ?_
    exact x_iretR S hlocks hr rfl ((if_pos (xVM_1 c_6)).symm) dX9_lacks_48
set_option maxHeartbeats 4000000 in
set_option maxRecDepth 100000 in
theorem c_X9_keep (l : Launch) {D : va_G} {K : Nat → ClassId} {α : Nat → Nat} (σ : Nat → Nat → Int32) (hI : xw_I 20 α) (w : Nat) (i : Nat) (v : Int32) (f : Nat)  (hw : w < 4) (hi : i < 48) (hf : σ 16 w = nI f) (hf3 : f < 3) : Met l yX9_keep wsX9_keep (xrm 0) (va_Pc [.ref (α 0), .int (nI w), .int (nI i), .int v] (xPre D K 20 α (xM α K) σ)) (xQv D 20 α (xM α K) (fun τ => τ = xst_keep σ w i f v)) 0 0 (xw_R 20 α) := by
  refine Met.ofW (cc := cX9_keep) (maxL := 4) (ret := none) (by decide) rfl ?_
  intro p e s m args below meth c s₁ B hml hv
  obtain ⟨rfl, hK, hP⟩ := hv
  have S : CallFix p m c cX9_keep 4 s _ wsX9_keep RX9 := ⟨B.exec, B.bytes, hml, findClass_of_methodNamed B.named, atoms_spec (ws := wsX9_keep) B.pre⟩
  have hx := S.1
  have hb := S.2.1
  have hr := B.returns
  have hlocks := B.notSynchronized
  have hS : va_S (xw_R 20 α) s.heap s.heap [] := va_S.rf
  have hl := lv_entry ([.ref (α 0), .int (nI w), .int (nI i), .int v]) (n := 4) (Nat.le_of_ble_eq_true rfl)
  rw [lg_entry_eq]
  generalize (lg_sl ([.ref (α 0), .int (nI w), .int (nI i), .int v]) ++ List.replicate (4 - (lg_sl ([.ref (α 0), .int (nI w), .int (nI i), .int v])).length) Slot.unset).toArray = ls at hl ⊢
  have hl : lv_has ls 4 [(0, .ref (α 0)), (1, .int (nI w)), (2, .int (nI i)), (3, .int v)] := hl
  have hPP := hP
  refine lv_aload_n hx hb dX9_keep_0 rfl (lv_at hl 0 rfl) ?_
  refine x_get S (fun w h => List.mem_cons_of_mem _ (List.mem_append_right _ h)) hK hP 0 (by omega) rfl rfl 21 (by decide) (List.mem_of_getElem? (i := 1) rfl) rfl dX9_keep_1 ?_
  refine lv_bipush (v := nI 48) hx hb dX9_keep_4 (by decide) ?_
  refine lv_iload_n hx hb dX9_keep_6 rfl (lv_at hl 1 rfl) ?_
  refine x_imulN S dX9_keep_7 ?_
  refine lv_iload_n hx hb dX9_keep_8 rfl (lv_at hl 2 rfl) ?_
  refine x_iaddN S dX9_keep_9 ?_
  refine lv_aload_n hx hb dX9_keep_10 rfl (lv_at hl 0 rfl) ?_
  refine x_get S (fun w h => List.mem_cons_of_mem _ (List.mem_append_right _ h)) hK hP 0 (by omega) rfl rfl 19 (by decide) (List.mem_of_getElem? (i := 2) rfl) rfl dX9_keep_11 ?_
  refine lv_iload_n hx hb dX9_keep_14 rfl (lv_at hl 1 rfl) ?_
  refine x_iald S hK hP 16 (by omega) rfl (by first | assumption | omega) (by omega) dX9_keep_15 ?_
  refine x_top S (y := nI f) (hf) ?_
  refine x_ifN_ne (tgt := 24) S dX9_keep_16 (by decide) (by omega) (fun c_16 => ?_) (fun c_16 => ?_)
  · refine lv_aload_n hx hb dX9_keep_24 rfl (lv_at hl 0 rfl) ?_
    refine x_get S (fun w h => List.mem_cons_of_mem _ (List.mem_append_right _ h)) hK hP 0 (by omega) rfl rfl 19 (by decide) (List.mem_of_getElem? (i := 2) rfl) rfl dX9_keep_25 ?_
    refine lv_iload_n hx hb dX9_keep_28 rfl (lv_at hl 1 rfl) ?_
    refine x_iald S hK hP 16 (by omega) rfl (by first | assumption | omega) (by omega) dX9_keep_29 ?_
    refine x_top S (y := nI f) (hf) ?_
    refine lv_iconst (v := nI 1) hx hb dX9_keep_30 (by decide) ?_
    refine x_icmpN_ne (tgt := 39) S dX9_keep_31 (by decide) (by omega) (by omega) (fun c_31 => ?_) (fun c_31 => ?_)
    · refine lv_iload_n hx hb dX9_keep_39 rfl (lv_at hl 3 rfl) ?_
      refine x_iast S hK hP hI hS 18 (by omega) (fun _ => rfl) (by first | assumption | omega) (by omega) dX9_keep_40 (fun H locs hP hS => ?_)
      exact x_vretW S hlocks hP hS hr (by unfold xst_keep; first | rfl | (rw [show f = 2 by omega]; rfl)) dX9_keep_41
    · refine lv_iload_n hx hb dX9_keep_34 rfl (lv_at hl 3 rfl) ?_
      refine lv_i2s hx hb dX9_keep_35 rfl ?_
      refine x_top S (y := xs_nar f v) (by rw [show f = 1 by omega]; rfl) ?_
      refine lv_goto (tgt := 40) hx hb dX9_keep_36 (by decide) ?_
      refine x_iast S hK hP hI hS 18 (by omega) (fun _ => rfl) (by first | assumption | omega) (by omega) dX9_keep_40 (fun H locs hP hS => ?_)
      exact x_vretW S hlocks hP hS hr (by unfold xst_keep; first | rfl | (rw [show f = 2 by omega]; rfl)) dX9_keep_41
  · refine lv_iload_n hx hb dX9_keep_19 rfl (lv_at hl 3 rfl) ?_
    refine lv_i2b hx hb dX9_keep_20 rfl ?_
    refine x_top S (y := xs_nar f v) (by rw [show f = 0 by omega]; rfl) ?_
    refine lv_goto (tgt := 40) hx hb dX9_keep_21 (by decide) ?_
    refine x_iast S hK hP hI hS 18 (by omega) (fun _ => rfl) (by first | assumption | omega) (by omega) dX9_keep_40 (fun H locs hP hS => ?_)
    exact x_vretW S hlocks hP hS hr (by unfold xst_keep; first | rfl | (rw [show f = 2 by omega]; rfl)) dX9_keep_41
set_option maxHeartbeats 4000000 in
set_option maxRecDepth 100000 in
theorem c_X9_lose (l : Launch) {D : va_G} {K : Nat → ClassId} {α : Nat → Nat} (σ : Nat → Nat → Int32) (hI : xw_I 20 α) (x : Int32)  (hC : xIM σ) : Met l yX9_lose wsX9_lose (xrm 2) (va_Pc [.ref (α 0), .int x] (xPre D K 20 α (xM α K) σ)) (xQi D 20 α (xM α K) (fun r τ => r = xp_lose (xVM σ) x ∧ τ = xst_mlose σ x)) 0 0 (xw_R 20 α) := by
  refine Met.ofW (cc := cX9_lose) (maxL := 2) (ret := (some .int)) (by decide) rfl ?_
  intro p e s m args below meth c s₁ B hml hv
  obtain ⟨rfl, hK, hP⟩ := hv
  have S : CallFix p m c cX9_lose 2 s _ wsX9_lose RX9 := ⟨B.exec, B.bytes, hml, findClass_of_methodNamed B.named, atoms_spec (ws := wsX9_lose) B.pre⟩
  have hx := S.1
  have hb := S.2.1
  have hr := B.returns
  have hlocks := B.notSynchronized
  have hS : va_S (xw_R 20 α) s.heap s.heap [] := va_S.rf
  have hl := lv_entry ([.ref (α 0), .int x]) (n := 2) (Nat.le_of_ble_eq_true rfl)
  rw [lg_entry_eq]
  generalize (lg_sl ([.ref (α 0), .int x]) ++ List.replicate (2 - (lg_sl ([.ref (α 0), .int x])).length) Slot.unset).toArray = ls at hl ⊢
  have hl : lv_has ls 2 [(0, .ref (α 0)), (1, .int x)] := hl
  have hPP := hP
  have hY := xIM_Y hC
  have hY12 := xIM_12 hC
  obtain ⟨⟨hL, hL9⟩, ⟨hcs, hcn, hc1, hc2⟩, ⟨hss, hsn, hs1, hs2⟩, hfe, hsh⟩ := id hC
  generalize hLe : xLM σ = L at hL hL9 ⊢
  generalize hYe : xYM σ = Y at hY hY12 ⊢
  generalize hcne : xcM σ = cn at hcs hcn hc1 hc2 ⊢
  generalize hsne : xsM σ = sn at hss hsn hs1 hs2 ⊢
  refine lv_iload_n hx hb dX9_lose_0 rfl (lv_at hl 1 rfl) ?_
  refine x_cSi (As := [.int x]) (rest := []) S (c_X9_isSheet l x  ) (x_cwS (n0 := 1) S gX9_lose_X9_isSheet rfl (by decide +kernel) ⟨Nat.le_of_ble_eq_true rfl, Nat.le_of_ble_eq_true rfl⟩) rfl hl.1 rfl (Nat.le_of_ble_eq_true rfl) dX9_lose_1 ⟨Nat.le_refl _, Nat.le_refl _⟩ (fun r_1 hr_1 => ?_)
  subst hr_1
  refine x_if_neB (tgt := 10) S dX9_lose_4 (by decide) (fun c_4 => ?_) (fun c_4 => ?_)
  · obtain ⟨w, hw, rfl⟩ := xin_of c_4 (by omega)
    refine lv_aload_n hx hb dX9_lose_10 rfl (lv_at hl 0 rfl) ?_
    refine x_get S (fun w h => List.mem_cons_of_mem _ (List.mem_append_right _ h)) hK hP 0 (by omega) rfl rfl 18 (by decide) (List.mem_of_getElem? (i := 1) rfl) rfl dX9_lose_11 ?_
    refine lv_iload_n hx hb dX9_lose_14 rfl (lv_at hl 1 rfl) ?_
    refine x_zald S hK hP 15 (by omega) rfl (by first | assumption | omega) (by omega) dX9_lose_15 ?_
    refine lv_if_ne (tgt := 25) hx hb dX9_lose_16 (by decide) (fun c_16 => ?_) (fun c_16 => ?_)
    · refine lv_aload_n hx hb dX9_lose_25 rfl (lv_at hl 0 rfl) ?_
      refine x_get S (fun w h => List.mem_cons_of_mem _ (List.mem_append_right _ h)) hK hP 0 (by omega) rfl rfl 18 (by decide) (List.mem_of_getElem? (i := 1) rfl) rfl dX9_lose_26 ?_
      refine lv_iload_n hx hb dX9_lose_29 rfl (lv_at hl 1 rfl) ?_
      refine lv_iconst (v := nI 0) hx hb dX9_lose_30 (by decide) ?_
      refine x_zast S hK hP hI hS 15 (by omega) (fun _ => rfl) rfl (by first | assumption | omega) (by omega) dX9_lose_31 (fun H locs hP hS => ?_)
      refine lv_aload_n hx hb dX9_lose_32 rfl (lv_at hl 0 rfl) ?_
      refine x_get S (fun w h => List.mem_cons_of_mem _ (List.mem_append_right _ h)) hK hP 0 (by omega) rfl rfl 20 (by decide) (List.mem_of_getElem? (i := 2) rfl) rfl dX9_lose_33 ?_
      refine lv_iload_n hx hb dX9_lose_36 rfl (lv_at hl 1 rfl) ?_
      refine x_iald S hK hP 17 (by omega) rfl (by first | assumption | omega) (by omega) dX9_lose_37 ?_
      refine x_top S (y := σ 17 w) (by rw [xup_n _ _ (by decide)]) ?_
      exact x_iretW S hlocks hP hS hr rfl (⟨by rw [xp_lose, if_pos (xin_nI (by omega) (by omega)), cN_nI (by omega), if_pos (xVM_0 c_16)]; rfl, by rw [xst_mlose, if_pos (xin_nI (by omega) (by omega)), cN_nI (by omega), if_pos (xVM_0 c_16)]⟩) dX9_lose_38
    · refine lv_aload_n hx hb dX9_lose_19 rfl (lv_at hl 0 rfl) ?_
      refine lv_iconst (v := nI 1) hx hb dX9_lose_20 (by decide) ?_
      refine x_cVWi (As := [.int (nI 1)]) (rest := []) S hK hP hS (fun _ h => h) 0 (by omega) rfl rfl (c_X9_meets l σ hI (nI 1)  ) (x_cwV (n0 := 1) (cq := (RX9, TX9, 24)) S gX9_lose_X9_meets rfl (by decide +kernel) ⟨Nat.le_of_ble_eq_true rfl, Nat.le_of_ble_eq_true rfl⟩) rfl hl.1 rfl (Nat.le_of_ble_eq_true rfl) dX9_lose_21 ⟨Nat.le_refl _, Nat.le_refl _⟩ (fun r_21 τ_21 H locs hr_21 hP hk_21 hS => ?_)
      obtain ⟨hr_21, hs_21⟩ := hr_21
      subst hr_21
      subst hs_21
      exact x_iretW S hlocks hP hS hr rfl (⟨by rw [xp_lose, if_pos (xin_nI (by omega) (by omega)), cN_nI (by omega), if_neg (xVM_1 c_16)]; rfl, by rw [xst_mlose, if_pos (xin_nI (by omega) (by omega)), cN_nI (by omega), if_neg (xVM_1 c_16)]⟩) dX9_lose_24
  · refine lv_bipush (v := (-2)) hx hb dX9_lose_7 (by decide) ?_
    exact x_iretW S hlocks hP hS hr rfl (⟨by rw [xp_lose, if_neg c_4], by rw [xst_mlose, if_neg c_4]⟩) dX9_lose_9
set_option maxHeartbeats 4000000 in
set_option maxRecDepth 100000 in
theorem c_X9_put (l : Launch) {D : va_G} {K : Nat → ClassId} {α : Nat → Nat} (σ : Nat → Nat → Int32) (hI : xw_I 20 α) (x0 : Int32) (x1 : Int32) (x2 : Int32) (x3 : Int32)  (hC : xIM σ) : Met l yX9_put wsX9_put (xrm 2) (va_Pc [.ref (α 0), .int x0, .int x1, .int x2, .int x3] (xPre D K 20 α (xM α K) σ)) (xQi D 20 α (xM α K) (fun r τ => r = xp_put (xVM σ) x0 x1 x2 ∧ τ = xst_mput σ x0 x1 x2 x3)) 0 0 (xw_R 20 α) := by
  refine Met.ofW (cc := cX9_put) (maxL := 6) (ret := (some .int)) (by decide) rfl ?_
  intro p e s m args below meth c s₁ B hml hv
  obtain ⟨rfl, hK, hP⟩ := hv
  have S : CallFix p m c cX9_put 6 s _ wsX9_put RX9 := ⟨B.exec, B.bytes, hml, findClass_of_methodNamed B.named, atoms_spec (ws := wsX9_put) B.pre⟩
  have hx := S.1
  have hb := S.2.1
  have hr := B.returns
  have hlocks := B.notSynchronized
  have hS : va_S (xw_R 20 α) s.heap s.heap [] := va_S.rf
  have hl := lv_entry ([.ref (α 0), .int x0, .int x1, .int x2, .int x3]) (n := 6) (Nat.le_of_ble_eq_true rfl)
  rw [lg_entry_eq]
  generalize (lg_sl ([.ref (α 0), .int x0, .int x1, .int x2, .int x3]) ++ List.replicate (6 - (lg_sl ([.ref (α 0), .int x0, .int x1, .int x2, .int x3])).length) Slot.unset).toArray = ls at hl ⊢
  have hl : lv_has ls 6 [(0, .ref (α 0)), (1, .int x0), (2, .int x1), (3, .int x2), (4, .int x3)] := hl
  have hPP := hP
  have hY := xIM_Y hC
  have hY12 := xIM_12 hC
  obtain ⟨⟨hL, hL9⟩, ⟨hcs, hcn, hc1, hc2⟩, ⟨hss, hsn, hs1, hs2⟩, hfe, hsh⟩ := id hC
  generalize hLe : xLM σ = L at hL hL9 ⊢
  generalize hYe : xYM σ = Y at hY hY12 ⊢
  generalize hcne : xcM σ = cn at hcs hcn hc1 hc2 ⊢
  generalize hsne : xsM σ = sn at hss hsn hs1 hs2 ⊢
  refine lv_iload_n hx hb dX9_put_0 rfl (lv_at hl 1 rfl) ?_
  refine x_cSi (As := [.int x0]) (rest := []) S (c_X9_isSheet l x0  ) (x_cwS (n0 := 1) S gX9_put_X9_isSheet rfl (by decide +kernel) ⟨Nat.le_of_ble_eq_true rfl, Nat.le_of_ble_eq_true rfl⟩) rfl hl.1 rfl (Nat.le_of_ble_eq_true rfl) dX9_put_1 ⟨Nat.le_refl _, Nat.le_refl _⟩ (fun r_1 hr_1 => ?_)
  subst hr_1
  refine x_if_eqB (tgt := 16) S dX9_put_4 (by decide) (fun c_4 => ?_) (fun c_4 => ?_)
  · refine lv_bipush (v := (-2)) hx hb dX9_put_16 (by decide) ?_
    exact x_iretW S hlocks hP hS hr rfl (by first | exact ⟨by rw [xp_put, if_neg (fun q => c_4 q.1)], by rw [xst_mput, if_neg (fun q => c_4 q.1)]⟩ | exact ⟨by rw [xp_put, if_neg (fun q => c_13 q.2)], by rw [xst_mput, if_neg (fun q => c_13 q.2)]⟩) dX9_put_18
  · refine lv_iload_n hx hb dX9_put_7 rfl (lv_at hl 2 rfl) ?_
    refine lv_iconst (v := nI 0) hx hb dX9_put_8 (by decide) ?_
    refine lv_iconst (v := nI 2) hx hb dX9_put_9 (by decide) ?_
    refine x_cSi (As := [.int x1, .int (nI 0), .int (nI 2)]) (rest := []) S (c_X9_in0 l x1 2  (by first | assumption | omega)) (x_cwS (n0 := 3) S gX9_put_X9_in rfl (by decide +kernel) ⟨Nat.le_of_ble_eq_true rfl, Nat.le_of_ble_eq_true rfl⟩) rfl hl.1 rfl (Nat.le_of_ble_eq_true rfl) dX9_put_10 ⟨Nat.le_refl _, Nat.le_refl _⟩ (fun r_10 hr_10 => ?_)
    subst hr_10
    refine x_if_neB (tgt := 19) S dX9_put_13 (by decide) (fun c_13 => ?_) (fun c_13 => ?_)
    · obtain ⟨w, hw, rfl⟩ := xin_of c_4 (by omega)
      have hz9 := hsh w (by omega)
      refine lv_aload_n hx hb dX9_put_19 rfl (lv_at hl 0 rfl) ?_
      refine lv_iload_n hx hb dX9_put_20 rfl (lv_at hl 1 rfl) ?_
      refine lv_iload_n hx hb dX9_put_21 rfl (lv_at hl 2 rfl) ?_
      refine lv_iload_n hx hb dX9_put_22 rfl (lv_at hl 3 rfl) ?_
      refine x_cVRi (As := [.int (nI w), .int x1, .int x2]) (rest := []) S hK hP 0 (by omega) rfl rfl (c_X9_lacks l σ w x1 x2 (xnat (σ 17) w)  (by first | assumption | omega) hz9.2.2.2 hz9.2.2.1) (x_cwV (n0 := 3) (cq := (RX9, TX9, 24)) S gX9_put_X9_lacks rfl (by decide +kernel) ⟨Nat.le_of_ble_eq_true rfl, Nat.le_of_ble_eq_true rfl⟩) rfl hl.1 rfl (Nat.le_of_ble_eq_true rfl) dX9_put_23 ⟨Nat.le_refl _, Nat.le_refl _⟩ (fun r_23 hr_23 => ?_)
      subst hr_23
      refine lv_istore (lv' := [(5, .int (xs_find (xVM σ w) x1 x2)), (0, .ref (α 0)), (1, .int (nI w)), (2, .int x1), (3, .int x2), (4, .int x3)]) hx hb dX9_put_26 hl (by decide) rfl (fun ls hl => ?_)
      refine lv_iload hx hb dX9_put_28 (lv_at hl 0 rfl) ?_
      refine lv_if_le (tgt := 40) hx hb dX9_put_30 (by decide) (fun c_30 => ?_) (fun c_30 => ?_)
      · have c_30 : xs_find (xVM σ w) x1 x2 = 0 := Int32.le_antisymm c_30 xs_find_pos
        obtain ⟨hf1, hf2, hf3⟩ := xs_find_0 c_30
        have hxz : xin x2 (xnat (σ 17) w) := ⟨hf3.1, by have h9 := hf3.2; rw [xVM_3, hz9.2.2.2] at h9; exact h9⟩
        obtain ⟨i, hi, rfl⟩ := xin_of hxz (by have := hz9.2.2.1; omega)
        have hi48 : i < 48 := by have := hz9.2.2.1; omega
        refine lv_aload_n hx hb dX9_put_40 rfl (lv_at hl 1 rfl) ?_
        refine lv_iload_n hx hb dX9_put_41 rfl (lv_at hl 2 rfl) ?_
        refine lv_iload_n hx hb dX9_put_42 rfl (lv_at hl 4 rfl) ?_
        refine lv_iload hx hb dX9_put_43 (lv_at hl 5 rfl) ?_
        refine x_cVWv (As := [.int (nI w), .int (nI i), .int x3]) (rest := []) S hK hP hS (fun _ h => h) 0 (by omega) rfl rfl (c_X9_keep l σ hI w i x3 (xnat (σ 16) w)  (by first | assumption | omega) (by first | assumption | omega) hz9.2.1.2 hz9.2.1.1) (x_cwV (n0 := 3) (cq := (RX9, TX9, 24)) S gX9_put_X9_keep rfl (by decide +kernel) ⟨Nat.le_of_ble_eq_true rfl, Nat.le_of_ble_eq_true rfl⟩) rfl hl.1 rfl (Nat.le_of_ble_eq_true rfl) dX9_put_45 ⟨Nat.le_refl _, Nat.le_refl _⟩ (fun τ_45 H locs hr_45 hP hk_45 hS => ?_)
        subst hr_45
        refine lv_iconst (v := nI 1) hx hb dX9_put_48 (by decide) ?_
        exact x_iretW S hlocks hP hS hr rfl (⟨by rw [xp_put, if_pos ⟨xin_nI (by omega) (by omega), c_13⟩, cN_nI (by omega), if_pos c_30]; rfl, by rw [xst_mput, if_pos ⟨xin_nI (by omega) (by omega), c_13⟩, cN_nI (by omega), if_pos c_30, cN_nI (by omega)]; rfl⟩) dX9_put_49
      · have c_30 : ¬ xs_find (xVM σ w) x1 x2 = 0 := fun q => c_30 (by rw [q]; decide)
        refine lv_aload_n hx hb dX9_put_33 rfl (lv_at hl 1 rfl) ?_
        refine lv_iload hx hb dX9_put_34 (lv_at hl 0 rfl) ?_
        refine x_cVWi (As := [.int (xs_find (xVM σ w) x1 x2)]) (rest := []) S hK hP hS (fun _ h => h) 0 (by omega) rfl rfl (c_X9_meets l σ hI (xs_find (xVM σ w) x1 x2)  ) (x_cwV (n0 := 1) (cq := (RX9, TX9, 24)) S gX9_put_X9_meets rfl (by decide +kernel) ⟨Nat.le_of_ble_eq_true rfl, Nat.le_of_ble_eq_true rfl⟩) rfl hl.1 rfl (Nat.le_of_ble_eq_true rfl) dX9_put_36 ⟨Nat.le_refl _, Nat.le_refl _⟩ (fun r_36 τ_36 H locs hr_36 hP hk_36 hS => ?_)
        obtain ⟨hr_36, hs_36⟩ := hr_36
        subst hr_36
        subst hs_36
        exact x_iretW S hlocks hP hS hr rfl (⟨by rw [xp_put, if_pos ⟨xin_nI (by omega) (by omega), c_13⟩, cN_nI (by omega), if_neg c_30], by rw [xst_mput, if_pos ⟨xin_nI (by omega) (by omega), c_13⟩, cN_nI (by omega), if_neg c_30]⟩) dX9_put_39
    · refine lv_bipush (v := (-2)) hx hb dX9_put_16 (by decide) ?_
      exact x_iretW S hlocks hP hS hr rfl (by first | exact ⟨by rw [xp_put, if_neg (fun q => c_4 q.1)], by rw [xst_mput, if_neg (fun q => c_4 q.1)]⟩ | exact ⟨by rw [xp_put, if_neg (fun q => c_13 q.2)], by rw [xst_mput, if_neg (fun q => c_13 q.2)]⟩) dX9_put_18
set_option maxHeartbeats 4000000 in
set_option maxRecDepth 100000 in
theorem c_X9_get (l : Launch) {D : va_G} {K : Nat → ClassId} {α : Nat → Nat} (σ : Nat → Nat → Int32) (hI : xw_I 20 α) (x0 : Int32) (x1 : Int32) (x2 : Int32)  (hC : xIM σ) : Met l yX9_get wsX9_get (xrm 2) (va_Pc [.ref (α 0), .int x0, .int x1, .int x2] (xPre D K 20 α (xM α K) σ)) (xQi D 20 α (xM α K) (fun r τ => r = xp_get (xVM σ) (xJM σ) x0 x1 x2 ∧ τ = xst_mget σ x0 x1 x2)) 0 0 (xw_R 20 α) := by
  refine Met.ofW (cc := cX9_get) (maxL := 5) (ret := (some .int)) (by decide) rfl ?_
  intro p e s m args below meth c s₁ B hml hv
  obtain ⟨rfl, hK, hP⟩ := hv
  have S : CallFix p m c cX9_get 5 s _ wsX9_get RX9 := ⟨B.exec, B.bytes, hml, findClass_of_methodNamed B.named, atoms_spec (ws := wsX9_get) B.pre⟩
  have hx := S.1
  have hb := S.2.1
  have hr := B.returns
  have hlocks := B.notSynchronized
  have hS : va_S (xw_R 20 α) s.heap s.heap [] := va_S.rf
  have hl := lv_entry ([.ref (α 0), .int x0, .int x1, .int x2]) (n := 5) (Nat.le_of_ble_eq_true rfl)
  rw [lg_entry_eq]
  generalize (lg_sl ([.ref (α 0), .int x0, .int x1, .int x2]) ++ List.replicate (5 - (lg_sl ([.ref (α 0), .int x0, .int x1, .int x2])).length) Slot.unset).toArray = ls at hl ⊢
  have hl : lv_has ls 5 [(0, .ref (α 0)), (1, .int x0), (2, .int x1), (3, .int x2)] := hl
  have hPP := hP
  have hY := xIM_Y hC
  have hY12 := xIM_12 hC
  obtain ⟨⟨hL, hL9⟩, ⟨hcs, hcn, hc1, hc2⟩, ⟨hss, hsn, hs1, hs2⟩, hfe, hsh⟩ := id hC
  generalize hLe : xLM σ = L at hL hL9 ⊢
  generalize hYe : xYM σ = Y at hY hY12 ⊢
  generalize hcne : xcM σ = cn at hcs hcn hc1 hc2 ⊢
  generalize hsne : xsM σ = sn at hss hsn hs1 hs2 ⊢
  refine lv_iload_n hx hb dX9_get_0 rfl (lv_at hl 1 rfl) ?_
  refine x_cSi (As := [.int x0]) (rest := []) S (c_X9_isSheet l x0  ) (x_cwS (n0 := 1) S gX9_get_X9_isSheet rfl (by decide +kernel) ⟨Nat.le_of_ble_eq_true rfl, Nat.le_of_ble_eq_true rfl⟩) rfl hl.1 rfl (Nat.le_of_ble_eq_true rfl) dX9_get_1 ⟨Nat.le_refl _, Nat.le_refl _⟩ (fun r_1 hr_1 => ?_)
  subst hr_1
  refine x_if_eqB (tgt := 16) S dX9_get_4 (by decide) (fun c_4 => ?_) (fun c_4 => ?_)
  · refine lv_ldc hx hb S.2.2.2.1 (S.2.2.2.2 (.constant RX9 208 (-2147483648)) (List.mem_of_getElem? (i := 1) rfl)) dX9_get_16 ?_
    exact x_iretW S hlocks hP hS hr rfl (by first | exact ⟨by rw [xp_get, if_neg (fun q => c_4 q.1)], by rw [xst_mget, if_neg (fun q => c_4 q.1)]⟩ | exact ⟨by rw [xp_get, if_neg (fun q => c_13 q.2)], by rw [xst_mget, if_neg (fun q => c_13 q.2)]⟩) dX9_get_18
  · refine lv_iload_n hx hb dX9_get_7 rfl (lv_at hl 2 rfl) ?_
    refine lv_iconst (v := nI 0) hx hb dX9_get_8 (by decide) ?_
    refine lv_iconst (v := nI 2) hx hb dX9_get_9 (by decide) ?_
    refine x_cSi (As := [.int x1, .int (nI 0), .int (nI 2)]) (rest := []) S (c_X9_in0 l x1 2  (by first | assumption | omega)) (x_cwS (n0 := 3) S gX9_get_X9_in rfl (by decide +kernel) ⟨Nat.le_of_ble_eq_true rfl, Nat.le_of_ble_eq_true rfl⟩) rfl hl.1 rfl (Nat.le_of_ble_eq_true rfl) dX9_get_10 ⟨Nat.le_refl _, Nat.le_refl _⟩ (fun r_10 hr_10 => ?_)
    subst hr_10
    refine x_if_neB (tgt := 19) S dX9_get_13 (by decide) (fun c_13 => ?_) (fun c_13 => ?_)
    · obtain ⟨w, hw, rfl⟩ := xin_of c_4 (by omega)
      have hz9 := hsh w (by omega)
      refine lv_aload_n hx hb dX9_get_19 rfl (lv_at hl 0 rfl) ?_
      refine lv_iload_n hx hb dX9_get_20 rfl (lv_at hl 1 rfl) ?_
      refine lv_iload_n hx hb dX9_get_21 rfl (lv_at hl 2 rfl) ?_
      refine lv_iload_n hx hb dX9_get_22 rfl (lv_at hl 3 rfl) ?_
      refine x_cVRi (As := [.int (nI w), .int x1, .int x2]) (rest := []) S hK hP 0 (by omega) rfl rfl (c_X9_lacks l σ w x1 x2 (xnat (σ 17) w)  (by first | assumption | omega) hz9.2.2.2 hz9.2.2.1) (x_cwV (n0 := 3) (cq := (RX9, TX9, 24)) S gX9_get_X9_lacks rfl (by decide +kernel) ⟨Nat.le_of_ble_eq_true rfl, Nat.le_of_ble_eq_true rfl⟩) rfl hl.1 rfl (Nat.le_of_ble_eq_true rfl) dX9_get_23 ⟨Nat.le_refl _, Nat.le_refl _⟩ (fun r_23 hr_23 => ?_)
      subst hr_23
      refine lv_istore (lv' := [(4, .int (xs_find (xVM σ w) x1 x2)), (0, .ref (α 0)), (1, .int (nI w)), (2, .int x1), (3, .int x2)]) hx hb dX9_get_26 hl (by decide) rfl (fun ls hl => ?_)
      refine lv_iload hx hb dX9_get_28 (lv_at hl 0 rfl) ?_
      refine lv_if_le (tgt := 42) hx hb dX9_get_30 (by decide) (fun c_30 => ?_) (fun c_30 => ?_)
      · have c_30 : xs_find (xVM σ w) x1 x2 = 0 := Int32.le_antisymm c_30 xs_find_pos
        obtain ⟨hf1, hf2, hf3⟩ := xs_find_0 c_30
        have hxz : xin x2 (xnat (σ 17) w) := ⟨hf3.1, by have h9 := hf3.2; rw [xVM_3, hz9.2.2.2] at h9; exact h9⟩
        obtain ⟨i, hi, rfl⟩ := xin_of hxz (by have := hz9.2.2.1; omega)
        have hi48 : i < 48 := by have := hz9.2.2.1; omega
        refine lv_aload_n hx hb dX9_get_42 rfl (lv_at hl 1 rfl) ?_
        refine x_get S (fun w h => List.mem_cons_of_mem _ (List.mem_append_right _ h)) hK hP 0 (by omega) rfl rfl 21 (by decide) (List.mem_of_getElem? (i := 3) rfl) rfl dX9_get_43 ?_
        refine lv_bipush (v := nI 48) hx hb dX9_get_46 (by decide) ?_
        refine lv_iload_n hx hb dX9_get_48 rfl (lv_at hl 2 rfl) ?_
        refine x_imulN S dX9_get_49 ?_
        refine lv_iload_n hx hb dX9_get_50 rfl (lv_at hl 4 rfl) ?_
        refine x_iaddN S dX9_get_51 ?_
        refine x_iald S hK hP 18 (by omega) rfl (by first | assumption | omega) (by omega) dX9_get_52 ?_
        exact x_iretW S hlocks hP hS hr rfl (⟨by rw [xp_get, if_pos ⟨xin_nI (by omega) (by omega), c_13⟩, cN_nI (by omega), if_pos c_30, cN_nI (by omega)]; rfl, by rw [xst_mget, if_pos ⟨xin_nI (by omega) (by omega), c_13⟩, cN_nI (by omega), if_pos c_30]⟩) dX9_get_53
      · have c_30 : ¬ xs_find (xVM σ w) x1 x2 = 0 := fun q => c_30 (by rw [q]; decide)
        refine lv_aload_n hx hb dX9_get_33 rfl (lv_at hl 1 rfl) ?_
        refine lv_iload hx hb dX9_get_34 (lv_at hl 0 rfl) ?_
        refine x_put S (fun w h => List.mem_cons_of_mem _ (List.mem_append_right _ h)) tyX9 tyX9_ok nmX9 hK hP hI hS 0 (by omega) rfl rfl 23 (by decide) (List.mem_of_getElem? (i := 2) rfl) rfl (ty := .int) (v := .int (xs_find (xVM σ w) x1 x2)) (by decide +kernel) rfl rfl (Nat.le_of_ble_eq_true rfl) (upd (σ 0) 23 (xs_find (xVM σ w) x1 x2)) rfl dX9_get_36 (fun H locs hP hS => ?_)
        refine lv_ldc hx hb S.2.2.2.1 (S.2.2.2.2 (.constant RX9 208 (-2147483648)) (List.mem_of_getElem? (i := 1) rfl)) dX9_get_39 ?_
        exact x_iretW S hlocks hP hS hr rfl (⟨by rw [xp_get, if_pos ⟨xin_nI (by omega) (by omega), c_13⟩, cN_nI (by omega), if_neg c_30], by rw [xst_mget, if_pos ⟨xin_nI (by omega) (by omega), c_13⟩, cN_nI (by omega), if_neg c_30]; rfl⟩) dX9_get_41
    · refine lv_ldc hx hb S.2.2.2.1 (S.2.2.2.2 (.constant RX9 208 (-2147483648)) (List.mem_of_getElem? (i := 1) rfl)) dX9_get_16 ?_
      exact x_iretW S hlocks hP hS hr rfl (by first | exact ⟨by rw [xp_get, if_neg (fun q => c_4 q.1)], by rw [xst_mget, if_neg (fun q => c_4 q.1)]⟩ | exact ⟨by rw [xp_get, if_neg (fun q => c_13 q.2)], by rw [xst_mget, if_neg (fun q => c_13 q.2)]⟩) dX9_get_18

set_option maxHeartbeats 4000000 in
set_option maxRecDepth 100000 in
theorem c_X8_claim (l : Launch) {D : va_G} {K : Nat → ClassId} {α : Nat → Nat} (σ : Nat → Nat → Int32) (hI : xw_I 42 α) (x0 : Int32) (x1 : Int32) (x2 : Int32)  (hC : xIC σ) : Met l yX8_claim wsX8_claim (xrm 2) (va_Pc [.ref (α 0), .int x0, .int x1, .int x2] (xPre D K 42 α (xC α K) σ)) (xQi D 42 α (xC α K) (fun r τ => r = xp_more (xclok x0 x1 x2) (xcC σ) 12 ∧ τ = xst_claim σ x0 x1 x2)) 0 0 (xw_R 42 α) := by
  refine Met.ofW (cc := cX8_claim) (maxL := 4) (ret := (some .int)) (by decide) rfl ?_
  intro p e s m args below meth c s₁ B hml hv
  obtain ⟨rfl, hK, hP⟩ := hv
  have S : CallFix p m c cX8_claim 4 s _ wsX8_claim RX8 := ⟨B.exec, B.bytes, hml, findClass_of_methodNamed B.named, atoms_spec (ws := wsX8_claim) B.pre⟩
  have hx := S.1
  have hb := S.2.1
  have hr := B.returns
  have hlocks := B.notSynchronized
  have hS : va_S (xw_R 42 α) s.heap s.heap [] := va_S.rf
  have hl := lv_entry ([.ref (α 0), .int x0, .int x1, .int x2]) (n := 4) (Nat.le_of_ble_eq_true rfl)
  rw [lg_entry_eq]
  generalize (lg_sl ([.ref (α 0), .int x0, .int x1, .int x2]) ++ List.replicate (4 - (lg_sl ([.ref (α 0), .int x0, .int x1, .int x2])).length) Slot.unset).toArray = ls at hl ⊢
  have hl : lv_has ls 4 [(0, .ref (α 0)), (1, .int x0), (2, .int x1), (3, .int x2)] := hl
  have hPP := hP
  have hY := xIC_Y hC
  have hY12 := xIC_12 hC
  obtain ⟨⟨hL, hL9⟩, ⟨hF, hYr⟩, ⟨hcs, hcn, hc1, hc2⟩, ⟨hss, hsn, hs1, hs2⟩, hfe, hsh⟩ := hC
  generalize hLe : xLC σ = L at hL hL9 hF ⊢
  generalize hYe : xYC σ = Y at hY hY12 hYr ⊢
  generalize hcne : xcC σ = cn at hcs hcn hc1 hc2 ⊢
  generalize hsne : xsC σ = sn at hss hsn hs1 hs2 ⊢
  refine lv_iload_n hx hb dX8_claim_0 rfl (lv_at hl 1 rfl) ?_
  refine x_cSi (As := [.int x0]) (rest := []) S (c_X8_isShip l x0  ) (x_cwS (n0 := 1) S gX8_claim_X8_isShip rfl (by decide +kernel) ⟨Nat.le_of_ble_eq_true rfl, Nat.le_of_ble_eq_true rfl⟩) rfl hl.1 rfl (Nat.le_of_ble_eq_true rfl) dX8_claim_1 ⟨Nat.le_refl _, Nat.le_refl _⟩ (fun r_1 hr_1 => ?_)
  subst hr_1
  refine x_if_eqB (tgt := 27) S dX8_claim_4 (by decide) (fun c_4 => ?_) (fun c_4 => ?_)
  · refine lv_bipush (v := (-2)) hx hb dX8_claim_27 (by decide) ?_
    exact x_iretW S hlocks hP hS hr rfl (by first | exact ⟨by rw [xp_more, if_neg (fun q => c_4 q.1)], by rw [xst_claim, if_neg (fun q => c_4 q.1.1)]⟩ | exact ⟨by rw [xp_more, if_neg (fun q => c_13 q.2.1)], by rw [xst_claim, if_neg (fun q => c_13 q.1.2.1)]⟩ | exact ⟨by rw [xp_more, if_neg (fun q => xnlt q.2.2.1 c_18)], by rw [xst_claim, if_neg (fun q => xnlt q.1.2.2.1 c_18)]⟩ | exact ⟨by rw [xp_more, if_neg (fun q => c_24 q.2.2.2)], by rw [xst_claim, if_neg (fun q => c_24 q.1.2.2.2)]⟩) dX8_claim_29
  · refine lv_iload_n hx hb dX8_claim_7 rfl (lv_at hl 2 rfl) ?_
    refine lv_bipush (v := nI 12) hx hb dX8_claim_8 (by decide) ?_
    refine x_cSi (As := [.int x1, .int (nI 12)]) (rest := []) S (c_X8_isBelow l x1 (nI 12)  ) (x_cwS (n0 := 2) S gX8_claim_X8_isBelow rfl (by decide +kernel) ⟨Nat.le_of_ble_eq_true rfl, Nat.le_of_ble_eq_true rfl⟩) rfl hl.1 rfl (Nat.le_of_ble_eq_true rfl) dX8_claim_10 ⟨Nat.le_refl _, Nat.le_refl _⟩ (fun r_10 hr_10 => ?_)
    subst hr_10
    refine x_if_eqB (tgt := 27) S dX8_claim_13 (by decide) (fun c_13 => ?_) (fun c_13 => ?_)
    · refine lv_bipush (v := (-2)) hx hb dX8_claim_27 (by decide) ?_
      exact x_iretW S hlocks hP hS hr rfl (by first | exact ⟨by rw [xp_more, if_neg (fun q => c_4 q.1)], by rw [xst_claim, if_neg (fun q => c_4 q.1.1)]⟩ | exact ⟨by rw [xp_more, if_neg (fun q => c_13 q.2.1)], by rw [xst_claim, if_neg (fun q => c_13 q.1.2.1)]⟩ | exact ⟨by rw [xp_more, if_neg (fun q => xnlt q.2.2.1 c_18)], by rw [xst_claim, if_neg (fun q => xnlt q.1.2.2.1 c_18)]⟩ | exact ⟨by rw [xp_more, if_neg (fun q => c_24 q.2.2.2)], by rw [xst_claim, if_neg (fun q => c_24 q.1.2.2.2)]⟩) dX8_claim_29
    · refine lv_iload_n hx hb dX8_claim_16 rfl (lv_at hl 3 rfl) ?_
      refine lv_iconst (v := nI 1) hx hb dX8_claim_17 (by decide) ?_
      refine lv_icmp_lt (tgt := 27) hx hb dX8_claim_18 (by decide) (fun c_18 => ?_) (fun c_18 => ?_)
      · refine lv_bipush (v := (-2)) hx hb dX8_claim_27 (by decide) ?_
        exact x_iretW S hlocks hP hS hr rfl (by first | exact ⟨by rw [xp_more, if_neg (fun q => c_4 q.1)], by rw [xst_claim, if_neg (fun q => c_4 q.1.1)]⟩ | exact ⟨by rw [xp_more, if_neg (fun q => c_13 q.2.1)], by rw [xst_claim, if_neg (fun q => c_13 q.1.2.1)]⟩ | exact ⟨by rw [xp_more, if_neg (fun q => xnlt q.2.2.1 c_18)], by rw [xst_claim, if_neg (fun q => xnlt q.1.2.2.1 c_18)]⟩ | exact ⟨by rw [xp_more, if_neg (fun q => c_24 q.2.2.2)], by rw [xst_claim, if_neg (fun q => c_24 q.1.2.2.2)]⟩) dX8_claim_29
      · refine lv_iload_n hx hb dX8_claim_21 rfl (lv_at hl 3 rfl) ?_
        refine lv_bipush (v := nI 99) hx hb dX8_claim_22 (by decide) ?_
        refine lv_icmp_le (tgt := 30) hx hb dX8_claim_24 (by decide) (fun c_24 => ?_) (fun c_24 => ?_)
        · refine lv_aload_n hx hb dX8_claim_30 rfl (lv_at hl 0 rfl) ?_
          refine x_get S (fun w h => List.mem_cons_of_mem _ (List.mem_append_left _ (List.mem_append_right _ h))) hK hP 0 (by omega) rfl rfl 3 (by decide) (List.mem_of_getElem? (i := 1) rfl) rfl dX8_claim_31 ?_
          refine x_get S (fun w h => List.mem_cons_of_mem _ (List.mem_append_right _ h)) hK hP 12 (by omega) rfl rfl 4 (by decide) (List.mem_of_getElem? (i := 2) rfl) rfl dX8_claim_34 ?_
          refine x_top S (y := nI cn) (hcs) ?_
          refine lv_bipush (v := nI 12) hx hb dX8_claim_37 (by decide) ?_
          refine x_icmpN_lt (tgt := 45) S dX8_claim_39 (by decide) (by omega) (by omega) (fun c_39 => ?_) (fun c_39 => ?_)
          · refine lv_aload_n hx hb dX8_claim_45 rfl (lv_at hl 0 rfl) ?_
            refine x_get S (fun w h => List.mem_cons_of_mem _ (List.mem_append_left _ (List.mem_append_right _ h))) hK hP 0 (by omega) rfl rfl 3 (by decide) (List.mem_of_getElem? (i := 1) rfl) rfl dX8_claim_46 ?_
            refine lv_iload_n hx hb dX8_claim_49 rfl (lv_at hl 1 rfl) ?_
            refine lv_iload_n hx hb dX8_claim_50 rfl (lv_at hl 2 rfl) ?_
            refine lv_iload_n hx hb dX8_claim_51 rfl (lv_at hl 3 rfl) ?_
            refine x_cVWv (As := [.int x0, .int x1, .int x2]) (rest := []) S hK hP hS (fun _ h => h) 12 (by omega) rfl rfl (c_X2_add l σ hI x0 x1 x2 cn  hcs (by first | assumption | omega)) (x_cwV (n0 := 3) (cq := (RX2, TX2, 5)) S gX8_claim_X2_add rfl (by decide +kernel) ⟨Nat.le_of_ble_eq_true rfl, Nat.le_of_ble_eq_true rfl⟩) rfl hl.1 rfl (Nat.le_of_ble_eq_true rfl) dX8_claim_52 ⟨Nat.le_refl _, Nat.le_refl _⟩ (fun τ_52 H locs hr_52 hP hk_52 hS => ?_)
            subst hr_52
            refine lv_aload_n hx hb dX8_claim_55 rfl (lv_at hl 0 rfl) ?_
            refine x_get S (fun w h => List.mem_cons_of_mem _ (List.mem_append_left _ (List.mem_append_right _ h))) hK hP 0 (by omega) rfl rfl 3 (by decide) (List.mem_of_getElem? (i := 1) rfl) rfl dX8_claim_56 ?_
            refine x_get S (fun w h => List.mem_cons_of_mem _ (List.mem_append_right _ h)) hK hP 12 (by omega) rfl rfl 4 (by decide) (List.mem_of_getElem? (i := 2) rfl) rfl dX8_claim_59 ?_
            refine x_top S (y := nI (cn + 1)) (by unfold xst_cl; rw [xup_s, pk_us]) ?_
            exact x_iretW S hlocks hP hS hr rfl (⟨by rw [xp_more, if_pos ⟨c_4, c_13, xlt c_18, c_24⟩, if_pos (by omega)], by rw [xst_claim, hcne, if_pos ⟨⟨c_4, c_13, xlt c_18, c_24⟩, by omega⟩]⟩) dX8_claim_62
          · refine lv_bipush (v := (-4)) hx hb dX8_claim_42 (by decide) ?_
            exact x_iretW S hlocks hP hS hr rfl (⟨by rw [xp_more, if_pos ⟨c_4, c_13, xlt c_18, c_24⟩, if_neg (by omega)], by rw [xst_claim, if_neg (fun q => by have := q.2; omega)]⟩) dX8_claim_44
        · refine lv_bipush (v := (-2)) hx hb dX8_claim_27 (by decide) ?_
          exact x_iretW S hlocks hP hS hr rfl (by first | exact ⟨by rw [xp_more, if_neg (fun q => c_4 q.1)], by rw [xst_claim, if_neg (fun q => c_4 q.1.1)]⟩ | exact ⟨by rw [xp_more, if_neg (fun q => c_13 q.2.1)], by rw [xst_claim, if_neg (fun q => c_13 q.1.2.1)]⟩ | exact ⟨by rw [xp_more, if_neg (fun q => xnlt q.2.2.1 c_18)], by rw [xst_claim, if_neg (fun q => xnlt q.1.2.2.1 c_18)]⟩ | exact ⟨by rw [xp_more, if_neg (fun q => c_24 q.2.2.2)], by rw [xst_claim, if_neg (fun q => c_24 q.1.2.2.2)]⟩) dX8_claim_29
set_option maxHeartbeats 4000000 in
set_option maxRecDepth 100000 in
theorem c_X8_seen (l : Launch) {D : va_G} {K : Nat → ClassId} {α : Nat → Nat} (σ : Nat → Nat → Int32) (hI : xw_I 42 α) (x0 : Int32) (x1 : Int32) (x2 : Int32)  (hC : xIC σ) : Met l yX8_seen wsX8_seen (xrm 2) (va_Pc [.ref (α 0), .int x0, .int x1, .int x2] (xPre D K 42 α (xC α K) σ)) (xQi D 42 α (xC α K) (fun r τ => r = xp_more (xtrok 2 x0 x1 x2) (xsC σ) 8 ∧ τ = xst_seen σ x0 x1 x2)) 0 0 (xw_R 42 α) := by
  refine Met.ofW (cc := cX8_seen) (maxL := 4) (ret := (some .int)) (by decide) rfl ?_
  intro p e s m args below meth c s₁ B hml hv
  obtain ⟨rfl, hK, hP⟩ := hv
  have S : CallFix p m c cX8_seen 4 s _ wsX8_seen RX8 := ⟨B.exec, B.bytes, hml, findClass_of_methodNamed B.named, atoms_spec (ws := wsX8_seen) B.pre⟩
  have hx := S.1
  have hb := S.2.1
  have hr := B.returns
  have hlocks := B.notSynchronized
  have hS : va_S (xw_R 42 α) s.heap s.heap [] := va_S.rf
  have hl := lv_entry ([.ref (α 0), .int x0, .int x1, .int x2]) (n := 4) (Nat.le_of_ble_eq_true rfl)
  rw [lg_entry_eq]
  generalize (lg_sl ([.ref (α 0), .int x0, .int x1, .int x2]) ++ List.replicate (4 - (lg_sl ([.ref (α 0), .int x0, .int x1, .int x2])).length) Slot.unset).toArray = ls at hl ⊢
  have hl : lv_has ls 4 [(0, .ref (α 0)), (1, .int x0), (2, .int x1), (3, .int x2)] := hl
  have hPP := hP
  have hY := xIC_Y hC
  have hY12 := xIC_12 hC
  obtain ⟨⟨hL, hL9⟩, ⟨hF, hYr⟩, ⟨hcs, hcn, hc1, hc2⟩, ⟨hss, hsn, hs1, hs2⟩, hfe, hsh⟩ := hC
  generalize hLe : xLC σ = L at hL hL9 hF ⊢
  generalize hYe : xYC σ = Y at hY hY12 hYr ⊢
  generalize hcne : xcC σ = cn at hcs hcn hc1 hc2 ⊢
  generalize hsne : xsC σ = sn at hss hsn hs1 hs2 ⊢
  refine lv_iload_n hx hb dX8_seen_0 rfl (lv_at hl 1 rfl) ?_
  refine x_cSi (As := [.int x0]) (rest := []) S (c_X8_isShip l x0  ) (x_cwS (n0 := 1) S gX8_seen_X8_isShip rfl (by decide +kernel) ⟨Nat.le_of_ble_eq_true rfl, Nat.le_of_ble_eq_true rfl⟩) rfl hl.1 rfl (Nat.le_of_ble_eq_true rfl) dX8_seen_1 ⟨Nat.le_refl _, Nat.le_refl _⟩ (fun r_1 hr_1 => ?_)
  subst hr_1
  refine x_if_eqB (tgt := 23) S dX8_seen_4 (by decide) (fun c_4 => ?_) (fun c_4 => ?_)
  · refine lv_bipush (v := (-2)) hx hb dX8_seen_23 (by decide) ?_
    exact x_iretW S hlocks hP hS hr rfl (by first | exact ⟨by rw [xp_more, if_neg (fun q => c_4 q.1)], by rw [xst_seen, if_neg (fun q => c_4 q.1.1)]⟩ | exact ⟨by rw [xp_more, if_neg (fun q => c_12 q.2.1)], by rw [xst_seen, if_neg (fun q => c_12 q.1.2.1)]⟩ | exact ⟨by rw [xp_more, if_neg (fun q => c_20 q.2.2)], by rw [xst_seen, if_neg (fun q => c_20 q.1.2.2)]⟩) dX8_seen_25
  · refine lv_iload_n hx hb dX8_seen_7 rfl (lv_at hl 2 rfl) ?_
    refine lv_iconst (v := nI 2) hx hb dX8_seen_8 (by decide) ?_
    refine x_cSi (As := [.int x1, .int (nI 2)]) (rest := []) S (c_X8_isBelow l x1 (nI 2)  ) (x_cwS (n0 := 2) S gX8_seen_X8_isBelow rfl (by decide +kernel) ⟨Nat.le_of_ble_eq_true rfl, Nat.le_of_ble_eq_true rfl⟩) rfl hl.1 rfl (Nat.le_of_ble_eq_true rfl) dX8_seen_9 ⟨Nat.le_refl _, Nat.le_refl _⟩ (fun r_9 hr_9 => ?_)
    subst hr_9
    refine x_if_eqB (tgt := 23) S dX8_seen_12 (by decide) (fun c_12 => ?_) (fun c_12 => ?_)
    · refine lv_bipush (v := (-2)) hx hb dX8_seen_23 (by decide) ?_
      exact x_iretW S hlocks hP hS hr rfl (by first | exact ⟨by rw [xp_more, if_neg (fun q => c_4 q.1)], by rw [xst_seen, if_neg (fun q => c_4 q.1.1)]⟩ | exact ⟨by rw [xp_more, if_neg (fun q => c_12 q.2.1)], by rw [xst_seen, if_neg (fun q => c_12 q.1.2.1)]⟩ | exact ⟨by rw [xp_more, if_neg (fun q => c_20 q.2.2)], by rw [xst_seen, if_neg (fun q => c_20 q.1.2.2)]⟩) dX8_seen_25
    · refine lv_iload_n hx hb dX8_seen_15 rfl (lv_at hl 2 rfl) ?_
      refine lv_iload_n hx hb dX8_seen_16 rfl (lv_at hl 3 rfl) ?_
      refine x_cSi (As := [.int x1, .int x2]) (rest := []) S (c_X8_isTrait l x1 x2  ) (x_cwS (n0 := 2) S gX8_seen_X8_isTrait rfl (by decide +kernel) ⟨Nat.le_of_ble_eq_true rfl, Nat.le_of_ble_eq_true rfl⟩) rfl hl.1 rfl (Nat.le_of_ble_eq_true rfl) dX8_seen_17 ⟨Nat.le_refl _, Nat.le_refl _⟩ (fun r_17 hr_17 => ?_)
      subst hr_17
      refine x_if_neB (tgt := 26) S dX8_seen_20 (by decide) (fun c_20 => ?_) (fun c_20 => ?_)
      · refine lv_aload_n hx hb dX8_seen_26 rfl (lv_at hl 0 rfl) ?_
        refine x_get S (fun w h => List.mem_cons_of_mem _ (List.mem_append_left _ (List.mem_append_right _ h))) hK hP 0 (by omega) rfl rfl 4 (by decide) (List.mem_of_getElem? (i := 1) rfl) rfl dX8_seen_27 ?_
        refine x_get S (fun w h => List.mem_cons_of_mem _ (List.mem_append_right _ h)) hK hP 16 (by omega) rfl rfl 4 (by decide) (List.mem_of_getElem? (i := 2) rfl) rfl dX8_seen_30 ?_
        refine x_top S (y := nI sn) (hss) ?_
        refine lv_bipush (v := nI 8) hx hb dX8_seen_33 (by decide) ?_
        refine x_icmpN_lt (tgt := 41) S dX8_seen_35 (by decide) (by omega) (by omega) (fun c_35 => ?_) (fun c_35 => ?_)
        · refine lv_aload_n hx hb dX8_seen_41 rfl (lv_at hl 0 rfl) ?_
          refine x_get S (fun w h => List.mem_cons_of_mem _ (List.mem_append_left _ (List.mem_append_right _ h))) hK hP 0 (by omega) rfl rfl 4 (by decide) (List.mem_of_getElem? (i := 1) rfl) rfl dX8_seen_42 ?_
          refine lv_iload_n hx hb dX8_seen_45 rfl (lv_at hl 1 rfl) ?_
          refine lv_iload_n hx hb dX8_seen_46 rfl (lv_at hl 2 rfl) ?_
          refine lv_iload_n hx hb dX8_seen_47 rfl (lv_at hl 3 rfl) ?_
          refine x_cVWv (As := [.int x0, .int x1, .int x2]) (rest := []) S hK hP hS (fun _ h => h) 16 (by omega) rfl rfl (c_X6_add l σ hI x0 x1 x2 sn  hss (by first | assumption | omega)) (x_cwV (n0 := 3) (cq := (RX6, TX6, 5)) S gX8_seen_X6_add rfl (by decide +kernel) ⟨Nat.le_of_ble_eq_true rfl, Nat.le_of_ble_eq_true rfl⟩) rfl hl.1 rfl (Nat.le_of_ble_eq_true rfl) dX8_seen_48 ⟨Nat.le_refl _, Nat.le_refl _⟩ (fun τ_48 H locs hr_48 hP hk_48 hS => ?_)
          subst hr_48
          refine lv_aload_n hx hb dX8_seen_51 rfl (lv_at hl 0 rfl) ?_
          refine x_get S (fun w h => List.mem_cons_of_mem _ (List.mem_append_left _ (List.mem_append_right _ h))) hK hP 0 (by omega) rfl rfl 4 (by decide) (List.mem_of_getElem? (i := 1) rfl) rfl dX8_seen_52 ?_
          refine x_get S (fun w h => List.mem_cons_of_mem _ (List.mem_append_right _ h)) hK hP 16 (by omega) rfl rfl 4 (by decide) (List.mem_of_getElem? (i := 2) rfl) rfl dX8_seen_55 ?_
          refine x_top S (y := nI (sn + 1)) (by unfold xst_sg; rw [xup_s, pk_us]) ?_
          exact x_iretW S hlocks hP hS hr rfl (⟨by rw [xp_more, if_pos ⟨c_4, c_12, c_20⟩, if_pos (by omega)], by rw [xst_seen, hsne, if_pos ⟨⟨c_4, c_12, c_20⟩, by omega⟩]⟩) dX8_seen_58
        · refine lv_bipush (v := (-4)) hx hb dX8_seen_38 (by decide) ?_
          exact x_iretW S hlocks hP hS hr rfl (⟨by rw [xp_more, if_pos ⟨c_4, c_12, c_20⟩, if_neg (by omega)], by rw [xst_seen, if_neg (fun q => by have := q.2; omega)]⟩) dX8_seen_40
      · refine lv_bipush (v := (-2)) hx hb dX8_seen_23 (by decide) ?_
        exact x_iretW S hlocks hP hS hr rfl (by first | exact ⟨by rw [xp_more, if_neg (fun q => c_4 q.1)], by rw [xst_seen, if_neg (fun q => c_4 q.1.1)]⟩ | exact ⟨by rw [xp_more, if_neg (fun q => c_12 q.2.1)], by rw [xst_seen, if_neg (fun q => c_12 q.1.2.1)]⟩ | exact ⟨by rw [xp_more, if_neg (fun q => c_20 q.2.2)], by rw [xst_seen, if_neg (fun q => c_20 q.1.2.2)]⟩) dX8_seen_25
set_option maxHeartbeats 4000000 in
set_option maxRecDepth 100000 in
theorem c_X8_owed (l : Launch) {D : va_G} {K : Nat → ClassId} {α : Nat → Nat} (σ : Nat → Nat → Int32) (x0 : Int32) (x1 : Int32)  (hC : xIC σ) : Met l yX8_owed wsX8_owed (xrm 3) (va_Pc [.ref (α 0), .int x0, .int x1] (xPre D K 42 α (xC α K) σ)) (vp_Si (fun r => r = xp_owed (σ 10) (xYC σ) (σ 13) (σ 14) (σ 15) (xcC σ) x0 x1)) 0 0 (fun _ => False) := by
  refine Met.ofW (cc := cX8_owed) (maxL := 3) (ret := (some .int)) (by decide) rfl ?_
  intro p e s m args below meth c s₁ B hml hv
  obtain ⟨rfl, hK, hP⟩ := hv
  have S : CallFix p m c cX8_owed 3 s _ wsX8_owed RX8 := ⟨B.exec, B.bytes, hml, findClass_of_methodNamed B.named, atoms_spec (ws := wsX8_owed) B.pre⟩
  have hx := S.1
  have hb := S.2.1
  have hr := B.returns
  have hlocks := B.notSynchronized
  have hl := lv_entry ([.ref (α 0), .int x0, .int x1]) (n := 3) (Nat.le_of_ble_eq_true rfl)
  rw [lg_entry_eq]
  generalize (lg_sl ([.ref (α 0), .int x0, .int x1]) ++ List.replicate (3 - (lg_sl ([.ref (α 0), .int x0, .int x1])).length) Slot.unset).toArray = ls at hl ⊢
  have hl : lv_has ls 3 [(0, .ref (α 0)), (1, .int x0), (2, .int x1)] := hl
  have hPP := hP
  have hY := xIC_Y hC
  have hY12 := xIC_12 hC
  obtain ⟨⟨hL, hL9⟩, ⟨hF, hYr⟩, ⟨hcs, hcn, hc1, hc2⟩, ⟨hss, hsn, hs1, hs2⟩, hfe, hsh⟩ := hC
  generalize hLe : xLC σ = L at hL hL9 hF ⊢
  generalize hYe : xYC σ = Y at hY hY12 hYr ⊢
  generalize hcne : xcC σ = cn at hcs hcn hc1 hc2 ⊢
  generalize hsne : xsC σ = sn at hss hsn hs1 hs2 ⊢
  refine lv_iload_n hx hb dX8_owed_0 rfl (lv_at hl 1 rfl) ?_
  refine x_cSi (As := [.int x0]) (rest := []) S (c_X8_isShip l x0  ) (x_cwS (n0 := 1) S gX8_owed_X8_isShip rfl (by decide +kernel) ⟨Nat.le_of_ble_eq_true rfl, Nat.le_of_ble_eq_true rfl⟩) rfl hl.1 rfl (Nat.le_of_ble_eq_true rfl) dX8_owed_1 ⟨Nat.le_refl _, Nat.le_refl _⟩ (fun r_1 hr_1 => ?_)
  subst hr_1
  refine x_if_eqB (tgt := 15) S dX8_owed_4 (by decide) (fun c_4 => ?_) (fun c_4 => ?_)
  · refine lv_bipush (v := (-2)) hx hb dX8_owed_15 (by decide) ?_
    exact x_iretR S hlocks hr rfl (by first | rw [xp_owed, if_neg (fun q => c_4 q.1)] | rw [xp_owed, if_neg (fun q => c_12 q.2)]) dX8_owed_17
  · refine lv_iload_n hx hb dX8_owed_7 rfl (lv_at hl 2 rfl) ?_
    refine lv_iconst (v := nI 3) hx hb dX8_owed_8 (by decide) ?_
    refine x_cSi (As := [.int x1, .int (nI 3)]) (rest := []) S (c_X8_isBelow l x1 (nI 3)  ) (x_cwS (n0 := 2) S gX8_owed_X8_isBelow rfl (by decide +kernel) ⟨Nat.le_of_ble_eq_true rfl, Nat.le_of_ble_eq_true rfl⟩) rfl hl.1 rfl (Nat.le_of_ble_eq_true rfl) dX8_owed_9 ⟨Nat.le_refl _, Nat.le_refl _⟩ (fun r_9 hr_9 => ?_)
    subst hr_9
    refine x_if_neB (tgt := 18) S dX8_owed_12 (by decide) (fun c_12 => ?_) (fun c_12 => ?_)
    · obtain ⟨h, hh, rfl⟩ := xin_of c_4 (by omega)
      obtain ⟨law, hlaw, rfl⟩ := xin_of c_12 (by omega)
      refine lv_aload_n hx hb dX8_owed_18 rfl (lv_at hl 0 rfl) ?_
      refine x_get S (fun w h => List.mem_cons_of_mem _ (List.mem_append_left _ (List.mem_append_left _ (List.mem_append_right _ h)))) hK hP 0 (by omega) rfl rfl 3 (by decide) (List.mem_of_getElem? (i := 1) rfl) rfl dX8_owed_19 ?_
      refine lv_iload_n hx hb dX8_owed_22 rfl (lv_at hl 1 rfl) ?_
      refine lv_iload_n hx hb dX8_owed_23 rfl (lv_at hl 2 rfl) ?_
      refine x_cVRi (As := [.int (nI h), .int (nI law)]) (rest := []) S hK hP 12 (by omega) rfl rfl (c_X2_sumFor l σ h law Y cn  (by first | assumption | omega) (by first | assumption | omega) (by first | assumption | omega) (by first | assumption | omega) (by first | assumption | omega) (by first | assumption | omega) (by first | assumption | omega) (by first | assumption | omega) (by first | assumption | omega)) (x_cwV (n0 := 2) (cq := (RX2, TX2, 5)) S gX8_owed_X2_sumFor rfl (by decide +kernel) ⟨Nat.le_of_ble_eq_true rfl, Nat.le_of_ble_eq_true rfl⟩) rfl hl.1 rfl (Nat.le_of_ble_eq_true rfl) dX8_owed_24 ⟨Nat.le_refl _, Nat.le_refl _⟩ (fun r_24 hr_24 => ?_)
      subst hr_24
      exact x_iretR S hlocks hr rfl (by rw [xp_owed, if_pos ⟨xin_nI (by omega) (by omega), xin_nI (by omega) (by omega)⟩, cN_nI (by omega), cN_nI (by omega)]) dX8_owed_27
    · refine lv_bipush (v := (-2)) hx hb dX8_owed_15 (by decide) ?_
      exact x_iretR S hlocks hr rfl (by first | rw [xp_owed, if_neg (fun q => c_4 q.1)] | rw [xp_owed, if_neg (fun q => c_12 q.2)]) dX8_owed_17
set_option maxHeartbeats 4000000 in
set_option maxRecDepth 100000 in
theorem c_X8_lightest (l : Launch) {D : va_G} {K : Nat → ClassId} {α : Nat → Nat} (σ : Nat → Nat → Int32) (x0 : Int32)  (hC : xIC σ) : Met l yX8_lightest wsX8_lightest (xrm 3) (va_Pc [.ref (α 0), .int x0] (xPre D K 42 α (xC α K) σ)) (vp_Si (fun r => r = xp_light (σ 10) (xYC σ) (σ 13) (σ 14) (σ 15) (xcC σ) x0)) 0 0 (fun _ => False) := by
  refine Met.ofW (cc := cX8_lightest) (maxL := 4) (ret := (some .int)) (by decide) rfl ?_
  intro p e s m args below meth c s₁ B hml hv
  obtain ⟨rfl, hK, hP⟩ := hv
  have S : CallFix p m c cX8_lightest 4 s _ wsX8_lightest RX8 := ⟨B.exec, B.bytes, hml, findClass_of_methodNamed B.named, atoms_spec (ws := wsX8_lightest) B.pre⟩
  have hx := S.1
  have hb := S.2.1
  have hr := B.returns
  have hlocks := B.notSynchronized
  have hl := lv_entry ([.ref (α 0), .int x0]) (n := 4) (Nat.le_of_ble_eq_true rfl)
  rw [lg_entry_eq]
  generalize (lg_sl ([.ref (α 0), .int x0]) ++ List.replicate (4 - (lg_sl ([.ref (α 0), .int x0])).length) Slot.unset).toArray = ls at hl ⊢
  have hl : lv_has ls 4 [(0, .ref (α 0)), (1, .int x0)] := hl
  have hPP := hP
  have hY := xIC_Y hC
  have hY12 := xIC_12 hC
  obtain ⟨⟨hL, hL9⟩, ⟨hF, hYr⟩, ⟨hcs, hcn, hc1, hc2⟩, ⟨hss, hsn, hs1, hs2⟩, hfe, hsh⟩ := hC
  generalize hLe : xLC σ = L at hL hL9 hF ⊢
  generalize hYe : xYC σ = Y at hY hY12 hYr ⊢
  generalize hcne : xcC σ = cn at hcs hcn hc1 hc2 ⊢
  generalize hsne : xsC σ = sn at hss hsn hs1 hs2 ⊢
  refine lv_iload_n hx hb dX8_lightest_0 rfl (lv_at hl 1 rfl) ?_
  refine x_cSi (As := [.int x0]) (rest := []) S (c_X8_isShip l x0  ) (x_cwS (n0 := 1) S gX8_lightest_X8_isShip rfl (by decide +kernel) ⟨Nat.le_of_ble_eq_true rfl, Nat.le_of_ble_eq_true rfl⟩) rfl hl.1 rfl (Nat.le_of_ble_eq_true rfl) dX8_lightest_1 ⟨Nat.le_refl _, Nat.le_refl _⟩ (fun r_1 hr_1 => ?_)
  subst hr_1
  refine x_if_neB (tgt := 10) S dX8_lightest_4 (by decide) (fun c_4 => ?_) (fun c_4 => ?_)
  · obtain ⟨h, hh, rfl⟩ := xin_of c_4 (by omega)
    refine lv_iconst (v := nI 0) hx hb dX8_lightest_10 (by decide) ?_
    refine lv_istore_n (lv' := [(2, .int (nI 0)), (0, .ref (α 0)), (1, .int (nI h))]) hx hb dX8_lightest_11 rfl hl (by decide) rfl (fun ls hl => ?_)
    refine lv_iconst (v := nI 1) hx hb dX8_lightest_12 (by decide) ?_
    refine lv_istore_n (lv' := [(3, .int (nI 1)), (2, .int (nI 0)), (0, .ref (α 0)), (1, .int (nI h))]) hx hb dX8_lightest_13 rfl hl (by decide) rfl (fun ls hl => ?_)
    refine lv_iload_n hx hb dX8_lightest_14 rfl (lv_at hl 0 rfl) ?_
    refine lv_iconst (v := nI 3) hx hb dX8_lightest_15 (by decide) ?_
    refine x_icmpN_ge (tgt := 48) S dX8_lightest_16 (by decide) (by omega) (by omega) (fun q => absurd q (by omega)) (fun _ => ?_)
    refine lv_aload_n hx hb dX8_lightest_19 rfl (lv_at hl 2 rfl) ?_
    refine x_get S (fun w h => List.mem_cons_of_mem _ (List.mem_append_left _ (List.mem_append_left _ (List.mem_append_right _ h)))) hK hP 0 (by omega) rfl rfl 3 (by decide) (List.mem_of_getElem? (i := 1) rfl) rfl dX8_lightest_20 ?_
    refine lv_iload_n hx hb dX8_lightest_23 rfl (lv_at hl 3 rfl) ?_
    refine lv_iload_n hx hb dX8_lightest_24 rfl (lv_at hl 0 rfl) ?_
    refine x_cVRi (As := [.int (nI h), .int (nI 1)]) (rest := []) S hK hP 12 (by omega) rfl rfl (c_X2_sumFor l σ h 1 Y cn  (by first | assumption | omega) (by first | assumption | omega) (by first | assumption | omega) (by first | assumption | omega) (by first | assumption | omega) (by first | assumption | omega) (by first | assumption | omega) (by first | assumption | omega) (by first | assumption | omega)) (x_cwV (n0 := 2) (cq := (RX2, TX2, 5)) S gX8_lightest_X2_sumFor rfl (by decide +kernel) ⟨Nat.le_of_ble_eq_true rfl, Nat.le_of_ble_eq_true rfl⟩) rfl hl.1 rfl (Nat.le_of_ble_eq_true rfl) dX8_lightest_25 ⟨Nat.le_refl _, Nat.le_refl _⟩ (fun r_25 hr_25 => ?_)
    subst hr_25
    refine lv_aload_n hx hb dX8_lightest_28 rfl (lv_at hl 2 rfl) ?_
    refine x_get S (fun w h => List.mem_cons_of_mem _ (List.mem_append_left _ (List.mem_append_left _ (List.mem_append_right _ h)))) hK hP 0 (by omega) rfl rfl 3 (by decide) (List.mem_of_getElem? (i := 1) rfl) rfl dX8_lightest_29 ?_
    refine lv_iload_n hx hb dX8_lightest_32 rfl (lv_at hl 3 rfl) ?_
    refine lv_iload_n hx hb dX8_lightest_33 rfl (lv_at hl 1 rfl) ?_
    refine x_cVRi (As := [.int (nI h), .int (nI 0)]) (rest := [.int (xs_owed (σ 10) Y (σ 13) (σ 14) (σ 15) h 1 cn)]) S hK hP 12 (by omega) rfl rfl (c_X2_sumFor l σ h 0 Y cn  (by first | assumption | omega) (by first | assumption | omega) (by first | assumption | omega) (by first | assumption | omega) (by first | assumption | omega) (by first | assumption | omega) (by first | assumption | omega) (by first | assumption | omega) (by first | assumption | omega)) (x_cwV (n0 := 2) (cq := (RX2, TX2, 5)) S gX8_lightest_X2_sumFor rfl (by decide +kernel) ⟨Nat.le_of_ble_eq_true rfl, Nat.le_of_ble_eq_true rfl⟩) rfl hl.1 rfl (Nat.le_of_ble_eq_true rfl) dX8_lightest_34 ⟨Nat.le_refl _, Nat.le_refl _⟩ (fun r_34 hr_34 => ?_)
    subst hr_34
    refine lv_icmp_ge (tgt := 42) hx hb dX8_lightest_37 (by decide) (fun c37_1 => ?_) (fun c37_1 => ?_)
    · refine lv_iinc (v := nI 2) (lv' := [(3, .int (nI 2)), (2, .int (nI 0)), (0, .ref (α 0)), (1, .int (nI h))]) hx hb dX8_lightest_42 hl (k := 0) rfl (by decide) (by decide) rfl (fun ls hl => ?_)
      refine lv_goto (tgt := 14) hx hb dX8_lightest_45 (by decide) ?_
      refine lv_iload_n hx hb dX8_lightest_14 rfl (lv_at hl 0 rfl) ?_
      refine lv_iconst (v := nI 3) hx hb dX8_lightest_15 (by decide) ?_
      refine x_icmpN_ge (tgt := 48) S dX8_lightest_16 (by decide) (by omega) (by omega) (fun q => absurd q (by omega)) (fun _ => ?_)
      refine lv_aload_n hx hb dX8_lightest_19 rfl (lv_at hl 2 rfl) ?_
      refine x_get S (fun w h => List.mem_cons_of_mem _ (List.mem_append_left _ (List.mem_append_left _ (List.mem_append_right _ h)))) hK hP 0 (by omega) rfl rfl 3 (by decide) (List.mem_of_getElem? (i := 1) rfl) rfl dX8_lightest_20 ?_
      refine lv_iload_n hx hb dX8_lightest_23 rfl (lv_at hl 3 rfl) ?_
      refine lv_iload_n hx hb dX8_lightest_24 rfl (lv_at hl 0 rfl) ?_
      refine x_cVRi (As := [.int (nI h), .int (nI 2)]) (rest := []) S hK hP 12 (by omega) rfl rfl (c_X2_sumFor l σ h 2 Y cn  (by first | assumption | omega) (by first | assumption | omega) (by first | assumption | omega) (by first | assumption | omega) (by first | assumption | omega) (by first | assumption | omega) (by first | assumption | omega) (by first | assumption | omega) (by first | assumption | omega)) (x_cwV (n0 := 2) (cq := (RX2, TX2, 5)) S gX8_lightest_X2_sumFor rfl (by decide +kernel) ⟨Nat.le_of_ble_eq_true rfl, Nat.le_of_ble_eq_true rfl⟩) rfl hl.1 rfl (Nat.le_of_ble_eq_true rfl) dX8_lightest_25 ⟨Nat.le_refl _, Nat.le_refl _⟩ (fun r_25 hr_25 => ?_)
      subst hr_25
      refine lv_aload_n hx hb dX8_lightest_28 rfl (lv_at hl 2 rfl) ?_
      refine x_get S (fun w h => List.mem_cons_of_mem _ (List.mem_append_left _ (List.mem_append_left _ (List.mem_append_right _ h)))) hK hP 0 (by omega) rfl rfl 3 (by decide) (List.mem_of_getElem? (i := 1) rfl) rfl dX8_lightest_29 ?_
      refine lv_iload_n hx hb dX8_lightest_32 rfl (lv_at hl 3 rfl) ?_
      refine lv_iload_n hx hb dX8_lightest_33 rfl (lv_at hl 1 rfl) ?_
      refine x_cVRi (As := [.int (nI h), .int (nI 0)]) (rest := [.int (xs_owed (σ 10) Y (σ 13) (σ 14) (σ 15) h 2 cn)]) S hK hP 12 (by omega) rfl rfl (c_X2_sumFor l σ h 0 Y cn  (by first | assumption | omega) (by first | assumption | omega) (by first | assumption | omega) (by first | assumption | omega) (by first | assumption | omega) (by first | assumption | omega) (by first | assumption | omega) (by first | assumption | omega) (by first | assumption | omega)) (x_cwV (n0 := 2) (cq := (RX2, TX2, 5)) S gX8_lightest_X2_sumFor rfl (by decide +kernel) ⟨Nat.le_of_ble_eq_true rfl, Nat.le_of_ble_eq_true rfl⟩) rfl hl.1 rfl (Nat.le_of_ble_eq_true rfl) dX8_lightest_34 ⟨Nat.le_refl _, Nat.le_refl _⟩ (fun r_34 hr_34 => ?_)
      subst hr_34
      refine lv_icmp_ge (tgt := 42) hx hb dX8_lightest_37 (by decide) (fun c37_2 => ?_) (fun c37_2 => ?_)
      · refine lv_iinc (v := nI 3) (lv' := [(3, .int (nI 3)), (2, .int (nI 0)), (0, .ref (α 0)), (1, .int (nI h))]) hx hb dX8_lightest_42 hl (k := 0) rfl (by decide) (by decide) rfl (fun ls hl => ?_)
        refine lv_goto (tgt := 14) hx hb dX8_lightest_45 (by decide) ?_
        refine lv_iload_n hx hb dX8_lightest_14 rfl (lv_at hl 0 rfl) ?_
        refine lv_iconst (v := nI 3) hx hb dX8_lightest_15 (by decide) ?_
        refine x_icmpN_ge (tgt := 48) S dX8_lightest_16 (by decide) (by omega) (by omega) (fun _ => ?_) (fun q => absurd q (by omega))
        refine lv_iload_n hx hb dX8_lightest_48 rfl (lv_at hl 1 rfl) ?_
        exact x_iretR S hlocks hr rfl (by rw [xp_light, if_pos (xin_nI (by omega) (by omega)), cN_nI (by omega)]; unfold xs_light; dsimp only; first | rw [if_pos (xle c37_1), if_pos (xle c37_2)] | rw [if_pos (xle c37_1), if_neg (xnlt c37_2)] | rw [if_neg (xnlt c37_1), if_pos (xle c37_2)] | rw [if_neg (xnlt c37_1), if_neg (xnlt c37_2)]) dX8_lightest_49
      · refine lv_iload_n hx hb dX8_lightest_40 rfl (lv_at hl 0 rfl) ?_
        refine lv_istore_n (lv' := [(2, .int (nI 2)), (3, .int (nI 2)), (0, .ref (α 0)), (1, .int (nI h))]) hx hb dX8_lightest_41 rfl hl (by decide) rfl (fun ls hl => ?_)
        refine lv_iinc (v := nI 3) (lv' := [(3, .int (nI 3)), (2, .int (nI 2)), (0, .ref (α 0)), (1, .int (nI h))]) hx hb dX8_lightest_42 hl (k := 1) rfl (by decide) (by decide) rfl (fun ls hl => ?_)
        refine lv_goto (tgt := 14) hx hb dX8_lightest_45 (by decide) ?_
        refine lv_iload_n hx hb dX8_lightest_14 rfl (lv_at hl 0 rfl) ?_
        refine lv_iconst (v := nI 3) hx hb dX8_lightest_15 (by decide) ?_
        refine x_icmpN_ge (tgt := 48) S dX8_lightest_16 (by decide) (by omega) (by omega) (fun _ => ?_) (fun q => absurd q (by omega))
        refine lv_iload_n hx hb dX8_lightest_48 rfl (lv_at hl 1 rfl) ?_
        exact x_iretR S hlocks hr rfl (by rw [xp_light, if_pos (xin_nI (by omega) (by omega)), cN_nI (by omega)]; unfold xs_light; dsimp only; first | rw [if_pos (xle c37_1), if_pos (xle c37_2)] | rw [if_pos (xle c37_1), if_neg (xnlt c37_2)] | rw [if_neg (xnlt c37_1), if_pos (xle c37_2)] | rw [if_neg (xnlt c37_1), if_neg (xnlt c37_2)]) dX8_lightest_49
    · refine lv_iload_n hx hb dX8_lightest_40 rfl (lv_at hl 0 rfl) ?_
      refine lv_istore_n (lv' := [(2, .int (nI 1)), (3, .int (nI 1)), (0, .ref (α 0)), (1, .int (nI h))]) hx hb dX8_lightest_41 rfl hl (by decide) rfl (fun ls hl => ?_)
      refine lv_iinc (v := nI 2) (lv' := [(3, .int (nI 2)), (2, .int (nI 1)), (0, .ref (α 0)), (1, .int (nI h))]) hx hb dX8_lightest_42 hl (k := 1) rfl (by decide) (by decide) rfl (fun ls hl => ?_)
      refine lv_goto (tgt := 14) hx hb dX8_lightest_45 (by decide) ?_
      refine lv_iload_n hx hb dX8_lightest_14 rfl (lv_at hl 0 rfl) ?_
      refine lv_iconst (v := nI 3) hx hb dX8_lightest_15 (by decide) ?_
      refine x_icmpN_ge (tgt := 48) S dX8_lightest_16 (by decide) (by omega) (by omega) (fun q => absurd q (by omega)) (fun _ => ?_)
      refine lv_aload_n hx hb dX8_lightest_19 rfl (lv_at hl 2 rfl) ?_
      refine x_get S (fun w h => List.mem_cons_of_mem _ (List.mem_append_left _ (List.mem_append_left _ (List.mem_append_right _ h)))) hK hP 0 (by omega) rfl rfl 3 (by decide) (List.mem_of_getElem? (i := 1) rfl) rfl dX8_lightest_20 ?_
      refine lv_iload_n hx hb dX8_lightest_23 rfl (lv_at hl 3 rfl) ?_
      refine lv_iload_n hx hb dX8_lightest_24 rfl (lv_at hl 0 rfl) ?_
      refine x_cVRi (As := [.int (nI h), .int (nI 2)]) (rest := []) S hK hP 12 (by omega) rfl rfl (c_X2_sumFor l σ h 2 Y cn  (by first | assumption | omega) (by first | assumption | omega) (by first | assumption | omega) (by first | assumption | omega) (by first | assumption | omega) (by first | assumption | omega) (by first | assumption | omega) (by first | assumption | omega) (by first | assumption | omega)) (x_cwV (n0 := 2) (cq := (RX2, TX2, 5)) S gX8_lightest_X2_sumFor rfl (by decide +kernel) ⟨Nat.le_of_ble_eq_true rfl, Nat.le_of_ble_eq_true rfl⟩) rfl hl.1 rfl (Nat.le_of_ble_eq_true rfl) dX8_lightest_25 ⟨Nat.le_refl _, Nat.le_refl _⟩ (fun r_25 hr_25 => ?_)
      subst hr_25
      refine lv_aload_n hx hb dX8_lightest_28 rfl (lv_at hl 2 rfl) ?_
      refine x_get S (fun w h => List.mem_cons_of_mem _ (List.mem_append_left _ (List.mem_append_left _ (List.mem_append_right _ h)))) hK hP 0 (by omega) rfl rfl 3 (by decide) (List.mem_of_getElem? (i := 1) rfl) rfl dX8_lightest_29 ?_
      refine lv_iload_n hx hb dX8_lightest_32 rfl (lv_at hl 3 rfl) ?_
      refine lv_iload_n hx hb dX8_lightest_33 rfl (lv_at hl 1 rfl) ?_
      refine x_cVRi (As := [.int (nI h), .int (nI 1)]) (rest := [.int (xs_owed (σ 10) Y (σ 13) (σ 14) (σ 15) h 2 cn)]) S hK hP 12 (by omega) rfl rfl (c_X2_sumFor l σ h 1 Y cn  (by first | assumption | omega) (by first | assumption | omega) (by first | assumption | omega) (by first | assumption | omega) (by first | assumption | omega) (by first | assumption | omega) (by first | assumption | omega) (by first | assumption | omega) (by first | assumption | omega)) (x_cwV (n0 := 2) (cq := (RX2, TX2, 5)) S gX8_lightest_X2_sumFor rfl (by decide +kernel) ⟨Nat.le_of_ble_eq_true rfl, Nat.le_of_ble_eq_true rfl⟩) rfl hl.1 rfl (Nat.le_of_ble_eq_true rfl) dX8_lightest_34 ⟨Nat.le_refl _, Nat.le_refl _⟩ (fun r_34 hr_34 => ?_)
      subst hr_34
      refine lv_icmp_ge (tgt := 42) hx hb dX8_lightest_37 (by decide) (fun c37_2 => ?_) (fun c37_2 => ?_)
      · refine lv_iinc (v := nI 3) (lv' := [(3, .int (nI 3)), (2, .int (nI 1)), (0, .ref (α 0)), (1, .int (nI h))]) hx hb dX8_lightest_42 hl (k := 0) rfl (by decide) (by decide) rfl (fun ls hl => ?_)
        refine lv_goto (tgt := 14) hx hb dX8_lightest_45 (by decide) ?_
        refine lv_iload_n hx hb dX8_lightest_14 rfl (lv_at hl 0 rfl) ?_
        refine lv_iconst (v := nI 3) hx hb dX8_lightest_15 (by decide) ?_
        refine x_icmpN_ge (tgt := 48) S dX8_lightest_16 (by decide) (by omega) (by omega) (fun _ => ?_) (fun q => absurd q (by omega))
        refine lv_iload_n hx hb dX8_lightest_48 rfl (lv_at hl 1 rfl) ?_
        exact x_iretR S hlocks hr rfl (by rw [xp_light, if_pos (xin_nI (by omega) (by omega)), cN_nI (by omega)]; unfold xs_light; dsimp only; first | rw [if_pos (xle c37_1), if_pos (xle c37_2)] | rw [if_pos (xle c37_1), if_neg (xnlt c37_2)] | rw [if_neg (xnlt c37_1), if_pos (xle c37_2)] | rw [if_neg (xnlt c37_1), if_neg (xnlt c37_2)]) dX8_lightest_49
      · refine lv_iload_n hx hb dX8_lightest_40 rfl (lv_at hl 0 rfl) ?_
        refine lv_istore_n (lv' := [(2, .int (nI 2)), (3, .int (nI 2)), (0, .ref (α 0)), (1, .int (nI h))]) hx hb dX8_lightest_41 rfl hl (by decide) rfl (fun ls hl => ?_)
        refine lv_iinc (v := nI 3) (lv' := [(3, .int (nI 3)), (2, .int (nI 2)), (0, .ref (α 0)), (1, .int (nI h))]) hx hb dX8_lightest_42 hl (k := 1) rfl (by decide) (by decide) rfl (fun ls hl => ?_)
        refine lv_goto (tgt := 14) hx hb dX8_lightest_45 (by decide) ?_
        refine lv_iload_n hx hb dX8_lightest_14 rfl (lv_at hl 0 rfl) ?_
        refine lv_iconst (v := nI 3) hx hb dX8_lightest_15 (by decide) ?_
        refine x_icmpN_ge (tgt := 48) S dX8_lightest_16 (by decide) (by omega) (by omega) (fun _ => ?_) (fun q => absurd q (by omega))
        refine lv_iload_n hx hb dX8_lightest_48 rfl (lv_at hl 1 rfl) ?_
        exact x_iretR S hlocks hr rfl (by rw [xp_light, if_pos (xin_nI (by omega) (by omega)), cN_nI (by omega)]; unfold xs_light; dsimp only; first | rw [if_pos (xle c37_1), if_pos (xle c37_2)] | rw [if_pos (xle c37_1), if_neg (xnlt c37_2)] | rw [if_neg (xnlt c37_1), if_pos (xle c37_2)] | rw [if_neg (xnlt c37_1), if_neg (xnlt c37_2)]) dX8_lightest_49
  · refine lv_bipush (v := (-2)) hx hb dX8_lightest_7 (by decide) ?_
    exact x_iretR S hlocks hr rfl (by rw [xp_light, if_neg c_4]) dX8_lightest_9
set_option maxHeartbeats 4000000 in
set_option maxRecDepth 100000 in
theorem c_X8_disputed (l : Launch) {D : va_G} {K : Nat → ClassId} {α : Nat → Nat} (σ : Nat → Nat → Int32)   (hC : xIC σ) : Met l yX8_disputed wsX8_disputed (xrm 3) (va_Pc [.ref (α 0)] (xPre D K 42 α (xC α K) σ)) (vp_Si (fun r => r = xs_disp (σ 10) (xYC σ) (σ 13) (σ 14) (xcC σ))) 0 0 (fun _ => False) := by
  refine Met.ofW (cc := cX8_disputed) (maxL := 1) (ret := (some .int)) (by decide) rfl ?_
  intro p e s m args below meth c s₁ B hml hv
  obtain ⟨rfl, hK, hP⟩ := hv
  have S : CallFix p m c cX8_disputed 1 s _ wsX8_disputed RX8 := ⟨B.exec, B.bytes, hml, findClass_of_methodNamed B.named, atoms_spec (ws := wsX8_disputed) B.pre⟩
  have hx := S.1
  have hb := S.2.1
  have hr := B.returns
  have hlocks := B.notSynchronized
  have hl := lv_entry ([.ref (α 0)]) (n := 1) (Nat.le_of_ble_eq_true rfl)
  rw [lg_entry_eq]
  generalize (lg_sl ([.ref (α 0)]) ++ List.replicate (1 - (lg_sl ([.ref (α 0)])).length) Slot.unset).toArray = ls at hl ⊢
  have hl : lv_has ls 1 [(0, .ref (α 0))] := hl
  have hPP := hP
  have hY := xIC_Y hC
  have hY12 := xIC_12 hC
  obtain ⟨⟨hL, hL9⟩, ⟨hF, hYr⟩, ⟨hcs, hcn, hc1, hc2⟩, ⟨hss, hsn, hs1, hs2⟩, hfe, hsh⟩ := hC
  generalize hLe : xLC σ = L at hL hL9 hF ⊢
  generalize hYe : xYC σ = Y at hY hY12 hYr ⊢
  generalize hcne : xcC σ = cn at hcs hcn hc1 hc2 ⊢
  generalize hsne : xsC σ = sn at hss hsn hs1 hs2 ⊢
  refine lv_aload_n hx hb dX8_disputed_0 rfl (lv_at hl 0 rfl) ?_
  refine x_get S (fun w h => List.mem_cons_of_mem _ (List.mem_append_left _ (List.mem_append_left _ (List.mem_append_right _ h)))) hK hP 0 (by omega) rfl rfl 3 (by decide) (List.mem_of_getElem? (i := 1) rfl) rfl dX8_disputed_1 ?_
  refine x_cVRi (As := []) (rest := []) S hK hP 12 (by omega) rfl rfl (c_X2_countDisputed l σ Y cn  (by first | assumption | omega) (by first | assumption | omega) (by first | assumption | omega) (by first | assumption | omega) (by first | assumption | omega) (by first | assumption | omega) (by first | assumption | omega)) (x_cwV (n0 := 0) (cq := (RX2, TX2, 5)) S gX8_disputed_X2_countDisputed rfl (by decide +kernel) ⟨Nat.le_of_ble_eq_true rfl, Nat.le_of_ble_eq_true rfl⟩) rfl hl.1 rfl (Nat.le_of_ble_eq_true rfl) dX8_disputed_4 ⟨Nat.le_refl _, Nat.le_refl _⟩ (fun r_4 hr_4 => ?_)
  subst hr_4
  exact x_iretR S hlocks hr rfl (rfl) dX8_disputed_7
set_option maxHeartbeats 4000000 in
set_option maxRecDepth 100000 in
theorem c_X8_forget (l : Launch) {D : va_G} {K : Nat → ClassId} {α : Nat → Nat} (σ : Nat → Nat → Int32) (hI : xw_I 42 α) (x : Int32)  (hC : xIC σ) : Met l yX8_forget wsX8_forget (xrm 1) (va_Pc [.ref (α 0), .int x] (xPre D K 42 α (xC α K) σ)) (xQi D 42 α (xC α K) (fun r τ => r = xp_forget (xcC σ) (xsC σ) x ∧ τ = xst_forget σ x)) 0 0 (xw_R 42 α) := by
  refine Met.ofW (cc := cX8_forget) (maxL := 2) (ret := (some .int)) (by decide) rfl ?_
  intro p e s m args below meth c s₁ B hml hv
  obtain ⟨rfl, hK, hP⟩ := hv
  have S : CallFix p m c cX8_forget 2 s _ wsX8_forget RX8 := ⟨B.exec, B.bytes, hml, findClass_of_methodNamed B.named, atoms_spec (ws := wsX8_forget) B.pre⟩
  have hx := S.1
  have hb := S.2.1
  have hr := B.returns
  have hlocks := B.notSynchronized
  have hS : va_S (xw_R 42 α) s.heap s.heap [] := va_S.rf
  have hl := lv_entry ([.ref (α 0), .int x]) (n := 2) (Nat.le_of_ble_eq_true rfl)
  rw [lg_entry_eq]
  generalize (lg_sl ([.ref (α 0), .int x]) ++ List.replicate (2 - (lg_sl ([.ref (α 0), .int x])).length) Slot.unset).toArray = ls at hl ⊢
  have hl : lv_has ls 2 [(0, .ref (α 0)), (1, .int x)] := hl
  have hPP := hP
  have hY := xIC_Y hC
  have hY12 := xIC_12 hC
  obtain ⟨⟨hL, hL9⟩, ⟨hF, hYr⟩, ⟨hcs, hcn, hc1, hc2⟩, ⟨hss, hsn, hs1, hs2⟩, hfe, hsh⟩ := hC
  generalize hLe : xLC σ = L at hL hL9 hF ⊢
  generalize hYe : xYC σ = Y at hY hY12 hYr ⊢
  generalize hcne : xcC σ = cn at hcs hcn hc1 hc2 ⊢
  generalize hsne : xsC σ = sn at hss hsn hs1 hs2 ⊢
  refine lv_iload_n hx hb dX8_forget_0 rfl (lv_at hl 1 rfl) ?_
  refine lv_iconst (v := nI 2) hx hb dX8_forget_1 (by decide) ?_
  refine x_cSi (As := [.int x, .int (nI 2)]) (rest := []) S (c_X8_isBelow l x (nI 2)  ) (x_cwS (n0 := 2) S gX8_forget_X8_isBelow rfl (by decide +kernel) ⟨Nat.le_of_ble_eq_true rfl, Nat.le_of_ble_eq_true rfl⟩) rfl hl.1 rfl (Nat.le_of_ble_eq_true rfl) dX8_forget_2 ⟨Nat.le_refl _, Nat.le_refl _⟩ (fun r_2 hr_2 => ?_)
  subst hr_2
  refine x_if_neB (tgt := 11) S dX8_forget_5 (by decide) (fun c_5 => ?_) (fun c_5 => ?_)
  · refine lv_iload_n hx hb dX8_forget_11 rfl (lv_at hl 1 rfl) ?_
    refine lv_if_ne (tgt := 25) hx hb dX8_forget_12 (by decide) (fun c_12 => ?_) (fun c_12 => ?_)
    · refine lv_aload_n hx hb dX8_forget_25 rfl (lv_at hl 0 rfl) ?_
      refine x_get S (fun w h => List.mem_cons_of_mem _ (List.mem_append_left _ (List.mem_append_left _ (List.mem_append_right _ h)))) hK hP 0 (by omega) rfl rfl 4 (by decide) (List.mem_of_getElem? (i := 2) rfl) rfl dX8_forget_26 ?_
      refine x_cVWi (As := []) (rest := []) S hK hP hS (fun _ h => h) 16 (by omega) rfl rfl (c_X6_clear l σ hI   ) (x_cwV (n0 := 0) (cq := (RX6, TX6, 5)) S gX8_forget_X6_clear rfl (by decide +kernel) ⟨Nat.le_of_ble_eq_true rfl, Nat.le_of_ble_eq_true rfl⟩) rfl hl.1 rfl (Nat.le_of_ble_eq_true rfl) dX8_forget_29 ⟨Nat.le_refl _, Nat.le_refl _⟩ (fun r_29 τ_29 H locs hr_29 hP hk_29 hS => ?_)
      obtain ⟨hr_29, hs_29⟩ := hr_29
      subst hr_29
      subst hs_29
      exact x_iretW S hlocks hP hS hr rfl (by first | exact ⟨by rw [xp_forget, if_pos c_5, if_pos c_12]; exact hcs, by rw [xst_forget, if_pos c_5, if_pos c_12]⟩ | exact ⟨by rw [xp_forget, if_pos c_5, if_neg c_12]; exact hss, by rw [xst_forget, if_pos c_5, if_neg c_12]⟩) dX8_forget_32
    · refine lv_aload_n hx hb dX8_forget_15 rfl (lv_at hl 0 rfl) ?_
      refine x_get S (fun w h => List.mem_cons_of_mem _ (List.mem_append_left _ (List.mem_append_left _ (List.mem_append_right _ h)))) hK hP 0 (by omega) rfl rfl 3 (by decide) (List.mem_of_getElem? (i := 1) rfl) rfl dX8_forget_16 ?_
      refine x_cVWi (As := []) (rest := []) S hK hP hS (fun _ h => h) 12 (by omega) rfl rfl (c_X2_clear l σ hI   ) (x_cwV (n0 := 0) (cq := (RX2, TX2, 5)) S gX8_forget_X2_clear rfl (by decide +kernel) ⟨Nat.le_of_ble_eq_true rfl, Nat.le_of_ble_eq_true rfl⟩) rfl hl.1 rfl (Nat.le_of_ble_eq_true rfl) dX8_forget_19 ⟨Nat.le_refl _, Nat.le_refl _⟩ (fun r_19 τ_19 H locs hr_19 hP hk_19 hS => ?_)
      obtain ⟨hr_19, hs_19⟩ := hr_19
      subst hr_19
      subst hs_19
      refine lv_goto (tgt := 32) hx hb dX8_forget_22 (by decide) ?_
      exact x_iretW S hlocks hP hS hr rfl (by first | exact ⟨by rw [xp_forget, if_pos c_5, if_pos c_12]; exact hcs, by rw [xst_forget, if_pos c_5, if_pos c_12]⟩ | exact ⟨by rw [xp_forget, if_pos c_5, if_neg c_12]; exact hss, by rw [xst_forget, if_pos c_5, if_neg c_12]⟩) dX8_forget_32
  · refine lv_bipush (v := (-2)) hx hb dX8_forget_8 (by decide) ?_
    exact x_iretW S hlocks hP hS hr rfl (⟨by rw [xp_forget, if_neg c_5], by rw [xst_forget, if_neg c_5]⟩) dX8_forget_10
set_option maxHeartbeats 4000000 in
set_option maxRecDepth 100000 in
theorem c_X8_could (l : Launch) {D : va_G} {K : Nat → ClassId} {α : Nat → Nat} (σ : Nat → Nat → Int32) (hI : xw_I 42 α) (x : Int32)  (hC : xIC σ) : Met l yX8_could wsX8_could (xrm 4) (va_Pc [.ref (α 0), .int x] (xPre D K 42 α (xC α K) σ)) (xQi D 42 α (xC α K) (fun r τ => r = xp_could (xB (xFC σ) (σ 17) (σ 18) (σ 19) (xsC σ)) x ∧ xCs σ τ)) 0 0 (xw_R 42 α) := by
  refine Met.ofW (cc := cX8_could) (maxL := 4) (ret := (some .int)) (by decide) rfl ?_
  intro p e s m args below meth c s₁ B hml hv
  obtain ⟨rfl, hK, hP⟩ := hv
  have S : CallFix p m c cX8_could 4 s _ wsX8_could RX8 := ⟨B.exec, B.bytes, hml, findClass_of_methodNamed B.named, atoms_spec (ws := wsX8_could) B.pre⟩
  have hx := S.1
  have hb := S.2.1
  have hr := B.returns
  have hlocks := B.notSynchronized
  have hS : va_S (xw_R 42 α) s.heap s.heap [] := va_S.rf
  have hl := lv_entry ([.ref (α 0), .int x]) (n := 4) (Nat.le_of_ble_eq_true rfl)
  rw [lg_entry_eq]
  generalize (lg_sl ([.ref (α 0), .int x]) ++ List.replicate (4 - (lg_sl ([.ref (α 0), .int x])).length) Slot.unset).toArray = ls at hl ⊢
  have hl : lv_has ls 4 [(0, .ref (α 0)), (1, .int x)] := hl
  have hPP := hP
  have hY := xIC_Y hC
  have hY12 := xIC_12 hC
  obtain ⟨⟨hL, hL9⟩, ⟨hF, hYr⟩, ⟨hcs, hcn, hc1, hc2⟩, ⟨hss, hsn, hs1, hs2⟩, hfe, hsh⟩ := hC
  generalize hLe : xLC σ = L at hL hL9 hF ⊢
  generalize hYe : xYC σ = Y at hY hY12 hYr ⊢
  generalize hcne : xcC σ = cn at hcs hcn hc1 hc2 ⊢
  generalize hsne : xsC σ = sn at hss hsn hs1 hs2 ⊢
  refine lv_iload_n hx hb dX8_could_0 rfl (lv_at hl 1 rfl) ?_
  refine lv_iconst (v := (-1)) hx hb dX8_could_1 (by decide) ?_
  refine lv_icmp_eq (tgt := 15) hx hb dX8_could_2 (by decide) (fun c_2 => ?_) (fun c_2 => ?_)
  · refine lv_aload_n hx hb dX8_could_15 rfl (lv_at hl 0 rfl) ?_
    refine x_cVWv (As := []) (rest := []) S hK hP hS (fun _ h => h) 0 (by omega) rfl rfl (c_X8_drawSeen l σ hI sn  (by first | assumption | omega) (by first | assumption | omega) (by first | assumption | omega) (by first | assumption | omega)) (x_cwV (n0 := 0) (cq := (RX8, TX8, 9)) S gX8_could_X8_drawSeen rfl (by decide +kernel) ⟨Nat.le_of_ble_eq_true rfl, Nat.le_of_ble_eq_true rfl⟩) rfl hl.1 rfl (Nat.le_of_ble_eq_true rfl) dX8_could_16 ⟨Nat.le_refl _, Nat.le_refl _⟩ (fun τ_16 H locs hr_16 hP hk_16 hS => ?_)
    subst hr_16
    refine lv_iload_n hx hb dX8_could_19 rfl (lv_at hl 1 rfl) ?_
    refine lv_iconst (v := (-1)) hx hb dX8_could_20 (by decide) ?_
    refine lv_icmp_ne (tgt := 32) hx hb dX8_could_21 (by decide) (fun c_21 => ?_) (fun c_21 => ?_)
    · have hx6 : xin x 6 := by first | exact c_9 | exact absurd c_2 c_21
      obtain ⟨h, hh, rfl⟩ := xin_of hx6 (by omega)
      refine lv_iconst (v := nI 0) hx hb dX8_could_32 (by decide) ?_
      refine lv_istore_n (lv' := [(2, .int (nI 0)), (0, .ref (α 0)), (1, .int (nI h))]) hx hb dX8_could_33 rfl hl (by decide) rfl (fun ls hl => ?_)
      refine lv_iconst (v := nI 0) hx hb dX8_could_34 (by decide) ?_
      refine lv_istore_n (lv' := [(3, .int (nI 0)), (2, .int (nI 0)), (0, .ref (α 0)), (1, .int (nI h))]) hx hb dX8_could_35 rfl hl (by decide) rfl (fun ls hl => ?_)
      refine x_loopW (ι := Nat) (fun i H locs ls => (i ≤ 6) ∧ lv_has ls 4 [(3, .int (nI i)), (2, .int (nI (xmask (fun n => 0 < xrw (xB (xFC σ) (σ 17) (σ 18) (σ 19) sn) h n) i))), (0, .ref (α 0)), (1, .int (nI h))] ∧ va_P D vwCl (xw 42 α (xC α K) (xst_cw (va_up σ 21 (fa_fill (fun h => nI ((xB (xFC σ) (σ 17) (σ 18) (σ 19) sn) h)) (σ 21) 6)) (xB (xFC σ) (σ 17) (σ 18) (σ 19) sn))) H ∧ va_S (xw_R 42 α) s.heap H locs) (fun i => 6 - i) ?_ 0 ls ⟨Nat.zero_le _, lv_sub hl [0, 1, 2, 3] rfl, hP, hS⟩
      intro i H locs ls hinv ih_36
      obtain ⟨hi, hl, hP, hS⟩ := hinv
      have hl : lv_has ls 4 [(3, .int (nI i)), (2, .int (nI (xmask (fun n => 0 < xrw (xB (xFC σ) (σ 17) (σ 18) (σ 19) sn) h n) i))), (0, .ref (α 0)), (1, .int (nI h))] := hl
      have hP : va_P D vwCl (xw 42 α (xC α K) (xst_cw (va_up σ 21 (fa_fill (fun h => nI ((xB (xFC σ) (σ 17) (σ 18) (σ 19) sn) h)) (σ 21) 6)) (xB (xFC σ) (σ 17) (σ 18) (σ 19) sn))) H := hP
      refine lv_iload_n hx hb dX8_could_36 rfl (lv_at hl 0 rfl) ?_
      refine lv_bipush (v := nI 6) hx hb dX8_could_37 (by decide) ?_
      refine x_icmpN_ge (tgt := 66) S dX8_could_39 (by decide) (by omega) (by omega) (fun c_39 => ?_) (fun c_39 => ?_)
      · have e9 : i = 6 := by omega
        subst e9
        refine lv_iload_n hx hb dX8_could_66 rfl (lv_at hl 1 rfl) ?_
        exact x_iretW S hlocks hP hS hr rfl (⟨by rw [xp_could, if_neg c_21, if_pos (xin_nI (by omega) (by omega)), cN_nI (by omega)], xCs_cw⟩) dX8_could_67
      · refine lv_aload_n hx hb dX8_could_42 rfl (lv_at hl 2 rfl) ?_
        refine x_get S (fun w h => List.mem_cons_of_mem _ (List.mem_append_left _ (List.mem_append_left _ (List.mem_append_left _ (List.mem_append_right _ h))))) hK hP 0 (by omega) rfl rfl 5 (by decide) (List.mem_of_getElem? (i := 1) rfl) rfl dX8_could_43 ?_
        refine lv_iload_n hx hb dX8_could_46 rfl (lv_at hl 3 rfl) ?_
        refine lv_iload_n hx hb dX8_could_47 rfl (lv_at hl 0 rfl) ?_
        refine x_cVRi (As := [.int (nI h), .int (nI i)]) (rest := []) S hK hP 20 (by omega) rfl rfl (c_X3_rowsWith l (xst_cw (va_up σ 21 (fa_fill (fun h => nI ((xB (xFC σ) (σ 17) (σ 18) (σ 19) sn) h)) (σ 21) 6)) (xB (xFC σ) (σ 17) (σ 18) (σ 19) sn)) h i (xB (xFC σ) (σ 17) (σ 18) (σ 19) sn)  (fun h hh => ⟨by unfold xst_cw; rw [xup_n _ _ (by decide), xup_n _ _ (by decide), xup_s, fa_fill_in hh], xs_left_lt _ _ _ _ _ _⟩) (fun k hk => by unfold xst_cw; rw [xup_n _ _ (by decide), xup_s, fa_fill_in hk]) (fun k hk => by unfold xst_cw; rw [xup_s, xfd_in (by omega) hk]) (by first | assumption | omega) (by first | assumption | omega)) (x_cwV (n0 := 2) (cq := (RX3, TX3, 3)) S gX8_could_X3_rowsWith rfl (by decide +kernel) ⟨Nat.le_of_ble_eq_true rfl, Nat.le_of_ble_eq_true rfl⟩) rfl hl.1 rfl (Nat.le_of_ble_eq_true rfl) dX8_could_48 ⟨Nat.le_refl _, Nat.le_refl _⟩ (fun r_48 hr_48 => ?_)
        subst hr_48
        have hq2 := xrw_lt (xB (xFC σ) (σ 17) (σ 18) (σ 19) sn) h (n := i) (by omega)
        refine x_ifN_le (tgt := 60) S dX8_could_51 (by decide) (by omega) (fun c_51 => ?_) (fun c_51 => ?_)
        · refine lv_iinc (v := nI (i + 1)) (lv' := [(3, .int (nI (i + 1))), (2, .int (nI (xmask (fun n => 0 < xrw (xB (xFC σ) (σ 17) (σ 18) (σ 19) sn) h n) i))), (0, .ref (α 0)), (1, .int (nI h))]) hx hb dX8_could_60 hl (k := 0) rfl (nI_add i 1) (by decide) rfl (fun ls hl => ?_)
          refine lv_goto (tgt := 36) hx hb dX8_could_63 (by decide) ?_
          exact ih_36 (i + 1) H locs ls ⟨(by omega), (by have h9 := lv_sub (l' := [(3, .int (nI (i + 1))), (2, .int (nI (xmask (fun n => 0 < xrw (xB (xFC σ) (σ 17) (σ 18) (σ 19) sn) h n) i))), (0, .ref (α 0)), (1, .int (nI h))]) hl [0, 1, 2, 3] rfl; rw [show nI (xmask (fun n => 0 < xrw (xB (xFC σ) (σ 17) (σ 18) (σ 19) sn) h n) i) = nI (xmask (fun n => 0 < xrw (xB (xFC σ) (σ 17) (σ 18) (σ 19) sn) h n) (i + 1)) from by rw [xmask, if_neg (by omega)]] at h9; exact h9), hP, hS⟩ (by (try dsimp only); omega)
        · refine lv_iload_n hx hb dX8_could_54 rfl (lv_at hl 1 rfl) ?_
          refine lv_iconst (v := nI 1) hx hb dX8_could_55 (by decide) ?_
          refine lv_iload_n hx hb dX8_could_56 rfl (lv_at hl 0 rfl) ?_
          refine lv_ishl hx hb dX8_could_57 ?_
          refine lv_ior hx hb dX8_could_58 ?_
          refine x_top S (y := nI (xmask (fun n => 0 < xrw (xB (xFC σ) (σ 17) (σ 18) (σ 19) sn) h n) i ||| 2 ^ i)) (xor_I (by omega)) ?_
          refine lv_istore_n (lv' := [(2, .int (nI (xmask (fun n => 0 < xrw (xB (xFC σ) (σ 17) (σ 18) (σ 19) sn) h n) i ||| 2 ^ i))), (3, .int (nI i)), (0, .ref (α 0)), (1, .int (nI h))]) hx hb dX8_could_59 rfl hl (by decide) rfl (fun ls hl => ?_)
          refine lv_iinc (v := nI (i + 1)) (lv' := [(3, .int (nI (i + 1))), (2, .int (nI (xmask (fun n => 0 < xrw (xB (xFC σ) (σ 17) (σ 18) (σ 19) sn) h n) i ||| 2 ^ i))), (0, .ref (α 0)), (1, .int (nI h))]) hx hb dX8_could_60 hl (k := 1) rfl (nI_add i 1) (by decide) rfl (fun ls hl => ?_)
          refine lv_goto (tgt := 36) hx hb dX8_could_63 (by decide) ?_
          exact ih_36 (i + 1) H locs ls ⟨(by omega), (by have h9 := lv_sub (l' := [(3, .int (nI (i + 1))), (2, .int (nI (xmask (fun n => 0 < xrw (xB (xFC σ) (σ 17) (σ 18) (σ 19) sn) h n) i ||| 2 ^ i))), (0, .ref (α 0)), (1, .int (nI h))]) hl [0, 1, 2, 3] rfl; rw [show nI (xmask (fun n => 0 < xrw (xB (xFC σ) (σ 17) (σ 18) (σ 19) sn) h n) i ||| 2 ^ i) = nI (xmask (fun n => 0 < xrw (xB (xFC σ) (σ 17) (σ 18) (σ 19) sn) h n) (i + 1)) from by rw [xmask, if_pos c_51]] at h9; exact h9), hP, hS⟩ (by (try dsimp only); omega)
    · refine lv_aload_n hx hb dX8_could_24 rfl (lv_at hl 0 rfl) ?_
      refine x_get S (fun w h => List.mem_cons_of_mem _ (List.mem_append_left _ (List.mem_append_left _ (List.mem_append_left _ (List.mem_append_right _ h))))) hK hP 0 (by omega) rfl rfl 5 (by decide) (List.mem_of_getElem? (i := 1) rfl) rfl dX8_could_25 ?_
      refine x_cVRi (As := []) (rest := []) S hK hP 20 (by omega) rfl rfl (c_X3_rows l (xst_cw (va_up σ 21 (fa_fill (fun h => nI ((xB (xFC σ) (σ 17) (σ 18) (σ 19) sn) h)) (σ 21) 6)) (xB (xFC σ) (σ 17) (σ 18) (σ 19) sn))   ) (x_cwV (n0 := 0) (cq := (RX3, TX3, 3)) S gX8_could_X3_rows rfl (by decide +kernel) ⟨Nat.le_of_ble_eq_true rfl, Nat.le_of_ble_eq_true rfl⟩) rfl hl.1 rfl (Nat.le_of_ble_eq_true rfl) dX8_could_28 ⟨Nat.le_refl _, Nat.le_refl _⟩ (fun r_28 hr_28 => ?_)
      subst hr_28
      refine x_top S (y := nI (xon (xB (xFC σ) (σ 17) (σ 18) (σ 19) sn) 0)) (by unfold xst_cw; rw [xup_s, xfd_in (by omega) (by omega)]) ?_
      exact x_iretW S hlocks hP hS hr rfl (⟨by rw [xp_could, if_pos c_21], xCs_cw⟩) dX8_could_31
  · refine lv_iload_n hx hb dX8_could_5 rfl (lv_at hl 1 rfl) ?_
    refine x_cSi (As := [.int x]) (rest := []) S (c_X8_isShip l x  ) (x_cwS (n0 := 1) S gX8_could_X8_isShip rfl (by decide +kernel) ⟨Nat.le_of_ble_eq_true rfl, Nat.le_of_ble_eq_true rfl⟩) rfl hl.1 rfl (Nat.le_of_ble_eq_true rfl) dX8_could_6 ⟨Nat.le_refl _, Nat.le_refl _⟩ (fun r_6 hr_6 => ?_)
    subst hr_6
    refine x_if_neB (tgt := 15) S dX8_could_9 (by decide) (fun c_9 => ?_) (fun c_9 => ?_)
    · refine lv_aload_n hx hb dX8_could_15 rfl (lv_at hl 0 rfl) ?_
      refine x_cVWv (As := []) (rest := []) S hK hP hS (fun _ h => h) 0 (by omega) rfl rfl (c_X8_drawSeen l σ hI sn  (by first | assumption | omega) (by first | assumption | omega) (by first | assumption | omega) (by first | assumption | omega)) (x_cwV (n0 := 0) (cq := (RX8, TX8, 9)) S gX8_could_X8_drawSeen rfl (by decide +kernel) ⟨Nat.le_of_ble_eq_true rfl, Nat.le_of_ble_eq_true rfl⟩) rfl hl.1 rfl (Nat.le_of_ble_eq_true rfl) dX8_could_16 ⟨Nat.le_refl _, Nat.le_refl _⟩ (fun τ_16 H locs hr_16 hP hk_16 hS => ?_)
      subst hr_16
      refine lv_iload_n hx hb dX8_could_19 rfl (lv_at hl 1 rfl) ?_
      refine lv_iconst (v := (-1)) hx hb dX8_could_20 (by decide) ?_
      refine lv_icmp_ne (tgt := 32) hx hb dX8_could_21 (by decide) (fun c_21 => ?_) (fun c_21 => ?_)
      · have hx6 : xin x 6 := by first | exact c_9 | exact absurd c_2 c_21
        obtain ⟨h, hh, rfl⟩ := xin_of hx6 (by omega)
        refine lv_iconst (v := nI 0) hx hb dX8_could_32 (by decide) ?_
        refine lv_istore_n (lv' := [(2, .int (nI 0)), (0, .ref (α 0)), (1, .int (nI h))]) hx hb dX8_could_33 rfl hl (by decide) rfl (fun ls hl => ?_)
        refine lv_iconst (v := nI 0) hx hb dX8_could_34 (by decide) ?_
        refine lv_istore_n (lv' := [(3, .int (nI 0)), (2, .int (nI 0)), (0, .ref (α 0)), (1, .int (nI h))]) hx hb dX8_could_35 rfl hl (by decide) rfl (fun ls hl => ?_)
        refine x_loopW (ι := Nat) (fun i H locs ls => (i ≤ 6) ∧ lv_has ls 4 [(3, .int (nI i)), (2, .int (nI (xmask (fun n => 0 < xrw (xB (xFC σ) (σ 17) (σ 18) (σ 19) sn) h n) i))), (0, .ref (α 0)), (1, .int (nI h))] ∧ va_P D vwCl (xw 42 α (xC α K) (xst_cw (va_up σ 21 (fa_fill (fun h => nI ((xB (xFC σ) (σ 17) (σ 18) (σ 19) sn) h)) (σ 21) 6)) (xB (xFC σ) (σ 17) (σ 18) (σ 19) sn))) H ∧ va_S (xw_R 42 α) s.heap H locs) (fun i => 6 - i) ?_ 0 ls ⟨Nat.zero_le _, lv_sub hl [0, 1, 2, 3] rfl, hP, hS⟩
        intro i H locs ls hinv ih_36
        obtain ⟨hi, hl, hP, hS⟩ := hinv
        have hl : lv_has ls 4 [(3, .int (nI i)), (2, .int (nI (xmask (fun n => 0 < xrw (xB (xFC σ) (σ 17) (σ 18) (σ 19) sn) h n) i))), (0, .ref (α 0)), (1, .int (nI h))] := hl
        have hP : va_P D vwCl (xw 42 α (xC α K) (xst_cw (va_up σ 21 (fa_fill (fun h => nI ((xB (xFC σ) (σ 17) (σ 18) (σ 19) sn) h)) (σ 21) 6)) (xB (xFC σ) (σ 17) (σ 18) (σ 19) sn))) H := hP
        refine lv_iload_n hx hb dX8_could_36 rfl (lv_at hl 0 rfl) ?_
        refine lv_bipush (v := nI 6) hx hb dX8_could_37 (by decide) ?_
        refine x_icmpN_ge (tgt := 66) S dX8_could_39 (by decide) (by omega) (by omega) (fun c_39 => ?_) (fun c_39 => ?_)
        · have e9 : i = 6 := by omega
          subst e9
          refine lv_iload_n hx hb dX8_could_66 rfl (lv_at hl 1 rfl) ?_
          exact x_iretW S hlocks hP hS hr rfl (⟨by rw [xp_could, if_neg c_21, if_pos (xin_nI (by omega) (by omega)), cN_nI (by omega)], xCs_cw⟩) dX8_could_67
        · refine lv_aload_n hx hb dX8_could_42 rfl (lv_at hl 2 rfl) ?_
          refine x_get S (fun w h => List.mem_cons_of_mem _ (List.mem_append_left _ (List.mem_append_left _ (List.mem_append_left _ (List.mem_append_right _ h))))) hK hP 0 (by omega) rfl rfl 5 (by decide) (List.mem_of_getElem? (i := 1) rfl) rfl dX8_could_43 ?_
          refine lv_iload_n hx hb dX8_could_46 rfl (lv_at hl 3 rfl) ?_
          refine lv_iload_n hx hb dX8_could_47 rfl (lv_at hl 0 rfl) ?_
          refine x_cVRi (As := [.int (nI h), .int (nI i)]) (rest := []) S hK hP 20 (by omega) rfl rfl (c_X3_rowsWith l (xst_cw (va_up σ 21 (fa_fill (fun h => nI ((xB (xFC σ) (σ 17) (σ 18) (σ 19) sn) h)) (σ 21) 6)) (xB (xFC σ) (σ 17) (σ 18) (σ 19) sn)) h i (xB (xFC σ) (σ 17) (σ 18) (σ 19) sn)  (fun h hh => ⟨by unfold xst_cw; rw [xup_n _ _ (by decide), xup_n _ _ (by decide), xup_s, fa_fill_in hh], xs_left_lt _ _ _ _ _ _⟩) (fun k hk => by unfold xst_cw; rw [xup_n _ _ (by decide), xup_s, fa_fill_in hk]) (fun k hk => by unfold xst_cw; rw [xup_s, xfd_in (by omega) hk]) (by first | assumption | omega) (by first | assumption | omega)) (x_cwV (n0 := 2) (cq := (RX3, TX3, 3)) S gX8_could_X3_rowsWith rfl (by decide +kernel) ⟨Nat.le_of_ble_eq_true rfl, Nat.le_of_ble_eq_true rfl⟩) rfl hl.1 rfl (Nat.le_of_ble_eq_true rfl) dX8_could_48 ⟨Nat.le_refl _, Nat.le_refl _⟩ (fun r_48 hr_48 => ?_)
          subst hr_48
          have hq2 := xrw_lt (xB (xFC σ) (σ 17) (σ 18) (σ 19) sn) h (n := i) (by omega)
          refine x_ifN_le (tgt := 60) S dX8_could_51 (by decide) (by omega) (fun c_51 => ?_) (fun c_51 => ?_)
          · refine lv_iinc (v := nI (i + 1)) (lv' := [(3, .int (nI (i + 1))), (2, .int (nI (xmask (fun n => 0 < xrw (xB (xFC σ) (σ 17) (σ 18) (σ 19) sn) h n) i))), (0, .ref (α 0)), (1, .int (nI h))]) hx hb dX8_could_60 hl (k := 0) rfl (nI_add i 1) (by decide) rfl (fun ls hl => ?_)
            refine lv_goto (tgt := 36) hx hb dX8_could_63 (by decide) ?_
            exact ih_36 (i + 1) H locs ls ⟨(by omega), (by have h9 := lv_sub (l' := [(3, .int (nI (i + 1))), (2, .int (nI (xmask (fun n => 0 < xrw (xB (xFC σ) (σ 17) (σ 18) (σ 19) sn) h n) i))), (0, .ref (α 0)), (1, .int (nI h))]) hl [0, 1, 2, 3] rfl; rw [show nI (xmask (fun n => 0 < xrw (xB (xFC σ) (σ 17) (σ 18) (σ 19) sn) h n) i) = nI (xmask (fun n => 0 < xrw (xB (xFC σ) (σ 17) (σ 18) (σ 19) sn) h n) (i + 1)) from by rw [xmask, if_neg (by omega)]] at h9; exact h9), hP, hS⟩ (by (try dsimp only); omega)
          · refine lv_iload_n hx hb dX8_could_54 rfl (lv_at hl 1 rfl) ?_
            refine lv_iconst (v := nI 1) hx hb dX8_could_55 (by decide) ?_
            refine lv_iload_n hx hb dX8_could_56 rfl (lv_at hl 0 rfl) ?_
            refine lv_ishl hx hb dX8_could_57 ?_
            refine lv_ior hx hb dX8_could_58 ?_
            refine x_top S (y := nI (xmask (fun n => 0 < xrw (xB (xFC σ) (σ 17) (σ 18) (σ 19) sn) h n) i ||| 2 ^ i)) (xor_I (by omega)) ?_
            refine lv_istore_n (lv' := [(2, .int (nI (xmask (fun n => 0 < xrw (xB (xFC σ) (σ 17) (σ 18) (σ 19) sn) h n) i ||| 2 ^ i))), (3, .int (nI i)), (0, .ref (α 0)), (1, .int (nI h))]) hx hb dX8_could_59 rfl hl (by decide) rfl (fun ls hl => ?_)
            refine lv_iinc (v := nI (i + 1)) (lv' := [(3, .int (nI (i + 1))), (2, .int (nI (xmask (fun n => 0 < xrw (xB (xFC σ) (σ 17) (σ 18) (σ 19) sn) h n) i ||| 2 ^ i))), (0, .ref (α 0)), (1, .int (nI h))]) hx hb dX8_could_60 hl (k := 1) rfl (nI_add i 1) (by decide) rfl (fun ls hl => ?_)
            refine lv_goto (tgt := 36) hx hb dX8_could_63 (by decide) ?_
            exact ih_36 (i + 1) H locs ls ⟨(by omega), (by have h9 := lv_sub (l' := [(3, .int (nI (i + 1))), (2, .int (nI (xmask (fun n => 0 < xrw (xB (xFC σ) (σ 17) (σ 18) (σ 19) sn) h n) i ||| 2 ^ i))), (0, .ref (α 0)), (1, .int (nI h))]) hl [0, 1, 2, 3] rfl; rw [show nI (xmask (fun n => 0 < xrw (xB (xFC σ) (σ 17) (σ 18) (σ 19) sn) h n) i ||| 2 ^ i) = nI (xmask (fun n => 0 < xrw (xB (xFC σ) (σ 17) (σ 18) (σ 19) sn) h n) (i + 1)) from by rw [xmask, if_pos c_51]] at h9; exact h9), hP, hS⟩ (by (try dsimp only); omega)
      · refine lv_aload_n hx hb dX8_could_24 rfl (lv_at hl 0 rfl) ?_
        refine x_get S (fun w h => List.mem_cons_of_mem _ (List.mem_append_left _ (List.mem_append_left _ (List.mem_append_left _ (List.mem_append_right _ h))))) hK hP 0 (by omega) rfl rfl 5 (by decide) (List.mem_of_getElem? (i := 1) rfl) rfl dX8_could_25 ?_
        refine x_cVRi (As := []) (rest := []) S hK hP 20 (by omega) rfl rfl (c_X3_rows l (xst_cw (va_up σ 21 (fa_fill (fun h => nI ((xB (xFC σ) (σ 17) (σ 18) (σ 19) sn) h)) (σ 21) 6)) (xB (xFC σ) (σ 17) (σ 18) (σ 19) sn))   ) (x_cwV (n0 := 0) (cq := (RX3, TX3, 3)) S gX8_could_X3_rows rfl (by decide +kernel) ⟨Nat.le_of_ble_eq_true rfl, Nat.le_of_ble_eq_true rfl⟩) rfl hl.1 rfl (Nat.le_of_ble_eq_true rfl) dX8_could_28 ⟨Nat.le_refl _, Nat.le_refl _⟩ (fun r_28 hr_28 => ?_)
        subst hr_28
        refine x_top S (y := nI (xon (xB (xFC σ) (σ 17) (σ 18) (σ 19) sn) 0)) (by unfold xst_cw; rw [xup_s, xfd_in (by omega) (by omega)]) ?_
        exact x_iretW S hlocks hP hS hr rfl (⟨by rw [xp_could, if_pos c_21], xCs_cw⟩) dX8_could_31
    · refine lv_bipush (v := (-2)) hx hb dX8_could_12 (by decide) ?_
      exact x_iretW S hlocks hP hS hr rfl (⟨by rw [xp_could, if_neg c_2, if_neg c_9], xCs_rf _⟩) dX8_could_14
set_option maxHeartbeats 4000000 in
set_option maxRecDepth 100000 in
theorem c_X8_isFalse (l : Launch) {D : va_G} {K : Nat → ClassId} {α : Nat → Nat} (σ : Nat → Nat → Int32)   (hC : xIC σ) : Met l yX8_isFalse wsX8_isFalse (xrm 1) (va_Pc [.ref (α 0)] (xPre D K 42 α (xC α K) σ)) (vp_Si (fun r => r = nI (xs_false (xB (xFC σ) (σ 17) (σ 18) (σ 19) (xsC σ))))) 0 0 (fun _ => False) := by
  refine Met.ofW (cc := cX8_isFalse) (maxL := 3) (ret := (some .int)) (by decide) rfl ?_
  intro p e s m args below meth c s₁ B hml hv
  obtain ⟨rfl, hK, hP⟩ := hv
  have S : CallFix p m c cX8_isFalse 3 s _ wsX8_isFalse RX8 := ⟨B.exec, B.bytes, hml, findClass_of_methodNamed B.named, atoms_spec (ws := wsX8_isFalse) B.pre⟩
  have hx := S.1
  have hb := S.2.1
  have hr := B.returns
  have hlocks := B.notSynchronized
  have hl := lv_entry ([.ref (α 0)]) (n := 3) (Nat.le_of_ble_eq_true rfl)
  rw [lg_entry_eq]
  generalize (lg_sl ([.ref (α 0)]) ++ List.replicate (3 - (lg_sl ([.ref (α 0)])).length) Slot.unset).toArray = ls at hl ⊢
  have hl : lv_has ls 3 [(0, .ref (α 0))] := hl
  have hPP := hP
  have hY := xIC_Y hC
  have hY12 := xIC_12 hC
  obtain ⟨⟨hL, hL9⟩, ⟨hF, hYr⟩, ⟨hcs, hcn, hc1, hc2⟩, ⟨hss, hsn, hs1, hs2⟩, hfe, hsh⟩ := hC
  generalize hLe : xLC σ = L at hL hL9 hF ⊢
  generalize hYe : xYC σ = Y at hY hY12 hYr ⊢
  generalize hcne : xcC σ = cn at hcs hcn hc1 hc2 ⊢
  generalize hsne : xsC σ = sn at hss hsn hs1 hs2 ⊢
  refine lv_iconst (v := nI 0) hx hb dX8_isFalse_0 (by decide) ?_
  refine lv_istore_n (lv' := [(1, .int (nI 0)), (0, .ref (α 0))]) hx hb dX8_isFalse_1 rfl hl (by decide) rfl (fun ls hl => ?_)
  refine lv_iconst (v := nI 0) hx hb dX8_isFalse_2 (by decide) ?_
  refine lv_istore_n (lv' := [(2, .int (nI 0)), (1, .int (nI 0)), (0, .ref (α 0))]) hx hb dX8_isFalse_3 rfl hl (by decide) rfl (fun ls hl => ?_)
  refine x_loop (ι := Nat) (fun i ls => (i ≤ 6) ∧ lv_has ls 3 [(2, .int (nI i)), (1, .int (nI (xora (xB (xFC σ) (σ 17) (σ 18) (σ 19) sn) i))), (0, .ref (α 0))]) (fun i => 6 - i) ?_ 0 ls ⟨Nat.zero_le _, lv_sub hl [0, 1, 2] rfl⟩
  intro i ls hinv ih_4
  obtain ⟨hi, hl⟩ := hinv
  have hl : lv_has ls 3 [(2, .int (nI i)), (1, .int (nI (xora (xB (xFC σ) (σ 17) (σ 18) (σ 19) sn) i))), (0, .ref (α 0))] := hl
  refine lv_iload_n hx hb dX8_isFalse_4 rfl (lv_at hl 0 rfl) ?_
  refine lv_bipush (v := nI 6) hx hb dX8_isFalse_5 (by decide) ?_
  refine x_icmpN_ge (tgt := 27) S dX8_isFalse_7 (by decide) (by omega) (by omega) (fun c_7 => ?_) (fun c_7 => ?_)
  · have e9 : i = 6 := by omega
    subst e9
    have hx9 := xora_lt (f := (xB (xFC σ) (σ 17) (σ 18) (σ 19) sn)) (fun k => xs_left_lt _ _ _ _ _ _) 6
    refine lv_bipush (v := nI 63) hx hb dX8_isFalse_27 (by decide) ?_
    refine lv_iload_n hx hb dX8_isFalse_29 rfl (lv_at hl 1 rfl) ?_
    refine lv_iconst (v := (-1)) hx hb dX8_isFalse_30 (by decide) ?_
    refine lv_ixor hx hb dX8_isFalse_31 ?_
    refine lv_iand hx hb dX8_isFalse_32 ?_
    refine x_top S (y := nI (63 &&& (63 ^^^ xora (xB (xFC σ) (σ 17) (σ 18) (σ 19) sn) 6))) (xnot_ ⟨63, by decide⟩ ⟨_, hx9⟩) ?_
    exact x_iretR S hlocks hr rfl (rfl) dX8_isFalse_33
  · refine lv_iload_n hx hb dX8_isFalse_10 rfl (lv_at hl 1 rfl) ?_
    refine lv_aload_n hx hb dX8_isFalse_11 rfl (lv_at hl 2 rfl) ?_
    refine x_get S (fun w h => List.mem_cons_of_mem _ (List.mem_append_left _ (List.mem_append_left _ (List.mem_append_right _ h)))) hK hP 0 (by omega) rfl rfl 4 (by decide) (List.mem_of_getElem? (i := 1) rfl) rfl dX8_isFalse_12 ?_
    refine lv_iload_n hx hb dX8_isFalse_15 rfl (lv_at hl 0 rfl) ?_
    refine x_cVRi (As := [.int (nI i)]) (rest := [.int (nI (xora (xB (xFC σ) (σ 17) (σ 18) (σ 19) sn) i))]) S hK hP 16 (by omega) rfl rfl (c_X6_namesFor l σ i sn  (by first | assumption | omega) (by first | assumption | omega) (by first | assumption | omega) (by first | assumption | omega) (by first | assumption | omega)) (x_cwV (n0 := 1) (cq := (RX6, TX6, 5)) S gX8_isFalse_X6_namesFor rfl (by decide +kernel) ⟨Nat.le_of_ble_eq_true rfl, Nat.le_of_ble_eq_true rfl⟩) rfl hl.1 rfl (Nat.le_of_ble_eq_true rfl) dX8_isFalse_16 ⟨Nat.le_refl _, Nat.le_refl _⟩ (fun r_16 hr_16 => ?_)
    subst hr_16
    refine lv_ior hx hb dX8_isFalse_19 ?_
    refine x_top S (y := nI (xora (xB (xFC σ) (σ 17) (σ 18) (σ 19) sn) i ||| xs_left (xFC σ) (σ 17) (σ 18) (σ 19) i sn)) (fa_or _ _) ?_
    refine lv_istore_n (lv' := [(1, .int (nI (xora (xB (xFC σ) (σ 17) (σ 18) (σ 19) sn) i ||| xs_left (xFC σ) (σ 17) (σ 18) (σ 19) i sn))), (2, .int (nI i)), (0, .ref (α 0))]) hx hb dX8_isFalse_20 rfl hl (by decide) rfl (fun ls hl => ?_)
    refine lv_iinc (v := nI (i + 1)) (lv' := [(2, .int (nI (i + 1))), (1, .int (nI (xora (xB (xFC σ) (σ 17) (σ 18) (σ 19) sn) i ||| xs_left (xFC σ) (σ 17) (σ 18) (σ 19) i sn))), (0, .ref (α 0))]) hx hb dX8_isFalse_21 hl (k := 1) rfl (nI_add i 1) (by decide) rfl (fun ls hl => ?_)
    refine lv_goto (tgt := 4) hx hb dX8_isFalse_24 (by decide) ?_
    exact ih_4 (i + 1) ls ⟨(by omega), lv_sub hl [0, 1, 2] rfl⟩ (by (try dsimp only); omega)
set_option maxHeartbeats 4000000 in
set_option maxRecDepth 100000 in
theorem c_X8_sheet (l : Launch) {D : va_G} {K : Nat → ClassId} {α : Nat → Nat} (σ : Nat → Nat → Int32) (hI : xw_I 42 α) (x0 : Int32) (x1 : Int32) (x2 : Int32)  (hC : xIC σ) : Met l yX8_sheet wsX8_sheet (xrm 2) (va_Pc [.ref (α 0), .int x0, .int x1, .int x2] (xPre D K 42 α (xC α K) σ)) (xQi D 42 α (xC α K) (fun r τ => r = xp_sheet x0 x1 x2 ∧ τ = xst_sheet σ x0 x1 x2)) 0 0 (xw_R 42 α) := by
  refine Met.ofW (cc := cX8_sheet) (maxL := 4) (ret := (some .int)) (by decide) rfl ?_
  intro p e s m args below meth c s₁ B hml hv
  obtain ⟨rfl, hK, hP⟩ := hv
  have S : CallFix p m c cX8_sheet 4 s _ wsX8_sheet RX8 := ⟨B.exec, B.bytes, hml, findClass_of_methodNamed B.named, atoms_spec (ws := wsX8_sheet) B.pre⟩
  have hx := S.1
  have hb := S.2.1
  have hr := B.returns
  have hlocks := B.notSynchronized
  have hS : va_S (xw_R 42 α) s.heap s.heap [] := va_S.rf
  have hl := lv_entry ([.ref (α 0), .int x0, .int x1, .int x2]) (n := 4) (Nat.le_of_ble_eq_true rfl)
  rw [lg_entry_eq]
  generalize (lg_sl ([.ref (α 0), .int x0, .int x1, .int x2]) ++ List.replicate (4 - (lg_sl ([.ref (α 0), .int x0, .int x1, .int x2])).length) Slot.unset).toArray = ls at hl ⊢
  have hl : lv_has ls 4 [(0, .ref (α 0)), (1, .int x0), (2, .int x1), (3, .int x2)] := hl
  have hPP := hP
  have hY := xIC_Y hC
  have hY12 := xIC_12 hC
  obtain ⟨⟨hL, hL9⟩, ⟨hF, hYr⟩, ⟨hcs, hcn, hc1, hc2⟩, ⟨hss, hsn, hs1, hs2⟩, hfe, hsh⟩ := hC
  generalize hLe : xLC σ = L at hL hL9 hF ⊢
  generalize hYe : xYC σ = Y at hY hY12 hYr ⊢
  generalize hcne : xcC σ = cn at hcs hcn hc1 hc2 ⊢
  generalize hsne : xsC σ = sn at hss hsn hs1 hs2 ⊢
  refine lv_iload_n hx hb dX8_sheet_0 rfl (lv_at hl 1 rfl) ?_
  refine lv_iconst (v := nI 4) hx hb dX8_sheet_1 (by decide) ?_
  refine x_cSi (As := [.int x0, .int (nI 4)]) (rest := []) S (c_X8_isBelow l x0 (nI 4)  ) (x_cwS (n0 := 2) S gX8_sheet_X8_isBelow rfl (by decide +kernel) ⟨Nat.le_of_ble_eq_true rfl, Nat.le_of_ble_eq_true rfl⟩) rfl hl.1 rfl (Nat.le_of_ble_eq_true rfl) dX8_sheet_2 ⟨Nat.le_refl _, Nat.le_refl _⟩ (fun r_2 hr_2 => ?_)
  subst hr_2
  refine x_if_eqB (tgt := 22) S dX8_sheet_5 (by decide) (fun c_5 => ?_) (fun c_5 => ?_)
  · refine lv_bipush (v := (-2)) hx hb dX8_sheet_22 (by decide) ?_
    exact x_iretW S hlocks hP hS hr rfl (by first | exact ⟨by rw [xp_sheet, if_neg (fun q => c_5 q.1)], by rw [xst_sheet, if_neg (fun q => c_5 q.1)]⟩ | exact ⟨by rw [xp_sheet, if_neg (fun q => c_13 q.2.1)], by rw [xst_sheet, if_neg (fun q => c_13 q.2.1)]⟩ | exact ⟨by rw [xp_sheet, if_neg (fun q => c_19 q.2.2)], by rw [xst_sheet, if_neg (fun q => c_19 q.2.2)]⟩) dX8_sheet_24
  · refine lv_iload_n hx hb dX8_sheet_8 rfl (lv_at hl 2 rfl) ?_
    refine lv_iconst (v := nI 3) hx hb dX8_sheet_9 (by decide) ?_
    refine x_cSi (As := [.int x1, .int (nI 3)]) (rest := []) S (c_X8_isBelow l x1 (nI 3)  ) (x_cwS (n0 := 2) S gX8_sheet_X8_isBelow rfl (by decide +kernel) ⟨Nat.le_of_ble_eq_true rfl, Nat.le_of_ble_eq_true rfl⟩) rfl hl.1 rfl (Nat.le_of_ble_eq_true rfl) dX8_sheet_10 ⟨Nat.le_refl _, Nat.le_refl _⟩ (fun r_10 hr_10 => ?_)
    subst hr_10
    refine x_if_eqB (tgt := 22) S dX8_sheet_13 (by decide) (fun c_13 => ?_) (fun c_13 => ?_)
    · refine lv_bipush (v := (-2)) hx hb dX8_sheet_22 (by decide) ?_
      exact x_iretW S hlocks hP hS hr rfl (by first | exact ⟨by rw [xp_sheet, if_neg (fun q => c_5 q.1)], by rw [xst_sheet, if_neg (fun q => c_5 q.1)]⟩ | exact ⟨by rw [xp_sheet, if_neg (fun q => c_13 q.2.1)], by rw [xst_sheet, if_neg (fun q => c_13 q.2.1)]⟩ | exact ⟨by rw [xp_sheet, if_neg (fun q => c_19 q.2.2)], by rw [xst_sheet, if_neg (fun q => c_19 q.2.2)]⟩) dX8_sheet_24
    · refine lv_iload_n hx hb dX8_sheet_16 rfl (lv_at hl 3 rfl) ?_
      refine lv_bipush (v := nI 48) hx hb dX8_sheet_17 (by decide) ?_
      refine lv_icmp_le (tgt := 25) hx hb dX8_sheet_19 (by decide) (fun c_19 => ?_) (fun c_19 => ?_)
      · refine lv_iload_n hx hb dX8_sheet_25 rfl (lv_at hl 3 rfl) ?_
        refine lv_if_ge (tgt := 35) hx hb dX8_sheet_26 (by decide) (fun c_26 => ?_) (fun c_26 => ?_)
        · obtain ⟨w, hw, rfl⟩ := xin_of c_5 (by omega)
          refine lv_aload_n hx hb dX8_sheet_35 rfl (lv_at hl 0 rfl) ?_
          refine x_get S (fun w h => List.mem_cons_of_mem _ (List.mem_append_left _ (List.mem_append_right _ h))) hK hP 0 (by omega) rfl rfl 7 (by decide) (List.mem_of_getElem? (i := 1) rfl) rfl dX8_sheet_36 ?_
          refine lv_iload_n hx hb dX8_sheet_39 rfl (lv_at hl 1 rfl) ?_
          refine x_aald S hK hP 33 2 (by omega) rfl rfl rfl (by first | assumption | omega) (by omega) rfl dX8_sheet_40 ?_
          refine lv_iload_n hx hb dX8_sheet_41 rfl (lv_at hl 2 rfl) ?_
          refine lv_iload_n hx hb dX8_sheet_42 rfl (lv_at hl 3 rfl) ?_
          refine x_cVWv (As := [.int x1, .int x2]) (rest := []) S hK hP hS (fun _ h => h) (34 + 2 * w) (by omega) (xC_s (by first | assumption | omega) _) rfl (c_X5_renew l σ hI x1 x2 w  (by first | assumption | omega)) (x_cwV (n0 := 2) (cq := (RX5, TX5, 4)) S gX8_sheet_X5_renew rfl (by decide +kernel) ⟨Nat.le_of_ble_eq_true rfl, Nat.le_of_ble_eq_true rfl⟩) rfl hl.1 rfl (Nat.le_of_ble_eq_true rfl) dX8_sheet_43 ⟨Nat.le_refl _, Nat.le_refl _⟩ (fun τ_43 H locs hr_43 hP hk_43 hS => ?_)
          subst hr_43
          refine lv_iload_n hx hb dX8_sheet_46 rfl (lv_at hl 3 rfl) ?_
          exact x_iretW S hlocks hP hS hr rfl (⟨by rw [xp_sheet, if_pos ⟨xin_nI (by omega) (by omega), c_13, c_19⟩, if_pos c_26], by rw [xst_sheet, if_pos ⟨xin_nI (by omega) (by omega), c_13, c_19⟩, if_pos c_26, cN_nI (by omega)]⟩) dX8_sheet_47
        · refine lv_aload_n hx hb dX8_sheet_29 rfl (lv_at hl 0 rfl) ?_
          refine lv_iconst (v := nI 5) hx hb dX8_sheet_30 (by decide) ?_
          refine x_cVWi (As := [.int (nI 5)]) (rest := []) S hK hP hS (fun _ h => h) 0 (by omega) rfl rfl (c_X8_found l σ hI (nI 5)  ) (x_cwV (n0 := 1) (cq := (RX8, TX8, 9)) S gX8_sheet_X8_found rfl (by decide +kernel) ⟨Nat.le_of_ble_eq_true rfl, Nat.le_of_ble_eq_true rfl⟩) rfl hl.1 rfl (Nat.le_of_ble_eq_true rfl) dX8_sheet_31 ⟨Nat.le_refl _, Nat.le_refl _⟩ (fun r_31 τ_31 H locs hr_31 hP hk_31 hS => ?_)
          obtain ⟨hr_31, hs_31⟩ := hr_31
          subst hr_31
          subst hs_31
          exact x_iretW S hlocks hP hS hr rfl (⟨by rw [xp_sheet, if_pos ⟨c_5, c_13, c_19⟩, if_neg c_26]; rfl, by rw [xst_sheet, if_pos ⟨c_5, c_13, c_19⟩, if_neg c_26]⟩) dX8_sheet_34
      · refine lv_bipush (v := (-2)) hx hb dX8_sheet_22 (by decide) ?_
        exact x_iretW S hlocks hP hS hr rfl (by first | exact ⟨by rw [xp_sheet, if_neg (fun q => c_5 q.1)], by rw [xst_sheet, if_neg (fun q => c_5 q.1)]⟩ | exact ⟨by rw [xp_sheet, if_neg (fun q => c_13 q.2.1)], by rw [xst_sheet, if_neg (fun q => c_13 q.2.1)]⟩ | exact ⟨by rw [xp_sheet, if_neg (fun q => c_19 q.2.2)], by rw [xst_sheet, if_neg (fun q => c_19 q.2.2)]⟩) dX8_sheet_24
set_option maxHeartbeats 4000000 in
set_option maxRecDepth 100000 in
theorem c_X8_lose (l : Launch) {D : va_G} {K : Nat → ClassId} {α : Nat → Nat} (σ : Nat → Nat → Int32) (hI : xw_I 42 α) (x : Int32)  (hC : xIC σ) : Met l yX8_lose wsX8_lose (xrm 1) (va_Pc [.ref (α 0), .int x] (xPre D K 42 α (xC α K) σ)) (xQi D 42 α (xC α K) (fun r τ => r = xp_lose (xVC σ) x ∧ τ = xst_lose σ x)) 0 0 (xw_R 42 α) := by
  refine Met.ofW (cc := cX8_lose) (maxL := 3) (ret := (some .int)) (by decide) rfl ?_
  intro p e s m args below meth c s₁ B hml hv
  obtain ⟨rfl, hK, hP⟩ := hv
  have S : CallFix p m c cX8_lose 3 s _ wsX8_lose RX8 := ⟨B.exec, B.bytes, hml, findClass_of_methodNamed B.named, atoms_spec (ws := wsX8_lose) B.pre⟩
  have hx := S.1
  have hb := S.2.1
  have hr := B.returns
  have hlocks := B.notSynchronized
  have hS : va_S (xw_R 42 α) s.heap s.heap [] := va_S.rf
  have hl := lv_entry ([.ref (α 0), .int x]) (n := 3) (Nat.le_of_ble_eq_true rfl)
  rw [lg_entry_eq]
  generalize (lg_sl ([.ref (α 0), .int x]) ++ List.replicate (3 - (lg_sl ([.ref (α 0), .int x])).length) Slot.unset).toArray = ls at hl ⊢
  have hl : lv_has ls 3 [(0, .ref (α 0)), (1, .int x)] := hl
  have hPP := hP
  have hY := xIC_Y hC
  have hY12 := xIC_12 hC
  obtain ⟨⟨hL, hL9⟩, ⟨hF, hYr⟩, ⟨hcs, hcn, hc1, hc2⟩, ⟨hss, hsn, hs1, hs2⟩, hfe, hsh⟩ := hC
  generalize hLe : xLC σ = L at hL hL9 hF ⊢
  generalize hYe : xYC σ = Y at hY hY12 hYr ⊢
  generalize hcne : xcC σ = cn at hcs hcn hc1 hc2 ⊢
  generalize hsne : xsC σ = sn at hss hsn hs1 hs2 ⊢
  refine lv_iload_n hx hb dX8_lose_0 rfl (lv_at hl 1 rfl) ?_
  refine lv_iconst (v := nI 4) hx hb dX8_lose_1 (by decide) ?_
  refine x_cSi (As := [.int x, .int (nI 4)]) (rest := []) S (c_X8_isBelow l x (nI 4)  ) (x_cwS (n0 := 2) S gX8_lose_X8_isBelow rfl (by decide +kernel) ⟨Nat.le_of_ble_eq_true rfl, Nat.le_of_ble_eq_true rfl⟩) rfl hl.1 rfl (Nat.le_of_ble_eq_true rfl) dX8_lose_2 ⟨Nat.le_refl _, Nat.le_refl _⟩ (fun r_2 hr_2 => ?_)
  subst hr_2
  refine x_if_neB (tgt := 11) S dX8_lose_5 (by decide) (fun c_5 => ?_) (fun c_5 => ?_)
  · obtain ⟨w, hw, rfl⟩ := xin_of c_5 (by omega)
    refine lv_aload_n hx hb dX8_lose_11 rfl (lv_at hl 0 rfl) ?_
    refine x_get S (fun w h => List.mem_cons_of_mem _ (List.mem_append_left _ (List.mem_append_right _ h))) hK hP 0 (by omega) rfl rfl 7 (by decide) (List.mem_of_getElem? (i := 1) rfl) rfl dX8_lose_12 ?_
    refine lv_iload_n hx hb dX8_lose_15 rfl (lv_at hl 1 rfl) ?_
    refine x_aald S hK hP 33 2 (by omega) rfl rfl rfl (by first | assumption | omega) (by omega) rfl dX8_lose_16 ?_
    refine lv_astore_n (lv' := [(2, .ref (α (34 + 2 * w))), (0, .ref (α 0)), (1, .int (nI w))]) hx hb dX8_lose_17 rfl hl (by decide) rfl (fun ls hl => ?_)
    refine lv_aload_n hx hb dX8_lose_18 rfl (lv_at hl 0 rfl) ?_
    refine x_get S (fun w h => List.mem_cons_of_mem _ (List.mem_append_right _ h)) hK hP (34 + 2 * w) (by omega) (xC_s (by first | assumption | omega) _) rfl 1 (by decide) (List.mem_of_getElem? (i := 2) rfl) rfl dX8_lose_19 ?_
    refine lv_if_eq (tgt := 31) hx hb dX8_lose_22 (by decide) (fun c_22 => ?_) (fun c_22 => ?_)
    · have c_22 : xVC σ w 1 = 0 := c_22
      refine lv_aload_n hx hb dX8_lose_31 rfl (lv_at hl 0 rfl) ?_
      refine lv_iconst (v := nI 1) hx hb dX8_lose_32 (by decide) ?_
      refine x_put S (fun w h => List.mem_cons_of_mem _ (List.mem_append_right _ h)) tyX5 tyX5_ok nmX5 hK hP hI hS (34 + 2 * w) (by omega) (xC_s (by first | assumption | omega) _) rfl 1 (by decide) (List.mem_of_getElem? (i := 2) rfl) rfl (ty := .boolean) (v := .int (nI 1)) (by decide +kernel) rfl rfl (Nat.le_of_ble_eq_true rfl) (upd (σ (34 + 2 * w)) 1 (nI 1)) (by rw [xC_s (by first | assumption | omega)]; rfl) dX8_lose_33 (fun H locs hP hS => ?_)
      refine lv_aload_n hx hb dX8_lose_36 rfl (lv_at hl 0 rfl) ?_
      refine x_get S (fun w h => List.mem_cons_of_mem _ (List.mem_append_right _ h)) hK hP (34 + 2 * w) (by omega) (xC_s (by first | assumption | omega) _) rfl 3 (by decide) (List.mem_of_getElem? (i := 3) rfl) rfl dX8_lose_37 ?_
      refine x_top S (y := σ (34 + 2 * w) 3) (by rw [xup_s, pk_un (by decide)]) ?_
      exact x_iretW S hlocks hP hS hr rfl (⟨by rw [xp_lose, if_pos (xin_nI (by omega) (by omega)), cN_nI (by omega), if_pos c_22]; rfl, by rw [xst_lose, if_pos (xin_nI (by omega) (by omega)), cN_nI (by omega), if_pos c_22]⟩) dX8_lose_40
    · have c_22 : ¬ xVC σ w 1 = 0 := c_22
      refine lv_aload_n hx hb dX8_lose_25 rfl (lv_at hl 1 rfl) ?_
      refine lv_iconst (v := nI 1) hx hb dX8_lose_26 (by decide) ?_
      refine x_cVWi (As := [.int (nI 1)]) (rest := []) S hK hP hS (fun _ h => h) 0 (by omega) rfl rfl (c_X8_found l σ hI (nI 1)  ) (x_cwV (n0 := 1) (cq := (RX8, TX8, 9)) S gX8_lose_X8_found rfl (by decide +kernel) ⟨Nat.le_of_ble_eq_true rfl, Nat.le_of_ble_eq_true rfl⟩) rfl hl.1 rfl (Nat.le_of_ble_eq_true rfl) dX8_lose_27 ⟨Nat.le_refl _, Nat.le_refl _⟩ (fun r_27 τ_27 H locs hr_27 hP hk_27 hS => ?_)
      obtain ⟨hr_27, hs_27⟩ := hr_27
      subst hr_27
      subst hs_27
      exact x_iretW S hlocks hP hS hr rfl (⟨by rw [xp_lose, if_pos (xin_nI (by omega) (by omega)), cN_nI (by omega), if_neg c_22]; rfl, by rw [xst_lose, if_pos (xin_nI (by omega) (by omega)), cN_nI (by omega), if_neg c_22]⟩) dX8_lose_30
  · refine lv_bipush (v := (-2)) hx hb dX8_lose_8 (by decide) ?_
    exact x_iretW S hlocks hP hS hr rfl (⟨by rw [xp_lose, if_neg c_5], by rw [xst_lose, if_neg c_5]⟩) dX8_lose_10
set_option maxHeartbeats 4000000 in
set_option maxRecDepth 100000 in
theorem c_X8_put (l : Launch) {D : va_G} {K : Nat → ClassId} {α : Nat → Nat} (σ : Nat → Nat → Int32) (hI : xw_I 42 α) (x0 : Int32) (x1 : Int32) (x2 : Int32) (x3 : Int32)  (hC : xIC σ) : Met l yX8_put wsX8_put (xrm 2) (va_Pc [.ref (α 0), .int x0, .int x1, .int x2, .int x3] (xPre D K 42 α (xC α K) σ)) (xQi D 42 α (xC α K) (fun r τ => r = xp_put (xVC σ) x0 x1 x2 ∧ τ = xst_put σ x0 x1 x2 x3)) 0 0 (xw_R 42 α) := by
  refine Met.ofW (cc := cX8_put) (maxL := 6) (ret := (some .int)) (by decide) rfl ?_
  intro p e s m args below meth c s₁ B hml hv
  obtain ⟨rfl, hK, hP⟩ := hv
  have S : CallFix p m c cX8_put 6 s _ wsX8_put RX8 := ⟨B.exec, B.bytes, hml, findClass_of_methodNamed B.named, atoms_spec (ws := wsX8_put) B.pre⟩
  have hx := S.1
  have hb := S.2.1
  have hr := B.returns
  have hlocks := B.notSynchronized
  have hS : va_S (xw_R 42 α) s.heap s.heap [] := va_S.rf
  have hl := lv_entry ([.ref (α 0), .int x0, .int x1, .int x2, .int x3]) (n := 6) (Nat.le_of_ble_eq_true rfl)
  rw [lg_entry_eq]
  generalize (lg_sl ([.ref (α 0), .int x0, .int x1, .int x2, .int x3]) ++ List.replicate (6 - (lg_sl ([.ref (α 0), .int x0, .int x1, .int x2, .int x3])).length) Slot.unset).toArray = ls at hl ⊢
  have hl : lv_has ls 6 [(0, .ref (α 0)), (1, .int x0), (2, .int x1), (3, .int x2), (4, .int x3)] := hl
  have hPP := hP
  have hY := xIC_Y hC
  have hY12 := xIC_12 hC
  obtain ⟨⟨hL, hL9⟩, ⟨hF, hYr⟩, ⟨hcs, hcn, hc1, hc2⟩, ⟨hss, hsn, hs1, hs2⟩, hfe, hsh⟩ := hC
  generalize hLe : xLC σ = L at hL hL9 hF ⊢
  generalize hYe : xYC σ = Y at hY hY12 hYr ⊢
  generalize hcne : xcC σ = cn at hcs hcn hc1 hc2 ⊢
  generalize hsne : xsC σ = sn at hss hsn hs1 hs2 ⊢
  refine lv_iload_n hx hb dX8_put_0 rfl (lv_at hl 1 rfl) ?_
  refine lv_iconst (v := nI 4) hx hb dX8_put_1 (by decide) ?_
  refine x_cSi (As := [.int x0, .int (nI 4)]) (rest := []) S (c_X8_isBelow l x0 (nI 4)  ) (x_cwS (n0 := 2) S gX8_put_X8_isBelow rfl (by decide +kernel) ⟨Nat.le_of_ble_eq_true rfl, Nat.le_of_ble_eq_true rfl⟩) rfl hl.1 rfl (Nat.le_of_ble_eq_true rfl) dX8_put_2 ⟨Nat.le_refl _, Nat.le_refl _⟩ (fun r_2 hr_2 => ?_)
  subst hr_2
  refine x_if_eqB (tgt := 16) S dX8_put_5 (by decide) (fun c_5 => ?_) (fun c_5 => ?_)
  · refine lv_bipush (v := (-2)) hx hb dX8_put_16 (by decide) ?_
    exact x_iretW S hlocks hP hS hr rfl (by first | exact ⟨by rw [xp_put, if_neg (fun q => c_5 q.1)], by rw [xst_put, if_neg (fun q => c_5 q.1)]⟩ | exact ⟨by rw [xp_put, if_neg (fun q => c_13 q.2)], by rw [xst_put, if_neg (fun q => c_13 q.2)]⟩) dX8_put_18
  · refine lv_iload_n hx hb dX8_put_8 rfl (lv_at hl 2 rfl) ?_
    refine lv_iconst (v := nI 3) hx hb dX8_put_9 (by decide) ?_
    refine x_cSi (As := [.int x1, .int (nI 3)]) (rest := []) S (c_X8_isBelow l x1 (nI 3)  ) (x_cwS (n0 := 2) S gX8_put_X8_isBelow rfl (by decide +kernel) ⟨Nat.le_of_ble_eq_true rfl, Nat.le_of_ble_eq_true rfl⟩) rfl hl.1 rfl (Nat.le_of_ble_eq_true rfl) dX8_put_10 ⟨Nat.le_refl _, Nat.le_refl _⟩ (fun r_10 hr_10 => ?_)
    subst hr_10
    refine x_if_neB (tgt := 19) S dX8_put_13 (by decide) (fun c_13 => ?_) (fun c_13 => ?_)
    · obtain ⟨w, hw, rfl⟩ := xin_of c_5 (by omega)
      refine lv_aload_n hx hb dX8_put_19 rfl (lv_at hl 0 rfl) ?_
      refine x_get S (fun w h => List.mem_cons_of_mem _ (List.mem_append_left _ (List.mem_append_right _ h))) hK hP 0 (by omega) rfl rfl 7 (by decide) (List.mem_of_getElem? (i := 1) rfl) rfl dX8_put_20 ?_
      refine lv_iload_n hx hb dX8_put_23 rfl (lv_at hl 1 rfl) ?_
      refine x_aald S hK hP 33 2 (by omega) rfl rfl rfl (by first | assumption | omega) (by omega) rfl dX8_put_24 ?_
      refine lv_iload_n hx hb dX8_put_25 rfl (lv_at hl 2 rfl) ?_
      refine lv_iload_n hx hb dX8_put_26 rfl (lv_at hl 3 rfl) ?_
      refine x_cVRi (As := [.int x1, .int x2]) (rest := []) S hK hP (34 + 2 * w) (by omega) (xC_s (by first | assumption | omega) _) rfl (c_X5_findingAt l σ x1 x2 w  (by first | assumption | omega)) (x_cwV (n0 := 2) (cq := (RX5, TX5, 4)) S gX8_put_X5_findingAt rfl (by decide +kernel) ⟨Nat.le_of_ble_eq_true rfl, Nat.le_of_ble_eq_true rfl⟩) rfl hl.1 rfl (Nat.le_of_ble_eq_true rfl) dX8_put_27 ⟨Nat.le_refl _, Nat.le_refl _⟩ (fun r_27 hr_27 => ?_)
      subst hr_27
      refine lv_topi (fun f30 ef30 => ?_)
      refine lv_istore (lv' := [(5, .int f30), (0, .ref (α 0)), (1, .int (nI w)), (2, .int x1), (3, .int x2), (4, .int x3)]) hx hb dX8_put_30 hl (by decide) rfl (fun ls hl => ?_)
      have ef30 : f30 = xs_find (xVC σ w) x1 x2 := ef30
      refine lv_iload hx hb dX8_put_32 (lv_at hl 0 rfl) ?_
      refine lv_if_eq (tgt := 44) hx hb dX8_put_34 (by decide) (fun c_34 => ?_) (fun c_34 => ?_)
      · obtain ⟨hf1, hf2, hf3⟩ := xs_find_0 (ef30.symm.trans c_34)
        have hz := hsh w (by omega)
        have hxz : xin x2 (xnat (xVC σ w) 3) := ⟨hf3.1, by have h9 := hf3.2; rw [show xVC σ w 3 = nI (xnat (xVC σ w) 3) from hz.2.2.2] at h9; exact h9⟩
        obtain ⟨i, hi, rfl⟩ := xin_of hxz (by have := hz.2.2.1; unfold xVC; omega)
        have hi48 : i < 48 := by have h9 := hz.2.2.1; unfold xVC at hi; omega
        refine lv_aload_n hx hb dX8_put_44 rfl (lv_at hl 1 rfl) ?_
        refine x_get S (fun w h => List.mem_cons_of_mem _ (List.mem_append_left _ (List.mem_append_right _ h))) hK hP 0 (by omega) rfl rfl 7 (by decide) (List.mem_of_getElem? (i := 1) rfl) rfl dX8_put_45 ?_
        refine lv_iload_n hx hb dX8_put_48 rfl (lv_at hl 2 rfl) ?_
        refine x_aald S hK hP 33 2 (by omega) rfl rfl rfl (by first | assumption | omega) (by omega) rfl dX8_put_49 ?_
        refine lv_iload_n hx hb dX8_put_50 rfl (lv_at hl 4 rfl) ?_
        refine lv_iload hx hb dX8_put_51 (lv_at hl 5 rfl) ?_
        refine x_cVWv (As := [.int (nI i), .int x3]) (rest := []) S hK hP hS (fun _ h => h) (34 + 2 * w) (by omega) (xC_s (by first | assumption | omega) _) rfl (c_X5_set l σ hI i x3 w (xnat (xVC σ w) 2)  (by first | assumption | omega) hz.2.1.2 hz.2.1.1 (by first | assumption | omega)) (x_cwV (n0 := 2) (cq := (RX5, TX5, 4)) S gX8_put_X5_set rfl (by decide +kernel) ⟨Nat.le_of_ble_eq_true rfl, Nat.le_of_ble_eq_true rfl⟩) rfl hl.1 rfl (Nat.le_of_ble_eq_true rfl) dX8_put_53 ⟨Nat.le_refl _, Nat.le_refl _⟩ (fun τ_53 H locs hr_53 hP hk_53 hS => ?_)
        subst hr_53
        refine lv_iconst (v := nI 1) hx hb dX8_put_56 (by decide) ?_
        exact x_iretW S hlocks hP hS hr rfl (⟨by rw [xp_put, if_pos ⟨xin_nI (by omega) (by omega), c_13⟩, cN_nI (by omega), ← ef30, if_pos c_34]; rfl, by rw [xst_put, if_pos ⟨xin_nI (by omega) (by omega), c_13⟩, cN_nI (by omega), ← ef30, if_pos c_34, cN_nI (by omega)]⟩) dX8_put_57
      · refine lv_aload_n hx hb dX8_put_37 rfl (lv_at hl 1 rfl) ?_
        refine lv_iload hx hb dX8_put_38 (lv_at hl 0 rfl) ?_
        refine x_cVWi (As := [.int f30]) (rest := []) S hK hP hS (fun _ h => h) 0 (by omega) rfl rfl (c_X8_found l σ hI f30  ) (x_cwV (n0 := 1) (cq := (RX8, TX8, 9)) S gX8_put_X8_found rfl (by decide +kernel) ⟨Nat.le_of_ble_eq_true rfl, Nat.le_of_ble_eq_true rfl⟩) rfl hl.1 rfl (Nat.le_of_ble_eq_true rfl) dX8_put_40 ⟨Nat.le_refl _, Nat.le_refl _⟩ (fun r_40 τ_40 H locs hr_40 hP hk_40 hS => ?_)
        obtain ⟨hr_40, hs_40⟩ := hr_40
        subst hr_40
        subst hs_40
        exact x_iretW S hlocks hP hS hr rfl (⟨by rw [xp_put, if_pos ⟨xin_nI (by omega) (by omega), c_13⟩, cN_nI (by omega), ← ef30, if_neg c_34], by rw [xst_put, if_pos ⟨xin_nI (by omega) (by omega), c_13⟩, cN_nI (by omega), ← ef30, if_neg c_34]⟩) dX8_put_43
    · refine lv_bipush (v := (-2)) hx hb dX8_put_16 (by decide) ?_
      exact x_iretW S hlocks hP hS hr rfl (by first | exact ⟨by rw [xp_put, if_neg (fun q => c_5 q.1)], by rw [xst_put, if_neg (fun q => c_5 q.1)]⟩ | exact ⟨by rw [xp_put, if_neg (fun q => c_13 q.2)], by rw [xst_put, if_neg (fun q => c_13 q.2)]⟩) dX8_put_18
set_option maxHeartbeats 4000000 in
set_option maxRecDepth 100000 in
theorem c_X8_get (l : Launch) {D : va_G} {K : Nat → ClassId} {α : Nat → Nat} (σ : Nat → Nat → Int32) (hI : xw_I 42 α) (x0 : Int32) (x1 : Int32) (x2 : Int32)  (hC : xIC σ) : Met l yX8_get wsX8_get (xrm 2) (va_Pc [.ref (α 0), .int x0, .int x1, .int x2] (xPre D K 42 α (xC α K) σ)) (xQi D 42 α (xC α K) (fun r τ => r = xp_get (xVC σ) (xJC σ) x0 x1 x2 ∧ τ = xst_get σ x0 x1 x2)) 0 0 (xw_R 42 α) := by
  refine Met.ofW (cc := cX8_get) (maxL := 5) (ret := (some .int)) (by decide) rfl ?_
  intro p e s m args below meth c s₁ B hml hv
  obtain ⟨rfl, hK, hP⟩ := hv
  have S : CallFix p m c cX8_get 5 s _ wsX8_get RX8 := ⟨B.exec, B.bytes, hml, findClass_of_methodNamed B.named, atoms_spec (ws := wsX8_get) B.pre⟩
  have hx := S.1
  have hb := S.2.1
  have hr := B.returns
  have hlocks := B.notSynchronized
  have hS : va_S (xw_R 42 α) s.heap s.heap [] := va_S.rf
  have hl := lv_entry ([.ref (α 0), .int x0, .int x1, .int x2]) (n := 5) (Nat.le_of_ble_eq_true rfl)
  rw [lg_entry_eq]
  generalize (lg_sl ([.ref (α 0), .int x0, .int x1, .int x2]) ++ List.replicate (5 - (lg_sl ([.ref (α 0), .int x0, .int x1, .int x2])).length) Slot.unset).toArray = ls at hl ⊢
  have hl : lv_has ls 5 [(0, .ref (α 0)), (1, .int x0), (2, .int x1), (3, .int x2)] := hl
  have hPP := hP
  have hY := xIC_Y hC
  have hY12 := xIC_12 hC
  obtain ⟨⟨hL, hL9⟩, ⟨hF, hYr⟩, ⟨hcs, hcn, hc1, hc2⟩, ⟨hss, hsn, hs1, hs2⟩, hfe, hsh⟩ := hC
  generalize hLe : xLC σ = L at hL hL9 hF ⊢
  generalize hYe : xYC σ = Y at hY hY12 hYr ⊢
  generalize hcne : xcC σ = cn at hcs hcn hc1 hc2 ⊢
  generalize hsne : xsC σ = sn at hss hsn hs1 hs2 ⊢
  refine lv_iload_n hx hb dX8_get_0 rfl (lv_at hl 1 rfl) ?_
  refine lv_iconst (v := nI 4) hx hb dX8_get_1 (by decide) ?_
  refine x_cSi (As := [.int x0, .int (nI 4)]) (rest := []) S (c_X8_isBelow l x0 (nI 4)  ) (x_cwS (n0 := 2) S gX8_get_X8_isBelow rfl (by decide +kernel) ⟨Nat.le_of_ble_eq_true rfl, Nat.le_of_ble_eq_true rfl⟩) rfl hl.1 rfl (Nat.le_of_ble_eq_true rfl) dX8_get_2 ⟨Nat.le_refl _, Nat.le_refl _⟩ (fun r_2 hr_2 => ?_)
  subst hr_2
  refine x_if_eqB (tgt := 16) S dX8_get_5 (by decide) (fun c_5 => ?_) (fun c_5 => ?_)
  · refine lv_ldc hx hb S.2.2.2.1 (S.2.2.2.2 (.constant RX8 239 (-2147483648)) (List.mem_of_getElem? (i := 1) rfl)) dX8_get_16 ?_
    exact x_iretW S hlocks hP hS hr rfl (by first | exact ⟨by rw [xp_get, if_neg (fun q => c_5 q.1)], by rw [xst_get, if_neg (fun q => c_5 q.1)]⟩ | exact ⟨by rw [xp_get, if_neg (fun q => c_13 q.2)], by rw [xst_get, if_neg (fun q => c_13 q.2)]⟩) dX8_get_18
  · refine lv_iload_n hx hb dX8_get_8 rfl (lv_at hl 2 rfl) ?_
    refine lv_iconst (v := nI 3) hx hb dX8_get_9 (by decide) ?_
    refine x_cSi (As := [.int x1, .int (nI 3)]) (rest := []) S (c_X8_isBelow l x1 (nI 3)  ) (x_cwS (n0 := 2) S gX8_get_X8_isBelow rfl (by decide +kernel) ⟨Nat.le_of_ble_eq_true rfl, Nat.le_of_ble_eq_true rfl⟩) rfl hl.1 rfl (Nat.le_of_ble_eq_true rfl) dX8_get_10 ⟨Nat.le_refl _, Nat.le_refl _⟩ (fun r_10 hr_10 => ?_)
    subst hr_10
    refine x_if_neB (tgt := 19) S dX8_get_13 (by decide) (fun c_13 => ?_) (fun c_13 => ?_)
    · obtain ⟨w, hw, rfl⟩ := xin_of c_5 (by omega)
      refine lv_aload_n hx hb dX8_get_19 rfl (lv_at hl 0 rfl) ?_
      refine x_get S (fun w h => List.mem_cons_of_mem _ (List.mem_append_left _ (List.mem_append_right _ h))) hK hP 0 (by omega) rfl rfl 7 (by decide) (List.mem_of_getElem? (i := 2) rfl) rfl dX8_get_20 ?_
      refine lv_iload_n hx hb dX8_get_23 rfl (lv_at hl 1 rfl) ?_
      refine x_aald S hK hP 33 2 (by omega) rfl rfl rfl (by first | assumption | omega) (by omega) rfl dX8_get_24 ?_
      refine lv_iload_n hx hb dX8_get_25 rfl (lv_at hl 2 rfl) ?_
      refine lv_iload_n hx hb dX8_get_26 rfl (lv_at hl 3 rfl) ?_
      refine x_cVRi (As := [.int x1, .int x2]) (rest := []) S hK hP (34 + 2 * w) (by omega) (xC_s (by first | assumption | omega) _) rfl (c_X5_findingAt l σ x1 x2 w  (by first | assumption | omega)) (x_cwV (n0 := 2) (cq := (RX5, TX5, 4)) S gX8_get_X5_findingAt rfl (by decide +kernel) ⟨Nat.le_of_ble_eq_true rfl, Nat.le_of_ble_eq_true rfl⟩) rfl hl.1 rfl (Nat.le_of_ble_eq_true rfl) dX8_get_27 ⟨Nat.le_refl _, Nat.le_refl _⟩ (fun r_27 hr_27 => ?_)
      subst hr_27
      refine lv_topi (fun f30 ef30 => ?_)
      refine lv_istore (lv' := [(4, .int f30), (0, .ref (α 0)), (1, .int (nI w)), (2, .int x1), (3, .int x2)]) hx hb dX8_get_30 hl (by decide) rfl (fun ls hl => ?_)
      have ef30 : f30 = xs_find (xVC σ w) x1 x2 := ef30
      refine lv_iload hx hb dX8_get_32 (lv_at hl 0 rfl) ?_
      refine lv_if_eq (tgt := 46) hx hb dX8_get_34 (by decide) (fun c_34 => ?_) (fun c_34 => ?_)
      · obtain ⟨hf1, hf2, hf3⟩ := xs_find_0 (ef30.symm.trans c_34)
        have hz := hsh w (by omega)
        have hxz : xin x2 (xnat (xVC σ w) 3) := ⟨hf3.1, by have h9 := hf3.2; rw [show xVC σ w 3 = nI (xnat (xVC σ w) 3) from hz.2.2.2] at h9; exact h9⟩
        obtain ⟨i, hi, rfl⟩ := xin_of hxz (by have := hz.2.2.1; unfold xVC; omega)
        have hi48 : i < 48 := by have h9 := hz.2.2.1; unfold xVC at hi; omega
        refine lv_aload_n hx hb dX8_get_46 rfl (lv_at hl 1 rfl) ?_
        refine x_get S (fun w h => List.mem_cons_of_mem _ (List.mem_append_left _ (List.mem_append_right _ h))) hK hP 0 (by omega) rfl rfl 7 (by decide) (List.mem_of_getElem? (i := 2) rfl) rfl dX8_get_47 ?_
        refine lv_iload_n hx hb dX8_get_50 rfl (lv_at hl 2 rfl) ?_
        refine x_aald S hK hP 33 2 (by omega) rfl rfl rfl (by first | assumption | omega) (by omega) rfl dX8_get_51 ?_
        refine x_get S (fun w h => List.mem_cons_of_mem _ (List.mem_append_right _ h)) hK hP (34 + 2 * w) (by omega) (xC_s (by first | assumption | omega) _) rfl 0 (by decide) (List.mem_of_getElem? (i := 4) rfl) rfl dX8_get_52 ?_
        refine lv_iload_n hx hb dX8_get_55 rfl (lv_at hl 4 rfl) ?_
        refine x_iald S hK hP (35 + 2 * w) (by omega) (xC_i (by first | assumption | omega) _) (by first | assumption | omega) (by omega) dX8_get_56 ?_
        exact x_iretW S hlocks hP hS hr rfl (⟨by rw [xp_get, if_pos ⟨xin_nI (by omega) (by omega), c_13⟩, cN_nI (by omega), ← ef30, if_pos c_34, cN_nI (by omega)]; rfl, by rw [xst_get, if_pos ⟨xin_nI (by omega) (by omega), c_13⟩, cN_nI (by omega), ← ef30, if_pos c_34]⟩) dX8_get_57
      · refine lv_aload_n hx hb dX8_get_37 rfl (lv_at hl 1 rfl) ?_
        refine lv_iload hx hb dX8_get_38 (lv_at hl 0 rfl) ?_
        refine x_put S (fun w h => List.mem_cons_of_mem _ (List.mem_append_left _ (List.mem_append_right _ h))) tyX8 tyX8_ok nmX8 hK hP hI hS 0 (by omega) rfl rfl 8 (by decide) (List.mem_of_getElem? (i := 3) rfl) rfl (ty := .int) (v := .int f30) (by decide +kernel) rfl rfl (Nat.le_of_ble_eq_true rfl) (upd (σ 0) 8 f30) rfl dX8_get_40 (fun H locs hP hS => ?_)
        refine lv_ldc hx hb S.2.2.2.1 (S.2.2.2.2 (.constant RX8 239 (-2147483648)) (List.mem_of_getElem? (i := 1) rfl)) dX8_get_43 ?_
        exact x_iretW S hlocks hP hS hr rfl (⟨by rw [xp_get, if_pos ⟨xin_nI (by omega) (by omega), c_13⟩, cN_nI (by omega), ← ef30, if_neg c_34], by rw [xst_get, if_pos ⟨xin_nI (by omega) (by omega), c_13⟩, cN_nI (by omega), ← ef30, if_neg c_34]; rfl⟩) dX8_get_45
    · refine lv_ldc hx hb S.2.2.2.1 (S.2.2.2.2 (.constant RX8 239 (-2147483648)) (List.mem_of_getElem? (i := 1) rfl)) dX8_get_16 ?_
      exact x_iretW S hlocks hP hS hr rfl (by first | exact ⟨by rw [xp_get, if_neg (fun q => c_5 q.1)], by rw [xst_get, if_neg (fun q => c_5 q.1)]⟩ | exact ⟨by rw [xp_get, if_neg (fun q => c_13 q.2)], by rw [xst_get, if_neg (fun q => c_13 q.2)]⟩) dX8_get_18
set_option maxHeartbeats 4000000 in
set_option maxRecDepth 100000 in
theorem c_X8_write (l : Launch) {D : va_G} {K : Nat → ClassId} {α : Nat → Nat} (σ : Nat → Nat → Int32) (hI : xw_I 42 α) (x0 : Int32) (x1 : Int32)  (hC : xIC σ) : Met l yX8_write wsX8_write (xrm 2) (va_Pc [.ref (α 0), .int x0, .int x1] (xPre D K 42 α (xC α K) σ)) (xQi D 42 α (xC α K) (fun r τ => r = xp_write (xVC σ) (xYC σ) x0 x1 ∧ τ = xst_write σ x0 x1)) 0 0 (xw_R 42 α) := by
  refine Met.ofW (cc := cX8_write) (maxL := 6) (ret := (some .int)) (by decide) rfl ?_
  intro p e s m args below meth c s₁ B hml hv
  obtain ⟨rfl, hK, hP⟩ := hv
  have S : CallFix p m c cX8_write 6 s _ wsX8_write RX8 := ⟨B.exec, B.bytes, hml, findClass_of_methodNamed B.named, atoms_spec (ws := wsX8_write) B.pre⟩
  have hx := S.1
  have hb := S.2.1
  have hr := B.returns
  have hlocks := B.notSynchronized
  have hS : va_S (xw_R 42 α) s.heap s.heap [] := va_S.rf
  have hl := lv_entry ([.ref (α 0), .int x0, .int x1]) (n := 6) (Nat.le_of_ble_eq_true rfl)
  rw [lg_entry_eq]
  generalize (lg_sl ([.ref (α 0), .int x0, .int x1]) ++ List.replicate (6 - (lg_sl ([.ref (α 0), .int x0, .int x1])).length) Slot.unset).toArray = ls at hl ⊢
  have hl : lv_has ls 6 [(0, .ref (α 0)), (1, .int x0), (2, .int x1)] := hl
  have hPP := hP
  have hY := xIC_Y hC
  have hY12 := xIC_12 hC
  obtain ⟨⟨hL, hL9⟩, ⟨hF, hYr⟩, ⟨hcs, hcn, hc1, hc2⟩, ⟨hss, hsn, hs1, hs2⟩, hfe, hsh⟩ := hC
  generalize hLe : xLC σ = L at hL hL9 hF ⊢
  generalize hYe : xYC σ = Y at hY hY12 hYr ⊢
  generalize hcne : xcC σ = cn at hcs hcn hc1 hc2 ⊢
  generalize hsne : xsC σ = sn at hss hsn hs1 hs2 ⊢
  refine lv_aload_n hx hb dX8_write_0 rfl (lv_at hl 0 rfl) ?_
  refine lv_iload_n hx hb dX8_write_1 rfl (lv_at hl 1 rfl) ?_
  refine x_cVRi (As := [.int x0]) (rest := []) S hK hP 0 (by omega) rfl rfl (c_X8_isYear l σ x0 Y  (by first | assumption | omega)) (x_cwV (n0 := 1) (cq := (RX8, TX8, 9)) S gX8_write_X8_isYear rfl (by decide +kernel) ⟨Nat.le_of_ble_eq_true rfl, Nat.le_of_ble_eq_true rfl⟩) rfl hl.1 rfl (Nat.le_of_ble_eq_true rfl) dX8_write_2 ⟨Nat.le_refl _, Nat.le_refl _⟩ (fun r_2 hr_2 => ?_)
  subst hr_2
  refine x_if_eqB (tgt := 16) S dX8_write_5 (by decide) (fun c_5 => ?_) (fun c_5 => ?_)
  · refine lv_bipush (v := (-2)) hx hb dX8_write_16 (by decide) ?_
    exact x_iretW S hlocks hP hS hr rfl (by first | exact ⟨by rw [xp_write, if_neg (fun q => c_5 q.1)], by rw [xst_write, hYe, if_neg (fun q => c_5 q.1)]⟩ | exact ⟨by rw [xp_write, if_neg (fun q => c_13 q.2)], by rw [xst_write, hYe, if_neg (fun q => c_13 q.2)]⟩) dX8_write_18
  · refine lv_iload_n hx hb dX8_write_8 rfl (lv_at hl 2 rfl) ?_
    refine lv_iconst (v := nI 4) hx hb dX8_write_9 (by decide) ?_
    refine x_cSi (As := [.int x1, .int (nI 4)]) (rest := []) S (c_X8_isBelow l x1 (nI 4)  ) (x_cwS (n0 := 2) S gX8_write_X8_isBelow rfl (by decide +kernel) ⟨Nat.le_of_ble_eq_true rfl, Nat.le_of_ble_eq_true rfl⟩) rfl hl.1 rfl (Nat.le_of_ble_eq_true rfl) dX8_write_10 ⟨Nat.le_refl _, Nat.le_refl _⟩ (fun r_10 hr_10 => ?_)
    subst hr_10
    refine x_if_neB (tgt := 19) S dX8_write_13 (by decide) (fun c_13 => ?_) (fun c_13 => ?_)
    · obtain ⟨y, hy, rfl⟩ := xin_of c_5 (by omega)
      obtain ⟨w, hw, rfl⟩ := xin_of c_13 (by omega)
      refine lv_aload_n hx hb dX8_write_19 rfl (lv_at hl 0 rfl) ?_
      refine x_get S (fun w h => List.mem_cons_of_mem _ (List.mem_append_left _ (List.mem_append_left _ (List.mem_append_right _ h)))) hK hP 0 (by omega) rfl rfl 7 (by decide) (List.mem_of_getElem? (i := 1) rfl) rfl dX8_write_20 ?_
      refine lv_iload_n hx hb dX8_write_23 rfl (lv_at hl 2 rfl) ?_
      refine x_aald S hK hP 33 2 (by omega) rfl rfl rfl (by first | assumption | omega) (by omega) rfl dX8_write_24 ?_
      refine lv_astore_n (lv' := [(3, .ref (α (34 + 2 * w))), (0, .ref (α 0)), (1, .int (nI y)), (2, .int (nI w))]) hx hb dX8_write_25 rfl hl (by decide) rfl (fun ls hl => ?_)
      refine lv_aload_n hx hb dX8_write_26 rfl (lv_at hl 0 rfl) ?_
      refine x_get S (fun w h => List.mem_cons_of_mem _ (List.mem_append_left _ (List.mem_append_right _ h))) hK hP (34 + 2 * w) (by omega) (xC_s (by first | assumption | omega) _) rfl 1 (by decide) (List.mem_of_getElem? (i := 2) rfl) rfl dX8_write_27 ?_
      refine lv_if_eq (tgt := 39) hx hb dX8_write_30 (by decide) (fun c_30 => ?_) (fun c_30 => ?_)
      · have c_30 : xVC σ w 1 = 0 := c_30
        have hz := hsh w (by omega)
        have hzz : xnat (xVC σ w) 3 ≤ 48 := hz.2.2.1
        have hm6 := xmin6_le (xnat (xVC σ w) 3)
        refine lv_bipush (v := nI 6) hx hb dX8_write_39 (by decide) ?_
        refine lv_aload_n hx hb dX8_write_41 rfl (lv_at hl 0 rfl) ?_
        refine x_get S (fun w h => List.mem_cons_of_mem _ (List.mem_append_left _ (List.mem_append_right _ h))) hK hP (34 + 2 * w) (by omega) (xC_s (by first | assumption | omega) _) rfl 3 (by decide) (List.mem_of_getElem? (i := 3) rfl) rfl dX8_write_42 ?_
        refine x_top S (y := nI (xnat (xVC σ w) 3)) (hz.2.2.2) ?_
        refine va_mmin hx hb (hml.trans hl.1.symm) S.2.2.2.1 (S.2.2.2.2 (.methodLink RX8 256 Lib.Math.min.name) (List.mem_of_getElem? (i := 4) rfl)) (S.2.2.2.2 (.static Lib.Math.min.name) (List.mem_of_getElem? (i := 5) rfl)) (S.2.2.2.2 (.initialized "java/lang/Math") (List.mem_of_getElem? (i := 6) rfl)) (S.2.2.2.2 (.code Lib.Math.min.name Lib.Math.min.code 2 (some .int)) (List.mem_of_getElem? (i := 7) rfl)) (Nat.le_of_ble_eq_true rfl) (Nat.le_of_ble_eq_true rfl) (Nat.le_refl _) (Nat.le_refl _) dX8_write_45 ?_
        refine x_top S (y := nI (xmin6 (xnat (xVC σ w) 3))) (xmin6_I (by omega)) ?_
        refine lv_istore (lv' := [(4, .int (nI (xmin6 (xnat (xVC σ w) 3)))), (3, .ref (α (34 + 2 * w))), (0, .ref (α 0)), (1, .int (nI y)), (2, .int (nI w))]) hx hb dX8_write_48 hl (by decide) rfl (fun ls hl => ?_)
        refine lv_iconst (v := nI 0) hx hb dX8_write_50 (by decide) ?_
        refine lv_istore (lv' := [(5, .int (nI 0)), (4, .int (nI (xmin6 (xnat (xVC σ w) 3)))), (3, .ref (α (34 + 2 * w))), (0, .ref (α 0)), (1, .int (nI y)), (2, .int (nI w))]) hx hb dX8_write_51 hl (by decide) rfl (fun ls hl => ?_)
        refine x_loopW (ι := Nat) (fun i H locs ls => (i ≤ xmin6 (xnat (xVC σ w) 3)) ∧ lv_has ls 6 [(5, .int (nI i)), (4, .int (nI (xmin6 (xnat (xVC σ w) 3)))), (3, .ref (α (34 + 2 * w))), (0, .ref (α 0)), (1, .int (nI y)), (2, .int (nI w))] ∧ va_P D vwCl (xw 42 α (xC α K) (va_up σ (35 + 2 * w) (fa_fill (fun i => xs_nar (xnat (xVC σ w) 2) (nI (xnm (σ 10) y i))) (σ (35 + 2 * w)) i))) H ∧ va_S (xw_R 42 α) s.heap H locs) (fun i => xmin6 (xnat (xVC σ w) 3) - i) ?_ 0 ls ⟨Nat.zero_le _, lv_sub hl [0, 1, 2, 3, 4, 5] rfl, (by rw [fa_fill_0, xup_id]; exact hP), hS⟩
        intro i H locs ls hinv ih_53
        obtain ⟨hi, hl, hP, hS⟩ := hinv
        have hl : lv_has ls 6 [(5, .int (nI i)), (4, .int (nI (xmin6 (xnat (xVC σ w) 3)))), (3, .ref (α (34 + 2 * w))), (0, .ref (α 0)), (1, .int (nI y)), (2, .int (nI w))] := hl
        have hP : va_P D vwCl (xw 42 α (xC α K) (va_up σ (35 + 2 * w) (fa_fill (fun i => xs_nar (xnat (xVC σ w) 2) (nI (xnm (σ 10) y i))) (σ (35 + 2 * w)) i))) H := hP
        refine lv_iload hx hb dX8_write_53 (lv_at hl 0 rfl) ?_
        refine lv_iload hx hb dX8_write_55 (lv_at hl 1 rfl) ?_
        refine x_icmpN_ge (tgt := 82) S dX8_write_57 (by decide) (by omega) (by omega) (fun c_57 => ?_) (fun c_57 => ?_)
        · have e9 : i = xmin6 (xnat (xVC σ w) 3) := by omega
          subst e9
          refine lv_iload hx hb dX8_write_82 (lv_at hl 1 rfl) ?_
          exact x_iretW S hlocks hP hS hr rfl (⟨by rw [xp_write, if_pos ⟨xin_nI (by omega) (by omega), xin_nI (by omega) (by omega)⟩, cN_nI (n := w) (by omega), if_pos c_30], by rw [xst_write, hYe, if_pos ⟨xin_nI (by omega) (by omega), xin_nI (by omega) (by omega)⟩, cN_nI (by omega), cN_nI (by omega), if_pos c_30]⟩) dX8_write_84
        · refine lv_aload_n hx hb dX8_write_60 rfl (lv_at hl 2 rfl) ?_
          refine lv_iload hx hb dX8_write_61 (lv_at hl 0 rfl) ?_
          refine lv_aload_n hx hb dX8_write_63 rfl (lv_at hl 3 rfl) ?_
          refine x_get S (fun w h => List.mem_cons_of_mem _ (List.mem_append_left _ (List.mem_append_left _ (List.mem_append_right _ h)))) hK hP 0 (by omega) rfl rfl 1 (by decide) (List.mem_of_getElem? (i := 8) rfl) rfl dX8_write_64 ?_
          refine lv_iload hx hb dX8_write_67 (lv_at hl 0 rfl) ?_
          refine lv_iload_n hx hb dX8_write_69 rfl (lv_at hl 4 rfl) ?_
          refine x_cVRi (As := [.int (nI i), .int (nI y)]) (rest := [.int (nI i), .ref (α (34 + 2 * w))]) S hK hP 9 (by omega) rfl rfl (c_X1_nameOf l (va_up σ (35 + 2 * w) (fa_fill (fun i => xs_nar (xnat (xVC σ w) 2) (nI (xnm (σ 10) y i))) (σ (35 + 2 * w)) i)) i y Y  (by rw [xup_n _ _ (by omega)]; exact hY) (by first | assumption | omega) (by first | assumption | omega) (by first | assumption | omega)) (x_cwV (n0 := 2) (cq := (RX1, TX1, 4)) S gX8_write_X1_nameOf rfl (by decide +kernel) ⟨Nat.le_of_ble_eq_true rfl, Nat.le_of_ble_eq_true rfl⟩) rfl hl.1 rfl (Nat.le_of_ble_eq_true rfl) dX8_write_70 ⟨Nat.le_refl _, Nat.le_refl _⟩ (fun r_70 hr_70 => ?_)
          subst hr_70
          refine x_top S (y := nI (xnm (σ 10) y i)) (by rw [xup_n _ _ (by omega)]) ?_
          refine x_cVWv (As := [.int (nI i), .int (nI (xnm (σ 10) y i))]) (rest := []) S hK hP hS (fun _ h => h) (34 + 2 * w) (by omega) (xC_s (by first | assumption | omega) _) rfl (c_X5_set l (va_up σ (35 + 2 * w) (fa_fill (fun i => xs_nar (xnat (xVC σ w) 2) (nI (xnm (σ 10) y i))) (σ (35 + 2 * w)) i)) hI i (nI (xnm (σ 10) y i)) w (xnat (xVC σ w) 2)  (by first | assumption | omega) (by rw [xup_n _ _ (by omega)]; exact hz.2.1.2) hz.2.1.1 (by first | assumption | omega)) (x_cwV (n0 := 2) (cq := (RX5, TX5, 4)) S gX8_write_X5_set rfl (by decide +kernel) ⟨Nat.le_of_ble_eq_true rfl, Nat.le_of_ble_eq_true rfl⟩) rfl hl.1 rfl (Nat.le_of_ble_eq_true rfl) dX8_write_73 ⟨Nat.le_refl _, Nat.le_refl _⟩ (fun τ_73 H locs hr_73 hP hk_73 hS => ?_)
          subst hr_73
          have hP : va_P D vwCl (xw 42 α (xC α K) (va_up σ (35 + 2 * w) (fa_fill (fun i => xs_nar (xnat (xVC σ w) 2) (nI (xnm (σ 10) y i))) (σ (35 + 2 * w)) (i + 1)))) H := by
            rw [show va_up σ (35 + 2 * w) (fa_fill (fun i => xs_nar (xnat (xVC σ w) 2) (nI (xnm (σ 10) y i))) (σ (35 + 2 * w)) (i + 1)) = (va_up (va_up σ (35 + 2 * w) (fa_fill (fun i => xs_nar (xnat (xVC σ w) 2) (nI (xnm (σ 10) y i))) (σ (35 + 2 * w)) i)) (35 + 2 * w) (upd ((va_up σ (35 + 2 * w) (fa_fill (fun i => xs_nar (xnat (xVC σ w) 2) (nI (xnm (σ 10) y i))) (σ (35 + 2 * w)) i)) (35 + 2 * w)) i (xs_nar (xnat (xVC σ w) 2) (nI (xnm (σ 10) y i))))) from by rw [bx_uu, xup_s, ← fa_fill_succ]]; exact hP
          refine lv_iinc (v := nI (i + 1)) (lv' := [(5, .int (nI (i + 1))), (4, .int (nI (xmin6 (xnat (xVC σ w) 3)))), (3, .ref (α (34 + 2 * w))), (0, .ref (α 0)), (1, .int (nI y)), (2, .int (nI w))]) hx hb dX8_write_76 hl (k := 0) rfl (nI_add i 1) (by decide) rfl (fun ls hl => ?_)
          refine lv_goto (tgt := 53) hx hb dX8_write_79 (by decide) ?_
          exact ih_53 (i + 1) H locs ls ⟨(by omega), lv_sub hl [0, 1, 2, 3, 4, 5] rfl, hP, hS⟩ (by (try dsimp only); omega)
      · have c_30 : ¬ xVC σ w 1 = 0 := c_30
        refine lv_aload_n hx hb dX8_write_33 rfl (lv_at hl 1 rfl) ?_
        refine lv_iconst (v := nI 1) hx hb dX8_write_34 (by decide) ?_
        refine x_cVWi (As := [.int (nI 1)]) (rest := []) S hK hP hS (fun _ h => h) 0 (by omega) rfl rfl (c_X8_found l σ hI (nI 1)  ) (x_cwV (n0 := 1) (cq := (RX8, TX8, 9)) S gX8_write_X8_found rfl (by decide +kernel) ⟨Nat.le_of_ble_eq_true rfl, Nat.le_of_ble_eq_true rfl⟩) rfl hl.1 rfl (Nat.le_of_ble_eq_true rfl) dX8_write_35 ⟨Nat.le_refl _, Nat.le_refl _⟩ (fun r_35 τ_35 H locs hr_35 hP hk_35 hS => ?_)
        obtain ⟨hr_35, hs_35⟩ := hr_35
        subst hr_35
        subst hs_35
        exact x_iretW S hlocks hP hS hr rfl (⟨by rw [xp_write, if_pos ⟨xin_nI (by omega) (by omega), xin_nI (by omega) (by omega)⟩, cN_nI (n := w) (by omega), if_neg c_30]; rfl, by rw [xst_write, hYe, if_pos ⟨xin_nI (by omega) (by omega), xin_nI (by omega) (by omega)⟩, cN_nI (n := w) (by omega), if_neg c_30]⟩) dX8_write_38
    · refine lv_bipush (v := (-2)) hx hb dX8_write_16 (by decide) ?_
      exact x_iretW S hlocks hP hS hr rfl (by first | exact ⟨by rw [xp_write, if_neg (fun q => c_5 q.1)], by rw [xst_write, hYe, if_neg (fun q => c_5 q.1)]⟩ | exact ⟨by rw [xp_write, if_neg (fun q => c_13 q.2)], by rw [xst_write, hYe, if_neg (fun q => c_13 q.2)]⟩) dX8_write_18

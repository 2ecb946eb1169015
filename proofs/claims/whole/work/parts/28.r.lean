set_option maxHeartbeats 4000000 in
set_option maxRecDepth 100000 in
theorem c_X9_sheet (l : Launch) {D : va_G} {K : Nat → ClassId} {α : Nat → Nat} (σ : Nat → Nat → Int32) (hI : xw_I 20 α) (x0 : Int32) (x1 : Int32) (x2 : Int32)  (hC : xIM σ) : Met l yX9_sheet wsX9_sheet (xrm 2) (va_Pc [.ref (α 0), .int x0, .int x1, .int x2] (xPre D K 20 α (xM α K) σ)) (xQi D 20 α (xM α K) (fun r τ => r = xp_sheet x0 x1 x2 ∧ τ = xst_msheet σ x0 x1 x2)) 0 0 (xw_R 20 α) := by
  refine Met.ofW (cc := cX9_sheet) (maxL := 5) (ret := (some .int)) (by decide) rfl ?_
  intro p e s m args below meth c s₁ B hml hv
  obtain ⟨rfl, hK, hP⟩ := hv
  have S : CallFix p m c cX9_sheet 5 s _ wsX9_sheet RX9 := ⟨B.exec, B.bytes, hml, findClass_of_methodNamed B.named, atoms_spec (ws := wsX9_sheet) B.pre⟩
  have hx := S.1
  have hb := S.2.1
  have hr := B.returns
  have hlocks := B.notSynchronized
  have hS : va_S (xw_R 20 α) s.heap s.heap [] := va_S.rf
  have hl := lv_entry ([.ref (α 0), .int x0, .int x1, .int x2]) (n := 5) (Nat.le_of_ble_eq_true rfl)
  rw [lg_entry_eq]
  generalize (lg_sl ([.ref (α 0), .int x0, .int x1, .int x2]) ++ List.replicate (5 - (lg_sl ([.ref (α 0), .int x0, .int x1, .int x2])).length) Slot.unset).toArray = ls at hl ⊢
  have hl : lv_has ls 5 [(0, .ref (α 0)), (1, .int x0), (2, .int x1), (3, .int x2)] := hl
  have hPP := hP
  have hY := xIM_Y hC
  have hY12 := xIM_12 hC
  obtain ⟨⟨hL, hL9⟩, ⟨hcs, hcn, hc1, hc2⟩, ⟨hss, hsn, hs1, hs2⟩, hfe, hsh⟩ := id hC
  generalize hLe : xLM σ = L at hL hL9 ⊢
  generalize hYe : xYM σ = Y at hY hY12 ⊢
  generalize hcne : xcM σ = cn at hcs hcn hc1 hc2 ⊢
  generalize hsne : xsM σ = sn at hss hsn hs1 hs2 ⊢
  refine lv_iload_n hx hb dX9_sheet_0 rfl (lv_at hl 1 rfl) ?_
  refine x_cSi (As := [.int x0]) (rest := []) S (c_X9_isSheet l x0  ) (x_cwS (n0 := 1) S gX9_sheet_X9_isSheet rfl (by decide +kernel) ⟨Nat.le_of_ble_eq_true rfl, Nat.le_of_ble_eq_true rfl⟩) rfl hl.1 rfl (Nat.le_of_ble_eq_true rfl) dX9_sheet_1 ⟨Nat.le_refl _, Nat.le_refl _⟩ (fun r_1 hr_1 => ?_)
  subst hr_1
  refine x_if_eqB (tgt := 22) S dX9_sheet_4 (by decide) (fun c_4 => ?_) (fun c_4 => ?_)
  · refine lv_bipush (v := (-2)) hx hb dX9_sheet_22 (by decide) ?_
    exact x_iretW S hlocks hP hS hr rfl (by first | exact ⟨by rw [xp_sheet, if_neg (fun q => c_4 q.1)], by rw [xst_msheet, if_neg (fun q => c_4 q.1)]⟩ | exact ⟨by rw [xp_sheet, if_neg (fun q => c_13 q.2.1)], by rw [xst_msheet, if_neg (fun q => c_13 q.2.1)]⟩ | exact ⟨by rw [xp_sheet, if_neg (fun q => c_19 q.2.2)], by rw [xst_msheet, if_neg (fun q => c_19 q.2.2)]⟩) dX9_sheet_24
  · refine lv_iload_n hx hb dX9_sheet_7 rfl (lv_at hl 2 rfl) ?_
    refine lv_iconst (v := nI 0) hx hb dX9_sheet_8 (by decide) ?_
    refine lv_iconst (v := nI 2) hx hb dX9_sheet_9 (by decide) ?_
    refine x_cSi (As := [.int x1, .int (nI 0), .int (nI 2)]) (rest := []) S (c_X9_in0 l x1 2  (by first | assumption | omega)) (x_cwS (n0 := 3) S gX9_sheet_X9_in rfl (by decide +kernel) ⟨Nat.le_of_ble_eq_true rfl, Nat.le_of_ble_eq_true rfl⟩) rfl hl.1 rfl (Nat.le_of_ble_eq_true rfl) dX9_sheet_10 ⟨Nat.le_refl _, Nat.le_refl _⟩ (fun r_10 hr_10 => ?_)
    subst hr_10
    refine x_if_eqB (tgt := 22) S dX9_sheet_13 (by decide) (fun c_13 => ?_) (fun c_13 => ?_)
    · refine lv_bipush (v := (-2)) hx hb dX9_sheet_22 (by decide) ?_
      exact x_iretW S hlocks hP hS hr rfl (by first | exact ⟨by rw [xp_sheet, if_neg (fun q => c_4 q.1)], by rw [xst_msheet, if_neg (fun q => c_4 q.1)]⟩ | exact ⟨by rw [xp_sheet, if_neg (fun q => c_13 q.2.1)], by rw [xst_msheet, if_neg (fun q => c_13 q.2.1)]⟩ | exact ⟨by rw [xp_sheet, if_neg (fun q => c_19 q.2.2)], by rw [xst_msheet, if_neg (fun q => c_19 q.2.2)]⟩) dX9_sheet_24
    · refine lv_iload_n hx hb dX9_sheet_16 rfl (lv_at hl 3 rfl) ?_
      refine lv_bipush (v := nI 48) hx hb dX9_sheet_17 (by decide) ?_
      refine lv_icmp_le (tgt := 25) hx hb dX9_sheet_19 (by decide) (fun c_19 => ?_) (fun c_19 => ?_)
      · refine lv_iload_n hx hb dX9_sheet_25 rfl (lv_at hl 3 rfl) ?_
        refine lv_if_ge (tgt := 35) hx hb dX9_sheet_26 (by decide) (fun c_26 => ?_) (fun c_26 => ?_)
        · obtain ⟨w, hw, rfl⟩ := xin_of c_4 (by omega)
          refine lv_aload_n hx hb dX9_sheet_35 rfl (lv_at hl 0 rfl) ?_
          refine x_get S (fun w h => List.mem_cons_of_mem _ (List.mem_append_right _ h)) hK hP 0 (by omega) rfl rfl 18 (by decide) (List.mem_of_getElem? (i := 1) rfl) rfl dX9_sheet_36 ?_
          refine lv_iload_n hx hb dX9_sheet_39 rfl (lv_at hl 1 rfl) ?_
          refine lv_iconst (v := nI 1) hx hb dX9_sheet_40 (by decide) ?_
          refine x_zast S hK hP hI hS 15 (by omega) (fun _ => rfl) rfl (by first | assumption | omega) (by omega) dX9_sheet_41 (fun H locs hP hS => ?_)
          refine lv_aload_n hx hb dX9_sheet_42 rfl (lv_at hl 0 rfl) ?_
          refine x_get S (fun w h => List.mem_cons_of_mem _ (List.mem_append_right _ h)) hK hP 0 (by omega) rfl rfl 19 (by decide) (List.mem_of_getElem? (i := 2) rfl) rfl dX9_sheet_43 ?_
          refine lv_iload_n hx hb dX9_sheet_46 rfl (lv_at hl 1 rfl) ?_
          refine lv_iload_n hx hb dX9_sheet_47 rfl (lv_at hl 2 rfl) ?_
          refine x_iast S hK hP hI hS 16 (by omega) (fun _ => rfl) (by first | assumption | omega) (by omega) dX9_sheet_48 (fun H locs hP hS => ?_)
          refine lv_aload_n hx hb dX9_sheet_49 rfl (lv_at hl 0 rfl) ?_
          refine x_get S (fun w h => List.mem_cons_of_mem _ (List.mem_append_right _ h)) hK hP 0 (by omega) rfl rfl 20 (by decide) (List.mem_of_getElem? (i := 3) rfl) rfl dX9_sheet_50 ?_
          refine lv_iload_n hx hb dX9_sheet_53 rfl (lv_at hl 1 rfl) ?_
          refine lv_iload_n hx hb dX9_sheet_54 rfl (lv_at hl 3 rfl) ?_
          refine x_iast S hK hP hI hS 17 (by omega) (fun _ => rfl) (by first | assumption | omega) (by omega) dX9_sheet_55 (fun H locs hP hS => ?_)
          have hP : va_P D vwCl (xw 20 α (xM α K) (xst_mnew σ w x1 x2 0)) H := by
            rw [show xst_mnew σ w x1 x2 0 = (va_up (va_up (va_up σ 15 (upd (σ 15) w (nI 1))) 16 (upd ((va_up σ 15 (upd (σ 15) w (nI 1))) 16) w x1)) 17 (upd ((va_up (va_up σ 15 (upd (σ 15) w (nI 1))) 16 (upd ((va_up σ 15 (upd (σ 15) w (nI 1))) 16) w x1)) 17) w x2)) from by unfold xst_mnew; rw [xfl_0]; simp (disch := decide) only [xup_n]; exact xup_e (by simp (disch := decide) only [xup_n])]; exact hP
          refine lv_iconst (v := nI 0) hx hb dX9_sheet_56 (by decide) ?_
          refine lv_istore (lv' := [(4, .int (nI 0)), (0, .ref (α 0)), (1, .int (nI w)), (2, .int x1), (3, .int x2)]) hx hb dX9_sheet_57 hl (by decide) rfl (fun ls hl => ?_)
          refine x_loopW (ι := Nat) (fun i H locs ls => (i ≤ 48) ∧ lv_has ls 5 [(4, .int (nI i)), (0, .ref (α 0)), (1, .int (nI w)), (2, .int x1), (3, .int x2)] ∧ va_P D vwCl (xw 20 α (xM α K) (xst_mnew σ w x1 x2 i)) H ∧ va_S (xw_R 20 α) s.heap H locs) (fun i => 48 - i) ?_ 0 ls ⟨Nat.zero_le _, lv_sub hl [0, 1, 2, 3, 4] rfl, hP, hS⟩
          intro i H locs ls hinv ih_59
          obtain ⟨hi, hl, hP, hS⟩ := hinv
          have hl : lv_has ls 5 [(4, .int (nI i)), (0, .ref (α 0)), (1, .int (nI w)), (2, .int x1), (3, .int x2)] := hl
          have hP : va_P D vwCl (xw 20 α (xM α K) (xst_mnew σ w x1 x2 i)) H := hP
          refine lv_iload hx hb dX9_sheet_59 (lv_at hl 0 rfl) ?_
          refine lv_bipush (v := nI 48) hx hb dX9_sheet_61 (by decide) ?_
          refine x_icmpN_ge (tgt := 85) S dX9_sheet_63 (by decide) (by omega) (by omega) (fun c_63 => ?_) (fun c_63 => ?_)
          · have e9 : i = 48 := by omega
            subst e9
            refine lv_iload_n hx hb dX9_sheet_85 rfl (lv_at hl 4 rfl) ?_
            exact x_iretW S hlocks hP hS hr rfl (⟨by rw [xp_sheet, if_pos ⟨xin_nI (by omega) (by omega), c_13, c_19⟩, if_pos c_26], by rw [xst_msheet, if_pos ⟨xin_nI (by omega) (by omega), c_13, c_19⟩, if_pos c_26, cN_nI (by omega)]⟩) dX9_sheet_86
          · refine lv_aload_n hx hb dX9_sheet_66 rfl (lv_at hl 1 rfl) ?_
            refine x_get S (fun w h => List.mem_cons_of_mem _ (List.mem_append_right _ h)) hK hP 0 (by omega) rfl rfl 21 (by decide) (List.mem_of_getElem? (i := 4) rfl) rfl dX9_sheet_67 ?_
            refine lv_bipush (v := nI 48) hx hb dX9_sheet_70 (by decide) ?_
            refine lv_iload_n hx hb dX9_sheet_72 rfl (lv_at hl 2 rfl) ?_
            refine x_imulN S dX9_sheet_73 ?_
            refine lv_iload hx hb dX9_sheet_74 (lv_at hl 0 rfl) ?_
            refine x_iaddN S dX9_sheet_76 ?_
            refine lv_iconst (v := nI 0) hx hb dX9_sheet_77 (by decide) ?_
            refine x_iast S hK hP hI hS 18 (by omega) (fun _ => rfl) (by first | assumption | omega) (by omega) dX9_sheet_78 (fun H locs hP hS => ?_)
            have hP : va_P D vwCl (xw 20 α (xM α K) (xst_mnew σ w x1 x2 (i + 1))) H := by
              rw [show xst_mnew σ w x1 x2 (i + 1) = (va_up (xst_mnew σ w x1 x2 i) 18 (upd ((xst_mnew σ w x1 x2 i) 18) ((48 * w) + i) (nI 0))) from by unfold xst_mnew; rw [bx_uu, xup_s]; rw [show upd (xfl (σ 18) (fun _ => nI 0) (48 * w) i) (48 * w + i) (nI 0) = _ from xfl_s (σ 18) (fun _ => nI 0) (48 * w) i]]; exact hP
            refine lv_iinc (v := nI (i + 1)) (lv' := [(4, .int (nI (i + 1))), (0, .ref (α 0)), (1, .int (nI w)), (2, .int x1), (3, .int x2)]) hx hb dX9_sheet_79 hl (k := 0) rfl (nI_add i 1) (by decide) rfl (fun ls hl => ?_)
            refine lv_goto (tgt := 59) hx hb dX9_sheet_82 (by decide) ?_
            exact ih_59 (i + 1) H locs ls ⟨(by omega), lv_sub hl [0, 1, 2, 3, 4] rfl, hP, hS⟩ (by (try dsimp only); omega)
        · refine lv_aload_n hx hb dX9_sheet_29 rfl (lv_at hl 0 rfl) ?_
          refine lv_iconst (v := nI 5) hx hb dX9_sheet_30 (by decide) ?_
          refine x_cVWi (As := [.int (nI 5)]) (rest := []) S hK hP hS (fun _ h => h) 0 (by omega) rfl rfl (c_X9_meets l σ hI (nI 5)  ) (x_cwV (n0 := 1) (cq := (RX9, TX9, 24)) S gX9_sheet_X9_meets rfl (by decide +kernel) ⟨Nat.le_of_ble_eq_true rfl, Nat.le_of_ble_eq_true rfl⟩) rfl hl.1 rfl (Nat.le_of_ble_eq_true rfl) dX9_sheet_31 ⟨Nat.le_refl _, Nat.le_refl _⟩ (fun r_31 τ_31 H locs hr_31 hP hk_31 hS => ?_)
          obtain ⟨hr_31, hs_31⟩ := hr_31
          subst hr_31
          subst hs_31
          exact x_iretW S hlocks hP hS hr rfl (⟨by rw [xp_sheet, if_pos ⟨c_4, c_13, c_19⟩, if_neg c_26]; rfl, by rw [xst_msheet, if_pos ⟨c_4, c_13, c_19⟩, if_neg c_26]⟩) dX9_sheet_34
      · refine lv_bipush (v := (-2)) hx hb dX9_sheet_22 (by decide) ?_
        exact x_iretW S hlocks hP hS hr rfl (by first | exact ⟨by rw [xp_sheet, if_neg (fun q => c_4 q.1)], by rw [xst_msheet, if_neg (fun q => c_4 q.1)]⟩ | exact ⟨by rw [xp_sheet, if_neg (fun q => c_13 q.2.1)], by rw [xst_msheet, if_neg (fun q => c_13 q.2.1)]⟩ | exact ⟨by rw [xp_sheet, if_neg (fun q => c_19 q.2.2)], by rw [xst_msheet, if_neg (fun q => c_19 q.2.2)]⟩) dX9_sheet_24
set_option maxHeartbeats 4000000 in
set_option maxRecDepth 100000 in
theorem c_X9_write (l : Launch) {D : va_G} {K : Nat → ClassId} {α : Nat → Nat} (σ : Nat → Nat → Int32) (hI : xw_I 20 α) (x0 : Int32) (x1 : Int32)  (hC : xIM σ) : Met l yX9_write wsX9_write (xrm 4) (va_Pc [.ref (α 0), .int x0, .int x1] (xPre D K 20 α (xM α K) σ)) (xQi D 20 α (xM α K) (fun r τ => r = xp_write (xVM σ) (xYM σ) x0 x1 ∧ xMs (xst_mwrite σ x0 x1) τ)) 0 0 (xw_R 20 α) := by
  refine Met.ofW (cc := cX9_write) (maxL := 4) (ret := (some .int)) (by decide) rfl ?_
  intro p e s m args below meth c s₁ B hml hv
  obtain ⟨rfl, hK, hP⟩ := hv
  have S : CallFix p m c cX9_write 4 s _ wsX9_write RX9 := ⟨B.exec, B.bytes, hml, findClass_of_methodNamed B.named, atoms_spec (ws := wsX9_write) B.pre⟩
  have hx := S.1
  have hb := S.2.1
  have hr := B.returns
  have hlocks := B.notSynchronized
  have hS : va_S (xw_R 20 α) s.heap s.heap [] := va_S.rf
  have hl := lv_entry ([.ref (α 0), .int x0, .int x1]) (n := 4) (Nat.le_of_ble_eq_true rfl)
  rw [lg_entry_eq]
  generalize (lg_sl ([.ref (α 0), .int x0, .int x1]) ++ List.replicate (4 - (lg_sl ([.ref (α 0), .int x0, .int x1])).length) Slot.unset).toArray = ls at hl ⊢
  have hl : lv_has ls 4 [(0, .ref (α 0)), (1, .int x0), (2, .int x1)] := hl
  have hPP := hP
  have hY := xIM_Y hC
  have hY12 := xIM_12 hC
  have hPm := xIM_P hC
  refine lv_aload_n hx hb dX9_write_0 rfl (lv_at hl 0 rfl) ?_
  refine lv_iload_n hx hb dX9_write_1 rfl (lv_at hl 1 rfl) ?_
  refine x_cVWi (As := [.int x0]) (rest := []) S hK hP hS (fun _ h => h) 0 (by omega) rfl rfl (c_X9_isYear l σ hI x0  (by first | assumption | omega)) (x_cwV (n0 := 1) (cq := (RX9, TX9, 24)) S gX9_write_X9_isYear rfl (by decide +kernel) ⟨Nat.le_of_ble_eq_true rfl, Nat.le_of_ble_eq_true rfl⟩) rfl hl.1 rfl (Nat.le_of_ble_eq_true rfl) dX9_write_2 ⟨Nat.le_refl _, Nat.le_refl _⟩ (fun r_2 τ_2 H locs hr_2 hP hk_2 hS => ?_)
  obtain ⟨hr_2, hms_2, hbk_2⟩ := hr_2
  subst hr_2
  obtain ⟨hyr, hbk⟩ := xBk_of hms_2 hbk_2
  have eF := xMs_F hms_2
  have e6 : τ_2 6 = σ 6 := xMs_k hms_2 (by decide)
  have hC2 := xMs_IM hms_2 hC
  have e16 : τ_2 16 = σ 16 := xMs_k hms_2 (by decide)
  have e17 : τ_2 17 = σ 17 := xMs_k hms_2 (by decide)
  have e18 : τ_2 18 = σ 18 := xMs_k hms_2 (by decide)
  have e15 : τ_2 15 = σ 15 := xMs_k hms_2 (by decide)
  obtain ⟨_, _, _, _, hsh⟩ := id hC
  refine x_if_eqB (tgt := 15) S dX9_write_5 (by decide) (fun c_5 => ?_) (fun c_5 => ?_)
  · refine lv_bipush (v := (-2)) hx hb dX9_write_15 (by decide) ?_
    exact x_iretW S hlocks hP hS hr rfl (by first | exact ⟨by rw [xp_write, if_neg (fun q => c_5 q.1)], by rw [xst_mwrite, if_neg (fun q => c_5 q.1)]; exact hms_2⟩ | exact ⟨by rw [xp_write, if_neg (fun q => c_12 q.2)], by rw [xst_mwrite, if_neg (fun q => c_12 q.2)]; exact hms_2⟩) dX9_write_17
  · refine lv_iload_n hx hb dX9_write_8 rfl (lv_at hl 2 rfl) ?_
    refine x_cSi (As := [.int x1]) (rest := []) S (c_X9_isSheet l x1  ) (x_cwS (n0 := 1) S gX9_write_X9_isSheet rfl (by decide +kernel) ⟨Nat.le_of_ble_eq_true rfl, Nat.le_of_ble_eq_true rfl⟩) rfl hl.1 rfl (Nat.le_of_ble_eq_true rfl) dX9_write_9 ⟨Nat.le_refl _, Nat.le_refl _⟩ (fun r_9 hr_9 => ?_)
    subst hr_9
    refine x_if_neB (tgt := 18) S dX9_write_12 (by decide) (fun c_12 => ?_) (fun c_12 => ?_)
    · obtain ⟨y, hy, rfl⟩ := xin_of c_5 (by omega)
      obtain ⟨w, hw, rfl⟩ := xin_of c_12 (by omega)
      have hz9 := hsh w (by omega)
      have hz8 := hz9.2.2.1
      refine lv_aload_n hx hb dX9_write_18 rfl (lv_at hl 0 rfl) ?_
      refine x_get S (fun w h => List.mem_cons_of_mem _ (List.mem_append_right _ h)) hK hP 0 (by omega) rfl rfl 18 (by decide) (List.mem_of_getElem? (i := 1) rfl) rfl dX9_write_19 ?_
      refine lv_iload_n hx hb dX9_write_22 rfl (lv_at hl 2 rfl) ?_
      refine x_zald S hK hP 15 (by omega) rfl (by first | assumption | omega) (by omega) dX9_write_23 ?_
      refine x_top S (y := σ 15 w) (by rw [e15]) ?_
      refine lv_if_ne (tgt := 33) hx hb dX9_write_24 (by decide) (fun c_24 => ?_) (fun c_24 => ?_)
      · refine lv_iconst (v := nI 0) hx hb dX9_write_33 (by decide) ?_
        refine lv_istore_n (lv' := [(3, .int (nI 0)), (0, .ref (α 0)), (1, .int (nI y)), (2, .int (nI w))]) hx hb dX9_write_34 rfl hl (by decide) rfl (fun ls hl => ?_)
        refine x_loopW (ι := Nat) (fun i H locs ls => (i ≤ 6) ∧ (i ≤ xnat (σ 17) w) ∧ lv_has ls 4 [(3, .int (nI i)), (0, .ref (α 0)), (1, .int (nI y)), (2, .int (nI w))] ∧ va_P D vwCl (xw 20 α (xM α K) (va_up τ_2 18 (xfl (σ 18) (xwf σ y w) (48 * w) i))) H ∧ va_S (xw_R 20 α) s.heap H locs) (fun i => 6 - i) ?_ 0 ls ⟨Nat.zero_le _, Nat.zero_le _, lv_sub hl [0, 1, 2, 3] rfl, (by rw [xfl_0, xup_e e18]; exact hP), hS⟩
        intro i H locs ls hinv ih_35
        obtain ⟨hi6, hiz, hl, hP, hS⟩ := hinv
        have hl : lv_has ls 4 [(3, .int (nI i)), (0, .ref (α 0)), (1, .int (nI y)), (2, .int (nI w))] := hl
        have hP : va_P D vwCl (xw 20 α (xM α K) (va_up τ_2 18 (xfl (σ 18) (xwf σ y w) (48 * w) i))) H := hP
        refine lv_iload_n hx hb dX9_write_35 rfl (lv_at hl 0 rfl) ?_
        refine lv_aload_n hx hb dX9_write_36 rfl (lv_at hl 1 rfl) ?_
        refine x_get S (fun w h => List.mem_cons_of_mem _ (List.mem_append_right _ h)) hK hP 0 (by omega) rfl rfl 20 (by decide) (List.mem_of_getElem? (i := 2) rfl) rfl dX9_write_37 ?_
        refine lv_iload_n hx hb dX9_write_40 rfl (lv_at hl 3 rfl) ?_
        refine x_iald S hK hP 17 (by omega) rfl (by first | assumption | omega) (by omega) dX9_write_41 ?_
        refine x_top S (y := nI (xnat (σ 17) w)) (by rw [xup_n _ _ (by decide), e17]; exact hz9.2.2.2) ?_
        refine x_icmpN_ge (tgt := 74) S dX9_write_42 (by decide) (by omega) (by omega) (fun c_42 => ?_) (fun c_42 => ?_)
        · have e9 : i = xmin6 (xnat (σ 17) w) := by
            unfold xmin6
            split <;> omega
          refine lv_iload_n hx hb dX9_write_74 rfl (lv_at hl 0 rfl) ?_
          exact x_iretW S hlocks hP hS hr rfl (⟨by rw [xp_write, if_pos ⟨xin_nI (by omega) (by omega), xin_nI (by omega) (by omega)⟩, cN_nI (n := w) (by omega), if_pos (xVM_0 c_24), e9]; rfl, by rw [xst_mwrite, if_pos ⟨xin_nI (by omega) (by omega), xin_nI (by omega) (by omega)⟩, cN_nI (n := w) (by omega), cN_nI (n := y) (by omega), if_pos (xVM_0 c_24), e9]; exact xMs_up hms_2 (by decide) _⟩) dX9_write_75
        · refine lv_iload_n hx hb dX9_write_45 rfl (lv_at hl 0 rfl) ?_
          refine lv_bipush (v := nI 6) hx hb dX9_write_46 (by decide) ?_
          refine x_icmpN_ge (tgt := 74) S dX9_write_48 (by decide) (by omega) (by omega) (fun c_48 => ?_) (fun c_48 => ?_)
          · have e9 : i = xmin6 (xnat (σ 17) w) := by
              unfold xmin6
              split <;> omega
            refine lv_iload_n hx hb dX9_write_74 rfl (lv_at hl 0 rfl) ?_
            exact x_iretW S hlocks hP hS hr rfl (⟨by rw [xp_write, if_pos ⟨xin_nI (by omega) (by omega), xin_nI (by omega) (by omega)⟩, cN_nI (n := w) (by omega), if_pos (xVM_0 c_24), e9]; rfl, by rw [xst_mwrite, if_pos ⟨xin_nI (by omega) (by omega), xin_nI (by omega) (by omega)⟩, cN_nI (n := w) (by omega), cN_nI (n := y) (by omega), if_pos (xVM_0 c_24), e9]; exact xMs_up hms_2 (by decide) _⟩) dX9_write_75
          · refine lv_aload_n hx hb dX9_write_51 rfl (lv_at hl 1 rfl) ?_
            refine lv_iload_n hx hb dX9_write_52 rfl (lv_at hl 3 rfl) ?_
            refine lv_iload_n hx hb dX9_write_53 rfl (lv_at hl 0 rfl) ?_
            refine lv_aload_n hx hb dX9_write_54 rfl (lv_at hl 1 rfl) ?_
            refine x_get S (fun w h => List.mem_cons_of_mem _ (List.mem_append_right _ h)) hK hP 0 (by omega) rfl rfl 8 (by decide) (List.mem_of_getElem? (i := 3) rfl) rfl dX9_write_55 ?_
            refine lv_bipush (v := nI 6) hx hb dX9_write_58 (by decide) ?_
            refine lv_iload_n hx hb dX9_write_60 rfl (lv_at hl 2 rfl) ?_
            refine x_imulN S dX9_write_61 ?_
            refine lv_iload_n hx hb dX9_write_62 rfl (lv_at hl 0 rfl) ?_
            refine x_iaddN S dX9_write_63 ?_
            refine x_iald S hK hP 7 (by omega) rfl (by first | assumption | omega) (by omega) dX9_write_64 ?_
            refine x_top S (y := nI (xnm (σ 6) y i)) (by rw [xup_n _ _ (by decide)]; exact hbk y (by omega) i (by omega)) ?_
            refine x_cVWv (As := [.int (nI w), .int (nI i), .int (nI (xnm (σ 6) y i))]) (rest := []) S hK hP hS (fun _ h => h) 0 (by omega) rfl rfl (c_X9_keep l (va_up τ_2 18 (xfl (σ 18) (xwf σ y w) (48 * w) i)) hI w i (nI (xnm (σ 6) y i)) (xnat (σ 16) w)  (by first | assumption | omega) (by first | assumption | omega) (by rw [xup_n _ _ (by decide), e16]; exact hz9.2.1.2) hz9.2.1.1) (x_cwV (n0 := 3) (cq := (RX9, TX9, 24)) S gX9_write_X9_keep rfl (by decide +kernel) ⟨Nat.le_of_ble_eq_true rfl, Nat.le_of_ble_eq_true rfl⟩) rfl hl.1 rfl (Nat.le_of_ble_eq_true rfl) dX9_write_65 ⟨Nat.le_refl _, Nat.le_refl _⟩ (fun τ_65 H locs hr_65 hP hk_65 hS => ?_)
            subst hr_65
            have hP : va_P D vwCl (xw 20 α (xM α K) (va_up τ_2 18 (xfl (σ 18) (xwf σ y w) (48 * w) (i + 1)))) H := by
              rw [show va_up τ_2 18 (xfl (σ 18) (xwf σ y w) (48 * w) (i + 1)) = (xst_keep (va_up τ_2 18 (xfl (σ 18) (xwf σ y w) (48 * w) i)) w i (xnat (σ 16) w) (nI (xnm (σ 6) y i))) from by unfold xst_keep; rw [bx_uu, xup_s]; rw [← xfl_s]; rfl]; exact hP
            refine lv_iinc (v := nI (i + 1)) (lv' := [(3, .int (nI (i + 1))), (0, .ref (α 0)), (1, .int (nI y)), (2, .int (nI w))]) hx hb dX9_write_68 hl (k := 0) rfl (nI_add i 1) (by decide) rfl (fun ls hl => ?_)
            refine lv_goto (tgt := 35) hx hb dX9_write_71 (by decide) ?_
            exact ih_35 (i + 1) H locs ls ⟨(by omega), (by omega), lv_sub hl [0, 1, 2, 3] rfl, hP, hS⟩ (by (try dsimp only); omega)
      · refine lv_aload_n hx hb dX9_write_27 rfl (lv_at hl 0 rfl) ?_
        refine lv_iconst (v := nI 1) hx hb dX9_write_28 (by decide) ?_
        refine x_cVWi (As := [.int (nI 1)]) (rest := []) S hK hP hS (fun _ h => h) 0 (by omega) rfl rfl (c_X9_meets l τ_2 hI (nI 1)  ) (x_cwV (n0 := 1) (cq := (RX9, TX9, 24)) S gX9_write_X9_meets rfl (by decide +kernel) ⟨Nat.le_of_ble_eq_true rfl, Nat.le_of_ble_eq_true rfl⟩) rfl hl.1 rfl (Nat.le_of_ble_eq_true rfl) dX9_write_29 ⟨Nat.le_refl _, Nat.le_refl _⟩ (fun r_29 τ_29 H locs hr_29 hP hk_29 hS => ?_)
        obtain ⟨hr_29, hs_29⟩ := hr_29
        subst hr_29
        subst hs_29
        exact x_iretW S hlocks hP hS hr rfl (⟨by rw [xp_write, if_pos ⟨xin_nI (by omega) (by omega), xin_nI (by omega) (by omega)⟩, cN_nI (n := w) (by omega), if_neg (xVM_1 c_24)]; rfl, by rw [xst_mwrite, if_pos ⟨xin_nI (by omega) (by omega), xin_nI (by omega) (by omega)⟩, cN_nI (n := w) (by omega), if_neg (xVM_1 c_24)]; exact xMs_fm hms_2 _⟩) dX9_write_32
    · refine lv_bipush (v := (-2)) hx hb dX9_write_15 (by decide) ?_
      exact x_iretW S hlocks hP hS hr rfl (by first | exact ⟨by rw [xp_write, if_neg (fun q => c_5 q.1)], by rw [xst_mwrite, if_neg (fun q => c_5 q.1)]; exact hms_2⟩ | exact ⟨by rw [xp_write, if_neg (fun q => c_12 q.2)], by rw [xst_mwrite, if_neg (fun q => c_12 q.2)]; exact hms_2⟩) dX9_write_17

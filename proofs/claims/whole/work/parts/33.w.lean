set_option maxHeartbeats 4000000 in
set_option maxRecDepth 100000 in
theorem c_X9_homeOfB (l : Launch) {D : va_G} {K : Nat → ClassId} {α : Nat → Nat} (σ : Nat → Nat → Int32) (hI : xw_I 20 α) (h : Nat)  (hC : xIM σ) (hh : h < 6) : Met l yX9_homeOf wsX9_homeOf (xrm 3) (va_Pc [.ref (α 0), .int (nI h)] (xPre D K 20 α (xM α K) σ)) (xQi D 20 α (xM α K) (fun r τ => r = xs_as (σ 6) (xYM σ) h h ∧ xMs σ τ ∧ (xBk σ → xBk τ))) 0 0 (xw_R 20 α) := by
  refine Met.ofW (cc := cX9_homeOf) (maxL := 4) (ret := (some .int)) (by decide) rfl ?_
  intro p e s m args below meth c s₁ B hml hv
  obtain ⟨rfl, hK, hP⟩ := hv
  have S : CallFix p m c cX9_homeOf 4 s _ wsX9_homeOf RX9 := ⟨B.exec, B.bytes, hml, findClass_of_methodNamed B.named, atoms_spec (ws := wsX9_homeOf) B.pre⟩
  have hx := S.1
  have hb := S.2.1
  have hr := B.returns
  have hlocks := B.notSynchronized
  have hS : va_S (xw_R 20 α) s.heap s.heap [] := va_S.rf
  have hl := lv_entry ([.ref (α 0), .int (nI h)]) (n := 4) (Nat.le_of_ble_eq_true rfl)
  rw [lg_entry_eq]
  generalize (lg_sl ([.ref (α 0), .int (nI h)]) ++ List.replicate (4 - (lg_sl ([.ref (α 0), .int (nI h)])).length) Slot.unset).toArray = ls at hl ⊢
  have hl : lv_has ls 4 [(0, .ref (α 0)), (1, .int (nI h))] := hl
  have hPP := hP
  have hY := xIM_Y hC
  have hY12 := xIM_12 hC
  have hPm := xIM_P hC
  refine lv_aload_n hx hb dX9_homeOf_0 rfl (lv_at hl 0 rfl) ?_
  refine x_cVWi (As := []) (rest := []) S hK hP hS (fun _ h => h) 0 (by omega) rfl rfl (c_X9_faultNow l σ hI   (by first | assumption | omega)) (x_cwV (n0 := 0) (cq := (RX9, TX9, 24)) S gX9_homeOf_X9_faultNow rfl (by decide +kernel) ⟨Nat.le_of_ble_eq_true rfl, Nat.le_of_ble_eq_true rfl⟩) rfl hl.1 rfl (Nat.le_of_ble_eq_true rfl) dX9_homeOf_1 ⟨Nat.le_refl _, Nat.le_refl _⟩ (fun r_1 τ_1 H locs hr_1 hP hk_1 hS => ?_)
  obtain ⟨hr_1, hms_1, hbk_1⟩ := hr_1
  subst hr_1
  obtain ⟨hyr, hbk⟩ := xBk_of hms_1 hbk_1
  have eF := xMs_F hms_1
  have e6 : τ_1 6 = σ 6 := xMs_k hms_1 (by decide)
  have hC2 := xMs_IM hms_1 hC
  refine lv_istore_n (lv' := [(2, .int (xt_fault (σ 6) (xLM σ))), (0, .ref (α 0)), (1, .int (nI h))]) hx hb dX9_homeOf_4 rfl hl (by decide) rfl (fun ls hl => ?_)
  refine lv_iconst (v := nI 0) hx hb dX9_homeOf_5 (by decide) ?_
  refine lv_istore_n (lv' := [(3, .int (nI 0)), (2, .int (xt_fault (σ 6) (xLM σ))), (0, .ref (α 0)), (1, .int (nI h))]) hx hb dX9_homeOf_6 rfl hl (by decide) rfl (fun ls hl => ?_)
  refine x_loopW (ι := Nat) (fun i H locs ls => (i ≤ xYM σ) ∧ (∀ y, y < i → ¬ (xnm (σ 6) y h = h ∧ xnm (σ 6) y h = h)) ∧ lv_has ls 4 [(3, .int (nI i)), (2, .int (xt_fault (σ 6) (xLM σ))), (0, .ref (α 0)), (1, .int (nI h))] ∧ va_P D vwCl (xw 20 α (xM α K) τ_1) H ∧ va_S (xw_R 20 α) s.heap H locs) (fun i => xYM σ - i) ?_ 0 ls ⟨Nat.zero_le _, fun j hj => absurd hj (Nat.not_lt_zero j), lv_sub hl [0, 1, 2, 3] rfl, hP, hS⟩
  intro i H locs ls hinv ih_7
  obtain ⟨hi, hno, hl, hP, hS⟩ := hinv
  have hl : lv_has ls 4 [(3, .int (nI i)), (2, .int (xt_fault (σ 6) (xLM σ))), (0, .ref (α 0)), (1, .int (nI h))] := hl
  have hP : va_P D vwCl (xw 20 α (xM α K) τ_1) H := hP
  refine lv_iload_n hx hb dX9_homeOf_7 rfl (lv_at hl 0 rfl) ?_
  refine lv_aload_n hx hb dX9_homeOf_8 rfl (lv_at hl 2 rfl) ?_
  refine x_get S (fun w h => List.mem_cons_of_mem _ (List.mem_append_right _ h)) hK hP 0 (by omega) rfl rfl 7 (by decide) (List.mem_of_getElem? (i := 1) rfl) rfl dX9_homeOf_9 ?_
  refine x_top S (y := nI (xYM σ)) (hyr) ?_
  refine x_icmpN_ge (tgt := 38) S dX9_homeOf_12 (by decide) (by omega) (by omega) (fun c_12 => ?_) (fun c_12 => ?_)
  · refine lv_iconst (v := (-1)) hx hb dX9_homeOf_38 (by decide) ?_
    exact x_iretW S hlocks hP hS hr rfl (⟨(xs_as_no (fun j hj => hno j (by omega))).symm, hms_1, fun _ => hbk_1⟩) dX9_homeOf_39
  · have hq1 := (hY i c_12 h hh).1
    refine lv_aload_n hx hb dX9_homeOf_15 rfl (lv_at hl 2 rfl) ?_
    refine x_get S (fun w h => List.mem_cons_of_mem _ (List.mem_append_right _ h)) hK hP 0 (by omega) rfl rfl 8 (by decide) (List.mem_of_getElem? (i := 2) rfl) rfl dX9_homeOf_16 ?_
    refine lv_bipush (v := nI 6) hx hb dX9_homeOf_19 (by decide) ?_
    refine lv_iload_n hx hb dX9_homeOf_21 rfl (lv_at hl 0 rfl) ?_
    refine x_imulN S dX9_homeOf_22 ?_
    refine lv_iload_n hx hb dX9_homeOf_23 rfl (lv_at hl 3 rfl) ?_
    refine x_iaddN S dX9_homeOf_24 ?_
    refine x_iald S hK hP 7 (by omega) rfl (by first | assumption | omega) (by omega) dX9_homeOf_25 ?_
    refine x_top S (y := nI (xnm (σ 6) i h)) (hbk i (by omega) h hh) ?_
    refine lv_iload_n hx hb dX9_homeOf_26 rfl (lv_at hl 3 rfl) ?_
    refine x_icmpN_ne (tgt := 32) S dX9_homeOf_27 (by decide) (by omega) (by omega) (fun c_27 => ?_) (fun c_27 => ?_)
    · refine lv_iinc (v := nI (i + 1)) (lv' := [(3, .int (nI (i + 1))), (2, .int (xt_fault (σ 6) (xLM σ))), (0, .ref (α 0)), (1, .int (nI h))]) hx hb dX9_homeOf_32 hl (k := 0) rfl (nI_add i 1) (by decide) rfl (fun ls hl => ?_)
      refine lv_goto (tgt := 7) hx hb dX9_homeOf_35 (by decide) ?_
      exact ih_7 (i + 1) H locs ls ⟨(by omega), lt_s hno (fun q => c_27 q.1), lv_sub hl [0, 1, 2, 3] rfl, hP, hS⟩ (by (try dsimp only); omega)
    · refine lv_iload_n hx hb dX9_homeOf_30 rfl (lv_at hl 0 rfl) ?_
      exact x_iretW S hlocks hP hS hr rfl (⟨(xs_as_at c_12 hno ⟨c_27, c_27⟩).symm, hms_1, fun _ => hbk_1⟩) dX9_homeOf_31
set_option maxHeartbeats 4000000 in
set_option maxRecDepth 100000 in
theorem c_X9_otherOfB (l : Launch) {D : va_G} {K : Nat → ClassId} {α : Nat → Nat} (σ : Nat → Nat → Int32) (hI : xw_I 20 α) (a : Nat) (b : Nat)  (hC : xIM σ) (ha : a < 6) (hb6 : b < 6) : Met l yX9_otherOf wsX9_otherOf (xrm 3) (va_Pc [.ref (α 0), .int (nI a), .int (nI b)] (xPre D K 20 α (xM α K) σ)) (xQi D 20 α (xM α K) (fun r τ => r = xs_as (σ 6) (xYM σ) a b ∧ xMs σ τ ∧ (xBk σ → xBk τ))) 0 0 (xw_R 20 α) := by
  refine Met.ofW (cc := cX9_otherOf) (maxL := 5) (ret := (some .int)) (by decide) rfl ?_
  intro p e s m args below meth c s₁ B hml hv
  obtain ⟨rfl, hK, hP⟩ := hv
  have S : CallFix p m c cX9_otherOf 5 s _ wsX9_otherOf RX9 := ⟨B.exec, B.bytes, hml, findClass_of_methodNamed B.named, atoms_spec (ws := wsX9_otherOf) B.pre⟩
  have hx := S.1
  have hb := S.2.1
  have hr := B.returns
  have hlocks := B.notSynchronized
  have hS : va_S (xw_R 20 α) s.heap s.heap [] := va_S.rf
  have hl := lv_entry ([.ref (α 0), .int (nI a), .int (nI b)]) (n := 5) (Nat.le_of_ble_eq_true rfl)
  rw [lg_entry_eq]
  generalize (lg_sl ([.ref (α 0), .int (nI a), .int (nI b)]) ++ List.replicate (5 - (lg_sl ([.ref (α 0), .int (nI a), .int (nI b)])).length) Slot.unset).toArray = ls at hl ⊢
  have hl : lv_has ls 5 [(0, .ref (α 0)), (1, .int (nI a)), (2, .int (nI b))] := hl
  have hPP := hP
  have hY := xIM_Y hC
  have hY12 := xIM_12 hC
  have hPm := xIM_P hC
  refine lv_aload_n hx hb dX9_otherOf_0 rfl (lv_at hl 0 rfl) ?_
  refine x_cVWi (As := []) (rest := []) S hK hP hS (fun _ h => h) 0 (by omega) rfl rfl (c_X9_faultNow l σ hI   (by first | assumption | omega)) (x_cwV (n0 := 0) (cq := (RX9, TX9, 24)) S gX9_otherOf_X9_faultNow rfl (by decide +kernel) ⟨Nat.le_of_ble_eq_true rfl, Nat.le_of_ble_eq_true rfl⟩) rfl hl.1 rfl (Nat.le_of_ble_eq_true rfl) dX9_otherOf_1 ⟨Nat.le_refl _, Nat.le_refl _⟩ (fun r_1 τ_1 H locs hr_1 hP hk_1 hS => ?_)
  obtain ⟨hr_1, hms_1, hbk_1⟩ := hr_1
  subst hr_1
  obtain ⟨hyr, hbk⟩ := xBk_of hms_1 hbk_1
  have eF := xMs_F hms_1
  have e6 : τ_1 6 = σ 6 := xMs_k hms_1 (by decide)
  have hC2 := xMs_IM hms_1 hC
  refine lv_istore_n (lv' := [(3, .int (xt_fault (σ 6) (xLM σ))), (0, .ref (α 0)), (1, .int (nI a)), (2, .int (nI b))]) hx hb dX9_otherOf_4 rfl hl (by decide) rfl (fun ls hl => ?_)
  refine lv_iconst (v := nI 0) hx hb dX9_otherOf_5 (by decide) ?_
  refine lv_istore (lv' := [(4, .int (nI 0)), (3, .int (xt_fault (σ 6) (xLM σ))), (0, .ref (α 0)), (1, .int (nI a)), (2, .int (nI b))]) hx hb dX9_otherOf_6 hl (by decide) rfl (fun ls hl => ?_)
  refine x_loopW (ι := Nat) (fun i H locs ls => (i ≤ xYM σ) ∧ (∀ y, y < i → ¬ (xnm (σ 6) y a = b ∧ xnm (σ 6) y b = a)) ∧ lv_has ls 5 [(4, .int (nI i)), (3, .int (xt_fault (σ 6) (xLM σ))), (0, .ref (α 0)), (1, .int (nI a)), (2, .int (nI b))] ∧ va_P D vwCl (xw 20 α (xM α K) τ_1) H ∧ va_S (xw_R 20 α) s.heap H locs) (fun i => xYM σ - i) ?_ 0 ls ⟨Nat.zero_le _, fun j hj => absurd hj (Nat.not_lt_zero j), lv_sub hl [0, 1, 2, 3, 4] rfl, hP, hS⟩
  intro i H locs ls hinv ih_8
  obtain ⟨hi, hno, hl, hP, hS⟩ := hinv
  have hl : lv_has ls 5 [(4, .int (nI i)), (3, .int (xt_fault (σ 6) (xLM σ))), (0, .ref (α 0)), (1, .int (nI a)), (2, .int (nI b))] := hl
  have hP : va_P D vwCl (xw 20 α (xM α K) τ_1) H := hP
  refine lv_iload hx hb dX9_otherOf_8 (lv_at hl 0 rfl) ?_
  refine lv_aload_n hx hb dX9_otherOf_10 rfl (lv_at hl 2 rfl) ?_
  refine x_get S (fun w h => List.mem_cons_of_mem _ (List.mem_append_right _ h)) hK hP 0 (by omega) rfl rfl 7 (by decide) (List.mem_of_getElem? (i := 1) rfl) rfl dX9_otherOf_11 ?_
  refine x_top S (y := nI (xYM σ)) (hyr) ?_
  refine x_icmpN_ge (tgt := 58) S dX9_otherOf_14 (by decide) (by omega) (by omega) (fun c_14 => ?_) (fun c_14 => ?_)
  · refine lv_iconst (v := (-1)) hx hb dX9_otherOf_58 (by decide) ?_
    exact x_iretW S hlocks hP hS hr rfl (⟨(xs_as_no (fun j hj => hno j (by omega))).symm, hms_1, fun _ => hbk_1⟩) dX9_otherOf_59
  · have hq1 := (hY i c_14 a ha).1
    have hq2 := (hY i c_14 b hb6).1
    refine lv_aload_n hx hb dX9_otherOf_17 rfl (lv_at hl 2 rfl) ?_
    refine x_get S (fun w h => List.mem_cons_of_mem _ (List.mem_append_right _ h)) hK hP 0 (by omega) rfl rfl 8 (by decide) (List.mem_of_getElem? (i := 2) rfl) rfl dX9_otherOf_18 ?_
    refine lv_bipush (v := nI 6) hx hb dX9_otherOf_21 (by decide) ?_
    refine lv_iload hx hb dX9_otherOf_23 (lv_at hl 0 rfl) ?_
    refine x_imulN S dX9_otherOf_25 ?_
    refine lv_iload_n hx hb dX9_otherOf_26 rfl (lv_at hl 3 rfl) ?_
    refine x_iaddN S dX9_otherOf_27 ?_
    refine x_iald S hK hP 7 (by omega) rfl (by first | assumption | omega) (by omega) dX9_otherOf_28 ?_
    refine x_top S (y := nI (xnm (σ 6) i a)) (hbk i (by omega) a ha) ?_
    refine lv_iload_n hx hb dX9_otherOf_29 rfl (lv_at hl 4 rfl) ?_
    refine x_icmpN_ne (tgt := 52) S dX9_otherOf_30 (by decide) (by omega) (by omega) (fun c_30 => ?_) (fun c_30 => ?_)
    · refine lv_iinc (v := nI (i + 1)) (lv' := [(4, .int (nI (i + 1))), (3, .int (xt_fault (σ 6) (xLM σ))), (0, .ref (α 0)), (1, .int (nI a)), (2, .int (nI b))]) hx hb dX9_otherOf_52 hl (k := 0) rfl (nI_add i 1) (by decide) rfl (fun ls hl => ?_)
      refine lv_goto (tgt := 8) hx hb dX9_otherOf_55 (by decide) ?_
      exact ih_8 (i + 1) H locs ls ⟨(by omega), lt_s hno (fun q => by first | exact c_46 q.2 | exact c_30 q.1), lv_sub hl [0, 1, 2, 3, 4] rfl, hP, hS⟩ (by (try dsimp only); omega)
    · refine lv_aload_n hx hb dX9_otherOf_33 rfl (lv_at hl 2 rfl) ?_
      refine x_get S (fun w h => List.mem_cons_of_mem _ (List.mem_append_right _ h)) hK hP 0 (by omega) rfl rfl 8 (by decide) (List.mem_of_getElem? (i := 2) rfl) rfl dX9_otherOf_34 ?_
      refine lv_bipush (v := nI 6) hx hb dX9_otherOf_37 (by decide) ?_
      refine lv_iload hx hb dX9_otherOf_39 (lv_at hl 0 rfl) ?_
      refine x_imulN S dX9_otherOf_41 ?_
      refine lv_iload_n hx hb dX9_otherOf_42 rfl (lv_at hl 4 rfl) ?_
      refine x_iaddN S dX9_otherOf_43 ?_
      refine x_iald S hK hP 7 (by omega) rfl (by first | assumption | omega) (by omega) dX9_otherOf_44 ?_
      refine x_top S (y := nI (xnm (σ 6) i b)) (hbk i (by omega) b hb6) ?_
      refine lv_iload_n hx hb dX9_otherOf_45 rfl (lv_at hl 3 rfl) ?_
      refine x_icmpN_ne (tgt := 52) S dX9_otherOf_46 (by decide) (by omega) (by omega) (fun c_46 => ?_) (fun c_46 => ?_)
      · refine lv_iinc (v := nI (i + 1)) (lv' := [(4, .int (nI (i + 1))), (3, .int (xt_fault (σ 6) (xLM σ))), (0, .ref (α 0)), (1, .int (nI a)), (2, .int (nI b))]) hx hb dX9_otherOf_52 hl (k := 0) rfl (nI_add i 1) (by decide) rfl (fun ls hl => ?_)
        refine lv_goto (tgt := 8) hx hb dX9_otherOf_55 (by decide) ?_
        exact ih_8 (i + 1) H locs ls ⟨(by omega), lt_s hno (fun q => by first | exact c_46 q.2 | exact c_30 q.1), lv_sub hl [0, 1, 2, 3, 4] rfl, hP, hS⟩ (by (try dsimp only); omega)
      · refine lv_iload hx hb dX9_otherOf_49 (lv_at hl 0 rfl) ?_
        exact x_iretW S hlocks hP hS hr rfl (⟨(xs_as_at c_14 hno ⟨c_30, c_46⟩).symm, hms_1, fun _ => hbk_1⟩) dX9_otherOf_51
set_option maxHeartbeats 4000000 in
set_option maxRecDepth 100000 in
theorem c_X9_soundOfB (l : Launch) {D : va_G} {K : Nat → ClassId} {α : Nat → Nat} (σ : Nat → Nat → Int32) (hI : xw_I 20 α) (h : Nat)  (hh : h < 6) : Met l yX9_soundOf wsX9_soundOf (xrm 2) (va_Pc [.ref (α 0), .int (nI h)] (xPre D K 20 α (xM α K) σ)) (xQi D 20 α (xM α K) (fun r τ => r = xsf (xFM σ) h 720 ∧ xMs σ τ ∧ (xBk σ → xBk τ))) 0 0 (xw_R 20 α) := by
  refine Met.ofW (cc := cX9_soundOf) (maxL := 5) (ret := (some .int)) (by decide) rfl ?_
  intro p e s m args below meth c s₁ B hml hv
  obtain ⟨rfl, hK, hP⟩ := hv
  have S : CallFix p m c cX9_soundOf 5 s _ wsX9_soundOf RX9 := ⟨B.exec, B.bytes, hml, findClass_of_methodNamed B.named, atoms_spec (ws := wsX9_soundOf) B.pre⟩
  have hx := S.1
  have hb := S.2.1
  have hr := B.returns
  have hlocks := B.notSynchronized
  have hS : va_S (xw_R 20 α) s.heap s.heap [] := va_S.rf
  have hl := lv_entry ([.ref (α 0), .int (nI h)]) (n := 5) (Nat.le_of_ble_eq_true rfl)
  rw [lg_entry_eq]
  generalize (lg_sl ([.ref (α 0), .int (nI h)]) ++ List.replicate (5 - (lg_sl ([.ref (α 0), .int (nI h)])).length) Slot.unset).toArray = ls at hl ⊢
  have hl : lv_has ls 5 [(0, .ref (α 0)), (1, .int (nI h))] := hl
  have hPP := hP
  refine lv_iconst (v := nI 0) hx hb dX9_soundOf_0 (by decide) ?_
  refine lv_istore_n (lv' := [(2, .int (nI 0)), (0, .ref (α 0)), (1, .int (nI h))]) hx hb dX9_soundOf_1 rfl hl (by decide) rfl (fun ls hl => ?_)
  refine lv_iconst (v := (-1)) hx hb dX9_soundOf_2 (by decide) ?_
  refine lv_istore_n (lv' := [(3, .int (-1 : Int32)), (2, .int (nI 0)), (0, .ref (α 0)), (1, .int (nI h))]) hx hb dX9_soundOf_3 rfl hl (by decide) rfl (fun ls hl => ?_)
  refine lv_iconst (v := nI 0) hx hb dX9_soundOf_4 (by decide) ?_
  refine lv_istore (lv' := [(4, .int (nI 0)), (3, .int (-1 : Int32)), (2, .int (nI 0)), (0, .ref (α 0)), (1, .int (nI h))]) hx hb dX9_soundOf_5 hl (by decide) rfl (fun ls hl => ?_)
  refine x_loopW (ι := Nat × (Nat → Nat → Int32)) (fun z9 H locs ls => match z9 with | ⟨i, τ9⟩ => (i ≤ 720) ∧ (xMs σ τ9) ∧ (xBk σ → xBk τ9) ∧ lv_has ls 5 [(4, .int (nI i)), (3, .int (xsf (xFM σ) h i)), (2, .int (nI (xson (xFM σ) i))), (0, .ref (α 0)), (1, .int (nI h))] ∧ va_P D vwCl (xw 20 α (xM α K) τ9) H ∧ va_S (xw_R 20 α) s.heap H locs) (fun z9 => match z9 with | ⟨i, τ9⟩ => 720 - i) ?_ (⟨0, σ⟩) ls ⟨Nat.zero_le _, xMs_rf _, id, lv_sub hl [0, 1, 2, 3, 4] rfl, hP, hS⟩
  intro z9 H locs ls hinv ih_7
  obtain ⟨i, τ9⟩ := z9
  obtain ⟨hi, hm9, hb9, hl, hP, hS⟩ := hinv
  have hl : lv_has ls 5 [(4, .int (nI i)), (3, .int (xsf (xFM σ) h i)), (2, .int (nI (xson (xFM σ) i))), (0, .ref (α 0)), (1, .int (nI h))] := hl
  have hP : va_P D vwCl (xw 20 α (xM α K) τ9) H := hP
  have hq9 := xson_le (xFM σ) i
  refine lv_iload hx hb dX9_soundOf_7 (lv_at hl 0 rfl) ?_
  refine lv_sipush (v := nI 720) hx hb dX9_soundOf_9 (by decide) ?_
  refine x_icmpN_ge (tgt := 57) S dX9_soundOf_12 (by decide) (by omega) (by omega) (fun c_12 => ?_) (fun c_12 => ?_)
  · have e9 : i = 720 := by omega
    subst e9
    refine lv_iload_n hx hb dX9_soundOf_57 rfl (lv_at hl 4 rfl) ?_
    refine lv_iconst (v := (-1)) hx hb dX9_soundOf_58 (by decide) ?_
    refine lv_icmp_ne (tgt := 66) hx hb dX9_soundOf_59 (by decide) (fun _ => ?_) (fun q => absurd q (nI_m1 (by omega)))
    refine lv_iload_n hx hb dX9_soundOf_66 rfl (lv_at hl 1 rfl) ?_
    exact x_iretW S hlocks hP hS hr rfl (⟨rfl, hm9, hb9⟩) dX9_soundOf_67
  · refine lv_aload_n hx hb dX9_soundOf_15 rfl (lv_at hl 3 rfl) ?_
    refine lv_iload hx hb dX9_soundOf_16 (lv_at hl 0 rfl) ?_
    refine x_cVWv (As := [.int (nI i)]) (rest := []) S hK hP hS (fun _ h => h) 0 (by omega) rfl rfl (c_X9_lays l τ9 hI i  (by first | assumption | omega)) (x_cwV (n0 := 1) (cq := (RX9, TX9, 24)) S gX9_soundOf_X9_lays rfl (by decide +kernel) ⟨Nat.le_of_ble_eq_true rfl, Nat.le_of_ble_eq_true rfl⟩) rfl hl.1 rfl (Nat.le_of_ble_eq_true rfl) dX9_soundOf_18 ⟨Nat.le_refl _, Nat.le_refl _⟩ (fun τ_18 H locs hr_18 hP hk_18 hS => ?_)
    subst hr_18
    refine lv_aload_n hx hb dX9_soundOf_21 rfl (lv_at hl 3 rfl) ?_
    refine x_cVRi (As := []) (rest := []) S hK hP 0 (by omega) rfl rfl (c_X9_isSound l (xst_lay τ9 (xl_r i)) (xl_r i)  (fun h hh => ⟨xlay_8 _ _ hh, xl_r_lt (by omega) hh⟩)) (x_cwV (n0 := 0) (cq := (RX9, TX9, 24)) S gX9_soundOf_X9_isSound rfl (by decide +kernel) ⟨Nat.le_of_ble_eq_true rfl, Nat.le_of_ble_eq_true rfl⟩) rfl hl.1 rfl (Nat.le_of_ble_eq_true rfl) dX9_soundOf_22 ⟨Nat.le_refl _, Nat.le_refl _⟩ (fun r_22 hr_22 => ?_)
    subst hr_22
    refine x_top S (y := xb (xso (xFM σ) i)) (by rw [xMs_F (xMs_lay hm9 _)]) ?_
    refine x_if_eqB (tgt := 51) S dX9_soundOf_25 (by decide) (fun c_25 => ?_) (fun c_25 => ?_)
    · refine lv_iinc (v := nI (i + 1)) (lv' := [(4, .int (nI (i + 1))), (3, .int (xsf (xFM σ) h i)), (2, .int (nI (xson (xFM σ) i))), (0, .ref (α 0)), (1, .int (nI h))]) hx hb dX9_soundOf_51 hl (k := 0) rfl (nI_add i 1) (by decide) rfl (fun ls hl => ?_)
      refine lv_goto (tgt := 7) hx hb dX9_soundOf_54 (by decide) ?_
      exact ih_7 (⟨i + 1, xst_lay τ9 (xl_r i)⟩) H locs ls ⟨(by omega), xMs_lay hm9 _, fun q => xBk_lay (hb9 q), (by have h9 := lv_sub (l' := [(4, .int (nI (i + 1))), (3, .int (xsf (xFM σ) h i)), (2, .int (nI (xson (xFM σ) i))), (0, .ref (α 0)), (1, .int (nI h))]) hl [0, 1, 2, 3, 4] rfl; rw [show nI (xson (xFM σ) i) = nI (xson (xFM σ) (i + 1)) from by rw [xson_s]; first | (rw [if_pos c_25] <;> rfl) | (rw [if_neg c_25] <;> rfl)] at h9; rw [show xsf (xFM σ) h i = xsf (xFM σ) h (i + 1) from by rw [xsf]; first | (rw [if_pos ⟨c_25, c_29⟩] <;> rfl) | rw [if_neg (fun q => c_25 q.1)] | rw [if_neg (fun q => by have := q.2; omega)]] at h9; exact h9), hP, hS⟩ (by (try dsimp only); omega)
    · have hw9 := xl_r_lt (k := i) (h := h) (by omega) (by omega)
      refine lv_iload_n hx hb dX9_soundOf_28 rfl (lv_at hl 2 rfl) ?_
      refine x_ifN_ne (tgt := 46) S dX9_soundOf_29 (by decide) (by omega) (fun c_29 => ?_) (fun c_29 => ?_)
      · refine lv_iload_n hx hb dX9_soundOf_46 rfl (lv_at hl 1 rfl) ?_
        refine lv_istore_n (lv' := [(3, .int (xsf (xFM σ) h i)), (4, .int (nI i)), (2, .int (nI (xson (xFM σ) i))), (0, .ref (α 0)), (1, .int (nI h))]) hx hb dX9_soundOf_47 rfl hl (by decide) rfl (fun ls hl => ?_)
        refine lv_iinc (v := nI (xson (xFM σ) i + 1)) (lv' := [(2, .int (nI (xson (xFM σ) i + 1))), (3, .int (xsf (xFM σ) h i)), (4, .int (nI i)), (0, .ref (α 0)), (1, .int (nI h))]) hx hb dX9_soundOf_48 hl (k := 2) rfl (nI_add (xson (xFM σ) i) 1) (by decide) rfl (fun ls hl => ?_)
        refine lv_iinc (v := nI (i + 1)) (lv' := [(4, .int (nI (i + 1))), (2, .int (nI (xson (xFM σ) i + 1))), (3, .int (xsf (xFM σ) h i)), (0, .ref (α 0)), (1, .int (nI h))]) hx hb dX9_soundOf_51 hl (k := 2) rfl (nI_add i 1) (by decide) rfl (fun ls hl => ?_)
        refine lv_goto (tgt := 7) hx hb dX9_soundOf_54 (by decide) ?_
        exact ih_7 (⟨i + 1, xst_lay τ9 (xl_r i)⟩) H locs ls ⟨(by omega), xMs_lay hm9 _, fun q => xBk_lay (hb9 q), (by have h9 := lv_sub (l' := [(4, .int (nI (i + 1))), (3, .int (xsf (xFM σ) h i)), (2, .int (nI (xson (xFM σ) i + 1))), (0, .ref (α 0)), (1, .int (nI h))]) hl [0, 2, 1, 3, 4] rfl; rw [show nI (xson (xFM σ) i + 1) = nI (xson (xFM σ) (i + 1)) from by rw [xson_s]; first | (rw [if_pos c_25] <;> rfl) | (rw [if_neg c_25] <;> rfl)] at h9; rw [show xsf (xFM σ) h i = xsf (xFM σ) h (i + 1) from by rw [xsf]; first | (rw [if_pos ⟨c_25, c_29⟩] <;> rfl) | rw [if_neg (fun q => c_25 q.1)] | rw [if_neg (fun q => by have := q.2; omega)]] at h9; exact h9), hP, hS⟩ (by (try dsimp only); omega)
      · refine lv_iload_n hx hb dX9_soundOf_32 rfl (lv_at hl 4 rfl) ?_
        refine lv_iconst (v := (-1)) hx hb dX9_soundOf_33 (by decide) ?_
        refine lv_icmp_eq (tgt := 46) hx hb dX9_soundOf_34 (by decide) (fun q => absurd q (nI_m1 (by omega))) (fun _ => ?_)
        refine lv_aload_n hx hb dX9_soundOf_37 rfl (lv_at hl 3 rfl) ?_
        refine x_get S (fun w h => List.mem_cons_of_mem _ (List.mem_append_right _ h)) hK hP 0 (by omega) rfl rfl 9 (by decide) (List.mem_of_getElem? (i := 1) rfl) rfl dX9_soundOf_38 ?_
        refine lv_iload_n hx hb dX9_soundOf_41 rfl (lv_at hl 4 rfl) ?_
        refine x_iald S hK hP 8 (by omega) rfl (by first | assumption | omega) (by omega) dX9_soundOf_42 ?_
        refine x_top S (y := nI (xl_r i h)) (xlay_8 _ _ hh) ?_
        refine lv_goto (tgt := 47) hx hb dX9_soundOf_43 (by decide) ?_
        refine lv_istore_n (lv' := [(3, .int (nI (xl_r i h))), (4, .int (nI i)), (2, .int (nI (xson (xFM σ) i))), (0, .ref (α 0)), (1, .int (nI h))]) hx hb dX9_soundOf_47 rfl hl (by decide) rfl (fun ls hl => ?_)
        refine lv_iinc (v := nI (xson (xFM σ) i + 1)) (lv' := [(2, .int (nI (xson (xFM σ) i + 1))), (3, .int (nI (xl_r i h))), (4, .int (nI i)), (0, .ref (α 0)), (1, .int (nI h))]) hx hb dX9_soundOf_48 hl (k := 2) rfl (nI_add (xson (xFM σ) i) 1) (by decide) rfl (fun ls hl => ?_)
        refine lv_iinc (v := nI (i + 1)) (lv' := [(4, .int (nI (i + 1))), (2, .int (nI (xson (xFM σ) i + 1))), (3, .int (nI (xl_r i h))), (0, .ref (α 0)), (1, .int (nI h))]) hx hb dX9_soundOf_51 hl (k := 2) rfl (nI_add i 1) (by decide) rfl (fun ls hl => ?_)
        refine lv_goto (tgt := 7) hx hb dX9_soundOf_54 (by decide) ?_
        exact ih_7 (⟨i + 1, xst_lay τ9 (xl_r i)⟩) H locs ls ⟨(by omega), xMs_lay hm9 _, fun q => xBk_lay (hb9 q), (by have h9 := lv_sub (l' := [(4, .int (nI (i + 1))), (3, .int (nI (xl_r i h))), (2, .int (nI (xson (xFM σ) i + 1))), (0, .ref (α 0)), (1, .int (nI h))]) hl [0, 2, 1, 3, 4] rfl; rw [show nI (xson (xFM σ) i + 1) = nI (xson (xFM σ) (i + 1)) from by rw [xson_s]; first | (rw [if_pos c_25] <;> rfl) | (rw [if_neg c_25] <;> rfl)] at h9; rw [show nI (xl_r i h) = xsf (xFM σ) h (i + 1) from by rw [xsf]; first | (rw [if_pos ⟨c_25, c_29⟩] <;> rfl) | rw [if_neg (fun q => c_25 q.1)] | rw [if_neg (fun q => by have := q.2; omega)]] at h9; exact h9), hP, hS⟩ (by (try dsimp only); omega)
set_option maxHeartbeats 4000000 in
set_option maxRecDepth 100000 in
theorem c_X9_chanceOfB (l : Launch) {D : va_G} {K : Nat → ClassId} {α : Nat → Nat} (σ : Nat → Nat → Int32) (hI : xw_I 20 α) (h : Nat) (n : Nat) (x : Int32)  (hh : h < 6) (hn : n < 6) : Met l yX9_chanceOf wsX9_chanceOf (xrm 2) (va_Pc [.ref (α 0), .int (nI h), .int (nI n), .int x] (xPre D K 20 α (xM α K) σ)) (xQl D 20 α (xM α K) (fun r τ => r = (if xson (xFM σ) 720 = 0 then xrefuse (-3) else xfrac (xsrn (xFM σ) h n 720) (xson (xFM σ) 720) x) ∧ xMs σ τ ∧ (xBk σ → xBk τ))) 0 0 (xw_R 20 α) := by
  refine Met.ofW (cc := cX9_chanceOf) (maxL := 7) (ret := (some .long)) (by decide) rfl ?_
  intro p e s m args below meth c s₁ B hml hv
  obtain ⟨rfl, hK, hP⟩ := hv
  have S : CallFix p m c cX9_chanceOf 7 s _ wsX9_chanceOf RX9 := ⟨B.exec, B.bytes, hml, findClass_of_methodNamed B.named, atoms_spec (ws := wsX9_chanceOf) B.pre⟩
  have hx := S.1
  have hb := S.2.1
  have hr := B.returns
  have hlocks := B.notSynchronized
  have hS : va_S (xw_R 20 α) s.heap s.heap [] := va_S.rf
  have hl := lv_entry ([.ref (α 0), .int (nI h), .int (nI n), .int x]) (n := 7) (Nat.le_of_ble_eq_true rfl)
  rw [lg_entry_eq]
  generalize (lg_sl ([.ref (α 0), .int (nI h), .int (nI n), .int x]) ++ List.replicate (7 - (lg_sl ([.ref (α 0), .int (nI h), .int (nI n), .int x])).length) Slot.unset).toArray = ls at hl ⊢
  have hl : lv_has ls 7 [(0, .ref (α 0)), (1, .int (nI h)), (2, .int (nI n)), (3, .int x)] := hl
  have hPP := hP
  refine lv_iconst (v := nI 0) hx hb dX9_chanceOf_0 (by decide) ?_
  refine lv_istore (lv' := [(4, .int (nI 0)), (0, .ref (α 0)), (1, .int (nI h)), (2, .int (nI n)), (3, .int x)]) hx hb dX9_chanceOf_1 hl (by decide) rfl (fun ls hl => ?_)
  refine lv_iconst (v := nI 0) hx hb dX9_chanceOf_3 (by decide) ?_
  refine lv_istore (lv' := [(5, .int (nI 0)), (4, .int (nI 0)), (0, .ref (α 0)), (1, .int (nI h)), (2, .int (nI n)), (3, .int x)]) hx hb dX9_chanceOf_4 hl (by decide) rfl (fun ls hl => ?_)
  refine lv_iconst (v := nI 0) hx hb dX9_chanceOf_6 (by decide) ?_
  refine lv_istore (lv' := [(6, .int (nI 0)), (5, .int (nI 0)), (4, .int (nI 0)), (0, .ref (α 0)), (1, .int (nI h)), (2, .int (nI n)), (3, .int x)]) hx hb dX9_chanceOf_7 hl (by decide) rfl (fun ls hl => ?_)
  refine x_loopW (ι := Nat × (Nat → Nat → Int32)) (fun z9 H locs ls => match z9 with | ⟨i, τ9⟩ => (i ≤ 720) ∧ (xMs σ τ9) ∧ (xBk σ → xBk τ9) ∧ lv_has ls 7 [(6, .int (nI i)), (5, .int (nI (xsrn (xFM σ) h n i))), (4, .int (nI (xson (xFM σ) i))), (0, .ref (α 0)), (1, .int (nI h)), (2, .int (nI n)), (3, .int x)] ∧ va_P D vwCl (xw 20 α (xM α K) τ9) H ∧ va_S (xw_R 20 α) s.heap H locs) (fun z9 => match z9 with | ⟨i, τ9⟩ => 720 - i) ?_ (⟨0, σ⟩) ls ⟨Nat.zero_le _, xMs_rf _, id, lv_sub hl [0, 1, 2, 3, 4, 5, 6] rfl, hP, hS⟩
  intro z9 H locs ls hinv ih_9
  obtain ⟨i, τ9⟩ := z9
  obtain ⟨hi, hm9, hb9, hl, hP, hS⟩ := hinv
  have hl : lv_has ls 7 [(6, .int (nI i)), (5, .int (nI (xsrn (xFM σ) h n i))), (4, .int (nI (xson (xFM σ) i))), (0, .ref (α 0)), (1, .int (nI h)), (2, .int (nI n)), (3, .int x)] := hl
  have hP : va_P D vwCl (xw 20 α (xM α K) τ9) H := hP
  have hq9 := xson_le (xFM σ) i
  have hq8 := xsrn_le (xFM σ) h n i
  refine lv_iload hx hb dX9_chanceOf_9 (lv_at hl 0 rfl) ?_
  refine lv_sipush (v := nI 720) hx hb dX9_chanceOf_11 (by decide) ?_
  refine x_icmpN_ge (tgt := 59) S dX9_chanceOf_14 (by decide) (by omega) (by omega) (fun c_14 => ?_) (fun c_14 => ?_)
  · have e9 : i = 720 := by omega
    subst e9
    refine lv_iload hx hb dX9_chanceOf_59 (lv_at hl 2 rfl) ?_
    refine x_ifN_ne (tgt := 72) S dX9_chanceOf_61 (by decide) (by omega) (fun c_61 => ?_) (fun c_61 => ?_)
    · refine lv_iload hx hb dX9_chanceOf_72 (lv_at hl 1 rfl) ?_
      refine lv_i2l hx hb dX9_chanceOf_74 rfl ?_
      refine x_topL S (y := lN (xsrn (xFM σ) h n 720)) (nI_l (by omega)) ?_
      refine lv_iload hx hb dX9_chanceOf_75 (lv_at hl 2 rfl) ?_
      refine lv_i2l hx hb dX9_chanceOf_77 rfl ?_
      refine x_topL S (y := lN (xson (xFM σ) 720)) (nI_l (by omega)) ?_
      refine lv_iload_n hx hb dX9_chanceOf_78 rfl (lv_at hl 6 rfl) ?_
      refine x_cSl (As := [.long (lN (xsrn (xFM σ) h n 720)), .long (lN (xson (xFM σ) 720)), .int x]) (rest := []) S (c_X9_lowest l (xsrn (xFM σ) h n 720) (xson (xFM σ) 720) x  (by first | assumption | omega) (by first | assumption | omega) (by first | assumption | omega)) (x_cwS (n0 := 3) S gX9_chanceOf_X9_lowest rfl (by decide +kernel) ⟨Nat.le_of_ble_eq_true rfl, Nat.le_of_ble_eq_true rfl⟩) rfl hl.1 rfl (Nat.le_of_ble_eq_true rfl) dX9_chanceOf_79 ⟨Nat.le_refl _, Nat.le_refl _⟩ (fun r_79 hr_79 => ?_)
      subst hr_79
      exact x_lretW S hlocks hP hS hr (⟨by rw [if_neg (by omega)], hm9, hb9⟩) dX9_chanceOf_82
    · refine lv_bipush (v := (-3)) hx hb dX9_chanceOf_64 (by decide) ?_
      refine x_cSl (As := [.int (-3 : Int32)]) (rest := []) S (c_X9_no l (-3 : Int32)  ) (x_cwS (n0 := 1) S gX9_chanceOf_X9_no rfl (by decide +kernel) ⟨Nat.le_of_ble_eq_true rfl, Nat.le_of_ble_eq_true rfl⟩) rfl hl.1 rfl (Nat.le_of_ble_eq_true rfl) dX9_chanceOf_66 ⟨Nat.le_refl _, Nat.le_refl _⟩ (fun r_66 hr_66 => ?_)
      subst hr_66
      refine lv_goto (tgt := 82) hx hb dX9_chanceOf_69 (by decide) ?_
      exact x_lretW S hlocks hP hS hr (⟨by rw [if_pos c_61], hm9, hb9⟩) dX9_chanceOf_82
  · refine lv_aload_n hx hb dX9_chanceOf_17 rfl (lv_at hl 3 rfl) ?_
    refine lv_iload hx hb dX9_chanceOf_18 (lv_at hl 0 rfl) ?_
    refine x_cVWv (As := [.int (nI i)]) (rest := []) S hK hP hS (fun _ h => h) 0 (by omega) rfl rfl (c_X9_lays l τ9 hI i  (by first | assumption | omega)) (x_cwV (n0 := 1) (cq := (RX9, TX9, 24)) S gX9_chanceOf_X9_lays rfl (by decide +kernel) ⟨Nat.le_of_ble_eq_true rfl, Nat.le_of_ble_eq_true rfl⟩) rfl hl.1 rfl (Nat.le_of_ble_eq_true rfl) dX9_chanceOf_20 ⟨Nat.le_refl _, Nat.le_refl _⟩ (fun τ_20 H locs hr_20 hP hk_20 hS => ?_)
    subst hr_20
    refine lv_aload_n hx hb dX9_chanceOf_23 rfl (lv_at hl 3 rfl) ?_
    refine x_cVRi (As := []) (rest := []) S hK hP 0 (by omega) rfl rfl (c_X9_isSound l (xst_lay τ9 (xl_r i)) (xl_r i)  (fun h hh => ⟨xlay_8 _ _ hh, xl_r_lt (by omega) hh⟩)) (x_cwV (n0 := 0) (cq := (RX9, TX9, 24)) S gX9_chanceOf_X9_isSound rfl (by decide +kernel) ⟨Nat.le_of_ble_eq_true rfl, Nat.le_of_ble_eq_true rfl⟩) rfl hl.1 rfl (Nat.le_of_ble_eq_true rfl) dX9_chanceOf_24 ⟨Nat.le_refl _, Nat.le_refl _⟩ (fun r_24 hr_24 => ?_)
    subst hr_24
    refine x_top S (y := xb (xso (xFM σ) i)) (by rw [xMs_F (xMs_lay hm9 _)]) ?_
    refine x_if_eqB (tgt := 53) S dX9_chanceOf_27 (by decide) (fun c_27 => ?_) (fun c_27 => ?_)
    · refine lv_iinc (v := nI (i + 1)) (lv' := [(6, .int (nI (i + 1))), (5, .int (nI (xsrn (xFM σ) h n i))), (4, .int (nI (xson (xFM σ) i))), (0, .ref (α 0)), (1, .int (nI h)), (2, .int (nI n)), (3, .int x)]) hx hb dX9_chanceOf_53 hl (k := 0) rfl (nI_add i 1) (by decide) rfl (fun ls hl => ?_)
      refine lv_goto (tgt := 9) hx hb dX9_chanceOf_56 (by decide) ?_
      exact ih_9 (⟨i + 1, xst_lay τ9 (xl_r i)⟩) H locs ls ⟨(by omega), xMs_lay hm9 _, fun q => xBk_lay (hb9 q), (by have h9 := lv_sub (l' := [(6, .int (nI (i + 1))), (5, .int (nI (xsrn (xFM σ) h n i))), (4, .int (nI (xson (xFM σ) i))), (0, .ref (α 0)), (1, .int (nI h)), (2, .int (nI n)), (3, .int x)]) hl [0, 1, 2, 3, 4, 5, 6] rfl; rw [show nI (xson (xFM σ) i) = nI (xson (xFM σ) (i + 1)) from by rw [xson_s]; first | (rw [if_pos c_27] <;> rfl) | (rw [if_neg c_27] <;> rfl)] at h9; rw [show nI (xsrn (xFM σ) h n i) = nI (xsrn (xFM σ) h n (i + 1)) from by rw [xsrn_s]; first | (rw [if_pos ⟨c_27, c_42⟩] <;> rfl) | (rw [if_neg (fun q => c_27 q.1)] <;> rfl) | (rw [if_neg (fun q => c_42 q.2)] <;> rfl)] at h9; exact h9), hP, hS⟩ (by (try dsimp only); omega)
    · have hw9 := xl_r_lt (k := i) (h := h) (by omega) (by omega)
      refine lv_iinc (v := nI (xson (xFM σ) i + 1)) (lv' := [(4, .int (nI (xson (xFM σ) i + 1))), (6, .int (nI i)), (5, .int (nI (xsrn (xFM σ) h n i))), (0, .ref (α 0)), (1, .int (nI h)), (2, .int (nI n)), (3, .int x)]) hx hb dX9_chanceOf_30 hl (k := 2) rfl (nI_add (xson (xFM σ) i) 1) (by decide) rfl (fun ls hl => ?_)
      refine lv_iload hx hb dX9_chanceOf_33 (lv_at hl 2 rfl) ?_
      refine lv_aload_n hx hb dX9_chanceOf_35 rfl (lv_at hl 3 rfl) ?_
      refine x_get S (fun w h => List.mem_cons_of_mem _ (List.mem_append_right _ h)) hK hP 0 (by omega) rfl rfl 9 (by decide) (List.mem_of_getElem? (i := 1) rfl) rfl dX9_chanceOf_36 ?_
      refine lv_iload_n hx hb dX9_chanceOf_39 rfl (lv_at hl 4 rfl) ?_
      refine x_iald S hK hP 8 (by omega) rfl (by first | assumption | omega) (by omega) dX9_chanceOf_40 ?_
      refine x_top S (y := nI (xl_r i h)) (xlay_8 _ _ hh) ?_
      refine lv_iload_n hx hb dX9_chanceOf_41 rfl (lv_at hl 5 rfl) ?_
      refine x_icmpN_ne (tgt := 49) S dX9_chanceOf_42 (by decide) (by omega) (by omega) (fun c_42 => ?_) (fun c_42 => ?_)
      · refine lv_iconst (v := nI 0) hx hb dX9_chanceOf_49 (by decide) ?_
        refine x_iaddN S dX9_chanceOf_50 ?_
        refine lv_istore (lv' := [(5, .int (nI ((xsrn (xFM σ) h n i) + 0))), (4, .int (nI (xson (xFM σ) i + 1))), (6, .int (nI i)), (0, .ref (α 0)), (1, .int (nI h)), (2, .int (nI n)), (3, .int x)]) hx hb dX9_chanceOf_51 hl (by decide) rfl (fun ls hl => ?_)
        refine lv_iinc (v := nI (i + 1)) (lv' := [(6, .int (nI (i + 1))), (5, .int (nI ((xsrn (xFM σ) h n i) + 0))), (4, .int (nI (xson (xFM σ) i + 1))), (0, .ref (α 0)), (1, .int (nI h)), (2, .int (nI n)), (3, .int x)]) hx hb dX9_chanceOf_53 hl (k := 2) rfl (nI_add i 1) (by decide) rfl (fun ls hl => ?_)
        refine lv_goto (tgt := 9) hx hb dX9_chanceOf_56 (by decide) ?_
        exact ih_9 (⟨i + 1, xst_lay τ9 (xl_r i)⟩) H locs ls ⟨(by omega), xMs_lay hm9 _, fun q => xBk_lay (hb9 q), (by have h9 := lv_sub (l' := [(6, .int (nI (i + 1))), (5, .int (nI ((xsrn (xFM σ) h n i) + 0))), (4, .int (nI (xson (xFM σ) i + 1))), (0, .ref (α 0)), (1, .int (nI h)), (2, .int (nI n)), (3, .int x)]) hl [0, 1, 2, 3, 4, 5, 6] rfl; rw [show nI (xson (xFM σ) i + 1) = nI (xson (xFM σ) (i + 1)) from by rw [xson_s]; first | (rw [if_pos c_27] <;> rfl) | (rw [if_neg c_27] <;> rfl)] at h9; rw [show nI ((xsrn (xFM σ) h n i) + 0) = nI (xsrn (xFM σ) h n (i + 1)) from by rw [xsrn_s]; first | (rw [if_pos ⟨c_27, c_42⟩] <;> rfl) | (rw [if_neg (fun q => c_27 q.1)] <;> rfl) | (rw [if_neg (fun q => c_42 q.2)] <;> rfl)] at h9; exact h9), hP, hS⟩ (by (try dsimp only); omega)
      · refine lv_iconst (v := nI 1) hx hb dX9_chanceOf_45 (by decide) ?_
        refine lv_goto (tgt := 50) hx hb dX9_chanceOf_46 (by decide) ?_
        refine x_iaddN S dX9_chanceOf_50 ?_
        refine lv_istore (lv' := [(5, .int (nI ((xsrn (xFM σ) h n i) + 1))), (4, .int (nI (xson (xFM σ) i + 1))), (6, .int (nI i)), (0, .ref (α 0)), (1, .int (nI h)), (2, .int (nI n)), (3, .int x)]) hx hb dX9_chanceOf_51 hl (by decide) rfl (fun ls hl => ?_)
        refine lv_iinc (v := nI (i + 1)) (lv' := [(6, .int (nI (i + 1))), (5, .int (nI ((xsrn (xFM σ) h n i) + 1))), (4, .int (nI (xson (xFM σ) i + 1))), (0, .ref (α 0)), (1, .int (nI h)), (2, .int (nI n)), (3, .int x)]) hx hb dX9_chanceOf_53 hl (k := 2) rfl (nI_add i 1) (by decide) rfl (fun ls hl => ?_)
        refine lv_goto (tgt := 9) hx hb dX9_chanceOf_56 (by decide) ?_
        exact ih_9 (⟨i + 1, xst_lay τ9 (xl_r i)⟩) H locs ls ⟨(by omega), xMs_lay hm9 _, fun q => xBk_lay (hb9 q), (by have h9 := lv_sub (l' := [(6, .int (nI (i + 1))), (5, .int (nI ((xsrn (xFM σ) h n i) + 1))), (4, .int (nI (xson (xFM σ) i + 1))), (0, .ref (α 0)), (1, .int (nI h)), (2, .int (nI n)), (3, .int x)]) hl [0, 1, 2, 3, 4, 5, 6] rfl; rw [show nI (xson (xFM σ) i + 1) = nI (xson (xFM σ) (i + 1)) from by rw [xson_s]; first | (rw [if_pos c_27] <;> rfl) | (rw [if_neg c_27] <;> rfl)] at h9; rw [show nI ((xsrn (xFM σ) h n i) + 1) = nI (xsrn (xFM σ) h n (i + 1)) from by rw [xsrn_s]; first | (rw [if_pos ⟨c_27, c_42⟩] <;> rfl) | (rw [if_neg (fun q => c_27 q.1)] <;> rfl) | (rw [if_neg (fun q => c_42 q.2)] <;> rfl)] at h9; exact h9), hP, hS⟩ (by (try dsimp only); omega)
set_option maxHeartbeats 4000000 in
set_option maxRecDepth 100000 in
theorem c_X9_bestOfB (l : Launch) {D : va_G} {K : Nat → ClassId} {α : Nat → Nat} (σ : Nat → Nat → Int32) (hI : xw_I 20 α) (h0 : Nat)  (hC : xIM σ) (hh0 : h0 < 6) : Met l yX9_bestOf wsX9_bestOf (xrm 2) (va_Pc [.ref (α 0), .int (nI h0)] (xPre D K 20 α (xM α K) σ)) (xQi D 20 α (xM α K) (fun r τ => r = nI (xl_r (xbi (xE (xFM σ)) 720) h0) ∧ xMs σ τ ∧ (xBk σ → xBk τ))) 0 0 (xw_R 20 α) := by
  refine Met.ofW (cc := cX9_bestOf) (maxL := 7) (ret := (some .int)) (by decide) rfl ?_
  intro p e s m args below meth c s₁ B hml hv
  obtain ⟨rfl, hK, hP⟩ := hv
  have S : CallFix p m c cX9_bestOf 7 s _ wsX9_bestOf RX9 := ⟨B.exec, B.bytes, hml, findClass_of_methodNamed B.named, atoms_spec (ws := wsX9_bestOf) B.pre⟩
  have hx := S.1
  have hb := S.2.1
  have hr := B.returns
  have hlocks := B.notSynchronized
  have hS : va_S (xw_R 20 α) s.heap s.heap [] := va_S.rf
  have hl := lv_entry ([.ref (α 0), .int (nI h0)]) (n := 7) (Nat.le_of_ble_eq_true rfl)
  rw [lg_entry_eq]
  generalize (lg_sl ([.ref (α 0), .int (nI h0)]) ++ List.replicate (7 - (lg_sl ([.ref (α 0), .int (nI h0)])).length) Slot.unset).toArray = ls at hl ⊢
  have hl : lv_has ls 7 [(0, .ref (α 0)), (1, .int (nI h0))] := hl
  have hPP := hP
  have hfe := hC.2.2.2.1
  have hE : ∀ h, h < 6 → ∀ n, n < 6 → xE (xFM σ) h n ≤ 9 := fun h _ n hn => (xE_ok (F := xFM σ) hfe h hn).2
  refine lv_iconst (v := (-1)) hx hb dX9_bestOf_0 (by decide) ?_
  refine lv_istore_n (lv' := [(2, .int (-1 : Int32)), (0, .ref (α 0)), (1, .int (nI h0))]) hx hb dX9_bestOf_1 rfl hl (by decide) rfl (fun ls hl => ?_)
  refine lv_iconst (v := nI 0) hx hb dX9_bestOf_2 (by decide) ?_
  refine lv_istore_n (lv' := [(3, .int (nI 0)), (2, .int (-1 : Int32)), (0, .ref (α 0)), (1, .int (nI h0))]) hx hb dX9_bestOf_3 rfl hl (by decide) rfl (fun ls hl => ?_)
  refine lv_iconst (v := nI 0) hx hb dX9_bestOf_4 (by decide) ?_
  refine lv_istore (lv' := [(4, .int (nI 0)), (3, .int (nI 0)), (2, .int (-1 : Int32)), (0, .ref (α 0)), (1, .int (nI h0))]) hx hb dX9_bestOf_5 hl (by decide) rfl (fun ls hl => ?_)
  refine x_loopW (ι := Nat × (Nat → Nat → Int32)) (fun z9 H locs ls => match z9 with | ⟨i, τ9⟩ => (i ≤ 720) ∧ (xMs σ τ9) ∧ (xBk σ → xBk τ9) ∧ lv_has ls 7 [(4, .int (nI i)), (3, .int (nI (xbi (xE (xFM σ)) i))), (2, .int (xbb (xE (xFM σ)) i)), (0, .ref (α 0)), (1, .int (nI h0))] ∧ va_P D vwCl (xw 20 α (xM α K) τ9) H ∧ va_S (xw_R 20 α) s.heap H locs) (fun z9 => match z9 with | ⟨i, τ9⟩ => 720 - i) ?_ (⟨0, σ⟩) ls ⟨Nat.zero_le _, xMs_rf _, id, lv_sub hl [0, 1, 2, 3, 4] rfl, hP, hS⟩
  intro z9 H locs ls hinv ih_7
  obtain ⟨i, τ9⟩ := z9
  obtain ⟨hi, hm9, hb9, hl, hP, hS⟩ := hinv
  have hl : lv_has ls 7 [(4, .int (nI i)), (3, .int (nI (xbi (xE (xFM σ)) i))), (2, .int (xbb (xE (xFM σ)) i)), (0, .ref (α 0)), (1, .int (nI h0))] := hl
  have hP : va_P D vwCl (xw 20 α (xM α K) τ9) H := hP
  have hq9 := xbi_lt (xE (xFM σ)) i hi
  refine lv_iload hx hb dX9_bestOf_7 (lv_at hl 0 rfl) ?_
  refine lv_sipush (v := nI 720) hx hb dX9_bestOf_9 (by decide) ?_
  refine x_icmpN_ge (tgt := 90) S dX9_bestOf_12 (by decide) (by omega) (by omega) (fun c_12 => ?_) (fun c_12 => ?_)
  · have e9 : i = 720 := by omega
    subst e9
    refine lv_aload_n hx hb dX9_bestOf_90 rfl (lv_at hl 3 rfl) ?_
    refine lv_iload_n hx hb dX9_bestOf_91 rfl (lv_at hl 1 rfl) ?_
    refine x_cVWv (As := [.int (nI (xbi (xE (xFM σ)) 720))]) (rest := []) S hK hP hS (fun _ h => h) 0 (by omega) rfl rfl (c_X9_lays l τ9 hI (xbi (xE (xFM σ)) 720)  hq9) (x_cwV (n0 := 1) (cq := (RX9, TX9, 24)) S gX9_bestOf_X9_lays rfl (by decide +kernel) ⟨Nat.le_of_ble_eq_true rfl, Nat.le_of_ble_eq_true rfl⟩) rfl hl.1 rfl (Nat.le_of_ble_eq_true rfl) dX9_bestOf_92 ⟨Nat.le_refl _, Nat.le_refl _⟩ (fun τ_92 H locs hr_92 hP hk_92 hS => ?_)
    subst hr_92
    refine lv_iload_n hx hb dX9_bestOf_95 rfl (lv_at hl 4 rfl) ?_
    refine lv_iconst (v := (-1)) hx hb dX9_bestOf_96 (by decide) ?_
    refine lv_icmp_ne (tgt := 104) hx hb dX9_bestOf_97 (by decide) (fun _ => ?_) (fun q => absurd q (nI_m1 (by omega)))
    refine lv_aload_n hx hb dX9_bestOf_104 rfl (lv_at hl 3 rfl) ?_
    refine x_get S (fun w h => List.mem_cons_of_mem _ (List.mem_append_right _ h)) hK hP 0 (by omega) rfl rfl 9 (by decide) (List.mem_of_getElem? (i := 1) rfl) rfl dX9_bestOf_105 ?_
    refine lv_iload_n hx hb dX9_bestOf_108 rfl (lv_at hl 4 rfl) ?_
    refine x_iald S hK hP 8 (by omega) rfl (by first | assumption | omega) (by omega) dX9_bestOf_109 ?_
    refine x_top S (y := nI (xl_r (xbi (xE (xFM σ)) 720) h0)) (xlay_8 _ _ hh0) ?_
    exact x_iretW S hlocks hP hS hr rfl (⟨rfl, xMs_lay hm9 _, fun q => xBk_lay (hb9 q)⟩) dX9_bestOf_110
  · have hs54 := xbs_le hE (k := i) (by omega)
    refine lv_aload_n hx hb dX9_bestOf_15 rfl (lv_at hl 3 rfl) ?_
    refine lv_iload hx hb dX9_bestOf_16 (lv_at hl 0 rfl) ?_
    refine x_cVWv (As := [.int (nI i)]) (rest := []) S hK hP hS (fun _ h => h) 0 (by omega) rfl rfl (c_X9_lays l τ9 hI i  (by first | assumption | omega)) (x_cwV (n0 := 1) (cq := (RX9, TX9, 24)) S gX9_bestOf_X9_lays rfl (by decide +kernel) ⟨Nat.le_of_ble_eq_true rfl, Nat.le_of_ble_eq_true rfl⟩) rfl hl.1 rfl (Nat.le_of_ble_eq_true rfl) dX9_bestOf_18 ⟨Nat.le_refl _, Nat.le_refl _⟩ (fun τ_18 H locs hr_18 hP hk_18 hS => ?_)
    subst hr_18
    refine lv_iconst (v := nI 0) hx hb dX9_bestOf_21 (by decide) ?_
    refine lv_istore (lv' := [(5, .int (nI 0)), (4, .int (nI i)), (3, .int (nI (xbi (xE (xFM σ)) i))), (2, .int (xbb (xE (xFM σ)) i)), (0, .ref (α 0)), (1, .int (nI h0))]) hx hb dX9_bestOf_22 hl (by decide) rfl (fun ls hl => ?_)
    refine lv_iconst (v := nI 0) hx hb dX9_bestOf_24 (by decide) ?_
    refine lv_istore (lv' := [(6, .int (nI 0)), (5, .int (nI 0)), (4, .int (nI i)), (3, .int (nI (xbi (xE (xFM σ)) i))), (2, .int (xbb (xE (xFM σ)) i)), (0, .ref (α 0)), (1, .int (nI h0))]) hx hb dX9_bestOf_25 hl (by decide) rfl (fun ls hl => ?_)
    refine x_loopW (ι := Nat) (fun h H locs ls => (h ≤ 6) ∧ lv_has ls 7 [(6, .int (nI h)), (5, .int (nI (fb_sm (fun h => xE (xFM σ) h (xl_r i h)) h))), (4, .int (nI i)), (3, .int (nI (xbi (xE (xFM σ)) i))), (2, .int (xbb (xE (xFM σ)) i)), (0, .ref (α 0)), (1, .int (nI h0))] ∧ va_P D vwCl (xw 20 α (xM α K) (xst_lay τ9 (xl_r i))) H ∧ va_S (xw_R 20 α) s.heap H locs) (fun h => 6 - h) ?_ 0 ls ⟨Nat.zero_le _, lv_sub hl [0, 1, 2, 3, 4, 5, 6] rfl, hP, hS⟩
    intro h H locs ls hinv ih_27
    obtain ⟨hh6, hl, hP, hS⟩ := hinv
    have hl : lv_has ls 7 [(6, .int (nI h)), (5, .int (nI (fb_sm (fun h => xE (xFM σ) h (xl_r i h)) h))), (4, .int (nI i)), (3, .int (nI (xbi (xE (xFM σ)) i))), (2, .int (xbb (xE (xFM σ)) i)), (0, .ref (α 0)), (1, .int (nI h0))] := hl
    have hP : va_P D vwCl (xw 20 α (xM α K) (xst_lay τ9 (xl_r i))) H := hP
    refine lv_iload hx hb dX9_bestOf_27 (lv_at hl 0 rfl) ?_
    refine lv_bipush (v := nI 6) hx hb dX9_bestOf_29 (by decide) ?_
    refine x_icmpN_ge (tgt := 58) S dX9_bestOf_31 (by decide) (by omega) (by omega) (fun c_31 => ?_) (fun c_31 => ?_)
    · have e9 : h = 6 := by omega
      subst e9
      refine lv_iload hx hb dX9_bestOf_58 (lv_at hl 1 rfl) ?_
      refine lv_iload_n hx hb dX9_bestOf_60 rfl (lv_at hl 4 rfl) ?_
      refine lv_icmp_le (tgt := 69) hx hb dX9_bestOf_61 (by decide) (fun c_61 => ?_) (fun c_61 => ?_)
      · have c_61 : ¬ xbb (xE (xFM σ)) i < nI (xbs (xE (xFM σ)) i) := Int32.not_lt.mpr c_61
        refine lv_iload_n hx hb dX9_bestOf_69 rfl (lv_at hl 3 rfl) ?_
        refine lv_istore_n (lv' := [(3, .int (nI (xbi (xE (xFM σ)) i))), (6, .int (nI 6)), (5, .int (nI (xbs (xE (xFM σ)) i))), (4, .int (nI i)), (2, .int (xbb (xE (xFM σ)) i)), (0, .ref (α 0)), (1, .int (nI h0))]) hx hb dX9_bestOf_70 rfl hl (by decide) rfl (fun ls hl => ?_)
        refine lv_iload hx hb dX9_bestOf_71 (lv_at hl 2 rfl) ?_
        refine lv_iload_n hx hb dX9_bestOf_73 rfl (lv_at hl 4 rfl) ?_
        refine lv_icmp_le (tgt := 82) hx hb dX9_bestOf_74 (by decide) (fun c_74 => ?_) (fun c_74 => ?_)
        · refine lv_iload_n hx hb dX9_bestOf_82 rfl (lv_at hl 4 rfl) ?_
          refine lv_istore_n (lv' := [(2, .int (xbb (xE (xFM σ)) i)), (3, .int (nI (xbi (xE (xFM σ)) i))), (6, .int (nI 6)), (5, .int (nI (xbs (xE (xFM σ)) i))), (4, .int (nI i)), (0, .ref (α 0)), (1, .int (nI h0))]) hx hb dX9_bestOf_83 rfl hl (by decide) rfl (fun ls hl => ?_)
          refine lv_iinc (v := nI (i + 1)) (lv' := [(4, .int (nI (i + 1))), (2, .int (xbb (xE (xFM σ)) i)), (3, .int (nI (xbi (xE (xFM σ)) i))), (6, .int (nI 6)), (5, .int (nI (xbs (xE (xFM σ)) i))), (0, .ref (α 0)), (1, .int (nI h0))]) hx hb dX9_bestOf_84 hl (k := 4) rfl (nI_add i 1) (by decide) rfl (fun ls hl => ?_)
          refine lv_goto (tgt := 7) hx hb dX9_bestOf_87 (by decide) ?_
          exact ih_7 (⟨i + 1, xst_lay τ9 (xl_r i)⟩) H locs ls ⟨(by omega), xMs_lay hm9 _, fun q => xBk_lay (hb9 q), (by have h9 := lv_sub (l' := [(4, .int (nI (i + 1))), (3, .int (nI (xbi (xE (xFM σ)) i))), (2, .int (xbb (xE (xFM σ)) i)), (0, .ref (α 0)), (1, .int (nI h0))]) hl [0, 2, 1, 5, 6] rfl; rw [show xbb (xE (xFM σ)) i = xbb (xE (xFM σ)) (i + 1) from by rw [xbb]; first | (rw [if_pos c_61] <;> rfl) | (rw [if_neg c_61] <;> rfl)] at h9; rw [show nI (xbi (xE (xFM σ)) i) = nI (xbi (xE (xFM σ)) (i + 1)) from by rw [xbi]; first | (rw [if_pos c_61] <;> rfl) | (rw [if_neg c_61] <;> rfl)] at h9; exact h9), hP, hS⟩ (by (try dsimp only); omega)
        · exact absurd (Int32.not_le.mp c_74) c_61
      · have c_61 : xbb (xE (xFM σ)) i < nI (xbs (xE (xFM σ)) i) := Int32.not_le.mp c_61
        refine lv_iload hx hb dX9_bestOf_64 (lv_at hl 2 rfl) ?_
        refine lv_goto (tgt := 70) hx hb dX9_bestOf_66 (by decide) ?_
        refine lv_istore_n (lv' := [(3, .int (nI i)), (6, .int (nI 6)), (5, .int (nI (xbs (xE (xFM σ)) i))), (4, .int (nI i)), (2, .int (xbb (xE (xFM σ)) i)), (0, .ref (α 0)), (1, .int (nI h0))]) hx hb dX9_bestOf_70 rfl hl (by decide) rfl (fun ls hl => ?_)
        refine lv_iload hx hb dX9_bestOf_71 (lv_at hl 2 rfl) ?_
        refine lv_iload_n hx hb dX9_bestOf_73 rfl (lv_at hl 4 rfl) ?_
        refine lv_icmp_le (tgt := 82) hx hb dX9_bestOf_74 (by decide) (fun c_74 => ?_) (fun c_74 => ?_)
        · exact absurd c_61 (Int32.not_lt.mpr c_74)
        · refine lv_iload hx hb dX9_bestOf_77 (lv_at hl 2 rfl) ?_
          refine lv_goto (tgt := 83) hx hb dX9_bestOf_79 (by decide) ?_
          refine lv_istore_n (lv' := [(2, .int (nI (xbs (xE (xFM σ)) i))), (3, .int (nI i)), (6, .int (nI 6)), (5, .int (nI (xbs (xE (xFM σ)) i))), (4, .int (nI i)), (0, .ref (α 0)), (1, .int (nI h0))]) hx hb dX9_bestOf_83 rfl hl (by decide) rfl (fun ls hl => ?_)
          refine lv_iinc (v := nI (i + 1)) (lv' := [(4, .int (nI (i + 1))), (2, .int (nI (xbs (xE (xFM σ)) i))), (3, .int (nI i)), (6, .int (nI 6)), (5, .int (nI (xbs (xE (xFM σ)) i))), (0, .ref (α 0)), (1, .int (nI h0))]) hx hb dX9_bestOf_84 hl (k := 4) rfl (nI_add i 1) (by decide) rfl (fun ls hl => ?_)
          refine lv_goto (tgt := 7) hx hb dX9_bestOf_87 (by decide) ?_
          exact ih_7 (⟨i + 1, xst_lay τ9 (xl_r i)⟩) H locs ls ⟨(by omega), xMs_lay hm9 _, fun q => xBk_lay (hb9 q), (by have h9 := lv_sub (l' := [(4, .int (nI (i + 1))), (3, .int (nI i)), (2, .int (nI (xbs (xE (xFM σ)) i))), (0, .ref (α 0)), (1, .int (nI h0))]) hl [0, 2, 1, 5, 6] rfl; rw [show nI (xbs (xE (xFM σ)) i) = xbb (xE (xFM σ)) (i + 1) from by rw [xbb]; first | (rw [if_pos c_61] <;> rfl) | (rw [if_neg c_61] <;> rfl)] at h9; rw [show nI i = nI (xbi (xE (xFM σ)) (i + 1)) from by rw [xbi]; first | (rw [if_pos c_61] <;> rfl) | (rw [if_neg c_61] <;> rfl)] at h9; exact h9), hP, hS⟩ (by (try dsimp only); omega)
    · have hw9 := xl_r_lt (k := i) (h := h) (by omega) (by omega)
      refine lv_iload hx hb dX9_bestOf_34 (lv_at hl 1 rfl) ?_
      refine lv_aload_n hx hb dX9_bestOf_36 rfl (lv_at hl 5 rfl) ?_
      refine lv_iload hx hb dX9_bestOf_37 (lv_at hl 0 rfl) ?_
      refine lv_aload_n hx hb dX9_bestOf_39 rfl (lv_at hl 5 rfl) ?_
      refine x_get S (fun w h => List.mem_cons_of_mem _ (List.mem_append_right _ h)) hK hP 0 (by omega) rfl rfl 9 (by decide) (List.mem_of_getElem? (i := 1) rfl) rfl dX9_bestOf_40 ?_
      refine lv_iload hx hb dX9_bestOf_43 (lv_at hl 0 rfl) ?_
      refine x_iald S hK hP 8 (by omega) rfl (by first | assumption | omega) (by omega) dX9_bestOf_45 ?_
      refine x_top S (y := nI (xl_r i h)) (xlay_8 _ _ (by omega)) ?_
      refine x_cVRi (As := [.int (nI h), .int (nI (xl_r i h))]) (rest := [.int (nI (fb_sm (fun h => xE (xFM σ) h (xl_r i h)) h))]) S hK hP 0 (by omega) rfl rfl (c_X9_earns l (xst_lay τ9 (xl_r i)) h (xl_r i h)  (by first | assumption | omega) (by first | assumption | omega)) (x_cwV (n0 := 2) (cq := (RX9, TX9, 24)) S gX9_bestOf_X9_earns rfl (by decide +kernel) ⟨Nat.le_of_ble_eq_true rfl, Nat.le_of_ble_eq_true rfl⟩) rfl hl.1 rfl (Nat.le_of_ble_eq_true rfl) dX9_bestOf_46 ⟨Nat.le_refl _, Nat.le_refl _⟩ (fun r_46 hr_46 => ?_)
      subst hr_46
      refine x_top S (y := nI (xE (xFM σ) h (xl_r i h))) (by rw [xMs_F (xMs_lay hm9 _)]; exact (xE_ok (F := xFM σ) hfe h hw9).1) ?_
      refine x_iaddN S dX9_bestOf_49 ?_
      refine lv_istore (lv' := [(5, .int (nI ((fb_sm (fun h => xE (xFM σ) h (xl_r i h)) h) + (xE (xFM σ) h (xl_r i h))))), (6, .int (nI h)), (4, .int (nI i)), (3, .int (nI (xbi (xE (xFM σ)) i))), (2, .int (xbb (xE (xFM σ)) i)), (0, .ref (α 0)), (1, .int (nI h0))]) hx hb dX9_bestOf_50 hl (by decide) rfl (fun ls hl => ?_)
      refine lv_iinc (v := nI (h + 1)) (lv' := [(6, .int (nI (h + 1))), (5, .int (nI ((fb_sm (fun h => xE (xFM σ) h (xl_r i h)) h) + (xE (xFM σ) h (xl_r i h))))), (4, .int (nI i)), (3, .int (nI (xbi (xE (xFM σ)) i))), (2, .int (xbb (xE (xFM σ)) i)), (0, .ref (α 0)), (1, .int (nI h0))]) hx hb dX9_bestOf_52 hl (k := 1) rfl (nI_add h 1) (by decide) rfl (fun ls hl => ?_)
      refine lv_goto (tgt := 27) hx hb dX9_bestOf_55 (by decide) ?_
      exact ih_27 (h + 1) H locs ls ⟨(by omega), lv_sub hl [0, 1, 2, 3, 4, 5, 6] rfl, hP, hS⟩ (by (try dsimp only); omega)
set_option maxHeartbeats 4000000 in
set_option maxRecDepth 100000 in
theorem c_X9_lotOfB (l : Launch) {D : va_G} {K : Nat → ClassId} {α : Nat → Nat} (σ : Nat → Nat → Int32) (hI : xw_I 20 α) (seed : Int32) (g : Nat)  (hg : g < 6) : Met l yX9_lotOf wsX9_lotOf (xrm 1) (va_Pc [.ref (α 0), .int seed, .int (nI g)] (xPre D K 20 α (xM α K) σ)) (xQi D 20 α (xM α K) (fun r τ => r = nI (xlt_d seed g) ∧ xMs σ τ ∧ (xBk σ → xBk τ))) 0 0 (xw_R 20 α) := by
  refine Met.ofW (cc := cX9_lotOf) (maxL := 8) (ret := (some .int)) (by decide) rfl ?_
  intro p e s m args below meth c s₁ B hml hv
  obtain ⟨rfl, hK, hP⟩ := hv
  have S : CallFix p m c cX9_lotOf 8 s _ wsX9_lotOf RX9 := ⟨B.exec, B.bytes, hml, findClass_of_methodNamed B.named, atoms_spec (ws := wsX9_lotOf) B.pre⟩
  have hx := S.1
  have hb := S.2.1
  have hr := B.returns
  have hlocks := B.notSynchronized
  have hS : va_S (xw_R 20 α) s.heap s.heap [] := va_S.rf
  have hl := lv_entry ([.ref (α 0), .int seed, .int (nI g)]) (n := 8) (Nat.le_of_ble_eq_true rfl)
  rw [lg_entry_eq]
  generalize (lg_sl ([.ref (α 0), .int seed, .int (nI g)]) ++ List.replicate (8 - (lg_sl ([.ref (α 0), .int seed, .int (nI g)])).length) Slot.unset).toArray = ls at hl ⊢
  have hl : lv_has ls 8 [(0, .ref (α 0)), (1, .int seed), (2, .int (nI g))] := hl
  have hPP := hP
  refine lv_iload_n hx hb dX9_lotOf_0 rfl (lv_at hl 1 rfl) ?_
  refine lv_istore_n (lv' := [(3, .int seed), (0, .ref (α 0)), (1, .int seed), (2, .int (nI g))]) hx hb dX9_lotOf_1 rfl hl (by decide) rfl (fun ls hl => ?_)
  refine lv_iconst (v := nI 0) hx hb dX9_lotOf_2 (by decide) ?_
  refine lv_istore (lv' := [(4, .int (nI 0)), (3, .int seed), (0, .ref (α 0)), (1, .int seed), (2, .int (nI g))]) hx hb dX9_lotOf_3 hl (by decide) rfl (fun ls hl => ?_)
  refine lv_iconst (v := nI 0) hx hb dX9_lotOf_5 (by decide) ?_
  refine lv_istore (lv' := [(5, .int (nI 0)), (4, .int (nI 0)), (3, .int seed), (0, .ref (α 0)), (1, .int seed), (2, .int (nI g))]) hx hb dX9_lotOf_6 hl (by decide) rfl (fun ls hl => ?_)
  refine x_loopW (ι := Nat) (fun h H locs ls => (h ≤ 6) ∧ lv_has ls 8 [(5, .int (nI h)), (4, .int (nI (xmu seed h))), (3, .int (xlt_n seed h)), (0, .ref (α 0)), (1, .int seed), (2, .int (nI g))] ∧ va_P D vwCl (xw 20 α (xM α K) (va_up σ 8 (fa_fill (fun h => nI (xlt_d seed h)) (σ 8) h))) H ∧ va_S (xw_R 20 α) s.heap H locs) (fun h => 6 - h) ?_ 0 ls ⟨Nat.zero_le _, lv_sub hl [0, 1, 2, 3, 4, 5] rfl, (by rw [fa_fill_0, xup_id]; exact hP), hS⟩
  intro h H locs ls hinv ih_8
  obtain ⟨hh6, hl, hP, hS⟩ := hinv
  have hl : lv_has ls 8 [(5, .int (nI h)), (4, .int (nI (xmu seed h))), (3, .int (xlt_n seed h)), (0, .ref (α 0)), (1, .int seed), (2, .int (nI g))] := hl
  have hP : va_P D vwCl (xw 20 α (xM α K) (va_up σ 8 (fa_fill (fun h => nI (xlt_d seed h)) (σ 8) h))) H := hP
  refine lv_iload hx hb dX9_lotOf_8 (lv_at hl 0 rfl) ?_
  refine lv_bipush (v := nI 6) hx hb dX9_lotOf_10 (by decide) ?_
  refine x_icmpN_ge (tgt := 104) S dX9_lotOf_12 (by decide) (by omega) (by omega) (fun c_12 => ?_) (fun c_12 => ?_)
  · have e9 : h = 6 := by omega
    subst e9
    refine lv_aload_n hx hb dX9_lotOf_104 rfl (lv_at hl 3 rfl) ?_
    refine x_get S (fun w h => List.mem_cons_of_mem _ (List.mem_append_right _ h)) hK hP 0 (by omega) rfl rfl 9 (by decide) (List.mem_of_getElem? (i := 2) rfl) rfl dX9_lotOf_105 ?_
    refine lv_iload_n hx hb dX9_lotOf_108 rfl (lv_at hl 5 rfl) ?_
    refine x_iald S hK hP 8 (by omega) rfl (by first | assumption | omega) (by omega) dX9_lotOf_109 ?_
    refine x_top S (y := nI (xlt_d seed g)) (by rw [xup_s, fa_fill_in hg]) ?_
    exact x_iretW S hlocks hP hS hr rfl (⟨rfl, xMs_8, xBk_8 (fun k hk => xup_n _ _ hk)⟩) dX9_lotOf_110
  · obtain ⟨hu9, hm9⟩ := xmu_inv seed (i := h) (by omega)
    obtain ⟨hq1, hq2⟩ := xlt_inv seed (i := h) (by omega)
    have hq4 := xlt_u_lt (xlt_n seed (h + 1))
    have hs2 : (xlt_u (xlt_n seed (h + 1)) % (6 - h)) < 6 - h := Nat.mod_lt _ (by omega)
    have hc9 : xct (63 ^^^ xmu seed h) 6 = 6 - h := by rw [hm9, hq2]
    refine lv_ldc hx hb S.2.2.2.1 (S.2.2.2.2 (.constant RX9 173 (1103515245)) (List.mem_of_getElem? (i := 1) rfl)) dX9_lotOf_15 ?_
    refine lv_iload_n hx hb dX9_lotOf_17 rfl (lv_at hl 2 rfl) ?_
    refine lv_imul hx hb dX9_lotOf_18 ?_
    refine lv_sipush (v := nI 12345) hx hb dX9_lotOf_19 (by decide) ?_
    refine lv_iadd hx hb dX9_lotOf_22 ?_
    refine x_top S (y := xlt_n seed (h + 1)) (rfl) ?_
    refine lv_istore_n (lv' := [(3, .int (xlt_n seed (h + 1))), (5, .int (nI h)), (4, .int (nI (xmu seed h))), (0, .ref (α 0)), (1, .int seed), (2, .int (nI g))]) hx hb dX9_lotOf_23 rfl hl (by decide) rfl (fun ls hl => ?_)
    refine lv_iload_n hx hb dX9_lotOf_24 rfl (lv_at hl 0 rfl) ?_
    refine lv_bipush (v := nI 16) hx hb dX9_lotOf_25 (by decide) ?_
    refine lv_iushr hx hb dX9_lotOf_27 rfl ?_
    refine x_top S (y := nI (xlt_u (xlt_n seed (h + 1)))) (xush16 _) ?_
    refine lv_bipush (v := nI 6) hx hb dX9_lotOf_28 (by decide) ?_
    refine lv_iload hx hb dX9_lotOf_30 (lv_at hl 1 rfl) ?_
    refine x_isubN S (by first | assumption | omega) dX9_lotOf_32 ?_
    refine x_iremN S (by omega) (by omega) (by omega) dX9_lotOf_33 ?_
    refine lv_istore (lv' := [(6, .int (nI ((xlt_u (xlt_n seed (h + 1))) % (6 - h)))), (3, .int (xlt_n seed (h + 1))), (5, .int (nI h)), (4, .int (nI (xmu seed h))), (0, .ref (α 0)), (1, .int seed), (2, .int (nI g))]) hx hb dX9_lotOf_34 hl (by decide) rfl (fun ls hl => ?_)
    refine lv_iconst (v := nI 0) hx hb dX9_lotOf_36 (by decide) ?_
    refine lv_istore (lv' := [(7, .int (nI 0)), (6, .int (nI ((xlt_u (xlt_n seed (h + 1))) % (6 - h)))), (3, .int (xlt_n seed (h + 1))), (5, .int (nI h)), (4, .int (nI (xmu seed h))), (0, .ref (α 0)), (1, .int seed), (2, .int (nI g))]) hx hb dX9_lotOf_37 hl (by decide) rfl (fun ls hl => ?_)
    refine x_loopW (ι := Nat) (fun i H locs ls => (i < 6) ∧ (xct (63 ^^^ xmu seed h) i ≤ (xlt_u (xlt_n seed (h + 1)) % (6 - h))) ∧ lv_has ls 8 [(7, .int (nI i)), (6, .int (nI ((xlt_u (xlt_n seed (h + 1)) % (6 - h)) - xct (63 ^^^ xmu seed h) i))), (3, .int (xlt_n seed (h + 1))), (5, .int (nI h)), (4, .int (nI (xmu seed h))), (0, .ref (α 0)), (1, .int seed), (2, .int (nI g))] ∧ va_P D vwCl (xw 20 α (xM α K) (va_up σ 8 (fa_fill (fun h => nI (xlt_d seed h)) (σ 8) h))) H ∧ va_S (xw_R 20 α) s.heap H locs) (fun i => 6 - i) ?_ 0 ls ⟨(by omega), Nat.zero_le _, lv_sub hl [0, 1, 2, 3, 4, 5, 6, 7] rfl, hP, hS⟩
    intro i H locs ls hinv ih_39
    obtain ⟨hi5, hct, hl, hP, hS⟩ := hinv
    have hl : lv_has ls 8 [(7, .int (nI i)), (6, .int (nI ((xlt_u (xlt_n seed (h + 1)) % (6 - h)) - xct (63 ^^^ xmu seed h) i))), (3, .int (xlt_n seed (h + 1))), (5, .int (nI h)), (4, .int (nI (xmu seed h))), (0, .ref (α 0)), (1, .int seed), (2, .int (nI g))] := hl
    have hP : va_P D vwCl (xw 20 α (xM α K) (va_up σ 8 (fa_fill (fun h => nI (xlt_d seed h)) (σ 8) h))) H := hP
    refine lv_iload hx hb dX9_lotOf_39 (lv_at hl 4 rfl) ?_
    refine lv_iload hx hb dX9_lotOf_41 (lv_at hl 0 rfl) ?_
    refine x_cSi (As := [.int (nI (xmu seed h)), .int (nI i)]) (rest := []) S (c_X9_isIn l (nI (xmu seed h)) (nI i)  ) (x_cwS (n0 := 2) S gX9_lotOf_X9_isIn rfl (by decide +kernel) ⟨Nat.le_of_ble_eq_true rfl, Nat.le_of_ble_eq_true rfl⟩) rfl hl.1 rfl (Nat.le_of_ble_eq_true rfl) dX9_lotOf_43 ⟨Nat.le_refl _, Nat.le_refl _⟩ (fun r_43 hr_43 => ?_)
    subst hr_43
    refine x_if_neB (tgt := 54) S dX9_lotOf_46 (by decide) (fun c_46 => ?_) (fun c_46 => ?_)
    · have hb1 : ¬ (63 ^^^ xmu seed h).testBit i = true := by
        rw [x63_bit hu9 (by omega), (xis_I hu9 (by omega)).mp c_46]
        decide
      refine lv_iload hx hb dX9_lotOf_54 (lv_at hl 1 rfl) ?_
      refine lv_iload hx hb dX9_lotOf_56 (lv_at hl 4 rfl) ?_
      refine lv_iload hx hb dX9_lotOf_58 (lv_at hl 0 rfl) ?_
      refine x_cSi (As := [.int (nI (xmu seed h)), .int (nI i)]) (rest := [.int (nI ((xlt_u (xlt_n seed (h + 1)) % (6 - h)) - xct (63 ^^^ xmu seed h) i))]) S (c_X9_isIn l (nI (xmu seed h)) (nI i)  ) (x_cwS (n0 := 2) S gX9_lotOf_X9_isIn rfl (by decide +kernel) ⟨Nat.le_of_ble_eq_true rfl, Nat.le_of_ble_eq_true rfl⟩) rfl hl.1 rfl (Nat.le_of_ble_eq_true rfl) dX9_lotOf_60 ⟨Nat.le_refl _, Nat.le_refl _⟩ (fun r_60 hr_60 => ?_)
      subst hr_60
      refine x_if_eqB (tgt := 70) S dX9_lotOf_63 (by decide) (fun c_63 => ?_) (fun c_63 => ?_)
      · exact absurd c_46 c_63
      · refine lv_iconst (v := nI 0) hx hb dX9_lotOf_66 (by decide) ?_
        refine lv_goto (tgt := 71) hx hb dX9_lotOf_67 (by decide) ?_
        refine x_isubN S (by first | assumption | omega) dX9_lotOf_71 ?_
        refine lv_istore (lv' := [(6, .int (nI (((xlt_u (xlt_n seed (h + 1)) % (6 - h)) - xct (63 ^^^ xmu seed h) i) - 0))), (7, .int (nI i)), (3, .int (xlt_n seed (h + 1))), (5, .int (nI h)), (4, .int (nI (xmu seed h))), (0, .ref (α 0)), (1, .int seed), (2, .int (nI g))]) hx hb dX9_lotOf_72 hl (by decide) rfl (fun ls hl => ?_)
        refine lv_iinc (v := nI (i + 1)) (lv' := [(7, .int (nI (i + 1))), (6, .int (nI (((xlt_u (xlt_n seed (h + 1)) % (6 - h)) - xct (63 ^^^ xmu seed h) i) - 0))), (3, .int (xlt_n seed (h + 1))), (5, .int (nI h)), (4, .int (nI (xmu seed h))), (0, .ref (α 0)), (1, .int seed), (2, .int (nI g))]) hx hb dX9_lotOf_74 hl (k := 1) rfl (nI_add i 1) (by decide) rfl (fun ls hl => ?_)
        refine lv_goto (tgt := 39) hx hb dX9_lotOf_77 (by decide) ?_
        have hs9 : xct (63 ^^^ xmu seed h) (i + 1) = xct (63 ^^^ xmu seed h) i + 0 := by rw [xct_s, if_neg hb1]
        have hi9 : i + 1 ≠ 6 := fun q => by rw [q] at hs9; omega
        exact ih_39 (i + 1) H locs ls ⟨(by omega), (by omega), (by have h9 := lv_sub (l' := [(7, .int (nI (i + 1))), (6, .int (nI (((xlt_u (xlt_n seed (h + 1)) % (6 - h)) - xct (63 ^^^ xmu seed h) i) - 0))), (3, .int (xlt_n seed (h + 1))), (5, .int (nI h)), (4, .int (nI (xmu seed h))), (0, .ref (α 0)), (1, .int seed), (2, .int (nI g))]) hl [0, 1, 2, 3, 4, 5, 6, 7] rfl; rw [show nI (((xlt_u (xlt_n seed (h + 1)) % (6 - h)) - xct (63 ^^^ xmu seed h) i) - 0) = nI ((xlt_u (xlt_n seed (h + 1)) % (6 - h)) - xct (63 ^^^ xmu seed h) (i + 1)) from congrArg nI (by omega)] at h9; exact h9), hP, hS⟩ (by (try dsimp only); omega)
    · have hb0 : ¬ (xmu seed h).testBit i = true := fun q => c_46 ((xis_I hu9 (by omega)).mpr q)
      have hb1 : (63 ^^^ xmu seed h).testBit i = true := by
        rw [x63_bit hu9 (by omega)]
        simpa using hb0
      refine lv_iload hx hb dX9_lotOf_49 (lv_at hl 1 rfl) ?_
      refine x_ifN_le (tgt := 80) S dX9_lotOf_51 (by decide) (by omega) (fun c_51 => ?_) (fun c_51 => ?_)
      · have hx9 : xlt_d seed h = i := by
          unfold xlt_d xna
          rw [← hm9]
          exact xfst_at (fun j hj q => by
            have h1 : xct (63 ^^^ xmu seed h) (j + 1) ≤ xct (63 ^^^ xmu seed h) i := fb_ct_mono _ (by omega)
            have h2 : xct (63 ^^^ xmu seed h) (j + 1) = xct (63 ^^^ xmu seed h) j + 1 := by rw [xct_s, if_pos q.1]
            omega) ⟨hb1, by omega⟩ hi5
        refine lv_aload_n hx hb dX9_lotOf_80 rfl (lv_at hl 5 rfl) ?_
        refine x_get S (fun w h => List.mem_cons_of_mem _ (List.mem_append_right _ h)) hK hP 0 (by omega) rfl rfl 9 (by decide) (List.mem_of_getElem? (i := 2) rfl) rfl dX9_lotOf_81 ?_
        refine lv_iload hx hb dX9_lotOf_84 (lv_at hl 3 rfl) ?_
        refine lv_iload hx hb dX9_lotOf_86 (lv_at hl 0 rfl) ?_
        refine x_iast S hK hP hI hS 8 (by omega) (fun _ => rfl) (by first | assumption | omega) (by omega) dX9_lotOf_88 (fun H locs hP hS => ?_)
        have hP : va_P D vwCl (xw 20 α (xM α K) (va_up σ 8 (fa_fill (fun h => nI (xlt_d seed h)) (σ 8) (h + 1)))) H := by
          rw [show va_up σ 8 (fa_fill (fun h => nI (xlt_d seed h)) (σ 8) (h + 1)) = (va_up (va_up σ 8 (fa_fill (fun h => nI (xlt_d seed h)) (σ 8) h)) 8 (upd ((va_up σ 8 (fa_fill (fun h => nI (xlt_d seed h)) (σ 8) h)) 8) h (nI i))) from by rw [bx_uu, xup_s, ← fa_fill_succ, hx9]]; exact hP
        refine lv_iload hx hb dX9_lotOf_89 (lv_at hl 4 rfl) ?_
        refine lv_iconst (v := nI 1) hx hb dX9_lotOf_91 (by decide) ?_
        refine lv_iload hx hb dX9_lotOf_92 (lv_at hl 0 rfl) ?_
        refine lv_ishl hx hb dX9_lotOf_94 ?_
        refine lv_ior hx hb dX9_lotOf_95 ?_
        refine x_top S (y := nI (xmu seed (h + 1))) (by rw [xor_I (by omega), xmu, hx9]) ?_
        refine lv_istore (lv' := [(4, .int (nI (xmu seed (h + 1)))), (7, .int (nI i)), (6, .int (nI ((xlt_u (xlt_n seed (h + 1)) % (6 - h)) - xct (63 ^^^ xmu seed h) i))), (3, .int (xlt_n seed (h + 1))), (5, .int (nI h)), (0, .ref (α 0)), (1, .int seed), (2, .int (nI g))]) hx hb dX9_lotOf_96 hl (by decide) rfl (fun ls hl => ?_)
        refine lv_iinc (v := nI (h + 1)) (lv' := [(5, .int (nI (h + 1))), (4, .int (nI (xmu seed (h + 1)))), (7, .int (nI i)), (6, .int (nI ((xlt_u (xlt_n seed (h + 1)) % (6 - h)) - xct (63 ^^^ xmu seed h) i))), (3, .int (xlt_n seed (h + 1))), (0, .ref (α 0)), (1, .int seed), (2, .int (nI g))]) hx hb dX9_lotOf_98 hl (k := 4) rfl (nI_add h 1) (by decide) rfl (fun ls hl => ?_)
        refine lv_goto (tgt := 8) hx hb dX9_lotOf_101 (by decide) ?_
        exact ih_8 (h + 1) H locs ls ⟨(by omega), lv_sub hl [0, 1, 4, 5, 6, 7] rfl, hP, hS⟩ (by (try dsimp only); omega)
      · refine lv_iload hx hb dX9_lotOf_54 (lv_at hl 1 rfl) ?_
        refine lv_iload hx hb dX9_lotOf_56 (lv_at hl 4 rfl) ?_
        refine lv_iload hx hb dX9_lotOf_58 (lv_at hl 0 rfl) ?_
        refine x_cSi (As := [.int (nI (xmu seed h)), .int (nI i)]) (rest := [.int (nI ((xlt_u (xlt_n seed (h + 1)) % (6 - h)) - xct (63 ^^^ xmu seed h) i))]) S (c_X9_isIn l (nI (xmu seed h)) (nI i)  ) (x_cwS (n0 := 2) S gX9_lotOf_X9_isIn rfl (by decide +kernel) ⟨Nat.le_of_ble_eq_true rfl, Nat.le_of_ble_eq_true rfl⟩) rfl hl.1 rfl (Nat.le_of_ble_eq_true rfl) dX9_lotOf_60 ⟨Nat.le_refl _, Nat.le_refl _⟩ (fun r_60 hr_60 => ?_)
        subst hr_60
        refine x_if_eqB (tgt := 70) S dX9_lotOf_63 (by decide) (fun c_63 => ?_) (fun c_63 => ?_)
        · refine lv_iconst (v := nI 1) hx hb dX9_lotOf_70 (by decide) ?_
          refine x_isubN S (by first | assumption | omega) dX9_lotOf_71 ?_
          refine lv_istore (lv' := [(6, .int (nI (((xlt_u (xlt_n seed (h + 1)) % (6 - h)) - xct (63 ^^^ xmu seed h) i) - 1))), (7, .int (nI i)), (3, .int (xlt_n seed (h + 1))), (5, .int (nI h)), (4, .int (nI (xmu seed h))), (0, .ref (α 0)), (1, .int seed), (2, .int (nI g))]) hx hb dX9_lotOf_72 hl (by decide) rfl (fun ls hl => ?_)
          refine lv_iinc (v := nI (i + 1)) (lv' := [(7, .int (nI (i + 1))), (6, .int (nI (((xlt_u (xlt_n seed (h + 1)) % (6 - h)) - xct (63 ^^^ xmu seed h) i) - 1))), (3, .int (xlt_n seed (h + 1))), (5, .int (nI h)), (4, .int (nI (xmu seed h))), (0, .ref (α 0)), (1, .int seed), (2, .int (nI g))]) hx hb dX9_lotOf_74 hl (k := 1) rfl (nI_add i 1) (by decide) rfl (fun ls hl => ?_)
          refine lv_goto (tgt := 39) hx hb dX9_lotOf_77 (by decide) ?_
          have hs9 : xct (63 ^^^ xmu seed h) (i + 1) = xct (63 ^^^ xmu seed h) i + 1 := by rw [xct_s, if_pos hb1]
          have hi9 : i + 1 ≠ 6 := fun q => by rw [q] at hs9; omega
          exact ih_39 (i + 1) H locs ls ⟨(by omega), (by omega), (by have h9 := lv_sub (l' := [(7, .int (nI (i + 1))), (6, .int (nI (((xlt_u (xlt_n seed (h + 1)) % (6 - h)) - xct (63 ^^^ xmu seed h) i) - 1))), (3, .int (xlt_n seed (h + 1))), (5, .int (nI h)), (4, .int (nI (xmu seed h))), (0, .ref (α 0)), (1, .int seed), (2, .int (nI g))]) hl [0, 1, 2, 3, 4, 5, 6, 7] rfl; rw [show nI (((xlt_u (xlt_n seed (h + 1)) % (6 - h)) - xct (63 ^^^ xmu seed h) i) - 1) = nI ((xlt_u (xlt_n seed (h + 1)) % (6 - h)) - xct (63 ^^^ xmu seed h) (i + 1)) from congrArg nI (by omega)] at h9; exact h9), hP, hS⟩ (by (try dsimp only); omega)
        · exact absurd c_63 c_46
set_option maxHeartbeats 4000000 in
set_option maxRecDepth 100000 in
theorem c_X9_owedOfB (l : Launch) {D : va_G} {K : Nat → ClassId} {α : Nat → Nat} (σ : Nat → Nat → Int32) (hI : xw_I 20 α) (h : Nat) (law : Nat)  (hC : xIM σ) (hh : h < 6) (hlaw : law < 3) : Met l yX9_owedOf wsX9_owedOf (xrm 3) (va_Pc [.ref (α 0), .int (nI h), .int (nI law)] (xPre D K 20 α (xM α K) σ)) (xQi D 20 α (xM α K) (fun r τ => r = xs_owed (σ 6) (xYM σ) (σ 9) (σ 10) (σ 11) h law (xcM σ) ∧ xMs σ τ ∧ (xBk σ → xBk τ))) 0 0 (xw_R 20 α) := by
  refine Met.ofW (cc := cX9_owedOf) (maxL := 7) (ret := (some .int)) (by decide) rfl ?_
  intro p e s m args below meth c s₁ B hml hv
  obtain ⟨rfl, hK, hP⟩ := hv
  have S : CallFix p m c cX9_owedOf 7 s _ wsX9_owedOf RX9 := ⟨B.exec, B.bytes, hml, findClass_of_methodNamed B.named, atoms_spec (ws := wsX9_owedOf) B.pre⟩
  have hx := S.1
  have hb := S.2.1
  have hr := B.returns
  have hlocks := B.notSynchronized
  have hS : va_S (xw_R 20 α) s.heap s.heap [] := va_S.rf
  have hl := lv_entry ([.ref (α 0), .int (nI h), .int (nI law)]) (n := 7) (Nat.le_of_ble_eq_true rfl)
  rw [lg_entry_eq]
  generalize (lg_sl ([.ref (α 0), .int (nI h), .int (nI law)]) ++ List.replicate (7 - (lg_sl ([.ref (α 0), .int (nI h), .int (nI law)])).length) Slot.unset).toArray = ls at hl ⊢
  have hl : lv_has ls 7 [(0, .ref (α 0)), (1, .int (nI h)), (2, .int (nI law))] := hl
  have hPP := hP
  have hY := xIM_Y hC
  have hY12 := xIM_12 hC
  obtain ⟨⟨hL, hL9⟩, ⟨hcs, hcn, hc1, hc2⟩, ⟨hss, hsn, hs1, hs2⟩, hfe, hsh⟩ := id hC
  generalize hLe : xLM σ = L at hL hL9 ⊢
  generalize hYe : xYM σ = Y at hY hY12 ⊢
  generalize hcne : xcM σ = cn at hcs hcn hc1 hc2 ⊢
  generalize hsne : xsM σ = sn at hss hsn hs1 hs2 ⊢
  refine lv_aload_n hx hb dX9_owedOf_0 rfl (lv_at hl 0 rfl) ?_
  refine x_cVWi (As := []) (rest := []) S hK hP hS (fun _ h => h) 0 (by omega) rfl rfl (c_X9_faultNow l σ hI   (by first | assumption | omega)) (x_cwV (n0 := 0) (cq := (RX9, TX9, 24)) S gX9_owedOf_X9_faultNow rfl (by decide +kernel) ⟨Nat.le_of_ble_eq_true rfl, Nat.le_of_ble_eq_true rfl⟩) rfl hl.1 rfl (Nat.le_of_ble_eq_true rfl) dX9_owedOf_1 ⟨Nat.le_refl _, Nat.le_refl _⟩ (fun r_1 τ_1 H locs hr_1 hP hk_1 hS => ?_)
  obtain ⟨hr_1, hms_1, hbk_1⟩ := hr_1
  subst hr_1
  obtain ⟨hyr, hbk⟩ := xBk_of hms_1 hbk_1
  have eF := xMs_F hms_1
  have e6 : τ_1 6 = σ 6 := xMs_k hms_1 (by decide)
  have hC2 := xMs_IM hms_1 hC
  have e9 : τ_1 9 = σ 9 := xMs_k hms_1 (by decide)
  have e10 : τ_1 10 = σ 10 := xMs_k hms_1 (by decide)
  have e11 : τ_1 11 = σ 11 := xMs_k hms_1 (by decide)
  rw [hYe] at hyr hbk
  refine lv_istore_n (lv' := [(3, .int (xt_fault (σ 6) (xLM σ))), (0, .ref (α 0)), (1, .int (nI h)), (2, .int (nI law))]) hx hb dX9_owedOf_4 rfl hl (by decide) rfl (fun ls hl => ?_)
  refine lv_iconst (v := nI 0) hx hb dX9_owedOf_5 (by decide) ?_
  refine lv_istore (lv' := [(4, .int (nI 0)), (3, .int (xt_fault (σ 6) (xLM σ))), (0, .ref (α 0)), (1, .int (nI h)), (2, .int (nI law))]) hx hb dX9_owedOf_6 hl (by decide) rfl (fun ls hl => ?_)
  refine lv_iconst (v := nI 0) hx hb dX9_owedOf_8 (by decide) ?_
  refine lv_istore (lv' := [(5, .int (nI 0)), (4, .int (nI 0)), (3, .int (xt_fault (σ 6) (xLM σ))), (0, .ref (α 0)), (1, .int (nI h)), (2, .int (nI law))]) hx hb dX9_owedOf_9 hl (by decide) rfl (fun ls hl => ?_)
  refine x_loopW (ι := Nat) (fun i H locs ls => (i ≤ cn) ∧ lv_has ls 7 [(5, .int (nI i)), (4, .int (xs_owed (σ 6) Y (σ 9) (σ 10) (σ 11) h law i)), (3, .int (xt_fault (σ 6) (xLM σ))), (0, .ref (α 0)), (1, .int (nI h)), (2, .int (nI law))] ∧ va_P D vwCl (xw 20 α (xM α K) τ_1) H ∧ va_S (xw_R 20 α) s.heap H locs) (fun i => cn - i) ?_ 0 ls ⟨Nat.zero_le _, lv_sub hl [0, 1, 2, 3, 4, 5] rfl, hP, hS⟩
  intro i H locs ls hinv ih_11
  obtain ⟨hi, hl, hP, hS⟩ := hinv
  have hl : lv_has ls 7 [(5, .int (nI i)), (4, .int (xs_owed (σ 6) Y (σ 9) (σ 10) (σ 11) h law i)), (3, .int (xt_fault (σ 6) (xLM σ))), (0, .ref (α 0)), (1, .int (nI h)), (2, .int (nI law))] := hl
  have hP : va_P D vwCl (xw 20 α (xM α K) τ_1) H := hP
  refine lv_iload hx hb dX9_owedOf_11 (lv_at hl 0 rfl) ?_
  refine lv_aload_n hx hb dX9_owedOf_13 rfl (lv_at hl 3 rfl) ?_
  refine x_get S (fun w h => List.mem_cons_of_mem _ (List.mem_append_right _ h)) hK hP 0 (by omega) rfl rfl 10 (by decide) (List.mem_of_getElem? (i := 1) rfl) rfl dX9_owedOf_14 ?_
  refine x_top S (y := nI cn) (by rw [hms_1.2 10 (by decide)]; exact hcs) ?_
  refine x_icmpN_ge (tgt := 142) S dX9_owedOf_17 (by decide) (by omega) (by omega) (fun c_17 => ?_) (fun c_17 => ?_)
  · have e8 : i = cn := by omega
    subst e8
    refine lv_iload hx hb dX9_owedOf_142 (lv_at hl 1 rfl) ?_
    exact x_iretW S hlocks hP hS hr rfl (⟨rfl, hms_1, fun _ => hbk_1⟩) dX9_owedOf_144
  · have hq1 := hc1 i (by omega)
    have hq2 := hc2 i (by omega)
    refine lv_aload_n hx hb dX9_owedOf_20 rfl (lv_at hl 3 rfl) ?_
    refine x_get S (fun w h => List.mem_cons_of_mem _ (List.mem_append_right _ h)) hK hP 0 (by omega) rfl rfl 12 (by decide) (List.mem_of_getElem? (i := 2) rfl) rfl dX9_owedOf_21 ?_
    refine lv_iload hx hb dX9_owedOf_24 (lv_at hl 0 rfl) ?_
    refine x_iald S hK hP 10 (by omega) rfl (by first | assumption | omega) (by omega) dX9_owedOf_26 ?_
    refine x_top S (y := nI (xnat (σ 10) i)) (by rw [e10]; exact hq2.2) ?_
    refine lv_aload_n hx hb dX9_owedOf_27 rfl (lv_at hl 3 rfl) ?_
    refine x_get S (fun w h => List.mem_cons_of_mem _ (List.mem_append_right _ h)) hK hP 0 (by omega) rfl rfl 7 (by decide) (List.mem_of_getElem? (i := 3) rfl) rfl dX9_owedOf_28 ?_
    refine x_top S (y := nI Y) (hyr) ?_
    refine x_icmpN_ge (tgt := 136) S dX9_owedOf_31 (by decide) (by omega) (by omega) (fun c_31 => ?_) (fun c_31 => ?_)
    · refine lv_iinc (v := nI (i + 1)) (lv' := [(5, .int (nI (i + 1))), (4, .int (xs_owed (σ 6) Y (σ 9) (σ 10) (σ 11) h law i)), (3, .int (xt_fault (σ 6) (xLM σ))), (0, .ref (α 0)), (1, .int (nI h)), (2, .int (nI law))]) hx hb dX9_owedOf_136 hl (k := 0) rfl (nI_add i 1) (by decide) rfl (fun ls hl => ?_)
      refine lv_goto (tgt := 11) hx hb dX9_owedOf_139 (by decide) ?_
      exact ih_11 (i + 1) H locs ls ⟨(by omega), (by have h9 := lv_sub (l' := [(5, .int (nI (i + 1))), (4, .int (xs_owed (σ 6) Y (σ 9) (σ 10) (σ 11) h law i)), (3, .int (xt_fault (σ 6) (xLM σ))), (0, .ref (α 0)), (1, .int (nI h)), (2, .int (nI law))]) hl [0, 1, 2, 3, 4, 5] rfl; rw [show xs_owed (σ 6) Y (σ 9) (σ 10) (σ 11) h law i = xs_owed (σ 6) Y (σ 9) (σ 10) (σ 11) h law (i + 1) from by rw [xs_owed]; first | rw [if_neg (by omega)] | (rw [if_pos c_31, if_pos c_78, if_pos c_116] <;> rfl) | (rw [if_pos c_31, if_pos c_78, if_neg c_116] <;> rfl) | (rw [if_pos c_31, if_neg c_78, if_pos c_116] <;> rfl) | (rw [if_pos c_31, if_neg c_78, if_neg c_116] <;> rfl)] at h9; exact h9), hP, hS⟩ (by (try dsimp only); omega)
    · refine lv_iload_n hx hb dX9_owedOf_34 rfl (lv_at hl 5 rfl) ?_
      refine x_ifN_ne (tgt := 48) S dX9_owedOf_35 (by decide) (by omega) (fun c_35 => ?_) (fun c_35 => ?_)
      · refine lv_iload_n hx hb dX9_owedOf_48 rfl (lv_at hl 5 rfl) ?_
        refine lv_iconst (v := nI 1) hx hb dX9_owedOf_49 (by decide) ?_
        refine x_icmpN_ne (tgt := 57) S dX9_owedOf_50 (by decide) (by omega) (by omega) (fun c_50 => ?_) (fun c_50 => ?_)
        · refine lv_aload_n hx hb dX9_owedOf_57 rfl (lv_at hl 3 rfl) ?_
          refine x_get S (fun w h => List.mem_cons_of_mem _ (List.mem_append_right _ h)) hK hP 0 (by omega) rfl rfl 13 (by decide) (List.mem_of_getElem? (i := 4) rfl) rfl dX9_owedOf_58 ?_
          refine lv_iload hx hb dX9_owedOf_61 (lv_at hl 0 rfl) ?_
          refine x_iald S hK hP 11 (by omega) rfl (by first | assumption | omega) (by omega) dX9_owedOf_63 ?_
          refine lv_iconst (v := nI 2) hx hb dX9_owedOf_64 (by decide) ?_
          refine lv_idiv hx hb dX9_owedOf_65 (by decide) ?_
          refine x_top S (y := xs_share (σ 11 i) law) (by rw [e11]; exact ((if_neg (by omega)).trans (if_neg c_50)).symm) ?_
          refine lv_istore (lv' := [(6, .int (xs_share (σ 11 i) law)), (5, .int (nI i)), (4, .int (xs_owed (σ 6) Y (σ 9) (σ 10) (σ 11) h law i)), (3, .int (xt_fault (σ 6) (xLM σ))), (0, .ref (α 0)), (1, .int (nI h)), (2, .int (nI law))]) hx hb dX9_owedOf_66 hl (by decide) rfl (fun ls hl => ?_)
          refine lv_iload hx hb dX9_owedOf_68 (lv_at hl 2 rfl) ?_
          refine lv_aload_n hx hb dX9_owedOf_70 rfl (lv_at hl 4 rfl) ?_
          refine x_get S (fun w h => List.mem_cons_of_mem _ (List.mem_append_right _ h)) hK hP 0 (by omega) rfl rfl 11 (by decide) (List.mem_of_getElem? (i := 5) rfl) rfl dX9_owedOf_71 ?_
          refine lv_iload hx hb dX9_owedOf_74 (lv_at hl 1 rfl) ?_
          refine x_iald S hK hP 9 (by omega) rfl (by first | assumption | omega) (by omega) dX9_owedOf_76 ?_
          refine x_top S (y := nI (xnat (σ 9) i)) (by rw [e9]; exact hq1.2) ?_
          refine lv_iload_n hx hb dX9_owedOf_77 rfl (lv_at hl 5 rfl) ?_
          refine x_icmpN_ne (tgt := 86) S dX9_owedOf_78 (by decide) (by omega) (by omega) (fun c_78 => ?_) (fun c_78 => ?_)
          · refine lv_iconst (v := nI 0) hx hb dX9_owedOf_86 (by decide) ?_
            refine lv_iadd hx hb dX9_owedOf_87 ?_
            refine lv_istore (lv' := [(4, .int ((xs_owed (σ 6) Y (σ 9) (σ 10) (σ 11) h law i) + (nI 0))), (6, .int (xs_share (σ 11 i) law)), (5, .int (nI i)), (3, .int (xt_fault (σ 6) (xLM σ))), (0, .ref (α 0)), (1, .int (nI h)), (2, .int (nI law))]) hx hb dX9_owedOf_88 hl (by decide) rfl (fun ls hl => ?_)
            refine lv_iload hx hb dX9_owedOf_90 (lv_at hl 0 rfl) ?_
            refine lv_aload_n hx hb dX9_owedOf_92 rfl (lv_at hl 4 rfl) ?_
            refine x_get S (fun w h => List.mem_cons_of_mem _ (List.mem_append_right _ h)) hK hP 0 (by omega) rfl rfl 8 (by decide) (List.mem_of_getElem? (i := 6) rfl) rfl dX9_owedOf_93 ?_
            refine lv_bipush (v := nI 6) hx hb dX9_owedOf_96 (by decide) ?_
            refine lv_aload_n hx hb dX9_owedOf_98 rfl (lv_at hl 4 rfl) ?_
            refine x_get S (fun w h => List.mem_cons_of_mem _ (List.mem_append_right _ h)) hK hP 0 (by omega) rfl rfl 12 (by decide) (List.mem_of_getElem? (i := 2) rfl) rfl dX9_owedOf_99 ?_
            refine lv_iload hx hb dX9_owedOf_102 (lv_at hl 2 rfl) ?_
            refine x_iald S hK hP 10 (by omega) rfl (by first | assumption | omega) (by omega) dX9_owedOf_104 ?_
            refine x_top S (y := nI (xnat (σ 10) i)) (by rw [e10]; exact hq2.2) ?_
            refine x_imulN S dX9_owedOf_105 ?_
            refine lv_aload_n hx hb dX9_owedOf_106 rfl (lv_at hl 4 rfl) ?_
            refine x_get S (fun w h => List.mem_cons_of_mem _ (List.mem_append_right _ h)) hK hP 0 (by omega) rfl rfl 11 (by decide) (List.mem_of_getElem? (i := 5) rfl) rfl dX9_owedOf_107 ?_
            refine lv_iload hx hb dX9_owedOf_110 (lv_at hl 2 rfl) ?_
            refine x_iald S hK hP 9 (by omega) rfl (by first | assumption | omega) (by omega) dX9_owedOf_112 ?_
            refine x_top S (y := nI (xnat (σ 9) i)) (by rw [e9]; exact hq1.2) ?_
            refine x_iaddN S dX9_owedOf_113 ?_
            refine x_iald S hK hP 7 (by omega) rfl (by first | assumption | omega) (by omega) dX9_owedOf_114 ?_
            refine x_top S (y := nI (xnm (σ 6) (xnat (σ 10) i) (xnat (σ 9) i))) (hbk _ c_31 _ hq1.1) ?_
            refine lv_iload_n hx hb dX9_owedOf_115 rfl (lv_at hl 5 rfl) ?_
            have hq3 := (hY _ c_31 _ hq1.1).1
            refine x_icmpN_ne (tgt := 132) S dX9_owedOf_116 (by decide) (by omega) (by omega) (fun c_116 => ?_) (fun c_116 => ?_)
            · refine lv_iconst (v := nI 0) hx hb dX9_owedOf_132 (by decide) ?_
              refine lv_iadd hx hb dX9_owedOf_133 ?_
              refine lv_istore (lv' := [(4, .int (((xs_owed (σ 6) Y (σ 9) (σ 10) (σ 11) h law i) + (nI 0)) + (nI 0))), (6, .int (xs_share (σ 11 i) law)), (5, .int (nI i)), (3, .int (xt_fault (σ 6) (xLM σ))), (0, .ref (α 0)), (1, .int (nI h)), (2, .int (nI law))]) hx hb dX9_owedOf_134 hl (by decide) rfl (fun ls hl => ?_)
              refine lv_iinc (v := nI (i + 1)) (lv' := [(5, .int (nI (i + 1))), (4, .int (((xs_owed (σ 6) Y (σ 9) (σ 10) (σ 11) h law i) + (nI 0)) + (nI 0))), (6, .int (xs_share (σ 11 i) law)), (3, .int (xt_fault (σ 6) (xLM σ))), (0, .ref (α 0)), (1, .int (nI h)), (2, .int (nI law))]) hx hb dX9_owedOf_136 hl (k := 2) rfl (nI_add i 1) (by decide) rfl (fun ls hl => ?_)
              refine lv_goto (tgt := 11) hx hb dX9_owedOf_139 (by decide) ?_
              exact ih_11 (i + 1) H locs ls ⟨(by omega), (by have h9 := lv_sub (l' := [(5, .int (nI (i + 1))), (4, .int (((xs_owed (σ 6) Y (σ 9) (σ 10) (σ 11) h law i) + (nI 0)) + (nI 0))), (3, .int (xt_fault (σ 6) (xLM σ))), (0, .ref (α 0)), (1, .int (nI h)), (2, .int (nI law))]) hl [0, 1, 3, 4, 5, 6] rfl; rw [show ((xs_owed (σ 6) Y (σ 9) (σ 10) (σ 11) h law i) + (nI 0)) + (nI 0) = xs_owed (σ 6) Y (σ 9) (σ 10) (σ 11) h law (i + 1) from by rw [xs_owed]; first | rw [if_neg (by omega)] | (rw [if_pos c_31, if_pos c_78, if_pos c_116] <;> rfl) | (rw [if_pos c_31, if_pos c_78, if_neg c_116] <;> rfl) | (rw [if_pos c_31, if_neg c_78, if_pos c_116] <;> rfl) | (rw [if_pos c_31, if_neg c_78, if_neg c_116] <;> rfl)] at h9; exact h9), hP, hS⟩ (by (try dsimp only); omega)
            · refine lv_aload_n hx hb dX9_owedOf_119 rfl (lv_at hl 4 rfl) ?_
              refine x_get S (fun w h => List.mem_cons_of_mem _ (List.mem_append_right _ h)) hK hP 0 (by omega) rfl rfl 13 (by decide) (List.mem_of_getElem? (i := 4) rfl) rfl dX9_owedOf_120 ?_
              refine lv_iload hx hb dX9_owedOf_123 (lv_at hl 2 rfl) ?_
              refine x_iald S hK hP 11 (by omega) rfl (by first | assumption | omega) (by omega) dX9_owedOf_125 ?_
              refine x_top S (y := σ 11 i) (by rw [e11]) ?_
              refine lv_iload hx hb dX9_owedOf_126 (lv_at hl 1 rfl) ?_
              refine lv_isub hx hb dX9_owedOf_128 ?_
              refine lv_goto (tgt := 133) hx hb dX9_owedOf_129 (by decide) ?_
              refine lv_iadd hx hb dX9_owedOf_133 ?_
              refine lv_istore (lv' := [(4, .int (((xs_owed (σ 6) Y (σ 9) (σ 10) (σ 11) h law i) + (nI 0)) + ((σ 11 i) - (xs_share (σ 11 i) law)))), (6, .int (xs_share (σ 11 i) law)), (5, .int (nI i)), (3, .int (xt_fault (σ 6) (xLM σ))), (0, .ref (α 0)), (1, .int (nI h)), (2, .int (nI law))]) hx hb dX9_owedOf_134 hl (by decide) rfl (fun ls hl => ?_)
              refine lv_iinc (v := nI (i + 1)) (lv' := [(5, .int (nI (i + 1))), (4, .int (((xs_owed (σ 6) Y (σ 9) (σ 10) (σ 11) h law i) + (nI 0)) + ((σ 11 i) - (xs_share (σ 11 i) law)))), (6, .int (xs_share (σ 11 i) law)), (3, .int (xt_fault (σ 6) (xLM σ))), (0, .ref (α 0)), (1, .int (nI h)), (2, .int (nI law))]) hx hb dX9_owedOf_136 hl (k := 2) rfl (nI_add i 1) (by decide) rfl (fun ls hl => ?_)
              refine lv_goto (tgt := 11) hx hb dX9_owedOf_139 (by decide) ?_
              exact ih_11 (i + 1) H locs ls ⟨(by omega), (by have h9 := lv_sub (l' := [(5, .int (nI (i + 1))), (4, .int (((xs_owed (σ 6) Y (σ 9) (σ 10) (σ 11) h law i) + (nI 0)) + ((σ 11 i) - (xs_share (σ 11 i) law)))), (3, .int (xt_fault (σ 6) (xLM σ))), (0, .ref (α 0)), (1, .int (nI h)), (2, .int (nI law))]) hl [0, 1, 3, 4, 5, 6] rfl; rw [show ((xs_owed (σ 6) Y (σ 9) (σ 10) (σ 11) h law i) + (nI 0)) + ((σ 11 i) - (xs_share (σ 11 i) law)) = xs_owed (σ 6) Y (σ 9) (σ 10) (σ 11) h law (i + 1) from by rw [xs_owed]; first | rw [if_neg (by omega)] | (rw [if_pos c_31, if_pos c_78, if_pos c_116] <;> rfl) | (rw [if_pos c_31, if_pos c_78, if_neg c_116] <;> rfl) | (rw [if_pos c_31, if_neg c_78, if_pos c_116] <;> rfl) | (rw [if_pos c_31, if_neg c_78, if_neg c_116] <;> rfl)] at h9; exact h9), hP, hS⟩ (by (try dsimp only); omega)
          · refine lv_iload hx hb dX9_owedOf_81 (lv_at hl 0 rfl) ?_
            refine lv_goto (tgt := 87) hx hb dX9_owedOf_83 (by decide) ?_
            refine lv_iadd hx hb dX9_owedOf_87 ?_
            refine lv_istore (lv' := [(4, .int ((xs_owed (σ 6) Y (σ 9) (σ 10) (σ 11) h law i) + (xs_share (σ 11 i) law))), (6, .int (xs_share (σ 11 i) law)), (5, .int (nI i)), (3, .int (xt_fault (σ 6) (xLM σ))), (0, .ref (α 0)), (1, .int (nI h)), (2, .int (nI law))]) hx hb dX9_owedOf_88 hl (by decide) rfl (fun ls hl => ?_)
            refine lv_iload hx hb dX9_owedOf_90 (lv_at hl 0 rfl) ?_
            refine lv_aload_n hx hb dX9_owedOf_92 rfl (lv_at hl 4 rfl) ?_
            refine x_get S (fun w h => List.mem_cons_of_mem _ (List.mem_append_right _ h)) hK hP 0 (by omega) rfl rfl 8 (by decide) (List.mem_of_getElem? (i := 6) rfl) rfl dX9_owedOf_93 ?_
            refine lv_bipush (v := nI 6) hx hb dX9_owedOf_96 (by decide) ?_
            refine lv_aload_n hx hb dX9_owedOf_98 rfl (lv_at hl 4 rfl) ?_
            refine x_get S (fun w h => List.mem_cons_of_mem _ (List.mem_append_right _ h)) hK hP 0 (by omega) rfl rfl 12 (by decide) (List.mem_of_getElem? (i := 2) rfl) rfl dX9_owedOf_99 ?_
            refine lv_iload hx hb dX9_owedOf_102 (lv_at hl 2 rfl) ?_
            refine x_iald S hK hP 10 (by omega) rfl (by first | assumption | omega) (by omega) dX9_owedOf_104 ?_
            refine x_top S (y := nI (xnat (σ 10) i)) (by rw [e10]; exact hq2.2) ?_
            refine x_imulN S dX9_owedOf_105 ?_
            refine lv_aload_n hx hb dX9_owedOf_106 rfl (lv_at hl 4 rfl) ?_
            refine x_get S (fun w h => List.mem_cons_of_mem _ (List.mem_append_right _ h)) hK hP 0 (by omega) rfl rfl 11 (by decide) (List.mem_of_getElem? (i := 5) rfl) rfl dX9_owedOf_107 ?_
            refine lv_iload hx hb dX9_owedOf_110 (lv_at hl 2 rfl) ?_
            refine x_iald S hK hP 9 (by omega) rfl (by first | assumption | omega) (by omega) dX9_owedOf_112 ?_
            refine x_top S (y := nI (xnat (σ 9) i)) (by rw [e9]; exact hq1.2) ?_
            refine x_iaddN S dX9_owedOf_113 ?_
            refine x_iald S hK hP 7 (by omega) rfl (by first | assumption | omega) (by omega) dX9_owedOf_114 ?_
            refine x_top S (y := nI (xnm (σ 6) (xnat (σ 10) i) (xnat (σ 9) i))) (hbk _ c_31 _ hq1.1) ?_
            refine lv_iload_n hx hb dX9_owedOf_115 rfl (lv_at hl 5 rfl) ?_
            have hq3 := (hY _ c_31 _ hq1.1).1
            refine x_icmpN_ne (tgt := 132) S dX9_owedOf_116 (by decide) (by omega) (by omega) (fun c_116 => ?_) (fun c_116 => ?_)
            · refine lv_iconst (v := nI 0) hx hb dX9_owedOf_132 (by decide) ?_
              refine lv_iadd hx hb dX9_owedOf_133 ?_
              refine lv_istore (lv' := [(4, .int (((xs_owed (σ 6) Y (σ 9) (σ 10) (σ 11) h law i) + (xs_share (σ 11 i) law)) + (nI 0))), (6, .int (xs_share (σ 11 i) law)), (5, .int (nI i)), (3, .int (xt_fault (σ 6) (xLM σ))), (0, .ref (α 0)), (1, .int (nI h)), (2, .int (nI law))]) hx hb dX9_owedOf_134 hl (by decide) rfl (fun ls hl => ?_)
              refine lv_iinc (v := nI (i + 1)) (lv' := [(5, .int (nI (i + 1))), (4, .int (((xs_owed (σ 6) Y (σ 9) (σ 10) (σ 11) h law i) + (xs_share (σ 11 i) law)) + (nI 0))), (6, .int (xs_share (σ 11 i) law)), (3, .int (xt_fault (σ 6) (xLM σ))), (0, .ref (α 0)), (1, .int (nI h)), (2, .int (nI law))]) hx hb dX9_owedOf_136 hl (k := 2) rfl (nI_add i 1) (by decide) rfl (fun ls hl => ?_)
              refine lv_goto (tgt := 11) hx hb dX9_owedOf_139 (by decide) ?_
              exact ih_11 (i + 1) H locs ls ⟨(by omega), (by have h9 := lv_sub (l' := [(5, .int (nI (i + 1))), (4, .int (((xs_owed (σ 6) Y (σ 9) (σ 10) (σ 11) h law i) + (xs_share (σ 11 i) law)) + (nI 0))), (3, .int (xt_fault (σ 6) (xLM σ))), (0, .ref (α 0)), (1, .int (nI h)), (2, .int (nI law))]) hl [0, 1, 3, 4, 5, 6] rfl; rw [show ((xs_owed (σ 6) Y (σ 9) (σ 10) (σ 11) h law i) + (xs_share (σ 11 i) law)) + (nI 0) = xs_owed (σ 6) Y (σ 9) (σ 10) (σ 11) h law (i + 1) from by rw [xs_owed]; first | rw [if_neg (by omega)] | (rw [if_pos c_31, if_pos c_78, if_pos c_116] <;> rfl) | (rw [if_pos c_31, if_pos c_78, if_neg c_116] <;> rfl) | (rw [if_pos c_31, if_neg c_78, if_pos c_116] <;> rfl) | (rw [if_pos c_31, if_neg c_78, if_neg c_116] <;> rfl)] at h9; exact h9), hP, hS⟩ (by (try dsimp only); omega)
            · refine lv_aload_n hx hb dX9_owedOf_119 rfl (lv_at hl 4 rfl) ?_
              refine x_get S (fun w h => List.mem_cons_of_mem _ (List.mem_append_right _ h)) hK hP 0 (by omega) rfl rfl 13 (by decide) (List.mem_of_getElem? (i := 4) rfl) rfl dX9_owedOf_120 ?_
              refine lv_iload hx hb dX9_owedOf_123 (lv_at hl 2 rfl) ?_
              refine x_iald S hK hP 11 (by omega) rfl (by first | assumption | omega) (by omega) dX9_owedOf_125 ?_
              refine x_top S (y := σ 11 i) (by rw [e11]) ?_
              refine lv_iload hx hb dX9_owedOf_126 (lv_at hl 1 rfl) ?_
              refine lv_isub hx hb dX9_owedOf_128 ?_
              refine lv_goto (tgt := 133) hx hb dX9_owedOf_129 (by decide) ?_
              refine lv_iadd hx hb dX9_owedOf_133 ?_
              refine lv_istore (lv' := [(4, .int (((xs_owed (σ 6) Y (σ 9) (σ 10) (σ 11) h law i) + (xs_share (σ 11 i) law)) + ((σ 11 i) - (xs_share (σ 11 i) law)))), (6, .int (xs_share (σ 11 i) law)), (5, .int (nI i)), (3, .int (xt_fault (σ 6) (xLM σ))), (0, .ref (α 0)), (1, .int (nI h)), (2, .int (nI law))]) hx hb dX9_owedOf_134 hl (by decide) rfl (fun ls hl => ?_)
              refine lv_iinc (v := nI (i + 1)) (lv' := [(5, .int (nI (i + 1))), (4, .int (((xs_owed (σ 6) Y (σ 9) (σ 10) (σ 11) h law i) + (xs_share (σ 11 i) law)) + ((σ 11 i) - (xs_share (σ 11 i) law)))), (6, .int (xs_share (σ 11 i) law)), (3, .int (xt_fault (σ 6) (xLM σ))), (0, .ref (α 0)), (1, .int (nI h)), (2, .int (nI law))]) hx hb dX9_owedOf_136 hl (k := 2) rfl (nI_add i 1) (by decide) rfl (fun ls hl => ?_)
              refine lv_goto (tgt := 11) hx hb dX9_owedOf_139 (by decide) ?_
              exact ih_11 (i + 1) H locs ls ⟨(by omega), (by have h9 := lv_sub (l' := [(5, .int (nI (i + 1))), (4, .int (((xs_owed (σ 6) Y (σ 9) (σ 10) (σ 11) h law i) + (xs_share (σ 11 i) law)) + ((σ 11 i) - (xs_share (σ 11 i) law)))), (3, .int (xt_fault (σ 6) (xLM σ))), (0, .ref (α 0)), (1, .int (nI h)), (2, .int (nI law))]) hl [0, 1, 3, 4, 5, 6] rfl; rw [show ((xs_owed (σ 6) Y (σ 9) (σ 10) (σ 11) h law i) + (xs_share (σ 11 i) law)) + ((σ 11 i) - (xs_share (σ 11 i) law)) = xs_owed (σ 6) Y (σ 9) (σ 10) (σ 11) h law (i + 1) from by rw [xs_owed]; first | rw [if_neg (by omega)] | (rw [if_pos c_31, if_pos c_78, if_pos c_116] <;> rfl) | (rw [if_pos c_31, if_pos c_78, if_neg c_116] <;> rfl) | (rw [if_pos c_31, if_neg c_78, if_pos c_116] <;> rfl) | (rw [if_pos c_31, if_neg c_78, if_neg c_116] <;> rfl)] at h9; exact h9), hP, hS⟩ (by (try dsimp only); omega)
        · refine lv_iconst (v := nI 0) hx hb dX9_owedOf_53 (by decide) ?_
          refine x_top S (y := xs_share (σ 11 i) law) (((if_neg (by omega)).trans (if_pos c_50)).symm) ?_
          refine lv_goto (tgt := 66) hx hb dX9_owedOf_54 (by decide) ?_
          refine lv_istore (lv' := [(6, .int (xs_share (σ 11 i) law)), (5, .int (nI i)), (4, .int (xs_owed (σ 6) Y (σ 9) (σ 10) (σ 11) h law i)), (3, .int (xt_fault (σ 6) (xLM σ))), (0, .ref (α 0)), (1, .int (nI h)), (2, .int (nI law))]) hx hb dX9_owedOf_66 hl (by decide) rfl (fun ls hl => ?_)
          refine lv_iload hx hb dX9_owedOf_68 (lv_at hl 2 rfl) ?_
          refine lv_aload_n hx hb dX9_owedOf_70 rfl (lv_at hl 4 rfl) ?_
          refine x_get S (fun w h => List.mem_cons_of_mem _ (List.mem_append_right _ h)) hK hP 0 (by omega) rfl rfl 11 (by decide) (List.mem_of_getElem? (i := 5) rfl) rfl dX9_owedOf_71 ?_
          refine lv_iload hx hb dX9_owedOf_74 (lv_at hl 1 rfl) ?_
          refine x_iald S hK hP 9 (by omega) rfl (by first | assumption | omega) (by omega) dX9_owedOf_76 ?_
          refine x_top S (y := nI (xnat (σ 9) i)) (by rw [e9]; exact hq1.2) ?_
          refine lv_iload_n hx hb dX9_owedOf_77 rfl (lv_at hl 5 rfl) ?_
          refine x_icmpN_ne (tgt := 86) S dX9_owedOf_78 (by decide) (by omega) (by omega) (fun c_78 => ?_) (fun c_78 => ?_)
          · refine lv_iconst (v := nI 0) hx hb dX9_owedOf_86 (by decide) ?_
            refine lv_iadd hx hb dX9_owedOf_87 ?_
            refine lv_istore (lv' := [(4, .int ((xs_owed (σ 6) Y (σ 9) (σ 10) (σ 11) h law i) + (nI 0))), (6, .int (xs_share (σ 11 i) law)), (5, .int (nI i)), (3, .int (xt_fault (σ 6) (xLM σ))), (0, .ref (α 0)), (1, .int (nI h)), (2, .int (nI law))]) hx hb dX9_owedOf_88 hl (by decide) rfl (fun ls hl => ?_)
            refine lv_iload hx hb dX9_owedOf_90 (lv_at hl 0 rfl) ?_
            refine lv_aload_n hx hb dX9_owedOf_92 rfl (lv_at hl 4 rfl) ?_
            refine x_get S (fun w h => List.mem_cons_of_mem _ (List.mem_append_right _ h)) hK hP 0 (by omega) rfl rfl 8 (by decide) (List.mem_of_getElem? (i := 6) rfl) rfl dX9_owedOf_93 ?_
            refine lv_bipush (v := nI 6) hx hb dX9_owedOf_96 (by decide) ?_
            refine lv_aload_n hx hb dX9_owedOf_98 rfl (lv_at hl 4 rfl) ?_
            refine x_get S (fun w h => List.mem_cons_of_mem _ (List.mem_append_right _ h)) hK hP 0 (by omega) rfl rfl 12 (by decide) (List.mem_of_getElem? (i := 2) rfl) rfl dX9_owedOf_99 ?_
            refine lv_iload hx hb dX9_owedOf_102 (lv_at hl 2 rfl) ?_
            refine x_iald S hK hP 10 (by omega) rfl (by first | assumption | omega) (by omega) dX9_owedOf_104 ?_
            refine x_top S (y := nI (xnat (σ 10) i)) (by rw [e10]; exact hq2.2) ?_
            refine x_imulN S dX9_owedOf_105 ?_
            refine lv_aload_n hx hb dX9_owedOf_106 rfl (lv_at hl 4 rfl) ?_
            refine x_get S (fun w h => List.mem_cons_of_mem _ (List.mem_append_right _ h)) hK hP 0 (by omega) rfl rfl 11 (by decide) (List.mem_of_getElem? (i := 5) rfl) rfl dX9_owedOf_107 ?_
            refine lv_iload hx hb dX9_owedOf_110 (lv_at hl 2 rfl) ?_
            refine x_iald S hK hP 9 (by omega) rfl (by first | assumption | omega) (by omega) dX9_owedOf_112 ?_
            refine x_top S (y := nI (xnat (σ 9) i)) (by rw [e9]; exact hq1.2) ?_
            refine x_iaddN S dX9_owedOf_113 ?_
            refine x_iald S hK hP 7 (by omega) rfl (by first | assumption | omega) (by omega) dX9_owedOf_114 ?_
            refine x_top S (y := nI (xnm (σ 6) (xnat (σ 10) i) (xnat (σ 9) i))) (hbk _ c_31 _ hq1.1) ?_
            refine lv_iload_n hx hb dX9_owedOf_115 rfl (lv_at hl 5 rfl) ?_
            have hq3 := (hY _ c_31 _ hq1.1).1
            refine x_icmpN_ne (tgt := 132) S dX9_owedOf_116 (by decide) (by omega) (by omega) (fun c_116 => ?_) (fun c_116 => ?_)
            · refine lv_iconst (v := nI 0) hx hb dX9_owedOf_132 (by decide) ?_
              refine lv_iadd hx hb dX9_owedOf_133 ?_
              refine lv_istore (lv' := [(4, .int (((xs_owed (σ 6) Y (σ 9) (σ 10) (σ 11) h law i) + (nI 0)) + (nI 0))), (6, .int (xs_share (σ 11 i) law)), (5, .int (nI i)), (3, .int (xt_fault (σ 6) (xLM σ))), (0, .ref (α 0)), (1, .int (nI h)), (2, .int (nI law))]) hx hb dX9_owedOf_134 hl (by decide) rfl (fun ls hl => ?_)
              refine lv_iinc (v := nI (i + 1)) (lv' := [(5, .int (nI (i + 1))), (4, .int (((xs_owed (σ 6) Y (σ 9) (σ 10) (σ 11) h law i) + (nI 0)) + (nI 0))), (6, .int (xs_share (σ 11 i) law)), (3, .int (xt_fault (σ 6) (xLM σ))), (0, .ref (α 0)), (1, .int (nI h)), (2, .int (nI law))]) hx hb dX9_owedOf_136 hl (k := 2) rfl (nI_add i 1) (by decide) rfl (fun ls hl => ?_)
              refine lv_goto (tgt := 11) hx hb dX9_owedOf_139 (by decide) ?_
              exact ih_11 (i + 1) H locs ls ⟨(by omega), (by have h9 := lv_sub (l' := [(5, .int (nI (i + 1))), (4, .int (((xs_owed (σ 6) Y (σ 9) (σ 10) (σ 11) h law i) + (nI 0)) + (nI 0))), (3, .int (xt_fault (σ 6) (xLM σ))), (0, .ref (α 0)), (1, .int (nI h)), (2, .int (nI law))]) hl [0, 1, 3, 4, 5, 6] rfl; rw [show ((xs_owed (σ 6) Y (σ 9) (σ 10) (σ 11) h law i) + (nI 0)) + (nI 0) = xs_owed (σ 6) Y (σ 9) (σ 10) (σ 11) h law (i + 1) from by rw [xs_owed]; first | rw [if_neg (by omega)] | (rw [if_pos c_31, if_pos c_78, if_pos c_116] <;> rfl) | (rw [if_pos c_31, if_pos c_78, if_neg c_116] <;> rfl) | (rw [if_pos c_31, if_neg c_78, if_pos c_116] <;> rfl) | (rw [if_pos c_31, if_neg c_78, if_neg c_116] <;> rfl)] at h9; exact h9), hP, hS⟩ (by (try dsimp only); omega)
            · refine lv_aload_n hx hb dX9_owedOf_119 rfl (lv_at hl 4 rfl) ?_
              refine x_get S (fun w h => List.mem_cons_of_mem _ (List.mem_append_right _ h)) hK hP 0 (by omega) rfl rfl 13 (by decide) (List.mem_of_getElem? (i := 4) rfl) rfl dX9_owedOf_120 ?_
              refine lv_iload hx hb dX9_owedOf_123 (lv_at hl 2 rfl) ?_
              refine x_iald S hK hP 11 (by omega) rfl (by first | assumption | omega) (by omega) dX9_owedOf_125 ?_
              refine x_top S (y := σ 11 i) (by rw [e11]) ?_
              refine lv_iload hx hb dX9_owedOf_126 (lv_at hl 1 rfl) ?_
              refine lv_isub hx hb dX9_owedOf_128 ?_
              refine lv_goto (tgt := 133) hx hb dX9_owedOf_129 (by decide) ?_
              refine lv_iadd hx hb dX9_owedOf_133 ?_
              refine lv_istore (lv' := [(4, .int (((xs_owed (σ 6) Y (σ 9) (σ 10) (σ 11) h law i) + (nI 0)) + ((σ 11 i) - (xs_share (σ 11 i) law)))), (6, .int (xs_share (σ 11 i) law)), (5, .int (nI i)), (3, .int (xt_fault (σ 6) (xLM σ))), (0, .ref (α 0)), (1, .int (nI h)), (2, .int (nI law))]) hx hb dX9_owedOf_134 hl (by decide) rfl (fun ls hl => ?_)
              refine lv_iinc (v := nI (i + 1)) (lv' := [(5, .int (nI (i + 1))), (4, .int (((xs_owed (σ 6) Y (σ 9) (σ 10) (σ 11) h law i) + (nI 0)) + ((σ 11 i) - (xs_share (σ 11 i) law)))), (6, .int (xs_share (σ 11 i) law)), (3, .int (xt_fault (σ 6) (xLM σ))), (0, .ref (α 0)), (1, .int (nI h)), (2, .int (nI law))]) hx hb dX9_owedOf_136 hl (k := 2) rfl (nI_add i 1) (by decide) rfl (fun ls hl => ?_)
              refine lv_goto (tgt := 11) hx hb dX9_owedOf_139 (by decide) ?_
              exact ih_11 (i + 1) H locs ls ⟨(by omega), (by have h9 := lv_sub (l' := [(5, .int (nI (i + 1))), (4, .int (((xs_owed (σ 6) Y (σ 9) (σ 10) (σ 11) h law i) + (nI 0)) + ((σ 11 i) - (xs_share (σ 11 i) law)))), (3, .int (xt_fault (σ 6) (xLM σ))), (0, .ref (α 0)), (1, .int (nI h)), (2, .int (nI law))]) hl [0, 1, 3, 4, 5, 6] rfl; rw [show ((xs_owed (σ 6) Y (σ 9) (σ 10) (σ 11) h law i) + (nI 0)) + ((σ 11 i) - (xs_share (σ 11 i) law)) = xs_owed (σ 6) Y (σ 9) (σ 10) (σ 11) h law (i + 1) from by rw [xs_owed]; first | rw [if_neg (by omega)] | (rw [if_pos c_31, if_pos c_78, if_pos c_116] <;> rfl) | (rw [if_pos c_31, if_pos c_78, if_neg c_116] <;> rfl) | (rw [if_pos c_31, if_neg c_78, if_pos c_116] <;> rfl) | (rw [if_pos c_31, if_neg c_78, if_neg c_116] <;> rfl)] at h9; exact h9), hP, hS⟩ (by (try dsimp only); omega)
          · refine lv_iload hx hb dX9_owedOf_81 (lv_at hl 0 rfl) ?_
            refine lv_goto (tgt := 87) hx hb dX9_owedOf_83 (by decide) ?_
            refine lv_iadd hx hb dX9_owedOf_87 ?_
            refine lv_istore (lv' := [(4, .int ((xs_owed (σ 6) Y (σ 9) (σ 10) (σ 11) h law i) + (xs_share (σ 11 i) law))), (6, .int (xs_share (σ 11 i) law)), (5, .int (nI i)), (3, .int (xt_fault (σ 6) (xLM σ))), (0, .ref (α 0)), (1, .int (nI h)), (2, .int (nI law))]) hx hb dX9_owedOf_88 hl (by decide) rfl (fun ls hl => ?_)
            refine lv_iload hx hb dX9_owedOf_90 (lv_at hl 0 rfl) ?_
            refine lv_aload_n hx hb dX9_owedOf_92 rfl (lv_at hl 4 rfl) ?_
            refine x_get S (fun w h => List.mem_cons_of_mem _ (List.mem_append_right _ h)) hK hP 0 (by omega) rfl rfl 8 (by decide) (List.mem_of_getElem? (i := 6) rfl) rfl dX9_owedOf_93 ?_
            refine lv_bipush (v := nI 6) hx hb dX9_owedOf_96 (by decide) ?_
            refine lv_aload_n hx hb dX9_owedOf_98 rfl (lv_at hl 4 rfl) ?_
            refine x_get S (fun w h => List.mem_cons_of_mem _ (List.mem_append_right _ h)) hK hP 0 (by omega) rfl rfl 12 (by decide) (List.mem_of_getElem? (i := 2) rfl) rfl dX9_owedOf_99 ?_
            refine lv_iload hx hb dX9_owedOf_102 (lv_at hl 2 rfl) ?_
            refine x_iald S hK hP 10 (by omega) rfl (by first | assumption | omega) (by omega) dX9_owedOf_104 ?_
            refine x_top S (y := nI (xnat (σ 10) i)) (by rw [e10]; exact hq2.2) ?_
            refine x_imulN S dX9_owedOf_105 ?_
            refine lv_aload_n hx hb dX9_owedOf_106 rfl (lv_at hl 4 rfl) ?_
            refine x_get S (fun w h => List.mem_cons_of_mem _ (List.mem_append_right _ h)) hK hP 0 (by omega) rfl rfl 11 (by decide) (List.mem_of_getElem? (i := 5) rfl) rfl dX9_owedOf_107 ?_
            refine lv_iload hx hb dX9_owedOf_110 (lv_at hl 2 rfl) ?_
            refine x_iald S hK hP 9 (by omega) rfl (by first | assumption | omega) (by omega) dX9_owedOf_112 ?_
            refine x_top S (y := nI (xnat (σ 9) i)) (by rw [e9]; exact hq1.2) ?_
            refine x_iaddN S dX9_owedOf_113 ?_
            refine x_iald S hK hP 7 (by omega) rfl (by first | assumption | omega) (by omega) dX9_owedOf_114 ?_
            refine x_top S (y := nI (xnm (σ 6) (xnat (σ 10) i) (xnat (σ 9) i))) (hbk _ c_31 _ hq1.1) ?_
            refine lv_iload_n hx hb dX9_owedOf_115 rfl (lv_at hl 5 rfl) ?_
            have hq3 := (hY _ c_31 _ hq1.1).1
            refine x_icmpN_ne (tgt := 132) S dX9_owedOf_116 (by decide) (by omega) (by omega) (fun c_116 => ?_) (fun c_116 => ?_)
            · refine lv_iconst (v := nI 0) hx hb dX9_owedOf_132 (by decide) ?_
              refine lv_iadd hx hb dX9_owedOf_133 ?_
              refine lv_istore (lv' := [(4, .int (((xs_owed (σ 6) Y (σ 9) (σ 10) (σ 11) h law i) + (xs_share (σ 11 i) law)) + (nI 0))), (6, .int (xs_share (σ 11 i) law)), (5, .int (nI i)), (3, .int (xt_fault (σ 6) (xLM σ))), (0, .ref (α 0)), (1, .int (nI h)), (2, .int (nI law))]) hx hb dX9_owedOf_134 hl (by decide) rfl (fun ls hl => ?_)
              refine lv_iinc (v := nI (i + 1)) (lv' := [(5, .int (nI (i + 1))), (4, .int (((xs_owed (σ 6) Y (σ 9) (σ 10) (σ 11) h law i) + (xs_share (σ 11 i) law)) + (nI 0))), (6, .int (xs_share (σ 11 i) law)), (3, .int (xt_fault (σ 6) (xLM σ))), (0, .ref (α 0)), (1, .int (nI h)), (2, .int (nI law))]) hx hb dX9_owedOf_136 hl (k := 2) rfl (nI_add i 1) (by decide) rfl (fun ls hl => ?_)
              refine lv_goto (tgt := 11) hx hb dX9_owedOf_139 (by decide) ?_
              exact ih_11 (i + 1) H locs ls ⟨(by omega), (by have h9 := lv_sub (l' := [(5, .int (nI (i + 1))), (4, .int (((xs_owed (σ 6) Y (σ 9) (σ 10) (σ 11) h law i) + (xs_share (σ 11 i) law)) + (nI 0))), (3, .int (xt_fault (σ 6) (xLM σ))), (0, .ref (α 0)), (1, .int (nI h)), (2, .int (nI law))]) hl [0, 1, 3, 4, 5, 6] rfl; rw [show ((xs_owed (σ 6) Y (σ 9) (σ 10) (σ 11) h law i) + (xs_share (σ 11 i) law)) + (nI 0) = xs_owed (σ 6) Y (σ 9) (σ 10) (σ 11) h law (i + 1) from by rw [xs_owed]; first | rw [if_neg (by omega)] | (rw [if_pos c_31, if_pos c_78, if_pos c_116] <;> rfl) | (rw [if_pos c_31, if_pos c_78, if_neg c_116] <;> rfl) | (rw [if_pos c_31, if_neg c_78, if_pos c_116] <;> rfl) | (rw [if_pos c_31, if_neg c_78, if_neg c_116] <;> rfl)] at h9; exact h9), hP, hS⟩ (by (try dsimp only); omega)
            · refine lv_aload_n hx hb dX9_owedOf_119 rfl (lv_at hl 4 rfl) ?_
              refine x_get S (fun w h => List.mem_cons_of_mem _ (List.mem_append_right _ h)) hK hP 0 (by omega) rfl rfl 13 (by decide) (List.mem_of_getElem? (i := 4) rfl) rfl dX9_owedOf_120 ?_
              refine lv_iload hx hb dX9_owedOf_123 (lv_at hl 2 rfl) ?_
              refine x_iald S hK hP 11 (by omega) rfl (by first | assumption | omega) (by omega) dX9_owedOf_125 ?_
              refine x_top S (y := σ 11 i) (by rw [e11]) ?_
              refine lv_iload hx hb dX9_owedOf_126 (lv_at hl 1 rfl) ?_
              refine lv_isub hx hb dX9_owedOf_128 ?_
              refine lv_goto (tgt := 133) hx hb dX9_owedOf_129 (by decide) ?_
              refine lv_iadd hx hb dX9_owedOf_133 ?_
              refine lv_istore (lv' := [(4, .int (((xs_owed (σ 6) Y (σ 9) (σ 10) (σ 11) h law i) + (xs_share (σ 11 i) law)) + ((σ 11 i) - (xs_share (σ 11 i) law)))), (6, .int (xs_share (σ 11 i) law)), (5, .int (nI i)), (3, .int (xt_fault (σ 6) (xLM σ))), (0, .ref (α 0)), (1, .int (nI h)), (2, .int (nI law))]) hx hb dX9_owedOf_134 hl (by decide) rfl (fun ls hl => ?_)
              refine lv_iinc (v := nI (i + 1)) (lv' := [(5, .int (nI (i + 1))), (4, .int (((xs_owed (σ 6) Y (σ 9) (σ 10) (σ 11) h law i) + (xs_share (σ 11 i) law)) + ((σ 11 i) - (xs_share (σ 11 i) law)))), (6, .int (xs_share (σ 11 i) law)), (3, .int (xt_fault (σ 6) (xLM σ))), (0, .ref (α 0)), (1, .int (nI h)), (2, .int (nI law))]) hx hb dX9_owedOf_136 hl (k := 2) rfl (nI_add i 1) (by decide) rfl (fun ls hl => ?_)
              refine lv_goto (tgt := 11) hx hb dX9_owedOf_139 (by decide) ?_
              exact ih_11 (i + 1) H locs ls ⟨(by omega), (by have h9 := lv_sub (l' := [(5, .int (nI (i + 1))), (4, .int (((xs_owed (σ 6) Y (σ 9) (σ 10) (σ 11) h law i) + (xs_share (σ 11 i) law)) + ((σ 11 i) - (xs_share (σ 11 i) law)))), (3, .int (xt_fault (σ 6) (xLM σ))), (0, .ref (α 0)), (1, .int (nI h)), (2, .int (nI law))]) hl [0, 1, 3, 4, 5, 6] rfl; rw [show ((xs_owed (σ 6) Y (σ 9) (σ 10) (σ 11) h law i) + (xs_share (σ 11 i) law)) + ((σ 11 i) - (xs_share (σ 11 i) law)) = xs_owed (σ 6) Y (σ 9) (σ 10) (σ 11) h law (i + 1) from by rw [xs_owed]; first | rw [if_neg (by omega)] | (rw [if_pos c_31, if_pos c_78, if_pos c_116] <;> rfl) | (rw [if_pos c_31, if_pos c_78, if_neg c_116] <;> rfl) | (rw [if_pos c_31, if_neg c_78, if_pos c_116] <;> rfl) | (rw [if_pos c_31, if_neg c_78, if_neg c_116] <;> rfl)] at h9; exact h9), hP, hS⟩ (by (try dsimp only); omega)
      · refine lv_aload_n hx hb dX9_owedOf_38 rfl (lv_at hl 3 rfl) ?_
        refine x_get S (fun w h => List.mem_cons_of_mem _ (List.mem_append_right _ h)) hK hP 0 (by omega) rfl rfl 13 (by decide) (List.mem_of_getElem? (i := 4) rfl) rfl dX9_owedOf_39 ?_
        refine lv_iload hx hb dX9_owedOf_42 (lv_at hl 0 rfl) ?_
        refine x_iald S hK hP 11 (by omega) rfl (by first | assumption | omega) (by omega) dX9_owedOf_44 ?_
        refine x_top S (y := xs_share (σ 11 i) law) (by rw [e11]; exact (if_pos c_35).symm) ?_
        refine lv_goto (tgt := 66) hx hb dX9_owedOf_45 (by decide) ?_
        refine lv_istore (lv' := [(6, .int (xs_share (σ 11 i) law)), (5, .int (nI i)), (4, .int (xs_owed (σ 6) Y (σ 9) (σ 10) (σ 11) h law i)), (3, .int (xt_fault (σ 6) (xLM σ))), (0, .ref (α 0)), (1, .int (nI h)), (2, .int (nI law))]) hx hb dX9_owedOf_66 hl (by decide) rfl (fun ls hl => ?_)
        refine lv_iload hx hb dX9_owedOf_68 (lv_at hl 2 rfl) ?_
        refine lv_aload_n hx hb dX9_owedOf_70 rfl (lv_at hl 4 rfl) ?_
        refine x_get S (fun w h => List.mem_cons_of_mem _ (List.mem_append_right _ h)) hK hP 0 (by omega) rfl rfl 11 (by decide) (List.mem_of_getElem? (i := 5) rfl) rfl dX9_owedOf_71 ?_
        refine lv_iload hx hb dX9_owedOf_74 (lv_at hl 1 rfl) ?_
        refine x_iald S hK hP 9 (by omega) rfl (by first | assumption | omega) (by omega) dX9_owedOf_76 ?_
        refine x_top S (y := nI (xnat (σ 9) i)) (by rw [e9]; exact hq1.2) ?_
        refine lv_iload_n hx hb dX9_owedOf_77 rfl (lv_at hl 5 rfl) ?_
        refine x_icmpN_ne (tgt := 86) S dX9_owedOf_78 (by decide) (by omega) (by omega) (fun c_78 => ?_) (fun c_78 => ?_)
        · refine lv_iconst (v := nI 0) hx hb dX9_owedOf_86 (by decide) ?_
          refine lv_iadd hx hb dX9_owedOf_87 ?_
          refine lv_istore (lv' := [(4, .int ((xs_owed (σ 6) Y (σ 9) (σ 10) (σ 11) h law i) + (nI 0))), (6, .int (xs_share (σ 11 i) law)), (5, .int (nI i)), (3, .int (xt_fault (σ 6) (xLM σ))), (0, .ref (α 0)), (1, .int (nI h)), (2, .int (nI law))]) hx hb dX9_owedOf_88 hl (by decide) rfl (fun ls hl => ?_)
          refine lv_iload hx hb dX9_owedOf_90 (lv_at hl 0 rfl) ?_
          refine lv_aload_n hx hb dX9_owedOf_92 rfl (lv_at hl 4 rfl) ?_
          refine x_get S (fun w h => List.mem_cons_of_mem _ (List.mem_append_right _ h)) hK hP 0 (by omega) rfl rfl 8 (by decide) (List.mem_of_getElem? (i := 6) rfl) rfl dX9_owedOf_93 ?_
          refine lv_bipush (v := nI 6) hx hb dX9_owedOf_96 (by decide) ?_
          refine lv_aload_n hx hb dX9_owedOf_98 rfl (lv_at hl 4 rfl) ?_
          refine x_get S (fun w h => List.mem_cons_of_mem _ (List.mem_append_right _ h)) hK hP 0 (by omega) rfl rfl 12 (by decide) (List.mem_of_getElem? (i := 2) rfl) rfl dX9_owedOf_99 ?_
          refine lv_iload hx hb dX9_owedOf_102 (lv_at hl 2 rfl) ?_
          refine x_iald S hK hP 10 (by omega) rfl (by first | assumption | omega) (by omega) dX9_owedOf_104 ?_
          refine x_top S (y := nI (xnat (σ 10) i)) (by rw [e10]; exact hq2.2) ?_
          refine x_imulN S dX9_owedOf_105 ?_
          refine lv_aload_n hx hb dX9_owedOf_106 rfl (lv_at hl 4 rfl) ?_
          refine x_get S (fun w h => List.mem_cons_of_mem _ (List.mem_append_right _ h)) hK hP 0 (by omega) rfl rfl 11 (by decide) (List.mem_of_getElem? (i := 5) rfl) rfl dX9_owedOf_107 ?_
          refine lv_iload hx hb dX9_owedOf_110 (lv_at hl 2 rfl) ?_
          refine x_iald S hK hP 9 (by omega) rfl (by first | assumption | omega) (by omega) dX9_owedOf_112 ?_
          refine x_top S (y := nI (xnat (σ 9) i)) (by rw [e9]; exact hq1.2) ?_
          refine x_iaddN S dX9_owedOf_113 ?_
          refine x_iald S hK hP 7 (by omega) rfl (by first | assumption | omega) (by omega) dX9_owedOf_114 ?_
          refine x_top S (y := nI (xnm (σ 6) (xnat (σ 10) i) (xnat (σ 9) i))) (hbk _ c_31 _ hq1.1) ?_
          refine lv_iload_n hx hb dX9_owedOf_115 rfl (lv_at hl 5 rfl) ?_
          have hq3 := (hY _ c_31 _ hq1.1).1
          refine x_icmpN_ne (tgt := 132) S dX9_owedOf_116 (by decide) (by omega) (by omega) (fun c_116 => ?_) (fun c_116 => ?_)
          · refine lv_iconst (v := nI 0) hx hb dX9_owedOf_132 (by decide) ?_
            refine lv_iadd hx hb dX9_owedOf_133 ?_
            refine lv_istore (lv' := [(4, .int (((xs_owed (σ 6) Y (σ 9) (σ 10) (σ 11) h law i) + (nI 0)) + (nI 0))), (6, .int (xs_share (σ 11 i) law)), (5, .int (nI i)), (3, .int (xt_fault (σ 6) (xLM σ))), (0, .ref (α 0)), (1, .int (nI h)), (2, .int (nI law))]) hx hb dX9_owedOf_134 hl (by decide) rfl (fun ls hl => ?_)
            refine lv_iinc (v := nI (i + 1)) (lv' := [(5, .int (nI (i + 1))), (4, .int (((xs_owed (σ 6) Y (σ 9) (σ 10) (σ 11) h law i) + (nI 0)) + (nI 0))), (6, .int (xs_share (σ 11 i) law)), (3, .int (xt_fault (σ 6) (xLM σ))), (0, .ref (α 0)), (1, .int (nI h)), (2, .int (nI law))]) hx hb dX9_owedOf_136 hl (k := 2) rfl (nI_add i 1) (by decide) rfl (fun ls hl => ?_)
            refine lv_goto (tgt := 11) hx hb dX9_owedOf_139 (by decide) ?_
            exact ih_11 (i + 1) H locs ls ⟨(by omega), (by have h9 := lv_sub (l' := [(5, .int (nI (i + 1))), (4, .int (((xs_owed (σ 6) Y (σ 9) (σ 10) (σ 11) h law i) + (nI 0)) + (nI 0))), (3, .int (xt_fault (σ 6) (xLM σ))), (0, .ref (α 0)), (1, .int (nI h)), (2, .int (nI law))]) hl [0, 1, 3, 4, 5, 6] rfl; rw [show ((xs_owed (σ 6) Y (σ 9) (σ 10) (σ 11) h law i) + (nI 0)) + (nI 0) = xs_owed (σ 6) Y (σ 9) (σ 10) (σ 11) h law (i + 1) from by rw [xs_owed]; first | rw [if_neg (by omega)] | (rw [if_pos c_31, if_pos c_78, if_pos c_116] <;> rfl) | (rw [if_pos c_31, if_pos c_78, if_neg c_116] <;> rfl) | (rw [if_pos c_31, if_neg c_78, if_pos c_116] <;> rfl) | (rw [if_pos c_31, if_neg c_78, if_neg c_116] <;> rfl)] at h9; exact h9), hP, hS⟩ (by (try dsimp only); omega)
          · refine lv_aload_n hx hb dX9_owedOf_119 rfl (lv_at hl 4 rfl) ?_
            refine x_get S (fun w h => List.mem_cons_of_mem _ (List.mem_append_right _ h)) hK hP 0 (by omega) rfl rfl 13 (by decide) (List.mem_of_getElem? (i := 4) rfl) rfl dX9_owedOf_120 ?_
            refine lv_iload hx hb dX9_owedOf_123 (lv_at hl 2 rfl) ?_
            refine x_iald S hK hP 11 (by omega) rfl (by first | assumption | omega) (by omega) dX9_owedOf_125 ?_
            refine x_top S (y := σ 11 i) (by rw [e11]) ?_
            refine lv_iload hx hb dX9_owedOf_126 (lv_at hl 1 rfl) ?_
            refine lv_isub hx hb dX9_owedOf_128 ?_
            refine lv_goto (tgt := 133) hx hb dX9_owedOf_129 (by decide) ?_
            refine lv_iadd hx hb dX9_owedOf_133 ?_
            refine lv_istore (lv' := [(4, .int (((xs_owed (σ 6) Y (σ 9) (σ 10) (σ 11) h law i) + (nI 0)) + ((σ 11 i) - (xs_share (σ 11 i) law)))), (6, .int (xs_share (σ 11 i) law)), (5, .int (nI i)), (3, .int (xt_fault (σ 6) (xLM σ))), (0, .ref (α 0)), (1, .int (nI h)), (2, .int (nI law))]) hx hb dX9_owedOf_134 hl (by decide) rfl (fun ls hl => ?_)
            refine lv_iinc (v := nI (i + 1)) (lv' := [(5, .int (nI (i + 1))), (4, .int (((xs_owed (σ 6) Y (σ 9) (σ 10) (σ 11) h law i) + (nI 0)) + ((σ 11 i) - (xs_share (σ 11 i) law)))), (6, .int (xs_share (σ 11 i) law)), (3, .int (xt_fault (σ 6) (xLM σ))), (0, .ref (α 0)), (1, .int (nI h)), (2, .int (nI law))]) hx hb dX9_owedOf_136 hl (k := 2) rfl (nI_add i 1) (by decide) rfl (fun ls hl => ?_)
            refine lv_goto (tgt := 11) hx hb dX9_owedOf_139 (by decide) ?_
            exact ih_11 (i + 1) H locs ls ⟨(by omega), (by have h9 := lv_sub (l' := [(5, .int (nI (i + 1))), (4, .int (((xs_owed (σ 6) Y (σ 9) (σ 10) (σ 11) h law i) + (nI 0)) + ((σ 11 i) - (xs_share (σ 11 i) law)))), (3, .int (xt_fault (σ 6) (xLM σ))), (0, .ref (α 0)), (1, .int (nI h)), (2, .int (nI law))]) hl [0, 1, 3, 4, 5, 6] rfl; rw [show ((xs_owed (σ 6) Y (σ 9) (σ 10) (σ 11) h law i) + (nI 0)) + ((σ 11 i) - (xs_share (σ 11 i) law)) = xs_owed (σ 6) Y (σ 9) (σ 10) (σ 11) h law (i + 1) from by rw [xs_owed]; first | rw [if_neg (by omega)] | (rw [if_pos c_31, if_pos c_78, if_pos c_116] <;> rfl) | (rw [if_pos c_31, if_pos c_78, if_neg c_116] <;> rfl) | (rw [if_pos c_31, if_neg c_78, if_pos c_116] <;> rfl) | (rw [if_pos c_31, if_neg c_78, if_neg c_116] <;> rfl)] at h9; exact h9), hP, hS⟩ (by (try dsimp only); omega)
        · refine lv_iload hx hb dX9_owedOf_81 (lv_at hl 0 rfl) ?_
          refine lv_goto (tgt := 87) hx hb dX9_owedOf_83 (by decide) ?_
          refine lv_iadd hx hb dX9_owedOf_87 ?_
          refine lv_istore (lv' := [(4, .int ((xs_owed (σ 6) Y (σ 9) (σ 10) (σ 11) h law i) + (xs_share (σ 11 i) law))), (6, .int (xs_share (σ 11 i) law)), (5, .int (nI i)), (3, .int (xt_fault (σ 6) (xLM σ))), (0, .ref (α 0)), (1, .int (nI h)), (2, .int (nI law))]) hx hb dX9_owedOf_88 hl (by decide) rfl (fun ls hl => ?_)
          refine lv_iload hx hb dX9_owedOf_90 (lv_at hl 0 rfl) ?_
          refine lv_aload_n hx hb dX9_owedOf_92 rfl (lv_at hl 4 rfl) ?_
          refine x_get S (fun w h => List.mem_cons_of_mem _ (List.mem_append_right _ h)) hK hP 0 (by omega) rfl rfl 8 (by decide) (List.mem_of_getElem? (i := 6) rfl) rfl dX9_owedOf_93 ?_
          refine lv_bipush (v := nI 6) hx hb dX9_owedOf_96 (by decide) ?_
          refine lv_aload_n hx hb dX9_owedOf_98 rfl (lv_at hl 4 rfl) ?_
          refine x_get S (fun w h => List.mem_cons_of_mem _ (List.mem_append_right _ h)) hK hP 0 (by omega) rfl rfl 12 (by decide) (List.mem_of_getElem? (i := 2) rfl) rfl dX9_owedOf_99 ?_
          refine lv_iload hx hb dX9_owedOf_102 (lv_at hl 2 rfl) ?_
          refine x_iald S hK hP 10 (by omega) rfl (by first | assumption | omega) (by omega) dX9_owedOf_104 ?_
          refine x_top S (y := nI (xnat (σ 10) i)) (by rw [e10]; exact hq2.2) ?_
          refine x_imulN S dX9_owedOf_105 ?_
          refine lv_aload_n hx hb dX9_owedOf_106 rfl (lv_at hl 4 rfl) ?_
          refine x_get S (fun w h => List.mem_cons_of_mem _ (List.mem_append_right _ h)) hK hP 0 (by omega) rfl rfl 11 (by decide) (List.mem_of_getElem? (i := 5) rfl) rfl dX9_owedOf_107 ?_
          refine lv_iload hx hb dX9_owedOf_110 (lv_at hl 2 rfl) ?_
          refine x_iald S hK hP 9 (by omega) rfl (by first | assumption | omega) (by omega) dX9_owedOf_112 ?_
          refine x_top S (y := nI (xnat (σ 9) i)) (by rw [e9]; exact hq1.2) ?_
          refine x_iaddN S dX9_owedOf_113 ?_
          refine x_iald S hK hP 7 (by omega) rfl (by first | assumption | omega) (by omega) dX9_owedOf_114 ?_
          refine x_top S (y := nI (xnm (σ 6) (xnat (σ 10) i) (xnat (σ 9) i))) (hbk _ c_31 _ hq1.1) ?_
          refine lv_iload_n hx hb dX9_owedOf_115 rfl (lv_at hl 5 rfl) ?_
          have hq3 := (hY _ c_31 _ hq1.1).1
          refine x_icmpN_ne (tgt := 132) S dX9_owedOf_116 (by decide) (by omega) (by omega) (fun c_116 => ?_) (fun c_116 => ?_)
          · refine lv_iconst (v := nI 0) hx hb dX9_owedOf_132 (by decide) ?_
            refine lv_iadd hx hb dX9_owedOf_133 ?_
            refine lv_istore (lv' := [(4, .int (((xs_owed (σ 6) Y (σ 9) (σ 10) (σ 11) h law i) + (xs_share (σ 11 i) law)) + (nI 0))), (6, .int (xs_share (σ 11 i) law)), (5, .int (nI i)), (3, .int (xt_fault (σ 6) (xLM σ))), (0, .ref (α 0)), (1, .int (nI h)), (2, .int (nI law))]) hx hb dX9_owedOf_134 hl (by decide) rfl (fun ls hl => ?_)
            refine lv_iinc (v := nI (i + 1)) (lv' := [(5, .int (nI (i + 1))), (4, .int (((xs_owed (σ 6) Y (σ 9) (σ 10) (σ 11) h law i) + (xs_share (σ 11 i) law)) + (nI 0))), (6, .int (xs_share (σ 11 i) law)), (3, .int (xt_fault (σ 6) (xLM σ))), (0, .ref (α 0)), (1, .int (nI h)), (2, .int (nI law))]) hx hb dX9_owedOf_136 hl (k := 2) rfl (nI_add i 1) (by decide) rfl (fun ls hl => ?_)
            refine lv_goto (tgt := 11) hx hb dX9_owedOf_139 (by decide) ?_
            exact ih_11 (i + 1) H locs ls ⟨(by omega), (by have h9 := lv_sub (l' := [(5, .int (nI (i + 1))), (4, .int (((xs_owed (σ 6) Y (σ 9) (σ 10) (σ 11) h law i) + (xs_share (σ 11 i) law)) + (nI 0))), (3, .int (xt_fault (σ 6) (xLM σ))), (0, .ref (α 0)), (1, .int (nI h)), (2, .int (nI law))]) hl [0, 1, 3, 4, 5, 6] rfl; rw [show ((xs_owed (σ 6) Y (σ 9) (σ 10) (σ 11) h law i) + (xs_share (σ 11 i) law)) + (nI 0) = xs_owed (σ 6) Y (σ 9) (σ 10) (σ 11) h law (i + 1) from by rw [xs_owed]; first | rw [if_neg (by omega)] | (rw [if_pos c_31, if_pos c_78, if_pos c_116] <;> rfl) | (rw [if_pos c_31, if_pos c_78, if_neg c_116] <;> rfl) | (rw [if_pos c_31, if_neg c_78, if_pos c_116] <;> rfl) | (rw [if_pos c_31, if_neg c_78, if_neg c_116] <;> rfl)] at h9; exact h9), hP, hS⟩ (by (try dsimp only); omega)
          · refine lv_aload_n hx hb dX9_owedOf_119 rfl (lv_at hl 4 rfl) ?_
            refine x_get S (fun w h => List.mem_cons_of_mem _ (List.mem_append_right _ h)) hK hP 0 (by omega) rfl rfl 13 (by decide) (List.mem_of_getElem? (i := 4) rfl) rfl dX9_owedOf_120 ?_
            refine lv_iload hx hb dX9_owedOf_123 (lv_at hl 2 rfl) ?_
            refine x_iald S hK hP 11 (by omega) rfl (by first | assumption | omega) (by omega) dX9_owedOf_125 ?_
            refine x_top S (y := σ 11 i) (by rw [e11]) ?_
            refine lv_iload hx hb dX9_owedOf_126 (lv_at hl 1 rfl) ?_
            refine lv_isub hx hb dX9_owedOf_128 ?_
            refine lv_goto (tgt := 133) hx hb dX9_owedOf_129 (by decide) ?_
            refine lv_iadd hx hb dX9_owedOf_133 ?_
            refine lv_istore (lv' := [(4, .int (((xs_owed (σ 6) Y (σ 9) (σ 10) (σ 11) h law i) + (xs_share (σ 11 i) law)) + ((σ 11 i) - (xs_share (σ 11 i) law)))), (6, .int (xs_share (σ 11 i) law)), (5, .int (nI i)), (3, .int (xt_fault (σ 6) (xLM σ))), (0, .ref (α 0)), (1, .int (nI h)), (2, .int (nI law))]) hx hb dX9_owedOf_134 hl (by decide) rfl (fun ls hl => ?_)
            refine lv_iinc (v := nI (i + 1)) (lv' := [(5, .int (nI (i + 1))), (4, .int (((xs_owed (σ 6) Y (σ 9) (σ 10) (σ 11) h law i) + (xs_share (σ 11 i) law)) + ((σ 11 i) - (xs_share (σ 11 i) law)))), (6, .int (xs_share (σ 11 i) law)), (3, .int (xt_fault (σ 6) (xLM σ))), (0, .ref (α 0)), (1, .int (nI h)), (2, .int (nI law))]) hx hb dX9_owedOf_136 hl (k := 2) rfl (nI_add i 1) (by decide) rfl (fun ls hl => ?_)
            refine lv_goto (tgt := 11) hx hb dX9_owedOf_139 (by decide) ?_
            exact ih_11 (i + 1) H locs ls ⟨(by omega), (by have h9 := lv_sub (l' := [(5, .int (nI (i + 1))), (4, .int (((xs_owed (σ 6) Y (σ 9) (σ 10) (σ 11) h law i) + (xs_share (σ 11 i) law)) + ((σ 11 i) - (xs_share (σ 11 i) law)))), (3, .int (xt_fault (σ 6) (xLM σ))), (0, .ref (α 0)), (1, .int (nI h)), (2, .int (nI law))]) hl [0, 1, 3, 4, 5, 6] rfl; rw [show ((xs_owed (σ 6) Y (σ 9) (σ 10) (σ 11) h law i) + (xs_share (σ 11 i) law)) + ((σ 11 i) - (xs_share (σ 11 i) law)) = xs_owed (σ 6) Y (σ 9) (σ 10) (σ 11) h law (i + 1) from by rw [xs_owed]; first | rw [if_neg (by omega)] | (rw [if_pos c_31, if_pos c_78, if_pos c_116] <;> rfl) | (rw [if_pos c_31, if_pos c_78, if_neg c_116] <;> rfl) | (rw [if_pos c_31, if_neg c_78, if_pos c_116] <;> rfl) | (rw [if_pos c_31, if_neg c_78, if_neg c_116] <;> rfl)] at h9; exact h9), hP, hS⟩ (by (try dsimp only); omega)
set_option maxHeartbeats 4000000 in
set_option maxRecDepth 100000 in
theorem c_X9_couldOfB (l : Launch) {D : va_G} {K : Nat → ClassId} {α : Nat → Nat} (σ : Nat → Nat → Int32) (hI : xw_I 20 α) (h0 : Nat)  (hC : xIM σ) (hh0 : h0 < 6) : Met l yX9_couldOf wsX9_couldOf (xrm 2) (va_Pc [.ref (α 0), .int (nI h0)] (xPre D K 20 α (xM α K) σ)) (xQi D 20 α (xM α K) (fun r τ => r = nI (xcb (xB (xFM σ) (σ 12) (σ 13) (σ 14) (xsM σ)) h0 720) ∧ xMs σ τ ∧ (xBk σ → xBk τ))) 0 0 (xw_R 20 α) := by
  refine Met.ofW (cc := cX9_couldOf) (maxL := 7) (ret := (some .int)) (by decide) rfl ?_
  intro p e s m args below meth c s₁ B hml hv
  obtain ⟨rfl, hK, hP⟩ := hv
  have S : CallFix p m c cX9_couldOf 7 s _ wsX9_couldOf RX9 := ⟨B.exec, B.bytes, hml, findClass_of_methodNamed B.named, atoms_spec (ws := wsX9_couldOf) B.pre⟩
  have hx := S.1
  have hb := S.2.1
  have hr := B.returns
  have hlocks := B.notSynchronized
  have hS : va_S (xw_R 20 α) s.heap s.heap [] := va_S.rf
  have hl := lv_entry ([.ref (α 0), .int (nI h0)]) (n := 7) (Nat.le_of_ble_eq_true rfl)
  rw [lg_entry_eq]
  generalize (lg_sl ([.ref (α 0), .int (nI h0)]) ++ List.replicate (7 - (lg_sl ([.ref (α 0), .int (nI h0)])).length) Slot.unset).toArray = ls at hl ⊢
  have hl : lv_has ls 7 [(0, .ref (α 0)), (1, .int (nI h0))] := hl
  have hPP := hP
  obtain ⟨_, _, ⟨hss, hsn, hs1, hs2⟩, _, _⟩ := id hC
  generalize hsne : xsM σ = sn at hss hsn hs1 hs2 ⊢
  refine lv_iconst (v := nI 0) hx hb dX9_couldOf_0 (by decide) ?_
  refine lv_istore_n (lv' := [(2, .int (nI 0)), (0, .ref (α 0)), (1, .int (nI h0))]) hx hb dX9_couldOf_1 rfl hl (by decide) rfl (fun ls hl => ?_)
  refine lv_iconst (v := nI 0) hx hb dX9_couldOf_2 (by decide) ?_
  refine lv_istore_n (lv' := [(3, .int (nI 0)), (2, .int (nI 0)), (0, .ref (α 0)), (1, .int (nI h0))]) hx hb dX9_couldOf_3 rfl hl (by decide) rfl (fun ls hl => ?_)
  refine lv_iconst (v := nI 0) hx hb dX9_couldOf_4 (by decide) ?_
  refine lv_istore (lv' := [(4, .int (nI 0)), (3, .int (nI 0)), (2, .int (nI 0)), (0, .ref (α 0)), (1, .int (nI h0))]) hx hb dX9_couldOf_5 hl (by decide) rfl (fun ls hl => ?_)
  refine x_loopW (ι := Nat × (Nat → Nat → Int32)) (fun z9 H locs ls => match z9 with | ⟨i, τ9⟩ => (i ≤ 720) ∧ (xMs σ τ9) ∧ (xBk σ → xBk τ9) ∧ lv_has ls 7 [(4, .int (nI i)), (3, .int (nI (xcb (xB (xFM σ) (σ 12) (σ 13) (σ 14) sn) h0 i))), (2, .int (nI (xctA (xB (xFM σ) (σ 12) (σ 13) (σ 14) sn) i))), (0, .ref (α 0)), (1, .int (nI h0))] ∧ va_P D vwCl (xw 20 α (xM α K) τ9) H ∧ va_S (xw_R 20 α) s.heap H locs) (fun z9 => match z9 with | ⟨i, τ9⟩ => 720 - i) ?_ (⟨0, σ⟩) ls ⟨Nat.zero_le _, xMs_rf _, id, lv_sub hl [0, 1, 2, 3, 4] rfl, hP, hS⟩
  intro z9 H locs ls hinv ih_7
  obtain ⟨i, τ9⟩ := z9
  obtain ⟨hi, hm9, hb9, hl, hP, hS⟩ := hinv
  have hl : lv_has ls 7 [(4, .int (nI i)), (3, .int (nI (xcb (xB (xFM σ) (σ 12) (σ 13) (σ 14) sn) h0 i))), (2, .int (nI (xctA (xB (xFM σ) (σ 12) (σ 13) (σ 14) sn) i))), (0, .ref (α 0)), (1, .int (nI h0))] := hl
  have hP : va_P D vwCl (xw 20 α (xM α K) τ9) H := hP
  have hq9 := xctA_le (xB (xFM σ) (σ 12) (σ 13) (σ 14) sn) i
  have hq8 := xcb_lt (xB (xFM σ) (σ 12) (σ 13) (σ 14) sn) hh0 i hi
  refine lv_iload hx hb dX9_couldOf_7 (lv_at hl 0 rfl) ?_
  refine lv_sipush (v := nI 720) hx hb dX9_couldOf_9 (by decide) ?_
  refine x_icmpN_ge (tgt := 104) S dX9_couldOf_12 (by decide) (by omega) (by omega) (fun c_12 => ?_) (fun c_12 => ?_)
  · have e9 : i = 720 := by omega
    subst e9
    refine lv_iload_n hx hb dX9_couldOf_104 rfl (lv_at hl 4 rfl) ?_
    refine lv_iconst (v := (-1)) hx hb dX9_couldOf_105 (by decide) ?_
    refine lv_icmp_ne (tgt := 113) hx hb dX9_couldOf_106 (by decide) (fun _ => ?_) (fun q => absurd q (nI_m1 (by omega)))
    refine lv_iload_n hx hb dX9_couldOf_113 rfl (lv_at hl 1 rfl) ?_
    exact x_iretW S hlocks hP hS hr rfl (⟨rfl, hm9, hb9⟩) dX9_couldOf_114
  · have hm8 : xMs σ (xst_lay τ9 (xl_r i)) := xMs_lay hm9 _
    have eF := xMs_F hm8
    have e12 : (xst_lay τ9 (xl_r i)) 12 = σ 12 := xMs_k hm8 (by decide)
    have e13 : (xst_lay τ9 (xl_r i)) 13 = σ 13 := xMs_k hm8 (by decide)
    have e14 : (xst_lay τ9 (xl_r i)) 14 = σ 14 := xMs_k hm8 (by decide)
    refine lv_aload_n hx hb dX9_couldOf_15 rfl (lv_at hl 3 rfl) ?_
    refine lv_iload hx hb dX9_couldOf_16 (lv_at hl 0 rfl) ?_
    refine x_cVWv (As := [.int (nI i)]) (rest := []) S hK hP hS (fun _ h => h) 0 (by omega) rfl rfl (c_X9_lays l τ9 hI i  (by first | assumption | omega)) (x_cwV (n0 := 1) (cq := (RX9, TX9, 24)) S gX9_couldOf_X9_lays rfl (by decide +kernel) ⟨Nat.le_of_ble_eq_true rfl, Nat.le_of_ble_eq_true rfl⟩) rfl hl.1 rfl (Nat.le_of_ble_eq_true rfl) dX9_couldOf_18 ⟨Nat.le_refl _, Nat.le_refl _⟩ (fun τ_18 H locs hr_18 hP hk_18 hS => ?_)
    subst hr_18
    refine lv_iconst (v := nI 1) hx hb dX9_couldOf_21 (by decide) ?_
    refine lv_istore (lv' := [(5, .int (nI 1)), (4, .int (nI i)), (3, .int (nI (xcb (xB (xFM σ) (σ 12) (σ 13) (σ 14) sn) h0 i))), (2, .int (nI (xctA (xB (xFM σ) (σ 12) (σ 13) (σ 14) sn) i))), (0, .ref (α 0)), (1, .int (nI h0))]) hx hb dX9_couldOf_22 hl (by decide) rfl (fun ls hl => ?_)
    refine x_cutW (ι := Unit) (pc := 60) (fun u9 H locs ls => lv_has ls 7 [(5, .int (xb (xsA (xB (xFM σ) (σ 12) (σ 13) (σ 14) sn) i))), (4, .int (nI i)), (3, .int (nI (xcb (xB (xFM σ) (σ 12) (σ 13) (σ 14) sn) h0 i))), (2, .int (nI (xctA (xB (xFM σ) (σ 12) (σ 13) (σ 14) sn) i))), (0, .ref (α 0)), (1, .int (nI h0))] ∧ va_P D vwCl (xw 20 α (xM α K) (xst_lay τ9 (xl_r i))) H ∧ va_S (xw_R 20 α) s.heap H locs) (fun u9 => []) ?_ ?_
    · intro u9 H locs ls hinv
      obtain ⟨hl, hP, hS⟩ := hinv
      have hl : lv_has ls 7 [(5, .int (xb (xsA (xB (xFM σ) (σ 12) (σ 13) (σ 14) sn) i))), (4, .int (nI i)), (3, .int (nI (xcb (xB (xFM σ) (σ 12) (σ 13) (σ 14) sn) h0 i))), (2, .int (nI (xctA (xB (xFM σ) (σ 12) (σ 13) (σ 14) sn) i))), (0, .ref (α 0)), (1, .int (nI h0))] := hl
      have hP : va_P D vwCl (xw 20 α (xM α K) (xst_lay τ9 (xl_r i))) H := hP
      show W p l e _ s m _ below meth c H locs 0 0 _ (F0 m 60 ls [])
      refine lv_iload_n hx hb dX9_couldOf_60 rfl (lv_at hl 3 rfl) ?_
      refine lv_iload hx hb dX9_couldOf_61 (lv_at hl 0 rfl) ?_
      refine x_if_eqB (tgt := 70) S dX9_couldOf_63 (by decide) (fun c_63 => ?_) (fun c_63 => ?_)
      · refine lv_iconst (v := nI 0) hx hb dX9_couldOf_70 (by decide) ?_
        refine x_iaddN S dX9_couldOf_71 ?_
        refine lv_istore_n (lv' := [(2, .int (nI ((xctA (xB (xFM σ) (σ 12) (σ 13) (σ 14) sn) i) + 0))), (5, .int (xb (xsA (xB (xFM σ) (σ 12) (σ 13) (σ 14) sn) i))), (4, .int (nI i)), (3, .int (nI (xcb (xB (xFM σ) (σ 12) (σ 13) (σ 14) sn) h0 i))), (0, .ref (α 0)), (1, .int (nI h0))]) hx hb dX9_couldOf_72 rfl hl (by decide) rfl (fun ls hl => ?_)
        refine lv_iload_n hx hb dX9_couldOf_73 rfl (lv_at hl 3 rfl) ?_
        refine lv_iload hx hb dX9_couldOf_74 (lv_at hl 1 rfl) ?_
        refine x_if_eqB (tgt := 95) S dX9_couldOf_76 (by decide) (fun c_76 => ?_) (fun c_76 => ?_)
        · refine lv_iconst (v := nI 0) hx hb dX9_couldOf_95 (by decide) ?_
          refine lv_ior hx hb dX9_couldOf_96 ?_
          refine x_top S (y := nI (xcb (xB (xFM σ) (σ 12) (σ 13) (σ 14) sn) h0 i)) (by rw [fa_or, Nat.or_zero]) ?_
          refine lv_istore_n (lv' := [(3, .int (nI (xcb (xB (xFM σ) (σ 12) (σ 13) (σ 14) sn) h0 i))), (2, .int (nI ((xctA (xB (xFM σ) (σ 12) (σ 13) (σ 14) sn) i) + 0))), (5, .int (xb (xsA (xB (xFM σ) (σ 12) (σ 13) (σ 14) sn) i))), (4, .int (nI i)), (0, .ref (α 0)), (1, .int (nI h0))]) hx hb dX9_couldOf_97 rfl hl (by decide) rfl (fun ls hl => ?_)
          refine lv_iinc (v := nI (i + 1)) (lv' := [(4, .int (nI (i + 1))), (3, .int (nI (xcb (xB (xFM σ) (σ 12) (σ 13) (σ 14) sn) h0 i))), (2, .int (nI ((xctA (xB (xFM σ) (σ 12) (σ 13) (σ 14) sn) i) + 0))), (5, .int (xb (xsA (xB (xFM σ) (σ 12) (σ 13) (σ 14) sn) i))), (0, .ref (α 0)), (1, .int (nI h0))]) hx hb dX9_couldOf_98 hl (k := 3) rfl (nI_add i 1) (by decide) rfl (fun ls hl => ?_)
          refine lv_goto (tgt := 7) hx hb dX9_couldOf_101 (by decide) ?_
          exact ih_7 (⟨i + 1, xst_lay τ9 (xl_r i)⟩) H locs ls ⟨(by omega), xMs_lay hm9 _, fun q => xBk_lay (hb9 q), (by have h9 := lv_sub (l' := [(4, .int (nI (i + 1))), (3, .int (nI (xcb (xB (xFM σ) (σ 12) (σ 13) (σ 14) sn) h0 i))), (2, .int (nI ((xctA (xB (xFM σ) (σ 12) (σ 13) (σ 14) sn) i) + 0))), (0, .ref (α 0)), (1, .int (nI h0))]) hl [0, 1, 2, 4, 5] rfl; rw [show nI ((xctA (xB (xFM σ) (σ 12) (σ 13) (σ 14) sn) i) + 0) = nI (xctA (xB (xFM σ) (σ 12) (σ 13) (σ 14) sn) (i + 1)) from by rw [xctA_s]; first | (rw [if_pos c_63] <;> rfl) | (rw [if_neg c_63] <;> rfl)] at h9; rw [show nI (xcb (xB (xFM σ) (σ 12) (σ 13) (σ 14) sn) h0 i) = nI (xcb (xB (xFM σ) (σ 12) (σ 13) (σ 14) sn) h0 (i + 1)) from by rw [xcb]; first | (rw [if_pos c_63] <;> rfl) | (rw [if_neg c_63] <;> rfl)] at h9; exact h9), hP, hS⟩ (by (try dsimp only); omega)
        · exact absurd c_76 c_63
      · refine lv_iconst (v := nI 1) hx hb dX9_couldOf_66 (by decide) ?_
        refine lv_goto (tgt := 71) hx hb dX9_couldOf_67 (by decide) ?_
        refine x_iaddN S dX9_couldOf_71 ?_
        refine lv_istore_n (lv' := [(2, .int (nI ((xctA (xB (xFM σ) (σ 12) (σ 13) (σ 14) sn) i) + 1))), (5, .int (xb (xsA (xB (xFM σ) (σ 12) (σ 13) (σ 14) sn) i))), (4, .int (nI i)), (3, .int (nI (xcb (xB (xFM σ) (σ 12) (σ 13) (σ 14) sn) h0 i))), (0, .ref (α 0)), (1, .int (nI h0))]) hx hb dX9_couldOf_72 rfl hl (by decide) rfl (fun ls hl => ?_)
        refine lv_iload_n hx hb dX9_couldOf_73 rfl (lv_at hl 3 rfl) ?_
        refine lv_iload hx hb dX9_couldOf_74 (lv_at hl 1 rfl) ?_
        refine x_if_eqB (tgt := 95) S dX9_couldOf_76 (by decide) (fun c_76 => ?_) (fun c_76 => ?_)
        · exact absurd c_63 c_76
        · refine lv_iload_n hx hb dX9_couldOf_79 rfl (lv_at hl 5 rfl) ?_
          refine lv_iconst (v := (-1)) hx hb dX9_couldOf_80 (by decide) ?_
          refine lv_icmp_eq (tgt := 95) hx hb dX9_couldOf_81 (by decide) (fun q => absurd q (nI_m1 (by omega))) (fun _ => ?_)
          have hw9 := xl_r_lt (k := i) (h := h0) (by omega) hh0
          refine lv_iconst (v := nI 1) hx hb dX9_couldOf_84 (by decide) ?_
          refine lv_aload_n hx hb dX9_couldOf_85 rfl (lv_at hl 4 rfl) ?_
          refine x_get S (fun w h => List.mem_cons_of_mem _ (List.mem_append_right _ h)) hK hP 0 (by omega) rfl rfl 9 (by decide) (List.mem_of_getElem? (i := 1) rfl) rfl dX9_couldOf_86 ?_
          refine lv_iload_n hx hb dX9_couldOf_89 rfl (lv_at hl 5 rfl) ?_
          refine x_iald S hK hP 8 (by omega) rfl (by first | assumption | omega) (by omega) dX9_couldOf_90 ?_
          refine x_top S (y := nI (xl_r i h0)) (xlay_8 _ _ hh0) ?_
          refine lv_ishl hx hb dX9_couldOf_91 ?_
          refine x_top S (y := nI (2 ^ xl_r i h0)) (xsh (by omega)) ?_
          refine lv_goto (tgt := 96) hx hb dX9_couldOf_92 (by decide) ?_
          refine lv_ior hx hb dX9_couldOf_96 ?_
          refine x_top S (y := nI (xcb (xB (xFM σ) (σ 12) (σ 13) (σ 14) sn) h0 i ||| 2 ^ xl_r i h0)) (fa_or _ _) ?_
          refine lv_istore_n (lv' := [(3, .int (nI (xcb (xB (xFM σ) (σ 12) (σ 13) (σ 14) sn) h0 i ||| 2 ^ xl_r i h0))), (2, .int (nI ((xctA (xB (xFM σ) (σ 12) (σ 13) (σ 14) sn) i) + 1))), (5, .int (xb (xsA (xB (xFM σ) (σ 12) (σ 13) (σ 14) sn) i))), (4, .int (nI i)), (0, .ref (α 0)), (1, .int (nI h0))]) hx hb dX9_couldOf_97 rfl hl (by decide) rfl (fun ls hl => ?_)
          refine lv_iinc (v := nI (i + 1)) (lv' := [(4, .int (nI (i + 1))), (3, .int (nI (xcb (xB (xFM σ) (σ 12) (σ 13) (σ 14) sn) h0 i ||| 2 ^ xl_r i h0))), (2, .int (nI ((xctA (xB (xFM σ) (σ 12) (σ 13) (σ 14) sn) i) + 1))), (5, .int (xb (xsA (xB (xFM σ) (σ 12) (σ 13) (σ 14) sn) i))), (0, .ref (α 0)), (1, .int (nI h0))]) hx hb dX9_couldOf_98 hl (k := 3) rfl (nI_add i 1) (by decide) rfl (fun ls hl => ?_)
          refine lv_goto (tgt := 7) hx hb dX9_couldOf_101 (by decide) ?_
          exact ih_7 (⟨i + 1, xst_lay τ9 (xl_r i)⟩) H locs ls ⟨(by omega), xMs_lay hm9 _, fun q => xBk_lay (hb9 q), (by have h9 := lv_sub (l' := [(4, .int (nI (i + 1))), (3, .int (nI (xcb (xB (xFM σ) (σ 12) (σ 13) (σ 14) sn) h0 i ||| 2 ^ xl_r i h0))), (2, .int (nI ((xctA (xB (xFM σ) (σ 12) (σ 13) (σ 14) sn) i) + 1))), (0, .ref (α 0)), (1, .int (nI h0))]) hl [0, 1, 2, 4, 5] rfl; rw [show nI ((xctA (xB (xFM σ) (σ 12) (σ 13) (σ 14) sn) i) + 1) = nI (xctA (xB (xFM σ) (σ 12) (σ 13) (σ 14) sn) (i + 1)) from by rw [xctA_s]; first | (rw [if_pos c_63] <;> rfl) | (rw [if_neg c_63] <;> rfl)] at h9; rw [show nI (xcb (xB (xFM σ) (σ 12) (σ 13) (σ 14) sn) h0 i ||| 2 ^ xl_r i h0) = nI (xcb (xB (xFM σ) (σ 12) (σ 13) (σ 14) sn) h0 (i + 1)) from by rw [xcb]; first | (rw [if_pos c_63] <;> rfl) | (rw [if_neg c_63] <;> rfl)] at h9; exact h9), hP, hS⟩ (by (try dsimp only); omega)
    · intro kc_60
      refine lv_iconst (v := nI 0) hx hb dX9_couldOf_24 (by decide) ?_
      refine lv_istore (lv' := [(6, .int (nI 0)), (5, .int (nI 1)), (4, .int (nI i)), (3, .int (nI (xcb (xB (xFM σ) (σ 12) (σ 13) (σ 14) sn) h0 i))), (2, .int (nI (xctA (xB (xFM σ) (σ 12) (σ 13) (σ 14) sn) i))), (0, .ref (α 0)), (1, .int (nI h0))]) hx hb dX9_couldOf_25 hl (by decide) rfl (fun ls hl => ?_)
      refine x_loopW (ι := Nat) (fun h H locs ls => (h ≤ 6) ∧ lv_has ls 7 [(6, .int (nI h)), (5, .int (xb (xall (fun h => (xB (xFM σ) (σ 12) (σ 13) (σ 14) sn h).testBit (xl_r i h) = true) h))), (4, .int (nI i)), (3, .int (nI (xcb (xB (xFM σ) (σ 12) (σ 13) (σ 14) sn) h0 i))), (2, .int (nI (xctA (xB (xFM σ) (σ 12) (σ 13) (σ 14) sn) i))), (0, .ref (α 0)), (1, .int (nI h0))] ∧ va_P D vwCl (xw 20 α (xM α K) (xst_lay τ9 (xl_r i))) H ∧ va_S (xw_R 20 α) s.heap H locs) (fun h => 6 - h) ?_ 0 ls ⟨Nat.zero_le _, (by have h9 := lv_sub (l' := [(6, .int (nI 0)), (5, .int (nI 1)), (4, .int (nI i)), (3, .int (nI (xcb (xB (xFM σ) (σ 12) (σ 13) (σ 14) sn) h0 i))), (2, .int (nI (xctA (xB (xFM σ) (σ 12) (σ 13) (σ 14) sn) i))), (0, .ref (α 0)), (1, .int (nI h0))]) hl [0, 1, 2, 3, 4, 5, 6] rfl; rw [show nI 1 = xb (xall (fun h => (xB (xFM σ) (σ 12) (σ 13) (σ 14) sn h).testBit (xl_r i h) = true) 0) from (xb_t (xall_of (fun j hj => absurd hj (Nat.not_lt_zero j)))).symm] at h9; exact h9), hP, hS⟩
      intro h H locs ls hinv ih_27
      obtain ⟨hh6, hl, hP, hS⟩ := hinv
      have hl : lv_has ls 7 [(6, .int (nI h)), (5, .int (xb (xall (fun h => (xB (xFM σ) (σ 12) (σ 13) (σ 14) sn h).testBit (xl_r i h) = true) h))), (4, .int (nI i)), (3, .int (nI (xcb (xB (xFM σ) (σ 12) (σ 13) (σ 14) sn) h0 i))), (2, .int (nI (xctA (xB (xFM σ) (σ 12) (σ 13) (σ 14) sn) i))), (0, .ref (α 0)), (1, .int (nI h0))] := hl
      have hP : va_P D vwCl (xw 20 α (xM α K) (xst_lay τ9 (xl_r i))) H := hP
      refine lv_iload hx hb dX9_couldOf_27 (lv_at hl 0 rfl) ?_
      refine lv_bipush (v := nI 6) hx hb dX9_couldOf_29 (by decide) ?_
      refine x_icmpN_ge (tgt := 60) S dX9_couldOf_31 (by decide) (by omega) (by omega) (fun c_31 => ?_) (fun c_31 => ?_)
      · have e9 : h = 6 := by omega
        exact kc_60 () _ _ ls ⟨(by have h9 := lv_sub (l' := [(5, .int (xb (xall (fun h => (xB (xFM σ) (σ 12) (σ 13) (σ 14) sn h).testBit (xl_r i h) = true) h))), (4, .int (nI i)), (3, .int (nI (xcb (xB (xFM σ) (σ 12) (σ 13) (σ 14) sn) h0 i))), (2, .int (nI (xctA (xB (xFM σ) (σ 12) (σ 13) (σ 14) sn) i))), (0, .ref (α 0)), (1, .int (nI h0))]) hl [1, 2, 3, 4, 5, 6] rfl; rw [show xb (xall (fun h => (xB (xFM σ) (σ 12) (σ 13) (σ 14) sn h).testBit (xl_r i h) = true) h) = xb (xsA (xB (xFM σ) (σ 12) (σ 13) (σ 14) sn) i) from (by first | (rw [e9]) | exact xb_iff ⟨fun q => absurd q c_36, fun q => xall_of (fun j hj => xall_to q j (by omega))⟩)] at h9; exact h9), hP, hS⟩
      · have hw9 := xl_r_lt (k := i) (h := h) (by omega) (by omega)
        refine lv_iload hx hb dX9_couldOf_34 (lv_at hl 1 rfl) ?_
        refine x_if_eqB (tgt := 60) S dX9_couldOf_36 (by decide) (fun c_36 => ?_) (fun c_36 => ?_)
        · exact kc_60 () _ _ ls ⟨(by have h9 := lv_sub (l' := [(5, .int (xb (xall (fun h => (xB (xFM σ) (σ 12) (σ 13) (σ 14) sn h).testBit (xl_r i h) = true) h))), (4, .int (nI i)), (3, .int (nI (xcb (xB (xFM σ) (σ 12) (σ 13) (σ 14) sn) h0 i))), (2, .int (nI (xctA (xB (xFM σ) (σ 12) (σ 13) (σ 14) sn) i))), (0, .ref (α 0)), (1, .int (nI h0))]) hl [1, 2, 3, 4, 5, 6] rfl; rw [show xb (xall (fun h => (xB (xFM σ) (σ 12) (σ 13) (σ 14) sn h).testBit (xl_r i h) = true) h) = xb (xsA (xB (xFM σ) (σ 12) (σ 13) (σ 14) sn) i) from (by first | (rw [e9]) | exact xb_iff ⟨fun q => absurd q c_36, fun q => xall_of (fun j hj => xall_to q j (by omega))⟩)] at h9; exact h9), hP, hS⟩
        · refine lv_aload_n hx hb dX9_couldOf_39 rfl (lv_at hl 5 rfl) ?_
          refine lv_iload hx hb dX9_couldOf_40 (lv_at hl 0 rfl) ?_
          refine lv_aload_n hx hb dX9_couldOf_42 rfl (lv_at hl 5 rfl) ?_
          refine x_get S (fun w h => List.mem_cons_of_mem _ (List.mem_append_right _ h)) hK hP 0 (by omega) rfl rfl 9 (by decide) (List.mem_of_getElem? (i := 1) rfl) rfl dX9_couldOf_43 ?_
          refine lv_iload hx hb dX9_couldOf_46 (lv_at hl 0 rfl) ?_
          refine x_iald S hK hP 8 (by omega) rfl (by first | assumption | omega) (by omega) dX9_couldOf_48 ?_
          refine x_top S (y := nI (xl_r i h)) (xlay_8 _ _ (by omega)) ?_
          refine x_cVRi (As := [.int (nI h), .int (nI (xl_r i h))]) (rest := []) S hK hP 0 (by omega) rfl rfl (c_X9_isSeen l (xst_lay τ9 (xl_r i)) h (xl_r i h) sn  (by rw [hm8.2 14 (by decide)]; exact hss) (by first | assumption | omega) (by rw [e12]; exact hs1) (by rw [e13]; exact hs2) (by first | assumption | omega) (by first | assumption | omega)) (x_cwV (n0 := 2) (cq := (RX9, TX9, 24)) S gX9_couldOf_X9_isSeen rfl (by decide +kernel) ⟨Nat.le_of_ble_eq_true rfl, Nat.le_of_ble_eq_true rfl⟩) rfl hl.1 rfl (Nat.le_of_ble_eq_true rfl) dX9_couldOf_49 ⟨Nat.le_refl _, Nat.le_refl _⟩ (fun r_49 hr_49 => ?_)
          subst hr_49
          refine x_top S (y := xb (xall (fun h => (xB (xFM σ) (σ 12) (σ 13) (σ 14) sn h).testBit (xl_r i h) = true) (h + 1))) (by rw [eF, e12, e13, e14]; exact xb_iff (xall_1 c_36)) ?_
          refine lv_istore (lv' := [(5, .int (xb (xall (fun h => (xB (xFM σ) (σ 12) (σ 13) (σ 14) sn h).testBit (xl_r i h) = true) (h + 1)))), (6, .int (nI h)), (4, .int (nI i)), (3, .int (nI (xcb (xB (xFM σ) (σ 12) (σ 13) (σ 14) sn) h0 i))), (2, .int (nI (xctA (xB (xFM σ) (σ 12) (σ 13) (σ 14) sn) i))), (0, .ref (α 0)), (1, .int (nI h0))]) hx hb dX9_couldOf_52 hl (by decide) rfl (fun ls hl => ?_)
          refine lv_iinc (v := nI (h + 1)) (lv' := [(6, .int (nI (h + 1))), (5, .int (xb (xall (fun h => (xB (xFM σ) (σ 12) (σ 13) (σ 14) sn h).testBit (xl_r i h) = true) (h + 1)))), (4, .int (nI i)), (3, .int (nI (xcb (xB (xFM σ) (σ 12) (σ 13) (σ 14) sn) h0 i))), (2, .int (nI (xctA (xB (xFM σ) (σ 12) (σ 13) (σ 14) sn) i))), (0, .ref (α 0)), (1, .int (nI h0))]) hx hb dX9_couldOf_54 hl (k := 1) rfl (nI_add h 1) (by decide) rfl (fun ls hl => ?_)
          refine lv_goto (tgt := 27) hx hb dX9_couldOf_57 (by decide) ?_
          exact ih_27 (h + 1) H locs ls ⟨(by omega), lv_sub hl [0, 1, 2, 3, 4, 5, 6] rfl, hP, hS⟩ (by (try dsimp only); omega)
set_option maxHeartbeats 4000000 in
set_option maxRecDepth 100000 in
theorem c_X9_digest (l : Launch) {D : va_G} {K : Nat → ClassId} {α : Nat → Nat} (σ : Nat → Nat → Int32) (hI : xw_I 20 α)   (hC : xIM σ) : Met l yX9_digest wsX9_digest (xrm 5) (va_Pc [.ref (α 0)] (xPre D K 20 α (xM α K) σ)) (xQl D 20 α (xM α K) (fun r τ => r = xdig (xFM σ) (σ 6) (xYM σ) (xLM σ) (σ 9) (σ 10) (σ 11) (xcM σ) (xB (xFM σ) (σ 12) (σ 13) (σ 14) (xsM σ)) (xsM σ) (σ 0 23) ∧ xMs σ τ)) 0 0 (xw_R 20 α) := by
  refine Met.ofW (cc := cX9_digest) (maxL := 5) (ret := (some .long)) (by decide) rfl ?_
  intro p e s m args below meth c s₁ B hml hv
  obtain ⟨rfl, hK, hP⟩ := hv
  have S : CallFix p m c cX9_digest 5 s _ wsX9_digest RX9 := ⟨B.exec, B.bytes, hml, findClass_of_methodNamed B.named, atoms_spec (ws := wsX9_digest) B.pre⟩
  have hx := S.1
  have hb := S.2.1
  have hr := B.returns
  have hlocks := B.notSynchronized
  have hS : va_S (xw_R 20 α) s.heap s.heap [] := va_S.rf
  have hl := lv_entry ([.ref (α 0)]) (n := 5) (Nat.le_of_ble_eq_true rfl)
  rw [lg_entry_eq]
  generalize (lg_sl ([.ref (α 0)]) ++ List.replicate (5 - (lg_sl ([.ref (α 0)])).length) Slot.unset).toArray = ls at hl ⊢
  have hl : lv_has ls 5 [(0, .ref (α 0))] := hl
  have hPP := hP
  have hY := xIM_Y hC
  have hY12 := xIM_12 hC
  have hPm := xIM_P hC
  have hfe := hC.2.2.2.1
  have hE : ∀ h, h < 6 → ∀ n, n < 6 → xE (xFM σ) h n ≤ 9 := fun h _ n hn => (xE_ok (F := xFM σ) hfe h hn).2
  obtain ⟨HV, hHV⟩ : ∃ z, z = (xhv (xFM σ) (σ 6) (xYM σ) (σ 9) (σ 10) (σ 11) (xcM σ) (xB (xFM σ) (σ 12) (σ 13) (σ 14) (xsM σ))) := ⟨_, rfl⟩
  obtain ⟨d0, hd0⟩ : ∃ z, z = (31 * xfold 17 (fun k => (xp_count (xcv (xFM σ) (σ 6) (xYM σ) (xLM σ) (xcM σ) (xsM σ) (σ 0 23)) (nI k)).toInt64) 8 + (xt_fault (σ 6) (xLM σ)).toInt64) := ⟨_, rfl⟩
  obtain ⟨d1, hd1⟩ : ∃ z, z = xfold2 d0 HV 15 6 := ⟨_, rfl⟩
  obtain ⟨DV, hDV⟩ : ∃ z, z = (fun n j => (xp_debt (xFM σ) (σ 6) (xYM σ) (nI n) (nI (xYM σ)) (nI j)).toInt64) := ⟨_, rfl⟩
  obtain ⟨d2, hd2⟩ : ∃ z, z = xfold2 d1 DV 2 6 := ⟨_, rfl⟩
  obtain ⟨YV, hYV⟩ : ∃ z, z = (xyv (xFM σ) (σ 6) (xYM σ)) := ⟨_, rfl⟩
  obtain ⟨d3, hd3⟩ : ∃ z, z = xfold2 d2 YV 3 (xYM σ) := ⟨_, rfl⟩
  obtain ⟨EV, hEV⟩ : ∃ z, z = (xev (xFM σ) (σ 6) (xYM σ) (σ 9) (σ 10) (xcM σ) (xB (xFM σ) (σ 12) (σ 13) (σ 14) (xsM σ))) := ⟨_, rfl⟩
  refine lv_ldc2 hx hb S.2.2.2.1 (S.2.2.2.2 (.constantLong RX9 212 (17)) (List.mem_of_getElem? (i := 1) rfl)) dX9_digest_0 ?_
  refine lv_lstore_n (lv' := [(1, .long (17 : Int64)), (0, .ref (α 0))]) hx hb dX9_digest_3 rfl hl (by decide) rfl (fun ls hl => ?_)
  refine lv_iconst (v := nI 0) hx hb dX9_digest_4 (by decide) ?_
  refine lv_istore_n (lv' := [(3, .int (nI 0)), (1, .long (17 : Int64)), (0, .ref (α 0))]) hx hb dX9_digest_5 rfl hl (by decide) rfl (fun ls hl => ?_)
  refine x_loopW (ι := Nat × (Nat → Nat → Int32)) (fun z9 H locs ls => match z9 with | ⟨i, τ9⟩ => (i ≤ 8) ∧ (xMs σ τ9) ∧ lv_has ls 5 [(3, .int (nI i)), (1, .long (xfold 17 (fun k => (xp_count (xcv (xFM σ) (σ 6) (xYM σ) (xLM σ) (xcM σ) (xsM σ) (σ 0 23)) (nI k)).toInt64) i)), (0, .ref (α 0))] ∧ va_P D vwCl (xw 20 α (xM α K) τ9) H ∧ va_S (xw_R 20 α) s.heap H locs) (fun z9 => match z9 with | ⟨i, τ9⟩ => 8 - i) ?_ (⟨0, σ⟩) ls ⟨Nat.zero_le _, xMs_rf _, lv_sub hl [0, 1, 2] rfl, hP, hS⟩
  intro z9 H locs ls hinv ih_6
  obtain ⟨i, τ9⟩ := z9
  obtain ⟨hi, hm9, hl, hP, hS⟩ := hinv
  have hl : lv_has ls 5 [(3, .int (nI i)), (1, .long (xfold 17 (fun k => (xp_count (xcv (xFM σ) (σ 6) (xYM σ) (xLM σ) (xcM σ) (xsM σ) (σ 0 23)) (nI k)).toInt64) i)), (0, .ref (α 0))] := hl
  have hP : va_P D vwCl (xw 20 α (xM α K) τ9) H := hP
  refine lv_iload_n hx hb dX9_digest_6 rfl (lv_at hl 0 rfl) ?_
  refine lv_bipush (v := nI 8) hx hb dX9_digest_7 (by decide) ?_
  refine x_icmpN_ge (tgt := 31) S dX9_digest_9 (by decide) (by omega) (by omega) (fun c_9 => ?_) (fun c_9 => ?_)
  · have e9 : i = 8 := by omega
    subst e9
    refine lv_ldc2 hx hb S.2.2.2.1 (S.2.2.2.2 (.constantLong RX9 214 (31)) (List.mem_of_getElem? (i := 2) rfl)) dX9_digest_31 ?_
    refine lv_lload_n hx hb dX9_digest_34 rfl (lv_at hl 1 rfl) ?_
    refine lv_lmul hx hb dX9_digest_35 ?_
    refine lv_aload_n hx hb dX9_digest_36 rfl (lv_at hl 2 rfl) ?_
    refine x_cVWi (As := []) (rest := [.long ((31 : Int64) * (xfold 17 (fun k => (xp_count (xcv (xFM σ) (σ 6) (xYM σ) (xLM σ) (xcM σ) (xsM σ) (σ 0 23)) (nI k)).toInt64) 8))]) S hK hP hS (fun _ h => h) 0 (by omega) rfl rfl (c_X9_faultNow l τ9 hI   (xMs_IM hm9 hC)) (x_cwV (n0 := 0) (cq := (RX9, TX9, 24)) S gX9_digest_X9_faultNow rfl (by decide +kernel) ⟨Nat.le_of_ble_eq_true rfl, Nat.le_of_ble_eq_true rfl⟩) rfl hl.1 rfl (Nat.le_of_ble_eq_true rfl) dX9_digest_37 ⟨Nat.le_refl _, Nat.le_refl _⟩ (fun r_37 τ_37 H locs hr_37 hP hk_37 hS => ?_)
    obtain ⟨hr_37, hms_37, hbk_37⟩ := hr_37
    subst hr_37
    refine x_top S (y := xt_fault (σ 6) (xLM σ)) (by rw [xMs_k (k := 6) hm9 (by decide), xMs_L hm9]) ?_
    refine lv_i2l hx hb dX9_digest_40 rfl ?_
    refine lv_ladd hx hb dX9_digest_41 ?_
    refine x_topL S (y := d0) (hd0.symm) ?_
    refine lv_lstore_n (lv' := [(1, .long d0), (3, .int (nI 8)), (0, .ref (α 0))]) hx hb dX9_digest_42 rfl hl (by decide) rfl (fun ls hl => ?_)
    refine lv_iconst (v := nI 0) hx hb dX9_digest_43 (by decide) ?_
    refine lv_istore_n (lv' := [(3, .int (nI 0)), (1, .long d0), (0, .ref (α 0))]) hx hb dX9_digest_44 rfl hl (by decide) rfl (fun ls hl => ?_)
    refine x_loopW (ι := Nat × (Nat → Nat → Int32)) (fun z9 H locs ls => match z9 with | ⟨i, τ8⟩ => (i ≤ 6) ∧ (xMs σ τ8) ∧ (xBk τ8) ∧ lv_has ls 5 [(3, .int (nI i)), (1, .long (xfold2 d0 HV 15 i)), (0, .ref (α 0))] ∧ va_P D vwCl (xw 20 α (xM α K) τ8) H ∧ va_S (xw_R 20 α) s.heap H locs) (fun z9 => match z9 with | ⟨i, τ8⟩ => 6 - i) ?_ (⟨0, τ_37⟩) ls ⟨Nat.zero_le _, xMs_tr hm9 hms_37, hbk_37, lv_sub hl [0, 1, 2] rfl, hP, hS⟩
    intro z9 H locs ls hinv ih_45
    obtain ⟨i, τ8⟩ := z9
    obtain ⟨hi, hs, hb8, hl, hP, hS⟩ := hinv
    have hl : lv_has ls 5 [(3, .int (nI i)), (1, .long (xfold2 d0 HV 15 i)), (0, .ref (α 0))] := hl
    have hP : va_P D vwCl (xw 20 α (xM α K) τ8) H := hP
    obtain ⟨hyr, hbk⟩ := xBk_of hs hb8
    have eF := xMs_F hs
    have e6 : τ8 6 = σ 6 := xMs_k hs (by decide)
    have hC1 := xMs_IM hs hC
    refine lv_iload_n hx hb dX9_digest_45 rfl (lv_at hl 0 rfl) ?_
    refine lv_bipush (v := nI 6) hx hb dX9_digest_46 (by decide) ?_
    refine x_icmpN_ge (tgt := 261) S dX9_digest_48 (by decide) (by omega) (by omega) (fun c_48 => ?_) (fun c_48 => ?_)
    · have e9 : i = 6 := by omega
      subst e9
      rw [show xfold2 d0 HV 15 6 = d1 from hd1.symm] at hl
      refine lv_iconst (v := nI 0) hx hb dX9_digest_261 (by decide) ?_
      refine lv_istore_n (lv' := [(3, .int (nI 0)), (1, .long d1), (0, .ref (α 0))]) hx hb dX9_digest_262 rfl hl (by decide) rfl (fun ls hl => ?_)
      refine x_loopW (ι := Nat) (fun i H locs ls => (i ≤ 6) ∧ lv_has ls 5 [(3, .int (nI i)), (1, .long (xfold2 d1 DV 2 i)), (0, .ref (α 0))] ∧ va_P D vwCl (xw 20 α (xM α K) τ8) H ∧ va_S (xw_R 20 α) s.heap H locs) (fun i => 6 - i) ?_ 0 ls ⟨Nat.zero_le _, lv_sub hl [0, 1, 2] rfl, hP, hS⟩
      intro i H locs ls hinv ih_263
      obtain ⟨hi, hl, hP, hS⟩ := hinv
      have hl : lv_has ls 5 [(3, .int (nI i)), (1, .long (xfold2 d1 DV 2 i)), (0, .ref (α 0))] := hl
      have hP : va_P D vwCl (xw 20 α (xM α K) τ8) H := hP
      refine lv_iload_n hx hb dX9_digest_263 rfl (lv_at hl 0 rfl) ?_
      refine lv_bipush (v := nI 6) hx hb dX9_digest_264 (by decide) ?_
      refine x_icmpN_ge (tgt := 311) S dX9_digest_266 (by decide) (by omega) (by omega) (fun c_266 => ?_) (fun c_266 => ?_)
      · have e9 : i = 6 := by omega
        subst e9
        rw [show xfold2 d1 DV 2 6 = d2 from hd2.symm] at hl
        refine lv_iconst (v := nI 0) hx hb dX9_digest_311 (by decide) ?_
        refine lv_istore_n (lv' := [(3, .int (nI 0)), (1, .long d2), (0, .ref (α 0))]) hx hb dX9_digest_312 rfl hl (by decide) rfl (fun ls hl => ?_)
        refine x_loopW (ι := Nat) (fun i H locs ls => (i ≤ xYM σ) ∧ lv_has ls 5 [(3, .int (nI i)), (1, .long (xfold2 d2 YV 3 i)), (0, .ref (α 0))] ∧ va_P D vwCl (xw 20 α (xM α K) τ8) H ∧ va_S (xw_R 20 α) s.heap H locs) (fun i => xYM σ - i) ?_ 0 ls ⟨Nat.zero_le _, lv_sub hl [0, 1, 2] rfl, hP, hS⟩
        intro i H locs ls hinv ih_313
        obtain ⟨hi, hl, hP, hS⟩ := hinv
        have hl : lv_has ls 5 [(3, .int (nI i)), (1, .long (xfold2 d2 YV 3 i)), (0, .ref (α 0))] := hl
        have hP : va_P D vwCl (xw 20 α (xM α K) τ8) H := hP
        refine lv_iload_n hx hb dX9_digest_313 rfl (lv_at hl 0 rfl) ?_
        refine lv_aload_n hx hb dX9_digest_314 rfl (lv_at hl 2 rfl) ?_
        refine x_get S (fun w h => List.mem_cons_of_mem _ (List.mem_append_right _ h)) hK hP 0 (by omega) rfl rfl 7 (by decide) (List.mem_of_getElem? (i := 3) rfl) rfl dX9_digest_315 ?_
        refine x_top S (y := nI (xYM σ)) (hyr) ?_
        refine x_icmpN_ge (tgt := 369) S dX9_digest_318 (by decide) (by omega) (by omega) (fun c_318 => ?_) (fun c_318 => ?_)
        · have e9 : i = xYM σ := by omega
          subst e9
          rw [show xfold2 d2 YV 3 (xYM σ) = d3 from hd3.symm] at hl
          refine lv_ldc2 hx hb S.2.2.2.1 (S.2.2.2.2 (.constantLong RX9 214 (31)) (List.mem_of_getElem? (i := 2) rfl)) dX9_digest_369 ?_
          refine lv_lload_n hx hb dX9_digest_372 rfl (lv_at hl 1 rfl) ?_
          refine lv_lmul hx hb dX9_digest_373 ?_
          refine lv_aload_n hx hb dX9_digest_374 rfl (lv_at hl 2 rfl) ?_
          refine lv_iconst (v := (-1)) hx hb dX9_digest_375 (by decide) ?_
          refine x_cVWi (As := [.int (-1 : Int32)]) (rest := [.long ((31 : Int64) * d3)]) S hK hP hS (fun _ h => h) 0 (by omega) rfl rfl (c_X9_soundOf l τ8 hI   ) (x_cwV (n0 := 1) (cq := (RX9, TX9, 24)) S gX9_digest_X9_soundOf rfl (by decide +kernel) ⟨Nat.le_of_ble_eq_true rfl, Nat.le_of_ble_eq_true rfl⟩) rfl hl.1 rfl (Nat.le_of_ble_eq_true rfl) dX9_digest_376 ⟨Nat.le_refl _, Nat.le_refl _⟩ (fun r_376 τ_376 H locs hr_376 hP hk_376 hS => ?_)
          obtain ⟨hr_376, hms_376⟩ := hr_376
          subst hr_376
          have hs2 := xMs_tr hs hms_376
          refine x_top S (y := xp_sound (xA (xFM σ)) (-1)) (by rw [eF, xson_eq, xp_sound, if_pos rfl]) ?_
          refine lv_i2l hx hb dX9_digest_379 rfl ?_
          refine lv_ladd hx hb dX9_digest_380 ?_
          refine x_topL S (y := xfold d3 EV 1) (by rw [hEV]; rfl) ?_
          refine lv_lstore_n (lv' := [(1, .long (xfold d3 EV 1)), (3, .int (nI (xYM σ))), (0, .ref (α 0))]) hx hb dX9_digest_381 rfl hl (by decide) rfl (fun ls hl => ?_)
          refine lv_ldc2 hx hb S.2.2.2.1 (S.2.2.2.2 (.constantLong RX9 214 (31)) (List.mem_of_getElem? (i := 2) rfl)) dX9_digest_382 ?_
          refine lv_lload_n hx hb dX9_digest_385 rfl (lv_at hl 0 rfl) ?_
          refine lv_lmul hx hb dX9_digest_386 ?_
          refine lv_aload_n hx hb dX9_digest_387 rfl (lv_at hl 2 rfl) ?_
          refine lv_iconst (v := (-1)) hx hb dX9_digest_388 (by decide) ?_
          refine x_cVWi (As := [.int (-1 : Int32)]) (rest := [.long ((31 : Int64) * (xfold d3 EV 1))]) S hK hP hS (fun _ h => h) 0 (by omega) rfl rfl (c_X9_bestOf l τ_376 hI   (xMs_IM hs2 hC)) (x_cwV (n0 := 1) (cq := (RX9, TX9, 24)) S gX9_digest_X9_bestOf rfl (by decide +kernel) ⟨Nat.le_of_ble_eq_true rfl, Nat.le_of_ble_eq_true rfl⟩) rfl hl.1 rfl (Nat.le_of_ble_eq_true rfl) dX9_digest_389 ⟨Nat.le_refl _, Nat.le_refl _⟩ (fun r_389 τ_389 H locs hr_389 hP hk_389 hS => ?_)
          obtain ⟨hr_389, hms_389⟩ := hr_389
          subst hr_389
          have hs3 := xMs_tr hs2 hms_389
          refine x_top S (y := xp_best (xE (xFM σ)) (-1)) (by rw [xMs_F hs2, (xbest_eq hE).1, xp_best, if_pos rfl]) ?_
          refine lv_i2l hx hb dX9_digest_392 rfl ?_
          refine lv_ladd hx hb dX9_digest_393 ?_
          refine x_topL S (y := xfold d3 EV 2) (by rw [hEV]; rfl) ?_
          refine lv_lstore_n (lv' := [(1, .long (xfold d3 EV 2)), (3, .int (nI (xYM σ))), (0, .ref (α 0))]) hx hb dX9_digest_394 rfl hl (by decide) rfl (fun ls hl => ?_)
          refine lv_ldc2 hx hb S.2.2.2.1 (S.2.2.2.2 (.constantLong RX9 214 (31)) (List.mem_of_getElem? (i := 2) rfl)) dX9_digest_395 ?_
          refine lv_lload_n hx hb dX9_digest_398 rfl (lv_at hl 0 rfl) ?_
          refine lv_lmul hx hb dX9_digest_399 ?_
          refine lv_aload_n hx hb dX9_digest_400 rfl (lv_at hl 2 rfl) ?_
          refine lv_iconst (v := (-1)) hx hb dX9_digest_401 (by decide) ?_
          refine x_cVWi (As := [.int (-1 : Int32)]) (rest := [.long ((31 : Int64) * (xfold d3 EV 2))]) S hK hP hS (fun _ h => h) 0 (by omega) rfl rfl (c_X9_couldOf l τ_389 hI   (xMs_IM hs3 hC)) (x_cwV (n0 := 1) (cq := (RX9, TX9, 24)) S gX9_digest_X9_couldOf rfl (by decide +kernel) ⟨Nat.le_of_ble_eq_true rfl, Nat.le_of_ble_eq_true rfl⟩) rfl hl.1 rfl (Nat.le_of_ble_eq_true rfl) dX9_digest_402 ⟨Nat.le_refl _, Nat.le_refl _⟩ (fun r_402 τ_402 H locs hr_402 hP hk_402 hS => ?_)
          obtain ⟨hr_402, hms_402⟩ := hr_402
          subst hr_402
          have hs4 := xMs_tr hs3 hms_402
          refine x_top S (y := xp_could (xB (xFM σ) (σ 12) (σ 13) (σ 14) (xsM σ)) (-1)) (by rw [xMs_F hs3, xMs_k (k := 12) hs3 (by decide), xMs_k (k := 13) hs3 (by decide), xMs_k (k := 14) hs3 (by decide), xMs_s hs3, xctA, xrow_count, xp_could, if_pos rfl]) ?_
          refine lv_i2l hx hb dX9_digest_405 rfl ?_
          refine lv_ladd hx hb dX9_digest_406 ?_
          refine x_topL S (y := xfold d3 EV 3) (by rw [hEV]; rfl) ?_
          refine lv_lstore_n (lv' := [(1, .long (xfold d3 EV 3)), (3, .int (nI (xYM σ))), (0, .ref (α 0))]) hx hb dX9_digest_407 rfl hl (by decide) rfl (fun ls hl => ?_)
          refine lv_ldc2 hx hb S.2.2.2.1 (S.2.2.2.2 (.constantLong RX9 214 (31)) (List.mem_of_getElem? (i := 2) rfl)) dX9_digest_408 ?_
          refine lv_lload_n hx hb dX9_digest_411 rfl (lv_at hl 0 rfl) ?_
          refine lv_lmul hx hb dX9_digest_412 ?_
          refine lv_aload_n hx hb dX9_digest_413 rfl (lv_at hl 2 rfl) ?_
          refine x_cVWi (As := []) (rest := [.long ((31 : Int64) * (xfold d3 EV 3))]) S hK hP hS (fun _ h => h) 0 (by omega) rfl rfl (c_X9_disputedNow l τ_402 hI   (xMs_IM hs4 hC)) (x_cwV (n0 := 0) (cq := (RX9, TX9, 24)) S gX9_digest_X9_disputedNow rfl (by decide +kernel) ⟨Nat.le_of_ble_eq_true rfl, Nat.le_of_ble_eq_true rfl⟩) rfl hl.1 rfl (Nat.le_of_ble_eq_true rfl) dX9_digest_414 ⟨Nat.le_refl _, Nat.le_refl _⟩ (fun r_414 τ_414 H locs hr_414 hP hk_414 hS => ?_)
          obtain ⟨hr_414, hms_414⟩ := hr_414
          subst hr_414
          have hs5 := xMs_tr hs4 hms_414
          refine x_top S (y := xs_disp (σ 6) (xYM σ) (σ 9) (σ 10) (xcM σ)) (by rw [xMs_k (k := 6) hs4 (by decide), xMs_Y hs4, xMs_k (k := 9) hs4 (by decide), xMs_k (k := 10) hs4 (by decide), xMs_c hs4]) ?_
          refine lv_i2l hx hb dX9_digest_417 rfl ?_
          refine lv_ladd hx hb dX9_digest_418 ?_
          refine x_topL S (y := xfold d3 EV 4) (by rw [hEV]; rfl) ?_
          refine lv_lstore_n (lv' := [(1, .long (xfold d3 EV 4)), (3, .int (nI (xYM σ))), (0, .ref (α 0))]) hx hb dX9_digest_419 rfl hl (by decide) rfl (fun ls hl => ?_)
          refine lv_ldc2 hx hb S.2.2.2.1 (S.2.2.2.2 (.constantLong RX9 214 (31)) (List.mem_of_getElem? (i := 2) rfl)) dX9_digest_420 ?_
          refine lv_lload_n hx hb dX9_digest_423 rfl (lv_at hl 0 rfl) ?_
          refine lv_lmul hx hb dX9_digest_424 ?_
          refine lv_aload_n hx hb dX9_digest_425 rfl (lv_at hl 2 rfl) ?_
          refine x_cVRi (As := []) (rest := [.long ((31 : Int64) * (xfold d3 EV 4))]) S hK hP 0 (by omega) rfl rfl (c_X9_falseNow l τ_414   (xMs_IM hs5 hC)) (x_cwV (n0 := 0) (cq := (RX9, TX9, 24)) S gX9_digest_X9_falseNow rfl (by decide +kernel) ⟨Nat.le_of_ble_eq_true rfl, Nat.le_of_ble_eq_true rfl⟩) rfl hl.1 rfl (Nat.le_of_ble_eq_true rfl) dX9_digest_426 ⟨Nat.le_refl _, Nat.le_refl _⟩ (fun r_426 hr_426 => ?_)
          subst hr_426
          refine x_top S (y := nI (xs_false (xB (xFM σ) (σ 12) (σ 13) (σ 14) (xsM σ)))) (by rw [xMs_F hs5, xMs_k (k := 12) hs5 (by decide), xMs_k (k := 13) hs5 (by decide), xMs_k (k := 14) hs5 (by decide), xMs_s hs5]) ?_
          refine lv_i2l hx hb dX9_digest_429 rfl ?_
          refine lv_ladd hx hb dX9_digest_430 ?_
          refine x_topL S (y := xfold d3 EV 5) (by rw [hEV]; rfl) ?_
          exact x_lretW S hlocks hP hS hr (⟨by rw [xdig, hEV, hd3, hYV, hd2, hDV, hd1, hHV, hd0], hs5⟩) dX9_digest_431
        · refine lv_ldc2 hx hb S.2.2.2.1 (S.2.2.2.2 (.constantLong RX9 214 (31)) (List.mem_of_getElem? (i := 2) rfl)) dX9_digest_321 ?_
          refine lv_lload_n hx hb dX9_digest_324 rfl (lv_at hl 1 rfl) ?_
          refine lv_lmul hx hb dX9_digest_325 ?_
          refine lv_aload_n hx hb dX9_digest_326 rfl (lv_at hl 2 rfl) ?_
          refine lv_iload_n hx hb dX9_digest_327 rfl (lv_at hl 0 rfl) ?_
          refine x_cVRi (As := [.int (nI i)]) (rest := [.long ((31 : Int64) * (xfold2 d2 YV 3 i))]) S hK hP 0 (by omega) rfl rfl (c_X9_ratherOf l τ8 i (xYM σ)  (by rw [e6]; exact hbk) (by rw [e6]; exact hY) (by first | assumption | omega) (by first | assumption | omega)) (x_cwV (n0 := 1) (cq := (RX9, TX9, 24)) S gX9_digest_X9_ratherOf rfl (by decide +kernel) ⟨Nat.le_of_ble_eq_true rfl, Nat.le_of_ble_eq_true rfl⟩) rfl hl.1 rfl (Nat.le_of_ble_eq_true rfl) dX9_digest_328 ⟨Nat.le_refl _, Nat.le_refl _⟩ (fun r_328 hr_328 => ?_)
          subst hr_328
          refine x_top S (y := xp_rather (xFM σ) (σ 6) (xYM σ) (nI i)) (by rw [eF, e6, xs_rm_eq, xp_rather, if_pos (xin_nI (by omega) (by omega)), cN_nI (n := i) (by omega)]) ?_
          refine lv_i2l hx hb dX9_digest_331 rfl ?_
          refine lv_ladd hx hb dX9_digest_332 ?_
          refine lv_lstore_n (lv' := [(1, .long (((31 : Int64) * (xfold2 d2 YV 3 i)) + ((xp_rather (xFM σ) (σ 6) (xYM σ) (nI i)).toInt64))), (3, .int (nI i)), (0, .ref (α 0))]) hx hb dX9_digest_333 rfl hl (by decide) rfl (fun ls hl => ?_)
          refine lv_ldc2 hx hb S.2.2.2.1 (S.2.2.2.2 (.constantLong RX9 214 (31)) (List.mem_of_getElem? (i := 2) rfl)) dX9_digest_334 ?_
          refine lv_lload_n hx hb dX9_digest_337 rfl (lv_at hl 0 rfl) ?_
          refine lv_lmul hx hb dX9_digest_338 ?_
          refine lv_aload_n hx hb dX9_digest_339 rfl (lv_at hl 2 rfl) ?_
          refine lv_iload_n hx hb dX9_digest_340 rfl (lv_at hl 1 rfl) ?_
          refine lv_iconst (v := (-1)) hx hb dX9_digest_341 (by decide) ?_
          refine x_cVRi (As := [.int (nI i), .int (-1 : Int32)]) (rest := [.long ((31 : Int64) * (((31 : Int64) * (xfold2 d2 YV 3 i)) + ((xp_rather (xFM σ) (σ 6) (xYM σ) (nI i)).toInt64)))]) S hK hP 0 (by omega) rfl rfl (c_X9_returnsOf l τ8 i (xYM σ)  (by rw [e6]; exact hbk) (by rw [e6]; exact hY) (by first | assumption | omega) (by rw [e6]; exact hPm) (by first | assumption | omega)) (x_cwV (n0 := 2) (cq := (RX9, TX9, 24)) S gX9_digest_X9_returnsOf rfl (by decide +kernel) ⟨Nat.le_of_ble_eq_true rfl, Nat.le_of_ble_eq_true rfl⟩) rfl hl.1 rfl (Nat.le_of_ble_eq_true rfl) dX9_digest_342 ⟨Nat.le_refl _, Nat.le_refl _⟩ (fun r_342 hr_342 => ?_)
          subst hr_342
          refine x_top S (y := xp_returns (σ 6) (xYM σ) (nI i) (-1)) (by rw [e6, xp_returns, if_pos ⟨xin_nI (by omega) (by omega), Or.inl rfl⟩, cN_nI (n := i) (by omega), if_pos (Nat.lt_trans (xs_ret_spec hY hPm (show i < xYM σ by omega) (Or.inl rfl)).1 (by decide))]) ?_
          refine lv_i2l hx hb dX9_digest_345 rfl ?_
          refine lv_ladd hx hb dX9_digest_346 ?_
          refine lv_lstore_n (lv' := [(1, .long (((31 : Int64) * (((31 : Int64) * (xfold2 d2 YV 3 i)) + ((xp_rather (xFM σ) (σ 6) (xYM σ) (nI i)).toInt64))) + ((xp_returns (σ 6) (xYM σ) (nI i) (-1)).toInt64))), (3, .int (nI i)), (0, .ref (α 0))]) hx hb dX9_digest_347 rfl hl (by decide) rfl (fun ls hl => ?_)
          refine lv_ldc2 hx hb S.2.2.2.1 (S.2.2.2.2 (.constantLong RX9 214 (31)) (List.mem_of_getElem? (i := 2) rfl)) dX9_digest_348 ?_
          refine lv_lload_n hx hb dX9_digest_351 rfl (lv_at hl 0 rfl) ?_
          refine lv_lmul hx hb dX9_digest_352 ?_
          refine lv_aload_n hx hb dX9_digest_353 rfl (lv_at hl 2 rfl) ?_
          refine lv_iload_n hx hb dX9_digest_354 rfl (lv_at hl 1 rfl) ?_
          refine lv_iconst (v := nI 0) hx hb dX9_digest_355 (by decide) ?_
          refine lv_iconst (v := nI 5) hx hb dX9_digest_356 (by decide) ?_
          refine x_cVRi (As := [.int (nI i), .int (nI 0), .int (nI 5)]) (rest := [.long ((31 : Int64) * (((31 : Int64) * (((31 : Int64) * (xfold2 d2 YV 3 i)) + ((xp_rather (xFM σ) (σ 6) (xYM σ) (nI i)).toInt64))) + ((xp_returns (σ 6) (xYM σ) (nI i) (-1)).toInt64)))]) S hK hP 0 (by omega) rfl rfl (c_X9_onOf l τ8 i 0 5 (xYM σ)  (by rw [e6]; exact hbk) (by rw [e6]; exact hY) (by first | assumption | omega) (by first | assumption | omega) (by first | assumption | omega) (by first | assumption | omega)) (x_cwV (n0 := 3) (cq := (RX9, TX9, 24)) S gX9_digest_X9_onOf rfl (by decide +kernel) ⟨Nat.le_of_ble_eq_true rfl, Nat.le_of_ble_eq_true rfl⟩) rfl hl.1 rfl (Nat.le_of_ble_eq_true rfl) dX9_digest_357 ⟨Nat.le_refl _, Nat.le_refl _⟩ (fun r_357 hr_357 => ?_)
          subst hr_357
          refine x_top S (y := xp_on (σ 6) (xYM σ) (nI i) (nI 0) (nI 5)) (by rw [e6, xp_on, if_pos ⟨xin_nI (by omega) (by omega), xin_nI (by decide) (by decide), xin_nI (by decide) (by decide)⟩, cN_nI (n := i) (by omega), cN_nI (n := 0) (by decide), cN_nI (n := 5) (by decide)]) ?_
          refine lv_i2l hx hb dX9_digest_360 rfl ?_
          refine lv_ladd hx hb dX9_digest_361 ?_
          refine x_topL S (y := xfold2 d2 YV 3 (i + 1)) (by rw [hYV]; rfl) ?_
          refine lv_lstore_n (lv' := [(1, .long (xfold2 d2 YV 3 (i + 1))), (3, .int (nI i)), (0, .ref (α 0))]) hx hb dX9_digest_362 rfl hl (by decide) rfl (fun ls hl => ?_)
          refine lv_iinc (v := nI (i + 1)) (lv' := [(3, .int (nI (i + 1))), (1, .long (xfold2 d2 YV 3 (i + 1))), (0, .ref (α 0))]) hx hb dX9_digest_363 hl (k := 1) rfl (nI_add i 1) (by decide) rfl (fun ls hl => ?_)
          refine lv_goto (tgt := 313) hx hb dX9_digest_366 (by decide) ?_
          exact ih_313 (i + 1) H locs ls ⟨(by omega), lv_sub hl [0, 1, 2] rfl, hP, hS⟩ (by (try dsimp only); omega)
      · refine lv_ldc2 hx hb S.2.2.2.1 (S.2.2.2.2 (.constantLong RX9 214 (31)) (List.mem_of_getElem? (i := 2) rfl)) dX9_digest_269 ?_
        refine lv_lload_n hx hb dX9_digest_272 rfl (lv_at hl 1 rfl) ?_
        refine lv_lmul hx hb dX9_digest_273 ?_
        refine lv_aload_n hx hb dX9_digest_274 rfl (lv_at hl 2 rfl) ?_
        refine lv_iload_n hx hb dX9_digest_275 rfl (lv_at hl 0 rfl) ?_
        refine lv_aload_n hx hb dX9_digest_276 rfl (lv_at hl 2 rfl) ?_
        refine x_get S (fun w h => List.mem_cons_of_mem _ (List.mem_append_right _ h)) hK hP 0 (by omega) rfl rfl 7 (by decide) (List.mem_of_getElem? (i := 3) rfl) rfl dX9_digest_277 ?_
        refine x_top S (y := nI (xYM σ)) (hyr) ?_
        refine lv_iconst (v := nI 0) hx hb dX9_digest_280 (by decide) ?_
        refine x_cVRi (As := [.int (nI i), .int (nI (xYM σ)), .int (nI 0)]) (rest := [.long ((31 : Int64) * (xfold2 d1 DV 2 i))]) S hK hP 0 (by omega) rfl rfl (c_X9_debtOf l τ8 i (xYM σ) (nI 0) (xYM σ)  (by rw [e6]; exact hbk) (by rw [e6]; exact hY) (by first | assumption | omega) (by first | assumption | omega) (by first | assumption | omega)) (x_cwV (n0 := 3) (cq := (RX9, TX9, 24)) S gX9_digest_X9_debtOf rfl (by decide +kernel) ⟨Nat.le_of_ble_eq_true rfl, Nat.le_of_ble_eq_true rfl⟩) rfl hl.1 rfl (Nat.le_of_ble_eq_true rfl) dX9_digest_281 ⟨Nat.le_refl _, Nat.le_refl _⟩ (fun r_281 hr_281 => ?_)
        subst hr_281
        refine x_top S (y := xp_debt (xFM σ) (σ 6) (xYM σ) (nI i) (nI (xYM σ)) (nI 0)) (by rw [eF, e6, if_pos (show nI 0 = 0 from rfl), xs_dm_eq _ hY hPm (by omega) (Nat.le_refl _), xp_debt, if_pos ⟨xin_nI (by omega) (by omega), xin_nI (by omega) (by omega), xin_nI (by decide) (by decide)⟩, cN_nI (n := i) (by omega), cN_nI (n := xYM σ) (by omega), if_pos (show nI 0 = 0 from rfl)]) ?_
        refine lv_i2l hx hb dX9_digest_284 rfl ?_
        refine lv_ladd hx hb dX9_digest_285 ?_
        refine lv_lstore_n (lv' := [(1, .long (((31 : Int64) * (xfold2 d1 DV 2 i)) + ((xp_debt (xFM σ) (σ 6) (xYM σ) (nI i) (nI (xYM σ)) (nI 0)).toInt64))), (3, .int (nI i)), (0, .ref (α 0))]) hx hb dX9_digest_286 rfl hl (by decide) rfl (fun ls hl => ?_)
        refine lv_ldc2 hx hb S.2.2.2.1 (S.2.2.2.2 (.constantLong RX9 214 (31)) (List.mem_of_getElem? (i := 2) rfl)) dX9_digest_287 ?_
        refine lv_lload_n hx hb dX9_digest_290 rfl (lv_at hl 0 rfl) ?_
        refine lv_lmul hx hb dX9_digest_291 ?_
        refine lv_aload_n hx hb dX9_digest_292 rfl (lv_at hl 2 rfl) ?_
        refine lv_iload_n hx hb dX9_digest_293 rfl (lv_at hl 1 rfl) ?_
        refine lv_aload_n hx hb dX9_digest_294 rfl (lv_at hl 2 rfl) ?_
        refine x_get S (fun w h => List.mem_cons_of_mem _ (List.mem_append_right _ h)) hK hP 0 (by omega) rfl rfl 7 (by decide) (List.mem_of_getElem? (i := 3) rfl) rfl dX9_digest_295 ?_
        refine x_top S (y := nI (xYM σ)) (hyr) ?_
        refine lv_iconst (v := nI 1) hx hb dX9_digest_298 (by decide) ?_
        refine x_cVRi (As := [.int (nI i), .int (nI (xYM σ)), .int (nI 1)]) (rest := [.long ((31 : Int64) * (((31 : Int64) * (xfold2 d1 DV 2 i)) + ((xp_debt (xFM σ) (σ 6) (xYM σ) (nI i) (nI (xYM σ)) (nI 0)).toInt64)))]) S hK hP 0 (by omega) rfl rfl (c_X9_debtOf l τ8 i (xYM σ) (nI 1) (xYM σ)  (by rw [e6]; exact hbk) (by rw [e6]; exact hY) (by first | assumption | omega) (by first | assumption | omega) (by first | assumption | omega)) (x_cwV (n0 := 3) (cq := (RX9, TX9, 24)) S gX9_digest_X9_debtOf rfl (by decide +kernel) ⟨Nat.le_of_ble_eq_true rfl, Nat.le_of_ble_eq_true rfl⟩) rfl hl.1 rfl (Nat.le_of_ble_eq_true rfl) dX9_digest_299 ⟨Nat.le_refl _, Nat.le_refl _⟩ (fun r_299 hr_299 => ?_)
        subst hr_299
        refine x_top S (y := xp_debt (xFM σ) (σ 6) (xYM σ) (nI i) (nI (xYM σ)) (nI 1)) (by rw [eF, e6, if_neg (show ¬ nI 1 = 0 by decide), xs_dm_eq _ hY hPm (by omega) (Nat.le_refl _), Int32.one_mul, xp_debt, if_pos ⟨xin_nI (by omega) (by omega), xin_nI (by omega) (by omega), xin_nI (by decide) (by decide)⟩, cN_nI (n := i) (by omega), cN_nI (n := xYM σ) (by omega), if_neg (show ¬ nI 1 = 0 by decide)]) ?_
        refine lv_i2l hx hb dX9_digest_302 rfl ?_
        refine lv_ladd hx hb dX9_digest_303 ?_
        refine x_topL S (y := xfold2 d1 DV 2 (i + 1)) (by rw [hDV]; rfl) ?_
        refine lv_lstore_n (lv' := [(1, .long (xfold2 d1 DV 2 (i + 1))), (3, .int (nI i)), (0, .ref (α 0))]) hx hb dX9_digest_304 rfl hl (by decide) rfl (fun ls hl => ?_)
        refine lv_iinc (v := nI (i + 1)) (lv' := [(3, .int (nI (i + 1))), (1, .long (xfold2 d1 DV 2 (i + 1))), (0, .ref (α 0))]) hx hb dX9_digest_305 hl (k := 1) rfl (nI_add i 1) (by decide) rfl (fun ls hl => ?_)
        refine lv_goto (tgt := 263) hx hb dX9_digest_308 (by decide) ?_
        exact ih_263 (i + 1) H locs ls ⟨(by omega), lv_sub hl [0, 1, 2] rfl, hP, hS⟩ (by (try dsimp only); omega)
    · refine lv_ldc2 hx hb S.2.2.2.1 (S.2.2.2.2 (.constantLong RX9 214 (31)) (List.mem_of_getElem? (i := 2) rfl)) dX9_digest_51 ?_
      refine lv_lload_n hx hb dX9_digest_54 rfl (lv_at hl 1 rfl) ?_
      refine lv_lmul hx hb dX9_digest_55 ?_
      refine lv_aload_n hx hb dX9_digest_56 rfl (lv_at hl 2 rfl) ?_
      refine lv_iload_n hx hb dX9_digest_57 rfl (lv_at hl 0 rfl) ?_
      refine lv_aload_n hx hb dX9_digest_58 rfl (lv_at hl 2 rfl) ?_
      refine x_get S (fun w h => List.mem_cons_of_mem _ (List.mem_append_right _ h)) hK hP 0 (by omega) rfl rfl 7 (by decide) (List.mem_of_getElem? (i := 3) rfl) rfl dX9_digest_59 ?_
      refine x_top S (y := nI (xYM σ)) (hyr) ?_
      refine x_cVRi (As := [.int (nI i), .int (nI (xYM σ))]) (rest := [.long ((31 : Int64) * (xfold2 d0 HV 15 i))]) S hK hP 0 (by omega) rfl rfl (c_X9_purseOf l τ8 i (xYM σ) (xYM σ)  (by rw [e6]; exact hbk) (by rw [e6]; exact hY) (by first | assumption | omega) (by first | assumption | omega) (by first | assumption | omega)) (x_cwV (n0 := 2) (cq := (RX9, TX9, 24)) S gX9_digest_X9_purseOf rfl (by decide +kernel) ⟨Nat.le_of_ble_eq_true rfl, Nat.le_of_ble_eq_true rfl⟩) rfl hl.1 rfl (Nat.le_of_ble_eq_true rfl) dX9_digest_62 ⟨Nat.le_refl _, Nat.le_refl _⟩ (fun r_62 hr_62 => ?_)
      subst hr_62
      refine x_top S (y := xp_purse (xFM σ) (σ 6) (xYM σ) (nI i) (nI (xYM σ))) (by rw [eF, e6, xp_purse, if_pos ⟨xin_nI (by omega) (by omega), xin_nI (by omega) (by omega)⟩, cN_nI (n := i) (by omega), cN_nI (n := xYM σ) (by omega)]) ?_
      refine lv_i2l hx hb dX9_digest_65 rfl ?_
      refine lv_ladd hx hb dX9_digest_66 ?_
      refine x_topL S (y := xfold (xfold2 d0 HV 15 i) (HV i) 1) (by rw [hHV]; rfl) ?_
      refine lv_lstore_n (lv' := [(1, .long (xfold (xfold2 d0 HV 15 i) (HV i) 1)), (3, .int (nI i)), (0, .ref (α 0))]) hx hb dX9_digest_67 rfl hl (by decide) rfl (fun ls hl => ?_)
      refine lv_ldc2 hx hb S.2.2.2.1 (S.2.2.2.2 (.constantLong RX9 214 (31)) (List.mem_of_getElem? (i := 2) rfl)) dX9_digest_68 ?_
      refine lv_lload_n hx hb dX9_digest_71 rfl (lv_at hl 0 rfl) ?_
      refine lv_lmul hx hb dX9_digest_72 ?_
      refine lv_aload_n hx hb dX9_digest_73 rfl (lv_at hl 2 rfl) ?_
      refine lv_iload_n hx hb dX9_digest_74 rfl (lv_at hl 1 rfl) ?_
      refine lv_aload_n hx hb dX9_digest_75 rfl (lv_at hl 2 rfl) ?_
      refine x_get S (fun w h => List.mem_cons_of_mem _ (List.mem_append_right _ h)) hK hP 0 (by omega) rfl rfl 7 (by decide) (List.mem_of_getElem? (i := 3) rfl) rfl dX9_digest_76 ?_
      refine x_top S (y := nI (xYM σ)) (hyr) ?_
      refine x_cVRi (As := [.int (nI i), .int (nI (xYM σ))]) (rest := [.long ((31 : Int64) * (xfold (xfold2 d0 HV 15 i) (HV i) 1))]) S hK hP 0 (by omega) rfl rfl (c_X9_beenOf l τ8 i (xYM σ) (xYM σ)  (by rw [e6]; exact hbk) (by rw [e6]; exact hY) (by first | assumption | omega) (by first | assumption | omega) (by first | assumption | omega)) (x_cwV (n0 := 2) (cq := (RX9, TX9, 24)) S gX9_digest_X9_beenOf rfl (by decide +kernel) ⟨Nat.le_of_ble_eq_true rfl, Nat.le_of_ble_eq_true rfl⟩) rfl hl.1 rfl (Nat.le_of_ble_eq_true rfl) dX9_digest_79 ⟨Nat.le_refl _, Nat.le_refl _⟩ (fun r_79 hr_79 => ?_)
      subst hr_79
      refine x_top S (y := xp_been (σ 6) (xYM σ) (nI i) (nI (xYM σ))) (by rw [e6, xp_been, if_pos ⟨xin_nI (by omega) (by omega), xin_nI (by omega) (by omega)⟩, cN_nI (n := i) (by omega), cN_nI (n := xYM σ) (by omega)]) ?_
      refine lv_i2l hx hb dX9_digest_82 rfl ?_
      refine lv_ladd hx hb dX9_digest_83 ?_
      refine x_topL S (y := xfold (xfold2 d0 HV 15 i) (HV i) 2) (by rw [hHV]; rfl) ?_
      refine lv_lstore_n (lv' := [(1, .long (xfold (xfold2 d0 HV 15 i) (HV i) 2)), (3, .int (nI i)), (0, .ref (α 0))]) hx hb dX9_digest_84 rfl hl (by decide) rfl (fun ls hl => ?_)
      refine lv_ldc2 hx hb S.2.2.2.1 (S.2.2.2.2 (.constantLong RX9 214 (31)) (List.mem_of_getElem? (i := 2) rfl)) dX9_digest_85 ?_
      refine lv_lload_n hx hb dX9_digest_88 rfl (lv_at hl 0 rfl) ?_
      refine lv_lmul hx hb dX9_digest_89 ?_
      refine lv_aload_n hx hb dX9_digest_90 rfl (lv_at hl 2 rfl) ?_
      refine lv_iload_n hx hb dX9_digest_91 rfl (lv_at hl 1 rfl) ?_
      refine x_cVWi (As := [.int (nI i)]) (rest := [.long ((31 : Int64) * (xfold (xfold2 d0 HV 15 i) (HV i) 2))]) S hK hP hS (fun _ h => h) 0 (by omega) rfl rfl (c_X9_homeOfB l τ8 hI i  hC1 (by first | assumption | omega)) (x_cwV (n0 := 1) (cq := (RX9, TX9, 24)) S gX9_digest_X9_homeOf rfl (by decide +kernel) ⟨Nat.le_of_ble_eq_true rfl, Nat.le_of_ble_eq_true rfl⟩) rfl hl.1 rfl (Nat.le_of_ble_eq_true rfl) dX9_digest_92 ⟨Nat.le_refl _, Nat.le_refl _⟩ (fun r_92 τ_92 H locs hr_92 hP hk_92 hS => ?_)
      obtain ⟨hr_92, hms_92, hbs_92⟩ := hr_92
      subst hr_92
      have hs1 := xMs_tr hs hms_92
      have hbhs1 := hbs_92 hb8
      refine x_top S (y := xp_home (σ 6) (xYM σ) (nI i)) (by rw [e6, xMs_Y hs, xp_home, if_pos (xin_nI (by omega) (by omega)), cN_nI (n := i) (by omega)]) ?_
      refine lv_i2l hx hb dX9_digest_95 rfl ?_
      refine lv_ladd hx hb dX9_digest_96 ?_
      refine x_topL S (y := xfold (xfold2 d0 HV 15 i) (HV i) 3) (by rw [hHV]; rfl) ?_
      refine lv_lstore_n (lv' := [(1, .long (xfold (xfold2 d0 HV 15 i) (HV i) 3)), (3, .int (nI i)), (0, .ref (α 0))]) hx hb dX9_digest_97 rfl hl (by decide) rfl (fun ls hl => ?_)
      refine lv_ldc2 hx hb S.2.2.2.1 (S.2.2.2.2 (.constantLong RX9 214 (31)) (List.mem_of_getElem? (i := 2) rfl)) dX9_digest_98 ?_
      refine lv_lload_n hx hb dX9_digest_101 rfl (lv_at hl 0 rfl) ?_
      refine lv_lmul hx hb dX9_digest_102 ?_
      refine lv_aload_n hx hb dX9_digest_103 rfl (lv_at hl 2 rfl) ?_
      refine lv_iload_n hx hb dX9_digest_104 rfl (lv_at hl 1 rfl) ?_
      refine lv_iload_n hx hb dX9_digest_105 rfl (lv_at hl 1 rfl) ?_
      refine lv_iconst (v := nI 1) hx hb dX9_digest_106 (by decide) ?_
      refine x_iaddN S dX9_digest_107 ?_
      refine lv_bipush (v := nI 6) hx hb dX9_digest_108 (by decide) ?_
      refine x_iremN S (by omega) (by omega) (by omega) dX9_digest_110 ?_
      refine x_cVWi (As := [.int (nI i), .int (nI ((i + 1) % 6))]) (rest := [.long ((31 : Int64) * (xfold (xfold2 d0 HV 15 i) (HV i) 3))]) S hK hP hS (fun _ h => h) 0 (by omega) rfl rfl (c_X9_otherOfB l τ_92 hI i ((i + 1) % 6)  (xMs_IM hs1 hC) (by first | assumption | omega) (by first | assumption | omega)) (x_cwV (n0 := 2) (cq := (RX9, TX9, 24)) S gX9_digest_X9_otherOf rfl (by decide +kernel) ⟨Nat.le_of_ble_eq_true rfl, Nat.le_of_ble_eq_true rfl⟩) rfl hl.1 rfl (Nat.le_of_ble_eq_true rfl) dX9_digest_111 ⟨Nat.le_refl _, Nat.le_refl _⟩ (fun r_111 τ_111 H locs hr_111 hP hk_111 hS => ?_)
      obtain ⟨hr_111, hms_111, hbs_111⟩ := hr_111
      subst hr_111
      have hs2 := xMs_tr hs1 hms_111
      have hbhs2 := hbs_111 hbhs1
      refine x_top S (y := xp_other (σ 6) (xYM σ) (nI i) (nI ((i + 1) % 6))) (by rw [xMs_k (k := 6) hs1 (by decide), xMs_Y hs1, xp_other, if_pos ⟨xin_nI (by omega) (by omega), xin_nI (by omega) (by omega), fun q => absurd ((nI_eq (by omega) (by omega)).mp q) (by omega)⟩, cN_nI (n := i) (by omega), cN_nI (n := (i + 1) % 6) (by omega)]) ?_
      refine lv_i2l hx hb dX9_digest_114 rfl ?_
      refine lv_ladd hx hb dX9_digest_115 ?_
      refine x_topL S (y := xfold (xfold2 d0 HV 15 i) (HV i) 4) (by rw [hHV]; rfl) ?_
      refine lv_lstore_n (lv' := [(1, .long (xfold (xfold2 d0 HV 15 i) (HV i) 4)), (3, .int (nI i)), (0, .ref (α 0))]) hx hb dX9_digest_116 rfl hl (by decide) rfl (fun ls hl => ?_)
      refine lv_ldc2 hx hb S.2.2.2.1 (S.2.2.2.2 (.constantLong RX9 214 (31)) (List.mem_of_getElem? (i := 2) rfl)) dX9_digest_117 ?_
      refine lv_lload_n hx hb dX9_digest_120 rfl (lv_at hl 0 rfl) ?_
      refine lv_lmul hx hb dX9_digest_121 ?_
      refine lv_aload_n hx hb dX9_digest_122 rfl (lv_at hl 2 rfl) ?_
      refine lv_iload_n hx hb dX9_digest_123 rfl (lv_at hl 1 rfl) ?_
      refine x_cVWi (As := [.int (nI i)]) (rest := [.long ((31 : Int64) * (xfold (xfold2 d0 HV 15 i) (HV i) 4))]) S hK hP hS (fun _ h => h) 0 (by omega) rfl rfl (c_X9_soundOfB l τ_111 hI i  (by first | assumption | omega)) (x_cwV (n0 := 1) (cq := (RX9, TX9, 24)) S gX9_digest_X9_soundOf rfl (by decide +kernel) ⟨Nat.le_of_ble_eq_true rfl, Nat.le_of_ble_eq_true rfl⟩) rfl hl.1 rfl (Nat.le_of_ble_eq_true rfl) dX9_digest_124 ⟨Nat.le_refl _, Nat.le_refl _⟩ (fun r_124 τ_124 H locs hr_124 hP hk_124 hS => ?_)
      obtain ⟨hr_124, hms_124, hbs_124⟩ := hr_124
      subst hr_124
      have hs3 := xMs_tr hs2 hms_124
      have hbhs3 := hbs_124 hbhs2
      refine x_top S (y := xp_sound (xA (xFM σ)) (nI i)) (by rw [xMs_F hs2, xsf_eq _ (by omega), xp_sound, if_neg (nI_m1 (by omega)), if_pos (xin_nI (by omega) (by omega)), cN_nI (n := i) (by omega)]) ?_
      refine lv_i2l hx hb dX9_digest_127 rfl ?_
      refine lv_ladd hx hb dX9_digest_128 ?_
      refine x_topL S (y := xfold (xfold2 d0 HV 15 i) (HV i) 5) (by rw [hHV]; rfl) ?_
      refine lv_lstore_n (lv' := [(1, .long (xfold (xfold2 d0 HV 15 i) (HV i) 5)), (3, .int (nI i)), (0, .ref (α 0))]) hx hb dX9_digest_129 rfl hl (by decide) rfl (fun ls hl => ?_)
      refine lv_ldc2 hx hb S.2.2.2.1 (S.2.2.2.2 (.constantLong RX9 214 (31)) (List.mem_of_getElem? (i := 2) rfl)) dX9_digest_130 ?_
      refine lv_lload_n hx hb dX9_digest_133 rfl (lv_at hl 0 rfl) ?_
      refine lv_lmul hx hb dX9_digest_134 ?_
      refine lv_aload_n hx hb dX9_digest_135 rfl (lv_at hl 2 rfl) ?_
      refine lv_iload_n hx hb dX9_digest_136 rfl (lv_at hl 1 rfl) ?_
      refine lv_iload_n hx hb dX9_digest_137 rfl (lv_at hl 1 rfl) ?_
      refine lv_iconst (v := nI 0) hx hb dX9_digest_138 (by decide) ?_
      refine x_cVWl (As := [.int (nI i), .int (nI i), .int (nI 0)]) (rest := [.long ((31 : Int64) * (xfold (xfold2 d0 HV 15 i) (HV i) 5))]) S hK hP hS (fun _ h => h) 0 (by omega) rfl rfl (c_X9_chanceOfB l τ_124 hI i i (nI 0)  (by first | assumption | omega) (by first | assumption | omega)) (x_cwV (n0 := 3) (cq := (RX9, TX9, 24)) S gX9_digest_X9_chanceOf rfl (by decide +kernel) ⟨Nat.le_of_ble_eq_true rfl, Nat.le_of_ble_eq_true rfl⟩) rfl hl.1 rfl (Nat.le_of_ble_eq_true rfl) dX9_digest_139 ⟨Nat.le_refl _, Nat.le_refl _⟩ (fun r_139 τ_139 H locs hr_139 hP hk_139 hS => ?_)
      obtain ⟨hr_139, hms_139, hbs_139⟩ := hr_139
      subst hr_139
      have hs4 := xMs_tr hs3 hms_139
      have hbhs4 := hbs_139 hbhs3
      refine x_topL S (y := xp_chance (xA (xFM σ)) (nI i) (nI i) (nI 0)) (by rw [xMs_F hs3, xson_eq, xsrn_eq _ (by omega) (by omega), xp_chance, if_pos (show xin (nI i) 6 ∧ xin (nI i) 6 ∧ xin (nI 0) 2 from ⟨xin_nI (by omega) (by omega), xin_nI (by omega) (by omega), xin_nI (by decide) (by decide)⟩), cN_nI (n := i) (by omega)]) ?_
      refine lv_ladd hx hb dX9_digest_142 ?_
      refine x_topL S (y := xfold (xfold2 d0 HV 15 i) (HV i) 6) (by rw [hHV]; rfl) ?_
      refine lv_lstore_n (lv' := [(1, .long (xfold (xfold2 d0 HV 15 i) (HV i) 6)), (3, .int (nI i)), (0, .ref (α 0))]) hx hb dX9_digest_143 rfl hl (by decide) rfl (fun ls hl => ?_)
      refine lv_ldc2 hx hb S.2.2.2.1 (S.2.2.2.2 (.constantLong RX9 214 (31)) (List.mem_of_getElem? (i := 2) rfl)) dX9_digest_144 ?_
      refine lv_lload_n hx hb dX9_digest_147 rfl (lv_at hl 0 rfl) ?_
      refine lv_lmul hx hb dX9_digest_148 ?_
      refine lv_aload_n hx hb dX9_digest_149 rfl (lv_at hl 2 rfl) ?_
      refine lv_iload_n hx hb dX9_digest_150 rfl (lv_at hl 1 rfl) ?_
      refine lv_iload_n hx hb dX9_digest_151 rfl (lv_at hl 1 rfl) ?_
      refine lv_iconst (v := nI 1) hx hb dX9_digest_152 (by decide) ?_
      refine x_cVWl (As := [.int (nI i), .int (nI i), .int (nI 1)]) (rest := [.long ((31 : Int64) * (xfold (xfold2 d0 HV 15 i) (HV i) 6))]) S hK hP hS (fun _ h => h) 0 (by omega) rfl rfl (c_X9_chanceOfB l τ_139 hI i i (nI 1)  (by first | assumption | omega) (by first | assumption | omega)) (x_cwV (n0 := 3) (cq := (RX9, TX9, 24)) S gX9_digest_X9_chanceOf rfl (by decide +kernel) ⟨Nat.le_of_ble_eq_true rfl, Nat.le_of_ble_eq_true rfl⟩) rfl hl.1 rfl (Nat.le_of_ble_eq_true rfl) dX9_digest_153 ⟨Nat.le_refl _, Nat.le_refl _⟩ (fun r_153 τ_153 H locs hr_153 hP hk_153 hS => ?_)
      obtain ⟨hr_153, hms_153, hbs_153⟩ := hr_153
      subst hr_153
      have hs5 := xMs_tr hs4 hms_153
      have hbhs5 := hbs_153 hbhs4
      refine x_topL S (y := xp_chance (xA (xFM σ)) (nI i) (nI i) (nI 1)) (by rw [xMs_F hs4, xson_eq, xsrn_eq _ (by omega) (by omega), xp_chance, if_pos (show xin (nI i) 6 ∧ xin (nI i) 6 ∧ xin (nI 1) 2 from ⟨xin_nI (by omega) (by omega), xin_nI (by omega) (by omega), xin_nI (by decide) (by decide)⟩), cN_nI (n := i) (by omega)]) ?_
      refine lv_ladd hx hb dX9_digest_156 ?_
      refine x_topL S (y := xfold (xfold2 d0 HV 15 i) (HV i) 7) (by rw [hHV]; rfl) ?_
      refine lv_lstore_n (lv' := [(1, .long (xfold (xfold2 d0 HV 15 i) (HV i) 7)), (3, .int (nI i)), (0, .ref (α 0))]) hx hb dX9_digest_157 rfl hl (by decide) rfl (fun ls hl => ?_)
      refine lv_ldc2 hx hb S.2.2.2.1 (S.2.2.2.2 (.constantLong RX9 214 (31)) (List.mem_of_getElem? (i := 2) rfl)) dX9_digest_158 ?_
      refine lv_lload_n hx hb dX9_digest_161 rfl (lv_at hl 0 rfl) ?_
      refine lv_lmul hx hb dX9_digest_162 ?_
      refine lv_aload_n hx hb dX9_digest_163 rfl (lv_at hl 2 rfl) ?_
      refine lv_iload_n hx hb dX9_digest_164 rfl (lv_at hl 1 rfl) ?_
      refine lv_iconst (v := nI 0) hx hb dX9_digest_165 (by decide) ?_
      refine x_cVRl (As := [.int (nI i), .int (nI 0)]) (rest := [.long ((31 : Int64) * (xfold (xfold2 d0 HV 15 i) (HV i) 7))]) S hK hP 0 (by omega) rfl rfl (c_X9_aheadOf l τ_153 i (nI 0)  ((xMs_IM hs5 hC).2.2.2.1) (by first | assumption | omega)) (x_cwV (n0 := 2) (cq := (RX9, TX9, 24)) S gX9_digest_X9_aheadOf rfl (by decide +kernel) ⟨Nat.le_of_ble_eq_true rfl, Nat.le_of_ble_eq_true rfl⟩) rfl hl.1 rfl (Nat.le_of_ble_eq_true rfl) dX9_digest_166 ⟨Nat.le_refl _, Nat.le_refl _⟩ (fun r_166 hr_166 => ?_)
      subst hr_166
      refine x_topL S (y := xp_ahead (xE (xFM σ)) (nI i) (nI 0)) (by rw [xMs_F hs5, xp_ahead, if_pos ⟨xin_nI (by omega) (by omega), xin_nI (by decide) (by decide)⟩, cN_nI (n := i) (by omega)]) ?_
      refine lv_ladd hx hb dX9_digest_169 ?_
      refine x_topL S (y := xfold (xfold2 d0 HV 15 i) (HV i) 8) (by rw [hHV]; rfl) ?_
      refine lv_lstore_n (lv' := [(1, .long (xfold (xfold2 d0 HV 15 i) (HV i) 8)), (3, .int (nI i)), (0, .ref (α 0))]) hx hb dX9_digest_170 rfl hl (by decide) rfl (fun ls hl => ?_)
      refine lv_ldc2 hx hb S.2.2.2.1 (S.2.2.2.2 (.constantLong RX9 214 (31)) (List.mem_of_getElem? (i := 2) rfl)) dX9_digest_171 ?_
      refine lv_lload_n hx hb dX9_digest_174 rfl (lv_at hl 0 rfl) ?_
      refine lv_lmul hx hb dX9_digest_175 ?_
      refine lv_aload_n hx hb dX9_digest_176 rfl (lv_at hl 2 rfl) ?_
      refine lv_iload_n hx hb dX9_digest_177 rfl (lv_at hl 1 rfl) ?_
      refine lv_iconst (v := nI 1) hx hb dX9_digest_178 (by decide) ?_
      refine x_cVRl (As := [.int (nI i), .int (nI 1)]) (rest := [.long ((31 : Int64) * (xfold (xfold2 d0 HV 15 i) (HV i) 8))]) S hK hP 0 (by omega) rfl rfl (c_X9_aheadOf l τ_153 i (nI 1)  ((xMs_IM hs5 hC).2.2.2.1) (by first | assumption | omega)) (x_cwV (n0 := 2) (cq := (RX9, TX9, 24)) S gX9_digest_X9_aheadOf rfl (by decide +kernel) ⟨Nat.le_of_ble_eq_true rfl, Nat.le_of_ble_eq_true rfl⟩) rfl hl.1 rfl (Nat.le_of_ble_eq_true rfl) dX9_digest_179 ⟨Nat.le_refl _, Nat.le_refl _⟩ (fun r_179 hr_179 => ?_)
      subst hr_179
      refine x_topL S (y := xp_ahead (xE (xFM σ)) (nI i) (nI 1)) (by rw [xMs_F hs5, xp_ahead, if_pos ⟨xin_nI (by omega) (by omega), xin_nI (by decide) (by decide)⟩, cN_nI (n := i) (by omega)]) ?_
      refine lv_ladd hx hb dX9_digest_182 ?_
      refine x_topL S (y := xfold (xfold2 d0 HV 15 i) (HV i) 9) (by rw [hHV]; rfl) ?_
      refine lv_lstore_n (lv' := [(1, .long (xfold (xfold2 d0 HV 15 i) (HV i) 9)), (3, .int (nI i)), (0, .ref (α 0))]) hx hb dX9_digest_183 rfl hl (by decide) rfl (fun ls hl => ?_)
      refine lv_ldc2 hx hb S.2.2.2.1 (S.2.2.2.2 (.constantLong RX9 214 (31)) (List.mem_of_getElem? (i := 2) rfl)) dX9_digest_184 ?_
      refine lv_lload_n hx hb dX9_digest_187 rfl (lv_at hl 0 rfl) ?_
      refine lv_lmul hx hb dX9_digest_188 ?_
      refine lv_aload_n hx hb dX9_digest_189 rfl (lv_at hl 2 rfl) ?_
      refine lv_iload_n hx hb dX9_digest_190 rfl (lv_at hl 1 rfl) ?_
      refine x_cVWi (As := [.int (nI i)]) (rest := [.long ((31 : Int64) * (xfold (xfold2 d0 HV 15 i) (HV i) 9))]) S hK hP hS (fun _ h => h) 0 (by omega) rfl rfl (c_X9_bestOfB l τ_153 hI i  (xMs_IM hs5 hC) (by first | assumption | omega)) (x_cwV (n0 := 1) (cq := (RX9, TX9, 24)) S gX9_digest_X9_bestOf rfl (by decide +kernel) ⟨Nat.le_of_ble_eq_true rfl, Nat.le_of_ble_eq_true rfl⟩) rfl hl.1 rfl (Nat.le_of_ble_eq_true rfl) dX9_digest_191 ⟨Nat.le_refl _, Nat.le_refl _⟩ (fun r_191 τ_191 H locs hr_191 hP hk_191 hS => ?_)
      obtain ⟨hr_191, hms_191, hbs_191⟩ := hr_191
      subst hr_191
      have hs6 := xMs_tr hs5 hms_191
      have hbhs6 := hbs_191 hbhs5
      refine x_top S (y := xp_best (xE (xFM σ)) (nI i)) (by rw [xMs_F hs5, (xbest_eq hE).2 i (by omega), xp_best, if_neg (nI_m1 (by omega)), if_pos (xin_nI (by omega) (by omega)), cN_nI (n := i) (by omega)]) ?_
      refine lv_i2l hx hb dX9_digest_194 rfl ?_
      refine lv_ladd hx hb dX9_digest_195 ?_
      refine x_topL S (y := xfold (xfold2 d0 HV 15 i) (HV i) 10) (by rw [hHV]; rfl) ?_
      refine lv_lstore_n (lv' := [(1, .long (xfold (xfold2 d0 HV 15 i) (HV i) 10)), (3, .int (nI i)), (0, .ref (α 0))]) hx hb dX9_digest_196 rfl hl (by decide) rfl (fun ls hl => ?_)
      refine lv_ldc2 hx hb S.2.2.2.1 (S.2.2.2.2 (.constantLong RX9 214 (31)) (List.mem_of_getElem? (i := 2) rfl)) dX9_digest_197 ?_
      refine lv_lload_n hx hb dX9_digest_200 rfl (lv_at hl 0 rfl) ?_
      refine lv_lmul hx hb dX9_digest_201 ?_
      refine lv_aload_n hx hb dX9_digest_202 rfl (lv_at hl 2 rfl) ?_
      refine lv_bipush (v := nI 7) hx hb dX9_digest_203 (by decide) ?_
      refine lv_iload_n hx hb dX9_digest_205 rfl (lv_at hl 1 rfl) ?_
      refine x_cVWi (As := [.int (nI 7), .int (nI i)]) (rest := [.long ((31 : Int64) * (xfold (xfold2 d0 HV 15 i) (HV i) 10))]) S hK hP hS (fun _ h => h) 0 (by omega) rfl rfl (c_X9_lotOfB l τ_191 hI (nI 7) i  (by first | assumption | omega)) (x_cwV (n0 := 2) (cq := (RX9, TX9, 24)) S gX9_digest_X9_lotOf rfl (by decide +kernel) ⟨Nat.le_of_ble_eq_true rfl, Nat.le_of_ble_eq_true rfl⟩) rfl hl.1 rfl (Nat.le_of_ble_eq_true rfl) dX9_digest_206 ⟨Nat.le_refl _, Nat.le_refl _⟩ (fun r_206 τ_206 H locs hr_206 hP hk_206 hS => ?_)
      obtain ⟨hr_206, hms_206, hbs_206⟩ := hr_206
      subst hr_206
      have hs7 := xMs_tr hs6 hms_206
      have hbhs7 := hbs_206 hbhs6
      have hs8 := hs7
      have hbhs8 := hbhs7
      refine x_top S (y := xp_lot (nI 7) (nI i)) (by rw [xp_lot, if_pos (xin_nI (by omega) (by omega)), cN_nI (n := i) (by omega)]) ?_
      refine lv_i2l hx hb dX9_digest_209 rfl ?_
      refine lv_ladd hx hb dX9_digest_210 ?_
      refine x_topL S (y := xfold (xfold2 d0 HV 15 i) (HV i) 11) (by rw [hHV]; rfl) ?_
      refine lv_lstore_n (lv' := [(1, .long (xfold (xfold2 d0 HV 15 i) (HV i) 11)), (3, .int (nI i)), (0, .ref (α 0))]) hx hb dX9_digest_211 rfl hl (by decide) rfl (fun ls hl => ?_)
      refine lv_iconst (v := nI 0) hx hb dX9_digest_212 (by decide) ?_
      refine lv_istore (lv' := [(4, .int (nI 0)), (1, .long (xfold (xfold2 d0 HV 15 i) (HV i) 11)), (3, .int (nI i)), (0, .ref (α 0))]) hx hb dX9_digest_213 hl (by decide) rfl (fun ls hl => ?_)
      refine lv_iload hx hb dX9_digest_215 (lv_at hl 0 rfl) ?_
      refine lv_iconst (v := nI 3) hx hb dX9_digest_217 (by decide) ?_
      refine x_icmpN_ge (tgt := 242) S dX9_digest_218 (by decide) (by omega) (by omega) (fun q => absurd q (by omega)) (fun _ => ?_)
      refine lv_ldc2 hx hb S.2.2.2.1 (S.2.2.2.2 (.constantLong RX9 214 (31)) (List.mem_of_getElem? (i := 2) rfl)) dX9_digest_221 ?_
      refine lv_lload_n hx hb dX9_digest_224 rfl (lv_at hl 1 rfl) ?_
      refine lv_lmul hx hb dX9_digest_225 ?_
      refine lv_aload_n hx hb dX9_digest_226 rfl (lv_at hl 3 rfl) ?_
      refine lv_iload_n hx hb dX9_digest_227 rfl (lv_at hl 2 rfl) ?_
      refine lv_iload hx hb dX9_digest_228 (lv_at hl 0 rfl) ?_
      refine x_cVWi (As := [.int (nI i), .int (nI 0)]) (rest := [.long ((31 : Int64) * (xfold (xfold2 d0 HV 15 i) (HV i) 11))]) S hK hP hS (fun _ h => h) 0 (by omega) rfl rfl (c_X9_owedOfB l τ_206 hI i 0  (xMs_IM hs8 hC) (by first | assumption | omega) (by first | assumption | omega)) (x_cwV (n0 := 2) (cq := (RX9, TX9, 24)) S gX9_digest_X9_owedOf rfl (by decide +kernel) ⟨Nat.le_of_ble_eq_true rfl, Nat.le_of_ble_eq_true rfl⟩) rfl hl.1 rfl (Nat.le_of_ble_eq_true rfl) dX9_digest_230 ⟨Nat.le_refl _, Nat.le_refl _⟩ (fun r_230 τ_230 H locs hr_230 hP hk_230 hS => ?_)
      obtain ⟨hr_230, hms_230, hbs_230⟩ := hr_230
      subst hr_230
      have ho8 := hs8
      have hs8 := xMs_tr ho8 hms_230
      have hbhs8 := hbs_230 hbhs8
      refine x_top S (y := xp_owed (σ 6) (xYM σ) (σ 9) (σ 10) (σ 11) (xcM σ) (nI i) (nI 0)) (by rw [xow_eq ho8, xp_owed, if_pos ⟨xin_nI (by omega) (by omega), xin_nI (by decide) (by decide)⟩, cN_nI (n := i) (by omega), cN_nI (n := 0) (by decide)]) ?_
      refine lv_i2l hx hb dX9_digest_233 rfl ?_
      refine lv_ladd hx hb dX9_digest_234 ?_
      refine x_topL S (y := xfold (xfold2 d0 HV 15 i) (HV i) 12) (by rw [hHV]; rfl) ?_
      refine lv_lstore_n (lv' := [(1, .long (xfold (xfold2 d0 HV 15 i) (HV i) 12)), (4, .int (nI 0)), (3, .int (nI i)), (0, .ref (α 0))]) hx hb dX9_digest_235 rfl hl (by decide) rfl (fun ls hl => ?_)
      refine lv_iinc (v := nI 1) (lv' := [(4, .int (nI 1)), (1, .long (xfold (xfold2 d0 HV 15 i) (HV i) 12)), (3, .int (nI i)), (0, .ref (α 0))]) hx hb dX9_digest_236 hl (k := 1) rfl (by decide) (by decide) rfl (fun ls hl => ?_)
      refine lv_goto (tgt := 215) hx hb dX9_digest_239 (by decide) ?_
      refine lv_iload hx hb dX9_digest_215 (lv_at hl 0 rfl) ?_
      refine lv_iconst (v := nI 3) hx hb dX9_digest_217 (by decide) ?_
      refine x_icmpN_ge (tgt := 242) S dX9_digest_218 (by decide) (by omega) (by omega) (fun q => absurd q (by omega)) (fun _ => ?_)
      refine lv_ldc2 hx hb S.2.2.2.1 (S.2.2.2.2 (.constantLong RX9 214 (31)) (List.mem_of_getElem? (i := 2) rfl)) dX9_digest_221 ?_
      refine lv_lload_n hx hb dX9_digest_224 rfl (lv_at hl 1 rfl) ?_
      refine lv_lmul hx hb dX9_digest_225 ?_
      refine lv_aload_n hx hb dX9_digest_226 rfl (lv_at hl 3 rfl) ?_
      refine lv_iload_n hx hb dX9_digest_227 rfl (lv_at hl 2 rfl) ?_
      refine lv_iload hx hb dX9_digest_228 (lv_at hl 0 rfl) ?_
      refine x_cVWi (As := [.int (nI i), .int (nI 1)]) (rest := [.long ((31 : Int64) * (xfold (xfold2 d0 HV 15 i) (HV i) 12))]) S hK hP hS (fun _ h => h) 0 (by omega) rfl rfl (c_X9_owedOfB l τ_230 hI i 1  (xMs_IM hs8 hC) (by first | assumption | omega) (by first | assumption | omega)) (x_cwV (n0 := 2) (cq := (RX9, TX9, 24)) S gX9_digest_X9_owedOf rfl (by decide +kernel) ⟨Nat.le_of_ble_eq_true rfl, Nat.le_of_ble_eq_true rfl⟩) rfl hl.1 rfl (Nat.le_of_ble_eq_true rfl) dX9_digest_230 ⟨Nat.le_refl _, Nat.le_refl _⟩ (fun r_230 τ_230 H locs hr_230 hP hk_230 hS => ?_)
      obtain ⟨hr_230, hms_230, hbs_230⟩ := hr_230
      subst hr_230
      have ho8 := hs8
      have hs8 := xMs_tr ho8 hms_230
      have hbhs8 := hbs_230 hbhs8
      refine x_top S (y := xp_owed (σ 6) (xYM σ) (σ 9) (σ 10) (σ 11) (xcM σ) (nI i) (nI 1)) (by rw [xow_eq ho8, xp_owed, if_pos ⟨xin_nI (by omega) (by omega), xin_nI (by decide) (by decide)⟩, cN_nI (n := i) (by omega), cN_nI (n := 1) (by decide)]) ?_
      refine lv_i2l hx hb dX9_digest_233 rfl ?_
      refine lv_ladd hx hb dX9_digest_234 ?_
      refine x_topL S (y := xfold (xfold2 d0 HV 15 i) (HV i) 13) (by rw [hHV]; rfl) ?_
      refine lv_lstore_n (lv' := [(1, .long (xfold (xfold2 d0 HV 15 i) (HV i) 13)), (4, .int (nI 1)), (3, .int (nI i)), (0, .ref (α 0))]) hx hb dX9_digest_235 rfl hl (by decide) rfl (fun ls hl => ?_)
      refine lv_iinc (v := nI 2) (lv' := [(4, .int (nI 2)), (1, .long (xfold (xfold2 d0 HV 15 i) (HV i) 13)), (3, .int (nI i)), (0, .ref (α 0))]) hx hb dX9_digest_236 hl (k := 1) rfl (by decide) (by decide) rfl (fun ls hl => ?_)
      refine lv_goto (tgt := 215) hx hb dX9_digest_239 (by decide) ?_
      refine lv_iload hx hb dX9_digest_215 (lv_at hl 0 rfl) ?_
      refine lv_iconst (v := nI 3) hx hb dX9_digest_217 (by decide) ?_
      refine x_icmpN_ge (tgt := 242) S dX9_digest_218 (by decide) (by omega) (by omega) (fun q => absurd q (by omega)) (fun _ => ?_)
      refine lv_ldc2 hx hb S.2.2.2.1 (S.2.2.2.2 (.constantLong RX9 214 (31)) (List.mem_of_getElem? (i := 2) rfl)) dX9_digest_221 ?_
      refine lv_lload_n hx hb dX9_digest_224 rfl (lv_at hl 1 rfl) ?_
      refine lv_lmul hx hb dX9_digest_225 ?_
      refine lv_aload_n hx hb dX9_digest_226 rfl (lv_at hl 3 rfl) ?_
      refine lv_iload_n hx hb dX9_digest_227 rfl (lv_at hl 2 rfl) ?_
      refine lv_iload hx hb dX9_digest_228 (lv_at hl 0 rfl) ?_
      refine x_cVWi (As := [.int (nI i), .int (nI 2)]) (rest := [.long ((31 : Int64) * (xfold (xfold2 d0 HV 15 i) (HV i) 13))]) S hK hP hS (fun _ h => h) 0 (by omega) rfl rfl (c_X9_owedOfB l τ_230 hI i 2  (xMs_IM hs8 hC) (by first | assumption | omega) (by first | assumption | omega)) (x_cwV (n0 := 2) (cq := (RX9, TX9, 24)) S gX9_digest_X9_owedOf rfl (by decide +kernel) ⟨Nat.le_of_ble_eq_true rfl, Nat.le_of_ble_eq_true rfl⟩) rfl hl.1 rfl (Nat.le_of_ble_eq_true rfl) dX9_digest_230 ⟨Nat.le_refl _, Nat.le_refl _⟩ (fun r_230 τ_230 H locs hr_230 hP hk_230 hS => ?_)
      obtain ⟨hr_230, hms_230, hbs_230⟩ := hr_230
      subst hr_230
      have ho8 := hs8
      have hs8 := xMs_tr ho8 hms_230
      have hbhs8 := hbs_230 hbhs8
      refine x_top S (y := xp_owed (σ 6) (xYM σ) (σ 9) (σ 10) (σ 11) (xcM σ) (nI i) (nI 2)) (by rw [xow_eq ho8, xp_owed, if_pos ⟨xin_nI (by omega) (by omega), xin_nI (by decide) (by decide)⟩, cN_nI (n := i) (by omega), cN_nI (n := 2) (by decide)]) ?_
      refine lv_i2l hx hb dX9_digest_233 rfl ?_
      refine lv_ladd hx hb dX9_digest_234 ?_
      refine x_topL S (y := xfold (xfold2 d0 HV 15 i) (HV i) 14) (by rw [hHV]; rfl) ?_
      refine lv_lstore_n (lv' := [(1, .long (xfold (xfold2 d0 HV 15 i) (HV i) 14)), (4, .int (nI 2)), (3, .int (nI i)), (0, .ref (α 0))]) hx hb dX9_digest_235 rfl hl (by decide) rfl (fun ls hl => ?_)
      refine lv_iinc (v := nI 3) (lv' := [(4, .int (nI 3)), (1, .long (xfold (xfold2 d0 HV 15 i) (HV i) 14)), (3, .int (nI i)), (0, .ref (α 0))]) hx hb dX9_digest_236 hl (k := 1) rfl (by decide) (by decide) rfl (fun ls hl => ?_)
      refine lv_goto (tgt := 215) hx hb dX9_digest_239 (by decide) ?_
      refine lv_iload hx hb dX9_digest_215 (lv_at hl 0 rfl) ?_
      refine lv_iconst (v := nI 3) hx hb dX9_digest_217 (by decide) ?_
      refine x_icmpN_ge (tgt := 242) S dX9_digest_218 (by decide) (by omega) (by omega) (fun _ => ?_) (fun q => absurd q (by omega))
      refine lv_ldc2 hx hb S.2.2.2.1 (S.2.2.2.2 (.constantLong RX9 214 (31)) (List.mem_of_getElem? (i := 2) rfl)) dX9_digest_242 ?_
      refine lv_lload_n hx hb dX9_digest_245 rfl (lv_at hl 1 rfl) ?_
      refine lv_lmul hx hb dX9_digest_246 ?_
      refine lv_aload_n hx hb dX9_digest_247 rfl (lv_at hl 3 rfl) ?_
      refine lv_iload_n hx hb dX9_digest_248 rfl (lv_at hl 2 rfl) ?_
      refine x_cVWi (As := [.int (nI i)]) (rest := [.long ((31 : Int64) * (xfold (xfold2 d0 HV 15 i) (HV i) 14))]) S hK hP hS (fun _ h => h) 0 (by omega) rfl rfl (c_X9_couldOfB l τ_230 hI i  (xMs_IM hs8 hC) (by first | assumption | omega)) (x_cwV (n0 := 1) (cq := (RX9, TX9, 24)) S gX9_digest_X9_couldOf rfl (by decide +kernel) ⟨Nat.le_of_ble_eq_true rfl, Nat.le_of_ble_eq_true rfl⟩) rfl hl.1 rfl (Nat.le_of_ble_eq_true rfl) dX9_digest_249 ⟨Nat.le_refl _, Nat.le_refl _⟩ (fun r_249 τ_249 H locs hr_249 hP hk_249 hS => ?_)
      obtain ⟨hr_249, hms_249, hbs_249⟩ := hr_249
      subst hr_249
      have hsf := xMs_tr hs8 hms_249
      have hbf := hbs_249 hbhs8
      refine x_top S (y := xp_could (xB (xFM σ) (σ 12) (σ 13) (σ 14) (xsM σ)) (nI i)) (by rw [xMs_F hs8, xMs_k (k := 12) hs8 (by decide), xMs_k (k := 13) hs8 (by decide), xMs_k (k := 14) hs8 (by decide), xMs_s hs8, xcb_eq _ (by omega), xp_could, if_neg (nI_m1 (by omega)), if_pos (xin_nI (by omega) (by omega)), cN_nI (n := i) (by omega)]) ?_
      refine lv_i2l hx hb dX9_digest_252 rfl ?_
      refine lv_ladd hx hb dX9_digest_253 ?_
      refine x_topL S (y := xfold2 d0 HV 15 (i + 1)) (by rw [hHV]; rfl) ?_
      refine lv_lstore_n (lv' := [(1, .long (xfold2 d0 HV 15 (i + 1))), (4, .int (nI 3)), (3, .int (nI i)), (0, .ref (α 0))]) hx hb dX9_digest_254 rfl hl (by decide) rfl (fun ls hl => ?_)
      refine lv_iinc (v := nI (i + 1)) (lv' := [(3, .int (nI (i + 1))), (1, .long (xfold2 d0 HV 15 (i + 1))), (4, .int (nI 3)), (0, .ref (α 0))]) hx hb dX9_digest_255 hl (k := 2) rfl (nI_add i 1) (by decide) rfl (fun ls hl => ?_)
      refine lv_goto (tgt := 45) hx hb dX9_digest_258 (by decide) ?_
      exact ih_45 (⟨i + 1, τ_249⟩) H locs ls ⟨(by omega), hsf, hbf, lv_sub hl [0, 1, 3] rfl, hP, hS⟩ (by (try dsimp only); omega)
  · refine lv_ldc2 hx hb S.2.2.2.1 (S.2.2.2.2 (.constantLong RX9 214 (31)) (List.mem_of_getElem? (i := 2) rfl)) dX9_digest_12 ?_
    refine lv_lload_n hx hb dX9_digest_15 rfl (lv_at hl 1 rfl) ?_
    refine lv_lmul hx hb dX9_digest_16 ?_
    refine lv_aload_n hx hb dX9_digest_17 rfl (lv_at hl 2 rfl) ?_
    refine lv_iload_n hx hb dX9_digest_18 rfl (lv_at hl 0 rfl) ?_
    refine x_cVWi (As := [.int (nI i)]) (rest := [.long ((31 : Int64) * (xfold 17 (fun k => (xp_count (xcv (xFM σ) (σ 6) (xYM σ) (xLM σ) (xcM σ) (xsM σ) (σ 0 23)) (nI k)).toInt64) i))]) S hK hP hS (fun _ h => h) 0 (by omega) rfl rfl (c_X9_count l τ9 hI (nI i)  (xMs_IM hm9 hC)) (x_cwV (n0 := 1) (cq := (RX9, TX9, 24)) S gX9_digest_X9_count rfl (by decide +kernel) ⟨Nat.le_of_ble_eq_true rfl, Nat.le_of_ble_eq_true rfl⟩) rfl hl.1 rfl (Nat.le_of_ble_eq_true rfl) dX9_digest_19 ⟨Nat.le_refl _, Nat.le_refl _⟩ (fun r_19 τ_19 H locs hr_19 hP hk_19 hS => ?_)
    obtain ⟨hr_19, hms_19⟩ := hr_19
    subst hr_19
    refine x_top S (y := xp_count (xcv (xFM σ) (σ 6) (xYM σ) (xLM σ) (xcM σ) (xsM σ) (σ 0 23)) (nI i)) (by rw [xMs_F hm9, xMs_k (k := 6) hm9 (by decide), xMs_Y hm9, xMs_L hm9, xMs_c hm9, xMs_s hm9, hm9.2 23 (by decide)]) ?_
    refine lv_i2l hx hb dX9_digest_22 rfl ?_
    refine lv_ladd hx hb dX9_digest_23 ?_
    refine lv_lstore_n (lv' := [(1, .long (((31 : Int64) * (xfold 17 (fun k => (xp_count (xcv (xFM σ) (σ 6) (xYM σ) (xLM σ) (xcM σ) (xsM σ) (σ 0 23)) (nI k)).toInt64) i)) + ((xp_count (xcv (xFM σ) (σ 6) (xYM σ) (xLM σ) (xcM σ) (xsM σ) (σ 0 23)) (nI i)).toInt64))), (3, .int (nI i)), (0, .ref (α 0))]) hx hb dX9_digest_24 rfl hl (by decide) rfl (fun ls hl => ?_)
    refine lv_iinc (v := nI (i + 1)) (lv' := [(3, .int (nI (i + 1))), (1, .long (((31 : Int64) * (xfold 17 (fun k => (xp_count (xcv (xFM σ) (σ 6) (xYM σ) (xLM σ) (xcM σ) (xsM σ) (σ 0 23)) (nI k)).toInt64) i)) + ((xp_count (xcv (xFM σ) (σ 6) (xYM σ) (xLM σ) (xcM σ) (xsM σ) (σ 0 23)) (nI i)).toInt64))), (0, .ref (α 0))]) hx hb dX9_digest_25 hl (k := 1) rfl (nI_add i 1) (by decide) rfl (fun ls hl => ?_)
    refine lv_goto (tgt := 6) hx hb dX9_digest_28 (by decide) ?_
    exact ih_6 (⟨i + 1, τ_19⟩) H locs ls ⟨(by omega), xMs_tr hm9 hms_19, lv_sub hl [0, 1, 2] rfl, hP, hS⟩ (by (try dsimp only); omega)

set_option maxHeartbeats 4000000 in
set_option maxRecDepth 100000 in
theorem c_X9_chanceOf (l : Launch) {D : va_G} {K : Nat → ClassId} {α : Nat → Nat} (σ : Nat → Nat → Int32) (hI : xw_I 20 α) (h : Nat) (n : Nat) (x : Int32)  (hh : h < 6) (hn : n < 6) : Met l yX9_chanceOf wsX9_chanceOf (xrm 2) (va_Pc [.ref (α 0), .int (nI h), .int (nI n), .int x] (xPre D K 20 α (xM α K) σ)) (xQl D 20 α (xM α K) (fun r τ => r = (if xson (xFM σ) 720 = 0 then xrefuse (-3) else xfrac (xsrn (xFM σ) h n 720) (xson (xFM σ) 720) x) ∧ xMs σ τ)) 0 0 (xw_R 20 α) := by
  refine Met.ofW (cc := cX9_chanceOf) (maxL := 7) (ret := (some .long)) (by decide) rfl ?_
  intro p e s m args below meth c s₁ B hml hv
  obtain ⟨rfl, hK, hP⟩ := hv
  have S : CallFix p m c cX9_chanceOf 7 s _ wsX9_chanceOf RX9 := ⟨B.exec, B.bytes, hml, findClass_of_methodNamed B.named, atoms_spec (ws := wsX9_chanceOf) B.pre⟩
  have hx := S.1
  have hb := S.2.1
  have hr := B.returns
  have hlocks := B.notSynchronized
  have hS : va_S (xw_R 20 α) s.heap s.heap [] := va_S.rf
  have hl := lv_entry ([.ref (α 0), .int (nI h), .int (nI n), .int x]) (n := 7) (Nat.le_of_ble_eq_true rfl)
  rw [lg_entry_eq]
  generalize (lg_sl ([.ref (α 0), .int (nI h), .int (nI n), .int x]) ++ List.replicate (7 - (lg_sl ([.ref (α 0), .int (nI h), .int (nI n), .int x])).length) Slot.unset).toArray = ls at hl ⊢
  have hl : lv_has ls 7 [(0, .ref (α 0)), (1, .int (nI h)), (2, .int (nI n)), (3, .int x)] := hl
  have hPP := hP
  refine lv_iconst (v := nI 0) hx hb dX9_chanceOf_0 (by decide) ?_
  refine lv_istore (lv' := [(4, .int (nI 0)), (0, .ref (α 0)), (1, .int (nI h)), (2, .int (nI n)), (3, .int x)]) hx hb dX9_chanceOf_1 hl (by decide) rfl (fun ls hl => ?_)
  refine lv_iconst (v := nI 0) hx hb dX9_chanceOf_3 (by decide) ?_
  refine lv_istore (lv' := [(5, .int (nI 0)), (4, .int (nI 0)), (0, .ref (α 0)), (1, .int (nI h)), (2, .int (nI n)), (3, .int x)]) hx hb dX9_chanceOf_4 hl (by decide) rfl (fun ls hl => ?_)
  refine lv_iconst (v := nI 0) hx hb dX9_chanceOf_6 (by decide) ?_
  refine lv_istore (lv' := [(6, .int (nI 0)), (5, .int (nI 0)), (4, .int (nI 0)), (0, .ref (α 0)), (1, .int (nI h)), (2, .int (nI n)), (3, .int x)]) hx hb dX9_chanceOf_7 hl (by decide) rfl (fun ls hl => ?_)
  refine x_loopW (ι := Nat × (Nat → Nat → Int32)) (fun z9 H locs ls => match z9 with | ⟨i, τ9⟩ => (i ≤ 720) ∧ (xMs σ τ9) ∧ lv_has ls 7 [(6, .int (nI i)), (5, .int (nI (xsrn (xFM σ) h n i))), (4, .int (nI (xson (xFM σ) i))), (0, .ref (α 0)), (1, .int (nI h)), (2, .int (nI n)), (3, .int x)] ∧ va_P D vwCl (xw 20 α (xM α K) τ9) H ∧ va_S (xw_R 20 α) s.heap H locs) (fun z9 => match z9 with | ⟨i, τ9⟩ => 720 - i) ?_ (⟨0, σ⟩) ls ⟨Nat.zero_le _, xMs_rf _, lv_sub hl [0, 1, 2, 3, 4, 5, 6] rfl, hP, hS⟩
  intro z9 H locs ls hinv ih_9
  obtain ⟨i, τ9⟩ := z9
  obtain ⟨hi, hm9, hl, hP, hS⟩ := hinv
  have hl : lv_has ls 7 [(6, .int (nI i)), (5, .int (nI (xsrn (xFM σ) h n i))), (4, .int (nI (xson (xFM σ) i))), (0, .ref (α 0)), (1, .int (nI h)), (2, .int (nI n)), (3, .int x)] := hl
  have hP : va_P D vwCl (xw 20 α (xM α K) τ9) H := hP
  have hq9 := xson_le (xFM σ) i
  have hq8 := xsrn_le (xFM σ) h n i
  refine lv_iload hx hb dX9_chanceOf_9 (lv_at hl 0 rfl) ?_
  refine lv_sipush (v := nI 720) hx hb dX9_chanceOf_11 (by decide) ?_
  refine x_icmpN_ge (tgt := 59) S dX9_chanceOf_14 (by decide) (by omega) (by omega) (fun c_14 => ?_) (fun c_14 => ?_)
  · have e9 : i = 720 := by omega
    subst e9
    refine lv_iload hx hb dX9_chanceOf_59 (lv_at hl 2 rfl) ?_
    refine x_ifN_ne (tgt := 72) S dX9_chanceOf_61 (by decide) (by omega) (fun c_61 => ?_) (fun c_61 => ?_)
    · refine lv_iload hx hb dX9_chanceOf_72 (lv_at hl 1 rfl) ?_
      refine lv_i2l hx hb dX9_chanceOf_74 rfl ?_
      refine x_topL S (y := lN (xsrn (xFM σ) h n 720)) (nI_l (by omega)) ?_
      refine lv_iload hx hb dX9_chanceOf_75 (lv_at hl 2 rfl) ?_
      refine lv_i2l hx hb dX9_chanceOf_77 rfl ?_
      refine x_topL S (y := lN (xson (xFM σ) 720)) (nI_l (by omega)) ?_
      refine lv_iload_n hx hb dX9_chanceOf_78 rfl (lv_at hl 6 rfl) ?_
      refine x_cSl (As := [.long (lN (xsrn (xFM σ) h n 720)), .long (lN (xson (xFM σ) 720)), .int x]) (rest := []) S (c_X9_lowest l (xsrn (xFM σ) h n 720) (xson (xFM σ) 720) x  (by first | assumption | omega) (by first | assumption | omega) (by first | assumption | omega)) (x_cwS (n0 := 3) S gX9_chanceOf_X9_lowest rfl (by decide +kernel) ⟨Nat.le_of_ble_eq_true rfl, Nat.le_of_ble_eq_true rfl⟩) rfl hl.1 rfl (Nat.le_of_ble_eq_true rfl) dX9_chanceOf_79 ⟨Nat.le_refl _, Nat.le_refl _⟩ (fun r_79 hr_79 => ?_)
      subst hr_79
      exact x_lretW S hlocks hP hS hr (⟨by rw [if_neg (by omega)], hm9⟩) dX9_chanceOf_82
    · refine lv_bipush (v := (-3)) hx hb dX9_chanceOf_64 (by decide) ?_
      refine x_cSl (As := [.int (-3 : Int32)]) (rest := []) S (c_X9_no l (-3 : Int32)  ) (x_cwS (n0 := 1) S gX9_chanceOf_X9_no rfl (by decide +kernel) ⟨Nat.le_of_ble_eq_true rfl, Nat.le_of_ble_eq_true rfl⟩) rfl hl.1 rfl (Nat.le_of_ble_eq_true rfl) dX9_chanceOf_66 ⟨Nat.le_refl _, Nat.le_refl _⟩ (fun r_66 hr_66 => ?_)
      subst hr_66
      refine lv_goto (tgt := 82) hx hb dX9_chanceOf_69 (by decide) ?_
      exact x_lretW S hlocks hP hS hr (⟨by rw [if_pos c_61], hm9⟩) dX9_chanceOf_82
  · refine lv_aload_n hx hb dX9_chanceOf_17 rfl (lv_at hl 3 rfl) ?_
    refine lv_iload hx hb dX9_chanceOf_18 (lv_at hl 0 rfl) ?_
    refine x_cVWv (As := [.int (nI i)]) (rest := []) S hK hP hS (fun _ h => h) 0 (by omega) rfl rfl (c_X9_lays l τ9 hI i  (by first | assumption | omega)) (x_cwV (n0 := 1) (cq := (RX9, TX9, 24)) S gX9_chanceOf_X9_lays rfl (by decide +kernel) ⟨Nat.le_of_ble_eq_true rfl, Nat.le_of_ble_eq_true rfl⟩) rfl hl.1 rfl (Nat.le_of_ble_eq_true rfl) dX9_chanceOf_20 ⟨Nat.le_refl _, Nat.le_refl _⟩ (fun τ_20 H locs hr_20 hP hk_20 hS => ?_)
    subst hr_20
    refine lv_aload_n hx hb dX9_chanceOf_23 rfl (lv_at hl 3 rfl) ?_
    refine x_cVRi (As := []) (rest := []) S hK hP 0 (by omega) rfl rfl (c_X9_isSound l (xst_lay τ9 (xl_r i)) (xl_r i)  (fun h hh => ⟨xlay_8 _ _ hh, xl_r_lt (by omega) hh⟩)) (x_cwV (n0 := 0) (cq := (RX9, TX9, 24)) S gX9_chanceOf_X9_isSound rfl (by decide +kernel) ⟨Nat.le_of_ble_eq_true rfl, Nat.le_of_ble_eq_true rfl⟩) rfl hl.1 rfl (Nat.le_of_ble_eq_true rfl) dX9_chanceOf_24 ⟨Nat.le_refl _, Nat.le_refl _⟩ (fun r_24 hr_24 => ?_)
    subst hr_24
    refine x_top S (y := xb (xso (xFM σ) i)) (by rw [xMs_F (xMs_lay hm9 _)]) ?_
    refine x_if_eqB (tgt := 53) S dX9_chanceOf_27 (by decide) (fun c_27 => ?_) (fun c_27 => ?_)
    · refine lv_iinc (v := nI (i + 1)) (lv' := [(6, .int (nI (i + 1))), (5, .int (nI (xsrn (xFM σ) h n i))), (4, .int (nI (xson (xFM σ) i))), (0, .ref (α 0)), (1, .int (nI h)), (2, .int (nI n)), (3, .int x)]) hx hb dX9_chanceOf_53 hl (k := 0) rfl (nI_add i 1) (by decide) rfl (fun ls hl => ?_)
      refine lv_goto (tgt := 9) hx hb dX9_chanceOf_56 (by decide) ?_
      exact ih_9 (⟨i + 1, xst_lay τ9 (xl_r i)⟩) H locs ls ⟨(by omega), xMs_lay hm9 _, (by have h9 := lv_sub (l' := [(6, .int (nI (i + 1))), (5, .int (nI (xsrn (xFM σ) h n i))), (4, .int (nI (xson (xFM σ) i))), (0, .ref (α 0)), (1, .int (nI h)), (2, .int (nI n)), (3, .int x)]) hl [0, 1, 2, 3, 4, 5, 6] rfl; rw [show nI (xson (xFM σ) i) = nI (xson (xFM σ) (i + 1)) from by rw [xson_s]; first | (rw [if_pos c_27] <;> rfl) | (rw [if_neg c_27] <;> rfl)] at h9; rw [show nI (xsrn (xFM σ) h n i) = nI (xsrn (xFM σ) h n (i + 1)) from by rw [xsrn_s]; first | (rw [if_pos ⟨c_27, c_42⟩] <;> rfl) | (rw [if_neg (fun q => c_27 q.1)] <;> rfl) | (rw [if_neg (fun q => c_42 q.2)] <;> rfl)] at h9; exact h9), hP, hS⟩ (by (try dsimp only); omega)
    · have hw9 := xl_r_lt (k := i) (h := h) (by omega) (by omega)
      refine lv_iinc (v := nI (xson (xFM σ) i + 1)) (lv' := [(4, .int (nI (xson (xFM σ) i + 1))), (6, .int (nI i)), (5, .int (nI (xsrn (xFM σ) h n i))), (0, .ref (α 0)), (1, .int (nI h)), (2, .int (nI n)), (3, .int x)]) hx hb dX9_chanceOf_30 hl (k := 2) rfl (nI_add (xson (xFM σ) i) 1) (by decide) rfl (fun ls hl => ?_)
      refine lv_iload hx hb dX9_chanceOf_33 (lv_at hl 2 rfl) ?_
      refine lv_aload_n hx hb dX9_chanceOf_35 rfl (lv_at hl 3 rfl) ?_
      refine x_get S (fun w h => List.mem_cons_of_mem _ (List.mem_append_right _ h)) hK hP 0 (by omega) rfl rfl 9 (by decide) (List.mem_of_getElem? (i := 1) rfl) rfl dX9_chanceOf_36 ?_
      refine lv_iload_n hx hb dX9_chanceOf_39 rfl (lv_at hl 4 rfl) ?_
      refine x_iald S hK hP 8 (by omega) rfl (by first | assumption | omega) (by omega) dX9_chanceOf_40 ?_
      refine x_top S (y := nI (xl_r i h)) (xlay_8 _ _ hh) ?_
      refine lv_iload_n hx hb dX9_chanceOf_41 rfl (lv_at hl 5 rfl) ?_
      refine x_icmpN_ne (tgt := 49) S dX9_chanceOf_42 (by decide) (by omega) (by omega) (fun c_42 => ?_) (fun c_42 => ?_)
      · refine lv_iconst (v := nI 0) hx hb dX9_chanceOf_49 (by decide) ?_
        refine x_iaddN S dX9_chanceOf_50 ?_
        refine lv_istore (lv' := [(5, .int (nI ((xsrn (xFM σ) h n i) + 0))), (4, .int (nI (xson (xFM σ) i + 1))), (6, .int (nI i)), (0, .ref (α 0)), (1, .int (nI h)), (2, .int (nI n)), (3, .int x)]) hx hb dX9_chanceOf_51 hl (by decide) rfl (fun ls hl => ?_)
        refine lv_iinc (v := nI (i + 1)) (lv' := [(6, .int (nI (i + 1))), (5, .int (nI ((xsrn (xFM σ) h n i) + 0))), (4, .int (nI (xson (xFM σ) i + 1))), (0, .ref (α 0)), (1, .int (nI h)), (2, .int (nI n)), (3, .int x)]) hx hb dX9_chanceOf_53 hl (k := 2) rfl (nI_add i 1) (by decide) rfl (fun ls hl => ?_)
        refine lv_goto (tgt := 9) hx hb dX9_chanceOf_56 (by decide) ?_
        exact ih_9 (⟨i + 1, xst_lay τ9 (xl_r i)⟩) H locs ls ⟨(by omega), xMs_lay hm9 _, (by have h9 := lv_sub (l' := [(6, .int (nI (i + 1))), (5, .int (nI ((xsrn (xFM σ) h n i) + 0))), (4, .int (nI (xson (xFM σ) i + 1))), (0, .ref (α 0)), (1, .int (nI h)), (2, .int (nI n)), (3, .int x)]) hl [0, 1, 2, 3, 4, 5, 6] rfl; rw [show nI (xson (xFM σ) i + 1) = nI (xson (xFM σ) (i + 1)) from by rw [xson_s]; first | (rw [if_pos c_27] <;> rfl) | (rw [if_neg c_27] <;> rfl)] at h9; rw [show nI ((xsrn (xFM σ) h n i) + 0) = nI (xsrn (xFM σ) h n (i + 1)) from by rw [xsrn_s]; first | (rw [if_pos ⟨c_27, c_42⟩] <;> rfl) | (rw [if_neg (fun q => c_27 q.1)] <;> rfl) | (rw [if_neg (fun q => c_42 q.2)] <;> rfl)] at h9; exact h9), hP, hS⟩ (by (try dsimp only); omega)
      · refine lv_iconst (v := nI 1) hx hb dX9_chanceOf_45 (by decide) ?_
        refine lv_goto (tgt := 50) hx hb dX9_chanceOf_46 (by decide) ?_
        refine x_iaddN S dX9_chanceOf_50 ?_
        refine lv_istore (lv' := [(5, .int (nI ((xsrn (xFM σ) h n i) + 1))), (4, .int (nI (xson (xFM σ) i + 1))), (6, .int (nI i)), (0, .ref (α 0)), (1, .int (nI h)), (2, .int (nI n)), (3, .int x)]) hx hb dX9_chanceOf_51 hl (by decide) rfl (fun ls hl => ?_)
        refine lv_iinc (v := nI (i + 1)) (lv' := [(6, .int (nI (i + 1))), (5, .int (nI ((xsrn (xFM σ) h n i) + 1))), (4, .int (nI (xson (xFM σ) i + 1))), (0, .ref (α 0)), (1, .int (nI h)), (2, .int (nI n)), (3, .int x)]) hx hb dX9_chanceOf_53 hl (k := 2) rfl (nI_add i 1) (by decide) rfl (fun ls hl => ?_)
        refine lv_goto (tgt := 9) hx hb dX9_chanceOf_56 (by decide) ?_
        exact ih_9 (⟨i + 1, xst_lay τ9 (xl_r i)⟩) H locs ls ⟨(by omega), xMs_lay hm9 _, (by have h9 := lv_sub (l' := [(6, .int (nI (i + 1))), (5, .int (nI ((xsrn (xFM σ) h n i) + 1))), (4, .int (nI (xson (xFM σ) i + 1))), (0, .ref (α 0)), (1, .int (nI h)), (2, .int (nI n)), (3, .int x)]) hl [0, 1, 2, 3, 4, 5, 6] rfl; rw [show nI (xson (xFM σ) i + 1) = nI (xson (xFM σ) (i + 1)) from by rw [xson_s]; first | (rw [if_pos c_27] <;> rfl) | (rw [if_neg c_27] <;> rfl)] at h9; rw [show nI ((xsrn (xFM σ) h n i) + 1) = nI (xsrn (xFM σ) h n (i + 1)) from by rw [xsrn_s]; first | (rw [if_pos ⟨c_27, c_42⟩] <;> rfl) | (rw [if_neg (fun q => c_27 q.1)] <;> rfl) | (rw [if_neg (fun q => c_42 q.2)] <;> rfl)] at h9; exact h9), hP, hS⟩ (by (try dsimp only); omega)
set_option maxHeartbeats 4000000 in
set_option maxRecDepth 100000 in
theorem c_X9_chance (l : Launch) {D : va_G} {K : Nat → ClassId} {α : Nat → Nat} (σ : Nat → Nat → Int32) (hI : xw_I 20 α) (x0 : Int32) (x1 : Int32) (x2 : Int32)  : Met l yX9_chance wsX9_chance (xrm 3) (va_Pc [.ref (α 0), .int x0, .int x1, .int x2] (xPre D K 20 α (xM α K) σ)) (xQl D 20 α (xM α K) (fun r τ => r = xpm_chance (xFM σ) x0 x1 x2 ∧ xMs σ τ)) 0 0 (xw_R 20 α) := by
  refine Met.ofW (cc := cX9_chance) (maxL := 4) (ret := (some .long)) (by decide) rfl ?_
  intro p e s m args below meth c s₁ B hml hv
  obtain ⟨rfl, hK, hP⟩ := hv
  have S : CallFix p m c cX9_chance 4 s _ wsX9_chance RX9 := ⟨B.exec, B.bytes, hml, findClass_of_methodNamed B.named, atoms_spec (ws := wsX9_chance) B.pre⟩
  have hx := S.1
  have hb := S.2.1
  have hr := B.returns
  have hlocks := B.notSynchronized
  have hS : va_S (xw_R 20 α) s.heap s.heap [] := va_S.rf
  have hl := lv_entry ([.ref (α 0), .int x0, .int x1, .int x2]) (n := 4) (Nat.le_of_ble_eq_true rfl)
  rw [lg_entry_eq]
  generalize (lg_sl ([.ref (α 0), .int x0, .int x1, .int x2]) ++ List.replicate (4 - (lg_sl ([.ref (α 0), .int x0, .int x1, .int x2])).length) Slot.unset).toArray = ls at hl ⊢
  have hl : lv_has ls 4 [(0, .ref (α 0)), (1, .int x0), (2, .int x1), (3, .int x2)] := hl
  have hPP := hP
  
  refine lv_iload_n hx hb dX9_chance_0 rfl (lv_at hl 1 rfl) ?_
  refine x_cSi (As := [.int x0]) (rest := []) S (c_X9_isSix l x0  ) (x_cwS (n0 := 1) S gX9_chance_X9_isSix rfl (by decide +kernel) ⟨Nat.le_of_ble_eq_true rfl, Nat.le_of_ble_eq_true rfl⟩) rfl hl.1 rfl (Nat.le_of_ble_eq_true rfl) dX9_chance_1 ⟨Nat.le_refl _, Nat.le_refl _⟩ (fun r_1 hr_1 => ?_)
  subst hr_1
  refine x_if_eqB (tgt := 33) S dX9_chance_4 (by decide) (fun c_4 => ?_) (fun c_4 => ?_)
  · refine lv_bipush (v := (-2)) hx hb dX9_chance_33 (by decide) ?_
    refine x_cSl (As := [.int (-2 : Int32)]) (rest := []) S (c_X9_no l (-2 : Int32)  ) (x_cwS (n0 := 1) S gX9_chance_X9_no rfl (by decide +kernel) ⟨Nat.le_of_ble_eq_true rfl, Nat.le_of_ble_eq_true rfl⟩) rfl hl.1 rfl (Nat.le_of_ble_eq_true rfl) dX9_chance_35 ⟨Nat.le_refl _, Nat.le_refl _⟩ (fun r_35 hr_35 => ?_)
    subst hr_35
    exact x_lretW S hlocks hP hS hr (by first | exact ⟨by rw [xpm_chance, if_neg (fun q => c_4 q.1)], xMs_rf _⟩ | exact ⟨by rw [xpm_chance, if_neg (fun q => c_11 q.2.1)], xMs_rf _⟩ | exact ⟨by rw [xpm_chance, if_neg (fun q => c_20 q.2.2)], xMs_rf _⟩) dX9_chance_38
  · refine lv_iload_n hx hb dX9_chance_7 rfl (lv_at hl 2 rfl) ?_
    refine x_cSi (As := [.int x1]) (rest := []) S (c_X9_isSix l x1  ) (x_cwS (n0 := 1) S gX9_chance_X9_isSix rfl (by decide +kernel) ⟨Nat.le_of_ble_eq_true rfl, Nat.le_of_ble_eq_true rfl⟩) rfl hl.1 rfl (Nat.le_of_ble_eq_true rfl) dX9_chance_8 ⟨Nat.le_refl _, Nat.le_refl _⟩ (fun r_8 hr_8 => ?_)
    subst hr_8
    refine x_if_eqB (tgt := 33) S dX9_chance_11 (by decide) (fun c_11 => ?_) (fun c_11 => ?_)
    · refine lv_bipush (v := (-2)) hx hb dX9_chance_33 (by decide) ?_
      refine x_cSl (As := [.int (-2 : Int32)]) (rest := []) S (c_X9_no l (-2 : Int32)  ) (x_cwS (n0 := 1) S gX9_chance_X9_no rfl (by decide +kernel) ⟨Nat.le_of_ble_eq_true rfl, Nat.le_of_ble_eq_true rfl⟩) rfl hl.1 rfl (Nat.le_of_ble_eq_true rfl) dX9_chance_35 ⟨Nat.le_refl _, Nat.le_refl _⟩ (fun r_35 hr_35 => ?_)
      subst hr_35
      exact x_lretW S hlocks hP hS hr (by first | exact ⟨by rw [xpm_chance, if_neg (fun q => c_4 q.1)], xMs_rf _⟩ | exact ⟨by rw [xpm_chance, if_neg (fun q => c_11 q.2.1)], xMs_rf _⟩ | exact ⟨by rw [xpm_chance, if_neg (fun q => c_20 q.2.2)], xMs_rf _⟩) dX9_chance_38
    · refine lv_iload_n hx hb dX9_chance_14 rfl (lv_at hl 3 rfl) ?_
      refine lv_iconst (v := nI 0) hx hb dX9_chance_15 (by decide) ?_
      refine lv_iconst (v := nI 1) hx hb dX9_chance_16 (by decide) ?_
      refine x_cSi (As := [.int x2, .int (nI 0), .int (nI 1)]) (rest := []) S (c_X9_in0 l x2 1  (by first | assumption | omega)) (x_cwS (n0 := 3) S gX9_chance_X9_in rfl (by decide +kernel) ⟨Nat.le_of_ble_eq_true rfl, Nat.le_of_ble_eq_true rfl⟩) rfl hl.1 rfl (Nat.le_of_ble_eq_true rfl) dX9_chance_17 ⟨Nat.le_refl _, Nat.le_refl _⟩ (fun r_17 hr_17 => ?_)
      subst hr_17
      refine x_if_eqB (tgt := 33) S dX9_chance_20 (by decide) (fun c_20 => ?_) (fun c_20 => ?_)
      · refine lv_bipush (v := (-2)) hx hb dX9_chance_33 (by decide) ?_
        refine x_cSl (As := [.int (-2 : Int32)]) (rest := []) S (c_X9_no l (-2 : Int32)  ) (x_cwS (n0 := 1) S gX9_chance_X9_no rfl (by decide +kernel) ⟨Nat.le_of_ble_eq_true rfl, Nat.le_of_ble_eq_true rfl⟩) rfl hl.1 rfl (Nat.le_of_ble_eq_true rfl) dX9_chance_35 ⟨Nat.le_refl _, Nat.le_refl _⟩ (fun r_35 hr_35 => ?_)
        subst hr_35
        exact x_lretW S hlocks hP hS hr (by first | exact ⟨by rw [xpm_chance, if_neg (fun q => c_4 q.1)], xMs_rf _⟩ | exact ⟨by rw [xpm_chance, if_neg (fun q => c_11 q.2.1)], xMs_rf _⟩ | exact ⟨by rw [xpm_chance, if_neg (fun q => c_20 q.2.2)], xMs_rf _⟩) dX9_chance_38
      · obtain ⟨h, hh, rfl⟩ := xin_of c_4 (by omega)
        obtain ⟨n, hn, rfl⟩ := xin_of c_11 (by omega)
        refine lv_aload_n hx hb dX9_chance_23 rfl (lv_at hl 0 rfl) ?_
        refine lv_iload_n hx hb dX9_chance_24 rfl (lv_at hl 1 rfl) ?_
        refine lv_iload_n hx hb dX9_chance_25 rfl (lv_at hl 2 rfl) ?_
        refine lv_iload_n hx hb dX9_chance_26 rfl (lv_at hl 3 rfl) ?_
        refine x_cVWl (As := [.int (nI h), .int (nI n), .int x2]) (rest := []) S hK hP hS (fun _ h => h) 0 (by omega) rfl rfl (c_X9_chanceOf l σ hI h n x2  (by first | assumption | omega) (by first | assumption | omega)) (x_cwV (n0 := 3) (cq := (RX9, TX9, 24)) S gX9_chance_X9_chanceOf rfl (by decide +kernel) ⟨Nat.le_of_ble_eq_true rfl, Nat.le_of_ble_eq_true rfl⟩) rfl hl.1 rfl (Nat.le_of_ble_eq_true rfl) dX9_chance_27 ⟨Nat.le_refl _, Nat.le_refl _⟩ (fun r_27 τ_27 H locs hr_27 hP hk_27 hS => ?_)
        obtain ⟨hr_27, hms_27⟩ := hr_27
        subst hr_27
        refine lv_goto (tgt := 38) hx hb dX9_chance_30 (by decide) ?_
        exact x_lretW S hlocks hP hS hr (⟨by rw [xpm_chance, if_pos (show xin (nI h) 6 ∧ xin (nI n) 6 ∧ xin x2 2 from ⟨xin_nI (by omega) (by omega), xin_nI (by omega) (by omega), c_20⟩), cN_nI (n := h) (by omega), cN_nI (n := n) (by omega)], hms_27⟩) dX9_chance_38

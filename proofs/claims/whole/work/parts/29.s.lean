set_option maxHeartbeats 4000000 in
set_option maxRecDepth 100000 in
theorem c_X9_soundOf (l : Launch) {D : va_G} {K : Nat → ClassId} {α : Nat → Nat} (σ : Nat → Nat → Int32) (hI : xw_I 20 α)   : Met l yX9_soundOf wsX9_soundOf (xrm 2) (va_Pc [.ref (α 0), .int (-1)] (xPre D K 20 α (xM α K) σ)) (xQi D 20 α (xM α K) (fun r τ => r = nI (xson (xFM σ) 720) ∧ xMs σ τ)) 0 0 (xw_R 20 α) := by
  refine Met.ofW (cc := cX9_soundOf) (maxL := 5) (ret := (some .int)) (by decide) rfl ?_
  intro p e s m args below meth c s₁ B hml hv
  obtain ⟨rfl, hK, hP⟩ := hv
  have S : CallFix p m c cX9_soundOf 5 s _ wsX9_soundOf RX9 := ⟨B.exec, B.bytes, hml, findClass_of_methodNamed B.named, atoms_spec (ws := wsX9_soundOf) B.pre⟩
  have hx := S.1
  have hb := S.2.1
  have hr := B.returns
  have hlocks := B.notSynchronized
  have hS : va_S (xw_R 20 α) s.heap s.heap [] := va_S.rf
  have hl := lv_entry ([.ref (α 0), .int (-1)]) (n := 5) (Nat.le_of_ble_eq_true rfl)
  rw [lg_entry_eq]
  generalize (lg_sl ([.ref (α 0), .int (-1)]) ++ List.replicate (5 - (lg_sl ([.ref (α 0), .int (-1)])).length) Slot.unset).toArray = ls at hl ⊢
  have hl : lv_has ls 5 [(0, .ref (α 0)), (1, .int (-1 : Int32))] := hl
  have hPP := hP
  refine lv_iconst (v := nI 0) hx hb dX9_soundOf_0 (by decide) ?_
  refine lv_istore_n (lv' := [(2, .int (nI 0)), (0, .ref (α 0)), (1, .int (-1 : Int32))]) hx hb dX9_soundOf_1 rfl hl (by decide) rfl (fun ls hl => ?_)
  refine lv_iconst (v := (-1)) hx hb dX9_soundOf_2 (by decide) ?_
  refine lv_istore_n (lv' := [(3, .int (-1 : Int32)), (2, .int (nI 0)), (0, .ref (α 0)), (1, .int (-1 : Int32))]) hx hb dX9_soundOf_3 rfl hl (by decide) rfl (fun ls hl => ?_)
  refine lv_iconst (v := nI 0) hx hb dX9_soundOf_4 (by decide) ?_
  refine lv_istore (lv' := [(4, .int (nI 0)), (3, .int (-1 : Int32)), (2, .int (nI 0)), (0, .ref (α 0)), (1, .int (-1 : Int32))]) hx hb dX9_soundOf_5 hl (by decide) rfl (fun ls hl => ?_)
  refine x_loopW (ι := Nat × (Nat → Nat → Int32)) (fun z9 H locs ls => match z9 with | ⟨i, τ9⟩ => (i ≤ 720) ∧ (xMs σ τ9) ∧ lv_has ls 5 [(4, .int (nI i)), (3, .int (-1 : Int32)), (2, .int (nI (xson (xFM σ) i))), (0, .ref (α 0)), (1, .int (-1 : Int32))] ∧ va_P D vwCl (xw 20 α (xM α K) τ9) H ∧ va_S (xw_R 20 α) s.heap H locs) (fun z9 => match z9 with | ⟨i, τ9⟩ => 720 - i) ?_ (⟨0, σ⟩) ls ⟨Nat.zero_le _, xMs_rf _, lv_sub hl [0, 1, 2, 3, 4] rfl, hP, hS⟩
  intro z9 H locs ls hinv ih_7
  obtain ⟨i, τ9⟩ := z9
  obtain ⟨hi, hm9, hl, hP, hS⟩ := hinv
  have hl : lv_has ls 5 [(4, .int (nI i)), (3, .int (-1 : Int32)), (2, .int (nI (xson (xFM σ) i))), (0, .ref (α 0)), (1, .int (-1 : Int32))] := hl
  have hP : va_P D vwCl (xw 20 α (xM α K) τ9) H := hP
  have hq9 := xson_le (xFM σ) i
  refine lv_iload hx hb dX9_soundOf_7 (lv_at hl 0 rfl) ?_
  refine lv_sipush (v := nI 720) hx hb dX9_soundOf_9 (by decide) ?_
  refine x_icmpN_ge (tgt := 57) S dX9_soundOf_12 (by decide) (by omega) (by omega) (fun c_12 => ?_) (fun c_12 => ?_)
  · have e9 : i = 720 := by omega
    subst e9
    refine lv_iload_n hx hb dX9_soundOf_57 rfl (lv_at hl 4 rfl) ?_
    refine lv_iconst (v := (-1)) hx hb dX9_soundOf_58 (by decide) ?_
    refine lv_icmp_ne (tgt := 66) hx hb dX9_soundOf_59 (by decide) (fun q => absurd rfl q) (fun _ => ?_)
    refine lv_iload_n hx hb dX9_soundOf_62 rfl (lv_at hl 2 rfl) ?_
    refine lv_goto (tgt := 67) hx hb dX9_soundOf_63 (by decide) ?_
    exact x_iretW S hlocks hP hS hr rfl (⟨rfl, hm9⟩) dX9_soundOf_67
  · refine lv_aload_n hx hb dX9_soundOf_15 rfl (lv_at hl 3 rfl) ?_
    refine lv_iload hx hb dX9_soundOf_16 (lv_at hl 0 rfl) ?_
    refine x_cVWv (As := [.int (nI i)]) (rest := []) S hK hP hS (fun _ h => h) 0 (by omega) rfl rfl (c_X9_lays l τ9 hI i  (by first | assumption | omega)) (x_cwV (n0 := 1) (cq := (RX9, TX9, 24)) S gX9_soundOf_X9_lays rfl (by decide +kernel) ⟨Nat.le_of_ble_eq_true rfl, Nat.le_of_ble_eq_true rfl⟩) rfl hl.1 rfl (Nat.le_of_ble_eq_true rfl) dX9_soundOf_18 ⟨Nat.le_refl _, Nat.le_refl _⟩ (fun τ_18 H locs hr_18 hP hk_18 hS => ?_)
    subst hr_18
    refine lv_aload_n hx hb dX9_soundOf_21 rfl (lv_at hl 3 rfl) ?_
    refine x_cVRi (As := []) (rest := []) S hK hP 0 (by omega) rfl rfl (c_X9_isSound l (xst_lay τ9 (xl_r i)) (xl_r i)  (fun h hh => ⟨xlay_8 _ _ hh, xl_r_lt (by omega) hh⟩)) (x_cwV (n0 := 0) (cq := (RX9, TX9, 24)) S gX9_soundOf_X9_isSound rfl (by decide +kernel) ⟨Nat.le_of_ble_eq_true rfl, Nat.le_of_ble_eq_true rfl⟩) rfl hl.1 rfl (Nat.le_of_ble_eq_true rfl) dX9_soundOf_22 ⟨Nat.le_refl _, Nat.le_refl _⟩ (fun r_22 hr_22 => ?_)
    subst hr_22
    refine x_top S (y := xb (xso (xFM σ) i)) (by rw [xMs_F (xMs_lay hm9 _)]) ?_
    refine x_if_eqB (tgt := 51) S dX9_soundOf_25 (by decide) (fun c_25 => ?_) (fun c_25 => ?_)
    · refine lv_iinc (v := nI (i + 1)) (lv' := [(4, .int (nI (i + 1))), (3, .int (-1 : Int32)), (2, .int (nI (xson (xFM σ) i))), (0, .ref (α 0)), (1, .int (-1 : Int32))]) hx hb dX9_soundOf_51 hl (k := 0) rfl (nI_add i 1) (by decide) rfl (fun ls hl => ?_)
      refine lv_goto (tgt := 7) hx hb dX9_soundOf_54 (by decide) ?_
      exact ih_7 (⟨i + 1, xst_lay τ9 (xl_r i)⟩) H locs ls ⟨(by omega), xMs_lay hm9 _, (by have h9 := lv_sub (l' := [(4, .int (nI (i + 1))), (3, .int (-1 : Int32)), (2, .int (nI (xson (xFM σ) i))), (0, .ref (α 0)), (1, .int (-1 : Int32))]) hl [0, 1, 2, 3, 4] rfl; rw [show nI (xson (xFM σ) i) = nI (xson (xFM σ) (i + 1)) from by rw [xson_s]; first | (rw [if_pos c_25] <;> rfl) | (rw [if_neg c_25] <;> rfl)] at h9; exact h9), hP, hS⟩ (by (try dsimp only); omega)
    · refine lv_iload_n hx hb dX9_soundOf_28 rfl (lv_at hl 2 rfl) ?_
      refine x_ifN_ne (tgt := 46) S dX9_soundOf_29 (by decide) (by omega) (fun c_29 => ?_) (fun c_29 => ?_)
      · refine lv_iload_n hx hb dX9_soundOf_46 rfl (lv_at hl 1 rfl) ?_
        refine lv_istore_n (lv' := [(3, .int (-1 : Int32)), (4, .int (nI i)), (2, .int (nI (xson (xFM σ) i))), (0, .ref (α 0)), (1, .int (-1 : Int32))]) hx hb dX9_soundOf_47 rfl hl (by decide) rfl (fun ls hl => ?_)
        refine lv_iinc (v := nI (xson (xFM σ) i + 1)) (lv' := [(2, .int (nI (xson (xFM σ) i + 1))), (3, .int (-1 : Int32)), (4, .int (nI i)), (0, .ref (α 0)), (1, .int (-1 : Int32))]) hx hb dX9_soundOf_48 hl (k := 2) rfl (nI_add (xson (xFM σ) i) 1) (by decide) rfl (fun ls hl => ?_)
        refine lv_iinc (v := nI (i + 1)) (lv' := [(4, .int (nI (i + 1))), (2, .int (nI (xson (xFM σ) i + 1))), (3, .int (-1 : Int32)), (0, .ref (α 0)), (1, .int (-1 : Int32))]) hx hb dX9_soundOf_51 hl (k := 2) rfl (nI_add i 1) (by decide) rfl (fun ls hl => ?_)
        refine lv_goto (tgt := 7) hx hb dX9_soundOf_54 (by decide) ?_
        exact ih_7 (⟨i + 1, xst_lay τ9 (xl_r i)⟩) H locs ls ⟨(by omega), xMs_lay hm9 _, (by have h9 := lv_sub (l' := [(4, .int (nI (i + 1))), (3, .int (-1 : Int32)), (2, .int (nI (xson (xFM σ) i + 1))), (0, .ref (α 0)), (1, .int (-1 : Int32))]) hl [0, 2, 1, 3, 4] rfl; rw [show nI (xson (xFM σ) i + 1) = nI (xson (xFM σ) (i + 1)) from by rw [xson_s]; first | (rw [if_pos c_25] <;> rfl) | (rw [if_neg c_25] <;> rfl)] at h9; exact h9), hP, hS⟩ (by (try dsimp only); omega)
      · refine lv_iload_n hx hb dX9_soundOf_32 rfl (lv_at hl 4 rfl) ?_
        refine lv_iconst (v := (-1)) hx hb dX9_soundOf_33 (by decide) ?_
        refine lv_icmp_eq (tgt := 46) hx hb dX9_soundOf_34 (by decide) (fun _ => ?_) (fun q => absurd rfl q)
        refine lv_iload_n hx hb dX9_soundOf_46 rfl (lv_at hl 1 rfl) ?_
        refine lv_istore_n (lv' := [(3, .int (-1 : Int32)), (4, .int (nI i)), (2, .int (nI (xson (xFM σ) i))), (0, .ref (α 0)), (1, .int (-1 : Int32))]) hx hb dX9_soundOf_47 rfl hl (by decide) rfl (fun ls hl => ?_)
        refine lv_iinc (v := nI (xson (xFM σ) i + 1)) (lv' := [(2, .int (nI (xson (xFM σ) i + 1))), (3, .int (-1 : Int32)), (4, .int (nI i)), (0, .ref (α 0)), (1, .int (-1 : Int32))]) hx hb dX9_soundOf_48 hl (k := 2) rfl (nI_add (xson (xFM σ) i) 1) (by decide) rfl (fun ls hl => ?_)
        refine lv_iinc (v := nI (i + 1)) (lv' := [(4, .int (nI (i + 1))), (2, .int (nI (xson (xFM σ) i + 1))), (3, .int (-1 : Int32)), (0, .ref (α 0)), (1, .int (-1 : Int32))]) hx hb dX9_soundOf_51 hl (k := 2) rfl (nI_add i 1) (by decide) rfl (fun ls hl => ?_)
        refine lv_goto (tgt := 7) hx hb dX9_soundOf_54 (by decide) ?_
        exact ih_7 (⟨i + 1, xst_lay τ9 (xl_r i)⟩) H locs ls ⟨(by omega), xMs_lay hm9 _, (by have h9 := lv_sub (l' := [(4, .int (nI (i + 1))), (3, .int (-1 : Int32)), (2, .int (nI (xson (xFM σ) i + 1))), (0, .ref (α 0)), (1, .int (-1 : Int32))]) hl [0, 2, 1, 3, 4] rfl; rw [show nI (xson (xFM σ) i + 1) = nI (xson (xFM σ) (i + 1)) from by rw [xson_s]; first | (rw [if_pos c_25] <;> rfl) | (rw [if_neg c_25] <;> rfl)] at h9; exact h9), hP, hS⟩ (by (try dsimp only); omega)
set_option maxHeartbeats 4000000 in
set_option maxRecDepth 100000 in
theorem c_X9_soundOfH (l : Launch) {D : va_G} {K : Nat → ClassId} {α : Nat → Nat} (σ : Nat → Nat → Int32) (hI : xw_I 20 α) (h : Nat)  (hh : h < 6) : Met l yX9_soundOf wsX9_soundOf (xrm 2) (va_Pc [.ref (α 0), .int (nI h)] (xPre D K 20 α (xM α K) σ)) (xQi D 20 α (xM α K) (fun r τ => r = xsf (xFM σ) h 720 ∧ xMs σ τ)) 0 0 (xw_R 20 α) := by
  refine Met.ofW (cc := cX9_soundOf) (maxL := 5) (ret := (some .int)) (by decide) rfl ?_
  intro p e s m args below meth c s₁ B hml hv
  obtain ⟨rfl, hK, hP⟩ := hv
  have S : CallFix p m c cX9_soundOf 5 s _ wsX9_soundOf RX9 := ⟨B.exec, B.bytes, hml, findClass_of_methodNamed B.named, atoms_spec (ws := wsX9_soundOf) B.pre⟩
  have hx := S.1
  have hb := S.2.1
  have hr := B.returns
  have hlocks := B.notSynchronized
  have hS : va_S (xw_R 20 α) s.heap s.heap [] := va_S.rf
  have hl := lv_entry ([.ref (α 0), .int (nI h)]) (n := 5) (Nat.le_of_ble_eq_true rfl)
  rw [lg_entry_eq]
  generalize (lg_sl ([.ref (α 0), .int (nI h)]) ++ List.replicate (5 - (lg_sl ([.ref (α 0), .int (nI h)])).length) Slot.unset).toArray = ls at hl ⊢
  have hl : lv_has ls 5 [(0, .ref (α 0)), (1, .int (nI h))] := hl
  have hPP := hP
  refine lv_iconst (v := nI 0) hx hb dX9_soundOf_0 (by decide) ?_
  refine lv_istore_n (lv' := [(2, .int (nI 0)), (0, .ref (α 0)), (1, .int (nI h))]) hx hb dX9_soundOf_1 rfl hl (by decide) rfl (fun ls hl => ?_)
  refine lv_iconst (v := (-1)) hx hb dX9_soundOf_2 (by decide) ?_
  refine lv_istore_n (lv' := [(3, .int (-1 : Int32)), (2, .int (nI 0)), (0, .ref (α 0)), (1, .int (nI h))]) hx hb dX9_soundOf_3 rfl hl (by decide) rfl (fun ls hl => ?_)
  refine lv_iconst (v := nI 0) hx hb dX9_soundOf_4 (by decide) ?_
  refine lv_istore (lv' := [(4, .int (nI 0)), (3, .int (-1 : Int32)), (2, .int (nI 0)), (0, .ref (α 0)), (1, .int (nI h))]) hx hb dX9_soundOf_5 hl (by decide) rfl (fun ls hl => ?_)
  refine x_loopW (ι := Nat × (Nat → Nat → Int32)) (fun z9 H locs ls => match z9 with | ⟨i, τ9⟩ => (i ≤ 720) ∧ (xMs σ τ9) ∧ lv_has ls 5 [(4, .int (nI i)), (3, .int (xsf (xFM σ) h i)), (2, .int (nI (xson (xFM σ) i))), (0, .ref (α 0)), (1, .int (nI h))] ∧ va_P D vwCl (xw 20 α (xM α K) τ9) H ∧ va_S (xw_R 20 α) s.heap H locs) (fun z9 => match z9 with | ⟨i, τ9⟩ => 720 - i) ?_ (⟨0, σ⟩) ls ⟨Nat.zero_le _, xMs_rf _, lv_sub hl [0, 1, 2, 3, 4] rfl, hP, hS⟩
  intro z9 H locs ls hinv ih_7
  obtain ⟨i, τ9⟩ := z9
  obtain ⟨hi, hm9, hl, hP, hS⟩ := hinv
  have hl : lv_has ls 5 [(4, .int (nI i)), (3, .int (xsf (xFM σ) h i)), (2, .int (nI (xson (xFM σ) i))), (0, .ref (α 0)), (1, .int (nI h))] := hl
  have hP : va_P D vwCl (xw 20 α (xM α K) τ9) H := hP
  have hq9 := xson_le (xFM σ) i
  refine lv_iload hx hb dX9_soundOf_7 (lv_at hl 0 rfl) ?_
  refine lv_sipush (v := nI 720) hx hb dX9_soundOf_9 (by decide) ?_
  refine x_icmpN_ge (tgt := 57) S dX9_soundOf_12 (by decide) (by omega) (by omega) (fun c_12 => ?_) (fun c_12 => ?_)
  · have e9 : i = 720 := by omega
    subst e9
    refine lv_iload_n hx hb dX9_soundOf_57 rfl (lv_at hl 4 rfl) ?_
    refine lv_iconst (v := (-1)) hx hb dX9_soundOf_58 (by decide) ?_
    refine lv_icmp_ne (tgt := 66) hx hb dX9_soundOf_59 (by decide) (fun _ => ?_) (fun q => absurd q (nI_m1 (by omega)))
    refine lv_iload_n hx hb dX9_soundOf_66 rfl (lv_at hl 1 rfl) ?_
    exact x_iretW S hlocks hP hS hr rfl (⟨rfl, hm9⟩) dX9_soundOf_67
  · refine lv_aload_n hx hb dX9_soundOf_15 rfl (lv_at hl 3 rfl) ?_
    refine lv_iload hx hb dX9_soundOf_16 (lv_at hl 0 rfl) ?_
    refine x_cVWv (As := [.int (nI i)]) (rest := []) S hK hP hS (fun _ h => h) 0 (by omega) rfl rfl (c_X9_lays l τ9 hI i  (by first | assumption | omega)) (x_cwV (n0 := 1) (cq := (RX9, TX9, 24)) S gX9_soundOf_X9_lays rfl (by decide +kernel) ⟨Nat.le_of_ble_eq_true rfl, Nat.le_of_ble_eq_true rfl⟩) rfl hl.1 rfl (Nat.le_of_ble_eq_true rfl) dX9_soundOf_18 ⟨Nat.le_refl _, Nat.le_refl _⟩ (fun τ_18 H locs hr_18 hP hk_18 hS => ?_)
    subst hr_18
    refine lv_aload_n hx hb dX9_soundOf_21 rfl (lv_at hl 3 rfl) ?_
    refine x_cVRi (As := []) (rest := []) S hK hP 0 (by omega) rfl rfl (c_X9_isSound l (xst_lay τ9 (xl_r i)) (xl_r i)  (fun h hh => ⟨xlay_8 _ _ hh, xl_r_lt (by omega) hh⟩)) (x_cwV (n0 := 0) (cq := (RX9, TX9, 24)) S gX9_soundOf_X9_isSound rfl (by decide +kernel) ⟨Nat.le_of_ble_eq_true rfl, Nat.le_of_ble_eq_true rfl⟩) rfl hl.1 rfl (Nat.le_of_ble_eq_true rfl) dX9_soundOf_22 ⟨Nat.le_refl _, Nat.le_refl _⟩ (fun r_22 hr_22 => ?_)
    subst hr_22
    refine x_top S (y := xb (xso (xFM σ) i)) (by rw [xMs_F (xMs_lay hm9 _)]) ?_
    refine x_if_eqB (tgt := 51) S dX9_soundOf_25 (by decide) (fun c_25 => ?_) (fun c_25 => ?_)
    · refine lv_iinc (v := nI (i + 1)) (lv' := [(4, .int (nI (i + 1))), (3, .int (xsf (xFM σ) h i)), (2, .int (nI (xson (xFM σ) i))), (0, .ref (α 0)), (1, .int (nI h))]) hx hb dX9_soundOf_51 hl (k := 0) rfl (nI_add i 1) (by decide) rfl (fun ls hl => ?_)
      refine lv_goto (tgt := 7) hx hb dX9_soundOf_54 (by decide) ?_
      exact ih_7 (⟨i + 1, xst_lay τ9 (xl_r i)⟩) H locs ls ⟨(by omega), xMs_lay hm9 _, (by have h9 := lv_sub (l' := [(4, .int (nI (i + 1))), (3, .int (xsf (xFM σ) h i)), (2, .int (nI (xson (xFM σ) i))), (0, .ref (α 0)), (1, .int (nI h))]) hl [0, 1, 2, 3, 4] rfl; rw [show nI (xson (xFM σ) i) = nI (xson (xFM σ) (i + 1)) from by rw [xson_s]; first | (rw [if_pos c_25] <;> rfl) | (rw [if_neg c_25] <;> rfl)] at h9; rw [show xsf (xFM σ) h i = xsf (xFM σ) h (i + 1) from by rw [xsf]; first | (rw [if_pos ⟨c_25, c_29⟩] <;> rfl) | rw [if_neg (fun q => c_25 q.1)] | rw [if_neg (fun q => by have := q.2; omega)]] at h9; exact h9), hP, hS⟩ (by (try dsimp only); omega)
    · have hw9 := xl_r_lt (k := i) (h := h) (by omega) (by omega)
      refine lv_iload_n hx hb dX9_soundOf_28 rfl (lv_at hl 2 rfl) ?_
      refine x_ifN_ne (tgt := 46) S dX9_soundOf_29 (by decide) (by omega) (fun c_29 => ?_) (fun c_29 => ?_)
      · refine lv_iload_n hx hb dX9_soundOf_46 rfl (lv_at hl 1 rfl) ?_
        refine lv_istore_n (lv' := [(3, .int (xsf (xFM σ) h i)), (4, .int (nI i)), (2, .int (nI (xson (xFM σ) i))), (0, .ref (α 0)), (1, .int (nI h))]) hx hb dX9_soundOf_47 rfl hl (by decide) rfl (fun ls hl => ?_)
        refine lv_iinc (v := nI (xson (xFM σ) i + 1)) (lv' := [(2, .int (nI (xson (xFM σ) i + 1))), (3, .int (xsf (xFM σ) h i)), (4, .int (nI i)), (0, .ref (α 0)), (1, .int (nI h))]) hx hb dX9_soundOf_48 hl (k := 2) rfl (nI_add (xson (xFM σ) i) 1) (by decide) rfl (fun ls hl => ?_)
        refine lv_iinc (v := nI (i + 1)) (lv' := [(4, .int (nI (i + 1))), (2, .int (nI (xson (xFM σ) i + 1))), (3, .int (xsf (xFM σ) h i)), (0, .ref (α 0)), (1, .int (nI h))]) hx hb dX9_soundOf_51 hl (k := 2) rfl (nI_add i 1) (by decide) rfl (fun ls hl => ?_)
        refine lv_goto (tgt := 7) hx hb dX9_soundOf_54 (by decide) ?_
        exact ih_7 (⟨i + 1, xst_lay τ9 (xl_r i)⟩) H locs ls ⟨(by omega), xMs_lay hm9 _, (by have h9 := lv_sub (l' := [(4, .int (nI (i + 1))), (3, .int (xsf (xFM σ) h i)), (2, .int (nI (xson (xFM σ) i + 1))), (0, .ref (α 0)), (1, .int (nI h))]) hl [0, 2, 1, 3, 4] rfl; rw [show nI (xson (xFM σ) i + 1) = nI (xson (xFM σ) (i + 1)) from by rw [xson_s]; first | (rw [if_pos c_25] <;> rfl) | (rw [if_neg c_25] <;> rfl)] at h9; rw [show xsf (xFM σ) h i = xsf (xFM σ) h (i + 1) from by rw [xsf]; first | (rw [if_pos ⟨c_25, c_29⟩] <;> rfl) | rw [if_neg (fun q => c_25 q.1)] | rw [if_neg (fun q => by have := q.2; omega)]] at h9; exact h9), hP, hS⟩ (by (try dsimp only); omega)
      · refine lv_iload_n hx hb dX9_soundOf_32 rfl (lv_at hl 4 rfl) ?_
        refine lv_iconst (v := (-1)) hx hb dX9_soundOf_33 (by decide) ?_
        refine lv_icmp_eq (tgt := 46) hx hb dX9_soundOf_34 (by decide) (fun q => absurd q (nI_m1 (by omega))) (fun _ => ?_)
        refine lv_aload_n hx hb dX9_soundOf_37 rfl (lv_at hl 3 rfl) ?_
        refine x_get S (fun w h => List.mem_cons_of_mem _ (List.mem_append_right _ h)) hK hP 0 (by omega) rfl rfl 9 (by decide) (List.mem_of_getElem? (i := 1) rfl) rfl dX9_soundOf_38 ?_
        refine lv_iload_n hx hb dX9_soundOf_41 rfl (lv_at hl 4 rfl) ?_
        refine x_iald S hK hP 8 (by omega) rfl (by first | assumption | omega) (by omega) dX9_soundOf_42 ?_
        refine x_top S (y := nI (xl_r i h)) (xlay_8 _ _ hh) ?_
        refine lv_goto (tgt := 47) hx hb dX9_soundOf_43 (by decide) ?_
        refine lv_istore_n (lv' := [(3, .int (nI (xl_r i h))), (4, .int (nI i)), (2, .int (nI (xson (xFM σ) i))), (0, .ref (α 0)), (1, .int (nI h))]) hx hb dX9_soundOf_47 rfl hl (by decide) rfl (fun ls hl => ?_)
        refine lv_iinc (v := nI (xson (xFM σ) i + 1)) (lv' := [(2, .int (nI (xson (xFM σ) i + 1))), (3, .int (nI (xl_r i h))), (4, .int (nI i)), (0, .ref (α 0)), (1, .int (nI h))]) hx hb dX9_soundOf_48 hl (k := 2) rfl (nI_add (xson (xFM σ) i) 1) (by decide) rfl (fun ls hl => ?_)
        refine lv_iinc (v := nI (i + 1)) (lv' := [(4, .int (nI (i + 1))), (2, .int (nI (xson (xFM σ) i + 1))), (3, .int (nI (xl_r i h))), (0, .ref (α 0)), (1, .int (nI h))]) hx hb dX9_soundOf_51 hl (k := 2) rfl (nI_add i 1) (by decide) rfl (fun ls hl => ?_)
        refine lv_goto (tgt := 7) hx hb dX9_soundOf_54 (by decide) ?_
        exact ih_7 (⟨i + 1, xst_lay τ9 (xl_r i)⟩) H locs ls ⟨(by omega), xMs_lay hm9 _, (by have h9 := lv_sub (l' := [(4, .int (nI (i + 1))), (3, .int (nI (xl_r i h))), (2, .int (nI (xson (xFM σ) i + 1))), (0, .ref (α 0)), (1, .int (nI h))]) hl [0, 2, 1, 3, 4] rfl; rw [show nI (xson (xFM σ) i + 1) = nI (xson (xFM σ) (i + 1)) from by rw [xson_s]; first | (rw [if_pos c_25] <;> rfl) | (rw [if_neg c_25] <;> rfl)] at h9; rw [show nI (xl_r i h) = xsf (xFM σ) h (i + 1) from by rw [xsf]; first | (rw [if_pos ⟨c_25, c_29⟩] <;> rfl) | rw [if_neg (fun q => c_25 q.1)] | rw [if_neg (fun q => by have := q.2; omega)]] at h9; exact h9), hP, hS⟩ (by (try dsimp only); omega)
set_option maxHeartbeats 4000000 in
set_option maxRecDepth 100000 in
theorem c_X9_sound (l : Launch) {D : va_G} {K : Nat → ClassId} {α : Nat → Nat} (σ : Nat → Nat → Int32) (hI : xw_I 20 α) (x : Int32)  : Met l yX9_sound wsX9_sound (xrm 3) (va_Pc [.ref (α 0), .int x] (xPre D K 20 α (xM α K) σ)) (xQi D 20 α (xM α K) (fun r τ => r = xpm_sound (xFM σ) x ∧ xMs σ τ)) 0 0 (xw_R 20 α) := by
  refine Met.ofW (cc := cX9_sound) (maxL := 2) (ret := (some .int)) (by decide) rfl ?_
  intro p e s m args below meth c s₁ B hml hv
  obtain ⟨rfl, hK, hP⟩ := hv
  have S : CallFix p m c cX9_sound 2 s _ wsX9_sound RX9 := ⟨B.exec, B.bytes, hml, findClass_of_methodNamed B.named, atoms_spec (ws := wsX9_sound) B.pre⟩
  have hx := S.1
  have hb := S.2.1
  have hr := B.returns
  have hlocks := B.notSynchronized
  have hS : va_S (xw_R 20 α) s.heap s.heap [] := va_S.rf
  have hl := lv_entry ([.ref (α 0), .int x]) (n := 2) (Nat.le_of_ble_eq_true rfl)
  rw [lg_entry_eq]
  generalize (lg_sl ([.ref (α 0), .int x]) ++ List.replicate (2 - (lg_sl ([.ref (α 0), .int x])).length) Slot.unset).toArray = ls at hl ⊢
  have hl : lv_has ls 2 [(0, .ref (α 0)), (1, .int x)] := hl
  have hPP := hP
  
  refine lv_iload_n hx hb dX9_sound_0 rfl (lv_at hl 1 rfl) ?_
  refine lv_iconst (v := (-1)) hx hb dX9_sound_1 (by decide) ?_
  refine lv_icmp_eq (tgt := 12) hx hb dX9_sound_2 (by decide) (fun c_2 => ?_) (fun c_2 => ?_)
  · subst c_2
    refine lv_aload_n hx hb dX9_sound_12 rfl (lv_at hl 0 rfl) ?_
    refine lv_iload_n hx hb dX9_sound_13 rfl (lv_at hl 1 rfl) ?_
    refine x_cVWi (As := [.int (-1 : Int32)]) (rest := []) S hK hP hS (fun _ h => h) 0 (by omega) rfl rfl (c_X9_soundOf l σ hI   ) (x_cwV (n0 := 1) (cq := (RX9, TX9, 24)) S gX9_sound_X9_soundOf rfl (by decide +kernel) ⟨Nat.le_of_ble_eq_true rfl, Nat.le_of_ble_eq_true rfl⟩) rfl hl.1 rfl (Nat.le_of_ble_eq_true rfl) dX9_sound_14 ⟨Nat.le_refl _, Nat.le_refl _⟩ (fun r_14 τ_14 H locs hr_14 hP hk_14 hS => ?_)
    obtain ⟨hr_14, hms_14⟩ := hr_14
    subst hr_14
    refine lv_goto (tgt := 22) hx hb dX9_sound_17 (by decide) ?_
    exact x_iretW S hlocks hP hS hr rfl (⟨by rw [xpm_sound, if_pos rfl], hms_14⟩) dX9_sound_22
  · refine lv_iload_n hx hb dX9_sound_5 rfl (lv_at hl 1 rfl) ?_
    refine x_cSi (As := [.int x]) (rest := []) S (c_X9_isSix l x  ) (x_cwS (n0 := 1) S gX9_sound_X9_isSix rfl (by decide +kernel) ⟨Nat.le_of_ble_eq_true rfl, Nat.le_of_ble_eq_true rfl⟩) rfl hl.1 rfl (Nat.le_of_ble_eq_true rfl) dX9_sound_6 ⟨Nat.le_refl _, Nat.le_refl _⟩ (fun r_6 hr_6 => ?_)
    subst hr_6
    refine x_if_eqB (tgt := 20) S dX9_sound_9 (by decide) (fun c_9 => ?_) (fun c_9 => ?_)
    · refine lv_bipush (v := (-2)) hx hb dX9_sound_20 (by decide) ?_
      exact x_iretW S hlocks hP hS hr rfl (⟨by rw [xpm_sound, if_neg c_2, if_neg c_9], xMs_rf _⟩) dX9_sound_22
    · obtain ⟨h, hh, rfl⟩ := xin_of c_9 (by omega)
      refine lv_aload_n hx hb dX9_sound_12 rfl (lv_at hl 0 rfl) ?_
      refine lv_iload_n hx hb dX9_sound_13 rfl (lv_at hl 1 rfl) ?_
      refine x_cVWi (As := [.int (nI h)]) (rest := []) S hK hP hS (fun _ h => h) 0 (by omega) rfl rfl (c_X9_soundOfH l σ hI h  (by first | assumption | omega)) (x_cwV (n0 := 1) (cq := (RX9, TX9, 24)) S gX9_sound_X9_soundOf rfl (by decide +kernel) ⟨Nat.le_of_ble_eq_true rfl, Nat.le_of_ble_eq_true rfl⟩) rfl hl.1 rfl (Nat.le_of_ble_eq_true rfl) dX9_sound_14 ⟨Nat.le_refl _, Nat.le_refl _⟩ (fun r_14 τ_14 H locs hr_14 hP hk_14 hS => ?_)
      obtain ⟨hr_14, hms_14⟩ := hr_14
      subst hr_14
      refine lv_goto (tgt := 22) hx hb dX9_sound_17 (by decide) ?_
      exact x_iretW S hlocks hP hS hr rfl (⟨by rw [xpm_sound, if_neg c_2, if_pos (xin_nI (by omega) (by omega)), cN_nI (by omega)], hms_14⟩) dX9_sound_22

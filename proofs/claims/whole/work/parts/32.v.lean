set_option maxHeartbeats 4000000 in
set_option maxRecDepth 100000 in
theorem c_X9_bestOf (l : Launch) {D : va_G} {K : Nat → ClassId} {α : Nat → Nat} (σ : Nat → Nat → Int32) (hI : xw_I 20 α)   (hC : xIM σ) : Met l yX9_bestOf wsX9_bestOf (xrm 2) (va_Pc [.ref (α 0), .int (-1)] (xPre D K 20 α (xM α K) σ)) (xQi D 20 α (xM α K) (fun r τ => r = xbb (xE (xFM σ)) 720 ∧ xMs σ τ)) 0 0 (xw_R 20 α) := by
  refine Met.ofW (cc := cX9_bestOf) (maxL := 7) (ret := (some .int)) (by decide) rfl ?_
  intro p e s m args below meth c s₁ B hml hv
  obtain ⟨rfl, hK, hP⟩ := hv
  have S : CallFix p m c cX9_bestOf 7 s _ wsX9_bestOf RX9 := ⟨B.exec, B.bytes, hml, findClass_of_methodNamed B.named, atoms_spec (ws := wsX9_bestOf) B.pre⟩
  have hx := S.1
  have hb := S.2.1
  have hr := B.returns
  have hlocks := B.notSynchronized
  have hS : va_S (xw_R 20 α) s.heap s.heap [] := va_S.rf
  have hl := lv_entry ([.ref (α 0), .int (-1)]) (n := 7) (Nat.le_of_ble_eq_true rfl)
  rw [lg_entry_eq]
  generalize (lg_sl ([.ref (α 0), .int (-1)]) ++ List.replicate (7 - (lg_sl ([.ref (α 0), .int (-1)])).length) Slot.unset).toArray = ls at hl ⊢
  have hl : lv_has ls 7 [(0, .ref (α 0)), (1, .int (-1 : Int32))] := hl
  have hPP := hP
  have hfe := hC.2.2.2.1
  have hE : ∀ h, h < 6 → ∀ n, n < 6 → xE (xFM σ) h n ≤ 9 := fun h _ n hn => (xE_ok (F := xFM σ) hfe h hn).2
  refine lv_iconst (v := (-1)) hx hb dX9_bestOf_0 (by decide) ?_
  refine lv_istore_n (lv' := [(2, .int (-1 : Int32)), (0, .ref (α 0)), (1, .int (-1 : Int32))]) hx hb dX9_bestOf_1 rfl hl (by decide) rfl (fun ls hl => ?_)
  refine lv_iconst (v := nI 0) hx hb dX9_bestOf_2 (by decide) ?_
  refine lv_istore_n (lv' := [(3, .int (nI 0)), (2, .int (-1 : Int32)), (0, .ref (α 0)), (1, .int (-1 : Int32))]) hx hb dX9_bestOf_3 rfl hl (by decide) rfl (fun ls hl => ?_)
  refine lv_iconst (v := nI 0) hx hb dX9_bestOf_4 (by decide) ?_
  refine lv_istore (lv' := [(4, .int (nI 0)), (3, .int (nI 0)), (2, .int (-1 : Int32)), (0, .ref (α 0)), (1, .int (-1 : Int32))]) hx hb dX9_bestOf_5 hl (by decide) rfl (fun ls hl => ?_)
  refine x_loopW (ι := Nat × (Nat → Nat → Int32)) (fun z9 H locs ls => match z9 with | ⟨i, τ9⟩ => (i ≤ 720) ∧ (xMs σ τ9) ∧ lv_has ls 7 [(4, .int (nI i)), (3, .int (nI (xbi (xE (xFM σ)) i))), (2, .int (xbb (xE (xFM σ)) i)), (0, .ref (α 0)), (1, .int (-1 : Int32))] ∧ va_P D vwCl (xw 20 α (xM α K) τ9) H ∧ va_S (xw_R 20 α) s.heap H locs) (fun z9 => match z9 with | ⟨i, τ9⟩ => 720 - i) ?_ (⟨0, σ⟩) ls ⟨Nat.zero_le _, xMs_rf _, lv_sub hl [0, 1, 2, 3, 4] rfl, hP, hS⟩
  intro z9 H locs ls hinv ih_7
  obtain ⟨i, τ9⟩ := z9
  obtain ⟨hi, hm9, hl, hP, hS⟩ := hinv
  have hl : lv_has ls 7 [(4, .int (nI i)), (3, .int (nI (xbi (xE (xFM σ)) i))), (2, .int (xbb (xE (xFM σ)) i)), (0, .ref (α 0)), (1, .int (-1 : Int32))] := hl
  have hP : va_P D vwCl (xw 20 α (xM α K) τ9) H := hP
  have hq9 := xbi_lt (xE (xFM σ)) i hi
  refine lv_iload hx hb dX9_bestOf_7 (lv_at hl 0 rfl) ?_
  refine lv_sipush (v := nI 720) hx hb dX9_bestOf_9 (by decide) ?_
  refine x_icmpN_ge (tgt := 90) S dX9_bestOf_12 (by decide) (by omega) (by omega) (fun c_12 => ?_) (fun c_12 => ?_)
  · have e9 : i = 720 := by omega
    subst e9
    refine lv_aload_n hx hb dX9_bestOf_90 rfl (lv_at hl 3 rfl) ?_
    refine lv_iload_n hx hb dX9_bestOf_91 rfl (lv_at hl 1 rfl) ?_
    refine x_cVWv (As := [.int (nI (xbi (xE (xFM σ)) 720))]) (rest := []) S hK hP hS (fun _ h => h) 0 (by omega) rfl rfl (c_X9_lays l τ9 hI (xbi (xE (xFM σ)) 720)  hq9) (x_cwV (n0 := 1) (cq := (RX9, TX9, 24)) S gX9_bestOf_X9_lays rfl (by decide +kernel) ⟨Nat.le_of_ble_eq_true rfl, Nat.le_of_ble_eq_true rfl⟩) rfl hl.1 rfl (Nat.le_of_ble_eq_true rfl) dX9_bestOf_92 ⟨Nat.le_refl _, Nat.le_refl _⟩ (fun τ_92 H locs hr_92 hP hk_92 hS => ?_)
    subst hr_92
    refine lv_iload_n hx hb dX9_bestOf_95 rfl (lv_at hl 4 rfl) ?_
    refine lv_iconst (v := (-1)) hx hb dX9_bestOf_96 (by decide) ?_
    refine lv_icmp_ne (tgt := 104) hx hb dX9_bestOf_97 (by decide) (fun q => absurd rfl q) (fun _ => ?_)
    refine lv_iload_n hx hb dX9_bestOf_100 rfl (lv_at hl 2 rfl) ?_
    refine lv_goto (tgt := 110) hx hb dX9_bestOf_101 (by decide) ?_
    exact x_iretW S hlocks hP hS hr rfl (⟨rfl, xMs_lay hm9 _⟩) dX9_bestOf_110
  · have hs54 := xbs_le hE (k := i) (by omega)
    refine lv_aload_n hx hb dX9_bestOf_15 rfl (lv_at hl 3 rfl) ?_
    refine lv_iload hx hb dX9_bestOf_16 (lv_at hl 0 rfl) ?_
    refine x_cVWv (As := [.int (nI i)]) (rest := []) S hK hP hS (fun _ h => h) 0 (by omega) rfl rfl (c_X9_lays l τ9 hI i  (by first | assumption | omega)) (x_cwV (n0 := 1) (cq := (RX9, TX9, 24)) S gX9_bestOf_X9_lays rfl (by decide +kernel) ⟨Nat.le_of_ble_eq_true rfl, Nat.le_of_ble_eq_true rfl⟩) rfl hl.1 rfl (Nat.le_of_ble_eq_true rfl) dX9_bestOf_18 ⟨Nat.le_refl _, Nat.le_refl _⟩ (fun τ_18 H locs hr_18 hP hk_18 hS => ?_)
    subst hr_18
    refine lv_iconst (v := nI 0) hx hb dX9_bestOf_21 (by decide) ?_
    refine lv_istore (lv' := [(5, .int (nI 0)), (4, .int (nI i)), (3, .int (nI (xbi (xE (xFM σ)) i))), (2, .int (xbb (xE (xFM σ)) i)), (0, .ref (α 0)), (1, .int (-1 : Int32))]) hx hb dX9_bestOf_22 hl (by decide) rfl (fun ls hl => ?_)
    refine lv_iconst (v := nI 0) hx hb dX9_bestOf_24 (by decide) ?_
    refine lv_istore (lv' := [(6, .int (nI 0)), (5, .int (nI 0)), (4, .int (nI i)), (3, .int (nI (xbi (xE (xFM σ)) i))), (2, .int (xbb (xE (xFM σ)) i)), (0, .ref (α 0)), (1, .int (-1 : Int32))]) hx hb dX9_bestOf_25 hl (by decide) rfl (fun ls hl => ?_)
    refine x_loopW (ι := Nat) (fun h H locs ls => (h ≤ 6) ∧ lv_has ls 7 [(6, .int (nI h)), (5, .int (nI (fb_sm (fun h => xE (xFM σ) h (xl_r i h)) h))), (4, .int (nI i)), (3, .int (nI (xbi (xE (xFM σ)) i))), (2, .int (xbb (xE (xFM σ)) i)), (0, .ref (α 0)), (1, .int (-1 : Int32))] ∧ va_P D vwCl (xw 20 α (xM α K) (xst_lay τ9 (xl_r i))) H ∧ va_S (xw_R 20 α) s.heap H locs) (fun h => 6 - h) ?_ 0 ls ⟨Nat.zero_le _, lv_sub hl [0, 1, 2, 3, 4, 5, 6] rfl, hP, hS⟩
    intro h H locs ls hinv ih_27
    obtain ⟨hh6, hl, hP, hS⟩ := hinv
    have hl : lv_has ls 7 [(6, .int (nI h)), (5, .int (nI (fb_sm (fun h => xE (xFM σ) h (xl_r i h)) h))), (4, .int (nI i)), (3, .int (nI (xbi (xE (xFM σ)) i))), (2, .int (xbb (xE (xFM σ)) i)), (0, .ref (α 0)), (1, .int (-1 : Int32))] := hl
    have hP : va_P D vwCl (xw 20 α (xM α K) (xst_lay τ9 (xl_r i))) H := hP
    refine lv_iload hx hb dX9_bestOf_27 (lv_at hl 0 rfl) ?_
    refine lv_bipush (v := nI 6) hx hb dX9_bestOf_29 (by decide) ?_
    refine x_icmpN_ge (tgt := 58) S dX9_bestOf_31 (by decide) (by omega) (by omega) (fun c_31 => ?_) (fun c_31 => ?_)
    · have e9 : h = 6 := by omega
      subst e9
      refine lv_iload hx hb dX9_bestOf_58 (lv_at hl 1 rfl) ?_
      refine lv_iload_n hx hb dX9_bestOf_60 rfl (lv_at hl 4 rfl) ?_
      refine lv_icmp_le (tgt := 69) hx hb dX9_bestOf_61 (by decide) (fun c_61 => ?_) (fun c_61 => ?_)
      · have c_61 : ¬ xbb (xE (xFM σ)) i < nI (xbs (xE (xFM σ)) i) := Int32.not_lt.mpr c_61
        refine lv_iload_n hx hb dX9_bestOf_69 rfl (lv_at hl 3 rfl) ?_
        refine lv_istore_n (lv' := [(3, .int (nI (xbi (xE (xFM σ)) i))), (6, .int (nI 6)), (5, .int (nI (xbs (xE (xFM σ)) i))), (4, .int (nI i)), (2, .int (xbb (xE (xFM σ)) i)), (0, .ref (α 0)), (1, .int (-1 : Int32))]) hx hb dX9_bestOf_70 rfl hl (by decide) rfl (fun ls hl => ?_)
        refine lv_iload hx hb dX9_bestOf_71 (lv_at hl 2 rfl) ?_
        refine lv_iload_n hx hb dX9_bestOf_73 rfl (lv_at hl 4 rfl) ?_
        refine lv_icmp_le (tgt := 82) hx hb dX9_bestOf_74 (by decide) (fun c_74 => ?_) (fun c_74 => ?_)
        · refine lv_iload_n hx hb dX9_bestOf_82 rfl (lv_at hl 4 rfl) ?_
          refine lv_istore_n (lv' := [(2, .int (xbb (xE (xFM σ)) i)), (3, .int (nI (xbi (xE (xFM σ)) i))), (6, .int (nI 6)), (5, .int (nI (xbs (xE (xFM σ)) i))), (4, .int (nI i)), (0, .ref (α 0)), (1, .int (-1 : Int32))]) hx hb dX9_bestOf_83 rfl hl (by decide) rfl (fun ls hl => ?_)
          refine lv_iinc (v := nI (i + 1)) (lv' := [(4, .int (nI (i + 1))), (2, .int (xbb (xE (xFM σ)) i)), (3, .int (nI (xbi (xE (xFM σ)) i))), (6, .int (nI 6)), (5, .int (nI (xbs (xE (xFM σ)) i))), (0, .ref (α 0)), (1, .int (-1 : Int32))]) hx hb dX9_bestOf_84 hl (k := 4) rfl (nI_add i 1) (by decide) rfl (fun ls hl => ?_)
          refine lv_goto (tgt := 7) hx hb dX9_bestOf_87 (by decide) ?_
          exact ih_7 (⟨i + 1, xst_lay τ9 (xl_r i)⟩) H locs ls ⟨(by omega), xMs_lay hm9 _, (by have h9 := lv_sub (l' := [(4, .int (nI (i + 1))), (3, .int (nI (xbi (xE (xFM σ)) i))), (2, .int (xbb (xE (xFM σ)) i)), (0, .ref (α 0)), (1, .int (-1 : Int32))]) hl [0, 2, 1, 5, 6] rfl; rw [show xbb (xE (xFM σ)) i = xbb (xE (xFM σ)) (i + 1) from by rw [xbb]; first | (rw [if_pos c_61] <;> rfl) | (rw [if_neg c_61] <;> rfl)] at h9; rw [show nI (xbi (xE (xFM σ)) i) = nI (xbi (xE (xFM σ)) (i + 1)) from by rw [xbi]; first | (rw [if_pos c_61] <;> rfl) | (rw [if_neg c_61] <;> rfl)] at h9; exact h9), hP, hS⟩ (by (try dsimp only); omega)
        · exact absurd (Int32.not_le.mp c_74) c_61
      · have c_61 : xbb (xE (xFM σ)) i < nI (xbs (xE (xFM σ)) i) := Int32.not_le.mp c_61
        refine lv_iload hx hb dX9_bestOf_64 (lv_at hl 2 rfl) ?_
        refine lv_goto (tgt := 70) hx hb dX9_bestOf_66 (by decide) ?_
        refine lv_istore_n (lv' := [(3, .int (nI i)), (6, .int (nI 6)), (5, .int (nI (xbs (xE (xFM σ)) i))), (4, .int (nI i)), (2, .int (xbb (xE (xFM σ)) i)), (0, .ref (α 0)), (1, .int (-1 : Int32))]) hx hb dX9_bestOf_70 rfl hl (by decide) rfl (fun ls hl => ?_)
        refine lv_iload hx hb dX9_bestOf_71 (lv_at hl 2 rfl) ?_
        refine lv_iload_n hx hb dX9_bestOf_73 rfl (lv_at hl 4 rfl) ?_
        refine lv_icmp_le (tgt := 82) hx hb dX9_bestOf_74 (by decide) (fun c_74 => ?_) (fun c_74 => ?_)
        · exact absurd c_61 (Int32.not_lt.mpr c_74)
        · refine lv_iload hx hb dX9_bestOf_77 (lv_at hl 2 rfl) ?_
          refine lv_goto (tgt := 83) hx hb dX9_bestOf_79 (by decide) ?_
          refine lv_istore_n (lv' := [(2, .int (nI (xbs (xE (xFM σ)) i))), (3, .int (nI i)), (6, .int (nI 6)), (5, .int (nI (xbs (xE (xFM σ)) i))), (4, .int (nI i)), (0, .ref (α 0)), (1, .int (-1 : Int32))]) hx hb dX9_bestOf_83 rfl hl (by decide) rfl (fun ls hl => ?_)
          refine lv_iinc (v := nI (i + 1)) (lv' := [(4, .int (nI (i + 1))), (2, .int (nI (xbs (xE (xFM σ)) i))), (3, .int (nI i)), (6, .int (nI 6)), (5, .int (nI (xbs (xE (xFM σ)) i))), (0, .ref (α 0)), (1, .int (-1 : Int32))]) hx hb dX9_bestOf_84 hl (k := 4) rfl (nI_add i 1) (by decide) rfl (fun ls hl => ?_)
          refine lv_goto (tgt := 7) hx hb dX9_bestOf_87 (by decide) ?_
          exact ih_7 (⟨i + 1, xst_lay τ9 (xl_r i)⟩) H locs ls ⟨(by omega), xMs_lay hm9 _, (by have h9 := lv_sub (l' := [(4, .int (nI (i + 1))), (3, .int (nI i)), (2, .int (nI (xbs (xE (xFM σ)) i))), (0, .ref (α 0)), (1, .int (-1 : Int32))]) hl [0, 2, 1, 5, 6] rfl; rw [show nI (xbs (xE (xFM σ)) i) = xbb (xE (xFM σ)) (i + 1) from by rw [xbb]; first | (rw [if_pos c_61] <;> rfl) | (rw [if_neg c_61] <;> rfl)] at h9; rw [show nI i = nI (xbi (xE (xFM σ)) (i + 1)) from by rw [xbi]; first | (rw [if_pos c_61] <;> rfl) | (rw [if_neg c_61] <;> rfl)] at h9; exact h9), hP, hS⟩ (by (try dsimp only); omega)
    · have hw9 := xl_r_lt (k := i) (h := h) (by omega) (by omega)
      refine lv_iload hx hb dX9_bestOf_34 (lv_at hl 1 rfl) ?_
      refine lv_aload_n hx hb dX9_bestOf_36 rfl (lv_at hl 5 rfl) ?_
      refine lv_iload hx hb dX9_bestOf_37 (lv_at hl 0 rfl) ?_
      refine lv_aload_n hx hb dX9_bestOf_39 rfl (lv_at hl 5 rfl) ?_
      refine x_get S (fun w h => List.mem_cons_of_mem _ (List.mem_append_right _ h)) hK hP 0 (by omega) rfl rfl 9 (by decide) (List.mem_of_getElem? (i := 1) rfl) rfl dX9_bestOf_40 ?_
      refine lv_iload hx hb dX9_bestOf_43 (lv_at hl 0 rfl) ?_
      refine x_iald S hK hP 8 (by omega) rfl (by first | assumption | omega) (by omega) dX9_bestOf_45 ?_
      refine x_top S (y := nI (xl_r i h)) (xlay_8 _ _ (by omega)) ?_
      refine x_cVRi (As := [.int (nI h), .int (nI (xl_r i h))]) (rest := [.int (nI (fb_sm (fun h => xE (xFM σ) h (xl_r i h)) h))]) S hK hP 0 (by omega) rfl rfl (c_X9_earns l (xst_lay τ9 (xl_r i)) h (xl_r i h)  (by first | assumption | omega) (by first | assumption | omega)) (x_cwV (n0 := 2) (cq := (RX9, TX9, 24)) S gX9_bestOf_X9_earns rfl (by decide +kernel) ⟨Nat.le_of_ble_eq_true rfl, Nat.le_of_ble_eq_true rfl⟩) rfl hl.1 rfl (Nat.le_of_ble_eq_true rfl) dX9_bestOf_46 ⟨Nat.le_refl _, Nat.le_refl _⟩ (fun r_46 hr_46 => ?_)
      subst hr_46
      refine x_top S (y := nI (xE (xFM σ) h (xl_r i h))) (by rw [xMs_F (xMs_lay hm9 _)]; exact (xE_ok (F := xFM σ) hfe h hw9).1) ?_
      refine x_iaddN S dX9_bestOf_49 ?_
      refine lv_istore (lv' := [(5, .int (nI ((fb_sm (fun h => xE (xFM σ) h (xl_r i h)) h) + (xE (xFM σ) h (xl_r i h))))), (6, .int (nI h)), (4, .int (nI i)), (3, .int (nI (xbi (xE (xFM σ)) i))), (2, .int (xbb (xE (xFM σ)) i)), (0, .ref (α 0)), (1, .int (-1 : Int32))]) hx hb dX9_bestOf_50 hl (by decide) rfl (fun ls hl => ?_)
      refine lv_iinc (v := nI (h + 1)) (lv' := [(6, .int (nI (h + 1))), (5, .int (nI ((fb_sm (fun h => xE (xFM σ) h (xl_r i h)) h) + (xE (xFM σ) h (xl_r i h))))), (4, .int (nI i)), (3, .int (nI (xbi (xE (xFM σ)) i))), (2, .int (xbb (xE (xFM σ)) i)), (0, .ref (α 0)), (1, .int (-1 : Int32))]) hx hb dX9_bestOf_52 hl (k := 1) rfl (nI_add h 1) (by decide) rfl (fun ls hl => ?_)
      refine lv_goto (tgt := 27) hx hb dX9_bestOf_55 (by decide) ?_
      exact ih_27 (h + 1) H locs ls ⟨(by omega), lv_sub hl [0, 1, 2, 3, 4, 5, 6] rfl, hP, hS⟩ (by (try dsimp only); omega)
set_option maxHeartbeats 4000000 in
set_option maxRecDepth 100000 in
theorem c_X9_bestOfH (l : Launch) {D : va_G} {K : Nat → ClassId} {α : Nat → Nat} (σ : Nat → Nat → Int32) (hI : xw_I 20 α) (h0 : Nat)  (hC : xIM σ) (hh0 : h0 < 6) : Met l yX9_bestOf wsX9_bestOf (xrm 2) (va_Pc [.ref (α 0), .int (nI h0)] (xPre D K 20 α (xM α K) σ)) (xQi D 20 α (xM α K) (fun r τ => r = nI (xl_r (xbi (xE (xFM σ)) 720) h0) ∧ xMs σ τ)) 0 0 (xw_R 20 α) := by
  refine Met.ofW (cc := cX9_bestOf) (maxL := 7) (ret := (some .int)) (by decide) rfl ?_
  intro p e s m args below meth c s₁ B hml hv
  obtain ⟨rfl, hK, hP⟩ := hv
  have S : CallFix p m c cX9_bestOf 7 s _ wsX9_bestOf RX9 := ⟨B.exec, B.bytes, hml, findClass_of_methodNamed B.named, atoms_spec (ws := wsX9_bestOf) B.pre⟩
  have hx := S.1
  have hb := S.2.1
  have hr := B.returns
  have hlocks := B.notSynchronized
  have hS : va_S (xw_R 20 α) s.heap s.heap [] := va_S.rf
  have hl := lv_entry ([.ref (α 0), .int (nI h0)]) (n := 7) (Nat.le_of_ble_eq_true rfl)
  rw [lg_entry_eq]
  generalize (lg_sl ([.ref (α 0), .int (nI h0)]) ++ List.replicate (7 - (lg_sl ([.ref (α 0), .int (nI h0)])).length) Slot.unset).toArray = ls at hl ⊢
  have hl : lv_has ls 7 [(0, .ref (α 0)), (1, .int (nI h0))] := hl
  have hPP := hP
  have hfe := hC.2.2.2.1
  have hE : ∀ h, h < 6 → ∀ n, n < 6 → xE (xFM σ) h n ≤ 9 := fun h _ n hn => (xE_ok (F := xFM σ) hfe h hn).2
  refine lv_iconst (v := (-1)) hx hb dX9_bestOf_0 (by decide) ?_
  refine lv_istore_n (lv' := [(2, .int (-1 : Int32)), (0, .ref (α 0)), (1, .int (nI h0))]) hx hb dX9_bestOf_1 rfl hl (by decide) rfl (fun ls hl => ?_)
  refine lv_iconst (v := nI 0) hx hb dX9_bestOf_2 (by decide) ?_
  refine lv_istore_n (lv' := [(3, .int (nI 0)), (2, .int (-1 : Int32)), (0, .ref (α 0)), (1, .int (nI h0))]) hx hb dX9_bestOf_3 rfl hl (by decide) rfl (fun ls hl => ?_)
  refine lv_iconst (v := nI 0) hx hb dX9_bestOf_4 (by decide) ?_
  refine lv_istore (lv' := [(4, .int (nI 0)), (3, .int (nI 0)), (2, .int (-1 : Int32)), (0, .ref (α 0)), (1, .int (nI h0))]) hx hb dX9_bestOf_5 hl (by decide) rfl (fun ls hl => ?_)
  refine x_loopW (ι := Nat × (Nat → Nat → Int32)) (fun z9 H locs ls => match z9 with | ⟨i, τ9⟩ => (i ≤ 720) ∧ (xMs σ τ9) ∧ lv_has ls 7 [(4, .int (nI i)), (3, .int (nI (xbi (xE (xFM σ)) i))), (2, .int (xbb (xE (xFM σ)) i)), (0, .ref (α 0)), (1, .int (nI h0))] ∧ va_P D vwCl (xw 20 α (xM α K) τ9) H ∧ va_S (xw_R 20 α) s.heap H locs) (fun z9 => match z9 with | ⟨i, τ9⟩ => 720 - i) ?_ (⟨0, σ⟩) ls ⟨Nat.zero_le _, xMs_rf _, lv_sub hl [0, 1, 2, 3, 4] rfl, hP, hS⟩
  intro z9 H locs ls hinv ih_7
  obtain ⟨i, τ9⟩ := z9
  obtain ⟨hi, hm9, hl, hP, hS⟩ := hinv
  have hl : lv_has ls 7 [(4, .int (nI i)), (3, .int (nI (xbi (xE (xFM σ)) i))), (2, .int (xbb (xE (xFM σ)) i)), (0, .ref (α 0)), (1, .int (nI h0))] := hl
  have hP : va_P D vwCl (xw 20 α (xM α K) τ9) H := hP
  have hq9 := xbi_lt (xE (xFM σ)) i hi
  refine lv_iload hx hb dX9_bestOf_7 (lv_at hl 0 rfl) ?_
  refine lv_sipush (v := nI 720) hx hb dX9_bestOf_9 (by decide) ?_
  refine x_icmpN_ge (tgt := 90) S dX9_bestOf_12 (by decide) (by omega) (by omega) (fun c_12 => ?_) (fun c_12 => ?_)
  · have e9 : i = 720 := by omega
    subst e9
    refine lv_aload_n hx hb dX9_bestOf_90 rfl (lv_at hl 3 rfl) ?_
    refine lv_iload_n hx hb dX9_bestOf_91 rfl (lv_at hl 1 rfl) ?_
    refine x_cVWv (As := [.int (nI (xbi (xE (xFM σ)) 720))]) (rest := []) S hK hP hS (fun _ h => h) 0 (by omega) rfl rfl (c_X9_lays l τ9 hI (xbi (xE (xFM σ)) 720)  hq9) (x_cwV (n0 := 1) (cq := (RX9, TX9, 24)) S gX9_bestOf_X9_lays rfl (by decide +kernel) ⟨Nat.le_of_ble_eq_true rfl, Nat.le_of_ble_eq_true rfl⟩) rfl hl.1 rfl (Nat.le_of_ble_eq_true rfl) dX9_bestOf_92 ⟨Nat.le_refl _, Nat.le_refl _⟩ (fun τ_92 H locs hr_92 hP hk_92 hS => ?_)
    subst hr_92
    refine lv_iload_n hx hb dX9_bestOf_95 rfl (lv_at hl 4 rfl) ?_
    refine lv_iconst (v := (-1)) hx hb dX9_bestOf_96 (by decide) ?_
    refine lv_icmp_ne (tgt := 104) hx hb dX9_bestOf_97 (by decide) (fun _ => ?_) (fun q => absurd q (nI_m1 (by omega)))
    refine lv_aload_n hx hb dX9_bestOf_104 rfl (lv_at hl 3 rfl) ?_
    refine x_get S (fun w h => List.mem_cons_of_mem _ (List.mem_append_right _ h)) hK hP 0 (by omega) rfl rfl 9 (by decide) (List.mem_of_getElem? (i := 1) rfl) rfl dX9_bestOf_105 ?_
    refine lv_iload_n hx hb dX9_bestOf_108 rfl (lv_at hl 4 rfl) ?_
    refine x_iald S hK hP 8 (by omega) rfl (by first | assumption | omega) (by omega) dX9_bestOf_109 ?_
    refine x_top S (y := nI (xl_r (xbi (xE (xFM σ)) 720) h0)) (xlay_8 _ _ hh0) ?_
    exact x_iretW S hlocks hP hS hr rfl (⟨rfl, xMs_lay hm9 _⟩) dX9_bestOf_110
  · have hs54 := xbs_le hE (k := i) (by omega)
    refine lv_aload_n hx hb dX9_bestOf_15 rfl (lv_at hl 3 rfl) ?_
    refine lv_iload hx hb dX9_bestOf_16 (lv_at hl 0 rfl) ?_
    refine x_cVWv (As := [.int (nI i)]) (rest := []) S hK hP hS (fun _ h => h) 0 (by omega) rfl rfl (c_X9_lays l τ9 hI i  (by first | assumption | omega)) (x_cwV (n0 := 1) (cq := (RX9, TX9, 24)) S gX9_bestOf_X9_lays rfl (by decide +kernel) ⟨Nat.le_of_ble_eq_true rfl, Nat.le_of_ble_eq_true rfl⟩) rfl hl.1 rfl (Nat.le_of_ble_eq_true rfl) dX9_bestOf_18 ⟨Nat.le_refl _, Nat.le_refl _⟩ (fun τ_18 H locs hr_18 hP hk_18 hS => ?_)
    subst hr_18
    refine lv_iconst (v := nI 0) hx hb dX9_bestOf_21 (by decide) ?_
    refine lv_istore (lv' := [(5, .int (nI 0)), (4, .int (nI i)), (3, .int (nI (xbi (xE (xFM σ)) i))), (2, .int (xbb (xE (xFM σ)) i)), (0, .ref (α 0)), (1, .int (nI h0))]) hx hb dX9_bestOf_22 hl (by decide) rfl (fun ls hl => ?_)
    refine lv_iconst (v := nI 0) hx hb dX9_bestOf_24 (by decide) ?_
    refine lv_istore (lv' := [(6, .int (nI 0)), (5, .int (nI 0)), (4, .int (nI i)), (3, .int (nI (xbi (xE (xFM σ)) i))), (2, .int (xbb (xE (xFM σ)) i)), (0, .ref (α 0)), (1, .int (nI h0))]) hx hb dX9_bestOf_25 hl (by decide) rfl (fun ls hl => ?_)
    refine x_loopW (ι := Nat) (fun h H locs ls => (h ≤ 6) ∧ lv_has ls 7 [(6, .int (nI h)), (5, .int (nI (fb_sm (fun h => xE (xFM σ) h (xl_r i h)) h))), (4, .int (nI i)), (3, .int (nI (xbi (xE (xFM σ)) i))), (2, .int (xbb (xE (xFM σ)) i)), (0, .ref (α 0)), (1, .int (nI h0))] ∧ va_P D vwCl (xw 20 α (xM α K) (xst_lay τ9 (xl_r i))) H ∧ va_S (xw_R 20 α) s.heap H locs) (fun h => 6 - h) ?_ 0 ls ⟨Nat.zero_le _, lv_sub hl [0, 1, 2, 3, 4, 5, 6] rfl, hP, hS⟩
    intro h H locs ls hinv ih_27
    obtain ⟨hh6, hl, hP, hS⟩ := hinv
    have hl : lv_has ls 7 [(6, .int (nI h)), (5, .int (nI (fb_sm (fun h => xE (xFM σ) h (xl_r i h)) h))), (4, .int (nI i)), (3, .int (nI (xbi (xE (xFM σ)) i))), (2, .int (xbb (xE (xFM σ)) i)), (0, .ref (α 0)), (1, .int (nI h0))] := hl
    have hP : va_P D vwCl (xw 20 α (xM α K) (xst_lay τ9 (xl_r i))) H := hP
    refine lv_iload hx hb dX9_bestOf_27 (lv_at hl 0 rfl) ?_
    refine lv_bipush (v := nI 6) hx hb dX9_bestOf_29 (by decide) ?_
    refine x_icmpN_ge (tgt := 58) S dX9_bestOf_31 (by decide) (by omega) (by omega) (fun c_31 => ?_) (fun c_31 => ?_)
    · have e9 : h = 6 := by omega
      subst e9
      refine lv_iload hx hb dX9_bestOf_58 (lv_at hl 1 rfl) ?_
      refine lv_iload_n hx hb dX9_bestOf_60 rfl (lv_at hl 4 rfl) ?_
      refine lv_icmp_le (tgt := 69) hx hb dX9_bestOf_61 (by decide) (fun c_61 => ?_) (fun c_61 => ?_)
      · have c_61 : ¬ xbb (xE (xFM σ)) i < nI (xbs (xE (xFM σ)) i) := Int32.not_lt.mpr c_61
        refine lv_iload_n hx hb dX9_bestOf_69 rfl (lv_at hl 3 rfl) ?_
        refine lv_istore_n (lv' := [(3, .int (nI (xbi (xE (xFM σ)) i))), (6, .int (nI 6)), (5, .int (nI (xbs (xE (xFM σ)) i))), (4, .int (nI i)), (2, .int (xbb (xE (xFM σ)) i)), (0, .ref (α 0)), (1, .int (nI h0))]) hx hb dX9_bestOf_70 rfl hl (by decide) rfl (fun ls hl => ?_)
        refine lv_iload hx hb dX9_bestOf_71 (lv_at hl 2 rfl) ?_
        refine lv_iload_n hx hb dX9_bestOf_73 rfl (lv_at hl 4 rfl) ?_
        refine lv_icmp_le (tgt := 82) hx hb dX9_bestOf_74 (by decide) (fun c_74 => ?_) (fun c_74 => ?_)
        · refine lv_iload_n hx hb dX9_bestOf_82 rfl (lv_at hl 4 rfl) ?_
          refine lv_istore_n (lv' := [(2, .int (xbb (xE (xFM σ)) i)), (3, .int (nI (xbi (xE (xFM σ)) i))), (6, .int (nI 6)), (5, .int (nI (xbs (xE (xFM σ)) i))), (4, .int (nI i)), (0, .ref (α 0)), (1, .int (nI h0))]) hx hb dX9_bestOf_83 rfl hl (by decide) rfl (fun ls hl => ?_)
          refine lv_iinc (v := nI (i + 1)) (lv' := [(4, .int (nI (i + 1))), (2, .int (xbb (xE (xFM σ)) i)), (3, .int (nI (xbi (xE (xFM σ)) i))), (6, .int (nI 6)), (5, .int (nI (xbs (xE (xFM σ)) i))), (0, .ref (α 0)), (1, .int (nI h0))]) hx hb dX9_bestOf_84 hl (k := 4) rfl (nI_add i 1) (by decide) rfl (fun ls hl => ?_)
          refine lv_goto (tgt := 7) hx hb dX9_bestOf_87 (by decide) ?_
          exact ih_7 (⟨i + 1, xst_lay τ9 (xl_r i)⟩) H locs ls ⟨(by omega), xMs_lay hm9 _, (by have h9 := lv_sub (l' := [(4, .int (nI (i + 1))), (3, .int (nI (xbi (xE (xFM σ)) i))), (2, .int (xbb (xE (xFM σ)) i)), (0, .ref (α 0)), (1, .int (nI h0))]) hl [0, 2, 1, 5, 6] rfl; rw [show xbb (xE (xFM σ)) i = xbb (xE (xFM σ)) (i + 1) from by rw [xbb]; first | (rw [if_pos c_61] <;> rfl) | (rw [if_neg c_61] <;> rfl)] at h9; rw [show nI (xbi (xE (xFM σ)) i) = nI (xbi (xE (xFM σ)) (i + 1)) from by rw [xbi]; first | (rw [if_pos c_61] <;> rfl) | (rw [if_neg c_61] <;> rfl)] at h9; exact h9), hP, hS⟩ (by (try dsimp only); omega)
        · exact absurd (Int32.not_le.mp c_74) c_61
      · have c_61 : xbb (xE (xFM σ)) i < nI (xbs (xE (xFM σ)) i) := Int32.not_le.mp c_61
        refine lv_iload hx hb dX9_bestOf_64 (lv_at hl 2 rfl) ?_
        refine lv_goto (tgt := 70) hx hb dX9_bestOf_66 (by decide) ?_
        refine lv_istore_n (lv' := [(3, .int (nI i)), (6, .int (nI 6)), (5, .int (nI (xbs (xE (xFM σ)) i))), (4, .int (nI i)), (2, .int (xbb (xE (xFM σ)) i)), (0, .ref (α 0)), (1, .int (nI h0))]) hx hb dX9_bestOf_70 rfl hl (by decide) rfl (fun ls hl => ?_)
        refine lv_iload hx hb dX9_bestOf_71 (lv_at hl 2 rfl) ?_
        refine lv_iload_n hx hb dX9_bestOf_73 rfl (lv_at hl 4 rfl) ?_
        refine lv_icmp_le (tgt := 82) hx hb dX9_bestOf_74 (by decide) (fun c_74 => ?_) (fun c_74 => ?_)
        · exact absurd c_61 (Int32.not_lt.mpr c_74)
        · refine lv_iload hx hb dX9_bestOf_77 (lv_at hl 2 rfl) ?_
          refine lv_goto (tgt := 83) hx hb dX9_bestOf_79 (by decide) ?_
          refine lv_istore_n (lv' := [(2, .int (nI (xbs (xE (xFM σ)) i))), (3, .int (nI i)), (6, .int (nI 6)), (5, .int (nI (xbs (xE (xFM σ)) i))), (4, .int (nI i)), (0, .ref (α 0)), (1, .int (nI h0))]) hx hb dX9_bestOf_83 rfl hl (by decide) rfl (fun ls hl => ?_)
          refine lv_iinc (v := nI (i + 1)) (lv' := [(4, .int (nI (i + 1))), (2, .int (nI (xbs (xE (xFM σ)) i))), (3, .int (nI i)), (6, .int (nI 6)), (5, .int (nI (xbs (xE (xFM σ)) i))), (0, .ref (α 0)), (1, .int (nI h0))]) hx hb dX9_bestOf_84 hl (k := 4) rfl (nI_add i 1) (by decide) rfl (fun ls hl => ?_)
          refine lv_goto (tgt := 7) hx hb dX9_bestOf_87 (by decide) ?_
          exact ih_7 (⟨i + 1, xst_lay τ9 (xl_r i)⟩) H locs ls ⟨(by omega), xMs_lay hm9 _, (by have h9 := lv_sub (l' := [(4, .int (nI (i + 1))), (3, .int (nI i)), (2, .int (nI (xbs (xE (xFM σ)) i))), (0, .ref (α 0)), (1, .int (nI h0))]) hl [0, 2, 1, 5, 6] rfl; rw [show nI (xbs (xE (xFM σ)) i) = xbb (xE (xFM σ)) (i + 1) from by rw [xbb]; first | (rw [if_pos c_61] <;> rfl) | (rw [if_neg c_61] <;> rfl)] at h9; rw [show nI i = nI (xbi (xE (xFM σ)) (i + 1)) from by rw [xbi]; first | (rw [if_pos c_61] <;> rfl) | (rw [if_neg c_61] <;> rfl)] at h9; exact h9), hP, hS⟩ (by (try dsimp only); omega)
    · have hw9 := xl_r_lt (k := i) (h := h) (by omega) (by omega)
      refine lv_iload hx hb dX9_bestOf_34 (lv_at hl 1 rfl) ?_
      refine lv_aload_n hx hb dX9_bestOf_36 rfl (lv_at hl 5 rfl) ?_
      refine lv_iload hx hb dX9_bestOf_37 (lv_at hl 0 rfl) ?_
      refine lv_aload_n hx hb dX9_bestOf_39 rfl (lv_at hl 5 rfl) ?_
      refine x_get S (fun w h => List.mem_cons_of_mem _ (List.mem_append_right _ h)) hK hP 0 (by omega) rfl rfl 9 (by decide) (List.mem_of_getElem? (i := 1) rfl) rfl dX9_bestOf_40 ?_
      refine lv_iload hx hb dX9_bestOf_43 (lv_at hl 0 rfl) ?_
      refine x_iald S hK hP 8 (by omega) rfl (by first | assumption | omega) (by omega) dX9_bestOf_45 ?_
      refine x_top S (y := nI (xl_r i h)) (xlay_8 _ _ (by omega)) ?_
      refine x_cVRi (As := [.int (nI h), .int (nI (xl_r i h))]) (rest := [.int (nI (fb_sm (fun h => xE (xFM σ) h (xl_r i h)) h))]) S hK hP 0 (by omega) rfl rfl (c_X9_earns l (xst_lay τ9 (xl_r i)) h (xl_r i h)  (by first | assumption | omega) (by first | assumption | omega)) (x_cwV (n0 := 2) (cq := (RX9, TX9, 24)) S gX9_bestOf_X9_earns rfl (by decide +kernel) ⟨Nat.le_of_ble_eq_true rfl, Nat.le_of_ble_eq_true rfl⟩) rfl hl.1 rfl (Nat.le_of_ble_eq_true rfl) dX9_bestOf_46 ⟨Nat.le_refl _, Nat.le_refl _⟩ (fun r_46 hr_46 => ?_)
      subst hr_46
      refine x_top S (y := nI (xE (xFM σ) h (xl_r i h))) (by rw [xMs_F (xMs_lay hm9 _)]; exact (xE_ok (F := xFM σ) hfe h hw9).1) ?_
      refine x_iaddN S dX9_bestOf_49 ?_
      refine lv_istore (lv' := [(5, .int (nI ((fb_sm (fun h => xE (xFM σ) h (xl_r i h)) h) + (xE (xFM σ) h (xl_r i h))))), (6, .int (nI h)), (4, .int (nI i)), (3, .int (nI (xbi (xE (xFM σ)) i))), (2, .int (xbb (xE (xFM σ)) i)), (0, .ref (α 0)), (1, .int (nI h0))]) hx hb dX9_bestOf_50 hl (by decide) rfl (fun ls hl => ?_)
      refine lv_iinc (v := nI (h + 1)) (lv' := [(6, .int (nI (h + 1))), (5, .int (nI ((fb_sm (fun h => xE (xFM σ) h (xl_r i h)) h) + (xE (xFM σ) h (xl_r i h))))), (4, .int (nI i)), (3, .int (nI (xbi (xE (xFM σ)) i))), (2, .int (xbb (xE (xFM σ)) i)), (0, .ref (α 0)), (1, .int (nI h0))]) hx hb dX9_bestOf_52 hl (k := 1) rfl (nI_add h 1) (by decide) rfl (fun ls hl => ?_)
      refine lv_goto (tgt := 27) hx hb dX9_bestOf_55 (by decide) ?_
      exact ih_27 (h + 1) H locs ls ⟨(by omega), lv_sub hl [0, 1, 2, 3, 4, 5, 6] rfl, hP, hS⟩ (by (try dsimp only); omega)
set_option maxHeartbeats 4000000 in
set_option maxRecDepth 100000 in
theorem c_X9_best (l : Launch) {D : va_G} {K : Nat → ClassId} {α : Nat → Nat} (σ : Nat → Nat → Int32) (hI : xw_I 20 α) (x : Int32)  (hC : xIM σ) : Met l yX9_best wsX9_best (xrm 3) (va_Pc [.ref (α 0), .int x] (xPre D K 20 α (xM α K) σ)) (xQi D 20 α (xM α K) (fun r τ => r = xpm_best (xE (xFM σ)) x ∧ xMs σ τ)) 0 0 (xw_R 20 α) := by
  refine Met.ofW (cc := cX9_best) (maxL := 2) (ret := (some .int)) (by decide) rfl ?_
  intro p e s m args below meth c s₁ B hml hv
  obtain ⟨rfl, hK, hP⟩ := hv
  have S : CallFix p m c cX9_best 2 s _ wsX9_best RX9 := ⟨B.exec, B.bytes, hml, findClass_of_methodNamed B.named, atoms_spec (ws := wsX9_best) B.pre⟩
  have hx := S.1
  have hb := S.2.1
  have hr := B.returns
  have hlocks := B.notSynchronized
  have hS : va_S (xw_R 20 α) s.heap s.heap [] := va_S.rf
  have hl := lv_entry ([.ref (α 0), .int x]) (n := 2) (Nat.le_of_ble_eq_true rfl)
  rw [lg_entry_eq]
  generalize (lg_sl ([.ref (α 0), .int x]) ++ List.replicate (2 - (lg_sl ([.ref (α 0), .int x])).length) Slot.unset).toArray = ls at hl ⊢
  have hl : lv_has ls 2 [(0, .ref (α 0)), (1, .int x)] := hl
  have hPP := hP
  
  refine lv_iload_n hx hb dX9_best_0 rfl (lv_at hl 1 rfl) ?_
  refine lv_iconst (v := (-1)) hx hb dX9_best_1 (by decide) ?_
  refine lv_icmp_eq (tgt := 12) hx hb dX9_best_2 (by decide) (fun c_2 => ?_) (fun c_2 => ?_)
  · subst c_2
    refine lv_aload_n hx hb dX9_best_12 rfl (lv_at hl 0 rfl) ?_
    refine lv_iload_n hx hb dX9_best_13 rfl (lv_at hl 1 rfl) ?_
    refine x_cVWi (As := [.int (-1 : Int32)]) (rest := []) S hK hP hS (fun _ h => h) 0 (by omega) rfl rfl (c_X9_bestOf l σ hI   (by first | assumption | omega)) (x_cwV (n0 := 1) (cq := (RX9, TX9, 24)) S gX9_best_X9_bestOf rfl (by decide +kernel) ⟨Nat.le_of_ble_eq_true rfl, Nat.le_of_ble_eq_true rfl⟩) rfl hl.1 rfl (Nat.le_of_ble_eq_true rfl) dX9_best_14 ⟨Nat.le_refl _, Nat.le_refl _⟩ (fun r_14 τ_14 H locs hr_14 hP hk_14 hS => ?_)
    obtain ⟨hr_14, hms_14⟩ := hr_14
    subst hr_14
    refine lv_goto (tgt := 22) hx hb dX9_best_17 (by decide) ?_
    exact x_iretW S hlocks hP hS hr rfl (⟨by rw [xpm_best, if_pos rfl], hms_14⟩) dX9_best_22
  · refine lv_iload_n hx hb dX9_best_5 rfl (lv_at hl 1 rfl) ?_
    refine x_cSi (As := [.int x]) (rest := []) S (c_X9_isSix l x  ) (x_cwS (n0 := 1) S gX9_best_X9_isSix rfl (by decide +kernel) ⟨Nat.le_of_ble_eq_true rfl, Nat.le_of_ble_eq_true rfl⟩) rfl hl.1 rfl (Nat.le_of_ble_eq_true rfl) dX9_best_6 ⟨Nat.le_refl _, Nat.le_refl _⟩ (fun r_6 hr_6 => ?_)
    subst hr_6
    refine x_if_eqB (tgt := 20) S dX9_best_9 (by decide) (fun c_9 => ?_) (fun c_9 => ?_)
    · refine lv_bipush (v := (-2)) hx hb dX9_best_20 (by decide) ?_
      exact x_iretW S hlocks hP hS hr rfl (⟨by rw [xpm_best, if_neg c_2, if_neg c_9], xMs_rf _⟩) dX9_best_22
    · obtain ⟨h, hh, rfl⟩ := xin_of c_9 (by omega)
      refine lv_aload_n hx hb dX9_best_12 rfl (lv_at hl 0 rfl) ?_
      refine lv_iload_n hx hb dX9_best_13 rfl (lv_at hl 1 rfl) ?_
      refine x_cVWi (As := [.int (nI h)]) (rest := []) S hK hP hS (fun _ h => h) 0 (by omega) rfl rfl (c_X9_bestOfH l σ hI h  (by first | assumption | omega) (by first | assumption | omega)) (x_cwV (n0 := 1) (cq := (RX9, TX9, 24)) S gX9_best_X9_bestOf rfl (by decide +kernel) ⟨Nat.le_of_ble_eq_true rfl, Nat.le_of_ble_eq_true rfl⟩) rfl hl.1 rfl (Nat.le_of_ble_eq_true rfl) dX9_best_14 ⟨Nat.le_refl _, Nat.le_refl _⟩ (fun r_14 τ_14 H locs hr_14 hP hk_14 hS => ?_)
      obtain ⟨hr_14, hms_14⟩ := hr_14
      subst hr_14
      refine lv_goto (tgt := 22) hx hb dX9_best_17 (by decide) ?_
      exact x_iretW S hlocks hP hS hr rfl (⟨by rw [xpm_best, if_neg c_2, if_pos (xin_nI (by omega) (by omega)), cN_nI (by omega)], hms_14⟩) dX9_best_22
set_option maxHeartbeats 4000000 in
set_option maxRecDepth 100000 in
theorem c_X9_couldOf (l : Launch) {D : va_G} {K : Nat → ClassId} {α : Nat → Nat} (σ : Nat → Nat → Int32) (hI : xw_I 20 α)   (hC : xIM σ) : Met l yX9_couldOf wsX9_couldOf (xrm 2) (va_Pc [.ref (α 0), .int (-1)] (xPre D K 20 α (xM α K) σ)) (xQi D 20 α (xM α K) (fun r τ => r = nI (xctA (xB (xFM σ) (σ 12) (σ 13) (σ 14) (xsM σ)) 720) ∧ xMs σ τ)) 0 0 (xw_R 20 α) := by
  refine Met.ofW (cc := cX9_couldOf) (maxL := 7) (ret := (some .int)) (by decide) rfl ?_
  intro p e s m args below meth c s₁ B hml hv
  obtain ⟨rfl, hK, hP⟩ := hv
  have S : CallFix p m c cX9_couldOf 7 s _ wsX9_couldOf RX9 := ⟨B.exec, B.bytes, hml, findClass_of_methodNamed B.named, atoms_spec (ws := wsX9_couldOf) B.pre⟩
  have hx := S.1
  have hb := S.2.1
  have hr := B.returns
  have hlocks := B.notSynchronized
  have hS : va_S (xw_R 20 α) s.heap s.heap [] := va_S.rf
  have hl := lv_entry ([.ref (α 0), .int (-1)]) (n := 7) (Nat.le_of_ble_eq_true rfl)
  rw [lg_entry_eq]
  generalize (lg_sl ([.ref (α 0), .int (-1)]) ++ List.replicate (7 - (lg_sl ([.ref (α 0), .int (-1)])).length) Slot.unset).toArray = ls at hl ⊢
  have hl : lv_has ls 7 [(0, .ref (α 0)), (1, .int (-1 : Int32))] := hl
  have hPP := hP
  obtain ⟨_, _, ⟨hss, hsn, hs1, hs2⟩, _, _⟩ := id hC
  generalize hsne : xsM σ = sn at hss hsn hs1 hs2 ⊢
  refine lv_iconst (v := nI 0) hx hb dX9_couldOf_0 (by decide) ?_
  refine lv_istore_n (lv' := [(2, .int (nI 0)), (0, .ref (α 0)), (1, .int (-1 : Int32))]) hx hb dX9_couldOf_1 rfl hl (by decide) rfl (fun ls hl => ?_)
  refine lv_iconst (v := nI 0) hx hb dX9_couldOf_2 (by decide) ?_
  refine lv_istore_n (lv' := [(3, .int (nI 0)), (2, .int (nI 0)), (0, .ref (α 0)), (1, .int (-1 : Int32))]) hx hb dX9_couldOf_3 rfl hl (by decide) rfl (fun ls hl => ?_)
  refine lv_iconst (v := nI 0) hx hb dX9_couldOf_4 (by decide) ?_
  refine lv_istore (lv' := [(4, .int (nI 0)), (3, .int (nI 0)), (2, .int (nI 0)), (0, .ref (α 0)), (1, .int (-1 : Int32))]) hx hb dX9_couldOf_5 hl (by decide) rfl (fun ls hl => ?_)
  refine x_loopW (ι := Nat × (Nat → Nat → Int32)) (fun z9 H locs ls => match z9 with | ⟨i, τ9⟩ => (i ≤ 720) ∧ (xMs σ τ9) ∧ lv_has ls 7 [(4, .int (nI i)), (3, .int (nI 0)), (2, .int (nI (xctA (xB (xFM σ) (σ 12) (σ 13) (σ 14) sn) i))), (0, .ref (α 0)), (1, .int (-1 : Int32))] ∧ va_P D vwCl (xw 20 α (xM α K) τ9) H ∧ va_S (xw_R 20 α) s.heap H locs) (fun z9 => match z9 with | ⟨i, τ9⟩ => 720 - i) ?_ (⟨0, σ⟩) ls ⟨Nat.zero_le _, xMs_rf _, lv_sub hl [0, 1, 2, 3, 4] rfl, hP, hS⟩
  intro z9 H locs ls hinv ih_7
  obtain ⟨i, τ9⟩ := z9
  obtain ⟨hi, hm9, hl, hP, hS⟩ := hinv
  have hl : lv_has ls 7 [(4, .int (nI i)), (3, .int (nI 0)), (2, .int (nI (xctA (xB (xFM σ) (σ 12) (σ 13) (σ 14) sn) i))), (0, .ref (α 0)), (1, .int (-1 : Int32))] := hl
  have hP : va_P D vwCl (xw 20 α (xM α K) τ9) H := hP
  have hq9 := xctA_le (xB (xFM σ) (σ 12) (σ 13) (σ 14) sn) i
  refine lv_iload hx hb dX9_couldOf_7 (lv_at hl 0 rfl) ?_
  refine lv_sipush (v := nI 720) hx hb dX9_couldOf_9 (by decide) ?_
  refine x_icmpN_ge (tgt := 104) S dX9_couldOf_12 (by decide) (by omega) (by omega) (fun c_12 => ?_) (fun c_12 => ?_)
  · have e9 : i = 720 := by omega
    subst e9
    refine lv_iload_n hx hb dX9_couldOf_104 rfl (lv_at hl 4 rfl) ?_
    refine lv_iconst (v := (-1)) hx hb dX9_couldOf_105 (by decide) ?_
    refine lv_icmp_ne (tgt := 113) hx hb dX9_couldOf_106 (by decide) (fun q => absurd rfl q) (fun _ => ?_)
    refine lv_iload_n hx hb dX9_couldOf_109 rfl (lv_at hl 2 rfl) ?_
    refine lv_goto (tgt := 114) hx hb dX9_couldOf_110 (by decide) ?_
    exact x_iretW S hlocks hP hS hr rfl (⟨rfl, hm9⟩) dX9_couldOf_114
  · have hm8 : xMs σ (xst_lay τ9 (xl_r i)) := xMs_lay hm9 _
    have eF := xMs_F hm8
    have e12 : (xst_lay τ9 (xl_r i)) 12 = σ 12 := xMs_k hm8 (by decide)
    have e13 : (xst_lay τ9 (xl_r i)) 13 = σ 13 := xMs_k hm8 (by decide)
    have e14 : (xst_lay τ9 (xl_r i)) 14 = σ 14 := xMs_k hm8 (by decide)
    refine lv_aload_n hx hb dX9_couldOf_15 rfl (lv_at hl 3 rfl) ?_
    refine lv_iload hx hb dX9_couldOf_16 (lv_at hl 0 rfl) ?_
    refine x_cVWv (As := [.int (nI i)]) (rest := []) S hK hP hS (fun _ h => h) 0 (by omega) rfl rfl (c_X9_lays l τ9 hI i  (by first | assumption | omega)) (x_cwV (n0 := 1) (cq := (RX9, TX9, 24)) S gX9_couldOf_X9_lays rfl (by decide +kernel) ⟨Nat.le_of_ble_eq_true rfl, Nat.le_of_ble_eq_true rfl⟩) rfl hl.1 rfl (Nat.le_of_ble_eq_true rfl) dX9_couldOf_18 ⟨Nat.le_refl _, Nat.le_refl _⟩ (fun τ_18 H locs hr_18 hP hk_18 hS => ?_)
    subst hr_18
    refine lv_iconst (v := nI 1) hx hb dX9_couldOf_21 (by decide) ?_
    refine lv_istore (lv' := [(5, .int (nI 1)), (4, .int (nI i)), (3, .int (nI 0)), (2, .int (nI (xctA (xB (xFM σ) (σ 12) (σ 13) (σ 14) sn) i))), (0, .ref (α 0)), (1, .int (-1 : Int32))]) hx hb dX9_couldOf_22 hl (by decide) rfl (fun ls hl => ?_)
    refine x_cutW (ι := Unit) (pc := 60) (fun u9 H locs ls => lv_has ls 7 [(5, .int (xb (xsA (xB (xFM σ) (σ 12) (σ 13) (σ 14) sn) i))), (4, .int (nI i)), (3, .int (nI 0)), (2, .int (nI (xctA (xB (xFM σ) (σ 12) (σ 13) (σ 14) sn) i))), (0, .ref (α 0)), (1, .int (-1 : Int32))] ∧ va_P D vwCl (xw 20 α (xM α K) (xst_lay τ9 (xl_r i))) H ∧ va_S (xw_R 20 α) s.heap H locs) (fun u9 => []) ?_ ?_
    · intro u9 H locs ls hinv
      obtain ⟨hl, hP, hS⟩ := hinv
      have hl : lv_has ls 7 [(5, .int (xb (xsA (xB (xFM σ) (σ 12) (σ 13) (σ 14) sn) i))), (4, .int (nI i)), (3, .int (nI 0)), (2, .int (nI (xctA (xB (xFM σ) (σ 12) (σ 13) (σ 14) sn) i))), (0, .ref (α 0)), (1, .int (-1 : Int32))] := hl
      have hP : va_P D vwCl (xw 20 α (xM α K) (xst_lay τ9 (xl_r i))) H := hP
      show W p l e _ s m _ below meth c H locs 0 0 _ (F0 m 60 ls [])
      refine lv_iload_n hx hb dX9_couldOf_60 rfl (lv_at hl 3 rfl) ?_
      refine lv_iload hx hb dX9_couldOf_61 (lv_at hl 0 rfl) ?_
      refine x_if_eqB (tgt := 70) S dX9_couldOf_63 (by decide) (fun c_63 => ?_) (fun c_63 => ?_)
      · refine lv_iconst (v := nI 0) hx hb dX9_couldOf_70 (by decide) ?_
        refine x_iaddN S dX9_couldOf_71 ?_
        refine lv_istore_n (lv' := [(2, .int (nI ((xctA (xB (xFM σ) (σ 12) (σ 13) (σ 14) sn) i) + 0))), (5, .int (xb (xsA (xB (xFM σ) (σ 12) (σ 13) (σ 14) sn) i))), (4, .int (nI i)), (3, .int (nI 0)), (0, .ref (α 0)), (1, .int (-1 : Int32))]) hx hb dX9_couldOf_72 rfl hl (by decide) rfl (fun ls hl => ?_)
        refine lv_iload_n hx hb dX9_couldOf_73 rfl (lv_at hl 3 rfl) ?_
        refine lv_iload hx hb dX9_couldOf_74 (lv_at hl 1 rfl) ?_
        refine x_if_eqB (tgt := 95) S dX9_couldOf_76 (by decide) (fun c_76 => ?_) (fun c_76 => ?_)
        · refine lv_iconst (v := nI 0) hx hb dX9_couldOf_95 (by decide) ?_
          refine lv_ior hx hb dX9_couldOf_96 ?_
          refine x_top S (y := nI 0) (by rw [fa_or, Nat.or_zero]) ?_
          refine lv_istore_n (lv' := [(3, .int (nI 0)), (2, .int (nI ((xctA (xB (xFM σ) (σ 12) (σ 13) (σ 14) sn) i) + 0))), (5, .int (xb (xsA (xB (xFM σ) (σ 12) (σ 13) (σ 14) sn) i))), (4, .int (nI i)), (0, .ref (α 0)), (1, .int (-1 : Int32))]) hx hb dX9_couldOf_97 rfl hl (by decide) rfl (fun ls hl => ?_)
          refine lv_iinc (v := nI (i + 1)) (lv' := [(4, .int (nI (i + 1))), (3, .int (nI 0)), (2, .int (nI ((xctA (xB (xFM σ) (σ 12) (σ 13) (σ 14) sn) i) + 0))), (5, .int (xb (xsA (xB (xFM σ) (σ 12) (σ 13) (σ 14) sn) i))), (0, .ref (α 0)), (1, .int (-1 : Int32))]) hx hb dX9_couldOf_98 hl (k := 3) rfl (nI_add i 1) (by decide) rfl (fun ls hl => ?_)
          refine lv_goto (tgt := 7) hx hb dX9_couldOf_101 (by decide) ?_
          exact ih_7 (⟨i + 1, xst_lay τ9 (xl_r i)⟩) H locs ls ⟨(by omega), xMs_lay hm9 _, (by have h9 := lv_sub (l' := [(4, .int (nI (i + 1))), (3, .int (nI 0)), (2, .int (nI ((xctA (xB (xFM σ) (σ 12) (σ 13) (σ 14) sn) i) + 0))), (0, .ref (α 0)), (1, .int (-1 : Int32))]) hl [0, 1, 2, 4, 5] rfl; rw [show nI ((xctA (xB (xFM σ) (σ 12) (σ 13) (σ 14) sn) i) + 0) = nI (xctA (xB (xFM σ) (σ 12) (σ 13) (σ 14) sn) (i + 1)) from by rw [xctA_s]; first | (rw [if_pos c_63] <;> rfl) | (rw [if_neg c_63] <;> rfl)] at h9; exact h9), hP, hS⟩ (by (try dsimp only); omega)
        · exact absurd c_76 c_63
      · refine lv_iconst (v := nI 1) hx hb dX9_couldOf_66 (by decide) ?_
        refine lv_goto (tgt := 71) hx hb dX9_couldOf_67 (by decide) ?_
        refine x_iaddN S dX9_couldOf_71 ?_
        refine lv_istore_n (lv' := [(2, .int (nI ((xctA (xB (xFM σ) (σ 12) (σ 13) (σ 14) sn) i) + 1))), (5, .int (xb (xsA (xB (xFM σ) (σ 12) (σ 13) (σ 14) sn) i))), (4, .int (nI i)), (3, .int (nI 0)), (0, .ref (α 0)), (1, .int (-1 : Int32))]) hx hb dX9_couldOf_72 rfl hl (by decide) rfl (fun ls hl => ?_)
        refine lv_iload_n hx hb dX9_couldOf_73 rfl (lv_at hl 3 rfl) ?_
        refine lv_iload hx hb dX9_couldOf_74 (lv_at hl 1 rfl) ?_
        refine x_if_eqB (tgt := 95) S dX9_couldOf_76 (by decide) (fun c_76 => ?_) (fun c_76 => ?_)
        · exact absurd c_63 c_76
        · refine lv_iload_n hx hb dX9_couldOf_79 rfl (lv_at hl 5 rfl) ?_
          refine lv_iconst (v := (-1)) hx hb dX9_couldOf_80 (by decide) ?_
          refine lv_icmp_eq (tgt := 95) hx hb dX9_couldOf_81 (by decide) (fun _ => ?_) (fun q => absurd rfl q)
          refine lv_iconst (v := nI 0) hx hb dX9_couldOf_95 (by decide) ?_
          refine lv_ior hx hb dX9_couldOf_96 ?_
          refine x_top S (y := nI 0) (by rw [fa_or, Nat.or_zero]) ?_
          refine lv_istore_n (lv' := [(3, .int (nI 0)), (2, .int (nI ((xctA (xB (xFM σ) (σ 12) (σ 13) (σ 14) sn) i) + 1))), (5, .int (xb (xsA (xB (xFM σ) (σ 12) (σ 13) (σ 14) sn) i))), (4, .int (nI i)), (0, .ref (α 0)), (1, .int (-1 : Int32))]) hx hb dX9_couldOf_97 rfl hl (by decide) rfl (fun ls hl => ?_)
          refine lv_iinc (v := nI (i + 1)) (lv' := [(4, .int (nI (i + 1))), (3, .int (nI 0)), (2, .int (nI ((xctA (xB (xFM σ) (σ 12) (σ 13) (σ 14) sn) i) + 1))), (5, .int (xb (xsA (xB (xFM σ) (σ 12) (σ 13) (σ 14) sn) i))), (0, .ref (α 0)), (1, .int (-1 : Int32))]) hx hb dX9_couldOf_98 hl (k := 3) rfl (nI_add i 1) (by decide) rfl (fun ls hl => ?_)
          refine lv_goto (tgt := 7) hx hb dX9_couldOf_101 (by decide) ?_
          exact ih_7 (⟨i + 1, xst_lay τ9 (xl_r i)⟩) H locs ls ⟨(by omega), xMs_lay hm9 _, (by have h9 := lv_sub (l' := [(4, .int (nI (i + 1))), (3, .int (nI 0)), (2, .int (nI ((xctA (xB (xFM σ) (σ 12) (σ 13) (σ 14) sn) i) + 1))), (0, .ref (α 0)), (1, .int (-1 : Int32))]) hl [0, 1, 2, 4, 5] rfl; rw [show nI ((xctA (xB (xFM σ) (σ 12) (σ 13) (σ 14) sn) i) + 1) = nI (xctA (xB (xFM σ) (σ 12) (σ 13) (σ 14) sn) (i + 1)) from by rw [xctA_s]; first | (rw [if_pos c_63] <;> rfl) | (rw [if_neg c_63] <;> rfl)] at h9; exact h9), hP, hS⟩ (by (try dsimp only); omega)
    · intro kc_60
      refine lv_iconst (v := nI 0) hx hb dX9_couldOf_24 (by decide) ?_
      refine lv_istore (lv' := [(6, .int (nI 0)), (5, .int (nI 1)), (4, .int (nI i)), (3, .int (nI 0)), (2, .int (nI (xctA (xB (xFM σ) (σ 12) (σ 13) (σ 14) sn) i))), (0, .ref (α 0)), (1, .int (-1 : Int32))]) hx hb dX9_couldOf_25 hl (by decide) rfl (fun ls hl => ?_)
      refine x_loopW (ι := Nat) (fun h H locs ls => (h ≤ 6) ∧ lv_has ls 7 [(6, .int (nI h)), (5, .int (xb (xall (fun h => (xB (xFM σ) (σ 12) (σ 13) (σ 14) sn h).testBit (xl_r i h) = true) h))), (4, .int (nI i)), (3, .int (nI 0)), (2, .int (nI (xctA (xB (xFM σ) (σ 12) (σ 13) (σ 14) sn) i))), (0, .ref (α 0)), (1, .int (-1 : Int32))] ∧ va_P D vwCl (xw 20 α (xM α K) (xst_lay τ9 (xl_r i))) H ∧ va_S (xw_R 20 α) s.heap H locs) (fun h => 6 - h) ?_ 0 ls ⟨Nat.zero_le _, (by have h9 := lv_sub (l' := [(6, .int (nI 0)), (5, .int (nI 1)), (4, .int (nI i)), (3, .int (nI 0)), (2, .int (nI (xctA (xB (xFM σ) (σ 12) (σ 13) (σ 14) sn) i))), (0, .ref (α 0)), (1, .int (-1 : Int32))]) hl [0, 1, 2, 3, 4, 5, 6] rfl; rw [show nI 1 = xb (xall (fun h => (xB (xFM σ) (σ 12) (σ 13) (σ 14) sn h).testBit (xl_r i h) = true) 0) from (xb_t (xall_of (fun j hj => absurd hj (Nat.not_lt_zero j)))).symm] at h9; exact h9), hP, hS⟩
      intro h H locs ls hinv ih_27
      obtain ⟨hh6, hl, hP, hS⟩ := hinv
      have hl : lv_has ls 7 [(6, .int (nI h)), (5, .int (xb (xall (fun h => (xB (xFM σ) (σ 12) (σ 13) (σ 14) sn h).testBit (xl_r i h) = true) h))), (4, .int (nI i)), (3, .int (nI 0)), (2, .int (nI (xctA (xB (xFM σ) (σ 12) (σ 13) (σ 14) sn) i))), (0, .ref (α 0)), (1, .int (-1 : Int32))] := hl
      have hP : va_P D vwCl (xw 20 α (xM α K) (xst_lay τ9 (xl_r i))) H := hP
      refine lv_iload hx hb dX9_couldOf_27 (lv_at hl 0 rfl) ?_
      refine lv_bipush (v := nI 6) hx hb dX9_couldOf_29 (by decide) ?_
      refine x_icmpN_ge (tgt := 60) S dX9_couldOf_31 (by decide) (by omega) (by omega) (fun c_31 => ?_) (fun c_31 => ?_)
      · have e9 : h = 6 := by omega
        exact kc_60 () _ _ ls ⟨(by have h9 := lv_sub (l' := [(5, .int (xb (xall (fun h => (xB (xFM σ) (σ 12) (σ 13) (σ 14) sn h).testBit (xl_r i h) = true) h))), (4, .int (nI i)), (3, .int (nI 0)), (2, .int (nI (xctA (xB (xFM σ) (σ 12) (σ 13) (σ 14) sn) i))), (0, .ref (α 0)), (1, .int (-1 : Int32))]) hl [1, 2, 3, 4, 5, 6] rfl; rw [show xb (xall (fun h => (xB (xFM σ) (σ 12) (σ 13) (σ 14) sn h).testBit (xl_r i h) = true) h) = xb (xsA (xB (xFM σ) (σ 12) (σ 13) (σ 14) sn) i) from (by first | (rw [e9]) | exact xb_iff ⟨fun q => absurd q c_36, fun q => xall_of (fun j hj => xall_to q j (by omega))⟩)] at h9; exact h9), hP, hS⟩
      · have hw9 := xl_r_lt (k := i) (h := h) (by omega) (by omega)
        refine lv_iload hx hb dX9_couldOf_34 (lv_at hl 1 rfl) ?_
        refine x_if_eqB (tgt := 60) S dX9_couldOf_36 (by decide) (fun c_36 => ?_) (fun c_36 => ?_)
        · exact kc_60 () _ _ ls ⟨(by have h9 := lv_sub (l' := [(5, .int (xb (xall (fun h => (xB (xFM σ) (σ 12) (σ 13) (σ 14) sn h).testBit (xl_r i h) = true) h))), (4, .int (nI i)), (3, .int (nI 0)), (2, .int (nI (xctA (xB (xFM σ) (σ 12) (σ 13) (σ 14) sn) i))), (0, .ref (α 0)), (1, .int (-1 : Int32))]) hl [1, 2, 3, 4, 5, 6] rfl; rw [show xb (xall (fun h => (xB (xFM σ) (σ 12) (σ 13) (σ 14) sn h).testBit (xl_r i h) = true) h) = xb (xsA (xB (xFM σ) (σ 12) (σ 13) (σ 14) sn) i) from (by first | (rw [e9]) | exact xb_iff ⟨fun q => absurd q c_36, fun q => xall_of (fun j hj => xall_to q j (by omega))⟩)] at h9; exact h9), hP, hS⟩
        · refine lv_aload_n hx hb dX9_couldOf_39 rfl (lv_at hl 5 rfl) ?_
          refine lv_iload hx hb dX9_couldOf_40 (lv_at hl 0 rfl) ?_
          refine lv_aload_n hx hb dX9_couldOf_42 rfl (lv_at hl 5 rfl) ?_
          refine x_get S (fun w h => List.mem_cons_of_mem _ (List.mem_append_right _ h)) hK hP 0 (by omega) rfl rfl 9 (by decide) (List.mem_of_getElem? (i := 1) rfl) rfl dX9_couldOf_43 ?_
          refine lv_iload hx hb dX9_couldOf_46 (lv_at hl 0 rfl) ?_
          refine x_iald S hK hP 8 (by omega) rfl (by first | assumption | omega) (by omega) dX9_couldOf_48 ?_
          refine x_top S (y := nI (xl_r i h)) (xlay_8 _ _ (by omega)) ?_
          refine x_cVRi (As := [.int (nI h), .int (nI (xl_r i h))]) (rest := []) S hK hP 0 (by omega) rfl rfl (c_X9_isSeen l (xst_lay τ9 (xl_r i)) h (xl_r i h) sn  (by rw [hm8.2 14 (by decide)]; exact hss) (by first | assumption | omega) (by rw [e12]; exact hs1) (by rw [e13]; exact hs2) (by first | assumption | omega) (by first | assumption | omega)) (x_cwV (n0 := 2) (cq := (RX9, TX9, 24)) S gX9_couldOf_X9_isSeen rfl (by decide +kernel) ⟨Nat.le_of_ble_eq_true rfl, Nat.le_of_ble_eq_true rfl⟩) rfl hl.1 rfl (Nat.le_of_ble_eq_true rfl) dX9_couldOf_49 ⟨Nat.le_refl _, Nat.le_refl _⟩ (fun r_49 hr_49 => ?_)
          subst hr_49
          refine x_top S (y := xb (xall (fun h => (xB (xFM σ) (σ 12) (σ 13) (σ 14) sn h).testBit (xl_r i h) = true) (h + 1))) (by rw [eF, e12, e13, e14]; exact xb_iff (xall_1 c_36)) ?_
          refine lv_istore (lv' := [(5, .int (xb (xall (fun h => (xB (xFM σ) (σ 12) (σ 13) (σ 14) sn h).testBit (xl_r i h) = true) (h + 1)))), (6, .int (nI h)), (4, .int (nI i)), (3, .int (nI 0)), (2, .int (nI (xctA (xB (xFM σ) (σ 12) (σ 13) (σ 14) sn) i))), (0, .ref (α 0)), (1, .int (-1 : Int32))]) hx hb dX9_couldOf_52 hl (by decide) rfl (fun ls hl => ?_)
          refine lv_iinc (v := nI (h + 1)) (lv' := [(6, .int (nI (h + 1))), (5, .int (xb (xall (fun h => (xB (xFM σ) (σ 12) (σ 13) (σ 14) sn h).testBit (xl_r i h) = true) (h + 1)))), (4, .int (nI i)), (3, .int (nI 0)), (2, .int (nI (xctA (xB (xFM σ) (σ 12) (σ 13) (σ 14) sn) i))), (0, .ref (α 0)), (1, .int (-1 : Int32))]) hx hb dX9_couldOf_54 hl (k := 1) rfl (nI_add h 1) (by decide) rfl (fun ls hl => ?_)
          refine lv_goto (tgt := 27) hx hb dX9_couldOf_57 (by decide) ?_
          exact ih_27 (h + 1) H locs ls ⟨(by omega), lv_sub hl [0, 1, 2, 3, 4, 5, 6] rfl, hP, hS⟩ (by (try dsimp only); omega)
set_option maxHeartbeats 4000000 in
set_option maxRecDepth 100000 in
theorem c_X9_couldOfH (l : Launch) {D : va_G} {K : Nat → ClassId} {α : Nat → Nat} (σ : Nat → Nat → Int32) (hI : xw_I 20 α) (h0 : Nat)  (hC : xIM σ) (hh0 : h0 < 6) : Met l yX9_couldOf wsX9_couldOf (xrm 2) (va_Pc [.ref (α 0), .int (nI h0)] (xPre D K 20 α (xM α K) σ)) (xQi D 20 α (xM α K) (fun r τ => r = nI (xcb (xB (xFM σ) (σ 12) (σ 13) (σ 14) (xsM σ)) h0 720) ∧ xMs σ τ)) 0 0 (xw_R 20 α) := by
  refine Met.ofW (cc := cX9_couldOf) (maxL := 7) (ret := (some .int)) (by decide) rfl ?_
  intro p e s m args below meth c s₁ B hml hv
  obtain ⟨rfl, hK, hP⟩ := hv
  have S : CallFix p m c cX9_couldOf 7 s _ wsX9_couldOf RX9 := ⟨B.exec, B.bytes, hml, findClass_of_methodNamed B.named, atoms_spec (ws := wsX9_couldOf) B.pre⟩
  have hx := S.1
  have hb := S.2.1
  have hr := B.returns
  have hlocks := B.notSynchronized
  have hS : va_S (xw_R 20 α) s.heap s.heap [] := va_S.rf
  have hl := lv_entry ([.ref (α 0), .int (nI h0)]) (n := 7) (Nat.le_of_ble_eq_true rfl)
  rw [lg_entry_eq]
  generalize (lg_sl ([.ref (α 0), .int (nI h0)]) ++ List.replicate (7 - (lg_sl ([.ref (α 0), .int (nI h0)])).length) Slot.unset).toArray = ls at hl ⊢
  have hl : lv_has ls 7 [(0, .ref (α 0)), (1, .int (nI h0))] := hl
  have hPP := hP
  obtain ⟨_, _, ⟨hss, hsn, hs1, hs2⟩, _, _⟩ := id hC
  generalize hsne : xsM σ = sn at hss hsn hs1 hs2 ⊢
  refine lv_iconst (v := nI 0) hx hb dX9_couldOf_0 (by decide) ?_
  refine lv_istore_n (lv' := [(2, .int (nI 0)), (0, .ref (α 0)), (1, .int (nI h0))]) hx hb dX9_couldOf_1 rfl hl (by decide) rfl (fun ls hl => ?_)
  refine lv_iconst (v := nI 0) hx hb dX9_couldOf_2 (by decide) ?_
  refine lv_istore_n (lv' := [(3, .int (nI 0)), (2, .int (nI 0)), (0, .ref (α 0)), (1, .int (nI h0))]) hx hb dX9_couldOf_3 rfl hl (by decide) rfl (fun ls hl => ?_)
  refine lv_iconst (v := nI 0) hx hb dX9_couldOf_4 (by decide) ?_
  refine lv_istore (lv' := [(4, .int (nI 0)), (3, .int (nI 0)), (2, .int (nI 0)), (0, .ref (α 0)), (1, .int (nI h0))]) hx hb dX9_couldOf_5 hl (by decide) rfl (fun ls hl => ?_)
  refine x_loopW (ι := Nat × (Nat → Nat → Int32)) (fun z9 H locs ls => match z9 with | ⟨i, τ9⟩ => (i ≤ 720) ∧ (xMs σ τ9) ∧ lv_has ls 7 [(4, .int (nI i)), (3, .int (nI (xcb (xB (xFM σ) (σ 12) (σ 13) (σ 14) sn) h0 i))), (2, .int (nI (xctA (xB (xFM σ) (σ 12) (σ 13) (σ 14) sn) i))), (0, .ref (α 0)), (1, .int (nI h0))] ∧ va_P D vwCl (xw 20 α (xM α K) τ9) H ∧ va_S (xw_R 20 α) s.heap H locs) (fun z9 => match z9 with | ⟨i, τ9⟩ => 720 - i) ?_ (⟨0, σ⟩) ls ⟨Nat.zero_le _, xMs_rf _, lv_sub hl [0, 1, 2, 3, 4] rfl, hP, hS⟩
  intro z9 H locs ls hinv ih_7
  obtain ⟨i, τ9⟩ := z9
  obtain ⟨hi, hm9, hl, hP, hS⟩ := hinv
  have hl : lv_has ls 7 [(4, .int (nI i)), (3, .int (nI (xcb (xB (xFM σ) (σ 12) (σ 13) (σ 14) sn) h0 i))), (2, .int (nI (xctA (xB (xFM σ) (σ 12) (σ 13) (σ 14) sn) i))), (0, .ref (α 0)), (1, .int (nI h0))] := hl
  have hP : va_P D vwCl (xw 20 α (xM α K) τ9) H := hP
  have hq9 := xctA_le (xB (xFM σ) (σ 12) (σ 13) (σ 14) sn) i
  have hq8 := xcb_lt (xB (xFM σ) (σ 12) (σ 13) (σ 14) sn) hh0 i hi
  refine lv_iload hx hb dX9_couldOf_7 (lv_at hl 0 rfl) ?_
  refine lv_sipush (v := nI 720) hx hb dX9_couldOf_9 (by decide) ?_
  refine x_icmpN_ge (tgt := 104) S dX9_couldOf_12 (by decide) (by omega) (by omega) (fun c_12 => ?_) (fun c_12 => ?_)
  · have e9 : i = 720 := by omega
    subst e9
    refine lv_iload_n hx hb dX9_couldOf_104 rfl (lv_at hl 4 rfl) ?_
    refine lv_iconst (v := (-1)) hx hb dX9_couldOf_105 (by decide) ?_
    refine lv_icmp_ne (tgt := 113) hx hb dX9_couldOf_106 (by decide) (fun _ => ?_) (fun q => absurd q (nI_m1 (by omega)))
    refine lv_iload_n hx hb dX9_couldOf_113 rfl (lv_at hl 1 rfl) ?_
    exact x_iretW S hlocks hP hS hr rfl (⟨rfl, hm9⟩) dX9_couldOf_114
  · have hm8 : xMs σ (xst_lay τ9 (xl_r i)) := xMs_lay hm9 _
    have eF := xMs_F hm8
    have e12 : (xst_lay τ9 (xl_r i)) 12 = σ 12 := xMs_k hm8 (by decide)
    have e13 : (xst_lay τ9 (xl_r i)) 13 = σ 13 := xMs_k hm8 (by decide)
    have e14 : (xst_lay τ9 (xl_r i)) 14 = σ 14 := xMs_k hm8 (by decide)
    refine lv_aload_n hx hb dX9_couldOf_15 rfl (lv_at hl 3 rfl) ?_
    refine lv_iload hx hb dX9_couldOf_16 (lv_at hl 0 rfl) ?_
    refine x_cVWv (As := [.int (nI i)]) (rest := []) S hK hP hS (fun _ h => h) 0 (by omega) rfl rfl (c_X9_lays l τ9 hI i  (by first | assumption | omega)) (x_cwV (n0 := 1) (cq := (RX9, TX9, 24)) S gX9_couldOf_X9_lays rfl (by decide +kernel) ⟨Nat.le_of_ble_eq_true rfl, Nat.le_of_ble_eq_true rfl⟩) rfl hl.1 rfl (Nat.le_of_ble_eq_true rfl) dX9_couldOf_18 ⟨Nat.le_refl _, Nat.le_refl _⟩ (fun τ_18 H locs hr_18 hP hk_18 hS => ?_)
    subst hr_18
    refine lv_iconst (v := nI 1) hx hb dX9_couldOf_21 (by decide) ?_
    refine lv_istore (lv' := [(5, .int (nI 1)), (4, .int (nI i)), (3, .int (nI (xcb (xB (xFM σ) (σ 12) (σ 13) (σ 14) sn) h0 i))), (2, .int (nI (xctA (xB (xFM σ) (σ 12) (σ 13) (σ 14) sn) i))), (0, .ref (α 0)), (1, .int (nI h0))]) hx hb dX9_couldOf_22 hl (by decide) rfl (fun ls hl => ?_)
    refine x_cutW (ι := Unit) (pc := 60) (fun u9 H locs ls => lv_has ls 7 [(5, .int (xb (xsA (xB (xFM σ) (σ 12) (σ 13) (σ 14) sn) i))), (4, .int (nI i)), (3, .int (nI (xcb (xB (xFM σ) (σ 12) (σ 13) (σ 14) sn) h0 i))), (2, .int (nI (xctA (xB (xFM σ) (σ 12) (σ 13) (σ 14) sn) i))), (0, .ref (α 0)), (1, .int (nI h0))] ∧ va_P D vwCl (xw 20 α (xM α K) (xst_lay τ9 (xl_r i))) H ∧ va_S (xw_R 20 α) s.heap H locs) (fun u9 => []) ?_ ?_
    · intro u9 H locs ls hinv
      obtain ⟨hl, hP, hS⟩ := hinv
      have hl : lv_has ls 7 [(5, .int (xb (xsA (xB (xFM σ) (σ 12) (σ 13) (σ 14) sn) i))), (4, .int (nI i)), (3, .int (nI (xcb (xB (xFM σ) (σ 12) (σ 13) (σ 14) sn) h0 i))), (2, .int (nI (xctA (xB (xFM σ) (σ 12) (σ 13) (σ 14) sn) i))), (0, .ref (α 0)), (1, .int (nI h0))] := hl
      have hP : va_P D vwCl (xw 20 α (xM α K) (xst_lay τ9 (xl_r i))) H := hP
      show W p l e _ s m _ below meth c H locs 0 0 _ (F0 m 60 ls [])
      refine lv_iload_n hx hb dX9_couldOf_60 rfl (lv_at hl 3 rfl) ?_
      refine lv_iload hx hb dX9_couldOf_61 (lv_at hl 0 rfl) ?_
      refine x_if_eqB (tgt := 70) S dX9_couldOf_63 (by decide) (fun c_63 => ?_) (fun c_63 => ?_)
      · refine lv_iconst (v := nI 0) hx hb dX9_couldOf_70 (by decide) ?_
        refine x_iaddN S dX9_couldOf_71 ?_
        refine lv_istore_n (lv' := [(2, .int (nI ((xctA (xB (xFM σ) (σ 12) (σ 13) (σ 14) sn) i) + 0))), (5, .int (xb (xsA (xB (xFM σ) (σ 12) (σ 13) (σ 14) sn) i))), (4, .int (nI i)), (3, .int (nI (xcb (xB (xFM σ) (σ 12) (σ 13) (σ 14) sn) h0 i))), (0, .ref (α 0)), (1, .int (nI h0))]) hx hb dX9_couldOf_72 rfl hl (by decide) rfl (fun ls hl => ?_)
        refine lv_iload_n hx hb dX9_couldOf_73 rfl (lv_at hl 3 rfl) ?_
        refine lv_iload hx hb dX9_couldOf_74 (lv_at hl 1 rfl) ?_
        refine x_if_eqB (tgt := 95) S dX9_couldOf_76 (by decide) (fun c_76 => ?_) (fun c_76 => ?_)
        · refine lv_iconst (v := nI 0) hx hb dX9_couldOf_95 (by decide) ?_
          refine lv_ior hx hb dX9_couldOf_96 ?_
          refine x_top S (y := nI (xcb (xB (xFM σ) (σ 12) (σ 13) (σ 14) sn) h0 i)) (by rw [fa_or, Nat.or_zero]) ?_
          refine lv_istore_n (lv' := [(3, .int (nI (xcb (xB (xFM σ) (σ 12) (σ 13) (σ 14) sn) h0 i))), (2, .int (nI ((xctA (xB (xFM σ) (σ 12) (σ 13) (σ 14) sn) i) + 0))), (5, .int (xb (xsA (xB (xFM σ) (σ 12) (σ 13) (σ 14) sn) i))), (4, .int (nI i)), (0, .ref (α 0)), (1, .int (nI h0))]) hx hb dX9_couldOf_97 rfl hl (by decide) rfl (fun ls hl => ?_)
          refine lv_iinc (v := nI (i + 1)) (lv' := [(4, .int (nI (i + 1))), (3, .int (nI (xcb (xB (xFM σ) (σ 12) (σ 13) (σ 14) sn) h0 i))), (2, .int (nI ((xctA (xB (xFM σ) (σ 12) (σ 13) (σ 14) sn) i) + 0))), (5, .int (xb (xsA (xB (xFM σ) (σ 12) (σ 13) (σ 14) sn) i))), (0, .ref (α 0)), (1, .int (nI h0))]) hx hb dX9_couldOf_98 hl (k := 3) rfl (nI_add i 1) (by decide) rfl (fun ls hl => ?_)
          refine lv_goto (tgt := 7) hx hb dX9_couldOf_101 (by decide) ?_
          exact ih_7 (⟨i + 1, xst_lay τ9 (xl_r i)⟩) H locs ls ⟨(by omega), xMs_lay hm9 _, (by have h9 := lv_sub (l' := [(4, .int (nI (i + 1))), (3, .int (nI (xcb (xB (xFM σ) (σ 12) (σ 13) (σ 14) sn) h0 i))), (2, .int (nI ((xctA (xB (xFM σ) (σ 12) (σ 13) (σ 14) sn) i) + 0))), (0, .ref (α 0)), (1, .int (nI h0))]) hl [0, 1, 2, 4, 5] rfl; rw [show nI ((xctA (xB (xFM σ) (σ 12) (σ 13) (σ 14) sn) i) + 0) = nI (xctA (xB (xFM σ) (σ 12) (σ 13) (σ 14) sn) (i + 1)) from by rw [xctA_s]; first | (rw [if_pos c_63] <;> rfl) | (rw [if_neg c_63] <;> rfl)] at h9; rw [show nI (xcb (xB (xFM σ) (σ 12) (σ 13) (σ 14) sn) h0 i) = nI (xcb (xB (xFM σ) (σ 12) (σ 13) (σ 14) sn) h0 (i + 1)) from by rw [xcb]; first | (rw [if_pos c_63] <;> rfl) | (rw [if_neg c_63] <;> rfl)] at h9; exact h9), hP, hS⟩ (by (try dsimp only); omega)
        · exact absurd c_76 c_63
      · refine lv_iconst (v := nI 1) hx hb dX9_couldOf_66 (by decide) ?_
        refine lv_goto (tgt := 71) hx hb dX9_couldOf_67 (by decide) ?_
        refine x_iaddN S dX9_couldOf_71 ?_
        refine lv_istore_n (lv' := [(2, .int (nI ((xctA (xB (xFM σ) (σ 12) (σ 13) (σ 14) sn) i) + 1))), (5, .int (xb (xsA (xB (xFM σ) (σ 12) (σ 13) (σ 14) sn) i))), (4, .int (nI i)), (3, .int (nI (xcb (xB (xFM σ) (σ 12) (σ 13) (σ 14) sn) h0 i))), (0, .ref (α 0)), (1, .int (nI h0))]) hx hb dX9_couldOf_72 rfl hl (by decide) rfl (fun ls hl => ?_)
        refine lv_iload_n hx hb dX9_couldOf_73 rfl (lv_at hl 3 rfl) ?_
        refine lv_iload hx hb dX9_couldOf_74 (lv_at hl 1 rfl) ?_
        refine x_if_eqB (tgt := 95) S dX9_couldOf_76 (by decide) (fun c_76 => ?_) (fun c_76 => ?_)
        · exact absurd c_63 c_76
        · refine lv_iload_n hx hb dX9_couldOf_79 rfl (lv_at hl 5 rfl) ?_
          refine lv_iconst (v := (-1)) hx hb dX9_couldOf_80 (by decide) ?_
          refine lv_icmp_eq (tgt := 95) hx hb dX9_couldOf_81 (by decide) (fun q => absurd q (nI_m1 (by omega))) (fun _ => ?_)
          have hw9 := xl_r_lt (k := i) (h := h0) (by omega) hh0
          refine lv_iconst (v := nI 1) hx hb dX9_couldOf_84 (by decide) ?_
          refine lv_aload_n hx hb dX9_couldOf_85 rfl (lv_at hl 4 rfl) ?_
          refine x_get S (fun w h => List.mem_cons_of_mem _ (List.mem_append_right _ h)) hK hP 0 (by omega) rfl rfl 9 (by decide) (List.mem_of_getElem? (i := 1) rfl) rfl dX9_couldOf_86 ?_
          refine lv_iload_n hx hb dX9_couldOf_89 rfl (lv_at hl 5 rfl) ?_
          refine x_iald S hK hP 8 (by omega) rfl (by first | assumption | omega) (by omega) dX9_couldOf_90 ?_
          refine x_top S (y := nI (xl_r i h0)) (xlay_8 _ _ hh0) ?_
          refine lv_ishl hx hb dX9_couldOf_91 ?_
          refine x_top S (y := nI (2 ^ xl_r i h0)) (xsh (by omega)) ?_
          refine lv_goto (tgt := 96) hx hb dX9_couldOf_92 (by decide) ?_
          refine lv_ior hx hb dX9_couldOf_96 ?_
          refine x_top S (y := nI (xcb (xB (xFM σ) (σ 12) (σ 13) (σ 14) sn) h0 i ||| 2 ^ xl_r i h0)) (fa_or _ _) ?_
          refine lv_istore_n (lv' := [(3, .int (nI (xcb (xB (xFM σ) (σ 12) (σ 13) (σ 14) sn) h0 i ||| 2 ^ xl_r i h0))), (2, .int (nI ((xctA (xB (xFM σ) (σ 12) (σ 13) (σ 14) sn) i) + 1))), (5, .int (xb (xsA (xB (xFM σ) (σ 12) (σ 13) (σ 14) sn) i))), (4, .int (nI i)), (0, .ref (α 0)), (1, .int (nI h0))]) hx hb dX9_couldOf_97 rfl hl (by decide) rfl (fun ls hl => ?_)
          refine lv_iinc (v := nI (i + 1)) (lv' := [(4, .int (nI (i + 1))), (3, .int (nI (xcb (xB (xFM σ) (σ 12) (σ 13) (σ 14) sn) h0 i ||| 2 ^ xl_r i h0))), (2, .int (nI ((xctA (xB (xFM σ) (σ 12) (σ 13) (σ 14) sn) i) + 1))), (5, .int (xb (xsA (xB (xFM σ) (σ 12) (σ 13) (σ 14) sn) i))), (0, .ref (α 0)), (1, .int (nI h0))]) hx hb dX9_couldOf_98 hl (k := 3) rfl (nI_add i 1) (by decide) rfl (fun ls hl => ?_)
          refine lv_goto (tgt := 7) hx hb dX9_couldOf_101 (by decide) ?_
          exact ih_7 (⟨i + 1, xst_lay τ9 (xl_r i)⟩) H locs ls ⟨(by omega), xMs_lay hm9 _, (by have h9 := lv_sub (l' := [(4, .int (nI (i + 1))), (3, .int (nI (xcb (xB (xFM σ) (σ 12) (σ 13) (σ 14) sn) h0 i ||| 2 ^ xl_r i h0))), (2, .int (nI ((xctA (xB (xFM σ) (σ 12) (σ 13) (σ 14) sn) i) + 1))), (0, .ref (α 0)), (1, .int (nI h0))]) hl [0, 1, 2, 4, 5] rfl; rw [show nI ((xctA (xB (xFM σ) (σ 12) (σ 13) (σ 14) sn) i) + 1) = nI (xctA (xB (xFM σ) (σ 12) (σ 13) (σ 14) sn) (i + 1)) from by rw [xctA_s]; first | (rw [if_pos c_63] <;> rfl) | (rw [if_neg c_63] <;> rfl)] at h9; rw [show nI (xcb (xB (xFM σ) (σ 12) (σ 13) (σ 14) sn) h0 i ||| 2 ^ xl_r i h0) = nI (xcb (xB (xFM σ) (σ 12) (σ 13) (σ 14) sn) h0 (i + 1)) from by rw [xcb]; first | (rw [if_pos c_63] <;> rfl) | (rw [if_neg c_63] <;> rfl)] at h9; exact h9), hP, hS⟩ (by (try dsimp only); omega)
    · intro kc_60
      refine lv_iconst (v := nI 0) hx hb dX9_couldOf_24 (by decide) ?_
      refine lv_istore (lv' := [(6, .int (nI 0)), (5, .int (nI 1)), (4, .int (nI i)), (3, .int (nI (xcb (xB (xFM σ) (σ 12) (σ 13) (σ 14) sn) h0 i))), (2, .int (nI (xctA (xB (xFM σ) (σ 12) (σ 13) (σ 14) sn) i))), (0, .ref (α 0)), (1, .int (nI h0))]) hx hb dX9_couldOf_25 hl (by decide) rfl (fun ls hl => ?_)
      refine x_loopW (ι := Nat) (fun h H locs ls => (h ≤ 6) ∧ lv_has ls 7 [(6, .int (nI h)), (5, .int (xb (xall (fun h => (xB (xFM σ) (σ 12) (σ 13) (σ 14) sn h).testBit (xl_r i h) = true) h))), (4, .int (nI i)), (3, .int (nI (xcb (xB (xFM σ) (σ 12) (σ 13) (σ 14) sn) h0 i))), (2, .int (nI (xctA (xB (xFM σ) (σ 12) (σ 13) (σ 14) sn) i))), (0, .ref (α 0)), (1, .int (nI h0))] ∧ va_P D vwCl (xw 20 α (xM α K) (xst_lay τ9 (xl_r i))) H ∧ va_S (xw_R 20 α) s.heap H locs) (fun h => 6 - h) ?_ 0 ls ⟨Nat.zero_le _, (by have h9 := lv_sub (l' := [(6, .int (nI 0)), (5, .int (nI 1)), (4, .int (nI i)), (3, .int (nI (xcb (xB (xFM σ) (σ 12) (σ 13) (σ 14) sn) h0 i))), (2, .int (nI (xctA (xB (xFM σ) (σ 12) (σ 13) (σ 14) sn) i))), (0, .ref (α 0)), (1, .int (nI h0))]) hl [0, 1, 2, 3, 4, 5, 6] rfl; rw [show nI 1 = xb (xall (fun h => (xB (xFM σ) (σ 12) (σ 13) (σ 14) sn h).testBit (xl_r i h) = true) 0) from (xb_t (xall_of (fun j hj => absurd hj (Nat.not_lt_zero j)))).symm] at h9; exact h9), hP, hS⟩
      intro h H locs ls hinv ih_27
      obtain ⟨hh6, hl, hP, hS⟩ := hinv
      have hl : lv_has ls 7 [(6, .int (nI h)), (5, .int (xb (xall (fun h => (xB (xFM σ) (σ 12) (σ 13) (σ 14) sn h).testBit (xl_r i h) = true) h))), (4, .int (nI i)), (3, .int (nI (xcb (xB (xFM σ) (σ 12) (σ 13) (σ 14) sn) h0 i))), (2, .int (nI (xctA (xB (xFM σ) (σ 12) (σ 13) (σ 14) sn) i))), (0, .ref (α 0)), (1, .int (nI h0))] := hl
      have hP : va_P D vwCl (xw 20 α (xM α K) (xst_lay τ9 (xl_r i))) H := hP
      refine lv_iload hx hb dX9_couldOf_27 (lv_at hl 0 rfl) ?_
      refine lv_bipush (v := nI 6) hx hb dX9_couldOf_29 (by decide) ?_
      refine x_icmpN_ge (tgt := 60) S dX9_couldOf_31 (by decide) (by omega) (by omega) (fun c_31 => ?_) (fun c_31 => ?_)
      · have e9 : h = 6 := by omega
        exact kc_60 () _ _ ls ⟨(by have h9 := lv_sub (l' := [(5, .int (xb (xall (fun h => (xB (xFM σ) (σ 12) (σ 13) (σ 14) sn h).testBit (xl_r i h) = true) h))), (4, .int (nI i)), (3, .int (nI (xcb (xB (xFM σ) (σ 12) (σ 13) (σ 14) sn) h0 i))), (2, .int (nI (xctA (xB (xFM σ) (σ 12) (σ 13) (σ 14) sn) i))), (0, .ref (α 0)), (1, .int (nI h0))]) hl [1, 2, 3, 4, 5, 6] rfl; rw [show xb (xall (fun h => (xB (xFM σ) (σ 12) (σ 13) (σ 14) sn h).testBit (xl_r i h) = true) h) = xb (xsA (xB (xFM σ) (σ 12) (σ 13) (σ 14) sn) i) from (by first | (rw [e9]) | exact xb_iff ⟨fun q => absurd q c_36, fun q => xall_of (fun j hj => xall_to q j (by omega))⟩)] at h9; exact h9), hP, hS⟩
      · have hw9 := xl_r_lt (k := i) (h := h) (by omega) (by omega)
        refine lv_iload hx hb dX9_couldOf_34 (lv_at hl 1 rfl) ?_
        refine x_if_eqB (tgt := 60) S dX9_couldOf_36 (by decide) (fun c_36 => ?_) (fun c_36 => ?_)
        · exact kc_60 () _ _ ls ⟨(by have h9 := lv_sub (l' := [(5, .int (xb (xall (fun h => (xB (xFM σ) (σ 12) (σ 13) (σ 14) sn h).testBit (xl_r i h) = true) h))), (4, .int (nI i)), (3, .int (nI (xcb (xB (xFM σ) (σ 12) (σ 13) (σ 14) sn) h0 i))), (2, .int (nI (xctA (xB (xFM σ) (σ 12) (σ 13) (σ 14) sn) i))), (0, .ref (α 0)), (1, .int (nI h0))]) hl [1, 2, 3, 4, 5, 6] rfl; rw [show xb (xall (fun h => (xB (xFM σ) (σ 12) (σ 13) (σ 14) sn h).testBit (xl_r i h) = true) h) = xb (xsA (xB (xFM σ) (σ 12) (σ 13) (σ 14) sn) i) from (by first | (rw [e9]) | exact xb_iff ⟨fun q => absurd q c_36, fun q => xall_of (fun j hj => xall_to q j (by omega))⟩)] at h9; exact h9), hP, hS⟩
        · refine lv_aload_n hx hb dX9_couldOf_39 rfl (lv_at hl 5 rfl) ?_
          refine lv_iload hx hb dX9_couldOf_40 (lv_at hl 0 rfl) ?_
          refine lv_aload_n hx hb dX9_couldOf_42 rfl (lv_at hl 5 rfl) ?_
          refine x_get S (fun w h => List.mem_cons_of_mem _ (List.mem_append_right _ h)) hK hP 0 (by omega) rfl rfl 9 (by decide) (List.mem_of_getElem? (i := 1) rfl) rfl dX9_couldOf_43 ?_
          refine lv_iload hx hb dX9_couldOf_46 (lv_at hl 0 rfl) ?_
          refine x_iald S hK hP 8 (by omega) rfl (by first | assumption | omega) (by omega) dX9_couldOf_48 ?_
          refine x_top S (y := nI (xl_r i h)) (xlay_8 _ _ (by omega)) ?_
          refine x_cVRi (As := [.int (nI h), .int (nI (xl_r i h))]) (rest := []) S hK hP 0 (by omega) rfl rfl (c_X9_isSeen l (xst_lay τ9 (xl_r i)) h (xl_r i h) sn  (by rw [hm8.2 14 (by decide)]; exact hss) (by first | assumption | omega) (by rw [e12]; exact hs1) (by rw [e13]; exact hs2) (by first | assumption | omega) (by first | assumption | omega)) (x_cwV (n0 := 2) (cq := (RX9, TX9, 24)) S gX9_couldOf_X9_isSeen rfl (by decide +kernel) ⟨Nat.le_of_ble_eq_true rfl, Nat.le_of_ble_eq_true rfl⟩) rfl hl.1 rfl (Nat.le_of_ble_eq_true rfl) dX9_couldOf_49 ⟨Nat.le_refl _, Nat.le_refl _⟩ (fun r_49 hr_49 => ?_)
          subst hr_49
          refine x_top S (y := xb (xall (fun h => (xB (xFM σ) (σ 12) (σ 13) (σ 14) sn h).testBit (xl_r i h) = true) (h + 1))) (by rw [eF, e12, e13, e14]; exact xb_iff (xall_1 c_36)) ?_
          refine lv_istore (lv' := [(5, .int (xb (xall (fun h => (xB (xFM σ) (σ 12) (σ 13) (σ 14) sn h).testBit (xl_r i h) = true) (h + 1)))), (6, .int (nI h)), (4, .int (nI i)), (3, .int (nI (xcb (xB (xFM σ) (σ 12) (σ 13) (σ 14) sn) h0 i))), (2, .int (nI (xctA (xB (xFM σ) (σ 12) (σ 13) (σ 14) sn) i))), (0, .ref (α 0)), (1, .int (nI h0))]) hx hb dX9_couldOf_52 hl (by decide) rfl (fun ls hl => ?_)
          refine lv_iinc (v := nI (h + 1)) (lv' := [(6, .int (nI (h + 1))), (5, .int (xb (xall (fun h => (xB (xFM σ) (σ 12) (σ 13) (σ 14) sn h).testBit (xl_r i h) = true) (h + 1)))), (4, .int (nI i)), (3, .int (nI (xcb (xB (xFM σ) (σ 12) (σ 13) (σ 14) sn) h0 i))), (2, .int (nI (xctA (xB (xFM σ) (σ 12) (σ 13) (σ 14) sn) i))), (0, .ref (α 0)), (1, .int (nI h0))]) hx hb dX9_couldOf_54 hl (k := 1) rfl (nI_add h 1) (by decide) rfl (fun ls hl => ?_)
          refine lv_goto (tgt := 27) hx hb dX9_couldOf_57 (by decide) ?_
          exact ih_27 (h + 1) H locs ls ⟨(by omega), lv_sub hl [0, 1, 2, 3, 4, 5, 6] rfl, hP, hS⟩ (by (try dsimp only); omega)
set_option maxHeartbeats 4000000 in
set_option maxRecDepth 100000 in
theorem c_X9_could (l : Launch) {D : va_G} {K : Nat → ClassId} {α : Nat → Nat} (σ : Nat → Nat → Int32) (hI : xw_I 20 α) (x : Int32)  (hC : xIM σ) : Met l yX9_could wsX9_could (xrm 3) (va_Pc [.ref (α 0), .int x] (xPre D K 20 α (xM α K) σ)) (xQi D 20 α (xM α K) (fun r τ => r = xpm_could (xB (xFM σ) (σ 12) (σ 13) (σ 14) (xsM σ)) x ∧ xMs σ τ)) 0 0 (xw_R 20 α) := by
  refine Met.ofW (cc := cX9_could) (maxL := 2) (ret := (some .int)) (by decide) rfl ?_
  intro p e s m args below meth c s₁ B hml hv
  obtain ⟨rfl, hK, hP⟩ := hv
  have S : CallFix p m c cX9_could 2 s _ wsX9_could RX9 := ⟨B.exec, B.bytes, hml, findClass_of_methodNamed B.named, atoms_spec (ws := wsX9_could) B.pre⟩
  have hx := S.1
  have hb := S.2.1
  have hr := B.returns
  have hlocks := B.notSynchronized
  have hS : va_S (xw_R 20 α) s.heap s.heap [] := va_S.rf
  have hl := lv_entry ([.ref (α 0), .int x]) (n := 2) (Nat.le_of_ble_eq_true rfl)
  rw [lg_entry_eq]
  generalize (lg_sl ([.ref (α 0), .int x]) ++ List.replicate (2 - (lg_sl ([.ref (α 0), .int x])).length) Slot.unset).toArray = ls at hl ⊢
  have hl : lv_has ls 2 [(0, .ref (α 0)), (1, .int x)] := hl
  have hPP := hP
  
  refine lv_iload_n hx hb dX9_could_0 rfl (lv_at hl 1 rfl) ?_
  refine lv_iconst (v := (-1)) hx hb dX9_could_1 (by decide) ?_
  refine lv_icmp_eq (tgt := 12) hx hb dX9_could_2 (by decide) (fun c_2 => ?_) (fun c_2 => ?_)
  · subst c_2
    refine lv_aload_n hx hb dX9_could_12 rfl (lv_at hl 0 rfl) ?_
    refine lv_iload_n hx hb dX9_could_13 rfl (lv_at hl 1 rfl) ?_
    refine x_cVWi (As := [.int (-1 : Int32)]) (rest := []) S hK hP hS (fun _ h => h) 0 (by omega) rfl rfl (c_X9_couldOf l σ hI   (by first | assumption | omega)) (x_cwV (n0 := 1) (cq := (RX9, TX9, 24)) S gX9_could_X9_couldOf rfl (by decide +kernel) ⟨Nat.le_of_ble_eq_true rfl, Nat.le_of_ble_eq_true rfl⟩) rfl hl.1 rfl (Nat.le_of_ble_eq_true rfl) dX9_could_14 ⟨Nat.le_refl _, Nat.le_refl _⟩ (fun r_14 τ_14 H locs hr_14 hP hk_14 hS => ?_)
    obtain ⟨hr_14, hms_14⟩ := hr_14
    subst hr_14
    refine lv_goto (tgt := 22) hx hb dX9_could_17 (by decide) ?_
    exact x_iretW S hlocks hP hS hr rfl (⟨by rw [xpm_could, if_pos rfl], hms_14⟩) dX9_could_22
  · refine lv_iload_n hx hb dX9_could_5 rfl (lv_at hl 1 rfl) ?_
    refine x_cSi (As := [.int x]) (rest := []) S (c_X9_isSix l x  ) (x_cwS (n0 := 1) S gX9_could_X9_isSix rfl (by decide +kernel) ⟨Nat.le_of_ble_eq_true rfl, Nat.le_of_ble_eq_true rfl⟩) rfl hl.1 rfl (Nat.le_of_ble_eq_true rfl) dX9_could_6 ⟨Nat.le_refl _, Nat.le_refl _⟩ (fun r_6 hr_6 => ?_)
    subst hr_6
    refine x_if_eqB (tgt := 20) S dX9_could_9 (by decide) (fun c_9 => ?_) (fun c_9 => ?_)
    · refine lv_bipush (v := (-2)) hx hb dX9_could_20 (by decide) ?_
      exact x_iretW S hlocks hP hS hr rfl (⟨by rw [xpm_could, if_neg c_2, if_neg c_9], xMs_rf _⟩) dX9_could_22
    · obtain ⟨h, hh, rfl⟩ := xin_of c_9 (by omega)
      refine lv_aload_n hx hb dX9_could_12 rfl (lv_at hl 0 rfl) ?_
      refine lv_iload_n hx hb dX9_could_13 rfl (lv_at hl 1 rfl) ?_
      refine x_cVWi (As := [.int (nI h)]) (rest := []) S hK hP hS (fun _ h => h) 0 (by omega) rfl rfl (c_X9_couldOfH l σ hI h  (by first | assumption | omega) (by first | assumption | omega)) (x_cwV (n0 := 1) (cq := (RX9, TX9, 24)) S gX9_could_X9_couldOf rfl (by decide +kernel) ⟨Nat.le_of_ble_eq_true rfl, Nat.le_of_ble_eq_true rfl⟩) rfl hl.1 rfl (Nat.le_of_ble_eq_true rfl) dX9_could_14 ⟨Nat.le_refl _, Nat.le_refl _⟩ (fun r_14 τ_14 H locs hr_14 hP hk_14 hS => ?_)
      obtain ⟨hr_14, hms_14⟩ := hr_14
      subst hr_14
      refine lv_goto (tgt := 22) hx hb dX9_could_17 (by decide) ?_
      exact x_iretW S hlocks hP hS hr rfl (⟨by rw [xpm_could, if_neg c_2, if_pos (xin_nI (by omega) (by omega)), cN_nI (by omega)], hms_14⟩) dX9_could_22

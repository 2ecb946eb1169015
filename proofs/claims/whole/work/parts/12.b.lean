set_option maxHeartbeats 4000000 in
set_option maxRecDepth 100000 in
theorem c_X1_nameOf (l : Launch) {D : va_G} {K : Nat → ClassId} {α : Nat → Nat} (σ : Nat → Nat → Int32) (h : Nat) (y : Nat) (Y : Nat)  (hY : xY (σ 10) Y) (hY12 : Y ≤ 12) (hy : y < Y) (hh : h < 6) : Met l yX1_nameOf wsX1_nameOf (xrm 0) (va_Pc [.ref (α 9), .int (nI h), .int (nI y)] (xPre D K 42 α (xC α K) σ)) (vp_Si (fun r => r = nI (xnm (σ 10) y h))) 0 0 (fun _ => False) := by
  refine Met.ofW (cc := cX1_nameOf) (maxL := 3) (ret := (some .int)) (by decide) rfl ?_
  intro p e s m args below meth c s₁ B hml hv
  obtain ⟨rfl, hK, hP⟩ := hv
  have S : CallFix p m c cX1_nameOf 3 s _ wsX1_nameOf RX1 := ⟨B.exec, B.bytes, hml, findClass_of_methodNamed B.named, atoms_spec (ws := wsX1_nameOf) B.pre⟩
  have hx := S.1
  have hb := S.2.1
  have hr := B.returns
  have hlocks := B.notSynchronized
  have hl := lv_entry ([.ref (α 9), .int (nI h), .int (nI y)]) (n := 3) (Nat.le_of_ble_eq_true rfl)
  rw [lg_entry_eq]
  generalize (lg_sl ([.ref (α 9), .int (nI h), .int (nI y)]) ++ List.replicate (3 - (lg_sl ([.ref (α 9), .int (nI h), .int (nI y)])).length) Slot.unset).toArray = ls at hl ⊢
  have hl : lv_has ls 3 [(0, .ref (α 9)), (1, .int (nI h)), (2, .int (nI y))] := hl
  have hPP := hP
  refine lv_aload_n hx hb dX1_nameOf_0 rfl (lv_at hl 0 rfl) ?_
  refine x_get S (fun w h => List.mem_cons_of_mem _ (List.mem_append_right _ h)) hK hP 9 (by omega) rfl rfl 0 (by decide) (List.mem_of_getElem? (i := 1) rfl) rfl dX1_nameOf_1 ?_
  refine lv_iload_n hx hb dX1_nameOf_4 rfl (lv_at hl 2 rfl) ?_
  refine lv_bipush (v := nI 7) hx hb dX1_nameOf_5 (by decide) ?_
  refine x_imulN S dX1_nameOf_7 ?_
  refine lv_iload_n hx hb dX1_nameOf_8 rfl (lv_at hl 1 rfl) ?_
  refine x_iaddN S dX1_nameOf_9 ?_
  refine x_iald S hK hP 10 (by omega) rfl (by first | assumption | omega) (by omega) dX1_nameOf_10 ?_
  refine lv_bipush (v := nI 48) hx hb dX1_nameOf_11 (by decide) ?_
  refine lv_isub hx hb dX1_nameOf_13 ?_
  exact x_iretR S hlocks hr rfl ((hY y hy h hh).2) dX1_nameOf_14
set_option maxHeartbeats 4000000 in
set_option maxRecDepth 100000 in
theorem c_X7_earnedBy (l : Launch) {D : va_G} {K : Nat → ClassId} {α : Nat → Nat} (σ : Nat → Nat → Int32) (h : Nat) (k : Nat) (Y : Nat)  (hY : xY (σ 10) Y) (hY12 : Y ≤ 12) (hh : h < 6) (hk : k ≤ Y) : Met l yX7_earnedBy wsX7_earnedBy (xrm 2) (va_Pc [.ref (α 11), .int (nI h), .int (nI k)] (xPre D K 42 α (xC α K) σ)) (vp_Si (fun r => r = xs_purse (xFC σ) (σ 10) h k)) 0 0 (fun _ => False) := by
  refine Met.ofW (cc := cX7_earnedBy) (maxL := 5) (ret := (some .int)) (by decide) rfl ?_
  intro p e s m args below meth c s₁ B hml hv
  obtain ⟨rfl, hK, hP⟩ := hv
  have S : CallFix p m c cX7_earnedBy 5 s _ wsX7_earnedBy RX7 := ⟨B.exec, B.bytes, hml, findClass_of_methodNamed B.named, atoms_spec (ws := wsX7_earnedBy) B.pre⟩
  have hx := S.1
  have hb := S.2.1
  have hr := B.returns
  have hlocks := B.notSynchronized
  have hl := lv_entry ([.ref (α 11), .int (nI h), .int (nI k)]) (n := 5) (Nat.le_of_ble_eq_true rfl)
  rw [lg_entry_eq]
  generalize (lg_sl ([.ref (α 11), .int (nI h), .int (nI k)]) ++ List.replicate (5 - (lg_sl ([.ref (α 11), .int (nI h), .int (nI k)])).length) Slot.unset).toArray = ls at hl ⊢
  have hl : lv_has ls 5 [(0, .ref (α 11)), (1, .int (nI h)), (2, .int (nI k))] := hl
  have hPP := hP
  refine lv_iconst (v := nI 0) hx hb dX7_earnedBy_0 (by decide) ?_
  refine lv_istore_n (lv' := [(3, .int (nI 0)), (0, .ref (α 11)), (1, .int (nI h)), (2, .int (nI k))]) hx hb dX7_earnedBy_1 rfl hl (by decide) rfl (fun ls hl => ?_)
  refine lv_iconst (v := nI 0) hx hb dX7_earnedBy_2 (by decide) ?_
  refine lv_istore (lv' := [(4, .int (nI 0)), (3, .int (nI 0)), (0, .ref (α 11)), (1, .int (nI h)), (2, .int (nI k))]) hx hb dX7_earnedBy_3 hl (by decide) rfl (fun ls hl => ?_)
  refine x_loop (ι := Nat) (fun i ls => (i ≤ k) ∧ lv_has ls 5 [(4, .int (nI i)), (3, .int (xsum (fun y => xs_earn (xFC σ) h (xnm (σ 10) y h)) i)), (0, .ref (α 11)), (1, .int (nI h)), (2, .int (nI k))]) (fun i => k - i) ?_ 0 ls ⟨Nat.zero_le _, lv_sub hl [0, 1, 2, 3, 4] rfl⟩
  intro i ls hinv ih_5
  obtain ⟨hi, hl⟩ := hinv
  have hl : lv_has ls 5 [(4, .int (nI i)), (3, .int (xsum (fun y => xs_earn (xFC σ) h (xnm (σ 10) y h)) i)), (0, .ref (α 11)), (1, .int (nI h)), (2, .int (nI k))] := hl
  refine lv_iload hx hb dX7_earnedBy_5 (lv_at hl 0 rfl) ?_
  refine lv_iload_n hx hb dX7_earnedBy_7 rfl (lv_at hl 4 rfl) ?_
  refine x_icmpN_ge (tgt := 38) S dX7_earnedBy_8 (by decide) (by omega) (by omega) (fun c_8 => ?_) (fun c_8 => ?_)
  · have e9 : i = k := by omega
    subst e9
    refine lv_iload_n hx hb dX7_earnedBy_38 rfl (lv_at hl 1 rfl) ?_
    exact x_iretR S hlocks hr rfl (rfl) dX7_earnedBy_39
  · refine lv_iload_n hx hb dX7_earnedBy_11 rfl (lv_at hl 1 rfl) ?_
    refine lv_aload_n hx hb dX7_earnedBy_12 rfl (lv_at hl 2 rfl) ?_
    refine x_get S (fun w h => List.mem_cons_of_mem _ (List.mem_append_left _ (List.mem_append_left _ (List.mem_append_right _ h)))) hK hP 11 (by omega) rfl rfl 0 (by decide) (List.mem_of_getElem? (i := 1) rfl) rfl dX7_earnedBy_13 ?_
    refine lv_iload_n hx hb dX7_earnedBy_16 rfl (lv_at hl 3 rfl) ?_
    refine lv_aload_n hx hb dX7_earnedBy_17 rfl (lv_at hl 2 rfl) ?_
    refine x_get S (fun w h => List.mem_cons_of_mem _ (List.mem_append_left _ (List.mem_append_left _ (List.mem_append_right _ h)))) hK hP 11 (by omega) rfl rfl 1 (by decide) (List.mem_of_getElem? (i := 2) rfl) rfl dX7_earnedBy_18 ?_
    refine lv_iload_n hx hb dX7_earnedBy_21 rfl (lv_at hl 3 rfl) ?_
    refine lv_iload hx hb dX7_earnedBy_22 (lv_at hl 0 rfl) ?_
    refine x_cVRi (As := [.int (nI h), .int (nI i)]) (rest := [.int (nI h), .ref (α 1), .int (xsum (fun y => xs_earn (xFC σ) h (xnm (σ 10) y h)) i)]) S hK hP 9 (by omega) rfl rfl (c_X1_nameOf l σ h i Y  (by first | assumption | omega) (by first | assumption | omega) (by first | assumption | omega) (by first | assumption | omega)) (x_cwV (n0 := 2) (cq := (RX1, TX1, 4)) S gX7_earnedBy_X1_nameOf rfl (by decide +kernel) ⟨Nat.le_of_ble_eq_true rfl, Nat.le_of_ble_eq_true rfl⟩) rfl hl.1 rfl (Nat.le_of_ble_eq_true rfl) dX7_earnedBy_24 ⟨Nat.le_refl _, Nat.le_refl _⟩ (fun r_24 hr_24 => ?_)
    subst hr_24
    refine x_cVRi (As := [.int (nI h), .int (nI (xnm (σ 10) i h))]) (rest := [.int (xsum (fun y => xs_earn (xFC σ) h (xnm (σ 10) y h)) i)]) S hK hP 1 (by omega) rfl rfl (c_X4_earning l σ h (xnm (σ 10) i h)  (by first | assumption | omega) ((hY _ (by omega) _ (by omega)).1)) (x_cwV (n0 := 2) (cq := (RX4, TX4, 2)) S gX7_earnedBy_X4_earning rfl (by decide +kernel) ⟨Nat.le_of_ble_eq_true rfl, Nat.le_of_ble_eq_true rfl⟩) rfl hl.1 rfl (Nat.le_of_ble_eq_true rfl) dX7_earnedBy_27 ⟨Nat.le_refl _, Nat.le_refl _⟩ (fun r_27 hr_27 => ?_)
    subst hr_27
    refine lv_iadd hx hb dX7_earnedBy_30 ?_
    refine lv_istore_n (lv' := [(3, .int ((xsum (fun y => xs_earn (xFC σ) h (xnm (σ 10) y h)) i) + (xs_earn (xFC σ) h (xnm (σ 10) i h)))), (4, .int (nI i)), (0, .ref (α 11)), (1, .int (nI h)), (2, .int (nI k))]) hx hb dX7_earnedBy_31 rfl hl (by decide) rfl (fun ls hl => ?_)
    refine lv_iinc (v := nI (i + 1)) (lv' := [(4, .int (nI (i + 1))), (3, .int ((xsum (fun y => xs_earn (xFC σ) h (xnm (σ 10) y h)) i) + (xs_earn (xFC σ) h (xnm (σ 10) i h)))), (0, .ref (α 11)), (1, .int (nI h)), (2, .int (nI k))]) hx hb dX7_earnedBy_32 hl (k := 1) rfl (nI_add i 1) (by decide) rfl (fun ls hl => ?_)
    refine lv_goto (tgt := 5) hx hb dX7_earnedBy_35 (by decide) ?_
    exact ih_5 (i + 1) ls ⟨(by omega), lv_sub hl [0, 1, 2, 3, 4] rfl⟩ (by (try dsimp only); omega)
set_option maxHeartbeats 4000000 in
set_option maxRecDepth 100000 in
theorem c_X7_bearerOf (l : Launch) {D : va_G} {K : Nat → ClassId} {α : Nat → Nat} (σ : Nat → Nat → Int32) (n : Nat) (y : Nat) (Y : Nat)  (hY : xY (σ 10) Y) (hY12 : Y ≤ 12) (hy : y < Y) (hn : n < 6) : Met l yX7_bearerOf wsX7_bearerOf (xrm 1) (va_Pc [.ref (α 11), .int (nI n), .int (nI y)] (xPre D K 42 α (xC α K) σ)) (vp_Si (fun r => r = nI (xbear (σ 10) y n))) 0 0 (fun _ => False) := by
  refine Met.ofW (cc := cX7_bearerOf) (maxL := 4) (ret := (some .int)) (by decide) rfl ?_
  intro p e s m args below meth c s₁ B hml hv
  obtain ⟨rfl, hK, hP⟩ := hv
  have S : CallFix p m c cX7_bearerOf 4 s _ wsX7_bearerOf RX7 := ⟨B.exec, B.bytes, hml, findClass_of_methodNamed B.named, atoms_spec (ws := wsX7_bearerOf) B.pre⟩
  have hx := S.1
  have hb := S.2.1
  have hr := B.returns
  have hlocks := B.notSynchronized
  have hl := lv_entry ([.ref (α 11), .int (nI n), .int (nI y)]) (n := 4) (Nat.le_of_ble_eq_true rfl)
  rw [lg_entry_eq]
  generalize (lg_sl ([.ref (α 11), .int (nI n), .int (nI y)]) ++ List.replicate (4 - (lg_sl ([.ref (α 11), .int (nI n), .int (nI y)])).length) Slot.unset).toArray = ls at hl ⊢
  have hl : lv_has ls 4 [(0, .ref (α 11)), (1, .int (nI n)), (2, .int (nI y))] := hl
  have hPP := hP
  refine lv_iconst (v := nI 0) hx hb dX7_bearerOf_0 (by decide) ?_
  refine lv_istore_n (lv' := [(3, .int (nI 0)), (0, .ref (α 11)), (1, .int (nI n)), (2, .int (nI y))]) hx hb dX7_bearerOf_1 rfl hl (by decide) rfl (fun ls hl => ?_)
  refine x_loop (ι := Nat) (fun i ls => (i ≤ 5) ∧ (∀ j, j < i → ¬ xnm (σ 10) y j = n) ∧ lv_has ls 4 [(3, .int (nI i)), (0, .ref (α 11)), (1, .int (nI n)), (2, .int (nI y))]) (fun i => 5 - i) ?_ 0 ls ⟨Nat.zero_le _, fun j hj => absurd hj (Nat.not_lt_zero j), lv_sub hl [0, 1, 2, 3] rfl⟩
  intro i ls hinv ih_2
  obtain ⟨hi, hno, hl⟩ := hinv
  have hl : lv_has ls 4 [(3, .int (nI i)), (0, .ref (α 11)), (1, .int (nI n)), (2, .int (nI y))] := hl
  refine lv_iload_n hx hb dX7_bearerOf_2 rfl (lv_at hl 0 rfl) ?_
  refine lv_iconst (v := nI 5) hx hb dX7_bearerOf_3 (by decide) ?_
  refine x_icmpN_ge (tgt := 28) S dX7_bearerOf_4 (by decide) (by omega) (by omega) (fun c_4 => ?_) (fun c_4 => ?_)
  · refine lv_iconst (v := nI 5) hx hb dX7_bearerOf_28 (by decide) ?_
    exact x_iretR S hlocks hr rfl (by rw [xbear, xfst_no (fun j hj => hno j (by omega))]) dX7_bearerOf_29
  · refine lv_aload_n hx hb dX7_bearerOf_7 rfl (lv_at hl 1 rfl) ?_
    refine x_get S (fun w h => List.mem_cons_of_mem _ (List.mem_append_left _ (List.mem_append_right _ h))) hK hP 11 (by omega) rfl rfl 1 (by decide) (List.mem_of_getElem? (i := 1) rfl) rfl dX7_bearerOf_8 ?_
    refine lv_iload_n hx hb dX7_bearerOf_11 rfl (lv_at hl 0 rfl) ?_
    refine lv_iload_n hx hb dX7_bearerOf_12 rfl (lv_at hl 3 rfl) ?_
    refine x_cVRi (As := [.int (nI i), .int (nI y)]) (rest := []) S hK hP 9 (by omega) rfl rfl (c_X1_nameOf l σ i y Y  (by first | assumption | omega) (by first | assumption | omega) (by first | assumption | omega) (by first | assumption | omega)) (x_cwV (n0 := 2) (cq := (RX1, TX1, 4)) S gX7_bearerOf_X1_nameOf rfl (by decide +kernel) ⟨Nat.le_of_ble_eq_true rfl, Nat.le_of_ble_eq_true rfl⟩) rfl hl.1 rfl (Nat.le_of_ble_eq_true rfl) dX7_bearerOf_13 ⟨Nat.le_refl _, Nat.le_refl _⟩ (fun r_13 hr_13 => ?_)
    subst hr_13
    have hb9 := (hY y hy i (by omega)).1
    refine lv_iload_n hx hb dX7_bearerOf_16 rfl (lv_at hl 2 rfl) ?_
    refine x_icmpN_ne (tgt := 22) S dX7_bearerOf_17 (by decide) (by omega) (by omega) (fun c_17 => ?_) (fun c_17 => ?_)
    · refine lv_iinc (v := nI (i + 1)) (lv' := [(3, .int (nI (i + 1))), (0, .ref (α 11)), (1, .int (nI n)), (2, .int (nI y))]) hx hb dX7_bearerOf_22 hl (k := 0) rfl (nI_add i 1) (by decide) rfl (fun ls hl => ?_)
      refine lv_goto (tgt := 2) hx hb dX7_bearerOf_25 (by decide) ?_
      exact ih_2 (i + 1) ls ⟨(by omega), lt_s hno c_17, lv_sub hl [0, 1, 2, 3] rfl⟩ (by (try dsimp only); omega)
    · refine lv_iload_n hx hb dX7_bearerOf_20 rfl (lv_at hl 0 rfl) ?_
      exact x_iretR S hlocks hr rfl (by rw [xbear, xfst_at hno c_17 (by omega)]) dX7_bearerOf_21
set_option maxHeartbeats 4000000 in
set_option maxRecDepth 100000 in
theorem c_X7_shameOf (l : Launch) {D : va_G} {K : Nat → ClassId} {α : Nat → Nat} (σ : Nat → Nat → Int32) (n : Nat) (k : Nat) (Y : Nat)  (hY : xY (σ 10) Y) (hY12 : Y ≤ 12) (hn : n < 6) (hk : k ≤ Y) : Met l yX7_shameOf wsX7_shameOf (xrm 2) (va_Pc [.ref (α 11), .int (nI n), .int (nI k)] (xPre D K 42 α (xC α K) σ)) (vp_Si (fun r => r = xs_shame (xFC σ) (σ 10) n k)) 0 0 (fun _ => False) := by
  refine Met.ofW (cc := cX7_shameOf) (maxL := 5) (ret := (some .int)) (by decide) rfl ?_
  intro p e s m args below meth c s₁ B hml hv
  obtain ⟨rfl, hK, hP⟩ := hv
  have S : CallFix p m c cX7_shameOf 5 s _ wsX7_shameOf RX7 := ⟨B.exec, B.bytes, hml, findClass_of_methodNamed B.named, atoms_spec (ws := wsX7_shameOf) B.pre⟩
  have hx := S.1
  have hb := S.2.1
  have hr := B.returns
  have hlocks := B.notSynchronized
  have hl := lv_entry ([.ref (α 11), .int (nI n), .int (nI k)]) (n := 5) (Nat.le_of_ble_eq_true rfl)
  rw [lg_entry_eq]
  generalize (lg_sl ([.ref (α 11), .int (nI n), .int (nI k)]) ++ List.replicate (5 - (lg_sl ([.ref (α 11), .int (nI n), .int (nI k)])).length) Slot.unset).toArray = ls at hl ⊢
  have hl : lv_has ls 5 [(0, .ref (α 11)), (1, .int (nI n)), (2, .int (nI k))] := hl
  have hPP := hP
  refine lv_iconst (v := nI 0) hx hb dX7_shameOf_0 (by decide) ?_
  refine lv_istore_n (lv' := [(3, .int (nI 0)), (0, .ref (α 11)), (1, .int (nI n)), (2, .int (nI k))]) hx hb dX7_shameOf_1 rfl hl (by decide) rfl (fun ls hl => ?_)
  refine lv_iconst (v := nI 0) hx hb dX7_shameOf_2 (by decide) ?_
  refine lv_istore (lv' := [(4, .int (nI 0)), (3, .int (nI 0)), (0, .ref (α 11)), (1, .int (nI n)), (2, .int (nI k))]) hx hb dX7_shameOf_3 hl (by decide) rfl (fun ls hl => ?_)
  refine x_loop (ι := Nat) (fun i ls => (i ≤ k) ∧ lv_has ls 5 [(4, .int (nI i)), (3, .int (xsum (fun y => if xs_fit (xFC σ) (xbear (σ 10) y n) n then 0 else 1) i)), (0, .ref (α 11)), (1, .int (nI n)), (2, .int (nI k))]) (fun i => k - i) ?_ 0 ls ⟨Nat.zero_le _, lv_sub hl [0, 1, 2, 3, 4] rfl⟩
  intro i ls hinv ih_5
  obtain ⟨hi, hl⟩ := hinv
  have hl : lv_has ls 5 [(4, .int (nI i)), (3, .int (xsum (fun y => if xs_fit (xFC σ) (xbear (σ 10) y n) n then 0 else 1) i)), (0, .ref (α 11)), (1, .int (nI n)), (2, .int (nI k))] := hl
  refine lv_iload hx hb dX7_shameOf_5 (lv_at hl 0 rfl) ?_
  refine lv_iload_n hx hb dX7_shameOf_7 rfl (lv_at hl 4 rfl) ?_
  refine x_icmpN_ge (tgt := 38) S dX7_shameOf_8 (by decide) (by omega) (by omega) (fun c_8 => ?_) (fun c_8 => ?_)
  · have e9 : i = k := by omega
    subst e9
    refine lv_iload_n hx hb dX7_shameOf_38 rfl (lv_at hl 1 rfl) ?_
    exact x_iretR S hlocks hr rfl (rfl) dX7_shameOf_39
  · refine lv_aload_n hx hb dX7_shameOf_11 rfl (lv_at hl 2 rfl) ?_
    refine x_get S (fun w h => List.mem_cons_of_mem _ (List.mem_append_left _ (List.mem_append_left _ (List.mem_append_right _ h)))) hK hP 11 (by omega) rfl rfl 0 (by decide) (List.mem_of_getElem? (i := 1) rfl) rfl dX7_shameOf_12 ?_
    refine lv_aload_n hx hb dX7_shameOf_15 rfl (lv_at hl 2 rfl) ?_
    refine lv_iload_n hx hb dX7_shameOf_16 rfl (lv_at hl 3 rfl) ?_
    refine lv_iload hx hb dX7_shameOf_17 (lv_at hl 0 rfl) ?_
    refine x_cVRi (As := [.int (nI n), .int (nI i)]) (rest := [.ref (α 1)]) S hK hP 11 (by omega) rfl rfl (c_X7_bearerOf l σ n i Y  (by first | assumption | omega) (by first | assumption | omega) (by first | assumption | omega) (by first | assumption | omega)) (x_cwV (n0 := 2) (cq := (RX7, TX7, 2)) S gX7_shameOf_X7_bearerOf rfl (by decide +kernel) ⟨Nat.le_of_ble_eq_true rfl, Nat.le_of_ble_eq_true rfl⟩) rfl hl.1 rfl (Nat.le_of_ble_eq_true rfl) dX7_shameOf_19 ⟨Nat.le_refl _, Nat.le_refl _⟩ (fun r_19 hr_19 => ?_)
    subst hr_19
    refine lv_iload_n hx hb dX7_shameOf_22 rfl (lv_at hl 3 rfl) ?_
    refine x_cVRi (As := [.int (nI (xbear (σ 10) i n)), .int (nI n)]) (rest := []) S hK hP 1 (by omega) rfl rfl (c_X4_suits l σ (xbear (σ 10) i n) n  (xbear_lt _ _ _) (by first | assumption | omega)) (x_cwV (n0 := 2) (cq := (RX4, TX4, 2)) S gX7_shameOf_X4_suits rfl (by decide +kernel) ⟨Nat.le_of_ble_eq_true rfl, Nat.le_of_ble_eq_true rfl⟩) rfl hl.1 rfl (Nat.le_of_ble_eq_true rfl) dX7_shameOf_23 ⟨Nat.le_refl _, Nat.le_refl _⟩ (fun r_23 hr_23 => ?_)
    subst hr_23
    refine x_if_neB (tgt := 32) S dX7_shameOf_26 (by decide) (fun c_26 => ?_) (fun c_26 => ?_)
    · refine lv_iinc (v := nI (i + 1)) (lv' := [(4, .int (nI (i + 1))), (3, .int (xsum (fun y => if xs_fit (xFC σ) (xbear (σ 10) y n) n then 0 else 1) i)), (0, .ref (α 11)), (1, .int (nI n)), (2, .int (nI k))]) hx hb dX7_shameOf_32 hl (k := 0) rfl (nI_add i 1) (by decide) rfl (fun ls hl => ?_)
      refine lv_goto (tgt := 5) hx hb dX7_shameOf_35 (by decide) ?_
      exact ih_5 (i + 1) ls ⟨(by omega), (by have h9 := lv_sub (l' := [(4, .int (nI (i + 1))), (3, .int (xsum (fun y => if xs_fit (xFC σ) (xbear (σ 10) y n) n then 0 else 1) i)), (0, .ref (α 11)), (1, .int (nI n)), (2, .int (nI k))]) hl [0, 1, 2, 3, 4] rfl; rw [show xsum (fun y => if xs_fit (xFC σ) (xbear (σ 10) y n) n then 0 else 1) i = xsum (fun y => if xs_fit (xFC σ) (xbear (σ 10) y n) n then 0 else 1) (i + 1) from by rw [xsum_s, if_pos c_26, xi0]] at h9; exact h9)⟩ (by (try dsimp only); omega)
    · refine lv_iinc (v := (xsum (fun y => if xs_fit (xFC σ) (xbear (σ 10) y n) n then 0 else 1) i) + 1) (lv' := [(3, .int ((xsum (fun y => if xs_fit (xFC σ) (xbear (σ 10) y n) n then 0 else 1) i) + 1)), (4, .int (nI i)), (0, .ref (α 11)), (1, .int (nI n)), (2, .int (nI k))]) hx hb dX7_shameOf_29 hl (k := 1) rfl (rfl) (by decide) rfl (fun ls hl => ?_)
      refine lv_iinc (v := nI (i + 1)) (lv' := [(4, .int (nI (i + 1))), (3, .int ((xsum (fun y => if xs_fit (xFC σ) (xbear (σ 10) y n) n then 0 else 1) i) + 1)), (0, .ref (α 11)), (1, .int (nI n)), (2, .int (nI k))]) hx hb dX7_shameOf_32 hl (k := 1) rfl (nI_add i 1) (by decide) rfl (fun ls hl => ?_)
      refine lv_goto (tgt := 5) hx hb dX7_shameOf_35 (by decide) ?_
      exact ih_5 (i + 1) ls ⟨(by omega), (by have h9 := lv_sub (l' := [(4, .int (nI (i + 1))), (3, .int ((xsum (fun y => if xs_fit (xFC σ) (xbear (σ 10) y n) n then 0 else 1) i) + 1)), (0, .ref (α 11)), (1, .int (nI n)), (2, .int (nI k))]) hl [0, 1, 2, 3, 4] rfl; rw [show (xsum (fun y => if xs_fit (xFC σ) (xbear (σ 10) y n) n then 0 else 1) i) + 1 = xsum (fun y => if xs_fit (xFC σ) (xbear (σ 10) y n) n then 0 else 1) (i + 1) from by rw [xsum_s, if_neg c_26]] at h9; exact h9)⟩ (by (try dsimp only); omega)
set_option maxHeartbeats 4000000 in
set_option maxRecDepth 100000 in
theorem c_X7_debtOf (l : Launch) {D : va_G} {K : Nat → ClassId} {α : Nat → Nat} (σ : Nat → Nat → Int32) (n : Nat) (k : Nat) (Y : Nat)  (hY : xY (σ 10) Y) (hY12 : Y ≤ 12) (hn : n < 6) (hk : k ≤ Y) : Met l yX7_debtOf wsX7_debtOf (xrm 3) (va_Pc [.ref (α 11), .int (nI n), .int (nI k)] (xPre D K 42 α (xC α K) σ)) (vp_Si (fun r => r = σ 8 n * xs_shame (xFC σ) (σ 10) n k)) 0 0 (fun _ => False) := by
  refine Met.ofW (cc := cX7_debtOf) (maxL := 3) (ret := (some .int)) (by decide) rfl ?_
  intro p e s m args below meth c s₁ B hml hv
  obtain ⟨rfl, hK, hP⟩ := hv
  have S : CallFix p m c cX7_debtOf 3 s _ wsX7_debtOf RX7 := ⟨B.exec, B.bytes, hml, findClass_of_methodNamed B.named, atoms_spec (ws := wsX7_debtOf) B.pre⟩
  have hx := S.1
  have hb := S.2.1
  have hr := B.returns
  have hlocks := B.notSynchronized
  have hl := lv_entry ([.ref (α 11), .int (nI n), .int (nI k)]) (n := 3) (Nat.le_of_ble_eq_true rfl)
  rw [lg_entry_eq]
  generalize (lg_sl ([.ref (α 11), .int (nI n), .int (nI k)]) ++ List.replicate (3 - (lg_sl ([.ref (α 11), .int (nI n), .int (nI k)])).length) Slot.unset).toArray = ls at hl ⊢
  have hl : lv_has ls 3 [(0, .ref (α 11)), (1, .int (nI n)), (2, .int (nI k))] := hl
  have hPP := hP
  refine lv_aload_n hx hb dX7_debtOf_0 rfl (lv_at hl 0 rfl) ?_
  refine x_get S (fun w h => List.mem_cons_of_mem _ (List.mem_append_left _ (List.mem_append_left _ (List.mem_append_right _ h)))) hK hP 11 (by omega) rfl rfl 0 (by decide) (List.mem_of_getElem? (i := 1) rfl) rfl dX7_debtOf_1 ?_
  refine x_get S (fun w h => List.mem_cons_of_mem _ (List.mem_append_left _ (List.mem_append_right _ h))) hK hP 1 (by omega) rfl rfl 1 (by decide) (List.mem_of_getElem? (i := 2) rfl) rfl dX7_debtOf_4 ?_
  refine lv_iconst (v := nI 2) hx hb dX7_debtOf_7 (by decide) ?_
  refine x_aald S hK hP 3 1 (by omega) rfl rfl rfl (by first | assumption | omega) (by omega) rfl dX7_debtOf_8 ?_
  refine lv_iload_n hx hb dX7_debtOf_9 rfl (lv_at hl 1 rfl) ?_
  refine x_iald S hK hP 8 (by omega) rfl (by first | assumption | omega) (by omega) dX7_debtOf_10 ?_
  refine lv_aload_n hx hb dX7_debtOf_11 rfl (lv_at hl 0 rfl) ?_
  refine lv_iload_n hx hb dX7_debtOf_12 rfl (lv_at hl 1 rfl) ?_
  refine lv_iload_n hx hb dX7_debtOf_13 rfl (lv_at hl 2 rfl) ?_
  refine x_cVRi (As := [.int (nI n), .int (nI k)]) (rest := [.int (σ 8 n)]) S hK hP 11 (by omega) rfl rfl (c_X7_shameOf l σ n k Y  (by first | assumption | omega) (by first | assumption | omega) (by first | assumption | omega) (by first | assumption | omega)) (x_cwV (n0 := 2) (cq := (RX7, TX7, 2)) S gX7_debtOf_X7_shameOf rfl (by decide +kernel) ⟨Nat.le_of_ble_eq_true rfl, Nat.le_of_ble_eq_true rfl⟩) rfl hl.1 rfl (Nat.le_of_ble_eq_true rfl) dX7_debtOf_14 ⟨Nat.le_refl _, Nat.le_refl _⟩ (fun r_14 hr_14 => ?_)
  subst hr_14
  refine lv_imul hx hb dX7_debtOf_17 ?_
  exact x_iretR S hlocks hr rfl (rfl) dX7_debtOf_18
set_option maxHeartbeats 4000000 in
set_option maxRecDepth 100000 in
theorem c_X7_namesBorne (l : Launch) {D : va_G} {K : Nat → ClassId} {α : Nat → Nat} (σ : Nat → Nat → Int32) (h : Nat) (k : Nat) (Y : Nat)  (hY : xY (σ 10) Y) (hY12 : Y ≤ 12) (hh : h < 6) (hk : k ≤ Y) : Met l yX7_namesBorne wsX7_namesBorne (xrm 1) (va_Pc [.ref (α 11), .int (nI h), .int (nI k)] (xPre D K 42 α (xC α K) σ)) (vp_Si (fun r => r = xs_been (σ 10) h k)) 0 0 (fun _ => False) := by
  refine Met.ofW (cc := cX7_namesBorne) (maxL := 5) (ret := (some .int)) (by decide) rfl ?_
  intro p e s m args below meth c s₁ B hml hv
  obtain ⟨rfl, hK, hP⟩ := hv
  have S : CallFix p m c cX7_namesBorne 5 s _ wsX7_namesBorne RX7 := ⟨B.exec, B.bytes, hml, findClass_of_methodNamed B.named, atoms_spec (ws := wsX7_namesBorne) B.pre⟩
  have hx := S.1
  have hb := S.2.1
  have hr := B.returns
  have hlocks := B.notSynchronized
  have hl := lv_entry ([.ref (α 11), .int (nI h), .int (nI k)]) (n := 5) (Nat.le_of_ble_eq_true rfl)
  rw [lg_entry_eq]
  generalize (lg_sl ([.ref (α 11), .int (nI h), .int (nI k)]) ++ List.replicate (5 - (lg_sl ([.ref (α 11), .int (nI h), .int (nI k)])).length) Slot.unset).toArray = ls at hl ⊢
  have hl : lv_has ls 5 [(0, .ref (α 11)), (1, .int (nI h)), (2, .int (nI k))] := hl
  have hPP := hP
  refine lv_iconst (v := nI 0) hx hb dX7_namesBorne_0 (by decide) ?_
  refine lv_istore_n (lv' := [(3, .int (nI 0)), (0, .ref (α 11)), (1, .int (nI h)), (2, .int (nI k))]) hx hb dX7_namesBorne_1 rfl hl (by decide) rfl (fun ls hl => ?_)
  refine lv_iconst (v := nI 0) hx hb dX7_namesBorne_2 (by decide) ?_
  refine lv_istore (lv' := [(4, .int (nI 0)), (3, .int (nI 0)), (0, .ref (α 11)), (1, .int (nI h)), (2, .int (nI k))]) hx hb dX7_namesBorne_3 hl (by decide) rfl (fun ls hl => ?_)
  refine x_loop (ι := Nat) (fun i ls => (i ≤ k) ∧ lv_has ls 5 [(4, .int (nI i)), (3, .int (xs_been (σ 10) h i)), (0, .ref (α 11)), (1, .int (nI h)), (2, .int (nI k))]) (fun i => k - i) ?_ 0 ls ⟨Nat.zero_le _, lv_sub hl [0, 1, 2, 3, 4] rfl⟩
  intro i ls hinv ih_5
  obtain ⟨hi, hl⟩ := hinv
  have hl : lv_has ls 5 [(4, .int (nI i)), (3, .int (xs_been (σ 10) h i)), (0, .ref (α 11)), (1, .int (nI h)), (2, .int (nI k))] := hl
  refine lv_iload hx hb dX7_namesBorne_5 (lv_at hl 0 rfl) ?_
  refine lv_iload_n hx hb dX7_namesBorne_7 rfl (lv_at hl 4 rfl) ?_
  refine x_icmpN_ge (tgt := 32) S dX7_namesBorne_8 (by decide) (by omega) (by omega) (fun c_8 => ?_) (fun c_8 => ?_)
  · have e9 : i = k := by omega
    subst e9
    refine lv_iload_n hx hb dX7_namesBorne_32 rfl (lv_at hl 1 rfl) ?_
    exact x_iretR S hlocks hr rfl (rfl) dX7_namesBorne_33
  · refine lv_iload_n hx hb dX7_namesBorne_11 rfl (lv_at hl 1 rfl) ?_
    refine lv_iconst (v := nI 1) hx hb dX7_namesBorne_12 (by decide) ?_
    refine lv_aload_n hx hb dX7_namesBorne_13 rfl (lv_at hl 2 rfl) ?_
    refine x_get S (fun w h => List.mem_cons_of_mem _ (List.mem_append_left _ (List.mem_append_right _ h))) hK hP 11 (by omega) rfl rfl 1 (by decide) (List.mem_of_getElem? (i := 1) rfl) rfl dX7_namesBorne_14 ?_
    refine lv_iload_n hx hb dX7_namesBorne_17 rfl (lv_at hl 3 rfl) ?_
    refine lv_iload hx hb dX7_namesBorne_18 (lv_at hl 0 rfl) ?_
    refine x_cVRi (As := [.int (nI h), .int (nI i)]) (rest := [.int (nI 1), .int (xs_been (σ 10) h i)]) S hK hP 9 (by omega) rfl rfl (c_X1_nameOf l σ h i Y  (by first | assumption | omega) (by first | assumption | omega) (by first | assumption | omega) (by first | assumption | omega)) (x_cwV (n0 := 2) (cq := (RX1, TX1, 4)) S gX7_namesBorne_X1_nameOf rfl (by decide +kernel) ⟨Nat.le_of_ble_eq_true rfl, Nat.le_of_ble_eq_true rfl⟩) rfl hl.1 rfl (Nat.le_of_ble_eq_true rfl) dX7_namesBorne_20 ⟨Nat.le_refl _, Nat.le_refl _⟩ (fun r_20 hr_20 => ?_)
    subst hr_20
    refine lv_ishl hx hb dX7_namesBorne_23 ?_
    refine lv_ior hx hb dX7_namesBorne_24 ?_
    refine lv_istore_n (lv' := [(3, .int ((xs_been (σ 10) h i) ||| ((nI 1) <<< ((nI (xnm (σ 10) i h)) &&& 31)))), (4, .int (nI i)), (0, .ref (α 11)), (1, .int (nI h)), (2, .int (nI k))]) hx hb dX7_namesBorne_25 rfl hl (by decide) rfl (fun ls hl => ?_)
    refine lv_iinc (v := nI (i + 1)) (lv' := [(4, .int (nI (i + 1))), (3, .int ((xs_been (σ 10) h i) ||| ((nI 1) <<< ((nI (xnm (σ 10) i h)) &&& 31)))), (0, .ref (α 11)), (1, .int (nI h)), (2, .int (nI k))]) hx hb dX7_namesBorne_26 hl (k := 1) rfl (nI_add i 1) (by decide) rfl (fun ls hl => ?_)
    refine lv_goto (tgt := 5) hx hb dX7_namesBorne_29 (by decide) ?_
    exact ih_5 (i + 1) ls ⟨(by omega), lv_sub hl [0, 1, 2, 3, 4] rfl⟩ (by (try dsimp only); omega)
set_option maxHeartbeats 4000000 in
set_option maxRecDepth 100000 in
theorem c_X7_firstYearAs (l : Launch) {D : va_G} {K : Nat → ClassId} {α : Nat → Nat} (σ : Nat → Nat → Int32) (a : Nat) (b : Nat) (Y : Nat)  (hY : xY (σ 10) Y) (hY12 : Y ≤ 12) (hYr : σ 9 2 = nI Y) (ha : a < 6) (hb6 : b < 6) : Met l yX7_firstYearAs wsX7_firstYearAs (xrm 1) (va_Pc [.ref (α 11), .int (nI a), .int (nI b)] (xPre D K 42 α (xC α K) σ)) (vp_Si (fun r => r = xs_as (σ 10) Y a b)) 0 0 (fun _ => False) := by
  refine Met.ofW (cc := cX7_firstYearAs) (maxL := 4) (ret := (some .int)) (by decide) rfl ?_
  intro p e s m args below meth c s₁ B hml hv
  obtain ⟨rfl, hK, hP⟩ := hv
  have S : CallFix p m c cX7_firstYearAs 4 s _ wsX7_firstYearAs RX7 := ⟨B.exec, B.bytes, hml, findClass_of_methodNamed B.named, atoms_spec (ws := wsX7_firstYearAs) B.pre⟩
  have hx := S.1
  have hb := S.2.1
  have hr := B.returns
  have hlocks := B.notSynchronized
  have hl := lv_entry ([.ref (α 11), .int (nI a), .int (nI b)]) (n := 4) (Nat.le_of_ble_eq_true rfl)
  rw [lg_entry_eq]
  generalize (lg_sl ([.ref (α 11), .int (nI a), .int (nI b)]) ++ List.replicate (4 - (lg_sl ([.ref (α 11), .int (nI a), .int (nI b)])).length) Slot.unset).toArray = ls at hl ⊢
  have hl : lv_has ls 4 [(0, .ref (α 11)), (1, .int (nI a)), (2, .int (nI b))] := hl
  have hPP := hP
  refine lv_iconst (v := nI 0) hx hb dX7_firstYearAs_0 (by decide) ?_
  refine lv_istore_n (lv' := [(3, .int (nI 0)), (0, .ref (α 11)), (1, .int (nI a)), (2, .int (nI b))]) hx hb dX7_firstYearAs_1 rfl hl (by decide) rfl (fun ls hl => ?_)
  refine x_loop (ι := Nat) (fun i ls => (i ≤ Y) ∧ (∀ j, j < i → ¬ (xnm (σ 10) j a = b ∧ xnm (σ 10) j b = a)) ∧ lv_has ls 4 [(3, .int (nI i)), (0, .ref (α 11)), (1, .int (nI a)), (2, .int (nI b))]) (fun i => Y - i) ?_ 0 ls ⟨Nat.zero_le _, fun j hj => absurd hj (Nat.not_lt_zero j), lv_sub hl [0, 1, 2, 3] rfl⟩
  intro i ls hinv ih_2
  obtain ⟨hi, hno, hl⟩ := hinv
  have hl : lv_has ls 4 [(3, .int (nI i)), (0, .ref (α 11)), (1, .int (nI a)), (2, .int (nI b))] := hl
  refine lv_iload_n hx hb dX7_firstYearAs_2 rfl (lv_at hl 0 rfl) ?_
  refine lv_aload_n hx hb dX7_firstYearAs_3 rfl (lv_at hl 1 rfl) ?_
  refine x_get S (fun w h => List.mem_cons_of_mem _ (List.mem_append_left _ (List.mem_append_right _ h))) hK hP 11 (by omega) rfl rfl 1 (by decide) (List.mem_of_getElem? (i := 1) rfl) rfl dX7_firstYearAs_4 ?_
  refine x_get S (fun w h => List.mem_cons_of_mem _ (List.mem_append_right _ h)) hK hP 9 (by omega) rfl rfl 2 (by decide) (List.mem_of_getElem? (i := 2) rfl) rfl dX7_firstYearAs_7 ?_
  refine x_top S (y := nI Y) (hYr) ?_
  refine x_icmpN_ge (tgt := 47) S dX7_firstYearAs_10 (by decide) (by omega) (by omega) (fun c_10 => ?_) (fun c_10 => ?_)
  · refine lv_iconst (v := (-1)) hx hb dX7_firstYearAs_47 (by decide) ?_
    exact x_iretR S hlocks hr rfl ((xs_as_no (fun j hj => hno j (by omega))).symm) dX7_firstYearAs_48
  · have hb9 := (hY i c_10 a ha).1
    have hb8 := (hY i c_10 b hb6).1
    refine lv_aload_n hx hb dX7_firstYearAs_13 rfl (lv_at hl 1 rfl) ?_
    refine x_get S (fun w h => List.mem_cons_of_mem _ (List.mem_append_left _ (List.mem_append_right _ h))) hK hP 11 (by omega) rfl rfl 1 (by decide) (List.mem_of_getElem? (i := 1) rfl) rfl dX7_firstYearAs_14 ?_
    refine lv_iload_n hx hb dX7_firstYearAs_17 rfl (lv_at hl 2 rfl) ?_
    refine lv_iload_n hx hb dX7_firstYearAs_18 rfl (lv_at hl 0 rfl) ?_
    refine x_cVRi (As := [.int (nI a), .int (nI i)]) (rest := []) S hK hP 9 (by omega) rfl rfl (c_X1_nameOf l σ a i Y  (by first | assumption | omega) (by first | assumption | omega) (by first | assumption | omega) (by first | assumption | omega)) (x_cwV (n0 := 2) (cq := (RX1, TX1, 4)) S gX7_firstYearAs_X1_nameOf rfl (by decide +kernel) ⟨Nat.le_of_ble_eq_true rfl, Nat.le_of_ble_eq_true rfl⟩) rfl hl.1 rfl (Nat.le_of_ble_eq_true rfl) dX7_firstYearAs_19 ⟨Nat.le_refl _, Nat.le_refl _⟩ (fun r_19 hr_19 => ?_)
    subst hr_19
    refine lv_iload_n hx hb dX7_firstYearAs_22 rfl (lv_at hl 3 rfl) ?_
    refine x_icmpN_ne (tgt := 41) S dX7_firstYearAs_23 (by decide) (by omega) (by omega) (fun c_23 => ?_) (fun c_23 => ?_)
    · refine lv_iinc (v := nI (i + 1)) (lv' := [(3, .int (nI (i + 1))), (0, .ref (α 11)), (1, .int (nI a)), (2, .int (nI b))]) hx hb dX7_firstYearAs_41 hl (k := 0) rfl (nI_add i 1) (by decide) rfl (fun ls hl => ?_)
      refine lv_goto (tgt := 2) hx hb dX7_firstYearAs_44 (by decide) ?_
      exact ih_2 (i + 1) ls ⟨(by omega), lt_s hno (fun q => by first | exact c_36 q.2 | exact c_23 q.1), lv_sub hl [0, 1, 2, 3] rfl⟩ (by (try dsimp only); omega)
    · refine lv_aload_n hx hb dX7_firstYearAs_26 rfl (lv_at hl 1 rfl) ?_
      refine x_get S (fun w h => List.mem_cons_of_mem _ (List.mem_append_left _ (List.mem_append_right _ h))) hK hP 11 (by omega) rfl rfl 1 (by decide) (List.mem_of_getElem? (i := 1) rfl) rfl dX7_firstYearAs_27 ?_
      refine lv_iload_n hx hb dX7_firstYearAs_30 rfl (lv_at hl 3 rfl) ?_
      refine lv_iload_n hx hb dX7_firstYearAs_31 rfl (lv_at hl 0 rfl) ?_
      refine x_cVRi (As := [.int (nI b), .int (nI i)]) (rest := []) S hK hP 9 (by omega) rfl rfl (c_X1_nameOf l σ b i Y  (by first | assumption | omega) (by first | assumption | omega) (by first | assumption | omega) (by first | assumption | omega)) (x_cwV (n0 := 2) (cq := (RX1, TX1, 4)) S gX7_firstYearAs_X1_nameOf rfl (by decide +kernel) ⟨Nat.le_of_ble_eq_true rfl, Nat.le_of_ble_eq_true rfl⟩) rfl hl.1 rfl (Nat.le_of_ble_eq_true rfl) dX7_firstYearAs_32 ⟨Nat.le_refl _, Nat.le_refl _⟩ (fun r_32 hr_32 => ?_)
      subst hr_32
      refine lv_iload_n hx hb dX7_firstYearAs_35 rfl (lv_at hl 2 rfl) ?_
      refine x_icmpN_ne (tgt := 41) S dX7_firstYearAs_36 (by decide) (by omega) (by omega) (fun c_36 => ?_) (fun c_36 => ?_)
      · refine lv_iinc (v := nI (i + 1)) (lv' := [(3, .int (nI (i + 1))), (0, .ref (α 11)), (1, .int (nI a)), (2, .int (nI b))]) hx hb dX7_firstYearAs_41 hl (k := 0) rfl (nI_add i 1) (by decide) rfl (fun ls hl => ?_)
        refine lv_goto (tgt := 2) hx hb dX7_firstYearAs_44 (by decide) ?_
        exact ih_2 (i + 1) ls ⟨(by omega), lt_s hno (fun q => by first | exact c_36 q.2 | exact c_23 q.1), lv_sub hl [0, 1, 2, 3] rfl⟩ (by (try dsimp only); omega)
      · refine lv_iload_n hx hb dX7_firstYearAs_39 rfl (lv_at hl 0 rfl) ?_
        exact x_iretR S hlocks hr rfl ((xs_as_at c_10 hno ⟨c_23, c_36⟩).symm) dX7_firstYearAs_40
set_option maxHeartbeats 4000000 in
set_option maxRecDepth 100000 in
theorem c_X7_wouldChange (l : Launch) {D : va_G} {K : Nat → ClassId} {α : Nat → Nat} (σ : Nat → Nat → Int32) (a : Nat) (b : Nat) (y : Nat) (Y : Nat)  (hY : xY (σ 10) Y) (hY12 : Y ≤ 12) (hy : y < Y) (ha : a < 6) (hb6 : b < 6) : Met l yX7_wouldChange wsX7_wouldChange (xrm 2) (va_Pc [.ref (α 11), .int (nI a), .int (nI b), .int (nI y)] (xPre D K 42 α (xC α K) σ)) (vp_Si (fun r => r = xb (xs_earn (xFC σ) a (xnm (σ 10) y a) < xs_earn (xFC σ) a (xnm (σ 10) y b)))) 0 0 (fun _ => False) := by
  refine Met.ofW (cc := cX7_wouldChange) (maxL := 5) (ret := (some .boolean)) (by decide) rfl ?_
  intro p e s m args below meth c s₁ B hml hv
  obtain ⟨rfl, hK, hP⟩ := hv
  have S : CallFix p m c cX7_wouldChange 5 s _ wsX7_wouldChange RX7 := ⟨B.exec, B.bytes, hml, findClass_of_methodNamed B.named, atoms_spec (ws := wsX7_wouldChange) B.pre⟩
  have hx := S.1
  have hb := S.2.1
  have hr := B.returns
  have hlocks := B.notSynchronized
  have hl := lv_entry ([.ref (α 11), .int (nI a), .int (nI b), .int (nI y)]) (n := 5) (Nat.le_of_ble_eq_true rfl)
  rw [lg_entry_eq]
  generalize (lg_sl ([.ref (α 11), .int (nI a), .int (nI b), .int (nI y)]) ++ List.replicate (5 - (lg_sl ([.ref (α 11), .int (nI a), .int (nI b), .int (nI y)])).length) Slot.unset).toArray = ls at hl ⊢
  have hl : lv_has ls 5 [(0, .ref (α 11)), (1, .int (nI a)), (2, .int (nI b)), (3, .int (nI y))] := hl
  have hPP := hP
  refine lv_aload_n hx hb dX7_wouldChange_0 rfl (lv_at hl 0 rfl) ?_
  refine x_get S (fun w h => List.mem_cons_of_mem _ (List.mem_append_left _ (List.mem_append_left _ (List.mem_append_right _ h)))) hK hP 11 (by omega) rfl rfl 0 (by decide) (List.mem_of_getElem? (i := 1) rfl) rfl dX7_wouldChange_1 ?_
  refine lv_iload_n hx hb dX7_wouldChange_4 rfl (lv_at hl 1 rfl) ?_
  refine lv_aload_n hx hb dX7_wouldChange_5 rfl (lv_at hl 0 rfl) ?_
  refine x_get S (fun w h => List.mem_cons_of_mem _ (List.mem_append_left _ (List.mem_append_left _ (List.mem_append_right _ h)))) hK hP 11 (by omega) rfl rfl 1 (by decide) (List.mem_of_getElem? (i := 2) rfl) rfl dX7_wouldChange_6 ?_
  refine lv_iload_n hx hb dX7_wouldChange_9 rfl (lv_at hl 1 rfl) ?_
  refine lv_iload_n hx hb dX7_wouldChange_10 rfl (lv_at hl 3 rfl) ?_
  refine x_cVRi (As := [.int (nI a), .int (nI y)]) (rest := [.int (nI a), .ref (α 1)]) S hK hP 9 (by omega) rfl rfl (c_X1_nameOf l σ a y Y  (by first | assumption | omega) (by first | assumption | omega) (by first | assumption | omega) (by first | assumption | omega)) (x_cwV (n0 := 2) (cq := (RX1, TX1, 4)) S gX7_wouldChange_X1_nameOf rfl (by decide +kernel) ⟨Nat.le_of_ble_eq_true rfl, Nat.le_of_ble_eq_true rfl⟩) rfl hl.1 rfl (Nat.le_of_ble_eq_true rfl) dX7_wouldChange_11 ⟨Nat.le_refl _, Nat.le_refl _⟩ (fun r_11 hr_11 => ?_)
  subst hr_11
  refine x_cVRi (As := [.int (nI a), .int (nI (xnm (σ 10) y a))]) (rest := []) S hK hP 1 (by omega) rfl rfl (c_X4_earning l σ a (xnm (σ 10) y a)  (by first | assumption | omega) ((hY _ hy _ ha).1)) (x_cwV (n0 := 2) (cq := (RX4, TX4, 2)) S gX7_wouldChange_X4_earning rfl (by decide +kernel) ⟨Nat.le_of_ble_eq_true rfl, Nat.le_of_ble_eq_true rfl⟩) rfl hl.1 rfl (Nat.le_of_ble_eq_true rfl) dX7_wouldChange_14 ⟨Nat.le_refl _, Nat.le_refl _⟩ (fun r_14 hr_14 => ?_)
  subst hr_14
  refine lv_istore (lv' := [(4, .int (xs_earn (xFC σ) a (xnm (σ 10) y a))), (0, .ref (α 11)), (1, .int (nI a)), (2, .int (nI b)), (3, .int (nI y))]) hx hb dX7_wouldChange_17 hl (by decide) rfl (fun ls hl => ?_)
  refine lv_aload_n hx hb dX7_wouldChange_19 rfl (lv_at hl 1 rfl) ?_
  refine x_get S (fun w h => List.mem_cons_of_mem _ (List.mem_append_left _ (List.mem_append_left _ (List.mem_append_right _ h)))) hK hP 11 (by omega) rfl rfl 0 (by decide) (List.mem_of_getElem? (i := 1) rfl) rfl dX7_wouldChange_20 ?_
  refine lv_iload_n hx hb dX7_wouldChange_23 rfl (lv_at hl 2 rfl) ?_
  refine lv_aload_n hx hb dX7_wouldChange_24 rfl (lv_at hl 1 rfl) ?_
  refine x_get S (fun w h => List.mem_cons_of_mem _ (List.mem_append_left _ (List.mem_append_left _ (List.mem_append_right _ h)))) hK hP 11 (by omega) rfl rfl 1 (by decide) (List.mem_of_getElem? (i := 2) rfl) rfl dX7_wouldChange_25 ?_
  refine lv_iload_n hx hb dX7_wouldChange_28 rfl (lv_at hl 3 rfl) ?_
  refine lv_iload_n hx hb dX7_wouldChange_29 rfl (lv_at hl 4 rfl) ?_
  refine x_cVRi (As := [.int (nI b), .int (nI y)]) (rest := [.int (nI a), .ref (α 1)]) S hK hP 9 (by omega) rfl rfl (c_X1_nameOf l σ b y Y  (by first | assumption | omega) (by first | assumption | omega) (by first | assumption | omega) (by first | assumption | omega)) (x_cwV (n0 := 2) (cq := (RX1, TX1, 4)) S gX7_wouldChange_X1_nameOf rfl (by decide +kernel) ⟨Nat.le_of_ble_eq_true rfl, Nat.le_of_ble_eq_true rfl⟩) rfl hl.1 rfl (Nat.le_of_ble_eq_true rfl) dX7_wouldChange_30 ⟨Nat.le_refl _, Nat.le_refl _⟩ (fun r_30 hr_30 => ?_)
  subst hr_30
  refine x_cVRi (As := [.int (nI a), .int (nI (xnm (σ 10) y b))]) (rest := []) S hK hP 1 (by omega) rfl rfl (c_X4_earning l σ a (xnm (σ 10) y b)  (by first | assumption | omega) ((hY _ hy _ hb6).1)) (x_cwV (n0 := 2) (cq := (RX4, TX4, 2)) S gX7_wouldChange_X4_earning rfl (by decide +kernel) ⟨Nat.le_of_ble_eq_true rfl, Nat.le_of_ble_eq_true rfl⟩) rfl hl.1 rfl (Nat.le_of_ble_eq_true rfl) dX7_wouldChange_33 ⟨Nat.le_refl _, Nat.le_refl _⟩ (fun r_33 hr_33 => ?_)
  subst hr_33
  refine lv_iload hx hb dX7_wouldChange_36 (lv_at hl 0 rfl) ?_
  refine lv_icmp_le (tgt := 45) hx hb dX7_wouldChange_38 (by decide) (fun c_38 => ?_) (fun c_38 => ?_)
  · refine lv_iconst (v := nI 0) hx hb dX7_wouldChange_45 (by decide) ?_
    exact x_iretR S hlocks hr rfl ((xb_f (xnlt c_38)).symm) dX7_wouldChange_46
  · refine lv_iconst (v := nI 1) hx hb dX7_wouldChange_41 (by decide) ?_
    refine lv_goto (tgt := 46) hx hb dX7_wouldChange_42 (by decide) ?_
    exact x_iretR S hlocks hr rfl ((xb_t (xle c_38)).symm) dX7_wouldChange_46
set_option maxHeartbeats 4000000 in
set_option maxRecDepth 100000 in
theorem c_X7_drawnOn (l : Launch) {D : va_G} {K : Nat → ClassId} {α : Nat → Nat} (σ : Nat → Nat → Int32) (y : Nat) (h : Nat) (t : Nat) (Y : Nat)  (hY : xY (σ 10) Y) (hY12 : Y ≤ 12) (hy : y < Y) (hh : h < 6) (ht : t < 2147483648) : Met l yX7_drawnOn wsX7_drawnOn (xrm 1) (va_Pc [.ref (α 11), .int (nI y), .int (nI h), .int (nI t)] (xPre D K 42 α (xC α K) σ)) (vp_Si (fun r => r = nI (xs_on (σ 10) y h t))) 0 0 (fun _ => False) := by
  refine Met.ofW (cc := cX7_drawnOn) (maxL := 6) (ret := (some .int)) (by decide) rfl ?_
  intro p e s m args below meth c s₁ B hml hv
  obtain ⟨rfl, hK, hP⟩ := hv
  have S : CallFix p m c cX7_drawnOn 6 s _ wsX7_drawnOn RX7 := ⟨B.exec, B.bytes, hml, findClass_of_methodNamed B.named, atoms_spec (ws := wsX7_drawnOn) B.pre⟩
  have hx := S.1
  have hb := S.2.1
  have hr := B.returns
  have hlocks := B.notSynchronized
  have hl := lv_entry ([.ref (α 11), .int (nI y), .int (nI h), .int (nI t)]) (n := 6) (Nat.le_of_ble_eq_true rfl)
  rw [lg_entry_eq]
  generalize (lg_sl ([.ref (α 11), .int (nI y), .int (nI h), .int (nI t)]) ++ List.replicate (6 - (lg_sl ([.ref (α 11), .int (nI y), .int (nI h), .int (nI t)])).length) Slot.unset).toArray = ls at hl ⊢
  have hl : lv_has ls 6 [(0, .ref (α 11)), (1, .int (nI y)), (2, .int (nI h)), (3, .int (nI t))] := hl
  have hPP := hP
  refine lv_iload_n hx hb dX7_drawnOn_0 rfl (lv_at hl 2 rfl) ?_
  refine lv_istore (lv' := [(4, .int (nI h)), (0, .ref (α 11)), (1, .int (nI y)), (2, .int (nI h)), (3, .int (nI t))]) hx hb dX7_drawnOn_1 hl (by decide) rfl (fun ls hl => ?_)
  refine lv_iconst (v := nI 0) hx hb dX7_drawnOn_3 (by decide) ?_
  refine lv_istore (lv' := [(5, .int (nI 0)), (4, .int (nI h)), (0, .ref (α 11)), (1, .int (nI y)), (2, .int (nI h)), (3, .int (nI t))]) hx hb dX7_drawnOn_4 hl (by decide) rfl (fun ls hl => ?_)
  refine x_loop (ι := Nat) (fun i ls => (i ≤ t) ∧ lv_has ls 6 [(5, .int (nI i)), (4, .int (nI (xs_on (σ 10) y h i))), (0, .ref (α 11)), (1, .int (nI y)), (2, .int (nI h)), (3, .int (nI t))]) (fun i => t - i) ?_ 0 ls ⟨Nat.zero_le _, lv_sub hl [0, 1, 2, 3, 4, 5] rfl⟩
  intro i ls hinv ih_6
  obtain ⟨hi, hl⟩ := hinv
  have hl : lv_has ls 6 [(5, .int (nI i)), (4, .int (nI (xs_on (σ 10) y h i))), (0, .ref (α 11)), (1, .int (nI y)), (2, .int (nI h)), (3, .int (nI t))] := hl
  refine lv_iload hx hb dX7_drawnOn_6 (lv_at hl 0 rfl) ?_
  refine lv_iload_n hx hb dX7_drawnOn_8 rfl (lv_at hl 5 rfl) ?_
  refine x_icmpN_ge (tgt := 30) S dX7_drawnOn_9 (by decide) (by omega) (by omega) (fun c_9 => ?_) (fun c_9 => ?_)
  · have e9 : i = t := by omega
    subst e9
    refine lv_iload hx hb dX7_drawnOn_30 (lv_at hl 1 rfl) ?_
    exact x_iretR S hlocks hr rfl (rfl) dX7_drawnOn_32
  · refine lv_aload_n hx hb dX7_drawnOn_12 rfl (lv_at hl 2 rfl) ?_
    refine x_get S (fun w h => List.mem_cons_of_mem _ (List.mem_append_left _ (List.mem_append_right _ h))) hK hP 11 (by omega) rfl rfl 1 (by decide) (List.mem_of_getElem? (i := 1) rfl) rfl dX7_drawnOn_13 ?_
    refine lv_iload hx hb dX7_drawnOn_16 (lv_at hl 1 rfl) ?_
    refine lv_iload_n hx hb dX7_drawnOn_18 rfl (lv_at hl 3 rfl) ?_
    refine x_cVRi (As := [.int (nI (xs_on (σ 10) y h i)), .int (nI y)]) (rest := []) S hK hP 9 (by omega) rfl rfl (c_X1_nameOf l σ (xs_on (σ 10) y h i) y Y  (by first | assumption | omega) (by first | assumption | omega) (by first | assumption | omega) (xs_on_lt hY hy hh i)) (x_cwV (n0 := 2) (cq := (RX1, TX1, 4)) S gX7_drawnOn_X1_nameOf rfl (by decide +kernel) ⟨Nat.le_of_ble_eq_true rfl, Nat.le_of_ble_eq_true rfl⟩) rfl hl.1 rfl (Nat.le_of_ble_eq_true rfl) dX7_drawnOn_19 ⟨Nat.le_refl _, Nat.le_refl _⟩ (fun r_19 hr_19 => ?_)
    subst hr_19
    refine lv_istore (lv' := [(4, .int (nI (xnm (σ 10) y (xs_on (σ 10) y h i)))), (5, .int (nI i)), (0, .ref (α 11)), (1, .int (nI y)), (2, .int (nI h)), (3, .int (nI t))]) hx hb dX7_drawnOn_22 hl (by decide) rfl (fun ls hl => ?_)
    refine lv_iinc (v := nI (i + 1)) (lv' := [(5, .int (nI (i + 1))), (4, .int (nI (xnm (σ 10) y (xs_on (σ 10) y h i)))), (0, .ref (α 11)), (1, .int (nI y)), (2, .int (nI h)), (3, .int (nI t))]) hx hb dX7_drawnOn_24 hl (k := 1) rfl (nI_add i 1) (by decide) rfl (fun ls hl => ?_)
    refine lv_goto (tgt := 6) hx hb dX7_drawnOn_27 (by decide) ?_
    exact ih_6 (i + 1) ls ⟨(by omega), lv_sub hl [0, 1, 2, 3, 4, 5] rfl⟩ (by (try dsimp only); omega)
set_option maxHeartbeats 4000000 in
set_option maxRecDepth 100000 in
theorem c_X7_isBack (l : Launch) {D : va_G} {K : Nat → ClassId} {α : Nat → Nat} (σ : Nat → Nat → Int32) (y : Nat) (h : Nat) (t : Nat) (Y : Nat)  (hY : xY (σ 10) Y) (hY12 : Y ≤ 12) (hy : y < Y) (hh : h < 6) (ht : t < 2147483648) : Met l yX7_isBack wsX7_isBack (xrm 2) (va_Pc [.ref (α 11), .int (nI y), .int (nI h), .int (nI t)] (xPre D K 42 α (xC α K) σ)) (vp_Si (fun r => r = xb (xs_on (σ 10) y h t = h))) 0 0 (fun _ => False) := by
  refine Met.ofW (cc := cX7_isBack) (maxL := 4) (ret := (some .boolean)) (by decide) rfl ?_
  intro p e s m args below meth c s₁ B hml hv
  obtain ⟨rfl, hK, hP⟩ := hv
  have S : CallFix p m c cX7_isBack 4 s _ wsX7_isBack RX7 := ⟨B.exec, B.bytes, hml, findClass_of_methodNamed B.named, atoms_spec (ws := wsX7_isBack) B.pre⟩
  have hx := S.1
  have hb := S.2.1
  have hr := B.returns
  have hlocks := B.notSynchronized
  have hl := lv_entry ([.ref (α 11), .int (nI y), .int (nI h), .int (nI t)]) (n := 4) (Nat.le_of_ble_eq_true rfl)
  rw [lg_entry_eq]
  generalize (lg_sl ([.ref (α 11), .int (nI y), .int (nI h), .int (nI t)]) ++ List.replicate (4 - (lg_sl ([.ref (α 11), .int (nI y), .int (nI h), .int (nI t)])).length) Slot.unset).toArray = ls at hl ⊢
  have hl : lv_has ls 4 [(0, .ref (α 11)), (1, .int (nI y)), (2, .int (nI h)), (3, .int (nI t))] := hl
  have hPP := hP
  refine lv_aload_n hx hb dX7_isBack_0 rfl (lv_at hl 0 rfl) ?_
  refine lv_iload_n hx hb dX7_isBack_1 rfl (lv_at hl 1 rfl) ?_
  refine lv_iload_n hx hb dX7_isBack_2 rfl (lv_at hl 2 rfl) ?_
  refine lv_iload_n hx hb dX7_isBack_3 rfl (lv_at hl 3 rfl) ?_
  refine x_cVRi (As := [.int (nI y), .int (nI h), .int (nI t)]) (rest := []) S hK hP 11 (by omega) rfl rfl (c_X7_drawnOn l σ y h t Y  (by first | assumption | omega) (by first | assumption | omega) (by first | assumption | omega) (by first | assumption | omega) (by first | assumption | omega)) (x_cwV (n0 := 3) (cq := (RX7, TX7, 2)) S gX7_isBack_X7_drawnOn rfl (by decide +kernel) ⟨Nat.le_of_ble_eq_true rfl, Nat.le_of_ble_eq_true rfl⟩) rfl hl.1 rfl (Nat.le_of_ble_eq_true rfl) dX7_isBack_4 ⟨Nat.le_refl _, Nat.le_refl _⟩ (fun r_4 hr_4 => ?_)
  subst hr_4
  have hb9 := xs_on_lt hY hy hh t
  refine lv_iload_n hx hb dX7_isBack_7 rfl (lv_at hl 2 rfl) ?_
  refine x_icmpN_ne (tgt := 15) S dX7_isBack_8 (by decide) (by omega) (by omega) (fun c_8 => ?_) (fun c_8 => ?_)
  · refine lv_iconst (v := nI 0) hx hb dX7_isBack_15 (by decide) ?_
    exact x_iretR S hlocks hr rfl ((xb_f c_8).symm) dX7_isBack_16
  · refine lv_iconst (v := nI 1) hx hb dX7_isBack_11 (by decide) ?_
    refine lv_goto (tgt := 16) hx hb dX7_isBack_12 (by decide) ?_
    exact x_iretR S hlocks hr rfl ((xb_t c_8).symm) dX7_isBack_16
set_option maxHeartbeats 4000000 in
set_option maxRecDepth 100000 in
theorem c_X7_allBack (l : Launch) {D : va_G} {K : Nat → ClassId} {α : Nat → Nat} (σ : Nat → Nat → Int32) (y : Nat) (t : Nat) (Y : Nat)  (hY : xY (σ 10) Y) (hY12 : Y ≤ 12) (hy : y < Y) (ht : t < 2147483648) : Met l yX7_allBack wsX7_allBack (xrm 3) (va_Pc [.ref (α 11), .int (nI y), .int (nI t)] (xPre D K 42 α (xC α K) σ)) (vp_Si (fun r => r = xb (xall (fun h => xs_on (σ 10) y h t = h) 6))) 0 0 (fun _ => False) := by
  refine Met.ofW (cc := cX7_allBack) (maxL := 4) (ret := (some .boolean)) (by decide) rfl ?_
  intro p e s m args below meth c s₁ B hml hv
  obtain ⟨rfl, hK, hP⟩ := hv
  have S : CallFix p m c cX7_allBack 4 s _ wsX7_allBack RX7 := ⟨B.exec, B.bytes, hml, findClass_of_methodNamed B.named, atoms_spec (ws := wsX7_allBack) B.pre⟩
  have hx := S.1
  have hb := S.2.1
  have hr := B.returns
  have hlocks := B.notSynchronized
  have hl := lv_entry ([.ref (α 11), .int (nI y), .int (nI t)]) (n := 4) (Nat.le_of_ble_eq_true rfl)
  rw [lg_entry_eq]
  generalize (lg_sl ([.ref (α 11), .int (nI y), .int (nI t)]) ++ List.replicate (4 - (lg_sl ([.ref (α 11), .int (nI y), .int (nI t)])).length) Slot.unset).toArray = ls at hl ⊢
  have hl : lv_has ls 4 [(0, .ref (α 11)), (1, .int (nI y)), (2, .int (nI t))] := hl
  have hPP := hP
  refine lv_iconst (v := nI 0) hx hb dX7_allBack_0 (by decide) ?_
  refine lv_istore_n (lv' := [(3, .int (nI 0)), (0, .ref (α 11)), (1, .int (nI y)), (2, .int (nI t))]) hx hb dX7_allBack_1 rfl hl (by decide) rfl (fun ls hl => ?_)
  refine x_loop (ι := Nat) (fun i ls => (i ≤ 6) ∧ (∀ h, h < i → xs_on (σ 10) y h t = h) ∧ lv_has ls 4 [(3, .int (nI i)), (0, .ref (α 11)), (1, .int (nI y)), (2, .int (nI t))]) (fun i => 6 - i) ?_ 0 ls ⟨Nat.zero_le _, fun j hj => absurd hj (Nat.not_lt_zero j), lv_sub hl [0, 1, 2, 3] rfl⟩
  intro i ls hinv ih_2
  obtain ⟨hi, hno, hl⟩ := hinv
  have hl : lv_has ls 4 [(3, .int (nI i)), (0, .ref (α 11)), (1, .int (nI y)), (2, .int (nI t))] := hl
  refine lv_iload_n hx hb dX7_allBack_2 rfl (lv_at hl 0 rfl) ?_
  refine lv_bipush (v := nI 6) hx hb dX7_allBack_3 (by decide) ?_
  refine x_icmpN_ge (tgt := 26) S dX7_allBack_5 (by decide) (by omega) (by omega) (fun c_5 => ?_) (fun c_5 => ?_)
  · refine lv_iconst (v := nI 1) hx hb dX7_allBack_26 (by decide) ?_
    exact x_iretR S hlocks hr rfl ((xb_t (xall_of fun h hh => hno h (by omega))).symm) dX7_allBack_27
  · refine lv_aload_n hx hb dX7_allBack_8 rfl (lv_at hl 1 rfl) ?_
    refine lv_iload_n hx hb dX7_allBack_9 rfl (lv_at hl 2 rfl) ?_
    refine lv_iload_n hx hb dX7_allBack_10 rfl (lv_at hl 0 rfl) ?_
    refine lv_iload_n hx hb dX7_allBack_11 rfl (lv_at hl 3 rfl) ?_
    refine x_cVRi (As := [.int (nI y), .int (nI i), .int (nI t)]) (rest := []) S hK hP 11 (by omega) rfl rfl (c_X7_isBack l σ y i t Y  (by first | assumption | omega) (by first | assumption | omega) (by first | assumption | omega) (by first | assumption | omega) (by first | assumption | omega)) (x_cwV (n0 := 3) (cq := (RX7, TX7, 2)) S gX7_allBack_X7_isBack rfl (by decide +kernel) ⟨Nat.le_of_ble_eq_true rfl, Nat.le_of_ble_eq_true rfl⟩) rfl hl.1 rfl (Nat.le_of_ble_eq_true rfl) dX7_allBack_12 ⟨Nat.le_refl _, Nat.le_refl _⟩ (fun r_12 hr_12 => ?_)
    subst hr_12
    refine x_if_neB (tgt := 20) S dX7_allBack_15 (by decide) (fun c_15 => ?_) (fun c_15 => ?_)
    · refine lv_iinc (v := nI (i + 1)) (lv' := [(3, .int (nI (i + 1))), (0, .ref (α 11)), (1, .int (nI y)), (2, .int (nI t))]) hx hb dX7_allBack_20 hl (k := 0) rfl (nI_add i 1) (by decide) rfl (fun ls hl => ?_)
      refine lv_goto (tgt := 2) hx hb dX7_allBack_23 (by decide) ?_
      exact ih_2 (i + 1) ls ⟨(by omega), lt_s hno c_15, lv_sub hl [0, 1, 2, 3] rfl⟩ (by (try dsimp only); omega)
    · refine lv_iconst (v := nI 0) hx hb dX7_allBack_18 (by decide) ?_
      exact x_iretR S hlocks hr rfl (by refine (xb_f fun h => ?_).symm; exact c_15 (xall_to h i (by omega))) dX7_allBack_19
set_option maxHeartbeats 4000000 in
set_option maxRecDepth 100000 in
theorem c_X7_allEarned (l : Launch) {D : va_G} {K : Nat → ClassId} {α : Nat → Nat} (σ : Nat → Nat → Int32) (Y : Nat)  (hY : xY (σ 10) Y) (hY12 : Y ≤ 12) (hYr : σ 9 2 = nI Y) : Met l yX7_allEarned wsX7_allEarned (xrm 3) (va_Pc [.ref (α 11)] (xPre D K 42 α (xC α K) σ)) (vp_Si (fun r => r = xsum (fun h => xs_purse (xFC σ) (σ 10) h Y) 6)) 0 0 (fun _ => False) := by
  refine Met.ofW (cc := cX7_allEarned) (maxL := 3) (ret := (some .int)) (by decide) rfl ?_
  intro p e s m args below meth c s₁ B hml hv
  obtain ⟨rfl, hK, hP⟩ := hv
  have S : CallFix p m c cX7_allEarned 3 s _ wsX7_allEarned RX7 := ⟨B.exec, B.bytes, hml, findClass_of_methodNamed B.named, atoms_spec (ws := wsX7_allEarned) B.pre⟩
  have hx := S.1
  have hb := S.2.1
  have hr := B.returns
  have hlocks := B.notSynchronized
  have hl := lv_entry ([.ref (α 11)]) (n := 3) (Nat.le_of_ble_eq_true rfl)
  rw [lg_entry_eq]
  generalize (lg_sl ([.ref (α 11)]) ++ List.replicate (3 - (lg_sl ([.ref (α 11)])).length) Slot.unset).toArray = ls at hl ⊢
  have hl : lv_has ls 3 [(0, .ref (α 11))] := hl
  have hPP := hP
  refine lv_iconst (v := nI 0) hx hb dX7_allEarned_0 (by decide) ?_
  refine lv_istore_n (lv' := [(1, .int (nI 0)), (0, .ref (α 11))]) hx hb dX7_allEarned_1 rfl hl (by decide) rfl (fun ls hl => ?_)
  refine lv_iconst (v := nI 0) hx hb dX7_allEarned_2 (by decide) ?_
  refine lv_istore_n (lv' := [(2, .int (nI 0)), (1, .int (nI 0)), (0, .ref (α 11))]) hx hb dX7_allEarned_3 rfl hl (by decide) rfl (fun ls hl => ?_)
  refine x_loop (ι := Nat) (fun i ls => (i ≤ 6) ∧ lv_has ls 3 [(2, .int (nI i)), (1, .int (xsum (fun h => xs_purse (xFC σ) (σ 10) h Y) i)), (0, .ref (α 11))]) (fun i => 6 - i) ?_ 0 ls ⟨Nat.zero_le _, lv_sub hl [0, 1, 2] rfl⟩
  intro i ls hinv ih_4
  obtain ⟨hi, hl⟩ := hinv
  have hl : lv_has ls 3 [(2, .int (nI i)), (1, .int (xsum (fun h => xs_purse (xFC σ) (σ 10) h Y) i)), (0, .ref (α 11))] := hl
  refine lv_iload_n hx hb dX7_allEarned_4 rfl (lv_at hl 0 rfl) ?_
  refine lv_bipush (v := nI 6) hx hb dX7_allEarned_5 (by decide) ?_
  refine x_icmpN_ge (tgt := 31) S dX7_allEarned_7 (by decide) (by omega) (by omega) (fun c_7 => ?_) (fun c_7 => ?_)
  · have e9 : i = 6 := by omega
    subst e9
    refine lv_iload_n hx hb dX7_allEarned_31 rfl (lv_at hl 1 rfl) ?_
    exact x_iretR S hlocks hr rfl (rfl) dX7_allEarned_32
  · refine lv_iload_n hx hb dX7_allEarned_10 rfl (lv_at hl 1 rfl) ?_
    refine lv_aload_n hx hb dX7_allEarned_11 rfl (lv_at hl 2 rfl) ?_
    refine lv_iload_n hx hb dX7_allEarned_12 rfl (lv_at hl 0 rfl) ?_
    refine lv_aload_n hx hb dX7_allEarned_13 rfl (lv_at hl 2 rfl) ?_
    refine x_get S (fun w h => List.mem_cons_of_mem _ (List.mem_append_left _ (List.mem_append_left _ (List.mem_append_right _ h)))) hK hP 11 (by omega) rfl rfl 1 (by decide) (List.mem_of_getElem? (i := 1) rfl) rfl dX7_allEarned_14 ?_
    refine x_get S (fun w h => List.mem_cons_of_mem _ (List.mem_append_left _ (List.mem_append_right _ h))) hK hP 9 (by omega) rfl rfl 2 (by decide) (List.mem_of_getElem? (i := 2) rfl) rfl dX7_allEarned_17 ?_
    refine x_top S (y := nI Y) (hYr) ?_
    refine x_cVRi (As := [.int (nI i), .int (nI Y)]) (rest := [.int (xsum (fun h => xs_purse (xFC σ) (σ 10) h Y) i)]) S hK hP 11 (by omega) rfl rfl (c_X7_earnedBy l σ i Y Y  (by first | assumption | omega) (by first | assumption | omega) (by first | assumption | omega) (by first | assumption | omega)) (x_cwV (n0 := 2) (cq := (RX7, TX7, 2)) S gX7_allEarned_X7_earnedBy rfl (by decide +kernel) ⟨Nat.le_of_ble_eq_true rfl, Nat.le_of_ble_eq_true rfl⟩) rfl hl.1 rfl (Nat.le_of_ble_eq_true rfl) dX7_allEarned_20 ⟨Nat.le_refl _, Nat.le_refl _⟩ (fun r_20 hr_20 => ?_)
    subst hr_20
    refine lv_iadd hx hb dX7_allEarned_23 ?_
    refine lv_istore_n (lv' := [(1, .int ((xsum (fun h => xs_purse (xFC σ) (σ 10) h Y) i) + (xs_purse (xFC σ) (σ 10) i Y))), (2, .int (nI i)), (0, .ref (α 11))]) hx hb dX7_allEarned_24 rfl hl (by decide) rfl (fun ls hl => ?_)
    refine lv_iinc (v := nI (i + 1)) (lv' := [(2, .int (nI (i + 1))), (1, .int ((xsum (fun h => xs_purse (xFC σ) (σ 10) h Y) i) + (xs_purse (xFC σ) (σ 10) i Y))), (0, .ref (α 11))]) hx hb dX7_allEarned_25 hl (k := 1) rfl (nI_add i 1) (by decide) rfl (fun ls hl => ?_)
    refine lv_goto (tgt := 4) hx hb dX7_allEarned_28 (by decide) ?_
    exact ih_4 (i + 1) ls ⟨(by omega), lv_sub hl [0, 1, 2] rfl⟩ (by (try dsimp only); omega)
set_option maxHeartbeats 4000000 in
set_option maxRecDepth 100000 in
theorem c_X7_allDebt (l : Launch) {D : va_G} {K : Nat → ClassId} {α : Nat → Nat} (σ : Nat → Nat → Int32) (Y : Nat)  (hY : xY (σ 10) Y) (hY12 : Y ≤ 12) (hYr : σ 9 2 = nI Y) : Met l yX7_allDebt wsX7_allDebt (xrm 4) (va_Pc [.ref (α 11)] (xPre D K 42 α (xC α K) σ)) (vp_Si (fun r => r = xsum (fun h => σ 8 h * xs_shame (xFC σ) (σ 10) h Y) 6)) 0 0 (fun _ => False) := by
  refine Met.ofW (cc := cX7_allDebt) (maxL := 3) (ret := (some .int)) (by decide) rfl ?_
  intro p e s m args below meth c s₁ B hml hv
  obtain ⟨rfl, hK, hP⟩ := hv
  have S : CallFix p m c cX7_allDebt 3 s _ wsX7_allDebt RX7 := ⟨B.exec, B.bytes, hml, findClass_of_methodNamed B.named, atoms_spec (ws := wsX7_allDebt) B.pre⟩
  have hx := S.1
  have hb := S.2.1
  have hr := B.returns
  have hlocks := B.notSynchronized
  have hl := lv_entry ([.ref (α 11)]) (n := 3) (Nat.le_of_ble_eq_true rfl)
  rw [lg_entry_eq]
  generalize (lg_sl ([.ref (α 11)]) ++ List.replicate (3 - (lg_sl ([.ref (α 11)])).length) Slot.unset).toArray = ls at hl ⊢
  have hl : lv_has ls 3 [(0, .ref (α 11))] := hl
  have hPP := hP
  refine lv_iconst (v := nI 0) hx hb dX7_allDebt_0 (by decide) ?_
  refine lv_istore_n (lv' := [(1, .int (nI 0)), (0, .ref (α 11))]) hx hb dX7_allDebt_1 rfl hl (by decide) rfl (fun ls hl => ?_)
  refine lv_iconst (v := nI 0) hx hb dX7_allDebt_2 (by decide) ?_
  refine lv_istore_n (lv' := [(2, .int (nI 0)), (1, .int (nI 0)), (0, .ref (α 11))]) hx hb dX7_allDebt_3 rfl hl (by decide) rfl (fun ls hl => ?_)
  refine x_loop (ι := Nat) (fun i ls => (i ≤ 6) ∧ lv_has ls 3 [(2, .int (nI i)), (1, .int (xsum (fun h => σ 8 h * xs_shame (xFC σ) (σ 10) h Y) i)), (0, .ref (α 11))]) (fun i => 6 - i) ?_ 0 ls ⟨Nat.zero_le _, lv_sub hl [0, 1, 2] rfl⟩
  intro i ls hinv ih_4
  obtain ⟨hi, hl⟩ := hinv
  have hl : lv_has ls 3 [(2, .int (nI i)), (1, .int (xsum (fun h => σ 8 h * xs_shame (xFC σ) (σ 10) h Y) i)), (0, .ref (α 11))] := hl
  refine lv_iload_n hx hb dX7_allDebt_4 rfl (lv_at hl 0 rfl) ?_
  refine lv_bipush (v := nI 6) hx hb dX7_allDebt_5 (by decide) ?_
  refine x_icmpN_ge (tgt := 31) S dX7_allDebt_7 (by decide) (by omega) (by omega) (fun c_7 => ?_) (fun c_7 => ?_)
  · have e9 : i = 6 := by omega
    subst e9
    refine lv_iload_n hx hb dX7_allDebt_31 rfl (lv_at hl 1 rfl) ?_
    exact x_iretR S hlocks hr rfl (rfl) dX7_allDebt_32
  · refine lv_iload_n hx hb dX7_allDebt_10 rfl (lv_at hl 1 rfl) ?_
    refine lv_aload_n hx hb dX7_allDebt_11 rfl (lv_at hl 2 rfl) ?_
    refine lv_iload_n hx hb dX7_allDebt_12 rfl (lv_at hl 0 rfl) ?_
    refine lv_aload_n hx hb dX7_allDebt_13 rfl (lv_at hl 2 rfl) ?_
    refine x_get S (fun w h => List.mem_cons_of_mem _ (List.mem_append_left _ (List.mem_append_left _ (List.mem_append_right _ h)))) hK hP 11 (by omega) rfl rfl 1 (by decide) (List.mem_of_getElem? (i := 1) rfl) rfl dX7_allDebt_14 ?_
    refine x_get S (fun w h => List.mem_cons_of_mem _ (List.mem_append_left _ (List.mem_append_right _ h))) hK hP 9 (by omega) rfl rfl 2 (by decide) (List.mem_of_getElem? (i := 2) rfl) rfl dX7_allDebt_17 ?_
    refine x_top S (y := nI Y) (hYr) ?_
    refine x_cVRi (As := [.int (nI i), .int (nI Y)]) (rest := [.int (xsum (fun h => σ 8 h * xs_shame (xFC σ) (σ 10) h Y) i)]) S hK hP 11 (by omega) rfl rfl (c_X7_debtOf l σ i Y Y  (by first | assumption | omega) (by first | assumption | omega) (by first | assumption | omega) (by first | assumption | omega)) (x_cwV (n0 := 2) (cq := (RX7, TX7, 2)) S gX7_allDebt_X7_debtOf rfl (by decide +kernel) ⟨Nat.le_of_ble_eq_true rfl, Nat.le_of_ble_eq_true rfl⟩) rfl hl.1 rfl (Nat.le_of_ble_eq_true rfl) dX7_allDebt_20 ⟨Nat.le_refl _, Nat.le_refl _⟩ (fun r_20 hr_20 => ?_)
    subst hr_20
    refine lv_iadd hx hb dX7_allDebt_23 ?_
    refine lv_istore_n (lv' := [(1, .int ((xsum (fun h => σ 8 h * xs_shame (xFC σ) (σ 10) h Y) i) + (σ 8 i * xs_shame (xFC σ) (σ 10) i Y))), (2, .int (nI i)), (0, .ref (α 11))]) hx hb dX7_allDebt_24 rfl hl (by decide) rfl (fun ls hl => ?_)
    refine lv_iinc (v := nI (i + 1)) (lv' := [(2, .int (nI (i + 1))), (1, .int ((xsum (fun h => σ 8 h * xs_shame (xFC σ) (σ 10) h Y) i) + (σ 8 i * xs_shame (xFC σ) (σ 10) i Y))), (0, .ref (α 11))]) hx hb dX7_allDebt_25 hl (k := 1) rfl (nI_add i 1) (by decide) rfl (fun ls hl => ?_)
    refine lv_goto (tgt := 4) hx hb dX7_allDebt_28 (by decide) ?_
    exact ih_4 (i + 1) ls ⟨(by omega), lv_sub hl [0, 1, 2] rfl⟩ (by (try dsimp only); omega)
set_option maxHeartbeats 4000000 in
set_option maxRecDepth 100000 in
theorem c_X7_allShame (l : Launch) {D : va_G} {K : Nat → ClassId} {α : Nat → Nat} (σ : Nat → Nat → Int32) (Y : Nat)  (hY : xY (σ 10) Y) (hY12 : Y ≤ 12) (hYr : σ 9 2 = nI Y) : Met l yX7_allShame wsX7_allShame (xrm 3) (va_Pc [.ref (α 11)] (xPre D K 42 α (xC α K) σ)) (vp_Si (fun r => r = xsum (fun h => xs_shame (xFC σ) (σ 10) h Y) 6)) 0 0 (fun _ => False) := by
  refine Met.ofW (cc := cX7_allShame) (maxL := 3) (ret := (some .int)) (by decide) rfl ?_
  intro p e s m args below meth c s₁ B hml hv
  obtain ⟨rfl, hK, hP⟩ := hv
  have S : CallFix p m c cX7_allShame 3 s _ wsX7_allShame RX7 := ⟨B.exec, B.bytes, hml, findClass_of_methodNamed B.named, atoms_spec (ws := wsX7_allShame) B.pre⟩
  have hx := S.1
  have hb := S.2.1
  have hr := B.returns
  have hlocks := B.notSynchronized
  have hl := lv_entry ([.ref (α 11)]) (n := 3) (Nat.le_of_ble_eq_true rfl)
  rw [lg_entry_eq]
  generalize (lg_sl ([.ref (α 11)]) ++ List.replicate (3 - (lg_sl ([.ref (α 11)])).length) Slot.unset).toArray = ls at hl ⊢
  have hl : lv_has ls 3 [(0, .ref (α 11))] := hl
  have hPP := hP
  refine lv_iconst (v := nI 0) hx hb dX7_allShame_0 (by decide) ?_
  refine lv_istore_n (lv' := [(1, .int (nI 0)), (0, .ref (α 11))]) hx hb dX7_allShame_1 rfl hl (by decide) rfl (fun ls hl => ?_)
  refine lv_iconst (v := nI 0) hx hb dX7_allShame_2 (by decide) ?_
  refine lv_istore_n (lv' := [(2, .int (nI 0)), (1, .int (nI 0)), (0, .ref (α 11))]) hx hb dX7_allShame_3 rfl hl (by decide) rfl (fun ls hl => ?_)
  refine x_loop (ι := Nat) (fun i ls => (i ≤ 6) ∧ lv_has ls 3 [(2, .int (nI i)), (1, .int (xsum (fun h => xs_shame (xFC σ) (σ 10) h Y) i)), (0, .ref (α 11))]) (fun i => 6 - i) ?_ 0 ls ⟨Nat.zero_le _, lv_sub hl [0, 1, 2] rfl⟩
  intro i ls hinv ih_4
  obtain ⟨hi, hl⟩ := hinv
  have hl : lv_has ls 3 [(2, .int (nI i)), (1, .int (xsum (fun h => xs_shame (xFC σ) (σ 10) h Y) i)), (0, .ref (α 11))] := hl
  refine lv_iload_n hx hb dX7_allShame_4 rfl (lv_at hl 0 rfl) ?_
  refine lv_bipush (v := nI 6) hx hb dX7_allShame_5 (by decide) ?_
  refine x_icmpN_ge (tgt := 31) S dX7_allShame_7 (by decide) (by omega) (by omega) (fun c_7 => ?_) (fun c_7 => ?_)
  · have e9 : i = 6 := by omega
    subst e9
    refine lv_iload_n hx hb dX7_allShame_31 rfl (lv_at hl 1 rfl) ?_
    exact x_iretR S hlocks hr rfl (rfl) dX7_allShame_32
  · refine lv_iload_n hx hb dX7_allShame_10 rfl (lv_at hl 1 rfl) ?_
    refine lv_aload_n hx hb dX7_allShame_11 rfl (lv_at hl 2 rfl) ?_
    refine lv_iload_n hx hb dX7_allShame_12 rfl (lv_at hl 0 rfl) ?_
    refine lv_aload_n hx hb dX7_allShame_13 rfl (lv_at hl 2 rfl) ?_
    refine x_get S (fun w h => List.mem_cons_of_mem _ (List.mem_append_left _ (List.mem_append_left _ (List.mem_append_right _ h)))) hK hP 11 (by omega) rfl rfl 1 (by decide) (List.mem_of_getElem? (i := 1) rfl) rfl dX7_allShame_14 ?_
    refine x_get S (fun w h => List.mem_cons_of_mem _ (List.mem_append_left _ (List.mem_append_right _ h))) hK hP 9 (by omega) rfl rfl 2 (by decide) (List.mem_of_getElem? (i := 2) rfl) rfl dX7_allShame_17 ?_
    refine x_top S (y := nI Y) (hYr) ?_
    refine x_cVRi (As := [.int (nI i), .int (nI Y)]) (rest := [.int (xsum (fun h => xs_shame (xFC σ) (σ 10) h Y) i)]) S hK hP 11 (by omega) rfl rfl (c_X7_shameOf l σ i Y Y  (by first | assumption | omega) (by first | assumption | omega) (by first | assumption | omega) (by first | assumption | omega)) (x_cwV (n0 := 2) (cq := (RX7, TX7, 2)) S gX7_allShame_X7_shameOf rfl (by decide +kernel) ⟨Nat.le_of_ble_eq_true rfl, Nat.le_of_ble_eq_true rfl⟩) rfl hl.1 rfl (Nat.le_of_ble_eq_true rfl) dX7_allShame_20 ⟨Nat.le_refl _, Nat.le_refl _⟩ (fun r_20 hr_20 => ?_)
    subst hr_20
    refine lv_iadd hx hb dX7_allShame_23 ?_
    refine lv_istore_n (lv' := [(1, .int ((xsum (fun h => xs_shame (xFC σ) (σ 10) h Y) i) + (xs_shame (xFC σ) (σ 10) i Y))), (2, .int (nI i)), (0, .ref (α 11))]) hx hb dX7_allShame_24 rfl hl (by decide) rfl (fun ls hl => ?_)
    refine lv_iinc (v := nI (i + 1)) (lv' := [(2, .int (nI (i + 1))), (1, .int ((xsum (fun h => xs_shame (xFC σ) (σ 10) h Y) i) + (xs_shame (xFC σ) (σ 10) i Y))), (0, .ref (α 11))]) hx hb dX7_allShame_25 hl (k := 1) rfl (nI_add i 1) (by decide) rfl (fun ls hl => ?_)
    refine lv_goto (tgt := 4) hx hb dX7_allShame_28 (by decide) ?_
    exact ih_4 (i + 1) ls ⟨(by omega), lv_sub hl [0, 1, 2] rfl⟩ (by (try dsimp only); omega)

set_option maxHeartbeats 4000000 in
set_option maxRecDepth 100000 in
theorem c_X8_isBelow (l : Launch) (x : Int32) (b : Int32)  : Met l yX8_isBelow wsX8_isBelow (xrm 0) (va_Pc [.int x, .int b] (fun _ => True)) (vp_Si (fun r => r = xb (0 ≤ x ∧ x < b))) 0 0 (fun _ => False) := by
  refine Met.ofW (cc := cX8_isBelow) (maxL := 2) (ret := (some .boolean)) (by decide) rfl ?_
  intro p e s m args below meth c s₁ B hml hv
  obtain ⟨rfl, -⟩ := hv
  have S : CallFix p m c cX8_isBelow 2 s _ wsX8_isBelow RX8 := ⟨B.exec, B.bytes, hml, findClass_of_methodNamed B.named, atoms_spec (ws := wsX8_isBelow) B.pre⟩
  have hx := S.1
  have hb := S.2.1
  have hr := B.returns
  have hlocks := B.notSynchronized
  have hl := lv_entry ([.int x, .int b]) (n := 2) (Nat.le_of_ble_eq_true rfl)
  rw [lg_entry_eq]
  generalize (lg_sl ([.int x, .int b]) ++ List.replicate (2 - (lg_sl ([.int x, .int b])).length) Slot.unset).toArray = ls at hl ⊢
  have hl : lv_has ls 2 [(0, .int x), (1, .int b)] := hl
  refine lv_iload_n hx hb dX8_isBelow_0 rfl (lv_at hl 0 rfl) ?_
  refine lv_if_lt (tgt := 13) hx hb dX8_isBelow_1 (by decide) (fun c_1 => ?_) (fun c_1 => ?_)
  · refine lv_iconst (v := nI 0) hx hb dX8_isBelow_13 (by decide) ?_
    exact x_iretR S hlocks hr rfl (by first | exact (xb_f (fun h => xnle h.2 c_6)).symm | exact (xb_f (fun h => xnlt h.1 c_1)).symm) dX8_isBelow_14
  · refine lv_iload_n hx hb dX8_isBelow_4 rfl (lv_at hl 0 rfl) ?_
    refine lv_iload_n hx hb dX8_isBelow_5 rfl (lv_at hl 1 rfl) ?_
    refine lv_icmp_ge (tgt := 13) hx hb dX8_isBelow_6 (by decide) (fun c_6 => ?_) (fun c_6 => ?_)
    · refine lv_iconst (v := nI 0) hx hb dX8_isBelow_13 (by decide) ?_
      exact x_iretR S hlocks hr rfl (by first | exact (xb_f (fun h => xnle h.2 c_6)).symm | exact (xb_f (fun h => xnlt h.1 c_1)).symm) dX8_isBelow_14
    · refine lv_iconst (v := nI 1) hx hb dX8_isBelow_9 (by decide) ?_
      refine lv_goto (tgt := 14) hx hb dX8_isBelow_10 (by decide) ?_
      exact x_iretR S hlocks hr rfl ((xb_t ⟨xlt c_1, xle c_6⟩).symm) dX8_isBelow_14
set_option maxHeartbeats 4000000 in
set_option maxRecDepth 100000 in
theorem c_X8_isShip (l : Launch) (x : Int32)  : Met l yX8_isShip wsX8_isShip (xrm 1) (va_Pc [.int x] (fun _ => True)) (vp_Si (fun r => r = xb (xin x 6))) 0 0 (fun _ => False) := by
  refine Met.ofW (cc := cX8_isShip) (maxL := 1) (ret := (some .boolean)) (by decide) rfl ?_
  intro p e s m args below meth c s₁ B hml hv
  obtain ⟨rfl, -⟩ := hv
  have S : CallFix p m c cX8_isShip 1 s _ wsX8_isShip RX8 := ⟨B.exec, B.bytes, hml, findClass_of_methodNamed B.named, atoms_spec (ws := wsX8_isShip) B.pre⟩
  have hx := S.1
  have hb := S.2.1
  have hr := B.returns
  have hlocks := B.notSynchronized
  have hl := lv_entry ([.int x]) (n := 1) (Nat.le_of_ble_eq_true rfl)
  rw [lg_entry_eq]
  generalize (lg_sl ([.int x]) ++ List.replicate (1 - (lg_sl ([.int x])).length) Slot.unset).toArray = ls at hl ⊢
  have hl : lv_has ls 1 [(0, .int x)] := hl
  refine lv_iload_n hx hb dX8_isShip_0 rfl (lv_at hl 0 rfl) ?_
  refine lv_bipush (v := nI 6) hx hb dX8_isShip_1 (by decide) ?_
  refine x_cSi (As := [.int x, .int (nI 6)]) (rest := []) S (c_X8_isBelow l x (nI 6)  ) (x_cwS (n0 := 2) S gX8_isShip_X8_isBelow rfl (by decide +kernel) ⟨Nat.le_of_ble_eq_true rfl, Nat.le_of_ble_eq_true rfl⟩) rfl hl.1 rfl (Nat.le_of_ble_eq_true rfl) dX8_isShip_3 ⟨Nat.le_refl _, Nat.le_refl _⟩ (fun r_3 hr_3 => ?_)
  subst hr_3
  exact x_iretR S hlocks hr xb_nar (rfl) dX8_isShip_6
set_option maxHeartbeats 4000000 in
set_option maxRecDepth 100000 in
theorem c_X8_isTrait (l : Launch) (w : Int32) (v : Int32)  : Met l yX8_isTrait wsX8_isTrait (xrm 0) (va_Pc [.int w, .int v] (fun _ => True)) (vp_Si (fun r => r = xb ((if w = 0 then (1 : Int32) else 0) ≤ v ∧ v ≤ 9))) 0 0 (fun _ => False) := by
  refine Met.ofW (cc := cX8_isTrait) (maxL := 2) (ret := (some .boolean)) (by decide) rfl ?_
  intro p e s m args below meth c s₁ B hml hv
  obtain ⟨rfl, -⟩ := hv
  have S : CallFix p m c cX8_isTrait 2 s _ wsX8_isTrait RX8 := ⟨B.exec, B.bytes, hml, findClass_of_methodNamed B.named, atoms_spec (ws := wsX8_isTrait) B.pre⟩
  have hx := S.1
  have hb := S.2.1
  have hr := B.returns
  have hlocks := B.notSynchronized
  have hl := lv_entry ([.int w, .int v]) (n := 2) (Nat.le_of_ble_eq_true rfl)
  rw [lg_entry_eq]
  generalize (lg_sl ([.int w, .int v]) ++ List.replicate (2 - (lg_sl ([.int w, .int v])).length) Slot.unset).toArray = ls at hl ⊢
  have hl : lv_has ls 2 [(0, .int w), (1, .int v)] := hl
  refine lv_iload_n hx hb dX8_isTrait_0 rfl (lv_at hl 1 rfl) ?_
  refine lv_iload_n hx hb dX8_isTrait_1 rfl (lv_at hl 0 rfl) ?_
  refine lv_if_ne (tgt := 9) hx hb dX8_isTrait_2 (by decide) (fun c_2 => ?_) (fun c_2 => ?_)
  · refine lv_iconst (v := nI 0) hx hb dX8_isTrait_9 (by decide) ?_
    refine lv_icmp_lt (tgt := 23) hx hb dX8_isTrait_10 (by decide) (fun c_10 => ?_) (fun c_10 => ?_)
    · refine lv_iconst (v := nI 0) hx hb dX8_isTrait_23 (by decide) ?_
      exact x_iretR S hlocks hr rfl (by first | exact (xb_f (fun h => xnlt h.2 c_16)).symm | exact (xb_f (fun h => by have h := h.1; rw [if_neg c_2] at h; exact xnlt h c_10)).symm | exact (xb_f (fun h => by have h := h.1; rw [if_pos c_2] at h; exact xnlt h c_10)).symm) dX8_isTrait_24
    · refine lv_iload_n hx hb dX8_isTrait_13 rfl (lv_at hl 1 rfl) ?_
      refine lv_bipush (v := nI 9) hx hb dX8_isTrait_14 (by decide) ?_
      refine lv_icmp_gt (tgt := 23) hx hb dX8_isTrait_16 (by decide) (fun c_16 => ?_) (fun c_16 => ?_)
      · refine lv_iconst (v := nI 0) hx hb dX8_isTrait_23 (by decide) ?_
        exact x_iretR S hlocks hr rfl (by first | exact (xb_f (fun h => xnlt h.2 c_16)).symm | exact (xb_f (fun h => by have h := h.1; rw [if_neg c_2] at h; exact xnlt h c_10)).symm | exact (xb_f (fun h => by have h := h.1; rw [if_pos c_2] at h; exact xnlt h c_10)).symm) dX8_isTrait_24
      · refine lv_iconst (v := nI 1) hx hb dX8_isTrait_19 (by decide) ?_
        refine lv_goto (tgt := 24) hx hb dX8_isTrait_20 (by decide) ?_
        exact x_iretR S hlocks hr rfl (by first | exact (xb_t ⟨by rw [if_neg c_2]; exact xlt c_10, xlt c_16⟩).symm | exact (xb_t ⟨by rw [if_pos c_2]; exact xlt c_10, xlt c_16⟩).symm) dX8_isTrait_24
  · refine lv_iconst (v := nI 1) hx hb dX8_isTrait_5 (by decide) ?_
    refine lv_goto (tgt := 10) hx hb dX8_isTrait_6 (by decide) ?_
    refine lv_icmp_lt (tgt := 23) hx hb dX8_isTrait_10 (by decide) (fun c_10 => ?_) (fun c_10 => ?_)
    · refine lv_iconst (v := nI 0) hx hb dX8_isTrait_23 (by decide) ?_
      exact x_iretR S hlocks hr rfl (by first | exact (xb_f (fun h => xnlt h.2 c_16)).symm | exact (xb_f (fun h => by have h := h.1; rw [if_neg c_2] at h; exact xnlt h c_10)).symm | exact (xb_f (fun h => by have h := h.1; rw [if_pos c_2] at h; exact xnlt h c_10)).symm) dX8_isTrait_24
    · refine lv_iload_n hx hb dX8_isTrait_13 rfl (lv_at hl 1 rfl) ?_
      refine lv_bipush (v := nI 9) hx hb dX8_isTrait_14 (by decide) ?_
      refine lv_icmp_gt (tgt := 23) hx hb dX8_isTrait_16 (by decide) (fun c_16 => ?_) (fun c_16 => ?_)
      · refine lv_iconst (v := nI 0) hx hb dX8_isTrait_23 (by decide) ?_
        exact x_iretR S hlocks hr rfl (by first | exact (xb_f (fun h => xnlt h.2 c_16)).symm | exact (xb_f (fun h => by have h := h.1; rw [if_neg c_2] at h; exact xnlt h c_10)).symm | exact (xb_f (fun h => by have h := h.1; rw [if_pos c_2] at h; exact xnlt h c_10)).symm) dX8_isTrait_24
      · refine lv_iconst (v := nI 1) hx hb dX8_isTrait_19 (by decide) ?_
        refine lv_goto (tgt := 24) hx hb dX8_isTrait_20 (by decide) ?_
        exact x_iretR S hlocks hr rfl (by first | exact (xb_t ⟨by rw [if_neg c_2]; exact xlt c_10, xlt c_16⟩).symm | exact (xb_t ⟨by rw [if_pos c_2]; exact xlt c_10, xlt c_16⟩).symm) dX8_isTrait_24
set_option maxHeartbeats 4000000 in
set_option maxRecDepth 100000 in
theorem c_X8_isIn (l : Launch) (t : Int32) (x : Int32)  : Met l yX8_isIn wsX8_isIn (xrm 0) (va_Pc [.int t, .int x] (fun _ => True)) (vp_Si (fun r => r = xb ((t >>> (x &&& 31)) &&& 1 = 1))) 0 0 (fun _ => False) := by
  refine Met.ofW (cc := cX8_isIn) (maxL := 2) (ret := (some .boolean)) (by decide) rfl ?_
  intro p e s m args below meth c s₁ B hml hv
  obtain ⟨rfl, -⟩ := hv
  have S : CallFix p m c cX8_isIn 2 s _ wsX8_isIn RX8 := ⟨B.exec, B.bytes, hml, findClass_of_methodNamed B.named, atoms_spec (ws := wsX8_isIn) B.pre⟩
  have hx := S.1
  have hb := S.2.1
  have hr := B.returns
  have hlocks := B.notSynchronized
  have hl := lv_entry ([.int t, .int x]) (n := 2) (Nat.le_of_ble_eq_true rfl)
  rw [lg_entry_eq]
  generalize (lg_sl ([.int t, .int x]) ++ List.replicate (2 - (lg_sl ([.int t, .int x])).length) Slot.unset).toArray = ls at hl ⊢
  have hl : lv_has ls 2 [(0, .int t), (1, .int x)] := hl
  refine lv_iload_n hx hb dX8_isIn_0 rfl (lv_at hl 0 rfl) ?_
  refine lv_iload_n hx hb dX8_isIn_1 rfl (lv_at hl 1 rfl) ?_
  refine lv_ishr hx hb dX8_isIn_2 ?_
  refine lv_iconst (v := nI 1) hx hb dX8_isIn_3 (by decide) ?_
  refine lv_iand hx hb dX8_isIn_4 ?_
  refine lv_iconst (v := nI 1) hx hb dX8_isIn_5 (by decide) ?_
  refine lv_icmp_ne (tgt := 13) hx hb dX8_isIn_6 (by decide) (fun c_6 => ?_) (fun c_6 => ?_)
  · refine lv_iconst (v := nI 0) hx hb dX8_isIn_13 (by decide) ?_
    exact x_iretR S hlocks hr rfl ((xb_f c_6).symm) dX8_isIn_14
  · refine lv_iconst (v := nI 1) hx hb dX8_isIn_9 (by decide) ?_
    refine lv_goto (tgt := 14) hx hb dX8_isIn_10 (by decide) ?_
    exact x_iretR S hlocks hr rfl ((xb_t c_6).symm) dX8_isIn_14
set_option maxHeartbeats 4000000 in
set_option maxRecDepth 100000 in
theorem c_X8_refusal (l : Launch) (x : Int32)  : Met l yX8_refusal wsX8_refusal (xrm 0) (va_Pc [.int x] (fun _ => True)) (vp_Sl (fun r => r = (-9223372036854775808 : Int64) - x.toInt64)) 0 0 (fun _ => False) := by
  refine Met.ofW (cc := cX8_refusal) (maxL := 1) (ret := (some .long)) (by decide) rfl ?_
  intro p e s m args below meth c s₁ B hml hv
  obtain ⟨rfl, -⟩ := hv
  have S : CallFix p m c cX8_refusal 1 s _ wsX8_refusal RX8 := ⟨B.exec, B.bytes, hml, findClass_of_methodNamed B.named, atoms_spec (ws := wsX8_refusal) B.pre⟩
  have hx := S.1
  have hb := S.2.1
  have hr := B.returns
  have hlocks := B.notSynchronized
  have hl := lv_entry ([.int x]) (n := 1) (Nat.le_of_ble_eq_true rfl)
  rw [lg_entry_eq]
  generalize (lg_sl ([.int x]) ++ List.replicate (1 - (lg_sl ([.int x])).length) Slot.unset).toArray = ls at hl ⊢
  have hl : lv_has ls 1 [(0, .int x)] := hl
  refine lv_ldc2 hx hb S.2.2.2.1 (S.2.2.2.2 (.constantLong RX8 350 (-9223372036854775808)) (List.mem_of_getElem? (i := 1) rfl)) dX8_refusal_0 ?_
  refine lv_iload_n hx hb dX8_refusal_3 rfl (lv_at hl 0 rfl) ?_
  refine lv_i2l hx hb dX8_refusal_4 ?_
  refine lv_lsub hx hb dX8_refusal_5 ?_
  exact x_lretR S hlocks hr (rfl) dX8_refusal_6
set_option maxHeartbeats 4000000 in
set_option maxRecDepth 100000 in
theorem c_X4_suits (l : Launch) {D : va_G} {K : Nat → ClassId} {α : Nat → Nat} (σ : Nat → Nat → Int32) (h : Nat) (n : Nat)  (hh : h < 6) (hn : n < 6) : Met l yX4_suits wsX4_suits (xrm 0) (va_Pc [.ref (α 1), .int (nI h), .int (nI n)] (xPre D K 42 α (xC α K) σ)) (vp_Si (fun r => r = xb (xs_fit (xtr 4 σ) h n))) 0 0 (fun _ => False) := by
  refine Met.ofW (cc := cX4_suits) (maxL := 3) (ret := (some .boolean)) (by decide) rfl ?_
  intro p e s m args below meth c s₁ B hml hv
  obtain ⟨rfl, hK, hP⟩ := hv
  have S : CallFix p m c cX4_suits 3 s _ wsX4_suits RX4 := ⟨B.exec, B.bytes, hml, findClass_of_methodNamed B.named, atoms_spec (ws := wsX4_suits) B.pre⟩
  have hx := S.1
  have hb := S.2.1
  have hr := B.returns
  have hlocks := B.notSynchronized
  have hl := lv_entry ([.ref (α 1), .int (nI h), .int (nI n)]) (n := 3) (Nat.le_of_ble_eq_true rfl)
  rw [lg_entry_eq]
  generalize (lg_sl ([.ref (α 1), .int (nI h), .int (nI n)]) ++ List.replicate (3 - (lg_sl ([.ref (α 1), .int (nI h), .int (nI n)])).length) Slot.unset).toArray = ls at hl ⊢
  have hl : lv_has ls 3 [(0, .ref (α 1)), (1, .int (nI h)), (2, .int (nI n))] := hl
  have hPP := hP
  refine lv_aload_n hx hb dX4_suits_0 rfl (lv_at hl 0 rfl) ?_
  refine x_get S (fun w h => List.mem_cons_of_mem _ (List.mem_append_right _ h)) hK hP 1 (by omega) rfl rfl 0 (by decide) (List.mem_of_getElem? (i := 1) rfl) rfl dX4_suits_1 ?_
  refine lv_iconst (v := nI 0) hx hb dX4_suits_4 (by decide) ?_
  refine x_aald S hK hP 2 1 (by omega) rfl rfl rfl (by first | assumption | omega) (by omega) rfl dX4_suits_5 ?_
  refine lv_iload_n hx hb dX4_suits_6 rfl (lv_at hl 1 rfl) ?_
  refine x_iald S hK hP 4 (by omega) rfl (by first | assumption | omega) (by omega) dX4_suits_7 ?_
  refine lv_aload_n hx hb dX4_suits_8 rfl (lv_at hl 0 rfl) ?_
  refine x_get S (fun w h => List.mem_cons_of_mem _ (List.mem_append_right _ h)) hK hP 1 (by omega) rfl rfl 1 (by decide) (List.mem_of_getElem? (i := 2) rfl) rfl dX4_suits_9 ?_
  refine lv_iconst (v := nI 0) hx hb dX4_suits_12 (by decide) ?_
  refine x_aald S hK hP 3 1 (by omega) rfl rfl rfl (by first | assumption | omega) (by omega) rfl dX4_suits_13 ?_
  refine lv_iload_n hx hb dX4_suits_14 rfl (lv_at hl 2 rfl) ?_
  refine x_iald S hK hP 6 (by omega) rfl (by first | assumption | omega) (by omega) dX4_suits_15 ?_
  refine lv_icmp_lt (tgt := 42) hx hb dX4_suits_16 (by decide) (fun c_16 => ?_) (fun c_16 => ?_)
  · refine lv_iconst (v := nI 0) hx hb dX4_suits_42 (by decide) ?_
    exact x_iretR S hlocks hr rfl (by first | exact (xb_f (fun h => xnlt h.2 c_35)).symm | exact (xb_f (fun h => xnlt h.1 c_16)).symm) dX4_suits_43
  · refine lv_aload_n hx hb dX4_suits_19 rfl (lv_at hl 0 rfl) ?_
    refine x_get S (fun w h => List.mem_cons_of_mem _ (List.mem_append_right _ h)) hK hP 1 (by omega) rfl rfl 0 (by decide) (List.mem_of_getElem? (i := 1) rfl) rfl dX4_suits_20 ?_
    refine lv_iconst (v := nI 1) hx hb dX4_suits_23 (by decide) ?_
    refine x_aald S hK hP 2 1 (by omega) rfl rfl rfl (by first | assumption | omega) (by omega) rfl dX4_suits_24 ?_
    refine lv_iload_n hx hb dX4_suits_25 rfl (lv_at hl 1 rfl) ?_
    refine x_iald S hK hP 5 (by omega) rfl (by first | assumption | omega) (by omega) dX4_suits_26 ?_
    refine lv_aload_n hx hb dX4_suits_27 rfl (lv_at hl 0 rfl) ?_
    refine x_get S (fun w h => List.mem_cons_of_mem _ (List.mem_append_right _ h)) hK hP 1 (by omega) rfl rfl 1 (by decide) (List.mem_of_getElem? (i := 2) rfl) rfl dX4_suits_28 ?_
    refine lv_iconst (v := nI 1) hx hb dX4_suits_31 (by decide) ?_
    refine x_aald S hK hP 3 1 (by omega) rfl rfl rfl (by first | assumption | omega) (by omega) rfl dX4_suits_32 ?_
    refine lv_iload_n hx hb dX4_suits_33 rfl (lv_at hl 2 rfl) ?_
    refine x_iald S hK hP 7 (by omega) rfl (by first | assumption | omega) (by omega) dX4_suits_34 ?_
    refine lv_icmp_lt (tgt := 42) hx hb dX4_suits_35 (by decide) (fun c_35 => ?_) (fun c_35 => ?_)
    · refine lv_iconst (v := nI 0) hx hb dX4_suits_42 (by decide) ?_
      exact x_iretR S hlocks hr rfl (by first | exact (xb_f (fun h => xnlt h.2 c_35)).symm | exact (xb_f (fun h => xnlt h.1 c_16)).symm) dX4_suits_43
    · refine lv_iconst (v := nI 1) hx hb dX4_suits_38 (by decide) ?_
      refine lv_goto (tgt := 43) hx hb dX4_suits_39 (by decide) ?_
      exact x_iretR S hlocks hr rfl ((xb_t ⟨xlt c_16, xlt c_35⟩).symm) dX4_suits_43
set_option maxHeartbeats 4000000 in
set_option maxRecDepth 100000 in
theorem c_X4_earning (l : Launch) {D : va_G} {K : Nat → ClassId} {α : Nat → Nat} (σ : Nat → Nat → Int32) (h : Nat) (n : Nat)  (hh : h < 6) (hn : n < 6) : Met l yX4_earning wsX4_earning (xrm 1) (va_Pc [.ref (α 1), .int (nI h), .int (nI n)] (xPre D K 42 α (xC α K) σ)) (vp_Si (fun r => r = xs_earn (xtr 4 σ) h n)) 0 0 (fun _ => False) := by
  refine Met.ofW (cc := cX4_earning) (maxL := 3) (ret := (some .int)) (by decide) rfl ?_
  intro p e s m args below meth c s₁ B hml hv
  obtain ⟨rfl, hK, hP⟩ := hv
  have S : CallFix p m c cX4_earning 3 s _ wsX4_earning RX4 := ⟨B.exec, B.bytes, hml, findClass_of_methodNamed B.named, atoms_spec (ws := wsX4_earning) B.pre⟩
  have hx := S.1
  have hb := S.2.1
  have hr := B.returns
  have hlocks := B.notSynchronized
  have hl := lv_entry ([.ref (α 1), .int (nI h), .int (nI n)]) (n := 3) (Nat.le_of_ble_eq_true rfl)
  rw [lg_entry_eq]
  generalize (lg_sl ([.ref (α 1), .int (nI h), .int (nI n)]) ++ List.replicate (3 - (lg_sl ([.ref (α 1), .int (nI h), .int (nI n)])).length) Slot.unset).toArray = ls at hl ⊢
  have hl : lv_has ls 3 [(0, .ref (α 1)), (1, .int (nI h)), (2, .int (nI n))] := hl
  have hPP := hP
  refine lv_aload_n hx hb dX4_earning_0 rfl (lv_at hl 0 rfl) ?_
  refine lv_iload_n hx hb dX4_earning_1 rfl (lv_at hl 1 rfl) ?_
  refine lv_iload_n hx hb dX4_earning_2 rfl (lv_at hl 2 rfl) ?_
  refine x_cVRi (As := [.int (nI h), .int (nI n)]) (rest := []) S hK hP 1 (by omega) rfl rfl (c_X4_suits l σ h n  (by first | assumption | omega) (by first | assumption | omega)) (x_cwV (n0 := 2) (cq := (RX4, TX4, 2)) S gX4_earning_X4_suits rfl (by decide +kernel) ⟨Nat.le_of_ble_eq_true rfl, Nat.le_of_ble_eq_true rfl⟩) rfl hl.1 rfl (Nat.le_of_ble_eq_true rfl) dX4_earning_3 ⟨Nat.le_refl _, Nat.le_refl _⟩ (fun r_3 hr_3 => ?_)
  subst hr_3
  refine x_if_eqB (tgt := 20) S dX4_earning_6 (by decide) (fun c_6 => ?_) (fun c_6 => ?_)
  · refine lv_iconst (v := nI 0) hx hb dX4_earning_20 (by decide) ?_
    exact x_iretR S hlocks hr rfl ((if_neg c_6).symm) dX4_earning_21
  · refine lv_aload_n hx hb dX4_earning_9 rfl (lv_at hl 0 rfl) ?_
    refine x_get S (fun w h => List.mem_cons_of_mem _ (List.mem_append_right _ h)) hK hP 1 (by omega) rfl rfl 1 (by decide) (List.mem_of_getElem? (i := 1) rfl) rfl dX4_earning_10 ?_
    refine lv_iconst (v := nI 2) hx hb dX4_earning_13 (by decide) ?_
    refine x_aald S hK hP 3 1 (by omega) rfl rfl rfl (by first | assumption | omega) (by omega) rfl dX4_earning_14 ?_
    refine lv_iload_n hx hb dX4_earning_15 rfl (lv_at hl 2 rfl) ?_
    refine x_iald S hK hP 8 (by omega) rfl (by first | assumption | omega) (by omega) dX4_earning_16 ?_
    refine lv_goto (tgt := 21) hx hb dX4_earning_17 (by decide) ?_
    exact x_iretR S hlocks hr rfl ((if_pos c_6).symm) dX4_earning_21
set_option maxHeartbeats 4000000 in
set_option maxRecDepth 100000 in
theorem c_X1_room (l : Launch) {D : va_G} {K : Nat → ClassId} {α : Nat → Nat} (σ : Nat → Nat → Int32)   : Met l yX1_room wsX1_room (xrm 0) (va_Pc [.ref (α 9)] (xPre D K 42 α (xC α K) σ)) (vp_Si (fun r => r = nI 90 - σ 9 1)) 0 0 (fun _ => False) := by
  refine Met.ofW (cc := cX1_room) (maxL := 1) (ret := (some .int)) (by decide) rfl ?_
  intro p e s m args below meth c s₁ B hml hv
  obtain ⟨rfl, hK, hP⟩ := hv
  have S : CallFix p m c cX1_room 1 s _ wsX1_room RX1 := ⟨B.exec, B.bytes, hml, findClass_of_methodNamed B.named, atoms_spec (ws := wsX1_room) B.pre⟩
  have hx := S.1
  have hb := S.2.1
  have hr := B.returns
  have hlocks := B.notSynchronized
  have hl := lv_entry ([.ref (α 9)]) (n := 1) (Nat.le_of_ble_eq_true rfl)
  rw [lg_entry_eq]
  generalize (lg_sl ([.ref (α 9)]) ++ List.replicate (1 - (lg_sl ([.ref (α 9)])).length) Slot.unset).toArray = ls at hl ⊢
  have hl : lv_has ls 1 [(0, .ref (α 9))] := hl
  have hPP := hP
  refine lv_bipush (v := nI 90) hx hb dX1_room_0 (by decide) ?_
  refine lv_aload_n hx hb dX1_room_2 rfl (lv_at hl 0 rfl) ?_
  refine x_get S (fun w h => List.mem_cons_of_mem _ (List.mem_append_right _ h)) hK hP 9 (by omega) rfl rfl 1 (by decide) (List.mem_of_getElem? (i := 1) rfl) rfl dX1_room_3 ?_
  refine lv_isub hx hb dX1_room_6 ?_
  exact x_iretR S hlocks hr rfl (rfl) dX1_room_7
set_option maxHeartbeats 4000000 in
set_option maxRecDepth 100000 in
theorem c_X1_nameOf (l : Launch) {D : va_G} {K : Nat → ClassId} {α : Nat → Nat} (σ : Nat → Nat → Int32) (h : Nat) (y : Nat)  (hy : y * 7 + h < 90) : Met l yX1_nameOf wsX1_nameOf (xrm 0) (va_Pc [.ref (α 9), .int (nI h), .int (nI y)] (xPre D K 42 α (xC α K) σ)) (vp_Si (fun r => r = σ 10 (y * 7 + h) - nI 48)) 0 0 (fun _ => False) := by
  refine Met.ofW (cc := cX1_nameOf) (maxL := 3) (ret := (some .int)) (by decide) rfl ?_
  intro p e s m args below meth c s₁ B hml hv
  obtain ⟨rfl, hK, hP⟩ := hv
  have S : CallFix p m c cX1_nameOf 3 s _ wsX1_nameOf RX1 := ⟨B.exec, B.bytes, hml, findClass_of_methodNamed B.named, atoms_spec (ws := wsX1_nameOf) B.pre⟩
  have hx := S.1
  have hb := S.2.1
  have hr := B.returns
  have hlocks := B.notSynchronized
  have hl := lv_entry ([.ref (α 9), .int (nI h), .int (nI y)]) (n := 3) (Nat.le_of_ble_eq_true rfl)
  rw [lg_entry_eq]
  generalize (lg_sl ([.ref (α 9), .int (nI h), .int (nI y)]) ++ List.replicate (3 - (lg_sl ([.ref (α 9), .int (nI h), .int (nI y)])).length) Slot.unset).toArray = ls at hl ⊢
  have hl : lv_has ls 3 [(0, .ref (α 9)), (1, .int (nI h)), (2, .int (nI y))] := hl
  have hPP := hP
  refine lv_aload_n hx hb dX1_nameOf_0 rfl (lv_at hl 0 rfl) ?_
  refine x_get S (fun w h => List.mem_cons_of_mem _ (List.mem_append_right _ h)) hK hP 9 (by omega) rfl rfl 0 (by decide) (List.mem_of_getElem? (i := 1) rfl) rfl dX1_nameOf_1 ?_
  refine lv_iload_n hx hb dX1_nameOf_4 rfl (lv_at hl 2 rfl) ?_
  refine lv_bipush (v := nI 7) hx hb dX1_nameOf_5 (by decide) ?_
  refine x_imulN S dX1_nameOf_7 ?_
  refine lv_iload_n hx hb dX1_nameOf_8 rfl (lv_at hl 1 rfl) ?_
  refine x_iaddN S dX1_nameOf_9 ?_
  refine x_iald S hK hP 10 (by omega) rfl (by first | assumption | omega) (by omega) dX1_nameOf_10 ?_
  refine lv_bipush (v := nI 48) hx hb dX1_nameOf_11 (by decide) ?_
  refine lv_isub hx hb dX1_nameOf_13 ?_
  exact x_iretR S hlocks hr rfl (rfl) dX1_nameOf_14

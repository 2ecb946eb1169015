set_option maxHeartbeats 4000000 in
set_option maxRecDepth 100000 in
theorem c_X8_isBelow (l : Launch) (x : Int32) (b : Int32)  : Met l yX8_isBelow wsX8_isBelow (xrm 0) (va_Pc [.int x, .int b] (fun _ => True)) (vp_Si (fun r => r = xb (0 ≤ x ∧ x < b))) 0 0 (fun _ => False) := by
  refine Met.ofW (cc := cX8_isBelow) (maxL := 2) (ret := (some .boolean)) (by decide) rfl ?_
  intro p e s m args below meth c s₁ B hml hv
  obtain ⟨rfl, -⟩ := hv
  have S : CallFix p m c cX8_isBelow 2 s _ wsX8_isBelow RX8 := ⟨B.exec, B.bytes, hml, findClass_of_methodNamed B.named, atoms_spec (ws := wsX8_isBelow) B.pre⟩
  have hx := S.1
  have hb := S.2.1
  have hr := B.returns
  have hlocks := B.notSynchronized
  have hl := lv_entry ([.int x, .int b]) (n := 2) (Nat.le_of_ble_eq_true rfl)
  rw [lg_entry_eq]
  generalize (lg_sl ([.int x, .int b]) ++ List.replicate (2 - (lg_sl ([.int x, .int b])).length) Slot.unset).toArray = ls at hl ⊢
  have hl : lv_has ls 2 [(0, .int x), (1, .int b)] := hl
  refine lv_iload_n hx hb dX8_isBelow_0 rfl (lv_at hl 0 rfl) ?_
  refine lv_if_lt (tgt := 13) hx hb dX8_isBelow_1 (by decide) (fun c_1 => ?_) (fun c_1 => ?_)
  · refine lv_iconst (v := nI 0) hx hb dX8_isBelow_13 (by decide) ?_
    exact x_iretR S hlocks hr rfl (by first | exact (xb_f (fun h => xnle h.2 c_6)).symm | exact (xb_f (fun h => xnlt h.1 c_1)).symm) dX8_isBelow_14
  · refine lv_iload_n hx hb dX8_isBelow_4 rfl (lv_at hl 0 rfl) ?_
    refine lv_iload_n hx hb dX8_isBelow_5 rfl (lv_at hl 1 rfl) ?_
    refine lv_icmp_ge (tgt := 13) hx hb dX8_isBelow_6 (by decide) (fun c_6 => ?_) (fun c_6 => ?_)
    · refine lv_iconst (v := nI 0) hx hb dX8_isBelow_13 (by decide) ?_
      exact x_iretR S hlocks hr rfl (by first | exact (xb_f (fun h => xnle h.2 c_6)).symm | exact (xb_f (fun h => xnlt h.1 c_1)).symm) dX8_isBelow_14
    · refine lv_iconst (v := nI 1) hx hb dX8_isBelow_9 (by decide) ?_
      refine lv_goto (tgt := 14) hx hb dX8_isBelow_10 (by decide) ?_
      exact x_iretR S hlocks hr rfl ((xb_t ⟨xlt c_1, xle c_6⟩).symm) dX8_isBelow_14
set_option maxHeartbeats 4000000 in
set_option maxRecDepth 100000 in
theorem c_X8_isShip (l : Launch) (x : Int32)  : Met l yX8_isShip wsX8_isShip (xrm 1) (va_Pc [.int x] (fun _ => True)) (vp_Si (fun r => r = xb (xin x 6))) 0 0 (fun _ => False) := by
  refine Met.ofW (cc := cX8_isShip) (maxL := 1) (ret := (some .boolean)) (by decide) rfl ?_
  intro p e s m args below meth c s₁ B hml hv
  obtain ⟨rfl, -⟩ := hv
  have S : CallFix p m c cX8_isShip 1 s _ wsX8_isShip RX8 := ⟨B.exec, B.bytes, hml, findClass_of_methodNamed B.named, atoms_spec (ws := wsX8_isShip) B.pre⟩
  have hx := S.1
  have hb := S.2.1
  have hr := B.returns
  have hlocks := B.notSynchronized
  have hl := lv_entry ([.int x]) (n := 1) (Nat.le_of_ble_eq_true rfl)
  rw [lg_entry_eq]
  generalize (lg_sl ([.int x]) ++ List.replicate (1 - (lg_sl ([.int x])).length) Slot.unset).toArray = ls at hl ⊢
  have hl : lv_has ls 1 [(0, .int x)] := hl
  refine lv_iload_n hx hb dX8_isShip_0 rfl (lv_at hl 0 rfl) ?_
  refine lv_bipush (v := nI 6) hx hb dX8_isShip_1 (by decide) ?_
  refine x_cSi (As := [.int x, .int (nI 6)]) (rest := []) S (c_X8_isBelow l x (nI 6)  ) (x_cwS (n0 := 2) S gX8_isShip_X8_isBelow rfl (by decide +kernel) ⟨Nat.le_of_ble_eq_true rfl, Nat.le_of_ble_eq_true rfl⟩) rfl hl.1 rfl (Nat.le_of_ble_eq_true rfl) dX8_isShip_3 ⟨Nat.le_refl _, Nat.le_refl _⟩ (fun r_3 hr_3 => ?_)
  subst hr_3
  exact x_iretR S hlocks hr xb_nar (rfl) dX8_isShip_6
set_option maxHeartbeats 4000000 in
set_option maxRecDepth 100000 in
theorem c_X8_isTrait (l : Launch) (w : Int32) (v : Int32)  : Met l yX8_isTrait wsX8_isTrait (xrm 0) (va_Pc [.int w, .int v] (fun _ => True)) (vp_Si (fun r => r = xb ((if w = 0 then (1 : Int32) else 0) ≤ v ∧ v ≤ 9))) 0 0 (fun _ => False) := by
  refine Met.ofW (cc := cX8_isTrait) (maxL := 2) (ret := (some .boolean)) (by decide) rfl ?_
  intro p e s m args below meth c s₁ B hml hv
  obtain ⟨rfl, -⟩ := hv
  have S : CallFix p m c cX8_isTrait 2 s _ wsX8_isTrait RX8 := ⟨B.exec, B.bytes, hml, findClass_of_methodNamed B.named, atoms_spec (ws := wsX8_isTrait) B.pre⟩
  have hx := S.1
  have hb := S.2.1
  have hr := B.returns
  have hlocks := B.notSynchronized
  have hl := lv_entry ([.int w, .int v]) (n := 2) (Nat.le_of_ble_eq_true rfl)
  rw [lg_entry_eq]
  generalize (lg_sl ([.int w, .int v]) ++ List.replicate (2 - (lg_sl ([.int w, .int v])).length) Slot.unset).toArray = ls at hl ⊢
  have hl : lv_has ls 2 [(0, .int w), (1, .int v)] := hl
  refine lv_iload_n hx hb dX8_isTrait_0 rfl (lv_at hl 1 rfl) ?_
  refine lv_iload_n hx hb dX8_isTrait_1 rfl (lv_at hl 0 rfl) ?_
  refine lv_if_ne (tgt := 9) hx hb dX8_isTrait_2 (by decide) (fun c_2 => ?_) (fun c_2 => ?_)
  · refine lv_iconst (v := nI 0) hx hb dX8_isTrait_9 (by decide) ?_
    refine lv_icmp_lt (tgt := 23) hx hb dX8_isTrait_10 (by decide) (fun c_10 => ?_) (fun c_10 => ?_)
    · refine lv_iconst (v := nI 0) hx hb dX8_isTrait_23 (by decide) ?_
      exact x_iretR S hlocks hr rfl (by first | exact (xb_f (fun h => xnlt h.2 c_16)).symm | exact (xb_f (fun h => by have h := h.1; rw [if_neg c_2] at h; exact xnlt h c_10)).symm | exact (xb_f (fun h => by have h := h.1; rw [if_pos c_2] at h; exact xnlt h c_10)).symm) dX8_isTrait_24
    · refine lv_iload_n hx hb dX8_isTrait_13 rfl (lv_at hl 1 rfl) ?_
      refine lv_bipush (v := nI 9) hx hb dX8_isTrait_14 (by decide) ?_
      refine lv_icmp_gt (tgt := 23) hx hb dX8_isTrait_16 (by decide) (fun c_16 => ?_) (fun c_16 => ?_)
      · refine lv_iconst (v := nI 0) hx hb dX8_isTrait_23 (by decide) ?_
        exact x_iretR S hlocks hr rfl (by first | exact (xb_f (fun h => xnlt h.2 c_16)).symm | exact (xb_f (fun h => by have h := h.1; rw [if_neg c_2] at h; exact xnlt h c_10)).symm | exact (xb_f (fun h => by have h := h.1; rw [if_pos c_2] at h; exact xnlt h c_10)).symm) dX8_isTrait_24
      · refine lv_iconst (v := nI 1) hx hb dX8_isTrait_19 (by decide) ?_
        refine lv_goto (tgt := 24) hx hb dX8_isTrait_20 (by decide) ?_
        exact x_iretR S hlocks hr rfl (by first | exact (xb_t ⟨by rw [if_neg c_2]; exact xlt c_10, xlt c_16⟩).symm | exact (xb_t ⟨by rw [if_pos c_2]; exact xlt c_10, xlt c_16⟩).symm) dX8_isTrait_24
  · refine lv_iconst (v := nI 1) hx hb dX8_isTrait_5 (by decide) ?_
    refine lv_goto (tgt := 10) hx hb dX8_isTrait_6 (by decide) ?_
    refine lv_icmp_lt (tgt := 23) hx hb dX8_isTrait_10 (by decide) (fun c_10 => ?_) (fun c_10 => ?_)
    · refine lv_iconst (v := nI 0) hx hb dX8_isTrait_23 (by decide) ?_
      exact x_iretR S hlocks hr rfl (by first | exact (xb_f (fun h => xnlt h.2 c_16)).symm | exact (xb_f (fun h => by have h := h.1; rw [if_neg c_2] at h; exact xnlt h c_10)).symm | exact (xb_f (fun h => by have h := h.1; rw [if_pos c_2] at h; exact xnlt h c_10)).symm) dX8_isTrait_24
    · refine lv_iload_n hx hb dX8_isTrait_13 rfl (lv_at hl 1 rfl) ?_
      refine lv_bipush (v := nI 9) hx hb dX8_isTrait_14 (by decide) ?_
      refine lv_icmp_gt (tgt := 23) hx hb dX8_isTrait_16 (by decide) (fun c_16 => ?_) (fun c_16 => ?_)
      · refine lv_iconst (v := nI 0) hx hb dX8_isTrait_23 (by decide) ?_
        exact x_iretR S hlocks hr rfl (by first | exact (xb_f (fun h => xnlt h.2 c_16)).symm | exact (xb_f (fun h => by have h := h.1; rw [if_neg c_2] at h; exact xnlt h c_10)).symm | exact (xb_f (fun h => by have h := h.1; rw [if_pos c_2] at h; exact xnlt h c_10)).symm) dX8_isTrait_24
      · refine lv_iconst (v := nI 1) hx hb dX8_isTrait_19 (by decide) ?_
        refine lv_goto (tgt := 24) hx hb dX8_isTrait_20 (by decide) ?_
        exact x_iretR S hlocks hr rfl (by first | exact (xb_t ⟨by rw [if_neg c_2]; exact xlt c_10, xlt c_16⟩).symm | exact (xb_t ⟨by rw [if_pos c_2]; exact xlt c_10, xlt c_16⟩).symm) dX8_isTrait_24
set_option maxHeartbeats 4000000 in
set_option maxRecDepth 100000 in
theorem c_X8_isIn (l : Launch) (t : Int32) (x : Int32)  : Met l yX8_isIn wsX8_isIn (xrm 0) (va_Pc [.int t, .int x] (fun _ => True)) (vp_Si (fun r => r = xb ((t >>> (x &&& 31)) &&& 1 = 1))) 0 0 (fun _ => False) := by
  refine Met.ofW (cc := cX8_isIn) (maxL := 2) (ret := (some .boolean)) (by decide) rfl ?_
  intro p e s m args below meth c s₁ B hml hv
  obtain ⟨rfl, -⟩ := hv
  have S : CallFix p m c cX8_isIn 2 s _ wsX8_isIn RX8 := ⟨B.exec, B.bytes, hml, findClass_of_methodNamed B.named, atoms_spec (ws := wsX8_isIn) B.pre⟩
  have hx := S.1
  have hb := S.2.1
  have hr := B.returns
  have hlocks := B.notSynchronized
  have hl := lv_entry ([.int t, .int x]) (n := 2) (Nat.le_of_ble_eq_true rfl)
  rw [lg_entry_eq]
  generalize (lg_sl ([.int t, .int x]) ++ List.replicate (2 - (lg_sl ([.int t, .int x])).length) Slot.unset).toArray = ls at hl ⊢
  have hl : lv_has ls 2 [(0, .int t), (1, .int x)] := hl
  refine lv_iload_n hx hb dX8_isIn_0 rfl (lv_at hl 0 rfl) ?_
  refine lv_iload_n hx hb dX8_isIn_1 rfl (lv_at hl 1 rfl) ?_
  refine lv_ishr hx hb dX8_isIn_2 ?_
  refine lv_iconst (v := nI 1) hx hb dX8_isIn_3 (by decide) ?_
  refine lv_iand hx hb dX8_isIn_4 ?_
  refine lv_iconst (v := nI 1) hx hb dX8_isIn_5 (by decide) ?_
  refine lv_icmp_ne (tgt := 13) hx hb dX8_isIn_6 (by decide) (fun c_6 => ?_) (fun c_6 => ?_)
  · refine lv_iconst (v := nI 0) hx hb dX8_isIn_13 (by decide) ?_
    exact x_iretR S hlocks hr rfl ((xb_f c_6).symm) dX8_isIn_14
  · refine lv_iconst (v := nI 1) hx hb dX8_isIn_9 (by decide) ?_
    refine lv_goto (tgt := 14) hx hb dX8_isIn_10 (by decide) ?_
    exact x_iretR S hlocks hr rfl ((xb_t c_6).symm) dX8_isIn_14
set_option maxHeartbeats 4000000 in
set_option maxRecDepth 100000 in
theorem c_X8_refusal (l : Launch) (x : Int32)  : Met l yX8_refusal wsX8_refusal (xrm 0) (va_Pc [.int x] (fun _ => True)) (vp_Sl (fun r => r = (-9223372036854775808 : Int64) - x.toInt64)) 0 0 (fun _ => False) := by
  refine Met.ofW (cc := cX8_refusal) (maxL := 1) (ret := (some .long)) (by decide) rfl ?_
  intro p e s m args below meth c s₁ B hml hv
  obtain ⟨rfl, -⟩ := hv
  have S : CallFix p m c cX8_refusal 1 s _ wsX8_refusal RX8 := ⟨B.exec, B.bytes, hml, findClass_of_methodNamed B.named, atoms_spec (ws := wsX8_refusal) B.pre⟩
  have hx := S.1
  have hb := S.2.1
  have hr := B.returns
  have hlocks := B.notSynchronized
  have hl := lv_entry ([.int x]) (n := 1) (Nat.le_of_ble_eq_true rfl)
  rw [lg_entry_eq]
  generalize (lg_sl ([.int x]) ++ List.replicate (1 - (lg_sl ([.int x])).length) Slot.unset).toArray = ls at hl ⊢
  have hl : lv_has ls 1 [(0, .int x)] := hl
  refine lv_ldc2 hx hb S.2.2.2.1 (S.2.2.2.2 (.constantLong RX8 350 (-9223372036854775808)) (List.mem_of_getElem? (i := 1) rfl)) dX8_refusal_0 ?_
  refine lv_iload_n hx hb dX8_refusal_3 rfl (lv_at hl 0 rfl) ?_
  refine lv_i2l hx hb dX8_refusal_4 rfl ?_
  refine lv_lsub hx hb dX8_refusal_5 ?_
  exact x_lretR S hlocks hr (rfl) dX8_refusal_6
set_option maxHeartbeats 4000000 in
set_option maxRecDepth 100000 in
theorem c_X4_suits (l : Launch) {D : va_G} {K : Nat → ClassId} {α : Nat → Nat} (σ : Nat → Nat → Int32) (h : Nat) (n : Nat)  (hh : h < 6) (hn : n < 6) : Met l yX4_suits wsX4_suits (xrm 0) (va_Pc [.ref (α 1), .int (nI h), .int (nI n)] (xPre D K 42 α (xC α K) σ)) (vp_Si (fun r => r = xb (xs_fit (xFC σ) h n))) 0 0 (fun _ => False) := by
  refine Met.ofW (cc := cX4_suits) (maxL := 3) (ret := (some .boolean)) (by decide) rfl ?_
  intro p e s m args below meth c s₁ B hml hv
  obtain ⟨rfl, hK, hP⟩ := hv
  have S : CallFix p m c cX4_suits 3 s _ wsX4_suits RX4 := ⟨B.exec, B.bytes, hml, findClass_of_methodNamed B.named, atoms_spec (ws := wsX4_suits) B.pre⟩
  have hx := S.1
  have hb := S.2.1
  have hr := B.returns
  have hlocks := B.notSynchronized
  have hl := lv_entry ([.ref (α 1), .int (nI h), .int (nI n)]) (n := 3) (Nat.le_of_ble_eq_true rfl)
  rw [lg_entry_eq]
  generalize (lg_sl ([.ref (α 1), .int (nI h), .int (nI n)]) ++ List.replicate (3 - (lg_sl ([.ref (α 1), .int (nI h), .int (nI n)])).length) Slot.unset).toArray = ls at hl ⊢
  have hl : lv_has ls 3 [(0, .ref (α 1)), (1, .int (nI h)), (2, .int (nI n))] := hl
  have hPP := hP
  refine lv_aload_n hx hb dX4_suits_0 rfl (lv_at hl 0 rfl) ?_
  refine x_get S (fun w h => List.mem_cons_of_mem _ (List.mem_append_right _ h)) hK hP 1 (by omega) rfl rfl 0 (by decide) (List.mem_of_getElem? (i := 1) rfl) rfl dX4_suits_1 ?_
  refine lv_iconst (v := nI 0) hx hb dX4_suits_4 (by decide) ?_
  refine x_aald S hK hP 2 1 (by omega) rfl rfl rfl (by first | assumption | omega) (by omega) rfl dX4_suits_5 ?_
  refine lv_iload_n hx hb dX4_suits_6 rfl (lv_at hl 1 rfl) ?_
  refine x_iald S hK hP 4 (by omega) rfl (by first | assumption | omega) (by omega) dX4_suits_7 ?_
  refine lv_aload_n hx hb dX4_suits_8 rfl (lv_at hl 0 rfl) ?_
  refine x_get S (fun w h => List.mem_cons_of_mem _ (List.mem_append_right _ h)) hK hP 1 (by omega) rfl rfl 1 (by decide) (List.mem_of_getElem? (i := 2) rfl) rfl dX4_suits_9 ?_
  refine lv_iconst (v := nI 0) hx hb dX4_suits_12 (by decide) ?_
  refine x_aald S hK hP 3 1 (by omega) rfl rfl rfl (by first | assumption | omega) (by omega) rfl dX4_suits_13 ?_
  refine lv_iload_n hx hb dX4_suits_14 rfl (lv_at hl 2 rfl) ?_
  refine x_iald S hK hP 6 (by omega) rfl (by first | assumption | omega) (by omega) dX4_suits_15 ?_
  refine lv_icmp_lt (tgt := 42) hx hb dX4_suits_16 (by decide) (fun c_16 => ?_) (fun c_16 => ?_)
  · refine lv_iconst (v := nI 0) hx hb dX4_suits_42 (by decide) ?_
    exact x_iretR S hlocks hr rfl (by first | exact (xb_f (fun h => xnlt h.2 c_35)).symm | exact (xb_f (fun h => xnlt h.1 c_16)).symm) dX4_suits_43
  · refine lv_aload_n hx hb dX4_suits_19 rfl (lv_at hl 0 rfl) ?_
    refine x_get S (fun w h => List.mem_cons_of_mem _ (List.mem_append_right _ h)) hK hP 1 (by omega) rfl rfl 0 (by decide) (List.mem_of_getElem? (i := 1) rfl) rfl dX4_suits_20 ?_
    refine lv_iconst (v := nI 1) hx hb dX4_suits_23 (by decide) ?_
    refine x_aald S hK hP 2 1 (by omega) rfl rfl rfl (by first | assumption | omega) (by omega) rfl dX4_suits_24 ?_
    refine lv_iload_n hx hb dX4_suits_25 rfl (lv_at hl 1 rfl) ?_
    refine x_iald S hK hP 5 (by omega) rfl (by first | assumption | omega) (by omega) dX4_suits_26 ?_
    refine lv_aload_n hx hb dX4_suits_27 rfl (lv_at hl 0 rfl) ?_
    refine x_get S (fun w h => List.mem_cons_of_mem _ (List.mem_append_right _ h)) hK hP 1 (by omega) rfl rfl 1 (by decide) (List.mem_of_getElem? (i := 2) rfl) rfl dX4_suits_28 ?_
    refine lv_iconst (v := nI 1) hx hb dX4_suits_31 (by decide) ?_
    refine x_aald S hK hP 3 1 (by omega) rfl rfl rfl (by first | assumption | omega) (by omega) rfl dX4_suits_32 ?_
    refine lv_iload_n hx hb dX4_suits_33 rfl (lv_at hl 2 rfl) ?_
    refine x_iald S hK hP 7 (by omega) rfl (by first | assumption | omega) (by omega) dX4_suits_34 ?_
    refine lv_icmp_lt (tgt := 42) hx hb dX4_suits_35 (by decide) (fun c_35 => ?_) (fun c_35 => ?_)
    · refine lv_iconst (v := nI 0) hx hb dX4_suits_42 (by decide) ?_
      exact x_iretR S hlocks hr rfl (by first | exact (xb_f (fun h => xnlt h.2 c_35)).symm | exact (xb_f (fun h => xnlt h.1 c_16)).symm) dX4_suits_43
    · refine lv_iconst (v := nI 1) hx hb dX4_suits_38 (by decide) ?_
      refine lv_goto (tgt := 43) hx hb dX4_suits_39 (by decide) ?_
      exact x_iretR S hlocks hr rfl ((xb_t ⟨xlt c_16, xlt c_35⟩).symm) dX4_suits_43
set_option maxHeartbeats 4000000 in
set_option maxRecDepth 100000 in
theorem c_X4_earning (l : Launch) {D : va_G} {K : Nat → ClassId} {α : Nat → Nat} (σ : Nat → Nat → Int32) (h : Nat) (n : Nat)  (hh : h < 6) (hn : n < 6) : Met l yX4_earning wsX4_earning (xrm 1) (va_Pc [.ref (α 1), .int (nI h), .int (nI n)] (xPre D K 42 α (xC α K) σ)) (vp_Si (fun r => r = xs_earn (xFC σ) h n)) 0 0 (fun _ => False) := by
  refine Met.ofW (cc := cX4_earning) (maxL := 3) (ret := (some .int)) (by decide) rfl ?_
  intro p e s m args below meth c s₁ B hml hv
  obtain ⟨rfl, hK, hP⟩ := hv
  have S : CallFix p m c cX4_earning 3 s _ wsX4_earning RX4 := ⟨B.exec, B.bytes, hml, findClass_of_methodNamed B.named, atoms_spec (ws := wsX4_earning) B.pre⟩
  have hx := S.1
  have hb := S.2.1
  have hr := B.returns
  have hlocks := B.notSynchronized
  have hl := lv_entry ([.ref (α 1), .int (nI h), .int (nI n)]) (n := 3) (Nat.le_of_ble_eq_true rfl)
  rw [lg_entry_eq]
  generalize (lg_sl ([.ref (α 1), .int (nI h), .int (nI n)]) ++ List.replicate (3 - (lg_sl ([.ref (α 1), .int (nI h), .int (nI n)])).length) Slot.unset).toArray = ls at hl ⊢
  have hl : lv_has ls 3 [(0, .ref (α 1)), (1, .int (nI h)), (2, .int (nI n))] := hl
  have hPP := hP
  refine lv_aload_n hx hb dX4_earning_0 rfl (lv_at hl 0 rfl) ?_
  refine lv_iload_n hx hb dX4_earning_1 rfl (lv_at hl 1 rfl) ?_
  refine lv_iload_n hx hb dX4_earning_2 rfl (lv_at hl 2 rfl) ?_
  refine x_cVRi (As := [.int (nI h), .int (nI n)]) (rest := []) S hK hP 1 (by omega) rfl rfl (c_X4_suits l σ h n  (by first | assumption | omega) (by first | assumption | omega)) (x_cwV (n0 := 2) (cq := (RX4, TX4, 2)) S gX4_earning_X4_suits rfl (by decide +kernel) ⟨Nat.le_of_ble_eq_true rfl, Nat.le_of_ble_eq_true rfl⟩) rfl hl.1 rfl (Nat.le_of_ble_eq_true rfl) dX4_earning_3 ⟨Nat.le_refl _, Nat.le_refl _⟩ (fun r_3 hr_3 => ?_)
  subst hr_3
  refine x_if_eqB (tgt := 20) S dX4_earning_6 (by decide) (fun c_6 => ?_) (fun c_6 => ?_)
  · refine lv_iconst (v := nI 0) hx hb dX4_earning_20 (by decide) ?_
    exact x_iretR S hlocks hr rfl ((if_neg c_6).symm) dX4_earning_21
  · refine lv_aload_n hx hb dX4_earning_9 rfl (lv_at hl 0 rfl) ?_
    refine x_get S (fun w h => List.mem_cons_of_mem _ (List.mem_append_right _ h)) hK hP 1 (by omega) rfl rfl 1 (by decide) (List.mem_of_getElem? (i := 1) rfl) rfl dX4_earning_10 ?_
    refine lv_iconst (v := nI 2) hx hb dX4_earning_13 (by decide) ?_
    refine x_aald S hK hP 3 1 (by omega) rfl rfl rfl (by first | assumption | omega) (by omega) rfl dX4_earning_14 ?_
    refine lv_iload_n hx hb dX4_earning_15 rfl (lv_at hl 2 rfl) ?_
    refine x_iald S hK hP 8 (by omega) rfl (by first | assumption | omega) (by omega) dX4_earning_16 ?_
    refine lv_goto (tgt := 21) hx hb dX4_earning_17 (by decide) ?_
    exact x_iretR S hlocks hr rfl ((if_pos c_6).symm) dX4_earning_21
set_option maxHeartbeats 4000000 in
set_option maxRecDepth 100000 in
theorem c_X1_room (l : Launch) {D : va_G} {K : Nat → ClassId} {α : Nat → Nat} (σ : Nat → Nat → Int32)   : Met l yX1_room wsX1_room (xrm 0) (va_Pc [.ref (α 9)] (xPre D K 42 α (xC α K) σ)) (vp_Si (fun r => r = nI 90 - σ 9 1)) 0 0 (fun _ => False) := by
  refine Met.ofW (cc := cX1_room) (maxL := 1) (ret := (some .int)) (by decide) rfl ?_
  intro p e s m args below meth c s₁ B hml hv
  obtain ⟨rfl, hK, hP⟩ := hv
  have S : CallFix p m c cX1_room 1 s _ wsX1_room RX1 := ⟨B.exec, B.bytes, hml, findClass_of_methodNamed B.named, atoms_spec (ws := wsX1_room) B.pre⟩
  have hx := S.1
  have hb := S.2.1
  have hr := B.returns
  have hlocks := B.notSynchronized
  have hl := lv_entry ([.ref (α 9)]) (n := 1) (Nat.le_of_ble_eq_true rfl)
  rw [lg_entry_eq]
  generalize (lg_sl ([.ref (α 9)]) ++ List.replicate (1 - (lg_sl ([.ref (α 9)])).length) Slot.unset).toArray = ls at hl ⊢
  have hl : lv_has ls 1 [(0, .ref (α 9))] := hl
  have hPP := hP
  refine lv_bipush (v := nI 90) hx hb dX1_room_0 (by decide) ?_
  refine lv_aload_n hx hb dX1_room_2 rfl (lv_at hl 0 rfl) ?_
  refine x_get S (fun w h => List.mem_cons_of_mem _ (List.mem_append_right _ h)) hK hP 9 (by omega) rfl rfl 1 (by decide) (List.mem_of_getElem? (i := 1) rfl) rfl dX1_room_3 ?_
  refine lv_isub hx hb dX1_room_6 ?_
  exact x_iretR S hlocks hr rfl (rfl) dX1_room_7
set_option maxHeartbeats 4000000 in
set_option maxRecDepth 100000 in
theorem c_X1_firstFault (l : Launch) {D : va_G} {K : Nat → ClassId} {α : Nat → Nat} (σ : Nat → Nat → Int32) (L : Nat)  (hL : σ 9 1 = nI L) (hL9 : L ≤ 90) : Met l yX1_firstFault wsX1_firstFault (xrm 2) (va_Pc [.ref (α 9)] (xPre D K 42 α (xC α K) σ)) (vp_Si (fun r => r = xt_fault (σ 10) L)) 0 0 (fun _ => False) := by
  refine Met.ofW (cc := cX1_firstFault) (maxL := 4) (ret := (some .int)) (by decide) rfl ?_
  intro p e s m args below meth c s₁ B hml hv
  obtain ⟨rfl, hK, hP⟩ := hv
  have S : CallFix p m c cX1_firstFault 4 s _ wsX1_firstFault RX1 := ⟨B.exec, B.bytes, hml, findClass_of_methodNamed B.named, atoms_spec (ws := wsX1_firstFault) B.pre⟩
  have hx := S.1
  have hb := S.2.1
  have hr := B.returns
  have hlocks := B.notSynchronized
  have hl := lv_entry ([.ref (α 9)]) (n := 4) (Nat.le_of_ble_eq_true rfl)
  rw [lg_entry_eq]
  generalize (lg_sl ([.ref (α 9)]) ++ List.replicate (4 - (lg_sl ([.ref (α 9)])).length) Slot.unset).toArray = ls at hl ⊢
  have hl : lv_has ls 4 [(0, .ref (α 9))] := hl
  have hPP := hP
  refine lv_iconst (v := nI 0) hx hb dX1_firstFault_0 (by decide) ?_
  refine lv_istore_n (lv' := [(1, .int (nI 0)), (0, .ref (α 9))]) hx hb dX1_firstFault_1 rfl hl (by decide) rfl (fun ls hl => ?_)
  refine lv_iconst (v := nI 0) hx hb dX1_firstFault_2 (by decide) ?_
  refine lv_istore_n (lv' := [(2, .int (nI 0)), (1, .int (nI 0)), (0, .ref (α 9))]) hx hb dX1_firstFault_3 rfl hl (by decide) rfl (fun ls hl => ?_)
  refine x_loop (ι := Nat) (fun i ls => (i ≤ L) ∧ (∀ k, k < i → ¬ xt_bad (σ 10) k) ∧ lv_has ls 4 [(2, .int (nI i)), (1, .int (xt_b (σ 10) i)), (0, .ref (α 9))]) (fun i => L - i) ?_ 0 ls ⟨Nat.zero_le L, fun k hk => absurd hk (Nat.not_lt_zero k), lv_sub hl [0, 1, 2] rfl⟩
  intro i ls hinv ih_4
  obtain ⟨hi, hno, hl⟩ := hinv
  have hl : lv_has ls 4 [(2, .int (nI i)), (1, .int (xt_b (σ 10) i)), (0, .ref (α 9))] := hl
  refine lv_iload_n hx hb dX1_firstFault_4 rfl (lv_at hl 0 rfl) ?_
  refine lv_aload_n hx hb dX1_firstFault_5 rfl (lv_at hl 2 rfl) ?_
  refine x_get S (fun w h => List.mem_cons_of_mem _ (List.mem_append_right _ h)) hK hP 9 (by omega) rfl rfl 1 (by decide) (List.mem_of_getElem? (i := 1) rfl) rfl dX1_firstFault_6 ?_
  refine x_top S (y := nI L) (hL) ?_
  refine x_icmpN_ge (tgt := 89) S dX1_firstFault_9 (by decide) (by omega) (by omega) (fun c_9 => ?_) (fun c_9 => ?_)
  · have e9 : xt_fault (σ 10) L = _ := xt_fault_no (fun k hk => hno k (by omega))
    refine lv_aload_n hx hb dX1_firstFault_89 rfl (lv_at hl 2 rfl) ?_
    refine x_get S (fun w h => List.mem_cons_of_mem _ (List.mem_append_right _ h)) hK hP 9 (by omega) rfl rfl 1 (by decide) (List.mem_of_getElem? (i := 1) rfl) rfl dX1_firstFault_90 ?_
    refine x_top S (y := nI L) (hL) ?_
    refine x_ifN_eq (tgt := 108) S dX1_firstFault_93 (by decide) (by omega) (fun c_93 => ?_) (fun c_93 => ?_)
    · refine lv_iconst (v := nI 1) hx hb dX1_firstFault_108 (by decide) ?_
      refine lv_goto (tgt := 113) hx hb dX1_firstFault_109 (by decide) ?_
      refine lv_istore_n (lv' := [(2, .int (nI 1)), (1, .int (xt_b (σ 10) i)), (0, .ref (α 9))]) hx hb dX1_firstFault_113 rfl hl (by decide) rfl (fun ls hl => ?_)
      refine lv_iload_n hx hb dX1_firstFault_114 rfl (lv_at hl 0 rfl) ?_
      refine x_ifN_eq (tgt := 122) S dX1_firstFault_115 (by decide) (by omega) (fun q => absurd q (by omega)) (fun _ => ?_)
      refine lv_iconst (v := (-1)) hx hb dX1_firstFault_118 (by decide) ?_
      refine lv_goto (tgt := 126) hx hb dX1_firstFault_119 (by decide) ?_
      exact x_iretR S hlocks hr rfl (by first | exact (e9.trans (if_pos (Or.inl c_93))).symm | exact (e9.trans (if_pos (Or.inr c_105))).symm) dX1_firstFault_126
    · refine lv_aload_n hx hb dX1_firstFault_96 rfl (lv_at hl 2 rfl) ?_
      refine x_get S (fun w h => List.mem_cons_of_mem _ (List.mem_append_right _ h)) hK hP 9 (by omega) rfl rfl 1 (by decide) (List.mem_of_getElem? (i := 1) rfl) rfl dX1_firstFault_97 ?_
      refine x_top S (y := nI L) (hL) ?_
      refine lv_bipush (v := nI 7) hx hb dX1_firstFault_100 (by decide) ?_
      refine x_iremN S (by omega) (by omega) (by omega) dX1_firstFault_102 ?_
      refine lv_bipush (v := nI 6) hx hb dX1_firstFault_103 (by decide) ?_
      refine x_icmpN_ne (tgt := 112) S dX1_firstFault_105 (by decide) (by omega) (by omega) (fun c_105 => ?_) (fun c_105 => ?_)
      · refine lv_iconst (v := nI 0) hx hb dX1_firstFault_112 (by decide) ?_
        refine lv_istore_n (lv' := [(2, .int (nI 0)), (1, .int (xt_b (σ 10) i)), (0, .ref (α 9))]) hx hb dX1_firstFault_113 rfl hl (by decide) rfl (fun ls hl => ?_)
        refine lv_iload_n hx hb dX1_firstFault_114 rfl (lv_at hl 0 rfl) ?_
        refine x_ifN_eq (tgt := 122) S dX1_firstFault_115 (by decide) (by omega) (fun _ => ?_) (fun q => absurd q (by omega))
        refine lv_aload_n hx hb dX1_firstFault_122 rfl (lv_at hl 2 rfl) ?_
        refine x_get S (fun w h => List.mem_cons_of_mem _ (List.mem_append_right _ h)) hK hP 9 (by omega) rfl rfl 1 (by decide) (List.mem_of_getElem? (i := 1) rfl) rfl dX1_firstFault_123 ?_
        refine x_top S (y := nI L) (hL) ?_
        exact x_iretR S hlocks hr rfl ((e9.trans (if_neg (by omega))).symm) dX1_firstFault_126
      · refine lv_iconst (v := nI 1) hx hb dX1_firstFault_108 (by decide) ?_
        refine lv_goto (tgt := 113) hx hb dX1_firstFault_109 (by decide) ?_
        refine lv_istore_n (lv' := [(2, .int (nI 1)), (1, .int (xt_b (σ 10) i)), (0, .ref (α 9))]) hx hb dX1_firstFault_113 rfl hl (by decide) rfl (fun ls hl => ?_)
        refine lv_iload_n hx hb dX1_firstFault_114 rfl (lv_at hl 0 rfl) ?_
        refine x_ifN_eq (tgt := 122) S dX1_firstFault_115 (by decide) (by omega) (fun q => absurd q (by omega)) (fun _ => ?_)
        refine lv_iconst (v := (-1)) hx hb dX1_firstFault_118 (by decide) ?_
        refine lv_goto (tgt := 126) hx hb dX1_firstFault_119 (by decide) ?_
        exact x_iretR S hlocks hr rfl (by first | exact (e9.trans (if_pos (Or.inl c_93))).symm | exact (e9.trans (if_pos (Or.inr c_105))).symm) dX1_firstFault_126
  · refine lv_iload_n hx hb dX1_firstFault_12 rfl (lv_at hl 0 rfl) ?_
    refine lv_bipush (v := nI 7) hx hb dX1_firstFault_13 (by decide) ?_
    refine x_idivN S (by omega) (by omega) (by omega) dX1_firstFault_15 ?_
    refine lv_bipush (v := nI 12) hx hb dX1_firstFault_16 (by decide) ?_
    refine x_icmpN_ne (tgt := 23) S dX1_firstFault_18 (by decide) (by omega) (by omega) (fun c_18 => ?_) (fun c_18 => ?_)
    · refine lv_iload_n hx hb dX1_firstFault_23 rfl (lv_at hl 0 rfl) ?_
      refine lv_bipush (v := nI 7) hx hb dX1_firstFault_24 (by decide) ?_
      refine x_iremN S (by omega) (by omega) (by omega) dX1_firstFault_26 ?_
      refine lv_bipush (v := nI 6) hx hb dX1_firstFault_27 (by decide) ?_
      refine x_icmpN_ne (tgt := 50) S dX1_firstFault_29 (by decide) (by omega) (by omega) (fun c_29 => ?_) (fun c_29 => ?_)
      · refine lv_aload_n hx hb dX1_firstFault_50 rfl (lv_at hl 2 rfl) ?_
        refine x_get S (fun w h => List.mem_cons_of_mem _ (List.mem_append_right _ h)) hK hP 9 (by omega) rfl rfl 0 (by decide) (List.mem_of_getElem? (i := 2) rfl) rfl dX1_firstFault_51 ?_
        refine lv_iload_n hx hb dX1_firstFault_54 rfl (lv_at hl 0 rfl) ?_
        refine x_iald S hK hP 10 (by omega) rfl (by first | assumption | omega) (by omega) dX1_firstFault_55 ?_
        refine lv_bipush (v := nI 48) hx hb dX1_firstFault_56 (by decide) ?_
        refine lv_isub hx hb dX1_firstFault_58 ?_
        refine lv_istore_n (lv' := [(3, .int ((σ 10 i) - (nI 48))), (2, .int (nI i)), (1, .int (xt_b (σ 10) i)), (0, .ref (α 9))]) hx hb dX1_firstFault_59 rfl hl (by decide) rfl (fun ls hl => ?_)
        refine lv_iload_n hx hb dX1_firstFault_60 rfl (lv_at hl 0 rfl) ?_
        refine x_cNi (As := [.int ((σ 10 i) - (nI 48))]) (rest := []) S (c_X8_isShip l ((σ 10 i) - (nI 48))  ) (x_cwN (n0 := 1) S gX1_firstFault_X8_isShip_n41 rfl hK.2.2.1 (List.mem_of_getElem? (i := 4) rfl) (List.mem_of_getElem? (i := 3) rfl) (by decide +kernel) ⟨Nat.le_of_ble_eq_true rfl, Nat.le_of_ble_eq_true rfl⟩) rfl hl.1 rfl (Nat.le_of_ble_eq_true rfl) dX1_firstFault_61 ⟨Nat.le_refl _, Nat.le_refl _⟩ (fun r_61 hr_61 => ?_)
        subst hr_61
        refine x_if_eqB (tgt := 75) S dX1_firstFault_64 (by decide) (fun c_64 => ?_) (fun c_64 => ?_)
        · refine lv_iload_n hx hb dX1_firstFault_75 rfl (lv_at hl 1 rfl) ?_
          exact x_iretR S hlocks hr rfl (by first | exact (xt_fault_at c_9 hno (Or.inr (Or.inr ⟨c_29, Or.inr c_72⟩))).symm | exact (xt_fault_at c_9 hno (Or.inr (Or.inr ⟨c_29, Or.inl c_64⟩))).symm) dX1_firstFault_76
        · refine lv_iload_n hx hb dX1_firstFault_67 rfl (lv_at hl 2 rfl) ?_
          refine lv_iload_n hx hb dX1_firstFault_68 rfl (lv_at hl 0 rfl) ?_
          refine x_cNi (As := [.int (xt_b (σ 10) i), .int ((σ 10 i) - (nI 48))]) (rest := []) S (c_X8_isIn l (xt_b (σ 10) i) ((σ 10 i) - (nI 48))  ) (x_cwN (n0 := 2) S gX1_firstFault_X8_isIn_n45 rfl hK.2.2.2.1 (List.mem_of_getElem? (i := 4) rfl) (List.mem_of_getElem? (i := 9) rfl) (by decide +kernel) ⟨Nat.le_of_ble_eq_true rfl, Nat.le_of_ble_eq_true rfl⟩) rfl hl.1 rfl (Nat.le_of_ble_eq_true rfl) dX1_firstFault_69 ⟨Nat.le_refl _, Nat.le_refl _⟩ (fun r_69 hr_69 => ?_)
          subst hr_69
          refine x_if_eqB (tgt := 77) S dX1_firstFault_72 (by decide) (fun c_72 => ?_) (fun c_72 => ?_)
          · refine lv_iload_n hx hb dX1_firstFault_77 rfl (lv_at hl 2 rfl) ?_
            refine lv_iconst (v := nI 1) hx hb dX1_firstFault_78 (by decide) ?_
            refine lv_iload_n hx hb dX1_firstFault_79 rfl (lv_at hl 0 rfl) ?_
            refine lv_ishl hx hb dX1_firstFault_80 ?_
            refine lv_ior hx hb dX1_firstFault_81 ?_
            refine lv_istore_n (lv' := [(1, .int ((xt_b (σ 10) i) ||| ((nI 1) <<< (((σ 10 i) - (nI 48)) &&& 31)))), (3, .int ((σ 10 i) - (nI 48))), (2, .int (nI i)), (0, .ref (α 9))]) hx hb dX1_firstFault_82 rfl hl (by decide) rfl (fun ls hl => ?_)
            refine lv_iinc (v := nI (i + 1)) (lv' := [(2, .int (nI (i + 1))), (1, .int ((xt_b (σ 10) i) ||| ((nI 1) <<< (((σ 10 i) - (nI 48)) &&& 31)))), (3, .int ((σ 10 i) - (nI 48))), (0, .ref (α 9))]) hx hb dX1_firstFault_83 hl (k := 2) rfl (nI_add i 1) (by decide) rfl (fun ls hl => ?_)
            refine lv_goto (tgt := 4) hx hb dX1_firstFault_86 (by decide) ?_
            exact ih_4 (i + 1) ls ⟨c_9, lt_s hno (fun q => by rcases q with q | ⟨q, q2⟩ | ⟨q, q2⟩; exact c_18 q; exact c_29 q; rcases q2 with q2 | q2; exact q2 c_64; exact c_72 q2), (by have h9 := lv_sub (l' := [(2, .int (nI (i + 1))), (1, .int ((xt_b (σ 10) i) ||| ((nI 1) <<< (((σ 10 i) - (nI 48)) &&& 31)))), (0, .ref (α 9))]) hl [0, 1, 3] rfl; rw [show xt_b (σ 10) i ||| nI 1 <<< ((σ 10 i - nI 48) &&& 31) = xt_b (σ 10) (i + 1) from (if_neg c_29).symm] at h9; exact h9)⟩ (by (try dsimp only); omega)
          · refine lv_iload_n hx hb dX1_firstFault_75 rfl (lv_at hl 1 rfl) ?_
            exact x_iretR S hlocks hr rfl (by first | exact (xt_fault_at c_9 hno (Or.inr (Or.inr ⟨c_29, Or.inr c_72⟩))).symm | exact (xt_fault_at c_9 hno (Or.inr (Or.inr ⟨c_29, Or.inl c_64⟩))).symm) dX1_firstFault_76
      · refine lv_aload_n hx hb dX1_firstFault_32 rfl (lv_at hl 2 rfl) ?_
        refine x_get S (fun w h => List.mem_cons_of_mem _ (List.mem_append_right _ h)) hK hP 9 (by omega) rfl rfl 0 (by decide) (List.mem_of_getElem? (i := 2) rfl) rfl dX1_firstFault_33 ?_
        refine lv_iload_n hx hb dX1_firstFault_36 rfl (lv_at hl 0 rfl) ?_
        refine x_iald S hK hP 10 (by omega) rfl (by first | assumption | omega) (by omega) dX1_firstFault_37 ?_
        refine lv_bipush (v := nI 59) hx hb dX1_firstFault_38 (by decide) ?_
        refine lv_icmp_eq (tgt := 45) hx hb dX1_firstFault_40 (by decide) (fun c_40 => ?_) (fun c_40 => ?_)
        · refine lv_iconst (v := nI 0) hx hb dX1_firstFault_45 (by decide) ?_
          refine lv_istore_n (lv' := [(1, .int (nI 0)), (2, .int (nI i)), (0, .ref (α 9))]) hx hb dX1_firstFault_46 rfl hl (by decide) rfl (fun ls hl => ?_)
          refine lv_goto (tgt := 83) hx hb dX1_firstFault_47 (by decide) ?_
          refine lv_iinc (v := nI (i + 1)) (lv' := [(2, .int (nI (i + 1))), (1, .int (nI 0)), (0, .ref (α 9))]) hx hb dX1_firstFault_83 hl (k := 1) rfl (nI_add i 1) (by decide) rfl (fun ls hl => ?_)
          refine lv_goto (tgt := 4) hx hb dX1_firstFault_86 (by decide) ?_
          exact ih_4 (i + 1) ls ⟨c_9, lt_s hno (fun q => by rcases q with q | ⟨q, q2⟩ | ⟨q, q2⟩; exact c_18 q; exact q2 c_40; exact q c_29), (by have h9 := lv_sub (l' := [(2, .int (nI (i + 1))), (1, .int (nI 0)), (0, .ref (α 9))]) hl [0, 1, 2] rfl; rw [show nI 0 = xt_b (σ 10) (i + 1) from (if_pos c_29).symm] at h9; exact h9)⟩ (by (try dsimp only); omega)
        · refine lv_iload_n hx hb dX1_firstFault_43 rfl (lv_at hl 0 rfl) ?_
          exact x_iretR S hlocks hr rfl ((xt_fault_at c_9 hno (Or.inr (Or.inl ⟨c_29, c_40⟩))).symm) dX1_firstFault_44
    · refine lv_iload_n hx hb dX1_firstFault_21 rfl (lv_at hl 0 rfl) ?_
      exact x_iretR S hlocks hr rfl ((xt_fault_at c_9 hno (Or.inl c_18)).symm) dX1_firstFault_22
set_option maxHeartbeats 4000000 in
set_option maxRecDepth 100000 in
theorem c_X1_add (l : Launch) {D : va_G} {K : Nat → ClassId} {α : Nat → Nat} (σ : Nat → Nat → Int32) (hI : xw_I 42 α) (b : Int32) (L : Nat)  (hL : σ 9 1 = nI L) (hL9 : L < 90) : Met l yX1_add wsX1_add (xrm 0) (va_Pc [.ref (α 9), .int b] (xPre D K 42 α (xC α K) σ)) (xQv D 42 α (xC α K) (fun τ => τ = xst_add σ L b)) 0 0 (xw_R 42 α) := by
  refine Met.ofW (cc := cX1_add) (maxL := 2) (ret := none) (by decide) rfl ?_
  intro p e s m args below meth c s₁ B hml hv
  obtain ⟨rfl, hK, hP⟩ := hv
  have S : CallFix p m c cX1_add 2 s _ wsX1_add RX1 := ⟨B.exec, B.bytes, hml, findClass_of_methodNamed B.named, atoms_spec (ws := wsX1_add) B.pre⟩
  have hx := S.1
  have hb := S.2.1
  have hr := B.returns
  have hlocks := B.notSynchronized
  have hS : va_S (xw_R 42 α) s.heap s.heap [] := va_S.rf
  have hl := lv_entry ([.ref (α 9), .int b]) (n := 2) (Nat.le_of_ble_eq_true rfl)
  rw [lg_entry_eq]
  generalize (lg_sl ([.ref (α 9), .int b]) ++ List.replicate (2 - (lg_sl ([.ref (α 9), .int b])).length) Slot.unset).toArray = ls at hl ⊢
  have hl : lv_has ls 2 [(0, .ref (α 9)), (1, .int b)] := hl
  have hPP := hP
  refine lv_aload_n hx hb dX1_add_0 rfl (lv_at hl 0 rfl) ?_
  refine x_get S (fun w h => List.mem_cons_of_mem _ (List.mem_append_right _ h)) hK hP 9 (by omega) rfl rfl 1 (by decide) (List.mem_of_getElem? (i := 1) rfl) rfl dX1_add_1 ?_
  refine x_top S (y := nI L) (hL) ?_
  refine lv_bipush (v := nI 90) hx hb dX1_add_4 (by decide) ?_
  refine x_icmpN_ge (tgt := 29) S dX1_add_6 (by decide) (by omega) (by omega) (fun c_6 => ?_) (fun c_6 => ?_)
  · exact absurd c_6 (by omega)
  · refine lv_aload_n hx hb dX1_add_9 rfl (lv_at hl 0 rfl) ?_
    refine x_get S (fun w h => List.mem_cons_of_mem _ (List.mem_append_right _ h)) hK hP 9 (by omega) rfl rfl 0 (by decide) (List.mem_of_getElem? (i := 2) rfl) rfl dX1_add_10 ?_
    refine lv_aload_n hx hb dX1_add_13 rfl (lv_at hl 0 rfl) ?_
    refine x_get S (fun w h => List.mem_cons_of_mem _ (List.mem_append_right _ h)) hK hP 9 (by omega) rfl rfl 1 (by decide) (List.mem_of_getElem? (i := 1) rfl) rfl dX1_add_14 ?_
    refine x_top S (y := nI L) (hL) ?_
    refine lv_iload_n hx hb dX1_add_17 rfl (lv_at hl 1 rfl) ?_
    refine x_iast S hK hP hI hS 10 (by omega) (fun _ => rfl) (by first | assumption | omega) (by omega) dX1_add_18 (fun H locs hP hS => ?_)
    refine lv_aload_n hx hb dX1_add_19 rfl (lv_at hl 0 rfl) ?_
    refine lv_dup hx hb dX1_add_20 rfl ?_
    refine x_get S (fun w h => List.mem_cons_of_mem _ (List.mem_append_right _ h)) hK hP 9 (by omega) rfl rfl 1 (by decide) (List.mem_of_getElem? (i := 1) rfl) rfl dX1_add_21 ?_
    refine x_top S (y := nI L) (by rw [xup_n _ _ (by decide)]; exact hL) ?_
    refine lv_iconst (v := nI 1) hx hb dX1_add_24 (by decide) ?_
    refine x_iaddN S dX1_add_25 ?_
    refine x_put S (fun w h => List.mem_cons_of_mem _ (List.mem_append_right _ h)) tyX1 tyX1_ok nmX1 hK hP hI hS 9 (by omega) rfl rfl 1 (by decide) (List.mem_of_getElem? (i := 1) rfl) rfl (ty := .int) (v := .int (nI (L + 1))) (by decide +kernel) rfl rfl (Nat.le_of_ble_eq_true rfl) (upd ((va_up σ 10 (upd (σ 10) L b)) 9) 1 (nI (L + 1))) rfl dX1_add_26 (fun H locs hP hS => ?_)
    have hP : va_P D vwCl (xw 42 α (xC α K) (xst_add σ L b)) H := by
      rw [show xst_add σ L b = (va_up (va_up σ 10 (upd (σ 10) L b)) 9 (upd ((va_up σ 10 (upd (σ 10) L b)) 9) 1 (nI (L + 1)))) from by unfold xst_add; rw [xup_n _ _ (by decide)]]; exact hP
    exact x_vretW S hlocks hP hS hr (rfl) dX1_add_29
set_option maxHeartbeats 4000000 in
set_option maxRecDepth 100000 in
theorem c_X1_parse (l : Launch) {D : va_G} {K : Nat → ClassId} {α : Nat → Nat} (σ : Nat → Nat → Int32) (hI : xw_I 42 α) (L : Nat)  (hL : σ 9 1 = nI L) (hL9 : L ≤ 90) : Met l yX1_parse wsX1_parse (xrm 3) (va_Pc [.ref (α 9)] (xPre D K 42 α (xC α K) σ)) (xQv D 42 α (xC α K) (fun τ => τ = xst_parse σ L)) 0 0 (xw_R 42 α) := by
  refine Met.ofW (cc := cX1_parse) (maxL := 1) (ret := none) (by decide) rfl ?_
  intro p e s m args below meth c s₁ B hml hv
  obtain ⟨rfl, hK, hP⟩ := hv
  have S : CallFix p m c cX1_parse 1 s _ wsX1_parse RX1 := ⟨B.exec, B.bytes, hml, findClass_of_methodNamed B.named, atoms_spec (ws := wsX1_parse) B.pre⟩
  have hx := S.1
  have hb := S.2.1
  have hr := B.returns
  have hlocks := B.notSynchronized
  have hS : va_S (xw_R 42 α) s.heap s.heap [] := va_S.rf
  have hl := lv_entry ([.ref (α 9)]) (n := 1) (Nat.le_of_ble_eq_true rfl)
  rw [lg_entry_eq]
  generalize (lg_sl ([.ref (α 9)]) ++ List.replicate (1 - (lg_sl ([.ref (α 9)])).length) Slot.unset).toArray = ls at hl ⊢
  have hl : lv_has ls 1 [(0, .ref (α 9))] := hl
  have hPP := hP
  refine lv_aload_n hx hb dX1_parse_0 rfl (lv_at hl 0 rfl) ?_
  refine lv_aload_n hx hb dX1_parse_1 rfl (lv_at hl 0 rfl) ?_
  refine x_cVRi (As := []) (rest := [.ref (α 9)]) S hK hP 9 (by omega) rfl rfl (c_X1_firstFault l σ L  (by first | assumption | omega) (by first | assumption | omega)) (x_cwV (n0 := 0) (cq := (RX1, TX1, 4)) S gX1_parse_X1_firstFault rfl (by decide +kernel) ⟨Nat.le_of_ble_eq_true rfl, Nat.le_of_ble_eq_true rfl⟩) rfl hl.1 rfl (Nat.le_of_ble_eq_true rfl) dX1_parse_2 ⟨Nat.le_refl _, Nat.le_refl _⟩ (fun r_2 hr_2 => ?_)
  subst hr_2
  refine x_put S (fun w h => List.mem_cons_of_mem _ (List.mem_append_right _ h)) tyX1 tyX1_ok nmX1 hK hP hI hS 9 (by omega) rfl rfl 3 (by decide) (List.mem_of_getElem? (i := 1) rfl) rfl (ty := .int) (v := .int (xt_fault (σ 10) L)) (by decide +kernel) rfl rfl (Nat.le_of_ble_eq_true rfl) (upd (σ 9) 3 (xt_fault (σ 10) L)) rfl dX1_parse_5 (fun H locs hP hS => ?_)
  refine lv_aload_n hx hb dX1_parse_8 rfl (lv_at hl 0 rfl) ?_
  refine lv_aload_n hx hb dX1_parse_9 rfl (lv_at hl 0 rfl) ?_
  refine x_get S (fun w h => List.mem_cons_of_mem _ (List.mem_append_right _ h)) hK hP 9 (by omega) rfl rfl 3 (by decide) (List.mem_of_getElem? (i := 1) rfl) rfl dX1_parse_10 ?_
  refine x_top S (y := xt_fault (σ 10) L) (by rw [xup_s, pk_us]) ?_
  refine lv_iconst (v := (-1)) hx hb dX1_parse_13 (by decide) ?_
  refine lv_icmp_ne (tgt := 29) hx hb dX1_parse_14 (by decide) (fun c_14 => ?_) (fun c_14 => ?_)
  · refine lv_iconst (v := nI 0) hx hb dX1_parse_29 (by decide) ?_
    refine x_put S (fun w h => List.mem_cons_of_mem _ (List.mem_append_right _ h)) tyX1 tyX1_ok nmX1 hK hP hI hS 9 (by omega) rfl rfl 2 (by decide) (List.mem_of_getElem? (i := 3) rfl) rfl (ty := .int) (v := .int (nI 0)) (by decide +kernel) rfl rfl (Nat.le_of_ble_eq_true rfl) (upd ((va_up σ 9 (upd (σ 9) 3 (xt_fault (σ 10) L))) 9) 2 (nI 0)) rfl dX1_parse_30 (fun H locs hP hS => ?_)
    exact x_vretW S hlocks hP hS hr (by unfold xst_parse xt_years; first | rw [if_neg c_14, bx_uu, xup_s] | rw [if_pos c_14, bx_uu, xup_s]) dX1_parse_33
  · refine lv_aload_n hx hb dX1_parse_17 rfl (lv_at hl 0 rfl) ?_
    refine x_get S (fun w h => List.mem_cons_of_mem _ (List.mem_append_right _ h)) hK hP 9 (by omega) rfl rfl 1 (by decide) (List.mem_of_getElem? (i := 2) rfl) rfl dX1_parse_18 ?_
    refine x_top S (y := nI L) (by rw [xup_s, pk_un (by decide)]; exact hL) ?_
    refine lv_iconst (v := nI 1) hx hb dX1_parse_21 (by decide) ?_
    refine x_iaddN S dX1_parse_22 ?_
    refine lv_bipush (v := nI 7) hx hb dX1_parse_23 (by decide) ?_
    refine x_idivN S (by omega) (by omega) (by omega) dX1_parse_25 ?_
    refine lv_goto (tgt := 30) hx hb dX1_parse_26 (by decide) ?_
    refine x_put S (fun w h => List.mem_cons_of_mem _ (List.mem_append_right _ h)) tyX1 tyX1_ok nmX1 hK hP hI hS 9 (by omega) rfl rfl 2 (by decide) (List.mem_of_getElem? (i := 3) rfl) rfl (ty := .int) (v := .int (nI ((L + 1) / 7))) (by decide +kernel) rfl rfl (Nat.le_of_ble_eq_true rfl) (upd ((va_up σ 9 (upd (σ 9) 3 (xt_fault (σ 10) L))) 9) 2 (nI ((L + 1) / 7))) rfl dX1_parse_30 (fun H locs hP hS => ?_)
    exact x_vretW S hlocks hP hS hr (by unfold xst_parse xt_years; first | rw [if_neg c_14, bx_uu, xup_s] | rw [if_pos c_14, bx_uu, xup_s]) dX1_parse_33

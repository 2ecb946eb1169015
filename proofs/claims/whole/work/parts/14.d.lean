set_option maxHeartbeats 4000000 in
set_option maxRecDepth 100000 in
theorem c_X3_mayTake (l : Launch) {D : va_G} {K : Nat → ClassId} {α : Nat → Nat} (σ : Nat → Nat → Int32) (t : Nat) (h : Nat) (n : Nat) (A : Nat → Nat)  (hA : ∀ h, h < 6 → σ 21 h = nI (A h) ∧ A h < 64) (ht : t < 64) (hh : h < 6) (hn : n < 6) : Met l yX3_mayTake wsX3_mayTake (xrm 0) (va_Pc [.ref (α 20), .int (nI t), .int (nI h), .int (nI n)] (xPre D K 42 α (xC α K) σ)) (vp_Si (fun r => r = xb (xok A h n t))) 0 0 (fun _ => False) := by
  refine Met.ofW (cc := cX3_mayTake) (maxL := 4) (ret := (some .boolean)) (by decide) rfl ?_
  intro p e s m args below meth c s₁ B hml hv
  obtain ⟨rfl, hK, hP⟩ := hv
  have S : CallFix p m c cX3_mayTake 4 s _ wsX3_mayTake RX3 := ⟨B.exec, B.bytes, hml, findClass_of_methodNamed B.named, atoms_spec (ws := wsX3_mayTake) B.pre⟩
  have hx := S.1
  have hb := S.2.1
  have hr := B.returns
  have hlocks := B.notSynchronized
  have hl := lv_entry ([.ref (α 20), .int (nI t), .int (nI h), .int (nI n)]) (n := 4) (Nat.le_of_ble_eq_true rfl)
  rw [lg_entry_eq]
  generalize (lg_sl ([.ref (α 20), .int (nI t), .int (nI h), .int (nI n)]) ++ List.replicate (4 - (lg_sl ([.ref (α 20), .int (nI t), .int (nI h), .int (nI n)])).length) Slot.unset).toArray = ls at hl ⊢
  have hl : lv_has ls 4 [(0, .ref (α 20)), (1, .int (nI t)), (2, .int (nI h)), (3, .int (nI n))] := hl
  have hPP := hP
  refine lv_aload_n hx hb dX3_mayTake_0 rfl (lv_at hl 0 rfl) ?_
  refine x_get S (fun w h => List.mem_cons_of_mem _ (List.mem_append_right _ h)) hK hP 20 (by omega) rfl rfl 0 (by decide) (List.mem_of_getElem? (i := 1) rfl) rfl dX3_mayTake_1 ?_
  refine lv_iload_n hx hb dX3_mayTake_4 rfl (lv_at hl 2 rfl) ?_
  refine x_iald S hK hP 21 (by omega) rfl (by first | assumption | omega) (by omega) dX3_mayTake_5 ?_
  refine x_top S (y := nI (A h)) ((hA h hh).1) ?_
  refine lv_iload_n hx hb dX3_mayTake_6 rfl (lv_at hl 1 rfl) ?_
  refine lv_iconst (v := (-1)) hx hb dX3_mayTake_7 (by decide) ?_
  refine lv_ixor hx hb dX3_mayTake_8 ?_
  refine lv_iand hx hb dX3_mayTake_9 ?_
  refine lv_iconst (v := nI 1) hx hb dX3_mayTake_10 (by decide) ?_
  refine lv_iload_n hx hb dX3_mayTake_11 rfl (lv_at hl 3 rfl) ?_
  refine lv_ishl hx hb dX3_mayTake_12 ?_
  refine lv_iand hx hb dX3_mayTake_13 ?_
  refine lv_if_eq (tgt := 21) hx hb dX3_mayTake_14 (by decide) (fun c_14 => ?_) (fun c_14 => ?_)
  · refine lv_iconst (v := nI 0) hx hb dX3_mayTake_21 (by decide) ?_
    exact x_iretR S hlocks hr rfl ((xb_f ((xmay (hA h hh).2 ht hn).mp c_14)).symm) dX3_mayTake_22
  · refine lv_iconst (v := nI 1) hx hb dX3_mayTake_17 (by decide) ?_
    refine lv_goto (tgt := 22) hx hb dX3_mayTake_18 (by decide) ?_
    exact x_iretR S hlocks hr rfl ((xb_t (Decidable.byContradiction fun q => c_14 ((xmay (hA h hh).2 ht hn).mpr q))).symm) dX3_mayTake_22
set_option maxHeartbeats 4000000 in
set_option maxRecDepth 100000 in
theorem c_X3_sumTo (l : Launch) {D : va_G} {K : Nat → ClassId} {α : Nat → Nat} (σ : Nat → Nat → Int32) (z : Nat) (A : Nat → Nat)  (hA : ∀ h, h < 6 → σ 21 h = nI (A h) ∧ A h < 64) (hz : z < 64) (hz0 : 0 < z) (hT : ∀ k, k < z → σ 22 k = nI (xto A k)) : Met l yX3_sumTo wsX3_sumTo (xrm 1) (va_Pc [.ref (α 20), .int (nI z)] (xPre D K 42 α (xC α K) σ)) (vp_Si (fun r => r = nI (xto A z))) 0 0 (fun _ => False) := by
  refine Met.ofW (cc := cX3_sumTo) (maxL := 6) (ret := (some .int)) (by decide) rfl ?_
  intro p e s m args below meth c s₁ B hml hv
  obtain ⟨rfl, hK, hP⟩ := hv
  have S : CallFix p m c cX3_sumTo 6 s _ wsX3_sumTo RX3 := ⟨B.exec, B.bytes, hml, findClass_of_methodNamed B.named, atoms_spec (ws := wsX3_sumTo) B.pre⟩
  have hx := S.1
  have hb := S.2.1
  have hr := B.returns
  have hlocks := B.notSynchronized
  have hl := lv_entry ([.ref (α 20), .int (nI z)]) (n := 6) (Nat.le_of_ble_eq_true rfl)
  rw [lg_entry_eq]
  generalize (lg_sl ([.ref (α 20), .int (nI z)]) ++ List.replicate (6 - (lg_sl ([.ref (α 20), .int (nI z)])).length) Slot.unset).toArray = ls at hl ⊢
  have hl : lv_has ls 6 [(0, .ref (α 20)), (1, .int (nI z))] := hl
  have hPP := hP
  have hp9 := xpc_pos hz hz0
  have hp8 := xpc_le z
  refine lv_iload_n hx hb dX3_sumTo_0 rfl (lv_at hl 1 rfl) ?_
  refine x_cSi (As := [.int (nI z)]) (rest := []) S (c_J6_bitCount_0f7a4 l z  (by first | assumption | omega)) (x_cwS (n0 := 1) S gX3_sumTo_J6_bitCount_0f7a4 rfl (by decide +kernel) ⟨Nat.le_of_ble_eq_true rfl, Nat.le_of_ble_eq_true rfl⟩) rfl hl.1 rfl (Nat.le_of_ble_eq_true rfl) dX3_sumTo_1 ⟨Nat.le_refl _, Nat.le_refl _⟩ (fun r_1 hr_1 => ?_)
  subst hr_1
  refine lv_iconst (v := nI 1) hx hb dX3_sumTo_4 (by decide) ?_
  refine x_isubN S (by first | assumption | omega) dX3_sumTo_5 ?_
  refine lv_istore_n (lv' := [(2, .int (nI ((xpc z) - 1))), (0, .ref (α 20)), (1, .int (nI z))]) hx hb dX3_sumTo_6 rfl hl (by decide) rfl (fun ls hl => ?_)
  refine lv_iconst (v := nI 0) hx hb dX3_sumTo_7 (by decide) ?_
  refine lv_istore_n (lv' := [(3, .int (nI 0)), (2, .int (nI ((xpc z) - 1))), (0, .ref (α 20)), (1, .int (nI z))]) hx hb dX3_sumTo_8 rfl hl (by decide) rfl (fun ls hl => ?_)
  refine lv_iconst (v := nI 0) hx hb dX3_sumTo_9 (by decide) ?_
  refine lv_istore (lv' := [(4, .int (nI 0)), (3, .int (nI 0)), (2, .int (nI ((xpc z) - 1))), (0, .ref (α 20)), (1, .int (nI z))]) hx hb dX3_sumTo_10 hl (by decide) rfl (fun ls hl => ?_)
  refine x_loop (ι := Nat) (fun i ls => (i ≤ 6) ∧ lv_has ls 6 [(4, .int (nI i)), (3, .int (nI (fb_sm (fun n => if z.testBit n = true ∧ xok A (xpc z - 1) n (xclr z n) then xto A (xclr z n) else 0) i))), (2, .int (nI ((xpc z) - 1))), (0, .ref (α 20)), (1, .int (nI z))]) (fun i => 6 - i) ?_ 0 ls ⟨Nat.zero_le _, lv_sub hl [0, 1, 2, 3, 4] rfl⟩
  intro i ls hinv ih_12
  obtain ⟨hi, hl⟩ := hinv
  have hl : lv_has ls 6 [(4, .int (nI i)), (3, .int (nI (fb_sm (fun n => if z.testBit n = true ∧ xok A (xpc z - 1) n (xclr z n) then xto A (xclr z n) else 0) i))), (2, .int (nI ((xpc z) - 1))), (0, .ref (α 20)), (1, .int (nI z))] := hl
  refine lv_iload hx hb dX3_sumTo_12 (lv_at hl 0 rfl) ?_
  refine lv_bipush (v := nI 6) hx hb dX3_sumTo_14 (by decide) ?_
  refine x_icmpN_ge (tgt := 63) S dX3_sumTo_16 (by decide) (by omega) (by omega) (fun c_16 => ?_) (fun c_16 => ?_)
  · have e9 : i = 6 := by omega
    subst e9
    refine lv_iload_n hx hb dX3_sumTo_63 rfl (lv_at hl 1 rfl) ?_
    exact x_iretR S hlocks hr rfl (by rw [xto_step A hz hz0]) dX3_sumTo_64
  · refine lv_iload_n hx hb dX3_sumTo_19 rfl (lv_at hl 4 rfl) ?_
    refine lv_iconst (v := nI 1) hx hb dX3_sumTo_20 (by decide) ?_
    refine lv_iload hx hb dX3_sumTo_21 (lv_at hl 0 rfl) ?_
    refine lv_ishl hx hb dX3_sumTo_23 ?_
    refine lv_iconst (v := (-1)) hx hb dX3_sumTo_24 (by decide) ?_
    refine lv_ixor hx hb dX3_sumTo_25 ?_
    refine lv_iand hx hb dX3_sumTo_26 ?_
    refine x_top S (y := nI (xclr z i)) (xclr_I hz (by omega)) ?_
    have hcl := xclr_le z i
    refine lv_istore (lv' := [(5, .int (nI (xclr z i))), (4, .int (nI i)), (3, .int (nI (fb_sm (fun n => if z.testBit n = true ∧ xok A (xpc z - 1) n (xclr z n) then xto A (xclr z n) else 0) i))), (2, .int (nI ((xpc z) - 1))), (0, .ref (α 20)), (1, .int (nI z))]) hx hb dX3_sumTo_27 hl (by decide) rfl (fun ls hl => ?_)
    refine lv_iload hx hb dX3_sumTo_29 (lv_at hl 0 rfl) ?_
    refine lv_iload_n hx hb dX3_sumTo_31 rfl (lv_at hl 5 rfl) ?_
    refine x_icmpN_eq (tgt := 57) S dX3_sumTo_32 (by decide) (by omega) (by omega) (fun c_32 => ?_) (fun c_32 => ?_)
    · refine lv_iinc (v := nI (i + 1)) (lv' := [(4, .int (nI (i + 1))), (5, .int (nI (xclr z i))), (3, .int (nI (fb_sm (fun n => if z.testBit n = true ∧ xok A (xpc z - 1) n (xclr z n) then xto A (xclr z n) else 0) i))), (2, .int (nI ((xpc z) - 1))), (0, .ref (α 20)), (1, .int (nI z))]) hx hb dX3_sumTo_57 hl (k := 1) rfl (nI_add i 1) (by decide) rfl (fun ls hl => ?_)
      refine lv_goto (tgt := 12) hx hb dX3_sumTo_60 (by decide) ?_
      exact ih_12 (i + 1) ls ⟨(by omega), (by have h9 := lv_sub (l' := [(4, .int (nI (i + 1))), (3, .int (nI (fb_sm (fun n => if z.testBit n = true ∧ xok A (xpc z - 1) n (xclr z n) then xto A (xclr z n) else 0) i))), (2, .int (nI ((xpc z) - 1))), (0, .ref (α 20)), (1, .int (nI z))]) hl [0, 2, 3, 4, 5] rfl; rw [show nI (fb_sm (fun n => if z.testBit n = true ∧ xok A (xpc z - 1) n (xclr z n) then xto A (xclr z n) else 0) i) = nI (fb_sm (fun n => if z.testBit n = true ∧ xok A (xpc z - 1) n (xclr z n) then xto A (xclr z n) else 0) (i + 1)) from by rw [fb_sm_succ]; first | rw [if_neg (fun q => absurd c_32 (Nat.ne_of_lt (xclr_lt q.1))), Nat.add_zero] | rw [if_neg (fun q => c_44 q.2), Nat.add_zero]] at h9; exact h9)⟩ (by (try dsimp only); omega)
    · have hbit : z.testBit i = true := by
        cases hq : z.testBit i
        · exact absurd (xclr_no (by rw [hq]; decide)) c_32
        · rfl
      refine lv_aload_n hx hb dX3_sumTo_35 rfl (lv_at hl 4 rfl) ?_
      refine lv_iload hx hb dX3_sumTo_36 (lv_at hl 0 rfl) ?_
      refine lv_iload_n hx hb dX3_sumTo_38 rfl (lv_at hl 3 rfl) ?_
      refine lv_iload hx hb dX3_sumTo_39 (lv_at hl 1 rfl) ?_
      refine x_cVRi (As := [.int (nI (xclr z i)), .int (nI ((xpc z) - 1)), .int (nI i)]) (rest := []) S hK hP 20 (by omega) rfl rfl (c_X3_mayTake l σ (xclr z i) ((xpc z) - 1) i A  (by first | assumption | omega) (by first | assumption | omega) (by first | assumption | omega) (by first | assumption | omega)) (x_cwV (n0 := 3) (cq := (RX3, TX3, 3)) S gX3_sumTo_X3_mayTake rfl (by decide +kernel) ⟨Nat.le_of_ble_eq_true rfl, Nat.le_of_ble_eq_true rfl⟩) rfl hl.1 rfl (Nat.le_of_ble_eq_true rfl) dX3_sumTo_41 ⟨Nat.le_refl _, Nat.le_refl _⟩ (fun r_41 hr_41 => ?_)
      subst hr_41
      refine x_if_eqB (tgt := 57) S dX3_sumTo_44 (by decide) (fun c_44 => ?_) (fun c_44 => ?_)
      · refine lv_iinc (v := nI (i + 1)) (lv' := [(4, .int (nI (i + 1))), (5, .int (nI (xclr z i))), (3, .int (nI (fb_sm (fun n => if z.testBit n = true ∧ xok A (xpc z - 1) n (xclr z n) then xto A (xclr z n) else 0) i))), (2, .int (nI ((xpc z) - 1))), (0, .ref (α 20)), (1, .int (nI z))]) hx hb dX3_sumTo_57 hl (k := 1) rfl (nI_add i 1) (by decide) rfl (fun ls hl => ?_)
        refine lv_goto (tgt := 12) hx hb dX3_sumTo_60 (by decide) ?_
        exact ih_12 (i + 1) ls ⟨(by omega), (by have h9 := lv_sub (l' := [(4, .int (nI (i + 1))), (3, .int (nI (fb_sm (fun n => if z.testBit n = true ∧ xok A (xpc z - 1) n (xclr z n) then xto A (xclr z n) else 0) i))), (2, .int (nI ((xpc z) - 1))), (0, .ref (α 20)), (1, .int (nI z))]) hl [0, 2, 3, 4, 5] rfl; rw [show nI (fb_sm (fun n => if z.testBit n = true ∧ xok A (xpc z - 1) n (xclr z n) then xto A (xclr z n) else 0) i) = nI (fb_sm (fun n => if z.testBit n = true ∧ xok A (xpc z - 1) n (xclr z n) then xto A (xclr z n) else 0) (i + 1)) from by rw [fb_sm_succ]; first | rw [if_neg (fun q => absurd c_32 (Nat.ne_of_lt (xclr_lt q.1))), Nat.add_zero] | rw [if_neg (fun q => c_44 q.2), Nat.add_zero]] at h9; exact h9)⟩ (by (try dsimp only); omega)
      · refine lv_iload_n hx hb dX3_sumTo_47 rfl (lv_at hl 2 rfl) ?_
        refine lv_aload_n hx hb dX3_sumTo_48 rfl (lv_at hl 4 rfl) ?_
        refine x_get S (fun w h => List.mem_cons_of_mem _ (List.mem_append_right _ h)) hK hP 20 (by omega) rfl rfl 1 (by decide) (List.mem_of_getElem? (i := 1) rfl) rfl dX3_sumTo_49 ?_
        refine lv_iload hx hb dX3_sumTo_52 (lv_at hl 0 rfl) ?_
        refine x_iald S hK hP 22 (by omega) rfl (by first | assumption | omega) (by omega) dX3_sumTo_54 ?_
        refine x_top S (y := nI (xto A (xclr z i))) (hT _ (xclr_lt hbit)) ?_
        refine x_iaddN S dX3_sumTo_55 ?_
        refine lv_istore_n (lv' := [(3, .int (nI ((fb_sm (fun n => if z.testBit n = true ∧ xok A (xpc z - 1) n (xclr z n) then xto A (xclr z n) else 0) i) + (xto A (xclr z i))))), (5, .int (nI (xclr z i))), (4, .int (nI i)), (2, .int (nI ((xpc z) - 1))), (0, .ref (α 20)), (1, .int (nI z))]) hx hb dX3_sumTo_56 rfl hl (by decide) rfl (fun ls hl => ?_)
        refine lv_iinc (v := nI (i + 1)) (lv' := [(4, .int (nI (i + 1))), (3, .int (nI ((fb_sm (fun n => if z.testBit n = true ∧ xok A (xpc z - 1) n (xclr z n) then xto A (xclr z n) else 0) i) + (xto A (xclr z i))))), (5, .int (nI (xclr z i))), (2, .int (nI ((xpc z) - 1))), (0, .ref (α 20)), (1, .int (nI z))]) hx hb dX3_sumTo_57 hl (k := 2) rfl (nI_add i 1) (by decide) rfl (fun ls hl => ?_)
        refine lv_goto (tgt := 12) hx hb dX3_sumTo_60 (by decide) ?_
        exact ih_12 (i + 1) ls ⟨(by omega), (by have h9 := lv_sub (l' := [(4, .int (nI (i + 1))), (3, .int (nI ((fb_sm (fun n => if z.testBit n = true ∧ xok A (xpc z - 1) n (xclr z n) then xto A (xclr z n) else 0) i) + (xto A (xclr z i))))), (2, .int (nI ((xpc z) - 1))), (0, .ref (α 20)), (1, .int (nI z))]) hl [0, 1, 3, 4, 5] rfl; rw [show nI ((fb_sm (fun n => if z.testBit n = true ∧ xok A (xpc z - 1) n (xclr z n) then xto A (xclr z n) else 0) i) + (xto A (xclr z i))) = nI (fb_sm (fun n => if z.testBit n = true ∧ xok A (xpc z - 1) n (xclr z n) then xto A (xclr z n) else 0) (i + 1)) from by rw [fb_sm_succ, if_pos ⟨hbit, c_44⟩]] at h9; exact h9)⟩ (by (try dsimp only); omega)
set_option maxHeartbeats 4000000 in
set_option maxRecDepth 100000 in
theorem c_X3_sumOn (l : Launch) {D : va_G} {K : Nat → ClassId} {α : Nat → Nat} (σ : Nat → Nat → Int32) (z : Nat) (A : Nat → Nat)  (hA : ∀ h, h < 6 → σ 21 h = nI (A h) ∧ A h < 64) (hz : z < 63) (hN : ∀ k, z < k → k < 64 → σ 23 k = nI (xon A k)) : Met l yX3_sumOn wsX3_sumOn (xrm 1) (va_Pc [.ref (α 20), .int (nI z)] (xPre D K 42 α (xC α K) σ)) (vp_Si (fun r => r = nI (xon A z))) 0 0 (fun _ => False) := by
  refine Met.ofW (cc := cX3_sumOn) (maxL := 5) (ret := (some .int)) (by decide) rfl ?_
  intro p e s m args below meth c s₁ B hml hv
  obtain ⟨rfl, hK, hP⟩ := hv
  have S : CallFix p m c cX3_sumOn 5 s _ wsX3_sumOn RX3 := ⟨B.exec, B.bytes, hml, findClass_of_methodNamed B.named, atoms_spec (ws := wsX3_sumOn) B.pre⟩
  have hx := S.1
  have hb := S.2.1
  have hr := B.returns
  have hlocks := B.notSynchronized
  have hl := lv_entry ([.ref (α 20), .int (nI z)]) (n := 5) (Nat.le_of_ble_eq_true rfl)
  rw [lg_entry_eq]
  generalize (lg_sl ([.ref (α 20), .int (nI z)]) ++ List.replicate (5 - (lg_sl ([.ref (α 20), .int (nI z)])).length) Slot.unset).toArray = ls at hl ⊢
  have hl : lv_has ls 5 [(0, .ref (α 20)), (1, .int (nI z))] := hl
  have hPP := hP
  have hp9 := xpc_lt hz
  refine lv_iload_n hx hb dX3_sumOn_0 rfl (lv_at hl 1 rfl) ?_
  refine x_cSi (As := [.int (nI z)]) (rest := []) S (c_J6_bitCount_0f7a4 l z  (by first | assumption | omega)) (x_cwS (n0 := 1) S gX3_sumOn_J6_bitCount_0f7a4 rfl (by decide +kernel) ⟨Nat.le_of_ble_eq_true rfl, Nat.le_of_ble_eq_true rfl⟩) rfl hl.1 rfl (Nat.le_of_ble_eq_true rfl) dX3_sumOn_1 ⟨Nat.le_refl _, Nat.le_refl _⟩ (fun r_1 hr_1 => ?_)
  subst hr_1
  refine lv_istore_n (lv' := [(2, .int (nI (xpc z))), (0, .ref (α 20)), (1, .int (nI z))]) hx hb dX3_sumOn_4 rfl hl (by decide) rfl (fun ls hl => ?_)
  refine lv_iconst (v := nI 0) hx hb dX3_sumOn_5 (by decide) ?_
  refine lv_istore_n (lv' := [(3, .int (nI 0)), (2, .int (nI (xpc z))), (0, .ref (α 20)), (1, .int (nI z))]) hx hb dX3_sumOn_6 rfl hl (by decide) rfl (fun ls hl => ?_)
  refine lv_iconst (v := nI 0) hx hb dX3_sumOn_7 (by decide) ?_
  refine lv_istore (lv' := [(4, .int (nI 0)), (3, .int (nI 0)), (2, .int (nI (xpc z))), (0, .ref (α 20)), (1, .int (nI z))]) hx hb dX3_sumOn_8 hl (by decide) rfl (fun ls hl => ?_)
  refine x_loop (ι := Nat) (fun i ls => (i ≤ 6) ∧ lv_has ls 5 [(4, .int (nI i)), (3, .int (nI (fb_sm (fun n => if xok A (xpc z) n z then xon A (z ||| 2 ^ n) else 0) i))), (2, .int (nI (xpc z))), (0, .ref (α 20)), (1, .int (nI z))]) (fun i => 6 - i) ?_ 0 ls ⟨Nat.zero_le _, lv_sub hl [0, 1, 2, 3, 4] rfl⟩
  intro i ls hinv ih_10
  obtain ⟨hi, hl⟩ := hinv
  have hl : lv_has ls 5 [(4, .int (nI i)), (3, .int (nI (fb_sm (fun n => if xok A (xpc z) n z then xon A (z ||| 2 ^ n) else 0) i))), (2, .int (nI (xpc z))), (0, .ref (α 20)), (1, .int (nI z))] := hl
  refine lv_iload hx hb dX3_sumOn_10 (lv_at hl 0 rfl) ?_
  refine lv_bipush (v := nI 6) hx hb dX3_sumOn_12 (by decide) ?_
  refine x_icmpN_ge (tgt := 48) S dX3_sumOn_14 (by decide) (by omega) (by omega) (fun c_14 => ?_) (fun c_14 => ?_)
  · have e9 : i = 6 := by omega
    subst e9
    refine lv_iload_n hx hb dX3_sumOn_48 rfl (lv_at hl 1 rfl) ?_
    exact x_iretR S hlocks hr rfl (by rw [xon_step A (by omega) hp9]) dX3_sumOn_49
  · refine lv_aload_n hx hb dX3_sumOn_17 rfl (lv_at hl 3 rfl) ?_
    refine lv_iload_n hx hb dX3_sumOn_18 rfl (lv_at hl 4 rfl) ?_
    refine lv_iload_n hx hb dX3_sumOn_19 rfl (lv_at hl 2 rfl) ?_
    refine lv_iload hx hb dX3_sumOn_20 (lv_at hl 0 rfl) ?_
    refine x_cVRi (As := [.int (nI z), .int (nI (xpc z)), .int (nI i)]) (rest := []) S hK hP 20 (by omega) rfl rfl (c_X3_mayTake l σ z (xpc z) i A  (by first | assumption | omega) (by first | assumption | omega) (by first | assumption | omega) (by first | assumption | omega)) (x_cwV (n0 := 3) (cq := (RX3, TX3, 3)) S gX3_sumOn_X3_mayTake rfl (by decide +kernel) ⟨Nat.le_of_ble_eq_true rfl, Nat.le_of_ble_eq_true rfl⟩) rfl hl.1 rfl (Nat.le_of_ble_eq_true rfl) dX3_sumOn_22 ⟨Nat.le_refl _, Nat.le_refl _⟩ (fun r_22 hr_22 => ?_)
    subst hr_22
    refine x_if_eqB (tgt := 42) S dX3_sumOn_25 (by decide) (fun c_25 => ?_) (fun c_25 => ?_)
    · refine lv_iinc (v := nI (i + 1)) (lv' := [(4, .int (nI (i + 1))), (3, .int (nI (fb_sm (fun n => if xok A (xpc z) n z then xon A (z ||| 2 ^ n) else 0) i))), (2, .int (nI (xpc z))), (0, .ref (α 20)), (1, .int (nI z))]) hx hb dX3_sumOn_42 hl (k := 0) rfl (nI_add i 1) (by decide) rfl (fun ls hl => ?_)
      refine lv_goto (tgt := 10) hx hb dX3_sumOn_45 (by decide) ?_
      exact ih_10 (i + 1) ls ⟨(by omega), (by have h9 := lv_sub (l' := [(4, .int (nI (i + 1))), (3, .int (nI (fb_sm (fun n => if xok A (xpc z) n z then xon A (z ||| 2 ^ n) else 0) i))), (2, .int (nI (xpc z))), (0, .ref (α 20)), (1, .int (nI z))]) hl [0, 1, 2, 3, 4] rfl; rw [show nI (fb_sm (fun n => if xok A (xpc z) n z then xon A (z ||| 2 ^ n) else 0) i) = nI (fb_sm (fun n => if xok A (xpc z) n z then xon A (z ||| 2 ^ n) else 0) (i + 1)) from by rw [fb_sm_succ, if_neg c_25, Nat.add_zero]] at h9; exact h9)⟩ (by (try dsimp only); omega)
    · refine lv_iload_n hx hb dX3_sumOn_28 rfl (lv_at hl 1 rfl) ?_
      refine lv_aload_n hx hb dX3_sumOn_29 rfl (lv_at hl 3 rfl) ?_
      refine x_get S (fun w h => List.mem_cons_of_mem _ (List.mem_append_right _ h)) hK hP 20 (by omega) rfl rfl 2 (by decide) (List.mem_of_getElem? (i := 1) rfl) rfl dX3_sumOn_30 ?_
      refine lv_iload_n hx hb dX3_sumOn_33 rfl (lv_at hl 4 rfl) ?_
      refine lv_iconst (v := nI 1) hx hb dX3_sumOn_34 (by decide) ?_
      refine lv_iload hx hb dX3_sumOn_35 (lv_at hl 0 rfl) ?_
      refine lv_ishl hx hb dX3_sumOn_37 ?_
      refine lv_ior hx hb dX3_sumOn_38 ?_
      refine x_top S (y := nI (z ||| 2 ^ i)) (xor_I (by omega)) ?_
      have hq1 := xor64 (z := z) (n := i) (by omega) (by omega)
      refine x_iald S hK hP 23 (by omega) rfl (by first | assumption | omega) (by omega) dX3_sumOn_39 ?_
      refine x_top S (y := nI (xon A (z ||| 2 ^ i))) (hN _ (xpc_or (by omega) (by omega) c_25.2).2 hq1) ?_
      refine x_iaddN S dX3_sumOn_40 ?_
      refine lv_istore_n (lv' := [(3, .int (nI ((fb_sm (fun n => if xok A (xpc z) n z then xon A (z ||| 2 ^ n) else 0) i) + (xon A (z ||| 2 ^ i))))), (4, .int (nI i)), (2, .int (nI (xpc z))), (0, .ref (α 20)), (1, .int (nI z))]) hx hb dX3_sumOn_41 rfl hl (by decide) rfl (fun ls hl => ?_)
      refine lv_iinc (v := nI (i + 1)) (lv' := [(4, .int (nI (i + 1))), (3, .int (nI ((fb_sm (fun n => if xok A (xpc z) n z then xon A (z ||| 2 ^ n) else 0) i) + (xon A (z ||| 2 ^ i))))), (2, .int (nI (xpc z))), (0, .ref (α 20)), (1, .int (nI z))]) hx hb dX3_sumOn_42 hl (k := 1) rfl (nI_add i 1) (by decide) rfl (fun ls hl => ?_)
      refine lv_goto (tgt := 10) hx hb dX3_sumOn_45 (by decide) ?_
      exact ih_10 (i + 1) ls ⟨(by omega), (by have h9 := lv_sub (l' := [(4, .int (nI (i + 1))), (3, .int (nI ((fb_sm (fun n => if xok A (xpc z) n z then xon A (z ||| 2 ^ n) else 0) i) + (xon A (z ||| 2 ^ i))))), (2, .int (nI (xpc z))), (0, .ref (α 20)), (1, .int (nI z))]) hl [0, 1, 2, 3, 4] rfl; rw [show nI ((fb_sm (fun n => if xok A (xpc z) n z then xon A (z ||| 2 ^ n) else 0) i) + (xon A (z ||| 2 ^ i))) = nI (fb_sm (fun n => if xok A (xpc z) n z then xon A (z ||| 2 ^ n) else 0) (i + 1)) from by rw [fb_sm_succ, if_pos c_25]] at h9; exact h9)⟩ (by (try dsimp only); omega)
set_option maxHeartbeats 4000000 in
set_option maxRecDepth 100000 in
theorem c_X3_countWays (l : Launch) {D : va_G} {K : Nat → ClassId} {α : Nat → Nat} (σ : Nat → Nat → Int32) (hI : xw_I 42 α) (A : Nat → Nat)  (hA : ∀ h, h < 6 → σ 21 h = nI (A h) ∧ A h < 64) : Met l yX3_countWays wsX3_countWays (xrm 2) (va_Pc [.ref (α 20)] (xPre D K 42 α (xC α K) σ)) (xQv D 42 α (xC α K) (fun τ => τ = xst_cw σ A)) 0 0 (xw_R 42 α) := by
  refine Met.ofW (cc := cX3_countWays) (maxL := 2) (ret := none) (by decide) rfl ?_
  intro p e s m args below meth c s₁ B hml hv
  obtain ⟨rfl, hK, hP⟩ := hv
  have S : CallFix p m c cX3_countWays 2 s _ wsX3_countWays RX3 := ⟨B.exec, B.bytes, hml, findClass_of_methodNamed B.named, atoms_spec (ws := wsX3_countWays) B.pre⟩
  have hx := S.1
  have hb := S.2.1
  have hr := B.returns
  have hlocks := B.notSynchronized
  have hS : va_S (xw_R 42 α) s.heap s.heap [] := va_S.rf
  have hl := lv_entry ([.ref (α 20)]) (n := 2) (Nat.le_of_ble_eq_true rfl)
  rw [lg_entry_eq]
  generalize (lg_sl ([.ref (α 20)]) ++ List.replicate (2 - (lg_sl ([.ref (α 20)])).length) Slot.unset).toArray = ls at hl ⊢
  have hl : lv_has ls 2 [(0, .ref (α 20))] := hl
  have hPP := hP
  refine lv_aload_n hx hb dX3_countWays_0 rfl (lv_at hl 0 rfl) ?_
  refine x_get S (fun w h => List.mem_cons_of_mem _ (List.mem_append_right _ h)) hK hP 20 (by omega) rfl rfl 1 (by decide) (List.mem_of_getElem? (i := 1) rfl) rfl dX3_countWays_1 ?_
  refine lv_iconst (v := nI 0) hx hb dX3_countWays_4 (by decide) ?_
  refine lv_iconst (v := nI 1) hx hb dX3_countWays_5 (by decide) ?_
  refine x_iast S hK hP hI hS 22 (by omega) (fun _ => rfl) (by first | assumption | omega) (by omega) dX3_countWays_6 (fun H locs hP hS => ?_)
  have hP : va_P D vwCl (xw 42 α (xC α K) (va_up σ 22 (fa_fill (fun k => nI (xto A k)) (σ 22) 1))) H := by
    rw [show va_up σ 22 (fa_fill (fun k => nI (xto A k)) (σ 22) 1) = (va_up σ 22 (upd (σ 22) 0 (nI 1))) from by rw [← fa_fill_succ, fa_fill_0]; rfl]; exact hP
  refine lv_iconst (v := nI 1) hx hb dX3_countWays_7 (by decide) ?_
  refine lv_istore_n (lv' := [(1, .int (nI 1)), (0, .ref (α 20))]) hx hb dX3_countWays_8 rfl hl (by decide) rfl (fun ls hl => ?_)
  refine x_loopW (ι := Nat) (fun i H locs ls => (1 ≤ i) ∧ (i ≤ 64) ∧ lv_has ls 2 [(1, .int (nI i)), (0, .ref (α 20))] ∧ va_P D vwCl (xw 42 α (xC α K) (va_up σ 22 (fa_fill (fun k => nI (xto A k)) (σ 22) i))) H ∧ va_S (xw_R 42 α) s.heap H locs) (fun i => 64 - i) ?_ 1 ls ⟨Nat.le_refl _, (by omega), lv_sub hl [0, 1] rfl, hP, hS⟩
  intro i H locs ls hinv ih_9
  obtain ⟨hi, hi2, hl, hP, hS⟩ := hinv
  have hl : lv_has ls 2 [(1, .int (nI i)), (0, .ref (α 20))] := hl
  have hP : va_P D vwCl (xw 42 α (xC α K) (va_up σ 22 (fa_fill (fun k => nI (xto A k)) (σ 22) i))) H := hP
  refine lv_iload_n hx hb dX3_countWays_9 rfl (lv_at hl 0 rfl) ?_
  refine lv_bipush (v := nI 63) hx hb dX3_countWays_10 (by decide) ?_
  refine x_icmpN_gt (tgt := 32) S dX3_countWays_12 (by decide) (by omega) (by omega) (fun c_12 => ?_) (fun c_12 => ?_)
  · have e9 : i = 64 := by omega
    subst e9
    refine lv_aload_n hx hb dX3_countWays_32 rfl (lv_at hl 1 rfl) ?_
    refine x_get S (fun w h => List.mem_cons_of_mem _ (List.mem_append_right _ h)) hK hP 20 (by omega) rfl rfl 2 (by decide) (List.mem_of_getElem? (i := 2) rfl) rfl dX3_countWays_33 ?_
    refine lv_bipush (v := nI 63) hx hb dX3_countWays_36 (by decide) ?_
    refine lv_iconst (v := nI 1) hx hb dX3_countWays_38 (by decide) ?_
    refine x_iast S hK hP hI hS 23 (by omega) (fun _ => rfl) (by first | assumption | omega) (by omega) dX3_countWays_39 (fun H locs hP hS => ?_)
    have hP : va_P D vwCl (xw 42 α (xC α K) (va_up (va_up σ 22 (fa_fill (fun k => nI (xto A k)) (σ 22) 64)) 23 (xfd (fun k => nI (xon A k)) (σ 23) 63 64))) H := by
      rw [show va_up (va_up σ 22 (fa_fill (fun k => nI (xto A k)) (σ 22) 64)) 23 (xfd (fun k => nI (xon A k)) (σ 23) 63 64) = (va_up (va_up σ 22 (fa_fill (fun k => nI (xto A k)) (σ 22) 64)) 23 (upd ((va_up σ 22 (fa_fill (fun k => nI (xto A k)) (σ 22) 64)) 23) 63 (nI 1))) from by rw [xup_n _ _ (by decide), ← xfd_succ _ _ (by decide), xfd_0]; rfl]; exact hP
    refine lv_bipush (v := nI 62) hx hb dX3_countWays_40 (by decide) ?_
    refine lv_istore_n (lv' := [(1, .int (nI 62)), (0, .ref (α 20))]) hx hb dX3_countWays_42 rfl hl (by decide) rfl (fun ls hl => ?_)
    refine x_loopW (ι := Nat) (fun i H locs ls => (i ≤ 63) ∧ lv_has ls 2 [(1, .int (nI i - nI 1)), (0, .ref (α 20))] ∧ va_P D vwCl (xw 42 α (xC α K) (va_up (va_up σ 22 (fa_fill (fun k => nI (xto A k)) (σ 22) 64)) 23 (xfd (fun k => nI (xon A k)) (σ 23) i 64))) H ∧ va_S (xw_R 42 α) s.heap H locs) (fun i => i) ?_ 63 ls ⟨Nat.le_refl _, lv_sub hl [0, 1] rfl, hP, hS⟩
    intro i H locs ls hinv ih_43
    obtain ⟨hi, hl, hP, hS⟩ := hinv
    have hl : lv_has ls 2 [(1, .int (nI i - nI 1)), (0, .ref (α 20))] := hl
    have hP : va_P D vwCl (xw 42 α (xC α K) (va_up (va_up σ 22 (fa_fill (fun k => nI (xto A k)) (σ 22) 64)) 23 (xfd (fun k => nI (xon A k)) (σ 23) i 64))) H := hP
    refine lv_iload_n hx hb dX3_countWays_43 rfl (lv_at hl 0 rfl) ?_
    refine lv_if_lt (tgt := 64) hx hb dX3_countWays_44 (by decide) (fun c_44 => ?_) (fun c_44 => ?_)
    · have e9 : i = 0 := by
        rcases Nat.eq_zero_or_pos i with q | q
        · exact q
        · rw [pk_sub (by omega)] at c_44; exact absurd c_44 (nI_pos (by omega))
      subst e9
      exact x_vretW S hlocks hP hS hr (rfl) dX3_countWays_64
    · obtain ⟨j, rfl⟩ : ∃ j, i = j + 1 := ⟨i - 1, by have := nI_m1_lt c_44; omega⟩
      rw [pk_sub (by omega), Nat.add_sub_cancel] at hl
      refine lv_aload_n hx hb dX3_countWays_47 rfl (lv_at hl 1 rfl) ?_
      refine x_get S (fun w h => List.mem_cons_of_mem _ (List.mem_append_right _ h)) hK hP 20 (by omega) rfl rfl 2 (by decide) (List.mem_of_getElem? (i := 2) rfl) rfl dX3_countWays_48 ?_
      refine lv_iload_n hx hb dX3_countWays_51 rfl (lv_at hl 0 rfl) ?_
      refine lv_aload_n hx hb dX3_countWays_52 rfl (lv_at hl 1 rfl) ?_
      refine lv_iload_n hx hb dX3_countWays_53 rfl (lv_at hl 0 rfl) ?_
      refine x_cVRi (As := [.int (nI j)]) (rest := [.int (nI j), .ref (α 23)]) S hK hP 20 (by omega) rfl rfl (c_X3_sumOn l (va_up (va_up σ 22 (fa_fill (fun k => nI (xto A k)) (σ 22) 64)) 23 (xfd (fun k => nI (xon A k)) (σ 23) (j + 1) 64)) j A  (fun h hh => by rw [xup_n _ _ (by decide), xup_n _ _ (by decide)]; exact hA h hh) (by first | assumption | omega) (fun k h1 h2 => by rw [xup_s, xfd_in (by omega) h2])) (x_cwV (n0 := 1) (cq := (RX3, TX3, 3)) S gX3_countWays_X3_sumOn rfl (by decide +kernel) ⟨Nat.le_of_ble_eq_true rfl, Nat.le_of_ble_eq_true rfl⟩) rfl hl.1 rfl (Nat.le_of_ble_eq_true rfl) dX3_countWays_54 ⟨Nat.le_refl _, Nat.le_refl _⟩ (fun r_54 hr_54 => ?_)
      subst hr_54
      refine x_iast S hK hP hI hS 23 (by omega) (fun _ => rfl) (by first | assumption | omega) (by omega) dX3_countWays_57 (fun H locs hP hS => ?_)
      have hP : va_P D vwCl (xw 42 α (xC α K) (va_up (va_up σ 22 (fa_fill (fun k => nI (xto A k)) (σ 22) 64)) 23 (xfd (fun k => nI (xon A k)) (σ 23) j 64))) H := by
        rw [show va_up (va_up σ 22 (fa_fill (fun k => nI (xto A k)) (σ 22) 64)) 23 (xfd (fun k => nI (xon A k)) (σ 23) j 64) = (va_up (va_up (va_up σ 22 (fa_fill (fun k => nI (xto A k)) (σ 22) 64)) 23 (xfd (fun k => nI (xon A k)) (σ 23) (j + 1) 64)) 23 (upd ((va_up (va_up σ 22 (fa_fill (fun k => nI (xto A k)) (σ 22) 64)) 23 (xfd (fun k => nI (xon A k)) (σ 23) (j + 1) 64)) 23) j (nI (xon A j)))) from by rw [bx_uu, xup_s, xfd_succ _ _ (by omega)]]; exact hP
      refine lv_iinc (v := nI j - nI 1) (lv' := [(1, .int (nI j - nI 1)), (0, .ref (α 20))]) hx hb dX3_countWays_58 hl (k := 0) rfl (by rw [Int32.sub_eq_add_neg]; rfl) (by decide) rfl (fun ls hl => ?_)
      refine lv_goto (tgt := 43) hx hb dX3_countWays_61 (by decide) ?_
      exact ih_43 j H locs ls ⟨(by omega), lv_sub hl [0, 1] rfl, hP, hS⟩ (by (try dsimp only); omega)
  · refine lv_aload_n hx hb dX3_countWays_15 rfl (lv_at hl 1 rfl) ?_
    refine x_get S (fun w h => List.mem_cons_of_mem _ (List.mem_append_right _ h)) hK hP 20 (by omega) rfl rfl 1 (by decide) (List.mem_of_getElem? (i := 1) rfl) rfl dX3_countWays_16 ?_
    refine lv_iload_n hx hb dX3_countWays_19 rfl (lv_at hl 0 rfl) ?_
    refine lv_aload_n hx hb dX3_countWays_20 rfl (lv_at hl 1 rfl) ?_
    refine lv_iload_n hx hb dX3_countWays_21 rfl (lv_at hl 0 rfl) ?_
    refine x_cVRi (As := [.int (nI i)]) (rest := [.int (nI i), .ref (α 22)]) S hK hP 20 (by omega) rfl rfl (c_X3_sumTo l (va_up σ 22 (fa_fill (fun k => nI (xto A k)) (σ 22) i)) i A  (fun h hh => by rw [xup_n _ _ (by decide)]; exact hA h hh) (by first | assumption | omega) (by first | assumption | omega) (fun k hk => by rw [xup_s, fa_fill_in hk])) (x_cwV (n0 := 1) (cq := (RX3, TX3, 3)) S gX3_countWays_X3_sumTo rfl (by decide +kernel) ⟨Nat.le_of_ble_eq_true rfl, Nat.le_of_ble_eq_true rfl⟩) rfl hl.1 rfl (Nat.le_of_ble_eq_true rfl) dX3_countWays_22 ⟨Nat.le_refl _, Nat.le_refl _⟩ (fun r_22 hr_22 => ?_)
    subst hr_22
    refine x_iast S hK hP hI hS 22 (by omega) (fun _ => rfl) (by first | assumption | omega) (by omega) dX3_countWays_25 (fun H locs hP hS => ?_)
    have hP : va_P D vwCl (xw 42 α (xC α K) (va_up σ 22 (fa_fill (fun k => nI (xto A k)) (σ 22) (i + 1)))) H := by
      rw [show va_up σ 22 (fa_fill (fun k => nI (xto A k)) (σ 22) (i + 1)) = (va_up (va_up σ 22 (fa_fill (fun k => nI (xto A k)) (σ 22) i)) 22 (upd ((va_up σ 22 (fa_fill (fun k => nI (xto A k)) (σ 22) i)) 22) i (nI (xto A i)))) from by rw [bx_uu, xup_s, ← fa_fill_succ]]; exact hP
    refine lv_iinc (v := nI (i + 1)) (lv' := [(1, .int (nI (i + 1))), (0, .ref (α 20))]) hx hb dX3_countWays_26 hl (k := 0) rfl (nI_add i 1) (by decide) rfl (fun ls hl => ?_)
    refine lv_goto (tgt := 9) hx hb dX3_countWays_29 (by decide) ?_
    exact ih_9 (i + 1) H locs ls ⟨(by omega), (by omega), lv_sub hl [0, 1] rfl, hP, hS⟩ (by (try dsimp only); omega)
set_option maxHeartbeats 4000000 in
set_option maxRecDepth 100000 in
theorem c_X3_rows (l : Launch) {D : va_G} {K : Nat → ClassId} {α : Nat → Nat} (σ : Nat → Nat → Int32)   : Met l yX3_rows wsX3_rows (xrm 0) (va_Pc [.ref (α 20)] (xPre D K 42 α (xC α K) σ)) (vp_Si (fun r => r = σ 23 0)) 0 0 (fun _ => False) := by
  refine Met.ofW (cc := cX3_rows) (maxL := 1) (ret := (some .int)) (by decide) rfl ?_
  intro p e s m args below meth c s₁ B hml hv
  obtain ⟨rfl, hK, hP⟩ := hv
  have S : CallFix p m c cX3_rows 1 s _ wsX3_rows RX3 := ⟨B.exec, B.bytes, hml, findClass_of_methodNamed B.named, atoms_spec (ws := wsX3_rows) B.pre⟩
  have hx := S.1
  have hb := S.2.1
  have hr := B.returns
  have hlocks := B.notSynchronized
  have hl := lv_entry ([.ref (α 20)]) (n := 1) (Nat.le_of_ble_eq_true rfl)
  rw [lg_entry_eq]
  generalize (lg_sl ([.ref (α 20)]) ++ List.replicate (1 - (lg_sl ([.ref (α 20)])).length) Slot.unset).toArray = ls at hl ⊢
  have hl : lv_has ls 1 [(0, .ref (α 20))] := hl
  have hPP := hP
  refine lv_aload_n hx hb dX3_rows_0 rfl (lv_at hl 0 rfl) ?_
  refine x_get S (fun w h => List.mem_cons_of_mem _ (List.mem_append_right _ h)) hK hP 20 (by omega) rfl rfl 2 (by decide) (List.mem_of_getElem? (i := 1) rfl) rfl dX3_rows_1 ?_
  refine lv_iconst (v := nI 0) hx hb dX3_rows_4 (by decide) ?_
  refine x_iald S hK hP 23 (by omega) rfl (by first | assumption | omega) (by omega) dX3_rows_5 ?_
  exact x_iretR S hlocks hr rfl (rfl) dX3_rows_6
set_option maxHeartbeats 4000000 in
set_option maxRecDepth 100000 in
theorem c_X3_rowsWith (l : Launch) {D : va_G} {K : Nat → ClassId} {α : Nat → Nat} (σ : Nat → Nat → Int32) (h : Nat) (n : Nat) (A : Nat → Nat)  (hA : ∀ h, h < 6 → σ 21 h = nI (A h) ∧ A h < 64) (hT : ∀ k, k < 64 → σ 22 k = nI (xto A k)) (hN : ∀ k, k < 64 → σ 23 k = nI (xon A k)) (hh : h < 6) (hn : n < 6) : Met l yX3_rowsWith wsX3_rowsWith (xrm 1) (va_Pc [.ref (α 20), .int (nI h), .int (nI n)] (xPre D K 42 α (xC α K) σ)) (vp_Si (fun r => r = nI (xrw A h n))) 0 0 (fun _ => False) := by
  refine Met.ofW (cc := cX3_rowsWith) (maxL := 5) (ret := (some .int)) (by decide) rfl ?_
  intro p e s m args below meth c s₁ B hml hv
  obtain ⟨rfl, hK, hP⟩ := hv
  have S : CallFix p m c cX3_rowsWith 5 s _ wsX3_rowsWith RX3 := ⟨B.exec, B.bytes, hml, findClass_of_methodNamed B.named, atoms_spec (ws := wsX3_rowsWith) B.pre⟩
  have hx := S.1
  have hb := S.2.1
  have hr := B.returns
  have hlocks := B.notSynchronized
  have hl := lv_entry ([.ref (α 20), .int (nI h), .int (nI n)]) (n := 5) (Nat.le_of_ble_eq_true rfl)
  rw [lg_entry_eq]
  generalize (lg_sl ([.ref (α 20), .int (nI h), .int (nI n)]) ++ List.replicate (5 - (lg_sl ([.ref (α 20), .int (nI h), .int (nI n)])).length) Slot.unset).toArray = ls at hl ⊢
  have hl : lv_has ls 5 [(0, .ref (α 20)), (1, .int (nI h)), (2, .int (nI n))] := hl
  have hPP := hP
  refine lv_iconst (v := nI 0) hx hb dX3_rowsWith_0 (by decide) ?_
  refine lv_istore_n (lv' := [(3, .int (nI 0)), (0, .ref (α 20)), (1, .int (nI h)), (2, .int (nI n))]) hx hb dX3_rowsWith_1 rfl hl (by decide) rfl (fun ls hl => ?_)
  refine lv_iconst (v := nI 0) hx hb dX3_rowsWith_2 (by decide) ?_
  refine lv_istore (lv' := [(4, .int (nI 0)), (3, .int (nI 0)), (0, .ref (α 20)), (1, .int (nI h)), (2, .int (nI n))]) hx hb dX3_rowsWith_3 hl (by decide) rfl (fun ls hl => ?_)
  refine x_loop (ι := Nat) (fun i ls => (i ≤ 64) ∧ lv_has ls 5 [(4, .int (nI i)), (3, .int (nI (fb_sm (fun z => if xpc z = h ∧ xok A h n z then xto A z * xon A (z ||| 2 ^ n) else 0) i))), (0, .ref (α 20)), (1, .int (nI h)), (2, .int (nI n))]) (fun i => 64 - i) ?_ 0 ls ⟨Nat.zero_le _, lv_sub hl [0, 1, 2, 3, 4] rfl⟩
  intro i ls hinv ih_5
  obtain ⟨hi, hl⟩ := hinv
  have hl : lv_has ls 5 [(4, .int (nI i)), (3, .int (nI (fb_sm (fun z => if xpc z = h ∧ xok A h n z then xto A z * xon A (z ||| 2 ^ n) else 0) i))), (0, .ref (α 20)), (1, .int (nI h)), (2, .int (nI n))] := hl
  refine lv_iload hx hb dX3_rowsWith_5 (lv_at hl 0 rfl) ?_
  refine lv_bipush (v := nI 63) hx hb dX3_rowsWith_7 (by decide) ?_
  refine x_icmpN_gt (tgt := 60) S dX3_rowsWith_9 (by decide) (by omega) (by omega) (fun c_9 => ?_) (fun c_9 => ?_)
  · have e9 : i = 64 := by omega
    subst e9
    refine lv_iload_n hx hb dX3_rowsWith_60 rfl (lv_at hl 1 rfl) ?_
    exact x_iretR S hlocks hr rfl (rfl) dX3_rowsWith_61
  · refine lv_iload hx hb dX3_rowsWith_12 (lv_at hl 0 rfl) ?_
    refine x_cSi (As := [.int (nI i)]) (rest := []) S (c_J6_bitCount_0f7a4 l i  (by first | assumption | omega)) (x_cwS (n0 := 1) S gX3_rowsWith_J6_bitCount_0f7a4 rfl (by decide +kernel) ⟨Nat.le_of_ble_eq_true rfl, Nat.le_of_ble_eq_true rfl⟩) rfl hl.1 rfl (Nat.le_of_ble_eq_true rfl) dX3_rowsWith_14 ⟨Nat.le_refl _, Nat.le_refl _⟩ (fun r_14 hr_14 => ?_)
    subst hr_14
    have hp9 := xpc_le i
    refine lv_iload_n hx hb dX3_rowsWith_17 rfl (lv_at hl 3 rfl) ?_
    refine x_icmpN_ne (tgt := 54) S dX3_rowsWith_18 (by decide) (by omega) (by omega) (fun c_18 => ?_) (fun c_18 => ?_)
    · refine lv_iinc (v := nI (i + 1)) (lv' := [(4, .int (nI (i + 1))), (3, .int (nI (fb_sm (fun z => if xpc z = h ∧ xok A h n z then xto A z * xon A (z ||| 2 ^ n) else 0) i))), (0, .ref (α 20)), (1, .int (nI h)), (2, .int (nI n))]) hx hb dX3_rowsWith_54 hl (k := 0) rfl (nI_add i 1) (by decide) rfl (fun ls hl => ?_)
      refine lv_goto (tgt := 5) hx hb dX3_rowsWith_57 (by decide) ?_
      exact ih_5 (i + 1) ls ⟨(by omega), (by have h9 := lv_sub (l' := [(4, .int (nI (i + 1))), (3, .int (nI (fb_sm (fun z => if xpc z = h ∧ xok A h n z then xto A z * xon A (z ||| 2 ^ n) else 0) i))), (0, .ref (α 20)), (1, .int (nI h)), (2, .int (nI n))]) hl [0, 1, 2, 3, 4] rfl; rw [show nI (fb_sm (fun z => if xpc z = h ∧ xok A h n z then xto A z * xon A (z ||| 2 ^ n) else 0) i) = nI (fb_sm (fun z => if xpc z = h ∧ xok A h n z then xto A z * xon A (z ||| 2 ^ n) else 0) (i + 1)) from by rw [fb_sm_succ]; first | rw [if_neg (fun q => c_18 q.1), Nat.add_zero] | rw [if_neg (fun q => c_29 q.2), Nat.add_zero]] at h9; exact h9)⟩ (by (try dsimp only); omega)
    · refine lv_aload_n hx hb dX3_rowsWith_21 rfl (lv_at hl 2 rfl) ?_
      refine lv_iload hx hb dX3_rowsWith_22 (lv_at hl 0 rfl) ?_
      refine lv_iload_n hx hb dX3_rowsWith_24 rfl (lv_at hl 3 rfl) ?_
      refine lv_iload_n hx hb dX3_rowsWith_25 rfl (lv_at hl 4 rfl) ?_
      refine x_cVRi (As := [.int (nI i), .int (nI h), .int (nI n)]) (rest := []) S hK hP 20 (by omega) rfl rfl (c_X3_mayTake l σ i h n A  (by first | assumption | omega) (by first | assumption | omega) (by first | assumption | omega) (by first | assumption | omega)) (x_cwV (n0 := 3) (cq := (RX3, TX3, 3)) S gX3_rowsWith_X3_mayTake rfl (by decide +kernel) ⟨Nat.le_of_ble_eq_true rfl, Nat.le_of_ble_eq_true rfl⟩) rfl hl.1 rfl (Nat.le_of_ble_eq_true rfl) dX3_rowsWith_26 ⟨Nat.le_refl _, Nat.le_refl _⟩ (fun r_26 hr_26 => ?_)
      subst hr_26
      refine x_if_eqB (tgt := 54) S dX3_rowsWith_29 (by decide) (fun c_29 => ?_) (fun c_29 => ?_)
      · refine lv_iinc (v := nI (i + 1)) (lv' := [(4, .int (nI (i + 1))), (3, .int (nI (fb_sm (fun z => if xpc z = h ∧ xok A h n z then xto A z * xon A (z ||| 2 ^ n) else 0) i))), (0, .ref (α 20)), (1, .int (nI h)), (2, .int (nI n))]) hx hb dX3_rowsWith_54 hl (k := 0) rfl (nI_add i 1) (by decide) rfl (fun ls hl => ?_)
        refine lv_goto (tgt := 5) hx hb dX3_rowsWith_57 (by decide) ?_
        exact ih_5 (i + 1) ls ⟨(by omega), (by have h9 := lv_sub (l' := [(4, .int (nI (i + 1))), (3, .int (nI (fb_sm (fun z => if xpc z = h ∧ xok A h n z then xto A z * xon A (z ||| 2 ^ n) else 0) i))), (0, .ref (α 20)), (1, .int (nI h)), (2, .int (nI n))]) hl [0, 1, 2, 3, 4] rfl; rw [show nI (fb_sm (fun z => if xpc z = h ∧ xok A h n z then xto A z * xon A (z ||| 2 ^ n) else 0) i) = nI (fb_sm (fun z => if xpc z = h ∧ xok A h n z then xto A z * xon A (z ||| 2 ^ n) else 0) (i + 1)) from by rw [fb_sm_succ]; first | rw [if_neg (fun q => c_18 q.1), Nat.add_zero] | rw [if_neg (fun q => c_29 q.2), Nat.add_zero]] at h9; exact h9)⟩ (by (try dsimp only); omega)
      · refine lv_iload_n hx hb dX3_rowsWith_32 rfl (lv_at hl 1 rfl) ?_
        refine lv_aload_n hx hb dX3_rowsWith_33 rfl (lv_at hl 2 rfl) ?_
        refine x_get S (fun w h => List.mem_cons_of_mem _ (List.mem_append_right _ h)) hK hP 20 (by omega) rfl rfl 1 (by decide) (List.mem_of_getElem? (i := 1) rfl) rfl dX3_rowsWith_34 ?_
        refine lv_iload hx hb dX3_rowsWith_37 (lv_at hl 0 rfl) ?_
        refine x_iald S hK hP 22 (by omega) rfl (by first | assumption | omega) (by omega) dX3_rowsWith_39 ?_
        refine x_top S (y := nI (xto A i)) (hT i (by omega)) ?_
        refine lv_aload_n hx hb dX3_rowsWith_40 rfl (lv_at hl 2 rfl) ?_
        refine x_get S (fun w h => List.mem_cons_of_mem _ (List.mem_append_right _ h)) hK hP 20 (by omega) rfl rfl 2 (by decide) (List.mem_of_getElem? (i := 2) rfl) rfl dX3_rowsWith_41 ?_
        refine lv_iload hx hb dX3_rowsWith_44 (lv_at hl 0 rfl) ?_
        refine lv_iconst (v := nI 1) hx hb dX3_rowsWith_46 (by decide) ?_
        refine lv_iload_n hx hb dX3_rowsWith_47 rfl (lv_at hl 4 rfl) ?_
        refine lv_ishl hx hb dX3_rowsWith_48 ?_
        refine lv_ior hx hb dX3_rowsWith_49 ?_
        refine x_top S (y := nI (i ||| 2 ^ n)) (xor_I (by omega)) ?_
        have hq1 := xor64 (z := i) (n := n) (by omega) (by omega)
        refine x_iald S hK hP 23 (by omega) rfl (by first | assumption | omega) (by omega) dX3_rowsWith_50 ?_
        refine x_top S (y := nI (xon A (i ||| 2 ^ n))) (hN _ hq1) ?_
        refine x_imulN S dX3_rowsWith_51 ?_
        refine x_iaddN S dX3_rowsWith_52 ?_
        refine lv_istore_n (lv' := [(3, .int (nI ((fb_sm (fun z => if xpc z = h ∧ xok A h n z then xto A z * xon A (z ||| 2 ^ n) else 0) i) + ((xto A i) * (xon A (i ||| 2 ^ n)))))), (4, .int (nI i)), (0, .ref (α 20)), (1, .int (nI h)), (2, .int (nI n))]) hx hb dX3_rowsWith_53 rfl hl (by decide) rfl (fun ls hl => ?_)
        refine lv_iinc (v := nI (i + 1)) (lv' := [(4, .int (nI (i + 1))), (3, .int (nI ((fb_sm (fun z => if xpc z = h ∧ xok A h n z then xto A z * xon A (z ||| 2 ^ n) else 0) i) + ((xto A i) * (xon A (i ||| 2 ^ n)))))), (0, .ref (α 20)), (1, .int (nI h)), (2, .int (nI n))]) hx hb dX3_rowsWith_54 hl (k := 1) rfl (nI_add i 1) (by decide) rfl (fun ls hl => ?_)
        refine lv_goto (tgt := 5) hx hb dX3_rowsWith_57 (by decide) ?_
        exact ih_5 (i + 1) ls ⟨(by omega), (by have h9 := lv_sub (l' := [(4, .int (nI (i + 1))), (3, .int (nI ((fb_sm (fun z => if xpc z = h ∧ xok A h n z then xto A z * xon A (z ||| 2 ^ n) else 0) i) + ((xto A i) * (xon A (i ||| 2 ^ n)))))), (0, .ref (α 20)), (1, .int (nI h)), (2, .int (nI n))]) hl [0, 1, 2, 3, 4] rfl; rw [show nI ((fb_sm (fun z => if xpc z = h ∧ xok A h n z then xto A z * xon A (z ||| 2 ^ n) else 0) i) + ((xto A i) * (xon A (i ||| 2 ^ n)))) = nI (fb_sm (fun z => if xpc z = h ∧ xok A h n z then xto A z * xon A (z ||| 2 ^ n) else 0) (i + 1)) from by rw [fb_sm_succ]; rw [if_pos ⟨c_18, c_29⟩]] at h9; exact h9)⟩ (by (try dsimp only); omega)
set_option maxHeartbeats 4000000 in
set_option maxRecDepth 100000 in
theorem c_X3_leastThatGoesOn (l : Launch) {D : va_G} {K : Nat → ClassId} {α : Nat → Nat} (σ : Nat → Nat → Int32) (t : Nat) (h : Nat) (A : Nat → Nat)  (hA : ∀ h, h < 6 → σ 21 h = nI (A h) ∧ A h < 64) (hN : ∀ k, k < 64 → σ 23 k = nI (xon A k)) (ht : t < 64) (hh : h < 6) : Met l yX3_leastThatGoesOn wsX3_leastThatGoesOn (xrm 1) (va_Pc [.ref (α 20), .int (nI t), .int (nI h)] (xPre D K 42 α (xC α K) σ)) (vp_Si (fun r => r = if xgl A t h < 6 then nI (xgl A t h) else -1)) 0 0 (fun _ => False) := by
  refine Met.ofW (cc := cX3_leastThatGoesOn) (maxL := 4) (ret := (some .int)) (by decide) rfl ?_
  intro p e s m args below meth c s₁ B hml hv
  obtain ⟨rfl, hK, hP⟩ := hv
  have S : CallFix p m c cX3_leastThatGoesOn 4 s _ wsX3_leastThatGoesOn RX3 := ⟨B.exec, B.bytes, hml, findClass_of_methodNamed B.named, atoms_spec (ws := wsX3_leastThatGoesOn) B.pre⟩
  have hx := S.1
  have hb := S.2.1
  have hr := B.returns
  have hlocks := B.notSynchronized
  have hl := lv_entry ([.ref (α 20), .int (nI t), .int (nI h)]) (n := 4) (Nat.le_of_ble_eq_true rfl)
  rw [lg_entry_eq]
  generalize (lg_sl ([.ref (α 20), .int (nI t), .int (nI h)]) ++ List.replicate (4 - (lg_sl ([.ref (α 20), .int (nI t), .int (nI h)])).length) Slot.unset).toArray = ls at hl ⊢
  have hl : lv_has ls 4 [(0, .ref (α 20)), (1, .int (nI t)), (2, .int (nI h))] := hl
  have hPP := hP
  refine lv_iconst (v := nI 0) hx hb dX3_leastThatGoesOn_0 (by decide) ?_
  refine lv_istore_n (lv' := [(3, .int (nI 0)), (0, .ref (α 20)), (1, .int (nI t)), (2, .int (nI h))]) hx hb dX3_leastThatGoesOn_1 rfl hl (by decide) rfl (fun ls hl => ?_)
  refine x_loop (ι := Nat) (fun i ls => (i ≤ 6) ∧ (∀ n, n < i → ¬ (xok A h n t ∧ 0 < xon A (t ||| 2 ^ n))) ∧ lv_has ls 4 [(3, .int (nI i)), (0, .ref (α 20)), (1, .int (nI t)), (2, .int (nI h))]) (fun i => 6 - i) ?_ 0 ls ⟨Nat.zero_le _, fun n hn => absurd hn (Nat.not_lt_zero n), lv_sub hl [0, 1, 2, 3] rfl⟩
  intro i ls hinv ih_2
  obtain ⟨hi, hno, hl⟩ := hinv
  have hl : lv_has ls 4 [(3, .int (nI i)), (0, .ref (α 20)), (1, .int (nI t)), (2, .int (nI h))] := hl
  refine lv_iload_n hx hb dX3_leastThatGoesOn_2 rfl (lv_at hl 0 rfl) ?_
  refine lv_bipush (v := nI 6) hx hb dX3_leastThatGoesOn_3 (by decide) ?_
  refine x_icmpN_ge (tgt := 39) S dX3_leastThatGoesOn_5 (by decide) (by omega) (by omega) (fun c_5 => ?_) (fun c_5 => ?_)
  · refine lv_iconst (v := (-1)) hx hb dX3_leastThatGoesOn_39 (by decide) ?_
    have e8 : xgl A t h = 6 := xfst_no (fun n hn => hno n (by omega))
    exact x_iretR S hlocks hr rfl (by rw [if_neg (by omega)]) dX3_leastThatGoesOn_40
  · refine lv_aload_n hx hb dX3_leastThatGoesOn_8 rfl (lv_at hl 1 rfl) ?_
    refine lv_iload_n hx hb dX3_leastThatGoesOn_9 rfl (lv_at hl 2 rfl) ?_
    refine lv_iload_n hx hb dX3_leastThatGoesOn_10 rfl (lv_at hl 3 rfl) ?_
    refine lv_iload_n hx hb dX3_leastThatGoesOn_11 rfl (lv_at hl 0 rfl) ?_
    refine x_cVRi (As := [.int (nI t), .int (nI h), .int (nI i)]) (rest := []) S hK hP 20 (by omega) rfl rfl (c_X3_mayTake l σ t h i A  (by first | assumption | omega) (by first | assumption | omega) (by first | assumption | omega) (by first | assumption | omega)) (x_cwV (n0 := 3) (cq := (RX3, TX3, 3)) S gX3_leastThatGoesOn_X3_mayTake rfl (by decide +kernel) ⟨Nat.le_of_ble_eq_true rfl, Nat.le_of_ble_eq_true rfl⟩) rfl hl.1 rfl (Nat.le_of_ble_eq_true rfl) dX3_leastThatGoesOn_12 ⟨Nat.le_refl _, Nat.le_refl _⟩ (fun r_12 hr_12 => ?_)
    subst hr_12
    refine x_if_eqB (tgt := 33) S dX3_leastThatGoesOn_15 (by decide) (fun c_15 => ?_) (fun c_15 => ?_)
    · refine lv_iinc (v := nI (i + 1)) (lv' := [(3, .int (nI (i + 1))), (0, .ref (α 20)), (1, .int (nI t)), (2, .int (nI h))]) hx hb dX3_leastThatGoesOn_33 hl (k := 0) rfl (nI_add i 1) (by decide) rfl (fun ls hl => ?_)
      refine lv_goto (tgt := 2) hx hb dX3_leastThatGoesOn_36 (by decide) ?_
      exact ih_2 (i + 1) ls ⟨(by omega), lt_s hno (fun q => by first | exact c_15 q.1 | (have := q.2; omega)), lv_sub hl [0, 1, 2, 3] rfl⟩ (by (try dsimp only); omega)
    · refine lv_aload_n hx hb dX3_leastThatGoesOn_18 rfl (lv_at hl 1 rfl) ?_
      refine x_get S (fun w h => List.mem_cons_of_mem _ (List.mem_append_right _ h)) hK hP 20 (by omega) rfl rfl 2 (by decide) (List.mem_of_getElem? (i := 1) rfl) rfl dX3_leastThatGoesOn_19 ?_
      refine lv_iload_n hx hb dX3_leastThatGoesOn_22 rfl (lv_at hl 2 rfl) ?_
      refine lv_iconst (v := nI 1) hx hb dX3_leastThatGoesOn_23 (by decide) ?_
      refine lv_iload_n hx hb dX3_leastThatGoesOn_24 rfl (lv_at hl 0 rfl) ?_
      refine lv_ishl hx hb dX3_leastThatGoesOn_25 ?_
      refine lv_ior hx hb dX3_leastThatGoesOn_26 ?_
      refine x_top S (y := nI (t ||| 2 ^ i)) (xor_I (by omega)) ?_
      have hq1 := xor64 (z := t) (n := i) (by omega) (by omega)
      have hq2 := xon_lt A (t ||| 2 ^ i)
      refine x_iald S hK hP 23 (by omega) rfl (by first | assumption | omega) (by omega) dX3_leastThatGoesOn_27 ?_
      refine x_top S (y := nI (xon A (t ||| 2 ^ i))) (hN _ hq1) ?_
      refine x_ifN_le (tgt := 33) S dX3_leastThatGoesOn_28 (by decide) (by omega) (fun c_28 => ?_) (fun c_28 => ?_)
      · refine lv_iinc (v := nI (i + 1)) (lv' := [(3, .int (nI (i + 1))), (0, .ref (α 20)), (1, .int (nI t)), (2, .int (nI h))]) hx hb dX3_leastThatGoesOn_33 hl (k := 0) rfl (nI_add i 1) (by decide) rfl (fun ls hl => ?_)
        refine lv_goto (tgt := 2) hx hb dX3_leastThatGoesOn_36 (by decide) ?_
        exact ih_2 (i + 1) ls ⟨(by omega), lt_s hno (fun q => by first | exact c_15 q.1 | (have := q.2; omega)), lv_sub hl [0, 1, 2, 3] rfl⟩ (by (try dsimp only); omega)
      · refine lv_iload_n hx hb dX3_leastThatGoesOn_31 rfl (lv_at hl 0 rfl) ?_
        have e8 : xgl A t h = i := xfst_at hno ⟨c_15, c_28⟩ c_5
        exact x_iretR S hlocks hr rfl (by rw [if_pos (by omega), e8]) dX3_leastThatGoesOn_32
set_option maxHeartbeats 4000000 in
set_option maxRecDepth 100000 in
theorem c_X3_firstRowName (l : Launch) {D : va_G} {K : Nat → ClassId} {α : Nat → Nat} (σ : Nat → Nat → Int32) (h : Nat) (A : Nat → Nat)  (hA : ∀ h, h < 6 → σ 21 h = nI (A h) ∧ A h < 64) (hN : ∀ k, k < 64 → σ 23 k = nI (xon A k)) (hh : h < 6) : Met l yX3_firstRowName wsX3_firstRowName (xrm 2) (va_Pc [.ref (α 20), .int (nI h)] (xPre D K 42 α (xC α K) σ)) (vp_Si (fun r => r = xfr A h)) 0 0 (fun _ => False) := by
  refine Met.ofW (cc := cX3_firstRowName) (maxL := 5) (ret := (some .int)) (by decide) rfl ?_
  intro p e s m args below meth c s₁ B hml hv
  obtain ⟨rfl, hK, hP⟩ := hv
  have S : CallFix p m c cX3_firstRowName 5 s _ wsX3_firstRowName RX3 := ⟨B.exec, B.bytes, hml, findClass_of_methodNamed B.named, atoms_spec (ws := wsX3_firstRowName) B.pre⟩
  have hx := S.1
  have hb := S.2.1
  have hr := B.returns
  have hlocks := B.notSynchronized
  have hl := lv_entry ([.ref (α 20), .int (nI h)]) (n := 5) (Nat.le_of_ble_eq_true rfl)
  rw [lg_entry_eq]
  generalize (lg_sl ([.ref (α 20), .int (nI h)]) ++ List.replicate (5 - (lg_sl ([.ref (α 20), .int (nI h)])).length) Slot.unset).toArray = ls at hl ⊢
  have hl : lv_has ls 5 [(0, .ref (α 20)), (1, .int (nI h))] := hl
  have hPP := hP
  refine lv_iconst (v := nI 0) hx hb dX3_firstRowName_0 (by decide) ?_
  refine lv_istore_n (lv' := [(2, .int (nI 0)), (0, .ref (α 20)), (1, .int (nI h))]) hx hb dX3_firstRowName_1 rfl hl (by decide) rfl (fun ls hl => ?_)
  refine lv_iconst (v := (-1)) hx hb dX3_firstRowName_2 (by decide) ?_
  refine lv_istore_n (lv' := [(3, .int (-1 : Int32)), (2, .int (nI 0)), (0, .ref (α 20)), (1, .int (nI h))]) hx hb dX3_firstRowName_3 rfl hl (by decide) rfl (fun ls hl => ?_)
  refine lv_iconst (v := nI 0) hx hb dX3_firstRowName_4 (by decide) ?_
  refine lv_istore (lv' := [(4, .int (nI 0)), (3, .int (-1 : Int32)), (2, .int (nI 0)), (0, .ref (α 20)), (1, .int (nI h))]) hx hb dX3_firstRowName_5 hl (by decide) rfl (fun ls hl => ?_)
  refine x_loop (ι := Nat) (fun i ls => (i ≤ h + 1) ∧ (∀ j, j < i → xgl A (xgt A j) j < 6) ∧ lv_has ls 5 [(4, .int (nI i)), (3, .int (xgd A i)), (2, .int (nI (xgt A i))), (0, .ref (α 20)), (1, .int (nI h))]) (fun i => h + 1 - i) ?_ 0 ls ⟨Nat.zero_le _, fun n hn => absurd hn (Nat.not_lt_zero n), lv_sub hl [0, 1, 2, 3, 4] rfl⟩
  intro i ls hinv ih_7
  obtain ⟨hi, hno, hl⟩ := hinv
  have hl : lv_has ls 5 [(4, .int (nI i)), (3, .int (xgd A i)), (2, .int (nI (xgt A i))), (0, .ref (α 20)), (1, .int (nI h))] := hl
  refine lv_iload hx hb dX3_firstRowName_7 (lv_at hl 0 rfl) ?_
  refine lv_iload_n hx hb dX3_firstRowName_9 rfl (lv_at hl 4 rfl) ?_
  refine x_icmpN_gt (tgt := 40) S dX3_firstRowName_10 (by decide) (by omega) (by omega) (fun c_10 => ?_) (fun c_10 => ?_)
  · have e9 : i = h + 1 := by omega
    subst e9
    refine lv_iload_n hx hb dX3_firstRowName_40 rfl (lv_at hl 1 rfl) ?_
    exact x_iretR S hlocks hr rfl (by rw [xfr, if_pos (xg_ok (hno 0 (by omega)))]; rfl) dX3_firstRowName_41
  · obtain ⟨hq1, hq2⟩ := xg_inv hno (by omega)
    refine lv_aload_n hx hb dX3_firstRowName_13 rfl (lv_at hl 3 rfl) ?_
    refine lv_iload_n hx hb dX3_firstRowName_14 rfl (lv_at hl 2 rfl) ?_
    refine lv_iload hx hb dX3_firstRowName_15 (lv_at hl 0 rfl) ?_
    refine x_cVRi (As := [.int (nI (xgt A i)), .int (nI i)]) (rest := []) S hK hP 20 (by omega) rfl rfl (c_X3_leastThatGoesOn l σ (xgt A i) i A  (by first | assumption | omega) (by first | assumption | omega) (by first | assumption | omega) (by first | assumption | omega)) (x_cwV (n0 := 2) (cq := (RX3, TX3, 3)) S gX3_firstRowName_X3_leastThatGoesOn rfl (by decide +kernel) ⟨Nat.le_of_ble_eq_true rfl, Nat.le_of_ble_eq_true rfl⟩) rfl hl.1 rfl (Nat.le_of_ble_eq_true rfl) dX3_firstRowName_17 ⟨Nat.le_refl _, Nat.le_refl _⟩ (fun r_17 hr_17 => ?_)
    subst hr_17
    refine lv_topi (fun x20 ex20 => ?_)
    refine lv_istore_n (lv' := [(3, .int x20), (4, .int (nI i)), (2, .int (nI (xgt A i))), (0, .ref (α 20)), (1, .int (nI h))]) hx hb dX3_firstRowName_20 rfl hl (by decide) rfl (fun ls hl => ?_)
    refine lv_iload_n hx hb dX3_firstRowName_21 rfl (lv_at hl 0 rfl) ?_
    refine lv_iconst (v := (-1)) hx hb dX3_firstRowName_22 (by decide) ?_
    refine lv_icmp_ne (tgt := 28) hx hb dX3_firstRowName_23 (by decide) (fun c_23 => ?_) (fun c_23 => ?_)
    · have hq3 : xgl A (xgt A i) i < 6 := Decidable.byContradiction (fun q => c_23 (by rw [ex20, if_neg q]))
      rw [if_pos hq3] at ex20
      subst ex20
      refine lv_iload_n hx hb dX3_firstRowName_28 rfl (lv_at hl 2 rfl) ?_
      refine lv_iconst (v := nI 1) hx hb dX3_firstRowName_29 (by decide) ?_
      refine lv_iload_n hx hb dX3_firstRowName_30 rfl (lv_at hl 0 rfl) ?_
      refine lv_ishl hx hb dX3_firstRowName_31 ?_
      refine lv_ior hx hb dX3_firstRowName_32 ?_
      refine x_top S (y := nI (xgt A i ||| 2 ^ xgl A (xgt A i) i)) (xor_I (by omega)) ?_
      refine lv_istore_n (lv' := [(2, .int (nI (xgt A i ||| 2 ^ xgl A (xgt A i) i))), (3, .int (nI (xgl A (xgt A i) i))), (4, .int (nI i)), (0, .ref (α 20)), (1, .int (nI h))]) hx hb dX3_firstRowName_33 rfl hl (by decide) rfl (fun ls hl => ?_)
      refine lv_iinc (v := nI (i + 1)) (lv' := [(4, .int (nI (i + 1))), (2, .int (nI (xgt A i ||| 2 ^ xgl A (xgt A i) i))), (3, .int (nI (xgl A (xgt A i) i))), (0, .ref (α 20)), (1, .int (nI h))]) hx hb dX3_firstRowName_34 hl (k := 2) rfl (nI_add i 1) (by decide) rfl (fun ls hl => ?_)
      refine lv_goto (tgt := 7) hx hb dX3_firstRowName_37 (by decide) ?_
      exact ih_7 (i + 1) ls ⟨(by omega), lt_s hno hq3, lv_sub hl [0, 2, 1, 3, 4] rfl⟩ (by (try dsimp only); omega)
    · refine lv_iconst (v := (-1)) hx hb dX3_firstRowName_26 (by decide) ?_
      exact x_iretR S hlocks hr rfl (by rw [xfr, if_neg (xg_fail hno (by omega) (fun q => by rw [ex20, if_pos q] at c_23; exact nI_m1 (by omega) c_23))]) dX3_firstRowName_27

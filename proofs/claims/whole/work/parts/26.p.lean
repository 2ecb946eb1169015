set_option maxHeartbeats 4000000 in
set_option maxRecDepth 100000 in
theorem c_X9_isSeen (l : Launch) {D : va_G} {K : Nat → ClassId} {α : Nat → Nat} (σ : Nat → Nat → Int32) (h : Nat) (n : Nat) (sn : Nat)  (hss : σ 0 14 = nI sn) (hsn : sn ≤ 8) (hs1 : xran (σ 12) sn 6) (hs2 : xran (σ 13) sn 2) (hh : h < 6) (hn : n < 6) : Met l yX9_isSeen wsX9_isSeen (xrm 0) (va_Pc [.ref (α 0), .int (nI h), .int (nI n)] (xPre D K 20 α (xM α K) σ)) (vp_Si (fun r => r = xb ((xs_left (xFM σ) (σ 12) (σ 13) (σ 14) h sn).testBit n = true))) 0 0 (fun _ => False) := by
  refine Met.ofW (cc := cX9_isSeen) (maxL := 5) (ret := (some .boolean)) (by decide) rfl ?_
  intro p e s m args below meth c s₁ B hml hv
  obtain ⟨rfl, hK, hP⟩ := hv
  have S : CallFix p m c cX9_isSeen 5 s _ wsX9_isSeen RX9 := ⟨B.exec, B.bytes, hml, findClass_of_methodNamed B.named, atoms_spec (ws := wsX9_isSeen) B.pre⟩
  have hx := S.1
  have hb := S.2.1
  have hr := B.returns
  have hlocks := B.notSynchronized
  have hl := lv_entry ([.ref (α 0), .int (nI h), .int (nI n)]) (n := 5) (Nat.le_of_ble_eq_true rfl)
  rw [lg_entry_eq]
  generalize (lg_sl ([.ref (α 0), .int (nI h), .int (nI n)]) ++ List.replicate (5 - (lg_sl ([.ref (α 0), .int (nI h), .int (nI n)])).length) Slot.unset).toArray = ls at hl ⊢
  have hl : lv_has ls 5 [(0, .ref (α 0)), (1, .int (nI h)), (2, .int (nI n))] := hl
  have hPP := hP
  refine lv_iconst (v := nI 0) hx hb dX9_isSeen_0 (by decide) ?_
  refine lv_istore_n (lv' := [(3, .int (nI 0)), (0, .ref (α 0)), (1, .int (nI h)), (2, .int (nI n))]) hx hb dX9_isSeen_1 rfl hl (by decide) rfl (fun ls hl => ?_)
  refine x_loop (ι := Nat) (fun i ls => (i ≤ sn) ∧ (∀ j, j < i → ¬ (xnat (σ 12) j = n ∧ ¬ xFM σ (xnat (σ 13) j) h = σ 14 j)) ∧ lv_has ls 5 [(3, .int (nI i)), (0, .ref (α 0)), (1, .int (nI h)), (2, .int (nI n))]) (fun i => sn - i) ?_ 0 ls ⟨Nat.zero_le _, fun j hj => absurd hj (Nat.not_lt_zero j), lv_sub hl [0, 1, 2, 3] rfl⟩
  intro i ls hinv ih_2
  obtain ⟨hi, hno, hl⟩ := hinv
  have hl : lv_has ls 5 [(3, .int (nI i)), (0, .ref (α 0)), (1, .int (nI h)), (2, .int (nI n))] := hl
  refine lv_iload_n hx hb dX9_isSeen_2 rfl (lv_at hl 0 rfl) ?_
  refine lv_aload_n hx hb dX9_isSeen_3 rfl (lv_at hl 1 rfl) ?_
  refine x_get S (fun w h => List.mem_cons_of_mem _ (List.mem_append_right _ h)) hK hP 0 (by omega) rfl rfl 14 (by decide) (List.mem_of_getElem? (i := 1) rfl) rfl dX9_isSeen_4 ?_
  refine x_top S (y := nI sn) (hss) ?_
  refine x_icmpN_ge (tgt := 65) S dX9_isSeen_7 (by decide) (by omega) (by omega) (fun c_7 => ?_) (fun c_7 => ?_)
  · refine lv_iconst (v := nI 1) hx hb dX9_isSeen_65 (by decide) ?_
    exact x_iretR S hlocks hr rfl ((xb_t ((xs_left_bit hn sn (fun j hj => (hs1 j hj).1)).mpr (fun j hj => hno j (by omega)))).symm) dX9_isSeen_66
  · have hq1 := hs1 i (by omega)
    have hq2 := hs2 i (by omega)
    refine lv_aload_n hx hb dX9_isSeen_10 rfl (lv_at hl 1 rfl) ?_
    refine x_get S (fun w h => List.mem_cons_of_mem _ (List.mem_append_right _ h)) hK hP 0 (by omega) rfl rfl 16 (by decide) (List.mem_of_getElem? (i := 2) rfl) rfl dX9_isSeen_11 ?_
    refine lv_iload_n hx hb dX9_isSeen_14 rfl (lv_at hl 0 rfl) ?_
    refine x_iald S hK hP 13 (by omega) rfl (by first | assumption | omega) (by omega) dX9_isSeen_15 ?_
    refine x_top S (y := nI (xnat (σ 13) i)) (hq2.2) ?_
    refine x_ifN_ne (tgt := 28) S dX9_isSeen_16 (by decide) (by omega) (fun c_16 => ?_) (fun c_16 => ?_)
    · refine lv_aload_n hx hb dX9_isSeen_28 rfl (lv_at hl 1 rfl) ?_
      refine x_get S (fun w h => List.mem_cons_of_mem _ (List.mem_append_right _ h)) hK hP 0 (by omega) rfl rfl 1 (by decide) (List.mem_of_getElem? (i := 4) rfl) rfl dX9_isSeen_29 ?_
      refine lv_iload_n hx hb dX9_isSeen_32 rfl (lv_at hl 2 rfl) ?_
      refine x_iald S hK hP 2 (by omega) rfl (by first | assumption | omega) (by omega) dX9_isSeen_33 ?_
      refine x_top S (y := xFM σ (xnat (σ 13) i) h) (by rw [show xnat (σ 13) i = 1 by omega]; rfl) ?_
      refine lv_istore (lv' := [(4, .int (xFM σ (xnat (σ 13) i) h)), (3, .int (nI i)), (0, .ref (α 0)), (1, .int (nI h)), (2, .int (nI n))]) hx hb dX9_isSeen_34 hl (by decide) rfl (fun ls hl => ?_)
      refine lv_aload_n hx hb dX9_isSeen_36 rfl (lv_at hl 2 rfl) ?_
      refine x_get S (fun w h => List.mem_cons_of_mem _ (List.mem_append_right _ h)) hK hP 0 (by omega) rfl rfl 15 (by decide) (List.mem_of_getElem? (i := 5) rfl) rfl dX9_isSeen_37 ?_
      refine lv_iload_n hx hb dX9_isSeen_40 rfl (lv_at hl 1 rfl) ?_
      refine x_iald S hK hP 12 (by omega) rfl (by first | assumption | omega) (by omega) dX9_isSeen_41 ?_
      refine x_top S (y := nI (xnat (σ 12) i)) (hq1.2) ?_
      refine lv_iload_n hx hb dX9_isSeen_42 rfl (lv_at hl 4 rfl) ?_
      refine x_icmpN_ne (tgt := 59) S dX9_isSeen_43 (by decide) (by omega) (by omega) (fun c_43 => ?_) (fun c_43 => ?_)
      · refine lv_iinc (v := nI (i + 1)) (lv' := [(3, .int (nI (i + 1))), (4, .int (xFM σ (xnat (σ 13) i) h)), (0, .ref (α 0)), (1, .int (nI h)), (2, .int (nI n))]) hx hb dX9_isSeen_59 hl (k := 1) rfl (nI_add i 1) (by decide) rfl (fun ls hl => ?_)
        refine lv_goto (tgt := 2) hx hb dX9_isSeen_62 (by decide) ?_
        exact ih_2 (i + 1) ls ⟨(by omega), lt_s hno (fun q => by first | exact q.2 c_54 | exact c_43 q.1), lv_sub hl [0, 2, 3, 4] rfl⟩ (by (try dsimp only); omega)
      · refine lv_iload hx hb dX9_isSeen_46 (lv_at hl 0 rfl) ?_
        refine lv_aload_n hx hb dX9_isSeen_48 rfl (lv_at hl 2 rfl) ?_
        refine x_get S (fun w h => List.mem_cons_of_mem _ (List.mem_append_right _ h)) hK hP 0 (by omega) rfl rfl 17 (by decide) (List.mem_of_getElem? (i := 6) rfl) rfl dX9_isSeen_49 ?_
        refine lv_iload_n hx hb dX9_isSeen_52 rfl (lv_at hl 1 rfl) ?_
        refine x_iald S hK hP 14 (by omega) rfl (by first | assumption | omega) (by omega) dX9_isSeen_53 ?_
        refine lv_icmp_eq (tgt := 59) hx hb dX9_isSeen_54 (by decide) (fun c_54 => ?_) (fun c_54 => ?_)
        · refine lv_iinc (v := nI (i + 1)) (lv' := [(3, .int (nI (i + 1))), (4, .int (xFM σ (xnat (σ 13) i) h)), (0, .ref (α 0)), (1, .int (nI h)), (2, .int (nI n))]) hx hb dX9_isSeen_59 hl (k := 1) rfl (nI_add i 1) (by decide) rfl (fun ls hl => ?_)
          refine lv_goto (tgt := 2) hx hb dX9_isSeen_62 (by decide) ?_
          exact ih_2 (i + 1) ls ⟨(by omega), lt_s hno (fun q => by first | exact q.2 c_54 | exact c_43 q.1), lv_sub hl [0, 2, 3, 4] rfl⟩ (by (try dsimp only); omega)
        · refine lv_iconst (v := nI 0) hx hb dX9_isSeen_57 (by decide) ?_
          exact x_iretR S hlocks hr rfl ((xb_f (fun q => (xs_left_bit hn sn (fun j hj => (hs1 j hj).1)).mp q i (by omega) ⟨c_43, c_54⟩)).symm) dX9_isSeen_58
    · refine lv_aload_n hx hb dX9_isSeen_19 rfl (lv_at hl 1 rfl) ?_
      refine x_get S (fun w h => List.mem_cons_of_mem _ (List.mem_append_right _ h)) hK hP 0 (by omega) rfl rfl 0 (by decide) (List.mem_of_getElem? (i := 3) rfl) rfl dX9_isSeen_20 ?_
      refine lv_iload_n hx hb dX9_isSeen_23 rfl (lv_at hl 2 rfl) ?_
      refine x_iald S hK hP 1 (by omega) rfl (by first | assumption | omega) (by omega) dX9_isSeen_24 ?_
      refine x_top S (y := xFM σ (xnat (σ 13) i) h) (by rw [show xnat (σ 13) i = 0 by omega]; rfl) ?_
      refine lv_goto (tgt := 34) hx hb dX9_isSeen_25 (by decide) ?_
      refine lv_istore (lv' := [(4, .int (xFM σ (xnat (σ 13) i) h)), (3, .int (nI i)), (0, .ref (α 0)), (1, .int (nI h)), (2, .int (nI n))]) hx hb dX9_isSeen_34 hl (by decide) rfl (fun ls hl => ?_)
      refine lv_aload_n hx hb dX9_isSeen_36 rfl (lv_at hl 2 rfl) ?_
      refine x_get S (fun w h => List.mem_cons_of_mem _ (List.mem_append_right _ h)) hK hP 0 (by omega) rfl rfl 15 (by decide) (List.mem_of_getElem? (i := 5) rfl) rfl dX9_isSeen_37 ?_
      refine lv_iload_n hx hb dX9_isSeen_40 rfl (lv_at hl 1 rfl) ?_
      refine x_iald S hK hP 12 (by omega) rfl (by first | assumption | omega) (by omega) dX9_isSeen_41 ?_
      refine x_top S (y := nI (xnat (σ 12) i)) (hq1.2) ?_
      refine lv_iload_n hx hb dX9_isSeen_42 rfl (lv_at hl 4 rfl) ?_
      refine x_icmpN_ne (tgt := 59) S dX9_isSeen_43 (by decide) (by omega) (by omega) (fun c_43 => ?_) (fun c_43 => ?_)
      · refine lv_iinc (v := nI (i + 1)) (lv' := [(3, .int (nI (i + 1))), (4, .int (xFM σ (xnat (σ 13) i) h)), (0, .ref (α 0)), (1, .int (nI h)), (2, .int (nI n))]) hx hb dX9_isSeen_59 hl (k := 1) rfl (nI_add i 1) (by decide) rfl (fun ls hl => ?_)
        refine lv_goto (tgt := 2) hx hb dX9_isSeen_62 (by decide) ?_
        exact ih_2 (i + 1) ls ⟨(by omega), lt_s hno (fun q => by first | exact q.2 c_54 | exact c_43 q.1), lv_sub hl [0, 2, 3, 4] rfl⟩ (by (try dsimp only); omega)
      · refine lv_iload hx hb dX9_isSeen_46 (lv_at hl 0 rfl) ?_
        refine lv_aload_n hx hb dX9_isSeen_48 rfl (lv_at hl 2 rfl) ?_
        refine x_get S (fun w h => List.mem_cons_of_mem _ (List.mem_append_right _ h)) hK hP 0 (by omega) rfl rfl 17 (by decide) (List.mem_of_getElem? (i := 6) rfl) rfl dX9_isSeen_49 ?_
        refine lv_iload_n hx hb dX9_isSeen_52 rfl (lv_at hl 1 rfl) ?_
        refine x_iald S hK hP 14 (by omega) rfl (by first | assumption | omega) (by omega) dX9_isSeen_53 ?_
        refine lv_icmp_eq (tgt := 59) hx hb dX9_isSeen_54 (by decide) (fun c_54 => ?_) (fun c_54 => ?_)
        · refine lv_iinc (v := nI (i + 1)) (lv' := [(3, .int (nI (i + 1))), (4, .int (xFM σ (xnat (σ 13) i) h)), (0, .ref (α 0)), (1, .int (nI h)), (2, .int (nI n))]) hx hb dX9_isSeen_59 hl (k := 1) rfl (nI_add i 1) (by decide) rfl (fun ls hl => ?_)
          refine lv_goto (tgt := 2) hx hb dX9_isSeen_62 (by decide) ?_
          exact ih_2 (i + 1) ls ⟨(by omega), lt_s hno (fun q => by first | exact q.2 c_54 | exact c_43 q.1), lv_sub hl [0, 2, 3, 4] rfl⟩ (by (try dsimp only); omega)
        · refine lv_iconst (v := nI 0) hx hb dX9_isSeen_57 (by decide) ?_
          exact x_iretR S hlocks hr rfl ((xb_f (fun q => (xs_left_bit hn sn (fun j hj => (hs1 j hj).1)).mp q i (by omega) ⟨c_43, c_54⟩)).symm) dX9_isSeen_58
set_option maxHeartbeats 4000000 in
set_option maxRecDepth 100000 in
theorem c_X9_falseNow (l : Launch) {D : va_G} {K : Nat → ClassId} {α : Nat → Nat} (σ : Nat → Nat → Int32)   (hC : xIM σ) : Met l yX9_falseNow wsX9_falseNow (xrm 1) (va_Pc [.ref (α 0)] (xPre D K 20 α (xM α K) σ)) (vp_Si (fun r => r = nI (xs_false (xB (xFM σ) (σ 12) (σ 13) (σ 14) (xsM σ))))) 0 0 (fun _ => False) := by
  refine Met.ofW (cc := cX9_falseNow) (maxL := 5) (ret := (some .int)) (by decide) rfl ?_
  intro p e s m args below meth c s₁ B hml hv
  obtain ⟨rfl, hK, hP⟩ := hv
  have S : CallFix p m c cX9_falseNow 5 s _ wsX9_falseNow RX9 := ⟨B.exec, B.bytes, hml, findClass_of_methodNamed B.named, atoms_spec (ws := wsX9_falseNow) B.pre⟩
  have hx := S.1
  have hb := S.2.1
  have hr := B.returns
  have hlocks := B.notSynchronized
  have hl := lv_entry ([.ref (α 0)]) (n := 5) (Nat.le_of_ble_eq_true rfl)
  rw [lg_entry_eq]
  generalize (lg_sl ([.ref (α 0)]) ++ List.replicate (5 - (lg_sl ([.ref (α 0)])).length) Slot.unset).toArray = ls at hl ⊢
  have hl : lv_has ls 5 [(0, .ref (α 0))] := hl
  have hPP := hP
  have hY := xIM_Y hC
  have hY12 := xIM_12 hC
  obtain ⟨⟨hL, hL9⟩, ⟨hcs, hcn, hc1, hc2⟩, ⟨hss, hsn, hs1, hs2⟩, hfe, hsh⟩ := id hC
  generalize hLe : xLM σ = L at hL hL9 ⊢
  generalize hYe : xYM σ = Y at hY hY12 ⊢
  generalize hcne : xcM σ = cn at hcs hcn hc1 hc2 ⊢
  generalize hsne : xsM σ = sn at hss hsn hs1 hs2 ⊢
  refine lv_iconst (v := nI 0) hx hb dX9_falseNow_0 (by decide) ?_
  refine lv_istore_n (lv' := [(1, .int (nI 0)), (0, .ref (α 0))]) hx hb dX9_falseNow_1 rfl hl (by decide) rfl (fun ls hl => ?_)
  refine lv_iconst (v := nI 0) hx hb dX9_falseNow_2 (by decide) ?_
  refine lv_istore_n (lv' := [(2, .int (nI 0)), (1, .int (nI 0)), (0, .ref (α 0))]) hx hb dX9_falseNow_3 rfl hl (by decide) rfl (fun ls hl => ?_)
  refine x_loop (ι := Nat) (fun i ls => (i ≤ 6) ∧ lv_has ls 5 [(2, .int (nI i)), (1, .int (nI (xmask (fun n => xall (fun h => ¬ (xs_left (xFM σ) (σ 12) (σ 13) (σ 14) h sn).testBit n = true) 6) i))), (0, .ref (α 0))]) (fun i => 6 - i) ?_ 0 ls ⟨Nat.zero_le _, lv_sub hl [0, 1, 2] rfl⟩
  intro i ls hinv ih_4
  obtain ⟨hi6, hl⟩ := hinv
  have hl : lv_has ls 5 [(2, .int (nI i)), (1, .int (nI (xmask (fun n => xall (fun h => ¬ (xs_left (xFM σ) (σ 12) (σ 13) (σ 14) h sn).testBit n = true) 6) i))), (0, .ref (α 0))] := hl
  refine lv_iload_n hx hb dX9_falseNow_4 rfl (lv_at hl 0 rfl) ?_
  refine lv_bipush (v := nI 6) hx hb dX9_falseNow_5 (by decide) ?_
  refine x_icmpN_ge (tgt := 68) S dX9_falseNow_7 (by decide) (by omega) (by omega) (fun c_7 => ?_) (fun c_7 => ?_)
  · have e9 : i = 6 := by omega
    subst e9
    refine lv_iload_n hx hb dX9_falseNow_68 rfl (lv_at hl 1 rfl) ?_
    exact x_iretR S hlocks hr rfl (by rw [xs_false_eq (B := xB (xFM σ) (σ 12) (σ 13) (σ 14) sn) (fun h => xs_left_lt _ _ _ _ h _)]; rfl) dX9_falseNow_69
  · refine lv_iconst (v := nI 0) hx hb dX9_falseNow_10 (by decide) ?_
    refine x_top S (y := xb (¬ xall (fun h => ¬ (xs_left (xFM σ) (σ 12) (σ 13) (σ 14) h sn).testBit i = true) 0)) ((xb_f (fun q => q (xall_of (fun k hk => absurd hk (Nat.not_lt_zero k))))).symm) ?_
    refine lv_istore_n (lv' := [(3, .int (xb (¬ xall (fun h => ¬ (xs_left (xFM σ) (σ 12) (σ 13) (σ 14) h sn).testBit i = true) 0))), (2, .int (nI i)), (1, .int (nI (xmask (fun n => xall (fun h => ¬ (xs_left (xFM σ) (σ 12) (σ 13) (σ 14) h sn).testBit n = true) 6) i))), (0, .ref (α 0))]) hx hb dX9_falseNow_11 rfl hl (by decide) rfl (fun ls hl => ?_)
    refine lv_iconst (v := nI 0) hx hb dX9_falseNow_12 (by decide) ?_
    refine lv_istore (lv' := [(4, .int (nI 0)), (3, .int (xb (¬ xall (fun h => ¬ (xs_left (xFM σ) (σ 12) (σ 13) (σ 14) h sn).testBit i = true) 0))), (2, .int (nI i)), (1, .int (nI (xmask (fun n => xall (fun h => ¬ (xs_left (xFM σ) (σ 12) (σ 13) (σ 14) h sn).testBit n = true) 6) i))), (0, .ref (α 0))]) hx hb dX9_falseNow_13 hl (by decide) rfl (fun ls hl => ?_)
    refine x_loop (ι := Nat) (fun j ls => (j ≤ 6) ∧ lv_has ls 5 [(4, .int (nI j)), (3, .int (xb (¬ xall (fun h => ¬ (xs_left (xFM σ) (σ 12) (σ 13) (σ 14) h sn).testBit i = true) j))), (2, .int (nI i)), (1, .int (nI (xmask (fun n => xall (fun h => ¬ (xs_left (xFM σ) (σ 12) (σ 13) (σ 14) h sn).testBit n = true) 6) i))), (0, .ref (α 0))]) (fun j => 6 - j) ?_ 0 ls ⟨Nat.zero_le _, lv_sub hl [0, 1, 2, 3, 4] rfl⟩
    intro j ls hinv ih_15
    obtain ⟨hj6, hl⟩ := hinv
    have hl : lv_has ls 5 [(4, .int (nI j)), (3, .int (xb (¬ xall (fun h => ¬ (xs_left (xFM σ) (σ 12) (σ 13) (σ 14) h sn).testBit i = true) j))), (2, .int (nI i)), (1, .int (nI (xmask (fun n => xall (fun h => ¬ (xs_left (xFM σ) (σ 12) (σ 13) (σ 14) h sn).testBit n = true) 6) i))), (0, .ref (α 0))] := hl
    refine lv_iload hx hb dX9_falseNow_15 (lv_at hl 0 rfl) ?_
    refine lv_bipush (v := nI 6) hx hb dX9_falseNow_17 (by decide) ?_
    refine x_icmpN_ge (tgt := 48) S dX9_falseNow_19 (by decide) (by omega) (by omega) (fun c_19 => ?_) (fun c_19 => ?_)
    · have e9 : j = 6 := by omega
      subst e9
      refine lv_iload_n hx hb dX9_falseNow_48 rfl (lv_at hl 3 rfl) ?_
      refine lv_iload_n hx hb dX9_falseNow_49 rfl (lv_at hl 1 rfl) ?_
      refine x_if_eqB (tgt := 57) S dX9_falseNow_50 (by decide) (fun c_50 => ?_) (fun c_50 => ?_)
      · refine lv_iconst (v := nI 1) hx hb dX9_falseNow_57 (by decide) ?_
        refine lv_iload_n hx hb dX9_falseNow_58 rfl (lv_at hl 2 rfl) ?_
        refine lv_ishl hx hb dX9_falseNow_59 ?_
        refine lv_ior hx hb dX9_falseNow_60 ?_
        refine x_top S (y := nI (xmask (fun n => xall (fun h => ¬ (xs_left (xFM σ) (σ 12) (σ 13) (σ 14) h sn).testBit n = true) 6) i ||| 2 ^ i)) (xor_I (by omega)) ?_
        refine lv_istore_n (lv' := [(1, .int (nI (xmask (fun n => xall (fun h => ¬ (xs_left (xFM σ) (σ 12) (σ 13) (σ 14) h sn).testBit n = true) 6) i ||| 2 ^ i))), (4, .int (nI 6)), (3, .int (xb (¬ xall (fun h => ¬ (xs_left (xFM σ) (σ 12) (σ 13) (σ 14) h sn).testBit i = true) 6))), (2, .int (nI i)), (0, .ref (α 0))]) hx hb dX9_falseNow_61 rfl hl (by decide) rfl (fun ls hl => ?_)
        refine lv_iinc (v := nI (i + 1)) (lv' := [(2, .int (nI (i + 1))), (1, .int (nI (xmask (fun n => xall (fun h => ¬ (xs_left (xFM σ) (σ 12) (σ 13) (σ 14) h sn).testBit n = true) 6) i ||| 2 ^ i))), (4, .int (nI 6)), (3, .int (xb (¬ xall (fun h => ¬ (xs_left (xFM σ) (σ 12) (σ 13) (σ 14) h sn).testBit i = true) 6))), (0, .ref (α 0))]) hx hb dX9_falseNow_62 hl (k := 3) rfl (nI_add i 1) (by decide) rfl (fun ls hl => ?_)
        refine lv_goto (tgt := 4) hx hb dX9_falseNow_65 (by decide) ?_
        exact ih_4 (i + 1) ls ⟨(by omega), (by have h9 := lv_sub (l' := [(2, .int (nI (i + 1))), (1, .int (nI (xmask (fun n => xall (fun h => ¬ (xs_left (xFM σ) (σ 12) (σ 13) (σ 14) h sn).testBit n = true) 6) i ||| 2 ^ i))), (0, .ref (α 0))]) hl [0, 1, 4] rfl; rw [show nI (xmask (fun n => xall (fun h => ¬ (xs_left (xFM σ) (σ 12) (σ 13) (σ 14) h sn).testBit n = true) 6) i ||| 2 ^ i) = nI (xmask (fun n => xall (fun h => ¬ (xs_left (xFM σ) (σ 12) (σ 13) (σ 14) h sn).testBit n = true) 6) (i + 1)) from by rw [xmask]; first | rw [if_pos (Decidable.byContradiction c_50)] | rw [if_neg c_50]] at h9; exact h9)⟩ (by (try dsimp only); omega)
      · refine lv_iconst (v := nI 0) hx hb dX9_falseNow_53 (by decide) ?_
        refine lv_goto (tgt := 60) hx hb dX9_falseNow_54 (by decide) ?_
        refine lv_ior hx hb dX9_falseNow_60 ?_
        refine x_top S (y := nI (xmask (fun n => xall (fun h => ¬ (xs_left (xFM σ) (σ 12) (σ 13) (σ 14) h sn).testBit n = true) 6) i)) (by rw [fa_or, Nat.or_zero]) ?_
        refine lv_istore_n (lv' := [(1, .int (nI (xmask (fun n => xall (fun h => ¬ (xs_left (xFM σ) (σ 12) (σ 13) (σ 14) h sn).testBit n = true) 6) i))), (4, .int (nI 6)), (3, .int (xb (¬ xall (fun h => ¬ (xs_left (xFM σ) (σ 12) (σ 13) (σ 14) h sn).testBit i = true) 6))), (2, .int (nI i)), (0, .ref (α 0))]) hx hb dX9_falseNow_61 rfl hl (by decide) rfl (fun ls hl => ?_)
        refine lv_iinc (v := nI (i + 1)) (lv' := [(2, .int (nI (i + 1))), (1, .int (nI (xmask (fun n => xall (fun h => ¬ (xs_left (xFM σ) (σ 12) (σ 13) (σ 14) h sn).testBit n = true) 6) i))), (4, .int (nI 6)), (3, .int (xb (¬ xall (fun h => ¬ (xs_left (xFM σ) (σ 12) (σ 13) (σ 14) h sn).testBit i = true) 6))), (0, .ref (α 0))]) hx hb dX9_falseNow_62 hl (k := 3) rfl (nI_add i 1) (by decide) rfl (fun ls hl => ?_)
        refine lv_goto (tgt := 4) hx hb dX9_falseNow_65 (by decide) ?_
        exact ih_4 (i + 1) ls ⟨(by omega), (by have h9 := lv_sub (l' := [(2, .int (nI (i + 1))), (1, .int (nI (xmask (fun n => xall (fun h => ¬ (xs_left (xFM σ) (σ 12) (σ 13) (σ 14) h sn).testBit n = true) 6) i))), (0, .ref (α 0))]) hl [0, 1, 4] rfl; rw [show nI (xmask (fun n => xall (fun h => ¬ (xs_left (xFM σ) (σ 12) (σ 13) (σ 14) h sn).testBit n = true) 6) i) = nI (xmask (fun n => xall (fun h => ¬ (xs_left (xFM σ) (σ 12) (σ 13) (σ 14) h sn).testBit n = true) 6) (i + 1)) from by rw [xmask]; first | rw [if_pos (Decidable.byContradiction c_50)] | rw [if_neg c_50]] at h9; exact h9)⟩ (by (try dsimp only); omega)
    · refine lv_iload_n hx hb dX9_falseNow_22 rfl (lv_at hl 1 rfl) ?_
      refine x_if_neB (tgt := 36) S dX9_falseNow_23 (by decide) (fun c_23 => ?_) (fun c_23 => ?_)
      · refine lv_iconst (v := nI 1) hx hb dX9_falseNow_36 (by decide) ?_
        refine x_top S (y := xb (¬ xall (fun h => ¬ (xs_left (xFM σ) (σ 12) (σ 13) (σ 14) h sn).testBit i = true) (j + 1))) ((xb_t (show ¬ xall (fun h => ¬ (xs_left (xFM σ) (σ 12) (σ 13) (σ 14) h sn).testBit i = true) (j + 1) from fun q => by first | exact c_23 (xall_of (fun k hk => xall_to q k (by omega))) | exact xall_to q j (by omega) c_33)).symm) ?_
        refine lv_goto (tgt := 41) hx hb dX9_falseNow_37 (by decide) ?_
        refine lv_istore_n (lv' := [(3, .int (xb (¬ xall (fun h => ¬ (xs_left (xFM σ) (σ 12) (σ 13) (σ 14) h sn).testBit i = true) (j + 1)))), (4, .int (nI j)), (2, .int (nI i)), (1, .int (nI (xmask (fun n => xall (fun h => ¬ (xs_left (xFM σ) (σ 12) (σ 13) (σ 14) h sn).testBit n = true) 6) i))), (0, .ref (α 0))]) hx hb dX9_falseNow_41 rfl hl (by decide) rfl (fun ls hl => ?_)
        refine lv_iinc (v := nI (j + 1)) (lv' := [(4, .int (nI (j + 1))), (3, .int (xb (¬ xall (fun h => ¬ (xs_left (xFM σ) (σ 12) (σ 13) (σ 14) h sn).testBit i = true) (j + 1)))), (2, .int (nI i)), (1, .int (nI (xmask (fun n => xall (fun h => ¬ (xs_left (xFM σ) (σ 12) (σ 13) (σ 14) h sn).testBit n = true) 6) i))), (0, .ref (α 0))]) hx hb dX9_falseNow_42 hl (k := 1) rfl (nI_add j 1) (by decide) rfl (fun ls hl => ?_)
        refine lv_goto (tgt := 15) hx hb dX9_falseNow_45 (by decide) ?_
        exact ih_15 (j + 1) ls ⟨(by omega), lv_sub hl [0, 1, 2, 3, 4] rfl⟩ (by (try dsimp only); omega)
      · refine lv_aload_n hx hb dX9_falseNow_26 rfl (lv_at hl 4 rfl) ?_
        refine lv_iload hx hb dX9_falseNow_27 (lv_at hl 0 rfl) ?_
        refine lv_iload_n hx hb dX9_falseNow_29 rfl (lv_at hl 2 rfl) ?_
        refine x_cVRi (As := [.int (nI j), .int (nI i)]) (rest := []) S hK hP 0 (by omega) rfl rfl (c_X9_isSeen l σ j i sn  (by first | assumption | omega) (by first | assumption | omega) (by first | assumption | omega) (by first | assumption | omega) (by first | assumption | omega) (by first | assumption | omega)) (x_cwV (n0 := 2) (cq := (RX9, TX9, 24)) S gX9_falseNow_X9_isSeen rfl (by decide +kernel) ⟨Nat.le_of_ble_eq_true rfl, Nat.le_of_ble_eq_true rfl⟩) rfl hl.1 rfl (Nat.le_of_ble_eq_true rfl) dX9_falseNow_30 ⟨Nat.le_refl _, Nat.le_refl _⟩ (fun r_30 hr_30 => ?_)
        subst hr_30
        refine x_if_eqB (tgt := 40) S dX9_falseNow_33 (by decide) (fun c_33 => ?_) (fun c_33 => ?_)
        · refine lv_iconst (v := nI 0) hx hb dX9_falseNow_40 (by decide) ?_
          refine x_top S (y := xb (¬ xall (fun h => ¬ (xs_left (xFM σ) (σ 12) (σ 13) (σ 14) h sn).testBit i = true) (j + 1))) ((xb_f (fun q => q (xall_of (lt_s (xall_to (Decidable.byContradiction c_23)) c_33)))).symm) ?_
          refine lv_istore_n (lv' := [(3, .int (xb (¬ xall (fun h => ¬ (xs_left (xFM σ) (σ 12) (σ 13) (σ 14) h sn).testBit i = true) (j + 1)))), (4, .int (nI j)), (2, .int (nI i)), (1, .int (nI (xmask (fun n => xall (fun h => ¬ (xs_left (xFM σ) (σ 12) (σ 13) (σ 14) h sn).testBit n = true) 6) i))), (0, .ref (α 0))]) hx hb dX9_falseNow_41 rfl hl (by decide) rfl (fun ls hl => ?_)
          refine lv_iinc (v := nI (j + 1)) (lv' := [(4, .int (nI (j + 1))), (3, .int (xb (¬ xall (fun h => ¬ (xs_left (xFM σ) (σ 12) (σ 13) (σ 14) h sn).testBit i = true) (j + 1)))), (2, .int (nI i)), (1, .int (nI (xmask (fun n => xall (fun h => ¬ (xs_left (xFM σ) (σ 12) (σ 13) (σ 14) h sn).testBit n = true) 6) i))), (0, .ref (α 0))]) hx hb dX9_falseNow_42 hl (k := 1) rfl (nI_add j 1) (by decide) rfl (fun ls hl => ?_)
          refine lv_goto (tgt := 15) hx hb dX9_falseNow_45 (by decide) ?_
          exact ih_15 (j + 1) ls ⟨(by omega), lv_sub hl [0, 1, 2, 3, 4] rfl⟩ (by (try dsimp only); omega)
        · refine lv_iconst (v := nI 1) hx hb dX9_falseNow_36 (by decide) ?_
          refine x_top S (y := xb (¬ xall (fun h => ¬ (xs_left (xFM σ) (σ 12) (σ 13) (σ 14) h sn).testBit i = true) (j + 1))) ((xb_t (show ¬ xall (fun h => ¬ (xs_left (xFM σ) (σ 12) (σ 13) (σ 14) h sn).testBit i = true) (j + 1) from fun q => by first | exact c_23 (xall_of (fun k hk => xall_to q k (by omega))) | exact xall_to q j (by omega) c_33)).symm) ?_
          refine lv_goto (tgt := 41) hx hb dX9_falseNow_37 (by decide) ?_
          refine lv_istore_n (lv' := [(3, .int (xb (¬ xall (fun h => ¬ (xs_left (xFM σ) (σ 12) (σ 13) (σ 14) h sn).testBit i = true) (j + 1)))), (4, .int (nI j)), (2, .int (nI i)), (1, .int (nI (xmask (fun n => xall (fun h => ¬ (xs_left (xFM σ) (σ 12) (σ 13) (σ 14) h sn).testBit n = true) 6) i))), (0, .ref (α 0))]) hx hb dX9_falseNow_41 rfl hl (by decide) rfl (fun ls hl => ?_)
          refine lv_iinc (v := nI (j + 1)) (lv' := [(4, .int (nI (j + 1))), (3, .int (xb (¬ xall (fun h => ¬ (xs_left (xFM σ) (σ 12) (σ 13) (σ 14) h sn).testBit i = true) (j + 1)))), (2, .int (nI i)), (1, .int (nI (xmask (fun n => xall (fun h => ¬ (xs_left (xFM σ) (σ 12) (σ 13) (σ 14) h sn).testBit n = true) 6) i))), (0, .ref (α 0))]) hx hb dX9_falseNow_42 hl (k := 1) rfl (nI_add j 1) (by decide) rfl (fun ls hl => ?_)
          refine lv_goto (tgt := 15) hx hb dX9_falseNow_45 (by decide) ?_
          exact ih_15 (j + 1) ls ⟨(by omega), lv_sub hl [0, 1, 2, 3, 4] rfl⟩ (by (try dsimp only); omega)
set_option maxHeartbeats 4000000 in
set_option maxRecDepth 100000 in
theorem c_X9_isFalse (l : Launch) {D : va_G} {K : Nat → ClassId} {α : Nat → Nat} (σ : Nat → Nat → Int32)   (hC : xIM σ) : Met l yX9_isFalse wsX9_isFalse (xrm 2) (va_Pc [.ref (α 0)] (xPre D K 20 α (xM α K) σ)) (vp_Si (fun r => r = nI (xs_false (xB (xFM σ) (σ 12) (σ 13) (σ 14) (xsM σ))))) 0 0 (fun _ => False) := by
  refine Met.ofW (cc := cX9_isFalse) (maxL := 1) (ret := (some .int)) (by decide) rfl ?_
  intro p e s m args below meth c s₁ B hml hv
  obtain ⟨rfl, hK, hP⟩ := hv
  have S : CallFix p m c cX9_isFalse 1 s _ wsX9_isFalse RX9 := ⟨B.exec, B.bytes, hml, findClass_of_methodNamed B.named, atoms_spec (ws := wsX9_isFalse) B.pre⟩
  have hx := S.1
  have hb := S.2.1
  have hr := B.returns
  have hlocks := B.notSynchronized
  have hl := lv_entry ([.ref (α 0)]) (n := 1) (Nat.le_of_ble_eq_true rfl)
  rw [lg_entry_eq]
  generalize (lg_sl ([.ref (α 0)]) ++ List.replicate (1 - (lg_sl ([.ref (α 0)])).length) Slot.unset).toArray = ls at hl ⊢
  have hl : lv_has ls 1 [(0, .ref (α 0))] := hl
  have hPP := hP
  refine lv_aload_n hx hb dX9_isFalse_0 rfl (lv_at hl 0 rfl) ?_
  refine x_cVRi (As := []) (rest := []) S hK hP 0 (by omega) rfl rfl (c_X9_falseNow l σ   (by first | assumption | omega)) (x_cwV (n0 := 0) (cq := (RX9, TX9, 24)) S gX9_isFalse_X9_falseNow rfl (by decide +kernel) ⟨Nat.le_of_ble_eq_true rfl, Nat.le_of_ble_eq_true rfl⟩) rfl hl.1 rfl (Nat.le_of_ble_eq_true rfl) dX9_isFalse_1 ⟨Nat.le_refl _, Nat.le_refl _⟩ (fun r_1 hr_1 => ?_)
  subst hr_1
  exact x_iretR S hlocks hr rfl (rfl) dX9_isFalse_4
set_option maxHeartbeats 4000000 in
set_option maxRecDepth 100000 in
theorem c_X9_sumOf0 (l : Launch) {D : va_G} {K : Nat → ClassId} {α : Nat → Nat} (σ : Nat → Nat → Int32) (hI : xw_I 20 α)   (hC : xIM σ) : Met l yX9_sumOf wsX9_sumOf (xrm 3) (va_Pc [.ref (α 0), .int (nI 0)] (xPre D K 20 α (xM α K) σ)) (xQi D 20 α (xM α K) (fun r τ => r = nI (xYM σ) ∧ xMs σ τ)) 0 0 (xw_R 20 α) := by
  refine Met.ofW (cc := cX9_sumOf) (maxL := 6) (ret := (some .int)) (by decide) rfl ?_
  intro p e s m args below meth c s₁ B hml hv
  obtain ⟨rfl, hK, hP⟩ := hv
  have S : CallFix p m c cX9_sumOf 6 s _ wsX9_sumOf RX9 := ⟨B.exec, B.bytes, hml, findClass_of_methodNamed B.named, atoms_spec (ws := wsX9_sumOf) B.pre⟩
  have hx := S.1
  have hb := S.2.1
  have hr := B.returns
  have hlocks := B.notSynchronized
  have hS : va_S (xw_R 20 α) s.heap s.heap [] := va_S.rf
  have hl := lv_entry ([.ref (α 0), .int (nI 0)]) (n := 6) (Nat.le_of_ble_eq_true rfl)
  rw [lg_entry_eq]
  generalize (lg_sl ([.ref (α 0), .int (nI 0)]) ++ List.replicate (6 - (lg_sl ([.ref (α 0), .int (nI 0)])).length) Slot.unset).toArray = ls at hl ⊢
  have hl : lv_has ls 6 [(0, .ref (α 0)), (1, .int (nI 0))] := hl
  have hPP := hP
  have hY := xIM_Y hC
  have hY12 := xIM_12 hC
  have hPm := xIM_P hC
  refine lv_aload_n hx hb dX9_sumOf_0 rfl (lv_at hl 0 rfl) ?_
  refine x_cVWi (As := []) (rest := []) S hK hP hS (fun _ h => h) 0 (by omega) rfl rfl (c_X9_faultNow l σ hI   (by first | assumption | omega)) (x_cwV (n0 := 0) (cq := (RX9, TX9, 24)) S gX9_sumOf_X9_faultNow rfl (by decide +kernel) ⟨Nat.le_of_ble_eq_true rfl, Nat.le_of_ble_eq_true rfl⟩) rfl hl.1 rfl (Nat.le_of_ble_eq_true rfl) dX9_sumOf_1 ⟨Nat.le_refl _, Nat.le_refl _⟩ (fun r_1 τ_1 H locs hr_1 hP hk_1 hS => ?_)
  obtain ⟨hr_1, hms_1, hbk_1⟩ := hr_1
  subst hr_1
  obtain ⟨hyr, hbk⟩ := xBk_of hms_1 hbk_1
  have eF := xMs_F hms_1
  have e6 : τ_1 6 = σ 6 := xMs_k hms_1 (by decide)
  have hC2 := xMs_IM hms_1 hC
  refine lv_istore_n (lv' := [(2, .int (xt_fault (σ 6) (xLM σ))), (0, .ref (α 0)), (1, .int (nI 0))]) hx hb dX9_sumOf_4 rfl hl (by decide) rfl (fun ls hl => ?_)
  refine lv_iconst (v := nI 0) hx hb dX9_sumOf_5 (by decide) ?_
  refine lv_istore_n (lv' := [(3, .int (nI 0)), (2, .int (xt_fault (σ 6) (xLM σ))), (0, .ref (α 0)), (1, .int (nI 0))]) hx hb dX9_sumOf_6 rfl hl (by decide) rfl (fun ls hl => ?_)
  refine lv_iconst (v := nI 0) hx hb dX9_sumOf_7 (by decide) ?_
  refine lv_istore (lv' := [(4, .int (nI 0)), (3, .int (nI 0)), (2, .int (xt_fault (σ 6) (xLM σ))), (0, .ref (α 0)), (1, .int (nI 0))]) hx hb dX9_sumOf_8 hl (by decide) rfl (fun ls hl => ?_)
  refine x_loopW (ι := Nat) (fun i H locs ls => (i ≤ 6) ∧ lv_has ls 6 [(4, .int (nI i)), (3, .int (nI 0)), (2, .int (xt_fault (σ 6) (xLM σ))), (0, .ref (α 0)), (1, .int (nI 0))] ∧ va_P D vwCl (xw 20 α (xM α K) τ_1) H ∧ va_S (xw_R 20 α) s.heap H locs) (fun i => 6 - i) ?_ 0 ls ⟨Nat.zero_le _, lv_sub hl [0, 1, 2, 3, 4] rfl, hP, hS⟩
  intro i H locs ls hinv ih_10
  obtain ⟨hi, hl, hP, hS⟩ := hinv
  have hl : lv_has ls 6 [(4, .int (nI i)), (3, .int (nI 0)), (2, .int (xt_fault (σ 6) (xLM σ))), (0, .ref (α 0)), (1, .int (nI 0))] := hl
  have hP : va_P D vwCl (xw 20 α (xM α K) τ_1) H := hP
  refine lv_iload hx hb dX9_sumOf_10 (lv_at hl 0 rfl) ?_
  refine lv_bipush (v := nI 6) hx hb dX9_sumOf_12 (by decide) ?_
  refine x_icmpN_ge (tgt := 125) S dX9_sumOf_14 (by decide) (by omega) (by omega) (fun c_14 => ?_) (fun c_14 => ?_)
  · have e9 : i = 6 := by omega
    subst e9
    refine lv_iload_n hx hb dX9_sumOf_125 rfl (lv_at hl 4 rfl) ?_
    refine x_ifN_ne (tgt := 136) S dX9_sumOf_126 (by decide) (by omega) (fun q => absurd q (by omega)) (fun _ => ?_)
    refine lv_aload_n hx hb dX9_sumOf_129 rfl (lv_at hl 3 rfl) ?_
    refine x_get S (fun w h => List.mem_cons_of_mem _ (List.mem_append_right _ h)) hK hP 0 (by omega) rfl rfl 7 (by decide) (List.mem_of_getElem? (i := 1) rfl) rfl dX9_sumOf_130 ?_
    refine x_top S (y := nI (xYM σ)) (hyr) ?_
    refine lv_goto (tgt := 137) hx hb dX9_sumOf_133 (by decide) ?_
    exact x_iretW S hlocks hP hS hr rfl (⟨rfl, hms_1⟩) dX9_sumOf_137
  · refine lv_iconst (v := nI 0) hx hb dX9_sumOf_17 (by decide) ?_
    refine lv_istore (lv' := [(5, .int (nI 0)), (4, .int (nI i)), (3, .int (nI 0)), (2, .int (xt_fault (σ 6) (xLM σ))), (0, .ref (α 0)), (1, .int (nI 0))]) hx hb dX9_sumOf_18 hl (by decide) rfl (fun ls hl => ?_)
    refine lv_iload hx hb dX9_sumOf_20 (lv_at hl 0 rfl) ?_
    refine lv_bipush (v := nI 6) hx hb dX9_sumOf_22 (by decide) ?_
    refine x_icmpN_ge (tgt := 57) S dX9_sumOf_24 (by decide) (by omega) (by omega) (fun q => absurd q (by omega)) (fun _ => ?_)
    refine lv_iload_n hx hb dX9_sumOf_27 rfl (lv_at hl 5 rfl) ?_
    refine lv_iconst (v := nI 4) hx hb dX9_sumOf_28 (by decide) ?_
    refine x_icmpN_ne (tgt := 57) S dX9_sumOf_29 (by decide) (by omega) (by omega) (fun _ => ?_) (fun q => absurd q (by omega))
    refine lv_iload_n hx hb dX9_sumOf_57 rfl (lv_at hl 2 rfl) ?_
    refine lv_iload_n hx hb dX9_sumOf_58 rfl (lv_at hl 5 rfl) ?_
    refine lv_iconst (v := nI 5) hx hb dX9_sumOf_59 (by decide) ?_
    refine x_icmpN_ne (tgt := 76) S dX9_sumOf_60 (by decide) (by omega) (by omega) (fun _ => ?_) (fun q => absurd q (by omega))
    refine lv_iload_n hx hb dX9_sumOf_76 rfl (lv_at hl 5 rfl) ?_
    refine lv_bipush (v := nI 6) hx hb dX9_sumOf_77 (by decide) ?_
    refine x_icmpN_ne (tgt := 96) S dX9_sumOf_79 (by decide) (by omega) (by omega) (fun _ => ?_) (fun q => absurd q (by omega))
    refine lv_iload_n hx hb dX9_sumOf_96 rfl (lv_at hl 5 rfl) ?_
    refine lv_bipush (v := nI 7) hx hb dX9_sumOf_97 (by decide) ?_
    refine x_icmpN_ne (tgt := 116) S dX9_sumOf_99 (by decide) (by omega) (by omega) (fun _ => ?_) (fun q => absurd q (by omega))
    refine lv_iconst (v := nI 0) hx hb dX9_sumOf_116 (by decide) ?_
    refine x_iaddN S dX9_sumOf_117 ?_
    refine lv_istore_n (lv' := [(3, .int (nI (0 + 0))), (5, .int (nI 0)), (4, .int (nI i)), (2, .int (xt_fault (σ 6) (xLM σ))), (0, .ref (α 0)), (1, .int (nI 0))]) hx hb dX9_sumOf_118 rfl hl (by decide) rfl (fun ls hl => ?_)
    refine lv_iinc (v := nI (i + 1)) (lv' := [(4, .int (nI (i + 1))), (3, .int (nI (0 + 0))), (5, .int (nI 0)), (2, .int (xt_fault (σ 6) (xLM σ))), (0, .ref (α 0)), (1, .int (nI 0))]) hx hb dX9_sumOf_119 hl (k := 2) rfl (nI_add i 1) (by decide) rfl (fun ls hl => ?_)
    refine lv_goto (tgt := 10) hx hb dX9_sumOf_122 (by decide) ?_
    exact ih_10 (i + 1) H locs ls ⟨(by omega), (by have h9 := lv_sub (l' := [(4, .int (nI (i + 1))), (3, .int (nI (0 + 0))), (2, .int (xt_fault (σ 6) (xLM σ))), (0, .ref (α 0)), (1, .int (nI 0))]) hl [0, 1, 3, 4, 5] rfl; rw [show nI (0 + 0) = nI 0 from rfl] at h9; exact h9), hP, hS⟩ (by (try dsimp only); omega)
set_option maxHeartbeats 4000000 in
set_option maxRecDepth 100000 in
theorem c_X9_sumOf4 (l : Launch) {D : va_G} {K : Nat → ClassId} {α : Nat → Nat} (σ : Nat → Nat → Int32) (hI : xw_I 20 α)   (hC : xIM σ) : Met l yX9_sumOf wsX9_sumOf (xrm 3) (va_Pc [.ref (α 0), .int (nI 4)] (xPre D K 20 α (xM α K) σ)) (xQi D 20 α (xM α K) (fun r τ => r = nI (fb_sm (fun h => xpc (xmask (fun n => xs_fit (xFM σ) h n) 6)) 6) ∧ xMs σ τ)) 0 0 (xw_R 20 α) := by
  refine Met.ofW (cc := cX9_sumOf) (maxL := 6) (ret := (some .int)) (by decide) rfl ?_
  intro p e s m args below meth c s₁ B hml hv
  obtain ⟨rfl, hK, hP⟩ := hv
  have S : CallFix p m c cX9_sumOf 6 s _ wsX9_sumOf RX9 := ⟨B.exec, B.bytes, hml, findClass_of_methodNamed B.named, atoms_spec (ws := wsX9_sumOf) B.pre⟩
  have hx := S.1
  have hb := S.2.1
  have hr := B.returns
  have hlocks := B.notSynchronized
  have hS : va_S (xw_R 20 α) s.heap s.heap [] := va_S.rf
  have hl := lv_entry ([.ref (α 0), .int (nI 4)]) (n := 6) (Nat.le_of_ble_eq_true rfl)
  rw [lg_entry_eq]
  generalize (lg_sl ([.ref (α 0), .int (nI 4)]) ++ List.replicate (6 - (lg_sl ([.ref (α 0), .int (nI 4)])).length) Slot.unset).toArray = ls at hl ⊢
  have hl : lv_has ls 6 [(0, .ref (α 0)), (1, .int (nI 4))] := hl
  have hPP := hP
  have hY := xIM_Y hC
  have hY12 := xIM_12 hC
  have hPm := xIM_P hC
  refine lv_aload_n hx hb dX9_sumOf_0 rfl (lv_at hl 0 rfl) ?_
  refine x_cVWi (As := []) (rest := []) S hK hP hS (fun _ h => h) 0 (by omega) rfl rfl (c_X9_faultNow l σ hI   (by first | assumption | omega)) (x_cwV (n0 := 0) (cq := (RX9, TX9, 24)) S gX9_sumOf_X9_faultNow rfl (by decide +kernel) ⟨Nat.le_of_ble_eq_true rfl, Nat.le_of_ble_eq_true rfl⟩) rfl hl.1 rfl (Nat.le_of_ble_eq_true rfl) dX9_sumOf_1 ⟨Nat.le_refl _, Nat.le_refl _⟩ (fun r_1 τ_1 H locs hr_1 hP hk_1 hS => ?_)
  obtain ⟨hr_1, hms_1, hbk_1⟩ := hr_1
  subst hr_1
  obtain ⟨hyr, hbk⟩ := xBk_of hms_1 hbk_1
  have eF := xMs_F hms_1
  have e6 : τ_1 6 = σ 6 := xMs_k hms_1 (by decide)
  have hC2 := xMs_IM hms_1 hC
  refine lv_istore_n (lv' := [(2, .int (xt_fault (σ 6) (xLM σ))), (0, .ref (α 0)), (1, .int (nI 4))]) hx hb dX9_sumOf_4 rfl hl (by decide) rfl (fun ls hl => ?_)
  refine lv_iconst (v := nI 0) hx hb dX9_sumOf_5 (by decide) ?_
  refine lv_istore_n (lv' := [(3, .int (nI 0)), (2, .int (xt_fault (σ 6) (xLM σ))), (0, .ref (α 0)), (1, .int (nI 4))]) hx hb dX9_sumOf_6 rfl hl (by decide) rfl (fun ls hl => ?_)
  refine lv_iconst (v := nI 0) hx hb dX9_sumOf_7 (by decide) ?_
  refine lv_istore (lv' := [(4, .int (nI 0)), (3, .int (nI 0)), (2, .int (xt_fault (σ 6) (xLM σ))), (0, .ref (α 0)), (1, .int (nI 4))]) hx hb dX9_sumOf_8 hl (by decide) rfl (fun ls hl => ?_)
  refine x_loopW (ι := Nat) (fun i H locs ls => (i ≤ 6) ∧ lv_has ls 6 [(4, .int (nI i)), (3, .int (nI (fb_sm (fun h => xpc (xmask (fun n => xs_fit (xFM σ) h n) 6)) i))), (2, .int (xt_fault (σ 6) (xLM σ))), (0, .ref (α 0)), (1, .int (nI 4))] ∧ va_P D vwCl (xw 20 α (xM α K) τ_1) H ∧ va_S (xw_R 20 α) s.heap H locs) (fun i => 6 - i) ?_ 0 ls ⟨Nat.zero_le _, lv_sub hl [0, 1, 2, 3, 4] rfl, hP, hS⟩
  intro i H locs ls hinv ih_10
  obtain ⟨hi, hl, hP, hS⟩ := hinv
  have hl : lv_has ls 6 [(4, .int (nI i)), (3, .int (nI (fb_sm (fun h => xpc (xmask (fun n => xs_fit (xFM σ) h n) 6)) i))), (2, .int (xt_fault (σ 6) (xLM σ))), (0, .ref (α 0)), (1, .int (nI 4))] := hl
  have hP : va_P D vwCl (xw 20 α (xM α K) τ_1) H := hP
  refine lv_iload hx hb dX9_sumOf_10 (lv_at hl 0 rfl) ?_
  refine lv_bipush (v := nI 6) hx hb dX9_sumOf_12 (by decide) ?_
  refine x_icmpN_ge (tgt := 125) S dX9_sumOf_14 (by decide) (by omega) (by omega) (fun c_14 => ?_) (fun c_14 => ?_)
  · have e9 : i = 6 := by omega
    subst e9
    refine lv_iload_n hx hb dX9_sumOf_125 rfl (lv_at hl 4 rfl) ?_
    refine x_ifN_ne (tgt := 136) S dX9_sumOf_126 (by decide) (by omega) (fun _ => ?_) (fun q => absurd q (by omega))
    refine lv_iload_n hx hb dX9_sumOf_136 rfl (lv_at hl 1 rfl) ?_
    exact x_iretW S hlocks hP hS hr rfl (⟨rfl, hms_1⟩) dX9_sumOf_137
  · refine lv_iconst (v := nI 0) hx hb dX9_sumOf_17 (by decide) ?_
    refine lv_istore (lv' := [(5, .int (nI 0)), (4, .int (nI i)), (3, .int (nI (fb_sm (fun h => xpc (xmask (fun n => xs_fit (xFM σ) h n) 6)) i))), (2, .int (xt_fault (σ 6) (xLM σ))), (0, .ref (α 0)), (1, .int (nI 4))]) hx hb dX9_sumOf_18 hl (by decide) rfl (fun ls hl => ?_)
    refine x_loopW (ι := Nat) (fun j H locs ls => (j ≤ 6) ∧ lv_has ls 6 [(5, .int (nI j)), (4, .int (nI i)), (3, .int (nI (fb_sm (fun h => xpc (xmask (fun n => xs_fit (xFM σ) h n) 6)) i + xpc (xmask (fun n => xs_fit (xFM σ) i n) j)))), (2, .int (xt_fault (σ 6) (xLM σ))), (0, .ref (α 0)), (1, .int (nI 4))] ∧ va_P D vwCl (xw 20 α (xM α K) τ_1) H ∧ va_S (xw_R 20 α) s.heap H locs) (fun j => 6 - j) ?_ 0 ls ⟨Nat.zero_le _, (by have h9 := lv_sub (l' := [(5, .int (nI 0)), (4, .int (nI i)), (3, .int (nI (fb_sm (fun h => xpc (xmask (fun n => xs_fit (xFM σ) h n) 6)) i))), (2, .int (xt_fault (σ 6) (xLM σ))), (0, .ref (α 0)), (1, .int (nI 4))]) hl [0, 1, 2, 3, 4, 5] rfl; rw [show nI (fb_sm (fun h => xpc (xmask (fun n => xs_fit (xFM σ) h n) 6)) i) = nI (fb_sm (fun h => xpc (xmask (fun n => xs_fit (xFM σ) h n) 6)) i + xpc (xmask (fun n => xs_fit (xFM σ) i n) 0)) from by rw [xpc_m0, Nat.add_zero]] at h9; exact h9), hP, hS⟩
    intro j H locs ls hinv ih_20
    obtain ⟨hj, hl, hP, hS⟩ := hinv
    have hl : lv_has ls 6 [(5, .int (nI j)), (4, .int (nI i)), (3, .int (nI (fb_sm (fun h => xpc (xmask (fun n => xs_fit (xFM σ) h n) 6)) i + xpc (xmask (fun n => xs_fit (xFM σ) i n) j)))), (2, .int (xt_fault (σ 6) (xLM σ))), (0, .ref (α 0)), (1, .int (nI 4))] := hl
    have hP : va_P D vwCl (xw 20 α (xM α K) τ_1) H := hP
    refine lv_iload hx hb dX9_sumOf_20 (lv_at hl 0 rfl) ?_
    refine lv_bipush (v := nI 6) hx hb dX9_sumOf_22 (by decide) ?_
    refine x_icmpN_ge (tgt := 57) S dX9_sumOf_24 (by decide) (by omega) (by omega) (fun c_24 => ?_) (fun c_24 => ?_)
    · have e9 : j = 6 := by omega
      subst e9
      refine lv_iload_n hx hb dX9_sumOf_57 rfl (lv_at hl 2 rfl) ?_
      refine lv_iload_n hx hb dX9_sumOf_58 rfl (lv_at hl 5 rfl) ?_
      refine lv_iconst (v := nI 5) hx hb dX9_sumOf_59 (by decide) ?_
      refine x_icmpN_ne (tgt := 76) S dX9_sumOf_60 (by decide) (by omega) (by omega) (fun _ => ?_) (fun q => absurd q (by omega))
      refine lv_iload_n hx hb dX9_sumOf_76 rfl (lv_at hl 5 rfl) ?_
      refine lv_bipush (v := nI 6) hx hb dX9_sumOf_77 (by decide) ?_
      refine x_icmpN_ne (tgt := 96) S dX9_sumOf_79 (by decide) (by omega) (by omega) (fun _ => ?_) (fun q => absurd q (by omega))
      refine lv_iload_n hx hb dX9_sumOf_96 rfl (lv_at hl 5 rfl) ?_
      refine lv_bipush (v := nI 7) hx hb dX9_sumOf_97 (by decide) ?_
      refine x_icmpN_ne (tgt := 116) S dX9_sumOf_99 (by decide) (by omega) (by omega) (fun _ => ?_) (fun q => absurd q (by omega))
      refine lv_iconst (v := nI 0) hx hb dX9_sumOf_116 (by decide) ?_
      refine x_iaddN S dX9_sumOf_117 ?_
      refine lv_istore_n (lv' := [(3, .int (nI ((fb_sm (fun h => xpc (xmask (fun n => xs_fit (xFM σ) h n) 6)) i + xpc (xmask (fun n => xs_fit (xFM σ) i n) 6)) + 0))), (5, .int (nI 6)), (4, .int (nI i)), (2, .int (xt_fault (σ 6) (xLM σ))), (0, .ref (α 0)), (1, .int (nI 4))]) hx hb dX9_sumOf_118 rfl hl (by decide) rfl (fun ls hl => ?_)
      refine lv_iinc (v := nI (i + 1)) (lv' := [(4, .int (nI (i + 1))), (3, .int (nI ((fb_sm (fun h => xpc (xmask (fun n => xs_fit (xFM σ) h n) 6)) i + xpc (xmask (fun n => xs_fit (xFM σ) i n) 6)) + 0))), (5, .int (nI 6)), (2, .int (xt_fault (σ 6) (xLM σ))), (0, .ref (α 0)), (1, .int (nI 4))]) hx hb dX9_sumOf_119 hl (k := 2) rfl (nI_add i 1) (by decide) rfl (fun ls hl => ?_)
      refine lv_goto (tgt := 10) hx hb dX9_sumOf_122 (by decide) ?_
      exact ih_10 (i + 1) H locs ls ⟨(by omega), (by have h9 := lv_sub (l' := [(4, .int (nI (i + 1))), (3, .int (nI ((fb_sm (fun h => xpc (xmask (fun n => xs_fit (xFM σ) h n) 6)) i + xpc (xmask (fun n => xs_fit (xFM σ) i n) 6)) + 0))), (2, .int (xt_fault (σ 6) (xLM σ))), (0, .ref (α 0)), (1, .int (nI 4))]) hl [0, 1, 3, 4, 5] rfl; rw [show nI ((fb_sm (fun h => xpc (xmask (fun n => xs_fit (xFM σ) h n) 6)) i + xpc (xmask (fun n => xs_fit (xFM σ) i n) 6)) + 0) = nI (fb_sm (fun h => xpc (xmask (fun n => xs_fit (xFM σ) h n) 6)) (i + 1)) from rfl] at h9; exact h9), hP, hS⟩ (by (try dsimp only); omega)
    · refine lv_iload_n hx hb dX9_sumOf_27 rfl (lv_at hl 5 rfl) ?_
      refine lv_iconst (v := nI 4) hx hb dX9_sumOf_28 (by decide) ?_
      refine x_icmpN_ne (tgt := 57) S dX9_sumOf_29 (by decide) (by omega) (by omega) (fun q => absurd q (by omega)) (fun _ => ?_)
      refine lv_iload_n hx hb dX9_sumOf_32 rfl (lv_at hl 2 rfl) ?_
      refine lv_aload_n hx hb dX9_sumOf_33 rfl (lv_at hl 4 rfl) ?_
      refine lv_iload hx hb dX9_sumOf_34 (lv_at hl 1 rfl) ?_
      refine lv_iload hx hb dX9_sumOf_36 (lv_at hl 0 rfl) ?_
      refine x_cVRi (As := [.int (nI i), .int (nI j)]) (rest := [.int (nI (fb_sm (fun h => xpc (xmask (fun n => xs_fit (xFM σ) h n) 6)) i + xpc (xmask (fun n => xs_fit (xFM σ) i n) j)))]) S hK hP 0 (by omega) rfl rfl (c_X9_doesFit l τ_1 i j  (by first | assumption | omega) (by first | assumption | omega)) (x_cwV (n0 := 2) (cq := (RX9, TX9, 24)) S gX9_sumOf_X9_doesFit rfl (by decide +kernel) ⟨Nat.le_of_ble_eq_true rfl, Nat.le_of_ble_eq_true rfl⟩) rfl hl.1 rfl (Nat.le_of_ble_eq_true rfl) dX9_sumOf_38 ⟨Nat.le_refl _, Nat.le_refl _⟩ (fun r_38 hr_38 => ?_)
      subst hr_38
      refine x_top S (y := xb (xs_fit (xFM σ) i j)) (by rw [eF]) ?_
      refine x_if_eqB (tgt := 48) S dX9_sumOf_41 (by decide) (fun c_41 => ?_) (fun c_41 => ?_)
      · refine lv_iconst (v := nI 0) hx hb dX9_sumOf_48 (by decide) ?_
        refine x_iaddN S dX9_sumOf_49 ?_
        refine lv_istore_n (lv' := [(3, .int (nI ((fb_sm (fun h => xpc (xmask (fun n => xs_fit (xFM σ) h n) 6)) i + xpc (xmask (fun n => xs_fit (xFM σ) i n) j)) + 0))), (5, .int (nI j)), (4, .int (nI i)), (2, .int (xt_fault (σ 6) (xLM σ))), (0, .ref (α 0)), (1, .int (nI 4))]) hx hb dX9_sumOf_50 rfl hl (by decide) rfl (fun ls hl => ?_)
        refine lv_iinc (v := nI (j + 1)) (lv' := [(5, .int (nI (j + 1))), (3, .int (nI ((fb_sm (fun h => xpc (xmask (fun n => xs_fit (xFM σ) h n) 6)) i + xpc (xmask (fun n => xs_fit (xFM σ) i n) j)) + 0))), (4, .int (nI i)), (2, .int (xt_fault (σ 6) (xLM σ))), (0, .ref (α 0)), (1, .int (nI 4))]) hx hb dX9_sumOf_51 hl (k := 1) rfl (nI_add j 1) (by decide) rfl (fun ls hl => ?_)
        refine lv_goto (tgt := 20) hx hb dX9_sumOf_54 (by decide) ?_
        exact ih_20 (j + 1) H locs ls ⟨(by omega), (by have h9 := lv_sub (l' := [(5, .int (nI (j + 1))), (4, .int (nI i)), (3, .int (nI ((fb_sm (fun h => xpc (xmask (fun n => xs_fit (xFM σ) h n) 6)) i + xpc (xmask (fun n => xs_fit (xFM σ) i n) j)) + 0))), (2, .int (xt_fault (σ 6) (xLM σ))), (0, .ref (α 0)), (1, .int (nI 4))]) hl [0, 2, 1, 3, 4, 5] rfl; rw [show nI ((fb_sm (fun h => xpc (xmask (fun n => xs_fit (xFM σ) h n) 6)) i + xpc (xmask (fun n => xs_fit (xFM σ) i n) j)) + 0) = nI (fb_sm (fun h => xpc (xmask (fun n => xs_fit (xFM σ) h n) 6)) i + xpc (xmask (fun n => xs_fit (xFM σ) i n) (j + 1))) from by rw [xpc_mask (by omega)]; first | (rw [if_pos c_41] <;> rfl) | (rw [if_neg c_41] <;> rfl)] at h9; exact h9), hP, hS⟩ (by (try dsimp only); omega)
      · refine lv_iconst (v := nI 1) hx hb dX9_sumOf_44 (by decide) ?_
        refine lv_goto (tgt := 49) hx hb dX9_sumOf_45 (by decide) ?_
        refine x_iaddN S dX9_sumOf_49 ?_
        refine lv_istore_n (lv' := [(3, .int (nI ((fb_sm (fun h => xpc (xmask (fun n => xs_fit (xFM σ) h n) 6)) i + xpc (xmask (fun n => xs_fit (xFM σ) i n) j)) + 1))), (5, .int (nI j)), (4, .int (nI i)), (2, .int (xt_fault (σ 6) (xLM σ))), (0, .ref (α 0)), (1, .int (nI 4))]) hx hb dX9_sumOf_50 rfl hl (by decide) rfl (fun ls hl => ?_)
        refine lv_iinc (v := nI (j + 1)) (lv' := [(5, .int (nI (j + 1))), (3, .int (nI ((fb_sm (fun h => xpc (xmask (fun n => xs_fit (xFM σ) h n) 6)) i + xpc (xmask (fun n => xs_fit (xFM σ) i n) j)) + 1))), (4, .int (nI i)), (2, .int (xt_fault (σ 6) (xLM σ))), (0, .ref (α 0)), (1, .int (nI 4))]) hx hb dX9_sumOf_51 hl (k := 1) rfl (nI_add j 1) (by decide) rfl (fun ls hl => ?_)
        refine lv_goto (tgt := 20) hx hb dX9_sumOf_54 (by decide) ?_
        exact ih_20 (j + 1) H locs ls ⟨(by omega), (by have h9 := lv_sub (l' := [(5, .int (nI (j + 1))), (4, .int (nI i)), (3, .int (nI ((fb_sm (fun h => xpc (xmask (fun n => xs_fit (xFM σ) h n) 6)) i + xpc (xmask (fun n => xs_fit (xFM σ) i n) j)) + 1))), (2, .int (xt_fault (σ 6) (xLM σ))), (0, .ref (α 0)), (1, .int (nI 4))]) hl [0, 2, 1, 3, 4, 5] rfl; rw [show nI ((fb_sm (fun h => xpc (xmask (fun n => xs_fit (xFM σ) h n) 6)) i + xpc (xmask (fun n => xs_fit (xFM σ) i n) j)) + 1) = nI (fb_sm (fun h => xpc (xmask (fun n => xs_fit (xFM σ) h n) 6)) i + xpc (xmask (fun n => xs_fit (xFM σ) i n) (j + 1))) from by rw [xpc_mask (by omega)]; first | (rw [if_pos c_41] <;> rfl) | (rw [if_neg c_41] <;> rfl)] at h9; exact h9), hP, hS⟩ (by (try dsimp only); omega)
set_option maxHeartbeats 4000000 in
set_option maxRecDepth 100000 in
theorem c_X9_sumOf5 (l : Launch) {D : va_G} {K : Nat → ClassId} {α : Nat → Nat} (σ : Nat → Nat → Int32) (hI : xw_I 20 α)   (hC : xIM σ) : Met l yX9_sumOf wsX9_sumOf (xrm 3) (va_Pc [.ref (α 0), .int (nI 5)] (xPre D K 20 α (xM α K) σ)) (xQi D 20 α (xM α K) (fun r τ => r = xsum (fun h => xs_purse (xFM σ) (σ 6) h (xYM σ)) 6 ∧ xMs σ τ)) 0 0 (xw_R 20 α) := by
  refine Met.ofW (cc := cX9_sumOf) (maxL := 6) (ret := (some .int)) (by decide) rfl ?_
  intro p e s m args below meth c s₁ B hml hv
  obtain ⟨rfl, hK, hP⟩ := hv
  have S : CallFix p m c cX9_sumOf 6 s _ wsX9_sumOf RX9 := ⟨B.exec, B.bytes, hml, findClass_of_methodNamed B.named, atoms_spec (ws := wsX9_sumOf) B.pre⟩
  have hx := S.1
  have hb := S.2.1
  have hr := B.returns
  have hlocks := B.notSynchronized
  have hS : va_S (xw_R 20 α) s.heap s.heap [] := va_S.rf
  have hl := lv_entry ([.ref (α 0), .int (nI 5)]) (n := 6) (Nat.le_of_ble_eq_true rfl)
  rw [lg_entry_eq]
  generalize (lg_sl ([.ref (α 0), .int (nI 5)]) ++ List.replicate (6 - (lg_sl ([.ref (α 0), .int (nI 5)])).length) Slot.unset).toArray = ls at hl ⊢
  have hl : lv_has ls 6 [(0, .ref (α 0)), (1, .int (nI 5))] := hl
  have hPP := hP
  have hY := xIM_Y hC
  have hY12 := xIM_12 hC
  have hPm := xIM_P hC
  refine lv_aload_n hx hb dX9_sumOf_0 rfl (lv_at hl 0 rfl) ?_
  refine x_cVWi (As := []) (rest := []) S hK hP hS (fun _ h => h) 0 (by omega) rfl rfl (c_X9_faultNow l σ hI   (by first | assumption | omega)) (x_cwV (n0 := 0) (cq := (RX9, TX9, 24)) S gX9_sumOf_X9_faultNow rfl (by decide +kernel) ⟨Nat.le_of_ble_eq_true rfl, Nat.le_of_ble_eq_true rfl⟩) rfl hl.1 rfl (Nat.le_of_ble_eq_true rfl) dX9_sumOf_1 ⟨Nat.le_refl _, Nat.le_refl _⟩ (fun r_1 τ_1 H locs hr_1 hP hk_1 hS => ?_)
  obtain ⟨hr_1, hms_1, hbk_1⟩ := hr_1
  subst hr_1
  obtain ⟨hyr, hbk⟩ := xBk_of hms_1 hbk_1
  have eF := xMs_F hms_1
  have e6 : τ_1 6 = σ 6 := xMs_k hms_1 (by decide)
  have hC2 := xMs_IM hms_1 hC
  refine lv_istore_n (lv' := [(2, .int (xt_fault (σ 6) (xLM σ))), (0, .ref (α 0)), (1, .int (nI 5))]) hx hb dX9_sumOf_4 rfl hl (by decide) rfl (fun ls hl => ?_)
  refine lv_iconst (v := nI 0) hx hb dX9_sumOf_5 (by decide) ?_
  refine lv_istore_n (lv' := [(3, .int (nI 0)), (2, .int (xt_fault (σ 6) (xLM σ))), (0, .ref (α 0)), (1, .int (nI 5))]) hx hb dX9_sumOf_6 rfl hl (by decide) rfl (fun ls hl => ?_)
  refine lv_iconst (v := nI 0) hx hb dX9_sumOf_7 (by decide) ?_
  refine lv_istore (lv' := [(4, .int (nI 0)), (3, .int (nI 0)), (2, .int (xt_fault (σ 6) (xLM σ))), (0, .ref (α 0)), (1, .int (nI 5))]) hx hb dX9_sumOf_8 hl (by decide) rfl (fun ls hl => ?_)
  refine x_loopW (ι := Nat) (fun i H locs ls => (i ≤ 6) ∧ lv_has ls 6 [(4, .int (nI i)), (3, .int (xsum (fun h => xs_purse (xFM σ) (σ 6) h (xYM σ)) i)), (2, .int (xt_fault (σ 6) (xLM σ))), (0, .ref (α 0)), (1, .int (nI 5))] ∧ va_P D vwCl (xw 20 α (xM α K) τ_1) H ∧ va_S (xw_R 20 α) s.heap H locs) (fun i => 6 - i) ?_ 0 ls ⟨Nat.zero_le _, lv_sub hl [0, 1, 2, 3, 4] rfl, hP, hS⟩
  intro i H locs ls hinv ih_10
  obtain ⟨hi, hl, hP, hS⟩ := hinv
  have hl : lv_has ls 6 [(4, .int (nI i)), (3, .int (xsum (fun h => xs_purse (xFM σ) (σ 6) h (xYM σ)) i)), (2, .int (xt_fault (σ 6) (xLM σ))), (0, .ref (α 0)), (1, .int (nI 5))] := hl
  have hP : va_P D vwCl (xw 20 α (xM α K) τ_1) H := hP
  refine lv_iload hx hb dX9_sumOf_10 (lv_at hl 0 rfl) ?_
  refine lv_bipush (v := nI 6) hx hb dX9_sumOf_12 (by decide) ?_
  refine x_icmpN_ge (tgt := 125) S dX9_sumOf_14 (by decide) (by omega) (by omega) (fun c_14 => ?_) (fun c_14 => ?_)
  · have e9 : i = 6 := by omega
    subst e9
    refine lv_iload_n hx hb dX9_sumOf_125 rfl (lv_at hl 4 rfl) ?_
    refine x_ifN_ne (tgt := 136) S dX9_sumOf_126 (by decide) (by omega) (fun _ => ?_) (fun q => absurd q (by omega))
    refine lv_iload_n hx hb dX9_sumOf_136 rfl (lv_at hl 1 rfl) ?_
    exact x_iretW S hlocks hP hS hr rfl (⟨rfl, hms_1⟩) dX9_sumOf_137
  · refine lv_iconst (v := nI 0) hx hb dX9_sumOf_17 (by decide) ?_
    refine lv_istore (lv' := [(5, .int (nI 0)), (4, .int (nI i)), (3, .int (xsum (fun h => xs_purse (xFM σ) (σ 6) h (xYM σ)) i)), (2, .int (xt_fault (σ 6) (xLM σ))), (0, .ref (α 0)), (1, .int (nI 5))]) hx hb dX9_sumOf_18 hl (by decide) rfl (fun ls hl => ?_)
    refine lv_iload hx hb dX9_sumOf_20 (lv_at hl 0 rfl) ?_
    refine lv_bipush (v := nI 6) hx hb dX9_sumOf_22 (by decide) ?_
    refine x_icmpN_ge (tgt := 57) S dX9_sumOf_24 (by decide) (by omega) (by omega) (fun q => absurd q (by omega)) (fun _ => ?_)
    refine lv_iload_n hx hb dX9_sumOf_27 rfl (lv_at hl 5 rfl) ?_
    refine lv_iconst (v := nI 4) hx hb dX9_sumOf_28 (by decide) ?_
    refine x_icmpN_ne (tgt := 57) S dX9_sumOf_29 (by decide) (by omega) (by omega) (fun _ => ?_) (fun q => absurd q (by omega))
    refine lv_iload_n hx hb dX9_sumOf_57 rfl (lv_at hl 2 rfl) ?_
    refine lv_iload_n hx hb dX9_sumOf_58 rfl (lv_at hl 5 rfl) ?_
    refine lv_iconst (v := nI 5) hx hb dX9_sumOf_59 (by decide) ?_
    refine x_icmpN_ne (tgt := 76) S dX9_sumOf_60 (by decide) (by omega) (by omega) (fun q => absurd q (by omega)) (fun _ => ?_)
    refine lv_aload_n hx hb dX9_sumOf_63 rfl (lv_at hl 4 rfl) ?_
    refine lv_iload hx hb dX9_sumOf_64 (lv_at hl 1 rfl) ?_
    refine lv_aload_n hx hb dX9_sumOf_66 rfl (lv_at hl 4 rfl) ?_
    refine x_get S (fun w h => List.mem_cons_of_mem _ (List.mem_append_right _ h)) hK hP 0 (by omega) rfl rfl 7 (by decide) (List.mem_of_getElem? (i := 1) rfl) rfl dX9_sumOf_67 ?_
    refine x_top S (y := nI (xYM σ)) (hyr) ?_
    refine x_cVRi (As := [.int (nI i), .int (nI (xYM σ))]) (rest := [.int (xsum (fun h => xs_purse (xFM σ) (σ 6) h (xYM σ)) i)]) S hK hP 0 (by omega) rfl rfl (c_X9_purseOf l τ_1 i (xYM σ) (xYM σ)  (by rw [e6]; exact hbk) (by rw [e6]; exact hY) (by first | assumption | omega) (by first | assumption | omega) (by first | assumption | omega)) (x_cwV (n0 := 2) (cq := (RX9, TX9, 24)) S gX9_sumOf_X9_purseOf rfl (by decide +kernel) ⟨Nat.le_of_ble_eq_true rfl, Nat.le_of_ble_eq_true rfl⟩) rfl hl.1 rfl (Nat.le_of_ble_eq_true rfl) dX9_sumOf_70 ⟨Nat.le_refl _, Nat.le_refl _⟩ (fun r_70 hr_70 => ?_)
    subst hr_70
    refine x_top S (y := xs_purse (xFM σ) (σ 6) i (xYM σ)) (by rw [eF, e6]) ?_
    refine lv_goto (tgt := 117) hx hb dX9_sumOf_73 (by decide) ?_
    refine lv_iadd hx hb dX9_sumOf_117 ?_
    refine lv_istore_n (lv' := [(3, .int ((xsum (fun h => xs_purse (xFM σ) (σ 6) h (xYM σ)) i) + (xs_purse (xFM σ) (σ 6) i (xYM σ)))), (5, .int (nI 0)), (4, .int (nI i)), (2, .int (xt_fault (σ 6) (xLM σ))), (0, .ref (α 0)), (1, .int (nI 5))]) hx hb dX9_sumOf_118 rfl hl (by decide) rfl (fun ls hl => ?_)
    refine lv_iinc (v := nI (i + 1)) (lv' := [(4, .int (nI (i + 1))), (3, .int ((xsum (fun h => xs_purse (xFM σ) (σ 6) h (xYM σ)) i) + (xs_purse (xFM σ) (σ 6) i (xYM σ)))), (5, .int (nI 0)), (2, .int (xt_fault (σ 6) (xLM σ))), (0, .ref (α 0)), (1, .int (nI 5))]) hx hb dX9_sumOf_119 hl (k := 2) rfl (nI_add i 1) (by decide) rfl (fun ls hl => ?_)
    refine lv_goto (tgt := 10) hx hb dX9_sumOf_122 (by decide) ?_
    exact ih_10 (i + 1) H locs ls ⟨(by omega), (by have h9 := lv_sub (l' := [(4, .int (nI (i + 1))), (3, .int ((xsum (fun h => xs_purse (xFM σ) (σ 6) h (xYM σ)) i) + (xs_purse (xFM σ) (σ 6) i (xYM σ)))), (2, .int (xt_fault (σ 6) (xLM σ))), (0, .ref (α 0)), (1, .int (nI 5))]) hl [0, 1, 3, 4, 5] rfl; rw [show (xsum (fun h => xs_purse (xFM σ) (σ 6) h (xYM σ)) i) + (xs_purse (xFM σ) (σ 6) i (xYM σ)) = xsum (fun h => xs_purse (xFM σ) (σ 6) h (xYM σ)) (i + 1) from rfl] at h9; exact h9), hP, hS⟩ (by (try dsimp only); omega)
set_option maxHeartbeats 4000000 in
set_option maxRecDepth 100000 in
theorem c_X9_sumOf6 (l : Launch) {D : va_G} {K : Nat → ClassId} {α : Nat → Nat} (σ : Nat → Nat → Int32) (hI : xw_I 20 α)   (hC : xIM σ) : Met l yX9_sumOf wsX9_sumOf (xrm 3) (va_Pc [.ref (α 0), .int (nI 6)] (xPre D K 20 α (xM α K) σ)) (xQi D 20 α (xM α K) (fun r τ => r = xsum (fun h => xFM σ 4 h * xs_shame (xFM σ) (σ 6) h (xYM σ)) 6 ∧ xMs σ τ)) 0 0 (xw_R 20 α) := by
  refine Met.ofW (cc := cX9_sumOf) (maxL := 6) (ret := (some .int)) (by decide) rfl ?_
  intro p e s m args below meth c s₁ B hml hv
  obtain ⟨rfl, hK, hP⟩ := hv
  have S : CallFix p m c cX9_sumOf 6 s _ wsX9_sumOf RX9 := ⟨B.exec, B.bytes, hml, findClass_of_methodNamed B.named, atoms_spec (ws := wsX9_sumOf) B.pre⟩
  have hx := S.1
  have hb := S.2.1
  have hr := B.returns
  have hlocks := B.notSynchronized
  have hS : va_S (xw_R 20 α) s.heap s.heap [] := va_S.rf
  have hl := lv_entry ([.ref (α 0), .int (nI 6)]) (n := 6) (Nat.le_of_ble_eq_true rfl)
  rw [lg_entry_eq]
  generalize (lg_sl ([.ref (α 0), .int (nI 6)]) ++ List.replicate (6 - (lg_sl ([.ref (α 0), .int (nI 6)])).length) Slot.unset).toArray = ls at hl ⊢
  have hl : lv_has ls 6 [(0, .ref (α 0)), (1, .int (nI 6))] := hl
  have hPP := hP
  have hY := xIM_Y hC
  have hY12 := xIM_12 hC
  have hPm := xIM_P hC
  refine lv_aload_n hx hb dX9_sumOf_0 rfl (lv_at hl 0 rfl) ?_
  refine x_cVWi (As := []) (rest := []) S hK hP hS (fun _ h => h) 0 (by omega) rfl rfl (c_X9_faultNow l σ hI   (by first | assumption | omega)) (x_cwV (n0 := 0) (cq := (RX9, TX9, 24)) S gX9_sumOf_X9_faultNow rfl (by decide +kernel) ⟨Nat.le_of_ble_eq_true rfl, Nat.le_of_ble_eq_true rfl⟩) rfl hl.1 rfl (Nat.le_of_ble_eq_true rfl) dX9_sumOf_1 ⟨Nat.le_refl _, Nat.le_refl _⟩ (fun r_1 τ_1 H locs hr_1 hP hk_1 hS => ?_)
  obtain ⟨hr_1, hms_1, hbk_1⟩ := hr_1
  subst hr_1
  obtain ⟨hyr, hbk⟩ := xBk_of hms_1 hbk_1
  have eF := xMs_F hms_1
  have e6 : τ_1 6 = σ 6 := xMs_k hms_1 (by decide)
  have hC2 := xMs_IM hms_1 hC
  refine lv_istore_n (lv' := [(2, .int (xt_fault (σ 6) (xLM σ))), (0, .ref (α 0)), (1, .int (nI 6))]) hx hb dX9_sumOf_4 rfl hl (by decide) rfl (fun ls hl => ?_)
  refine lv_iconst (v := nI 0) hx hb dX9_sumOf_5 (by decide) ?_
  refine lv_istore_n (lv' := [(3, .int (nI 0)), (2, .int (xt_fault (σ 6) (xLM σ))), (0, .ref (α 0)), (1, .int (nI 6))]) hx hb dX9_sumOf_6 rfl hl (by decide) rfl (fun ls hl => ?_)
  refine lv_iconst (v := nI 0) hx hb dX9_sumOf_7 (by decide) ?_
  refine lv_istore (lv' := [(4, .int (nI 0)), (3, .int (nI 0)), (2, .int (xt_fault (σ 6) (xLM σ))), (0, .ref (α 0)), (1, .int (nI 6))]) hx hb dX9_sumOf_8 hl (by decide) rfl (fun ls hl => ?_)
  refine x_loopW (ι := Nat) (fun i H locs ls => (i ≤ 6) ∧ lv_has ls 6 [(4, .int (nI i)), (3, .int (xsum (fun h => xFM σ 4 h * xs_shame (xFM σ) (σ 6) h (xYM σ)) i)), (2, .int (xt_fault (σ 6) (xLM σ))), (0, .ref (α 0)), (1, .int (nI 6))] ∧ va_P D vwCl (xw 20 α (xM α K) τ_1) H ∧ va_S (xw_R 20 α) s.heap H locs) (fun i => 6 - i) ?_ 0 ls ⟨Nat.zero_le _, lv_sub hl [0, 1, 2, 3, 4] rfl, hP, hS⟩
  intro i H locs ls hinv ih_10
  obtain ⟨hi, hl, hP, hS⟩ := hinv
  have hl : lv_has ls 6 [(4, .int (nI i)), (3, .int (xsum (fun h => xFM σ 4 h * xs_shame (xFM σ) (σ 6) h (xYM σ)) i)), (2, .int (xt_fault (σ 6) (xLM σ))), (0, .ref (α 0)), (1, .int (nI 6))] := hl
  have hP : va_P D vwCl (xw 20 α (xM α K) τ_1) H := hP
  refine lv_iload hx hb dX9_sumOf_10 (lv_at hl 0 rfl) ?_
  refine lv_bipush (v := nI 6) hx hb dX9_sumOf_12 (by decide) ?_
  refine x_icmpN_ge (tgt := 125) S dX9_sumOf_14 (by decide) (by omega) (by omega) (fun c_14 => ?_) (fun c_14 => ?_)
  · have e9 : i = 6 := by omega
    subst e9
    refine lv_iload_n hx hb dX9_sumOf_125 rfl (lv_at hl 4 rfl) ?_
    refine x_ifN_ne (tgt := 136) S dX9_sumOf_126 (by decide) (by omega) (fun _ => ?_) (fun q => absurd q (by omega))
    refine lv_iload_n hx hb dX9_sumOf_136 rfl (lv_at hl 1 rfl) ?_
    exact x_iretW S hlocks hP hS hr rfl (⟨rfl, hms_1⟩) dX9_sumOf_137
  · refine lv_iconst (v := nI 0) hx hb dX9_sumOf_17 (by decide) ?_
    refine lv_istore (lv' := [(5, .int (nI 0)), (4, .int (nI i)), (3, .int (xsum (fun h => xFM σ 4 h * xs_shame (xFM σ) (σ 6) h (xYM σ)) i)), (2, .int (xt_fault (σ 6) (xLM σ))), (0, .ref (α 0)), (1, .int (nI 6))]) hx hb dX9_sumOf_18 hl (by decide) rfl (fun ls hl => ?_)
    refine lv_iload hx hb dX9_sumOf_20 (lv_at hl 0 rfl) ?_
    refine lv_bipush (v := nI 6) hx hb dX9_sumOf_22 (by decide) ?_
    refine x_icmpN_ge (tgt := 57) S dX9_sumOf_24 (by decide) (by omega) (by omega) (fun q => absurd q (by omega)) (fun _ => ?_)
    refine lv_iload_n hx hb dX9_sumOf_27 rfl (lv_at hl 5 rfl) ?_
    refine lv_iconst (v := nI 4) hx hb dX9_sumOf_28 (by decide) ?_
    refine x_icmpN_ne (tgt := 57) S dX9_sumOf_29 (by decide) (by omega) (by omega) (fun _ => ?_) (fun q => absurd q (by omega))
    refine lv_iload_n hx hb dX9_sumOf_57 rfl (lv_at hl 2 rfl) ?_
    refine lv_iload_n hx hb dX9_sumOf_58 rfl (lv_at hl 5 rfl) ?_
    refine lv_iconst (v := nI 5) hx hb dX9_sumOf_59 (by decide) ?_
    refine x_icmpN_ne (tgt := 76) S dX9_sumOf_60 (by decide) (by omega) (by omega) (fun _ => ?_) (fun q => absurd q (by omega))
    refine lv_iload_n hx hb dX9_sumOf_76 rfl (lv_at hl 5 rfl) ?_
    refine lv_bipush (v := nI 6) hx hb dX9_sumOf_77 (by decide) ?_
    refine x_icmpN_ne (tgt := 96) S dX9_sumOf_79 (by decide) (by omega) (by omega) (fun q => absurd q (by omega)) (fun _ => ?_)
    refine lv_aload_n hx hb dX9_sumOf_82 rfl (lv_at hl 4 rfl) ?_
    refine lv_iload hx hb dX9_sumOf_83 (lv_at hl 1 rfl) ?_
    refine lv_aload_n hx hb dX9_sumOf_85 rfl (lv_at hl 4 rfl) ?_
    refine x_get S (fun w h => List.mem_cons_of_mem _ (List.mem_append_right _ h)) hK hP 0 (by omega) rfl rfl 7 (by decide) (List.mem_of_getElem? (i := 1) rfl) rfl dX9_sumOf_86 ?_
    refine x_top S (y := nI (xYM σ)) (hyr) ?_
    refine lv_iconst (v := nI 0) hx hb dX9_sumOf_89 (by decide) ?_
    refine x_cVRi (As := [.int (nI i), .int (nI (xYM σ)), .int (nI 0)]) (rest := [.int (xsum (fun h => xFM σ 4 h * xs_shame (xFM σ) (σ 6) h (xYM σ)) i)]) S hK hP 0 (by omega) rfl rfl (c_X9_debtOf l τ_1 i (xYM σ) (nI 0) (xYM σ)  (by rw [e6]; exact hbk) (by rw [e6]; exact hY) (by first | assumption | omega) (by first | assumption | omega) (by first | assumption | omega)) (x_cwV (n0 := 3) (cq := (RX9, TX9, 24)) S gX9_sumOf_X9_debtOf rfl (by decide +kernel) ⟨Nat.le_of_ble_eq_true rfl, Nat.le_of_ble_eq_true rfl⟩) rfl hl.1 rfl (Nat.le_of_ble_eq_true rfl) dX9_sumOf_90 ⟨Nat.le_refl _, Nat.le_refl _⟩ (fun r_90 hr_90 => ?_)
    subst hr_90
    refine x_top S (y := xFM σ 4 i * xs_shame (xFM σ) (σ 6) i (xYM σ)) (by rw [eF, e6, if_pos (show nI 0 = 0 from rfl)]; exact xs_dm_eq _ hY hPm (by omega) (Nat.le_refl _)) ?_
    refine lv_goto (tgt := 117) hx hb dX9_sumOf_93 (by decide) ?_
    refine lv_iadd hx hb dX9_sumOf_117 ?_
    refine lv_istore_n (lv' := [(3, .int ((xsum (fun h => xFM σ 4 h * xs_shame (xFM σ) (σ 6) h (xYM σ)) i) + (xFM σ 4 i * xs_shame (xFM σ) (σ 6) i (xYM σ)))), (5, .int (nI 0)), (4, .int (nI i)), (2, .int (xt_fault (σ 6) (xLM σ))), (0, .ref (α 0)), (1, .int (nI 6))]) hx hb dX9_sumOf_118 rfl hl (by decide) rfl (fun ls hl => ?_)
    refine lv_iinc (v := nI (i + 1)) (lv' := [(4, .int (nI (i + 1))), (3, .int ((xsum (fun h => xFM σ 4 h * xs_shame (xFM σ) (σ 6) h (xYM σ)) i) + (xFM σ 4 i * xs_shame (xFM σ) (σ 6) i (xYM σ)))), (5, .int (nI 0)), (2, .int (xt_fault (σ 6) (xLM σ))), (0, .ref (α 0)), (1, .int (nI 6))]) hx hb dX9_sumOf_119 hl (k := 2) rfl (nI_add i 1) (by decide) rfl (fun ls hl => ?_)
    refine lv_goto (tgt := 10) hx hb dX9_sumOf_122 (by decide) ?_
    exact ih_10 (i + 1) H locs ls ⟨(by omega), (by have h9 := lv_sub (l' := [(4, .int (nI (i + 1))), (3, .int ((xsum (fun h => xFM σ 4 h * xs_shame (xFM σ) (σ 6) h (xYM σ)) i) + (xFM σ 4 i * xs_shame (xFM σ) (σ 6) i (xYM σ)))), (2, .int (xt_fault (σ 6) (xLM σ))), (0, .ref (α 0)), (1, .int (nI 6))]) hl [0, 1, 3, 4, 5] rfl; rw [show (xsum (fun h => xFM σ 4 h * xs_shame (xFM σ) (σ 6) h (xYM σ)) i) + (xFM σ 4 i * xs_shame (xFM σ) (σ 6) i (xYM σ)) = xsum (fun h => xFM σ 4 h * xs_shame (xFM σ) (σ 6) h (xYM σ)) (i + 1) from rfl] at h9; exact h9), hP, hS⟩ (by (try dsimp only); omega)
set_option maxHeartbeats 4000000 in
set_option maxRecDepth 100000 in
theorem c_X9_sumOf7 (l : Launch) {D : va_G} {K : Nat → ClassId} {α : Nat → Nat} (σ : Nat → Nat → Int32) (hI : xw_I 20 α)   (hC : xIM σ) : Met l yX9_sumOf wsX9_sumOf (xrm 3) (va_Pc [.ref (α 0), .int (nI 7)] (xPre D K 20 α (xM α K) σ)) (xQi D 20 α (xM α K) (fun r τ => r = xsum (fun h => xs_shame (xFM σ) (σ 6) h (xYM σ)) 6 ∧ xMs σ τ)) 0 0 (xw_R 20 α) := by
  refine Met.ofW (cc := cX9_sumOf) (maxL := 6) (ret := (some .int)) (by decide) rfl ?_
  intro p e s m args below meth c s₁ B hml hv
  obtain ⟨rfl, hK, hP⟩ := hv
  have S : CallFix p m c cX9_sumOf 6 s _ wsX9_sumOf RX9 := ⟨B.exec, B.bytes, hml, findClass_of_methodNamed B.named, atoms_spec (ws := wsX9_sumOf) B.pre⟩
  have hx := S.1
  have hb := S.2.1
  have hr := B.returns
  have hlocks := B.notSynchronized
  have hS : va_S (xw_R 20 α) s.heap s.heap [] := va_S.rf
  have hl := lv_entry ([.ref (α 0), .int (nI 7)]) (n := 6) (Nat.le_of_ble_eq_true rfl)
  rw [lg_entry_eq]
  generalize (lg_sl ([.ref (α 0), .int (nI 7)]) ++ List.replicate (6 - (lg_sl ([.ref (α 0), .int (nI 7)])).length) Slot.unset).toArray = ls at hl ⊢
  have hl : lv_has ls 6 [(0, .ref (α 0)), (1, .int (nI 7))] := hl
  have hPP := hP
  have hY := xIM_Y hC
  have hY12 := xIM_12 hC
  have hPm := xIM_P hC
  refine lv_aload_n hx hb dX9_sumOf_0 rfl (lv_at hl 0 rfl) ?_
  refine x_cVWi (As := []) (rest := []) S hK hP hS (fun _ h => h) 0 (by omega) rfl rfl (c_X9_faultNow l σ hI   (by first | assumption | omega)) (x_cwV (n0 := 0) (cq := (RX9, TX9, 24)) S gX9_sumOf_X9_faultNow rfl (by decide +kernel) ⟨Nat.le_of_ble_eq_true rfl, Nat.le_of_ble_eq_true rfl⟩) rfl hl.1 rfl (Nat.le_of_ble_eq_true rfl) dX9_sumOf_1 ⟨Nat.le_refl _, Nat.le_refl _⟩ (fun r_1 τ_1 H locs hr_1 hP hk_1 hS => ?_)
  obtain ⟨hr_1, hms_1, hbk_1⟩ := hr_1
  subst hr_1
  obtain ⟨hyr, hbk⟩ := xBk_of hms_1 hbk_1
  have eF := xMs_F hms_1
  have e6 : τ_1 6 = σ 6 := xMs_k hms_1 (by decide)
  have hC2 := xMs_IM hms_1 hC
  refine lv_istore_n (lv' := [(2, .int (xt_fault (σ 6) (xLM σ))), (0, .ref (α 0)), (1, .int (nI 7))]) hx hb dX9_sumOf_4 rfl hl (by decide) rfl (fun ls hl => ?_)
  refine lv_iconst (v := nI 0) hx hb dX9_sumOf_5 (by decide) ?_
  refine lv_istore_n (lv' := [(3, .int (nI 0)), (2, .int (xt_fault (σ 6) (xLM σ))), (0, .ref (α 0)), (1, .int (nI 7))]) hx hb dX9_sumOf_6 rfl hl (by decide) rfl (fun ls hl => ?_)
  refine lv_iconst (v := nI 0) hx hb dX9_sumOf_7 (by decide) ?_
  refine lv_istore (lv' := [(4, .int (nI 0)), (3, .int (nI 0)), (2, .int (xt_fault (σ 6) (xLM σ))), (0, .ref (α 0)), (1, .int (nI 7))]) hx hb dX9_sumOf_8 hl (by decide) rfl (fun ls hl => ?_)
  refine x_loopW (ι := Nat) (fun i H locs ls => (i ≤ 6) ∧ lv_has ls 6 [(4, .int (nI i)), (3, .int (xsum (fun h => xs_shame (xFM σ) (σ 6) h (xYM σ)) i)), (2, .int (xt_fault (σ 6) (xLM σ))), (0, .ref (α 0)), (1, .int (nI 7))] ∧ va_P D vwCl (xw 20 α (xM α K) τ_1) H ∧ va_S (xw_R 20 α) s.heap H locs) (fun i => 6 - i) ?_ 0 ls ⟨Nat.zero_le _, lv_sub hl [0, 1, 2, 3, 4] rfl, hP, hS⟩
  intro i H locs ls hinv ih_10
  obtain ⟨hi, hl, hP, hS⟩ := hinv
  have hl : lv_has ls 6 [(4, .int (nI i)), (3, .int (xsum (fun h => xs_shame (xFM σ) (σ 6) h (xYM σ)) i)), (2, .int (xt_fault (σ 6) (xLM σ))), (0, .ref (α 0)), (1, .int (nI 7))] := hl
  have hP : va_P D vwCl (xw 20 α (xM α K) τ_1) H := hP
  refine lv_iload hx hb dX9_sumOf_10 (lv_at hl 0 rfl) ?_
  refine lv_bipush (v := nI 6) hx hb dX9_sumOf_12 (by decide) ?_
  refine x_icmpN_ge (tgt := 125) S dX9_sumOf_14 (by decide) (by omega) (by omega) (fun c_14 => ?_) (fun c_14 => ?_)
  · have e9 : i = 6 := by omega
    subst e9
    refine lv_iload_n hx hb dX9_sumOf_125 rfl (lv_at hl 4 rfl) ?_
    refine x_ifN_ne (tgt := 136) S dX9_sumOf_126 (by decide) (by omega) (fun _ => ?_) (fun q => absurd q (by omega))
    refine lv_iload_n hx hb dX9_sumOf_136 rfl (lv_at hl 1 rfl) ?_
    exact x_iretW S hlocks hP hS hr rfl (⟨rfl, hms_1⟩) dX9_sumOf_137
  · refine lv_iconst (v := nI 0) hx hb dX9_sumOf_17 (by decide) ?_
    refine lv_istore (lv' := [(5, .int (nI 0)), (4, .int (nI i)), (3, .int (xsum (fun h => xs_shame (xFM σ) (σ 6) h (xYM σ)) i)), (2, .int (xt_fault (σ 6) (xLM σ))), (0, .ref (α 0)), (1, .int (nI 7))]) hx hb dX9_sumOf_18 hl (by decide) rfl (fun ls hl => ?_)
    refine lv_iload hx hb dX9_sumOf_20 (lv_at hl 0 rfl) ?_
    refine lv_bipush (v := nI 6) hx hb dX9_sumOf_22 (by decide) ?_
    refine x_icmpN_ge (tgt := 57) S dX9_sumOf_24 (by decide) (by omega) (by omega) (fun q => absurd q (by omega)) (fun _ => ?_)
    refine lv_iload_n hx hb dX9_sumOf_27 rfl (lv_at hl 5 rfl) ?_
    refine lv_iconst (v := nI 4) hx hb dX9_sumOf_28 (by decide) ?_
    refine x_icmpN_ne (tgt := 57) S dX9_sumOf_29 (by decide) (by omega) (by omega) (fun _ => ?_) (fun q => absurd q (by omega))
    refine lv_iload_n hx hb dX9_sumOf_57 rfl (lv_at hl 2 rfl) ?_
    refine lv_iload_n hx hb dX9_sumOf_58 rfl (lv_at hl 5 rfl) ?_
    refine lv_iconst (v := nI 5) hx hb dX9_sumOf_59 (by decide) ?_
    refine x_icmpN_ne (tgt := 76) S dX9_sumOf_60 (by decide) (by omega) (by omega) (fun _ => ?_) (fun q => absurd q (by omega))
    refine lv_iload_n hx hb dX9_sumOf_76 rfl (lv_at hl 5 rfl) ?_
    refine lv_bipush (v := nI 6) hx hb dX9_sumOf_77 (by decide) ?_
    refine x_icmpN_ne (tgt := 96) S dX9_sumOf_79 (by decide) (by omega) (by omega) (fun _ => ?_) (fun q => absurd q (by omega))
    refine lv_iload_n hx hb dX9_sumOf_96 rfl (lv_at hl 5 rfl) ?_
    refine lv_bipush (v := nI 7) hx hb dX9_sumOf_97 (by decide) ?_
    refine x_icmpN_ne (tgt := 116) S dX9_sumOf_99 (by decide) (by omega) (by omega) (fun q => absurd q (by omega)) (fun _ => ?_)
    refine lv_aload_n hx hb dX9_sumOf_102 rfl (lv_at hl 4 rfl) ?_
    refine lv_iload hx hb dX9_sumOf_103 (lv_at hl 1 rfl) ?_
    refine lv_aload_n hx hb dX9_sumOf_105 rfl (lv_at hl 4 rfl) ?_
    refine x_get S (fun w h => List.mem_cons_of_mem _ (List.mem_append_right _ h)) hK hP 0 (by omega) rfl rfl 7 (by decide) (List.mem_of_getElem? (i := 1) rfl) rfl dX9_sumOf_106 ?_
    refine x_top S (y := nI (xYM σ)) (hyr) ?_
    refine lv_iconst (v := nI 1) hx hb dX9_sumOf_109 (by decide) ?_
    refine x_cVRi (As := [.int (nI i), .int (nI (xYM σ)), .int (nI 1)]) (rest := [.int (xsum (fun h => xs_shame (xFM σ) (σ 6) h (xYM σ)) i)]) S hK hP 0 (by omega) rfl rfl (c_X9_debtOf l τ_1 i (xYM σ) (nI 1) (xYM σ)  (by rw [e6]; exact hbk) (by rw [e6]; exact hY) (by first | assumption | omega) (by first | assumption | omega) (by first | assumption | omega)) (x_cwV (n0 := 3) (cq := (RX9, TX9, 24)) S gX9_sumOf_X9_debtOf rfl (by decide +kernel) ⟨Nat.le_of_ble_eq_true rfl, Nat.le_of_ble_eq_true rfl⟩) rfl hl.1 rfl (Nat.le_of_ble_eq_true rfl) dX9_sumOf_110 ⟨Nat.le_refl _, Nat.le_refl _⟩ (fun r_110 hr_110 => ?_)
    subst hr_110
    refine x_top S (y := xs_shame (xFM σ) (σ 6) i (xYM σ)) (by rw [eF, e6, if_neg (show ¬ nI 1 = 0 by decide), xs_dm_eq _ hY hPm (by omega) (Nat.le_refl _), Int32.one_mul]) ?_
    refine lv_goto (tgt := 117) hx hb dX9_sumOf_113 (by decide) ?_
    refine lv_iadd hx hb dX9_sumOf_117 ?_
    refine lv_istore_n (lv' := [(3, .int ((xsum (fun h => xs_shame (xFM σ) (σ 6) h (xYM σ)) i) + (xs_shame (xFM σ) (σ 6) i (xYM σ)))), (5, .int (nI 0)), (4, .int (nI i)), (2, .int (xt_fault (σ 6) (xLM σ))), (0, .ref (α 0)), (1, .int (nI 7))]) hx hb dX9_sumOf_118 rfl hl (by decide) rfl (fun ls hl => ?_)
    refine lv_iinc (v := nI (i + 1)) (lv' := [(4, .int (nI (i + 1))), (3, .int ((xsum (fun h => xs_shame (xFM σ) (σ 6) h (xYM σ)) i) + (xs_shame (xFM σ) (σ 6) i (xYM σ)))), (5, .int (nI 0)), (2, .int (xt_fault (σ 6) (xLM σ))), (0, .ref (α 0)), (1, .int (nI 7))]) hx hb dX9_sumOf_119 hl (k := 2) rfl (nI_add i 1) (by decide) rfl (fun ls hl => ?_)
    refine lv_goto (tgt := 10) hx hb dX9_sumOf_122 (by decide) ?_
    exact ih_10 (i + 1) H locs ls ⟨(by omega), (by have h9 := lv_sub (l' := [(4, .int (nI (i + 1))), (3, .int ((xsum (fun h => xs_shame (xFM σ) (σ 6) h (xYM σ)) i) + (xs_shame (xFM σ) (σ 6) i (xYM σ)))), (2, .int (xt_fault (σ 6) (xLM σ))), (0, .ref (α 0)), (1, .int (nI 7))]) hl [0, 1, 3, 4, 5] rfl; rw [show (xsum (fun h => xs_shame (xFM σ) (σ 6) h (xYM σ)) i) + (xs_shame (xFM σ) (σ 6) i (xYM σ)) = xsum (fun h => xs_shame (xFM σ) (σ 6) h (xYM σ)) (i + 1) from rfl] at h9; exact h9), hP, hS⟩ (by (try dsimp only); omega)
set_option maxHeartbeats 4000000 in
set_option maxRecDepth 100000 in
theorem c_X9_count (l : Launch) {D : va_G} {K : Nat → ClassId} {α : Nat → Nat} (σ : Nat → Nat → Int32) (hI : xw_I 20 α) (x : Int32)  (hC : xIM σ) : Met l yX9_count wsX9_count (xrm 4) (va_Pc [.ref (α 0), .int x] (xPre D K 20 α (xM α K) σ)) (xQi D 20 α (xM α K) (fun r τ => r = xp_count (xcv (xFM σ) (σ 6) (xYM σ) (xLM σ) (xcM σ) (xsM σ) (σ 0 23)) x ∧ xMs σ τ)) 0 0 (xw_R 20 α) := by
  refine Met.ofW (cc := cX9_count) (maxL := 2) (ret := (some .int)) (by decide) rfl ?_
  intro p e s m args below meth c s₁ B hml hv
  obtain ⟨rfl, hK, hP⟩ := hv
  have S : CallFix p m c cX9_count 2 s _ wsX9_count RX9 := ⟨B.exec, B.bytes, hml, findClass_of_methodNamed B.named, atoms_spec (ws := wsX9_count) B.pre⟩
  have hx := S.1
  have hb := S.2.1
  have hr := B.returns
  have hlocks := B.notSynchronized
  have hS : va_S (xw_R 20 α) s.heap s.heap [] := va_S.rf
  have hl := lv_entry ([.ref (α 0), .int x]) (n := 2) (Nat.le_of_ble_eq_true rfl)
  rw [lg_entry_eq]
  generalize (lg_sl ([.ref (α 0), .int x]) ++ List.replicate (2 - (lg_sl ([.ref (α 0), .int x])).length) Slot.unset).toArray = ls at hl ⊢
  have hl : lv_has ls 2 [(0, .ref (α 0)), (1, .int x)] := hl
  have hPP := hP
  have hY := xIM_Y hC
  have hY12 := xIM_12 hC
  obtain ⟨⟨hL, hL9⟩, ⟨hcs, hcn, hc1, hc2⟩, ⟨hss, hsn, hs1, hs2⟩, hfe, hsh⟩ := id hC
  generalize hLe : xLM σ = L at hL hL9 ⊢
  generalize hYe : xYM σ = Y at hY hY12 ⊢
  generalize hcne : xcM σ = cn at hcs hcn hc1 hc2 ⊢
  generalize hsne : xsM σ = sn at hss hsn hs1 hs2 ⊢
  refine lv_iload_n hx hb dX9_count_0 rfl (lv_at hl 1 rfl) ?_
  rcases xcnt x with rfl | rfl | rfl | rfl | rfl | rfl | rfl | rfl | rfl | hx9
  · refine lv_tableIn (off := 51) (tgt := 52) hx hb dX9_count_1 (by decide) (by decide) (by decide) (by decide) ?_
    refine lv_aload_n hx hb dX9_count_52 rfl (lv_at hl 0 rfl) ?_
    refine lv_iload_n hx hb dX9_count_53 rfl (lv_at hl 1 rfl) ?_
    refine x_cVWi (As := [.int (nI 0)]) (rest := []) S hK hP hS (fun _ h => h) 0 (by omega) rfl rfl (c_X9_sumOf0 l σ hI   (by first | assumption | omega)) (x_cwV (n0 := 1) (cq := (RX9, TX9, 24)) S gX9_count_X9_sumOf rfl (by decide +kernel) ⟨Nat.le_of_ble_eq_true rfl, Nat.le_of_ble_eq_true rfl⟩) rfl hl.1 rfl (Nat.le_of_ble_eq_true rfl) dX9_count_54 ⟨Nat.le_refl _, Nat.le_refl _⟩ (fun r_54 τ_54 H locs hr_54 hP hk_54 hS => ?_)
    obtain ⟨hr_54, hms_54⟩ := hr_54
    subst hr_54
    exact x_iretW S hlocks hP hS hr rfl (⟨by rw [xp_count, if_pos (xin_nI (by decide) (by decide)), cN_nI (by decide), ← hYe]; rfl, hms_54⟩) dX9_count_57
  · refine lv_tableIn (off := 57) (tgt := 58) hx hb dX9_count_1 (by decide) (by decide) (by decide) (by decide) ?_
    refine lv_aload_n hx hb dX9_count_58 rfl (lv_at hl 0 rfl) ?_
    refine x_get S (fun w h => List.mem_cons_of_mem _ (List.mem_append_right _ h)) hK hP 0 (by omega) rfl rfl 6 (by decide) (List.mem_of_getElem? (i := 1) rfl) rfl dX9_count_59 ?_
    refine x_top S (y := nI L) (hL) ?_
    exact x_iretW S hlocks hP hS hr rfl (⟨by rw [xp_count, if_pos (xin_nI (by decide) (by decide)), cN_nI (by decide)]; rfl, xMs_rf _⟩) dX9_count_62
  · refine lv_tableIn (off := 62) (tgt := 63) hx hb dX9_count_1 (by decide) (by decide) (by decide) (by decide) ?_
    refine lv_aload_n hx hb dX9_count_63 rfl (lv_at hl 0 rfl) ?_
    refine x_get S (fun w h => List.mem_cons_of_mem _ (List.mem_append_right _ h)) hK hP 0 (by omega) rfl rfl 10 (by decide) (List.mem_of_getElem? (i := 2) rfl) rfl dX9_count_64 ?_
    refine x_top S (y := nI cn) (hcs) ?_
    exact x_iretW S hlocks hP hS hr rfl (⟨by rw [xp_count, if_pos (xin_nI (by decide) (by decide)), cN_nI (by decide)]; rfl, xMs_rf _⟩) dX9_count_67
  · refine lv_tableIn (off := 67) (tgt := 68) hx hb dX9_count_1 (by decide) (by decide) (by decide) (by decide) ?_
    refine lv_aload_n hx hb dX9_count_68 rfl (lv_at hl 0 rfl) ?_
    refine x_get S (fun w h => List.mem_cons_of_mem _ (List.mem_append_right _ h)) hK hP 0 (by omega) rfl rfl 14 (by decide) (List.mem_of_getElem? (i := 3) rfl) rfl dX9_count_69 ?_
    refine x_top S (y := nI sn) (hss) ?_
    exact x_iretW S hlocks hP hS hr rfl (⟨by rw [xp_count, if_pos (xin_nI (by decide) (by decide)), cN_nI (by decide)]; rfl, xMs_rf _⟩) dX9_count_72
  · refine lv_tableIn (off := 51) (tgt := 52) hx hb dX9_count_1 (by decide) (by decide) (by decide) (by decide) ?_
    refine lv_aload_n hx hb dX9_count_52 rfl (lv_at hl 0 rfl) ?_
    refine lv_iload_n hx hb dX9_count_53 rfl (lv_at hl 1 rfl) ?_
    refine x_cVWi (As := [.int (nI 4)]) (rest := []) S hK hP hS (fun _ h => h) 0 (by omega) rfl rfl (c_X9_sumOf4 l σ hI   (by first | assumption | omega)) (x_cwV (n0 := 1) (cq := (RX9, TX9, 24)) S gX9_count_X9_sumOf rfl (by decide +kernel) ⟨Nat.le_of_ble_eq_true rfl, Nat.le_of_ble_eq_true rfl⟩) rfl hl.1 rfl (Nat.le_of_ble_eq_true rfl) dX9_count_54 ⟨Nat.le_refl _, Nat.le_refl _⟩ (fun r_54 τ_54 H locs hr_54 hP hk_54 hS => ?_)
    obtain ⟨hr_54, hms_54⟩ := hr_54
    subst hr_54
    exact x_iretW S hlocks hP hS hr rfl (⟨by rw [xp_count, if_pos (xin_nI (by decide) (by decide)), cN_nI (by decide), ← hYe]; rfl, hms_54⟩) dX9_count_57
  · refine lv_tableIn (off := 51) (tgt := 52) hx hb dX9_count_1 (by decide) (by decide) (by decide) (by decide) ?_
    refine lv_aload_n hx hb dX9_count_52 rfl (lv_at hl 0 rfl) ?_
    refine lv_iload_n hx hb dX9_count_53 rfl (lv_at hl 1 rfl) ?_
    refine x_cVWi (As := [.int (nI 5)]) (rest := []) S hK hP hS (fun _ h => h) 0 (by omega) rfl rfl (c_X9_sumOf5 l σ hI   (by first | assumption | omega)) (x_cwV (n0 := 1) (cq := (RX9, TX9, 24)) S gX9_count_X9_sumOf rfl (by decide +kernel) ⟨Nat.le_of_ble_eq_true rfl, Nat.le_of_ble_eq_true rfl⟩) rfl hl.1 rfl (Nat.le_of_ble_eq_true rfl) dX9_count_54 ⟨Nat.le_refl _, Nat.le_refl _⟩ (fun r_54 τ_54 H locs hr_54 hP hk_54 hS => ?_)
    obtain ⟨hr_54, hms_54⟩ := hr_54
    subst hr_54
    exact x_iretW S hlocks hP hS hr rfl (⟨by rw [xp_count, if_pos (xin_nI (by decide) (by decide)), cN_nI (by decide), ← hYe]; rfl, hms_54⟩) dX9_count_57
  · refine lv_tableIn (off := 51) (tgt := 52) hx hb dX9_count_1 (by decide) (by decide) (by decide) (by decide) ?_
    refine lv_aload_n hx hb dX9_count_52 rfl (lv_at hl 0 rfl) ?_
    refine lv_iload_n hx hb dX9_count_53 rfl (lv_at hl 1 rfl) ?_
    refine x_cVWi (As := [.int (nI 6)]) (rest := []) S hK hP hS (fun _ h => h) 0 (by omega) rfl rfl (c_X9_sumOf6 l σ hI   (by first | assumption | omega)) (x_cwV (n0 := 1) (cq := (RX9, TX9, 24)) S gX9_count_X9_sumOf rfl (by decide +kernel) ⟨Nat.le_of_ble_eq_true rfl, Nat.le_of_ble_eq_true rfl⟩) rfl hl.1 rfl (Nat.le_of_ble_eq_true rfl) dX9_count_54 ⟨Nat.le_refl _, Nat.le_refl _⟩ (fun r_54 τ_54 H locs hr_54 hP hk_54 hS => ?_)
    obtain ⟨hr_54, hms_54⟩ := hr_54
    subst hr_54
    exact x_iretW S hlocks hP hS hr rfl (⟨by rw [xp_count, if_pos (xin_nI (by decide) (by decide)), cN_nI (by decide), ← hYe]; rfl, hms_54⟩) dX9_count_57
  · refine lv_tableIn (off := 51) (tgt := 52) hx hb dX9_count_1 (by decide) (by decide) (by decide) (by decide) ?_
    refine lv_aload_n hx hb dX9_count_52 rfl (lv_at hl 0 rfl) ?_
    refine lv_iload_n hx hb dX9_count_53 rfl (lv_at hl 1 rfl) ?_
    refine x_cVWi (As := [.int (nI 7)]) (rest := []) S hK hP hS (fun _ h => h) 0 (by omega) rfl rfl (c_X9_sumOf7 l σ hI   (by first | assumption | omega)) (x_cwV (n0 := 1) (cq := (RX9, TX9, 24)) S gX9_count_X9_sumOf rfl (by decide +kernel) ⟨Nat.le_of_ble_eq_true rfl, Nat.le_of_ble_eq_true rfl⟩) rfl hl.1 rfl (Nat.le_of_ble_eq_true rfl) dX9_count_54 ⟨Nat.le_refl _, Nat.le_refl _⟩ (fun r_54 τ_54 H locs hr_54 hP hk_54 hS => ?_)
    obtain ⟨hr_54, hms_54⟩ := hr_54
    subst hr_54
    exact x_iretW S hlocks hP hS hr rfl (⟨by rw [xp_count, if_pos (xin_nI (by decide) (by decide)), cN_nI (by decide), ← hYe]; rfl, hms_54⟩) dX9_count_57
  · refine lv_tableIn (off := 72) (tgt := 73) hx hb dX9_count_1 (by decide) (by decide) (by decide) (by decide) ?_
    refine lv_aload_n hx hb dX9_count_73 rfl (lv_at hl 0 rfl) ?_
    refine x_get S (fun w h => List.mem_cons_of_mem _ (List.mem_append_right _ h)) hK hP 0 (by omega) rfl rfl 23 (by decide) (List.mem_of_getElem? (i := 4) rfl) rfl dX9_count_74 ?_
    exact x_iretW S hlocks hP hS hr rfl (⟨by rw [xp_count, if_pos (xin_nI (by decide) (by decide)), cN_nI (by decide)]; rfl, xMs_rf _⟩) dX9_count_77
  · refine lv_tableOut (tgt := 78) hx hb dX9_count_1 (xtabout hx9) (by decide) ?_
    refine lv_bipush (v := (-2)) hx hb dX9_count_78 (by decide) ?_
    exact x_iretW S hlocks hP hS hr rfl (⟨by rw [xp_count, if_neg hx9], xMs_rf _⟩) dX9_count_80

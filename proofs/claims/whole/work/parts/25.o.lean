set_option maxHeartbeats 4000000 in
set_option maxRecDepth 100000 in
theorem c_X9_fault (l : Launch) {D : va_G} {K : Nat → ClassId} {α : Nat → Nat} (σ : Nat → Nat → Int32) (hI : xw_I 20 α)   (hC : xIM σ) : Met l yX9_fault wsX9_fault (xrm 3) (va_Pc [.ref (α 0)] (xPre D K 20 α (xM α K) σ)) (xQi D 20 α (xM α K) (fun r τ => r = xt_fault (σ 6) (xLM σ) ∧ xMs σ τ)) 0 0 (xw_R 20 α) := by
  refine Met.ofW (cc := cX9_fault) (maxL := 1) (ret := (some .int)) (by decide) rfl ?_
  intro p e s m args below meth c s₁ B hml hv
  obtain ⟨rfl, hK, hP⟩ := hv
  have S : CallFix p m c cX9_fault 1 s _ wsX9_fault RX9 := ⟨B.exec, B.bytes, hml, findClass_of_methodNamed B.named, atoms_spec (ws := wsX9_fault) B.pre⟩
  have hx := S.1
  have hb := S.2.1
  have hr := B.returns
  have hlocks := B.notSynchronized
  have hS : va_S (xw_R 20 α) s.heap s.heap [] := va_S.rf
  have hl := lv_entry ([.ref (α 0)]) (n := 1) (Nat.le_of_ble_eq_true rfl)
  rw [lg_entry_eq]
  generalize (lg_sl ([.ref (α 0)]) ++ List.replicate (1 - (lg_sl ([.ref (α 0)])).length) Slot.unset).toArray = ls at hl ⊢
  have hl : lv_has ls 1 [(0, .ref (α 0))] := hl
  have hPP := hP
  
  refine lv_aload_n hx hb dX9_fault_0 rfl (lv_at hl 0 rfl) ?_
  refine x_cVWi (As := []) (rest := []) S hK hP hS (fun _ h => h) 0 (by omega) rfl rfl (c_X9_faultNow l σ hI   (by first | assumption | omega)) (x_cwV (n0 := 0) (cq := (RX9, TX9, 24)) S gX9_fault_X9_faultNow rfl (by decide +kernel) ⟨Nat.le_of_ble_eq_true rfl, Nat.le_of_ble_eq_true rfl⟩) rfl hl.1 rfl (Nat.le_of_ble_eq_true rfl) dX9_fault_1 ⟨Nat.le_refl _, Nat.le_refl _⟩ (fun r_1 τ_1 H locs hr_1 hP hk_1 hS => ?_)
  obtain ⟨hr_1, hms_1, hbk_1⟩ := hr_1
  subst hr_1
  exact x_iretW S hlocks hP hS hr rfl (⟨rfl, hms_1⟩) dX9_fault_4
set_option maxHeartbeats 4000000 in
set_option maxRecDepth 100000 in
theorem c_X9_meets (l : Launch) {D : va_G} {K : Nat → ClassId} {α : Nat → Nat} (σ : Nat → Nat → Int32) (hI : xw_I 20 α) (x : Int32)  : Met l yX9_meets wsX9_meets (xrm 0) (va_Pc [.ref (α 0), .int x] (xPre D K 20 α (xM α K) σ)) (xQi D 20 α (xM α K) (fun r τ => r = (-10 : Int32) - x ∧ τ = xst_fm σ x)) 0 0 (xw_R 20 α) := by
  refine Met.ofW (cc := cX9_meets) (maxL := 2) (ret := (some .int)) (by decide) rfl ?_
  intro p e s m args below meth c s₁ B hml hv
  obtain ⟨rfl, hK, hP⟩ := hv
  have S : CallFix p m c cX9_meets 2 s _ wsX9_meets RX9 := ⟨B.exec, B.bytes, hml, findClass_of_methodNamed B.named, atoms_spec (ws := wsX9_meets) B.pre⟩
  have hx := S.1
  have hb := S.2.1
  have hr := B.returns
  have hlocks := B.notSynchronized
  have hS : va_S (xw_R 20 α) s.heap s.heap [] := va_S.rf
  have hl := lv_entry ([.ref (α 0), .int x]) (n := 2) (Nat.le_of_ble_eq_true rfl)
  rw [lg_entry_eq]
  generalize (lg_sl ([.ref (α 0), .int x]) ++ List.replicate (2 - (lg_sl ([.ref (α 0), .int x])).length) Slot.unset).toArray = ls at hl ⊢
  have hl : lv_has ls 2 [(0, .ref (α 0)), (1, .int x)] := hl
  have hPP := hP
  refine lv_aload_n hx hb dX9_meets_0 rfl (lv_at hl 0 rfl) ?_
  refine lv_iload_n hx hb dX9_meets_1 rfl (lv_at hl 1 rfl) ?_
  refine x_put S (fun w h => List.mem_cons_of_mem _ (List.mem_append_right _ h)) tyX9 tyX9_ok nmX9 hK hP hI hS 0 (by omega) rfl rfl 23 (by decide) (List.mem_of_getElem? (i := 1) rfl) rfl (ty := .int) (v := .int x) (by decide +kernel) rfl rfl (Nat.le_of_ble_eq_true rfl) (upd (σ 0) 23 x) rfl dX9_meets_2 (fun H locs hP hS => ?_)
  refine lv_bipush (v := (-10)) hx hb dX9_meets_5 (by decide) ?_
  refine lv_iload_n hx hb dX9_meets_7 rfl (lv_at hl 1 rfl) ?_
  refine lv_isub hx hb dX9_meets_8 ?_
  exact x_iretW S hlocks hP hS hr rfl (⟨rfl, rfl⟩) dX9_meets_9
set_option maxHeartbeats 4000000 in
set_option maxRecDepth 100000 in
theorem c_X9_ratherOf (l : Launch) {D : va_G} {K : Nat → ClassId} {α : Nat → Nat} (σ : Nat → Nat → Int32) (y : Nat) (Y : Nat)  (hbk : ∀ y, y < Y → ∀ h, h < 6 → σ 7 (6 * y + h) = nI (xnm (σ 6) y h)) (hY : xY (σ 6) Y) (hY12 : Y ≤ 12) (hy : y < Y) : Met l yX9_ratherOf wsX9_ratherOf (xrm 2) (va_Pc [.ref (α 0), .int (nI y)] (xPre D K 20 α (xM α K) σ)) (vp_Si (fun r => r = nI (xs_rm (xFM σ) (σ 6) y))) 0 0 (fun _ => False) := by
  refine Met.ofW (cc := cX9_ratherOf) (maxL := 7) (ret := (some .int)) (by decide) rfl ?_
  intro p e s m args below meth c s₁ B hml hv
  obtain ⟨rfl, hK, hP⟩ := hv
  have S : CallFix p m c cX9_ratherOf 7 s _ wsX9_ratherOf RX9 := ⟨B.exec, B.bytes, hml, findClass_of_methodNamed B.named, atoms_spec (ws := wsX9_ratherOf) B.pre⟩
  have hx := S.1
  have hb := S.2.1
  have hr := B.returns
  have hlocks := B.notSynchronized
  have hl := lv_entry ([.ref (α 0), .int (nI y)]) (n := 7) (Nat.le_of_ble_eq_true rfl)
  rw [lg_entry_eq]
  generalize (lg_sl ([.ref (α 0), .int (nI y)]) ++ List.replicate (7 - (lg_sl ([.ref (α 0), .int (nI y)])).length) Slot.unset).toArray = ls at hl ⊢
  have hl : lv_has ls 7 [(0, .ref (α 0)), (1, .int (nI y))] := hl
  have hPP := hP
  refine lv_iconst (v := nI 0) hx hb dX9_ratherOf_0 (by decide) ?_
  refine lv_istore_n (lv' := [(2, .int (nI 0)), (0, .ref (α 0)), (1, .int (nI y))]) hx hb dX9_ratherOf_1 rfl hl (by decide) rfl (fun ls hl => ?_)
  refine lv_iconst (v := nI 0) hx hb dX9_ratherOf_2 (by decide) ?_
  refine lv_istore_n (lv' := [(3, .int (nI 0)), (2, .int (nI 0)), (0, .ref (α 0)), (1, .int (nI y))]) hx hb dX9_ratherOf_3 rfl hl (by decide) rfl (fun ls hl => ?_)
  refine x_loop (ι := Nat) (fun a ls => (a ≤ 6) ∧ lv_has ls 7 [(3, .int (nI a)), (2, .int (nI (fb_sm (fun a => fb_sm (fun b => if xs_wc (xFM σ) (σ 6) y a b ∧ xs_wc (xFM σ) (σ 6) y b a then 1 else 0) a) a))), (0, .ref (α 0)), (1, .int (nI y))]) (fun a => 6 - a) ?_ 0 ls ⟨Nat.zero_le _, lv_sub hl [0, 1, 2, 3] rfl⟩
  intro a ls hinv ih_4
  obtain ⟨ha6, hl⟩ := hinv
  have hl : lv_has ls 7 [(3, .int (nI a)), (2, .int (nI (fb_sm (fun a => fb_sm (fun b => if xs_wc (xFM σ) (σ 6) y a b ∧ xs_wc (xFM σ) (σ 6) y b a then 1 else 0) a) a))), (0, .ref (α 0)), (1, .int (nI y))] := hl
  refine lv_iload_n hx hb dX9_ratherOf_4 rfl (lv_at hl 0 rfl) ?_
  refine lv_bipush (v := nI 6) hx hb dX9_ratherOf_5 (by decide) ?_
  refine x_icmpN_ge (tgt := 102) S dX9_ratherOf_7 (by decide) (by omega) (by omega) (fun c_7 => ?_) (fun c_7 => ?_)
  · have e9 : a = 6 := by omega
    subst e9
    refine lv_iload_n hx hb dX9_ratherOf_102 rfl (lv_at hl 1 rfl) ?_
    exact x_iretR S hlocks hr rfl (rfl) dX9_ratherOf_103
  · refine lv_iconst (v := nI 0) hx hb dX9_ratherOf_10 (by decide) ?_
    refine lv_istore (lv' := [(4, .int (nI 0)), (3, .int (nI a)), (2, .int (nI (fb_sm (fun a => fb_sm (fun b => if xs_wc (xFM σ) (σ 6) y a b ∧ xs_wc (xFM σ) (σ 6) y b a then 1 else 0) a) a))), (0, .ref (α 0)), (1, .int (nI y))]) hx hb dX9_ratherOf_11 hl (by decide) rfl (fun ls hl => ?_)
    refine x_loop (ι := Nat) (fun b ls => (b ≤ a) ∧ lv_has ls 7 [(4, .int (nI b)), (3, .int (nI a)), (2, .int (nI (fb_sm (fun a => fb_sm (fun b => if xs_wc (xFM σ) (σ 6) y a b ∧ xs_wc (xFM σ) (σ 6) y b a then 1 else 0) a) a + fb_sm (fun b => if xs_wc (xFM σ) (σ 6) y a b ∧ xs_wc (xFM σ) (σ 6) y b a then 1 else 0) b))), (0, .ref (α 0)), (1, .int (nI y))]) (fun b => a - b) ?_ 0 ls ⟨Nat.zero_le _, lv_sub hl [0, 1, 2, 3, 4] rfl⟩
    intro b ls hinv ih_13
    obtain ⟨hb6, hl⟩ := hinv
    have hl : lv_has ls 7 [(4, .int (nI b)), (3, .int (nI a)), (2, .int (nI (fb_sm (fun a => fb_sm (fun b => if xs_wc (xFM σ) (σ 6) y a b ∧ xs_wc (xFM σ) (σ 6) y b a then 1 else 0) a) a + fb_sm (fun b => if xs_wc (xFM σ) (σ 6) y a b ∧ xs_wc (xFM σ) (σ 6) y b a then 1 else 0) b))), (0, .ref (α 0)), (1, .int (nI y))] := hl
    refine lv_iload hx hb dX9_ratherOf_13 (lv_at hl 0 rfl) ?_
    refine lv_iload_n hx hb dX9_ratherOf_15 rfl (lv_at hl 1 rfl) ?_
    refine x_icmpN_ge (tgt := 96) S dX9_ratherOf_16 (by decide) (by omega) (by omega) (fun c_16 => ?_) (fun c_16 => ?_)
    · have e9 : a = b := by omega
      subst e9
      refine lv_iinc (v := nI (a + 1)) (lv' := [(3, .int (nI (a + 1))), (4, .int (nI a)), (2, .int (nI (fb_sm (fun a => fb_sm (fun b => if xs_wc (xFM σ) (σ 6) y a b ∧ xs_wc (xFM σ) (σ 6) y b a then 1 else 0) a) a + fb_sm (fun b => if xs_wc (xFM σ) (σ 6) y a b ∧ xs_wc (xFM σ) (σ 6) y b a then 1 else 0) a))), (0, .ref (α 0)), (1, .int (nI y))]) hx hb dX9_ratherOf_96 hl (k := 1) rfl (nI_add a 1) (by decide) rfl (fun ls hl => ?_)
      refine lv_goto (tgt := 4) hx hb dX9_ratherOf_99 (by decide) ?_
      exact ih_4 (a + 1) ls ⟨(by omega), lv_sub hl [0, 2, 3, 4] rfl⟩ (by (try dsimp only); omega)
    · have hq1 := (hY y hy a (by omega)).1
      have hq2 := (hY y hy b (by omega)).1
      refine lv_aload_n hx hb dX9_ratherOf_19 rfl (lv_at hl 3 rfl) ?_
      refine x_get S (fun w h => List.mem_cons_of_mem _ (List.mem_append_right _ h)) hK hP 0 (by omega) rfl rfl 8 (by decide) (List.mem_of_getElem? (i := 1) rfl) rfl dX9_ratherOf_20 ?_
      refine lv_bipush (v := nI 6) hx hb dX9_ratherOf_23 (by decide) ?_
      refine lv_iload_n hx hb dX9_ratherOf_25 rfl (lv_at hl 4 rfl) ?_
      refine x_imulN S dX9_ratherOf_26 ?_
      refine lv_iload_n hx hb dX9_ratherOf_27 rfl (lv_at hl 1 rfl) ?_
      refine x_iaddN S dX9_ratherOf_28 ?_
      refine x_iald S hK hP 7 (by omega) rfl (by first | assumption | omega) (by omega) dX9_ratherOf_29 ?_
      refine x_top S (y := nI (xnm (σ 6) y a)) (hbk y hy a (by omega)) ?_
      refine lv_istore (lv' := [(5, .int (nI (xnm (σ 6) y a))), (4, .int (nI b)), (3, .int (nI a)), (2, .int (nI (fb_sm (fun a => fb_sm (fun b => if xs_wc (xFM σ) (σ 6) y a b ∧ xs_wc (xFM σ) (σ 6) y b a then 1 else 0) a) a + fb_sm (fun b => if xs_wc (xFM σ) (σ 6) y a b ∧ xs_wc (xFM σ) (σ 6) y b a then 1 else 0) b))), (0, .ref (α 0)), (1, .int (nI y))]) hx hb dX9_ratherOf_30 hl (by decide) rfl (fun ls hl => ?_)
      refine lv_aload_n hx hb dX9_ratherOf_32 rfl (lv_at hl 4 rfl) ?_
      refine x_get S (fun w h => List.mem_cons_of_mem _ (List.mem_append_right _ h)) hK hP 0 (by omega) rfl rfl 8 (by decide) (List.mem_of_getElem? (i := 1) rfl) rfl dX9_ratherOf_33 ?_
      refine lv_bipush (v := nI 6) hx hb dX9_ratherOf_36 (by decide) ?_
      refine lv_iload_n hx hb dX9_ratherOf_38 rfl (lv_at hl 5 rfl) ?_
      refine x_imulN S dX9_ratherOf_39 ?_
      refine lv_iload hx hb dX9_ratherOf_40 (lv_at hl 1 rfl) ?_
      refine x_iaddN S dX9_ratherOf_42 ?_
      refine x_iald S hK hP 7 (by omega) rfl (by first | assumption | omega) (by omega) dX9_ratherOf_43 ?_
      refine x_top S (y := nI (xnm (σ 6) y b)) (hbk y hy b (by omega)) ?_
      refine lv_istore (lv' := [(6, .int (nI (xnm (σ 6) y b))), (5, .int (nI (xnm (σ 6) y a))), (4, .int (nI b)), (3, .int (nI a)), (2, .int (nI (fb_sm (fun a => fb_sm (fun b => if xs_wc (xFM σ) (σ 6) y a b ∧ xs_wc (xFM σ) (σ 6) y b a then 1 else 0) a) a + fb_sm (fun b => if xs_wc (xFM σ) (σ 6) y a b ∧ xs_wc (xFM σ) (σ 6) y b a then 1 else 0) b))), (0, .ref (α 0)), (1, .int (nI y))]) hx hb dX9_ratherOf_44 hl (by decide) rfl (fun ls hl => ?_)
      refine lv_iload_n hx hb dX9_ratherOf_46 rfl (lv_at hl 4 rfl) ?_
      refine lv_aload_n hx hb dX9_ratherOf_47 rfl (lv_at hl 5 rfl) ?_
      refine lv_iload_n hx hb dX9_ratherOf_48 rfl (lv_at hl 3 rfl) ?_
      refine lv_iload hx hb dX9_ratherOf_49 (lv_at hl 0 rfl) ?_
      refine x_cVRi (As := [.int (nI a), .int (nI (xnm (σ 6) y b))]) (rest := [.int (nI (fb_sm (fun a => fb_sm (fun b => if xs_wc (xFM σ) (σ 6) y a b ∧ xs_wc (xFM σ) (σ 6) y b a then 1 else 0) a) a + fb_sm (fun b => if xs_wc (xFM σ) (σ 6) y a b ∧ xs_wc (xFM σ) (σ 6) y b a then 1 else 0) b))]) S hK hP 0 (by omega) rfl rfl (c_X9_earns l σ a (xnm (σ 6) y b)  (by first | assumption | omega) (by first | assumption | omega)) (x_cwV (n0 := 2) (cq := (RX9, TX9, 24)) S gX9_ratherOf_X9_earns rfl (by decide +kernel) ⟨Nat.le_of_ble_eq_true rfl, Nat.le_of_ble_eq_true rfl⟩) rfl hl.1 rfl (Nat.le_of_ble_eq_true rfl) dX9_ratherOf_51 ⟨Nat.le_refl _, Nat.le_refl _⟩ (fun r_51 hr_51 => ?_)
      subst hr_51
      refine lv_aload_n hx hb dX9_ratherOf_54 rfl (lv_at hl 5 rfl) ?_
      refine lv_iload_n hx hb dX9_ratherOf_55 rfl (lv_at hl 3 rfl) ?_
      refine lv_iload hx hb dX9_ratherOf_56 (lv_at hl 1 rfl) ?_
      refine x_cVRi (As := [.int (nI a), .int (nI (xnm (σ 6) y a))]) (rest := [.int (xs_earn (xFM σ) a (xnm (σ 6) y b)), .int (nI (fb_sm (fun a => fb_sm (fun b => if xs_wc (xFM σ) (σ 6) y a b ∧ xs_wc (xFM σ) (σ 6) y b a then 1 else 0) a) a + fb_sm (fun b => if xs_wc (xFM σ) (σ 6) y a b ∧ xs_wc (xFM σ) (σ 6) y b a then 1 else 0) b))]) S hK hP 0 (by omega) rfl rfl (c_X9_earns l σ a (xnm (σ 6) y a)  (by first | assumption | omega) (by first | assumption | omega)) (x_cwV (n0 := 2) (cq := (RX9, TX9, 24)) S gX9_ratherOf_X9_earns rfl (by decide +kernel) ⟨Nat.le_of_ble_eq_true rfl, Nat.le_of_ble_eq_true rfl⟩) rfl hl.1 rfl (Nat.le_of_ble_eq_true rfl) dX9_ratherOf_58 ⟨Nat.le_refl _, Nat.le_refl _⟩ (fun r_58 hr_58 => ?_)
      subst hr_58
      refine lv_icmp_le (tgt := 87) hx hb dX9_ratherOf_61 (by decide) (fun c_61 => ?_) (fun c_61 => ?_)
      · refine lv_iconst (v := nI 0) hx hb dX9_ratherOf_87 (by decide) ?_
        refine x_iaddN S dX9_ratherOf_88 ?_
        refine lv_istore_n (lv' := [(2, .int (nI ((fb_sm (fun a => fb_sm (fun b => if xs_wc (xFM σ) (σ 6) y a b ∧ xs_wc (xFM σ) (σ 6) y b a then 1 else 0) a) a + fb_sm (fun b => if xs_wc (xFM σ) (σ 6) y a b ∧ xs_wc (xFM σ) (σ 6) y b a then 1 else 0) b) + 0))), (6, .int (nI (xnm (σ 6) y b))), (5, .int (nI (xnm (σ 6) y a))), (4, .int (nI b)), (3, .int (nI a)), (0, .ref (α 0)), (1, .int (nI y))]) hx hb dX9_ratherOf_89 rfl hl (by decide) rfl (fun ls hl => ?_)
        refine lv_iinc (v := nI (b + 1)) (lv' := [(4, .int (nI (b + 1))), (2, .int (nI ((fb_sm (fun a => fb_sm (fun b => if xs_wc (xFM σ) (σ 6) y a b ∧ xs_wc (xFM σ) (σ 6) y b a then 1 else 0) a) a + fb_sm (fun b => if xs_wc (xFM σ) (σ 6) y a b ∧ xs_wc (xFM σ) (σ 6) y b a then 1 else 0) b) + 0))), (6, .int (nI (xnm (σ 6) y b))), (5, .int (nI (xnm (σ 6) y a))), (3, .int (nI a)), (0, .ref (α 0)), (1, .int (nI y))]) hx hb dX9_ratherOf_90 hl (k := 3) rfl (nI_add b 1) (by decide) rfl (fun ls hl => ?_)
        refine lv_goto (tgt := 13) hx hb dX9_ratherOf_93 (by decide) ?_
        exact ih_13 (b + 1) ls ⟨(by omega), (by have h9 := lv_sub (l' := [(4, .int (nI (b + 1))), (3, .int (nI a)), (2, .int (nI ((fb_sm (fun a => fb_sm (fun b => if xs_wc (xFM σ) (σ 6) y a b ∧ xs_wc (xFM σ) (σ 6) y b a then 1 else 0) a) a + fb_sm (fun b => if xs_wc (xFM σ) (σ 6) y a b ∧ xs_wc (xFM σ) (σ 6) y b a then 1 else 0) b) + 0))), (0, .ref (α 0)), (1, .int (nI y))]) hl [0, 4, 1, 5, 6] rfl; rw [show nI ((fb_sm (fun a => fb_sm (fun b => if xs_wc (xFM σ) (σ 6) y a b ∧ xs_wc (xFM σ) (σ 6) y b a then 1 else 0) a) a + fb_sm (fun b => if xs_wc (xFM σ) (σ 6) y a b ∧ xs_wc (xFM σ) (σ 6) y b a then 1 else 0) b) + 0) = nI (fb_sm (fun a => fb_sm (fun b => if xs_wc (xFM σ) (σ 6) y a b ∧ xs_wc (xFM σ) (σ 6) y b a then 1 else 0) a) a + fb_sm (fun b => if xs_wc (xFM σ) (σ 6) y a b ∧ xs_wc (xFM σ) (σ 6) y b a then 1 else 0) (b + 1)) from by rw [fb_sm_succ]; first | (rw [if_pos ⟨xle c_61, xle c_80⟩] <;> rfl) | (rw [if_neg (fun q => xnlt c_61 q.1)] <;> rfl) | (rw [if_neg (fun q => xnlt c_80 q.2)] <;> rfl)] at h9; exact h9)⟩ (by (try dsimp only); omega)
      · refine lv_aload_n hx hb dX9_ratherOf_64 rfl (lv_at hl 5 rfl) ?_
        refine lv_iload hx hb dX9_ratherOf_65 (lv_at hl 2 rfl) ?_
        refine lv_iload hx hb dX9_ratherOf_67 (lv_at hl 1 rfl) ?_
        refine x_cVRi (As := [.int (nI b), .int (nI (xnm (σ 6) y a))]) (rest := [.int (nI (fb_sm (fun a => fb_sm (fun b => if xs_wc (xFM σ) (σ 6) y a b ∧ xs_wc (xFM σ) (σ 6) y b a then 1 else 0) a) a + fb_sm (fun b => if xs_wc (xFM σ) (σ 6) y a b ∧ xs_wc (xFM σ) (σ 6) y b a then 1 else 0) b))]) S hK hP 0 (by omega) rfl rfl (c_X9_earns l σ b (xnm (σ 6) y a)  (by first | assumption | omega) (by first | assumption | omega)) (x_cwV (n0 := 2) (cq := (RX9, TX9, 24)) S gX9_ratherOf_X9_earns rfl (by decide +kernel) ⟨Nat.le_of_ble_eq_true rfl, Nat.le_of_ble_eq_true rfl⟩) rfl hl.1 rfl (Nat.le_of_ble_eq_true rfl) dX9_ratherOf_69 ⟨Nat.le_refl _, Nat.le_refl _⟩ (fun r_69 hr_69 => ?_)
        subst hr_69
        refine lv_aload_n hx hb dX9_ratherOf_72 rfl (lv_at hl 5 rfl) ?_
        refine lv_iload hx hb dX9_ratherOf_73 (lv_at hl 2 rfl) ?_
        refine lv_iload hx hb dX9_ratherOf_75 (lv_at hl 0 rfl) ?_
        refine x_cVRi (As := [.int (nI b), .int (nI (xnm (σ 6) y b))]) (rest := [.int (xs_earn (xFM σ) b (xnm (σ 6) y a)), .int (nI (fb_sm (fun a => fb_sm (fun b => if xs_wc (xFM σ) (σ 6) y a b ∧ xs_wc (xFM σ) (σ 6) y b a then 1 else 0) a) a + fb_sm (fun b => if xs_wc (xFM σ) (σ 6) y a b ∧ xs_wc (xFM σ) (σ 6) y b a then 1 else 0) b))]) S hK hP 0 (by omega) rfl rfl (c_X9_earns l σ b (xnm (σ 6) y b)  (by first | assumption | omega) (by first | assumption | omega)) (x_cwV (n0 := 2) (cq := (RX9, TX9, 24)) S gX9_ratherOf_X9_earns rfl (by decide +kernel) ⟨Nat.le_of_ble_eq_true rfl, Nat.le_of_ble_eq_true rfl⟩) rfl hl.1 rfl (Nat.le_of_ble_eq_true rfl) dX9_ratherOf_77 ⟨Nat.le_refl _, Nat.le_refl _⟩ (fun r_77 hr_77 => ?_)
        subst hr_77
        refine lv_icmp_le (tgt := 87) hx hb dX9_ratherOf_80 (by decide) (fun c_80 => ?_) (fun c_80 => ?_)
        · refine lv_iconst (v := nI 0) hx hb dX9_ratherOf_87 (by decide) ?_
          refine x_iaddN S dX9_ratherOf_88 ?_
          refine lv_istore_n (lv' := [(2, .int (nI ((fb_sm (fun a => fb_sm (fun b => if xs_wc (xFM σ) (σ 6) y a b ∧ xs_wc (xFM σ) (σ 6) y b a then 1 else 0) a) a + fb_sm (fun b => if xs_wc (xFM σ) (σ 6) y a b ∧ xs_wc (xFM σ) (σ 6) y b a then 1 else 0) b) + 0))), (6, .int (nI (xnm (σ 6) y b))), (5, .int (nI (xnm (σ 6) y a))), (4, .int (nI b)), (3, .int (nI a)), (0, .ref (α 0)), (1, .int (nI y))]) hx hb dX9_ratherOf_89 rfl hl (by decide) rfl (fun ls hl => ?_)
          refine lv_iinc (v := nI (b + 1)) (lv' := [(4, .int (nI (b + 1))), (2, .int (nI ((fb_sm (fun a => fb_sm (fun b => if xs_wc (xFM σ) (σ 6) y a b ∧ xs_wc (xFM σ) (σ 6) y b a then 1 else 0) a) a + fb_sm (fun b => if xs_wc (xFM σ) (σ 6) y a b ∧ xs_wc (xFM σ) (σ 6) y b a then 1 else 0) b) + 0))), (6, .int (nI (xnm (σ 6) y b))), (5, .int (nI (xnm (σ 6) y a))), (3, .int (nI a)), (0, .ref (α 0)), (1, .int (nI y))]) hx hb dX9_ratherOf_90 hl (k := 3) rfl (nI_add b 1) (by decide) rfl (fun ls hl => ?_)
          refine lv_goto (tgt := 13) hx hb dX9_ratherOf_93 (by decide) ?_
          exact ih_13 (b + 1) ls ⟨(by omega), (by have h9 := lv_sub (l' := [(4, .int (nI (b + 1))), (3, .int (nI a)), (2, .int (nI ((fb_sm (fun a => fb_sm (fun b => if xs_wc (xFM σ) (σ 6) y a b ∧ xs_wc (xFM σ) (σ 6) y b a then 1 else 0) a) a + fb_sm (fun b => if xs_wc (xFM σ) (σ 6) y a b ∧ xs_wc (xFM σ) (σ 6) y b a then 1 else 0) b) + 0))), (0, .ref (α 0)), (1, .int (nI y))]) hl [0, 4, 1, 5, 6] rfl; rw [show nI ((fb_sm (fun a => fb_sm (fun b => if xs_wc (xFM σ) (σ 6) y a b ∧ xs_wc (xFM σ) (σ 6) y b a then 1 else 0) a) a + fb_sm (fun b => if xs_wc (xFM σ) (σ 6) y a b ∧ xs_wc (xFM σ) (σ 6) y b a then 1 else 0) b) + 0) = nI (fb_sm (fun a => fb_sm (fun b => if xs_wc (xFM σ) (σ 6) y a b ∧ xs_wc (xFM σ) (σ 6) y b a then 1 else 0) a) a + fb_sm (fun b => if xs_wc (xFM σ) (σ 6) y a b ∧ xs_wc (xFM σ) (σ 6) y b a then 1 else 0) (b + 1)) from by rw [fb_sm_succ]; first | (rw [if_pos ⟨xle c_61, xle c_80⟩] <;> rfl) | (rw [if_neg (fun q => xnlt c_61 q.1)] <;> rfl) | (rw [if_neg (fun q => xnlt c_80 q.2)] <;> rfl)] at h9; exact h9)⟩ (by (try dsimp only); omega)
        · refine lv_iconst (v := nI 1) hx hb dX9_ratherOf_83 (by decide) ?_
          refine lv_goto (tgt := 88) hx hb dX9_ratherOf_84 (by decide) ?_
          refine x_iaddN S dX9_ratherOf_88 ?_
          refine lv_istore_n (lv' := [(2, .int (nI ((fb_sm (fun a => fb_sm (fun b => if xs_wc (xFM σ) (σ 6) y a b ∧ xs_wc (xFM σ) (σ 6) y b a then 1 else 0) a) a + fb_sm (fun b => if xs_wc (xFM σ) (σ 6) y a b ∧ xs_wc (xFM σ) (σ 6) y b a then 1 else 0) b) + 1))), (6, .int (nI (xnm (σ 6) y b))), (5, .int (nI (xnm (σ 6) y a))), (4, .int (nI b)), (3, .int (nI a)), (0, .ref (α 0)), (1, .int (nI y))]) hx hb dX9_ratherOf_89 rfl hl (by decide) rfl (fun ls hl => ?_)
          refine lv_iinc (v := nI (b + 1)) (lv' := [(4, .int (nI (b + 1))), (2, .int (nI ((fb_sm (fun a => fb_sm (fun b => if xs_wc (xFM σ) (σ 6) y a b ∧ xs_wc (xFM σ) (σ 6) y b a then 1 else 0) a) a + fb_sm (fun b => if xs_wc (xFM σ) (σ 6) y a b ∧ xs_wc (xFM σ) (σ 6) y b a then 1 else 0) b) + 1))), (6, .int (nI (xnm (σ 6) y b))), (5, .int (nI (xnm (σ 6) y a))), (3, .int (nI a)), (0, .ref (α 0)), (1, .int (nI y))]) hx hb dX9_ratherOf_90 hl (k := 3) rfl (nI_add b 1) (by decide) rfl (fun ls hl => ?_)
          refine lv_goto (tgt := 13) hx hb dX9_ratherOf_93 (by decide) ?_
          exact ih_13 (b + 1) ls ⟨(by omega), (by have h9 := lv_sub (l' := [(4, .int (nI (b + 1))), (3, .int (nI a)), (2, .int (nI ((fb_sm (fun a => fb_sm (fun b => if xs_wc (xFM σ) (σ 6) y a b ∧ xs_wc (xFM σ) (σ 6) y b a then 1 else 0) a) a + fb_sm (fun b => if xs_wc (xFM σ) (σ 6) y a b ∧ xs_wc (xFM σ) (σ 6) y b a then 1 else 0) b) + 1))), (0, .ref (α 0)), (1, .int (nI y))]) hl [0, 4, 1, 5, 6] rfl; rw [show nI ((fb_sm (fun a => fb_sm (fun b => if xs_wc (xFM σ) (σ 6) y a b ∧ xs_wc (xFM σ) (σ 6) y b a then 1 else 0) a) a + fb_sm (fun b => if xs_wc (xFM σ) (σ 6) y a b ∧ xs_wc (xFM σ) (σ 6) y b a then 1 else 0) b) + 1) = nI (fb_sm (fun a => fb_sm (fun b => if xs_wc (xFM σ) (σ 6) y a b ∧ xs_wc (xFM σ) (σ 6) y b a then 1 else 0) a) a + fb_sm (fun b => if xs_wc (xFM σ) (σ 6) y a b ∧ xs_wc (xFM σ) (σ 6) y b a then 1 else 0) (b + 1)) from by rw [fb_sm_succ]; first | (rw [if_pos ⟨xle c_61, xle c_80⟩] <;> rfl) | (rw [if_neg (fun q => xnlt c_61 q.1)] <;> rfl) | (rw [if_neg (fun q => xnlt c_80 q.2)] <;> rfl)] at h9; exact h9)⟩ (by (try dsimp only); omega)
set_option maxHeartbeats 4000000 in
set_option maxRecDepth 100000 in
theorem c_X9_rather (l : Launch) {D : va_G} {K : Nat → ClassId} {α : Nat → Nat} (σ : Nat → Nat → Int32) (hI : xw_I 20 α) (x : Int32)  (hC : xIM σ) : Met l yX9_rather wsX9_rather (xrm 4) (va_Pc [.ref (α 0), .int x] (xPre D K 20 α (xM α K) σ)) (xQi D 20 α (xM α K) (fun r τ => r = xp_rather (xFM σ) (σ 6) (xYM σ) x ∧ xMs σ τ)) 0 0 (xw_R 20 α) := by
  refine Met.ofW (cc := cX9_rather) (maxL := 2) (ret := (some .int)) (by decide) rfl ?_
  intro p e s m args below meth c s₁ B hml hv
  obtain ⟨rfl, hK, hP⟩ := hv
  have S : CallFix p m c cX9_rather 2 s _ wsX9_rather RX9 := ⟨B.exec, B.bytes, hml, findClass_of_methodNamed B.named, atoms_spec (ws := wsX9_rather) B.pre⟩
  have hx := S.1
  have hb := S.2.1
  have hr := B.returns
  have hlocks := B.notSynchronized
  have hS : va_S (xw_R 20 α) s.heap s.heap [] := va_S.rf
  have hl := lv_entry ([.ref (α 0), .int x]) (n := 2) (Nat.le_of_ble_eq_true rfl)
  rw [lg_entry_eq]
  generalize (lg_sl ([.ref (α 0), .int x]) ++ List.replicate (2 - (lg_sl ([.ref (α 0), .int x])).length) Slot.unset).toArray = ls at hl ⊢
  have hl : lv_has ls 2 [(0, .ref (α 0)), (1, .int x)] := hl
  have hPP := hP
  have hY := xIM_Y hC
  have hY12 := xIM_12 hC
  have hPm := xIM_P hC
  refine lv_aload_n hx hb dX9_rather_0 rfl (lv_at hl 0 rfl) ?_
  refine lv_iload_n hx hb dX9_rather_1 rfl (lv_at hl 1 rfl) ?_
  refine x_cVWi (As := [.int x]) (rest := []) S hK hP hS (fun _ h => h) 0 (by omega) rfl rfl (c_X9_isYear l σ hI x  (by first | assumption | omega)) (x_cwV (n0 := 1) (cq := (RX9, TX9, 24)) S gX9_rather_X9_isYear rfl (by decide +kernel) ⟨Nat.le_of_ble_eq_true rfl, Nat.le_of_ble_eq_true rfl⟩) rfl hl.1 rfl (Nat.le_of_ble_eq_true rfl) dX9_rather_2 ⟨Nat.le_refl _, Nat.le_refl _⟩ (fun r_2 τ_2 H locs hr_2 hP hk_2 hS => ?_)
  obtain ⟨hr_2, hms_2, hbk_2⟩ := hr_2
  subst hr_2
  obtain ⟨hyr, hbk⟩ := xBk_of hms_2 hbk_2
  have eF := xMs_F hms_2
  have e6 : τ_2 6 = σ 6 := xMs_k hms_2 (by decide)
  have hC2 := xMs_IM hms_2 hC
  refine x_if_eqB (tgt := 16) S dX9_rather_5 (by decide) (fun c_5 => ?_) (fun c_5 => ?_)
  · refine lv_bipush (v := (-2)) hx hb dX9_rather_16 (by decide) ?_
    exact x_iretW S hlocks hP hS hr rfl (⟨by rw [xp_rather, if_neg c_5], hms_2⟩) dX9_rather_18
  · obtain ⟨y, hy, rfl⟩ := xin_of c_5 (by omega)
    refine lv_aload_n hx hb dX9_rather_8 rfl (lv_at hl 0 rfl) ?_
    refine lv_iload_n hx hb dX9_rather_9 rfl (lv_at hl 1 rfl) ?_
    refine x_cVRi (As := [.int (nI y)]) (rest := []) S hK hP 0 (by omega) rfl rfl (c_X9_ratherOf l τ_2 y (xYM σ)  (by rw [e6]; exact hbk) (by rw [e6]; exact hY) (by first | assumption | omega) (by first | assumption | omega)) (x_cwV (n0 := 1) (cq := (RX9, TX9, 24)) S gX9_rather_X9_ratherOf rfl (by decide +kernel) ⟨Nat.le_of_ble_eq_true rfl, Nat.le_of_ble_eq_true rfl⟩) rfl hl.1 rfl (Nat.le_of_ble_eq_true rfl) dX9_rather_10 ⟨Nat.le_refl _, Nat.le_refl _⟩ (fun r_10 hr_10 => ?_)
    subst hr_10
    refine x_top S (y := nI (xs_rather (xFM σ) (σ 6) y)) (by rw [eF, e6, xs_rm_eq]) ?_
    refine lv_goto (tgt := 18) hx hb dX9_rather_13 (by decide) ?_
    exact x_iretW S hlocks hP hS hr rfl (⟨by rw [xp_rather, if_pos (xin_nI (by omega) (by omega)), cN_nI (by omega)], hms_2⟩) dX9_rather_18
set_option maxHeartbeats 4000000 in
set_option maxRecDepth 100000 in
theorem c_X9_on (l : Launch) {D : va_G} {K : Nat → ClassId} {α : Nat → Nat} (σ : Nat → Nat → Int32) (hI : xw_I 20 α) (x0 : Int32) (x1 : Int32) (x2 : Int32)  (hC : xIM σ) : Met l yX9_on wsX9_on (xrm 4) (va_Pc [.ref (α 0), .int x0, .int x1, .int x2] (xPre D K 20 α (xM α K) σ)) (xQi D 20 α (xM α K) (fun r τ => r = xp_on (σ 6) (xYM σ) x0 x1 x2 ∧ xMs σ τ)) 0 0 (xw_R 20 α) := by
  refine Met.ofW (cc := cX9_on) (maxL := 4) (ret := (some .int)) (by decide) rfl ?_
  intro p e s m args below meth c s₁ B hml hv
  obtain ⟨rfl, hK, hP⟩ := hv
  have S : CallFix p m c cX9_on 4 s _ wsX9_on RX9 := ⟨B.exec, B.bytes, hml, findClass_of_methodNamed B.named, atoms_spec (ws := wsX9_on) B.pre⟩
  have hx := S.1
  have hb := S.2.1
  have hr := B.returns
  have hlocks := B.notSynchronized
  have hS : va_S (xw_R 20 α) s.heap s.heap [] := va_S.rf
  have hl := lv_entry ([.ref (α 0), .int x0, .int x1, .int x2]) (n := 4) (Nat.le_of_ble_eq_true rfl)
  rw [lg_entry_eq]
  generalize (lg_sl ([.ref (α 0), .int x0, .int x1, .int x2]) ++ List.replicate (4 - (lg_sl ([.ref (α 0), .int x0, .int x1, .int x2])).length) Slot.unset).toArray = ls at hl ⊢
  have hl : lv_has ls 4 [(0, .ref (α 0)), (1, .int x0), (2, .int x1), (3, .int x2)] := hl
  have hPP := hP
  have hY := xIM_Y hC
  have hY12 := xIM_12 hC
  have hPm := xIM_P hC
  refine lv_aload_n hx hb dX9_on_0 rfl (lv_at hl 0 rfl) ?_
  refine lv_iload_n hx hb dX9_on_1 rfl (lv_at hl 1 rfl) ?_
  refine x_cVWi (As := [.int x0]) (rest := []) S hK hP hS (fun _ h => h) 0 (by omega) rfl rfl (c_X9_isYear l σ hI x0  (by first | assumption | omega)) (x_cwV (n0 := 1) (cq := (RX9, TX9, 24)) S gX9_on_X9_isYear rfl (by decide +kernel) ⟨Nat.le_of_ble_eq_true rfl, Nat.le_of_ble_eq_true rfl⟩) rfl hl.1 rfl (Nat.le_of_ble_eq_true rfl) dX9_on_2 ⟨Nat.le_refl _, Nat.le_refl _⟩ (fun r_2 τ_2 H locs hr_2 hP hk_2 hS => ?_)
  obtain ⟨hr_2, hms_2, hbk_2⟩ := hr_2
  subst hr_2
  obtain ⟨hyr, hbk⟩ := xBk_of hms_2 hbk_2
  have eF := xMs_F hms_2
  have e6 : τ_2 6 = σ 6 := xMs_k hms_2 (by decide)
  have hC2 := xMs_IM hms_2 hC
  refine x_if_eqB (tgt := 36) S dX9_on_5 (by decide) (fun c_5 => ?_) (fun c_5 => ?_)
  · refine lv_bipush (v := (-2)) hx hb dX9_on_36 (by decide) ?_
    exact x_iretW S hlocks hP hS hr rfl (by first | exact ⟨by rw [xp_on, if_neg (fun q => c_5 q.1)], hms_2⟩ | exact ⟨by rw [xp_on, if_neg (fun q => c_12 q.2.1)], hms_2⟩ | exact ⟨by rw [xp_on, if_neg (fun q => c_23 q.2.2)], hms_2⟩) dX9_on_38
  · refine lv_iload_n hx hb dX9_on_8 rfl (lv_at hl 2 rfl) ?_
    refine x_cSi (As := [.int x1]) (rest := []) S (c_X9_isSix l x1  ) (x_cwS (n0 := 1) S gX9_on_X9_isSix rfl (by decide +kernel) ⟨Nat.le_of_ble_eq_true rfl, Nat.le_of_ble_eq_true rfl⟩) rfl hl.1 rfl (Nat.le_of_ble_eq_true rfl) dX9_on_9 ⟨Nat.le_refl _, Nat.le_refl _⟩ (fun r_9 hr_9 => ?_)
    subst hr_9
    refine x_if_eqB (tgt := 36) S dX9_on_12 (by decide) (fun c_12 => ?_) (fun c_12 => ?_)
    · refine lv_bipush (v := (-2)) hx hb dX9_on_36 (by decide) ?_
      exact x_iretW S hlocks hP hS hr rfl (by first | exact ⟨by rw [xp_on, if_neg (fun q => c_5 q.1)], hms_2⟩ | exact ⟨by rw [xp_on, if_neg (fun q => c_12 q.2.1)], hms_2⟩ | exact ⟨by rw [xp_on, if_neg (fun q => c_23 q.2.2)], hms_2⟩) dX9_on_38
    · refine lv_iload_n hx hb dX9_on_15 rfl (lv_at hl 3 rfl) ?_
      refine lv_iconst (v := nI 0) hx hb dX9_on_16 (by decide) ?_
      refine lv_sipush (v := nI 999) hx hb dX9_on_17 (by decide) ?_
      refine x_cSi (As := [.int x2, .int (nI 0), .int (nI 999)]) (rest := []) S (c_X9_in0 l x2 999  (by first | assumption | omega)) (x_cwS (n0 := 3) S gX9_on_X9_in rfl (by decide +kernel) ⟨Nat.le_of_ble_eq_true rfl, Nat.le_of_ble_eq_true rfl⟩) rfl hl.1 rfl (Nat.le_of_ble_eq_true rfl) dX9_on_20 ⟨Nat.le_refl _, Nat.le_refl _⟩ (fun r_20 hr_20 => ?_)
      subst hr_20
      refine x_if_eqB (tgt := 36) S dX9_on_23 (by decide) (fun c_23 => ?_) (fun c_23 => ?_)
      · refine lv_bipush (v := (-2)) hx hb dX9_on_36 (by decide) ?_
        exact x_iretW S hlocks hP hS hr rfl (by first | exact ⟨by rw [xp_on, if_neg (fun q => c_5 q.1)], hms_2⟩ | exact ⟨by rw [xp_on, if_neg (fun q => c_12 q.2.1)], hms_2⟩ | exact ⟨by rw [xp_on, if_neg (fun q => c_23 q.2.2)], hms_2⟩) dX9_on_38
      · obtain ⟨y, hy, rfl⟩ := xin_of c_5 (by omega)
        obtain ⟨h, hh, rfl⟩ := xin_of c_12 (by omega)
        obtain ⟨t, ht, rfl⟩ := xin_of c_23 (by omega)
        refine lv_aload_n hx hb dX9_on_26 rfl (lv_at hl 0 rfl) ?_
        refine lv_iload_n hx hb dX9_on_27 rfl (lv_at hl 1 rfl) ?_
        refine lv_iload_n hx hb dX9_on_28 rfl (lv_at hl 2 rfl) ?_
        refine lv_iload_n hx hb dX9_on_29 rfl (lv_at hl 3 rfl) ?_
        refine x_cVRi (As := [.int (nI y), .int (nI h), .int (nI t)]) (rest := []) S hK hP 0 (by omega) rfl rfl (c_X9_onOf l τ_2 y h t (xYM σ)  (by rw [e6]; exact hbk) (by rw [e6]; exact hY) (by first | assumption | omega) (by first | assumption | omega) (by first | assumption | omega) (by first | assumption | omega)) (x_cwV (n0 := 3) (cq := (RX9, TX9, 24)) S gX9_on_X9_onOf rfl (by decide +kernel) ⟨Nat.le_of_ble_eq_true rfl, Nat.le_of_ble_eq_true rfl⟩) rfl hl.1 rfl (Nat.le_of_ble_eq_true rfl) dX9_on_30 ⟨Nat.le_refl _, Nat.le_refl _⟩ (fun r_30 hr_30 => ?_)
        subst hr_30
        refine x_top S (y := nI (xs_on (σ 6) y h t)) (by rw [e6]) ?_
        refine lv_goto (tgt := 38) hx hb dX9_on_33 (by decide) ?_
        exact x_iretW S hlocks hP hS hr rfl (⟨by rw [xp_on, if_pos ⟨xin_nI (by omega) (by omega), xin_nI (by omega) (by omega), xin_nI (by omega) (by omega)⟩, cN_nI (by omega), cN_nI (by omega), cN_nI (by omega)], hms_2⟩) dX9_on_38
set_option maxHeartbeats 4000000 in
set_option maxRecDepth 100000 in
theorem c_X9_returns (l : Launch) {D : va_G} {K : Nat → ClassId} {α : Nat → Nat} (σ : Nat → Nat → Int32) (hI : xw_I 20 α) (x0 : Int32) (x1 : Int32)  (hC : xIM σ) : Met l yX9_returns wsX9_returns (xrm 4) (va_Pc [.ref (α 0), .int x0, .int x1] (xPre D K 20 α (xM α K) σ)) (xQi D 20 α (xM α K) (fun r τ => r = xp_returns (σ 6) (xYM σ) x0 x1 ∧ xMs σ τ)) 0 0 (xw_R 20 α) := by
  refine Met.ofW (cc := cX9_returns) (maxL := 3) (ret := (some .int)) (by decide) rfl ?_
  intro p e s m args below meth c s₁ B hml hv
  obtain ⟨rfl, hK, hP⟩ := hv
  have S : CallFix p m c cX9_returns 3 s _ wsX9_returns RX9 := ⟨B.exec, B.bytes, hml, findClass_of_methodNamed B.named, atoms_spec (ws := wsX9_returns) B.pre⟩
  have hx := S.1
  have hb := S.2.1
  have hr := B.returns
  have hlocks := B.notSynchronized
  have hS : va_S (xw_R 20 α) s.heap s.heap [] := va_S.rf
  have hl := lv_entry ([.ref (α 0), .int x0, .int x1]) (n := 3) (Nat.le_of_ble_eq_true rfl)
  rw [lg_entry_eq]
  generalize (lg_sl ([.ref (α 0), .int x0, .int x1]) ++ List.replicate (3 - (lg_sl ([.ref (α 0), .int x0, .int x1])).length) Slot.unset).toArray = ls at hl ⊢
  have hl : lv_has ls 3 [(0, .ref (α 0)), (1, .int x0), (2, .int x1)] := hl
  have hPP := hP
  have hY := xIM_Y hC
  have hY12 := xIM_12 hC
  have hPm := xIM_P hC
  refine lv_aload_n hx hb dX9_returns_0 rfl (lv_at hl 0 rfl) ?_
  refine lv_iload_n hx hb dX9_returns_1 rfl (lv_at hl 1 rfl) ?_
  refine x_cVWi (As := [.int x0]) (rest := []) S hK hP hS (fun _ h => h) 0 (by omega) rfl rfl (c_X9_isYear l σ hI x0  (by first | assumption | omega)) (x_cwV (n0 := 1) (cq := (RX9, TX9, 24)) S gX9_returns_X9_isYear rfl (by decide +kernel) ⟨Nat.le_of_ble_eq_true rfl, Nat.le_of_ble_eq_true rfl⟩) rfl hl.1 rfl (Nat.le_of_ble_eq_true rfl) dX9_returns_2 ⟨Nat.le_refl _, Nat.le_refl _⟩ (fun r_2 τ_2 H locs hr_2 hP hk_2 hS => ?_)
  obtain ⟨hr_2, hms_2, hbk_2⟩ := hr_2
  subst hr_2
  obtain ⟨hyr, hbk⟩ := xBk_of hms_2 hbk_2
  have eF := xMs_F hms_2
  have e6 : τ_2 6 = σ 6 := xMs_k hms_2 (by decide)
  have hC2 := xMs_IM hms_2 hC
  refine x_if_eqB (tgt := 29) S dX9_returns_5 (by decide) (fun c_5 => ?_) (fun c_5 => ?_)
  · refine lv_bipush (v := (-2)) hx hb dX9_returns_29 (by decide) ?_
    exact x_iretW S hlocks hP hS hr rfl (by first | exact ⟨by rw [xp_returns, if_neg (fun q => c_5 q.1)], hms_2⟩ | exact ⟨by rw [xp_returns, if_neg (fun q => by rcases q.2 with q | q; exact c_10 q; exact c_17 q)], hms_2⟩) dX9_returns_31
  · refine lv_iload_n hx hb dX9_returns_8 rfl (lv_at hl 2 rfl) ?_
    refine lv_iconst (v := (-1)) hx hb dX9_returns_9 (by decide) ?_
    refine lv_icmp_eq (tgt := 20) hx hb dX9_returns_10 (by decide) (fun c_10 => ?_) (fun c_10 => ?_)
    · subst c_10
      obtain ⟨y, hy, rfl⟩ := xin_of c_5 (by omega)
      refine lv_aload_n hx hb dX9_returns_20 rfl (lv_at hl 0 rfl) ?_
      refine lv_iload_n hx hb dX9_returns_21 rfl (lv_at hl 1 rfl) ?_
      refine lv_iload_n hx hb dX9_returns_22 rfl (lv_at hl 2 rfl) ?_
      refine x_cVRi (As := [.int (nI y), .int (-1 : Int32)]) (rest := []) S hK hP 0 (by omega) rfl rfl (c_X9_returnsOf l τ_2 y (xYM σ)  (by rw [e6]; exact hbk) (by rw [e6]; exact hY) (by first | assumption | omega) (by rw [e6]; exact hPm) (by first | assumption | omega)) (x_cwV (n0 := 2) (cq := (RX9, TX9, 24)) S gX9_returns_X9_returnsOf rfl (by decide +kernel) ⟨Nat.le_of_ble_eq_true rfl, Nat.le_of_ble_eq_true rfl⟩) rfl hl.1 rfl (Nat.le_of_ble_eq_true rfl) dX9_returns_23 ⟨Nat.le_refl _, Nat.le_refl _⟩ (fun r_23 hr_23 => ?_)
      subst hr_23
      refine lv_goto (tgt := 31) hx hb dX9_returns_26 (by decide) ?_
      exact x_iretW S hlocks hP hS hr rfl (by rw [e6]; exact ⟨by rw [xp_returns, if_pos ⟨xin_nI (by omega) (by omega), (Or.inl rfl)⟩, cN_nI (by omega), if_pos (by have := (xs_ret_spec hY hPm hy (Or.inl rfl)).1; omega)], hms_2⟩) dX9_returns_31
    · refine lv_iload_n hx hb dX9_returns_13 rfl (lv_at hl 2 rfl) ?_
      refine x_cSi (As := [.int x1]) (rest := []) S (c_X9_isSix l x1  ) (x_cwS (n0 := 1) S gX9_returns_X9_isSix rfl (by decide +kernel) ⟨Nat.le_of_ble_eq_true rfl, Nat.le_of_ble_eq_true rfl⟩) rfl hl.1 rfl (Nat.le_of_ble_eq_true rfl) dX9_returns_14 ⟨Nat.le_refl _, Nat.le_refl _⟩ (fun r_14 hr_14 => ?_)
      subst hr_14
      refine x_if_eqB (tgt := 29) S dX9_returns_17 (by decide) (fun c_17 => ?_) (fun c_17 => ?_)
      · refine lv_bipush (v := (-2)) hx hb dX9_returns_29 (by decide) ?_
        exact x_iretW S hlocks hP hS hr rfl (by first | exact ⟨by rw [xp_returns, if_neg (fun q => c_5 q.1)], hms_2⟩ | exact ⟨by rw [xp_returns, if_neg (fun q => by rcases q.2 with q | q; exact c_10 q; exact c_17 q)], hms_2⟩) dX9_returns_31
      · obtain ⟨g, hg, rfl⟩ := xin_of c_17 (by omega)
        obtain ⟨y, hy, rfl⟩ := xin_of c_5 (by omega)
        refine lv_aload_n hx hb dX9_returns_20 rfl (lv_at hl 0 rfl) ?_
        refine lv_iload_n hx hb dX9_returns_21 rfl (lv_at hl 1 rfl) ?_
        refine lv_iload_n hx hb dX9_returns_22 rfl (lv_at hl 2 rfl) ?_
        refine x_cVRi (As := [.int (nI y), .int (nI g)]) (rest := []) S hK hP 0 (by omega) rfl rfl (c_X9_returnsOfH l τ_2 y g (xYM σ)  (by rw [e6]; exact hbk) (by rw [e6]; exact hY) (by first | assumption | omega) (by rw [e6]; exact hPm) (by first | assumption | omega) (by first | assumption | omega)) (x_cwV (n0 := 2) (cq := (RX9, TX9, 24)) S gX9_returns_X9_returnsOf rfl (by decide +kernel) ⟨Nat.le_of_ble_eq_true rfl, Nat.le_of_ble_eq_true rfl⟩) rfl hl.1 rfl (Nat.le_of_ble_eq_true rfl) dX9_returns_23 ⟨Nat.le_refl _, Nat.le_refl _⟩ (fun r_23 hr_23 => ?_)
        subst hr_23
        refine lv_goto (tgt := 31) hx hb dX9_returns_26 (by decide) ?_
        exact x_iretW S hlocks hP hS hr rfl (by rw [e6]; exact ⟨by rw [xp_returns, if_pos ⟨xin_nI (by omega) (by omega), (Or.inr (xin_nI hg (by decide)))⟩, cN_nI (by omega), if_pos (by have := (xs_ret_spec hY hPm hy (Or.inr (xin_nI hg (by decide)))).1; omega)], hms_2⟩) dX9_returns_31
set_option maxHeartbeats 4000000 in
set_option maxRecDepth 100000 in
theorem c_X9_aheadOf (l : Launch) {D : va_G} {K : Nat → ClassId} {α : Nat → Nat} (σ : Nat → Nat → Int32) (h : Nat) (x : Int32)  (hfe : xran (σ 5) 6 10) (hh : h < 6) : Met l yX9_aheadOf wsX9_aheadOf (xrm 2) (va_Pc [.ref (α 0), .int (nI h), .int x] (xPre D K 20 α (xM α K) σ)) (vp_Sl (fun r => r = xfrac (fb_sm (fun n => xE (xFM σ) h n) 6) 6 x)) 0 0 (fun _ => False) := by
  refine Met.ofW (cc := cX9_aheadOf) (maxL := 5) (ret := (some .long)) (by decide) rfl ?_
  intro p e s m args below meth c s₁ B hml hv
  obtain ⟨rfl, hK, hP⟩ := hv
  have S : CallFix p m c cX9_aheadOf 5 s _ wsX9_aheadOf RX9 := ⟨B.exec, B.bytes, hml, findClass_of_methodNamed B.named, atoms_spec (ws := wsX9_aheadOf) B.pre⟩
  have hx := S.1
  have hb := S.2.1
  have hr := B.returns
  have hlocks := B.notSynchronized
  have hl := lv_entry ([.ref (α 0), .int (nI h), .int x]) (n := 5) (Nat.le_of_ble_eq_true rfl)
  rw [lg_entry_eq]
  generalize (lg_sl ([.ref (α 0), .int (nI h), .int x]) ++ List.replicate (5 - (lg_sl ([.ref (α 0), .int (nI h), .int x])).length) Slot.unset).toArray = ls at hl ⊢
  have hl : lv_has ls 5 [(0, .ref (α 0)), (1, .int (nI h)), (2, .int x)] := hl
  have hPP := hP
  refine lv_iconst (v := nI 0) hx hb dX9_aheadOf_0 (by decide) ?_
  refine lv_istore_n (lv' := [(3, .int (nI 0)), (0, .ref (α 0)), (1, .int (nI h)), (2, .int x)]) hx hb dX9_aheadOf_1 rfl hl (by decide) rfl (fun ls hl => ?_)
  refine lv_iconst (v := nI 0) hx hb dX9_aheadOf_2 (by decide) ?_
  refine lv_istore (lv' := [(4, .int (nI 0)), (3, .int (nI 0)), (0, .ref (α 0)), (1, .int (nI h)), (2, .int x)]) hx hb dX9_aheadOf_3 hl (by decide) rfl (fun ls hl => ?_)
  refine x_loop (ι := Nat) (fun i ls => (i ≤ 6) ∧ lv_has ls 5 [(4, .int (nI i)), (3, .int (nI (fb_sm (fun n => xE (xFM σ) h n) i))), (0, .ref (α 0)), (1, .int (nI h)), (2, .int x)]) (fun i => 6 - i) ?_ 0 ls ⟨Nat.zero_le _, lv_sub hl [0, 1, 2, 3, 4] rfl⟩
  intro i ls hinv ih_5
  obtain ⟨hi, hl⟩ := hinv
  have hl : lv_has ls 5 [(4, .int (nI i)), (3, .int (nI (fb_sm (fun n => xE (xFM σ) h n) i))), (0, .ref (α 0)), (1, .int (nI h)), (2, .int x)] := hl
  refine lv_iload hx hb dX9_aheadOf_5 (lv_at hl 0 rfl) ?_
  refine lv_bipush (v := nI 6) hx hb dX9_aheadOf_7 (by decide) ?_
  refine x_icmpN_ge (tgt := 28) S dX9_aheadOf_9 (by decide) (by omega) (by omega) (fun c_9 => ?_) (fun c_9 => ?_)
  · have e9 : i = 6 := by omega
    subst e9
    have hq : fb_sm (fun n => xE (xFM σ) h n) 6 ≤ 6 * 9 := fb_sm_bound (fun n hn => (xE_ok (F := xFM σ) hfe h hn).2)
    refine lv_iload_n hx hb dX9_aheadOf_28 rfl (lv_at hl 1 rfl) ?_
    refine lv_i2l hx hb dX9_aheadOf_29 rfl ?_
    refine x_topL S (y := lN (fb_sm (fun n => xE (xFM σ) h n) 6)) (nI_l (by omega)) ?_
    refine lv_ldc2 hx hb S.2.2.2.1 (S.2.2.2.2 (.constantLong RX9 155 (6)) (List.mem_of_getElem? (i := 1) rfl)) dX9_aheadOf_30 ?_
    refine x_topL S (y := lN 6) (rfl) ?_
    refine lv_iload_n hx hb dX9_aheadOf_33 rfl (lv_at hl 4 rfl) ?_
    refine x_cSl (As := [.long (lN (fb_sm (fun n => xE (xFM σ) h n) 6)), .long (lN 6), .int x]) (rest := []) S (c_X9_lowest l (fb_sm (fun n => xE (xFM σ) h n) 6) 6 x  (by first | assumption | omega) (by first | assumption | omega) (by first | assumption | omega)) (x_cwS (n0 := 3) S gX9_aheadOf_X9_lowest rfl (by decide +kernel) ⟨Nat.le_of_ble_eq_true rfl, Nat.le_of_ble_eq_true rfl⟩) rfl hl.1 rfl (Nat.le_of_ble_eq_true rfl) dX9_aheadOf_34 ⟨Nat.le_refl _, Nat.le_refl _⟩ (fun r_34 hr_34 => ?_)
    subst hr_34
    exact x_lretR S hlocks hr (rfl) dX9_aheadOf_37
  · refine lv_iload_n hx hb dX9_aheadOf_12 rfl (lv_at hl 1 rfl) ?_
    refine lv_aload_n hx hb dX9_aheadOf_13 rfl (lv_at hl 2 rfl) ?_
    refine lv_iload_n hx hb dX9_aheadOf_14 rfl (lv_at hl 3 rfl) ?_
    refine lv_iload hx hb dX9_aheadOf_15 (lv_at hl 0 rfl) ?_
    refine x_cVRi (As := [.int (nI h), .int (nI i)]) (rest := [.int (nI (fb_sm (fun n => xE (xFM σ) h n) i))]) S hK hP 0 (by omega) rfl rfl (c_X9_earns l σ h i  (by first | assumption | omega) (by first | assumption | omega)) (x_cwV (n0 := 2) (cq := (RX9, TX9, 24)) S gX9_aheadOf_X9_earns rfl (by decide +kernel) ⟨Nat.le_of_ble_eq_true rfl, Nat.le_of_ble_eq_true rfl⟩) rfl hl.1 rfl (Nat.le_of_ble_eq_true rfl) dX9_aheadOf_17 ⟨Nat.le_refl _, Nat.le_refl _⟩ (fun r_17 hr_17 => ?_)
    subst hr_17
    refine x_top S (y := nI (xE (xFM σ) h i)) ((xE_ok (F := xFM σ) hfe h (by omega)).1) ?_
    refine x_iaddN S dX9_aheadOf_20 ?_
    refine lv_istore_n (lv' := [(3, .int (nI ((fb_sm (fun n => xE (xFM σ) h n) i) + (xE (xFM σ) h i)))), (4, .int (nI i)), (0, .ref (α 0)), (1, .int (nI h)), (2, .int x)]) hx hb dX9_aheadOf_21 rfl hl (by decide) rfl (fun ls hl => ?_)
    refine lv_iinc (v := nI (i + 1)) (lv' := [(4, .int (nI (i + 1))), (3, .int (nI ((fb_sm (fun n => xE (xFM σ) h n) i) + (xE (xFM σ) h i)))), (0, .ref (α 0)), (1, .int (nI h)), (2, .int x)]) hx hb dX9_aheadOf_22 hl (k := 1) rfl (nI_add i 1) (by decide) rfl (fun ls hl => ?_)
    refine lv_goto (tgt := 5) hx hb dX9_aheadOf_25 (by decide) ?_
    exact ih_5 (i + 1) ls ⟨(by omega), lv_sub hl [0, 1, 2, 3, 4] rfl⟩ (by (try dsimp only); omega)
set_option maxHeartbeats 4000000 in
set_option maxRecDepth 100000 in
theorem c_X9_ahead (l : Launch) {D : va_G} {K : Nat → ClassId} {α : Nat → Nat} (σ : Nat → Nat → Int32) (x0 : Int32) (x1 : Int32)  (hC : xIM σ) : Met l yX9_ahead wsX9_ahead (xrm 3) (va_Pc [.ref (α 0), .int x0, .int x1] (xPre D K 20 α (xM α K) σ)) (vp_Sl (fun r => r = xp_ahead (xE (xFM σ)) x0 x1)) 0 0 (fun _ => False) := by
  refine Met.ofW (cc := cX9_ahead) (maxL := 3) (ret := (some .long)) (by decide) rfl ?_
  intro p e s m args below meth c s₁ B hml hv
  obtain ⟨rfl, hK, hP⟩ := hv
  have S : CallFix p m c cX9_ahead 3 s _ wsX9_ahead RX9 := ⟨B.exec, B.bytes, hml, findClass_of_methodNamed B.named, atoms_spec (ws := wsX9_ahead) B.pre⟩
  have hx := S.1
  have hb := S.2.1
  have hr := B.returns
  have hlocks := B.notSynchronized
  have hl := lv_entry ([.ref (α 0), .int x0, .int x1]) (n := 3) (Nat.le_of_ble_eq_true rfl)
  rw [lg_entry_eq]
  generalize (lg_sl ([.ref (α 0), .int x0, .int x1]) ++ List.replicate (3 - (lg_sl ([.ref (α 0), .int x0, .int x1])).length) Slot.unset).toArray = ls at hl ⊢
  have hl : lv_has ls 3 [(0, .ref (α 0)), (1, .int x0), (2, .int x1)] := hl
  have hPP := hP
  have hY := xIM_Y hC
  have hY12 := xIM_12 hC
  obtain ⟨⟨hL, hL9⟩, ⟨hcs, hcn, hc1, hc2⟩, ⟨hss, hsn, hs1, hs2⟩, hfe, hsh⟩ := id hC
  generalize hLe : xLM σ = L at hL hL9 ⊢
  generalize hYe : xYM σ = Y at hY hY12 ⊢
  generalize hcne : xcM σ = cn at hcs hcn hc1 hc2 ⊢
  generalize hsne : xsM σ = sn at hss hsn hs1 hs2 ⊢
  refine lv_iload_n hx hb dX9_ahead_0 rfl (lv_at hl 1 rfl) ?_
  refine x_cSi (As := [.int x0]) (rest := []) S (c_X9_isSix l x0  ) (x_cwS (n0 := 1) S gX9_ahead_X9_isSix rfl (by decide +kernel) ⟨Nat.le_of_ble_eq_true rfl, Nat.le_of_ble_eq_true rfl⟩) rfl hl.1 rfl (Nat.le_of_ble_eq_true rfl) dX9_ahead_1 ⟨Nat.le_refl _, Nat.le_refl _⟩ (fun r_1 hr_1 => ?_)
  subst hr_1
  refine x_if_eqB (tgt := 25) S dX9_ahead_4 (by decide) (fun c_4 => ?_) (fun c_4 => ?_)
  · refine lv_bipush (v := (-2)) hx hb dX9_ahead_25 (by decide) ?_
    refine x_cSl (As := [.int (-2 : Int32)]) (rest := []) S (c_X9_no l (-2 : Int32)  ) (x_cwS (n0 := 1) S gX9_ahead_X9_no rfl (by decide +kernel) ⟨Nat.le_of_ble_eq_true rfl, Nat.le_of_ble_eq_true rfl⟩) rfl hl.1 rfl (Nat.le_of_ble_eq_true rfl) dX9_ahead_27 ⟨Nat.le_refl _, Nat.le_refl _⟩ (fun r_27 hr_27 => ?_)
    subst hr_27
    exact x_lretR S hlocks hr (by first | (rw [xp_ahead, if_neg (fun q => c_4 q.1)] <;> rfl) | (rw [xp_ahead, if_neg (fun q => c_13 q.2)] <;> rfl)) dX9_ahead_30
  · refine lv_iload_n hx hb dX9_ahead_7 rfl (lv_at hl 2 rfl) ?_
    refine lv_iconst (v := nI 0) hx hb dX9_ahead_8 (by decide) ?_
    refine lv_iconst (v := nI 1) hx hb dX9_ahead_9 (by decide) ?_
    refine x_cSi (As := [.int x1, .int (nI 0), .int (nI 1)]) (rest := []) S (c_X9_in0 l x1 1  (by first | assumption | omega)) (x_cwS (n0 := 3) S gX9_ahead_X9_in rfl (by decide +kernel) ⟨Nat.le_of_ble_eq_true rfl, Nat.le_of_ble_eq_true rfl⟩) rfl hl.1 rfl (Nat.le_of_ble_eq_true rfl) dX9_ahead_10 ⟨Nat.le_refl _, Nat.le_refl _⟩ (fun r_10 hr_10 => ?_)
    subst hr_10
    refine x_if_eqB (tgt := 25) S dX9_ahead_13 (by decide) (fun c_13 => ?_) (fun c_13 => ?_)
    · refine lv_bipush (v := (-2)) hx hb dX9_ahead_25 (by decide) ?_
      refine x_cSl (As := [.int (-2 : Int32)]) (rest := []) S (c_X9_no l (-2 : Int32)  ) (x_cwS (n0 := 1) S gX9_ahead_X9_no rfl (by decide +kernel) ⟨Nat.le_of_ble_eq_true rfl, Nat.le_of_ble_eq_true rfl⟩) rfl hl.1 rfl (Nat.le_of_ble_eq_true rfl) dX9_ahead_27 ⟨Nat.le_refl _, Nat.le_refl _⟩ (fun r_27 hr_27 => ?_)
      subst hr_27
      exact x_lretR S hlocks hr (by first | (rw [xp_ahead, if_neg (fun q => c_4 q.1)] <;> rfl) | (rw [xp_ahead, if_neg (fun q => c_13 q.2)] <;> rfl)) dX9_ahead_30
    · obtain ⟨h, hh, rfl⟩ := xin_of c_4 (by omega)
      refine lv_aload_n hx hb dX9_ahead_16 rfl (lv_at hl 0 rfl) ?_
      refine lv_iload_n hx hb dX9_ahead_17 rfl (lv_at hl 1 rfl) ?_
      refine lv_iload_n hx hb dX9_ahead_18 rfl (lv_at hl 2 rfl) ?_
      refine x_cVRl (As := [.int (nI h), .int x1]) (rest := []) S hK hP 0 (by omega) rfl rfl (c_X9_aheadOf l σ h x1  (by first | assumption | omega) (by first | assumption | omega)) (x_cwV (n0 := 2) (cq := (RX9, TX9, 24)) S gX9_ahead_X9_aheadOf rfl (by decide +kernel) ⟨Nat.le_of_ble_eq_true rfl, Nat.le_of_ble_eq_true rfl⟩) rfl hl.1 rfl (Nat.le_of_ble_eq_true rfl) dX9_ahead_19 ⟨Nat.le_refl _, Nat.le_refl _⟩ (fun r_19 hr_19 => ?_)
      subst hr_19
      refine lv_goto (tgt := 30) hx hb dX9_ahead_22 (by decide) ?_
      exact x_lretR S hlocks hr (by rw [xp_ahead, if_pos ⟨xin_nI (by omega) (by omega), c_13⟩, cN_nI (by omega)]) dX9_ahead_30
set_option maxHeartbeats 4000000 in
set_option maxRecDepth 100000 in
theorem c_X9_claim (l : Launch) {D : va_G} {K : Nat → ClassId} {α : Nat → Nat} (σ : Nat → Nat → Int32) (hI : xw_I 20 α) (x0 : Int32) (x1 : Int32) (x2 : Int32)  (hC : xIM σ) : Met l yX9_claim wsX9_claim (xrm 2) (va_Pc [.ref (α 0), .int x0, .int x1, .int x2] (xPre D K 20 α (xM α K) σ)) (xQi D 20 α (xM α K) (fun r τ => r = xp_more (xclok x0 x1 x2) (xcM σ) 12 ∧ τ = xst_mclaim σ x0 x1 x2)) 0 0 (xw_R 20 α) := by
  refine Met.ofW (cc := cX9_claim) (maxL := 4) (ret := (some .int)) (by decide) rfl ?_
  intro p e s m args below meth c s₁ B hml hv
  obtain ⟨rfl, hK, hP⟩ := hv
  have S : CallFix p m c cX9_claim 4 s _ wsX9_claim RX9 := ⟨B.exec, B.bytes, hml, findClass_of_methodNamed B.named, atoms_spec (ws := wsX9_claim) B.pre⟩
  have hx := S.1
  have hb := S.2.1
  have hr := B.returns
  have hlocks := B.notSynchronized
  have hS : va_S (xw_R 20 α) s.heap s.heap [] := va_S.rf
  have hl := lv_entry ([.ref (α 0), .int x0, .int x1, .int x2]) (n := 4) (Nat.le_of_ble_eq_true rfl)
  rw [lg_entry_eq]
  generalize (lg_sl ([.ref (α 0), .int x0, .int x1, .int x2]) ++ List.replicate (4 - (lg_sl ([.ref (α 0), .int x0, .int x1, .int x2])).length) Slot.unset).toArray = ls at hl ⊢
  have hl : lv_has ls 4 [(0, .ref (α 0)), (1, .int x0), (2, .int x1), (3, .int x2)] := hl
  have hPP := hP
  have hY := xIM_Y hC
  have hY12 := xIM_12 hC
  obtain ⟨⟨hL, hL9⟩, ⟨hcs, hcn, hc1, hc2⟩, ⟨hss, hsn, hs1, hs2⟩, hfe, hsh⟩ := id hC
  generalize hLe : xLM σ = L at hL hL9 ⊢
  generalize hYe : xYM σ = Y at hY hY12 ⊢
  generalize hcne : xcM σ = cn at hcs hcn hc1 hc2 ⊢
  generalize hsne : xsM σ = sn at hss hsn hs1 hs2 ⊢
  refine lv_iload_n hx hb dX9_claim_0 rfl (lv_at hl 1 rfl) ?_
  refine x_cSi (As := [.int x0]) (rest := []) S (c_X9_isSix l x0  ) (x_cwS (n0 := 1) S gX9_claim_X9_isSix rfl (by decide +kernel) ⟨Nat.le_of_ble_eq_true rfl, Nat.le_of_ble_eq_true rfl⟩) rfl hl.1 rfl (Nat.le_of_ble_eq_true rfl) dX9_claim_1 ⟨Nat.le_refl _, Nat.le_refl _⟩ (fun r_1 hr_1 => ?_)
  subst hr_1
  refine x_if_eqB (tgt := 27) S dX9_claim_4 (by decide) (fun c_4 => ?_) (fun c_4 => ?_)
  · refine lv_bipush (v := (-2)) hx hb dX9_claim_27 (by decide) ?_
    exact x_iretW S hlocks hP hS hr rfl (by first | exact ⟨by rw [xp_more, if_neg (fun q => c_4 q.1)], by rw [xst_mclaim, if_neg (fun q => c_4 q.1.1)]⟩ | exact ⟨by rw [xp_more, if_neg (fun q => c_14 q.2.1)], by rw [xst_mclaim, if_neg (fun q => c_14 q.1.2.1)]⟩ | exact ⟨by rw [xp_more, if_neg (fun q => c_24 q.2.2)], by rw [xst_mclaim, if_neg (fun q => c_24 q.1.2.2)]⟩) dX9_claim_29
  · refine lv_iload_n hx hb dX9_claim_7 rfl (lv_at hl 2 rfl) ?_
    refine lv_iconst (v := nI 0) hx hb dX9_claim_8 (by decide) ?_
    refine lv_bipush (v := nI 11) hx hb dX9_claim_9 (by decide) ?_
    refine x_cSi (As := [.int x1, .int (nI 0), .int (nI 11)]) (rest := []) S (c_X9_in0 l x1 11  (by first | assumption | omega)) (x_cwS (n0 := 3) S gX9_claim_X9_in rfl (by decide +kernel) ⟨Nat.le_of_ble_eq_true rfl, Nat.le_of_ble_eq_true rfl⟩) rfl hl.1 rfl (Nat.le_of_ble_eq_true rfl) dX9_claim_11 ⟨Nat.le_refl _, Nat.le_refl _⟩ (fun r_11 hr_11 => ?_)
    subst hr_11
    refine x_if_eqB (tgt := 27) S dX9_claim_14 (by decide) (fun c_14 => ?_) (fun c_14 => ?_)
    · refine lv_bipush (v := (-2)) hx hb dX9_claim_27 (by decide) ?_
      exact x_iretW S hlocks hP hS hr rfl (by first | exact ⟨by rw [xp_more, if_neg (fun q => c_4 q.1)], by rw [xst_mclaim, if_neg (fun q => c_4 q.1.1)]⟩ | exact ⟨by rw [xp_more, if_neg (fun q => c_14 q.2.1)], by rw [xst_mclaim, if_neg (fun q => c_14 q.1.2.1)]⟩ | exact ⟨by rw [xp_more, if_neg (fun q => c_24 q.2.2)], by rw [xst_mclaim, if_neg (fun q => c_24 q.1.2.2)]⟩) dX9_claim_29
    · refine lv_iload_n hx hb dX9_claim_17 rfl (lv_at hl 3 rfl) ?_
      refine lv_iconst (v := nI 1) hx hb dX9_claim_18 (by decide) ?_
      refine lv_bipush (v := nI 99) hx hb dX9_claim_19 (by decide) ?_
      refine x_cSi (As := [.int x2, .int (nI 1), .int (nI 99)]) (rest := []) S (c_X9_in l x2 (nI 1) (nI 99)  ) (x_cwS (n0 := 3) S gX9_claim_X9_in rfl (by decide +kernel) ⟨Nat.le_of_ble_eq_true rfl, Nat.le_of_ble_eq_true rfl⟩) rfl hl.1 rfl (Nat.le_of_ble_eq_true rfl) dX9_claim_21 ⟨Nat.le_refl _, Nat.le_refl _⟩ (fun r_21 hr_21 => ?_)
      subst hr_21
      refine x_if_neB (tgt := 30) S dX9_claim_24 (by decide) (fun c_24 => ?_) (fun c_24 => ?_)
      · refine lv_aload_n hx hb dX9_claim_30 rfl (lv_at hl 0 rfl) ?_
        refine x_get S (fun w h => List.mem_cons_of_mem _ (List.mem_append_right _ h)) hK hP 0 (by omega) rfl rfl 10 (by decide) (List.mem_of_getElem? (i := 1) rfl) rfl dX9_claim_31 ?_
        refine x_top S (y := nI cn) (hcs) ?_
        refine lv_bipush (v := nI 12) hx hb dX9_claim_34 (by decide) ?_
        refine x_icmpN_ne (tgt := 42) S dX9_claim_36 (by decide) (by omega) (by omega) (fun c_36 => ?_) (fun c_36 => ?_)
        · refine lv_aload_n hx hb dX9_claim_42 rfl (lv_at hl 0 rfl) ?_
          refine x_get S (fun w h => List.mem_cons_of_mem _ (List.mem_append_right _ h)) hK hP 0 (by omega) rfl rfl 11 (by decide) (List.mem_of_getElem? (i := 2) rfl) rfl dX9_claim_43 ?_
          refine lv_aload_n hx hb dX9_claim_46 rfl (lv_at hl 0 rfl) ?_
          refine x_get S (fun w h => List.mem_cons_of_mem _ (List.mem_append_right _ h)) hK hP 0 (by omega) rfl rfl 10 (by decide) (List.mem_of_getElem? (i := 1) rfl) rfl dX9_claim_47 ?_
          refine x_top S (y := nI cn) (hcs) ?_
          refine lv_iload_n hx hb dX9_claim_50 rfl (lv_at hl 1 rfl) ?_
          refine x_iast S hK hP hI hS 9 (by omega) (fun _ => rfl) (by first | assumption | omega) (by omega) dX9_claim_51 (fun H locs hP hS => ?_)
          refine lv_aload_n hx hb dX9_claim_52 rfl (lv_at hl 0 rfl) ?_
          refine x_get S (fun w h => List.mem_cons_of_mem _ (List.mem_append_right _ h)) hK hP 0 (by omega) rfl rfl 12 (by decide) (List.mem_of_getElem? (i := 3) rfl) rfl dX9_claim_53 ?_
          refine lv_aload_n hx hb dX9_claim_56 rfl (lv_at hl 0 rfl) ?_
          refine x_get S (fun w h => List.mem_cons_of_mem _ (List.mem_append_right _ h)) hK hP 0 (by omega) rfl rfl 10 (by decide) (List.mem_of_getElem? (i := 1) rfl) rfl dX9_claim_57 ?_
          refine x_top S (y := nI cn) (by simp (disch := decide) only [xup_n]; exact hcs) ?_
          refine lv_iload_n hx hb dX9_claim_60 rfl (lv_at hl 2 rfl) ?_
          refine x_iast S hK hP hI hS 10 (by omega) (fun _ => rfl) (by first | assumption | omega) (by omega) dX9_claim_61 (fun H locs hP hS => ?_)
          refine lv_aload_n hx hb dX9_claim_62 rfl (lv_at hl 0 rfl) ?_
          refine x_get S (fun w h => List.mem_cons_of_mem _ (List.mem_append_right _ h)) hK hP 0 (by omega) rfl rfl 13 (by decide) (List.mem_of_getElem? (i := 4) rfl) rfl dX9_claim_63 ?_
          refine lv_aload_n hx hb dX9_claim_66 rfl (lv_at hl 0 rfl) ?_
          refine x_get S (fun w h => List.mem_cons_of_mem _ (List.mem_append_right _ h)) hK hP 0 (by omega) rfl rfl 10 (by decide) (List.mem_of_getElem? (i := 1) rfl) rfl dX9_claim_67 ?_
          refine x_top S (y := nI cn) (by simp (disch := decide) only [xup_n]; exact hcs) ?_
          refine lv_iload_n hx hb dX9_claim_70 rfl (lv_at hl 3 rfl) ?_
          refine x_iast S hK hP hI hS 11 (by omega) (fun _ => rfl) (by first | assumption | omega) (by omega) dX9_claim_71 (fun H locs hP hS => ?_)
          refine lv_aload_n hx hb dX9_claim_72 rfl (lv_at hl 0 rfl) ?_
          refine lv_dup hx hb dX9_claim_73 rfl ?_
          refine x_get S (fun w h => List.mem_cons_of_mem _ (List.mem_append_right _ h)) hK hP 0 (by omega) rfl rfl 10 (by decide) (List.mem_of_getElem? (i := 1) rfl) rfl dX9_claim_74 ?_
          refine x_top S (y := nI cn) (by simp (disch := decide) only [xup_n]; exact hcs) ?_
          refine lv_iconst (v := nI 1) hx hb dX9_claim_77 (by decide) ?_
          refine x_iaddN S dX9_claim_78 ?_
          refine x_put S (fun w h => List.mem_cons_of_mem _ (List.mem_append_right _ h)) tyX9 tyX9_ok nmX9 hK hP hI hS 0 (by omega) rfl rfl 10 (by decide) (List.mem_of_getElem? (i := 1) rfl) rfl (ty := .int) (v := .int (nI (cn + 1))) (by decide +kernel) rfl rfl (Nat.le_of_ble_eq_true rfl) (upd ((va_up (va_up (va_up σ 9 (upd (σ 9) cn x0)) 10 (upd ((va_up σ 9 (upd (σ 9) cn x0)) 10) cn x1)) 11 (upd ((va_up (va_up σ 9 (upd (σ 9) cn x0)) 10 (upd ((va_up σ 9 (upd (σ 9) cn x0)) 10) cn x1)) 11) cn x2)) 0) 10 (nI (cn + 1))) rfl dX9_claim_79 (fun H locs hP hS => ?_)
          have hP : va_P D vwCl (xw 20 α (xM α K) (xst_mcl σ cn x0 x1 x2)) H := by
            rw [show xst_mcl σ cn x0 x1 x2 = (va_up (va_up (va_up (va_up σ 9 (upd (σ 9) cn x0)) 10 (upd ((va_up σ 9 (upd (σ 9) cn x0)) 10) cn x1)) 11 (upd ((va_up (va_up σ 9 (upd (σ 9) cn x0)) 10 (upd ((va_up σ 9 (upd (σ 9) cn x0)) 10) cn x1)) 11) cn x2)) 0 (upd ((va_up (va_up (va_up σ 9 (upd (σ 9) cn x0)) 10 (upd ((va_up σ 9 (upd (σ 9) cn x0)) 10) cn x1)) 11 (upd ((va_up (va_up σ 9 (upd (σ 9) cn x0)) 10 (upd ((va_up σ 9 (upd (σ 9) cn x0)) 10) cn x1)) 11) cn x2)) 0) 10 (nI (cn + 1)))) from by unfold xst_mcl; simp (disch := decide) only [xup_n]]; exact hP
          refine lv_aload_n hx hb dX9_claim_82 rfl (lv_at hl 0 rfl) ?_
          refine x_get S (fun w h => List.mem_cons_of_mem _ (List.mem_append_right _ h)) hK hP 0 (by omega) rfl rfl 10 (by decide) (List.mem_of_getElem? (i := 1) rfl) rfl dX9_claim_83 ?_
          refine x_top S (y := nI (cn + 1)) (by unfold xst_mcl; rw [xup_s, pk_us]) ?_
          exact x_iretW S hlocks hP hS hr rfl (⟨by rw [xp_more, if_pos ⟨c_4, c_14, c_24⟩, if_pos (by omega)], by rw [xst_mclaim, hcne, if_pos ⟨⟨c_4, c_14, c_24⟩, by omega⟩]⟩) dX9_claim_86
        · refine lv_bipush (v := (-4)) hx hb dX9_claim_39 (by decide) ?_
          exact x_iretW S hlocks hP hS hr rfl (⟨by rw [xp_more, if_pos ⟨c_4, c_14, c_24⟩, if_neg (by omega)], by rw [xst_mclaim, if_neg (fun q => by have := q.2; omega)]⟩) dX9_claim_41
      · refine lv_bipush (v := (-2)) hx hb dX9_claim_27 (by decide) ?_
        exact x_iretW S hlocks hP hS hr rfl (by first | exact ⟨by rw [xp_more, if_neg (fun q => c_4 q.1)], by rw [xst_mclaim, if_neg (fun q => c_4 q.1.1)]⟩ | exact ⟨by rw [xp_more, if_neg (fun q => c_14 q.2.1)], by rw [xst_mclaim, if_neg (fun q => c_14 q.1.2.1)]⟩ | exact ⟨by rw [xp_more, if_neg (fun q => c_24 q.2.2)], by rw [xst_mclaim, if_neg (fun q => c_24 q.1.2.2)]⟩) dX9_claim_29
set_option maxHeartbeats 4000000 in
set_option maxRecDepth 100000 in
theorem c_X9_seen (l : Launch) {D : va_G} {K : Nat → ClassId} {α : Nat → Nat} (σ : Nat → Nat → Int32) (hI : xw_I 20 α) (x0 : Int32) (x1 : Int32) (x2 : Int32)  (hC : xIM σ) : Met l yX9_seen wsX9_seen (xrm 2) (va_Pc [.ref (α 0), .int x0, .int x1, .int x2] (xPre D K 20 α (xM α K) σ)) (xQi D 20 α (xM α K) (fun r τ => r = xp_more (xtrok 2 x0 x1 x2) (xsM σ) 8 ∧ τ = xst_mseen σ x0 x1 x2)) 0 0 (xw_R 20 α) := by
  refine Met.ofW (cc := cX9_seen) (maxL := 4) (ret := (some .int)) (by decide) rfl ?_
  intro p e s m args below meth c s₁ B hml hv
  obtain ⟨rfl, hK, hP⟩ := hv
  have S : CallFix p m c cX9_seen 4 s _ wsX9_seen RX9 := ⟨B.exec, B.bytes, hml, findClass_of_methodNamed B.named, atoms_spec (ws := wsX9_seen) B.pre⟩
  have hx := S.1
  have hb := S.2.1
  have hr := B.returns
  have hlocks := B.notSynchronized
  have hS : va_S (xw_R 20 α) s.heap s.heap [] := va_S.rf
  have hl := lv_entry ([.ref (α 0), .int x0, .int x1, .int x2]) (n := 4) (Nat.le_of_ble_eq_true rfl)
  rw [lg_entry_eq]
  generalize (lg_sl ([.ref (α 0), .int x0, .int x1, .int x2]) ++ List.replicate (4 - (lg_sl ([.ref (α 0), .int x0, .int x1, .int x2])).length) Slot.unset).toArray = ls at hl ⊢
  have hl : lv_has ls 4 [(0, .ref (α 0)), (1, .int x0), (2, .int x1), (3, .int x2)] := hl
  have hPP := hP
  have hY := xIM_Y hC
  have hY12 := xIM_12 hC
  obtain ⟨⟨hL, hL9⟩, ⟨hcs, hcn, hc1, hc2⟩, ⟨hss, hsn, hs1, hs2⟩, hfe, hsh⟩ := id hC
  generalize hLe : xLM σ = L at hL hL9 ⊢
  generalize hYe : xYM σ = Y at hY hY12 ⊢
  generalize hcne : xcM σ = cn at hcs hcn hc1 hc2 ⊢
  generalize hsne : xsM σ = sn at hss hsn hs1 hs2 ⊢
  refine lv_iload_n hx hb dX9_seen_0 rfl (lv_at hl 1 rfl) ?_
  refine x_cSi (As := [.int x0]) (rest := []) S (c_X9_isSix l x0  ) (x_cwS (n0 := 1) S gX9_seen_X9_isSix rfl (by decide +kernel) ⟨Nat.le_of_ble_eq_true rfl, Nat.le_of_ble_eq_true rfl⟩) rfl hl.1 rfl (Nat.le_of_ble_eq_true rfl) dX9_seen_1 ⟨Nat.le_refl _, Nat.le_refl _⟩ (fun r_1 hr_1 => ?_)
  subst hr_1
  refine x_if_eqB (tgt := 28) S dX9_seen_4 (by decide) (fun c_4 => ?_) (fun c_4 => ?_)
  · refine lv_bipush (v := (-2)) hx hb dX9_seen_28 (by decide) ?_
    exact x_iretW S hlocks hP hS hr rfl (by first | exact ⟨by rw [xp_more, if_neg (fun q => c_4 q.1)], by rw [xst_mseen, if_neg (fun q => c_4 q.1.1)]⟩ | exact ⟨by rw [xp_more, if_neg (fun q => c_13 q.2.1)], by rw [xst_mseen, if_neg (fun q => c_13 q.1.2.1)]⟩ | exact ⟨by rw [xp_more, if_neg (fun q => c_25 ((xtr2 c_13).mpr q.2.2))], by rw [xst_mseen, if_neg (fun q => c_25 ((xtr2 c_13).mpr q.1.2.2))]⟩) dX9_seen_30
  · refine lv_iload_n hx hb dX9_seen_7 rfl (lv_at hl 2 rfl) ?_
    refine lv_iconst (v := nI 0) hx hb dX9_seen_8 (by decide) ?_
    refine lv_iconst (v := nI 1) hx hb dX9_seen_9 (by decide) ?_
    refine x_cSi (As := [.int x1, .int (nI 0), .int (nI 1)]) (rest := []) S (c_X9_in0 l x1 1  (by first | assumption | omega)) (x_cwS (n0 := 3) S gX9_seen_X9_in rfl (by decide +kernel) ⟨Nat.le_of_ble_eq_true rfl, Nat.le_of_ble_eq_true rfl⟩) rfl hl.1 rfl (Nat.le_of_ble_eq_true rfl) dX9_seen_10 ⟨Nat.le_refl _, Nat.le_refl _⟩ (fun r_10 hr_10 => ?_)
    subst hr_10
    refine x_if_eqB (tgt := 28) S dX9_seen_13 (by decide) (fun c_13 => ?_) (fun c_13 => ?_)
    · refine lv_bipush (v := (-2)) hx hb dX9_seen_28 (by decide) ?_
      exact x_iretW S hlocks hP hS hr rfl (by first | exact ⟨by rw [xp_more, if_neg (fun q => c_4 q.1)], by rw [xst_mseen, if_neg (fun q => c_4 q.1.1)]⟩ | exact ⟨by rw [xp_more, if_neg (fun q => c_13 q.2.1)], by rw [xst_mseen, if_neg (fun q => c_13 q.1.2.1)]⟩ | exact ⟨by rw [xp_more, if_neg (fun q => c_25 ((xtr2 c_13).mpr q.2.2))], by rw [xst_mseen, if_neg (fun q => c_25 ((xtr2 c_13).mpr q.1.2.2))]⟩) dX9_seen_30
    · refine lv_iload_n hx hb dX9_seen_16 rfl (lv_at hl 3 rfl) ?_
      refine lv_iconst (v := nI 1) hx hb dX9_seen_17 (by decide) ?_
      refine lv_iload_n hx hb dX9_seen_18 rfl (lv_at hl 2 rfl) ?_
      refine lv_isub hx hb dX9_seen_19 ?_
      refine lv_bipush (v := nI 9) hx hb dX9_seen_20 (by decide) ?_
      refine x_cSi (As := [.int x2, .int ((nI 1) - x1), .int (nI 9)]) (rest := []) S (c_X9_in l x2 ((nI 1) - x1) (nI 9)  ) (x_cwS (n0 := 3) S gX9_seen_X9_in rfl (by decide +kernel) ⟨Nat.le_of_ble_eq_true rfl, Nat.le_of_ble_eq_true rfl⟩) rfl hl.1 rfl (Nat.le_of_ble_eq_true rfl) dX9_seen_22 ⟨Nat.le_refl _, Nat.le_refl _⟩ (fun r_22 hr_22 => ?_)
      subst hr_22
      refine x_if_neB (tgt := 31) S dX9_seen_25 (by decide) (fun c_25 => ?_) (fun c_25 => ?_)
      · refine lv_aload_n hx hb dX9_seen_31 rfl (lv_at hl 0 rfl) ?_
        refine x_get S (fun w h => List.mem_cons_of_mem _ (List.mem_append_right _ h)) hK hP 0 (by omega) rfl rfl 14 (by decide) (List.mem_of_getElem? (i := 1) rfl) rfl dX9_seen_32 ?_
        refine x_top S (y := nI sn) (hss) ?_
        refine lv_bipush (v := nI 8) hx hb dX9_seen_35 (by decide) ?_
        refine x_icmpN_ne (tgt := 43) S dX9_seen_37 (by decide) (by omega) (by omega) (fun c_37 => ?_) (fun c_37 => ?_)
        · refine lv_aload_n hx hb dX9_seen_43 rfl (lv_at hl 0 rfl) ?_
          refine x_get S (fun w h => List.mem_cons_of_mem _ (List.mem_append_right _ h)) hK hP 0 (by omega) rfl rfl 15 (by decide) (List.mem_of_getElem? (i := 2) rfl) rfl dX9_seen_44 ?_
          refine lv_aload_n hx hb dX9_seen_47 rfl (lv_at hl 0 rfl) ?_
          refine x_get S (fun w h => List.mem_cons_of_mem _ (List.mem_append_right _ h)) hK hP 0 (by omega) rfl rfl 14 (by decide) (List.mem_of_getElem? (i := 1) rfl) rfl dX9_seen_48 ?_
          refine x_top S (y := nI sn) (hss) ?_
          refine lv_iload_n hx hb dX9_seen_51 rfl (lv_at hl 1 rfl) ?_
          refine x_iast S hK hP hI hS 12 (by omega) (fun _ => rfl) (by first | assumption | omega) (by omega) dX9_seen_52 (fun H locs hP hS => ?_)
          refine lv_aload_n hx hb dX9_seen_53 rfl (lv_at hl 0 rfl) ?_
          refine x_get S (fun w h => List.mem_cons_of_mem _ (List.mem_append_right _ h)) hK hP 0 (by omega) rfl rfl 16 (by decide) (List.mem_of_getElem? (i := 3) rfl) rfl dX9_seen_54 ?_
          refine lv_aload_n hx hb dX9_seen_57 rfl (lv_at hl 0 rfl) ?_
          refine x_get S (fun w h => List.mem_cons_of_mem _ (List.mem_append_right _ h)) hK hP 0 (by omega) rfl rfl 14 (by decide) (List.mem_of_getElem? (i := 1) rfl) rfl dX9_seen_58 ?_
          refine x_top S (y := nI sn) (by simp (disch := decide) only [xup_n]; exact hss) ?_
          refine lv_iload_n hx hb dX9_seen_61 rfl (lv_at hl 2 rfl) ?_
          refine x_iast S hK hP hI hS 13 (by omega) (fun _ => rfl) (by first | assumption | omega) (by omega) dX9_seen_62 (fun H locs hP hS => ?_)
          refine lv_aload_n hx hb dX9_seen_63 rfl (lv_at hl 0 rfl) ?_
          refine x_get S (fun w h => List.mem_cons_of_mem _ (List.mem_append_right _ h)) hK hP 0 (by omega) rfl rfl 17 (by decide) (List.mem_of_getElem? (i := 4) rfl) rfl dX9_seen_64 ?_
          refine lv_aload_n hx hb dX9_seen_67 rfl (lv_at hl 0 rfl) ?_
          refine x_get S (fun w h => List.mem_cons_of_mem _ (List.mem_append_right _ h)) hK hP 0 (by omega) rfl rfl 14 (by decide) (List.mem_of_getElem? (i := 1) rfl) rfl dX9_seen_68 ?_
          refine x_top S (y := nI sn) (by simp (disch := decide) only [xup_n]; exact hss) ?_
          refine lv_iload_n hx hb dX9_seen_71 rfl (lv_at hl 3 rfl) ?_
          refine x_iast S hK hP hI hS 14 (by omega) (fun _ => rfl) (by first | assumption | omega) (by omega) dX9_seen_72 (fun H locs hP hS => ?_)
          refine lv_aload_n hx hb dX9_seen_73 rfl (lv_at hl 0 rfl) ?_
          refine lv_dup hx hb dX9_seen_74 rfl ?_
          refine x_get S (fun w h => List.mem_cons_of_mem _ (List.mem_append_right _ h)) hK hP 0 (by omega) rfl rfl 14 (by decide) (List.mem_of_getElem? (i := 1) rfl) rfl dX9_seen_75 ?_
          refine x_top S (y := nI sn) (by simp (disch := decide) only [xup_n]; exact hss) ?_
          refine lv_iconst (v := nI 1) hx hb dX9_seen_78 (by decide) ?_
          refine x_iaddN S dX9_seen_79 ?_
          refine x_put S (fun w h => List.mem_cons_of_mem _ (List.mem_append_right _ h)) tyX9 tyX9_ok nmX9 hK hP hI hS 0 (by omega) rfl rfl 14 (by decide) (List.mem_of_getElem? (i := 1) rfl) rfl (ty := .int) (v := .int (nI (sn + 1))) (by decide +kernel) rfl rfl (Nat.le_of_ble_eq_true rfl) (upd ((va_up (va_up (va_up σ 12 (upd (σ 12) sn x0)) 13 (upd ((va_up σ 12 (upd (σ 12) sn x0)) 13) sn x1)) 14 (upd ((va_up (va_up σ 12 (upd (σ 12) sn x0)) 13 (upd ((va_up σ 12 (upd (σ 12) sn x0)) 13) sn x1)) 14) sn x2)) 0) 14 (nI (sn + 1))) rfl dX9_seen_80 (fun H locs hP hS => ?_)
          have hP : va_P D vwCl (xw 20 α (xM α K) (xst_msg σ sn x0 x1 x2)) H := by
            rw [show xst_msg σ sn x0 x1 x2 = (va_up (va_up (va_up (va_up σ 12 (upd (σ 12) sn x0)) 13 (upd ((va_up σ 12 (upd (σ 12) sn x0)) 13) sn x1)) 14 (upd ((va_up (va_up σ 12 (upd (σ 12) sn x0)) 13 (upd ((va_up σ 12 (upd (σ 12) sn x0)) 13) sn x1)) 14) sn x2)) 0 (upd ((va_up (va_up (va_up σ 12 (upd (σ 12) sn x0)) 13 (upd ((va_up σ 12 (upd (σ 12) sn x0)) 13) sn x1)) 14 (upd ((va_up (va_up σ 12 (upd (σ 12) sn x0)) 13 (upd ((va_up σ 12 (upd (σ 12) sn x0)) 13) sn x1)) 14) sn x2)) 0) 14 (nI (sn + 1)))) from by unfold xst_msg; simp (disch := decide) only [xup_n]]; exact hP
          refine lv_aload_n hx hb dX9_seen_83 rfl (lv_at hl 0 rfl) ?_
          refine x_get S (fun w h => List.mem_cons_of_mem _ (List.mem_append_right _ h)) hK hP 0 (by omega) rfl rfl 14 (by decide) (List.mem_of_getElem? (i := 1) rfl) rfl dX9_seen_84 ?_
          refine x_top S (y := nI (sn + 1)) (by unfold xst_msg; rw [xup_s, pk_us]) ?_
          exact x_iretW S hlocks hP hS hr rfl (⟨by rw [xp_more, if_pos ⟨c_4, c_13, (xtr2 c_13).mp c_25⟩, if_pos (by omega)], by rw [xst_mseen, hsne, if_pos ⟨⟨c_4, c_13, (xtr2 c_13).mp c_25⟩, by omega⟩]⟩) dX9_seen_87
        · refine lv_bipush (v := (-4)) hx hb dX9_seen_40 (by decide) ?_
          exact x_iretW S hlocks hP hS hr rfl (⟨by rw [xp_more, if_pos ⟨c_4, c_13, (xtr2 c_13).mp c_25⟩, if_neg (by omega)], by rw [xst_mseen, if_neg (fun q => by have := q.2; omega)]⟩) dX9_seen_42
      · refine lv_bipush (v := (-2)) hx hb dX9_seen_28 (by decide) ?_
        exact x_iretW S hlocks hP hS hr rfl (by first | exact ⟨by rw [xp_more, if_neg (fun q => c_4 q.1)], by rw [xst_mseen, if_neg (fun q => c_4 q.1.1)]⟩ | exact ⟨by rw [xp_more, if_neg (fun q => c_13 q.2.1)], by rw [xst_mseen, if_neg (fun q => c_13 q.1.2.1)]⟩ | exact ⟨by rw [xp_more, if_neg (fun q => c_25 ((xtr2 c_13).mpr q.2.2))], by rw [xst_mseen, if_neg (fun q => c_25 ((xtr2 c_13).mpr q.1.2.2))]⟩) dX9_seen_30
set_option maxHeartbeats 4000000 in
set_option maxRecDepth 100000 in
theorem c_X9_owedOf (l : Launch) {D : va_G} {K : Nat → ClassId} {α : Nat → Nat} (σ : Nat → Nat → Int32) (hI : xw_I 20 α) (h : Nat) (law : Nat)  (hC : xIM σ) (hh : h < 6) (hlaw : law < 3) : Met l yX9_owedOf wsX9_owedOf (xrm 3) (va_Pc [.ref (α 0), .int (nI h), .int (nI law)] (xPre D K 20 α (xM α K) σ)) (xQi D 20 α (xM α K) (fun r τ => r = xs_owed (σ 6) (xYM σ) (σ 9) (σ 10) (σ 11) h law (xcM σ) ∧ xMs σ τ)) 0 0 (xw_R 20 α) := by
  refine Met.ofW (cc := cX9_owedOf) (maxL := 7) (ret := (some .int)) (by decide) rfl ?_
  intro p e s m args below meth c s₁ B hml hv
  obtain ⟨rfl, hK, hP⟩ := hv
  have S : CallFix p m c cX9_owedOf 7 s _ wsX9_owedOf RX9 := ⟨B.exec, B.bytes, hml, findClass_of_methodNamed B.named, atoms_spec (ws := wsX9_owedOf) B.pre⟩
  have hx := S.1
  have hb := S.2.1
  have hr := B.returns
  have hlocks := B.notSynchronized
  have hS : va_S (xw_R 20 α) s.heap s.heap [] := va_S.rf
  have hl := lv_entry ([.ref (α 0), .int (nI h), .int (nI law)]) (n := 7) (Nat.le_of_ble_eq_true rfl)
  rw [lg_entry_eq]
  generalize (lg_sl ([.ref (α 0), .int (nI h), .int (nI law)]) ++ List.replicate (7 - (lg_sl ([.ref (α 0), .int (nI h), .int (nI law)])).length) Slot.unset).toArray = ls at hl ⊢
  have hl : lv_has ls 7 [(0, .ref (α 0)), (1, .int (nI h)), (2, .int (nI law))] := hl
  have hPP := hP
  have hY := xIM_Y hC
  have hY12 := xIM_12 hC
  obtain ⟨⟨hL, hL9⟩, ⟨hcs, hcn, hc1, hc2⟩, ⟨hss, hsn, hs1, hs2⟩, hfe, hsh⟩ := id hC
  generalize hLe : xLM σ = L at hL hL9 ⊢
  generalize hYe : xYM σ = Y at hY hY12 ⊢
  generalize hcne : xcM σ = cn at hcs hcn hc1 hc2 ⊢
  generalize hsne : xsM σ = sn at hss hsn hs1 hs2 ⊢
  refine lv_aload_n hx hb dX9_owedOf_0 rfl (lv_at hl 0 rfl) ?_
  refine x_cVWi (As := []) (rest := []) S hK hP hS (fun _ h => h) 0 (by omega) rfl rfl (c_X9_faultNow l σ hI   (by first | assumption | omega)) (x_cwV (n0 := 0) (cq := (RX9, TX9, 24)) S gX9_owedOf_X9_faultNow rfl (by decide +kernel) ⟨Nat.le_of_ble_eq_true rfl, Nat.le_of_ble_eq_true rfl⟩) rfl hl.1 rfl (Nat.le_of_ble_eq_true rfl) dX9_owedOf_1 ⟨Nat.le_refl _, Nat.le_refl _⟩ (fun r_1 τ_1 H locs hr_1 hP hk_1 hS => ?_)
  obtain ⟨hr_1, hms_1, hbk_1⟩ := hr_1
  subst hr_1
  obtain ⟨hyr, hbk⟩ := xBk_of hms_1 hbk_1
  have eF := xMs_F hms_1
  have e6 : τ_1 6 = σ 6 := xMs_k hms_1 (by decide)
  have hC2 := xMs_IM hms_1 hC
  have e9 : τ_1 9 = σ 9 := xMs_k hms_1 (by decide)
  have e10 : τ_1 10 = σ 10 := xMs_k hms_1 (by decide)
  have e11 : τ_1 11 = σ 11 := xMs_k hms_1 (by decide)
  rw [hYe] at hyr hbk
  refine lv_istore_n (lv' := [(3, .int (xt_fault (σ 6) (xLM σ))), (0, .ref (α 0)), (1, .int (nI h)), (2, .int (nI law))]) hx hb dX9_owedOf_4 rfl hl (by decide) rfl (fun ls hl => ?_)
  refine lv_iconst (v := nI 0) hx hb dX9_owedOf_5 (by decide) ?_
  refine lv_istore (lv' := [(4, .int (nI 0)), (3, .int (xt_fault (σ 6) (xLM σ))), (0, .ref (α 0)), (1, .int (nI h)), (2, .int (nI law))]) hx hb dX9_owedOf_6 hl (by decide) rfl (fun ls hl => ?_)
  refine lv_iconst (v := nI 0) hx hb dX9_owedOf_8 (by decide) ?_
  refine lv_istore (lv' := [(5, .int (nI 0)), (4, .int (nI 0)), (3, .int (xt_fault (σ 6) (xLM σ))), (0, .ref (α 0)), (1, .int (nI h)), (2, .int (nI law))]) hx hb dX9_owedOf_9 hl (by decide) rfl (fun ls hl => ?_)
  refine x_loopW (ι := Nat) (fun i H locs ls => (i ≤ cn) ∧ lv_has ls 7 [(5, .int (nI i)), (4, .int (xs_owed (σ 6) Y (σ 9) (σ 10) (σ 11) h law i)), (3, .int (xt_fault (σ 6) (xLM σ))), (0, .ref (α 0)), (1, .int (nI h)), (2, .int (nI law))] ∧ va_P D vwCl (xw 20 α (xM α K) τ_1) H ∧ va_S (xw_R 20 α) s.heap H locs) (fun i => cn - i) ?_ 0 ls ⟨Nat.zero_le _, lv_sub hl [0, 1, 2, 3, 4, 5] rfl, hP, hS⟩
  intro i H locs ls hinv ih_11
  obtain ⟨hi, hl, hP, hS⟩ := hinv
  have hl : lv_has ls 7 [(5, .int (nI i)), (4, .int (xs_owed (σ 6) Y (σ 9) (σ 10) (σ 11) h law i)), (3, .int (xt_fault (σ 6) (xLM σ))), (0, .ref (α 0)), (1, .int (nI h)), (2, .int (nI law))] := hl
  have hP : va_P D vwCl (xw 20 α (xM α K) τ_1) H := hP
  refine lv_iload hx hb dX9_owedOf_11 (lv_at hl 0 rfl) ?_
  refine lv_aload_n hx hb dX9_owedOf_13 rfl (lv_at hl 3 rfl) ?_
  refine x_get S (fun w h => List.mem_cons_of_mem _ (List.mem_append_right _ h)) hK hP 0 (by omega) rfl rfl 10 (by decide) (List.mem_of_getElem? (i := 1) rfl) rfl dX9_owedOf_14 ?_
  refine x_top S (y := nI cn) (by rw [hms_1.2 10 (by decide)]; exact hcs) ?_
  refine x_icmpN_ge (tgt := 142) S dX9_owedOf_17 (by decide) (by omega) (by omega) (fun c_17 => ?_) (fun c_17 => ?_)
  · have e8 : i = cn := by omega
    subst e8
    refine lv_iload hx hb dX9_owedOf_142 (lv_at hl 1 rfl) ?_
    exact x_iretW S hlocks hP hS hr rfl (⟨rfl, hms_1⟩) dX9_owedOf_144
  · have hq1 := hc1 i (by omega)
    have hq2 := hc2 i (by omega)
    refine lv_aload_n hx hb dX9_owedOf_20 rfl (lv_at hl 3 rfl) ?_
    refine x_get S (fun w h => List.mem_cons_of_mem _ (List.mem_append_right _ h)) hK hP 0 (by omega) rfl rfl 12 (by decide) (List.mem_of_getElem? (i := 2) rfl) rfl dX9_owedOf_21 ?_
    refine lv_iload hx hb dX9_owedOf_24 (lv_at hl 0 rfl) ?_
    refine x_iald S hK hP 10 (by omega) rfl (by first | assumption | omega) (by omega) dX9_owedOf_26 ?_
    refine x_top S (y := nI (xnat (σ 10) i)) (by rw [e10]; exact hq2.2) ?_
    refine lv_aload_n hx hb dX9_owedOf_27 rfl (lv_at hl 3 rfl) ?_
    refine x_get S (fun w h => List.mem_cons_of_mem _ (List.mem_append_right _ h)) hK hP 0 (by omega) rfl rfl 7 (by decide) (List.mem_of_getElem? (i := 3) rfl) rfl dX9_owedOf_28 ?_
    refine x_top S (y := nI Y) (hyr) ?_
    refine x_icmpN_ge (tgt := 136) S dX9_owedOf_31 (by decide) (by omega) (by omega) (fun c_31 => ?_) (fun c_31 => ?_)
    · refine lv_iinc (v := nI (i + 1)) (lv' := [(5, .int (nI (i + 1))), (4, .int (xs_owed (σ 6) Y (σ 9) (σ 10) (σ 11) h law i)), (3, .int (xt_fault (σ 6) (xLM σ))), (0, .ref (α 0)), (1, .int (nI h)), (2, .int (nI law))]) hx hb dX9_owedOf_136 hl (k := 0) rfl (nI_add i 1) (by decide) rfl (fun ls hl => ?_)
      refine lv_goto (tgt := 11) hx hb dX9_owedOf_139 (by decide) ?_
      exact ih_11 (i + 1) H locs ls ⟨(by omega), (by have h9 := lv_sub (l' := [(5, .int (nI (i + 1))), (4, .int (xs_owed (σ 6) Y (σ 9) (σ 10) (σ 11) h law i)), (3, .int (xt_fault (σ 6) (xLM σ))), (0, .ref (α 0)), (1, .int (nI h)), (2, .int (nI law))]) hl [0, 1, 2, 3, 4, 5] rfl; rw [show xs_owed (σ 6) Y (σ 9) (σ 10) (σ 11) h law i = xs_owed (σ 6) Y (σ 9) (σ 10) (σ 11) h law (i + 1) from by rw [xs_owed]; first | rw [if_neg (by omega)] | (rw [if_pos c_31, if_pos c_78, if_pos c_116] <;> rfl) | (rw [if_pos c_31, if_pos c_78, if_neg c_116] <;> rfl) | (rw [if_pos c_31, if_neg c_78, if_pos c_116] <;> rfl) | (rw [if_pos c_31, if_neg c_78, if_neg c_116] <;> rfl)] at h9; exact h9), hP, hS⟩ (by (try dsimp only); omega)
    · refine lv_iload_n hx hb dX9_owedOf_34 rfl (lv_at hl 5 rfl) ?_
      refine x_ifN_ne (tgt := 48) S dX9_owedOf_35 (by decide) (by omega) (fun c_35 => ?_) (fun c_35 => ?_)
      · refine lv_iload_n hx hb dX9_owedOf_48 rfl (lv_at hl 5 rfl) ?_
        refine lv_iconst (v := nI 1) hx hb dX9_owedOf_49 (by decide) ?_
        refine x_icmpN_ne (tgt := 57) S dX9_owedOf_50 (by decide) (by omega) (by omega) (fun c_50 => ?_) (fun c_50 => ?_)
        · refine lv_aload_n hx hb dX9_owedOf_57 rfl (lv_at hl 3 rfl) ?_
          refine x_get S (fun w h => List.mem_cons_of_mem _ (List.mem_append_right _ h)) hK hP 0 (by omega) rfl rfl 13 (by decide) (List.mem_of_getElem? (i := 4) rfl) rfl dX9_owedOf_58 ?_
          refine lv_iload hx hb dX9_owedOf_61 (lv_at hl 0 rfl) ?_
          refine x_iald S hK hP 11 (by omega) rfl (by first | assumption | omega) (by omega) dX9_owedOf_63 ?_
          refine lv_iconst (v := nI 2) hx hb dX9_owedOf_64 (by decide) ?_
          refine lv_idiv hx hb dX9_owedOf_65 (by decide) ?_
          refine x_top S (y := xs_share (σ 11 i) law) (by rw [e11]; exact ((if_neg (by omega)).trans (if_neg c_50)).symm) ?_
          refine lv_istore (lv' := [(6, .int (xs_share (σ 11 i) law)), (5, .int (nI i)), (4, .int (xs_owed (σ 6) Y (σ 9) (σ 10) (σ 11) h law i)), (3, .int (xt_fault (σ 6) (xLM σ))), (0, .ref (α 0)), (1, .int (nI h)), (2, .int (nI law))]) hx hb dX9_owedOf_66 hl (by decide) rfl (fun ls hl => ?_)
          refine lv_iload hx hb dX9_owedOf_68 (lv_at hl 2 rfl) ?_
          refine lv_aload_n hx hb dX9_owedOf_70 rfl (lv_at hl 4 rfl) ?_
          refine x_get S (fun w h => List.mem_cons_of_mem _ (List.mem_append_right _ h)) hK hP 0 (by omega) rfl rfl 11 (by decide) (List.mem_of_getElem? (i := 5) rfl) rfl dX9_owedOf_71 ?_
          refine lv_iload hx hb dX9_owedOf_74 (lv_at hl 1 rfl) ?_
          refine x_iald S hK hP 9 (by omega) rfl (by first | assumption | omega) (by omega) dX9_owedOf_76 ?_
          refine x_top S (y := nI (xnat (σ 9) i)) (by rw [e9]; exact hq1.2) ?_
          refine lv_iload_n hx hb dX9_owedOf_77 rfl (lv_at hl 5 rfl) ?_
          refine x_icmpN_ne (tgt := 86) S dX9_owedOf_78 (by decide) (by omega) (by omega) (fun c_78 => ?_) (fun c_78 => ?_)
          · refine lv_iconst (v := nI 0) hx hb dX9_owedOf_86 (by decide) ?_
            refine lv_iadd hx hb dX9_owedOf_87 ?_
            refine lv_istore (lv' := [(4, .int ((xs_owed (σ 6) Y (σ 9) (σ 10) (σ 11) h law i) + (nI 0))), (6, .int (xs_share (σ 11 i) law)), (5, .int (nI i)), (3, .int (xt_fault (σ 6) (xLM σ))), (0, .ref (α 0)), (1, .int (nI h)), (2, .int (nI law))]) hx hb dX9_owedOf_88 hl (by decide) rfl (fun ls hl => ?_)
            refine lv_iload hx hb dX9_owedOf_90 (lv_at hl 0 rfl) ?_
            refine lv_aload_n hx hb dX9_owedOf_92 rfl (lv_at hl 4 rfl) ?_
            refine x_get S (fun w h => List.mem_cons_of_mem _ (List.mem_append_right _ h)) hK hP 0 (by omega) rfl rfl 8 (by decide) (List.mem_of_getElem? (i := 6) rfl) rfl dX9_owedOf_93 ?_
            refine lv_bipush (v := nI 6) hx hb dX9_owedOf_96 (by decide) ?_
            refine lv_aload_n hx hb dX9_owedOf_98 rfl (lv_at hl 4 rfl) ?_
            refine x_get S (fun w h => List.mem_cons_of_mem _ (List.mem_append_right _ h)) hK hP 0 (by omega) rfl rfl 12 (by decide) (List.mem_of_getElem? (i := 2) rfl) rfl dX9_owedOf_99 ?_
            refine lv_iload hx hb dX9_owedOf_102 (lv_at hl 2 rfl) ?_
            refine x_iald S hK hP 10 (by omega) rfl (by first | assumption | omega) (by omega) dX9_owedOf_104 ?_
            refine x_top S (y := nI (xnat (σ 10) i)) (by rw [e10]; exact hq2.2) ?_
            refine x_imulN S dX9_owedOf_105 ?_
            refine lv_aload_n hx hb dX9_owedOf_106 rfl (lv_at hl 4 rfl) ?_
            refine x_get S (fun w h => List.mem_cons_of_mem _ (List.mem_append_right _ h)) hK hP 0 (by omega) rfl rfl 11 (by decide) (List.mem_of_getElem? (i := 5) rfl) rfl dX9_owedOf_107 ?_
            refine lv_iload hx hb dX9_owedOf_110 (lv_at hl 2 rfl) ?_
            refine x_iald S hK hP 9 (by omega) rfl (by first | assumption | omega) (by omega) dX9_owedOf_112 ?_
            refine x_top S (y := nI (xnat (σ 9) i)) (by rw [e9]; exact hq1.2) ?_
            refine x_iaddN S dX9_owedOf_113 ?_
            refine x_iald S hK hP 7 (by omega) rfl (by first | assumption | omega) (by omega) dX9_owedOf_114 ?_
            refine x_top S (y := nI (xnm (σ 6) (xnat (σ 10) i) (xnat (σ 9) i))) (hbk _ c_31 _ hq1.1) ?_
            refine lv_iload_n hx hb dX9_owedOf_115 rfl (lv_at hl 5 rfl) ?_
            have hq3 := (hY _ c_31 _ hq1.1).1
            refine x_icmpN_ne (tgt := 132) S dX9_owedOf_116 (by decide) (by omega) (by omega) (fun c_116 => ?_) (fun c_116 => ?_)
            · refine lv_iconst (v := nI 0) hx hb dX9_owedOf_132 (by decide) ?_
              refine lv_iadd hx hb dX9_owedOf_133 ?_
              refine lv_istore (lv' := [(4, .int (((xs_owed (σ 6) Y (σ 9) (σ 10) (σ 11) h law i) + (nI 0)) + (nI 0))), (6, .int (xs_share (σ 11 i) law)), (5, .int (nI i)), (3, .int (xt_fault (σ 6) (xLM σ))), (0, .ref (α 0)), (1, .int (nI h)), (2, .int (nI law))]) hx hb dX9_owedOf_134 hl (by decide) rfl (fun ls hl => ?_)
              refine lv_iinc (v := nI (i + 1)) (lv' := [(5, .int (nI (i + 1))), (4, .int (((xs_owed (σ 6) Y (σ 9) (σ 10) (σ 11) h law i) + (nI 0)) + (nI 0))), (6, .int (xs_share (σ 11 i) law)), (3, .int (xt_fault (σ 6) (xLM σ))), (0, .ref (α 0)), (1, .int (nI h)), (2, .int (nI law))]) hx hb dX9_owedOf_136 hl (k := 2) rfl (nI_add i 1) (by decide) rfl (fun ls hl => ?_)
              refine lv_goto (tgt := 11) hx hb dX9_owedOf_139 (by decide) ?_
              exact ih_11 (i + 1) H locs ls ⟨(by omega), (by have h9 := lv_sub (l' := [(5, .int (nI (i + 1))), (4, .int (((xs_owed (σ 6) Y (σ 9) (σ 10) (σ 11) h law i) + (nI 0)) + (nI 0))), (3, .int (xt_fault (σ 6) (xLM σ))), (0, .ref (α 0)), (1, .int (nI h)), (2, .int (nI law))]) hl [0, 1, 3, 4, 5, 6] rfl; rw [show ((xs_owed (σ 6) Y (σ 9) (σ 10) (σ 11) h law i) + (nI 0)) + (nI 0) = xs_owed (σ 6) Y (σ 9) (σ 10) (σ 11) h law (i + 1) from by rw [xs_owed]; first | rw [if_neg (by omega)] | (rw [if_pos c_31, if_pos c_78, if_pos c_116] <;> rfl) | (rw [if_pos c_31, if_pos c_78, if_neg c_116] <;> rfl) | (rw [if_pos c_31, if_neg c_78, if_pos c_116] <;> rfl) | (rw [if_pos c_31, if_neg c_78, if_neg c_116] <;> rfl)] at h9; exact h9), hP, hS⟩ (by (try dsimp only); omega)
            · refine lv_aload_n hx hb dX9_owedOf_119 rfl (lv_at hl 4 rfl) ?_
              refine x_get S (fun w h => List.mem_cons_of_mem _ (List.mem_append_right _ h)) hK hP 0 (by omega) rfl rfl 13 (by decide) (List.mem_of_getElem? (i := 4) rfl) rfl dX9_owedOf_120 ?_
              refine lv_iload hx hb dX9_owedOf_123 (lv_at hl 2 rfl) ?_
              refine x_iald S hK hP 11 (by omega) rfl (by first | assumption | omega) (by omega) dX9_owedOf_125 ?_
              refine x_top S (y := σ 11 i) (by rw [e11]) ?_
              refine lv_iload hx hb dX9_owedOf_126 (lv_at hl 1 rfl) ?_
              refine lv_isub hx hb dX9_owedOf_128 ?_
              refine lv_goto (tgt := 133) hx hb dX9_owedOf_129 (by decide) ?_
              refine lv_iadd hx hb dX9_owedOf_133 ?_
              refine lv_istore (lv' := [(4, .int (((xs_owed (σ 6) Y (σ 9) (σ 10) (σ 11) h law i) + (nI 0)) + ((σ 11 i) - (xs_share (σ 11 i) law)))), (6, .int (xs_share (σ 11 i) law)), (5, .int (nI i)), (3, .int (xt_fault (σ 6) (xLM σ))), (0, .ref (α 0)), (1, .int (nI h)), (2, .int (nI law))]) hx hb dX9_owedOf_134 hl (by decide) rfl (fun ls hl => ?_)
              refine lv_iinc (v := nI (i + 1)) (lv' := [(5, .int (nI (i + 1))), (4, .int (((xs_owed (σ 6) Y (σ 9) (σ 10) (σ 11) h law i) + (nI 0)) + ((σ 11 i) - (xs_share (σ 11 i) law)))), (6, .int (xs_share (σ 11 i) law)), (3, .int (xt_fault (σ 6) (xLM σ))), (0, .ref (α 0)), (1, .int (nI h)), (2, .int (nI law))]) hx hb dX9_owedOf_136 hl (k := 2) rfl (nI_add i 1) (by decide) rfl (fun ls hl => ?_)
              refine lv_goto (tgt := 11) hx hb dX9_owedOf_139 (by decide) ?_
              exact ih_11 (i + 1) H locs ls ⟨(by omega), (by have h9 := lv_sub (l' := [(5, .int (nI (i + 1))), (4, .int (((xs_owed (σ 6) Y (σ 9) (σ 10) (σ 11) h law i) + (nI 0)) + ((σ 11 i) - (xs_share (σ 11 i) law)))), (3, .int (xt_fault (σ 6) (xLM σ))), (0, .ref (α 0)), (1, .int (nI h)), (2, .int (nI law))]) hl [0, 1, 3, 4, 5, 6] rfl; rw [show ((xs_owed (σ 6) Y (σ 9) (σ 10) (σ 11) h law i) + (nI 0)) + ((σ 11 i) - (xs_share (σ 11 i) law)) = xs_owed (σ 6) Y (σ 9) (σ 10) (σ 11) h law (i + 1) from by rw [xs_owed]; first | rw [if_neg (by omega)] | (rw [if_pos c_31, if_pos c_78, if_pos c_116] <;> rfl) | (rw [if_pos c_31, if_pos c_78, if_neg c_116] <;> rfl) | (rw [if_pos c_31, if_neg c_78, if_pos c_116] <;> rfl) | (rw [if_pos c_31, if_neg c_78, if_neg c_116] <;> rfl)] at h9; exact h9), hP, hS⟩ (by (try dsimp only); omega)
          · refine lv_iload hx hb dX9_owedOf_81 (lv_at hl 0 rfl) ?_
            refine lv_goto (tgt := 87) hx hb dX9_owedOf_83 (by decide) ?_
            refine lv_iadd hx hb dX9_owedOf_87 ?_
            refine lv_istore (lv' := [(4, .int ((xs_owed (σ 6) Y (σ 9) (σ 10) (σ 11) h law i) + (xs_share (σ 11 i) law))), (6, .int (xs_share (σ 11 i) law)), (5, .int (nI i)), (3, .int (xt_fault (σ 6) (xLM σ))), (0, .ref (α 0)), (1, .int (nI h)), (2, .int (nI law))]) hx hb dX9_owedOf_88 hl (by decide) rfl (fun ls hl => ?_)
            refine lv_iload hx hb dX9_owedOf_90 (lv_at hl 0 rfl) ?_
            refine lv_aload_n hx hb dX9_owedOf_92 rfl (lv_at hl 4 rfl) ?_
            refine x_get S (fun w h => List.mem_cons_of_mem _ (List.mem_append_right _ h)) hK hP 0 (by omega) rfl rfl 8 (by decide) (List.mem_of_getElem? (i := 6) rfl) rfl dX9_owedOf_93 ?_
            refine lv_bipush (v := nI 6) hx hb dX9_owedOf_96 (by decide) ?_
            refine lv_aload_n hx hb dX9_owedOf_98 rfl (lv_at hl 4 rfl) ?_
            refine x_get S (fun w h => List.mem_cons_of_mem _ (List.mem_append_right _ h)) hK hP 0 (by omega) rfl rfl 12 (by decide) (List.mem_of_getElem? (i := 2) rfl) rfl dX9_owedOf_99 ?_
            refine lv_iload hx hb dX9_owedOf_102 (lv_at hl 2 rfl) ?_
            refine x_iald S hK hP 10 (by omega) rfl (by first | assumption | omega) (by omega) dX9_owedOf_104 ?_
            refine x_top S (y := nI (xnat (σ 10) i)) (by rw [e10]; exact hq2.2) ?_
            refine x_imulN S dX9_owedOf_105 ?_
            refine lv_aload_n hx hb dX9_owedOf_106 rfl (lv_at hl 4 rfl) ?_
            refine x_get S (fun w h => List.mem_cons_of_mem _ (List.mem_append_right _ h)) hK hP 0 (by omega) rfl rfl 11 (by decide) (List.mem_of_getElem? (i := 5) rfl) rfl dX9_owedOf_107 ?_
            refine lv_iload hx hb dX9_owedOf_110 (lv_at hl 2 rfl) ?_
            refine x_iald S hK hP 9 (by omega) rfl (by first | assumption | omega) (by omega) dX9_owedOf_112 ?_
            refine x_top S (y := nI (xnat (σ 9) i)) (by rw [e9]; exact hq1.2) ?_
            refine x_iaddN S dX9_owedOf_113 ?_
            refine x_iald S hK hP 7 (by omega) rfl (by first | assumption | omega) (by omega) dX9_owedOf_114 ?_
            refine x_top S (y := nI (xnm (σ 6) (xnat (σ 10) i) (xnat (σ 9) i))) (hbk _ c_31 _ hq1.1) ?_
            refine lv_iload_n hx hb dX9_owedOf_115 rfl (lv_at hl 5 rfl) ?_
            have hq3 := (hY _ c_31 _ hq1.1).1
            refine x_icmpN_ne (tgt := 132) S dX9_owedOf_116 (by decide) (by omega) (by omega) (fun c_116 => ?_) (fun c_116 => ?_)
            · refine lv_iconst (v := nI 0) hx hb dX9_owedOf_132 (by decide) ?_
              refine lv_iadd hx hb dX9_owedOf_133 ?_
              refine lv_istore (lv' := [(4, .int (((xs_owed (σ 6) Y (σ 9) (σ 10) (σ 11) h law i) + (xs_share (σ 11 i) law)) + (nI 0))), (6, .int (xs_share (σ 11 i) law)), (5, .int (nI i)), (3, .int (xt_fault (σ 6) (xLM σ))), (0, .ref (α 0)), (1, .int (nI h)), (2, .int (nI law))]) hx hb dX9_owedOf_134 hl (by decide) rfl (fun ls hl => ?_)
              refine lv_iinc (v := nI (i + 1)) (lv' := [(5, .int (nI (i + 1))), (4, .int (((xs_owed (σ 6) Y (σ 9) (σ 10) (σ 11) h law i) + (xs_share (σ 11 i) law)) + (nI 0))), (6, .int (xs_share (σ 11 i) law)), (3, .int (xt_fault (σ 6) (xLM σ))), (0, .ref (α 0)), (1, .int (nI h)), (2, .int (nI law))]) hx hb dX9_owedOf_136 hl (k := 2) rfl (nI_add i 1) (by decide) rfl (fun ls hl => ?_)
              refine lv_goto (tgt := 11) hx hb dX9_owedOf_139 (by decide) ?_
              exact ih_11 (i + 1) H locs ls ⟨(by omega), (by have h9 := lv_sub (l' := [(5, .int (nI (i + 1))), (4, .int (((xs_owed (σ 6) Y (σ 9) (σ 10) (σ 11) h law i) + (xs_share (σ 11 i) law)) + (nI 0))), (3, .int (xt_fault (σ 6) (xLM σ))), (0, .ref (α 0)), (1, .int (nI h)), (2, .int (nI law))]) hl [0, 1, 3, 4, 5, 6] rfl; rw [show ((xs_owed (σ 6) Y (σ 9) (σ 10) (σ 11) h law i) + (xs_share (σ 11 i) law)) + (nI 0) = xs_owed (σ 6) Y (σ 9) (σ 10) (σ 11) h law (i + 1) from by rw [xs_owed]; first | rw [if_neg (by omega)] | (rw [if_pos c_31, if_pos c_78, if_pos c_116] <;> rfl) | (rw [if_pos c_31, if_pos c_78, if_neg c_116] <;> rfl) | (rw [if_pos c_31, if_neg c_78, if_pos c_116] <;> rfl) | (rw [if_pos c_31, if_neg c_78, if_neg c_116] <;> rfl)] at h9; exact h9), hP, hS⟩ (by (try dsimp only); omega)
            · refine lv_aload_n hx hb dX9_owedOf_119 rfl (lv_at hl 4 rfl) ?_
              refine x_get S (fun w h => List.mem_cons_of_mem _ (List.mem_append_right _ h)) hK hP 0 (by omega) rfl rfl 13 (by decide) (List.mem_of_getElem? (i := 4) rfl) rfl dX9_owedOf_120 ?_
              refine lv_iload hx hb dX9_owedOf_123 (lv_at hl 2 rfl) ?_
              refine x_iald S hK hP 11 (by omega) rfl (by first | assumption | omega) (by omega) dX9_owedOf_125 ?_
              refine x_top S (y := σ 11 i) (by rw [e11]) ?_
              refine lv_iload hx hb dX9_owedOf_126 (lv_at hl 1 rfl) ?_
              refine lv_isub hx hb dX9_owedOf_128 ?_
              refine lv_goto (tgt := 133) hx hb dX9_owedOf_129 (by decide) ?_
              refine lv_iadd hx hb dX9_owedOf_133 ?_
              refine lv_istore (lv' := [(4, .int (((xs_owed (σ 6) Y (σ 9) (σ 10) (σ 11) h law i) + (xs_share (σ 11 i) law)) + ((σ 11 i) - (xs_share (σ 11 i) law)))), (6, .int (xs_share (σ 11 i) law)), (5, .int (nI i)), (3, .int (xt_fault (σ 6) (xLM σ))), (0, .ref (α 0)), (1, .int (nI h)), (2, .int (nI law))]) hx hb dX9_owedOf_134 hl (by decide) rfl (fun ls hl => ?_)
              refine lv_iinc (v := nI (i + 1)) (lv' := [(5, .int (nI (i + 1))), (4, .int (((xs_owed (σ 6) Y (σ 9) (σ 10) (σ 11) h law i) + (xs_share (σ 11 i) law)) + ((σ 11 i) - (xs_share (σ 11 i) law)))), (6, .int (xs_share (σ 11 i) law)), (3, .int (xt_fault (σ 6) (xLM σ))), (0, .ref (α 0)), (1, .int (nI h)), (2, .int (nI law))]) hx hb dX9_owedOf_136 hl (k := 2) rfl (nI_add i 1) (by decide) rfl (fun ls hl => ?_)
              refine lv_goto (tgt := 11) hx hb dX9_owedOf_139 (by decide) ?_
              exact ih_11 (i + 1) H locs ls ⟨(by omega), (by have h9 := lv_sub (l' := [(5, .int (nI (i + 1))), (4, .int (((xs_owed (σ 6) Y (σ 9) (σ 10) (σ 11) h law i) + (xs_share (σ 11 i) law)) + ((σ 11 i) - (xs_share (σ 11 i) law)))), (3, .int (xt_fault (σ 6) (xLM σ))), (0, .ref (α 0)), (1, .int (nI h)), (2, .int (nI law))]) hl [0, 1, 3, 4, 5, 6] rfl; rw [show ((xs_owed (σ 6) Y (σ 9) (σ 10) (σ 11) h law i) + (xs_share (σ 11 i) law)) + ((σ 11 i) - (xs_share (σ 11 i) law)) = xs_owed (σ 6) Y (σ 9) (σ 10) (σ 11) h law (i + 1) from by rw [xs_owed]; first | rw [if_neg (by omega)] | (rw [if_pos c_31, if_pos c_78, if_pos c_116] <;> rfl) | (rw [if_pos c_31, if_pos c_78, if_neg c_116] <;> rfl) | (rw [if_pos c_31, if_neg c_78, if_pos c_116] <;> rfl) | (rw [if_pos c_31, if_neg c_78, if_neg c_116] <;> rfl)] at h9; exact h9), hP, hS⟩ (by (try dsimp only); omega)
        · refine lv_iconst (v := nI 0) hx hb dX9_owedOf_53 (by decide) ?_
          refine x_top S (y := xs_share (σ 11 i) law) (((if_neg (by omega)).trans (if_pos c_50)).symm) ?_
          refine lv_goto (tgt := 66) hx hb dX9_owedOf_54 (by decide) ?_
          refine lv_istore (lv' := [(6, .int (xs_share (σ 11 i) law)), (5, .int (nI i)), (4, .int (xs_owed (σ 6) Y (σ 9) (σ 10) (σ 11) h law i)), (3, .int (xt_fault (σ 6) (xLM σ))), (0, .ref (α 0)), (1, .int (nI h)), (2, .int (nI law))]) hx hb dX9_owedOf_66 hl (by decide) rfl (fun ls hl => ?_)
          refine lv_iload hx hb dX9_owedOf_68 (lv_at hl 2 rfl) ?_
          refine lv_aload_n hx hb dX9_owedOf_70 rfl (lv_at hl 4 rfl) ?_
          refine x_get S (fun w h => List.mem_cons_of_mem _ (List.mem_append_right _ h)) hK hP 0 (by omega) rfl rfl 11 (by decide) (List.mem_of_getElem? (i := 5) rfl) rfl dX9_owedOf_71 ?_
          refine lv_iload hx hb dX9_owedOf_74 (lv_at hl 1 rfl) ?_
          refine x_iald S hK hP 9 (by omega) rfl (by first | assumption | omega) (by omega) dX9_owedOf_76 ?_
          refine x_top S (y := nI (xnat (σ 9) i)) (by rw [e9]; exact hq1.2) ?_
          refine lv_iload_n hx hb dX9_owedOf_77 rfl (lv_at hl 5 rfl) ?_
          refine x_icmpN_ne (tgt := 86) S dX9_owedOf_78 (by decide) (by omega) (by omega) (fun c_78 => ?_) (fun c_78 => ?_)
          · refine lv_iconst (v := nI 0) hx hb dX9_owedOf_86 (by decide) ?_
            refine lv_iadd hx hb dX9_owedOf_87 ?_
            refine lv_istore (lv' := [(4, .int ((xs_owed (σ 6) Y (σ 9) (σ 10) (σ 11) h law i) + (nI 0))), (6, .int (xs_share (σ 11 i) law)), (5, .int (nI i)), (3, .int (xt_fault (σ 6) (xLM σ))), (0, .ref (α 0)), (1, .int (nI h)), (2, .int (nI law))]) hx hb dX9_owedOf_88 hl (by decide) rfl (fun ls hl => ?_)
            refine lv_iload hx hb dX9_owedOf_90 (lv_at hl 0 rfl) ?_
            refine lv_aload_n hx hb dX9_owedOf_92 rfl (lv_at hl 4 rfl) ?_
            refine x_get S (fun w h => List.mem_cons_of_mem _ (List.mem_append_right _ h)) hK hP 0 (by omega) rfl rfl 8 (by decide) (List.mem_of_getElem? (i := 6) rfl) rfl dX9_owedOf_93 ?_
            refine lv_bipush (v := nI 6) hx hb dX9_owedOf_96 (by decide) ?_
            refine lv_aload_n hx hb dX9_owedOf_98 rfl (lv_at hl 4 rfl) ?_
            refine x_get S (fun w h => List.mem_cons_of_mem _ (List.mem_append_right _ h)) hK hP 0 (by omega) rfl rfl 12 (by decide) (List.mem_of_getElem? (i := 2) rfl) rfl dX9_owedOf_99 ?_
            refine lv_iload hx hb dX9_owedOf_102 (lv_at hl 2 rfl) ?_
            refine x_iald S hK hP 10 (by omega) rfl (by first | assumption | omega) (by omega) dX9_owedOf_104 ?_
            refine x_top S (y := nI (xnat (σ 10) i)) (by rw [e10]; exact hq2.2) ?_
            refine x_imulN S dX9_owedOf_105 ?_
            refine lv_aload_n hx hb dX9_owedOf_106 rfl (lv_at hl 4 rfl) ?_
            refine x_get S (fun w h => List.mem_cons_of_mem _ (List.mem_append_right _ h)) hK hP 0 (by omega) rfl rfl 11 (by decide) (List.mem_of_getElem? (i := 5) rfl) rfl dX9_owedOf_107 ?_
            refine lv_iload hx hb dX9_owedOf_110 (lv_at hl 2 rfl) ?_
            refine x_iald S hK hP 9 (by omega) rfl (by first | assumption | omega) (by omega) dX9_owedOf_112 ?_
            refine x_top S (y := nI (xnat (σ 9) i)) (by rw [e9]; exact hq1.2) ?_
            refine x_iaddN S dX9_owedOf_113 ?_
            refine x_iald S hK hP 7 (by omega) rfl (by first | assumption | omega) (by omega) dX9_owedOf_114 ?_
            refine x_top S (y := nI (xnm (σ 6) (xnat (σ 10) i) (xnat (σ 9) i))) (hbk _ c_31 _ hq1.1) ?_
            refine lv_iload_n hx hb dX9_owedOf_115 rfl (lv_at hl 5 rfl) ?_
            have hq3 := (hY _ c_31 _ hq1.1).1
            refine x_icmpN_ne (tgt := 132) S dX9_owedOf_116 (by decide) (by omega) (by omega) (fun c_116 => ?_) (fun c_116 => ?_)
            · refine lv_iconst (v := nI 0) hx hb dX9_owedOf_132 (by decide) ?_
              refine lv_iadd hx hb dX9_owedOf_133 ?_
              refine lv_istore (lv' := [(4, .int (((xs_owed (σ 6) Y (σ 9) (σ 10) (σ 11) h law i) + (nI 0)) + (nI 0))), (6, .int (xs_share (σ 11 i) law)), (5, .int (nI i)), (3, .int (xt_fault (σ 6) (xLM σ))), (0, .ref (α 0)), (1, .int (nI h)), (2, .int (nI law))]) hx hb dX9_owedOf_134 hl (by decide) rfl (fun ls hl => ?_)
              refine lv_iinc (v := nI (i + 1)) (lv' := [(5, .int (nI (i + 1))), (4, .int (((xs_owed (σ 6) Y (σ 9) (σ 10) (σ 11) h law i) + (nI 0)) + (nI 0))), (6, .int (xs_share (σ 11 i) law)), (3, .int (xt_fault (σ 6) (xLM σ))), (0, .ref (α 0)), (1, .int (nI h)), (2, .int (nI law))]) hx hb dX9_owedOf_136 hl (k := 2) rfl (nI_add i 1) (by decide) rfl (fun ls hl => ?_)
              refine lv_goto (tgt := 11) hx hb dX9_owedOf_139 (by decide) ?_
              exact ih_11 (i + 1) H locs ls ⟨(by omega), (by have h9 := lv_sub (l' := [(5, .int (nI (i + 1))), (4, .int (((xs_owed (σ 6) Y (σ 9) (σ 10) (σ 11) h law i) + (nI 0)) + (nI 0))), (3, .int (xt_fault (σ 6) (xLM σ))), (0, .ref (α 0)), (1, .int (nI h)), (2, .int (nI law))]) hl [0, 1, 3, 4, 5, 6] rfl; rw [show ((xs_owed (σ 6) Y (σ 9) (σ 10) (σ 11) h law i) + (nI 0)) + (nI 0) = xs_owed (σ 6) Y (σ 9) (σ 10) (σ 11) h law (i + 1) from by rw [xs_owed]; first | rw [if_neg (by omega)] | (rw [if_pos c_31, if_pos c_78, if_pos c_116] <;> rfl) | (rw [if_pos c_31, if_pos c_78, if_neg c_116] <;> rfl) | (rw [if_pos c_31, if_neg c_78, if_pos c_116] <;> rfl) | (rw [if_pos c_31, if_neg c_78, if_neg c_116] <;> rfl)] at h9; exact h9), hP, hS⟩ (by (try dsimp only); omega)
            · refine lv_aload_n hx hb dX9_owedOf_119 rfl (lv_at hl 4 rfl) ?_
              refine x_get S (fun w h => List.mem_cons_of_mem _ (List.mem_append_right _ h)) hK hP 0 (by omega) rfl rfl 13 (by decide) (List.mem_of_getElem? (i := 4) rfl) rfl dX9_owedOf_120 ?_
              refine lv_iload hx hb dX9_owedOf_123 (lv_at hl 2 rfl) ?_
              refine x_iald S hK hP 11 (by omega) rfl (by first | assumption | omega) (by omega) dX9_owedOf_125 ?_
              refine x_top S (y := σ 11 i) (by rw [e11]) ?_
              refine lv_iload hx hb dX9_owedOf_126 (lv_at hl 1 rfl) ?_
              refine lv_isub hx hb dX9_owedOf_128 ?_
              refine lv_goto (tgt := 133) hx hb dX9_owedOf_129 (by decide) ?_
              refine lv_iadd hx hb dX9_owedOf_133 ?_
              refine lv_istore (lv' := [(4, .int (((xs_owed (σ 6) Y (σ 9) (σ 10) (σ 11) h law i) + (nI 0)) + ((σ 11 i) - (xs_share (σ 11 i) law)))), (6, .int (xs_share (σ 11 i) law)), (5, .int (nI i)), (3, .int (xt_fault (σ 6) (xLM σ))), (0, .ref (α 0)), (1, .int (nI h)), (2, .int (nI law))]) hx hb dX9_owedOf_134 hl (by decide) rfl (fun ls hl => ?_)
              refine lv_iinc (v := nI (i + 1)) (lv' := [(5, .int (nI (i + 1))), (4, .int (((xs_owed (σ 6) Y (σ 9) (σ 10) (σ 11) h law i) + (nI 0)) + ((σ 11 i) - (xs_share (σ 11 i) law)))), (6, .int (xs_share (σ 11 i) law)), (3, .int (xt_fault (σ 6) (xLM σ))), (0, .ref (α 0)), (1, .int (nI h)), (2, .int (nI law))]) hx hb dX9_owedOf_136 hl (k := 2) rfl (nI_add i 1) (by decide) rfl (fun ls hl => ?_)
              refine lv_goto (tgt := 11) hx hb dX9_owedOf_139 (by decide) ?_
              exact ih_11 (i + 1) H locs ls ⟨(by omega), (by have h9 := lv_sub (l' := [(5, .int (nI (i + 1))), (4, .int (((xs_owed (σ 6) Y (σ 9) (σ 10) (σ 11) h law i) + (nI 0)) + ((σ 11 i) - (xs_share (σ 11 i) law)))), (3, .int (xt_fault (σ 6) (xLM σ))), (0, .ref (α 0)), (1, .int (nI h)), (2, .int (nI law))]) hl [0, 1, 3, 4, 5, 6] rfl; rw [show ((xs_owed (σ 6) Y (σ 9) (σ 10) (σ 11) h law i) + (nI 0)) + ((σ 11 i) - (xs_share (σ 11 i) law)) = xs_owed (σ 6) Y (σ 9) (σ 10) (σ 11) h law (i + 1) from by rw [xs_owed]; first | rw [if_neg (by omega)] | (rw [if_pos c_31, if_pos c_78, if_pos c_116] <;> rfl) | (rw [if_pos c_31, if_pos c_78, if_neg c_116] <;> rfl) | (rw [if_pos c_31, if_neg c_78, if_pos c_116] <;> rfl) | (rw [if_pos c_31, if_neg c_78, if_neg c_116] <;> rfl)] at h9; exact h9), hP, hS⟩ (by (try dsimp only); omega)
          · refine lv_iload hx hb dX9_owedOf_81 (lv_at hl 0 rfl) ?_
            refine lv_goto (tgt := 87) hx hb dX9_owedOf_83 (by decide) ?_
            refine lv_iadd hx hb dX9_owedOf_87 ?_
            refine lv_istore (lv' := [(4, .int ((xs_owed (σ 6) Y (σ 9) (σ 10) (σ 11) h law i) + (xs_share (σ 11 i) law))), (6, .int (xs_share (σ 11 i) law)), (5, .int (nI i)), (3, .int (xt_fault (σ 6) (xLM σ))), (0, .ref (α 0)), (1, .int (nI h)), (2, .int (nI law))]) hx hb dX9_owedOf_88 hl (by decide) rfl (fun ls hl => ?_)
            refine lv_iload hx hb dX9_owedOf_90 (lv_at hl 0 rfl) ?_
            refine lv_aload_n hx hb dX9_owedOf_92 rfl (lv_at hl 4 rfl) ?_
            refine x_get S (fun w h => List.mem_cons_of_mem _ (List.mem_append_right _ h)) hK hP 0 (by omega) rfl rfl 8 (by decide) (List.mem_of_getElem? (i := 6) rfl) rfl dX9_owedOf_93 ?_
            refine lv_bipush (v := nI 6) hx hb dX9_owedOf_96 (by decide) ?_
            refine lv_aload_n hx hb dX9_owedOf_98 rfl (lv_at hl 4 rfl) ?_
            refine x_get S (fun w h => List.mem_cons_of_mem _ (List.mem_append_right _ h)) hK hP 0 (by omega) rfl rfl 12 (by decide) (List.mem_of_getElem? (i := 2) rfl) rfl dX9_owedOf_99 ?_
            refine lv_iload hx hb dX9_owedOf_102 (lv_at hl 2 rfl) ?_
            refine x_iald S hK hP 10 (by omega) rfl (by first | assumption | omega) (by omega) dX9_owedOf_104 ?_
            refine x_top S (y := nI (xnat (σ 10) i)) (by rw [e10]; exact hq2.2) ?_
            refine x_imulN S dX9_owedOf_105 ?_
            refine lv_aload_n hx hb dX9_owedOf_106 rfl (lv_at hl 4 rfl) ?_
            refine x_get S (fun w h => List.mem_cons_of_mem _ (List.mem_append_right _ h)) hK hP 0 (by omega) rfl rfl 11 (by decide) (List.mem_of_getElem? (i := 5) rfl) rfl dX9_owedOf_107 ?_
            refine lv_iload hx hb dX9_owedOf_110 (lv_at hl 2 rfl) ?_
            refine x_iald S hK hP 9 (by omega) rfl (by first | assumption | omega) (by omega) dX9_owedOf_112 ?_
            refine x_top S (y := nI (xnat (σ 9) i)) (by rw [e9]; exact hq1.2) ?_
            refine x_iaddN S dX9_owedOf_113 ?_
            refine x_iald S hK hP 7 (by omega) rfl (by first | assumption | omega) (by omega) dX9_owedOf_114 ?_
            refine x_top S (y := nI (xnm (σ 6) (xnat (σ 10) i) (xnat (σ 9) i))) (hbk _ c_31 _ hq1.1) ?_
            refine lv_iload_n hx hb dX9_owedOf_115 rfl (lv_at hl 5 rfl) ?_
            have hq3 := (hY _ c_31 _ hq1.1).1
            refine x_icmpN_ne (tgt := 132) S dX9_owedOf_116 (by decide) (by omega) (by omega) (fun c_116 => ?_) (fun c_116 => ?_)
            · refine lv_iconst (v := nI 0) hx hb dX9_owedOf_132 (by decide) ?_
              refine lv_iadd hx hb dX9_owedOf_133 ?_
              refine lv_istore (lv' := [(4, .int (((xs_owed (σ 6) Y (σ 9) (σ 10) (σ 11) h law i) + (xs_share (σ 11 i) law)) + (nI 0))), (6, .int (xs_share (σ 11 i) law)), (5, .int (nI i)), (3, .int (xt_fault (σ 6) (xLM σ))), (0, .ref (α 0)), (1, .int (nI h)), (2, .int (nI law))]) hx hb dX9_owedOf_134 hl (by decide) rfl (fun ls hl => ?_)
              refine lv_iinc (v := nI (i + 1)) (lv' := [(5, .int (nI (i + 1))), (4, .int (((xs_owed (σ 6) Y (σ 9) (σ 10) (σ 11) h law i) + (xs_share (σ 11 i) law)) + (nI 0))), (6, .int (xs_share (σ 11 i) law)), (3, .int (xt_fault (σ 6) (xLM σ))), (0, .ref (α 0)), (1, .int (nI h)), (2, .int (nI law))]) hx hb dX9_owedOf_136 hl (k := 2) rfl (nI_add i 1) (by decide) rfl (fun ls hl => ?_)
              refine lv_goto (tgt := 11) hx hb dX9_owedOf_139 (by decide) ?_
              exact ih_11 (i + 1) H locs ls ⟨(by omega), (by have h9 := lv_sub (l' := [(5, .int (nI (i + 1))), (4, .int (((xs_owed (σ 6) Y (σ 9) (σ 10) (σ 11) h law i) + (xs_share (σ 11 i) law)) + (nI 0))), (3, .int (xt_fault (σ 6) (xLM σ))), (0, .ref (α 0)), (1, .int (nI h)), (2, .int (nI law))]) hl [0, 1, 3, 4, 5, 6] rfl; rw [show ((xs_owed (σ 6) Y (σ 9) (σ 10) (σ 11) h law i) + (xs_share (σ 11 i) law)) + (nI 0) = xs_owed (σ 6) Y (σ 9) (σ 10) (σ 11) h law (i + 1) from by rw [xs_owed]; first | rw [if_neg (by omega)] | (rw [if_pos c_31, if_pos c_78, if_pos c_116] <;> rfl) | (rw [if_pos c_31, if_pos c_78, if_neg c_116] <;> rfl) | (rw [if_pos c_31, if_neg c_78, if_pos c_116] <;> rfl) | (rw [if_pos c_31, if_neg c_78, if_neg c_116] <;> rfl)] at h9; exact h9), hP, hS⟩ (by (try dsimp only); omega)
            · refine lv_aload_n hx hb dX9_owedOf_119 rfl (lv_at hl 4 rfl) ?_
              refine x_get S (fun w h => List.mem_cons_of_mem _ (List.mem_append_right _ h)) hK hP 0 (by omega) rfl rfl 13 (by decide) (List.mem_of_getElem? (i := 4) rfl) rfl dX9_owedOf_120 ?_
              refine lv_iload hx hb dX9_owedOf_123 (lv_at hl 2 rfl) ?_
              refine x_iald S hK hP 11 (by omega) rfl (by first | assumption | omega) (by omega) dX9_owedOf_125 ?_
              refine x_top S (y := σ 11 i) (by rw [e11]) ?_
              refine lv_iload hx hb dX9_owedOf_126 (lv_at hl 1 rfl) ?_
              refine lv_isub hx hb dX9_owedOf_128 ?_
              refine lv_goto (tgt := 133) hx hb dX9_owedOf_129 (by decide) ?_
              refine lv_iadd hx hb dX9_owedOf_133 ?_
              refine lv_istore (lv' := [(4, .int (((xs_owed (σ 6) Y (σ 9) (σ 10) (σ 11) h law i) + (xs_share (σ 11 i) law)) + ((σ 11 i) - (xs_share (σ 11 i) law)))), (6, .int (xs_share (σ 11 i) law)), (5, .int (nI i)), (3, .int (xt_fault (σ 6) (xLM σ))), (0, .ref (α 0)), (1, .int (nI h)), (2, .int (nI law))]) hx hb dX9_owedOf_134 hl (by decide) rfl (fun ls hl => ?_)
              refine lv_iinc (v := nI (i + 1)) (lv' := [(5, .int (nI (i + 1))), (4, .int (((xs_owed (σ 6) Y (σ 9) (σ 10) (σ 11) h law i) + (xs_share (σ 11 i) law)) + ((σ 11 i) - (xs_share (σ 11 i) law)))), (6, .int (xs_share (σ 11 i) law)), (3, .int (xt_fault (σ 6) (xLM σ))), (0, .ref (α 0)), (1, .int (nI h)), (2, .int (nI law))]) hx hb dX9_owedOf_136 hl (k := 2) rfl (nI_add i 1) (by decide) rfl (fun ls hl => ?_)
              refine lv_goto (tgt := 11) hx hb dX9_owedOf_139 (by decide) ?_
              exact ih_11 (i + 1) H locs ls ⟨(by omega), (by have h9 := lv_sub (l' := [(5, .int (nI (i + 1))), (4, .int (((xs_owed (σ 6) Y (σ 9) (σ 10) (σ 11) h law i) + (xs_share (σ 11 i) law)) + ((σ 11 i) - (xs_share (σ 11 i) law)))), (3, .int (xt_fault (σ 6) (xLM σ))), (0, .ref (α 0)), (1, .int (nI h)), (2, .int (nI law))]) hl [0, 1, 3, 4, 5, 6] rfl; rw [show ((xs_owed (σ 6) Y (σ 9) (σ 10) (σ 11) h law i) + (xs_share (σ 11 i) law)) + ((σ 11 i) - (xs_share (σ 11 i) law)) = xs_owed (σ 6) Y (σ 9) (σ 10) (σ 11) h law (i + 1) from by rw [xs_owed]; first | rw [if_neg (by omega)] | (rw [if_pos c_31, if_pos c_78, if_pos c_116] <;> rfl) | (rw [if_pos c_31, if_pos c_78, if_neg c_116] <;> rfl) | (rw [if_pos c_31, if_neg c_78, if_pos c_116] <;> rfl) | (rw [if_pos c_31, if_neg c_78, if_neg c_116] <;> rfl)] at h9; exact h9), hP, hS⟩ (by (try dsimp only); omega)
      · refine lv_aload_n hx hb dX9_owedOf_38 rfl (lv_at hl 3 rfl) ?_
        refine x_get S (fun w h => List.mem_cons_of_mem _ (List.mem_append_right _ h)) hK hP 0 (by omega) rfl rfl 13 (by decide) (List.mem_of_getElem? (i := 4) rfl) rfl dX9_owedOf_39 ?_
        refine lv_iload hx hb dX9_owedOf_42 (lv_at hl 0 rfl) ?_
        refine x_iald S hK hP 11 (by omega) rfl (by first | assumption | omega) (by omega) dX9_owedOf_44 ?_
        refine x_top S (y := xs_share (σ 11 i) law) (by rw [e11]; exact (if_pos c_35).symm) ?_
        refine lv_goto (tgt := 66) hx hb dX9_owedOf_45 (by decide) ?_
        refine lv_istore (lv' := [(6, .int (xs_share (σ 11 i) law)), (5, .int (nI i)), (4, .int (xs_owed (σ 6) Y (σ 9) (σ 10) (σ 11) h law i)), (3, .int (xt_fault (σ 6) (xLM σ))), (0, .ref (α 0)), (1, .int (nI h)), (2, .int (nI law))]) hx hb dX9_owedOf_66 hl (by decide) rfl (fun ls hl => ?_)
        refine lv_iload hx hb dX9_owedOf_68 (lv_at hl 2 rfl) ?_
        refine lv_aload_n hx hb dX9_owedOf_70 rfl (lv_at hl 4 rfl) ?_
        refine x_get S (fun w h => List.mem_cons_of_mem _ (List.mem_append_right _ h)) hK hP 0 (by omega) rfl rfl 11 (by decide) (List.mem_of_getElem? (i := 5) rfl) rfl dX9_owedOf_71 ?_
        refine lv_iload hx hb dX9_owedOf_74 (lv_at hl 1 rfl) ?_
        refine x_iald S hK hP 9 (by omega) rfl (by first | assumption | omega) (by omega) dX9_owedOf_76 ?_
        refine x_top S (y := nI (xnat (σ 9) i)) (by rw [e9]; exact hq1.2) ?_
        refine lv_iload_n hx hb dX9_owedOf_77 rfl (lv_at hl 5 rfl) ?_
        refine x_icmpN_ne (tgt := 86) S dX9_owedOf_78 (by decide) (by omega) (by omega) (fun c_78 => ?_) (fun c_78 => ?_)
        · refine lv_iconst (v := nI 0) hx hb dX9_owedOf_86 (by decide) ?_
          refine lv_iadd hx hb dX9_owedOf_87 ?_
          refine lv_istore (lv' := [(4, .int ((xs_owed (σ 6) Y (σ 9) (σ 10) (σ 11) h law i) + (nI 0))), (6, .int (xs_share (σ 11 i) law)), (5, .int (nI i)), (3, .int (xt_fault (σ 6) (xLM σ))), (0, .ref (α 0)), (1, .int (nI h)), (2, .int (nI law))]) hx hb dX9_owedOf_88 hl (by decide) rfl (fun ls hl => ?_)
          refine lv_iload hx hb dX9_owedOf_90 (lv_at hl 0 rfl) ?_
          refine lv_aload_n hx hb dX9_owedOf_92 rfl (lv_at hl 4 rfl) ?_
          refine x_get S (fun w h => List.mem_cons_of_mem _ (List.mem_append_right _ h)) hK hP 0 (by omega) rfl rfl 8 (by decide) (List.mem_of_getElem? (i := 6) rfl) rfl dX9_owedOf_93 ?_
          refine lv_bipush (v := nI 6) hx hb dX9_owedOf_96 (by decide) ?_
          refine lv_aload_n hx hb dX9_owedOf_98 rfl (lv_at hl 4 rfl) ?_
          refine x_get S (fun w h => List.mem_cons_of_mem _ (List.mem_append_right _ h)) hK hP 0 (by omega) rfl rfl 12 (by decide) (List.mem_of_getElem? (i := 2) rfl) rfl dX9_owedOf_99 ?_
          refine lv_iload hx hb dX9_owedOf_102 (lv_at hl 2 rfl) ?_
          refine x_iald S hK hP 10 (by omega) rfl (by first | assumption | omega) (by omega) dX9_owedOf_104 ?_
          refine x_top S (y := nI (xnat (σ 10) i)) (by rw [e10]; exact hq2.2) ?_
          refine x_imulN S dX9_owedOf_105 ?_
          refine lv_aload_n hx hb dX9_owedOf_106 rfl (lv_at hl 4 rfl) ?_
          refine x_get S (fun w h => List.mem_cons_of_mem _ (List.mem_append_right _ h)) hK hP 0 (by omega) rfl rfl 11 (by decide) (List.mem_of_getElem? (i := 5) rfl) rfl dX9_owedOf_107 ?_
          refine lv_iload hx hb dX9_owedOf_110 (lv_at hl 2 rfl) ?_
          refine x_iald S hK hP 9 (by omega) rfl (by first | assumption | omega) (by omega) dX9_owedOf_112 ?_
          refine x_top S (y := nI (xnat (σ 9) i)) (by rw [e9]; exact hq1.2) ?_
          refine x_iaddN S dX9_owedOf_113 ?_
          refine x_iald S hK hP 7 (by omega) rfl (by first | assumption | omega) (by omega) dX9_owedOf_114 ?_
          refine x_top S (y := nI (xnm (σ 6) (xnat (σ 10) i) (xnat (σ 9) i))) (hbk _ c_31 _ hq1.1) ?_
          refine lv_iload_n hx hb dX9_owedOf_115 rfl (lv_at hl 5 rfl) ?_
          have hq3 := (hY _ c_31 _ hq1.1).1
          refine x_icmpN_ne (tgt := 132) S dX9_owedOf_116 (by decide) (by omega) (by omega) (fun c_116 => ?_) (fun c_116 => ?_)
          · refine lv_iconst (v := nI 0) hx hb dX9_owedOf_132 (by decide) ?_
            refine lv_iadd hx hb dX9_owedOf_133 ?_
            refine lv_istore (lv' := [(4, .int (((xs_owed (σ 6) Y (σ 9) (σ 10) (σ 11) h law i) + (nI 0)) + (nI 0))), (6, .int (xs_share (σ 11 i) law)), (5, .int (nI i)), (3, .int (xt_fault (σ 6) (xLM σ))), (0, .ref (α 0)), (1, .int (nI h)), (2, .int (nI law))]) hx hb dX9_owedOf_134 hl (by decide) rfl (fun ls hl => ?_)
            refine lv_iinc (v := nI (i + 1)) (lv' := [(5, .int (nI (i + 1))), (4, .int (((xs_owed (σ 6) Y (σ 9) (σ 10) (σ 11) h law i) + (nI 0)) + (nI 0))), (6, .int (xs_share (σ 11 i) law)), (3, .int (xt_fault (σ 6) (xLM σ))), (0, .ref (α 0)), (1, .int (nI h)), (2, .int (nI law))]) hx hb dX9_owedOf_136 hl (k := 2) rfl (nI_add i 1) (by decide) rfl (fun ls hl => ?_)
            refine lv_goto (tgt := 11) hx hb dX9_owedOf_139 (by decide) ?_
            exact ih_11 (i + 1) H locs ls ⟨(by omega), (by have h9 := lv_sub (l' := [(5, .int (nI (i + 1))), (4, .int (((xs_owed (σ 6) Y (σ 9) (σ 10) (σ 11) h law i) + (nI 0)) + (nI 0))), (3, .int (xt_fault (σ 6) (xLM σ))), (0, .ref (α 0)), (1, .int (nI h)), (2, .int (nI law))]) hl [0, 1, 3, 4, 5, 6] rfl; rw [show ((xs_owed (σ 6) Y (σ 9) (σ 10) (σ 11) h law i) + (nI 0)) + (nI 0) = xs_owed (σ 6) Y (σ 9) (σ 10) (σ 11) h law (i + 1) from by rw [xs_owed]; first | rw [if_neg (by omega)] | (rw [if_pos c_31, if_pos c_78, if_pos c_116] <;> rfl) | (rw [if_pos c_31, if_pos c_78, if_neg c_116] <;> rfl) | (rw [if_pos c_31, if_neg c_78, if_pos c_116] <;> rfl) | (rw [if_pos c_31, if_neg c_78, if_neg c_116] <;> rfl)] at h9; exact h9), hP, hS⟩ (by (try dsimp only); omega)
          · refine lv_aload_n hx hb dX9_owedOf_119 rfl (lv_at hl 4 rfl) ?_
            refine x_get S (fun w h => List.mem_cons_of_mem _ (List.mem_append_right _ h)) hK hP 0 (by omega) rfl rfl 13 (by decide) (List.mem_of_getElem? (i := 4) rfl) rfl dX9_owedOf_120 ?_
            refine lv_iload hx hb dX9_owedOf_123 (lv_at hl 2 rfl) ?_
            refine x_iald S hK hP 11 (by omega) rfl (by first | assumption | omega) (by omega) dX9_owedOf_125 ?_
            refine x_top S (y := σ 11 i) (by rw [e11]) ?_
            refine lv_iload hx hb dX9_owedOf_126 (lv_at hl 1 rfl) ?_
            refine lv_isub hx hb dX9_owedOf_128 ?_
            refine lv_goto (tgt := 133) hx hb dX9_owedOf_129 (by decide) ?_
            refine lv_iadd hx hb dX9_owedOf_133 ?_
            refine lv_istore (lv' := [(4, .int (((xs_owed (σ 6) Y (σ 9) (σ 10) (σ 11) h law i) + (nI 0)) + ((σ 11 i) - (xs_share (σ 11 i) law)))), (6, .int (xs_share (σ 11 i) law)), (5, .int (nI i)), (3, .int (xt_fault (σ 6) (xLM σ))), (0, .ref (α 0)), (1, .int (nI h)), (2, .int (nI law))]) hx hb dX9_owedOf_134 hl (by decide) rfl (fun ls hl => ?_)
            refine lv_iinc (v := nI (i + 1)) (lv' := [(5, .int (nI (i + 1))), (4, .int (((xs_owed (σ 6) Y (σ 9) (σ 10) (σ 11) h law i) + (nI 0)) + ((σ 11 i) - (xs_share (σ 11 i) law)))), (6, .int (xs_share (σ 11 i) law)), (3, .int (xt_fault (σ 6) (xLM σ))), (0, .ref (α 0)), (1, .int (nI h)), (2, .int (nI law))]) hx hb dX9_owedOf_136 hl (k := 2) rfl (nI_add i 1) (by decide) rfl (fun ls hl => ?_)
            refine lv_goto (tgt := 11) hx hb dX9_owedOf_139 (by decide) ?_
            exact ih_11 (i + 1) H locs ls ⟨(by omega), (by have h9 := lv_sub (l' := [(5, .int (nI (i + 1))), (4, .int (((xs_owed (σ 6) Y (σ 9) (σ 10) (σ 11) h law i) + (nI 0)) + ((σ 11 i) - (xs_share (σ 11 i) law)))), (3, .int (xt_fault (σ 6) (xLM σ))), (0, .ref (α 0)), (1, .int (nI h)), (2, .int (nI law))]) hl [0, 1, 3, 4, 5, 6] rfl; rw [show ((xs_owed (σ 6) Y (σ 9) (σ 10) (σ 11) h law i) + (nI 0)) + ((σ 11 i) - (xs_share (σ 11 i) law)) = xs_owed (σ 6) Y (σ 9) (σ 10) (σ 11) h law (i + 1) from by rw [xs_owed]; first | rw [if_neg (by omega)] | (rw [if_pos c_31, if_pos c_78, if_pos c_116] <;> rfl) | (rw [if_pos c_31, if_pos c_78, if_neg c_116] <;> rfl) | (rw [if_pos c_31, if_neg c_78, if_pos c_116] <;> rfl) | (rw [if_pos c_31, if_neg c_78, if_neg c_116] <;> rfl)] at h9; exact h9), hP, hS⟩ (by (try dsimp only); omega)
        · refine lv_iload hx hb dX9_owedOf_81 (lv_at hl 0 rfl) ?_
          refine lv_goto (tgt := 87) hx hb dX9_owedOf_83 (by decide) ?_
          refine lv_iadd hx hb dX9_owedOf_87 ?_
          refine lv_istore (lv' := [(4, .int ((xs_owed (σ 6) Y (σ 9) (σ 10) (σ 11) h law i) + (xs_share (σ 11 i) law))), (6, .int (xs_share (σ 11 i) law)), (5, .int (nI i)), (3, .int (xt_fault (σ 6) (xLM σ))), (0, .ref (α 0)), (1, .int (nI h)), (2, .int (nI law))]) hx hb dX9_owedOf_88 hl (by decide) rfl (fun ls hl => ?_)
          refine lv_iload hx hb dX9_owedOf_90 (lv_at hl 0 rfl) ?_
          refine lv_aload_n hx hb dX9_owedOf_92 rfl (lv_at hl 4 rfl) ?_
          refine x_get S (fun w h => List.mem_cons_of_mem _ (List.mem_append_right _ h)) hK hP 0 (by omega) rfl rfl 8 (by decide) (List.mem_of_getElem? (i := 6) rfl) rfl dX9_owedOf_93 ?_
          refine lv_bipush (v := nI 6) hx hb dX9_owedOf_96 (by decide) ?_
          refine lv_aload_n hx hb dX9_owedOf_98 rfl (lv_at hl 4 rfl) ?_
          refine x_get S (fun w h => List.mem_cons_of_mem _ (List.mem_append_right _ h)) hK hP 0 (by omega) rfl rfl 12 (by decide) (List.mem_of_getElem? (i := 2) rfl) rfl dX9_owedOf_99 ?_
          refine lv_iload hx hb dX9_owedOf_102 (lv_at hl 2 rfl) ?_
          refine x_iald S hK hP 10 (by omega) rfl (by first | assumption | omega) (by omega) dX9_owedOf_104 ?_
          refine x_top S (y := nI (xnat (σ 10) i)) (by rw [e10]; exact hq2.2) ?_
          refine x_imulN S dX9_owedOf_105 ?_
          refine lv_aload_n hx hb dX9_owedOf_106 rfl (lv_at hl 4 rfl) ?_
          refine x_get S (fun w h => List.mem_cons_of_mem _ (List.mem_append_right _ h)) hK hP 0 (by omega) rfl rfl 11 (by decide) (List.mem_of_getElem? (i := 5) rfl) rfl dX9_owedOf_107 ?_
          refine lv_iload hx hb dX9_owedOf_110 (lv_at hl 2 rfl) ?_
          refine x_iald S hK hP 9 (by omega) rfl (by first | assumption | omega) (by omega) dX9_owedOf_112 ?_
          refine x_top S (y := nI (xnat (σ 9) i)) (by rw [e9]; exact hq1.2) ?_
          refine x_iaddN S dX9_owedOf_113 ?_
          refine x_iald S hK hP 7 (by omega) rfl (by first | assumption | omega) (by omega) dX9_owedOf_114 ?_
          refine x_top S (y := nI (xnm (σ 6) (xnat (σ 10) i) (xnat (σ 9) i))) (hbk _ c_31 _ hq1.1) ?_
          refine lv_iload_n hx hb dX9_owedOf_115 rfl (lv_at hl 5 rfl) ?_
          have hq3 := (hY _ c_31 _ hq1.1).1
          refine x_icmpN_ne (tgt := 132) S dX9_owedOf_116 (by decide) (by omega) (by omega) (fun c_116 => ?_) (fun c_116 => ?_)
          · refine lv_iconst (v := nI 0) hx hb dX9_owedOf_132 (by decide) ?_
            refine lv_iadd hx hb dX9_owedOf_133 ?_
            refine lv_istore (lv' := [(4, .int (((xs_owed (σ 6) Y (σ 9) (σ 10) (σ 11) h law i) + (xs_share (σ 11 i) law)) + (nI 0))), (6, .int (xs_share (σ 11 i) law)), (5, .int (nI i)), (3, .int (xt_fault (σ 6) (xLM σ))), (0, .ref (α 0)), (1, .int (nI h)), (2, .int (nI law))]) hx hb dX9_owedOf_134 hl (by decide) rfl (fun ls hl => ?_)
            refine lv_iinc (v := nI (i + 1)) (lv' := [(5, .int (nI (i + 1))), (4, .int (((xs_owed (σ 6) Y (σ 9) (σ 10) (σ 11) h law i) + (xs_share (σ 11 i) law)) + (nI 0))), (6, .int (xs_share (σ 11 i) law)), (3, .int (xt_fault (σ 6) (xLM σ))), (0, .ref (α 0)), (1, .int (nI h)), (2, .int (nI law))]) hx hb dX9_owedOf_136 hl (k := 2) rfl (nI_add i 1) (by decide) rfl (fun ls hl => ?_)
            refine lv_goto (tgt := 11) hx hb dX9_owedOf_139 (by decide) ?_
            exact ih_11 (i + 1) H locs ls ⟨(by omega), (by have h9 := lv_sub (l' := [(5, .int (nI (i + 1))), (4, .int (((xs_owed (σ 6) Y (σ 9) (σ 10) (σ 11) h law i) + (xs_share (σ 11 i) law)) + (nI 0))), (3, .int (xt_fault (σ 6) (xLM σ))), (0, .ref (α 0)), (1, .int (nI h)), (2, .int (nI law))]) hl [0, 1, 3, 4, 5, 6] rfl; rw [show ((xs_owed (σ 6) Y (σ 9) (σ 10) (σ 11) h law i) + (xs_share (σ 11 i) law)) + (nI 0) = xs_owed (σ 6) Y (σ 9) (σ 10) (σ 11) h law (i + 1) from by rw [xs_owed]; first | rw [if_neg (by omega)] | (rw [if_pos c_31, if_pos c_78, if_pos c_116] <;> rfl) | (rw [if_pos c_31, if_pos c_78, if_neg c_116] <;> rfl) | (rw [if_pos c_31, if_neg c_78, if_pos c_116] <;> rfl) | (rw [if_pos c_31, if_neg c_78, if_neg c_116] <;> rfl)] at h9; exact h9), hP, hS⟩ (by (try dsimp only); omega)
          · refine lv_aload_n hx hb dX9_owedOf_119 rfl (lv_at hl 4 rfl) ?_
            refine x_get S (fun w h => List.mem_cons_of_mem _ (List.mem_append_right _ h)) hK hP 0 (by omega) rfl rfl 13 (by decide) (List.mem_of_getElem? (i := 4) rfl) rfl dX9_owedOf_120 ?_
            refine lv_iload hx hb dX9_owedOf_123 (lv_at hl 2 rfl) ?_
            refine x_iald S hK hP 11 (by omega) rfl (by first | assumption | omega) (by omega) dX9_owedOf_125 ?_
            refine x_top S (y := σ 11 i) (by rw [e11]) ?_
            refine lv_iload hx hb dX9_owedOf_126 (lv_at hl 1 rfl) ?_
            refine lv_isub hx hb dX9_owedOf_128 ?_
            refine lv_goto (tgt := 133) hx hb dX9_owedOf_129 (by decide) ?_
            refine lv_iadd hx hb dX9_owedOf_133 ?_
            refine lv_istore (lv' := [(4, .int (((xs_owed (σ 6) Y (σ 9) (σ 10) (σ 11) h law i) + (xs_share (σ 11 i) law)) + ((σ 11 i) - (xs_share (σ 11 i) law)))), (6, .int (xs_share (σ 11 i) law)), (5, .int (nI i)), (3, .int (xt_fault (σ 6) (xLM σ))), (0, .ref (α 0)), (1, .int (nI h)), (2, .int (nI law))]) hx hb dX9_owedOf_134 hl (by decide) rfl (fun ls hl => ?_)
            refine lv_iinc (v := nI (i + 1)) (lv' := [(5, .int (nI (i + 1))), (4, .int (((xs_owed (σ 6) Y (σ 9) (σ 10) (σ 11) h law i) + (xs_share (σ 11 i) law)) + ((σ 11 i) - (xs_share (σ 11 i) law)))), (6, .int (xs_share (σ 11 i) law)), (3, .int (xt_fault (σ 6) (xLM σ))), (0, .ref (α 0)), (1, .int (nI h)), (2, .int (nI law))]) hx hb dX9_owedOf_136 hl (k := 2) rfl (nI_add i 1) (by decide) rfl (fun ls hl => ?_)
            refine lv_goto (tgt := 11) hx hb dX9_owedOf_139 (by decide) ?_
            exact ih_11 (i + 1) H locs ls ⟨(by omega), (by have h9 := lv_sub (l' := [(5, .int (nI (i + 1))), (4, .int (((xs_owed (σ 6) Y (σ 9) (σ 10) (σ 11) h law i) + (xs_share (σ 11 i) law)) + ((σ 11 i) - (xs_share (σ 11 i) law)))), (3, .int (xt_fault (σ 6) (xLM σ))), (0, .ref (α 0)), (1, .int (nI h)), (2, .int (nI law))]) hl [0, 1, 3, 4, 5, 6] rfl; rw [show ((xs_owed (σ 6) Y (σ 9) (σ 10) (σ 11) h law i) + (xs_share (σ 11 i) law)) + ((σ 11 i) - (xs_share (σ 11 i) law)) = xs_owed (σ 6) Y (σ 9) (σ 10) (σ 11) h law (i + 1) from by rw [xs_owed]; first | rw [if_neg (by omega)] | (rw [if_pos c_31, if_pos c_78, if_pos c_116] <;> rfl) | (rw [if_pos c_31, if_pos c_78, if_neg c_116] <;> rfl) | (rw [if_pos c_31, if_neg c_78, if_pos c_116] <;> rfl) | (rw [if_pos c_31, if_neg c_78, if_neg c_116] <;> rfl)] at h9; exact h9), hP, hS⟩ (by (try dsimp only); omega)
set_option maxHeartbeats 4000000 in
set_option maxRecDepth 100000 in
theorem c_X9_owed (l : Launch) {D : va_G} {K : Nat → ClassId} {α : Nat → Nat} (σ : Nat → Nat → Int32) (hI : xw_I 20 α) (x0 : Int32) (x1 : Int32)  (hC : xIM σ) : Met l yX9_owed wsX9_owed (xrm 4) (va_Pc [.ref (α 0), .int x0, .int x1] (xPre D K 20 α (xM α K) σ)) (xQi D 20 α (xM α K) (fun r τ => r = xp_owed (σ 6) (xYM σ) (σ 9) (σ 10) (σ 11) (xcM σ) x0 x1 ∧ xMs σ τ)) 0 0 (xw_R 20 α) := by
  refine Met.ofW (cc := cX9_owed) (maxL := 3) (ret := (some .int)) (by decide) rfl ?_
  intro p e s m args below meth c s₁ B hml hv
  obtain ⟨rfl, hK, hP⟩ := hv
  have S : CallFix p m c cX9_owed 3 s _ wsX9_owed RX9 := ⟨B.exec, B.bytes, hml, findClass_of_methodNamed B.named, atoms_spec (ws := wsX9_owed) B.pre⟩
  have hx := S.1
  have hb := S.2.1
  have hr := B.returns
  have hlocks := B.notSynchronized
  have hS : va_S (xw_R 20 α) s.heap s.heap [] := va_S.rf
  have hl := lv_entry ([.ref (α 0), .int x0, .int x1]) (n := 3) (Nat.le_of_ble_eq_true rfl)
  rw [lg_entry_eq]
  generalize (lg_sl ([.ref (α 0), .int x0, .int x1]) ++ List.replicate (3 - (lg_sl ([.ref (α 0), .int x0, .int x1])).length) Slot.unset).toArray = ls at hl ⊢
  have hl : lv_has ls 3 [(0, .ref (α 0)), (1, .int x0), (2, .int x1)] := hl
  have hPP := hP
  
  refine lv_iload_n hx hb dX9_owed_0 rfl (lv_at hl 1 rfl) ?_
  refine x_cSi (As := [.int x0]) (rest := []) S (c_X9_isSix l x0  ) (x_cwS (n0 := 1) S gX9_owed_X9_isSix rfl (by decide +kernel) ⟨Nat.le_of_ble_eq_true rfl, Nat.le_of_ble_eq_true rfl⟩) rfl hl.1 rfl (Nat.le_of_ble_eq_true rfl) dX9_owed_1 ⟨Nat.le_refl _, Nat.le_refl _⟩ (fun r_1 hr_1 => ?_)
  subst hr_1
  refine x_if_eqB (tgt := 25) S dX9_owed_4 (by decide) (fun c_4 => ?_) (fun c_4 => ?_)
  · refine lv_bipush (v := (-2)) hx hb dX9_owed_25 (by decide) ?_
    exact x_iretW S hlocks hP hS hr rfl (by first | exact ⟨by rw [xp_owed, if_neg (fun q => c_4 q.1)], xMs_rf _⟩ | exact ⟨by rw [xp_owed, if_neg (fun q => c_13 q.2)], xMs_rf _⟩) dX9_owed_27
  · refine lv_iload_n hx hb dX9_owed_7 rfl (lv_at hl 2 rfl) ?_
    refine lv_iconst (v := nI 0) hx hb dX9_owed_8 (by decide) ?_
    refine lv_iconst (v := nI 2) hx hb dX9_owed_9 (by decide) ?_
    refine x_cSi (As := [.int x1, .int (nI 0), .int (nI 2)]) (rest := []) S (c_X9_in0 l x1 2  (by first | assumption | omega)) (x_cwS (n0 := 3) S gX9_owed_X9_in rfl (by decide +kernel) ⟨Nat.le_of_ble_eq_true rfl, Nat.le_of_ble_eq_true rfl⟩) rfl hl.1 rfl (Nat.le_of_ble_eq_true rfl) dX9_owed_10 ⟨Nat.le_refl _, Nat.le_refl _⟩ (fun r_10 hr_10 => ?_)
    subst hr_10
    refine x_if_eqB (tgt := 25) S dX9_owed_13 (by decide) (fun c_13 => ?_) (fun c_13 => ?_)
    · refine lv_bipush (v := (-2)) hx hb dX9_owed_25 (by decide) ?_
      exact x_iretW S hlocks hP hS hr rfl (by first | exact ⟨by rw [xp_owed, if_neg (fun q => c_4 q.1)], xMs_rf _⟩ | exact ⟨by rw [xp_owed, if_neg (fun q => c_13 q.2)], xMs_rf _⟩) dX9_owed_27
    · obtain ⟨h, hh, rfl⟩ := xin_of c_4 (by omega)
      obtain ⟨law, hlaw, rfl⟩ := xin_of c_13 (by omega)
      refine lv_aload_n hx hb dX9_owed_16 rfl (lv_at hl 0 rfl) ?_
      refine lv_iload_n hx hb dX9_owed_17 rfl (lv_at hl 1 rfl) ?_
      refine lv_iload_n hx hb dX9_owed_18 rfl (lv_at hl 2 rfl) ?_
      refine x_cVWi (As := [.int (nI h), .int (nI law)]) (rest := []) S hK hP hS (fun _ h => h) 0 (by omega) rfl rfl (c_X9_owedOf l σ hI h law  (by first | assumption | omega) (by first | assumption | omega) (by first | assumption | omega)) (x_cwV (n0 := 2) (cq := (RX9, TX9, 24)) S gX9_owed_X9_owedOf rfl (by decide +kernel) ⟨Nat.le_of_ble_eq_true rfl, Nat.le_of_ble_eq_true rfl⟩) rfl hl.1 rfl (Nat.le_of_ble_eq_true rfl) dX9_owed_19 ⟨Nat.le_refl _, Nat.le_refl _⟩ (fun r_19 τ_19 H locs hr_19 hP hk_19 hS => ?_)
      obtain ⟨hr_19, hms_19⟩ := hr_19
      subst hr_19
      refine lv_goto (tgt := 27) hx hb dX9_owed_22 (by decide) ?_
      exact x_iretW S hlocks hP hS hr rfl (⟨by rw [xp_owed, if_pos ⟨xin_nI (by omega) (by omega), xin_nI (by omega) (by omega)⟩, cN_nI (by omega), cN_nI (by omega)], hms_19⟩) dX9_owed_27
set_option maxHeartbeats 4000000 in
set_option maxRecDepth 100000 in
theorem c_X9_lightest (l : Launch) {D : va_G} {K : Nat → ClassId} {α : Nat → Nat} (σ : Nat → Nat → Int32) (hI : xw_I 20 α) (x0 : Int32)  (hC : xIM σ) : Met l yX9_lightest wsX9_lightest (xrm 4) (va_Pc [.ref (α 0), .int x0] (xPre D K 20 α (xM α K) σ)) (xQi D 20 α (xM α K) (fun r τ => r = xp_light (σ 6) (xYM σ) (σ 9) (σ 10) (σ 11) (xcM σ) x0 ∧ xMs σ τ)) 0 0 (xw_R 20 α) := by
  refine Met.ofW (cc := cX9_lightest) (maxL := 3) (ret := (some .int)) (by decide) rfl ?_
  intro p e s m args below meth c s₁ B hml hv
  obtain ⟨rfl, hK, hP⟩ := hv
  have S : CallFix p m c cX9_lightest 3 s _ wsX9_lightest RX9 := ⟨B.exec, B.bytes, hml, findClass_of_methodNamed B.named, atoms_spec (ws := wsX9_lightest) B.pre⟩
  have hx := S.1
  have hb := S.2.1
  have hr := B.returns
  have hlocks := B.notSynchronized
  have hS : va_S (xw_R 20 α) s.heap s.heap [] := va_S.rf
  have hl := lv_entry ([.ref (α 0), .int x0]) (n := 3) (Nat.le_of_ble_eq_true rfl)
  rw [lg_entry_eq]
  generalize (lg_sl ([.ref (α 0), .int x0]) ++ List.replicate (3 - (lg_sl ([.ref (α 0), .int x0])).length) Slot.unset).toArray = ls at hl ⊢
  have hl : lv_has ls 3 [(0, .ref (α 0)), (1, .int x0)] := hl
  have hPP := hP
  
  refine lv_iload_n hx hb dX9_lightest_0 rfl (lv_at hl 1 rfl) ?_
  refine x_cSi (As := [.int x0]) (rest := []) S (c_X9_isSix l x0  ) (x_cwS (n0 := 1) S gX9_lightest_X9_isSix rfl (by decide +kernel) ⟨Nat.le_of_ble_eq_true rfl, Nat.le_of_ble_eq_true rfl⟩) rfl hl.1 rfl (Nat.le_of_ble_eq_true rfl) dX9_lightest_1 ⟨Nat.le_refl _, Nat.le_refl _⟩ (fun r_1 hr_1 => ?_)
  subst hr_1
  refine x_if_neB (tgt := 10) S dX9_lightest_4 (by decide) (fun c_4 => ?_) (fun c_4 => ?_)
  · obtain ⟨h, hh, rfl⟩ := xin_of c_4 (by omega)
    refine lv_aload_n hx hb dX9_lightest_10 rfl (lv_at hl 0 rfl) ?_
    refine lv_iload_n hx hb dX9_lightest_11 rfl (lv_at hl 1 rfl) ?_
    refine lv_iconst (v := nI 1) hx hb dX9_lightest_12 (by decide) ?_
    refine x_cVWi (As := [.int (nI h), .int (nI 1)]) (rest := []) S hK hP hS (fun _ h => h) 0 (by omega) rfl rfl (c_X9_owedOf l σ hI h 1  (by first | assumption | omega) (by first | assumption | omega) (by first | assumption | omega)) (x_cwV (n0 := 2) (cq := (RX9, TX9, 24)) S gX9_lightest_X9_owedOf rfl (by decide +kernel) ⟨Nat.le_of_ble_eq_true rfl, Nat.le_of_ble_eq_true rfl⟩) rfl hl.1 rfl (Nat.le_of_ble_eq_true rfl) dX9_lightest_13 ⟨Nat.le_refl _, Nat.le_refl _⟩ (fun r_13 τ_13 H locs hr_13 hP hk_13 hS => ?_)
    obtain ⟨hr_13, hms_13⟩ := hr_13
    subst hr_13
    have hC1 := xMs_IM hms_13 hC
    refine lv_aload_n hx hb dX9_lightest_16 rfl (lv_at hl 0 rfl) ?_
    refine lv_iload_n hx hb dX9_lightest_17 rfl (lv_at hl 1 rfl) ?_
    refine lv_iconst (v := nI 0) hx hb dX9_lightest_18 (by decide) ?_
    refine x_cVWi (As := [.int (nI h), .int (nI 0)]) (rest := [.int (xs_owed (σ 6) (xYM σ) (σ 9) (σ 10) (σ 11) h 1 (xcM σ))]) S hK hP hS (fun _ h => h) 0 (by omega) rfl rfl (c_X9_owedOf l τ_13 hI h 0  hC1 (by first | assumption | omega) (by first | assumption | omega)) (x_cwV (n0 := 2) (cq := (RX9, TX9, 24)) S gX9_lightest_X9_owedOf rfl (by decide +kernel) ⟨Nat.le_of_ble_eq_true rfl, Nat.le_of_ble_eq_true rfl⟩) rfl hl.1 rfl (Nat.le_of_ble_eq_true rfl) dX9_lightest_19 ⟨Nat.le_refl _, Nat.le_refl _⟩ (fun r_19 τ_19 H locs hr_19 hP hk_19 hS => ?_)
    obtain ⟨hr_19, hms_19⟩ := hr_19
    subst hr_19
    have hz_19 := xMs_tr hms_13 hms_19
    have hC2 := xMs_IM hz_19 hC
    refine x_top S (y := xs_owed (σ 6) (xYM σ) (σ 9) (σ 10) (σ 11) h 0 (xcM σ)) (xow_eq hms_13 _ _) ?_
    refine lv_icmp_ge (tgt := 29) hx hb dX9_lightest_22 (by decide) (fun c_22 => ?_) (fun c_22 => ?_)
    · refine lv_iconst (v := nI 0) hx hb dX9_lightest_29 (by decide) ?_
      refine lv_istore_n (lv' := [(2, .int (nI 0)), (0, .ref (α 0)), (1, .int (nI h))]) hx hb dX9_lightest_30 rfl hl (by decide) rfl (fun ls hl => ?_)
      refine lv_aload_n hx hb dX9_lightest_31 rfl (lv_at hl 1 rfl) ?_
      refine lv_iload_n hx hb dX9_lightest_32 rfl (lv_at hl 2 rfl) ?_
      refine lv_iconst (v := nI 2) hx hb dX9_lightest_33 (by decide) ?_
      refine x_cVWi (As := [.int (nI h), .int (nI 2)]) (rest := []) S hK hP hS (fun _ h => h) 0 (by omega) rfl rfl (c_X9_owedOf l τ_19 hI h 2  hC2 (by first | assumption | omega) (by first | assumption | omega)) (x_cwV (n0 := 2) (cq := (RX9, TX9, 24)) S gX9_lightest_X9_owedOf rfl (by decide +kernel) ⟨Nat.le_of_ble_eq_true rfl, Nat.le_of_ble_eq_true rfl⟩) rfl hl.1 rfl (Nat.le_of_ble_eq_true rfl) dX9_lightest_34 ⟨Nat.le_refl _, Nat.le_refl _⟩ (fun r_34 τ_34 H locs hr_34 hP hk_34 hS => ?_)
      obtain ⟨hr_34, hms_34⟩ := hr_34
      subst hr_34
      have hz_34 := xMs_tr hz_19 hms_34
      have hC3 := xMs_IM hz_34 hC
      refine x_top S (y := xs_owed (σ 6) (xYM σ) (σ 9) (σ 10) (σ 11) h 2 (xcM σ)) (xow_eq hz_19 _ _) ?_
      refine lv_aload_n hx hb dX9_lightest_37 rfl (lv_at hl 1 rfl) ?_
      refine lv_iload_n hx hb dX9_lightest_38 rfl (lv_at hl 2 rfl) ?_
      refine lv_iload_n hx hb dX9_lightest_39 rfl (lv_at hl 0 rfl) ?_
      refine x_cVWi (As := [.int (nI h), .int (nI 0)]) (rest := [.int (xs_owed (σ 6) (xYM σ) (σ 9) (σ 10) (σ 11) h 2 (xcM σ))]) S hK hP hS (fun _ h => h) 0 (by omega) rfl rfl (c_X9_owedOf l τ_34 hI h 0  hC3 (by first | assumption | omega) (by first | assumption | omega)) (x_cwV (n0 := 2) (cq := (RX9, TX9, 24)) S gX9_lightest_X9_owedOf rfl (by decide +kernel) ⟨Nat.le_of_ble_eq_true rfl, Nat.le_of_ble_eq_true rfl⟩) rfl hl.1 rfl (Nat.le_of_ble_eq_true rfl) dX9_lightest_40 ⟨Nat.le_refl _, Nat.le_refl _⟩ (fun r_40 τ_40 H locs hr_40 hP hk_40 hS => ?_)
      obtain ⟨hr_40, hms_40⟩ := hr_40
      subst hr_40
      have hz_40 := xMs_tr hz_34 hms_40
      refine x_top S (y := xs_owed (σ 6) (xYM σ) (σ 9) (σ 10) (σ 11) h 0 (xcM σ)) (xow_eq hz_34 _ _) ?_
      refine lv_icmp_ge (tgt := 50) hx hb dX9_lightest_43 (by decide) (fun c_43 => ?_) (fun c_43 => ?_)
      · refine lv_iload_n hx hb dX9_lightest_50 rfl (lv_at hl 0 rfl) ?_
        exact x_iretW S hlocks hP hS hr rfl (⟨by rw [xp_light, if_pos (xin_nI (by omega) (by omega)), cN_nI (by omega)]; unfold xs_light; dsimp only; first | rw [if_pos (xle c_22), if_pos (xle c_43)] | rw [if_pos (xle c_22), if_neg (xnlt c_43)] | rw [if_neg (xnlt c_22), if_pos (xle c_43)] | rw [if_neg (xnlt c_22), if_neg (xnlt c_43)], hz_40⟩) dX9_lightest_51
      · refine lv_iconst (v := nI 2) hx hb dX9_lightest_46 (by decide) ?_
        refine lv_goto (tgt := 51) hx hb dX9_lightest_47 (by decide) ?_
        exact x_iretW S hlocks hP hS hr rfl (⟨by rw [xp_light, if_pos (xin_nI (by omega) (by omega)), cN_nI (by omega)]; unfold xs_light; dsimp only; first | rw [if_pos (xle c_22), if_pos (xle c_43)] | rw [if_pos (xle c_22), if_neg (xnlt c_43)] | rw [if_neg (xnlt c_22), if_pos (xle c_43)] | rw [if_neg (xnlt c_22), if_neg (xnlt c_43)], hz_40⟩) dX9_lightest_51
    · refine lv_iconst (v := nI 1) hx hb dX9_lightest_25 (by decide) ?_
      refine lv_goto (tgt := 30) hx hb dX9_lightest_26 (by decide) ?_
      refine lv_istore_n (lv' := [(2, .int (nI 1)), (0, .ref (α 0)), (1, .int (nI h))]) hx hb dX9_lightest_30 rfl hl (by decide) rfl (fun ls hl => ?_)
      refine lv_aload_n hx hb dX9_lightest_31 rfl (lv_at hl 1 rfl) ?_
      refine lv_iload_n hx hb dX9_lightest_32 rfl (lv_at hl 2 rfl) ?_
      refine lv_iconst (v := nI 2) hx hb dX9_lightest_33 (by decide) ?_
      refine x_cVWi (As := [.int (nI h), .int (nI 2)]) (rest := []) S hK hP hS (fun _ h => h) 0 (by omega) rfl rfl (c_X9_owedOf l τ_19 hI h 2  hC2 (by first | assumption | omega) (by first | assumption | omega)) (x_cwV (n0 := 2) (cq := (RX9, TX9, 24)) S gX9_lightest_X9_owedOf rfl (by decide +kernel) ⟨Nat.le_of_ble_eq_true rfl, Nat.le_of_ble_eq_true rfl⟩) rfl hl.1 rfl (Nat.le_of_ble_eq_true rfl) dX9_lightest_34 ⟨Nat.le_refl _, Nat.le_refl _⟩ (fun r_34 τ_34 H locs hr_34 hP hk_34 hS => ?_)
      obtain ⟨hr_34, hms_34⟩ := hr_34
      subst hr_34
      have hz_34 := xMs_tr hz_19 hms_34
      have hC3 := xMs_IM hz_34 hC
      refine x_top S (y := xs_owed (σ 6) (xYM σ) (σ 9) (σ 10) (σ 11) h 2 (xcM σ)) (xow_eq hz_19 _ _) ?_
      refine lv_aload_n hx hb dX9_lightest_37 rfl (lv_at hl 1 rfl) ?_
      refine lv_iload_n hx hb dX9_lightest_38 rfl (lv_at hl 2 rfl) ?_
      refine lv_iload_n hx hb dX9_lightest_39 rfl (lv_at hl 0 rfl) ?_
      refine x_cVWi (As := [.int (nI h), .int (nI 1)]) (rest := [.int (xs_owed (σ 6) (xYM σ) (σ 9) (σ 10) (σ 11) h 2 (xcM σ))]) S hK hP hS (fun _ h => h) 0 (by omega) rfl rfl (c_X9_owedOf l τ_34 hI h 1  hC3 (by first | assumption | omega) (by first | assumption | omega)) (x_cwV (n0 := 2) (cq := (RX9, TX9, 24)) S gX9_lightest_X9_owedOf rfl (by decide +kernel) ⟨Nat.le_of_ble_eq_true rfl, Nat.le_of_ble_eq_true rfl⟩) rfl hl.1 rfl (Nat.le_of_ble_eq_true rfl) dX9_lightest_40 ⟨Nat.le_refl _, Nat.le_refl _⟩ (fun r_40 τ_40 H locs hr_40 hP hk_40 hS => ?_)
      obtain ⟨hr_40, hms_40⟩ := hr_40
      subst hr_40
      have hz_40 := xMs_tr hz_34 hms_40
      refine x_top S (y := xs_owed (σ 6) (xYM σ) (σ 9) (σ 10) (σ 11) h 1 (xcM σ)) (xow_eq hz_34 _ _) ?_
      refine lv_icmp_ge (tgt := 50) hx hb dX9_lightest_43 (by decide) (fun c_43 => ?_) (fun c_43 => ?_)
      · refine lv_iload_n hx hb dX9_lightest_50 rfl (lv_at hl 0 rfl) ?_
        exact x_iretW S hlocks hP hS hr rfl (⟨by rw [xp_light, if_pos (xin_nI (by omega) (by omega)), cN_nI (by omega)]; unfold xs_light; dsimp only; first | rw [if_pos (xle c_22), if_pos (xle c_43)] | rw [if_pos (xle c_22), if_neg (xnlt c_43)] | rw [if_neg (xnlt c_22), if_pos (xle c_43)] | rw [if_neg (xnlt c_22), if_neg (xnlt c_43)], hz_40⟩) dX9_lightest_51
      · refine lv_iconst (v := nI 2) hx hb dX9_lightest_46 (by decide) ?_
        refine lv_goto (tgt := 51) hx hb dX9_lightest_47 (by decide) ?_
        exact x_iretW S hlocks hP hS hr rfl (⟨by rw [xp_light, if_pos (xin_nI (by omega) (by omega)), cN_nI (by omega)]; unfold xs_light; dsimp only; first | rw [if_pos (xle c_22), if_pos (xle c_43)] | rw [if_pos (xle c_22), if_neg (xnlt c_43)] | rw [if_neg (xnlt c_22), if_pos (xle c_43)] | rw [if_neg (xnlt c_22), if_neg (xnlt c_43)], hz_40⟩) dX9_lightest_51
  · refine lv_bipush (v := (-2)) hx hb dX9_lightest_7 (by decide) ?_
    exact x_iretW S hlocks hP hS hr rfl (⟨by rw [xp_light, if_neg c_4], xMs_rf _⟩) dX9_lightest_9
set_option maxHeartbeats 4000000 in
set_option maxRecDepth 100000 in
theorem c_X9_disputedNow (l : Launch) {D : va_G} {K : Nat → ClassId} {α : Nat → Nat} (σ : Nat → Nat → Int32) (hI : xw_I 20 α)   (hC : xIM σ) : Met l yX9_disputedNow wsX9_disputedNow (xrm 3) (va_Pc [.ref (α 0)] (xPre D K 20 α (xM α K) σ)) (xQi D 20 α (xM α K) (fun r τ => r = xs_disp (σ 6) (xYM σ) (σ 9) (σ 10) (xcM σ) ∧ xMs σ τ)) 0 0 (xw_R 20 α) := by
  refine Met.ofW (cc := cX9_disputedNow) (maxL := 4) (ret := (some .int)) (by decide) rfl ?_
  intro p e s m args below meth c s₁ B hml hv
  obtain ⟨rfl, hK, hP⟩ := hv
  have S : CallFix p m c cX9_disputedNow 4 s _ wsX9_disputedNow RX9 := ⟨B.exec, B.bytes, hml, findClass_of_methodNamed B.named, atoms_spec (ws := wsX9_disputedNow) B.pre⟩
  have hx := S.1
  have hb := S.2.1
  have hr := B.returns
  have hlocks := B.notSynchronized
  have hS : va_S (xw_R 20 α) s.heap s.heap [] := va_S.rf
  have hl := lv_entry ([.ref (α 0)]) (n := 4) (Nat.le_of_ble_eq_true rfl)
  rw [lg_entry_eq]
  generalize (lg_sl ([.ref (α 0)]) ++ List.replicate (4 - (lg_sl ([.ref (α 0)])).length) Slot.unset).toArray = ls at hl ⊢
  have hl : lv_has ls 4 [(0, .ref (α 0))] := hl
  have hPP := hP
  have hY := xIM_Y hC
  have hY12 := xIM_12 hC
  obtain ⟨⟨hL, hL9⟩, ⟨hcs, hcn, hc1, hc2⟩, ⟨hss, hsn, hs1, hs2⟩, hfe, hsh⟩ := id hC
  generalize hLe : xLM σ = L at hL hL9 ⊢
  generalize hYe : xYM σ = Y at hY hY12 ⊢
  generalize hcne : xcM σ = cn at hcs hcn hc1 hc2 ⊢
  generalize hsne : xsM σ = sn at hss hsn hs1 hs2 ⊢
  refine lv_aload_n hx hb dX9_disputedNow_0 rfl (lv_at hl 0 rfl) ?_
  refine x_cVWi (As := []) (rest := []) S hK hP hS (fun _ h => h) 0 (by omega) rfl rfl (c_X9_faultNow l σ hI   (by first | assumption | omega)) (x_cwV (n0 := 0) (cq := (RX9, TX9, 24)) S gX9_disputedNow_X9_faultNow rfl (by decide +kernel) ⟨Nat.le_of_ble_eq_true rfl, Nat.le_of_ble_eq_true rfl⟩) rfl hl.1 rfl (Nat.le_of_ble_eq_true rfl) dX9_disputedNow_1 ⟨Nat.le_refl _, Nat.le_refl _⟩ (fun r_1 τ_1 H locs hr_1 hP hk_1 hS => ?_)
  obtain ⟨hr_1, hms_1, hbk_1⟩ := hr_1
  subst hr_1
  obtain ⟨hyr, hbk⟩ := xBk_of hms_1 hbk_1
  have eF := xMs_F hms_1
  have e6 : τ_1 6 = σ 6 := xMs_k hms_1 (by decide)
  have hC2 := xMs_IM hms_1 hC
  have e9 : τ_1 9 = σ 9 := xMs_k hms_1 (by decide)
  have e10 : τ_1 10 = σ 10 := xMs_k hms_1 (by decide)
  have e11 : τ_1 11 = σ 11 := xMs_k hms_1 (by decide)
  rw [hYe] at hyr hbk
  refine lv_istore_n (lv' := [(1, .int (xt_fault (σ 6) (xLM σ))), (0, .ref (α 0))]) hx hb dX9_disputedNow_4 rfl hl (by decide) rfl (fun ls hl => ?_)
  refine lv_iconst (v := nI 0) hx hb dX9_disputedNow_5 (by decide) ?_
  refine lv_istore_n (lv' := [(2, .int (nI 0)), (1, .int (xt_fault (σ 6) (xLM σ))), (0, .ref (α 0))]) hx hb dX9_disputedNow_6 rfl hl (by decide) rfl (fun ls hl => ?_)
  refine lv_iconst (v := nI 0) hx hb dX9_disputedNow_7 (by decide) ?_
  refine lv_istore_n (lv' := [(3, .int (nI 0)), (2, .int (nI 0)), (1, .int (xt_fault (σ 6) (xLM σ))), (0, .ref (α 0))]) hx hb dX9_disputedNow_8 rfl hl (by decide) rfl (fun ls hl => ?_)
  refine x_loopW (ι := Nat) (fun i H locs ls => (i ≤ cn) ∧ lv_has ls 4 [(3, .int (nI i)), (2, .int (xsum (fun k => if xnat (σ 10) k < Y ∧ ¬ xnm (σ 6) (xnat (σ 10) k) (xnat (σ 9) k) = xnat (σ 9) k then 1 else 0) i)), (1, .int (xt_fault (σ 6) (xLM σ))), (0, .ref (α 0))] ∧ va_P D vwCl (xw 20 α (xM α K) τ_1) H ∧ va_S (xw_R 20 α) s.heap H locs) (fun i => cn - i) ?_ 0 ls ⟨Nat.zero_le _, lv_sub hl [0, 1, 2, 3] rfl, hP, hS⟩
  intro i H locs ls hinv ih_9
  obtain ⟨hi, hl, hP, hS⟩ := hinv
  have hl : lv_has ls 4 [(3, .int (nI i)), (2, .int (xsum (fun k => if xnat (σ 10) k < Y ∧ ¬ xnm (σ 6) (xnat (σ 10) k) (xnat (σ 9) k) = xnat (σ 9) k then 1 else 0) i)), (1, .int (xt_fault (σ 6) (xLM σ))), (0, .ref (α 0))] := hl
  have hP : va_P D vwCl (xw 20 α (xM α K) τ_1) H := hP
  refine lv_iload_n hx hb dX9_disputedNow_9 rfl (lv_at hl 0 rfl) ?_
  refine lv_aload_n hx hb dX9_disputedNow_10 rfl (lv_at hl 3 rfl) ?_
  refine x_get S (fun w h => List.mem_cons_of_mem _ (List.mem_append_right _ h)) hK hP 0 (by omega) rfl rfl 10 (by decide) (List.mem_of_getElem? (i := 1) rfl) rfl dX9_disputedNow_11 ?_
  refine x_top S (y := nI cn) (by rw [hms_1.2 10 (by decide)]; exact hcs) ?_
  refine x_icmpN_ge (tgt := 74) S dX9_disputedNow_14 (by decide) (by omega) (by omega) (fun c_14 => ?_) (fun c_14 => ?_)
  · have e8 : i = cn := by omega
    subst e8
    refine lv_iload_n hx hb dX9_disputedNow_74 rfl (lv_at hl 1 rfl) ?_
    exact x_iretW S hlocks hP hS hr rfl (⟨rfl, hms_1⟩) dX9_disputedNow_75
  · have hq1 := hc1 i (by omega)
    have hq2 := hc2 i (by omega)
    refine lv_iload_n hx hb dX9_disputedNow_17 rfl (lv_at hl 1 rfl) ?_
    refine lv_aload_n hx hb dX9_disputedNow_18 rfl (lv_at hl 3 rfl) ?_
    refine x_get S (fun w h => List.mem_cons_of_mem _ (List.mem_append_right _ h)) hK hP 0 (by omega) rfl rfl 12 (by decide) (List.mem_of_getElem? (i := 2) rfl) rfl dX9_disputedNow_19 ?_
    refine lv_iload_n hx hb dX9_disputedNow_22 rfl (lv_at hl 0 rfl) ?_
    refine x_iald S hK hP 10 (by omega) rfl (by first | assumption | omega) (by omega) dX9_disputedNow_23 ?_
    refine x_top S (y := nI (xnat (σ 10) i)) (by rw [e10]; exact hq2.2) ?_
    refine lv_aload_n hx hb dX9_disputedNow_24 rfl (lv_at hl 3 rfl) ?_
    refine x_get S (fun w h => List.mem_cons_of_mem _ (List.mem_append_right _ h)) hK hP 0 (by omega) rfl rfl 7 (by decide) (List.mem_of_getElem? (i := 3) rfl) rfl dX9_disputedNow_25 ?_
    refine x_top S (y := nI Y) (hyr) ?_
    refine x_icmpN_ge (tgt := 65) S dX9_disputedNow_28 (by decide) (by omega) (by omega) (fun c_28 => ?_) (fun c_28 => ?_)
    · refine lv_iconst (v := nI 0) hx hb dX9_disputedNow_65 (by decide) ?_
      refine lv_iadd hx hb dX9_disputedNow_66 ?_
      refine lv_istore_n (lv' := [(2, .int ((xsum (fun k => if xnat (σ 10) k < Y ∧ ¬ xnm (σ 6) (xnat (σ 10) k) (xnat (σ 9) k) = xnat (σ 9) k then 1 else 0) i) + (nI 0))), (3, .int (nI i)), (1, .int (xt_fault (σ 6) (xLM σ))), (0, .ref (α 0))]) hx hb dX9_disputedNow_67 rfl hl (by decide) rfl (fun ls hl => ?_)
      refine lv_iinc (v := nI (i + 1)) (lv' := [(3, .int (nI (i + 1))), (2, .int ((xsum (fun k => if xnat (σ 10) k < Y ∧ ¬ xnm (σ 6) (xnat (σ 10) k) (xnat (σ 9) k) = xnat (σ 9) k then 1 else 0) i) + (nI 0))), (1, .int (xt_fault (σ 6) (xLM σ))), (0, .ref (α 0))]) hx hb dX9_disputedNow_68 hl (k := 1) rfl (nI_add i 1) (by decide) rfl (fun ls hl => ?_)
      refine lv_goto (tgt := 9) hx hb dX9_disputedNow_71 (by decide) ?_
      exact ih_9 (i + 1) H locs ls ⟨(by omega), (by have h9 := lv_sub (l' := [(3, .int (nI (i + 1))), (2, .int ((xsum (fun k => if xnat (σ 10) k < Y ∧ ¬ xnm (σ 6) (xnat (σ 10) k) (xnat (σ 9) k) = xnat (σ 9) k then 1 else 0) i) + (nI 0))), (1, .int (xt_fault (σ 6) (xLM σ))), (0, .ref (α 0))]) hl [0, 1, 2, 3] rfl; rw [show (xsum (fun k => if xnat (σ 10) k < Y ∧ ¬ xnm (σ 6) (xnat (σ 10) k) (xnat (σ 9) k) = xnat (σ 9) k then 1 else 0) i) + (nI 0) = xsum (fun k => if xnat (σ 10) k < Y ∧ ¬ xnm (σ 6) (xnat (σ 10) k) (xnat (σ 9) k) = xnat (σ 9) k then 1 else 0) (i + 1) from by rw [xsum_s]; first | (rw [if_neg (fun q => by have := q.1; omega)] <;> rfl) | (rw [if_pos ⟨c_28, c_58⟩] <;> rfl) | (rw [if_neg (fun q => q.2 c_58)] <;> rfl)] at h9; exact h9), hP, hS⟩ (by (try dsimp only); omega)
    · refine lv_aload_n hx hb dX9_disputedNow_31 rfl (lv_at hl 3 rfl) ?_
      refine x_get S (fun w h => List.mem_cons_of_mem _ (List.mem_append_right _ h)) hK hP 0 (by omega) rfl rfl 8 (by decide) (List.mem_of_getElem? (i := 4) rfl) rfl dX9_disputedNow_32 ?_
      refine lv_bipush (v := nI 6) hx hb dX9_disputedNow_35 (by decide) ?_
      refine lv_aload_n hx hb dX9_disputedNow_37 rfl (lv_at hl 3 rfl) ?_
      refine x_get S (fun w h => List.mem_cons_of_mem _ (List.mem_append_right _ h)) hK hP 0 (by omega) rfl rfl 12 (by decide) (List.mem_of_getElem? (i := 2) rfl) rfl dX9_disputedNow_38 ?_
      refine lv_iload_n hx hb dX9_disputedNow_41 rfl (lv_at hl 0 rfl) ?_
      refine x_iald S hK hP 10 (by omega) rfl (by first | assumption | omega) (by omega) dX9_disputedNow_42 ?_
      refine x_top S (y := nI (xnat (σ 10) i)) (by rw [e10]; exact hq2.2) ?_
      refine x_imulN S dX9_disputedNow_43 ?_
      refine lv_aload_n hx hb dX9_disputedNow_44 rfl (lv_at hl 3 rfl) ?_
      refine x_get S (fun w h => List.mem_cons_of_mem _ (List.mem_append_right _ h)) hK hP 0 (by omega) rfl rfl 11 (by decide) (List.mem_of_getElem? (i := 5) rfl) rfl dX9_disputedNow_45 ?_
      refine lv_iload_n hx hb dX9_disputedNow_48 rfl (lv_at hl 0 rfl) ?_
      refine x_iald S hK hP 9 (by omega) rfl (by first | assumption | omega) (by omega) dX9_disputedNow_49 ?_
      refine x_top S (y := nI (xnat (σ 9) i)) (by rw [e9]; exact hq1.2) ?_
      refine x_iaddN S dX9_disputedNow_50 ?_
      refine x_iald S hK hP 7 (by omega) rfl (by first | assumption | omega) (by omega) dX9_disputedNow_51 ?_
      refine x_top S (y := nI (xnm (σ 6) (xnat (σ 10) i) (xnat (σ 9) i))) (hbk _ c_28 _ hq1.1) ?_
      refine lv_aload_n hx hb dX9_disputedNow_52 rfl (lv_at hl 3 rfl) ?_
      refine x_get S (fun w h => List.mem_cons_of_mem _ (List.mem_append_right _ h)) hK hP 0 (by omega) rfl rfl 11 (by decide) (List.mem_of_getElem? (i := 5) rfl) rfl dX9_disputedNow_53 ?_
      refine lv_iload_n hx hb dX9_disputedNow_56 rfl (lv_at hl 0 rfl) ?_
      refine x_iald S hK hP 9 (by omega) rfl (by first | assumption | omega) (by omega) dX9_disputedNow_57 ?_
      refine x_top S (y := nI (xnat (σ 9) i)) (by rw [e9]; exact hq1.2) ?_
      have hq3 := (hY _ c_28 _ hq1.1).1
      refine x_icmpN_eq (tgt := 65) S dX9_disputedNow_58 (by decide) (by omega) (by omega) (fun c_58 => ?_) (fun c_58 => ?_)
      · refine lv_iconst (v := nI 0) hx hb dX9_disputedNow_65 (by decide) ?_
        refine lv_iadd hx hb dX9_disputedNow_66 ?_
        refine lv_istore_n (lv' := [(2, .int ((xsum (fun k => if xnat (σ 10) k < Y ∧ ¬ xnm (σ 6) (xnat (σ 10) k) (xnat (σ 9) k) = xnat (σ 9) k then 1 else 0) i) + (nI 0))), (3, .int (nI i)), (1, .int (xt_fault (σ 6) (xLM σ))), (0, .ref (α 0))]) hx hb dX9_disputedNow_67 rfl hl (by decide) rfl (fun ls hl => ?_)
        refine lv_iinc (v := nI (i + 1)) (lv' := [(3, .int (nI (i + 1))), (2, .int ((xsum (fun k => if xnat (σ 10) k < Y ∧ ¬ xnm (σ 6) (xnat (σ 10) k) (xnat (σ 9) k) = xnat (σ 9) k then 1 else 0) i) + (nI 0))), (1, .int (xt_fault (σ 6) (xLM σ))), (0, .ref (α 0))]) hx hb dX9_disputedNow_68 hl (k := 1) rfl (nI_add i 1) (by decide) rfl (fun ls hl => ?_)
        refine lv_goto (tgt := 9) hx hb dX9_disputedNow_71 (by decide) ?_
        exact ih_9 (i + 1) H locs ls ⟨(by omega), (by have h9 := lv_sub (l' := [(3, .int (nI (i + 1))), (2, .int ((xsum (fun k => if xnat (σ 10) k < Y ∧ ¬ xnm (σ 6) (xnat (σ 10) k) (xnat (σ 9) k) = xnat (σ 9) k then 1 else 0) i) + (nI 0))), (1, .int (xt_fault (σ 6) (xLM σ))), (0, .ref (α 0))]) hl [0, 1, 2, 3] rfl; rw [show (xsum (fun k => if xnat (σ 10) k < Y ∧ ¬ xnm (σ 6) (xnat (σ 10) k) (xnat (σ 9) k) = xnat (σ 9) k then 1 else 0) i) + (nI 0) = xsum (fun k => if xnat (σ 10) k < Y ∧ ¬ xnm (σ 6) (xnat (σ 10) k) (xnat (σ 9) k) = xnat (σ 9) k then 1 else 0) (i + 1) from by rw [xsum_s]; first | (rw [if_neg (fun q => by have := q.1; omega)] <;> rfl) | (rw [if_pos ⟨c_28, c_58⟩] <;> rfl) | (rw [if_neg (fun q => q.2 c_58)] <;> rfl)] at h9; exact h9), hP, hS⟩ (by (try dsimp only); omega)
      · refine lv_iconst (v := nI 1) hx hb dX9_disputedNow_61 (by decide) ?_
        refine lv_goto (tgt := 66) hx hb dX9_disputedNow_62 (by decide) ?_
        refine lv_iadd hx hb dX9_disputedNow_66 ?_
        refine lv_istore_n (lv' := [(2, .int ((xsum (fun k => if xnat (σ 10) k < Y ∧ ¬ xnm (σ 6) (xnat (σ 10) k) (xnat (σ 9) k) = xnat (σ 9) k then 1 else 0) i) + (nI 1))), (3, .int (nI i)), (1, .int (xt_fault (σ 6) (xLM σ))), (0, .ref (α 0))]) hx hb dX9_disputedNow_67 rfl hl (by decide) rfl (fun ls hl => ?_)
        refine lv_iinc (v := nI (i + 1)) (lv' := [(3, .int (nI (i + 1))), (2, .int ((xsum (fun k => if xnat (σ 10) k < Y ∧ ¬ xnm (σ 6) (xnat (σ 10) k) (xnat (σ 9) k) = xnat (σ 9) k then 1 else 0) i) + (nI 1))), (1, .int (xt_fault (σ 6) (xLM σ))), (0, .ref (α 0))]) hx hb dX9_disputedNow_68 hl (k := 1) rfl (nI_add i 1) (by decide) rfl (fun ls hl => ?_)
        refine lv_goto (tgt := 9) hx hb dX9_disputedNow_71 (by decide) ?_
        exact ih_9 (i + 1) H locs ls ⟨(by omega), (by have h9 := lv_sub (l' := [(3, .int (nI (i + 1))), (2, .int ((xsum (fun k => if xnat (σ 10) k < Y ∧ ¬ xnm (σ 6) (xnat (σ 10) k) (xnat (σ 9) k) = xnat (σ 9) k then 1 else 0) i) + (nI 1))), (1, .int (xt_fault (σ 6) (xLM σ))), (0, .ref (α 0))]) hl [0, 1, 2, 3] rfl; rw [show (xsum (fun k => if xnat (σ 10) k < Y ∧ ¬ xnm (σ 6) (xnat (σ 10) k) (xnat (σ 9) k) = xnat (σ 9) k then 1 else 0) i) + (nI 1) = xsum (fun k => if xnat (σ 10) k < Y ∧ ¬ xnm (σ 6) (xnat (σ 10) k) (xnat (σ 9) k) = xnat (σ 9) k then 1 else 0) (i + 1) from by rw [xsum_s]; first | (rw [if_neg (fun q => by have := q.1; omega)] <;> rfl) | (rw [if_pos ⟨c_28, c_58⟩] <;> rfl) | (rw [if_neg (fun q => q.2 c_58)] <;> rfl)] at h9; exact h9), hP, hS⟩ (by (try dsimp only); omega)
set_option maxHeartbeats 4000000 in
set_option maxRecDepth 100000 in
theorem c_X9_disputed (l : Launch) {D : va_G} {K : Nat → ClassId} {α : Nat → Nat} (σ : Nat → Nat → Int32) (hI : xw_I 20 α)   (hC : xIM σ) : Met l yX9_disputed wsX9_disputed (xrm 4) (va_Pc [.ref (α 0)] (xPre D K 20 α (xM α K) σ)) (xQi D 20 α (xM α K) (fun r τ => r = xs_disp (σ 6) (xYM σ) (σ 9) (σ 10) (xcM σ) ∧ xMs σ τ)) 0 0 (xw_R 20 α) := by
  refine Met.ofW (cc := cX9_disputed) (maxL := 1) (ret := (some .int)) (by decide) rfl ?_
  intro p e s m args below meth c s₁ B hml hv
  obtain ⟨rfl, hK, hP⟩ := hv
  have S : CallFix p m c cX9_disputed 1 s _ wsX9_disputed RX9 := ⟨B.exec, B.bytes, hml, findClass_of_methodNamed B.named, atoms_spec (ws := wsX9_disputed) B.pre⟩
  have hx := S.1
  have hb := S.2.1
  have hr := B.returns
  have hlocks := B.notSynchronized
  have hS : va_S (xw_R 20 α) s.heap s.heap [] := va_S.rf
  have hl := lv_entry ([.ref (α 0)]) (n := 1) (Nat.le_of_ble_eq_true rfl)
  rw [lg_entry_eq]
  generalize (lg_sl ([.ref (α 0)]) ++ List.replicate (1 - (lg_sl ([.ref (α 0)])).length) Slot.unset).toArray = ls at hl ⊢
  have hl : lv_has ls 1 [(0, .ref (α 0))] := hl
  have hPP := hP
  
  refine lv_aload_n hx hb dX9_disputed_0 rfl (lv_at hl 0 rfl) ?_
  refine x_cVWi (As := []) (rest := []) S hK hP hS (fun _ h => h) 0 (by omega) rfl rfl (c_X9_disputedNow l σ hI   (by first | assumption | omega)) (x_cwV (n0 := 0) (cq := (RX9, TX9, 24)) S gX9_disputed_X9_disputedNow rfl (by decide +kernel) ⟨Nat.le_of_ble_eq_true rfl, Nat.le_of_ble_eq_true rfl⟩) rfl hl.1 rfl (Nat.le_of_ble_eq_true rfl) dX9_disputed_1 ⟨Nat.le_refl _, Nat.le_refl _⟩ (fun r_1 τ_1 H locs hr_1 hP hk_1 hS => ?_)
  obtain ⟨hr_1, hms_1⟩ := hr_1
  subst hr_1
  exact x_iretW S hlocks hP hS hr rfl (⟨rfl, hms_1⟩) dX9_disputed_4
set_option maxHeartbeats 4000000 in
set_option maxRecDepth 100000 in
theorem c_X9_forget (l : Launch) {D : va_G} {K : Nat → ClassId} {α : Nat → Nat} (σ : Nat → Nat → Int32) (hI : xw_I 20 α) (x : Int32)  (hC : xIM σ) : Met l yX9_forget wsX9_forget (xrm 1) (va_Pc [.ref (α 0), .int x] (xPre D K 20 α (xM α K) σ)) (xQi D 20 α (xM α K) (fun r τ => r = xp_forget (xcM σ) (xsM σ) x ∧ τ = xst_mforget σ x)) 0 0 (xw_R 20 α) := by
  refine Met.ofW (cc := cX9_forget) (maxL := 3) (ret := (some .int)) (by decide) rfl ?_
  intro p e s m args below meth c s₁ B hml hv
  obtain ⟨rfl, hK, hP⟩ := hv
  have S : CallFix p m c cX9_forget 3 s _ wsX9_forget RX9 := ⟨B.exec, B.bytes, hml, findClass_of_methodNamed B.named, atoms_spec (ws := wsX9_forget) B.pre⟩
  have hx := S.1
  have hb := S.2.1
  have hr := B.returns
  have hlocks := B.notSynchronized
  have hS : va_S (xw_R 20 α) s.heap s.heap [] := va_S.rf
  have hl := lv_entry ([.ref (α 0), .int x]) (n := 3) (Nat.le_of_ble_eq_true rfl)
  rw [lg_entry_eq]
  generalize (lg_sl ([.ref (α 0), .int x]) ++ List.replicate (3 - (lg_sl ([.ref (α 0), .int x])).length) Slot.unset).toArray = ls at hl ⊢
  have hl : lv_has ls 3 [(0, .ref (α 0)), (1, .int x)] := hl
  have hPP := hP
  have hY := xIM_Y hC
  have hY12 := xIM_12 hC
  obtain ⟨⟨hL, hL9⟩, ⟨hcs, hcn, hc1, hc2⟩, ⟨hss, hsn, hs1, hs2⟩, hfe, hsh⟩ := id hC
  generalize hLe : xLM σ = L at hL hL9 ⊢
  generalize hYe : xYM σ = Y at hY hY12 ⊢
  generalize hcne : xcM σ = cn at hcs hcn hc1 hc2 ⊢
  generalize hsne : xsM σ = sn at hss hsn hs1 hs2 ⊢
  refine lv_iload_n hx hb dX9_forget_0 rfl (lv_at hl 1 rfl) ?_
  refine lv_iconst (v := nI 0) hx hb dX9_forget_1 (by decide) ?_
  refine lv_iconst (v := nI 1) hx hb dX9_forget_2 (by decide) ?_
  refine x_cSi (As := [.int x, .int (nI 0), .int (nI 1)]) (rest := []) S (c_X9_in0 l x 1  (by first | assumption | omega)) (x_cwS (n0 := 3) S gX9_forget_X9_in rfl (by decide +kernel) ⟨Nat.le_of_ble_eq_true rfl, Nat.le_of_ble_eq_true rfl⟩) rfl hl.1 rfl (Nat.le_of_ble_eq_true rfl) dX9_forget_3 ⟨Nat.le_refl _, Nat.le_refl _⟩ (fun r_3 hr_3 => ?_)
  subst hr_3
  refine x_if_neB (tgt := 12) S dX9_forget_6 (by decide) (fun c_6 => ?_) (fun c_6 => ?_)
  · obtain ⟨w, hw, rfl⟩ := xin_of c_6 (by omega)
    rcases (show w = 0 ∨ w = 1 by omega) with rfl | rfl
    · skip
      refine lv_iload_n hx hb dX9_forget_12 rfl (lv_at hl 1 rfl) ?_
      refine x_ifN_ne (tgt := 23) S dX9_forget_13 (by decide) (by omega) (fun q => absurd q (by omega)) (fun _ => ?_)
      refine lv_aload_n hx hb dX9_forget_16 rfl (lv_at hl 0 rfl) ?_
      refine x_get S (fun w h => List.mem_cons_of_mem _ (List.mem_append_right _ h)) hK hP 0 (by omega) rfl rfl 10 (by decide) (List.mem_of_getElem? (i := 1) rfl) rfl dX9_forget_17 ?_
      refine x_top S (y := nI cn) (hcs) ?_
      refine lv_goto (tgt := 27) hx hb dX9_forget_20 (by decide) ?_
      refine lv_istore_n (lv' := [(2, .int (nI cn)), (0, .ref (α 0)), (1, .int (nI 0))]) hx hb dX9_forget_27 rfl hl (by decide) rfl (fun ls hl => ?_)
      refine lv_aload_n hx hb dX9_forget_28 rfl (lv_at hl 1 rfl) ?_
      refine lv_iload_n hx hb dX9_forget_29 rfl (lv_at hl 2 rfl) ?_
      refine x_ifN_ne (tgt := 37) S dX9_forget_30 (by decide) (by omega) (fun q => absurd q (by omega)) (fun _ => ?_)
      refine lv_iconst (v := nI 0) hx hb dX9_forget_33 (by decide) ?_
      refine lv_goto (tgt := 41) hx hb dX9_forget_34 (by decide) ?_
      refine x_put S (fun w h => List.mem_cons_of_mem _ (List.mem_append_right _ h)) tyX9 tyX9_ok nmX9 hK hP hI hS 0 (by omega) rfl rfl 10 (by decide) (List.mem_of_getElem? (i := 1) rfl) rfl (ty := .int) (v := .int (nI 0)) (by decide +kernel) rfl rfl (Nat.le_of_ble_eq_true rfl) (upd (σ 0) 10 (nI 0)) rfl dX9_forget_41 (fun H locs hP hS => ?_)
      refine lv_aload_n hx hb dX9_forget_44 rfl (lv_at hl 1 rfl) ?_
      refine lv_iload_n hx hb dX9_forget_45 rfl (lv_at hl 2 rfl) ?_
      refine lv_iconst (v := nI 1) hx hb dX9_forget_46 (by decide) ?_
      refine x_icmpN_ne (tgt := 54) S dX9_forget_47 (by decide) (by omega) (by omega) (fun _ => ?_) (fun q => absurd q (by omega))
      refine lv_aload_n hx hb dX9_forget_54 rfl (lv_at hl 1 rfl) ?_
      refine x_get S (fun w h => List.mem_cons_of_mem _ (List.mem_append_right _ h)) hK hP 0 (by omega) rfl rfl 14 (by decide) (List.mem_of_getElem? (i := 2) rfl) rfl dX9_forget_55 ?_
      refine x_put S (fun w h => List.mem_cons_of_mem _ (List.mem_append_right _ h)) tyX9 tyX9_ok nmX9 hK hP hI hS 0 (by omega) rfl rfl 14 (by decide) (List.mem_of_getElem? (i := 2) rfl) rfl (ty := .int) (v := .int ((va_up σ 0 (upd (σ 0) 10 (nI 0))) 0 14)) (by decide +kernel) rfl rfl (Nat.le_of_ble_eq_true rfl) (upd ((va_up σ 0 (upd (σ 0) 10 (nI 0))) 0) 14 ((va_up σ 0 (upd (σ 0) 10 (nI 0))) 0 14)) rfl dX9_forget_58 (fun H locs hP hS => ?_)
      refine lv_iload_n hx hb dX9_forget_61 rfl (lv_at hl 0 rfl) ?_
      exact x_iretW S hlocks hP hS hr rfl (⟨by rw [xp_forget, if_pos (xin_nI (by decide) (by decide))]; rfl, by rw [xst_mforget, if_pos (xin_nI (by decide) (by decide)), if_pos (show nI 0 = 0 from rfl), bx_uu, xup_s]; exact congrArg (va_up σ 0) (by first | (rw [xud (f := upd (σ 0) 10 (nI 0)) rfl]) | (rw [xud (f := σ 0) (j := 10) rfl]))⟩) dX9_forget_62
    · skip
      refine lv_iload_n hx hb dX9_forget_12 rfl (lv_at hl 1 rfl) ?_
      refine x_ifN_ne (tgt := 23) S dX9_forget_13 (by decide) (by omega) (fun _ => ?_) (fun q => absurd q (by omega))
      refine lv_aload_n hx hb dX9_forget_23 rfl (lv_at hl 0 rfl) ?_
      refine x_get S (fun w h => List.mem_cons_of_mem _ (List.mem_append_right _ h)) hK hP 0 (by omega) rfl rfl 14 (by decide) (List.mem_of_getElem? (i := 2) rfl) rfl dX9_forget_24 ?_
      refine x_top S (y := nI sn) (hss) ?_
      refine lv_istore_n (lv' := [(2, .int (nI sn)), (0, .ref (α 0)), (1, .int (nI 1))]) hx hb dX9_forget_27 rfl hl (by decide) rfl (fun ls hl => ?_)
      refine lv_aload_n hx hb dX9_forget_28 rfl (lv_at hl 1 rfl) ?_
      refine lv_iload_n hx hb dX9_forget_29 rfl (lv_at hl 2 rfl) ?_
      refine x_ifN_ne (tgt := 37) S dX9_forget_30 (by decide) (by omega) (fun _ => ?_) (fun q => absurd q (by omega))
      refine lv_aload_n hx hb dX9_forget_37 rfl (lv_at hl 1 rfl) ?_
      refine x_get S (fun w h => List.mem_cons_of_mem _ (List.mem_append_right _ h)) hK hP 0 (by omega) rfl rfl 10 (by decide) (List.mem_of_getElem? (i := 1) rfl) rfl dX9_forget_38 ?_
      refine x_put S (fun w h => List.mem_cons_of_mem _ (List.mem_append_right _ h)) tyX9 tyX9_ok nmX9 hK hP hI hS 0 (by omega) rfl rfl 10 (by decide) (List.mem_of_getElem? (i := 1) rfl) rfl (ty := .int) (v := .int (σ 0 10)) (by decide +kernel) rfl rfl (Nat.le_of_ble_eq_true rfl) (upd (σ 0) 10 (σ 0 10)) rfl dX9_forget_41 (fun H locs hP hS => ?_)
      refine lv_aload_n hx hb dX9_forget_44 rfl (lv_at hl 1 rfl) ?_
      refine lv_iload_n hx hb dX9_forget_45 rfl (lv_at hl 2 rfl) ?_
      refine lv_iconst (v := nI 1) hx hb dX9_forget_46 (by decide) ?_
      refine x_icmpN_ne (tgt := 54) S dX9_forget_47 (by decide) (by omega) (by omega) (fun q => absurd q (by omega)) (fun _ => ?_)
      refine lv_iconst (v := nI 0) hx hb dX9_forget_50 (by decide) ?_
      refine lv_goto (tgt := 58) hx hb dX9_forget_51 (by decide) ?_
      refine x_put S (fun w h => List.mem_cons_of_mem _ (List.mem_append_right _ h)) tyX9 tyX9_ok nmX9 hK hP hI hS 0 (by omega) rfl rfl 14 (by decide) (List.mem_of_getElem? (i := 2) rfl) rfl (ty := .int) (v := .int (nI 0)) (by decide +kernel) rfl rfl (Nat.le_of_ble_eq_true rfl) (upd ((va_up σ 0 (upd (σ 0) 10 (σ 0 10))) 0) 14 (nI 0)) rfl dX9_forget_58 (fun H locs hP hS => ?_)
      refine lv_iload_n hx hb dX9_forget_61 rfl (lv_at hl 0 rfl) ?_
      exact x_iretW S hlocks hP hS hr rfl (⟨by rw [xp_forget, if_pos (xin_nI (by decide) (by decide))]; rfl, by rw [xst_mforget, if_pos (xin_nI (by decide) (by decide)), if_neg (show ¬ nI 1 = 0 by decide), bx_uu, xup_s]; exact congrArg (va_up σ 0) (by first | (rw [xud (f := upd (σ 0) 10 (nI 0)) rfl]) | (rw [xud (f := σ 0) (j := 10) rfl]))⟩) dX9_forget_62
  · refine lv_bipush (v := (-2)) hx hb dX9_forget_9 (by decide) ?_
    exact x_iretW S hlocks hP hS hr rfl (⟨by rw [xp_forget, if_neg c_6], by rw [xst_mforget, if_neg c_6]⟩) dX9_forget_11

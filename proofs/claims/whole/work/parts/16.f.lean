set_option maxHeartbeats 4000000 in
set_option maxRecDepth 100000 in
theorem c_J7_fill_53178 (l : Launch) {D : va_G} {K : Nat → ClassId} {α : Nat → Nat} (σ : Nat → Nat → Int32) (hI : xw_I 42 α) (v : Int32) (w : Nat)  (hw : w < 4) : Met l yJ7_fill_53178 wsJ7_fill_53178 (xrm 0) (va_Pc [.ref (α (35 + 2 * w)), .int v] (xPre D K 42 α (xC α K) σ)) (xQv D 42 α (xC α K) (fun τ => τ = va_up σ (35 + 2 * w) (fa_fill (fun _ => v) (σ (35 + 2 * w)) 48))) 0 0 (xw_R 42 α) := by
  refine Met.ofW (cc := cJ7_fill_53178) (maxL := 4) (ret := none) (by decide) rfl ?_
  intro p e s m args below meth c s₁ B hml hv
  obtain ⟨rfl, hK, hP⟩ := hv
  have S : CallFix p m c cJ7_fill_53178 4 s _ wsJ7_fill_53178 RJ7 := ⟨B.exec, B.bytes, hml, findClass_of_methodNamed B.named, atoms_spec (ws := wsJ7_fill_53178) B.pre⟩
  have hx := S.1
  have hb := S.2.1
  have hr := B.returns
  have hlocks := B.notSynchronized
  have hS : va_S (xw_R 42 α) s.heap s.heap [] := va_S.rf
  have hl := lv_entry ([.ref (α (35 + 2 * w)), .int v]) (n := 4) (Nat.le_of_ble_eq_true rfl)
  rw [lg_entry_eq]
  generalize (lg_sl ([.ref (α (35 + 2 * w)), .int v]) ++ List.replicate (4 - (lg_sl ([.ref (α (35 + 2 * w)), .int v])).length) Slot.unset).toArray = ls at hl ⊢
  have hl : lv_has ls 4 [(0, .ref (α (35 + 2 * w))), (1, .int v)] := hl
  have hPP := hP
  refine lv_iconst (v := nI 0) hx hb dJ7_fill_53178_0 (by decide) ?_
  refine lv_istore_n (lv' := [(2, .int (nI 0)), (0, .ref (α (35 + 2 * w))), (1, .int v)]) hx hb dJ7_fill_53178_1 rfl hl (by decide) rfl (fun ls hl => ?_)
  refine lv_aload_n hx hb dJ7_fill_53178_2 rfl (lv_at hl 1 rfl) ?_
  refine x_alen S hK hP (35 + 2 * w) (by omega) (xC_i (by first | assumption | omega) _) dJ7_fill_53178_3 ?_
  refine lv_istore_n (lv' := [(3, .int (nI 48)), (2, .int (nI 0)), (0, .ref (α (35 + 2 * w))), (1, .int v)]) hx hb dJ7_fill_53178_4 rfl hl (by decide) rfl (fun ls hl => ?_)
  refine x_loopW (ι := Nat) (fun i H locs ls => (i ≤ 48) ∧ lv_has ls 4 [(3, .int (nI 48)), (2, .int (nI i)), (0, .ref (α (35 + 2 * w))), (1, .int v)] ∧ va_P D vwCl (xw 42 α (xC α K) (va_up σ (35 + 2 * w) (fa_fill (fun _ => v) (σ (35 + 2 * w)) i))) H ∧ va_S (xw_R 42 α) s.heap H locs) (fun i => 48 - i) ?_ 0 ls ⟨Nat.zero_le _, lv_sub hl [0, 1, 2, 3] rfl, (by rw [show va_up σ (35 + 2 * w) (fa_fill (fun _ => v) (σ (35 + 2 * w)) 0) = σ from by rw [fa_fill_0]; exact xup_id _ _]; exact hP), hS⟩
  intro i H locs ls hinv ih_5
  obtain ⟨hi, hl, hP, hS⟩ := hinv
  have hl : lv_has ls 4 [(3, .int (nI 48)), (2, .int (nI i)), (0, .ref (α (35 + 2 * w))), (1, .int v)] := hl
  have hP : va_P D vwCl (xw 42 α (xC α K) (va_up σ (35 + 2 * w) (fa_fill (fun _ => v) (σ (35 + 2 * w)) i))) H := hP
  refine lv_iload_n hx hb dJ7_fill_53178_5 rfl (lv_at hl 1 rfl) ?_
  refine lv_iload_n hx hb dJ7_fill_53178_6 rfl (lv_at hl 0 rfl) ?_
  refine x_icmpN_ge (tgt := 20) S dJ7_fill_53178_7 (by decide) (by omega) (by omega) (fun c_7 => ?_) (fun c_7 => ?_)
  · have e9 : i = 48 := by omega
    subst e9
    exact x_vretW S hlocks hP hS hr (rfl) dJ7_fill_53178_20
  · refine lv_aload_n hx hb dJ7_fill_53178_10 rfl (lv_at hl 2 rfl) ?_
    refine lv_iload_n hx hb dJ7_fill_53178_11 rfl (lv_at hl 1 rfl) ?_
    refine lv_iload_n hx hb dJ7_fill_53178_12 rfl (lv_at hl 3 rfl) ?_
    refine x_iast S hK hP hI hS (35 + 2 * w) (by omega) (fun v => xC_i (by first | assumption | omega) v) (by first | assumption | omega) (by omega) dJ7_fill_53178_13 (fun H locs hP hS => ?_)
    have hP : va_P D vwCl (xw 42 α (xC α K) (va_up σ (35 + 2 * w) (fa_fill (fun _ => v) (σ (35 + 2 * w)) (i + 1)))) H := by
      rw [show va_up σ (35 + 2 * w) (fa_fill (fun _ => v) (σ (35 + 2 * w)) (i + 1)) = (va_up (va_up σ (35 + 2 * w) (fa_fill (fun _ => v) (σ (35 + 2 * w)) i)) (35 + 2 * w) (upd ((va_up σ (35 + 2 * w) (fa_fill (fun _ => v) (σ (35 + 2 * w)) i)) (35 + 2 * w)) i v)) from by rw [bx_uu, xup_s, ← fa_fill_succ]]; exact hP
    refine lv_iinc (v := nI (i + 1)) (lv' := [(2, .int (nI (i + 1))), (3, .int (nI 48)), (0, .ref (α (35 + 2 * w))), (1, .int v)]) hx hb dJ7_fill_53178_14 hl (k := 1) rfl (nI_add i 1) (by decide) rfl (fun ls hl => ?_)
    refine lv_goto (tgt := 5) hx hb dJ7_fill_53178_17 (by decide) ?_
    exact ih_5 (i + 1) H locs ls ⟨(by omega), lv_sub hl [1, 0, 2, 3] rfl, hP, hS⟩ (by (try dsimp only); omega)
set_option maxHeartbeats 4000000 in
set_option maxRecDepth 100000 in
theorem c_X5_renew (l : Launch) {D : va_G} {K : Nat → ClassId} {α : Nat → Nat} (σ : Nat → Nat → Int32) (hI : xw_I 42 α) (f : Int32) (n : Int32) (w : Nat)  (hw : w < 4) : Met l yX5_renew wsX5_renew (xrm 1) (va_Pc [.ref (α (34 + 2 * w)), .int f, .int n] (xPre D K 42 α (xC α K) σ)) (xQv D 42 α (xC α K) (fun τ => τ = xst_new σ w f n)) 0 0 (xw_R 42 α) := by
  refine Met.ofW (cc := cX5_renew) (maxL := 3) (ret := none) (by decide) rfl ?_
  intro p e s m args below meth c s₁ B hml hv
  obtain ⟨rfl, hK, hP⟩ := hv
  have S : CallFix p m c cX5_renew 3 s _ wsX5_renew RX5 := ⟨B.exec, B.bytes, hml, findClass_of_methodNamed B.named, atoms_spec (ws := wsX5_renew) B.pre⟩
  have hx := S.1
  have hb := S.2.1
  have hr := B.returns
  have hlocks := B.notSynchronized
  have hS : va_S (xw_R 42 α) s.heap s.heap [] := va_S.rf
  have hl := lv_entry ([.ref (α (34 + 2 * w)), .int f, .int n]) (n := 3) (Nat.le_of_ble_eq_true rfl)
  rw [lg_entry_eq]
  generalize (lg_sl ([.ref (α (34 + 2 * w)), .int f, .int n]) ++ List.replicate (3 - (lg_sl ([.ref (α (34 + 2 * w)), .int f, .int n])).length) Slot.unset).toArray = ls at hl ⊢
  have hl : lv_has ls 3 [(0, .ref (α (34 + 2 * w))), (1, .int f), (2, .int n)] := hl
  have hPP := hP
  refine lv_aload_n hx hb dX5_renew_0 rfl (lv_at hl 0 rfl) ?_
  refine x_get S (fun w h => List.mem_cons_of_mem _ (List.mem_append_right _ h)) hK hP (34 + 2 * w) (by omega) (xC_s (by first | assumption | omega) _) rfl 0 (by decide) (List.mem_of_getElem? (i := 1) rfl) rfl dX5_renew_1 ?_
  refine lv_iconst (v := nI 0) hx hb dX5_renew_4 (by decide) ?_
  refine x_cSWv (As := [.ref (α (35 + 2 * w)), .int (nI 0)]) (rest := []) S hK hP hS (fun _ h => h) (c_J7_fill_53178 l σ hI (nI 0) w  (by first | assumption | omega)) (x_cwS (n0 := 2) S gX5_renew_J7_fill_53178 rfl (by decide +kernel) ⟨Nat.le_of_ble_eq_true rfl, Nat.le_of_ble_eq_true rfl⟩) rfl hl.1 rfl (Nat.le_of_ble_eq_true rfl) dX5_renew_5 ⟨Nat.le_refl _, Nat.le_refl _⟩ (fun τ_5 H locs hr_5 hP hk_5 hS => ?_)
  subst hr_5
  refine lv_aload_n hx hb dX5_renew_8 rfl (lv_at hl 0 rfl) ?_
  refine lv_iconst (v := nI 0) hx hb dX5_renew_9 (by decide) ?_
  refine x_put S (fun w h => List.mem_cons_of_mem _ (List.mem_append_right _ h)) tyX5 tyX5_ok nmX5 hK hP hI hS (34 + 2 * w) (by omega) (xC_s (by first | assumption | omega) _) rfl 1 (by decide) (List.mem_of_getElem? (i := 2) rfl) rfl (ty := .boolean) (v := .int (nI 0)) (by decide +kernel) rfl rfl (Nat.le_of_ble_eq_true rfl) (upd ((va_up σ (35 + 2 * w) (fa_fill (fun _ => (nI 0)) (σ (35 + 2 * w)) 48)) (34 + 2 * w)) 1 (nI 0)) (by rw [xC_s (by first | assumption | omega)]; rfl) dX5_renew_10 (fun H locs hP hS => ?_)
  refine lv_aload_n hx hb dX5_renew_13 rfl (lv_at hl 0 rfl) ?_
  refine lv_iload_n hx hb dX5_renew_14 rfl (lv_at hl 1 rfl) ?_
  refine x_put S (fun w h => List.mem_cons_of_mem _ (List.mem_append_right _ h)) tyX5 tyX5_ok nmX5 hK hP hI hS (34 + 2 * w) (by omega) (xC_s (by first | assumption | omega) _) rfl 2 (by decide) (List.mem_of_getElem? (i := 3) rfl) rfl (ty := .int) (v := .int f) (by decide +kernel) rfl rfl (Nat.le_of_ble_eq_true rfl) (upd ((va_up (va_up σ (35 + 2 * w) (fa_fill (fun _ => (nI 0)) (σ (35 + 2 * w)) 48)) (34 + 2 * w) (upd ((va_up σ (35 + 2 * w) (fa_fill (fun _ => (nI 0)) (σ (35 + 2 * w)) 48)) (34 + 2 * w)) 1 (nI 0))) (34 + 2 * w)) 2 f) (by rw [xC_s (by first | assumption | omega)]; rfl) dX5_renew_15 (fun H locs hP hS => ?_)
  refine lv_aload_n hx hb dX5_renew_18 rfl (lv_at hl 0 rfl) ?_
  refine lv_iload_n hx hb dX5_renew_19 rfl (lv_at hl 2 rfl) ?_
  refine x_put S (fun w h => List.mem_cons_of_mem _ (List.mem_append_right _ h)) tyX5 tyX5_ok nmX5 hK hP hI hS (34 + 2 * w) (by omega) (xC_s (by first | assumption | omega) _) rfl 3 (by decide) (List.mem_of_getElem? (i := 4) rfl) rfl (ty := .int) (v := .int n) (by decide +kernel) rfl rfl (Nat.le_of_ble_eq_true rfl) (upd ((va_up (va_up (va_up σ (35 + 2 * w) (fa_fill (fun _ => (nI 0)) (σ (35 + 2 * w)) 48)) (34 + 2 * w) (upd ((va_up σ (35 + 2 * w) (fa_fill (fun _ => (nI 0)) (σ (35 + 2 * w)) 48)) (34 + 2 * w)) 1 (nI 0))) (34 + 2 * w) (upd ((va_up (va_up σ (35 + 2 * w) (fa_fill (fun _ => (nI 0)) (σ (35 + 2 * w)) 48)) (34 + 2 * w) (upd ((va_up σ (35 + 2 * w) (fa_fill (fun _ => (nI 0)) (σ (35 + 2 * w)) 48)) (34 + 2 * w)) 1 (nI 0))) (34 + 2 * w)) 2 f)) (34 + 2 * w)) 3 n) (by rw [xC_s (by first | assumption | omega)]; rfl) dX5_renew_20 (fun H locs hP hS => ?_)
  exact x_vretW S hlocks hP hS hr (by unfold xst_new; simp only [bx_uu, xup_s]; rw [xup_n _ _ (by omega)]) dX5_renew_23
set_option maxHeartbeats 4000000 in
set_option maxRecDepth 100000 in
theorem c_X5_findingAt (l : Launch) {D : va_G} {K : Nat → ClassId} {α : Nat → Nat} (σ : Nat → Nat → Int32) (f : Int32) (i : Int32) (w : Nat)  (hw : w < 4) : Met l yX5_findingAt wsX5_findingAt (xrm 1) (va_Pc [.ref (α (34 + 2 * w)), .int f, .int i] (xPre D K 42 α (xC α K) σ)) (vp_Si (fun r => r = xs_find (σ (34 + 2 * w)) f i)) 0 0 (fun _ => False) := by
  refine Met.ofW (cc := cX5_findingAt) (maxL := 3) (ret := (some .int)) (by decide) rfl ?_
  intro p e s m args below meth c s₁ B hml hv
  obtain ⟨rfl, hK, hP⟩ := hv
  have S : CallFix p m c cX5_findingAt 3 s _ wsX5_findingAt RX5 := ⟨B.exec, B.bytes, hml, findClass_of_methodNamed B.named, atoms_spec (ws := wsX5_findingAt) B.pre⟩
  have hx := S.1
  have hb := S.2.1
  have hr := B.returns
  have hlocks := B.notSynchronized
  have hl := lv_entry ([.ref (α (34 + 2 * w)), .int f, .int i]) (n := 3) (Nat.le_of_ble_eq_true rfl)
  rw [lg_entry_eq]
  generalize (lg_sl ([.ref (α (34 + 2 * w)), .int f, .int i]) ++ List.replicate (3 - (lg_sl ([.ref (α (34 + 2 * w)), .int f, .int i])).length) Slot.unset).toArray = ls at hl ⊢
  have hl : lv_has ls 3 [(0, .ref (α (34 + 2 * w))), (1, .int f), (2, .int i)] := hl
  have hPP := hP
  refine lv_aload_n hx hb dX5_findingAt_0 rfl (lv_at hl 0 rfl) ?_
  refine x_get S (fun w h => List.mem_cons_of_mem _ (List.mem_append_right _ h)) hK hP (34 + 2 * w) (by omega) (xC_s (by first | assumption | omega) _) rfl 1 (by decide) (List.mem_of_getElem? (i := 1) rfl) rfl dX5_findingAt_1 ?_
  refine lv_if_eq (tgt := 9) hx hb dX5_findingAt_4 (by decide) (fun c_4 => ?_) (fun c_4 => ?_)
  · refine lv_aload_n hx hb dX5_findingAt_9 rfl (lv_at hl 0 rfl) ?_
    refine x_get S (fun w h => List.mem_cons_of_mem _ (List.mem_append_right _ h)) hK hP (34 + 2 * w) (by omega) (xC_s (by first | assumption | omega) _) rfl 2 (by decide) (List.mem_of_getElem? (i := 2) rfl) rfl dX5_findingAt_10 ?_
    refine lv_iload_n hx hb dX5_findingAt_13 rfl (lv_at hl 1 rfl) ?_
    refine lv_icmp_eq (tgt := 19) hx hb dX5_findingAt_14 (by decide) (fun c_14 => ?_) (fun c_14 => ?_)
    · refine lv_iload_n hx hb dX5_findingAt_19 rfl (lv_at hl 2 rfl) ?_
      refine lv_aload_n hx hb dX5_findingAt_20 rfl (lv_at hl 0 rfl) ?_
      refine x_get S (fun w h => List.mem_cons_of_mem _ (List.mem_append_right _ h)) hK hP (34 + 2 * w) (by omega) (xC_s (by first | assumption | omega) _) rfl 3 (by decide) (List.mem_of_getElem? (i := 3) rfl) rfl dX5_findingAt_21 ?_
      refine x_cNi (As := [.int i, .int (σ (34 + 2 * w) 3)]) (rest := []) S (c_X8_isBelow l i (σ (34 + 2 * w) 3)  ) (x_cwN (n0 := 2) S gX5_findingAt_X8_isBelow_n32 rfl hK.2.2.2.2.1 (List.mem_of_getElem? (i := 5) rfl) (List.mem_of_getElem? (i := 4) rfl) (by decide +kernel) ⟨Nat.le_of_ble_eq_true rfl, Nat.le_of_ble_eq_true rfl⟩) rfl hl.1 rfl (Nat.le_of_ble_eq_true rfl) dX5_findingAt_24 ⟨Nat.le_refl _, Nat.le_refl _⟩ (fun r_24 hr_24 => ?_)
      subst hr_24
      refine x_if_eqB (tgt := 34) S dX5_findingAt_27 (by decide) (fun c_27 => ?_) (fun c_27 => ?_)
      · refine lv_iconst (v := nI 2) hx hb dX5_findingAt_34 (by decide) ?_
        exact x_iretR S hlocks hr rfl (by rw [xs_find, if_neg (fun q => q c_4), if_neg (fun q => q c_14), if_neg c_27]) dX5_findingAt_35
      · refine lv_iconst (v := nI 0) hx hb dX5_findingAt_30 (by decide) ?_
        refine lv_goto (tgt := 35) hx hb dX5_findingAt_31 (by decide) ?_
        exact x_iretR S hlocks hr rfl (by rw [xs_find, if_neg (fun q => q c_4), if_neg (fun q => q c_14), if_pos c_27]) dX5_findingAt_35
    · refine lv_iconst (v := nI 3) hx hb dX5_findingAt_17 (by decide) ?_
      exact x_iretR S hlocks hr rfl (by rw [xs_find, if_neg (fun q => q c_4), if_pos c_14]) dX5_findingAt_18
  · refine lv_iconst (v := nI 1) hx hb dX5_findingAt_7 (by decide) ?_
    exact x_iretR S hlocks hr rfl (by rw [xs_find, if_pos c_4]) dX5_findingAt_8
set_option maxHeartbeats 4000000 in
set_option maxRecDepth 100000 in
theorem c_X5_narrowed (l : Launch) {D : va_G} {K : Nat → ClassId} {α : Nat → Nat} (σ : Nat → Nat → Int32) (v : Int32) (w : Nat) (f : Nat)  (hw : w < 4) (hf : σ (34 + 2 * w) 2 = nI f) (hf3 : f < 3) : Met l yX5_narrowed wsX5_narrowed (xrm 0) (va_Pc [.ref (α (34 + 2 * w)), .int v] (xPre D K 42 α (xC α K) σ)) (vp_Si (fun r => r = xs_nar f v)) 0 0 (fun _ => False) := by
  refine Met.ofW (cc := cX5_narrowed) (maxL := 2) (ret := (some .int)) (by decide) rfl ?_
  intro p e s m args below meth c s₁ B hml hv
  obtain ⟨rfl, hK, hP⟩ := hv
  have S : CallFix p m c cX5_narrowed 2 s _ wsX5_narrowed RX5 := ⟨B.exec, B.bytes, hml, findClass_of_methodNamed B.named, atoms_spec (ws := wsX5_narrowed) B.pre⟩
  have hx := S.1
  have hb := S.2.1
  have hr := B.returns
  have hlocks := B.notSynchronized
  have hl := lv_entry ([.ref (α (34 + 2 * w)), .int v]) (n := 2) (Nat.le_of_ble_eq_true rfl)
  rw [lg_entry_eq]
  generalize (lg_sl ([.ref (α (34 + 2 * w)), .int v]) ++ List.replicate (2 - (lg_sl ([.ref (α (34 + 2 * w)), .int v])).length) Slot.unset).toArray = ls at hl ⊢
  have hl : lv_has ls 2 [(0, .ref (α (34 + 2 * w))), (1, .int v)] := hl
  have hPP := hP
  refine lv_aload_n hx hb dX5_narrowed_0 rfl (lv_at hl 0 rfl) ?_
  refine x_get S (fun w h => List.mem_cons_of_mem _ (List.mem_append_right _ h)) hK hP (34 + 2 * w) (by omega) (xC_s (by first | assumption | omega) _) rfl 2 (by decide) (List.mem_of_getElem? (i := 1) rfl) rfl dX5_narrowed_1 ?_
  refine x_top S (y := nI f) (hf) ?_
  rcases (show f = 0 ∨ f = 1 ∨ f = 2 by omega) with rfl | rfl | rfl
  · refine lv_lookup (off := 28) (tgt := 32) hx hb dX5_narrowed_4 (by decide) (by decide) (by decide) ?_
    refine lv_iload_n hx hb dX5_narrowed_32 rfl (lv_at hl 1 rfl) ?_
    refine lv_i2b hx hb dX5_narrowed_33 rfl ?_
    exact x_iretR S hlocks hr rfl (rfl) dX5_narrowed_34
  · refine lv_lookup (off := 31) (tgt := 35) hx hb dX5_narrowed_4 (by decide) (by decide) (by decide) ?_
    refine lv_iload_n hx hb dX5_narrowed_35 rfl (lv_at hl 1 rfl) ?_
    refine lv_i2s hx hb dX5_narrowed_36 rfl ?_
    exact x_iretR S hlocks hr rfl (rfl) dX5_narrowed_37
  · refine lv_lookup (off := 34) (tgt := 38) hx hb dX5_narrowed_4 (by decide) (by decide) (by decide) ?_
    refine lv_iload_n hx hb dX5_narrowed_38 rfl (lv_at hl 1 rfl) ?_
    exact x_iretR S hlocks hr rfl (rfl) dX5_narrowed_39
set_option maxHeartbeats 4000000 in
set_option maxRecDepth 100000 in
theorem c_X5_set (l : Launch) {D : va_G} {K : Nat → ClassId} {α : Nat → Nat} (σ : Nat → Nat → Int32) (hI : xw_I 42 α) (i : Nat) (v : Int32) (w : Nat) (f : Nat)  (hw : w < 4) (hf : σ (34 + 2 * w) 2 = nI f) (hf3 : f < 3) (hi : i < 48) : Met l yX5_set wsX5_set (xrm 1) (va_Pc [.ref (α (34 + 2 * w)), .int (nI i), .int v] (xPre D K 42 α (xC α K) σ)) (xQv D 42 α (xC α K) (fun τ => τ = va_up σ (35 + 2 * w) (upd (σ (35 + 2 * w)) i (xs_nar f v)))) 0 0 (xw_R 42 α) := by
  refine Met.ofW (cc := cX5_set) (maxL := 3) (ret := none) (by decide) rfl ?_
  intro p e s m args below meth c s₁ B hml hv
  obtain ⟨rfl, hK, hP⟩ := hv
  have S : CallFix p m c cX5_set 3 s _ wsX5_set RX5 := ⟨B.exec, B.bytes, hml, findClass_of_methodNamed B.named, atoms_spec (ws := wsX5_set) B.pre⟩
  have hx := S.1
  have hb := S.2.1
  have hr := B.returns
  have hlocks := B.notSynchronized
  have hS : va_S (xw_R 42 α) s.heap s.heap [] := va_S.rf
  have hl := lv_entry ([.ref (α (34 + 2 * w)), .int (nI i), .int v]) (n := 3) (Nat.le_of_ble_eq_true rfl)
  rw [lg_entry_eq]
  generalize (lg_sl ([.ref (α (34 + 2 * w)), .int (nI i), .int v]) ++ List.replicate (3 - (lg_sl ([.ref (α (34 + 2 * w)), .int (nI i), .int v])).length) Slot.unset).toArray = ls at hl ⊢
  have hl : lv_has ls 3 [(0, .ref (α (34 + 2 * w))), (1, .int (nI i)), (2, .int v)] := hl
  have hPP := hP
  refine lv_aload_n hx hb dX5_set_0 rfl (lv_at hl 0 rfl) ?_
  refine x_get S (fun w h => List.mem_cons_of_mem _ (List.mem_append_right _ h)) hK hP (34 + 2 * w) (by omega) (xC_s (by first | assumption | omega) _) rfl 0 (by decide) (List.mem_of_getElem? (i := 1) rfl) rfl dX5_set_1 ?_
  refine lv_iload_n hx hb dX5_set_4 rfl (lv_at hl 1 rfl) ?_
  refine lv_aload_n hx hb dX5_set_5 rfl (lv_at hl 0 rfl) ?_
  refine lv_iload_n hx hb dX5_set_6 rfl (lv_at hl 2 rfl) ?_
  refine x_cVRi (As := [.int v]) (rest := [.int (nI i), .ref (α (35 + 2 * w))]) S hK hP (34 + 2 * w) (by omega) (xC_s (by first | assumption | omega) _) rfl (c_X5_narrowed l σ v w f  (by first | assumption | omega) (by first | assumption | omega) (by first | assumption | omega)) (x_cwV (n0 := 1) (cq := (RX5, TX5, 4)) S gX5_set_X5_narrowed rfl (by decide +kernel) ⟨Nat.le_of_ble_eq_true rfl, Nat.le_of_ble_eq_true rfl⟩) rfl hl.1 rfl (Nat.le_of_ble_eq_true rfl) dX5_set_7 ⟨Nat.le_refl _, Nat.le_refl _⟩ (fun r_7 hr_7 => ?_)
  subst hr_7
  refine x_iast S hK hP hI hS (35 + 2 * w) (by omega) (fun v => xC_i (by first | assumption | omega) v) (by first | assumption | omega) (by omega) dX5_set_10 (fun H locs hP hS => ?_)
  exact x_vretW S hlocks hP hS hr (rfl) dX5_set_11
set_option maxHeartbeats 4000000 in
set_option maxRecDepth 100000 in
theorem c_X5_hasRange (l : Launch) {D : va_G} {K : Nat → ClassId} {α : Nat → Nat} (σ : Nat → Nat → Int32) (x : Int32) (n : Int32) (w : Nat)  (hw : w < 4) : Met l yX5_hasRange wsX5_hasRange (xrm 0) (va_Pc [.ref (α (34 + 2 * w)), .int x, .int n] (xPre D K 42 α (xC α K) σ)) (vp_Si (fun r => r = xb (0 ≤ x ∧ 0 ≤ n ∧ n ≤ σ (34 + 2 * w) 3 ∧ x ≤ σ (34 + 2 * w) 3 - n))) 0 0 (fun _ => False) := by
  refine Met.ofW (cc := cX5_hasRange) (maxL := 3) (ret := (some .boolean)) (by decide) rfl ?_
  intro p e s m args below meth c s₁ B hml hv
  obtain ⟨rfl, hK, hP⟩ := hv
  have S : CallFix p m c cX5_hasRange 3 s _ wsX5_hasRange RX5 := ⟨B.exec, B.bytes, hml, findClass_of_methodNamed B.named, atoms_spec (ws := wsX5_hasRange) B.pre⟩
  have hx := S.1
  have hb := S.2.1
  have hr := B.returns
  have hlocks := B.notSynchronized
  have hl := lv_entry ([.ref (α (34 + 2 * w)), .int x, .int n]) (n := 3) (Nat.le_of_ble_eq_true rfl)
  rw [lg_entry_eq]
  generalize (lg_sl ([.ref (α (34 + 2 * w)), .int x, .int n]) ++ List.replicate (3 - (lg_sl ([.ref (α (34 + 2 * w)), .int x, .int n])).length) Slot.unset).toArray = ls at hl ⊢
  have hl : lv_has ls 3 [(0, .ref (α (34 + 2 * w))), (1, .int x), (2, .int n)] := hl
  have hPP := hP
  refine lv_iload_n hx hb dX5_hasRange_0 rfl (lv_at hl 1 rfl) ?_
  refine lv_if_lt (tgt := 30) hx hb dX5_hasRange_1 (by decide) (fun c_1 => ?_) (fun c_1 => ?_)
  · refine lv_iconst (v := nI 0) hx hb dX5_hasRange_30 (by decide) ?_
    exact x_iretR S hlocks hr rfl (by first | exact (xb_f (fun h => xnlt h.2.2.2 c_23)).symm | exact (xb_f (fun h => xnlt h.2.2.1 c_13)).symm | exact (xb_f (fun h => xnlt h.2.1 c_5)).symm | exact (xb_f (fun h => xnlt h.1 c_1)).symm) dX5_hasRange_31
  · refine lv_iload_n hx hb dX5_hasRange_4 rfl (lv_at hl 2 rfl) ?_
    refine lv_if_lt (tgt := 30) hx hb dX5_hasRange_5 (by decide) (fun c_5 => ?_) (fun c_5 => ?_)
    · refine lv_iconst (v := nI 0) hx hb dX5_hasRange_30 (by decide) ?_
      exact x_iretR S hlocks hr rfl (by first | exact (xb_f (fun h => xnlt h.2.2.2 c_23)).symm | exact (xb_f (fun h => xnlt h.2.2.1 c_13)).symm | exact (xb_f (fun h => xnlt h.2.1 c_5)).symm | exact (xb_f (fun h => xnlt h.1 c_1)).symm) dX5_hasRange_31
    · refine lv_iload_n hx hb dX5_hasRange_8 rfl (lv_at hl 2 rfl) ?_
      refine lv_aload_n hx hb dX5_hasRange_9 rfl (lv_at hl 0 rfl) ?_
      refine x_get S (fun w h => List.mem_cons_of_mem _ (List.mem_append_right _ h)) hK hP (34 + 2 * w) (by omega) (xC_s (by first | assumption | omega) _) rfl 3 (by decide) (List.mem_of_getElem? (i := 1) rfl) rfl dX5_hasRange_10 ?_
      refine lv_icmp_gt (tgt := 30) hx hb dX5_hasRange_13 (by decide) (fun c_13 => ?_) (fun c_13 => ?_)
      · refine lv_iconst (v := nI 0) hx hb dX5_hasRange_30 (by decide) ?_
        exact x_iretR S hlocks hr rfl (by first | exact (xb_f (fun h => xnlt h.2.2.2 c_23)).symm | exact (xb_f (fun h => xnlt h.2.2.1 c_13)).symm | exact (xb_f (fun h => xnlt h.2.1 c_5)).symm | exact (xb_f (fun h => xnlt h.1 c_1)).symm) dX5_hasRange_31
      · refine lv_iload_n hx hb dX5_hasRange_16 rfl (lv_at hl 1 rfl) ?_
        refine lv_aload_n hx hb dX5_hasRange_17 rfl (lv_at hl 0 rfl) ?_
        refine x_get S (fun w h => List.mem_cons_of_mem _ (List.mem_append_right _ h)) hK hP (34 + 2 * w) (by omega) (xC_s (by first | assumption | omega) _) rfl 3 (by decide) (List.mem_of_getElem? (i := 1) rfl) rfl dX5_hasRange_18 ?_
        refine lv_iload_n hx hb dX5_hasRange_21 rfl (lv_at hl 2 rfl) ?_
        refine lv_isub hx hb dX5_hasRange_22 ?_
        refine lv_icmp_gt (tgt := 30) hx hb dX5_hasRange_23 (by decide) (fun c_23 => ?_) (fun c_23 => ?_)
        · refine lv_iconst (v := nI 0) hx hb dX5_hasRange_30 (by decide) ?_
          exact x_iretR S hlocks hr rfl (by first | exact (xb_f (fun h => xnlt h.2.2.2 c_23)).symm | exact (xb_f (fun h => xnlt h.2.2.1 c_13)).symm | exact (xb_f (fun h => xnlt h.2.1 c_5)).symm | exact (xb_f (fun h => xnlt h.1 c_1)).symm) dX5_hasRange_31
        · refine lv_iconst (v := nI 1) hx hb dX5_hasRange_26 (by decide) ?_
          refine lv_goto (tgt := 31) hx hb dX5_hasRange_27 (by decide) ?_
          exact x_iretR S hlocks hr rfl ((xb_t ⟨xlt c_1, xlt c_5, xlt c_13, xlt c_23⟩).symm) dX5_hasRange_31
set_option maxHeartbeats 4000000 in
set_option maxRecDepth 100000 in
theorem c_X5_holdsYear (l : Launch) {D : va_G} {K : Nat → ClassId} {α : Nat → Nat} (σ : Nat → Nat → Int32) (w : Nat) (z : Nat)  (hw : w < 4) (hz : σ (34 + 2 * w) 3 = nI z) (hz48 : z ≤ 48) : Met l yX5_holdsYear wsX5_holdsYear (xrm 2) (va_Pc [.ref (α (34 + 2 * w))] (xPre D K 42 α (xC α K) σ)) (vp_Si (fun r => r = xb (xs_hold z (σ (35 + 2 * w))))) 0 0 (fun _ => False) := by
  refine Met.ofW (cc := cX5_holdsYear) (maxL := 3) (ret := (some .boolean)) (by decide) rfl ?_
  intro p e s m args below meth c s₁ B hml hv
  obtain ⟨rfl, hK, hP⟩ := hv
  have S : CallFix p m c cX5_holdsYear 3 s _ wsX5_holdsYear RX5 := ⟨B.exec, B.bytes, hml, findClass_of_methodNamed B.named, atoms_spec (ws := wsX5_holdsYear) B.pre⟩
  have hx := S.1
  have hb := S.2.1
  have hr := B.returns
  have hlocks := B.notSynchronized
  have hl := lv_entry ([.ref (α (34 + 2 * w))]) (n := 3) (Nat.le_of_ble_eq_true rfl)
  rw [lg_entry_eq]
  generalize (lg_sl ([.ref (α (34 + 2 * w))]) ++ List.replicate (3 - (lg_sl ([.ref (α (34 + 2 * w))])).length) Slot.unset).toArray = ls at hl ⊢
  have hl : lv_has ls 3 [(0, .ref (α (34 + 2 * w)))] := hl
  have hPP := hP
  refine lv_aload_n hx hb dX5_holdsYear_0 rfl (lv_at hl 0 rfl) ?_
  refine x_get S (fun w h => List.mem_cons_of_mem _ (List.mem_append_right _ h)) hK hP (34 + 2 * w) (by omega) (xC_s (by first | assumption | omega) _) rfl 3 (by decide) (List.mem_of_getElem? (i := 1) rfl) rfl dX5_holdsYear_1 ?_
  refine x_top S (y := nI z) (hz) ?_
  refine lv_bipush (v := nI 6) hx hb dX5_holdsYear_4 (by decide) ?_
  refine x_icmpN_ge (tgt := 11) S dX5_holdsYear_6 (by decide) (by omega) (by omega) (fun c_6 => ?_) (fun c_6 => ?_)
  · refine lv_iconst (v := nI 0) hx hb dX5_holdsYear_11 (by decide) ?_
    refine lv_istore_n (lv' := [(1, .int (nI 0)), (0, .ref (α (34 + 2 * w)))]) hx hb dX5_holdsYear_12 rfl hl (by decide) rfl (fun ls hl => ?_)
    refine lv_iconst (v := nI 0) hx hb dX5_holdsYear_13 (by decide) ?_
    refine lv_istore_n (lv' := [(2, .int (nI 0)), (1, .int (nI 0)), (0, .ref (α (34 + 2 * w)))]) hx hb dX5_holdsYear_14 rfl hl (by decide) rfl (fun ls hl => ?_)
    refine x_loop (ι := Nat) (fun i ls => (i ≤ 6) ∧ (∀ h, h < i → xin (σ (35 + 2 * w) h) 6) ∧ lv_has ls 3 [(2, .int (nI i)), (1, .int (xs_hm (σ (35 + 2 * w)) i)), (0, .ref (α (34 + 2 * w)))]) (fun i => 6 - i) ?_ 0 ls ⟨Nat.zero_le _, fun j hj => absurd hj (Nat.not_lt_zero j), lv_sub hl [0, 1, 2] rfl⟩
    intro i ls hinv ih_15
    obtain ⟨hi, hno, hl⟩ := hinv
    have hl : lv_has ls 3 [(2, .int (nI i)), (1, .int (xs_hm (σ (35 + 2 * w)) i)), (0, .ref (α (34 + 2 * w)))] := hl
    refine lv_iload_n hx hb dX5_holdsYear_15 rfl (lv_at hl 0 rfl) ?_
    refine lv_bipush (v := nI 6) hx hb dX5_holdsYear_16 (by decide) ?_
    refine x_icmpN_ge (tgt := 52) S dX5_holdsYear_18 (by decide) (by omega) (by omega) (fun c_18 => ?_) (fun c_18 => ?_)
    · have e9 : i = 6 := by omega
      subst e9
      refine lv_iload_n hx hb dX5_holdsYear_52 rfl (lv_at hl 1 rfl) ?_
      refine lv_bipush (v := nI 63) hx hb dX5_holdsYear_53 (by decide) ?_
      refine lv_icmp_ne (tgt := 62) hx hb dX5_holdsYear_55 (by decide) (fun c_55 => ?_) (fun c_55 => ?_)
      · refine lv_iconst (v := nI 0) hx hb dX5_holdsYear_62 (by decide) ?_
        exact x_iretR S hlocks hr rfl ((xb_f (fun q => c_55 q.2.2)).symm) dX5_holdsYear_63
      · refine lv_iconst (v := nI 1) hx hb dX5_holdsYear_58 (by decide) ?_
        refine lv_goto (tgt := 63) hx hb dX5_holdsYear_59 (by decide) ?_
        exact x_iretR S hlocks hr rfl ((xb_t ⟨c_6, xall_of hno, c_55⟩).symm) dX5_holdsYear_63
    · refine lv_aload_n hx hb dX5_holdsYear_21 rfl (lv_at hl 2 rfl) ?_
      refine x_get S (fun w h => List.mem_cons_of_mem _ (List.mem_append_right _ h)) hK hP (34 + 2 * w) (by omega) (xC_s (by first | assumption | omega) _) rfl 0 (by decide) (List.mem_of_getElem? (i := 2) rfl) rfl dX5_holdsYear_22 ?_
      refine lv_iload_n hx hb dX5_holdsYear_25 rfl (lv_at hl 0 rfl) ?_
      refine x_iald S hK hP (35 + 2 * w) (by omega) (xC_i (by first | assumption | omega) _) (by first | assumption | omega) (by omega) dX5_holdsYear_26 ?_
      refine x_cNi (As := [.int (σ (35 + 2 * w) i)]) (rest := []) S (c_X8_isShip l (σ (35 + 2 * w) i)  ) (x_cwN (n0 := 1) S gX5_holdsYear_X8_isShip_n40 rfl hK.2.2.2.2.2 (List.mem_of_getElem? (i := 4) rfl) (List.mem_of_getElem? (i := 3) rfl) (by decide +kernel) ⟨Nat.le_of_ble_eq_true rfl, Nat.le_of_ble_eq_true rfl⟩) rfl hl.1 rfl (Nat.le_of_ble_eq_true rfl) dX5_holdsYear_27 ⟨Nat.le_refl _, Nat.le_refl _⟩ (fun r_27 hr_27 => ?_)
      subst hr_27
      refine x_if_neB (tgt := 35) S dX5_holdsYear_30 (by decide) (fun c_30 => ?_) (fun c_30 => ?_)
      · refine lv_iload_n hx hb dX5_holdsYear_35 rfl (lv_at hl 1 rfl) ?_
        refine lv_iconst (v := nI 1) hx hb dX5_holdsYear_36 (by decide) ?_
        refine lv_aload_n hx hb dX5_holdsYear_37 rfl (lv_at hl 2 rfl) ?_
        refine x_get S (fun w h => List.mem_cons_of_mem _ (List.mem_append_right _ h)) hK hP (34 + 2 * w) (by omega) (xC_s (by first | assumption | omega) _) rfl 0 (by decide) (List.mem_of_getElem? (i := 2) rfl) rfl dX5_holdsYear_38 ?_
        refine lv_iload_n hx hb dX5_holdsYear_41 rfl (lv_at hl 0 rfl) ?_
        refine x_iald S hK hP (35 + 2 * w) (by omega) (xC_i (by first | assumption | omega) _) (by first | assumption | omega) (by omega) dX5_holdsYear_42 ?_
        refine lv_ishl hx hb dX5_holdsYear_43 ?_
        refine lv_ior hx hb dX5_holdsYear_44 ?_
        refine lv_istore_n (lv' := [(1, .int ((xs_hm (σ (35 + 2 * w)) i) ||| ((nI 1) <<< ((σ (35 + 2 * w) i) &&& 31)))), (2, .int (nI i)), (0, .ref (α (34 + 2 * w)))]) hx hb dX5_holdsYear_45 rfl hl (by decide) rfl (fun ls hl => ?_)
        refine lv_iinc (v := nI (i + 1)) (lv' := [(2, .int (nI (i + 1))), (1, .int ((xs_hm (σ (35 + 2 * w)) i) ||| ((nI 1) <<< ((σ (35 + 2 * w) i) &&& 31)))), (0, .ref (α (34 + 2 * w)))]) hx hb dX5_holdsYear_46 hl (k := 1) rfl (nI_add i 1) (by decide) rfl (fun ls hl => ?_)
        refine lv_goto (tgt := 15) hx hb dX5_holdsYear_49 (by decide) ?_
        exact ih_15 (i + 1) ls ⟨(by omega), lt_s hno c_30, lv_sub hl [0, 1, 2] rfl⟩ (by (try dsimp only); omega)
      · refine lv_iconst (v := nI 0) hx hb dX5_holdsYear_33 (by decide) ?_
        exact x_iretR S hlocks hr rfl (by refine (xb_f fun q => ?_).symm; exact c_30 (xall_to q.2.1 i (by omega))) dX5_holdsYear_34
  · refine lv_iconst (v := nI 0) hx hb dX5_holdsYear_9 (by decide) ?_
    exact x_iretR S hlocks hr rfl (by refine (xb_f fun q => ?_).symm; have := q.1; omega) dX5_holdsYear_10
set_option maxHeartbeats 4000000 in
set_option maxRecDepth 100000 in
theorem c_X1_bytesForYear (l : Launch) {D : va_G} {K : Nat → ClassId} {α : Nat → Nat} (σ : Nat → Nat → Int32) (L : Nat)  (hL : σ 9 1 = nI L) (hL9 : L ≤ 90) : Met l yX1_bytesForYear wsX1_bytesForYear (xrm 0) (va_Pc [.ref (α 9)] (xPre D K 42 α (xC α K) σ)) (vp_Si (fun r => r = nI (xyb L))) 0 0 (fun _ => False) := by
  refine Met.ofW (cc := cX1_bytesForYear) (maxL := 1) (ret := (some .int)) (by decide) rfl ?_
  intro p e s m args below meth c s₁ B hml hv
  obtain ⟨rfl, hK, hP⟩ := hv
  have S : CallFix p m c cX1_bytesForYear 1 s _ wsX1_bytesForYear RX1 := ⟨B.exec, B.bytes, hml, findClass_of_methodNamed B.named, atoms_spec (ws := wsX1_bytesForYear) B.pre⟩
  have hx := S.1
  have hb := S.2.1
  have hr := B.returns
  have hlocks := B.notSynchronized
  have hl := lv_entry ([.ref (α 9)]) (n := 1) (Nat.le_of_ble_eq_true rfl)
  rw [lg_entry_eq]
  generalize (lg_sl ([.ref (α 9)]) ++ List.replicate (1 - (lg_sl ([.ref (α 9)])).length) Slot.unset).toArray = ls at hl ⊢
  have hl : lv_has ls 1 [(0, .ref (α 9))] := hl
  have hPP := hP
  refine lv_aload_n hx hb dX1_bytesForYear_0 rfl (lv_at hl 0 rfl) ?_
  refine x_get S (fun w h => List.mem_cons_of_mem _ (List.mem_append_right _ h)) hK hP 9 (by omega) rfl rfl 1 (by decide) (List.mem_of_getElem? (i := 1) rfl) rfl dX1_bytesForYear_1 ?_
  refine x_top S (y := nI L) (hL) ?_
  refine x_ifN_ne (tgt := 12) S dX1_bytesForYear_4 (by decide) (by omega) (fun c_4 => ?_) (fun c_4 => ?_)
  · refine lv_bipush (v := nI 7) hx hb dX1_bytesForYear_12 (by decide) ?_
    exact x_iretR S hlocks hr rfl (by rw [xyb_1 c_4]) dX1_bytesForYear_14
  · refine lv_bipush (v := nI 6) hx hb dX1_bytesForYear_7 (by decide) ?_
    refine lv_goto (tgt := 14) hx hb dX1_bytesForYear_9 (by decide) ?_
    exact x_iretR S hlocks hr rfl (by rw [xyb_0 c_4]) dX1_bytesForYear_14
set_option maxHeartbeats 4000000 in
set_option maxRecDepth 100000 in
theorem c_X1_append (l : Launch) {D : va_G} {K : Nat → ClassId} {α : Nat → Nat} (σ : Nat → Nat → Int32) (hI : xw_I 42 α) (b : Int32) (L : Nat)  (hL : σ 9 1 = nI L) (hL9 : L < 90) : Met l yX1_append wsX1_append (xrm 4) (va_Pc [.ref (α 9), .int b] (xPre D K 42 α (xC α K) σ)) (xQv D 42 α (xC α K) (fun τ => τ = xst_parse (xst_add σ L b) (L + 1))) 0 0 (xw_R 42 α) := by
  refine Met.ofW (cc := cX1_append) (maxL := 2) (ret := none) (by decide) rfl ?_
  intro p e s m args below meth c s₁ B hml hv
  obtain ⟨rfl, hK, hP⟩ := hv
  have S : CallFix p m c cX1_append 2 s _ wsX1_append RX1 := ⟨B.exec, B.bytes, hml, findClass_of_methodNamed B.named, atoms_spec (ws := wsX1_append) B.pre⟩
  have hx := S.1
  have hb := S.2.1
  have hr := B.returns
  have hlocks := B.notSynchronized
  have hS : va_S (xw_R 42 α) s.heap s.heap [] := va_S.rf
  have hl := lv_entry ([.ref (α 9), .int b]) (n := 2) (Nat.le_of_ble_eq_true rfl)
  rw [lg_entry_eq]
  generalize (lg_sl ([.ref (α 9), .int b]) ++ List.replicate (2 - (lg_sl ([.ref (α 9), .int b])).length) Slot.unset).toArray = ls at hl ⊢
  have hl : lv_has ls 2 [(0, .ref (α 9)), (1, .int b)] := hl
  have hPP := hP
  refine lv_aload_n hx hb dX1_append_0 rfl (lv_at hl 0 rfl) ?_
  refine lv_iload_n hx hb dX1_append_1 rfl (lv_at hl 1 rfl) ?_
  refine x_cVWv (As := [.int b]) (rest := []) S hK hP hS (fun _ h => h) 9 (by omega) rfl rfl (c_X1_add l σ hI b L  (by first | assumption | omega) (by first | assumption | omega)) (x_cwV (n0 := 1) (cq := (RX1, TX1, 4)) S gX1_append_X1_add rfl (by decide +kernel) ⟨Nat.le_of_ble_eq_true rfl, Nat.le_of_ble_eq_true rfl⟩) rfl hl.1 rfl (Nat.le_of_ble_eq_true rfl) dX1_append_2 ⟨Nat.le_refl _, Nat.le_refl _⟩ (fun τ_2 H locs hr_2 hP hk_2 hS => ?_)
  subst hr_2
  refine lv_aload_n hx hb dX1_append_5 rfl (lv_at hl 0 rfl) ?_
  refine x_cVWv (As := []) (rest := []) S hK hP hS (fun _ h => h) 9 (by omega) rfl rfl (c_X1_parse l (xst_add σ L b) hI (L + 1)  (xst_add_L _ _ _) (by first | assumption | omega)) (x_cwV (n0 := 0) (cq := (RX1, TX1, 4)) S gX1_append_X1_parse rfl (by decide +kernel) ⟨Nat.le_of_ble_eq_true rfl, Nat.le_of_ble_eq_true rfl⟩) rfl hl.1 rfl (Nat.le_of_ble_eq_true rfl) dX1_append_6 ⟨Nat.le_refl _, Nat.le_refl _⟩ (fun τ_6 H locs hr_6 hP hk_6 hS => ?_)
  subst hr_6
  exact x_vretW S hlocks hP hS hr (rfl) dX1_append_9
set_option maxHeartbeats 4000000 in
set_option maxRecDepth 100000 in
theorem c_X1_clear (l : Launch) {D : va_G} {K : Nat → ClassId} {α : Nat → Nat} (σ : Nat → Nat → Int32) (hI : xw_I 42 α) (L : Nat)  (hL : σ 9 1 = nI L) (hL9 : L ≤ 90) : Met l yX1_clear wsX1_clear (xrm 4) (va_Pc [.ref (α 9)] (xPre D K 42 α (xC α K) σ)) (xQi D 42 α (xC α K) (fun r τ => r = nI L ∧ τ = xst_parse (va_up σ 9 (upd (σ 9) 1 (nI 0))) 0)) 0 0 (xw_R 42 α) := by
  refine Met.ofW (cc := cX1_clear) (maxL := 2) (ret := (some .int)) (by decide) rfl ?_
  intro p e s m args below meth c s₁ B hml hv
  obtain ⟨rfl, hK, hP⟩ := hv
  have S : CallFix p m c cX1_clear 2 s _ wsX1_clear RX1 := ⟨B.exec, B.bytes, hml, findClass_of_methodNamed B.named, atoms_spec (ws := wsX1_clear) B.pre⟩
  have hx := S.1
  have hb := S.2.1
  have hr := B.returns
  have hlocks := B.notSynchronized
  have hS : va_S (xw_R 42 α) s.heap s.heap [] := va_S.rf
  have hl := lv_entry ([.ref (α 9)]) (n := 2) (Nat.le_of_ble_eq_true rfl)
  rw [lg_entry_eq]
  generalize (lg_sl ([.ref (α 9)]) ++ List.replicate (2 - (lg_sl ([.ref (α 9)])).length) Slot.unset).toArray = ls at hl ⊢
  have hl : lv_has ls 2 [(0, .ref (α 9))] := hl
  have hPP := hP
  refine lv_aload_n hx hb dX1_clear_0 rfl (lv_at hl 0 rfl) ?_
  refine x_get S (fun w h => List.mem_cons_of_mem _ (List.mem_append_right _ h)) hK hP 9 (by omega) rfl rfl 1 (by decide) (List.mem_of_getElem? (i := 1) rfl) rfl dX1_clear_1 ?_
  refine x_top S (y := nI L) (hL) ?_
  refine lv_istore_n (lv' := [(1, .int (nI L)), (0, .ref (α 9))]) hx hb dX1_clear_4 rfl hl (by decide) rfl (fun ls hl => ?_)
  refine lv_aload_n hx hb dX1_clear_5 rfl (lv_at hl 1 rfl) ?_
  refine lv_iconst (v := nI 0) hx hb dX1_clear_6 (by decide) ?_
  refine x_put S (fun w h => List.mem_cons_of_mem _ (List.mem_append_right _ h)) tyX1 tyX1_ok nmX1 hK hP hI hS 9 (by omega) rfl rfl 1 (by decide) (List.mem_of_getElem? (i := 1) rfl) rfl (ty := .int) (v := .int (nI 0)) (by decide +kernel) rfl rfl (Nat.le_of_ble_eq_true rfl) (upd (σ 9) 1 (nI 0)) rfl dX1_clear_7 (fun H locs hP hS => ?_)
  refine lv_aload_n hx hb dX1_clear_10 rfl (lv_at hl 1 rfl) ?_
  refine x_cVWv (As := []) (rest := []) S hK hP hS (fun _ h => h) 9 (by omega) rfl rfl (c_X1_parse l (va_up σ 9 (upd (σ 9) 1 (nI 0))) hI 0  (by rw [xup_s, pk_us]) (by first | assumption | omega)) (x_cwV (n0 := 0) (cq := (RX1, TX1, 4)) S gX1_clear_X1_parse rfl (by decide +kernel) ⟨Nat.le_of_ble_eq_true rfl, Nat.le_of_ble_eq_true rfl⟩) rfl hl.1 rfl (Nat.le_of_ble_eq_true rfl) dX1_clear_11 ⟨Nat.le_refl _, Nat.le_refl _⟩ (fun τ_11 H locs hr_11 hP hk_11 hS => ?_)
  subst hr_11
  refine lv_iload_n hx hb dX1_clear_14 rfl (lv_at hl 0 rfl) ?_
  exact x_iretW S hlocks hP hS hr rfl (⟨rfl, rfl⟩) dX1_clear_15
set_option maxHeartbeats 4000000 in
set_option maxRecDepth 100000 in
theorem c_X1_appendYear (l : Launch) {D : va_G} {K : Nat → ClassId} {α : Nat → Nat} (σ : Nat → Nat → Int32) (hI : xw_I 42 α) (w : Nat) (L : Nat)  (hw : w < 4) (hL : σ 9 1 = nI L) (hL9 : L + 7 ≤ 90 ∨ L = 0) : Met l yX1_appendYear wsX1_appendYear (xrm 4) (va_Pc [.ref (α 9), .ref (α (34 + 2 * w))] (xPre D K 42 α (xC α K) σ)) (xQv D 42 α (xC α K) (fun τ => τ = xst_ry σ L w)) 0 0 (xw_R 42 α) := by
  refine Met.ofW (cc := cX1_appendYear) (maxL := 3) (ret := none) (by decide) rfl ?_
  intro p e s m args below meth c s₁ B hml hv
  obtain ⟨rfl, hK, hP⟩ := hv
  have S : CallFix p m c cX1_appendYear 3 s _ wsX1_appendYear RX1 := ⟨B.exec, B.bytes, hml, findClass_of_methodNamed B.named, atoms_spec (ws := wsX1_appendYear) B.pre⟩
  have hx := S.1
  have hb := S.2.1
  have hr := B.returns
  have hlocks := B.notSynchronized
  have hS : va_S (xw_R 42 α) s.heap s.heap [] := va_S.rf
  have hl := lv_entry ([.ref (α 9), .ref (α (34 + 2 * w))]) (n := 3) (Nat.le_of_ble_eq_true rfl)
  rw [lg_entry_eq]
  generalize (lg_sl ([.ref (α 9), .ref (α (34 + 2 * w))]) ++ List.replicate (3 - (lg_sl ([.ref (α 9), .ref (α (34 + 2 * w))])).length) Slot.unset).toArray = ls at hl ⊢
  have hl : lv_has ls 3 [(0, .ref (α 9)), (1, .ref (α (34 + 2 * w)))] := hl
  have hPP := hP
  refine x_cutW (ι := (Nat → Nat → Int32) × Nat) (pc := 13) (fun z9 H locs ls => match z9 with | ⟨σ1, L1⟩ => (L1 + 6 ≤ 90) ∧ (σ1 9 1 = nI L1) ∧ (σ1 (35 + 2 * w) = σ (35 + 2 * w)) ∧ (xst_parse (xay σ1 L1 (σ (35 + 2 * w)) 6) (L1 + 6) = xst_ry σ L w) ∧ lv_has ls 3 [(0, .ref (α 9)), (1, .ref (α (34 + 2 * w)))] ∧ va_P D vwCl (xw 42 α (xC α K) σ1) H ∧ va_S (xw_R 42 α) s.heap H locs) (fun z9 => match z9 with | ⟨σ1, L1⟩ => []) ?_ ?_
  · intro z9 H locs ls hinv
    obtain ⟨σ1, L1⟩ := z9
    obtain ⟨h1, h2, h3, h4, hl, hP, hS⟩ := hinv
    have hl : lv_has ls 3 [(0, .ref (α 9)), (1, .ref (α (34 + 2 * w)))] := hl
    have hP : va_P D vwCl (xw 42 α (xC α K) σ1) H := hP
    show W p l e _ s m _ below meth c H locs 0 0 _ (F0 m 13 ls [])
    refine lv_iconst (v := nI 0) hx hb dX1_appendYear_13 (by decide) ?_
    refine lv_istore_n (lv' := [(2, .int (nI 0)), (0, .ref (α 9)), (1, .ref (α (34 + 2 * w)))]) hx hb dX1_appendYear_14 rfl hl (by decide) rfl (fun ls hl => ?_)
    refine x_loopW (ι := Nat) (fun i H locs ls => (i ≤ 6) ∧ lv_has ls 3 [(2, .int (nI i)), (0, .ref (α 9)), (1, .ref (α (34 + 2 * w)))] ∧ va_P D vwCl (xw 42 α (xC α K) (xay σ1 L1 (σ (35 + 2 * w)) i)) H ∧ va_S (xw_R 42 α) s.heap H locs) (fun i => 6 - i) ?_ 0 ls ⟨Nat.zero_le _, lv_sub hl [0, 1, 2] rfl, hP, hS⟩
    intro i H locs ls hinv ih_15
    obtain ⟨hi, hl, hP, hS⟩ := hinv
    have hl : lv_has ls 3 [(2, .int (nI i)), (0, .ref (α 9)), (1, .ref (α (34 + 2 * w)))] := hl
    have hP : va_P D vwCl (xw 42 α (xC α K) (xay σ1 L1 (σ (35 + 2 * w)) i)) H := hP
    refine lv_iload_n hx hb dX1_appendYear_15 rfl (lv_at hl 0 rfl) ?_
    refine lv_bipush (v := nI 6) hx hb dX1_appendYear_16 (by decide) ?_
    refine x_icmpN_ge (tgt := 40) S dX1_appendYear_18 (by decide) (by omega) (by omega) (fun c_18 => ?_) (fun c_18 => ?_)
    · have e9 : i = 6 := by omega
      subst e9
      refine lv_aload_n hx hb dX1_appendYear_40 rfl (lv_at hl 1 rfl) ?_
      refine x_cVWv (As := []) (rest := []) S hK hP hS (fun _ h => h) 9 (by omega) rfl rfl (c_X1_parse l (xay σ1 L1 (σ (35 + 2 * w)) 6) hI (L1 + 6)  (xay_L h2 6) (by first | assumption | omega)) (x_cwV (n0 := 0) (cq := (RX1, TX1, 4)) S gX1_appendYear_X1_parse rfl (by decide +kernel) ⟨Nat.le_of_ble_eq_true rfl, Nat.le_of_ble_eq_true rfl⟩) rfl hl.1 rfl (Nat.le_of_ble_eq_true rfl) dX1_appendYear_41 ⟨Nat.le_refl _, Nat.le_refl _⟩ (fun τ_41 H locs hr_41 hP hk_41 hS => ?_)
      subst hr_41
      exact x_vretW S hlocks hP hS hr (h4) dX1_appendYear_44
    · refine lv_aload_n hx hb dX1_appendYear_21 rfl (lv_at hl 1 rfl) ?_
      refine lv_bipush (v := nI 48) hx hb dX1_appendYear_22 (by decide) ?_
      refine lv_aload_n hx hb dX1_appendYear_24 rfl (lv_at hl 2 rfl) ?_
      refine x_get S (fun w h => List.mem_cons_of_mem _ (List.mem_append_right _ h)) hK hP (34 + 2 * w) (by omega) (xC_s (by first | assumption | omega) _) rfl 0 (by decide) (List.mem_of_getElem? (i := 2) rfl) rfl dX1_appendYear_25 ?_
      refine lv_iload_n hx hb dX1_appendYear_28 rfl (lv_at hl 0 rfl) ?_
      refine x_iald S hK hP (35 + 2 * w) (by omega) (xC_i (by first | assumption | omega) _) (by first | assumption | omega) (by omega) dX1_appendYear_29 ?_
      refine x_top S (y := σ (35 + 2 * w) i) (by rw [xay_n _ _ _ (by omega) (by omega), h3]) ?_
      refine lv_iadd hx hb dX1_appendYear_30 ?_
      refine x_cVWv (As := [.int ((nI 48) + (σ (35 + 2 * w) i))]) (rest := []) S hK hP hS (fun _ h => h) 9 (by omega) rfl rfl (c_X1_add l (xay σ1 L1 (σ (35 + 2 * w)) i) hI ((nI 48) + (σ (35 + 2 * w) i)) (L1 + i)  (xay_L h2 i) (by omega)) (x_cwV (n0 := 1) (cq := (RX1, TX1, 4)) S gX1_appendYear_X1_add rfl (by decide +kernel) ⟨Nat.le_of_ble_eq_true rfl, Nat.le_of_ble_eq_true rfl⟩) rfl hl.1 rfl (Nat.le_of_ble_eq_true rfl) dX1_appendYear_31 ⟨Nat.le_refl _, Nat.le_refl _⟩ (fun τ_31 H locs hr_31 hP hk_31 hS => ?_)
      subst hr_31
      refine lv_iinc (v := nI (i + 1)) (lv' := [(2, .int (nI (i + 1))), (0, .ref (α 9)), (1, .ref (α (34 + 2 * w)))]) hx hb dX1_appendYear_34 hl (k := 0) rfl (nI_add i 1) (by decide) rfl (fun ls hl => ?_)
      refine lv_goto (tgt := 15) hx hb dX1_appendYear_37 (by decide) ?_
      exact ih_15 (i + 1) H locs ls ⟨(by omega), lv_sub hl [0, 1, 2] rfl, hP, hS⟩ (by (try dsimp only); omega)
  · intro kc_13
    refine lv_aload_n hx hb dX1_appendYear_0 rfl (lv_at hl 0 rfl) ?_
    refine x_get S (fun w h => List.mem_cons_of_mem _ (List.mem_append_left _ (List.mem_append_right _ h))) hK hP 9 (by omega) rfl rfl 1 (by decide) (List.mem_of_getElem? (i := 1) rfl) rfl dX1_appendYear_1 ?_
    refine x_top S (y := nI L) (hL) ?_
    refine x_ifN_le (tgt := 13) S dX1_appendYear_4 (by decide) (by omega) (fun c_4 => ?_) (fun c_4 => ?_)
    · exact kc_13 (⟨σ, 0⟩) _ _ ls ⟨(by omega), (by rw [hL, c_4]), rfl, (by rw [xst_ry, if_pos c_4]), lv_sub hl [0, 1] rfl, hP, hS⟩
    · refine lv_aload_n hx hb dX1_appendYear_7 rfl (lv_at hl 0 rfl) ?_
      refine lv_bipush (v := nI 59) hx hb dX1_appendYear_8 (by decide) ?_
      refine x_cVWv (As := [.int (nI 59)]) (rest := []) S hK hP hS (fun _ h => h) 9 (by omega) rfl rfl (c_X1_add l σ hI (nI 59) L  (by first | assumption | omega) (by omega)) (x_cwV (n0 := 1) (cq := (RX1, TX1, 4)) S gX1_appendYear_X1_add rfl (by decide +kernel) ⟨Nat.le_of_ble_eq_true rfl, Nat.le_of_ble_eq_true rfl⟩) rfl hl.1 rfl (Nat.le_of_ble_eq_true rfl) dX1_appendYear_10 ⟨Nat.le_refl _, Nat.le_refl _⟩ (fun τ_10 H locs hr_10 hP hk_10 hS => ?_)
      subst hr_10
      exact kc_13 (⟨xst_add σ L (nI 59), L + 1⟩) _ _ ls ⟨(by omega), xst_add_L _ _ _, xst_add_n _ _ _ (by omega) (by omega), (by rw [xst_ry, if_neg (by omega)]), lv_sub hl [0, 1] rfl, hP, hS⟩

set_option maxHeartbeats 4000000 in
set_option maxRecDepth 100000 in
theorem c_X9_faultNow (l : Launch) {D : va_G} {K : Nat → ClassId} {α : Nat → Nat} (σ : Nat → Nat → Int32) (hI : xw_I 20 α)   (hC : xIM σ) : Met l yX9_faultNow wsX9_faultNow (xrm 2) (va_Pc [.ref (α 0)] (xPre D K 20 α (xM α K) σ)) (xQi D 20 α (xM α K) (fun r τ => r = xt_fault (σ 6) (xLM σ) ∧ xMs σ τ ∧ xBk τ)) 0 0 (xw_R 20 α) := by
  refine Met.ofW (cc := cX9_faultNow) (maxL := 6) (ret := (some .int)) (by decide) rfl ?_
  intro p e s m args below meth c s₁ B hml hv
  obtain ⟨rfl, hK, hP⟩ := hv
  have S : CallFix p m c cX9_faultNow 6 s _ wsX9_faultNow RX9 := ⟨B.exec, B.bytes, hml, findClass_of_methodNamed B.named, atoms_spec (ws := wsX9_faultNow) B.pre⟩
  have hx := S.1
  have hb := S.2.1
  have hr := B.returns
  have hlocks := B.notSynchronized
  have hS : va_S (xw_R 20 α) s.heap s.heap [] := va_S.rf
  have hl := lv_entry ([.ref (α 0)]) (n := 6) (Nat.le_of_ble_eq_true rfl)
  rw [lg_entry_eq]
  generalize (lg_sl ([.ref (α 0)]) ++ List.replicate (6 - (lg_sl ([.ref (α 0)])).length) Slot.unset).toArray = ls at hl ⊢
  have hl : lv_has ls 6 [(0, .ref (α 0))] := hl
  have hPP := hP
  obtain ⟨hL, hL9⟩ := hC.1
  generalize hLe : xLM σ = L at hL hL9 ⊢
  refine lv_aload_n hx hb dX9_faultNow_0 rfl (lv_at hl 0 rfl) ?_
  refine lv_iconst (v := nI 0) hx hb dX9_faultNow_1 (by decide) ?_
  refine x_put S (fun w h => List.mem_cons_of_mem _ (List.mem_append_right _ h)) tyX9 tyX9_ok nmX9 hK hP hI hS 0 (by omega) rfl rfl 7 (by decide) (List.mem_of_getElem? (i := 1) rfl) rfl (ty := .int) (v := .int (nI 0)) (by decide +kernel) rfl rfl (Nat.le_of_ble_eq_true rfl) (upd (σ 0) 7 (nI 0)) rfl dX9_faultNow_2 (fun H locs hP hS => ?_)
  have hP : va_P D vwCl (xw 20 α (xM α K) (xfs σ (nI 0) (σ 7))) H := by
    rw [show xfs σ (nI 0) (σ 7) = (va_up σ 0 (upd (σ 0) 7 (nI 0))) from (xfs_0 σ).symm]; exact hP
  refine lv_iconst (v := nI 0) hx hb dX9_faultNow_5 (by decide) ?_
  refine lv_istore_n (lv' := [(1, .int (nI 0)), (0, .ref (α 0))]) hx hb dX9_faultNow_6 rfl hl (by decide) rfl (fun ls hl => ?_)
  refine lv_iconst (v := nI 0) hx hb dX9_faultNow_7 (by decide) ?_
  refine lv_istore_n (lv' := [(2, .int (nI 0)), (1, .int (nI 0)), (0, .ref (α 0))]) hx hb dX9_faultNow_8 rfl hl (by decide) rfl (fun ls hl => ?_)
  refine x_loopW (ι := Nat × (Nat → Int32)) (fun z9 H locs ls => match z9 with | ⟨n, bk⟩ => (n ≤ 12) ∧ (n * 7 ≤ L) ∧ (∀ k, k < n * 7 → ¬ xt_bad (σ 6) k) ∧ (∀ y, y < n → ∀ h, h < 6 → bk (6 * y + h) = σ 6 (y * 7 + h) - nI 48) ∧ lv_has ls 6 [(2, .int (nI (n * 7))), (1, .int (nI n)), (0, .ref (α 0))] ∧ va_P D vwCl (xw 20 α (xM α K) (xfs σ (nI 0) bk)) H ∧ va_S (xw_R 20 α) s.heap H locs) (fun z9 => match z9 with | ⟨n, bk⟩ => 13 - n) ?_ (⟨0, σ 7⟩) ls ⟨(by omega), (by omega), (fun k hk => absurd hk (by omega)), (fun y hy => absurd hy (by omega)), lv_sub hl [0, 1, 2] rfl, hP, hS⟩
  intro z9 H locs ls hinv ih_9
  obtain ⟨n, bk⟩ := z9
  obtain ⟨hn12, hle, hno, hbk, hl, hP, hS⟩ := hinv
  have hl : lv_has ls 6 [(2, .int (nI (n * 7))), (1, .int (nI n)), (0, .ref (α 0))] := hl
  have hP : va_P D vwCl (xw 20 α (xM α K) (xfs σ (nI 0) bk)) H := hP
  refine lv_iload_n hx hb dX9_faultNow_9 rfl (lv_at hl 0 rfl) ?_
  refine x_cutW (ι := Unit) (pc := 21) (fun u H locs ls => (n * 7 ≤ L ∧ 0 < L) ∧ lv_has ls 6 [(2, .int (nI (n * 7))), (1, .int (nI n)), (0, .ref (α 0))] ∧ va_P D vwCl (xw 20 α (xM α K) (xfs σ (nI 0) bk)) H ∧ va_S (xw_R 20 α) s.heap H locs) (fun u => []) ?_ ?_
  · intro u H locs ls hinv
    obtain ⟨h21, hl, hP, hS⟩ := hinv
    have hl : lv_has ls 6 [(2, .int (nI (n * 7))), (1, .int (nI n)), (0, .ref (α 0))] := hl
    have hP : va_P D vwCl (xw 20 α (xM α K) (xfs σ (nI 0) bk)) H := hP
    show W p l e _ s m _ below meth c H locs 0 0 _ (F0 m 21 ls [])
    refine lv_iload_n hx hb dX9_faultNow_21 rfl (lv_at hl 1 rfl) ?_
    refine lv_bipush (v := nI 12) hx hb dX9_faultNow_22 (by decide) ?_
    refine x_icmpN_ne (tgt := 29) S dX9_faultNow_24 (by decide) (by omega) (by omega) (fun c_24 => ?_) (fun c_24 => ?_)
    · refine lv_iconst (v := nI 0) hx hb dX9_faultNow_29 (by decide) ?_
      refine x_top S (y := xt_b (σ 6) (n * 7)) ((xt_b0 _ _).symm) ?_
      refine lv_istore_n (lv' := [(3, .int (xt_b (σ 6) (n * 7))), (2, .int (nI (n * 7))), (1, .int (nI n)), (0, .ref (α 0))]) hx hb dX9_faultNow_30 rfl hl (by decide) rfl (fun ls hl => ?_)
      refine lv_iconst (v := nI 0) hx hb dX9_faultNow_31 (by decide) ?_
      refine lv_istore (lv' := [(4, .int (nI 0)), (3, .int (xt_b (σ 6) (n * 7))), (2, .int (nI (n * 7))), (1, .int (nI n)), (0, .ref (α 0))]) hx hb dX9_faultNow_32 hl (by decide) rfl (fun ls hl => ?_)
      refine x_loopW (ι := Nat × (Nat → Int32)) (fun z9 H locs ls => match z9 with | ⟨h, bk2⟩ => (h ≤ 6) ∧ (n * 7 + h ≤ L) ∧ (∀ k, k < n * 7 + h → ¬ xt_bad (σ 6) k) ∧ (∀ y, y < n → ∀ h, h < 6 → bk2 (6 * y + h) = σ 6 (y * 7 + h) - nI 48) ∧ (∀ j, j < h → bk2 (6 * n + j) = σ 6 (n * 7 + j) - nI 48) ∧ lv_has ls 6 [(4, .int (nI h)), (3, .int (xt_b (σ 6) (n * 7 + h))), (2, .int (nI (n * 7 + h))), (1, .int (nI n)), (0, .ref (α 0))] ∧ va_P D vwCl (xw 20 α (xM α K) (xfs σ (nI 0) bk2)) H ∧ va_S (xw_R 20 α) s.heap H locs) (fun z9 => match z9 with | ⟨h, bk2⟩ => 6 - h) ?_ (⟨0, bk⟩) ls ⟨(by omega), h21.1, hno, hbk, (fun j hj => absurd hj (by omega)), lv_sub hl [0, 1, 2, 3, 4] rfl, hP, hS⟩
      intro z9 H locs ls hinv ih_34
      obtain ⟨h, bk2⟩ := z9
      obtain ⟨hh6, hle2, hno2, hbk2, hbk3, hl, hP, hS⟩ := hinv
      have hl : lv_has ls 6 [(4, .int (nI h)), (3, .int (xt_b (σ 6) (n * 7 + h))), (2, .int (nI (n * 7 + h))), (1, .int (nI n)), (0, .ref (α 0))] := hl
      have hP : va_P D vwCl (xw 20 α (xM α K) (xfs σ (nI 0) bk2)) H := hP
      refine lv_iload hx hb dX9_faultNow_34 (lv_at hl 0 rfl) ?_
      refine lv_bipush (v := nI 6) hx hb dX9_faultNow_36 (by decide) ?_
      refine x_icmpN_ge (tgt := 113) S dX9_faultNow_38 (by decide) (by omega) (by omega) (fun c_38 => ?_) (fun c_38 => ?_)
      · have e9 : h = 6 := by omega
        subst e9
        refine lv_iinc (v := nI (n + 1)) (lv' := [(1, .int (nI (n + 1))), (4, .int (nI 6)), (3, .int (xt_b (σ 6) (n * 7 + 6))), (2, .int (nI (n * 7 + 6))), (0, .ref (α 0))]) hx hb dX9_faultNow_113 hl (k := 3) rfl (nI_add n 1) (by decide) rfl (fun ls hl => ?_)
        refine lv_iload_n hx hb dX9_faultNow_116 rfl (lv_at hl 3 rfl) ?_
        refine lv_aload_n hx hb dX9_faultNow_117 rfl (lv_at hl 4 rfl) ?_
        refine x_get S (fun w h => List.mem_cons_of_mem _ (List.mem_append_right _ h)) hK hP 0 (by omega) rfl rfl 6 (by decide) (List.mem_of_getElem? (i := 2) rfl) rfl dX9_faultNow_118 ?_
        refine x_top S (y := nI L) (by rw [xfs_t]; exact hL) ?_
        refine x_icmpN_ne (tgt := 131) S dX9_faultNow_121 (by decide) (by omega) (by omega) (fun c_121 => ?_) (fun c_121 => ?_)
        · refine lv_aload_n hx hb dX9_faultNow_131 rfl (lv_at hl 4 rfl) ?_
          refine x_get S (fun w h => List.mem_cons_of_mem _ (List.mem_append_right _ h)) hK hP 0 (by omega) rfl rfl 5 (by decide) (List.mem_of_getElem? (i := 3) rfl) rfl dX9_faultNow_132 ?_
          refine lv_iload_n hx hb dX9_faultNow_135 rfl (lv_at hl 3 rfl) ?_
          refine x_iald S hK hP 6 (by omega) rfl (by first | assumption | omega) (by omega) dX9_faultNow_136 ?_
          refine x_top S (y := σ 6 (n * 7 + 6)) (by rw [xfs_6]) ?_
          refine lv_bipush (v := nI 59) hx hb dX9_faultNow_137 (by decide) ?_
          refine lv_icmp_eq (tgt := 144) hx hb dX9_faultNow_139 (by decide) (fun c_139 => ?_) (fun c_139 => ?_)
          · refine lv_iinc (v := nI (n * 7 + 6 + 1)) (lv' := [(2, .int (nI (n * 7 + 6 + 1))), (1, .int (nI (n + 1))), (4, .int (nI 6)), (3, .int (xt_b (σ 6) (n * 7 + 6))), (0, .ref (α 0))]) hx hb dX9_faultNow_144 hl (k := 3) rfl (nI_add (n * 7 + 6) 1) (by decide) rfl (fun ls hl => ?_)
            refine lv_goto (tgt := 9) hx hb dX9_faultNow_147 (by decide) ?_
            exact ih_9 (⟨n + 1, bk2⟩) H locs ls ⟨(by omega), (by omega), (by rw [show (n + 1) * 7 = n * 7 + 6 + 1 by omega]; exact lt_s hno2 (fun q => by rcases q with q | ⟨q, q2⟩ | ⟨q, q2⟩; omega; exact q2 c_139; omega)), (fun y hy h2 hh2 => by
                      by_cases q : y = n
                      · subst q; exact hbk3 h2 hh2
                      · exact hbk2 y (by omega) h2 hh2), (by have h9 := lv_sub (l' := [(2, .int (nI (n * 7 + 6 + 1))), (1, .int (nI (n + 1))), (0, .ref (α 0))]) hl [0, 1, 4] rfl; rw [show nI (n * 7 + 6 + 1) = nI ((n + 1) * 7) from by rw [show n * 7 + 6 + 1 = (n + 1) * 7 by omega]] at h9; exact h9), hP, hS⟩ (by (try dsimp only); omega)
          · refine lv_iload_n hx hb dX9_faultNow_142 rfl (lv_at hl 3 rfl) ?_
            exact x_iretW S hlocks hP hS hr rfl (xf_ret hLe (by omega) (xt_fault_at (by omega) hno2 (Or.inr (Or.inl ⟨by omega, c_139⟩)))) dX9_faultNow_143
        · refine lv_aload_n hx hb dX9_faultNow_124 rfl (lv_at hl 4 rfl) ?_
          refine lv_iload_n hx hb dX9_faultNow_125 rfl (lv_at hl 0 rfl) ?_
          refine x_put S (fun w h => List.mem_cons_of_mem _ (List.mem_append_right _ h)) tyX9 tyX9_ok nmX9 hK hP hI hS 0 (by omega) rfl rfl 7 (by decide) (List.mem_of_getElem? (i := 1) rfl) rfl (ty := .int) (v := .int (nI (n + 1))) (by decide +kernel) rfl rfl (Nat.le_of_ble_eq_true rfl) (upd ((xfs σ (nI 0) bk2) 0) 7 (nI (n + 1))) rfl dX9_faultNow_126 (fun H locs hP hS => ?_)
          have hP : va_P D vwCl (xw 20 α (xM α K) (xfs σ (nI (n + 1)) bk2)) H := by
            rw [show xfs σ (nI (n + 1)) bk2 = (va_up (xfs σ (nI 0) bk2) 0 (upd ((xfs σ (nI 0) bk2) 0) 7 (nI (n + 1)))) from xfs_set _ _ _ _]; exact hP
          refine lv_iconst (v := (-1)) hx hb dX9_faultNow_129 (by decide) ?_
          exact x_iretW S hlocks hP hS hr rfl (xf_ret1 hLe c_121 hL9 hno2 hbk2 hbk3) dX9_faultNow_130
      · refine lv_iload_n hx hb dX9_faultNow_41 rfl (lv_at hl 2 rfl) ?_
        refine lv_aload_n hx hb dX9_faultNow_42 rfl (lv_at hl 4 rfl) ?_
        refine x_get S (fun w h => List.mem_cons_of_mem _ (List.mem_append_right _ h)) hK hP 0 (by omega) rfl rfl 6 (by decide) (List.mem_of_getElem? (i := 2) rfl) rfl dX9_faultNow_43 ?_
        refine x_top S (y := nI L) (by rw [xfs_t]; exact hL) ?_
        refine x_icmpN_ge (tgt := 61) S dX9_faultNow_46 (by decide) (by omega) (by omega) (fun c_46 => ?_) (fun c_46 => ?_)
        · refine lv_iconst (v := (-1)) hx hb dX9_faultNow_61 (by decide) ?_
          refine lv_istore (lv' := [(5, .int (-1 : Int32)), (4, .int (nI h)), (3, .int (xt_b (σ 6) (n * 7 + h))), (2, .int (nI (n * 7 + h))), (1, .int (nI n)), (0, .ref (α 0))]) hx hb dX9_faultNow_62 hl (by decide) rfl (fun ls hl => ?_)
          refine lv_iload hx hb dX9_faultNow_64 (lv_at hl 0 rfl) ?_
          refine x_cSi (As := [.int (-1 : Int32)]) (rest := []) S (c_X9_isSix l (-1 : Int32)  ) (x_cwS (n0 := 1) S gX9_faultNow_X9_isSix rfl (by decide +kernel) ⟨Nat.le_of_ble_eq_true rfl, Nat.le_of_ble_eq_true rfl⟩) rfl hl.1 rfl (Nat.le_of_ble_eq_true rfl) dX9_faultNow_66 ⟨Nat.le_refl _, Nat.le_refl _⟩ (fun r_66 hr_66 => ?_)
          subst hr_66
          refine x_if_eqB (tgt := 81) S dX9_faultNow_69 (by decide) (fun c_69 => ?_) (fun c_69 => ?_)
          · refine lv_iload_n hx hb dX9_faultNow_81 rfl (lv_at hl 3 rfl) ?_
            exact x_iretW S hlocks hP hS hr rfl (xf_ret hLe (by omega) (xf_end hno2 (by omega) h21.2 (by omega))) dX9_faultNow_82
          · exact absurd c_69 xin_m1
        · refine lv_aload_n hx hb dX9_faultNow_49 rfl (lv_at hl 4 rfl) ?_
          refine x_get S (fun w h => List.mem_cons_of_mem _ (List.mem_append_right _ h)) hK hP 0 (by omega) rfl rfl 5 (by decide) (List.mem_of_getElem? (i := 3) rfl) rfl dX9_faultNow_50 ?_
          refine lv_iload_n hx hb dX9_faultNow_53 rfl (lv_at hl 2 rfl) ?_
          refine x_iald S hK hP 6 (by omega) rfl (by first | assumption | omega) (by omega) dX9_faultNow_54 ?_
          refine x_top S (y := σ 6 (n * 7 + h)) (by rw [xfs_6]) ?_
          refine lv_bipush (v := nI 48) hx hb dX9_faultNow_55 (by decide) ?_
          refine lv_isub hx hb dX9_faultNow_57 ?_
          refine lv_goto (tgt := 62) hx hb dX9_faultNow_58 (by decide) ?_
          refine lv_istore (lv' := [(5, .int ((σ 6 (n * 7 + h)) - (nI 48))), (4, .int (nI h)), (3, .int (xt_b (σ 6) (n * 7 + h))), (2, .int (nI (n * 7 + h))), (1, .int (nI n)), (0, .ref (α 0))]) hx hb dX9_faultNow_62 hl (by decide) rfl (fun ls hl => ?_)
          refine lv_iload hx hb dX9_faultNow_64 (lv_at hl 0 rfl) ?_
          refine x_cSi (As := [.int ((σ 6 (n * 7 + h)) - (nI 48))]) (rest := []) S (c_X9_isSix l ((σ 6 (n * 7 + h)) - (nI 48))  ) (x_cwS (n0 := 1) S gX9_faultNow_X9_isSix rfl (by decide +kernel) ⟨Nat.le_of_ble_eq_true rfl, Nat.le_of_ble_eq_true rfl⟩) rfl hl.1 rfl (Nat.le_of_ble_eq_true rfl) dX9_faultNow_66 ⟨Nat.le_refl _, Nat.le_refl _⟩ (fun r_66 hr_66 => ?_)
          subst hr_66
          refine x_if_eqB (tgt := 81) S dX9_faultNow_69 (by decide) (fun c_69 => ?_) (fun c_69 => ?_)
          · refine lv_iload_n hx hb dX9_faultNow_81 rfl (lv_at hl 3 rfl) ?_
            exact x_iretW S hlocks hP hS hr rfl (by first | exact xf_ret hLe (by omega) (xt_fault_at c_46 hno2 (Or.inr (Or.inr ⟨by omega, Or.inr c_78⟩))) | exact xf_ret hLe (by omega) (xt_fault_at c_46 hno2 (Or.inr (Or.inr ⟨by omega, Or.inl c_69⟩)))) dX9_faultNow_82
          · refine lv_iload_n hx hb dX9_faultNow_72 rfl (lv_at hl 2 rfl) ?_
            refine lv_iload hx hb dX9_faultNow_73 (lv_at hl 0 rfl) ?_
            refine x_cSi (As := [.int (xt_b (σ 6) (n * 7 + h)), .int ((σ 6 (n * 7 + h)) - (nI 48))]) (rest := []) S (c_X9_isIn l (xt_b (σ 6) (n * 7 + h)) ((σ 6 (n * 7 + h)) - (nI 48))  ) (x_cwS (n0 := 2) S gX9_faultNow_X9_isIn rfl (by decide +kernel) ⟨Nat.le_of_ble_eq_true rfl, Nat.le_of_ble_eq_true rfl⟩) rfl hl.1 rfl (Nat.le_of_ble_eq_true rfl) dX9_faultNow_75 ⟨Nat.le_refl _, Nat.le_refl _⟩ (fun r_75 hr_75 => ?_)
            subst hr_75
            refine x_if_eqB (tgt := 83) S dX9_faultNow_78 (by decide) (fun c_78 => ?_) (fun c_78 => ?_)
            · refine lv_iload_n hx hb dX9_faultNow_83 rfl (lv_at hl 2 rfl) ?_
              refine lv_iconst (v := nI 1) hx hb dX9_faultNow_84 (by decide) ?_
              refine lv_iload hx hb dX9_faultNow_85 (lv_at hl 0 rfl) ?_
              refine lv_ishl hx hb dX9_faultNow_87 ?_
              refine lv_ior hx hb dX9_faultNow_88 ?_
              refine lv_istore_n (lv' := [(3, .int ((xt_b (σ 6) (n * 7 + h)) ||| ((nI 1) <<< (((σ 6 (n * 7 + h)) - (nI 48)) &&& 31)))), (5, .int ((σ 6 (n * 7 + h)) - (nI 48))), (4, .int (nI h)), (2, .int (nI (n * 7 + h))), (1, .int (nI n)), (0, .ref (α 0))]) hx hb dX9_faultNow_89 rfl hl (by decide) rfl (fun ls hl => ?_)
              refine lv_aload_n hx hb dX9_faultNow_90 rfl (lv_at hl 5 rfl) ?_
              refine x_get S (fun w h => List.mem_cons_of_mem _ (List.mem_append_right _ h)) hK hP 0 (by omega) rfl rfl 8 (by decide) (List.mem_of_getElem? (i := 4) rfl) rfl dX9_faultNow_91 ?_
              refine lv_bipush (v := nI 6) hx hb dX9_faultNow_94 (by decide) ?_
              refine lv_iload_n hx hb dX9_faultNow_96 rfl (lv_at hl 4 rfl) ?_
              refine x_imulN S dX9_faultNow_97 ?_
              refine lv_iload hx hb dX9_faultNow_98 (lv_at hl 2 rfl) ?_
              refine x_iaddN S dX9_faultNow_100 ?_
              refine lv_iload hx hb dX9_faultNow_101 (lv_at hl 1 rfl) ?_
              refine x_iast S hK hP hI hS 7 (by omega) (fun _ => rfl) (by first | assumption | omega) (by omega) dX9_faultNow_103 (fun H locs hP hS => ?_)
              have hP : va_P D vwCl (xw 20 α (xM α K) (xfs σ (nI 0) (upd bk2 (6 * n + h) (σ 6 (n * 7 + h) - nI 48)))) H := by
                rw [show xfs σ (nI 0) (upd bk2 (6 * n + h) (σ 6 (n * 7 + h) - nI 48)) = (va_up (xfs σ (nI 0) bk2) 7 (upd ((xfs σ (nI 0) bk2) 7) ((6 * n) + h) ((σ 6 (n * 7 + h)) - (nI 48)))) from xfs_put _ _ _ _ _]; exact hP
              refine lv_iinc (v := nI (n * 7 + h + 1)) (lv' := [(2, .int (nI (n * 7 + h + 1))), (3, .int ((xt_b (σ 6) (n * 7 + h)) ||| ((nI 1) <<< (((σ 6 (n * 7 + h)) - (nI 48)) &&& 31)))), (5, .int ((σ 6 (n * 7 + h)) - (nI 48))), (4, .int (nI h)), (1, .int (nI n)), (0, .ref (α 0))]) hx hb dX9_faultNow_104 hl (k := 3) rfl (nI_add (n * 7 + h) 1) (by decide) rfl (fun ls hl => ?_)
              refine lv_iinc (v := nI (h + 1)) (lv' := [(4, .int (nI (h + 1))), (2, .int (nI (n * 7 + h + 1))), (3, .int ((xt_b (σ 6) (n * 7 + h)) ||| ((nI 1) <<< (((σ 6 (n * 7 + h)) - (nI 48)) &&& 31)))), (5, .int ((σ 6 (n * 7 + h)) - (nI 48))), (1, .int (nI n)), (0, .ref (α 0))]) hx hb dX9_faultNow_107 hl (k := 3) rfl (nI_add h 1) (by decide) rfl (fun ls hl => ?_)
              refine lv_goto (tgt := 34) hx hb dX9_faultNow_110 (by decide) ?_
              exact ih_34 (⟨h + 1, upd bk2 (6 * n + h) (σ 6 (n * 7 + h) - nI 48)⟩) H locs ls ⟨(by omega), (by omega), (show ∀ k, k < n * 7 + h + 1 → ¬ xt_bad (σ 6) k from lt_s hno2 (fun q => by rcases q with q | ⟨q, q2⟩ | ⟨q, q2⟩; omega; omega; rcases q2 with q2 | q2; exact q2 c_69; exact c_78 q2)), (fun y hy h2 hh2 => by rw [pk_un (by omega)]; exact hbk2 y hy h2 hh2), lt_s (fun j hj => by rw [pk_un (by omega)]; exact hbk3 j hj) pk_us, (by have h9 := lv_sub (l' := [(4, .int (nI (h + 1))), (3, .int ((xt_b (σ 6) (n * 7 + h)) ||| ((nI 1) <<< (((σ 6 (n * 7 + h)) - (nI 48)) &&& 31)))), (2, .int (nI (n * 7 + h + 1))), (1, .int (nI n)), (0, .ref (α 0))]) hl [0, 2, 1, 4, 5] rfl; rw [show xt_b (σ 6) (n * 7 + h) ||| nI 1 <<< ((σ 6 (n * 7 + h) - nI 48) &&& 31) = xt_b (σ 6) (n * 7 + h + 1) from (if_neg (show ¬ (n * 7 + h) % 7 = 6 by omega)).symm] at h9; exact h9), hP, hS⟩ (by (try dsimp only); omega)
            · refine lv_iload_n hx hb dX9_faultNow_81 rfl (lv_at hl 3 rfl) ?_
              exact x_iretW S hlocks hP hS hr rfl (by first | exact xf_ret hLe (by omega) (xt_fault_at c_46 hno2 (Or.inr (Or.inr ⟨by omega, Or.inr c_78⟩))) | exact xf_ret hLe (by omega) (xt_fault_at c_46 hno2 (Or.inr (Or.inr ⟨by omega, Or.inl c_69⟩)))) dX9_faultNow_82
    · have hq := xf_84 c_24 hno h21.1
      refine lv_iload_n hx hb dX9_faultNow_27 rfl (lv_at hl 0 rfl) ?_
      exact x_iretW S hlocks hP hS hr rfl (xf_ret hLe (by omega) hq) dX9_faultNow_28
  · intro kc_21
    refine lv_aload_n hx hb dX9_faultNow_10 rfl (lv_at hl 2 rfl) ?_
    refine x_get S (fun w h => List.mem_cons_of_mem _ (List.mem_append_right _ h)) hK hP 0 (by omega) rfl rfl 6 (by decide) (List.mem_of_getElem? (i := 2) rfl) rfl dX9_faultNow_11 ?_
    refine x_top S (y := nI L) (by rw [xfs_t]; exact hL) ?_
    refine x_icmpN_lt (tgt := 21) S dX9_faultNow_14 (by decide) (by omega) (by omega) (fun c_14 => ?_) (fun c_14 => ?_)
    · exact kc_21 () _ _ ls ⟨⟨by omega, by omega⟩, lv_sub hl [0, 1, 2] rfl, hP, hS⟩
    · refine lv_iload_n hx hb dX9_faultNow_17 rfl (lv_at hl 0 rfl) ?_
      refine x_ifN_le (tgt := 150) S dX9_faultNow_18 (by decide) (by omega) (fun c_18 => ?_) (fun c_18 => ?_)
      · refine lv_iconst (v := (-1)) hx hb dX9_faultNow_150 (by decide) ?_
        exact x_iretW S hlocks hP hS hr rfl (xf_ret0 hLe (by omega)) dX9_faultNow_151
      · exact kc_21 () _ _ ls ⟨⟨by omega, by omega⟩, lv_sub hl [0, 1, 2] rfl, hP, hS⟩

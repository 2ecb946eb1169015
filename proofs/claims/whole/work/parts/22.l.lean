set_option maxHeartbeats 4000000 in
set_option maxRecDepth 100000 in
theorem c_X9_faultNow (l : Launch) {D : va_G} {K : Nat → ClassId} {α : Nat → Nat} (σ : Nat → Nat → Int32) (hI : xw_I 20 α)   (hC : xIM σ) : Met l yX9_faultNow wsX9_faultNow (xrm 2) (va_Pc [.ref (α 0)] (xPre D K 20 α (xM α K) σ)) (xQi D 20 α (xM α K) (fun r τ => r = xt_fault (σ 6) (xLM σ) ∧ xMs σ τ ∧ xBk τ)) 0 0 (xw_R 20 α) := by
  refine Met.ofW (cc := cX9_faultNow) (maxL := 6) (ret := (some .int)) (by decide) rfl ?_
  intro p e s m args below meth c s₁ B hml hv
  obtain ⟨rfl, hK, hP⟩ := hv
  have S : CallFix p m c cX9_faultNow 6 s _ wsX9_faultNow RX9 := ⟨B.exec, B.bytes, hml, findClass_of_methodNamed B.named, atoms_spec (ws := wsX9_faultNow) B.pre⟩
  have hx := S.1
  have hb := S.2.1
  have hr := B.returns
  have hlocks := B.notSynchronized
  have hS : va_S (xw_R 20 α) s.heap s.heap [] := va_S.rf
  have hl := lv_entry ([.ref (α 0)]) (n := 6) (Nat.le_of_ble_eq_true rfl)
  rw [lg_entry_eq]
  generalize (lg_sl ([.ref (α 0)]) ++ List.replicate (6 - (lg_sl ([.ref (α 0)])).length) Slot.unset).toArray = ls at hl ⊢
  have hl : lv_has ls 6 [(0, .ref (α 0))] := hl
  have hPP := hP
  obtain ⟨hL, hL9⟩ := hC.1
  generalize hLe : xLM σ = L at hL hL9 ⊢
  refine lv_aload_n hx hb dX9_faultNow_0 rfl (lv_at hl 0 rfl) ?_
  refine lv_iconst (v := nI 0) hx hb dX9_faultNow_1 (by decide) ?_
  refine x_put S (fun w h => List.mem_cons_of_mem _ (List.mem_append_right _ h)) tyX9 tyX9_ok nmX9 hK hP hI hS 0 (by omega) rfl rfl 7 (by decide) (List.mem_of_getElem? (i := 1) rfl) rfl (ty := .int) (v := .int (nI 0)) (by decide +kernel) rfl rfl (Nat.le_of_ble_eq_true rfl) (upd (σ 0) 7 (nI 0)) rfl dX9_faultNow_2 (fun H locs hP hS => ?_)
  have hP : va_P D vwCl (xw 20 α (xM α K) (xfs σ (nI 0) (σ 7))) H := by
    rw [show xfs σ (nI 0) (σ 7) = (va_up σ 0 (upd (σ 0) 7 (nI 0))) from (xfs_0 σ).symm]; exact hP
  refine lv_iconst (v := nI 0) hx hb dX9_faultNow_5 (by decide) ?_
  refine lv_istore_n (lv' := [(1, .int (nI 0)), (0, .ref (α 0))]) hx hb dX9_faultNow_6 rfl hl (by decide) rfl (fun ls hl => ?_)
  refine lv_iconst (v := nI 0) hx hb dX9_faultNow_7 (by decide) ?_
  refine lv_istore_n (lv' := [(2, .int (nI 0)), (1, .int (nI 0)), (0, .ref (α 0))]) hx hb dX9_faultNow_8 rfl hl (by decide) rfl (fun ls hl => ?_)
  refine x_loopW (ι := Nat × (Nat → Int32)) (fun z9 H locs ls => match z9 with | ⟨n, bk⟩ => (n ≤ 12) ∧ (n * 7 ≤ L) ∧ (∀ k, k < n * 7 → ¬ xt_bad (σ 6) k) ∧ (∀ y, y < n → ∀ h, h < 6 → bk (6 * y + h) = σ 6 (y * 7 + h) - nI 48) ∧ lv_has ls 6 [(2, .int (nI (n * 7))), (1, .int (nI n)), (0, .ref (α 0))] ∧ va_P D vwCl (xw 20 α (xM α K) (xfs σ (nI 0) bk)) H ∧ va_S (xw_R 20 α) s.heap H locs) (fun z9 => match z9 with | ⟨n, bk⟩ => 13 - n) ?_ (⟨0, σ 7⟩) ls ⟨(by omega), (by omega), (fun k hk => absurd hk (by omega)), (fun y hy => absurd hy (by omega)), lv_sub hl [0, 1, 2] rfl, hP, hS⟩
  intro z9 H locs ls hinv ih_9
  obtain ⟨n, bk⟩ := z9
  obtain ⟨hn12, hle, hno, hbk, hl, hP, hS⟩ := hinv
  have hl : lv_has ls 6 [(2, .int (nI (n * 7))), (1, .int (nI n)), (0, .ref (α 0))] := hl
  have hP : va_P D vwCl (xw 20 α (xM α K) (xfs σ (nI 0) bk)) H := hP
  refine lv_iload_n hx hb dX9_faultNow_9 rfl (lv_at hl 0 rfl) ?_
  refine x_cutW (ι := Unit) (pc := 21) (fun u H locs ls => (n * 7 ≤ L ∧ 0 < L) ∧ lv_has ls 6 [(2, .int (nI (n * 7))), (1, .int (nI n)), (0, .ref (α 0))] ∧ va_P D vwCl (xw 20 α (xM α K) (xfs σ (nI 0) bk)) H ∧ va_S (xw_R 20 α) s.heap H locs) (fun u => []) ?_ ?_
  · intro u H locs ls hinv
    obtain ⟨h21, hl, hP, hS⟩ := hinv
    have hl : lv_has ls 6 [(2, .int (nI (n * 7))), (1, .int (nI n)), (0, .ref (α 0))] := hl
    have hP : va_P D vwCl (xw 20 α (xM α K) (xfs σ (nI 0) bk)) H := hP
    show W p l e _ s m _ below meth c H locs 0 0 _ (F0 m 21 ls [])
    refine lv_iload_n hx hb dX9_faultNow_21 rfl (lv_at hl 1 rfl) ?_
    refine lv_bipush (v := nI 12) hx hb dX9_faultNow_22 (by decide) ?_
    refine x_icmpN_ne (tgt := 29) S dX9_faultNow_24 (by decide) (by omega) (by omega) (fun c_24 => ?_) (fun c_24 => ?_)
    · refine lv_iconst (v := nI 0) hx hb dX9_faultNow_29 (by decide) ?_
      refine x_top S (y := xt_b (σ 6) (n * 7)) ((xt_b0 _ _).symm) ?_
      refine lv_istore_n (lv' := [(3, .int (xt_b (σ 6) (n * 7))), (2, .int (nI (n * 7))), (1, .int (nI n)), (0, .ref (α 0))]) hx hb dX9_faultNow_30 rfl hl (by decide) rfl (fun ls hl => ?_)
      refine lv_iconst (v := nI 0) hx hb dX9_faultNow_31 (by decide) ?_
      refine lv_istore (lv' := [(4, .int (nI 0)), (3, .int (xt_b (σ 6) (n * 7))), (2, .int (nI (n * 7))), (1, .int (nI n)), (0, .ref (α 0))]) hx hb dX9_faultNow_32 hl (by decide) rfl (fun ls hl => ?_)
      refine x_loopW (ι := Nat × (Nat → Int32)) (fun z9 H locs ls => match z9 with | ⟨h, bk2⟩ => (h ≤ 6) ∧ (n * 7 + h ≤ L) ∧ (∀ k, k < n * 7 + h → ¬ xt_bad (σ 6) k) ∧ (∀ y, y < n → ∀ h, h < 6 → bk2 (6 * y + h) = σ 6 (y * 7 + h) - nI 48) ∧ (∀ j, j < h → bk2 (6 * n + j) = σ 6 (n * 7 + j) - nI 48) ∧ lv_has ls 6 [(4, .int (nI h)), (3, .int (xt_b (σ 6) (n * 7 + h))), (2, .int (nI (n * 7 + h))), (1, .int (nI n)), (0, .ref (α 0))] ∧ va_P D vwCl (xw 20 α (xM α K) (xfs σ (nI 0) bk2)) H ∧ va_S (xw_R 20 α) s.heap H locs) (fun z9 => match z9 with | ⟨h, bk2⟩ => 6 - h) ?_ (⟨0, bk⟩) ls ⟨(by omega), h21.1, hno, hbk, (fun j hj => absurd hj (by omega)), lv_sub hl [0, 1, 2, 3, 4] rfl, hP, hS⟩
      intro z9 H locs ls hinv ih_34
      obtain ⟨h, bk2⟩ := z9
      obtain ⟨hh6, hle2, hno2, hbk2, hbk3, hl, hP, hS⟩ := hinv
      have hl : lv_has ls 6 [(4, .int (nI h)), (3, .int (xt_b (σ 6) (n * 7 + h))), (2, .int (nI (n * 7 + h))), (1, .int (nI n)), (0, .ref (α 0))] := hl
      have hP : va_P D vwCl (xw 20 α (xM α K) (xfs σ (nI 0) bk2)) H := hP
      refine lv_iload hx hb dX9_faultNow_34 (lv_at hl 0 rfl) ?_
      refine lv_bipush (v := nI 6) hx hb dX9_faultNow_36 (by decide) ?_
      refine x_icmpN_ge (tgt := 113) S dX9_faultNow_38 (by decide) (by omega) (by omega) (fun c_38 => ?_) (fun c_38 => ?_)
      · have e9 : h = 6 := by omega
        subst e9
        refine lv_iinc (v := nI (n + 1)) (lv' := [(1, .int (nI (n + 1))), (4, .int (nI 6)), (3, .int (xt_b (σ 6) (n * 7 + 6))), (2, .int (nI (n * 7 + 6))), (0, .ref (α 0))]) hx hb dX9_faultNow_113 hl (k := 3) rfl (nI_add n 1) (by decide) rfl (fun ls hl => ?_)
        refine lv_iload_n hx hb dX9_faultNow_116 rfl (lv_at hl 3 rfl) ?_
        refine lv_aload_n hx hb dX9_faultNow_117 rfl (lv_at hl 4 rfl) ?_
        refine x_get S (fun w h => List.mem_cons_of_mem _ (List.mem_append_right _ h)) hK hP 0 (by omega) rfl rfl 6 (by decide) (List.mem_of_getElem? (i := 2) rfl) rfl dX9_faultNow_118 ?_
        refine x_top S (y := nI L) (by rw [xfs_t]; exact hL) ?_
        refine x_icmpN_ne (tgt := 131) S dX9_faultNow_121 (by decide) (by omega) (by omega) (fun c_121 => ?_) (fun c_121 => ?_)
        · refine lv_aload_n hx hb dX9_faultNow_131 rfl (lv_at hl 4 rfl) ?_
          refine x_get S (fun w h => List.mem_cons_of_mem _ (List.mem_append_right _ h)) hK hP 0 (by omega) rfl rfl 5 (by decide) (List.mem_of_getElem? (i := 3) rfl) rfl dX9_faultNow_132 ?_
          refine lv_iload_n hx hb dX9_faultNow_135 rfl (lv_at hl 3 rfl) ?_
          refine x_iald S hK hP 6 (by omega) rfl (by first | assumption | omega) (by omega) dX9_faultNow_136 ?_
          refine x_top S (y := σ 6 (n * 7 + 6)) (by rw [xfs_6]) ?_
          refine lv_bipush (v := nI 59) hx hb dX9_faultNow_137 (by decide) ?_
          refine lv_icmp_eq (tgt := 144) hx hb dX9_faultNow_139 (by decide) (fun c_139 => ?_) (fun c_139 => ?_)
          · refine lv_iinc (v := nI (n * 7 + 6 + 1)) (lv' := [(2, .int (nI (n * 7 + 6 + 1))), (1, .int (nI (n + 1))), (4, .int (nI 6)), (3, .int (xt_b (σ 6) (n * 7 + 6))), (0, .ref (α 0))]) hx hb dX9_faultNow_144 hl (k := 3) rfl (nI_add (n * 7 + 6) 1) (by decide) rfl (fun ls hl => ?_)
            refine lv_goto (tgt := 9) hx hb dX9_faultNow_147 (by decide) ?_
            exact ih_9 (⟨n + 1, bk2⟩) H locs ls ⟨(by omega), (by omega), (by rw [show (n + 1) * 7 = n * 7 + 6 + 1 by omega]; exact lt_s hno2 (fun q => by rcases q with q | ⟨q, q2⟩ | ⟨q, q2⟩; omega; exact q2 c_139; omega)), (fun y hy h2 hh2 => by
                      by_cases q : y = n
                      · subst q; exact hbk3 h2 hh2
                      · exact hbk2 y (by omega) h2 hh2), (by have h9 := lv_sub (l' := [(2, .int (nI (n * 7 + 6 + 1))), (1, .int (nI (n + 1))), (0, .ref (α 0))]) hl [0, 1, 4] rfl; rw [show nI (n * 7 + 6 + 1) = nI ((n + 1) * 7) from by rw [show n * 7 + 6 + 1 = (n + 1) * 7 by omega]] at h9; exact h9), hP, hS⟩ (by (try dsimp only); omega)
          · refine lv_iload_n hx hb dX9_faultNow_142 rfl (lv_at hl 3 rfl) ?_
            exact x_iretW S hlocks hP hS hr rfl (xf_ret hLe (by omega) (xt_fault_at (by omega) hno2 (Or.inr (Or.inl ⟨by omega, c_139⟩)))) dX9_faultNow_143
        · refine lv_aload_n hx hb dX9_faultNow_124 rfl (lv_at hl 4 rfl) ?_
          refine lv_iload_n hx hb dX9_faultNow_125 rfl (lv_at hl 0 rfl) ?_
          refine x_put S (fun w h => List.mem_cons_of_mem _ (List.mem_append_right _ h)) tyX9 tyX9_ok nmX9 hK hP hI hS 0 (by omega) rfl rfl 7 (by decide) (List.mem_of_getElem? (i := 1) rfl) rfl (ty := .int) (v := .int (nI (n + 1))) (by decide +kernel) rfl rfl (Nat.le_of_ble_eq_true rfl) (upd ((xfs σ (nI 0) bk2) 0) 7 (nI (n + 1))) rfl dX9_faultNow_126 (fun H locs hP hS => ?_)
          have hP : va_P D vwCl (xw 20 α (xM α K) (xfs σ (nI (n + 1)) bk2)) H := by
            rw [show xfs σ (nI (n + 1)) bk2 = (va_up (xfs σ (nI 0) bk2) 0 (upd ((xfs σ (nI 0) bk2) 0) 7 (nI (n + 1)))) from xfs_set _ _ _ _]; exact hP
          refine lv_iconst (v := (-1)) hx hb dX9_faultNow_129 (by decide) ?_
          exact x_iretW S hlocks hP hS hr rfl (xf_ret1 hLe c_121 hL9 hno2 hbk2 hbk3) dX9_faultNow_130
      · refine lv_iload_n hx hb dX9_faultNow_41 rfl (lv_at hl 2 rfl) ?_
        refine lv_aload_n hx hb dX9_faultNow_42 rfl (lv_at hl 4 rfl) ?_
        refine x_get S (fun w h => List.mem_cons_of_mem _ (List.mem_append_right _ h)) hK hP 0 (by omega) rfl rfl 6 (by decide) (List.mem_of_getElem? (i := 2) rfl) rfl dX9_faultNow_43 ?_
        refine x_top S (y := nI L) (by rw [xfs_t]; exact hL) ?_
        refine x_icmpN_ge (tgt := 61) S dX9_faultNow_46 (by decide) (by omega) (by omega) (fun c_46 => ?_) (fun c_46 => ?_)
        · refine lv_iconst (v := (-1)) hx hb dX9_faultNow_61 (by decide) ?_
          refine lv_istore (lv' := [(5, .int (-1 : Int32)), (4, .int (nI h)), (3, .int (xt_b (σ 6) (n * 7 + h))), (2, .int (nI (n * 7 + h))), (1, .int (nI n)), (0, .ref (α 0))]) hx hb dX9_faultNow_62 hl (by decide) rfl (fun ls hl => ?_)
          refine lv_iload hx hb dX9_faultNow_64 (lv_at hl 0 rfl) ?_
          refine x_cSi (As := [.int (-1 : Int32)]) (rest := []) S (c_X9_isSix l (-1 : Int32)  ) (x_cwS (n0 := 1) S gX9_faultNow_X9_isSix rfl (by decide +kernel) ⟨Nat.le_of_ble_eq_true rfl, Nat.le_of_ble_eq_true rfl⟩) rfl hl.1 rfl (Nat.le_of_ble_eq_true rfl) dX9_faultNow_66 ⟨Nat.le_refl _, Nat.le_refl _⟩ (fun r_66 hr_66 => ?_)
          subst hr_66
          refine x_if_eqB (tgt := 81) S dX9_faultNow_69 (by decide) (fun c_69 => ?_) (fun c_69 => ?_)
          · refine lv_iload_n hx hb dX9_faultNow_81 rfl (lv_at hl 3 rfl) ?_
            exact x_iretW S hlocks hP hS hr rfl (xf_ret hLe (by omega) (xf_end hno2 (by omega) h21.2 (by omega))) dX9_faultNow_82
          · exact absurd c_69 xin_m1
        · refine lv_aload_n hx hb dX9_faultNow_49 rfl (lv_at hl 4 rfl) ?_
          refine x_get S (fun w h => List.mem_cons_of_mem _ (List.mem_append_right _ h)) hK hP 0 (by omega) rfl rfl 5 (by decide) (List.mem_of_getElem? (i := 3) rfl) rfl dX9_faultNow_50 ?_
          refine lv_iload_n hx hb dX9_faultNow_53 rfl (lv_at hl 2 rfl) ?_
          refine x_iald S hK hP 6 (by omega) rfl (by first | assumption | omega) (by omega) dX9_faultNow_54 ?_
          refine x_top S (y := σ 6 (n * 7 + h)) (by rw [xfs_6]) ?_
          refine lv_bipush (v := nI 48) hx hb dX9_faultNow_55 (by decide) ?_
          refine lv_isub hx hb dX9_faultNow_57 ?_
          refine lv_goto (tgt := 62) hx hb dX9_faultNow_58 (by decide) ?_
          refine lv_istore (lv' := [(5, .int ((σ 6 (n * 7 + h)) - (nI 48))), (4, .int (nI h)), (3, .int (xt_b (σ 6) (n * 7 + h))), (2, .int (nI (n * 7 + h))), (1, .int (nI n)), (0, .ref (α 0))]) hx hb dX9_faultNow_62 hl (by decide) rfl (fun ls hl => ?_)
          refine lv_iload hx hb dX9_faultNow_64 (lv_at hl 0 rfl) ?_
          refine x_cSi (As := [.int ((σ 6 (n * 7 + h)) - (nI 48))]) (rest := []) S (c_X9_isSix l ((σ 6 (n * 7 + h)) - (nI 48))  ) (x_cwS (n0 := 1) S gX9_faultNow_X9_isSix rfl (by decide +kernel) ⟨Nat.le_of_ble_eq_true rfl, Nat.le_of_ble_eq_true rfl⟩) rfl hl.1 rfl (Nat.le_of_ble_eq_true rfl) dX9_faultNow_66 ⟨Nat.le_refl _, Nat.le_refl _⟩ (fun r_66 hr_66 => ?_)
          subst hr_66
          refine x_if_eqB (tgt := 81) S dX9_faultNow_69 (by decide) (fun c_69 => ?_) (fun c_69 => ?_)
          · refine lv_iload_n hx hb dX9_faultNow_81 rfl (lv_at hl 3 rfl) ?_
            exact x_iretW S hlocks hP hS hr rfl (by first | exact xf_ret hLe (by omega) (xt_fault_at c_46 hno2 (Or.inr (Or.inr ⟨by omega, Or.inr c_78⟩))) | exact xf_ret hLe (by omega) (xt_fault_at c_46 hno2 (Or.inr (Or.inr ⟨by omega, Or.inl c_69⟩)))) dX9_faultNow_82
          · refine lv_iload_n hx hb dX9_faultNow_72 rfl (lv_at hl 2 rfl) ?_
            refine lv_iload hx hb dX9_faultNow_73 (lv_at hl 0 rfl) ?_
            refine x_cSi (As := [.int (xt_b (σ 6) (n * 7 + h)), .int ((σ 6 (n * 7 + h)) - (nI 48))]) (rest := []) S (c_X9_isIn l (xt_b (σ 6) (n * 7 + h)) ((σ 6 (n * 7 + h)) - (nI 48))  ) (x_cwS (n0 := 2) S gX9_faultNow_X9_isIn rfl (by decide +kernel) ⟨Nat.le_of_ble_eq_true rfl, Nat.le_of_ble_eq_true rfl⟩) rfl hl.1 rfl (Nat.le_of_ble_eq_true rfl) dX9_faultNow_75 ⟨Nat.le_refl _, Nat.le_refl _⟩ (fun r_75 hr_75 => ?_)
            subst hr_75
            refine x_if_eqB (tgt := 83) S dX9_faultNow_78 (by decide) (fun c_78 => ?_) (fun c_78 => ?_)
            · refine lv_iload_n hx hb dX9_faultNow_83 rfl (lv_at hl 2 rfl) ?_
              refine lv_iconst (v := nI 1) hx hb dX9_faultNow_84 (by decide) ?_
              refine lv_iload hx hb dX9_faultNow_85 (lv_at hl 0 rfl) ?_
              refine lv_ishl hx hb dX9_faultNow_87 ?_
              refine lv_ior hx hb dX9_faultNow_88 ?_
              refine lv_istore_n (lv' := [(3, .int ((xt_b (σ 6) (n * 7 + h)) ||| ((nI 1) <<< (((σ 6 (n * 7 + h)) - (nI 48)) &&& 31)))), (5, .int ((σ 6 (n * 7 + h)) - (nI 48))), (4, .int (nI h)), (2, .int (nI (n * 7 + h))), (1, .int (nI n)), (0, .ref (α 0))]) hx hb dX9_faultNow_89 rfl hl (by decide) rfl (fun ls hl => ?_)
              refine lv_aload_n hx hb dX9_faultNow_90 rfl (lv_at hl 5 rfl) ?_
              refine x_get S (fun w h => List.mem_cons_of_mem _ (List.mem_append_right _ h)) hK hP 0 (by omega) rfl rfl 8 (by decide) (List.mem_of_getElem? (i := 4) rfl) rfl dX9_faultNow_91 ?_
              refine lv_bipush (v := nI 6) hx hb dX9_faultNow_94 (by decide) ?_
              refine lv_iload_n hx hb dX9_faultNow_96 rfl (lv_at hl 4 rfl) ?_
              refine x_imulN S dX9_faultNow_97 ?_
              refine lv_iload hx hb dX9_faultNow_98 (lv_at hl 2 rfl) ?_
              refine x_iaddN S dX9_faultNow_100 ?_
              refine lv_iload hx hb dX9_faultNow_101 (lv_at hl 1 rfl) ?_
              refine x_iast S hK hP hI hS 7 (by omega) (fun _ => rfl) (by first | assumption | omega) (by omega) dX9_faultNow_103 (fun H locs hP hS => ?_)
              have hP : va_P D vwCl (xw 20 α (xM α K) (xfs σ (nI 0) (upd bk2 (6 * n + h) (σ 6 (n * 7 + h) - nI 48)))) H := by
                rw [show xfs σ (nI 0) (upd bk2 (6 * n + h) (σ 6 (n * 7 + h) - nI 48)) = (va_up (xfs σ (nI 0) bk2) 7 (upd ((xfs σ (nI 0) bk2) 7) ((6 * n) + h) ((σ 6 (n * 7 + h)) - (nI 48)))) from xfs_put _ _ _ _ _]; exact hP
              refine lv_iinc (v := nI (n * 7 + h + 1)) (lv' := [(2, .int (nI (n * 7 + h + 1))), (3, .int ((xt_b (σ 6) (n * 7 + h)) ||| ((nI 1) <<< (((σ 6 (n * 7 + h)) - (nI 48)) &&& 31)))), (5, .int ((σ 6 (n * 7 + h)) - (nI 48))), (4, .int (nI h)), (1, .int (nI n)), (0, .ref (α 0))]) hx hb dX9_faultNow_104 hl (k := 3) rfl (nI_add (n * 7 + h) 1) (by decide) rfl (fun ls hl => ?_)
              refine lv_iinc (v := nI (h + 1)) (lv' := [(4, .int (nI (h + 1))), (2, .int (nI (n * 7 + h + 1))), (3, .int ((xt_b (σ 6) (n * 7 + h)) ||| ((nI 1) <<< (((σ 6 (n * 7 + h)) - (nI 48)) &&& 31)))), (5, .int ((σ 6 (n * 7 + h)) - (nI 48))), (1, .int (nI n)), (0, .ref (α 0))]) hx hb dX9_faultNow_107 hl (k := 3) rfl (nI_add h 1) (by decide) rfl (fun ls hl => ?_)
              refine lv_goto (tgt := 34) hx hb dX9_faultNow_110 (by decide) ?_
              exact ih_34 (⟨h + 1, upd bk2 (6 * n + h) (σ 6 (n * 7 + h) - nI 48)⟩) H locs ls ⟨(by omega), (by omega), (show ∀ k, k < n * 7 + h + 1 → ¬ xt_bad (σ 6) k from lt_s hno2 (fun q => by rcases q with q | ⟨q, q2⟩ | ⟨q, q2⟩; omega; omega; rcases q2 with q2 | q2; exact q2 c_69; exact c_78 q2)), (fun y hy h2 hh2 => by rw [pk_un (by omega)]; exact hbk2 y hy h2 hh2), lt_s (fun j hj => by rw [pk_un (by omega)]; exact hbk3 j hj) pk_us, (by have h9 := lv_sub (l' := [(4, .int (nI (h + 1))), (3, .int ((xt_b (σ 6) (n * 7 + h)) ||| ((nI 1) <<< (((σ 6 (n * 7 + h)) - (nI 48)) &&& 31)))), (2, .int (nI (n * 7 + h + 1))), (1, .int (nI n)), (0, .ref (α 0))]) hl [0, 2, 1, 4, 5] rfl; rw [show xt_b (σ 6) (n * 7 + h) ||| nI 1 <<< ((σ 6 (n * 7 + h) - nI 48) &&& 31) = xt_b (σ 6) (n * 7 + h + 1) from (if_neg (show ¬ (n * 7 + h) % 7 = 6 by omega)).symm] at h9; exact h9), hP, hS⟩ (by (try dsimp only); omega)
            · refine lv_iload_n hx hb dX9_faultNow_81 rfl (lv_at hl 3 rfl) ?_
              exact x_iretW S hlocks hP hS hr rfl (by first | exact xf_ret hLe (by omega) (xt_fault_at c_46 hno2 (Or.inr (Or.inr ⟨by omega, Or.inr c_78⟩))) | exact xf_ret hLe (by omega) (xt_fault_at c_46 hno2 (Or.inr (Or.inr ⟨by omega, Or.inl c_69⟩)))) dX9_faultNow_82
    · have hq := xf_84 c_24 hno h21.1
      refine lv_iload_n hx hb dX9_faultNow_27 rfl (lv_at hl 0 rfl) ?_
      exact x_iretW S hlocks hP hS hr rfl (xf_ret hLe (by omega) hq) dX9_faultNow_28
  · intro kc_21
    refine lv_aload_n hx hb dX9_faultNow_10 rfl (lv_at hl 2 rfl) ?_
    refine x_get S (fun w h => List.mem_cons_of_mem _ (List.mem_append_right _ h)) hK hP 0 (by omega) rfl rfl 6 (by decide) (List.mem_of_getElem? (i := 2) rfl) rfl dX9_faultNow_11 ?_
    refine x_top S (y := nI L) (by rw [xfs_t]; exact hL) ?_
    refine x_icmpN_lt (tgt := 21) S dX9_faultNow_14 (by decide) (by omega) (by omega) (fun c_14 => ?_) (fun c_14 => ?_)
    · exact kc_21 () _ _ ls ⟨⟨by omega, by omega⟩, lv_sub hl [0, 1, 2] rfl, hP, hS⟩
    · refine lv_iload_n hx hb dX9_faultNow_17 rfl (lv_at hl 0 rfl) ?_
      refine x_ifN_le (tgt := 150) S dX9_faultNow_18 (by decide) (by omega) (fun c_18 => ?_) (fun c_18 => ?_)
      · refine lv_iconst (v := (-1)) hx hb dX9_faultNow_150 (by decide) ?_
        exact x_iretW S hlocks hP hS hr rfl (xf_ret0 hLe (by omega)) dX9_faultNow_151
      · exact kc_21 () _ _ ls ⟨⟨by omega, by omega⟩, lv_sub hl [0, 1, 2] rfl, hP, hS⟩
set_option maxHeartbeats 4000000 in
set_option maxRecDepth 100000 in
theorem c_X9_isYear (l : Launch) {D : va_G} {K : Nat → ClassId} {α : Nat → Nat} (σ : Nat → Nat → Int32) (hI : xw_I 20 α) (x : Int32)  (hC : xIM σ) : Met l yX9_isYear wsX9_isYear (xrm 3) (va_Pc [.ref (α 0), .int x] (xPre D K 20 α (xM α K) σ)) (xQi D 20 α (xM α K) (fun r τ => r = xb (xin x (xYM σ)) ∧ xMs σ τ ∧ xBk τ)) 0 0 (xw_R 20 α) := by
  refine Met.ofW (cc := cX9_isYear) (maxL := 3) (ret := (some .boolean)) (by decide) rfl ?_
  intro p e s m args below meth c s₁ B hml hv
  obtain ⟨rfl, hK, hP⟩ := hv
  have S : CallFix p m c cX9_isYear 3 s _ wsX9_isYear RX9 := ⟨B.exec, B.bytes, hml, findClass_of_methodNamed B.named, atoms_spec (ws := wsX9_isYear) B.pre⟩
  have hx := S.1
  have hb := S.2.1
  have hr := B.returns
  have hlocks := B.notSynchronized
  have hS : va_S (xw_R 20 α) s.heap s.heap [] := va_S.rf
  have hl := lv_entry ([.ref (α 0), .int x]) (n := 3) (Nat.le_of_ble_eq_true rfl)
  rw [lg_entry_eq]
  generalize (lg_sl ([.ref (α 0), .int x]) ++ List.replicate (3 - (lg_sl ([.ref (α 0), .int x])).length) Slot.unset).toArray = ls at hl ⊢
  have hl : lv_has ls 3 [(0, .ref (α 0)), (1, .int x)] := hl
  have hPP := hP
  have hY := xIM_Y hC
  have hY12 := xIM_12 hC
  have hPm := xIM_P hC
  refine lv_aload_n hx hb dX9_isYear_0 rfl (lv_at hl 0 rfl) ?_
  refine x_cVWi (As := []) (rest := []) S hK hP hS (fun _ h => h) 0 (by omega) rfl rfl (c_X9_faultNow l σ hI   (by first | assumption | omega)) (x_cwV (n0 := 0) (cq := (RX9, TX9, 24)) S gX9_isYear_X9_faultNow rfl (by decide +kernel) ⟨Nat.le_of_ble_eq_true rfl, Nat.le_of_ble_eq_true rfl⟩) rfl hl.1 rfl (Nat.le_of_ble_eq_true rfl) dX9_isYear_1 ⟨Nat.le_refl _, Nat.le_refl _⟩ (fun r_1 τ_1 H locs hr_1 hP hk_1 hS => ?_)
  obtain ⟨hr_1, hms_1, hbk_1⟩ := hr_1
  subst hr_1
  obtain ⟨hyr, hbk⟩ := xBk_of hms_1 hbk_1
  have eF := xMs_F hms_1
  have e6 : τ_1 6 = σ 6 := xMs_k hms_1 (by decide)
  have hC2 := xMs_IM hms_1 hC
  refine lv_istore_n (lv' := [(2, .int (xt_fault (σ 6) (xLM σ))), (0, .ref (α 0)), (1, .int x)]) hx hb dX9_isYear_4 rfl hl (by decide) rfl (fun ls hl => ?_)
  refine lv_iload_n hx hb dX9_isYear_5 rfl (lv_at hl 2 rfl) ?_
  refine lv_iconst (v := nI 0) hx hb dX9_isYear_6 (by decide) ?_
  refine lv_aload_n hx hb dX9_isYear_7 rfl (lv_at hl 1 rfl) ?_
  refine x_get S (fun w h => List.mem_cons_of_mem _ (List.mem_append_right _ h)) hK hP 0 (by omega) rfl rfl 7 (by decide) (List.mem_of_getElem? (i := 1) rfl) rfl dX9_isYear_8 ?_
  refine x_top S (y := nI (xYM σ)) (hyr) ?_
  refine lv_iconst (v := nI 1) hx hb dX9_isYear_11 (by decide) ?_
  refine lv_isub hx hb dX9_isYear_12 ?_
  refine x_cSi (As := [.int x, .int (nI 0), .int ((nI (xYM σ)) - (nI 1))]) (rest := []) S (c_X9_in l x (nI 0) ((nI (xYM σ)) - (nI 1))  ) (x_cwS (n0 := 3) S gX9_isYear_X9_in rfl (by decide +kernel) ⟨Nat.le_of_ble_eq_true rfl, Nat.le_of_ble_eq_true rfl⟩) rfl hl.1 rfl (Nat.le_of_ble_eq_true rfl) dX9_isYear_13 ⟨Nat.le_refl _, Nat.le_refl _⟩ (fun r_13 hr_13 => ?_)
  subst hr_13
  exact x_iretW S hlocks hP hS hr xb_nar (⟨xb_iff (xin_sub (by omega)), hms_1, hbk_1⟩) dX9_isYear_16
set_option maxHeartbeats 4000000 in
set_option maxRecDepth 100000 in
theorem c_X9_isBehind (l : Launch) {D : va_G} {K : Nat → ClassId} {α : Nat → Nat} (σ : Nat → Nat → Int32) (hI : xw_I 20 α) (x : Int32)  (hC : xIM σ) : Met l yX9_isBehind wsX9_isBehind (xrm 3) (va_Pc [.ref (α 0), .int x] (xPre D K 20 α (xM α K) σ)) (xQi D 20 α (xM α K) (fun r τ => r = xb (xin x (xYM σ + 1)) ∧ xMs σ τ ∧ xBk τ)) 0 0 (xw_R 20 α) := by
  refine Met.ofW (cc := cX9_isBehind) (maxL := 3) (ret := (some .boolean)) (by decide) rfl ?_
  intro p e s m args below meth c s₁ B hml hv
  obtain ⟨rfl, hK, hP⟩ := hv
  have S : CallFix p m c cX9_isBehind 3 s _ wsX9_isBehind RX9 := ⟨B.exec, B.bytes, hml, findClass_of_methodNamed B.named, atoms_spec (ws := wsX9_isBehind) B.pre⟩
  have hx := S.1
  have hb := S.2.1
  have hr := B.returns
  have hlocks := B.notSynchronized
  have hS : va_S (xw_R 20 α) s.heap s.heap [] := va_S.rf
  have hl := lv_entry ([.ref (α 0), .int x]) (n := 3) (Nat.le_of_ble_eq_true rfl)
  rw [lg_entry_eq]
  generalize (lg_sl ([.ref (α 0), .int x]) ++ List.replicate (3 - (lg_sl ([.ref (α 0), .int x])).length) Slot.unset).toArray = ls at hl ⊢
  have hl : lv_has ls 3 [(0, .ref (α 0)), (1, .int x)] := hl
  have hPP := hP
  have hY := xIM_Y hC
  have hY12 := xIM_12 hC
  have hPm := xIM_P hC
  refine lv_aload_n hx hb dX9_isBehind_0 rfl (lv_at hl 0 rfl) ?_
  refine x_cVWi (As := []) (rest := []) S hK hP hS (fun _ h => h) 0 (by omega) rfl rfl (c_X9_faultNow l σ hI   (by first | assumption | omega)) (x_cwV (n0 := 0) (cq := (RX9, TX9, 24)) S gX9_isBehind_X9_faultNow rfl (by decide +kernel) ⟨Nat.le_of_ble_eq_true rfl, Nat.le_of_ble_eq_true rfl⟩) rfl hl.1 rfl (Nat.le_of_ble_eq_true rfl) dX9_isBehind_1 ⟨Nat.le_refl _, Nat.le_refl _⟩ (fun r_1 τ_1 H locs hr_1 hP hk_1 hS => ?_)
  obtain ⟨hr_1, hms_1, hbk_1⟩ := hr_1
  subst hr_1
  obtain ⟨hyr, hbk⟩ := xBk_of hms_1 hbk_1
  have eF := xMs_F hms_1
  have e6 : τ_1 6 = σ 6 := xMs_k hms_1 (by decide)
  have hC2 := xMs_IM hms_1 hC
  refine lv_istore_n (lv' := [(2, .int (xt_fault (σ 6) (xLM σ))), (0, .ref (α 0)), (1, .int x)]) hx hb dX9_isBehind_4 rfl hl (by decide) rfl (fun ls hl => ?_)
  refine lv_iload_n hx hb dX9_isBehind_5 rfl (lv_at hl 2 rfl) ?_
  refine lv_iconst (v := nI 0) hx hb dX9_isBehind_6 (by decide) ?_
  refine lv_aload_n hx hb dX9_isBehind_7 rfl (lv_at hl 1 rfl) ?_
  refine x_get S (fun w h => List.mem_cons_of_mem _ (List.mem_append_right _ h)) hK hP 0 (by omega) rfl rfl 7 (by decide) (List.mem_of_getElem? (i := 1) rfl) rfl dX9_isBehind_8 ?_
  refine x_top S (y := nI (xYM σ)) (hyr) ?_
  refine x_cSi (As := [.int x, .int (nI 0), .int (nI (xYM σ))]) (rest := []) S (c_X9_in0 l x (xYM σ)  (by first | assumption | omega)) (x_cwS (n0 := 3) S gX9_isBehind_X9_in rfl (by decide +kernel) ⟨Nat.le_of_ble_eq_true rfl, Nat.le_of_ble_eq_true rfl⟩) rfl hl.1 rfl (Nat.le_of_ble_eq_true rfl) dX9_isBehind_11 ⟨Nat.le_refl _, Nat.le_refl _⟩ (fun r_11 hr_11 => ?_)
  subst hr_11
  exact x_iretW S hlocks hP hS hr xb_nar (⟨rfl, hms_1, hbk_1⟩) dX9_isBehind_14
set_option maxHeartbeats 4000000 in
set_option maxRecDepth 100000 in
theorem c_X9_borne (l : Launch) {D : va_G} {K : Nat → ClassId} {α : Nat → Nat} (σ : Nat → Nat → Int32) (hI : xw_I 20 α) (x0 : Int32) (x1 : Int32)  (hC : xIM σ) : Met l yX9_borne wsX9_borne (xrm 4) (va_Pc [.ref (α 0), .int x0, .int x1] (xPre D K 20 α (xM α K) σ)) (xQi D 20 α (xM α K) (fun r τ => r = xp_borne (σ 6) (xYM σ) x0 x1 ∧ xMs σ τ)) 0 0 (xw_R 20 α) := by
  refine Met.ofW (cc := cX9_borne) (maxL := 3) (ret := (some .int)) (by decide) rfl ?_
  intro p e s m args below meth c s₁ B hml hv
  obtain ⟨rfl, hK, hP⟩ := hv
  have S : CallFix p m c cX9_borne 3 s _ wsX9_borne RX9 := ⟨B.exec, B.bytes, hml, findClass_of_methodNamed B.named, atoms_spec (ws := wsX9_borne) B.pre⟩
  have hx := S.1
  have hb := S.2.1
  have hr := B.returns
  have hlocks := B.notSynchronized
  have hS : va_S (xw_R 20 α) s.heap s.heap [] := va_S.rf
  have hl := lv_entry ([.ref (α 0), .int x0, .int x1]) (n := 3) (Nat.le_of_ble_eq_true rfl)
  rw [lg_entry_eq]
  generalize (lg_sl ([.ref (α 0), .int x0, .int x1]) ++ List.replicate (3 - (lg_sl ([.ref (α 0), .int x0, .int x1])).length) Slot.unset).toArray = ls at hl ⊢
  have hl : lv_has ls 3 [(0, .ref (α 0)), (1, .int x0), (2, .int x1)] := hl
  have hPP := hP
  have hY := xIM_Y hC
  have hY12 := xIM_12 hC
  have hPm := xIM_P hC
  refine lv_iload_n hx hb dX9_borne_0 rfl (lv_at hl 1 rfl) ?_
  refine x_cSi (As := [.int x0]) (rest := []) S (c_X9_isSix l x0  ) (x_cwS (n0 := 1) S gX9_borne_X9_isSix rfl (by decide +kernel) ⟨Nat.le_of_ble_eq_true rfl, Nat.le_of_ble_eq_true rfl⟩) rfl hl.1 rfl (Nat.le_of_ble_eq_true rfl) dX9_borne_1 ⟨Nat.le_refl _, Nat.le_refl _⟩ (fun r_1 hr_1 => ?_)
  subst hr_1
  refine x_if_eqB (tgt := 29) S dX9_borne_4 (by decide) (fun c_4 => ?_) (fun c_4 => ?_)
  · refine lv_bipush (v := (-2)) hx hb dX9_borne_29 (by decide) ?_
    exact x_iretW S hlocks hP hS hr rfl (by first | exact ⟨by rw [xp_borne, if_neg (fun q => c_4 q.1)], xMs_rf _⟩ | exact ⟨by rw [xp_borne, if_neg (fun q => c_12 q.2)], hms_9⟩) dX9_borne_31
  · refine lv_aload_n hx hb dX9_borne_7 rfl (lv_at hl 0 rfl) ?_
    refine lv_iload_n hx hb dX9_borne_8 rfl (lv_at hl 2 rfl) ?_
    refine x_cVWi (As := [.int x1]) (rest := []) S hK hP hS (fun _ h => h) 0 (by omega) rfl rfl (c_X9_isYear l σ hI x1  (by first | assumption | omega)) (x_cwV (n0 := 1) (cq := (RX9, TX9, 24)) S gX9_borne_X9_isYear rfl (by decide +kernel) ⟨Nat.le_of_ble_eq_true rfl, Nat.le_of_ble_eq_true rfl⟩) rfl hl.1 rfl (Nat.le_of_ble_eq_true rfl) dX9_borne_9 ⟨Nat.le_refl _, Nat.le_refl _⟩ (fun r_9 τ_9 H locs hr_9 hP hk_9 hS => ?_)
    obtain ⟨hr_9, hms_9, hbk_9⟩ := hr_9
    subst hr_9
    obtain ⟨hyr, hbk⟩ := xBk_of hms_9 hbk_9
    have eF := xMs_F hms_9
    have e6 : τ_9 6 = σ 6 := xMs_k hms_9 (by decide)
    have hC2 := xMs_IM hms_9 hC
    refine x_if_eqB (tgt := 29) S dX9_borne_12 (by decide) (fun c_12 => ?_) (fun c_12 => ?_)
    · refine lv_bipush (v := (-2)) hx hb dX9_borne_29 (by decide) ?_
      exact x_iretW S hlocks hP hS hr rfl (by first | exact ⟨by rw [xp_borne, if_neg (fun q => c_4 q.1)], xMs_rf _⟩ | exact ⟨by rw [xp_borne, if_neg (fun q => c_12 q.2)], hms_9⟩) dX9_borne_31
    · obtain ⟨h, hh, rfl⟩ := xin_of c_4 (by omega)
      obtain ⟨y, hy, rfl⟩ := xin_of c_12 (by omega)
      refine lv_aload_n hx hb dX9_borne_15 rfl (lv_at hl 0 rfl) ?_
      refine x_get S (fun w h => List.mem_cons_of_mem _ (List.mem_append_right _ h)) hK hP 0 (by omega) rfl rfl 8 (by decide) (List.mem_of_getElem? (i := 1) rfl) rfl dX9_borne_16 ?_
      refine lv_bipush (v := nI 6) hx hb dX9_borne_19 (by decide) ?_
      refine lv_iload_n hx hb dX9_borne_21 rfl (lv_at hl 2 rfl) ?_
      refine x_imulN S dX9_borne_22 ?_
      refine lv_iload_n hx hb dX9_borne_23 rfl (lv_at hl 1 rfl) ?_
      refine x_iaddN S dX9_borne_24 ?_
      refine x_iald S hK hP 7 (by omega) rfl (by first | assumption | omega) (by omega) dX9_borne_25 ?_
      refine x_top S (y := nI (xnm (σ 6) y h)) (hbk y (by omega) h (by omega)) ?_
      refine lv_goto (tgt := 31) hx hb dX9_borne_26 (by decide) ?_
      exact x_iretW S hlocks hP hS hr rfl (⟨by rw [xp_borne, if_pos ⟨xin_nI (by omega) (by omega), xin_nI (by omega) (by omega)⟩, cN_nI (by omega), cN_nI (by omega)], hms_9⟩) dX9_borne_31
set_option maxHeartbeats 4000000 in
set_option maxRecDepth 100000 in
theorem c_X9_earns (l : Launch) {D : va_G} {K : Nat → ClassId} {α : Nat → Nat} (σ : Nat → Nat → Int32) (h : Nat) (n : Nat)  (hh : h < 6) (hn : n < 6) : Met l yX9_earns wsX9_earns (xrm 1) (va_Pc [.ref (α 0), .int (nI h), .int (nI n)] (xPre D K 20 α (xM α K) σ)) (vp_Si (fun r => r = xs_earn (xFM σ) h n)) 0 0 (fun _ => False) := by
  refine Met.ofW (cc := cX9_earns) (maxL := 3) (ret := (some .int)) (by decide) rfl ?_
  intro p e s m args below meth c s₁ B hml hv
  obtain ⟨rfl, hK, hP⟩ := hv
  have S : CallFix p m c cX9_earns 3 s _ wsX9_earns RX9 := ⟨B.exec, B.bytes, hml, findClass_of_methodNamed B.named, atoms_spec (ws := wsX9_earns) B.pre⟩
  have hx := S.1
  have hb := S.2.1
  have hr := B.returns
  have hlocks := B.notSynchronized
  have hl := lv_entry ([.ref (α 0), .int (nI h), .int (nI n)]) (n := 3) (Nat.le_of_ble_eq_true rfl)
  rw [lg_entry_eq]
  generalize (lg_sl ([.ref (α 0), .int (nI h), .int (nI n)]) ++ List.replicate (3 - (lg_sl ([.ref (α 0), .int (nI h), .int (nI n)])).length) Slot.unset).toArray = ls at hl ⊢
  have hl : lv_has ls 3 [(0, .ref (α 0)), (1, .int (nI h)), (2, .int (nI n))] := hl
  have hPP := hP
  refine lv_aload_n hx hb dX9_earns_0 rfl (lv_at hl 0 rfl) ?_
  refine lv_iload_n hx hb dX9_earns_1 rfl (lv_at hl 1 rfl) ?_
  refine lv_iload_n hx hb dX9_earns_2 rfl (lv_at hl 2 rfl) ?_
  refine x_cVRi (As := [.int (nI h), .int (nI n)]) (rest := []) S hK hP 0 (by omega) rfl rfl (c_X9_doesFit l σ h n  (by first | assumption | omega) (by first | assumption | omega)) (x_cwV (n0 := 2) (cq := (RX9, TX9, 24)) S gX9_earns_X9_doesFit rfl (by decide +kernel) ⟨Nat.le_of_ble_eq_true rfl, Nat.le_of_ble_eq_true rfl⟩) rfl hl.1 rfl (Nat.le_of_ble_eq_true rfl) dX9_earns_3 ⟨Nat.le_refl _, Nat.le_refl _⟩ (fun r_3 hr_3 => ?_)
  subst hr_3
  refine x_if_eqB (tgt := 18) S dX9_earns_6 (by decide) (fun c_6 => ?_) (fun c_6 => ?_)
  · refine lv_iconst (v := nI 0) hx hb dX9_earns_18 (by decide) ?_
    exact x_iretR S hlocks hr rfl ((if_neg c_6).symm) dX9_earns_19
  · refine lv_aload_n hx hb dX9_earns_9 rfl (lv_at hl 0 rfl) ?_
    refine x_get S (fun w h => List.mem_cons_of_mem _ (List.mem_append_right _ h)) hK hP 0 (by omega) rfl rfl 4 (by decide) (List.mem_of_getElem? (i := 1) rfl) rfl dX9_earns_10 ?_
    refine lv_iload_n hx hb dX9_earns_13 rfl (lv_at hl 2 rfl) ?_
    refine x_iald S hK hP 5 (by omega) rfl (by first | assumption | omega) (by omega) dX9_earns_14 ?_
    refine lv_goto (tgt := 19) hx hb dX9_earns_15 (by decide) ?_
    exact x_iretR S hlocks hr rfl ((if_pos c_6).symm) dX9_earns_19
set_option maxHeartbeats 4000000 in
set_option maxRecDepth 100000 in
theorem c_X9_purseOf (l : Launch) {D : va_G} {K : Nat → ClassId} {α : Nat → Nat} (σ : Nat → Nat → Int32) (h : Nat) (k : Nat) (Y : Nat)  (hbk : ∀ y, y < Y → ∀ h, h < 6 → σ 7 (6 * y + h) = nI (xnm (σ 6) y h)) (hY : xY (σ 6) Y) (hY12 : Y ≤ 12) (hh : h < 6) (hk : k ≤ Y) : Met l yX9_purseOf wsX9_purseOf (xrm 2) (va_Pc [.ref (α 0), .int (nI h), .int (nI k)] (xPre D K 20 α (xM α K) σ)) (vp_Si (fun r => r = xs_purse (xFM σ) (σ 6) h k)) 0 0 (fun _ => False) := by
  refine Met.ofW (cc := cX9_purseOf) (maxL := 5) (ret := (some .int)) (by decide) rfl ?_
  intro p e s m args below meth c s₁ B hml hv
  obtain ⟨rfl, hK, hP⟩ := hv
  have S : CallFix p m c cX9_purseOf 5 s _ wsX9_purseOf RX9 := ⟨B.exec, B.bytes, hml, findClass_of_methodNamed B.named, atoms_spec (ws := wsX9_purseOf) B.pre⟩
  have hx := S.1
  have hb := S.2.1
  have hr := B.returns
  have hlocks := B.notSynchronized
  have hl := lv_entry ([.ref (α 0), .int (nI h), .int (nI k)]) (n := 5) (Nat.le_of_ble_eq_true rfl)
  rw [lg_entry_eq]
  generalize (lg_sl ([.ref (α 0), .int (nI h), .int (nI k)]) ++ List.replicate (5 - (lg_sl ([.ref (α 0), .int (nI h), .int (nI k)])).length) Slot.unset).toArray = ls at hl ⊢
  have hl : lv_has ls 5 [(0, .ref (α 0)), (1, .int (nI h)), (2, .int (nI k))] := hl
  have hPP := hP
  refine lv_iconst (v := nI 0) hx hb dX9_purseOf_0 (by decide) ?_
  refine lv_istore_n (lv' := [(3, .int (nI 0)), (0, .ref (α 0)), (1, .int (nI h)), (2, .int (nI k))]) hx hb dX9_purseOf_1 rfl hl (by decide) rfl (fun ls hl => ?_)
  refine lv_iconst (v := nI 0) hx hb dX9_purseOf_2 (by decide) ?_
  refine lv_istore (lv' := [(4, .int (nI 0)), (3, .int (nI 0)), (0, .ref (α 0)), (1, .int (nI h)), (2, .int (nI k))]) hx hb dX9_purseOf_3 hl (by decide) rfl (fun ls hl => ?_)
  refine x_loop (ι := Nat) (fun i ls => (i ≤ k) ∧ lv_has ls 5 [(4, .int (nI i)), (3, .int (xsum (fun y => xs_earn (xFM σ) h (xnm (σ 6) y h)) i)), (0, .ref (α 0)), (1, .int (nI h)), (2, .int (nI k))]) (fun i => k - i) ?_ 0 ls ⟨Nat.zero_le _, lv_sub hl [0, 1, 2, 3, 4] rfl⟩
  intro i ls hinv ih_5
  obtain ⟨hi, hl⟩ := hinv
  have hl : lv_has ls 5 [(4, .int (nI i)), (3, .int (xsum (fun y => xs_earn (xFM σ) h (xnm (σ 6) y h)) i)), (0, .ref (α 0)), (1, .int (nI h)), (2, .int (nI k))] := hl
  refine lv_iload hx hb dX9_purseOf_5 (lv_at hl 0 rfl) ?_
  refine lv_iload_n hx hb dX9_purseOf_7 rfl (lv_at hl 4 rfl) ?_
  refine x_icmpN_ge (tgt := 37) S dX9_purseOf_8 (by decide) (by omega) (by omega) (fun c_8 => ?_) (fun c_8 => ?_)
  · have e9 : i = k := by omega
    subst e9
    refine lv_iload_n hx hb dX9_purseOf_37 rfl (lv_at hl 1 rfl) ?_
    exact x_iretR S hlocks hr rfl (rfl) dX9_purseOf_38
  · refine lv_iload_n hx hb dX9_purseOf_11 rfl (lv_at hl 1 rfl) ?_
    refine lv_aload_n hx hb dX9_purseOf_12 rfl (lv_at hl 2 rfl) ?_
    refine lv_iload_n hx hb dX9_purseOf_13 rfl (lv_at hl 3 rfl) ?_
    refine lv_aload_n hx hb dX9_purseOf_14 rfl (lv_at hl 2 rfl) ?_
    refine x_get S (fun w h => List.mem_cons_of_mem _ (List.mem_append_right _ h)) hK hP 0 (by omega) rfl rfl 8 (by decide) (List.mem_of_getElem? (i := 1) rfl) rfl dX9_purseOf_15 ?_
    refine lv_bipush (v := nI 6) hx hb dX9_purseOf_18 (by decide) ?_
    refine lv_iload hx hb dX9_purseOf_20 (lv_at hl 0 rfl) ?_
    refine x_imulN S dX9_purseOf_22 ?_
    refine lv_iload_n hx hb dX9_purseOf_23 rfl (lv_at hl 3 rfl) ?_
    refine x_iaddN S dX9_purseOf_24 ?_
    refine x_iald S hK hP 7 (by omega) rfl (by first | assumption | omega) (by omega) dX9_purseOf_25 ?_
    refine x_top S (y := nI (xnm (σ 6) i h)) (hbk i (by omega) h hh) ?_
    refine x_cVRi (As := [.int (nI h), .int (nI (xnm (σ 6) i h))]) (rest := [.int (xsum (fun y => xs_earn (xFM σ) h (xnm (σ 6) y h)) i)]) S hK hP 0 (by omega) rfl rfl (c_X9_earns l σ h (xnm (σ 6) i h)  (by first | assumption | omega) ((hY _ (by omega) _ (by omega)).1)) (x_cwV (n0 := 2) (cq := (RX9, TX9, 24)) S gX9_purseOf_X9_earns rfl (by decide +kernel) ⟨Nat.le_of_ble_eq_true rfl, Nat.le_of_ble_eq_true rfl⟩) rfl hl.1 rfl (Nat.le_of_ble_eq_true rfl) dX9_purseOf_26 ⟨Nat.le_refl _, Nat.le_refl _⟩ (fun r_26 hr_26 => ?_)
    subst hr_26
    refine lv_iadd hx hb dX9_purseOf_29 ?_
    refine lv_istore_n (lv' := [(3, .int ((xsum (fun y => xs_earn (xFM σ) h (xnm (σ 6) y h)) i) + (xs_earn (xFM σ) h (xnm (σ 6) i h)))), (4, .int (nI i)), (0, .ref (α 0)), (1, .int (nI h)), (2, .int (nI k))]) hx hb dX9_purseOf_30 rfl hl (by decide) rfl (fun ls hl => ?_)
    refine lv_iinc (v := nI (i + 1)) (lv' := [(4, .int (nI (i + 1))), (3, .int ((xsum (fun y => xs_earn (xFM σ) h (xnm (σ 6) y h)) i) + (xs_earn (xFM σ) h (xnm (σ 6) i h)))), (0, .ref (α 0)), (1, .int (nI h)), (2, .int (nI k))]) hx hb dX9_purseOf_31 hl (k := 1) rfl (nI_add i 1) (by decide) rfl (fun ls hl => ?_)
    refine lv_goto (tgt := 5) hx hb dX9_purseOf_34 (by decide) ?_
    exact ih_5 (i + 1) ls ⟨(by omega), lv_sub hl [0, 1, 2, 3, 4] rfl⟩ (by (try dsimp only); omega)
set_option maxHeartbeats 4000000 in
set_option maxRecDepth 100000 in
theorem c_X9_purse (l : Launch) {D : va_G} {K : Nat → ClassId} {α : Nat → Nat} (σ : Nat → Nat → Int32) (hI : xw_I 20 α) (x0 : Int32) (x1 : Int32)  (hC : xIM σ) : Met l yX9_purse wsX9_purse (xrm 4) (va_Pc [.ref (α 0), .int x0, .int x1] (xPre D K 20 α (xM α K) σ)) (xQi D 20 α (xM α K) (fun r τ => r = xp_purse (xFM σ) (σ 6) (xYM σ) x0 x1 ∧ xMs σ τ)) 0 0 (xw_R 20 α) := by
  refine Met.ofW (cc := cX9_purse) (maxL := 3) (ret := (some .int)) (by decide) rfl ?_
  intro p e s m args below meth c s₁ B hml hv
  obtain ⟨rfl, hK, hP⟩ := hv
  have S : CallFix p m c cX9_purse 3 s _ wsX9_purse RX9 := ⟨B.exec, B.bytes, hml, findClass_of_methodNamed B.named, atoms_spec (ws := wsX9_purse) B.pre⟩
  have hx := S.1
  have hb := S.2.1
  have hr := B.returns
  have hlocks := B.notSynchronized
  have hS : va_S (xw_R 20 α) s.heap s.heap [] := va_S.rf
  have hl := lv_entry ([.ref (α 0), .int x0, .int x1]) (n := 3) (Nat.le_of_ble_eq_true rfl)
  rw [lg_entry_eq]
  generalize (lg_sl ([.ref (α 0), .int x0, .int x1]) ++ List.replicate (3 - (lg_sl ([.ref (α 0), .int x0, .int x1])).length) Slot.unset).toArray = ls at hl ⊢
  have hl : lv_has ls 3 [(0, .ref (α 0)), (1, .int x0), (2, .int x1)] := hl
  have hPP := hP
  have hY := xIM_Y hC
  have hY12 := xIM_12 hC
  have hPm := xIM_P hC
  refine lv_iload_n hx hb dX9_purse_0 rfl (lv_at hl 1 rfl) ?_
  refine x_cSi (As := [.int x0]) (rest := []) S (c_X9_isSix l x0  ) (x_cwS (n0 := 1) S gX9_purse_X9_isSix rfl (by decide +kernel) ⟨Nat.le_of_ble_eq_true rfl, Nat.le_of_ble_eq_true rfl⟩) rfl hl.1 rfl (Nat.le_of_ble_eq_true rfl) dX9_purse_1 ⟨Nat.le_refl _, Nat.le_refl _⟩ (fun r_1 hr_1 => ?_)
  subst hr_1
  refine x_if_eqB (tgt := 24) S dX9_purse_4 (by decide) (fun c_4 => ?_) (fun c_4 => ?_)
  · refine lv_bipush (v := (-2)) hx hb dX9_purse_24 (by decide) ?_
    exact x_iretW S hlocks hP hS hr rfl (by first | exact ⟨by rw [xp_purse, if_neg (fun q => c_4 q.1)], xMs_rf _⟩ | exact ⟨by rw [xp_purse, if_neg (fun q => c_12 q.2)], hms_9⟩) dX9_purse_26
  · refine lv_aload_n hx hb dX9_purse_7 rfl (lv_at hl 0 rfl) ?_
    refine lv_iload_n hx hb dX9_purse_8 rfl (lv_at hl 2 rfl) ?_
    refine x_cVWi (As := [.int x1]) (rest := []) S hK hP hS (fun _ h => h) 0 (by omega) rfl rfl (c_X9_isBehind l σ hI x1  (by first | assumption | omega)) (x_cwV (n0 := 1) (cq := (RX9, TX9, 24)) S gX9_purse_X9_isBehind rfl (by decide +kernel) ⟨Nat.le_of_ble_eq_true rfl, Nat.le_of_ble_eq_true rfl⟩) rfl hl.1 rfl (Nat.le_of_ble_eq_true rfl) dX9_purse_9 ⟨Nat.le_refl _, Nat.le_refl _⟩ (fun r_9 τ_9 H locs hr_9 hP hk_9 hS => ?_)
    obtain ⟨hr_9, hms_9, hbk_9⟩ := hr_9
    subst hr_9
    obtain ⟨hyr, hbk⟩ := xBk_of hms_9 hbk_9
    have eF := xMs_F hms_9
    have e6 : τ_9 6 = σ 6 := xMs_k hms_9 (by decide)
    have hC2 := xMs_IM hms_9 hC
    refine x_if_eqB (tgt := 24) S dX9_purse_12 (by decide) (fun c_12 => ?_) (fun c_12 => ?_)
    · refine lv_bipush (v := (-2)) hx hb dX9_purse_24 (by decide) ?_
      exact x_iretW S hlocks hP hS hr rfl (by first | exact ⟨by rw [xp_purse, if_neg (fun q => c_4 q.1)], xMs_rf _⟩ | exact ⟨by rw [xp_purse, if_neg (fun q => c_12 q.2)], hms_9⟩) dX9_purse_26
    · obtain ⟨h, hh, rfl⟩ := xin_of c_4 (by omega)
      obtain ⟨k, hk, rfl⟩ := xin_of c_12 (by omega)
      refine lv_aload_n hx hb dX9_purse_15 rfl (lv_at hl 0 rfl) ?_
      refine lv_iload_n hx hb dX9_purse_16 rfl (lv_at hl 1 rfl) ?_
      refine lv_iload_n hx hb dX9_purse_17 rfl (lv_at hl 2 rfl) ?_
      refine x_cVRi (As := [.int (nI h), .int (nI k)]) (rest := []) S hK hP 0 (by omega) rfl rfl (c_X9_purseOf l τ_9 h k (xYM σ)  (by rw [e6]; exact hbk) (by rw [e6]; exact hY) (by first | assumption | omega) (by first | assumption | omega) (by first | assumption | omega)) (x_cwV (n0 := 2) (cq := (RX9, TX9, 24)) S gX9_purse_X9_purseOf rfl (by decide +kernel) ⟨Nat.le_of_ble_eq_true rfl, Nat.le_of_ble_eq_true rfl⟩) rfl hl.1 rfl (Nat.le_of_ble_eq_true rfl) dX9_purse_18 ⟨Nat.le_refl _, Nat.le_refl _⟩ (fun r_18 hr_18 => ?_)
      subst hr_18
      refine x_top S (y := xs_purse (xFM σ) (σ 6) h k) (by rw [eF, e6]) ?_
      refine lv_goto (tgt := 26) hx hb dX9_purse_21 (by decide) ?_
      exact x_iretW S hlocks hP hS hr rfl (⟨by rw [xp_purse, if_pos ⟨xin_nI (by omega) (by omega), xin_nI (by omega) (by omega)⟩, cN_nI (by omega), cN_nI (by omega)], hms_9⟩) dX9_purse_26
set_option maxHeartbeats 4000000 in
set_option maxRecDepth 100000 in
theorem c_X9_debtOf (l : Launch) {D : va_G} {K : Nat → ClassId} {α : Nat → Nat} (σ : Nat → Nat → Int32) (n : Nat) (k : Nat) (x : Int32) (Y : Nat)  (hbk : ∀ y, y < Y → ∀ h, h < 6 → σ 7 (6 * y + h) = nI (xnm (σ 6) y h)) (hY : xY (σ 6) Y) (hY12 : Y ≤ 12) (hn : n < 6) (hk : k ≤ Y) : Met l yX9_debtOf wsX9_debtOf (xrm 1) (va_Pc [.ref (α 0), .int (nI n), .int (nI k), .int x] (xPre D K 20 α (xM α K) σ)) (vp_Si (fun r => r = xs_dm (xFM σ) (σ 6) n (if x = 0 then xFM σ 4 n else 1) k)) 0 0 (fun _ => False) := by
  refine Met.ofW (cc := cX9_debtOf) (maxL := 8) (ret := (some .int)) (by decide) rfl ?_
  intro p e s m args below meth c s₁ B hml hv
  obtain ⟨rfl, hK, hP⟩ := hv
  have S : CallFix p m c cX9_debtOf 8 s _ wsX9_debtOf RX9 := ⟨B.exec, B.bytes, hml, findClass_of_methodNamed B.named, atoms_spec (ws := wsX9_debtOf) B.pre⟩
  have hx := S.1
  have hb := S.2.1
  have hr := B.returns
  have hlocks := B.notSynchronized
  have hl := lv_entry ([.ref (α 0), .int (nI n), .int (nI k), .int x]) (n := 8) (Nat.le_of_ble_eq_true rfl)
  rw [lg_entry_eq]
  generalize (lg_sl ([.ref (α 0), .int (nI n), .int (nI k), .int x]) ++ List.replicate (8 - (lg_sl ([.ref (α 0), .int (nI n), .int (nI k), .int x])).length) Slot.unset).toArray = ls at hl ⊢
  have hl : lv_has ls 8 [(0, .ref (α 0)), (1, .int (nI n)), (2, .int (nI k)), (3, .int x)] := hl
  have hPP := hP
  obtain ⟨v, hv⟩ : ∃ v, v = (if x = 0 then xFM σ 4 n else 1) := ⟨_, rfl⟩
  refine lv_iconst (v := nI 0) hx hb dX9_debtOf_0 (by decide) ?_
  refine lv_istore (lv' := [(4, .int (nI 0)), (0, .ref (α 0)), (1, .int (nI n)), (2, .int (nI k)), (3, .int x)]) hx hb dX9_debtOf_1 hl (by decide) rfl (fun ls hl => ?_)
  refine lv_iconst (v := nI 0) hx hb dX9_debtOf_3 (by decide) ?_
  refine lv_istore (lv' := [(5, .int (nI 0)), (4, .int (nI 0)), (0, .ref (α 0)), (1, .int (nI n)), (2, .int (nI k)), (3, .int x)]) hx hb dX9_debtOf_4 hl (by decide) rfl (fun ls hl => ?_)
  refine x_loop (ι := Nat) (fun y ls => (y ≤ k) ∧ lv_has ls 8 [(5, .int (nI y)), (4, .int (xsum (fun y => xsum (fun h => if xnm (σ 6) y h = n ∧ ¬ xs_fit (xFM σ) h n then v else 0) 6) y)), (0, .ref (α 0)), (1, .int (nI n)), (2, .int (nI k)), (3, .int x)]) (fun y => k - y) ?_ 0 ls ⟨Nat.zero_le _, lv_sub hl [0, 1, 2, 3, 4, 5] rfl⟩
  intro y ls hinv ih_6
  obtain ⟨hyk, hl⟩ := hinv
  have hl : lv_has ls 8 [(5, .int (nI y)), (4, .int (xsum (fun y => xsum (fun h => if xnm (σ 6) y h = n ∧ ¬ xs_fit (xFM σ) h n then v else 0) 6) y)), (0, .ref (α 0)), (1, .int (nI n)), (2, .int (nI k)), (3, .int x)] := hl
  refine lv_iload hx hb dX9_debtOf_6 (lv_at hl 0 rfl) ?_
  refine lv_iload_n hx hb dX9_debtOf_8 rfl (lv_at hl 4 rfl) ?_
  refine x_icmpN_ge (tgt := 96) S dX9_debtOf_9 (by decide) (by omega) (by omega) (fun c_9 => ?_) (fun c_9 => ?_)
  · have e9 : y = k := by omega
    subst e9
    refine lv_iload hx hb dX9_debtOf_96 (lv_at hl 1 rfl) ?_
    exact x_iretR S hlocks hr rfl (by rw [← hv]; rfl) dX9_debtOf_98
  · refine lv_iconst (v := nI 0) hx hb dX9_debtOf_12 (by decide) ?_
    refine lv_istore (lv' := [(6, .int (nI 0)), (5, .int (nI y)), (4, .int (xsum (fun y => xsum (fun h => if xnm (σ 6) y h = n ∧ ¬ xs_fit (xFM σ) h n then v else 0) 6) y)), (0, .ref (α 0)), (1, .int (nI n)), (2, .int (nI k)), (3, .int x)]) hx hb dX9_debtOf_13 hl (by decide) rfl (fun ls hl => ?_)
    refine x_loop (ι := Nat) (fun h ls => (h ≤ 6) ∧ lv_has ls 8 [(6, .int (nI h)), (5, .int (nI y)), (4, .int (xsum (fun y => xsum (fun h => if xnm (σ 6) y h = n ∧ ¬ xs_fit (xFM σ) h n then v else 0) 6) y + xsum (fun h => if xnm (σ 6) y h = n ∧ ¬ xs_fit (xFM σ) h n then v else 0) h)), (0, .ref (α 0)), (1, .int (nI n)), (2, .int (nI k)), (3, .int x)]) (fun h => 6 - h) ?_ 0 ls ⟨Nat.zero_le _, (by have h9 := lv_sub (l' := [(6, .int (nI 0)), (5, .int (nI y)), (4, .int (xsum (fun y => xsum (fun h => if xnm (σ 6) y h = n ∧ ¬ xs_fit (xFM σ) h n then v else 0) 6) y)), (0, .ref (α 0)), (1, .int (nI n)), (2, .int (nI k)), (3, .int x)]) hl [0, 1, 2, 3, 4, 5, 6] rfl; rw [show xsum (fun y => xsum (fun h => if xnm (σ 6) y h = n ∧ ¬ xs_fit (xFM σ) h n then v else 0) 6) y = xsum (fun y => xsum (fun h => if xnm (σ 6) y h = n ∧ ¬ xs_fit (xFM σ) h n then v else 0) 6) y + xsum (fun h => if xnm (σ 6) y h = n ∧ ¬ xs_fit (xFM σ) h n then v else 0) 0 from (xi0 _).symm] at h9; exact h9)⟩
    intro h ls hinv ih_15
    obtain ⟨hh6, hl⟩ := hinv
    have hl : lv_has ls 8 [(6, .int (nI h)), (5, .int (nI y)), (4, .int (xsum (fun y => xsum (fun h => if xnm (σ 6) y h = n ∧ ¬ xs_fit (xFM σ) h n then v else 0) 6) y + xsum (fun h => if xnm (σ 6) y h = n ∧ ¬ xs_fit (xFM σ) h n then v else 0) h)), (0, .ref (α 0)), (1, .int (nI n)), (2, .int (nI k)), (3, .int x)] := hl
    refine lv_iload hx hb dX9_debtOf_15 (lv_at hl 0 rfl) ?_
    refine lv_bipush (v := nI 6) hx hb dX9_debtOf_17 (by decide) ?_
    refine x_icmpN_ge (tgt := 90) S dX9_debtOf_19 (by decide) (by omega) (by omega) (fun c_19 => ?_) (fun c_19 => ?_)
    · have e9 : h = 6 := by omega
      subst e9
      refine lv_iinc (v := nI (y + 1)) (lv' := [(5, .int (nI (y + 1))), (6, .int (nI 6)), (4, .int (xsum (fun y => xsum (fun h => if xnm (σ 6) y h = n ∧ ¬ xs_fit (xFM σ) h n then v else 0) 6) y + xsum (fun h => if xnm (σ 6) y h = n ∧ ¬ xs_fit (xFM σ) h n then v else 0) 6)), (0, .ref (α 0)), (1, .int (nI n)), (2, .int (nI k)), (3, .int x)]) hx hb dX9_debtOf_90 hl (k := 1) rfl (nI_add y 1) (by decide) rfl (fun ls hl => ?_)
      refine lv_goto (tgt := 6) hx hb dX9_debtOf_93 (by decide) ?_
      exact ih_6 (y + 1) ls ⟨(by omega), lv_sub hl [0, 2, 3, 4, 5, 6] rfl⟩ (by (try dsimp only); omega)
    · have hq1 := (hY y (by omega) h (by omega)).1
      refine lv_aload_n hx hb dX9_debtOf_22 rfl (lv_at hl 3 rfl) ?_
      refine x_get S (fun w h => List.mem_cons_of_mem _ (List.mem_append_right _ h)) hK hP 0 (by omega) rfl rfl 8 (by decide) (List.mem_of_getElem? (i := 1) rfl) rfl dX9_debtOf_23 ?_
      refine lv_bipush (v := nI 6) hx hb dX9_debtOf_26 (by decide) ?_
      refine lv_iload hx hb dX9_debtOf_28 (lv_at hl 1 rfl) ?_
      refine x_imulN S dX9_debtOf_30 ?_
      refine lv_iload hx hb dX9_debtOf_31 (lv_at hl 0 rfl) ?_
      refine x_iaddN S dX9_debtOf_33 ?_
      refine x_iald S hK hP 7 (by omega) rfl (by first | assumption | omega) (by omega) dX9_debtOf_34 ?_
      refine x_top S (y := nI (xnm (σ 6) y h)) (hbk y (by omega) h (by omega)) ?_
      refine lv_iload_n hx hb dX9_debtOf_35 rfl (lv_at hl 4 rfl) ?_
      refine x_icmpN_ne (tgt := 53) S dX9_debtOf_36 (by decide) (by omega) (by omega) (fun c_36 => ?_) (fun c_36 => ?_)
      · refine lv_iconst (v := nI 0) hx hb dX9_debtOf_53 (by decide) ?_
        refine lv_istore (lv' := [(7, .int (nI 0)), (6, .int (nI h)), (5, .int (nI y)), (4, .int (xsum (fun y => xsum (fun h => if xnm (σ 6) y h = n ∧ ¬ xs_fit (xFM σ) h n then v else 0) 6) y + xsum (fun h => if xnm (σ 6) y h = n ∧ ¬ xs_fit (xFM σ) h n then v else 0) h)), (0, .ref (α 0)), (1, .int (nI n)), (2, .int (nI k)), (3, .int x)]) hx hb dX9_debtOf_54 hl (by decide) rfl (fun ls hl => ?_)
        refine lv_iload hx hb dX9_debtOf_56 (lv_at hl 3 rfl) ?_
        refine lv_iload hx hb dX9_debtOf_58 (lv_at hl 0 rfl) ?_
        refine x_ifN_eq (tgt := 80) S dX9_debtOf_60 (by decide) (by omega) (fun _ => ?_) (fun q => absurd q (by omega))
        refine lv_iconst (v := nI 0) hx hb dX9_debtOf_80 (by decide) ?_
        refine lv_iadd hx hb dX9_debtOf_81 ?_
        refine lv_istore (lv' := [(4, .int ((xsum (fun y => xsum (fun h => if xnm (σ 6) y h = n ∧ ¬ xs_fit (xFM σ) h n then v else 0) 6) y + xsum (fun h => if xnm (σ 6) y h = n ∧ ¬ xs_fit (xFM σ) h n then v else 0) h) + (nI 0))), (7, .int (nI 0)), (6, .int (nI h)), (5, .int (nI y)), (0, .ref (α 0)), (1, .int (nI n)), (2, .int (nI k)), (3, .int x)]) hx hb dX9_debtOf_82 hl (by decide) rfl (fun ls hl => ?_)
        refine lv_iinc (v := nI (h + 1)) (lv' := [(6, .int (nI (h + 1))), (4, .int ((xsum (fun y => xsum (fun h => if xnm (σ 6) y h = n ∧ ¬ xs_fit (xFM σ) h n then v else 0) 6) y + xsum (fun h => if xnm (σ 6) y h = n ∧ ¬ xs_fit (xFM σ) h n then v else 0) h) + (nI 0))), (7, .int (nI 0)), (5, .int (nI y)), (0, .ref (α 0)), (1, .int (nI n)), (2, .int (nI k)), (3, .int x)]) hx hb dX9_debtOf_84 hl (k := 2) rfl (nI_add h 1) (by decide) rfl (fun ls hl => ?_)
        refine lv_goto (tgt := 15) hx hb dX9_debtOf_87 (by decide) ?_
        exact ih_15 (h + 1) ls ⟨(by omega), (by have h9 := lv_sub (l' := [(6, .int (nI (h + 1))), (5, .int (nI y)), (4, .int ((xsum (fun y => xsum (fun h => if xnm (σ 6) y h = n ∧ ¬ xs_fit (xFM σ) h n then v else 0) 6) y + xsum (fun h => if xnm (σ 6) y h = n ∧ ¬ xs_fit (xFM σ) h n then v else 0) h) + (nI 0))), (0, .ref (α 0)), (1, .int (nI n)), (2, .int (nI k)), (3, .int x)]) hl [0, 3, 1, 4, 5, 6, 7] rfl; rw [show (xsum (fun y => xsum (fun h => if xnm (σ 6) y h = n ∧ ¬ xs_fit (xFM σ) h n then v else 0) 6) y + xsum (fun h => if xnm (σ 6) y h = n ∧ ¬ xs_fit (xFM σ) h n then v else 0) h) + (nI 0) = xsum (fun y => xsum (fun h => if xnm (σ 6) y h = n ∧ ¬ xs_fit (xFM σ) h n then v else 0) 6) y + xsum (fun h => if xnm (σ 6) y h = n ∧ ¬ xs_fit (xFM σ) h n then v else 0) (h + 1) from by rw [xsum_s, ← Int32.add_assoc]; first | (rw [if_pos ⟨c_36, c_46⟩, hv, if_pos c_64] <;> rfl) | (rw [if_pos ⟨c_36, c_46⟩, hv, if_neg c_64] <;> rfl) | (rw [if_neg (fun q => q.2 c_46)] <;> rfl) | (rw [if_neg (fun q => c_36 q.1)] <;> rfl)] at h9; exact h9)⟩ (by (try dsimp only); omega)
      · refine lv_aload_n hx hb dX9_debtOf_39 rfl (lv_at hl 3 rfl) ?_
        refine lv_iload hx hb dX9_debtOf_40 (lv_at hl 0 rfl) ?_
        refine lv_iload_n hx hb dX9_debtOf_42 rfl (lv_at hl 4 rfl) ?_
        refine x_cVRi (As := [.int (nI h), .int (nI n)]) (rest := []) S hK hP 0 (by omega) rfl rfl (c_X9_doesFit l σ h n  (by first | assumption | omega) (by first | assumption | omega)) (x_cwV (n0 := 2) (cq := (RX9, TX9, 24)) S gX9_debtOf_X9_doesFit rfl (by decide +kernel) ⟨Nat.le_of_ble_eq_true rfl, Nat.le_of_ble_eq_true rfl⟩) rfl hl.1 rfl (Nat.le_of_ble_eq_true rfl) dX9_debtOf_43 ⟨Nat.le_refl _, Nat.le_refl _⟩ (fun r_43 hr_43 => ?_)
        subst hr_43
        refine x_if_neB (tgt := 53) S dX9_debtOf_46 (by decide) (fun c_46 => ?_) (fun c_46 => ?_)
        · refine lv_iconst (v := nI 0) hx hb dX9_debtOf_53 (by decide) ?_
          refine lv_istore (lv' := [(7, .int (nI 0)), (6, .int (nI h)), (5, .int (nI y)), (4, .int (xsum (fun y => xsum (fun h => if xnm (σ 6) y h = n ∧ ¬ xs_fit (xFM σ) h n then v else 0) 6) y + xsum (fun h => if xnm (σ 6) y h = n ∧ ¬ xs_fit (xFM σ) h n then v else 0) h)), (0, .ref (α 0)), (1, .int (nI n)), (2, .int (nI k)), (3, .int x)]) hx hb dX9_debtOf_54 hl (by decide) rfl (fun ls hl => ?_)
          refine lv_iload hx hb dX9_debtOf_56 (lv_at hl 3 rfl) ?_
          refine lv_iload hx hb dX9_debtOf_58 (lv_at hl 0 rfl) ?_
          refine x_ifN_eq (tgt := 80) S dX9_debtOf_60 (by decide) (by omega) (fun _ => ?_) (fun q => absurd q (by omega))
          refine lv_iconst (v := nI 0) hx hb dX9_debtOf_80 (by decide) ?_
          refine lv_iadd hx hb dX9_debtOf_81 ?_
          refine lv_istore (lv' := [(4, .int ((xsum (fun y => xsum (fun h => if xnm (σ 6) y h = n ∧ ¬ xs_fit (xFM σ) h n then v else 0) 6) y + xsum (fun h => if xnm (σ 6) y h = n ∧ ¬ xs_fit (xFM σ) h n then v else 0) h) + (nI 0))), (7, .int (nI 0)), (6, .int (nI h)), (5, .int (nI y)), (0, .ref (α 0)), (1, .int (nI n)), (2, .int (nI k)), (3, .int x)]) hx hb dX9_debtOf_82 hl (by decide) rfl (fun ls hl => ?_)
          refine lv_iinc (v := nI (h + 1)) (lv' := [(6, .int (nI (h + 1))), (4, .int ((xsum (fun y => xsum (fun h => if xnm (σ 6) y h = n ∧ ¬ xs_fit (xFM σ) h n then v else 0) 6) y + xsum (fun h => if xnm (σ 6) y h = n ∧ ¬ xs_fit (xFM σ) h n then v else 0) h) + (nI 0))), (7, .int (nI 0)), (5, .int (nI y)), (0, .ref (α 0)), (1, .int (nI n)), (2, .int (nI k)), (3, .int x)]) hx hb dX9_debtOf_84 hl (k := 2) rfl (nI_add h 1) (by decide) rfl (fun ls hl => ?_)
          refine lv_goto (tgt := 15) hx hb dX9_debtOf_87 (by decide) ?_
          exact ih_15 (h + 1) ls ⟨(by omega), (by have h9 := lv_sub (l' := [(6, .int (nI (h + 1))), (5, .int (nI y)), (4, .int ((xsum (fun y => xsum (fun h => if xnm (σ 6) y h = n ∧ ¬ xs_fit (xFM σ) h n then v else 0) 6) y + xsum (fun h => if xnm (σ 6) y h = n ∧ ¬ xs_fit (xFM σ) h n then v else 0) h) + (nI 0))), (0, .ref (α 0)), (1, .int (nI n)), (2, .int (nI k)), (3, .int x)]) hl [0, 3, 1, 4, 5, 6, 7] rfl; rw [show (xsum (fun y => xsum (fun h => if xnm (σ 6) y h = n ∧ ¬ xs_fit (xFM σ) h n then v else 0) 6) y + xsum (fun h => if xnm (σ 6) y h = n ∧ ¬ xs_fit (xFM σ) h n then v else 0) h) + (nI 0) = xsum (fun y => xsum (fun h => if xnm (σ 6) y h = n ∧ ¬ xs_fit (xFM σ) h n then v else 0) 6) y + xsum (fun h => if xnm (σ 6) y h = n ∧ ¬ xs_fit (xFM σ) h n then v else 0) (h + 1) from by rw [xsum_s, ← Int32.add_assoc]; first | (rw [if_pos ⟨c_36, c_46⟩, hv, if_pos c_64] <;> rfl) | (rw [if_pos ⟨c_36, c_46⟩, hv, if_neg c_64] <;> rfl) | (rw [if_neg (fun q => q.2 c_46)] <;> rfl) | (rw [if_neg (fun q => c_36 q.1)] <;> rfl)] at h9; exact h9)⟩ (by (try dsimp only); omega)
        · refine lv_iconst (v := nI 1) hx hb dX9_debtOf_49 (by decide) ?_
          refine lv_goto (tgt := 54) hx hb dX9_debtOf_50 (by decide) ?_
          refine lv_istore (lv' := [(7, .int (nI 1)), (6, .int (nI h)), (5, .int (nI y)), (4, .int (xsum (fun y => xsum (fun h => if xnm (σ 6) y h = n ∧ ¬ xs_fit (xFM σ) h n then v else 0) 6) y + xsum (fun h => if xnm (σ 6) y h = n ∧ ¬ xs_fit (xFM σ) h n then v else 0) h)), (0, .ref (α 0)), (1, .int (nI n)), (2, .int (nI k)), (3, .int x)]) hx hb dX9_debtOf_54 hl (by decide) rfl (fun ls hl => ?_)
          refine lv_iload hx hb dX9_debtOf_56 (lv_at hl 3 rfl) ?_
          refine lv_iload hx hb dX9_debtOf_58 (lv_at hl 0 rfl) ?_
          refine x_ifN_eq (tgt := 80) S dX9_debtOf_60 (by decide) (by omega) (fun q => absurd q (by omega)) (fun _ => ?_)
          refine lv_iload_n hx hb dX9_debtOf_63 rfl (lv_at hl 7 rfl) ?_
          refine lv_if_ne (tgt := 76) hx hb dX9_debtOf_64 (by decide) (fun c_64 => ?_) (fun c_64 => ?_)
          · refine lv_iconst (v := nI 1) hx hb dX9_debtOf_76 (by decide) ?_
            refine lv_goto (tgt := 81) hx hb dX9_debtOf_77 (by decide) ?_
            refine lv_iadd hx hb dX9_debtOf_81 ?_
            refine lv_istore (lv' := [(4, .int ((xsum (fun y => xsum (fun h => if xnm (σ 6) y h = n ∧ ¬ xs_fit (xFM σ) h n then v else 0) 6) y + xsum (fun h => if xnm (σ 6) y h = n ∧ ¬ xs_fit (xFM σ) h n then v else 0) h) + (nI 1))), (7, .int (nI 1)), (6, .int (nI h)), (5, .int (nI y)), (0, .ref (α 0)), (1, .int (nI n)), (2, .int (nI k)), (3, .int x)]) hx hb dX9_debtOf_82 hl (by decide) rfl (fun ls hl => ?_)
            refine lv_iinc (v := nI (h + 1)) (lv' := [(6, .int (nI (h + 1))), (4, .int ((xsum (fun y => xsum (fun h => if xnm (σ 6) y h = n ∧ ¬ xs_fit (xFM σ) h n then v else 0) 6) y + xsum (fun h => if xnm (σ 6) y h = n ∧ ¬ xs_fit (xFM σ) h n then v else 0) h) + (nI 1))), (7, .int (nI 1)), (5, .int (nI y)), (0, .ref (α 0)), (1, .int (nI n)), (2, .int (nI k)), (3, .int x)]) hx hb dX9_debtOf_84 hl (k := 2) rfl (nI_add h 1) (by decide) rfl (fun ls hl => ?_)
            refine lv_goto (tgt := 15) hx hb dX9_debtOf_87 (by decide) ?_
            exact ih_15 (h + 1) ls ⟨(by omega), (by have h9 := lv_sub (l' := [(6, .int (nI (h + 1))), (5, .int (nI y)), (4, .int ((xsum (fun y => xsum (fun h => if xnm (σ 6) y h = n ∧ ¬ xs_fit (xFM σ) h n then v else 0) 6) y + xsum (fun h => if xnm (σ 6) y h = n ∧ ¬ xs_fit (xFM σ) h n then v else 0) h) + (nI 1))), (0, .ref (α 0)), (1, .int (nI n)), (2, .int (nI k)), (3, .int x)]) hl [0, 3, 1, 4, 5, 6, 7] rfl; rw [show (xsum (fun y => xsum (fun h => if xnm (σ 6) y h = n ∧ ¬ xs_fit (xFM σ) h n then v else 0) 6) y + xsum (fun h => if xnm (σ 6) y h = n ∧ ¬ xs_fit (xFM σ) h n then v else 0) h) + (nI 1) = xsum (fun y => xsum (fun h => if xnm (σ 6) y h = n ∧ ¬ xs_fit (xFM σ) h n then v else 0) 6) y + xsum (fun h => if xnm (σ 6) y h = n ∧ ¬ xs_fit (xFM σ) h n then v else 0) (h + 1) from by rw [xsum_s, ← Int32.add_assoc]; first | (rw [if_pos ⟨c_36, c_46⟩, hv, if_pos c_64] <;> rfl) | (rw [if_pos ⟨c_36, c_46⟩, hv, if_neg c_64] <;> rfl) | (rw [if_neg (fun q => q.2 c_46)] <;> rfl) | (rw [if_neg (fun q => c_36 q.1)] <;> rfl)] at h9; exact h9)⟩ (by (try dsimp only); omega)
          · refine lv_aload_n hx hb dX9_debtOf_67 rfl (lv_at hl 4 rfl) ?_
            refine x_get S (fun w h => List.mem_cons_of_mem _ (List.mem_append_right _ h)) hK hP 0 (by omega) rfl rfl 4 (by decide) (List.mem_of_getElem? (i := 2) rfl) rfl dX9_debtOf_68 ?_
            refine lv_iload_n hx hb dX9_debtOf_71 rfl (lv_at hl 5 rfl) ?_
            refine x_iald S hK hP 5 (by omega) rfl (by first | assumption | omega) (by omega) dX9_debtOf_72 ?_
            refine lv_goto (tgt := 81) hx hb dX9_debtOf_73 (by decide) ?_
            refine lv_iadd hx hb dX9_debtOf_81 ?_
            refine lv_istore (lv' := [(4, .int ((xsum (fun y => xsum (fun h => if xnm (σ 6) y h = n ∧ ¬ xs_fit (xFM σ) h n then v else 0) 6) y + xsum (fun h => if xnm (σ 6) y h = n ∧ ¬ xs_fit (xFM σ) h n then v else 0) h) + (σ 5 n))), (7, .int (nI 1)), (6, .int (nI h)), (5, .int (nI y)), (0, .ref (α 0)), (1, .int (nI n)), (2, .int (nI k)), (3, .int x)]) hx hb dX9_debtOf_82 hl (by decide) rfl (fun ls hl => ?_)
            refine lv_iinc (v := nI (h + 1)) (lv' := [(6, .int (nI (h + 1))), (4, .int ((xsum (fun y => xsum (fun h => if xnm (σ 6) y h = n ∧ ¬ xs_fit (xFM σ) h n then v else 0) 6) y + xsum (fun h => if xnm (σ 6) y h = n ∧ ¬ xs_fit (xFM σ) h n then v else 0) h) + (σ 5 n))), (7, .int (nI 1)), (5, .int (nI y)), (0, .ref (α 0)), (1, .int (nI n)), (2, .int (nI k)), (3, .int x)]) hx hb dX9_debtOf_84 hl (k := 2) rfl (nI_add h 1) (by decide) rfl (fun ls hl => ?_)
            refine lv_goto (tgt := 15) hx hb dX9_debtOf_87 (by decide) ?_
            exact ih_15 (h + 1) ls ⟨(by omega), (by have h9 := lv_sub (l' := [(6, .int (nI (h + 1))), (5, .int (nI y)), (4, .int ((xsum (fun y => xsum (fun h => if xnm (σ 6) y h = n ∧ ¬ xs_fit (xFM σ) h n then v else 0) 6) y + xsum (fun h => if xnm (σ 6) y h = n ∧ ¬ xs_fit (xFM σ) h n then v else 0) h) + (σ 5 n))), (0, .ref (α 0)), (1, .int (nI n)), (2, .int (nI k)), (3, .int x)]) hl [0, 3, 1, 4, 5, 6, 7] rfl; rw [show (xsum (fun y => xsum (fun h => if xnm (σ 6) y h = n ∧ ¬ xs_fit (xFM σ) h n then v else 0) 6) y + xsum (fun h => if xnm (σ 6) y h = n ∧ ¬ xs_fit (xFM σ) h n then v else 0) h) + (σ 5 n) = xsum (fun y => xsum (fun h => if xnm (σ 6) y h = n ∧ ¬ xs_fit (xFM σ) h n then v else 0) 6) y + xsum (fun h => if xnm (σ 6) y h = n ∧ ¬ xs_fit (xFM σ) h n then v else 0) (h + 1) from by rw [xsum_s, ← Int32.add_assoc]; first | (rw [if_pos ⟨c_36, c_46⟩, hv, if_pos c_64] <;> rfl) | (rw [if_pos ⟨c_36, c_46⟩, hv, if_neg c_64] <;> rfl) | (rw [if_neg (fun q => q.2 c_46)] <;> rfl) | (rw [if_neg (fun q => c_36 q.1)] <;> rfl)] at h9; exact h9)⟩ (by (try dsimp only); omega)
set_option maxHeartbeats 4000000 in
set_option maxRecDepth 100000 in
theorem c_X9_debt (l : Launch) {D : va_G} {K : Nat → ClassId} {α : Nat → Nat} (σ : Nat → Nat → Int32) (hI : xw_I 20 α) (x0 : Int32) (x1 : Int32) (x2 : Int32)  (hC : xIM σ) : Met l yX9_debt wsX9_debt (xrm 4) (va_Pc [.ref (α 0), .int x0, .int x1, .int x2] (xPre D K 20 α (xM α K) σ)) (xQi D 20 α (xM α K) (fun r τ => r = xp_debt (xFM σ) (σ 6) (xYM σ) x0 x1 x2 ∧ xMs σ τ)) 0 0 (xw_R 20 α) := by
  refine Met.ofW (cc := cX9_debt) (maxL := 4) (ret := (some .int)) (by decide) rfl ?_
  intro p e s m args below meth c s₁ B hml hv
  obtain ⟨rfl, hK, hP⟩ := hv
  have S : CallFix p m c cX9_debt 4 s _ wsX9_debt RX9 := ⟨B.exec, B.bytes, hml, findClass_of_methodNamed B.named, atoms_spec (ws := wsX9_debt) B.pre⟩
  have hx := S.1
  have hb := S.2.1
  have hr := B.returns
  have hlocks := B.notSynchronized
  have hS : va_S (xw_R 20 α) s.heap s.heap [] := va_S.rf
  have hl := lv_entry ([.ref (α 0), .int x0, .int x1, .int x2]) (n := 4) (Nat.le_of_ble_eq_true rfl)
  rw [lg_entry_eq]
  generalize (lg_sl ([.ref (α 0), .int x0, .int x1, .int x2]) ++ List.replicate (4 - (lg_sl ([.ref (α 0), .int x0, .int x1, .int x2])).length) Slot.unset).toArray = ls at hl ⊢
  have hl : lv_has ls 4 [(0, .ref (α 0)), (1, .int x0), (2, .int x1), (3, .int x2)] := hl
  have hPP := hP
  have hY := xIM_Y hC
  have hY12 := xIM_12 hC
  have hPm := xIM_P hC
  refine lv_iload_n hx hb dX9_debt_0 rfl (lv_at hl 1 rfl) ?_
  refine x_cSi (As := [.int x0]) (rest := []) S (c_X9_isSix l x0  ) (x_cwS (n0 := 1) S gX9_debt_X9_isSix rfl (by decide +kernel) ⟨Nat.le_of_ble_eq_true rfl, Nat.le_of_ble_eq_true rfl⟩) rfl hl.1 rfl (Nat.le_of_ble_eq_true rfl) dX9_debt_1 ⟨Nat.le_refl _, Nat.le_refl _⟩ (fun r_1 hr_1 => ?_)
  subst hr_1
  refine x_if_eqB (tgt := 34) S dX9_debt_4 (by decide) (fun c_4 => ?_) (fun c_4 => ?_)
  · refine lv_bipush (v := (-2)) hx hb dX9_debt_34 (by decide) ?_
    exact x_iretW S hlocks hP hS hr rfl (by first | exact ⟨by rw [xp_debt, if_neg (fun q => c_4 q.1)], xMs_rf _⟩ | exact ⟨by rw [xp_debt, if_neg (fun q => c_12 q.2.1)], hms_9⟩ | exact ⟨by rw [xp_debt, if_neg (fun q => c_21 q.2.2)], hms_9⟩) dX9_debt_36
  · refine lv_aload_n hx hb dX9_debt_7 rfl (lv_at hl 0 rfl) ?_
    refine lv_iload_n hx hb dX9_debt_8 rfl (lv_at hl 2 rfl) ?_
    refine x_cVWi (As := [.int x1]) (rest := []) S hK hP hS (fun _ h => h) 0 (by omega) rfl rfl (c_X9_isBehind l σ hI x1  (by first | assumption | omega)) (x_cwV (n0 := 1) (cq := (RX9, TX9, 24)) S gX9_debt_X9_isBehind rfl (by decide +kernel) ⟨Nat.le_of_ble_eq_true rfl, Nat.le_of_ble_eq_true rfl⟩) rfl hl.1 rfl (Nat.le_of_ble_eq_true rfl) dX9_debt_9 ⟨Nat.le_refl _, Nat.le_refl _⟩ (fun r_9 τ_9 H locs hr_9 hP hk_9 hS => ?_)
    obtain ⟨hr_9, hms_9, hbk_9⟩ := hr_9
    subst hr_9
    obtain ⟨hyr, hbk⟩ := xBk_of hms_9 hbk_9
    have eF := xMs_F hms_9
    have e6 : τ_9 6 = σ 6 := xMs_k hms_9 (by decide)
    have hC2 := xMs_IM hms_9 hC
    refine x_if_eqB (tgt := 34) S dX9_debt_12 (by decide) (fun c_12 => ?_) (fun c_12 => ?_)
    · refine lv_bipush (v := (-2)) hx hb dX9_debt_34 (by decide) ?_
      exact x_iretW S hlocks hP hS hr rfl (by first | exact ⟨by rw [xp_debt, if_neg (fun q => c_4 q.1)], xMs_rf _⟩ | exact ⟨by rw [xp_debt, if_neg (fun q => c_12 q.2.1)], hms_9⟩ | exact ⟨by rw [xp_debt, if_neg (fun q => c_21 q.2.2)], hms_9⟩) dX9_debt_36
    · refine lv_iload_n hx hb dX9_debt_15 rfl (lv_at hl 3 rfl) ?_
      refine lv_iconst (v := nI 0) hx hb dX9_debt_16 (by decide) ?_
      refine lv_iconst (v := nI 1) hx hb dX9_debt_17 (by decide) ?_
      refine x_cSi (As := [.int x2, .int (nI 0), .int (nI 1)]) (rest := []) S (c_X9_in0 l x2 1  (by first | assumption | omega)) (x_cwS (n0 := 3) S gX9_debt_X9_in rfl (by decide +kernel) ⟨Nat.le_of_ble_eq_true rfl, Nat.le_of_ble_eq_true rfl⟩) rfl hl.1 rfl (Nat.le_of_ble_eq_true rfl) dX9_debt_18 ⟨Nat.le_refl _, Nat.le_refl _⟩ (fun r_18 hr_18 => ?_)
      subst hr_18
      refine x_if_eqB (tgt := 34) S dX9_debt_21 (by decide) (fun c_21 => ?_) (fun c_21 => ?_)
      · refine lv_bipush (v := (-2)) hx hb dX9_debt_34 (by decide) ?_
        exact x_iretW S hlocks hP hS hr rfl (by first | exact ⟨by rw [xp_debt, if_neg (fun q => c_4 q.1)], xMs_rf _⟩ | exact ⟨by rw [xp_debt, if_neg (fun q => c_12 q.2.1)], hms_9⟩ | exact ⟨by rw [xp_debt, if_neg (fun q => c_21 q.2.2)], hms_9⟩) dX9_debt_36
      · obtain ⟨n, hn, rfl⟩ := xin_of c_4 (by omega)
        obtain ⟨k, hk, rfl⟩ := xin_of c_12 (by omega)
        refine lv_aload_n hx hb dX9_debt_24 rfl (lv_at hl 0 rfl) ?_
        refine lv_iload_n hx hb dX9_debt_25 rfl (lv_at hl 1 rfl) ?_
        refine lv_iload_n hx hb dX9_debt_26 rfl (lv_at hl 2 rfl) ?_
        refine lv_iload_n hx hb dX9_debt_27 rfl (lv_at hl 3 rfl) ?_
        refine x_cVRi (As := [.int (nI n), .int (nI k), .int x2]) (rest := []) S hK hP 0 (by omega) rfl rfl (c_X9_debtOf l τ_9 n k x2 (xYM σ)  (by rw [e6]; exact hbk) (by rw [e6]; exact hY) (by first | assumption | omega) (by first | assumption | omega) (by first | assumption | omega)) (x_cwV (n0 := 3) (cq := (RX9, TX9, 24)) S gX9_debt_X9_debtOf rfl (by decide +kernel) ⟨Nat.le_of_ble_eq_true rfl, Nat.le_of_ble_eq_true rfl⟩) rfl hl.1 rfl (Nat.le_of_ble_eq_true rfl) dX9_debt_28 ⟨Nat.le_refl _, Nat.le_refl _⟩ (fun r_28 hr_28 => ?_)
        subst hr_28
        refine x_top S (y := (if x2 = 0 then xFM σ 4 n else 1) * xs_shame (xFM σ) (σ 6) n k) (by rw [eF, e6]; exact xs_dm_eq _ hY hPm (by omega) (by omega)) ?_
        refine lv_goto (tgt := 36) hx hb dX9_debt_31 (by decide) ?_
        exact x_iretW S hlocks hP hS hr rfl (⟨by refine Eq.symm ?_; rw [xp_debt, if_pos ⟨xin_nI (by omega) (by omega), xin_nI (by omega) (by omega), c_21⟩, cN_nI (by omega), cN_nI (by omega)]; by_cases q : x2 = 0 <;> simp [q], hms_9⟩) dX9_debt_36
set_option maxHeartbeats 4000000 in
set_option maxRecDepth 100000 in
theorem c_X9_beenOf (l : Launch) {D : va_G} {K : Nat → ClassId} {α : Nat → Nat} (σ : Nat → Nat → Int32) (h : Nat) (k : Nat) (Y : Nat)  (hbk : ∀ y, y < Y → ∀ h, h < 6 → σ 7 (6 * y + h) = nI (xnm (σ 6) y h)) (hY : xY (σ 6) Y) (hY12 : Y ≤ 12) (hh : h < 6) (hk : k ≤ Y) : Met l yX9_beenOf wsX9_beenOf (xrm 0) (va_Pc [.ref (α 0), .int (nI h), .int (nI k)] (xPre D K 20 α (xM α K) σ)) (vp_Si (fun r => r = xs_been (σ 6) h k)) 0 0 (fun _ => False) := by
  refine Met.ofW (cc := cX9_beenOf) (maxL := 5) (ret := (some .int)) (by decide) rfl ?_
  intro p e s m args below meth c s₁ B hml hv
  obtain ⟨rfl, hK, hP⟩ := hv
  have S : CallFix p m c cX9_beenOf 5 s _ wsX9_beenOf RX9 := ⟨B.exec, B.bytes, hml, findClass_of_methodNamed B.named, atoms_spec (ws := wsX9_beenOf) B.pre⟩
  have hx := S.1
  have hb := S.2.1
  have hr := B.returns
  have hlocks := B.notSynchronized
  have hl := lv_entry ([.ref (α 0), .int (nI h), .int (nI k)]) (n := 5) (Nat.le_of_ble_eq_true rfl)
  rw [lg_entry_eq]
  generalize (lg_sl ([.ref (α 0), .int (nI h), .int (nI k)]) ++ List.replicate (5 - (lg_sl ([.ref (α 0), .int (nI h), .int (nI k)])).length) Slot.unset).toArray = ls at hl ⊢
  have hl : lv_has ls 5 [(0, .ref (α 0)), (1, .int (nI h)), (2, .int (nI k))] := hl
  have hPP := hP
  refine lv_iconst (v := nI 0) hx hb dX9_beenOf_0 (by decide) ?_
  refine lv_istore_n (lv' := [(3, .int (nI 0)), (0, .ref (α 0)), (1, .int (nI h)), (2, .int (nI k))]) hx hb dX9_beenOf_1 rfl hl (by decide) rfl (fun ls hl => ?_)
  refine lv_iconst (v := nI 0) hx hb dX9_beenOf_2 (by decide) ?_
  refine lv_istore (lv' := [(4, .int (nI 0)), (3, .int (nI 0)), (0, .ref (α 0)), (1, .int (nI h)), (2, .int (nI k))]) hx hb dX9_beenOf_3 hl (by decide) rfl (fun ls hl => ?_)
  refine x_loop (ι := Nat) (fun i ls => (i ≤ k) ∧ lv_has ls 5 [(4, .int (nI i)), (3, .int (xs_been (σ 6) h i)), (0, .ref (α 0)), (1, .int (nI h)), (2, .int (nI k))]) (fun i => k - i) ?_ 0 ls ⟨Nat.zero_le _, lv_sub hl [0, 1, 2, 3, 4] rfl⟩
  intro i ls hinv ih_5
  obtain ⟨hi, hl⟩ := hinv
  have hl : lv_has ls 5 [(4, .int (nI i)), (3, .int (xs_been (σ 6) h i)), (0, .ref (α 0)), (1, .int (nI h)), (2, .int (nI k))] := hl
  refine lv_iload hx hb dX9_beenOf_5 (lv_at hl 0 rfl) ?_
  refine lv_iload_n hx hb dX9_beenOf_7 rfl (lv_at hl 4 rfl) ?_
  refine x_icmpN_ge (tgt := 34) S dX9_beenOf_8 (by decide) (by omega) (by omega) (fun c_8 => ?_) (fun c_8 => ?_)
  · have e9 : i = k := by omega
    subst e9
    refine lv_iload_n hx hb dX9_beenOf_34 rfl (lv_at hl 1 rfl) ?_
    exact x_iretR S hlocks hr rfl (rfl) dX9_beenOf_35
  · refine lv_iload_n hx hb dX9_beenOf_11 rfl (lv_at hl 1 rfl) ?_
    refine lv_iconst (v := nI 1) hx hb dX9_beenOf_12 (by decide) ?_
    refine lv_aload_n hx hb dX9_beenOf_13 rfl (lv_at hl 2 rfl) ?_
    refine x_get S (fun w h => List.mem_cons_of_mem _ (List.mem_append_right _ h)) hK hP 0 (by omega) rfl rfl 8 (by decide) (List.mem_of_getElem? (i := 1) rfl) rfl dX9_beenOf_14 ?_
    refine lv_bipush (v := nI 6) hx hb dX9_beenOf_17 (by decide) ?_
    refine lv_iload hx hb dX9_beenOf_19 (lv_at hl 0 rfl) ?_
    refine x_imulN S dX9_beenOf_21 ?_
    refine lv_iload_n hx hb dX9_beenOf_22 rfl (lv_at hl 3 rfl) ?_
    refine x_iaddN S dX9_beenOf_23 ?_
    refine x_iald S hK hP 7 (by omega) rfl (by first | assumption | omega) (by omega) dX9_beenOf_24 ?_
    refine x_top S (y := nI (xnm (σ 6) i h)) (hbk i (by omega) h hh) ?_
    refine lv_ishl hx hb dX9_beenOf_25 ?_
    refine lv_ior hx hb dX9_beenOf_26 ?_
    refine lv_istore_n (lv' := [(3, .int ((xs_been (σ 6) h i) ||| ((nI 1) <<< ((nI (xnm (σ 6) i h)) &&& 31)))), (4, .int (nI i)), (0, .ref (α 0)), (1, .int (nI h)), (2, .int (nI k))]) hx hb dX9_beenOf_27 rfl hl (by decide) rfl (fun ls hl => ?_)
    refine lv_iinc (v := nI (i + 1)) (lv' := [(4, .int (nI (i + 1))), (3, .int ((xs_been (σ 6) h i) ||| ((nI 1) <<< ((nI (xnm (σ 6) i h)) &&& 31)))), (0, .ref (α 0)), (1, .int (nI h)), (2, .int (nI k))]) hx hb dX9_beenOf_28 hl (k := 1) rfl (nI_add i 1) (by decide) rfl (fun ls hl => ?_)
    refine lv_goto (tgt := 5) hx hb dX9_beenOf_31 (by decide) ?_
    exact ih_5 (i + 1) ls ⟨(by omega), lv_sub hl [0, 1, 2, 3, 4] rfl⟩ (by (try dsimp only); omega)
set_option maxHeartbeats 4000000 in
set_option maxRecDepth 100000 in
theorem c_X9_been (l : Launch) {D : va_G} {K : Nat → ClassId} {α : Nat → Nat} (σ : Nat → Nat → Int32) (hI : xw_I 20 α) (x0 : Int32) (x1 : Int32)  (hC : xIM σ) : Met l yX9_been wsX9_been (xrm 4) (va_Pc [.ref (α 0), .int x0, .int x1] (xPre D K 20 α (xM α K) σ)) (xQi D 20 α (xM α K) (fun r τ => r = xp_been (σ 6) (xYM σ) x0 x1 ∧ xMs σ τ)) 0 0 (xw_R 20 α) := by
  refine Met.ofW (cc := cX9_been) (maxL := 3) (ret := (some .int)) (by decide) rfl ?_
  intro p e s m args below meth c s₁ B hml hv
  obtain ⟨rfl, hK, hP⟩ := hv
  have S : CallFix p m c cX9_been 3 s _ wsX9_been RX9 := ⟨B.exec, B.bytes, hml, findClass_of_methodNamed B.named, atoms_spec (ws := wsX9_been) B.pre⟩
  have hx := S.1
  have hb := S.2.1
  have hr := B.returns
  have hlocks := B.notSynchronized
  have hS : va_S (xw_R 20 α) s.heap s.heap [] := va_S.rf
  have hl := lv_entry ([.ref (α 0), .int x0, .int x1]) (n := 3) (Nat.le_of_ble_eq_true rfl)
  rw [lg_entry_eq]
  generalize (lg_sl ([.ref (α 0), .int x0, .int x1]) ++ List.replicate (3 - (lg_sl ([.ref (α 0), .int x0, .int x1])).length) Slot.unset).toArray = ls at hl ⊢
  have hl : lv_has ls 3 [(0, .ref (α 0)), (1, .int x0), (2, .int x1)] := hl
  have hPP := hP
  have hY := xIM_Y hC
  have hY12 := xIM_12 hC
  have hPm := xIM_P hC
  refine lv_iload_n hx hb dX9_been_0 rfl (lv_at hl 1 rfl) ?_
  refine x_cSi (As := [.int x0]) (rest := []) S (c_X9_isSix l x0  ) (x_cwS (n0 := 1) S gX9_been_X9_isSix rfl (by decide +kernel) ⟨Nat.le_of_ble_eq_true rfl, Nat.le_of_ble_eq_true rfl⟩) rfl hl.1 rfl (Nat.le_of_ble_eq_true rfl) dX9_been_1 ⟨Nat.le_refl _, Nat.le_refl _⟩ (fun r_1 hr_1 => ?_)
  subst hr_1
  refine x_if_eqB (tgt := 24) S dX9_been_4 (by decide) (fun c_4 => ?_) (fun c_4 => ?_)
  · refine lv_bipush (v := (-2)) hx hb dX9_been_24 (by decide) ?_
    exact x_iretW S hlocks hP hS hr rfl (by first | exact ⟨by rw [xp_been, if_neg (fun q => c_4 q.1)], xMs_rf _⟩ | exact ⟨by rw [xp_been, if_neg (fun q => c_12 q.2)], hms_9⟩) dX9_been_26
  · refine lv_aload_n hx hb dX9_been_7 rfl (lv_at hl 0 rfl) ?_
    refine lv_iload_n hx hb dX9_been_8 rfl (lv_at hl 2 rfl) ?_
    refine x_cVWi (As := [.int x1]) (rest := []) S hK hP hS (fun _ h => h) 0 (by omega) rfl rfl (c_X9_isBehind l σ hI x1  (by first | assumption | omega)) (x_cwV (n0 := 1) (cq := (RX9, TX9, 24)) S gX9_been_X9_isBehind rfl (by decide +kernel) ⟨Nat.le_of_ble_eq_true rfl, Nat.le_of_ble_eq_true rfl⟩) rfl hl.1 rfl (Nat.le_of_ble_eq_true rfl) dX9_been_9 ⟨Nat.le_refl _, Nat.le_refl _⟩ (fun r_9 τ_9 H locs hr_9 hP hk_9 hS => ?_)
    obtain ⟨hr_9, hms_9, hbk_9⟩ := hr_9
    subst hr_9
    obtain ⟨hyr, hbk⟩ := xBk_of hms_9 hbk_9
    have eF := xMs_F hms_9
    have e6 : τ_9 6 = σ 6 := xMs_k hms_9 (by decide)
    have hC2 := xMs_IM hms_9 hC
    refine x_if_eqB (tgt := 24) S dX9_been_12 (by decide) (fun c_12 => ?_) (fun c_12 => ?_)
    · refine lv_bipush (v := (-2)) hx hb dX9_been_24 (by decide) ?_
      exact x_iretW S hlocks hP hS hr rfl (by first | exact ⟨by rw [xp_been, if_neg (fun q => c_4 q.1)], xMs_rf _⟩ | exact ⟨by rw [xp_been, if_neg (fun q => c_12 q.2)], hms_9⟩) dX9_been_26
    · obtain ⟨h, hh, rfl⟩ := xin_of c_4 (by omega)
      obtain ⟨k, hk, rfl⟩ := xin_of c_12 (by omega)
      refine lv_aload_n hx hb dX9_been_15 rfl (lv_at hl 0 rfl) ?_
      refine lv_iload_n hx hb dX9_been_16 rfl (lv_at hl 1 rfl) ?_
      refine lv_iload_n hx hb dX9_been_17 rfl (lv_at hl 2 rfl) ?_
      refine x_cVRi (As := [.int (nI h), .int (nI k)]) (rest := []) S hK hP 0 (by omega) rfl rfl (c_X9_beenOf l τ_9 h k (xYM σ)  (by rw [e6]; exact hbk) (by rw [e6]; exact hY) (by first | assumption | omega) (by first | assumption | omega) (by first | assumption | omega)) (x_cwV (n0 := 2) (cq := (RX9, TX9, 24)) S gX9_been_X9_beenOf rfl (by decide +kernel) ⟨Nat.le_of_ble_eq_true rfl, Nat.le_of_ble_eq_true rfl⟩) rfl hl.1 rfl (Nat.le_of_ble_eq_true rfl) dX9_been_18 ⟨Nat.le_refl _, Nat.le_refl _⟩ (fun r_18 hr_18 => ?_)
      subst hr_18
      refine x_top S (y := xs_been (σ 6) h k) (by rw [e6]) ?_
      refine lv_goto (tgt := 26) hx hb dX9_been_21 (by decide) ?_
      exact x_iretW S hlocks hP hS hr rfl (⟨by rw [xp_been, if_pos ⟨xin_nI (by omega) (by omega), xin_nI (by omega) (by omega)⟩, cN_nI (by omega), cN_nI (by omega)], hms_9⟩) dX9_been_26
set_option maxHeartbeats 4000000 in
set_option maxRecDepth 100000 in
theorem c_X9_homeOf (l : Launch) {D : va_G} {K : Nat → ClassId} {α : Nat → Nat} (σ : Nat → Nat → Int32) (hI : xw_I 20 α) (h : Nat)  (hC : xIM σ) (hh : h < 6) : Met l yX9_homeOf wsX9_homeOf (xrm 3) (va_Pc [.ref (α 0), .int (nI h)] (xPre D K 20 α (xM α K) σ)) (xQi D 20 α (xM α K) (fun r τ => r = xs_as (σ 6) (xYM σ) h h ∧ xMs σ τ)) 0 0 (xw_R 20 α) := by
  refine Met.ofW (cc := cX9_homeOf) (maxL := 4) (ret := (some .int)) (by decide) rfl ?_
  intro p e s m args below meth c s₁ B hml hv
  obtain ⟨rfl, hK, hP⟩ := hv
  have S : CallFix p m c cX9_homeOf 4 s _ wsX9_homeOf RX9 := ⟨B.exec, B.bytes, hml, findClass_of_methodNamed B.named, atoms_spec (ws := wsX9_homeOf) B.pre⟩
  have hx := S.1
  have hb := S.2.1
  have hr := B.returns
  have hlocks := B.notSynchronized
  have hS : va_S (xw_R 20 α) s.heap s.heap [] := va_S.rf
  have hl := lv_entry ([.ref (α 0), .int (nI h)]) (n := 4) (Nat.le_of_ble_eq_true rfl)
  rw [lg_entry_eq]
  generalize (lg_sl ([.ref (α 0), .int (nI h)]) ++ List.replicate (4 - (lg_sl ([.ref (α 0), .int (nI h)])).length) Slot.unset).toArray = ls at hl ⊢
  have hl : lv_has ls 4 [(0, .ref (α 0)), (1, .int (nI h))] := hl
  have hPP := hP
  have hY := xIM_Y hC
  have hY12 := xIM_12 hC
  have hPm := xIM_P hC
  refine lv_aload_n hx hb dX9_homeOf_0 rfl (lv_at hl 0 rfl) ?_
  refine x_cVWi (As := []) (rest := []) S hK hP hS (fun _ h => h) 0 (by omega) rfl rfl (c_X9_faultNow l σ hI   (by first | assumption | omega)) (x_cwV (n0 := 0) (cq := (RX9, TX9, 24)) S gX9_homeOf_X9_faultNow rfl (by decide +kernel) ⟨Nat.le_of_ble_eq_true rfl, Nat.le_of_ble_eq_true rfl⟩) rfl hl.1 rfl (Nat.le_of_ble_eq_true rfl) dX9_homeOf_1 ⟨Nat.le_refl _, Nat.le_refl _⟩ (fun r_1 τ_1 H locs hr_1 hP hk_1 hS => ?_)
  obtain ⟨hr_1, hms_1, hbk_1⟩ := hr_1
  subst hr_1
  obtain ⟨hyr, hbk⟩ := xBk_of hms_1 hbk_1
  have eF := xMs_F hms_1
  have e6 : τ_1 6 = σ 6 := xMs_k hms_1 (by decide)
  have hC2 := xMs_IM hms_1 hC
  refine lv_istore_n (lv' := [(2, .int (xt_fault (σ 6) (xLM σ))), (0, .ref (α 0)), (1, .int (nI h))]) hx hb dX9_homeOf_4 rfl hl (by decide) rfl (fun ls hl => ?_)
  refine lv_iconst (v := nI 0) hx hb dX9_homeOf_5 (by decide) ?_
  refine lv_istore_n (lv' := [(3, .int (nI 0)), (2, .int (xt_fault (σ 6) (xLM σ))), (0, .ref (α 0)), (1, .int (nI h))]) hx hb dX9_homeOf_6 rfl hl (by decide) rfl (fun ls hl => ?_)
  refine x_loopW (ι := Nat) (fun i H locs ls => (i ≤ xYM σ) ∧ (∀ y, y < i → ¬ (xnm (σ 6) y h = h ∧ xnm (σ 6) y h = h)) ∧ lv_has ls 4 [(3, .int (nI i)), (2, .int (xt_fault (σ 6) (xLM σ))), (0, .ref (α 0)), (1, .int (nI h))] ∧ va_P D vwCl (xw 20 α (xM α K) τ_1) H ∧ va_S (xw_R 20 α) s.heap H locs) (fun i => xYM σ - i) ?_ 0 ls ⟨Nat.zero_le _, fun j hj => absurd hj (Nat.not_lt_zero j), lv_sub hl [0, 1, 2, 3] rfl, hP, hS⟩
  intro i H locs ls hinv ih_7
  obtain ⟨hi, hno, hl, hP, hS⟩ := hinv
  have hl : lv_has ls 4 [(3, .int (nI i)), (2, .int (xt_fault (σ 6) (xLM σ))), (0, .ref (α 0)), (1, .int (nI h))] := hl
  have hP : va_P D vwCl (xw 20 α (xM α K) τ_1) H := hP
  refine lv_iload_n hx hb dX9_homeOf_7 rfl (lv_at hl 0 rfl) ?_
  refine lv_aload_n hx hb dX9_homeOf_8 rfl (lv_at hl 2 rfl) ?_
  refine x_get S (fun w h => List.mem_cons_of_mem _ (List.mem_append_right _ h)) hK hP 0 (by omega) rfl rfl 7 (by decide) (List.mem_of_getElem? (i := 1) rfl) rfl dX9_homeOf_9 ?_
  refine x_top S (y := nI (xYM σ)) (hyr) ?_
  refine x_icmpN_ge (tgt := 38) S dX9_homeOf_12 (by decide) (by omega) (by omega) (fun c_12 => ?_) (fun c_12 => ?_)
  · refine lv_iconst (v := (-1)) hx hb dX9_homeOf_38 (by decide) ?_
    exact x_iretW S hlocks hP hS hr rfl (⟨(xs_as_no (fun j hj => hno j (by omega))).symm, hms_1⟩) dX9_homeOf_39
  · have hq1 := (hY i c_12 h hh).1
    refine lv_aload_n hx hb dX9_homeOf_15 rfl (lv_at hl 2 rfl) ?_
    refine x_get S (fun w h => List.mem_cons_of_mem _ (List.mem_append_right _ h)) hK hP 0 (by omega) rfl rfl 8 (by decide) (List.mem_of_getElem? (i := 2) rfl) rfl dX9_homeOf_16 ?_
    refine lv_bipush (v := nI 6) hx hb dX9_homeOf_19 (by decide) ?_
    refine lv_iload_n hx hb dX9_homeOf_21 rfl (lv_at hl 0 rfl) ?_
    refine x_imulN S dX9_homeOf_22 ?_
    refine lv_iload_n hx hb dX9_homeOf_23 rfl (lv_at hl 3 rfl) ?_
    refine x_iaddN S dX9_homeOf_24 ?_
    refine x_iald S hK hP 7 (by omega) rfl (by first | assumption | omega) (by omega) dX9_homeOf_25 ?_
    refine x_top S (y := nI (xnm (σ 6) i h)) (hbk i (by omega) h hh) ?_
    refine lv_iload_n hx hb dX9_homeOf_26 rfl (lv_at hl 3 rfl) ?_
    refine x_icmpN_ne (tgt := 32) S dX9_homeOf_27 (by decide) (by omega) (by omega) (fun c_27 => ?_) (fun c_27 => ?_)
    · refine lv_iinc (v := nI (i + 1)) (lv' := [(3, .int (nI (i + 1))), (2, .int (xt_fault (σ 6) (xLM σ))), (0, .ref (α 0)), (1, .int (nI h))]) hx hb dX9_homeOf_32 hl (k := 0) rfl (nI_add i 1) (by decide) rfl (fun ls hl => ?_)
      refine lv_goto (tgt := 7) hx hb dX9_homeOf_35 (by decide) ?_
      exact ih_7 (i + 1) H locs ls ⟨(by omega), lt_s hno (fun q => c_27 q.1), lv_sub hl [0, 1, 2, 3] rfl, hP, hS⟩ (by (try dsimp only); omega)
    · refine lv_iload_n hx hb dX9_homeOf_30 rfl (lv_at hl 0 rfl) ?_
      exact x_iretW S hlocks hP hS hr rfl (⟨(xs_as_at c_12 hno ⟨c_27, c_27⟩).symm, hms_1⟩) dX9_homeOf_31
set_option maxHeartbeats 4000000 in
set_option maxRecDepth 100000 in
theorem c_X9_home (l : Launch) {D : va_G} {K : Nat → ClassId} {α : Nat → Nat} (σ : Nat → Nat → Int32) (hI : xw_I 20 α) (x0 : Int32)  (hC : xIM σ) : Met l yX9_home wsX9_home (xrm 4) (va_Pc [.ref (α 0), .int x0] (xPre D K 20 α (xM α K) σ)) (xQi D 20 α (xM α K) (fun r τ => r = xp_home (σ 6) (xYM σ) x0 ∧ xMs σ τ)) 0 0 (xw_R 20 α) := by
  refine Met.ofW (cc := cX9_home) (maxL := 2) (ret := (some .int)) (by decide) rfl ?_
  intro p e s m args below meth c s₁ B hml hv
  obtain ⟨rfl, hK, hP⟩ := hv
  have S : CallFix p m c cX9_home 2 s _ wsX9_home RX9 := ⟨B.exec, B.bytes, hml, findClass_of_methodNamed B.named, atoms_spec (ws := wsX9_home) B.pre⟩
  have hx := S.1
  have hb := S.2.1
  have hr := B.returns
  have hlocks := B.notSynchronized
  have hS : va_S (xw_R 20 α) s.heap s.heap [] := va_S.rf
  have hl := lv_entry ([.ref (α 0), .int x0]) (n := 2) (Nat.le_of_ble_eq_true rfl)
  rw [lg_entry_eq]
  generalize (lg_sl ([.ref (α 0), .int x0]) ++ List.replicate (2 - (lg_sl ([.ref (α 0), .int x0])).length) Slot.unset).toArray = ls at hl ⊢
  have hl : lv_has ls 2 [(0, .ref (α 0)), (1, .int x0)] := hl
  have hPP := hP
  have hY := xIM_Y hC
  have hY12 := xIM_12 hC
  have hPm := xIM_P hC
  refine lv_iload_n hx hb dX9_home_0 rfl (lv_at hl 1 rfl) ?_
  refine x_cSi (As := [.int x0]) (rest := []) S (c_X9_isSix l x0  ) (x_cwS (n0 := 1) S gX9_home_X9_isSix rfl (by decide +kernel) ⟨Nat.le_of_ble_eq_true rfl, Nat.le_of_ble_eq_true rfl⟩) rfl hl.1 rfl (Nat.le_of_ble_eq_true rfl) dX9_home_1 ⟨Nat.le_refl _, Nat.le_refl _⟩ (fun r_1 hr_1 => ?_)
  subst hr_1
  refine x_if_eqB (tgt := 15) S dX9_home_4 (by decide) (fun c_4 => ?_) (fun c_4 => ?_)
  · refine lv_bipush (v := (-2)) hx hb dX9_home_15 (by decide) ?_
    exact x_iretW S hlocks hP hS hr rfl (⟨by rw [xp_home, if_neg c_4], xMs_rf _⟩) dX9_home_17
  · obtain ⟨h, hh, rfl⟩ := xin_of c_4 (by omega)
    refine lv_aload_n hx hb dX9_home_7 rfl (lv_at hl 0 rfl) ?_
    refine lv_iload_n hx hb dX9_home_8 rfl (lv_at hl 1 rfl) ?_
    refine x_cVWi (As := [.int (nI h)]) (rest := []) S hK hP hS (fun _ h => h) 0 (by omega) rfl rfl (c_X9_homeOf l σ hI h  (by first | assumption | omega) (by first | assumption | omega)) (x_cwV (n0 := 1) (cq := (RX9, TX9, 24)) S gX9_home_X9_homeOf rfl (by decide +kernel) ⟨Nat.le_of_ble_eq_true rfl, Nat.le_of_ble_eq_true rfl⟩) rfl hl.1 rfl (Nat.le_of_ble_eq_true rfl) dX9_home_9 ⟨Nat.le_refl _, Nat.le_refl _⟩ (fun r_9 τ_9 H locs hr_9 hP hk_9 hS => ?_)
    obtain ⟨hr_9, hms_9⟩ := hr_9
    subst hr_9
    refine lv_goto (tgt := 17) hx hb dX9_home_12 (by decide) ?_
    exact x_iretW S hlocks hP hS hr rfl (⟨by rw [xp_home, if_pos (xin_nI (by omega) (by omega)), cN_nI (by omega)], hms_9⟩) dX9_home_17
set_option maxHeartbeats 4000000 in
set_option maxRecDepth 100000 in
theorem c_X9_otherOf (l : Launch) {D : va_G} {K : Nat → ClassId} {α : Nat → Nat} (σ : Nat → Nat → Int32) (hI : xw_I 20 α) (a : Nat) (b : Nat)  (hC : xIM σ) (ha : a < 6) (hb6 : b < 6) : Met l yX9_otherOf wsX9_otherOf (xrm 3) (va_Pc [.ref (α 0), .int (nI a), .int (nI b)] (xPre D K 20 α (xM α K) σ)) (xQi D 20 α (xM α K) (fun r τ => r = xs_as (σ 6) (xYM σ) a b ∧ xMs σ τ)) 0 0 (xw_R 20 α) := by
  refine Met.ofW (cc := cX9_otherOf) (maxL := 5) (ret := (some .int)) (by decide) rfl ?_
  intro p e s m args below meth c s₁ B hml hv
  obtain ⟨rfl, hK, hP⟩ := hv
  have S : CallFix p m c cX9_otherOf 5 s _ wsX9_otherOf RX9 := ⟨B.exec, B.bytes, hml, findClass_of_methodNamed B.named, atoms_spec (ws := wsX9_otherOf) B.pre⟩
  have hx := S.1
  have hb := S.2.1
  have hr := B.returns
  have hlocks := B.notSynchronized
  have hS : va_S (xw_R 20 α) s.heap s.heap [] := va_S.rf
  have hl := lv_entry ([.ref (α 0), .int (nI a), .int (nI b)]) (n := 5) (Nat.le_of_ble_eq_true rfl)
  rw [lg_entry_eq]
  generalize (lg_sl ([.ref (α 0), .int (nI a), .int (nI b)]) ++ List.replicate (5 - (lg_sl ([.ref (α 0), .int (nI a), .int (nI b)])).length) Slot.unset).toArray = ls at hl ⊢
  have hl : lv_has ls 5 [(0, .ref (α 0)), (1, .int (nI a)), (2, .int (nI b))] := hl
  have hPP := hP
  have hY := xIM_Y hC
  have hY12 := xIM_12 hC
  have hPm := xIM_P hC
  refine lv_aload_n hx hb dX9_otherOf_0 rfl (lv_at hl 0 rfl) ?_
  refine x_cVWi (As := []) (rest := []) S hK hP hS (fun _ h => h) 0 (by omega) rfl rfl (c_X9_faultNow l σ hI   (by first | assumption | omega)) (x_cwV (n0 := 0) (cq := (RX9, TX9, 24)) S gX9_otherOf_X9_faultNow rfl (by decide +kernel) ⟨Nat.le_of_ble_eq_true rfl, Nat.le_of_ble_eq_true rfl⟩) rfl hl.1 rfl (Nat.le_of_ble_eq_true rfl) dX9_otherOf_1 ⟨Nat.le_refl _, Nat.le_refl _⟩ (fun r_1 τ_1 H locs hr_1 hP hk_1 hS => ?_)
  obtain ⟨hr_1, hms_1, hbk_1⟩ := hr_1
  subst hr_1
  obtain ⟨hyr, hbk⟩ := xBk_of hms_1 hbk_1
  have eF := xMs_F hms_1
  have e6 : τ_1 6 = σ 6 := xMs_k hms_1 (by decide)
  have hC2 := xMs_IM hms_1 hC
  refine lv_istore_n (lv' := [(3, .int (xt_fault (σ 6) (xLM σ))), (0, .ref (α 0)), (1, .int (nI a)), (2, .int (nI b))]) hx hb dX9_otherOf_4 rfl hl (by decide) rfl (fun ls hl => ?_)
  refine lv_iconst (v := nI 0) hx hb dX9_otherOf_5 (by decide) ?_
  refine lv_istore (lv' := [(4, .int (nI 0)), (3, .int (xt_fault (σ 6) (xLM σ))), (0, .ref (α 0)), (1, .int (nI a)), (2, .int (nI b))]) hx hb dX9_otherOf_6 hl (by decide) rfl (fun ls hl => ?_)
  refine x_loopW (ι := Nat) (fun i H locs ls => (i ≤ xYM σ) ∧ (∀ y, y < i → ¬ (xnm (σ 6) y a = b ∧ xnm (σ 6) y b = a)) ∧ lv_has ls 5 [(4, .int (nI i)), (3, .int (xt_fault (σ 6) (xLM σ))), (0, .ref (α 0)), (1, .int (nI a)), (2, .int (nI b))] ∧ va_P D vwCl (xw 20 α (xM α K) τ_1) H ∧ va_S (xw_R 20 α) s.heap H locs) (fun i => xYM σ - i) ?_ 0 ls ⟨Nat.zero_le _, fun j hj => absurd hj (Nat.not_lt_zero j), lv_sub hl [0, 1, 2, 3, 4] rfl, hP, hS⟩
  intro i H locs ls hinv ih_8
  obtain ⟨hi, hno, hl, hP, hS⟩ := hinv
  have hl : lv_has ls 5 [(4, .int (nI i)), (3, .int (xt_fault (σ 6) (xLM σ))), (0, .ref (α 0)), (1, .int (nI a)), (2, .int (nI b))] := hl
  have hP : va_P D vwCl (xw 20 α (xM α K) τ_1) H := hP
  refine lv_iload hx hb dX9_otherOf_8 (lv_at hl 0 rfl) ?_
  refine lv_aload_n hx hb dX9_otherOf_10 rfl (lv_at hl 2 rfl) ?_
  refine x_get S (fun w h => List.mem_cons_of_mem _ (List.mem_append_right _ h)) hK hP 0 (by omega) rfl rfl 7 (by decide) (List.mem_of_getElem? (i := 1) rfl) rfl dX9_otherOf_11 ?_
  refine x_top S (y := nI (xYM σ)) (hyr) ?_
  refine x_icmpN_ge (tgt := 58) S dX9_otherOf_14 (by decide) (by omega) (by omega) (fun c_14 => ?_) (fun c_14 => ?_)
  · refine lv_iconst (v := (-1)) hx hb dX9_otherOf_58 (by decide) ?_
    exact x_iretW S hlocks hP hS hr rfl (⟨(xs_as_no (fun j hj => hno j (by omega))).symm, hms_1⟩) dX9_otherOf_59
  · have hq1 := (hY i c_14 a ha).1
    have hq2 := (hY i c_14 b hb6).1
    refine lv_aload_n hx hb dX9_otherOf_17 rfl (lv_at hl 2 rfl) ?_
    refine x_get S (fun w h => List.mem_cons_of_mem _ (List.mem_append_right _ h)) hK hP 0 (by omega) rfl rfl 8 (by decide) (List.mem_of_getElem? (i := 2) rfl) rfl dX9_otherOf_18 ?_
    refine lv_bipush (v := nI 6) hx hb dX9_otherOf_21 (by decide) ?_
    refine lv_iload hx hb dX9_otherOf_23 (lv_at hl 0 rfl) ?_
    refine x_imulN S dX9_otherOf_25 ?_
    refine lv_iload_n hx hb dX9_otherOf_26 rfl (lv_at hl 3 rfl) ?_
    refine x_iaddN S dX9_otherOf_27 ?_
    refine x_iald S hK hP 7 (by omega) rfl (by first | assumption | omega) (by omega) dX9_otherOf_28 ?_
    refine x_top S (y := nI (xnm (σ 6) i a)) (hbk i (by omega) a ha) ?_
    refine lv_iload_n hx hb dX9_otherOf_29 rfl (lv_at hl 4 rfl) ?_
    refine x_icmpN_ne (tgt := 52) S dX9_otherOf_30 (by decide) (by omega) (by omega) (fun c_30 => ?_) (fun c_30 => ?_)
    · refine lv_iinc (v := nI (i + 1)) (lv' := [(4, .int (nI (i + 1))), (3, .int (xt_fault (σ 6) (xLM σ))), (0, .ref (α 0)), (1, .int (nI a)), (2, .int (nI b))]) hx hb dX9_otherOf_52 hl (k := 0) rfl (nI_add i 1) (by decide) rfl (fun ls hl => ?_)
      refine lv_goto (tgt := 8) hx hb dX9_otherOf_55 (by decide) ?_
      exact ih_8 (i + 1) H locs ls ⟨(by omega), lt_s hno (fun q => by first | exact c_46 q.2 | exact c_30 q.1), lv_sub hl [0, 1, 2, 3, 4] rfl, hP, hS⟩ (by (try dsimp only); omega)
    · refine lv_aload_n hx hb dX9_otherOf_33 rfl (lv_at hl 2 rfl) ?_
      refine x_get S (fun w h => List.mem_cons_of_mem _ (List.mem_append_right _ h)) hK hP 0 (by omega) rfl rfl 8 (by decide) (List.mem_of_getElem? (i := 2) rfl) rfl dX9_otherOf_34 ?_
      refine lv_bipush (v := nI 6) hx hb dX9_otherOf_37 (by decide) ?_
      refine lv_iload hx hb dX9_otherOf_39 (lv_at hl 0 rfl) ?_
      refine x_imulN S dX9_otherOf_41 ?_
      refine lv_iload_n hx hb dX9_otherOf_42 rfl (lv_at hl 4 rfl) ?_
      refine x_iaddN S dX9_otherOf_43 ?_
      refine x_iald S hK hP 7 (by omega) rfl (by first | assumption | omega) (by omega) dX9_otherOf_44 ?_
      refine x_top S (y := nI (xnm (σ 6) i b)) (hbk i (by omega) b hb6) ?_
      refine lv_iload_n hx hb dX9_otherOf_45 rfl (lv_at hl 3 rfl) ?_
      refine x_icmpN_ne (tgt := 52) S dX9_otherOf_46 (by decide) (by omega) (by omega) (fun c_46 => ?_) (fun c_46 => ?_)
      · refine lv_iinc (v := nI (i + 1)) (lv' := [(4, .int (nI (i + 1))), (3, .int (xt_fault (σ 6) (xLM σ))), (0, .ref (α 0)), (1, .int (nI a)), (2, .int (nI b))]) hx hb dX9_otherOf_52 hl (k := 0) rfl (nI_add i 1) (by decide) rfl (fun ls hl => ?_)
        refine lv_goto (tgt := 8) hx hb dX9_otherOf_55 (by decide) ?_
        exact ih_8 (i + 1) H locs ls ⟨(by omega), lt_s hno (fun q => by first | exact c_46 q.2 | exact c_30 q.1), lv_sub hl [0, 1, 2, 3, 4] rfl, hP, hS⟩ (by (try dsimp only); omega)
      · refine lv_iload hx hb dX9_otherOf_49 (lv_at hl 0 rfl) ?_
        exact x_iretW S hlocks hP hS hr rfl (⟨(xs_as_at c_14 hno ⟨c_30, c_46⟩).symm, hms_1⟩) dX9_otherOf_51
set_option maxHeartbeats 4000000 in
set_option maxRecDepth 100000 in
theorem c_X9_other (l : Launch) {D : va_G} {K : Nat → ClassId} {α : Nat → Nat} (σ : Nat → Nat → Int32) (hI : xw_I 20 α) (x0 : Int32) (x1 : Int32)  (hC : xIM σ) : Met l yX9_other wsX9_other (xrm 4) (va_Pc [.ref (α 0), .int x0, .int x1] (xPre D K 20 α (xM α K) σ)) (xQi D 20 α (xM α K) (fun r τ => r = xp_other (σ 6) (xYM σ) x0 x1 ∧ xMs σ τ)) 0 0 (xw_R 20 α) := by
  refine Met.ofW (cc := cX9_other) (maxL := 3) (ret := (some .int)) (by decide) rfl ?_
  intro p e s m args below meth c s₁ B hml hv
  obtain ⟨rfl, hK, hP⟩ := hv
  have S : CallFix p m c cX9_other 3 s _ wsX9_other RX9 := ⟨B.exec, B.bytes, hml, findClass_of_methodNamed B.named, atoms_spec (ws := wsX9_other) B.pre⟩
  have hx := S.1
  have hb := S.2.1
  have hr := B.returns
  have hlocks := B.notSynchronized
  have hS : va_S (xw_R 20 α) s.heap s.heap [] := va_S.rf
  have hl := lv_entry ([.ref (α 0), .int x0, .int x1]) (n := 3) (Nat.le_of_ble_eq_true rfl)
  rw [lg_entry_eq]
  generalize (lg_sl ([.ref (α 0), .int x0, .int x1]) ++ List.replicate (3 - (lg_sl ([.ref (α 0), .int x0, .int x1])).length) Slot.unset).toArray = ls at hl ⊢
  have hl : lv_has ls 3 [(0, .ref (α 0)), (1, .int x0), (2, .int x1)] := hl
  have hPP := hP
  have hY := xIM_Y hC
  have hY12 := xIM_12 hC
  have hPm := xIM_P hC
  refine lv_iload_n hx hb dX9_other_0 rfl (lv_at hl 1 rfl) ?_
  refine x_cSi (As := [.int x0]) (rest := []) S (c_X9_isSix l x0  ) (x_cwS (n0 := 1) S gX9_other_X9_isSix rfl (by decide +kernel) ⟨Nat.le_of_ble_eq_true rfl, Nat.le_of_ble_eq_true rfl⟩) rfl hl.1 rfl (Nat.le_of_ble_eq_true rfl) dX9_other_1 ⟨Nat.le_refl _, Nat.le_refl _⟩ (fun r_1 hr_1 => ?_)
  subst hr_1
  refine x_if_eqB (tgt := 28) S dX9_other_4 (by decide) (fun c_4 => ?_) (fun c_4 => ?_)
  · refine lv_bipush (v := (-2)) hx hb dX9_other_28 (by decide) ?_
    exact x_iretW S hlocks hP hS hr rfl (by first | exact ⟨by rw [xp_other, if_neg (fun q => c_4 q.1)], xMs_rf _⟩ | exact ⟨by rw [xp_other, if_neg (fun q => c_11 q.2.1)], xMs_rf _⟩ | exact ⟨by rw [xp_other, if_neg (fun q => q.2.2 c_16)], xMs_rf _⟩) dX9_other_30
  · refine lv_iload_n hx hb dX9_other_7 rfl (lv_at hl 2 rfl) ?_
    refine x_cSi (As := [.int x1]) (rest := []) S (c_X9_isSix l x1  ) (x_cwS (n0 := 1) S gX9_other_X9_isSix rfl (by decide +kernel) ⟨Nat.le_of_ble_eq_true rfl, Nat.le_of_ble_eq_true rfl⟩) rfl hl.1 rfl (Nat.le_of_ble_eq_true rfl) dX9_other_8 ⟨Nat.le_refl _, Nat.le_refl _⟩ (fun r_8 hr_8 => ?_)
    subst hr_8
    refine x_if_eqB (tgt := 28) S dX9_other_11 (by decide) (fun c_11 => ?_) (fun c_11 => ?_)
    · refine lv_bipush (v := (-2)) hx hb dX9_other_28 (by decide) ?_
      exact x_iretW S hlocks hP hS hr rfl (by first | exact ⟨by rw [xp_other, if_neg (fun q => c_4 q.1)], xMs_rf _⟩ | exact ⟨by rw [xp_other, if_neg (fun q => c_11 q.2.1)], xMs_rf _⟩ | exact ⟨by rw [xp_other, if_neg (fun q => q.2.2 c_16)], xMs_rf _⟩) dX9_other_30
    · refine lv_iload_n hx hb dX9_other_14 rfl (lv_at hl 1 rfl) ?_
      refine lv_iload_n hx hb dX9_other_15 rfl (lv_at hl 2 rfl) ?_
      refine lv_icmp_eq (tgt := 28) hx hb dX9_other_16 (by decide) (fun c_16 => ?_) (fun c_16 => ?_)
      · refine lv_bipush (v := (-2)) hx hb dX9_other_28 (by decide) ?_
        exact x_iretW S hlocks hP hS hr rfl (by first | exact ⟨by rw [xp_other, if_neg (fun q => c_4 q.1)], xMs_rf _⟩ | exact ⟨by rw [xp_other, if_neg (fun q => c_11 q.2.1)], xMs_rf _⟩ | exact ⟨by rw [xp_other, if_neg (fun q => q.2.2 c_16)], xMs_rf _⟩) dX9_other_30
      · obtain ⟨a, ha, rfl⟩ := xin_of c_4 (by omega)
        obtain ⟨b, hb6, rfl⟩ := xin_of c_11 (by omega)
        refine lv_aload_n hx hb dX9_other_19 rfl (lv_at hl 0 rfl) ?_
        refine lv_iload_n hx hb dX9_other_20 rfl (lv_at hl 1 rfl) ?_
        refine lv_iload_n hx hb dX9_other_21 rfl (lv_at hl 2 rfl) ?_
        refine x_cVWi (As := [.int (nI a), .int (nI b)]) (rest := []) S hK hP hS (fun _ h => h) 0 (by omega) rfl rfl (c_X9_otherOf l σ hI a b  (by first | assumption | omega) (by first | assumption | omega) (by first | assumption | omega)) (x_cwV (n0 := 2) (cq := (RX9, TX9, 24)) S gX9_other_X9_otherOf rfl (by decide +kernel) ⟨Nat.le_of_ble_eq_true rfl, Nat.le_of_ble_eq_true rfl⟩) rfl hl.1 rfl (Nat.le_of_ble_eq_true rfl) dX9_other_22 ⟨Nat.le_refl _, Nat.le_refl _⟩ (fun r_22 τ_22 H locs hr_22 hP hk_22 hS => ?_)
        obtain ⟨hr_22, hms_22⟩ := hr_22
        subst hr_22
        refine lv_goto (tgt := 30) hx hb dX9_other_25 (by decide) ?_
        exact x_iretW S hlocks hP hS hr rfl (⟨by rw [xp_other, if_pos ⟨xin_nI (by omega) (by omega), xin_nI (by omega) (by omega), c_16⟩, cN_nI (by omega), cN_nI (by omega)], hms_22⟩) dX9_other_30

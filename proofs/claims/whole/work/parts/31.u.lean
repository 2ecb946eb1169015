set_option maxHeartbeats 4000000 in
set_option maxRecDepth 100000 in
theorem c_X9_read (l : Launch) {D : va_G} {K : Nat → ClassId} {α : Nat → Nat} (σ : Nat → Nat → Int32) (hI : xw_I 20 α) (x : Int32)  (hC : xIM σ) : Met l yX9_read wsX9_read (xrm 2) (va_Pc [.ref (α 0), .int x] (xPre D K 20 α (xM α K) σ)) (xQi D 20 α (xM α K) (fun r τ => r = xp_read (xVM σ) (xJM σ) (xLM σ) x ∧ τ = xst_mread σ x)) 0 0 (xw_R 20 α) := by
  refine Met.ofW (cc := cX9_read) (maxL := 5) (ret := (some .int)) (by decide) rfl ?_
  intro p e s m args below meth c s₁ B hml hv
  obtain ⟨rfl, hK, hP⟩ := hv
  have S : CallFix p m c cX9_read 5 s _ wsX9_read RX9 := ⟨B.exec, B.bytes, hml, findClass_of_methodNamed B.named, atoms_spec (ws := wsX9_read) B.pre⟩
  have hx := S.1
  have hb := S.2.1
  have hr := B.returns
  have hlocks := B.notSynchronized
  have hS : va_S (xw_R 20 α) s.heap s.heap [] := va_S.rf
  have hl := lv_entry ([.ref (α 0), .int x]) (n := 5) (Nat.le_of_ble_eq_true rfl)
  rw [lg_entry_eq]
  generalize (lg_sl ([.ref (α 0), .int x]) ++ List.replicate (5 - (lg_sl ([.ref (α 0), .int x])).length) Slot.unset).toArray = ls at hl ⊢
  have hl : lv_has ls 5 [(0, .ref (α 0)), (1, .int x)] := hl
  have hPP := hP
  have hY := xIM_Y hC
  have hY12 := xIM_12 hC
  obtain ⟨⟨hL, hL9⟩, ⟨hcs, hcn, hc1, hc2⟩, ⟨hss, hsn, hs1, hs2⟩, hfe, hsh⟩ := id hC
  generalize hLe : xLM σ = L at hL hL9 ⊢
  generalize hYe : xYM σ = Y at hY hY12 ⊢
  generalize hcne : xcM σ = cn at hcs hcn hc1 hc2 ⊢
  generalize hsne : xsM σ = sn at hss hsn hs1 hs2 ⊢
  refine lv_iload_n hx hb dX9_read_0 rfl (lv_at hl 1 rfl) ?_
  refine x_cSi (As := [.int x]) (rest := []) S (c_X9_isSheet l x  ) (x_cwS (n0 := 1) S gX9_read_X9_isSheet rfl (by decide +kernel) ⟨Nat.le_of_ble_eq_true rfl, Nat.le_of_ble_eq_true rfl⟩) rfl hl.1 rfl (Nat.le_of_ble_eq_true rfl) dX9_read_1 ⟨Nat.le_refl _, Nat.le_refl _⟩ (fun r_1 hr_1 => ?_)
  subst hr_1
  refine x_if_neB (tgt := 10) S dX9_read_4 (by decide) (fun c_4 => ?_) (fun c_4 => ?_)
  · obtain ⟨w, hw, rfl⟩ := xin_of c_4 (by omega)
    have hz9 := hsh w (by omega)
    have hz8 := hz9.2.2.1
    have ez : xnat (xVM σ w) 3 = xnat (σ 17) w := rfl
    refine lv_aload_n hx hb dX9_read_10 rfl (lv_at hl 0 rfl) ?_
    refine x_get S (fun w h => List.mem_cons_of_mem _ (List.mem_append_right _ h)) hK hP 0 (by omega) rfl rfl 18 (by decide) (List.mem_of_getElem? (i := 1) rfl) rfl dX9_read_11 ?_
    refine lv_iload_n hx hb dX9_read_14 rfl (lv_at hl 1 rfl) ?_
    refine x_zald S hK hP 15 (by omega) rfl (by first | assumption | omega) (by omega) dX9_read_15 ?_
    refine lv_if_ne (tgt := 25) hx hb dX9_read_16 (by decide) (fun c_16 => ?_) (fun c_16 => ?_)
    · refine lv_aload_n hx hb dX9_read_25 rfl (lv_at hl 0 rfl) ?_
      refine x_get S (fun w h => List.mem_cons_of_mem _ (List.mem_append_right _ h)) hK hP 0 (by omega) rfl rfl 20 (by decide) (List.mem_of_getElem? (i := 2) rfl) rfl dX9_read_26 ?_
      refine lv_iload_n hx hb dX9_read_29 rfl (lv_at hl 1 rfl) ?_
      refine x_iald S hK hP 17 (by omega) rfl (by first | assumption | omega) (by omega) dX9_read_30 ?_
      refine x_top S (y := nI (xnat (σ 17) w)) (hz9.2.2.2) ?_
      refine lv_bipush (v := nI 6) hx hb dX9_read_31 (by decide) ?_
      refine x_icmpN_ge (tgt := 39) S dX9_read_33 (by decide) (by omega) (by omega) (fun c_33 => ?_) (fun c_33 => ?_)
      · refine lv_iconst (v := nI 0) hx hb dX9_read_39 (by decide) ?_
        refine lv_istore_n (lv' := [(2, .int (nI 0)), (0, .ref (α 0)), (1, .int (nI w))]) hx hb dX9_read_40 rfl hl (by decide) rfl (fun ls hl => ?_)
        refine lv_iconst (v := nI 0) hx hb dX9_read_41 (by decide) ?_
        refine lv_istore_n (lv' := [(3, .int (nI 0)), (2, .int (nI 0)), (0, .ref (α 0)), (1, .int (nI w))]) hx hb dX9_read_42 rfl hl (by decide) rfl (fun ls hl => ?_)
        refine x_loopW (ι := Nat × Nat) (fun z9 H locs ls => match z9 with | ⟨i, z⟩ => (i ≤ 6) ∧ (z < 64) ∧ (xpc z = i) ∧ (xs_hm (xJM σ w) i = nI z) ∧ (∀ h, h < i → xin (xJM σ w h) 6) ∧ lv_has ls 5 [(3, .int (nI i)), (2, .int (nI z)), (0, .ref (α 0)), (1, .int (nI w))] ∧ va_P D vwCl (xw 20 α (xM α K) σ) H ∧ va_S (xw_R 20 α) s.heap H locs) (fun z9 => match z9 with | ⟨i, z⟩ => 6 - i) ?_ (⟨0, 0⟩) ls ⟨(by omega), (by omega), (by decide), rfl, (fun h hh => absurd hh (by omega)), lv_sub hl [0, 1, 2, 3] rfl, hP, hS⟩
        intro z9 H locs ls hinv ih_43
        obtain ⟨i, z⟩ := z9
        obtain ⟨hi, hz64, hpc, hhm, hin, hl, hP, hS⟩ := hinv
        have hl : lv_has ls 5 [(3, .int (nI i)), (2, .int (nI z)), (0, .ref (α 0)), (1, .int (nI w))] := hl
        have hP : va_P D vwCl (xw 20 α (xM α K) σ) H := hP
        refine lv_iload_n hx hb dX9_read_43 rfl (lv_at hl 0 rfl) ?_
        refine lv_bipush (v := nI 6) hx hb dX9_read_44 (by decide) ?_
        refine x_icmpN_ge (tgt := 109) S dX9_read_46 (by decide) (by omega) (by omega) (fun c_46 => ?_) (fun c_46 => ?_)
        · have e9 : i = 6 := by omega
          subst e9
          have hhold : xs_hold (xnat (xVM σ w) 3) (xJM σ w) := xhold_yes (by omega) hz64 hpc hhm hin
          have hif := xyb_or L
          refine lv_aload_n hx hb dX9_read_109 rfl (lv_at hl 2 rfl) ?_
          refine x_get S (fun w h => List.mem_cons_of_mem _ (List.mem_append_right _ h)) hK hP 0 (by omega) rfl rfl 6 (by decide) (List.mem_of_getElem? (i := 4) rfl) rfl dX9_read_110 ?_
          refine x_top S (y := nI L) (hL) ?_
          refine x_cutW (ι := (Nat → Nat → Int32) × Nat × Int32) (pc := 153) (fun z9 H locs ls => match z9 with | ⟨ρ, M, v9⟩ => ((ρ = σ ∧ M = 0 ∧ L = 0) ∨ (ρ = xst_m1 σ L (nI 59) ∧ M = L + 1 ∧ 0 < L)) ∧ (L + xyb L ≤ 90) ∧ lv_has ls 5 [(3, .int (nI 6)), (2, .int (nI z)), (0, .ref (α 0)), (1, .int (nI w))] ∧ va_P D vwCl (xw 20 α (xM α K) ρ) H ∧ va_S (xw_R 20 α) s.heap H locs) (fun z9 => match z9 with | ⟨ρ, M, v9⟩ => [.int v9]) ?_ ?_
          · intro z9 H locs ls hinv
            obtain ⟨ρ, M, v9⟩ := z9
            obtain ⟨hρ, h90, hl, hP, hS⟩ := hinv
            have hl : lv_has ls 5 [(3, .int (nI 6)), (2, .int (nI z)), (0, .ref (α 0)), (1, .int (nI w))] := hl
            have hP : va_P D vwCl (xw 20 α (xM α K) ρ) H := hP
            show W p l e _ s m _ below meth c H locs 0 0 _ (F0 m 153 ls [.int v9])
            have hρ6 : ρ 0 6 = nI M := by
              rcases hρ with ⟨q1, q2, q3⟩ | ⟨q1, q2, q3⟩
              · rw [q1, q2, hL, q3]
              · rw [q1, q2, xst_m1_L]
            have hρ8 : ρ 18 = σ 18 := by
              rcases hρ with ⟨q1, q2, q3⟩ | ⟨q1, q2, q3⟩
              · rw [q1]
              · rw [q1, xst_m1_n _ _ _ (by decide) (by decide)]
            have hM6 : M + 6 = L + xyb L := by
              rcases hρ with ⟨q1, q2, q3⟩ | ⟨q1, q2, q3⟩ <;> omega
            have hry : xmy ρ M (xJM σ w)  6 = xst_mry σ L w := by
              rcases hρ with ⟨q1, q2, q3⟩ | ⟨q1, q2, q3⟩
              · rw [q1, q2, xst_mry, if_pos q3]
              · rw [q1, q2, xst_mry, if_neg (by omega)]
            refine lv_istore_n (lv' := [(3, .int v9), (2, .int (nI z)), (0, .ref (α 0)), (1, .int (nI w))]) hx hb dX9_read_153 rfl hl (by decide) rfl (fun ls hl => ?_)
            refine lv_iconst (v := nI 0) hx hb dX9_read_154 (by decide) ?_
            refine lv_istore (lv' := [(4, .int (nI 0)), (3, .int v9), (2, .int (nI z)), (0, .ref (α 0)), (1, .int (nI w))]) hx hb dX9_read_155 hl (by decide) rfl (fun ls hl => ?_)
            refine x_loopW (ι := Nat) (fun i H locs ls => (i ≤ 6) ∧ lv_has ls 5 [(4, .int (nI i)), (2, .int (nI z)), (0, .ref (α 0)), (1, .int (nI w))] ∧ va_P D vwCl (xw 20 α (xM α K) (xmy ρ M (xJM σ w) i)) H ∧ va_S (xw_R 20 α) s.heap H locs) (fun i => 6 - i) ?_ 0 ls ⟨(by omega), lv_sub hl [0, 2, 3, 4] rfl, hP, hS⟩
            intro i H locs ls hinv ih_157
            obtain ⟨hi, hl, hP, hS⟩ := hinv
            have hl : lv_has ls 5 [(4, .int (nI i)), (2, .int (nI z)), (0, .ref (α 0)), (1, .int (nI w))] := hl
            have hP : va_P D vwCl (xw 20 α (xM α K) (xmy ρ M (xJM σ w) i)) H := hP
            refine lv_iload hx hb dX9_read_157 (lv_at hl 0 rfl) ?_
            refine lv_bipush (v := nI 6) hx hb dX9_read_159 (by decide) ?_
            refine x_icmpN_ge (tgt := 190) S dX9_read_161 (by decide) (by omega) (by omega) (fun c_161 => ?_) (fun c_161 => ?_)
            · have e9 : i = 6 := by omega
              subst e9
              refine lv_aload_n hx hb dX9_read_190 rfl (lv_at hl 2 rfl) ?_
              refine x_get S (fun w h => List.mem_cons_of_mem _ (List.mem_append_right _ h)) hK hP 0 (by omega) rfl rfl 6 (by decide) (List.mem_of_getElem? (i := 4) rfl) rfl dX9_read_191 ?_
              refine x_top S (y := nI (M + 6)) (xmy_L hρ6 6) ?_
              exact x_iretW S hlocks hP hS hr rfl (⟨by rw [xp_read, if_pos (xin_nI (by omega) (by omega)), cN_nI (by omega), if_neg (not_not_intro (xVM_0 c_16)), if_pos hhold, if_pos h90, hM6], by rw [xst_mread, hLe, if_pos (xin_nI (by omega) (by omega)), cN_nI (by omega), if_neg (not_not_intro (xVM_0 c_16)), if_pos ⟨hhold, h90⟩]; exact hry⟩) dX9_read_194
            · refine lv_aload_n hx hb dX9_read_164 rfl (lv_at hl 2 rfl) ?_
              refine lv_bipush (v := nI 48) hx hb dX9_read_165 (by decide) ?_
              refine lv_aload_n hx hb dX9_read_167 rfl (lv_at hl 2 rfl) ?_
              refine x_get S (fun w h => List.mem_cons_of_mem _ (List.mem_append_right _ h)) hK hP 0 (by omega) rfl rfl 21 (by decide) (List.mem_of_getElem? (i := 3) rfl) rfl dX9_read_168 ?_
              refine lv_bipush (v := nI 48) hx hb dX9_read_171 (by decide) ?_
              refine lv_iload_n hx hb dX9_read_173 rfl (lv_at hl 3 rfl) ?_
              refine x_imulN S dX9_read_174 ?_
              refine lv_iload hx hb dX9_read_175 (lv_at hl 0 rfl) ?_
              refine x_iaddN S dX9_read_177 ?_
              refine x_iald S hK hP 18 (by omega) rfl (by first | assumption | omega) (by omega) dX9_read_178 ?_
              refine x_top S (y := xJM σ w i) (by rw [xmy_n _ _ _ (by decide) (by decide), hρ8]; rfl) ?_
              refine lv_iadd hx hb dX9_read_179 ?_
              refine x_cVWi (As := [.int ((nI 48) + (xJM σ w i))]) (rest := []) S hK hP hS (fun _ h => h) 0 (by omega) rfl rfl (c_X9_typeOne l (xmy ρ M (xJM σ w) i) hI ((nI 48) + (xJM σ w i)) (M + i)  (xmy_L hρ6 i) (by omega)) (x_cwV (n0 := 1) (cq := (RX9, TX9, 24)) S gX9_read_X9_typeOne rfl (by decide +kernel) ⟨Nat.le_of_ble_eq_true rfl, Nat.le_of_ble_eq_true rfl⟩) rfl hl.1 rfl (Nat.le_of_ble_eq_true rfl) dX9_read_180 ⟨Nat.le_refl _, Nat.le_refl _⟩ (fun r_180 τ_180 H locs hr_180 hP hk_180 hS => ?_)
              obtain ⟨hr_180, hs_180⟩ := hr_180
              subst hr_180
              subst hs_180
              have hP : va_P D vwCl (xw 20 α (xM α K) (xmy ρ M (xJM σ w) (i + 1))) H := by
                rw [show xmy ρ M (xJM σ w) (i + 1) = (xst_m1 (xmy ρ M (xJM σ w) i) (M + i) ((nI 48) + (xJM σ w i))) from rfl]; exact hP
              refine lv_istore_n (lv' := [(3, .int (nI ((M + i) + 1))), (4, .int (nI i)), (2, .int (nI z)), (0, .ref (α 0)), (1, .int (nI w))]) hx hb dX9_read_183 rfl hl (by decide) rfl (fun ls hl => ?_)
              refine lv_iinc (v := nI (i + 1)) (lv' := [(4, .int (nI (i + 1))), (3, .int (nI ((M + i) + 1))), (2, .int (nI z)), (0, .ref (α 0)), (1, .int (nI w))]) hx hb dX9_read_184 hl (k := 1) rfl (nI_add i 1) (by decide) rfl (fun ls hl => ?_)
              refine lv_goto (tgt := 157) hx hb dX9_read_187 (by decide) ?_
              exact ih_157 (i + 1) H locs ls ⟨(by omega), lv_sub hl [0, 2, 3, 4] rfl, hP, hS⟩ (by (try dsimp only); omega)
          · intro kc_153
            refine lv_aload_n hx hb dX9_read_113 rfl (lv_at hl 2 rfl) ?_
            refine x_get S (fun w h => List.mem_cons_of_mem _ (List.mem_append_right _ h)) hK hP 0 (by omega) rfl rfl 6 (by decide) (List.mem_of_getElem? (i := 4) rfl) rfl dX9_read_114 ?_
            refine x_top S (y := nI L) (hL) ?_
            refine x_ifN_le (tgt := 125) S dX9_read_117 (by decide) (by omega) (fun c_117 => ?_) (fun c_117 => ?_)
            · refine lv_bipush (v := nI 6) hx hb dX9_read_125 (by decide) ?_
              refine x_iaddN S dX9_read_127 ?_
              refine lv_bipush (v := nI 90) hx hb dX9_read_128 (by decide) ?_
              refine x_icmpN_le (tgt := 136) S dX9_read_130 (by decide) (by omega) (by omega) (fun c_130 => ?_) (fun c_130 => ?_)
              · refine lv_aload_n hx hb dX9_read_136 rfl (lv_at hl 2 rfl) ?_
                refine x_get S (fun w h => List.mem_cons_of_mem _ (List.mem_append_right _ h)) hK hP 0 (by omega) rfl rfl 6 (by decide) (List.mem_of_getElem? (i := 4) rfl) rfl dX9_read_137 ?_
                refine x_top S (y := nI L) (hL) ?_
                refine x_ifN_le (tgt := 152) S dX9_read_140 (by decide) (by omega) (fun c_140 => ?_) (fun c_140 => ?_)
                · refine lv_iconst (v := nI 0) hx hb dX9_read_152 (by decide) ?_
                  exact kc_153 (⟨σ, 0, nI 0⟩) _ _ ls ⟨Or.inl ⟨rfl, rfl, by omega⟩, (by omega), lv_sub hl [0, 1, 2, 3] rfl, hP, hS⟩
                · exact absurd c_140 (by omega)
              · refine lv_bipush (v := (-4)) hx hb dX9_read_133 (by decide) ?_
                exact x_iretW S hlocks hP hS hr rfl (⟨by rw [xp_read, if_pos (xin_nI (by omega) (by omega)), cN_nI (by omega), if_neg (not_not_intro (xVM_0 c_16)), if_pos hhold, if_neg (by omega)], by rw [xst_mread, hLe, if_pos (xin_nI (by omega) (by omega)), cN_nI (by omega), if_neg (not_not_intro (xVM_0 c_16)), if_neg (fun q => by have := q.2; omega)]⟩) dX9_read_135
            · refine lv_bipush (v := nI 7) hx hb dX9_read_120 (by decide) ?_
              refine lv_goto (tgt := 127) hx hb dX9_read_122 (by decide) ?_
              refine x_iaddN S dX9_read_127 ?_
              refine lv_bipush (v := nI 90) hx hb dX9_read_128 (by decide) ?_
              refine x_icmpN_le (tgt := 136) S dX9_read_130 (by decide) (by omega) (by omega) (fun c_130 => ?_) (fun c_130 => ?_)
              · refine lv_aload_n hx hb dX9_read_136 rfl (lv_at hl 2 rfl) ?_
                refine x_get S (fun w h => List.mem_cons_of_mem _ (List.mem_append_right _ h)) hK hP 0 (by omega) rfl rfl 6 (by decide) (List.mem_of_getElem? (i := 4) rfl) rfl dX9_read_137 ?_
                refine x_top S (y := nI L) (hL) ?_
                refine x_ifN_le (tgt := 152) S dX9_read_140 (by decide) (by omega) (fun c_140 => ?_) (fun c_140 => ?_)
                · exact absurd c_140 (by omega)
                · refine lv_aload_n hx hb dX9_read_143 rfl (lv_at hl 2 rfl) ?_
                  refine lv_bipush (v := nI 59) hx hb dX9_read_144 (by decide) ?_
                  refine x_cVWi (As := [.int (nI 59)]) (rest := []) S hK hP hS (fun _ h => h) 0 (by omega) rfl rfl (c_X9_typeOne l σ hI (nI 59) L  hL (by omega)) (x_cwV (n0 := 1) (cq := (RX9, TX9, 24)) S gX9_read_X9_typeOne rfl (by decide +kernel) ⟨Nat.le_of_ble_eq_true rfl, Nat.le_of_ble_eq_true rfl⟩) rfl hl.1 rfl (Nat.le_of_ble_eq_true rfl) dX9_read_146 ⟨Nat.le_refl _, Nat.le_refl _⟩ (fun r_146 τ_146 H locs hr_146 hP hk_146 hS => ?_)
                  obtain ⟨hr_146, hs_146⟩ := hr_146
                  subst hr_146
                  subst hs_146
                  refine lv_goto (tgt := 153) hx hb dX9_read_149 (by decide) ?_
                  exact kc_153 (⟨xst_m1 σ L (nI 59), L + 1, nI (L + 1)⟩) _ _ ls ⟨Or.inr ⟨rfl, rfl, by omega⟩, (by omega), lv_sub hl [0, 1, 2, 3] rfl, hP, hS⟩
              · refine lv_bipush (v := (-4)) hx hb dX9_read_133 (by decide) ?_
                exact x_iretW S hlocks hP hS hr rfl (⟨by rw [xp_read, if_pos (xin_nI (by omega) (by omega)), cN_nI (by omega), if_neg (not_not_intro (xVM_0 c_16)), if_pos hhold, if_neg (by omega)], by rw [xst_mread, hLe, if_pos (xin_nI (by omega) (by omega)), cN_nI (by omega), if_neg (not_not_intro (xVM_0 c_16)), if_neg (fun q => by have := q.2; omega)]⟩) dX9_read_135
        · refine lv_aload_n hx hb dX9_read_49 rfl (lv_at hl 2 rfl) ?_
          refine x_get S (fun w h => List.mem_cons_of_mem _ (List.mem_append_right _ h)) hK hP 0 (by omega) rfl rfl 21 (by decide) (List.mem_of_getElem? (i := 3) rfl) rfl dX9_read_50 ?_
          refine lv_bipush (v := nI 48) hx hb dX9_read_53 (by decide) ?_
          refine lv_iload_n hx hb dX9_read_55 rfl (lv_at hl 3 rfl) ?_
          refine x_imulN S dX9_read_56 ?_
          refine lv_iload_n hx hb dX9_read_57 rfl (lv_at hl 0 rfl) ?_
          refine x_iaddN S dX9_read_58 ?_
          refine x_iald S hK hP 18 (by omega) rfl (by first | assumption | omega) (by omega) dX9_read_59 ?_
          refine x_top S (y := xJM σ w i) (rfl) ?_
          refine x_cSi (As := [.int (xJM σ w i)]) (rest := []) S (c_X9_isSix l (xJM σ w i)  ) (x_cwS (n0 := 1) S gX9_read_X9_isSix rfl (by decide +kernel) ⟨Nat.le_of_ble_eq_true rfl, Nat.le_of_ble_eq_true rfl⟩) rfl hl.1 rfl (Nat.le_of_ble_eq_true rfl) dX9_read_60 ⟨Nat.le_refl _, Nat.le_refl _⟩ (fun r_60 hr_60 => ?_)
          subst hr_60
          refine x_if_eqB (tgt := 84) S dX9_read_63 (by decide) (fun c_63 => ?_) (fun c_63 => ?_)
          · refine lv_bipush (v := (-3)) hx hb dX9_read_84 (by decide) ?_
            exact x_iretW S hlocks hP hS hr rfl (by first | exact ⟨by rw [xp_read, if_pos (xin_nI (by omega) (by omega)), cN_nI (by omega), if_neg (not_not_intro (xVM_0 c_16)), if_neg (xhold_no (by omega) hz64 hpc hhm ej hj ((xis_I hz64 hj).mp c_81))], by rw [xst_mread, if_pos (xin_nI (by omega) (by omega)), cN_nI (by omega), if_neg (not_not_intro (xVM_0 c_16)), if_neg (fun q => (xhold_no (by omega) hz64 hpc hhm ej hj ((xis_I hz64 hj).mp c_81)) q.1)]⟩ | exact ⟨by rw [xp_read, if_pos (xin_nI (by omega) (by omega)), cN_nI (by omega), if_neg (not_not_intro (xVM_0 c_16)), if_neg (fun q => c_63 (xall_to q.2.1 i (by omega)))], by rw [xst_mread, if_pos (xin_nI (by omega) (by omega)), cN_nI (by omega), if_neg (not_not_intro (xVM_0 c_16)), if_neg (fun q => (fun q => c_63 (xall_to q.2.1 i (by omega))) q.1)]⟩) dX9_read_86
          · obtain ⟨j, hj, ej⟩ := xin_of c_63 (by omega)
            refine lv_iload_n hx hb dX9_read_66 rfl (lv_at hl 1 rfl) ?_
            refine lv_aload_n hx hb dX9_read_67 rfl (lv_at hl 2 rfl) ?_
            refine x_get S (fun w h => List.mem_cons_of_mem _ (List.mem_append_right _ h)) hK hP 0 (by omega) rfl rfl 21 (by decide) (List.mem_of_getElem? (i := 3) rfl) rfl dX9_read_68 ?_
            refine lv_bipush (v := nI 48) hx hb dX9_read_71 (by decide) ?_
            refine lv_iload_n hx hb dX9_read_73 rfl (lv_at hl 3 rfl) ?_
            refine x_imulN S dX9_read_74 ?_
            refine lv_iload_n hx hb dX9_read_75 rfl (lv_at hl 0 rfl) ?_
            refine x_iaddN S dX9_read_76 ?_
            refine x_iald S hK hP 18 (by omega) rfl (by first | assumption | omega) (by omega) dX9_read_77 ?_
            refine x_top S (y := nI j) (ej) ?_
            refine x_cSi (As := [.int (nI z), .int (nI j)]) (rest := []) S (c_X9_isIn l (nI z) (nI j)  ) (x_cwS (n0 := 2) S gX9_read_X9_isIn rfl (by decide +kernel) ⟨Nat.le_of_ble_eq_true rfl, Nat.le_of_ble_eq_true rfl⟩) rfl hl.1 rfl (Nat.le_of_ble_eq_true rfl) dX9_read_78 ⟨Nat.le_refl _, Nat.le_refl _⟩ (fun r_78 hr_78 => ?_)
            subst hr_78
            refine x_if_eqB (tgt := 87) S dX9_read_81 (by decide) (fun c_81 => ?_) (fun c_81 => ?_)
            · have hb81 : z.testBit j = false := Bool.eq_false_iff.mpr (fun q => c_81 ((xis_I hz64 hj).mpr q))
              refine lv_iload_n hx hb dX9_read_87 rfl (lv_at hl 1 rfl) ?_
              refine lv_iconst (v := nI 1) hx hb dX9_read_88 (by decide) ?_
              refine lv_aload_n hx hb dX9_read_89 rfl (lv_at hl 2 rfl) ?_
              refine x_get S (fun w h => List.mem_cons_of_mem _ (List.mem_append_right _ h)) hK hP 0 (by omega) rfl rfl 21 (by decide) (List.mem_of_getElem? (i := 3) rfl) rfl dX9_read_90 ?_
              refine lv_bipush (v := nI 48) hx hb dX9_read_93 (by decide) ?_
              refine lv_iload_n hx hb dX9_read_95 rfl (lv_at hl 3 rfl) ?_
              refine x_imulN S dX9_read_96 ?_
              refine lv_iload_n hx hb dX9_read_97 rfl (lv_at hl 0 rfl) ?_
              refine x_iaddN S dX9_read_98 ?_
              refine x_iald S hK hP 18 (by omega) rfl (by first | assumption | omega) (by omega) dX9_read_99 ?_
              refine x_top S (y := nI j) (ej) ?_
              refine lv_ishl hx hb dX9_read_100 ?_
              refine lv_ior hx hb dX9_read_101 ?_
              refine x_top S (y := nI (z ||| 2 ^ j)) (xor_I (by omega)) ?_
              refine lv_istore_n (lv' := [(2, .int (nI (z ||| 2 ^ j))), (3, .int (nI i)), (0, .ref (α 0)), (1, .int (nI w))]) hx hb dX9_read_102 rfl hl (by decide) rfl (fun ls hl => ?_)
              refine lv_iinc (v := nI (i + 1)) (lv' := [(3, .int (nI (i + 1))), (2, .int (nI (z ||| 2 ^ j))), (0, .ref (α 0)), (1, .int (nI w))]) hx hb dX9_read_103 hl (k := 1) rfl (nI_add i 1) (by decide) rfl (fun ls hl => ?_)
              refine lv_goto (tgt := 43) hx hb dX9_read_106 (by decide) ?_
              exact ih_43 (⟨i + 1, z ||| 2 ^ j⟩) H locs ls ⟨(by omega), xor64 hz64 hj, (by rw [(xpc_or hz64 hj hb81).1, hpc]), xhm_s hhm ej hj, lt_s hin c_63, lv_sub hl [0, 1, 2, 3] rfl, hP, hS⟩ (by (try dsimp only); omega)
            · refine lv_bipush (v := (-3)) hx hb dX9_read_84 (by decide) ?_
              exact x_iretW S hlocks hP hS hr rfl (by first | exact ⟨by rw [xp_read, if_pos (xin_nI (by omega) (by omega)), cN_nI (by omega), if_neg (not_not_intro (xVM_0 c_16)), if_neg (xhold_no (by omega) hz64 hpc hhm ej hj ((xis_I hz64 hj).mp c_81))], by rw [xst_mread, if_pos (xin_nI (by omega) (by omega)), cN_nI (by omega), if_neg (not_not_intro (xVM_0 c_16)), if_neg (fun q => (xhold_no (by omega) hz64 hpc hhm ej hj ((xis_I hz64 hj).mp c_81)) q.1)]⟩ | exact ⟨by rw [xp_read, if_pos (xin_nI (by omega) (by omega)), cN_nI (by omega), if_neg (not_not_intro (xVM_0 c_16)), if_neg (fun q => c_63 (xall_to q.2.1 i (by omega)))], by rw [xst_mread, if_pos (xin_nI (by omega) (by omega)), cN_nI (by omega), if_neg (not_not_intro (xVM_0 c_16)), if_neg (fun q => (fun q => c_63 (xall_to q.2.1 i (by omega))) q.1)]⟩) dX9_read_86
      · refine lv_bipush (v := (-3)) hx hb dX9_read_36 (by decide) ?_
        exact x_iretW S hlocks hP hS hr rfl (⟨by rw [xp_read, if_pos (xin_nI (by omega) (by omega)), cN_nI (by omega), if_neg (not_not_intro (xVM_0 c_16)), if_neg (fun q => by have := q.1; omega)], by rw [xst_mread, if_pos (xin_nI (by omega) (by omega)), cN_nI (by omega), if_neg (not_not_intro (xVM_0 c_16)), if_neg (fun q => (fun q => by have := q.1; omega) q.1)]⟩) dX9_read_38
    · refine lv_aload_n hx hb dX9_read_19 rfl (lv_at hl 0 rfl) ?_
      refine lv_iconst (v := nI 1) hx hb dX9_read_20 (by decide) ?_
      refine x_cVWi (As := [.int (nI 1)]) (rest := []) S hK hP hS (fun _ h => h) 0 (by omega) rfl rfl (c_X9_meets l σ hI (nI 1)  ) (x_cwV (n0 := 1) (cq := (RX9, TX9, 24)) S gX9_read_X9_meets rfl (by decide +kernel) ⟨Nat.le_of_ble_eq_true rfl, Nat.le_of_ble_eq_true rfl⟩) rfl hl.1 rfl (Nat.le_of_ble_eq_true rfl) dX9_read_21 ⟨Nat.le_refl _, Nat.le_refl _⟩ (fun r_21 τ_21 H locs hr_21 hP hk_21 hS => ?_)
      obtain ⟨hr_21, hs_21⟩ := hr_21
      subst hr_21
      subst hs_21
      exact x_iretW S hlocks hP hS hr rfl (⟨by rw [xp_read, if_pos (xin_nI (by omega) (by omega)), cN_nI (by omega), if_pos (xVM_1 c_16)]; rfl, by rw [xst_mread, if_pos (xin_nI (by omega) (by omega)), cN_nI (by omega), if_pos (xVM_1 c_16)]⟩) dX9_read_24
  · refine lv_bipush (v := (-2)) hx hb dX9_read_7 (by decide) ?_
    exact x_iretW S hlocks hP hS hr rfl (⟨by rw [xp_read, if_neg c_4], by rw [xst_mread, if_neg c_4]⟩) dX9_read_9
set_option maxHeartbeats 4000000 in
set_option maxRecDepth 100000 in
theorem c_X9_copy (l : Launch) {D : va_G} {K : Nat → ClassId} {α : Nat → Nat} (σ : Nat → Nat → Int32) (hI : xw_I 20 α) (x0 : Int32) (x1 : Int32) (x2 : Int32) (x3 : Int32) (x4 : Int32)  (hC : xIM σ) : Met l yX9_copy wsX9_copy (xrm 2) (va_Pc [.ref (α 0), .int x0, .int x1, .int x2, .int x3, .int x4] (xPre D K 20 α (xM α K) σ)) (xQi D 20 α (xM α K) (fun r τ => r = xp_copy (xVM σ) x0 x1 x2 x3 x4 ∧ xMs (xst_mcopy σ x0 x1 x2 x3 x4) τ)) 0 0 (xw_R 20 α) := by
  refine Met.ofW (cc := cX9_copy) (maxL := 7) (ret := (some .int)) (by decide) rfl ?_
  intro p e s m args below meth c s₁ B hml hv
  obtain ⟨rfl, hK, hP⟩ := hv
  have S : CallFix p m c cX9_copy 7 s _ wsX9_copy RX9 := ⟨B.exec, B.bytes, hml, findClass_of_methodNamed B.named, atoms_spec (ws := wsX9_copy) B.pre⟩
  have hx := S.1
  have hb := S.2.1
  have hr := B.returns
  have hlocks := B.notSynchronized
  have hS : va_S (xw_R 20 α) s.heap s.heap [] := va_S.rf
  have hl := lv_entry ([.ref (α 0), .int x0, .int x1, .int x2, .int x3, .int x4]) (n := 7) (Nat.le_of_ble_eq_true rfl)
  rw [lg_entry_eq]
  generalize (lg_sl ([.ref (α 0), .int x0, .int x1, .int x2, .int x3, .int x4]) ++ List.replicate (7 - (lg_sl ([.ref (α 0), .int x0, .int x1, .int x2, .int x3, .int x4])).length) Slot.unset).toArray = ls at hl ⊢
  have hl : lv_has ls 7 [(0, .ref (α 0)), (1, .int x0), (2, .int x1), (3, .int x2), (4, .int x3), (5, .int x4)] := hl
  have hPP := hP
  have hY := xIM_Y hC
  have hY12 := xIM_12 hC
  obtain ⟨⟨hL, hL9⟩, ⟨hcs, hcn, hc1, hc2⟩, ⟨hss, hsn, hs1, hs2⟩, hfe, hsh⟩ := id hC
  generalize hLe : xLM σ = L at hL hL9 ⊢
  generalize hYe : xYM σ = Y at hY hY12 ⊢
  generalize hcne : xcM σ = cn at hcs hcn hc1 hc2 ⊢
  generalize hsne : xsM σ = sn at hss hsn hs1 hs2 ⊢
  refine lv_iload_n hx hb dX9_copy_0 rfl (lv_at hl 1 rfl) ?_
  refine x_cSi (As := [.int x0]) (rest := []) S (c_X9_isSheet l x0  ) (x_cwS (n0 := 1) S gX9_copy_X9_isSheet rfl (by decide +kernel) ⟨Nat.le_of_ble_eq_true rfl, Nat.le_of_ble_eq_true rfl⟩) rfl hl.1 rfl (Nat.le_of_ble_eq_true rfl) dX9_copy_1 ⟨Nat.le_refl _, Nat.le_refl _⟩ (fun r_1 hr_1 => ?_)
  subst hr_1
  refine x_if_eqB (tgt := 14) S dX9_copy_4 (by decide) (fun c_4 => ?_) (fun c_4 => ?_)
  · refine lv_bipush (v := (-2)) hx hb dX9_copy_14 (by decide) ?_
    exact x_iretW S hlocks hP hS hr rfl (by first | exact ⟨by rw [xp_copy, if_neg (fun q => c_4 q.1)], by rw [xst_mcopy, if_neg (fun q => c_4 q.1)]; exact xMs_rf _⟩ | exact ⟨by rw [xp_copy, if_neg (fun q => c_11 q.2)], by rw [xst_mcopy, if_neg (fun q => c_11 q.2)]; exact xMs_rf _⟩) dX9_copy_16
  · refine lv_iload_n hx hb dX9_copy_7 rfl (lv_at hl 3 rfl) ?_
    refine x_cSi (As := [.int x2]) (rest := []) S (c_X9_isSheet l x2  ) (x_cwS (n0 := 1) S gX9_copy_X9_isSheet rfl (by decide +kernel) ⟨Nat.le_of_ble_eq_true rfl, Nat.le_of_ble_eq_true rfl⟩) rfl hl.1 rfl (Nat.le_of_ble_eq_true rfl) dX9_copy_8 ⟨Nat.le_refl _, Nat.le_refl _⟩ (fun r_8 hr_8 => ?_)
    subst hr_8
    refine x_if_neB (tgt := 17) S dX9_copy_11 (by decide) (fun c_11 => ?_) (fun c_11 => ?_)
    · obtain ⟨w, hw, rfl⟩ := xin_of c_4 (by omega)
      obtain ⟨v, hv, rfl⟩ := xin_of c_11 (by omega)
      have hzw := hsh w (by omega)
      have hzv := hsh v (by omega)
      have hw48 := hzw.2.2.1
      have hv48 := hzv.2.2.1
      refine lv_aload_n hx hb dX9_copy_17 rfl (lv_at hl 0 rfl) ?_
      refine x_get S (fun w h => List.mem_cons_of_mem _ (List.mem_append_right _ h)) hK hP 0 (by omega) rfl rfl 18 (by decide) (List.mem_of_getElem? (i := 1) rfl) rfl dX9_copy_18 ?_
      refine lv_iload_n hx hb dX9_copy_21 rfl (lv_at hl 1 rfl) ?_
      refine x_zald S hK hP 15 (by omega) rfl (by first | assumption | omega) (by omega) dX9_copy_22 ?_
      refine lv_if_eq (tgt := 35) hx hb dX9_copy_23 (by decide) (fun c_23 => ?_) (fun c_23 => ?_)
      · refine lv_aload_n hx hb dX9_copy_35 rfl (lv_at hl 0 rfl) ?_
        refine lv_iconst (v := nI 1) hx hb dX9_copy_36 (by decide) ?_
        refine x_cVWi (As := [.int (nI 1)]) (rest := []) S hK hP hS (fun _ h => h) 0 (by omega) rfl rfl (c_X9_meets l σ hI (nI 1)  ) (x_cwV (n0 := 1) (cq := (RX9, TX9, 24)) S gX9_copy_X9_meets rfl (by decide +kernel) ⟨Nat.le_of_ble_eq_true rfl, Nat.le_of_ble_eq_true rfl⟩) rfl hl.1 rfl (Nat.le_of_ble_eq_true rfl) dX9_copy_37 ⟨Nat.le_refl _, Nat.le_refl _⟩ (fun r_37 τ_37 H locs hr_37 hP hk_37 hS => ?_)
        obtain ⟨hr_37, hs_37⟩ := hr_37
        subst hr_37
        subst hs_37
        have e8 : xcpf (xVM σ) (nI w) x1 (nI v) x3 x4 = nI 1 := by
          unfold xcpf
          rw [cN_nI (n := w) (by omega), cN_nI (n := v) (by omega)]
          first | rw [if_pos (Or.inl (xVM_1 c_23))] | rw [if_pos (Or.inr (xVM_1 c_32))]
        exact x_iretW S hlocks hP hS hr rfl (⟨by rw [xp_copy, if_pos ⟨xin_nI (by omega) (by omega), xin_nI (by omega) (by omega)⟩, e8, if_neg (by decide)], by rw [xst_mcopy, if_pos ⟨xin_nI (by omega) (by omega), xin_nI (by omega) (by omega)⟩, e8, if_neg (by decide)]; exact xMs_rf _⟩) dX9_copy_40
      · refine lv_aload_n hx hb dX9_copy_26 rfl (lv_at hl 0 rfl) ?_
        refine x_get S (fun w h => List.mem_cons_of_mem _ (List.mem_append_right _ h)) hK hP 0 (by omega) rfl rfl 18 (by decide) (List.mem_of_getElem? (i := 1) rfl) rfl dX9_copy_27 ?_
        refine lv_iload_n hx hb dX9_copy_30 rfl (lv_at hl 3 rfl) ?_
        refine x_zald S hK hP 15 (by omega) rfl (by first | assumption | omega) (by omega) dX9_copy_31 ?_
        refine lv_if_ne (tgt := 41) hx hb dX9_copy_32 (by decide) (fun c_32 => ?_) (fun c_32 => ?_)
        · refine lv_aload_n hx hb dX9_copy_41 rfl (lv_at hl 0 rfl) ?_
          refine x_get S (fun w h => List.mem_cons_of_mem _ (List.mem_append_right _ h)) hK hP 0 (by omega) rfl rfl 19 (by decide) (List.mem_of_getElem? (i := 2) rfl) rfl dX9_copy_42 ?_
          refine lv_iload_n hx hb dX9_copy_45 rfl (lv_at hl 1 rfl) ?_
          refine x_iald S hK hP 16 (by omega) rfl (by first | assumption | omega) (by omega) dX9_copy_46 ?_
          refine lv_aload_n hx hb dX9_copy_47 rfl (lv_at hl 0 rfl) ?_
          refine x_get S (fun w h => List.mem_cons_of_mem _ (List.mem_append_right _ h)) hK hP 0 (by omega) rfl rfl 19 (by decide) (List.mem_of_getElem? (i := 2) rfl) rfl dX9_copy_48 ?_
          refine lv_iload_n hx hb dX9_copy_51 rfl (lv_at hl 3 rfl) ?_
          refine x_iald S hK hP 16 (by omega) rfl (by first | assumption | omega) (by omega) dX9_copy_52 ?_
          refine lv_icmp_eq (tgt := 62) hx hb dX9_copy_53 (by decide) (fun c_53 => ?_) (fun c_53 => ?_)
          · have c_53 : xVM σ w 2 = xVM σ v 2 := c_53
            refine lv_iload_n hx hb dX9_copy_62 rfl (lv_at hl 2 rfl) ?_
            refine lv_if_lt (tgt := 111) hx hb dX9_copy_63 (by decide) (fun c_63 => ?_) (fun c_63 => ?_)
            · refine lv_aload_n hx hb dX9_copy_111 rfl (lv_at hl 0 rfl) ?_
              refine lv_iconst (v := nI 2) hx hb dX9_copy_112 (by decide) ?_
              refine x_cVWi (As := [.int (nI 2)]) (rest := []) S hK hP hS (fun _ h => h) 0 (by omega) rfl rfl (c_X9_meets l σ hI (nI 2)  ) (x_cwV (n0 := 1) (cq := (RX9, TX9, 24)) S gX9_copy_X9_meets rfl (by decide +kernel) ⟨Nat.le_of_ble_eq_true rfl, Nat.le_of_ble_eq_true rfl⟩) rfl hl.1 rfl (Nat.le_of_ble_eq_true rfl) dX9_copy_113 ⟨Nat.le_refl _, Nat.le_refl _⟩ (fun r_113 τ_113 H locs hr_113 hP hk_113 hS => ?_)
              obtain ⟨hr_113, hs_113⟩ := hr_113
              subst hr_113
              subst hs_113
              have e8 : xcpf (xVM σ) (nI w) x1 (nI v) x3 x4 = nI 2 := by
                unfold xcpf
                rw [cN_nI (n := w) (by omega), cN_nI (n := v) (by omega)]
                rw [if_neg (fun q => by rcases q with q | q; exact q (xVM_0 c_23); exact q (xVM_0 c_32)), if_neg (not_not_intro c_53)]
                first | rw [if_neg (fun q => c_90 q.1)] | rw [if_neg (fun q => c_108 q.2)] | rw [if_neg (fun q => xnlt q.1.1 c_63)] | rw [if_neg (fun q => xnlt q.2.1 c_68)] | rw [if_neg (fun q => xnlt q.1.2.1 c_73)]
              exact x_iretW S hlocks hP hS hr rfl (⟨by rw [xp_copy, if_pos ⟨xin_nI (by omega) (by omega), xin_nI (by omega) (by omega)⟩, e8, if_neg (by decide)], by rw [xst_mcopy, if_pos ⟨xin_nI (by omega) (by omega), xin_nI (by omega) (by omega)⟩, e8, if_neg (by decide)]; exact xMs_rf _⟩) dX9_copy_116
            · refine lv_iload hx hb dX9_copy_66 (lv_at hl 4 rfl) ?_
              refine lv_if_lt (tgt := 111) hx hb dX9_copy_68 (by decide) (fun c_68 => ?_) (fun c_68 => ?_)
              · refine lv_aload_n hx hb dX9_copy_111 rfl (lv_at hl 0 rfl) ?_
                refine lv_iconst (v := nI 2) hx hb dX9_copy_112 (by decide) ?_
                refine x_cVWi (As := [.int (nI 2)]) (rest := []) S hK hP hS (fun _ h => h) 0 (by omega) rfl rfl (c_X9_meets l σ hI (nI 2)  ) (x_cwV (n0 := 1) (cq := (RX9, TX9, 24)) S gX9_copy_X9_meets rfl (by decide +kernel) ⟨Nat.le_of_ble_eq_true rfl, Nat.le_of_ble_eq_true rfl⟩) rfl hl.1 rfl (Nat.le_of_ble_eq_true rfl) dX9_copy_113 ⟨Nat.le_refl _, Nat.le_refl _⟩ (fun r_113 τ_113 H locs hr_113 hP hk_113 hS => ?_)
                obtain ⟨hr_113, hs_113⟩ := hr_113
                subst hr_113
                subst hs_113
                have e8 : xcpf (xVM σ) (nI w) x1 (nI v) x3 x4 = nI 2 := by
                  unfold xcpf
                  rw [cN_nI (n := w) (by omega), cN_nI (n := v) (by omega)]
                  rw [if_neg (fun q => by rcases q with q | q; exact q (xVM_0 c_23); exact q (xVM_0 c_32)), if_neg (not_not_intro c_53)]
                  first | rw [if_neg (fun q => c_90 q.1)] | rw [if_neg (fun q => c_108 q.2)] | rw [if_neg (fun q => xnlt q.1.1 c_63)] | rw [if_neg (fun q => xnlt q.2.1 c_68)] | rw [if_neg (fun q => xnlt q.1.2.1 c_73)]
                exact x_iretW S hlocks hP hS hr rfl (⟨by rw [xp_copy, if_pos ⟨xin_nI (by omega) (by omega), xin_nI (by omega) (by omega)⟩, e8, if_neg (by decide)], by rw [xst_mcopy, if_pos ⟨xin_nI (by omega) (by omega), xin_nI (by omega) (by omega)⟩, e8, if_neg (by decide)]; exact xMs_rf _⟩) dX9_copy_116
              · refine lv_iload hx hb dX9_copy_71 (lv_at hl 5 rfl) ?_
                refine lv_if_lt (tgt := 111) hx hb dX9_copy_73 (by decide) (fun c_73 => ?_) (fun c_73 => ?_)
                · refine lv_aload_n hx hb dX9_copy_111 rfl (lv_at hl 0 rfl) ?_
                  refine lv_iconst (v := nI 2) hx hb dX9_copy_112 (by decide) ?_
                  refine x_cVWi (As := [.int (nI 2)]) (rest := []) S hK hP hS (fun _ h => h) 0 (by omega) rfl rfl (c_X9_meets l σ hI (nI 2)  ) (x_cwV (n0 := 1) (cq := (RX9, TX9, 24)) S gX9_copy_X9_meets rfl (by decide +kernel) ⟨Nat.le_of_ble_eq_true rfl, Nat.le_of_ble_eq_true rfl⟩) rfl hl.1 rfl (Nat.le_of_ble_eq_true rfl) dX9_copy_113 ⟨Nat.le_refl _, Nat.le_refl _⟩ (fun r_113 τ_113 H locs hr_113 hP hk_113 hS => ?_)
                  obtain ⟨hr_113, hs_113⟩ := hr_113
                  subst hr_113
                  subst hs_113
                  have e8 : xcpf (xVM σ) (nI w) x1 (nI v) x3 x4 = nI 2 := by
                    unfold xcpf
                    rw [cN_nI (n := w) (by omega), cN_nI (n := v) (by omega)]
                    rw [if_neg (fun q => by rcases q with q | q; exact q (xVM_0 c_23); exact q (xVM_0 c_32)), if_neg (not_not_intro c_53)]
                    first | rw [if_neg (fun q => c_90 q.1)] | rw [if_neg (fun q => c_108 q.2)] | rw [if_neg (fun q => xnlt q.1.1 c_63)] | rw [if_neg (fun q => xnlt q.2.1 c_68)] | rw [if_neg (fun q => xnlt q.1.2.1 c_73)]
                  exact x_iretW S hlocks hP hS hr rfl (⟨by rw [xp_copy, if_pos ⟨xin_nI (by omega) (by omega), xin_nI (by omega) (by omega)⟩, e8, if_neg (by decide)], by rw [xst_mcopy, if_pos ⟨xin_nI (by omega) (by omega), xin_nI (by omega) (by omega)⟩, e8, if_neg (by decide)]; exact xMs_rf _⟩) dX9_copy_116
                · refine lv_iload_n hx hb dX9_copy_76 rfl (lv_at hl 2 rfl) ?_
                  refine lv_i2l hx hb dX9_copy_77 rfl ?_
                  refine lv_iload hx hb dX9_copy_78 (lv_at hl 5 rfl) ?_
                  refine lv_i2l hx hb dX9_copy_80 rfl ?_
                  refine lv_ladd hx hb dX9_copy_81 ?_
                  refine lv_aload_n hx hb dX9_copy_82 rfl (lv_at hl 0 rfl) ?_
                  refine x_get S (fun w h => List.mem_cons_of_mem _ (List.mem_append_right _ h)) hK hP 0 (by omega) rfl rfl 20 (by decide) (List.mem_of_getElem? (i := 3) rfl) rfl dX9_copy_83 ?_
                  refine lv_iload_n hx hb dX9_copy_86 rfl (lv_at hl 1 rfl) ?_
                  refine x_iald S hK hP 17 (by omega) rfl (by first | assumption | omega) (by omega) dX9_copy_87 ?_
                  refine lv_i2l hx hb dX9_copy_88 rfl ?_
                  refine W.lcmp hx hb dX9_copy_89 ?_
                  refine lv_if_gt (tgt := 111) hx hb dX9_copy_90 (by decide) (fun c_90 => ?_) (fun c_90 => ?_)
                  · have c_90 : ¬ xrg (xVM σ w) x1 x4 := fun q => absurd ((xrg_l (v := xVM σ w) hzw.2.2.2 hw48 c_63 c_73).mpr q) (Int64.not_le.mpr ((lg_cmp_gt _ _).mp c_90))
                    refine lv_aload_n hx hb dX9_copy_111 rfl (lv_at hl 0 rfl) ?_
                    refine lv_iconst (v := nI 2) hx hb dX9_copy_112 (by decide) ?_
                    refine x_cVWi (As := [.int (nI 2)]) (rest := []) S hK hP hS (fun _ h => h) 0 (by omega) rfl rfl (c_X9_meets l σ hI (nI 2)  ) (x_cwV (n0 := 1) (cq := (RX9, TX9, 24)) S gX9_copy_X9_meets rfl (by decide +kernel) ⟨Nat.le_of_ble_eq_true rfl, Nat.le_of_ble_eq_true rfl⟩) rfl hl.1 rfl (Nat.le_of_ble_eq_true rfl) dX9_copy_113 ⟨Nat.le_refl _, Nat.le_refl _⟩ (fun r_113 τ_113 H locs hr_113 hP hk_113 hS => ?_)
                    obtain ⟨hr_113, hs_113⟩ := hr_113
                    subst hr_113
                    subst hs_113
                    have e8 : xcpf (xVM σ) (nI w) x1 (nI v) x3 x4 = nI 2 := by
                      unfold xcpf
                      rw [cN_nI (n := w) (by omega), cN_nI (n := v) (by omega)]
                      rw [if_neg (fun q => by rcases q with q | q; exact q (xVM_0 c_23); exact q (xVM_0 c_32)), if_neg (not_not_intro c_53)]
                      first | rw [if_neg (fun q => c_90 q.1)] | rw [if_neg (fun q => c_108 q.2)] | rw [if_neg (fun q => xnlt q.1.1 c_63)] | rw [if_neg (fun q => xnlt q.2.1 c_68)] | rw [if_neg (fun q => xnlt q.1.2.1 c_73)]
                    exact x_iretW S hlocks hP hS hr rfl (⟨by rw [xp_copy, if_pos ⟨xin_nI (by omega) (by omega), xin_nI (by omega) (by omega)⟩, e8, if_neg (by decide)], by rw [xst_mcopy, if_pos ⟨xin_nI (by omega) (by omega), xin_nI (by omega) (by omega)⟩, e8, if_neg (by decide)]; exact xMs_rf _⟩) dX9_copy_116
                  · have c_90 : xrg (xVM σ w) x1 x4 := (xrg_l (v := xVM σ w) hzw.2.2.2 hw48 c_63 c_73).mp (Int64.not_lt.mp (fun q => c_90 ((lg_cmp_gt _ _).mpr q)))
                    refine lv_iload hx hb dX9_copy_93 (lv_at hl 4 rfl) ?_
                    refine lv_i2l hx hb dX9_copy_95 rfl ?_
                    refine lv_iload hx hb dX9_copy_96 (lv_at hl 5 rfl) ?_
                    refine lv_i2l hx hb dX9_copy_98 rfl ?_
                    refine lv_ladd hx hb dX9_copy_99 ?_
                    refine lv_aload_n hx hb dX9_copy_100 rfl (lv_at hl 0 rfl) ?_
                    refine x_get S (fun w h => List.mem_cons_of_mem _ (List.mem_append_right _ h)) hK hP 0 (by omega) rfl rfl 20 (by decide) (List.mem_of_getElem? (i := 3) rfl) rfl dX9_copy_101 ?_
                    refine lv_iload_n hx hb dX9_copy_104 rfl (lv_at hl 3 rfl) ?_
                    refine x_iald S hK hP 17 (by omega) rfl (by first | assumption | omega) (by omega) dX9_copy_105 ?_
                    refine lv_i2l hx hb dX9_copy_106 rfl ?_
                    refine W.lcmp hx hb dX9_copy_107 ?_
                    refine lv_if_le (tgt := 117) hx hb dX9_copy_108 (by decide) (fun c_108 => ?_) (fun c_108 => ?_)
                    · have c_108 : xrg (xVM σ v) x3 x4 := (xrg_l (v := xVM σ v) hzv.2.2.2 hv48 c_68 c_73).mp ((lg_cmp_le _ _).mp c_108)
                      have e8 : xcpf (xVM σ) (nI w) x1 (nI v) x3 x4 = nI 0 := by
                        unfold xcpf
                        rw [cN_nI (n := w) (by omega), cN_nI (n := v) (by omega)]
                        rw [if_neg (fun q => by rcases q with q | q; exact q (xVM_0 c_23); exact q (xVM_0 c_32)), if_neg (not_not_intro c_53), if_pos ⟨c_90, c_108⟩]
                      obtain ⟨i, k, rfl, rfl, hik⟩ := xrg_nat c_90 hzw.2.2.2 hw48
                      obtain ⟨j, k2, rfl, ek, hjk⟩ := xrg_nat c_108 hzv.2.2.2 hv48
                      have ek2 : k2 < 2 ^ 31 := by omega
                      rw [nI_eq (by omega) ek2] at ek
                      subst ek
                      refine lv_iconst (v := nI 0) hx hb dX9_copy_117 (by decide) ?_
                      refine lv_istore (lv' := [(6, .int (nI 0)), (0, .ref (α 0)), (1, .int (nI w)), (2, .int (nI i)), (3, .int (nI v)), (4, .int (nI j)), (5, .int (nI k))]) hx hb dX9_copy_118 hl (by decide) rfl (fun ls hl => ?_)
                      refine x_loopW (ι := Nat) (fun n9 H locs ls => (n9 ≤ k) ∧ lv_has ls 7 [(6, .int (nI n9)), (0, .ref (α 0)), (1, .int (nI w)), (2, .int (nI i)), (3, .int (nI v)), (4, .int (nI j)), (5, .int (nI k))] ∧ va_P D vwCl (xw 20 α (xM α K) (va_up σ 19 (fa_fill (fun k9 => σ 18 (48 * w + i + k9)) (σ 19) n9))) H ∧ va_S (xw_R 20 α) s.heap H locs) (fun n9 => k - n9) ?_ 0 ls ⟨Nat.zero_le _, lv_sub hl [0, 1, 2, 3, 4, 5, 6] rfl, (by rw [fa_fill_0, xup_id]; exact hP), hS⟩
                      intro n9 H locs ls hinv ih_120
                      obtain ⟨hn9, hl, hP, hS⟩ := hinv
                      have hl : lv_has ls 7 [(6, .int (nI n9)), (0, .ref (α 0)), (1, .int (nI w)), (2, .int (nI i)), (3, .int (nI v)), (4, .int (nI j)), (5, .int (nI k))] := hl
                      have hP : va_P D vwCl (xw 20 α (xM α K) (va_up σ 19 (fa_fill (fun k9 => σ 18 (48 * w + i + k9)) (σ 19) n9))) H := hP
                      refine lv_iload hx hb dX9_copy_120 (lv_at hl 0 rfl) ?_
                      refine lv_iload hx hb dX9_copy_122 (lv_at hl 6 rfl) ?_
                      refine x_icmpN_ge (tgt := 154) S dX9_copy_124 (by decide) (by omega) (by omega) (fun c_124 => ?_) (fun c_124 => ?_)
                      · have e9 : n9 = k := by omega
                        rw [e9] at hP hl
                        refine lv_iconst (v := nI 0) hx hb dX9_copy_154 (by decide) ?_
                        refine lv_istore (lv' := [(6, .int (nI 0)), (0, .ref (α 0)), (1, .int (nI w)), (2, .int (nI i)), (3, .int (nI v)), (4, .int (nI j)), (5, .int (nI k))]) hx hb dX9_copy_155 hl (by decide) rfl (fun ls hl => ?_)
                        refine x_loopW (ι := Nat) (fun n8 H locs ls => (n8 ≤ k) ∧ lv_has ls 7 [(6, .int (nI n8)), (0, .ref (α 0)), (1, .int (nI w)), (2, .int (nI i)), (3, .int (nI v)), (4, .int (nI j)), (5, .int (nI k))] ∧ va_P D vwCl (xw 20 α (xM α K) (va_up (va_up σ 19 (fa_fill (fun k9 => σ 18 (48 * w + i + k9)) (σ 19) k)) 18 (xfl (σ 18) (fun k9 => σ 18 (48 * w + i + k9)) (48 * v + j) n8))) H ∧ va_S (xw_R 20 α) s.heap H locs) (fun n8 => k - n8) ?_ 0 ls ⟨Nat.zero_le _, lv_sub hl [0, 1, 2, 3, 4, 5, 6] rfl, (by rw [xfl_0, xup_e (show (va_up σ 19 (fa_fill (fun k9 => σ 18 (48 * w + i + k9)) (σ 19) k)) 18 = σ 18 from xup_n _ _ (by decide))]; exact hP), hS⟩
                        intro n8 H locs ls hinv ih_157
                        obtain ⟨hn8, hl, hP, hS⟩ := hinv
                        have hl : lv_has ls 7 [(6, .int (nI n8)), (0, .ref (α 0)), (1, .int (nI w)), (2, .int (nI i)), (3, .int (nI v)), (4, .int (nI j)), (5, .int (nI k))] := hl
                        have hP : va_P D vwCl (xw 20 α (xM α K) (va_up (va_up σ 19 (fa_fill (fun k9 => σ 18 (48 * w + i + k9)) (σ 19) k)) 18 (xfl (σ 18) (fun k9 => σ 18 (48 * w + i + k9)) (48 * v + j) n8))) H := hP
                        refine lv_iload hx hb dX9_copy_157 (lv_at hl 0 rfl) ?_
                        refine lv_iload hx hb dX9_copy_159 (lv_at hl 6 rfl) ?_
                        refine x_icmpN_ge (tgt := 192) S dX9_copy_161 (by decide) (by omega) (by omega) (fun c_161 => ?_) (fun c_161 => ?_)
                        · have e7 : n8 = k := by omega
                          rw [e7] at hP
                          refine lv_iconst (v := nI 1) hx hb dX9_copy_192 (by decide) ?_
                          exact x_iretW S hlocks hP hS hr rfl (⟨by rw [xp_copy, if_pos ⟨xin_nI (by omega) (by omega), xin_nI (by omega) (by omega)⟩, e8]; rfl, by rw [xst_mcopy, if_pos ⟨xin_nI (by omega) (by omega), xin_nI (by omega) (by omega)⟩, e8, if_pos (by decide), cN_nI (n := w) (by omega), cN_nI (n := v) (by omega), cN_nI (n := i) (by omega), cN_nI (n := j) (by omega), cN_nI (n := k) (by omega)]; exact xMs_up xMs_19 (by decide) _⟩) dX9_copy_193
                        · refine lv_aload_n hx hb dX9_copy_164 rfl (lv_at hl 1 rfl) ?_
                          refine x_get S (fun w h => List.mem_cons_of_mem _ (List.mem_append_right _ h)) hK hP 0 (by omega) rfl rfl 21 (by decide) (List.mem_of_getElem? (i := 5) rfl) rfl dX9_copy_165 ?_
                          refine lv_bipush (v := nI 48) hx hb dX9_copy_168 (by decide) ?_
                          refine lv_iload_n hx hb dX9_copy_170 rfl (lv_at hl 4 rfl) ?_
                          refine x_imulN S dX9_copy_171 ?_
                          refine lv_iload hx hb dX9_copy_172 (lv_at hl 5 rfl) ?_
                          refine x_iaddN S dX9_copy_174 ?_
                          refine lv_iload hx hb dX9_copy_175 (lv_at hl 0 rfl) ?_
                          refine x_iaddN S dX9_copy_177 ?_
                          refine lv_aload_n hx hb dX9_copy_178 rfl (lv_at hl 1 rfl) ?_
                          refine x_get S (fun w h => List.mem_cons_of_mem _ (List.mem_append_right _ h)) hK hP 0 (by omega) rfl rfl 22 (by decide) (List.mem_of_getElem? (i := 4) rfl) rfl dX9_copy_179 ?_
                          refine lv_iload hx hb dX9_copy_182 (lv_at hl 0 rfl) ?_
                          refine x_iald S hK hP 19 (by omega) rfl (by first | assumption | omega) (by omega) dX9_copy_184 ?_
                          refine x_top S (y := σ 18 (48 * w + i + n8)) (by rw [xup_n _ _ (by decide), xup_s, fa_fill_in (by omega)]) ?_
                          refine x_iast S hK hP hI hS 18 (by omega) (fun _ => rfl) (by first | assumption | omega) (by omega) dX9_copy_185 (fun H locs hP hS => ?_)
                          have hP : va_P D vwCl (xw 20 α (xM α K) (va_up (va_up σ 19 (fa_fill (fun k9 => σ 18 (48 * w + i + k9)) (σ 19) k)) 18 (xfl (σ 18) (fun k9 => σ 18 (48 * w + i + k9)) (48 * v + j) (n8 + 1)))) H := by
                            rw [show va_up (va_up σ 19 (fa_fill (fun k9 => σ 18 (48 * w + i + k9)) (σ 19) k)) 18 (xfl (σ 18) (fun k9 => σ 18 (48 * w + i + k9)) (48 * v + j) (n8 + 1)) = (va_up (va_up (va_up σ 19 (fa_fill (fun k9 => σ 18 (48 * w + i + k9)) (σ 19) k)) 18 (xfl (σ 18) (fun k9 => σ 18 (48 * w + i + k9)) (48 * v + j) n8)) 18 (upd ((va_up (va_up σ 19 (fa_fill (fun k9 => σ 18 (48 * w + i + k9)) (σ 19) k)) 18 (xfl (σ 18) (fun k9 => σ 18 (48 * w + i + k9)) (48 * v + j) n8)) 18) (((48 * v) + j) + n8) (σ 18 (48 * w + i + n8)))) from by rw [bx_uu, xup_s, ← xfl_s]]; exact hP
                          refine lv_iinc (v := nI (n8 + 1)) (lv' := [(6, .int (nI (n8 + 1))), (0, .ref (α 0)), (1, .int (nI w)), (2, .int (nI i)), (3, .int (nI v)), (4, .int (nI j)), (5, .int (nI k))]) hx hb dX9_copy_186 hl (k := 0) rfl (nI_add n8 1) (by decide) rfl (fun ls hl => ?_)
                          refine lv_goto (tgt := 157) hx hb dX9_copy_189 (by decide) ?_
                          exact ih_157 (n8 + 1) H locs ls ⟨(by omega), lv_sub hl [0, 1, 2, 3, 4, 5, 6] rfl, hP, hS⟩ (by (try dsimp only); omega)
                      · refine lv_aload_n hx hb dX9_copy_127 rfl (lv_at hl 1 rfl) ?_
                        refine x_get S (fun w h => List.mem_cons_of_mem _ (List.mem_append_right _ h)) hK hP 0 (by omega) rfl rfl 22 (by decide) (List.mem_of_getElem? (i := 4) rfl) rfl dX9_copy_128 ?_
                        refine lv_iload hx hb dX9_copy_131 (lv_at hl 0 rfl) ?_
                        refine lv_aload_n hx hb dX9_copy_133 rfl (lv_at hl 1 rfl) ?_
                        refine x_get S (fun w h => List.mem_cons_of_mem _ (List.mem_append_right _ h)) hK hP 0 (by omega) rfl rfl 21 (by decide) (List.mem_of_getElem? (i := 5) rfl) rfl dX9_copy_134 ?_
                        refine lv_bipush (v := nI 48) hx hb dX9_copy_137 (by decide) ?_
                        refine lv_iload_n hx hb dX9_copy_139 rfl (lv_at hl 2 rfl) ?_
                        refine x_imulN S dX9_copy_140 ?_
                        refine lv_iload_n hx hb dX9_copy_141 rfl (lv_at hl 3 rfl) ?_
                        refine x_iaddN S dX9_copy_142 ?_
                        refine lv_iload hx hb dX9_copy_143 (lv_at hl 0 rfl) ?_
                        refine x_iaddN S dX9_copy_145 ?_
                        refine x_iald S hK hP 18 (by omega) rfl (by first | assumption | omega) (by omega) dX9_copy_146 ?_
                        refine x_top S (y := σ 18 (48 * w + i + n9)) (by rw [xup_n _ _ (by decide)]) ?_
                        refine x_iast S hK hP hI hS 19 (by omega) (fun _ => rfl) (by first | assumption | omega) (by omega) dX9_copy_147 (fun H locs hP hS => ?_)
                        have hP : va_P D vwCl (xw 20 α (xM α K) (va_up σ 19 (fa_fill (fun k9 => σ 18 (48 * w + i + k9)) (σ 19) (n9 + 1)))) H := by
                          rw [show va_up σ 19 (fa_fill (fun k9 => σ 18 (48 * w + i + k9)) (σ 19) (n9 + 1)) = (va_up (va_up σ 19 (fa_fill (fun k9 => σ 18 (48 * w + i + k9)) (σ 19) n9)) 19 (upd ((va_up σ 19 (fa_fill (fun k9 => σ 18 (48 * w + i + k9)) (σ 19) n9)) 19) n9 (σ 18 (48 * w + i + n9)))) from by rw [bx_uu, xup_s, ← fa_fill_succ]]; exact hP
                        refine lv_iinc (v := nI (n9 + 1)) (lv' := [(6, .int (nI (n9 + 1))), (0, .ref (α 0)), (1, .int (nI w)), (2, .int (nI i)), (3, .int (nI v)), (4, .int (nI j)), (5, .int (nI k))]) hx hb dX9_copy_148 hl (k := 0) rfl (nI_add n9 1) (by decide) rfl (fun ls hl => ?_)
                        refine lv_goto (tgt := 120) hx hb dX9_copy_151 (by decide) ?_
                        exact ih_120 (n9 + 1) H locs ls ⟨(by omega), lv_sub hl [0, 1, 2, 3, 4, 5, 6] rfl, hP, hS⟩ (by (try dsimp only); omega)
                    · have c_108 : ¬ xrg (xVM σ v) x3 x4 := fun q => c_108 ((lg_cmp_le _ _).mpr ((xrg_l (v := xVM σ v) hzv.2.2.2 hv48 c_68 c_73).mpr q))
                      refine lv_aload_n hx hb dX9_copy_111 rfl (lv_at hl 0 rfl) ?_
                      refine lv_iconst (v := nI 2) hx hb dX9_copy_112 (by decide) ?_
                      refine x_cVWi (As := [.int (nI 2)]) (rest := []) S hK hP hS (fun _ h => h) 0 (by omega) rfl rfl (c_X9_meets l σ hI (nI 2)  ) (x_cwV (n0 := 1) (cq := (RX9, TX9, 24)) S gX9_copy_X9_meets rfl (by decide +kernel) ⟨Nat.le_of_ble_eq_true rfl, Nat.le_of_ble_eq_true rfl⟩) rfl hl.1 rfl (Nat.le_of_ble_eq_true rfl) dX9_copy_113 ⟨Nat.le_refl _, Nat.le_refl _⟩ (fun r_113 τ_113 H locs hr_113 hP hk_113 hS => ?_)
                      obtain ⟨hr_113, hs_113⟩ := hr_113
                      subst hr_113
                      subst hs_113
                      have e8 : xcpf (xVM σ) (nI w) x1 (nI v) x3 x4 = nI 2 := by
                        unfold xcpf
                        rw [cN_nI (n := w) (by omega), cN_nI (n := v) (by omega)]
                        rw [if_neg (fun q => by rcases q with q | q; exact q (xVM_0 c_23); exact q (xVM_0 c_32)), if_neg (not_not_intro c_53)]
                        first | rw [if_neg (fun q => c_90 q.1)] | rw [if_neg (fun q => c_108 q.2)] | rw [if_neg (fun q => xnlt q.1.1 c_63)] | rw [if_neg (fun q => xnlt q.2.1 c_68)] | rw [if_neg (fun q => xnlt q.1.2.1 c_73)]
                      exact x_iretW S hlocks hP hS hr rfl (⟨by rw [xp_copy, if_pos ⟨xin_nI (by omega) (by omega), xin_nI (by omega) (by omega)⟩, e8, if_neg (by decide)], by rw [xst_mcopy, if_pos ⟨xin_nI (by omega) (by omega), xin_nI (by omega) (by omega)⟩, e8, if_neg (by decide)]; exact xMs_rf _⟩) dX9_copy_116
          · have c_53 : ¬ xVM σ w 2 = xVM σ v 2 := c_53
            refine lv_aload_n hx hb dX9_copy_56 rfl (lv_at hl 0 rfl) ?_
            refine lv_iconst (v := nI 4) hx hb dX9_copy_57 (by decide) ?_
            refine x_cVWi (As := [.int (nI 4)]) (rest := []) S hK hP hS (fun _ h => h) 0 (by omega) rfl rfl (c_X9_meets l σ hI (nI 4)  ) (x_cwV (n0 := 1) (cq := (RX9, TX9, 24)) S gX9_copy_X9_meets rfl (by decide +kernel) ⟨Nat.le_of_ble_eq_true rfl, Nat.le_of_ble_eq_true rfl⟩) rfl hl.1 rfl (Nat.le_of_ble_eq_true rfl) dX9_copy_58 ⟨Nat.le_refl _, Nat.le_refl _⟩ (fun r_58 τ_58 H locs hr_58 hP hk_58 hS => ?_)
            obtain ⟨hr_58, hs_58⟩ := hr_58
            subst hr_58
            subst hs_58
            have e8 : xcpf (xVM σ) (nI w) x1 (nI v) x3 x4 = nI 4 := by
              unfold xcpf
              rw [cN_nI (n := w) (by omega), cN_nI (n := v) (by omega)]
              rw [if_neg (fun q => by rcases q with q | q; exact q (xVM_0 c_23); exact q (xVM_0 c_32)), if_pos c_53]
            exact x_iretW S hlocks hP hS hr rfl (⟨by rw [xp_copy, if_pos ⟨xin_nI (by omega) (by omega), xin_nI (by omega) (by omega)⟩, e8, if_neg (by decide)], by rw [xst_mcopy, if_pos ⟨xin_nI (by omega) (by omega), xin_nI (by omega) (by omega)⟩, e8, if_neg (by decide)]; exact xMs_rf _⟩) dX9_copy_61
        · refine lv_aload_n hx hb dX9_copy_35 rfl (lv_at hl 0 rfl) ?_
          refine lv_iconst (v := nI 1) hx hb dX9_copy_36 (by decide) ?_
          refine x_cVWi (As := [.int (nI 1)]) (rest := []) S hK hP hS (fun _ h => h) 0 (by omega) rfl rfl (c_X9_meets l σ hI (nI 1)  ) (x_cwV (n0 := 1) (cq := (RX9, TX9, 24)) S gX9_copy_X9_meets rfl (by decide +kernel) ⟨Nat.le_of_ble_eq_true rfl, Nat.le_of_ble_eq_true rfl⟩) rfl hl.1 rfl (Nat.le_of_ble_eq_true rfl) dX9_copy_37 ⟨Nat.le_refl _, Nat.le_refl _⟩ (fun r_37 τ_37 H locs hr_37 hP hk_37 hS => ?_)
          obtain ⟨hr_37, hs_37⟩ := hr_37
          subst hr_37
          subst hs_37
          have e8 : xcpf (xVM σ) (nI w) x1 (nI v) x3 x4 = nI 1 := by
            unfold xcpf
            rw [cN_nI (n := w) (by omega), cN_nI (n := v) (by omega)]
            first | rw [if_pos (Or.inl (xVM_1 c_23))] | rw [if_pos (Or.inr (xVM_1 c_32))]
          exact x_iretW S hlocks hP hS hr rfl (⟨by rw [xp_copy, if_pos ⟨xin_nI (by omega) (by omega), xin_nI (by omega) (by omega)⟩, e8, if_neg (by decide)], by rw [xst_mcopy, if_pos ⟨xin_nI (by omega) (by omega), xin_nI (by omega) (by omega)⟩, e8, if_neg (by decide)]; exact xMs_rf _⟩) dX9_copy_40
    · refine lv_bipush (v := (-2)) hx hb dX9_copy_14 (by decide) ?_
      exact x_iretW S hlocks hP hS hr rfl (by first | exact ⟨by rw [xp_copy, if_neg (fun q => c_4 q.1)], by rw [xst_mcopy, if_neg (fun q => c_4 q.1)]; exact xMs_rf _⟩ | exact ⟨by rw [xp_copy, if_neg (fun q => c_11 q.2)], by rw [xst_mcopy, if_neg (fun q => c_11 q.2)]; exact xMs_rf _⟩) dX9_copy_16

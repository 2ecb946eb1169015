set_option maxHeartbeats 4000000 in
set_option maxRecDepth 100000 in
theorem c_X8_copy (l : Launch) {D : va_G} {K : Nat → ClassId} {α : Nat → Nat} (σ : Nat → Nat → Int32) (hI : xw_I 42 α) (x0 : Int32) (x1 : Int32) (x2 : Int32) (x3 : Int32) (x4 : Int32)  (hC : xIC σ) : Met l yX8_copy wsX8_copy (xrm 1) (va_Pc [.ref (α 0), .int x0, .int x1, .int x2, .int x3, .int x4] (xPre D K 42 α (xC α K) σ)) (xQi D 42 α (xC α K) (fun r τ => r = xp_copy (xVC σ) x0 x1 x2 x3 x4 ∧ τ = xst_copy σ x0 x1 x2 x3 x4)) 0 0 (xw_R 42 α) := by
  refine Met.ofW (cc := cX8_copy) (maxL := 8) (ret := (some .int)) (by decide) rfl ?_
  intro p e s m args below meth c s₁ B hml hv
  obtain ⟨rfl, hK, hP⟩ := hv
  have S : CallFix p m c cX8_copy 8 s _ wsX8_copy RX8 := ⟨B.exec, B.bytes, hml, findClass_of_methodNamed B.named, atoms_spec (ws := wsX8_copy) B.pre⟩
  have hx := S.1
  have hb := S.2.1
  have hr := B.returns
  have hlocks := B.notSynchronized
  have hS : va_S (xw_R 42 α) s.heap s.heap [] := va_S.rf
  have hl := lv_entry ([.ref (α 0), .int x0, .int x1, .int x2, .int x3, .int x4]) (n := 8) (Nat.le_of_ble_eq_true rfl)
  rw [lg_entry_eq]
  generalize (lg_sl ([.ref (α 0), .int x0, .int x1, .int x2, .int x3, .int x4]) ++ List.replicate (8 - (lg_sl ([.ref (α 0), .int x0, .int x1, .int x2, .int x3, .int x4])).length) Slot.unset).toArray = ls at hl ⊢
  have hl : lv_has ls 8 [(0, .ref (α 0)), (1, .int x0), (2, .int x1), (3, .int x2), (4, .int x3), (5, .int x4)] := hl
  have hPP := hP
  have hY := xIC_Y hC
  have hY12 := xIC_12 hC
  obtain ⟨⟨hL, hL9⟩, ⟨hF, hYr⟩, ⟨hcs, hcn, hc1, hc2⟩, ⟨hss, hsn, hs1, hs2⟩, hfe, hsh⟩ := hC
  generalize hLe : xLC σ = L at hL hL9 hF ⊢
  generalize hYe : xYC σ = Y at hY hY12 hYr ⊢
  generalize hcne : xcC σ = cn at hcs hcn hc1 hc2 ⊢
  generalize hsne : xsC σ = sn at hss hsn hs1 hs2 ⊢
  refine lv_iload_n hx hb dX8_copy_0 rfl (lv_at hl 1 rfl) ?_
  refine lv_iconst (v := nI 4) hx hb dX8_copy_1 (by decide) ?_
  refine x_cSi (As := [.int x0, .int (nI 4)]) (rest := []) S (c_X8_isBelow l x0 (nI 4)  ) (x_cwS (n0 := 2) S gX8_copy_X8_isBelow rfl (by decide +kernel) ⟨Nat.le_of_ble_eq_true rfl, Nat.le_of_ble_eq_true rfl⟩) rfl hl.1 rfl (Nat.le_of_ble_eq_true rfl) dX8_copy_2 ⟨Nat.le_refl _, Nat.le_refl _⟩ (fun r_2 hr_2 => ?_)
  subst hr_2
  refine x_if_eqB (tgt := 16) S dX8_copy_5 (by decide) (fun c_5 => ?_) (fun c_5 => ?_)
  · refine lv_bipush (v := (-2)) hx hb dX8_copy_16 (by decide) ?_
    exact x_iretW S hlocks hP hS hr rfl (by first | exact ⟨by rw [xp_copy, if_neg (fun q => c_5 q.1)], by rw [xst_copy, if_neg (fun q => c_5 q.1)]⟩ | exact ⟨by rw [xp_copy, if_neg (fun q => c_13 q.2)], by rw [xst_copy, if_neg (fun q => c_13 q.2)]⟩) dX8_copy_18
  · refine lv_iload_n hx hb dX8_copy_8 rfl (lv_at hl 3 rfl) ?_
    refine lv_iconst (v := nI 4) hx hb dX8_copy_9 (by decide) ?_
    refine x_cSi (As := [.int x2, .int (nI 4)]) (rest := []) S (c_X8_isBelow l x2 (nI 4)  ) (x_cwS (n0 := 2) S gX8_copy_X8_isBelow rfl (by decide +kernel) ⟨Nat.le_of_ble_eq_true rfl, Nat.le_of_ble_eq_true rfl⟩) rfl hl.1 rfl (Nat.le_of_ble_eq_true rfl) dX8_copy_10 ⟨Nat.le_refl _, Nat.le_refl _⟩ (fun r_10 hr_10 => ?_)
    subst hr_10
    refine x_if_neB (tgt := 19) S dX8_copy_13 (by decide) (fun c_13 => ?_) (fun c_13 => ?_)
    · obtain ⟨w, hw, rfl⟩ := xin_of c_5 (by omega)
      obtain ⟨v, hv, rfl⟩ := xin_of c_13 (by omega)
      refine lv_aload_n hx hb dX8_copy_19 rfl (lv_at hl 0 rfl) ?_
      refine x_get S (fun w h => List.mem_cons_of_mem _ (List.mem_append_left _ (List.mem_append_right _ h))) hK hP 0 (by omega) rfl rfl 7 (by decide) (List.mem_of_getElem? (i := 1) rfl) rfl dX8_copy_20 ?_
      refine lv_iload_n hx hb dX8_copy_23 rfl (lv_at hl 1 rfl) ?_
      refine x_aald S hK hP 33 2 (by omega) rfl rfl rfl (by first | assumption | omega) (by omega) rfl dX8_copy_24 ?_
      refine lv_astore (lv' := [(6, .ref (α (34 + 2 * w))), (0, .ref (α 0)), (1, .int (nI w)), (2, .int x1), (3, .int (nI v)), (4, .int x3), (5, .int x4)]) hx hb dX8_copy_25 hl (by decide) rfl (fun ls hl => ?_)
      refine lv_aload_n hx hb dX8_copy_27 rfl (lv_at hl 1 rfl) ?_
      refine x_get S (fun w h => List.mem_cons_of_mem _ (List.mem_append_left _ (List.mem_append_right _ h))) hK hP 0 (by omega) rfl rfl 7 (by decide) (List.mem_of_getElem? (i := 1) rfl) rfl dX8_copy_28 ?_
      refine lv_iload_n hx hb dX8_copy_31 rfl (lv_at hl 4 rfl) ?_
      refine x_aald S hK hP 33 2 (by omega) rfl rfl rfl (by first | assumption | omega) (by omega) rfl dX8_copy_32 ?_
      refine lv_astore (lv' := [(7, .ref (α (34 + 2 * v))), (6, .ref (α (34 + 2 * w))), (0, .ref (α 0)), (1, .int (nI w)), (2, .int x1), (3, .int (nI v)), (4, .int x3), (5, .int x4)]) hx hb dX8_copy_33 hl (by decide) rfl (fun ls hl => ?_)
      refine lv_aload hx hb dX8_copy_35 (lv_at hl 1 rfl) ?_
      refine x_get S (fun w h => List.mem_cons_of_mem _ (List.mem_append_right _ h)) hK hP (34 + 2 * w) (by omega) (xC_s (by first | assumption | omega) _) rfl 1 (by decide) (List.mem_of_getElem? (i := 2) rfl) rfl dX8_copy_37 ?_
      refine lv_if_ne (tgt := 51) hx hb dX8_copy_40 (by decide) (fun c_40 => ?_) (fun c_40 => ?_)
      · have c_40 : ¬ xVC σ w 1 = 0 := c_40
        refine lv_aload_n hx hb dX8_copy_51 rfl (lv_at hl 2 rfl) ?_
        refine lv_iconst (v := nI 1) hx hb dX8_copy_52 (by decide) ?_
        refine x_cVWi (As := [.int (nI 1)]) (rest := []) S hK hP hS (fun _ h => h) 0 (by omega) rfl rfl (c_X8_found l σ hI (nI 1)  ) (x_cwV (n0 := 1) (cq := (RX8, TX8, 9)) S gX8_copy_X8_found rfl (by decide +kernel) ⟨Nat.le_of_ble_eq_true rfl, Nat.le_of_ble_eq_true rfl⟩) rfl hl.1 rfl (Nat.le_of_ble_eq_true rfl) dX8_copy_53 ⟨Nat.le_refl _, Nat.le_refl _⟩ (fun r_53 τ_53 H locs hr_53 hP hk_53 hS => ?_)
        obtain ⟨hr_53, hs_53⟩ := hr_53
        subst hr_53
        subst hs_53
        have e8 : xcpf (xVC σ) (nI w) x1 (nI v) x3 x4 = nI 1 := by
          unfold xcpf
          rw [cN_nI (n := w) (by omega), cN_nI (n := v) (by omega)]
          first | rw [if_pos (Or.inr c_48)] | rw [if_pos (Or.inl c_40)]
        exact x_iretW S hlocks hP hS hr rfl (⟨by rw [xp_copy, if_pos ⟨xin_nI (by omega) (by omega), xin_nI (by omega) (by omega)⟩, e8, if_neg (by decide)], by rw [xst_copy, if_pos ⟨xin_nI (by omega) (by omega), xin_nI (by omega) (by omega)⟩, e8, if_neg (by decide)]⟩) dX8_copy_56
      · have c_40 : xVC σ w 1 = 0 := c_40
        refine lv_aload hx hb dX8_copy_43 (lv_at hl 0 rfl) ?_
        refine x_get S (fun w h => List.mem_cons_of_mem _ (List.mem_append_right _ h)) hK hP (34 + 2 * v) (by omega) (xC_s (by first | assumption | omega) _) rfl 1 (by decide) (List.mem_of_getElem? (i := 2) rfl) rfl dX8_copy_45 ?_
        refine lv_if_eq (tgt := 57) hx hb dX8_copy_48 (by decide) (fun c_48 => ?_) (fun c_48 => ?_)
        · have c_48 : xVC σ v 1 = 0 := c_48
          refine lv_aload hx hb dX8_copy_57 (lv_at hl 1 rfl) ?_
          refine x_get S (fun w h => List.mem_cons_of_mem _ (List.mem_append_right _ h)) hK hP (34 + 2 * w) (by omega) (xC_s (by first | assumption | omega) _) rfl 2 (by decide) (List.mem_of_getElem? (i := 3) rfl) rfl dX8_copy_59 ?_
          refine lv_aload hx hb dX8_copy_62 (lv_at hl 0 rfl) ?_
          refine x_get S (fun w h => List.mem_cons_of_mem _ (List.mem_append_right _ h)) hK hP (34 + 2 * v) (by omega) (xC_s (by first | assumption | omega) _) rfl 2 (by decide) (List.mem_of_getElem? (i := 3) rfl) rfl dX8_copy_64 ?_
          refine lv_icmp_eq (tgt := 76) hx hb dX8_copy_67 (by decide) (fun c_67 => ?_) (fun c_67 => ?_)
          · have c_67 : xVC σ w 2 = xVC σ v 2 := c_67
            refine lv_aload hx hb dX8_copy_76 (lv_at hl 1 rfl) ?_
            refine lv_iload_n hx hb dX8_copy_78 rfl (lv_at hl 4 rfl) ?_
            refine lv_iload hx hb dX8_copy_79 (lv_at hl 7 rfl) ?_
            refine x_cVRi (As := [.int x1, .int x4]) (rest := []) S hK hP (34 + 2 * w) (by omega) (xC_s (by first | assumption | omega) _) rfl (c_X5_hasRange l σ x1 x4 w  (by first | assumption | omega)) (x_cwV (n0 := 2) (cq := (RX5, TX5, 4)) S gX8_copy_X5_hasRange rfl (by decide +kernel) ⟨Nat.le_of_ble_eq_true rfl, Nat.le_of_ble_eq_true rfl⟩) rfl hl.1 rfl (Nat.le_of_ble_eq_true rfl) dX8_copy_81 ⟨Nat.le_refl _, Nat.le_refl _⟩ (fun r_81 hr_81 => ?_)
            subst hr_81
            refine x_if_eqB (tgt := 99) S dX8_copy_84 (by decide) (fun c_84 => ?_) (fun c_84 => ?_)
            · have c_84 : ¬ xrg (xVC σ w) x1 x4 := c_84
              refine lv_aload_n hx hb dX8_copy_99 rfl (lv_at hl 2 rfl) ?_
              refine lv_iconst (v := nI 2) hx hb dX8_copy_100 (by decide) ?_
              refine x_cVWi (As := [.int (nI 2)]) (rest := []) S hK hP hS (fun _ h => h) 0 (by omega) rfl rfl (c_X8_found l σ hI (nI 2)  ) (x_cwV (n0 := 1) (cq := (RX8, TX8, 9)) S gX8_copy_X8_found rfl (by decide +kernel) ⟨Nat.le_of_ble_eq_true rfl, Nat.le_of_ble_eq_true rfl⟩) rfl hl.1 rfl (Nat.le_of_ble_eq_true rfl) dX8_copy_101 ⟨Nat.le_refl _, Nat.le_refl _⟩ (fun r_101 τ_101 H locs hr_101 hP hk_101 hS => ?_)
              obtain ⟨hr_101, hs_101⟩ := hr_101
              subst hr_101
              subst hs_101
              have e8 : xcpf (xVC σ) (nI w) x1 (nI v) x3 x4 = nI 2 := by
                unfold xcpf
                rw [cN_nI (n := w) (by omega), cN_nI (n := v) (by omega), if_neg (fun q => by rcases q with q | q; exact q c_40; exact q c_48), if_neg (not_not_intro c_67)]
                first | rw [if_neg (fun q => c_96 q.2)] | rw [if_neg (fun q => c_84 q.1)]
              exact x_iretW S hlocks hP hS hr rfl (⟨by rw [xp_copy, if_pos ⟨xin_nI (by omega) (by omega), xin_nI (by omega) (by omega)⟩, e8, if_neg (by decide)], by rw [xst_copy, if_pos ⟨xin_nI (by omega) (by omega), xin_nI (by omega) (by omega)⟩, e8, if_neg (by decide)]⟩) dX8_copy_104
            · have c_84 : xrg (xVC σ w) x1 x4 := c_84
              refine lv_aload hx hb dX8_copy_87 (lv_at hl 0 rfl) ?_
              refine lv_iload hx hb dX8_copy_89 (lv_at hl 6 rfl) ?_
              refine lv_iload hx hb dX8_copy_91 (lv_at hl 7 rfl) ?_
              refine x_cVRi (As := [.int x3, .int x4]) (rest := []) S hK hP (34 + 2 * v) (by omega) (xC_s (by first | assumption | omega) _) rfl (c_X5_hasRange l σ x3 x4 v  (by first | assumption | omega)) (x_cwV (n0 := 2) (cq := (RX5, TX5, 4)) S gX8_copy_X5_hasRange rfl (by decide +kernel) ⟨Nat.le_of_ble_eq_true rfl, Nat.le_of_ble_eq_true rfl⟩) rfl hl.1 rfl (Nat.le_of_ble_eq_true rfl) dX8_copy_93 ⟨Nat.le_refl _, Nat.le_refl _⟩ (fun r_93 hr_93 => ?_)
              subst hr_93
              refine x_if_neB (tgt := 105) S dX8_copy_96 (by decide) (fun c_96 => ?_) (fun c_96 => ?_)
              · have c_96 : xrg (xVC σ v) x3 x4 := c_96
                have e8 : xcpf (xVC σ) (nI w) x1 (nI v) x3 x4 = nI 0 := by
                  unfold xcpf
                  rw [cN_nI (n := w) (by omega), cN_nI (n := v) (by omega), if_neg (fun q => by rcases q with q | q; exact q c_40; exact q c_48), if_neg (not_not_intro c_67), if_pos ⟨c_84, c_96⟩]
                have hzw := hsh w (by omega)
                have hzv := hsh v (by omega)
                obtain ⟨i, k, rfl, rfl, hik⟩ := xrg_nat c_84 hzw.2.2.2 hzw.2.2.1
                obtain ⟨j, k2, rfl, ek, hjk⟩ := xrg_nat c_96 hzv.2.2.2 hzv.2.2.1
                have hw48 := hzw.2.2.1
                have hv48 := hzv.2.2.1
                have ek2 : k2 < 2 ^ 31 := by omega
                rw [nI_eq (by omega) ek2] at ek
                subst ek
                refine lv_aload hx hb dX8_copy_105 (lv_at hl 1 rfl) ?_
                refine x_get S (fun w h => List.mem_cons_of_mem _ (List.mem_append_right _ h)) hK hP (34 + 2 * w) (by omega) (xC_s (by first | assumption | omega) _) rfl 0 (by decide) (List.mem_of_getElem? (i := 4) rfl) rfl dX8_copy_107 ?_
                refine lv_iload_n hx hb dX8_copy_110 rfl (lv_at hl 4 rfl) ?_
                refine lv_aload hx hb dX8_copy_111 (lv_at hl 0 rfl) ?_
                refine x_get S (fun w h => List.mem_cons_of_mem _ (List.mem_append_right _ h)) hK hP (34 + 2 * v) (by omega) (xC_s (by first | assumption | omega) _) rfl 0 (by decide) (List.mem_of_getElem? (i := 4) rfl) rfl dX8_copy_113 ?_
                refine lv_iload hx hb dX8_copy_116 (lv_at hl 6 rfl) ?_
                refine lv_iload hx hb dX8_copy_118 (lv_at hl 7 rfl) ?_
                refine x_copy S hl.1 (List.mem_of_getElem? (i := 5) rfl) (List.mem_of_getElem? (i := 6) rfl) (List.mem_of_getElem? (i := 7) rfl) (List.mem_of_getElem? (i := 8) rfl) hK hP hI hS (35 + 2 * w) (35 + 2 * v) (by omega) (by omega) (xC_i (by first | assumption | omega) _) (fun v => xC_i (by first | assumption | omega) v) (i := i) (j := j) (k := k) (by omega) (by omega) (by omega) (by first | assumption | omega) (by first | assumption | omega) (Nat.le_of_ble_eq_true rfl) (Nat.le_of_ble_eq_true rfl) dX8_copy_120 (fun H locs hP hS => ?_)
                refine lv_iconst (v := nI 1) hx hb dX8_copy_123 (by decide) ?_
                exact x_iretW S hlocks hP hS hr rfl (⟨by rw [xp_copy, if_pos ⟨xin_nI (by omega) (by omega), xin_nI (by omega) (by omega)⟩, e8]; rfl, by rw [xst_copy, if_pos ⟨xin_nI (by omega) (by omega), xin_nI (by omega) (by omega)⟩, e8, if_pos (by decide), cN_nI (n := w) (by omega), cN_nI (n := v) (by omega), cN_nI (n := i) (by omega), cN_nI (n := j) (by omega), cN_nI (n := k) (by omega)]⟩) dX8_copy_124
              · have c_96 : ¬ xrg (xVC σ v) x3 x4 := c_96
                refine lv_aload_n hx hb dX8_copy_99 rfl (lv_at hl 2 rfl) ?_
                refine lv_iconst (v := nI 2) hx hb dX8_copy_100 (by decide) ?_
                refine x_cVWi (As := [.int (nI 2)]) (rest := []) S hK hP hS (fun _ h => h) 0 (by omega) rfl rfl (c_X8_found l σ hI (nI 2)  ) (x_cwV (n0 := 1) (cq := (RX8, TX8, 9)) S gX8_copy_X8_found rfl (by decide +kernel) ⟨Nat.le_of_ble_eq_true rfl, Nat.le_of_ble_eq_true rfl⟩) rfl hl.1 rfl (Nat.le_of_ble_eq_true rfl) dX8_copy_101 ⟨Nat.le_refl _, Nat.le_refl _⟩ (fun r_101 τ_101 H locs hr_101 hP hk_101 hS => ?_)
                obtain ⟨hr_101, hs_101⟩ := hr_101
                subst hr_101
                subst hs_101
                have e8 : xcpf (xVC σ) (nI w) x1 (nI v) x3 x4 = nI 2 := by
                  unfold xcpf
                  rw [cN_nI (n := w) (by omega), cN_nI (n := v) (by omega), if_neg (fun q => by rcases q with q | q; exact q c_40; exact q c_48), if_neg (not_not_intro c_67)]
                  first | rw [if_neg (fun q => c_96 q.2)] | rw [if_neg (fun q => c_84 q.1)]
                exact x_iretW S hlocks hP hS hr rfl (⟨by rw [xp_copy, if_pos ⟨xin_nI (by omega) (by omega), xin_nI (by omega) (by omega)⟩, e8, if_neg (by decide)], by rw [xst_copy, if_pos ⟨xin_nI (by omega) (by omega), xin_nI (by omega) (by omega)⟩, e8, if_neg (by decide)]⟩) dX8_copy_104
          · have c_67 : ¬ xVC σ w 2 = xVC σ v 2 := c_67
            refine lv_aload_n hx hb dX8_copy_70 rfl (lv_at hl 2 rfl) ?_
            refine lv_iconst (v := nI 4) hx hb dX8_copy_71 (by decide) ?_
            refine x_cVWi (As := [.int (nI 4)]) (rest := []) S hK hP hS (fun _ h => h) 0 (by omega) rfl rfl (c_X8_found l σ hI (nI 4)  ) (x_cwV (n0 := 1) (cq := (RX8, TX8, 9)) S gX8_copy_X8_found rfl (by decide +kernel) ⟨Nat.le_of_ble_eq_true rfl, Nat.le_of_ble_eq_true rfl⟩) rfl hl.1 rfl (Nat.le_of_ble_eq_true rfl) dX8_copy_72 ⟨Nat.le_refl _, Nat.le_refl _⟩ (fun r_72 τ_72 H locs hr_72 hP hk_72 hS => ?_)
            obtain ⟨hr_72, hs_72⟩ := hr_72
            subst hr_72
            subst hs_72
            have e8 : xcpf (xVC σ) (nI w) x1 (nI v) x3 x4 = nI 4 := by
              unfold xcpf
              rw [cN_nI (n := w) (by omega), cN_nI (n := v) (by omega), if_neg (fun q => by rcases q with q | q; exact q c_40; exact q c_48), if_pos c_67]
            exact x_iretW S hlocks hP hS hr rfl (⟨by rw [xp_copy, if_pos ⟨xin_nI (by omega) (by omega), xin_nI (by omega) (by omega)⟩, e8, if_neg (by decide)], by rw [xst_copy, if_pos ⟨xin_nI (by omega) (by omega), xin_nI (by omega) (by omega)⟩, e8, if_neg (by decide)]⟩) dX8_copy_75
        · have c_48 : ¬ xVC σ v 1 = 0 := c_48
          refine lv_aload_n hx hb dX8_copy_51 rfl (lv_at hl 2 rfl) ?_
          refine lv_iconst (v := nI 1) hx hb dX8_copy_52 (by decide) ?_
          refine x_cVWi (As := [.int (nI 1)]) (rest := []) S hK hP hS (fun _ h => h) 0 (by omega) rfl rfl (c_X8_found l σ hI (nI 1)  ) (x_cwV (n0 := 1) (cq := (RX8, TX8, 9)) S gX8_copy_X8_found rfl (by decide +kernel) ⟨Nat.le_of_ble_eq_true rfl, Nat.le_of_ble_eq_true rfl⟩) rfl hl.1 rfl (Nat.le_of_ble_eq_true rfl) dX8_copy_53 ⟨Nat.le_refl _, Nat.le_refl _⟩ (fun r_53 τ_53 H locs hr_53 hP hk_53 hS => ?_)
          obtain ⟨hr_53, hs_53⟩ := hr_53
          subst hr_53
          subst hs_53
          have e8 : xcpf (xVC σ) (nI w) x1 (nI v) x3 x4 = nI 1 := by
            unfold xcpf
            rw [cN_nI (n := w) (by omega), cN_nI (n := v) (by omega)]
            first | rw [if_pos (Or.inr c_48)] | rw [if_pos (Or.inl c_40)]
          exact x_iretW S hlocks hP hS hr rfl (⟨by rw [xp_copy, if_pos ⟨xin_nI (by omega) (by omega), xin_nI (by omega) (by omega)⟩, e8, if_neg (by decide)], by rw [xst_copy, if_pos ⟨xin_nI (by omega) (by omega), xin_nI (by omega) (by omega)⟩, e8, if_neg (by decide)]⟩) dX8_copy_56
    · refine lv_bipush (v := (-2)) hx hb dX8_copy_16 (by decide) ?_
      exact x_iretW S hlocks hP hS hr rfl (by first | exact ⟨by rw [xp_copy, if_neg (fun q => c_5 q.1)], by rw [xst_copy, if_neg (fun q => c_5 q.1)]⟩ | exact ⟨by rw [xp_copy, if_neg (fun q => c_13 q.2)], by rw [xst_copy, if_neg (fun q => c_13 q.2)]⟩) dX8_copy_18
set_option maxHeartbeats 4000000 in
set_option maxRecDepth 100000 in
theorem c_X8_count (l : Launch) {D : va_G} {K : Nat → ClassId} {α : Nat → Nat} (σ : Nat → Nat → Int32) (x : Int32)  (hC : xIC σ) : Met l yX8_count wsX8_count (xrm 5) (va_Pc [.ref (α 0), .int x] (xPre D K 42 α (xC α K) σ)) (vp_Si (fun r => r = xp_count (xcv (xFC σ) (σ 10) (xYC σ) (xLC σ) (xcC σ) (xsC σ) (σ 0 8)) x)) 0 0 (fun _ => False) := by
  refine Met.ofW (cc := cX8_count) (maxL := 2) (ret := (some .int)) (by decide) rfl ?_
  intro p e s m args below meth c s₁ B hml hv
  obtain ⟨rfl, hK, hP⟩ := hv
  have S : CallFix p m c cX8_count 2 s _ wsX8_count RX8 := ⟨B.exec, B.bytes, hml, findClass_of_methodNamed B.named, atoms_spec (ws := wsX8_count) B.pre⟩
  have hx := S.1
  have hb := S.2.1
  have hr := B.returns
  have hlocks := B.notSynchronized
  have hl := lv_entry ([.ref (α 0), .int x]) (n := 2) (Nat.le_of_ble_eq_true rfl)
  rw [lg_entry_eq]
  generalize (lg_sl ([.ref (α 0), .int x]) ++ List.replicate (2 - (lg_sl ([.ref (α 0), .int x])).length) Slot.unset).toArray = ls at hl ⊢
  have hl : lv_has ls 2 [(0, .ref (α 0)), (1, .int x)] := hl
  have hPP := hP
  have hY := xIC_Y hC
  have hY12 := xIC_12 hC
  obtain ⟨⟨hL, hL9⟩, ⟨hF, hYr⟩, ⟨hcs, hcn, hc1, hc2⟩, ⟨hss, hsn, hs1, hs2⟩, hfe, hsh⟩ := hC
  generalize hLe : xLC σ = L at hL hL9 hF ⊢
  generalize hYe : xYC σ = Y at hY hY12 hYr ⊢
  generalize hcne : xcC σ = cn at hcs hcn hc1 hc2 ⊢
  generalize hsne : xsC σ = sn at hss hsn hs1 hs2 ⊢
  refine lv_iload_n hx hb dX8_count_0 rfl (lv_at hl 1 rfl) ?_
  rcases xcnt x with rfl | rfl | rfl | rfl | rfl | rfl | rfl | rfl | rfl | hx9
  · refine lv_tableIn (off := 51) (tgt := 52) hx hb dX8_count_1 (by decide) (by decide) (by decide) (by decide) ?_
    refine lv_aload_n hx hb dX8_count_52 rfl (lv_at hl 0 rfl) ?_
    refine x_get S (fun w h => List.mem_cons_of_mem _ (List.mem_append_left _ (List.mem_append_left _ (List.mem_append_left _ (List.mem_append_left _ (List.mem_append_left _ (List.mem_append_right _ h))))))) hK hP 0 (by omega) rfl rfl 1 (by decide) (List.mem_of_getElem? (i := 1) rfl) rfl dX8_count_53 ?_
    refine x_get S (fun w h => List.mem_cons_of_mem _ (List.mem_append_left _ (List.mem_append_left _ (List.mem_append_left _ (List.mem_append_left _ (List.mem_append_right _ h)))))) hK hP 9 (by omega) rfl rfl 2 (by decide) (List.mem_of_getElem? (i := 2) rfl) rfl dX8_count_56 ?_
    refine x_top S (y := nI Y) (hYr) ?_
    exact x_iretR S hlocks hr rfl (by rw [xp_count, if_pos (xin_nI (by decide) (by decide)), cN_nI (by decide)]; rfl) dX8_count_59
  · refine lv_tableIn (off := 59) (tgt := 60) hx hb dX8_count_1 (by decide) (by decide) (by decide) (by decide) ?_
    refine lv_aload_n hx hb dX8_count_60 rfl (lv_at hl 0 rfl) ?_
    refine x_get S (fun w h => List.mem_cons_of_mem _ (List.mem_append_left _ (List.mem_append_left _ (List.mem_append_left _ (List.mem_append_left _ (List.mem_append_left _ (List.mem_append_right _ h))))))) hK hP 0 (by omega) rfl rfl 1 (by decide) (List.mem_of_getElem? (i := 1) rfl) rfl dX8_count_61 ?_
    refine x_get S (fun w h => List.mem_cons_of_mem _ (List.mem_append_left _ (List.mem_append_left _ (List.mem_append_left _ (List.mem_append_left _ (List.mem_append_right _ h)))))) hK hP 9 (by omega) rfl rfl 1 (by decide) (List.mem_of_getElem? (i := 3) rfl) rfl dX8_count_64 ?_
    refine x_top S (y := nI L) (hL) ?_
    exact x_iretR S hlocks hr rfl (by rw [xp_count, if_pos (xin_nI (by decide) (by decide)), cN_nI (by decide)]; rfl) dX8_count_67
  · refine lv_tableIn (off := 67) (tgt := 68) hx hb dX8_count_1 (by decide) (by decide) (by decide) (by decide) ?_
    refine lv_aload_n hx hb dX8_count_68 rfl (lv_at hl 0 rfl) ?_
    refine x_get S (fun w h => List.mem_cons_of_mem _ (List.mem_append_left _ (List.mem_append_left _ (List.mem_append_left _ (List.mem_append_left _ (List.mem_append_left _ (List.mem_append_right _ h))))))) hK hP 0 (by omega) rfl rfl 3 (by decide) (List.mem_of_getElem? (i := 4) rfl) rfl dX8_count_69 ?_
    refine x_get S (fun w h => List.mem_cons_of_mem _ (List.mem_append_left _ (List.mem_append_left _ (List.mem_append_left _ (List.mem_append_right _ h))))) hK hP 12 (by omega) rfl rfl 4 (by decide) (List.mem_of_getElem? (i := 5) rfl) rfl dX8_count_72 ?_
    refine x_top S (y := nI cn) (hcs) ?_
    exact x_iretR S hlocks hr rfl (by rw [xp_count, if_pos (xin_nI (by decide) (by decide)), cN_nI (by decide)]; rfl) dX8_count_75
  · refine lv_tableIn (off := 75) (tgt := 76) hx hb dX8_count_1 (by decide) (by decide) (by decide) (by decide) ?_
    refine lv_aload_n hx hb dX8_count_76 rfl (lv_at hl 0 rfl) ?_
    refine x_get S (fun w h => List.mem_cons_of_mem _ (List.mem_append_left _ (List.mem_append_left _ (List.mem_append_left _ (List.mem_append_left _ (List.mem_append_left _ (List.mem_append_right _ h))))))) hK hP 0 (by omega) rfl rfl 4 (by decide) (List.mem_of_getElem? (i := 6) rfl) rfl dX8_count_77 ?_
    refine x_get S (fun w h => List.mem_cons_of_mem _ (List.mem_append_left _ (List.mem_append_left _ (List.mem_append_right _ h)))) hK hP 16 (by omega) rfl rfl 4 (by decide) (List.mem_of_getElem? (i := 7) rfl) rfl dX8_count_80 ?_
    refine x_top S (y := nI sn) (hss) ?_
    exact x_iretR S hlocks hr rfl (by rw [xp_count, if_pos (xin_nI (by decide) (by decide)), cN_nI (by decide)]; rfl) dX8_count_83
  · refine lv_tableIn (off := 83) (tgt := 84) hx hb dX8_count_1 (by decide) (by decide) (by decide) (by decide) ?_
    refine lv_aload_n hx hb dX8_count_84 rfl (lv_at hl 0 rfl) ?_
    refine x_get S (fun w h => List.mem_cons_of_mem _ (List.mem_append_left _ (List.mem_append_left _ (List.mem_append_left _ (List.mem_append_left _ (List.mem_append_left _ (List.mem_append_right _ h))))))) hK hP 0 (by omega) rfl rfl 0 (by decide) (List.mem_of_getElem? (i := 8) rfl) rfl dX8_count_85 ?_
    refine x_cVRi (As := []) (rest := []) S hK hP 1 (by omega) rfl rfl (c_X4_pairsThatSuit l σ   ) (x_cwV (n0 := 0) (cq := (RX4, TX4, 2)) S gX8_count_X4_pairsThatSuit rfl (by decide +kernel) ⟨Nat.le_of_ble_eq_true rfl, Nat.le_of_ble_eq_true rfl⟩) rfl hl.1 rfl (Nat.le_of_ble_eq_true rfl) dX8_count_88 ⟨Nat.le_refl _, Nat.le_refl _⟩ (fun r_88 hr_88 => ?_)
    subst hr_88
    exact x_iretR S hlocks hr rfl (by rw [xp_count, if_pos (xin_nI (by decide) (by decide)), cN_nI (by decide)]; rfl) dX8_count_91
  · refine lv_tableIn (off := 91) (tgt := 92) hx hb dX8_count_1 (by decide) (by decide) (by decide) (by decide) ?_
    refine lv_aload_n hx hb dX8_count_92 rfl (lv_at hl 0 rfl) ?_
    refine x_get S (fun w h => List.mem_cons_of_mem _ (List.mem_append_left _ (List.mem_append_left _ (List.mem_append_left _ (List.mem_append_left _ (List.mem_append_left _ (List.mem_append_right _ h))))))) hK hP 0 (by omega) rfl rfl 2 (by decide) (List.mem_of_getElem? (i := 9) rfl) rfl dX8_count_93 ?_
    refine x_cVRi (As := []) (rest := []) S hK hP 11 (by omega) rfl rfl (c_X7_allEarned l σ Y  (by first | assumption | omega) (by first | assumption | omega) (by first | assumption | omega)) (x_cwV (n0 := 0) (cq := (RX7, TX7, 2)) S gX8_count_X7_allEarned rfl (by decide +kernel) ⟨Nat.le_of_ble_eq_true rfl, Nat.le_of_ble_eq_true rfl⟩) rfl hl.1 rfl (Nat.le_of_ble_eq_true rfl) dX8_count_96 ⟨Nat.le_refl _, Nat.le_refl _⟩ (fun r_96 hr_96 => ?_)
    subst hr_96
    exact x_iretR S hlocks hr rfl (by rw [xp_count, if_pos (xin_nI (by decide) (by decide)), cN_nI (by decide)]; rfl) dX8_count_99
  · refine lv_tableIn (off := 99) (tgt := 100) hx hb dX8_count_1 (by decide) (by decide) (by decide) (by decide) ?_
    refine lv_aload_n hx hb dX8_count_100 rfl (lv_at hl 0 rfl) ?_
    refine x_get S (fun w h => List.mem_cons_of_mem _ (List.mem_append_left _ (List.mem_append_left _ (List.mem_append_left _ (List.mem_append_left _ (List.mem_append_left _ (List.mem_append_right _ h))))))) hK hP 0 (by omega) rfl rfl 2 (by decide) (List.mem_of_getElem? (i := 9) rfl) rfl dX8_count_101 ?_
    refine x_cVRi (As := []) (rest := []) S hK hP 11 (by omega) rfl rfl (c_X7_allDebt l σ Y  (by first | assumption | omega) (by first | assumption | omega) (by first | assumption | omega)) (x_cwV (n0 := 0) (cq := (RX7, TX7, 2)) S gX8_count_X7_allDebt rfl (by decide +kernel) ⟨Nat.le_of_ble_eq_true rfl, Nat.le_of_ble_eq_true rfl⟩) rfl hl.1 rfl (Nat.le_of_ble_eq_true rfl) dX8_count_104 ⟨Nat.le_refl _, Nat.le_refl _⟩ (fun r_104 hr_104 => ?_)
    subst hr_104
    exact x_iretR S hlocks hr rfl (by rw [xp_count, if_pos (xin_nI (by decide) (by decide)), cN_nI (by decide)]; rfl) dX8_count_107
  · refine lv_tableIn (off := 107) (tgt := 108) hx hb dX8_count_1 (by decide) (by decide) (by decide) (by decide) ?_
    refine lv_aload_n hx hb dX8_count_108 rfl (lv_at hl 0 rfl) ?_
    refine x_get S (fun w h => List.mem_cons_of_mem _ (List.mem_append_left _ (List.mem_append_left _ (List.mem_append_left _ (List.mem_append_left _ (List.mem_append_left _ (List.mem_append_right _ h))))))) hK hP 0 (by omega) rfl rfl 2 (by decide) (List.mem_of_getElem? (i := 9) rfl) rfl dX8_count_109 ?_
    refine x_cVRi (As := []) (rest := []) S hK hP 11 (by omega) rfl rfl (c_X7_allShame l σ Y  (by first | assumption | omega) (by first | assumption | omega) (by first | assumption | omega)) (x_cwV (n0 := 0) (cq := (RX7, TX7, 2)) S gX8_count_X7_allShame rfl (by decide +kernel) ⟨Nat.le_of_ble_eq_true rfl, Nat.le_of_ble_eq_true rfl⟩) rfl hl.1 rfl (Nat.le_of_ble_eq_true rfl) dX8_count_112 ⟨Nat.le_refl _, Nat.le_refl _⟩ (fun r_112 hr_112 => ?_)
    subst hr_112
    exact x_iretR S hlocks hr rfl (by rw [xp_count, if_pos (xin_nI (by decide) (by decide)), cN_nI (by decide)]; rfl) dX8_count_115
  · refine lv_tableIn (off := 115) (tgt := 116) hx hb dX8_count_1 (by decide) (by decide) (by decide) (by decide) ?_
    refine lv_aload_n hx hb dX8_count_116 rfl (lv_at hl 0 rfl) ?_
    refine x_get S (fun w h => List.mem_cons_of_mem _ (List.mem_append_left _ (List.mem_append_left _ (List.mem_append_left _ (List.mem_append_left _ (List.mem_append_left _ (List.mem_append_right _ h))))))) hK hP 0 (by omega) rfl rfl 8 (by decide) (List.mem_of_getElem? (i := 10) rfl) rfl dX8_count_117 ?_
    exact x_iretR S hlocks hr rfl (by rw [xp_count, if_pos (xin_nI (by decide) (by decide)), cN_nI (by decide)]; rfl) dX8_count_120
  · refine lv_tableOut (tgt := 121) hx hb dX8_count_1 (xtabout hx9) (by decide) ?_
    refine lv_bipush (v := (-2)) hx hb dX8_count_121 (by decide) ?_
    exact x_iretR S hlocks hr rfl (by rw [xp_count, if_neg hx9]) dX8_count_123
set_option maxHeartbeats 4000000 in
set_option maxRecDepth 100000 in
theorem c_X8_digestOfHull (l : Launch) {D : va_G} {K : Nat → ClassId} {α : Nat → Nat} (σ : Nat → Nat → Int32) (hI : xw_I 42 α) (h0 : Int64) (k : Nat)  (hC : xIC σ) (hk6 : k < 6) : Met l yX8_digestOfHull wsX8_digestOfHull (xrm 5) (va_Pc [.ref (α 0), .long h0, .int (nI k)] (xPre D K 42 α (xC α K) σ)) (xQl D 42 α (xC α K) (fun r τ => r = xfold h0 (xhv (xFC σ) (σ 10) (xYC σ) (σ 13) (σ 14) (σ 15) (xcC σ) (xB (xFC σ) (σ 17) (σ 18) (σ 19) (xsC σ)) k) 15 ∧ xCs σ τ)) 0 0 (xw_R 42 α) := by
  refine Met.ofW (cc := cX8_digestOfHull) (maxL := 7) (ret := (some .long)) (by decide) rfl ?_
  intro p e s m args below meth c s₁ B hml hv
  obtain ⟨rfl, hK, hP⟩ := hv
  have S : CallFix p m c cX8_digestOfHull 7 s _ wsX8_digestOfHull RX8 := ⟨B.exec, B.bytes, hml, findClass_of_methodNamed B.named, atoms_spec (ws := wsX8_digestOfHull) B.pre⟩
  have hx := S.1
  have hb := S.2.1
  have hr := B.returns
  have hlocks := B.notSynchronized
  have hS : va_S (xw_R 42 α) s.heap s.heap [] := va_S.rf
  have hl := lv_entry ([.ref (α 0), .long h0, .int (nI k)]) (n := 7) (Nat.le_of_ble_eq_true rfl)
  rw [lg_entry_eq]
  generalize (lg_sl ([.ref (α 0), .long h0, .int (nI k)]) ++ List.replicate (7 - (lg_sl ([.ref (α 0), .long h0, .int (nI k)])).length) Slot.unset).toArray = ls at hl ⊢
  have hl : lv_has ls 7 [(0, .ref (α 0)), (1, .long h0), (3, .int (nI k))] := hl
  have hPP := hP
  have hYr := hC.2.1.2
  have hY12 := xIC_12 hC
  obtain ⟨HV, hHV⟩ : ∃ z, z = xhv (xFC σ) (σ 10) (xYC σ) (σ 13) (σ 14) (σ 15) (xcC σ) (xB (xFC σ) (σ 17) (σ 18) (σ 19) (xsC σ)) k := ⟨_, rfl⟩
  refine lv_lload_n hx hb dX8_digestOfHull_0 rfl (lv_at hl 1 rfl) ?_
  refine lv_lstore (lv' := [(4, .long h0), (0, .ref (α 0)), (1, .long h0), (3, .int (nI k))]) hx hb dX8_digestOfHull_1 hl (by decide) rfl (fun ls hl => ?_)
  refine lv_ldc2 hx hb S.2.2.2.1 (S.2.2.2.2 (.constantLong RX8 278 (31)) (List.mem_of_getElem? (i := 1) rfl)) dX8_digestOfHull_3 ?_
  refine lv_lload hx hb dX8_digestOfHull_6 (lv_at hl 0 rfl) ?_
  refine lv_lmul hx hb dX8_digestOfHull_8 ?_
  refine lv_aload_n hx hb dX8_digestOfHull_9 rfl (lv_at hl 1 rfl) ?_
  refine lv_iload_n hx hb dX8_digestOfHull_10 rfl (lv_at hl 3 rfl) ?_
  refine lv_aload_n hx hb dX8_digestOfHull_11 rfl (lv_at hl 1 rfl) ?_
  refine x_get S (fun w h => List.mem_cons_of_mem _ (List.mem_append_left _ (List.mem_append_left _ (List.mem_append_left _ (List.mem_append_left _ (List.mem_append_left _ (List.mem_append_left _ (List.mem_append_left _ (List.mem_append_right _ h))))))))) hK hP 0 (by omega) rfl rfl 1 (by decide) (List.mem_of_getElem? (i := 2) rfl) rfl dX8_digestOfHull_12 ?_
  refine x_get S (fun w h => List.mem_cons_of_mem _ (List.mem_append_left _ (List.mem_append_left _ (List.mem_append_left _ (List.mem_append_left _ (List.mem_append_left _ (List.mem_append_left _ (List.mem_append_right _ h)))))))) hK hP 9 (by omega) rfl rfl 2 (by decide) (List.mem_of_getElem? (i := 3) rfl) rfl dX8_digestOfHull_15 ?_
  refine x_top S (y := nI (xYC σ)) (hYr) ?_
  refine x_cVRi (As := [.int (nI k), .int (nI (xYC σ))]) (rest := [.long ((31 : Int64) * h0)]) S hK hP 0 (by omega) rfl rfl (c_X8_purse l σ (nI k) (nI (xYC σ))  (by first | assumption | omega)) (x_cwV (n0 := 2) (cq := (RX8, TX8, 9)) S gX8_digestOfHull_X8_purse rfl (by decide +kernel) ⟨Nat.le_of_ble_eq_true rfl, Nat.le_of_ble_eq_true rfl⟩) rfl hl.1 rfl (Nat.le_of_ble_eq_true rfl) dX8_digestOfHull_18 ⟨Nat.le_refl _, Nat.le_refl _⟩ (fun r_18 hr_18 => ?_)
  subst hr_18
  refine lv_i2l hx hb dX8_digestOfHull_21 rfl ?_
  refine lv_ladd hx hb dX8_digestOfHull_22 ?_
  refine x_topL S (y := xfold h0 HV 1) (by rw [hHV]; rfl) ?_
  refine lv_lstore (lv' := [(4, .long (xfold h0 HV 1)), (0, .ref (α 0)), (1, .long h0), (3, .int (nI k))]) hx hb dX8_digestOfHull_23 hl (by decide) rfl (fun ls hl => ?_)
  refine lv_ldc2 hx hb S.2.2.2.1 (S.2.2.2.2 (.constantLong RX8 278 (31)) (List.mem_of_getElem? (i := 1) rfl)) dX8_digestOfHull_25 ?_
  refine lv_lload hx hb dX8_digestOfHull_28 (lv_at hl 0 rfl) ?_
  refine lv_lmul hx hb dX8_digestOfHull_30 ?_
  refine lv_aload_n hx hb dX8_digestOfHull_31 rfl (lv_at hl 1 rfl) ?_
  refine lv_iload_n hx hb dX8_digestOfHull_32 rfl (lv_at hl 3 rfl) ?_
  refine lv_aload_n hx hb dX8_digestOfHull_33 rfl (lv_at hl 1 rfl) ?_
  refine x_get S (fun w h => List.mem_cons_of_mem _ (List.mem_append_left _ (List.mem_append_left _ (List.mem_append_left _ (List.mem_append_left _ (List.mem_append_left _ (List.mem_append_left _ (List.mem_append_left _ (List.mem_append_right _ h))))))))) hK hP 0 (by omega) rfl rfl 1 (by decide) (List.mem_of_getElem? (i := 2) rfl) rfl dX8_digestOfHull_34 ?_
  refine x_get S (fun w h => List.mem_cons_of_mem _ (List.mem_append_left _ (List.mem_append_left _ (List.mem_append_left _ (List.mem_append_left _ (List.mem_append_left _ (List.mem_append_left _ (List.mem_append_right _ h)))))))) hK hP 9 (by omega) rfl rfl 2 (by decide) (List.mem_of_getElem? (i := 3) rfl) rfl dX8_digestOfHull_37 ?_
  refine x_top S (y := nI (xYC σ)) (hYr) ?_
  refine x_cVRi (As := [.int (nI k), .int (nI (xYC σ))]) (rest := [.long ((31 : Int64) * (xfold h0 HV 1))]) S hK hP 0 (by omega) rfl rfl (c_X8_been l σ (nI k) (nI (xYC σ))  (by first | assumption | omega)) (x_cwV (n0 := 2) (cq := (RX8, TX8, 9)) S gX8_digestOfHull_X8_been rfl (by decide +kernel) ⟨Nat.le_of_ble_eq_true rfl, Nat.le_of_ble_eq_true rfl⟩) rfl hl.1 rfl (Nat.le_of_ble_eq_true rfl) dX8_digestOfHull_40 ⟨Nat.le_refl _, Nat.le_refl _⟩ (fun r_40 hr_40 => ?_)
  subst hr_40
  refine lv_i2l hx hb dX8_digestOfHull_43 rfl ?_
  refine lv_ladd hx hb dX8_digestOfHull_44 ?_
  refine x_topL S (y := xfold h0 HV 2) (by rw [hHV]; rfl) ?_
  refine lv_lstore (lv' := [(4, .long (xfold h0 HV 2)), (0, .ref (α 0)), (1, .long h0), (3, .int (nI k))]) hx hb dX8_digestOfHull_45 hl (by decide) rfl (fun ls hl => ?_)
  refine lv_ldc2 hx hb S.2.2.2.1 (S.2.2.2.2 (.constantLong RX8 278 (31)) (List.mem_of_getElem? (i := 1) rfl)) dX8_digestOfHull_47 ?_
  refine lv_lload hx hb dX8_digestOfHull_50 (lv_at hl 0 rfl) ?_
  refine lv_lmul hx hb dX8_digestOfHull_52 ?_
  refine lv_aload_n hx hb dX8_digestOfHull_53 rfl (lv_at hl 1 rfl) ?_
  refine lv_iload_n hx hb dX8_digestOfHull_54 rfl (lv_at hl 3 rfl) ?_
  refine x_cVRi (As := [.int (nI k)]) (rest := [.long ((31 : Int64) * (xfold h0 HV 2))]) S hK hP 0 (by omega) rfl rfl (c_X8_home l σ (nI k)  (by first | assumption | omega)) (x_cwV (n0 := 1) (cq := (RX8, TX8, 9)) S gX8_digestOfHull_X8_home rfl (by decide +kernel) ⟨Nat.le_of_ble_eq_true rfl, Nat.le_of_ble_eq_true rfl⟩) rfl hl.1 rfl (Nat.le_of_ble_eq_true rfl) dX8_digestOfHull_55 ⟨Nat.le_refl _, Nat.le_refl _⟩ (fun r_55 hr_55 => ?_)
  subst hr_55
  refine lv_i2l hx hb dX8_digestOfHull_58 rfl ?_
  refine lv_ladd hx hb dX8_digestOfHull_59 ?_
  refine x_topL S (y := xfold h0 HV 3) (by rw [hHV]; rfl) ?_
  refine lv_lstore (lv' := [(4, .long (xfold h0 HV 3)), (0, .ref (α 0)), (1, .long h0), (3, .int (nI k))]) hx hb dX8_digestOfHull_60 hl (by decide) rfl (fun ls hl => ?_)
  refine lv_ldc2 hx hb S.2.2.2.1 (S.2.2.2.2 (.constantLong RX8 278 (31)) (List.mem_of_getElem? (i := 1) rfl)) dX8_digestOfHull_62 ?_
  refine lv_lload hx hb dX8_digestOfHull_65 (lv_at hl 0 rfl) ?_
  refine lv_lmul hx hb dX8_digestOfHull_67 ?_
  refine lv_aload_n hx hb dX8_digestOfHull_68 rfl (lv_at hl 1 rfl) ?_
  refine lv_iload_n hx hb dX8_digestOfHull_69 rfl (lv_at hl 3 rfl) ?_
  refine lv_iload_n hx hb dX8_digestOfHull_70 rfl (lv_at hl 3 rfl) ?_
  refine lv_iconst (v := nI 1) hx hb dX8_digestOfHull_71 (by decide) ?_
  refine x_iaddN S dX8_digestOfHull_72 ?_
  refine lv_bipush (v := nI 6) hx hb dX8_digestOfHull_73 (by decide) ?_
  refine x_iremN S (by omega) (by omega) (by omega) dX8_digestOfHull_75 ?_
  refine x_cVRi (As := [.int (nI k), .int (nI ((k + 1) % 6))]) (rest := [.long ((31 : Int64) * (xfold h0 HV 3))]) S hK hP 0 (by omega) rfl rfl (c_X8_other l σ (nI k) (nI ((k + 1) % 6))  (by first | assumption | omega)) (x_cwV (n0 := 2) (cq := (RX8, TX8, 9)) S gX8_digestOfHull_X8_other rfl (by decide +kernel) ⟨Nat.le_of_ble_eq_true rfl, Nat.le_of_ble_eq_true rfl⟩) rfl hl.1 rfl (Nat.le_of_ble_eq_true rfl) dX8_digestOfHull_76 ⟨Nat.le_refl _, Nat.le_refl _⟩ (fun r_76 hr_76 => ?_)
  subst hr_76
  refine lv_i2l hx hb dX8_digestOfHull_79 rfl ?_
  refine lv_ladd hx hb dX8_digestOfHull_80 ?_
  refine x_topL S (y := xfold h0 HV 4) (by rw [hHV]; rfl) ?_
  refine lv_lstore (lv' := [(4, .long (xfold h0 HV 4)), (0, .ref (α 0)), (1, .long h0), (3, .int (nI k))]) hx hb dX8_digestOfHull_81 hl (by decide) rfl (fun ls hl => ?_)
  refine lv_ldc2 hx hb S.2.2.2.1 (S.2.2.2.2 (.constantLong RX8 278 (31)) (List.mem_of_getElem? (i := 1) rfl)) dX8_digestOfHull_83 ?_
  refine lv_lload hx hb dX8_digestOfHull_86 (lv_at hl 0 rfl) ?_
  refine lv_lmul hx hb dX8_digestOfHull_88 ?_
  refine lv_aload_n hx hb dX8_digestOfHull_89 rfl (lv_at hl 1 rfl) ?_
  refine lv_iload_n hx hb dX8_digestOfHull_90 rfl (lv_at hl 3 rfl) ?_
  refine x_cVWi (As := [.int (nI k)]) (rest := [.long ((31 : Int64) * (xfold h0 HV 4))]) S hK hP hS (fun _ h => h) 0 (by omega) rfl rfl (c_X8_sound l σ hI (nI k)  ) (x_cwV (n0 := 1) (cq := (RX8, TX8, 9)) S gX8_digestOfHull_X8_sound rfl (by decide +kernel) ⟨Nat.le_of_ble_eq_true rfl, Nat.le_of_ble_eq_true rfl⟩) rfl hl.1 rfl (Nat.le_of_ble_eq_true rfl) dX8_digestOfHull_91 ⟨Nat.le_refl _, Nat.le_refl _⟩ (fun r_91 τ_91 H locs hr_91 hP hk_91 hS => ?_)
  obtain ⟨hr_91, hcs_91⟩ := hr_91
  subst hr_91
  have hs := hcs_91
  refine lv_i2l hx hb dX8_digestOfHull_94 rfl ?_
  refine lv_ladd hx hb dX8_digestOfHull_95 ?_
  refine x_topL S (y := xfold h0 HV 5) (by rw [hHV]; rfl) ?_
  refine lv_lstore (lv' := [(4, .long (xfold h0 HV 5)), (0, .ref (α 0)), (1, .long h0), (3, .int (nI k))]) hx hb dX8_digestOfHull_96 hl (by decide) rfl (fun ls hl => ?_)
  refine lv_ldc2 hx hb S.2.2.2.1 (S.2.2.2.2 (.constantLong RX8 278 (31)) (List.mem_of_getElem? (i := 1) rfl)) dX8_digestOfHull_98 ?_
  refine lv_lload hx hb dX8_digestOfHull_101 (lv_at hl 0 rfl) ?_
  refine lv_lmul hx hb dX8_digestOfHull_103 ?_
  refine lv_aload_n hx hb dX8_digestOfHull_104 rfl (lv_at hl 1 rfl) ?_
  refine lv_iload_n hx hb dX8_digestOfHull_105 rfl (lv_at hl 3 rfl) ?_
  refine lv_iload_n hx hb dX8_digestOfHull_106 rfl (lv_at hl 3 rfl) ?_
  refine lv_iconst (v := nI 0) hx hb dX8_digestOfHull_107 (by decide) ?_
  refine x_cVWl (As := [.int (nI k), .int (nI k), .int (nI 0)]) (rest := [.long ((31 : Int64) * (xfold h0 HV 5))]) S hK hP hS (fun _ h => h) 0 (by omega) rfl rfl (c_X8_chance l τ_91 hI (nI k) (nI k) (nI 0)  ) (x_cwV (n0 := 3) (cq := (RX8, TX8, 9)) S gX8_digestOfHull_X8_chance rfl (by decide +kernel) ⟨Nat.le_of_ble_eq_true rfl, Nat.le_of_ble_eq_true rfl⟩) rfl hl.1 rfl (Nat.le_of_ble_eq_true rfl) dX8_digestOfHull_108 ⟨Nat.le_refl _, Nat.le_refl _⟩ (fun r_108 τ_108 H locs hr_108 hP hk_108 hS => ?_)
  obtain ⟨hr_108, hcs_108⟩ := hr_108
  subst hr_108
  have hs2 := xCs_tr hs hcs_108
  refine x_topL S (y := xp_chance (xA (xFC σ)) (nI k) (nI k) (nI 0)) (by rw [xCs_F hs]) ?_
  refine lv_ladd hx hb dX8_digestOfHull_111 ?_
  refine x_topL S (y := xfold h0 HV 6) (by rw [hHV]; rfl) ?_
  refine lv_lstore (lv' := [(4, .long (xfold h0 HV 6)), (0, .ref (α 0)), (1, .long h0), (3, .int (nI k))]) hx hb dX8_digestOfHull_112 hl (by decide) rfl (fun ls hl => ?_)
  refine lv_ldc2 hx hb S.2.2.2.1 (S.2.2.2.2 (.constantLong RX8 278 (31)) (List.mem_of_getElem? (i := 1) rfl)) dX8_digestOfHull_114 ?_
  refine lv_lload hx hb dX8_digestOfHull_117 (lv_at hl 0 rfl) ?_
  refine lv_lmul hx hb dX8_digestOfHull_119 ?_
  refine lv_aload_n hx hb dX8_digestOfHull_120 rfl (lv_at hl 1 rfl) ?_
  refine lv_iload_n hx hb dX8_digestOfHull_121 rfl (lv_at hl 3 rfl) ?_
  refine lv_iload_n hx hb dX8_digestOfHull_122 rfl (lv_at hl 3 rfl) ?_
  refine lv_iconst (v := nI 1) hx hb dX8_digestOfHull_123 (by decide) ?_
  refine x_cVWl (As := [.int (nI k), .int (nI k), .int (nI 1)]) (rest := [.long ((31 : Int64) * (xfold h0 HV 6))]) S hK hP hS (fun _ h => h) 0 (by omega) rfl rfl (c_X8_chance l τ_108 hI (nI k) (nI k) (nI 1)  ) (x_cwV (n0 := 3) (cq := (RX8, TX8, 9)) S gX8_digestOfHull_X8_chance rfl (by decide +kernel) ⟨Nat.le_of_ble_eq_true rfl, Nat.le_of_ble_eq_true rfl⟩) rfl hl.1 rfl (Nat.le_of_ble_eq_true rfl) dX8_digestOfHull_124 ⟨Nat.le_refl _, Nat.le_refl _⟩ (fun r_124 τ_124 H locs hr_124 hP hk_124 hS => ?_)
  obtain ⟨hr_124, hcs_124⟩ := hr_124
  subst hr_124
  have hs3 := xCs_tr hs2 hcs_124
  refine x_topL S (y := xp_chance (xA (xFC σ)) (nI k) (nI k) (nI 1)) (by rw [xCs_F hs2]) ?_
  refine lv_ladd hx hb dX8_digestOfHull_127 ?_
  refine x_topL S (y := xfold h0 HV 7) (by rw [hHV]; rfl) ?_
  refine lv_lstore (lv' := [(4, .long (xfold h0 HV 7)), (0, .ref (α 0)), (1, .long h0), (3, .int (nI k))]) hx hb dX8_digestOfHull_128 hl (by decide) rfl (fun ls hl => ?_)
  refine lv_ldc2 hx hb S.2.2.2.1 (S.2.2.2.2 (.constantLong RX8 278 (31)) (List.mem_of_getElem? (i := 1) rfl)) dX8_digestOfHull_130 ?_
  refine lv_lload hx hb dX8_digestOfHull_133 (lv_at hl 0 rfl) ?_
  refine lv_lmul hx hb dX8_digestOfHull_135 ?_
  refine lv_aload_n hx hb dX8_digestOfHull_136 rfl (lv_at hl 1 rfl) ?_
  refine lv_iload_n hx hb dX8_digestOfHull_137 rfl (lv_at hl 3 rfl) ?_
  refine lv_iconst (v := nI 0) hx hb dX8_digestOfHull_138 (by decide) ?_
  refine x_cVRl (As := [.int (nI k), .int (nI 0)]) (rest := [.long ((31 : Int64) * (xfold h0 HV 7))]) S hK hP 0 (by omega) rfl rfl (c_X8_ahead l τ_124 (nI k) (nI 0)  (xCs_IC hs3 hC)) (x_cwV (n0 := 2) (cq := (RX8, TX8, 9)) S gX8_digestOfHull_X8_ahead rfl (by decide +kernel) ⟨Nat.le_of_ble_eq_true rfl, Nat.le_of_ble_eq_true rfl⟩) rfl hl.1 rfl (Nat.le_of_ble_eq_true rfl) dX8_digestOfHull_139 ⟨Nat.le_refl _, Nat.le_refl _⟩ (fun r_139 hr_139 => ?_)
  subst hr_139
  refine x_topL S (y := xp_ahead (xE (xFC σ)) (nI k) (nI 0)) (by rw [xCs_F hs3]) ?_
  refine lv_ladd hx hb dX8_digestOfHull_142 ?_
  refine x_topL S (y := xfold h0 HV 8) (by rw [hHV]; rfl) ?_
  refine lv_lstore (lv' := [(4, .long (xfold h0 HV 8)), (0, .ref (α 0)), (1, .long h0), (3, .int (nI k))]) hx hb dX8_digestOfHull_143 hl (by decide) rfl (fun ls hl => ?_)
  refine lv_ldc2 hx hb S.2.2.2.1 (S.2.2.2.2 (.constantLong RX8 278 (31)) (List.mem_of_getElem? (i := 1) rfl)) dX8_digestOfHull_145 ?_
  refine lv_lload hx hb dX8_digestOfHull_148 (lv_at hl 0 rfl) ?_
  refine lv_lmul hx hb dX8_digestOfHull_150 ?_
  refine lv_aload_n hx hb dX8_digestOfHull_151 rfl (lv_at hl 1 rfl) ?_
  refine lv_iload_n hx hb dX8_digestOfHull_152 rfl (lv_at hl 3 rfl) ?_
  refine lv_iconst (v := nI 1) hx hb dX8_digestOfHull_153 (by decide) ?_
  refine x_cVRl (As := [.int (nI k), .int (nI 1)]) (rest := [.long ((31 : Int64) * (xfold h0 HV 8))]) S hK hP 0 (by omega) rfl rfl (c_X8_ahead l τ_124 (nI k) (nI 1)  (xCs_IC hs3 hC)) (x_cwV (n0 := 2) (cq := (RX8, TX8, 9)) S gX8_digestOfHull_X8_ahead rfl (by decide +kernel) ⟨Nat.le_of_ble_eq_true rfl, Nat.le_of_ble_eq_true rfl⟩) rfl hl.1 rfl (Nat.le_of_ble_eq_true rfl) dX8_digestOfHull_154 ⟨Nat.le_refl _, Nat.le_refl _⟩ (fun r_154 hr_154 => ?_)
  subst hr_154
  refine x_topL S (y := xp_ahead (xE (xFC σ)) (nI k) (nI 1)) (by rw [xCs_F hs3]) ?_
  refine lv_ladd hx hb dX8_digestOfHull_157 ?_
  refine x_topL S (y := xfold h0 HV 9) (by rw [hHV]; rfl) ?_
  refine lv_lstore (lv' := [(4, .long (xfold h0 HV 9)), (0, .ref (α 0)), (1, .long h0), (3, .int (nI k))]) hx hb dX8_digestOfHull_158 hl (by decide) rfl (fun ls hl => ?_)
  refine lv_ldc2 hx hb S.2.2.2.1 (S.2.2.2.2 (.constantLong RX8 278 (31)) (List.mem_of_getElem? (i := 1) rfl)) dX8_digestOfHull_160 ?_
  refine lv_lload hx hb dX8_digestOfHull_163 (lv_at hl 0 rfl) ?_
  refine lv_lmul hx hb dX8_digestOfHull_165 ?_
  refine lv_aload_n hx hb dX8_digestOfHull_166 rfl (lv_at hl 1 rfl) ?_
  refine lv_iload_n hx hb dX8_digestOfHull_167 rfl (lv_at hl 3 rfl) ?_
  refine x_cVWi (As := [.int (nI k)]) (rest := [.long ((31 : Int64) * (xfold h0 HV 9))]) S hK hP hS (fun _ h => h) 0 (by omega) rfl rfl (c_X8_best l τ_124 hI (nI k)  (xCs_IC hs3 hC)) (x_cwV (n0 := 1) (cq := (RX8, TX8, 9)) S gX8_digestOfHull_X8_best rfl (by decide +kernel) ⟨Nat.le_of_ble_eq_true rfl, Nat.le_of_ble_eq_true rfl⟩) rfl hl.1 rfl (Nat.le_of_ble_eq_true rfl) dX8_digestOfHull_168 ⟨Nat.le_refl _, Nat.le_refl _⟩ (fun r_168 τ_168 H locs hr_168 hP hk_168 hS => ?_)
  obtain ⟨hr_168, hcs_168⟩ := hr_168
  subst hr_168
  have hs4 := xCs_tr hs3 hcs_168
  refine x_top S (y := xp_best (xE (xFC σ)) (nI k)) (by rw [xCs_F hs3]) ?_
  refine lv_i2l hx hb dX8_digestOfHull_171 rfl ?_
  refine lv_ladd hx hb dX8_digestOfHull_172 ?_
  refine x_topL S (y := xfold h0 HV 10) (by rw [hHV]; rfl) ?_
  refine lv_lstore (lv' := [(4, .long (xfold h0 HV 10)), (0, .ref (α 0)), (1, .long h0), (3, .int (nI k))]) hx hb dX8_digestOfHull_173 hl (by decide) rfl (fun ls hl => ?_)
  refine lv_ldc2 hx hb S.2.2.2.1 (S.2.2.2.2 (.constantLong RX8 278 (31)) (List.mem_of_getElem? (i := 1) rfl)) dX8_digestOfHull_175 ?_
  refine lv_lload hx hb dX8_digestOfHull_178 (lv_at hl 0 rfl) ?_
  refine lv_lmul hx hb dX8_digestOfHull_180 ?_
  refine lv_aload_n hx hb dX8_digestOfHull_181 rfl (lv_at hl 1 rfl) ?_
  refine lv_bipush (v := nI 7) hx hb dX8_digestOfHull_182 (by decide) ?_
  refine lv_iload_n hx hb dX8_digestOfHull_184 rfl (lv_at hl 3 rfl) ?_
  refine x_cVRi (As := [.int (nI 7), .int (nI k)]) (rest := [.long ((31 : Int64) * (xfold h0 HV 10))]) S hK hP 0 (by omega) rfl rfl (c_X8_lot l τ_168 (nI 7) (nI k)  ) (x_cwV (n0 := 2) (cq := (RX8, TX8, 9)) S gX8_digestOfHull_X8_lot rfl (by decide +kernel) ⟨Nat.le_of_ble_eq_true rfl, Nat.le_of_ble_eq_true rfl⟩) rfl hl.1 rfl (Nat.le_of_ble_eq_true rfl) dX8_digestOfHull_185 ⟨Nat.le_refl _, Nat.le_refl _⟩ (fun r_185 hr_185 => ?_)
  subst hr_185
  refine lv_i2l hx hb dX8_digestOfHull_188 rfl ?_
  refine lv_ladd hx hb dX8_digestOfHull_189 ?_
  refine x_topL S (y := xfold h0 HV 11) (by rw [hHV]; rfl) ?_
  refine lv_lstore (lv' := [(4, .long (xfold h0 HV 11)), (0, .ref (α 0)), (1, .long h0), (3, .int (nI k))]) hx hb dX8_digestOfHull_190 hl (by decide) rfl (fun ls hl => ?_)
  refine lv_iconst (v := nI 0) hx hb dX8_digestOfHull_192 (by decide) ?_
  refine lv_istore (lv' := [(6, .int (nI 0)), (4, .long (xfold h0 HV 11)), (0, .ref (α 0)), (1, .long h0), (3, .int (nI k))]) hx hb dX8_digestOfHull_193 hl (by decide) rfl (fun ls hl => ?_)
  refine lv_iload hx hb dX8_digestOfHull_195 (lv_at hl 0 rfl) ?_
  refine lv_iconst (v := nI 3) hx hb dX8_digestOfHull_197 (by decide) ?_
  refine x_icmpN_ge (tgt := 224) S dX8_digestOfHull_198 (by decide) (by omega) (by omega) (fun q => absurd q (by omega)) (fun _ => ?_)
  refine lv_ldc2 hx hb S.2.2.2.1 (S.2.2.2.2 (.constantLong RX8 278 (31)) (List.mem_of_getElem? (i := 1) rfl)) dX8_digestOfHull_201 ?_
  refine lv_lload hx hb dX8_digestOfHull_204 (lv_at hl 1 rfl) ?_
  refine lv_lmul hx hb dX8_digestOfHull_206 ?_
  refine lv_aload_n hx hb dX8_digestOfHull_207 rfl (lv_at hl 2 rfl) ?_
  refine lv_iload_n hx hb dX8_digestOfHull_208 rfl (lv_at hl 4 rfl) ?_
  refine lv_iload hx hb dX8_digestOfHull_209 (lv_at hl 0 rfl) ?_
  refine x_cVRi (As := [.int (nI k), .int (nI 0)]) (rest := [.long ((31 : Int64) * (xfold h0 HV 11))]) S hK hP 0 (by omega) rfl rfl (c_X8_owed l τ_168 (nI k) (nI 0)  (xCs_IC hs4 hC)) (x_cwV (n0 := 2) (cq := (RX8, TX8, 9)) S gX8_digestOfHull_X8_owed rfl (by decide +kernel) ⟨Nat.le_of_ble_eq_true rfl, Nat.le_of_ble_eq_true rfl⟩) rfl hl.1 rfl (Nat.le_of_ble_eq_true rfl) dX8_digestOfHull_211 ⟨Nat.le_refl _, Nat.le_refl _⟩ (fun r_211 hr_211 => ?_)
  subst hr_211
  refine x_top S (y := xp_owed (σ 10) (xYC σ) (σ 13) (σ 14) (σ 15) (xcC σ) (nI k) (nI 0)) (by rw [xCs_k hs4 (by decide), xCs_Y hs4, xCs_k hs4 (by decide), xCs_k hs4 (by decide), xCs_k hs4 (by decide), xCs_c hs4]) ?_
  refine lv_i2l hx hb dX8_digestOfHull_214 rfl ?_
  refine lv_ladd hx hb dX8_digestOfHull_215 ?_
  refine x_topL S (y := xfold h0 HV 12) (by rw [hHV]; rfl) ?_
  refine lv_lstore (lv' := [(4, .long (xfold h0 HV 12)), (6, .int (nI 0)), (0, .ref (α 0)), (1, .long h0), (3, .int (nI k))]) hx hb dX8_digestOfHull_216 hl (by decide) rfl (fun ls hl => ?_)
  refine lv_iinc (v := nI 1) (lv' := [(6, .int (nI 1)), (4, .long (xfold h0 HV 12)), (0, .ref (α 0)), (1, .long h0), (3, .int (nI k))]) hx hb dX8_digestOfHull_218 hl (k := 1) rfl (by decide) (by decide) rfl (fun ls hl => ?_)
  refine lv_goto (tgt := 195) hx hb dX8_digestOfHull_221 (by decide) ?_
  refine lv_iload hx hb dX8_digestOfHull_195 (lv_at hl 0 rfl) ?_
  refine lv_iconst (v := nI 3) hx hb dX8_digestOfHull_197 (by decide) ?_
  refine x_icmpN_ge (tgt := 224) S dX8_digestOfHull_198 (by decide) (by omega) (by omega) (fun q => absurd q (by omega)) (fun _ => ?_)
  refine lv_ldc2 hx hb S.2.2.2.1 (S.2.2.2.2 (.constantLong RX8 278 (31)) (List.mem_of_getElem? (i := 1) rfl)) dX8_digestOfHull_201 ?_
  refine lv_lload hx hb dX8_digestOfHull_204 (lv_at hl 1 rfl) ?_
  refine lv_lmul hx hb dX8_digestOfHull_206 ?_
  refine lv_aload_n hx hb dX8_digestOfHull_207 rfl (lv_at hl 2 rfl) ?_
  refine lv_iload_n hx hb dX8_digestOfHull_208 rfl (lv_at hl 4 rfl) ?_
  refine lv_iload hx hb dX8_digestOfHull_209 (lv_at hl 0 rfl) ?_
  refine x_cVRi (As := [.int (nI k), .int (nI 1)]) (rest := [.long ((31 : Int64) * (xfold h0 HV 12))]) S hK hP 0 (by omega) rfl rfl (c_X8_owed l τ_168 (nI k) (nI 1)  (xCs_IC hs4 hC)) (x_cwV (n0 := 2) (cq := (RX8, TX8, 9)) S gX8_digestOfHull_X8_owed rfl (by decide +kernel) ⟨Nat.le_of_ble_eq_true rfl, Nat.le_of_ble_eq_true rfl⟩) rfl hl.1 rfl (Nat.le_of_ble_eq_true rfl) dX8_digestOfHull_211 ⟨Nat.le_refl _, Nat.le_refl _⟩ (fun r_211 hr_211 => ?_)
  subst hr_211
  refine x_top S (y := xp_owed (σ 10) (xYC σ) (σ 13) (σ 14) (σ 15) (xcC σ) (nI k) (nI 1)) (by rw [xCs_k hs4 (by decide), xCs_Y hs4, xCs_k hs4 (by decide), xCs_k hs4 (by decide), xCs_k hs4 (by decide), xCs_c hs4]) ?_
  refine lv_i2l hx hb dX8_digestOfHull_214 rfl ?_
  refine lv_ladd hx hb dX8_digestOfHull_215 ?_
  refine x_topL S (y := xfold h0 HV 13) (by rw [hHV]; rfl) ?_
  refine lv_lstore (lv' := [(4, .long (xfold h0 HV 13)), (6, .int (nI 1)), (0, .ref (α 0)), (1, .long h0), (3, .int (nI k))]) hx hb dX8_digestOfHull_216 hl (by decide) rfl (fun ls hl => ?_)
  refine lv_iinc (v := nI 2) (lv' := [(6, .int (nI 2)), (4, .long (xfold h0 HV 13)), (0, .ref (α 0)), (1, .long h0), (3, .int (nI k))]) hx hb dX8_digestOfHull_218 hl (k := 1) rfl (by decide) (by decide) rfl (fun ls hl => ?_)
  refine lv_goto (tgt := 195) hx hb dX8_digestOfHull_221 (by decide) ?_
  refine lv_iload hx hb dX8_digestOfHull_195 (lv_at hl 0 rfl) ?_
  refine lv_iconst (v := nI 3) hx hb dX8_digestOfHull_197 (by decide) ?_
  refine x_icmpN_ge (tgt := 224) S dX8_digestOfHull_198 (by decide) (by omega) (by omega) (fun q => absurd q (by omega)) (fun _ => ?_)
  refine lv_ldc2 hx hb S.2.2.2.1 (S.2.2.2.2 (.constantLong RX8 278 (31)) (List.mem_of_getElem? (i := 1) rfl)) dX8_digestOfHull_201 ?_
  refine lv_lload hx hb dX8_digestOfHull_204 (lv_at hl 1 rfl) ?_
  refine lv_lmul hx hb dX8_digestOfHull_206 ?_
  refine lv_aload_n hx hb dX8_digestOfHull_207 rfl (lv_at hl 2 rfl) ?_
  refine lv_iload_n hx hb dX8_digestOfHull_208 rfl (lv_at hl 4 rfl) ?_
  refine lv_iload hx hb dX8_digestOfHull_209 (lv_at hl 0 rfl) ?_
  refine x_cVRi (As := [.int (nI k), .int (nI 2)]) (rest := [.long ((31 : Int64) * (xfold h0 HV 13))]) S hK hP 0 (by omega) rfl rfl (c_X8_owed l τ_168 (nI k) (nI 2)  (xCs_IC hs4 hC)) (x_cwV (n0 := 2) (cq := (RX8, TX8, 9)) S gX8_digestOfHull_X8_owed rfl (by decide +kernel) ⟨Nat.le_of_ble_eq_true rfl, Nat.le_of_ble_eq_true rfl⟩) rfl hl.1 rfl (Nat.le_of_ble_eq_true rfl) dX8_digestOfHull_211 ⟨Nat.le_refl _, Nat.le_refl _⟩ (fun r_211 hr_211 => ?_)
  subst hr_211
  refine x_top S (y := xp_owed (σ 10) (xYC σ) (σ 13) (σ 14) (σ 15) (xcC σ) (nI k) (nI 2)) (by rw [xCs_k hs4 (by decide), xCs_Y hs4, xCs_k hs4 (by decide), xCs_k hs4 (by decide), xCs_k hs4 (by decide), xCs_c hs4]) ?_
  refine lv_i2l hx hb dX8_digestOfHull_214 rfl ?_
  refine lv_ladd hx hb dX8_digestOfHull_215 ?_
  refine x_topL S (y := xfold h0 HV 14) (by rw [hHV]; rfl) ?_
  refine lv_lstore (lv' := [(4, .long (xfold h0 HV 14)), (6, .int (nI 2)), (0, .ref (α 0)), (1, .long h0), (3, .int (nI k))]) hx hb dX8_digestOfHull_216 hl (by decide) rfl (fun ls hl => ?_)
  refine lv_iinc (v := nI 3) (lv' := [(6, .int (nI 3)), (4, .long (xfold h0 HV 14)), (0, .ref (α 0)), (1, .long h0), (3, .int (nI k))]) hx hb dX8_digestOfHull_218 hl (k := 1) rfl (by decide) (by decide) rfl (fun ls hl => ?_)
  refine lv_goto (tgt := 195) hx hb dX8_digestOfHull_221 (by decide) ?_
  refine lv_iload hx hb dX8_digestOfHull_195 (lv_at hl 0 rfl) ?_
  refine lv_iconst (v := nI 3) hx hb dX8_digestOfHull_197 (by decide) ?_
  refine x_icmpN_ge (tgt := 224) S dX8_digestOfHull_198 (by decide) (by omega) (by omega) (fun _ => ?_) (fun q => absurd q (by omega))
  refine lv_ldc2 hx hb S.2.2.2.1 (S.2.2.2.2 (.constantLong RX8 278 (31)) (List.mem_of_getElem? (i := 1) rfl)) dX8_digestOfHull_224 ?_
  refine lv_lload hx hb dX8_digestOfHull_227 (lv_at hl 1 rfl) ?_
  refine lv_lmul hx hb dX8_digestOfHull_229 ?_
  refine lv_aload_n hx hb dX8_digestOfHull_230 rfl (lv_at hl 2 rfl) ?_
  refine lv_iload_n hx hb dX8_digestOfHull_231 rfl (lv_at hl 4 rfl) ?_
  refine x_cVWi (As := [.int (nI k)]) (rest := [.long ((31 : Int64) * (xfold h0 HV 14))]) S hK hP hS (fun _ h => h) 0 (by omega) rfl rfl (c_X8_could l τ_168 hI (nI k)  (xCs_IC hs4 hC)) (x_cwV (n0 := 1) (cq := (RX8, TX8, 9)) S gX8_digestOfHull_X8_could rfl (by decide +kernel) ⟨Nat.le_of_ble_eq_true rfl, Nat.le_of_ble_eq_true rfl⟩) rfl hl.1 rfl (Nat.le_of_ble_eq_true rfl) dX8_digestOfHull_232 ⟨Nat.le_refl _, Nat.le_refl _⟩ (fun r_232 τ_232 H locs hr_232 hP hk_232 hS => ?_)
  obtain ⟨hr_232, hcs_232⟩ := hr_232
  subst hr_232
  have hs5 := xCs_tr hs4 hcs_232
  refine x_top S (y := xp_could (xB (xFC σ) (σ 17) (σ 18) (σ 19) (xsC σ)) (nI k)) (by rw [xCs_F hs4, xCs_k hs4 (by decide), xCs_k hs4 (by decide), xCs_k hs4 (by decide), xCs_s hs4]) ?_
  refine lv_i2l hx hb dX8_digestOfHull_235 rfl ?_
  refine lv_ladd hx hb dX8_digestOfHull_236 ?_
  refine x_topL S (y := xfold h0 HV 15) (by rw [hHV]; rfl) ?_
  exact x_lretW S hlocks hP hS hr (⟨by rw [hHV], hs5⟩) dX8_digestOfHull_237
set_option maxHeartbeats 4000000 in
set_option maxRecDepth 100000 in
theorem c_X8_digest (l : Launch) {D : va_G} {K : Nat → ClassId} {α : Nat → Nat} (σ : Nat → Nat → Int32) (hI : xw_I 42 α)   (hC : xIC σ) : Met l yX8_digest wsX8_digest (xrm 6) (va_Pc [.ref (α 0)] (xPre D K 42 α (xC α K) σ)) (xQl D 42 α (xC α K) (fun r τ => r = xdig (xFC σ) (σ 10) (xYC σ) (xLC σ) (σ 13) (σ 14) (σ 15) (xcC σ) (xB (xFC σ) (σ 17) (σ 18) (σ 19) (xsC σ)) (xsC σ) (σ 0 8) ∧ xCs σ τ)) 0 0 (xw_R 42 α) := by
  refine Met.ofW (cc := cX8_digest) (maxL := 4) (ret := (some .long)) (by decide) rfl ?_
  intro p e s m args below meth c s₁ B hml hv
  obtain ⟨rfl, hK, hP⟩ := hv
  have S : CallFix p m c cX8_digest 4 s _ wsX8_digest RX8 := ⟨B.exec, B.bytes, hml, findClass_of_methodNamed B.named, atoms_spec (ws := wsX8_digest) B.pre⟩
  have hx := S.1
  have hb := S.2.1
  have hr := B.returns
  have hlocks := B.notSynchronized
  have hS : va_S (xw_R 42 α) s.heap s.heap [] := va_S.rf
  have hl := lv_entry ([.ref (α 0)]) (n := 4) (Nat.le_of_ble_eq_true rfl)
  rw [lg_entry_eq]
  generalize (lg_sl ([.ref (α 0)]) ++ List.replicate (4 - (lg_sl ([.ref (α 0)])).length) Slot.unset).toArray = ls at hl ⊢
  have hl : lv_has ls 4 [(0, .ref (α 0))] := hl
  have hPP := hP
  have hYr := hC.2.1.2
  have hY12 := xIC_12 hC
  obtain ⟨HV, hHV⟩ : ∃ z, z = (xhv (xFC σ) (σ 10) (xYC σ) (σ 13) (σ 14) (σ 15) (xcC σ) (xB (xFC σ) (σ 17) (σ 18) (σ 19) (xsC σ))) := ⟨_, rfl⟩
  obtain ⟨d0, hd0⟩ : ∃ z, z = (31 * xfold 17 (fun k => (xp_count (xcv (xFC σ) (σ 10) (xYC σ) (xLC σ) (xcC σ) (xsC σ) (σ 0 8)) (nI k)).toInt64) 8 + (xt_fault (σ 10) (xLC σ)).toInt64) := ⟨_, rfl⟩
  obtain ⟨d1, hd1⟩ : ∃ z, z = xfold2 d0 HV 15 6 := ⟨_, rfl⟩
  obtain ⟨DV, hDV⟩ : ∃ z, z = (fun n j => (xp_debt (xFC σ) (σ 10) (xYC σ) (nI n) (nI (xYC σ)) (nI j)).toInt64) := ⟨_, rfl⟩
  obtain ⟨d2, hd2⟩ : ∃ z, z = xfold2 d1 DV 2 6 := ⟨_, rfl⟩
  obtain ⟨YV, hYV⟩ : ∃ z, z = (xyv (xFC σ) (σ 10) (xYC σ)) := ⟨_, rfl⟩
  obtain ⟨d3, hd3⟩ : ∃ z, z = xfold2 d2 YV 3 (xYC σ) := ⟨_, rfl⟩
  obtain ⟨EV, hEV⟩ : ∃ z, z = (xev (xFC σ) (σ 10) (xYC σ) (σ 13) (σ 14) (xcC σ) (xB (xFC σ) (σ 17) (σ 18) (σ 19) (xsC σ))) := ⟨_, rfl⟩
  refine lv_ldc2 hx hb S.2.2.2.1 (S.2.2.2.2 (.constantLong RX8 276 (17)) (List.mem_of_getElem? (i := 1) rfl)) dX8_digest_0 ?_
  refine lv_lstore_n (lv' := [(1, .long (17 : Int64)), (0, .ref (α 0))]) hx hb dX8_digest_3 rfl hl (by decide) rfl (fun ls hl => ?_)
  refine lv_iconst (v := nI 0) hx hb dX8_digest_4 (by decide) ?_
  refine lv_istore_n (lv' := [(3, .int (nI 0)), (1, .long (17 : Int64)), (0, .ref (α 0))]) hx hb dX8_digest_5 rfl hl (by decide) rfl (fun ls hl => ?_)
  refine x_loopW (ι := Nat) (fun i H locs ls => (i ≤ 8) ∧ lv_has ls 4 [(3, .int (nI i)), (1, .long (xfold 17 (fun k => (xp_count (xcv (xFC σ) (σ 10) (xYC σ) (xLC σ) (xcC σ) (xsC σ) (σ 0 8)) (nI k)).toInt64) i)), (0, .ref (α 0))] ∧ va_P D vwCl (xw 42 α (xC α K) σ) H ∧ va_S (xw_R 42 α) s.heap H locs) (fun i => 8 - i) ?_ 0 ls ⟨Nat.zero_le _, lv_sub hl [0, 1, 2] rfl, hP, hS⟩
  intro i H locs ls hinv ih_6
  obtain ⟨hi, hl, hP, hS⟩ := hinv
  have hl : lv_has ls 4 [(3, .int (nI i)), (1, .long (xfold 17 (fun k => (xp_count (xcv (xFC σ) (σ 10) (xYC σ) (xLC σ) (xcC σ) (xsC σ) (σ 0 8)) (nI k)).toInt64) i)), (0, .ref (α 0))] := hl
  have hP : va_P D vwCl (xw 42 α (xC α K) σ) H := hP
  refine lv_iload_n hx hb dX8_digest_6 rfl (lv_at hl 0 rfl) ?_
  refine lv_bipush (v := nI 8) hx hb dX8_digest_7 (by decide) ?_
  refine x_icmpN_ge (tgt := 31) S dX8_digest_9 (by decide) (by omega) (by omega) (fun c_9 => ?_) (fun c_9 => ?_)
  · have e9 : i = 8 := by omega
    subst e9
    refine lv_ldc2 hx hb S.2.2.2.1 (S.2.2.2.2 (.constantLong RX8 278 (31)) (List.mem_of_getElem? (i := 2) rfl)) dX8_digest_31 ?_
    refine lv_lload_n hx hb dX8_digest_34 rfl (lv_at hl 1 rfl) ?_
    refine lv_lmul hx hb dX8_digest_35 ?_
    refine lv_aload_n hx hb dX8_digest_36 rfl (lv_at hl 2 rfl) ?_
    refine x_cVRi (As := []) (rest := [.long ((31 : Int64) * (xfold 17 (fun k => (xp_count (xcv (xFC σ) (σ 10) (xYC σ) (xLC σ) (xcC σ) (xsC σ) (σ 0 8)) (nI k)).toInt64) 8))]) S hK hP 0 (by omega) rfl rfl (c_X8_fault l σ   (by first | assumption | omega)) (x_cwV (n0 := 0) (cq := (RX8, TX8, 9)) S gX8_digest_X8_fault rfl (by decide +kernel) ⟨Nat.le_of_ble_eq_true rfl, Nat.le_of_ble_eq_true rfl⟩) rfl hl.1 rfl (Nat.le_of_ble_eq_true rfl) dX8_digest_37 ⟨Nat.le_refl _, Nat.le_refl _⟩ (fun r_37 hr_37 => ?_)
    subst hr_37
    refine lv_i2l hx hb dX8_digest_40 rfl ?_
    refine lv_ladd hx hb dX8_digest_41 ?_
    refine x_topL S (y := d0) (hd0.symm) ?_
    refine lv_lstore_n (lv' := [(1, .long d0), (3, .int (nI 8)), (0, .ref (α 0))]) hx hb dX8_digest_42 rfl hl (by decide) rfl (fun ls hl => ?_)
    refine lv_iconst (v := nI 0) hx hb dX8_digest_43 (by decide) ?_
    refine lv_istore_n (lv' := [(3, .int (nI 0)), (1, .long d0), (0, .ref (α 0))]) hx hb dX8_digest_44 rfl hl (by decide) rfl (fun ls hl => ?_)
    refine x_loopW (ι := Nat × (Nat → Nat → Int32)) (fun z9 H locs ls => match z9 with | ⟨i, τ⟩ => (i ≤ 6) ∧ (xCs σ τ) ∧ lv_has ls 4 [(3, .int (nI i)), (1, .long (xfold2 d0 HV 15 i)), (0, .ref (α 0))] ∧ va_P D vwCl (xw 42 α (xC α K) τ) H ∧ va_S (xw_R 42 α) s.heap H locs) (fun z9 => match z9 with | ⟨i, τ⟩ => 6 - i) ?_ (⟨0, σ⟩) ls ⟨Nat.zero_le _, xCs_rf _, lv_sub hl [0, 1, 2] rfl, hP, hS⟩
    intro z9 H locs ls hinv ih_45
    obtain ⟨i, τ⟩ := z9
    obtain ⟨hi, hs, hl, hP, hS⟩ := hinv
    have hl : lv_has ls 4 [(3, .int (nI i)), (1, .long (xfold2 d0 HV 15 i)), (0, .ref (α 0))] := hl
    have hP : va_P D vwCl (xw 42 α (xC α K) τ) H := hP
    refine lv_iload_n hx hb dX8_digest_45 rfl (lv_at hl 0 rfl) ?_
    refine lv_bipush (v := nI 6) hx hb dX8_digest_46 (by decide) ?_
    refine x_icmpN_ge (tgt := 64) S dX8_digest_48 (by decide) (by omega) (by omega) (fun c_48 => ?_) (fun c_48 => ?_)
    · have e9 : i = 6 := by omega
      subst e9
      rw [show xfold2 d0 HV 15 6 = d1 from hd1.symm] at hl
      have hCt := xCs_IC hs hC
      refine lv_iconst (v := nI 0) hx hb dX8_digest_64 (by decide) ?_
      refine lv_istore_n (lv' := [(3, .int (nI 0)), (1, .long d1), (0, .ref (α 0))]) hx hb dX8_digest_65 rfl hl (by decide) rfl (fun ls hl => ?_)
      refine x_loopW (ι := Nat) (fun i H locs ls => (i ≤ 6) ∧ lv_has ls 4 [(3, .int (nI i)), (1, .long (xfold2 d1 DV 2 i)), (0, .ref (α 0))] ∧ va_P D vwCl (xw 42 α (xC α K) τ) H ∧ va_S (xw_R 42 α) s.heap H locs) (fun i => 6 - i) ?_ 0 ls ⟨Nat.zero_le _, lv_sub hl [0, 1, 2] rfl, hP, hS⟩
      intro i H locs ls hinv ih_66
      obtain ⟨hi, hl, hP, hS⟩ := hinv
      have hl : lv_has ls 4 [(3, .int (nI i)), (1, .long (xfold2 d1 DV 2 i)), (0, .ref (α 0))] := hl
      have hP : va_P D vwCl (xw 42 α (xC α K) τ) H := hP
      refine lv_iload_n hx hb dX8_digest_66 rfl (lv_at hl 0 rfl) ?_
      refine lv_bipush (v := nI 6) hx hb dX8_digest_67 (by decide) ?_
      refine x_icmpN_ge (tgt := 120) S dX8_digest_69 (by decide) (by omega) (by omega) (fun c_69 => ?_) (fun c_69 => ?_)
      · have e9 : i = 6 := by omega
        subst e9
        rw [show xfold2 d1 DV 2 6 = d2 from hd2.symm] at hl
        refine lv_iconst (v := nI 0) hx hb dX8_digest_120 (by decide) ?_
        refine lv_istore_n (lv' := [(3, .int (nI 0)), (1, .long d2), (0, .ref (α 0))]) hx hb dX8_digest_121 rfl hl (by decide) rfl (fun ls hl => ?_)
        refine x_loopW (ι := Nat) (fun i H locs ls => (i ≤ xYC σ) ∧ lv_has ls 4 [(3, .int (nI i)), (1, .long (xfold2 d2 YV 3 i)), (0, .ref (α 0))] ∧ va_P D vwCl (xw 42 α (xC α K) τ) H ∧ va_S (xw_R 42 α) s.heap H locs) (fun i => xYC σ - i) ?_ 0 ls ⟨Nat.zero_le _, lv_sub hl [0, 1, 2] rfl, hP, hS⟩
        intro i H locs ls hinv ih_122
        obtain ⟨hi, hl, hP, hS⟩ := hinv
        have hl : lv_has ls 4 [(3, .int (nI i)), (1, .long (xfold2 d2 YV 3 i)), (0, .ref (α 0))] := hl
        have hP : va_P D vwCl (xw 42 α (xC α K) τ) H := hP
        refine lv_iload_n hx hb dX8_digest_122 rfl (lv_at hl 0 rfl) ?_
        refine lv_aload_n hx hb dX8_digest_123 rfl (lv_at hl 2 rfl) ?_
        refine x_get S (fun w h => List.mem_cons_of_mem _ (List.mem_append_left _ (List.mem_append_left _ (List.mem_append_left _ (List.mem_append_left _ (List.mem_append_left _ (List.mem_append_left _ (List.mem_append_left _ (List.mem_append_right _ h))))))))) hK hP 0 (by omega) rfl rfl 1 (by decide) (List.mem_of_getElem? (i := 3) rfl) rfl dX8_digest_124 ?_
        refine x_get S (fun w h => List.mem_cons_of_mem _ (List.mem_append_left _ (List.mem_append_left _ (List.mem_append_left _ (List.mem_append_left _ (List.mem_append_left _ (List.mem_append_left _ (List.mem_append_right _ h)))))))) hK hP 9 (by omega) rfl rfl 2 (by decide) (List.mem_of_getElem? (i := 4) rfl) rfl dX8_digest_127 ?_
        refine x_top S (y := nI (xYC σ)) (by rw [xCs_k hs (by decide)]; exact hYr) ?_
        refine x_icmpN_ge (tgt := 181) S dX8_digest_130 (by decide) (by omega) (by omega) (fun c_130 => ?_) (fun c_130 => ?_)
        · have e9 : i = xYC σ := by omega
          subst e9
          rw [show xfold2 d2 YV 3 (xYC σ) = d3 from hd3.symm] at hl
          refine lv_ldc2 hx hb S.2.2.2.1 (S.2.2.2.2 (.constantLong RX8 278 (31)) (List.mem_of_getElem? (i := 2) rfl)) dX8_digest_181 ?_
          refine lv_lload_n hx hb dX8_digest_184 rfl (lv_at hl 1 rfl) ?_
          refine lv_lmul hx hb dX8_digest_185 ?_
          refine lv_aload_n hx hb dX8_digest_186 rfl (lv_at hl 2 rfl) ?_
          refine lv_iconst (v := (-1)) hx hb dX8_digest_187 (by decide) ?_
          refine x_cVWi (As := [.int (-1 : Int32)]) (rest := [.long ((31 : Int64) * d3)]) S hK hP hS (fun _ h => h) 0 (by omega) rfl rfl (c_X8_sound l τ hI (-1 : Int32)  ) (x_cwV (n0 := 1) (cq := (RX8, TX8, 9)) S gX8_digest_X8_sound rfl (by decide +kernel) ⟨Nat.le_of_ble_eq_true rfl, Nat.le_of_ble_eq_true rfl⟩) rfl hl.1 rfl (Nat.le_of_ble_eq_true rfl) dX8_digest_188 ⟨Nat.le_refl _, Nat.le_refl _⟩ (fun r_188 τ_188 H locs hr_188 hP hk_188 hS => ?_)
          obtain ⟨hr_188, hcs_188⟩ := hr_188
          subst hr_188
          have hs2 := xCs_tr hs hcs_188
          refine x_top S (y := xp_sound (xA (xFC σ)) (-1)) (by rw [xCs_F hs]) ?_
          refine lv_i2l hx hb dX8_digest_191 rfl ?_
          refine lv_ladd hx hb dX8_digest_192 ?_
          refine x_topL S (y := xfold d3 EV 1) (by rw [hEV]; rfl) ?_
          refine lv_lstore_n (lv' := [(1, .long (xfold d3 EV 1)), (3, .int (nI (xYC σ))), (0, .ref (α 0))]) hx hb dX8_digest_193 rfl hl (by decide) rfl (fun ls hl => ?_)
          refine lv_ldc2 hx hb S.2.2.2.1 (S.2.2.2.2 (.constantLong RX8 278 (31)) (List.mem_of_getElem? (i := 2) rfl)) dX8_digest_194 ?_
          refine lv_lload_n hx hb dX8_digest_197 rfl (lv_at hl 0 rfl) ?_
          refine lv_lmul hx hb dX8_digest_198 ?_
          refine lv_aload_n hx hb dX8_digest_199 rfl (lv_at hl 2 rfl) ?_
          refine lv_iconst (v := (-1)) hx hb dX8_digest_200 (by decide) ?_
          refine x_cVWi (As := [.int (-1 : Int32)]) (rest := [.long ((31 : Int64) * (xfold d3 EV 1))]) S hK hP hS (fun _ h => h) 0 (by omega) rfl rfl (c_X8_best l τ_188 hI (-1 : Int32)  (xCs_IC hs2 hC)) (x_cwV (n0 := 1) (cq := (RX8, TX8, 9)) S gX8_digest_X8_best rfl (by decide +kernel) ⟨Nat.le_of_ble_eq_true rfl, Nat.le_of_ble_eq_true rfl⟩) rfl hl.1 rfl (Nat.le_of_ble_eq_true rfl) dX8_digest_201 ⟨Nat.le_refl _, Nat.le_refl _⟩ (fun r_201 τ_201 H locs hr_201 hP hk_201 hS => ?_)
          obtain ⟨hr_201, hcs_201⟩ := hr_201
          subst hr_201
          have hs3 := xCs_tr hs2 hcs_201
          refine x_top S (y := xp_best (xE (xFC σ)) (-1)) (by rw [xCs_F hs2]) ?_
          refine lv_i2l hx hb dX8_digest_204 rfl ?_
          refine lv_ladd hx hb dX8_digest_205 ?_
          refine x_topL S (y := xfold d3 EV 2) (by rw [hEV]; rfl) ?_
          refine lv_lstore_n (lv' := [(1, .long (xfold d3 EV 2)), (3, .int (nI (xYC σ))), (0, .ref (α 0))]) hx hb dX8_digest_206 rfl hl (by decide) rfl (fun ls hl => ?_)
          refine lv_ldc2 hx hb S.2.2.2.1 (S.2.2.2.2 (.constantLong RX8 278 (31)) (List.mem_of_getElem? (i := 2) rfl)) dX8_digest_207 ?_
          refine lv_lload_n hx hb dX8_digest_210 rfl (lv_at hl 0 rfl) ?_
          refine lv_lmul hx hb dX8_digest_211 ?_
          refine lv_aload_n hx hb dX8_digest_212 rfl (lv_at hl 2 rfl) ?_
          refine lv_iconst (v := (-1)) hx hb dX8_digest_213 (by decide) ?_
          refine x_cVWi (As := [.int (-1 : Int32)]) (rest := [.long ((31 : Int64) * (xfold d3 EV 2))]) S hK hP hS (fun _ h => h) 0 (by omega) rfl rfl (c_X8_could l τ_201 hI (-1 : Int32)  (xCs_IC hs3 hC)) (x_cwV (n0 := 1) (cq := (RX8, TX8, 9)) S gX8_digest_X8_could rfl (by decide +kernel) ⟨Nat.le_of_ble_eq_true rfl, Nat.le_of_ble_eq_true rfl⟩) rfl hl.1 rfl (Nat.le_of_ble_eq_true rfl) dX8_digest_214 ⟨Nat.le_refl _, Nat.le_refl _⟩ (fun r_214 τ_214 H locs hr_214 hP hk_214 hS => ?_)
          obtain ⟨hr_214, hcs_214⟩ := hr_214
          subst hr_214
          have hs4 := xCs_tr hs3 hcs_214
          refine x_top S (y := xp_could (xB (xFC σ) (σ 17) (σ 18) (σ 19) (xsC σ)) (-1)) (by rw [xCs_F hs3, xCs_k hs3 (by decide), xCs_k hs3 (by decide), xCs_k hs3 (by decide), xCs_s hs3]) ?_
          refine lv_i2l hx hb dX8_digest_217 rfl ?_
          refine lv_ladd hx hb dX8_digest_218 ?_
          refine x_topL S (y := xfold d3 EV 3) (by rw [hEV]; rfl) ?_
          refine lv_lstore_n (lv' := [(1, .long (xfold d3 EV 3)), (3, .int (nI (xYC σ))), (0, .ref (α 0))]) hx hb dX8_digest_219 rfl hl (by decide) rfl (fun ls hl => ?_)
          refine lv_ldc2 hx hb S.2.2.2.1 (S.2.2.2.2 (.constantLong RX8 278 (31)) (List.mem_of_getElem? (i := 2) rfl)) dX8_digest_220 ?_
          refine lv_lload_n hx hb dX8_digest_223 rfl (lv_at hl 0 rfl) ?_
          refine lv_lmul hx hb dX8_digest_224 ?_
          refine lv_aload_n hx hb dX8_digest_225 rfl (lv_at hl 2 rfl) ?_
          refine x_cVRi (As := []) (rest := [.long ((31 : Int64) * (xfold d3 EV 3))]) S hK hP 0 (by omega) rfl rfl (c_X8_disputed l τ_214   (xCs_IC hs4 hC)) (x_cwV (n0 := 0) (cq := (RX8, TX8, 9)) S gX8_digest_X8_disputed rfl (by decide +kernel) ⟨Nat.le_of_ble_eq_true rfl, Nat.le_of_ble_eq_true rfl⟩) rfl hl.1 rfl (Nat.le_of_ble_eq_true rfl) dX8_digest_226 ⟨Nat.le_refl _, Nat.le_refl _⟩ (fun r_226 hr_226 => ?_)
          subst hr_226
          refine x_top S (y := xs_disp (σ 10) (xYC σ) (σ 13) (σ 14) (xcC σ)) (by rw [xCs_k hs4 (by decide), xCs_Y hs4, xCs_k hs4 (by decide), xCs_k hs4 (by decide), xCs_c hs4]) ?_
          refine lv_i2l hx hb dX8_digest_229 rfl ?_
          refine lv_ladd hx hb dX8_digest_230 ?_
          refine x_topL S (y := xfold d3 EV 4) (by rw [hEV]; rfl) ?_
          refine lv_lstore_n (lv' := [(1, .long (xfold d3 EV 4)), (3, .int (nI (xYC σ))), (0, .ref (α 0))]) hx hb dX8_digest_231 rfl hl (by decide) rfl (fun ls hl => ?_)
          refine lv_ldc2 hx hb S.2.2.2.1 (S.2.2.2.2 (.constantLong RX8 278 (31)) (List.mem_of_getElem? (i := 2) rfl)) dX8_digest_232 ?_
          refine lv_lload_n hx hb dX8_digest_235 rfl (lv_at hl 0 rfl) ?_
          refine lv_lmul hx hb dX8_digest_236 ?_
          refine lv_aload_n hx hb dX8_digest_237 rfl (lv_at hl 2 rfl) ?_
          refine x_cVRi (As := []) (rest := [.long ((31 : Int64) * (xfold d3 EV 4))]) S hK hP 0 (by omega) rfl rfl (c_X8_isFalse l τ_214   (xCs_IC hs4 hC)) (x_cwV (n0 := 0) (cq := (RX8, TX8, 9)) S gX8_digest_X8_isFalse rfl (by decide +kernel) ⟨Nat.le_of_ble_eq_true rfl, Nat.le_of_ble_eq_true rfl⟩) rfl hl.1 rfl (Nat.le_of_ble_eq_true rfl) dX8_digest_238 ⟨Nat.le_refl _, Nat.le_refl _⟩ (fun r_238 hr_238 => ?_)
          subst hr_238
          refine x_top S (y := nI (xs_false (xB (xFC σ) (σ 17) (σ 18) (σ 19) (xsC σ)))) (by rw [xCs_F hs4, xCs_k hs4 (by decide), xCs_k hs4 (by decide), xCs_k hs4 (by decide), xCs_s hs4]) ?_
          refine lv_i2l hx hb dX8_digest_241 rfl ?_
          refine lv_ladd hx hb dX8_digest_242 ?_
          refine x_topL S (y := xfold d3 EV 5) (by rw [hEV]; rfl) ?_
          exact x_lretW S hlocks hP hS hr (⟨by rw [xdig, hEV, hd3, hYV, hd2, hDV, hd1, hHV, hd0], hs4⟩) dX8_digest_243
        · refine lv_ldc2 hx hb S.2.2.2.1 (S.2.2.2.2 (.constantLong RX8 278 (31)) (List.mem_of_getElem? (i := 2) rfl)) dX8_digest_133 ?_
          refine lv_lload_n hx hb dX8_digest_136 rfl (lv_at hl 1 rfl) ?_
          refine lv_lmul hx hb dX8_digest_137 ?_
          refine lv_aload_n hx hb dX8_digest_138 rfl (lv_at hl 2 rfl) ?_
          refine lv_iload_n hx hb dX8_digest_139 rfl (lv_at hl 0 rfl) ?_
          refine x_cVRi (As := [.int (nI i)]) (rest := [.long ((31 : Int64) * (xfold2 d2 YV 3 i))]) S hK hP 0 (by omega) rfl rfl (c_X8_rather l τ (nI i)  hCt) (x_cwV (n0 := 1) (cq := (RX8, TX8, 9)) S gX8_digest_X8_rather rfl (by decide +kernel) ⟨Nat.le_of_ble_eq_true rfl, Nat.le_of_ble_eq_true rfl⟩) rfl hl.1 rfl (Nat.le_of_ble_eq_true rfl) dX8_digest_140 ⟨Nat.le_refl _, Nat.le_refl _⟩ (fun r_140 hr_140 => ?_)
          subst hr_140
          refine x_top S (y := xp_rather (xFC σ) (σ 10) (xYC σ) (nI i)) (by rw [xCs_F hs, xCs_k hs (by decide), xCs_Y hs]) ?_
          refine lv_i2l hx hb dX8_digest_143 rfl ?_
          refine lv_ladd hx hb dX8_digest_144 ?_
          refine lv_lstore_n (lv' := [(1, .long (((31 : Int64) * (xfold2 d2 YV 3 i)) + ((xp_rather (xFC σ) (σ 10) (xYC σ) (nI i)).toInt64))), (3, .int (nI i)), (0, .ref (α 0))]) hx hb dX8_digest_145 rfl hl (by decide) rfl (fun ls hl => ?_)
          refine lv_ldc2 hx hb S.2.2.2.1 (S.2.2.2.2 (.constantLong RX8 278 (31)) (List.mem_of_getElem? (i := 2) rfl)) dX8_digest_146 ?_
          refine lv_lload_n hx hb dX8_digest_149 rfl (lv_at hl 0 rfl) ?_
          refine lv_lmul hx hb dX8_digest_150 ?_
          refine lv_aload_n hx hb dX8_digest_151 rfl (lv_at hl 2 rfl) ?_
          refine lv_iload_n hx hb dX8_digest_152 rfl (lv_at hl 1 rfl) ?_
          refine lv_iconst (v := (-1)) hx hb dX8_digest_153 (by decide) ?_
          refine x_cVRi (As := [.int (nI i), .int (-1 : Int32)]) (rest := [.long ((31 : Int64) * (((31 : Int64) * (xfold2 d2 YV 3 i)) + ((xp_rather (xFC σ) (σ 10) (xYC σ) (nI i)).toInt64)))]) S hK hP 0 (by omega) rfl rfl (c_X8_returns l τ (nI i) (-1 : Int32)  hCt) (x_cwV (n0 := 2) (cq := (RX8, TX8, 9)) S gX8_digest_X8_returns rfl (by decide +kernel) ⟨Nat.le_of_ble_eq_true rfl, Nat.le_of_ble_eq_true rfl⟩) rfl hl.1 rfl (Nat.le_of_ble_eq_true rfl) dX8_digest_154 ⟨Nat.le_refl _, Nat.le_refl _⟩ (fun r_154 hr_154 => ?_)
          subst hr_154
          refine x_top S (y := xp_returns (σ 10) (xYC σ) (nI i) (-1)) (by rw [xCs_k hs (by decide), xCs_Y hs]) ?_
          refine lv_i2l hx hb dX8_digest_157 rfl ?_
          refine lv_ladd hx hb dX8_digest_158 ?_
          refine lv_lstore_n (lv' := [(1, .long (((31 : Int64) * (((31 : Int64) * (xfold2 d2 YV 3 i)) + ((xp_rather (xFC σ) (σ 10) (xYC σ) (nI i)).toInt64))) + ((xp_returns (σ 10) (xYC σ) (nI i) (-1)).toInt64))), (3, .int (nI i)), (0, .ref (α 0))]) hx hb dX8_digest_159 rfl hl (by decide) rfl (fun ls hl => ?_)
          refine lv_ldc2 hx hb S.2.2.2.1 (S.2.2.2.2 (.constantLong RX8 278 (31)) (List.mem_of_getElem? (i := 2) rfl)) dX8_digest_160 ?_
          refine lv_lload_n hx hb dX8_digest_163 rfl (lv_at hl 0 rfl) ?_
          refine lv_lmul hx hb dX8_digest_164 ?_
          refine lv_aload_n hx hb dX8_digest_165 rfl (lv_at hl 2 rfl) ?_
          refine lv_iload_n hx hb dX8_digest_166 rfl (lv_at hl 1 rfl) ?_
          refine lv_iconst (v := nI 0) hx hb dX8_digest_167 (by decide) ?_
          refine lv_iconst (v := nI 5) hx hb dX8_digest_168 (by decide) ?_
          refine x_cVRi (As := [.int (nI i), .int (nI 0), .int (nI 5)]) (rest := [.long ((31 : Int64) * (((31 : Int64) * (((31 : Int64) * (xfold2 d2 YV 3 i)) + ((xp_rather (xFC σ) (σ 10) (xYC σ) (nI i)).toInt64))) + ((xp_returns (σ 10) (xYC σ) (nI i) (-1)).toInt64)))]) S hK hP 0 (by omega) rfl rfl (c_X8_on l τ (nI i) (nI 0) (nI 5)  hCt) (x_cwV (n0 := 3) (cq := (RX8, TX8, 9)) S gX8_digest_X8_on rfl (by decide +kernel) ⟨Nat.le_of_ble_eq_true rfl, Nat.le_of_ble_eq_true rfl⟩) rfl hl.1 rfl (Nat.le_of_ble_eq_true rfl) dX8_digest_169 ⟨Nat.le_refl _, Nat.le_refl _⟩ (fun r_169 hr_169 => ?_)
          subst hr_169
          refine x_top S (y := xp_on (σ 10) (xYC σ) (nI i) (nI 0) (nI 5)) (by rw [xCs_k hs (by decide), xCs_Y hs]) ?_
          refine lv_i2l hx hb dX8_digest_172 rfl ?_
          refine lv_ladd hx hb dX8_digest_173 ?_
          refine x_topL S (y := xfold2 d2 YV 3 (i + 1)) (by rw [hYV]; rfl) ?_
          refine lv_lstore_n (lv' := [(1, .long (xfold2 d2 YV 3 (i + 1))), (3, .int (nI i)), (0, .ref (α 0))]) hx hb dX8_digest_174 rfl hl (by decide) rfl (fun ls hl => ?_)
          refine lv_iinc (v := nI (i + 1)) (lv' := [(3, .int (nI (i + 1))), (1, .long (xfold2 d2 YV 3 (i + 1))), (0, .ref (α 0))]) hx hb dX8_digest_175 hl (k := 1) rfl (nI_add i 1) (by decide) rfl (fun ls hl => ?_)
          refine lv_goto (tgt := 122) hx hb dX8_digest_178 (by decide) ?_
          exact ih_122 (i + 1) H locs ls ⟨(by omega), lv_sub hl [0, 1, 2] rfl, hP, hS⟩ (by (try dsimp only); omega)
      · refine lv_ldc2 hx hb S.2.2.2.1 (S.2.2.2.2 (.constantLong RX8 278 (31)) (List.mem_of_getElem? (i := 2) rfl)) dX8_digest_72 ?_
        refine lv_lload_n hx hb dX8_digest_75 rfl (lv_at hl 1 rfl) ?_
        refine lv_lmul hx hb dX8_digest_76 ?_
        refine lv_aload_n hx hb dX8_digest_77 rfl (lv_at hl 2 rfl) ?_
        refine lv_iload_n hx hb dX8_digest_78 rfl (lv_at hl 0 rfl) ?_
        refine lv_aload_n hx hb dX8_digest_79 rfl (lv_at hl 2 rfl) ?_
        refine x_get S (fun w h => List.mem_cons_of_mem _ (List.mem_append_left _ (List.mem_append_left _ (List.mem_append_left _ (List.mem_append_left _ (List.mem_append_left _ (List.mem_append_left _ (List.mem_append_left _ (List.mem_append_right _ h))))))))) hK hP 0 (by omega) rfl rfl 1 (by decide) (List.mem_of_getElem? (i := 3) rfl) rfl dX8_digest_80 ?_
        refine x_get S (fun w h => List.mem_cons_of_mem _ (List.mem_append_left _ (List.mem_append_left _ (List.mem_append_left _ (List.mem_append_left _ (List.mem_append_left _ (List.mem_append_left _ (List.mem_append_right _ h)))))))) hK hP 9 (by omega) rfl rfl 2 (by decide) (List.mem_of_getElem? (i := 4) rfl) rfl dX8_digest_83 ?_
        refine x_top S (y := nI (xYC σ)) (by rw [xCs_k hs (by decide)]; exact hYr) ?_
        refine lv_iconst (v := nI 0) hx hb dX8_digest_86 (by decide) ?_
        refine x_cVRi (As := [.int (nI i), .int (nI (xYC σ)), .int (nI 0)]) (rest := [.long ((31 : Int64) * (xfold2 d1 DV 2 i))]) S hK hP 0 (by omega) rfl rfl (c_X8_debt l τ (nI i) (nI (xYC σ)) (nI 0)  hCt) (x_cwV (n0 := 3) (cq := (RX8, TX8, 9)) S gX8_digest_X8_debt rfl (by decide +kernel) ⟨Nat.le_of_ble_eq_true rfl, Nat.le_of_ble_eq_true rfl⟩) rfl hl.1 rfl (Nat.le_of_ble_eq_true rfl) dX8_digest_87 ⟨Nat.le_refl _, Nat.le_refl _⟩ (fun r_87 hr_87 => ?_)
        subst hr_87
        refine x_top S (y := xp_debt (xFC σ) (σ 10) (xYC σ) (nI i) (nI (xYC σ)) (nI 0)) (by rw [xCs_F hs, xCs_k hs (by decide), xCs_Y hs]) ?_
        refine lv_i2l hx hb dX8_digest_90 rfl ?_
        refine lv_ladd hx hb dX8_digest_91 ?_
        refine lv_lstore_n (lv' := [(1, .long (((31 : Int64) * (xfold2 d1 DV 2 i)) + ((xp_debt (xFC σ) (σ 10) (xYC σ) (nI i) (nI (xYC σ)) (nI 0)).toInt64))), (3, .int (nI i)), (0, .ref (α 0))]) hx hb dX8_digest_92 rfl hl (by decide) rfl (fun ls hl => ?_)
        refine lv_ldc2 hx hb S.2.2.2.1 (S.2.2.2.2 (.constantLong RX8 278 (31)) (List.mem_of_getElem? (i := 2) rfl)) dX8_digest_93 ?_
        refine lv_lload_n hx hb dX8_digest_96 rfl (lv_at hl 0 rfl) ?_
        refine lv_lmul hx hb dX8_digest_97 ?_
        refine lv_aload_n hx hb dX8_digest_98 rfl (lv_at hl 2 rfl) ?_
        refine lv_iload_n hx hb dX8_digest_99 rfl (lv_at hl 1 rfl) ?_
        refine lv_aload_n hx hb dX8_digest_100 rfl (lv_at hl 2 rfl) ?_
        refine x_get S (fun w h => List.mem_cons_of_mem _ (List.mem_append_left _ (List.mem_append_left _ (List.mem_append_left _ (List.mem_append_left _ (List.mem_append_left _ (List.mem_append_left _ (List.mem_append_left _ (List.mem_append_right _ h))))))))) hK hP 0 (by omega) rfl rfl 1 (by decide) (List.mem_of_getElem? (i := 3) rfl) rfl dX8_digest_101 ?_
        refine x_get S (fun w h => List.mem_cons_of_mem _ (List.mem_append_left _ (List.mem_append_left _ (List.mem_append_left _ (List.mem_append_left _ (List.mem_append_left _ (List.mem_append_left _ (List.mem_append_right _ h)))))))) hK hP 9 (by omega) rfl rfl 2 (by decide) (List.mem_of_getElem? (i := 4) rfl) rfl dX8_digest_104 ?_
        refine x_top S (y := nI (xYC σ)) (by rw [xCs_k hs (by decide)]; exact hYr) ?_
        refine lv_iconst (v := nI 1) hx hb dX8_digest_107 (by decide) ?_
        refine x_cVRi (As := [.int (nI i), .int (nI (xYC σ)), .int (nI 1)]) (rest := [.long ((31 : Int64) * (((31 : Int64) * (xfold2 d1 DV 2 i)) + ((xp_debt (xFC σ) (σ 10) (xYC σ) (nI i) (nI (xYC σ)) (nI 0)).toInt64)))]) S hK hP 0 (by omega) rfl rfl (c_X8_debt l τ (nI i) (nI (xYC σ)) (nI 1)  hCt) (x_cwV (n0 := 3) (cq := (RX8, TX8, 9)) S gX8_digest_X8_debt rfl (by decide +kernel) ⟨Nat.le_of_ble_eq_true rfl, Nat.le_of_ble_eq_true rfl⟩) rfl hl.1 rfl (Nat.le_of_ble_eq_true rfl) dX8_digest_108 ⟨Nat.le_refl _, Nat.le_refl _⟩ (fun r_108 hr_108 => ?_)
        subst hr_108
        refine x_top S (y := xp_debt (xFC σ) (σ 10) (xYC σ) (nI i) (nI (xYC σ)) (nI 1)) (by rw [xCs_F hs, xCs_k hs (by decide), xCs_Y hs]) ?_
        refine lv_i2l hx hb dX8_digest_111 rfl ?_
        refine lv_ladd hx hb dX8_digest_112 ?_
        refine x_topL S (y := xfold2 d1 DV 2 (i + 1)) (by rw [hDV]; rfl) ?_
        refine lv_lstore_n (lv' := [(1, .long (xfold2 d1 DV 2 (i + 1))), (3, .int (nI i)), (0, .ref (α 0))]) hx hb dX8_digest_113 rfl hl (by decide) rfl (fun ls hl => ?_)
        refine lv_iinc (v := nI (i + 1)) (lv' := [(3, .int (nI (i + 1))), (1, .long (xfold2 d1 DV 2 (i + 1))), (0, .ref (α 0))]) hx hb dX8_digest_114 hl (k := 1) rfl (nI_add i 1) (by decide) rfl (fun ls hl => ?_)
        refine lv_goto (tgt := 66) hx hb dX8_digest_117 (by decide) ?_
        exact ih_66 (i + 1) H locs ls ⟨(by omega), lv_sub hl [0, 1, 2] rfl, hP, hS⟩ (by (try dsimp only); omega)
    · refine lv_aload_n hx hb dX8_digest_51 rfl (lv_at hl 2 rfl) ?_
      refine lv_lload_n hx hb dX8_digest_52 rfl (lv_at hl 1 rfl) ?_
      refine lv_iload_n hx hb dX8_digest_53 rfl (lv_at hl 0 rfl) ?_
      refine x_cVWl (As := [.long (xfold2 d0 HV 15 i), .int (nI i)]) (rest := []) S hK hP hS (fun _ h => h) 0 (by omega) rfl rfl (c_X8_digestOfHull l τ hI (xfold2 d0 HV 15 i) i  (xCs_IC hs hC) (by first | assumption | omega)) (x_cwV (n0 := 2) (cq := (RX8, TX8, 9)) S gX8_digest_X8_digestOfHull rfl (by decide +kernel) ⟨Nat.le_of_ble_eq_true rfl, Nat.le_of_ble_eq_true rfl⟩) rfl hl.1 rfl (Nat.le_of_ble_eq_true rfl) dX8_digest_54 ⟨Nat.le_refl _, Nat.le_refl _⟩ (fun r_54 τ_54 H locs hr_54 hP hk_54 hS => ?_)
      obtain ⟨hr_54, hcs_54⟩ := hr_54
      subst hr_54
      refine x_topL S (y := xfold2 d0 HV 15 (i + 1)) (by rw [hHV]; show xfold _ _ 15 = xfold _ _ 15; rw [xCs_F hs, xCs_k hs (by decide), xCs_Y hs, xCs_k hs (by decide), xCs_k hs (by decide), xCs_k hs (by decide), xCs_c hs, xCs_k hs (by decide), xCs_k hs (by decide), xCs_k hs (by decide), xCs_s hs]) ?_
      refine lv_lstore_n (lv' := [(1, .long (xfold2 d0 HV 15 (i + 1))), (3, .int (nI i)), (0, .ref (α 0))]) hx hb dX8_digest_57 rfl hl (by decide) rfl (fun ls hl => ?_)
      refine lv_iinc (v := nI (i + 1)) (lv' := [(3, .int (nI (i + 1))), (1, .long (xfold2 d0 HV 15 (i + 1))), (0, .ref (α 0))]) hx hb dX8_digest_58 hl (k := 1) rfl (nI_add i 1) (by decide) rfl (fun ls hl => ?_)
      refine lv_goto (tgt := 45) hx hb dX8_digest_61 (by decide) ?_
      exact ih_45 (⟨i + 1, τ_54⟩) H locs ls ⟨(by omega), xCs_tr hs hcs_54, lv_sub hl [0, 1, 2] rfl, hP, hS⟩ (by (try dsimp only); omega)
  · refine lv_ldc2 hx hb S.2.2.2.1 (S.2.2.2.2 (.constantLong RX8 278 (31)) (List.mem_of_getElem? (i := 2) rfl)) dX8_digest_12 ?_
    refine lv_lload_n hx hb dX8_digest_15 rfl (lv_at hl 1 rfl) ?_
    refine lv_lmul hx hb dX8_digest_16 ?_
    refine lv_aload_n hx hb dX8_digest_17 rfl (lv_at hl 2 rfl) ?_
    refine lv_iload_n hx hb dX8_digest_18 rfl (lv_at hl 0 rfl) ?_
    refine x_cVRi (As := [.int (nI i)]) (rest := [.long ((31 : Int64) * (xfold 17 (fun k => (xp_count (xcv (xFC σ) (σ 10) (xYC σ) (xLC σ) (xcC σ) (xsC σ) (σ 0 8)) (nI k)).toInt64) i))]) S hK hP 0 (by omega) rfl rfl (c_X8_count l σ (nI i)  (by first | assumption | omega)) (x_cwV (n0 := 1) (cq := (RX8, TX8, 9)) S gX8_digest_X8_count rfl (by decide +kernel) ⟨Nat.le_of_ble_eq_true rfl, Nat.le_of_ble_eq_true rfl⟩) rfl hl.1 rfl (Nat.le_of_ble_eq_true rfl) dX8_digest_19 ⟨Nat.le_refl _, Nat.le_refl _⟩ (fun r_19 hr_19 => ?_)
    subst hr_19
    refine lv_i2l hx hb dX8_digest_22 rfl ?_
    refine lv_ladd hx hb dX8_digest_23 ?_
    refine lv_lstore_n (lv' := [(1, .long (((31 : Int64) * (xfold 17 (fun k => (xp_count (xcv (xFC σ) (σ 10) (xYC σ) (xLC σ) (xcC σ) (xsC σ) (σ 0 8)) (nI k)).toInt64) i)) + ((xp_count (xcv (xFC σ) (σ 10) (xYC σ) (xLC σ) (xcC σ) (xsC σ) (σ 0 8)) (nI i)).toInt64))), (3, .int (nI i)), (0, .ref (α 0))]) hx hb dX8_digest_24 rfl hl (by decide) rfl (fun ls hl => ?_)
    refine lv_iinc (v := nI (i + 1)) (lv' := [(3, .int (nI (i + 1))), (1, .long (((31 : Int64) * (xfold 17 (fun k => (xp_count (xcv (xFC σ) (σ 10) (xYC σ) (xLC σ) (xcC σ) (xsC σ) (σ 0 8)) (nI k)).toInt64) i)) + ((xp_count (xcv (xFC σ) (σ 10) (xYC σ) (xLC σ) (xcC σ) (xsC σ) (σ 0 8)) (nI i)).toInt64))), (0, .ref (α 0))]) hx hb dX8_digest_25 hl (k := 1) rfl (nI_add i 1) (by decide) rfl (fun ls hl => ?_)
    refine lv_goto (tgt := 6) hx hb dX8_digest_28 (by decide) ?_
    exact ih_6 (i + 1) H locs ls ⟨(by omega), lv_sub hl [0, 1, 2] rfl, hP, hS⟩ (by (try dsimp only); omega)

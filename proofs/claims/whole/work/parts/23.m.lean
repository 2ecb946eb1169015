set_option maxHeartbeats 4000000 in
set_option maxRecDepth 100000 in
theorem c_X9_lays (l : Launch) {D : va_G} {K : Nat → ClassId} {α : Nat → Nat} (σ : Nat → Nat → Int32) (hI : xw_I 20 α) (k : Nat)  (hk : k < 720) : Met l yX9_lays wsX9_lays (xrm 1) (va_Pc [.ref (α 0), .int (nI k)] (xPre D K 20 α (xM α K) σ)) (xQv D 20 α (xM α K) (fun τ => τ = xst_lay σ (xl_r k))) 0 0 (xw_R 20 α) := by
  refine Met.ofW (cc := cX9_lays) (maxL := 8) (ret := none) (by decide) rfl ?_
  intro p e s m args below meth c s₁ B hml hv
  obtain ⟨rfl, hK, hP⟩ := hv
  have S : CallFix p m c cX9_lays 8 s _ wsX9_lays RX9 := ⟨B.exec, B.bytes, hml, findClass_of_methodNamed B.named, atoms_spec (ws := wsX9_lays) B.pre⟩
  have hx := S.1
  have hb := S.2.1
  have hr := B.returns
  have hlocks := B.notSynchronized
  have hS : va_S (xw_R 20 α) s.heap s.heap [] := va_S.rf
  have hl := lv_entry ([.ref (α 0), .int (nI k)]) (n := 8) (Nat.le_of_ble_eq_true rfl)
  rw [lg_entry_eq]
  generalize (lg_sl ([.ref (α 0), .int (nI k)]) ++ List.replicate (8 - (lg_sl ([.ref (α 0), .int (nI k)])).length) Slot.unset).toArray = ls at hl ⊢
  have hl : lv_has ls 8 [(0, .ref (α 0)), (1, .int (nI k))] := hl
  have hPP := hP
  
  refine lv_iload_n hx hb dX9_lays_0 rfl (lv_at hl 1 rfl) ?_
  refine lv_istore_n (lv' := [(2, .int (nI k)), (0, .ref (α 0)), (1, .int (nI k))]) hx hb dX9_lays_1 rfl hl (by decide) rfl (fun ls hl => ?_)
  refine lv_bipush (v := nI 120) hx hb dX9_lays_2 (by decide) ?_
  refine lv_istore_n (lv' := [(3, .int (nI 120)), (2, .int (nI k)), (0, .ref (α 0)), (1, .int (nI k))]) hx hb dX9_lays_4 rfl hl (by decide) rfl (fun ls hl => ?_)
  refine lv_iconst (v := nI 0) hx hb dX9_lays_5 (by decide) ?_
  refine lv_istore (lv' := [(4, .int (nI 0)), (3, .int (nI 120)), (2, .int (nI k)), (0, .ref (α 0)), (1, .int (nI k))]) hx hb dX9_lays_6 hl (by decide) rfl (fun ls hl => ?_)
  refine lv_iconst (v := nI 0) hx hb dX9_lays_8 (by decide) ?_
  refine lv_istore (lv' := [(5, .int (nI 0)), (4, .int (nI 0)), (3, .int (nI 120)), (2, .int (nI k)), (0, .ref (α 0)), (1, .int (nI k))]) hx hb dX9_lays_9 hl (by decide) rfl (fun ls hl => ?_)
  refine x_loopW (ι := Nat) (fun h H locs ls => (h ≤ 6) ∧ lv_has ls 8 [(5, .int (nI h)), (4, .int (nI (xl_u k h))), (3, .int (nI (xl_s h))), (2, .int (nI (xl_l k h))), (0, .ref (α 0)), (1, .int (nI k))] ∧ va_P D vwCl (xw 20 α (xM α K) (va_up σ 8 (fa_fill (fun h => nI (xl_r k h)) (σ 8) h))) H ∧ va_S (xw_R 20 α) s.heap H locs) (fun h => 6 - h) ?_ 0 ls ⟨Nat.zero_le _, lv_sub hl [0, 1, 2, 3, 4, 5] rfl, (by rw [fa_fill_0, xup_id]; exact hP), hS⟩
  intro h H locs ls hinv ih_11
  obtain ⟨hh6, hl, hP, hS⟩ := hinv
  have hl : lv_has ls 8 [(5, .int (nI h)), (4, .int (nI (xl_u k h))), (3, .int (nI (xl_s h))), (2, .int (nI (xl_l k h))), (0, .ref (α 0)), (1, .int (nI k))] := hl
  have hP : va_P D vwCl (xw 20 α (xM α K) (va_up σ 8 (fa_fill (fun h => nI (xl_r k h)) (σ 8) h))) H := hP
  refine lv_iload hx hb dX9_lays_11 (lv_at hl 0 rfl) ?_
  refine lv_bipush (v := nI 6) hx hb dX9_lays_13 (by decide) ?_
  refine x_icmpN_ge (tgt := 112) S dX9_lays_15 (by decide) (by omega) (by omega) (fun c_15 => ?_) (fun c_15 => ?_)
  · have e9 : h = 6 := by omega
    subst e9
    exact x_vretW S hlocks hP hS hr (rfl) dX9_lays_112
  · obtain ⟨hu9, hc9⟩ := xl_inv hk (h := h) (by omega)
    have hs1 := xl_sp (h := h) (by omega)
    have hs2 := xl_skip hk (h := h) (by omega)
    have hs3 := xl_lt hk (h := h) (by omega)
    have hs4 : xl_l k h < 2147483648 := by
      have : xl_s h * (6 - h) ≤ 120 * 6 := Nat.mul_le_mul hs1.2 (by omega)
      omega
    obtain ⟨ht1, ht2, ht3, ht4⟩ := x_take hu9 hc9 hs2
    refine lv_iload_n hx hb dX9_lays_18 rfl (lv_at hl 3 rfl) ?_
    refine lv_iload_n hx hb dX9_lays_19 rfl (lv_at hl 2 rfl) ?_
    refine x_idivN S (by omega) (by omega) (by omega) dX9_lays_20 ?_
    refine lv_istore (lv' := [(6, .int (nI ((xl_l k h) / (xl_s h)))), (5, .int (nI h)), (4, .int (nI (xl_u k h))), (3, .int (nI (xl_s h))), (2, .int (nI (xl_l k h))), (0, .ref (α 0)), (1, .int (nI k))]) hx hb dX9_lays_21 hl (by decide) rfl (fun ls hl => ?_)
    refine lv_iload_n hx hb dX9_lays_23 rfl (lv_at hl 4 rfl) ?_
    refine lv_iload_n hx hb dX9_lays_24 rfl (lv_at hl 3 rfl) ?_
    refine x_iremN S (by omega) (by omega) (by omega) dX9_lays_25 ?_
    refine lv_istore_n (lv' := [(2, .int (nI ((xl_l k h) % (xl_s h)))), (6, .int (nI ((xl_l k h) / (xl_s h)))), (5, .int (nI h)), (4, .int (nI (xl_u k h))), (3, .int (nI (xl_s h))), (0, .ref (α 0)), (1, .int (nI k))]) hx hb dX9_lays_26 rfl hl (by decide) rfl (fun ls hl => ?_)
    refine lv_iload hx hb dX9_lays_27 (lv_at hl 2 rfl) ?_
    refine lv_iconst (v := nI 4) hx hb dX9_lays_29 (by decide) ?_
    refine x_icmpN_ge (tgt := 42) S dX9_lays_30 (by decide) (by omega) (by omega) (fun c_30 => ?_) (fun c_30 => ?_)
    · refine lv_iconst (v := nI 1) hx hb dX9_lays_42 (by decide) ?_
      refine lv_istore_n (lv' := [(3, .int (nI 1)), (2, .int (nI ((xl_l k h) % (xl_s h)))), (6, .int (nI ((xl_l k h) / (xl_s h)))), (5, .int (nI h)), (4, .int (nI (xl_u k h))), (0, .ref (α 0)), (1, .int (nI k))]) hx hb dX9_lays_43 rfl hl (by decide) rfl (fun ls hl => ?_)
      refine lv_iconst (v := nI 0) hx hb dX9_lays_44 (by decide) ?_
      refine lv_istore (lv' := [(7, .int (nI 0)), (3, .int (nI 1)), (2, .int (nI ((xl_l k h) % (xl_s h)))), (6, .int (nI ((xl_l k h) / (xl_s h)))), (5, .int (nI h)), (4, .int (nI (xl_u k h))), (0, .ref (α 0)), (1, .int (nI k))]) hx hb dX9_lays_45 hl (by decide) rfl (fun ls hl => ?_)
      refine x_loopW (ι := Nat) (fun i H locs ls => (i < 6) ∧ (xct (63 ^^^ xl_u k h) i ≤ (xl_l k h / xl_s h)) ∧ lv_has ls 8 [(7, .int (nI i)), (3, .int (nI 1)), (2, .int (nI ((xl_l k h) % (xl_s h)))), (6, .int (nI ((xl_l k h / xl_s h) - xct (63 ^^^ xl_u k h) i))), (5, .int (nI h)), (4, .int (nI (xl_u k h))), (0, .ref (α 0)), (1, .int (nI k))] ∧ va_P D vwCl (xw 20 α (xM α K) (va_up σ 8 (fa_fill (fun h => nI (xl_r k h)) (σ 8) h))) H ∧ va_S (xw_R 20 α) s.heap H locs) (fun i => 6 - i) ?_ 0 ls ⟨(by omega), Nat.zero_le _, lv_sub hl [0, 1, 2, 3, 4, 5, 6, 7] rfl, hP, hS⟩
      intro i H locs ls hinv ih_47
      obtain ⟨hi5, hct, hl, hP, hS⟩ := hinv
      have hl : lv_has ls 8 [(7, .int (nI i)), (3, .int (nI 1)), (2, .int (nI ((xl_l k h) % (xl_s h)))), (6, .int (nI ((xl_l k h / xl_s h) - xct (63 ^^^ xl_u k h) i))), (5, .int (nI h)), (4, .int (nI (xl_u k h))), (0, .ref (α 0)), (1, .int (nI k))] := hl
      have hP : va_P D vwCl (xw 20 α (xM α K) (va_up σ 8 (fa_fill (fun h => nI (xl_r k h)) (σ 8) h))) H := hP
      refine lv_iload hx hb dX9_lays_47 (lv_at hl 5 rfl) ?_
      refine lv_iload hx hb dX9_lays_49 (lv_at hl 0 rfl) ?_
      refine x_cSi (As := [.int (nI (xl_u k h)), .int (nI i)]) (rest := []) S (c_X9_isIn l (nI (xl_u k h)) (nI i)  ) (x_cwS (n0 := 2) S gX9_lays_X9_isIn rfl (by decide +kernel) ⟨Nat.le_of_ble_eq_true rfl, Nat.le_of_ble_eq_true rfl⟩) rfl hl.1 rfl (Nat.le_of_ble_eq_true rfl) dX9_lays_51 ⟨Nat.le_refl _, Nat.le_refl _⟩ (fun r_51 hr_51 => ?_)
      subst hr_51
      refine x_if_neB (tgt := 62) S dX9_lays_54 (by decide) (fun c_54 => ?_) (fun c_54 => ?_)
      · have hb1 : ¬ (63 ^^^ xl_u k h).testBit i = true := by
          rw [x63_bit hu9 (by omega), (xis_I hu9 (by omega)).mp c_54]
          decide
        refine lv_iload hx hb dX9_lays_62 (lv_at hl 3 rfl) ?_
        refine lv_iload hx hb dX9_lays_64 (lv_at hl 5 rfl) ?_
        refine lv_iload hx hb dX9_lays_66 (lv_at hl 0 rfl) ?_
        refine x_cSi (As := [.int (nI (xl_u k h)), .int (nI i)]) (rest := [.int (nI ((xl_l k h / xl_s h) - xct (63 ^^^ xl_u k h) i))]) S (c_X9_isIn l (nI (xl_u k h)) (nI i)  ) (x_cwS (n0 := 2) S gX9_lays_X9_isIn rfl (by decide +kernel) ⟨Nat.le_of_ble_eq_true rfl, Nat.le_of_ble_eq_true rfl⟩) rfl hl.1 rfl (Nat.le_of_ble_eq_true rfl) dX9_lays_68 ⟨Nat.le_refl _, Nat.le_refl _⟩ (fun r_68 hr_68 => ?_)
        subst hr_68
        refine x_if_eqB (tgt := 78) S dX9_lays_71 (by decide) (fun c_71 => ?_) (fun c_71 => ?_)
        · exact absurd c_54 c_71
        · refine lv_iconst (v := nI 0) hx hb dX9_lays_74 (by decide) ?_
          refine lv_goto (tgt := 79) hx hb dX9_lays_75 (by decide) ?_
          refine x_isubN S (by first | assumption | omega) dX9_lays_79 ?_
          refine lv_istore (lv' := [(6, .int (nI (((xl_l k h / xl_s h) - xct (63 ^^^ xl_u k h) i) - 0))), (7, .int (nI i)), (3, .int (nI 1)), (2, .int (nI ((xl_l k h) % (xl_s h)))), (5, .int (nI h)), (4, .int (nI (xl_u k h))), (0, .ref (α 0)), (1, .int (nI k))]) hx hb dX9_lays_80 hl (by decide) rfl (fun ls hl => ?_)
          refine lv_iinc (v := nI (i + 1)) (lv' := [(7, .int (nI (i + 1))), (6, .int (nI (((xl_l k h / xl_s h) - xct (63 ^^^ xl_u k h) i) - 0))), (3, .int (nI 1)), (2, .int (nI ((xl_l k h) % (xl_s h)))), (5, .int (nI h)), (4, .int (nI (xl_u k h))), (0, .ref (α 0)), (1, .int (nI k))]) hx hb dX9_lays_82 hl (k := 1) rfl (nI_add i 1) (by decide) rfl (fun ls hl => ?_)
          refine lv_goto (tgt := 47) hx hb dX9_lays_85 (by decide) ?_
          have hs9 : xct (63 ^^^ xl_u k h) (i + 1) = xct (63 ^^^ xl_u k h) i + 0 := by rw [xct_s, if_neg hb1]
          have hi9 : i + 1 ≠ 6 := fun q => by rw [q] at hs9; omega
          exact ih_47 (i + 1) H locs ls ⟨(by omega), (by omega), (by have h9 := lv_sub (l' := [(7, .int (nI (i + 1))), (3, .int (nI 1)), (2, .int (nI ((xl_l k h) % (xl_s h)))), (6, .int (nI (((xl_l k h / xl_s h) - xct (63 ^^^ xl_u k h) i) - 0))), (5, .int (nI h)), (4, .int (nI (xl_u k h))), (0, .ref (α 0)), (1, .int (nI k))]) hl [0, 2, 3, 1, 4, 5, 6, 7] rfl; rw [show nI (((xl_l k h / xl_s h) - xct (63 ^^^ xl_u k h) i) - 0) = nI ((xl_l k h / xl_s h) - xct (63 ^^^ xl_u k h) (i + 1)) from congrArg nI (by omega)] at h9; exact h9), hP, hS⟩ (by (try dsimp only); omega)
      · have hb0 : ¬ (xl_u k h).testBit i = true := fun q => c_54 ((xis_I hu9 (by omega)).mpr q)
        have hb1 : (63 ^^^ xl_u k h).testBit i = true := by
          rw [x63_bit hu9 (by omega)]
          simpa using hb0
        refine lv_iload hx hb dX9_lays_57 (lv_at hl 3 rfl) ?_
        refine x_ifN_le (tgt := 88) S dX9_lays_59 (by decide) (by omega) (fun c_59 => ?_) (fun c_59 => ?_)
        · have hx9 : xl_r k h = i := by
            unfold xl_r xna
            exact xfst_at (fun j hj q => by
              have h1 : xct (63 ^^^ xl_u k h) (j + 1) ≤ xct (63 ^^^ xl_u k h) i := fb_ct_mono _ (by omega)
              have h2 : xct (63 ^^^ xl_u k h) (j + 1) = xct (63 ^^^ xl_u k h) j + 1 := by rw [xct_s, if_pos q.1]
              omega) ⟨hb1, by omega⟩ hi5
          
          refine lv_aload_n hx hb dX9_lays_88 rfl (lv_at hl 6 rfl) ?_
          refine x_get S (fun w h => List.mem_cons_of_mem _ (List.mem_append_right _ h)) hK hP 0 (by omega) rfl rfl 9 (by decide) (List.mem_of_getElem? (i := 1) rfl) rfl dX9_lays_89 ?_
          refine lv_iload hx hb dX9_lays_92 (lv_at hl 4 rfl) ?_
          refine lv_iload hx hb dX9_lays_94 (lv_at hl 0 rfl) ?_
          refine x_iast S hK hP hI hS 8 (by omega) (fun _ => rfl) (by first | assumption | omega) (by omega) dX9_lays_96 (fun H locs hP hS => ?_)
          have hP : va_P D vwCl (xw 20 α (xM α K) (va_up σ 8 (fa_fill (fun h => nI (xl_r k h)) (σ 8) (h + 1)))) H := by
            rw [show va_up σ 8 (fa_fill (fun h => nI (xl_r k h)) (σ 8) (h + 1)) = (va_up (va_up σ 8 (fa_fill (fun h => nI (xl_r k h)) (σ 8) h)) 8 (upd ((va_up σ 8 (fa_fill (fun h => nI (xl_r k h)) (σ 8) h)) 8) h (nI i))) from by rw [bx_uu, xup_s, ← fa_fill_succ, hx9]]; exact hP
          refine lv_iload hx hb dX9_lays_97 (lv_at hl 5 rfl) ?_
          refine lv_iconst (v := nI 1) hx hb dX9_lays_99 (by decide) ?_
          refine lv_iload hx hb dX9_lays_100 (lv_at hl 0 rfl) ?_
          refine lv_ishl hx hb dX9_lays_102 ?_
          refine lv_ior hx hb dX9_lays_103 ?_
          refine x_top S (y := nI (xl_u k (h + 1))) (by rw [xor_I (by omega), xl_u]; show nI _ = nI (_ ||| 2 ^ xl_r k h); rw [hx9]) ?_
          refine lv_istore (lv' := [(4, .int (nI (xl_u k (h + 1)))), (7, .int (nI i)), (3, .int (nI 1)), (2, .int (nI ((xl_l k h) % (xl_s h)))), (6, .int (nI ((xl_l k h / xl_s h) - xct (63 ^^^ xl_u k h) i))), (5, .int (nI h)), (0, .ref (α 0)), (1, .int (nI k))]) hx hb dX9_lays_104 hl (by decide) rfl (fun ls hl => ?_)
          refine lv_iinc (v := nI (h + 1)) (lv' := [(5, .int (nI (h + 1))), (4, .int (nI (xl_u k (h + 1)))), (7, .int (nI i)), (3, .int (nI 1)), (2, .int (nI ((xl_l k h) % (xl_s h)))), (6, .int (nI ((xl_l k h / xl_s h) - xct (63 ^^^ xl_u k h) i))), (0, .ref (α 0)), (1, .int (nI k))]) hx hb dX9_lays_106 hl (k := 5) rfl (nI_add h 1) (by decide) rfl (fun ls hl => ?_)
          refine lv_goto (tgt := 11) hx hb dX9_lays_109 (by decide) ?_
          exact ih_11 (h + 1) H locs ls ⟨(by omega), (by have h9 := lv_sub (l' := [(5, .int (nI (h + 1))), (4, .int (nI (xl_u k (h + 1)))), (3, .int (nI 1)), (2, .int (nI ((xl_l k h) % (xl_s h)))), (0, .ref (α 0)), (1, .int (nI k))]) hl [0, 1, 3, 4, 6, 7] rfl; rw [show nI (1) = nI (xl_s (h + 1)) from by rw [xl_s]; first | rw [if_pos c_30] | rw [if_neg (by omega)]] at h9; exact h9), hP, hS⟩ (by (try dsimp only); omega)
        · refine lv_iload hx hb dX9_lays_62 (lv_at hl 3 rfl) ?_
          refine lv_iload hx hb dX9_lays_64 (lv_at hl 5 rfl) ?_
          refine lv_iload hx hb dX9_lays_66 (lv_at hl 0 rfl) ?_
          refine x_cSi (As := [.int (nI (xl_u k h)), .int (nI i)]) (rest := [.int (nI ((xl_l k h / xl_s h) - xct (63 ^^^ xl_u k h) i))]) S (c_X9_isIn l (nI (xl_u k h)) (nI i)  ) (x_cwS (n0 := 2) S gX9_lays_X9_isIn rfl (by decide +kernel) ⟨Nat.le_of_ble_eq_true rfl, Nat.le_of_ble_eq_true rfl⟩) rfl hl.1 rfl (Nat.le_of_ble_eq_true rfl) dX9_lays_68 ⟨Nat.le_refl _, Nat.le_refl _⟩ (fun r_68 hr_68 => ?_)
          subst hr_68
          refine x_if_eqB (tgt := 78) S dX9_lays_71 (by decide) (fun c_71 => ?_) (fun c_71 => ?_)
          · refine lv_iconst (v := nI 1) hx hb dX9_lays_78 (by decide) ?_
            refine x_isubN S (by first | assumption | omega) dX9_lays_79 ?_
            refine lv_istore (lv' := [(6, .int (nI (((xl_l k h / xl_s h) - xct (63 ^^^ xl_u k h) i) - 1))), (7, .int (nI i)), (3, .int (nI 1)), (2, .int (nI ((xl_l k h) % (xl_s h)))), (5, .int (nI h)), (4, .int (nI (xl_u k h))), (0, .ref (α 0)), (1, .int (nI k))]) hx hb dX9_lays_80 hl (by decide) rfl (fun ls hl => ?_)
            refine lv_iinc (v := nI (i + 1)) (lv' := [(7, .int (nI (i + 1))), (6, .int (nI (((xl_l k h / xl_s h) - xct (63 ^^^ xl_u k h) i) - 1))), (3, .int (nI 1)), (2, .int (nI ((xl_l k h) % (xl_s h)))), (5, .int (nI h)), (4, .int (nI (xl_u k h))), (0, .ref (α 0)), (1, .int (nI k))]) hx hb dX9_lays_82 hl (k := 1) rfl (nI_add i 1) (by decide) rfl (fun ls hl => ?_)
            refine lv_goto (tgt := 47) hx hb dX9_lays_85 (by decide) ?_
            have hs9 : xct (63 ^^^ xl_u k h) (i + 1) = xct (63 ^^^ xl_u k h) i + 1 := by rw [xct_s, if_pos hb1]
            have hi9 : i + 1 ≠ 6 := fun q => by rw [q] at hs9; omega
            exact ih_47 (i + 1) H locs ls ⟨(by omega), (by omega), (by have h9 := lv_sub (l' := [(7, .int (nI (i + 1))), (3, .int (nI 1)), (2, .int (nI ((xl_l k h) % (xl_s h)))), (6, .int (nI (((xl_l k h / xl_s h) - xct (63 ^^^ xl_u k h) i) - 1))), (5, .int (nI h)), (4, .int (nI (xl_u k h))), (0, .ref (α 0)), (1, .int (nI k))]) hl [0, 2, 3, 1, 4, 5, 6, 7] rfl; rw [show nI (((xl_l k h / xl_s h) - xct (63 ^^^ xl_u k h) i) - 1) = nI ((xl_l k h / xl_s h) - xct (63 ^^^ xl_u k h) (i + 1)) from congrArg nI (by omega)] at h9; exact h9), hP, hS⟩ (by (try dsimp only); omega)
          · exact absurd c_71 c_54
    · refine lv_iload_n hx hb dX9_lays_33 rfl (lv_at hl 4 rfl) ?_
      refine lv_iconst (v := nI 5) hx hb dX9_lays_34 (by decide) ?_
      refine lv_iload hx hb dX9_lays_35 (lv_at hl 2 rfl) ?_
      refine x_isubN S (by first | assumption | omega) dX9_lays_37 ?_
      refine x_idivN S (by omega) (by omega) (by omega) dX9_lays_38 ?_
      refine lv_goto (tgt := 43) hx hb dX9_lays_39 (by decide) ?_
      refine lv_istore_n (lv' := [(3, .int (nI ((xl_s h) / (5 - h)))), (2, .int (nI ((xl_l k h) % (xl_s h)))), (6, .int (nI ((xl_l k h) / (xl_s h)))), (5, .int (nI h)), (4, .int (nI (xl_u k h))), (0, .ref (α 0)), (1, .int (nI k))]) hx hb dX9_lays_43 rfl hl (by decide) rfl (fun ls hl => ?_)
      refine lv_iconst (v := nI 0) hx hb dX9_lays_44 (by decide) ?_
      refine lv_istore (lv' := [(7, .int (nI 0)), (3, .int (nI ((xl_s h) / (5 - h)))), (2, .int (nI ((xl_l k h) % (xl_s h)))), (6, .int (nI ((xl_l k h) / (xl_s h)))), (5, .int (nI h)), (4, .int (nI (xl_u k h))), (0, .ref (α 0)), (1, .int (nI k))]) hx hb dX9_lays_45 hl (by decide) rfl (fun ls hl => ?_)
      refine x_loopW (ι := Nat) (fun i H locs ls => (i < 6) ∧ (xct (63 ^^^ xl_u k h) i ≤ (xl_l k h / xl_s h)) ∧ lv_has ls 8 [(7, .int (nI i)), (3, .int (nI ((xl_s h) / (5 - h)))), (2, .int (nI ((xl_l k h) % (xl_s h)))), (6, .int (nI ((xl_l k h / xl_s h) - xct (63 ^^^ xl_u k h) i))), (5, .int (nI h)), (4, .int (nI (xl_u k h))), (0, .ref (α 0)), (1, .int (nI k))] ∧ va_P D vwCl (xw 20 α (xM α K) (va_up σ 8 (fa_fill (fun h => nI (xl_r k h)) (σ 8) h))) H ∧ va_S (xw_R 20 α) s.heap H locs) (fun i => 6 - i) ?_ 0 ls ⟨(by omega), Nat.zero_le _, lv_sub hl [0, 1, 2, 3, 4, 5, 6, 7] rfl, hP, hS⟩
      intro i H locs ls hinv ih_47
      obtain ⟨hi5, hct, hl, hP, hS⟩ := hinv
      have hl : lv_has ls 8 [(7, .int (nI i)), (3, .int (nI ((xl_s h) / (5 - h)))), (2, .int (nI ((xl_l k h) % (xl_s h)))), (6, .int (nI ((xl_l k h / xl_s h) - xct (63 ^^^ xl_u k h) i))), (5, .int (nI h)), (4, .int (nI (xl_u k h))), (0, .ref (α 0)), (1, .int (nI k))] := hl
      have hP : va_P D vwCl (xw 20 α (xM α K) (va_up σ 8 (fa_fill (fun h => nI (xl_r k h)) (σ 8) h))) H := hP
      refine lv_iload hx hb dX9_lays_47 (lv_at hl 5 rfl) ?_
      refine lv_iload hx hb dX9_lays_49 (lv_at hl 0 rfl) ?_
      refine x_cSi (As := [.int (nI (xl_u k h)), .int (nI i)]) (rest := []) S (c_X9_isIn l (nI (xl_u k h)) (nI i)  ) (x_cwS (n0 := 2) S gX9_lays_X9_isIn rfl (by decide +kernel) ⟨Nat.le_of_ble_eq_true rfl, Nat.le_of_ble_eq_true rfl⟩) rfl hl.1 rfl (Nat.le_of_ble_eq_true rfl) dX9_lays_51 ⟨Nat.le_refl _, Nat.le_refl _⟩ (fun r_51 hr_51 => ?_)
      subst hr_51
      refine x_if_neB (tgt := 62) S dX9_lays_54 (by decide) (fun c_54 => ?_) (fun c_54 => ?_)
      · have hb1 : ¬ (63 ^^^ xl_u k h).testBit i = true := by
          rw [x63_bit hu9 (by omega), (xis_I hu9 (by omega)).mp c_54]
          decide
        refine lv_iload hx hb dX9_lays_62 (lv_at hl 3 rfl) ?_
        refine lv_iload hx hb dX9_lays_64 (lv_at hl 5 rfl) ?_
        refine lv_iload hx hb dX9_lays_66 (lv_at hl 0 rfl) ?_
        refine x_cSi (As := [.int (nI (xl_u k h)), .int (nI i)]) (rest := [.int (nI ((xl_l k h / xl_s h) - xct (63 ^^^ xl_u k h) i))]) S (c_X9_isIn l (nI (xl_u k h)) (nI i)  ) (x_cwS (n0 := 2) S gX9_lays_X9_isIn rfl (by decide +kernel) ⟨Nat.le_of_ble_eq_true rfl, Nat.le_of_ble_eq_true rfl⟩) rfl hl.1 rfl (Nat.le_of_ble_eq_true rfl) dX9_lays_68 ⟨Nat.le_refl _, Nat.le_refl _⟩ (fun r_68 hr_68 => ?_)
        subst hr_68
        refine x_if_eqB (tgt := 78) S dX9_lays_71 (by decide) (fun c_71 => ?_) (fun c_71 => ?_)
        · exact absurd c_54 c_71
        · refine lv_iconst (v := nI 0) hx hb dX9_lays_74 (by decide) ?_
          refine lv_goto (tgt := 79) hx hb dX9_lays_75 (by decide) ?_
          refine x_isubN S (by first | assumption | omega) dX9_lays_79 ?_
          refine lv_istore (lv' := [(6, .int (nI (((xl_l k h / xl_s h) - xct (63 ^^^ xl_u k h) i) - 0))), (7, .int (nI i)), (3, .int (nI ((xl_s h) / (5 - h)))), (2, .int (nI ((xl_l k h) % (xl_s h)))), (5, .int (nI h)), (4, .int (nI (xl_u k h))), (0, .ref (α 0)), (1, .int (nI k))]) hx hb dX9_lays_80 hl (by decide) rfl (fun ls hl => ?_)
          refine lv_iinc (v := nI (i + 1)) (lv' := [(7, .int (nI (i + 1))), (6, .int (nI (((xl_l k h / xl_s h) - xct (63 ^^^ xl_u k h) i) - 0))), (3, .int (nI ((xl_s h) / (5 - h)))), (2, .int (nI ((xl_l k h) % (xl_s h)))), (5, .int (nI h)), (4, .int (nI (xl_u k h))), (0, .ref (α 0)), (1, .int (nI k))]) hx hb dX9_lays_82 hl (k := 1) rfl (nI_add i 1) (by decide) rfl (fun ls hl => ?_)
          refine lv_goto (tgt := 47) hx hb dX9_lays_85 (by decide) ?_
          have hs9 : xct (63 ^^^ xl_u k h) (i + 1) = xct (63 ^^^ xl_u k h) i + 0 := by rw [xct_s, if_neg hb1]
          have hi9 : i + 1 ≠ 6 := fun q => by rw [q] at hs9; omega
          exact ih_47 (i + 1) H locs ls ⟨(by omega), (by omega), (by have h9 := lv_sub (l' := [(7, .int (nI (i + 1))), (3, .int (nI ((xl_s h) / (5 - h)))), (2, .int (nI ((xl_l k h) % (xl_s h)))), (6, .int (nI (((xl_l k h / xl_s h) - xct (63 ^^^ xl_u k h) i) - 0))), (5, .int (nI h)), (4, .int (nI (xl_u k h))), (0, .ref (α 0)), (1, .int (nI k))]) hl [0, 2, 3, 1, 4, 5, 6, 7] rfl; rw [show nI (((xl_l k h / xl_s h) - xct (63 ^^^ xl_u k h) i) - 0) = nI ((xl_l k h / xl_s h) - xct (63 ^^^ xl_u k h) (i + 1)) from congrArg nI (by omega)] at h9; exact h9), hP, hS⟩ (by (try dsimp only); omega)
      · have hb0 : ¬ (xl_u k h).testBit i = true := fun q => c_54 ((xis_I hu9 (by omega)).mpr q)
        have hb1 : (63 ^^^ xl_u k h).testBit i = true := by
          rw [x63_bit hu9 (by omega)]
          simpa using hb0
        refine lv_iload hx hb dX9_lays_57 (lv_at hl 3 rfl) ?_
        refine x_ifN_le (tgt := 88) S dX9_lays_59 (by decide) (by omega) (fun c_59 => ?_) (fun c_59 => ?_)
        · have hx9 : xl_r k h = i := by
            unfold xl_r xna
            exact xfst_at (fun j hj q => by
              have h1 : xct (63 ^^^ xl_u k h) (j + 1) ≤ xct (63 ^^^ xl_u k h) i := fb_ct_mono _ (by omega)
              have h2 : xct (63 ^^^ xl_u k h) (j + 1) = xct (63 ^^^ xl_u k h) j + 1 := by rw [xct_s, if_pos q.1]
              omega) ⟨hb1, by omega⟩ hi5
          
          refine lv_aload_n hx hb dX9_lays_88 rfl (lv_at hl 6 rfl) ?_
          refine x_get S (fun w h => List.mem_cons_of_mem _ (List.mem_append_right _ h)) hK hP 0 (by omega) rfl rfl 9 (by decide) (List.mem_of_getElem? (i := 1) rfl) rfl dX9_lays_89 ?_
          refine lv_iload hx hb dX9_lays_92 (lv_at hl 4 rfl) ?_
          refine lv_iload hx hb dX9_lays_94 (lv_at hl 0 rfl) ?_
          refine x_iast S hK hP hI hS 8 (by omega) (fun _ => rfl) (by first | assumption | omega) (by omega) dX9_lays_96 (fun H locs hP hS => ?_)
          have hP : va_P D vwCl (xw 20 α (xM α K) (va_up σ 8 (fa_fill (fun h => nI (xl_r k h)) (σ 8) (h + 1)))) H := by
            rw [show va_up σ 8 (fa_fill (fun h => nI (xl_r k h)) (σ 8) (h + 1)) = (va_up (va_up σ 8 (fa_fill (fun h => nI (xl_r k h)) (σ 8) h)) 8 (upd ((va_up σ 8 (fa_fill (fun h => nI (xl_r k h)) (σ 8) h)) 8) h (nI i))) from by rw [bx_uu, xup_s, ← fa_fill_succ, hx9]]; exact hP
          refine lv_iload hx hb dX9_lays_97 (lv_at hl 5 rfl) ?_
          refine lv_iconst (v := nI 1) hx hb dX9_lays_99 (by decide) ?_
          refine lv_iload hx hb dX9_lays_100 (lv_at hl 0 rfl) ?_
          refine lv_ishl hx hb dX9_lays_102 ?_
          refine lv_ior hx hb dX9_lays_103 ?_
          refine x_top S (y := nI (xl_u k (h + 1))) (by rw [xor_I (by omega), xl_u]; show nI _ = nI (_ ||| 2 ^ xl_r k h); rw [hx9]) ?_
          refine lv_istore (lv' := [(4, .int (nI (xl_u k (h + 1)))), (7, .int (nI i)), (3, .int (nI ((xl_s h) / (5 - h)))), (2, .int (nI ((xl_l k h) % (xl_s h)))), (6, .int (nI ((xl_l k h / xl_s h) - xct (63 ^^^ xl_u k h) i))), (5, .int (nI h)), (0, .ref (α 0)), (1, .int (nI k))]) hx hb dX9_lays_104 hl (by decide) rfl (fun ls hl => ?_)
          refine lv_iinc (v := nI (h + 1)) (lv' := [(5, .int (nI (h + 1))), (4, .int (nI (xl_u k (h + 1)))), (7, .int (nI i)), (3, .int (nI ((xl_s h) / (5 - h)))), (2, .int (nI ((xl_l k h) % (xl_s h)))), (6, .int (nI ((xl_l k h / xl_s h) - xct (63 ^^^ xl_u k h) i))), (0, .ref (α 0)), (1, .int (nI k))]) hx hb dX9_lays_106 hl (k := 5) rfl (nI_add h 1) (by decide) rfl (fun ls hl => ?_)
          refine lv_goto (tgt := 11) hx hb dX9_lays_109 (by decide) ?_
          exact ih_11 (h + 1) H locs ls ⟨(by omega), (by have h9 := lv_sub (l' := [(5, .int (nI (h + 1))), (4, .int (nI (xl_u k (h + 1)))), (3, .int (nI ((xl_s h) / (5 - h)))), (2, .int (nI ((xl_l k h) % (xl_s h)))), (0, .ref (α 0)), (1, .int (nI k))]) hl [0, 1, 3, 4, 6, 7] rfl; rw [show nI ((xl_s h) / (5 - h)) = nI (xl_s (h + 1)) from by rw [xl_s]; first | rw [if_pos c_30] | rw [if_neg (by omega)]] at h9; exact h9), hP, hS⟩ (by (try dsimp only); omega)
        · refine lv_iload hx hb dX9_lays_62 (lv_at hl 3 rfl) ?_
          refine lv_iload hx hb dX9_lays_64 (lv_at hl 5 rfl) ?_
          refine lv_iload hx hb dX9_lays_66 (lv_at hl 0 rfl) ?_
          refine x_cSi (As := [.int (nI (xl_u k h)), .int (nI i)]) (rest := [.int (nI ((xl_l k h / xl_s h) - xct (63 ^^^ xl_u k h) i))]) S (c_X9_isIn l (nI (xl_u k h)) (nI i)  ) (x_cwS (n0 := 2) S gX9_lays_X9_isIn rfl (by decide +kernel) ⟨Nat.le_of_ble_eq_true rfl, Nat.le_of_ble_eq_true rfl⟩) rfl hl.1 rfl (Nat.le_of_ble_eq_true rfl) dX9_lays_68 ⟨Nat.le_refl _, Nat.le_refl _⟩ (fun r_68 hr_68 => ?_)
          subst hr_68
          refine x_if_eqB (tgt := 78) S dX9_lays_71 (by decide) (fun c_71 => ?_) (fun c_71 => ?_)
          · refine lv_iconst (v := nI 1) hx hb dX9_lays_78 (by decide) ?_
            refine x_isubN S (by first | assumption | omega) dX9_lays_79 ?_
            refine lv_istore (lv' := [(6, .int (nI (((xl_l k h / xl_s h) - xct (63 ^^^ xl_u k h) i) - 1))), (7, .int (nI i)), (3, .int (nI ((xl_s h) / (5 - h)))), (2, .int (nI ((xl_l k h) % (xl_s h)))), (5, .int (nI h)), (4, .int (nI (xl_u k h))), (0, .ref (α 0)), (1, .int (nI k))]) hx hb dX9_lays_80 hl (by decide) rfl (fun ls hl => ?_)
            refine lv_iinc (v := nI (i + 1)) (lv' := [(7, .int (nI (i + 1))), (6, .int (nI (((xl_l k h / xl_s h) - xct (63 ^^^ xl_u k h) i) - 1))), (3, .int (nI ((xl_s h) / (5 - h)))), (2, .int (nI ((xl_l k h) % (xl_s h)))), (5, .int (nI h)), (4, .int (nI (xl_u k h))), (0, .ref (α 0)), (1, .int (nI k))]) hx hb dX9_lays_82 hl (k := 1) rfl (nI_add i 1) (by decide) rfl (fun ls hl => ?_)
            refine lv_goto (tgt := 47) hx hb dX9_lays_85 (by decide) ?_
            have hs9 : xct (63 ^^^ xl_u k h) (i + 1) = xct (63 ^^^ xl_u k h) i + 1 := by rw [xct_s, if_pos hb1]
            have hi9 : i + 1 ≠ 6 := fun q => by rw [q] at hs9; omega
            exact ih_47 (i + 1) H locs ls ⟨(by omega), (by omega), (by have h9 := lv_sub (l' := [(7, .int (nI (i + 1))), (3, .int (nI ((xl_s h) / (5 - h)))), (2, .int (nI ((xl_l k h) % (xl_s h)))), (6, .int (nI (((xl_l k h / xl_s h) - xct (63 ^^^ xl_u k h) i) - 1))), (5, .int (nI h)), (4, .int (nI (xl_u k h))), (0, .ref (α 0)), (1, .int (nI k))]) hl [0, 2, 3, 1, 4, 5, 6, 7] rfl; rw [show nI (((xl_l k h / xl_s h) - xct (63 ^^^ xl_u k h) i) - 1) = nI ((xl_l k h / xl_s h) - xct (63 ^^^ xl_u k h) (i + 1)) from congrArg nI (by omega)] at h9; exact h9), hP, hS⟩ (by (try dsimp only); omega)
          · exact absurd c_71 c_54
set_option maxHeartbeats 4000000 in
set_option maxRecDepth 100000 in
theorem c_X9_lotOf (l : Launch) {D : va_G} {K : Nat → ClassId} {α : Nat → Nat} (σ : Nat → Nat → Int32) (hI : xw_I 20 α) (seed : Int32) (g : Nat)  (hg : g < 6) : Met l yX9_lotOf wsX9_lotOf (xrm 1) (va_Pc [.ref (α 0), .int seed, .int (nI g)] (xPre D K 20 α (xM α K) σ)) (xQi D 20 α (xM α K) (fun r τ => r = nI (xlt_d seed g) ∧ xMs σ τ)) 0 0 (xw_R 20 α) := by
  refine Met.ofW (cc := cX9_lotOf) (maxL := 8) (ret := (some .int)) (by decide) rfl ?_
  intro p e s m args below meth c s₁ B hml hv
  obtain ⟨rfl, hK, hP⟩ := hv
  have S : CallFix p m c cX9_lotOf 8 s _ wsX9_lotOf RX9 := ⟨B.exec, B.bytes, hml, findClass_of_methodNamed B.named, atoms_spec (ws := wsX9_lotOf) B.pre⟩
  have hx := S.1
  have hb := S.2.1
  have hr := B.returns
  have hlocks := B.notSynchronized
  have hS : va_S (xw_R 20 α) s.heap s.heap [] := va_S.rf
  have hl := lv_entry ([.ref (α 0), .int seed, .int (nI g)]) (n := 8) (Nat.le_of_ble_eq_true rfl)
  rw [lg_entry_eq]
  generalize (lg_sl ([.ref (α 0), .int seed, .int (nI g)]) ++ List.replicate (8 - (lg_sl ([.ref (α 0), .int seed, .int (nI g)])).length) Slot.unset).toArray = ls at hl ⊢
  have hl : lv_has ls 8 [(0, .ref (α 0)), (1, .int seed), (2, .int (nI g))] := hl
  have hPP := hP
  refine lv_iload_n hx hb dX9_lotOf_0 rfl (lv_at hl 1 rfl) ?_
  refine lv_istore_n (lv' := [(3, .int seed), (0, .ref (α 0)), (1, .int seed), (2, .int (nI g))]) hx hb dX9_lotOf_1 rfl hl (by decide) rfl (fun ls hl => ?_)
  refine lv_iconst (v := nI 0) hx hb dX9_lotOf_2 (by decide) ?_
  refine lv_istore (lv' := [(4, .int (nI 0)), (3, .int seed), (0, .ref (α 0)), (1, .int seed), (2, .int (nI g))]) hx hb dX9_lotOf_3 hl (by decide) rfl (fun ls hl => ?_)
  refine lv_iconst (v := nI 0) hx hb dX9_lotOf_5 (by decide) ?_
  refine lv_istore (lv' := [(5, .int (nI 0)), (4, .int (nI 0)), (3, .int seed), (0, .ref (α 0)), (1, .int seed), (2, .int (nI g))]) hx hb dX9_lotOf_6 hl (by decide) rfl (fun ls hl => ?_)
  refine x_loopW (ι := Nat) (fun h H locs ls => (h ≤ 6) ∧ lv_has ls 8 [(5, .int (nI h)), (4, .int (nI (xmu seed h))), (3, .int (xlt_n seed h)), (0, .ref (α 0)), (1, .int seed), (2, .int (nI g))] ∧ va_P D vwCl (xw 20 α (xM α K) (va_up σ 8 (fa_fill (fun h => nI (xlt_d seed h)) (σ 8) h))) H ∧ va_S (xw_R 20 α) s.heap H locs) (fun h => 6 - h) ?_ 0 ls ⟨Nat.zero_le _, lv_sub hl [0, 1, 2, 3, 4, 5] rfl, (by rw [fa_fill_0, xup_id]; exact hP), hS⟩
  intro h H locs ls hinv ih_8
  obtain ⟨hh6, hl, hP, hS⟩ := hinv
  have hl : lv_has ls 8 [(5, .int (nI h)), (4, .int (nI (xmu seed h))), (3, .int (xlt_n seed h)), (0, .ref (α 0)), (1, .int seed), (2, .int (nI g))] := hl
  have hP : va_P D vwCl (xw 20 α (xM α K) (va_up σ 8 (fa_fill (fun h => nI (xlt_d seed h)) (σ 8) h))) H := hP
  refine lv_iload hx hb dX9_lotOf_8 (lv_at hl 0 rfl) ?_
  refine lv_bipush (v := nI 6) hx hb dX9_lotOf_10 (by decide) ?_
  refine x_icmpN_ge (tgt := 104) S dX9_lotOf_12 (by decide) (by omega) (by omega) (fun c_12 => ?_) (fun c_12 => ?_)
  · have e9 : h = 6 := by omega
    subst e9
    refine lv_aload_n hx hb dX9_lotOf_104 rfl (lv_at hl 3 rfl) ?_
    refine x_get S (fun w h => List.mem_cons_of_mem _ (List.mem_append_right _ h)) hK hP 0 (by omega) rfl rfl 9 (by decide) (List.mem_of_getElem? (i := 2) rfl) rfl dX9_lotOf_105 ?_
    refine lv_iload_n hx hb dX9_lotOf_108 rfl (lv_at hl 5 rfl) ?_
    refine x_iald S hK hP 8 (by omega) rfl (by first | assumption | omega) (by omega) dX9_lotOf_109 ?_
    refine x_top S (y := nI (xlt_d seed g)) (by rw [xup_s, fa_fill_in hg]) ?_
    exact x_iretW S hlocks hP hS hr rfl (⟨rfl, xMs_8⟩) dX9_lotOf_110
  · obtain ⟨hu9, hm9⟩ := xmu_inv seed (i := h) (by omega)
    obtain ⟨hq1, hq2⟩ := xlt_inv seed (i := h) (by omega)
    have hq4 := xlt_u_lt (xlt_n seed (h + 1))
    have hs2 : (xlt_u (xlt_n seed (h + 1)) % (6 - h)) < 6 - h := Nat.mod_lt _ (by omega)
    have hc9 : xct (63 ^^^ xmu seed h) 6 = 6 - h := by rw [hm9, hq2]
    refine lv_ldc hx hb S.2.2.2.1 (S.2.2.2.2 (.constant RX9 173 (1103515245)) (List.mem_of_getElem? (i := 1) rfl)) dX9_lotOf_15 ?_
    refine lv_iload_n hx hb dX9_lotOf_17 rfl (lv_at hl 2 rfl) ?_
    refine lv_imul hx hb dX9_lotOf_18 ?_
    refine lv_sipush (v := nI 12345) hx hb dX9_lotOf_19 (by decide) ?_
    refine lv_iadd hx hb dX9_lotOf_22 ?_
    refine x_top S (y := xlt_n seed (h + 1)) (rfl) ?_
    refine lv_istore_n (lv' := [(3, .int (xlt_n seed (h + 1))), (5, .int (nI h)), (4, .int (nI (xmu seed h))), (0, .ref (α 0)), (1, .int seed), (2, .int (nI g))]) hx hb dX9_lotOf_23 rfl hl (by decide) rfl (fun ls hl => ?_)
    refine lv_iload_n hx hb dX9_lotOf_24 rfl (lv_at hl 0 rfl) ?_
    refine lv_bipush (v := nI 16) hx hb dX9_lotOf_25 (by decide) ?_
    refine lv_iushr hx hb dX9_lotOf_27 rfl ?_
    refine x_top S (y := nI (xlt_u (xlt_n seed (h + 1)))) (xush16 _) ?_
    refine lv_bipush (v := nI 6) hx hb dX9_lotOf_28 (by decide) ?_
    refine lv_iload hx hb dX9_lotOf_30 (lv_at hl 1 rfl) ?_
    refine x_isubN S (by first | assumption | omega) dX9_lotOf_32 ?_
    refine x_iremN S (by omega) (by omega) (by omega) dX9_lotOf_33 ?_
    refine lv_istore (lv' := [(6, .int (nI ((xlt_u (xlt_n seed (h + 1))) % (6 - h)))), (3, .int (xlt_n seed (h + 1))), (5, .int (nI h)), (4, .int (nI (xmu seed h))), (0, .ref (α 0)), (1, .int seed), (2, .int (nI g))]) hx hb dX9_lotOf_34 hl (by decide) rfl (fun ls hl => ?_)
    refine lv_iconst (v := nI 0) hx hb dX9_lotOf_36 (by decide) ?_
    refine lv_istore (lv' := [(7, .int (nI 0)), (6, .int (nI ((xlt_u (xlt_n seed (h + 1))) % (6 - h)))), (3, .int (xlt_n seed (h + 1))), (5, .int (nI h)), (4, .int (nI (xmu seed h))), (0, .ref (α 0)), (1, .int seed), (2, .int (nI g))]) hx hb dX9_lotOf_37 hl (by decide) rfl (fun ls hl => ?_)
    refine x_loopW (ι := Nat) (fun i H locs ls => (i < 6) ∧ (xct (63 ^^^ xmu seed h) i ≤ (xlt_u (xlt_n seed (h + 1)) % (6 - h))) ∧ lv_has ls 8 [(7, .int (nI i)), (6, .int (nI ((xlt_u (xlt_n seed (h + 1)) % (6 - h)) - xct (63 ^^^ xmu seed h) i))), (3, .int (xlt_n seed (h + 1))), (5, .int (nI h)), (4, .int (nI (xmu seed h))), (0, .ref (α 0)), (1, .int seed), (2, .int (nI g))] ∧ va_P D vwCl (xw 20 α (xM α K) (va_up σ 8 (fa_fill (fun h => nI (xlt_d seed h)) (σ 8) h))) H ∧ va_S (xw_R 20 α) s.heap H locs) (fun i => 6 - i) ?_ 0 ls ⟨(by omega), Nat.zero_le _, lv_sub hl [0, 1, 2, 3, 4, 5, 6, 7] rfl, hP, hS⟩
    intro i H locs ls hinv ih_39
    obtain ⟨hi5, hct, hl, hP, hS⟩ := hinv
    have hl : lv_has ls 8 [(7, .int (nI i)), (6, .int (nI ((xlt_u (xlt_n seed (h + 1)) % (6 - h)) - xct (63 ^^^ xmu seed h) i))), (3, .int (xlt_n seed (h + 1))), (5, .int (nI h)), (4, .int (nI (xmu seed h))), (0, .ref (α 0)), (1, .int seed), (2, .int (nI g))] := hl
    have hP : va_P D vwCl (xw 20 α (xM α K) (va_up σ 8 (fa_fill (fun h => nI (xlt_d seed h)) (σ 8) h))) H := hP
    refine lv_iload hx hb dX9_lotOf_39 (lv_at hl 4 rfl) ?_
    refine lv_iload hx hb dX9_lotOf_41 (lv_at hl 0 rfl) ?_
    refine x_cSi (As := [.int (nI (xmu seed h)), .int (nI i)]) (rest := []) S (c_X9_isIn l (nI (xmu seed h)) (nI i)  ) (x_cwS (n0 := 2) S gX9_lotOf_X9_isIn rfl (by decide +kernel) ⟨Nat.le_of_ble_eq_true rfl, Nat.le_of_ble_eq_true rfl⟩) rfl hl.1 rfl (Nat.le_of_ble_eq_true rfl) dX9_lotOf_43 ⟨Nat.le_refl _, Nat.le_refl _⟩ (fun r_43 hr_43 => ?_)
    subst hr_43
    refine x_if_neB (tgt := 54) S dX9_lotOf_46 (by decide) (fun c_46 => ?_) (fun c_46 => ?_)
    · have hb1 : ¬ (63 ^^^ xmu seed h).testBit i = true := by
        rw [x63_bit hu9 (by omega), (xis_I hu9 (by omega)).mp c_46]
        decide
      refine lv_iload hx hb dX9_lotOf_54 (lv_at hl 1 rfl) ?_
      refine lv_iload hx hb dX9_lotOf_56 (lv_at hl 4 rfl) ?_
      refine lv_iload hx hb dX9_lotOf_58 (lv_at hl 0 rfl) ?_
      refine x_cSi (As := [.int (nI (xmu seed h)), .int (nI i)]) (rest := [.int (nI ((xlt_u (xlt_n seed (h + 1)) % (6 - h)) - xct (63 ^^^ xmu seed h) i))]) S (c_X9_isIn l (nI (xmu seed h)) (nI i)  ) (x_cwS (n0 := 2) S gX9_lotOf_X9_isIn rfl (by decide +kernel) ⟨Nat.le_of_ble_eq_true rfl, Nat.le_of_ble_eq_true rfl⟩) rfl hl.1 rfl (Nat.le_of_ble_eq_true rfl) dX9_lotOf_60 ⟨Nat.le_refl _, Nat.le_refl _⟩ (fun r_60 hr_60 => ?_)
      subst hr_60
      refine x_if_eqB (tgt := 70) S dX9_lotOf_63 (by decide) (fun c_63 => ?_) (fun c_63 => ?_)
      · exact absurd c_46 c_63
      · refine lv_iconst (v := nI 0) hx hb dX9_lotOf_66 (by decide) ?_
        refine lv_goto (tgt := 71) hx hb dX9_lotOf_67 (by decide) ?_
        refine x_isubN S (by first | assumption | omega) dX9_lotOf_71 ?_
        refine lv_istore (lv' := [(6, .int (nI (((xlt_u (xlt_n seed (h + 1)) % (6 - h)) - xct (63 ^^^ xmu seed h) i) - 0))), (7, .int (nI i)), (3, .int (xlt_n seed (h + 1))), (5, .int (nI h)), (4, .int (nI (xmu seed h))), (0, .ref (α 0)), (1, .int seed), (2, .int (nI g))]) hx hb dX9_lotOf_72 hl (by decide) rfl (fun ls hl => ?_)
        refine lv_iinc (v := nI (i + 1)) (lv' := [(7, .int (nI (i + 1))), (6, .int (nI (((xlt_u (xlt_n seed (h + 1)) % (6 - h)) - xct (63 ^^^ xmu seed h) i) - 0))), (3, .int (xlt_n seed (h + 1))), (5, .int (nI h)), (4, .int (nI (xmu seed h))), (0, .ref (α 0)), (1, .int seed), (2, .int (nI g))]) hx hb dX9_lotOf_74 hl (k := 1) rfl (nI_add i 1) (by decide) rfl (fun ls hl => ?_)
        refine lv_goto (tgt := 39) hx hb dX9_lotOf_77 (by decide) ?_
        have hs9 : xct (63 ^^^ xmu seed h) (i + 1) = xct (63 ^^^ xmu seed h) i + 0 := by rw [xct_s, if_neg hb1]
        have hi9 : i + 1 ≠ 6 := fun q => by rw [q] at hs9; omega
        exact ih_39 (i + 1) H locs ls ⟨(by omega), (by omega), (by have h9 := lv_sub (l' := [(7, .int (nI (i + 1))), (6, .int (nI (((xlt_u (xlt_n seed (h + 1)) % (6 - h)) - xct (63 ^^^ xmu seed h) i) - 0))), (3, .int (xlt_n seed (h + 1))), (5, .int (nI h)), (4, .int (nI (xmu seed h))), (0, .ref (α 0)), (1, .int seed), (2, .int (nI g))]) hl [0, 1, 2, 3, 4, 5, 6, 7] rfl; rw [show nI (((xlt_u (xlt_n seed (h + 1)) % (6 - h)) - xct (63 ^^^ xmu seed h) i) - 0) = nI ((xlt_u (xlt_n seed (h + 1)) % (6 - h)) - xct (63 ^^^ xmu seed h) (i + 1)) from congrArg nI (by omega)] at h9; exact h9), hP, hS⟩ (by (try dsimp only); omega)
    · have hb0 : ¬ (xmu seed h).testBit i = true := fun q => c_46 ((xis_I hu9 (by omega)).mpr q)
      have hb1 : (63 ^^^ xmu seed h).testBit i = true := by
        rw [x63_bit hu9 (by omega)]
        simpa using hb0
      refine lv_iload hx hb dX9_lotOf_49 (lv_at hl 1 rfl) ?_
      refine x_ifN_le (tgt := 80) S dX9_lotOf_51 (by decide) (by omega) (fun c_51 => ?_) (fun c_51 => ?_)
      · have hx9 : xlt_d seed h = i := by
          unfold xlt_d xna
          rw [← hm9]
          exact xfst_at (fun j hj q => by
            have h1 : xct (63 ^^^ xmu seed h) (j + 1) ≤ xct (63 ^^^ xmu seed h) i := fb_ct_mono _ (by omega)
            have h2 : xct (63 ^^^ xmu seed h) (j + 1) = xct (63 ^^^ xmu seed h) j + 1 := by rw [xct_s, if_pos q.1]
            omega) ⟨hb1, by omega⟩ hi5
        refine lv_aload_n hx hb dX9_lotOf_80 rfl (lv_at hl 5 rfl) ?_
        refine x_get S (fun w h => List.mem_cons_of_mem _ (List.mem_append_right _ h)) hK hP 0 (by omega) rfl rfl 9 (by decide) (List.mem_of_getElem? (i := 2) rfl) rfl dX9_lotOf_81 ?_
        refine lv_iload hx hb dX9_lotOf_84 (lv_at hl 3 rfl) ?_
        refine lv_iload hx hb dX9_lotOf_86 (lv_at hl 0 rfl) ?_
        refine x_iast S hK hP hI hS 8 (by omega) (fun _ => rfl) (by first | assumption | omega) (by omega) dX9_lotOf_88 (fun H locs hP hS => ?_)
        have hP : va_P D vwCl (xw 20 α (xM α K) (va_up σ 8 (fa_fill (fun h => nI (xlt_d seed h)) (σ 8) (h + 1)))) H := by
          rw [show va_up σ 8 (fa_fill (fun h => nI (xlt_d seed h)) (σ 8) (h + 1)) = (va_up (va_up σ 8 (fa_fill (fun h => nI (xlt_d seed h)) (σ 8) h)) 8 (upd ((va_up σ 8 (fa_fill (fun h => nI (xlt_d seed h)) (σ 8) h)) 8) h (nI i))) from by rw [bx_uu, xup_s, ← fa_fill_succ, hx9]]; exact hP
        refine lv_iload hx hb dX9_lotOf_89 (lv_at hl 4 rfl) ?_
        refine lv_iconst (v := nI 1) hx hb dX9_lotOf_91 (by decide) ?_
        refine lv_iload hx hb dX9_lotOf_92 (lv_at hl 0 rfl) ?_
        refine lv_ishl hx hb dX9_lotOf_94 ?_
        refine lv_ior hx hb dX9_lotOf_95 ?_
        refine x_top S (y := nI (xmu seed (h + 1))) (by rw [xor_I (by omega), xmu, hx9]) ?_
        refine lv_istore (lv' := [(4, .int (nI (xmu seed (h + 1)))), (7, .int (nI i)), (6, .int (nI ((xlt_u (xlt_n seed (h + 1)) % (6 - h)) - xct (63 ^^^ xmu seed h) i))), (3, .int (xlt_n seed (h + 1))), (5, .int (nI h)), (0, .ref (α 0)), (1, .int seed), (2, .int (nI g))]) hx hb dX9_lotOf_96 hl (by decide) rfl (fun ls hl => ?_)
        refine lv_iinc (v := nI (h + 1)) (lv' := [(5, .int (nI (h + 1))), (4, .int (nI (xmu seed (h + 1)))), (7, .int (nI i)), (6, .int (nI ((xlt_u (xlt_n seed (h + 1)) % (6 - h)) - xct (63 ^^^ xmu seed h) i))), (3, .int (xlt_n seed (h + 1))), (0, .ref (α 0)), (1, .int seed), (2, .int (nI g))]) hx hb dX9_lotOf_98 hl (k := 4) rfl (nI_add h 1) (by decide) rfl (fun ls hl => ?_)
        refine lv_goto (tgt := 8) hx hb dX9_lotOf_101 (by decide) ?_
        exact ih_8 (h + 1) H locs ls ⟨(by omega), lv_sub hl [0, 1, 4, 5, 6, 7] rfl, hP, hS⟩ (by (try dsimp only); omega)
      · refine lv_iload hx hb dX9_lotOf_54 (lv_at hl 1 rfl) ?_
        refine lv_iload hx hb dX9_lotOf_56 (lv_at hl 4 rfl) ?_
        refine lv_iload hx hb dX9_lotOf_58 (lv_at hl 0 rfl) ?_
        refine x_cSi (As := [.int (nI (xmu seed h)), .int (nI i)]) (rest := [.int (nI ((xlt_u (xlt_n seed (h + 1)) % (6 - h)) - xct (63 ^^^ xmu seed h) i))]) S (c_X9_isIn l (nI (xmu seed h)) (nI i)  ) (x_cwS (n0 := 2) S gX9_lotOf_X9_isIn rfl (by decide +kernel) ⟨Nat.le_of_ble_eq_true rfl, Nat.le_of_ble_eq_true rfl⟩) rfl hl.1 rfl (Nat.le_of_ble_eq_true rfl) dX9_lotOf_60 ⟨Nat.le_refl _, Nat.le_refl _⟩ (fun r_60 hr_60 => ?_)
        subst hr_60
        refine x_if_eqB (tgt := 70) S dX9_lotOf_63 (by decide) (fun c_63 => ?_) (fun c_63 => ?_)
        · refine lv_iconst (v := nI 1) hx hb dX9_lotOf_70 (by decide) ?_
          refine x_isubN S (by first | assumption | omega) dX9_lotOf_71 ?_
          refine lv_istore (lv' := [(6, .int (nI (((xlt_u (xlt_n seed (h + 1)) % (6 - h)) - xct (63 ^^^ xmu seed h) i) - 1))), (7, .int (nI i)), (3, .int (xlt_n seed (h + 1))), (5, .int (nI h)), (4, .int (nI (xmu seed h))), (0, .ref (α 0)), (1, .int seed), (2, .int (nI g))]) hx hb dX9_lotOf_72 hl (by decide) rfl (fun ls hl => ?_)
          refine lv_iinc (v := nI (i + 1)) (lv' := [(7, .int (nI (i + 1))), (6, .int (nI (((xlt_u (xlt_n seed (h + 1)) % (6 - h)) - xct (63 ^^^ xmu seed h) i) - 1))), (3, .int (xlt_n seed (h + 1))), (5, .int (nI h)), (4, .int (nI (xmu seed h))), (0, .ref (α 0)), (1, .int seed), (2, .int (nI g))]) hx hb dX9_lotOf_74 hl (k := 1) rfl (nI_add i 1) (by decide) rfl (fun ls hl => ?_)
          refine lv_goto (tgt := 39) hx hb dX9_lotOf_77 (by decide) ?_
          have hs9 : xct (63 ^^^ xmu seed h) (i + 1) = xct (63 ^^^ xmu seed h) i + 1 := by rw [xct_s, if_pos hb1]
          have hi9 : i + 1 ≠ 6 := fun q => by rw [q] at hs9; omega
          exact ih_39 (i + 1) H locs ls ⟨(by omega), (by omega), (by have h9 := lv_sub (l' := [(7, .int (nI (i + 1))), (6, .int (nI (((xlt_u (xlt_n seed (h + 1)) % (6 - h)) - xct (63 ^^^ xmu seed h) i) - 1))), (3, .int (xlt_n seed (h + 1))), (5, .int (nI h)), (4, .int (nI (xmu seed h))), (0, .ref (α 0)), (1, .int seed), (2, .int (nI g))]) hl [0, 1, 2, 3, 4, 5, 6, 7] rfl; rw [show nI (((xlt_u (xlt_n seed (h + 1)) % (6 - h)) - xct (63 ^^^ xmu seed h) i) - 1) = nI ((xlt_u (xlt_n seed (h + 1)) % (6 - h)) - xct (63 ^^^ xmu seed h) (i + 1)) from congrArg nI (by omega)] at h9; exact h9), hP, hS⟩ (by (try dsimp only); omega)
        · exact absurd c_63 c_46
set_option maxHeartbeats 4000000 in
set_option maxRecDepth 100000 in
theorem c_X9_lot (l : Launch) {D : va_G} {K : Nat → ClassId} {α : Nat → Nat} (σ : Nat → Nat → Int32) (hI : xw_I 20 α) (seed : Int32) (x : Int32)  : Met l yX9_lot wsX9_lot (xrm 2) (va_Pc [.ref (α 0), .int seed, .int x] (xPre D K 20 α (xM α K) σ)) (xQi D 20 α (xM α K) (fun r τ => r = xp_lot seed x ∧ xMs σ τ)) 0 0 (xw_R 20 α) := by
  refine Met.ofW (cc := cX9_lot) (maxL := 3) (ret := (some .int)) (by decide) rfl ?_
  intro p e s m args below meth c s₁ B hml hv
  obtain ⟨rfl, hK, hP⟩ := hv
  have S : CallFix p m c cX9_lot 3 s _ wsX9_lot RX9 := ⟨B.exec, B.bytes, hml, findClass_of_methodNamed B.named, atoms_spec (ws := wsX9_lot) B.pre⟩
  have hx := S.1
  have hb := S.2.1
  have hr := B.returns
  have hlocks := B.notSynchronized
  have hS : va_S (xw_R 20 α) s.heap s.heap [] := va_S.rf
  have hl := lv_entry ([.ref (α 0), .int seed, .int x]) (n := 3) (Nat.le_of_ble_eq_true rfl)
  rw [lg_entry_eq]
  generalize (lg_sl ([.ref (α 0), .int seed, .int x]) ++ List.replicate (3 - (lg_sl ([.ref (α 0), .int seed, .int x])).length) Slot.unset).toArray = ls at hl ⊢
  have hl : lv_has ls 3 [(0, .ref (α 0)), (1, .int seed), (2, .int x)] := hl
  have hPP := hP
  
  refine lv_iload_n hx hb dX9_lot_0 rfl (lv_at hl 2 rfl) ?_
  refine x_cSi (As := [.int x]) (rest := []) S (c_X9_isSix l x  ) (x_cwS (n0 := 1) S gX9_lot_X9_isSix rfl (by decide +kernel) ⟨Nat.le_of_ble_eq_true rfl, Nat.le_of_ble_eq_true rfl⟩) rfl hl.1 rfl (Nat.le_of_ble_eq_true rfl) dX9_lot_1 ⟨Nat.le_refl _, Nat.le_refl _⟩ (fun r_1 hr_1 => ?_)
  subst hr_1
  refine x_if_eqB (tgt := 16) S dX9_lot_4 (by decide) (fun c_4 => ?_) (fun c_4 => ?_)
  · refine lv_bipush (v := (-2)) hx hb dX9_lot_16 (by decide) ?_
    exact x_iretW S hlocks hP hS hr rfl (⟨by rw [xp_lot, if_neg c_4], xMs_rf _⟩) dX9_lot_18
  · obtain ⟨h, hh, rfl⟩ := xin_of c_4 (by omega)
    refine lv_aload_n hx hb dX9_lot_7 rfl (lv_at hl 0 rfl) ?_
    refine lv_iload_n hx hb dX9_lot_8 rfl (lv_at hl 1 rfl) ?_
    refine lv_iload_n hx hb dX9_lot_9 rfl (lv_at hl 2 rfl) ?_
    refine x_cVWi (As := [.int seed, .int (nI h)]) (rest := []) S hK hP hS (fun _ h => h) 0 (by omega) rfl rfl (c_X9_lotOf l σ hI seed h  (by first | assumption | omega)) (x_cwV (n0 := 2) (cq := (RX9, TX9, 24)) S gX9_lot_X9_lotOf rfl (by decide +kernel) ⟨Nat.le_of_ble_eq_true rfl, Nat.le_of_ble_eq_true rfl⟩) rfl hl.1 rfl (Nat.le_of_ble_eq_true rfl) dX9_lot_10 ⟨Nat.le_refl _, Nat.le_refl _⟩ (fun r_10 τ_10 H locs hr_10 hP hk_10 hS => ?_)
    obtain ⟨hr_10, hms_10⟩ := hr_10
    subst hr_10
    refine lv_goto (tgt := 18) hx hb dX9_lot_13 (by decide) ?_
    exact x_iretW S hlocks hP hS hr rfl (⟨by rw [xp_lot, if_pos (xin_nI (by omega) (by omega)), cN_nI (by omega)], hms_10⟩) dX9_lot_18

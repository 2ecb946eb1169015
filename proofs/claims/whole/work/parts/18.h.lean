set_option maxHeartbeats 4000000 in
set_option maxRecDepth 100000 in
theorem c_X8_commonDivisor (l : Launch) (a : Nat) (b : Nat)  (h0 : 0 < b) (ha : a < 2147483648) (hb9 : b < 2147483648) : Met l yX8_commonDivisor wsX8_commonDivisor (xrm 0) (va_Pc [.int (nI a), .int (nI b)] (fun _ => True)) (vp_Si (fun r => r = nI (Nat.gcd a b))) 0 0 (fun _ => False) := by
  refine Met.ofW (cc := cX8_commonDivisor) (maxL := 3) (ret := (some .int)) (by decide) rfl ?_
  intro p e s m args below meth c s₁ B hml hv
  obtain ⟨rfl, -⟩ := hv
  have S : CallFix p m c cX8_commonDivisor 3 s _ wsX8_commonDivisor RX8 := ⟨B.exec, B.bytes, hml, findClass_of_methodNamed B.named, atoms_spec (ws := wsX8_commonDivisor) B.pre⟩
  have hx := S.1
  have hb := S.2.1
  have hr := B.returns
  have hlocks := B.notSynchronized
  have hl := lv_entry ([.int (nI a), .int (nI b)]) (n := 3) (Nat.le_of_ble_eq_true rfl)
  rw [lg_entry_eq]
  generalize (lg_sl ([.int (nI a), .int (nI b)]) ++ List.replicate (3 - (lg_sl ([.int (nI a), .int (nI b)])).length) Slot.unset).toArray = ls at hl ⊢
  have hl : lv_has ls 3 [(0, .int (nI a)), (1, .int (nI b))] := hl
  refine lv_iload_n hx hb dX8_commonDivisor_0 rfl (lv_at hl 1 rfl) ?_
  refine lv_istore_n (lv' := [(2, .int (nI b)), (0, .int (nI a)), (1, .int (nI b))]) hx hb dX8_commonDivisor_1 rfl hl (by decide) rfl (fun ls hl => ?_)
  refine x_loop (ι := Nat) (fun i ls => (1 ≤ i) ∧ (i ≤ b) ∧ (∀ j, i < j → j ≤ b → ¬ (a % j = 0 ∧ b % j = 0)) ∧ lv_has ls 3 [(2, .int (nI i)), (0, .int (nI a)), (1, .int (nI b))]) (fun i => i) ?_ b ls ⟨h0, Nat.le_refl _, fun j q1 q2 => absurd q1 (by omega), lv_sub hl [0, 1, 2] rfl⟩
  intro i ls hinv ih_2
  obtain ⟨h1, h2, hno, hl⟩ := hinv
  have hl : lv_has ls 3 [(2, .int (nI i)), (0, .int (nI a)), (1, .int (nI b))] := hl
  refine lv_iload_n hx hb dX8_commonDivisor_2 rfl (lv_at hl 0 rfl) ?_
  refine lv_iconst (v := nI 1) hx hb dX8_commonDivisor_3 (by decide) ?_
  refine x_icmpN_le (tgt := 27) S dX8_commonDivisor_4 (by decide) (by omega) (by omega) (fun c_4 => ?_) (fun c_4 => ?_)
  · refine lv_iconst (v := nI 1) hx hb dX8_commonDivisor_27 (by decide) ?_
    exact x_iretR S hlocks hr rfl (by rw [xgcd_at (i := 1) h0 (Nat.mod_one _) (Nat.mod_one _) (by omega) (fun j q1 q2 => hno j (by omega) q2)]) dX8_commonDivisor_28
  · refine lv_iload_n hx hb dX8_commonDivisor_7 rfl (lv_at hl 1 rfl) ?_
    refine lv_iload_n hx hb dX8_commonDivisor_8 rfl (lv_at hl 0 rfl) ?_
    refine x_iremN S (by omega) (by omega) (by omega) dX8_commonDivisor_9 ?_
    have hm1 := Nat.mod_le a i
    refine x_ifN_ne (tgt := 21) S dX8_commonDivisor_10 (by decide) (by omega) (fun c_10 => ?_) (fun c_10 => ?_)
    · refine lv_iinc (v := nI (i - 1)) (lv' := [(2, .int (nI (i - 1))), (0, .int (nI a)), (1, .int (nI b))]) hx hb dX8_commonDivisor_21 hl (k := 0) rfl ((by rw [show (Int32.ofInt (-1)) = -1 from by decide, sb_m1 (by omega)])) (by decide) rfl (fun ls hl => ?_)
      refine lv_goto (tgt := 2) hx hb dX8_commonDivisor_24 (by decide) ?_
      exact ih_2 (i - 1) ls ⟨(by omega), (by omega), (fun j q1 q2 q => by
                  rcases Nat.lt_or_ge i j with w | w
                  · exact hno j w q2 q
                  · have e9 : j = i := by omega
                    subst e9
                    first | (have := q.1; omega) | (have := q.2; omega)), lv_sub hl [0, 1, 2] rfl⟩ (by (try dsimp only); omega)
    · refine lv_iload_n hx hb dX8_commonDivisor_13 rfl (lv_at hl 2 rfl) ?_
      refine lv_iload_n hx hb dX8_commonDivisor_14 rfl (lv_at hl 0 rfl) ?_
      refine x_iremN S (by omega) (by omega) (by omega) dX8_commonDivisor_15 ?_
      have hm2 := Nat.mod_le b i
      refine x_ifN_ne (tgt := 21) S dX8_commonDivisor_16 (by decide) (by omega) (fun c_16 => ?_) (fun c_16 => ?_)
      · refine lv_iinc (v := nI (i - 1)) (lv' := [(2, .int (nI (i - 1))), (0, .int (nI a)), (1, .int (nI b))]) hx hb dX8_commonDivisor_21 hl (k := 0) rfl ((by rw [show (Int32.ofInt (-1)) = -1 from by decide, sb_m1 (by omega)])) (by decide) rfl (fun ls hl => ?_)
        refine lv_goto (tgt := 2) hx hb dX8_commonDivisor_24 (by decide) ?_
        exact ih_2 (i - 1) ls ⟨(by omega), (by omega), (fun j q1 q2 q => by
                  rcases Nat.lt_or_ge i j with w | w
                  · exact hno j w q2 q
                  · have e9 : j = i := by omega
                    subst e9
                    first | (have := q.1; omega) | (have := q.2; omega)), lv_sub hl [0, 1, 2] rfl⟩ (by (try dsimp only); omega)
      · refine lv_iload_n hx hb dX8_commonDivisor_19 rfl (lv_at hl 0 rfl) ?_
        exact x_iretR S hlocks hr rfl (by rw [xgcd_at h0 c_10 c_16 (by omega) hno]) dX8_commonDivisor_20
set_option maxHeartbeats 4000000 in
set_option maxRecDepth 100000 in
theorem c_X8_fraction (l : Launch) (a : Nat) (b : Nat) (x : Int32)  (h0 : 0 < b) (ha : a < 2147483648) (hb9 : b < 2147483648) : Met l yX8_fraction wsX8_fraction (xrm 1) (va_Pc [.int (nI a), .int (nI b), .int x] (fun _ => True)) (vp_Si (fun r => r = nI ((if x = 0 then a else b) / Nat.gcd a b))) 0 0 (fun _ => False) := by
  refine Met.ofW (cc := cX8_fraction) (maxL := 4) (ret := (some .int)) (by decide) rfl ?_
  intro p e s m args below meth c s₁ B hml hv
  obtain ⟨rfl, -⟩ := hv
  have S : CallFix p m c cX8_fraction 4 s _ wsX8_fraction RX8 := ⟨B.exec, B.bytes, hml, findClass_of_methodNamed B.named, atoms_spec (ws := wsX8_fraction) B.pre⟩
  have hx := S.1
  have hb := S.2.1
  have hr := B.returns
  have hlocks := B.notSynchronized
  have hl := lv_entry ([.int (nI a), .int (nI b), .int x]) (n := 4) (Nat.le_of_ble_eq_true rfl)
  rw [lg_entry_eq]
  generalize (lg_sl ([.int (nI a), .int (nI b), .int x]) ++ List.replicate (4 - (lg_sl ([.int (nI a), .int (nI b), .int x])).length) Slot.unset).toArray = ls at hl ⊢
  have hl : lv_has ls 4 [(0, .int (nI a)), (1, .int (nI b)), (2, .int x)] := hl
  have hg := Nat.gcd_pos_of_pos_right a h0
  have hg2 := Nat.le_of_dvd h0 (Nat.gcd_dvd_right a b)
  refine lv_iload_n hx hb dX8_fraction_0 rfl (lv_at hl 0 rfl) ?_
  refine lv_iload_n hx hb dX8_fraction_1 rfl (lv_at hl 1 rfl) ?_
  refine x_cSi (As := [.int (nI a), .int (nI b)]) (rest := []) S (c_X8_commonDivisor l a b  (by first | assumption | omega) (by first | assumption | omega) (by first | assumption | omega)) (x_cwS (n0 := 2) S gX8_fraction_X8_commonDivisor rfl (by decide +kernel) ⟨Nat.le_of_ble_eq_true rfl, Nat.le_of_ble_eq_true rfl⟩) rfl hl.1 rfl (Nat.le_of_ble_eq_true rfl) dX8_fraction_2 ⟨Nat.le_refl _, Nat.le_refl _⟩ (fun r_2 hr_2 => ?_)
  subst hr_2
  refine lv_istore_n (lv' := [(3, .int (nI (Nat.gcd a b))), (0, .int (nI a)), (1, .int (nI b)), (2, .int x)]) hx hb dX8_fraction_5 rfl hl (by decide) rfl (fun ls hl => ?_)
  refine lv_iload_n hx hb dX8_fraction_6 rfl (lv_at hl 3 rfl) ?_
  refine lv_if_ne (tgt := 14) hx hb dX8_fraction_7 (by decide) (fun c_7 => ?_) (fun c_7 => ?_)
  · refine lv_iload_n hx hb dX8_fraction_14 rfl (lv_at hl 2 rfl) ?_
    refine lv_iload_n hx hb dX8_fraction_15 rfl (lv_at hl 0 rfl) ?_
    refine x_idivN S (by omega) (by omega) (by omega) dX8_fraction_16 ?_
    exact x_iretR S hlocks hr rfl (by first | rw [if_pos c_7] | rw [if_neg c_7]) dX8_fraction_17
  · refine lv_iload_n hx hb dX8_fraction_10 rfl (lv_at hl 1 rfl) ?_
    refine lv_goto (tgt := 15) hx hb dX8_fraction_11 (by decide) ?_
    refine lv_iload_n hx hb dX8_fraction_15 rfl (lv_at hl 0 rfl) ?_
    refine x_idivN S (by omega) (by omega) (by omega) dX8_fraction_16 ?_
    exact x_iretR S hlocks hr rfl (by first | rw [if_pos c_7] | rw [if_neg c_7]) dX8_fraction_17
set_option maxHeartbeats 4000000 in
set_option maxRecDepth 100000 in
theorem c_X8_nameAt (l : Launch) (t : Nat) (k : Nat)  (ht : t < 64) (hk : k < xct t 6) (hk9 : k < 2147483648) : Met l yX8_nameAt wsX8_nameAt (xrm 1) (va_Pc [.int (nI t), .int (nI k)] (fun _ => True)) (vp_Si (fun r => r = nI (xna t k))) 0 0 (fun _ => False) := by
  refine Met.ofW (cc := cX8_nameAt) (maxL := 4) (ret := (some .int)) (by decide) rfl ?_
  intro p e s m args below meth c s₁ B hml hv
  obtain ⟨rfl, -⟩ := hv
  have S : CallFix p m c cX8_nameAt 4 s _ wsX8_nameAt RX8 := ⟨B.exec, B.bytes, hml, findClass_of_methodNamed B.named, atoms_spec (ws := wsX8_nameAt) B.pre⟩
  have hx := S.1
  have hb := S.2.1
  have hr := B.returns
  have hlocks := B.notSynchronized
  have hl := lv_entry ([.int (nI t), .int (nI k)]) (n := 4) (Nat.le_of_ble_eq_true rfl)
  rw [lg_entry_eq]
  generalize (lg_sl ([.int (nI t), .int (nI k)]) ++ List.replicate (4 - (lg_sl ([.int (nI t), .int (nI k)])).length) Slot.unset).toArray = ls at hl ⊢
  have hl : lv_has ls 4 [(0, .int (nI t)), (1, .int (nI k))] := hl
  refine lv_iconst (v := nI 0) hx hb dX8_nameAt_0 (by decide) ?_
  refine lv_istore_n (lv' := [(2, .int (nI 0)), (0, .int (nI t)), (1, .int (nI k))]) hx hb dX8_nameAt_1 rfl hl (by decide) rfl (fun ls hl => ?_)
  refine lv_iconst (v := nI 0) hx hb dX8_nameAt_2 (by decide) ?_
  refine lv_istore_n (lv' := [(3, .int (nI 0)), (2, .int (nI 0)), (0, .int (nI t)), (1, .int (nI k))]) hx hb dX8_nameAt_3 rfl hl (by decide) rfl (fun ls hl => ?_)
  refine x_loop (ι := Nat) (fun i ls => (i ≤ 6) ∧ (∀ n, n < i → ¬ (t.testBit n = true ∧ xct t n = k)) ∧ lv_has ls 4 [(3, .int (nI i)), (2, .int (nI (xct t i))), (0, .int (nI t)), (1, .int (nI k))]) (fun i => 6 - i) ?_ 0 ls ⟨Nat.zero_le _, fun n hn => absurd hn (Nat.not_lt_zero n), lv_sub hl [0, 1, 2, 3] rfl⟩
  intro i ls hinv ih_4
  obtain ⟨hi, hno, hl⟩ := hinv
  have hl : lv_has ls 4 [(3, .int (nI i)), (2, .int (nI (xct t i))), (0, .int (nI t)), (1, .int (nI k))] := hl
  refine lv_iload_n hx hb dX8_nameAt_4 rfl (lv_at hl 0 rfl) ?_
  refine lv_bipush (v := nI 6) hx hb dX8_nameAt_5 (by decide) ?_
  refine x_icmpN_ge (tgt := 34) S dX8_nameAt_7 (by decide) (by omega) (by omega) (fun c_7 => ?_) (fun c_7 => ?_)
  · obtain ⟨n9, h9, q9⟩ := xna_ex hk
    exact absurd q9 (hno n9 (by omega))
  · refine lv_iload_n hx hb dX8_nameAt_10 rfl (lv_at hl 2 rfl) ?_
    refine lv_iload_n hx hb dX8_nameAt_11 rfl (lv_at hl 0 rfl) ?_
    refine x_cSi (As := [.int (nI t), .int (nI i)]) (rest := []) S (c_X8_isIn l (nI t) (nI i)  ) (x_cwS (n0 := 2) S gX8_nameAt_X8_isIn rfl (by decide +kernel) ⟨Nat.le_of_ble_eq_true rfl, Nat.le_of_ble_eq_true rfl⟩) rfl hl.1 rfl (Nat.le_of_ble_eq_true rfl) dX8_nameAt_12 ⟨Nat.le_refl _, Nat.le_refl _⟩ (fun r_12 hr_12 => ?_)
    subst hr_12
    refine x_if_eqB (tgt := 28) S dX8_nameAt_15 (by decide) (fun c_15 => ?_) (fun c_15 => ?_)
    · have hbit : ¬ t.testBit i = true := fun q => c_15 ((xis_I ht (by omega)).mpr q)
      refine lv_iinc (v := nI (i + 1)) (lv' := [(3, .int (nI (i + 1))), (2, .int (nI (xct t i))), (0, .int (nI t)), (1, .int (nI k))]) hx hb dX8_nameAt_28 hl (k := 0) rfl (nI_add i 1) (by decide) rfl (fun ls hl => ?_)
      refine lv_goto (tgt := 4) hx hb dX8_nameAt_31 (by decide) ?_
      exact ih_4 (i + 1) ls ⟨(by omega), lt_s hno (fun q => by first | exact c_20 q.2 | exact hbit q.1), (by have h9 := lv_sub (l' := [(3, .int (nI (i + 1))), (2, .int (nI (xct t i))), (0, .int (nI t)), (1, .int (nI k))]) hl [0, 1, 2, 3] rfl; rw [show nI (xct t i) = nI (xct t (i + 1)) from by rw [xct_s, if_neg hbit, Nat.add_zero]] at h9; exact h9)⟩ (by (try dsimp only); omega)
    · have hbit : t.testBit i = true := (xis_I ht (by omega)).mp c_15
      have hct : xct t i ≤ i := fb_ct_le _ _
      refine lv_iload_n hx hb dX8_nameAt_18 rfl (lv_at hl 1 rfl) ?_
      refine lv_iload_n hx hb dX8_nameAt_19 rfl (lv_at hl 3 rfl) ?_
      refine x_icmpN_ne (tgt := 25) S dX8_nameAt_20 (by decide) (by omega) (by omega) (fun c_20 => ?_) (fun c_20 => ?_)
      · refine lv_iinc (v := nI (xct t i + 1)) (lv' := [(2, .int (nI (xct t i + 1))), (3, .int (nI i)), (0, .int (nI t)), (1, .int (nI k))]) hx hb dX8_nameAt_25 hl (k := 1) rfl (nI_add (xct t i) 1) (by decide) rfl (fun ls hl => ?_)
        refine lv_iinc (v := nI (i + 1)) (lv' := [(3, .int (nI (i + 1))), (2, .int (nI (xct t i + 1))), (0, .int (nI t)), (1, .int (nI k))]) hx hb dX8_nameAt_28 hl (k := 1) rfl (nI_add i 1) (by decide) rfl (fun ls hl => ?_)
        refine lv_goto (tgt := 4) hx hb dX8_nameAt_31 (by decide) ?_
        exact ih_4 (i + 1) ls ⟨(by omega), lt_s hno (fun q => by first | exact c_20 q.2 | exact hbit q.1), (by have h9 := lv_sub (l' := [(3, .int (nI (i + 1))), (2, .int (nI (xct t i + 1))), (0, .int (nI t)), (1, .int (nI k))]) hl [0, 1, 2, 3] rfl; rw [show nI (xct t i + 1) = nI (xct t (i + 1)) from by rw [xct_s, if_pos hbit]] at h9; exact h9)⟩ (by (try dsimp only); omega)
      · refine lv_iload_n hx hb dX8_nameAt_23 rfl (lv_at hl 0 rfl) ?_
        exact x_iretR S hlocks hr rfl (by rw [xna, xfst_at hno ⟨hbit, c_20⟩ (by omega)]) dX8_nameAt_24
set_option maxHeartbeats 4000000 in
set_option maxRecDepth 100000 in
theorem c_X8_lot (l : Launch) {D : va_G} {K : Nat → ClassId} {α : Nat → Nat} (σ : Nat → Nat → Int32) (seed : Int32) (x : Int32)  : Met l yX8_lot wsX8_lot (xrm 2) (va_Pc [.ref (α 0), .int seed, .int x] (xPre D K 42 α (xC α K) σ)) (vp_Si (fun r => r = xp_lot seed x)) 0 0 (fun _ => False) := by
  refine Met.ofW (cc := cX8_lot) (maxL := 7) (ret := (some .int)) (by decide) rfl ?_
  intro p e s m args below meth c s₁ B hml hv
  obtain ⟨rfl, hK, hP⟩ := hv
  have S : CallFix p m c cX8_lot 7 s _ wsX8_lot RX8 := ⟨B.exec, B.bytes, hml, findClass_of_methodNamed B.named, atoms_spec (ws := wsX8_lot) B.pre⟩
  have hx := S.1
  have hb := S.2.1
  have hr := B.returns
  have hlocks := B.notSynchronized
  have hl := lv_entry ([.ref (α 0), .int seed, .int x]) (n := 7) (Nat.le_of_ble_eq_true rfl)
  rw [lg_entry_eq]
  generalize (lg_sl ([.ref (α 0), .int seed, .int x]) ++ List.replicate (7 - (lg_sl ([.ref (α 0), .int seed, .int x])).length) Slot.unset).toArray = ls at hl ⊢
  have hl : lv_has ls 7 [(0, .ref (α 0)), (1, .int seed), (2, .int x)] := hl
  have hPP := hP
  refine lv_iload_n hx hb dX8_lot_0 rfl (lv_at hl 2 rfl) ?_
  refine x_cSi (As := [.int x]) (rest := []) S (c_X8_isShip l x  ) (x_cwS (n0 := 1) S gX8_lot_X8_isShip rfl (by decide +kernel) ⟨Nat.le_of_ble_eq_true rfl, Nat.le_of_ble_eq_true rfl⟩) rfl hl.1 rfl (Nat.le_of_ble_eq_true rfl) dX8_lot_1 ⟨Nat.le_refl _, Nat.le_refl _⟩ (fun r_1 hr_1 => ?_)
  subst hr_1
  refine x_if_neB (tgt := 10) S dX8_lot_4 (by decide) (fun c_4 => ?_) (fun c_4 => ?_)
  · obtain ⟨h, hh, rfl⟩ := xin_of c_4 (by omega)
    refine lv_bipush (v := nI 63) hx hb dX8_lot_10 (by decide) ?_
    refine lv_istore_n (lv' := [(3, .int (nI 63)), (0, .ref (α 0)), (1, .int seed), (2, .int (nI h))]) hx hb dX8_lot_12 rfl hl (by decide) rfl (fun ls hl => ?_)
    refine lv_iconst (v := (-1)) hx hb dX8_lot_13 (by decide) ?_
    refine lv_istore (lv' := [(4, .int (-1 : Int32)), (3, .int (nI 63)), (0, .ref (α 0)), (1, .int seed), (2, .int (nI h))]) hx hb dX8_lot_14 hl (by decide) rfl (fun ls hl => ?_)
    refine lv_iload_n hx hb dX8_lot_16 rfl (lv_at hl 3 rfl) ?_
    refine lv_istore (lv' := [(5, .int seed), (4, .int (-1 : Int32)), (3, .int (nI 63)), (0, .ref (α 0)), (1, .int seed), (2, .int (nI h))]) hx hb dX8_lot_17 hl (by decide) rfl (fun ls hl => ?_)
    refine lv_iconst (v := nI 0) hx hb dX8_lot_19 (by decide) ?_
    refine lv_istore (lv' := [(6, .int (nI 0)), (5, .int seed), (4, .int (-1 : Int32)), (3, .int (nI 63)), (0, .ref (α 0)), (1, .int seed), (2, .int (nI h))]) hx hb dX8_lot_20 hl (by decide) rfl (fun ls hl => ?_)
    refine x_loop (ι := Nat) (fun i ls => (i ≤ h + 1) ∧ lv_has ls 7 [(6, .int (nI i)), (5, .int (xlt_n seed i)), (4, .int (xlt_g seed i)), (3, .int (nI (xlt_l seed i))), (0, .ref (α 0)), (1, .int seed), (2, .int (nI h))]) (fun i => h + 1 - i) ?_ 0 ls ⟨Nat.zero_le _, lv_sub hl [0, 1, 2, 3, 4, 5, 6] rfl⟩
    intro i ls hinv ih_22
    obtain ⟨hi, hl⟩ := hinv
    have hl : lv_has ls 7 [(6, .int (nI i)), (5, .int (xlt_n seed i)), (4, .int (xlt_g seed i)), (3, .int (nI (xlt_l seed i))), (0, .ref (α 0)), (1, .int seed), (2, .int (nI h))] := hl
    refine lv_iload hx hb dX8_lot_22 (lv_at hl 0 rfl) ?_
    refine lv_iload_n hx hb dX8_lot_24 rfl (lv_at hl 6 rfl) ?_
    refine x_icmpN_gt (tgt := 71) S dX8_lot_25 (by decide) (by omega) (by omega) (fun c_25 => ?_) (fun c_25 => ?_)
    · have e9 : i = h + 1 := by omega
      subst e9
      refine lv_iload hx hb dX8_lot_71 (lv_at hl 2 rfl) ?_
      exact x_iretR S hlocks hr rfl (by rw [xp_lot, if_pos (xin_nI (by omega) (by omega)), cN_nI (by omega)]; rfl) dX8_lot_73
    · obtain ⟨hq1, hq2⟩ := xlt_inv seed (i := i) (by omega)
      have hq3 := (xlt_d_spec seed (i := i) (by omega)).1
      have hq4 := xlt_u_lt (xlt_n seed (i + 1))
      have hq5 : xlt_u (xlt_n seed (i + 1)) % (6 - i) < 6 - i := Nat.mod_lt _ (by omega)
      refine lv_ldc hx hb S.2.2.2.1 (S.2.2.2.2 (.constant RX8 201 (1103515245)) (List.mem_of_getElem? (i := 1) rfl)) dX8_lot_28 ?_
      refine lv_iload hx hb dX8_lot_30 (lv_at hl 1 rfl) ?_
      refine lv_imul hx hb dX8_lot_32 ?_
      refine lv_sipush (v := nI 12345) hx hb dX8_lot_33 (by decide) ?_
      refine lv_iadd hx hb dX8_lot_36 ?_
      refine x_top S (y := xlt_n seed (i + 1)) (rfl) ?_
      refine lv_istore (lv' := [(5, .int (xlt_n seed (i + 1))), (6, .int (nI i)), (4, .int (xlt_g seed i)), (3, .int (nI (xlt_l seed i))), (0, .ref (α 0)), (1, .int seed), (2, .int (nI h))]) hx hb dX8_lot_37 hl (by decide) rfl (fun ls hl => ?_)
      refine lv_iload_n hx hb dX8_lot_39 rfl (lv_at hl 3 rfl) ?_
      refine lv_iload hx hb dX8_lot_40 (lv_at hl 0 rfl) ?_
      refine lv_bipush (v := nI 16) hx hb dX8_lot_42 (by decide) ?_
      refine lv_iushr hx hb dX8_lot_44 rfl ?_
      refine x_top S (y := nI (xlt_u (xlt_n seed (i + 1)))) (xush16 _) ?_
      refine lv_bipush (v := nI 6) hx hb dX8_lot_45 (by decide) ?_
      refine lv_iload hx hb dX8_lot_47 (lv_at hl 1 rfl) ?_
      refine x_isubN S (by first | assumption | omega) dX8_lot_49 ?_
      refine x_iremN S (by omega) (by omega) (by omega) dX8_lot_50 ?_
      refine x_cSi (As := [.int (nI (xlt_l seed i)), .int (nI ((xlt_u (xlt_n seed (i + 1))) % (6 - i)))]) (rest := []) S (c_X8_nameAt l (xlt_l seed i) ((xlt_u (xlt_n seed (i + 1))) % (6 - i))  (by first | assumption | omega) (by rw [hq2]; exact hq5) (by first | assumption | omega)) (x_cwS (n0 := 2) S gX8_lot_X8_nameAt rfl (by decide +kernel) ⟨Nat.le_of_ble_eq_true rfl, Nat.le_of_ble_eq_true rfl⟩) rfl hl.1 rfl (Nat.le_of_ble_eq_true rfl) dX8_lot_51 ⟨Nat.le_refl _, Nat.le_refl _⟩ (fun r_51 hr_51 => ?_)
      subst hr_51
      refine x_top S (y := nI (xlt_d seed i)) (rfl) ?_
      refine lv_istore (lv' := [(4, .int (nI (xlt_d seed i))), (5, .int (xlt_n seed (i + 1))), (6, .int (nI i)), (3, .int (nI (xlt_l seed i))), (0, .ref (α 0)), (1, .int seed), (2, .int (nI h))]) hx hb dX8_lot_54 hl (by decide) rfl (fun ls hl => ?_)
      refine lv_iload_n hx hb dX8_lot_56 rfl (lv_at hl 3 rfl) ?_
      refine lv_iconst (v := nI 1) hx hb dX8_lot_57 (by decide) ?_
      refine lv_iload hx hb dX8_lot_58 (lv_at hl 0 rfl) ?_
      refine lv_ishl hx hb dX8_lot_60 ?_
      refine lv_iconst (v := (-1)) hx hb dX8_lot_61 (by decide) ?_
      refine lv_ixor hx hb dX8_lot_62 ?_
      refine lv_iand hx hb dX8_lot_63 ?_
      refine x_top S (y := nI (xclr (xlt_l seed i) (xlt_d seed i))) (xclr_I hq1 hq3) ?_
      refine lv_istore_n (lv' := [(3, .int (nI (xclr (xlt_l seed i) (xlt_d seed i)))), (4, .int (nI (xlt_d seed i))), (5, .int (xlt_n seed (i + 1))), (6, .int (nI i)), (0, .ref (α 0)), (1, .int seed), (2, .int (nI h))]) hx hb dX8_lot_64 rfl hl (by decide) rfl (fun ls hl => ?_)
      refine lv_iinc (v := nI (i + 1)) (lv' := [(6, .int (nI (i + 1))), (3, .int (nI (xclr (xlt_l seed i) (xlt_d seed i)))), (4, .int (nI (xlt_d seed i))), (5, .int (xlt_n seed (i + 1))), (0, .ref (α 0)), (1, .int seed), (2, .int (nI h))]) hx hb dX8_lot_65 hl (k := 3) rfl (nI_add i 1) (by decide) rfl (fun ls hl => ?_)
      refine lv_goto (tgt := 22) hx hb dX8_lot_68 (by decide) ?_
      exact ih_22 (i + 1) ls ⟨(by omega), lv_sub hl [0, 3, 2, 1, 4, 5, 6] rfl⟩ (by (try dsimp only); omega)
  · refine lv_bipush (v := (-2)) hx hb dX8_lot_7 (by decide) ?_
    exact x_iretR S hlocks hr rfl (by rw [xp_lot, if_neg c_4]) dX8_lot_9
set_option maxHeartbeats 4000000 in
set_option maxRecDepth 100000 in
theorem c_X8_drawSound (l : Launch) {D : va_G} {K : Nat → ClassId} {α : Nat → Nat} (σ : Nat → Nat → Int32) (hI : xw_I 42 α)   : Met l yX8_drawSound wsX8_drawSound (xrm 3) (va_Pc [.ref (α 0)] (xPre D K 42 α (xC α K) σ)) (xQv D 42 α (xC α K) (fun τ => τ = xst_cw (va_up σ 21 (fa_fill (fun h => nI ((xA (xFC σ)) h)) (σ 21) 6)) (xA (xFC σ)))) 0 0 (xw_R 42 α) := by
  refine Met.ofW (cc := cX8_drawSound) (maxL := 2) (ret := none) (by decide) rfl ?_
  intro p e s m args below meth c s₁ B hml hv
  obtain ⟨rfl, hK, hP⟩ := hv
  have S : CallFix p m c cX8_drawSound 2 s _ wsX8_drawSound RX8 := ⟨B.exec, B.bytes, hml, findClass_of_methodNamed B.named, atoms_spec (ws := wsX8_drawSound) B.pre⟩
  have hx := S.1
  have hb := S.2.1
  have hr := B.returns
  have hlocks := B.notSynchronized
  have hS : va_S (xw_R 42 α) s.heap s.heap [] := va_S.rf
  have hl := lv_entry ([.ref (α 0)]) (n := 2) (Nat.le_of_ble_eq_true rfl)
  rw [lg_entry_eq]
  generalize (lg_sl ([.ref (α 0)]) ++ List.replicate (2 - (lg_sl ([.ref (α 0)])).length) Slot.unset).toArray = ls at hl ⊢
  have hl : lv_has ls 2 [(0, .ref (α 0))] := hl
  have hPP := hP
  have hAlt : ∀ h, (xA (xFC σ)) h < 64 := fun h => xA_lt _ _
  refine lv_iconst (v := nI 0) hx hb dX8_drawSound_0 (by decide) ?_
  refine lv_istore_n (lv' := [(1, .int (nI 0)), (0, .ref (α 0))]) hx hb dX8_drawSound_1 rfl hl (by decide) rfl (fun ls hl => ?_)
  refine x_loopW (ι := Nat) (fun i H locs ls => (i ≤ 6) ∧ lv_has ls 2 [(1, .int (nI i)), (0, .ref (α 0))] ∧ va_P D vwCl (xw 42 α (xC α K) (va_up σ 21 (fa_fill (fun h => nI ((xA (xFC σ)) h)) (σ 21) i))) H ∧ va_S (xw_R 42 α) s.heap H locs) (fun i => 6 - i) ?_ 0 ls ⟨Nat.zero_le _, lv_sub hl [0, 1] rfl, (by rw [fa_fill_0, xup_id]; exact hP), hS⟩
  intro i H locs ls hinv ih_2
  obtain ⟨hi, hl, hP, hS⟩ := hinv
  have hl : lv_has ls 2 [(1, .int (nI i)), (0, .ref (α 0))] := hl
  have hP : va_P D vwCl (xw 42 α (xC α K) (va_up σ 21 (fa_fill (fun h => nI ((xA (xFC σ)) h)) (σ 21) i))) H := hP
  refine lv_iload_n hx hb dX8_drawSound_2 rfl (lv_at hl 0 rfl) ?_
  refine lv_bipush (v := nI 6) hx hb dX8_drawSound_3 (by decide) ?_
  refine x_icmpN_ge (tgt := 31) S dX8_drawSound_5 (by decide) (by omega) (by omega) (fun c_5 => ?_) (fun c_5 => ?_)
  · have e9 : i = 6 := by omega
    subst e9
    refine lv_aload_n hx hb dX8_drawSound_31 rfl (lv_at hl 1 rfl) ?_
    refine x_get S (fun w h => List.mem_cons_of_mem _ (List.mem_append_left _ (List.mem_append_left _ (List.mem_append_right _ h)))) hK hP 0 (by omega) rfl rfl 5 (by decide) (List.mem_of_getElem? (i := 1) rfl) rfl dX8_drawSound_32 ?_
    refine x_cVWv (As := []) (rest := []) S hK hP hS (fun _ h => h) 20 (by omega) rfl rfl (c_X3_countWays l (va_up σ 21 (fa_fill (fun h => nI ((xA (xFC σ)) h)) (σ 21) 6)) hI (xA (xFC σ))  (fun h hh => ⟨by rw [xup_s, fa_fill_in hh], hAlt h⟩)) (x_cwV (n0 := 0) (cq := (RX3, TX3, 3)) S gX8_drawSound_X3_countWays rfl (by decide +kernel) ⟨Nat.le_of_ble_eq_true rfl, Nat.le_of_ble_eq_true rfl⟩) rfl hl.1 rfl (Nat.le_of_ble_eq_true rfl) dX8_drawSound_35 ⟨Nat.le_refl _, Nat.le_refl _⟩ (fun τ_35 H locs hr_35 hP hk_35 hS => ?_)
    subst hr_35
    exact x_vretW S hlocks hP hS hr (rfl) dX8_drawSound_38
  · refine lv_aload_n hx hb dX8_drawSound_8 rfl (lv_at hl 1 rfl) ?_
    refine x_get S (fun w h => List.mem_cons_of_mem _ (List.mem_append_left _ (List.mem_append_left _ (List.mem_append_right _ h)))) hK hP 0 (by omega) rfl rfl 5 (by decide) (List.mem_of_getElem? (i := 1) rfl) rfl dX8_drawSound_9 ?_
    refine x_get S (fun w h => List.mem_cons_of_mem _ (List.mem_append_left _ (List.mem_append_right _ h))) hK hP 20 (by omega) rfl rfl 0 (by decide) (List.mem_of_getElem? (i := 2) rfl) rfl dX8_drawSound_12 ?_
    refine lv_iload_n hx hb dX8_drawSound_15 rfl (lv_at hl 0 rfl) ?_
    refine lv_aload_n hx hb dX8_drawSound_16 rfl (lv_at hl 1 rfl) ?_
    refine x_get S (fun w h => List.mem_cons_of_mem _ (List.mem_append_left _ (List.mem_append_left _ (List.mem_append_right _ h)))) hK hP 0 (by omega) rfl rfl 0 (by decide) (List.mem_of_getElem? (i := 3) rfl) rfl dX8_drawSound_17 ?_
    refine lv_iload_n hx hb dX8_drawSound_20 rfl (lv_at hl 0 rfl) ?_
    refine x_cVRi (As := [.int (nI i)]) (rest := [.int (nI i), .ref (α 21)]) S hK hP 1 (by omega) rfl rfl (c_X4_namesFor l (va_up σ 21 (fa_fill (fun h => nI ((xA (xFC σ)) h)) (σ 21) i)) i  (by first | assumption | omega)) (x_cwV (n0 := 1) (cq := (RX4, TX4, 2)) S gX8_drawSound_X4_namesFor rfl (by decide +kernel) ⟨Nat.le_of_ble_eq_true rfl, Nat.le_of_ble_eq_true rfl⟩) rfl hl.1 rfl (Nat.le_of_ble_eq_true rfl) dX8_drawSound_21 ⟨Nat.le_refl _, Nat.le_refl _⟩ (fun r_21 hr_21 => ?_)
    subst hr_21
    refine x_top S (y := nI ((xA (xFC σ)) i)) (by rw [xFC_up (by decide)]; rfl) ?_
    refine x_iast S hK hP hI hS 21 (by omega) (fun _ => rfl) (by first | assumption | omega) (by omega) dX8_drawSound_24 (fun H locs hP hS => ?_)
    have hP : va_P D vwCl (xw 42 α (xC α K) (va_up σ 21 (fa_fill (fun h => nI ((xA (xFC σ)) h)) (σ 21) (i + 1)))) H := by
      rw [show va_up σ 21 (fa_fill (fun h => nI ((xA (xFC σ)) h)) (σ 21) (i + 1)) = (va_up (va_up σ 21 (fa_fill (fun h => nI ((xA (xFC σ)) h)) (σ 21) i)) 21 (upd ((va_up σ 21 (fa_fill (fun h => nI ((xA (xFC σ)) h)) (σ 21) i)) 21) i (nI ((xA (xFC σ)) i)))) from by rw [bx_uu, xup_s, ← fa_fill_succ]]; exact hP
    refine lv_iinc (v := nI (i + 1)) (lv' := [(1, .int (nI (i + 1))), (0, .ref (α 0))]) hx hb dX8_drawSound_25 hl (k := 0) rfl (nI_add i 1) (by decide) rfl (fun ls hl => ?_)
    refine lv_goto (tgt := 2) hx hb dX8_drawSound_28 (by decide) ?_
    exact ih_2 (i + 1) H locs ls ⟨(by omega), lv_sub hl [0, 1] rfl, hP, hS⟩ (by (try dsimp only); omega)
set_option maxHeartbeats 4000000 in
set_option maxRecDepth 100000 in
theorem c_X8_drawSeen (l : Launch) {D : va_G} {K : Nat → ClassId} {α : Nat → Nat} (σ : Nat → Nat → Int32) (hI : xw_I 42 α) (sn : Nat)  (hs1 : xran (σ 17) sn 6) (hs2 : xran (σ 18) sn 2) (hss : σ 16 4 = nI sn) (hsn : sn ≤ 8) : Met l yX8_drawSeen wsX8_drawSeen (xrm 3) (va_Pc [.ref (α 0)] (xPre D K 42 α (xC α K) σ)) (xQv D 42 α (xC α K) (fun τ => τ = xst_cw (va_up σ 21 (fa_fill (fun h => nI ((xB (xFC σ) (σ 17) (σ 18) (σ 19) sn) h)) (σ 21) 6)) (xB (xFC σ) (σ 17) (σ 18) (σ 19) sn))) 0 0 (xw_R 42 α) := by
  refine Met.ofW (cc := cX8_drawSeen) (maxL := 2) (ret := none) (by decide) rfl ?_
  intro p e s m args below meth c s₁ B hml hv
  obtain ⟨rfl, hK, hP⟩ := hv
  have S : CallFix p m c cX8_drawSeen 2 s _ wsX8_drawSeen RX8 := ⟨B.exec, B.bytes, hml, findClass_of_methodNamed B.named, atoms_spec (ws := wsX8_drawSeen) B.pre⟩
  have hx := S.1
  have hb := S.2.1
  have hr := B.returns
  have hlocks := B.notSynchronized
  have hS : va_S (xw_R 42 α) s.heap s.heap [] := va_S.rf
  have hl := lv_entry ([.ref (α 0)]) (n := 2) (Nat.le_of_ble_eq_true rfl)
  rw [lg_entry_eq]
  generalize (lg_sl ([.ref (α 0)]) ++ List.replicate (2 - (lg_sl ([.ref (α 0)])).length) Slot.unset).toArray = ls at hl ⊢
  have hl : lv_has ls 2 [(0, .ref (α 0))] := hl
  have hPP := hP
  have hAlt : ∀ h, (xB (xFC σ) (σ 17) (σ 18) (σ 19) sn) h < 64 := fun h => xs_left_lt _ _ _ _ _ _
  refine lv_iconst (v := nI 0) hx hb dX8_drawSeen_0 (by decide) ?_
  refine lv_istore_n (lv' := [(1, .int (nI 0)), (0, .ref (α 0))]) hx hb dX8_drawSeen_1 rfl hl (by decide) rfl (fun ls hl => ?_)
  refine x_loopW (ι := Nat) (fun i H locs ls => (i ≤ 6) ∧ lv_has ls 2 [(1, .int (nI i)), (0, .ref (α 0))] ∧ va_P D vwCl (xw 42 α (xC α K) (va_up σ 21 (fa_fill (fun h => nI ((xB (xFC σ) (σ 17) (σ 18) (σ 19) sn) h)) (σ 21) i))) H ∧ va_S (xw_R 42 α) s.heap H locs) (fun i => 6 - i) ?_ 0 ls ⟨Nat.zero_le _, lv_sub hl [0, 1] rfl, (by rw [fa_fill_0, xup_id]; exact hP), hS⟩
  intro i H locs ls hinv ih_2
  obtain ⟨hi, hl, hP, hS⟩ := hinv
  have hl : lv_has ls 2 [(1, .int (nI i)), (0, .ref (α 0))] := hl
  have hP : va_P D vwCl (xw 42 α (xC α K) (va_up σ 21 (fa_fill (fun h => nI ((xB (xFC σ) (σ 17) (σ 18) (σ 19) sn) h)) (σ 21) i))) H := hP
  refine lv_iload_n hx hb dX8_drawSeen_2 rfl (lv_at hl 0 rfl) ?_
  refine lv_bipush (v := nI 6) hx hb dX8_drawSeen_3 (by decide) ?_
  refine x_icmpN_ge (tgt := 31) S dX8_drawSeen_5 (by decide) (by omega) (by omega) (fun c_5 => ?_) (fun c_5 => ?_)
  · have e9 : i = 6 := by omega
    subst e9
    refine lv_aload_n hx hb dX8_drawSeen_31 rfl (lv_at hl 1 rfl) ?_
    refine x_get S (fun w h => List.mem_cons_of_mem _ (List.mem_append_left _ (List.mem_append_left _ (List.mem_append_left _ (List.mem_append_right _ h))))) hK hP 0 (by omega) rfl rfl 5 (by decide) (List.mem_of_getElem? (i := 1) rfl) rfl dX8_drawSeen_32 ?_
    refine x_cVWv (As := []) (rest := []) S hK hP hS (fun _ h => h) 20 (by omega) rfl rfl (c_X3_countWays l (va_up σ 21 (fa_fill (fun h => nI ((xB (xFC σ) (σ 17) (σ 18) (σ 19) sn) h)) (σ 21) 6)) hI (xB (xFC σ) (σ 17) (σ 18) (σ 19) sn)  (fun h hh => ⟨by rw [xup_s, fa_fill_in hh], hAlt h⟩)) (x_cwV (n0 := 0) (cq := (RX3, TX3, 3)) S gX8_drawSeen_X3_countWays rfl (by decide +kernel) ⟨Nat.le_of_ble_eq_true rfl, Nat.le_of_ble_eq_true rfl⟩) rfl hl.1 rfl (Nat.le_of_ble_eq_true rfl) dX8_drawSeen_35 ⟨Nat.le_refl _, Nat.le_refl _⟩ (fun τ_35 H locs hr_35 hP hk_35 hS => ?_)
    subst hr_35
    exact x_vretW S hlocks hP hS hr (rfl) dX8_drawSeen_38
  · refine lv_aload_n hx hb dX8_drawSeen_8 rfl (lv_at hl 1 rfl) ?_
    refine x_get S (fun w h => List.mem_cons_of_mem _ (List.mem_append_left _ (List.mem_append_left _ (List.mem_append_left _ (List.mem_append_right _ h))))) hK hP 0 (by omega) rfl rfl 5 (by decide) (List.mem_of_getElem? (i := 1) rfl) rfl dX8_drawSeen_9 ?_
    refine x_get S (fun w h => List.mem_cons_of_mem _ (List.mem_append_left _ (List.mem_append_left _ (List.mem_append_right _ h)))) hK hP 20 (by omega) rfl rfl 0 (by decide) (List.mem_of_getElem? (i := 2) rfl) rfl dX8_drawSeen_12 ?_
    refine lv_iload_n hx hb dX8_drawSeen_15 rfl (lv_at hl 0 rfl) ?_
    refine lv_aload_n hx hb dX8_drawSeen_16 rfl (lv_at hl 1 rfl) ?_
    refine x_get S (fun w h => List.mem_cons_of_mem _ (List.mem_append_left _ (List.mem_append_left _ (List.mem_append_left _ (List.mem_append_right _ h))))) hK hP 0 (by omega) rfl rfl 4 (by decide) (List.mem_of_getElem? (i := 3) rfl) rfl dX8_drawSeen_17 ?_
    refine lv_iload_n hx hb dX8_drawSeen_20 rfl (lv_at hl 0 rfl) ?_
    refine x_cVRi (As := [.int (nI i)]) (rest := [.int (nI i), .ref (α 21)]) S hK hP 16 (by omega) rfl rfl (c_X6_namesFor l (va_up σ 21 (fa_fill (fun h => nI ((xB (xFC σ) (σ 17) (σ 18) (σ 19) sn) h)) (σ 21) i)) i sn  (by rw [xup_n _ _ (by decide)]; exact hs1) (by rw [xup_n _ _ (by decide)]; exact hs2) (by rw [xup_n _ _ (by decide)]; exact hss) (by first | assumption | omega) (by first | assumption | omega)) (x_cwV (n0 := 1) (cq := (RX6, TX6, 5)) S gX8_drawSeen_X6_namesFor rfl (by decide +kernel) ⟨Nat.le_of_ble_eq_true rfl, Nat.le_of_ble_eq_true rfl⟩) rfl hl.1 rfl (Nat.le_of_ble_eq_true rfl) dX8_drawSeen_21 ⟨Nat.le_refl _, Nat.le_refl _⟩ (fun r_21 hr_21 => ?_)
    subst hr_21
    refine x_top S (y := nI ((xB (xFC σ) (σ 17) (σ 18) (σ 19) sn) i)) (by rw [xFC_up (by decide), xup_n _ _ (by decide), xup_n _ _ (by decide), xup_n _ _ (by decide)]; rfl) ?_
    refine x_iast S hK hP hI hS 21 (by omega) (fun _ => rfl) (by first | assumption | omega) (by omega) dX8_drawSeen_24 (fun H locs hP hS => ?_)
    have hP : va_P D vwCl (xw 42 α (xC α K) (va_up σ 21 (fa_fill (fun h => nI ((xB (xFC σ) (σ 17) (σ 18) (σ 19) sn) h)) (σ 21) (i + 1)))) H := by
      rw [show va_up σ 21 (fa_fill (fun h => nI ((xB (xFC σ) (σ 17) (σ 18) (σ 19) sn) h)) (σ 21) (i + 1)) = (va_up (va_up σ 21 (fa_fill (fun h => nI ((xB (xFC σ) (σ 17) (σ 18) (σ 19) sn) h)) (σ 21) i)) 21 (upd ((va_up σ 21 (fa_fill (fun h => nI ((xB (xFC σ) (σ 17) (σ 18) (σ 19) sn) h)) (σ 21) i)) 21) i (nI ((xB (xFC σ) (σ 17) (σ 18) (σ 19) sn) i)))) from by rw [bx_uu, xup_s, ← fa_fill_succ]]; exact hP
    refine lv_iinc (v := nI (i + 1)) (lv' := [(1, .int (nI (i + 1))), (0, .ref (α 0))]) hx hb dX8_drawSeen_25 hl (k := 0) rfl (nI_add i 1) (by decide) rfl (fun ls hl => ?_)
    refine lv_goto (tgt := 2) hx hb dX8_drawSeen_28 (by decide) ?_
    exact ih_2 (i + 1) H locs ls ⟨(by omega), lv_sub hl [0, 1] rfl, hP, hS⟩ (by (try dsimp only); omega)
set_option maxHeartbeats 4000000 in
set_option maxRecDepth 100000 in
theorem c_X8_sound (l : Launch) {D : va_G} {K : Nat → ClassId} {α : Nat → Nat} (σ : Nat → Nat → Int32) (hI : xw_I 42 α) (x : Int32)  : Met l yX8_sound wsX8_sound (xrm 4) (va_Pc [.ref (α 0), .int x] (xPre D K 42 α (xC α K) σ)) (xQi D 42 α (xC α K) (fun r τ => r = xp_sound (xA (xFC σ)) x ∧ xCs σ τ)) 0 0 (xw_R 42 α) := by
  refine Met.ofW (cc := cX8_sound) (maxL := 2) (ret := (some .int)) (by decide) rfl ?_
  intro p e s m args below meth c s₁ B hml hv
  obtain ⟨rfl, hK, hP⟩ := hv
  have S : CallFix p m c cX8_sound 2 s _ wsX8_sound RX8 := ⟨B.exec, B.bytes, hml, findClass_of_methodNamed B.named, atoms_spec (ws := wsX8_sound) B.pre⟩
  have hx := S.1
  have hb := S.2.1
  have hr := B.returns
  have hlocks := B.notSynchronized
  have hS : va_S (xw_R 42 α) s.heap s.heap [] := va_S.rf
  have hl := lv_entry ([.ref (α 0), .int x]) (n := 2) (Nat.le_of_ble_eq_true rfl)
  rw [lg_entry_eq]
  generalize (lg_sl ([.ref (α 0), .int x]) ++ List.replicate (2 - (lg_sl ([.ref (α 0), .int x])).length) Slot.unset).toArray = ls at hl ⊢
  have hl : lv_has ls 2 [(0, .ref (α 0)), (1, .int x)] := hl
  have hPP := hP
  refine lv_iload_n hx hb dX8_sound_0 rfl (lv_at hl 1 rfl) ?_
  refine lv_iconst (v := (-1)) hx hb dX8_sound_1 (by decide) ?_
  refine lv_icmp_eq (tgt := 15) hx hb dX8_sound_2 (by decide) (fun c_2 => ?_) (fun c_2 => ?_)
  · refine lv_aload_n hx hb dX8_sound_15 rfl (lv_at hl 0 rfl) ?_
    refine x_cVWv (As := []) (rest := []) S hK hP hS (fun _ h => h) 0 (by omega) rfl rfl (c_X8_drawSound l σ hI   ) (x_cwV (n0 := 0) (cq := (RX8, TX8, 9)) S gX8_sound_X8_drawSound rfl (by decide +kernel) ⟨Nat.le_of_ble_eq_true rfl, Nat.le_of_ble_eq_true rfl⟩) rfl hl.1 rfl (Nat.le_of_ble_eq_true rfl) dX8_sound_16 ⟨Nat.le_refl _, Nat.le_refl _⟩ (fun τ_16 H locs hr_16 hP hk_16 hS => ?_)
    subst hr_16
    refine lv_iload_n hx hb dX8_sound_19 rfl (lv_at hl 1 rfl) ?_
    refine lv_iconst (v := (-1)) hx hb dX8_sound_20 (by decide) ?_
    refine lv_icmp_ne (tgt := 34) hx hb dX8_sound_21 (by decide) (fun c_21 => ?_) (fun c_21 => ?_)
    · have hx6 : xin x 6 := by first | exact c_9 | exact absurd c_2 c_21
      obtain ⟨h, hh, rfl⟩ := xin_of hx6 (by omega)
      refine lv_aload_n hx hb dX8_sound_34 rfl (lv_at hl 0 rfl) ?_
      refine x_get S (fun w h => List.mem_cons_of_mem _ (List.mem_append_left _ (List.mem_append_left _ (List.mem_append_right _ h)))) hK hP 0 (by omega) rfl rfl 5 (by decide) (List.mem_of_getElem? (i := 1) rfl) rfl dX8_sound_35 ?_
      refine lv_iload_n hx hb dX8_sound_38 rfl (lv_at hl 1 rfl) ?_
      refine x_cVRi (As := [.int (nI h)]) (rest := []) S hK hP 20 (by omega) rfl rfl (c_X3_firstRowName l (xst_cw (va_up σ 21 (fa_fill (fun h => nI ((xA (xFC σ)) h)) (σ 21) 6)) (xA (xFC σ))) h (xA (xFC σ))  (fun h hh => ⟨by unfold xst_cw; rw [xup_n _ _ (by decide), xup_n _ _ (by decide), xup_s, fa_fill_in hh], xA_lt _ _⟩) (fun k hk => by unfold xst_cw; rw [xup_s, xfd_in (by omega) hk]) (by first | assumption | omega)) (x_cwV (n0 := 1) (cq := (RX3, TX3, 3)) S gX8_sound_X3_firstRowName rfl (by decide +kernel) ⟨Nat.le_of_ble_eq_true rfl, Nat.le_of_ble_eq_true rfl⟩) rfl hl.1 rfl (Nat.le_of_ble_eq_true rfl) dX8_sound_39 ⟨Nat.le_refl _, Nat.le_refl _⟩ (fun r_39 hr_39 => ?_)
      subst hr_39
      exact x_iretW S hlocks hP hS hr rfl (⟨by rw [xp_sound, if_neg c_21, if_pos (xin_nI (by omega) (by omega)), cN_nI (by omega)], xCs_cw⟩) dX8_sound_42
    · refine lv_aload_n hx hb dX8_sound_24 rfl (lv_at hl 0 rfl) ?_
      refine x_get S (fun w h => List.mem_cons_of_mem _ (List.mem_append_left _ (List.mem_append_left _ (List.mem_append_right _ h)))) hK hP 0 (by omega) rfl rfl 5 (by decide) (List.mem_of_getElem? (i := 1) rfl) rfl dX8_sound_25 ?_
      refine x_cVRi (As := []) (rest := []) S hK hP 20 (by omega) rfl rfl (c_X3_rows l (xst_cw (va_up σ 21 (fa_fill (fun h => nI ((xA (xFC σ)) h)) (σ 21) 6)) (xA (xFC σ)))   ) (x_cwV (n0 := 0) (cq := (RX3, TX3, 3)) S gX8_sound_X3_rows rfl (by decide +kernel) ⟨Nat.le_of_ble_eq_true rfl, Nat.le_of_ble_eq_true rfl⟩) rfl hl.1 rfl (Nat.le_of_ble_eq_true rfl) dX8_sound_28 ⟨Nat.le_refl _, Nat.le_refl _⟩ (fun r_28 hr_28 => ?_)
      subst hr_28
      refine x_top S (y := nI (xon (xA (xFC σ)) 0)) (by unfold xst_cw; rw [xup_s, xfd_in (by omega) (by omega)]) ?_
      refine lv_goto (tgt := 42) hx hb dX8_sound_31 (by decide) ?_
      exact x_iretW S hlocks hP hS hr rfl (⟨by rw [xp_sound, if_pos c_21], xCs_cw⟩) dX8_sound_42
  · refine lv_iload_n hx hb dX8_sound_5 rfl (lv_at hl 1 rfl) ?_
    refine x_cSi (As := [.int x]) (rest := []) S (c_X8_isShip l x  ) (x_cwS (n0 := 1) S gX8_sound_X8_isShip rfl (by decide +kernel) ⟨Nat.le_of_ble_eq_true rfl, Nat.le_of_ble_eq_true rfl⟩) rfl hl.1 rfl (Nat.le_of_ble_eq_true rfl) dX8_sound_6 ⟨Nat.le_refl _, Nat.le_refl _⟩ (fun r_6 hr_6 => ?_)
    subst hr_6
    refine x_if_neB (tgt := 15) S dX8_sound_9 (by decide) (fun c_9 => ?_) (fun c_9 => ?_)
    · refine lv_aload_n hx hb dX8_sound_15 rfl (lv_at hl 0 rfl) ?_
      refine x_cVWv (As := []) (rest := []) S hK hP hS (fun _ h => h) 0 (by omega) rfl rfl (c_X8_drawSound l σ hI   ) (x_cwV (n0 := 0) (cq := (RX8, TX8, 9)) S gX8_sound_X8_drawSound rfl (by decide +kernel) ⟨Nat.le_of_ble_eq_true rfl, Nat.le_of_ble_eq_true rfl⟩) rfl hl.1 rfl (Nat.le_of_ble_eq_true rfl) dX8_sound_16 ⟨Nat.le_refl _, Nat.le_refl _⟩ (fun τ_16 H locs hr_16 hP hk_16 hS => ?_)
      subst hr_16
      refine lv_iload_n hx hb dX8_sound_19 rfl (lv_at hl 1 rfl) ?_
      refine lv_iconst (v := (-1)) hx hb dX8_sound_20 (by decide) ?_
      refine lv_icmp_ne (tgt := 34) hx hb dX8_sound_21 (by decide) (fun c_21 => ?_) (fun c_21 => ?_)
      · have hx6 : xin x 6 := by first | exact c_9 | exact absurd c_2 c_21
        obtain ⟨h, hh, rfl⟩ := xin_of hx6 (by omega)
        refine lv_aload_n hx hb dX8_sound_34 rfl (lv_at hl 0 rfl) ?_
        refine x_get S (fun w h => List.mem_cons_of_mem _ (List.mem_append_left _ (List.mem_append_left _ (List.mem_append_right _ h)))) hK hP 0 (by omega) rfl rfl 5 (by decide) (List.mem_of_getElem? (i := 1) rfl) rfl dX8_sound_35 ?_
        refine lv_iload_n hx hb dX8_sound_38 rfl (lv_at hl 1 rfl) ?_
        refine x_cVRi (As := [.int (nI h)]) (rest := []) S hK hP 20 (by omega) rfl rfl (c_X3_firstRowName l (xst_cw (va_up σ 21 (fa_fill (fun h => nI ((xA (xFC σ)) h)) (σ 21) 6)) (xA (xFC σ))) h (xA (xFC σ))  (fun h hh => ⟨by unfold xst_cw; rw [xup_n _ _ (by decide), xup_n _ _ (by decide), xup_s, fa_fill_in hh], xA_lt _ _⟩) (fun k hk => by unfold xst_cw; rw [xup_s, xfd_in (by omega) hk]) (by first | assumption | omega)) (x_cwV (n0 := 1) (cq := (RX3, TX3, 3)) S gX8_sound_X3_firstRowName rfl (by decide +kernel) ⟨Nat.le_of_ble_eq_true rfl, Nat.le_of_ble_eq_true rfl⟩) rfl hl.1 rfl (Nat.le_of_ble_eq_true rfl) dX8_sound_39 ⟨Nat.le_refl _, Nat.le_refl _⟩ (fun r_39 hr_39 => ?_)
        subst hr_39
        exact x_iretW S hlocks hP hS hr rfl (⟨by rw [xp_sound, if_neg c_21, if_pos (xin_nI (by omega) (by omega)), cN_nI (by omega)], xCs_cw⟩) dX8_sound_42
      · refine lv_aload_n hx hb dX8_sound_24 rfl (lv_at hl 0 rfl) ?_
        refine x_get S (fun w h => List.mem_cons_of_mem _ (List.mem_append_left _ (List.mem_append_left _ (List.mem_append_right _ h)))) hK hP 0 (by omega) rfl rfl 5 (by decide) (List.mem_of_getElem? (i := 1) rfl) rfl dX8_sound_25 ?_
        refine x_cVRi (As := []) (rest := []) S hK hP 20 (by omega) rfl rfl (c_X3_rows l (xst_cw (va_up σ 21 (fa_fill (fun h => nI ((xA (xFC σ)) h)) (σ 21) 6)) (xA (xFC σ)))   ) (x_cwV (n0 := 0) (cq := (RX3, TX3, 3)) S gX8_sound_X3_rows rfl (by decide +kernel) ⟨Nat.le_of_ble_eq_true rfl, Nat.le_of_ble_eq_true rfl⟩) rfl hl.1 rfl (Nat.le_of_ble_eq_true rfl) dX8_sound_28 ⟨Nat.le_refl _, Nat.le_refl _⟩ (fun r_28 hr_28 => ?_)
        subst hr_28
        refine x_top S (y := nI (xon (xA (xFC σ)) 0)) (by unfold xst_cw; rw [xup_s, xfd_in (by omega) (by omega)]) ?_
        refine lv_goto (tgt := 42) hx hb dX8_sound_31 (by decide) ?_
        exact x_iretW S hlocks hP hS hr rfl (⟨by rw [xp_sound, if_pos c_21], xCs_cw⟩) dX8_sound_42
    · refine lv_bipush (v := (-2)) hx hb dX8_sound_12 (by decide) ?_
      exact x_iretW S hlocks hP hS hr rfl (⟨by rw [xp_sound, if_neg c_2, if_neg c_9], xCs_rf _⟩) dX8_sound_14
set_option maxHeartbeats 4000000 in
set_option maxRecDepth 100000 in
theorem c_X8_chance (l : Launch) {D : va_G} {K : Nat → ClassId} {α : Nat → Nat} (σ : Nat → Nat → Int32) (hI : xw_I 42 α) (x0 : Int32) (x1 : Int32) (x2 : Int32)  : Met l yX8_chance wsX8_chance (xrm 4) (va_Pc [.ref (α 0), .int x0, .int x1, .int x2] (xPre D K 42 α (xC α K) σ)) (xQl D 42 α (xC α K) (fun r τ => r = xp_chance (xA (xFC σ)) x0 x1 x2 ∧ xCs σ τ)) 0 0 (xw_R 42 α) := by
  refine Met.ofW (cc := cX8_chance) (maxL := 5) (ret := (some .long)) (by decide) rfl ?_
  intro p e s m args below meth c s₁ B hml hv
  obtain ⟨rfl, hK, hP⟩ := hv
  have S : CallFix p m c cX8_chance 5 s _ wsX8_chance RX8 := ⟨B.exec, B.bytes, hml, findClass_of_methodNamed B.named, atoms_spec (ws := wsX8_chance) B.pre⟩
  have hx := S.1
  have hb := S.2.1
  have hr := B.returns
  have hlocks := B.notSynchronized
  have hS : va_S (xw_R 42 α) s.heap s.heap [] := va_S.rf
  have hl := lv_entry ([.ref (α 0), .int x0, .int x1, .int x2]) (n := 5) (Nat.le_of_ble_eq_true rfl)
  rw [lg_entry_eq]
  generalize (lg_sl ([.ref (α 0), .int x0, .int x1, .int x2]) ++ List.replicate (5 - (lg_sl ([.ref (α 0), .int x0, .int x1, .int x2])).length) Slot.unset).toArray = ls at hl ⊢
  have hl : lv_has ls 5 [(0, .ref (α 0)), (1, .int x0), (2, .int x1), (3, .int x2)] := hl
  have hPP := hP
  refine lv_iload_n hx hb dX8_chance_0 rfl (lv_at hl 1 rfl) ?_
  refine x_cSi (As := [.int x0]) (rest := []) S (c_X8_isShip l x0  ) (x_cwS (n0 := 1) S gX8_chance_X8_isShip rfl (by decide +kernel) ⟨Nat.le_of_ble_eq_true rfl, Nat.le_of_ble_eq_true rfl⟩) rfl hl.1 rfl (Nat.le_of_ble_eq_true rfl) dX8_chance_1 ⟨Nat.le_refl _, Nat.le_refl _⟩ (fun r_1 hr_1 => ?_)
  subst hr_1
  refine x_if_eqB (tgt := 22) S dX8_chance_4 (by decide) (fun c_4 => ?_) (fun c_4 => ?_)
  · refine lv_bipush (v := (-2)) hx hb dX8_chance_22 (by decide) ?_
    refine x_cSl (As := [.int (-2 : Int32)]) (rest := []) S (c_X8_refusal l (-2 : Int32)  ) (x_cwS (n0 := 1) S gX8_chance_X8_refusal rfl (by decide +kernel) ⟨Nat.le_of_ble_eq_true rfl, Nat.le_of_ble_eq_true rfl⟩) rfl hl.1 rfl (Nat.le_of_ble_eq_true rfl) dX8_chance_24 ⟨Nat.le_refl _, Nat.le_refl _⟩ (fun r_24 hr_24 => ?_)
    subst hr_24
    exact x_lretW S hlocks hP hS hr (by first | exact ⟨by rw [xp_chance, if_neg (fun q => c_4 q.1)]; rfl, xCs_rf _⟩ | exact ⟨by rw [xp_chance, if_neg (fun q => c_11 q.2.1)]; rfl, xCs_rf _⟩ | exact ⟨by rw [xp_chance, if_neg (fun q => c_19 q.2.2)]; rfl, xCs_rf _⟩) dX8_chance_27
  · refine lv_iload_n hx hb dX8_chance_7 rfl (lv_at hl 2 rfl) ?_
    refine x_cSi (As := [.int x1]) (rest := []) S (c_X8_isShip l x1  ) (x_cwS (n0 := 1) S gX8_chance_X8_isShip rfl (by decide +kernel) ⟨Nat.le_of_ble_eq_true rfl, Nat.le_of_ble_eq_true rfl⟩) rfl hl.1 rfl (Nat.le_of_ble_eq_true rfl) dX8_chance_8 ⟨Nat.le_refl _, Nat.le_refl _⟩ (fun r_8 hr_8 => ?_)
    subst hr_8
    refine x_if_eqB (tgt := 22) S dX8_chance_11 (by decide) (fun c_11 => ?_) (fun c_11 => ?_)
    · refine lv_bipush (v := (-2)) hx hb dX8_chance_22 (by decide) ?_
      refine x_cSl (As := [.int (-2 : Int32)]) (rest := []) S (c_X8_refusal l (-2 : Int32)  ) (x_cwS (n0 := 1) S gX8_chance_X8_refusal rfl (by decide +kernel) ⟨Nat.le_of_ble_eq_true rfl, Nat.le_of_ble_eq_true rfl⟩) rfl hl.1 rfl (Nat.le_of_ble_eq_true rfl) dX8_chance_24 ⟨Nat.le_refl _, Nat.le_refl _⟩ (fun r_24 hr_24 => ?_)
      subst hr_24
      exact x_lretW S hlocks hP hS hr (by first | exact ⟨by rw [xp_chance, if_neg (fun q => c_4 q.1)]; rfl, xCs_rf _⟩ | exact ⟨by rw [xp_chance, if_neg (fun q => c_11 q.2.1)]; rfl, xCs_rf _⟩ | exact ⟨by rw [xp_chance, if_neg (fun q => c_19 q.2.2)]; rfl, xCs_rf _⟩) dX8_chance_27
    · refine lv_iload_n hx hb dX8_chance_14 rfl (lv_at hl 3 rfl) ?_
      refine lv_iconst (v := nI 2) hx hb dX8_chance_15 (by decide) ?_
      refine x_cSi (As := [.int x2, .int (nI 2)]) (rest := []) S (c_X8_isBelow l x2 (nI 2)  ) (x_cwS (n0 := 2) S gX8_chance_X8_isBelow rfl (by decide +kernel) ⟨Nat.le_of_ble_eq_true rfl, Nat.le_of_ble_eq_true rfl⟩) rfl hl.1 rfl (Nat.le_of_ble_eq_true rfl) dX8_chance_16 ⟨Nat.le_refl _, Nat.le_refl _⟩ (fun r_16 hr_16 => ?_)
      subst hr_16
      refine x_if_neB (tgt := 28) S dX8_chance_19 (by decide) (fun c_19 => ?_) (fun c_19 => ?_)
      · obtain ⟨h, hh, rfl⟩ := xin_of c_4 (by omega)
        obtain ⟨n, hn, rfl⟩ := xin_of c_11 (by omega)
        refine lv_aload_n hx hb dX8_chance_28 rfl (lv_at hl 0 rfl) ?_
        refine x_cVWv (As := []) (rest := []) S hK hP hS (fun _ h => h) 0 (by omega) rfl rfl (c_X8_drawSound l σ hI   ) (x_cwV (n0 := 0) (cq := (RX8, TX8, 9)) S gX8_chance_X8_drawSound rfl (by decide +kernel) ⟨Nat.le_of_ble_eq_true rfl, Nat.le_of_ble_eq_true rfl⟩) rfl hl.1 rfl (Nat.le_of_ble_eq_true rfl) dX8_chance_29 ⟨Nat.le_refl _, Nat.le_refl _⟩ (fun τ_29 H locs hr_29 hP hk_29 hS => ?_)
        subst hr_29
        refine lv_aload_n hx hb dX8_chance_32 rfl (lv_at hl 0 rfl) ?_
        refine x_get S (fun w h => List.mem_cons_of_mem _ (List.mem_append_left _ (List.mem_append_left _ (List.mem_append_right _ h)))) hK hP 0 (by omega) rfl rfl 5 (by decide) (List.mem_of_getElem? (i := 1) rfl) rfl dX8_chance_33 ?_
        refine x_cVRi (As := []) (rest := []) S hK hP 20 (by omega) rfl rfl (c_X3_rows l (xst_cw (va_up σ 21 (fa_fill (fun h => nI ((xA (xFC σ)) h)) (σ 21) 6)) (xA (xFC σ)))   ) (x_cwV (n0 := 0) (cq := (RX3, TX3, 3)) S gX8_chance_X3_rows rfl (by decide +kernel) ⟨Nat.le_of_ble_eq_true rfl, Nat.le_of_ble_eq_true rfl⟩) rfl hl.1 rfl (Nat.le_of_ble_eq_true rfl) dX8_chance_36 ⟨Nat.le_refl _, Nat.le_refl _⟩ (fun r_36 hr_36 => ?_)
        subst hr_36
        have hq1 := xon_lt (xA (xFC σ)) 0
        refine x_top S (y := nI (xon (xA (xFC σ)) 0)) (by unfold xst_cw; rw [xup_s, xfd_in (by omega) (by omega)]) ?_
        refine lv_istore (lv' := [(4, .int (nI (xon (xA (xFC σ)) 0))), (0, .ref (α 0)), (1, .int (nI h)), (2, .int (nI n)), (3, .int x2)]) hx hb dX8_chance_39 hl (by decide) rfl (fun ls hl => ?_)
        refine lv_iload hx hb dX8_chance_41 (lv_at hl 0 rfl) ?_
        refine x_ifN_ne (tgt := 52) S dX8_chance_43 (by decide) (by omega) (fun c_43 => ?_) (fun c_43 => ?_)
        · refine lv_aload_n hx hb dX8_chance_52 rfl (lv_at hl 1 rfl) ?_
          refine x_get S (fun w h => List.mem_cons_of_mem _ (List.mem_append_left _ (List.mem_append_left _ (List.mem_append_right _ h)))) hK hP 0 (by omega) rfl rfl 5 (by decide) (List.mem_of_getElem? (i := 1) rfl) rfl dX8_chance_53 ?_
          refine lv_iload_n hx hb dX8_chance_56 rfl (lv_at hl 2 rfl) ?_
          refine lv_iload_n hx hb dX8_chance_57 rfl (lv_at hl 3 rfl) ?_
          refine x_cVRi (As := [.int (nI h), .int (nI n)]) (rest := []) S hK hP 20 (by omega) rfl rfl (c_X3_rowsWith l (xst_cw (va_up σ 21 (fa_fill (fun h => nI ((xA (xFC σ)) h)) (σ 21) 6)) (xA (xFC σ))) h n (xA (xFC σ))  (fun h hh => ⟨by unfold xst_cw; rw [xup_n _ _ (by decide), xup_n _ _ (by decide), xup_s, fa_fill_in hh], xA_lt _ _⟩) (fun k hk => by unfold xst_cw; rw [xup_n _ _ (by decide), xup_s, fa_fill_in hk]) (fun k hk => by unfold xst_cw; rw [xup_s, xfd_in (by omega) hk]) (by first | assumption | omega) (by first | assumption | omega)) (x_cwV (n0 := 2) (cq := (RX3, TX3, 3)) S gX8_chance_X3_rowsWith rfl (by decide +kernel) ⟨Nat.le_of_ble_eq_true rfl, Nat.le_of_ble_eq_true rfl⟩) rfl hl.1 rfl (Nat.le_of_ble_eq_true rfl) dX8_chance_58 ⟨Nat.le_refl _, Nat.le_refl _⟩ (fun r_58 hr_58 => ?_)
          subst hr_58
          have hq2 := xrw_lt (xA (xFC σ)) h (n := n) (by omega)
          refine lv_iload hx hb dX8_chance_61 (lv_at hl 0 rfl) ?_
          refine lv_iload_n hx hb dX8_chance_63 rfl (lv_at hl 4 rfl) ?_
          refine x_cSi (As := [.int (nI (xrw (xA (xFC σ)) h n)), .int (nI (xon (xA (xFC σ)) 0)), .int x2]) (rest := []) S (c_X8_fraction l (xrw (xA (xFC σ)) h n) (xon (xA (xFC σ)) 0) x2  (by first | assumption | omega) (by first | assumption | omega) (by first | assumption | omega)) (x_cwS (n0 := 3) S gX8_chance_X8_fraction rfl (by decide +kernel) ⟨Nat.le_of_ble_eq_true rfl, Nat.le_of_ble_eq_true rfl⟩) rfl hl.1 rfl (Nat.le_of_ble_eq_true rfl) dX8_chance_64 ⟨Nat.le_refl _, Nat.le_refl _⟩ (fun r_64 hr_64 => ?_)
          subst hr_64
          refine lv_i2l hx hb dX8_chance_67 rfl ?_
          exact x_lretW S hlocks hP hS hr (⟨by show xfrac (xrw (xA (xFC σ)) h n) (xon (xA (xFC σ)) 0) x2 = _; rw [xp_chance, if_pos ⟨xin_nI (by omega) (by omega), xin_nI (by omega) (by omega), c_19⟩, if_neg (by omega), cN_nI (by omega), cN_nI (by omega)], xCs_cw⟩) dX8_chance_68
        · refine lv_bipush (v := (-3)) hx hb dX8_chance_46 (by decide) ?_
          refine x_cSl (As := [.int (-3 : Int32)]) (rest := []) S (c_X8_refusal l (-3 : Int32)  ) (x_cwS (n0 := 1) S gX8_chance_X8_refusal rfl (by decide +kernel) ⟨Nat.le_of_ble_eq_true rfl, Nat.le_of_ble_eq_true rfl⟩) rfl hl.1 rfl (Nat.le_of_ble_eq_true rfl) dX8_chance_48 ⟨Nat.le_refl _, Nat.le_refl _⟩ (fun r_48 hr_48 => ?_)
          subst hr_48
          exact x_lretW S hlocks hP hS hr (⟨by rw [xp_chance, if_pos ⟨xin_nI (by omega) (by omega), xin_nI (by omega) (by omega), c_19⟩, if_pos c_43]; rfl, xCs_cw⟩) dX8_chance_51
      · refine lv_bipush (v := (-2)) hx hb dX8_chance_22 (by decide) ?_
        refine x_cSl (As := [.int (-2 : Int32)]) (rest := []) S (c_X8_refusal l (-2 : Int32)  ) (x_cwS (n0 := 1) S gX8_chance_X8_refusal rfl (by decide +kernel) ⟨Nat.le_of_ble_eq_true rfl, Nat.le_of_ble_eq_true rfl⟩) rfl hl.1 rfl (Nat.le_of_ble_eq_true rfl) dX8_chance_24 ⟨Nat.le_refl _, Nat.le_refl _⟩ (fun r_24 hr_24 => ?_)
        subst hr_24
        exact x_lretW S hlocks hP hS hr (by first | exact ⟨by rw [xp_chance, if_neg (fun q => c_4 q.1)]; rfl, xCs_rf _⟩ | exact ⟨by rw [xp_chance, if_neg (fun q => c_11 q.2.1)]; rfl, xCs_rf _⟩ | exact ⟨by rw [xp_chance, if_neg (fun q => c_19 q.2.2)]; rfl, xCs_rf _⟩) dX8_chance_27
set_option maxHeartbeats 4000000 in
set_option maxRecDepth 100000 in
theorem c_X8_ahead (l : Launch) {D : va_G} {K : Nat → ClassId} {α : Nat → Nat} (σ : Nat → Nat → Int32) (x0 : Int32) (x1 : Int32)  (hC : xIC σ) : Met l yX8_ahead wsX8_ahead (xrm 2) (va_Pc [.ref (α 0), .int x0, .int x1] (xPre D K 42 α (xC α K) σ)) (vp_Sl (fun r => r = xp_ahead (xE (xFC σ)) x0 x1)) 0 0 (fun _ => False) := by
  refine Met.ofW (cc := cX8_ahead) (maxL := 5) (ret := (some .long)) (by decide) rfl ?_
  intro p e s m args below meth c s₁ B hml hv
  obtain ⟨rfl, hK, hP⟩ := hv
  have S : CallFix p m c cX8_ahead 5 s _ wsX8_ahead RX8 := ⟨B.exec, B.bytes, hml, findClass_of_methodNamed B.named, atoms_spec (ws := wsX8_ahead) B.pre⟩
  have hx := S.1
  have hb := S.2.1
  have hr := B.returns
  have hlocks := B.notSynchronized
  have hl := lv_entry ([.ref (α 0), .int x0, .int x1]) (n := 5) (Nat.le_of_ble_eq_true rfl)
  rw [lg_entry_eq]
  generalize (lg_sl ([.ref (α 0), .int x0, .int x1]) ++ List.replicate (5 - (lg_sl ([.ref (α 0), .int x0, .int x1])).length) Slot.unset).toArray = ls at hl ⊢
  have hl : lv_has ls 5 [(0, .ref (α 0)), (1, .int x0), (2, .int x1)] := hl
  have hPP := hP
  have hY := xIC_Y hC
  have hY12 := xIC_12 hC
  obtain ⟨⟨hL, hL9⟩, ⟨hF, hYr⟩, ⟨hcs, hcn, hc1, hc2⟩, ⟨hss, hsn, hs1, hs2⟩, hfe, hsh⟩ := hC
  generalize hLe : xLC σ = L at hL hL9 hF ⊢
  generalize hYe : xYC σ = Y at hY hY12 hYr ⊢
  generalize hcne : xcC σ = cn at hcs hcn hc1 hc2 ⊢
  generalize hsne : xsC σ = sn at hss hsn hs1 hs2 ⊢
  refine lv_iload_n hx hb dX8_ahead_0 rfl (lv_at hl 1 rfl) ?_
  refine x_cSi (As := [.int x0]) (rest := []) S (c_X8_isShip l x0  ) (x_cwS (n0 := 1) S gX8_ahead_X8_isShip rfl (by decide +kernel) ⟨Nat.le_of_ble_eq_true rfl, Nat.le_of_ble_eq_true rfl⟩) rfl hl.1 rfl (Nat.le_of_ble_eq_true rfl) dX8_ahead_1 ⟨Nat.le_refl _, Nat.le_refl _⟩ (fun r_1 hr_1 => ?_)
  subst hr_1
  refine x_if_eqB (tgt := 15) S dX8_ahead_4 (by decide) (fun c_4 => ?_) (fun c_4 => ?_)
  · refine lv_bipush (v := (-2)) hx hb dX8_ahead_15 (by decide) ?_
    refine x_cSl (As := [.int (-2 : Int32)]) (rest := []) S (c_X8_refusal l (-2 : Int32)  ) (x_cwS (n0 := 1) S gX8_ahead_X8_refusal rfl (by decide +kernel) ⟨Nat.le_of_ble_eq_true rfl, Nat.le_of_ble_eq_true rfl⟩) rfl hl.1 rfl (Nat.le_of_ble_eq_true rfl) dX8_ahead_17 ⟨Nat.le_refl _, Nat.le_refl _⟩ (fun r_17 hr_17 => ?_)
    subst hr_17
    exact x_lretR S hlocks hr (by first | (rw [xp_ahead, if_neg (fun q => c_4 q.1)]; rfl) | (rw [xp_ahead, if_neg (fun q => c_12 q.2)]; rfl)) dX8_ahead_20
  · refine lv_iload_n hx hb dX8_ahead_7 rfl (lv_at hl 2 rfl) ?_
    refine lv_iconst (v := nI 2) hx hb dX8_ahead_8 (by decide) ?_
    refine x_cSi (As := [.int x1, .int (nI 2)]) (rest := []) S (c_X8_isBelow l x1 (nI 2)  ) (x_cwS (n0 := 2) S gX8_ahead_X8_isBelow rfl (by decide +kernel) ⟨Nat.le_of_ble_eq_true rfl, Nat.le_of_ble_eq_true rfl⟩) rfl hl.1 rfl (Nat.le_of_ble_eq_true rfl) dX8_ahead_9 ⟨Nat.le_refl _, Nat.le_refl _⟩ (fun r_9 hr_9 => ?_)
    subst hr_9
    refine x_if_neB (tgt := 21) S dX8_ahead_12 (by decide) (fun c_12 => ?_) (fun c_12 => ?_)
    · obtain ⟨h, hh, rfl⟩ := xin_of c_4 (by omega)
      refine lv_iconst (v := nI 0) hx hb dX8_ahead_21 (by decide) ?_
      refine lv_istore_n (lv' := [(3, .int (nI 0)), (0, .ref (α 0)), (1, .int (nI h)), (2, .int x1)]) hx hb dX8_ahead_22 rfl hl (by decide) rfl (fun ls hl => ?_)
      refine lv_iconst (v := nI 0) hx hb dX8_ahead_23 (by decide) ?_
      refine lv_istore (lv' := [(4, .int (nI 0)), (3, .int (nI 0)), (0, .ref (α 0)), (1, .int (nI h)), (2, .int x1)]) hx hb dX8_ahead_24 hl (by decide) rfl (fun ls hl => ?_)
      refine x_loop (ι := Nat) (fun i ls => (i ≤ 6) ∧ lv_has ls 5 [(4, .int (nI i)), (3, .int (nI (fb_sm (fun n => xE (xFC σ) h n) i))), (0, .ref (α 0)), (1, .int (nI h)), (2, .int x1)]) (fun i => 6 - i) ?_ 0 ls ⟨Nat.zero_le _, lv_sub hl [0, 1, 2, 3, 4] rfl⟩
      intro i ls hinv ih_26
      obtain ⟨hi, hl⟩ := hinv
      have hl : lv_has ls 5 [(4, .int (nI i)), (3, .int (nI (fb_sm (fun n => xE (xFC σ) h n) i))), (0, .ref (α 0)), (1, .int (nI h)), (2, .int x1)] := hl
      refine lv_iload hx hb dX8_ahead_26 (lv_at hl 0 rfl) ?_
      refine lv_bipush (v := nI 6) hx hb dX8_ahead_28 (by decide) ?_
      refine x_icmpN_ge (tgt := 52) S dX8_ahead_30 (by decide) (by omega) (by omega) (fun c_30 => ?_) (fun c_30 => ?_)
      · have e9 : i = 6 := by omega
        subst e9
        have hq : fb_sm (fun n => xE (xFC σ) h n) 6 ≤ 6 * 9 := fb_sm_bound (fun n hn => (xE_ok (F := xFC σ) hfe h hn).2)
        refine lv_iload_n hx hb dX8_ahead_52 rfl (lv_at hl 1 rfl) ?_
        refine lv_bipush (v := nI 6) hx hb dX8_ahead_53 (by decide) ?_
        refine lv_iload_n hx hb dX8_ahead_55 rfl (lv_at hl 4 rfl) ?_
        refine x_cSi (As := [.int (nI (fb_sm (fun n => xE (xFC σ) h n) 6)), .int (nI 6), .int x1]) (rest := []) S (c_X8_fraction l (fb_sm (fun n => xE (xFC σ) h n) 6) 6 x1  (by first | assumption | omega) (by first | assumption | omega) (by first | assumption | omega)) (x_cwS (n0 := 3) S gX8_ahead_X8_fraction rfl (by decide +kernel) ⟨Nat.le_of_ble_eq_true rfl, Nat.le_of_ble_eq_true rfl⟩) rfl hl.1 rfl (Nat.le_of_ble_eq_true rfl) dX8_ahead_56 ⟨Nat.le_refl _, Nat.le_refl _⟩ (fun r_56 hr_56 => ?_)
        subst hr_56
        refine lv_i2l hx hb dX8_ahead_59 rfl ?_
        exact x_lretR S hlocks hr (by show xfrac _ 6 x1 = _; rw [xp_ahead, if_pos ⟨xin_nI (by omega) (by omega), c_12⟩, cN_nI (by omega)]) dX8_ahead_60
      · refine lv_iload_n hx hb dX8_ahead_33 rfl (lv_at hl 1 rfl) ?_
        refine lv_aload_n hx hb dX8_ahead_34 rfl (lv_at hl 2 rfl) ?_
        refine x_get S (fun w h => List.mem_cons_of_mem _ (List.mem_append_left _ (List.mem_append_right _ h))) hK hP 0 (by omega) rfl rfl 0 (by decide) (List.mem_of_getElem? (i := 1) rfl) rfl dX8_ahead_35 ?_
        refine lv_iload_n hx hb dX8_ahead_38 rfl (lv_at hl 3 rfl) ?_
        refine lv_iload hx hb dX8_ahead_39 (lv_at hl 0 rfl) ?_
        refine x_cVRi (As := [.int (nI h), .int (nI i)]) (rest := [.int (nI (fb_sm (fun n => xE (xFC σ) h n) i))]) S hK hP 1 (by omega) rfl rfl (c_X4_earning l σ h i  (by first | assumption | omega) (by first | assumption | omega)) (x_cwV (n0 := 2) (cq := (RX4, TX4, 2)) S gX8_ahead_X4_earning rfl (by decide +kernel) ⟨Nat.le_of_ble_eq_true rfl, Nat.le_of_ble_eq_true rfl⟩) rfl hl.1 rfl (Nat.le_of_ble_eq_true rfl) dX8_ahead_41 ⟨Nat.le_refl _, Nat.le_refl _⟩ (fun r_41 hr_41 => ?_)
        subst hr_41
        refine x_top S (y := nI (xE (xFC σ) h i)) ((xE_ok (F := xFC σ) hfe h (by omega)).1) ?_
        refine x_iaddN S dX8_ahead_44 ?_
        refine lv_istore_n (lv' := [(3, .int (nI ((fb_sm (fun n => xE (xFC σ) h n) i) + (xE (xFC σ) h i)))), (4, .int (nI i)), (0, .ref (α 0)), (1, .int (nI h)), (2, .int x1)]) hx hb dX8_ahead_45 rfl hl (by decide) rfl (fun ls hl => ?_)
        refine lv_iinc (v := nI (i + 1)) (lv' := [(4, .int (nI (i + 1))), (3, .int (nI ((fb_sm (fun n => xE (xFC σ) h n) i) + (xE (xFC σ) h i)))), (0, .ref (α 0)), (1, .int (nI h)), (2, .int x1)]) hx hb dX8_ahead_46 hl (k := 1) rfl (nI_add i 1) (by decide) rfl (fun ls hl => ?_)
        refine lv_goto (tgt := 26) hx hb dX8_ahead_49 (by decide) ?_
        exact ih_26 (i + 1) ls ⟨(by omega), lv_sub hl [0, 1, 2, 3, 4] rfl⟩ (by (try dsimp only); omega)
    · refine lv_bipush (v := (-2)) hx hb dX8_ahead_15 (by decide) ?_
      refine x_cSl (As := [.int (-2 : Int32)]) (rest := []) S (c_X8_refusal l (-2 : Int32)  ) (x_cwS (n0 := 1) S gX8_ahead_X8_refusal rfl (by decide +kernel) ⟨Nat.le_of_ble_eq_true rfl, Nat.le_of_ble_eq_true rfl⟩) rfl hl.1 rfl (Nat.le_of_ble_eq_true rfl) dX8_ahead_17 ⟨Nat.le_refl _, Nat.le_refl _⟩ (fun r_17 hr_17 => ?_)
      subst hr_17
      exact x_lretR S hlocks hr (by first | (rw [xp_ahead, if_neg (fun q => c_4 q.1)]; rfl) | (rw [xp_ahead, if_neg (fun q => c_12 q.2)]; rfl)) dX8_ahead_20
set_option maxHeartbeats 4000000 in
set_option maxRecDepth 100000 in
theorem c_X8_best (l : Launch) {D : va_G} {K : Nat → ClassId} {α : Nat → Nat} (σ : Nat → Nat → Int32) (hI : xw_I 42 α) (x : Int32)  (hC : xIC σ) : Met l yX8_best wsX8_best (xrm 3) (va_Pc [.ref (α 0), .int x] (xPre D K 42 α (xC α K) σ)) (xQi D 42 α (xC α K) (fun r τ => r = xp_best (xE (xFC σ)) x ∧ xCs σ τ)) 0 0 (xw_R 42 α) := by
  refine Met.ofW (cc := cX8_best) (maxL := 2) (ret := (some .int)) (by decide) rfl ?_
  intro p e s m args below meth c s₁ B hml hv
  obtain ⟨rfl, hK, hP⟩ := hv
  have S : CallFix p m c cX8_best 2 s _ wsX8_best RX8 := ⟨B.exec, B.bytes, hml, findClass_of_methodNamed B.named, atoms_spec (ws := wsX8_best) B.pre⟩
  have hx := S.1
  have hb := S.2.1
  have hr := B.returns
  have hlocks := B.notSynchronized
  have hS : va_S (xw_R 42 α) s.heap s.heap [] := va_S.rf
  have hl := lv_entry ([.ref (α 0), .int x]) (n := 2) (Nat.le_of_ble_eq_true rfl)
  rw [lg_entry_eq]
  generalize (lg_sl ([.ref (α 0), .int x]) ++ List.replicate (2 - (lg_sl ([.ref (α 0), .int x])).length) Slot.unset).toArray = ls at hl ⊢
  have hl : lv_has ls 2 [(0, .ref (α 0)), (1, .int x)] := hl
  have hPP := hP
  have hY := xIC_Y hC
  have hY12 := xIC_12 hC
  obtain ⟨⟨hL, hL9⟩, ⟨hF, hYr⟩, ⟨hcs, hcn, hc1, hc2⟩, ⟨hss, hsn, hs1, hs2⟩, hfe, hsh⟩ := hC
  generalize hLe : xLC σ = L at hL hL9 hF ⊢
  generalize hYe : xYC σ = Y at hY hY12 hYr ⊢
  generalize hcne : xcC σ = cn at hcs hcn hc1 hc2 ⊢
  generalize hsne : xsC σ = sn at hss hsn hs1 hs2 ⊢
  refine lv_iload_n hx hb dX8_best_0 rfl (lv_at hl 1 rfl) ?_
  refine lv_iconst (v := (-1)) hx hb dX8_best_1 (by decide) ?_
  refine lv_icmp_eq (tgt := 15) hx hb dX8_best_2 (by decide) (fun c_2 => ?_) (fun c_2 => ?_)
  · refine lv_aload_n hx hb dX8_best_15 rfl (lv_at hl 0 rfl) ?_
    refine x_get S (fun w h => List.mem_cons_of_mem _ (List.mem_append_left _ (List.mem_append_left _ (List.mem_append_right _ h)))) hK hP 0 (by omega) rfl rfl 6 (by decide) (List.mem_of_getElem? (i := 1) rfl) rfl dX8_best_16 ?_
    refine x_cVWv (As := []) (rest := []) S hK hP hS (fun _ h => h) 24 (by omega) rfl rfl (c_X0_weigh l σ hI (xE (xFC σ))  (fun h hh n hn => xE_ok (F := xFC σ) hfe h hn)) (x_cwV (n0 := 0) (cq := (RX0, TX0, 3)) S gX8_best_X0_weigh rfl (by decide +kernel) ⟨Nat.le_of_ble_eq_true rfl, Nat.le_of_ble_eq_true rfl⟩) rfl hl.1 rfl (Nat.le_of_ble_eq_true rfl) dX8_best_19 ⟨Nat.le_refl _, Nat.le_refl _⟩ (fun τ_19 H locs hr_19 hP hk_19 hS => ?_)
    subst hr_19
    refine lv_iload_n hx hb dX8_best_22 rfl (lv_at hl 1 rfl) ?_
    refine lv_iconst (v := (-1)) hx hb dX8_best_23 (by decide) ?_
    refine lv_icmp_ne (tgt := 37) hx hb dX8_best_24 (by decide) (fun c_24 => ?_) (fun c_24 => ?_)
    · have hx6 : xin x 6 := by first | exact c_9 | exact absurd c_2 c_24
      obtain ⟨h, hh, rfl⟩ := xin_of hx6 (by omega)
      refine lv_aload_n hx hb dX8_best_37 rfl (lv_at hl 0 rfl) ?_
      refine x_get S (fun w h => List.mem_cons_of_mem _ (List.mem_append_left _ (List.mem_append_left _ (List.mem_append_right _ h)))) hK hP 0 (by omega) rfl rfl 6 (by decide) (List.mem_of_getElem? (i := 1) rfl) rfl dX8_best_38 ?_
      refine lv_iload_n hx hb dX8_best_41 rfl (lv_at hl 1 rfl) ?_
      refine x_cVRi (As := [.int (nI h)]) (rest := []) S hK hP 24 (by omega) rfl rfl (c_X0_nameOf l (xst_w σ (xE (xFC σ))) h (xE (xFC σ))  (fun h hh n hn => ⟨by unfold xst_w; rw [xup_n _ _ (by omega)]; exact xwr_row hh hn, (xE_ok (F := xFC σ) hfe h hn).2⟩) (fun k hk => by unfold xst_w; rw [xup_s, xfd_in (by omega) hk]) (by first | assumption | omega)) (x_cwV (n0 := 1) (cq := (RX0, TX0, 3)) S gX8_best_X0_nameOf rfl (by decide +kernel) ⟨Nat.le_of_ble_eq_true rfl, Nat.le_of_ble_eq_true rfl⟩) rfl hl.1 rfl (Nat.le_of_ble_eq_true rfl) dX8_best_42 ⟨Nat.le_refl _, Nat.le_refl _⟩ (fun r_42 hr_42 => ?_)
      subst hr_42
      exact x_iretW S hlocks hP hS hr rfl (⟨by rw [xp_best, if_neg c_24, if_pos (xin_nI (by omega) (by omega)), cN_nI (by omega)], xCs_w⟩) dX8_best_45
    · refine lv_aload_n hx hb dX8_best_27 rfl (lv_at hl 0 rfl) ?_
      refine x_get S (fun w h => List.mem_cons_of_mem _ (List.mem_append_left _ (List.mem_append_left _ (List.mem_append_right _ h)))) hK hP 0 (by omega) rfl rfl 6 (by decide) (List.mem_of_getElem? (i := 1) rfl) rfl dX8_best_28 ?_
      refine x_cVRi (As := []) (rest := []) S hK hP 24 (by omega) rfl rfl (c_X0_sum l (xst_w σ (xE (xFC σ)))   ) (x_cwV (n0 := 0) (cq := (RX0, TX0, 3)) S gX8_best_X0_sum rfl (by decide +kernel) ⟨Nat.le_of_ble_eq_true rfl, Nat.le_of_ble_eq_true rfl⟩) rfl hl.1 rfl (Nat.le_of_ble_eq_true rfl) dX8_best_31 ⟨Nat.le_refl _, Nat.le_refl _⟩ (fun r_31 hr_31 => ?_)
      subst hr_31
      refine x_top S (y := nI (xbm (xE (xFC σ)) 0)) (by unfold xst_w; rw [xup_s, xfd_in (by omega) (by omega)]) ?_
      refine lv_goto (tgt := 45) hx hb dX8_best_34 (by decide) ?_
      exact x_iretW S hlocks hP hS hr rfl (⟨by rw [xp_best, if_pos c_24], xCs_w⟩) dX8_best_45
  · refine lv_iload_n hx hb dX8_best_5 rfl (lv_at hl 1 rfl) ?_
    refine x_cSi (As := [.int x]) (rest := []) S (c_X8_isShip l x  ) (x_cwS (n0 := 1) S gX8_best_X8_isShip rfl (by decide +kernel) ⟨Nat.le_of_ble_eq_true rfl, Nat.le_of_ble_eq_true rfl⟩) rfl hl.1 rfl (Nat.le_of_ble_eq_true rfl) dX8_best_6 ⟨Nat.le_refl _, Nat.le_refl _⟩ (fun r_6 hr_6 => ?_)
    subst hr_6
    refine x_if_neB (tgt := 15) S dX8_best_9 (by decide) (fun c_9 => ?_) (fun c_9 => ?_)
    · refine lv_aload_n hx hb dX8_best_15 rfl (lv_at hl 0 rfl) ?_
      refine x_get S (fun w h => List.mem_cons_of_mem _ (List.mem_append_left _ (List.mem_append_left _ (List.mem_append_right _ h)))) hK hP 0 (by omega) rfl rfl 6 (by decide) (List.mem_of_getElem? (i := 1) rfl) rfl dX8_best_16 ?_
      refine x_cVWv (As := []) (rest := []) S hK hP hS (fun _ h => h) 24 (by omega) rfl rfl (c_X0_weigh l σ hI (xE (xFC σ))  (fun h hh n hn => xE_ok (F := xFC σ) hfe h hn)) (x_cwV (n0 := 0) (cq := (RX0, TX0, 3)) S gX8_best_X0_weigh rfl (by decide +kernel) ⟨Nat.le_of_ble_eq_true rfl, Nat.le_of_ble_eq_true rfl⟩) rfl hl.1 rfl (Nat.le_of_ble_eq_true rfl) dX8_best_19 ⟨Nat.le_refl _, Nat.le_refl _⟩ (fun τ_19 H locs hr_19 hP hk_19 hS => ?_)
      subst hr_19
      refine lv_iload_n hx hb dX8_best_22 rfl (lv_at hl 1 rfl) ?_
      refine lv_iconst (v := (-1)) hx hb dX8_best_23 (by decide) ?_
      refine lv_icmp_ne (tgt := 37) hx hb dX8_best_24 (by decide) (fun c_24 => ?_) (fun c_24 => ?_)
      · have hx6 : xin x 6 := by first | exact c_9 | exact absurd c_2 c_24
        obtain ⟨h, hh, rfl⟩ := xin_of hx6 (by omega)
        refine lv_aload_n hx hb dX8_best_37 rfl (lv_at hl 0 rfl) ?_
        refine x_get S (fun w h => List.mem_cons_of_mem _ (List.mem_append_left _ (List.mem_append_left _ (List.mem_append_right _ h)))) hK hP 0 (by omega) rfl rfl 6 (by decide) (List.mem_of_getElem? (i := 1) rfl) rfl dX8_best_38 ?_
        refine lv_iload_n hx hb dX8_best_41 rfl (lv_at hl 1 rfl) ?_
        refine x_cVRi (As := [.int (nI h)]) (rest := []) S hK hP 24 (by omega) rfl rfl (c_X0_nameOf l (xst_w σ (xE (xFC σ))) h (xE (xFC σ))  (fun h hh n hn => ⟨by unfold xst_w; rw [xup_n _ _ (by omega)]; exact xwr_row hh hn, (xE_ok (F := xFC σ) hfe h hn).2⟩) (fun k hk => by unfold xst_w; rw [xup_s, xfd_in (by omega) hk]) (by first | assumption | omega)) (x_cwV (n0 := 1) (cq := (RX0, TX0, 3)) S gX8_best_X0_nameOf rfl (by decide +kernel) ⟨Nat.le_of_ble_eq_true rfl, Nat.le_of_ble_eq_true rfl⟩) rfl hl.1 rfl (Nat.le_of_ble_eq_true rfl) dX8_best_42 ⟨Nat.le_refl _, Nat.le_refl _⟩ (fun r_42 hr_42 => ?_)
        subst hr_42
        exact x_iretW S hlocks hP hS hr rfl (⟨by rw [xp_best, if_neg c_24, if_pos (xin_nI (by omega) (by omega)), cN_nI (by omega)], xCs_w⟩) dX8_best_45
      · refine lv_aload_n hx hb dX8_best_27 rfl (lv_at hl 0 rfl) ?_
        refine x_get S (fun w h => List.mem_cons_of_mem _ (List.mem_append_left _ (List.mem_append_left _ (List.mem_append_right _ h)))) hK hP 0 (by omega) rfl rfl 6 (by decide) (List.mem_of_getElem? (i := 1) rfl) rfl dX8_best_28 ?_
        refine x_cVRi (As := []) (rest := []) S hK hP 24 (by omega) rfl rfl (c_X0_sum l (xst_w σ (xE (xFC σ)))   ) (x_cwV (n0 := 0) (cq := (RX0, TX0, 3)) S gX8_best_X0_sum rfl (by decide +kernel) ⟨Nat.le_of_ble_eq_true rfl, Nat.le_of_ble_eq_true rfl⟩) rfl hl.1 rfl (Nat.le_of_ble_eq_true rfl) dX8_best_31 ⟨Nat.le_refl _, Nat.le_refl _⟩ (fun r_31 hr_31 => ?_)
        subst hr_31
        refine x_top S (y := nI (xbm (xE (xFC σ)) 0)) (by unfold xst_w; rw [xup_s, xfd_in (by omega) (by omega)]) ?_
        refine lv_goto (tgt := 45) hx hb dX8_best_34 (by decide) ?_
        exact x_iretW S hlocks hP hS hr rfl (⟨by rw [xp_best, if_pos c_24], xCs_w⟩) dX8_best_45
    · refine lv_bipush (v := (-2)) hx hb dX8_best_12 (by decide) ?_
      exact x_iretW S hlocks hP hS hr rfl (⟨by rw [xp_best, if_neg c_2, if_neg c_9], xCs_rf _⟩) dX8_best_14
set_option maxHeartbeats 4000000 in
set_option maxRecDepth 100000 in
theorem c_X8_rather (l : Launch) {D : va_G} {K : Nat → ClassId} {α : Nat → Nat} (σ : Nat → Nat → Int32) (x : Int32)  (hC : xIC σ) : Met l yX8_rather wsX8_rather (xrm 3) (va_Pc [.ref (α 0), .int x] (xPre D K 42 α (xC α K) σ)) (vp_Si (fun r => r = xp_rather (xFC σ) (σ 10) (xYC σ) x)) 0 0 (fun _ => False) := by
  refine Met.ofW (cc := cX8_rather) (maxL := 5) (ret := (some .int)) (by decide) rfl ?_
  intro p e s m args below meth c s₁ B hml hv
  obtain ⟨rfl, hK, hP⟩ := hv
  have S : CallFix p m c cX8_rather 5 s _ wsX8_rather RX8 := ⟨B.exec, B.bytes, hml, findClass_of_methodNamed B.named, atoms_spec (ws := wsX8_rather) B.pre⟩
  have hx := S.1
  have hb := S.2.1
  have hr := B.returns
  have hlocks := B.notSynchronized
  have hl := lv_entry ([.ref (α 0), .int x]) (n := 5) (Nat.le_of_ble_eq_true rfl)
  rw [lg_entry_eq]
  generalize (lg_sl ([.ref (α 0), .int x]) ++ List.replicate (5 - (lg_sl ([.ref (α 0), .int x])).length) Slot.unset).toArray = ls at hl ⊢
  have hl : lv_has ls 5 [(0, .ref (α 0)), (1, .int x)] := hl
  have hPP := hP
  have hY := xIC_Y hC
  have hY12 := xIC_12 hC
  obtain ⟨⟨hL, hL9⟩, ⟨hF, hYr⟩, ⟨hcs, hcn, hc1, hc2⟩, ⟨hss, hsn, hs1, hs2⟩, hfe, hsh⟩ := hC
  generalize hLe : xLC σ = L at hL hL9 hF ⊢
  generalize hYe : xYC σ = Y at hY hY12 hYr ⊢
  generalize hcne : xcC σ = cn at hcs hcn hc1 hc2 ⊢
  generalize hsne : xsC σ = sn at hss hsn hs1 hs2 ⊢
  refine lv_aload_n hx hb dX8_rather_0 rfl (lv_at hl 0 rfl) ?_
  refine lv_iload_n hx hb dX8_rather_1 rfl (lv_at hl 1 rfl) ?_
  refine x_cVRi (As := [.int x]) (rest := []) S hK hP 0 (by omega) rfl rfl (c_X8_isYear l σ x Y  (by first | assumption | omega)) (x_cwV (n0 := 1) (cq := (RX8, TX8, 9)) S gX8_rather_X8_isYear rfl (by decide +kernel) ⟨Nat.le_of_ble_eq_true rfl, Nat.le_of_ble_eq_true rfl⟩) rfl hl.1 rfl (Nat.le_of_ble_eq_true rfl) dX8_rather_2 ⟨Nat.le_refl _, Nat.le_refl _⟩ (fun r_2 hr_2 => ?_)
  subst hr_2
  refine x_if_neB (tgt := 11) S dX8_rather_5 (by decide) (fun c_5 => ?_) (fun c_5 => ?_)
  · obtain ⟨y, hy, rfl⟩ := xin_of c_5 (by omega)
    refine lv_iconst (v := nI 0) hx hb dX8_rather_11 (by decide) ?_
    refine lv_istore_n (lv' := [(2, .int (nI 0)), (0, .ref (α 0)), (1, .int (nI y))]) hx hb dX8_rather_12 rfl hl (by decide) rfl (fun ls hl => ?_)
    refine lv_iconst (v := nI 0) hx hb dX8_rather_13 (by decide) ?_
    refine lv_istore_n (lv' := [(3, .int (nI 0)), (2, .int (nI 0)), (0, .ref (α 0)), (1, .int (nI y))]) hx hb dX8_rather_14 rfl hl (by decide) rfl (fun ls hl => ?_)
    refine x_loop (ι := Nat) (fun a ls => (a ≤ 6) ∧ lv_has ls 5 [(3, .int (nI a)), (2, .int (nI (fb_sm (fun a => fb_sm (fun b => if a < b ∧ (xs_wc (xFC σ) (σ 10) y a b ∧ xs_wc (xFC σ) (σ 10) y b a) then 1 else 0) 6) a))), (0, .ref (α 0)), (1, .int (nI y))]) (fun a => 6 - a) ?_ 0 ls ⟨Nat.zero_le _, lv_sub hl [0, 1, 2, 3] rfl⟩
    intro a ls hinv ih_15
    obtain ⟨ha, hl⟩ := hinv
    have hl : lv_has ls 5 [(3, .int (nI a)), (2, .int (nI (fb_sm (fun a => fb_sm (fun b => if a < b ∧ (xs_wc (xFC σ) (σ 10) y a b ∧ xs_wc (xFC σ) (σ 10) y b a) then 1 else 0) 6) a))), (0, .ref (α 0)), (1, .int (nI y))] := hl
    refine lv_iload_n hx hb dX8_rather_15 rfl (lv_at hl 0 rfl) ?_
    refine lv_bipush (v := nI 6) hx hb dX8_rather_16 (by decide) ?_
    refine x_icmpN_ge (tgt := 76) S dX8_rather_18 (by decide) (by omega) (by omega) (fun c_18 => ?_) (fun c_18 => ?_)
    · have e9 : a = 6 := by omega
      subst e9
      refine lv_iload_n hx hb dX8_rather_76 rfl (lv_at hl 1 rfl) ?_
      exact x_iretR S hlocks hr rfl (by rw [xp_rather, if_pos (xin_nI (by omega) (by omega)), cN_nI (by omega)]; rfl) dX8_rather_77
    · refine lv_iload_n hx hb dX8_rather_21 rfl (lv_at hl 0 rfl) ?_
      refine lv_iconst (v := nI 1) hx hb dX8_rather_22 (by decide) ?_
      refine x_iaddN S dX8_rather_23 ?_
      refine lv_istore (lv' := [(4, .int (nI (a + 1))), (3, .int (nI a)), (2, .int (nI (fb_sm (fun a => fb_sm (fun b => if a < b ∧ (xs_wc (xFC σ) (σ 10) y a b ∧ xs_wc (xFC σ) (σ 10) y b a) then 1 else 0) 6) a))), (0, .ref (α 0)), (1, .int (nI y))]) hx hb dX8_rather_24 hl (by decide) rfl (fun ls hl => ?_)
      refine x_loop (ι := Nat) (fun b ls => (a + 1 ≤ b) ∧ (b ≤ 6) ∧ lv_has ls 5 [(4, .int (nI b)), (3, .int (nI a)), (2, .int (nI (fb_sm (fun a => fb_sm (fun b => if a < b ∧ (xs_wc (xFC σ) (σ 10) y a b ∧ xs_wc (xFC σ) (σ 10) y b a) then 1 else 0) 6) a + fb_sm (fun b => if a < b ∧ (xs_wc (xFC σ) (σ 10) y a b ∧ xs_wc (xFC σ) (σ 10) y b a) then 1 else 0) b))), (0, .ref (α 0)), (1, .int (nI y))]) (fun b => 6 - b) ?_ (a + 1) ls ⟨Nat.le_refl _, (by omega), (by have h9 := lv_sub (l' := [(4, .int (nI (a + 1))), (3, .int (nI a)), (2, .int (nI (fb_sm (fun a => fb_sm (fun b => if a < b ∧ (xs_wc (xFC σ) (σ 10) y a b ∧ xs_wc (xFC σ) (σ 10) y b a) then 1 else 0) 6) a))), (0, .ref (α 0)), (1, .int (nI y))]) hl [0, 1, 2, 3, 4] rfl; rw [show nI (fb_sm (fun a => fb_sm (fun b => if a < b ∧ (xs_wc (xFC σ) (σ 10) y a b ∧ xs_wc (xFC σ) (σ 10) y b a) then 1 else 0) 6) a) = nI (fb_sm (fun a => fb_sm (fun b => if a < b ∧ (xs_wc (xFC σ) (σ 10) y a b ∧ xs_wc (xFC σ) (σ 10) y b a) then 1 else 0) 6) a + fb_sm (fun b => if a < b ∧ (xs_wc (xFC σ) (σ 10) y a b ∧ xs_wc (xFC σ) (σ 10) y b a) then 1 else 0) (a + 1)) from by rw [fb_sm_z (f := fun b => if a < b ∧ (xs_wc (xFC σ) (σ 10) y a b ∧ xs_wc (xFC σ) (σ 10) y b a) then 1 else 0) (n := a + 1) (fun k hk => if_neg (fun q => by have := q.1; omega)), Nat.add_zero]] at h9; exact h9)⟩
      intro b ls hinv ih_26
      obtain ⟨hb1, hb6, hl⟩ := hinv
      have hl : lv_has ls 5 [(4, .int (nI b)), (3, .int (nI a)), (2, .int (nI (fb_sm (fun a => fb_sm (fun b => if a < b ∧ (xs_wc (xFC σ) (σ 10) y a b ∧ xs_wc (xFC σ) (σ 10) y b a) then 1 else 0) 6) a + fb_sm (fun b => if a < b ∧ (xs_wc (xFC σ) (σ 10) y a b ∧ xs_wc (xFC σ) (σ 10) y b a) then 1 else 0) b))), (0, .ref (α 0)), (1, .int (nI y))] := hl
      refine lv_iload hx hb dX8_rather_26 (lv_at hl 0 rfl) ?_
      refine lv_bipush (v := nI 6) hx hb dX8_rather_28 (by decide) ?_
      refine x_icmpN_ge (tgt := 70) S dX8_rather_30 (by decide) (by omega) (by omega) (fun c_30 => ?_) (fun c_30 => ?_)
      · have e9 : b = 6 := by omega
        subst e9
        refine lv_iinc (v := nI (a + 1)) (lv' := [(3, .int (nI (a + 1))), (4, .int (nI 6)), (2, .int (nI (fb_sm (fun a => fb_sm (fun b => if a < b ∧ (xs_wc (xFC σ) (σ 10) y a b ∧ xs_wc (xFC σ) (σ 10) y b a) then 1 else 0) 6) a + fb_sm (fun b => if a < b ∧ (xs_wc (xFC σ) (σ 10) y a b ∧ xs_wc (xFC σ) (σ 10) y b a) then 1 else 0) 6))), (0, .ref (α 0)), (1, .int (nI y))]) hx hb dX8_rather_70 hl (k := 1) rfl (nI_add a 1) (by decide) rfl (fun ls hl => ?_)
        refine lv_goto (tgt := 15) hx hb dX8_rather_73 (by decide) ?_
        exact ih_15 (a + 1) ls ⟨(by omega), lv_sub hl [0, 2, 3, 4] rfl⟩ (by (try dsimp only); omega)
      · refine lv_aload_n hx hb dX8_rather_33 rfl (lv_at hl 3 rfl) ?_
        refine x_get S (fun w h => List.mem_cons_of_mem _ (List.mem_append_left _ (List.mem_append_left _ (List.mem_append_left _ (List.mem_append_right _ h))))) hK hP 0 (by omega) rfl rfl 2 (by decide) (List.mem_of_getElem? (i := 1) rfl) rfl dX8_rather_34 ?_
        refine lv_iload_n hx hb dX8_rather_37 rfl (lv_at hl 1 rfl) ?_
        refine lv_iload hx hb dX8_rather_38 (lv_at hl 0 rfl) ?_
        refine lv_iload_n hx hb dX8_rather_40 rfl (lv_at hl 4 rfl) ?_
        refine x_cVRi (As := [.int (nI a), .int (nI b), .int (nI y)]) (rest := []) S hK hP 11 (by omega) rfl rfl (c_X7_wouldChange l σ a b y Y  (by first | assumption | omega) (by first | assumption | omega) (by first | assumption | omega) (by first | assumption | omega) (by first | assumption | omega)) (x_cwV (n0 := 3) (cq := (RX7, TX7, 2)) S gX8_rather_X7_wouldChange rfl (by decide +kernel) ⟨Nat.le_of_ble_eq_true rfl, Nat.le_of_ble_eq_true rfl⟩) rfl hl.1 rfl (Nat.le_of_ble_eq_true rfl) dX8_rather_41 ⟨Nat.le_refl _, Nat.le_refl _⟩ (fun r_41 hr_41 => ?_)
        subst hr_41
        refine x_if_eqB (tgt := 64) S dX8_rather_44 (by decide) (fun c_44 => ?_) (fun c_44 => ?_)
        · refine lv_iinc (v := nI (b + 1)) (lv' := [(4, .int (nI (b + 1))), (3, .int (nI a)), (2, .int (nI (fb_sm (fun a => fb_sm (fun b => if a < b ∧ (xs_wc (xFC σ) (σ 10) y a b ∧ xs_wc (xFC σ) (σ 10) y b a) then 1 else 0) 6) a + fb_sm (fun b => if a < b ∧ (xs_wc (xFC σ) (σ 10) y a b ∧ xs_wc (xFC σ) (σ 10) y b a) then 1 else 0) b))), (0, .ref (α 0)), (1, .int (nI y))]) hx hb dX8_rather_64 hl (k := 0) rfl (nI_add b 1) (by decide) rfl (fun ls hl => ?_)
          refine lv_goto (tgt := 26) hx hb dX8_rather_67 (by decide) ?_
          exact ih_26 (b + 1) ls ⟨(by omega), (by omega), (by have h9 := lv_sub (l' := [(4, .int (nI (b + 1))), (3, .int (nI a)), (2, .int (nI (fb_sm (fun a => fb_sm (fun b => if a < b ∧ (xs_wc (xFC σ) (σ 10) y a b ∧ xs_wc (xFC σ) (σ 10) y b a) then 1 else 0) 6) a + fb_sm (fun b => if a < b ∧ (xs_wc (xFC σ) (σ 10) y a b ∧ xs_wc (xFC σ) (σ 10) y b a) then 1 else 0) b))), (0, .ref (α 0)), (1, .int (nI y))]) hl [0, 1, 2, 3, 4] rfl; rw [show nI (fb_sm (fun a => fb_sm (fun b => if a < b ∧ (xs_wc (xFC σ) (σ 10) y a b ∧ xs_wc (xFC σ) (σ 10) y b a) then 1 else 0) 6) a + fb_sm (fun b => if a < b ∧ (xs_wc (xFC σ) (σ 10) y a b ∧ xs_wc (xFC σ) (σ 10) y b a) then 1 else 0) b) = nI (fb_sm (fun a => fb_sm (fun b => if a < b ∧ (xs_wc (xFC σ) (σ 10) y a b ∧ xs_wc (xFC σ) (σ 10) y b a) then 1 else 0) 6) a + fb_sm (fun b => if a < b ∧ (xs_wc (xFC σ) (σ 10) y a b ∧ xs_wc (xFC σ) (σ 10) y b a) then 1 else 0) (b + 1)) from by rw [fb_sm_succ]; first | rw [if_neg (fun q => c_44 q.2.1), Nat.add_zero] | rw [if_neg (fun q => c_58 q.2.2), Nat.add_zero]] at h9; exact h9)⟩ (by (try dsimp only); omega)
        · refine lv_aload_n hx hb dX8_rather_47 rfl (lv_at hl 3 rfl) ?_
          refine x_get S (fun w h => List.mem_cons_of_mem _ (List.mem_append_left _ (List.mem_append_left _ (List.mem_append_left _ (List.mem_append_right _ h))))) hK hP 0 (by omega) rfl rfl 2 (by decide) (List.mem_of_getElem? (i := 1) rfl) rfl dX8_rather_48 ?_
          refine lv_iload hx hb dX8_rather_51 (lv_at hl 0 rfl) ?_
          refine lv_iload_n hx hb dX8_rather_53 rfl (lv_at hl 1 rfl) ?_
          refine lv_iload_n hx hb dX8_rather_54 rfl (lv_at hl 4 rfl) ?_
          refine x_cVRi (As := [.int (nI b), .int (nI a), .int (nI y)]) (rest := []) S hK hP 11 (by omega) rfl rfl (c_X7_wouldChange l σ b a y Y  (by first | assumption | omega) (by first | assumption | omega) (by first | assumption | omega) (by first | assumption | omega) (by first | assumption | omega)) (x_cwV (n0 := 3) (cq := (RX7, TX7, 2)) S gX8_rather_X7_wouldChange rfl (by decide +kernel) ⟨Nat.le_of_ble_eq_true rfl, Nat.le_of_ble_eq_true rfl⟩) rfl hl.1 rfl (Nat.le_of_ble_eq_true rfl) dX8_rather_55 ⟨Nat.le_refl _, Nat.le_refl _⟩ (fun r_55 hr_55 => ?_)
          subst hr_55
          refine x_if_eqB (tgt := 64) S dX8_rather_58 (by decide) (fun c_58 => ?_) (fun c_58 => ?_)
          · refine lv_iinc (v := nI (b + 1)) (lv' := [(4, .int (nI (b + 1))), (3, .int (nI a)), (2, .int (nI (fb_sm (fun a => fb_sm (fun b => if a < b ∧ (xs_wc (xFC σ) (σ 10) y a b ∧ xs_wc (xFC σ) (σ 10) y b a) then 1 else 0) 6) a + fb_sm (fun b => if a < b ∧ (xs_wc (xFC σ) (σ 10) y a b ∧ xs_wc (xFC σ) (σ 10) y b a) then 1 else 0) b))), (0, .ref (α 0)), (1, .int (nI y))]) hx hb dX8_rather_64 hl (k := 0) rfl (nI_add b 1) (by decide) rfl (fun ls hl => ?_)
            refine lv_goto (tgt := 26) hx hb dX8_rather_67 (by decide) ?_
            exact ih_26 (b + 1) ls ⟨(by omega), (by omega), (by have h9 := lv_sub (l' := [(4, .int (nI (b + 1))), (3, .int (nI a)), (2, .int (nI (fb_sm (fun a => fb_sm (fun b => if a < b ∧ (xs_wc (xFC σ) (σ 10) y a b ∧ xs_wc (xFC σ) (σ 10) y b a) then 1 else 0) 6) a + fb_sm (fun b => if a < b ∧ (xs_wc (xFC σ) (σ 10) y a b ∧ xs_wc (xFC σ) (σ 10) y b a) then 1 else 0) b))), (0, .ref (α 0)), (1, .int (nI y))]) hl [0, 1, 2, 3, 4] rfl; rw [show nI (fb_sm (fun a => fb_sm (fun b => if a < b ∧ (xs_wc (xFC σ) (σ 10) y a b ∧ xs_wc (xFC σ) (σ 10) y b a) then 1 else 0) 6) a + fb_sm (fun b => if a < b ∧ (xs_wc (xFC σ) (σ 10) y a b ∧ xs_wc (xFC σ) (σ 10) y b a) then 1 else 0) b) = nI (fb_sm (fun a => fb_sm (fun b => if a < b ∧ (xs_wc (xFC σ) (σ 10) y a b ∧ xs_wc (xFC σ) (σ 10) y b a) then 1 else 0) 6) a + fb_sm (fun b => if a < b ∧ (xs_wc (xFC σ) (σ 10) y a b ∧ xs_wc (xFC σ) (σ 10) y b a) then 1 else 0) (b + 1)) from by rw [fb_sm_succ]; first | rw [if_neg (fun q => c_44 q.2.1), Nat.add_zero] | rw [if_neg (fun q => c_58 q.2.2), Nat.add_zero]] at h9; exact h9)⟩ (by (try dsimp only); omega)
          · refine lv_iinc (v := nI (fb_sm (fun a => fb_sm (fun b => if a < b ∧ (xs_wc (xFC σ) (σ 10) y a b ∧ xs_wc (xFC σ) (σ 10) y b a) then 1 else 0) 6) a + fb_sm (fun b => if a < b ∧ (xs_wc (xFC σ) (σ 10) y a b ∧ xs_wc (xFC σ) (σ 10) y b a) then 1 else 0) b + 1)) (lv' := [(2, .int (nI (fb_sm (fun a => fb_sm (fun b => if a < b ∧ (xs_wc (xFC σ) (σ 10) y a b ∧ xs_wc (xFC σ) (σ 10) y b a) then 1 else 0) 6) a + fb_sm (fun b => if a < b ∧ (xs_wc (xFC σ) (σ 10) y a b ∧ xs_wc (xFC σ) (σ 10) y b a) then 1 else 0) b + 1))), (4, .int (nI b)), (3, .int (nI a)), (0, .ref (α 0)), (1, .int (nI y))]) hx hb dX8_rather_61 hl (k := 2) rfl (nI_add (fb_sm (fun a => fb_sm (fun b => if a < b ∧ (xs_wc (xFC σ) (σ 10) y a b ∧ xs_wc (xFC σ) (σ 10) y b a) then 1 else 0) 6) a + fb_sm (fun b => if a < b ∧ (xs_wc (xFC σ) (σ 10) y a b ∧ xs_wc (xFC σ) (σ 10) y b a) then 1 else 0) b) 1) (by decide) rfl (fun ls hl => ?_)
            refine lv_iinc (v := nI (b + 1)) (lv' := [(4, .int (nI (b + 1))), (2, .int (nI (fb_sm (fun a => fb_sm (fun b => if a < b ∧ (xs_wc (xFC σ) (σ 10) y a b ∧ xs_wc (xFC σ) (σ 10) y b a) then 1 else 0) 6) a + fb_sm (fun b => if a < b ∧ (xs_wc (xFC σ) (σ 10) y a b ∧ xs_wc (xFC σ) (σ 10) y b a) then 1 else 0) b + 1))), (3, .int (nI a)), (0, .ref (α 0)), (1, .int (nI y))]) hx hb dX8_rather_64 hl (k := 1) rfl (nI_add b 1) (by decide) rfl (fun ls hl => ?_)
            refine lv_goto (tgt := 26) hx hb dX8_rather_67 (by decide) ?_
            exact ih_26 (b + 1) ls ⟨(by omega), (by omega), (by have h9 := lv_sub (l' := [(4, .int (nI (b + 1))), (3, .int (nI a)), (2, .int (nI (fb_sm (fun a => fb_sm (fun b => if a < b ∧ (xs_wc (xFC σ) (σ 10) y a b ∧ xs_wc (xFC σ) (σ 10) y b a) then 1 else 0) 6) a + fb_sm (fun b => if a < b ∧ (xs_wc (xFC σ) (σ 10) y a b ∧ xs_wc (xFC σ) (σ 10) y b a) then 1 else 0) b + 1))), (0, .ref (α 0)), (1, .int (nI y))]) hl [0, 2, 1, 3, 4] rfl; rw [show nI (fb_sm (fun a => fb_sm (fun b => if a < b ∧ (xs_wc (xFC σ) (σ 10) y a b ∧ xs_wc (xFC σ) (σ 10) y b a) then 1 else 0) 6) a + fb_sm (fun b => if a < b ∧ (xs_wc (xFC σ) (σ 10) y a b ∧ xs_wc (xFC σ) (σ 10) y b a) then 1 else 0) b + 1) = nI (fb_sm (fun a => fb_sm (fun b => if a < b ∧ (xs_wc (xFC σ) (σ 10) y a b ∧ xs_wc (xFC σ) (σ 10) y b a) then 1 else 0) 6) a + fb_sm (fun b => if a < b ∧ (xs_wc (xFC σ) (σ 10) y a b ∧ xs_wc (xFC σ) (σ 10) y b a) then 1 else 0) (b + 1)) from by rw [fb_sm_succ]; rw [if_pos ⟨by omega, c_44, c_58⟩, ← Nat.add_assoc]] at h9; exact h9)⟩ (by (try dsimp only); omega)
  · refine lv_bipush (v := (-2)) hx hb dX8_rather_8 (by decide) ?_
    exact x_iretR S hlocks hr rfl (by rw [xp_rather, if_neg c_5]) dX8_rather_10
set_option maxHeartbeats 4000000 in
set_option maxRecDepth 100000 in
theorem c_X8_on (l : Launch) {D : va_G} {K : Nat → ClassId} {α : Nat → Nat} (σ : Nat → Nat → Int32) (x0 : Int32) (x1 : Int32) (x2 : Int32)  (hC : xIC σ) : Met l yX8_on wsX8_on (xrm 2) (va_Pc [.ref (α 0), .int x0, .int x1, .int x2] (xPre D K 42 α (xC α K) σ)) (vp_Si (fun r => r = xp_on (σ 10) (xYC σ) x0 x1 x2)) 0 0 (fun _ => False) := by
  refine Met.ofW (cc := cX8_on) (maxL := 4) (ret := (some .int)) (by decide) rfl ?_
  intro p e s m args below meth c s₁ B hml hv
  obtain ⟨rfl, hK, hP⟩ := hv
  have S : CallFix p m c cX8_on 4 s _ wsX8_on RX8 := ⟨B.exec, B.bytes, hml, findClass_of_methodNamed B.named, atoms_spec (ws := wsX8_on) B.pre⟩
  have hx := S.1
  have hb := S.2.1
  have hr := B.returns
  have hlocks := B.notSynchronized
  have hl := lv_entry ([.ref (α 0), .int x0, .int x1, .int x2]) (n := 4) (Nat.le_of_ble_eq_true rfl)
  rw [lg_entry_eq]
  generalize (lg_sl ([.ref (α 0), .int x0, .int x1, .int x2]) ++ List.replicate (4 - (lg_sl ([.ref (α 0), .int x0, .int x1, .int x2])).length) Slot.unset).toArray = ls at hl ⊢
  have hl : lv_has ls 4 [(0, .ref (α 0)), (1, .int x0), (2, .int x1), (3, .int x2)] := hl
  have hPP := hP
  have hY := xIC_Y hC
  have hY12 := xIC_12 hC
  obtain ⟨⟨hL, hL9⟩, ⟨hF, hYr⟩, ⟨hcs, hcn, hc1, hc2⟩, ⟨hss, hsn, hs1, hs2⟩, hfe, hsh⟩ := hC
  generalize hLe : xLC σ = L at hL hL9 hF ⊢
  generalize hYe : xYC σ = Y at hY hY12 hYr ⊢
  generalize hcne : xcC σ = cn at hcs hcn hc1 hc2 ⊢
  generalize hsne : xsC σ = sn at hss hsn hs1 hs2 ⊢
  refine lv_aload_n hx hb dX8_on_0 rfl (lv_at hl 0 rfl) ?_
  refine lv_iload_n hx hb dX8_on_1 rfl (lv_at hl 1 rfl) ?_
  refine x_cVRi (As := [.int x0]) (rest := []) S hK hP 0 (by omega) rfl rfl (c_X8_isYear l σ x0 Y  (by first | assumption | omega)) (x_cwV (n0 := 1) (cq := (RX8, TX8, 9)) S gX8_on_X8_isYear rfl (by decide +kernel) ⟨Nat.le_of_ble_eq_true rfl, Nat.le_of_ble_eq_true rfl⟩) rfl hl.1 rfl (Nat.le_of_ble_eq_true rfl) dX8_on_2 ⟨Nat.le_refl _, Nat.le_refl _⟩ (fun r_2 hr_2 => ?_)
  subst hr_2
  refine x_if_eqB (tgt := 25) S dX8_on_5 (by decide) (fun c_5 => ?_) (fun c_5 => ?_)
  · refine lv_bipush (v := (-2)) hx hb dX8_on_25 (by decide) ?_
    exact x_iretR S hlocks hr rfl (by first | rw [xp_on, if_neg (fun q => c_5 q.1)] | rw [xp_on, if_neg (fun q => c_12 q.2.1)] | rw [xp_on, if_neg (fun q => c_22 q.2.2)]) dX8_on_27
  · refine lv_iload_n hx hb dX8_on_8 rfl (lv_at hl 2 rfl) ?_
    refine x_cSi (As := [.int x1]) (rest := []) S (c_X8_isShip l x1  ) (x_cwS (n0 := 1) S gX8_on_X8_isShip rfl (by decide +kernel) ⟨Nat.le_of_ble_eq_true rfl, Nat.le_of_ble_eq_true rfl⟩) rfl hl.1 rfl (Nat.le_of_ble_eq_true rfl) dX8_on_9 ⟨Nat.le_refl _, Nat.le_refl _⟩ (fun r_9 hr_9 => ?_)
    subst hr_9
    refine x_if_eqB (tgt := 25) S dX8_on_12 (by decide) (fun c_12 => ?_) (fun c_12 => ?_)
    · refine lv_bipush (v := (-2)) hx hb dX8_on_25 (by decide) ?_
      exact x_iretR S hlocks hr rfl (by first | rw [xp_on, if_neg (fun q => c_5 q.1)] | rw [xp_on, if_neg (fun q => c_12 q.2.1)] | rw [xp_on, if_neg (fun q => c_22 q.2.2)]) dX8_on_27
    · refine lv_iload_n hx hb dX8_on_15 rfl (lv_at hl 3 rfl) ?_
      refine lv_sipush (v := nI 1000) hx hb dX8_on_16 (by decide) ?_
      refine x_cSi (As := [.int x2, .int (nI 1000)]) (rest := []) S (c_X8_isBelow l x2 (nI 1000)  ) (x_cwS (n0 := 2) S gX8_on_X8_isBelow rfl (by decide +kernel) ⟨Nat.le_of_ble_eq_true rfl, Nat.le_of_ble_eq_true rfl⟩) rfl hl.1 rfl (Nat.le_of_ble_eq_true rfl) dX8_on_19 ⟨Nat.le_refl _, Nat.le_refl _⟩ (fun r_19 hr_19 => ?_)
      subst hr_19
      refine x_if_neB (tgt := 28) S dX8_on_22 (by decide) (fun c_22 => ?_) (fun c_22 => ?_)
      · obtain ⟨y, hy, rfl⟩ := xin_of c_5 (by omega)
        obtain ⟨h, hh, rfl⟩ := xin_of c_12 (by omega)
        obtain ⟨t, ht, rfl⟩ := xin_of c_22 (by omega)
        refine lv_aload_n hx hb dX8_on_28 rfl (lv_at hl 0 rfl) ?_
        refine x_get S (fun w h => List.mem_cons_of_mem _ (List.mem_append_left _ (List.mem_append_left _ (List.mem_append_right _ h)))) hK hP 0 (by omega) rfl rfl 2 (by decide) (List.mem_of_getElem? (i := 1) rfl) rfl dX8_on_29 ?_
        refine lv_iload_n hx hb dX8_on_32 rfl (lv_at hl 1 rfl) ?_
        refine lv_iload_n hx hb dX8_on_33 rfl (lv_at hl 2 rfl) ?_
        refine lv_iload_n hx hb dX8_on_34 rfl (lv_at hl 3 rfl) ?_
        refine x_cVRi (As := [.int (nI y), .int (nI h), .int (nI t)]) (rest := []) S hK hP 11 (by omega) rfl rfl (c_X7_drawnOn l σ y h t Y  (by first | assumption | omega) (by first | assumption | omega) (by first | assumption | omega) (by first | assumption | omega) (by first | assumption | omega)) (x_cwV (n0 := 3) (cq := (RX7, TX7, 2)) S gX8_on_X7_drawnOn rfl (by decide +kernel) ⟨Nat.le_of_ble_eq_true rfl, Nat.le_of_ble_eq_true rfl⟩) rfl hl.1 rfl (Nat.le_of_ble_eq_true rfl) dX8_on_35 ⟨Nat.le_refl _, Nat.le_refl _⟩ (fun r_35 hr_35 => ?_)
        subst hr_35
        exact x_iretR S hlocks hr rfl (by rw [xp_on, if_pos ⟨xin_nI (by omega) (by omega), xin_nI (by omega) (by omega), xin_nI (by omega) (by omega)⟩, cN_nI (by omega), cN_nI (by omega), cN_nI (by omega)]) dX8_on_38
      · refine lv_bipush (v := (-2)) hx hb dX8_on_25 (by decide) ?_
        exact x_iretR S hlocks hr rfl (by first | rw [xp_on, if_neg (fun q => c_5 q.1)] | rw [xp_on, if_neg (fun q => c_12 q.2.1)] | rw [xp_on, if_neg (fun q => c_22 q.2.2)]) dX8_on_27
set_option maxHeartbeats 4000000 in
set_option maxRecDepth 100000 in
theorem c_X8_returns (l : Launch) {D : va_G} {K : Nat → ClassId} {α : Nat → Nat} (σ : Nat → Nat → Int32) (x0 : Int32) (x1 : Int32)  (hC : xIC σ) : Met l yX8_returns wsX8_returns (xrm 4) (va_Pc [.ref (α 0), .int x0, .int x1] (xPre D K 42 α (xC α K) σ)) (vp_Si (fun r => r = xp_returns (σ 10) (xYC σ) x0 x1)) 0 0 (fun _ => False) := by
  refine Met.ofW (cc := cX8_returns) (maxL := 5) (ret := (some .int)) (by decide) rfl ?_
  intro p e s m args below meth c s₁ B hml hv
  obtain ⟨rfl, hK, hP⟩ := hv
  have S : CallFix p m c cX8_returns 5 s _ wsX8_returns RX8 := ⟨B.exec, B.bytes, hml, findClass_of_methodNamed B.named, atoms_spec (ws := wsX8_returns) B.pre⟩
  have hx := S.1
  have hb := S.2.1
  have hr := B.returns
  have hlocks := B.notSynchronized
  have hl := lv_entry ([.ref (α 0), .int x0, .int x1]) (n := 5) (Nat.le_of_ble_eq_true rfl)
  rw [lg_entry_eq]
  generalize (lg_sl ([.ref (α 0), .int x0, .int x1]) ++ List.replicate (5 - (lg_sl ([.ref (α 0), .int x0, .int x1])).length) Slot.unset).toArray = ls at hl ⊢
  have hl : lv_has ls 5 [(0, .ref (α 0)), (1, .int x0), (2, .int x1)] := hl
  have hPP := hP
  have hY := xIC_Y hC
  have hY12 := xIC_12 hC
  obtain ⟨⟨hL, hL9⟩, ⟨hF, hYr⟩, ⟨hcs, hcn, hc1, hc2⟩, ⟨hss, hsn, hs1, hs2⟩, hfe, hsh⟩ := hC
  generalize hLe : xLC σ = L at hL hL9 hF ⊢
  generalize hYe : xYC σ = Y at hY hY12 hYr ⊢
  generalize hcne : xcC σ = cn at hcs hcn hc1 hc2 ⊢
  generalize hsne : xsC σ = sn at hss hsn hs1 hs2 ⊢
  refine lv_aload_n hx hb dX8_returns_0 rfl (lv_at hl 0 rfl) ?_
  refine lv_iload_n hx hb dX8_returns_1 rfl (lv_at hl 1 rfl) ?_
  refine x_cVRi (As := [.int x0]) (rest := []) S hK hP 0 (by omega) rfl rfl (c_X8_isYear l σ x0 Y  (by first | assumption | omega)) (x_cwV (n0 := 1) (cq := (RX8, TX8, 9)) S gX8_returns_X8_isYear rfl (by decide +kernel) ⟨Nat.le_of_ble_eq_true rfl, Nat.le_of_ble_eq_true rfl⟩) rfl hl.1 rfl (Nat.le_of_ble_eq_true rfl) dX8_returns_2 ⟨Nat.le_refl _, Nat.le_refl _⟩ (fun r_2 hr_2 => ?_)
  subst hr_2
  refine x_if_eqB (tgt := 20) S dX8_returns_5 (by decide) (fun c_5 => ?_) (fun c_5 => ?_)
  · refine lv_bipush (v := (-2)) hx hb dX8_returns_20 (by decide) ?_
    exact x_iretR S hlocks hr rfl (by first | rw [xp_returns, if_neg (fun q => c_5 q.1)] | rw [xp_returns, if_neg (fun q => by rcases q.2 with q | q; exact c_10 q; exact c_17 q)]) dX8_returns_22
  · refine lv_iload_n hx hb dX8_returns_8 rfl (lv_at hl 2 rfl) ?_
    refine lv_iconst (v := (-1)) hx hb dX8_returns_9 (by decide) ?_
    refine lv_icmp_eq (tgt := 23) hx hb dX8_returns_10 (by decide) (fun c_10 => ?_) (fun c_10 => ?_)
    · have hx1 : x1 = -1 ∨ xin x1 6 := by first | exact Or.inl c_10 | exact Or.inr c_17
      obtain ⟨y, hy, rfl⟩ := xin_of c_5 (by omega)
      refine lv_iconst (v := nI 1) hx hb dX8_returns_23 (by decide) ?_
      refine lv_istore_n (lv' := [(3, .int (nI 1)), (0, .ref (α 0)), (1, .int (nI y)), (2, .int x1)]) hx hb dX8_returns_24 rfl hl (by decide) rfl (fun ls hl => ?_)
      refine x_loop (ι := Nat) (fun i ls => (i ≤ 720) ∧ (∀ k, k < i → ¬ xs_bk (σ 10) y x1 (k + 1)) ∧ lv_has ls 5 [(3, .int (nI (i + 1))), (0, .ref (α 0)), (1, .int (nI y)), (2, .int x1)]) (fun i => 720 - i) ?_ 0 ls ⟨Nat.zero_le _, fun k hk => absurd hk (Nat.not_lt_zero k), lv_sub hl [0, 1, 2, 3] rfl⟩
      intro i ls hinv ih_25
      obtain ⟨hi, hno, hl⟩ := hinv
      have hl : lv_has ls 5 [(3, .int (nI (i + 1))), (0, .ref (α 0)), (1, .int (nI y)), (2, .int x1)] := hl
      refine lv_iload_n hx hb dX8_returns_25 rfl (lv_at hl 0 rfl) ?_
      refine lv_sipush (v := nI 720) hx hb dX8_returns_26 (by decide) ?_
      refine x_icmpN_gt (tgt := 74) S dX8_returns_29 (by decide) (by omega) (by omega) (fun c_29 => ?_) (fun c_29 => ?_)
      · refine lv_iconst (v := (-1)) hx hb dX8_returns_74 (by decide) ?_
        exact x_iretR S hlocks hr rfl (by rw [xp_returns, if_pos ⟨xin_nI (by omega) (by omega), hx1⟩, cN_nI (by omega), show xs_ret _ _ _ = 720 from xfst_no (fun k hk => hno k (by omega)), if_neg (by omega)]) dX8_returns_75
      · refine lv_iload_n hx hb dX8_returns_32 rfl (lv_at hl 3 rfl) ?_
        refine lv_iconst (v := (-1)) hx hb dX8_returns_33 (by decide) ?_
        refine lv_icmp_ne (tgt := 49) hx hb dX8_returns_34 (by decide) (fun c_34 => ?_) (fun c_34 => ?_)
        · have hx6 : xin x1 6 := by rcases hx1 with q | q; exact absurd q c_34; exact q
          obtain ⟨h, hh, e1⟩ := xin_of hx6 (by omega)
          subst e1
          refine lv_aload_n hx hb dX8_returns_49 rfl (lv_at hl 1 rfl) ?_
          refine x_get S (fun w h => List.mem_cons_of_mem _ (List.mem_append_left _ (List.mem_append_left _ (List.mem_append_right _ h)))) hK hP 0 (by omega) rfl rfl 2 (by decide) (List.mem_of_getElem? (i := 1) rfl) rfl dX8_returns_50 ?_
          refine lv_iload_n hx hb dX8_returns_53 rfl (lv_at hl 2 rfl) ?_
          refine lv_iload_n hx hb dX8_returns_54 rfl (lv_at hl 3 rfl) ?_
          refine lv_iload_n hx hb dX8_returns_55 rfl (lv_at hl 0 rfl) ?_
          refine x_cVRi (As := [.int (nI y), .int (nI h), .int (nI (i + 1))]) (rest := []) S hK hP 11 (by omega) rfl rfl (c_X7_isBack l σ y h (i + 1) Y  (by first | assumption | omega) (by first | assumption | omega) (by first | assumption | omega) (by first | assumption | omega) (by first | assumption | omega)) (x_cwV (n0 := 3) (cq := (RX7, TX7, 2)) S gX8_returns_X7_isBack rfl (by decide +kernel) ⟨Nat.le_of_ble_eq_true rfl, Nat.le_of_ble_eq_true rfl⟩) rfl hl.1 rfl (Nat.le_of_ble_eq_true rfl) dX8_returns_56 ⟨Nat.le_refl _, Nat.le_refl _⟩ (fun r_56 hr_56 => ?_)
          subst hr_56
          refine lv_istore (lv' := [(4, .int (xb (xs_on (σ 10) y h (i + 1) = h))), (3, .int (nI (i + 1))), (0, .ref (α 0)), (1, .int (nI y)), (2, .int (nI h))]) hx hb dX8_returns_59 hl (by decide) rfl (fun ls hl => ?_)
          refine lv_iload hx hb dX8_returns_61 (lv_at hl 0 rfl) ?_
          refine x_if_eqB (tgt := 68) S dX8_returns_63 (by decide) (fun c_63 => ?_) (fun c_63 => ?_)
          · refine lv_iinc (v := nI (i + 1 + 1)) (lv' := [(3, .int (nI (i + 1 + 1))), (4, .int (xb (xs_on (σ 10) y h (i + 1) = h))), (0, .ref (α 0)), (1, .int (nI y)), (2, .int (nI h))]) hx hb dX8_returns_68 hl (k := 1) rfl (nI_add (i + 1) 1) (by decide) rfl (fun ls hl => ?_)
            refine lv_goto (tgt := 25) hx hb dX8_returns_71 (by decide) ?_
            exact ih_25 (i + 1) ls ⟨(by omega), lt_s hno (fun q => by rcases q with q | q; (first | exact c_63 q.2 | exact c_34 q.1); (first | (rw [cN_nI (by omega)] at q; exact c_63 q.2) | exact q.1 c_34)), lv_sub hl [0, 2, 3, 4] rfl⟩ (by (try dsimp only); omega)
          · refine lv_iload_n hx hb dX8_returns_66 rfl (lv_at hl 1 rfl) ?_
            exact x_iretR S hlocks hr rfl (by rw [xp_returns, if_pos ⟨xin_nI (by omega) (by omega), hx1⟩, cN_nI (by omega), show xs_ret _ _ _ = i from xfst_at hno (Or.inr ⟨c_34, by rw [cN_nI (by omega)]; exact c_63⟩) (by omega), if_pos (by omega)]) dX8_returns_67
        · refine lv_aload_n hx hb dX8_returns_37 rfl (lv_at hl 1 rfl) ?_
          refine x_get S (fun w h => List.mem_cons_of_mem _ (List.mem_append_left _ (List.mem_append_left _ (List.mem_append_right _ h)))) hK hP 0 (by omega) rfl rfl 2 (by decide) (List.mem_of_getElem? (i := 1) rfl) rfl dX8_returns_38 ?_
          refine lv_iload_n hx hb dX8_returns_41 rfl (lv_at hl 2 rfl) ?_
          refine lv_iload_n hx hb dX8_returns_42 rfl (lv_at hl 0 rfl) ?_
          refine x_cVRi (As := [.int (nI y), .int (nI (i + 1))]) (rest := []) S hK hP 11 (by omega) rfl rfl (c_X7_allBack l σ y (i + 1) Y  (by first | assumption | omega) (by first | assumption | omega) (by first | assumption | omega) (by first | assumption | omega)) (x_cwV (n0 := 2) (cq := (RX7, TX7, 2)) S gX8_returns_X7_allBack rfl (by decide +kernel) ⟨Nat.le_of_ble_eq_true rfl, Nat.le_of_ble_eq_true rfl⟩) rfl hl.1 rfl (Nat.le_of_ble_eq_true rfl) dX8_returns_43 ⟨Nat.le_refl _, Nat.le_refl _⟩ (fun r_43 hr_43 => ?_)
          subst hr_43
          refine lv_goto (tgt := 59) hx hb dX8_returns_46 (by decide) ?_
          refine lv_istore (lv' := [(4, .int (xb (xall (fun h => xs_on (σ 10) y h (i + 1) = h) 6))), (3, .int (nI (i + 1))), (0, .ref (α 0)), (1, .int (nI y)), (2, .int x1)]) hx hb dX8_returns_59 hl (by decide) rfl (fun ls hl => ?_)
          refine lv_iload hx hb dX8_returns_61 (lv_at hl 0 rfl) ?_
          refine x_if_eqB (tgt := 68) S dX8_returns_63 (by decide) (fun c_63 => ?_) (fun c_63 => ?_)
          · refine lv_iinc (v := nI (i + 1 + 1)) (lv' := [(3, .int (nI (i + 1 + 1))), (4, .int (xb (xall (fun h => xs_on (σ 10) y h (i + 1) = h) 6))), (0, .ref (α 0)), (1, .int (nI y)), (2, .int x1)]) hx hb dX8_returns_68 hl (k := 1) rfl (nI_add (i + 1) 1) (by decide) rfl (fun ls hl => ?_)
            refine lv_goto (tgt := 25) hx hb dX8_returns_71 (by decide) ?_
            exact ih_25 (i + 1) ls ⟨(by omega), lt_s hno (fun q => by rcases q with q | q; (first | exact c_63 q.2 | exact c_34 q.1); (first | (rw [cN_nI (by omega)] at q; exact c_63 q.2) | exact q.1 c_34)), lv_sub hl [0, 2, 3, 4] rfl⟩ (by (try dsimp only); omega)
          · refine lv_iload_n hx hb dX8_returns_66 rfl (lv_at hl 1 rfl) ?_
            exact x_iretR S hlocks hr rfl (by rw [xp_returns, if_pos ⟨xin_nI (by omega) (by omega), hx1⟩, cN_nI (by omega), show xs_ret _ _ _ = i from xfst_at hno (Or.inl ⟨c_34, c_63⟩) (by omega), if_pos (by omega)]) dX8_returns_67
    · refine lv_iload_n hx hb dX8_returns_13 rfl (lv_at hl 2 rfl) ?_
      refine x_cSi (As := [.int x1]) (rest := []) S (c_X8_isShip l x1  ) (x_cwS (n0 := 1) S gX8_returns_X8_isShip rfl (by decide +kernel) ⟨Nat.le_of_ble_eq_true rfl, Nat.le_of_ble_eq_true rfl⟩) rfl hl.1 rfl (Nat.le_of_ble_eq_true rfl) dX8_returns_14 ⟨Nat.le_refl _, Nat.le_refl _⟩ (fun r_14 hr_14 => ?_)
      subst hr_14
      refine x_if_neB (tgt := 23) S dX8_returns_17 (by decide) (fun c_17 => ?_) (fun c_17 => ?_)
      · have hx1 : x1 = -1 ∨ xin x1 6 := by first | exact Or.inl c_10 | exact Or.inr c_17
        obtain ⟨y, hy, rfl⟩ := xin_of c_5 (by omega)
        refine lv_iconst (v := nI 1) hx hb dX8_returns_23 (by decide) ?_
        refine lv_istore_n (lv' := [(3, .int (nI 1)), (0, .ref (α 0)), (1, .int (nI y)), (2, .int x1)]) hx hb dX8_returns_24 rfl hl (by decide) rfl (fun ls hl => ?_)
        refine x_loop (ι := Nat) (fun i ls => (i ≤ 720) ∧ (∀ k, k < i → ¬ xs_bk (σ 10) y x1 (k + 1)) ∧ lv_has ls 5 [(3, .int (nI (i + 1))), (0, .ref (α 0)), (1, .int (nI y)), (2, .int x1)]) (fun i => 720 - i) ?_ 0 ls ⟨Nat.zero_le _, fun k hk => absurd hk (Nat.not_lt_zero k), lv_sub hl [0, 1, 2, 3] rfl⟩
        intro i ls hinv ih_25
        obtain ⟨hi, hno, hl⟩ := hinv
        have hl : lv_has ls 5 [(3, .int (nI (i + 1))), (0, .ref (α 0)), (1, .int (nI y)), (2, .int x1)] := hl
        refine lv_iload_n hx hb dX8_returns_25 rfl (lv_at hl 0 rfl) ?_
        refine lv_sipush (v := nI 720) hx hb dX8_returns_26 (by decide) ?_
        refine x_icmpN_gt (tgt := 74) S dX8_returns_29 (by decide) (by omega) (by omega) (fun c_29 => ?_) (fun c_29 => ?_)
        · refine lv_iconst (v := (-1)) hx hb dX8_returns_74 (by decide) ?_
          exact x_iretR S hlocks hr rfl (by rw [xp_returns, if_pos ⟨xin_nI (by omega) (by omega), hx1⟩, cN_nI (by omega), show xs_ret _ _ _ = 720 from xfst_no (fun k hk => hno k (by omega)), if_neg (by omega)]) dX8_returns_75
        · refine lv_iload_n hx hb dX8_returns_32 rfl (lv_at hl 3 rfl) ?_
          refine lv_iconst (v := (-1)) hx hb dX8_returns_33 (by decide) ?_
          refine lv_icmp_ne (tgt := 49) hx hb dX8_returns_34 (by decide) (fun c_34 => ?_) (fun c_34 => ?_)
          · have hx6 : xin x1 6 := by rcases hx1 with q | q; exact absurd q c_34; exact q
            obtain ⟨h, hh, e1⟩ := xin_of hx6 (by omega)
            subst e1
            refine lv_aload_n hx hb dX8_returns_49 rfl (lv_at hl 1 rfl) ?_
            refine x_get S (fun w h => List.mem_cons_of_mem _ (List.mem_append_left _ (List.mem_append_left _ (List.mem_append_right _ h)))) hK hP 0 (by omega) rfl rfl 2 (by decide) (List.mem_of_getElem? (i := 1) rfl) rfl dX8_returns_50 ?_
            refine lv_iload_n hx hb dX8_returns_53 rfl (lv_at hl 2 rfl) ?_
            refine lv_iload_n hx hb dX8_returns_54 rfl (lv_at hl 3 rfl) ?_
            refine lv_iload_n hx hb dX8_returns_55 rfl (lv_at hl 0 rfl) ?_
            refine x_cVRi (As := [.int (nI y), .int (nI h), .int (nI (i + 1))]) (rest := []) S hK hP 11 (by omega) rfl rfl (c_X7_isBack l σ y h (i + 1) Y  (by first | assumption | omega) (by first | assumption | omega) (by first | assumption | omega) (by first | assumption | omega) (by first | assumption | omega)) (x_cwV (n0 := 3) (cq := (RX7, TX7, 2)) S gX8_returns_X7_isBack rfl (by decide +kernel) ⟨Nat.le_of_ble_eq_true rfl, Nat.le_of_ble_eq_true rfl⟩) rfl hl.1 rfl (Nat.le_of_ble_eq_true rfl) dX8_returns_56 ⟨Nat.le_refl _, Nat.le_refl _⟩ (fun r_56 hr_56 => ?_)
            subst hr_56
            refine lv_istore (lv' := [(4, .int (xb (xs_on (σ 10) y h (i + 1) = h))), (3, .int (nI (i + 1))), (0, .ref (α 0)), (1, .int (nI y)), (2, .int (nI h))]) hx hb dX8_returns_59 hl (by decide) rfl (fun ls hl => ?_)
            refine lv_iload hx hb dX8_returns_61 (lv_at hl 0 rfl) ?_
            refine x_if_eqB (tgt := 68) S dX8_returns_63 (by decide) (fun c_63 => ?_) (fun c_63 => ?_)
            · refine lv_iinc (v := nI (i + 1 + 1)) (lv' := [(3, .int (nI (i + 1 + 1))), (4, .int (xb (xs_on (σ 10) y h (i + 1) = h))), (0, .ref (α 0)), (1, .int (nI y)), (2, .int (nI h))]) hx hb dX8_returns_68 hl (k := 1) rfl (nI_add (i + 1) 1) (by decide) rfl (fun ls hl => ?_)
              refine lv_goto (tgt := 25) hx hb dX8_returns_71 (by decide) ?_
              exact ih_25 (i + 1) ls ⟨(by omega), lt_s hno (fun q => by rcases q with q | q; (first | exact c_63 q.2 | exact c_34 q.1); (first | (rw [cN_nI (by omega)] at q; exact c_63 q.2) | exact q.1 c_34)), lv_sub hl [0, 2, 3, 4] rfl⟩ (by (try dsimp only); omega)
            · refine lv_iload_n hx hb dX8_returns_66 rfl (lv_at hl 1 rfl) ?_
              exact x_iretR S hlocks hr rfl (by rw [xp_returns, if_pos ⟨xin_nI (by omega) (by omega), hx1⟩, cN_nI (by omega), show xs_ret _ _ _ = i from xfst_at hno (Or.inr ⟨c_34, by rw [cN_nI (by omega)]; exact c_63⟩) (by omega), if_pos (by omega)]) dX8_returns_67
          · refine lv_aload_n hx hb dX8_returns_37 rfl (lv_at hl 1 rfl) ?_
            refine x_get S (fun w h => List.mem_cons_of_mem _ (List.mem_append_left _ (List.mem_append_left _ (List.mem_append_right _ h)))) hK hP 0 (by omega) rfl rfl 2 (by decide) (List.mem_of_getElem? (i := 1) rfl) rfl dX8_returns_38 ?_
            refine lv_iload_n hx hb dX8_returns_41 rfl (lv_at hl 2 rfl) ?_
            refine lv_iload_n hx hb dX8_returns_42 rfl (lv_at hl 0 rfl) ?_
            refine x_cVRi (As := [.int (nI y), .int (nI (i + 1))]) (rest := []) S hK hP 11 (by omega) rfl rfl (c_X7_allBack l σ y (i + 1) Y  (by first | assumption | omega) (by first | assumption | omega) (by first | assumption | omega) (by first | assumption | omega)) (x_cwV (n0 := 2) (cq := (RX7, TX7, 2)) S gX8_returns_X7_allBack rfl (by decide +kernel) ⟨Nat.le_of_ble_eq_true rfl, Nat.le_of_ble_eq_true rfl⟩) rfl hl.1 rfl (Nat.le_of_ble_eq_true rfl) dX8_returns_43 ⟨Nat.le_refl _, Nat.le_refl _⟩ (fun r_43 hr_43 => ?_)
            subst hr_43
            refine lv_goto (tgt := 59) hx hb dX8_returns_46 (by decide) ?_
            refine lv_istore (lv' := [(4, .int (xb (xall (fun h => xs_on (σ 10) y h (i + 1) = h) 6))), (3, .int (nI (i + 1))), (0, .ref (α 0)), (1, .int (nI y)), (2, .int x1)]) hx hb dX8_returns_59 hl (by decide) rfl (fun ls hl => ?_)
            refine lv_iload hx hb dX8_returns_61 (lv_at hl 0 rfl) ?_
            refine x_if_eqB (tgt := 68) S dX8_returns_63 (by decide) (fun c_63 => ?_) (fun c_63 => ?_)
            · refine lv_iinc (v := nI (i + 1 + 1)) (lv' := [(3, .int (nI (i + 1 + 1))), (4, .int (xb (xall (fun h => xs_on (σ 10) y h (i + 1) = h) 6))), (0, .ref (α 0)), (1, .int (nI y)), (2, .int x1)]) hx hb dX8_returns_68 hl (k := 1) rfl (nI_add (i + 1) 1) (by decide) rfl (fun ls hl => ?_)
              refine lv_goto (tgt := 25) hx hb dX8_returns_71 (by decide) ?_
              exact ih_25 (i + 1) ls ⟨(by omega), lt_s hno (fun q => by rcases q with q | q; (first | exact c_63 q.2 | exact c_34 q.1); (first | (rw [cN_nI (by omega)] at q; exact c_63 q.2) | exact q.1 c_34)), lv_sub hl [0, 2, 3, 4] rfl⟩ (by (try dsimp only); omega)
            · refine lv_iload_n hx hb dX8_returns_66 rfl (lv_at hl 1 rfl) ?_
              exact x_iretR S hlocks hr rfl (by rw [xp_returns, if_pos ⟨xin_nI (by omega) (by omega), hx1⟩, cN_nI (by omega), show xs_ret _ _ _ = i from xfst_at hno (Or.inl ⟨c_34, c_63⟩) (by omega), if_pos (by omega)]) dX8_returns_67
      · refine lv_bipush (v := (-2)) hx hb dX8_returns_20 (by decide) ?_
        exact x_iretR S hlocks hr rfl (by first | rw [xp_returns, if_neg (fun q => c_5 q.1)] | rw [xp_returns, if_neg (fun q => by rcases q.2 with q | q; exact c_10 q; exact c_17 q)]) dX8_returns_22

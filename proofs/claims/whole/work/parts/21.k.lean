set_option maxHeartbeats 4000000 in
set_option maxRecDepth 100000 in
theorem c_X9_in (l : Launch) (x : Int32) (a : Int32) (b : Int32)  : Met l yX9_in wsX9_in (xrm 0) (va_Pc [.int x, .int a, .int b] (fun _ => True)) (vp_Si (fun r => r = xb (a ≤ x ∧ x ≤ b))) 0 0 (fun _ => False) := by
  refine Met.ofW (cc := cX9_in) (maxL := 3) (ret := (some .boolean)) (by decide) rfl ?_
  intro p e s m args below meth c s₁ B hml hv
  obtain ⟨rfl, -⟩ := hv
  have S : CallFix p m c cX9_in 3 s _ wsX9_in RX9 := ⟨B.exec, B.bytes, hml, findClass_of_methodNamed B.named, atoms_spec (ws := wsX9_in) B.pre⟩
  have hx := S.1
  have hb := S.2.1
  have hr := B.returns
  have hlocks := B.notSynchronized
  have hl := lv_entry ([.int x, .int a, .int b]) (n := 3) (Nat.le_of_ble_eq_true rfl)
  rw [lg_entry_eq]
  generalize (lg_sl ([.int x, .int a, .int b]) ++ List.replicate (3 - (lg_sl ([.int x, .int a, .int b])).length) Slot.unset).toArray = ls at hl ⊢
  have hl : lv_has ls 3 [(0, .int x), (1, .int a), (2, .int b)] := hl
  refine lv_iload_n hx hb dX9_in_0 rfl (lv_at hl 0 rfl) ?_
  refine lv_iload_n hx hb dX9_in_1 rfl (lv_at hl 1 rfl) ?_
  refine lv_icmp_lt (tgt := 14) hx hb dX9_in_2 (by decide) (fun c_2 => ?_) (fun c_2 => ?_)
  · refine lv_iconst (v := nI 0) hx hb dX9_in_14 (by decide) ?_
    exact x_iretR S hlocks hr rfl (by first | exact (xb_f (fun h => xnlt h.2 c_7)).symm | exact (xb_f (fun h => xnlt h.1 c_2)).symm) dX9_in_15
  · refine lv_iload_n hx hb dX9_in_5 rfl (lv_at hl 0 rfl) ?_
    refine lv_iload_n hx hb dX9_in_6 rfl (lv_at hl 2 rfl) ?_
    refine lv_icmp_gt (tgt := 14) hx hb dX9_in_7 (by decide) (fun c_7 => ?_) (fun c_7 => ?_)
    · refine lv_iconst (v := nI 0) hx hb dX9_in_14 (by decide) ?_
      exact x_iretR S hlocks hr rfl (by first | exact (xb_f (fun h => xnlt h.2 c_7)).symm | exact (xb_f (fun h => xnlt h.1 c_2)).symm) dX9_in_15
    · refine lv_iconst (v := nI 1) hx hb dX9_in_10 (by decide) ?_
      refine lv_goto (tgt := 15) hx hb dX9_in_11 (by decide) ?_
      exact x_iretR S hlocks hr rfl ((xb_t ⟨xlt c_2, xlt c_7⟩).symm) dX9_in_15
set_option maxHeartbeats 4000000 in
set_option maxRecDepth 100000 in
theorem c_X9_in0 (l : Launch) (x : Int32) (n : Nat)  (hn : n + 1 < 2147483648) : Met l yX9_in wsX9_in (xrm 0) (va_Pc [.int x, .int (nI 0), .int (nI n)] (fun _ => True)) (vp_Si (fun r => r = xb (xin x (n + 1)))) 0 0 (fun _ => False) := by
  refine Met.ofW (cc := cX9_in) (maxL := 3) (ret := (some .boolean)) (by decide) rfl ?_
  intro p e s m args below meth c s₁ B hml hv
  obtain ⟨rfl, -⟩ := hv
  have S : CallFix p m c cX9_in 3 s _ wsX9_in RX9 := ⟨B.exec, B.bytes, hml, findClass_of_methodNamed B.named, atoms_spec (ws := wsX9_in) B.pre⟩
  have hx := S.1
  have hb := S.2.1
  have hr := B.returns
  have hlocks := B.notSynchronized
  have hl := lv_entry ([.int x, .int (nI 0), .int (nI n)]) (n := 3) (Nat.le_of_ble_eq_true rfl)
  rw [lg_entry_eq]
  generalize (lg_sl ([.int x, .int (nI 0), .int (nI n)]) ++ List.replicate (3 - (lg_sl ([.int x, .int (nI 0), .int (nI n)])).length) Slot.unset).toArray = ls at hl ⊢
  have hl : lv_has ls 3 [(0, .int x), (1, .int (nI 0)), (2, .int (nI n))] := hl
  refine lv_iload_n hx hb dX9_in_0 rfl (lv_at hl 0 rfl) ?_
  refine lv_iload_n hx hb dX9_in_1 rfl (lv_at hl 1 rfl) ?_
  refine lv_icmp_lt (tgt := 14) hx hb dX9_in_2 (by decide) (fun c_2 => ?_) (fun c_2 => ?_)
  · refine lv_iconst (v := nI 0) hx hb dX9_in_14 (by decide) ?_
    exact x_iretR S hlocks hr rfl (by refine (xb_f fun q => ?_).symm; have h := (xin_le n hn).mpr q; first | exact xnlt h.2 c_7 | exact xnlt h.1 c_2) dX9_in_15
  · refine lv_iload_n hx hb dX9_in_5 rfl (lv_at hl 0 rfl) ?_
    refine lv_iload_n hx hb dX9_in_6 rfl (lv_at hl 2 rfl) ?_
    refine lv_icmp_gt (tgt := 14) hx hb dX9_in_7 (by decide) (fun c_7 => ?_) (fun c_7 => ?_)
    · refine lv_iconst (v := nI 0) hx hb dX9_in_14 (by decide) ?_
      exact x_iretR S hlocks hr rfl (by refine (xb_f fun q => ?_).symm; have h := (xin_le n hn).mpr q; first | exact xnlt h.2 c_7 | exact xnlt h.1 c_2) dX9_in_15
    · refine lv_iconst (v := nI 1) hx hb dX9_in_10 (by decide) ?_
      refine lv_goto (tgt := 15) hx hb dX9_in_11 (by decide) ?_
      exact x_iretR S hlocks hr rfl ((xb_t ((xin_le n hn).mp ⟨xlt c_2, xlt c_7⟩)).symm) dX9_in_15
set_option maxHeartbeats 4000000 in
set_option maxRecDepth 100000 in
theorem c_X9_isIn (l : Launch) (t : Int32) (x : Int32)  : Met l yX9_isIn wsX9_isIn (xrm 0) (va_Pc [.int t, .int x] (fun _ => True)) (vp_Si (fun r => r = xb ((t >>> (x &&& 31)) &&& 1 = 1))) 0 0 (fun _ => False) := by
  refine Met.ofW (cc := cX9_isIn) (maxL := 2) (ret := (some .boolean)) (by decide) rfl ?_
  intro p e s m args below meth c s₁ B hml hv
  obtain ⟨rfl, -⟩ := hv
  have S : CallFix p m c cX9_isIn 2 s _ wsX9_isIn RX9 := ⟨B.exec, B.bytes, hml, findClass_of_methodNamed B.named, atoms_spec (ws := wsX9_isIn) B.pre⟩
  have hx := S.1
  have hb := S.2.1
  have hr := B.returns
  have hlocks := B.notSynchronized
  have hl := lv_entry ([.int t, .int x]) (n := 2) (Nat.le_of_ble_eq_true rfl)
  rw [lg_entry_eq]
  generalize (lg_sl ([.int t, .int x]) ++ List.replicate (2 - (lg_sl ([.int t, .int x])).length) Slot.unset).toArray = ls at hl ⊢
  have hl : lv_has ls 2 [(0, .int t), (1, .int x)] := hl
  refine lv_iload_n hx hb dX9_isIn_0 rfl (lv_at hl 0 rfl) ?_
  refine lv_iload_n hx hb dX9_isIn_1 rfl (lv_at hl 1 rfl) ?_
  refine lv_ishr hx hb dX9_isIn_2 ?_
  refine lv_iconst (v := nI 1) hx hb dX9_isIn_3 (by decide) ?_
  refine lv_iand hx hb dX9_isIn_4 ?_
  refine lv_iconst (v := nI 1) hx hb dX9_isIn_5 (by decide) ?_
  refine lv_icmp_ne (tgt := 13) hx hb dX9_isIn_6 (by decide) (fun c_6 => ?_) (fun c_6 => ?_)
  · refine lv_iconst (v := nI 0) hx hb dX9_isIn_13 (by decide) ?_
    exact x_iretR S hlocks hr rfl ((xb_f c_6).symm) dX9_isIn_14
  · refine lv_iconst (v := nI 1) hx hb dX9_isIn_9 (by decide) ?_
    refine lv_goto (tgt := 14) hx hb dX9_isIn_10 (by decide) ?_
    exact x_iretR S hlocks hr rfl ((xb_t c_6).symm) dX9_isIn_14
set_option maxHeartbeats 4000000 in
set_option maxRecDepth 100000 in
theorem c_X9_no (l : Launch) (x : Int32)  : Met l yX9_no wsX9_no (xrm 0) (va_Pc [.int x] (fun _ => True)) (vp_Sl (fun r => r = xrefuse x)) 0 0 (fun _ => False) := by
  refine Met.ofW (cc := cX9_no) (maxL := 1) (ret := (some .long)) (by decide) rfl ?_
  intro p e s m args below meth c s₁ B hml hv
  obtain ⟨rfl, -⟩ := hv
  have S : CallFix p m c cX9_no 1 s _ wsX9_no RX9 := ⟨B.exec, B.bytes, hml, findClass_of_methodNamed B.named, atoms_spec (ws := wsX9_no) B.pre⟩
  have hx := S.1
  have hb := S.2.1
  have hr := B.returns
  have hlocks := B.notSynchronized
  have hl := lv_entry ([.int x]) (n := 1) (Nat.le_of_ble_eq_true rfl)
  rw [lg_entry_eq]
  generalize (lg_sl ([.int x]) ++ List.replicate (1 - (lg_sl ([.int x])).length) Slot.unset).toArray = ls at hl ⊢
  have hl : lv_has ls 1 [(0, .int x)] := hl
  refine lv_ldc2 hx hb S.2.2.2.1 (S.2.2.2.2 (.constantLong RX9 68 (-9223372036854775808)) (List.mem_of_getElem? (i := 1) rfl)) dX9_no_0 ?_
  refine lv_iload_n hx hb dX9_no_3 rfl (lv_at hl 0 rfl) ?_
  refine lv_i2l hx hb dX9_no_4 rfl ?_
  refine lv_lsub hx hb dX9_no_5 ?_
  exact x_lretR S hlocks hr (rfl) dX9_no_6
set_option maxHeartbeats 4000000 in
set_option maxRecDepth 100000 in
theorem c_X9_isSix (l : Launch) (x : Int32)  : Met l yX9_isSix wsX9_isSix (xrm 1) (va_Pc [.int x] (fun _ => True)) (vp_Si (fun r => r = xb (xin x 6))) 0 0 (fun _ => False) := by
  refine Met.ofW (cc := cX9_isSix) (maxL := 1) (ret := (some .boolean)) (by decide) rfl ?_
  intro p e s m args below meth c s₁ B hml hv
  obtain ⟨rfl, -⟩ := hv
  have S : CallFix p m c cX9_isSix 1 s _ wsX9_isSix RX9 := ⟨B.exec, B.bytes, hml, findClass_of_methodNamed B.named, atoms_spec (ws := wsX9_isSix) B.pre⟩
  have hx := S.1
  have hb := S.2.1
  have hr := B.returns
  have hlocks := B.notSynchronized
  have hl := lv_entry ([.int x]) (n := 1) (Nat.le_of_ble_eq_true rfl)
  rw [lg_entry_eq]
  generalize (lg_sl ([.int x]) ++ List.replicate (1 - (lg_sl ([.int x])).length) Slot.unset).toArray = ls at hl ⊢
  have hl : lv_has ls 1 [(0, .int x)] := hl
  refine lv_iload_n hx hb dX9_isSix_0 rfl (lv_at hl 0 rfl) ?_
  refine lv_iconst (v := nI 0) hx hb dX9_isSix_1 (by decide) ?_
  refine lv_iconst (v := nI 5) hx hb dX9_isSix_2 (by decide) ?_
  refine x_cSi (As := [.int x, .int (nI 0), .int (nI 5)]) (rest := []) S (c_X9_in0 l x 5  (by first | assumption | omega)) (x_cwS (n0 := 3) S gX9_isSix_X9_in rfl (by decide +kernel) ⟨Nat.le_of_ble_eq_true rfl, Nat.le_of_ble_eq_true rfl⟩) rfl hl.1 rfl (Nat.le_of_ble_eq_true rfl) dX9_isSix_3 ⟨Nat.le_refl _, Nat.le_refl _⟩ (fun r_3 hr_3 => ?_)
  subst hr_3
  exact x_iretR S hlocks hr xb_nar (rfl) dX9_isSix_6
set_option maxHeartbeats 4000000 in
set_option maxRecDepth 100000 in
theorem c_X9_isSheet (l : Launch) (x : Int32)  : Met l yX9_isSheet wsX9_isSheet (xrm 1) (va_Pc [.int x] (fun _ => True)) (vp_Si (fun r => r = xb (xin x 4))) 0 0 (fun _ => False) := by
  refine Met.ofW (cc := cX9_isSheet) (maxL := 1) (ret := (some .boolean)) (by decide) rfl ?_
  intro p e s m args below meth c s₁ B hml hv
  obtain ⟨rfl, -⟩ := hv
  have S : CallFix p m c cX9_isSheet 1 s _ wsX9_isSheet RX9 := ⟨B.exec, B.bytes, hml, findClass_of_methodNamed B.named, atoms_spec (ws := wsX9_isSheet) B.pre⟩
  have hx := S.1
  have hb := S.2.1
  have hr := B.returns
  have hlocks := B.notSynchronized
  have hl := lv_entry ([.int x]) (n := 1) (Nat.le_of_ble_eq_true rfl)
  rw [lg_entry_eq]
  generalize (lg_sl ([.int x]) ++ List.replicate (1 - (lg_sl ([.int x])).length) Slot.unset).toArray = ls at hl ⊢
  have hl : lv_has ls 1 [(0, .int x)] := hl
  refine lv_iload_n hx hb dX9_isSheet_0 rfl (lv_at hl 0 rfl) ?_
  refine lv_iconst (v := nI 0) hx hb dX9_isSheet_1 (by decide) ?_
  refine lv_iconst (v := nI 3) hx hb dX9_isSheet_2 (by decide) ?_
  refine x_cSi (As := [.int x, .int (nI 0), .int (nI 3)]) (rest := []) S (c_X9_in0 l x 3  (by first | assumption | omega)) (x_cwS (n0 := 3) S gX9_isSheet_X9_in rfl (by decide +kernel) ⟨Nat.le_of_ble_eq_true rfl, Nat.le_of_ble_eq_true rfl⟩) rfl hl.1 rfl (Nat.le_of_ble_eq_true rfl) dX9_isSheet_3 ⟨Nat.le_refl _, Nat.le_refl _⟩ (fun r_3 hr_3 => ?_)
  subst hr_3
  exact x_iretR S hlocks hr xb_nar (rfl) dX9_isSheet_6
set_option maxHeartbeats 4000000 in
set_option maxRecDepth 100000 in
theorem c_X9_lowest (l : Launch) (a : Nat) (b : Nat) (x : Int32)  (h0 : 0 < b) (ha : a < 2147483648) (hb9 : b < 2147483648) : Met l yX9_lowest wsX9_lowest (xrm 0) (va_Pc [.long (lN a), .long (lN b), .int x] (fun _ => True)) (vp_Sl (fun r => r = xfrac a b x)) 0 0 (fun _ => False) := by
  refine Met.ofW (cc := cX9_lowest) (maxL := 11) (ret := (some .long)) (by decide) rfl ?_
  intro p e s m args below meth c s₁ B hml hv
  obtain ⟨rfl, -⟩ := hv
  have S : CallFix p m c cX9_lowest 11 s _ wsX9_lowest RX9 := ⟨B.exec, B.bytes, hml, findClass_of_methodNamed B.named, atoms_spec (ws := wsX9_lowest) B.pre⟩
  have hx := S.1
  have hb := S.2.1
  have hr := B.returns
  have hlocks := B.notSynchronized
  have hl := lv_entry ([.long (lN a), .long (lN b), .int x]) (n := 11) (Nat.le_of_ble_eq_true rfl)
  rw [lg_entry_eq]
  generalize (lg_sl ([.long (lN a), .long (lN b), .int x]) ++ List.replicate (11 - (lg_sl ([.long (lN a), .long (lN b), .int x])).length) Slot.unset).toArray = ls at hl ⊢
  have hl : lv_has ls 11 [(0, .long (lN a)), (2, .long (lN b)), (4, .int x)] := hl
  refine lv_lload_n hx hb dX9_lowest_0 rfl (lv_at hl 0 rfl) ?_
  refine lv_lstore (lv' := [(5, .long (lN a)), (0, .long (lN a)), (2, .long (lN b)), (4, .int x)]) hx hb dX9_lowest_1 hl (by decide) rfl (fun ls hl => ?_)
  refine lv_lload_n hx hb dX9_lowest_3 rfl (lv_at hl 2 rfl) ?_
  refine lv_lstore (lv' := [(7, .long (lN b)), (5, .long (lN a)), (0, .long (lN a)), (2, .long (lN b)), (4, .int x)]) hx hb dX9_lowest_4 hl (by decide) rfl (fun ls hl => ?_)
  refine x_loop (ι := Nat × Nat) (fun z9 ls => match z9 with | ⟨p9, q9⟩ => (p9 < 2147483648) ∧ (q9 < 2147483648) ∧ (Nat.gcd p9 q9 = Nat.gcd a b) ∧ (0 < p9 ∨ 0 < q9) ∧ lv_has ls 11 [(7, .long (lN q9)), (5, .long (lN p9)), (0, .long (lN a)), (2, .long (lN b)), (4, .int x)]) (fun z9 => match z9 with | ⟨p9, q9⟩ => q9) ?_ (⟨a, b⟩) ls ⟨ha, hb9, rfl, Or.inr h0, lv_sub hl [0, 1, 2, 3, 4] rfl⟩
  intro z9 ls hinv ih_6
  obtain ⟨p9, q9⟩ := z9
  obtain ⟨hp, hq, hg, hpq, hl⟩ := hinv
  have hl : lv_has ls 11 [(7, .long (lN q9)), (5, .long (lN p9)), (0, .long (lN a)), (2, .long (lN b)), (4, .int x)] := hl
  refine lv_lload hx hb dX9_lowest_6 (lv_at hl 0 rfl) ?_
  refine lv_lconst (v := 0) hx hb dX9_lowest_8 (by decide) ?_
  refine W.lcmp hx hb dX9_lowest_9 ?_
  refine lv_if_eq (tgt := 31) hx hb dX9_lowest_10 (by decide) (fun c_10 => ?_) (fun c_10 => ?_)
  · have hq0 : q9 = 0 := by
      have h9 := (lg_cmp_eq _ _).mp c_10
      exact (lN_eq (by omega) (by omega)).mp h9
    subst hq0
    rw [Nat.gcd_zero_right] at hg
    have hgp : 0 < p9 := by omega
    subst hg
    refine lv_iload hx hb dX9_lowest_31 (lv_at hl 4 rfl) ?_
    refine lv_if_ne (tgt := 43) hx hb dX9_lowest_33 (by decide) (fun c_33 => ?_) (fun c_33 => ?_)
    · refine lv_lload_n hx hb dX9_lowest_43 rfl (lv_at hl 3 rfl) ?_
      refine lv_lload hx hb dX9_lowest_44 (lv_at hl 1 rfl) ?_
      refine lv_ldiv hx hb dX9_lowest_46 (fun q => absurd ((lN_eq (b := 0) (by omega) (by omega)).mp q) (by omega)) ?_
      refine x_topL S (y := lN (b / Nat.gcd a b)) (pk_lDiv (by omega) hgp (by omega)) ?_
      exact x_lretR S hlocks hr (by unfold xfrac; first | (rw [if_pos c_33]; exact (nI_l (Nat.lt_of_le_of_lt (Nat.div_le_self _ _) ha)).symm) | (rw [if_neg c_33]; exact (nI_l (Nat.lt_of_le_of_lt (Nat.div_le_self _ _) hb9)).symm)) dX9_lowest_47
    · refine lv_lload_n hx hb dX9_lowest_36 rfl (lv_at hl 2 rfl) ?_
      refine lv_lload hx hb dX9_lowest_37 (lv_at hl 1 rfl) ?_
      refine lv_ldiv hx hb dX9_lowest_39 (fun q => absurd ((lN_eq (b := 0) (by omega) (by omega)).mp q) (by omega)) ?_
      refine x_topL S (y := lN (a / Nat.gcd a b)) (pk_lDiv (by omega) hgp (by omega)) ?_
      refine lv_goto (tgt := 47) hx hb dX9_lowest_40 (by decide) ?_
      exact x_lretR S hlocks hr (by unfold xfrac; first | (rw [if_pos c_33]; exact (nI_l (Nat.lt_of_le_of_lt (Nat.div_le_self _ _) ha)).symm) | (rw [if_neg c_33]; exact (nI_l (Nat.lt_of_le_of_lt (Nat.div_le_self _ _) hb9)).symm)) dX9_lowest_47
  · have hq0 : 0 < q9 := by
      rcases Nat.eq_zero_or_pos q9 with q | q
      · exact absurd ((lg_cmp_eq _ _).mpr (by rw [q]; rfl)) c_10
      · exact q
    have hml9 : p9 % q9 < q9 := Nat.mod_lt _ hq0
    refine lv_lload hx hb dX9_lowest_13 (lv_at hl 1 rfl) ?_
    refine lv_lload hx hb dX9_lowest_15 (lv_at hl 0 rfl) ?_
    refine lv_lrem hx hb dX9_lowest_17 (fun q => absurd ((lN_eq (b := 0) (by omega) (by omega)).mp q) (by omega)) ?_
    refine x_topL S (y := lN (p9 % q9)) (pk_lRem (by omega) hq0 (by omega)) ?_
    refine lv_lstore (lv' := [(9, .long (lN (p9 % q9))), (7, .long (lN q9)), (5, .long (lN p9)), (0, .long (lN a)), (2, .long (lN b)), (4, .int x)]) hx hb dX9_lowest_18 hl (by decide) rfl (fun ls hl => ?_)
    refine lv_lload hx hb dX9_lowest_20 (lv_at hl 1 rfl) ?_
    refine lv_lstore (lv' := [(5, .long (lN q9)), (9, .long (lN (p9 % q9))), (7, .long (lN q9)), (0, .long (lN a)), (2, .long (lN b)), (4, .int x)]) hx hb dX9_lowest_22 hl (by decide) rfl (fun ls hl => ?_)
    refine lv_lload hx hb dX9_lowest_24 (lv_at hl 1 rfl) ?_
    refine lv_lstore (lv' := [(7, .long (lN (p9 % q9))), (5, .long (lN q9)), (9, .long (lN (p9 % q9))), (0, .long (lN a)), (2, .long (lN b)), (4, .int x)]) hx hb dX9_lowest_26 hl (by decide) rfl (fun ls hl => ?_)
    refine lv_goto (tgt := 6) hx hb dX9_lowest_28 (by decide) ?_
    exact ih_6 (⟨q9, p9 % q9⟩) ls ⟨hq, (by omega), xgcd_step hg hq0, Or.inl hq0, lv_sub hl [0, 1, 3, 4, 5] rfl⟩ (by (try dsimp only); omega)
set_option maxHeartbeats 4000000 in
set_option maxRecDepth 100000 in
theorem c_X9_hull (l : Launch) {D : va_G} {K : Nat → ClassId} {α : Nat → Nat} (σ : Nat → Nat → Int32) (hI : xw_I 20 α) (x0 : Int32) (x1 : Int32) (x2 : Int32)  : Met l yX9_hull wsX9_hull (xrm 2) (va_Pc [.ref (α 0), .int x0, .int x1, .int x2] (xPre D K 20 α (xM α K) σ)) (xQi D 20 α (xM α K) (fun r τ => r = xp_tr 1 2 σ x0 x1 x2 ∧ τ = xst_tr 1 2 σ x0 x1 x2)) 0 0 (xw_R 20 α) := by
  refine Met.ofW (cc := cX9_hull) (maxL := 5) (ret := (some .int)) (by decide) rfl ?_
  intro p e s m args below meth c s₁ B hml hv
  obtain ⟨rfl, hK, hP⟩ := hv
  have S : CallFix p m c cX9_hull 5 s _ wsX9_hull RX9 := ⟨B.exec, B.bytes, hml, findClass_of_methodNamed B.named, atoms_spec (ws := wsX9_hull) B.pre⟩
  have hx := S.1
  have hb := S.2.1
  have hr := B.returns
  have hlocks := B.notSynchronized
  have hS : va_S (xw_R 20 α) s.heap s.heap [] := va_S.rf
  have hl := lv_entry ([.ref (α 0), .int x0, .int x1, .int x2]) (n := 5) (Nat.le_of_ble_eq_true rfl)
  rw [lg_entry_eq]
  generalize (lg_sl ([.ref (α 0), .int x0, .int x1, .int x2]) ++ List.replicate (5 - (lg_sl ([.ref (α 0), .int x0, .int x1, .int x2])).length) Slot.unset).toArray = ls at hl ⊢
  have hl : lv_has ls 5 [(0, .ref (α 0)), (1, .int x0), (2, .int x1), (3, .int x2)] := hl
  have hPP := hP
  refine lv_iload_n hx hb dX9_hull_0 rfl (lv_at hl 1 rfl) ?_
  refine x_cSi (As := [.int x0]) (rest := []) S (c_X9_isSix l x0  ) (x_cwS (n0 := 1) S gX9_hull_X9_isSix rfl (by decide +kernel) ⟨Nat.le_of_ble_eq_true rfl, Nat.le_of_ble_eq_true rfl⟩) rfl hl.1 rfl (Nat.le_of_ble_eq_true rfl) dX9_hull_1 ⟨Nat.le_refl _, Nat.le_refl _⟩ (fun r_1 hr_1 => ?_)
  subst hr_1
  refine x_if_eqB (tgt := 28) S dX9_hull_4 (by decide) (fun c_4 => ?_) (fun c_4 => ?_)
  · refine lv_bipush (v := (-2)) hx hb dX9_hull_28 (by decide) ?_
    exact x_iretW S hlocks hP hS hr rfl (by first | exact ⟨by rw [xp_tr, if_neg (fun q => c_4 q.1)], by rw [xst_tr, if_neg (fun q => c_4 q.1)]⟩ | exact ⟨by rw [xp_tr, if_neg (fun q => c_13 q.2.1)], by rw [xst_tr, if_neg (fun q => c_13 q.2.1)]⟩ | exact ⟨by rw [xp_tr, if_neg (fun q => c_25 ((xtr2 c_13).mpr q.2.2))], by rw [xst_tr, if_neg (fun q => c_25 ((xtr2 c_13).mpr q.2.2))]⟩) dX9_hull_30
  · refine lv_iload_n hx hb dX9_hull_7 rfl (lv_at hl 2 rfl) ?_
    refine lv_iconst (v := nI 0) hx hb dX9_hull_8 (by decide) ?_
    refine lv_iconst (v := nI 1) hx hb dX9_hull_9 (by decide) ?_
    refine x_cSi (As := [.int x1, .int (nI 0), .int (nI 1)]) (rest := []) S (c_X9_in0 l x1 1  (by first | assumption | omega)) (x_cwS (n0 := 3) S gX9_hull_X9_in rfl (by decide +kernel) ⟨Nat.le_of_ble_eq_true rfl, Nat.le_of_ble_eq_true rfl⟩) rfl hl.1 rfl (Nat.le_of_ble_eq_true rfl) dX9_hull_10 ⟨Nat.le_refl _, Nat.le_refl _⟩ (fun r_10 hr_10 => ?_)
    subst hr_10
    refine x_if_eqB (tgt := 28) S dX9_hull_13 (by decide) (fun c_13 => ?_) (fun c_13 => ?_)
    · refine lv_bipush (v := (-2)) hx hb dX9_hull_28 (by decide) ?_
      exact x_iretW S hlocks hP hS hr rfl (by first | exact ⟨by rw [xp_tr, if_neg (fun q => c_4 q.1)], by rw [xst_tr, if_neg (fun q => c_4 q.1)]⟩ | exact ⟨by rw [xp_tr, if_neg (fun q => c_13 q.2.1)], by rw [xst_tr, if_neg (fun q => c_13 q.2.1)]⟩ | exact ⟨by rw [xp_tr, if_neg (fun q => c_25 ((xtr2 c_13).mpr q.2.2))], by rw [xst_tr, if_neg (fun q => c_25 ((xtr2 c_13).mpr q.2.2))]⟩) dX9_hull_30
    · refine lv_iload_n hx hb dX9_hull_16 rfl (lv_at hl 3 rfl) ?_
      refine lv_iconst (v := nI 1) hx hb dX9_hull_17 (by decide) ?_
      refine lv_iload_n hx hb dX9_hull_18 rfl (lv_at hl 2 rfl) ?_
      refine lv_isub hx hb dX9_hull_19 ?_
      refine lv_bipush (v := nI 9) hx hb dX9_hull_20 (by decide) ?_
      refine x_cSi (As := [.int x2, .int ((nI 1) - x1), .int (nI 9)]) (rest := []) S (c_X9_in l x2 ((nI 1) - x1) (nI 9)  ) (x_cwS (n0 := 3) S gX9_hull_X9_in rfl (by decide +kernel) ⟨Nat.le_of_ble_eq_true rfl, Nat.le_of_ble_eq_true rfl⟩) rfl hl.1 rfl (Nat.le_of_ble_eq_true rfl) dX9_hull_22 ⟨Nat.le_refl _, Nat.le_refl _⟩ (fun r_22 hr_22 => ?_)
      subst hr_22
      refine x_if_neB (tgt := 31) S dX9_hull_25 (by decide) (fun c_25 => ?_) (fun c_25 => ?_)
      · obtain ⟨h, hh, rfl⟩ := xin_of c_4 (by omega)
        obtain ⟨w, hw, rfl⟩ := xin_of c_13 (by omega)
        rcases (show w = 0 ∨ w = 1 by omega) with rfl | rfl
        · skip
          refine lv_iload_n hx hb dX9_hull_31 rfl (lv_at hl 2 rfl) ?_
          refine x_ifN_ne (tgt := 44) S dX9_hull_32 (by decide) (by omega) (fun q => absurd q (by omega)) (fun _ => ?_)
          refine lv_aload_n hx hb dX9_hull_35 rfl (lv_at hl 0 rfl) ?_
          refine x_get S (fun w h => List.mem_cons_of_mem _ (List.mem_append_right _ h)) hK hP 0 (by omega) rfl rfl 0 (by decide) (List.mem_of_getElem? (i := 1) rfl) rfl dX9_hull_36 ?_
          refine lv_iload_n hx hb dX9_hull_39 rfl (lv_at hl 1 rfl) ?_
          refine x_iald S hK hP 1 (by omega) rfl (by first | assumption | omega) (by omega) dX9_hull_40 ?_
          refine lv_goto (tgt := 50) hx hb dX9_hull_41 (by decide) ?_
          refine lv_istore (lv' := [(4, .int (σ 1 h)), (0, .ref (α 0)), (1, .int (nI h)), (2, .int (nI 0)), (3, .int x2)]) hx hb dX9_hull_50 hl (by decide) rfl (fun ls hl => ?_)
          refine lv_iload_n hx hb dX9_hull_52 rfl (lv_at hl 3 rfl) ?_
          refine x_ifN_ne (tgt := 66) S dX9_hull_53 (by decide) (by omega) (fun q => absurd q (by omega)) (fun _ => ?_)
          refine lv_aload_n hx hb dX9_hull_56 rfl (lv_at hl 1 rfl) ?_
          refine x_get S (fun w h => List.mem_cons_of_mem _ (List.mem_append_right _ h)) hK hP 0 (by omega) rfl rfl 0 (by decide) (List.mem_of_getElem? (i := 1) rfl) rfl dX9_hull_57 ?_
          refine lv_iload_n hx hb dX9_hull_60 rfl (lv_at hl 2 rfl) ?_
          refine lv_iload_n hx hb dX9_hull_61 rfl (lv_at hl 4 rfl) ?_
          refine x_iast S hK hP hI hS 1 (by omega) (fun _ => rfl) (by first | assumption | omega) (by omega) dX9_hull_62 (fun H locs hP hS => ?_)
          refine lv_goto (tgt := 73) hx hb dX9_hull_63 (by decide) ?_
          refine lv_iload hx hb dX9_hull_73 (lv_at hl 0 rfl) ?_
          have htr := (xtr2 (xin_nI (by decide) (by decide))).mp c_25
          exact x_iretW S hlocks hP hS hr rfl (⟨by rw [xp_tr, if_pos ⟨xin_nI (by omega) (by omega), xin_nI (by omega) (by omega), htr⟩, cN_nI (by omega), cN_nI (by omega)] <;> rfl, by rw [xst_tr, if_pos ⟨xin_nI (by omega) (by omega), xin_nI (by omega) (by omega), htr⟩, cN_nI (by omega), cN_nI (by omega)] <;> rfl⟩) dX9_hull_75
        · skip
          refine lv_iload_n hx hb dX9_hull_31 rfl (lv_at hl 2 rfl) ?_
          refine x_ifN_ne (tgt := 44) S dX9_hull_32 (by decide) (by omega) (fun _ => ?_) (fun q => absurd q (by omega))
          refine lv_aload_n hx hb dX9_hull_44 rfl (lv_at hl 0 rfl) ?_
          refine x_get S (fun w h => List.mem_cons_of_mem _ (List.mem_append_right _ h)) hK hP 0 (by omega) rfl rfl 1 (by decide) (List.mem_of_getElem? (i := 2) rfl) rfl dX9_hull_45 ?_
          refine lv_iload_n hx hb dX9_hull_48 rfl (lv_at hl 1 rfl) ?_
          refine x_iald S hK hP 2 (by omega) rfl (by first | assumption | omega) (by omega) dX9_hull_49 ?_
          refine lv_istore (lv' := [(4, .int (σ 2 h)), (0, .ref (α 0)), (1, .int (nI h)), (2, .int (nI 1)), (3, .int x2)]) hx hb dX9_hull_50 hl (by decide) rfl (fun ls hl => ?_)
          refine lv_iload_n hx hb dX9_hull_52 rfl (lv_at hl 3 rfl) ?_
          refine x_ifN_ne (tgt := 66) S dX9_hull_53 (by decide) (by omega) (fun _ => ?_) (fun q => absurd q (by omega))
          refine lv_aload_n hx hb dX9_hull_66 rfl (lv_at hl 1 rfl) ?_
          refine x_get S (fun w h => List.mem_cons_of_mem _ (List.mem_append_right _ h)) hK hP 0 (by omega) rfl rfl 1 (by decide) (List.mem_of_getElem? (i := 2) rfl) rfl dX9_hull_67 ?_
          refine lv_iload_n hx hb dX9_hull_70 rfl (lv_at hl 2 rfl) ?_
          refine lv_iload_n hx hb dX9_hull_71 rfl (lv_at hl 4 rfl) ?_
          refine x_iast S hK hP hI hS 2 (by omega) (fun _ => rfl) (by first | assumption | omega) (by omega) dX9_hull_72 (fun H locs hP hS => ?_)
          refine lv_iload hx hb dX9_hull_73 (lv_at hl 0 rfl) ?_
          have htr := (xtr2 (xin_nI (by decide) (by decide))).mp c_25
          exact x_iretW S hlocks hP hS hr rfl (⟨by rw [xp_tr, if_pos ⟨xin_nI (by omega) (by omega), xin_nI (by omega) (by omega), htr⟩, cN_nI (by omega), cN_nI (by omega)] <;> rfl, by rw [xst_tr, if_pos ⟨xin_nI (by omega) (by omega), xin_nI (by omega) (by omega), htr⟩, cN_nI (by omega), cN_nI (by omega)] <;> rfl⟩) dX9_hull_75
      · refine lv_bipush (v := (-2)) hx hb dX9_hull_28 (by decide) ?_
        exact x_iretW S hlocks hP hS hr rfl (by first | exact ⟨by rw [xp_tr, if_neg (fun q => c_4 q.1)], by rw [xst_tr, if_neg (fun q => c_4 q.1)]⟩ | exact ⟨by rw [xp_tr, if_neg (fun q => c_13 q.2.1)], by rw [xst_tr, if_neg (fun q => c_13 q.2.1)]⟩ | exact ⟨by rw [xp_tr, if_neg (fun q => c_25 ((xtr2 c_13).mpr q.2.2))], by rw [xst_tr, if_neg (fun q => c_25 ((xtr2 c_13).mpr q.2.2))]⟩) dX9_hull_30
set_option maxHeartbeats 4000000 in
set_option maxRecDepth 100000 in
theorem c_X9_name (l : Launch) {D : va_G} {K : Nat → ClassId} {α : Nat → Nat} (σ : Nat → Nat → Int32) (hI : xw_I 20 α) (x0 : Int32) (x1 : Int32) (x2 : Int32)  : Met l yX9_name wsX9_name (xrm 2) (va_Pc [.ref (α 0), .int x0, .int x1, .int x2] (xPre D K 20 α (xM α K) σ)) (xQi D 20 α (xM α K) (fun r τ => r = xp_tr 3 3 σ x0 x1 x2 ∧ τ = xst_tr 3 3 σ x0 x1 x2)) 0 0 (xw_R 20 α) := by
  refine Met.ofW (cc := cX9_name) (maxL := 5) (ret := (some .int)) (by decide) rfl ?_
  intro p e s m args below meth c s₁ B hml hv
  obtain ⟨rfl, hK, hP⟩ := hv
  have S : CallFix p m c cX9_name 5 s _ wsX9_name RX9 := ⟨B.exec, B.bytes, hml, findClass_of_methodNamed B.named, atoms_spec (ws := wsX9_name) B.pre⟩
  have hx := S.1
  have hb := S.2.1
  have hr := B.returns
  have hlocks := B.notSynchronized
  have hS : va_S (xw_R 20 α) s.heap s.heap [] := va_S.rf
  have hl := lv_entry ([.ref (α 0), .int x0, .int x1, .int x2]) (n := 5) (Nat.le_of_ble_eq_true rfl)
  rw [lg_entry_eq]
  generalize (lg_sl ([.ref (α 0), .int x0, .int x1, .int x2]) ++ List.replicate (5 - (lg_sl ([.ref (α 0), .int x0, .int x1, .int x2])).length) Slot.unset).toArray = ls at hl ⊢
  have hl : lv_has ls 5 [(0, .ref (α 0)), (1, .int x0), (2, .int x1), (3, .int x2)] := hl
  have hPP := hP
  refine lv_iload_n hx hb dX9_name_0 rfl (lv_at hl 1 rfl) ?_
  refine x_cSi (As := [.int x0]) (rest := []) S (c_X9_isSix l x0  ) (x_cwS (n0 := 1) S gX9_name_X9_isSix rfl (by decide +kernel) ⟨Nat.le_of_ble_eq_true rfl, Nat.le_of_ble_eq_true rfl⟩) rfl hl.1 rfl (Nat.le_of_ble_eq_true rfl) dX9_name_1 ⟨Nat.le_refl _, Nat.le_refl _⟩ (fun r_1 hr_1 => ?_)
  subst hr_1
  refine x_if_eqB (tgt := 34) S dX9_name_4 (by decide) (fun c_4 => ?_) (fun c_4 => ?_)
  · refine lv_bipush (v := (-2)) hx hb dX9_name_34 (by decide) ?_
    exact x_iretW S hlocks hP hS hr rfl (by first | exact ⟨by rw [xp_tr, if_neg (fun q => c_4 q.1)], by rw [xst_tr, if_neg (fun q => c_4 q.1)]⟩ | exact ⟨by rw [xp_tr, if_neg (fun q => c_13 q.2.1)], by rw [xst_tr, if_neg (fun q => c_13 q.2.1)]⟩ | exact ⟨by rw [xp_tr, if_neg (fun q => by have h := q.2.2; rw [if_pos c_18] at h; exact c_31 h)], by rw [xst_tr, if_neg (fun q => by have h := q.2.2; rw [if_pos c_18] at h; exact c_31 h)]⟩ | exact ⟨by rw [xp_tr, if_neg (fun q => by have h := q.2.2; rw [if_neg c_18] at h; exact c_31 h)], by rw [xst_tr, if_neg (fun q => by have h := q.2.2; rw [if_neg c_18] at h; exact c_31 h)]⟩) dX9_name_36
  · refine lv_iload_n hx hb dX9_name_7 rfl (lv_at hl 2 rfl) ?_
    refine lv_iconst (v := nI 0) hx hb dX9_name_8 (by decide) ?_
    refine lv_iconst (v := nI 2) hx hb dX9_name_9 (by decide) ?_
    refine x_cSi (As := [.int x1, .int (nI 0), .int (nI 2)]) (rest := []) S (c_X9_in0 l x1 2  (by first | assumption | omega)) (x_cwS (n0 := 3) S gX9_name_X9_in rfl (by decide +kernel) ⟨Nat.le_of_ble_eq_true rfl, Nat.le_of_ble_eq_true rfl⟩) rfl hl.1 rfl (Nat.le_of_ble_eq_true rfl) dX9_name_10 ⟨Nat.le_refl _, Nat.le_refl _⟩ (fun r_10 hr_10 => ?_)
    subst hr_10
    refine x_if_eqB (tgt := 34) S dX9_name_13 (by decide) (fun c_13 => ?_) (fun c_13 => ?_)
    · refine lv_bipush (v := (-2)) hx hb dX9_name_34 (by decide) ?_
      exact x_iretW S hlocks hP hS hr rfl (by first | exact ⟨by rw [xp_tr, if_neg (fun q => c_4 q.1)], by rw [xst_tr, if_neg (fun q => c_4 q.1)]⟩ | exact ⟨by rw [xp_tr, if_neg (fun q => c_13 q.2.1)], by rw [xst_tr, if_neg (fun q => c_13 q.2.1)]⟩ | exact ⟨by rw [xp_tr, if_neg (fun q => by have h := q.2.2; rw [if_pos c_18] at h; exact c_31 h)], by rw [xst_tr, if_neg (fun q => by have h := q.2.2; rw [if_pos c_18] at h; exact c_31 h)]⟩ | exact ⟨by rw [xp_tr, if_neg (fun q => by have h := q.2.2; rw [if_neg c_18] at h; exact c_31 h)], by rw [xst_tr, if_neg (fun q => by have h := q.2.2; rw [if_neg c_18] at h; exact c_31 h)]⟩) dX9_name_36
    · refine lv_iload_n hx hb dX9_name_16 rfl (lv_at hl 3 rfl) ?_
      refine lv_iload_n hx hb dX9_name_17 rfl (lv_at hl 2 rfl) ?_
      refine lv_if_ne (tgt := 25) hx hb dX9_name_18 (by decide) (fun c_18 => ?_) (fun c_18 => ?_)
      · refine lv_iconst (v := nI 0) hx hb dX9_name_25 (by decide) ?_
        refine lv_bipush (v := nI 9) hx hb dX9_name_26 (by decide) ?_
        refine x_cSi (As := [.int x2, .int (nI 0), .int (nI 9)]) (rest := []) S (c_X9_in l x2 (nI 0) (nI 9)  ) (x_cwS (n0 := 3) S gX9_name_X9_in rfl (by decide +kernel) ⟨Nat.le_of_ble_eq_true rfl, Nat.le_of_ble_eq_true rfl⟩) rfl hl.1 rfl (Nat.le_of_ble_eq_true rfl) dX9_name_28 ⟨Nat.le_refl _, Nat.le_refl _⟩ (fun r_28 hr_28 => ?_)
        subst hr_28
        refine x_if_neB (tgt := 37) S dX9_name_31 (by decide) (fun c_31 => ?_) (fun c_31 => ?_)
        · have htr : (if x1 = 0 then (1 : Int32) else 0) ≤ x2 ∧ x2 ≤ 9 := by
            first | (rw [if_pos c_18]; exact c_31) | (rw [if_neg c_18]; exact c_31)
          obtain ⟨h, hh, rfl⟩ := xin_of c_4 (by omega)
          obtain ⟨w, hw, rfl⟩ := xin_of c_13 (by omega)
          rcases (show w = 0 ∨ w = 1 ∨ w = 2 by omega) with rfl | rfl | rfl
          · skip
            refine lv_iload_n hx hb dX9_name_37 rfl (lv_at hl 2 rfl) ?_
            refine x_ifN_ne (tgt := 50) S dX9_name_38 (by decide) (by omega) (fun q => absurd q (by omega)) (fun _ => ?_)
            refine lv_aload_n hx hb dX9_name_41 rfl (lv_at hl 0 rfl) ?_
            refine x_get S (fun w h => List.mem_cons_of_mem _ (List.mem_append_right _ h)) hK hP 0 (by omega) rfl rfl 2 (by decide) (List.mem_of_getElem? (i := 1) rfl) rfl dX9_name_42 ?_
            refine lv_iload_n hx hb dX9_name_45 rfl (lv_at hl 1 rfl) ?_
            refine x_iald S hK hP 3 (by omega) rfl (by first | assumption | omega) (by omega) dX9_name_46 ?_
            refine lv_goto (tgt := 70) hx hb dX9_name_47 (by decide) ?_
            refine lv_istore (lv' := [(4, .int (σ 3 h)), (0, .ref (α 0)), (1, .int (nI h)), (2, .int (nI 0)), (3, .int x2)]) hx hb dX9_name_70 hl (by decide) rfl (fun ls hl => ?_)
            refine lv_iload_n hx hb dX9_name_72 rfl (lv_at hl 3 rfl) ?_
            refine x_ifN_ne (tgt := 86) S dX9_name_73 (by decide) (by omega) (fun q => absurd q (by omega)) (fun _ => ?_)
            refine lv_aload_n hx hb dX9_name_76 rfl (lv_at hl 1 rfl) ?_
            refine x_get S (fun w h => List.mem_cons_of_mem _ (List.mem_append_right _ h)) hK hP 0 (by omega) rfl rfl 2 (by decide) (List.mem_of_getElem? (i := 1) rfl) rfl dX9_name_77 ?_
            refine lv_iload_n hx hb dX9_name_80 rfl (lv_at hl 2 rfl) ?_
            refine lv_iload_n hx hb dX9_name_81 rfl (lv_at hl 4 rfl) ?_
            refine x_iast S hK hP hI hS 3 (by omega) (fun _ => rfl) (by first | assumption | omega) (by omega) dX9_name_82 (fun H locs hP hS => ?_)
            refine lv_goto (tgt := 108) hx hb dX9_name_83 (by decide) ?_
            refine lv_iload hx hb dX9_name_108 (lv_at hl 0 rfl) ?_
            exact x_iretW S hlocks hP hS hr rfl (⟨by rw [xp_tr, if_pos ⟨xin_nI (by omega) (by omega), xin_nI (by omega) (by omega), htr⟩, cN_nI (by omega), cN_nI (by omega)] <;> rfl, by rw [xst_tr, if_pos ⟨xin_nI (by omega) (by omega), xin_nI (by omega) (by omega), htr⟩, cN_nI (by omega), cN_nI (by omega)] <;> rfl⟩) dX9_name_110
          · skip
            refine lv_iload_n hx hb dX9_name_37 rfl (lv_at hl 2 rfl) ?_
            refine x_ifN_ne (tgt := 50) S dX9_name_38 (by decide) (by omega) (fun _ => ?_) (fun q => absurd q (by omega))
            refine lv_iload_n hx hb dX9_name_50 rfl (lv_at hl 2 rfl) ?_
            refine lv_iconst (v := nI 1) hx hb dX9_name_51 (by decide) ?_
            refine x_icmpN_ne (tgt := 64) S dX9_name_52 (by decide) (by omega) (by omega) (fun q => absurd q (by omega)) (fun _ => ?_)
            refine lv_aload_n hx hb dX9_name_55 rfl (lv_at hl 0 rfl) ?_
            refine x_get S (fun w h => List.mem_cons_of_mem _ (List.mem_append_right _ h)) hK hP 0 (by omega) rfl rfl 3 (by decide) (List.mem_of_getElem? (i := 2) rfl) rfl dX9_name_56 ?_
            refine lv_iload_n hx hb dX9_name_59 rfl (lv_at hl 1 rfl) ?_
            refine x_iald S hK hP 4 (by omega) rfl (by first | assumption | omega) (by omega) dX9_name_60 ?_
            refine lv_goto (tgt := 70) hx hb dX9_name_61 (by decide) ?_
            refine lv_istore (lv' := [(4, .int (σ 4 h)), (0, .ref (α 0)), (1, .int (nI h)), (2, .int (nI 1)), (3, .int x2)]) hx hb dX9_name_70 hl (by decide) rfl (fun ls hl => ?_)
            refine lv_iload_n hx hb dX9_name_72 rfl (lv_at hl 3 rfl) ?_
            refine x_ifN_ne (tgt := 86) S dX9_name_73 (by decide) (by omega) (fun _ => ?_) (fun q => absurd q (by omega))
            refine lv_iload_n hx hb dX9_name_86 rfl (lv_at hl 3 rfl) ?_
            refine lv_iconst (v := nI 1) hx hb dX9_name_87 (by decide) ?_
            refine x_icmpN_ne (tgt := 101) S dX9_name_88 (by decide) (by omega) (by omega) (fun q => absurd q (by omega)) (fun _ => ?_)
            refine lv_aload_n hx hb dX9_name_91 rfl (lv_at hl 1 rfl) ?_
            refine x_get S (fun w h => List.mem_cons_of_mem _ (List.mem_append_right _ h)) hK hP 0 (by omega) rfl rfl 3 (by decide) (List.mem_of_getElem? (i := 2) rfl) rfl dX9_name_92 ?_
            refine lv_iload_n hx hb dX9_name_95 rfl (lv_at hl 2 rfl) ?_
            refine lv_iload_n hx hb dX9_name_96 rfl (lv_at hl 4 rfl) ?_
            refine x_iast S hK hP hI hS 4 (by omega) (fun _ => rfl) (by first | assumption | omega) (by omega) dX9_name_97 (fun H locs hP hS => ?_)
            refine lv_goto (tgt := 108) hx hb dX9_name_98 (by decide) ?_
            refine lv_iload hx hb dX9_name_108 (lv_at hl 0 rfl) ?_
            exact x_iretW S hlocks hP hS hr rfl (⟨by rw [xp_tr, if_pos ⟨xin_nI (by omega) (by omega), xin_nI (by omega) (by omega), htr⟩, cN_nI (by omega), cN_nI (by omega)] <;> rfl, by rw [xst_tr, if_pos ⟨xin_nI (by omega) (by omega), xin_nI (by omega) (by omega), htr⟩, cN_nI (by omega), cN_nI (by omega)] <;> rfl⟩) dX9_name_110
          · skip
            refine lv_iload_n hx hb dX9_name_37 rfl (lv_at hl 2 rfl) ?_
            refine x_ifN_ne (tgt := 50) S dX9_name_38 (by decide) (by omega) (fun _ => ?_) (fun q => absurd q (by omega))
            refine lv_iload_n hx hb dX9_name_50 rfl (lv_at hl 2 rfl) ?_
            refine lv_iconst (v := nI 1) hx hb dX9_name_51 (by decide) ?_
            refine x_icmpN_ne (tgt := 64) S dX9_name_52 (by decide) (by omega) (by omega) (fun _ => ?_) (fun q => absurd q (by omega))
            refine lv_aload_n hx hb dX9_name_64 rfl (lv_at hl 0 rfl) ?_
            refine x_get S (fun w h => List.mem_cons_of_mem _ (List.mem_append_right _ h)) hK hP 0 (by omega) rfl rfl 4 (by decide) (List.mem_of_getElem? (i := 3) rfl) rfl dX9_name_65 ?_
            refine lv_iload_n hx hb dX9_name_68 rfl (lv_at hl 1 rfl) ?_
            refine x_iald S hK hP 5 (by omega) rfl (by first | assumption | omega) (by omega) dX9_name_69 ?_
            refine lv_istore (lv' := [(4, .int (σ 5 h)), (0, .ref (α 0)), (1, .int (nI h)), (2, .int (nI 2)), (3, .int x2)]) hx hb dX9_name_70 hl (by decide) rfl (fun ls hl => ?_)
            refine lv_iload_n hx hb dX9_name_72 rfl (lv_at hl 3 rfl) ?_
            refine x_ifN_ne (tgt := 86) S dX9_name_73 (by decide) (by omega) (fun _ => ?_) (fun q => absurd q (by omega))
            refine lv_iload_n hx hb dX9_name_86 rfl (lv_at hl 3 rfl) ?_
            refine lv_iconst (v := nI 1) hx hb dX9_name_87 (by decide) ?_
            refine x_icmpN_ne (tgt := 101) S dX9_name_88 (by decide) (by omega) (by omega) (fun _ => ?_) (fun q => absurd q (by omega))
            refine lv_aload_n hx hb dX9_name_101 rfl (lv_at hl 1 rfl) ?_
            refine x_get S (fun w h => List.mem_cons_of_mem _ (List.mem_append_right _ h)) hK hP 0 (by omega) rfl rfl 4 (by decide) (List.mem_of_getElem? (i := 3) rfl) rfl dX9_name_102 ?_
            refine lv_iload_n hx hb dX9_name_105 rfl (lv_at hl 2 rfl) ?_
            refine lv_iload_n hx hb dX9_name_106 rfl (lv_at hl 4 rfl) ?_
            refine x_iast S hK hP hI hS 5 (by omega) (fun _ => rfl) (by first | assumption | omega) (by omega) dX9_name_107 (fun H locs hP hS => ?_)
            refine lv_iload hx hb dX9_name_108 (lv_at hl 0 rfl) ?_
            exact x_iretW S hlocks hP hS hr rfl (⟨by rw [xp_tr, if_pos ⟨xin_nI (by omega) (by omega), xin_nI (by omega) (by omega), htr⟩, cN_nI (by omega), cN_nI (by omega)] <;> rfl, by rw [xst_tr, if_pos ⟨xin_nI (by omega) (by omega), xin_nI (by omega) (by omega), htr⟩, cN_nI (by omega), cN_nI (by omega)] <;> rfl⟩) dX9_name_110
        · refine lv_bipush (v := (-2)) hx hb dX9_name_34 (by decide) ?_
          exact x_iretW S hlocks hP hS hr rfl (by first | exact ⟨by rw [xp_tr, if_neg (fun q => c_4 q.1)], by rw [xst_tr, if_neg (fun q => c_4 q.1)]⟩ | exact ⟨by rw [xp_tr, if_neg (fun q => c_13 q.2.1)], by rw [xst_tr, if_neg (fun q => c_13 q.2.1)]⟩ | exact ⟨by rw [xp_tr, if_neg (fun q => by have h := q.2.2; rw [if_pos c_18] at h; exact c_31 h)], by rw [xst_tr, if_neg (fun q => by have h := q.2.2; rw [if_pos c_18] at h; exact c_31 h)]⟩ | exact ⟨by rw [xp_tr, if_neg (fun q => by have h := q.2.2; rw [if_neg c_18] at h; exact c_31 h)], by rw [xst_tr, if_neg (fun q => by have h := q.2.2; rw [if_neg c_18] at h; exact c_31 h)]⟩) dX9_name_36
      · refine lv_iconst (v := nI 1) hx hb dX9_name_21 (by decide) ?_
        refine lv_goto (tgt := 26) hx hb dX9_name_22 (by decide) ?_
        refine lv_bipush (v := nI 9) hx hb dX9_name_26 (by decide) ?_
        refine x_cSi (As := [.int x2, .int (nI 1), .int (nI 9)]) (rest := []) S (c_X9_in l x2 (nI 1) (nI 9)  ) (x_cwS (n0 := 3) S gX9_name_X9_in rfl (by decide +kernel) ⟨Nat.le_of_ble_eq_true rfl, Nat.le_of_ble_eq_true rfl⟩) rfl hl.1 rfl (Nat.le_of_ble_eq_true rfl) dX9_name_28 ⟨Nat.le_refl _, Nat.le_refl _⟩ (fun r_28 hr_28 => ?_)
        subst hr_28
        refine x_if_neB (tgt := 37) S dX9_name_31 (by decide) (fun c_31 => ?_) (fun c_31 => ?_)
        · have htr : (if x1 = 0 then (1 : Int32) else 0) ≤ x2 ∧ x2 ≤ 9 := by
            first | (rw [if_pos c_18]; exact c_31) | (rw [if_neg c_18]; exact c_31)
          obtain ⟨h, hh, rfl⟩ := xin_of c_4 (by omega)
          obtain ⟨w, hw, rfl⟩ := xin_of c_13 (by omega)
          rcases (show w = 0 ∨ w = 1 ∨ w = 2 by omega) with rfl | rfl | rfl
          · skip
            refine lv_iload_n hx hb dX9_name_37 rfl (lv_at hl 2 rfl) ?_
            refine x_ifN_ne (tgt := 50) S dX9_name_38 (by decide) (by omega) (fun q => absurd q (by omega)) (fun _ => ?_)
            refine lv_aload_n hx hb dX9_name_41 rfl (lv_at hl 0 rfl) ?_
            refine x_get S (fun w h => List.mem_cons_of_mem _ (List.mem_append_right _ h)) hK hP 0 (by omega) rfl rfl 2 (by decide) (List.mem_of_getElem? (i := 1) rfl) rfl dX9_name_42 ?_
            refine lv_iload_n hx hb dX9_name_45 rfl (lv_at hl 1 rfl) ?_
            refine x_iald S hK hP 3 (by omega) rfl (by first | assumption | omega) (by omega) dX9_name_46 ?_
            refine lv_goto (tgt := 70) hx hb dX9_name_47 (by decide) ?_
            refine lv_istore (lv' := [(4, .int (σ 3 h)), (0, .ref (α 0)), (1, .int (nI h)), (2, .int (nI 0)), (3, .int x2)]) hx hb dX9_name_70 hl (by decide) rfl (fun ls hl => ?_)
            refine lv_iload_n hx hb dX9_name_72 rfl (lv_at hl 3 rfl) ?_
            refine x_ifN_ne (tgt := 86) S dX9_name_73 (by decide) (by omega) (fun q => absurd q (by omega)) (fun _ => ?_)
            refine lv_aload_n hx hb dX9_name_76 rfl (lv_at hl 1 rfl) ?_
            refine x_get S (fun w h => List.mem_cons_of_mem _ (List.mem_append_right _ h)) hK hP 0 (by omega) rfl rfl 2 (by decide) (List.mem_of_getElem? (i := 1) rfl) rfl dX9_name_77 ?_
            refine lv_iload_n hx hb dX9_name_80 rfl (lv_at hl 2 rfl) ?_
            refine lv_iload_n hx hb dX9_name_81 rfl (lv_at hl 4 rfl) ?_
            refine x_iast S hK hP hI hS 3 (by omega) (fun _ => rfl) (by first | assumption | omega) (by omega) dX9_name_82 (fun H locs hP hS => ?_)
            refine lv_goto (tgt := 108) hx hb dX9_name_83 (by decide) ?_
            refine lv_iload hx hb dX9_name_108 (lv_at hl 0 rfl) ?_
            exact x_iretW S hlocks hP hS hr rfl (⟨by rw [xp_tr, if_pos ⟨xin_nI (by omega) (by omega), xin_nI (by omega) (by omega), htr⟩, cN_nI (by omega), cN_nI (by omega)] <;> rfl, by rw [xst_tr, if_pos ⟨xin_nI (by omega) (by omega), xin_nI (by omega) (by omega), htr⟩, cN_nI (by omega), cN_nI (by omega)] <;> rfl⟩) dX9_name_110
          · skip
            refine lv_iload_n hx hb dX9_name_37 rfl (lv_at hl 2 rfl) ?_
            refine x_ifN_ne (tgt := 50) S dX9_name_38 (by decide) (by omega) (fun _ => ?_) (fun q => absurd q (by omega))
            refine lv_iload_n hx hb dX9_name_50 rfl (lv_at hl 2 rfl) ?_
            refine lv_iconst (v := nI 1) hx hb dX9_name_51 (by decide) ?_
            refine x_icmpN_ne (tgt := 64) S dX9_name_52 (by decide) (by omega) (by omega) (fun q => absurd q (by omega)) (fun _ => ?_)
            refine lv_aload_n hx hb dX9_name_55 rfl (lv_at hl 0 rfl) ?_
            refine x_get S (fun w h => List.mem_cons_of_mem _ (List.mem_append_right _ h)) hK hP 0 (by omega) rfl rfl 3 (by decide) (List.mem_of_getElem? (i := 2) rfl) rfl dX9_name_56 ?_
            refine lv_iload_n hx hb dX9_name_59 rfl (lv_at hl 1 rfl) ?_
            refine x_iald S hK hP 4 (by omega) rfl (by first | assumption | omega) (by omega) dX9_name_60 ?_
            refine lv_goto (tgt := 70) hx hb dX9_name_61 (by decide) ?_
            refine lv_istore (lv' := [(4, .int (σ 4 h)), (0, .ref (α 0)), (1, .int (nI h)), (2, .int (nI 1)), (3, .int x2)]) hx hb dX9_name_70 hl (by decide) rfl (fun ls hl => ?_)
            refine lv_iload_n hx hb dX9_name_72 rfl (lv_at hl 3 rfl) ?_
            refine x_ifN_ne (tgt := 86) S dX9_name_73 (by decide) (by omega) (fun _ => ?_) (fun q => absurd q (by omega))
            refine lv_iload_n hx hb dX9_name_86 rfl (lv_at hl 3 rfl) ?_
            refine lv_iconst (v := nI 1) hx hb dX9_name_87 (by decide) ?_
            refine x_icmpN_ne (tgt := 101) S dX9_name_88 (by decide) (by omega) (by omega) (fun q => absurd q (by omega)) (fun _ => ?_)
            refine lv_aload_n hx hb dX9_name_91 rfl (lv_at hl 1 rfl) ?_
            refine x_get S (fun w h => List.mem_cons_of_mem _ (List.mem_append_right _ h)) hK hP 0 (by omega) rfl rfl 3 (by decide) (List.mem_of_getElem? (i := 2) rfl) rfl dX9_name_92 ?_
            refine lv_iload_n hx hb dX9_name_95 rfl (lv_at hl 2 rfl) ?_
            refine lv_iload_n hx hb dX9_name_96 rfl (lv_at hl 4 rfl) ?_
            refine x_iast S hK hP hI hS 4 (by omega) (fun _ => rfl) (by first | assumption | omega) (by omega) dX9_name_97 (fun H locs hP hS => ?_)
            refine lv_goto (tgt := 108) hx hb dX9_name_98 (by decide) ?_
            refine lv_iload hx hb dX9_name_108 (lv_at hl 0 rfl) ?_
            exact x_iretW S hlocks hP hS hr rfl (⟨by rw [xp_tr, if_pos ⟨xin_nI (by omega) (by omega), xin_nI (by omega) (by omega), htr⟩, cN_nI (by omega), cN_nI (by omega)] <;> rfl, by rw [xst_tr, if_pos ⟨xin_nI (by omega) (by omega), xin_nI (by omega) (by omega), htr⟩, cN_nI (by omega), cN_nI (by omega)] <;> rfl⟩) dX9_name_110
          · skip
            refine lv_iload_n hx hb dX9_name_37 rfl (lv_at hl 2 rfl) ?_
            refine x_ifN_ne (tgt := 50) S dX9_name_38 (by decide) (by omega) (fun _ => ?_) (fun q => absurd q (by omega))
            refine lv_iload_n hx hb dX9_name_50 rfl (lv_at hl 2 rfl) ?_
            refine lv_iconst (v := nI 1) hx hb dX9_name_51 (by decide) ?_
            refine x_icmpN_ne (tgt := 64) S dX9_name_52 (by decide) (by omega) (by omega) (fun _ => ?_) (fun q => absurd q (by omega))
            refine lv_aload_n hx hb dX9_name_64 rfl (lv_at hl 0 rfl) ?_
            refine x_get S (fun w h => List.mem_cons_of_mem _ (List.mem_append_right _ h)) hK hP 0 (by omega) rfl rfl 4 (by decide) (List.mem_of_getElem? (i := 3) rfl) rfl dX9_name_65 ?_
            refine lv_iload_n hx hb dX9_name_68 rfl (lv_at hl 1 rfl) ?_
            refine x_iald S hK hP 5 (by omega) rfl (by first | assumption | omega) (by omega) dX9_name_69 ?_
            refine lv_istore (lv' := [(4, .int (σ 5 h)), (0, .ref (α 0)), (1, .int (nI h)), (2, .int (nI 2)), (3, .int x2)]) hx hb dX9_name_70 hl (by decide) rfl (fun ls hl => ?_)
            refine lv_iload_n hx hb dX9_name_72 rfl (lv_at hl 3 rfl) ?_
            refine x_ifN_ne (tgt := 86) S dX9_name_73 (by decide) (by omega) (fun _ => ?_) (fun q => absurd q (by omega))
            refine lv_iload_n hx hb dX9_name_86 rfl (lv_at hl 3 rfl) ?_
            refine lv_iconst (v := nI 1) hx hb dX9_name_87 (by decide) ?_
            refine x_icmpN_ne (tgt := 101) S dX9_name_88 (by decide) (by omega) (by omega) (fun _ => ?_) (fun q => absurd q (by omega))
            refine lv_aload_n hx hb dX9_name_101 rfl (lv_at hl 1 rfl) ?_
            refine x_get S (fun w h => List.mem_cons_of_mem _ (List.mem_append_right _ h)) hK hP 0 (by omega) rfl rfl 4 (by decide) (List.mem_of_getElem? (i := 3) rfl) rfl dX9_name_102 ?_
            refine lv_iload_n hx hb dX9_name_105 rfl (lv_at hl 2 rfl) ?_
            refine lv_iload_n hx hb dX9_name_106 rfl (lv_at hl 4 rfl) ?_
            refine x_iast S hK hP hI hS 5 (by omega) (fun _ => rfl) (by first | assumption | omega) (by omega) dX9_name_107 (fun H locs hP hS => ?_)
            refine lv_iload hx hb dX9_name_108 (lv_at hl 0 rfl) ?_
            exact x_iretW S hlocks hP hS hr rfl (⟨by rw [xp_tr, if_pos ⟨xin_nI (by omega) (by omega), xin_nI (by omega) (by omega), htr⟩, cN_nI (by omega), cN_nI (by omega)] <;> rfl, by rw [xst_tr, if_pos ⟨xin_nI (by omega) (by omega), xin_nI (by omega) (by omega), htr⟩, cN_nI (by omega), cN_nI (by omega)] <;> rfl⟩) dX9_name_110
        · refine lv_bipush (v := (-2)) hx hb dX9_name_34 (by decide) ?_
          exact x_iretW S hlocks hP hS hr rfl (by first | exact ⟨by rw [xp_tr, if_neg (fun q => c_4 q.1)], by rw [xst_tr, if_neg (fun q => c_4 q.1)]⟩ | exact ⟨by rw [xp_tr, if_neg (fun q => c_13 q.2.1)], by rw [xst_tr, if_neg (fun q => c_13 q.2.1)]⟩ | exact ⟨by rw [xp_tr, if_neg (fun q => by have h := q.2.2; rw [if_pos c_18] at h; exact c_31 h)], by rw [xst_tr, if_neg (fun q => by have h := q.2.2; rw [if_pos c_18] at h; exact c_31 h)]⟩ | exact ⟨by rw [xp_tr, if_neg (fun q => by have h := q.2.2; rw [if_neg c_18] at h; exact c_31 h)], by rw [xst_tr, if_neg (fun q => by have h := q.2.2; rw [if_neg c_18] at h; exact c_31 h)]⟩) dX9_name_36
set_option maxHeartbeats 4000000 in
set_option maxRecDepth 100000 in
theorem c_X9_doesFit (l : Launch) {D : va_G} {K : Nat → ClassId} {α : Nat → Nat} (σ : Nat → Nat → Int32) (h : Nat) (n : Nat)  (hh : h < 6) (hn : n < 6) : Met l yX9_doesFit wsX9_doesFit (xrm 0) (va_Pc [.ref (α 0), .int (nI h), .int (nI n)] (xPre D K 20 α (xM α K) σ)) (vp_Si (fun r => r = xb (xs_fit (xFM σ) h n))) 0 0 (fun _ => False) := by
  refine Met.ofW (cc := cX9_doesFit) (maxL := 3) (ret := (some .boolean)) (by decide) rfl ?_
  intro p e s m args below meth c s₁ B hml hv
  obtain ⟨rfl, hK, hP⟩ := hv
  have S : CallFix p m c cX9_doesFit 3 s _ wsX9_doesFit RX9 := ⟨B.exec, B.bytes, hml, findClass_of_methodNamed B.named, atoms_spec (ws := wsX9_doesFit) B.pre⟩
  have hx := S.1
  have hb := S.2.1
  have hr := B.returns
  have hlocks := B.notSynchronized
  have hl := lv_entry ([.ref (α 0), .int (nI h), .int (nI n)]) (n := 3) (Nat.le_of_ble_eq_true rfl)
  rw [lg_entry_eq]
  generalize (lg_sl ([.ref (α 0), .int (nI h), .int (nI n)]) ++ List.replicate (3 - (lg_sl ([.ref (α 0), .int (nI h), .int (nI n)])).length) Slot.unset).toArray = ls at hl ⊢
  have hl : lv_has ls 3 [(0, .ref (α 0)), (1, .int (nI h)), (2, .int (nI n))] := hl
  have hPP := hP
  refine lv_aload_n hx hb dX9_doesFit_0 rfl (lv_at hl 0 rfl) ?_
  refine x_get S (fun w h => List.mem_cons_of_mem _ (List.mem_append_right _ h)) hK hP 0 (by omega) rfl rfl 0 (by decide) (List.mem_of_getElem? (i := 1) rfl) rfl dX9_doesFit_1 ?_
  refine lv_iload_n hx hb dX9_doesFit_4 rfl (lv_at hl 1 rfl) ?_
  refine x_iald S hK hP 1 (by omega) rfl (by first | assumption | omega) (by omega) dX9_doesFit_5 ?_
  refine lv_aload_n hx hb dX9_doesFit_6 rfl (lv_at hl 0 rfl) ?_
  refine x_get S (fun w h => List.mem_cons_of_mem _ (List.mem_append_right _ h)) hK hP 0 (by omega) rfl rfl 2 (by decide) (List.mem_of_getElem? (i := 2) rfl) rfl dX9_doesFit_7 ?_
  refine lv_iload_n hx hb dX9_doesFit_10 rfl (lv_at hl 2 rfl) ?_
  refine x_iald S hK hP 3 (by omega) rfl (by first | assumption | omega) (by omega) dX9_doesFit_11 ?_
  refine lv_icmp_lt (tgt := 34) hx hb dX9_doesFit_12 (by decide) (fun c_12 => ?_) (fun c_12 => ?_)
  · refine lv_iconst (v := nI 0) hx hb dX9_doesFit_34 (by decide) ?_
    exact x_iretR S hlocks hr rfl (by first | exact (xb_f (fun h => xnlt h.2 c_27)).symm | exact (xb_f (fun h => xnlt h.1 c_12)).symm) dX9_doesFit_35
  · refine lv_aload_n hx hb dX9_doesFit_15 rfl (lv_at hl 0 rfl) ?_
    refine x_get S (fun w h => List.mem_cons_of_mem _ (List.mem_append_right _ h)) hK hP 0 (by omega) rfl rfl 1 (by decide) (List.mem_of_getElem? (i := 3) rfl) rfl dX9_doesFit_16 ?_
    refine lv_iload_n hx hb dX9_doesFit_19 rfl (lv_at hl 1 rfl) ?_
    refine x_iald S hK hP 2 (by omega) rfl (by first | assumption | omega) (by omega) dX9_doesFit_20 ?_
    refine lv_aload_n hx hb dX9_doesFit_21 rfl (lv_at hl 0 rfl) ?_
    refine x_get S (fun w h => List.mem_cons_of_mem _ (List.mem_append_right _ h)) hK hP 0 (by omega) rfl rfl 3 (by decide) (List.mem_of_getElem? (i := 4) rfl) rfl dX9_doesFit_22 ?_
    refine lv_iload_n hx hb dX9_doesFit_25 rfl (lv_at hl 2 rfl) ?_
    refine x_iald S hK hP 4 (by omega) rfl (by first | assumption | omega) (by omega) dX9_doesFit_26 ?_
    refine lv_icmp_lt (tgt := 34) hx hb dX9_doesFit_27 (by decide) (fun c_27 => ?_) (fun c_27 => ?_)
    · refine lv_iconst (v := nI 0) hx hb dX9_doesFit_34 (by decide) ?_
      exact x_iretR S hlocks hr rfl (by first | exact (xb_f (fun h => xnlt h.2 c_27)).symm | exact (xb_f (fun h => xnlt h.1 c_12)).symm) dX9_doesFit_35
    · refine lv_iconst (v := nI 1) hx hb dX9_doesFit_30 (by decide) ?_
      refine lv_goto (tgt := 35) hx hb dX9_doesFit_31 (by decide) ?_
      exact x_iretR S hlocks hr rfl ((xb_t ⟨xlt c_12, xlt c_27⟩).symm) dX9_doesFit_35
set_option maxHeartbeats 4000000 in
set_option maxRecDepth 100000 in
theorem c_X9_fits (l : Launch) {D : va_G} {K : Nat → ClassId} {α : Nat → Nat} (σ : Nat → Nat → Int32) (x0 : Int32) (x1 : Int32)  : Met l yX9_fits wsX9_fits (xrm 2) (va_Pc [.ref (α 0), .int x0, .int x1] (xPre D K 20 α (xM α K) σ)) (vp_Si (fun r => r = xp_fits (xFM σ) x0 x1)) 0 0 (fun _ => False) := by
  refine Met.ofW (cc := cX9_fits) (maxL := 3) (ret := (some .int)) (by decide) rfl ?_
  intro p e s m args below meth c s₁ B hml hv
  obtain ⟨rfl, hK, hP⟩ := hv
  have S : CallFix p m c cX9_fits 3 s _ wsX9_fits RX9 := ⟨B.exec, B.bytes, hml, findClass_of_methodNamed B.named, atoms_spec (ws := wsX9_fits) B.pre⟩
  have hx := S.1
  have hb := S.2.1
  have hr := B.returns
  have hlocks := B.notSynchronized
  have hl := lv_entry ([.ref (α 0), .int x0, .int x1]) (n := 3) (Nat.le_of_ble_eq_true rfl)
  rw [lg_entry_eq]
  generalize (lg_sl ([.ref (α 0), .int x0, .int x1]) ++ List.replicate (3 - (lg_sl ([.ref (α 0), .int x0, .int x1])).length) Slot.unset).toArray = ls at hl ⊢
  have hl : lv_has ls 3 [(0, .ref (α 0)), (1, .int x0), (2, .int x1)] := hl
  have hPP := hP
  refine lv_iload_n hx hb dX9_fits_0 rfl (lv_at hl 1 rfl) ?_
  refine x_cSi (As := [.int x0]) (rest := []) S (c_X9_isSix l x0  ) (x_cwS (n0 := 1) S gX9_fits_X9_isSix rfl (by decide +kernel) ⟨Nat.le_of_ble_eq_true rfl, Nat.le_of_ble_eq_true rfl⟩) rfl hl.1 rfl (Nat.le_of_ble_eq_true rfl) dX9_fits_1 ⟨Nat.le_refl _, Nat.le_refl _⟩ (fun r_1 hr_1 => ?_)
  subst hr_1
  refine x_if_eqB (tgt := 31) S dX9_fits_4 (by decide) (fun c_4 => ?_) (fun c_4 => ?_)
  · refine lv_bipush (v := (-2)) hx hb dX9_fits_31 (by decide) ?_
    exact x_iretR S hlocks hr rfl (by first | rw [xp_fits, if_neg (fun q => c_4 q.1)] | rw [xp_fits, if_neg (fun q => c_11 q.2)]) dX9_fits_33
  · refine lv_iload_n hx hb dX9_fits_7 rfl (lv_at hl 2 rfl) ?_
    refine x_cSi (As := [.int x1]) (rest := []) S (c_X9_isSix l x1  ) (x_cwS (n0 := 1) S gX9_fits_X9_isSix rfl (by decide +kernel) ⟨Nat.le_of_ble_eq_true rfl, Nat.le_of_ble_eq_true rfl⟩) rfl hl.1 rfl (Nat.le_of_ble_eq_true rfl) dX9_fits_8 ⟨Nat.le_refl _, Nat.le_refl _⟩ (fun r_8 hr_8 => ?_)
    subst hr_8
    refine x_if_eqB (tgt := 31) S dX9_fits_11 (by decide) (fun c_11 => ?_) (fun c_11 => ?_)
    · refine lv_bipush (v := (-2)) hx hb dX9_fits_31 (by decide) ?_
      exact x_iretR S hlocks hr rfl (by first | rw [xp_fits, if_neg (fun q => c_4 q.1)] | rw [xp_fits, if_neg (fun q => c_11 q.2)]) dX9_fits_33
    · obtain ⟨h, hh, rfl⟩ := xin_of c_4 (by omega)
      obtain ⟨n, hn, rfl⟩ := xin_of c_11 (by omega)
      refine lv_aload_n hx hb dX9_fits_14 rfl (lv_at hl 0 rfl) ?_
      refine lv_iload_n hx hb dX9_fits_15 rfl (lv_at hl 1 rfl) ?_
      refine lv_iload_n hx hb dX9_fits_16 rfl (lv_at hl 2 rfl) ?_
      refine x_cVRi (As := [.int (nI h), .int (nI n)]) (rest := []) S hK hP 0 (by omega) rfl rfl (c_X9_doesFit l σ h n  (by first | assumption | omega) (by first | assumption | omega)) (x_cwV (n0 := 2) (cq := (RX9, TX9, 24)) S gX9_fits_X9_doesFit rfl (by decide +kernel) ⟨Nat.le_of_ble_eq_true rfl, Nat.le_of_ble_eq_true rfl⟩) rfl hl.1 rfl (Nat.le_of_ble_eq_true rfl) dX9_fits_17 ⟨Nat.le_refl _, Nat.le_refl _⟩ (fun r_17 hr_17 => ?_)
      subst hr_17
      refine x_if_eqB (tgt := 27) S dX9_fits_20 (by decide) (fun c_20 => ?_) (fun c_20 => ?_)
      · refine lv_iconst (v := nI 0) hx hb dX9_fits_27 (by decide) ?_
        refine lv_goto (tgt := 33) hx hb dX9_fits_28 (by decide) ?_
        exact x_iretR S hlocks hr rfl (by rw [xp_fits, if_pos ⟨xin_nI (by omega) (by omega), xin_nI (by omega) (by omega)⟩, cN_nI (by omega), cN_nI (by omega), xb_f c_20]; rfl) dX9_fits_33
      · refine lv_iconst (v := nI 1) hx hb dX9_fits_23 (by decide) ?_
        refine lv_goto (tgt := 33) hx hb dX9_fits_24 (by decide) ?_
        exact x_iretR S hlocks hr rfl (by rw [xp_fits, if_pos ⟨xin_nI (by omega) (by omega), xin_nI (by omega) (by omega)⟩, cN_nI (by omega), cN_nI (by omega), xb_t c_20]; rfl) dX9_fits_33
set_option maxHeartbeats 4000000 in
set_option maxRecDepth 100000 in
theorem c_X9_typeOne (l : Launch) {D : va_G} {K : Nat → ClassId} {α : Nat → Nat} (σ : Nat → Nat → Int32) (hI : xw_I 20 α) (b : Int32) (L : Nat)  (hL : σ 0 6 = nI L) (hL9 : L < 90) : Met l yX9_typeOne wsX9_typeOne (xrm 0) (va_Pc [.ref (α 0), .int b] (xPre D K 20 α (xM α K) σ)) (xQi D 20 α (xM α K) (fun r τ => r = nI (L + 1) ∧ τ = xst_m1 σ L b)) 0 0 (xw_R 20 α) := by
  refine Met.ofW (cc := cX9_typeOne) (maxL := 2) (ret := (some .int)) (by decide) rfl ?_
  intro p e s m args below meth c s₁ B hml hv
  obtain ⟨rfl, hK, hP⟩ := hv
  have S : CallFix p m c cX9_typeOne 2 s _ wsX9_typeOne RX9 := ⟨B.exec, B.bytes, hml, findClass_of_methodNamed B.named, atoms_spec (ws := wsX9_typeOne) B.pre⟩
  have hx := S.1
  have hb := S.2.1
  have hr := B.returns
  have hlocks := B.notSynchronized
  have hS : va_S (xw_R 20 α) s.heap s.heap [] := va_S.rf
  have hl := lv_entry ([.ref (α 0), .int b]) (n := 2) (Nat.le_of_ble_eq_true rfl)
  rw [lg_entry_eq]
  generalize (lg_sl ([.ref (α 0), .int b]) ++ List.replicate (2 - (lg_sl ([.ref (α 0), .int b])).length) Slot.unset).toArray = ls at hl ⊢
  have hl : lv_has ls 2 [(0, .ref (α 0)), (1, .int b)] := hl
  have hPP := hP
  refine lv_aload_n hx hb dX9_typeOne_0 rfl (lv_at hl 0 rfl) ?_
  refine x_get S (fun w h => List.mem_cons_of_mem _ (List.mem_append_right _ h)) hK hP 0 (by omega) rfl rfl 6 (by decide) (List.mem_of_getElem? (i := 1) rfl) rfl dX9_typeOne_1 ?_
  refine x_top S (y := nI L) (hL) ?_
  refine lv_bipush (v := nI 90) hx hb dX9_typeOne_4 (by decide) ?_
  refine x_icmpN_ne (tgt := 12) S dX9_typeOne_6 (by decide) (by omega) (by omega) (fun c_6 => ?_) (fun c_6 => ?_)
  · refine lv_aload_n hx hb dX9_typeOne_12 rfl (lv_at hl 0 rfl) ?_
    refine x_get S (fun w h => List.mem_cons_of_mem _ (List.mem_append_right _ h)) hK hP 0 (by omega) rfl rfl 5 (by decide) (List.mem_of_getElem? (i := 2) rfl) rfl dX9_typeOne_13 ?_
    refine lv_aload_n hx hb dX9_typeOne_16 rfl (lv_at hl 0 rfl) ?_
    refine x_get S (fun w h => List.mem_cons_of_mem _ (List.mem_append_right _ h)) hK hP 0 (by omega) rfl rfl 6 (by decide) (List.mem_of_getElem? (i := 1) rfl) rfl dX9_typeOne_17 ?_
    refine x_top S (y := nI L) (hL) ?_
    refine lv_iload_n hx hb dX9_typeOne_20 rfl (lv_at hl 1 rfl) ?_
    refine x_iast S hK hP hI hS 6 (by omega) (fun _ => rfl) (by first | assumption | omega) (by omega) dX9_typeOne_21 (fun H locs hP hS => ?_)
    refine lv_aload_n hx hb dX9_typeOne_22 rfl (lv_at hl 0 rfl) ?_
    refine lv_dup hx hb dX9_typeOne_23 rfl ?_
    refine x_get S (fun w h => List.mem_cons_of_mem _ (List.mem_append_right _ h)) hK hP 0 (by omega) rfl rfl 6 (by decide) (List.mem_of_getElem? (i := 1) rfl) rfl dX9_typeOne_24 ?_
    refine x_top S (y := nI L) (by rw [xup_n _ _ (by decide)]; exact hL) ?_
    refine lv_iconst (v := nI 1) hx hb dX9_typeOne_27 (by decide) ?_
    refine x_iaddN S dX9_typeOne_28 ?_
    refine x_put S (fun w h => List.mem_cons_of_mem _ (List.mem_append_right _ h)) tyX9 tyX9_ok nmX9 hK hP hI hS 0 (by omega) rfl rfl 6 (by decide) (List.mem_of_getElem? (i := 1) rfl) rfl (ty := .int) (v := .int (nI (L + 1))) (by decide +kernel) rfl rfl (Nat.le_of_ble_eq_true rfl) (upd ((va_up σ 6 (upd (σ 6) L b)) 0) 6 (nI (L + 1))) rfl dX9_typeOne_29 (fun H locs hP hS => ?_)
    have hP : va_P D vwCl (xw 20 α (xM α K) (xst_m1 σ L b)) H := by
      rw [show xst_m1 σ L b = (va_up (va_up σ 6 (upd (σ 6) L b)) 0 (upd ((va_up σ 6 (upd (σ 6) L b)) 0) 6 (nI (L + 1)))) from by unfold xst_m1; rw [xup_n _ _ (by decide)]]; exact hP
    refine lv_aload_n hx hb dX9_typeOne_32 rfl (lv_at hl 0 rfl) ?_
    refine x_get S (fun w h => List.mem_cons_of_mem _ (List.mem_append_right _ h)) hK hP 0 (by omega) rfl rfl 6 (by decide) (List.mem_of_getElem? (i := 1) rfl) rfl dX9_typeOne_33 ?_
    refine x_top S (y := nI (L + 1)) (by unfold xst_m1; rw [xup_s, pk_us]) ?_
    exact x_iretW S hlocks hP hS hr rfl (⟨rfl, rfl⟩) dX9_typeOne_36
  · exact absurd c_6 (by omega)
set_option maxHeartbeats 4000000 in
set_option maxRecDepth 100000 in
theorem c_X9_typeOneF (l : Launch) {D : va_G} {K : Nat → ClassId} {α : Nat → Nat} (σ : Nat → Nat → Int32) (hI : xw_I 20 α) (b : Int32)  (hL : σ 0 6 = nI 90) : Met l yX9_typeOne wsX9_typeOne (xrm 0) (va_Pc [.ref (α 0), .int b] (xPre D K 20 α (xM α K) σ)) (xQi D 20 α (xM α K) (fun r τ => r = (-4 : Int32) ∧ τ = σ)) 0 0 (xw_R 20 α) := by
  refine Met.ofW (cc := cX9_typeOne) (maxL := 2) (ret := (some .int)) (by decide) rfl ?_
  intro p e s m args below meth c s₁ B hml hv
  obtain ⟨rfl, hK, hP⟩ := hv
  have S : CallFix p m c cX9_typeOne 2 s _ wsX9_typeOne RX9 := ⟨B.exec, B.bytes, hml, findClass_of_methodNamed B.named, atoms_spec (ws := wsX9_typeOne) B.pre⟩
  have hx := S.1
  have hb := S.2.1
  have hr := B.returns
  have hlocks := B.notSynchronized
  have hS : va_S (xw_R 20 α) s.heap s.heap [] := va_S.rf
  have hl := lv_entry ([.ref (α 0), .int b]) (n := 2) (Nat.le_of_ble_eq_true rfl)
  rw [lg_entry_eq]
  generalize (lg_sl ([.ref (α 0), .int b]) ++ List.replicate (2 - (lg_sl ([.ref (α 0), .int b])).length) Slot.unset).toArray = ls at hl ⊢
  have hl : lv_has ls 2 [(0, .ref (α 0)), (1, .int b)] := hl
  have hPP := hP
  refine lv_aload_n hx hb dX9_typeOne_0 rfl (lv_at hl 0 rfl) ?_
  refine x_get S (fun w h => List.mem_cons_of_mem _ (List.mem_append_right _ h)) hK hP 0 (by omega) rfl rfl 6 (by decide) (List.mem_of_getElem? (i := 1) rfl) rfl dX9_typeOne_1 ?_
  refine x_top S (y := nI 90) (hL) ?_
  refine lv_bipush (v := nI 90) hx hb dX9_typeOne_4 (by decide) ?_
  refine x_icmpN_ne (tgt := 12) S dX9_typeOne_6 (by decide) (by omega) (by omega) (fun q => absurd q (by omega)) (fun _ => ?_)
  refine lv_bipush (v := (-4)) hx hb dX9_typeOne_9 (by decide) ?_
  exact x_iretW S hlocks hP hS hr rfl (⟨rfl, rfl⟩) dX9_typeOne_11
set_option maxHeartbeats 4000000 in
set_option maxRecDepth 100000 in
theorem c_X9_type (l : Launch) {D : va_G} {K : Nat → ClassId} {α : Nat → Nat} (σ : Nat → Nat → Int32) (hI : xw_I 20 α) (x : Int32)  (hC : xIM σ) : Met l yX9_type wsX9_type (xrm 1) (va_Pc [.ref (α 0), .int x] (xPre D K 20 α (xM α K) σ)) (xQi D 20 α (xM α K) (fun r τ => r = xp_type (xLM σ) x ∧ τ = xst_mtype σ x)) 0 0 (xw_R 20 α) := by
  refine Met.ofW (cc := cX9_type) (maxL := 2) (ret := (some .int)) (by decide) rfl ?_
  intro p e s m args below meth c s₁ B hml hv
  obtain ⟨rfl, hK, hP⟩ := hv
  have S : CallFix p m c cX9_type 2 s _ wsX9_type RX9 := ⟨B.exec, B.bytes, hml, findClass_of_methodNamed B.named, atoms_spec (ws := wsX9_type) B.pre⟩
  have hx := S.1
  have hb := S.2.1
  have hr := B.returns
  have hlocks := B.notSynchronized
  have hS : va_S (xw_R 20 α) s.heap s.heap [] := va_S.rf
  have hl := lv_entry ([.ref (α 0), .int x]) (n := 2) (Nat.le_of_ble_eq_true rfl)
  rw [lg_entry_eq]
  generalize (lg_sl ([.ref (α 0), .int x]) ++ List.replicate (2 - (lg_sl ([.ref (α 0), .int x])).length) Slot.unset).toArray = ls at hl ⊢
  have hl : lv_has ls 2 [(0, .ref (α 0)), (1, .int x)] := hl
  have hPP := hP
  have hY := xIM_Y hC
  have hY12 := xIM_12 hC
  obtain ⟨⟨hL, hL9⟩, ⟨hcs, hcn, hc1, hc2⟩, ⟨hss, hsn, hs1, hs2⟩, hfe, hsh⟩ := id hC
  generalize hLe : xLM σ = L at hL hL9 ⊢
  generalize hYe : xYM σ = Y at hY hY12 ⊢
  generalize hcne : xcM σ = cn at hcs hcn hc1 hc2 ⊢
  generalize hsne : xsM σ = sn at hss hsn hs1 hs2 ⊢
  refine lv_iload_n hx hb dX9_type_0 rfl (lv_at hl 1 rfl) ?_
  refine lv_iconst (v := nI 0) hx hb dX9_type_1 (by decide) ?_
  refine lv_sipush (v := nI 255) hx hb dX9_type_2 (by decide) ?_
  refine x_cSi (As := [.int x, .int (nI 0), .int (nI 255)]) (rest := []) S (c_X9_in0 l x 255  (by first | assumption | omega)) (x_cwS (n0 := 3) S gX9_type_X9_in rfl (by decide +kernel) ⟨Nat.le_of_ble_eq_true rfl, Nat.le_of_ble_eq_true rfl⟩) rfl hl.1 rfl (Nat.le_of_ble_eq_true rfl) dX9_type_5 ⟨Nat.le_refl _, Nat.le_refl _⟩ (fun r_5 hr_5 => ?_)
  subst hr_5
  refine x_if_eqB (tgt := 19) S dX9_type_8 (by decide) (fun c_8 => ?_) (fun c_8 => ?_)
  · refine lv_bipush (v := (-2)) hx hb dX9_type_19 (by decide) ?_
    exact x_iretW S hlocks hP hS hr rfl (by first | exact ⟨by rw [xp_type, if_neg c_8], by rw [xst_mtype, if_neg (fun q => c_8 q.1)]⟩ | exact ⟨by rw [xp_type, if_pos c_8, if_pos hL90], by rw [xst_mtype, hLe, if_pos ⟨c_8, hL90⟩]⟩ | exact ⟨by rw [xp_type, if_pos c_8, if_neg (by omega)], by rw [xst_mtype, hLe, if_neg (fun q => by have := q.2; omega)]⟩) dX9_type_21
  · rcases (show L < 90 ∨ L = 90 by omega) with hL90 | hL90
    · skip
      refine lv_aload_n hx hb dX9_type_11 rfl (lv_at hl 0 rfl) ?_
      refine lv_iload_n hx hb dX9_type_12 rfl (lv_at hl 1 rfl) ?_
      refine x_cVWi (As := [.int x]) (rest := []) S hK hP hS (fun _ h => h) 0 (by omega) rfl rfl (c_X9_typeOne l σ hI x L  (by first | exact hL | (rw [hL, hL90])) (by first | assumption | omega)) (x_cwV (n0 := 1) (cq := (RX9, TX9, 24)) S gX9_type_X9_typeOne rfl (by decide +kernel) ⟨Nat.le_of_ble_eq_true rfl, Nat.le_of_ble_eq_true rfl⟩) rfl hl.1 rfl (Nat.le_of_ble_eq_true rfl) dX9_type_13 ⟨Nat.le_refl _, Nat.le_refl _⟩ (fun r_13 τ_13 H locs hr_13 hP hk_13 hS => ?_)
      obtain ⟨hr_13, hs_13⟩ := hr_13
      subst hr_13
      subst hs_13
      refine lv_goto (tgt := 21) hx hb dX9_type_16 (by decide) ?_
      exact x_iretW S hlocks hP hS hr rfl (by first | exact ⟨by rw [xp_type, if_neg c_8], by rw [xst_mtype, if_neg (fun q => c_8 q.1)]⟩ | exact ⟨by rw [xp_type, if_pos c_8, if_pos hL90], by rw [xst_mtype, hLe, if_pos ⟨c_8, hL90⟩]⟩ | exact ⟨by rw [xp_type, if_pos c_8, if_neg (by omega)], by rw [xst_mtype, hLe, if_neg (fun q => by have := q.2; omega)]⟩) dX9_type_21
    · skip
      refine lv_aload_n hx hb dX9_type_11 rfl (lv_at hl 0 rfl) ?_
      refine lv_iload_n hx hb dX9_type_12 rfl (lv_at hl 1 rfl) ?_
      refine x_cVWi (As := [.int x]) (rest := []) S hK hP hS (fun _ h => h) 0 (by omega) rfl rfl (c_X9_typeOneF l σ hI x  (by first | exact hL | (rw [hL, hL90]))) (x_cwV (n0 := 1) (cq := (RX9, TX9, 24)) S gX9_type_X9_typeOne rfl (by decide +kernel) ⟨Nat.le_of_ble_eq_true rfl, Nat.le_of_ble_eq_true rfl⟩) rfl hl.1 rfl (Nat.le_of_ble_eq_true rfl) dX9_type_13 ⟨Nat.le_refl _, Nat.le_refl _⟩ (fun r_13 τ_13 H locs hr_13 hP hk_13 hS => ?_)
      obtain ⟨hr_13, hs_13⟩ := hr_13
      subst hr_13
      rw [hs_13] at hP
      refine lv_goto (tgt := 21) hx hb dX9_type_16 (by decide) ?_
      exact x_iretW S hlocks hP hS hr rfl (by first | exact ⟨by rw [xp_type, if_neg c_8], by rw [xst_mtype, if_neg (fun q => c_8 q.1)]⟩ | exact ⟨by rw [xp_type, if_pos c_8, if_pos hL90], by rw [xst_mtype, hLe, if_pos ⟨c_8, hL90⟩]⟩ | exact ⟨by rw [xp_type, if_pos c_8, if_neg (by omega)], by rw [xst_mtype, hLe, if_neg (fun q => by have := q.2; omega)]⟩) dX9_type_21
set_option maxHeartbeats 4000000 in
set_option maxRecDepth 100000 in
theorem c_X9_wipe (l : Launch) {D : va_G} {K : Nat → ClassId} {α : Nat → Nat} (σ : Nat → Nat → Int32) (hI : xw_I 20 α)   (hC : xIM σ) : Met l yX9_wipe wsX9_wipe (xrm 0) (va_Pc [.ref (α 0)] (xPre D K 20 α (xM α K) σ)) (xQi D 20 α (xM α K) (fun r τ => r = nI (xLM σ) ∧ τ = va_up σ 0 (upd (σ 0) 6 (nI 0)))) 0 0 (xw_R 20 α) := by
  refine Met.ofW (cc := cX9_wipe) (maxL := 2) (ret := (some .int)) (by decide) rfl ?_
  intro p e s m args below meth c s₁ B hml hv
  obtain ⟨rfl, hK, hP⟩ := hv
  have S : CallFix p m c cX9_wipe 2 s _ wsX9_wipe RX9 := ⟨B.exec, B.bytes, hml, findClass_of_methodNamed B.named, atoms_spec (ws := wsX9_wipe) B.pre⟩
  have hx := S.1
  have hb := S.2.1
  have hr := B.returns
  have hlocks := B.notSynchronized
  have hS : va_S (xw_R 20 α) s.heap s.heap [] := va_S.rf
  have hl := lv_entry ([.ref (α 0)]) (n := 2) (Nat.le_of_ble_eq_true rfl)
  rw [lg_entry_eq]
  generalize (lg_sl ([.ref (α 0)]) ++ List.replicate (2 - (lg_sl ([.ref (α 0)])).length) Slot.unset).toArray = ls at hl ⊢
  have hl : lv_has ls 2 [(0, .ref (α 0))] := hl
  have hPP := hP
  have hY := xIM_Y hC
  have hY12 := xIM_12 hC
  obtain ⟨⟨hL, hL9⟩, ⟨hcs, hcn, hc1, hc2⟩, ⟨hss, hsn, hs1, hs2⟩, hfe, hsh⟩ := id hC
  generalize hLe : xLM σ = L at hL hL9 ⊢
  generalize hYe : xYM σ = Y at hY hY12 ⊢
  generalize hcne : xcM σ = cn at hcs hcn hc1 hc2 ⊢
  generalize hsne : xsM σ = sn at hss hsn hs1 hs2 ⊢
  refine lv_aload_n hx hb dX9_wipe_0 rfl (lv_at hl 0 rfl) ?_
  refine x_get S (fun w h => List.mem_cons_of_mem _ (List.mem_append_right _ h)) hK hP 0 (by omega) rfl rfl 6 (by decide) (List.mem_of_getElem? (i := 1) rfl) rfl dX9_wipe_1 ?_
  refine x_top S (y := nI L) (hL) ?_
  refine lv_istore_n (lv' := [(1, .int (nI L)), (0, .ref (α 0))]) hx hb dX9_wipe_4 rfl hl (by decide) rfl (fun ls hl => ?_)
  refine lv_aload_n hx hb dX9_wipe_5 rfl (lv_at hl 1 rfl) ?_
  refine lv_iconst (v := nI 0) hx hb dX9_wipe_6 (by decide) ?_
  refine x_put S (fun w h => List.mem_cons_of_mem _ (List.mem_append_right _ h)) tyX9 tyX9_ok nmX9 hK hP hI hS 0 (by omega) rfl rfl 6 (by decide) (List.mem_of_getElem? (i := 1) rfl) rfl (ty := .int) (v := .int (nI 0)) (by decide +kernel) rfl rfl (Nat.le_of_ble_eq_true rfl) (upd (σ 0) 6 (nI 0)) rfl dX9_wipe_7 (fun H locs hP hS => ?_)
  refine lv_iload_n hx hb dX9_wipe_10 rfl (lv_at hl 0 rfl) ?_
  exact x_iretW S hlocks hP hS hr rfl (⟨rfl, rfl⟩) dX9_wipe_11

set_option maxHeartbeats 4000000 in
set_option maxRecDepth 100000 in
theorem c_X0_mostBy (l : Launch) {D : va_G} {K : Nat → ClassId} {α : Nat → Nat} (σ : Nat → Nat → Int32) (t : Nat) (h : Nat) (n : Nat) (E : Nat → Nat → Nat)  (hE : ∀ h, h < 6 → ∀ n, n < 6 → σ (26 + h) n = nI (E h n) ∧ E h n ≤ 9) (ht : t < 64) (hh : h < 6) (hn : n < 6) (hM : σ 32 (t ||| 2 ^ n) = nI (xbm E (t ||| 2 ^ n))) : Met l yX0_mostBy wsX0_mostBy (xrm 0) (va_Pc [.ref (α 24), .int (nI t), .int (nI h), .int (nI n)] (xPre D K 42 α (xC α K) σ)) (vp_Si (fun r => r = nI (E h n + xbm E (t ||| 2 ^ n)))) 0 0 (fun _ => False) := by
  refine Met.ofW (cc := cX0_mostBy) (maxL := 4) (ret := (some .int)) (by decide) rfl ?_
  intro p e s m args below meth c s₁ B hml hv
  obtain ⟨rfl, hK, hP⟩ := hv
  have S : CallFix p m c cX0_mostBy 4 s _ wsX0_mostBy RX0 := ⟨B.exec, B.bytes, hml, findClass_of_methodNamed B.named, atoms_spec (ws := wsX0_mostBy) B.pre⟩
  have hx := S.1
  have hb := S.2.1
  have hr := B.returns
  have hlocks := B.notSynchronized
  have hl := lv_entry ([.ref (α 24), .int (nI t), .int (nI h), .int (nI n)]) (n := 4) (Nat.le_of_ble_eq_true rfl)
  rw [lg_entry_eq]
  generalize (lg_sl ([.ref (α 24), .int (nI t), .int (nI h), .int (nI n)]) ++ List.replicate (4 - (lg_sl ([.ref (α 24), .int (nI t), .int (nI h), .int (nI n)])).length) Slot.unset).toArray = ls at hl ⊢
  have hl : lv_has ls 4 [(0, .ref (α 24)), (1, .int (nI t)), (2, .int (nI h)), (3, .int (nI n))] := hl
  have hPP := hP
  have hq1 := xor64 ht hn
  refine lv_aload_n hx hb dX0_mostBy_0 rfl (lv_at hl 0 rfl) ?_
  refine x_get S (fun w h => List.mem_cons_of_mem _ (List.mem_append_right _ h)) hK hP 24 (by omega) rfl rfl 1 (by decide) (List.mem_of_getElem? (i := 1) rfl) rfl dX0_mostBy_1 ?_
  refine lv_iload_n hx hb dX0_mostBy_4 rfl (lv_at hl 2 rfl) ?_
  refine x_aald S hK hP 25 1 (by omega) rfl rfl rfl (by first | assumption | omega) (by omega) rfl dX0_mostBy_5 ?_
  refine lv_iload_n hx hb dX0_mostBy_6 rfl (lv_at hl 3 rfl) ?_
  refine x_iald S hK hP (26 + h) (by omega) (xC_e (by first | assumption | omega) _) (by first | assumption | omega) (by omega) dX0_mostBy_7 ?_
  refine x_top S (y := nI (E h n)) ((hE h hh n hn).1) ?_
  refine lv_aload_n hx hb dX0_mostBy_8 rfl (lv_at hl 0 rfl) ?_
  refine x_get S (fun w h => List.mem_cons_of_mem _ (List.mem_append_right _ h)) hK hP 24 (by omega) rfl rfl 2 (by decide) (List.mem_of_getElem? (i := 2) rfl) rfl dX0_mostBy_9 ?_
  refine lv_iload_n hx hb dX0_mostBy_12 rfl (lv_at hl 1 rfl) ?_
  refine lv_iconst (v := nI 1) hx hb dX0_mostBy_13 (by decide) ?_
  refine lv_iload_n hx hb dX0_mostBy_14 rfl (lv_at hl 3 rfl) ?_
  refine lv_ishl hx hb dX0_mostBy_15 ?_
  refine lv_ior hx hb dX0_mostBy_16 ?_
  refine x_top S (y := nI (t ||| 2 ^ n)) (xor_I (by omega)) ?_
  refine x_iald S hK hP 32 (by omega) rfl (by first | assumption | omega) (by omega) dX0_mostBy_17 ?_
  refine x_top S (y := nI (xbm E (t ||| 2 ^ n))) (hM) ?_
  refine x_iaddN S dX0_mostBy_18 ?_
  exact x_iretR S hlocks hr rfl (rfl) dX0_mostBy_19
set_option maxHeartbeats 4000000 in
set_option maxRecDepth 100000 in
theorem c_X0_mostFrom (l : Launch) {D : va_G} {K : Nat → ClassId} {α : Nat → Nat} (σ : Nat → Nat → Int32) (z : Nat) (E : Nat → Nat → Nat)  (hE : ∀ h, h < 6 → ∀ n, n < 6 → σ (26 + h) n = nI (E h n) ∧ E h n ≤ 9) (hz : z < 63) (hM : ∀ k, z < k → k < 64 → σ 32 k = nI (xbm E k)) : Met l yX0_mostFrom wsX0_mostFrom (xrm 1) (va_Pc [.ref (α 24), .int (nI z)] (xPre D K 42 α (xC α K) σ)) (vp_Si (fun r => r = nI (xbm E z))) 0 0 (fun _ => False) := by
  refine Met.ofW (cc := cX0_mostFrom) (maxL := 5) (ret := (some .int)) (by decide) rfl ?_
  intro p e s m args below meth c s₁ B hml hv
  obtain ⟨rfl, hK, hP⟩ := hv
  have S : CallFix p m c cX0_mostFrom 5 s _ wsX0_mostFrom RX0 := ⟨B.exec, B.bytes, hml, findClass_of_methodNamed B.named, atoms_spec (ws := wsX0_mostFrom) B.pre⟩
  have hx := S.1
  have hb := S.2.1
  have hr := B.returns
  have hlocks := B.notSynchronized
  have hl := lv_entry ([.ref (α 24), .int (nI z)]) (n := 5) (Nat.le_of_ble_eq_true rfl)
  rw [lg_entry_eq]
  generalize (lg_sl ([.ref (α 24), .int (nI z)]) ++ List.replicate (5 - (lg_sl ([.ref (α 24), .int (nI z)])).length) Slot.unset).toArray = ls at hl ⊢
  have hl : lv_has ls 5 [(0, .ref (α 24)), (1, .int (nI z))] := hl
  have hPP := hP
  have hp9 := xpc_lt hz
  have hb9 := fun z => xbm_le (fun h hh n hn => (hE h hh n hn).2) z
  refine lv_iload_n hx hb dX0_mostFrom_0 rfl (lv_at hl 1 rfl) ?_
  refine x_cSi (As := [.int (nI z)]) (rest := []) S (c_J6_bitCount_0f7a4 l z  (by first | assumption | omega)) (x_cwS (n0 := 1) S gX0_mostFrom_J6_bitCount_0f7a4 rfl (by decide +kernel) ⟨Nat.le_of_ble_eq_true rfl, Nat.le_of_ble_eq_true rfl⟩) rfl hl.1 rfl (Nat.le_of_ble_eq_true rfl) dX0_mostFrom_1 ⟨Nat.le_refl _, Nat.le_refl _⟩ (fun r_1 hr_1 => ?_)
  subst hr_1
  refine lv_istore_n (lv' := [(2, .int (nI (xpc z))), (0, .ref (α 24)), (1, .int (nI z))]) hx hb dX0_mostFrom_4 rfl hl (by decide) rfl (fun ls hl => ?_)
  refine lv_iconst (v := nI 0) hx hb dX0_mostFrom_5 (by decide) ?_
  refine lv_istore_n (lv' := [(3, .int (nI 0)), (2, .int (nI (xpc z))), (0, .ref (α 24)), (1, .int (nI z))]) hx hb dX0_mostFrom_6 rfl hl (by decide) rfl (fun ls hl => ?_)
  refine lv_iconst (v := nI 0) hx hb dX0_mostFrom_7 (by decide) ?_
  refine lv_istore (lv' := [(4, .int (nI 0)), (3, .int (nI 0)), (2, .int (nI (xpc z))), (0, .ref (α 24)), (1, .int (nI z))]) hx hb dX0_mostFrom_8 hl (by decide) rfl (fun ls hl => ?_)
  refine x_loop (ι := Nat) (fun i ls => (i ≤ 6) ∧ lv_has ls 5 [(4, .int (nI i)), (3, .int (nI (xmx (fun n => if z.testBit n = true then 0 else E (xpc z) n + xbm E (z ||| 2 ^ n)) i))), (2, .int (nI (xpc z))), (0, .ref (α 24)), (1, .int (nI z))]) (fun i => 6 - i) ?_ 0 ls ⟨Nat.zero_le _, lv_sub hl [0, 1, 2, 3, 4] rfl⟩
  intro i ls hinv ih_10
  obtain ⟨hi, hl⟩ := hinv
  have hl : lv_has ls 5 [(4, .int (nI i)), (3, .int (nI (xmx (fun n => if z.testBit n = true then 0 else E (xpc z) n + xbm E (z ||| 2 ^ n)) i))), (2, .int (nI (xpc z))), (0, .ref (α 24)), (1, .int (nI z))] := hl
  refine lv_iload hx hb dX0_mostFrom_10 (lv_at hl 0 rfl) ?_
  refine lv_bipush (v := nI 6) hx hb dX0_mostFrom_12 (by decide) ?_
  refine x_icmpN_ge (tgt := 45) S dX0_mostFrom_14 (by decide) (by omega) (by omega) (fun c_14 => ?_) (fun c_14 => ?_)
  · have e9 : i = 6 := by omega
    subst e9
    refine lv_iload_n hx hb dX0_mostFrom_45 rfl (lv_at hl 1 rfl) ?_
    exact x_iretR S hlocks hr rfl (by rw [xbm_step E (by omega) hp9]) dX0_mostFrom_46
  · refine lv_iload_n hx hb dX0_mostFrom_17 rfl (lv_at hl 4 rfl) ?_
    refine lv_iload hx hb dX0_mostFrom_18 (lv_at hl 0 rfl) ?_
    refine x_cNi (As := [.int (nI z), .int (nI i)]) (rest := []) S (c_X8_isIn l (nI z) (nI i)  ) (x_cwN (n0 := 2) S gX0_mostFrom_X8_isIn_n42 rfl hK.2.1 (List.mem_of_getElem? (i := 13) rfl) (List.mem_of_getElem? (i := 12) rfl) (by decide +kernel) ⟨Nat.le_of_ble_eq_true rfl, Nat.le_of_ble_eq_true rfl⟩) rfl hl.1 rfl (Nat.le_of_ble_eq_true rfl) dX0_mostFrom_20 ⟨Nat.le_refl _, Nat.le_refl _⟩ (fun r_20 hr_20 => ?_)
    subst hr_20
    refine x_if_neB (tgt := 39) S dX0_mostFrom_23 (by decide) (fun c_23 => ?_) (fun c_23 => ?_)
    · have hbit : z.testBit i = true := (xis_I (by omega) (by omega)).mp c_23
      refine lv_iinc (v := nI (i + 1)) (lv' := [(4, .int (nI (i + 1))), (3, .int (nI (xmx (fun n => if z.testBit n = true then 0 else E (xpc z) n + xbm E (z ||| 2 ^ n)) i))), (2, .int (nI (xpc z))), (0, .ref (α 24)), (1, .int (nI z))]) hx hb dX0_mostFrom_39 hl (k := 0) rfl (nI_add i 1) (by decide) rfl (fun ls hl => ?_)
      refine lv_goto (tgt := 10) hx hb dX0_mostFrom_42 (by decide) ?_
      exact ih_10 (i + 1) ls ⟨(by omega), (by have h9 := lv_sub (l' := [(4, .int (nI (i + 1))), (3, .int (nI (xmx (fun n => if z.testBit n = true then 0 else E (xpc z) n + xbm E (z ||| 2 ^ n)) i))), (2, .int (nI (xpc z))), (0, .ref (α 24)), (1, .int (nI z))]) hl [0, 1, 2, 3, 4] rfl; rw [show nI (xmx (fun n => if z.testBit n = true then 0 else E (xpc z) n + xbm E (z ||| 2 ^ n)) i) = nI (xmx (fun n => if z.testBit n = true then 0 else E (xpc z) n + xbm E (z ||| 2 ^ n)) (i + 1)) from by rw [xmx, if_pos hbit, Nat.max_eq_left (Nat.zero_le _)]] at h9; exact h9)⟩ (by (try dsimp only); omega)
    · have hbit : ¬ z.testBit i = true := fun q => c_23 ((xis_I (by omega) (by omega)).mpr q)
      have hbf : z.testBit i = false := by simpa using hbit
      have hq1 := xor64 (z := z) (n := i) (by omega) (by omega)
      have hq2 := hb9 (z ||| 2 ^ i)
      have hq3 := (hE (xpc z) hp9 i (by omega)).2
      have hq4 : xmx (fun n => if z.testBit n = true then 0 else E (xpc z) n + xbm E (z ||| 2 ^ n)) i ≤ 63 := xmx_le (fun n hn => by
        have h1 := hb9 (z ||| 2 ^ n)
        have h2 := (hE (xpc z) hp9 n (by omega)).2
        try dsimp only
        split <;> omega)
      refine lv_iload_n hx hb dX0_mostFrom_26 rfl (lv_at hl 1 rfl) ?_
      refine lv_aload_n hx hb dX0_mostFrom_27 rfl (lv_at hl 3 rfl) ?_
      refine lv_iload_n hx hb dX0_mostFrom_28 rfl (lv_at hl 4 rfl) ?_
      refine lv_iload_n hx hb dX0_mostFrom_29 rfl (lv_at hl 2 rfl) ?_
      refine lv_iload hx hb dX0_mostFrom_30 (lv_at hl 0 rfl) ?_
      refine x_cVRi (As := [.int (nI z), .int (nI (xpc z)), .int (nI i)]) (rest := [.int (nI (xmx (fun n => if z.testBit n = true then 0 else E (xpc z) n + xbm E (z ||| 2 ^ n)) i))]) S hK hP 24 (by omega) rfl rfl (c_X0_mostBy l σ z (xpc z) i E  (by first | assumption | omega) (by first | assumption | omega) (by first | assumption | omega) (by first | assumption | omega) (hM _ (xpc_or (by omega) (by omega) hbf).2 hq1)) (x_cwV (n0 := 3) (cq := (RX0, TX0, 3)) S gX0_mostFrom_X0_mostBy rfl (by decide +kernel) ⟨Nat.le_of_ble_eq_true rfl, Nat.le_of_ble_eq_true rfl⟩) rfl hl.1 rfl (Nat.le_of_ble_eq_true rfl) dX0_mostFrom_32 ⟨Nat.le_refl _, Nat.le_refl _⟩ (fun r_32 hr_32 => ?_)
      subst hr_32
      refine va_mmax hx hb (hml.trans hl.1.symm) S.2.2.2.1 (S.2.2.2.2 (.methodLink RX0 50 Lib.Math.max.name) (List.mem_of_getElem? (i := 1) rfl)) (S.2.2.2.2 (.static Lib.Math.max.name) (List.mem_of_getElem? (i := 2) rfl)) (S.2.2.2.2 (.initialized "java/lang/Math") (List.mem_of_getElem? (i := 3) rfl)) (S.2.2.2.2 (.code Lib.Math.max.name Lib.Math.max.code 2 (some .int)) (List.mem_of_getElem? (i := 4) rfl)) (Nat.le_of_ble_eq_true rfl) (Nat.le_of_ble_eq_true rfl) (Nat.le_refl _) (Nat.le_refl _) dX0_mostFrom_35 ?_
      refine x_top S (y := nI (max (xmx (fun n => if z.testBit n = true then 0 else E (xpc z) n + xbm E (z ||| 2 ^ n)) i) (E (xpc z) i + xbm E (z ||| 2 ^ i)))) (xmaxI (by omega) (by omega)) ?_
      refine lv_istore_n (lv' := [(3, .int (nI (max (xmx (fun n => if z.testBit n = true then 0 else E (xpc z) n + xbm E (z ||| 2 ^ n)) i) (E (xpc z) i + xbm E (z ||| 2 ^ i))))), (4, .int (nI i)), (2, .int (nI (xpc z))), (0, .ref (α 24)), (1, .int (nI z))]) hx hb dX0_mostFrom_38 rfl hl (by decide) rfl (fun ls hl => ?_)
      refine lv_iinc (v := nI (i + 1)) (lv' := [(4, .int (nI (i + 1))), (3, .int (nI (max (xmx (fun n => if z.testBit n = true then 0 else E (xpc z) n + xbm E (z ||| 2 ^ n)) i) (E (xpc z) i + xbm E (z ||| 2 ^ i))))), (2, .int (nI (xpc z))), (0, .ref (α 24)), (1, .int (nI z))]) hx hb dX0_mostFrom_39 hl (k := 1) rfl (nI_add i 1) (by decide) rfl (fun ls hl => ?_)
      refine lv_goto (tgt := 10) hx hb dX0_mostFrom_42 (by decide) ?_
      exact ih_10 (i + 1) ls ⟨(by omega), (by have h9 := lv_sub (l' := [(4, .int (nI (i + 1))), (3, .int (nI (max (xmx (fun n => if z.testBit n = true then 0 else E (xpc z) n + xbm E (z ||| 2 ^ n)) i) (E (xpc z) i + xbm E (z ||| 2 ^ i))))), (2, .int (nI (xpc z))), (0, .ref (α 24)), (1, .int (nI z))]) hl [0, 1, 2, 3, 4] rfl; rw [show nI (max (xmx (fun n => if z.testBit n = true then 0 else E (xpc z) n + xbm E (z ||| 2 ^ n)) i) (E (xpc z) i + xbm E (z ||| 2 ^ i))) = nI (xmx (fun n => if z.testBit n = true then 0 else E (xpc z) n + xbm E (z ||| 2 ^ n)) (i + 1)) from by rw [xmx, if_neg hbit]] at h9; exact h9)⟩ (by (try dsimp only); omega)
set_option maxHeartbeats 4000000 in
set_option maxRecDepth 100000 in
theorem c_X0_sum (l : Launch) {D : va_G} {K : Nat → ClassId} {α : Nat → Nat} (σ : Nat → Nat → Int32)   : Met l yX0_sum wsX0_sum (xrm 0) (va_Pc [.ref (α 24)] (xPre D K 42 α (xC α K) σ)) (vp_Si (fun r => r = σ 32 0)) 0 0 (fun _ => False) := by
  refine Met.ofW (cc := cX0_sum) (maxL := 1) (ret := (some .int)) (by decide) rfl ?_
  intro p e s m args below meth c s₁ B hml hv
  obtain ⟨rfl, hK, hP⟩ := hv
  have S : CallFix p m c cX0_sum 1 s _ wsX0_sum RX0 := ⟨B.exec, B.bytes, hml, findClass_of_methodNamed B.named, atoms_spec (ws := wsX0_sum) B.pre⟩
  have hx := S.1
  have hb := S.2.1
  have hr := B.returns
  have hlocks := B.notSynchronized
  have hl := lv_entry ([.ref (α 24)]) (n := 1) (Nat.le_of_ble_eq_true rfl)
  rw [lg_entry_eq]
  generalize (lg_sl ([.ref (α 24)]) ++ List.replicate (1 - (lg_sl ([.ref (α 24)])).length) Slot.unset).toArray = ls at hl ⊢
  have hl : lv_has ls 1 [(0, .ref (α 24))] := hl
  have hPP := hP
  refine lv_aload_n hx hb dX0_sum_0 rfl (lv_at hl 0 rfl) ?_
  refine x_get S (fun w h => List.mem_cons_of_mem _ (List.mem_append_right _ h)) hK hP 24 (by omega) rfl rfl 2 (by decide) (List.mem_of_getElem? (i := 1) rfl) rfl dX0_sum_1 ?_
  refine lv_iconst (v := nI 0) hx hb dX0_sum_4 (by decide) ?_
  refine x_iald S hK hP 32 (by omega) rfl (by first | assumption | omega) (by omega) dX0_sum_5 ?_
  exact x_iretR S hlocks hr rfl (rfl) dX0_sum_6
set_option maxHeartbeats 4000000 in
set_option maxRecDepth 100000 in
theorem c_X0_leastThatEarnsMost (l : Launch) {D : va_G} {K : Nat → ClassId} {α : Nat → Nat} (σ : Nat → Nat → Int32) (t : Nat) (h : Nat) (E : Nat → Nat → Nat)  (hE : ∀ h, h < 6 → ∀ n, n < 6 → σ (26 + h) n = nI (E h n) ∧ E h n ≤ 9) (hM : ∀ k, k < 64 → σ 32 k = nI (xbm E k)) (ht : t < 64) (hh : h < 6) : Met l yX0_leastThatEarnsMost wsX0_leastThatEarnsMost (xrm 1) (va_Pc [.ref (α 24), .int (nI t), .int (nI h)] (xPre D K 42 α (xC α K) σ)) (vp_Si (fun r => r = if xbl E t h < 6 then nI (xbl E t h) else -1)) 0 0 (fun _ => False) := by
  refine Met.ofW (cc := cX0_leastThatEarnsMost) (maxL := 4) (ret := (some .int)) (by decide) rfl ?_
  intro p e s m args below meth c s₁ B hml hv
  obtain ⟨rfl, hK, hP⟩ := hv
  have S : CallFix p m c cX0_leastThatEarnsMost 4 s _ wsX0_leastThatEarnsMost RX0 := ⟨B.exec, B.bytes, hml, findClass_of_methodNamed B.named, atoms_spec (ws := wsX0_leastThatEarnsMost) B.pre⟩
  have hx := S.1
  have hb := S.2.1
  have hr := B.returns
  have hlocks := B.notSynchronized
  have hl := lv_entry ([.ref (α 24), .int (nI t), .int (nI h)]) (n := 4) (Nat.le_of_ble_eq_true rfl)
  rw [lg_entry_eq]
  generalize (lg_sl ([.ref (α 24), .int (nI t), .int (nI h)]) ++ List.replicate (4 - (lg_sl ([.ref (α 24), .int (nI t), .int (nI h)])).length) Slot.unset).toArray = ls at hl ⊢
  have hl : lv_has ls 4 [(0, .ref (α 24)), (1, .int (nI t)), (2, .int (nI h))] := hl
  have hPP := hP
  have hb9 := fun z => xbm_le (fun h hh n hn => (hE h hh n hn).2) z
  refine lv_iconst (v := nI 0) hx hb dX0_leastThatEarnsMost_0 (by decide) ?_
  refine lv_istore_n (lv' := [(3, .int (nI 0)), (0, .ref (α 24)), (1, .int (nI t)), (2, .int (nI h))]) hx hb dX0_leastThatEarnsMost_1 rfl hl (by decide) rfl (fun ls hl => ?_)
  refine x_loop (ι := Nat) (fun i ls => (i ≤ 6) ∧ (∀ n, n < i → ¬ (t.testBit n = false ∧ E h n + xbm E (t ||| 2 ^ n) = xbm E t)) ∧ lv_has ls 4 [(3, .int (nI i)), (0, .ref (α 24)), (1, .int (nI t)), (2, .int (nI h))]) (fun i => 6 - i) ?_ 0 ls ⟨Nat.zero_le _, fun n hn => absurd hn (Nat.not_lt_zero n), lv_sub hl [0, 1, 2, 3] rfl⟩
  intro i ls hinv ih_2
  obtain ⟨hi, hno, hl⟩ := hinv
  have hl : lv_has ls 4 [(3, .int (nI i)), (0, .ref (α 24)), (1, .int (nI t)), (2, .int (nI h))] := hl
  refine lv_iload_n hx hb dX0_leastThatEarnsMost_2 rfl (lv_at hl 0 rfl) ?_
  refine lv_bipush (v := nI 6) hx hb dX0_leastThatEarnsMost_3 (by decide) ?_
  refine x_icmpN_ge (tgt := 40) S dX0_leastThatEarnsMost_5 (by decide) (by omega) (by omega) (fun c_5 => ?_) (fun c_5 => ?_)
  · refine lv_iconst (v := (-1)) hx hb dX0_leastThatEarnsMost_40 (by decide) ?_
    have e8 : xbl E t h = 6 := xfst_no (fun n hn => hno n (by omega))
    exact x_iretR S hlocks hr rfl (by rw [if_neg (by omega)]) dX0_leastThatEarnsMost_41
  · refine lv_iload_n hx hb dX0_leastThatEarnsMost_8 rfl (lv_at hl 2 rfl) ?_
    refine lv_iload_n hx hb dX0_leastThatEarnsMost_9 rfl (lv_at hl 0 rfl) ?_
    refine x_cNi (As := [.int (nI t), .int (nI i)]) (rest := []) S (c_X8_isIn l (nI t) (nI i)  ) (x_cwN (n0 := 2) S gX0_leastThatEarnsMost_X8_isIn_n42 rfl hK.2.1 (List.mem_of_getElem? (i := 3) rfl) (List.mem_of_getElem? (i := 2) rfl) (by decide +kernel) ⟨Nat.le_of_ble_eq_true rfl, Nat.le_of_ble_eq_true rfl⟩) rfl hl.1 rfl (Nat.le_of_ble_eq_true rfl) dX0_leastThatEarnsMost_10 ⟨Nat.le_refl _, Nat.le_refl _⟩ (fun r_10 hr_10 => ?_)
    subst hr_10
    refine x_if_neB (tgt := 34) S dX0_leastThatEarnsMost_13 (by decide) (fun c_13 => ?_) (fun c_13 => ?_)
    · have hbit : t.testBit i = true := (xis_I (by omega) (by omega)).mp c_13
      refine lv_iinc (v := nI (i + 1)) (lv' := [(3, .int (nI (i + 1))), (0, .ref (α 24)), (1, .int (nI t)), (2, .int (nI h))]) hx hb dX0_leastThatEarnsMost_34 hl (k := 0) rfl (nI_add i 1) (by decide) rfl (fun ls hl => ?_)
      refine lv_goto (tgt := 2) hx hb dX0_leastThatEarnsMost_37 (by decide) ?_
      exact ih_2 (i + 1) ls ⟨(by omega), lt_s hno (fun q => by first | exact c_29 q.2 | (have := q.1; rw [hbit] at this; exact absurd this (by decide))), lv_sub hl [0, 1, 2, 3] rfl⟩ (by (try dsimp only); omega)
    · have hbit : ¬ t.testBit i = true := fun q => c_13 ((xis_I (by omega) (by omega)).mpr q)
      have hbf : t.testBit i = false := by simpa using hbit
      have hq1 := xor64 (z := t) (n := i) (by omega) (by omega)
      have hq2 := hb9 (t ||| 2 ^ i)
      have hq3 := (hE h hh i (by omega)).2
      have hq4 := hb9 t
      refine lv_aload_n hx hb dX0_leastThatEarnsMost_16 rfl (lv_at hl 1 rfl) ?_
      refine lv_iload_n hx hb dX0_leastThatEarnsMost_17 rfl (lv_at hl 2 rfl) ?_
      refine lv_iload_n hx hb dX0_leastThatEarnsMost_18 rfl (lv_at hl 3 rfl) ?_
      refine lv_iload_n hx hb dX0_leastThatEarnsMost_19 rfl (lv_at hl 0 rfl) ?_
      refine x_cVRi (As := [.int (nI t), .int (nI h), .int (nI i)]) (rest := []) S hK hP 24 (by omega) rfl rfl (c_X0_mostBy l σ t h i E  (by first | assumption | omega) (by first | assumption | omega) (by first | assumption | omega) (by first | assumption | omega) (hM _ hq1)) (x_cwV (n0 := 3) (cq := (RX0, TX0, 3)) S gX0_leastThatEarnsMost_X0_mostBy rfl (by decide +kernel) ⟨Nat.le_of_ble_eq_true rfl, Nat.le_of_ble_eq_true rfl⟩) rfl hl.1 rfl (Nat.le_of_ble_eq_true rfl) dX0_leastThatEarnsMost_20 ⟨Nat.le_refl _, Nat.le_refl _⟩ (fun r_20 hr_20 => ?_)
      subst hr_20
      refine lv_aload_n hx hb dX0_leastThatEarnsMost_23 rfl (lv_at hl 1 rfl) ?_
      refine x_get S (fun w h => List.mem_cons_of_mem _ (List.mem_append_right _ h)) hK hP 24 (by omega) rfl rfl 2 (by decide) (List.mem_of_getElem? (i := 1) rfl) rfl dX0_leastThatEarnsMost_24 ?_
      refine lv_iload_n hx hb dX0_leastThatEarnsMost_27 rfl (lv_at hl 2 rfl) ?_
      refine x_iald S hK hP 32 (by omega) rfl (by first | assumption | omega) (by omega) dX0_leastThatEarnsMost_28 ?_
      refine x_top S (y := nI (xbm E t)) (hM t ht) ?_
      refine x_icmpN_ne (tgt := 34) S dX0_leastThatEarnsMost_29 (by decide) (by omega) (by omega) (fun c_29 => ?_) (fun c_29 => ?_)
      · refine lv_iinc (v := nI (i + 1)) (lv' := [(3, .int (nI (i + 1))), (0, .ref (α 24)), (1, .int (nI t)), (2, .int (nI h))]) hx hb dX0_leastThatEarnsMost_34 hl (k := 0) rfl (nI_add i 1) (by decide) rfl (fun ls hl => ?_)
        refine lv_goto (tgt := 2) hx hb dX0_leastThatEarnsMost_37 (by decide) ?_
        exact ih_2 (i + 1) ls ⟨(by omega), lt_s hno (fun q => by first | exact c_29 q.2 | (have := q.1; rw [hbit] at this; exact absurd this (by decide))), lv_sub hl [0, 1, 2, 3] rfl⟩ (by (try dsimp only); omega)
      · refine lv_iload_n hx hb dX0_leastThatEarnsMost_32 rfl (lv_at hl 0 rfl) ?_
        have e8 : xbl E t h = i := xfst_at hno ⟨hbf, c_29⟩ c_5
        exact x_iretR S hlocks hr rfl (by rw [if_pos (by omega), e8]) dX0_leastThatEarnsMost_33
set_option maxHeartbeats 4000000 in
set_option maxRecDepth 100000 in
theorem c_X0_nameOf (l : Launch) {D : va_G} {K : Nat → ClassId} {α : Nat → Nat} (σ : Nat → Nat → Int32) (h : Nat) (E : Nat → Nat → Nat)  (hE : ∀ h, h < 6 → ∀ n, n < 6 → σ (26 + h) n = nI (E h n) ∧ E h n ≤ 9) (hM : ∀ k, k < 64 → σ 32 k = nI (xbm E k)) (hh : h < 6) : Met l yX0_nameOf wsX0_nameOf (xrm 2) (va_Pc [.ref (α 24), .int (nI h)] (xPre D K 42 α (xC α K) σ)) (vp_Si (fun r => r = nI (xbl E (xbt E h) h))) 0 0 (fun _ => False) := by
  refine Met.ofW (cc := cX0_nameOf) (maxL := 5) (ret := (some .int)) (by decide) rfl ?_
  intro p e s m args below meth c s₁ B hml hv
  obtain ⟨rfl, hK, hP⟩ := hv
  have S : CallFix p m c cX0_nameOf 5 s _ wsX0_nameOf RX0 := ⟨B.exec, B.bytes, hml, findClass_of_methodNamed B.named, atoms_spec (ws := wsX0_nameOf) B.pre⟩
  have hx := S.1
  have hb := S.2.1
  have hr := B.returns
  have hlocks := B.notSynchronized
  have hl := lv_entry ([.ref (α 24), .int (nI h)]) (n := 5) (Nat.le_of_ble_eq_true rfl)
  rw [lg_entry_eq]
  generalize (lg_sl ([.ref (α 24), .int (nI h)]) ++ List.replicate (5 - (lg_sl ([.ref (α 24), .int (nI h)])).length) Slot.unset).toArray = ls at hl ⊢
  have hl : lv_has ls 5 [(0, .ref (α 24)), (1, .int (nI h))] := hl
  have hPP := hP
  refine lv_iconst (v := nI 0) hx hb dX0_nameOf_0 (by decide) ?_
  refine lv_istore_n (lv' := [(2, .int (nI 0)), (0, .ref (α 24)), (1, .int (nI h))]) hx hb dX0_nameOf_1 rfl hl (by decide) rfl (fun ls hl => ?_)
  refine lv_iconst (v := (-1)) hx hb dX0_nameOf_2 (by decide) ?_
  refine lv_istore_n (lv' := [(3, .int (-1 : Int32)), (2, .int (nI 0)), (0, .ref (α 24)), (1, .int (nI h))]) hx hb dX0_nameOf_3 rfl hl (by decide) rfl (fun ls hl => ?_)
  refine lv_iconst (v := nI 0) hx hb dX0_nameOf_4 (by decide) ?_
  refine lv_istore (lv' := [(4, .int (nI 0)), (3, .int (-1 : Int32)), (2, .int (nI 0)), (0, .ref (α 24)), (1, .int (nI h))]) hx hb dX0_nameOf_5 hl (by decide) rfl (fun ls hl => ?_)
  refine x_loop (ι := Nat) (fun i ls => (i ≤ h + 1) ∧ lv_has ls 5 [(4, .int (nI i)), (3, .int (xbd E i)), (2, .int (nI (xbt E i))), (0, .ref (α 24)), (1, .int (nI h))]) (fun i => h + 1 - i) ?_ 0 ls ⟨Nat.zero_le _, lv_sub hl [0, 1, 2, 3, 4] rfl⟩
  intro i ls hinv ih_7
  obtain ⟨hi, hl⟩ := hinv
  have hl : lv_has ls 5 [(4, .int (nI i)), (3, .int (xbd E i)), (2, .int (nI (xbt E i))), (0, .ref (α 24)), (1, .int (nI h))] := hl
  refine lv_iload hx hb dX0_nameOf_7 (lv_at hl 0 rfl) ?_
  refine lv_iload_n hx hb dX0_nameOf_9 rfl (lv_at hl 4 rfl) ?_
  refine x_icmpN_gt (tgt := 40) S dX0_nameOf_10 (by decide) (by omega) (by omega) (fun c_10 => ?_) (fun c_10 => ?_)
  · have e9 : i = h + 1 := by omega
    subst e9
    refine lv_iload_n hx hb dX0_nameOf_40 rfl (lv_at hl 1 rfl) ?_
    exact x_iretR S hlocks hr rfl (rfl) dX0_nameOf_41
  · obtain ⟨hq1, hq2⟩ := xbt_inv E (i := i) (by omega)
    have hq3 := (xbl_spec E hq1 (by omega)).1
    rw [hq2] at hq3
    refine lv_aload_n hx hb dX0_nameOf_13 rfl (lv_at hl 3 rfl) ?_
    refine lv_iload_n hx hb dX0_nameOf_14 rfl (lv_at hl 2 rfl) ?_
    refine lv_iload hx hb dX0_nameOf_15 (lv_at hl 0 rfl) ?_
    refine x_cVRi (As := [.int (nI (xbt E i)), .int (nI i)]) (rest := []) S hK hP 24 (by omega) rfl rfl (c_X0_leastThatEarnsMost l σ (xbt E i) i E  (by first | assumption | omega) (by first | assumption | omega) (by first | assumption | omega) (by first | assumption | omega)) (x_cwV (n0 := 2) (cq := (RX0, TX0, 3)) S gX0_nameOf_X0_leastThatEarnsMost rfl (by decide +kernel) ⟨Nat.le_of_ble_eq_true rfl, Nat.le_of_ble_eq_true rfl⟩) rfl hl.1 rfl (Nat.le_of_ble_eq_true rfl) dX0_nameOf_17 ⟨Nat.le_refl _, Nat.le_refl _⟩ (fun r_17 hr_17 => ?_)
    subst hr_17
    refine x_top S (y := nI (xbl E (xbt E i) i)) (if_pos hq3) ?_
    refine lv_istore_n (lv' := [(3, .int (nI (xbl E (xbt E i) i))), (4, .int (nI i)), (2, .int (nI (xbt E i))), (0, .ref (α 24)), (1, .int (nI h))]) hx hb dX0_nameOf_20 rfl hl (by decide) rfl (fun ls hl => ?_)
    refine lv_iload_n hx hb dX0_nameOf_21 rfl (lv_at hl 0 rfl) ?_
    refine lv_iconst (v := (-1)) hx hb dX0_nameOf_22 (by decide) ?_
    refine lv_icmp_ne (tgt := 28) hx hb dX0_nameOf_23 (by decide) (fun _ => ?_) (fun q => absurd q (nI_m1 (by omega)))
    refine lv_iload_n hx hb dX0_nameOf_28 rfl (lv_at hl 2 rfl) ?_
    refine lv_iconst (v := nI 1) hx hb dX0_nameOf_29 (by decide) ?_
    refine lv_iload_n hx hb dX0_nameOf_30 rfl (lv_at hl 0 rfl) ?_
    refine lv_ishl hx hb dX0_nameOf_31 ?_
    refine lv_ior hx hb dX0_nameOf_32 ?_
    refine x_top S (y := nI (xbt E i ||| 2 ^ xbl E (xbt E i) i)) (xor_I (by omega)) ?_
    refine lv_istore_n (lv' := [(2, .int (nI (xbt E i ||| 2 ^ xbl E (xbt E i) i))), (3, .int (nI (xbl E (xbt E i) i))), (4, .int (nI i)), (0, .ref (α 24)), (1, .int (nI h))]) hx hb dX0_nameOf_33 rfl hl (by decide) rfl (fun ls hl => ?_)
    refine lv_iinc (v := nI (i + 1)) (lv' := [(4, .int (nI (i + 1))), (2, .int (nI (xbt E i ||| 2 ^ xbl E (xbt E i) i))), (3, .int (nI (xbl E (xbt E i) i))), (0, .ref (α 24)), (1, .int (nI h))]) hx hb dX0_nameOf_34 hl (k := 2) rfl (nI_add i 1) (by decide) rfl (fun ls hl => ?_)
    refine lv_goto (tgt := 7) hx hb dX0_nameOf_37 (by decide) ?_
    exact ih_7 (i + 1) ls ⟨(by omega), lv_sub hl [0, 2, 1, 3, 4] rfl⟩ (by (try dsimp only); omega)
set_option maxHeartbeats 4000000 in
set_option maxRecDepth 100000 in
theorem c_X0_weigh (l : Launch) {D : va_G} {K : Nat → ClassId} {α : Nat → Nat} (σ : Nat → Nat → Int32) (hI : xw_I 42 α) (E : Nat → Nat → Nat)  (hE : ∀ h, h < 6 → ∀ n, n < 6 → xs_earn (xFC σ) h n = nI (E h n) ∧ E h n ≤ 9) : Met l yX0_weigh wsX0_weigh (xrm 2) (va_Pc [.ref (α 24)] (xPre D K 42 α (xC α K) σ)) (xQv D 42 α (xC α K) (fun τ => τ = xst_w σ E)) 0 0 (xw_R 42 α) := by
  refine Met.ofW (cc := cX0_weigh) (maxL := 3) (ret := none) (by decide) rfl ?_
  intro p e s m args below meth c s₁ B hml hv
  obtain ⟨rfl, hK, hP⟩ := hv
  have S : CallFix p m c cX0_weigh 3 s _ wsX0_weigh RX0 := ⟨B.exec, B.bytes, hml, findClass_of_methodNamed B.named, atoms_spec (ws := wsX0_weigh) B.pre⟩
  have hx := S.1
  have hb := S.2.1
  have hr := B.returns
  have hlocks := B.notSynchronized
  have hS : va_S (xw_R 42 α) s.heap s.heap [] := va_S.rf
  have hl := lv_entry ([.ref (α 24)]) (n := 3) (Nat.le_of_ble_eq_true rfl)
  rw [lg_entry_eq]
  generalize (lg_sl ([.ref (α 24)]) ++ List.replicate (3 - (lg_sl ([.ref (α 24)])).length) Slot.unset).toArray = ls at hl ⊢
  have hl : lv_has ls 3 [(0, .ref (α 24))] := hl
  have hPP := hP
  refine lv_iconst (v := nI 0) hx hb dX0_weigh_0 (by decide) ?_
  refine lv_istore_n (lv' := [(1, .int (nI 0)), (0, .ref (α 24))]) hx hb dX0_weigh_1 rfl hl (by decide) rfl (fun ls hl => ?_)
  refine x_loopW (ι := Nat) (fun h H locs ls => (h ≤ 6) ∧ lv_has ls 3 [(1, .int (nI h)), (0, .ref (α 24))] ∧ va_P D vwCl (xw 42 α (xC α K) (xwr σ E h 0)) H ∧ va_S (xw_R 42 α) s.heap H locs) (fun h => 6 - h) ?_ 0 ls ⟨Nat.zero_le _, lv_sub hl [0, 1] rfl, (by rw [xwr_0]; exact hP), hS⟩
  intro h H locs ls hinv ih_2
  obtain ⟨hh, hl, hP, hS⟩ := hinv
  have hl : lv_has ls 3 [(1, .int (nI h)), (0, .ref (α 24))] := hl
  have hP : va_P D vwCl (xw 42 α (xC α K) (xwr σ E h 0)) H := hP
  refine lv_iload_n hx hb dX0_weigh_2 rfl (lv_at hl 0 rfl) ?_
  refine lv_bipush (v := nI 6) hx hb dX0_weigh_3 (by decide) ?_
  refine x_icmpN_ge (tgt := 45) S dX0_weigh_5 (by decide) (by omega) (by omega) (fun c_5 => ?_) (fun c_5 => ?_)
  · have e9 : h = 6 := by omega
    subst e9
    refine lv_aload_n hx hb dX0_weigh_45 rfl (lv_at hl 1 rfl) ?_
    refine x_get S (fun w h => List.mem_cons_of_mem _ (List.mem_append_left _ (List.mem_append_right _ h))) hK hP 24 (by omega) rfl rfl 2 (by decide) (List.mem_of_getElem? (i := 3) rfl) rfl dX0_weigh_46 ?_
    refine lv_bipush (v := nI 63) hx hb dX0_weigh_49 (by decide) ?_
    refine lv_iconst (v := nI 0) hx hb dX0_weigh_51 (by decide) ?_
    refine x_iast S hK hP hI hS 32 (by omega) (fun _ => rfl) (by first | assumption | omega) (by omega) dX0_weigh_52 (fun H locs hP hS => ?_)
    have hP : va_P D vwCl (xw 42 α (xC α K) (va_up (xwr σ E 6 0) 32 (xfd (fun k => nI (xbm E k)) (σ 32) 63 64))) H := by
      rw [show va_up (xwr σ E 6 0) 32 (xfd (fun k => nI (xbm E k)) (σ 32) 63 64) = (va_up (xwr σ E 6 0) 32 (upd ((xwr σ E 6 0) 32) 63 (nI 0))) from by rw [show xwr σ E 6 0 32 = σ 32 from (xwr_at σ E 6 0).trans (fa_fill_0 _ _), ← xfd_succ _ _ (by decide), xfd_0]; rfl]; exact hP
    refine lv_bipush (v := nI 62) hx hb dX0_weigh_53 (by decide) ?_
    refine lv_istore_n (lv' := [(1, .int (nI 62)), (0, .ref (α 24))]) hx hb dX0_weigh_55 rfl hl (by decide) rfl (fun ls hl => ?_)
    refine x_loopW (ι := Nat) (fun i H locs ls => (i ≤ 63) ∧ lv_has ls 3 [(1, .int (nI i - nI 1)), (0, .ref (α 24))] ∧ va_P D vwCl (xw 42 α (xC α K) (va_up (xwr σ E 6 0) 32 (xfd (fun k => nI (xbm E k)) (σ 32) i 64))) H ∧ va_S (xw_R 42 α) s.heap H locs) (fun i => i) ?_ 63 ls ⟨Nat.le_refl _, lv_sub hl [0, 1] rfl, hP, hS⟩
    intro i H locs ls hinv ih_56
    obtain ⟨hi, hl, hP, hS⟩ := hinv
    have hl : lv_has ls 3 [(1, .int (nI i - nI 1)), (0, .ref (α 24))] := hl
    have hP : va_P D vwCl (xw 42 α (xC α K) (va_up (xwr σ E 6 0) 32 (xfd (fun k => nI (xbm E k)) (σ 32) i 64))) H := hP
    refine lv_iload_n hx hb dX0_weigh_56 rfl (lv_at hl 0 rfl) ?_
    refine lv_if_lt (tgt := 77) hx hb dX0_weigh_57 (by decide) (fun c_57 => ?_) (fun c_57 => ?_)
    · have e9 : i = 0 := by
        rcases Nat.eq_zero_or_pos i with q | q
        · exact q
        · rw [pk_sub (by omega)] at c_57; exact absurd c_57 (nI_pos (by omega))
      subst e9
      exact x_vretW S hlocks hP hS hr (rfl) dX0_weigh_77
    · obtain ⟨j, rfl⟩ : ∃ j, i = j + 1 := ⟨i - 1, by have := nI_m1_lt c_57; omega⟩
      rw [pk_sub (by omega), Nat.add_sub_cancel] at hl
      refine lv_aload_n hx hb dX0_weigh_60 rfl (lv_at hl 1 rfl) ?_
      refine x_get S (fun w h => List.mem_cons_of_mem _ (List.mem_append_left _ (List.mem_append_right _ h))) hK hP 24 (by omega) rfl rfl 2 (by decide) (List.mem_of_getElem? (i := 3) rfl) rfl dX0_weigh_61 ?_
      refine lv_iload_n hx hb dX0_weigh_64 rfl (lv_at hl 0 rfl) ?_
      refine lv_aload_n hx hb dX0_weigh_65 rfl (lv_at hl 1 rfl) ?_
      refine lv_iload_n hx hb dX0_weigh_66 rfl (lv_at hl 0 rfl) ?_
      refine x_cVRi (As := [.int (nI j)]) (rest := [.int (nI j), .ref (α 32)]) S hK hP 24 (by omega) rfl rfl (c_X0_mostFrom l (va_up (xwr σ E 6 0) 32 (xfd (fun k => nI (xbm E k)) (σ 32) (j + 1) 64)) j E  (fun h hh n hn => ⟨by rw [xup_n _ _ (by omega)]; exact xwr_row hh hn, (hE h hh n hn).2⟩) (by first | assumption | omega) (fun k h1 h2 => by rw [xup_s, xfd_in (by omega) h2])) (x_cwV (n0 := 1) (cq := (RX0, TX0, 3)) S gX0_weigh_X0_mostFrom rfl (by decide +kernel) ⟨Nat.le_of_ble_eq_true rfl, Nat.le_of_ble_eq_true rfl⟩) rfl hl.1 rfl (Nat.le_of_ble_eq_true rfl) dX0_weigh_67 ⟨Nat.le_refl _, Nat.le_refl _⟩ (fun r_67 hr_67 => ?_)
      subst hr_67
      refine x_iast S hK hP hI hS 32 (by omega) (fun _ => rfl) (by first | assumption | omega) (by omega) dX0_weigh_70 (fun H locs hP hS => ?_)
      have hP : va_P D vwCl (xw 42 α (xC α K) (va_up (xwr σ E 6 0) 32 (xfd (fun k => nI (xbm E k)) (σ 32) j 64))) H := by
        rw [show va_up (xwr σ E 6 0) 32 (xfd (fun k => nI (xbm E k)) (σ 32) j 64) = (va_up (va_up (xwr σ E 6 0) 32 (xfd (fun k => nI (xbm E k)) (σ 32) (j + 1) 64)) 32 (upd ((va_up (xwr σ E 6 0) 32 (xfd (fun k => nI (xbm E k)) (σ 32) (j + 1) 64)) 32) j (nI (xbm E j)))) from by rw [bx_uu, xup_s, xfd_succ _ _ (by omega)]]; exact hP
      refine lv_iinc (v := nI j - nI 1) (lv' := [(1, .int (nI j - nI 1)), (0, .ref (α 24))]) hx hb dX0_weigh_71 hl (k := 0) rfl (by rw [Int32.sub_eq_add_neg]; rfl) (by decide) rfl (fun ls hl => ?_)
      refine lv_goto (tgt := 56) hx hb dX0_weigh_74 (by decide) ?_
      exact ih_56 j H locs ls ⟨(by omega), lv_sub hl [0, 1] rfl, hP, hS⟩ (by (try dsimp only); omega)
  · refine lv_iconst (v := nI 0) hx hb dX0_weigh_8 (by decide) ?_
    refine lv_istore_n (lv' := [(2, .int (nI 0)), (1, .int (nI h)), (0, .ref (α 24))]) hx hb dX0_weigh_9 rfl hl (by decide) rfl (fun ls hl => ?_)
    refine x_loopW (ι := Nat) (fun n H locs ls => (n ≤ 6) ∧ lv_has ls 3 [(2, .int (nI n)), (1, .int (nI h)), (0, .ref (α 24))] ∧ va_P D vwCl (xw 42 α (xC α K) (xwr σ E h n)) H ∧ va_S (xw_R 42 α) s.heap H locs) (fun n => 6 - n) ?_ 0 ls ⟨Nat.zero_le _, lv_sub hl [0, 1, 2] rfl, hP, hS⟩
    intro n H locs ls hinv ih_10
    obtain ⟨hn, hl, hP, hS⟩ := hinv
    have hl : lv_has ls 3 [(2, .int (nI n)), (1, .int (nI h)), (0, .ref (α 24))] := hl
    have hP : va_P D vwCl (xw 42 α (xC α K) (xwr σ E h n)) H := hP
    refine lv_iload_n hx hb dX0_weigh_10 rfl (lv_at hl 0 rfl) ?_
    refine lv_bipush (v := nI 6) hx hb dX0_weigh_11 (by decide) ?_
    refine x_icmpN_ge (tgt := 39) S dX0_weigh_13 (by decide) (by omega) (by omega) (fun c_13 => ?_) (fun c_13 => ?_)
    · have e9 : n = 6 := by omega
      subst e9
      refine lv_iinc (v := nI (h + 1)) (lv' := [(1, .int (nI (h + 1))), (2, .int (nI 6)), (0, .ref (α 24))]) hx hb dX0_weigh_39 hl (k := 1) rfl (nI_add h 1) (by decide) rfl (fun ls hl => ?_)
      refine lv_goto (tgt := 2) hx hb dX0_weigh_42 (by decide) ?_
      exact ih_2 (h + 1) H locs ls ⟨(by omega), lv_sub hl [0, 2] rfl, (by rw [show xwr σ E (h + 1) 0 = (xwr σ E h 6) from (xwr_next σ E h).symm]; exact hP), hS⟩ (by (try dsimp only); omega)
    · refine lv_aload_n hx hb dX0_weigh_16 rfl (lv_at hl 2 rfl) ?_
      refine x_get S (fun w h => List.mem_cons_of_mem _ (List.mem_append_left _ (List.mem_append_right _ h))) hK hP 24 (by omega) rfl rfl 1 (by decide) (List.mem_of_getElem? (i := 1) rfl) rfl dX0_weigh_17 ?_
      refine lv_iload_n hx hb dX0_weigh_20 rfl (lv_at hl 1 rfl) ?_
      refine x_aald S hK hP 25 1 (by omega) rfl rfl rfl (by first | assumption | omega) (by omega) rfl dX0_weigh_21 ?_
      refine lv_iload_n hx hb dX0_weigh_22 rfl (lv_at hl 0 rfl) ?_
      refine lv_aload_n hx hb dX0_weigh_23 rfl (lv_at hl 2 rfl) ?_
      refine x_get S (fun w h => List.mem_cons_of_mem _ (List.mem_append_left _ (List.mem_append_right _ h))) hK hP 24 (by omega) rfl rfl 0 (by decide) (List.mem_of_getElem? (i := 2) rfl) rfl dX0_weigh_24 ?_
      refine lv_iload_n hx hb dX0_weigh_27 rfl (lv_at hl 1 rfl) ?_
      refine lv_iload_n hx hb dX0_weigh_28 rfl (lv_at hl 0 rfl) ?_
      refine x_cVRi (As := [.int (nI h), .int (nI n)]) (rest := [.int (nI n), .ref (α (26 + h))]) S hK hP 1 (by omega) rfl rfl (c_X4_earning l (xwr σ E h n) h n  (by first | assumption | omega) (by first | assumption | omega)) (x_cwV (n0 := 2) (cq := (RX4, TX4, 2)) S gX0_weigh_X4_earning rfl (by decide +kernel) ⟨Nat.le_of_ble_eq_true rfl, Nat.le_of_ble_eq_true rfl⟩) rfl hl.1 rfl (Nat.le_of_ble_eq_true rfl) dX0_weigh_29 ⟨Nat.le_refl _, Nat.le_refl _⟩ (fun r_29 hr_29 => ?_)
      subst hr_29
      refine x_top S (y := nI (E h n)) (by rw [xFC_w]; exact (hE h (by omega) n (by omega)).1) ?_
      refine x_iast S hK hP hI hS (26 + h) (by omega) (fun v => xC_e (by first | assumption | omega) v) (by first | assumption | omega) (by omega) dX0_weigh_32 (fun H locs hP hS => ?_)
      have hP : va_P D vwCl (xw 42 α (xC α K) (xwr σ E h (n + 1))) H := by
        rw [show xwr σ E h (n + 1) = (va_up (xwr σ E h n) (26 + h) (upd ((xwr σ E h n) (26 + h)) n (nI (E h n)))) from xwr_up σ E h n]; exact hP
      refine lv_iinc (v := nI (n + 1)) (lv' := [(2, .int (nI (n + 1))), (1, .int (nI h)), (0, .ref (α 24))]) hx hb dX0_weigh_33 hl (k := 0) rfl (nI_add n 1) (by decide) rfl (fun ls hl => ?_)
      refine lv_goto (tgt := 10) hx hb dX0_weigh_36 (by decide) ?_
      exact ih_10 (n + 1) H locs ls ⟨(by omega), lv_sub hl [0, 1, 2] rfl, hP, hS⟩ (by (try dsimp only); omega)

set_option maxHeartbeats 4000000 in
set_option maxRecDepth 100000 in
theorem c_X9_isSound (l : Launch) {D : va_G} {K : Nat → ClassId} {α : Nat → Nat} (σ : Nat → Nat → Int32) (rw9 : Nat → Nat)  (hrow : ∀ h, h < 6 → σ 8 h = nI (rw9 h) ∧ rw9 h < 6) : Met l yX9_isSound wsX9_isSound (xrm 1) (va_Pc [.ref (α 0)] (xPre D K 20 α (xM α K) σ)) (vp_Si (fun r => r = xb (xall (fun h => xs_fit (xFM σ) h (rw9 h)) 6))) 0 0 (fun _ => False) := by
  refine Met.ofW (cc := cX9_isSound) (maxL := 2) (ret := (some .boolean)) (by decide) rfl ?_
  intro p e s m args below meth c s₁ B hml hv
  obtain ⟨rfl, hK, hP⟩ := hv
  have S : CallFix p m c cX9_isSound 2 s _ wsX9_isSound RX9 := ⟨B.exec, B.bytes, hml, findClass_of_methodNamed B.named, atoms_spec (ws := wsX9_isSound) B.pre⟩
  have hx := S.1
  have hb := S.2.1
  have hr := B.returns
  have hlocks := B.notSynchronized
  have hl := lv_entry ([.ref (α 0)]) (n := 2) (Nat.le_of_ble_eq_true rfl)
  rw [lg_entry_eq]
  generalize (lg_sl ([.ref (α 0)]) ++ List.replicate (2 - (lg_sl ([.ref (α 0)])).length) Slot.unset).toArray = ls at hl ⊢
  have hl : lv_has ls 2 [(0, .ref (α 0))] := hl
  have hPP := hP
  refine lv_iconst (v := nI 0) hx hb dX9_isSound_0 (by decide) ?_
  refine lv_istore_n (lv' := [(1, .int (nI 0)), (0, .ref (α 0))]) hx hb dX9_isSound_1 rfl hl (by decide) rfl (fun ls hl => ?_)
  refine x_loop (ι := Nat) (fun i ls => (i ≤ 6) ∧ (∀ h, h < i → xs_fit (xFM σ) h (rw9 h)) ∧ lv_has ls 2 [(1, .int (nI i)), (0, .ref (α 0))]) (fun i => 6 - i) ?_ 0 ls ⟨Nat.zero_le _, fun j hj => absurd hj (Nat.not_lt_zero j), lv_sub hl [0, 1] rfl⟩
  intro i ls hinv ih_2
  obtain ⟨hi, hno, hl⟩ := hinv
  have hl : lv_has ls 2 [(1, .int (nI i)), (0, .ref (α 0))] := hl
  refine lv_iload_n hx hb dX9_isSound_2 rfl (lv_at hl 0 rfl) ?_
  refine lv_bipush (v := nI 6) hx hb dX9_isSound_3 (by decide) ?_
  refine x_icmpN_ge (tgt := 30) S dX9_isSound_5 (by decide) (by omega) (by omega) (fun c_5 => ?_) (fun c_5 => ?_)
  · refine lv_iconst (v := nI 1) hx hb dX9_isSound_30 (by decide) ?_
    exact x_iretR S hlocks hr rfl ((xb_t (xall_of fun h hh => hno h (by omega))).symm) dX9_isSound_31
  · refine lv_aload_n hx hb dX9_isSound_8 rfl (lv_at hl 1 rfl) ?_
    refine lv_iload_n hx hb dX9_isSound_9 rfl (lv_at hl 0 rfl) ?_
    refine lv_aload_n hx hb dX9_isSound_10 rfl (lv_at hl 1 rfl) ?_
    refine x_get S (fun w h => List.mem_cons_of_mem _ (List.mem_append_right _ h)) hK hP 0 (by omega) rfl rfl 9 (by decide) (List.mem_of_getElem? (i := 1) rfl) rfl dX9_isSound_11 ?_
    refine lv_iload_n hx hb dX9_isSound_14 rfl (lv_at hl 0 rfl) ?_
    refine x_iald S hK hP 8 (by omega) rfl (by first | assumption | omega) (by omega) dX9_isSound_15 ?_
    refine x_top S (y := nI (rw9 i)) ((hrow i (by omega)).1) ?_
    refine x_cVRi (As := [.int (nI i), .int (nI (rw9 i))]) (rest := []) S hK hP 0 (by omega) rfl rfl (c_X9_doesFit l σ i (rw9 i)  (by first | assumption | omega) ((hrow i (by omega)).2)) (x_cwV (n0 := 2) (cq := (RX9, TX9, 24)) S gX9_isSound_X9_doesFit rfl (by decide +kernel) ⟨Nat.le_of_ble_eq_true rfl, Nat.le_of_ble_eq_true rfl⟩) rfl hl.1 rfl (Nat.le_of_ble_eq_true rfl) dX9_isSound_16 ⟨Nat.le_refl _, Nat.le_refl _⟩ (fun r_16 hr_16 => ?_)
    subst hr_16
    refine x_if_neB (tgt := 24) S dX9_isSound_19 (by decide) (fun c_19 => ?_) (fun c_19 => ?_)
    · refine lv_iinc (v := nI (i + 1)) (lv' := [(1, .int (nI (i + 1))), (0, .ref (α 0))]) hx hb dX9_isSound_24 hl (k := 0) rfl (nI_add i 1) (by decide) rfl (fun ls hl => ?_)
      refine lv_goto (tgt := 2) hx hb dX9_isSound_27 (by decide) ?_
      exact ih_2 (i + 1) ls ⟨(by omega), lt_s hno c_19, lv_sub hl [0, 1] rfl⟩ (by (try dsimp only); omega)
    · refine lv_iconst (v := nI 0) hx hb dX9_isSound_22 (by decide) ?_
      exact x_iretR S hlocks hr rfl (by refine (xb_f fun q => ?_).symm; exact c_19 (xall_to q i (by omega))) dX9_isSound_23
set_option maxHeartbeats 4000000 in
set_option maxRecDepth 100000 in
theorem c_X9_onOf (l : Launch) {D : va_G} {K : Nat → ClassId} {α : Nat → Nat} (σ : Nat → Nat → Int32) (y : Nat) (h : Nat) (t : Nat) (Y : Nat)  (hbk : ∀ y, y < Y → ∀ h, h < 6 → σ 7 (6 * y + h) = nI (xnm (σ 6) y h)) (hY : xY (σ 6) Y) (hY12 : Y ≤ 12) (hy : y < Y) (hh : h < 6) (ht : t < 2147483648) : Met l yX9_onOf wsX9_onOf (xrm 0) (va_Pc [.ref (α 0), .int (nI y), .int (nI h), .int (nI t)] (xPre D K 20 α (xM α K) σ)) (vp_Si (fun r => r = nI (xs_on (σ 6) y h t))) 0 0 (fun _ => False) := by
  refine Met.ofW (cc := cX9_onOf) (maxL := 6) (ret := (some .int)) (by decide) rfl ?_
  intro p e s m args below meth c s₁ B hml hv
  obtain ⟨rfl, hK, hP⟩ := hv
  have S : CallFix p m c cX9_onOf 6 s _ wsX9_onOf RX9 := ⟨B.exec, B.bytes, hml, findClass_of_methodNamed B.named, atoms_spec (ws := wsX9_onOf) B.pre⟩
  have hx := S.1
  have hb := S.2.1
  have hr := B.returns
  have hlocks := B.notSynchronized
  have hl := lv_entry ([.ref (α 0), .int (nI y), .int (nI h), .int (nI t)]) (n := 6) (Nat.le_of_ble_eq_true rfl)
  rw [lg_entry_eq]
  generalize (lg_sl ([.ref (α 0), .int (nI y), .int (nI h), .int (nI t)]) ++ List.replicate (6 - (lg_sl ([.ref (α 0), .int (nI y), .int (nI h), .int (nI t)])).length) Slot.unset).toArray = ls at hl ⊢
  have hl : lv_has ls 6 [(0, .ref (α 0)), (1, .int (nI y)), (2, .int (nI h)), (3, .int (nI t))] := hl
  have hPP := hP
  refine lv_iload_n hx hb dX9_onOf_0 rfl (lv_at hl 2 rfl) ?_
  refine lv_istore (lv' := [(4, .int (nI h)), (0, .ref (α 0)), (1, .int (nI y)), (2, .int (nI h)), (3, .int (nI t))]) hx hb dX9_onOf_1 hl (by decide) rfl (fun ls hl => ?_)
  refine lv_iconst (v := nI 0) hx hb dX9_onOf_3 (by decide) ?_
  refine lv_istore (lv' := [(5, .int (nI 0)), (4, .int (nI h)), (0, .ref (α 0)), (1, .int (nI y)), (2, .int (nI h)), (3, .int (nI t))]) hx hb dX9_onOf_4 hl (by decide) rfl (fun ls hl => ?_)
  refine x_loop (ι := Nat) (fun i ls => (i ≤ t) ∧ lv_has ls 6 [(5, .int (nI i)), (4, .int (nI (xs_on (σ 6) y h i))), (0, .ref (α 0)), (1, .int (nI y)), (2, .int (nI h)), (3, .int (nI t))]) (fun i => t - i) ?_ 0 ls ⟨Nat.zero_le _, lv_sub hl [0, 1, 2, 3, 4, 5] rfl⟩
  intro i ls hinv ih_6
  obtain ⟨hi, hl⟩ := hinv
  have hl : lv_has ls 6 [(5, .int (nI i)), (4, .int (nI (xs_on (σ 6) y h i))), (0, .ref (α 0)), (1, .int (nI y)), (2, .int (nI h)), (3, .int (nI t))] := hl
  have hq1 := xs_on_lt hY hy hh i
  refine lv_iload hx hb dX9_onOf_6 (lv_at hl 0 rfl) ?_
  refine lv_iload_n hx hb dX9_onOf_8 rfl (lv_at hl 5 rfl) ?_
  refine x_icmpN_ge (tgt := 32) S dX9_onOf_9 (by decide) (by omega) (by omega) (fun c_9 => ?_) (fun c_9 => ?_)
  · have e9 : i = t := by omega
    subst e9
    refine lv_iload hx hb dX9_onOf_32 (lv_at hl 1 rfl) ?_
    exact x_iretR S hlocks hr rfl (rfl) dX9_onOf_34
  · refine lv_aload_n hx hb dX9_onOf_12 rfl (lv_at hl 2 rfl) ?_
    refine x_get S (fun w h => List.mem_cons_of_mem _ (List.mem_append_right _ h)) hK hP 0 (by omega) rfl rfl 8 (by decide) (List.mem_of_getElem? (i := 1) rfl) rfl dX9_onOf_13 ?_
    refine lv_bipush (v := nI 6) hx hb dX9_onOf_16 (by decide) ?_
    refine lv_iload_n hx hb dX9_onOf_18 rfl (lv_at hl 3 rfl) ?_
    refine x_imulN S dX9_onOf_19 ?_
    refine lv_iload hx hb dX9_onOf_20 (lv_at hl 1 rfl) ?_
    refine x_iaddN S dX9_onOf_22 ?_
    refine x_iald S hK hP 7 (by omega) rfl (by first | assumption | omega) (by omega) dX9_onOf_23 ?_
    refine x_top S (y := nI (xs_on (σ 6) y h (i + 1))) (hbk y hy _ hq1) ?_
    refine lv_istore (lv' := [(4, .int (nI (xs_on (σ 6) y h (i + 1)))), (5, .int (nI i)), (0, .ref (α 0)), (1, .int (nI y)), (2, .int (nI h)), (3, .int (nI t))]) hx hb dX9_onOf_24 hl (by decide) rfl (fun ls hl => ?_)
    refine lv_iinc (v := nI (i + 1)) (lv' := [(5, .int (nI (i + 1))), (4, .int (nI (xs_on (σ 6) y h (i + 1)))), (0, .ref (α 0)), (1, .int (nI y)), (2, .int (nI h)), (3, .int (nI t))]) hx hb dX9_onOf_26 hl (k := 1) rfl (nI_add i 1) (by decide) rfl (fun ls hl => ?_)
    refine lv_goto (tgt := 6) hx hb dX9_onOf_29 (by decide) ?_
    exact ih_6 (i + 1) ls ⟨(by omega), lv_sub hl [0, 1, 2, 3, 4, 5] rfl⟩ (by (try dsimp only); omega)
set_option maxHeartbeats 4000000 in
set_option maxRecDepth 100000 in
theorem c_X9_returnsOf (l : Launch) {D : va_G} {K : Nat → ClassId} {α : Nat → Nat} (σ : Nat → Nat → Int32) (y : Nat) (Y : Nat)  (hbk : ∀ y, y < Y → ∀ h, h < 6 → σ 7 (6 * y + h) = nI (xnm (σ 6) y h)) (hY : xY (σ 6) Y) (hY12 : Y ≤ 12) (hPm : xPm (σ 6) Y) (hy : y < Y) : Met l yX9_returnsOf wsX9_returnsOf (xrm 1) (va_Pc [.ref (α 0), .int (nI y), .int (-1)] (xPre D K 20 α (xM α K) σ)) (vp_Si (fun r => r = nI (xs_ret (σ 6) y (-1) + 1))) 0 0 (fun _ => False) := by
  refine Met.ofW (cc := cX9_returnsOf) (maxL := 6) (ret := (some .int)) (by decide) rfl ?_
  intro p e s m args below meth c s₁ B hml hv
  obtain ⟨rfl, hK, hP⟩ := hv
  have S : CallFix p m c cX9_returnsOf 6 s _ wsX9_returnsOf RX9 := ⟨B.exec, B.bytes, hml, findClass_of_methodNamed B.named, atoms_spec (ws := wsX9_returnsOf) B.pre⟩
  have hx := S.1
  have hb := S.2.1
  have hr := B.returns
  have hlocks := B.notSynchronized
  have hl := lv_entry ([.ref (α 0), .int (nI y), .int (-1)]) (n := 6) (Nat.le_of_ble_eq_true rfl)
  rw [lg_entry_eq]
  generalize (lg_sl ([.ref (α 0), .int (nI y), .int (-1)]) ++ List.replicate (6 - (lg_sl ([.ref (α 0), .int (nI y), .int (-1)])).length) Slot.unset).toArray = ls at hl ⊢
  have hl : lv_has ls 6 [(0, .ref (α 0)), (1, .int (nI y)), (2, .int (-1 : Int32))] := hl
  have hPP := hP
  obtain ⟨N0, hN0⟩ : ∃ z, z = xs_ret (σ 6) y (-1) := ⟨_, rfl⟩
  obtain ⟨hr1, hr2, hr3⟩ := xs_ret_spec (x := (-1)) hY hPm hy (Or.inl rfl)
  rw [← hN0] at hr1 hr2 hr3
  refine lv_iconst (v := nI 1) hx hb dX9_returnsOf_0 (by decide) ?_
  refine lv_istore_n (lv' := [(3, .int (nI 1)), (0, .ref (α 0)), (1, .int (nI y)), (2, .int (-1 : Int32))]) hx hb dX9_returnsOf_1 rfl hl (by decide) rfl (fun ls hl => ?_)
  refine lv_iconst (v := nI 0) hx hb dX9_returnsOf_2 (by decide) ?_
  refine x_top S (y := xb (false = true)) ((xb_f (by decide)).symm) ?_
  refine lv_istore (lv' := [(4, .int (xb (false = true))), (3, .int (nI 1)), (0, .ref (α 0)), (1, .int (nI y)), (2, .int (-1 : Int32))]) hx hb dX9_returnsOf_3 hl (by decide) rfl (fun ls hl => ?_)
  refine x_loop (ι := Nat × Bool) (fun z9 ls => match z9 with | ⟨i, b⟩ => (i ≤ N0) ∧ (b = true → xs_bk (σ 6) y (-1) (i + 1)) ∧ lv_has ls 6 [(4, .int (xb (b = true))), (3, .int (nI (i + 1))), (0, .ref (α 0)), (1, .int (nI y)), (2, .int (-1 : Int32))]) (fun z9 => match z9 with | ⟨i, b⟩ => 2 * (N0 - i) + (if b then 0 else 1)) ?_ (⟨0, false⟩) ls ⟨Nat.zero_le _, (fun q => absurd q (by decide)), lv_sub hl [0, 1, 2, 3, 4] rfl⟩
  intro z9 ls hinv ih_5
  obtain ⟨i, b⟩ := z9
  obtain ⟨hi, hb1, hl⟩ := hinv
  have hl : lv_has ls 6 [(4, .int (xb (b = true))), (3, .int (nI (i + 1))), (0, .ref (α 0)), (1, .int (nI y)), (2, .int (-1 : Int32))] := hl
  refine lv_iload hx hb dX9_returnsOf_5 (lv_at hl 0 rfl) ?_
  refine x_if_neB (tgt := 81) S dX9_returnsOf_7 (by decide) (fun c_7 => ?_) (fun c_7 => ?_)
  · have hii : i = N0 := by
      rcases Nat.lt_or_ge i N0 with q | q
      · exact absurd (hb1 c_7) (hr3 i q)
      · omega
    refine lv_iload_n hx hb dX9_returnsOf_81 rfl (lv_at hl 1 rfl) ?_
    exact x_iretR S hlocks hr rfl (by rw [hii, hN0]) dX9_returnsOf_82
  · have hbf : b = false := by simpa using c_7
    subst hbf
    refine lv_iconst (v := nI 1) hx hb dX9_returnsOf_10 (by decide) ?_
    refine x_top S (y := xb (xall (fun j => xs_on (σ 6) y j (i + 1) = j) 0)) ((xb_t (xall_of (fun j hj => absurd hj (Nat.not_lt_zero j)))).symm) ?_
    refine lv_istore (lv' := [(4, .int (xb (xall (fun j => xs_on (σ 6) y j (i + 1) = j) 0))), (3, .int (nI (i + 1))), (0, .ref (α 0)), (1, .int (nI y)), (2, .int (-1 : Int32))]) hx hb dX9_returnsOf_11 hl (by decide) rfl (fun ls hl => ?_)
    refine lv_iconst (v := nI 0) hx hb dX9_returnsOf_13 (by decide) ?_
    refine lv_istore (lv' := [(5, .int (nI 0)), (4, .int (xb (xall (fun j => xs_on (σ 6) y j (i + 1) = j) 0))), (3, .int (nI (i + 1))), (0, .ref (α 0)), (1, .int (nI y)), (2, .int (-1 : Int32))]) hx hb dX9_returnsOf_14 hl (by decide) rfl (fun ls hl => ?_)
    refine x_loop (ι := Nat) (fun h ls => (h ≤ 6) ∧ lv_has ls 6 [(5, .int (nI h)), (4, .int (xb (xall (fun j => xs_on (σ 6) y j (i + 1) = j) h))), (3, .int (nI (i + 1))), (0, .ref (α 0)), (1, .int (nI y)), (2, .int (-1 : Int32))]) (fun h => 6 - h) ?_ 0 ls ⟨Nat.zero_le _, lv_sub hl [0, 1, 2, 3, 4, 5] rfl⟩
    intro h ls hinv ih_16
    obtain ⟨hh6, hl⟩ := hinv
    have hl : lv_has ls 6 [(5, .int (nI h)), (4, .int (xb (xall (fun j => xs_on (σ 6) y j (i + 1) = j) h))), (3, .int (nI (i + 1))), (0, .ref (α 0)), (1, .int (nI y)), (2, .int (-1 : Int32))] := hl
    refine lv_iload hx hb dX9_returnsOf_16 (lv_at hl 0 rfl) ?_
    refine lv_bipush (v := nI 6) hx hb dX9_returnsOf_18 (by decide) ?_
    refine x_icmpN_ge (tgt := 65) S dX9_returnsOf_20 (by decide) (by omega) (by omega) (fun c_20 => ?_) (fun c_20 => ?_)
    · have e9 : h = 6 := by omega
      subst e9
      refine lv_iload_n hx hb dX9_returnsOf_65 rfl (lv_at hl 2 rfl) ?_
      refine lv_iload hx hb dX9_returnsOf_66 (lv_at hl 1 rfl) ?_
      refine x_if_eqB (tgt := 75) S dX9_returnsOf_68 (by decide) (fun c_68 => ?_) (fun c_68 => ?_)
      · have hi9 : i + 1 ≤ N0 := by
          rcases Nat.lt_or_ge i N0 with q | q
          · exact q
          · have e8 : i = N0 := by omega
            subst e8
            exact absurd ((fun q => by rcases q with q | q; exact q.2; exact absurd rfl q.1) hr2) c_68
        refine lv_iconst (v := nI 1) hx hb dX9_returnsOf_75 (by decide) ?_
        refine x_iaddN S dX9_returnsOf_76 ?_
        refine lv_istore_n (lv' := [(3, .int (nI ((i + 1) + 1))), (5, .int (nI 6)), (4, .int (xb (xall (fun j => xs_on (σ 6) y j (i + 1) = j) 6))), (0, .ref (α 0)), (1, .int (nI y)), (2, .int (-1 : Int32))]) hx hb dX9_returnsOf_77 rfl hl (by decide) rfl (fun ls hl => ?_)
        refine lv_goto (tgt := 5) hx hb dX9_returnsOf_78 (by decide) ?_
        exact ih_5 (⟨i + 1, false⟩) ls ⟨hi9, (fun q => absurd q (by decide)), (by have h9 := lv_sub (l' := [(4, .int (xb (xall (fun j => xs_on (σ 6) y j (i + 1) = j) 6))), (3, .int (nI ((i + 1) + 1))), (0, .ref (α 0)), (1, .int (nI y)), (2, .int (-1 : Int32))]) hl [2, 0, 3, 4, 5] rfl; rw [show xb (xall (fun j => xs_on (σ 6) y j (i + 1) = j) 6) = xb (false = true) from (xb_f c_68).trans (xb_f (by decide)).symm] at h9; exact h9)⟩ (by (first | (simp; done) | (simp; omega) | (simp at *; omega)))
      · have hbk9 : xs_bk (σ 6) y (-1) (i + 1) := (fun q => Or.inl ⟨rfl, q⟩) c_68
        refine lv_iconst (v := nI 0) hx hb dX9_returnsOf_71 (by decide) ?_
        refine lv_goto (tgt := 76) hx hb dX9_returnsOf_72 (by decide) ?_
        refine x_iaddN S dX9_returnsOf_76 ?_
        refine lv_istore_n (lv' := [(3, .int (nI ((i + 1) + 0))), (5, .int (nI 6)), (4, .int (xb (xall (fun j => xs_on (σ 6) y j (i + 1) = j) 6))), (0, .ref (α 0)), (1, .int (nI y)), (2, .int (-1 : Int32))]) hx hb dX9_returnsOf_77 rfl hl (by decide) rfl (fun ls hl => ?_)
        refine lv_goto (tgt := 5) hx hb dX9_returnsOf_78 (by decide) ?_
        exact ih_5 (⟨i, true⟩) ls ⟨hi, (fun _ => hbk9), (by have h9 := lv_sub (l' := [(4, .int (xb (xall (fun j => xs_on (σ 6) y j (i + 1) = j) 6))), (3, .int (nI ((i + 1) + 0))), (0, .ref (α 0)), (1, .int (nI y)), (2, .int (-1 : Int32))]) hl [2, 0, 3, 4, 5] rfl; rw [show xb (xall (fun j => xs_on (σ 6) y j (i + 1) = j) 6) = xb (true = true) from (xb_t c_68).trans (xb_t rfl).symm] at h9; exact h9)⟩ (by (first | (simp; done) | (simp; omega) | (simp at *; omega)))
    · refine lv_iload hx hb dX9_returnsOf_23 (lv_at hl 1 rfl) ?_
      refine x_if_eqB (tgt := 56) S dX9_returnsOf_25 (by decide) (fun c_25 => ?_) (fun c_25 => ?_)
      · refine lv_iconst (v := nI 0) hx hb dX9_returnsOf_56 (by decide) ?_
        refine lv_istore (lv' := [(4, .int (nI 0)), (5, .int (nI h)), (3, .int (nI (i + 1))), (0, .ref (α 0)), (1, .int (nI y)), (2, .int (-1 : Int32))]) hx hb dX9_returnsOf_57 hl (by decide) rfl (fun ls hl => ?_)
        refine lv_iinc (v := nI (h + 1)) (lv' := [(5, .int (nI (h + 1))), (4, .int (nI 0)), (3, .int (nI (i + 1))), (0, .ref (α 0)), (1, .int (nI y)), (2, .int (-1 : Int32))]) hx hb dX9_returnsOf_59 hl (k := 1) rfl (nI_add h 1) (by decide) rfl (fun ls hl => ?_)
        refine lv_goto (tgt := 16) hx hb dX9_returnsOf_62 (by decide) ?_
        have hl : lv_has ls 6 [(5, .int (nI (h + 1))), (4, .int (xb (xall (fun j => xs_on (σ 6) y j (i + 1) = j) (h + 1)))), (3, .int (nI (i + 1))), (0, .ref (α 0)), (1, .int (nI y)), (2, .int (-1 : Int32))] := by
          rw [show xb (xall (fun j => xs_on (σ 6) y j (i + 1) = j) (h + 1)) = nI 0 from (Eq.symm (by refine (xb_f fun q => ?_).symm; first | exact c_25 (xall_of (fun j hj => xall_to q j (by omega))) | exact c_49 (xall_to q h (by omega)) | (rcases xall_to q h (by omega) with w | w; exact w c_36; exact c_49 w)))]; exact hl
        exact ih_16 (h + 1) ls ⟨(by omega), lv_sub hl [0, 1, 2, 3, 4, 5] rfl⟩ (by (try dsimp only); omega)
      · refine lv_iload_n hx hb dX9_returnsOf_28 rfl (lv_at hl 5 rfl) ?_
        refine lv_iconst (v := (-1)) hx hb dX9_returnsOf_29 (by decide) ?_
        refine lv_icmp_eq (tgt := 39) hx hb dX9_returnsOf_30 (by decide) (fun _ => ?_) (fun q => absurd rfl q)
        refine lv_aload_n hx hb dX9_returnsOf_39 rfl (lv_at hl 3 rfl) ?_
        refine lv_iload_n hx hb dX9_returnsOf_40 rfl (lv_at hl 4 rfl) ?_
        refine lv_iload hx hb dX9_returnsOf_41 (lv_at hl 0 rfl) ?_
        refine lv_iload_n hx hb dX9_returnsOf_43 rfl (lv_at hl 2 rfl) ?_
        refine x_cVRi (As := [.int (nI y), .int (nI h), .int (nI (i + 1))]) (rest := []) S hK hP 0 (by omega) rfl rfl (c_X9_onOf l σ y h (i + 1) Y  (by first | assumption | omega) (by first | assumption | omega) (by first | assumption | omega) (by first | assumption | omega) (by omega) (by first | assumption | omega)) (x_cwV (n0 := 3) (cq := (RX9, TX9, 24)) S gX9_returnsOf_X9_onOf rfl (by decide +kernel) ⟨Nat.le_of_ble_eq_true rfl, Nat.le_of_ble_eq_true rfl⟩) rfl hl.1 rfl (Nat.le_of_ble_eq_true rfl) dX9_returnsOf_44 ⟨Nat.le_refl _, Nat.le_refl _⟩ (fun r_44 hr_44 => ?_)
        subst hr_44
        have hq1 := xs_on_lt hY hy (show h < 6 by omega) (i + 1)
        refine lv_iload hx hb dX9_returnsOf_47 (lv_at hl 0 rfl) ?_
        refine x_icmpN_ne (tgt := 56) S dX9_returnsOf_49 (by decide) (by omega) (by omega) (fun c_49 => ?_) (fun c_49 => ?_)
        · refine lv_iconst (v := nI 0) hx hb dX9_returnsOf_56 (by decide) ?_
          refine lv_istore (lv' := [(4, .int (nI 0)), (5, .int (nI h)), (3, .int (nI (i + 1))), (0, .ref (α 0)), (1, .int (nI y)), (2, .int (-1 : Int32))]) hx hb dX9_returnsOf_57 hl (by decide) rfl (fun ls hl => ?_)
          refine lv_iinc (v := nI (h + 1)) (lv' := [(5, .int (nI (h + 1))), (4, .int (nI 0)), (3, .int (nI (i + 1))), (0, .ref (α 0)), (1, .int (nI y)), (2, .int (-1 : Int32))]) hx hb dX9_returnsOf_59 hl (k := 1) rfl (nI_add h 1) (by decide) rfl (fun ls hl => ?_)
          refine lv_goto (tgt := 16) hx hb dX9_returnsOf_62 (by decide) ?_
          have hl : lv_has ls 6 [(5, .int (nI (h + 1))), (4, .int (xb (xall (fun j => xs_on (σ 6) y j (i + 1) = j) (h + 1)))), (3, .int (nI (i + 1))), (0, .ref (α 0)), (1, .int (nI y)), (2, .int (-1 : Int32))] := by
            rw [show xb (xall (fun j => xs_on (σ 6) y j (i + 1) = j) (h + 1)) = nI 0 from (Eq.symm (by refine (xb_f fun q => ?_).symm; first | exact c_25 (xall_of (fun j hj => xall_to q j (by omega))) | exact c_49 (xall_to q h (by omega)) | (rcases xall_to q h (by omega) with w | w; exact w c_36; exact c_49 w)))]; exact hl
          exact ih_16 (h + 1) ls ⟨(by omega), lv_sub hl [0, 1, 2, 3, 4, 5] rfl⟩ (by (try dsimp only); omega)
        · refine lv_iconst (v := nI 1) hx hb dX9_returnsOf_52 (by decide) ?_
          refine lv_goto (tgt := 57) hx hb dX9_returnsOf_53 (by decide) ?_
          refine lv_istore (lv' := [(4, .int (nI 1)), (5, .int (nI h)), (3, .int (nI (i + 1))), (0, .ref (α 0)), (1, .int (nI y)), (2, .int (-1 : Int32))]) hx hb dX9_returnsOf_57 hl (by decide) rfl (fun ls hl => ?_)
          refine lv_iinc (v := nI (h + 1)) (lv' := [(5, .int (nI (h + 1))), (4, .int (nI 1)), (3, .int (nI (i + 1))), (0, .ref (α 0)), (1, .int (nI y)), (2, .int (-1 : Int32))]) hx hb dX9_returnsOf_59 hl (k := 1) rfl (nI_add h 1) (by decide) rfl (fun ls hl => ?_)
          refine lv_goto (tgt := 16) hx hb dX9_returnsOf_62 (by decide) ?_
          have hl : lv_has ls 6 [(5, .int (nI (h + 1))), (4, .int (xb (xall (fun j => xs_on (σ 6) y j (i + 1) = j) (h + 1)))), (3, .int (nI (i + 1))), (0, .ref (α 0)), (1, .int (nI y)), (2, .int (-1 : Int32))] := by
            rw [show xb (xall (fun j => xs_on (σ 6) y j (i + 1) = j) (h + 1)) = nI 1 from (Eq.symm ((xb_t (xall_of (lt_s (xall_to c_25) (by first | exact Or.inr c_49 | exact c_49 | exact Or.inl c_36)))).symm))]; exact hl
          exact ih_16 (h + 1) ls ⟨(by omega), lv_sub hl [0, 1, 2, 3, 4, 5] rfl⟩ (by (try dsimp only); omega)
set_option maxHeartbeats 4000000 in
set_option maxRecDepth 100000 in
theorem c_X9_returnsOfH (l : Launch) {D : va_G} {K : Nat → ClassId} {α : Nat → Nat} (σ : Nat → Nat → Int32) (y : Nat) (g : Nat) (Y : Nat)  (hbk : ∀ y, y < Y → ∀ h, h < 6 → σ 7 (6 * y + h) = nI (xnm (σ 6) y h)) (hY : xY (σ 6) Y) (hY12 : Y ≤ 12) (hPm : xPm (σ 6) Y) (hy : y < Y) (hg : g < 6) : Met l yX9_returnsOf wsX9_returnsOf (xrm 1) (va_Pc [.ref (α 0), .int (nI y), .int (nI g)] (xPre D K 20 α (xM α K) σ)) (vp_Si (fun r => r = nI (xs_ret (σ 6) y (nI g) + 1))) 0 0 (fun _ => False) := by
  refine Met.ofW (cc := cX9_returnsOf) (maxL := 6) (ret := (some .int)) (by decide) rfl ?_
  intro p e s m args below meth c s₁ B hml hv
  obtain ⟨rfl, hK, hP⟩ := hv
  have S : CallFix p m c cX9_returnsOf 6 s _ wsX9_returnsOf RX9 := ⟨B.exec, B.bytes, hml, findClass_of_methodNamed B.named, atoms_spec (ws := wsX9_returnsOf) B.pre⟩
  have hx := S.1
  have hb := S.2.1
  have hr := B.returns
  have hlocks := B.notSynchronized
  have hl := lv_entry ([.ref (α 0), .int (nI y), .int (nI g)]) (n := 6) (Nat.le_of_ble_eq_true rfl)
  rw [lg_entry_eq]
  generalize (lg_sl ([.ref (α 0), .int (nI y), .int (nI g)]) ++ List.replicate (6 - (lg_sl ([.ref (α 0), .int (nI y), .int (nI g)])).length) Slot.unset).toArray = ls at hl ⊢
  have hl : lv_has ls 6 [(0, .ref (α 0)), (1, .int (nI y)), (2, .int (nI g))] := hl
  have hPP := hP
  obtain ⟨N0, hN0⟩ : ∃ z, z = xs_ret (σ 6) y (nI g) := ⟨_, rfl⟩
  obtain ⟨hr1, hr2, hr3⟩ := xs_ret_spec (x := nI g) hY hPm hy (Or.inr (xin_nI hg (by decide)))
  rw [← hN0] at hr1 hr2 hr3
  refine lv_iconst (v := nI 1) hx hb dX9_returnsOf_0 (by decide) ?_
  refine lv_istore_n (lv' := [(3, .int (nI 1)), (0, .ref (α 0)), (1, .int (nI y)), (2, .int (nI g))]) hx hb dX9_returnsOf_1 rfl hl (by decide) rfl (fun ls hl => ?_)
  refine lv_iconst (v := nI 0) hx hb dX9_returnsOf_2 (by decide) ?_
  refine x_top S (y := xb (false = true)) ((xb_f (by decide)).symm) ?_
  refine lv_istore (lv' := [(4, .int (xb (false = true))), (3, .int (nI 1)), (0, .ref (α 0)), (1, .int (nI y)), (2, .int (nI g))]) hx hb dX9_returnsOf_3 hl (by decide) rfl (fun ls hl => ?_)
  refine x_loop (ι := Nat × Bool) (fun z9 ls => match z9 with | ⟨i, b⟩ => (i ≤ N0) ∧ (b = true → xs_bk (σ 6) y (nI g) (i + 1)) ∧ lv_has ls 6 [(4, .int (xb (b = true))), (3, .int (nI (i + 1))), (0, .ref (α 0)), (1, .int (nI y)), (2, .int (nI g))]) (fun z9 => match z9 with | ⟨i, b⟩ => 2 * (N0 - i) + (if b then 0 else 1)) ?_ (⟨0, false⟩) ls ⟨Nat.zero_le _, (fun q => absurd q (by decide)), lv_sub hl [0, 1, 2, 3, 4] rfl⟩
  intro z9 ls hinv ih_5
  obtain ⟨i, b⟩ := z9
  obtain ⟨hi, hb1, hl⟩ := hinv
  have hl : lv_has ls 6 [(4, .int (xb (b = true))), (3, .int (nI (i + 1))), (0, .ref (α 0)), (1, .int (nI y)), (2, .int (nI g))] := hl
  refine lv_iload hx hb dX9_returnsOf_5 (lv_at hl 0 rfl) ?_
  refine x_if_neB (tgt := 81) S dX9_returnsOf_7 (by decide) (fun c_7 => ?_) (fun c_7 => ?_)
  · have hii : i = N0 := by
      rcases Nat.lt_or_ge i N0 with q | q
      · exact absurd (hb1 c_7) (hr3 i q)
      · omega
    refine lv_iload_n hx hb dX9_returnsOf_81 rfl (lv_at hl 1 rfl) ?_
    exact x_iretR S hlocks hr rfl (by rw [hii, hN0]) dX9_returnsOf_82
  · have hbf : b = false := by simpa using c_7
    subst hbf
    refine lv_iconst (v := nI 1) hx hb dX9_returnsOf_10 (by decide) ?_
    refine x_top S (y := xb (xall (fun j => ¬ j = g ∨ xs_on (σ 6) y j (i + 1) = j) 0)) ((xb_t (xall_of (fun j hj => absurd hj (Nat.not_lt_zero j)))).symm) ?_
    refine lv_istore (lv' := [(4, .int (xb (xall (fun j => ¬ j = g ∨ xs_on (σ 6) y j (i + 1) = j) 0))), (3, .int (nI (i + 1))), (0, .ref (α 0)), (1, .int (nI y)), (2, .int (nI g))]) hx hb dX9_returnsOf_11 hl (by decide) rfl (fun ls hl => ?_)
    refine lv_iconst (v := nI 0) hx hb dX9_returnsOf_13 (by decide) ?_
    refine lv_istore (lv' := [(5, .int (nI 0)), (4, .int (xb (xall (fun j => ¬ j = g ∨ xs_on (σ 6) y j (i + 1) = j) 0))), (3, .int (nI (i + 1))), (0, .ref (α 0)), (1, .int (nI y)), (2, .int (nI g))]) hx hb dX9_returnsOf_14 hl (by decide) rfl (fun ls hl => ?_)
    refine x_loop (ι := Nat) (fun h ls => (h ≤ 6) ∧ lv_has ls 6 [(5, .int (nI h)), (4, .int (xb (xall (fun j => ¬ j = g ∨ xs_on (σ 6) y j (i + 1) = j) h))), (3, .int (nI (i + 1))), (0, .ref (α 0)), (1, .int (nI y)), (2, .int (nI g))]) (fun h => 6 - h) ?_ 0 ls ⟨Nat.zero_le _, lv_sub hl [0, 1, 2, 3, 4, 5] rfl⟩
    intro h ls hinv ih_16
    obtain ⟨hh6, hl⟩ := hinv
    have hl : lv_has ls 6 [(5, .int (nI h)), (4, .int (xb (xall (fun j => ¬ j = g ∨ xs_on (σ 6) y j (i + 1) = j) h))), (3, .int (nI (i + 1))), (0, .ref (α 0)), (1, .int (nI y)), (2, .int (nI g))] := hl
    refine lv_iload hx hb dX9_returnsOf_16 (lv_at hl 0 rfl) ?_
    refine lv_bipush (v := nI 6) hx hb dX9_returnsOf_18 (by decide) ?_
    refine x_icmpN_ge (tgt := 65) S dX9_returnsOf_20 (by decide) (by omega) (by omega) (fun c_20 => ?_) (fun c_20 => ?_)
    · have e9 : h = 6 := by omega
      subst e9
      refine lv_iload_n hx hb dX9_returnsOf_65 rfl (lv_at hl 2 rfl) ?_
      refine lv_iload hx hb dX9_returnsOf_66 (lv_at hl 1 rfl) ?_
      refine x_if_eqB (tgt := 75) S dX9_returnsOf_68 (by decide) (fun c_68 => ?_) (fun c_68 => ?_)
      · have hi9 : i + 1 ≤ N0 := by
          rcases Nat.lt_or_ge i N0 with q | q
          · exact q
          · have e8 : i = N0 := by omega
            subst e8
            exact absurd ((fun q => by
              rcases q with q | q
              · exact absurd q.1 (nI_m1 (by omega))
              · have q2 := q.2
                rw [cN_nI (by omega)] at q2
                exact xall_of (fun j _ => by
                  by_cases w : j = g
                  · subst w; exact Or.inr q2
                  · exact Or.inl w)) hr2) c_68
        refine lv_iconst (v := nI 1) hx hb dX9_returnsOf_75 (by decide) ?_
        refine x_iaddN S dX9_returnsOf_76 ?_
        refine lv_istore_n (lv' := [(3, .int (nI ((i + 1) + 1))), (5, .int (nI 6)), (4, .int (xb (xall (fun j => ¬ j = g ∨ xs_on (σ 6) y j (i + 1) = j) 6))), (0, .ref (α 0)), (1, .int (nI y)), (2, .int (nI g))]) hx hb dX9_returnsOf_77 rfl hl (by decide) rfl (fun ls hl => ?_)
        refine lv_goto (tgt := 5) hx hb dX9_returnsOf_78 (by decide) ?_
        exact ih_5 (⟨i + 1, false⟩) ls ⟨hi9, (fun q => absurd q (by decide)), (by have h9 := lv_sub (l' := [(4, .int (xb (xall (fun j => ¬ j = g ∨ xs_on (σ 6) y j (i + 1) = j) 6))), (3, .int (nI ((i + 1) + 1))), (0, .ref (α 0)), (1, .int (nI y)), (2, .int (nI g))]) hl [2, 0, 3, 4, 5] rfl; rw [show xb (xall (fun j => ¬ j = g ∨ xs_on (σ 6) y j (i + 1) = j) 6) = xb (false = true) from (xb_f c_68).trans (xb_f (by decide)).symm] at h9; exact h9)⟩ (by (first | (simp; done) | (simp; omega) | (simp at *; omega)))
      · have hbk9 : xs_bk (σ 6) y (nI g) (i + 1) := (fun q => Or.inr ⟨nI_m1 (by omega), by
            rw [cN_nI (by omega)]
            rcases xall_to q g hg with w | w
            · exact absurd rfl w
            · exact w⟩) c_68
        refine lv_iconst (v := nI 0) hx hb dX9_returnsOf_71 (by decide) ?_
        refine lv_goto (tgt := 76) hx hb dX9_returnsOf_72 (by decide) ?_
        refine x_iaddN S dX9_returnsOf_76 ?_
        refine lv_istore_n (lv' := [(3, .int (nI ((i + 1) + 0))), (5, .int (nI 6)), (4, .int (xb (xall (fun j => ¬ j = g ∨ xs_on (σ 6) y j (i + 1) = j) 6))), (0, .ref (α 0)), (1, .int (nI y)), (2, .int (nI g))]) hx hb dX9_returnsOf_77 rfl hl (by decide) rfl (fun ls hl => ?_)
        refine lv_goto (tgt := 5) hx hb dX9_returnsOf_78 (by decide) ?_
        exact ih_5 (⟨i, true⟩) ls ⟨hi, (fun _ => hbk9), (by have h9 := lv_sub (l' := [(4, .int (xb (xall (fun j => ¬ j = g ∨ xs_on (σ 6) y j (i + 1) = j) 6))), (3, .int (nI ((i + 1) + 0))), (0, .ref (α 0)), (1, .int (nI y)), (2, .int (nI g))]) hl [2, 0, 3, 4, 5] rfl; rw [show xb (xall (fun j => ¬ j = g ∨ xs_on (σ 6) y j (i + 1) = j) 6) = xb (true = true) from (xb_t c_68).trans (xb_t rfl).symm] at h9; exact h9)⟩ (by (first | (simp; done) | (simp; omega) | (simp at *; omega)))
    · refine lv_iload hx hb dX9_returnsOf_23 (lv_at hl 1 rfl) ?_
      refine x_if_eqB (tgt := 56) S dX9_returnsOf_25 (by decide) (fun c_25 => ?_) (fun c_25 => ?_)
      · refine lv_iconst (v := nI 0) hx hb dX9_returnsOf_56 (by decide) ?_
        refine lv_istore (lv' := [(4, .int (nI 0)), (5, .int (nI h)), (3, .int (nI (i + 1))), (0, .ref (α 0)), (1, .int (nI y)), (2, .int (nI g))]) hx hb dX9_returnsOf_57 hl (by decide) rfl (fun ls hl => ?_)
        refine lv_iinc (v := nI (h + 1)) (lv' := [(5, .int (nI (h + 1))), (4, .int (nI 0)), (3, .int (nI (i + 1))), (0, .ref (α 0)), (1, .int (nI y)), (2, .int (nI g))]) hx hb dX9_returnsOf_59 hl (k := 1) rfl (nI_add h 1) (by decide) rfl (fun ls hl => ?_)
        refine lv_goto (tgt := 16) hx hb dX9_returnsOf_62 (by decide) ?_
        have hl : lv_has ls 6 [(5, .int (nI (h + 1))), (4, .int (xb (xall (fun j => ¬ j = g ∨ xs_on (σ 6) y j (i + 1) = j) (h + 1)))), (3, .int (nI (i + 1))), (0, .ref (α 0)), (1, .int (nI y)), (2, .int (nI g))] := by
          rw [show xb (xall (fun j => ¬ j = g ∨ xs_on (σ 6) y j (i + 1) = j) (h + 1)) = nI 0 from (Eq.symm (by refine (xb_f fun q => ?_).symm; first | exact c_25 (xall_of (fun j hj => xall_to q j (by omega))) | exact c_49 (xall_to q h (by omega)) | (rcases xall_to q h (by omega) with w | w; exact w c_36; exact c_49 w)))]; exact hl
        exact ih_16 (h + 1) ls ⟨(by omega), lv_sub hl [0, 1, 2, 3, 4, 5] rfl⟩ (by (try dsimp only); omega)
      · refine lv_iload_n hx hb dX9_returnsOf_28 rfl (lv_at hl 5 rfl) ?_
        refine lv_iconst (v := (-1)) hx hb dX9_returnsOf_29 (by decide) ?_
        refine lv_icmp_eq (tgt := 39) hx hb dX9_returnsOf_30 (by decide) (fun q => absurd q (nI_m1 (by omega))) (fun _ => ?_)
        refine lv_iload hx hb dX9_returnsOf_33 (lv_at hl 0 rfl) ?_
        refine lv_iload_n hx hb dX9_returnsOf_35 rfl (lv_at hl 5 rfl) ?_
        refine x_icmpN_ne (tgt := 52) S dX9_returnsOf_36 (by decide) (by omega) (by omega) (fun c_36 => ?_) (fun c_36 => ?_)
        · refine lv_iconst (v := nI 1) hx hb dX9_returnsOf_52 (by decide) ?_
          refine lv_goto (tgt := 57) hx hb dX9_returnsOf_53 (by decide) ?_
          refine lv_istore (lv' := [(4, .int (nI 1)), (5, .int (nI h)), (3, .int (nI (i + 1))), (0, .ref (α 0)), (1, .int (nI y)), (2, .int (nI g))]) hx hb dX9_returnsOf_57 hl (by decide) rfl (fun ls hl => ?_)
          refine lv_iinc (v := nI (h + 1)) (lv' := [(5, .int (nI (h + 1))), (4, .int (nI 1)), (3, .int (nI (i + 1))), (0, .ref (α 0)), (1, .int (nI y)), (2, .int (nI g))]) hx hb dX9_returnsOf_59 hl (k := 1) rfl (nI_add h 1) (by decide) rfl (fun ls hl => ?_)
          refine lv_goto (tgt := 16) hx hb dX9_returnsOf_62 (by decide) ?_
          have hl : lv_has ls 6 [(5, .int (nI (h + 1))), (4, .int (xb (xall (fun j => ¬ j = g ∨ xs_on (σ 6) y j (i + 1) = j) (h + 1)))), (3, .int (nI (i + 1))), (0, .ref (α 0)), (1, .int (nI y)), (2, .int (nI g))] := by
            rw [show xb (xall (fun j => ¬ j = g ∨ xs_on (σ 6) y j (i + 1) = j) (h + 1)) = nI 1 from (Eq.symm ((xb_t (xall_of (lt_s (xall_to c_25) (by first | exact Or.inr c_49 | exact c_49 | exact Or.inl c_36)))).symm))]; exact hl
          exact ih_16 (h + 1) ls ⟨(by omega), lv_sub hl [0, 1, 2, 3, 4, 5] rfl⟩ (by (try dsimp only); omega)
        · refine lv_aload_n hx hb dX9_returnsOf_39 rfl (lv_at hl 3 rfl) ?_
          refine lv_iload_n hx hb dX9_returnsOf_40 rfl (lv_at hl 4 rfl) ?_
          refine lv_iload hx hb dX9_returnsOf_41 (lv_at hl 0 rfl) ?_
          refine lv_iload_n hx hb dX9_returnsOf_43 rfl (lv_at hl 2 rfl) ?_
          refine x_cVRi (As := [.int (nI y), .int (nI h), .int (nI (i + 1))]) (rest := []) S hK hP 0 (by omega) rfl rfl (c_X9_onOf l σ y h (i + 1) Y  (by first | assumption | omega) (by first | assumption | omega) (by first | assumption | omega) (by first | assumption | omega) (by omega) (by first | assumption | omega)) (x_cwV (n0 := 3) (cq := (RX9, TX9, 24)) S gX9_returnsOf_X9_onOf rfl (by decide +kernel) ⟨Nat.le_of_ble_eq_true rfl, Nat.le_of_ble_eq_true rfl⟩) rfl hl.1 rfl (Nat.le_of_ble_eq_true rfl) dX9_returnsOf_44 ⟨Nat.le_refl _, Nat.le_refl _⟩ (fun r_44 hr_44 => ?_)
          subst hr_44
          have hq1 := xs_on_lt hY hy (show h < 6 by omega) (i + 1)
          refine lv_iload hx hb dX9_returnsOf_47 (lv_at hl 0 rfl) ?_
          refine x_icmpN_ne (tgt := 56) S dX9_returnsOf_49 (by decide) (by omega) (by omega) (fun c_49 => ?_) (fun c_49 => ?_)
          · refine lv_iconst (v := nI 0) hx hb dX9_returnsOf_56 (by decide) ?_
            refine lv_istore (lv' := [(4, .int (nI 0)), (5, .int (nI h)), (3, .int (nI (i + 1))), (0, .ref (α 0)), (1, .int (nI y)), (2, .int (nI g))]) hx hb dX9_returnsOf_57 hl (by decide) rfl (fun ls hl => ?_)
            refine lv_iinc (v := nI (h + 1)) (lv' := [(5, .int (nI (h + 1))), (4, .int (nI 0)), (3, .int (nI (i + 1))), (0, .ref (α 0)), (1, .int (nI y)), (2, .int (nI g))]) hx hb dX9_returnsOf_59 hl (k := 1) rfl (nI_add h 1) (by decide) rfl (fun ls hl => ?_)
            refine lv_goto (tgt := 16) hx hb dX9_returnsOf_62 (by decide) ?_
            have hl : lv_has ls 6 [(5, .int (nI (h + 1))), (4, .int (xb (xall (fun j => ¬ j = g ∨ xs_on (σ 6) y j (i + 1) = j) (h + 1)))), (3, .int (nI (i + 1))), (0, .ref (α 0)), (1, .int (nI y)), (2, .int (nI g))] := by
              rw [show xb (xall (fun j => ¬ j = g ∨ xs_on (σ 6) y j (i + 1) = j) (h + 1)) = nI 0 from (Eq.symm (by refine (xb_f fun q => ?_).symm; first | exact c_25 (xall_of (fun j hj => xall_to q j (by omega))) | exact c_49 (xall_to q h (by omega)) | (rcases xall_to q h (by omega) with w | w; exact w c_36; exact c_49 w)))]; exact hl
            exact ih_16 (h + 1) ls ⟨(by omega), lv_sub hl [0, 1, 2, 3, 4, 5] rfl⟩ (by (try dsimp only); omega)
          · refine lv_iconst (v := nI 1) hx hb dX9_returnsOf_52 (by decide) ?_
            refine lv_goto (tgt := 57) hx hb dX9_returnsOf_53 (by decide) ?_
            refine lv_istore (lv' := [(4, .int (nI 1)), (5, .int (nI h)), (3, .int (nI (i + 1))), (0, .ref (α 0)), (1, .int (nI y)), (2, .int (nI g))]) hx hb dX9_returnsOf_57 hl (by decide) rfl (fun ls hl => ?_)
            refine lv_iinc (v := nI (h + 1)) (lv' := [(5, .int (nI (h + 1))), (4, .int (nI 1)), (3, .int (nI (i + 1))), (0, .ref (α 0)), (1, .int (nI y)), (2, .int (nI g))]) hx hb dX9_returnsOf_59 hl (k := 1) rfl (nI_add h 1) (by decide) rfl (fun ls hl => ?_)
            refine lv_goto (tgt := 16) hx hb dX9_returnsOf_62 (by decide) ?_
            have hl : lv_has ls 6 [(5, .int (nI (h + 1))), (4, .int (xb (xall (fun j => ¬ j = g ∨ xs_on (σ 6) y j (i + 1) = j) (h + 1)))), (3, .int (nI (i + 1))), (0, .ref (α 0)), (1, .int (nI y)), (2, .int (nI g))] := by
              rw [show xb (xall (fun j => ¬ j = g ∨ xs_on (σ 6) y j (i + 1) = j) (h + 1)) = nI 1 from (Eq.symm ((xb_t (xall_of (lt_s (xall_to c_25) (by first | exact Or.inr c_49 | exact c_49 | exact Or.inl c_36)))).symm))]; exact hl
            exact ih_16 (h + 1) ls ⟨(by omega), lv_sub hl [0, 1, 2, 3, 4, 5] rfl⟩ (by (try dsimp only); omega)

/-! the loop over the script -/
theorem x_and63 (x : Int32) : ∃ k : Nat, k < 64 ∧ x &&& nI 63 = nI k := by
  refine ⟨(x &&& nI 63).toBitVec.toNat, ?_, ?_⟩
  · have e : (x &&& nI 63).toBitVec = x.toBitVec &&& (nI 63).toBitVec := rfl
    rw [e, BitVec.toNat_and]
    have e2 : (nI 63).toBitVec.toNat = 63 := by decide
    rw [e2]
    exact Nat.lt_of_le_of_lt Nat.and_le_right (by decide)
  · apply Int32.toBitVec_inj.mp
    apply BitVec.eq_of_toNat_eq
    rw [pk_tn (BitVec.isLt _)]
theorem x_lim {L i : Nat} (hL : L ≤ 3072) (hi : i ≤ 4000) : (nI L - nI 6 < nI i) ↔ L < i + 6 := by
  have e1 : (nI L).toInt = L := nI_toInt (by omega)
  have e2 : (nI 6).toInt = 6 := nI_toInt (by decide)
  have e3 : (nI i).toInt = i := nI_toInt (by omega)
  rw [fa_lt, fb_subI (by rw [e1, e2]; omega) (by rw [e1, e2]; omega), e1, e2, e3]
  omega
theorem x_tabN {k : Nat} (h : 37 ≤ k) (h2 : k < 64) : (nI k).toInt < 0 ∨ 36 < (nI k).toInt := by
  rw [nI_toInt (by omega)]
  omega
set_option maxHeartbeats 4000000 in
set_option maxRecDepth 100000 in
theorem law_loop {p : Program} {l : Launch} {e : Env} {s : State} {m : MethodId} {below : List Frame} {meth : Method} {c : Code} {b L : Nat} {xs : Nat → Int32} {D : va_G} {K : Nat → ClassId} {α β : Nat → Nat} (F : xLF p s m meth c b L xs D K α β) (hlocks : meth.locks = false) {σ τ : Nat → Nat → Int32} {H : Heap} {locs : List Loc} {ls : Array Slot} (hv : xLI D K α β s σ τ H locs) (hl : lv_has ls 4 [(3, .int (nI 0)), (2, .ref (β 0)), (1, .ref (α 0)), (0, .ref b)]) : W p l e room_1 s m #[Value.ref b] below meth c H locs 62 1210 (lw_Z below #[Value.ref b] s) (F0 m 18 ls []) := by
  refine x_loopW (ι := Nat × (Nat → Nat → Int32) × (Nat → Nat → Int32)) (fun z9 H locs ls => z9.1 ≤ L + 6 ∧ xLI D K α β s z9.2.1 z9.2.2 H locs ∧ lv_has ls 4 [(3, .int (nI z9.1)), (2, .ref (β 0)), (1, .ref (α 0)), (0, .ref b)]) (fun z9 => L + 6 - z9.1) ?_ (0, σ, τ) ls ⟨Nat.zero_le _, hv, hl⟩
  intro z9 H locs ls hinv ih
  obtain ⟨i, σ, τ⟩ := z9
  obtain ⟨hi, hv, hl⟩ := hinv
  have hi : i ≤ L + 6 := hi
  have hv : xLI D K α β s σ τ H locs := hv
  have hl : lv_has ls 4 [(3, .int (nI i)), (2, .ref (β 0)), (1, .ref (α 0)), (0, .ref b)] := hl
  obtain ⟨S, hr, hX, hbl, hL, hK, hI1, hI2, hα, hβ, hdis⟩ := id F
  have hx := S.1
  have hb := S.2.1
  have hS := hv.2.2.1
  have hbA : ¬ (fun q : Nat => s.heap.size ≤ q) b := Nat.not_le.mpr hbl
  refine lv_iload_n hx hb dL_law_18 rfl (lv_at hl 0 rfl) ?_
  refine lv_aload_n hx hb dL_law_19 rfl (lv_at hl 3 rfl) ?_
  refine va_slen hx hb hX hbl hbA hS dL_law_20 ?_
  refine lv_bipush (v := nI 6) hx hb dL_law_21 (by decide) ?_
  refine lv_isub hx hb dL_law_23 ?_
  refine lv_icmp_gt (tgt := 1356) hx hb dL_law_24 (by decide) (fun _ => ?_) (fun c_24 => ?_)
  · refine lv_iconst (v := 1) hx hb dL_law_1356 (by decide) ?_
    refine W.widen (k := 600000) (n := 7302250) (Nat.le_of_ble_eq_true rfl) (Nat.le_of_ble_eq_true rfl) ?_
    refine va_forget (fun q hq => hS.2.2 q hq) ?_
    exact lw_ret hx hb hr hlocks dL_law_1357
  · have c_24 : ¬ (nI L - nI 6 < nI i) := c_24
    rw [x_lim hL (by omega)] at c_24
    have hi6 : i + 6 ≤ L := by omega
    have kk : ∀ (σ2 τ2 : Nat → Nat → Int32) (H2 : Heap) (locs2 : List Loc), xLI D K α β s σ2 τ2 H2 locs2 → W p l e room_1 s m #[Value.ref b] below meth c H2 locs2 62 1210 (lw_Z below #[Value.ref b] s) (F0 m 1350 ls []) := by
      intro σ2 τ2 H2 locs2 hv2
      refine lv_iinc (v := nI (i + 6)) (lv' := [(3, .int (nI (i + 6))), (2, .ref (β 0)), (1, .ref (α 0)), (0, .ref b)]) hx hb dL_law_1350 hl (k := 0) rfl (nI_add i 6) (by decide) rfl (fun ls hl => ?_)
      refine lv_goto (tgt := 18) hx hb dL_law_1353 (by decide) ?_
      exact ih (i + 6, σ2, τ2) H2 locs2 ls ⟨by show i + 6 ≤ L + 6; omega, hv2, hl⟩ (by show L + 6 - (i + 6) < L + 6 - i; omega)
    refine lv_aload_n hx hb dL_law_27 rfl (lv_at hl 3 rfl) ?_
    refine lv_iload_n hx hb dL_law_28 rfl (lv_at hl 0 rfl) ?_
    refine x_sld S hX hbl hbA hS (j := i) (by omega) (by omega) dL_law_29 ?_
    refine lv_bipush (v := nI 63) hx hb dL_law_30 (by decide) ?_
    refine lv_iand hx hb dL_law_32 ?_
    obtain ⟨k, hk, ek⟩ := x_and63 (xs i)
    refine x_top S ek ?_
    rcases (show k = 0 ∨ k = 1 ∨ k = 2 ∨ k = 3 ∨ k = 4 ∨ k = 5 ∨ k = 6 ∨ k = 7 ∨ k = 8 ∨ k = 9 ∨ k = 10 ∨ k = 11 ∨ k = 12 ∨ k = 13 ∨ k = 14 ∨ k = 15 ∨ k = 16 ∨ k = 17 ∨ k = 18 ∨ k = 19 ∨ k = 20 ∨ k = 21 ∨ k = 22 ∨ k = 23 ∨ k = 24 ∨ k = 25 ∨ k = 26 ∨ k = 27 ∨ k = 28 ∨ k = 29 ∨ k = 30 ∨ k = 31 ∨ k = 32 ∨ k = 33 ∨ k = 34 ∨ k = 35 ∨ k = 36 ∨ 37 ≤ k by omega) with rfl | rfl | rfl | rfl | rfl | rfl | rfl | rfl | rfl | rfl | rfl | rfl | rfl | rfl | rfl | rfl | rfl | rfl | rfl | rfl | rfl | rfl | rfl | rfl | rfl | rfl | rfl | rfl | rfl | rfl | rfl | rfl | rfl | rfl | rfl | rfl | rfl | h37
    · refine lv_tableIn (off := 163) (tgt := 196) hx hb dL_law_33 (by decide) (by decide) (by decide) (by decide) ?_
      exact law_hull F hv hl hi6 kk
    · refine lv_tableIn (off := 206) (tgt := 239) hx hb dL_law_33 (by decide) (by decide) (by decide) (by decide) ?_
      exact law_name F hv hl hi6 kk
    · refine lv_tableIn (off := 249) (tgt := 282) hx hb dL_law_33 (by decide) (by decide) (by decide) (by decide) ?_
      exact law_fits F hv hl hi6 kk
    · refine lv_tableIn (off := 282) (tgt := 315) hx hb dL_law_33 (by decide) (by decide) (by decide) (by decide) ?_
      exact law_type F hv hl hi6 kk
    · refine lv_tableIn (off := 305) (tgt := 338) hx hb dL_law_33 (by decide) (by decide) (by decide) (by decide) ?_
      exact law_wipe F hv hl hi6 kk
    · refine lv_tableIn (off := 318) (tgt := 351) hx hb dL_law_33 (by decide) (by decide) (by decide) (by decide) ?_
      exact law_fault F hv hl hi6 kk
    · refine lv_tableIn (off := 331) (tgt := 364) hx hb dL_law_33 (by decide) (by decide) (by decide) (by decide) ?_
      exact law_read F hv hl hi6 kk
    · refine lv_tableIn (off := 354) (tgt := 387) hx hb dL_law_33 (by decide) (by decide) (by decide) (by decide) ?_
      exact law_borne F hv hl hi6 kk
    · refine lv_tableIn (off := 387) (tgt := 420) hx hb dL_law_33 (by decide) (by decide) (by decide) (by decide) ?_
      exact law_purse F hv hl hi6 kk
    · refine lv_tableIn (off := 420) (tgt := 453) hx hb dL_law_33 (by decide) (by decide) (by decide) (by decide) ?_
      exact law_debt F hv hl hi6 kk
    · refine lv_tableIn (off := 463) (tgt := 496) hx hb dL_law_33 (by decide) (by decide) (by decide) (by decide) ?_
      exact law_been F hv hl hi6 kk
    · refine lv_tableIn (off := 496) (tgt := 529) hx hb dL_law_33 (by decide) (by decide) (by decide) (by decide) ?_
      exact law_home F hv hl hi6 kk
    · refine lv_tableIn (off := 519) (tgt := 552) hx hb dL_law_33 (by decide) (by decide) (by decide) (by decide) ?_
      exact law_other F hv hl hi6 kk
    · refine lv_tableIn (off := 552) (tgt := 585) hx hb dL_law_33 (by decide) (by decide) (by decide) (by decide) ?_
      exact law_sound F hv hl hi6 kk
    · refine lv_tableIn (off := 575) (tgt := 608) hx hb dL_law_33 (by decide) (by decide) (by decide) (by decide) ?_
      exact law_chance F hv hl hi6 kk
    · refine lv_tableIn (off := 619) (tgt := 652) hx hb dL_law_33 (by decide) (by decide) (by decide) (by decide) ?_
      exact law_ahead F hv hl hi6 kk
    · refine lv_tableIn (off := 653) (tgt := 686) hx hb dL_law_33 (by decide) (by decide) (by decide) (by decide) ?_
      exact law_best F hv hl hi6 kk
    · refine lv_tableIn (off := 676) (tgt := 709) hx hb dL_law_33 (by decide) (by decide) (by decide) (by decide) ?_
      exact law_rather F hv hl hi6 kk
    · refine lv_tableIn (off := 699) (tgt := 732) hx hb dL_law_33 (by decide) (by decide) (by decide) (by decide) ?_
      exact law_on F hv hl hi6 kk
    · refine lv_tableIn (off := 742) (tgt := 775) hx hb dL_law_33 (by decide) (by decide) (by decide) (by decide) ?_
      exact law_returns F hv hl hi6 kk
    · refine lv_tableIn (off := 775) (tgt := 808) hx hb dL_law_33 (by decide) (by decide) (by decide) (by decide) ?_
      exact law_lot F hv hl hi6 kk
    · refine lv_tableIn (off := 808) (tgt := 841) hx hb dL_law_33 (by decide) (by decide) (by decide) (by decide) ?_
      exact law_claim F hv hl hi6 kk
    · refine lv_tableIn (off := 851) (tgt := 884) hx hb dL_law_33 (by decide) (by decide) (by decide) (by decide) ?_
      exact law_owed F hv hl hi6 kk
    · refine lv_tableIn (off := 884) (tgt := 917) hx hb dL_law_33 (by decide) (by decide) (by decide) (by decide) ?_
      exact law_lightest F hv hl hi6 kk
    · refine lv_tableIn (off := 907) (tgt := 940) hx hb dL_law_33 (by decide) (by decide) (by decide) (by decide) ?_
      exact law_disputed F hv hl hi6 kk
    · refine lv_tableIn (off := 920) (tgt := 953) hx hb dL_law_33 (by decide) (by decide) (by decide) (by decide) ?_
      exact law_seen F hv hl hi6 kk
    · refine lv_tableIn (off := 963) (tgt := 996) hx hb dL_law_33 (by decide) (by decide) (by decide) (by decide) ?_
      exact law_forget F hv hl hi6 kk
    · refine lv_tableIn (off := 986) (tgt := 1019) hx hb dL_law_33 (by decide) (by decide) (by decide) (by decide) ?_
      exact law_could F hv hl hi6 kk
    · refine lv_tableIn (off := 1009) (tgt := 1042) hx hb dL_law_33 (by decide) (by decide) (by decide) (by decide) ?_
      exact law_isFalse F hv hl hi6 kk
    · refine lv_tableIn (off := 1022) (tgt := 1055) hx hb dL_law_33 (by decide) (by decide) (by decide) (by decide) ?_
      exact law_sheet F hv hl hi6 kk
    · refine lv_tableIn (off := 1065) (tgt := 1098) hx hb dL_law_33 (by decide) (by decide) (by decide) (by decide) ?_
      exact law_lose F hv hl hi6 kk
    · refine lv_tableIn (off := 1088) (tgt := 1121) hx hb dL_law_33 (by decide) (by decide) (by decide) (by decide) ?_
      exact law_put F hv hl hi6 kk
    · refine lv_tableIn (off := 1141) (tgt := 1174) hx hb dL_law_33 (by decide) (by decide) (by decide) (by decide) ?_
      exact law_get F hv hl hi6 kk
    · refine lv_tableIn (off := 1184) (tgt := 1217) hx hb dL_law_33 (by decide) (by decide) (by decide) (by decide) ?_
      exact law_copy F hv hl hi6 kk
    · refine lv_tableIn (off := 1247) (tgt := 1280) hx hb dL_law_33 (by decide) (by decide) (by decide) (by decide) ?_
      exact law_write F hv hl hi6 kk
    · refine lv_tableIn (off := 1280) (tgt := 1313) hx hb dL_law_33 (by decide) (by decide) (by decide) (by decide) ?_
      exact law_count F hv hl hi6 kk
    · refine lv_tableIn (off := 1303) (tgt := 1336) hx hb dL_law_33 (by decide) (by decide) (by decide) (by decide) ?_
      exact law_digest F hv hl hi6 kk
    · refine lv_tableOut (tgt := 1350) hx hb dL_law_33 (x_tabN h37 hk) (by decide) ?_
      exact kk σ τ H locs hv

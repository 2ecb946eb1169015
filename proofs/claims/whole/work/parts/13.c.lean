set_option maxHeartbeats 4000000 in
set_option maxRecDepth 100000 in
theorem c_J6_bitCount_0f7a4 (l : Launch) (z : Nat)  (hz : z < 64) : Met l yJ6_bitCount_0f7a4 wsJ6_bitCount_0f7a4 (xrm 0) (va_Pc [.int (nI z)] (fun _ => True)) (vp_Si (fun r => r = nI (xpc z))) 0 0 (fun _ => False) := by
  refine Met.ofW (cc := cJ6_bitCount_0f7a4) (maxL := 1) (ret := (some .int)) (by decide) rfl ?_
  intro p e s m args below meth c s₁ B hml hv
  obtain ⟨rfl, -⟩ := hv
  have S : CallFix p m c cJ6_bitCount_0f7a4 1 s _ wsJ6_bitCount_0f7a4 RJ6 := ⟨B.exec, B.bytes, hml, findClass_of_methodNamed B.named, atoms_spec (ws := wsJ6_bitCount_0f7a4) B.pre⟩
  have hx := S.1
  have hb := S.2.1
  have hr := B.returns
  have hlocks := B.notSynchronized
  have hl := lv_entry ([.int (nI z)]) (n := 1) (Nat.le_of_ble_eq_true rfl)
  rw [lg_entry_eq]
  generalize (lg_sl ([.int (nI z)]) ++ List.replicate (1 - (lg_sl ([.int (nI z)])).length) Slot.unset).toArray = ls at hl ⊢
  have hl : lv_has ls 1 [(0, .int (nI z))] := hl
  refine lv_iload_n hx hb dJ6_bitCount_0f7a4_0 rfl (lv_at hl 0 rfl) ?_
  refine lv_iload_n hx hb dJ6_bitCount_0f7a4_1 rfl (lv_at hl 0 rfl) ?_
  refine lv_iconst (v := nI 1) hx hb dJ6_bitCount_0f7a4_2 (by decide) ?_
  refine lv_iushr hx hb dJ6_bitCount_0f7a4_3 rfl ?_
  refine lv_ldcw hx hb S.2.2.2.1 (S.2.2.2.2 (.constant RJ6 265 (1431655765)) (List.mem_of_getElem? (i := 1) rfl)) dJ6_bitCount_0f7a4_4 ?_
  refine lv_iand hx hb dJ6_bitCount_0f7a4_7 ?_
  refine lv_isub hx hb dJ6_bitCount_0f7a4_8 ?_
  refine lv_istore_n (lv' := [(0, .int ((nI z) - ((((nI z).toUInt32 >>> ((nI 1).toUInt32 &&& Int32.toUInt32 31)).toInt32) &&& (1431655765 : Int32))))]) hx hb dJ6_bitCount_0f7a4_9 rfl hl (by decide) rfl (fun ls hl => ?_)
  refine lv_iload_n hx hb dJ6_bitCount_0f7a4_10 rfl (lv_at hl 0 rfl) ?_
  refine lv_ldcw hx hb S.2.2.2.1 (S.2.2.2.2 (.constant RJ6 266 (858993459)) (List.mem_of_getElem? (i := 2) rfl)) dJ6_bitCount_0f7a4_11 ?_
  refine lv_iand hx hb dJ6_bitCount_0f7a4_14 ?_
  refine lv_iload_n hx hb dJ6_bitCount_0f7a4_15 rfl (lv_at hl 0 rfl) ?_
  refine lv_iconst (v := nI 2) hx hb dJ6_bitCount_0f7a4_16 (by decide) ?_
  refine lv_iushr hx hb dJ6_bitCount_0f7a4_17 rfl ?_
  refine lv_ldcw hx hb S.2.2.2.1 (S.2.2.2.2 (.constant RJ6 266 (858993459)) (List.mem_of_getElem? (i := 2) rfl)) dJ6_bitCount_0f7a4_18 ?_
  refine lv_iand hx hb dJ6_bitCount_0f7a4_21 ?_
  refine lv_iadd hx hb dJ6_bitCount_0f7a4_22 ?_
  refine lv_istore_n (lv' := [(0, .int ((((nI z) - ((((nI z).toUInt32 >>> ((nI 1).toUInt32 &&& Int32.toUInt32 31)).toInt32) &&& (1431655765 : Int32))) &&& (858993459 : Int32)) + (((((nI z) - ((((nI z).toUInt32 >>> ((nI 1).toUInt32 &&& Int32.toUInt32 31)).toInt32) &&& (1431655765 : Int32))).toUInt32 >>> ((nI 2).toUInt32 &&& Int32.toUInt32 31)).toInt32) &&& (858993459 : Int32))))]) hx hb dJ6_bitCount_0f7a4_23 rfl hl (by decide) rfl (fun ls hl => ?_)
  refine lv_iload_n hx hb dJ6_bitCount_0f7a4_24 rfl (lv_at hl 0 rfl) ?_
  refine lv_iload_n hx hb dJ6_bitCount_0f7a4_25 rfl (lv_at hl 0 rfl) ?_
  refine lv_iconst (v := nI 4) hx hb dJ6_bitCount_0f7a4_26 (by decide) ?_
  refine lv_iushr hx hb dJ6_bitCount_0f7a4_27 rfl ?_
  refine lv_iadd hx hb dJ6_bitCount_0f7a4_28 ?_
  refine lv_ldcw hx hb S.2.2.2.1 (S.2.2.2.2 (.constant RJ6 267 (252645135)) (List.mem_of_getElem? (i := 3) rfl)) dJ6_bitCount_0f7a4_29 ?_
  refine lv_iand hx hb dJ6_bitCount_0f7a4_32 ?_
  refine lv_istore_n (lv' := [(0, .int ((((((nI z) - ((((nI z).toUInt32 >>> ((nI 1).toUInt32 &&& Int32.toUInt32 31)).toInt32) &&& (1431655765 : Int32))) &&& (858993459 : Int32)) + (((((nI z) - ((((nI z).toUInt32 >>> ((nI 1).toUInt32 &&& Int32.toUInt32 31)).toInt32) &&& (1431655765 : Int32))).toUInt32 >>> ((nI 2).toUInt32 &&& Int32.toUInt32 31)).toInt32) &&& (858993459 : Int32))) + ((((((nI z) - ((((nI z).toUInt32 >>> ((nI 1).toUInt32 &&& Int32.toUInt32 31)).toInt32) &&& (1431655765 : Int32))) &&& (858993459 : Int32)) + (((((nI z) - ((((nI z).toUInt32 >>> ((nI 1).toUInt32 &&& Int32.toUInt32 31)).toInt32) &&& (1431655765 : Int32))).toUInt32 >>> ((nI 2).toUInt32 &&& Int32.toUInt32 31)).toInt32) &&& (858993459 : Int32))).toUInt32 >>> ((nI 4).toUInt32 &&& Int32.toUInt32 31)).toInt32)) &&& (252645135 : Int32)))]) hx hb dJ6_bitCount_0f7a4_33 rfl hl (by decide) rfl (fun ls hl => ?_)
  refine lv_iload_n hx hb dJ6_bitCount_0f7a4_34 rfl (lv_at hl 0 rfl) ?_
  refine lv_iload_n hx hb dJ6_bitCount_0f7a4_35 rfl (lv_at hl 0 rfl) ?_
  refine lv_bipush (v := nI 8) hx hb dJ6_bitCount_0f7a4_36 (by decide) ?_
  refine lv_iushr hx hb dJ6_bitCount_0f7a4_38 rfl ?_
  refine lv_iadd hx hb dJ6_bitCount_0f7a4_39 ?_
  refine lv_istore_n (lv' := [(0, .int (((((((nI z) - ((((nI z).toUInt32 >>> ((nI 1).toUInt32 &&& Int32.toUInt32 31)).toInt32) &&& (1431655765 : Int32))) &&& (858993459 : Int32)) + (((((nI z) - ((((nI z).toUInt32 >>> ((nI 1).toUInt32 &&& Int32.toUInt32 31)).toInt32) &&& (1431655765 : Int32))).toUInt32 >>> ((nI 2).toUInt32 &&& Int32.toUInt32 31)).toInt32) &&& (858993459 : Int32))) + ((((((nI z) - ((((nI z).toUInt32 >>> ((nI 1).toUInt32 &&& Int32.toUInt32 31)).toInt32) &&& (1431655765 : Int32))) &&& (858993459 : Int32)) + (((((nI z) - ((((nI z).toUInt32 >>> ((nI 1).toUInt32 &&& Int32.toUInt32 31)).toInt32) &&& (1431655765 : Int32))).toUInt32 >>> ((nI 2).toUInt32 &&& Int32.toUInt32 31)).toInt32) &&& (858993459 : Int32))).toUInt32 >>> ((nI 4).toUInt32 &&& Int32.toUInt32 31)).toInt32)) &&& (252645135 : Int32)) + ((((((((nI z) - ((((nI z).toUInt32 >>> ((nI 1).toUInt32 &&& Int32.toUInt32 31)).toInt32) &&& (1431655765 : Int32))) &&& (858993459 : Int32)) + (((((nI z) - ((((nI z).toUInt32 >>> ((nI 1).toUInt32 &&& Int32.toUInt32 31)).toInt32) &&& (1431655765 : Int32))).toUInt32 >>> ((nI 2).toUInt32 &&& Int32.toUInt32 31)).toInt32) &&& (858993459 : Int32))) + ((((((nI z) - ((((nI z).toUInt32 >>> ((nI 1).toUInt32 &&& Int32.toUInt32 31)).toInt32) &&& (1431655765 : Int32))) &&& (858993459 : Int32)) + (((((nI z) - ((((nI z).toUInt32 >>> ((nI 1).toUInt32 &&& Int32.toUInt32 31)).toInt32) &&& (1431655765 : Int32))).toUInt32 >>> ((nI 2).toUInt32 &&& Int32.toUInt32 31)).toInt32) &&& (858993459 : Int32))).toUInt32 >>> ((nI 4).toUInt32 &&& Int32.toUInt32 31)).toInt32)) &&& (252645135 : Int32)).toUInt32 >>> ((nI 8).toUInt32 &&& Int32.toUInt32 31)).toInt32)))]) hx hb dJ6_bitCount_0f7a4_40 rfl hl (by decide) rfl (fun ls hl => ?_)
  refine lv_iload_n hx hb dJ6_bitCount_0f7a4_41 rfl (lv_at hl 0 rfl) ?_
  refine lv_iload_n hx hb dJ6_bitCount_0f7a4_42 rfl (lv_at hl 0 rfl) ?_
  refine lv_bipush (v := nI 16) hx hb dJ6_bitCount_0f7a4_43 (by decide) ?_
  refine lv_iushr hx hb dJ6_bitCount_0f7a4_45 rfl ?_
  refine lv_iadd hx hb dJ6_bitCount_0f7a4_46 ?_
  refine lv_istore_n (lv' := [(0, .int ((((((((nI z) - ((((nI z).toUInt32 >>> ((nI 1).toUInt32 &&& Int32.toUInt32 31)).toInt32) &&& (1431655765 : Int32))) &&& (858993459 : Int32)) + (((((nI z) - ((((nI z).toUInt32 >>> ((nI 1).toUInt32 &&& Int32.toUInt32 31)).toInt32) &&& (1431655765 : Int32))).toUInt32 >>> ((nI 2).toUInt32 &&& Int32.toUInt32 31)).toInt32) &&& (858993459 : Int32))) + ((((((nI z) - ((((nI z).toUInt32 >>> ((nI 1).toUInt32 &&& Int32.toUInt32 31)).toInt32) &&& (1431655765 : Int32))) &&& (858993459 : Int32)) + (((((nI z) - ((((nI z).toUInt32 >>> ((nI 1).toUInt32 &&& Int32.toUInt32 31)).toInt32) &&& (1431655765 : Int32))).toUInt32 >>> ((nI 2).toUInt32 &&& Int32.toUInt32 31)).toInt32) &&& (858993459 : Int32))).toUInt32 >>> ((nI 4).toUInt32 &&& Int32.toUInt32 31)).toInt32)) &&& (252645135 : Int32)) + ((((((((nI z) - ((((nI z).toUInt32 >>> ((nI 1).toUInt32 &&& Int32.toUInt32 31)).toInt32) &&& (1431655765 : Int32))) &&& (858993459 : Int32)) + (((((nI z) - ((((nI z).toUInt32 >>> ((nI 1).toUInt32 &&& Int32.toUInt32 31)).toInt32) &&& (1431655765 : Int32))).toUInt32 >>> ((nI 2).toUInt32 &&& Int32.toUInt32 31)).toInt32) &&& (858993459 : Int32))) + ((((((nI z) - ((((nI z).toUInt32 >>> ((nI 1).toUInt32 &&& Int32.toUInt32 31)).toInt32) &&& (1431655765 : Int32))) &&& (858993459 : Int32)) + (((((nI z) - ((((nI z).toUInt32 >>> ((nI 1).toUInt32 &&& Int32.toUInt32 31)).toInt32) &&& (1431655765 : Int32))).toUInt32 >>> ((nI 2).toUInt32 &&& Int32.toUInt32 31)).toInt32) &&& (858993459 : Int32))).toUInt32 >>> ((nI 4).toUInt32 &&& Int32.toUInt32 31)).toInt32)) &&& (252645135 : Int32)).toUInt32 >>> ((nI 8).toUInt32 &&& Int32.toUInt32 31)).toInt32)) + (((((((((nI z) - ((((nI z).toUInt32 >>> ((nI 1).toUInt32 &&& Int32.toUInt32 31)).toInt32) &&& (1431655765 : Int32))) &&& (858993459 : Int32)) + (((((nI z) - ((((nI z).toUInt32 >>> ((nI 1).toUInt32 &&& Int32.toUInt32 31)).toInt32) &&& (1431655765 : Int32))).toUInt32 >>> ((nI 2).toUInt32 &&& Int32.toUInt32 31)).toInt32) &&& (858993459 : Int32))) + ((((((nI z) - ((((nI z).toUInt32 >>> ((nI 1).toUInt32 &&& Int32.toUInt32 31)).toInt32) &&& (1431655765 : Int32))) &&& (858993459 : Int32)) + (((((nI z) - ((((nI z).toUInt32 >>> ((nI 1).toUInt32 &&& Int32.toUInt32 31)).toInt32) &&& (1431655765 : Int32))).toUInt32 >>> ((nI 2).toUInt32 &&& Int32.toUInt32 31)).toInt32) &&& (858993459 : Int32))).toUInt32 >>> ((nI 4).toUInt32 &&& Int32.toUInt32 31)).toInt32)) &&& (252645135 : Int32)) + ((((((((nI z) - ((((nI z).toUInt32 >>> ((nI 1).toUInt32 &&& Int32.toUInt32 31)).toInt32) &&& (1431655765 : Int32))) &&& (858993459 : Int32)) + (((((nI z) - ((((nI z).toUInt32 >>> ((nI 1).toUInt32 &&& Int32.toUInt32 31)).toInt32) &&& (1431655765 : Int32))).toUInt32 >>> ((nI 2).toUInt32 &&& Int32.toUInt32 31)).toInt32) &&& (858993459 : Int32))) + ((((((nI z) - ((((nI z).toUInt32 >>> ((nI 1).toUInt32 &&& Int32.toUInt32 31)).toInt32) &&& (1431655765 : Int32))) &&& (858993459 : Int32)) + (((((nI z) - ((((nI z).toUInt32 >>> ((nI 1).toUInt32 &&& Int32.toUInt32 31)).toInt32) &&& (1431655765 : Int32))).toUInt32 >>> ((nI 2).toUInt32 &&& Int32.toUInt32 31)).toInt32) &&& (858993459 : Int32))).toUInt32 >>> ((nI 4).toUInt32 &&& Int32.toUInt32 31)).toInt32)) &&& (252645135 : Int32)).toUInt32 >>> ((nI 8).toUInt32 &&& Int32.toUInt32 31)).toInt32)).toUInt32 >>> ((nI 16).toUInt32 &&& Int32.toUInt32 31)).toInt32)))]) hx hb dJ6_bitCount_0f7a4_47 rfl hl (by decide) rfl (fun ls hl => ?_)
  refine lv_iload_n hx hb dJ6_bitCount_0f7a4_48 rfl (lv_at hl 0 rfl) ?_
  refine lv_bipush (v := nI 63) hx hb dJ6_bitCount_0f7a4_49 (by decide) ?_
  refine lv_iand hx hb dJ6_bitCount_0f7a4_51 ?_
  exact x_iretR S hlocks hr rfl ((by decide +kernel : ∀ q : Fin 64, ((((((((nI q.val) - ((((nI q.val).toUInt32 >>> ((nI 1).toUInt32 &&& Int32.toUInt32 31)).toInt32) &&& (1431655765 : Int32))) &&& (858993459 : Int32)) + (((((nI q.val) - ((((nI q.val).toUInt32 >>> ((nI 1).toUInt32 &&& Int32.toUInt32 31)).toInt32) &&& (1431655765 : Int32))).toUInt32 >>> ((nI 2).toUInt32 &&& Int32.toUInt32 31)).toInt32) &&& (858993459 : Int32))) + ((((((nI q.val) - ((((nI q.val).toUInt32 >>> ((nI 1).toUInt32 &&& Int32.toUInt32 31)).toInt32) &&& (1431655765 : Int32))) &&& (858993459 : Int32)) + (((((nI q.val) - ((((nI q.val).toUInt32 >>> ((nI 1).toUInt32 &&& Int32.toUInt32 31)).toInt32) &&& (1431655765 : Int32))).toUInt32 >>> ((nI 2).toUInt32 &&& Int32.toUInt32 31)).toInt32) &&& (858993459 : Int32))).toUInt32 >>> ((nI 4).toUInt32 &&& Int32.toUInt32 31)).toInt32)) &&& (252645135 : Int32)) + ((((((((nI q.val) - ((((nI q.val).toUInt32 >>> ((nI 1).toUInt32 &&& Int32.toUInt32 31)).toInt32) &&& (1431655765 : Int32))) &&& (858993459 : Int32)) + (((((nI q.val) - ((((nI q.val).toUInt32 >>> ((nI 1).toUInt32 &&& Int32.toUInt32 31)).toInt32) &&& (1431655765 : Int32))).toUInt32 >>> ((nI 2).toUInt32 &&& Int32.toUInt32 31)).toInt32) &&& (858993459 : Int32))) + ((((((nI q.val) - ((((nI q.val).toUInt32 >>> ((nI 1).toUInt32 &&& Int32.toUInt32 31)).toInt32) &&& (1431655765 : Int32))) &&& (858993459 : Int32)) + (((((nI q.val) - ((((nI q.val).toUInt32 >>> ((nI 1).toUInt32 &&& Int32.toUInt32 31)).toInt32) &&& (1431655765 : Int32))).toUInt32 >>> ((nI 2).toUInt32 &&& Int32.toUInt32 31)).toInt32) &&& (858993459 : Int32))).toUInt32 >>> ((nI 4).toUInt32 &&& Int32.toUInt32 31)).toInt32)) &&& (252645135 : Int32)).toUInt32 >>> ((nI 8).toUInt32 &&& Int32.toUInt32 31)).toInt32)) + (((((((((nI q.val) - ((((nI q.val).toUInt32 >>> ((nI 1).toUInt32 &&& Int32.toUInt32 31)).toInt32) &&& (1431655765 : Int32))) &&& (858993459 : Int32)) + (((((nI q.val) - ((((nI q.val).toUInt32 >>> ((nI 1).toUInt32 &&& Int32.toUInt32 31)).toInt32) &&& (1431655765 : Int32))).toUInt32 >>> ((nI 2).toUInt32 &&& Int32.toUInt32 31)).toInt32) &&& (858993459 : Int32))) + ((((((nI q.val) - ((((nI q.val).toUInt32 >>> ((nI 1).toUInt32 &&& Int32.toUInt32 31)).toInt32) &&& (1431655765 : Int32))) &&& (858993459 : Int32)) + (((((nI q.val) - ((((nI q.val).toUInt32 >>> ((nI 1).toUInt32 &&& Int32.toUInt32 31)).toInt32) &&& (1431655765 : Int32))).toUInt32 >>> ((nI 2).toUInt32 &&& Int32.toUInt32 31)).toInt32) &&& (858993459 : Int32))).toUInt32 >>> ((nI 4).toUInt32 &&& Int32.toUInt32 31)).toInt32)) &&& (252645135 : Int32)) + ((((((((nI q.val) - ((((nI q.val).toUInt32 >>> ((nI 1).toUInt32 &&& Int32.toUInt32 31)).toInt32) &&& (1431655765 : Int32))) &&& (858993459 : Int32)) + (((((nI q.val) - ((((nI q.val).toUInt32 >>> ((nI 1).toUInt32 &&& Int32.toUInt32 31)).toInt32) &&& (1431655765 : Int32))).toUInt32 >>> ((nI 2).toUInt32 &&& Int32.toUInt32 31)).toInt32) &&& (858993459 : Int32))) + ((((((nI q.val) - ((((nI q.val).toUInt32 >>> ((nI 1).toUInt32 &&& Int32.toUInt32 31)).toInt32) &&& (1431655765 : Int32))) &&& (858993459 : Int32)) + (((((nI q.val) - ((((nI q.val).toUInt32 >>> ((nI 1).toUInt32 &&& Int32.toUInt32 31)).toInt32) &&& (1431655765 : Int32))).toUInt32 >>> ((nI 2).toUInt32 &&& Int32.toUInt32 31)).toInt32) &&& (858993459 : Int32))).toUInt32 >>> ((nI 4).toUInt32 &&& Int32.toUInt32 31)).toInt32)) &&& (252645135 : Int32)).toUInt32 >>> ((nI 8).toUInt32 &&& Int32.toUInt32 31)).toInt32)).toUInt32 >>> ((nI 16).toUInt32 &&& Int32.toUInt32 31)).toInt32)) &&& (nI 63) = nI (xpc q.val)) ⟨z, hz⟩) dJ6_bitCount_0f7a4_52
set_option maxHeartbeats 4000000 in
set_option maxRecDepth 100000 in
theorem c_X4_namesFor (l : Launch) {D : va_G} {K : Nat → ClassId} {α : Nat → Nat} (σ : Nat → Nat → Int32) (h : Nat)  (hh : h < 6) : Met l yX4_namesFor wsX4_namesFor (xrm 1) (va_Pc [.ref (α 1), .int (nI h)] (xPre D K 42 α (xC α K) σ)) (vp_Si (fun r => r = nI (xmask (fun n => xs_fit (xFC σ) h n) 6))) 0 0 (fun _ => False) := by
  refine Met.ofW (cc := cX4_namesFor) (maxL := 4) (ret := (some .int)) (by decide) rfl ?_
  intro p e s m args below meth c s₁ B hml hv
  obtain ⟨rfl, hK, hP⟩ := hv
  have S : CallFix p m c cX4_namesFor 4 s _ wsX4_namesFor RX4 := ⟨B.exec, B.bytes, hml, findClass_of_methodNamed B.named, atoms_spec (ws := wsX4_namesFor) B.pre⟩
  have hx := S.1
  have hb := S.2.1
  have hr := B.returns
  have hlocks := B.notSynchronized
  have hl := lv_entry ([.ref (α 1), .int (nI h)]) (n := 4) (Nat.le_of_ble_eq_true rfl)
  rw [lg_entry_eq]
  generalize (lg_sl ([.ref (α 1), .int (nI h)]) ++ List.replicate (4 - (lg_sl ([.ref (α 1), .int (nI h)])).length) Slot.unset).toArray = ls at hl ⊢
  have hl : lv_has ls 4 [(0, .ref (α 1)), (1, .int (nI h))] := hl
  have hPP := hP
  refine lv_iconst (v := nI 0) hx hb dX4_namesFor_0 (by decide) ?_
  refine lv_istore_n (lv' := [(2, .int (nI 0)), (0, .ref (α 1)), (1, .int (nI h))]) hx hb dX4_namesFor_1 rfl hl (by decide) rfl (fun ls hl => ?_)
  refine lv_iconst (v := nI 0) hx hb dX4_namesFor_2 (by decide) ?_
  refine lv_istore_n (lv' := [(3, .int (nI 0)), (2, .int (nI 0)), (0, .ref (α 1)), (1, .int (nI h))]) hx hb dX4_namesFor_3 rfl hl (by decide) rfl (fun ls hl => ?_)
  refine x_loop (ι := Nat) (fun i ls => (i ≤ 6) ∧ lv_has ls 4 [(3, .int (nI i)), (2, .int (nI (xmask (fun n => xs_fit (xFC σ) h n) i))), (0, .ref (α 1)), (1, .int (nI h))]) (fun i => 6 - i) ?_ 0 ls ⟨Nat.zero_le _, lv_sub hl [0, 1, 2, 3] rfl⟩
  intro i ls hinv ih_4
  obtain ⟨hi, hl⟩ := hinv
  have hl : lv_has ls 4 [(3, .int (nI i)), (2, .int (nI (xmask (fun n => xs_fit (xFC σ) h n) i))), (0, .ref (α 1)), (1, .int (nI h))] := hl
  refine lv_iload_n hx hb dX4_namesFor_4 rfl (lv_at hl 0 rfl) ?_
  refine lv_bipush (v := nI 6) hx hb dX4_namesFor_5 (by decide) ?_
  refine x_icmpN_ge (tgt := 31) S dX4_namesFor_7 (by decide) (by omega) (by omega) (fun c_7 => ?_) (fun c_7 => ?_)
  · have e9 : i = 6 := by omega
    subst e9
    refine lv_iload_n hx hb dX4_namesFor_31 rfl (lv_at hl 1 rfl) ?_
    exact x_iretR S hlocks hr rfl (rfl) dX4_namesFor_32
  · refine lv_aload_n hx hb dX4_namesFor_10 rfl (lv_at hl 2 rfl) ?_
    refine lv_iload_n hx hb dX4_namesFor_11 rfl (lv_at hl 3 rfl) ?_
    refine lv_iload_n hx hb dX4_namesFor_12 rfl (lv_at hl 0 rfl) ?_
    refine x_cVRi (As := [.int (nI h), .int (nI i)]) (rest := []) S hK hP 1 (by omega) rfl rfl (c_X4_suits l σ h i  (by first | assumption | omega) (by first | assumption | omega)) (x_cwV (n0 := 2) (cq := (RX4, TX4, 2)) S gX4_namesFor_X4_suits rfl (by decide +kernel) ⟨Nat.le_of_ble_eq_true rfl, Nat.le_of_ble_eq_true rfl⟩) rfl hl.1 rfl (Nat.le_of_ble_eq_true rfl) dX4_namesFor_13 ⟨Nat.le_refl _, Nat.le_refl _⟩ (fun r_13 hr_13 => ?_)
    subst hr_13
    refine x_if_eqB (tgt := 25) S dX4_namesFor_16 (by decide) (fun c_16 => ?_) (fun c_16 => ?_)
    · refine lv_iinc (v := nI (i + 1)) (lv' := [(3, .int (nI (i + 1))), (2, .int (nI (xmask (fun n => xs_fit (xFC σ) h n) i))), (0, .ref (α 1)), (1, .int (nI h))]) hx hb dX4_namesFor_25 hl (k := 0) rfl (nI_add i 1) (by decide) rfl (fun ls hl => ?_)
      refine lv_goto (tgt := 4) hx hb dX4_namesFor_28 (by decide) ?_
      exact ih_4 (i + 1) ls ⟨(by omega), (by have h9 := lv_sub (l' := [(3, .int (nI (i + 1))), (2, .int (nI (xmask (fun n => xs_fit (xFC σ) h n) i))), (0, .ref (α 1)), (1, .int (nI h))]) hl [0, 1, 2, 3] rfl; rw [show nI (xmask (fun n => xs_fit (xFC σ) h n) i) = nI (xmask (fun n => xs_fit (xFC σ) h n) (i + 1)) from by rw [xmask, if_neg c_16]] at h9; exact h9)⟩ (by (try dsimp only); omega)
    · refine lv_iload_n hx hb dX4_namesFor_19 rfl (lv_at hl 1 rfl) ?_
      refine lv_iconst (v := nI 1) hx hb dX4_namesFor_20 (by decide) ?_
      refine lv_iload_n hx hb dX4_namesFor_21 rfl (lv_at hl 0 rfl) ?_
      refine lv_ishl hx hb dX4_namesFor_22 ?_
      refine lv_ior hx hb dX4_namesFor_23 ?_
      refine x_top S (y := nI (xmask (fun n => xs_fit (xFC σ) h n) i ||| 2 ^ i)) (xor_I (by omega)) ?_
      refine lv_istore_n (lv' := [(2, .int (nI (xmask (fun n => xs_fit (xFC σ) h n) i ||| 2 ^ i))), (3, .int (nI i)), (0, .ref (α 1)), (1, .int (nI h))]) hx hb dX4_namesFor_24 rfl hl (by decide) rfl (fun ls hl => ?_)
      refine lv_iinc (v := nI (i + 1)) (lv' := [(3, .int (nI (i + 1))), (2, .int (nI (xmask (fun n => xs_fit (xFC σ) h n) i ||| 2 ^ i))), (0, .ref (α 1)), (1, .int (nI h))]) hx hb dX4_namesFor_25 hl (k := 1) rfl (nI_add i 1) (by decide) rfl (fun ls hl => ?_)
      refine lv_goto (tgt := 4) hx hb dX4_namesFor_28 (by decide) ?_
      exact ih_4 (i + 1) ls ⟨(by omega), (by have h9 := lv_sub (l' := [(3, .int (nI (i + 1))), (2, .int (nI (xmask (fun n => xs_fit (xFC σ) h n) i ||| 2 ^ i))), (0, .ref (α 1)), (1, .int (nI h))]) hl [0, 1, 2, 3] rfl; rw [show nI (xmask (fun n => xs_fit (xFC σ) h n) i ||| 2 ^ i) = nI (xmask (fun n => xs_fit (xFC σ) h n) (i + 1)) from by rw [xmask, if_pos c_16]] at h9; exact h9)⟩ (by (try dsimp only); omega)
set_option maxHeartbeats 4000000 in
set_option maxRecDepth 100000 in
theorem c_X4_pairsThatSuit (l : Launch) {D : va_G} {K : Nat → ClassId} {α : Nat → Nat} (σ : Nat → Nat → Int32)   : Met l yX4_pairsThatSuit wsX4_pairsThatSuit (xrm 2) (va_Pc [.ref (α 1)] (xPre D K 42 α (xC α K) σ)) (vp_Si (fun r => r = nI (fb_sm (fun h => xpc (xmask (fun n => xs_fit (xFC σ) h n) 6)) 6))) 0 0 (fun _ => False) := by
  refine Met.ofW (cc := cX4_pairsThatSuit) (maxL := 3) (ret := (some .int)) (by decide) rfl ?_
  intro p e s m args below meth c s₁ B hml hv
  obtain ⟨rfl, hK, hP⟩ := hv
  have S : CallFix p m c cX4_pairsThatSuit 3 s _ wsX4_pairsThatSuit RX4 := ⟨B.exec, B.bytes, hml, findClass_of_methodNamed B.named, atoms_spec (ws := wsX4_pairsThatSuit) B.pre⟩
  have hx := S.1
  have hb := S.2.1
  have hr := B.returns
  have hlocks := B.notSynchronized
  have hl := lv_entry ([.ref (α 1)]) (n := 3) (Nat.le_of_ble_eq_true rfl)
  rw [lg_entry_eq]
  generalize (lg_sl ([.ref (α 1)]) ++ List.replicate (3 - (lg_sl ([.ref (α 1)])).length) Slot.unset).toArray = ls at hl ⊢
  have hl : lv_has ls 3 [(0, .ref (α 1))] := hl
  have hPP := hP
  refine lv_iconst (v := nI 0) hx hb dX4_pairsThatSuit_0 (by decide) ?_
  refine lv_istore_n (lv' := [(1, .int (nI 0)), (0, .ref (α 1))]) hx hb dX4_pairsThatSuit_1 rfl hl (by decide) rfl (fun ls hl => ?_)
  refine lv_iconst (v := nI 0) hx hb dX4_pairsThatSuit_2 (by decide) ?_
  refine lv_istore_n (lv' := [(2, .int (nI 0)), (1, .int (nI 0)), (0, .ref (α 1))]) hx hb dX4_pairsThatSuit_3 rfl hl (by decide) rfl (fun ls hl => ?_)
  refine x_loop (ι := Nat) (fun i ls => (i ≤ 6) ∧ lv_has ls 3 [(2, .int (nI i)), (1, .int (nI (fb_sm (fun h => xpc (xmask (fun n => xs_fit (xFC σ) h n) 6)) i))), (0, .ref (α 1))]) (fun i => 6 - i) ?_ 0 ls ⟨Nat.zero_le _, lv_sub hl [0, 1, 2] rfl⟩
  intro i ls hinv ih_4
  obtain ⟨hi, hl⟩ := hinv
  have hl : lv_has ls 3 [(2, .int (nI i)), (1, .int (nI (fb_sm (fun h => xpc (xmask (fun n => xs_fit (xFC σ) h n) 6)) i))), (0, .ref (α 1))] := hl
  refine lv_iload_n hx hb dX4_pairsThatSuit_4 rfl (lv_at hl 0 rfl) ?_
  refine lv_bipush (v := nI 6) hx hb dX4_pairsThatSuit_5 (by decide) ?_
  refine x_icmpN_ge (tgt := 27) S dX4_pairsThatSuit_7 (by decide) (by omega) (by omega) (fun c_7 => ?_) (fun c_7 => ?_)
  · have e9 : i = 6 := by omega
    subst e9
    refine lv_iload_n hx hb dX4_pairsThatSuit_27 rfl (lv_at hl 1 rfl) ?_
    exact x_iretR S hlocks hr rfl (rfl) dX4_pairsThatSuit_28
  · refine lv_iload_n hx hb dX4_pairsThatSuit_10 rfl (lv_at hl 1 rfl) ?_
    refine lv_aload_n hx hb dX4_pairsThatSuit_11 rfl (lv_at hl 2 rfl) ?_
    refine lv_iload_n hx hb dX4_pairsThatSuit_12 rfl (lv_at hl 0 rfl) ?_
    refine x_cVRi (As := [.int (nI i)]) (rest := [.int (nI (fb_sm (fun h => xpc (xmask (fun n => xs_fit (xFC σ) h n) 6)) i))]) S hK hP 1 (by omega) rfl rfl (c_X4_namesFor l σ i  (by first | assumption | omega)) (x_cwV (n0 := 1) (cq := (RX4, TX4, 2)) S gX4_pairsThatSuit_X4_namesFor rfl (by decide +kernel) ⟨Nat.le_of_ble_eq_true rfl, Nat.le_of_ble_eq_true rfl⟩) rfl hl.1 rfl (Nat.le_of_ble_eq_true rfl) dX4_pairsThatSuit_13 ⟨Nat.le_refl _, Nat.le_refl _⟩ (fun r_13 hr_13 => ?_)
    subst hr_13
    refine x_cSi (As := [.int (nI (xmask (fun n => xs_fit (xFC σ) i n) 6))]) (rest := [.int (nI (fb_sm (fun h => xpc (xmask (fun n => xs_fit (xFC σ) h n) 6)) i))]) S (c_J6_bitCount_0f7a4 l (xmask (fun n => xs_fit (xFC σ) i n) 6)  (xmask_lt6 (by omega))) (x_cwS (n0 := 1) S gX4_pairsThatSuit_J6_bitCount_0f7a4 rfl (by decide +kernel) ⟨Nat.le_of_ble_eq_true rfl, Nat.le_of_ble_eq_true rfl⟩) rfl hl.1 rfl (Nat.le_of_ble_eq_true rfl) dX4_pairsThatSuit_16 ⟨Nat.le_refl _, Nat.le_refl _⟩ (fun r_16 hr_16 => ?_)
    subst hr_16
    refine x_iaddN S dX4_pairsThatSuit_19 ?_
    refine lv_istore_n (lv' := [(1, .int (nI ((fb_sm (fun h => xpc (xmask (fun n => xs_fit (xFC σ) h n) 6)) i) + (xpc (xmask (fun n => xs_fit (xFC σ) i n) 6))))), (2, .int (nI i)), (0, .ref (α 1))]) hx hb dX4_pairsThatSuit_20 rfl hl (by decide) rfl (fun ls hl => ?_)
    refine lv_iinc (v := nI (i + 1)) (lv' := [(2, .int (nI (i + 1))), (1, .int (nI ((fb_sm (fun h => xpc (xmask (fun n => xs_fit (xFC σ) h n) 6)) i) + (xpc (xmask (fun n => xs_fit (xFC σ) i n) 6))))), (0, .ref (α 1))]) hx hb dX4_pairsThatSuit_21 hl (k := 1) rfl (nI_add i 1) (by decide) rfl (fun ls hl => ?_)
    refine lv_goto (tgt := 4) hx hb dX4_pairsThatSuit_24 (by decide) ?_
    exact ih_4 (i + 1) ls ⟨(by omega), lv_sub hl [0, 1, 2] rfl⟩ (by (try dsimp only); omega)
set_option maxHeartbeats 4000000 in
set_option maxRecDepth 100000 in
theorem c_X2_hullsShare (l : Launch) (x : Int32) (law : Nat)  (hlaw : law < 3) : Met l yX2_hullsShare wsX2_hullsShare (xrm 0) (va_Pc [.int x, .int (nI law)] (fun _ => True)) (vp_Si (fun r => r = xs_share x law)) 0 0 (fun _ => False) := by
  refine Met.ofW (cc := cX2_hullsShare) (maxL := 2) (ret := (some .int)) (by decide) rfl ?_
  intro p e s m args below meth c s₁ B hml hv
  obtain ⟨rfl, -⟩ := hv
  have S : CallFix p m c cX2_hullsShare 2 s _ wsX2_hullsShare RX2 := ⟨B.exec, B.bytes, hml, findClass_of_methodNamed B.named, atoms_spec (ws := wsX2_hullsShare) B.pre⟩
  have hx := S.1
  have hb := S.2.1
  have hr := B.returns
  have hlocks := B.notSynchronized
  have hl := lv_entry ([.int x, .int (nI law)]) (n := 2) (Nat.le_of_ble_eq_true rfl)
  rw [lg_entry_eq]
  generalize (lg_sl ([.int x, .int (nI law)]) ++ List.replicate (2 - (lg_sl ([.int x, .int (nI law)])).length) Slot.unset).toArray = ls at hl ⊢
  have hl : lv_has ls 2 [(0, .int x), (1, .int (nI law))] := hl
  refine lv_iload_n hx hb dX2_hullsShare_0 rfl (lv_at hl 1 rfl) ?_
  rcases (show law = 0 ∨ law = 1 ∨ law = 2 by omega) with rfl | rfl | rfl
  · refine lv_lookup (off := 27) (tgt := 28) hx hb dX2_hullsShare_1 (by decide) (by decide) (by decide) ?_
    refine lv_iload_n hx hb dX2_hullsShare_28 rfl (lv_at hl 0 rfl) ?_
    exact x_iretR S hlocks hr rfl (rfl) dX2_hullsShare_29
  · refine lv_lookup (off := 29) (tgt := 30) hx hb dX2_hullsShare_1 (by decide) (by decide) (by decide) ?_
    refine lv_iconst (v := nI 0) hx hb dX2_hullsShare_30 (by decide) ?_
    exact x_iretR S hlocks hr rfl (rfl) dX2_hullsShare_31
  · refine lv_lookup (off := 31) (tgt := 32) hx hb dX2_hullsShare_1 (by decide) (by decide) (by decide) ?_
    refine lv_iload_n hx hb dX2_hullsShare_32 rfl (lv_at hl 0 rfl) ?_
    refine lv_iconst (v := nI 2) hx hb dX2_hullsShare_33 (by decide) ?_
    refine lv_idiv hx hb dX2_hullsShare_34 (by decide) ?_
    exact x_iretR S hlocks hr rfl (rfl) dX2_hullsShare_35
set_option maxHeartbeats 4000000 in
set_option maxRecDepth 100000 in
theorem c_X2_counts (l : Launch) {D : va_G} {K : Nat → ClassId} {α : Nat → Nat} (σ : Nat → Nat → Int32) (k : Nat) (Y : Nat) (cn : Nat)  (hYr : σ 9 2 = nI Y) (hY12 : Y ≤ 12) (hc2 : xran (σ 14) cn 12) (hcn : cn ≤ 12) (hk : k < cn) : Met l yX2_counts wsX2_counts (xrm 0) (va_Pc [.ref (α 12), .int (nI k)] (xPre D K 42 α (xC α K) σ)) (vp_Si (fun r => r = xb (xnat (σ 14) k < Y))) 0 0 (fun _ => False) := by
  refine Met.ofW (cc := cX2_counts) (maxL := 2) (ret := (some .boolean)) (by decide) rfl ?_
  intro p e s m args below meth c s₁ B hml hv
  obtain ⟨rfl, hK, hP⟩ := hv
  have S : CallFix p m c cX2_counts 2 s _ wsX2_counts RX2 := ⟨B.exec, B.bytes, hml, findClass_of_methodNamed B.named, atoms_spec (ws := wsX2_counts) B.pre⟩
  have hx := S.1
  have hb := S.2.1
  have hr := B.returns
  have hlocks := B.notSynchronized
  have hl := lv_entry ([.ref (α 12), .int (nI k)]) (n := 2) (Nat.le_of_ble_eq_true rfl)
  rw [lg_entry_eq]
  generalize (lg_sl ([.ref (α 12), .int (nI k)]) ++ List.replicate (2 - (lg_sl ([.ref (α 12), .int (nI k)])).length) Slot.unset).toArray = ls at hl ⊢
  have hl : lv_has ls 2 [(0, .ref (α 12)), (1, .int (nI k))] := hl
  have hPP := hP
  have hb9 := (hc2 k hk).1
  refine lv_aload_n hx hb dX2_counts_0 rfl (lv_at hl 0 rfl) ?_
  refine x_get S (fun w h => List.mem_cons_of_mem _ (List.mem_append_left _ (List.mem_append_right _ h))) hK hP 12 (by omega) rfl rfl 2 (by decide) (List.mem_of_getElem? (i := 1) rfl) rfl dX2_counts_1 ?_
  refine lv_iload_n hx hb dX2_counts_4 rfl (lv_at hl 1 rfl) ?_
  refine x_iald S hK hP 14 (by omega) rfl (by first | assumption | omega) (by omega) dX2_counts_5 ?_
  refine x_top S (y := nI (xnat (σ 14) k)) ((hc2 k hk).2) ?_
  refine lv_aload_n hx hb dX2_counts_6 rfl (lv_at hl 0 rfl) ?_
  refine x_get S (fun w h => List.mem_cons_of_mem _ (List.mem_append_left _ (List.mem_append_right _ h))) hK hP 12 (by omega) rfl rfl 0 (by decide) (List.mem_of_getElem? (i := 2) rfl) rfl dX2_counts_7 ?_
  refine x_get S (fun w h => List.mem_cons_of_mem _ (List.mem_append_right _ h)) hK hP 9 (by omega) rfl rfl 2 (by decide) (List.mem_of_getElem? (i := 3) rfl) rfl dX2_counts_10 ?_
  refine x_top S (y := nI Y) (hYr) ?_
  refine x_icmpN_ge (tgt := 20) S dX2_counts_13 (by decide) (by omega) (by omega) (fun c_13 => ?_) (fun c_13 => ?_)
  · refine lv_iconst (v := nI 0) hx hb dX2_counts_20 (by decide) ?_
    exact x_iretR S hlocks hr rfl ((xb_f (by omega)).symm) dX2_counts_21
  · refine lv_iconst (v := nI 1) hx hb dX2_counts_16 (by decide) ?_
    refine lv_goto (tgt := 21) hx hb dX2_counts_17 (by decide) ?_
    exact x_iretR S hlocks hr rfl ((xb_t c_13).symm) dX2_counts_21
set_option maxHeartbeats 4000000 in
set_option maxRecDepth 100000 in
theorem c_X2_nameIn (l : Launch) {D : va_G} {K : Nat → ClassId} {α : Nat → Nat} (σ : Nat → Nat → Int32) (k : Nat) (Y : Nat) (cn : Nat)  (hY : xY (σ 10) Y) (hY12 : Y ≤ 12) (hc1 : xran (σ 13) cn 6) (hc2 : xran (σ 14) cn 12) (hcn : cn ≤ 12) (hk : k < cn) (hcy : xnat (σ 14) k < Y) : Met l yX2_nameIn wsX2_nameIn (xrm 1) (va_Pc [.ref (α 12), .int (nI k)] (xPre D K 42 α (xC α K) σ)) (vp_Si (fun r => r = nI (xnm (σ 10) (xnat (σ 14) k) (xnat (σ 13) k)))) 0 0 (fun _ => False) := by
  refine Met.ofW (cc := cX2_nameIn) (maxL := 2) (ret := (some .int)) (by decide) rfl ?_
  intro p e s m args below meth c s₁ B hml hv
  obtain ⟨rfl, hK, hP⟩ := hv
  have S : CallFix p m c cX2_nameIn 2 s _ wsX2_nameIn RX2 := ⟨B.exec, B.bytes, hml, findClass_of_methodNamed B.named, atoms_spec (ws := wsX2_nameIn) B.pre⟩
  have hx := S.1
  have hb := S.2.1
  have hr := B.returns
  have hlocks := B.notSynchronized
  have hl := lv_entry ([.ref (α 12), .int (nI k)]) (n := 2) (Nat.le_of_ble_eq_true rfl)
  rw [lg_entry_eq]
  generalize (lg_sl ([.ref (α 12), .int (nI k)]) ++ List.replicate (2 - (lg_sl ([.ref (α 12), .int (nI k)])).length) Slot.unset).toArray = ls at hl ⊢
  have hl : lv_has ls 2 [(0, .ref (α 12)), (1, .int (nI k))] := hl
  have hPP := hP
  refine lv_aload_n hx hb dX2_nameIn_0 rfl (lv_at hl 0 rfl) ?_
  refine x_get S (fun w h => List.mem_cons_of_mem _ (List.mem_append_left _ (List.mem_append_right _ h))) hK hP 12 (by omega) rfl rfl 0 (by decide) (List.mem_of_getElem? (i := 1) rfl) rfl dX2_nameIn_1 ?_
  refine lv_aload_n hx hb dX2_nameIn_4 rfl (lv_at hl 0 rfl) ?_
  refine x_get S (fun w h => List.mem_cons_of_mem _ (List.mem_append_left _ (List.mem_append_right _ h))) hK hP 12 (by omega) rfl rfl 1 (by decide) (List.mem_of_getElem? (i := 2) rfl) rfl dX2_nameIn_5 ?_
  refine lv_iload_n hx hb dX2_nameIn_8 rfl (lv_at hl 1 rfl) ?_
  refine x_iald S hK hP 13 (by omega) rfl (by first | assumption | omega) (by omega) dX2_nameIn_9 ?_
  refine x_top S (y := nI (xnat (σ 13) k)) ((hc1 k hk).2) ?_
  refine lv_aload_n hx hb dX2_nameIn_10 rfl (lv_at hl 0 rfl) ?_
  refine x_get S (fun w h => List.mem_cons_of_mem _ (List.mem_append_left _ (List.mem_append_right _ h))) hK hP 12 (by omega) rfl rfl 2 (by decide) (List.mem_of_getElem? (i := 3) rfl) rfl dX2_nameIn_11 ?_
  refine lv_iload_n hx hb dX2_nameIn_14 rfl (lv_at hl 1 rfl) ?_
  refine x_iald S hK hP 14 (by omega) rfl (by first | assumption | omega) (by omega) dX2_nameIn_15 ?_
  refine x_top S (y := nI (xnat (σ 14) k)) ((hc2 k hk).2) ?_
  refine x_cVRi (As := [.int (nI (xnat (σ 13) k)), .int (nI (xnat (σ 14) k))]) (rest := []) S hK hP 9 (by omega) rfl rfl (c_X1_nameOf l σ (xnat (σ 13) k) (xnat (σ 14) k) Y  (by first | assumption | omega) (by first | assumption | omega) (by first | assumption | omega) ((hc1 k hk).1)) (x_cwV (n0 := 2) (cq := (RX1, TX1, 4)) S gX2_nameIn_X1_nameOf rfl (by decide +kernel) ⟨Nat.le_of_ble_eq_true rfl, Nat.le_of_ble_eq_true rfl⟩) rfl hl.1 rfl (Nat.le_of_ble_eq_true rfl) dX2_nameIn_16 ⟨Nat.le_refl _, Nat.le_refl _⟩ (fun r_16 hr_16 => ?_)
  subst hr_16
  exact x_iretR S hlocks hr rfl (rfl) dX2_nameIn_19
set_option maxHeartbeats 4000000 in
set_option maxRecDepth 100000 in
theorem c_X2_sumFor (l : Launch) {D : va_G} {K : Nat → ClassId} {α : Nat → Nat} (σ : Nat → Nat → Int32) (h : Nat) (law : Nat) (Y : Nat) (cn : Nat)  (hY : xY (σ 10) Y) (hY12 : Y ≤ 12) (hc1 : xran (σ 13) cn 6) (hc2 : xran (σ 14) cn 12) (hYr : σ 9 2 = nI Y) (hcs : σ 12 4 = nI cn) (hcn : cn ≤ 12) (hh : h < 6) (hlaw : law < 3) : Met l yX2_sumFor wsX2_sumFor (xrm 2) (va_Pc [.ref (α 12), .int (nI h), .int (nI law)] (xPre D K 42 α (xC α K) σ)) (vp_Si (fun r => r = xs_owed (σ 10) Y (σ 13) (σ 14) (σ 15) h law cn)) 0 0 (fun _ => False) := by
  refine Met.ofW (cc := cX2_sumFor) (maxL := 6) (ret := (some .int)) (by decide) rfl ?_
  intro p e s m args below meth c s₁ B hml hv
  obtain ⟨rfl, hK, hP⟩ := hv
  have S : CallFix p m c cX2_sumFor 6 s _ wsX2_sumFor RX2 := ⟨B.exec, B.bytes, hml, findClass_of_methodNamed B.named, atoms_spec (ws := wsX2_sumFor) B.pre⟩
  have hx := S.1
  have hb := S.2.1
  have hr := B.returns
  have hlocks := B.notSynchronized
  have hl := lv_entry ([.ref (α 12), .int (nI h), .int (nI law)]) (n := 6) (Nat.le_of_ble_eq_true rfl)
  rw [lg_entry_eq]
  generalize (lg_sl ([.ref (α 12), .int (nI h), .int (nI law)]) ++ List.replicate (6 - (lg_sl ([.ref (α 12), .int (nI h), .int (nI law)])).length) Slot.unset).toArray = ls at hl ⊢
  have hl : lv_has ls 6 [(0, .ref (α 12)), (1, .int (nI h)), (2, .int (nI law))] := hl
  have hPP := hP
  refine lv_iconst (v := nI 0) hx hb dX2_sumFor_0 (by decide) ?_
  refine lv_istore_n (lv' := [(3, .int (nI 0)), (0, .ref (α 12)), (1, .int (nI h)), (2, .int (nI law))]) hx hb dX2_sumFor_1 rfl hl (by decide) rfl (fun ls hl => ?_)
  refine lv_iconst (v := nI 0) hx hb dX2_sumFor_2 (by decide) ?_
  refine lv_istore (lv' := [(4, .int (nI 0)), (3, .int (nI 0)), (0, .ref (α 12)), (1, .int (nI h)), (2, .int (nI law))]) hx hb dX2_sumFor_3 hl (by decide) rfl (fun ls hl => ?_)
  refine x_loop (ι := Nat) (fun i ls => (i ≤ cn) ∧ lv_has ls 6 [(4, .int (nI i)), (3, .int (xs_owed (σ 10) Y (σ 13) (σ 14) (σ 15) h law i)), (0, .ref (α 12)), (1, .int (nI h)), (2, .int (nI law))]) (fun i => cn - i) ?_ 0 ls ⟨Nat.zero_le _, lv_sub hl [0, 1, 2, 3, 4] rfl⟩
  intro i ls hinv ih_5
  obtain ⟨hi, hl⟩ := hinv
  have hl : lv_has ls 6 [(4, .int (nI i)), (3, .int (xs_owed (σ 10) Y (σ 13) (σ 14) (σ 15) h law i)), (0, .ref (α 12)), (1, .int (nI h)), (2, .int (nI law))] := hl
  refine lv_iload hx hb dX2_sumFor_5 (lv_at hl 0 rfl) ?_
  refine lv_aload_n hx hb dX2_sumFor_7 rfl (lv_at hl 2 rfl) ?_
  refine x_get S (fun w h => List.mem_cons_of_mem _ (List.mem_append_left _ (List.mem_append_right _ h))) hK hP 12 (by omega) rfl rfl 4 (by decide) (List.mem_of_getElem? (i := 1) rfl) rfl dX2_sumFor_8 ?_
  refine x_top S (y := nI cn) (hcs) ?_
  refine x_icmpN_ge (tgt := 81) S dX2_sumFor_11 (by decide) (by omega) (by omega) (fun c_11 => ?_) (fun c_11 => ?_)
  · have e9 : i = cn := by omega
    subst e9
    refine lv_iload_n hx hb dX2_sumFor_81 rfl (lv_at hl 1 rfl) ?_
    exact x_iretR S hlocks hr rfl (rfl) dX2_sumFor_82
  · refine lv_aload_n hx hb dX2_sumFor_14 rfl (lv_at hl 2 rfl) ?_
    refine lv_iload hx hb dX2_sumFor_15 (lv_at hl 0 rfl) ?_
    refine x_cVRi (As := [.int (nI i)]) (rest := []) S hK hP 12 (by omega) rfl rfl (c_X2_counts l σ i Y cn  (by first | assumption | omega) (by first | assumption | omega) (by first | assumption | omega) (by first | assumption | omega) (by first | assumption | omega)) (x_cwV (n0 := 1) (cq := (RX2, TX2, 5)) S gX2_sumFor_X2_counts rfl (by decide +kernel) ⟨Nat.le_of_ble_eq_true rfl, Nat.le_of_ble_eq_true rfl⟩) rfl hl.1 rfl (Nat.le_of_ble_eq_true rfl) dX2_sumFor_17 ⟨Nat.le_refl _, Nat.le_refl _⟩ (fun r_17 hr_17 => ?_)
    subst hr_17
    refine x_if_eqB (tgt := 75) S dX2_sumFor_20 (by decide) (fun c_20 => ?_) (fun c_20 => ?_)
    · refine lv_iinc (v := nI (i + 1)) (lv' := [(4, .int (nI (i + 1))), (3, .int (xs_owed (σ 10) Y (σ 13) (σ 14) (σ 15) h law i)), (0, .ref (α 12)), (1, .int (nI h)), (2, .int (nI law))]) hx hb dX2_sumFor_75 hl (k := 0) rfl (nI_add i 1) (by decide) rfl (fun ls hl => ?_)
      refine lv_goto (tgt := 5) hx hb dX2_sumFor_78 (by decide) ?_
      exact ih_5 (i + 1) ls ⟨(by omega), (by have h9 := lv_sub (l' := [(4, .int (nI (i + 1))), (3, .int (xs_owed (σ 10) Y (σ 13) (σ 14) (σ 15) h law i)), (0, .ref (α 12)), (1, .int (nI h)), (2, .int (nI law))]) hl [0, 1, 2, 3, 4] rfl; rw [show xs_owed (σ 10) Y (σ 13) (σ 14) (σ 15) h law i = xs_owed (σ 10) Y (σ 13) (σ 14) (σ 15) h law (i + 1) from by rw [xs_owed]; first | exact (if_neg c_20).symm | (rw [if_pos c_20, if_neg c_44, if_neg c_59, xi0, xi0])] at h9; exact h9)⟩ (by (try dsimp only); omega)
    · have hq1 := (hc1 i c_11).1
      have hq2 := (hY _ c_20 _ hq1).1
      refine lv_aload_n hx hb dX2_sumFor_23 rfl (lv_at hl 2 rfl) ?_
      refine x_get S (fun w h => List.mem_cons_of_mem _ (List.mem_append_left _ (List.mem_append_right _ h))) hK hP 12 (by omega) rfl rfl 3 (by decide) (List.mem_of_getElem? (i := 2) rfl) rfl dX2_sumFor_24 ?_
      refine lv_iload hx hb dX2_sumFor_27 (lv_at hl 0 rfl) ?_
      refine x_iald S hK hP 15 (by omega) rfl (by first | assumption | omega) (by omega) dX2_sumFor_29 ?_
      refine lv_iload_n hx hb dX2_sumFor_30 rfl (lv_at hl 4 rfl) ?_
      refine x_cSi (As := [.int (σ 15 i), .int (nI law)]) (rest := []) S (c_X2_hullsShare l (σ 15 i) law  (by first | assumption | omega)) (x_cwS (n0 := 2) S gX2_sumFor_X2_hullsShare rfl (by decide +kernel) ⟨Nat.le_of_ble_eq_true rfl, Nat.le_of_ble_eq_true rfl⟩) rfl hl.1 rfl (Nat.le_of_ble_eq_true rfl) dX2_sumFor_31 ⟨Nat.le_refl _, Nat.le_refl _⟩ (fun r_31 hr_31 => ?_)
      subst hr_31
      refine lv_istore (lv' := [(5, .int (xs_share (σ 15 i) law)), (4, .int (nI i)), (3, .int (xs_owed (σ 10) Y (σ 13) (σ 14) (σ 15) h law i)), (0, .ref (α 12)), (1, .int (nI h)), (2, .int (nI law))]) hx hb dX2_sumFor_34 hl (by decide) rfl (fun ls hl => ?_)
      refine lv_aload_n hx hb dX2_sumFor_36 rfl (lv_at hl 3 rfl) ?_
      refine x_get S (fun w h => List.mem_cons_of_mem _ (List.mem_append_left _ (List.mem_append_right _ h))) hK hP 12 (by omega) rfl rfl 1 (by decide) (List.mem_of_getElem? (i := 3) rfl) rfl dX2_sumFor_37 ?_
      refine lv_iload hx hb dX2_sumFor_40 (lv_at hl 1 rfl) ?_
      refine x_iald S hK hP 13 (by omega) rfl (by first | assumption | omega) (by omega) dX2_sumFor_42 ?_
      refine x_top S (y := nI (xnat (σ 13) i)) ((hc1 i c_11).2) ?_
      refine lv_iload_n hx hb dX2_sumFor_43 rfl (lv_at hl 4 rfl) ?_
      refine x_icmpN_ne (tgt := 52) S dX2_sumFor_44 (by decide) (by omega) (by omega) (fun c_44 => ?_) (fun c_44 => ?_)
      · refine lv_aload_n hx hb dX2_sumFor_52 rfl (lv_at hl 3 rfl) ?_
        refine lv_iload hx hb dX2_sumFor_53 (lv_at hl 1 rfl) ?_
        refine x_cVRi (As := [.int (nI i)]) (rest := []) S hK hP 12 (by omega) rfl rfl (c_X2_nameIn l σ i Y cn  (by first | assumption | omega) (by first | assumption | omega) (by first | assumption | omega) (by first | assumption | omega) (by first | assumption | omega) (by first | assumption | omega) (by first | assumption | omega)) (x_cwV (n0 := 1) (cq := (RX2, TX2, 5)) S gX2_sumFor_X2_nameIn rfl (by decide +kernel) ⟨Nat.le_of_ble_eq_true rfl, Nat.le_of_ble_eq_true rfl⟩) rfl hl.1 rfl (Nat.le_of_ble_eq_true rfl) dX2_sumFor_55 ⟨Nat.le_refl _, Nat.le_refl _⟩ (fun r_55 hr_55 => ?_)
        subst hr_55
        refine lv_iload_n hx hb dX2_sumFor_58 rfl (lv_at hl 4 rfl) ?_
        refine x_icmpN_ne (tgt := 75) S dX2_sumFor_59 (by decide) (by omega) (by omega) (fun c_59 => ?_) (fun c_59 => ?_)
        · refine lv_iinc (v := nI (i + 1)) (lv' := [(4, .int (nI (i + 1))), (5, .int (xs_share (σ 15 i) law)), (3, .int (xs_owed (σ 10) Y (σ 13) (σ 14) (σ 15) h law i)), (0, .ref (α 12)), (1, .int (nI h)), (2, .int (nI law))]) hx hb dX2_sumFor_75 hl (k := 1) rfl (nI_add i 1) (by decide) rfl (fun ls hl => ?_)
          refine lv_goto (tgt := 5) hx hb dX2_sumFor_78 (by decide) ?_
          exact ih_5 (i + 1) ls ⟨(by omega), (by have h9 := lv_sub (l' := [(4, .int (nI (i + 1))), (3, .int (xs_owed (σ 10) Y (σ 13) (σ 14) (σ 15) h law i)), (0, .ref (α 12)), (1, .int (nI h)), (2, .int (nI law))]) hl [0, 2, 3, 4, 5] rfl; rw [show xs_owed (σ 10) Y (σ 13) (σ 14) (σ 15) h law i = xs_owed (σ 10) Y (σ 13) (σ 14) (σ 15) h law (i + 1) from by rw [xs_owed]; first | exact (if_neg c_20).symm | (rw [if_pos c_20, if_neg c_44, if_neg c_59, xi0, xi0])] at h9; exact h9)⟩ (by (try dsimp only); omega)
        · refine lv_iload_n hx hb dX2_sumFor_62 rfl (lv_at hl 2 rfl) ?_
          refine lv_aload_n hx hb dX2_sumFor_63 rfl (lv_at hl 3 rfl) ?_
          refine x_get S (fun w h => List.mem_cons_of_mem _ (List.mem_append_left _ (List.mem_append_right _ h))) hK hP 12 (by omega) rfl rfl 3 (by decide) (List.mem_of_getElem? (i := 2) rfl) rfl dX2_sumFor_64 ?_
          refine lv_iload hx hb dX2_sumFor_67 (lv_at hl 1 rfl) ?_
          refine x_iald S hK hP 15 (by omega) rfl (by first | assumption | omega) (by omega) dX2_sumFor_69 ?_
          refine lv_iload hx hb dX2_sumFor_70 (lv_at hl 0 rfl) ?_
          refine lv_isub hx hb dX2_sumFor_72 ?_
          refine lv_iadd hx hb dX2_sumFor_73 ?_
          refine lv_istore_n (lv' := [(3, .int ((xs_owed (σ 10) Y (σ 13) (σ 14) (σ 15) h law i) + ((σ 15 i) - (xs_share (σ 15 i) law)))), (5, .int (xs_share (σ 15 i) law)), (4, .int (nI i)), (0, .ref (α 12)), (1, .int (nI h)), (2, .int (nI law))]) hx hb dX2_sumFor_74 rfl hl (by decide) rfl (fun ls hl => ?_)
          refine lv_iinc (v := nI (i + 1)) (lv' := [(4, .int (nI (i + 1))), (3, .int ((xs_owed (σ 10) Y (σ 13) (σ 14) (σ 15) h law i) + ((σ 15 i) - (xs_share (σ 15 i) law)))), (5, .int (xs_share (σ 15 i) law)), (0, .ref (α 12)), (1, .int (nI h)), (2, .int (nI law))]) hx hb dX2_sumFor_75 hl (k := 2) rfl (nI_add i 1) (by decide) rfl (fun ls hl => ?_)
          refine lv_goto (tgt := 5) hx hb dX2_sumFor_78 (by decide) ?_
          exact ih_5 (i + 1) ls ⟨(by omega), (by have h9 := lv_sub (l' := [(4, .int (nI (i + 1))), (3, .int ((xs_owed (σ 10) Y (σ 13) (σ 14) (σ 15) h law i) + ((σ 15 i) - (xs_share (σ 15 i) law)))), (0, .ref (α 12)), (1, .int (nI h)), (2, .int (nI law))]) hl [0, 1, 3, 4, 5] rfl; rw [show (xs_owed (σ 10) Y (σ 13) (σ 14) (σ 15) h law i) + ((σ 15 i) - (xs_share (σ 15 i) law)) = xs_owed (σ 10) Y (σ 13) (σ 14) (σ 15) h law (i + 1) from by rw [xs_owed, if_pos c_20]; first | rw [if_pos c_44, if_neg c_59, xi0] | rw [if_neg c_44, if_pos c_59, xi0] | rw [if_pos c_44, if_pos c_59]] at h9; exact h9)⟩ (by (try dsimp only); omega)
      · refine lv_iload_n hx hb dX2_sumFor_47 rfl (lv_at hl 2 rfl) ?_
        refine lv_iload hx hb dX2_sumFor_48 (lv_at hl 0 rfl) ?_
        refine lv_iadd hx hb dX2_sumFor_50 ?_
        refine lv_istore_n (lv' := [(3, .int ((xs_owed (σ 10) Y (σ 13) (σ 14) (σ 15) h law i) + (xs_share (σ 15 i) law))), (5, .int (xs_share (σ 15 i) law)), (4, .int (nI i)), (0, .ref (α 12)), (1, .int (nI h)), (2, .int (nI law))]) hx hb dX2_sumFor_51 rfl hl (by decide) rfl (fun ls hl => ?_)
        refine lv_aload_n hx hb dX2_sumFor_52 rfl (lv_at hl 3 rfl) ?_
        refine lv_iload hx hb dX2_sumFor_53 (lv_at hl 2 rfl) ?_
        refine x_cVRi (As := [.int (nI i)]) (rest := []) S hK hP 12 (by omega) rfl rfl (c_X2_nameIn l σ i Y cn  (by first | assumption | omega) (by first | assumption | omega) (by first | assumption | omega) (by first | assumption | omega) (by first | assumption | omega) (by first | assumption | omega) (by first | assumption | omega)) (x_cwV (n0 := 1) (cq := (RX2, TX2, 5)) S gX2_sumFor_X2_nameIn rfl (by decide +kernel) ⟨Nat.le_of_ble_eq_true rfl, Nat.le_of_ble_eq_true rfl⟩) rfl hl.1 rfl (Nat.le_of_ble_eq_true rfl) dX2_sumFor_55 ⟨Nat.le_refl _, Nat.le_refl _⟩ (fun r_55 hr_55 => ?_)
        subst hr_55
        refine lv_iload_n hx hb dX2_sumFor_58 rfl (lv_at hl 4 rfl) ?_
        refine x_icmpN_ne (tgt := 75) S dX2_sumFor_59 (by decide) (by omega) (by omega) (fun c_59 => ?_) (fun c_59 => ?_)
        · refine lv_iinc (v := nI (i + 1)) (lv' := [(4, .int (nI (i + 1))), (3, .int ((xs_owed (σ 10) Y (σ 13) (σ 14) (σ 15) h law i) + (xs_share (σ 15 i) law))), (5, .int (xs_share (σ 15 i) law)), (0, .ref (α 12)), (1, .int (nI h)), (2, .int (nI law))]) hx hb dX2_sumFor_75 hl (k := 2) rfl (nI_add i 1) (by decide) rfl (fun ls hl => ?_)
          refine lv_goto (tgt := 5) hx hb dX2_sumFor_78 (by decide) ?_
          exact ih_5 (i + 1) ls ⟨(by omega), (by have h9 := lv_sub (l' := [(4, .int (nI (i + 1))), (3, .int ((xs_owed (σ 10) Y (σ 13) (σ 14) (σ 15) h law i) + (xs_share (σ 15 i) law))), (0, .ref (α 12)), (1, .int (nI h)), (2, .int (nI law))]) hl [0, 1, 3, 4, 5] rfl; rw [show (xs_owed (σ 10) Y (σ 13) (σ 14) (σ 15) h law i) + (xs_share (σ 15 i) law) = xs_owed (σ 10) Y (σ 13) (σ 14) (σ 15) h law (i + 1) from by rw [xs_owed, if_pos c_20]; first | rw [if_pos c_44, if_neg c_59, xi0] | rw [if_neg c_44, if_pos c_59, xi0] | rw [if_pos c_44, if_pos c_59]] at h9; exact h9)⟩ (by (try dsimp only); omega)
        · refine lv_iload_n hx hb dX2_sumFor_62 rfl (lv_at hl 0 rfl) ?_
          refine lv_aload_n hx hb dX2_sumFor_63 rfl (lv_at hl 3 rfl) ?_
          refine x_get S (fun w h => List.mem_cons_of_mem _ (List.mem_append_left _ (List.mem_append_right _ h))) hK hP 12 (by omega) rfl rfl 3 (by decide) (List.mem_of_getElem? (i := 2) rfl) rfl dX2_sumFor_64 ?_
          refine lv_iload hx hb dX2_sumFor_67 (lv_at hl 2 rfl) ?_
          refine x_iald S hK hP 15 (by omega) rfl (by first | assumption | omega) (by omega) dX2_sumFor_69 ?_
          refine lv_iload hx hb dX2_sumFor_70 (lv_at hl 1 rfl) ?_
          refine lv_isub hx hb dX2_sumFor_72 ?_
          refine lv_iadd hx hb dX2_sumFor_73 ?_
          refine lv_istore_n (lv' := [(3, .int (((xs_owed (σ 10) Y (σ 13) (σ 14) (σ 15) h law i) + (xs_share (σ 15 i) law)) + ((σ 15 i) - (xs_share (σ 15 i) law)))), (5, .int (xs_share (σ 15 i) law)), (4, .int (nI i)), (0, .ref (α 12)), (1, .int (nI h)), (2, .int (nI law))]) hx hb dX2_sumFor_74 rfl hl (by decide) rfl (fun ls hl => ?_)
          refine lv_iinc (v := nI (i + 1)) (lv' := [(4, .int (nI (i + 1))), (3, .int (((xs_owed (σ 10) Y (σ 13) (σ 14) (σ 15) h law i) + (xs_share (σ 15 i) law)) + ((σ 15 i) - (xs_share (σ 15 i) law)))), (5, .int (xs_share (σ 15 i) law)), (0, .ref (α 12)), (1, .int (nI h)), (2, .int (nI law))]) hx hb dX2_sumFor_75 hl (k := 2) rfl (nI_add i 1) (by decide) rfl (fun ls hl => ?_)
          refine lv_goto (tgt := 5) hx hb dX2_sumFor_78 (by decide) ?_
          exact ih_5 (i + 1) ls ⟨(by omega), (by have h9 := lv_sub (l' := [(4, .int (nI (i + 1))), (3, .int (((xs_owed (σ 10) Y (σ 13) (σ 14) (σ 15) h law i) + (xs_share (σ 15 i) law)) + ((σ 15 i) - (xs_share (σ 15 i) law)))), (0, .ref (α 12)), (1, .int (nI h)), (2, .int (nI law))]) hl [0, 1, 3, 4, 5] rfl; rw [show ((xs_owed (σ 10) Y (σ 13) (σ 14) (σ 15) h law i) + (xs_share (σ 15 i) law)) + ((σ 15 i) - (xs_share (σ 15 i) law)) = xs_owed (σ 10) Y (σ 13) (σ 14) (σ 15) h law (i + 1) from by rw [xs_owed, if_pos c_20]; first | rw [if_pos c_44, if_neg c_59, xi0] | rw [if_neg c_44, if_pos c_59, xi0] | rw [if_pos c_44, if_pos c_59]] at h9; exact h9)⟩ (by (try dsimp only); omega)
set_option maxHeartbeats 4000000 in
set_option maxRecDepth 100000 in
theorem c_X2_countDisputed (l : Launch) {D : va_G} {K : Nat → ClassId} {α : Nat → Nat} (σ : Nat → Nat → Int32) (Y : Nat) (cn : Nat)  (hY : xY (σ 10) Y) (hY12 : Y ≤ 12) (hc1 : xran (σ 13) cn 6) (hc2 : xran (σ 14) cn 12) (hYr : σ 9 2 = nI Y) (hcs : σ 12 4 = nI cn) (hcn : cn ≤ 12) : Met l yX2_countDisputed wsX2_countDisputed (xrm 2) (va_Pc [.ref (α 12)] (xPre D K 42 α (xC α K) σ)) (vp_Si (fun r => r = xs_disp (σ 10) Y (σ 13) (σ 14) cn)) 0 0 (fun _ => False) := by
  refine Met.ofW (cc := cX2_countDisputed) (maxL := 3) (ret := (some .int)) (by decide) rfl ?_
  intro p e s m args below meth c s₁ B hml hv
  obtain ⟨rfl, hK, hP⟩ := hv
  have S : CallFix p m c cX2_countDisputed 3 s _ wsX2_countDisputed RX2 := ⟨B.exec, B.bytes, hml, findClass_of_methodNamed B.named, atoms_spec (ws := wsX2_countDisputed) B.pre⟩
  have hx := S.1
  have hb := S.2.1
  have hr := B.returns
  have hlocks := B.notSynchronized
  have hl := lv_entry ([.ref (α 12)]) (n := 3) (Nat.le_of_ble_eq_true rfl)
  rw [lg_entry_eq]
  generalize (lg_sl ([.ref (α 12)]) ++ List.replicate (3 - (lg_sl ([.ref (α 12)])).length) Slot.unset).toArray = ls at hl ⊢
  have hl : lv_has ls 3 [(0, .ref (α 12))] := hl
  have hPP := hP
  refine lv_iconst (v := nI 0) hx hb dX2_countDisputed_0 (by decide) ?_
  refine lv_istore_n (lv' := [(1, .int (nI 0)), (0, .ref (α 12))]) hx hb dX2_countDisputed_1 rfl hl (by decide) rfl (fun ls hl => ?_)
  refine lv_iconst (v := nI 0) hx hb dX2_countDisputed_2 (by decide) ?_
  refine lv_istore_n (lv' := [(2, .int (nI 0)), (1, .int (nI 0)), (0, .ref (α 12))]) hx hb dX2_countDisputed_3 rfl hl (by decide) rfl (fun ls hl => ?_)
  refine x_loop (ι := Nat) (fun i ls => (i ≤ cn) ∧ lv_has ls 3 [(2, .int (nI i)), (1, .int (xsum (fun k => if xnat (σ 14) k < Y ∧ ¬ xnm (σ 10) (xnat (σ 14) k) (xnat (σ 13) k) = xnat (σ 13) k then 1 else 0) i)), (0, .ref (α 12))]) (fun i => cn - i) ?_ 0 ls ⟨Nat.zero_le _, lv_sub hl [0, 1, 2] rfl⟩
  intro i ls hinv ih_4
  obtain ⟨hi, hl⟩ := hinv
  have hl : lv_has ls 3 [(2, .int (nI i)), (1, .int (xsum (fun k => if xnat (σ 14) k < Y ∧ ¬ xnm (σ 10) (xnat (σ 14) k) (xnat (σ 13) k) = xnat (σ 13) k then 1 else 0) i)), (0, .ref (α 12))] := hl
  refine lv_iload_n hx hb dX2_countDisputed_4 rfl (lv_at hl 0 rfl) ?_
  refine lv_aload_n hx hb dX2_countDisputed_5 rfl (lv_at hl 2 rfl) ?_
  refine x_get S (fun w h => List.mem_cons_of_mem _ (List.mem_append_left _ (List.mem_append_right _ h))) hK hP 12 (by omega) rfl rfl 4 (by decide) (List.mem_of_getElem? (i := 1) rfl) rfl dX2_countDisputed_6 ?_
  refine x_top S (y := nI cn) (hcs) ?_
  refine x_icmpN_ge (tgt := 43) S dX2_countDisputed_9 (by decide) (by omega) (by omega) (fun c_9 => ?_) (fun c_9 => ?_)
  · have e9 : i = cn := by omega
    subst e9
    refine lv_iload_n hx hb dX2_countDisputed_43 rfl (lv_at hl 1 rfl) ?_
    exact x_iretR S hlocks hr rfl (rfl) dX2_countDisputed_44
  · refine lv_aload_n hx hb dX2_countDisputed_12 rfl (lv_at hl 2 rfl) ?_
    refine lv_iload_n hx hb dX2_countDisputed_13 rfl (lv_at hl 0 rfl) ?_
    refine x_cVRi (As := [.int (nI i)]) (rest := []) S hK hP 12 (by omega) rfl rfl (c_X2_counts l σ i Y cn  (by first | assumption | omega) (by first | assumption | omega) (by first | assumption | omega) (by first | assumption | omega) (by first | assumption | omega)) (x_cwV (n0 := 1) (cq := (RX2, TX2, 5)) S gX2_countDisputed_X2_counts rfl (by decide +kernel) ⟨Nat.le_of_ble_eq_true rfl, Nat.le_of_ble_eq_true rfl⟩) rfl hl.1 rfl (Nat.le_of_ble_eq_true rfl) dX2_countDisputed_14 ⟨Nat.le_refl _, Nat.le_refl _⟩ (fun r_14 hr_14 => ?_)
    subst hr_14
    refine x_if_eqB (tgt := 37) S dX2_countDisputed_17 (by decide) (fun c_17 => ?_) (fun c_17 => ?_)
    · refine lv_iinc (v := nI (i + 1)) (lv' := [(2, .int (nI (i + 1))), (1, .int (xsum (fun k => if xnat (σ 14) k < Y ∧ ¬ xnm (σ 10) (xnat (σ 14) k) (xnat (σ 13) k) = xnat (σ 13) k then 1 else 0) i)), (0, .ref (α 12))]) hx hb dX2_countDisputed_37 hl (k := 0) rfl (nI_add i 1) (by decide) rfl (fun ls hl => ?_)
      refine lv_goto (tgt := 4) hx hb dX2_countDisputed_40 (by decide) ?_
      exact ih_4 (i + 1) ls ⟨(by omega), (by have h9 := lv_sub (l' := [(2, .int (nI (i + 1))), (1, .int (xsum (fun k => if xnat (σ 14) k < Y ∧ ¬ xnm (σ 10) (xnat (σ 14) k) (xnat (σ 13) k) = xnat (σ 13) k then 1 else 0) i)), (0, .ref (α 12))]) hl [0, 1, 2] rfl; rw [show xsum (fun k => if xnat (σ 14) k < Y ∧ ¬ xnm (σ 10) (xnat (σ 14) k) (xnat (σ 13) k) = xnat (σ 13) k then 1 else 0) i = xsum (fun k => if xnat (σ 14) k < Y ∧ ¬ xnm (σ 10) (xnat (σ 14) k) (xnat (σ 13) k) = xnat (σ 13) k then 1 else 0) (i + 1) from by rw [xsum_s]; first | rw [if_neg (fun q => c_17 q.1), xi0] | rw [if_neg (fun q => q.2 c_31), xi0]] at h9; exact h9)⟩ (by (try dsimp only); omega)
    · have hq1 := (hc1 i c_9).1
      have hq2 := (hY _ c_17 _ hq1).1
      refine lv_aload_n hx hb dX2_countDisputed_20 rfl (lv_at hl 2 rfl) ?_
      refine lv_iload_n hx hb dX2_countDisputed_21 rfl (lv_at hl 0 rfl) ?_
      refine x_cVRi (As := [.int (nI i)]) (rest := []) S hK hP 12 (by omega) rfl rfl (c_X2_nameIn l σ i Y cn  (by first | assumption | omega) (by first | assumption | omega) (by first | assumption | omega) (by first | assumption | omega) (by first | assumption | omega) (by first | assumption | omega) (by first | assumption | omega)) (x_cwV (n0 := 1) (cq := (RX2, TX2, 5)) S gX2_countDisputed_X2_nameIn rfl (by decide +kernel) ⟨Nat.le_of_ble_eq_true rfl, Nat.le_of_ble_eq_true rfl⟩) rfl hl.1 rfl (Nat.le_of_ble_eq_true rfl) dX2_countDisputed_22 ⟨Nat.le_refl _, Nat.le_refl _⟩ (fun r_22 hr_22 => ?_)
      subst hr_22
      refine lv_aload_n hx hb dX2_countDisputed_25 rfl (lv_at hl 2 rfl) ?_
      refine x_get S (fun w h => List.mem_cons_of_mem _ (List.mem_append_left _ (List.mem_append_right _ h))) hK hP 12 (by omega) rfl rfl 1 (by decide) (List.mem_of_getElem? (i := 2) rfl) rfl dX2_countDisputed_26 ?_
      refine lv_iload_n hx hb dX2_countDisputed_29 rfl (lv_at hl 0 rfl) ?_
      refine x_iald S hK hP 13 (by omega) rfl (by first | assumption | omega) (by omega) dX2_countDisputed_30 ?_
      refine x_top S (y := nI (xnat (σ 13) i)) ((hc1 i c_9).2) ?_
      refine x_icmpN_eq (tgt := 37) S dX2_countDisputed_31 (by decide) (by omega) (by omega) (fun c_31 => ?_) (fun c_31 => ?_)
      · refine lv_iinc (v := nI (i + 1)) (lv' := [(2, .int (nI (i + 1))), (1, .int (xsum (fun k => if xnat (σ 14) k < Y ∧ ¬ xnm (σ 10) (xnat (σ 14) k) (xnat (σ 13) k) = xnat (σ 13) k then 1 else 0) i)), (0, .ref (α 12))]) hx hb dX2_countDisputed_37 hl (k := 0) rfl (nI_add i 1) (by decide) rfl (fun ls hl => ?_)
        refine lv_goto (tgt := 4) hx hb dX2_countDisputed_40 (by decide) ?_
        exact ih_4 (i + 1) ls ⟨(by omega), (by have h9 := lv_sub (l' := [(2, .int (nI (i + 1))), (1, .int (xsum (fun k => if xnat (σ 14) k < Y ∧ ¬ xnm (σ 10) (xnat (σ 14) k) (xnat (σ 13) k) = xnat (σ 13) k then 1 else 0) i)), (0, .ref (α 12))]) hl [0, 1, 2] rfl; rw [show xsum (fun k => if xnat (σ 14) k < Y ∧ ¬ xnm (σ 10) (xnat (σ 14) k) (xnat (σ 13) k) = xnat (σ 13) k then 1 else 0) i = xsum (fun k => if xnat (σ 14) k < Y ∧ ¬ xnm (σ 10) (xnat (σ 14) k) (xnat (σ 13) k) = xnat (σ 13) k then 1 else 0) (i + 1) from by rw [xsum_s]; first | rw [if_neg (fun q => c_17 q.1), xi0] | rw [if_neg (fun q => q.2 c_31), xi0]] at h9; exact h9)⟩ (by (try dsimp only); omega)
      · refine lv_iinc (v := (xsum (fun k => if xnat (σ 14) k < Y ∧ ¬ xnm (σ 10) (xnat (σ 14) k) (xnat (σ 13) k) = xnat (σ 13) k then 1 else 0) i) + 1) (lv' := [(1, .int ((xsum (fun k => if xnat (σ 14) k < Y ∧ ¬ xnm (σ 10) (xnat (σ 14) k) (xnat (σ 13) k) = xnat (σ 13) k then 1 else 0) i) + 1)), (2, .int (nI i)), (0, .ref (α 12))]) hx hb dX2_countDisputed_34 hl (k := 1) rfl (rfl) (by decide) rfl (fun ls hl => ?_)
        refine lv_iinc (v := nI (i + 1)) (lv' := [(2, .int (nI (i + 1))), (1, .int ((xsum (fun k => if xnat (σ 14) k < Y ∧ ¬ xnm (σ 10) (xnat (σ 14) k) (xnat (σ 13) k) = xnat (σ 13) k then 1 else 0) i) + 1)), (0, .ref (α 12))]) hx hb dX2_countDisputed_37 hl (k := 1) rfl (nI_add i 1) (by decide) rfl (fun ls hl => ?_)
        refine lv_goto (tgt := 4) hx hb dX2_countDisputed_40 (by decide) ?_
        exact ih_4 (i + 1) ls ⟨(by omega), (by have h9 := lv_sub (l' := [(2, .int (nI (i + 1))), (1, .int ((xsum (fun k => if xnat (σ 14) k < Y ∧ ¬ xnm (σ 10) (xnat (σ 14) k) (xnat (σ 13) k) = xnat (σ 13) k then 1 else 0) i) + 1)), (0, .ref (α 12))]) hl [0, 1, 2] rfl; rw [show (xsum (fun k => if xnat (σ 14) k < Y ∧ ¬ xnm (σ 10) (xnat (σ 14) k) (xnat (σ 13) k) = xnat (σ 13) k then 1 else 0) i) + 1 = xsum (fun k => if xnat (σ 14) k < Y ∧ ¬ xnm (σ 10) (xnat (σ 14) k) (xnat (σ 13) k) = xnat (σ 13) k then 1 else 0) (i + 1) from by rw [xsum_s]; rw [if_pos ⟨c_17, c_31⟩]] at h9; exact h9)⟩ (by (try dsimp only); omega)
set_option maxHeartbeats 4000000 in
set_option maxRecDepth 100000 in
theorem c_X2_add (l : Launch) {D : va_G} {K : Nat → ClassId} {α : Nat → Nat} (σ : Nat → Nat → Int32) (hI : xw_I 42 α) (a : Int32) (b : Int32) (x : Int32) (k : Nat)  (hk : σ 12 4 = nI k) (hk12 : k < 12) : Met l yX2_add wsX2_add (xrm 0) (va_Pc [.ref (α 12), .int a, .int b, .int x] (xPre D K 42 α (xC α K) σ)) (xQv D 42 α (xC α K) (fun τ => τ = xst_cl σ k a b x)) 0 0 (xw_R 42 α) := by
  refine Met.ofW (cc := cX2_add) (maxL := 4) (ret := none) (by decide) rfl ?_
  intro p e s m args below meth c s₁ B hml hv
  obtain ⟨rfl, hK, hP⟩ := hv
  have S : CallFix p m c cX2_add 4 s _ wsX2_add RX2 := ⟨B.exec, B.bytes, hml, findClass_of_methodNamed B.named, atoms_spec (ws := wsX2_add) B.pre⟩
  have hx := S.1
  have hb := S.2.1
  have hr := B.returns
  have hlocks := B.notSynchronized
  have hS : va_S (xw_R 42 α) s.heap s.heap [] := va_S.rf
  have hl := lv_entry ([.ref (α 12), .int a, .int b, .int x]) (n := 4) (Nat.le_of_ble_eq_true rfl)
  rw [lg_entry_eq]
  generalize (lg_sl ([.ref (α 12), .int a, .int b, .int x]) ++ List.replicate (4 - (lg_sl ([.ref (α 12), .int a, .int b, .int x])).length) Slot.unset).toArray = ls at hl ⊢
  have hl : lv_has ls 4 [(0, .ref (α 12)), (1, .int a), (2, .int b), (3, .int x)] := hl
  have hPP := hP
  refine lv_aload_n hx hb dX2_add_0 rfl (lv_at hl 0 rfl) ?_
  refine x_get S (fun w h => List.mem_cons_of_mem _ (List.mem_append_right _ h)) hK hP 12 (by omega) rfl rfl 4 (by decide) (List.mem_of_getElem? (i := 1) rfl) rfl dX2_add_1 ?_
  refine x_top S (y := nI k) (hk) ?_
  refine lv_bipush (v := nI 12) hx hb dX2_add_4 (by decide) ?_
  refine x_icmpN_ge (tgt := 49) S dX2_add_6 (by decide) (by omega) (by omega) (fun c_6 => ?_) (fun c_6 => ?_)
  · exact absurd c_6 (by omega)
  · refine lv_aload_n hx hb dX2_add_9 rfl (lv_at hl 0 rfl) ?_
    refine x_get S (fun w h => List.mem_cons_of_mem _ (List.mem_append_right _ h)) hK hP 12 (by omega) rfl rfl 1 (by decide) (List.mem_of_getElem? (i := 2) rfl) rfl dX2_add_10 ?_
    refine lv_aload_n hx hb dX2_add_13 rfl (lv_at hl 0 rfl) ?_
    refine x_get S (fun w h => List.mem_cons_of_mem _ (List.mem_append_right _ h)) hK hP 12 (by omega) rfl rfl 4 (by decide) (List.mem_of_getElem? (i := 1) rfl) rfl dX2_add_14 ?_
    refine x_top S (y := nI k) (hk) ?_
    refine lv_iload_n hx hb dX2_add_17 rfl (lv_at hl 1 rfl) ?_
    refine x_iast S hK hP hI hS 13 (by omega) (fun _ => rfl) (by first | assumption | omega) (by omega) dX2_add_18 (fun H locs hP hS => ?_)
    refine lv_aload_n hx hb dX2_add_19 rfl (lv_at hl 0 rfl) ?_
    refine x_get S (fun w h => List.mem_cons_of_mem _ (List.mem_append_right _ h)) hK hP 12 (by omega) rfl rfl 2 (by decide) (List.mem_of_getElem? (i := 3) rfl) rfl dX2_add_20 ?_
    refine lv_aload_n hx hb dX2_add_23 rfl (lv_at hl 0 rfl) ?_
    refine x_get S (fun w h => List.mem_cons_of_mem _ (List.mem_append_right _ h)) hK hP 12 (by omega) rfl rfl 4 (by decide) (List.mem_of_getElem? (i := 1) rfl) rfl dX2_add_24 ?_
    refine x_top S (y := nI k) (by rw [xup_n _ _ (by decide)]; exact hk) ?_
    refine lv_iload_n hx hb dX2_add_27 rfl (lv_at hl 2 rfl) ?_
    refine x_iast S hK hP hI hS 14 (by omega) (fun _ => rfl) (by first | assumption | omega) (by omega) dX2_add_28 (fun H locs hP hS => ?_)
    have hP : va_P D vwCl (xw 42 α (xC α K) (va_up (va_up σ 13 (upd (σ 13) k a)) 14 (upd (σ 14) k b))) H := by
      rw [show va_up (va_up σ 13 (upd (σ 13) k a)) 14 (upd (σ 14) k b) = (va_up (va_up σ 13 (upd (σ 13) k a)) 14 (upd ((va_up σ 13 (upd (σ 13) k a)) 14) k b)) from by rw [xup_n _ _ (by decide)]]; exact hP
    refine lv_aload_n hx hb dX2_add_29 rfl (lv_at hl 0 rfl) ?_
    refine x_get S (fun w h => List.mem_cons_of_mem _ (List.mem_append_right _ h)) hK hP 12 (by omega) rfl rfl 3 (by decide) (List.mem_of_getElem? (i := 4) rfl) rfl dX2_add_30 ?_
    refine lv_aload_n hx hb dX2_add_33 rfl (lv_at hl 0 rfl) ?_
    refine x_get S (fun w h => List.mem_cons_of_mem _ (List.mem_append_right _ h)) hK hP 12 (by omega) rfl rfl 4 (by decide) (List.mem_of_getElem? (i := 1) rfl) rfl dX2_add_34 ?_
    refine x_top S (y := nI k) (by rw [xup_n _ _ (by decide), xup_n _ _ (by decide)]; exact hk) ?_
    refine lv_iload_n hx hb dX2_add_37 rfl (lv_at hl 3 rfl) ?_
    refine x_iast S hK hP hI hS 15 (by omega) (fun _ => rfl) (by first | assumption | omega) (by omega) dX2_add_38 (fun H locs hP hS => ?_)
    have hP : va_P D vwCl (xw 42 α (xC α K) (va_up (va_up (va_up σ 13 (upd (σ 13) k a)) 14 (upd (σ 14) k b)) 15 (upd (σ 15) k x))) H := by
      rw [show va_up (va_up (va_up σ 13 (upd (σ 13) k a)) 14 (upd (σ 14) k b)) 15 (upd (σ 15) k x) = (va_up (va_up (va_up σ 13 (upd (σ 13) k a)) 14 (upd (σ 14) k b)) 15 (upd ((va_up (va_up σ 13 (upd (σ 13) k a)) 14 (upd (σ 14) k b)) 15) k x)) from by rw [xup_n _ _ (by decide), xup_n _ _ (by decide)]]; exact hP
    refine lv_aload_n hx hb dX2_add_39 rfl (lv_at hl 0 rfl) ?_
    refine lv_dup hx hb dX2_add_40 rfl ?_
    refine x_get S (fun w h => List.mem_cons_of_mem _ (List.mem_append_right _ h)) hK hP 12 (by omega) rfl rfl 4 (by decide) (List.mem_of_getElem? (i := 1) rfl) rfl dX2_add_41 ?_
    refine x_top S (y := nI k) (by rw [xup_n _ _ (by decide), xup_n _ _ (by decide), xup_n _ _ (by decide)]; exact hk) ?_
    refine lv_iconst (v := nI 1) hx hb dX2_add_44 (by decide) ?_
    refine x_iaddN S dX2_add_45 ?_
    refine x_put S (fun w h => List.mem_cons_of_mem _ (List.mem_append_right _ h)) tyX2 tyX2_ok nmX2 hK hP hI hS 12 (by omega) rfl rfl 4 (by decide) (List.mem_of_getElem? (i := 1) rfl) rfl (ty := .int) (v := .int (nI (k + 1))) (by decide +kernel) rfl rfl (Nat.le_of_ble_eq_true rfl) (upd ((va_up (va_up (va_up σ 13 (upd (σ 13) k a)) 14 (upd (σ 14) k b)) 15 (upd (σ 15) k x)) 12) 4 (nI (k + 1))) rfl dX2_add_46 (fun H locs hP hS => ?_)
    have hP : va_P D vwCl (xw 42 α (xC α K) (xst_cl σ k a b x)) H := by
      rw [show xst_cl σ k a b x = (va_up (va_up (va_up (va_up σ 13 (upd (σ 13) k a)) 14 (upd (σ 14) k b)) 15 (upd (σ 15) k x)) 12 (upd ((va_up (va_up (va_up σ 13 (upd (σ 13) k a)) 14 (upd (σ 14) k b)) 15 (upd (σ 15) k x)) 12) 4 (nI (k + 1)))) from by unfold xst_cl; rw [xup_n _ _ (by decide), xup_n _ _ (by decide), xup_n _ _ (by decide)]]; exact hP
    exact x_vretW S hlocks hP hS hr (rfl) dX2_add_49
set_option maxHeartbeats 4000000 in
set_option maxRecDepth 100000 in
theorem c_X6_add (l : Launch) {D : va_G} {K : Nat → ClassId} {α : Nat → Nat} (σ : Nat → Nat → Int32) (hI : xw_I 42 α) (a : Int32) (b : Int32) (x : Int32) (k : Nat)  (hk : σ 16 4 = nI k) (hk12 : k < 8) : Met l yX6_add wsX6_add (xrm 0) (va_Pc [.ref (α 16), .int a, .int b, .int x] (xPre D K 42 α (xC α K) σ)) (xQv D 42 α (xC α K) (fun τ => τ = xst_sg σ k a b x)) 0 0 (xw_R 42 α) := by
  refine Met.ofW (cc := cX6_add) (maxL := 4) (ret := none) (by decide) rfl ?_
  intro p e s m args below meth c s₁ B hml hv
  obtain ⟨rfl, hK, hP⟩ := hv
  have S : CallFix p m c cX6_add 4 s _ wsX6_add RX6 := ⟨B.exec, B.bytes, hml, findClass_of_methodNamed B.named, atoms_spec (ws := wsX6_add) B.pre⟩
  have hx := S.1
  have hb := S.2.1
  have hr := B.returns
  have hlocks := B.notSynchronized
  have hS : va_S (xw_R 42 α) s.heap s.heap [] := va_S.rf
  have hl := lv_entry ([.ref (α 16), .int a, .int b, .int x]) (n := 4) (Nat.le_of_ble_eq_true rfl)
  rw [lg_entry_eq]
  generalize (lg_sl ([.ref (α 16), .int a, .int b, .int x]) ++ List.replicate (4 - (lg_sl ([.ref (α 16), .int a, .int b, .int x])).length) Slot.unset).toArray = ls at hl ⊢
  have hl : lv_has ls 4 [(0, .ref (α 16)), (1, .int a), (2, .int b), (3, .int x)] := hl
  have hPP := hP
  refine lv_aload_n hx hb dX6_add_0 rfl (lv_at hl 0 rfl) ?_
  refine x_get S (fun w h => List.mem_cons_of_mem _ (List.mem_append_right _ h)) hK hP 16 (by omega) rfl rfl 4 (by decide) (List.mem_of_getElem? (i := 1) rfl) rfl dX6_add_1 ?_
  refine x_top S (y := nI k) (hk) ?_
  refine lv_bipush (v := nI 8) hx hb dX6_add_4 (by decide) ?_
  refine x_icmpN_ge (tgt := 49) S dX6_add_6 (by decide) (by omega) (by omega) (fun c_6 => ?_) (fun c_6 => ?_)
  · exact absurd c_6 (by omega)
  · refine lv_aload_n hx hb dX6_add_9 rfl (lv_at hl 0 rfl) ?_
    refine x_get S (fun w h => List.mem_cons_of_mem _ (List.mem_append_right _ h)) hK hP 16 (by omega) rfl rfl 1 (by decide) (List.mem_of_getElem? (i := 2) rfl) rfl dX6_add_10 ?_
    refine lv_aload_n hx hb dX6_add_13 rfl (lv_at hl 0 rfl) ?_
    refine x_get S (fun w h => List.mem_cons_of_mem _ (List.mem_append_right _ h)) hK hP 16 (by omega) rfl rfl 4 (by decide) (List.mem_of_getElem? (i := 1) rfl) rfl dX6_add_14 ?_
    refine x_top S (y := nI k) (hk) ?_
    refine lv_iload_n hx hb dX6_add_17 rfl (lv_at hl 1 rfl) ?_
    refine x_iast S hK hP hI hS 17 (by omega) (fun _ => rfl) (by first | assumption | omega) (by omega) dX6_add_18 (fun H locs hP hS => ?_)
    refine lv_aload_n hx hb dX6_add_19 rfl (lv_at hl 0 rfl) ?_
    refine x_get S (fun w h => List.mem_cons_of_mem _ (List.mem_append_right _ h)) hK hP 16 (by omega) rfl rfl 2 (by decide) (List.mem_of_getElem? (i := 3) rfl) rfl dX6_add_20 ?_
    refine lv_aload_n hx hb dX6_add_23 rfl (lv_at hl 0 rfl) ?_
    refine x_get S (fun w h => List.mem_cons_of_mem _ (List.mem_append_right _ h)) hK hP 16 (by omega) rfl rfl 4 (by decide) (List.mem_of_getElem? (i := 1) rfl) rfl dX6_add_24 ?_
    refine x_top S (y := nI k) (by rw [xup_n _ _ (by decide)]; exact hk) ?_
    refine lv_iload_n hx hb dX6_add_27 rfl (lv_at hl 2 rfl) ?_
    refine x_iast S hK hP hI hS 18 (by omega) (fun _ => rfl) (by first | assumption | omega) (by omega) dX6_add_28 (fun H locs hP hS => ?_)
    have hP : va_P D vwCl (xw 42 α (xC α K) (va_up (va_up σ 17 (upd (σ 17) k a)) 18 (upd (σ 18) k b))) H := by
      rw [show va_up (va_up σ 17 (upd (σ 17) k a)) 18 (upd (σ 18) k b) = (va_up (va_up σ 17 (upd (σ 17) k a)) 18 (upd ((va_up σ 17 (upd (σ 17) k a)) 18) k b)) from by rw [xup_n _ _ (by decide)]]; exact hP
    refine lv_aload_n hx hb dX6_add_29 rfl (lv_at hl 0 rfl) ?_
    refine x_get S (fun w h => List.mem_cons_of_mem _ (List.mem_append_right _ h)) hK hP 16 (by omega) rfl rfl 3 (by decide) (List.mem_of_getElem? (i := 4) rfl) rfl dX6_add_30 ?_
    refine lv_aload_n hx hb dX6_add_33 rfl (lv_at hl 0 rfl) ?_
    refine x_get S (fun w h => List.mem_cons_of_mem _ (List.mem_append_right _ h)) hK hP 16 (by omega) rfl rfl 4 (by decide) (List.mem_of_getElem? (i := 1) rfl) rfl dX6_add_34 ?_
    refine x_top S (y := nI k) (by rw [xup_n _ _ (by decide), xup_n _ _ (by decide)]; exact hk) ?_
    refine lv_iload_n hx hb dX6_add_37 rfl (lv_at hl 3 rfl) ?_
    refine x_iast S hK hP hI hS 19 (by omega) (fun _ => rfl) (by first | assumption | omega) (by omega) dX6_add_38 (fun H locs hP hS => ?_)
    have hP : va_P D vwCl (xw 42 α (xC α K) (va_up (va_up (va_up σ 17 (upd (σ 17) k a)) 18 (upd (σ 18) k b)) 19 (upd (σ 19) k x))) H := by
      rw [show va_up (va_up (va_up σ 17 (upd (σ 17) k a)) 18 (upd (σ 18) k b)) 19 (upd (σ 19) k x) = (va_up (va_up (va_up σ 17 (upd (σ 17) k a)) 18 (upd (σ 18) k b)) 19 (upd ((va_up (va_up σ 17 (upd (σ 17) k a)) 18 (upd (σ 18) k b)) 19) k x)) from by rw [xup_n _ _ (by decide), xup_n _ _ (by decide)]]; exact hP
    refine lv_aload_n hx hb dX6_add_39 rfl (lv_at hl 0 rfl) ?_
    refine lv_dup hx hb dX6_add_40 rfl ?_
    refine x_get S (fun w h => List.mem_cons_of_mem _ (List.mem_append_right _ h)) hK hP 16 (by omega) rfl rfl 4 (by decide) (List.mem_of_getElem? (i := 1) rfl) rfl dX6_add_41 ?_
    refine x_top S (y := nI k) (by rw [xup_n _ _ (by decide), xup_n _ _ (by decide), xup_n _ _ (by decide)]; exact hk) ?_
    refine lv_iconst (v := nI 1) hx hb dX6_add_44 (by decide) ?_
    refine x_iaddN S dX6_add_45 ?_
    refine x_put S (fun w h => List.mem_cons_of_mem _ (List.mem_append_right _ h)) tyX6 tyX6_ok nmX6 hK hP hI hS 16 (by omega) rfl rfl 4 (by decide) (List.mem_of_getElem? (i := 1) rfl) rfl (ty := .int) (v := .int (nI (k + 1))) (by decide +kernel) rfl rfl (Nat.le_of_ble_eq_true rfl) (upd ((va_up (va_up (va_up σ 17 (upd (σ 17) k a)) 18 (upd (σ 18) k b)) 19 (upd (σ 19) k x)) 16) 4 (nI (k + 1))) rfl dX6_add_46 (fun H locs hP hS => ?_)
    have hP : va_P D vwCl (xw 42 α (xC α K) (xst_sg σ k a b x)) H := by
      rw [show xst_sg σ k a b x = (va_up (va_up (va_up (va_up σ 17 (upd (σ 17) k a)) 18 (upd (σ 18) k b)) 19 (upd (σ 19) k x)) 16 (upd ((va_up (va_up (va_up σ 17 (upd (σ 17) k a)) 18 (upd (σ 18) k b)) 19 (upd (σ 19) k x)) 16) 4 (nI (k + 1)))) from by unfold xst_sg; rw [xup_n _ _ (by decide), xup_n _ _ (by decide), xup_n _ _ (by decide)]]; exact hP
    exact x_vretW S hlocks hP hS hr (rfl) dX6_add_49
set_option maxHeartbeats 4000000 in
set_option maxRecDepth 100000 in
theorem c_X2_clear (l : Launch) {D : va_G} {K : Nat → ClassId} {α : Nat → Nat} (σ : Nat → Nat → Int32) (hI : xw_I 42 α)   : Met l yX2_clear wsX2_clear (xrm 0) (va_Pc [.ref (α 12)] (xPre D K 42 α (xC α K) σ)) (xQi D 42 α (xC α K) (fun r τ => r = σ 12 4 ∧ τ = va_up σ 12 (upd (σ 12) 4 (nI 0)))) 0 0 (xw_R 42 α) := by
  refine Met.ofW (cc := cX2_clear) (maxL := 2) (ret := (some .int)) (by decide) rfl ?_
  intro p e s m args below meth c s₁ B hml hv
  obtain ⟨rfl, hK, hP⟩ := hv
  have S : CallFix p m c cX2_clear 2 s _ wsX2_clear RX2 := ⟨B.exec, B.bytes, hml, findClass_of_methodNamed B.named, atoms_spec (ws := wsX2_clear) B.pre⟩
  have hx := S.1
  have hb := S.2.1
  have hr := B.returns
  have hlocks := B.notSynchronized
  have hS : va_S (xw_R 42 α) s.heap s.heap [] := va_S.rf
  have hl := lv_entry ([.ref (α 12)]) (n := 2) (Nat.le_of_ble_eq_true rfl)
  rw [lg_entry_eq]
  generalize (lg_sl ([.ref (α 12)]) ++ List.replicate (2 - (lg_sl ([.ref (α 12)])).length) Slot.unset).toArray = ls at hl ⊢
  have hl : lv_has ls 2 [(0, .ref (α 12))] := hl
  have hPP := hP
  refine lv_aload_n hx hb dX2_clear_0 rfl (lv_at hl 0 rfl) ?_
  refine x_get S (fun w h => List.mem_cons_of_mem _ (List.mem_append_right _ h)) hK hP 12 (by omega) rfl rfl 4 (by decide) (List.mem_of_getElem? (i := 1) rfl) rfl dX2_clear_1 ?_
  refine lv_istore_n (lv' := [(1, .int (σ 12 4)), (0, .ref (α 12))]) hx hb dX2_clear_4 rfl hl (by decide) rfl (fun ls hl => ?_)
  refine lv_aload_n hx hb dX2_clear_5 rfl (lv_at hl 1 rfl) ?_
  refine lv_iconst (v := nI 0) hx hb dX2_clear_6 (by decide) ?_
  refine x_put S (fun w h => List.mem_cons_of_mem _ (List.mem_append_right _ h)) tyX2 tyX2_ok nmX2 hK hP hI hS 12 (by omega) rfl rfl 4 (by decide) (List.mem_of_getElem? (i := 1) rfl) rfl (ty := .int) (v := .int (nI 0)) (by decide +kernel) rfl rfl (Nat.le_of_ble_eq_true rfl) (upd (σ 12) 4 (nI 0)) rfl dX2_clear_7 (fun H locs hP hS => ?_)
  refine lv_iload_n hx hb dX2_clear_10 rfl (lv_at hl 0 rfl) ?_
  exact x_iretW S hlocks hP hS hr rfl (⟨rfl, rfl⟩) dX2_clear_11
set_option maxHeartbeats 4000000 in
set_option maxRecDepth 100000 in
theorem c_X6_clear (l : Launch) {D : va_G} {K : Nat → ClassId} {α : Nat → Nat} (σ : Nat → Nat → Int32) (hI : xw_I 42 α)   : Met l yX6_clear wsX6_clear (xrm 0) (va_Pc [.ref (α 16)] (xPre D K 42 α (xC α K) σ)) (xQi D 42 α (xC α K) (fun r τ => r = σ 16 4 ∧ τ = va_up σ 16 (upd (σ 16) 4 (nI 0)))) 0 0 (xw_R 42 α) := by
  refine Met.ofW (cc := cX6_clear) (maxL := 2) (ret := (some .int)) (by decide) rfl ?_
  intro p e s m args below meth c s₁ B hml hv
  obtain ⟨rfl, hK, hP⟩ := hv
  have S : CallFix p m c cX6_clear 2 s _ wsX6_clear RX6 := ⟨B.exec, B.bytes, hml, findClass_of_methodNamed B.named, atoms_spec (ws := wsX6_clear) B.pre⟩
  have hx := S.1
  have hb := S.2.1
  have hr := B.returns
  have hlocks := B.notSynchronized
  have hS : va_S (xw_R 42 α) s.heap s.heap [] := va_S.rf
  have hl := lv_entry ([.ref (α 16)]) (n := 2) (Nat.le_of_ble_eq_true rfl)
  rw [lg_entry_eq]
  generalize (lg_sl ([.ref (α 16)]) ++ List.replicate (2 - (lg_sl ([.ref (α 16)])).length) Slot.unset).toArray = ls at hl ⊢
  have hl : lv_has ls 2 [(0, .ref (α 16))] := hl
  have hPP := hP
  refine lv_aload_n hx hb dX6_clear_0 rfl (lv_at hl 0 rfl) ?_
  refine x_get S (fun w h => List.mem_cons_of_mem _ (List.mem_append_right _ h)) hK hP 16 (by omega) rfl rfl 4 (by decide) (List.mem_of_getElem? (i := 1) rfl) rfl dX6_clear_1 ?_
  refine lv_istore_n (lv' := [(1, .int (σ 16 4)), (0, .ref (α 16))]) hx hb dX6_clear_4 rfl hl (by decide) rfl (fun ls hl => ?_)
  refine lv_aload_n hx hb dX6_clear_5 rfl (lv_at hl 1 rfl) ?_
  refine lv_iconst (v := nI 0) hx hb dX6_clear_6 (by decide) ?_
  refine x_put S (fun w h => List.mem_cons_of_mem _ (List.mem_append_right _ h)) tyX6 tyX6_ok nmX6 hK hP hI hS 16 (by omega) rfl rfl 4 (by decide) (List.mem_of_getElem? (i := 1) rfl) rfl (ty := .int) (v := .int (nI 0)) (by decide +kernel) rfl rfl (Nat.le_of_ble_eq_true rfl) (upd (σ 16) 4 (nI 0)) rfl dX6_clear_7 (fun H locs hP hS => ?_)
  refine lv_iload_n hx hb dX6_clear_10 rfl (lv_at hl 0 rfl) ?_
  exact x_iretW S hlocks hP hS hr rfl (⟨rfl, rfl⟩) dX6_clear_11
set_option maxHeartbeats 4000000 in
set_option maxRecDepth 100000 in
theorem c_X6_namesFor (l : Launch) {D : va_G} {K : Nat → ClassId} {α : Nat → Nat} (σ : Nat → Nat → Int32) (h : Nat) (sn : Nat)  (hs1 : xran (σ 17) sn 6) (hs2 : xran (σ 18) sn 2) (hss : σ 16 4 = nI sn) (hsn : sn ≤ 8) (hh : h < 6) : Met l yX6_namesFor wsX6_namesFor (xrm 0) (va_Pc [.ref (α 16), .int (nI h)] (xPre D K 42 α (xC α K) σ)) (vp_Si (fun r => r = nI (xs_left (xFC σ) (σ 17) (σ 18) (σ 19) h sn))) 0 0 (fun _ => False) := by
  refine Met.ofW (cc := cX6_namesFor) (maxL := 4) (ret := (some .int)) (by decide) rfl ?_
  intro p e s m args below meth c s₁ B hml hv
  obtain ⟨rfl, hK, hP⟩ := hv
  have S : CallFix p m c cX6_namesFor 4 s _ wsX6_namesFor RX6 := ⟨B.exec, B.bytes, hml, findClass_of_methodNamed B.named, atoms_spec (ws := wsX6_namesFor) B.pre⟩
  have hx := S.1
  have hb := S.2.1
  have hr := B.returns
  have hlocks := B.notSynchronized
  have hl := lv_entry ([.ref (α 16), .int (nI h)]) (n := 4) (Nat.le_of_ble_eq_true rfl)
  rw [lg_entry_eq]
  generalize (lg_sl ([.ref (α 16), .int (nI h)]) ++ List.replicate (4 - (lg_sl ([.ref (α 16), .int (nI h)])).length) Slot.unset).toArray = ls at hl ⊢
  have hl : lv_has ls 4 [(0, .ref (α 16)), (1, .int (nI h))] := hl
  have hPP := hP
  refine lv_bipush (v := nI 63) hx hb dX6_namesFor_0 (by decide) ?_
  refine lv_istore_n (lv' := [(2, .int (nI 63)), (0, .ref (α 16)), (1, .int (nI h))]) hx hb dX6_namesFor_2 rfl hl (by decide) rfl (fun ls hl => ?_)
  refine lv_iconst (v := nI 0) hx hb dX6_namesFor_3 (by decide) ?_
  refine lv_istore_n (lv' := [(3, .int (nI 0)), (2, .int (nI 63)), (0, .ref (α 16)), (1, .int (nI h))]) hx hb dX6_namesFor_4 rfl hl (by decide) rfl (fun ls hl => ?_)
  refine x_loop (ι := Nat) (fun i ls => (i ≤ sn) ∧ lv_has ls 4 [(3, .int (nI i)), (2, .int (nI (xs_left (xFC σ) (σ 17) (σ 18) (σ 19) h i))), (0, .ref (α 16)), (1, .int (nI h))]) (fun i => sn - i) ?_ 0 ls ⟨Nat.zero_le _, lv_sub hl [0, 1, 2, 3] rfl⟩
  intro i ls hinv ih_5
  obtain ⟨hi, hl⟩ := hinv
  have hl : lv_has ls 4 [(3, .int (nI i)), (2, .int (nI (xs_left (xFC σ) (σ 17) (σ 18) (σ 19) h i))), (0, .ref (α 16)), (1, .int (nI h))] := hl
  refine lv_iload_n hx hb dX6_namesFor_5 rfl (lv_at hl 0 rfl) ?_
  refine lv_aload_n hx hb dX6_namesFor_6 rfl (lv_at hl 2 rfl) ?_
  refine x_get S (fun w h => List.mem_cons_of_mem _ (List.mem_append_left _ (List.mem_append_right _ h))) hK hP 16 (by omega) rfl rfl 4 (by decide) (List.mem_of_getElem? (i := 1) rfl) rfl dX6_namesFor_7 ?_
  refine x_top S (y := nI sn) (hss) ?_
  refine x_icmpN_ge (tgt := 57) S dX6_namesFor_10 (by decide) (by omega) (by omega) (fun c_10 => ?_) (fun c_10 => ?_)
  · have e9 : i = sn := by omega
    subst e9
    refine lv_iload_n hx hb dX6_namesFor_57 rfl (lv_at hl 1 rfl) ?_
    exact x_iretR S hlocks hr rfl (rfl) dX6_namesFor_58
  · have hq1 := (hs1 i c_10).1
    have hq2 := (hs2 i c_10).1
    refine lv_aload_n hx hb dX6_namesFor_13 rfl (lv_at hl 2 rfl) ?_
    refine x_get S (fun w h => List.mem_cons_of_mem _ (List.mem_append_left _ (List.mem_append_right _ h))) hK hP 16 (by omega) rfl rfl 0 (by decide) (List.mem_of_getElem? (i := 2) rfl) rfl dX6_namesFor_14 ?_
    refine x_get S (fun w h => List.mem_cons_of_mem _ (List.mem_append_right _ h)) hK hP 1 (by omega) rfl rfl 0 (by decide) (List.mem_of_getElem? (i := 3) rfl) rfl dX6_namesFor_17 ?_
    refine lv_aload_n hx hb dX6_namesFor_20 rfl (lv_at hl 2 rfl) ?_
    refine x_get S (fun w h => List.mem_cons_of_mem _ (List.mem_append_left _ (List.mem_append_right _ h))) hK hP 16 (by omega) rfl rfl 2 (by decide) (List.mem_of_getElem? (i := 4) rfl) rfl dX6_namesFor_21 ?_
    refine lv_iload_n hx hb dX6_namesFor_24 rfl (lv_at hl 0 rfl) ?_
    refine x_iald S hK hP 18 (by omega) rfl (by first | assumption | omega) (by omega) dX6_namesFor_25 ?_
    refine x_top S (y := nI (xnat (σ 18) i)) ((hs2 i c_10).2) ?_
    refine x_aald S hK hP 2 1 (by omega) rfl rfl rfl (by first | assumption | omega) (by omega) rfl dX6_namesFor_26 ?_
    refine lv_iload_n hx hb dX6_namesFor_27 rfl (lv_at hl 3 rfl) ?_
    refine x_iald S hK hP (4 + xnat (σ 18) i) (by omega) (xC_h (by first | assumption | omega) _) (by first | assumption | omega) (by omega) dX6_namesFor_28 ?_
    refine x_top S (y := xFC σ (xnat (σ 18) i) h) (xFC_row hq2) ?_
    refine lv_aload_n hx hb dX6_namesFor_29 rfl (lv_at hl 2 rfl) ?_
    refine x_get S (fun w h => List.mem_cons_of_mem _ (List.mem_append_left _ (List.mem_append_right _ h))) hK hP 16 (by omega) rfl rfl 3 (by decide) (List.mem_of_getElem? (i := 5) rfl) rfl dX6_namesFor_30 ?_
    refine lv_iload_n hx hb dX6_namesFor_33 rfl (lv_at hl 0 rfl) ?_
    refine x_iald S hK hP 19 (by omega) rfl (by first | assumption | omega) (by omega) dX6_namesFor_34 ?_
    refine lv_icmp_eq (tgt := 51) hx hb dX6_namesFor_35 (by decide) (fun c_35 => ?_) (fun c_35 => ?_)
    · refine lv_iinc (v := nI (i + 1)) (lv' := [(3, .int (nI (i + 1))), (2, .int (nI (xs_left (xFC σ) (σ 17) (σ 18) (σ 19) h i))), (0, .ref (α 16)), (1, .int (nI h))]) hx hb dX6_namesFor_51 hl (k := 0) rfl (nI_add i 1) (by decide) rfl (fun ls hl => ?_)
      refine lv_goto (tgt := 5) hx hb dX6_namesFor_54 (by decide) ?_
      exact ih_5 (i + 1) ls ⟨(by omega), (by have h9 := lv_sub (l' := [(3, .int (nI (i + 1))), (2, .int (nI (xs_left (xFC σ) (σ 17) (σ 18) (σ 19) h i))), (0, .ref (α 16)), (1, .int (nI h))]) hl [0, 1, 2, 3] rfl; rw [show nI (xs_left (xFC σ) (σ 17) (σ 18) (σ 19) h i) = nI (xs_left (xFC σ) (σ 17) (σ 18) (σ 19) h (i + 1)) from by rw [xs_left, if_pos c_35]] at h9; exact h9)⟩ (by (try dsimp only); omega)
    · refine lv_iload_n hx hb dX6_namesFor_38 rfl (lv_at hl 1 rfl) ?_
      refine lv_iconst (v := nI 1) hx hb dX6_namesFor_39 (by decide) ?_
      refine lv_aload_n hx hb dX6_namesFor_40 rfl (lv_at hl 2 rfl) ?_
      refine x_get S (fun w h => List.mem_cons_of_mem _ (List.mem_append_left _ (List.mem_append_right _ h))) hK hP 16 (by omega) rfl rfl 1 (by decide) (List.mem_of_getElem? (i := 6) rfl) rfl dX6_namesFor_41 ?_
      refine lv_iload_n hx hb dX6_namesFor_44 rfl (lv_at hl 0 rfl) ?_
      refine x_iald S hK hP 17 (by omega) rfl (by first | assumption | omega) (by omega) dX6_namesFor_45 ?_
      refine x_top S (y := nI (xnat (σ 17) i)) ((hs1 i c_10).2) ?_
      refine lv_ishl hx hb dX6_namesFor_46 ?_
      refine lv_iconst (v := (-1)) hx hb dX6_namesFor_47 (by decide) ?_
      refine lv_ixor hx hb dX6_namesFor_48 ?_
      refine lv_iand hx hb dX6_namesFor_49 ?_
      refine x_top S (y := nI (xclr (xs_left (xFC σ) (σ 17) (σ 18) (σ 19) h i) (xnat (σ 17) i))) (xclr_I (xs_left_lt _ _ _ _ _ _) hq1) ?_
      refine lv_istore_n (lv' := [(2, .int (nI (xclr (xs_left (xFC σ) (σ 17) (σ 18) (σ 19) h i) (xnat (σ 17) i)))), (3, .int (nI i)), (0, .ref (α 16)), (1, .int (nI h))]) hx hb dX6_namesFor_50 rfl hl (by decide) rfl (fun ls hl => ?_)
      refine lv_iinc (v := nI (i + 1)) (lv' := [(3, .int (nI (i + 1))), (2, .int (nI (xclr (xs_left (xFC σ) (σ 17) (σ 18) (σ 19) h i) (xnat (σ 17) i)))), (0, .ref (α 16)), (1, .int (nI h))]) hx hb dX6_namesFor_51 hl (k := 1) rfl (nI_add i 1) (by decide) rfl (fun ls hl => ?_)
      refine lv_goto (tgt := 5) hx hb dX6_namesFor_54 (by decide) ?_
      exact ih_5 (i + 1) ls ⟨(by omega), (by have h9 := lv_sub (l' := [(3, .int (nI (i + 1))), (2, .int (nI (xclr (xs_left (xFC σ) (σ 17) (σ 18) (σ 19) h i) (xnat (σ 17) i)))), (0, .ref (α 16)), (1, .int (nI h))]) hl [0, 1, 2, 3] rfl; rw [show nI (xclr (xs_left (xFC σ) (σ 17) (σ 18) (σ 19) h i) (xnat (σ 17) i)) = nI (xs_left (xFC σ) (σ 17) (σ 18) (σ 19) h (i + 1)) from by rw [xs_left, if_neg c_35]] at h9; exact h9)⟩ (by (try dsimp only); omega)

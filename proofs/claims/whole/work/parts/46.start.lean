/-! the law's start -/
theorem va_P_l {D : va_G} {w0 w1 : va_W} {H : Heap} (h : va_P D vwCl (w0 ++ w1) H) : va_P D vwCl w0 H := fun k q hq => h k q (by
  rw [List.getElem?_append_left (List.getElem?_eq_some_iff.mp hq).1]
  exact hq)
theorem va_P_r {D : va_G} {w0 w1 : va_W} {H : Heap} (h : va_P D vwCl (w0 ++ w1) H) : va_P D vwCl w1 H := fun k q hq => h (w0.length + k) q (by
  rw [List.getElem?_append_right (by omega), Nat.add_sub_cancel_left]
  exact hq)
theorem xw_two {A : Nat → Prop} {n k : Nat} {α β : Nat → Nat} {C E : Nat → (Nat → Int32) → va_E} {σ τ : Nat → Nat → Int32} (hD : va_D A (xw n α C σ ++ xw k β E τ)) : xw_I n α ∧ xw_I k β ∧ (∀ i, i < n → A (α i)) ∧ (∀ j, j < k → A (β j)) ∧ ∀ i j, i < n → j < k → α i ≠ β j := by
  have hl : ∀ i, i < n → (xw n α C σ ++ xw k β E τ)[i]? = some (α i, C i (σ i)) := fun i hi => by
    rw [List.getElem?_append_left (by rw [xw_len]; exact hi), xw_get hi]
  have hr : ∀ j, j < k → (xw n α C σ ++ xw k β E τ)[n + j]? = some (β j, E j (τ j)) := fun j hj => by
    rw [List.getElem?_append_right (by rw [xw_len]; omega), xw_len, Nat.add_sub_cancel_left, xw_get hj]
  refine ⟨fun i j hi hj e => hD.1 i j _ _ (hl i hi) (hl j hj) e, fun i j hi hj e => ?_, fun i hi => hD.2 i _ (hl i hi), fun j hj => hD.2 _ _ (hr j hj), fun i j hi hj e => ?_⟩
  · have := hD.1 (n + i) (n + j) _ _ (hr i hi) (hr j hj) e
    omega
  · have := hD.1 i (n + j) _ _ (hl i hi) (hr j hj) e
    omega
theorem x_arrK {s : State} {args : Array Value} {ty : FieldType} (hv : ∀ cA : ClassId, s.vm.findClass ("[" ++ ty.toString) = some cA → va_RA s cA ty) (h : (Cond.arrayClass ty).before args s = true) : ∃ cA : ClassId, ArrOfT s cA ty ∧ va_RA s cA ty := by
  obtain ⟨cA, kA, comp, h1, h2, h3⟩ := Cond.arrayClass_spec h
  exact ⟨cA, fun n z => ⟨(fun k h => by cases h), kA, h2, comp, h3⟩, hv cA h1⟩
theorem x_arrA {s : State} {args : Array Value} (h : (Cond.arrayOver (.array .int)).before args s = true) : ∃ cA : ClassId, ArrOfT s cA (.array .int) ∧ va_RA s cA (.array .int) := by
  obtain ⟨comp, cA, kA, h1, h2, h3, h4, h5⟩ := Jvm.Stand.arrayOver_specB h
  exact ⟨cA, fun n z => ⟨(fun k h => by cases h), kA, h3, comp, h4⟩, h5⟩
theorem x_arrO {s : State} {args : Array Value} {C : String} (h : (Cond.arrayOver (.object C)).before args s = true) : ∃ cA : ClassId, ArrOfT s cA (.object C) ∧ va_RA s cA (.object C) := by
  obtain ⟨comp, cA, kA, h1, h2, h3, h4, h5⟩ := Cond.arrayOver_spec h
  exact ⟨cA, fun n z => ⟨(fun k h => by cases h), kA, h3, comp, h4⟩, kA, comp, h3, h4, h1, h5⟩
set_option maxHeartbeats 8000000 in
set_option maxRecDepth 100000 in
theorem whole_start {p : Program} {e : Env} {s : State} {m : MethodId} {below : List Frame} {meth : Method} {c : Code} (l : Launch) (hflags : l.flags = flags0) {b L : Nat} {xs : Nat → Int32} (hL : L ≤ 3072) (C0 : lw_At p s m meth c b L xs) : W p l e room_1 s m #[Value.ref b] below meth c s.heap [] 0 0 (lw_Z below #[Value.ref b] s) (entryFrame m ([Value.ref b] : List Value).toArray 4) := by
  obtain ⟨hx, hb, hr, hml, hown, hts, hX, hbl, hlocks, hgv⟩ := id C0
  have S : CallFix p m c cL_law 4 s #[Value.ref b] wsL_law RL := ⟨hx, hb, hml, hown, fun w hw => hts w (wsL_law_in w hw)⟩
  have hA : ∀ q : Nat, s.heap.size ≤ q → (fun q : Nat => s.heap.size ≤ q) q := fun _ h => h
  obtain ⟨c0, iS0, hKn0⟩ := u_known (C := RX0) (T := TX0) (N := 3) (n := 3) hts in_wsX00 (hts (.instantiable RX0 3) (by decide +kernel))
  obtain ⟨c1, iS1, hKn1⟩ := u_known (C := RX1) (T := TX1) (N := 4) (n := 4) hts in_wsX10 (hts (.instantiable RX1 4) (by decide +kernel))
  obtain ⟨c2, iS2, hKn2⟩ := u_known (C := RX2) (T := TX2) (N := 5) (n := 5) hts in_wsX20 (hts (.instantiable RX2 5) (by decide +kernel))
  obtain ⟨c3, iS3, hKn3⟩ := u_known (C := RX3) (T := TX3) (N := 3) (n := 3) hts in_wsX30 (hts (.instantiable RX3 3) (by decide +kernel))
  obtain ⟨c4, iS4, hKn4⟩ := u_known (C := RX4) (T := TX4) (N := 2) (n := 2) hts in_wsX40 (hts (.instantiable RX4 2) (by decide +kernel))
  obtain ⟨c5, iS5, hKn5⟩ := u_known (C := RX5) (T := TX5) (N := 4) (n := 4) hts in_wsX50 (hts (.instantiable RX5 4) (by decide +kernel))
  obtain ⟨c6, iS6, hKn6⟩ := u_known (C := RX6) (T := TX6) (N := 5) (n := 5) hts in_wsX60 (hts (.instantiable RX6 5) (by decide +kernel))
  obtain ⟨c7, iS7, hKn7⟩ := u_known (C := RX7) (T := TX7) (N := 2) (n := 2) hts in_wsX70 (hts (.instantiable RX7 2) (by decide +kernel))
  obtain ⟨c8, iS8, hKn8⟩ := u_known (C := RX8) (T := TX8) (N := 9) (n := 9) hts in_wsX80 (hts (.instantiable RX8 9) (by decide +kernel))
  obtain ⟨c9, iS9, hKn9⟩ := u_known (C := RX9) (T := TX9) (N := 24) (n := 24) hts in_wsX90 (hts (.instantiable RX9 24) (by decide +kernel))
  obtain ⟨D, hKc⟩ : ∃ D : va_G, ∀ (k : Nat) (q : vw_C), vwCl[k]? = some q → u_Kn s q.1 q.2.1 q.2.2 (D.1 k) (D.2 k) := by
    refine ⟨(fun k => match k with | 0 => c0 | 1 => c1 | 2 => c2 | 3 => c3 | 4 => c4 | 5 => c5 | 6 => c6 | 7 => c7 | 8 => c8 | _ => c9, fun k => match k with | 0 => iS0 | 1 => iS1 | 2 => iS2 | 3 => iS3 | 4 => iS4 | 5 => iS5 | 6 => iS6 | 7 => iS7 | 8 => iS8 | _ => iS9), ?_⟩
    intro k q hq
    match k, hq with
    | 0, hq => cases hq; exact hKn0
    | 1, hq => cases hq; exact hKn1
    | 2, hq => cases hq; exact hKn2
    | 3, hq => cases hq; exact hKn3
    | 4, hq => cases hq; exact hKn4
    | 5, hq => cases hq; exact hKn5
    | 6, hq => cases hq; exact hKn6
    | 7, hq => cases hq; exact hKn7
    | 8, hq => cases hq; exact hKn8
    | 9, hq => cases hq; exact hKn9
    | k + 10, hq => simp [vwCl] at hq
  obtain ⟨k0, hk0⟩ := x_arrK (ty := .int) (fun _ h => h) (hts (.arrayClass .int) (by decide +kernel))
  obtain ⟨k1, hk1⟩ := x_arrA (hts (.arrayOver (.array .int)) (by decide +kernel))
  obtain ⟨k2, hk2⟩ := x_arrO (hts (.arrayOver (.object "SailAsAnother$Sheet")) (by decide +kernel))
  obtain ⟨k3, hk3⟩ := x_arrK (ty := .boolean) (fun _ h => h) (hts (.arrayClass .boolean) (by decide +kernel))
  obtain ⟨K, hKt⟩ : ∃ K : Nat → ClassId, va_K D vwCl (xt K) s := by
    refine ⟨fun k => match k with | 0 => k0 | 1 => k1 | 2 => k2 | _ => k3, hKc, ?_⟩
    intro k q hq
    match k, hq with
    | 0, hq => cases hq; exact hk0
    | 1, hq => cases hq; exact hk1
    | 2, hq => cases hq; exact hk2
    | 3, hq => cases hq; exact hk3
    | k + 4, hq => simp [xt] at hq
  have hN : xN s := ⟨va_Nw.of rfl (hts (.methodLinkNest RX0 42 yX8_isIn "SailAsAnother") (by decide +kernel)), va_Nw.of rfl (hts (.methodLinkNest RX1 41 yX8_isShip "SailAsAnother") (by decide +kernel)), va_Nw.of rfl (hts (.methodLinkNest RX1 45 yX8_isIn "SailAsAnother") (by decide +kernel)), va_Nw.of rfl (hts (.methodLinkNest RX5 32 yX8_isBelow "SailAsAnother") (by decide +kernel)), va_Nw.of rfl (hts (.methodLinkNest RX5 40 yX8_isShip "SailAsAnother") (by decide +kernel))⟩
  have hNI : xNI s := ⟨va_Nw.of rfl (hts (.methodLinkNest RX8 18 yX1_init "SailAsAnother") (by decide +kernel)), va_Nw.of rfl (hts (.methodLinkNest RX8 52 yX3_init "SailAsAnother") (by decide +kernel)), va_Nw.of rfl (hts (.methodLinkNest RX8 74 yX5_init "SailAsAnother") (by decide +kernel))⟩
  have hKI : xKI D K s := ⟨⟨hKt, hN⟩, hNI, va_AO.of (hts (.arrayOver (.object "SailAsAnother$Sheet")) (by decide +kernel)), va_AOA.of (hts (.arrayOver (.array .int)) (by decide +kernel))⟩
  have hK := hKI.1
  have hS : va_S (fun q : Nat => s.heap.size ≤ q) s.heap s.heap [] := va_S.rf
  have hP : va_P D vwCl [] s.heap := fun k q h => by simp at h
  have hD : va_D (fun q : Nat => s.heap.size ≤ q) [] := ⟨fun i j p q h => by simp at h, fun k q h => by simp at h⟩
  have hl := lv_entry ([.ref b]) (n := 4) (Nat.le_of_ble_eq_true rfl)
  rw [lg_entry_eq]
  generalize (lg_sl ([.ref b]) ++ List.replicate (4 - (lg_sl ([.ref b])).length) Slot.unset).toArray = ls at hl ⊢
  have hl : lv_has ls 4 [(0, .ref b)] := hl
  refine va_new (ci := 8) (fs := [.null, .null, .null, .null, .null, .null, .null, .null, .int 0]) (C := RX8) (T := TX8) (N := 9) hx hb hts in_wsX80 tyX8 tyX8_ok hown (hts (.classLink RL 7 RX8) (by decide +kernel)) (hts (.instantiable RX8 9) (by decide +kernel)) (hts (.initialized RX8) (by decide +kernel)) hK.1 hP hD hS hA rfl (fun j hj => by rcases (show j = 0 ∨ j = 1 ∨ j = 2 ∨ j = 3 ∨ j = 4 ∨ j = 5 ∨ j = 6 ∨ j = 7 ∨ j = 8 by omega) with rfl | rfl | rfl | rfl | rfl | rfl | rfl | rfl | rfl <;> rfl) (Nat.le_of_ble_eq_true rfl) (Nat.le_of_ble_eq_true rfl) dL_law_0 (fun n1 H hP hD hS => ?_)
  refine lv_dup hx hb dL_law_3 rfl ?_
  refine x_cI (As := []) (rest := [.ref n1]) (w0 := []) S hKI hP hD hS hA (c_X8_init l n1 H.size) (cwI 0 S.2.2.2.2 gL_law_X8_init rfl rfl rfl (hts (.initialized RX8) (by decide +kernel)) (hts (.methodLink RL 9 yX8_init) (by decide +kernel)) (hts (.instanceMethod yX8_init) (by decide +kernel)) rfl (by decide +kernel) ⟨(Nat.le_of_ble_eq_true rfl), (Nat.le_of_ble_eq_true rfl)⟩) rfl hl.1 rfl (Nat.le_of_ble_eq_true rfl) dL_law_4 ⟨(Nat.le_of_ble_eq_true rfl), (Nat.le_of_ble_eq_true rfl)⟩ (fun α H locs hα0 hP hD hS => ?_)
  have hα0 : α 0 = n1 := hα0
  have hP : va_P D vwCl (xw 42 α (xC α K) xC0) H := hP
  have hD : va_D (fun q : Nat => s.heap.size ≤ q) (xw 42 α (xC α K) xC0) := hD
  refine lv_astore_n (lv' := [(1, .ref n1), (0, .ref b)]) hx hb dL_law_7 rfl hl (by decide) rfl (fun ls hl => ?_)
  refine va_new (ci := 9) (fs := [.null, .null, .null, .null, .null, .null, .int 0, .int 0, .null, .null, .int 0, .null, .null, .null, .int 0, .null, .null, .null, .null, .null, .null, .null, .null, .int 0]) (C := RX9) (T := TX9) (N := 24) hx hb hts in_wsX90 tyX9 tyX9_ok hown (hts (.classLink RL 10 RX9) (by decide +kernel)) (hts (.instantiable RX9 24) (by decide +kernel)) (hts (.initialized RX9) (by decide +kernel)) hK.1 hP hD hS hA rfl (fun j hj => by rcases (show j = 0 ∨ j = 1 ∨ j = 2 ∨ j = 3 ∨ j = 4 ∨ j = 5 ∨ j = 6 ∨ j = 7 ∨ j = 8 ∨ j = 9 ∨ j = 10 ∨ j = 11 ∨ j = 12 ∨ j = 13 ∨ j = 14 ∨ j = 15 ∨ j = 16 ∨ j = 17 ∨ j = 18 ∨ j = 19 ∨ j = 20 ∨ j = 21 ∨ j = 22 ∨ j = 23 by omega) with rfl | rfl | rfl | rfl | rfl | rfl | rfl | rfl | rfl | rfl | rfl | rfl | rfl | rfl | rfl | rfl | rfl | rfl | rfl | rfl | rfl | rfl | rfl | rfl <;> rfl) (Nat.le_of_ble_eq_true rfl) (Nat.le_of_ble_eq_true rfl) dL_law_8 (fun n2 H hP hD hS => ?_)
  refine lv_dup hx hb dL_law_11 rfl ?_
  refine x_cI (As := []) (rest := [.ref n2]) (w0 := xw 42 α (xC α K) xC0) S hKI hP hD hS hA (c_X9_init l n2 H.size) (cwI 0 S.2.2.2.2 gL_law_X9_init rfl rfl rfl (hts (.initialized RX9) (by decide +kernel)) (hts (.methodLink RL 12 yX9_init) (by decide +kernel)) (hts (.instanceMethod yX9_init) (by decide +kernel)) rfl (by decide +kernel) ⟨(Nat.le_of_ble_eq_true rfl), (Nat.le_of_ble_eq_true rfl)⟩) rfl hl.1 rfl (Nat.le_of_ble_eq_true rfl) dL_law_12 ⟨(Nat.le_of_ble_eq_true rfl), (Nat.le_of_ble_eq_true rfl)⟩ (fun β H locs hβ0 hP hD hS => ?_)
  have hβ0 : β 0 = n2 := hβ0
  refine lv_astore_n (lv' := [(2, .ref n2), (1, .ref n1), (0, .ref b)]) hx hb dL_law_15 rfl hl (by decide) rfl (fun ls hl => ?_)
  refine lv_iconst (v := nI 0) hx hb dL_law_16 (by decide) ?_
  refine lv_istore_n (lv' := [(3, .int (nI 0)), (2, .ref n2), (1, .ref n1), (0, .ref b)]) hx hb dL_law_17 rfl hl (by decide) rfl (fun ls hl => ?_)
  rw [← hα0, ← hβ0] at hl
  obtain ⟨hI1, hI2, hα, hβ, hdis⟩ := xw_two hD
  refine W.widen (k := 62) (n := 1210) (Nat.le_of_ble_eq_true rfl) (Nat.le_of_ble_eq_true rfl) ?_
  exact law_loop ⟨S, hr, hX, hbl, hL, hK, hI1, hI2, hα, hβ, hdis⟩ hlocks ⟨va_P_l hP, va_P_r hP, hS, xRel_0⟩ hl

/-! constructors: worlds as lists, cells that are made -/
def xNI (U : State) : Prop := va_Nw (.methodLinkNest RX8 18 yX1_init "SailAsAnother") U ∧ va_Nw (.methodLinkNest RX8 52 yX3_init "SailAsAnother") U ∧ va_Nw (.methodLinkNest RX8 74 yX5_init "SailAsAnother") U
def xKI (D : va_G) (K : Nat → ClassId) (U : State) : Prop := xK D K U ∧ xNI U ∧ va_AO "SailAsAnother$Sheet" U ∧ va_AOA .int U
theorem xKI_warm {D : va_G} {K : Nat → ClassId} {s U : State} (hW : s.WarmedH U.vm) (h : xKI D K s) : xKI D K U :=
  ⟨xK_warm hW h.1, ⟨va_Nw.warmM hW h.2.1.1, va_Nw.warmM hW h.2.1.2.1, va_Nw.warmM hW h.2.1.2.2⟩, va_AO.moved hW.alike h.2.2.1, va_AOA.moved hW.alike h.2.2.2⟩
theorem xKI_calling {D : va_G} {K : Nat → ClassId} {U : State} {g : JFrame} {mk : MethodId} {a : Array Value} (h : xKI D K U) : xKI D K (U.calling g mk a) :=
  ⟨xK_calling h.1, ⟨va_Nw.same rfl rfl h.2.1.1, va_Nw.same rfl rfl h.2.1.2.1, va_Nw.same rfl rfl h.2.1.2.2⟩, va_AO.moved (u := U) (U := U.calling g mk a) (Vm.Alike.refl U.vm) h.2.2.1, va_AOA.moved (u := U) (U := U.calling g mk a) (Vm.Alike.refl U.vm) h.2.2.2⟩
def xcA (h0 sz : Nat) : Nat → Prop := fun q => q = h0 ∨ sz ≤ q
def xcP (D : va_G) (K : Nat → ClassId) (h0 sz : Nat) (e0 : va_E) (U : State) : Prop := U.heap.size = sz ∧ xKI D K U ∧ va_P D vwCl [(h0, e0)] U.heap
def xcQ {S9 : Type} (D : va_G) (h0 sz : Nat) (post : S9 → Prop) (wf : S9 → va_W) : Array Value → State → Outcome → State → Prop := va_Qv post (fun u t => va_P D vwCl (wf u) t.heap ∧ va_D (xcA h0 sz) (wf u)) (xcA h0 sz)
def xrc (d cc ss : Nat) : Room := { frames := d, cells := cc, slots := ss, locals := 30 * d }
theorem xcP_blind {av : List Value} {D : va_G} {K : Nat → ClassId} {h0 sz : Nat} {e0 : va_E} : FrameBlind (va_Pc av (xcP D K h0 sz e0)) := fun _ _ _ _ h => ⟨h.1, h.2.1, xKI_calling h.2.2.1, h.2.2.2⟩
theorem xcP_at {av : List Value} {D : va_G} {K : Nat → ClassId} {h0 : Nat} {e0 : va_E} {s : State} {H : Heap} (hK : xKI D K s) (hP : va_P D vwCl [(h0, e0)] H) : ∀ U : State, U.heap = H → s.WarmedH U.vm → va_Pc av (xcP D K h0 H.size e0) av.toArray U := fun U hU hW => ⟨rfl, by rw [hU], xKI_warm hW hK, by rw [hU]; exact hP⟩
theorem xcD {h0 sz : Nat} {e0 : va_E} : va_D (xcA h0 sz) [(h0, e0)] := by
  refine ⟨fun i j p q hi hj _ => ?_, fun k q hk => ?_⟩
  · have h1 := (List.getElem?_eq_some_iff.mp hi).1
    have h2 := (List.getElem?_eq_some_iff.mp hj).1
    simp at h1 h2
    omega
  · have h1 := (List.getElem?_eq_some_iff.mp hk).1
    simp at h1
    subst h1
    cases hk
    exact Or.inl rfl
theorem va_RA_name {U : State} {cA : ClassId} {ty : FieldType} (h : va_RA U cA ty) : U.vm.findClass ("[" ++ ty.toString) = some cA := by
  unfold va_RA at h
  split at h
  · obtain ⟨_, _, _, _, _, h⟩ := h
    exact h
  · exact h
theorem va_same {D : va_G} {t1 t2 : List (ClassId × FieldType)} {s : State} (h1 : va_K D vwCl t1 s) (h2 : va_K D vwCl t2 s) {i j : Nat} {a b : ClassId} {ty : FieldType} (e1 : t1[i]? = some (a, ty)) (e2 : t2[j]? = some (b, ty)) : a = b :=
  Option.some.inj ((va_RA_name (h1.2 i _ e1).2).symm.trans (va_RA_name (h2.2 j _ e2).2))
theorem arrV_congr {cI : ClassId} {N : Nat} {f g : Nat → Value} (h : ∀ j, j < N → f j = g j) : arrV cI N f = arrV cI N g := by
  unfold arrV
  congr 2
  funext j
  exact h j.val j.isLt
/-- of an array of references the places below its length count alone -/
theorem va_P_refs {D : va_G} {ws : va_W} {H : Heap} {k a N : Nat} {cA : ClassId} {f g : Nat → Option Nat} (hP : va_P D vwCl ws H) (hk : ws[k]? = some (a, .inl (cA, N, .inr (.inr (.inr (.inr f)))))) (h : ∀ j, j < N → f j = g j) : va_P D vwCl (ws.set k (a, .inl (cA, N, .inr (.inr (.inr (.inr g)))))) H := by
  intro i q hq
  by_cases e : i = k
  · subst e
    have hl := (List.getElem?_eq_some_iff.mp hk).1
    rw [List.getElem?_set_self hl] at hq
    cases hq
    have h9 : H[a]? = some (vp_cell cA (N, .inr (.inr (.inr (.inr f))))) := hP i _ hk
    show H[a]? = some (vp_cell cA (N, .inr (.inr (.inr (.inr g)))))
    rw [h9, vp_cell_q, vp_cell_q, arrV_congr (fun j hj => by rw [h j hj])]
  · rw [List.getElem?_set_ne (Ne.symm e)] at hq
    exact hP i q hq
theorem va_D_set {A : Nat → Prop} {ws : va_W} {k a : Nat} {e0 e : va_E} (hD : va_D A ws) (hk : ws[k]? = some (a, e0)) : va_D A (ws.set k (a, e)) := hD.set hk
theorem xjoin {D : va_G} {A : Nat → Prop} {w0 w1 : va_W} {hc : Nat} {e0 : va_E} {H H1 : Heap} (hP : va_P D vwCl (w0 ++ [(hc, e0)]) H) (hD : va_D A (w0 ++ [(hc, e0)])) (hF : ∀ q, xcA hc H.size q → A q) (hk : ∀ q : Nat, q < H.size → ¬ xcA hc H.size q → H1[q]? = H[q]?) (hP1 : va_P D vwCl w1 H1) (hD1 : va_D (xcA hc H.size) w1) : va_P D vwCl (w0 ++ w1) H1 ∧ va_D A (w0 ++ w1) := by
  have hin : ∀ (k : Nat) (q : Nat × va_E), w0[k]? = some q → k < w0.length ∧ (w0 ++ [(hc, e0)])[k]? = some q := fun k q hq => by
    have hl := (List.getElem?_eq_some_iff.mp hq).1
    exact ⟨hl, by rw [List.getElem?_append_left hl]; exact hq⟩
  have hlast : (w0 ++ [(hc, e0)])[w0.length]? = some (hc, e0) := by simp
  have hP0 : va_P D vwCl w0 H := fun k q hq => hP k q (hin k q hq).2
  have hlt : ∀ (k : Nat) (q : Nat × va_E), w0[k]? = some q → q.1 < H.size := fun k q hq => (hP0 k q hq).lt
  have hne : ∀ (k : Nat) (q : Nat × va_E), w0[k]? = some q → q.1 ≠ hc := fun k q hq e => by
    have h1 := hD.1 k w0.length q (hc, e0) (hin k q hq).2 hlast e
    have h2 := (hin k q hq).1
    omega
  have hout : ∀ (k : Nat) (q : Nat × va_E), w0[k]? = some q → ¬ xcA hc H.size q.1 := fun k q hq w => by
    rcases w with w | w
    · exact hne k q hq w
    · have := hlt k q hq
      omega
  have hD0 : va_D A w0 := ⟨fun i j x y hi hj e => hD.1 i j x y (hin i x hi).2 (hin j y hj).2 e, fun k q hq => hD.2 k q (hin k q hq).2⟩
  refine ⟨(hP0.kept (fun k q hq => hk q.1 (hlt k q hq) (hout k q hq))).app hP1, va_D.app hD0 (hD1.weaken (fun _ q _ h => hF q.1 h)) (fun i j x y hi hj e => ?_)⟩
  have h9 := hD1.2 j y hj
  rw [← e] at h9
  exact hout i x hi h9
section XCON
variable {p : Program} {l : Launch} {e : Env} {R : Room} {s : State} {m : MethodId} {args : Array Value} {below : List Frame} {meth : Method} {c : Code} {H : Heap} {locs : List Loc} {cells slots : Nat} {Q : State → Prop}
variable {cc : ByteArray} {pc nL : Nat} {ls : Array Slot} {rest : List Value} {D : va_G} {K : Nat → ClassId} {A : Nat → Prop} {ws : va_W} {Ts : List Cond} {own : String} {H0 : Heap}
theorem x_newaI (S : CallFix p m c cc nL s args Ts own) (harr : Cond.arrayClass .int ∈ Ts) (hK : xK D K s) (hP : va_P D vwCl ws H) (hD : va_D A ws) (hS : va_S A H0 H locs) (hA : ∀ q, H0.size ≤ q → A q) {n : Int32} (N : Nat) (hn : ¬ n < 0) (hN : n.toNatClampNeg = N) (hb9 : N ≤ 1000) (hcells : cells + 1 ≤ R.cells) (hslots : slots + N ≤ R.slots) (hdg : decode cc pc = .ok (.newarray .int, 2))
    (kk : ∀ (q : Nat) (H1 : Heap), va_P D vwCl (ws ++ [(q, .inl (K 0, N, .inl (fun _ => 0)))]) H1 → va_D A (ws ++ [(q, .inl (K 0, N, .inl (fun _ => 0)))]) → va_S A H0 H1 locs → W p l e R s m args below meth c H1 locs (cells + 1) (slots + N) Q (F0 m (pc + 2) ls (.ref q :: rest))) : W p l e R s m args below meth c H locs cells slots Q (F0 m pc ls (.int n :: rest)) := by
  refine va_newa (atype := .int) (ty := .int) (a0 := (N, .inl (fun _ => 0))) S.1 S.2.1 (S.2.2.2.2 _ harr) rfl hK.1 hP hD hS hA (fun cA => rfl) hn hN (by show N * 4 ≤ _; omega) hcells hslots hdg (fun q cA H1 hK1 hP1 hD1 hS1 => ?_)
  have e : cA = K 0 := va_same hK1 hK.1 (i := 4) (j := 0) rfl rfl
  subst e
  exact kk q H1 hP1 hD1 hS1
theorem x_newaZ (S : CallFix p m c cc nL s args Ts own) (harr : Cond.arrayClass .boolean ∈ Ts) (hK : xK D K s) (hP : va_P D vwCl ws H) (hD : va_D A ws) (hS : va_S A H0 H locs) (hA : ∀ q, H0.size ≤ q → A q) {n : Int32} (N : Nat) (hn : ¬ n < 0) (hN : n.toNatClampNeg = N) (hb9 : N ≤ 1000) (hcells : cells + 1 ≤ R.cells) (hslots : slots + N ≤ R.slots) (hdg : decode cc pc = .ok (.newarray .boolean, 2))
    (kk : ∀ (q : Nat) (H1 : Heap), va_P D vwCl (ws ++ [(q, .inl (K 3, N, .inl (fun _ => 0)))]) H1 → va_D A (ws ++ [(q, .inl (K 3, N, .inl (fun _ => 0)))]) → va_S A H0 H1 locs → W p l e R s m args below meth c H1 locs (cells + 1) (slots + N) Q (F0 m (pc + 2) ls (.ref q :: rest))) : W p l e R s m args below meth c H locs cells slots Q (F0 m pc ls (.int n :: rest)) := by
  refine va_newa (atype := .boolean) (ty := .boolean) (a0 := (N, .inl (fun _ => 0))) S.1 S.2.1 (S.2.2.2.2 _ harr) rfl hK.1 hP hD hS hA (fun cA => rfl) hn hN (by show N * 1 ≤ _; omega) hcells hslots hdg (fun q cA H1 hK1 hP1 hD1 hS1 => ?_)
  have e : cA = K 3 := va_same hK1 hK.1 (i := 4) (j := 3) rfl rfl
  subst e
  exact kk q H1 hP1 hD1 hS1
theorem x_newq (S : CallFix p m c cc nL s args Ts own) {index : Nat} (hclink : Cond.classLink own index "SailAsAnother$Sheet" ∈ Ts) (hK : xKI D K s) (hP : va_P D vwCl ws H) (hD : va_D A ws) (hS : va_S A H0 H locs) (hA : ∀ q, H0.size ≤ q → A q) {n : Int32} (N : Nat) (hn : ¬ n < 0) (hN : n.toNatClampNeg = N) (hb9 : N ≤ 1000) (hcells : cells + 1 ≤ R.cells) (hslots : slots + N ≤ R.slots) (hdg : decode cc pc = .ok (.anewarray index, 3))
    (kk : ∀ (q : Nat) (H1 : Heap), va_P D vwCl (ws ++ [(q, .inl (K 2, N, .inr (.inr (.inr (.inr (fun _ => none))))))]) H1 → va_D A (ws ++ [(q, .inl (K 2, N, .inr (.inr (.inr (.inr (fun _ => none))))))]) → va_S A H0 H1 locs → W p l e R s m args below meth c H1 locs (cells + 1) (slots + N) Q (F0 m (pc + 3) ls (.ref q :: rest))) : W p l e R s m args below meth c H locs cells slots Q (F0 m pc ls (.int n :: rest)) := by
  refine va_newq (C := "SailAsAnother$Sheet") S.1 S.2.1 S.2.2.2.1 (S.2.2.2.2 _ hclink) hK.2.2.1 hK.1.1 hP hD hS hA hn hN (by omega) hcells hslots hdg (fun q cA H1 hK1 hP1 hD1 hS1 => ?_)
  have e : cA = K 2 := va_same hK1 hK.1.1 (i := 4) (j := 2) rfl rfl
  subst e
  exact kk q H1 hP1 hD1 hS1
theorem x_mna (S : CallFix p m c cc nL s args Ts own) {index : Nat} (hclink : Cond.classLink own index "[[I" ∈ Ts) (harr : Cond.arrayClass .int ∈ Ts) (hK : xKI D K s) (hP : va_P D vwCl ws H) (hD : va_D A ws) (hS : va_S A H0 H locs) (hA : ∀ q, H0.size ≤ q → A q) {n k : Int32} (N M : Nat) (hn : ¬ n < 0) (hk : ¬ k < 0) (hN : n.toNatClampNeg = N) (hM : k.toNatClampNeg = M) (hN9 : N ≤ 1000) (hM9 : M ≤ 1000) (hcells : cells + (1 + N) ≤ R.cells) (hslots : slots + (N + N * M) ≤ R.slots) (hdg : decode cc pc = .ok (.multianewarray index 2, 4))
    (kk : ∀ (q : Nat) (r : Nat → Nat) (H1 : Heap), va_P D vwCl ((ws ++ [(q, .inl (K 1, N, .inr (.inr (.inr (.inr (fun i => some (r i)))))))]) ++ (List.range N).map (fun i => (r i, .inl (K 0, M, .inl (fun _ => 0))))) H1 → va_D A ((ws ++ [(q, .inl (K 1, N, .inr (.inr (.inr (.inr (fun i => some (r i)))))))]) ++ (List.range N).map (fun i => (r i, .inl (K 0, M, .inl (fun _ => 0))))) → va_S A H0 H1 locs → W p l e R s m args below meth c H1 locs (cells + 1 + N) (slots + N + N * M) Q (F0 m (pc + 4) ls (.ref q :: rest))) : W p l e R s m args below meth c H locs cells slots Q (F0 m pc ls (.int k :: .int n :: rest)) := by
  have hcy : s.vm.findClass (FieldType.array .int).toString = some (K 0) := va_RA_name (hK.1.1.2 0 (K 0, .int) rfl).2
  have e0 : ws ++ va_pl [] (fun _ => Sum.inl (K 0, M, Sum.inl (fun _ => 0))) = ws := by simp [va_pl]
  refine va_mna (X := ws) (L := []) (f := fun _ => .inl (K 0, M, .inl (fun _ => 0))) (ty := .int) (cy := K 0) (z := (M, .inl (fun _ => 0))) S.1 S.2.1 S.2.2.2.1 (S.2.2.2.2 _ hclink) hK.2.2.2 (S.2.2.2.2 _ harr) hcy hK.1.1 (by rw [e0]; exact hP) (by rw [e0]; exact hD) hS hA hn hk hN hM (by omega) (by show M * 4 ≤ _; omega) (by omega) rfl rfl hcells hslots (fun cA => ?_) hdg (fun q r cA H1 _ _ hK1 hP1 hD1 hS1 => ?_)
  · show ({ cls := cA, slots := Array.replicate M (.int 0), vm := .none } : Cell) = _
    rw [arrV_new]
    rfl
  · have e : cA = K 1 := va_same hK1 hK.1.1 (i := 4) (j := 1) rfl rfl
    subst e
    have er : va_pl ([] ++ (List.range N).map r) (vr_up (fun _ => Sum.inl (K 0, M, Sum.inl (fun _ => 0))) ((List.range N).map r) (Sum.inl (K 0, (M, Sum.inl (fun _ => 0))))) = (List.range N).map (fun i => (r i, .inl (K 0, M, .inl (fun _ => 0)))) := by
      unfold va_pl
      rw [List.nil_append, List.map_map]
      refine List.map_congr_left (fun i hi => ?_)
      show (r i, vr_up _ _ _ (r i)) = _
      rw [vr_up_in (List.mem_map.mpr ⟨i, hi, rfl⟩)]
    rw [er] at hP1 hD1
    have hpl : ((ws ++ [(q, .inl (K 1, N, .inr (.inr (.inr (.inr (fun i => if i < N then some (r i) else none))))))]) ++ (List.range N).map (fun i => ((r i, .inl (K 0, M, .inl (fun _ => 0))) : Nat × va_E)))[ws.length]? = some (q, .inl (K 1, N, .inr (.inr (.inr (.inr (fun i => if i < N then some (r i) else none)))))) := by
      rw [List.getElem?_append_left (by simp)]
      simp
    have es : ∀ (x y : va_E) (R9 : va_W), ((ws ++ [(q, y)]) ++ R9).set ws.length (q, x) = (ws ++ [(q, x)]) ++ R9 := fun x y R9 => by
      rw [List.set_append_left _ _ (by simp)]
      congr 1
      simp
    have hP2 := va_P_refs (g := fun i => some (r i)) hP1 hpl (fun j hj => if_pos hj)
    have hD2 := va_D_set (e := .inl (K 1, N, .inr (.inr (.inr (.inr (fun i => some (r i))))))) hD1 hpl
    rw [es] at hP2 hD2
    exact kk q r H1 hP2 hD2 hS1
/-- a store into a row of ints, an element of a row of rows, an object into a row of objects -/
theorem x_iastL (S : CallFix p m c cc nL s args Ts own) (hK : xK D K s) (hP : va_P D vwCl ws H) (hD : va_D A ws) (hS : va_S A H0 H locs) (q0 : Nat) {a N : Nat} {f : Nat → Int32} (ha : ws[q0]? = some (a, .inl (K 0, N, .inl f))) {j : Nat} {x : Int32} (hj : j < N) (hN : N < 2 ^ 31) (hdg : decode cc pc = .ok (.iastore, 1))
    (kk : ∀ (H1 : Heap) (locs1 : List Loc), va_P D vwCl (ws.set q0 (a, .inl (K 0, N, .inl (upd f j x)))) H1 → va_D A (ws.set q0 (a, .inl (K 0, N, .inl (upd f j x)))) → va_S A H0 H1 locs1 → W p l e R s m args below meth c H1 locs1 cells slots Q (F0 m (pc + 1) ls rest)) : W p l e R s m args below meth c H locs cells slots Q (F0 m pc ls (.int x :: .int (nI j) :: .ref a :: rest)) :=
  va_iast S.1 S.2.1 hK.1 hP hD hS q0 0 ha rfl (vp_in_nI hj hN) hdg (fun H1 locs1 hP1 hD1 hS1 => kk H1 locs1 (by rw [nI_clamp (Nat.lt_trans hj hN)] at hP1; exact hP1) (by rw [nI_clamp (Nat.lt_trans hj hN)] at hD1; exact hD1) hS1)
theorem x_aaldL (S : CallFix p m c cc nL s args Ts own) (hK : xK D K s) (hP : va_P D vwCl ws H) (q0 : Nat) {a N : Nat} {f : Nat → Option Nat} (ha : ws[q0]? = some (a, .inl (K 1, N, .inr (.inr (.inr (.inr f)))))) {j : Nat} (hj : j < N) (hN : N < 2 ^ 31) {b : Nat} (hf : f j = some b) (hdg : decode cc pc = .ok (.aaload, 1))
    (kk : W p l e R s m args below meth c H locs cells slots Q (F0 m (pc + 1) ls (.ref b :: rest))) : W p l e R s m args below meth c H locs cells slots Q (F0 m pc ls (.int (nI j) :: .ref a :: rest)) := by
  have hin : vp_in (nI j) N := vp_in_nI hj hN
  exact W.aald (v := .ref b) (ty := .array .int) S.1 S.2.1 (hP q0 _ ha) ((hK.1.2 1 _ rfl).1 N (fun j => va_rf (f j))) rfl (fun q => by cases q) (by show ¬ (nI j < 0 ∨ (arrV _ _ _).slots.size ≤ _); rw [arrV_size]; exact hin) (by show (arrV _ _ _).slots[_]? = _; rw [nI_clamp (Nat.lt_trans hj hN), arrV_read _ _ hj, hf]; rfl) rfl rfl hdg kk
theorem x_aastL (S : CallFix p m c cc nL s args Ts own) (hK : xK D K s) (hP : va_P D vwCl ws H) (hD : va_D A ws) (hS : va_S A H0 H locs) (q0 qk : Nat) {a N v : Nat} {vs : List Value} {f : Nat → Option Nat} (ha : ws[q0]? = some (a, .inl (K 2, N, .inr (.inr (.inr (.inr f)))))) (hv : ws[qk]? = some (v, .inr (5, vs))) {j : Nat} (hj : j < N) (hN : N < 2 ^ 31) (hdg : decode cc pc = .ok (.aastore, 1))
    (kk : ∀ (H1 : Heap) (locs1 : List Loc), va_P D vwCl (ws.set q0 (a, .inl (K 2, N, .inr (.inr (.inr (.inr (va_up f j (some v)))))))) H1 → va_D A (ws.set q0 (a, .inl (K 2, N, .inr (.inr (.inr (.inr (va_up f j (some v)))))))) → va_S A H0 H1 locs1 → W p l e R s m args below meth c H1 locs1 cells slots Q (F0 m (pc + 1) ls rest)) : W p l e R s m args below meth c H locs cells slots Q (F0 m pc ls (.ref v :: .int (nI j) :: .ref a :: rest)) :=
  va_astq (r := (RX5, TX5, 4)) S.1 S.2.1 hK.1 hP hD hS q0 2 qk 5 ha rfl hv rfl (vp_in_nI hj hN) hdg (fun H1 locs1 hP1 hD1 hS1 => kk H1 locs1 (by rw [nI_clamp (Nat.lt_trans hj hN)] at hP1; exact hP1) (by rw [nI_clamp (Nat.lt_trans hj hN)] at hD1; exact hD1) hS1)
variable {y : MethodName} {bytes : ByteArray} {maxL index n0 mc ms : Nat} {rm : Room} {wc wc' : List Cond} {As st0 : List Value} {w0 : va_W} {hc : Nat} {e0 : va_E}
theorem x_hF {D : va_G} (hD : va_D A (w0 ++ [(hc, e0)])) (hS : va_S A H0 H locs) (hA : ∀ q, H0.size ≤ q → A q) : ∀ q, xcA hc H.size q → A q := fun q h => by
  rcases h with h | h
  · rw [h]
    exact hD.2 w0.length (hc, e0) (by simp)
  · exact hA q (Nat.le_trans hS.1 h)
theorem x_cI {S9 : Type} (S : CallFix p m c cc nL s args Ts own) (hK : xKI D K s) (hP : va_P D vwCl (w0 ++ [(hc, e0)]) H) (hD : va_D A (w0 ++ [(hc, e0)])) (hS : va_S A H0 H locs) (hA : ∀ q, H0.size ≤ q → A q) {post : S9 → Prop} {wf : S9 → va_W} (hM : Met l y wc rm (va_Pc (.ref hc :: As) (xcP D K hc H.size e0)) (xcQ D hc H.size post wf) mc ms (xcA hc H.size)) (cw : CallB R s args own index y bytes maxL none wc rm mc ms n0 ∧ y.name = "<init>" ∧ (Cond.instanceMethod y).before args s = true) (hn : As.length = n0) (hsize : ls.size = nL) (hst : st0 = As.reverse ++ .ref hc :: rest) (hW : (rest.map fun v => v.category).sum ≤ 8) (hdg : decode cc pc = .ok (.invokespecial index, 3)) (hf : cells + mc ≤ R.cells ∧ slots + ms ≤ R.slots)
    (kk : ∀ (u : S9) (H1 : Heap) (locs1 : List Loc), post u → va_P D vwCl (w0 ++ wf u) H1 → va_D A (w0 ++ wf u) → va_S A H0 H1 locs1 → W p l e R s m args below meth c H1 locs1 (cells + mc) (slots + ms) Q (F0 m (pc + 3) ls rest)) : W p l e R s m args below meth c H locs cells slots Q (F0 m pc ls st0) := by
  have hF := x_hF (D := D) hD hS hA
  have hPc : va_P D vwCl [(hc, e0)] H := fun k q hq => by
    have h1 := (List.getElem?_eq_some_iff.mp hq).1
    simp at h1
    subst h1
    cases hq
    exact hP w0.length (hc, e0) (by simp)
  refine va_callv (va_runI S hM cw ⟨xcP_blind, xcP_at hK hPc⟩ rfl hn hsize hst (lv_room hW) hdg hf) hS (fun q _ h => hF q h) hF (fun u t H1 locs1 ht _ hp hB _ hk hS1 => ?_)
  obtain ⟨hP1, hD1⟩ := hB
  rw [ht] at hP1
  obtain ⟨hP2, hD2⟩ := xjoin hP hD hF hk hP1 hD1
  exact kk u H1 locs1 hp hP2 hD2 hS1
theorem x_cIN {S9 : Type} {host : String} (S : CallFix p m c cc nL s args Ts own) (hK : xKI D K s) (hP : va_P D vwCl (w0 ++ [(hc, e0)]) H) (hD : va_D A (w0 ++ [(hc, e0)])) (hS : va_S A H0 H locs) (hA : ∀ q, H0.size ≤ q → A q) {post : S9 → Prop} {wf : S9 → va_W} (hM : Met l y wc rm (va_Pc (.ref hc :: As) (xcP D K hc H.size e0)) (xcQ D hc H.size post wf) mc ms (xcA hc H.size)) (cw : va_CN R s args own index y host bytes maxL none wc rm mc ms n0 ∧ y.name = "<init>" ∧ (Cond.instanceMethod y).before args s = true) (hn : As.length = n0) (hsize : ls.size = nL) (hst : st0 = As.reverse ++ .ref hc :: rest) (hW : (rest.map fun v => v.category).sum ≤ 8) (hdg : decode cc pc = .ok (.invokespecial index, 3)) (hf : cells + mc ≤ R.cells ∧ slots + ms ≤ R.slots)
    (kk : ∀ (u : S9) (H1 : Heap) (locs1 : List Loc), post u → va_P D vwCl (w0 ++ wf u) H1 → va_D A (w0 ++ wf u) → va_S A H0 H1 locs1 → W p l e R s m args below meth c H1 locs1 (cells + mc) (slots + ms) Q (F0 m (pc + 3) ls rest)) : W p l e R s m args below meth c H locs cells slots Q (F0 m pc ls st0) := by
  have hF := x_hF (D := D) hD hS hA
  have hPc : va_P D vwCl [(hc, e0)] H := fun k q hq => by
    have h1 := (List.getElem?_eq_some_iff.mp hq).1
    simp at h1
    subst h1
    cases hq
    exact hP w0.length (hc, e0) (by simp)
  refine va_callv (va_runIN S hM cw ⟨xcP_blind, xcP_at hK hPc⟩ rfl hn hsize hst (lv_room hW) hdg hf) hS (fun q _ h => hF q h) hF (fun u t H1 locs1 ht _ hp hB _ hk hS1 => ?_)
  obtain ⟨hP1, hD1⟩ := hB
  rw [ht] at hP1
  obtain ⟨hP2, hD2⟩ := xjoin hP hD hF hk hP1 hD1
  exact kk u H1 locs1 hp hP2 hD2 hS1
end XCON
/-! the states as they are made -/
def xM0 (i : Nat) (k : Nat) : Nat → Int32 := match k with
  | 1 => fa_fill (fun j => nI (j + 1)) (fun _ => 0) i
  | 2 => fa_fill (fun _ => nI 5) (fun _ => 0) i
  | 3 => fa_fill (fun _ => nI 3) (fun _ => 0) i
  | 4 => fa_fill (fun _ => nI 5) (fun _ => 0) i
  | 5 => fa_fill (fun j => nI (j + 1)) (fun _ => 0) i
  | _ => fun _ => 0
def xC0 (k : Nat) : Nat → Int32 := match k with
  | 4 => fa_fill (fun j => nI (j + 1)) (fun _ => 0) 6
  | 5 => fa_fill (fun _ => nI 5) (fun _ => 0) 6
  | 6 => fa_fill (fun _ => nI 3) (fun _ => 0) 6
  | 7 => fa_fill (fun _ => nI 5) (fun _ => 0) 6
  | 8 => fa_fill (fun j => nI (j + 1)) (fun _ => 0) 6
  | 9 => fun j => if j = 3 then -1 else 0
  | 34 => fun j => if j = 1 then 1 else 0
  | 36 => fun j => if j = 1 then 1 else 0
  | 38 => fun j => if j = 1 then 1 else 0
  | 40 => fun j => if j = 1 then 1 else 0
  | _ => fun _ => 0

/-! sheets, and what the walk of them wants -/
section XSW
variable {p : Program} {l : Launch} {e : Env} {R : Room} {s : State} {m : MethodId} {args : Array Value} {below : List Frame} {meth : Method} {c : Code} {H : Heap} {locs : List Loc} {cells slots : Nat} {Q : State → Prop}
variable {cc : ByteArray} {pc nL : Nat} {ls : Array Slot} {rest : List Value} {D : va_G} {K : Nat → ClassId} {n : Nat} {α : Nat → Nat} {C : Nat → (Nat → Int32) → va_E} {σ : Nat → Nat → Int32} {Ts : List Cond} {own : String} {H0 : Heap}
variable {y : MethodName} {bytes : ByteArray} {maxL d index n0 ci : Nat} {ret : Option FieldType} {ws ws' : List Cond} {As st0 : List Value}
theorem x_alen (S : CallFix p m c cc nL s args Ts own) (hK : xK D K s) (hP : va_P D vwCl (xw n α C σ) H) (q0 : Nat) (hq : q0 < n) {N : Nat} {f : Nat → Int32} (he : C q0 (σ q0) = .inl (K 0, N, .inl f)) (hdg : decode cc pc = .ok (.arraylength, 1))
    (kk : W p l e R s m args below meth c H locs cells slots Q (F0 m (pc + 1) ls (.int (nI N) :: rest))) : W p l e R s m args below meth c H locs cells slots Q (F0 m pc ls (.ref (α q0) :: rest)) :=
  va_alen S.1 S.2.1 hK.1 hP q0 0 (x := (N, .inl f)) (by rw [xw_get hq, he]) rfl rfl hdg kk
/-- a static method that writes the world -/
theorem x_cSWv (S : CallFix p m c cc nL s args Ts own) (hK : xK D K s) (hP : va_P D vwCl (xw n α C σ) H) {A0 : Nat → Prop} (hS : va_S A0 H0 H locs) (hA : ∀ q, xw_R n α q → A0 q) {post : (Nat → Nat → Int32) → Prop} (hM : Met l y ws (xrm d) (va_Pc As (xPre D K n α C σ)) (xQv D n α C post) 0 0 (xw_R n α)) (cw : CallB R s args own index y bytes maxL ret ws (xrm d) 0 0 n0 ∧ (Cond.static y).before args s = true) (hn : As.length = n0) (hsize : ls.size = nL) (hst : st0 = As.reverse ++ rest) (hW : (rest.map fun v => v.category).sum ≤ 8) (hdg : decode cc pc = .ok (.invokestatic index, 3)) (hf : cells + 0 ≤ R.cells ∧ slots + 0 ≤ R.slots)
    (kk : ∀ (τ : Nat → Nat → Int32) (H1 : Heap) (locs1 : List Loc), post τ → va_P D vwCl (xw n α C τ) H1 → (∀ q : Nat, q < H.size → ¬ xw_R n α q → H1[q]? = H[q]?) → va_S A0 H0 H1 locs1 → W p l e R s m args below meth c H1 locs1 cells slots Q (F0 m (pc + 3) ls rest)) : W p l e R s m args below meth c H locs cells slots Q (F0 m pc ls st0) :=
  va_callv (va_runS S hM cw ⟨xPre_blind, xPre_at hK hP⟩ rfl hn hsize hst (lv_room hW) hdg hf) hS (fun q _ h => hA q h) hA (fun τ t H1 locs1 ht _ hp hB _ hk hS1 => kk τ H1 locs1 hp (by rw [← ht]; exact hB) hk hS1)
/-- System.arraycopy between two rows of ints of the world -/
theorem x_copy (S : CallFix p m c cc nL s args Ts own) (hml : ls.size = nL) (hlink : Cond.methodLink own index arraycopyName ∈ Ts) (hnat : Cond.native arraycopyName ∈ Ts) (hstat : Cond.static arraycopyName ∈ Ts) (hini : Cond.initialized "java/lang/System" ∈ Ts) (hK : xK D K s) (hP : va_P D vwCl (xw n α C σ) H) (hI : xw_I n α) (hS : va_S (xw_R n α) H0 H locs) (q0 q1 : Nat) (hq0 : q0 < n) (hq1 : q1 < n) {N0 N1 : Nat} {f : Nat → Int32} (he0 : C q0 (σ q0) = .inl (K 0, N0, .inl f)) (he1 : ∀ v, C q1 v = .inl (K 0, N1, .inl v)) {i j k : Nat} (hi : i < 2 ^ 31) (hj : j < 2 ^ 31) (hk : k < 2 ^ 31) (h4 : i + k ≤ N0) (h5 : j + k ≤ N1)
    (hframes : 1 ≤ R.frames) (hlocals : (rest.map fun v => v.category).sum + (nativeFrameWords "java/lang/System" "arraycopy" 5 + 11) ≤ R.locals) (hdg : decode cc pc = .ok (.invokestatic index, 3))
    (kk : ∀ (H1 : Heap) (locs1 : List Loc), va_P D vwCl (xw n α C (va_up σ q1 (va_cpy f (σ q1) i j k))) H1 → va_S (xw_R n α) H0 H1 locs1 → W p l e R s m args below meth c H1 locs1 cells slots Q (F0 m (pc + 3) ls rest)) : W p l e R s m args below meth c H locs cells slots Q (F0 m pc ls (.int (nI k) :: .int (nI j) :: .ref (α q1) :: .int (nI i) :: .ref (α q0) :: rest)) := by
  have e1 := nI_clamp hi
  have e2 := nI_clamp hj
  have e3 := nI_clamp hk
  refine va_copyi (ty := .int) S.1 S.2.1 (S.2.2.1.trans hml.symm) S.2.2.2.1 (S.2.2.2.2 _ hlink) (S.2.2.2.2 _ hnat) (S.2.2.2.2 _ hstat) (S.2.2.2.2 _ hini) hK.1 hP (xw_D hI) hS q0 q1 0 0 (by rw [xw_get hq0, he0]) (by rw [xw_get hq1, he1]) rfl rfl rfl (nI_pos hi) (nI_pos hj) (nI_pos hk) (by rw [e1, e3]; exact h4) (by rw [e2, e3]; exact h5) (fun _ _ => rfl) hframes hlocals hdg ?_
  intro H1 locs1 hP1 _ hS1
  refine kk H1 locs1 ?_ hS1
  rw [e1, e2, e3, ← he1, xw_set] at hP1
  exact hP1
end XSW
def xs_nar (f : Nat) (v : Int32) : Int32 := if f = 0 then v.toInt8.toInt32 else if f = 1 then v.toInt16.toInt32 else v
def xs_find (v : Nat → Int32) (f i : Int32) : Int32 := if ¬ v 1 = 0 then nI 1 else if ¬ v 2 = f then nI 3 else if 0 ≤ i ∧ i < v 3 then nI 0 else nI 2
def xs_hm (it : Nat → Int32) : Nat → Int32
  | 0 => 0
  | i + 1 => xs_hm it i ||| ((nI 1) <<< (it i &&& 31))
abbrev xs_hold (z : Nat) (it : Nat → Int32) : Prop := 6 ≤ z ∧ xall (fun h => xin (it h) 6) 6 ∧ xs_hm it 6 = nI 63
def xst_new (σ : Nat → Nat → Int32) (w : Nat) (f n : Int32) : Nat → Nat → Int32 := va_up (va_up σ (35 + 2 * w) (fa_fill (fun _ => nI 0) (σ (35 + 2 * w)) 48)) (34 + 2 * w) (upd (upd (upd (σ (34 + 2 * w)) 1 (nI 0)) 2 f) 3 n)
theorem xst_add_n (σ : Nat → Nat → Int32) (L : Nat) (b : Int32) {k : Nat} (h9 : k ≠ 9) (h10 : k ≠ 10) : xst_add σ L b k = σ k := by
  unfold xst_add
  rw [xup_n _ _ h9, xup_n _ _ h10]
theorem xst_add_L (σ : Nat → Nat → Int32) (L : Nat) (b : Int32) : xst_add σ L b 9 1 = nI (L + 1) := by
  unfold xst_add
  rw [xup_s, pk_us]
/-- a year's names come behind the text -/
def xay (σ : Nat → Nat → Int32) (L : Nat) (it : Nat → Int32) : Nat → Nat → Nat → Int32
  | 0 => σ
  | i + 1 => xst_add (xay σ L it i) (L + i) (nI 48 + it i)
theorem xay_n (σ : Nat → Nat → Int32) (L : Nat) (it : Nat → Int32) {k : Nat} (h9 : k ≠ 9) (h10 : k ≠ 10) : ∀ i, xay σ L it i k = σ k
  | 0 => rfl
  | i + 1 => (xst_add_n _ _ _ h9 h10).trans (xay_n σ L it h9 h10 i)
theorem xay_L {σ : Nat → Nat → Int32} {L : Nat} {it : Nat → Int32} (h : σ 9 1 = nI L) : ∀ i, xay σ L it i 9 1 = nI (L + i)
  | 0 => h
  | i + 1 => xst_add_L _ _ _
def xst_ry (σ : Nat → Nat → Int32) (L w : Nat) : Nat → Nat → Int32 := if L = 0 then xst_parse (xay σ 0 (σ (35 + 2 * w)) 6) 6 else xst_parse (xay (xst_add σ L (nI 59)) (L + 1) (σ (35 + 2 * w)) 6) (L + 7)
theorem xup_id {β : Type} (f : Nat → β) (k : Nat) : va_up f k (f k) = f := by
  funext j
  by_cases h : j = k
  · subst h; exact xup_s _ _ _
  · exact xup_n _ _ h
/-- how many bytes a year more takes -/
def xyb (L : Nat) : Nat := if L = 0 then 6 else 7
theorem xyb_0 {L : Nat} (h : L = 0) : xyb L = 6 := if_pos h
theorem xyb_1 {L : Nat} (h : 0 < L) : xyb L = 7 := if_neg (by omega)
theorem xyb_or (L : Nat) : (L = 0 ∧ xyb L = 6) ∨ (0 < L ∧ xyb L = 7) := by
  rcases Nat.eq_zero_or_pos L with h | h
  · exact Or.inl ⟨h, xyb_0 h⟩
  · exact Or.inr ⟨h, xyb_1 h⟩

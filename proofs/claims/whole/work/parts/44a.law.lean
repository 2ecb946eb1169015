/-! the law: both worlds side by side -/
def xLF (p : Program) (s : State) (m : MethodId) (meth : Method) (c : Code) (b L : Nat) (xs : Nat → Int32) (D : va_G) (K : Nat → ClassId) (α β : Nat → Nat) : Prop := CallFix p m c cL_law 4 s #[Value.ref b] wsL_law RL ∧ meth.sig.returnType = ret ∧ va_X b L xs s s.heap ∧ b < s.heap.size ∧ L ≤ 3072 ∧ xK D K s ∧ xw_I 42 α ∧ xw_I 20 β ∧ (∀ i, i < 42 → s.heap.size ≤ α i) ∧ (∀ j, j < 20 → s.heap.size ≤ β j) ∧ ∀ i j, i < 42 → j < 20 → α i ≠ β j
def xLI (D : va_G) (K : Nat → ClassId) (α β : Nat → Nat) (s : State) (σ τ : Nat → Nat → Int32) (H : Heap) (locs : List Loc) : Prop := va_P D vwCl (xw 42 α (xC α K) σ) H ∧ va_P D vwCl (xw 20 β (xM β K) τ) H ∧ va_S (fun q : Nat => s.heap.size ≤ q) s.heap H locs ∧ xRel σ τ
theorem xkeep {D : va_G} {n k : Nat} {α β : Nat → Nat} {C : Nat → (Nat → Int32) → va_E} {σ : Nat → Nat → Int32} {H H1 : Heap} (hP : va_P D vwCl (xw n α C σ) H) (hd : ∀ i j, i < n → j < k → α i ≠ β j) (hk : ∀ q : Nat, q < H.size → ¬ xw_R k β q → H1[q]? = H[q]?) : va_P D vwCl (xw n α C σ) H1 :=
  hP.kept (fun i q hq => by
    have h9 := hP i q hq
    obtain ⟨hi, e9⟩ := xw_out hq
    have e1 : q.1 = α i := by rw [e9]
    refine hk q.1 h9.lt (fun w => ?_)
    obtain ⟨j, hj, e2⟩ := w
    exact hd i j hi hj (e1.symm.trans e2.symm))
section XLAW
variable {p : Program} {l : Launch} {e : Env} {R : Room} {s : State} {m : MethodId} {args : Array Value} {below : List Frame} {meth : Method} {c : Code} {H : Heap} {locs : List Loc} {cells slots : Nat} {Q : State → Prop}
variable {cc : ByteArray} {pc nL : Nat} {ls : Array Slot} {rest : List Value} {Ts : List Cond} {own : String} {H0 : Heap} {A : Nat → Prop}
theorem x_sld (S : CallFix p m c cc nL s args Ts own) {b L : Nat} {xs : Nat → Int32} (hX : va_X b L xs s H0) (hbl : b < H0.size) (hbA : ¬ A b) (hS : va_S A H0 H locs) {j : Nat} (hj : j < L) (hL : L < 2 ^ 31) (hdg : decode cc pc = .ok (.iaload, 1)) (kk : W p l e R s m args below meth c H locs cells slots Q (F0 m (pc + 1) ls (.int (xs j) :: rest))) : W p l e R s m args below meth c H locs cells slots Q (F0 m pc ls (.int (nI j) :: .ref b :: rest)) :=
  va_sld S.1 S.2.1 hX hbl hbA hS (vp_in_nI hj hL) hdg (by rw [nI_clamp (Nat.lt_trans hj hL)]; exact kk)
end XLAW

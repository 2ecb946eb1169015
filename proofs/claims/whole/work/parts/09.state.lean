/-! the system's cells: 0 the object; 1 Harbour, 2 its hulls, 3 its names, 4 speeds, 5 holds, 6 ways, 7 loads, 8 fees; 9 Book, 10 its bytes; 11 Voyages; 12 Claims, 13 hulls, 14 years, 15 harms; 16 Sightings, 17 names, 18 traits, 19 values; 20 Draw, 21 allowed, 22 waysTo, 23 waysOn; 24 BestDraw, 25 earnings, 26 .. 31 its rows, 32 most; 33 sheets, 34 + 2 s Sheet s, 35 + 2 s its items -/
def xC (α : Nat → Nat) (K : Nat → ClassId) (k : Nat) (v : Nat → Int32) : va_E := match k with
  | 0 => .inr (8, [.ref (α 1), .ref (α 9), .ref (α 11), .ref (α 12), .ref (α 16), .ref (α 20), .ref (α 24), .ref (α 33), .int (v 8)])
  | 1 => .inr (4, [.ref (α 2), .ref (α 3)])
  | 2 => .inl (K 1, 2, .inr (.inr (.inr (.inr (fun i => some (α (4 + i)))))))
  | 3 => .inl (K 1, 3, .inr (.inr (.inr (.inr (fun i => some (α (6 + i)))))))
  | 4 => .inl (K 0, 6, .inl v)
  | 5 => .inl (K 0, 6, .inl v)
  | 6 => .inl (K 0, 6, .inl v)
  | 7 => .inl (K 0, 6, .inl v)
  | 8 => .inl (K 0, 6, .inl v)
  | 9 => .inr (1, [.ref (α 10), .int (v 1), .int (v 2), .int (v 3)])
  | 10 => .inl (K 0, 90, .inl v)
  | 11 => .inr (7, [.ref (α 1), .ref (α 9)])
  | 12 => .inr (2, [.ref (α 9), .ref (α 13), .ref (α 14), .ref (α 15), .int (v 4)])
  | 13 => .inl (K 0, 12, .inl v)
  | 14 => .inl (K 0, 12, .inl v)
  | 15 => .inl (K 0, 12, .inl v)
  | 16 => .inr (6, [.ref (α 1), .ref (α 17), .ref (α 18), .ref (α 19), .int (v 4)])
  | 17 => .inl (K 0, 8, .inl v)
  | 18 => .inl (K 0, 8, .inl v)
  | 19 => .inl (K 0, 8, .inl v)
  | 20 => .inr (3, [.ref (α 21), .ref (α 22), .ref (α 23)])
  | 21 => .inl (K 0, 6, .inl v)
  | 22 => .inl (K 0, 64, .inl v)
  | 23 => .inl (K 0, 64, .inl v)
  | 24 => .inr (0, [.ref (α 1), .ref (α 25), .ref (α 32)])
  | 25 => .inl (K 1, 6, .inr (.inr (.inr (.inr (fun i => some (α (26 + i)))))))
  | 26 => .inl (K 0, 6, .inl v)
  | 27 => .inl (K 0, 6, .inl v)
  | 28 => .inl (K 0, 6, .inl v)
  | 29 => .inl (K 0, 6, .inl v)
  | 30 => .inl (K 0, 6, .inl v)
  | 31 => .inl (K 0, 6, .inl v)
  | 32 => .inl (K 0, 64, .inl v)
  | 33 => .inl (K 2, 4, .inr (.inr (.inr (.inr (fun i => some (α (34 + 2 * i)))))))
  | 34 => .inr (5, [.ref (α 35), .int (v 1), .int (v 2), .int (v 3)])
  | 35 => .inl (K 0, 48, .inl v)
  | 36 => .inr (5, [.ref (α 37), .int (v 1), .int (v 2), .int (v 3)])
  | 37 => .inl (K 0, 48, .inl v)
  | 38 => .inr (5, [.ref (α 39), .int (v 1), .int (v 2), .int (v 3)])
  | 39 => .inl (K 0, 48, .inl v)
  | 40 => .inr (5, [.ref (α 41), .int (v 1), .int (v 2), .int (v 3)])
  | _ => .inl (K 0, 48, .inl v)
/-! the reference's cells: 0 the object (its ints by the numbers of their fields: 6 typed, 7 years, 10 claims, 14 sights, 23 finding); 1 speeds, 2 holds, 3 ways, 4 loads, 5 fees, 6 text, 7 book, 8 row, 9 claimHull, 10 claimYear, 11 claimHarm, 12 seenName, 13 seenWhat, 14 seenV, 15 isThere, 16 forms, 17 sizes, 18 items, 19 moved -/
def xM (α : Nat → Nat) (K : Nat → ClassId) (k : Nat) (v : Nat → Int32) : va_E := match k with
  | 0 => .inr (9, [.ref (α 1), .ref (α 2), .ref (α 3), .ref (α 4), .ref (α 5), .ref (α 6), .int (v 6), .int (v 7), .ref (α 7), .ref (α 8), .int (v 10), .ref (α 9), .ref (α 10), .ref (α 11), .int (v 14), .ref (α 12), .ref (α 13), .ref (α 14), .ref (α 15), .ref (α 16), .ref (α 17), .ref (α 18), .ref (α 19), .int (v 23)])
  | 1 => .inl (K 0, 6, .inl v)
  | 2 => .inl (K 0, 6, .inl v)
  | 3 => .inl (K 0, 6, .inl v)
  | 4 => .inl (K 0, 6, .inl v)
  | 5 => .inl (K 0, 6, .inl v)
  | 6 => .inl (K 0, 90, .inl v)
  | 7 => .inl (K 0, 78, .inl v)
  | 8 => .inl (K 0, 6, .inl v)
  | 9 => .inl (K 0, 12, .inl v)
  | 10 => .inl (K 0, 12, .inl v)
  | 11 => .inl (K 0, 12, .inl v)
  | 12 => .inl (K 0, 8, .inl v)
  | 13 => .inl (K 0, 8, .inl v)
  | 14 => .inl (K 0, 8, .inl v)
  | 15 => .inl (K 3, 4, .inl v)
  | 16 => .inl (K 0, 4, .inl v)
  | 17 => .inl (K 0, 4, .inl v)
  | 18 => .inl (K 0, 192, .inl v)
  | _ => .inl (K 0, 48, .inl v)
theorem xC_h {α : Nat → Nat} {K : Nat → ClassId} {w : Nat} (h : w < 2) (v : Nat → Int32) : xC α K (4 + w) v = .inl (K 0, 6, .inl v) := by
  match w, h with
  | 0, _ => rfl
  | 1, _ => rfl
theorem xC_n {α : Nat → Nat} {K : Nat → ClassId} {w : Nat} (h : w < 3) (v : Nat → Int32) : xC α K (6 + w) v = .inl (K 0, 6, .inl v) := by
  match w, h with
  | 0, _ => rfl
  | 1, _ => rfl
  | 2, _ => rfl
theorem xC_e {α : Nat → Nat} {K : Nat → ClassId} {w : Nat} (h : w < 6) (v : Nat → Int32) : xC α K (26 + w) v = .inl (K 0, 6, .inl v) := by
  match w, h with
  | 0, _ => rfl
  | 1, _ => rfl
  | 2, _ => rfl
  | 3, _ => rfl
  | 4, _ => rfl
  | 5, _ => rfl
theorem xC_s {α : Nat → Nat} {K : Nat → ClassId} {w : Nat} (h : w < 4) (v : Nat → Int32) : xC α K (34 + 2 * w) v = .inr (5, [.ref (α (35 + 2 * w)), .int (v 1), .int (v 2), .int (v 3)]) := by
  match w, h with
  | 0, _ => rfl
  | 1, _ => rfl
  | 2, _ => rfl
  | 3, _ => rfl
theorem xC_i {α : Nat → Nat} {K : Nat → ClassId} {w : Nat} (h : w < 4) (v : Nat → Int32) : xC α K (35 + 2 * w) v = .inl (K 0, 48, .inl v) := by
  match w, h with
  | 0, _ => rfl
  | 1, _ => rfl
  | 2, _ => rfl
  | 3, _ => rfl
/-! truth as an int; an int from 0 to n - 1 -/
def xb (P : Prop) [Decidable P] : Int32 := if P then 1 else 0
theorem xb_t {P : Prop} [Decidable P] (h : P) : xb P = 1 := if_pos h
theorem xb_f {P : Prop} [Decidable P] (h : ¬ P) : xb P = 0 := if_neg h
theorem xb_nar {P : Prop} [Decidable P] : narrow .boolean (.int (xb P)) = .int (xb P) := by
  unfold xb
  split <;> rfl
abbrev xin (x : Int32) (n : Nat) : Prop := 0 ≤ x ∧ x < nI n
theorem xin_of {x : Int32} {n : Nat} (h : xin x n) (hn : n < 2 ^ 31) : ∃ j : Nat, j < n ∧ x = nI j := by
  obtain ⟨j, hj, rfl⟩ := nI_of (x := x) (by have := h.1; exact Int32.not_lt.mpr this)
  exact ⟨j, (nI_ltI hj hn).mp h.2, rfl⟩
theorem xin_nI {j n : Nat} (hj : j < n) (hn : n < 2 ^ 31) : xin (nI j) n := ⟨nI_pos' (Nat.lt_trans hj hn), nI_lt hj hn⟩
section XLOOP
variable {p : Program} {l : Launch} {e : Env} {R : Room} {s : State} {m : MethodId} {args : Array Value} {below : List Frame} {meth : Method} {c : Code} {H : Heap} {locs : List Loc} {cells slots : Nat} {Q : State → Prop}
variable {cc : ByteArray} {pc nL : Nat} {ls : Array Slot} {rest : List Value} {Ts : List Cond} {own : String}
theorem x_if_eqB (S : CallFix p m c cc nL s args Ts own) {P : Prop} [Decidable P] {off : Int} {tgt : Nat} (hdg : decode cc pc = .ok (.ifCond .eq off, 3)) (ht : (pc : Int) + off = (tgt : Int)) (kt : ¬ P → W p l e R s m args below meth c H locs cells slots Q (F0 m tgt ls rest)) (kf : P → W p l e R s m args below meth c H locs cells slots Q (F0 m (pc + 3) ls rest)) : W p l e R s m args below meth c H locs cells slots Q (F0 m pc ls (.int (xb P) :: rest)) :=
  lv_if_eq S.1 S.2.1 hdg ht (fun h => kt (fun q => by rw [xb_t q] at h; exact absurd h (by decide))) (fun h => kf (Decidable.byContradiction fun q => h (xb_f q)))
theorem x_if_neB (S : CallFix p m c cc nL s args Ts own) {P : Prop} [Decidable P] {off : Int} {tgt : Nat} (hdg : decode cc pc = .ok (.ifCond .ne off, 3)) (ht : (pc : Int) + off = (tgt : Int)) (kt : P → W p l e R s m args below meth c H locs cells slots Q (F0 m tgt ls rest)) (kf : ¬ P → W p l e R s m args below meth c H locs cells slots Q (F0 m (pc + 3) ls rest)) : W p l e R s m args below meth c H locs cells slots Q (F0 m pc ls (.int (xb P) :: rest)) :=
  lv_if_ne S.1 S.2.1 hdg ht (fun h => kt (Decidable.byContradiction fun q => h (xb_f q))) (fun h => kf (fun q => by rw [xb_t q] at h; exact absurd h (by decide)))
theorem x_loop {ι : Type} (Inv : ι → Array Slot → Prop) (μ : ι → Nat) (step : ∀ x ls, Inv x ls → (∀ y ls', Inv y ls' → μ y < μ x → W p l e R s m args below meth c H locs cells slots Q (F0 m pc ls' [])) → W p l e R s m args below meth c H locs cells slots Q (F0 m pc ls [])) (x0 : ι) (ls0 : Array Slot) (h0 : Inv x0 ls0) : W p l e R s m args below meth c H locs cells slots Q (F0 m pc ls0 []) := by
  have key : ∀ (k : Nat) (x : ι) (ls : Array Slot), μ x < k → Inv x ls → W p l e R s m args below meth c H locs cells slots Q (F0 m pc ls []) := by
    intro k
    induction k with
    | zero => intro x ls h; omega
    | succ k ih => intro x ls h hi; exact step x ls hi (fun y ls' hy hm => ih y ls' (by omega) hy)
  exact key _ x0 ls0 (Nat.lt_succ_self _) h0
theorem x_loopW {ι : Type} (Inv : ι → Heap → List Loc → Array Slot → Prop) (μ : ι → Nat) (step : ∀ x H locs ls, Inv x H locs ls → (∀ y H' locs' ls', Inv y H' locs' ls' → μ y < μ x → W p l e R s m args below meth c H' locs' cells slots Q (F0 m pc ls' [])) → W p l e R s m args below meth c H locs cells slots Q (F0 m pc ls [])) (x0 : ι) (ls0 : Array Slot) (h0 : Inv x0 H locs ls0) : W p l e R s m args below meth c H locs cells slots Q (F0 m pc ls0 []) := by
  have key : ∀ (k : Nat) (x : ι) (H : Heap) (locs : List Loc) (ls : Array Slot), μ x < k → Inv x H locs ls → W p l e R s m args below meth c H locs cells slots Q (F0 m pc ls []) := by
    intro k
    induction k with
    | zero => intro x H locs ls h; omega
    | succ k ih => intro x H locs ls h hi; exact step x H locs ls hi (fun y H' locs' ls' hy hm => ih y H' locs' ls' (by omega) hy)
  exact key _ x0 H locs ls0 (Nat.lt_succ_self _) h0
/-- a place that several ways come to -/
theorem x_cut {ι : Type} (Inv : ι → Array Slot → Prop) (st : ι → List Value) {g : JFrame} (k : ∀ x ls, Inv x ls → W p l e R s m args below meth c H locs cells slots Q (F0 m pc ls (st x))) (main : (∀ x ls, Inv x ls → W p l e R s m args below meth c H locs cells slots Q (F0 m pc ls (st x))) → W p l e R s m args below meth c H locs cells slots Q g) : W p l e R s m args below meth c H locs cells slots Q g := main k
theorem x_cutW {ι : Type} (Inv : ι → Heap → List Loc → Array Slot → Prop) (st : ι → List Value) {g : JFrame} (k : ∀ x H locs ls, Inv x H locs ls → W p l e R s m args below meth c H locs cells slots Q (F0 m pc ls (st x))) (main : (∀ x H locs ls, Inv x H locs ls → W p l e R s m args below meth c H locs cells slots Q (F0 m pc ls (st x))) → W p l e R s m args below meth c H locs cells slots Q g) : W p l e R s m args below meth c H locs cells slots Q g := main k
end XLOOP

/-! the 720 rows as a list, and what is counted of them -/
def xrws : Nat → Nat → List (List Nat)
  | 0, _ => [[]]
  | r + 1, z => (List.range 6).flatMap (fun n => if z.testBit n = true then [] else (xrws r (z ||| 2 ^ n)).map (fun l => n :: l))
def xrowL (k : Nat) : List Nat := [xl_r k 0, xl_r k 1, xl_r k 2, xl_r k 3, xl_r k 4, xl_r k 5]
theorem xrws_all : (List.range 720).map xrowL = xrws 6 0 := by decide +kernel
/-- a row whose names are allowed -/
abbrev xsA (A : Nat → Nat) (k : Nat) : Prop := xall (fun h => (A h).testBit (xl_r k h) = true) 6
def xsnd (A : Nat → Nat) : Nat → List Nat → Bool
  | _, [] => true
  | h, n :: l => (A h).testBit n && xsnd A (h + 1) l
theorem xsnd_row (A : Nat → Nat) (k : Nat) : xsnd A 0 (xrowL k) = decide (xsA A k) := by
  have e : xsnd A 0 (xrowL k) = ((A 0).testBit (xl_r k 0) && ((A 1).testBit (xl_r k 1) && ((A 2).testBit (xl_r k 2) && ((A 3).testBit (xl_r k 3) && ((A 4).testBit (xl_r k 4) && ((A 5).testBit (xl_r k 5) && true)))))) := rfl
  rw [e]
  by_cases q : xsA A k
  · rw [decide_eq_true q]
    have w := xall_to q
    simp [w 0 (by omega), w 1 (by omega), w 2 (by omega), w 3 (by omega), w 4 (by omega), w 5 (by omega)]
  · rw [decide_eq_false q]
    refine Bool.eq_false_iff.mpr (fun w => q (xall_of (fun h hh => ?_)))
    simp only [Bool.and_eq_true] at w
    rcases (show h = 0 ∨ h = 1 ∨ h = 2 ∨ h = 3 ∨ h = 4 ∨ h = 5 by omega) with rfl | rfl | rfl | rfl | rfl | rfl
    · exact w.1
    · exact w.2.1
    · exact w.2.2.1
    · exact w.2.2.2.1
    · exact w.2.2.2.2.1
    · exact w.2.2.2.2.2.1
theorem xct_list (p : Nat → Bool) : ∀ n, fb_ct p n = (List.range n).countP p
  | 0 => rfl
  | n + 1 => by rw [fb_ct_succ, xct_list p n, List.range_succ, List.countP_append, List.countP_singleton]
theorem xcnt_flat {T : Nat → List (List Nat)} {p : List Nat → Bool} {f : Nat → Nat} : ∀ {n : Nat}, (∀ k, k < n → (T k).countP p = f k) → ((List.range n).flatMap T).countP p = fb_sm f n
  | 0, _ => rfl
  | n + 1, h => by
    rw [List.range_succ, List.flatMap_append, List.countP_append, xcnt_flat (fun k hk => h k (by omega)), fb_sm_succ, List.flatMap_cons, List.flatMap_nil, List.append_nil, h n (by omega)]
theorem xrws_count (A : Nat → Nat) : ∀ r z, r ≤ 6 → (xrws r z).countP (xsnd A (6 - r)) = xo A r z
  | 0, z, _ => rfl
  | r + 1, z, hr => by
    have ih := fun z => xrws_count A r z (by omega)
    have e : 6 - (r + 1) = 5 - r := by omega
    have e2 : 6 - r = 5 - r + 1 := by omega
    rw [e]
    refine xcnt_flat (fun n _ => ?_)
    by_cases q : z.testBit n = true
    · rw [if_pos q, if_neg (fun w => by rw [w.2] at q; exact absurd q (by decide))]
      rfl
    · rw [if_neg q, List.countP_map]
      by_cases a : (A (5 - r)).testBit n = true
      · rw [if_pos ⟨a, by simpa using q⟩, ← ih, e2]
        congr 1
        funext l
        show ((A (5 - r)).testBit n && xsnd A (5 - r + 1) l) = _
        rw [a, Bool.true_and]
      · rw [if_neg (fun w => a w.1)]
        refine List.countP_eq_zero.mpr (fun l _ => ?_)
        show ¬ ((A (5 - r)).testBit n && xsnd A (5 - r + 1) l) = true
        simp [a]
/-- how many of the 720 rows are allowed -/
theorem xrow_count (A : Nat → Nat) : fb_ct (fun k => decide (xsA A k)) 720 = xon A 0 := by
  have h := xrws_count A 6 0 (Nat.le_refl 6)
  rw [← xrws_all, List.countP_map] at h
  have ef : (fun k => decide (xsA A k)) = (xsnd A (6 - 6) ∘ xrowL) := by
    funext k
    exact (xsnd_row A k).symm
  have e : xon A 0 = xo A 6 0 := by
    unfold xon
    rw [show xpc 0 = 0 by decide]
  rw [xct_list, ef, h, e]
/-! the first of them -/
theorem xfst_cong {P Q : Nat → Prop} [DecidablePred P] [DecidablePred Q] : ∀ {n : Nat}, (∀ k, k < n → (P k ↔ Q k)) → xfst P n = xfst Q n
  | 0, _ => rfl
  | n + 1, h => by
    unfold xfst
    rw [xfst_cong (fun k hk => h k (by omega))]
    by_cases q : P n
    · simp [q, (h n (by omega)).mp q]
    · have q2 : ¬ Q n := fun w => q ((h n (by omega)).mpr w)
      simp [q, q2]
theorem xfind_flat {T : Nat → List (List Nat)} {p : List Nat → Bool} {P : Nat → Prop} [DecidablePred P] {g : Nat → List Nat} : ∀ {n : Nat}, (∀ k, k < n → (T k).find? p = if P k then some (g k) else none) → ((List.range n).flatMap T).find? p = if xfst P n < n then some (g (xfst P n)) else none
  | 0, _ => rfl
  | n + 1, h => by
    rw [List.range_succ, List.flatMap_append, List.find?_append, xfind_flat (fun k hk => h k (by omega)), List.flatMap_cons, List.flatMap_nil, List.append_nil, h n (by omega)]
    by_cases a : xfst P n < n
    · have e : xfst P (n + 1) = xfst P n := by
        rw [xfst, if_pos a]
      rw [if_pos a, e, if_pos (show xfst P n < n + 1 by omega)]
      rfl
    · rw [if_neg a]
      by_cases b : P n
      · have e : xfst P (n + 1) = n := by
          rw [xfst, if_neg a, if_pos b]
        rw [if_pos b, e, if_pos (by omega)]
        rfl
      · have e : xfst P (n + 1) = n + 1 := by
          rw [xfst, if_neg a, if_neg b]
        rw [if_neg b, e, if_neg (by omega)]
        rfl
def xfrow (A : Nat → Nat) : Nat → Nat → List Nat
  | 0, _ => []
  | r + 1, z => xgl A z (5 - r) :: xfrow A r (z ||| 2 ^ xgl A z (5 - r))
theorem fb_sm_posI {f : Nat → Nat} {n : Nat} : 0 < fb_sm f n ↔ ∃ k, k < n ∧ 0 < f k := by
  constructor
  · intro h
    rcases xfst_or (P := fun k => 0 < f k) n with ⟨p, h1, h2, -⟩ | h2
    · exact ⟨p, h1, h2⟩
    · rw [fb_sm_z (fun k hk => by have := h2 k hk; omega)] at h
      omega
  · rintro ⟨k, hk, h⟩
    have := fb_sm_part f hk
    omega
theorem xfst_ltI {P : Nat → Prop} [DecidablePred P] {n : Nat} : xfst P n < n ↔ ∃ k, k < n ∧ P k := by
  rcases xfst_or (P := P) n with ⟨p, h1, h2, h3⟩ | h2
  · rw [xfst_at h3 h2 h1]
    exact ⟨fun _ => ⟨p, h1, h2⟩, fun _ => h1⟩
  · rw [xfst_no h2]
    exact ⟨fun q => absurd q (Nat.lt_irrefl n), fun ⟨k, hk, q⟩ => absurd q (h2 k hk)⟩
theorem xrws_find (A : Nat → Nat) : ∀ r z, r ≤ 6 → z < 64 → xpc z = 6 - r → (xrws r z).find? (xsnd A (6 - r)) = if 0 < xo A r z then some (xfrow A r z) else none
  | 0, z, _, _, _ => rfl
  | r + 1, z, hr, hz, hp => by
    have e : 6 - (r + 1) = 5 - r := by omega
    have e2 : 6 - r = 5 - r + 1 := by omega
    rw [e] at hp ⊢
    have hon : ∀ n, n < 6 → xok A (5 - r) n z → xon A (z ||| 2 ^ n) = xo A r (z ||| 2 ^ n) := by
      intro n hn q
      unfold xon
      rw [(xpc_or hz hn q.2).1, hp]
      congr 1
      omega
    have hT : ∀ n, n < 6 → ((if z.testBit n = true then [] else (xrws r (z ||| 2 ^ n)).map (fun l => n :: l)) : List (List Nat)).find? (xsnd A (5 - r)) = if (xok A (5 - r) n z ∧ 0 < xon A (z ||| 2 ^ n)) then some (n :: xfrow A r (z ||| 2 ^ n)) else none := by
      intro n hn
      by_cases q : z.testBit n = true
      · rw [if_pos q, if_neg (fun w => by rw [w.1.2] at q; exact absurd q (by decide))]
        rfl
      · have q2 : z.testBit n = false := by simpa using q
        rw [if_neg q, List.find?_map]
        by_cases a : (A (5 - r)).testBit n = true
        · have ef : (xsnd A (5 - r) ∘ fun l => n :: l) = xsnd A (6 - r) := by
            funext l
            show ((A (5 - r)).testBit n && xsnd A (5 - r + 1) l) = _
            rw [a, Bool.true_and, e2]
          rw [ef, xrws_find A r (z ||| 2 ^ n) (by omega) (xor64 hz hn) (by rw [(xpc_or hz hn q2).1, hp]; omega), ← hon n hn ⟨a, q2⟩]
          by_cases b : 0 < xon A (z ||| 2 ^ n)
          · rw [if_pos b, if_pos ⟨⟨a, q2⟩, b⟩]
            rfl
          · rw [if_neg b, if_neg (fun w => b w.2)]
            rfl
        · rw [if_neg (fun w => a w.1.1)]
          have ef : (xsnd A (5 - r) ∘ fun l => n :: l) = fun _ => false := by
            funext l
            show ((A (5 - r)).testBit n && xsnd A (5 - r + 1) l) = _
            have a2 : (A (5 - r)).testBit n = false := by simpa using a
            rw [a2, Bool.false_and]
          rw [ef, List.find?_eq_none.mpr (fun l _ => by simp)]
          rfl
    have hf := xfind_flat (P := fun n => xok A (5 - r) n z ∧ 0 < xon A (z ||| 2 ^ n)) (g := fun n => n :: xfrow A r (z ||| 2 ^ n)) (n := 6) hT
    refine Eq.trans hf ?_
    have hiff : xfst (fun n => xok A (5 - r) n z ∧ 0 < xon A (z ||| 2 ^ n)) 6 < 6 ↔ 0 < xo A (r + 1) z := by
      rw [xfst_ltI]
      show _ ↔ 0 < fb_sm _ 6
      rw [fb_sm_posI]
      constructor
      · rintro ⟨n, hn, q1, q2⟩
        refine ⟨n, hn, ?_⟩
        rw [if_pos q1, ← hon n hn q1]
        exact q2
      · rintro ⟨n, hn, q⟩
        by_cases q1 : xok A (5 - r) n z
        · rw [if_pos q1, ← hon n hn q1] at q
          exact ⟨n, hn, q1, q⟩
        · rw [if_neg q1] at q
          exact absurd q (Nat.lt_irrefl 0)
    by_cases q : 0 < xo A (r + 1) z
    · rw [if_pos (hiff.mpr q), if_pos q]
      rfl
    · rw [if_neg (fun w => q (hiff.mp w)), if_neg q]
/-- hull h's name in the first allowed row among the first i -/
def xrf (A : Nat → Nat) (i : Nat) : Option Nat := (List.range i).find? (fun k => decide (xsA A k))
theorem xrf_all (A : Nat → Nat) : (∃ k, k < 720 ∧ xrf A 720 = some k ∧ 0 < xon A 0 ∧ ∀ h, h < 6 → xl_r k h = xgl A (xgt A h) h) ∨ (xrf A 720 = none ∧ ¬ 0 < xon A 0) := by
  have h := xrws_find A 6 0 (Nat.le_refl 6) (by decide) (by decide)
  rw [← xrws_all, List.find?_map] at h
  have ef : (xsnd A (6 - 6) ∘ xrowL) = fun k => decide (xsA A k) := by
    funext k
    exact xsnd_row A k
  rw [ef] at h
  have h : Option.map xrowL (xrf A 720) = if 0 < xon A 0 then some (xfrow A 6 0) else none := h
  by_cases q : 0 < xon A 0
  · rw [if_pos q] at h
    cases hk : xrf A 720 with
    | none => rw [hk] at h; cases h
    | some k =>
      rw [hk] at h
      have h2 : xrowL k = xfrow A 6 0 := Option.some.inj h
      have hk2 : (List.range 720).find? (fun k => decide (xsA A k)) = some k := hk
      have hk3 : k < 720 := List.mem_range.mp (List.mem_of_find?_eq_some hk2)
      refine Or.inl ⟨k, hk3, rfl, q, fun j hj => ?_⟩
      have e : xfrow A 6 0 = [xgl A (xgt A 0) 0, xgl A (xgt A 1) 1, xgl A (xgt A 2) 2, xgl A (xgt A 3) 3, xgl A (xgt A 4) 4, xgl A (xgt A 5) 5] := rfl
      rw [e, xrowL] at h2
      simp only [List.cons.injEq, and_true] at h2
      rcases (show j = 0 ∨ j = 1 ∨ j = 2 ∨ j = 3 ∨ j = 4 ∨ j = 5 by omega) with rfl | rfl | rfl | rfl | rfl | rfl
      · exact h2.1
      · exact h2.2.1
      · exact h2.2.2.1
      · exact h2.2.2.2.1
      · exact h2.2.2.2.2.1
      · exact h2.2.2.2.2.2
  · rw [if_neg q] at h
    refine Or.inr ⟨?_, q⟩
    cases hk : xrf A 720 with
    | none => rfl
    | some k => rw [hk] at h; cases h

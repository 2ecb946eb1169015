/-! sightings, bit by bit -/
theorem xclr_bit_ : ∀ m : Fin 64, ∀ a n : Fin 6, (xclr m.val a.val).testBit n.val = (m.val.testBit n.val && !decide (a.val = n.val)) := by decide +kernel
theorem xs_left_bit {F : Nat → Nat → Int32} {s1 s2 s3 : Nat → Int32} {h n : Nat} (hn : n < 6) : ∀ k, (∀ j, j < k → xnat s1 j < 6) → ((xs_left F s1 s2 s3 h k).testBit n = true ↔ ∀ j, j < k → ¬ (xnat s1 j = n ∧ ¬ F (xnat s2 j) h = s3 j))
  | 0, _ => ⟨fun _ j hj => absurd hj (Nat.not_lt_zero j), fun _ => x63 ⟨n, hn⟩⟩
  | k + 1, hk => by
    have ih := xs_left_bit (F := F) (s1 := s1) (s2 := s2) (s3 := s3) (h := h) hn k (fun j hj => hk j (by omega))
    rw [xs_left]
    by_cases q : F (xnat s2 k) h = s3 k
    · rw [if_pos q, ih]
      exact ⟨fun w => lt_s w (fun z => z.2 q), fun w j hj => w j (by omega)⟩
    · rw [if_neg q, xclr_bit_ ⟨_, xs_left_lt F s1 s2 s3 h k⟩ ⟨_, hk k (by omega)⟩ ⟨n, hn⟩]
      constructor
      · intro w
        simp only [Bool.and_eq_true, Bool.not_eq_true', decide_eq_false_iff_not] at w
        exact lt_s (ih.mp w.1) (fun z => w.2 z.1)
      · intro w
        simp only [Bool.and_eq_true, Bool.not_eq_true', decide_eq_false_iff_not]
        exact ⟨ih.mpr (fun j hj => w j (by omega)), fun z => w k (by omega) ⟨z, q⟩⟩
theorem xora_bit (f : Nat → Nat) (n : Nat) : ∀ k, (xora f k).testBit n = !decide (xall (fun h => ¬ (f h).testBit n = true) k)
  | 0 => by
    have pb : xall (fun h => ¬ (f h).testBit n = true) 0 := xall_of (fun h hh => absurd hh (Nat.not_lt_zero h))
    rw [decide_eq_true pb]
    exact Nat.zero_testBit n
  | k + 1 => by
    rw [xora, Nat.testBit_or, xora_bit f n k]
    by_cases a : xall (fun h => ¬ (f h).testBit n = true) k
    · rw [decide_eq_true a]
      by_cases b : (f k).testBit n = true
      · have nb : ¬ xall (fun h => ¬ (f h).testBit n = true) (k + 1) := fun q => xall_to q k (by omega) b
        rw [b, decide_eq_false nb]; rfl
      · have pb : xall (fun h => ¬ (f h).testBit n = true) (k + 1) := xall_of (lt_s (xall_to a) b)
        rw [decide_eq_true pb]
        simpa using b
    · have nb : ¬ xall (fun h => ¬ (f h).testBit n = true) (k + 1) := fun q => a (xall_of (fun j hj => xall_to q j (by omega)))
      rw [decide_eq_false a, decide_eq_false nb]; rfl
theorem xs_false_eq {B : Nat → Nat} (hB : ∀ h, B h < 64) : xs_false B = xmask (fun n => xall (fun h => ¬ (B h).testBit n = true) 6) 6 := by
  refine Nat.eq_of_testBit_eq (fun n => ?_)
  rw [xmask_bit]
  unfold xs_false
  rw [Nat.testBit_and]
  by_cases hn : n < 6
  · rw [x63 ⟨n, hn⟩, Bool.true_and, x63_bit (xora_lt hB 6) hn, xora_bit, Bool.not_not]
    exact decide_eq_decide.mpr ⟨fun q => ⟨hn, q⟩, fun q => q.2⟩
  · rw [decide_eq_false (fun q => hn q.1), Nat.testBit_lt_two_pow (x := 63) (Nat.lt_of_lt_of_le (show 63 < 2 ^ 6 by decide) (Nat.pow_le_pow_right (by omega) (by omega)))]
    rfl
theorem xpc_mask {P : Nat → Prop} [DecidablePred P] {j : Nat} (hj : j < 6) : xpc (xmask P (j + 1)) = xpc (xmask P j) + (if P j then 1 else 0) := by
  rw [xmask]
  by_cases q : P j
  · rw [if_pos q, if_pos q]
    exact (xpc_or (xmask_lt6 (by omega)) hj (by rw [xmask_bit]; exact decide_eq_false (fun w => Nat.lt_irrefl _ w.1))).1
  · rw [if_neg q, if_neg q, Nat.add_zero]
theorem xpc_m0 {P : Nat → Prop} [DecidablePred P] : xpc (xmask P 0) = 0 := by
  rw [xmask]
  decide

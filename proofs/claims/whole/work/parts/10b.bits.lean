/-! sets of names as numbers below 64 -/
theorem xsh_ : ∀ n : Fin 31, (nI 1) <<< (nI n.val &&& 31) = nI (2 ^ n.val) := by decide +kernel
theorem xsh {n : Nat} (h : n < 31) : (nI 1) <<< (nI n &&& 31) = nI (2 ^ n) := xsh_ ⟨n, h⟩
def xclr (m n : Nat) : Nat := if m.testBit n then m - 2 ^ n else m
theorem xclr_ : ∀ m : Fin 64, ∀ n : Fin 6, nI m.val &&& (((nI 1) <<< (nI n.val &&& 31)) ^^^ (-1)) = nI (xclr m.val n.val) := by decide +kernel
theorem xclr_I {m n : Nat} (hm : m < 64) (hn : n < 6) : nI m &&& (((nI 1) <<< (nI n &&& 31)) ^^^ (-1)) = nI (xclr m n) := xclr_ ⟨m, hm⟩ ⟨n, hn⟩
theorem xclr_le (m n : Nat) : xclr m n ≤ m := by
  unfold xclr
  split
  · exact Nat.sub_le _ _
  · exact Nat.le_refl _
theorem xclr_lt {m n : Nat} (h : m.testBit n = true) : xclr m n < m := by
  unfold xclr
  rw [if_pos h]
  have h1 : 0 < 2 ^ n := Nat.two_pow_pos n
  have h2 : 2 ^ n ≤ m := Nat.ge_two_pow_of_testBit h
  omega
theorem xclr_no {m n : Nat} (h : ¬ m.testBit n = true) : xclr m n = m := if_neg h
theorem xnot_ : ∀ a : Fin 64, ∀ t : Fin 64, nI a.val &&& (nI t.val ^^^ (-1)) = nI (a.val &&& (63 ^^^ t.val)) := by decide +kernel
theorem xand_lt {a b : Nat} (h : a < 64) : a &&& b < 64 := Nat.lt_of_le_of_lt Nat.and_le_left h
theorem xor_lt {a b : Nat} (ha : a < 64) (hb : b < 64) : a ||| b < 64 := Nat.or_lt_two_pow (n := 6) ha hb
theorem xpw_lt {n : Nat} (h : n < 6) : 2 ^ n < 64 := by
  have : 2 ^ n < 2 ^ 6 := Nat.pow_lt_pow_right (by omega) h
  exact this
theorem x63 : ∀ n : Fin 6, Nat.testBit 63 n.val = true := by decide
/-- allowed, not taken, this one -/
theorem xmay {a t n : Nat} (ha : a < 64) (ht : t < 64) (hn : n < 6) : (nI a &&& (nI t ^^^ (-1))) &&& ((nI 1) <<< (nI n &&& 31)) = 0 ↔ ¬ (a.testBit n = true ∧ t.testBit n = false) := by
  rw [xnot_ ⟨a, ha⟩ ⟨t, ht⟩, xsh (by omega), fa_bit (by omega)]
  simp only [Nat.testBit_and, Nat.testBit_xor]
  have h3 := x63 ⟨n, hn⟩
  simp only at h3
  rw [h3]
  cases a.testBit n <;> cases t.testBit n <;> simp
theorem xor_I {m n : Nat} (hn : n < 31) : nI m ||| ((nI 1) <<< (nI n &&& 31)) = nI (m ||| 2 ^ n) := by
  rw [xsh hn, fa_or]
theorem xis_ : ∀ m : Fin 64, ∀ n : Fin 6, xisin (nI m.val) (nI n.val) ↔ m.val.testBit n.val = true := by decide +kernel
theorem xis_I {m n : Nat} (hm : m < 64) (hn : n < 6) : xisin (nI m) (nI n) ↔ m.testBit n = true := xis_ ⟨m, hm⟩ ⟨n, hn⟩
def xmask (P : Nat → Prop) [DecidablePred P] : Nat → Nat
  | 0 => 0
  | i + 1 => if P i then xmask P i ||| 2 ^ i else xmask P i
theorem xmask_bit {P : Nat → Prop} [DecidablePred P] : ∀ (i n : Nat), (xmask P i).testBit n = decide (n < i ∧ P n)
  | 0, n => by simp [xmask]
  | i + 1, n => by
    have ih := xmask_bit (P := P) i n
    unfold xmask
    by_cases h : P i
    · rw [if_pos h, Nat.testBit_or, ih, Nat.testBit_two_pow]
      by_cases e : n = i
      · subst e; simp [h]
      · have e2 : ¬ i = n := fun q => e q.symm
        simp only [e2, decide_false, Bool.or_false]
        congr 1
        apply propext
        constructor
        · rintro ⟨a, b⟩; exact ⟨by omega, b⟩
        · rintro ⟨a, b⟩; exact ⟨by omega, b⟩
    · rw [if_neg h, ih]
      congr 1
      apply propext
      constructor
      · rintro ⟨a, b⟩; exact ⟨by omega, b⟩
      · rintro ⟨a, b⟩
        refine ⟨?_, b⟩
        by_cases e : n = i
        · subst e; exact absurd b h
        · omega
theorem xmask_lt {P : Nat → Prop} [DecidablePred P] : ∀ i, xmask P i < 2 ^ i
  | 0 => by simp [xmask]
  | i + 1 => by
    have ih := xmask_lt (P := P) i
    have h2 : 2 ^ i < 2 ^ (i + 1) := Nat.pow_lt_pow_right (by omega) (by omega)
    unfold xmask
    split
    · exact Nat.or_lt_two_pow (by omega) h2
    · omega
theorem xmask_lt6 {P : Nat → Prop} [DecidablePred P] {i : Nat} (h : i ≤ 6) : xmask P i < 64 := Nat.lt_of_lt_of_le (xmask_lt i) (Nat.pow_le_pow_right (n := 2) (by omega) h)
/-- how many names are in a set -/
def xpc (m : Nat) : Nat := m % 2 + m / 2 % 2 + m / 4 % 2 + m / 8 % 2 + m / 16 % 2 + m / 32 % 2
theorem xpc_le (m : Nat) : xpc m ≤ 6 := by
  unfold xpc
  omega
/-- numbers in an array -/
def xnat (f : Nat → Int32) (k : Nat) : Nat := (f k).toNatClampNeg
def xran (f : Nat → Int32) (n b : Nat) : Prop := ∀ k, k < n → xnat f k < b ∧ f k = nI (xnat f k)
def xs_share (x : Int32) (law : Nat) : Int32 := if law = 0 then x else if law = 1 then 0 else x / nI 2
/-- what hull h owes by the first k claims -/
def xs_owed (T : Nat → Int32) (Y : Nat) (c1 c2 c3 : Nat → Int32) (h law : Nat) : Nat → Int32
  | 0 => 0
  | k + 1 => if xnat c2 k < Y then (xs_owed T Y c1 c2 c3 h law k + (if xnat c1 k = h then xs_share (c3 k) law else 0)) + (if xnm T (xnat c2 k) (xnat c1 k) = h then c3 k - xs_share (c3 k) law else 0) else xs_owed T Y c1 c2 c3 h law k
def xs_disp (T : Nat → Int32) (Y : Nat) (c1 c2 : Nat → Int32) (k : Nat) : Int32 := xsum (fun k => if xnat c2 k < Y ∧ ¬ xnm T (xnat c2 k) (xnat c1 k) = xnat c1 k then 1 else 0) k
def xst_cl (σ : Nat → Nat → Int32) (k : Nat) (a b x : Int32) : Nat → Nat → Int32 := va_up (va_up (va_up (va_up σ 13 (upd (σ 13) k a)) 14 (upd (σ 14) k b)) 15 (upd (σ 15) k x)) 12 (upd (σ 12) 4 (nI (k + 1)))
def xst_sg (σ : Nat → Nat → Int32) (k : Nat) (a b x : Int32) : Nat → Nat → Int32 := va_up (va_up (va_up (va_up σ 17 (upd (σ 17) k a)) 18 (upd (σ 18) k b)) 19 (upd (σ 19) k x)) 16 (upd (σ 16) 4 (nI (k + 1)))
/-- the names that the first k sightings leave for hull h, as a set -/
def xs_left (F : Nat → Nat → Int32) (s1 s2 s3 : Nat → Int32) (h : Nat) : Nat → Nat
  | 0 => 63
  | k + 1 => if F (xnat s2 k) h = s3 k then xs_left F s1 s2 s3 h k else xclr (xs_left F s1 s2 s3 h k) (xnat s1 k)
theorem xs_left_lt (F : Nat → Nat → Int32) (s1 s2 s3 : Nat → Int32) (h : Nat) : ∀ k, xs_left F s1 s2 s3 h k < 64
  | 0 => by show 63 < 64; decide
  | k + 1 => by
    have ih := xs_left_lt F s1 s2 s3 h k
    unfold xs_left
    split
    · exact ih
    · exact Nat.lt_of_le_of_lt (xclr_le _ _) ih
theorem xFC_row {σ : Nat → Nat → Int32} {w h : Nat} (hw : w < 2) : σ (4 + w) h = xFC σ w h := by
  rcases (show w = 0 ∨ w = 1 by omega) with rfl | rfl <;> rfl

/-! the row by which fees earned together are the greatest -/
def xmx (f : Nat → Nat) : Nat → Nat
  | 0 => 0
  | i + 1 => max (xmx f i) (f i)
theorem xmx_ge {f : Nat → Nat} : ∀ {n i : Nat}, i < n → f i ≤ xmx f n
  | 0, _, h => absurd h (Nat.not_lt_zero _)
  | n + 1, i, h => by
    show f i ≤ max (xmx f n) (f n)
    by_cases e : i = n
    · subst e; exact Nat.le_max_right _ _
    · exact Nat.le_trans (xmx_ge (by omega)) (Nat.le_max_left _ _)
theorem xmx_at {f : Nat → Nat} : ∀ {n : Nat}, (∃ i, i < n ∧ f i = xmx f n) ∨ xmx f n = 0
  | 0 => Or.inr rfl
  | n + 1 => by
    show (∃ i, i < n + 1 ∧ f i = max (xmx f n) (f n)) ∨ max (xmx f n) (f n) = 0
    rcases Nat.le_total (f n) (xmx f n) with h | h
    · rw [Nat.max_eq_left h]
      rcases xmx_at (f := f) (n := n) with ⟨i, h1, h2⟩ | h2
      · exact Or.inl ⟨i, by omega, h2⟩
      · exact Or.inr h2
    · rw [Nat.max_eq_right h]
      exact Or.inl ⟨n, by omega, rfl⟩
theorem xmx_cong {f g : Nat → Nat} : ∀ {n : Nat}, (∀ k, k < n → f k = g k) → xmx f n = xmx g n
  | 0, _ => rfl
  | n + 1, h => by
    show max (xmx f n) (f n) = max (xmx g n) (g n)
    rw [xmx_cong (fun k hk => h k (by omega)), h n (by omega)]
theorem xmx_le {f : Nat → Nat} {b : Nat} : ∀ {n : Nat}, (∀ k, k < n → f k ≤ b) → xmx f n ≤ b
  | 0, _ => Nat.zero_le _
  | n + 1, h => Nat.max_le.mpr ⟨xmx_le (fun k hk => h k (by omega)), h n (by omega)⟩
def xbv (E : Nat → Nat → Nat) : Nat → Nat → Nat
  | 0, _ => 0
  | r + 1, z => xmx (fun n => if z.testBit n = true then 0 else E (5 - r) n + xbv E r (z ||| 2 ^ n)) 6
def xbm (E : Nat → Nat → Nat) (z : Nat) : Nat := xbv E (6 - xpc z) z
theorem xbm_step (E : Nat → Nat → Nat) {z : Nat} (hz : z < 64) (h : xpc z < 6) : xbm E z = xmx (fun n => if z.testBit n = true then 0 else E (xpc z) n + xbm E (z ||| 2 ^ n)) 6 := by
  have e : 6 - xpc z = (5 - xpc z) + 1 := by omega
  unfold xbm
  rw [e]
  show xmx _ 6 = _
  refine xmx_cong (fun n hn => ?_)
  have e2 : 5 - (5 - xpc z) = xpc z := by omega
  rw [e2]
  by_cases q : z.testBit n = true
  · rw [if_pos q, if_pos q]
  · rw [if_neg q, if_neg q, (xpc_or hz hn (by simpa using q)).1]
    congr 2
    omega
theorem xbv_le {E : Nat → Nat → Nat} (hE : ∀ h, h < 6 → ∀ n, n < 6 → E h n ≤ 9) : ∀ r z, xbv E r z ≤ 9 * r
  | 0, _ => Nat.le_refl _
  | r + 1, z => by
    show xmx _ 6 ≤ _
    refine xmx_le (fun n hn => ?_)
    try dsimp only
    split
    · exact Nat.zero_le _
    · have h1 := xbv_le hE r (z ||| 2 ^ n)
      have h2 := hE (5 - r) (by omega) n hn
      omega
theorem xbm_le {E : Nat → Nat → Nat} (hE : ∀ h, h < 6 → ∀ n, n < 6 → E h n ≤ 9) (z : Nat) : xbm E z ≤ 54 := by
  have h1 := xbv_le hE (6 - xpc z) z
  unfold xbm
  omega
def xbl (E : Nat → Nat → Nat) (t h : Nat) : Nat := xfst (fun n => t.testBit n = false ∧ E h n + xbm E (t ||| 2 ^ n) = xbm E t) 6
def xbt (E : Nat → Nat → Nat) : Nat → Nat
  | 0 => 0
  | i + 1 => xbt E i ||| 2 ^ (xbl E (xbt E i) i)
def xbd (E : Nat → Nat → Nat) : Nat → Int32
  | 0 => -1
  | i + 1 => nI (xbl E (xbt E i) i)
theorem xfree_ : ∀ z : Fin 64, xpc z.val < 6 → xfst (fun n => z.val.testBit n = false) 6 < 6 := by decide +kernel
theorem xfree {z : Nat} (hz : z < 64) (h : xpc z < 6) : ∃ n, n < 6 ∧ z.testBit n = false := by
  have := xfree_ ⟨z, hz⟩ h
  rcases xfst_or (P := fun n => z.testBit n = false) 6 with ⟨p, h1, h2, h3⟩ | h2
  · exact ⟨p, h1, h2⟩
  · rw [xfst_no h2] at this
    omega
theorem xbl_ex (E : Nat → Nat → Nat) {z : Nat} (hz : z < 64) (h : xpc z < 6) : ∃ n, n < 6 ∧ (z.testBit n = false ∧ E (xpc z) n + xbm E (z ||| 2 ^ n) = xbm E z) := by
  rw [xbm_step E hz h]
  rcases xmx_at (f := fun n => if z.testBit n = true then 0 else E (xpc z) n + xbm E (z ||| 2 ^ n)) (n := 6) with ⟨i, h1, h2⟩ | h2
  · by_cases q : z.testBit i = true
    · try dsimp only at h2
      rw [if_pos q] at h2
      obtain ⟨n, hn, hf⟩ := xfree hz h
      have h3 := xmx_ge (f := fun n => if z.testBit n = true then 0 else E (xpc z) n + xbm E (z ||| 2 ^ n)) hn
      try dsimp only at h3
      rw [if_neg (by rw [hf]; decide)] at h3
      exact ⟨n, hn, hf, by omega⟩
    · try dsimp only at h2
      rw [if_neg q] at h2
      exact ⟨i, h1, by simpa using q, h2⟩
  · obtain ⟨n, hn, hf⟩ := xfree hz h
    have h3 := xmx_ge (f := fun n => if z.testBit n = true then 0 else E (xpc z) n + xbm E (z ||| 2 ^ n)) hn
    try dsimp only at h3
    rw [if_neg (by rw [hf]; decide)] at h3
    exact ⟨n, hn, hf, by omega⟩
theorem xbl_spec (E : Nat → Nat → Nat) {z : Nat} (hz : z < 64) (h : xpc z < 6) : xbl E z (xpc z) < 6 ∧ z.testBit (xbl E z (xpc z)) = false ∧ E (xpc z) (xbl E z (xpc z)) + xbm E (z ||| 2 ^ xbl E z (xpc z)) = xbm E z := by
  obtain ⟨n, hn, hq⟩ := xbl_ex E hz h
  unfold xbl
  rcases xfst_or (P := fun n => z.testBit n = false ∧ E (xpc z) n + xbm E (z ||| 2 ^ n) = xbm E z) 6 with ⟨p, h1, h2, h3⟩ | h2
  · rw [xfst_at h3 h2 h1]
    exact ⟨h1, h2⟩
  · exact absurd hq (h2 n hn)
theorem xbt_inv (E : Nat → Nat → Nat) : ∀ {i : Nat}, i ≤ 6 → xbt E i < 64 ∧ xpc (xbt E i) = i
  | 0, _ => ⟨show 0 < 64 by decide, show xpc 0 = 0 by decide⟩
  | i + 1, h => by
    obtain ⟨h1, h2⟩ := xbt_inv E (i := i) (by omega)
    have hs := xbl_spec E h1 (by omega)
    rw [h2] at hs
    refine ⟨xor64 h1 hs.1, ?_⟩
    show xpc (xbt E i ||| 2 ^ xbl E (xbt E i) i) = i + 1
    rw [(xpc_or h1 hs.1 hs.2.1).1, h2]
theorem xmaxI {a b : Nat} (ha : a < 2 ^ 31) (hb : b < 2 ^ 31) : (if nI a < nI b then nI b else nI a) = nI (max a b) := by
  by_cases q : a < b
  · rw [if_pos (nI_lt q hb), Nat.max_eq_right (by omega)]
  · rw [if_neg (by rw [nI_ltI ha hb]; exact q), Nat.max_eq_left (by omega)]
/-- the grid of earnings, filled up to hull h, name n -/
def xwr (σ : Nat → Nat → Int32) (E : Nat → Nat → Nat) (h n : Nat) : Nat → Nat → Int32 := fun k => if 26 ≤ k ∧ k < 26 + h then fa_fill (fun j => nI (E (k - 26) j)) (σ k) 6 else if k = 26 + h then fa_fill (fun j => nI (E (k - 26) j)) (σ k) n else σ k
theorem xwr_n {σ : Nat → Nat → Int32} {E : Nat → Nat → Nat} {h n k : Nat} (hk : k < 26 ∨ 26 + h < k) : xwr σ E h n k = σ k := by
  unfold xwr
  rw [if_neg (by omega), if_neg (by omega)]
theorem xwr_0 (σ : Nat → Nat → Int32) (E : Nat → Nat → Nat) : xwr σ E 0 0 = σ := by
  funext k
  unfold xwr
  rw [if_neg (by omega)]
  by_cases q : k = 26 + 0
  · rw [if_pos q, fa_fill_0]
  · rw [if_neg q]
theorem xwr_next (σ : Nat → Nat → Int32) (E : Nat → Nat → Nat) (h : Nat) : xwr σ E h 6 = xwr σ E (h + 1) 0 := by
  funext k
  unfold xwr
  by_cases q : 26 ≤ k ∧ k < 26 + h
  · rw [if_pos q, if_pos ⟨q.1, by omega⟩]
  · rw [if_neg q]
    by_cases q2 : k = 26 + h
    · rw [if_pos q2, if_pos ⟨by omega, by omega⟩]
    · rw [if_neg q2, if_neg (by omega)]
      by_cases q3 : k = 26 + (h + 1)
      · rw [if_pos q3, fa_fill_0]
      · rw [if_neg q3]
theorem xwr_at (σ : Nat → Nat → Int32) (E : Nat → Nat → Nat) (h n : Nat) : xwr σ E h n (26 + h) = fa_fill (fun j => nI (E h j)) (σ (26 + h)) n := by
  unfold xwr
  rw [if_neg (by omega), if_pos rfl, Nat.add_sub_cancel_left]
theorem xwr_up (σ : Nat → Nat → Int32) (E : Nat → Nat → Nat) (h n : Nat) : xwr σ E h (n + 1) = va_up (xwr σ E h n) (26 + h) (upd (xwr σ E h n (26 + h)) n (nI (E h n))) := by
  funext k
  by_cases q : k = 26 + h
  · subst q
    rw [xup_s, xwr_at, xwr_at, ← fa_fill_succ]
  · rw [xup_n _ _ q]
    unfold xwr
    by_cases q2 : 26 ≤ k ∧ k < 26 + h
    · rw [if_pos q2, if_pos q2]
    · rw [if_neg q2, if_neg q2, if_neg q, if_neg q]
theorem xwr_row {σ : Nat → Nat → Int32} {E : Nat → Nat → Nat} {h n : Nat} (hh : h < 6) (hn : n < 6) : xwr σ E 6 0 (26 + h) n = nI (E h n) := by
  unfold xwr
  rw [if_pos ⟨by omega, by omega⟩, fa_fill_in hn, Nat.add_sub_cancel_left]
def xst_w (σ : Nat → Nat → Int32) (E : Nat → Nat → Nat) : Nat → Nat → Int32 := va_up (xwr σ E 6 0) 32 (xfd (fun k => nI (xbm E k)) (σ 32) 0 64)
theorem xFC_w {σ : Nat → Nat → Int32} {E : Nat → Nat → Nat} {h n : Nat} : xFC (xwr σ E h n) = xFC σ := by
  funext k
  unfold xFC
  split <;> exact xwr_n (Or.inl (by decide))

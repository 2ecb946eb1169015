/-! the k-th of the 720 rows, as the reference lays it -/
def xl_s : Nat → Nat
  | 0 => 120
  | h + 1 => if h < 4 then xl_s h / (5 - h) else 1
def xl_l (k : Nat) : Nat → Nat
  | 0 => k
  | h + 1 => xl_l k h % xl_s h
def xl_u (k : Nat) : Nat → Nat
  | 0 => 0
  | h + 1 => xl_u k h ||| 2 ^ (xna (63 ^^^ xl_u k h) (xl_l k h / xl_s h))
def xl_r (k h : Nat) : Nat := xna (63 ^^^ xl_u k h) (xl_l k h / xl_s h)
theorem xl_s_ : ∀ h : Fin 6, 0 < xl_s h.val ∧ xl_s h.val ≤ 120 ∧ (h.val < 5 → xl_s h.val = xl_s (h.val + 1) * (5 - h.val)) := by decide +kernel
theorem xl_sp {h : Nat} (hh : h < 6) : 0 < xl_s h ∧ xl_s h ≤ 120 := ⟨(xl_s_ ⟨h, hh⟩).1, (xl_s_ ⟨h, hh⟩).2.1⟩
theorem xl_lt {k : Nat} (hk : k < 720) : ∀ {h : Nat}, h < 6 → xl_l k h < xl_s h * (6 - h)
  | 0, _ => by show k < 120 * 6; omega
  | h + 1, hh => by
    have hs := (xl_s_ ⟨h, by omega⟩).2.2 (by show h < 5; omega)
    have hm : xl_l k h % xl_s h < xl_s h := Nat.mod_lt _ (xl_sp (by omega)).1
    have hs2 : xl_s h = xl_s (h + 1) * (5 - h) := hs
    show xl_l k h % xl_s h < xl_s (h + 1) * (6 - (h + 1))
    rw [show 6 - (h + 1) = 5 - h by omega, ← hs2]
    exact hm
theorem xl_skip {k h : Nat} (hk : k < 720) (hh : h < 6) : xl_l k h / xl_s h < 6 - h := by
  have h1 := xl_lt hk hh
  rw [Nat.mul_comm] at h1
  exact (Nat.div_lt_iff_lt_mul (xl_sp hh).1).mpr h1
theorem x63x_ : ∀ u : Fin 64, 63 ^^^ u.val < 64 ∧ ∀ n : Fin 6, Nat.testBit (63 ^^^ u.val) n.val = !u.val.testBit n.val := by decide +kernel
theorem x63_lt {u : Nat} (hu : u < 64) : 63 ^^^ u < 64 := (x63x_ ⟨u, hu⟩).1
theorem x63_bit {u n : Nat} (hu : u < 64) (hn : n < 6) : (63 ^^^ u).testBit n = !u.testBit n := (x63x_ ⟨u, hu⟩).2 ⟨n, hn⟩
theorem x63_or_ : ∀ u : Fin 64, ∀ n : Fin 6, u.val.testBit n.val = false → 63 ^^^ (u.val ||| 2 ^ n.val) = xclr (63 ^^^ u.val) n.val := by decide +kernel
theorem x63_or {u n : Nat} (hu : u < 64) (hn : n < 6) (h : u.testBit n = false) : 63 ^^^ (u ||| 2 ^ n) = xclr (63 ^^^ u) n := x63_or_ ⟨u, hu⟩ ⟨n, hn⟩ h
/-- taking a free one -/
theorem x_take {u i q : Nat} (hu : u < 64) (hc : xct (63 ^^^ u) 6 = 6 - i) (hq : q < 6 - i) : xna (63 ^^^ u) q < 6 ∧ u.testBit (xna (63 ^^^ u) q) = false ∧ (u ||| 2 ^ xna (63 ^^^ u) q) < 64 ∧ xct (63 ^^^ (u ||| 2 ^ xna (63 ^^^ u) q)) 6 = 6 - (i + 1) := by
  obtain ⟨h1, h2, -⟩ := xna_spec (t := 63 ^^^ u) (p := q) (by omega)
  rw [x63_bit hu h1] at h2
  have h3 : u.testBit (xna (63 ^^^ u) q) = false := by simpa using h2
  refine ⟨h1, h3, xor64 hu h1, ?_⟩
  rw [x63_or hu h1 h3]
  have h4 := xct_clr (x63_lt hu) h1 (by rw [x63_bit hu h1, h3]; rfl)
  omega
theorem xl_inv {k : Nat} (hk : k < 720) : ∀ {h : Nat}, h ≤ 6 → xl_u k h < 64 ∧ xct (63 ^^^ xl_u k h) 6 = 6 - h
  | 0, _ => ⟨show 0 < 64 by decide, show xct (63 ^^^ 0) 6 = 6 by decide⟩
  | h + 1, hh => by
    obtain ⟨h1, h2⟩ := xl_inv hk (h := h) (by omega)
    obtain ⟨-, -, h3, h4⟩ := x_take h1 h2 (xl_skip hk (show h < 6 by omega))
    exact ⟨h3, h4⟩
theorem xl_r_lt {k h : Nat} (hk : k < 720) (hh : h < 6) : xl_r k h < 6 := (x_take (xl_inv hk (by omega)).1 (xl_inv hk (by omega)).2 (xl_skip hk hh)).1
def xst_lay (σ : Nat → Nat → Int32) (r : Nat → Nat) : Nat → Nat → Int32 := va_up σ 8 (fa_fill (fun h => nI (r h)) (σ 8) 6)
/-! lots by a seed, as the reference draws them: used is what is not left -/
def xmu (seed : Int32) : Nat → Nat
  | 0 => 0
  | i + 1 => xmu seed i ||| 2 ^ (xlt_d seed i)
theorem xmu_inv (seed : Int32) : ∀ {i : Nat}, i ≤ 6 → xmu seed i < 64 ∧ 63 ^^^ xmu seed i = xlt_l seed i
  | 0, _ => ⟨show 0 < 64 by decide, show 63 ^^^ 0 = 63 by decide⟩
  | i + 1, h => by
    obtain ⟨h1, h2⟩ := xmu_inv seed (i := i) (by omega)
    obtain ⟨s1, s2, -⟩ := xlt_d_spec seed (show i < 6 by omega)
    have s3 : (xmu seed i).testBit (xlt_d seed i) = false := by
      rw [← h2, x63_bit h1 s1] at s2
      simpa using s2
    refine ⟨xor64 h1 s1, ?_⟩
    show 63 ^^^ (xmu seed i ||| 2 ^ xlt_d seed i) = xclr (xlt_l seed i) (xlt_d seed i)
    rw [x63_or h1 s1 s3, h2]
theorem xMs_8 {σ : Nat → Nat → Int32} {f : Nat → Int32} : xMs σ (va_up σ 8 f) := ⟨fun k _ _ h8 _ => xup_n _ _ h8, fun j _ => by rw [xup_n _ _ (by decide)]⟩
theorem xct_0 (t : Nat) : xct t 0 = 0 := rfl

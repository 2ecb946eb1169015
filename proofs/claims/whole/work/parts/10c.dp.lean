/-! rows of names, by the set of names taken -/
abbrev xok (A : Nat → Nat) (h n t : Nat) : Prop := (A h).testBit n = true ∧ t.testBit n = false
def xo (A : Nat → Nat) : Nat → Nat → Nat
  | 0, _ => 1
  | r + 1, z => fb_sm (fun n => if xok A (5 - r) n z then xo A r (z ||| 2 ^ n) else 0) 6
def xon (A : Nat → Nat) (z : Nat) : Nat := xo A (6 - xpc z) z
def xtf (A : Nat → Nat) : Nat → Nat → Nat
  | 0, _ => 1
  | r + 1, z => fb_sm (fun n => if z.testBit n = true ∧ xok A r n (xclr z n) then xtf A r (xclr z n) else 0) 6
def xto (A : Nat → Nat) (z : Nat) : Nat := xtf A (xpc z) z
theorem xpc_or_ : ∀ z : Fin 64, ∀ n : Fin 6, z.val.testBit n.val = false → xpc (z.val ||| 2 ^ n.val) = xpc z.val + 1 ∧ z.val < (z.val ||| 2 ^ n.val) := by decide +kernel
theorem xpc_or {z n : Nat} (hz : z < 64) (hn : n < 6) (h : z.testBit n = false) : xpc (z ||| 2 ^ n) = xpc z + 1 ∧ z < (z ||| 2 ^ n) := xpc_or_ ⟨z, hz⟩ ⟨n, hn⟩ h
theorem xpc_clr_ : ∀ z : Fin 64, ∀ n : Fin 6, z.val.testBit n.val = true → xpc (xclr z.val n.val) + 1 = xpc z.val ∧ (xclr z.val n.val).testBit n.val = false ∧ (xclr z.val n.val) ||| 2 ^ n.val = z.val := by decide +kernel
theorem xpc_clr {z n : Nat} (hz : z < 64) (hn : n < 6) (h : z.testBit n = true) : xpc (xclr z n) + 1 = xpc z ∧ (xclr z n).testBit n = false ∧ (xclr z n) ||| 2 ^ n = z := xpc_clr_ ⟨z, hz⟩ ⟨n, hn⟩ h
theorem xpc_pos_ : ∀ z : Fin 64, 0 < z.val → 0 < xpc z.val := by decide +kernel
theorem xpc_pos {z : Nat} (hz : z < 64) (h : 0 < z) : 0 < xpc z := xpc_pos_ ⟨z, hz⟩ h
theorem xpc_lt_ : ∀ z : Fin 64, z.val < 63 → xpc z.val < 6 := by decide +kernel
theorem xpc_lt {z : Nat} (h : z < 63) : xpc z < 6 := xpc_lt_ ⟨z, by omega⟩ h
theorem xor64 {z n : Nat} (hz : z < 64) (hn : n < 6) : z ||| 2 ^ n < 64 := xor_lt hz (xpw_lt hn)
theorem xon_step (A : Nat → Nat) {z : Nat} (hz : z < 64) (h : xpc z < 6) : xon A z = fb_sm (fun n => if xok A (xpc z) n z then xon A (z ||| 2 ^ n) else 0) 6 := by
  have e : 6 - xpc z = (5 - xpc z) + 1 := by omega
  unfold xon
  rw [e]
  show fb_sm _ 6 = _
  refine fb_sm_cong (fun n hn => ?_)
  have e2 : 5 - (5 - xpc z) = xpc z := by omega
  rw [e2]
  by_cases q : xok A (xpc z) n z
  · rw [if_pos q, if_pos q, (xpc_or hz hn q.2).1]
    congr 1
    omega
  · rw [if_neg q, if_neg q]
theorem xto_step (A : Nat → Nat) {z : Nat} (hz : z < 64) (h : 0 < z) : xto A z = fb_sm (fun n => if z.testBit n = true ∧ xok A (xpc z - 1) n (xclr z n) then xto A (xclr z n) else 0) 6 := by
  have hp := xpc_pos hz h
  have e : xpc z = (xpc z - 1) + 1 := by omega
  unfold xto
  rw [e]
  show fb_sm _ 6 = _
  refine fb_sm_cong (fun n hn => ?_)
  by_cases q : z.testBit n = true ∧ xok A (xpc z - 1) n (xclr z n)
  · have e3 : xpc (xclr z n) = xpc z - 1 := by have := (xpc_clr hz hn q.1).1; omega
    have e4 : xpc z - 1 + 1 - 1 = xpc z - 1 := by omega
    rw [e4, if_pos q, if_pos q, e3]
  · have e4 : xpc z - 1 + 1 - 1 = xpc z - 1 := by omega
    rw [e4, if_neg q, if_neg q]
theorem xo_le (A : Nat → Nat) : ∀ r z, xo A r z ≤ 6 ^ r
  | 0, _ => Nat.le_refl _
  | r + 1, z => by
    have h : xo A (r + 1) z ≤ 6 * 6 ^ r := by
      show fb_sm _ 6 ≤ _
      refine fb_sm_bound (fun n hn => ?_)
      split
      · exact xo_le A r _
      · exact Nat.zero_le _
    rw [Nat.pow_succ, Nat.mul_comm]
    exact h
theorem xon_lt (A : Nat → Nat) (z : Nat) : xon A z < 50000 := by
  have h1 := xo_le A (6 - xpc z) z
  have h2 : 6 ^ (6 - xpc z) ≤ 6 ^ 6 := Nat.pow_le_pow_right (by omega) (by omega)
  have h3 : (6 : Nat) ^ 6 = 46656 := by decide
  unfold xon
  omega
def xrw (A : Nat → Nat) (h n : Nat) : Nat := fb_sm (fun z => if xpc z = h ∧ xok A h n z then xto A z * xon A (z ||| 2 ^ n) else 0) 64
/-- the least name with which it goes on (6: none); the names that the first rows take -/
def xgl (A : Nat → Nat) (t h : Nat) : Nat := xfst (fun n => xok A h n t ∧ 0 < xon A (t ||| 2 ^ n)) 6
def xgt (A : Nat → Nat) : Nat → Nat
  | 0 => 0
  | i + 1 => xgt A i ||| 2 ^ (xgl A (xgt A i) i)
def xgd (A : Nat → Nat) : Nat → Int32
  | 0 => -1
  | i + 1 => nI (xgl A (xgt A i) i)
def xfr (A : Nat → Nat) (h : Nat) : Int32 := if 0 < xon A 0 then nI (xgl A (xgt A h) h) else -1
theorem xgl_spec {A : Nat → Nat} {t h : Nat} (q : xgl A t h < 6) : xok A h (xgl A t h) t ∧ 0 < xon A (t ||| 2 ^ xgl A t h) := by
  unfold xgl at q ⊢
  rcases xfst_or (P := fun n => xok A h n t ∧ 0 < xon A (t ||| 2 ^ n)) 6 with ⟨p, h1, h2, h3⟩ | h2
  · rw [xfst_at h3 h2 h1]
    exact h2
  · rw [xfst_no h2] at q
    omega
theorem xgl_none {A : Nat → Nat} {t h : Nat} (q : ¬ xgl A t h < 6) : ∀ n, n < 6 → ¬ (xok A h n t ∧ 0 < xon A (t ||| 2 ^ n)) := by
  unfold xgl at q
  rcases xfst_or (P := fun n => xok A h n t ∧ 0 < xon A (t ||| 2 ^ n)) 6 with ⟨p, h1, h2, h3⟩ | h2
  · rw [xfst_at h3 h2 h1] at q
    omega
  · exact h2
theorem xg_inv {A : Nat → Nat} {i : Nat} : (∀ j, j < i → xgl A (xgt A j) j < 6) → i ≤ 6 → xgt A i < 64 ∧ xpc (xgt A i) = i := by
  induction i with
  | zero => intro _ _; exact ⟨show 0 < 64 by decide, show xpc 0 = 0 by decide⟩
  | succ i ih =>
    intro h h6
    obtain ⟨h1, h2⟩ := ih (fun j hj => h j (by omega)) (by omega)
    have hg := h i (by omega)
    have hs := xgl_spec hg
    refine ⟨xor64 h1 hg, ?_⟩
    show xpc (xgt A i ||| 2 ^ xgl A (xgt A i) i) = i + 1
    rw [(xpc_or h1 hg hs.1.2).1, h2]
theorem xg_fail {A : Nat → Nat} {i : Nat} (h : ∀ j, j < i → xgl A (xgt A j) j < 6) (hi : i < 6) (q : ¬ xgl A (xgt A i) i < 6) : ¬ 0 < xon A 0 := by
  obtain ⟨h1, h2⟩ := xg_inv h (by omega)
  have hz : xon A (xgt A i) = 0 := by
    rw [xon_step A h1 (by omega), h2]
    have e : fb_sm (fun n => if xok A i n (xgt A i) then xon A (xgt A i ||| 2 ^ n) else 0) 6 = fb_sm (fun _ => 0) 6 := by
      refine fb_sm_cong (fun n hn => ?_)
      have := xgl_none q n hn
      by_cases c : xok A i n (xgt A i)
      · rw [if_pos c]
        have : ¬ 0 < xon A (xgt A i ||| 2 ^ n) := fun w => this ⟨c, w⟩
        omega
      · rw [if_neg c]
    rw [e, fb_sm_const]
  cases i with
  | zero => intro w; rw [show xgt A 0 = 0 from rfl] at hz; omega
  | succ i =>
    have := (xgl_spec (h i (by omega))).2
    rw [show xgt A i ||| 2 ^ xgl A (xgt A i) i = xgt A (i + 1) from rfl] at this
    omega
theorem xg_ok {A : Nat → Nat} (h : xgl A 0 0 < 6) : 0 < xon A 0 := by
  have hs := xgl_spec h
  rw [xon_step A (by decide) (by decide)]
  have hp := fb_sm_part (fun n => if xok A (xpc 0) n 0 then xon A (0 ||| 2 ^ n) else 0) h
  rw [if_pos (show xok A (xpc 0) (xgl A 0 0) 0 from hs.1)] at hp
  have := hs.2
  omega
/-- filled from above -/
def xfd {α : Type} (f g : Nat → α) (i n : Nat) : Nat → α := fun k => if i ≤ k ∧ k < n then f k else g k
theorem xfd_in {α : Type} {f g : Nat → α} {i n k : Nat} (h1 : i ≤ k) (h2 : k < n) : xfd f g i n k = f k := if_pos ⟨h1, h2⟩
theorem xfd_succ (f g : Nat → Int32) {i n : Nat} (h : i < n) : upd (xfd f g (i + 1) n) i (f i) = xfd f g i n := by
  funext k
  unfold upd xfd
  by_cases e : k = i
  · subst e
    rw [if_pos rfl, if_pos ⟨Nat.le_refl _, h⟩]
  · rw [if_neg e]
    by_cases q : i ≤ k ∧ k < n
    · rw [if_pos q, if_pos ⟨by omega, q.2⟩]
    · rw [if_neg q, if_neg (fun w => q ⟨by omega, w.2⟩)]
theorem xfd_0 {α : Type} (f g : Nat → α) (n : Nat) : xfd f g n n = g := by
  funext k
  unfold xfd
  rw [if_neg (by omega)]
def xst_cw (σ : Nat → Nat → Int32) (A : Nat → Nat) : Nat → Nat → Int32 := va_up (va_up σ 22 (fa_fill (fun k => nI (xto A k)) (σ 22) 64)) 23 (xfd (fun k => nI (xon A k)) (σ 23) 0 64)
theorem nI_m1_lt {i : Nat} (h : ¬ nI i - nI 1 < 0) : 0 < i := by
  rcases Nat.eq_zero_or_pos i with q | q
  · subst q; exact absurd (by decide) h
  · exact q

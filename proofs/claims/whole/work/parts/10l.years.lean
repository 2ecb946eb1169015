/-! years in the reference -/
theorem xBk_of {σ τ : Nat → Nat → Int32} (h : xMs σ τ) (hb : xBk τ) : τ 0 7 = nI (xYM σ) ∧ ∀ y, y < xYM σ → ∀ h, h < 6 → τ 7 (6 * y + h) = nI (xnm (σ 6) y h) := by
  obtain ⟨h1, h2⟩ := hb
  rw [xMs_Y h] at h1 h2
  rw [xMs_k (k := 6) h (by decide)] at h2
  exact ⟨h1, h2⟩
/-- in a year each name once -/
def xPm (T : Nat → Int32) (Y : Nat) : Prop := ∀ y, y < Y → ∀ a, a < 6 → ∀ b, b < 6 → xnm T y a = xnm T y b → a = b
theorem xt_Pm {T : Nat → Int32} {L : Nat} (hL : L ≤ 90) : xPm T (xt_years T L) := by
  have hv := xt_valid (T := T) hL
  unfold xt_years at hv ⊢
  by_cases h : xt_fault T L = -1
  · rw [if_pos h] at hv ⊢
    obtain ⟨h1, h2⟩ := xt_ok h (by omega)
    intro y hy
    have hset : ∀ b, b ≤ 6 → ∃ z, z < 64 ∧ xt_b T (y * 7 + b) = nI z ∧ ∀ a, a < b → z.testBit (xnm T y a) = true := by
      intro b
      induction b with
      | zero => exact fun _ => ⟨0, by decide, xt_b0 T y, fun a ha => absurd ha (Nat.not_lt_zero a)⟩
      | succ b ih =>
        intro hb
        obtain ⟨z, hz, e, hs⟩ := ih (by omega)
        have hn := hv y hy b (by omega)
        refine ⟨z ||| 2 ^ xnm T y b, xor64 hz hn.1, ?_, fun a ha => ?_⟩
        · rw [show y * 7 + (b + 1) = (y * 7 + b) + 1 by omega, ← xor_I (by have := hn.1; omega), ← e, ← hn.2]
          exact if_neg (by omega)
        · rw [Nat.testBit_or, Nat.testBit_two_pow]
          by_cases q : a = b
          · subst q; simp
          · rw [hs a (by omega)]; simp
    have key : ∀ a b, a < b → b < 6 → ¬ xnm T y a = xnm T y b := by
      intro a b hab hb e
      have hb2 := h1 (y * 7 + b) (by omega)
      apply hb2
      refine Or.inr (Or.inr ⟨by omega, Or.inr ?_⟩)
      obtain ⟨z, hz, ez, hs⟩ := hset b (by omega)
      rw [(hv y hy b hb).2, ← e, ez, xis_I hz (hv y hy a (by omega)).1]
      exact hs a hab
    intro a ha b hb e
    rcases Nat.lt_trichotomy a b with q | q | q
    · exact absurd e (key a b q hb)
    · exact q
    · exact absurd e.symm (key b a q ha)
  · rw [if_neg h]
    intro y hy
    omega
theorem xIM_P {σ : Nat → Nat → Int32} (h : xIM σ) : xPm (σ 6) (xYM σ) := xt_Pm h.1.2
theorem xbear_spec {T : Nat → Int32} {Y y n : Nat} (hY : xY T Y) (hP : xPm T Y) (hy : y < Y) (hn : n < 6) : xnm T y (xbear T y n) = n := by
  obtain ⟨i, hi, e⟩ := fb_onto (n := 6) (f := xnm T y) (fun i hi => (hY y hy i hi).1) (fun i j hij hj e => by have := hP y hy i (by omega) j hj e; omega) hn
  unfold xbear
  rcases xfst_or (P := fun h => xnm T y h = n) 5 with ⟨p, h1, h2, h3⟩ | h2
  · rw [xfst_at h3 h2 h1]; exact h2
  · rw [xfst_no h2]
    by_cases q : i < 5
    · exact absurd e (h2 i q)
    · have : i = 5 := by omega
      subst this; exact e
def xs_dm (F : Nat → Nat → Int32) (T : Nat → Int32) (n : Nat) (v : Int32) (k : Nat) : Int32 := xsum (fun y => xsum (fun h => if xnm T y h = n ∧ ¬ xs_fit F h n then v else 0) 6) k
theorem xsum_cong {f g : Nat → Int32} : ∀ {n : Nat}, (∀ k, k < n → f k = g k) → xsum f n = xsum g n
  | 0, _ => rfl
  | n + 1, h => by rw [xsum_s, xsum_s, xsum_cong (fun k hk => h k (by omega)), h n (by omega)]
theorem xsum_0 : ∀ n, xsum (fun _ => 0) n = 0
  | 0 => rfl
  | n + 1 => by rw [xsum_s, xsum_0 n]; rfl
theorem xsum_one {f : Nat → Int32} {b : Nat} : ∀ {n : Nat}, b < n → (∀ k, k < n → k ≠ b → f k = 0) → xsum f n = f b
  | 0, h, _ => absurd h (Nat.not_lt_zero b)
  | n + 1, h, hz => by
    rw [xsum_s]
    by_cases q : b = n
    · subst q
      rw [xsum_cong (g := fun _ => 0) (fun k hk => hz k (by omega) (by omega)), xsum_0]
      simp
    · rw [xsum_one (by omega) (fun k hk hne => hz k (by omega) hne), hz n (by omega) (fun e => q e.symm), xi0]
theorem xsum_mul (c : Int32) (f : Nat → Int32) : ∀ n, xsum (fun k => c * f k) n = c * xsum f n
  | 0 => by show (0 : Int32) = c * 0; simp
  | n + 1 => by rw [xsum_s, xsum_s, xsum_mul c f n, Int32.mul_add]
theorem xs_dm_eq {F : Nat → Nat → Int32} {T : Nat → Int32} {Y n k : Nat} (v : Int32) (hY : xY T Y) (hP : xPm T Y) (hn : n < 6) (hk : k ≤ Y) : xs_dm F T n v k = v * xs_shame F T n k := by
  unfold xs_dm xs_shame
  rw [← xsum_mul]
  refine xsum_cong (fun y hy => ?_)
  have hb := xbear_spec hY hP (show y < Y by omega) hn
  rw [xsum_one (b := xbear T y n) (xbear_lt T y n) (fun j hj hne => if_neg (fun q => hne (hP y (by omega) j hj _ (xbear_lt T y n) (q.1.trans hb.symm))))]
  by_cases q : xs_fit F (xbear T y n) n
  · rw [if_neg (fun w => w.2 q), if_pos q]; simp
  · rw [if_pos ⟨hb, q⟩, if_neg q]; simp
theorem xs_as_self {T : Nat → Int32} {Y a : Nat} : xs_as T Y a a = if xfst (fun y => xnm T y a = a) Y < Y then nI (xfst (fun y => xnm T y a = a) Y) else -1 := by
  unfold xs_as
  have e : (fun y => xnm T y a = a ∧ xnm T y a = a) = (fun y => xnm T y a = a) := by
    funext y
    exact propext ⟨fun q => q.1, fun q => ⟨q, q⟩⟩
  congr 1 <;> simp [e]

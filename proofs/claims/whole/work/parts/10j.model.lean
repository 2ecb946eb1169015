/-! the reference's state -/
theorem xb_iff {P Q : Prop} [Decidable P] [Decidable Q] (h : P ↔ Q) : xb P = xb Q := by
  unfold xb
  by_cases q : P
  · rw [if_pos q, if_pos (h.mp q)]
  · rw [if_neg q, if_neg (fun w => q (h.mpr w))]
theorem xin_le {x : Int32} (n : Nat) (hn : n + 1 < 2 ^ 31) : (nI 0 ≤ x ∧ x ≤ nI n) ↔ xin x (n + 1) := by
  constructor
  · rintro ⟨h1, h2⟩
    obtain ⟨j, hj, rfl⟩ := nI_of (x := x) (xnlt h1)
    have := (nI_leI hj (by omega)).mp h2
    exact xin_nI (by omega) hn
  · intro h
    obtain ⟨j, hj, rfl⟩ := xin_of h hn
    exact ⟨nI_pos' (by omega), nI_le (by omega) (by omega)⟩
theorem xin_sub {x : Int32} {n : Nat} (hn : n < 2 ^ 31) : (nI 0 ≤ x ∧ x ≤ nI n - nI 1) ↔ xin x n := by
  rcases Nat.eq_zero_or_pos n with q | q
  · subst q
    constructor
    · rintro ⟨h1, h2⟩
      exact absurd (show (0 : Int32) ≤ nI 0 - nI 1 from Int32.le_trans h1 h2) (by decide)
    · intro h
      obtain ⟨j, hj, -⟩ := xin_of h (by decide)
      omega
  · rw [pk_sub (by omega), xin_le (n - 1) (by omega), Nat.sub_add_cancel (by omega)]
def xLM (σ : Nat → Nat → Int32) : Nat := xnat (σ 0) 6
def xYM (σ : Nat → Nat → Int32) : Nat := xt_years (σ 6) (xLM σ)
def xcM (σ : Nat → Nat → Int32) : Nat := xnat (σ 0) 10
def xsM (σ : Nat → Nat → Int32) : Nat := xnat (σ 0) 14
def xIM (σ : Nat → Nat → Int32) : Prop := (σ 0 6 = nI (xLM σ) ∧ xLM σ ≤ 90) ∧ (σ 0 10 = nI (xcM σ) ∧ xcM σ ≤ 12 ∧ xran (σ 9) (xcM σ) 6 ∧ xran (σ 10) (xcM σ) 12) ∧ (σ 0 14 = nI (xsM σ) ∧ xsM σ ≤ 8 ∧ xran (σ 12) (xsM σ) 6 ∧ xran (σ 13) (xsM σ) 2) ∧ xran (σ 5) 6 10 ∧ ∀ w, w < 4 → (σ 15 w = 0 ∨ σ 15 w = 1) ∧ (xnat (σ 16) w < 3 ∧ σ 16 w = nI (xnat (σ 16) w)) ∧ (xnat (σ 17) w ≤ 48 ∧ σ 17 w = nI (xnat (σ 17) w))
/-- scratch: years, book, row, moved -/
def xMs (σ τ : Nat → Nat → Int32) : Prop := (∀ k, k ≠ 0 → k ≠ 7 → k ≠ 8 → k ≠ 19 → τ k = σ k) ∧ ∀ j, j ≠ 7 → τ 0 j = σ 0 j
def xBk (σ : Nat → Nat → Int32) : Prop := σ 0 7 = nI (xYM σ) ∧ ∀ y, y < xYM σ → ∀ h, h < 6 → σ 7 (6 * y + h) = nI (xnm (σ 6) y h)
theorem xMs_rf (σ : Nat → Nat → Int32) : xMs σ σ := ⟨fun _ _ _ _ _ => rfl, fun _ _ => rfl⟩
theorem xMs_tr {σ τ ρ : Nat → Nat → Int32} (h1 : xMs σ τ) (h2 : xMs τ ρ) : xMs σ ρ := ⟨fun k a b c d => (h2.1 k a b c d).trans (h1.1 k a b c d), fun j hj => (h2.2 j hj).trans (h1.2 j hj)⟩
theorem xMs_F {σ τ : Nat → Nat → Int32} (h : xMs σ τ) : xFM τ = xFM σ := by
  funext j
  unfold xFM
  split <;> exact h.1 _ (by omega) (by omega) (by omega) (by omega)
theorem xMs_k {σ τ : Nat → Nat → Int32} (h : xMs σ τ) {k : Nat} (hk : 0 < k ∧ k ≠ 7 ∧ k ≠ 8 ∧ k ≠ 19) : τ k = σ k := h.1 k (by omega) hk.2.1 hk.2.2.1 hk.2.2.2
theorem xMs_L {σ τ : Nat → Nat → Int32} (h : xMs σ τ) : xLM τ = xLM σ := by unfold xLM xnat; rw [h.2 6 (by decide)]
theorem xMs_Y {σ τ : Nat → Nat → Int32} (h : xMs σ τ) : xYM τ = xYM σ := by unfold xYM; rw [xMs_L h, xMs_k h (by decide)]
theorem xMs_c {σ τ : Nat → Nat → Int32} (h : xMs σ τ) : xcM τ = xcM σ := by unfold xcM xnat; rw [h.2 10 (by decide)]
theorem xMs_s {σ τ : Nat → Nat → Int32} (h : xMs σ τ) : xsM τ = xsM σ := by unfold xsM xnat; rw [h.2 14 (by decide)]
theorem xMs_IM {σ τ : Nat → Nat → Int32} (h : xMs σ τ) (hC : xIM σ) : xIM τ := by
  unfold xIM
  rw [xMs_L h, xMs_c h, xMs_s h, h.2 6 (by decide), h.2 10 (by decide), h.2 14 (by decide), xMs_k (k := 9) h (by decide), xMs_k (k := 10) h (by decide), xMs_k (k := 12) h (by decide), xMs_k (k := 13) h (by decide), xMs_k (k := 5) h (by decide), xMs_k (k := 15) h (by decide), xMs_k (k := 16) h (by decide), xMs_k (k := 17) h (by decide)]
  exact hC
theorem xIM_Y {σ : Nat → Nat → Int32} (h : xIM σ) : xY (σ 6) (xYM σ) := xt_valid h.1.2
theorem xIM_12 {σ : Nat → Nat → Int32} (h : xIM σ) : xYM σ ≤ 12 := xt_Y12 h.1.2
def xst_m1 (σ : Nat → Nat → Int32) (L : Nat) (b : Int32) : Nat → Nat → Int32 := va_up (va_up σ 6 (upd (σ 6) L b)) 0 (upd (σ 0) 6 (nI (L + 1)))
def xst_mtype (σ : Nat → Nat → Int32) (x : Int32) : Nat → Nat → Int32 := if xin x 256 ∧ xLM σ < 90 then xst_m1 σ (xLM σ) x else σ
theorem xt_b0 (T : Nat → Int32) : ∀ n, xt_b T (n * 7) = 0
  | 0 => rfl
  | n + 1 => by
    rw [show (n + 1) * 7 = n * 7 + 6 + 1 by omega]
    exact if_pos (by omega)
theorem xtr2 {x1 x2 : Int32} (h : xin x1 2) : (nI 1 - x1 ≤ x2 ∧ x2 ≤ nI 9) ↔ ((if x1 = 0 then (1 : Int32) else 0) ≤ x2 ∧ x2 ≤ 9) := by
  obtain ⟨j, hj, rfl⟩ := xin_of h (by decide)
  rcases (show j = 0 ∨ j = 1 by omega) with rfl | rfl
  · exact Iff.rfl
  · exact Iff.rfl
/-- the state while the fault is sought -/
def xfs (σ : Nat → Nat → Int32) (Y : Int32) (bk : Nat → Int32) : Nat → Nat → Int32 := va_up (va_up σ 0 (upd (σ 0) 7 Y)) 7 bk
theorem xfs_Ms (σ : Nat → Nat → Int32) (Y : Int32) (bk : Nat → Int32) : xMs σ (xfs σ Y bk) := by
  unfold xfs
  refine ⟨fun k h0 h7 _ _ => ?_, fun j hj => ?_⟩
  · rw [xup_n _ _ h7, xup_n _ _ h0]
  · rw [xup_n _ _ (by decide), xup_s, pk_un hj]
theorem xfs_6 (σ : Nat → Nat → Int32) (Y : Int32) (bk : Nat → Int32) : xfs σ Y bk 6 = σ 6 := by
  unfold xfs
  rw [xup_n _ _ (by decide), xup_n _ _ (by decide)]
theorem xfs_t (σ : Nat → Nat → Int32) (Y : Int32) (bk : Nat → Int32) : xfs σ Y bk 0 6 = σ 0 6 := (xfs_Ms σ Y bk).2 6 (by decide)
theorem xfs_y (σ : Nat → Nat → Int32) (Y : Int32) (bk : Nat → Int32) : xfs σ Y bk 0 7 = Y := by
  unfold xfs
  rw [xup_n _ _ (by decide), xup_s, pk_us]
theorem xfs_b (σ : Nat → Nat → Int32) (Y : Int32) (bk : Nat → Int32) : xfs σ Y bk 7 = bk := by
  unfold xfs
  rw [xup_s]
theorem xfs_Y (σ : Nat → Nat → Int32) (Y : Int32) (bk : Nat → Int32) : xYM (xfs σ Y bk) = xYM σ := xMs_Y (xfs_Ms σ Y bk)
theorem xBk_0 {σ : Nat → Nat → Int32} {bk : Nat → Int32} (h : xYM σ = 0) : xBk (xfs σ (nI 0) bk) := by
  unfold xBk
  rw [xfs_Y, h, xfs_y]
  exact ⟨rfl, fun y hy => by omega⟩
theorem xYM_0 {σ : Nat → Nat → Int32} (h : ¬ xt_fault (σ 6) (xLM σ) = -1) : xYM σ = 0 := by
  unfold xYM xt_years
  rw [if_neg h]
theorem xfs_put (σ : Nat → Nat → Int32) (Y : Int32) (bk : Nat → Int32) (i : Nat) (v : Int32) : xfs σ Y (upd bk i v) = va_up (xfs σ Y bk) 7 (upd (xfs σ Y bk 7) i v) := by
  unfold xfs
  rw [bx_uu, xup_s]
theorem xfs_set (σ : Nat → Nat → Int32) (Y Z : Int32) (bk : Nat → Int32) : xfs σ Z bk = va_up (xfs σ Y bk) 0 (upd (xfs σ Y bk 0) 7 Z) := by
  funext k
  unfold xfs
  by_cases h0 : k = 0
  · subst h0
    rw [xup_n _ _ (by decide), xup_s, xup_s, xup_n _ _ (by decide), xup_s, fa_upd_twice]
  · rw [xup_n (k := 0) _ _ h0]
    by_cases h7 : k = 7
    · subst h7
      rw [xup_s, xup_s]
    · rw [xup_n _ _ h7, xup_n _ _ h7, xup_n _ _ h0, xup_n _ _ h0]
theorem xfs_0 (σ : Nat → Nat → Int32) : va_up σ 0 (upd (σ 0) 7 (nI 0)) = xfs σ (nI 0) (σ 7) := by
  unfold xfs
  rw [show σ 7 = va_up σ 0 (upd (σ 0) 7 (nI 0)) 7 from (xup_n _ _ (by decide)).symm, xup_id]
theorem xgcd_step {p q a b : Nat} (h : Nat.gcd p q = Nat.gcd a b) (hq : 0 < q) : Nat.gcd q (p % q) = Nat.gcd a b := by
  rw [← h, Nat.gcd_comm p q, Nat.gcd_rec q p, Nat.gcd_comm]

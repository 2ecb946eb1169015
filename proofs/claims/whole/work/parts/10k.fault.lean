/-! where the reference finds the fault -/
theorem xf_84 {T : Nat → Int32} {L n : Nat} (hn : n = 12) (hno : ∀ k, k < n * 7 → ¬ xt_bad T k) (hL : n * 7 ≤ L) : xt_fault T L = nI (n * 7) := by
  subst hn
  by_cases q : 12 * 7 < L
  · exact xt_fault_at q hno (Or.inl (by decide))
  · have e : L = 12 * 7 := by omega
    subst e
    rw [xt_fault_no hno, if_neg (by decide)]
theorem xf_end {T : Nat → Int32} {L p : Nat} (hno : ∀ k, k < p → ¬ xt_bad T k) (h1 : L = p) (h0 : 0 < L) (h6 : ¬ p % 7 = 6) : xt_fault T L = nI p := by
  subst h1
  rw [xt_fault_no hno, if_neg (by omega)]
theorem xf_ret {σ : Nat → Nat → Int32} {L p : Nat} {bk : Nat → Int32} (hLe : xLM σ = L) (hp : p < 2 ^ 31) (hf : xt_fault (σ 6) L = nI p) : nI p = xt_fault (σ 6) L ∧ xMs σ (xfs σ (nI 0) bk) ∧ xBk (xfs σ (nI 0) bk) := by
  refine ⟨hf.symm, xfs_Ms _ _ _, xBk_0 (xYM_0 ?_)⟩
  rw [hLe, hf]
  exact nI_m1 hp
theorem xf_ret0 {σ : Nat → Nat → Int32} {L : Nat} {bk : Nat → Int32} (hLe : xLM σ = L) (h0 : L = 0) : (-1) = xt_fault (σ 6) L ∧ xMs σ (xfs σ (nI 0) bk) ∧ xBk (xfs σ (nI 0) bk) := by
  subst h0
  have e : xt_fault (σ 6) 0 = -1 := by rw [xt_fault_no (fun k hk => absurd hk (Nat.not_lt_zero k)), if_pos (Or.inl rfl)]
  refine ⟨e.symm, xfs_Ms _ _ _, xBk_0 ?_⟩
  unfold xYM xt_years
  rw [hLe, if_pos e]
theorem xf_ret1 {σ : Nat → Nat → Int32} {L n : Nat} {bk : Nat → Int32} (hLe : xLM σ = L) (hL : n * 7 + 6 = L) (hL9 : L ≤ 90) (hno : ∀ k, k < n * 7 + 6 → ¬ xt_bad (σ 6) k) (hbk : ∀ y, y < n → ∀ h, h < 6 → bk (6 * y + h) = σ 6 (y * 7 + h) - nI 48) (hb2 : ∀ h, h < 6 → bk (6 * n + h) = σ 6 (n * 7 + h) - nI 48) : (-1) = xt_fault (σ 6) L ∧ xMs σ (xfs σ (nI (n + 1)) bk) ∧ xBk (xfs σ (nI (n + 1)) bk) := by
  subst hL
  have e : xt_fault (σ 6) (n * 7 + 6) = -1 := by rw [xt_fault_no hno, if_pos (Or.inr (by omega))]
  have eY : xYM σ = n + 1 := by
    unfold xYM xt_years
    rw [hLe, if_pos e]
    omega
  refine ⟨e.symm, xfs_Ms _ _ _, ?_, ?_⟩
  · rw [xfs_y, xfs_Y, eY]
  · rw [xfs_Y, xfs_b, xfs_6]
    intro y hy h hh
    have hv := xt_valid (T := σ 6) (L := n * 7 + 6) hL9
    rw [show xt_years (σ 6) (n * 7 + 6) = xYM σ by unfold xYM; rw [hLe]] at hv
    rw [← (hv y hy h hh).2]
    rw [eY] at hy
    by_cases q : y = n
    · subst q; exact hb2 h hh
    · exact hbk y (by omega) h hh

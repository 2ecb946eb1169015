/-! the book as read stays where only the row changes -/
theorem xBk_8 {σ τ : Nat → Nat → Int32} (h : ∀ k, k ≠ 8 → τ k = σ k) (hb : xBk σ) : xBk τ := by
  have e0 := h 0 (by decide)
  have e6 := h 6 (by decide)
  have e7 := h 7 (by decide)
  have eL : xLM τ = xLM σ := by unfold xLM; rw [e0]
  have eY : xYM τ = xYM σ := by unfold xYM; rw [eL, e6]
  unfold xBk
  rw [eY, e0, e6, e7]
  exact hb
theorem xBk_lay {τ : Nat → Nat → Int32} {f : Nat → Nat} (hb : xBk τ) : xBk (xst_lay τ f) := xBk_8 (fun k hk => by unfold xst_lay; exact xup_n _ _ hk) hb

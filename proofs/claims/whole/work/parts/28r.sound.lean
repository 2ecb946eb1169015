/-! sound rows among the 720 -/
abbrev xso (F : Nat → Nat → Int32) (k : Nat) : Prop := xall (fun h => xs_fit F h (xl_r k h)) 6
def xson (F : Nat → Nat → Int32) (i : Nat) : Nat := fb_ct (fun k => decide (xso F k)) i
theorem xson_s (F : Nat → Nat → Int32) (i : Nat) : xson F (i + 1) = xson F i + (if xso F i then 1 else 0) := by
  unfold xson
  rw [fb_ct_succ]
  by_cases q : xso F i
  · rw [decide_eq_true q, if_pos q, if_pos rfl]
  · rw [decide_eq_false q, if_neg q, if_neg (by decide)]
theorem xson_le (F : Nat → Nat → Int32) : ∀ i, xson F i ≤ i
  | 0 => Nat.le_refl 0
  | i + 1 => by
    rw [xson_s]
    have := xson_le F i
    split <;> omega
theorem xMs_lay {σ τ : Nat → Nat → Int32} (h : xMs σ τ) (f : Nat → Nat) : xMs σ (xst_lay τ f) := by
  unfold xst_lay
  refine ⟨fun k a b c d => ?_, fun j hj => ?_⟩
  · rw [xup_n _ _ c]; exact h.1 k a b c d
  · rw [xup_n _ _ (by decide)]; exact h.2 j hj
theorem xlay_8 (τ : Nat → Nat → Int32) (f : Nat → Nat) {h : Nat} (hh : h < 6) : xst_lay τ f 8 h = nI (f h) := by
  unfold xst_lay
  rw [xup_s]
  exact fa_fill_in hh
/-- hull h's name in the first sound row among the first i -/
def xsf (F : Nat → Nat → Int32) (h : Nat) : Nat → Int32
  | 0 => -1
  | i + 1 => if xso F i ∧ xson F i = 0 then nI (xl_r i h) else xsf F h i
def xpm_sound (F : Nat → Nat → Int32) (x : Int32) : Int32 := if x = -1 then nI (xson F 720) else if xin x 6 then xsf F (cN x) 720 else -2

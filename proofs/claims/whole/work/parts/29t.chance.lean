def xsrn (F : Nat → Nat → Int32) (h n i : Nat) : Nat := fb_ct (fun k => decide (xso F k ∧ xl_r k h = n)) i
theorem xsrn_s (F : Nat → Nat → Int32) (h n i : Nat) : xsrn F h n (i + 1) = xsrn F h n i + (if xso F i ∧ xl_r i h = n then 1 else 0) := by
  unfold xsrn
  rw [fb_ct_succ]
  by_cases q : xso F i ∧ xl_r i h = n
  · rw [decide_eq_true q, if_pos q, if_pos rfl]
  · rw [decide_eq_false q, if_neg q, if_neg (by decide)]
theorem xsrn_le (F : Nat → Nat → Int32) (h n : Nat) : ∀ i, xsrn F h n i ≤ i
  | 0 => Nat.le_refl 0
  | i + 1 => by
    rw [xsrn_s]
    have := xsrn_le F h n i
    split <;> omega
def xpm_chance (F : Nat → Nat → Int32) (x0 x1 x2 : Int32) : Int64 := if xin x0 6 ∧ xin x1 6 ∧ xin x2 2 then (if xson F 720 = 0 then xrefuse (-3) else xfrac (xsrn F (cN x0) (cN x1) 720) (xson F 720) x2) else xrefuse (-2)

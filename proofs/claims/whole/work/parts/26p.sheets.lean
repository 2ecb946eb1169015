/-! the reference's sheets: lost, form, size, items -/
def xVM (σ : Nat → Nat → Int32) (w : Nat) (j : Nat) : Int32 := if j = 1 then (if σ 15 w = 0 then nI 1 else nI 0) else if j = 2 then σ 16 w else σ 17 w
def xJM (σ : Nat → Nat → Int32) (w i : Nat) : Int32 := σ 18 (48 * w + i)
theorem xVM_1 {σ : Nat → Nat → Int32} {w : Nat} (h : σ 15 w = 0) : ¬ xVM σ w 1 = 0 := by
  unfold xVM
  rw [if_pos rfl, if_pos h]
  decide
theorem xVM_0 {σ : Nat → Nat → Int32} {w : Nat} (h : ¬ σ 15 w = 0) : xVM σ w 1 = 0 := by
  unfold xVM
  rw [if_pos rfl, if_neg h]
  decide
theorem xVM_2 (σ : Nat → Nat → Int32) (w : Nat) : xVM σ w 2 = σ 16 w := rfl
theorem xVM_3 (σ : Nat → Nat → Int32) (w : Nat) : xVM σ w 3 = σ 17 w := rfl
def xst_keep (σ : Nat → Nat → Int32) (w i f : Nat) (v : Int32) : Nat → Nat → Int32 := va_up σ 18 (upd (σ 18) (48 * w + i) (xs_nar f v))
def xst_mlose (σ : Nat → Nat → Int32) (x : Int32) : Nat → Nat → Int32 := if xin x 4 then (if xVM σ (cN x) 1 = 0 then va_up σ 15 (upd (σ 15) (cN x) (nI 0)) else xst_fm σ (nI 1)) else σ
def xst_mget (σ : Nat → Nat → Int32) (x0 x1 x2 : Int32) : Nat → Nat → Int32 := if xin x0 4 ∧ xin x1 3 then (if xs_find (xVM σ (cN x0)) x1 x2 = 0 then σ else xst_fm σ (xs_find (xVM σ (cN x0)) x1 x2)) else σ
def xst_mput (σ : Nat → Nat → Int32) (x0 x1 x2 x3 : Int32) : Nat → Nat → Int32 := if xin x0 4 ∧ xin x1 3 then (if xs_find (xVM σ (cN x0)) x1 x2 = 0 then xst_keep σ (cN x0) (cN x2) (xnat (xVM σ (cN x0)) 2) x3 else xst_fm σ (xs_find (xVM σ (cN x0)) x1 x2)) else σ
theorem xs_find_pos {v : Nat → Int32} {f i : Int32} : 0 ≤ xs_find v f i := by
  unfold xs_find
  split
  · decide
  · split
    · decide
    · split <;> decide

/-! stretches of the items -/
def xfl (g f : Nat → Int32) (b k : Nat) : Nat → Int32 := fun j => if b ≤ j ∧ j < b + k then f (j - b) else g j
theorem xfl_0 (g f : Nat → Int32) (b : Nat) : xfl g f b 0 = g := by
  funext j
  exact if_neg (by omega)
theorem xfl_s (g f : Nat → Int32) (b k : Nat) : upd (xfl g f b k) (b + k) (f k) = xfl g f b (k + 1) := by
  funext j
  by_cases q : j = b + k
  · subst q
    rw [pk_us]
    unfold xfl
    rw [if_pos (by omega), Nat.add_sub_cancel_left]
  · rw [pk_un q]
    unfold xfl
    by_cases w : b ≤ j ∧ j < b + k
    · rw [if_pos w, if_pos (by omega)]
    · rw [if_neg w, if_neg (by omega)]
theorem xup_e {τ : Nat → Nat → Int32} {k : Nat} {v : Nat → Int32} (h : τ k = v) : va_up τ k v = τ := by
  rw [← h]
  exact xup_id _ _
def xst_mnew (σ : Nat → Nat → Int32) (w : Nat) (f n : Int32) (k : Nat) : Nat → Nat → Int32 := va_up (va_up (va_up (va_up σ 15 (upd (σ 15) w (nI 1))) 16 (upd (σ 16) w f)) 17 (upd (σ 17) w n)) 18 (xfl (σ 18) (fun _ => nI 0) (48 * w) k)
def xst_msheet (σ : Nat → Nat → Int32) (x0 x1 x2 : Int32) : Nat → Nat → Int32 := if xin x0 4 ∧ xin x1 3 ∧ x2 ≤ nI 48 then (if 0 ≤ x2 then xst_mnew σ (cN x0) x1 x2 48 else xst_fm σ (nI 5)) else σ
theorem xMs_up {σ τ : Nat → Nat → Int32} (h : xMs σ τ) {k : Nat} (hk : k ≠ 0) (v : Nat → Int32) : xMs (va_up σ k v) (va_up τ k v) := by
  refine ⟨fun j a b c d => ?_, fun j hj => ?_⟩
  · by_cases q : j = k
    · subst q; rw [xup_s, xup_s]
    · rw [xup_n _ _ q, xup_n _ _ q]; exact h.1 j a b c d
  · rw [xup_n _ _ (Ne.symm hk), xup_n _ _ (Ne.symm hk)]; exact h.2 j hj
theorem xMs_fm {σ τ : Nat → Nat → Int32} (h : xMs σ τ) (v : Int32) : xMs (xst_fm σ v) (xst_fm τ v) := by
  unfold xst_fm
  refine ⟨fun j a b c d => ?_, fun j hj => ?_⟩
  · rw [xup_n _ _ a, xup_n _ _ a]; exact h.1 j a b c d
  · rw [xup_s, xup_s]
    by_cases q : j = 23
    · subst q; rw [pk_us, pk_us]
    · rw [pk_un q, pk_un q]; exact h.2 j hj
def xwf (σ : Nat → Nat → Int32) (y w : Nat) (j : Nat) : Int32 := xs_nar (xnat (σ 16) w) (nI (xnm (σ 6) y j))
def xst_mwrite (σ : Nat → Nat → Int32) (x0 x1 : Int32) : Nat → Nat → Int32 := if xin x0 (xYM σ) ∧ xin x1 4 then (if xVM σ (cN x1) 1 = 0 then va_up σ 18 (xfl (σ 18) (xwf σ (cN x0) (cN x1)) (48 * cN x1) (xmin6 (xnat (xVM σ (cN x1)) 3))) else xst_fm σ (nI 1)) else σ

/-! the reference's claims and sightings -/
theorem xow_eq {σ τ : Nat → Nat → Int32} (h : xMs σ τ) (a b : Nat) : xs_owed (τ 6) (xYM τ) (τ 9) (τ 10) (τ 11) a b (xcM τ) = xs_owed (σ 6) (xYM σ) (σ 9) (σ 10) (σ 11) a b (xcM σ) := by
  rw [xMs_Y h, xMs_c h, xMs_k (k := 6) h (by decide), xMs_k (k := 9) h (by decide), xMs_k (k := 10) h (by decide), xMs_k (k := 11) h (by decide)]
theorem xud {f : Nat → Int32} {j : Nat} {v : Int32} (h : f j = v) : upd f j v = f := by
  funext i
  by_cases q : i = j
  · subst q; rw [pk_us, h]
  · rw [pk_un q]
def xst_fm (σ : Nat → Nat → Int32) (x : Int32) : Nat → Nat → Int32 := va_up σ 0 (upd (σ 0) 23 x)
def xst_mcl (σ : Nat → Nat → Int32) (k : Nat) (a b x : Int32) : Nat → Nat → Int32 := va_up (va_up (va_up (va_up σ 9 (upd (σ 9) k a)) 10 (upd (σ 10) k b)) 11 (upd (σ 11) k x)) 0 (upd (σ 0) 10 (nI (k + 1)))
def xst_msg (σ : Nat → Nat → Int32) (k : Nat) (a b x : Int32) : Nat → Nat → Int32 := va_up (va_up (va_up (va_up σ 12 (upd (σ 12) k a)) 13 (upd (σ 13) k b)) 14 (upd (σ 14) k x)) 0 (upd (σ 0) 14 (nI (k + 1)))
def xst_mclaim (σ : Nat → Nat → Int32) (x0 x1 x2 : Int32) : Nat → Nat → Int32 := if xclok x0 x1 x2 ∧ xcM σ < 12 then xst_mcl σ (xcM σ) x0 x1 x2 else σ
def xst_mseen (σ : Nat → Nat → Int32) (x0 x1 x2 : Int32) : Nat → Nat → Int32 := if xtrok 2 x0 x1 x2 ∧ xsM σ < 8 then xst_msg σ (xsM σ) x0 x1 x2 else σ
def xst_mforget (σ : Nat → Nat → Int32) (x : Int32) : Nat → Nat → Int32 := if xin x 2 then (if x = 0 then va_up σ 0 (upd (σ 0) 10 (nI 0)) else va_up σ 0 (upd (σ 0) 14 (nI 0))) else σ

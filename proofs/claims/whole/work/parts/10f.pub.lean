/-! the public calls, as both answer them -/
theorem xt_ok {T : Nat → Int32} {L : Nat} (h : xt_fault T L = -1) (hL : L < 2 ^ 31) : (∀ k, k < L → ¬ xt_bad T k) ∧ (L = 0 ∨ L % 7 = 6) := by
  rcases xfst_or (P := xt_bad T) L with ⟨p, h1, h2, h3⟩ | h2
  · rw [xt_fault_at h1 h3 h2] at h
    exact absurd h (nI_m1 (by omega))
  · refine ⟨h2, ?_⟩
    rw [xt_fault_no h2] at h
    by_cases q : L = 0 ∨ L % 7 = 6
    · exact q
    · rw [if_neg q] at h
      exact absurd h (nI_m1 hL)
theorem xt_Y12 {T : Nat → Int32} {L : Nat} (hL : L ≤ 90) : xt_years T L ≤ 12 := by
  unfold xt_years
  by_cases h : xt_fault T L = -1
  · rw [if_pos h]
    obtain ⟨h1, h2⟩ := xt_ok h (by omega)
    by_cases q : 84 < L
    · exact absurd (Or.inl (by decide)) (h1 84 q)
    · omega
  · rw [if_neg h]
    omega
theorem xt_valid {T : Nat → Int32} {L : Nat} (hL : L ≤ 90) : xY T (xt_years T L) := by
  unfold xt_years
  by_cases h : xt_fault T L = -1
  · rw [if_pos h]
    obtain ⟨h1, h2⟩ := xt_ok h (by omega)
    intro y hy i hi
    have hp : y * 7 + i < L := by omega
    have hb := h1 _ hp
    have hm : ¬ (y * 7 + i) % 7 = 6 := by omega
    have hx : xin (T (y * 7 + i) - nI 48) 6 := Decidable.byContradiction fun q => hb (Or.inr (Or.inr ⟨hm, Or.inl q⟩))
    obtain ⟨j, hj, e⟩ := xin_of hx (by decide)
    unfold xnm
    rw [e, nI_clamp (by omega)]
    exact ⟨hj, rfl⟩
  · rw [if_neg h]
    intro y hy
    omega
def xLC (σ : Nat → Nat → Int32) : Nat := xnat (σ 9) 1
def xYC (σ : Nat → Nat → Int32) : Nat := xt_years (σ 10) (xLC σ)
def xcC (σ : Nat → Nat → Int32) : Nat := xnat (σ 12) 4
def xsC (σ : Nat → Nat → Int32) : Nat := xnat (σ 16) 4
/-- what holds of the system between calls -/
def xIC (σ : Nat → Nat → Int32) : Prop := (σ 9 1 = nI (xLC σ) ∧ xLC σ ≤ 90) ∧ (σ 9 3 = xt_fault (σ 10) (xLC σ) ∧ σ 9 2 = nI (xYC σ)) ∧ (σ 12 4 = nI (xcC σ) ∧ xcC σ ≤ 12 ∧ xran (σ 13) (xcC σ) 6 ∧ xran (σ 14) (xcC σ) 12) ∧ (σ 16 4 = nI (xsC σ) ∧ xsC σ ≤ 8 ∧ xran (σ 17) (xsC σ) 6 ∧ xran (σ 18) (xsC σ) 2) ∧ xran (σ 8) 6 10 ∧ ∀ w, w < 4 → (σ (34 + 2 * w) 1 = 0 ∨ σ (34 + 2 * w) 1 = 1) ∧ (xnat (σ (34 + 2 * w)) 2 < 3 ∧ σ (34 + 2 * w) 2 = nI (xnat (σ (34 + 2 * w)) 2)) ∧ (xnat (σ (34 + 2 * w)) 3 ≤ 48 ∧ σ (34 + 2 * w) 3 = nI (xnat (σ (34 + 2 * w)) 3))
theorem xIC_Y {σ : Nat → Nat → Int32} (h : xIC σ) : xY (σ 10) (xYC σ) := xt_valid h.1.2
theorem xIC_12 {σ : Nat → Nat → Int32} (h : xIC σ) : xYC σ ≤ 12 := xt_Y12 h.1.2
def cN (x : Int32) : Nat := x.toNatClampNeg
theorem cN_nI {n : Nat} (h : n < 2 ^ 31) : cN (nI n) = n := nI_clamp h
abbrev xtrok (n : Nat) (x0 x1 x2 : Int32) : Prop := xin x0 6 ∧ xin x1 n ∧ ((if x1 = 0 then (1 : Int32) else 0) ≤ x2 ∧ x2 ≤ 9)
def xp_tr (b n : Nat) (σ : Nat → Nat → Int32) (x0 x1 x2 : Int32) : Int32 := if xtrok n x0 x1 x2 then σ (b + cN x1) (cN x0) else -2
def xst_tr (b n : Nat) (σ : Nat → Nat → Int32) (x0 x1 x2 : Int32) : Nat → Nat → Int32 := if xtrok n x0 x1 x2 then va_up σ (b + cN x1) (upd (σ (b + cN x1)) (cN x0) x2) else σ
def xp_fits (F : Nat → Nat → Int32) (x0 x1 : Int32) : Int32 := if xin x0 6 ∧ xin x1 6 then xb (xs_fit F (cN x0) (cN x1)) else -2
def xp_type (L : Nat) (x : Int32) : Int32 := if xin x 256 then (if L < 90 then nI (L + 1) else -4) else -2
def xst_type (σ : Nat → Nat → Int32) (x : Int32) : Nat → Nat → Int32 := if xin x 256 ∧ xLC σ < 90 then xst_parse (xst_add σ (xLC σ) x) (xLC σ + 1) else σ
def xst_f (σ : Nat → Nat → Int32) (k : Int32) : Nat → Nat → Int32 := va_up σ 0 (upd (σ 0) 8 k)
/-- sheets by V (1 lost, 2 form, 3 size), I (items) -/
def xp_read (V I : Nat → Nat → Int32) (L : Nat) (x : Int32) : Int32 := if xin x 4 then (if ¬ V (cN x) 1 = 0 then -11 else if xs_hold (xnat (V (cN x)) 3) (I (cN x)) then (if L + xyb L ≤ 90 then nI (L + xyb L) else -4) else -3) else -2
def xVC (σ : Nat → Nat → Int32) (w : Nat) : Nat → Int32 := σ (34 + 2 * w)
def xJC (σ : Nat → Nat → Int32) (w : Nat) : Nat → Int32 := σ (35 + 2 * w)
def xst_read (σ : Nat → Nat → Int32) (x : Int32) : Nat → Nat → Int32 := if xin x 4 then (if ¬ xVC σ (cN x) 1 = 0 then xst_f σ (nI 1) else if xs_hold (xnat (xVC σ (cN x)) 3) (xJC σ (cN x)) ∧ xLC σ + xyb (xLC σ) ≤ 90 then xst_ry σ (xLC σ) (cN x) else σ) else σ
def xp_borne (T : Nat → Int32) (Y : Nat) (x0 x1 : Int32) : Int32 := if xin x0 6 ∧ xin x1 Y then nI (xnm T (cN x1) (cN x0)) else -2
def xp_purse (F : Nat → Nat → Int32) (T : Nat → Int32) (Y : Nat) (x0 x1 : Int32) : Int32 := if xin x0 6 ∧ xin x1 (Y + 1) then xs_purse F T (cN x0) (cN x1) else -2
def xp_debt (F : Nat → Nat → Int32) (T : Nat → Int32) (Y : Nat) (x0 x1 x2 : Int32) : Int32 := if xin x0 6 ∧ xin x1 (Y + 1) ∧ xin x2 2 then (if x2 = 0 then F 4 (cN x0) * xs_shame F T (cN x0) (cN x1) else xs_shame F T (cN x0) (cN x1)) else -2
def xp_been (T : Nat → Int32) (Y : Nat) (x0 x1 : Int32) : Int32 := if xin x0 6 ∧ xin x1 (Y + 1) then xs_been T (cN x0) (cN x1) else -2
def xp_home (T : Nat → Int32) (Y : Nat) (x0 : Int32) : Int32 := if xin x0 6 then xs_as T Y (cN x0) (cN x0) else -2
def xp_other (T : Nat → Int32) (Y : Nat) (x0 x1 : Int32) : Int32 := if xin x0 6 ∧ xin x1 6 ∧ ¬ x0 = x1 then xs_as T Y (cN x0) (cN x1) else -2
theorem xst_parse_L (σ : Nat → Nat → Int32) (L : Nat) : xst_parse σ L 9 1 = σ 9 1 := by
  unfold xst_parse
  rw [xup_s, pk_un (by decide), pk_un (by decide)]
theorem xst_ry_L {σ : Nat → Nat → Int32} {L w : Nat} (h : σ 9 1 = nI L) : xst_ry σ L w 9 1 = nI (L + xyb L) := by
  unfold xst_ry
  by_cases q : L = 0
  · subst q
    rw [if_pos rfl, xst_parse_L, xay_L h]
    rfl
  · rw [if_neg q, xyb_1 (by omega), xst_parse_L, xay_L (xst_add_L _ _ _)]
theorem nI_90 {L : Nat} (h : L ≤ 90) : nI 90 - nI L = nI (90 - L) := pk_sub h

/-! copy, count, digest -/
theorem xrg_nat {v : Nat → Int32} {x n : Int32} {z : Nat} (h : xrg v x n) (hv : v 3 = nI z) (hz : z ≤ 48) : ∃ i k, x = nI i ∧ n = nI k ∧ i + k ≤ z := by
  obtain ⟨h1, h2, h3, h4⟩ := h
  rw [hv] at h3 h4
  obtain ⟨k, hk, rfl⟩ := nI_of (xnlt h2)
  obtain ⟨i, hi, rfl⟩ := nI_of (xnlt h1)
  have hkz : k ≤ z := (nI_leI hk (by omega)).mp h3
  rw [pk_sub hkz] at h4
  have hiz : i ≤ z - k := (nI_leI hi (by omega)).mp h4
  exact ⟨i, k, rfl, rfl, by omega⟩
theorem xtabout {x : Int32} (h : ¬ xin x 9) : x.toInt < 0 ∨ 8 < x.toInt := by
  rcases Int.lt_or_le x.toInt 0 with q | q
  · exact Or.inl q
  · refine Or.inr ?_
    rcases Int.lt_or_le 8 x.toInt with w | w
    · exact w
    · refine absurd ⟨?_, ?_⟩ h
      · rw [fa_le]; exact q
      · rw [fa_lt, nI_toInt (by decide)]
        omega
def xfold (h : Int64) (f : Nat → Int64) : Nat → Int64
  | 0 => h
  | j + 1 => 31 * xfold h f j + f j
def xfold2 (h : Int64) (f : Nat → Nat → Int64) (n : Nat) : Nat → Int64
  | 0 => h
  | k + 1 => xfold (xfold2 h f n k) (f k) n
def xhv (F : Nat → Nat → Int32) (T : Nat → Int32) (Y : Nat) (c1 c2 c3 : Nat → Int32) (cn : Nat) (B : Nat → Nat) (k j : Nat) : Int64 := match j with
  | 0 => (xp_purse F T Y (nI k) (nI Y)).toInt64
  | 1 => (xp_been T Y (nI k) (nI Y)).toInt64
  | 2 => (xp_home T Y (nI k)).toInt64
  | 3 => (xp_other T Y (nI k) (nI ((k + 1) % 6))).toInt64
  | 4 => (xp_sound (xA F) (nI k)).toInt64
  | 5 => xp_chance (xA F) (nI k) (nI k) (nI 0)
  | 6 => xp_chance (xA F) (nI k) (nI k) (nI 1)
  | 7 => xp_ahead (xE F) (nI k) (nI 0)
  | 8 => xp_ahead (xE F) (nI k) (nI 1)
  | 9 => (xp_best (xE F) (nI k)).toInt64
  | 10 => (xp_lot (nI 7) (nI k)).toInt64
  | 11 => (xp_owed T Y c1 c2 c3 cn (nI k) (nI 0)).toInt64
  | 12 => (xp_owed T Y c1 c2 c3 cn (nI k) (nI 1)).toInt64
  | 13 => (xp_owed T Y c1 c2 c3 cn (nI k) (nI 2)).toInt64
  | _ => (xp_could B (nI k)).toInt64
def xyv (F : Nat → Nat → Int32) (T : Nat → Int32) (Y : Nat) (y j : Nat) : Int64 := match j with
  | 0 => (xp_rather F T Y (nI y)).toInt64
  | 1 => (xp_returns T Y (nI y) (-1)).toInt64
  | _ => (xp_on T Y (nI y) (nI 0) (nI 5)).toInt64
def xev (F : Nat → Nat → Int32) (T : Nat → Int32) (Y : Nat) (c1 c2 : Nat → Int32) (cn : Nat) (B : Nat → Nat) (j : Nat) : Int64 := match j with
  | 0 => (xp_sound (xA F) (-1)).toInt64
  | 1 => (xp_best (xE F) (-1)).toInt64
  | 2 => (xp_could B (-1)).toInt64
  | 3 => (xs_disp T Y c1 c2 cn).toInt64
  | _ => (nI (xs_false B)).toInt64
def xdig (F : Nat → Nat → Int32) (T : Nat → Int32) (Y L : Nat) (c1 c2 c3 : Nat → Int32) (cn : Nat) (B : Nat → Nat) (sn : Nat) (fi : Int32) : Int64 := xfold (xfold2 (xfold2 (xfold2 (31 * xfold 17 (fun k => (xp_count (xcv F T Y L cn sn fi) (nI k)).toInt64) 8 + (xt_fault T L).toInt64) (xhv F T Y c1 c2 c3 cn B) 15 6) (fun n j => (xp_debt F T Y (nI n) (nI Y) (nI j)).toInt64) 2 6) (xyv F T Y) 3 Y) (xev F T Y c1 c2 cn B) 5
theorem xCs_k {σ τ : Nat → Nat → Int32} (h : xCs σ τ) {k : Nat} (hk : k < 21) : τ k = σ k := h k (by unfold xscr; omega)
theorem xCs_L {σ τ : Nat → Nat → Int32} (h : xCs σ τ) : xLC τ = xLC σ := by unfold xLC; rw [xCs_k h (by decide)]
theorem xCs_Y {σ τ : Nat → Nat → Int32} (h : xCs σ τ) : xYC τ = xYC σ := by unfold xYC; rw [xCs_L h, xCs_k h (by decide)]
theorem xCs_c {σ τ : Nat → Nat → Int32} (h : xCs σ τ) : xcC τ = xcC σ := by unfold xcC; rw [xCs_k h (by decide)]
theorem xCs_s {σ τ : Nat → Nat → Int32} (h : xCs σ τ) : xsC τ = xsC σ := by unfold xsC; rw [xCs_k h (by decide)]

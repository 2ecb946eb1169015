/-! lots: what the public calls answer -/
theorem xgcd_at {a b i : Nat} (hb : 0 < b) (h1 : a % i = 0) (h2 : b % i = 0) (hi : 0 < i) (no : ∀ j, i < j → j ≤ b → ¬ (a % j = 0 ∧ b % j = 0)) : Nat.gcd a b = i := by
  have d1 : i ∣ Nat.gcd a b := Nat.dvd_gcd (Nat.dvd_of_mod_eq_zero h1) (Nat.dvd_of_mod_eq_zero h2)
  have gp : 0 < Nat.gcd a b := Nat.gcd_pos_of_pos_right a hb
  have l1 : i ≤ Nat.gcd a b := Nat.le_of_dvd gp d1
  have l2 : Nat.gcd a b ≤ b := Nat.le_of_dvd hb (Nat.gcd_dvd_right a b)
  rcases Nat.lt_or_ge i (Nat.gcd a b) with q | q
  · exact absurd ⟨Nat.mod_eq_zero_of_dvd (Nat.gcd_dvd_left a b), Nat.mod_eq_zero_of_dvd (Nat.gcd_dvd_right a b)⟩ (no _ q l2)
  · omega
/-- the p-th of the names in a set, from the least on -/
def xct (t n : Nat) : Nat := fb_ct (fun j => t.testBit j) n
def xna (t p : Nat) : Nat := xfst (fun n => t.testBit n = true ∧ xct t n = p) 6
theorem xct_s (t n : Nat) : xct t (n + 1) = xct t n + (if t.testBit n = true then 1 else 0) := fb_ct_succ _ _
theorem xna_ex {t p : Nat} (h : p < xct t 6) : ∃ n, n < 6 ∧ (t.testBit n = true ∧ xct t n = p) := by
  obtain ⟨i, h1, h2, h3⟩ := fb_ct_kth h
  exact ⟨i, h1, h2, h3⟩
theorem xna_spec {t p : Nat} (h : p < xct t 6) : xna t p < 6 ∧ t.testBit (xna t p) = true ∧ xct t (xna t p) = p := by
  obtain ⟨n, hn, hq⟩ := xna_ex h
  unfold xna
  rcases xfst_or (P := fun n => t.testBit n = true ∧ xct t n = p) 6 with ⟨q, h1, h2, h3⟩ | h2
  · rw [xfst_at h3 h2 h1]
    exact ⟨h1, h2⟩
  · exact absurd hq (h2 n hn)
theorem xct_clr_ : ∀ t : Fin 64, ∀ n : Fin 6, t.val.testBit n.val = true → xct (xclr t.val n.val) 6 + 1 = xct t.val 6 := by decide +kernel
theorem xct_clr {t n : Nat} (ht : t < 64) (hn : n < 6) (h : t.testBit n = true) : xct (xclr t n) 6 + 1 = xct t 6 := xct_clr_ ⟨t, ht⟩ ⟨n, hn⟩ h
def xlt_n (seed : Int32) : Nat → Int32
  | 0 => seed
  | i + 1 => (1103515245 : Int32) * xlt_n seed i + nI 12345
def xlt_u (x : Int32) : Nat := x.toBitVec.toNat / 2 ^ 16
theorem xlt_u_lt (x : Int32) : xlt_u x < 65536 := by
  unfold xlt_u
  have := x.toBitVec.isLt
  omega
theorem xush16 (x : Int32) : (x.toUInt32 >>> ((nI 16).toUInt32 &&& Int32.toUInt32 31)).toInt32 = nI (xlt_u x) := by
  have h := pk_ushr x (nI 16) 16 (by decide)
  have h2 := xlt_u_lt x
  obtain ⟨n, hn, e⟩ : ∃ n, n < 2 ^ 32 ∧ (x.toUInt32 >>> ((nI 16).toUInt32 &&& Int32.toUInt32 31)).toInt32 = nI n := by
    refine ⟨_, (x.toUInt32 >>> ((nI 16).toUInt32 &&& Int32.toUInt32 31)).toInt32.toBitVec.isLt, ?_⟩
    apply Int32.toBitVec_inj.mp
    apply BitVec.eq_of_toNat_eq
    rw [pk_tn (BitVec.isLt _)]
  rw [e, pk_tn hn] at h
  rw [e, h]
  rfl
def xlt_l (seed : Int32) : Nat → Nat
  | 0 => 63
  | i + 1 => xclr (xlt_l seed i) (xna (xlt_l seed i) (xlt_u (xlt_n seed (i + 1)) % (6 - i)))
def xlt_d (seed : Int32) (i : Nat) : Nat := xna (xlt_l seed i) (xlt_u (xlt_n seed (i + 1)) % (6 - i))
def xlt_g (seed : Int32) : Nat → Int32
  | 0 => -1
  | i + 1 => nI (xlt_d seed i)
theorem xlt_inv (seed : Int32) : ∀ {i : Nat}, i ≤ 6 → xlt_l seed i < 64 ∧ xct (xlt_l seed i) 6 = 6 - i
  | 0, _ => ⟨show 63 < 64 by decide, show xct 63 6 = 6 by decide⟩
  | i + 1, h => by
    obtain ⟨h1, h2⟩ := xlt_inv seed (i := i) (by omega)
    have hp : xlt_u (xlt_n seed (i + 1)) % (6 - i) < xct (xlt_l seed i) 6 := by
      rw [h2]
      exact Nat.mod_lt _ (by omega)
    obtain ⟨s1, s2, -⟩ := xna_spec hp
    refine ⟨Nat.lt_of_le_of_lt (xclr_le _ _) h1, ?_⟩
    have := xct_clr h1 s1 s2
    show xct (xclr (xlt_l seed i) _) 6 = _
    omega
theorem xlt_d_spec (seed : Int32) {i : Nat} (h : i < 6) : xlt_d seed i < 6 ∧ (xlt_l seed i).testBit (xlt_d seed i) = true ∧ xct (xlt_l seed i) (xlt_d seed i) = xlt_u (xlt_n seed (i + 1)) % (6 - i) := by
  obtain ⟨h1, h2⟩ := xlt_inv seed (i := i) (by omega)
  exact xna_spec (by rw [h2]; exact Nat.mod_lt _ (by omega))
def xA (F : Nat → Nat → Int32) (h : Nat) : Nat := xmask (fun n => xs_fit F h n) 6
theorem xA_lt (F : Nat → Nat → Int32) (h : Nat) : xA F h < 64 := xmask_lt6 (by omega)
def xB (F : Nat → Nat → Int32) (s1 s2 s3 : Nat → Int32) (sn h : Nat) : Nat := xs_left F s1 s2 s3 h sn
theorem xFC_up {σ : Nat → Nat → Int32} {k : Nat} {f : Nat → Int32} (h : 9 ≤ k) : xFC (va_up σ k f) = xFC σ := by
  funext j
  unfold xFC
  split <;> exact xup_n _ _ (by omega)
/-- the cells that the draws write on -/
def xscr (k : Nat) : Prop := k = 21 ∨ k = 22 ∨ k = 23 ∨ (26 ≤ k ∧ k ≤ 32)
def xCs (σ τ : Nat → Nat → Int32) : Prop := ∀ k, ¬ xscr k → τ k = σ k
theorem xCs_rf (σ : Nat → Nat → Int32) : xCs σ σ := fun _ _ => rfl
theorem xCs_tr {σ τ ρ : Nat → Nat → Int32} (h1 : xCs σ τ) (h2 : xCs τ ρ) : xCs σ ρ := fun k hk => (h2 k hk).trans (h1 k hk)
theorem xCs_F {σ τ : Nat → Nat → Int32} (h : xCs σ τ) : xFC τ = xFC σ := by
  funext j
  unfold xFC
  split <;> exact h _ (by unfold xscr; omega)
theorem xCs_cw {σ : Nat → Nat → Int32} {A : Nat → Nat} {f : Nat → Int32} : xCs σ (xst_cw (va_up σ 21 f) A) := by
  intro k hk
  unfold xscr at hk
  unfold xst_cw
  rw [xup_n _ _ (by omega), xup_n _ _ (by omega), xup_n _ _ (by omega)]
theorem xCs_w {σ : Nat → Nat → Int32} {E : Nat → Nat → Nat} : xCs σ (xst_w σ E) := by
  intro k hk
  unfold xscr at hk
  unfold xst_w
  rw [xup_n _ _ (by omega), xwr_n (by omega)]
theorem xCs_IC {σ τ : Nat → Nat → Int32} (h : xCs σ τ) (hC : xIC σ) : xIC τ := by
  have e : ∀ k, ¬ xscr k → τ k = σ k := h
  have e9 := e 9 (by unfold xscr; omega)
  have e10 := e 10 (by unfold xscr; omega)
  have e12 := e 12 (by unfold xscr; omega)
  have e13 := e 13 (by unfold xscr; omega)
  have e14 := e 14 (by unfold xscr; omega)
  have e16 := e 16 (by unfold xscr; omega)
  have e17 := e 17 (by unfold xscr; omega)
  have e18 := e 18 (by unfold xscr; omega)
  have e8 := e 8 (by unfold xscr; omega)
  have hL : xLC τ = xLC σ := by unfold xLC; rw [e9]
  have hY : xYC τ = xYC σ := by unfold xYC; rw [hL, e10]
  have hc : xcC τ = xcC σ := by unfold xcC; rw [e12]
  have hs : xsC τ = xsC σ := by unfold xsC; rw [e16]
  unfold xIC
  rw [hL, hY, hc, hs, e9, e10, e12, e13, e14, e16, e17, e18, e8]
  refine ⟨hC.1, hC.2.1, hC.2.2.1, hC.2.2.2.1, hC.2.2.2.2.1, fun w hw => ?_⟩
  rw [e (34 + 2 * w) (by unfold xscr; omega)]
  exact hC.2.2.2.2.2 w hw
def xE (F : Nat → Nat → Int32) (h n : Nat) : Nat := cN (xs_earn F h n)
theorem xE_ok {F : Nat → Nat → Int32} (hf : xran (F 4) 6 10) (h : Nat) {n : Nat} (hn : n < 6) : xs_earn F h n = nI (xE F h n) ∧ xE F h n ≤ 9 := by
  unfold xE xs_earn
  split
  · have := hf n hn
    rw [this.2, cN_nI (by omega)]
    exact ⟨rfl, by omega⟩
  · exact ⟨rfl, show (0 : Nat) ≤ 9 by decide⟩
def xrefuse (c : Int32) : Int64 := (-9223372036854775808 : Int64) - c.toInt64
def xfrac (a b : Nat) (x : Int32) : Int64 := (nI ((if x = 0 then a else b) / Nat.gcd a b)).toInt64
def xp_sound (A : Nat → Nat) (x : Int32) : Int32 := if x = -1 then nI (xon A 0) else if xin x 6 then xfr A (cN x) else -2
def xp_chance (A : Nat → Nat) (x0 x1 x2 : Int32) : Int64 := if xin x0 6 ∧ xin x1 6 ∧ xin x2 2 then (if xon A 0 = 0 then xrefuse (-3) else xfrac (xrw A (cN x0) (cN x1)) (xon A 0) x2) else xrefuse (-2)
def xp_ahead (E : Nat → Nat → Nat) (x0 x1 : Int32) : Int64 := if xin x0 6 ∧ xin x1 2 then xfrac (fb_sm (fun n => E (cN x0) n) 6) 6 x1 else xrefuse (-2)
def xp_best (E : Nat → Nat → Nat) (x : Int32) : Int32 := if x = -1 then nI (xbm E 0) else if xin x 6 then nI (xbl E (xbt E (cN x)) (cN x)) else -2
abbrev xs_wc (F : Nat → Nat → Int32) (T : Nat → Int32) (y a b : Nat) : Prop := xs_earn F a (xnm T y a) < xs_earn F a (xnm T y b)
def xs_rather (F : Nat → Nat → Int32) (T : Nat → Int32) (y : Nat) : Nat := fb_sm (fun a => fb_sm (fun b => if a < b ∧ (xs_wc F T y a b ∧ xs_wc F T y b a) then 1 else 0) 6) 6
def xp_rather (F : Nat → Nat → Int32) (T : Nat → Int32) (Y : Nat) (x : Int32) : Int32 := if xin x Y then nI (xs_rather F T (cN x)) else -2
def xp_on (T : Nat → Int32) (Y : Nat) (x0 x1 x2 : Int32) : Int32 := if xin x0 Y ∧ xin x1 6 ∧ xin x2 1000 then nI (xs_on T (cN x0) (cN x1) (cN x2)) else -2
abbrev xs_bk (T : Nat → Int32) (y : Nat) (x : Int32) (t : Nat) : Prop := (x = -1 ∧ xall (fun h => xs_on T y h t = h) 6) ∨ (¬ x = -1 ∧ xs_on T y (cN x) t = cN x)
def xs_ret (T : Nat → Int32) (y : Nat) (x : Int32) : Nat := xfst (fun k => xs_bk T y x (k + 1)) 720
def xp_returns (T : Nat → Int32) (Y : Nat) (x0 x1 : Int32) : Int32 := if xin x0 Y ∧ (x1 = -1 ∨ xin x1 6) then (if xs_ret T (cN x0) x1 < 720 then nI (xs_ret T (cN x0) x1 + 1) else -1) else -2
def xp_lot (seed x : Int32) : Int32 := if xin x 6 then nI (xlt_d seed (cN x)) else -2
theorem fb_sm_z {f : Nat → Nat} {n : Nat} (h : ∀ k, k < n → f k = 0) : fb_sm f n = 0 := by
  rw [fb_sm_cong h, fb_sm_const]
  omega
theorem xm1 {h : Nat} (hh : h < 2 ^ 31) : ¬ nI h = (-1 : Int32) := nI_m1 hh
theorem xin_m1 {n : Nat} : ¬ xin (-1) n := fun q => absurd q.1 (by decide)
theorem xtf_le (A : Nat → Nat) : ∀ r z, xtf A r z ≤ 6 ^ r
  | 0, _ => Nat.le_refl _
  | r + 1, z => by
    have h : xtf A (r + 1) z ≤ 6 * 6 ^ r := by
      show fb_sm _ 6 ≤ _
      refine fb_sm_bound (fun n hn => ?_)
      split
      · exact xtf_le A r _
      · exact Nat.zero_le _
    rw [Nat.pow_succ, Nat.mul_comm]
    exact h
theorem xrw_lt (A : Nat → Nat) (h : Nat) {n : Nat} (hn : n < 6) : xrw A h n < 500000 := by
  have hb : xrw A h n ≤ 64 * 7776 := by
    refine fb_sm_bound (fun z hz => ?_)
    try dsimp only
    split
    · rename_i q
      have h1 : xto A z ≤ 6 ^ h := by
        unfold xto
        rw [q.1]
        exact xtf_le A h z
      have hp := (xpc_or hz hn q.2.2).1
      have hle := xpc_le (z ||| 2 ^ n)
      have h2 : xon A (z ||| 2 ^ n) ≤ 6 ^ (5 - h) := by
        unfold xon
        rw [hp, q.1, show 6 - (h + 1) = 5 - h by omega]
        exact xo_le A _ _
      have h3 : (6 : Nat) ^ h * 6 ^ (5 - h) = 7776 := by
        rw [← Nat.pow_add, show h + (5 - h) = 5 by omega]
      rw [← h3]
      exact Nat.mul_le_mul h1 h2
    · exact Nat.zero_le _
  omega

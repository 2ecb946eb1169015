/-! claims, sightings, sheets: what the public calls answer -/
abbrev xclok (x0 x1 x2 : Int32) : Prop := xin x0 6 ∧ xin x1 12 ∧ (nI 1 ≤ x2 ∧ x2 ≤ nI 99)
def xp_more (c : Prop) [Decidable c] (n m : Nat) : Int32 := if c then (if n < m then nI (n + 1) else -4) else -2
def xst_claim (σ : Nat → Nat → Int32) (x0 x1 x2 : Int32) : Nat → Nat → Int32 := if xclok x0 x1 x2 ∧ xcC σ < 12 then xst_cl σ (xcC σ) x0 x1 x2 else σ
def xst_seen (σ : Nat → Nat → Int32) (x0 x1 x2 : Int32) : Nat → Nat → Int32 := if xtrok 2 x0 x1 x2 ∧ xsC σ < 8 then xst_sg σ (xsC σ) x0 x1 x2 else σ
def xp_owed (T : Nat → Int32) (Y : Nat) (c1 c2 c3 : Nat → Int32) (cn : Nat) (x0 x1 : Int32) : Int32 := if xin x0 6 ∧ xin x1 3 then xs_owed T Y c1 c2 c3 (cN x0) (cN x1) cn else -2
def xs_light (o : Nat → Int32) : Int32 := if o 1 < o 0 then (if o 2 < o 1 then nI 2 else nI 1) else (if o 2 < o 0 then nI 2 else nI 0)
def xp_light (T : Nat → Int32) (Y : Nat) (c1 c2 c3 : Nat → Int32) (cn : Nat) (x0 : Int32) : Int32 := if xin x0 6 then xs_light (fun law => xs_owed T Y c1 c2 c3 (cN x0) law cn) else -2
def xp_forget (cn sn : Nat) (x : Int32) : Int32 := if xin x 2 then (if x = 0 then nI cn else nI sn) else -2
def xst_forget (σ : Nat → Nat → Int32) (x : Int32) : Nat → Nat → Int32 := if xin x 2 then (if x = 0 then va_up σ 12 (upd (σ 12) 4 (nI 0)) else va_up σ 16 (upd (σ 16) 4 (nI 0))) else σ
def xp_could (B : Nat → Nat) (x : Int32) : Int32 := if x = -1 then nI (xon B 0) else if xin x 6 then nI (xmask (fun n => 0 < xrw B (cN x) n) 6) else -2
def xora (f : Nat → Nat) : Nat → Nat
  | 0 => 0
  | i + 1 => xora f i ||| f i
theorem xora_lt {f : Nat → Nat} (h : ∀ k, f k < 64) : ∀ i, xora f i < 64
  | 0 => show 0 < 64 by decide
  | i + 1 => xor_lt (xora_lt h i) (h i)
def xs_false (B : Nat → Nat) : Nat := 63 &&& (63 ^^^ xora B 6)
def xp_sheet (x0 x1 x2 : Int32) : Int32 := if xin x0 4 ∧ xin x1 3 ∧ x2 ≤ nI 48 then (if 0 ≤ x2 then x2 else -15) else -2
def xst_sheet (σ : Nat → Nat → Int32) (x0 x1 x2 : Int32) : Nat → Nat → Int32 := if xin x0 4 ∧ xin x1 3 ∧ x2 ≤ nI 48 then (if 0 ≤ x2 then xst_new σ (cN x0) x1 x2 else xst_f σ (nI 5)) else σ
def xp_lose (V : Nat → Nat → Int32) (x : Int32) : Int32 := if xin x 4 then (if V (cN x) 1 = 0 then V (cN x) 3 else -11) else -2
def xst_lose (σ : Nat → Nat → Int32) (x : Int32) : Nat → Nat → Int32 := if xin x 4 then (if xVC σ (cN x) 1 = 0 then va_up σ (34 + 2 * cN x) (upd (σ (34 + 2 * cN x)) 1 (nI 1)) else xst_f σ (nI 1)) else σ
theorem xs_find_0 {v : Nat → Int32} {f i : Int32} (h : xs_find v f i = 0) : v 1 = 0 ∧ v 2 = f ∧ (0 ≤ i ∧ i < v 3) := by
  unfold xs_find at h
  by_cases q1 : ¬ v 1 = 0
  · rw [if_pos q1] at h; exact absurd h (by decide)
  · rw [if_neg q1] at h
    by_cases q2 : ¬ v 2 = f
    · rw [if_pos q2] at h; exact absurd h (by decide)
    · rw [if_neg q2] at h
      by_cases q3 : 0 ≤ i ∧ i < v 3
      · exact ⟨Decidable.byContradiction q1, Decidable.byContradiction q2, q3⟩
      · rw [if_neg q3] at h; exact absurd h (by decide)
def xp_put (V : Nat → Nat → Int32) (x0 x1 x2 : Int32) : Int32 := if xin x0 4 ∧ xin x1 3 then (if xs_find (V (cN x0)) x1 x2 = 0 then 1 else (-10 : Int32) - xs_find (V (cN x0)) x1 x2) else -2
def xst_put (σ : Nat → Nat → Int32) (x0 x1 x2 x3 : Int32) : Nat → Nat → Int32 := if xin x0 4 ∧ xin x1 3 then (if xs_find (xVC σ (cN x0)) x1 x2 = 0 then va_up σ (35 + 2 * cN x0) (upd (σ (35 + 2 * cN x0)) (cN x2) (xs_nar (xnat (xVC σ (cN x0)) 2) x3)) else xst_f σ (xs_find (xVC σ (cN x0)) x1 x2)) else σ
def xp_get (V I : Nat → Nat → Int32) (x0 x1 x2 : Int32) : Int32 := if xin x0 4 ∧ xin x1 3 then (if xs_find (V (cN x0)) x1 x2 = 0 then I (cN x0) (cN x2) else -2147483648) else -2147483648
def xst_get (σ : Nat → Nat → Int32) (x0 x1 x2 : Int32) : Nat → Nat → Int32 := if xin x0 4 ∧ xin x1 3 then (if xs_find (xVC σ (cN x0)) x1 x2 = 0 then σ else xst_f σ (xs_find (xVC σ (cN x0)) x1 x2)) else σ
abbrev xrg (v : Nat → Int32) (x n : Int32) : Prop := 0 ≤ x ∧ 0 ≤ n ∧ n ≤ v 3 ∧ x ≤ v 3 - n
/-- what copy finds: 1 null, 4 store, 2 index, 0 nothing -/
def xcpf (V : Nat → Nat → Int32) (a i b j n : Int32) : Int32 := if ¬ V (cN a) 1 = 0 ∨ ¬ V (cN b) 1 = 0 then nI 1 else if ¬ V (cN a) 2 = V (cN b) 2 then nI 4 else if xrg (V (cN a)) i n ∧ xrg (V (cN b)) j n then nI 0 else nI 2
def xp_copy (V : Nat → Nat → Int32) (a i b j n : Int32) : Int32 := if xin a 4 ∧ xin b 4 then (if xcpf V a i b j n = 0 then 1 else (-10 : Int32) - xcpf V a i b j n) else -2
def xst_copy (σ : Nat → Nat → Int32) (a i b j n : Int32) : Nat → Nat → Int32 := if xin a 4 ∧ xin b 4 then (if xcpf (xVC σ) a i b j n = 0 then va_up σ (35 + 2 * cN b) (va_cpy (σ (35 + 2 * cN a)) (σ (35 + 2 * cN b)) (cN i) (cN j) (cN n)) else xst_f σ (xcpf (xVC σ) a i b j n)) else σ
def xmin6 (z : Nat) : Nat := if z < 6 then z else 6
theorem xmin6_le (z : Nat) : xmin6 z ≤ 6 ∧ xmin6 z ≤ z := by
  unfold xmin6
  split <;> omega
theorem xmin6_I {z : Nat} (h : z < 2 ^ 31) : (if nI z < nI 6 then nI z else nI 6) = nI (xmin6 z) := by
  unfold xmin6
  by_cases q : z < 6
  · rw [if_pos (nI_lt q (by omega)), if_pos q]
  · rw [if_neg (by rw [nI_ltI h (by omega)]; exact q), if_neg q]
def xp_write (V : Nat → Nat → Int32) (Y : Nat) (x0 x1 : Int32) : Int32 := if xin x0 Y ∧ xin x1 4 then (if V (cN x1) 1 = 0 then nI (xmin6 (xnat (V (cN x1)) 3)) else -11) else -2
def xst_write (σ : Nat → Nat → Int32) (x0 x1 : Int32) : Nat → Nat → Int32 := if xin x0 (xYC σ) ∧ xin x1 4 then (if xVC σ (cN x1) 1 = 0 then va_up σ (35 + 2 * cN x1) (fa_fill (fun i => xs_nar (xnat (xVC σ (cN x1)) 2) (nI (xnm (σ 10) (cN x0) i))) (σ (35 + 2 * cN x1)) (xmin6 (xnat (xVC σ (cN x1)) 3))) else xst_f σ (nI 1)) else σ
/-- counts -/
def xcv (F : Nat → Nat → Int32) (T : Nat → Int32) (Y L cn sn : Nat) (fi : Int32) (k : Nat) : Int32 := match k with
  | 0 => nI Y
  | 1 => nI L
  | 2 => nI cn
  | 3 => nI sn
  | 4 => nI (fb_sm (fun h => xpc (xmask (fun n => xs_fit F h n) 6)) 6)
  | 5 => xsum (fun h => xs_purse F T h Y) 6
  | 6 => xsum (fun h => F 4 h * xs_shame F T h Y) 6
  | 7 => xsum (fun h => xs_shame F T h Y) 6
  | _ => fi
def xp_count (v : Nat → Int32) (x : Int32) : Int32 := if xin x 9 then v (cN x) else -2
theorem xcnt (x : Int32) : x = nI 0 ∨ x = nI 1 ∨ x = nI 2 ∨ x = nI 3 ∨ x = nI 4 ∨ x = nI 5 ∨ x = nI 6 ∨ x = nI 7 ∨ x = nI 8 ∨ ¬ xin x 9 := by
  by_cases h : xin x 9
  · obtain ⟨j, hj, rfl⟩ := xin_of h (by decide)
    rcases (show j = 0 ∨ j = 1 ∨ j = 2 ∨ j = 3 ∨ j = 4 ∨ j = 5 ∨ j = 6 ∨ j = 7 ∨ j = 8 by omega) with q | q | q | q | q | q | q | q | q <;> subst q <;> simp
  · simp [h]
theorem xsub0 {z n : Nat} (h : n ≤ z) : nI z - nI n = nI (z - n) := pk_sub h

/-! a sheet that holds a year: item by item, and all at once -/
theorem xpc_or_le_ : ∀ z : Fin 64, ∀ n : Fin 6, xpc (z.val ||| 2 ^ n.val) ≤ xpc z.val + 1 := by decide +kernel
theorem xor_same_ : ∀ z : Fin 64, ∀ n : Fin 6, z.val.testBit n.val = true → z.val ||| 2 ^ n.val = z.val := by decide +kernel
theorem xpc6_ : ∀ z : Fin 64, xpc z.val = 6 → z.val = 63 := by decide +kernel
theorem xhm_s {it : Nat → Int32} {i z j : Nat} (h : xs_hm it i = nI z) (hj : it i = nI j) (hj6 : j < 6) : xs_hm it (i + 1) = nI (z ||| 2 ^ j) := by
  show xs_hm it i ||| ((nI 1) <<< (it i &&& 31)) = _
  rw [h, hj, xor_I (by omega)]
theorem xhm_few {it : Nat → Int32} (hall : ∀ h, h < 6 → xin (it h) 6) : ∀ d i z, i + d = 6 → z < 64 → xs_hm it i = nI z → xpc z < i → ∃ y, y < 64 ∧ xs_hm it 6 = nI y ∧ xpc y < 6
  | 0, i, z, e, hz, h, hp => by
    rw [Nat.add_zero] at e
    subst e
    exact ⟨z, hz, h, hp⟩
  | d + 1, i, z, e, hz, h, hp => by
    obtain ⟨j, hj, ej⟩ := xin_of (hall i (by omega)) (by decide)
    have h9 : xpc (z ||| 2 ^ j) ≤ xpc z + 1 := xpc_or_le_ ⟨z, hz⟩ ⟨j, hj⟩
    exact xhm_few hall d (i + 1) (z ||| 2 ^ j) (by omega) (xor64 hz hj) (xhm_s h ej hj) (by omega)
theorem xhold_no {it : Nat → Int32} {i z j y : Nat} (hi : i < 6) (hz : z < 64) (hp : xpc z = i) (h : xs_hm it i = nI z) (ej : it i = nI j) (hj : j < 6) (hb : z.testBit j = true) : ¬ xs_hold y it := by
  rintro ⟨-, h2, h3⟩
  have e : z ||| 2 ^ j = z := xor_same_ ⟨z, hz⟩ ⟨j, hj⟩ hb
  have h4 := xhm_s h ej hj
  rw [e] at h4
  obtain ⟨y, hy, e2, h5⟩ := xhm_few (xall_to h2) (5 - i) (i + 1) z (by omega) hz h4 (by omega)
  rw [h3] at e2
  have e3 : 63 = y := (nI_eq (by omega) (by omega)).mp e2
  subst e3
  exact absurd h5 (by decide)
theorem xhold_yes {it : Nat → Int32} {z y : Nat} (hy : 6 ≤ y) (hz : z < 64) (hp : xpc z = 6) (h : xs_hm it 6 = nI z) (hin : ∀ h, h < 6 → xin (it h) 6) : xs_hold y it := by
  refine ⟨hy, xall_of hin, ?_⟩
  rw [h, show z = 63 from xpc6_ ⟨z, hz⟩ hp]
def xmy (σ : Nat → Nat → Int32) (L : Nat) (it : Nat → Int32) : Nat → Nat → Nat → Int32
  | 0 => σ
  | i + 1 => xst_m1 (xmy σ L it i) (L + i) (nI 48 + it i)
theorem xst_m1_n (σ : Nat → Nat → Int32) (L : Nat) (b : Int32) {k : Nat} (h0 : k ≠ 0) (h6 : k ≠ 6) : xst_m1 σ L b k = σ k := by
  unfold xst_m1
  rw [xup_n _ _ h0, xup_n _ _ h6]
theorem xst_m1_L (σ : Nat → Nat → Int32) (L : Nat) (b : Int32) : xst_m1 σ L b 0 6 = nI (L + 1) := by
  unfold xst_m1
  rw [xup_s, pk_us]
theorem xmy_n (σ : Nat → Nat → Int32) (L : Nat) (it : Nat → Int32) {k : Nat} (h0 : k ≠ 0) (h6 : k ≠ 6) : ∀ i, xmy σ L it i k = σ k
  | 0 => rfl
  | i + 1 => (xst_m1_n _ _ _ h0 h6).trans (xmy_n σ L it h0 h6 i)
theorem xmy_L {σ : Nat → Nat → Int32} {L : Nat} {it : Nat → Int32} (h : σ 0 6 = nI L) : ∀ i, xmy σ L it i 0 6 = nI (L + i)
  | 0 => h
  | i + 1 => xst_m1_L _ _ _
def xst_mry (σ : Nat → Nat → Int32) (L w : Nat) : Nat → Nat → Int32 := if L = 0 then xmy σ 0 (xJM σ w) 6 else xmy (xst_m1 σ L (nI 59)) (L + 1) (xJM σ w) 6
def xst_mread (σ : Nat → Nat → Int32) (x : Int32) : Nat → Nat → Int32 := if xin x 4 then (if ¬ xVM σ (cN x) 1 = 0 then xst_fm σ (nI 1) else if xs_hold (xnat (xVM σ (cN x)) 3) (xJM σ (cN x)) ∧ xLM σ + xyb (xLM σ) ≤ 90 then xst_mry σ (xLM σ) (cN x) else σ) else σ
/-! copy -/
theorem xrg_l {v : Nat → Int32} {x n : Int32} {z : Nat} (hv : v 3 = nI z) (hz : z ≤ 48) (h1 : ¬ x < 0) (h2 : ¬ n < 0) : x.toInt64 + n.toInt64 ≤ (v 3).toInt64 ↔ xrg v x n := by
  obtain ⟨a, ha, rfl⟩ := nI_of h1
  obtain ⟨b, hb, rfl⟩ := nI_of h2
  have ea : (nI a).toInt64.toInt = a := by rw [Int32.toInt_toInt64, nI_toInt ha]
  have eb : (nI b).toInt64.toInt = b := by rw [Int32.toInt_toInt64, nI_toInt hb]
  have ez : (nI z).toInt64.toInt = z := by rw [Int32.toInt_toInt64, nI_toInt (by omega)]
  rw [hv, Int64.le_iff_toInt_le, fb_addL (by rw [ea, eb]; omega) (by rw [ea, eb]; omega), ea, eb, ez]
  constructor
  · intro h
    refine ⟨nI_pos' ha, nI_pos' hb, by rw [hv]; exact nI_le (by omega) (by omega), ?_⟩
    rw [hv, pk_sub (by omega)]
    exact nI_le (by omega) (by omega)
  · rintro ⟨-, -, h3, h4⟩
    rw [hv] at h3 h4
    have h3 : b ≤ z := (nI_leI hb (by omega)).mp h3
    rw [pk_sub h3] at h4
    have h4 : a ≤ z - b := (nI_leI ha (by omega)).mp h4
    omega
def xst_mcopy (σ : Nat → Nat → Int32) (a i b j n : Int32) : Nat → Nat → Int32 := if xin a 4 ∧ xin b 4 then (if xcpf (xVM σ) a i b j n = 0 then va_up σ 18 (xfl (σ 18) (fun k => σ 18 (48 * cN a + cN i + k)) (48 * cN b + cN j) (cN n)) else xst_fm σ (xcpf (xVM σ) a i b j n)) else σ
theorem xMs_19 {σ : Nat → Nat → Int32} {f : Nat → Int32} : xMs σ (va_up σ 19 f) := ⟨fun k _ _ _ h => xup_n _ _ h, fun j _ => by rw [xup_n _ _ (by decide)]⟩

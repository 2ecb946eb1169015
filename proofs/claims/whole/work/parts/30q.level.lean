/-! how many allowed rows give hull h the name n: by the sets of names taken -/
theorem fb_sm_swap (f : Nat → Nat → Nat) (m : Nat) : ∀ n, fb_sm (fun i => fb_sm (fun j => f i j) m) n = fb_sm (fun j => fb_sm (fun i => f i j) n) m
  | 0 => (fb_sm_z (fun _ _ => rfl)).symm
  | n + 1 => by
    rw [fb_sm_succ, fb_sm_swap f m n, ← fb_sm_add]
    rfl
theorem fb_sm_mulc (c : Nat) (f : Nat → Nat) : ∀ n, c * fb_sm f n = fb_sm (fun k => c * f k) n
  | 0 => Nat.mul_zero c
  | n + 1 => by rw [fb_sm_succ, fb_sm_succ, Nat.mul_add, fb_sm_mulc c f n]
theorem fb_sm_one {f : Nat → Nat} {b : Nat} : ∀ {n : Nat}, b < n → (∀ k, k < n → k ≠ b → f k = 0) → fb_sm f n = f b
  | 0, h, _ => absurd h (Nat.not_lt_zero b)
  | n + 1, h, hz => by
    rw [fb_sm_succ]
    by_cases q : b = n
    · subst q
      rw [fb_sm_z (fun k hk => hz k (by omega) (by omega)), Nat.zero_add]
    · rw [fb_sm_one (by omega) (fun k hk hne => hz k (by omega) hne), hz n (by omega) (fun e => q e.symm), Nat.add_zero]
/-- sets without n, sets with it -/
def xset (n : Nat) : List Nat := (List.range 64).filter (fun z => z.testBit n)
theorem xset_ : ∀ n : Fin 6, ((List.range 64).filter (fun z => !z.testBit n.val)) = (xset n.val).map (fun z => xclr z n.val) := by decide +kernel
theorem fb_sm_filter (p : Nat → Bool) (G : Nat → Nat) : ∀ n, fb_sm (fun z => if p z = true then G z else 0) n = (((List.range n).filter p).map G).sum
  | 0 => rfl
  | n + 1 => by
    rw [fb_sm_succ, fb_sm_filter p G n, List.range_succ, List.filter_append, List.map_append, List.sum_append]
    by_cases q : p n = true
    · rw [if_pos q]
      simp [q]
    · rw [if_neg q]
      simp [q]
theorem xreindex {n : Nat} (hn : n < 6) (G : Nat → Nat) : fb_sm (fun z => if z.testBit n = true then 0 else G z) 64 = fb_sm (fun z => if z.testBit n = true then G (xclr z n) else 0) 64 := by
  have h1 := fb_sm_filter (fun z => !z.testBit n) G 64
  have h2 := fb_sm_filter (fun z => z.testBit n) (fun z => G (xclr z n)) 64
  rw [xset_ ⟨n, hn⟩, List.map_map] at h1
  refine Eq.trans ?_ (h1.trans h2.symm)
  refine fb_sm_cong (fun z _ => ?_)
  cases z.testBit n <;> rfl
def xLv (A : Nat → Nat) (j : Nat) (φ : Nat → Nat) : Nat := fb_sm (fun z => if xpc z = j then xto A z * φ z else 0) 64
theorem xLv_0 (A : Nat → Nat) (φ : Nat → Nat) : xLv A 0 φ = φ 0 := by
  unfold xLv
  rw [fb_sm_one (b := 0) (by decide) (fun k hk hne => if_neg (by have := xpc_pos hk (by omega); omega)), if_pos (by decide)]
  show 1 * φ 0 = φ 0
  exact Nat.one_mul _
theorem xLv_cong {A : Nat → Nat} {j : Nat} {φ ψ : Nat → Nat} (h : ∀ z, z < 64 → xpc z = j → φ z = ψ z) : xLv A j φ = xLv A j ψ := by
  unfold xLv
  refine fb_sm_cong (fun z hz => ?_)
  by_cases q : xpc z = j
  · rw [if_pos q, if_pos q, h z hz q]
  · rw [if_neg q, if_neg q]
theorem xLv_s (A : Nat → Nat) (j : Nat) (φ : Nat → Nat) : xLv A j (fun z => fb_sm (fun n => if xok A j n z then φ (z ||| 2 ^ n) else 0) 6) = xLv A (j + 1) φ := by
  let G : Nat → Nat → Nat := fun n z => if xpc z = j ∧ xok A j n z then xto A z * φ (z ||| 2 ^ n) else 0
  have hl : xLv A j (fun z => fb_sm (fun n => if xok A j n z then φ (z ||| 2 ^ n) else 0) 6) = fb_sm (fun z => fb_sm (fun n => G n z) 6) 64 := by
    unfold xLv
    refine fb_sm_cong (fun z hz => ?_)
    by_cases q : xpc z = j
    · rw [if_pos q, fb_sm_mulc]
      refine fb_sm_cong (fun n hn => ?_)
      by_cases w : xok A j n z
      · rw [if_pos w]
        exact (if_pos ⟨q, w⟩).symm
      · rw [if_neg w, Nat.mul_zero]
        exact (if_neg (fun v => w v.2)).symm
    · rw [if_neg q]
      exact (fb_sm_z (fun n _ => if_neg (fun v => q v.1))).symm
  have hr : xLv A (j + 1) φ = fb_sm (fun z => fb_sm (fun n => if z.testBit n = true then G n (xclr z n) else 0) 6) 64 := by
    unfold xLv
    refine fb_sm_cong (fun z hz => ?_)
    by_cases q : xpc z = j + 1
    · have hz0 : 0 < z := by
        rcases Nat.eq_zero_or_pos z with w | w
        · subst w
          exact absurd q (by rw [show xpc 0 = 0 by decide]; omega)
        · exact w
      rw [if_pos q, xto_step A hz hz0, Nat.mul_comm, fb_sm_mulc]
      refine fb_sm_cong (fun n hn => ?_)
      rw [show xpc z - 1 = j by omega]
      by_cases b : z.testBit n = true
      · have hc := xpc_clr hz hn b
        have hj : xpc (xclr z n) = j := by omega
        by_cases w : xok A j n (xclr z n)
        · rw [if_pos ⟨b, w⟩, if_pos b]
          show _ = if xpc (xclr z n) = j ∧ xok A j n (xclr z n) then xto A (xclr z n) * φ (xclr z n ||| 2 ^ n) else 0
          rw [if_pos ⟨hj, w⟩, hc.2.2, Nat.mul_comm]
        · rw [if_neg (fun v => w v.2), if_pos b, Nat.mul_zero]
          exact (if_neg (fun v => w v.2)).symm
      · rw [if_neg b, if_neg (fun v => b v.1), Nat.mul_zero]
    · rw [if_neg q]
      refine (fb_sm_z (fun n hn => ?_)).symm
      by_cases b : z.testBit n = true
      · rw [if_pos b]
        refine if_neg (fun v => q ?_)
        have hc := xpc_clr hz hn b
        omega
      · rw [if_neg b]
  rw [hl, hr, fb_sm_swap (fun z n => G n z) 6 64, fb_sm_swap (fun z n => if z.testBit n = true then G n (xclr z n) else 0) 6 64]
  refine fb_sm_cong (fun n hn => ?_)
  rw [← xreindex hn]
  refine fb_sm_cong (fun z hz => ?_)
  by_cases b : z.testBit n = true
  · rw [if_pos b]
    exact if_neg (fun v => by rw [v.2.2] at b; exact absurd b (by decide))
  · rw [if_neg b]
theorem xLv_all (A : Nat → Nat) : ∀ h, h ≤ 6 → xLv A h (xon A) = xon A 0
  | 0, _ => xLv_0 A _
  | h + 1, hh => by
    rw [← xLv_s, ← xLv_all A h (by omega)]
    refine xLv_cong (fun z hz hp => ?_)
    rw [xon_step A hz (by omega), hp]
theorem xtf_cong {A B : Nat → Nat} : ∀ {r : Nat}, (∀ j, j < r → A j = B j) → ∀ z, xtf A r z = xtf B r z
  | 0, _, _ => rfl
  | r + 1, h, z => by
    show fb_sm _ 6 = fb_sm _ 6
    refine fb_sm_cong (fun n _ => ?_)
    have e := h r (by omega)
    have ih := xtf_cong (A := A) (B := B) (r := r) (fun j hj => h j (by omega))
    simp only [xok, e, ih]
theorem xo_cong {A B : Nat → Nat} : ∀ {r : Nat}, r ≤ 6 → (∀ j, 6 - r ≤ j → A j = B j) → ∀ z, xo A r z = xo B r z
  | 0, _, _, _ => rfl
  | r + 1, hr, h, z => by
    show fb_sm _ 6 = fb_sm _ 6
    refine fb_sm_cong (fun n _ => ?_)
    have e := h (5 - r) (by omega)
    have ih := xo_cong (A := A) (B := B) (r := r) (by omega) (fun j hj => h j (by omega))
    simp only [xok, e, ih]
/-- hull h bears n alone -/
def xone (A : Nat → Nat) (h n j : Nat) : Nat := if j = h then A h &&& 2 ^ n else A j
theorem xone_bit (A : Nat → Nat) (h n m : Nat) : (xone A h n h).testBit m = true ↔ ((A h).testBit m = true ∧ m = n) := by
  unfold xone
  rw [if_pos rfl, Nat.testBit_and, Nat.testBit_two_pow, Bool.and_eq_true, decide_eq_true_eq]
  exact ⟨fun q => ⟨q.1, q.2.symm⟩, fun q => ⟨q.1, q.2.symm⟩⟩
theorem xone_n {A : Nat → Nat} {h n j : Nat} (hj : j ≠ h) : xone A h n j = A j := if_neg hj
theorem xrw_eq (A : Nat → Nat) {h n : Nat} (hh : h < 6) (hn : n < 6) : xon (xone A h n) 0 = xrw A h n := by
  rw [← xLv_all (xone A h n) h (by omega)]
  unfold xLv xrw
  refine fb_sm_cong (fun z hz => ?_)
  by_cases q : xpc z = h
  · have e1 : xto (xone A h n) z = xto A z := by
      unfold xto
      exact xtf_cong (fun j hj => xone_n (by omega)) z
    have e2 : xon (xone A h n) z = if xok A h n z then xon A (z ||| 2 ^ n) else 0 := by
      rw [xon_step _ hz (by omega), q, fb_sm_one (b := n) hn]
      · by_cases w : xok A h n z
        · have w2 : xok (xone A h n) h n z := ⟨(xone_bit A h n n).mpr ⟨w.1, rfl⟩, w.2⟩
          rw [if_pos w2, if_pos w]
          unfold xon
          refine xo_cong (by omega) (fun j hj => xone_n ?_) _
          have := (xpc_or hz hn w.2).1
          omega
        · have w2 : ¬ xok (xone A h n) h n z := fun v => w ⟨((xone_bit A h n n).mp v.1).1, v.2⟩
          rw [if_neg w2, if_neg w]
      · intro k hk hne
        exact if_neg (fun v => hne ((xone_bit A h n k).mp v.1).2)
    rw [if_pos q, e1, e2]
    by_cases w : xok A h n z
    · rw [if_pos w, if_pos ⟨q, w⟩]
    · rw [if_neg w, if_neg (fun v => w v.2), Nat.mul_zero]
  · rw [if_neg q, if_neg (fun v => q v.1)]
theorem xone_row (A : Nat → Nat) {h n k : Nat} (hh : h < 6) : xsA (xone A h n) k ↔ (xsA A k ∧ xl_r k h = n) := by
  constructor
  · intro q
    have w := xall_to q
    have wh := (xone_bit A h n _).mp (w h hh)
    refine ⟨xall_of (fun j hj => ?_), wh.2⟩
    by_cases e : j = h
    · subst e
      exact wh.1
    · have := w j hj
      rw [xone_n e] at this
      exact this
  · rintro ⟨q, e⟩
    have w := xall_to q
    refine xall_of (fun j hj => ?_)
    by_cases c : j = h
    · subst c
      exact (xone_bit A j n _).mpr ⟨w j hj, e⟩
    · rw [xone_n c]
      exact w j hj
/-- of the 720 rows: allowed ones by which hull h bears n -/
theorem xrow_with (A : Nat → Nat) {h n : Nat} (hh : h < 6) (hn : n < 6) : fb_ct (fun k => decide (xsA A k ∧ xl_r k h = n)) 720 = xrw A h n := by
  rw [← xrw_eq A hh hn, ← xrow_count]
  refine fb_ct_cong (fun k _ => ?_)
  exact decide_eq_decide.mpr (xone_row A hh).symm

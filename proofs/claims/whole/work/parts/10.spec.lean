/-! what the document says, in words over the traits F (0 speed, 1 hold, 2 way, 3 load, 4 fee) -/
def xFC (σ : Nat → Nat → Int32) (k : Nat) : Nat → Int32 := match k with
  | 0 => σ 4
  | 1 => σ 5
  | 2 => σ 6
  | 3 => σ 7
  | _ => σ 8
def xFM (σ : Nat → Nat → Int32) (k : Nat) : Nat → Int32 := match k with
  | 0 => σ 1
  | 1 => σ 2
  | 2 => σ 3
  | 3 => σ 4
  | _ => σ 5
abbrev xs_fit (F : Nat → Nat → Int32) (h n : Nat) : Prop := F 2 n ≤ F 0 h ∧ F 3 n ≤ F 1 h
def xs_earn (F : Nat → Nat → Int32) (h n : Nat) : Int32 := if xs_fit F h n then F 4 n else 0
theorem xlt {a b : Int32} : ¬ a < b → b ≤ a := Int32.not_lt.mp
theorem xle {a b : Int32} : ¬ a ≤ b → b < a := Int32.not_le.mp
theorem xnlt {a b : Int32} (h : b ≤ a) : ¬ a < b := Int32.not_lt.mpr h
theorem xnle {a b : Int32} (h : b < a) : ¬ a ≤ b := Int32.not_le.mpr h
/-! the first of the numbers below n with P; n: there is none -/
def xfst (P : Nat → Prop) [DecidablePred P] : Nat → Nat
  | 0 => 0
  | n + 1 => if xfst P n < n then xfst P n else if P n then n else n + 1
theorem xfst_at {P : Nat → Prop} [DecidablePred P] {p : Nat} (h : ∀ k, k < p → ¬ P k) (hp : P p) : ∀ {n : Nat}, p < n → xfst P n = p := by
  have no : ∀ n, n ≤ p → xfst P n = n := by
    intro n
    induction n with
    | zero => intro _; rfl
    | succ n ih =>
      intro hn
      unfold xfst
      rw [ih (by omega), if_neg (by omega), if_neg (h n (by omega))]
  intro n
  induction n with
  | zero => intro h; omega
  | succ n ih =>
    intro hn
    unfold xfst
    by_cases q : p < n
    · rw [ih q, if_pos q]
    · have e : n = p := by omega
      subst e
      rw [no n (Nat.le_refl _), if_neg (by omega), if_pos hp]
theorem xfst_no {P : Nat → Prop} [DecidablePred P] {n : Nat} (h : ∀ k, k < n → ¬ P k) : xfst P n = n := by
  induction n with
  | zero => rfl
  | succ n ih =>
    unfold xfst
    rw [ih (fun k hk => h k (by omega)), if_neg (by omega), if_neg (h n (by omega))]
theorem xfst_or {P : Nat → Prop} [DecidablePred P] (n : Nat) : (∃ p, p < n ∧ P p ∧ ∀ k, k < p → ¬ P k) ∨ ∀ k, k < n → ¬ P k := by
  induction n with
  | zero => exact Or.inr (fun k hk => absurd hk (Nat.not_lt_zero k))
  | succ n ih =>
    rcases ih with ⟨p, h1, h2, h3⟩ | ih
    · exact Or.inl ⟨p, by omega, h2, h3⟩
    · by_cases q : P n
      · exact Or.inl ⟨n, by omega, q, ih⟩
      · refine Or.inr (fun k hk => ?_)
        by_cases e : k = n
        · rw [e]; exact q
        · exact ih k (by omega)
/-! THE BOOK: T its bytes, L how many -/
abbrev xisin (t x : Int32) : Prop := (t >>> (x &&& 31)) &&& 1 = 1
def xt_b (T : Nat → Int32) : Nat → Int32
  | 0 => 0
  | p + 1 => if p % 7 = 6 then 0 else xt_b T p ||| ((1 : Int32) <<< ((T p - 48) &&& 31))
abbrev xt_bad (T : Nat → Int32) (p : Nat) : Prop := p / 7 = 12 ∨ (p % 7 = 6 ∧ ¬ T p = nI 59) ∨ (¬ p % 7 = 6 ∧ (¬ xin (T p - nI 48) 6 ∨ xisin (xt_b T p) (T p - nI 48)))
def xt_fault (T : Nat → Int32) (L : Nat) : Int32 := if xfst (xt_bad T) L < L then nI (xfst (xt_bad T) L) else if L = 0 ∨ L % 7 = 6 then -1 else nI L
def xt_years (T : Nat → Int32) (L : Nat) : Nat := if xt_fault T L = -1 then (L + 1) / 7 else 0
theorem xt_fault_at {T : Nat → Int32} {L p : Nat} (hp : p < L) (h : ∀ k, k < p → ¬ xt_bad T k) (hb : xt_bad T p) : xt_fault T L = nI p := by
  unfold xt_fault
  rw [xfst_at h hb hp, if_pos hp]
theorem xt_fault_no {T : Nat → Int32} {L : Nat} (h : ∀ k, k < L → ¬ xt_bad T k) : xt_fault T L = if L = 0 ∨ L % 7 = 6 then -1 else nI L := by
  unfold xt_fault
  rw [xfst_no h, if_neg (Nat.lt_irrefl L)]
theorem xup_s {α : Type} (f : Nat → α) (k : Nat) (v : α) : va_up f k v k = v := if_pos rfl
theorem xup_n {α : Type} (f : Nat → α) {k j : Nat} (v : α) (h : j ≠ k) : va_up f k v j = f j := if_neg h
theorem nI_m1 {n : Nat} (h : n < 2 ^ 31) : ¬ nI n = -1 := by
  intro q
  have := nI_pos (n := n) h
  rw [q] at this
  exact this (by decide)
def xst_add (σ : Nat → Nat → Int32) (L : Nat) (b : Int32) : Nat → Nat → Int32 := va_up (va_up σ 10 (upd (σ 10) L b)) 9 (upd (σ 9) 1 (nI (L + 1)))
def xst_parse (σ : Nat → Nat → Int32) (L : Nat) : Nat → Nat → Int32 := va_up σ 9 (upd (upd (σ 9) 3 (xt_fault (σ 10) L)) 2 (nI (xt_years (σ 10) L)))
section XIFN
variable {p : Program} {l : Launch} {e : Env} {R : Room} {s : State} {m : MethodId} {args : Array Value} {below : List Frame} {meth : Method} {c : Code} {H : Heap} {locs : List Loc} {cells slots : Nat} {Q : State → Prop}
variable {cc : ByteArray} {pc nL : Nat} {ls : Array Slot} {rest : List Value} {Ts : List Cond} {own : String}
theorem x_ifN_eq (S : CallFix p m c cc nL s args Ts own) {a : Nat} {off : Int} {tgt : Nat} (hdg : decode cc pc = .ok (.ifCond .eq off, 3)) (ht : (pc : Int) + off = (tgt : Int)) (ha : a < 2 ^ 31) (kt : a = 0 → W p l e R s m args below meth c H locs cells slots Q (F0 m tgt ls rest)) (kf : 0 < a → W p l e R s m args below meth c H locs cells slots Q (F0 m (pc + 3) ls rest)) : W p l e R s m args below meth c H locs cells slots Q (F0 m pc ls (.int (nI a) :: rest)) := lv_if_eq S.1 S.2.1 hdg ht (fun h => kt (by rcases Nat.eq_zero_or_pos a with q | q; exact q; exact absurd h (nI_ne0 q ha))) (fun h => kf (by rcases Nat.eq_zero_or_pos a with q | q; exact absurd (by rw [q]; rfl) h; exact q))
theorem x_ifN_ne (S : CallFix p m c cc nL s args Ts own) {a : Nat} {off : Int} {tgt : Nat} (hdg : decode cc pc = .ok (.ifCond .ne off, 3)) (ht : (pc : Int) + off = (tgt : Int)) (ha : a < 2 ^ 31) (kt : 0 < a → W p l e R s m args below meth c H locs cells slots Q (F0 m tgt ls rest)) (kf : a = 0 → W p l e R s m args below meth c H locs cells slots Q (F0 m (pc + 3) ls rest)) : W p l e R s m args below meth c H locs cells slots Q (F0 m pc ls (.int (nI a) :: rest)) := lv_if_ne S.1 S.2.1 hdg ht (fun h => kt (by rcases Nat.eq_zero_or_pos a with q | q; exact absurd (by rw [q]; rfl) h; exact q)) (fun h => kf (by rcases Nat.eq_zero_or_pos a with q | q; exact q; exact absurd h (nI_ne0 q ha)))
theorem x_ifN_gt (S : CallFix p m c cc nL s args Ts own) {a : Nat} {off : Int} {tgt : Nat} (hdg : decode cc pc = .ok (.ifCond .gt off, 3)) (ht : (pc : Int) + off = (tgt : Int)) (ha : a < 2 ^ 31) (kt : 0 < a → W p l e R s m args below meth c H locs cells slots Q (F0 m tgt ls rest)) (kf : a = 0 → W p l e R s m args below meth c H locs cells slots Q (F0 m (pc + 3) ls rest)) : W p l e R s m args below meth c H locs cells slots Q (F0 m pc ls (.int (nI a) :: rest)) := lv_if_gt S.1 S.2.1 hdg ht (fun h => kt ((nI_ltI (Nat.lt_of_le_of_lt (Nat.zero_le _) ha) ha).mp h)) (fun h => kf (by rcases Nat.eq_zero_or_pos a with q | q; exact q; exact absurd (nI_lt q ha) h))
theorem x_ifN_le (S : CallFix p m c cc nL s args Ts own) {a : Nat} {off : Int} {tgt : Nat} (hdg : decode cc pc = .ok (.ifCond .le off, 3)) (ht : (pc : Int) + off = (tgt : Int)) (ha : a < 2 ^ 31) (kt : a = 0 → W p l e R s m args below meth c H locs cells slots Q (F0 m tgt ls rest)) (kf : 0 < a → W p l e R s m args below meth c H locs cells slots Q (F0 m (pc + 3) ls rest)) : W p l e R s m args below meth c H locs cells slots Q (F0 m pc ls (.int (nI a) :: rest)) := lv_if_le S.1 S.2.1 hdg ht (fun h => kt (by rcases Nat.eq_zero_or_pos a with q | q; exact q; exact absurd h (nI_nle q ha))) (fun h => kf (by rcases Nat.eq_zero_or_pos a with q | q; exact absurd (by rw [q]; decide) h; exact q))
theorem x_ifN_lt (S : CallFix p m c cc nL s args Ts own) {a : Nat} {off : Int} {tgt : Nat} (hdg : decode cc pc = .ok (.ifCond .lt off, 3)) (ht : (pc : Int) + off = (tgt : Int)) (ha : a < 2 ^ 31) (kf : W p l e R s m args below meth c H locs cells slots Q (F0 m (pc + 3) ls rest)) : W p l e R s m args below meth c H locs cells slots Q (F0 m pc ls (.int (nI a) :: rest)) := lv_if_lt S.1 S.2.1 hdg ht (fun h => absurd h (nI_pos ha)) (fun _ => kf)
theorem x_ifN_ge (S : CallFix p m c cc nL s args Ts own) {a : Nat} {off : Int} {tgt : Nat} (hdg : decode cc pc = .ok (.ifCond .ge off, 3)) (ht : (pc : Int) + off = (tgt : Int)) (ha : a < 2 ^ 31) (kt : W p l e R s m args below meth c H locs cells slots Q (F0 m tgt ls rest)) : W p l e R s m args below meth c H locs cells slots Q (F0 m pc ls (.int (nI a) :: rest)) := lv_if_ge S.1 S.2.1 hdg ht (fun _ => kt) (fun h => absurd (nI_pos' ha) h)
end XIFN
/-! years: the name that hull h bears in year y; sums and firsts over years -/
def xnm (T : Nat → Int32) (y h : Nat) : Nat := (T (y * 7 + h) - nI 48).toNatClampNeg
def xY (T : Nat → Int32) (Y : Nat) : Prop := ∀ y, y < Y → ∀ h, h < 6 → xnm T y h < 6 ∧ T (y * 7 + h) - nI 48 = nI (xnm T y h)
def xsum (f : Nat → Int32) : Nat → Int32
  | 0 => 0
  | i + 1 => xsum f i + f i
def xbear (T : Nat → Int32) (y n : Nat) : Nat := xfst (fun h => xnm T y h = n) 5
def xs_purse (F : Nat → Nat → Int32) (T : Nat → Int32) (h k : Nat) : Int32 := xsum (fun y => xs_earn F h (xnm T y h)) k
def xs_shame (F : Nat → Nat → Int32) (T : Nat → Int32) (n k : Nat) : Int32 := xsum (fun y => if xs_fit F (xbear T y n) n then 0 else 1) k
def xs_been (T : Nat → Int32) (h : Nat) : Nat → Int32
  | 0 => 0
  | y + 1 => xs_been T h y ||| ((1 : Int32) <<< (nI (xnm T y h) &&& 31))
def xs_as (T : Nat → Int32) (Y a b : Nat) : Int32 := if xfst (fun y => xnm T y a = b ∧ xnm T y b = a) Y < Y then nI (xfst (fun y => xnm T y a = b ∧ xnm T y b = a) Y) else -1
def xs_on (T : Nat → Int32) (y h : Nat) : Nat → Nat
  | 0 => h
  | t + 1 => xnm T y (xs_on T y h t)
theorem xs_on_lt {T : Nat → Int32} {Y y h : Nat} (hY : xY T Y) (hy : y < Y) (hh : h < 6) : ∀ t, xs_on T y h t < 6
  | 0 => hh
  | t + 1 => (hY y hy _ (xs_on_lt hY hy hh t)).1
theorem xsum_s (f : Nat → Int32) (i : Nat) : xsum f (i + 1) = xsum f i + f i := rfl
theorem xs_as_at {T : Nat → Int32} {Y a b p : Nat} (hp : p < Y) (h : ∀ k, k < p → ¬ (xnm T k a = b ∧ xnm T k b = a)) (hb : xnm T p a = b ∧ xnm T p b = a) : xs_as T Y a b = nI p := by
  unfold xs_as
  rw [xfst_at h hb hp, if_pos hp]
theorem xs_as_no {T : Nat → Int32} {Y a b : Nat} (h : ∀ k, k < Y → ¬ (xnm T k a = b ∧ xnm T k b = a)) : xs_as T Y a b = -1 := by
  unfold xs_as
  rw [xfst_no h, if_neg (Nat.lt_irrefl _)]
theorem xbear_lt (T : Nat → Int32) (y n : Nat) : xbear T y n < 6 := by
  unfold xbear
  rcases xfst_or (P := fun h => xnm T y h = n) 5 with ⟨p, h1, h2, h3⟩ | h
  · rw [xfst_at h3 h2 h1]; omega
  · rw [xfst_no h]; omega
theorem xi0 (x : Int32) : x + 0 = x := by simp
abbrev xall (P : Nat → Prop) [DecidablePred P] (n : Nat) : Prop := xfst (fun k => ¬ P k) n = n
theorem xall_of {P : Nat → Prop} [DecidablePred P] {n : Nat} (h : ∀ k, k < n → P k) : xall P n := xfst_no (fun k hk q => q (h k hk))
theorem xall_to {P : Nat → Prop} [DecidablePred P] {n : Nat} (h : xall P n) : ∀ k, k < n → P k := by
  rcases xfst_or (P := fun k => ¬ P k) n with ⟨p, h1, h2, h3⟩ | h2
  · rw [xall, xfst_at h3 h2 h1] at h
    omega
  · exact fun k hk => Decidable.byContradiction (h2 k hk)

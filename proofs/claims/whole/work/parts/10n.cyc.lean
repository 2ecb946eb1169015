/-! lots drawn on for ever come home -/
theorem xs_on_add (T : Nat → Int32) (y h a : Nat) : ∀ b, xs_on T y h (a + b) = xs_on T y (xs_on T y h a) b
  | 0 => rfl
  | b + 1 => by
    show xnm T y (xs_on T y h (a + b)) = xnm T y (xs_on T y (xs_on T y h a) b)
    rw [xs_on_add T y h a b]
theorem xs_on_mul {T : Nat → Int32} {y h c : Nat} (hc : xs_on T y h c = h) : ∀ n, xs_on T y h (n * c) = h
  | 0 => by rw [Nat.zero_mul]; rfl
  | n + 1 => by rw [Nat.succ_mul, Nat.add_comm, xs_on_add, hc, xs_on_mul hc n]
theorem xs_on_inj {T : Nat → Int32} {Y y h : Nat} (hY : xY T Y) (hP : xPm T Y) (hy : y < Y) (hh : h < 6) : ∀ i j, xs_on T y h i = xs_on T y h (i + j) → h = xs_on T y h j
  | 0, j, e => by rw [Nat.zero_add] at e; exact e
  | i + 1, j, e => by
    rw [show i + 1 + j = (i + j) + 1 by omega] at e
    exact xs_on_inj hY hP hy hh i j (hP y hy _ (xs_on_lt hY hy hh _) _ (xs_on_lt hY hy hh _) e)
theorem xs_on_60 {T : Nat → Int32} {Y y h : Nat} (hY : xY T Y) (hP : xPm T Y) (hy : y < Y) (hh : h < 6) : xs_on T y h 60 = h := by
  obtain ⟨i, j, hij, hj, e⟩ := fb_twice (m := 6) (n := 7) (f := xs_on T y h) (fun i _ => xs_on_lt hY hy hh i) (by omega)
  have hc := xs_on_inj hY hP hy hh i (j - i) (by rw [show i + (j - i) = j by omega]; exact e)
  have hd : j - i = 1 ∨ j - i = 2 ∨ j - i = 3 ∨ j - i = 4 ∨ j - i = 5 ∨ j - i = 6 := by omega
  rcases hd with q | q | q | q | q | q <;> rw [q] at hc
  · exact xs_on_mul hc.symm 60
  · exact xs_on_mul hc.symm 30
  · exact xs_on_mul hc.symm 20
  · exact xs_on_mul hc.symm 15
  · exact xs_on_mul hc.symm 12
  · exact xs_on_mul hc.symm 10
theorem xs_ret_spec {T : Nat → Int32} {Y y : Nat} {x : Int32} (hY : xY T Y) (hP : xPm T Y) (hy : y < Y) (hx : x = -1 ∨ xin x 6) : xs_ret T y x < 60 ∧ xs_bk T y x (xs_ret T y x + 1) ∧ ∀ k, k < xs_ret T y x → ¬ xs_bk T y x (k + 1) := by
  have h60 : xs_bk T y x (59 + 1) := by
    rcases hx with q | q
    · exact Or.inl ⟨q, xall_of (fun h hh => xs_on_60 hY hP hy hh)⟩
    · obtain ⟨j, hj, rfl⟩ := xin_of q (by decide)
      refine Or.inr ⟨nI_m1 (by omega), ?_⟩
      rw [cN_nI (by omega)]
      exact xs_on_60 hY hP hy hj
  unfold xs_ret
  rcases xfst_or (P := fun k => xs_bk T y x (k + 1)) 720 with ⟨p, h1, h2, h3⟩ | h2
  · rw [xfst_at h3 h2 h1]
    refine ⟨?_, h2, h3⟩
    rcases Nat.lt_or_ge p 60 with q | q
    · exact q
    · exact absurd h60 (h3 59 (by omega))
  · exact absurd h60 (h2 59 (by omega))
def xs_rm (F : Nat → Nat → Int32) (T : Nat → Int32) (y : Nat) : Nat := fb_sm (fun a => fb_sm (fun b => if xs_wc F T y a b ∧ xs_wc F T y b a then 1 else 0) a) 6
theorem xs_rm_eq (F : Nat → Nat → Int32) (T : Nat → Int32) (y : Nat) : xs_rm F T y = xs_rather F T y := by
  unfold xs_rm xs_rather
  have hs : ∀ a b, (if xs_wc F T y a b ∧ xs_wc F T y b a then 1 else 0) = (if xs_wc F T y b a ∧ xs_wc F T y a b then 1 else 0) := by
    intro a b
    by_cases q : xs_wc F T y a b ∧ xs_wc F T y b a
    · rw [if_pos q, if_pos ⟨q.2, q.1⟩]
    · rw [if_neg q, if_neg (fun w => q ⟨w.2, w.1⟩)]
  have hl : ∀ a b, a < b → (if a < b ∧ (xs_wc F T y a b ∧ xs_wc F T y b a) then 1 else 0) = (if xs_wc F T y b a ∧ xs_wc F T y a b then 1 else 0) := by
    intro a b hab
    rw [← hs a b]
    by_cases q : xs_wc F T y a b ∧ xs_wc F T y b a
    · rw [if_pos ⟨hab, q⟩, if_pos q]
    · rw [if_neg (fun w => q w.2), if_neg q]
  have hg : ∀ a b, ¬ a < b → (if a < b ∧ (xs_wc F T y a b ∧ xs_wc F T y b a) then 1 else 0) = 0 := fun a b h => if_neg (fun w => h w.1)
  generalize hq : (fun a b => if xs_wc F T y a b ∧ xs_wc F T y b a then 1 else 0) = g at *
  have e1 : ∀ a, fb_sm (fun b => if xs_wc F T y a b ∧ xs_wc F T y b a then 1 else 0) a = fb_sm (fun b => g a b) a := fun a => by rw [← hq]
  have e2 : ∀ a, fb_sm (fun b => if a < b ∧ (xs_wc F T y a b ∧ xs_wc F T y b a) then 1 else 0) 6 = fb_sm (fun b => if a < b then g b a else 0) 6 := by
    intro a
    refine fb_sm_cong (fun b _ => ?_)
    by_cases q : a < b
    · rw [hl a b q, if_pos q, ← hq]
    · rw [hg a b q, if_neg q]
  rw [fb_sm_cong (fun a _ => e1 a), fb_sm_cong (fun a _ => e2 a)]
  simp [fb_sm]
  omega

/-! the first of the best rows -/
def xcmb (v : List Nat → Nat) (o q : Option (List Nat)) : Option (List Nat) := match o, q with
  | none, q => q
  | some a, none => some a
  | some a, some b => if v a < v b then some b else some a
theorem xcmb_n (v : List Nat → Nat) (o : Option (List Nat)) : xcmb v o none = o := by cases o <;> rfl
theorem xcmb_a (v : List Nat → Nat) (o q r : Option (List Nat)) : xcmb v (xcmb v o q) r = xcmb v o (xcmb v q r) := by
  cases o with
  | none => rfl
  | some a =>
    cases q with
    | none => rfl
    | some b =>
      cases r with
      | none => rw [xcmb_n, xcmb_n]
      | some c =>
        show xcmb v (if v a < v b then some b else some a) (some c) = xcmb v (some a) (if v b < v c then some c else some b)
        by_cases h1 : v a < v b <;> by_cases h2 : v b < v c
        · rw [if_pos h1, if_pos h2]
          show (if v b < v c then some c else some b) = (if v a < v c then some c else some a)
          rw [if_pos h2, if_pos (by omega)]
        · rw [if_pos h1, if_neg h2]
          show (if v b < v c then some c else some b) = (if v a < v b then some b else some a)
          rw [if_neg h2, if_pos h1]
        · rw [if_neg h1, if_pos h2]
        · rw [if_neg h1, if_neg h2]
          show (if v a < v c then some c else some a) = (if v a < v b then some b else some a)
          rw [if_neg (by omega), if_neg h1]
def xbst (v : List Nat → Nat) : List (List Nat) → Option (List Nat)
  | [] => none
  | l :: L => xcmb v (some l) (xbst v L)
theorem xbst_app (v : List Nat → Nat) : ∀ L M, xbst v (L ++ M) = xcmb v (xbst v L) (xbst v M)
  | [], M => rfl
  | l :: L, M => by
    show xcmb v (some l) (xbst v (L ++ M)) = xcmb v (xcmb v (some l) (xbst v L)) (xbst v M)
    rw [xbst_app v L M, xcmb_a]
theorem xbst_map {v w : List Nat → Nat} {n c : Nat} (h : ∀ l, v (n :: l) = c + w l) : ∀ L, xbst v (L.map (fun l => n :: l)) = (xbst w L).map (fun l => n :: l)
  | [] => rfl
  | l :: L => by
    show xcmb v (some (n :: l)) (xbst v (L.map (fun l => n :: l))) = (xcmb w (some l) (xbst w L)).map (fun l => n :: l)
    rw [xbst_map h L]
    cases xbst w L with
    | none => rfl
    | some b =>
      show (if v (n :: l) < v (n :: b) then some (n :: b) else some (n :: l)) = (if w l < w b then some b else some l).map (fun l => n :: l)
      rw [h, h]
      by_cases q : w l < w b
      · rw [if_pos q, if_pos (by omega)]
        rfl
      · rw [if_neg q, if_neg (by omega)]
        rfl
def xval (E : Nat → Nat → Nat) : Nat → List Nat → Nat
  | _, [] => 0
  | h, n :: l => E h n + xval E (h + 1) l
def xbrow (E : Nat → Nat → Nat) : Nat → Nat → List Nat
  | 0, _ => []
  | r + 1, z => xbl E z (5 - r) :: xbrow E r (z ||| 2 ^ xbl E z (5 - r))
theorem xbst_flat {v : List Nat → Nat} {T : Nat → List (List Nat)} {p : Nat → Bool} {g : Nat → List Nat} : ∀ {m : Nat}, (∀ k, k < m → xbst v (T k) = if p k = true then none else some (g k)) → ((∀ k, k < m → p k = true) ∧ xbst v ((List.range m).flatMap T) = none ∧ xmx (fun n => if p n = true then 0 else v (g n)) m = 0) ∨ (∃ n, n < m ∧ p n = false ∧ v (g n) = xmx (fun n => if p n = true then 0 else v (g n)) m ∧ (∀ j, j < n → p j = false → v (g j) < v (g n)) ∧ xbst v ((List.range m).flatMap T) = some (g n))
  | 0, _ => Or.inl ⟨fun k hk => absurd hk (Nat.not_lt_zero k), rfl, rfl⟩
  | m + 1, h => by
    have ih := xbst_flat (v := v) (T := T) (p := p) (g := g) (m := m) (fun k hk => h k (by omega))
    have eL : xbst v ((List.range (m + 1)).flatMap T) = xcmb v (xbst v ((List.range m).flatMap T)) (if p m = true then none else some (g m)) := by
      rw [List.range_succ, List.flatMap_append, xbst_app, List.flatMap_cons, List.flatMap_nil, List.append_nil, h m (by omega)]
    have eM : xmx (fun n => if p n = true then 0 else v (g n)) (m + 1) = max (xmx (fun n => if p n = true then 0 else v (g n)) m) (if p m = true then 0 else v (g m)) := rfl
    rw [eL, eM]
    rcases ih with ⟨h1, h2, h3⟩ | ⟨n, h1, h2, h3, h4, h5⟩
    · rw [h2, h3]
      by_cases q : p m = true
      · rw [if_pos q, if_pos q]
        exact Or.inl ⟨lt_s h1 q, rfl, rfl⟩
      · rw [if_neg q, if_neg q]
        refine Or.inr ⟨m, by omega, by simpa using q, by omega, fun j hj e => ?_, rfl⟩
        rw [h1 j hj] at e
        exact absurd e (by decide)
    · rw [h5]
      by_cases q : p m = true
      · rw [if_pos q, if_pos q, xcmb_n]
        exact Or.inr ⟨n, by omega, h2, by omega, h4, rfl⟩
      · rw [if_neg q, if_neg q]
        show _ ∨ ∃ k, k < m + 1 ∧ p k = false ∧ v (g k) = _ ∧ _ ∧ (if v (g n) < v (g m) then some (g m) else some (g n)) = some (g k)
        by_cases w : v (g n) < v (g m)
        · rw [if_pos w]
          refine Or.inr ⟨m, by omega, by simpa using q, by omega, fun j hj e => ?_, rfl⟩
          have := xmx_ge (f := fun n => if p n = true then 0 else v (g n)) hj
          rw [if_neg (by rw [e]; decide)] at this
          omega
        · rw [if_neg w]
          exact Or.inr ⟨n, by omega, h2, by omega, h4, rfl⟩
theorem xrws_best (E : Nat → Nat → Nat) : ∀ r z, r ≤ 6 → z < 64 → xpc z = 6 - r → xbst (xval E (6 - r)) (xrws r z) = some (xbrow E r z) ∧ xval E (6 - r) (xbrow E r z) = xbm E z
  | 0, z, _, _, hp => by
    refine ⟨rfl, ?_⟩
    unfold xbm
    rw [hp]
    rfl
  | r + 1, z, hr, hz, hp => by
    have e : 6 - (r + 1) = 5 - r := by omega
    have e2 : 6 - r = 5 - r + 1 := by omega
    rw [e] at hp ⊢
    have ih : ∀ n, n < 6 → z.testBit n = false → xbst (xval E (6 - r)) (xrws r (z ||| 2 ^ n)) = some (xbrow E r (z ||| 2 ^ n)) ∧ xval E (6 - r) (xbrow E r (z ||| 2 ^ n)) = xbm E (z ||| 2 ^ n) := fun n hn q => xrws_best E r (z ||| 2 ^ n) (by omega) (xor64 hz hn) (by rw [(xpc_or hz hn q).1, hp]; omega)
    have hT : ∀ n, n < 6 → xbst (xval E (5 - r)) ((if z.testBit n = true then [] else (xrws r (z ||| 2 ^ n)).map (fun l => n :: l)) : List (List Nat)) = if z.testBit n = true then none else some (n :: xbrow E r (z ||| 2 ^ n)) := by
      intro n hn
      by_cases q : z.testBit n = true
      · rw [if_pos q, if_pos q]
        rfl
      · have q2 : z.testBit n = false := by simpa using q
        rw [if_neg q, if_neg q, xbst_map (w := xval E (6 - r)) (c := E (5 - r) n) (fun l => by rw [e2]; rfl), (ih n hn q2).1]
        rfl
    have hv : ∀ n, n < 6 → z.testBit n = false → xval E (5 - r) (n :: xbrow E r (z ||| 2 ^ n)) = E (5 - r) n + xbm E (z ||| 2 ^ n) := by
      intro n hn q
      rw [← (ih n hn q).2, e2]
      rfl
    have hm : xmx (fun n => if z.testBit n = true then 0 else xval E (5 - r) (n :: xbrow E r (z ||| 2 ^ n))) 6 = xbm E z := by
      rw [xbm_step E hz (by omega), hp]
      refine xmx_cong (fun n hn => ?_)
      by_cases q : z.testBit n = true
      · rw [if_pos q, if_pos q]
      · rw [if_neg q, if_neg q, hv n hn (by simpa using q)]
    rcases xbst_flat (v := xval E (5 - r)) (p := fun n => z.testBit n) (g := fun n => n :: xbrow E r (z ||| 2 ^ n)) (m := 6) hT with ⟨h1, -, -⟩ | ⟨n, h1, h2, h3, h4, h5⟩
    · obtain ⟨n, hn, hf⟩ := xfree hz (by omega)
      rw [h1 n hn] at hf
      exact absurd hf (by decide)
    · rw [hm] at h3
      have hb : xbl E z (5 - r) = n := by
        unfold xbl
        refine xfst_at (fun k hk q => ?_) ⟨h2, ?_⟩ h1
        · have a1 := h4 k hk q.1
          rw [h3, hv k (by omega) q.1] at a1
          have := q.2
          omega
        · rw [← hv n h1 h2]
          exact h3
      have er : xbrow E (r + 1) z = n :: xbrow E r (z ||| 2 ^ n) := by
        show xbl E z (5 - r) :: xbrow E r (z ||| 2 ^ xbl E z (5 - r)) = _
        rw [hb]
      rw [er]
      exact ⟨h5, h3⟩
/-- the sum of row k; the greatest among the first i, and its row -/
def xbs (E : Nat → Nat → Nat) (k : Nat) : Nat := fb_sm (fun h => E h (xl_r k h)) 6
def xbb (E : Nat → Nat → Nat) : Nat → Int32
  | 0 => -1
  | i + 1 => if xbb E i < nI (xbs E i) then nI (xbs E i) else xbb E i
def xbi (E : Nat → Nat → Nat) : Nat → Nat
  | 0 => 0
  | i + 1 => if xbb E i < nI (xbs E i) then i else xbi E i
theorem xbs_val (E : Nat → Nat → Nat) (k : Nat) : xval E 0 (xrowL k) = xbs E k := by
  unfold xbs xrowL
  show E 0 _ + (E 1 _ + (E 2 _ + (E 3 _ + (E 4 _ + (E 5 _ + 0))))) = 0 + E 0 (xl_r k 0) + E 1 (xl_r k 1) + E 2 (xl_r k 2) + E 3 (xl_r k 3) + E 4 (xl_r k 4) + E 5 (xl_r k 5)
  omega
theorem xbs_le {E : Nat → Nat → Nat} (hE : ∀ h, h < 6 → ∀ n, n < 6 → E h n ≤ 9) {k : Nat} (hk : k < 720) : xbs E k ≤ 54 := by
  have := fb_sm_bound (f := fun h => E h (xl_r k h)) (c := 9) (n := 6) (fun h hh => hE h hh _ (xl_r_lt hk hh))
  unfold xbs
  omega
theorem xbi_lt (E : Nat → Nat → Nat) : ∀ i, i ≤ 720 → xbi E i < 720
  | 0, _ => show 0 < 720 by decide
  | i + 1, h => by
    have ih := xbi_lt E i (by omega)
    unfold xbi
    split <;> omega
theorem xbb_spec {E : Nat → Nat → Nat} (hE : ∀ h, h < 6 → ∀ n, n < 6 → E h n ≤ 9) : ∀ i, i < 720 → xbb E (i + 1) = nI (xbs E (xbi E (i + 1))) ∧ xbst (xval E 0) ((List.range (i + 1)).map xrowL) = some (xrowL (xbi E (i + 1)))
  | 0, _ => by
    have h1 := xbs_le hE (show 0 < 720 by decide)
    have c : xbb E 0 < nI (xbs E 0) := Int32.lt_of_lt_of_le (show (-1 : Int32) < 0 by decide) (nI_pos' (by omega))
    have e1 : xbi E (0 + 1) = 0 := if_pos c
    have e2 : xbb E (0 + 1) = nI (xbs E 0) := if_pos c
    rw [e1, e2]
    exact ⟨rfl, rfl⟩
  | i + 1, hi => by
    obtain ⟨h1, h2⟩ := xbb_spec hE i (by omega)
    have hb := xbs_le hE (show i + 1 < 720 from hi)
    have hb2 := xbs_le hE (xbi_lt E (i + 1) (by omega))
    have eL : xbst (xval E 0) ((List.range (i + 1 + 1)).map xrowL) = if xbs E (xbi E (i + 1)) < xbs E (i + 1) then some (xrowL (i + 1)) else some (xrowL (xbi E (i + 1))) := by
      rw [List.range_succ, List.map_append, xbst_app, h2]
      show (if xval E 0 (xrowL (xbi E (i + 1))) < xval E 0 (xrowL (i + 1)) then some (xrowL (i + 1)) else some (xrowL (xbi E (i + 1)))) = _
      rw [xbs_val, xbs_val]
    rw [eL]
    by_cases q : xbs E (xbi E (i + 1)) < xbs E (i + 1)
    · have c : xbb E (i + 1) < nI (xbs E (i + 1)) := by
        rw [h1]
        exact nI_lt q (by omega)
      have e1 : xbi E (i + 1 + 1) = i + 1 := if_pos c
      have e2 : xbb E (i + 1 + 1) = nI (xbs E (i + 1)) := if_pos c
      rw [e1, e2, if_pos q]
      exact ⟨rfl, rfl⟩
    · have c : ¬ xbb E (i + 1) < nI (xbs E (i + 1)) := by
        rw [h1, nI_ltI (by omega) (by omega)]
        exact q
      have e1 : xbi E (i + 1 + 1) = xbi E (i + 1) := if_neg c
      have e2 : xbb E (i + 1 + 1) = xbb E (i + 1) := if_neg c
      rw [e1, e2, if_neg q]
      exact ⟨h1, rfl⟩
theorem xbest_eq {E : Nat → Nat → Nat} (hE : ∀ h, h < 6 → ∀ n, n < 6 → E h n ≤ 9) : xbb E 720 = nI (xbm E 0) ∧ ∀ h, h < 6 → xl_r (xbi E 720) h = xbl E (xbt E h) h := by
  obtain ⟨h1, h2⟩ := xbb_spec hE 719 (by decide)
  obtain ⟨h3, h4⟩ := xrws_best E 6 0 (Nat.le_refl 6) (by decide) (by decide)
  rw [show 719 + 1 = 720 from rfl] at h1 h2
  rw [xrws_all] at h2
  have h2 : xbst (xval E (6 - 6)) (xrws 6 0) = some (xrowL (xbi E 720)) := h2
  rw [h3] at h2
  have hr := Option.some.inj h2
  have h4 : xval E 0 (xbrow E 6 0) = xbm E 0 := h4
  rw [hr, xbs_val] at h4
  refine ⟨by rw [h1, h4], fun j hj => ?_⟩
  have e : xbrow E 6 0 = [xbl E (xbt E 0) 0, xbl E (xbt E 1) 1, xbl E (xbt E 2) 2, xbl E (xbt E 3) 3, xbl E (xbt E 4) 4, xbl E (xbt E 5) 5] := rfl
  rw [e, xrowL] at hr
  simp only [List.cons.injEq, and_true] at hr
  rcases (show j = 0 ∨ j = 1 ∨ j = 2 ∨ j = 3 ∨ j = 4 ∨ j = 5 by omega) with rfl | rfl | rfl | rfl | rfl | rfl
  · exact hr.1.symm
  · exact hr.2.1.symm
  · exact hr.2.2.1.symm
  · exact hr.2.2.2.1.symm
  · exact hr.2.2.2.2.1.symm
  · exact hr.2.2.2.2.2.symm
/-! both sides of sound, chance, could -/
theorem xA_bit (F : Nat → Nat → Int32) (h : Nat) {n : Nat} (hn : n < 6) : (xA F h).testBit n = true ↔ xs_fit F h n := by
  unfold xA
  rw [xmask_bit, decide_eq_true_eq]
  exact ⟨fun q => q.2, fun q => ⟨hn, q⟩⟩
theorem xso_A {F : Nat → Nat → Int32} {k : Nat} (hk : k < 720) : xso F k ↔ xsA (xA F) k := by
  constructor
  · intro q
    exact xall_of (fun h hh => (xA_bit F h (xl_r_lt hk hh)).mpr (xall_to q h hh))
  · intro q
    exact xall_of (fun h hh => (xA_bit F h (xl_r_lt hk hh)).mp (xall_to q h hh))
theorem xson_A (F : Nat → Nat → Int32) {i : Nat} (hi : i ≤ 720) : xson F i = fb_ct (fun k => decide (xsA (xA F) k)) i := by
  unfold xson
  exact fb_ct_cong (fun k hk => decide_eq_decide.mpr (xso_A (by omega)))
theorem xson_eq (F : Nat → Nat → Int32) : xson F 720 = xon (xA F) 0 := by rw [xson_A F (Nat.le_refl 720), xrow_count]
theorem xsrn_eq (F : Nat → Nat → Int32) {h n : Nat} (hh : h < 6) (hn : n < 6) : xsrn F h n 720 = xrw (xA F) h n := by
  rw [← xrow_with _ hh hn]
  unfold xsrn
  refine fb_ct_cong (fun k hk => decide_eq_decide.mpr ?_)
  exact ⟨fun q => ⟨(xso_A hk).mp q.1, q.2⟩, fun q => ⟨(xso_A hk).mpr q.1, q.2⟩⟩
theorem xrf_s (A : Nat → Nat) (i : Nat) : xrf A (i + 1) = (xrf A i).or (if xsA A i then some i else none) := by
  unfold xrf
  rw [List.range_succ, List.find?_append]
  congr 1
  by_cases q : xsA A i
  · rw [if_pos q, List.find?_cons, decide_eq_true q]
  · rw [if_neg q, List.find?_cons, decide_eq_false q, List.find?_nil]
theorem xsf_rf (F : Nat → Nat → Int32) (h : Nat) : ∀ i, i ≤ 720 → (∃ k, xrf (xA F) i = some k ∧ xsf F h i = nI (xl_r k h) ∧ 0 < xson F i) ∨ (xrf (xA F) i = none ∧ xsf F h i = -1 ∧ xson F i = 0)
  | 0, _ => Or.inr ⟨rfl, rfl, rfl⟩
  | i + 1, hi => by
    have hA := xso_A (F := F) (show i < 720 by omega)
    rw [xrf_s, xson_s]
    rcases xsf_rf F h i (by omega) with ⟨k, h1, h2, h3⟩ | ⟨h1, h2, h3⟩
    · refine Or.inl ⟨k, by rw [h1]; rfl, ?_, by omega⟩
      rw [xsf, if_neg (fun q => by have := q.2; omega)]
      exact h2
    · rw [h1]
      by_cases q : xso F i
      · refine Or.inl ⟨i, by rw [if_pos (hA.mp q)]; rfl, ?_, by rw [if_pos q]; omega⟩
        rw [xsf, if_pos ⟨q, h3⟩]
      · refine Or.inr ⟨by rw [if_neg (fun w => q (hA.mpr w))]; rfl, ?_, by rw [if_neg q]; exact h3⟩
        rw [xsf, if_neg (fun w => q w.1)]
        exact h2
theorem xsf_eq (F : Nat → Nat → Int32) {h : Nat} (hh : h < 6) : xsf F h 720 = xfr (xA F) h := by
  unfold xfr
  rcases xrf_all (xA F) with ⟨k, -, h1, h2, h3⟩ | ⟨h1, h2⟩
  · rw [if_pos h2, ← h3 h hh]
    rcases xsf_rf F h 720 (Nat.le_refl 720) with ⟨k2, a1, a2, -⟩ | ⟨a1, -, -⟩
    · rw [h1] at a1
      rw [a2, Option.some.inj a1]
    · rw [h1] at a1
      cases a1
  · rw [if_neg h2]
    rcases xsf_rf F h 720 (Nat.le_refl 720) with ⟨k2, a1, -, -⟩ | ⟨-, a2, -⟩
    · rw [h1] at a1
      cases a1
    · exact a2
theorem xpm_sound_eq (F : Nat → Nat → Int32) (x : Int32) : xpm_sound F x = xp_sound (xA F) x := by
  unfold xpm_sound xp_sound
  by_cases q : x = -1
  · rw [if_pos q, if_pos q, xson_eq]
  · rw [if_neg q, if_neg q]
    by_cases w : xin x 6
    · obtain ⟨j, hj, rfl⟩ := xin_of w (by decide)
      rw [if_pos w, if_pos w, cN_nI (by omega), xsf_eq F hj]
    · rw [if_neg w, if_neg w]
theorem xpm_chance_eq (F : Nat → Nat → Int32) (x0 x1 x2 : Int32) : xpm_chance F x0 x1 x2 = xp_chance (xA F) x0 x1 x2 := by
  unfold xpm_chance xp_chance
  by_cases w : xin x0 6 ∧ xin x1 6 ∧ xin x2 2
  · rw [if_pos w, if_pos w, xson_eq]
    obtain ⟨w0, w1, w2⟩ := w
    obtain ⟨j, hj, rfl⟩ := xin_of w0 (by decide)
    obtain ⟨k, hk, rfl⟩ := xin_of w1 (by decide)
    rw [cN_nI (by omega), cN_nI (by omega), xsrn_eq F hj hk]
  · rw [if_neg w, if_neg w]
/-- the names that hull h bears in the allowed ones of the first i rows -/
def xcb (A : Nat → Nat) (h : Nat) : Nat → Nat
  | 0 => 0
  | i + 1 => if xsA A i then xcb A h i ||| 2 ^ xl_r i h else xcb A h i
theorem xcb_bit (A : Nat → Nat) (h n : Nat) : ∀ i, (xcb A h i).testBit n = true ↔ 0 < fb_ct (fun k => decide (xsA A k ∧ xl_r k h = n)) i
  | 0 => by
    rw [xcb, Nat.zero_testBit]
    exact ⟨fun q => absurd q (by decide), fun q => absurd q (Nat.lt_irrefl 0)⟩
  | i + 1 => by
    have ih := xcb_bit A h n i
    rw [xcb, fb_ct_succ]
    by_cases q : xsA A i
    · rw [if_pos q, Nat.testBit_or, Bool.or_eq_true, ih, Nat.testBit_two_pow, decide_eq_true_eq]
      by_cases e : xl_r i h = n
      · rw [decide_eq_true (⟨q, e⟩ : xsA A i ∧ xl_r i h = n)]
        exact ⟨fun _ => by simp, fun _ => Or.inr e⟩
      · rw [decide_eq_false (fun w : xsA A i ∧ xl_r i h = n => e w.2)]
        simp [e]
    · rw [if_neg q, ih, decide_eq_false (fun w : xsA A i ∧ xl_r i h = n => q w.1)]
      simp
theorem xcb_lt (A : Nat → Nat) {h : Nat} (hh : h < 6) : ∀ i, i ≤ 720 → xcb A h i < 64
  | 0, _ => show 0 < 64 by decide
  | i + 1, hi => by
    have ih := xcb_lt A hh i (by omega)
    rw [xcb]
    split
    · exact xor64 ih (xl_r_lt (by omega) hh)
    · exact ih
theorem xcb_eq (A : Nat → Nat) {h : Nat} (hh : h < 6) : xcb A h 720 = xmask (fun n => 0 < xrw A h n) 6 := by
  refine Nat.eq_of_testBit_eq (fun n => ?_)
  rw [xmask_bit]
  by_cases hn : n < 6
  · have e := xcb_bit A h n 720
    rw [xrow_with A hh hn] at e
    by_cases q : 0 < xrw A h n
    · rw [e.mpr q, decide_eq_true ⟨hn, q⟩]
    · rw [decide_eq_false (fun w => q w.2)]
      refine Bool.eq_false_iff.mpr (fun w => q (e.mp w))
  · rw [decide_eq_false (fun q => hn q.1)]
    exact Nat.testBit_lt_two_pow (Nat.lt_of_lt_of_le (xcb_lt A hh 720 (Nat.le_refl _)) (show 2 ^ 6 ≤ 2 ^ n from Nat.pow_le_pow_right (by omega) (by omega)))
def xctA (A : Nat → Nat) (i : Nat) : Nat := fb_ct (fun k => decide (xsA A k)) i
theorem xctA_s (A : Nat → Nat) (i : Nat) : xctA A (i + 1) = xctA A i + (if xsA A i then 1 else 0) := by
  unfold xctA
  rw [fb_ct_succ]
  by_cases q : xsA A i
  · rw [decide_eq_true q, if_pos q, if_pos rfl]
  · rw [decide_eq_false q, if_neg q, if_neg (by decide)]
theorem xctA_le (A : Nat → Nat) (i : Nat) : xctA A i ≤ i := fb_ct_le _ _
theorem xall_1 {P : Nat → Prop} [DecidablePred P] {n : Nat} (h : xall P n) : P n ↔ xall P (n + 1) := ⟨fun q => xall_of (lt_s (xall_to h) q), fun q => xall_to q n (Nat.lt_succ_self n)⟩
def xpm_could (A : Nat → Nat) (x : Int32) : Int32 := if x = -1 then nI (xctA A 720) else if xin x 6 then nI (xcb A (cN x) 720) else -2
theorem xpm_could_eq (A : Nat → Nat) (x : Int32) : xpm_could A x = xp_could A x := by
  unfold xpm_could xp_could
  by_cases q : x = -1
  · rw [if_pos q, if_pos q, xctA, xrow_count]
  · rw [if_neg q, if_neg q]
    by_cases w : xin x 6
    · obtain ⟨j, hj, rfl⟩ := xin_of w (by decide)
      rw [if_pos w, if_pos w, cN_nI (by omega), xcb_eq A hj]
    · rw [if_neg w, if_neg w]
def xpm_best (E : Nat → Nat → Nat) (x : Int32) : Int32 := if x = -1 then xbb E 720 else if xin x 6 then nI (xl_r (xbi E 720) (cN x)) else -2
theorem xpm_best_eq {E : Nat → Nat → Nat} (hE : ∀ h, h < 6 → ∀ n, n < 6 → E h n ≤ 9) (x : Int32) : xpm_best E x = xp_best E x := by
  unfold xpm_best xp_best
  by_cases q : x = -1
  · rw [if_pos q, if_pos q, (xbest_eq hE).1]
  · rw [if_neg q, if_neg q]
    by_cases w : xin x 6
    · obtain ⟨j, hj, rfl⟩ := xin_of w (by decide)
      rw [if_pos w, if_pos w, cN_nI (by omega), (xbest_eq hE).2 j hj]
    · rw [if_neg w, if_neg w]

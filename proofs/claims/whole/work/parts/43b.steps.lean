/-! each call that changes something keeps both sides alike -/
theorem xst_f_n (σ : Nat → Nat → Int32) (v : Int32) {k : Nat} (h : k ≠ 0) : xst_f σ v k = σ k := xup_n _ _ h
theorem xst_f_0 (σ : Nat → Nat → Int32) (v : Int32) : xst_f σ v 0 8 = v := by
  unfold xst_f
  rw [xup_s, pk_us]
theorem xst_fm_n (σ : Nat → Nat → Int32) (v : Int32) {k : Nat} (h : k ≠ 0) : xst_fm σ v k = σ k := xup_n _ _ h
theorem xst_fm_0 (σ : Nat → Nat → Int32) (v : Int32) {j : Nat} (h : j ≠ 23) : xst_fm σ v 0 j = σ 0 j := by
  unfold xst_fm
  rw [xup_s, pk_un h]
theorem xst_fm_f (σ : Nat → Nat → Int32) (v : Int32) : xst_fm σ v 0 23 = v := by
  unfold xst_fm
  rw [xup_s, pk_us]
theorem xRel_f {σ τ : Nat → Nat → Int32} (h : xRel σ τ) (v : Int32) : xRel (xst_f σ v) (xst_fm τ v) := by
  refine ⟨xIC_f h.1 v, ?_⟩
  obtain ⟨h1, h2, h3, h4, h5, h6⟩ := h.2
  unfold xRw
  rw [xst_f_0, xst_fm_f]
  simp (disch := decide) only [xst_f_n, xst_fm_n, xst_fm_0]
  refine ⟨h1, h2, h3, h4, trivial, fun w hw => ?_⟩
  rw [xst_f_n _ _ (show 34 + 2 * w ≠ 0 by omega), xst_f_n _ _ (show 35 + 2 * w ≠ 0 by omega)]
  exact h6 w hw
/-- the same row of traits changes on both sides -/
theorem xRel_tr {σ τ : Nat → Nat → Int32} (h : xRel σ τ) {k : Nat} (hk : k < 5) {f : Nat → Int32} (hf : k = 4 → xran f 6 10) : xRel (va_up σ (4 + k) f) (va_up τ (1 + k) f) := by
  obtain ⟨⟨a1, a2, a3, a4, a5⟩, h2, h3, h4, h5, h6⟩ := h.2
  refine ⟨?_, ?_⟩
  · rcases (show k < 4 ∨ k = 4 by omega) with q | q
    · exact xIC_up h.1 (Or.inl ⟨by omega, by omega⟩) f
    · subst q
      exact xIC_fee h.1 (hf rfl)
  · have e : ∀ j, j < 5 → j ≠ k → va_up τ (1 + k) f (1 + j) = τ (1 + j) ∧ va_up σ (4 + k) f (4 + j) = σ (4 + j) := fun j _ hne => ⟨xup_n _ _ (by omega), xup_n _ _ (by omega)⟩
    have ek : va_up τ (1 + k) f (1 + k) = va_up σ (4 + k) f (4 + k) := by rw [xup_s, xup_s]
    have hall : ∀ j, j < 5 → τ (1 + j) = σ (4 + j) → va_up τ (1 + k) f (1 + j) = va_up σ (4 + k) f (4 + j) := fun j hj he => by
      by_cases q : j = k
      · subst q
        exact ek
      · rw [(e j hj q).1, (e j hj q).2]
        exact he
    have hσ : ∀ j, 9 ≤ j → va_up σ (4 + k) f j = σ j := fun j hj => xup_n _ _ (by omega)
    have hσ0 : va_up σ (4 + k) f 0 = σ 0 := xup_n _ _ (by omega)
    have hτ : ∀ j, 6 ≤ j → va_up τ (1 + k) f j = τ j := fun j hj => xup_n _ _ (by omega)
    have hτ0 : va_up τ (1 + k) f 0 = τ 0 := xup_n _ _ (by omega)
    refine ⟨⟨hall 0 (by omega) a1, hall 1 (by omega) a2, hall 2 (by omega) a3, hall 3 (by omega) a4, hall 4 (by omega) a5⟩, ?_, ?_, ?_, ?_, fun w hw => ?_⟩
    · rw [hσ 10 (by decide), hσ 9 (by decide), hτ 6 (by decide), hτ0]
      exact h2
    · rw [hσ 13 (by decide), hσ 14 (by decide), hσ 15 (by decide), hσ 12 (by decide), hτ 9 (by decide), hτ 10 (by decide), hτ 11 (by decide), hτ0]
      exact h3
    · rw [hσ 17 (by decide), hσ 18 (by decide), hσ 19 (by decide), hσ 16 (by decide), hτ 12 (by decide), hτ 13 (by decide), hτ 14 (by decide), hτ0]
      exact h4
    · rw [hσ0, hτ0]
      exact h5
    · rw [hσ (34 + 2 * w) (by omega), hσ (35 + 2 * w) (by omega), hτ 15 (by decide), hτ 16 (by decide), hτ 17 (by decide), hτ 18 (by decide)]
      exact h6 w hw
theorem xtr_v {n : Nat} {x0 x1 x2 : Int32} (h : xtrok n x0 x1 x2) : xin x2 10 := by
  obtain ⟨-, -, h3, h4⟩ := h
  have h0 : (0 : Int32) ≤ x2 := by
    by_cases q : x1 = 0
    · rw [if_pos q] at h3
      exact Int32.le_trans (by decide) h3
    · rw [if_neg q] at h3
      exact h3
  exact (xin_le 9 (by decide)).mp ⟨h0, h4⟩
theorem xtr_row {σ τ : Nat → Nat → Int32} (h : xRw σ τ) {k : Nat} (hk : k < 5) : τ (1 + k) = σ (4 + k) := by
  obtain ⟨⟨a1, a2, a3, a4, a5⟩, -⟩ := h
  rcases (show k = 0 ∨ k = 1 ∨ k = 2 ∨ k = 3 ∨ k = 4 by omega) with rfl | rfl | rfl | rfl | rfl
  · exact a1
  · exact a2
  · exact a3
  · exact a4
  · exact a5
/-- hull (b = 0, n = 2), name (b = 2, n = 3) -/
theorem xR_tr {σ τ : Nat → Nat → Int32} (h : xRel σ τ) {b n : Nat} (hb : b + n ≤ 5) (x0 x1 x2 : Int32) : xp_tr (1 + b) n τ x0 x1 x2 = xp_tr (4 + b) n σ x0 x1 x2 ∧ xRel (xst_tr (4 + b) n σ x0 x1 x2) (xst_tr (1 + b) n τ x0 x1 x2) := by
  by_cases q : xtrok n x0 x1 x2
  · obtain ⟨w, hw, e1⟩ := xin_of q.2.1 (by omega)
    obtain ⟨j, hj, e0⟩ := xin_of q.1 (by decide)
    have hv := xtr_v q
    unfold xp_tr xst_tr
    rw [if_pos q, if_pos q, if_pos q, if_pos q, e1, e0, cN_nI (by omega), cN_nI (by omega), show 1 + b + w = 1 + (b + w) by omega, show 4 + b + w = 4 + (b + w) by omega]
    have er := xtr_row h.2 (show b + w < 5 by omega)
    rw [er]
    refine ⟨rfl, xRel_tr h (by omega) (fun e4 => ?_)⟩
    rw [e4]
    exact xran_set (xIC_iff.mp h.1).2.2.2.1 hv (by decide)
  · unfold xp_tr xst_tr
    rw [if_neg q, if_neg q, if_neg q, if_neg q]
    exact ⟨rfl, h⟩
theorem xR_hull {σ τ : Nat → Nat → Int32} (h : xRel σ τ) (x0 x1 x2 : Int32) : xp_tr 1 2 τ x0 x1 x2 = xp_tr 4 2 σ x0 x1 x2 ∧ xRel (xst_tr 4 2 σ x0 x1 x2) (xst_tr 1 2 τ x0 x1 x2) := xR_tr (b := 0) h (by decide) x0 x1 x2
theorem xR_name {σ τ : Nat → Nat → Int32} (h : xRel σ τ) (x0 x1 x2 : Int32) : xp_tr 3 3 τ x0 x1 x2 = xp_tr 6 3 σ x0 x1 x2 ∧ xRel (xst_tr 6 3 σ x0 x1 x2) (xst_tr 3 3 τ x0 x1 x2) := xR_tr (b := 2) h (by decide) x0 x1 x2
/-- the text: both sides hold the same L bytes -/
theorem xRel_text {σ τ ρ μ : Nat → Nat → Int32} (h : xRel σ τ) {L : Nat} (hL : L ≤ 90) (hρ : ρ 9 1 = nI L) (hρk : ∀ k, k ≠ 9 → k ≠ 10 → ρ k = σ k) (hμ : μ 0 6 = nI L) (hμ0 : ∀ j, j ≠ 6 → μ 0 j = τ 0 j) (hμk : ∀ k, k ≠ 0 → k ≠ 6 → μ k = τ k) (ht : μ 6 = ρ 10) : xRel (xst_parse ρ L) μ := by
  refine ⟨xIC_parse h.1 hρ hL hρk, ?_⟩
  obtain ⟨h1, h2, h3, h4, h5, h6⟩ := h.2
  have hn : ∀ k, k ≠ 9 → k ≠ 10 → xst_parse ρ L k = σ k := fun k a b => (xst_parse_n ρ L a).trans (hρk k a b)
  unfold xRw
  rw [hn 4 (by decide) (by decide), hn 5 (by decide) (by decide), hn 6 (by decide) (by decide), hn 7 (by decide) (by decide), hn 8 (by decide) (by decide), hn 12 (by decide) (by decide), hn 13 (by decide) (by decide), hn 14 (by decide) (by decide), hn 15 (by decide) (by decide), hn 16 (by decide) (by decide), hn 17 (by decide) (by decide), hn 18 (by decide) (by decide), hn 19 (by decide) (by decide), hn 0 (by decide) (by decide), xst_parse_L, xst_parse_n ρ L (show 10 ≠ 9 by decide), hρ, hμ, ht, hμ0 10 (by decide), hμ0 14 (by decide), hμ0 23 (by decide), hμk 1 (by decide) (by decide), hμk 2 (by decide) (by decide), hμk 3 (by decide) (by decide), hμk 4 (by decide) (by decide), hμk 5 (by decide) (by decide), hμk 9 (by decide) (by decide), hμk 10 (by decide) (by decide), hμk 11 (by decide) (by decide), hμk 12 (by decide) (by decide), hμk 13 (by decide) (by decide), hμk 14 (by decide) (by decide), hμk 15 (by decide) (by decide), hμk 16 (by decide) (by decide), hμk 17 (by decide) (by decide), hμk 18 (by decide) (by decide)]
  refine ⟨h1, ⟨rfl, rfl⟩, h3, h4, h5, fun w hw => ?_⟩
  rw [hn (34 + 2 * w) (by omega) (by omega), hn (35 + 2 * w) (by omega) (by omega)]
  exact h6 w hw
theorem xst_m1_0 (σ : Nat → Nat → Int32) (L : Nat) (b : Int32) {j : Nat} (h : j ≠ 6) : xst_m1 σ L b 0 j = σ 0 j := by
  unfold xst_m1
  rw [xup_s, pk_un h]
theorem xst_m1_6 (σ : Nat → Nat → Int32) (L : Nat) (b : Int32) : xst_m1 σ L b 6 = upd (σ 6) L b := by
  unfold xst_m1
  rw [xup_n _ _ (by decide), xup_s]
theorem xst_add_10 (σ : Nat → Nat → Int32) (L : Nat) (b : Int32) : xst_add σ L b 10 = upd (σ 10) L b := by
  unfold xst_add
  rw [xup_n _ _ (by decide), xup_s]
theorem xR_type {σ τ : Nat → Nat → Int32} (h : xRel σ τ) (x : Int32) : xp_type (xLM τ) x = xp_type (xLC σ) x ∧ xRel (xst_type σ x) (xst_mtype τ x) := by
  rw [xRw_L h.2]
  refine ⟨rfl, ?_⟩
  unfold xst_type xst_mtype
  rw [xRw_L h.2]
  by_cases q : xin x 256 ∧ xLC σ < 90
  · rw [if_pos q, if_pos q]
    exact xRel_text h (by have := q.2; omega) (xst_add_L _ _ _) (fun k a b => xst_add_n _ _ _ a b) (xst_m1_L _ _ _) (fun j hj => xst_m1_0 _ _ _ hj) (fun k a b => xst_m1_n _ _ _ a b) (by rw [xst_m1_6, xst_add_10, h.2.2.1.1])
  · rw [if_neg q, if_neg q]
    exact h
theorem xR_wipe {σ τ : Nat → Nat → Int32} (h : xRel σ τ) : xLM τ = xLC σ ∧ xRel (xst_parse (va_up σ 9 (upd (σ 9) 1 (nI 0))) 0) (va_up τ 0 (upd (τ 0) 6 (nI 0))) := by
  refine ⟨xRw_L h.2, ?_⟩
  exact xRel_text h (by decide) (by rw [xup_s, pk_us]) (fun k a b => xup_n _ _ a) (by rw [xup_s, pk_us]) (fun j hj => by rw [xup_s, pk_un hj]) (fun k a b => xup_n _ _ a) (by rw [xup_n _ _ (by decide), xup_n _ _ (by decide), h.2.2.1.1])
/-! reading a sheet into the text -/
theorem xmy_0 (σ : Nat → Nat → Int32) (L : Nat) (it : Nat → Int32) {j : Nat} (h : j ≠ 6) : ∀ i, xmy σ L it i 0 j = σ 0 j
  | 0 => rfl
  | i + 1 => (xst_m1_0 _ _ _ h).trans (xmy_0 σ L it h i)
theorem xmy_t {σ τ : Nat → Nat → Int32} {L : Nat} {it jt : Nat → Int32} (h : τ 6 = σ 10) : ∀ i, (∀ k, k < i → jt k = it k) → xmy τ L jt i 6 = xay σ L it i 10
  | 0, _ => h
  | i + 1, hj => by
    have ih := xmy_t (L := L) (it := it) (jt := jt) h i (fun k hk => hj k (by omega))
    show xst_m1 (xmy τ L jt i) (L + i) (nI 48 + jt i) 6 = xst_add (xay σ L it i) (L + i) (nI 48 + it i) 10
    rw [xst_m1_6, xst_add_10, ih, hj i (by omega)]
theorem xs_hm_c {it jt : Nat → Int32} : ∀ i, (∀ k, k < i → it k = jt k) → xs_hm it i = xs_hm jt i
  | 0, _ => rfl
  | i + 1, h => by
    show xs_hm it i ||| _ = xs_hm jt i ||| _
    rw [xs_hm_c i (fun k hk => h k (by omega)), h i (by omega)]
theorem xs_hold_c {z : Nat} {it jt : Nat → Int32} (h : ∀ k, k < 6 → it k = jt k) : xs_hold z it ↔ xs_hold z jt := by
  have key : ∀ {a b : Nat → Int32}, (∀ k, k < 6 → a k = b k) → xs_hold z a → xs_hold z b := by
    intro a b hab ⟨h1, h2, h3⟩
    refine ⟨h1, xall_of (fun k hk => ?_), ?_⟩
    · have := xall_to h2 k hk
      rw [hab k hk] at this
      exact this
    · rw [← xs_hm_c 6 hab]
      exact h3
  exact ⟨key h, key (fun k hk => (h k hk).symm)⟩
theorem xR_read {σ τ : Nat → Nat → Int32} (h : xRel σ τ) (x : Int32) : xp_read (xVM τ) (xJM τ) (xLM τ) x = xp_read (xVC σ) (xJC σ) (xLC σ) x ∧ xRel (xst_read σ x) (xst_mread τ x) := by
  have hR := h.2
  unfold xp_read xst_read xst_mread
  rw [xRw_L hR]
  by_cases q : xin x 4
  · obtain ⟨w, hw, rfl⟩ := xin_of q (by decide)
    obtain ⟨v1, v2, v3⟩ := xRw_V hR hw
    rw [if_pos q, if_pos q, if_pos q, if_pos q, cN_nI (by omega), v1]
    by_cases q1 : xVC σ w 1 = 0
    · rw [if_neg (not_not_intro q1), if_neg (not_not_intro q1), if_neg (not_not_intro q1), if_neg (not_not_intro q1)]
      have e3 : xnat (xVM τ w) 3 = xnat (xVC σ w) 3 := by unfold xnat; rw [v3]
      have hh := xs_hold_c (z := xnat (xVC σ w) 3) (it := xJM τ w) (jt := xJC σ w) (fun k hk => xRw_J hR hw (by omega))
      rw [e3]
      by_cases q2 : xs_hold (xnat (xVC σ w) 3) (xJC σ w)
      · rw [if_pos q2, if_pos (hh.mpr q2)]
        refine ⟨rfl, ?_⟩
        by_cases q3 : xLC σ + xyb (xLC σ) ≤ 90
        · rw [if_pos ⟨q2, q3⟩, if_pos ⟨hh.mpr q2, q3⟩]
          have hL := h.1.1.1
          have hLm : τ 0 6 = nI (xLC σ) := by rw [hR.2.1.2]; exact hL
          generalize xLC σ = L at q3 hL hLm ⊢
          have hJ : ∀ k, k < 6 → xJM τ w k = σ (35 + 2 * w) k := fun k hk => xRw_J hR hw (by omega)
          unfold xst_ry xst_mry
          rcases xyb_or L with ⟨q4, e4⟩ | ⟨q4, e4⟩
          · rw [if_pos q4, if_pos q4]
            subst q4
            exact xRel_text h (by decide) (by rw [xay_L hL]) (fun k a b => xay_n _ _ _ a b 6) (by rw [xmy_L hLm]) (fun j hj => xmy_0 _ _ _ hj 6) (fun k a b => xmy_n _ _ _ a b 6) (xmy_t hR.2.1.1 6 hJ)
          · rw [if_neg (by omega), if_neg (by omega)]
            refine xRel_text h (by omega) (by rw [xay_L (xst_add_L _ _ _)]) (fun k a b => (xay_n _ _ _ a b 6).trans (xst_add_n _ _ _ a b)) (by rw [xmy_L (xst_m1_L _ _ _)]) (fun j hj => (xmy_0 _ _ _ hj 6).trans (xst_m1_0 _ _ _ hj)) (fun k a b => (xmy_n _ _ _ a b 6).trans (xst_m1_n _ _ _ a b)) (xmy_t ?_ 6 hJ)
            rw [xst_m1_6, xst_add_10, hR.2.1.1]
        · rw [if_neg (fun w9 => q3 w9.2), if_neg (fun w9 => q3 w9.2)]
          exact h
      · rw [if_neg q2, if_neg (fun w9 => q2 (hh.mp w9)), if_neg (fun w9 => q2 w9.1), if_neg (fun w9 => q2 (hh.mp w9.1))]
        exact ⟨rfl, h⟩
    · rw [if_pos q1, if_pos q1, if_pos q1, if_pos q1]
      exact ⟨rfl, xRel_f h _⟩
  · rw [if_neg q, if_neg q, if_neg q, if_neg q]
    exact ⟨rfl, h⟩

/-! claims, sightings, sheets -/
theorem xRel_cl {σ τ ρ μ : Nat → Nat → Int32} (h : xRel σ τ) (hc : xI2 12 6 12 (ρ 12) (ρ 13) (ρ 14)) (hρ : ∀ k, k ≠ 12 → k ≠ 13 → k ≠ 14 → k ≠ 15 → ρ k = σ k) (hμ : ∀ k, k ≠ 0 → k ≠ 9 → k ≠ 10 → k ≠ 11 → μ k = τ k) (hμ0 : ∀ j, j ≠ 10 → μ 0 j = τ 0 j) (e : μ 9 = ρ 13 ∧ μ 10 = ρ 14 ∧ μ 11 = ρ 15 ∧ μ 0 10 = ρ 12 4) : xRel ρ μ := by
  refine ⟨xIC_cl h.1 hc hρ, ?_⟩
  obtain ⟨h1, h2, h3, h4, h5, h6⟩ := h.2
  refine ⟨?_, ?_, e, ?_, ?_, fun w hw => ?_⟩
  · rw [hρ 4 (by decide) (by decide) (by decide) (by decide), hρ 5 (by decide) (by decide) (by decide) (by decide), hρ 6 (by decide) (by decide) (by decide) (by decide), hρ 7 (by decide) (by decide) (by decide) (by decide), hρ 8 (by decide) (by decide) (by decide) (by decide), hμ 1 (by decide) (by decide) (by decide) (by decide), hμ 2 (by decide) (by decide) (by decide) (by decide), hμ 3 (by decide) (by decide) (by decide) (by decide), hμ 4 (by decide) (by decide) (by decide) (by decide), hμ 5 (by decide) (by decide) (by decide) (by decide)]
    exact h1
  · rw [hρ 10 (by decide) (by decide) (by decide) (by decide), hρ 9 (by decide) (by decide) (by decide) (by decide), hμ 6 (by decide) (by decide) (by decide) (by decide), hμ0 6 (by decide)]
    exact h2
  · rw [hρ 17 (by decide) (by decide) (by decide) (by decide), hρ 18 (by decide) (by decide) (by decide) (by decide), hρ 19 (by decide) (by decide) (by decide) (by decide), hρ 16 (by decide) (by decide) (by decide) (by decide), hμ 12 (by decide) (by decide) (by decide) (by decide), hμ 13 (by decide) (by decide) (by decide) (by decide), hμ 14 (by decide) (by decide) (by decide) (by decide), hμ0 14 (by decide)]
    exact h4
  · rw [hρ 0 (by decide) (by decide) (by decide) (by decide), hμ0 23 (by decide)]
    exact h5
  · rw [hρ (34 + 2 * w) (by omega) (by omega) (by omega) (by omega), hρ (35 + 2 * w) (by omega) (by omega) (by omega) (by omega), hμ 15 (by decide) (by decide) (by decide) (by decide), hμ 16 (by decide) (by decide) (by decide) (by decide), hμ 17 (by decide) (by decide) (by decide) (by decide), hμ 18 (by decide) (by decide) (by decide) (by decide)]
    exact h6 w hw
theorem xRel_sg {σ τ ρ μ : Nat → Nat → Int32} (h : xRel σ τ) (hc : xI2 8 6 2 (ρ 16) (ρ 17) (ρ 18)) (hρ : ∀ k, k ≠ 16 → k ≠ 17 → k ≠ 18 → k ≠ 19 → ρ k = σ k) (hμ : ∀ k, k ≠ 0 → k ≠ 12 → k ≠ 13 → k ≠ 14 → μ k = τ k) (hμ0 : ∀ j, j ≠ 14 → μ 0 j = τ 0 j) (e : μ 12 = ρ 17 ∧ μ 13 = ρ 18 ∧ μ 14 = ρ 19 ∧ μ 0 14 = ρ 16 4) : xRel ρ μ := by
  refine ⟨xIC_sg h.1 hc hρ, ?_⟩
  obtain ⟨h1, h2, h3, h4, h5, h6⟩ := h.2
  refine ⟨?_, ?_, ?_, e, ?_, fun w hw => ?_⟩
  · rw [hρ 4 (by decide) (by decide) (by decide) (by decide), hρ 5 (by decide) (by decide) (by decide) (by decide), hρ 6 (by decide) (by decide) (by decide) (by decide), hρ 7 (by decide) (by decide) (by decide) (by decide), hρ 8 (by decide) (by decide) (by decide) (by decide), hμ 1 (by decide) (by decide) (by decide) (by decide), hμ 2 (by decide) (by decide) (by decide) (by decide), hμ 3 (by decide) (by decide) (by decide) (by decide), hμ 4 (by decide) (by decide) (by decide) (by decide), hμ 5 (by decide) (by decide) (by decide) (by decide)]
    exact h1
  · rw [hρ 10 (by decide) (by decide) (by decide) (by decide), hρ 9 (by decide) (by decide) (by decide) (by decide), hμ 6 (by decide) (by decide) (by decide) (by decide), hμ0 6 (by decide)]
    exact h2
  · rw [hρ 13 (by decide) (by decide) (by decide) (by decide), hρ 14 (by decide) (by decide) (by decide) (by decide), hρ 15 (by decide) (by decide) (by decide) (by decide), hρ 12 (by decide) (by decide) (by decide) (by decide), hμ 9 (by decide) (by decide) (by decide) (by decide), hμ 10 (by decide) (by decide) (by decide) (by decide), hμ 11 (by decide) (by decide) (by decide) (by decide), hμ0 10 (by decide)]
    exact h3
  · rw [hρ 0 (by decide) (by decide) (by decide) (by decide), hμ0 23 (by decide)]
    exact h5
  · rw [hρ (34 + 2 * w) (by omega) (by omega) (by omega) (by omega), hρ (35 + 2 * w) (by omega) (by omega) (by omega) (by omega), hμ 15 (by decide) (by decide) (by decide) (by decide), hμ 16 (by decide) (by decide) (by decide) (by decide), hμ 17 (by decide) (by decide) (by decide) (by decide), hμ 18 (by decide) (by decide) (by decide) (by decide)]
    exact h6 w hw
theorem xR_claim {σ τ : Nat → Nat → Int32} (h : xRel σ τ) (x0 x1 x2 : Int32) : xp_more (xclok x0 x1 x2) (xcM τ) 12 = xp_more (xclok x0 x1 x2) (xcC σ) 12 ∧ xRel (xst_claim σ x0 x1 x2) (xst_mclaim τ x0 x1 x2) := by
  rw [xRw_c h.2]
  refine ⟨rfl, ?_⟩
  unfold xst_claim xst_mclaim
  rw [xRw_c h.2]
  by_cases q : xclok x0 x1 x2 ∧ xcC σ < 12
  · rw [if_pos q, if_pos q]
    have hR := h.2.2.2.1
    have hI := xI2_add (xIC_iff.mp h.1).2.1 q.2 (by decide) q.1.1 q.1.2.1 (by decide) (by decide)
    unfold xst_cl xst_mcl
    refine xRel_cl h ?_ (fun k a b d f => ?_) (fun k a b d f => ?_) (fun j hj => ?_) ⟨?_, ?_, ?_, ?_⟩
    · simp (disch := decide) only [xup_n, xup_s]
      exact hI
    · rw [xup_n _ _ a, xup_n _ _ f, xup_n _ _ d, xup_n _ _ b]
    · rw [xup_n _ _ a, xup_n _ _ f, xup_n _ _ d, xup_n _ _ b]
    · rw [xup_s, pk_un hj]
    · simp (disch := decide) only [xup_n, xup_s]
      rw [hR.1]
    · simp (disch := decide) only [xup_n, xup_s]
      rw [hR.2.1]
    · simp (disch := decide) only [xup_n, xup_s]
      rw [hR.2.2.1]
    · simp (disch := decide) only [xup_n, xup_s]
      rw [pk_us, pk_us]
  · rw [if_neg q, if_neg q]
    exact h
theorem xR_seen {σ τ : Nat → Nat → Int32} (h : xRel σ τ) (x0 x1 x2 : Int32) : xp_more (xtrok 2 x0 x1 x2) (xsM τ) 8 = xp_more (xtrok 2 x0 x1 x2) (xsC σ) 8 ∧ xRel (xst_seen σ x0 x1 x2) (xst_mseen τ x0 x1 x2) := by
  rw [xRw_s h.2]
  refine ⟨rfl, ?_⟩
  unfold xst_seen xst_mseen
  rw [xRw_s h.2]
  by_cases q : xtrok 2 x0 x1 x2 ∧ xsC σ < 8
  · rw [if_pos q, if_pos q]
    have hR := h.2.2.2.2.1
    have hI := xI2_add (xIC_iff.mp h.1).2.2.1 q.2 (by decide) q.1.1 q.1.2.1 (by decide) (by decide)
    unfold xst_sg xst_msg
    refine xRel_sg h ?_ (fun k a b d f => ?_) (fun k a b d f => ?_) (fun j hj => ?_) ⟨?_, ?_, ?_, ?_⟩
    · simp (disch := decide) only [xup_n, xup_s]
      exact hI
    · rw [xup_n _ _ a, xup_n _ _ f, xup_n _ _ d, xup_n _ _ b]
    · rw [xup_n _ _ a, xup_n _ _ f, xup_n _ _ d, xup_n _ _ b]
    · rw [xup_s, pk_un hj]
    · simp (disch := decide) only [xup_n, xup_s]
      rw [hR.1]
    · simp (disch := decide) only [xup_n, xup_s]
      rw [hR.2.1]
    · simp (disch := decide) only [xup_n, xup_s]
      rw [hR.2.2.1]
    · simp (disch := decide) only [xup_n, xup_s]
      rw [pk_us, pk_us]
  · rw [if_neg q, if_neg q]
    exact h
theorem xR_forget {σ τ : Nat → Nat → Int32} (h : xRel σ τ) (x : Int32) : xp_forget (xcM τ) (xsM τ) x = xp_forget (xcC σ) (xsC σ) x ∧ xRel (xst_forget σ x) (xst_mforget τ x) := by
  rw [xRw_c h.2, xRw_s h.2]
  refine ⟨rfl, ?_⟩
  unfold xst_forget xst_mforget
  by_cases q : xin x 2
  · rw [if_pos q, if_pos q]
    by_cases q1 : x = 0
    · rw [if_pos q1, if_pos q1]
      have hR := h.2.2.2.1
      refine xRel_cl h ?_ (fun k a _ _ _ => xup_n _ _ a) (fun k a _ _ _ => xup_n _ _ a) (fun j hj => by rw [xup_s, pk_un hj]) ⟨?_, ?_, ?_, ?_⟩
      · rw [xup_s]
        exact xI2_0
      · rw [xup_n _ _ (by decide), xup_n _ _ (by decide), hR.1]
      · rw [xup_n _ _ (by decide), xup_n _ _ (by decide), hR.2.1]
      · rw [xup_n _ _ (by decide), xup_n _ _ (by decide), hR.2.2.1]
      · rw [xup_s, xup_s, pk_us, pk_us]
    · rw [if_neg q1, if_neg q1]
      have hR := h.2.2.2.2.1
      refine xRel_sg h ?_ (fun k a _ _ _ => xup_n _ _ a) (fun k a _ _ _ => xup_n _ _ a) (fun j hj => by rw [xup_s, pk_un hj]) ⟨?_, ?_, ?_, ?_⟩
      · rw [xup_s]
        exact xI2_0
      · rw [xup_n _ _ (by decide), xup_n _ _ (by decide), hR.1]
      · rw [xup_n _ _ (by decide), xup_n _ _ (by decide), hR.2.1]
      · rw [xup_n _ _ (by decide), xup_n _ _ (by decide), hR.2.2.1]
      · rw [xup_s, xup_s, pk_us, pk_us]
  · rw [if_neg q, if_neg q]
    exact h
/-! sheets -/
theorem xRel_sh {σ τ ρ μ : Nat → Nat → Int32} (h : xRel σ τ) (hC : xIC ρ) (hρ : ∀ k, k < 34 → ρ k = σ k) (hμ : ∀ k, k < 15 → μ k = τ k) (hs : ∀ w, w < 4 → xRs (ρ (34 + 2 * w)) (ρ (35 + 2 * w)) (μ 15 w) (μ 16 w) (μ 17 w) (fun i => μ 18 (48 * w + i))) : xRel ρ μ := by
  refine ⟨hC, ?_⟩
  obtain ⟨h1, h2, h3, h4, h5, h6⟩ := h.2
  unfold xRw
  rw [hρ 4 (by decide), hρ 5 (by decide), hρ 6 (by decide), hρ 7 (by decide), hρ 8 (by decide), hρ 9 (by decide), hρ 10 (by decide), hρ 12 (by decide), hρ 13 (by decide), hρ 14 (by decide), hρ 15 (by decide), hρ 16 (by decide), hρ 17 (by decide), hρ 18 (by decide), hρ 19 (by decide), hρ 0 (by decide), hμ 0 (by decide), hμ 1 (by decide), hμ 2 (by decide), hμ 3 (by decide), hμ 4 (by decide), hμ 5 (by decide), hμ 6 (by decide), hμ 9 (by decide), hμ 10 (by decide), hμ 11 (by decide), hμ 12 (by decide), hμ 13 (by decide), hμ 14 (by decide)]
  exact ⟨h1, h2, h3, h4, h5, hs⟩
theorem xfl_in {g f : Nat → Int32} {b k j : Nat} (h1 : b ≤ j) (h2 : j < b + k) : xfl g f b k j = f (j - b) := if_pos ⟨h1, h2⟩
theorem xfl_out {g f : Nat → Int32} {b k j : Nat} (h : j < b ∨ b + k ≤ j) : xfl g f b k j = g j := if_neg (by omega)
/-- only items of sheet w change -/
theorem xRel_it {σ τ : Nat → Nat → Int32} (h : xRel σ τ) {w : Nat} {f g : Nat → Int32} (h1 : ∀ i, i < 48 → g (48 * w + i) = f i) (h2 : ∀ v i, v ≠ w → i < 48 → g (48 * v + i) = τ 18 (48 * v + i)) : xRel (va_up σ (35 + 2 * w) f) (va_up τ 18 g) := by
  refine xRel_sh h (xIC_up h.1 (Or.inr ⟨w, rfl⟩) f) (fun k hk => xup_n _ _ (by omega)) (fun k hk => xup_n _ _ (by omega)) (fun v hv => ?_)
  obtain ⟨r1, r2, r3, r4⟩ := h.2.2.2.2.2.2 v hv
  rw [xup_n _ _ (show 34 + 2 * v ≠ 35 + 2 * w by omega), xup_n _ _ (show 15 ≠ 18 by decide), xup_n _ _ (show 16 ≠ 18 by decide), xup_n _ _ (show 17 ≠ 18 by decide), xup_s]
  refine ⟨r1, r2, r3, fun i hi => ?_⟩
  by_cases e : v = w
  · subst e
    rw [xup_s]
    exact h1 i hi
  · rw [xup_n _ _ (show 35 + 2 * v ≠ 35 + 2 * w by omega)]
    show g (48 * v + i) = _
    rw [h2 v i e hi]
    exact r4 i hi
theorem xR_sheet {σ τ : Nat → Nat → Int32} (h : xRel σ τ) (x0 x1 x2 : Int32) : xRel (xst_sheet σ x0 x1 x2) (xst_msheet τ x0 x1 x2) := by
  unfold xst_sheet xst_msheet
  by_cases q : xin x0 4 ∧ xin x1 3 ∧ x2 ≤ nI 48
  · rw [if_pos q, if_pos q]
    by_cases q1 : 0 ≤ x2
    · rw [if_pos q1, if_pos q1]
      obtain ⟨q2, q3, q4⟩ := q
      obtain ⟨w, hw, rfl⟩ := xin_of q2 (by decide)
      obtain ⟨j, hj, rfl⟩ := xin_of q3 (by decide)
      obtain ⟨n, hn, rfl⟩ := xin_of ((xin_le 48 (by decide)).mp ⟨q1, q4⟩) (by decide)
      rw [cN_nI (by omega)]
      unfold xst_new xst_mnew
      have e1 : ∀ b : Nat → Int32, upd (upd (upd b 1 (nI 0)) 2 (nI j)) 3 (nI n) 1 = 0 := fun b => by rw [pk_un (by decide), pk_un (by decide), pk_us]; rfl
      have e2 : ∀ b : Nat → Int32, upd (upd (upd b 1 (nI 0)) 2 (nI j)) 3 (nI n) 2 = nI j := fun b => by rw [pk_un (by decide), pk_us]
      have e3 : ∀ b : Nat → Int32, upd (upd (upd b 1 (nI 0)) 2 (nI j)) 3 (nI n) 3 = nI n := fun b => by rw [pk_us]
      have hI : xI6 (upd (upd (upd (σ (34 + 2 * w)) 1 (nI 0)) 2 (nI j)) 3 (nI n)) := by
        unfold xI6
        rw [xnat_I (e2 _) (by omega), xnat_I (e3 _) (by omega), e1, e2, e3]
        exact ⟨Or.inl rfl, ⟨hj, rfl⟩, by omega, rfl⟩
      refine xRel_sh h (xIC_sh (xIC_up h.1 (Or.inr ⟨w, rfl⟩) _) hI) (fun k hk => by rw [xup_n _ _ (by omega), xup_n _ _ (by omega)]) (fun k hk => by rw [xup_n _ _ (by omega), xup_n _ _ (by omega), xup_n _ _ (by omega), xup_n _ _ (by omega)]) (fun v hv => ?_)
      obtain ⟨r1, r2, r3, r4⟩ := h.2.2.2.2.2.2 v hv
      simp (disch := decide) only [xup_n, xup_s]
      rw [xup_n _ _ (show 35 + 2 * v ≠ 34 + 2 * w by omega)]
      by_cases e : v = w
      · subst e
        rw [xup_s, xup_s, pk_us, pk_us, pk_us]
        refine ⟨Or.inl ⟨rfl, e1 _⟩, (e2 _).symm, (e3 _).symm, fun i hi => ?_⟩
        rw [fa_fill_in hi]
        exact xfl_in (by omega) (by omega)
      · rw [xup_n _ _ (show 34 + 2 * v ≠ 34 + 2 * w by omega), xup_n _ _ (show 34 + 2 * v ≠ 35 + 2 * w by omega), xup_n _ _ (show 35 + 2 * v ≠ 35 + 2 * w by omega), pk_un e, pk_un e, pk_un e]
        refine ⟨r1, r2, r3, fun i hi => ?_⟩
        show xfl _ _ _ _ (48 * v + i) = _
        rw [xfl_out (by omega)]
        exact r4 i hi
    · rw [if_neg q1, if_neg q1]
      exact xRel_f h _
  · rw [if_neg q, if_neg q]
    exact h
theorem xR_lose {σ τ : Nat → Nat → Int32} (h : xRel σ τ) (x : Int32) : xp_lose (xVM τ) x = xp_lose (xVC σ) x ∧ xRel (xst_lose σ x) (xst_mlose τ x) := by
  have hR := h.2
  unfold xp_lose xst_lose xst_mlose
  by_cases q : xin x 4
  · obtain ⟨w, hw, rfl⟩ := xin_of q (by decide)
    obtain ⟨v1, v2, v3⟩ := xRw_V hR hw
    rw [if_pos q, if_pos q, if_pos q, if_pos q, cN_nI (by omega), v1, v3]
    refine ⟨rfl, ?_⟩
    by_cases q1 : xVC σ w 1 = 0
    · rw [if_pos q1, if_pos q1]
      have h6 := (xIC_iff.mp h.1).2.2.2.2 w hw
      have e2 : xnat (upd (σ (34 + 2 * w)) 1 (nI 1)) 2 = xnat (σ (34 + 2 * w)) 2 := by unfold xnat; rw [pk_un (by decide)]
      have e3 : xnat (upd (σ (34 + 2 * w)) 1 (nI 1)) 3 = xnat (σ (34 + 2 * w)) 3 := by unfold xnat; rw [pk_un (by decide)]
      have hI : xI6 (upd (σ (34 + 2 * w)) 1 (nI 1)) := by
        unfold xI6
        rw [e2, e3, pk_us, pk_un (by decide), pk_un (by decide)]
        exact ⟨Or.inr rfl, h6.2⟩
      refine xRel_sh h (xIC_sh h.1 hI) (fun k hk => xup_n _ _ (by omega)) (fun k hk => xup_n _ _ (by omega)) (fun v hv => ?_)
      obtain ⟨r1, r2, r3, r4⟩ := hR.2.2.2.2.2 v hv
      simp (disch := decide) only [xup_n, xup_s]
      rw [xup_n _ _ (show 35 + 2 * v ≠ 34 + 2 * w by omega)]
      by_cases e : v = w
      · subst e
        rw [xup_s, pk_us]
        refine ⟨Or.inr ⟨rfl, ?_⟩, ?_, ?_, r4⟩
        · rw [pk_us]
          rfl
        · rw [pk_un (by decide)]
          exact r2
        · rw [pk_un (by decide)]
          exact r3
      · rw [xup_n _ _ (show 34 + 2 * v ≠ 34 + 2 * w by omega), pk_un e]
        exact ⟨r1, r2, r3, r4⟩
    · rw [if_neg q1, if_neg q1]
      exact xRel_f h _
  · rw [if_neg q, if_neg q, if_neg q, if_neg q]
    exact ⟨rfl, h⟩
theorem xs_find_c {v u : Nat → Int32} (h : v 1 = u 1 ∧ v 2 = u 2 ∧ v 3 = u 3) (f i : Int32) : xs_find v f i = xs_find u f i := by
  unfold xs_find
  rw [h.1, h.2.1, h.2.2]
theorem xR_put {σ τ : Nat → Nat → Int32} (h : xRel σ τ) (x0 x1 x2 x3 : Int32) : xp_put (xVM τ) x0 x1 x2 = xp_put (xVC σ) x0 x1 x2 ∧ xRel (xst_put σ x0 x1 x2 x3) (xst_mput τ x0 x1 x2 x3) := by
  have hR := h.2
  unfold xp_put xst_put xst_mput
  by_cases q : xin x0 4 ∧ xin x1 3
  · obtain ⟨w, hw, rfl⟩ := xin_of q.1 (by decide)
    have hv := xRw_V hR hw
    rw [if_pos q, if_pos q, if_pos q, if_pos q, cN_nI (by omega), xs_find_c hv]
    refine ⟨rfl, ?_⟩
    by_cases q1 : xs_find (xVC σ w) x1 x2 = 0
    · rw [if_pos q1, if_pos q1]
      obtain ⟨-, -, f3⟩ := xs_find_0 q1
      have h6 := (xIC_iff.mp h.1).2.2.2.2 w hw
      have hx2 : xin x2 (xnat (σ (34 + 2 * w)) 3) := ⟨f3.1, by have h9 := f3.2; rw [show xVC σ w 3 = nI (xnat (σ (34 + 2 * w)) 3) from h6.2.2.2] at h9; exact h9⟩
      have hb := h6.2.2.1
      obtain ⟨i, hi, rfl⟩ := xin_of hx2 (by omega)
      rw [cN_nI (n := i) (by omega)]
      have e2 : xnat (xVM τ w) 2 = xnat (xVC σ w) 2 := by unfold xnat; rw [hv.2.1]
      unfold xst_keep
      rw [e2]
      refine xRel_it h (fun j hj => ?_) (fun v j hne hj => pk_un (by omega))
      by_cases e : j = i
      · subst e
        rw [pk_us, pk_us]
      · rw [pk_un (by omega), pk_un e]
        exact xRw_J hR hw hj
    · rw [if_neg q1, if_neg q1]
      exact xRel_f h _
  · rw [if_neg q, if_neg q, if_neg q, if_neg q]
    exact ⟨rfl, h⟩
theorem xR_get {σ τ : Nat → Nat → Int32} (h : xRel σ τ) (x0 x1 x2 : Int32) : xp_get (xVM τ) (xJM τ) x0 x1 x2 = xp_get (xVC σ) (xJC σ) x0 x1 x2 ∧ xRel (xst_get σ x0 x1 x2) (xst_mget τ x0 x1 x2) := by
  have hR := h.2
  unfold xp_get xst_get xst_mget
  by_cases q : xin x0 4 ∧ xin x1 3
  · obtain ⟨w, hw, rfl⟩ := xin_of q.1 (by decide)
    have hv := xRw_V hR hw
    rw [if_pos q, if_pos q, if_pos q, if_pos q, cN_nI (by omega), xs_find_c hv]
    by_cases q1 : xs_find (xVC σ w) x1 x2 = 0
    · rw [if_pos q1, if_pos q1, if_pos q1, if_pos q1]
      obtain ⟨-, -, f3⟩ := xs_find_0 q1
      have h6 := (xIC_iff.mp h.1).2.2.2.2 w hw
      have hx2 : xin x2 (xnat (σ (34 + 2 * w)) 3) := ⟨f3.1, by have h9 := f3.2; rw [show xVC σ w 3 = nI (xnat (σ (34 + 2 * w)) 3) from h6.2.2.2] at h9; exact h9⟩
      have hb := h6.2.2.1
      obtain ⟨i, hi, rfl⟩ := xin_of hx2 (by omega)
      rw [cN_nI (n := i) (by omega)]
      exact ⟨xRw_J hR hw (by omega), h⟩
    · rw [if_neg q1, if_neg q1, if_neg q1, if_neg q1]
      exact ⟨rfl, xRel_f h _⟩
  · rw [if_neg q, if_neg q, if_neg q, if_neg q]
    exact ⟨rfl, h⟩
theorem xcpf_c {V U : Nat → Nat → Int32} {a i b j n : Int32} (h1 : V (cN a) 1 = U (cN a) 1 ∧ V (cN a) 2 = U (cN a) 2 ∧ V (cN a) 3 = U (cN a) 3) (h2 : V (cN b) 1 = U (cN b) 1 ∧ V (cN b) 2 = U (cN b) 2 ∧ V (cN b) 3 = U (cN b) 3) : xcpf V a i b j n = xcpf U a i b j n := by
  unfold xcpf xrg
  rw [h1.1, h1.2.1, h1.2.2, h2.1, h2.2.1, h2.2.2]
theorem xcpf_0 {V : Nat → Nat → Int32} {a i b j n : Int32} (h : xcpf V a i b j n = 0) : xrg (V (cN a)) i n ∧ xrg (V (cN b)) j n := by
  unfold xcpf at h
  by_cases q1 : ¬ V (cN a) 1 = 0 ∨ ¬ V (cN b) 1 = 0
  · rw [if_pos q1] at h
    exact absurd h (by decide)
  · rw [if_neg q1] at h
    by_cases q2 : ¬ V (cN a) 2 = V (cN b) 2
    · rw [if_pos q2] at h
      exact absurd h (by decide)
    · rw [if_neg q2] at h
      by_cases q3 : xrg (V (cN a)) i n ∧ xrg (V (cN b)) j n
      · exact q3
      · rw [if_neg q3] at h
        exact absurd h (by decide)
theorem xR_copy {σ τ : Nat → Nat → Int32} (h : xRel σ τ) (a i b j n : Int32) : xp_copy (xVM τ) a i b j n = xp_copy (xVC σ) a i b j n ∧ xRel (xst_copy σ a i b j n) (xst_mcopy τ a i b j n) := by
  have hR := h.2
  unfold xp_copy xst_copy xst_mcopy
  by_cases q : xin a 4 ∧ xin b 4
  · obtain ⟨w, hw, rfl⟩ := xin_of q.1 (by decide)
    obtain ⟨v, hv, rfl⟩ := xin_of q.2 (by decide)
    have ew : cN (nI w) = w := cN_nI (by omega)
    have ev : cN (nI v) = v := cN_nI (by omega)
    have hc : xcpf (xVM τ) (nI w) i (nI v) j n = xcpf (xVC σ) (nI w) i (nI v) j n := xcpf_c (by rw [ew]; exact xRw_V hR hw) (by rw [ev]; exact xRw_V hR hv)
    rw [if_pos q, if_pos q, if_pos q, if_pos q, hc]
    refine ⟨rfl, ?_⟩
    by_cases q1 : xcpf (xVC σ) (nI w) i (nI v) j n = 0
    · rw [if_pos q1, if_pos q1]
      obtain ⟨g1, g2⟩ := xcpf_0 q1
      rw [ew] at g1
      rw [ev] at g2
      have h6 := (xIC_iff.mp h.1).2.2.2.2
      obtain ⟨i1, k1, rfl, rfl, hb1⟩ := xrg_nat g1 (h6 w hw).2.2.2 (h6 w hw).2.2.1
      obtain ⟨j1, k2, rfl, ek, hb2⟩ := xrg_nat g2 (h6 v hv).2.2.2 (h6 v hv).2.2.1
      have hz1 := (h6 w hw).2.2.1
      have hz2 := (h6 v hv).2.2.1
      have ek2 : k1 = k2 := (nI_eq (by omega) (by omega)).mp ek
      subst ek2
      rw [ew, ev, cN_nI (n := i1) (by omega), cN_nI (n := j1) (by omega), cN_nI (n := k1) (by omega)]
      refine xRel_it h (fun d hd => ?_) (fun u d hne hd => xfl_out (by omega))
      unfold va_cpy
      by_cases q2 : j1 ≤ d ∧ d < j1 + k1
      · rw [if_pos q2, xfl_in (by omega) (by omega), show 48 * w + i1 + (48 * v + d - (48 * v + j1)) = 48 * w + (i1 + (d - j1)) by omega]
        exact xRw_J hR hw (by omega)
      · rw [if_neg q2, xfl_out (by omega)]
        exact xRw_J hR hv hd
    · rw [if_neg q1, if_neg q1]
      exact xRel_f h _
  · rw [if_neg q, if_neg q, if_neg q, if_neg q]
    exact ⟨rfl, h⟩
theorem xR_write {σ τ : Nat → Nat → Int32} (h : xRel σ τ) (x0 x1 : Int32) : xp_write (xVM τ) (xYM τ) x0 x1 = xp_write (xVC σ) (xYC σ) x0 x1 ∧ xRel (xst_write σ x0 x1) (xst_mwrite τ x0 x1) := by
  have hR := h.2
  unfold xp_write xst_write xst_mwrite
  rw [xRw_Y hR]
  by_cases q : xin x0 (xYC σ) ∧ xin x1 4
  · obtain ⟨w, hw, rfl⟩ := xin_of q.2 (by decide)
    have hv := xRw_V hR hw
    have e3 : xnat (xVM τ w) 3 = xnat (xVC σ w) 3 := by unfold xnat; rw [hv.2.2]
    rw [if_pos q, if_pos q, if_pos q, if_pos q, cN_nI (n := w) (by omega), hv.1, e3]
    refine ⟨rfl, ?_⟩
    by_cases q1 : xVC σ w 1 = 0
    · rw [if_pos q1, if_pos q1]
      have hm := xmin6_le (xnat (xVC σ w) 3)
      refine xRel_it h (fun d hd => ?_) (fun u d hne hd => xfl_out (by omega))
      by_cases q2 : d < xmin6 (xnat (xVC σ w) 3)
      · rw [fa_fill_in q2, xfl_in (by omega) (by omega), Nat.add_sub_cancel_left]
        unfold xwf
        have e2 : xnat (τ 16) w = xnat (xVC σ w) 2 := by unfold xnat; rw [show τ 16 w = xVC σ w 2 from hv.2.1]
        rw [e2, hR.2.1.1]
      · rw [xfl_out (by omega)]
        unfold fa_fill
        rw [if_neg q2]
        exact xRw_J hR hw hd
    · rw [if_neg q1, if_neg q1]
      exact xRel_f h _
  · rw [if_neg q, if_neg q, if_neg q, if_neg q]
    exact ⟨rfl, h⟩
/-- the start -/
theorem xRel_0 : xRel xC0 (xM0 6) := by
  have hd : ∀ f : Nat → Int32, xran f 0 6 := fun f j hj => absurd hj (Nat.not_lt_zero j)
  refine ⟨xIC_iff.mpr ⟨?_, ?_, ?_, ?_, fun w hw => ?_⟩, ⟨rfl, rfl, rfl, rfl, rfl⟩, ⟨rfl, rfl⟩, ⟨rfl, rfl, rfl, rfl⟩, ⟨rfl, rfl, rfl, rfl⟩, rfl, fun w hw => ?_⟩
  · have e1 : xC0 9 1 = nI 0 := rfl
    have e := xnat_I e1 (by decide)
    unfold xI1
    rw [e]
    have e5 : xt_fault (xC0 10) 0 = -1 := by rw [xt_fault_no (fun k hk => absurd hk (Nat.not_lt_zero k)), if_pos (Or.inl rfl)]
    refine ⟨⟨e1, by decide⟩, ?_, ?_⟩
    · rw [e5]
      rfl
    · unfold xt_years
      rw [if_pos e5]
      rfl
  · have e1 : xC0 12 4 = nI 0 := rfl
    have e := xnat_I e1 (by decide)
    unfold xI2
    rw [e]
    exact ⟨e1, by decide, fun j hj => absurd hj (Nat.not_lt_zero j), fun j hj => absurd hj (Nat.not_lt_zero j)⟩
  · have e1 : xC0 16 4 = nI 0 := rfl
    have e := xnat_I e1 (by decide)
    unfold xI2
    rw [e]
    exact ⟨e1, by decide, fun j hj => absurd hj (Nat.not_lt_zero j), fun j hj => absurd hj (Nat.not_lt_zero j)⟩
  · intro j hj
    have e1 : xC0 8 j = nI (j + 1) := fa_fill_in (f := fun j => nI (j + 1)) (g := fun _ => 0) hj
    have e := xnat_I e1 (by omega)
    rw [e]
    exact ⟨by omega, e1⟩
  · have e0 : xC0 (34 + 2 * w) = fun j => if j = 1 then 1 else 0 := by
      rcases (show w = 0 ∨ w = 1 ∨ w = 2 ∨ w = 3 by omega) with rfl | rfl | rfl | rfl <;> rfl
    rw [e0]
    exact ⟨Or.inr rfl, ⟨by decide, by decide⟩, by decide, by decide⟩
  · have e0 : xC0 (34 + 2 * w) = fun j => if j = 1 then 1 else 0 := by
      rcases (show w = 0 ∨ w = 1 ∨ w = 2 ∨ w = 3 by omega) with rfl | rfl | rfl | rfl <;> rfl
    have e1 : xC0 (35 + 2 * w) = fun _ => 0 := by
      rcases (show w = 0 ∨ w = 1 ∨ w = 2 ∨ w = 3 by omega) with rfl | rfl | rfl | rfl <;> rfl
    rw [e0, e1]
    exact ⟨Or.inr ⟨rfl, rfl⟩, rfl, rfl, fun i hi => rfl⟩

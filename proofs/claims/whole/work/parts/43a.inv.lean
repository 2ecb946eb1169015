/-! what holds between the calls: the class's own part, cell by cell -/
def xI1 (b t : Nat → Int32) : Prop := (b 1 = nI (xnat b 1) ∧ xnat b 1 ≤ 90) ∧ (b 3 = xt_fault t (xnat b 1) ∧ b 2 = nI (xt_years t (xnat b 1)))
def xI2 (n a d : Nat) (c u v : Nat → Int32) : Prop := c 4 = nI (xnat c 4) ∧ xnat c 4 ≤ n ∧ xran u (xnat c 4) a ∧ xran v (xnat c 4) d
def xI6 (v : Nat → Int32) : Prop := (v 1 = 0 ∨ v 1 = 1) ∧ (xnat v 2 < 3 ∧ v 2 = nI (xnat v 2)) ∧ (xnat v 3 ≤ 48 ∧ v 3 = nI (xnat v 3))
theorem xIC_iff {σ : Nat → Nat → Int32} : xIC σ ↔ (xI1 (σ 9) (σ 10) ∧ xI2 12 6 12 (σ 12) (σ 13) (σ 14) ∧ xI2 8 6 2 (σ 16) (σ 17) (σ 18) ∧ xran (σ 8) 6 10 ∧ ∀ w, w < 4 → xI6 (σ (34 + 2 * w))) :=
  ⟨fun ⟨a, b, c, d, e, f⟩ => ⟨⟨a, b⟩, c, d, e, f⟩, fun ⟨⟨a, b⟩, c, d, e, f⟩ => ⟨a, b, c, d, e, f⟩⟩
theorem xIC_to {σ ρ : Nat → Nat → Int32} (h : xIC σ) (h1 : xI1 (ρ 9) (ρ 10)) (h8 : xran (ρ 8) 6 10) (e12 : ρ 12 = σ 12) (e13 : ρ 13 = σ 13) (e14 : ρ 14 = σ 14) (e16 : ρ 16 = σ 16) (e17 : ρ 17 = σ 17) (e18 : ρ 18 = σ 18) (hs : ∀ w, w < 4 → xI6 (ρ (34 + 2 * w))) : xIC ρ := by
  rw [xIC_iff] at h ⊢
  rw [e12, e13, e14, e16, e17, e18]
  exact ⟨h1, h.2.1, h.2.2.1, h8, hs⟩
/-- none of its cells but those of no account -/
theorem xIC_same {σ ρ : Nat → Nat → Int32} (h : xIC σ) (e8 : ρ 8 = σ 8) (e9 : ρ 9 = σ 9) (e10 : ρ 10 = σ 10) (e12 : ρ 12 = σ 12) (e13 : ρ 13 = σ 13) (e14 : ρ 14 = σ 14) (e16 : ρ 16 = σ 16) (e17 : ρ 17 = σ 17) (e18 : ρ 18 = σ 18) (hs : ∀ w, w < 4 → ρ (34 + 2 * w) = σ (34 + 2 * w)) : xIC ρ := by
  rw [xIC_iff] at h ⊢
  rw [e8, e9, e10, e12, e13, e14, e16, e17, e18]
  exact ⟨h.1, h.2.1, h.2.2.1, h.2.2.2.1, fun w hw => by rw [hs w hw]; exact h.2.2.2.2 w hw⟩
theorem xnat_I {f : Nat → Int32} {k n : Nat} (h : f k = nI n) (hn : n < 2 ^ 31) : xnat f k = n := by
  unfold xnat
  rw [h, nI_clamp hn]
theorem xI1_parse {b t : Nat → Int32} {L : Nat} (h : b 1 = nI L) (hL : L ≤ 90) : xI1 (upd (upd b 3 (xt_fault t L)) 2 (nI (xt_years t L))) t := by
  have e1 : upd (upd b 3 (xt_fault t L)) 2 (nI (xt_years t L)) 1 = nI L := by rw [pk_un (by decide), pk_un (by decide), h]
  have e := xnat_I e1 (by omega)
  unfold xI1
  rw [e, e1, pk_us, pk_un (by decide), pk_us]
  exact ⟨⟨rfl, hL⟩, rfl, rfl⟩
theorem xst_parse_n (σ : Nat → Nat → Int32) (L : Nat) {k : Nat} (h : k ≠ 9) : xst_parse σ L k = σ k := by
  unfold xst_parse
  rw [xup_n _ _ h]
theorem xst_parse_9 (σ : Nat → Nat → Int32) (L : Nat) : xst_parse σ L 9 = upd (upd (σ 9) 3 (xt_fault (σ 10) L)) 2 (nI (xt_years (σ 10) L)) := by
  unfold xst_parse
  rw [xup_s]
/-- a text of L bytes is read anew; all else stays -/
theorem xIC_parse {σ ρ : Nat → Nat → Int32} {L : Nat} (h : xIC σ) (hρ : ρ 9 1 = nI L) (hL : L ≤ 90) (hk : ∀ k, k ≠ 9 → k ≠ 10 → ρ k = σ k) : xIC (xst_parse ρ L) := by
  have hn : ∀ k, k ≠ 9 → k ≠ 10 → xst_parse ρ L k = σ k := fun k a b => (xst_parse_n ρ L a).trans (hk k a b)
  have h9 := xIC_iff.mp h
  refine xIC_to h ?_ ?_ (hn _ (by decide) (by decide)) (hn _ (by decide) (by decide)) (hn _ (by decide) (by decide)) (hn _ (by decide) (by decide)) (hn _ (by decide) (by decide)) (hn _ (by decide) (by decide)) (fun w hw => ?_)
  · rw [xst_parse_9, xst_parse_n _ _ (by decide)]
    exact xI1_parse hρ hL
  · rw [hn _ (by decide) (by decide)]
    exact h9.2.2.2.1
  · rw [hn _ (by omega) (by omega)]
    exact h9.2.2.2.2 w hw
theorem xIC_f {σ : Nat → Nat → Int32} (h : xIC σ) (v : Int32) : xIC (xst_f σ v) := by
  have hn : ∀ k, k ≠ 0 → xst_f σ v k = σ k := fun k hk => xup_n _ _ hk
  exact xIC_same h (hn _ (by decide)) (hn _ (by decide)) (hn _ (by decide)) (hn _ (by decide)) (hn _ (by decide)) (hn _ (by decide)) (hn _ (by decide)) (hn _ (by decide)) (hn _ (by decide)) (fun w _ => hn _ (by omega))
/-- a change of cells 4 to 7, or of items -/
theorem xIC_up {σ : Nat → Nat → Int32} (h : xIC σ) {k : Nat} (hk : (4 ≤ k ∧ k < 8) ∨ (∃ w, k = 35 + 2 * w)) (f : Nat → Int32) : xIC (va_up σ k f) := by
  have hn : ∀ j, j ≠ k → va_up σ k f j = σ j := fun j hj => xup_n _ _ hj
  have hz : ∀ j, 8 ≤ j → j < 35 → j ≠ k := fun j h1 h2 => by
    rcases hk with ⟨a, b⟩ | ⟨w, rfl⟩ <;> omega
  have hz2 : ∀ w, 34 + 2 * w ≠ k := fun w => by
    rcases hk with ⟨a, b⟩ | ⟨v, rfl⟩ <;> omega
  exact xIC_same h (hn _ (hz _ (by decide) (by decide))) (hn _ (hz _ (by decide) (by decide))) (hn _ (hz _ (by decide) (by decide))) (hn _ (hz _ (by decide) (by decide))) (hn _ (hz _ (by decide) (by decide))) (hn _ (hz _ (by decide) (by decide))) (hn _ (hz _ (by decide) (by decide))) (hn _ (hz _ (by decide) (by decide))) (hn _ (hz _ (by decide) (by decide))) (fun w _ => hn _ (hz2 w))
theorem xIC_fee {σ : Nat → Nat → Int32} (h : xIC σ) {f : Nat → Int32} (hf : xran f 6 10) : xIC (va_up σ 8 f) := by
  have hn : ∀ j, j ≠ 8 → va_up σ 8 f j = σ j := fun j hj => xup_n _ _ hj
  have h9 := xIC_iff.mp h
  refine xIC_to h ?_ ?_ (hn _ (by decide)) (hn _ (by decide)) (hn _ (by decide)) (hn _ (by decide)) (hn _ (by decide)) (hn _ (by decide)) (fun w hw => ?_)
  · rw [hn _ (by decide), hn _ (by decide)]
    exact h9.1
  · rw [xup_s]
    exact hf
  · rw [hn _ (by omega)]
    exact h9.2.2.2.2 w hw
/-- a change of one sheet's own cell -/
theorem xIC_sh {σ : Nat → Nat → Int32} (h : xIC σ) {w : Nat} {f : Nat → Int32} (hf : xI6 f) : xIC (va_up σ (34 + 2 * w) f) := by
  have hn : ∀ j, j ≠ 34 + 2 * w → va_up σ (34 + 2 * w) f j = σ j := fun j hj => xup_n _ _ hj
  have h9 := xIC_iff.mp h
  refine xIC_to h ?_ ?_ (hn _ (by omega)) (hn _ (by omega)) (hn _ (by omega)) (hn _ (by omega)) (hn _ (by omega)) (hn _ (by omega)) (fun v hv => ?_)
  · rw [hn _ (by omega), hn _ (by omega)]
    exact h9.1
  · rw [hn _ (by omega)]
    exact h9.2.2.2.1
  · by_cases e : v = w
    · subst e
      rw [xup_s]
      exact hf
    · rw [hn _ (by omega)]
      exact h9.2.2.2.2 v hv
theorem xran_upd {f : Nat → Int32} {k b : Nat} {x : Int32} (h : xran f k b) (hx : xin x b) (hb : b < 2 ^ 31) : xran (upd f k x) (k + 1) b := by
  intro j hj
  by_cases e : j = k
  · subst e
    obtain ⟨n, hn, rfl⟩ := xin_of hx hb
    have e1 : upd f j (nI n) j = nI n := pk_us
    have e2 := xnat_I e1 (by omega)
    rw [e2]
    exact ⟨hn, e1⟩
  · have e1 : upd f k x j = f j := pk_un e
    have e2 : xnat (upd f k x) j = xnat f j := by unfold xnat; rw [e1]
    rw [e2, e1]
    exact h j (by omega)
theorem xran_set {f : Nat → Int32} {n k b : Nat} {x : Int32} (h : xran f n b) (hx : xin x b) (hb : b < 2 ^ 31) : xran (upd f k x) n b := by
  intro j hj
  by_cases e : j = k
  · subst e
    obtain ⟨n, hn, rfl⟩ := xin_of hx hb
    have e1 : upd f j (nI n) j = nI n := pk_us
    have e2 := xnat_I e1 (by omega)
    rw [e2]
    exact ⟨hn, e1⟩
  · have e1 : upd f k x j = f j := pk_un e
    have e2 : xnat (upd f k x) j = xnat f j := by unfold xnat; rw [e1]
    rw [e2, e1]
    exact h j hj
theorem xI2_add {n a d : Nat} {c u v : Nat → Int32} {x y : Int32} (h : xI2 n a d c u v) (hk : xnat c 4 < n) (hn : n ≤ 100) (hx : xin x a) (hy : xin y d) (ha : a ≤ 100) (hd : d ≤ 100) : xI2 n a d (upd c 4 (nI (xnat c 4 + 1))) (upd u (xnat c 4) x) (upd v (xnat c 4) y) := by
  obtain ⟨h1, h2, h3, h4⟩ := h
  have e1 : upd c 4 (nI (xnat c 4 + 1)) 4 = nI (xnat c 4 + 1) := pk_us
  have e := xnat_I e1 (by omega)
  unfold xI2
  rw [e, e1]
  exact ⟨rfl, by omega, xran_upd h3 hx (by omega), xran_upd h4 hy (by omega)⟩
theorem xI2_0 {n a d : Nat} {c u v : Nat → Int32} : xI2 n a d (upd c 4 (nI 0)) u v := by
  have e1 : upd c 4 (nI 0) 4 = nI 0 := pk_us
  have e := xnat_I e1 (by decide)
  unfold xI2
  rw [e, e1]
  exact ⟨rfl, Nat.zero_le _, fun j hj => absurd hj (Nat.not_lt_zero j), fun j hj => absurd hj (Nat.not_lt_zero j)⟩
theorem xIC_cl {σ ρ : Nat → Nat → Int32} (h : xIC σ) (hc : xI2 12 6 12 (ρ 12) (ρ 13) (ρ 14)) (hk : ∀ k, k ≠ 12 → k ≠ 13 → k ≠ 14 → k ≠ 15 → ρ k = σ k) : xIC ρ := by
  have h9 := xIC_iff.mp h
  refine xIC_iff.mpr ⟨?_, hc, ?_, ?_, fun w hw => ?_⟩
  · rw [hk 9 (by decide) (by decide) (by decide) (by decide), hk 10 (by decide) (by decide) (by decide) (by decide)]
    exact h9.1
  · rw [hk 16 (by decide) (by decide) (by decide) (by decide), hk 17 (by decide) (by decide) (by decide) (by decide), hk 18 (by decide) (by decide) (by decide) (by decide)]
    exact h9.2.2.1
  · rw [hk 8 (by decide) (by decide) (by decide) (by decide)]
    exact h9.2.2.2.1
  · rw [hk _ (by omega) (by omega) (by omega) (by omega)]
    exact h9.2.2.2.2 w hw
theorem xIC_sg {σ ρ : Nat → Nat → Int32} (h : xIC σ) (hc : xI2 8 6 2 (ρ 16) (ρ 17) (ρ 18)) (hk : ∀ k, k ≠ 16 → k ≠ 17 → k ≠ 18 → k ≠ 19 → ρ k = σ k) : xIC ρ := by
  have h9 := xIC_iff.mp h
  refine xIC_iff.mpr ⟨?_, ?_, hc, ?_, fun w hw => ?_⟩
  · rw [hk 9 (by decide) (by decide) (by decide) (by decide), hk 10 (by decide) (by decide) (by decide) (by decide)]
    exact h9.1
  · rw [hk 12 (by decide) (by decide) (by decide) (by decide), hk 13 (by decide) (by decide) (by decide) (by decide), hk 14 (by decide) (by decide) (by decide) (by decide)]
    exact h9.2.1
  · rw [hk 8 (by decide) (by decide) (by decide) (by decide)]
    exact h9.2.2.2.1
  · rw [hk _ (by omega) (by omega) (by omega) (by omega)]
    exact h9.2.2.2.2 w hw
/-! both sides -/
def xRs (v it : Nat → Int32) (a b d : Int32) (jt : Nat → Int32) : Prop := ((a = 1 ∧ v 1 = 0) ∨ (a = 0 ∧ v 1 = 1)) ∧ b = v 2 ∧ d = v 3 ∧ ∀ i, i < 48 → jt i = it i
def xRw (σ τ : Nat → Nat → Int32) : Prop := (τ 1 = σ 4 ∧ τ 2 = σ 5 ∧ τ 3 = σ 6 ∧ τ 4 = σ 7 ∧ τ 5 = σ 8) ∧ (τ 6 = σ 10 ∧ τ 0 6 = σ 9 1) ∧ (τ 9 = σ 13 ∧ τ 10 = σ 14 ∧ τ 11 = σ 15 ∧ τ 0 10 = σ 12 4) ∧ (τ 12 = σ 17 ∧ τ 13 = σ 18 ∧ τ 14 = σ 19 ∧ τ 0 14 = σ 16 4) ∧ τ 0 23 = σ 0 8 ∧ ∀ w, w < 4 → xRs (σ (34 + 2 * w)) (σ (35 + 2 * w)) (τ 15 w) (τ 16 w) (τ 17 w) (fun i => τ 18 (48 * w + i))
def xRel (σ τ : Nat → Nat → Int32) : Prop := xIC σ ∧ xRw σ τ
theorem xRw_F {σ τ : Nat → Nat → Int32} (h : xRw σ τ) : xFM τ = xFC σ := by
  funext k
  unfold xFM xFC
  split
  · exact h.1.1
  · exact h.1.2.1
  · exact h.1.2.2.1
  · exact h.1.2.2.2.1
  · exact h.1.2.2.2.2
theorem xRw_L {σ τ : Nat → Nat → Int32} (h : xRw σ τ) : xLM τ = xLC σ := by
  unfold xLM xLC xnat
  rw [h.2.1.2]
theorem xRw_Y {σ τ : Nat → Nat → Int32} (h : xRw σ τ) : xYM τ = xYC σ := by
  unfold xYM xYC
  rw [h.2.1.1, xRw_L h]
theorem xRw_c {σ τ : Nat → Nat → Int32} (h : xRw σ τ) : xcM τ = xcC σ := by
  unfold xcM xcC xnat
  rw [h.2.2.1.2.2.2]
theorem xRw_s {σ τ : Nat → Nat → Int32} (h : xRw σ τ) : xsM τ = xsC σ := by
  unfold xsM xsC xnat
  rw [h.2.2.2.1.2.2.2]
theorem xRw_V {σ τ : Nat → Nat → Int32} (h : xRw σ τ) {w : Nat} (hw : w < 4) : xVM τ w 1 = xVC σ w 1 ∧ xVM τ w 2 = xVC σ w 2 ∧ xVM τ w 3 = xVC σ w 3 := by
  obtain ⟨h1, h2, h3, -⟩ := h.2.2.2.2.2 w hw
  refine ⟨?_, h2, h3⟩
  show (if τ 15 w = 0 then nI 1 else nI 0) = σ (34 + 2 * w) 1
  rcases h1 with ⟨a, b⟩ | ⟨a, b⟩
  · rw [a, b, if_neg (by decide)]
    rfl
  · rw [a, b, if_pos rfl]
    rfl
theorem xRw_J {σ τ : Nat → Nat → Int32} (h : xRw σ τ) {w i : Nat} (hw : w < 4) (hi : i < 48) : xJM τ w i = xJC σ w i := (h.2.2.2.2.2 w hw).2.2.2 i hi
theorem xRel_IM {σ τ : Nat → Nat → Int32} (h : xRel σ τ) : xIM τ := by
  obtain ⟨hC, hR⟩ := h
  obtain ⟨h1, h2, h3, h4, h5, h6⟩ := hC
  unfold xIM
  rw [xRw_L hR, xRw_c hR, xRw_s hR, hR.2.1.2, hR.2.2.1.2.2.2, hR.2.2.2.1.2.2.2, hR.2.2.1.1, hR.2.2.1.2.1, hR.2.2.2.1.1, hR.2.2.2.1.2.1, hR.1.2.2.2.2]
  refine ⟨h1, h3, h4, h5, fun w hw => ?_⟩
  obtain ⟨r1, r2, r3, -⟩ := hR.2.2.2.2.2 w hw
  obtain ⟨-, i2, i3⟩ := h6 w hw
  refine ⟨?_, ?_, ?_⟩
  · rcases r1 with ⟨a, -⟩ | ⟨a, -⟩
    · exact Or.inr a
    · exact Or.inl a
  · have e : xnat (τ 16) w = xnat (σ (34 + 2 * w)) 2 := by unfold xnat; rw [r2]
    rw [e, r2]
    exact i2
  · have e : xnat (τ 17) w = xnat (σ (34 + 2 * w)) 3 := by unfold xnat; rw [r3]
    rw [e, r3]
    exact i3
theorem xRel_Ms {σ τ τ2 : Nat → Nat → Int32} (h : xRel σ τ) (hm : xMs τ τ2) : xRel σ τ2 := by
  refine ⟨h.1, ?_⟩
  have hR := h.2
  unfold xRw at hR ⊢
  rw [xMs_k (k := 1) hm (by decide), xMs_k (k := 2) hm (by decide), xMs_k (k := 3) hm (by decide), xMs_k (k := 4) hm (by decide), xMs_k (k := 5) hm (by decide), xMs_k (k := 6) hm (by decide), xMs_k (k := 9) hm (by decide), xMs_k (k := 10) hm (by decide), xMs_k (k := 11) hm (by decide), xMs_k (k := 12) hm (by decide), xMs_k (k := 13) hm (by decide), xMs_k (k := 14) hm (by decide), xMs_k (k := 15) hm (by decide), xMs_k (k := 16) hm (by decide), xMs_k (k := 17) hm (by decide), xMs_k (k := 18) hm (by decide), hm.2 6 (by decide), hm.2 10 (by decide), hm.2 14 (by decide), hm.2 23 (by decide)]
  exact hR
theorem xRel_Cs {σ σ2 τ : Nat → Nat → Int32} (h : xRel σ τ) (hm : xCs σ σ2) : xRel σ2 τ := by
  refine ⟨xCs_IC hm h.1, ?_⟩
  have hR := h.2
  unfold xRw at hR ⊢
  rw [xCs_k (k := 4) hm (by decide), xCs_k (k := 5) hm (by decide), xCs_k (k := 6) hm (by decide), xCs_k (k := 7) hm (by decide), xCs_k (k := 8) hm (by decide), xCs_k (k := 9) hm (by decide), xCs_k (k := 10) hm (by decide), xCs_k (k := 12) hm (by decide), xCs_k (k := 13) hm (by decide), xCs_k (k := 14) hm (by decide), xCs_k (k := 15) hm (by decide), xCs_k (k := 16) hm (by decide), xCs_k (k := 17) hm (by decide), xCs_k (k := 18) hm (by decide), xCs_k (k := 19) hm (by decide), xCs_k (k := 0) hm (by decide)]
  refine ⟨hR.1, hR.2.1, hR.2.2.1, hR.2.2.2.1, hR.2.2.2.2.1, fun w hw => ?_⟩
  rw [hm (34 + 2 * w) (by unfold xscr; omega), hm (35 + 2 * w) (by unfold xscr; omega)]
  exact hR.2.2.2.2.2 w hw

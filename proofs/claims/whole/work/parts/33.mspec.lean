/-! THE REFERENCE: its rows against what is told -/
def mN (σ : Nat → Nat → Int32) (N : Nat → Nat) : Prop := ∀ k, k < 88 → σ 1 k = nI (N k)
/-- only the five numbers of a chain have changed -/
def qm (σ τ : Nat → Nat → Int32) : Prop := ∃ R : Nat → Int32, τ = va_up σ 0 R ∧ ∀ j, j < 8 → R j = σ 0 j
theorem qm_rf (σ : Nat → Nat → Int32) : qm σ σ := ⟨σ 0, (kup_id σ 0).symm, fun _ _ => rfl⟩
theorem qm_tr {σ τ υ : Nat → Nat → Int32} (h1 : qm σ τ) (h2 : qm τ υ) : qm σ υ := by
  obtain ⟨R, rfl, a⟩ := h1
  obtain ⟨R2, rfl, b⟩ := h2
  exact ⟨R2, bx_uu _ _ _ _, fun j hj => (b j hj).trans (a j hj)⟩
theorem qm_at {σ τ : Nat → Nat → Int32} (h : qm σ τ) {k : Nat} (hk : k ≠ 0) : τ k = σ k := by
  obtain ⟨R, rfl, _⟩ := h
  exact va_up_ne _ _ hk
theorem qm_0 {σ τ : Nat → Nat → Int32} (h : qm σ τ) {j : Nat} (hj : j < 8) : τ 0 j = σ 0 j := by
  obtain ⟨R, rfl, a⟩ := h
  rw [va_up_self]
  exact a j hj
theorem mN_qm {σ τ : Nat → Nat → Int32} {N : Nat → Nat} (h : mN σ N) (q : qm σ τ) : mN τ N := fun k hk => by rw [qm_at q (by decide)]; exact h k hk
def mLie (R : Nat → Int32) (h w d n : Nat) : Prop := R 8 = nI (hg h w 0 d n) ∧ R 9 = nI (zGround h w d n) ∧ R 10 = nI (zReach h w d n) ∧ R 11 = nI (zLift h w d n) ∧ R 12 = nI (if zTaut h w d n then 1 else 0)
def cxf (w : Nat) : Nat := if w = 0 then 0 else 10
theorem zLie_ok {h w d n k : Nat} (hk : hg h w 0 d n = k) (hs : d ≤ sR h w 0 k) : zGround h w d n = n - k ∧ zReach h w d n = 10 * (n - k) + sX h w 0 k ∧ zLift h w d n = 0 ∧ (if zTaut h w d n then 1 else 0) = 0 := by
  have hok : zOk h w d n = true := by
    unfold zOk
    simp
    exact (hg_iff h w 0 d n).mp (by rw [hk]; exact hs)
  refine ⟨by unfold zGround; rw [hk], by unfold zReach; rw [hok, hk]; rfl, by unfold zLift; rw [hok]; rfl, by unfold zTaut; rw [hok]; rfl⟩
theorem zLie_no {h w d n u : Nat} (hk : hg h w 0 d n = n) (h0 : sR h w 0 n < d) (hl : lf h w d n = u) : zGround h w d n = n - n ∧ (u = 1000 → zReach h w d n = 0 ∧ zLift h w d n = 999 ∧ (if zTaut h w d n then 1 else 0) = 1) ∧ (u ≤ 999 → zReach h w d n = sX h w u n ∧ zLift h w d n = u ∧ (if zTaut h w d n then 1 else 0) = 0) := by
  have hok : zOk h w d n = false := by
    unfold zOk
    simp
    omega
  refine ⟨by unfold zGround; rw [hk], fun q => ?_, fun q => ?_⟩
  · subst q
    refine ⟨by unfold zReach; rw [hok, hl]; rfl, by unfold zLift; rw [hok, hl]; rfl, by unfold zTaut; rw [hok, hl]; rfl⟩
  · refine ⟨?_, ?_, ?_⟩
    · unfold zReach
      rw [hok, hl, if_neg (by decide), if_neg (by omega)]
    · unfold zLift
      rw [hok, hl, if_neg (by decide), Nat.min_eq_left q]
    · unfold zTaut
      rw [hok, hl]
      have : ¬ u = 1000 := by omega
      simp [this]

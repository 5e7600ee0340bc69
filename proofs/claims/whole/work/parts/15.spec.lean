/-! WHAT IS TOLD OF A HARBOUR: N is a row of 88 numbers: columns, ships, hours, 20 depths, 13 numbers a ship -/
def nSh (N : Nat → Nat) (i : Nat) : Prop :=
  (N (23 + 13 * i) < N 0 ∧ N (23 + 13 * i + 1) < 20 ∧ 1 ≤ N (23 + 13 * i + 2) ∧ N (23 + 13 * i + 2) ≤ 60) ∧
  (1 ≤ N (23 + 13 * i + 3) ∧ N (23 + 13 * i + 3) ≤ 5 ∧ 1 ≤ N (23 + 13 * i + 4) ∧ N (23 + 13 * i + 4) ≤ 9) ∧
  (1 ≤ N (23 + 13 * i + 5) ∧ N (23 + 13 * i + 5) ≤ 9 ∧ 10 ≤ N (23 + 13 * i + 6) ∧ N (23 + 13 * i + 6) ≤ 999) ∧
  (N (23 + 13 * i + 7) ≤ 1 ∧ N (23 + 13 * i + 9) ≤ 1) ∧
  (N (23 + 13 * i + 9) = 1 → N (23 + 13 * i + 10) < N 0 ∧ N (23 + 13 * i + 11) < 20 ∧ 1 ≤ N (23 + 13 * i + 12) ∧ N (23 + 13 * i + 12) ≤ 60) ∧
  (N (23 + 13 * i + 9) = 0 → N (23 + 13 * i + 10) = 0 ∧ N (23 + 13 * i + 11) = 0 ∧ N (23 + 13 * i + 12) = 0)
def nOk (N : Nat → Nat) : Prop :=
  (2 ≤ N 0 ∧ N 0 ≤ 20 ∧ 1 ≤ N 1 ∧ N 1 ≤ 5 ∧ N 2 ≤ 999) ∧ (∀ k, k < N 0 → 1 ≤ N (3 + k) ∧ N (3 + k) ≤ 20) ∧ ∀ i, i < N 1 → nSh N i
/-- where the class keeps a ship's number f: cell lk f + 3 i, place lj f -/
def lk (f : Nat) : Nat := if f < 3 then 16 else if f < 10 then 15 else 17
def lj (f : Nat) : Nat := if f < 3 then f else if f < 7 then f + 2 else if f < 9 then f - 4 else if f = 9 then 2 else f - 10
def rS (σ : Nat → Nat → Int32) (N : Nat → Nat) (i : Nat) : Prop :=
  (∀ f, f < 10 → σ (lk f + 3 * i) (lj f) = nI (N (23 + 13 * i + f))) ∧ (N (23 + 13 * i + 9) = 1 → ∀ f, f < 3 → σ (17 + 3 * i) f = nI (N (23 + 13 * i + (10 + f))))
def rBay (σ : Nat → Nat → Int32) (N : Nat → Nat) : Prop :=
  (σ 11 3 = nI (N 0) ∧ σ 11 4 = nI (N 1) ∧ σ 11 5 = nI (N 2)) ∧ (∀ k, k < N 0 → σ 12 k = nI (N (3 + k))) ∧ ∀ i, i < N 1 → rS σ N i
theorem rB_f {σ : Nat → Nat → Int32} {N : Nat → Nat} (h : rBay σ N) {i : Nat} (hi : i < N 1) (f : Nat) (hf : f < 10) : σ (lk f + 3 * i) (lj f) = nI (N (23 + 13 * i + f)) := (h.2.2 i hi).1 f hf
theorem rB_g {σ : Nat → Nat → Int32} {N : Nat → Nat} (h : rBay σ N) {i : Nat} (hi : i < N 1) (hm : N (23 + 13 * i + 9) = 1) (f : Nat) (hf : f < 3) : σ (17 + 3 * i) f = nI (N (23 + 13 * i + (10 + f))) := (h.2.2 i hi).2 hm f hf
/-- only the chain has changed -/
def q14 (σ τ : Nat → Nat → Int32) : Prop := ∃ R : Nat → Int32, τ = va_up σ 14 R
theorem q14_rf (σ : Nat → Nat → Int32) : q14 σ σ := ⟨σ 14, (kup_id σ 14).symm⟩
theorem q14_tr {σ τ υ : Nat → Nat → Int32} (h1 : q14 σ τ) (h2 : q14 τ υ) : q14 σ υ := by
  obtain ⟨R, rfl⟩ := h1
  obtain ⟨R2, rfl⟩ := h2
  exact ⟨R2, bx_uu _ _ _ _⟩
theorem q14_at {σ τ : Nat → Nat → Int32} (h : q14 σ τ) {k : Nat} (hk : k ≠ 14) (j : Nat) : τ k j = σ k j := by
  obtain ⟨R, rfl⟩ := h
  simp [va_up, hk]
/-- only the chain and the ships' measured swings have changed -/
def qc (σ τ : Nat → Nat → Int32) : Prop := ∀ k j, k ≠ 14 → ¬ (15 ≤ k ∧ k < 30 ∧ k % 3 = 0 ∧ j = 9) → τ k j = σ k j
theorem qc_rf (σ : Nat → Nat → Int32) : qc σ σ := fun _ _ _ _ => rfl
theorem qc_tr {σ τ υ : Nat → Nat → Int32} (h1 : qc σ τ) (h2 : qc τ υ) : qc σ υ := fun k j a b => (h2 k j a b).trans (h1 k j a b)
theorem q14_qc {σ τ : Nat → Nat → Int32} (h : q14 σ τ) : qc σ τ := fun _ j a _ => q14_at h a j
theorem rS_same {σ τ : Nat → Nat → Int32} {N : Nat → Nat} {i : Nat} (h : rS σ N i) (h1 : ∀ j, 2 ≤ j → j < 9 → τ (15 + 3 * i) j = σ (15 + 3 * i) j) (h2 : ∀ j, τ (16 + 3 * i) j = σ (16 + 3 * i) j) (h3 : ∀ j, τ (17 + 3 * i) j = σ (17 + 3 * i) j) : rS τ N i := by
  refine ⟨fun f hf => ?_, fun hm f hf => ?_⟩
  · rw [← h.1 f hf]
    match f, hf with
    | 0, _ => exact h2 0
    | 1, _ => exact h2 1
    | 2, _ => exact h2 2
    | 3, _ => exact h1 5 (by decide) (by decide)
    | 4, _ => exact h1 6 (by decide) (by decide)
    | 5, _ => exact h1 7 (by decide) (by decide)
    | 6, _ => exact h1 8 (by decide) (by decide)
    | 7, _ => exact h1 3 (by decide) (by decide)
    | 8, _ => exact h1 4 (by decide) (by decide)
    | 9, _ => exact h1 2 (by decide) (by decide)
  · rw [h3]
    exact h.2 hm f hf
theorem rBay_qc {σ τ : Nat → Nat → Int32} {N : Nat → Nat} (hN : N 1 ≤ 5) (h : rBay σ N) (q : qc σ τ) : rBay τ N := by
  have a : ∀ k j, k ≠ 14 → k < 15 → τ k j = σ k j := fun k j h1 h2 => q k j h1 (by omega)
  refine ⟨⟨(a 11 3 (by decide) (by decide)).trans h.1.1, (a 11 4 (by decide) (by decide)).trans h.1.2.1, (a 11 5 (by decide) (by decide)).trans h.1.2.2⟩, fun k hk => (a 12 k (by decide) (by decide)).trans (h.2.1 k hk), fun i hi => ?_⟩
  exact rS_same (h.2.2 i hi) (fun j h1 h2 => q _ j (by omega) (by omega)) (fun j => q _ j (by omega) (by omega)) (fun j => q _ j (by omega) (by omega))
/-- PULL, HOLDS by n LINKS of the first ANCHOR, SWING, APART -/
def pP (N : Nat → Nat) (i b : Nat) : Nat := b * b * N (23 + 13 * i + 5) / 4
def pD (N : Nat → Nat) (x : Nat) : Nat := 10 * N (3 + x)
def pH1 (N : Nat → Nat) (i n h : Nat) : Bool := zHolds h (N (23 + 13 * i + 3)) (pD N (N (23 + 13 * i))) n (N (23 + 13 * i + 6))
def pH2 (N : Nat → Nat) (i h : Nat) : Bool := zHolds h (N (23 + 13 * i + 3)) (pD N (N (23 + 13 * i + 10))) (N (23 + 13 * i + 12)) (N (23 + 13 * i + 6))
def pHo (N : Nat → Nat) (i n b : Nat) : Bool :=
  if N (23 + 13 * i + 9) = 0 then pH1 N i n (pP N i b)
  else (pH1 N i n ((pP N i b + 1) / 2) && pH2 N i ((pP N i b + 1) / 2)) || (pH1 N i n (pP N i b) || pH2 N i (pP N i b))
def pSw (N : Nat → Nat) (i n b : Nat) : Nat := zReach (pP N i b) (N (23 + 13 * i + 3)) (pD N (N (23 + 13 * i))) n + 10 * N (23 + 13 * i + 4)
theorem pP_le {N : Nat → Nat} {i b : Nat} (ha : N (23 + 13 * i + 5) ≤ 9) (hb : b ≤ 20) : b * b ≤ 400 ∧ b * b * N (23 + 13 * i + 5) ≤ 3600 ∧ pP N i b ≤ 900 := by
  have h1 : b * b ≤ 20 * 20 := sq_mono hb
  have h2 : b * b * N (23 + 13 * i + 5) ≤ 400 * 9 := Nat.mul_le_mul h1 ha
  refine ⟨h1, h2, ?_⟩
  unfold pP
  omega
theorem pSw_le {N : Nat → Nat} {i n b : Nat} (hl : N (23 + 13 * i + 4) ≤ 9) (hn : n ≤ 60) : pSw N i n b ≤ 1290 := by
  unfold pSw
  have := zReach_le (pP N i b) (N (23 + 13 * i + 3)) (pD N (N (23 + 13 * i))) n
  omega
theorem pD_le {N : Nat → Nat} (h : nOk N) {x : Nat} (hx : x < N 0) : 10 ≤ pD N x ∧ pD N x ≤ 200 := by
  have := h.2.1 x hx
  unfold pD
  omega

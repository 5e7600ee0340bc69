/-! WHAT IS KEPT FOR UNDONE -/
def svS (r : Nat → Int32) (N : Nat → Nat) (i : Nat) : Prop :=
  (r (1 + 9 * i) = nI (N (23 + 13 * i)) ∧ r (1 + 9 * i + 1) = nI (N (23 + 13 * i + 1)) ∧ r (1 + 9 * i + 2) = nI (N (23 + 13 * i + 2))) ∧
  (N (23 + 13 * i + 9) = 1 → r (1 + 9 * i + 3) = nI (N (23 + 13 * i + 10)) ∧ r (1 + 9 * i + 4) = nI (N (23 + 13 * i + 11)) ∧ r (1 + 9 * i + 5) = nI (N (23 + 13 * i + 12))) ∧
  (r (1 + 9 * i + 6) = nI (N (23 + 13 * i + 9)) ∧ r (1 + 9 * i + 7) = nI (N (23 + 13 * i + 7)) ∧ r (1 + 9 * i + 8) = nI (N (23 + 13 * i + 8)))
def svR (r : Nat → Int32) (N : Nat → Nat) : Prop := r 0 = nI (N 2) ∧ ∀ i, i < N 1 → svS r N i
/-- what no change changes -/
def cst (M N : Nat → Nat) : Prop := M 0 = N 0 ∧ M 1 = N 1 ∧ (∀ k, k < N 0 → M (3 + k) = N (3 + k)) ∧ ∀ i, i < N 1 → M (23 + 13 * i + 3) = N (23 + 13 * i + 3) ∧ M (23 + 13 * i + 4) = N (23 + 13 * i + 4) ∧ M (23 + 13 * i + 5) = N (23 + 13 * i + 5) ∧ M (23 + 13 * i + 6) = N (23 + 13 * i + 6)
theorem cst_rf (N : Nat → Nat) : cst N N := ⟨rfl, rfl, fun _ _ => rfl, fun _ _ => ⟨rfl, rfl, rfl, rfl⟩⟩
theorem cst_tr {K M N : Nat → Nat} (h1 : cst K M) (h2 : cst M N) : cst K N := by
  obtain ⟨a, b, c, d⟩ := h1
  obtain ⟨a2, b2, c2, d2⟩ := h2
  refine ⟨a.trans a2, b.trans b2, fun k hk => (c k (by rw [a2]; exact hk)).trans (c2 k hk), fun i hi => ?_⟩
  obtain ⟨x1, x2, x3, x4⟩ := d i (by rw [b2]; exact hi)
  obtain ⟨y1, y2, y3, y4⟩ := d2 i hi
  exact ⟨x1.trans y1, x2.trans y2, x3.trans y3, x4.trans y4⟩
theorem cst_sy {M N : Nat → Nat} (h : cst M N) : cst N M := by
  obtain ⟨a, b, c, d⟩ := h
  refine ⟨a.symm, b.symm, fun k hk => (c k (by rw [← a]; exact hk)).symm, fun i hi => ?_⟩
  obtain ⟨x1, x2, x3, x4⟩ := d i (by rw [← b]; exact hi)
  exact ⟨x1.symm, x2.symm, x3.symm, x4.symm⟩
theorem cst_of {M N : Nat → Nat} {i : Nat} (hN : nOk N) (hk : ∀ k, k < 23 + 13 * i ∨ 23 + 13 * i + 12 < k → M k = N k) (hi : ∀ f, 3 ≤ f → f ≤ 6 → M (23 + 13 * i + f) = N (23 + 13 * i + f)) : cst M N := by
  have h5 := hN.1
  refine ⟨hk 0 (by omega), hk 1 (by omega), fun k q => hk _ (by omega), fun t ht => ?_⟩
  by_cases e : t = i
  · subst e
    exact ⟨hi 3 (by decide) (by decide), hi 4 (by decide) (by decide), hi 5 (by decide) (by decide), hi 6 (by decide) (by decide)⟩
  · exact ⟨hk _ (by omega), hk _ (by omega), hk _ (by omega), hk _ (by omega)⟩
/-- the ring of six rows -/
def rPast (σ : Nat → Nat → Int32) (N : Nat → Nat) (P : Nat → Nat → Nat) (np : Nat) : Prop :=
  ∃ nx, nx < 6 ∧ np ≤ 6 ∧ σ 30 1 = nI nx ∧ σ 30 2 = nI np ∧ ∀ t, t < np → svR (σ (32 + (nx + 6 - np + t) % 6)) (P t) ∧ cst (P t) N ∧ nOk (P t)
def pushP (P : Nat → Nat → Nat) (np : Nat) (N : Nat → Nat) : Nat → Nat → Nat := if np < 6 then va_up P np N else fun t => if t = 5 then N else P (t + 1)
theorem rPast_push {σ τ : Nat → Nat → Int32} {N : Nat → Nat} {P : Nat → Nat → Nat} {np nx : Nat} {R : Nat → Int32} (hN : nOk N) (hx : nx < 6) (hp : np ≤ 6) (hkeep : ∀ t, t < np → svR (σ (32 + (nx + 6 - np + t) % 6)) (P t) ∧ cst (P t) N ∧ nOk (P t)) (h1 : τ 30 1 = nI ((nx + 1) % 6)) (h2 : τ 30 2 = nI (min (np + 1) 6)) (h3 : τ (32 + nx) = R) (hR : svR R N) (h4 : ∀ t, t < 6 → t ≠ nx → τ (32 + t) = σ (32 + t)) : rPast τ N (pushP P np N) (min (np + 1) 6) := by
  refine ⟨(nx + 1) % 6, by omega, by omega, h1, h2, fun t ht => ?_⟩
  unfold pushP
  by_cases q : np < 6
  · rw [if_pos q]
    have e : min (np + 1) 6 = np + 1 := by omega
    rw [e] at ht ⊢
    have e2 : ((nx + 1) % 6 + 6 - (np + 1) + t) % 6 = (nx + 6 - np + t) % 6 := by omega
    rw [e2]
    by_cases z : t = np
    · subst z
      have e3 : (nx + 6 - t + t) % 6 = nx := by omega
      rw [e3, va_up_self, h3]
      exact ⟨hR, cst_rf N, hN⟩
    · rw [va_up_ne _ _ z, h4 _ (by omega) (by omega)]
      exact hkeep t (by omega)
  · rw [if_neg q]
    have e : np = 6 := by omega
    subst e
    have e1 : min (6 + 1) 6 = 6 := by decide
    rw [e1] at ht ⊢
    by_cases z : t = 5
    · subst z
      have e3 : ((nx + 1) % 6 + 6 - 6 + 5) % 6 = nx := by omega
      rw [e3, h3]
      exact ⟨hR, cst_rf N, hN⟩
    · have e3 : ((nx + 1) % 6 + 6 - 6 + t) % 6 = (nx + 6 - 6 + (t + 1)) % 6 := by omega
      simp only [if_neg z]
      rw [e3, h4 _ (by omega) (by omega)]
      exact hkeep (t + 1) (by omega)
theorem rPast_same {σ τ : Nat → Nat → Int32} {N M : Nat → Nat} {P : Nat → Nat → Nat} {np : Nat} (h : rPast σ N P np) (hc : cst N M) (hs : ∀ k j, 30 ≤ k → τ k j = σ k j) : rPast τ M P np := by
  obtain ⟨nx, a, b, c, d, e⟩ := h
  refine ⟨nx, a, b, (hs 30 1 (by decide)).trans c, (hs 30 2 (by decide)).trans d, fun t ht => ?_⟩
  obtain ⟨x, y, z⟩ := e t ht
  have hr : τ (32 + (nx + 6 - np + t) % 6) = σ (32 + (nx + 6 - np + t) % 6) := funext fun j => hs _ j (by omega)
  exact ⟨by rw [hr]; exact x, cst_tr y hc, z⟩
theorem kud {f : Nat → Int32} {k j : Nat} {x : Int32} (h : j = k) : upd f k x j = x := by rw [h]; exact pk_us
theorem rBay_lo {σ τ : Nat → Nat → Int32} {N : Nat → Nat} (hN : N 1 ≤ 5) (h : rBay σ N) (q : ∀ k j, 11 ≤ k → k < 30 → τ k j = σ k j) : rBay τ N := by
  refine ⟨⟨(q 11 3 (by decide) (by decide)).trans h.1.1, (q 11 4 (by decide) (by decide)).trans h.1.2.1, (q 11 5 (by decide) (by decide)).trans h.1.2.2⟩, fun k hk => (q 12 k (by decide) (by decide)).trans (h.2.1 k hk), fun i hi => ?_⟩
  exact rS_same (h.2.2 i hi) (fun j _ _ => q _ j (by omega) (by omega)) (fun j => q _ j (by omega) (by omega)) (fun j => q _ j (by omega) (by omega))
/-- a ship as it was kept -/
theorem rS_back {σ τ : Nat → Nat → Int32} {r : Nat → Int32} {M N : Nat → Nat} {i : Nat} (hB : rS σ N i) (hc : M (23 + 13 * i + 3) = N (23 + 13 * i + 3) ∧ M (23 + 13 * i + 4) = N (23 + 13 * i + 4) ∧ M (23 + 13 * i + 5) = N (23 + 13 * i + 5) ∧ M (23 + 13 * i + 6) = N (23 + 13 * i + 6)) (hs : svS r M i)
    (f : τ (16 + 3 * i) 0 = r (1 + 9 * i) ∧ τ (16 + 3 * i) 1 = r (1 + 9 * i + 1) ∧ τ (16 + 3 * i) 2 = r (1 + 9 * i + 2)) (g : τ (17 + 3 * i) 0 = r (1 + 9 * i + 3) ∧ τ (17 + 3 * i) 1 = r (1 + 9 * i + 4) ∧ τ (17 + 3 * i) 2 = r (1 + 9 * i + 5)) (s : τ (15 + 3 * i) 2 = nI (M (23 + 13 * i + 9)) ∧ τ (15 + 3 * i) 3 = nI (M (23 + 13 * i + 7)) ∧ τ (15 + 3 * i) 4 = r (1 + 9 * i + 8)) (k : ∀ j, 5 ≤ j → τ (15 + 3 * i) j = σ (15 + 3 * i) j) : rS τ M i := by
  refine ⟨fun a ha => ?_, fun hm a ha => ?_⟩
  · match a, ha with
    | 0, _ => exact f.1.trans hs.1.1
    | 1, _ => exact f.2.1.trans hs.1.2.1
    | 2, _ => exact f.2.2.trans hs.1.2.2
    | 3, _ => exact (k 5 (by decide)).trans ((hB.1 3 (by decide)).trans (congrArg nI hc.1.symm))
    | 4, _ => exact (k 6 (by decide)).trans ((hB.1 4 (by decide)).trans (congrArg nI hc.2.1.symm))
    | 5, _ => exact (k 7 (by decide)).trans ((hB.1 5 (by decide)).trans (congrArg nI hc.2.2.1.symm))
    | 6, _ => exact (k 8 (by decide)).trans ((hB.1 6 (by decide)).trans (congrArg nI hc.2.2.2.symm))
    | 7, _ => exact s.2.1
    | 8, _ => exact s.2.2.trans hs.2.2.2.2
    | 9, _ => exact s.1
  · match a, ha with
    | 0, _ => exact g.1.trans (hs.2.1 hm).1
    | 1, _ => exact g.2.1.trans (hs.2.1 hm).2.1
    | 2, _ => exact g.2.2.trans (hs.2.1 hm).2.2

theorem km1_toInt {x : Nat} (h : x < 2 ^ 31) : (nI x + (-1)).toInt = (x : Int) - 1 := by
  cases x with
  | zero => decide
  | succ x => rw [pk_m1, nI_toInt (by omega)]; omega
theorem kz1 {n : Nat} (h : n ≤ 1) : nI n = nI 0 ∨ nI n = nI 1 := by
  rcases (show n = 0 ∨ n = 1 by omega) with rfl | rfl
  · exact Or.inl rfl
  · exact Or.inr rfl
theorem k_inj {n : Nat} {ad : Nat → Nat} {kc : Nat → (Nat → Int32) → va_E} {D : va_G} {A : Nat → Prop} {H0 H : Heap} {σ : Nat → Nat → Int32} {locs : List Loc} (I : kI n ad kc D A H0 σ H locs) {k j : Nat} (hk : k < n) (hj : j < n) (h : ad k = ad j) : k = j := I.2.1.1 k j _ _ (kW_at hk) (kW_at hj) h
/-- a swing is measured: what else stays -/
theorem sw_set {σ υ τ : Nat → Nat → Int32} {i : Nat} {x : Int32} (hi : i < 5) (hq : q14 σ υ) (hs : τ = va_up υ (15 + 3 * i) (upd (υ (15 + 3 * i)) 9 x)) : qc σ τ ∧ τ (15 + 3 * i) 9 = x ∧ ∀ u, u ≠ i → τ (15 + 3 * u) 9 = σ (15 + 3 * u) 9 := by
  subst hs
  refine ⟨fun k j h1 h2 => ?_, ?_, fun u hu => ?_⟩
  · by_cases e : k = 15 + 3 * i
    · subst e
      rw [va_up_self]
      have : j ≠ 9 := fun z => h2 (by omega)
      simp only [upd, if_neg this]
      exact q14_at hq (by omega) j
    · rw [va_up_ne _ _ e]
      exact q14_at hq h1 j
  · rw [va_up_self]; rfl
  · rw [va_up_ne _ _ (by omega)]
    exact q14_at hq (by omega) 9
/-- one ship's cells become others: by their places -/
theorem rBay_pt {σ τ : Nat → Nat → Int32} {N M : Nat → Nat} {i : Nat} (h : rBay σ N) (hN : nOk N) (hi : i < N 1) (hk : ∀ k, k < 23 + 13 * i ∨ 23 + 13 * i + 12 < k → M k = N k) (hout : ∀ k, k ≠ 15 + 3 * i → k ≠ 16 + 3 * i → k ≠ 17 + 3 * i → τ k = σ k)
    (f0 : τ (16 + 3 * i) 0 = nI (M (23 + 13 * i))) (f1 : τ (16 + 3 * i) 1 = nI (M (23 + 13 * i + 1))) (f2 : τ (16 + 3 * i) 2 = nI (M (23 + 13 * i + 2))) (s5 : τ (15 + 3 * i) 5 = nI (M (23 + 13 * i + 3))) (s6 : τ (15 + 3 * i) 6 = nI (M (23 + 13 * i + 4))) (s7 : τ (15 + 3 * i) 7 = nI (M (23 + 13 * i + 5))) (s8 : τ (15 + 3 * i) 8 = nI (M (23 + 13 * i + 6))) (s3 : τ (15 + 3 * i) 3 = nI (M (23 + 13 * i + 7))) (s4 : τ (15 + 3 * i) 4 = nI (M (23 + 13 * i + 8))) (s2 : τ (15 + 3 * i) 2 = nI (M (23 + 13 * i + 9)))
    (g : M (23 + 13 * i + 9) = 1 → τ (17 + 3 * i) 0 = nI (M (23 + 13 * i + 10)) ∧ τ (17 + 3 * i) 1 = nI (M (23 + 13 * i + 11)) ∧ τ (17 + 3 * i) 2 = nI (M (23 + 13 * i + 12))) : rBay τ M ∧ fB σ τ := by
  have h5 := hN.1
  refine ⟨rBay_ship h h5.2.2.2.1 h5.2.1 hk (fun k j _ a b c _ _ _ => by rw [hout k a b c]) ⟨fun f hf => ?_, fun hm f hf => ?_⟩ hi, fun k j q => by rw [hout k (by omega) (by omega) (by omega)]⟩
  · match f, hf with
    | 0, _ => exact f0
    | 1, _ => exact f1
    | 2, _ => exact f2
    | 3, _ => exact s5
    | 4, _ => exact s6
    | 5, _ => exact s7
    | 6, _ => exact s8
    | 7, _ => exact s3
    | 8, _ => exact s4
    | 9, _ => exact s2
  · match f, hf with
    | 0, _ => exact (g hm).1
    | 1, _ => exact (g hm).2.1
    | 2, _ => exact (g hm).2.2

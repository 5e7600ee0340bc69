/-! THE REFERENCE: what its calls change -/
theorem push_m {σ : Nat → Nat → Int32} {N : Nat → Nat} {P : Nat → Nat → Nat} {np : Nat} {T : Nat → Nat} {nt q : Nat} {R S U : Nat → Int32} (hC : rM σ (N, P, np, T, nt)) (hq : q + 1 = min (np + 1) 6) (hU : ∀ j, j ≠ 3 → U j = σ 0 j) (hS : ∀ t, t < q → (∀ k, k < 88 → S (88 * t + k) = nI (pushP P np N t k)) ∧ nOk (pushP P np N t)) (h1 : ∀ j, j < 88 * q → R j = S j) (h2 : ∀ j, j < 88 → R (88 * q + j) = nI (N j)) : rM (va_up (va_up σ 3 R) 0 (upd U 3 (nI (q + 1)))) (N, pushP P np N, min (np + 1) 6, T, nt) := by
  obtain ⟨hM, hN, ⟨a, b, c⟩, ⟨d, e, f⟩⟩ := hC
  have hlast : pushP P np N q = N := by
    unfold pushP
    by_cases h : np < 6
    · rw [if_pos h, show q = np by omega, va_up_self]
    · rw [if_neg h, show q = 5 by omega, if_pos rfl]
  refine ⟨fun k hk => ?_, hN, ⟨?_, by omega, fun t ht => ?_⟩, ⟨?_, e, fun k hk => ?_⟩⟩
  · rw [va_up_ne _ _ (by decide), va_up_ne _ _ (by decide)]
    exact hM k hk
  · rw [va_up_self, pk_us, hq]
  · by_cases h : t = q
    · rw [h, hlast]
      refine ⟨fun k hk => ?_, hN⟩
      rw [va_up_ne _ _ (by decide), va_up_self]
      exact h2 k hk
    · refine ⟨fun k hk => ?_, (hS t (by omega)).2⟩
      rw [va_up_ne _ _ (by decide), va_up_self, h1 _ (by omega)]
      exact (hS t (by omega)).1 k hk
  · rw [va_up_self, pk_un (by decide), hU 5 (by decide)]
    exact d
  · rw [va_up_ne _ _ (by decide), va_up_ne _ _ (by decide)]
    exact f k hk
theorem push_A {σ : Nat → Nat → Int32} {N : Nat → Nat} {P : Nat → Nat → Nat} {np : Nat} {T : Nat → Nat} {nt : Nat} (hC : rM σ (N, P, np, T, nt)) (h : np < 6) : ∀ t, t < np → (∀ k, k < 88 → σ 3 (88 * t + k) = nI (pushP P np N t k)) ∧ nOk (pushP P np N t) := fun t ht => by
  have e : pushP P np N t = P t := by
    unfold pushP
    rw [if_pos h, va_up_ne _ _ (by omega)]
  rw [e]
  exact hC.2.2.1.2.2 t ht
theorem push_B {σ : Nat → Nat → Int32} {N : Nat → Nat} {P : Nat → Nat → Nat} {np : Nat} {T : Nat → Nat} {nt : Nat} {S : Nat → Int32} (hC : rM σ (N, P, np, T, nt)) (h : np = 6) (hS : ∀ j, j < 440 → S j = σ 3 (j + 88)) : ∀ t, t < 5 → (∀ k, k < 88 → S (88 * t + k) = nI (pushP P np N t k)) ∧ nOk (pushP P np N t) := fun t ht => by
  have e : pushP P np N t = P (t + 1) := by
    unfold pushP
    rw [if_neg (by omega), if_neg (by omega)]
  rw [e]
  have := hC.2.2.1.2.2 (t + 1) (by omega)
  refine ⟨fun k hk => ?_, this.2⟩
  rw [hS _ (by omega), show 88 * t + k + 88 = 88 * (t + 1) + k by omega]
  exact this.1 k hk
theorem undo_m {σ : Nat → Nat → Int32} {N : Nat → Nat} {P : Nat → Nat → Nat} {np : Nat} {T : Nat → Nat} {nt : Nat} {R : Nat → Int32} (hC : rM σ (N, P, np, T, nt)) (h0 : 0 < np) (hR : ∀ j, j < 88 → R j = nI (P (np - 1) j)) : rM (va_up (va_up σ 0 (upd (σ 0) 3 (nI (np - 1)))) 1 R) (P (np - 1), P, np - 1, T, nt) := by
  obtain ⟨hM, hN, ⟨a, b, c⟩, ⟨d, e, f⟩⟩ := hC
  refine ⟨fun k hk => ?_, (c _ (by omega)).2, ⟨?_, by omega, fun t ht => ⟨fun k hk => ?_, (c t (by omega)).2⟩⟩, ⟨?_, e, fun k hk => ?_⟩⟩
  · rw [va_up_self]
    exact hR k hk
  · rw [va_up_ne _ _ (by decide), va_up_self, pk_us]
  · rw [va_up_ne _ _ (by decide), va_up_ne _ _ (by decide)]
    exact (c t (by omega)).1 k hk
  · rw [va_up_ne _ _ (by decide), va_up_self, pk_un (by decide)]
    exact d
  · rw [va_up_ne _ _ (by decide), va_up_ne _ _ (by decide)]
    exact f k hk
theorem write_m {σ : Nat → Nat → Int32} {N : Nat → Nat} {P : Nat → Nat → Nat} {np : Nat} {T : Nat → Nat} {nt k : Nat} (hC : rM σ (N, P, np, T, nt)) (hl : nt < 200) (hk : 32 ≤ k ∧ k ≤ 126) : rM (va_up (va_up σ 4 (upd (σ 4) nt (nI k))) 0 (upd (σ 0) 5 (nI (nt + 1)))) (N, P, np, va_up T nt k, nt + 1) := by
  obtain ⟨hM, hN, ⟨a, b, c⟩, ⟨d, e, f⟩⟩ := hC
  refine ⟨fun j hj => ?_, hN, ⟨?_, b, fun t ht => ⟨fun j hj => ?_, (c t ht).2⟩⟩, ⟨?_, by omega, fun j hj => ?_⟩⟩
  · rw [va_up_ne _ _ (by decide), va_up_ne _ _ (by decide)]
    exact hM j hj
  · rw [va_up_self, pk_un (by decide)]
    exact a
  · rw [va_up_ne _ _ (by decide), va_up_ne _ _ (by decide)]
    exact (c t ht).1 j hj
  · rw [va_up_self, pk_us]
  · rw [va_up_ne _ _ (by decide), va_up_self]
    by_cases q : j = nt
    · rw [q, pk_us, va_up_self]
      exact ⟨rfl, hk⟩
    · rw [pk_un q, va_up_ne _ _ q]
      exact f j (by omega)
theorem wipe_m {σ : Nat → Nat → Int32} {N : Nat → Nat} {P : Nat → Nat → Nat} {np : Nat} {T : Nat → Nat} {nt : Nat} (hC : rM σ (N, P, np, T, nt)) : rM (va_up σ 0 (upd (σ 0) 5 (nI 0))) (N, P, np, T, 0) := by
  obtain ⟨hM, hN, ⟨a, b, c⟩, ⟨d, e, f⟩⟩ := hC
  refine ⟨fun j hj => ?_, hN, ⟨?_, b, fun t ht => ⟨fun j hj => ?_, (c t ht).2⟩⟩, ⟨?_, by omega, fun j hj => absurd hj (Nat.not_lt_zero j)⟩⟩
  · rw [va_up_ne _ _ (by decide)]
    exact hM j hj
  · rw [va_up_self, pk_un (by decide)]
    exact a
  · rw [va_up_ne _ _ (by decide)]
    exact (c t ht).1 j hj
  · rw [va_up_self, pk_us]
theorem kin19 {y : Int32} (h0 : 0 ≤ y.toInt) (h1 : y.toInt < 20) : (nI 0).toInt ≤ y.toInt ∧ y.toInt ≤ (nI 19).toInt := by
  rw [nI_toInt (by decide), nI_toInt (by decide)]
  omega
theorem drag_m1 {N : Nat → Nat} {i side : Nat} (hst : pStay N i side = true) (hm : N (23 + 13 * i + 9) = 0) (k : Nat) : pDrag N i side k = va_up (va_up (va_up N (23 + 13 * i) (mX side (N (23 + 13 * i)))) (23 + 13 * i + 1) (mY side (N (23 + 13 * i + 1)))) (23 + 13 * i + 8) (N (23 + 13 * i + 8) + 1) k := by
  rw [pDrag_yes hst]
  by_cases h0 : k = 23 + 13 * i
  · rw [h0, pMoved_0, va_up_ne _ _ (by omega), va_up_ne _ _ (by omega), va_up_self]
  by_cases h1 : k = 23 + 13 * i + 1
  · rw [h1, pMoved_1, va_up_ne _ _ (by omega), va_up_self]
  by_cases h8 : k = 23 + 13 * i + 8
  · rw [h8, pMoved_8, va_up_self]
  rw [va_up_ne _ _ h8, va_up_ne _ _ h1, va_up_ne _ _ h0]
  by_cases h10 : k = 23 + 13 * i + 10
  · rw [h10, pMoved_10, if_neg (by omega)]
  by_cases h11 : k = 23 + 13 * i + 11
  · rw [h11, pMoved_11, if_neg (by omega)]
  exact pMoved_at N i side h0 h1 h8 h10 h11
theorem drag_m2 {N : Nat → Nat} {i side : Nat} (hst : pStay N i side = true) (hm : N (23 + 13 * i + 9) = 1) (k : Nat) : pDrag N i side k = va_up (va_up (va_up (va_up (va_up N (23 + 13 * i) (mX side (N (23 + 13 * i)))) (23 + 13 * i + 1) (mY side (N (23 + 13 * i + 1)))) (23 + 13 * i + 10) (mX side (N (23 + 13 * i + 10)))) (23 + 13 * i + 11) (mY side (N (23 + 13 * i + 11)))) (23 + 13 * i + 8) (N (23 + 13 * i + 8) + 1) k := by
  rw [pDrag_yes hst]
  by_cases h0 : k = 23 + 13 * i
  · rw [h0, pMoved_0, va_up_ne _ _ (by omega), va_up_ne _ _ (by omega), va_up_ne _ _ (by omega), va_up_ne _ _ (by omega), va_up_self]
  by_cases h1 : k = 23 + 13 * i + 1
  · rw [h1, pMoved_1, va_up_ne _ _ (by omega), va_up_ne _ _ (by omega), va_up_ne _ _ (by omega), va_up_self]
  by_cases h8 : k = 23 + 13 * i + 8
  · rw [h8, pMoved_8, va_up_self]
  by_cases h10 : k = 23 + 13 * i + 10
  · rw [h10, pMoved_10, if_pos hm, va_up_ne _ _ (by omega), va_up_ne _ _ (by omega), va_up_self]
  by_cases h11 : k = 23 + 13 * i + 11
  · rw [h11, pMoved_11, if_pos hm, va_up_ne _ _ (by omega), va_up_self]
  rw [va_up_ne _ _ h8, va_up_ne _ _ h11, va_up_ne _ _ h10, va_up_ne _ _ h1, va_up_ne _ _ h0]
  exact pMoved_at N i side h0 h1 h8 h10 h11

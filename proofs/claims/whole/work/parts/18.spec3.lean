theorem km1_toInt {x : Nat} (h : x < 2 ^ 31) : (nI x + (-1)).toInt = (x : Int) - 1 := by
  cases x with
  | zero => decide
  | succ x => rw [pk_m1, nI_toInt (by omega)]; omega
theorem kz1 {n : Nat} (h : n ≤ 1) : nI n = nI 0 ∨ nI n = nI 1 := by
  rcases (show n = 0 ∨ n = 1 by omega) with rfl | rfl
  · exact Or.inl rfl
  · exact Or.inr rfl
theorem k_inj {n : Nat} {ad : Nat → Nat} {kc : Nat → (Nat → Int32) → va_E} {D : va_G} {A : Nat → Prop} {H0 H : Heap} {σ : Nat → Nat → Int32} {locs : List Loc} (I : kI n ad kc D A H0 σ H locs) {k j : Nat} (hk : k < n) (hj : j < n) (h : ad k = ad j) : k = j := I.2.1.1 k j _ _ (kW_at hk) (kW_at hj) h
/-- a swing is measured: what else stays -/
theorem sw_set {σ υ τ : Nat → Nat → Int32} {i : Nat} {x : Int32} (hi : i < 5) (hq : q14 σ υ) (hs : τ = va_up υ (15 + 3 * i) (upd (υ (15 + 3 * i)) 9 x)) : qc σ τ ∧ τ (15 + 3 * i) 9 = x ∧ ∀ u, u ≠ i → τ (15 + 3 * u) 9 = σ (15 + 3 * u) 9 := by
  subst hs
  refine ⟨fun k j h1 h2 => ?_, ?_, fun u hu => ?_⟩
  · by_cases e : k = 15 + 3 * i
    · subst e
      rw [va_up_self]
      have : j ≠ 9 := fun z => h2 (by omega)
      simp only [upd, if_neg this]
      exact q14_at hq (by omega) j
    · rw [va_up_ne _ _ e]
      exact q14_at hq h1 j
  · rw [va_up_self]; rfl
  · rw [va_up_ne _ _ (by omega)]
    exact q14_at hq (by omega) 9
/-- one ship's cells become others: by their places -/
theorem rBay_pt {σ τ : Nat → Nat → Int32} {N M : Nat → Nat} {i : Nat} (h : rBay σ N) (hN : nOk N) (hi : i < N 1) (hk : ∀ k, k < 23 + 13 * i ∨ 23 + 13 * i + 12 < k → M k = N k) (hout : ∀ k, k ≠ 15 + 3 * i → k ≠ 16 + 3 * i → k ≠ 17 + 3 * i → τ k = σ k)
    (f0 : τ (16 + 3 * i) 0 = nI (M (23 + 13 * i))) (f1 : τ (16 + 3 * i) 1 = nI (M (23 + 13 * i + 1))) (f2 : τ (16 + 3 * i) 2 = nI (M (23 + 13 * i + 2))) (s5 : τ (15 + 3 * i) 5 = nI (M (23 + 13 * i + 3))) (s6 : τ (15 + 3 * i) 6 = nI (M (23 + 13 * i + 4))) (s7 : τ (15 + 3 * i) 7 = nI (M (23 + 13 * i + 5))) (s8 : τ (15 + 3 * i) 8 = nI (M (23 + 13 * i + 6))) (s3 : τ (15 + 3 * i) 3 = nI (M (23 + 13 * i + 7))) (s4 : τ (15 + 3 * i) 4 = nI (M (23 + 13 * i + 8))) (s2 : τ (15 + 3 * i) 2 = nI (M (23 + 13 * i + 9)))
    (g : M (23 + 13 * i + 9) = 1 → τ (17 + 3 * i) 0 = nI (M (23 + 13 * i + 10)) ∧ τ (17 + 3 * i) 1 = nI (M (23 + 13 * i + 11)) ∧ τ (17 + 3 * i) 2 = nI (M (23 + 13 * i + 12))) : rBay τ M ∧ fB σ τ := by
  have h5 := hN.1
  refine ⟨rBay_ship h h5.2.2.2.1 h5.2.1 hk (fun k j _ a b c _ _ _ => by rw [hout k a b c]) ⟨fun f hf => ?_, fun hm f hf => ?_⟩ hi, fun k j q => by rw [hout k (by omega) (by omega) (by omega)]⟩
  · match f, hf with
    | 0, _ => exact f0
    | 1, _ => exact f1
    | 2, _ => exact f2
    | 3, _ => exact s5
    | 4, _ => exact s6
    | 5, _ => exact s7
    | 6, _ => exact s8
    | 7, _ => exact s3
    | 8, _ => exact s4
    | 9, _ => exact s2
  · match f, hf with
    | 0, _ => exact (g hm).1
    | 1, _ => exact (g hm).2.1
    | 2, _ => exact (g hm).2.2
theorem drag_7 {N : Nat → Nat} {i side : Nat} (h : N (23 + 13 * i + 7) = 0) : pDrag N i side (23 + 13 * i + 7) = if pStay N i side = false then 1 else 0 := by
  unfold pDrag
  cases hp : pStay N i side with
  | true => rw [if_pos rfl, pMoved_at N i side (by omega) (by omega) (by omega) (by omega) (by omega), h]; rfl
  | false => rw [if_neg (by decide), va_up_self]; rfl
theorem drag_no {σ τ : Nat → Nat → Int32} {N : Nat → Nat} {i side : Nat} (hB : rBay σ N) (hN : nOk N) (hi : i < N 1) (hst : pStay N i side = false) (hs : τ = va_up σ (15 + 3 * i) (upd (σ (15 + 3 * i)) 3 (nI 1))) : rBay τ (pDrag N i side) ∧ fB σ τ := by
  have e : pDrag N i side = va_up N (23 + 13 * i + 7) 1 := by unfold pDrag; rw [hst]; rfl
  have n : ∀ k, k ≠ 23 + 13 * i + 7 → va_up N (23 + 13 * i + 7) 1 k = N k := fun k hk => va_up_ne _ _ hk
  have r := fun f hf => rB_f hB hi f hf
  subst hs
  rw [e]
  have s : ∀ j, j ≠ 3 → va_up σ (15 + 3 * i) (upd (σ (15 + 3 * i)) 3 (nI 1)) (15 + 3 * i) j = σ (15 + 3 * i) j := fun j hj => by rw [va_up_self]; simp only [upd, if_neg hj]
  have o : ∀ k, k ≠ 15 + 3 * i → va_up σ (15 + 3 * i) (upd (σ (15 + 3 * i)) 3 (nI 1)) k = σ k := fun k hk => va_up_ne _ _ hk
  refine rBay_pt hB hN hi (fun k hk => n k (by omega)) (fun k a _ _ => o k a) ?_ ?_ ?_ ?_ ?_ ?_ ?_ ?_ ?_ ?_ (fun hm => ?_)
  · rw [o _ (by omega), n _ (by omega)]; exact r 0 (by decide)
  · rw [o _ (by omega), n _ (by omega)]; exact r 1 (by decide)
  · rw [o _ (by omega), n _ (by omega)]; exact r 2 (by decide)
  · rw [s 5 (by decide), n _ (by omega)]; exact r 3 (by decide)
  · rw [s 6 (by decide), n _ (by omega)]; exact r 4 (by decide)
  · rw [s 7 (by decide), n _ (by omega)]; exact r 5 (by decide)
  · rw [s 8 (by decide), n _ (by omega)]; exact r 6 (by decide)
  · rw [va_up_self, va_up_self]; rfl
  · rw [s 4 (by decide), n _ (by omega)]; exact r 8 (by decide)
  · rw [s 2 (by decide), n _ (by omega)]; exact r 9 (by decide)
  · rw [n _ (by omega)] at hm
    rw [o _ (by omega), n _ (by omega), n _ (by omega), n _ (by omega)]
    exact ⟨rB_g hB hi hm 0 (by decide), rB_g hB hi hm 1 (by decide), rB_g hB hi hm 2 (by decide)⟩
theorem drag_yes {σ τ υ : Nat → Nat → Int32} {N : Nat → Nat} {i side : Nat} {R : Nat → Int32} {x y : Int32} (hB : rBay σ N) (hN : nOk N) (hi : i < N 1) (hst : pStay N i side = true)
    (h1 : υ = va_up (va_up σ (16 + 3 * i) (upd (upd (upd (σ (16 + 3 * i)) 0 x) 1 y) 2 (nI (N (23 + 13 * i + 2))))) (17 + 3 * i) R) (hs : τ = va_up υ (15 + 3 * i) (upd (υ (15 + 3 * i)) 4 (nI (N (23 + 13 * i + 8) + 1)))) (hx : x = nI (mX side (N (23 + 13 * i)))) (hy : y = nI (mY side (N (23 + 13 * i + 1))))
    (hg : N (23 + 13 * i + 9) = 1 → R 0 = nI (mX side (N (23 + 13 * i + 10))) ∧ R 1 = nI (mY side (N (23 + 13 * i + 11))) ∧ R 2 = nI (N (23 + 13 * i + 12))) : rBay τ (pDrag N i side) ∧ fB σ τ := by
  have e : pDrag N i side = pMoved N i side := by unfold pDrag; rw [hst]; rfl
  have r := fun f hf => rB_f hB hi f hf
  rw [e]
  have u15 : υ (15 + 3 * i) = σ (15 + 3 * i) := by rw [h1, va_up_ne _ _ (by omega), va_up_ne _ _ (by omega)]
  have t15 : ∀ j, j ≠ 4 → τ (15 + 3 * i) j = σ (15 + 3 * i) j := fun j hj => by rw [hs, va_up_self, u15]; simp only [upd, if_neg hj]
  have t16 : τ (16 + 3 * i) = upd (upd (upd (σ (16 + 3 * i)) 0 x) 1 y) 2 (nI (N (23 + 13 * i + 2))) := by rw [hs, va_up_ne _ _ (by omega), h1, va_up_ne _ _ (by omega), va_up_self]
  have t17 : τ (17 + 3 * i) = R := by rw [hs, va_up_ne _ _ (by omega), h1, va_up_self]
  have p : ∀ f, f < 13 → f ≠ 0 → f ≠ 1 → f ≠ 8 → f ≠ 10 → f ≠ 11 → pMoved N i side (23 + 13 * i + f) = N (23 + 13 * i + f) := fun f _ _ _ _ _ _ => pMoved_at N i side (by omega) (by omega) (by omega) (by omega) (by omega)
  refine rBay_pt hB hN hi (fun k hk => pMoved_at N i side (by omega) (by omega) (by omega) (by omega) (by omega)) (fun k a b c => by rw [hs, va_up_ne _ _ a, h1, va_up_ne _ _ c, va_up_ne _ _ b]) ?_ ?_ ?_ ?_ ?_ ?_ ?_ ?_ ?_ ?_ (fun hm => ?_)
  · rw [t16, pMoved_0]; exact hx
  · rw [t16, pMoved_1]; exact hy
  · rw [t16, p 2 (by decide) (by decide) (by decide) (by decide) (by decide) (by decide)]; rfl
  · rw [t15 5 (by decide), p 3 (by decide) (by decide) (by decide) (by decide) (by decide) (by decide)]; exact r 3 (by decide)
  · rw [t15 6 (by decide), p 4 (by decide) (by decide) (by decide) (by decide) (by decide) (by decide)]; exact r 4 (by decide)
  · rw [t15 7 (by decide), p 5 (by decide) (by decide) (by decide) (by decide) (by decide) (by decide)]; exact r 5 (by decide)
  · rw [t15 8 (by decide), p 6 (by decide) (by decide) (by decide) (by decide) (by decide) (by decide)]; exact r 6 (by decide)
  · rw [t15 3 (by decide), p 7 (by decide) (by decide) (by decide) (by decide) (by decide) (by decide)]; exact r 7 (by decide)
  · rw [hs, va_up_self, pMoved_8]; rfl
  · rw [t15 2 (by decide), p 9 (by decide) (by decide) (by decide) (by decide) (by decide) (by decide)]; exact r 9 (by decide)
  · rw [p 9 (by decide) (by decide) (by decide) (by decide) (by decide) (by decide)] at hm
    rw [t17, pMoved_10, pMoved_11, if_pos hm, if_pos hm, p 12 (by decide) (by decide) (by decide) (by decide) (by decide) (by decide)]
    exact hg hm
theorem drag_yes1 {σ τ υ : Nat → Nat → Int32} {N : Nat → Nat} {i side : Nat} {x y : Int32} (hB : rBay σ N) (hN : nOk N) (hi : i < N 1) (hst : pStay N i side = true) (hm : N (23 + 13 * i + 9) = 0)
    (h1 : υ = va_up σ (16 + 3 * i) (upd (upd (upd (σ (16 + 3 * i)) 0 x) 1 y) 2 (nI (N (23 + 13 * i + 2))))) (hs : τ = va_up υ (15 + 3 * i) (upd (υ (15 + 3 * i)) 4 (nI (N (23 + 13 * i + 8) + 1)))) (hx : x = nI (mX side (N (23 + 13 * i)))) (hy : y = nI (mY side (N (23 + 13 * i + 1)))) : rBay τ (pDrag N i side) ∧ fB σ τ := by
  refine drag_yes (R := υ (17 + 3 * i)) (υ := υ) hB hN hi hst ?_ hs hx hy (fun q => absurd q (by omega))
  rw [← h1, kup_id]
theorem drag_yes2 {σ τ υ ρ : Nat → Nat → Int32} {N : Nat → Nat} {i side : Nat} {x y x2 y2 : Int32} (hB : rBay σ N) (hN : nOk N) (hi : i < N 1) (hst : pStay N i side = true) (hm : N (23 + 13 * i + 9) = 1)
    (h1 : ρ = va_up σ (16 + 3 * i) (upd (upd (upd (σ (16 + 3 * i)) 0 x) 1 y) 2 (nI (N (23 + 13 * i + 2))))) (h2 : υ = va_up ρ (17 + 3 * i) (upd (upd (upd (ρ (17 + 3 * i)) 0 x2) 1 y2) 2 (nI (N (23 + 13 * i + 12))))) (hs : τ = va_up υ (15 + 3 * i) (upd (υ (15 + 3 * i)) 4 (nI (N (23 + 13 * i + 8) + 1)))) (hx : x = nI (mX side (N (23 + 13 * i)))) (hy : y = nI (mY side (N (23 + 13 * i + 1)))) (hx2 : x2 = nI (mX side (N (23 + 13 * i + 10)))) (hy2 : y2 = nI (mY side (N (23 + 13 * i + 11)))) : rBay τ (pDrag N i side) ∧ fB σ τ :=
  drag_yes hB hN hi hst (by rw [h2, h1]) hs hx hy (fun _ => ⟨hx2, hy2, rfl⟩)

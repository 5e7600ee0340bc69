/-! THE REFERENCE: what it keeps against Z -/
def rM (σ : Nat → Nat → Int32) : ZS → Prop
  | (N, P, np, T, nt) => mN σ N ∧ nOk N ∧ (σ 0 3 = nI np ∧ np ≤ 6 ∧ ∀ t, t < np → (∀ k, k < 88 → σ 3 (88 * t + k) = nI (P t k)) ∧ nOk (P t)) ∧ (σ 0 5 = nI nt ∧ nt ≤ 200 ∧ ∀ k, k < nt → σ 4 k = nI (T k) ∧ 32 ≤ T k ∧ T k ≤ 126)
/-- nothing but now and a chain's numbers has changed -/
def qn (σ τ : Nat → Nat → Int32) : Prop := (∀ k, k ≠ 0 → k ≠ 1 → τ k = σ k) ∧ ∀ j, j < 8 → τ 0 j = σ 0 j
theorem qn_rf (σ : Nat → Nat → Int32) : qn σ σ := ⟨fun _ _ _ => rfl, fun _ _ => rfl⟩
theorem qn_tr {σ τ υ : Nat → Nat → Int32} (h1 : qn σ τ) (h2 : qn τ υ) : qn σ υ := ⟨fun k a b => (h2.1 k a b).trans (h1.1 k a b), fun j a => (h2.2 j a).trans (h1.2 j a)⟩
theorem qm_qn {σ τ : Nat → Nat → Int32} (h : qm σ τ) : qn σ τ := ⟨fun k a _ => qm_at h a, fun _ hj => qm_0 h hj⟩
theorem qn_put {σ τ : Nat → Nat → Int32} {R : Nat → Int32} (h : τ = va_up σ 1 R) : qn σ τ := by
  subst h
  exact ⟨fun k _ b => va_up_ne _ _ b, fun j _ => by rw [va_up_ne _ _ (by decide)]⟩
theorem mN_put {σ τ : Nat → Nat → Int32} {N : Nat → Nat} {k v : Nat} (h : mN σ N) (hs : τ = va_up σ 1 (upd (σ 1) k (nI v))) : mN τ (va_up N k v) := fun j hj => by
  rw [hs, va_up_self]
  by_cases e : j = k
  · rw [e, pk_us, va_up_self]
  · rw [pk_un e, va_up_ne _ _ e]
    exact h j hj
theorem mN_same {σ : Nat → Nat → Int32} {N M : Nat → Nat} (h : mN σ N) (e : ∀ k, k < 88 → M k = N k) : mN σ M := fun k hk => by rw [e k hk]; exact h k hk
theorem rM_qn {σ τ : Nat → Nat → Int32} {N M : Nat → Nat} {P : Nat → Nat → Nat} {np : Nat} {T : Nat → Nat} {nt : Nat} (h : rM σ (N, P, np, T, nt)) (q : qn σ τ) (hM : mN τ M) (hO : nOk M) : rM τ (M, P, np, T, nt) := by
  obtain ⟨_, _, ⟨a, b, c⟩, ⟨d, e, f⟩⟩ := h
  refine ⟨hM, hO, ⟨(q.2 3 (by decide)).trans a, b, fun t ht => ⟨fun k hk => ?_, (c t ht).2⟩⟩, ⟨(q.2 5 (by decide)).trans d, e, fun k hk => ?_⟩⟩
  · rw [q.1 3 (by decide) (by decide)]
    exact (c t ht).1 k hk
  · rw [q.1 4 (by decide) (by decide)]
    exact f k hk
theorem rM_qm {σ τ : Nat → Nat → Int32} {Z : ZS} (h : rM σ Z) (q : qm σ τ) : rM τ Z := by
  obtain ⟨N, P, np, T, nt⟩ := Z
  exact rM_qn h (qm_qn q) (mN_qm h.1 q) h.2.1
theorem pHo_put {N : Nat → Nat} (hN : nOk N) {i : Nat} (hi : i < N 1) (x n b : Nat) : pHo (va_up N (23 + 13 * i + 2) x) i n b = pHo N i n b := by
  have e : ∀ k, k ≠ 23 + 13 * i + 2 → va_up N (23 + 13 * i + 2) x k = N k := fun k hk => va_up_ne _ _ hk
  have h5 := hN.1
  have hs := hN.2.2 i hi
  unfold nSh at hs
  have h10 : N (23 + 13 * i + 10) < 20 := by
    rcases (show N (23 + 13 * i + 9) = 0 ∨ N (23 + 13 * i + 9) = 1 by omega) with q | q
    · have := hs.2.2.2.2.2 q
      omega
    · have := hs.2.2.2.2.1 q
      omega
  simp only [pHo, pH1, pH2, pP, pD]
  rw [e (23 + 13 * i + 9) (by omega), e (23 + 13 * i + 3) (by omega), e (23 + 13 * i) (by omega), e (3 + N (23 + 13 * i)) (by omega), e (23 + 13 * i + 6) (by omega), e (23 + 13 * i + 5) (by omega), e (23 + 13 * i + 10) (by omega), e (3 + N (23 + 13 * i + 10)) (by omega), e (23 + 13 * i + 12) (by omega)]
theorem pS_put {N : Nat → Nat} (hN : nOk N) {i : Nat} (hi : i < N 1) (n b : Nat) : pS (va_up N (23 + 13 * i + 2) n) b i = pSw N i n b := by
  have e : ∀ k, k ≠ 23 + 13 * i + 2 → va_up N (23 + 13 * i + 2) n k = N k := fun k hk => va_up_ne _ _ hk
  have h5 := hN.1
  have hs := hN.2.2 i hi
  unfold nSh at hs
  simp only [pS, pSw, pP, pD]
  rw [va_up_self, e (23 + 13 * i + 3) (by omega), e (23 + 13 * i) (by omega), e (3 + N (23 + 13 * i)) (by omega), e (23 + 13 * i + 5) (by omega), e (23 + 13 * i + 4) (by omega)]
theorem pS_put_ne {N : Nat → Nat} (hN : nOk N) {i t : Nat} (ht : t < N 1) (hne : t ≠ i) (n b : Nat) : pS (va_up N (23 + 13 * i + 2) n) b t = pS N b t := by
  have e : ∀ k, k ≠ 23 + 13 * i + 2 → va_up N (23 + 13 * i + 2) n k = N k := fun k hk => va_up_ne _ _ hk
  have h5 := hN.1
  have hs := hN.2.2 t ht
  unfold nSh at hs
  simp only [pS, pSw, pP, pD]
  rw [e (23 + 13 * t + 2) (by omega), e (23 + 13 * t + 3) (by omega), e (23 + 13 * t) (by omega), e (3 + N (23 + 13 * t)) (by omega), e (23 + 13 * t + 5) (by omega), e (23 + 13 * t + 4) (by omega)]
theorem pClr_put (N : Nat → Nat) (i t x a b : Nat) : pClr (va_up N (23 + 13 * i + 2) x) i t a b = pClr N i t a b := by
  have e : ∀ k, k ≠ 23 + 13 * i + 2 → va_up N (23 + 13 * i + 2) x k = N k := fun k hk => va_up_ne _ _ hk
  have hf : pFar (va_up N (23 + 13 * i + 2) x) i t = pFar N i t := by
    unfold pFar
    rw [e (23 + 13 * i) (by omega), e (23 + 13 * t) (by omega), e (23 + 13 * i + 1) (by omega), e (23 + 13 * t + 1) (by omega)]
  unfold pClr
  rw [hf, e (23 + 13 * i + 7) (by omega), e (23 + 13 * t + 7) (by omega)]
theorem pAp_put {N : Nat → Nat} (hN : nOk N) {i : Nat} (hi : i < N 1) (n b : Nat) : ∀ k, k ≤ N 1 → pAp (va_up N (23 + 13 * i + 2) n) b i n k = pAp N b i n k
  | 0, _ => rfl
  | k + 1, h => by
    have e : pSw (va_up N (23 + 13 * i + 2) n) i n b = pSw N i n b := by
      have := pS_put hN hi n b
      unfold pS at this
      rw [va_up_self] at this
      exact this
    rw [pAp, pAp, pAp_put hN hi n b k (by omega)]
    by_cases q : k = i
    · simp [q]
    · rw [e, pS_put_ne hN (by omega) q, pClr_put]
theorem pGood_put {N : Nat → Nat} (hN : nOk N) {i : Nat} (hi : i < N 1) (n b : Nat) : pGood (va_up N (23 + 13 * i + 2) n) b i n = pGood N b i n := by
  unfold pGood
  rw [pHo_put hN hi, va_up_ne _ _ (show 1 ≠ 23 + 13 * i + 2 by omega), pAp_put hN hi n b _ (Nat.le_refl _)]
theorem nOk_out {N : Nat → Nat} (hN : nOk N) {i n : Nat} (hi : i < N 1) (h1 : 1 ≤ n) (h60 : n ≤ 60) : nOk (va_up N (23 + 13 * i + 2) n) := (nOk_links (w := 0) hN hi (Or.inl rfl) h1 h60).1
/-- put back -/
theorem va_back {N : Nat → Nat} {k x : Nat} : va_up (va_up N k x) k (N k) = N := by
  funext j
  by_cases e : j = k
  · rw [e, va_up_self]
  · rw [va_up_ne _ _ e, va_up_ne _ _ e]
theorem pDrag_yes {N : Nat → Nat} {i side : Nat} (h : pStay N i side = true) (k : Nat) : pDrag N i side k = pMoved N i side k := by unfold pDrag; rw [h]; rfl

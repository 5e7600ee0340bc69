/-! DISTANCES, DRAGGING, HOURS, COUNTS -/
def dd (a b : Nat) : Nat := (a - b) + (b - a)
theorem ksq_dd (a b : Nat) : (nI 10 * (nI a - nI b)) * (nI 10 * (nI a - nI b)) = nI (100 * (dd a b * dd a b)) := by
  rcases Nat.le_total b a with q | q
  · have e : dd a b = a - b := by unfold dd; omega
    rw [pk_sub q, pk_mul, pk_mul, e, Nat.mul_mul_mul_comm]
  · have e : dd a b = b - a := by unfold dd; omega
    have e2 : nI a - nI b = -nI (b - a) := by rw [← pk_sub q, Int32.neg_sub]
    rw [e2, Int32.mul_neg, Int32.neg_mul, Int32.mul_neg, Int32.neg_neg, pk_mul, pk_mul, e, Nat.mul_mul_mul_comm]
theorem dd_le {a b n : Nat} (ha : a ≤ n) (hb : b ≤ n) : dd a b * dd a b ≤ n * n := sq_mono (by unfold dd; omega)
def pFar (N : Nat → Nat) (i t : Nat) : Nat := 100 * (dd (N (23 + 13 * i)) (N (23 + 13 * t)) * dd (N (23 + 13 * i)) (N (23 + 13 * t))) + 100 * (dd (N (23 + 13 * i + 1)) (N (23 + 13 * t + 1)) * dd (N (23 + 13 * i + 1)) (N (23 + 13 * t + 1)))
def pClr (N : Nat → Nat) (i t a c : Nat) : Bool := decide (N (23 + 13 * i + 7) = 1) || (decide (N (23 + 13 * t + 7) = 1) || decide ((a + c) * (a + c) ≤ pFar N i t))
/-- what lies outside the bay stays -/
def fB (σ τ : Nat → Nat → Int32) : Prop := ∀ k j, (k < 11 ∨ 30 ≤ k) → τ k j = σ k j
theorem fB_rf (σ : Nat → Nat → Int32) : fB σ σ := fun _ _ _ => rfl
theorem fB_tr {σ τ υ : Nat → Nat → Int32} (h1 : fB σ τ) (h2 : fB τ υ) : fB σ υ := fun k j a => (h2 k j a).trans (h1 k j a)
theorem qc_fB {σ τ : Nat → Nat → Int32} (h : qc σ τ) : fB σ τ := fun k j a => h k j (by omega) (by omega)
theorem fB_up {σ τ : Nat → Nat → Int32} (h : fB σ τ) {k : Nat} (r : Nat → Int32) (hk : 11 ≤ k ∧ k < 30) : fB σ (va_up τ k r) := fun a j q => by
  have : a ≠ k := by omega
  simp only [va_up, if_neg this]
  exact h a j q
/-- one ship's numbers become others -/
theorem rBay_ship {σ τ : Nat → Nat → Int32} {N M : Nat → Nat} {i : Nat} (h : rBay σ N) (hN : N 1 ≤ 5) (hN0 : N 0 ≤ 20) (hk : ∀ k, k < 23 + 13 * i ∨ 23 + 13 * i + 12 < k → M k = N k) (hs : ∀ k j, k ≠ 14 → k ≠ 15 + 3 * i → k ≠ 16 + 3 * i → k ≠ 17 + 3 * i → 11 ≤ k → k < 30 → ¬ (k % 3 = 0 ∧ 15 ≤ k ∧ j = 9) → τ k j = σ k j) (hi : rS τ M i) (hM : i < N 1) : rBay τ M := by
  have a0 : M 0 = N 0 := hk 0 (by omega)
  have a1 : M 1 = N 1 := hk 1 (by omega)
  have a2 : M 2 = N 2 := hk 2 (by omega)
  refine ⟨⟨?_, ?_, ?_⟩, fun k hk0 => ?_, fun t ht => ?_⟩
  · rw [hs 11 3 (by decide) (by omega) (by omega) (by omega) (by decide) (by decide) (by omega), a0]; exact h.1.1
  · rw [hs 11 4 (by decide) (by omega) (by omega) (by omega) (by decide) (by decide) (by omega), a1]; exact h.1.2.1
  · rw [hs 11 5 (by decide) (by omega) (by omega) (by omega) (by decide) (by decide) (by omega), a2]; exact h.1.2.2
  · rw [a0] at hk0
    rw [hs 12 k (by decide) (by omega) (by omega) (by omega) (by decide) (by decide) (by omega), hk (3 + k) (by omega)]
    exact h.2.1 k hk0
  · by_cases e : t = i
    · rw [e]; exact hi
    · rw [a1] at ht
      have hb : ∀ f, f < 13 → M (23 + 13 * t + f) = N (23 + 13 * t + f) := fun f hf => hk _ (by omega)
      have hr := rS_same (τ := τ) (h.2.2 t ht) (fun j h1 h2 => hs _ j (by omega) (by omega) (by omega) (by omega) (by omega) (by omega) (by omega)) (fun j => hs _ j (by omega) (by omega) (by omega) (by omega) (by omega) (by omega) (by omega)) (fun j => hs _ j (by omega) (by omega) (by omega) (by omega) (by omega) (by omega) (by omega))
      refine ⟨fun f hf => ?_, fun hm f hf => ?_⟩
      · rw [hb f (by omega)]; exact hr.1 f hf
      · rw [hb 9 (by omega)] at hm
        rw [hb (10 + f) (by omega)]; exact hr.2 hm f hf
/-- one CELL to a SIDE -/
def mIn (C side x y : Nat) : Bool := if side = 0 then decide (1 ≤ y) else if side = 1 then decide (x + 1 < C) else if side = 2 then decide (y + 1 < 20) else decide (1 ≤ x)
def mX (side x : Nat) : Nat := if side = 1 then x + 1 else if side = 3 then x - 1 else x
def mY (side y : Nat) : Nat := if side = 0 then y - 1 else if side = 2 then y + 1 else y
theorem mIn_to {C side x y : Nat} (hs : side ≤ 3) (hx : x < C) (hy : y < 20) (h : mIn C side x y = true) : mX side x < C ∧ mY side y < 20 := by
  unfold mIn at h
  unfold mX mY
  rcases (show side = 0 ∨ side = 1 ∨ side = 2 ∨ side = 3 by omega) with rfl | rfl | rfl | rfl <;> simp at h ⊢ <;> omega
def pStay (N : Nat → Nat) (i side : Nat) : Bool := mIn (N 0) side (N (23 + 13 * i)) (N (23 + 13 * i + 1)) && (decide (N (23 + 13 * i + 9) = 0) || mIn (N 0) side (N (23 + 13 * i + 10)) (N (23 + 13 * i + 11)))
def pMoved (N : Nat → Nat) (i side : Nat) : Nat → Nat := fun k =>
  if k = 23 + 13 * i then mX side (N k) else if k = 23 + 13 * i + 1 then mY side (N k) else if k = 23 + 13 * i + 8 then N k + 1
  else if k = 23 + 13 * i + 10 ∧ N (23 + 13 * i + 9) = 1 then mX side (N k) else if k = 23 + 13 * i + 11 ∧ N (23 + 13 * i + 9) = 1 then mY side (N k) else N k
def pDrag (N : Nat → Nat) (i side : Nat) : Nat → Nat := if pStay N i side then pMoved N i side else va_up N (23 + 13 * i + 7) 1
theorem pMoved_at (N : Nat → Nat) (i side : Nat) {k : Nat} (h0 : k ≠ 23 + 13 * i) (h1 : k ≠ 23 + 13 * i + 1) (h8 : k ≠ 23 + 13 * i + 8) (h10 : k ≠ 23 + 13 * i + 10) (h11 : k ≠ 23 + 13 * i + 11) : pMoved N i side k = N k := by
  simp only [pMoved, if_neg h0, if_neg h1, if_neg h8]
  rw [if_neg (fun q => h10 q.1), if_neg (fun q => h11 q.1)]
theorem pMoved_0 (N : Nat → Nat) (i side : Nat) : pMoved N i side (23 + 13 * i) = mX side (N (23 + 13 * i)) := by simp only [pMoved, if_pos]
theorem pMoved_1 (N : Nat → Nat) (i side : Nat) : pMoved N i side (23 + 13 * i + 1) = mY side (N (23 + 13 * i + 1)) := by
  unfold pMoved
  rw [if_neg (by omega), if_pos rfl]
theorem pMoved_8 (N : Nat → Nat) (i side : Nat) : pMoved N i side (23 + 13 * i + 8) = N (23 + 13 * i + 8) + 1 := by
  unfold pMoved
  rw [if_neg (by omega), if_neg (by omega), if_pos rfl]
theorem pMoved_10 (N : Nat → Nat) (i side : Nat) : pMoved N i side (23 + 13 * i + 10) = if N (23 + 13 * i + 9) = 1 then mX side (N (23 + 13 * i + 10)) else N (23 + 13 * i + 10) := by
  unfold pMoved
  rw [if_neg (by omega), if_neg (by omega), if_neg (by omega)]
  by_cases h : N (23 + 13 * i + 9) = 1
  · rw [if_pos ⟨rfl, h⟩, if_pos h]
  · rw [if_neg (fun q => h q.2), if_neg (fun q => h q.2), if_neg h]
theorem pMoved_11 (N : Nat → Nat) (i side : Nat) : pMoved N i side (23 + 13 * i + 11) = if N (23 + 13 * i + 9) = 1 then mY side (N (23 + 13 * i + 11)) else N (23 + 13 * i + 11) := by
  unfold pMoved
  rw [if_neg (by omega), if_neg (by omega), if_neg (by omega), if_neg (fun q => absurd q.1 (by omega))]
  by_cases h : N (23 + 13 * i + 9) = 1
  · rw [if_pos ⟨rfl, h⟩, if_pos h]
  · rw [if_neg (fun q => h q.2), if_neg h]
theorem pDrag_off (N : Nat → Nat) (i side : Nat) {k : Nat} (h : k < 23 + 13 * i ∨ 23 + 13 * i + 12 < k) : pDrag N i side k = N k := by
  unfold pDrag
  split
  · exact pMoved_at N i side (by omega) (by omega) (by omega) (by omega) (by omega)
  · rw [va_up_ne _ _ (show k ≠ 23 + 13 * i + 7 by omega)]
theorem nSh_same {N M : Nat → Nat} {t : Nat} (h0 : M 0 = N 0) (h : ∀ f, f < 13 → M (23 + 13 * t + f) = N (23 + 13 * t + f)) (hs : nSh N t) : nSh M t := by
  unfold nSh at hs ⊢
  have a0 := h 0 (by omega)
  rw [Nat.add_zero] at a0
  rw [h0, a0, h 1 (by omega), h 2 (by omega), h 3 (by omega), h 4 (by omega), h 5 (by omega), h 6 (by omega), h 7 (by omega), h 9 (by omega), h 10 (by omega), h 11 (by omega), h 12 (by omega)]
  exact hs
theorem nOk_ship {N M : Nat → Nat} {i : Nat} (hN : nOk N) (hk : ∀ k, k < 23 + 13 * i ∨ 23 + 13 * i + 12 < k → M k = N k) (hi : nSh M i) : nOk M := by
  have a0 : M 0 = N 0 := hk 0 (by omega)
  have a1 : M 1 = N 1 := hk 1 (by omega)
  have a2 : M 2 = N 2 := hk 2 (by omega)
  have h := hN.1
  refine ⟨by rw [a0, a1, a2]; exact hN.1, fun k q => ?_, fun t ht => ?_⟩
  · rw [a0] at q
    rw [hk (3 + k) (by omega)]
    exact hN.2.1 k q
  · by_cases e : t = i
    · rw [e]; exact hi
    · rw [a1] at ht
      exact nSh_same a0 (fun f hf => hk _ (by omega)) (hN.2.2 t ht)
theorem nOk_drag {N : Nat → Nat} (hN : nOk N) {i side : Nat} (hi : i < N 1) (hs : side ≤ 3) : nOk (pDrag N i side) := by
  refine nOk_ship hN (fun k hk => pDrag_off N i side hk) ?_
  have h := hN.2.2 i hi
  unfold pDrag
  split
  · rename_i q
    unfold pStay at q
    rw [Bool.and_eq_true] at q
    unfold nSh at h ⊢
    have m1 := mIn_to hs h.1.1 h.1.2.1 q.1
    rw [pMoved_0, pMoved_1, pMoved_10, pMoved_11, pMoved_at N i side (k := 0) (by omega) (by omega) (by omega) (by omega) (by omega), pMoved_at N i side (k := 23 + 13 * i + 2) (by omega) (by omega) (by omega) (by omega) (by omega), pMoved_at N i side (k := 23 + 13 * i + 3) (by omega) (by omega) (by omega) (by omega) (by omega), pMoved_at N i side (k := 23 + 13 * i + 4) (by omega) (by omega) (by omega) (by omega) (by omega), pMoved_at N i side (k := 23 + 13 * i + 5) (by omega) (by omega) (by omega) (by omega) (by omega), pMoved_at N i side (k := 23 + 13 * i + 6) (by omega) (by omega) (by omega) (by omega) (by omega), pMoved_at N i side (k := 23 + 13 * i + 7) (by omega) (by omega) (by omega) (by omega) (by omega), pMoved_at N i side (k := 23 + 13 * i + 9) (by omega) (by omega) (by omega) (by omega) (by omega), pMoved_at N i side (k := 23 + 13 * i + 12) (by omega) (by omega) (by omega) (by omega) (by omega)]
    refine ⟨⟨m1.1, m1.2, h.1.2.2⟩, h.2.1, h.2.2.1, h.2.2.2.1, fun z => ?_, fun z => ?_⟩
    · rw [if_pos z, if_pos z]
      have h2 := h.2.2.2.2.1 z
      have q2 : mIn (N 0) side (N (23 + 13 * i + 10)) (N (23 + 13 * i + 11)) = true := by
        have := q.2
        rw [Bool.or_eq_true] at this
        rcases this with w | w
        · exact absurd (of_decide_eq_true w) (by omega)
        · exact w
      have m2 := mIn_to hs h2.1 h2.2.1 q2
      exact ⟨m2.1, m2.2, h2.2.2⟩
    · rw [if_neg (by omega), if_neg (by omega)]
      exact h.2.2.2.2.2 z
  · unfold nSh at h ⊢
    have n : ∀ k, k ≠ 23 + 13 * i + 7 → va_up N (23 + 13 * i + 7) 1 k = N k := fun k hk => va_up_ne _ _ hk
    rw [n 0 (by omega), n (23 + 13 * i) (by omega), n (23 + 13 * i + 1) (by omega), n (23 + 13 * i + 2) (by omega), n (23 + 13 * i + 3) (by omega), n (23 + 13 * i + 4) (by omega), n (23 + 13 * i + 5) (by omega), n (23 + 13 * i + 6) (by omega), n (23 + 13 * i + 9) (by omega), n (23 + 13 * i + 10) (by omega), n (23 + 13 * i + 11) (by omega), n (23 + 13 * i + 12) (by omega), va_up_self]
    exact ⟨h.1, h.2.1, h.2.2.1, ⟨by omega, h.2.2.2.1.2⟩, h.2.2.2.2.1, h.2.2.2.2.2⟩
/-- an HOUR, ship by ship -/
def pPass (N : Nat → Nat) (b side : Nat) : Nat → Nat → Nat
  | 0 => N
  | k + 1 => if pPass N b side k (23 + 13 * k + 7) = 0 ∧ pHo (pPass N b side k) k (pPass N b side k (23 + 13 * k + 2)) b = false then pDrag (pPass N b side k) k side else pPass N b side k
def pStr (N : Nat → Nat) (b side : Nat) : Nat → Nat
  | 0 => 0
  | k + 1 => pStr N b side k + (if (pPass N b side k (23 + 13 * k + 7) = 0 ∧ pHo (pPass N b side k) k (pPass N b side k (23 + 13 * k + 2)) b = false) ∧ pStay (pPass N b side k) k side = false then 1 else 0)
theorem pPass_hd (N : Nat → Nat) (b side : Nat) : ∀ k j, j < 23 → pPass N b side k j = N j
  | 0, _, _ => rfl
  | k + 1, j, hj => by
    rw [pPass]
    split
    · rw [pDrag_off _ _ _ (by omega)]; exact pPass_hd N b side k j hj
    · exact pPass_hd N b side k j hj
theorem nOk_pass {N : Nat → Nat} (hN : nOk N) (b : Nat) {side : Nat} (hs : side ≤ 3) : ∀ k, k ≤ N 1 → nOk (pPass N b side k)
  | 0, _ => hN
  | k + 1, hk => by
    have h := nOk_pass hN b hs k (by omega)
    rw [pPass]
    split
    · exact nOk_drag h (by rw [pPass_hd N b side k 1 (by omega)]; omega) hs
    · exact h
theorem pStr_le (N : Nat → Nat) (b side : Nat) : ∀ k, pStr N b side k ≤ k
  | 0 => Nat.le_refl _
  | k + 1 => by
    have := pStr_le N b side k
    rw [pStr]
    split <;> omega
def pHour (N : Nat → Nat) (b side : Nat) : Nat → Nat := va_up (pPass N b side (N 1)) 2 (N 2 + 1)
theorem pHour_hd (N : Nat → Nat) (b side : Nat) {j : Nat} (hj : j < 23) (h2 : j ≠ 2) : pHour N b side j = N j := by
  unfold pHour
  rw [va_up_ne _ _ h2, pPass_hd N b side _ j hj]
theorem nOk_2 {N : Nat → Nat} (hN : nOk N) {x : Nat} (hx : x ≤ 999) : nOk (va_up N 2 x) := by
  have n : ∀ k, k ≠ 2 → va_up N 2 x k = N k := fun k hk => va_up_ne _ _ hk
  have h := hN.1
  refine ⟨by rw [n 0 (by omega), n 1 (by omega), va_up_self]; omega, fun k q => ?_, fun t ht => ?_⟩
  · rw [n 0 (by omega)] at q
    rw [n (3 + k) (by omega)]
    exact hN.2.1 k q
  · rw [n 1 (by omega)] at ht
    exact nSh_same (n 0 (by omega)) (fun f hf => n _ (by omega)) (hN.2.2 t ht)
theorem nOk_hour {N : Nat → Nat} (hN : nOk N) (b : Nat) {side : Nat} (hs : side ≤ 3) (h : N 2 + 1 ≤ 999) : nOk (pHour N b side) := nOk_2 (nOk_pass hN b hs _ (Nat.le_refl _)) h
theorem rBay_2 {σ : Nat → Nat → Int32} {N : Nat → Nat} (h : rBay σ N) (x : Nat) : rBay (va_up σ 11 (upd (σ 11) 5 (nI x))) (va_up N 2 x) := by
  have n : ∀ k, k ≠ 2 → va_up N 2 x k = N k := fun k hk => va_up_ne _ _ hk
  have m : ∀ k j, k ≠ 11 → va_up σ 11 (upd (σ 11) 5 (nI x)) k j = σ k j := fun k j hk => by rw [va_up_ne _ _ hk]
  refine ⟨⟨?_, ?_, ?_⟩, fun k q => ?_, fun t ht => ?_⟩
  · rw [n 0 (by omega)]; exact h.1.1
  · rw [n 1 (by omega)]; exact h.1.2.1
  · rw [va_up_self]; rfl
  · rw [n 0 (by omega)] at q
    rw [n (3 + k) (by omega), m 12 k (by decide)]
    exact h.2.1 k q
  · rw [n 1 (by omega)] at ht
    have hr := rS_same (τ := va_up σ 11 (upd (σ 11) 5 (nI x))) (h.2.2 t ht) (fun j _ _ => m _ j (by omega)) (fun j => m _ j (by omega)) (fun j => m _ j (by omega))
    refine ⟨fun f hf => ?_, fun hm f hf => ?_⟩
    · rw [n _ (by omega)]; exact hr.1 f hf
    · rw [n _ (by omega)] at hm
      rw [n _ (by omega)]; exact hr.2 hm f hf
/-- counts -/
def pCH (N : Nat → Nat) (b : Nat) : Nat → Nat
  | 0 => 0
  | k + 1 => pCH N b k + (if N (23 + 13 * k + 7) = 0 ∧ pHo N k (N (23 + 13 * k + 2)) b = true then 1 else 0)
def pS (N : Nat → Nat) (b i : Nat) : Nat := pSw N i (N (23 + 13 * i + 2)) b
def pMr (N : Nat → Nat) (b i : Nat) : Nat → Nat
  | 0 => 0
  | k + 1 => pMr N b i k + (if i < k ∧ pClr N i k (pS N b i) (pS N b k) = false then 1 else 0)
def pMt (N : Nat → Nat) (b : Nat) : Nat → Nat
  | 0 => 0
  | k + 1 => pMt N b k + pMr N b k (N 1)
def pSum (f : Nat → Nat) : Nat → Nat
  | 0 => 0
  | k + 1 => pSum f k + f k
theorem pCH_le (N : Nat → Nat) (b : Nat) : ∀ k, pCH N b k ≤ k
  | 0 => Nat.le_refl _
  | k + 1 => by
    have := pCH_le N b k
    rw [pCH]
    split <;> omega
theorem pMr_le (N : Nat → Nat) (b i : Nat) : ∀ k, pMr N b i k ≤ k
  | 0 => Nat.le_refl _
  | k + 1 => by
    have := pMr_le N b i k
    rw [pMr]
    split <;> omega
/-- nothing is counted up to i itself -/
theorem pMr_0 (N : Nat → Nat) (b i : Nat) : ∀ k, k ≤ i + 1 → pMr N b i k = 0
  | 0, _ => rfl
  | k + 1, h => by rw [pMr, pMr_0 N b i k (by omega), if_neg (fun q => absurd q.1 (by omega))]

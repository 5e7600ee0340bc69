/-! THE CALLS: what each answers, and what is behind it -/
abbrev ZS : Type := (Nat → Nat) × (Nat → Nat → Nat) × Nat × (Nat → Nat) × Nat
abbrev inI (x : Int32) (a b : Nat) : Prop := (nI a).toInt ≤ x.toInt ∧ x.toInt ≤ (nI b).toInt
abbrev okS (N : Nat → Nat) (s : Int32) : Prop := 0 ≤ s.toInt ∧ s.toInt < (N 1 : Int)
theorem inI_nI {j a b : Nat} (h1 : a ≤ j) (h2 : j ≤ b) (hb : b < 2 ^ 31) : inI (nI j) a b := by
  unfold inI
  rw [nI_toInt (by omega), nI_toInt (by omega), nI_toInt hb]
  omega
theorem okS_nI {N : Nat → Nat} {i : Nat} (h : i < N 1) (h5 : N 1 ≤ 5) : okS N (nI i) := by
  unfold okS
  rw [nI_toInt (by omega)]
  omega
theorem okS_no {N : Nat → Nat} {s : Int32} (h5 : N 1 ≤ 5) (h : ∀ i, i < N 1 → s ≠ nI i) : ¬ okS N s := by
  intro q
  have h0 : ¬ s < 0 := fun z => by
    have := ki_lt.mp z
    have h3 : (0 : Int32).toInt = 0 := by decide
    have := q.1
    omega
  obtain ⟨j, hj, rfl⟩ := nI_of h0
  have := q.2
  rw [nI_toInt hj] at this
  exact h j (by omega) rfl
theorem okS_of {N : Nat → Nat} {s : Int32} (h : okS N s) : ∃ i, i < N 1 ∧ s = nI i := by
  have h0 : ¬ s < 0 := fun z => by
    have := ki_lt.mp z
    have h3 : (0 : Int32).toInt = 0 := by decide
    have := h.1
    omega
  obtain ⟨j, hj, rfl⟩ := nI_of h0
  have := h.2
  rw [nI_toInt hj] at this
  exact ⟨j, by omega, rfl⟩
def rC (σ : Nat → Nat → Int32) : ZS → Prop
  | (N, P, np, T, nt) => rBay σ N ∧ nOk N ∧ rPast σ N P np ∧ rText σ T nt
theorem rC_lo {σ τ : Nat → Nat → Int32} {N : Nat → Nat} {P : Nat → Nat → Nat} {np : Nat} {T : Nat → Nat} {nt : Nat} (h : rC σ (N, P, np, T, nt)) (q : fB σ τ) (hB : rBay τ N) : rC τ (N, P, np, T, nt) := by
  obtain ⟨h1, h2, h3, h4⟩ := h
  refine ⟨hB, h2, rPast_same h3 (cst_rf N) (fun k j a => q k j (Or.inr a)), ⟨⟨(q 1 1 (by decide)).trans h4.1.1, h4.1.2⟩, fun k hk => (q 2 k (by decide)).trans (h4.2.1 k hk), h4.2.2⟩⟩
theorem rC_qc {σ τ : Nat → Nat → Int32} {Z : ZS} (h : rC σ Z) (q : qc σ τ) : rC τ Z := by
  obtain ⟨N, P, np, T, nt⟩ := Z
  exact rC_lo h (qc_fB q) (rBay_qc h.2.1.1.2.2.2.1 h.1 q)
theorem rC_fP {σ τ : Nat → Nat → Int32} {Z : ZS} (h : rC σ Z) (q : fP σ τ) : rC τ Z := by
  obtain ⟨N, P, np, T, nt⟩ := Z
  obtain ⟨h1, h2, h3, h4⟩ := h
  exact ⟨rBay_lo h2.1.2.2.2.1 h1 (fun k j a _ => by rw [q k (Or.inr a)]), h2, rPast_same h3 (cst_rf N) (fun k j a => by rw [q k (by omega)]), rText_fP h4 q⟩
def sWrite (x : Int32) : ZS → Int32 × ZS
  | (N, P, np, T, nt) => if inI x 32 126 then (if nt = 200 then (-3, N, P, np, T, nt) else (nI (nt + 1), N, P, np, va_up T nt x.toNatClampNeg, nt + 1)) else (-1, N, P, np, T, nt)
def sWipe : ZS → Int32 × ZS
  | (N, P, np, T, nt) => (nI nt, N, P, np, T, 0)
def pFault (T : Nat → Nat) (nt : Nat) : Int32 := match (pRead T nt 200 0 (fun _ => 0)).1 with
  | none => -4
  | some a => nI a
def sFault : ZS → Int32 × ZS
  | (N, P, np, T, nt) => (pFault T nt, N, P, np, T, nt)
def sLay : ZS → Int32 × ZS
  | (N, P, np, T, nt) => if (pRead T nt 200 0 (fun _ => 0)).1 = none ∧ 2 ≤ (pRead T nt 200 0 (fun _ => 0)).2 0 ∧ 1 ≤ (pRead T nt 200 0 (fun _ => 0)).2 1 then (nI ((pRead T nt 200 0 (fun _ => 0)).2 1), (pRead T nt 200 0 (fun _ => 0)).2, P, 0, T, nt) else (-2, N, P, np, T, nt)
def lkf (w : Nat) : Nat := if w = 0 then 2 else 12
def gLinks (i w k : Nat) : ZS → Int32 × ZS
  | (N, P, np, T, nt) => if N (23 + 13 * i + 7) = 1 ∨ (w = 1 ∧ N (23 + 13 * i + 9) = 0) then (-2, N, P, np, T, nt) else (nI (N (23 + 13 * i + lkf w)), va_up N (23 + 13 * i + lkf w) k, pushP P np N, min (np + 1) 6, T, nt)
def sLinks (s a n : Int32) (Z : ZS) : Int32 × ZS := if okS Z.1 s ∧ inI a 0 1 ∧ inI n 1 60 then gLinks s.toNatClampNeg a.toNatClampNeg n.toNatClampNeg Z else (-1, Z)
def moM (N : Nat → Nat) (i x y n : Nat) : Nat → Nat := va_up (va_up (va_up (va_up N (23 + 13 * i + 9) 1) (23 + 13 * i + 10) x) (23 + 13 * i + 11) y) (23 + 13 * i + 12) n
def weM (N : Nat → Nat) (i : Nat) : Nat → Nat := va_up (va_up (va_up (va_up N (23 + 13 * i + 9) 0) (23 + 13 * i + 10) 0) (23 + 13 * i + 11) 0) (23 + 13 * i + 12) 0
def gMoor (i x y n : Nat) : ZS → Int32 × ZS
  | (N, P, np, T, nt) => if N (23 + 13 * i + 7) = 1 ∨ N (23 + 13 * i + 9) = 1 then (-2, N, P, np, T, nt) else (nI (N (3 + x)), moM N i x y n, pushP P np N, min (np + 1) 6, T, nt)
def sMoor (s x y n : Int32) (Z : ZS) : Int32 × ZS := if okS Z.1 s ∧ (0 ≤ x.toInt ∧ x.toInt < (Z.1 0 : Int) ∧ 0 ≤ y.toInt ∧ y.toInt < 20) ∧ inI n 1 60 then gMoor s.toNatClampNeg x.toNatClampNeg y.toNatClampNeg n.toNatClampNeg Z else (-1, Z)
def gWeigh (i : Nat) : ZS → Int32 × ZS
  | (N, P, np, T, nt) => if N (23 + 13 * i + 7) = 1 ∨ N (23 + 13 * i + 9) = 0 then (-2, N, P, np, T, nt) else (nI (N (23 + 13 * i + 12)), weM N i, pushP P np N, min (np + 1) 6, T, nt)
def sWeigh (s : Int32) (Z : ZS) : Int32 × ZS := if okS Z.1 s then gWeigh s.toNatClampNeg Z else (-1, Z)
def pHs (N : Nat → Nat) (b side : Nat) : Nat → Nat → Nat
  | 0 => N
  | k + 1 => pHour (pHs N b side k) b side
def pHt (N : Nat → Nat) (b side : Nat) : Nat → Nat
  | 0 => 0
  | k + 1 => pHt N b side k + pStr (pHs N b side k) b side (pHs N b side k 1)
def gHours (n b side : Nat) : ZS → Int32 × ZS
  | (N, P, np, T, nt) => if 999 < N 2 + n then (-2, N, P, np, T, nt) else (nI (pHt N b side n), pHs N b side n, pushP P np N, min (np + 1) 6, T, nt)
def sHours (n b side : Int32) (Z : ZS) : Int32 × ZS := if inI n 1 24 ∧ inI b 0 20 ∧ inI side 0 3 then gHours n.toNatClampNeg b.toNatClampNeg side.toNatClampNeg Z else (-1, Z)
def sUndo : ZS → Int32 × ZS
  | (N, P, np, T, nt) => if np = 0 then (-2, N, P, np, T, nt) else (nI (np - 1), P (np - 1), P, np - 1, T, nt)
def gAnchor (N : Nat → Nat) (i w k : Nat) : Int32 := if w = 0 then nI (N (23 + 13 * i + k)) else if N (23 + 13 * i + 9) = 0 then -4 else nI (N (23 + 13 * i + (10 + k)))
def sAnchor (s a k : Int32) (Z : ZS) : Int32 × ZS := (if okS Z.1 s ∧ inI a 0 1 ∧ inI k 0 2 then gAnchor Z.1 s.toNatClampNeg a.toNatClampNeg k.toNatClampNeg else -1, Z)
def sShip (s k : Int32) (Z : ZS) : Int32 × ZS := (if okS Z.1 s ∧ inI k 0 5 then nI (Z.1 (23 + 13 * s.toNatClampNeg + (3 + k.toNatClampNeg))) else -1, Z)
def gHangs (N : Nat → Nat) (i w h k : Nat) : Int32 :=
  if N (23 + 13 * i + 7) = 1 then -2 else if w = 1 ∧ N (23 + 13 * i + 9) = 0 then -4
  else (fun wt d n => if k = 0 then nI (hg h wt 0 d n) else if k = 1 then nI (zGround h wt d n) else if k = 2 then nI (zReach h wt d n) else if k = 3 then nI (zLift h wt d n) else if k = 4 then nI (zHold h wt d n (N (23 + 13 * i + 6))) else nI (if zTaut h wt d n then 1 else 0)) (N (23 + 13 * i + 3)) (pD N (N (23 + 13 * i + (if w = 0 then 0 else 10)))) (N (23 + 13 * i + lkf w))
def sHangs (s a h k : Int32) (Z : ZS) : Int32 × ZS := (if okS Z.1 s ∧ inI a 0 1 ∧ inI h 0 9999 ∧ inI k 0 5 then gHangs Z.1 s.toNatClampNeg a.toNatClampNeg h.toNatClampNeg k.toNatClampNeg else -1, Z)
def gWind (N : Nat → Nat) (i b k : Nat) : Int32 := if N (23 + 13 * i + 7) = 1 then -2 else if k = 0 then nI (pP N i b) else if k = 1 then nI (if pHo N i (N (23 + 13 * i + 2)) b then 1 else 0) else nI (pS N b i)
def sWind (s b k : Int32) (Z : ZS) : Int32 × ZS := (if okS Z.1 s ∧ inI b 0 20 ∧ inI k 0 2 then gWind Z.1 s.toNatClampNeg b.toNatClampNeg k.toNatClampNeg else -1, Z)
def gApart (N : Nat → Nat) (i t b : Nat) : Int32 := nI (if pClr N i t (pS N b i) (pS N b t) then 1 else 0)
def sApart (s t b : Int32) (Z : ZS) : Int32 × ZS := (if okS Z.1 s ∧ okS Z.1 t ∧ s ≠ t ∧ inI b 0 20 then gApart Z.1 s.toNatClampNeg t.toNatClampNeg b.toNatClampNeg else -1, Z)
def gFewest (N : Nat → Nat) (i b : Nat) : Int32 := if N (23 + 13 * i + 7) = 1 then -2 else if ff (fun n => pHo N i (n + 1) b) 60 < 60 then nI (ff (fun n => pHo N i (n + 1) b) 60 + 1) else -4
def sFewest (s b : Int32) (Z : ZS) : Int32 × ZS := (if okS Z.1 s ∧ inI b 0 20 then gFewest Z.1 s.toNatClampNeg b.toNatClampNeg else -1, Z)
def gTooMuch (N : Nat → Nat) (i : Nat) : Int32 := if N (23 + 13 * i + 7) = 1 then -2 else if ff (fun b => !pHo N i (N (23 + 13 * i + 2)) b) 21 < 21 then nI (ff (fun b => !pHo N i (N (23 + 13 * i + 2)) b) 21) else -4
def sTooMuch (s : Int32) (Z : ZS) : Int32 × ZS := (if okS Z.1 s then gTooMuch Z.1 s.toNatClampNeg else -1, Z)
/-- by n LINKS the ship holds, and its room is apart from those of all others -/
def pAp (N : Nat → Nat) (b i n : Nat) : Nat → Bool
  | 0 => true
  | t + 1 => pAp N b i n t && (decide (t = i) || pClr N i t (pSw N i n b) (pS N b t))
def pGood (N : Nat → Nat) (b i n : Nat) : Bool := pHo N i n b && pAp N b i n (N 1)
def gClose (N : Nat → Nat) (i b : Nat) : Int32 := if N (23 + 13 * i + 7) = 1 then -2 else if ff (fun j => pGood N b i (60 - j)) 60 < 60 then nI (60 - ff (fun j => pGood N b i (60 - j)) 60) else -4
def sClose (s b : Int32) (Z : ZS) : Int32 × ZS := (if okS Z.1 s ∧ inI b 0 20 then gClose Z.1 s.toNatClampNeg b.toNatClampNeg else -1, Z)
def gAll (N : Nat → Nat) (b k : Nat) : Int32 := if k = 0 then nI (pCH N b (N 1)) else nI (pMt N b (N 1))
def sAll (b k : Int32) (Z : ZS) : Int32 × ZS := (if inI b 0 20 ∧ inI k 0 1 then gAll Z.1 b.toNatClampNeg k.toNatClampNeg else -1, Z)
def gCount (k : Nat) : ZS → Int32
  | (N, P, np, T, nt) => if k = 0 then nI (N 0) else if k = 1 then nI (N 1) else if k = 2 then nI (N 2) else if k = 3 then nI (pSum (fun t => N (23 + 13 * t + 7)) (N 1)) else if k = 4 then nI (pSum (fun t => N (23 + 13 * t + 9)) (N 1)) else if k = 5 then nI (pSum (fun t => if N (23 + 13 * t + 7) = 1 then 0 else N (23 + 13 * t + 2) + N (23 + 13 * t + 12)) (N 1)) else if k = 6 then nI np else nI nt
def sCount (k : Int32) (Z : ZS) : Int32 × ZS := (if inI k 0 7 then gCount k.toNatClampNeg Z else -1, Z)
theorem pAp_iff {N : Nat → Nat} {b i n : Nat} : ∀ k, pAp N b i n k = true ↔ ∀ t, t < k → t ≠ i → pClr N i t (pSw N i n b) (pS N b t) = true
  | 0 => ⟨fun _ t ht => absurd ht (Nat.not_lt_zero t), fun _ => rfl⟩
  | k + 1 => by
    rw [pAp, Bool.and_eq_true, pAp_iff k, Bool.or_eq_true, decide_eq_true_eq]
    constructor
    · intro h t ht hti
      by_cases e : t = k
      · subst e
        rcases h.2 with q | q
        · exact absurd q hti
        · exact q
      · exact h.1 t (by omega) hti
    · intro h
      refine ⟨fun t ht hti => h t (by omega) hti, ?_⟩
      by_cases e : k = i
      · exact Or.inl e
      · exact Or.inr (h k (by omega) e)
/-- numbers of one ship become others: all that is asked of the harbour stays -/
theorem nOk_put {N : Nat → Nat} {i f v : Nat} (hN : nOk N) (hi : i < N 1) (hf : f < 13) (h : nSh (va_up N (23 + 13 * i + f) v) i) : nOk (va_up N (23 + 13 * i + f) v) := nOk_ship (i := i) hN (fun k hk => va_up_ne _ _ (by omega)) h
theorem nOk_links {N : Nat → Nat} {i w k : Nat} (hN : nOk N) (hi : i < N 1) (hw : w = 0 ∨ (w = 1 ∧ N (23 + 13 * i + 9) = 1)) (h1 : 1 ≤ k) (h60 : k ≤ 60) : nOk (va_up N (23 + 13 * i + lkf w) k) ∧ cst (va_up N (23 + 13 * i + lkf w) k) N := by
  have h := hN.2.2 i hi
  have hl : lkf w = 2 ∧ w = 0 ∨ lkf w = 12 ∧ N (23 + 13 * i + 9) = 1 := by unfold lkf; split <;> omega
  have n : ∀ j, j ≠ 23 + 13 * i + lkf w → va_up N (23 + 13 * i + lkf w) k j = N j := fun j hj => va_up_ne _ _ hj
  refine ⟨nOk_ship (i := i) hN (fun j hj => n j (by omega)) ?_, cst_of (i := i) hN (fun j hj => n j (by omega)) (fun f a b => n _ (by omega))⟩
  unfold nSh at h ⊢
  rcases hl with ⟨e, _⟩ | ⟨e, e9⟩ <;> rw [e] at n ⊢
  · rw [n 0 (by omega), n (23 + 13 * i) (by omega), n (23 + 13 * i + 1) (by omega), va_up_self, n (23 + 13 * i + 3) (by omega), n (23 + 13 * i + 4) (by omega), n (23 + 13 * i + 5) (by omega), n (23 + 13 * i + 6) (by omega), n (23 + 13 * i + 7) (by omega), n (23 + 13 * i + 9) (by omega), n (23 + 13 * i + 10) (by omega), n (23 + 13 * i + 11) (by omega), n (23 + 13 * i + 12) (by omega)]
    exact ⟨⟨h.1.1, h.1.2.1, h1, h60⟩, h.2⟩
  · rw [n 0 (by omega), n (23 + 13 * i) (by omega), n (23 + 13 * i + 1) (by omega), n (23 + 13 * i + 2) (by omega), n (23 + 13 * i + 3) (by omega), n (23 + 13 * i + 4) (by omega), n (23 + 13 * i + 5) (by omega), n (23 + 13 * i + 6) (by omega), n (23 + 13 * i + 7) (by omega), n (23 + 13 * i + 9) (by omega), n (23 + 13 * i + 10) (by omega), n (23 + 13 * i + 11) (by omega), va_up_self]
    exact ⟨h.1, h.2.1, h.2.2.1, h.2.2.2.1, fun z => ⟨(h.2.2.2.2.1 z).1, (h.2.2.2.2.1 z).2.1, h1, h60⟩, fun z => absurd z (by omega)⟩
theorem moM_at (N : Nat → Nat) (i x y n : Nat) {k : Nat} (h9 : k ≠ 23 + 13 * i + 9) (h10 : k ≠ 23 + 13 * i + 10) (h11 : k ≠ 23 + 13 * i + 11) (h12 : k ≠ 23 + 13 * i + 12) : moM N i x y n k = N k := by
  unfold moM
  rw [va_up_ne _ _ h12, va_up_ne _ _ h11, va_up_ne _ _ h10, va_up_ne _ _ h9]
theorem moM_9 (N : Nat → Nat) (i x y n : Nat) : moM N i x y n (23 + 13 * i + 9) = 1 ∧ moM N i x y n (23 + 13 * i + 10) = x ∧ moM N i x y n (23 + 13 * i + 11) = y ∧ moM N i x y n (23 + 13 * i + 12) = n := by
  unfold moM
  refine ⟨?_, ?_, ?_, ?_⟩
  · rw [va_up_ne _ _ (by omega), va_up_ne _ _ (by omega), va_up_ne _ _ (by omega), va_up_self]
  · rw [va_up_ne _ _ (by omega), va_up_ne _ _ (by omega), va_up_self]
  · rw [va_up_ne _ _ (by omega), va_up_self]
  · rw [va_up_self]
theorem weM_is (N : Nat → Nat) (i : Nat) {k : Nat} (h9 : k ≠ 23 + 13 * i + 9) (h10 : k ≠ 23 + 13 * i + 10) (h11 : k ≠ 23 + 13 * i + 11) (h12 : k ≠ 23 + 13 * i + 12) : weM N i k = N k := by
  unfold weM
  rw [va_up_ne _ _ h12, va_up_ne _ _ h11, va_up_ne _ _ h10, va_up_ne _ _ h9]
theorem weM_9 (N : Nat → Nat) (i : Nat) : weM N i (23 + 13 * i + 9) = 0 ∧ weM N i (23 + 13 * i + 10) = 0 ∧ weM N i (23 + 13 * i + 11) = 0 ∧ weM N i (23 + 13 * i + 12) = 0 := by
  unfold weM
  refine ⟨?_, ?_, ?_, ?_⟩
  · rw [va_up_ne _ _ (by omega), va_up_ne _ _ (by omega), va_up_ne _ _ (by omega), va_up_self]
  · rw [va_up_ne _ _ (by omega), va_up_ne _ _ (by omega), va_up_self]
  · rw [va_up_ne _ _ (by omega), va_up_self]
  · rw [va_up_self]
theorem nOk_moor {N : Nat → Nat} {i x y n : Nat} (hN : nOk N) (hi : i < N 1) (hx : x < N 0) (hy : y < 20) (h1 : 1 ≤ n) (h60 : n ≤ 60) : nOk (moM N i x y n) ∧ cst (moM N i x y n) N := by
  have h := hN.2.2 i hi
  have a : ∀ k, k ≠ 23 + 13 * i + 9 → k ≠ 23 + 13 * i + 10 → k ≠ 23 + 13 * i + 11 → k ≠ 23 + 13 * i + 12 → moM N i x y n k = N k := fun k a b c d => moM_at N i x y n a b c d
  obtain ⟨b9, b10, b11, b12⟩ := moM_9 N i x y n
  refine ⟨nOk_ship (i := i) hN (fun j hj => a j (by omega) (by omega) (by omega) (by omega)) ?_, cst_of (i := i) hN (fun j hj => a j (by omega) (by omega) (by omega) (by omega)) (fun f _ _ => a _ (by omega) (by omega) (by omega) (by omega))⟩
  unfold nSh at h ⊢
  rw [b9, b10, b11, b12, a 0 (by omega) (by omega) (by omega) (by omega), a (23 + 13 * i) (by omega) (by omega) (by omega) (by omega), a (23 + 13 * i + 1) (by omega) (by omega) (by omega) (by omega), a (23 + 13 * i + 2) (by omega) (by omega) (by omega) (by omega), a (23 + 13 * i + 3) (by omega) (by omega) (by omega) (by omega), a (23 + 13 * i + 4) (by omega) (by omega) (by omega) (by omega), a (23 + 13 * i + 5) (by omega) (by omega) (by omega) (by omega), a (23 + 13 * i + 6) (by omega) (by omega) (by omega) (by omega), a (23 + 13 * i + 7) (by omega) (by omega) (by omega) (by omega)]
  exact ⟨h.1, h.2.1, h.2.2.1, ⟨h.2.2.2.1.1, by omega⟩, fun _ => ⟨hx, hy, h1, h60⟩, fun z => absurd z (by omega)⟩
theorem nOk_weigh {N : Nat → Nat} {i : Nat} (hN : nOk N) (hi : i < N 1) : nOk (weM N i) ∧ cst (weM N i) N := by
  have h := hN.2.2 i hi
  have a : ∀ k, k ≠ 23 + 13 * i + 9 → k ≠ 23 + 13 * i + 10 → k ≠ 23 + 13 * i + 11 → k ≠ 23 + 13 * i + 12 → weM N i k = N k := fun k a b c d => weM_is N i a b c d
  obtain ⟨b9, b10, b11, b12⟩ := weM_9 N i
  refine ⟨nOk_ship (i := i) hN (fun j hj => a j (by omega) (by omega) (by omega) (by omega)) ?_, cst_of (i := i) hN (fun j hj => a j (by omega) (by omega) (by omega) (by omega)) (fun f _ _ => a _ (by omega) (by omega) (by omega) (by omega))⟩
  unfold nSh at h ⊢
  rw [b9, b10, b11, b12, a 0 (by omega) (by omega) (by omega) (by omega), a (23 + 13 * i) (by omega) (by omega) (by omega) (by omega), a (23 + 13 * i + 1) (by omega) (by omega) (by omega) (by omega), a (23 + 13 * i + 2) (by omega) (by omega) (by omega) (by omega), a (23 + 13 * i + 3) (by omega) (by omega) (by omega) (by omega), a (23 + 13 * i + 4) (by omega) (by omega) (by omega) (by omega), a (23 + 13 * i + 5) (by omega) (by omega) (by omega) (by omega), a (23 + 13 * i + 6) (by omega) (by omega) (by omega) (by omega), a (23 + 13 * i + 7) (by omega) (by omega) (by omega) (by omega)]
  exact ⟨h.1, h.2.1, h.2.2.1, ⟨h.2.2.2.1.1, by omega⟩, fun z => absurd z (by omega), fun _ => ⟨rfl, rfl, rfl⟩⟩
/-- hours keep the harbour, and what no change changes -/
theorem cst_drag {N : Nat → Nat} (hN : nOk N) (i side : Nat) : cst (pDrag N i side) N := by
  refine cst_of (i := i) hN (fun k hk => pDrag_off N i side hk) (fun f a b => ?_)
  unfold pDrag
  split
  · exact pMoved_at N i side (by omega) (by omega) (by omega) (by omega) (by omega)
  · exact va_up_ne _ _ (by omega)
theorem cst_pass {N : Nat → Nat} (hN : nOk N) (b : Nat) {side : Nat} (hs : side ≤ 3) : ∀ k, k ≤ N 1 → cst (pPass N b side k) N
  | 0, _ => cst_rf N
  | k + 1, hk => by
    have h := cst_pass hN b hs k (by omega)
    rw [pPass]
    split
    · exact cst_tr (cst_drag (nOk_pass hN b hs k (by omega)) k side) h
    · exact h
theorem cst_2 (N : Nat → Nat) (x : Nat) : cst (va_up N 2 x) N := ⟨va_up_ne _ _ (by decide), va_up_ne _ _ (by decide), fun k _ => va_up_ne _ _ (by omega), fun i _ => ⟨va_up_ne _ _ (by omega), va_up_ne _ _ (by omega), va_up_ne _ _ (by omega), va_up_ne _ _ (by omega)⟩⟩
theorem pHs_ok {N : Nat → Nat} (hN : nOk N) (b : Nat) {side : Nat} (hs : side ≤ 3) : ∀ k, N 2 + k ≤ 999 → nOk (pHs N b side k) ∧ cst (pHs N b side k) N ∧ pHs N b side k 2 = N 2 + k
  | 0, _ => ⟨hN, cst_rf N, rfl⟩
  | k + 1, h => by
    obtain ⟨h1, h2, h3⟩ := pHs_ok hN b hs k (by omega)
    refine ⟨nOk_hour h1 b hs (by rw [h3]; omega), cst_tr (cst_tr (cst_2 _ _) (cst_pass h1 b hs _ (Nat.le_refl _))) h2, ?_⟩
    rw [pHs, pHour, va_up_self, h3]
    omega
theorem ks_lay {σ τ : Nat → Nat → Int32} {P : Nat → Nat → Nat} {T : Nat → Nat} {nt : Nat} {M : Nat → Nat} {np : Nat} {N : Nat → Nat} (hC : rC σ (N, P, np, T, nt)) (hM : nOk M) (hB : rBay τ M) (h : ∀ k, (k < 3) → τ k = σ k) (h30 : τ 30 = upd (σ 30) 2 (nI 0)) : rC τ (M, P, 0, T, nt) := by
  obtain ⟨_, _, ⟨nx, hx, _, e1, _, _⟩, h4⟩ := hC
  exact ⟨hB, hM, ⟨nx, hx, Nat.zero_le _, by rw [h30]; exact e1, by rw [h30]; rfl, fun t ht => absurd ht (Nat.not_lt_zero t)⟩, ⟨⟨by rw [h 1 (by decide)]; exact h4.1.1, h4.1.2⟩, fun k hk => by rw [h 2 (by decide)]; exact h4.2.1 k hk, h4.2.2⟩⟩
/-- a change, behind 'remember' -/
theorem ks_change {σ σ1 τ : Nat → Nat → Int32} {N M : Nat → Nat} {P Q : Nat → Nat → Nat} {np nq : Nat} {T : Nat → Nat} {nt : Nat} (hC : rC σ (N, P, np, T, nt)) (hp : rPast σ1 N Q nq) (hk : ∀ k, k < 30 → σ1 k = σ k) (hB : rBay τ M) (hF : fB σ1 τ) (hM : nOk M) (hc : cst M N) : rC τ (M, Q, nq, T, nt) := by
  obtain ⟨_, _, _, h4⟩ := hC
  refine ⟨hB, hM, rPast_same hp (cst_sy hc) (fun k j a => hF k j (Or.inr a)), ⟨⟨?_, h4.1.2⟩, fun k q => ?_, h4.2.2⟩⟩
  · rw [hF 1 1 (by decide), hk 1 (by decide)]; exact h4.1.1
  · rw [hF 2 k (by decide), hk 2 (by decide)]; exact h4.2.1 k q
theorem ks_first {σ τ : Nat → Nat → Int32} {N : Nat → Nat} {i k : Nat} (hB : rBay σ N) (hN : nOk N) (hi : i < N 1) (hs : τ = va_up σ (16 + 3 * i) (upd (σ (16 + 3 * i)) 2 (nI k))) : rBay τ (va_up N (23 + 13 * i + 2) k) ∧ fB σ τ := by
  have n : ∀ j, j ≠ 23 + 13 * i + 2 → va_up N (23 + 13 * i + 2) k j = N j := fun j hj => va_up_ne _ _ hj
  have r := fun f hf => rB_f hB hi f hf
  subst hs
  have o : ∀ q, q ≠ 16 + 3 * i → va_up σ (16 + 3 * i) (upd (σ (16 + 3 * i)) 2 (nI k)) q = σ q := fun q hq => va_up_ne _ _ hq
  refine rBay_pt hB hN hi (fun j hj => n j (by omega)) (fun q _ b _ => o q b) ?_ ?_ ?_ ?_ ?_ ?_ ?_ ?_ ?_ ?_ (fun hm => ?_)
  · rw [va_up_self, n _ (by omega)]; exact r 0 (by decide)
  · rw [va_up_self, n _ (by omega)]; exact r 1 (by decide)
  · rw [va_up_self, va_up_self]; rfl
  · rw [o _ (by omega), n _ (by omega)]; exact r 3 (by decide)
  · rw [o _ (by omega), n _ (by omega)]; exact r 4 (by decide)
  · rw [o _ (by omega), n _ (by omega)]; exact r 5 (by decide)
  · rw [o _ (by omega), n _ (by omega)]; exact r 6 (by decide)
  · rw [o _ (by omega), n _ (by omega)]; exact r 7 (by decide)
  · rw [o _ (by omega), n _ (by omega)]; exact r 8 (by decide)
  · rw [o _ (by omega), n _ (by omega)]; exact r 9 (by decide)
  · rw [n _ (by omega)] at hm
    rw [o _ (by omega), n _ (by omega), n _ (by omega), n _ (by omega)]
    exact ⟨rB_g hB hi hm 0 (by decide), rB_g hB hi hm 1 (by decide), rB_g hB hi hm 2 (by decide)⟩
/-- the second anchor's cell, and whether it is there -/
theorem ks_second {σ τ : Nat → Nat → Int32} {N M : Nat → Nat} {i : Nat} (hB : rBay σ N) (hN : nOk N) (hi : i < N 1) (hM : ∀ j, j ≠ 23 + 13 * i + 9 → j ≠ 23 + 13 * i + 10 → j ≠ 23 + 13 * i + 11 → j ≠ 23 + 13 * i + 12 → M j = N j) (ho : ∀ q, q ≠ 15 + 3 * i → q ≠ 17 + 3 * i → τ q = σ q) (hs : ∀ j, j ≠ 2 → τ (15 + 3 * i) j = σ (15 + 3 * i) j) (h2 : τ (15 + 3 * i) 2 = nI (M (23 + 13 * i + 9))) (g : M (23 + 13 * i + 9) = 1 → τ (17 + 3 * i) 0 = nI (M (23 + 13 * i + 10)) ∧ τ (17 + 3 * i) 1 = nI (M (23 + 13 * i + 11)) ∧ τ (17 + 3 * i) 2 = nI (M (23 + 13 * i + 12))) : rBay τ M ∧ fB σ τ := by
  have n : ∀ j, j < 23 + 13 * i + 9 ∨ 23 + 13 * i + 12 < j → M j = N j := fun j hj => hM j (by omega) (by omega) (by omega) (by omega)
  have r := fun f hf => rB_f hB hi f hf
  refine rBay_pt hB hN hi (fun j hj => n j (by omega)) (fun q a _ d => ho q a d) ?_ ?_ ?_ ?_ ?_ ?_ ?_ ?_ ?_ h2 g
  · rw [ho _ (by omega) (by omega), n _ (by omega)]; exact r 0 (by decide)
  · rw [ho _ (by omega) (by omega), n _ (by omega)]; exact r 1 (by decide)
  · rw [ho _ (by omega) (by omega), n _ (by omega)]; exact r 2 (by decide)
  · rw [hs 5 (by decide), n _ (by omega)]; exact r 3 (by decide)
  · rw [hs 6 (by decide), n _ (by omega)]; exact r 4 (by decide)
  · rw [hs 7 (by decide), n _ (by omega)]; exact r 5 (by decide)
  · rw [hs 8 (by decide), n _ (by omega)]; exact r 6 (by decide)
  · rw [hs 3 (by decide), n _ (by omega)]; exact r 7 (by decide)
  · rw [hs 4 (by decide), n _ (by omega)]; exact r 8 (by decide)
theorem pRead_lt {T : Nat → Nat} {n : Nat} : ∀ {f a : Nat} {M : Nat → Nat} {b : Nat}, (pRead T n f a M).1 = some b → b < n
  | 0, _, _, _, h => by cases h
  | f + 1, a, M, b, h => by
    rw [pRead] at h
    split at h
    · split at h
      · cases h; assumption
      · exact pRead_lt h
    · cases h
theorem wr_yes {σ τ : Nat → Nat → Int32} {N : Nat → Nat} {P : Nat → Nat → Nat} {np : Nat} {T : Nat → Nat} {nt k : Nat} (hC : rC σ (N, P, np, T, nt)) (hl : nt < 200) (hk : 32 ≤ k ∧ k ≤ 126) (hs : τ = va_up (va_up σ 2 (upd (σ 2) nt (nI k))) 1 (upd (σ 1) 1 (nI (nt + 1)))) : rC τ (N, P, np, va_up T nt k, nt + 1) := by
  obtain ⟨h1, h2, h3, h4⟩ := hC
  have o : ∀ q, 3 ≤ q → τ q = σ q := fun q hq => by rw [hs, va_up_ne _ _ (by omega), va_up_ne _ _ (by omega)]
  refine ⟨rBay_lo h2.1.2.2.2.1 h1 (fun q j a _ => by rw [o q (by omega)]), h2, rPast_same h3 (cst_rf N) (fun q j a => by rw [o q (by omega)]), ⟨⟨by rw [hs]; rfl, by omega⟩, fun q hq => ?_, fun q hq => ?_⟩⟩
  · rw [hs, va_up_ne _ _ (by decide), va_up_self]
    by_cases e : q = nt
    · rw [e, pk_us, va_up_self]
    · rw [pk_un e, va_up_ne _ _ e]; exact h4.2.1 q (by omega)
  · by_cases e : q = nt
    · rw [e, va_up_self]; exact hk
    · rw [va_up_ne _ _ e]; exact h4.2.2 q (by omega)
theorem wi_yes {σ τ : Nat → Nat → Int32} {N : Nat → Nat} {P : Nat → Nat → Nat} {np : Nat} {T : Nat → Nat} {nt : Nat} (hC : rC σ (N, P, np, T, nt)) (hs : τ = va_up σ 1 (upd (σ 1) 1 (nI 0))) : rC τ (N, P, np, T, 0) := by
  obtain ⟨h1, h2, h3, h4⟩ := hC
  have o : ∀ q, 3 ≤ q → τ q = σ q := fun q hq => by rw [hs, va_up_ne _ _ (by omega)]
  exact ⟨rBay_lo h2.1.2.2.2.1 h1 (fun q j a _ => by rw [o q (by omega)]), h2, rPast_same h3 (cst_rf N) (fun q j a => by rw [o q (by omega)]), ⟨⟨by rw [hs]; rfl, by omega⟩, fun q hq => absurd hq (Nat.not_lt_zero q), fun q hq => absurd hq (Nat.not_lt_zero q)⟩⟩
theorem links2 {σ τ : Nat → Nat → Int32} {N : Nat → Nat} {i k : Nat} (hB : rBay σ N) (hN : nOk N) (hi : i < N 1) (hm : N (23 + 13 * i + 9) = 1) (hs : τ = va_up σ (17 + 3 * i) (upd (σ (17 + 3 * i)) 2 (nI k))) : rBay τ (va_up N (23 + 13 * i + 12) k) ∧ fB σ τ := by
  subst hs
  refine ks_second hB hN hi (fun j _ _ _ d => va_up_ne _ _ d) (fun q _ b => va_up_ne _ _ b) (fun j _ => by rw [va_up_ne _ _ (by omega)]) (by rw [va_up_ne _ _ (by omega), va_up_ne _ _ (by omega)]; exact rB_f hB hi 9 (by decide)) (fun _ => ?_)
  rw [va_up_self, va_up_self, va_up_ne _ _ (by omega), va_up_ne _ _ (by omega)]
  exact ⟨rB_g hB hi hm 0 (by decide), rB_g hB hi hm 1 (by decide), rfl⟩
theorem moor2 {σ τ : Nat → Nat → Int32} {N : Nat → Nat} {i x y k : Nat} (hB : rBay σ N) (hN : nOk N) (hi : i < N 1) (hs : τ = va_up (va_up σ (15 + 3 * i) (upd (σ (15 + 3 * i)) 2 (nI 1))) (17 + 3 * i) (upd (upd (upd (σ (17 + 3 * i)) 0 (nI x)) 1 (nI y)) 2 (nI k))) : rBay τ (moM N i x y k) ∧ fB σ τ := by
  subst hs
  obtain ⟨b9, b10, b11, b12⟩ := moM_9 N i x y k
  refine ks_second hB hN hi (fun j a b c d => moM_at N i x y k a b c d) (fun q a b => by rw [va_up_ne _ _ b, va_up_ne _ _ a]) (fun j hj => by rw [va_up_ne _ _ (by omega), va_up_self, pk_un hj]) (by rw [va_up_ne _ _ (by omega), va_up_self, b9]; rfl) (fun _ => ?_)
  rw [va_up_self, b10, b11, b12]
  exact ⟨rfl, rfl, rfl⟩
theorem weigh2 {σ τ : Nat → Nat → Int32} {N : Nat → Nat} {i : Nat} (hB : rBay σ N) (hN : nOk N) (hi : i < N 1) (hs : τ = va_up σ (15 + 3 * i) (upd (σ (15 + 3 * i)) 2 (nI 0))) : rBay τ (weM N i) ∧ fB σ τ := by
  subst hs
  obtain ⟨b9, b10, b11, b12⟩ := weM_9 N i
  exact ks_second hB hN hi (fun j a b c d => weM_is N i a b c d) (fun q a b => va_up_ne _ _ a) (fun j hj => by rw [va_up_self, pk_un hj]) (by rw [va_up_self, b9]; rfl) (fun z => absurd z (by rw [b9]; decide))
theorem undo2 {σ τ : Nat → Nat → Int32} {N : Nat → Nat} {P : Nat → Nat → Nat} {np : Nat} {T : Nat → Nat} {nt nx q : Nat} (hC : rC σ (N, P, np, T, nt)) (hB : rBay τ (P (np - 1))) (hM : nOk (P (np - 1))) (h0 : 0 < np) (hx : nx < 6) (hp : np ≤ 6) (hkeep : ∀ t, t < np → svR (σ (32 + (nx + 6 - np + t) % 6)) (P t) ∧ cst (P t) N ∧ nOk (P t)) (ho : ∀ k, (k < 11 ∨ 31 ≤ k) → τ k = σ k) (e1 : τ 30 1 = nI q) (e2 : τ 30 2 = nI (np - 1)) (hq : q = (nx + 5) % 6) (hc : cst (P (np - 1)) N) : rC τ (P (np - 1), P, np - 1, T, nt) := by
  obtain ⟨_, _, _, h4⟩ := hC
  refine ⟨hB, hM, ⟨q, by omega, by omega, e1, e2, fun t ht => ?_⟩, ⟨⟨by rw [ho 1 (by omega)]; exact h4.1.1, h4.1.2⟩, fun k hk => by rw [ho 2 (by omega)]; exact h4.2.1 k hk, h4.2.2⟩⟩
  obtain ⟨x, y, z⟩ := hkeep t (by omega)
  rw [show (q + 6 - (np - 1) + t) % 6 = (nx + 6 - np + t) % 6 by omega, ho _ (by omega)]
  exact ⟨x, cst_tr y (cst_sy hc), z⟩
theorem zLift_le (h w d n : Nat) : zLift h w d n ≤ 999 := by
  unfold zLift
  split
  · omega
  · exact Nat.min_le_right _ _

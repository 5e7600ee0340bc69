/-! THE TEXT: what it tells -/
def ch (T : Nat → Nat) (n k : Nat) : Nat := if k < n then T k else 0
def fg (T : Nat → Nat) (n k : Nat) : Bool := decide (48 ≤ ch T n k ∧ ch T n k ≤ 57)
def nfc (T : Nat → Nat) (n a : Nat) : Nat := ff (fun j => !fg T n (a + j)) 3
def pv (T : Nat → Nat) (n a : Nat) : Nat → Nat
  | 0 => 0
  | j + 1 => pv T n a j * 10 + (ch T n (a + j) - 48)
def nvl (T : Nat → Nat) (n a : Nat) : Nat := pv T n a (nfc T n a)
theorem nfc_le (T : Nat → Nat) (n a : Nat) : nfc T n a ≤ 3 := (ff_all _ 3).1
theorem nfc_eq {T : Nat → Nat} {n a f : Nat} (hf : f ≤ 3) (h1 : ∀ j, j < f → fg T n (a + j) = true) (h2 : f < 3 → fg T n (a + f) = false) : nfc T n a = f :=
  ff_eq hf (fun j hj => by simp [h1 j hj]) (fun q => by simp [h2 q])
theorem nfc_fg {T : Nat → Nat} {n a j : Nat} (h : j < nfc T n a) : fg T n (a + j) = true := by
  have := (ff_all (fun j => !fg T n (a + j)) 3).2.1 j h
  simpa using this
theorem pv_le {T : Nat → Nat} {n a : Nat} : ∀ j, (∀ i, i < j → fg T n (a + i) = true) → pv T n a j + 1 ≤ 10 ^ j
  | 0, _ => Nat.le_refl _
  | j + 1, h => by
    have h1 := pv_le j (fun i hi => h i (by omega))
    have h2 := h j (by omega)
    unfold fg at h2
    have h3 := of_decide_eq_true h2
    rw [pv, Nat.pow_succ]
    omega
theorem nvl_le (T : Nat → Nat) (n a : Nat) : nvl T n a ≤ 999 := by
  have h := pv_le (T := T) (n := n) (a := a) (nfc T n a) (fun i hi => nfc_fg hi)
  have h2 := Nat.pow_le_pow_right (show 0 < 10 by decide) (nfc_le T n a)
  unfold nvl
  omega
theorem ch_le {T : Nat → Nat} {n : Nat} (h : ∀ k, k < n → 32 ≤ T k ∧ T k ≤ 126) (k : Nat) : ch T n k ≤ 126 := by
  unfold ch
  split
  · exact (h k (by assumption)).2
  · omega
/-- where the numbers of a ship begin; what stands behind each; what each may be -/
def sp (T : Nat → Nat) (n a : Nat) : Nat → Nat
  | 0 => a
  | k + 1 => sp T n a k + nfc T n (sp T n a k) + 1
def sgn (k : Nat) : Nat := if k = 6 then 59 else 44
def loV (k : Nat) : Nat := [0, 0, 1, 1, 1, 1, 10].getD k 0
def hiV (k : Nat) : Nat := [0, 19, 60, 5, 9, 9, 999].getD k 0
theorem kLEAST_at : ∀ i, i < 7 → kLEAST.getD i 0 = nI (loV i) := by decide +kernel
theorem kMOST_at : ∀ i, i < 7 → kMOST.getD i 0 = nI (hiV i) := by decide +kernel
theorem loV_le : ∀ i, i < 7 → loV i ≤ 10 := by decide +kernel
theorem hiV_le : ∀ i, i < 7 → hiV i ≤ 999 := by decide +kernel
def okN (T : Nat → Nat) (n a k : Nat) : Prop := 0 < nfc T n (sp T n a k) ∧ ch T n (sp T n a k + nfc T n (sp T n a k)) = sgn k
def rgN (C k v : Nat) : Prop := loV k ≤ v ∧ ((k = 0 ∧ v < C) ∨ (k ≠ 0 ∧ v ≤ hiV k))
def shOk (T : Nat → Nat) (n a C : Nat) : Bool := (List.range 7).all (fun k => decide (0 < nfc T n (sp T n a k) ∧ ch T n (sp T n a k + nfc T n (sp T n a k)) = sgn k ∧ loV k ≤ nvl T n (sp T n a k) ∧ ((k = 0 ∧ nvl T n (sp T n a k) < C) ∨ (k ≠ 0 ∧ nvl T n (sp T n a k) ≤ hiV k))))
theorem shOk_iff {T : Nat → Nat} {n a C : Nat} : shOk T n a C = true ↔ ∀ k, k < 7 → okN T n a k ∧ rgN C k (nvl T n (sp T n a k)) := by
  unfold shOk okN rgN
  rw [List.all_eq_true]
  constructor
  · intro h k hk
    have := of_decide_eq_true (h k (List.mem_range.mpr hk))
    exact ⟨⟨this.1, this.2.1⟩, this.2.2⟩
  · intro h k hk
    have := h k (List.mem_range.mp hk)
    exact decide_eq_true ⟨this.1.1, this.1.2, this.2⟩
def clOk (T : Nat → Nat) (n a : Nat) (M : Nat → Nat) : Prop := 0 < nfc T n a ∧ 1 ≤ nvl T n a ∧ nvl T n a ≤ 20 ∧ ch T n (a + nfc T n a) = 59 ∧ M 0 < 20
def plc (M : Nat → Nat) (v : Nat → Nat) : Nat → Nat := fun k => if 23 + 13 * M 1 ≤ k ∧ k < 23 + 13 * M 1 + 7 then v (k - (23 + 13 * M 1)) else if k = 1 then M 1 + 1 else M k
def clM (M : Nat → Nat) (v : Nat) : Nat → Nat := va_up (va_up M (3 + M 0) v) 0 (M 0 + 1)
def pItem (T : Nat → Nat) (n a : Nat) (M : Nat → Nat) : Option (Nat × (Nat → Nat)) :=
  if ch T n a = 99 then
    (if 0 < nfc T n (a + 1) ∧ 1 ≤ nvl T n (a + 1) ∧ nvl T n (a + 1) ≤ 20 ∧ ch T n (a + 1 + nfc T n (a + 1)) = 59 ∧ M 0 < 20 then some (a + 1 + nfc T n (a + 1) + 1, clM M (nvl T n (a + 1))) else none)
  else if ch T n a = 115 ∧ shOk T n (a + 1) (M 0) = true ∧ M 1 < 5 then some (sp T n (a + 1) 7, plc M (fun k => nvl T n (sp T n (a + 1) k))) else none
def pRead (T : Nat → Nat) (n : Nat) : Nat → Nat → (Nat → Nat) → Option Nat × (Nat → Nat)
  | 0, _, M => (none, M)
  | f + 1, a, M => if a < n then (match pItem T n a M with | none => (some a, M) | some q => pRead T n f q.1 q.2) else (none, M)
/-- a draft -/
def pOk (M : Nat → Nat) : Prop := (M 0 ≤ 20 ∧ M 1 ≤ 5 ∧ M 2 = 0) ∧ (∀ k, k < M 0 → 1 ≤ M (3 + k) ∧ M (3 + k) ≤ 20) ∧ (∀ i, i < M 1 → nSh M i) ∧ (∀ i, i < M 1 → ∀ f, 7 ≤ f → f < 13 → M (23 + 13 * i + f) = 0) ∧ (∀ k, 23 + 13 * M 1 ≤ k → M k = 0) ∧ ∀ k, 3 + M 0 ≤ k → k < 23 → M k = 0
theorem pOk_0 : pOk (fun _ => 0) := ⟨by decide, fun k h => absurd h (Nat.not_lt_zero k), fun k h => absurd h (Nat.not_lt_zero k), fun k h => absurd h (Nat.not_lt_zero k), fun _ _ => rfl, fun _ _ _ => rfl⟩
theorem nOk_of {M : Nat → Nat} (h : pOk M) (h0 : 2 ≤ M 0) (h1 : 1 ≤ M 1) : nOk M := ⟨by have := h.1; omega, h.2.1, h.2.2.1⟩
theorem nSh_wide {M N : Nat → Nat} {i : Nat} (h : nSh M i) (h0 : M 0 ≤ N 0) (hf : ∀ f, f < 13 → N (23 + 13 * i + f) = M (23 + 13 * i + f)) : nSh N i := by
  unfold nSh at h ⊢
  have a0 := hf 0 (by decide)
  rw [Nat.add_zero] at a0
  rw [a0, hf 1 (by decide), hf 2 (by decide), hf 3 (by decide), hf 4 (by decide), hf 5 (by decide), hf 6 (by decide), hf 7 (by decide), hf 9 (by decide), hf 10 (by decide), hf 11 (by decide), hf 12 (by decide)]
  exact ⟨⟨by omega, h.1.2⟩, h.2.1, h.2.2.1, h.2.2.2.1, fun q => by have := h.2.2.2.2.1 q; omega, h.2.2.2.2.2⟩
theorem pOk_cl {M : Nat → Nat} {v : Nat} (h : pOk M) (h0 : M 0 < 20) (hv : 1 ≤ v ∧ v ≤ 20) : pOk (clM M v) := by
  have n : ∀ k, k ≠ 0 → k ≠ 3 + M 0 → clM M v k = M k := fun k a b => by unfold clM; rw [va_up_ne _ _ a, va_up_ne _ _ b]
  have z0 : clM M v 0 = M 0 + 1 := by unfold clM; rw [va_up_self]
  have zv : clM M v (3 + M 0) = v := by unfold clM; rw [va_up_ne _ _ (by omega), va_up_self]
  have z1 : clM M v 1 = M 1 := n 1 (by omega) (by omega)
  refine ⟨by rw [z0, z1, n 2 (by omega) (by omega)]; have := h.1; omega, fun k hk => ?_, fun i hi => ?_, fun i hi f a b => ?_, fun k hk => ?_, fun k a b => ?_⟩
  · rw [z0] at hk
    by_cases e : k = M 0
    · subst e; rw [zv]; exact hv
    · rw [n _ (by omega) (by omega)]; exact h.2.1 k (by omega)
  · rw [z1] at hi
    exact nSh_wide (h.2.2.1 i hi) (by rw [z0]; omega) (fun f hf => n _ (by omega) (by omega))
  · rw [z1] at hi
    rw [n _ (by omega) (by omega)]; exact h.2.2.2.1 i hi f a b
  · rw [z1] at hk
    rw [n _ (by omega) (by omega)]; exact h.2.2.2.2.1 k hk
  · rw [z0] at a
    rw [n _ (by omega) (by omega)]; exact h.2.2.2.2.2 k (by omega) b
theorem pOk_pl {M v : Nat → Nat} (h : pOk M) (h1 : M 1 < 5) (hv : ∀ k, k < 7 → rgN (M 0) k (v k)) (h9 : ∀ k, v k ≤ 999) : pOk (plc M v) := by
  have n : ∀ k, k ≠ 1 → (k < 23 + 13 * M 1 ∨ 23 + 13 * M 1 + 7 ≤ k) → plc M v k = M k := fun k a b => by unfold plc; rw [if_neg (by omega), if_neg a]
  have z1 : plc M v 1 = M 1 + 1 := by unfold plc; rw [if_neg (by omega), if_pos rfl]
  have z0 : plc M v 0 = M 0 := n 0 (by omega) (by omega)
  have zv : ∀ f, f < 7 → plc M v (23 + 13 * M 1 + f) = v f := fun f hf => by unfold plc; rw [if_pos (by omega)]; congr 1; omega
  have z : ∀ f, 7 ≤ f → plc M v (23 + 13 * M 1 + f) = 0 := fun f hf => by rw [n _ (by omega) (by omega)]; exact h.2.2.2.2.1 _ (by omega)
  refine ⟨by rw [z0, z1, n 2 (by omega) (by omega)]; have := h.1; omega, fun k hk => ?_, fun i hi => ?_, fun i hi f a b => ?_, fun k hk => ?_, fun k a b => ?_⟩
  · rw [z0] at hk
    rw [n _ (by omega) (by have := h.1; omega)]; exact h.2.1 k hk
  · rw [z1] at hi
    by_cases e : i = M 1
    · subst e
      have a0 := zv 0 (by decide)
      rw [Nat.add_zero] at a0
      have r0 := hv 0 (by decide); have r1 := hv 1 (by decide); have r2 := hv 2 (by decide); have r3 := hv 3 (by decide); have r4 := hv 4 (by decide); have r5 := hv 5 (by decide); have r6 := hv 6 (by decide)
      simp only [rgN, loV, hiV] at r0 r1 r2 r3 r4 r5 r6
      simp at r0 r1 r2 r3 r4 r5 r6
      unfold nSh
      rw [z0, a0, zv 1 (by decide), zv 2 (by decide), zv 3 (by decide), zv 4 (by decide), zv 5 (by decide), zv 6 (by decide), z 7 (by decide), z 9 (by decide), z 10 (by decide), z 11 (by decide), z 12 (by decide)]
      refine ⟨by omega, by omega, by omega, by omega, fun q => absurd q (by decide), fun _ => ⟨rfl, rfl, rfl⟩⟩
    · exact nSh_wide (h.2.2.1 i (by omega)) (by rw [z0]; exact Nat.le_refl _) (fun f hf => n _ (by omega) (by omega))
  · rw [z1] at hi
    by_cases e : i = M 1
    · subst e; exact z f a
    · rw [n _ (by omega) (by omega)]; exact h.2.2.2.1 i (by omega) f a b
  · rw [z1] at hk
    rw [n _ (by omega) (by omega)]; exact h.2.2.2.2.1 k (by omega)
  · rw [z0] at a
    rw [n _ (by omega) (by omega)]; exact h.2.2.2.2.2 k a b
theorem pOk_item {T : Nat → Nat} {n a : Nat} {M : Nat → Nat} {q : Nat × (Nat → Nat)} (h : pOk M) (e : pItem T n a M = some q) : pOk q.2 ∧ a < q.1 := by
  unfold pItem at e
  have sp1 : ∀ k, a + 1 ≤ sp T n (a + 1) k := fun k => by
    induction k with
    | zero => exact Nat.le_refl _
    | succ k ih => rw [sp]; omega
  split at e
  · split at e
    · rename_i z
      cases e
      exact ⟨pOk_cl h z.2.2.2.2 ⟨z.2.1, z.2.2.1⟩, by show a < _; omega⟩
    · cases e
  · split at e
    · rename_i z
      cases e
      exact ⟨pOk_pl h z.2.2 (fun k hk => (shOk_iff.mp z.2.1 k hk).2) (fun k => nvl_le T n _), by have := sp1 7; show a < _; omega⟩
    · cases e
theorem pOk_read {T : Nat → Nat} {n : Nat} : ∀ (f a : Nat) (M : Nat → Nat), pOk M → pOk (pRead T n f a M).2
  | 0, _, _, h => h
  | f + 1, a, M, h => by
    rw [pRead]
    split
    · split
      · exact h
      · rename_i q e
        exact pOk_read f q.1 q.2 (pOk_item h e).1
    · exact h
/-- the class's letters, and its plan -/
def rText (σ : Nat → Nat → Int32) (T : Nat → Nat) (n : Nat) : Prop := (σ 1 1 = nI n ∧ n ≤ 200) ∧ (∀ k, k < n → σ 2 k = nI (T k)) ∧ ∀ k, k < n → 32 ≤ T k ∧ T k ≤ 126
def rPl (σ : Nat → Nat → Int32) (M : Nat → Nat) (a : Nat) : Prop := (σ 3 2 = nI (M 0) ∧ σ 3 3 = nI (M 1) ∧ σ 3 4 = nI a) ∧ (∀ k, k < M 0 → σ 4 k = nI (M (3 + k))) ∧ ∀ i, i < M 1 → ∀ f, f < 7 → σ (6 + i) f = nI (M (23 + 13 * i + f))
def fP (σ τ : Nat → Nat → Int32) : Prop := ∀ k, (k < 3 ∨ 11 ≤ k) → τ k = σ k
theorem fP_rf (σ : Nat → Nat → Int32) : fP σ σ := fun _ _ => rfl
theorem fP_tr {σ τ υ : Nat → Nat → Int32} (h1 : fP σ τ) (h2 : fP τ υ) : fP σ υ := fun k a => (h2 k a).trans (h1 k a)
theorem rText_fP {σ τ : Nat → Nat → Int32} {T : Nat → Nat} {n : Nat} (h : rText σ T n) (q : fP σ τ) : rText τ T n := ⟨⟨by rw [q 1 (by decide)]; exact h.1.1, h.1.2⟩, fun k hk => by rw [q 2 (by decide)]; exact h.2.1 k hk, h.2.2⟩
theorem fP_up {σ τ : Nat → Nat → Int32} (h : fP σ τ) {k : Nat} (r : Nat → Int32) (hk : 3 ≤ k ∧ k < 11) : fP σ (va_up τ k r) := fun a q => by rw [va_up_ne _ _ (show a ≠ k by omega)]; exact h a q
theorem kupd_id {f : Nat → Int32} {k : Nat} {x : Int32} (h : f k = x) : upd f k x = f := by
  funext j
  by_cases e : j = k
  · rw [e, h.symm]; exact pk_us
  · exact pk_un e
theorem sp_le (T : Nat → Nat) (n a : Nat) : ∀ k, sp T n a k ≤ a + 4 * k
  | 0 => Nat.le_refl _
  | k + 1 => by
    have h1 := sp_le T n a k
    have h2 := nfc_le T n (sp T n a k)
    rw [sp]
    omega
theorem cl_no {σ τ : Nat → Nat → Int32} {T : Nat → Nat} {nt a b : Nat} {M : Nat → Nat} (h : ¬ clOk T nt a M) (hF : fP σ τ) : kT (nI 0) (clOk T nt a M) ∧ fP σ τ ∧ (clOk T nt a M → rPl τ (clM M (nvl T nt a)) b) := ⟨kT_0 h, hF, fun q => absurd q h⟩
theorem cl_yes {σ σ2 σ3 τ : Nat → Nat → Int32} {T : Nat → Nat} {nt a : Nat} {M : Nat → Nat} (hP : rPl σ M a) (hM : pOk M) (hok : clOk T nt a M) (h2 : σ2 = va_up σ 3 (upd (σ 3) 4 (nI (a + nfc T nt a)))) (h3 : σ3 = va_up σ2 3 (upd (σ2 3) 4 (nI (a + nfc T nt a + 1)))) (h4 : τ = va_up (va_up σ3 4 (upd (σ3 4) (M 0) (nI (nvl T nt a)))) 3 (upd (σ3 3) 2 (nI (M 0 + 1)))) : kT (nI 1) (clOk T nt a M) ∧ fP σ τ ∧ (clOk T nt a M → rPl τ (clM M (nvl T nt a)) (a + nfc T nt a + 1)) := by
  subst h2 h3 h4
  have h5 := hM.1
  have h20 : M 0 < 20 := hok.2.2.2.2
  have z0 : clM M (nvl T nt a) 0 = M 0 + 1 := by unfold clM; rw [va_up_self]
  have zn : ∀ k, k ≠ 0 → k ≠ 3 + M 0 → clM M (nvl T nt a) k = M k := fun k a b => by unfold clM; rw [va_up_ne _ _ a, va_up_ne _ _ b]
  refine ⟨kT_1 hok, fP_up (fP_up (fP_up (fP_up (fP_rf _) _ (by decide)) _ (by decide)) _ (by decide)) _ (by decide), fun _ => ⟨⟨?_, ?_, rfl⟩, fun k hk => ?_, fun i hi f hf => ?_⟩⟩
  · rw [z0]; rfl
  · rw [zn 1 (by omega) (by omega)]; exact hP.1.2.1
  · rw [z0] at hk
    show upd (σ 4) (M 0) (nI (nvl T nt a)) k = _
    by_cases e : k = M 0
    · rw [e, pk_us]; unfold clM; rw [va_up_ne _ _ (by omega), va_up_self]
    · rw [pk_un e, zn _ (by omega) (by omega)]; exact hP.2.1 k (by omega)
  · rw [zn 1 (by omega) (by omega)] at hi
    rw [va_up_ne _ _ (by omega), va_up_ne _ _ (by omega), va_up_ne _ _ (by omega), va_up_ne _ _ (by omega), zn _ (by omega) (by omega)]
    exact hP.2.2 i hi f hf
theorem sh_yes {σ σ3 τ : Nat → Nat → Int32} {T : Nat → Nat} {nt a sh : Nat} {M : Nat → Nat} (hP : rPl σ M a) (hM : pOk M) (hsh : sh = M 1) (h5 : sh < 5) (hok : ∀ k, k < 7 → okN T nt a k ∧ rgN (M 0) k (nvl T nt (sp T nt a k))) (hrw : ∀ f, f < 7 → σ3 (6 + sh) f = nI (nvl T nt (sp T nt a f))) (hfr : ∀ k, k ≠ 3 → k ≠ 6 + sh → σ3 k = σ k) (t2 : σ3 3 2 = nI (M 0)) (t4 : σ3 3 4 = nI (sp T nt a 7)) (h4 : τ = va_up σ3 3 (upd (σ3 3) 3 (nI (sh + 1)))) :
    kT (nI 1) (shOk T nt a (M 0) = true ∧ M 1 < 5) ∧ fP σ τ ∧ (shOk T nt a (M 0) = true ∧ M 1 < 5 → rPl τ (plc M (fun k => nvl T nt (sp T nt a k))) (sp T nt a 7)) := by
  subst hsh h4
  have h9 := hM.1
  have hs : shOk T nt a (M 0) = true ∧ M 1 < 5 := ⟨shOk_iff.mpr hok, h5⟩
  have n : ∀ k, k ≠ 1 → (k < 23 + 13 * M 1 ∨ 23 + 13 * M 1 + 7 ≤ k) → plc M (fun k => nvl T nt (sp T nt a k)) k = M k := fun k a b => by unfold plc; rw [if_neg (by omega), if_neg a]
  have z1 : plc M (fun k => nvl T nt (sp T nt a k)) 1 = M 1 + 1 := by unfold plc; rw [if_neg (by omega), if_pos rfl]
  refine ⟨kT_1 hs, fun k q => by rw [va_up_ne _ _ (by omega)]; exact hfr k (by omega) (by omega), fun _ => ⟨⟨?_, ?_, ?_⟩, fun k hk => ?_, fun i hi f hf => ?_⟩⟩
  · rw [n 0 (by omega) (by omega)]; exact t2
  · rw [z1]; rfl
  · exact t4
  · rw [n 0 (by omega) (by omega)] at hk
    rw [va_up_ne _ _ (by decide), hfr 4 (by decide) (by omega), n _ (by omega) (by omega)]
    exact hP.2.1 k hk
  · rw [z1] at hi
    rw [va_up_ne _ _ (by omega)]
    by_cases e : i = M 1
    · subst e
      rw [hrw f hf]
      unfold plc
      rw [if_pos (by omega)]
      congr 3
      omega
    · rw [hfr _ (by omega) (by omega), n _ (by omega) (by omega)]
      exact hP.2.2 i (by omega) f hf
theorem ch_pos {T : Nat → Nat} {n k x : Nat} (h : ch T n k = x) (hx : 0 < x) : k < n := by
  unfold ch at h
  split at h
  · assumption
  · omega
theorem pItem_le {T : Nat → Nat} {n a : Nat} {M : Nat → Nat} {q : Nat × (Nat → Nat)} (e : pItem T n a M = some q) (hn : n ≤ 200) : q.1 ≤ 700 := by
  unfold pItem at e
  split at e
  · split at e
    · rename_i z
      cases e
      have := ch_pos z.2.2.2.1 (by decide)
      show _ + 1 ≤ 700
      omega
    · cases e
  · split at e
    · rename_i z
      cases e
      have h6 := (shOk_iff.mp z.2.1 6 (by decide)).1.2
      have := ch_pos h6 (by decide)
      show sp T n (a + 1) 7 ≤ 700
      rw [sp]
      omega
    · cases e

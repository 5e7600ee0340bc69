/-! THE REFERENCE: its reading -/
def mT (σ : Nat → Nat → Int32) (T : Nat → Nat) (nt : Nat) : Prop := σ 0 5 = nI nt ∧ nt ≤ 200 ∧ ∀ k, k < nt → σ 4 k = nI (T k) ∧ 32 ≤ T k ∧ T k ≤ 126
def mD (σ : Nat → Nat → Int32) (M : Nat → Nat) : Prop := ∀ k, k < 88 → σ 2 k = nI (M k)
def qp (σ τ : Nat → Nat → Int32) : Prop := (∀ k, k ≠ 0 → k ≠ 5 → τ k = σ k) ∧ ∀ j, j ≠ 6 → τ 0 j = σ 0 j
def qd (σ τ : Nat → Nat → Int32) : Prop := (∀ k, k ≠ 0 → k ≠ 2 → k ≠ 5 → τ k = σ k) ∧ ∀ j, j ≠ 6 → τ 0 j = σ 0 j
theorem qp_rf (σ : Nat → Nat → Int32) : qp σ σ := ⟨fun _ _ _ => rfl, fun _ _ => rfl⟩
theorem qp_tr {σ τ υ : Nat → Nat → Int32} (h1 : qp σ τ) (h2 : qp τ υ) : qp σ υ := ⟨fun k a b => (h2.1 k a b).trans (h1.1 k a b), fun j a => (h2.2 j a).trans (h1.2 j a)⟩
theorem qd_rf (σ : Nat → Nat → Int32) : qd σ σ := ⟨fun _ _ _ _ => rfl, fun _ _ => rfl⟩
theorem qd_tr {σ τ υ : Nat → Nat → Int32} (h1 : qd σ τ) (h2 : qd τ υ) : qd σ υ := ⟨fun k a b c => (h2.1 k a b c).trans (h1.1 k a b c), fun j a => (h2.2 j a).trans (h1.2 j a)⟩
theorem qp_qd {σ τ : Nat → Nat → Int32} (h : qp σ τ) : qd σ τ := ⟨fun k a _ c => h.1 k a c, h.2⟩
theorem qp_at {σ τ : Nat → Nat → Int32} {x : Int32} (h : τ = va_up σ 0 (upd (σ 0) 6 x)) : qp σ τ := by
  subst h
  exact ⟨fun k a _ => va_up_ne _ _ a, fun j hj => by rw [va_up_self, pk_un hj]⟩
theorem qp_5 {σ τ : Nat → Nat → Int32} {R : Nat → Int32} (h : τ = va_up σ 5 R) : qp σ τ := by
  subst h
  exact ⟨fun k _ b => va_up_ne _ _ b, fun j _ => by rw [va_up_ne _ _ (by decide)]⟩
theorem qd_2 {σ τ : Nat → Nat → Int32} {R : Nat → Int32} (h : τ = va_up σ 2 R) : qd σ τ := by
  subst h
  exact ⟨fun k _ b _ => va_up_ne _ _ b, fun j _ => by rw [va_up_ne _ _ (by decide)]⟩
theorem mT_qd {σ τ : Nat → Nat → Int32} {T : Nat → Nat} {nt : Nat} (h : mT σ T nt) (q : qd σ τ) : mT τ T nt := ⟨(q.2 5 (by decide)).trans h.1, h.2.1, fun k hk => by rw [q.1 4 (by decide) (by decide) (by decide)]; exact h.2.2 k hk⟩
theorem mT_qp {σ τ : Nat → Nat → Int32} {T : Nat → Nat} {nt : Nat} (h : mT σ T nt) (q : qp σ τ) : mT τ T nt := mT_qd h (qp_qd q)
theorem mD_qp {σ τ : Nat → Nat → Int32} {M : Nat → Nat} (h : mD σ M) (q : qp σ τ) : mD τ M := fun k hk => by rw [q.1 2 (by decide) (by decide)]; exact h k hk
theorem rM_qd {σ τ : Nat → Nat → Int32} {Z : ZS} (h : rM σ Z) (q : qd σ τ) : rM τ Z := by
  obtain ⟨N, P, np, T, nt⟩ := Z
  obtain ⟨hM, hN, ⟨a, b, c⟩, hT⟩ := h
  refine ⟨fun k hk => ?_, hN, ⟨(q.2 3 (by decide)).trans a, b, fun t ht => ⟨fun k hk => ?_, (c t ht).2⟩⟩, mT_qd hT q⟩
  · rw [q.1 1 (by decide) (by decide) (by decide)]
    exact hM k hk
  · rw [q.1 3 (by decide) (by decide) (by decide)]
    exact (c t ht).1 k hk
def okR (T : Nat → Nat) (nt a n k : Nat) : Prop := 0 < nfc T nt (sp T nt a k) ∧ ch T nt (sp T nt a k + nfc T nt (sp T nt a k)) = (if k + 1 = n then 59 else 44)
theorem sp_pred {T : Nat → Nat} {n a k p : Nat} (h : k ≠ 0) (hp : p + 1 = sp T n a k) : p = sp T n a (k - 1) + nfc T n (sp T n a (k - 1)) := by
  obtain ⟨j, rfl⟩ : ∃ j, k = j + 1 := ⟨k - 1, by omega⟩
  rw [sp] at hp
  simp only [Nat.add_sub_cancel]
  omega
theorem fg_pos {T : Nat → Nat} {n a : Nat} (h : fg T n a = true) : 0 < nfc T n a := by
  rcases Nat.eq_zero_or_pos (nfc T n a) with q | q
  · have := (ff_all (fun j => !fg T n (a + j)) 3).2.2
    unfold nfc at q
    rw [q] at this
    simp [h] at this
  · exact q
theorem nfc_0 {T : Nat → Nat} {n a : Nat} (h : ¬ fg T n a = true) : nfc T n a = 0 := nfc_eq (by decide) (fun j hj => absurd hj (Nat.not_lt_zero j)) (fun _ => Bool.eq_false_iff.mpr h)
theorem fg_lt {T : Nat → Nat} {n a : Nat} (h : fg T n a = true) : a < n ∧ ch T n a = T a ∧ 48 ≤ T a ∧ T a ≤ 57 := by
  unfold fg at h
  have h2 := of_decide_eq_true h
  by_cases q : a < n
  · unfold ch at h2 ⊢
    rw [if_pos q] at h2 ⊢
    exact ⟨q, rfl, h2⟩
  · unfold ch at h2
    rw [if_neg q] at h2
    omega
theorem okN_R {T : Nat → Nat} {n a k : Nat} (h : okN T n a k) : okR T n a 7 k := ⟨h.1, h.2.trans (by unfold sgn; by_cases q : k = 6; (rw [if_pos q, if_pos (by omega)]); (rw [if_neg q, if_neg (by omega)]))⟩
theorem okR_N {T : Nat → Nat} {n a k : Nat} (h : okR T n a 7 k) : okN T n a k := ⟨h.1, h.2.trans (by unfold sgn; by_cases q : k = 6; (rw [if_pos q, if_pos (by omega)]); (rw [if_neg q, if_neg (by omega)]))⟩
def rgA (v : Nat → Nat) (C : Nat) : Prop := v 0 < C ∧ v 1 < 20 ∧ (1 ≤ v 2 ∧ v 2 ≤ 60) ∧ (1 ≤ v 3 ∧ v 3 ≤ 5) ∧ (1 ≤ v 4 ∧ v 4 ≤ 9) ∧ (1 ≤ v 5 ∧ v 5 ≤ 9) ∧ 10 ≤ v 6
theorem sh_rg {T : Nat → Nat} {n a C : Nat} (h : shOk T n a C = true) : rgA (fun k => nvl T n (sp T n a k)) C := by
  have h0 := (shOk_iff.mp h 0 (by decide)).2
  have h1 := (shOk_iff.mp h 1 (by decide)).2
  have h2 := (shOk_iff.mp h 2 (by decide)).2
  have h3 := (shOk_iff.mp h 3 (by decide)).2
  have h4 := (shOk_iff.mp h 4 (by decide)).2
  have h5 := (shOk_iff.mp h 5 (by decide)).2
  have h6 := (shOk_iff.mp h 6 (by decide)).2
  simp [rgN, loV, hiV] at h0 h1 h2 h3 h4 h5 h6
  unfold rgA
  exact ⟨h0, Nat.lt_succ_of_le h1, h2, h3, h4, h5, h6.1⟩
theorem sh_of {T : Nat → Nat} {n a C : Nat} (h : ∀ k, k < 7 → okR T n a 7 k) (r : rgA (fun k => nvl T n (sp T n a k)) C) : shOk T n a C = true := by
  refine shOk_iff.mpr (fun k hk => ⟨okR_N (h k hk), ?_⟩)
  unfold rgA at r
  simp only at r
  have h9 := nvl_le T n (sp T n a 6)
  rcases (show k = 0 ∨ k = 1 ∨ k = 2 ∨ k = 3 ∨ k = 4 ∨ k = 5 ∨ k = 6 by omega) with rfl | rfl | rfl | rfl | rfl | rfl | rfl <;> simp [rgN, loV, hiV] <;> omega
theorem cm_yes {σ τ : Nat → Nat → Int32} {M : Nat → Nat} {v : Nat} (hD : mD σ M) (hs : τ = va_up σ 2 (upd (upd (σ 2) (3 + M 0) (nI v)) 0 (nI (M 0 + 1)))) : mD τ (clM M v) := fun k hk => by
  rw [hs, va_up_self]
  unfold clM
  by_cases q : k = 0
  · rw [q, pk_us, va_up_self]
  · rw [pk_un q, va_up_ne _ _ q]
    by_cases q2 : k = 3 + M 0
    · rw [q2, pk_us, va_up_self]
    · rw [pk_un q2, va_up_ne _ _ q2]
      exact hD k hk
theorem pm_yes {σ σ1 τ : Nat → Nat → Int32} {M v : Nat → Nat} (hD : mD σ M) (h1 : σ1 = va_up σ 2 (upd (upd (upd (upd (σ 2) (23 + 13 * M 1) (nI (v 0))) (23 + 13 * M 1 + 1) (nI (v 1))) (23 + 13 * M 1 + 2) (nI (v 2))) (23 + 13 * M 1 + 3) (nI (v 3))))
    (h2 : τ = va_up σ1 2 (upd (upd (upd (upd (σ1 2) (23 + 13 * M 1 + 4) (nI (v 4))) (23 + 13 * M 1 + 5) (nI (v 5))) (23 + 13 * M 1 + 6) (nI (v 6))) 1 (nI (M 1 + 1)))) : mD τ (plc M v) := fun k hk => by
  rw [h2, va_up_self, h1, va_up_self]
  unfold plc
  by_cases q : 23 + 13 * M 1 ≤ k ∧ k < 23 + 13 * M 1 + 7
  · rw [if_pos q]
    obtain ⟨j, rfl⟩ : ∃ j, k = 23 + 13 * M 1 + j := ⟨k - (23 + 13 * M 1), by omega⟩
    rw [show 23 + 13 * M 1 + j - (23 + 13 * M 1) = j by omega]
    rcases (show j = 0 ∨ j = 1 ∨ j = 2 ∨ j = 3 ∨ j = 4 ∨ j = 5 ∨ j = 6 by omega) with rfl | rfl | rfl | rfl | rfl | rfl | rfl
    · rw [pk_un (by omega), pk_un (by omega), pk_un (by omega), pk_un (by omega), pk_un (by omega), pk_un (by omega), pk_un (by omega)]
      exact pk_us
    · rw [pk_un (by omega), pk_un (by omega), pk_un (by omega), pk_un (by omega), pk_un (by omega), pk_un (by omega), pk_us]
    · rw [pk_un (by omega), pk_un (by omega), pk_un (by omega), pk_un (by omega), pk_un (by omega), pk_us]
    · rw [pk_un (by omega), pk_un (by omega), pk_un (by omega), pk_un (by omega), pk_us]
    · rw [pk_un (by omega), pk_un (by omega), pk_un (by omega), pk_us]
    · rw [pk_un (by omega), pk_un (by omega), pk_us]
    · rw [pk_un (by omega), pk_us]
  · rw [if_neg q]
    by_cases q1 : k = 1
    · rw [if_pos q1, q1, pk_us]
    · rw [if_neg q1, pk_un q1, pk_un (by omega), pk_un (by omega), pk_un (by omega), pk_un (by omega), pk_un (by omega), pk_un (by omega), pk_un (by omega)]
      exact hD k hk
theorem lay_m {σ τ : Nat → Nat → Int32} {N M : Nat → Nat} {P : Nat → Nat → Nat} {np : Nat} {T : Nat → Nat} {nt : Nat} {R : Nat → Int32} (hC : rM σ (N, P, np, T, nt)) (hO : nOk M) (hR : ∀ k, k < 88 → R k = nI (M k)) (hs : τ = va_up (va_up σ 1 R) 0 (upd (σ 0) 3 (nI 0))) : rM τ (M, P, 0, T, nt) := by
  obtain ⟨hM, hN, ⟨a, b, c⟩, ⟨d, e, f⟩⟩ := hC
  subst hs
  refine ⟨fun k hk => ?_, hO, ⟨?_, by decide, fun t ht => absurd ht (Nat.not_lt_zero t)⟩, ⟨?_, e, fun k hk => ?_⟩⟩
  · rw [va_up_ne _ _ (by decide), va_up_self]
    exact hR k hk
  · rw [va_up_self, pk_us]
  · rw [va_up_self, pk_un (by decide)]
    exact d
  · rw [va_up_ne _ _ (by decide), va_up_ne _ _ (by decide)]
    exact f k hk

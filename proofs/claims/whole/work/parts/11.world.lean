/-! THE TWO WORLDS: the class's 38 cells, the reference's 6 -/
def kcC (cy : Nat → ClassId) (ad : Nat → Nat) (k : Nat) (r : Nat → Int32) : va_E :=
  if k = 14 then .inr (2, [.int (r 0), .int (r 1), .int (r 2), .int (r 3), .int (r 4), .int (r 5), .int (r 6), .int (r 7), .int (r 8), .int (r 9), .int (r 10), .int (r 11)])
  else if 15 ≤ k ∧ k < 30 then
    (if k % 3 = 0 then .inr (6, [.ref (ad (k + 1)), .ref (ad (k + 2)), .int (r 2), .int (r 3), .int (r 4), .int (r 5), .int (r 6), .int (r 7), .int (r 8), .int (r 9)])
     else .inr (0, [.int (r 0), .int (r 1), .int (r 2)]))
  else if k = 11 then .inr (1, [.ref (ad 12), .ref (ad 13), .ref (ad 14), .int (r 3), .int (r 4), .int (r 5)])
  else if k = 12 then .inl (cy 1, 20, .inl r)
  else if k = 13 then .inl (cy 2, 5, .inr (.inr (.inr (.inr (fun i => if i < 5 then some (ad (15 + 3 * i)) else none)))))
  else if k = 0 then .inr (7, [.ref (ad 1), .ref (ad 3), .ref (ad 11), .ref (ad 30)])
  else if k = 1 then .inr (3, [.ref (ad 2), .int (r 1)])
  else if k = 2 then .inl (cy 0, 200, .inl r)
  else if k = 3 then .inr (5, [.ref (ad 4), .ref (ad 5), .int (r 2), .int (r 3), .int (r 4)])
  else if k = 4 then .inl (cy 1, 20, .inl r)
  else if k = 5 then .inl (cy 3, 5, .inr (.inr (.inr (.inr (fun i => if i < 5 then some (ad (6 + i)) else none)))))
  else if k < 11 then .inl (cy 1, 7, .inl r)
  else if k = 30 then .inr (4, [.ref (ad 31), .int (r 1), .int (r 2)])
  else if k = 31 then .inl (cy 3, 6, .inr (.inr (.inr (.inr (fun i => if i < 6 then some (ad (32 + i)) else none)))))
  else .inl (cy 1, 46, .inl r)
section KCC
variable {cy : Nat → ClassId} {ad : Nat → Nat} {r : Nat → Int32} {i : Nat}
theorem kc_14 : kcC cy ad 14 r = .inr (2, [.int (r 0), .int (r 1), .int (r 2), .int (r 3), .int (r 4), .int (r 5), .int (r 6), .int (r 7), .int (r 8), .int (r 9), .int (r 10), .int (r 11)]) := rfl
theorem kc_11 : kcC cy ad 11 r = .inr (1, [.ref (ad 12), .ref (ad 13), .ref (ad 14), .int (r 3), .int (r 4), .int (r 5)]) := rfl
theorem kc_12 : kcC cy ad 12 r = .inl (cy 1, 20, .inl r) := rfl
theorem kc_13 : kcC cy ad 13 r = .inl (cy 2, 5, .inr (.inr (.inr (.inr (fun i => if i < 5 then some (ad (15 + 3 * i)) else none))))) := rfl
theorem kc_0 : kcC cy ad 0 r = .inr (7, [.ref (ad 1), .ref (ad 3), .ref (ad 11), .ref (ad 30)]) := rfl
theorem kc_1 : kcC cy ad 1 r = .inr (3, [.ref (ad 2), .int (r 1)]) := rfl
theorem kc_2 : kcC cy ad 2 r = .inl (cy 0, 200, .inl r) := rfl
theorem kc_3 : kcC cy ad 3 r = .inr (5, [.ref (ad 4), .ref (ad 5), .int (r 2), .int (r 3), .int (r 4)]) := rfl
theorem kc_4 : kcC cy ad 4 r = .inl (cy 1, 20, .inl r) := rfl
theorem kc_5 : kcC cy ad 5 r = .inl (cy 3, 5, .inr (.inr (.inr (.inr (fun i => if i < 5 then some (ad (6 + i)) else none))))) := rfl
theorem kc_30 : kcC cy ad 30 r = .inr (4, [.ref (ad 31), .int (r 1), .int (r 2)]) := rfl
theorem kc_31 : kcC cy ad 31 r = .inl (cy 3, 6, .inr (.inr (.inr (.inr (fun i => if i < 6 then some (ad (32 + i)) else none))))) := rfl
theorem kc_S (h : i < 5) : kcC cy ad (15 + 3 * i) r = .inr (6, [.ref (ad (16 + 3 * i)), .ref (ad (17 + 3 * i)), .int (r 2), .int (r 3), .int (r 4), .int (r 5), .int (r 6), .int (r 7), .int (r 8), .int (r 9)]) := by
  match i, h with
  | 0, _ => rfl
  | 1, _ => rfl
  | 2, _ => rfl
  | 3, _ => rfl
  | 4, _ => rfl
theorem kc_F (h : i < 5) : kcC cy ad (16 + 3 * i) r = .inr (0, [.int (r 0), .int (r 1), .int (r 2)]) := by
  match i, h with
  | 0, _ => rfl
  | 1, _ => rfl
  | 2, _ => rfl
  | 3, _ => rfl
  | 4, _ => rfl
theorem kc_G (h : i < 5) : kcC cy ad (17 + 3 * i) r = .inr (0, [.int (r 0), .int (r 1), .int (r 2)]) := by
  match i, h with
  | 0, _ => rfl
  | 1, _ => rfl
  | 2, _ => rfl
  | 3, _ => rfl
  | 4, _ => rfl
theorem kc_R (h : i < 5) : kcC cy ad (6 + i) r = .inl (cy 1, 7, .inl r) := by
  match i, h with
  | 0, _ => rfl
  | 1, _ => rfl
  | 2, _ => rfl
  | 3, _ => rfl
  | 4, _ => rfl
theorem kc_P (h : i < 6) : kcC cy ad (32 + i) r = .inl (cy 1, 46, .inl r) := by
  match i, h with
  | 0, _ => rfl
  | 1, _ => rfl
  | 2, _ => rfl
  | 3, _ => rfl
  | 4, _ => rfl
  | 5, _ => rfl
end KCC
def kcM (cy : Nat → ClassId) (ad : Nat → Nat) (k : Nat) (r : Nat → Int32) : va_E :=
  if k = 0 then .inr (8, [.ref (ad 1), .ref (ad 2), .ref (ad 3), .int (r 3), .ref (ad 4), .int (r 5), .int (r 6), .ref (ad 5), .int (r 8), .int (r 9), .int (r 10), .int (r 11), .int (r 12)])
  else if k = 1 then .inl (cy 1, 88, .inl r)
  else if k = 2 then .inl (cy 1, 88, .inl r)
  else if k = 3 then .inl (cy 1, 528, .inl r)
  else if k = 4 then .inl (cy 1, 200, .inl r)
  else .inl (cy 1, 7, .inl r)
section KCM
variable {cy : Nat → ClassId} {ad : Nat → Nat} {r : Nat → Int32}
theorem km_0 : kcM cy ad 0 r = .inr (8, [.ref (ad 1), .ref (ad 2), .ref (ad 3), .int (r 3), .ref (ad 4), .int (r 5), .int (r 6), .ref (ad 5), .int (r 8), .int (r 9), .int (r 10), .int (r 11), .int (r 12)]) := rfl
theorem km_1 : kcM cy ad 1 r = .inl (cy 1, 88, .inl r) := rfl
theorem km_2 : kcM cy ad 2 r = .inl (cy 1, 88, .inl r) := rfl
theorem km_3 : kcM cy ad 3 r = .inl (cy 1, 528, .inl r) := rfl
theorem km_4 : kcM cy ad 4 r = .inl (cy 1, 200, .inl r) := rfl
theorem km_5 : kcM cy ad 5 r = .inl (cy 1, 7, .inl r) := rfl
end KCM
theorem kup_3 {α : Type} (f : Nat → α) {a b : Nat} (x y z : α) (h : a ≠ b) : va_up (va_up (va_up f a x) b y) a z = va_up (va_up f a z) b y := by
  funext j
  simp only [va_up]
  by_cases h1 : j = a
  · subst h1
    simp [h]
  · simp [h1]
/-- a truth value as the machine has it -/
def kT (r : Int32) (P : Prop) : Prop := (r = nI 1 ∧ P) ∨ (r = nI 0 ∧ ¬ P)
theorem kT_1 {P : Prop} (h : P) : kT (nI 1) P := Or.inl ⟨rfl, h⟩
theorem kT_0 {P : Prop} (h : ¬ P) : kT (nI 0) P := Or.inr ⟨rfl, h⟩
theorem kT_of {r : Int32} {P Q : Prop} (h : kT r P) (e : P ↔ Q) : kT r Q := h.elim (fun q => Or.inl ⟨q.1, e.mp q.2⟩) (fun q => Or.inr ⟨q.1, fun z => q.2 (e.mpr z)⟩)
/-- a switch's cases -/
theorem kint (x : Int32) (n : Nat) (hn : n < 2 ^ 31) : (x.toInt < 0 ∨ (n : Int) < x.toInt) ∨ ∃ j, j ≤ n ∧ x = nI j := by
  by_cases h : x.toInt < 0 ∨ (n : Int) < x.toInt
  · exact Or.inl h
  · right
    have h0 : ¬ x < 0 := fun q => h (Or.inl (by have := Int32.lt_iff_toInt_lt.mp q; simpa using this))
    obtain ⟨j, hj, rfl⟩ := nI_of h0
    rw [nI_toInt hj] at h
    exact ⟨j, by omega, rfl⟩
theorem ksw_5 (x : Int32) : (x.toInt < 0 ∨ (4 : Int) < x.toInt) ∨ x = nI 0 ∨ x = nI 1 ∨ x = nI 2 ∨ x = nI 3 ∨ x = nI 4 := by
  rcases kint x 4 (by decide) with h | ⟨j, hj, rfl⟩
  · exact Or.inl h
  · right
    match j, hj with
    | 0, _ => simp
    | 1, _ => simp
    | 2, _ => simp
    | 3, _ => simp
    | 4, _ => simp
theorem ksw_6 (x : Int32) : (x.toInt < 0 ∨ (5 : Int) < x.toInt) ∨ x = nI 0 ∨ x = nI 1 ∨ x = nI 2 ∨ x = nI 3 ∨ x = nI 4 ∨ x = nI 5 := by
  rcases kint x 5 (by decide) with h | ⟨j, hj, rfl⟩
  · exact Or.inl h
  · right
    match j, hj with
    | 0, _ => simp
    | 1, _ => simp
    | 2, _ => simp
    | 3, _ => simp
    | 4, _ => simp
    | 5, _ => simp
theorem ksw_8 (x : Int32) : (x.toInt < 0 ∨ (7 : Int) < x.toInt) ∨ x = nI 0 ∨ x = nI 1 ∨ x = nI 2 ∨ x = nI 3 ∨ x = nI 4 ∨ x = nI 5 ∨ x = nI 6 ∨ x = nI 7 := by
  rcases kint x 7 (by decide) with h | ⟨j, hj, rfl⟩
  · exact Or.inl h
  · right
    match j, hj with
    | 0, _ => simp
    | 1, _ => simp
    | 2, _ => simp
    | 3, _ => simp
    | 4, _ => simp
    | 5, _ => simp
    | 6, _ => simp
    | 7, _ => simp
theorem kT_in {x : Int32} {a b : Nat} (ha : a < 2 ^ 31) (hb : b < 2 ^ 31) (h : (nI a).toInt ≤ x.toInt ∧ x.toInt ≤ (nI b).toInt) : ∃ j : Nat, a ≤ j ∧ j ≤ b ∧ x = nI j := by
  rw [nI_toInt ha, nI_toInt hb] at h
  have h0 : ¬ x < 0 := fun q => by
    have := Int32.lt_iff_toInt_lt.mp q
    have h9 : (0 : Int32).toInt = 0 := by decide
    omega
  obtain ⟨j, hj, rfl⟩ := nI_of h0
  rw [nI_toInt hj] at h
  exact ⟨j, by omega, by omega, rfl⟩
theorem kT_nin {x : Int32} {a b : Nat} (ha : a < 2 ^ 31) (hb : b < 2 ^ 31) (h : ¬ ((nI a).toInt ≤ x.toInt ∧ x.toInt ≤ (nI b).toInt)) : ∀ j : Nat, a ≤ j → j ≤ b → x ≠ nI j := by
  intro j h1 h2 e
  rw [e, nI_toInt ha, nI_toInt hb, nI_toInt (by omega)] at h
  omega
theorem ki_lt {a b : Int32} : a < b ↔ a.toInt < b.toInt := Int32.lt_iff_toInt_lt
theorem ki_le {a b : Int32} : a ≤ b ↔ a.toInt ≤ b.toInt := Int32.le_iff_toInt_le
theorem kup_id {α : Type} (f : Nat → α) (k : Nat) : va_up f k (f k) = f := by
  funext j
  simp only [va_up]
  split
  · rename_i h; rw [h]
  · rfl
theorem kRUNS_at : ∀ r, r ≤ 10 → kRUNS.getD r 0 = nI (isq (100 - r * r)) := by decide +kernel
theorem kmax_sub {a b : Nat} (ha : a < 2 ^ 30) (hb : b < 2 ^ 30) : (if nI 0 < nI a - nI b then nI a - nI b else nI 0) = nI (a - b) := by
  rcases Nat.lt_or_ge a b with q | q
  · have h1 : ¬ nI 0 < nI a - nI b := fun z => by
      have h2 := pk_sneg hb q
      rw [ki_lt] at z h2
      have h3 : (0 : Int32).toInt = 0 := by decide
      have h4 : (nI 0).toInt = 0 := by decide
      omega
    rw [if_neg h1, show a - b = 0 by omega]
  · rw [pk_sub q]
    split
    · rfl
    · rename_i h
      have h1 : ¬ 0 < a - b := fun z => h ((nI_ltI (by decide) (by omega)).mpr z)
      rw [show a - b = 0 by omega]
theorem kmin_nI {a b : Nat} (ha : a < 2 ^ 31) (hb : b < 2 ^ 31) : (if nI b < nI a then nI b else nI a) = nI (min a b) := by
  split
  · rename_i h
    have := (nI_ltI hb ha).mp h
    rw [Nat.min_eq_right (by omega)]
  · rename_i h
    have : ¬ b < a := fun z => h ((nI_ltI hb ha).mpr z)
    rw [Nat.min_eq_left (by omega)]

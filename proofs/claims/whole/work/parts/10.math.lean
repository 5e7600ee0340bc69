/-! MATH: the ROOT, the RISE, sums of RISES and RUNS, HANG and LIFT, over natural numbers -/
def isq : Nat → Nat
  | 0 => 0
  | n + 1 => if (isq n + 1) * (isq n + 1) ≤ n + 1 then isq n + 1 else isq n
theorem sq_1 (r : Nat) : (r + 1) * (r + 1) = r * r + 2 * r + 1 := by rw [Nat.add_mul, Nat.mul_add]; omega
theorem sq_mono {a b : Nat} (h : a ≤ b) : a * a ≤ b * b := Nat.mul_le_mul h h
theorem isq_both : ∀ n : Nat, isq n * isq n ≤ n ∧ n < (isq n + 1) * (isq n + 1)
  | 0 => by decide
  | n + 1 => by
    obtain ⟨h1, h2⟩ := isq_both n
    have e := sq_1 (isq n)
    have e2 := sq_1 (isq n + 1)
    rw [isq]
    split
    · exact ⟨by assumption, by omega⟩
    · exact ⟨by omega, by omega⟩
theorem isq_le (n : Nat) : isq n * isq n ≤ n := (isq_both n).1
theorem isq_lt (n : Nat) : n < (isq n + 1) * (isq n + 1) := (isq_both n).2
theorem isq_ge {n r : Nat} (h : r * r ≤ n) : r ≤ isq n := by
  rcases Nat.lt_or_ge (isq n) r with q | q
  · have := sq_mono (show isq n + 1 ≤ r by omega)
    have := isq_lt n
    omega
  · exact q
theorem isq_up {n r : Nat} (h : n < (r + 1) * (r + 1)) : isq n ≤ r := by
  rcases Nat.lt_or_ge r (isq n) with q | q
  · have := sq_mono (show r + 1 ≤ isq n by omega)
    have := isq_le n
    omega
  · exact q
theorem isq_eq {n r : Nat} (h1 : r * r ≤ n) (h2 : n < (r + 1) * (r + 1)) : isq n = r := Nat.le_antisymm (isq_up h2) (isq_ge h1)
theorem isq_mono {a b : Nat} (h : a ≤ b) : isq a ≤ isq b := isq_ge (Nat.le_trans (isq_le a) h)
/-- one farther down: the ROOT grows by one at most -/
theorem isq_step {h v : Nat} : isq (h * h + (v + 1) * (v + 1)) ≤ isq (h * h + v * v) + 1 := by
  apply isq_up
  have h1 := isq_lt (h * h + v * v)
  have h2 : v ≤ isq (h * h + v * v) := isq_ge (Nat.le_add_left _ _)
  have e1 := sq_1 v
  have e2 := sq_1 (isq (h * h + v * v) + 1)
  omega
theorem isq_steps {h v : Nat} : ∀ k : Nat, isq (h * h + (v + k) * (v + k)) ≤ isq (h * h + v * v) + k
  | 0 => Nat.le_refl _
  | k + 1 => by
    have h1 := isq_steps (h := h) (v := v) k
    have h2 := isq_step (h := h) (v := v + k)
    have e : v + k + 1 = v + (k + 1) := by omega
    rw [e] at h2
    omega
def rz (h v : Nat) : Nat := 10 * v / isq (h * h + v * v)
theorem isq_v (h v : Nat) : v ≤ isq (h * h + v * v) := isq_ge (Nat.le_add_left _ _)
theorem rz_le (h v : Nat) : rz h v ≤ 10 := by
  unfold rz
  apply Nat.div_le_of_le_mul
  have := isq_v h v
  omega
theorem rz_step (h v : Nat) : rz h v ≤ rz h (v + 1) := by
  have hr : 0 < isq (h * h + (v + 1) * (v + 1)) := by have := isq_v h (v + 1); omega
  have h10 := rz_le h v
  unfold rz at h10 ⊢
  rw [Nat.le_div_iff_mul_le hr]
  have h1 : 10 * v / isq (h * h + v * v) * isq (h * h + v * v) ≤ 10 * v := Nat.div_mul_le_self _ _
  have h2 := Nat.mul_le_mul_left (10 * v / isq (h * h + v * v)) (isq_step (h := h) (v := v))
  generalize 10 * v / isq (h * h + v * v) = q at h10 h1 h2 ⊢
  generalize isq (h * h + v * v) = r at h1 h2
  generalize isq (h * h + (v + 1) * (v + 1)) = r' at h2 ⊢
  have h3 : q * (r + 1) = q * r + q := by rw [Nat.mul_add, Nat.mul_one]
  omega
theorem rz_mono (h : Nat) {v v' : Nat} (q : v ≤ v') : rz h v ≤ rz h v' := by
  obtain ⟨k, rfl⟩ := Nat.le.dest q
  clear q
  induction k with
  | zero => exact Nat.le_refl _
  | succ k ih => exact Nat.le_trans ih (rz_step h (v + k))
def sR (h w u : Nat) : Nat → Nat
  | 0 => 0
  | n + 1 => sR h w u n + rz h (u + w * (n + 1))
def sX (h w u : Nat) : Nat → Nat
  | 0 => 0
  | n + 1 => sX h w u n + isq (100 - rz h (u + w * (n + 1)) * rz h (u + w * (n + 1)))
theorem sR_le (h w u : Nat) : ∀ n, sR h w u n ≤ 10 * n
  | 0 => Nat.le_refl _
  | n + 1 => by
    have h1 := sR_le h w u n
    have h2 := rz_le h (u + w * (n + 1))
    rw [sR]
    omega
theorem sX_le (h w u : Nat) : ∀ n, sX h w u n ≤ 10 * n
  | 0 => Nat.le_refl _
  | n + 1 => by
    have h1 := sX_le h w u n
    have h2 : isq (100 - rz h (u + w * (n + 1)) * rz h (u + w * (n + 1))) ≤ 10 := isq_up (by omega)
    rw [sX]
    omega
theorem sR_n (h w u : Nat) {a b : Nat} (q : a ≤ b) : sR h w u a ≤ sR h w u b := by
  obtain ⟨k, rfl⟩ := Nat.le.dest q
  clear q
  induction k with
  | zero => exact Nat.le_refl _
  | succ k ih => rw [← Nat.add_assoc, sR]; omega
theorem sR_u (h w : Nat) {u v : Nat} (q : u ≤ v) : ∀ n, sR h w u n ≤ sR h w v n
  | 0 => Nat.le_refl _
  | n + 1 => by
    have h1 := sR_u h w q n
    have h2 := rz_mono h (show u + w * (n + 1) ≤ v + w * (n + 1) by omega)
    rw [sR, sR]
    omega
theorem sR_shift (h u : Nat) {w : Nat} (hw : 1 ≤ w) : ∀ n, sR h w (u + 1) n + rz h (u + w) ≤ sR h w u (n + 1)
  | 0 => by rw [sR, sR, sR, Nat.zero_add, Nat.mul_one]; omega
  | n + 1 => by
    have h1 := sR_shift h u hw n
    have e : w * (n + 1 + 1) = w * (n + 1) + w := by rw [Nat.mul_add, Nat.mul_one]
    have h2 := rz_mono h (show u + 1 + w * (n + 1) ≤ u + w * (n + 1 + 1) by omega)
    rw [sR, sR]
    omega
/-- the first place below n where p is so, else n -/
def ff (p : Nat → Bool) : Nat → Nat
  | 0 => 0
  | n + 1 => if ff p n < n then ff p n else if p n then n else n + 1
theorem ff_all (p : Nat → Bool) : ∀ n, ff p n ≤ n ∧ (∀ k, k < ff p n → p k = false) ∧ (ff p n < n → p (ff p n) = true)
  | 0 => ⟨Nat.le_refl _, fun k h => absurd h (Nat.not_lt_zero k), fun h => absurd h (Nat.not_lt_zero _)⟩
  | n + 1 => by
    obtain ⟨h1, h2, h3⟩ := ff_all p n
    rw [ff]
    by_cases q : ff p n < n
    · rw [if_pos q]
      exact ⟨by omega, h2, fun _ => h3 q⟩
    · have e : ff p n = n := by omega
      rw [if_neg q]
      rw [e] at h2
      cases hp : p n with
      | true => exact ⟨by simp, fun k hk => h2 k (by simpa using hk), fun _ => by simpa using hp⟩
      | false =>
        refine ⟨by simp, fun k hk => ?_, fun h => absurd h (by simp)⟩
        have hk : k < n + 1 := by simpa using hk
        by_cases e2 : k = n
        · rw [e2]; exact hp
        · exact h2 k (by omega)
theorem ff_eq {p : Nat → Bool} {n k : Nat} (hk : k ≤ n) (h1 : ∀ j, j < k → p j = false) (h2 : k < n → p k = true) : ff p n = k := by
  obtain ⟨g1, g2, g3⟩ := ff_all p n
  rcases Nat.lt_trichotomy (ff p n) k with q | q | q
  · have a := h1 _ q
    have b := g3 (by omega)
    rw [a] at b
    cases b
  · exact q
  · have a := g2 _ q
    have b := h2 (by omega)
    rw [a] at b
    cases b
/-- HANG by a LIFT u, the LINKS at most -/
def hg (h w u d n : Nat) : Nat := ff (fun k => decide (d ≤ sR h w u k)) n
theorem hg_le (h w u d n : Nat) : hg h w u d n ≤ n := (ff_all _ n).1
theorem hg_no {h w u d n k : Nat} (q : k < hg h w u d n) : sR h w u k < d := by
  have := (ff_all (fun k => decide (d ≤ sR h w u k)) n).2.1 k q
  simpa using this
theorem hg_yes {h w u d n : Nat} (q : hg h w u d n < n) : d ≤ sR h w u (hg h w u d n) := by
  have := (ff_all (fun k => decide (d ≤ sR h w u k)) n).2.2 q
  simpa [hg] using this
theorem hg_eq {h w u d n k : Nat} (hk : k ≤ n) (h1 : ∀ j, j < k → sR h w u j < d) (h2 : k < n → d ≤ sR h w u k) : hg h w u d n = k :=
  ff_eq hk (fun j hj => by have := h1 j hj; simpa using this) (fun q => by have := h2 q; simpa using this)
theorem hg_iff (h w u d n : Nat) : d ≤ sR h w u (hg h w u d n) ↔ d ≤ sR h w u n := by
  constructor
  · intro q
    exact Nat.le_trans q (sR_n h w u (hg_le h w u d n))
  · intro q
    by_cases e : hg h w u d n < n
    · exact hg_yes e
    · rw [show hg h w u d n = n by have := hg_le h w u d n; omega]
      exact q
/-- the least LIFT, 1 to 1000 (1000: there is none) -/
def lf (h w d n : Nat) : Nat := 1 + ff (fun u => decide (d ≤ sR h w (u + 1) n)) 999
theorem lf_in (h w d n : Nat) : 1 ≤ lf h w d n ∧ lf h w d n ≤ 1000 := by
  have := (ff_all (fun u => decide (d ≤ sR h w (u + 1) n)) 999).1
  unfold lf
  omega
theorem lf_no {h w d n u : Nat} (h0 : sR h w 0 n < d) (q : u < lf h w d n) : sR h w u n < d := by
  cases u with
  | zero => exact h0
  | succ u =>
    have := (ff_all (fun u => decide (d ≤ sR h w (u + 1) n)) 999).2.1 u (by unfold lf at q; omega)
    simpa using this
theorem lf_yes {h w d n : Nat} (q : lf h w d n < 1000) : d ≤ sR h w (lf h w d n) n := by
  have := (ff_all (fun u => decide (d ≤ sR h w (u + 1) n)) 999).2.2 (by unfold lf at q; omega)
  have h2 : d ≤ sR h w (ff (fun u => decide (d ≤ sR h w (u + 1) n)) 999 + 1) n := by simpa using this
  unfold lf
  rwa [Nat.add_comm]
theorem lf_eq {h w d n t : Nat} (ht : t ≤ 999) (h1 : sR h w t n < d) (h2 : t < 999 → d ≤ sR h w (t + 1) n) : lf h w d n = t + 1 := by
  unfold lf
  rw [ff_eq ht (fun j hj => ?_) (fun q => ?_)]
  · omega
  · have := sR_u h w (show j + 1 ≤ t by omega) n
    simp
    omega
  · have := h2 q
    simpa using this
theorem lf_le {h w d n u : Nat} (h0 : sR h w 0 n < d) : u ≤ 999 → (d ≤ sR h w u n ↔ lf h w d n ≤ u) := by
  intro hu
  constructor
  · intro q
    rcases Nat.lt_or_ge u (lf h w d n) with z | z
    · have := lf_no h0 z
      omega
    · exact z
  · intro q
    exact Nat.le_trans (lf_yes (by omega)) (sR_u h w q n)
/-- how a chain lies: reached without LIFT, TAUT, LIFT, GROUND, REACH, HOLDING -/
def zOk (h w d n : Nat) : Bool := decide (d ≤ sR h w 0 n)
def zTaut (h w d n : Nat) : Bool := !zOk h w d n && decide (lf h w d n = 1000)
def zLift (h w d n : Nat) : Nat := if zOk h w d n then 0 else min (lf h w d n) 999
def zGround (h w d n : Nat) : Nat := n - hg h w 0 d n
def zReach (h w d n : Nat) : Nat := if zOk h w d n then 10 * (n - hg h w 0 d n) + sX h w 0 (hg h w 0 d n) else if lf h w d n = 1000 then 0 else sX h w (lf h w d n) n
def zHold (h w d n g : Nat) : Nat := if zTaut h w d n then 0 else g - 3 * zLift h w d n
def zHolds (h w d n g : Nat) : Bool := decide (h ≤ zHold h w d n g)
theorem zReach_le (h w d n : Nat) : zReach h w d n ≤ 20 * n := by
  unfold zReach
  have h1 := hg_le h w 0 d n
  have h2 := sX_le h w 0 (hg h w 0 d n)
  have h3 := sX_le h w (lf h w d n) n
  split
  · omega
  · split <;> omega
/-- HOLDS by one climb, at the greatest LIFT that the GRIP can spare -/
theorem zHolds_one {h w d n g : Nat} (hg9 : g ≤ 999) (hh : h ≤ g) : zHolds h w d n g = (decide (h = 0) || decide (d ≤ sR h w ((g - h) / 3) (hg h w ((g - h) / 3) d n))) := by
  have key : h ≤ zHold h w d n g ↔ h = 0 ∨ d ≤ sR h w ((g - h) / 3) n := by
    unfold zHold zTaut zLift zOk
    by_cases h0 : d ≤ sR h w 0 n
    · have := sR_u h w (Nat.zero_le ((g - h) / 3)) n
      simp [h0]
      omega
    · have hlt : sR h w 0 n < d := by omega
      have hi := lf_in h w d n
      rw [lf_le hlt (show (g - h) / 3 ≤ 999 by omega)]
      by_cases ht : lf h w d n = 1000
      · simp [h0, ht]
        omega
      · simp [h0, ht]
        omega
  unfold zHolds
  rw [Bool.eq_iff_iff]
  simp only [Bool.or_eq_true, decide_eq_true_eq, hg_iff]
  exact key
theorem zHolds_no {h w d n g : Nat} (hh : g < h) : zHolds h w d n g = false := by
  unfold zHolds zHold
  simp
  split <;> omega
theorem zHolds_0 {w d n g : Nat} : zHolds 0 w d n g = true := by simp [zHolds]
/-- the greatest LIFT that is too little, and what follows of it -/
theorem zLie_lift {h w d n t : Nat} (hw : 1 ≤ w) (ht : t ≤ 999) (h1 : sR h w t n < d) (h2 : t < 999 → d ≤ sR h w (t + 1) n) :
    zOk h w d n = false ∧ lf h w d n = t + 1 ∧ hg h w 0 d n = n ∧ (t < 999 → hg h w (t + 1) d n = n) := by
  have h0 : sR h w 0 n < d := Nat.lt_of_le_of_lt (sR_u h w (Nat.zero_le t) n) h1
  refine ⟨by unfold zOk; simp; omega, lf_eq ht h1 h2, ?_, fun q => ?_⟩
  · exact hg_eq (Nat.le_refl _) (fun j hj => Nat.lt_of_le_of_lt (sR_n h w 0 (by omega)) h0) (fun z => absurd z (by omega))
  · refine hg_eq (Nat.le_refl _) (fun j hj => ?_) (fun z => absurd z (by omega))
    have a := sR_shift h t hw j
    have b := sR_n h w t (show j + 1 ≤ n by omega)
    omega
/-- few LINKS can't rise enough -/
theorem zFew {h w d n u : Nat} (q : 10 * n < d) : sR h w u n < d := Nat.lt_of_le_of_lt (sR_le h w u n) q

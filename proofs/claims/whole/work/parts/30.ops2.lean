/-! THE CALLS: their numbers told, or not -/
theorem sLinks_bad {s a n : Int32} {N : Nat → Nat} {P : Nat → Nat → Nat} {np : Nat} {T : Nat → Nat} {nt : Nat} (h : ¬ (okS N s ∧ inI a 0 1 ∧ inI n 1 60)) : sLinks s a n (N, P, np, T, nt) = (-1, N, P, np, T, nt) := if_neg h
theorem sLinks_ok {i w k : Nat} {N : Nat → Nat} {P : Nat → Nat → Nat} {np : Nat} {T : Nat → Nat} {nt : Nat} (hi : okS N (nI i)) (ci : (nI i).toNatClampNeg = i) (hw : 0 ≤ w) (kw : w ≤ 1) (hk : 1 ≤ k) (kk : k ≤ 60) : sLinks (nI i) (nI w) (nI k) (N, P, np, T, nt) = gLinks i w k (N, P, np, T, nt) := by
  unfold sLinks
  rw [if_pos ⟨hi, inI_nI hw kw (by decide), inI_nI hk kk (by decide)⟩, ci, nI_clamp (show w < 2 ^ 31 by omega), nI_clamp (show k < 2 ^ 31 by omega)]
theorem sWeigh_bad {s : Int32} {N : Nat → Nat} {P : Nat → Nat → Nat} {np : Nat} {T : Nat → Nat} {nt : Nat} (h : ¬ (okS N s)) : sWeigh s (N, P, np, T, nt) = (-1, N, P, np, T, nt) := if_neg h
theorem sWeigh_ok {i : Nat} {N : Nat → Nat} {P : Nat → Nat → Nat} {np : Nat} {T : Nat → Nat} {nt : Nat} (hi : okS N (nI i)) (ci : (nI i).toNatClampNeg = i) : sWeigh (nI i) (N, P, np, T, nt) = gWeigh i (N, P, np, T, nt) := by
  unfold sWeigh
  rw [if_pos hi, ci]
theorem sHours_bad {n b d : Int32} {N : Nat → Nat} {P : Nat → Nat → Nat} {np : Nat} {T : Nat → Nat} {nt : Nat} (h : ¬ (inI n 1 24 ∧ inI b 0 20 ∧ inI d 0 3)) : sHours n b d (N, P, np, T, nt) = (-1, N, P, np, T, nt) := if_neg h
theorem sHours_ok {k w j : Nat} {N : Nat → Nat} {P : Nat → Nat → Nat} {np : Nat} {T : Nat → Nat} {nt : Nat} (hk : 1 ≤ k) (kk : k ≤ 24) (hw : 0 ≤ w) (kw : w ≤ 20) (hj : 0 ≤ j) (kj : j ≤ 3) : sHours (nI k) (nI w) (nI j) (N, P, np, T, nt) = gHours k w j (N, P, np, T, nt) := by
  unfold sHours
  rw [if_pos ⟨inI_nI hk kk (by decide), inI_nI hw kw (by decide), inI_nI hj kj (by decide)⟩, nI_clamp (show k < 2 ^ 31 by omega), nI_clamp (show w < 2 ^ 31 by omega), nI_clamp (show j < 2 ^ 31 by omega)]
theorem sAnchor_bad {s a x : Int32} {N : Nat → Nat} {P : Nat → Nat → Nat} {np : Nat} {T : Nat → Nat} {nt : Nat} (h : ¬ (okS N s ∧ inI a 0 1 ∧ inI x 0 2)) : sAnchor s a x (N, P, np, T, nt) = (-1, N, P, np, T, nt) := by unfold sAnchor; rw [if_neg h]
theorem sAnchor_ok {i w k : Nat} {N : Nat → Nat} {P : Nat → Nat → Nat} {np : Nat} {T : Nat → Nat} {nt : Nat} (hi : okS N (nI i)) (ci : (nI i).toNatClampNeg = i) (hw : 0 ≤ w) (kw : w ≤ 1) (hk : 0 ≤ k) (kk : k ≤ 2) : sAnchor (nI i) (nI w) (nI k) (N, P, np, T, nt) = (gAnchor N i w k, N, P, np, T, nt) := by
  unfold sAnchor
  rw [if_pos ⟨hi, inI_nI hw kw (by decide), inI_nI hk kk (by decide)⟩, ci, nI_clamp (show w < 2 ^ 31 by omega), nI_clamp (show k < 2 ^ 31 by omega)]
theorem sHangs_bad {s a u x : Int32} {N : Nat → Nat} {P : Nat → Nat → Nat} {np : Nat} {T : Nat → Nat} {nt : Nat} (h : ¬ (okS N s ∧ inI a 0 1 ∧ inI u 0 9999 ∧ inI x 0 5)) : sHangs s a u x (N, P, np, T, nt) = (-1, N, P, np, T, nt) := by unfold sHangs; rw [if_neg h]
theorem sHangs_ok {i w j k : Nat} {N : Nat → Nat} {P : Nat → Nat → Nat} {np : Nat} {T : Nat → Nat} {nt : Nat} (hi : okS N (nI i)) (ci : (nI i).toNatClampNeg = i) (hw : 0 ≤ w) (kw : w ≤ 1) (hj : 0 ≤ j) (kj : j ≤ 9999) (hk : 0 ≤ k) (kk : k ≤ 5) : sHangs (nI i) (nI w) (nI j) (nI k) (N, P, np, T, nt) = (gHangs N i w j k, N, P, np, T, nt) := by
  unfold sHangs
  rw [if_pos ⟨hi, inI_nI hw kw (by decide), inI_nI hj kj (by decide), inI_nI hk kk (by decide)⟩, ci, nI_clamp (show w < 2 ^ 31 by omega), nI_clamp (show j < 2 ^ 31 by omega), nI_clamp (show k < 2 ^ 31 by omega)]
theorem sWind_bad {s b x : Int32} {N : Nat → Nat} {P : Nat → Nat → Nat} {np : Nat} {T : Nat → Nat} {nt : Nat} (h : ¬ (okS N s ∧ inI b 0 20 ∧ inI x 0 2)) : sWind s b x (N, P, np, T, nt) = (-1, N, P, np, T, nt) := by unfold sWind; rw [if_neg h]
theorem sWind_ok {i w k : Nat} {N : Nat → Nat} {P : Nat → Nat → Nat} {np : Nat} {T : Nat → Nat} {nt : Nat} (hi : okS N (nI i)) (ci : (nI i).toNatClampNeg = i) (hw : 0 ≤ w) (kw : w ≤ 20) (hk : 0 ≤ k) (kk : k ≤ 2) : sWind (nI i) (nI w) (nI k) (N, P, np, T, nt) = (gWind N i w k, N, P, np, T, nt) := by
  unfold sWind
  rw [if_pos ⟨hi, inI_nI hw kw (by decide), inI_nI hk kk (by decide)⟩, ci, nI_clamp (show w < 2 ^ 31 by omega), nI_clamp (show k < 2 ^ 31 by omega)]
theorem sFewest_bad {s b : Int32} {N : Nat → Nat} {P : Nat → Nat → Nat} {np : Nat} {T : Nat → Nat} {nt : Nat} (h : ¬ (okS N s ∧ inI b 0 20)) : sFewest s b (N, P, np, T, nt) = (-1, N, P, np, T, nt) := by unfold sFewest; rw [if_neg h]
theorem sFewest_ok {i w : Nat} {N : Nat → Nat} {P : Nat → Nat → Nat} {np : Nat} {T : Nat → Nat} {nt : Nat} (hi : okS N (nI i)) (ci : (nI i).toNatClampNeg = i) (hw : 0 ≤ w) (kw : w ≤ 20) : sFewest (nI i) (nI w) (N, P, np, T, nt) = (gFewest N i w, N, P, np, T, nt) := by
  unfold sFewest
  rw [if_pos ⟨hi, inI_nI hw kw (by decide)⟩, ci, nI_clamp (show w < 2 ^ 31 by omega)]
theorem sTooMuch_bad {s : Int32} {N : Nat → Nat} {P : Nat → Nat → Nat} {np : Nat} {T : Nat → Nat} {nt : Nat} (h : ¬ (okS N s)) : sTooMuch s (N, P, np, T, nt) = (-1, N, P, np, T, nt) := by unfold sTooMuch; rw [if_neg h]
theorem sTooMuch_ok {i : Nat} {N : Nat → Nat} {P : Nat → Nat → Nat} {np : Nat} {T : Nat → Nat} {nt : Nat} (hi : okS N (nI i)) (ci : (nI i).toNatClampNeg = i) : sTooMuch (nI i) (N, P, np, T, nt) = (gTooMuch N i, N, P, np, T, nt) := by
  unfold sTooMuch
  rw [if_pos hi, ci]
theorem sClose_bad {s b : Int32} {N : Nat → Nat} {P : Nat → Nat → Nat} {np : Nat} {T : Nat → Nat} {nt : Nat} (h : ¬ (okS N s ∧ inI b 0 20)) : sClose s b (N, P, np, T, nt) = (-1, N, P, np, T, nt) := by unfold sClose; rw [if_neg h]
theorem sClose_ok {i w : Nat} {N : Nat → Nat} {P : Nat → Nat → Nat} {np : Nat} {T : Nat → Nat} {nt : Nat} (hi : okS N (nI i)) (ci : (nI i).toNatClampNeg = i) (hw : 0 ≤ w) (kw : w ≤ 20) : sClose (nI i) (nI w) (N, P, np, T, nt) = (gClose N i w, N, P, np, T, nt) := by
  unfold sClose
  rw [if_pos ⟨hi, inI_nI hw kw (by decide)⟩, ci, nI_clamp (show w < 2 ^ 31 by omega)]
theorem sAll_bad {b x : Int32} {N : Nat → Nat} {P : Nat → Nat → Nat} {np : Nat} {T : Nat → Nat} {nt : Nat} (h : ¬ (inI b 0 20 ∧ inI x 0 1)) : sAll b x (N, P, np, T, nt) = (-1, N, P, np, T, nt) := by unfold sAll; rw [if_neg h]
theorem sAll_ok {w k : Nat} {N : Nat → Nat} {P : Nat → Nat → Nat} {np : Nat} {T : Nat → Nat} {nt : Nat} (hw : 0 ≤ w) (kw : w ≤ 20) (hk : 0 ≤ k) (kk : k ≤ 1) : sAll (nI w) (nI k) (N, P, np, T, nt) = (gAll N w k, N, P, np, T, nt) := by
  unfold sAll
  rw [if_pos ⟨inI_nI hw kw (by decide), inI_nI hk kk (by decide)⟩, nI_clamp (show w < 2 ^ 31 by omega), nI_clamp (show k < 2 ^ 31 by omega)]
theorem sApart_bad {s t b : Int32} {N : Nat → Nat} {P : Nat → Nat → Nat} {np : Nat} {T : Nat → Nat} {nt : Nat} (h : ¬ (okS N s ∧ okS N t ∧ s ≠ t ∧ inI b 0 20)) : sApart s t b (N, P, np, T, nt) = (-1, N, P, np, T, nt) := by unfold sApart; rw [if_neg h]
theorem sApart_ok {i t w : Nat} {N : Nat → Nat} {P : Nat → Nat → Nat} {np : Nat} {T : Nat → Nat} {nt : Nat} (hi : okS N (nI i)) (ci : (nI i).toNatClampNeg = i) (ht : okS N (nI t)) (ct : (nI t).toNatClampNeg = t) (hne : nI i ≠ nI t) (hw : 0 ≤ w) (kw : w ≤ 20) : sApart (nI i) (nI t) (nI w) (N, P, np, T, nt) = (gApart N i t w, N, P, np, T, nt) := by
  unfold sApart
  rw [if_pos ⟨hi, ht, hne, inI_nI hw kw (by decide)⟩, ci, ct, nI_clamp (show w < 2 ^ 31 by omega)]
theorem sMoor_bad {s x y n : Int32} {N : Nat → Nat} {P : Nat → Nat → Nat} {np : Nat} {T : Nat → Nat} {nt : Nat} (h : ¬ (okS N s ∧ (0 ≤ x.toInt ∧ x.toInt < (N 0 : Int) ∧ 0 ≤ y.toInt ∧ y.toInt < 20) ∧ inI n 1 60)) : sMoor s x y n (N, P, np, T, nt) = (-1, N, P, np, T, nt) := if_neg h
theorem sMoor_ok {i x y k : Nat} {N : Nat → Nat} {P : Nat → Nat → Nat} {np : Nat} {T : Nat → Nat} {nt : Nat} (hi : okS N (nI i)) (ci : (nI i).toNatClampNeg = i) (hx : x < N 0) (h0 : N 0 ≤ 20) (hy : y < 20) (hk : 1 ≤ k) (kk : k ≤ 60) : sMoor (nI i) (nI x) (nI y) (nI k) (N, P, np, T, nt) = gMoor i x y k (N, P, np, T, nt) := by
  unfold sMoor
  rw [if_pos ⟨hi, ⟨by rw [nI_toInt (by omega)]; omega, by rw [nI_toInt (by omega)]; show (x : Int) < (N 0 : Int); omega, by rw [nI_toInt (by omega)]; omega, by rw [nI_toInt (by omega)]; omega⟩, inI_nI hk kk (by decide)⟩, ci, nI_clamp (show x < 2 ^ 31 by omega), nI_clamp (show y < 2 ^ 31 by omega), nI_clamp (show k < 2 ^ 31 by omega)]
theorem sShip_bad {s x : Int32} {N : Nat → Nat} {P : Nat → Nat → Nat} {np : Nat} {T : Nat → Nat} {nt : Nat} (h : ¬ (okS N s ∧ inI x 0 5)) : sShip s x (N, P, np, T, nt) = (-1, N, P, np, T, nt) := by unfold sShip; rw [if_neg h]
theorem sShip_ok {i k : Nat} {N : Nat → Nat} {P : Nat → Nat → Nat} {np : Nat} {T : Nat → Nat} {nt : Nat} (hi : okS N (nI i)) (ci : (nI i).toNatClampNeg = i) (hk : k ≤ 5) : sShip (nI i) (nI k) (N, P, np, T, nt) = (nI (N (23 + 13 * i + (3 + k))), N, P, np, T, nt) := by
  unfold sShip
  rw [if_pos ⟨hi, inI_nI (Nat.zero_le _) hk (by decide)⟩, ci, nI_clamp (show k < 2 ^ 31 by omega)]
theorem sCount_bad {x : Int32} {N : Nat → Nat} {P : Nat → Nat → Nat} {np : Nat} {T : Nat → Nat} {nt : Nat} (h : ¬ inI x 0 7) : sCount x (N, P, np, T, nt) = (-1, N, P, np, T, nt) := by unfold sCount; rw [if_neg h]
theorem sCount_ok {k : Nat} {N : Nat → Nat} {P : Nat → Nat → Nat} {np : Nat} {T : Nat → Nat} {nt : Nat} (hk : k ≤ 7) : sCount (nI k) (N, P, np, T, nt) = (gCount k (N, P, np, T, nt), N, P, np, T, nt) := by
  unfold sCount
  rw [if_pos (inI_nI (Nat.zero_le _) hk (by decide)), nI_clamp (show k < 2 ^ 31 by omega)]
theorem kx_of {x : Int32} {C : Nat} (h0 : 0 ≤ x.toInt) (h : x.toInt < (C : Int)) : ∃ j : Nat, j < C ∧ x = nI j := by
  have hn : ¬ x < 0 := fun z => by
    have := ki_lt.mp z
    have h3 : (0 : Int32).toInt = 0 := by decide
    omega
  obtain ⟨j, hj, rfl⟩ := nI_of hn
  rw [nI_toInt hj] at h
  exact ⟨j, by omega, rfl⟩
theorem out_inI {x : Int32} {b : Nat} (hb : b < 2 ^ 31) (h : x.toInt < 0 ∨ (b : Int) < x.toInt) : ¬ inI x 0 b := fun q => by
  unfold inI at q
  rw [nI_toInt (by decide), nI_toInt hb] at q
  omega

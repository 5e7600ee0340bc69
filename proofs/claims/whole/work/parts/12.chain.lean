/-! THE CHAIN: its leaves -/
set_option maxHeartbeats 4000000 in
set_option maxRecDepth 100000 in
theorem c_X7_within (l : Launch) (x a b : Int32) : kMs l yX7_within wsX7_within ({ frames := 0, cells := 0, slots := 0, locals := 0 }) [.int x, .int a, .int b] (fun r => kT r (a.toInt ≤ x.toInt ∧ x.toInt ≤ b.toInt)) := by
  refine k_entryS (cc := cX7_within) (maxL := 3) (ret := (some .boolean)) (by decide) rfl (Nat.le_of_ble_eq_true rfl) ?_
  intro p e s m below meth c hx hb hr hml hown hts hlk ls hl
  have hown : s.vm.findClass RX7 = some m.cls := hown
  have hl : lv_has ls 3 [(0, .int x), (1, .int a), (2, .int b)] := hl
  refine lv_iload_n hx hb dX7_within_0 rfl (lv_at hl 0 rfl) ?_
  refine lv_iload_n hx hb dX7_within_1 rfl (lv_at hl 1 rfl) ?_
  refine lv_icmp_lt (tgt := 14) hx hb dX7_within_2 (by decide) (fun c_2 => ?_) (fun c_2 => ?_)
  · refine lv_iconst (v := nI 0) hx hb dX7_within_14 (by decide) ?_
    exact k_zsret hx hb hr (by decide) hlk dX7_within_15 (by simp only [ki_lt] at *; first | exact kT_1 (by omega) | exact kT_0 (by omega))
  · refine lv_iload_n hx hb dX7_within_5 rfl (lv_at hl 0 rfl) ?_
    refine lv_iload_n hx hb dX7_within_6 rfl (lv_at hl 2 rfl) ?_
    refine lv_icmp_gt (tgt := 14) hx hb dX7_within_7 (by decide) (fun c_7 => ?_) (fun c_7 => ?_)
    · refine lv_iconst (v := nI 0) hx hb dX7_within_14 (by decide) ?_
      exact k_zsret hx hb hr (by decide) hlk dX7_within_15 (by simp only [ki_lt] at *; first | exact kT_1 (by omega) | exact kT_0 (by omega))
    · refine lv_iconst (v := nI 1) hx hb dX7_within_10 (by decide) ?_
      refine lv_goto (tgt := 15) hx hb dX7_within_11 (by decide) ?_
      exact k_zsret hx hb hr (by decide) hlk dX7_within_15 (by simp only [ki_lt] at *; first | exact kT_1 (by omega) | exact kT_0 (by omega))
set_option maxHeartbeats 4000000 in
set_option maxRecDepth 100000 in
theorem c_X7_isWind (l : Launch) (b : Int32) : kMs l yX7_isWind wsX7_isWind ({ frames := 1, cells := 0, slots := 0, locals := 22 }) [.int b] (fun r => kT r ((nI 0).toInt ≤ b.toInt ∧ b.toInt ≤ (nI 20).toInt)) := by
  refine k_entryS (cc := cX7_isWind) (maxL := 1) (ret := (some .boolean)) (by decide) rfl (Nat.le_of_ble_eq_true rfl) ?_
  intro p e s m below meth c hx hb hr hml hown hts hlk ls hl
  have hown : s.vm.findClass RX7 = some m.cls := hown
  have hl : lv_has ls 1 [(0, .int b)] := hl
  refine lv_iload_n hx hb dX7_isWind_0 rfl (lv_at hl 0 rfl) ?_
  refine lv_iconst (v := nI 0) hx hb dX7_isWind_1 (by decide) ?_
  refine lv_bipush (v := nI 20) hx hb dX7_isWind_2 (by decide) ?_
  refine k_calls (As := [.int b, .int (nI 0), .int (nI 20)]) (rest := []) ⟨hx, hb, hml, hown, hts⟩ (c_X7_within l b (nI 0) (nI 20)) (va_cwS 3 hts gX7_isWind_X7_within rfl rfl rfl (by decide +kernel) ⟨Nat.le_of_ble_eq_true rfl, Nat.le_of_ble_eq_true rfl⟩) rfl hl.1 rfl (lv_room (Nat.le_of_ble_eq_true rfl)) dX7_isWind_4 ⟨Nat.le_of_ble_eq_true rfl, Nat.le_of_ble_eq_true rfl⟩ (fun r_4 hp_4 => ?_)
  rcases hp_4 with ⟨rfl, hb_⟩ | ⟨rfl, hb_⟩
  · exact k_zsret hx hb hr (by decide) hlk dX7_isWind_7 (by first | exact kT_1 hb_ | exact kT_0 hb_)
  · exact k_zsret hx hb hr (by decide) hlk dX7_isWind_7 (by first | exact kT_1 hb_ | exact kT_0 hb_)
set_option maxHeartbeats 4000000 in
set_option maxRecDepth 100000 in
theorem c_X7_oneIf (l : Launch) (z : Int32) (hz : z = nI 0 ∨ z = nI 1) : kMs l yX7_oneIf wsX7_oneIf ({ frames := 0, cells := 0, slots := 0, locals := 0 }) [.int z] (fun r => r = z) := by
  refine k_entryS (cc := cX7_oneIf) (maxL := 1) (ret := (some .int)) (by decide) rfl (Nat.le_of_ble_eq_true rfl) ?_
  intro p e s m below meth c hx hb hr hml hown hts hlk ls hl
  have hown : s.vm.findClass RX7 = some m.cls := hown
  have hl : lv_has ls 1 [(0, .int z)] := hl
  refine lv_iload_n hx hb dX7_oneIf_0 rfl (lv_at hl 0 rfl) ?_
  refine lv_if_eq (tgt := 8) hx hb dX7_oneIf_1 (by decide) (fun c_1 => ?_) (fun c_1 => ?_)
  · have hz0 : nI 0 = z := c_1.symm
    refine lv_iconst (v := nI 0) hx hb dX7_oneIf_8 (by decide) ?_
    exact k_isret hx hb hr hlk dX7_oneIf_9 (hz0)
  · have hz0 : nI 1 = z := hz.elim (fun q => absurd q c_1) Eq.symm
    refine lv_iconst (v := nI 1) hx hb dX7_oneIf_4 (by decide) ?_
    refine lv_goto (tgt := 9) hx hb dX7_oneIf_5 (by decide) ?_
    exact k_isret hx hb hr hlk dX7_oneIf_9 (hz0)
set_option maxHeartbeats 4000000 in
set_option maxRecDepth 100000 in
theorem c_X2_root (l : Launch) (v : Nat) (hv : v < 16384 * 16384) : kMs l yX2_root wsX2_root ({ frames := 0, cells := 0, slots := 0, locals := 0 }) [.int (nI v)] (fun r => r = nI (isq v)) := by
  refine k_entryS (cc := cX2_root) (maxL := 4) (ret := (some .int)) (by decide) rfl (Nat.le_of_ble_eq_true rfl) ?_
  intro p e s m below meth c hx hb hr hml hown hts hlk ls hl
  have hown : s.vm.findClass RX2 = some m.cls := hown
  have hl : lv_has ls 4 [(0, .int (nI v))] := hl
  refine lv_iconst (v := nI 0) hx hb dX2_root_0 (by decide) ?_
  refine lv_istore_n (lv' := [(1, .int (nI 0)), (0, .int (nI v))]) hx hb dX2_root_1 rfl hl (by decide) rfl (fun ls hl => ?_)
  refine lv_sipush (v := nI 8192) hx hb dX2_root_2 (by decide) ?_
  refine lv_istore_n (lv' := [(2, .int (nI 8192)), (1, .int (nI 0)), (0, .int (nI v))]) hx hb dX2_root_5 rfl hl (by decide) rfl (fun ls hl => ?_)
  have LP_6 : ∀ (fuel : Nat) (j : Nat) (r : Nat), j < fuel → (j ≤ 14) → (r * r ≤ v) → (v < (r + 2 ^ j) * (r + 2 ^ j)) → ∀ ls : Array Slot, lv_has ls 4 [(0, .int (nI v)), (1, .int (nI r)), (2, .int (nI (2 ^ j / 2)))] → W p l e (headSpec wsX2_root ({ frames := 0, cells := 0, slots := 0, locals := 0 })).room s m [.int (nI v)].toArray below meth c s.heap [] 0 0 (MQ below (vp_Si (fun r => r = nI (isq v))) [.int (nI v)].toArray s 0 0 (fun _ => False)) (F0 m 6 ls []) := by
    intro fuel
    induction fuel with
    | zero => intro j r hf_; exact absurd hf_ (Nat.not_lt_zero _)
    | succ fuel ih =>
      intro j r hf_ hj hr1 hr2 ls hl
      have hpj : 2 ^ j ≤ 16384 := Nat.le_trans (Nat.pow_le_pow_right (by decide) hj) (by decide)
      have hr9 : r < 16384 := by
        rcases Nat.lt_or_ge r 16384 with q | q
        · exact q
        · have := sq_mono q
          omega
      refine lv_iload_n hx hb dX2_root_6 rfl (lv_at hl 2 rfl) ?_
      refine lv_if_le (tgt := 30) hx hb dX2_root_7 (by decide) (fun c_7 => ?_) (fun c_7 => ?_)
      · have c_7 : (2 ^ j / 2) ≤ 0 := (nI_leI (by omega) (by decide)).mp c_7
        have hj0 : j = 0 := by
          rcases Nat.eq_zero_or_pos j with q | q
          · exact q
          · have := Nat.pow_le_pow_right (show 0 < 2 by decide) q
            omega
        subst hj0
        refine lv_iload_n hx hb dX2_root_30 rfl (lv_at hl 1 rfl) ?_
        exact k_isret hx hb hr hlk dX2_root_31 (by rw [isq_eq hr1 (by simpa using hr2)])
      · have c_7 : ¬ ((2 ^ j / 2) ≤ 0) := fun q_ => c_7 ((nI_leI (by omega) (by decide)).mpr q_)
        obtain ⟨i, hi⟩ : ∃ i, j = i + 1 := ⟨j - 1, by
          rcases Nat.eq_zero_or_pos j with q | q
          · rw [q] at c_7; exact absurd (by decide) c_7
          · omega⟩
        have e2 : 2 ^ j / 2 = 2 ^ i := by rw [hi, Nat.pow_succ]; omega
        have e3 : r + 2 ^ j / 2 + 2 ^ i = r + 2 ^ j := by rw [hi, Nat.pow_succ]; omega
        have ht9 : (r + 2 ^ j / 2) * (r + 2 ^ j / 2) ≤ 24576 * 24576 := sq_mono (by omega)
        refine lv_iload_n hx hb dX2_root_10 rfl (lv_at hl 1 rfl) ?_
        refine lv_iload_n hx hb dX2_root_11 rfl (lv_at hl 2 rfl) ?_
        refine lv_iadd hx hb dX2_root_12 ?_
        rw [nI_add]
        refine lv_istore_n (lv' := [(3, .int (nI (r + (2 ^ j / 2)))), (0, .int (nI v)), (1, .int (nI r)), (2, .int (nI (2 ^ j / 2)))]) hx hb dX2_root_13 rfl hl (by decide) rfl (fun ls hl => ?_)
        refine lv_iload_n hx hb dX2_root_14 rfl (lv_at hl 0 rfl) ?_
        refine lv_iload_n hx hb dX2_root_15 rfl (lv_at hl 0 rfl) ?_
        refine lv_imul hx hb dX2_root_16 ?_
        rw [pk_mul]
        refine lv_iload_n hx hb dX2_root_17 rfl (lv_at hl 1 rfl) ?_
        refine lv_icmp_gt (tgt := 23) hx hb dX2_root_18 (by decide) (fun c_18 => ?_) (fun c_18 => ?_)
        · have c_18 : v < ((r + (2 ^ j / 2)) * (r + (2 ^ j / 2))) := (nI_ltI (by omega) (by omega)).mp c_18
          refine lv_iload_n hx hb dX2_root_23 rfl (lv_at hl 3 rfl) ?_
          refine lv_iconst (v := nI 1) hx hb dX2_root_24 (by decide) ?_
          refine lv_ishr hx hb dX2_root_25 ?_
          refine lv_topi (fun t_26 et_26 => ?_)
          have et_26 : t_26 = nI (2 ^ i / 2) := et_26.trans (by rw [← e2]; exact pk_shrN (by omega) _ 1 (by decide))
          subst et_26
          refine lv_istore_n (lv' := [(2, .int (nI (2 ^ i / 2))), (3, .int (nI (r + (2 ^ j / 2)))), (0, .int (nI v)), (1, .int (nI r))]) hx hb dX2_root_26 rfl hl (by decide) rfl (fun ls hl => ?_)
          refine lv_goto (tgt := 6) hx hb dX2_root_27 (by decide) ?_
          exact ih i _ (by omega) (by omega) (by first | assumption | omega) (by first | (rw [e3]; exact hr2) | (rw [← e2]; omega)) _ (lv_sub hl [2, 3, 0] rfl)
        · have c_18 : ¬ (v < ((r + (2 ^ j / 2)) * (r + (2 ^ j / 2)))) := fun q_ => c_18 ((nI_ltI (by omega) (by omega)).mpr q_)
          refine lv_iload_n hx hb dX2_root_21 rfl (lv_at hl 0 rfl) ?_
          refine lv_istore_n (lv' := [(1, .int (nI (r + (2 ^ j / 2)))), (3, .int (nI (r + (2 ^ j / 2)))), (0, .int (nI v)), (2, .int (nI (2 ^ j / 2)))]) hx hb dX2_root_22 rfl hl (by decide) rfl (fun ls hl => ?_)
          refine lv_iload_n hx hb dX2_root_23 rfl (lv_at hl 3 rfl) ?_
          refine lv_iconst (v := nI 1) hx hb dX2_root_24 (by decide) ?_
          refine lv_ishr hx hb dX2_root_25 ?_
          refine lv_topi (fun t_26 et_26 => ?_)
          have et_26 : t_26 = nI (2 ^ i / 2) := et_26.trans (by rw [← e2]; exact pk_shrN (by omega) _ 1 (by decide))
          subst et_26
          refine lv_istore_n (lv' := [(2, .int (nI (2 ^ i / 2))), (1, .int (nI (r + (2 ^ j / 2)))), (3, .int (nI (r + (2 ^ j / 2)))), (0, .int (nI v))]) hx hb dX2_root_26 rfl hl (by decide) rfl (fun ls hl => ?_)
          refine lv_goto (tgt := 6) hx hb dX2_root_27 (by decide) ?_
          exact ih i _ (by omega) (by omega) (by first | assumption | omega) (by first | (rw [e3]; exact hr2) | (rw [← e2]; omega)) _ (lv_sub hl [3, 1, 0] rfl)
  exact LP_6 _ 14 0 (Nat.lt_succ_self _) (Nat.le_refl _) (Nat.zero_le _) (by rw [Nat.zero_add]; exact hv) _ (lv_sub hl [2, 1, 0] rfl)
set_option maxHeartbeats 4000000 in
set_option maxRecDepth 100000 in
theorem c_X2_rootFrom (l : Launch) (a k v : Nat) (hv : v < 16384 * 16384) (hk : k ≤ 5) (ha : a ≤ isq v) (hak : isq v ≤ a + k) : kMs l yX2_rootFrom wsX2_rootFrom ({ frames := 0, cells := 0, slots := 0, locals := 0 }) [.int (nI a), .int (nI k), .int (nI v)] (fun r => r = nI (isq v)) := by
  have hq9 : isq v < 16384 := by
    rcases Nat.lt_or_ge (isq v) 16384 with q | q
    · exact q
    · have := sq_mono q
      have := isq_le v
      omega
  refine k_entryS (cc := cX2_rootFrom) (maxL := 5) (ret := (some .int)) (by decide) rfl (Nat.le_of_ble_eq_true rfl) ?_
  intro p e s m below meth c hx hb hr hml hown hts hlk ls hl
  have hown : s.vm.findClass RX2 = some m.cls := hown
  have hl : lv_has ls 5 [(0, .int (nI a)), (1, .int (nI k)), (2, .int (nI v))] := hl
  refine lv_iload_n hx hb dX2_rootFrom_0 rfl (lv_at hl 0 rfl) ?_
  refine lv_istore_n (lv' := [(3, .int (nI a)), (0, .int (nI a)), (1, .int (nI k)), (2, .int (nI v))]) hx hb dX2_rootFrom_1 rfl hl (by decide) rfl (fun ls hl => ?_)
  refine lv_iconst (v := nI 0) hx hb dX2_rootFrom_2 (by decide) ?_
  refine lv_istore (lv' := [(4, .int (nI 0)), (3, .int (nI a)), (0, .int (nI a)), (1, .int (nI k)), (2, .int (nI v))]) hx hb dX2_rootFrom_3 hl (by decide) rfl (fun ls hl => ?_)
  have LP_5 : ∀ (fuel : Nat) (i : Nat) (r : Nat), k - i < fuel → (i ≤ k) → (r = a + i) → (r ≤ isq v) → ∀ ls : Array Slot, lv_has ls 5 [(0, .int (nI a)), (1, .int (nI k)), (2, .int (nI v)), (3, .int (nI r)), (4, .int (nI i))] → W p l e (headSpec wsX2_rootFrom ({ frames := 0, cells := 0, slots := 0, locals := 0 })).room s m [.int (nI a), .int (nI k), .int (nI v)].toArray below meth c s.heap [] 0 0 (MQ below (vp_Si (fun r => r = nI (isq v))) [.int (nI a), .int (nI k), .int (nI v)].toArray s 0 0 (fun _ => False)) (F0 m 5 ls []) := by
    intro fuel
    induction fuel with
    | zero => intro i r hf_; exact absurd hf_ (Nat.not_lt_zero _)
    | succ fuel ih =>
      intro i r hf_ hi hra hr1 ls hl
      have ht9 : (r + 1) * (r + 1) ≤ 16384 * 16384 := sq_mono (by omega)
      refine lv_iload hx hb dX2_rootFrom_5 (lv_at hl 4 rfl) ?_
      refine lv_iload_n hx hb dX2_rootFrom_7 rfl (lv_at hl 1 rfl) ?_
      refine lv_icmp_ge (tgt := 31) hx hb dX2_rootFrom_8 (by decide) (fun c_8 => ?_) (fun c_8 => ?_)
      · have c_8 : k ≤ i := (nI_leI (by omega) (by omega)).mp c_8
        have hend : isq v = r := by omega
        refine lv_iload_n hx hb dX2_rootFrom_31 rfl (lv_at hl 3 rfl) ?_
        exact k_isret hx hb hr hlk dX2_rootFrom_32 (by rw [hend])
      · have c_8 : ¬ (k ≤ i) := fun q_ => c_8 ((nI_leI (by omega) (by omega)).mpr q_)
        refine lv_iload_n hx hb dX2_rootFrom_11 rfl (lv_at hl 3 rfl) ?_
        refine lv_iconst (v := nI 1) hx hb dX2_rootFrom_12 (by decide) ?_
        refine lv_iadd hx hb dX2_rootFrom_13 ?_
        rw [nI_add]
        refine lv_iload_n hx hb dX2_rootFrom_14 rfl (lv_at hl 3 rfl) ?_
        refine lv_iconst (v := nI 1) hx hb dX2_rootFrom_15 (by decide) ?_
        refine lv_iadd hx hb dX2_rootFrom_16 ?_
        rw [nI_add]
        refine lv_imul hx hb dX2_rootFrom_17 ?_
        rw [pk_mul]
        refine lv_iload_n hx hb dX2_rootFrom_18 rfl (lv_at hl 2 rfl) ?_
        refine lv_icmp_gt (tgt := 31) hx hb dX2_rootFrom_19 (by decide) (fun c_19 => ?_) (fun c_19 => ?_)
        · have c_19 : v < ((r + 1) * (r + 1)) := (nI_ltI (by omega) (by omega)).mp c_19
          have hend : isq v = r := Nat.le_antisymm (isq_up (by omega)) hr1
          refine lv_iload_n hx hb dX2_rootFrom_31 rfl (lv_at hl 3 rfl) ?_
          exact k_isret hx hb hr hlk dX2_rootFrom_32 (by rw [hend])
        · have c_19 : ¬ (v < ((r + 1) * (r + 1))) := fun q_ => c_19 ((nI_ltI (by omega) (by omega)).mpr q_)
          have c_19 : (r + 1) * (r + 1) ≤ v := by omega
          refine lv_iinc (v := nI (r + 1)) (lv' := [(3, .int (nI (r + 1))), (0, .int (nI a)), (1, .int (nI k)), (2, .int (nI v)), (4, .int (nI i))]) hx hb dX2_rootFrom_22 hl (k := 3) rfl (show nI r + Int32.ofInt 1 = nI (r + 1) from nI_add r 1) (by decide) rfl (fun ls hl => ?_)
          refine lv_iinc (v := nI (i + 1)) (lv' := [(4, .int (nI (i + 1))), (3, .int (nI (r + 1))), (0, .int (nI a)), (1, .int (nI k)), (2, .int (nI v))]) hx hb dX2_rootFrom_25 hl (k := 4) rfl (show nI i + Int32.ofInt 1 = nI (i + 1) from nI_add i 1) (by decide) rfl (fun ls hl => ?_)
          refine lv_goto (tgt := 5) hx hb dX2_rootFrom_28 (by decide) ?_
          exact ih (i + 1) (r + 1) (by omega) (by omega) (by omega) (isq_ge c_19) _ (lv_sub hl [2, 3, 4, 1, 0] rfl)
  exact LP_5 _ 0 a (Nat.lt_succ_self _) (Nat.zero_le _) (rfl) (ha) _ (lv_sub hl [2, 3, 4, 1, 0] rfl)
set_option maxHeartbeats 4000000 in
set_option maxRecDepth 100000 in
theorem c_X2_take (cy : Nat → ClassId) (D : va_G) (ad : Nat → Nat) (l : Launch) (σ : Nat → Nat → Int32) (a b x d : Int32) : kMv 38 ad (kcC cy ad) cy D l yX2_take wsX2_take ({ frames := 0, cells := 0, slots := 0, locals := 0 }) [.ref (ad 14), .int a, .int b, .int x, .int d] σ (fun σ' => σ' = va_up σ 14 (upd (upd (upd (upd (σ 14) 5 a) 6 b) 7 x) 8 d)) := by
  refine k_entry (cc := cX2_take) (maxL := 5) (ret := none) (by decide) rfl (Nat.le_of_ble_eq_true rfl) ?_
  intro p e s m below meth c hx hb hr hml hown hts hlk E I ls hl
  have hA : ∀ q, s.heap.size ≤ q → kA 38 ad s.heap.size q := fun q h => Or.inr h
  have hown : s.vm.findClass RX2 = some m.cls := hown
  have hl : lv_has ls 5 [(0, .ref (ad 14)), (1, .int a), (2, .int b), (3, .int x), (4, .int d)] := hl
  have iX2 : ∀ w ∈ u_ws RX2 TX2 12, w ∈ wsX2_take := fun w h => List.mem_cons_of_mem _ (List.mem_append_right _ h)
  refine lv_aload_n hx hb dX2_take_0 rfl (lv_at hl 0 rfl) ?_
  refine lv_iload_n hx hb dX2_take_1 rfl (lv_at hl 1 rfl) ?_
  refine k_put (C := RX2) (T := TX2) (N := 12) (ty0 := tyX2) (ty := .int) (v := .int a) hx hb hts hown E I iX2 tyX2_ok nmX2 (14) (by decide) (r0 := σ 14) rfl kc_14 rfl 5 (by decide) (List.mem_of_getElem? (i := 1) rfl) rfl rfl rfl rfl (Nat.le_of_ble_eq_true rfl) (upd (σ 14) 5 a) rfl (σ2 := va_up σ 14 (upd (σ 14) 5 a)) rfl dX2_take_2 (fun H locs I => ?_)
  refine lv_aload_n hx hb dX2_take_5 rfl (lv_at hl 0 rfl) ?_
  refine lv_iload_n hx hb dX2_take_6 rfl (lv_at hl 2 rfl) ?_
  refine k_put (C := RX2) (T := TX2) (N := 12) (ty0 := tyX2) (ty := .int) (v := .int b) hx hb hts hown E I iX2 tyX2_ok nmX2 (14) (by decide) (r0 := (upd (σ 14) 5 a)) rfl kc_14 rfl 6 (by decide) (List.mem_of_getElem? (i := 2) rfl) rfl rfl rfl rfl (Nat.le_of_ble_eq_true rfl) (upd (upd (σ 14) 5 a) 6 b) rfl (σ2 := va_up σ 14 (upd (upd (σ 14) 5 a) 6 b)) (bx_uu _ _ _ _) dX2_take_7 (fun H locs I => ?_)
  refine lv_aload_n hx hb dX2_take_10 rfl (lv_at hl 0 rfl) ?_
  refine lv_iload_n hx hb dX2_take_11 rfl (lv_at hl 3 rfl) ?_
  refine k_put (C := RX2) (T := TX2) (N := 12) (ty0 := tyX2) (ty := .int) (v := .int x) hx hb hts hown E I iX2 tyX2_ok nmX2 (14) (by decide) (r0 := (upd (upd (σ 14) 5 a) 6 b)) rfl kc_14 rfl 7 (by decide) (List.mem_of_getElem? (i := 3) rfl) rfl rfl rfl rfl (Nat.le_of_ble_eq_true rfl) (upd (upd (upd (σ 14) 5 a) 6 b) 7 x) rfl (σ2 := va_up σ 14 (upd (upd (upd (σ 14) 5 a) 6 b) 7 x)) (bx_uu _ _ _ _) dX2_take_12 (fun H locs I => ?_)
  refine lv_aload_n hx hb dX2_take_15 rfl (lv_at hl 0 rfl) ?_
  refine lv_iload hx hb dX2_take_16 (lv_at hl 4 rfl) ?_
  refine k_put (C := RX2) (T := TX2) (N := 12) (ty0 := tyX2) (ty := .int) (v := .int d) hx hb hts hown E I iX2 tyX2_ok nmX2 (14) (by decide) (r0 := (upd (upd (upd (σ 14) 5 a) 6 b) 7 x)) rfl kc_14 rfl 8 (by decide) (List.mem_of_getElem? (i := 4) rfl) rfl rfl rfl rfl (Nat.le_of_ble_eq_true rfl) (upd (upd (upd (upd (σ 14) 5 a) 6 b) 7 x) 8 d) rfl (σ2 := va_up σ 14 (upd (upd (upd (upd (σ 14) 5 a) 6 b) 7 x) 8 d)) (bx_uu _ _ _ _) dX2_take_18 (fun H locs I => ?_)
  exact k_vret hx hb hr hlk I dX2_take_21 (rfl)

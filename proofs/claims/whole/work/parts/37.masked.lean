/-! THE REFERENCE: asked -/
theorem nI_m4 {n : Nat} (h : n < 2 ^ 31) : nI n ≠ (-4 : Int32) := fun q => by
  have := congrArg Int32.toInt q
  rw [nI_toInt h, show (-4 : Int32).toInt = -4 by decide] at this
  omega
set_option maxHeartbeats 4000000 in
set_option maxRecDepth 100000 in
theorem c_X8_anchor (cy : Nat → ClassId) (D : va_G) (ad : Nat → Nat) (l : Launch) (σ : Nat → Nat → Int32) (s0 a x : Int32) (N : Nat → Nat) (P : Nat → Nat → Nat) (np : Nat) (T : Nat → Nat) (nt : Nat) (hC : rM σ (N, P, np, T, nt)) : kMi 6 ad (kcM cy ad) cy D l yX8_anchor wsX8_anchor ({ frames := 2, cells := 0, slots := 0, locals := 43 }) [.ref (ad 0), .int s0, .int a, .int x] σ (fun r σ' => r = (sAnchor s0 a x (N, P, np, T, nt)).1 ∧ rM σ' (sAnchor s0 a x (N, P, np, T, nt)).2) := by
  obtain ⟨hM, hN, hPs, hT⟩ := id hC
  have h5 := hN.1
  refine k_entry (cc := cX8_anchor) (maxL := 4) (ret := (some .int)) (by decide) rfl (Nat.le_of_ble_eq_true rfl) ?_
  intro p e s m below meth c hx hb hr hml hown hts hlk E I ls hl
  have hA : ∀ q, s.heap.size ≤ q → kA 6 ad s.heap.size q := fun q h => Or.inr h
  have hown : s.vm.findClass RX8 = some m.cls := hown
  have hl : lv_has ls 4 [(0, .ref (ad 0)), (1, .int s0), (2, .int a), (3, .int x)] := hl
  refine lv_aload_n hx hb dX8_anchor_0 rfl (lv_at hl 0 rfl) ?_
  refine lv_iload_n hx hb dX8_anchor_1 rfl (lv_at hl 1 rfl) ?_
  refine k_calli (k := 0) (As := [.int s0]) (rest := []) ⟨hx, hb, hml, hown, hts⟩ (c_X8_isShip cy D ad l σ (s0) N hN hM) (cwV 1 hts gX8_anchor_X8_isShip rfl rfl rfl (by decide +kernel) ⟨Nat.le_of_ble_eq_true rfl, Nat.le_of_ble_eq_true rfl⟩) E hA I (k_recv E I (by decide) km_0 rfl) rfl hl.1 rfl (lv_room (Nat.le_of_ble_eq_true rfl)) dX8_anchor_2 ⟨Nat.le_of_ble_eq_true rfl, Nat.le_of_ble_eq_true rfl⟩ (fun r_2 σ_2 H locs hp_2 I => ?_)
  obtain ⟨hk_, rfl⟩ := hp_2
  rcases hk_ with ⟨rfl, g0⟩ | ⟨rfl, hnS⟩
  · obtain ⟨i, hi, rfl⟩ := okS_of g0
    have H_i : i < 5 := by omega
    have hsh := hN.2.2 i hi
    unfold nSh at hsh
    have hoS := okS_nI hi h5.2.2.2.1
    have hcl : (nI i).toNatClampNeg = i := nI_clamp (by omega)
    refine lv_if_eq (tgt := 26) hx hb dX8_anchor_5 (by decide) (fun c_5 => ?_) (fun c_5 => ?_)
    · exact absurd c_5 (by decide)
    · refine lv_iload_n hx hb dX8_anchor_8 rfl (lv_at hl 2 rfl) ?_
      refine lv_iconst (v := nI 0) hx hb dX8_anchor_9 (by decide) ?_
      refine lv_iconst (v := nI 1) hx hb dX8_anchor_10 (by decide) ?_
      refine k_calls (As := [.int a, .int (nI 0), .int (nI 1)]) (rest := []) ⟨hx, hb, hml, hown, hts⟩ (c_X8_in l (a) (nI 0) (nI 1)) (va_cwS 3 hts gX8_anchor_X8_in rfl rfl rfl (by decide +kernel) ⟨Nat.le_of_ble_eq_true rfl, Nat.le_of_ble_eq_true rfl⟩) rfl hl.1 rfl (lv_room (Nat.le_of_ble_eq_true rfl)) dX8_anchor_11 ⟨Nat.le_of_ble_eq_true rfl, Nat.le_of_ble_eq_true rfl⟩ (fun r_11 hp_11 => ?_)
      rcases hp_11 with ⟨rfl, g1⟩ | ⟨rfl, g1⟩
      · obtain ⟨w, w1, w2, rfl⟩ := kT_in (by decide) (by decide) g1
        refine lv_if_eq (tgt := 26) hx hb dX8_anchor_14 (by decide) (fun c_14 => ?_) (fun c_14 => ?_)
        · exact absurd c_14 (by decide)
        · refine lv_iload_n hx hb dX8_anchor_17 rfl (lv_at hl 3 rfl) ?_
          refine lv_iconst (v := nI 0) hx hb dX8_anchor_18 (by decide) ?_
          refine lv_iconst (v := nI 2) hx hb dX8_anchor_19 (by decide) ?_
          refine k_calls (As := [.int x, .int (nI 0), .int (nI 2)]) (rest := []) ⟨hx, hb, hml, hown, hts⟩ (c_X8_in l (x) (nI 0) (nI 2)) (va_cwS 3 hts gX8_anchor_X8_in rfl rfl rfl (by decide +kernel) ⟨Nat.le_of_ble_eq_true rfl, Nat.le_of_ble_eq_true rfl⟩) rfl hl.1 rfl (lv_room (Nat.le_of_ble_eq_true rfl)) dX8_anchor_20 ⟨Nat.le_of_ble_eq_true rfl, Nat.le_of_ble_eq_true rfl⟩ (fun r_20 hp_20 => ?_)
          rcases hp_20 with ⟨rfl, g2⟩ | ⟨rfl, g2⟩
          · obtain ⟨k, k1, k2, rfl⟩ := kT_in (by decide) (by decide) g2
            refine lv_if_ne (tgt := 28) hx hb dX8_anchor_23 (by decide) (fun c_23 => ?_) (fun c_23 => ?_)
            · refine lv_iload_n hx hb dX8_anchor_28 rfl (lv_at hl 2 rfl) ?_
              refine lv_if_ne (tgt := 41) hx hb dX8_anchor_29 (by decide) (fun c_29 => ?_) (fun c_29 => ?_)
              · have c_29 : ¬ (w = 0) := fun q_ => c_29 ((nI_eq (by omega) (by decide)).mpr q_)
                refine lv_aload_n hx hb dX8_anchor_41 rfl (lv_at hl 0 rfl) ?_
                refine lv_iload_n hx hb dX8_anchor_42 rfl (lv_at hl 1 rfl) ?_
                refine lv_bipush (v := nI 9) hx hb dX8_anchor_43 (by decide) ?_
                refine k_calli (k := 0) (As := [.int (nI i), .int (nI 9)]) (rest := []) ⟨hx, hb, hml, hown, hts⟩ (c_X8_of cy D ad l σ i (9) (N (23 + 13 * i + 9)) (by omega) (hM _ (by omega))) (cwV 2 hts gX8_anchor_X8_of rfl rfl rfl (by decide +kernel) ⟨Nat.le_of_ble_eq_true rfl, Nat.le_of_ble_eq_true rfl⟩) E hA I (k_recv E I (by decide) km_0 rfl) rfl hl.1 rfl (lv_room (Nat.le_of_ble_eq_true rfl)) dX8_anchor_45 ⟨Nat.le_of_ble_eq_true rfl, Nat.le_of_ble_eq_true rfl⟩ (fun r_45 σ_45 H locs hp_45 I => ?_)
                obtain ⟨rfl, rfl⟩ := hp_45
                refine lv_if_ne (tgt := 56) hx hb dX8_anchor_48 (by decide) (fun c_48 => ?_) (fun c_48 => ?_)
                · have c_48 : ¬ ((N (23 + 13 * i + 9)) = 0) := fun q_ => c_48 ((nI_eq (by omega) (by decide)).mpr q_)
                  refine lv_aload_n hx hb dX8_anchor_56 rfl (lv_at hl 0 rfl) ?_
                  refine lv_iload_n hx hb dX8_anchor_57 rfl (lv_at hl 1 rfl) ?_
                  refine lv_bipush (v := nI 10) hx hb dX8_anchor_58 (by decide) ?_
                  refine lv_iload_n hx hb dX8_anchor_60 rfl (lv_at hl 3 rfl) ?_
                  refine lv_iadd hx hb dX8_anchor_61 ?_
                  rw [nI_add]
                  refine k_calli (k := 0) (As := [.int (nI i), .int (nI (10 + k))]) (rest := []) ⟨hx, hb, hml, hown, hts⟩ (c_X8_of cy D ad l σ i (10 + k) (N (23 + 13 * i + (10 + k))) (by omega) (hM _ (by omega))) (cwV 2 hts gX8_anchor_X8_of rfl rfl rfl (by decide +kernel) ⟨Nat.le_of_ble_eq_true rfl, Nat.le_of_ble_eq_true rfl⟩) E hA I (k_recv E I (by decide) km_0 rfl) rfl hl.1 rfl (lv_room (Nat.le_of_ble_eq_true rfl)) dX8_anchor_62 ⟨Nat.le_of_ble_eq_true rfl, Nat.le_of_ble_eq_true rfl⟩ (fun r_62 σ_62 H locs hp_62 I => ?_)
                  obtain ⟨rfl, rfl⟩ := hp_62
                  exact k_iret hx hb hr hlk I dX8_anchor_65 (by rw [sAnchor_ok hoS hcl (Nat.zero_le _) w2 (Nat.zero_le _) k2, gAnchor]; first | (rw [if_pos (by omega)]; exact ⟨rfl, hC⟩) | (rw [if_neg (by omega), if_pos (by omega)]; exact ⟨rfl, hC⟩) | (rw [if_neg (by omega), if_neg (by omega)]; exact ⟨rfl, hC⟩))
                · have c_48 : (N (23 + 13 * i + 9)) = 0 := (nI_eq (by omega) (by decide)).mp c_48
                  refine lv_bipush (v := (-4 : Int32)) hx hb dX8_anchor_51 (by decide) ?_
                  refine lv_goto (tgt := 65) hx hb dX8_anchor_53 (by decide) ?_
                  exact k_iret hx hb hr hlk I dX8_anchor_65 (by rw [sAnchor_ok hoS hcl (Nat.zero_le _) w2 (Nat.zero_le _) k2, gAnchor]; first | (rw [if_pos (by omega)]; exact ⟨rfl, hC⟩) | (rw [if_neg (by omega), if_pos (by omega)]; exact ⟨rfl, hC⟩) | (rw [if_neg (by omega), if_neg (by omega)]; exact ⟨rfl, hC⟩))
              · have c_29 : w = 0 := (nI_eq (by omega) (by decide)).mp c_29
                refine lv_aload_n hx hb dX8_anchor_32 rfl (lv_at hl 0 rfl) ?_
                refine lv_iload_n hx hb dX8_anchor_33 rfl (lv_at hl 1 rfl) ?_
                refine lv_iload_n hx hb dX8_anchor_34 rfl (lv_at hl 3 rfl) ?_
                refine k_calli (k := 0) (As := [.int (nI i), .int (nI k)]) (rest := []) ⟨hx, hb, hml, hown, hts⟩ (c_X8_of cy D ad l σ i (k) (N (23 + 13 * i + (k))) (by omega) (hM _ (by omega))) (cwV 2 hts gX8_anchor_X8_of rfl rfl rfl (by decide +kernel) ⟨Nat.le_of_ble_eq_true rfl, Nat.le_of_ble_eq_true rfl⟩) E hA I (k_recv E I (by decide) km_0 rfl) rfl hl.1 rfl (lv_room (Nat.le_of_ble_eq_true rfl)) dX8_anchor_35 ⟨Nat.le_of_ble_eq_true rfl, Nat.le_of_ble_eq_true rfl⟩ (fun r_35 σ_35 H locs hp_35 I => ?_)
                obtain ⟨rfl, rfl⟩ := hp_35
                refine lv_goto (tgt := 65) hx hb dX8_anchor_38 (by decide) ?_
                exact k_iret hx hb hr hlk I dX8_anchor_65 (by rw [sAnchor_ok hoS hcl (Nat.zero_le _) w2 (Nat.zero_le _) k2, gAnchor]; first | (rw [if_pos (by omega)]; exact ⟨rfl, hC⟩) | (rw [if_neg (by omega), if_pos (by omega)]; exact ⟨rfl, hC⟩) | (rw [if_neg (by omega), if_neg (by omega)]; exact ⟨rfl, hC⟩))
            · exact absurd c_23 (by decide)
          · refine lv_if_ne (tgt := 28) hx hb dX8_anchor_23 (by decide) (fun c_23 => ?_) (fun c_23 => ?_)
            · exact absurd c_23 (by decide)
            · refine lv_iconst (v := (-1 : Int32)) hx hb dX8_anchor_26 (by decide) ?_
              exact k_iret hx hb hr hlk I dX8_anchor_27 (by rw [sAnchor_bad (by first | exact fun q => hnS q.1 | exact fun q => g1 q.2.1 | exact fun q => g2 q.2.2)]; exact ⟨rfl, hC⟩)
      · refine lv_if_eq (tgt := 26) hx hb dX8_anchor_14 (by decide) (fun c_14 => ?_) (fun c_14 => ?_)
        · refine lv_iconst (v := (-1 : Int32)) hx hb dX8_anchor_26 (by decide) ?_
          exact k_iret hx hb hr hlk I dX8_anchor_27 (by rw [sAnchor_bad (by first | exact fun q => hnS q.1 | exact fun q => g1 q.2.1 | exact fun q => g2 q.2.2)]; exact ⟨rfl, hC⟩)
        · exact absurd c_14 (by decide)
  · refine lv_if_eq (tgt := 26) hx hb dX8_anchor_5 (by decide) (fun c_5 => ?_) (fun c_5 => ?_)
    · refine lv_iconst (v := (-1 : Int32)) hx hb dX8_anchor_26 (by decide) ?_
      exact k_iret hx hb hr hlk I dX8_anchor_27 (by rw [sAnchor_bad (by first | exact fun q => hnS q.1 | exact fun q => g1 q.2.1 | exact fun q => g2 q.2.2)]; exact ⟨rfl, hC⟩)
    · exact absurd c_5 (by decide)
set_option maxHeartbeats 4000000 in
set_option maxRecDepth 100000 in
theorem c_X8_ship (cy : Nat → ClassId) (D : va_G) (ad : Nat → Nat) (l : Launch) (σ : Nat → Nat → Int32) (s0 x : Int32) (N : Nat → Nat) (P : Nat → Nat → Nat) (np : Nat) (T : Nat → Nat) (nt : Nat) (hC : rM σ (N, P, np, T, nt)) : kMi 6 ad (kcM cy ad) cy D l yX8_ship wsX8_ship ({ frames := 2, cells := 0, slots := 0, locals := 43 }) [.ref (ad 0), .int s0, .int x] σ (fun r σ' => r = (sShip s0 x (N, P, np, T, nt)).1 ∧ rM σ' (sShip s0 x (N, P, np, T, nt)).2) := by
  obtain ⟨hM, hN, hPs, hT⟩ := id hC
  have h5 := hN.1
  refine k_entry (cc := cX8_ship) (maxL := 3) (ret := (some .int)) (by decide) rfl (Nat.le_of_ble_eq_true rfl) ?_
  intro p e s m below meth c hx hb hr hml hown hts hlk E I ls hl
  have hA : ∀ q, s.heap.size ≤ q → kA 6 ad s.heap.size q := fun q h => Or.inr h
  have hown : s.vm.findClass RX8 = some m.cls := hown
  have hl : lv_has ls 3 [(0, .ref (ad 0)), (1, .int s0), (2, .int x)] := hl
  refine lv_aload_n hx hb dX8_ship_0 rfl (lv_at hl 0 rfl) ?_
  refine lv_iload_n hx hb dX8_ship_1 rfl (lv_at hl 1 rfl) ?_
  refine k_calli (k := 0) (As := [.int s0]) (rest := []) ⟨hx, hb, hml, hown, hts⟩ (c_X8_isShip cy D ad l σ (s0) N hN hM) (cwV 1 hts gX8_ship_X8_isShip rfl rfl rfl (by decide +kernel) ⟨Nat.le_of_ble_eq_true rfl, Nat.le_of_ble_eq_true rfl⟩) E hA I (k_recv E I (by decide) km_0 rfl) rfl hl.1 rfl (lv_room (Nat.le_of_ble_eq_true rfl)) dX8_ship_2 ⟨Nat.le_of_ble_eq_true rfl, Nat.le_of_ble_eq_true rfl⟩ (fun r_2 σ_2 H locs hp_2 I => ?_)
  obtain ⟨hk_, rfl⟩ := hp_2
  rcases hk_ with ⟨rfl, g0⟩ | ⟨rfl, hnS⟩
  · obtain ⟨i, hi, rfl⟩ := okS_of g0
    have H_i : i < 5 := by omega
    have hsh := hN.2.2 i hi
    unfold nSh at hsh
    have hoS := okS_nI hi h5.2.2.2.1
    have hcl : (nI i).toNatClampNeg = i := nI_clamp (by omega)
    refine lv_if_eq (tgt := 28) hx hb dX8_ship_5 (by decide) (fun c_5 => ?_) (fun c_5 => ?_)
    · exact absurd c_5 (by decide)
    · refine lv_iload_n hx hb dX8_ship_8 rfl (lv_at hl 2 rfl) ?_
      refine lv_iconst (v := nI 0) hx hb dX8_ship_9 (by decide) ?_
      refine lv_iconst (v := nI 5) hx hb dX8_ship_10 (by decide) ?_
      refine k_calls (As := [.int x, .int (nI 0), .int (nI 5)]) (rest := []) ⟨hx, hb, hml, hown, hts⟩ (c_X8_in l (x) (nI 0) (nI 5)) (va_cwS 3 hts gX8_ship_X8_in rfl rfl rfl (by decide +kernel) ⟨Nat.le_of_ble_eq_true rfl, Nat.le_of_ble_eq_true rfl⟩) rfl hl.1 rfl (lv_room (Nat.le_of_ble_eq_true rfl)) dX8_ship_11 ⟨Nat.le_of_ble_eq_true rfl, Nat.le_of_ble_eq_true rfl⟩ (fun r_11 hp_11 => ?_)
      rcases hp_11 with ⟨rfl, g1⟩ | ⟨rfl, g1⟩
      · obtain ⟨k, k1, k2, rfl⟩ := kT_in (by decide) (by decide) g1
        refine lv_if_eq (tgt := 28) hx hb dX8_ship_14 (by decide) (fun c_14 => ?_) (fun c_14 => ?_)
        · exact absurd c_14 (by decide)
        · refine lv_aload_n hx hb dX8_ship_17 rfl (lv_at hl 0 rfl) ?_
          refine lv_iload_n hx hb dX8_ship_18 rfl (lv_at hl 1 rfl) ?_
          refine lv_iconst (v := nI 3) hx hb dX8_ship_19 (by decide) ?_
          refine lv_iload_n hx hb dX8_ship_20 rfl (lv_at hl 2 rfl) ?_
          refine lv_iadd hx hb dX8_ship_21 ?_
          rw [nI_add]
          refine k_calli (k := 0) (As := [.int (nI i), .int (nI (3 + k))]) (rest := []) ⟨hx, hb, hml, hown, hts⟩ (c_X8_of cy D ad l σ i (3 + k) (N (23 + 13 * i + (3 + k))) (by omega) (hM _ (by omega))) (cwV 2 hts gX8_ship_X8_of rfl rfl rfl (by decide +kernel) ⟨Nat.le_of_ble_eq_true rfl, Nat.le_of_ble_eq_true rfl⟩) E hA I (k_recv E I (by decide) km_0 rfl) rfl hl.1 rfl (lv_room (Nat.le_of_ble_eq_true rfl)) dX8_ship_22 ⟨Nat.le_of_ble_eq_true rfl, Nat.le_of_ble_eq_true rfl⟩ (fun r_22 σ_22 H locs hp_22 I => ?_)
          obtain ⟨rfl, rfl⟩ := hp_22
          refine lv_goto (tgt := 29) hx hb dX8_ship_25 (by decide) ?_
          exact k_iret hx hb hr hlk I dX8_ship_29 (by first | (rw [sShip_bad (by first | exact fun q => hnS q.1 | exact fun q => g1 q.2)]; exact ⟨rfl, hC⟩) | (rw [sShip_ok hoS hcl k2]; exact ⟨rfl, hC⟩))
      · refine lv_if_eq (tgt := 28) hx hb dX8_ship_14 (by decide) (fun c_14 => ?_) (fun c_14 => ?_)
        · refine lv_iconst (v := (-1 : Int32)) hx hb dX8_ship_28 (by decide) ?_
          exact k_iret hx hb hr hlk I dX8_ship_29 (by first | (rw [sShip_bad (by first | exact fun q => hnS q.1 | exact fun q => g1 q.2)]; exact ⟨rfl, hC⟩) | (rw [sShip_ok hoS hcl k2]; exact ⟨rfl, hC⟩))
        · exact absurd c_14 (by decide)
  · refine lv_if_eq (tgt := 28) hx hb dX8_ship_5 (by decide) (fun c_5 => ?_) (fun c_5 => ?_)
    · refine lv_iconst (v := (-1 : Int32)) hx hb dX8_ship_28 (by decide) ?_
      exact k_iret hx hb hr hlk I dX8_ship_29 (by first | (rw [sShip_bad (by first | exact fun q => hnS q.1 | exact fun q => g1 q.2)]; exact ⟨rfl, hC⟩) | (rw [sShip_ok hoS hcl k2]; exact ⟨rfl, hC⟩))
    · exact absurd c_5 (by decide)
set_option maxHeartbeats 4000000 in
set_option maxRecDepth 100000 in
theorem c_X8_hangs (cy : Nat → ClassId) (D : va_G) (ad : Nat → Nat) (l : Launch) (σ : Nat → Nat → Int32) (s0 a u x : Int32) (N : Nat → Nat) (P : Nat → Nat → Nat) (np : Nat) (T : Nat → Nat) (nt : Nat) (hC : rM σ (N, P, np, T, nt)) : kMi 6 ad (kcM cy ad) cy D l yX8_hangs wsX8_hangs ({ frames := 5, cells := 0, slots := 0, locals := 119 }) [.ref (ad 0), .int s0, .int a, .int u, .int x] σ (fun r σ' => r = (sHangs s0 a u x (N, P, np, T, nt)).1 ∧ rM σ' (sHangs s0 a u x (N, P, np, T, nt)).2) := by
  obtain ⟨hM, hN, hPs, hT⟩ := id hC
  have h5 := hN.1
  refine k_entry (cc := cX8_hangs) (maxL := 5) (ret := (some .int)) (by decide) rfl (Nat.le_of_ble_eq_true rfl) ?_
  intro p e s m below meth c hx hb hr hml hown hts hlk E I ls hl
  have hA : ∀ q, s.heap.size ≤ q → kA 6 ad s.heap.size q := fun q h => Or.inr h
  have hown : s.vm.findClass RX8 = some m.cls := hown
  have hl : lv_has ls 5 [(0, .ref (ad 0)), (1, .int s0), (2, .int a), (3, .int u), (4, .int x)] := hl
  have iX8 : ∀ w ∈ u_ws RX8 TX8 13, w ∈ wsX8_hangs := fun w h => List.mem_cons_of_mem _ (List.mem_append_right _ h)
  refine lv_aload_n hx hb dX8_hangs_0 rfl (lv_at hl 0 rfl) ?_
  refine lv_iload_n hx hb dX8_hangs_1 rfl (lv_at hl 1 rfl) ?_
  refine k_calli (k := 0) (As := [.int s0]) (rest := []) ⟨hx, hb, hml, hown, hts⟩ (c_X8_isShip cy D ad l σ (s0) N hN hM) (cwV 1 hts gX8_hangs_X8_isShip rfl rfl rfl (by decide +kernel) ⟨Nat.le_of_ble_eq_true rfl, Nat.le_of_ble_eq_true rfl⟩) E hA I (k_recv E I (by decide) km_0 rfl) rfl hl.1 rfl (lv_room (Nat.le_of_ble_eq_true rfl)) dX8_hangs_2 ⟨Nat.le_of_ble_eq_true rfl, Nat.le_of_ble_eq_true rfl⟩ (fun r_2 σ_2 H locs hp_2 I => ?_)
  obtain ⟨hk_, rfl⟩ := hp_2
  rcases hk_ with ⟨rfl, g0⟩ | ⟨rfl, hnS⟩
  · obtain ⟨i, hi, rfl⟩ := okS_of g0
    have H_i : i < 5 := by omega
    have hsh := hN.2.2 i hi
    unfold nSh at hsh
    have hoS := okS_nI hi h5.2.2.2.1
    have hcl : (nI i).toNatClampNeg = i := nI_clamp (by omega)
    refine lv_if_eq (tgt := 38) hx hb dX8_hangs_5 (by decide) (fun c_5 => ?_) (fun c_5 => ?_)
    · exact absurd c_5 (by decide)
    · refine lv_iload_n hx hb dX8_hangs_8 rfl (lv_at hl 2 rfl) ?_
      refine lv_iconst (v := nI 0) hx hb dX8_hangs_9 (by decide) ?_
      refine lv_iconst (v := nI 1) hx hb dX8_hangs_10 (by decide) ?_
      refine k_calls (As := [.int a, .int (nI 0), .int (nI 1)]) (rest := []) ⟨hx, hb, hml, hown, hts⟩ (c_X8_in l (a) (nI 0) (nI 1)) (va_cwS 3 hts gX8_hangs_X8_in rfl rfl rfl (by decide +kernel) ⟨Nat.le_of_ble_eq_true rfl, Nat.le_of_ble_eq_true rfl⟩) rfl hl.1 rfl (lv_room (Nat.le_of_ble_eq_true rfl)) dX8_hangs_11 ⟨Nat.le_of_ble_eq_true rfl, Nat.le_of_ble_eq_true rfl⟩ (fun r_11 hp_11 => ?_)
      rcases hp_11 with ⟨rfl, g1⟩ | ⟨rfl, g1⟩
      · obtain ⟨w, w1, w2, rfl⟩ := kT_in (by decide) (by decide) g1
        refine lv_if_eq (tgt := 38) hx hb dX8_hangs_14 (by decide) (fun c_14 => ?_) (fun c_14 => ?_)
        · exact absurd c_14 (by decide)
        · refine lv_iload_n hx hb dX8_hangs_17 rfl (lv_at hl 3 rfl) ?_
          refine lv_iconst (v := nI 0) hx hb dX8_hangs_18 (by decide) ?_
          refine lv_sipush (v := nI 9999) hx hb dX8_hangs_19 (by decide) ?_
          refine k_calls (As := [.int u, .int (nI 0), .int (nI 9999)]) (rest := []) ⟨hx, hb, hml, hown, hts⟩ (c_X8_in l (u) (nI 0) (nI 9999)) (va_cwS 3 hts gX8_hangs_X8_in rfl rfl rfl (by decide +kernel) ⟨Nat.le_of_ble_eq_true rfl, Nat.le_of_ble_eq_true rfl⟩) rfl hl.1 rfl (lv_room (Nat.le_of_ble_eq_true rfl)) dX8_hangs_22 ⟨Nat.le_of_ble_eq_true rfl, Nat.le_of_ble_eq_true rfl⟩ (fun r_22 hp_22 => ?_)
          rcases hp_22 with ⟨rfl, g2⟩ | ⟨rfl, g2⟩
          · obtain ⟨pu, pu1, pu2, rfl⟩ := kT_in (by decide) (by decide) g2
            refine lv_if_eq (tgt := 38) hx hb dX8_hangs_25 (by decide) (fun c_25 => ?_) (fun c_25 => ?_)
            · exact absurd c_25 (by decide)
            · refine lv_iload hx hb dX8_hangs_28 (lv_at hl 4 rfl) ?_
              refine lv_iconst (v := nI 0) hx hb dX8_hangs_30 (by decide) ?_
              refine lv_iconst (v := nI 5) hx hb dX8_hangs_31 (by decide) ?_
              refine k_calls (As := [.int x, .int (nI 0), .int (nI 5)]) (rest := []) ⟨hx, hb, hml, hown, hts⟩ (c_X8_in l (x) (nI 0) (nI 5)) (va_cwS 3 hts gX8_hangs_X8_in rfl rfl rfl (by decide +kernel) ⟨Nat.le_of_ble_eq_true rfl, Nat.le_of_ble_eq_true rfl⟩) rfl hl.1 rfl (lv_room (Nat.le_of_ble_eq_true rfl)) dX8_hangs_32 ⟨Nat.le_of_ble_eq_true rfl, Nat.le_of_ble_eq_true rfl⟩ (fun r_32 hp_32 => ?_)
              rcases hp_32 with ⟨rfl, g3⟩ | ⟨rfl, g3⟩
              · obtain ⟨k, k1, k2, rfl⟩ := kT_in (by decide) (by decide) g3
                refine lv_if_ne (tgt := 40) hx hb dX8_hangs_35 (by decide) (fun c_35 => ?_) (fun c_35 => ?_)
                · refine lv_aload_n hx hb dX8_hangs_40 rfl (lv_at hl 0 rfl) ?_
                  refine lv_iload_n hx hb dX8_hangs_41 rfl (lv_at hl 1 rfl) ?_
                  refine lv_bipush (v := nI 7) hx hb dX8_hangs_42 (by decide) ?_
                  refine k_calli (k := 0) (As := [.int (nI i), .int (nI 7)]) (rest := []) ⟨hx, hb, hml, hown, hts⟩ (c_X8_of cy D ad l σ i (7) (N (23 + 13 * i + 7)) (by omega) (hM _ (by omega))) (cwV 2 hts gX8_hangs_X8_of rfl rfl rfl (by decide +kernel) ⟨Nat.le_of_ble_eq_true rfl, Nat.le_of_ble_eq_true rfl⟩) E hA I (k_recv E I (by decide) km_0 rfl) rfl hl.1 rfl (lv_room (Nat.le_of_ble_eq_true rfl)) dX8_hangs_44 ⟨Nat.le_of_ble_eq_true rfl, Nat.le_of_ble_eq_true rfl⟩ (fun r_44 σ_44 H locs hp_44 I => ?_)
                  obtain ⟨rfl, rfl⟩ := hp_44
                  refine lv_iconst (v := nI 1) hx hb dX8_hangs_47 (by decide) ?_
                  refine lv_icmp_ne (tgt := 54) hx hb dX8_hangs_48 (by decide) (fun c_48 => ?_) (fun c_48 => ?_)
                  · have c_48 : ¬ ((N (23 + 13 * i + 7)) = 1) := fun q_ => c_48 ((nI_eq (by omega) (by omega)).mpr q_)
                    refine lv_iload_n hx hb dX8_hangs_54 rfl (lv_at hl 2 rfl) ?_
                    refine lv_iconst (v := nI 1) hx hb dX8_hangs_55 (by decide) ?_
                    refine lv_icmp_ne (tgt := 72) hx hb dX8_hangs_56 (by decide) (fun c_56 => ?_) (fun c_56 => ?_)
                    · have c_56 : ¬ (w = 1) := fun q_ => c_56 ((nI_eq (by omega) (by omega)).mpr q_)
                      refine lv_aload_n hx hb dX8_hangs_72 rfl (lv_at hl 0 rfl) ?_
                      refine lv_iload_n hx hb dX8_hangs_73 rfl (lv_at hl 1 rfl) ?_
                      refine lv_iload_n hx hb dX8_hangs_74 rfl (lv_at hl 2 rfl) ?_
                      refine lv_iload_n hx hb dX8_hangs_75 rfl (lv_at hl 3 rfl) ?_
                      refine k_callv (k := 0) (As := [.int (nI i), .int (nI w), .int (nI pu)]) (rest := []) ⟨hx, hb, hml, hown, hts⟩ (c_X8_chainOf cy D ad l σ N hN i hi hM w pu w2 (fun z => by omega) pu2) (cwV 3 hts gX8_hangs_X8_chainOf rfl rfl rfl (by decide +kernel) ⟨Nat.le_of_ble_eq_true rfl, Nat.le_of_ble_eq_true rfl⟩) E hA I (k_recv E I (by decide) km_0 rfl) rfl hl.1 rfl (lv_room (Nat.le_of_ble_eq_true rfl)) dX8_hangs_76 ⟨Nat.le_of_ble_eq_true rfl, Nat.le_of_ble_eq_true rfl⟩ (fun σ_76 H locs hp_76 I => ?_)
                      obtain ⟨R, hs_, hr_, hz_⟩ := hp_76
                      have hQ : qm σ σ_76 := ⟨R, hs_, hr_⟩
                      have hM := mN_qm hM hQ
                      obtain ⟨tv, htv⟩ : ∃ z, z = (if zTaut pu (N (23 + 13 * i + 3)) (pD N (N (23 + 13 * i + cxf w))) (N (23 + 13 * i + lkf w)) then 1 else 0) := ⟨_, rfl⟩
                      have tv1 : tv ≤ 1 := by rw [htv]; split <;> omega
                      have f0 : σ_76 0 8 = nI (hg pu (N (23 + 13 * i + 3)) 0 (pD N (N (23 + 13 * i + cxf w))) (N (23 + 13 * i + lkf w))) := by rw [hs_]; exact hz_.1
                      have f1 : σ_76 0 9 = nI (zGround pu (N (23 + 13 * i + 3)) (pD N (N (23 + 13 * i + cxf w))) (N (23 + 13 * i + lkf w))) := by rw [hs_]; exact hz_.2.1
                      have f2 : σ_76 0 10 = nI (zReach pu (N (23 + 13 * i + 3)) (pD N (N (23 + 13 * i + cxf w))) (N (23 + 13 * i + lkf w))) := by rw [hs_]; exact hz_.2.2.1
                      have f3 : σ_76 0 11 = nI (zLift pu (N (23 + 13 * i + 3)) (pD N (N (23 + 13 * i + cxf w))) (N (23 + 13 * i + lkf w))) := by rw [hs_]; exact hz_.2.2.2.1
                      have f4 : σ_76 0 12 = nI tv := by rw [hs_, htv]; exact hz_.2.2.2.2
                      rcases (show k = 0 ∨ k = 1 ∨ k = 2 ∨ k = 3 ∨ k = 4 ∨ k = 5 by omega) with rfl | rfl | rfl | rfl | rfl | rfl
                      · refine lv_iload hx hb dX8_hangs_79 (lv_at hl 4 rfl) ?_
                        refine lv_tableIn (tgt := 116) (off := 35) hx hb dX8_hangs_81 (by decide) (by decide) (by decide) (by decide) ?_
                        refine lv_aload_n hx hb dX8_hangs_116 rfl (lv_at hl 0 rfl) ?_
                        refine k_get (C := RX8) (T := TX8) (N := 13) (v := .int (nI (hg pu (N (23 + 13 * i + 3)) 0 (pD N (N (23 + 13 * i + cxf w))) (N (23 + 13 * i + lkf w))))) hx hb hts hown E I iX8 (0) (by decide) (r0 := σ_76 0) rfl km_0 rfl 8 (by decide) (List.mem_of_getElem? (i := 1) rfl) (congrArg (fun z => some (Value.int z)) f0) dX8_hangs_117 ?_
                        exact k_iret hx hb hr hlk I dX8_hangs_120 (by rw [sHangs_ok hoS hcl (Nat.zero_le _) w2 (Nat.zero_le _) pu2 (Nat.zero_le _) (by decide), gHangs, if_neg (show ¬ N (23 + 13 * i + 7) = 1 by omega), if_neg (show ¬ (w = 1 ∧ N (23 + 13 * i + 9) = 0) by omega)]; exact ⟨rfl, rM_qm hC hQ⟩)
                      · refine lv_iload hx hb dX8_hangs_79 (lv_at hl 4 rfl) ?_
                        refine lv_tableIn (tgt := 121) (off := 40) hx hb dX8_hangs_81 (by decide) (by decide) (by decide) (by decide) ?_
                        refine lv_aload_n hx hb dX8_hangs_121 rfl (lv_at hl 0 rfl) ?_
                        refine k_get (C := RX8) (T := TX8) (N := 13) (v := .int (nI (zGround pu (N (23 + 13 * i + 3)) (pD N (N (23 + 13 * i + cxf w))) (N (23 + 13 * i + lkf w))))) hx hb hts hown E I iX8 (0) (by decide) (r0 := σ_76 0) rfl km_0 rfl 9 (by decide) (List.mem_of_getElem? (i := 2) rfl) (congrArg (fun z => some (Value.int z)) f1) dX8_hangs_122 ?_
                        exact k_iret hx hb hr hlk I dX8_hangs_125 (by rw [sHangs_ok hoS hcl (Nat.zero_le _) w2 (Nat.zero_le _) pu2 (Nat.zero_le _) (by decide), gHangs, if_neg (show ¬ N (23 + 13 * i + 7) = 1 by omega), if_neg (show ¬ (w = 1 ∧ N (23 + 13 * i + 9) = 0) by omega)]; exact ⟨rfl, rM_qm hC hQ⟩)
                      · refine lv_iload hx hb dX8_hangs_79 (lv_at hl 4 rfl) ?_
                        refine lv_tableIn (tgt := 126) (off := 45) hx hb dX8_hangs_81 (by decide) (by decide) (by decide) (by decide) ?_
                        refine lv_aload_n hx hb dX8_hangs_126 rfl (lv_at hl 0 rfl) ?_
                        refine k_get (C := RX8) (T := TX8) (N := 13) (v := .int (nI (zReach pu (N (23 + 13 * i + 3)) (pD N (N (23 + 13 * i + cxf w))) (N (23 + 13 * i + lkf w))))) hx hb hts hown E I iX8 (0) (by decide) (r0 := σ_76 0) rfl km_0 rfl 10 (by decide) (List.mem_of_getElem? (i := 3) rfl) (congrArg (fun z => some (Value.int z)) f2) dX8_hangs_127 ?_
                        exact k_iret hx hb hr hlk I dX8_hangs_130 (by rw [sHangs_ok hoS hcl (Nat.zero_le _) w2 (Nat.zero_le _) pu2 (Nat.zero_le _) (by decide), gHangs, if_neg (show ¬ N (23 + 13 * i + 7) = 1 by omega), if_neg (show ¬ (w = 1 ∧ N (23 + 13 * i + 9) = 0) by omega)]; exact ⟨rfl, rM_qm hC hQ⟩)
                      · refine lv_iload hx hb dX8_hangs_79 (lv_at hl 4 rfl) ?_
                        refine lv_tableIn (tgt := 131) (off := 50) hx hb dX8_hangs_81 (by decide) (by decide) (by decide) (by decide) ?_
                        refine lv_aload_n hx hb dX8_hangs_131 rfl (lv_at hl 0 rfl) ?_
                        refine k_get (C := RX8) (T := TX8) (N := 13) (v := .int (nI (zLift pu (N (23 + 13 * i + 3)) (pD N (N (23 + 13 * i + cxf w))) (N (23 + 13 * i + lkf w))))) hx hb hts hown E I iX8 (0) (by decide) (r0 := σ_76 0) rfl km_0 rfl 11 (by decide) (List.mem_of_getElem? (i := 4) rfl) (congrArg (fun z => some (Value.int z)) f3) dX8_hangs_132 ?_
                        exact k_iret hx hb hr hlk I dX8_hangs_135 (by rw [sHangs_ok hoS hcl (Nat.zero_le _) w2 (Nat.zero_le _) pu2 (Nat.zero_le _) (by decide), gHangs, if_neg (show ¬ N (23 + 13 * i + 7) = 1 by omega), if_neg (show ¬ (w = 1 ∧ N (23 + 13 * i + 9) = 0) by omega)]; exact ⟨rfl, rM_qm hC hQ⟩)
                      · refine lv_iload hx hb dX8_hangs_79 (lv_at hl 4 rfl) ?_
                        refine lv_tableIn (tgt := 136) (off := 55) hx hb dX8_hangs_81 (by decide) (by decide) (by decide) (by decide) ?_
                        refine lv_aload_n hx hb dX8_hangs_136 rfl (lv_at hl 0 rfl) ?_
                        refine lv_aload_n hx hb dX8_hangs_137 rfl (lv_at hl 0 rfl) ?_
                        refine lv_iload_n hx hb dX8_hangs_138 rfl (lv_at hl 1 rfl) ?_
                        refine lv_bipush (v := nI 6) hx hb dX8_hangs_139 (by decide) ?_
                        refine k_calli (k := 0) (As := [.int (nI i), .int (nI 6)]) (rest := [.ref (ad 0)]) ⟨hx, hb, hml, hown, hts⟩ (c_X8_of cy D ad l σ_76 i (6) (N (23 + 13 * i + 6)) (by omega) (hM _ (by omega))) (cwV 2 hts gX8_hangs_X8_of rfl rfl rfl (by decide +kernel) ⟨Nat.le_of_ble_eq_true rfl, Nat.le_of_ble_eq_true rfl⟩) E hA I (k_recv E I (by decide) km_0 rfl) rfl hl.1 rfl (lv_room (Nat.le_of_ble_eq_true rfl)) dX8_hangs_141 ⟨Nat.le_of_ble_eq_true rfl, Nat.le_of_ble_eq_true rfl⟩ (fun r_141 σ_141 H locs hp_141 I => ?_)
                        obtain ⟨rfl, rfl⟩ := hp_141
                        refine k_calli (k := 0) (As := [.int (nI (N (23 + 13 * i + 6)))]) (rest := []) ⟨hx, hb, hml, hown, hts⟩ (c_X8_holding cy D ad l σ_76 tv (zLift pu (N (23 + 13 * i + 3)) (pD N (N (23 + 13 * i + cxf w))) (N (23 + 13 * i + lkf w))) (N (23 + 13 * i + 6)) tv1 (zLift_le _ _ _ _) hsh.2.2.1.2.2.2 f4 f3) (cwV 1 hts gX8_hangs_X8_holding rfl rfl rfl (by decide +kernel) ⟨Nat.le_of_ble_eq_true rfl, Nat.le_of_ble_eq_true rfl⟩) E hA I (k_recv E I (by decide) km_0 rfl) rfl hl.1 rfl (lv_room (Nat.le_of_ble_eq_true rfl)) dX8_hangs_144 ⟨Nat.le_of_ble_eq_true rfl, Nat.le_of_ble_eq_true rfl⟩ (fun r_144 σ_144 H locs hp_144 I => ?_)
                        obtain ⟨rfl, rfl⟩ := hp_144
                        rw [show (if tv = 1 then 0 else N (23 + 13 * i + 6) - 3 * zLift pu (N (23 + 13 * i + 3)) (pD N (N (23 + 13 * i + cxf w))) (N (23 + 13 * i + lkf w))) = zHold pu (N (23 + 13 * i + 3)) (pD N (N (23 + 13 * i + cxf w))) (N (23 + 13 * i + lkf w)) (N (23 + 13 * i + 6)) by rw [htv]; unfold zHold; cases zTaut pu (N (23 + 13 * i + 3)) (pD N (N (23 + 13 * i + cxf w))) (N (23 + 13 * i + lkf w)) <;> rfl]
                        exact k_iret hx hb hr hlk I dX8_hangs_147 (by rw [sHangs_ok hoS hcl (Nat.zero_le _) w2 (Nat.zero_le _) pu2 (Nat.zero_le _) (by decide), gHangs, if_neg (show ¬ N (23 + 13 * i + 7) = 1 by omega), if_neg (show ¬ (w = 1 ∧ N (23 + 13 * i + 9) = 0) by omega)]; exact ⟨rfl, rM_qm hC hQ⟩)
                      · refine lv_iload hx hb dX8_hangs_79 (lv_at hl 4 rfl) ?_
                        refine lv_tableOut (tgt := 148) hx hb dX8_hangs_81 (by decide) (by decide) ?_
                        refine lv_aload_n hx hb dX8_hangs_148 rfl (lv_at hl 0 rfl) ?_
                        refine k_get (C := RX8) (T := TX8) (N := 13) (v := .int (nI tv)) hx hb hts hown E I iX8 (0) (by decide) (r0 := σ_76 0) rfl km_0 rfl 12 (by decide) (List.mem_of_getElem? (i := 5) rfl) (congrArg (fun z => some (Value.int z)) f4) dX8_hangs_149 ?_
                        refine lv_if_eq (tgt := 159) hx hb dX8_hangs_152 (by decide) (fun c_152 => ?_) (fun c_152 => ?_)
                        · have c_152 : tv = 0 := (nI_eq (by omega) (by decide)).mp c_152
                          refine lv_iconst (v := nI 0) hx hb dX8_hangs_159 (by decide) ?_
                          exact k_iret hx hb hr hlk I dX8_hangs_160 (by rw [sHangs_ok hoS hcl (Nat.zero_le _) w2 (Nat.zero_le _) pu2 (Nat.zero_le _) (by decide), gHangs, if_neg (show ¬ N (23 + 13 * i + 7) = 1 by omega), if_neg (show ¬ (w = 1 ∧ N (23 + 13 * i + 9) = 0) by omega)]; exact ⟨(show _ = nI (if zTaut pu (N (23 + 13 * i + 3)) (pD N (N (23 + 13 * i + cxf w))) (N (23 + 13 * i + lkf w)) then 1 else 0) from by rw [← htv]; exact congrArg nI (by omega)), rM_qm hC hQ⟩)
                        · have c_152 : ¬ (tv = 0) := fun q_ => c_152 ((nI_eq (by omega) (by decide)).mpr q_)
                          refine lv_iconst (v := nI 1) hx hb dX8_hangs_155 (by decide) ?_
                          refine lv_goto (tgt := 160) hx hb dX8_hangs_156 (by decide) ?_
                          exact k_iret hx hb hr hlk I dX8_hangs_160 (by rw [sHangs_ok hoS hcl (Nat.zero_le _) w2 (Nat.zero_le _) pu2 (Nat.zero_le _) (by decide), gHangs, if_neg (show ¬ N (23 + 13 * i + 7) = 1 by omega), if_neg (show ¬ (w = 1 ∧ N (23 + 13 * i + 9) = 0) by omega)]; exact ⟨(show _ = nI (if zTaut pu (N (23 + 13 * i + 3)) (pD N (N (23 + 13 * i + cxf w))) (N (23 + 13 * i + lkf w)) then 1 else 0) from by rw [← htv]; exact congrArg nI (by omega)), rM_qm hC hQ⟩)
                    · have c_56 : w = 1 := (nI_eq (by omega) (by omega)).mp c_56
                      refine lv_aload_n hx hb dX8_hangs_59 rfl (lv_at hl 0 rfl) ?_
                      refine lv_iload_n hx hb dX8_hangs_60 rfl (lv_at hl 1 rfl) ?_
                      refine lv_bipush (v := nI 9) hx hb dX8_hangs_61 (by decide) ?_
                      refine k_calli (k := 0) (As := [.int (nI i), .int (nI 9)]) (rest := []) ⟨hx, hb, hml, hown, hts⟩ (c_X8_of cy D ad l σ i (9) (N (23 + 13 * i + 9)) (by omega) (hM _ (by omega))) (cwV 2 hts gX8_hangs_X8_of rfl rfl rfl (by decide +kernel) ⟨Nat.le_of_ble_eq_true rfl, Nat.le_of_ble_eq_true rfl⟩) E hA I (k_recv E I (by decide) km_0 rfl) rfl hl.1 rfl (lv_room (Nat.le_of_ble_eq_true rfl)) dX8_hangs_63 ⟨Nat.le_of_ble_eq_true rfl, Nat.le_of_ble_eq_true rfl⟩ (fun r_63 σ_63 H locs hp_63 I => ?_)
                      obtain ⟨rfl, rfl⟩ := hp_63
                      refine lv_if_ne (tgt := 72) hx hb dX8_hangs_66 (by decide) (fun c_66 => ?_) (fun c_66 => ?_)
                      · have c_66 : ¬ ((N (23 + 13 * i + 9)) = 0) := fun q_ => c_66 ((nI_eq (by omega) (by decide)).mpr q_)
                        refine lv_aload_n hx hb dX8_hangs_72 rfl (lv_at hl 0 rfl) ?_
                        refine lv_iload_n hx hb dX8_hangs_73 rfl (lv_at hl 1 rfl) ?_
                        refine lv_iload_n hx hb dX8_hangs_74 rfl (lv_at hl 2 rfl) ?_
                        refine lv_iload_n hx hb dX8_hangs_75 rfl (lv_at hl 3 rfl) ?_
                        refine k_callv (k := 0) (As := [.int (nI i), .int (nI w), .int (nI pu)]) (rest := []) ⟨hx, hb, hml, hown, hts⟩ (c_X8_chainOf cy D ad l σ N hN i hi hM w pu w2 (fun z => by omega) pu2) (cwV 3 hts gX8_hangs_X8_chainOf rfl rfl rfl (by decide +kernel) ⟨Nat.le_of_ble_eq_true rfl, Nat.le_of_ble_eq_true rfl⟩) E hA I (k_recv E I (by decide) km_0 rfl) rfl hl.1 rfl (lv_room (Nat.le_of_ble_eq_true rfl)) dX8_hangs_76 ⟨Nat.le_of_ble_eq_true rfl, Nat.le_of_ble_eq_true rfl⟩ (fun σ_76 H locs hp_76 I => ?_)
                        obtain ⟨R, hs_, hr_, hz_⟩ := hp_76
                        have hQ : qm σ σ_76 := ⟨R, hs_, hr_⟩
                        have hM := mN_qm hM hQ
                        obtain ⟨tv, htv⟩ : ∃ z, z = (if zTaut pu (N (23 + 13 * i + 3)) (pD N (N (23 + 13 * i + cxf w))) (N (23 + 13 * i + lkf w)) then 1 else 0) := ⟨_, rfl⟩
                        have tv1 : tv ≤ 1 := by rw [htv]; split <;> omega
                        have f0 : σ_76 0 8 = nI (hg pu (N (23 + 13 * i + 3)) 0 (pD N (N (23 + 13 * i + cxf w))) (N (23 + 13 * i + lkf w))) := by rw [hs_]; exact hz_.1
                        have f1 : σ_76 0 9 = nI (zGround pu (N (23 + 13 * i + 3)) (pD N (N (23 + 13 * i + cxf w))) (N (23 + 13 * i + lkf w))) := by rw [hs_]; exact hz_.2.1
                        have f2 : σ_76 0 10 = nI (zReach pu (N (23 + 13 * i + 3)) (pD N (N (23 + 13 * i + cxf w))) (N (23 + 13 * i + lkf w))) := by rw [hs_]; exact hz_.2.2.1
                        have f3 : σ_76 0 11 = nI (zLift pu (N (23 + 13 * i + 3)) (pD N (N (23 + 13 * i + cxf w))) (N (23 + 13 * i + lkf w))) := by rw [hs_]; exact hz_.2.2.2.1
                        have f4 : σ_76 0 12 = nI tv := by rw [hs_, htv]; exact hz_.2.2.2.2
                        rcases (show k = 0 ∨ k = 1 ∨ k = 2 ∨ k = 3 ∨ k = 4 ∨ k = 5 by omega) with rfl | rfl | rfl | rfl | rfl | rfl
                        · refine lv_iload hx hb dX8_hangs_79 (lv_at hl 4 rfl) ?_
                          refine lv_tableIn (tgt := 116) (off := 35) hx hb dX8_hangs_81 (by decide) (by decide) (by decide) (by decide) ?_
                          refine lv_aload_n hx hb dX8_hangs_116 rfl (lv_at hl 0 rfl) ?_
                          refine k_get (C := RX8) (T := TX8) (N := 13) (v := .int (nI (hg pu (N (23 + 13 * i + 3)) 0 (pD N (N (23 + 13 * i + cxf w))) (N (23 + 13 * i + lkf w))))) hx hb hts hown E I iX8 (0) (by decide) (r0 := σ_76 0) rfl km_0 rfl 8 (by decide) (List.mem_of_getElem? (i := 1) rfl) (congrArg (fun z => some (Value.int z)) f0) dX8_hangs_117 ?_
                          exact k_iret hx hb hr hlk I dX8_hangs_120 (by rw [sHangs_ok hoS hcl (Nat.zero_le _) w2 (Nat.zero_le _) pu2 (Nat.zero_le _) (by decide), gHangs, if_neg (show ¬ N (23 + 13 * i + 7) = 1 by omega), if_neg (show ¬ (w = 1 ∧ N (23 + 13 * i + 9) = 0) by omega)]; exact ⟨rfl, rM_qm hC hQ⟩)
                        · refine lv_iload hx hb dX8_hangs_79 (lv_at hl 4 rfl) ?_
                          refine lv_tableIn (tgt := 121) (off := 40) hx hb dX8_hangs_81 (by decide) (by decide) (by decide) (by decide) ?_
                          refine lv_aload_n hx hb dX8_hangs_121 rfl (lv_at hl 0 rfl) ?_
                          refine k_get (C := RX8) (T := TX8) (N := 13) (v := .int (nI (zGround pu (N (23 + 13 * i + 3)) (pD N (N (23 + 13 * i + cxf w))) (N (23 + 13 * i + lkf w))))) hx hb hts hown E I iX8 (0) (by decide) (r0 := σ_76 0) rfl km_0 rfl 9 (by decide) (List.mem_of_getElem? (i := 2) rfl) (congrArg (fun z => some (Value.int z)) f1) dX8_hangs_122 ?_
                          exact k_iret hx hb hr hlk I dX8_hangs_125 (by rw [sHangs_ok hoS hcl (Nat.zero_le _) w2 (Nat.zero_le _) pu2 (Nat.zero_le _) (by decide), gHangs, if_neg (show ¬ N (23 + 13 * i + 7) = 1 by omega), if_neg (show ¬ (w = 1 ∧ N (23 + 13 * i + 9) = 0) by omega)]; exact ⟨rfl, rM_qm hC hQ⟩)
                        · refine lv_iload hx hb dX8_hangs_79 (lv_at hl 4 rfl) ?_
                          refine lv_tableIn (tgt := 126) (off := 45) hx hb dX8_hangs_81 (by decide) (by decide) (by decide) (by decide) ?_
                          refine lv_aload_n hx hb dX8_hangs_126 rfl (lv_at hl 0 rfl) ?_
                          refine k_get (C := RX8) (T := TX8) (N := 13) (v := .int (nI (zReach pu (N (23 + 13 * i + 3)) (pD N (N (23 + 13 * i + cxf w))) (N (23 + 13 * i + lkf w))))) hx hb hts hown E I iX8 (0) (by decide) (r0 := σ_76 0) rfl km_0 rfl 10 (by decide) (List.mem_of_getElem? (i := 3) rfl) (congrArg (fun z => some (Value.int z)) f2) dX8_hangs_127 ?_
                          exact k_iret hx hb hr hlk I dX8_hangs_130 (by rw [sHangs_ok hoS hcl (Nat.zero_le _) w2 (Nat.zero_le _) pu2 (Nat.zero_le _) (by decide), gHangs, if_neg (show ¬ N (23 + 13 * i + 7) = 1 by omega), if_neg (show ¬ (w = 1 ∧ N (23 + 13 * i + 9) = 0) by omega)]; exact ⟨rfl, rM_qm hC hQ⟩)
                        · refine lv_iload hx hb dX8_hangs_79 (lv_at hl 4 rfl) ?_
                          refine lv_tableIn (tgt := 131) (off := 50) hx hb dX8_hangs_81 (by decide) (by decide) (by decide) (by decide) ?_
                          refine lv_aload_n hx hb dX8_hangs_131 rfl (lv_at hl 0 rfl) ?_
                          refine k_get (C := RX8) (T := TX8) (N := 13) (v := .int (nI (zLift pu (N (23 + 13 * i + 3)) (pD N (N (23 + 13 * i + cxf w))) (N (23 + 13 * i + lkf w))))) hx hb hts hown E I iX8 (0) (by decide) (r0 := σ_76 0) rfl km_0 rfl 11 (by decide) (List.mem_of_getElem? (i := 4) rfl) (congrArg (fun z => some (Value.int z)) f3) dX8_hangs_132 ?_
                          exact k_iret hx hb hr hlk I dX8_hangs_135 (by rw [sHangs_ok hoS hcl (Nat.zero_le _) w2 (Nat.zero_le _) pu2 (Nat.zero_le _) (by decide), gHangs, if_neg (show ¬ N (23 + 13 * i + 7) = 1 by omega), if_neg (show ¬ (w = 1 ∧ N (23 + 13 * i + 9) = 0) by omega)]; exact ⟨rfl, rM_qm hC hQ⟩)
                        · refine lv_iload hx hb dX8_hangs_79 (lv_at hl 4 rfl) ?_
                          refine lv_tableIn (tgt := 136) (off := 55) hx hb dX8_hangs_81 (by decide) (by decide) (by decide) (by decide) ?_
                          refine lv_aload_n hx hb dX8_hangs_136 rfl (lv_at hl 0 rfl) ?_
                          refine lv_aload_n hx hb dX8_hangs_137 rfl (lv_at hl 0 rfl) ?_
                          refine lv_iload_n hx hb dX8_hangs_138 rfl (lv_at hl 1 rfl) ?_
                          refine lv_bipush (v := nI 6) hx hb dX8_hangs_139 (by decide) ?_
                          refine k_calli (k := 0) (As := [.int (nI i), .int (nI 6)]) (rest := [.ref (ad 0)]) ⟨hx, hb, hml, hown, hts⟩ (c_X8_of cy D ad l σ_76 i (6) (N (23 + 13 * i + 6)) (by omega) (hM _ (by omega))) (cwV 2 hts gX8_hangs_X8_of rfl rfl rfl (by decide +kernel) ⟨Nat.le_of_ble_eq_true rfl, Nat.le_of_ble_eq_true rfl⟩) E hA I (k_recv E I (by decide) km_0 rfl) rfl hl.1 rfl (lv_room (Nat.le_of_ble_eq_true rfl)) dX8_hangs_141 ⟨Nat.le_of_ble_eq_true rfl, Nat.le_of_ble_eq_true rfl⟩ (fun r_141 σ_141 H locs hp_141 I => ?_)
                          obtain ⟨rfl, rfl⟩ := hp_141
                          refine k_calli (k := 0) (As := [.int (nI (N (23 + 13 * i + 6)))]) (rest := []) ⟨hx, hb, hml, hown, hts⟩ (c_X8_holding cy D ad l σ_76 tv (zLift pu (N (23 + 13 * i + 3)) (pD N (N (23 + 13 * i + cxf w))) (N (23 + 13 * i + lkf w))) (N (23 + 13 * i + 6)) tv1 (zLift_le _ _ _ _) hsh.2.2.1.2.2.2 f4 f3) (cwV 1 hts gX8_hangs_X8_holding rfl rfl rfl (by decide +kernel) ⟨Nat.le_of_ble_eq_true rfl, Nat.le_of_ble_eq_true rfl⟩) E hA I (k_recv E I (by decide) km_0 rfl) rfl hl.1 rfl (lv_room (Nat.le_of_ble_eq_true rfl)) dX8_hangs_144 ⟨Nat.le_of_ble_eq_true rfl, Nat.le_of_ble_eq_true rfl⟩ (fun r_144 σ_144 H locs hp_144 I => ?_)
                          obtain ⟨rfl, rfl⟩ := hp_144
                          rw [show (if tv = 1 then 0 else N (23 + 13 * i + 6) - 3 * zLift pu (N (23 + 13 * i + 3)) (pD N (N (23 + 13 * i + cxf w))) (N (23 + 13 * i + lkf w))) = zHold pu (N (23 + 13 * i + 3)) (pD N (N (23 + 13 * i + cxf w))) (N (23 + 13 * i + lkf w)) (N (23 + 13 * i + 6)) by rw [htv]; unfold zHold; cases zTaut pu (N (23 + 13 * i + 3)) (pD N (N (23 + 13 * i + cxf w))) (N (23 + 13 * i + lkf w)) <;> rfl]
                          exact k_iret hx hb hr hlk I dX8_hangs_147 (by rw [sHangs_ok hoS hcl (Nat.zero_le _) w2 (Nat.zero_le _) pu2 (Nat.zero_le _) (by decide), gHangs, if_neg (show ¬ N (23 + 13 * i + 7) = 1 by omega), if_neg (show ¬ (w = 1 ∧ N (23 + 13 * i + 9) = 0) by omega)]; exact ⟨rfl, rM_qm hC hQ⟩)
                        · refine lv_iload hx hb dX8_hangs_79 (lv_at hl 4 rfl) ?_
                          refine lv_tableOut (tgt := 148) hx hb dX8_hangs_81 (by decide) (by decide) ?_
                          refine lv_aload_n hx hb dX8_hangs_148 rfl (lv_at hl 0 rfl) ?_
                          refine k_get (C := RX8) (T := TX8) (N := 13) (v := .int (nI tv)) hx hb hts hown E I iX8 (0) (by decide) (r0 := σ_76 0) rfl km_0 rfl 12 (by decide) (List.mem_of_getElem? (i := 5) rfl) (congrArg (fun z => some (Value.int z)) f4) dX8_hangs_149 ?_
                          refine lv_if_eq (tgt := 159) hx hb dX8_hangs_152 (by decide) (fun c_152 => ?_) (fun c_152 => ?_)
                          · have c_152 : tv = 0 := (nI_eq (by omega) (by decide)).mp c_152
                            refine lv_iconst (v := nI 0) hx hb dX8_hangs_159 (by decide) ?_
                            exact k_iret hx hb hr hlk I dX8_hangs_160 (by rw [sHangs_ok hoS hcl (Nat.zero_le _) w2 (Nat.zero_le _) pu2 (Nat.zero_le _) (by decide), gHangs, if_neg (show ¬ N (23 + 13 * i + 7) = 1 by omega), if_neg (show ¬ (w = 1 ∧ N (23 + 13 * i + 9) = 0) by omega)]; exact ⟨(show _ = nI (if zTaut pu (N (23 + 13 * i + 3)) (pD N (N (23 + 13 * i + cxf w))) (N (23 + 13 * i + lkf w)) then 1 else 0) from by rw [← htv]; exact congrArg nI (by omega)), rM_qm hC hQ⟩)
                          · have c_152 : ¬ (tv = 0) := fun q_ => c_152 ((nI_eq (by omega) (by decide)).mpr q_)
                            refine lv_iconst (v := nI 1) hx hb dX8_hangs_155 (by decide) ?_
                            refine lv_goto (tgt := 160) hx hb dX8_hangs_156 (by decide) ?_
                            exact k_iret hx hb hr hlk I dX8_hangs_160 (by rw [sHangs_ok hoS hcl (Nat.zero_le _) w2 (Nat.zero_le _) pu2 (Nat.zero_le _) (by decide), gHangs, if_neg (show ¬ N (23 + 13 * i + 7) = 1 by omega), if_neg (show ¬ (w = 1 ∧ N (23 + 13 * i + 9) = 0) by omega)]; exact ⟨(show _ = nI (if zTaut pu (N (23 + 13 * i + 3)) (pD N (N (23 + 13 * i + cxf w))) (N (23 + 13 * i + lkf w)) then 1 else 0) from by rw [← htv]; exact congrArg nI (by omega)), rM_qm hC hQ⟩)
                      · have c_66 : (N (23 + 13 * i + 9)) = 0 := (nI_eq (by omega) (by decide)).mp c_66
                        refine lv_bipush (v := (-4 : Int32)) hx hb dX8_hangs_69 (by decide) ?_
                        exact k_iret hx hb hr hlk I dX8_hangs_71 (by rw [sHangs_ok hoS hcl (Nat.zero_le _) w2 (Nat.zero_le _) pu2 (Nat.zero_le _) k2, gHangs, if_neg (by omega), if_pos (by omega)]; exact ⟨rfl, hC⟩)
                  · have c_48 : (N (23 + 13 * i + 7)) = 1 := (nI_eq (by omega) (by omega)).mp c_48
                    refine lv_bipush (v := (-2 : Int32)) hx hb dX8_hangs_51 (by decide) ?_
                    exact k_iret hx hb hr hlk I dX8_hangs_53 (by rw [sHangs_ok hoS hcl (Nat.zero_le _) w2 (Nat.zero_le _) pu2 (Nat.zero_le _) k2, gHangs, if_pos (by omega)]; exact ⟨rfl, hC⟩)
                · exact absurd c_35 (by decide)
              · refine lv_if_ne (tgt := 40) hx hb dX8_hangs_35 (by decide) (fun c_35 => ?_) (fun c_35 => ?_)
                · exact absurd c_35 (by decide)
                · refine lv_iconst (v := (-1 : Int32)) hx hb dX8_hangs_38 (by decide) ?_
                  exact k_iret hx hb hr hlk I dX8_hangs_39 (by rw [sHangs_bad (by first | exact fun q => hnS q.1 | exact fun q => g1 q.2.1 | exact fun q => g2 q.2.2.1 | exact fun q => g3 q.2.2.2)]; exact ⟨rfl, hC⟩)
          · refine lv_if_eq (tgt := 38) hx hb dX8_hangs_25 (by decide) (fun c_25 => ?_) (fun c_25 => ?_)
            · refine lv_iconst (v := (-1 : Int32)) hx hb dX8_hangs_38 (by decide) ?_
              exact k_iret hx hb hr hlk I dX8_hangs_39 (by rw [sHangs_bad (by first | exact fun q => hnS q.1 | exact fun q => g1 q.2.1 | exact fun q => g2 q.2.2.1 | exact fun q => g3 q.2.2.2)]; exact ⟨rfl, hC⟩)
            · exact absurd c_25 (by decide)
      · refine lv_if_eq (tgt := 38) hx hb dX8_hangs_14 (by decide) (fun c_14 => ?_) (fun c_14 => ?_)
        · refine lv_iconst (v := (-1 : Int32)) hx hb dX8_hangs_38 (by decide) ?_
          exact k_iret hx hb hr hlk I dX8_hangs_39 (by rw [sHangs_bad (by first | exact fun q => hnS q.1 | exact fun q => g1 q.2.1 | exact fun q => g2 q.2.2.1 | exact fun q => g3 q.2.2.2)]; exact ⟨rfl, hC⟩)
        · exact absurd c_14 (by decide)
  · refine lv_if_eq (tgt := 38) hx hb dX8_hangs_5 (by decide) (fun c_5 => ?_) (fun c_5 => ?_)
    · refine lv_iconst (v := (-1 : Int32)) hx hb dX8_hangs_38 (by decide) ?_
      exact k_iret hx hb hr hlk I dX8_hangs_39 (by rw [sHangs_bad (by first | exact fun q => hnS q.1 | exact fun q => g1 q.2.1 | exact fun q => g2 q.2.2.1 | exact fun q => g3 q.2.2.2)]; exact ⟨rfl, hC⟩)
    · exact absurd c_5 (by decide)
set_option maxHeartbeats 4000000 in
set_option maxRecDepth 100000 in
theorem c_X8_wind (cy : Nat → ClassId) (D : va_G) (ad : Nat → Nat) (l : Launch) (σ : Nat → Nat → Int32) (s0 b x : Int32) (N : Nat → Nat) (P : Nat → Nat → Nat) (np : Nat) (T : Nat → Nat) (nt : Nat) (hC : rM σ (N, P, np, T, nt)) : kMi 6 ad (kcM cy ad) cy D l yX8_wind wsX8_wind ({ frames := 7, cells := 0, slots := 0, locals := 166 }) [.ref (ad 0), .int s0, .int b, .int x] σ (fun r σ' => r = (sWind s0 b x (N, P, np, T, nt)).1 ∧ rM σ' (sWind s0 b x (N, P, np, T, nt)).2) := by
  obtain ⟨hM, hN, hPs, hT⟩ := id hC
  have h5 := hN.1
  have hQ := qm_rf σ
  refine k_entry (cc := cX8_wind) (maxL := 4) (ret := (some .int)) (by decide) rfl (Nat.le_of_ble_eq_true rfl) ?_
  intro p e s m below meth c hx hb hr hml hown hts hlk E I ls hl
  have hA : ∀ q, s.heap.size ≤ q → kA 6 ad s.heap.size q := fun q h => Or.inr h
  have hown : s.vm.findClass RX8 = some m.cls := hown
  have hl : lv_has ls 4 [(0, .ref (ad 0)), (1, .int s0), (2, .int b), (3, .int x)] := hl
  refine lv_aload_n hx hb dX8_wind_0 rfl (lv_at hl 0 rfl) ?_
  refine lv_iload_n hx hb dX8_wind_1 rfl (lv_at hl 1 rfl) ?_
  refine k_calli (k := 0) (As := [.int s0]) (rest := []) ⟨hx, hb, hml, hown, hts⟩ (c_X8_isShip cy D ad l σ (s0) N hN hM) (cwV 1 hts gX8_wind_X8_isShip rfl rfl rfl (by decide +kernel) ⟨Nat.le_of_ble_eq_true rfl, Nat.le_of_ble_eq_true rfl⟩) E hA I (k_recv E I (by decide) km_0 rfl) rfl hl.1 rfl (lv_room (Nat.le_of_ble_eq_true rfl)) dX8_wind_2 ⟨Nat.le_of_ble_eq_true rfl, Nat.le_of_ble_eq_true rfl⟩ (fun r_2 σ_2 H locs hp_2 I => ?_)
  obtain ⟨hk_, rfl⟩ := hp_2
  rcases hk_ with ⟨rfl, g0⟩ | ⟨rfl, hnS⟩
  · obtain ⟨i, hi, rfl⟩ := okS_of g0
    have H_i : i < 5 := by omega
    have hsh := hN.2.2 i hi
    unfold nSh at hsh
    have hoS := okS_nI hi h5.2.2.2.1
    have hcl : (nI i).toNatClampNeg = i := nI_clamp (by omega)
    refine lv_if_eq (tgt := 24) hx hb dX8_wind_5 (by decide) (fun c_5 => ?_) (fun c_5 => ?_)
    · exact absurd c_5 (by decide)
    · refine lv_iload_n hx hb dX8_wind_8 rfl (lv_at hl 2 rfl) ?_
      refine k_calls (As := [.int b]) (rest := []) ⟨hx, hb, hml, hown, hts⟩ (c_X8_isWind l (b)) (va_cwS 1 hts gX8_wind_X8_isWind rfl rfl rfl (by decide +kernel) ⟨Nat.le_of_ble_eq_true rfl, Nat.le_of_ble_eq_true rfl⟩) rfl hl.1 rfl (lv_room (Nat.le_of_ble_eq_true rfl)) dX8_wind_9 ⟨Nat.le_of_ble_eq_true rfl, Nat.le_of_ble_eq_true rfl⟩ (fun r_9 hp_9 => ?_)
      rcases hp_9 with ⟨rfl, g1⟩ | ⟨rfl, g1⟩
      · obtain ⟨bb, b1, b2, rfl⟩ := kT_in (by decide) (by decide) g1
        refine lv_if_eq (tgt := 24) hx hb dX8_wind_12 (by decide) (fun c_12 => ?_) (fun c_12 => ?_)
        · exact absurd c_12 (by decide)
        · refine lv_iload_n hx hb dX8_wind_15 rfl (lv_at hl 3 rfl) ?_
          refine lv_iconst (v := nI 0) hx hb dX8_wind_16 (by decide) ?_
          refine lv_iconst (v := nI 2) hx hb dX8_wind_17 (by decide) ?_
          refine k_calls (As := [.int x, .int (nI 0), .int (nI 2)]) (rest := []) ⟨hx, hb, hml, hown, hts⟩ (c_X8_in l (x) (nI 0) (nI 2)) (va_cwS 3 hts gX8_wind_X8_in rfl rfl rfl (by decide +kernel) ⟨Nat.le_of_ble_eq_true rfl, Nat.le_of_ble_eq_true rfl⟩) rfl hl.1 rfl (lv_room (Nat.le_of_ble_eq_true rfl)) dX8_wind_18 ⟨Nat.le_of_ble_eq_true rfl, Nat.le_of_ble_eq_true rfl⟩ (fun r_18 hp_18 => ?_)
          rcases hp_18 with ⟨rfl, g2⟩ | ⟨rfl, g2⟩
          · obtain ⟨k, k1, k2, rfl⟩ := kT_in (by decide) (by decide) g2
            refine lv_if_ne (tgt := 26) hx hb dX8_wind_21 (by decide) (fun c_21 => ?_) (fun c_21 => ?_)
            · refine lv_aload_n hx hb dX8_wind_26 rfl (lv_at hl 0 rfl) ?_
              refine lv_iload_n hx hb dX8_wind_27 rfl (lv_at hl 1 rfl) ?_
              refine lv_bipush (v := nI 7) hx hb dX8_wind_28 (by decide) ?_
              refine k_calli (k := 0) (As := [.int (nI i), .int (nI 7)]) (rest := []) ⟨hx, hb, hml, hown, hts⟩ (c_X8_of cy D ad l σ i (7) (N (23 + 13 * i + 7)) (by omega) (hM _ (by omega))) (cwV 2 hts gX8_wind_X8_of rfl rfl rfl (by decide +kernel) ⟨Nat.le_of_ble_eq_true rfl, Nat.le_of_ble_eq_true rfl⟩) E hA I (k_recv E I (by decide) km_0 rfl) rfl hl.1 rfl (lv_room (Nat.le_of_ble_eq_true rfl)) dX8_wind_30 ⟨Nat.le_of_ble_eq_true rfl, Nat.le_of_ble_eq_true rfl⟩ (fun r_30 σ_30 H locs hp_30 I => ?_)
              obtain ⟨rfl, rfl⟩ := hp_30
              refine lv_iconst (v := nI 1) hx hb dX8_wind_33 (by decide) ?_
              refine lv_icmp_ne (tgt := 40) hx hb dX8_wind_34 (by decide) (fun c_34 => ?_) (fun c_34 => ?_)
              · have c_34 : ¬ ((N (23 + 13 * i + 7)) = 1) := fun q_ => c_34 ((nI_eq (by omega) (by omega)).mpr q_)
                rcases (show k = 0 ∨ k = 1 ∨ k = 2 by omega) with rfl | rfl | rfl
                · refine lv_iload_n hx hb dX8_wind_40 rfl (lv_at hl 3 rfl) ?_
                  refine lv_if_ne (tgt := 53) hx hb dX8_wind_41 (by decide) (fun c_41 => ?_) (fun c_41 => ?_)
                  · exact absurd c_41 (by decide)
                  · refine lv_aload_n hx hb dX8_wind_44 rfl (lv_at hl 0 rfl) ?_
                    refine lv_iload_n hx hb dX8_wind_45 rfl (lv_at hl 1 rfl) ?_
                    refine lv_iload_n hx hb dX8_wind_46 rfl (lv_at hl 2 rfl) ?_
                    refine k_calli (k := 0) (As := [.int (nI i), .int (nI bb)]) (rest := []) ⟨hx, hb, hml, hown, hts⟩ (c_X8_pull cy D ad l σ i bb (N (23 + 13 * i + 5)) H_i hsh.2.2.1.2.1 b2 (hM _ (by omega))) (cwV 2 hts gX8_wind_X8_pull rfl rfl rfl (by decide +kernel) ⟨Nat.le_of_ble_eq_true rfl, Nat.le_of_ble_eq_true rfl⟩) E hA I (k_recv E I (by decide) km_0 rfl) rfl hl.1 rfl (lv_room (Nat.le_of_ble_eq_true rfl)) dX8_wind_47 ⟨Nat.le_of_ble_eq_true rfl, Nat.le_of_ble_eq_true rfl⟩ (fun r_47 σ_47 H locs hp_47 I => ?_)
                    obtain ⟨rfl, rfl⟩ := hp_47
                    refine lv_goto (tgt := 81) hx hb dX8_wind_50 (by decide) ?_
                    exact k_iret hx hb hr hlk I dX8_wind_81 (by rw [sWind_ok hoS hcl (Nat.zero_le _) b2 (Nat.zero_le _) (by decide), gWind, if_neg (by omega)]; first | exact ⟨rfl, hC⟩ | exact ⟨rfl, rM_qm hC hq_⟩ | (rw [if_neg (by decide), if_pos rfl]; exact ⟨by first | (rw [if_pos g3.2]) | (rw [if_neg (fun q => g3 ⟨by omega, q⟩)]), rM_qm hC hQ⟩))
                · refine lv_iload_n hx hb dX8_wind_40 rfl (lv_at hl 3 rfl) ?_
                  refine lv_if_ne (tgt := 53) hx hb dX8_wind_41 (by decide) (fun c_41 => ?_) (fun c_41 => ?_)
                  · refine lv_iload_n hx hb dX8_wind_53 rfl (lv_at hl 3 rfl) ?_
                    refine lv_iconst (v := nI 1) hx hb dX8_wind_54 (by decide) ?_
                    refine lv_icmp_ne (tgt := 75) hx hb dX8_wind_55 (by decide) (fun c_55 => ?_) (fun c_55 => ?_)
                    · exact absurd c_55 (by decide)
                    · refine lv_aload_n hx hb dX8_wind_58 rfl (lv_at hl 0 rfl) ?_
                      refine lv_iload_n hx hb dX8_wind_59 rfl (lv_at hl 1 rfl) ?_
                      refine lv_iload_n hx hb dX8_wind_60 rfl (lv_at hl 2 rfl) ?_
                      refine k_calli (k := 0) (As := [.int (nI i), .int (nI bb)]) (rest := []) ⟨hx, hb, hml, hown, hts⟩ (c_X8_holds cy D ad l σ N hN i hi hM bb b2) (cwV 2 hts gX8_wind_X8_holds rfl rfl rfl (by decide +kernel) ⟨Nat.le_of_ble_eq_true rfl, Nat.le_of_ble_eq_true rfl⟩) E hA I (k_recv E I (by decide) km_0 rfl) rfl hl.1 rfl (lv_room (Nat.le_of_ble_eq_true rfl)) dX8_wind_61 ⟨Nat.le_of_ble_eq_true rfl, Nat.le_of_ble_eq_true rfl⟩ (fun r_61 σ_61 H locs hp_61 I => ?_)
                      obtain ⟨hk_, hq_⟩ := hp_61
                      have hQ := qm_tr hQ hq_
                      have hM := mN_qm hM hq_
                      rcases hk_ with ⟨rfl, g3⟩ | ⟨rfl, g3⟩
                      · refine lv_if_eq (tgt := 71) hx hb dX8_wind_64 (by decide) (fun c_64 => ?_) (fun c_64 => ?_)
                        · exact absurd c_64 (by decide)
                        · refine lv_iconst (v := nI 1) hx hb dX8_wind_67 (by decide) ?_
                          refine lv_goto (tgt := 81) hx hb dX8_wind_68 (by decide) ?_
                          exact k_iret hx hb hr hlk I dX8_wind_81 (by rw [sWind_ok hoS hcl (Nat.zero_le _) b2 (Nat.zero_le _) (by decide), gWind, if_neg (by omega)]; first | exact ⟨rfl, hC⟩ | exact ⟨rfl, rM_qm hC hq_⟩ | (rw [if_neg (by decide), if_pos rfl]; exact ⟨by first | (rw [if_pos g3.2]) | (rw [if_neg (fun q => g3 ⟨by omega, q⟩)]), rM_qm hC hQ⟩))
                      · refine lv_if_eq (tgt := 71) hx hb dX8_wind_64 (by decide) (fun c_64 => ?_) (fun c_64 => ?_)
                        · refine lv_iconst (v := nI 0) hx hb dX8_wind_71 (by decide) ?_
                          refine lv_goto (tgt := 81) hx hb dX8_wind_72 (by decide) ?_
                          exact k_iret hx hb hr hlk I dX8_wind_81 (by rw [sWind_ok hoS hcl (Nat.zero_le _) b2 (Nat.zero_le _) (by decide), gWind, if_neg (by omega)]; first | exact ⟨rfl, hC⟩ | exact ⟨rfl, rM_qm hC hq_⟩ | (rw [if_neg (by decide), if_pos rfl]; exact ⟨by first | (rw [if_pos g3.2]) | (rw [if_neg (fun q => g3 ⟨by omega, q⟩)]), rM_qm hC hQ⟩))
                        · exact absurd c_64 (by decide)
                  · exact absurd c_41 (by decide)
                · refine lv_iload_n hx hb dX8_wind_40 rfl (lv_at hl 3 rfl) ?_
                  refine lv_if_ne (tgt := 53) hx hb dX8_wind_41 (by decide) (fun c_41 => ?_) (fun c_41 => ?_)
                  · refine lv_iload_n hx hb dX8_wind_53 rfl (lv_at hl 3 rfl) ?_
                    refine lv_iconst (v := nI 1) hx hb dX8_wind_54 (by decide) ?_
                    refine lv_icmp_ne (tgt := 75) hx hb dX8_wind_55 (by decide) (fun c_55 => ?_) (fun c_55 => ?_)
                    · refine lv_aload_n hx hb dX8_wind_75 rfl (lv_at hl 0 rfl) ?_
                      refine lv_iload_n hx hb dX8_wind_76 rfl (lv_at hl 1 rfl) ?_
                      refine lv_iload_n hx hb dX8_wind_77 rfl (lv_at hl 2 rfl) ?_
                      refine k_calli (k := 0) (As := [.int (nI i), .int (nI bb)]) (rest := []) ⟨hx, hb, hml, hown, hts⟩ (c_X8_swing cy D ad l σ N hN i hi hM bb b2) (cwV 2 hts gX8_wind_X8_swing rfl rfl rfl (by decide +kernel) ⟨Nat.le_of_ble_eq_true rfl, Nat.le_of_ble_eq_true rfl⟩) E hA I (k_recv E I (by decide) km_0 rfl) rfl hl.1 rfl (lv_room (Nat.le_of_ble_eq_true rfl)) dX8_wind_78 ⟨Nat.le_of_ble_eq_true rfl, Nat.le_of_ble_eq_true rfl⟩ (fun r_78 σ_78 H locs hp_78 I => ?_)
                      obtain ⟨rfl, hq_⟩ := hp_78
                      exact k_iret hx hb hr hlk I dX8_wind_81 (by rw [sWind_ok hoS hcl (Nat.zero_le _) b2 (Nat.zero_le _) (by decide), gWind, if_neg (by omega)]; first | exact ⟨rfl, hC⟩ | exact ⟨rfl, rM_qm hC hq_⟩ | (rw [if_neg (by decide), if_pos rfl]; exact ⟨by first | (rw [if_pos g3.2]) | (rw [if_neg (fun q => g3 ⟨by omega, q⟩)]), rM_qm hC hQ⟩))
                    · exact absurd c_55 (by decide)
                  · exact absurd c_41 (by decide)
              · have c_34 : (N (23 + 13 * i + 7)) = 1 := (nI_eq (by omega) (by omega)).mp c_34
                refine lv_bipush (v := (-2 : Int32)) hx hb dX8_wind_37 (by decide) ?_
                exact k_iret hx hb hr hlk I dX8_wind_39 (by rw [sWind_ok hoS hcl (Nat.zero_le _) b2 (Nat.zero_le _) k2, gWind, if_pos (by omega)]; exact ⟨rfl, hC⟩)
            · exact absurd c_21 (by decide)
          · refine lv_if_ne (tgt := 26) hx hb dX8_wind_21 (by decide) (fun c_21 => ?_) (fun c_21 => ?_)
            · exact absurd c_21 (by decide)
            · refine lv_iconst (v := (-1 : Int32)) hx hb dX8_wind_24 (by decide) ?_
              exact k_iret hx hb hr hlk I dX8_wind_25 (by rw [sWind_bad (by first | exact fun q => hnS q.1 | exact fun q => g1 q.2.1 | exact fun q => g2 q.2.2)]; exact ⟨rfl, hC⟩)
      · refine lv_if_eq (tgt := 24) hx hb dX8_wind_12 (by decide) (fun c_12 => ?_) (fun c_12 => ?_)
        · refine lv_iconst (v := (-1 : Int32)) hx hb dX8_wind_24 (by decide) ?_
          exact k_iret hx hb hr hlk I dX8_wind_25 (by rw [sWind_bad (by first | exact fun q => hnS q.1 | exact fun q => g1 q.2.1 | exact fun q => g2 q.2.2)]; exact ⟨rfl, hC⟩)
        · exact absurd c_12 (by decide)
  · refine lv_if_eq (tgt := 24) hx hb dX8_wind_5 (by decide) (fun c_5 => ?_) (fun c_5 => ?_)
    · refine lv_iconst (v := (-1 : Int32)) hx hb dX8_wind_24 (by decide) ?_
      exact k_iret hx hb hr hlk I dX8_wind_25 (by rw [sWind_bad (by first | exact fun q => hnS q.1 | exact fun q => g1 q.2.1 | exact fun q => g2 q.2.2)]; exact ⟨rfl, hC⟩)
    · exact absurd c_5 (by decide)
set_option maxHeartbeats 4000000 in
set_option maxRecDepth 100000 in
theorem c_X8_areApart (cy : Nat → ClassId) (D : va_G) (ad : Nat → Nat) (l : Launch) (σ : Nat → Nat → Int32) (N : Nat → Nat) (hN : nOk N) (i : Nat) (hi : i < N 1) (t : Nat) (ht : t < N 1) (hM : mN σ N) (b : Nat) (hb20 : b ≤ 20) : kMi 6 ad (kcM cy ad) cy D l yX8_areApart wsX8_areApart ({ frames := 6, cells := 0, slots := 0, locals := 141 }) [.ref (ad 0), .int (nI i), .int (nI t), .int (nI b)] σ (fun r σ' => kT r (pClr N i t (pS N b i) (pS N b t) = true) ∧ qm σ σ') := by
  have h5 := hN.1
  have H_i : i < 5 := by omega
  have hsh := hN.2.2 i hi
  unfold nSh at hsh
  have H_t : t < 5 := by omega
  have hst := hN.2.2 t ht
  unfold nSh at hst
  have hQ := qm_rf σ
  have hX : dd (N (23 + 13 * i)) (N (23 + 13 * t)) * dd (N (23 + 13 * i)) (N (23 + 13 * t)) ≤ 20 * 20 := dd_le (by omega) (by omega)
  have hY : dd (N (23 + 13 * i + 1)) (N (23 + 13 * t + 1)) * dd (N (23 + 13 * i + 1)) (N (23 + 13 * t + 1)) ≤ 20 * 20 := dd_le (by omega) (by omega)
  have ha : pS N b i ≤ 1290 := pSw_le hsh.2.1.2.2.2 hsh.1.2.2.2
  have hx9 : pS N b t ≤ 1290 := pSw_le hst.2.1.2.2.2 hst.1.2.2.2
  have hA9 : (pS N b i + pS N b t) * (pS N b i + pS N b t) ≤ 2580 * 2580 := sq_mono (by omega)
  refine k_entry (cc := cX8_areApart) (maxL := 7) (ret := (some .boolean)) (by decide) rfl (Nat.le_of_ble_eq_true rfl) ?_
  intro p e s m below meth c hx hb hr hml hown hts hlk E I ls hl
  have hA : ∀ q, s.heap.size ≤ q → kA 6 ad s.heap.size q := fun q h => Or.inr h
  have hown : s.vm.findClass RX8 = some m.cls := hown
  have hl : lv_has ls 7 [(0, .ref (ad 0)), (1, .int (nI i)), (2, .int (nI t)), (3, .int (nI b))] := hl
  refine lv_aload_n hx hb dX8_areApart_0 rfl (lv_at hl 0 rfl) ?_
  refine lv_iload_n hx hb dX8_areApart_1 rfl (lv_at hl 1 rfl) ?_
  refine lv_bipush (v := nI 7) hx hb dX8_areApart_2 (by decide) ?_
  refine k_calli (k := 0) (As := [.int (nI i), .int (nI 7)]) (rest := []) ⟨hx, hb, hml, hown, hts⟩ (c_X8_of cy D ad l σ i (7) (N (23 + 13 * i + 7)) (by omega) (hM _ (by omega))) (cwV 2 hts gX8_areApart_X8_of rfl rfl rfl (by decide +kernel) ⟨Nat.le_of_ble_eq_true rfl, Nat.le_of_ble_eq_true rfl⟩) E hA I (k_recv E I (by decide) km_0 rfl) rfl hl.1 rfl (lv_room (Nat.le_of_ble_eq_true rfl)) dX8_areApart_4 ⟨Nat.le_of_ble_eq_true rfl, Nat.le_of_ble_eq_true rfl⟩ (fun r_4 σ_4 H locs hp_4 I => ?_)
  obtain ⟨rfl, rfl⟩ := hp_4
  refine lv_iconst (v := nI 1) hx hb dX8_areApart_7 (by decide) ?_
  refine lv_icmp_eq (tgt := 22) hx hb dX8_areApart_8 (by decide) (fun c_8 => ?_) (fun c_8 => ?_)
  · have c_8 : (N (23 + 13 * i + 7)) = 1 := (nI_eq (by omega) (by omega)).mp c_8
    refine lv_iconst (v := nI 1) hx hb dX8_areApart_22 (by decide) ?_
    exact k_zret hx hb hr (by decide) hlk I dX8_areApart_23 (⟨kT_1 (by unfold pClr; simp; omega), hQ⟩)
  · have c_8 : ¬ ((N (23 + 13 * i + 7)) = 1) := fun q_ => c_8 ((nI_eq (by omega) (by omega)).mpr q_)
    refine lv_aload_n hx hb dX8_areApart_11 rfl (lv_at hl 0 rfl) ?_
    refine lv_iload_n hx hb dX8_areApart_12 rfl (lv_at hl 2 rfl) ?_
    refine lv_bipush (v := nI 7) hx hb dX8_areApart_13 (by decide) ?_
    refine k_calli (k := 0) (As := [.int (nI t), .int (nI 7)]) (rest := []) ⟨hx, hb, hml, hown, hts⟩ (c_X8_of cy D ad l σ t (7) (N (23 + 13 * t + 7)) (by omega) (hM _ (by omega))) (cwV 2 hts gX8_areApart_X8_of rfl rfl rfl (by decide +kernel) ⟨Nat.le_of_ble_eq_true rfl, Nat.le_of_ble_eq_true rfl⟩) E hA I (k_recv E I (by decide) km_0 rfl) rfl hl.1 rfl (lv_room (Nat.le_of_ble_eq_true rfl)) dX8_areApart_15 ⟨Nat.le_of_ble_eq_true rfl, Nat.le_of_ble_eq_true rfl⟩ (fun r_15 σ_15 H locs hp_15 I => ?_)
    obtain ⟨rfl, rfl⟩ := hp_15
    refine lv_iconst (v := nI 1) hx hb dX8_areApart_18 (by decide) ?_
    refine lv_icmp_ne (tgt := 24) hx hb dX8_areApart_19 (by decide) (fun c_19 => ?_) (fun c_19 => ?_)
    · have c_19 : ¬ ((N (23 + 13 * t + 7)) = 1) := fun q_ => c_19 ((nI_eq (by omega) (by omega)).mpr q_)
      refine lv_aload_n hx hb dX8_areApart_24 rfl (lv_at hl 0 rfl) ?_
      refine lv_iload_n hx hb dX8_areApart_25 rfl (lv_at hl 1 rfl) ?_
      refine lv_iload_n hx hb dX8_areApart_26 rfl (lv_at hl 3 rfl) ?_
      refine k_calli (k := 0) (As := [.int (nI i), .int (nI b)]) (rest := []) ⟨hx, hb, hml, hown, hts⟩ (c_X8_swing cy D ad l σ N hN i hi hM b hb20) (cwV 2 hts gX8_areApart_X8_swing rfl rfl rfl (by decide +kernel) ⟨Nat.le_of_ble_eq_true rfl, Nat.le_of_ble_eq_true rfl⟩) E hA I (k_recv E I (by decide) km_0 rfl) rfl hl.1 rfl (lv_room (Nat.le_of_ble_eq_true rfl)) dX8_areApart_27 ⟨Nat.le_of_ble_eq_true rfl, Nat.le_of_ble_eq_true rfl⟩ (fun r_27 σ_27 H locs hp_27 I => ?_)
      obtain ⟨rfl, hq_⟩ := hp_27
      have hQ := qm_tr hQ hq_
      have hM := mN_qm hM hq_
      refine lv_aload_n hx hb dX8_areApart_30 rfl (lv_at hl 0 rfl) ?_
      refine lv_iload_n hx hb dX8_areApart_31 rfl (lv_at hl 2 rfl) ?_
      refine lv_iload_n hx hb dX8_areApart_32 rfl (lv_at hl 3 rfl) ?_
      refine k_calli (k := 0) (As := [.int (nI t), .int (nI b)]) (rest := [.int (nI (pS N b i))]) ⟨hx, hb, hml, hown, hts⟩ (c_X8_swing cy D ad l σ_27 N hN t ht hM b hb20) (cwV 2 hts gX8_areApart_X8_swing rfl rfl rfl (by decide +kernel) ⟨Nat.le_of_ble_eq_true rfl, Nat.le_of_ble_eq_true rfl⟩) E hA I (k_recv E I (by decide) km_0 rfl) rfl hl.1 rfl (lv_room (Nat.le_of_ble_eq_true rfl)) dX8_areApart_33 ⟨Nat.le_of_ble_eq_true rfl, Nat.le_of_ble_eq_true rfl⟩ (fun r_33 σ_33 H locs hp_33 I => ?_)
      obtain ⟨rfl, hq_⟩ := hp_33
      have hQ := qm_tr hQ hq_
      have hM := mN_qm hM hq_
      refine lv_iadd hx hb dX8_areApart_36 ?_
      rw [nI_add]
      refine lv_istore (lv' := [(4, .int (nI ((pS N b i) + (pS N b t)))), (0, .ref (ad 0)), (1, .int (nI i)), (2, .int (nI t)), (3, .int (nI b))]) hx hb dX8_areApart_37 hl (by decide) rfl (fun ls hl => ?_)
      refine lv_bipush (v := nI 10) hx hb dX8_areApart_39 (by decide) ?_
      refine lv_aload_n hx hb dX8_areApart_41 rfl (lv_at hl 1 rfl) ?_
      refine lv_iload_n hx hb dX8_areApart_42 rfl (lv_at hl 2 rfl) ?_
      refine lv_iconst (v := nI 0) hx hb dX8_areApart_43 (by decide) ?_
      refine k_calli (k := 0) (As := [.int (nI i), .int (nI 0)]) (rest := [.int (nI 10)]) ⟨hx, hb, hml, hown, hts⟩ (c_X8_of cy D ad l σ_33 i (0) (N (23 + 13 * i)) (by omega) (hM _ (by omega))) (cwV 2 hts gX8_areApart_X8_of rfl rfl rfl (by decide +kernel) ⟨Nat.le_of_ble_eq_true rfl, Nat.le_of_ble_eq_true rfl⟩) E hA I (k_recv E I (by decide) km_0 rfl) rfl hl.1 rfl (lv_room (Nat.le_of_ble_eq_true rfl)) dX8_areApart_44 ⟨Nat.le_of_ble_eq_true rfl, Nat.le_of_ble_eq_true rfl⟩ (fun r_44 σ_44 H locs hp_44 I => ?_)
      obtain ⟨rfl, rfl⟩ := hp_44
      refine lv_aload_n hx hb dX8_areApart_47 rfl (lv_at hl 1 rfl) ?_
      refine lv_iload_n hx hb dX8_areApart_48 rfl (lv_at hl 3 rfl) ?_
      refine lv_iconst (v := nI 0) hx hb dX8_areApart_49 (by decide) ?_
      refine k_calli (k := 0) (As := [.int (nI t), .int (nI 0)]) (rest := [.int (nI (N (23 + 13 * i))), .int (nI 10)]) ⟨hx, hb, hml, hown, hts⟩ (c_X8_of cy D ad l σ_33 t (0) (N (23 + 13 * t)) (by omega) (hM _ (by omega))) (cwV 2 hts gX8_areApart_X8_of rfl rfl rfl (by decide +kernel) ⟨Nat.le_of_ble_eq_true rfl, Nat.le_of_ble_eq_true rfl⟩) E hA I (k_recv E I (by decide) km_0 rfl) rfl hl.1 rfl (lv_room (Nat.le_of_ble_eq_true rfl)) dX8_areApart_50 ⟨Nat.le_of_ble_eq_true rfl, Nat.le_of_ble_eq_true rfl⟩ (fun r_50 σ_50 H locs hp_50 I => ?_)
      obtain ⟨rfl, rfl⟩ := hp_50
      refine lv_isub hx hb dX8_areApart_53 ?_
      refine lv_imul hx hb dX8_areApart_54 ?_
      refine lv_istore (lv' := [(5, .int ((nI 10) * ((nI (N (23 + 13 * i))) - (nI (N (23 + 13 * t)))))), (4, .int (nI ((pS N b i) + (pS N b t)))), (0, .ref (ad 0)), (1, .int (nI i)), (2, .int (nI t)), (3, .int (nI b))]) hx hb dX8_areApart_55 hl (by decide) rfl (fun ls hl => ?_)
      refine lv_bipush (v := nI 10) hx hb dX8_areApart_57 (by decide) ?_
      refine lv_aload_n hx hb dX8_areApart_59 rfl (lv_at hl 2 rfl) ?_
      refine lv_iload_n hx hb dX8_areApart_60 rfl (lv_at hl 3 rfl) ?_
      refine lv_iconst (v := nI 1) hx hb dX8_areApart_61 (by decide) ?_
      refine k_calli (k := 0) (As := [.int (nI i), .int (nI 1)]) (rest := [.int (nI 10)]) ⟨hx, hb, hml, hown, hts⟩ (c_X8_of cy D ad l σ_33 i (1) (N (23 + 13 * i + 1)) (by omega) (hM _ (by omega))) (cwV 2 hts gX8_areApart_X8_of rfl rfl rfl (by decide +kernel) ⟨Nat.le_of_ble_eq_true rfl, Nat.le_of_ble_eq_true rfl⟩) E hA I (k_recv E I (by decide) km_0 rfl) rfl hl.1 rfl (lv_room (Nat.le_of_ble_eq_true rfl)) dX8_areApart_62 ⟨Nat.le_of_ble_eq_true rfl, Nat.le_of_ble_eq_true rfl⟩ (fun r_62 σ_62 H locs hp_62 I => ?_)
      obtain ⟨rfl, rfl⟩ := hp_62
      refine lv_aload_n hx hb dX8_areApart_65 rfl (lv_at hl 2 rfl) ?_
      refine lv_iload_n hx hb dX8_areApart_66 rfl (lv_at hl 4 rfl) ?_
      refine lv_iconst (v := nI 1) hx hb dX8_areApart_67 (by decide) ?_
      refine k_calli (k := 0) (As := [.int (nI t), .int (nI 1)]) (rest := [.int (nI (N (23 + 13 * i + 1))), .int (nI 10)]) ⟨hx, hb, hml, hown, hts⟩ (c_X8_of cy D ad l σ_33 t (1) (N (23 + 13 * t + 1)) (by omega) (hM _ (by omega))) (cwV 2 hts gX8_areApart_X8_of rfl rfl rfl (by decide +kernel) ⟨Nat.le_of_ble_eq_true rfl, Nat.le_of_ble_eq_true rfl⟩) E hA I (k_recv E I (by decide) km_0 rfl) rfl hl.1 rfl (lv_room (Nat.le_of_ble_eq_true rfl)) dX8_areApart_68 ⟨Nat.le_of_ble_eq_true rfl, Nat.le_of_ble_eq_true rfl⟩ (fun r_68 σ_68 H locs hp_68 I => ?_)
      obtain ⟨rfl, rfl⟩ := hp_68
      refine lv_isub hx hb dX8_areApart_71 ?_
      refine lv_imul hx hb dX8_areApart_72 ?_
      refine lv_istore (lv' := [(6, .int ((nI 10) * ((nI (N (23 + 13 * i + 1))) - (nI (N (23 + 13 * t + 1)))))), (5, .int ((nI 10) * ((nI (N (23 + 13 * i))) - (nI (N (23 + 13 * t)))))), (4, .int (nI ((pS N b i) + (pS N b t)))), (0, .ref (ad 0)), (1, .int (nI i)), (2, .int (nI t)), (3, .int (nI b))]) hx hb dX8_areApart_73 hl (by decide) rfl (fun ls hl => ?_)
      refine lv_iload hx hb dX8_areApart_75 (lv_at hl 1 rfl) ?_
      refine lv_iload hx hb dX8_areApart_77 (lv_at hl 1 rfl) ?_
      refine lv_imul hx hb dX8_areApart_79 ?_
      refine lv_topi (fun t_80 et_80 => ?_)
      have et_80 : t_80 = nI (100 * (dd (N (23 + 13 * i)) (N (23 + 13 * t)) * dd (N (23 + 13 * i)) (N (23 + 13 * t)))) := et_80.trans (ksq_dd _ _)
      subst et_80
      refine lv_iload hx hb dX8_areApart_80 (lv_at hl 0 rfl) ?_
      refine lv_iload hx hb dX8_areApart_82 (lv_at hl 0 rfl) ?_
      refine lv_imul hx hb dX8_areApart_84 ?_
      refine lv_topi (fun t_85 et_85 => ?_)
      have et_85 : t_85 = nI (100 * (dd (N (23 + 13 * i + 1)) (N (23 + 13 * t + 1)) * dd (N (23 + 13 * i + 1)) (N (23 + 13 * t + 1)))) := et_85.trans (ksq_dd _ _)
      subst et_85
      refine lv_iadd hx hb dX8_areApart_85 ?_
      rw [nI_add]
      refine lv_iload hx hb dX8_areApart_86 (lv_at hl 2 rfl) ?_
      refine lv_iload hx hb dX8_areApart_88 (lv_at hl 2 rfl) ?_
      refine lv_imul hx hb dX8_areApart_90 ?_
      rw [pk_mul]
      refine lv_icmp_lt (tgt := 98) hx hb dX8_areApart_91 (by decide) (fun c_91 => ?_) (fun c_91 => ?_)
      · have c_91 : (((100 * (dd (N (23 + 13 * i)) (N (23 + 13 * t)) * dd (N (23 + 13 * i)) (N (23 + 13 * t))))) + ((100 * (dd (N (23 + 13 * i + 1)) (N (23 + 13 * t + 1)) * dd (N (23 + 13 * i + 1)) (N (23 + 13 * t + 1)))))) < (((pS N b i) + (pS N b t)) * ((pS N b i) + (pS N b t))) := (nI_ltI (by omega) (by omega)).mp c_91
        refine lv_iconst (v := nI 0) hx hb dX8_areApart_98 (by decide) ?_
        exact k_zret hx hb hr (by decide) hlk I dX8_areApart_99 (⟨by first | exact kT_1 (by unfold pClr pFar; simp; omega) | exact kT_0 (by unfold pClr pFar; simp; omega), hQ⟩)
      · have c_91 : ¬ ((((100 * (dd (N (23 + 13 * i)) (N (23 + 13 * t)) * dd (N (23 + 13 * i)) (N (23 + 13 * t))))) + ((100 * (dd (N (23 + 13 * i + 1)) (N (23 + 13 * t + 1)) * dd (N (23 + 13 * i + 1)) (N (23 + 13 * t + 1)))))) < (((pS N b i) + (pS N b t)) * ((pS N b i) + (pS N b t)))) := fun q_ => c_91 ((nI_ltI (by omega) (by omega)).mpr q_)
        refine lv_iconst (v := nI 1) hx hb dX8_areApart_94 (by decide) ?_
        refine lv_goto (tgt := 99) hx hb dX8_areApart_95 (by decide) ?_
        exact k_zret hx hb hr (by decide) hlk I dX8_areApart_99 (⟨by first | exact kT_1 (by unfold pClr pFar; simp; omega) | exact kT_0 (by unfold pClr pFar; simp; omega), hQ⟩)
    · have c_19 : (N (23 + 13 * t + 7)) = 1 := (nI_eq (by omega) (by omega)).mp c_19
      refine lv_iconst (v := nI 1) hx hb dX8_areApart_22 (by decide) ?_
      exact k_zret hx hb hr (by decide) hlk I dX8_areApart_23 (⟨kT_1 (by unfold pClr; simp; omega), hQ⟩)
set_option maxHeartbeats 4000000 in
set_option maxRecDepth 100000 in
theorem c_X8_apart (cy : Nat → ClassId) (D : va_G) (ad : Nat → Nat) (l : Launch) (σ : Nat → Nat → Int32) (s0 t0 b : Int32) (N : Nat → Nat) (P : Nat → Nat → Nat) (np : Nat) (T : Nat → Nat) (nt : Nat) (hC : rM σ (N, P, np, T, nt)) : kMi 6 ad (kcM cy ad) cy D l yX8_apart wsX8_apart ({ frames := 7, cells := 0, slots := 0, locals := 167 }) [.ref (ad 0), .int s0, .int t0, .int b] σ (fun r σ' => r = (sApart s0 t0 b (N, P, np, T, nt)).1 ∧ rM σ' (sApart s0 t0 b (N, P, np, T, nt)).2) := by
  obtain ⟨hM, hN, hPs, hT⟩ := id hC
  have h5 := hN.1
  refine k_entry (cc := cX8_apart) (maxL := 4) (ret := (some .int)) (by decide) rfl (Nat.le_of_ble_eq_true rfl) ?_
  intro p e s m below meth c hx hb hr hml hown hts hlk E I ls hl
  have hA : ∀ q, s.heap.size ≤ q → kA 6 ad s.heap.size q := fun q h => Or.inr h
  have hown : s.vm.findClass RX8 = some m.cls := hown
  have hl : lv_has ls 4 [(0, .ref (ad 0)), (1, .int s0), (2, .int t0), (3, .int b)] := hl
  refine lv_aload_n hx hb dX8_apart_0 rfl (lv_at hl 0 rfl) ?_
  refine lv_iload_n hx hb dX8_apart_1 rfl (lv_at hl 1 rfl) ?_
  refine k_calli (k := 0) (As := [.int s0]) (rest := []) ⟨hx, hb, hml, hown, hts⟩ (c_X8_isShip cy D ad l σ (s0) N hN hM) (cwV 1 hts gX8_apart_X8_isShip rfl rfl rfl (by decide +kernel) ⟨Nat.le_of_ble_eq_true rfl, Nat.le_of_ble_eq_true rfl⟩) E hA I (k_recv E I (by decide) km_0 rfl) rfl hl.1 rfl (lv_room (Nat.le_of_ble_eq_true rfl)) dX8_apart_2 ⟨Nat.le_of_ble_eq_true rfl, Nat.le_of_ble_eq_true rfl⟩ (fun r_2 σ_2 H locs hp_2 I => ?_)
  obtain ⟨hk_, rfl⟩ := hp_2
  rcases hk_ with ⟨rfl, g0⟩ | ⟨rfl, hnS⟩
  · obtain ⟨i, hi, rfl⟩ := okS_of g0
    have H_i : i < 5 := by omega
    have hsh := hN.2.2 i hi
    unfold nSh at hsh
    have hoS := okS_nI hi h5.2.2.2.1
    have hcl : (nI i).toNatClampNeg = i := nI_clamp (by omega)
    refine lv_if_eq (tgt := 28) hx hb dX8_apart_5 (by decide) (fun c_5 => ?_) (fun c_5 => ?_)
    · exact absurd c_5 (by decide)
    · refine lv_aload_n hx hb dX8_apart_8 rfl (lv_at hl 0 rfl) ?_
      refine lv_iload_n hx hb dX8_apart_9 rfl (lv_at hl 2 rfl) ?_
      refine k_calli (k := 0) (As := [.int t0]) (rest := []) ⟨hx, hb, hml, hown, hts⟩ (c_X8_isShip cy D ad l σ (t0) N hN hM) (cwV 1 hts gX8_apart_X8_isShip rfl rfl rfl (by decide +kernel) ⟨Nat.le_of_ble_eq_true rfl, Nat.le_of_ble_eq_true rfl⟩) E hA I (k_recv E I (by decide) km_0 rfl) rfl hl.1 rfl (lv_room (Nat.le_of_ble_eq_true rfl)) dX8_apart_10 ⟨Nat.le_of_ble_eq_true rfl, Nat.le_of_ble_eq_true rfl⟩ (fun r_10 σ_10 H locs hp_10 I => ?_)
      obtain ⟨hk_, rfl⟩ := hp_10
      rcases hk_ with ⟨rfl, g0⟩ | ⟨rfl, hnT⟩
      · obtain ⟨t, ht, rfl⟩ := okS_of g0
        have H_t : t < 5 := by omega
        have hst := hN.2.2 t ht
        unfold nSh at hst
        have hoT := okS_nI ht h5.2.2.2.1
        have hct : (nI t).toNatClampNeg = t := nI_clamp (by omega)
        refine lv_if_eq (tgt := 28) hx hb dX8_apart_13 (by decide) (fun c_13 => ?_) (fun c_13 => ?_)
        · exact absurd c_13 (by decide)
        · refine lv_iload_n hx hb dX8_apart_16 rfl (lv_at hl 1 rfl) ?_
          refine lv_iload_n hx hb dX8_apart_17 rfl (lv_at hl 2 rfl) ?_
          refine lv_icmp_eq (tgt := 28) hx hb dX8_apart_18 (by decide) (fun c_18 => ?_) (fun c_18 => ?_)
          · have c_18 : i = t := (nI_eq (by omega) (by omega)).mp c_18
            refine lv_iconst (v := (-1 : Int32)) hx hb dX8_apart_28 (by decide) ?_
            exact k_iret hx hb hr hlk I dX8_apart_29 (by rw [sApart_bad (by first | exact fun q => hnS q.1 | exact fun q => hnT q.2.1 | exact fun q => q.2.2.1 (congrArg nI c_18) | exact fun q => g1 q.2.2.2)]; exact ⟨rfl, hC⟩)
          · have c_18 : ¬ (i = t) := fun q_ => c_18 ((nI_eq (by omega) (by omega)).mpr q_)
            refine lv_iload_n hx hb dX8_apart_21 rfl (lv_at hl 3 rfl) ?_
            refine k_calls (As := [.int b]) (rest := []) ⟨hx, hb, hml, hown, hts⟩ (c_X8_isWind l (b)) (va_cwS 1 hts gX8_apart_X8_isWind rfl rfl rfl (by decide +kernel) ⟨Nat.le_of_ble_eq_true rfl, Nat.le_of_ble_eq_true rfl⟩) rfl hl.1 rfl (lv_room (Nat.le_of_ble_eq_true rfl)) dX8_apart_22 ⟨Nat.le_of_ble_eq_true rfl, Nat.le_of_ble_eq_true rfl⟩ (fun r_22 hp_22 => ?_)
            rcases hp_22 with ⟨rfl, g1⟩ | ⟨rfl, g1⟩
            · obtain ⟨bb, b1, b2, rfl⟩ := kT_in (by decide) (by decide) g1
              refine lv_if_ne (tgt := 30) hx hb dX8_apart_25 (by decide) (fun c_25 => ?_) (fun c_25 => ?_)
              · refine lv_aload_n hx hb dX8_apart_30 rfl (lv_at hl 0 rfl) ?_
                refine lv_iload_n hx hb dX8_apart_31 rfl (lv_at hl 1 rfl) ?_
                refine lv_iload_n hx hb dX8_apart_32 rfl (lv_at hl 2 rfl) ?_
                refine lv_iload_n hx hb dX8_apart_33 rfl (lv_at hl 3 rfl) ?_
                refine k_calli (k := 0) (As := [.int (nI i), .int (nI t), .int (nI bb)]) (rest := []) ⟨hx, hb, hml, hown, hts⟩ (c_X8_areApart cy D ad l σ N hN i hi t ht hM bb b2) (cwV 3 hts gX8_apart_X8_areApart rfl rfl rfl (by decide +kernel) ⟨Nat.le_of_ble_eq_true rfl, Nat.le_of_ble_eq_true rfl⟩) E hA I (k_recv E I (by decide) km_0 rfl) rfl hl.1 rfl (lv_room (Nat.le_of_ble_eq_true rfl)) dX8_apart_34 ⟨Nat.le_of_ble_eq_true rfl, Nat.le_of_ble_eq_true rfl⟩ (fun r_34 σ_34 H locs hp_34 I => ?_)
                obtain ⟨hk_, hq_⟩ := hp_34
                rcases hk_ with ⟨rfl, g3⟩ | ⟨rfl, g3⟩
                · refine lv_if_eq (tgt := 44) hx hb dX8_apart_37 (by decide) (fun c_37 => ?_) (fun c_37 => ?_)
                  · exact absurd c_37 (by decide)
                  · refine lv_iconst (v := nI 1) hx hb dX8_apart_40 (by decide) ?_
                    refine lv_goto (tgt := 45) hx hb dX8_apart_41 (by decide) ?_
                    exact k_iret hx hb hr hlk I dX8_apart_45 (by rw [sApart_ok hoS hcl hoT hct (fun q => c_18 ((nI_eq (by omega) (by omega)).mp q)) (Nat.zero_le _) b2, gApart]; exact ⟨by first | (rw [if_pos g3]) | (rw [if_neg g3]), rM_qm hC hq_⟩)
                · refine lv_if_eq (tgt := 44) hx hb dX8_apart_37 (by decide) (fun c_37 => ?_) (fun c_37 => ?_)
                  · refine lv_iconst (v := nI 0) hx hb dX8_apart_44 (by decide) ?_
                    exact k_iret hx hb hr hlk I dX8_apart_45 (by rw [sApart_ok hoS hcl hoT hct (fun q => c_18 ((nI_eq (by omega) (by omega)).mp q)) (Nat.zero_le _) b2, gApart]; exact ⟨by first | (rw [if_pos g3]) | (rw [if_neg g3]), rM_qm hC hq_⟩)
                  · exact absurd c_37 (by decide)
              · exact absurd c_25 (by decide)
            · refine lv_if_ne (tgt := 30) hx hb dX8_apart_25 (by decide) (fun c_25 => ?_) (fun c_25 => ?_)
              · exact absurd c_25 (by decide)
              · refine lv_iconst (v := (-1 : Int32)) hx hb dX8_apart_28 (by decide) ?_
                exact k_iret hx hb hr hlk I dX8_apart_29 (by rw [sApart_bad (by first | exact fun q => hnS q.1 | exact fun q => hnT q.2.1 | exact fun q => q.2.2.1 (congrArg nI c_18) | exact fun q => g1 q.2.2.2)]; exact ⟨rfl, hC⟩)
      · refine lv_if_eq (tgt := 28) hx hb dX8_apart_13 (by decide) (fun c_13 => ?_) (fun c_13 => ?_)
        · refine lv_iconst (v := (-1 : Int32)) hx hb dX8_apart_28 (by decide) ?_
          exact k_iret hx hb hr hlk I dX8_apart_29 (by rw [sApart_bad (by first | exact fun q => hnS q.1 | exact fun q => hnT q.2.1 | exact fun q => q.2.2.1 (congrArg nI c_18) | exact fun q => g1 q.2.2.2)]; exact ⟨rfl, hC⟩)
        · exact absurd c_13 (by decide)
  · refine lv_if_eq (tgt := 28) hx hb dX8_apart_5 (by decide) (fun c_5 => ?_) (fun c_5 => ?_)
    · refine lv_iconst (v := (-1 : Int32)) hx hb dX8_apart_28 (by decide) ?_
      exact k_iret hx hb hr hlk I dX8_apart_29 (by rw [sApart_bad (by first | exact fun q => hnS q.1 | exact fun q => hnT q.2.1 | exact fun q => q.2.2.1 (congrArg nI c_18) | exact fun q => g1 q.2.2.2)]; exact ⟨rfl, hC⟩)
    · exact absurd c_5 (by decide)
set_option maxHeartbeats 4000000 in
set_option maxRecDepth 100000 in
theorem c_X8_fewest (cy : Nat → ClassId) (D : va_G) (ad : Nat → Nat) (l : Launch) (σ : Nat → Nat → Int32) (s0 b : Int32) (N : Nat → Nat) (P : Nat → Nat → Nat) (np : Nat) (T : Nat → Nat) (nt : Nat) (hC : rM σ (N, P, np, T, nt)) : kMi 6 ad (kcM cy ad) cy D l yX8_fewest wsX8_fewest ({ frames := 7, cells := 0, slots := 0, locals := 166 }) [.ref (ad 0), .int s0, .int b] σ (fun r σ' => r = (sFewest s0 b (N, P, np, T, nt)).1 ∧ rM σ' (sFewest s0 b (N, P, np, T, nt)).2) := by
  obtain ⟨hM, hN, hPs, hT⟩ := id hC
  have h5 := hN.1
  refine k_entry (cc := cX8_fewest) (maxL := 6) (ret := (some .int)) (by decide) rfl (Nat.le_of_ble_eq_true rfl) ?_
  intro p e s m below meth c hx hb hr hml hown hts hlk E I ls hl
  have hA : ∀ q, s.heap.size ≤ q → kA 6 ad s.heap.size q := fun q h => Or.inr h
  have hown : s.vm.findClass RX8 = some m.cls := hown
  have hl : lv_has ls 6 [(0, .ref (ad 0)), (1, .int s0), (2, .int b)] := hl
  generalize hQdef : MQ below (va_Qi (fun r σ' => r = (sFewest s0 b (N, P, np, T, nt)).1 ∧ rM σ' (sFewest s0 b (N, P, np, T, nt)).2) (kB 6 ad (kcM cy ad) D) (kA 6 ad s.heap.size)) [.ref (ad 0), .int s0, .int b].toArray s 0 0 (kA 6 ad s.heap.size) = Q
  refine lv_aload_n hx hb dX8_fewest_0 rfl (lv_at hl 0 rfl) ?_
  refine lv_iload_n hx hb dX8_fewest_1 rfl (lv_at hl 1 rfl) ?_
  refine k_calli (k := 0) (As := [.int s0]) (rest := []) ⟨hx, hb, hml, hown, hts⟩ (c_X8_isShip cy D ad l σ (s0) N hN hM) (cwV 1 hts gX8_fewest_X8_isShip rfl rfl rfl (by decide +kernel) ⟨Nat.le_of_ble_eq_true rfl, Nat.le_of_ble_eq_true rfl⟩) E hA I (k_recv E I (by decide) km_0 rfl) rfl hl.1 rfl (lv_room (Nat.le_of_ble_eq_true rfl)) dX8_fewest_2 ⟨Nat.le_of_ble_eq_true rfl, Nat.le_of_ble_eq_true rfl⟩ (fun r_2 σ_2 H locs hp_2 I => ?_)
  obtain ⟨hk_, rfl⟩ := hp_2
  rcases hk_ with ⟨rfl, g0⟩ | ⟨rfl, hnS⟩
  · obtain ⟨i, hi, rfl⟩ := okS_of g0
    have H_i : i < 5 := by omega
    have hsh := hN.2.2 i hi
    unfold nSh at hsh
    have hoS := okS_nI hi h5.2.2.2.1
    have hcl : (nI i).toNatClampNeg = i := nI_clamp (by omega)
    refine lv_if_eq (tgt := 15) hx hb dX8_fewest_5 (by decide) (fun c_5 => ?_) (fun c_5 => ?_)
    · exact absurd c_5 (by decide)
    · refine lv_iload_n hx hb dX8_fewest_8 rfl (lv_at hl 2 rfl) ?_
      refine k_calls (As := [.int b]) (rest := []) ⟨hx, hb, hml, hown, hts⟩ (c_X8_isWind l (b)) (va_cwS 1 hts gX8_fewest_X8_isWind rfl rfl rfl (by decide +kernel) ⟨Nat.le_of_ble_eq_true rfl, Nat.le_of_ble_eq_true rfl⟩) rfl hl.1 rfl (lv_room (Nat.le_of_ble_eq_true rfl)) dX8_fewest_9 ⟨Nat.le_of_ble_eq_true rfl, Nat.le_of_ble_eq_true rfl⟩ (fun r_9 hp_9 => ?_)
      rcases hp_9 with ⟨rfl, g1⟩ | ⟨rfl, g1⟩
      · obtain ⟨bb, b1, b2, rfl⟩ := kT_in (by decide) (by decide) g1
        refine lv_if_ne (tgt := 17) hx hb dX8_fewest_12 (by decide) (fun c_12 => ?_) (fun c_12 => ?_)
        · refine lv_aload_n hx hb dX8_fewest_17 rfl (lv_at hl 0 rfl) ?_
          refine lv_iload_n hx hb dX8_fewest_18 rfl (lv_at hl 1 rfl) ?_
          refine lv_bipush (v := nI 7) hx hb dX8_fewest_19 (by decide) ?_
          refine k_calli (k := 0) (As := [.int (nI i), .int (nI 7)]) (rest := []) ⟨hx, hb, hml, hown, hts⟩ (c_X8_of cy D ad l σ i (7) (N (23 + 13 * i + 7)) (by omega) (hM _ (by omega))) (cwV 2 hts gX8_fewest_X8_of rfl rfl rfl (by decide +kernel) ⟨Nat.le_of_ble_eq_true rfl, Nat.le_of_ble_eq_true rfl⟩) E hA I (k_recv E I (by decide) km_0 rfl) rfl hl.1 rfl (lv_room (Nat.le_of_ble_eq_true rfl)) dX8_fewest_21 ⟨Nat.le_of_ble_eq_true rfl, Nat.le_of_ble_eq_true rfl⟩ (fun r_21 σ_21 H locs hp_21 I => ?_)
          obtain ⟨rfl, rfl⟩ := hp_21
          refine lv_iconst (v := nI 1) hx hb dX8_fewest_24 (by decide) ?_
          refine lv_icmp_ne (tgt := 31) hx hb dX8_fewest_25 (by decide) (fun c_25 => ?_) (fun c_25 => ?_)
          · have c_25 : ¬ ((N (23 + 13 * i + 7)) = 1) := fun q_ => c_25 ((nI_eq (by omega) (by omega)).mpr q_)
            refine lv_aload_n hx hb dX8_fewest_31 rfl (lv_at hl 0 rfl) ?_
            refine lv_iload_n hx hb dX8_fewest_32 rfl (lv_at hl 1 rfl) ?_
            refine lv_iconst (v := nI 2) hx hb dX8_fewest_33 (by decide) ?_
            refine k_calli (k := 0) (As := [.int (nI i), .int (nI 2)]) (rest := []) ⟨hx, hb, hml, hown, hts⟩ (c_X8_of cy D ad l σ i (2) (N (23 + 13 * i + 2)) (by omega) (hM _ (by omega))) (cwV 2 hts gX8_fewest_X8_of rfl rfl rfl (by decide +kernel) ⟨Nat.le_of_ble_eq_true rfl, Nat.le_of_ble_eq_true rfl⟩) E hA I (k_recv E I (by decide) km_0 rfl) rfl hl.1 rfl (lv_room (Nat.le_of_ble_eq_true rfl)) dX8_fewest_34 ⟨Nat.le_of_ble_eq_true rfl, Nat.le_of_ble_eq_true rfl⟩ (fun r_34 σ_34 H locs hp_34 I => ?_)
            obtain ⟨rfl, rfl⟩ := hp_34
            refine lv_istore_n (lv' := [(3, .int (nI (N (23 + 13 * i + 2)))), (0, .ref (ad 0)), (1, .int (nI i)), (2, .int (nI bb))]) hx hb dX8_fewest_37 rfl hl (by decide) rfl (fun ls hl => ?_)
            refine lv_bipush (v := (-4 : Int32)) hx hb dX8_fewest_38 (by decide) ?_
            refine lv_istore (lv' := [(4, .int (-4)), (3, .int (nI (N (23 + 13 * i + 2)))), (0, .ref (ad 0)), (1, .int (nI i)), (2, .int (nI bb))]) hx hb dX8_fewest_40 hl (by decide) rfl (fun ls hl => ?_)
            refine lv_iconst (v := nI 1) hx hb dX8_fewest_42 (by decide) ?_
            refine lv_istore (lv' := [(5, .int (nI 1)), (4, .int (-4)), (3, .int (nI (N (23 + 13 * i + 2)))), (0, .ref (ad 0)), (1, .int (nI i)), (2, .int (nI bb))]) hx hb dX8_fewest_43 hl (by decide) rfl (fun ls hl => ?_)
            have LP_45 : ∀ (fuel_45 : Nat) (n : Nat) (bst : Int32) (x : Nat) (τ : Nat → Nat → Int32), 61 - n < fuel_45 → (1 ≤ n) → (n ≤ 61) → (mN τ (va_up N (23 + 13 * i + 2) x)) → (qn σ τ) → ((bst = -4 ∧ ∀ j, j < n - 1 → pHo N i (j + 1) bb = false) ∨ (2 ≤ n ∧ bst = nI (n - 1) ∧ pHo N i (n - 1) bb = true ∧ ∀ j, j < n - 2 → pHo N i (j + 1) bb = false)) → ∀ (H : Heap) (locs : List Loc), kI 6 ad (kcM cy ad) D (kA 6 ad s.heap.size) s.heap τ H locs → ∀ ls : Array Slot, lv_has ls 6 [(0, .ref (ad 0)), (1, .int (nI i)), (2, .int (nI bb)), (3, .int (nI (N (23 + 13 * i + 2)))), (4, .int bst), (5, .int (nI n))] → W p l e (headSpec wsX8_fewest ({ frames := 7, cells := 0, slots := 0, locals := 166 })).room s m [.ref (ad 0), .int (nI i), .int (nI bb)].toArray below meth c H locs 0 0 Q (F0 m 45 ls []) := by
              intro fuel_45
              induction fuel_45 with
              | zero => intro n bst x τ hf_45; exact absurd hf_45 (Nat.not_lt_zero _)
              | succ fuel_45 ih_45 =>
                intro n bst x τ hf_45 hn1 hn61 hMt hQt hbst H locs I ls hl
                refine lv_iload hx hb dX8_fewest_45 (lv_at hl 5 rfl) ?_
                refine lv_bipush (v := nI 60) hx hb dX8_fewest_47 (by decide) ?_
                refine lv_icmp_gt (tgt := 91) hx hb dX8_fewest_49 (by decide) (fun c_49 => ?_) (fun c_49 => ?_)
                · have c_49 : 60 < n := (nI_ltI (by omega) (by omega)).mp c_49
                  refine lv_aload_n hx hb dX8_fewest_91 rfl (lv_at hl 0 rfl) ?_
                  refine lv_iload_n hx hb dX8_fewest_92 rfl (lv_at hl 1 rfl) ?_
                  refine lv_iconst (v := nI 2) hx hb dX8_fewest_93 (by decide) ?_
                  refine lv_iload_n hx hb dX8_fewest_94 rfl (lv_at hl 3 rfl) ?_
                  refine k_callv (k := 0) (As := [.int (nI i), .int (nI 2), .int (nI (N (23 + 13 * i + 2)))]) (rest := []) ⟨hx, hb, hml, hown, hts⟩ (c_X8_put cy D ad l τ i 2 ((nI (N (23 + 13 * i + 2)))) (by omega)) (cwV 3 hts gX8_fewest_X8_put rfl rfl rfl (by decide +kernel) ⟨Nat.le_of_ble_eq_true rfl, Nat.le_of_ble_eq_true rfl⟩) E hA I (k_recv E I (by decide) km_0 rfl) rfl hl.1 rfl (lv_room (Nat.le_of_ble_eq_true rfl)) dX8_fewest_95 ⟨Nat.le_of_ble_eq_true rfl, Nat.le_of_ble_eq_true rfl⟩ (fun σ_95 H locs hp_95 I => ?_)
                  have hMb : mN σ_95 N := by have := mN_put hMt hp_95; rw [va_back] at this; exact this
                  have hQb := qn_tr hQt (qn_put hp_95)
                  refine lv_iload hx hb dX8_fewest_98 (lv_at hl 4 rfl) ?_
                  subst hQdef
                  exact k_iret hx hb hr hlk I dX8_fewest_100 (by rw [sFewest_ok hoS hcl (Nat.zero_le _) b2, gFewest, if_neg (by omega)]; rcases hbst with ⟨e_, hno⟩ | ⟨hn2, e_, hy, hno⟩; (first | exact absurd e_ c_56 | (rw [ff_eq (k := 60) (by omega) (fun j hj => hno j (by omega)) (fun z => absurd z (by omega)), if_neg (by omega)]; exact ⟨e_, rM_qn hC hQb hMb hN⟩)); (rw [ff_eq (k := n - 2) (by omega) hno (fun _ => by rw [show n - 2 + 1 = n - 1 by omega]; exact hy), if_pos (by omega)]; exact ⟨e_.trans (congrArg nI (by omega)), rM_qn hC hQb hMb hN⟩))
                · have c_49 : ¬ (60 < n) := fun q_ => c_49 ((nI_ltI (by omega) (by omega)).mpr q_)
                  refine lv_iload hx hb dX8_fewest_52 (lv_at hl 4 rfl) ?_
                  refine lv_bipush (v := (-4 : Int32)) hx hb dX8_fewest_54 (by decide) ?_
                  refine lv_icmp_ne (tgt := 91) hx hb dX8_fewest_56 (by decide) (fun c_56 => ?_) (fun c_56 => ?_)
                  · refine lv_aload_n hx hb dX8_fewest_91 rfl (lv_at hl 0 rfl) ?_
                    refine lv_iload_n hx hb dX8_fewest_92 rfl (lv_at hl 1 rfl) ?_
                    refine lv_iconst (v := nI 2) hx hb dX8_fewest_93 (by decide) ?_
                    refine lv_iload_n hx hb dX8_fewest_94 rfl (lv_at hl 3 rfl) ?_
                    refine k_callv (k := 0) (As := [.int (nI i), .int (nI 2), .int (nI (N (23 + 13 * i + 2)))]) (rest := []) ⟨hx, hb, hml, hown, hts⟩ (c_X8_put cy D ad l τ i 2 ((nI (N (23 + 13 * i + 2)))) (by omega)) (cwV 3 hts gX8_fewest_X8_put rfl rfl rfl (by decide +kernel) ⟨Nat.le_of_ble_eq_true rfl, Nat.le_of_ble_eq_true rfl⟩) E hA I (k_recv E I (by decide) km_0 rfl) rfl hl.1 rfl (lv_room (Nat.le_of_ble_eq_true rfl)) dX8_fewest_95 ⟨Nat.le_of_ble_eq_true rfl, Nat.le_of_ble_eq_true rfl⟩ (fun σ_95 H locs hp_95 I => ?_)
                    have hMb : mN σ_95 N := by have := mN_put hMt hp_95; rw [va_back] at this; exact this
                    have hQb := qn_tr hQt (qn_put hp_95)
                    refine lv_iload hx hb dX8_fewest_98 (lv_at hl 4 rfl) ?_
                    subst hQdef
                    exact k_iret hx hb hr hlk I dX8_fewest_100 (by rw [sFewest_ok hoS hcl (Nat.zero_le _) b2, gFewest, if_neg (by omega)]; rcases hbst with ⟨e_, hno⟩ | ⟨hn2, e_, hy, hno⟩; (first | exact absurd e_ c_56 | (rw [ff_eq (k := 60) (by omega) (fun j hj => hno j (by omega)) (fun z => absurd z (by omega)), if_neg (by omega)]; exact ⟨e_, rM_qn hC hQb hMb hN⟩)); (rw [ff_eq (k := n - 2) (by omega) hno (fun _ => by rw [show n - 2 + 1 = n - 1 by omega]; exact hy), if_pos (by omega)]; exact ⟨e_.trans (congrArg nI (by omega)), rM_qn hC hQb hMb hN⟩))
                  · have hno : ∀ j, j < n - 1 → pHo N i (j + 1) bb = false := by
                      rcases hbst with ⟨_, q⟩ | ⟨a_, b_, _, _⟩
                      · exact q
                      · exact absurd (b_.symm.trans c_56) (nI_m4 (by omega))
                    refine lv_aload_n hx hb dX8_fewest_59 rfl (lv_at hl 0 rfl) ?_
                    refine lv_iload_n hx hb dX8_fewest_60 rfl (lv_at hl 1 rfl) ?_
                    refine lv_iconst (v := nI 2) hx hb dX8_fewest_61 (by decide) ?_
                    refine lv_iload hx hb dX8_fewest_62 (lv_at hl 5 rfl) ?_
                    refine k_callv (k := 0) (As := [.int (nI i), .int (nI 2), .int (nI n)]) (rest := []) ⟨hx, hb, hml, hown, hts⟩ (c_X8_put cy D ad l τ i 2 ((nI n)) (by omega)) (cwV 3 hts gX8_fewest_X8_put rfl rfl rfl (by decide +kernel) ⟨Nat.le_of_ble_eq_true rfl, Nat.le_of_ble_eq_true rfl⟩) E hA I (k_recv E I (by decide) km_0 rfl) rfl hl.1 rfl (lv_room (Nat.le_of_ble_eq_true rfl)) dX8_fewest_64 ⟨Nat.le_of_ble_eq_true rfl, Nat.le_of_ble_eq_true rfl⟩ (fun σ_64 H locs hp_64 I => ?_)
                    have hMn : mN σ_64 (va_up N (23 + 13 * i + 2) n) := by have := mN_put hMt hp_64; rw [bx_uu] at this; exact this
                    have hQn := qn_tr hQt (qn_put hp_64)
                    have hNn := nOk_out hN hi (n := n) (by omega) (by omega)
                    refine lv_aload_n hx hb dX8_fewest_67 rfl (lv_at hl 0 rfl) ?_
                    refine lv_iload_n hx hb dX8_fewest_68 rfl (lv_at hl 1 rfl) ?_
                    refine lv_iload_n hx hb dX8_fewest_69 rfl (lv_at hl 2 rfl) ?_
                    refine k_calli (k := 0) (As := [.int (nI i), .int (nI bb)]) (rest := []) ⟨hx, hb, hml, hown, hts⟩ (c_X8_holds cy D ad l σ_64 (va_up N (23 + 13 * i + 2) n) hNn i (by rw [va_up_ne _ _ (by omega)]; exact hi) hMn bb b2) (cwV 2 hts gX8_fewest_X8_holds rfl rfl rfl (by decide +kernel) ⟨Nat.le_of_ble_eq_true rfl, Nat.le_of_ble_eq_true rfl⟩) E hA I (k_recv E I (by decide) km_0 rfl) rfl hl.1 rfl (lv_room (Nat.le_of_ble_eq_true rfl)) dX8_fewest_70 ⟨Nat.le_of_ble_eq_true rfl, Nat.le_of_ble_eq_true rfl⟩ (fun r_70 σ_70 H locs hp_70 I => ?_)
                    obtain ⟨hk_, hq_⟩ := hp_70
                    have hMn := mN_qm hMn hq_
                    have hQn := qn_tr hQn (qm_qn hq_)
                    have hk_ : kT r_70 (pHo N i n bb = true) := kT_of hk_ (by rw [va_up_self, pHo_put hN hi, va_up_ne _ _ (by omega)]; exact ⟨fun q => q.2, fun q => ⟨by omega, q⟩⟩)
                    rcases hk_ with ⟨rfl, g3⟩ | ⟨rfl, g3⟩
                    · refine lv_if_eq (tgt := 81) hx hb dX8_fewest_73 (by decide) (fun c_73 => ?_) (fun c_73 => ?_)
                      · exact absurd c_73 (by decide)
                      · refine lv_iload hx hb dX8_fewest_76 (lv_at hl 5 rfl) ?_
                        refine lv_goto (tgt := 83) hx hb dX8_fewest_78 (by decide) ?_
                        refine lv_istore (lv' := [(4, .int (nI n)), (0, .ref (ad 0)), (1, .int (nI i)), (2, .int (nI bb)), (3, .int (nI (N (23 + 13 * i + 2)))), (5, .int (nI n))]) hx hb dX8_fewest_83 hl (by decide) rfl (fun ls hl => ?_)
                        refine lv_iinc (v := nI (n + 1)) (lv' := [(5, .int (nI (n + 1))), (4, .int (nI n)), (0, .ref (ad 0)), (1, .int (nI i)), (2, .int (nI bb)), (3, .int (nI (N (23 + 13 * i + 2))))]) hx hb dX8_fewest_85 hl (k := 5) rfl (show nI n + Int32.ofInt 1 = nI (n + 1) from nI_add n 1) (by decide) rfl (fun ls hl => ?_)
                        refine lv_goto (tgt := 45) hx hb dX8_fewest_88 (by decide) ?_
                        exact ih_45 (n + 1) _ n _ (by omega) (by omega) (by omega) (hMn) (hQn) (by first | exact Or.inr ⟨by omega, congrArg nI (by omega), by rw [show n + 1 - 1 = n by omega]; exact g3, fun j hj => hno j (by omega)⟩ | exact Or.inl ⟨rfl, fun j hj => by by_cases e_ : j = n - 1; (rw [e_, show n - 1 + 1 = n by omega]; simpa using g3); exact hno j (by omega)⟩) _ _ I _ (lv_sub hl [2, 3, 4, 5, 1, 0] rfl)
                    · refine lv_if_eq (tgt := 81) hx hb dX8_fewest_73 (by decide) (fun c_73 => ?_) (fun c_73 => ?_)
                      · refine lv_bipush (v := (-4 : Int32)) hx hb dX8_fewest_81 (by decide) ?_
                        refine lv_istore (lv' := [(4, .int (-4)), (0, .ref (ad 0)), (1, .int (nI i)), (2, .int (nI bb)), (3, .int (nI (N (23 + 13 * i + 2)))), (5, .int (nI n))]) hx hb dX8_fewest_83 hl (by decide) rfl (fun ls hl => ?_)
                        refine lv_iinc (v := nI (n + 1)) (lv' := [(5, .int (nI (n + 1))), (4, .int (-4)), (0, .ref (ad 0)), (1, .int (nI i)), (2, .int (nI bb)), (3, .int (nI (N (23 + 13 * i + 2))))]) hx hb dX8_fewest_85 hl (k := 5) rfl (show nI n + Int32.ofInt 1 = nI (n + 1) from nI_add n 1) (by decide) rfl (fun ls hl => ?_)
                        refine lv_goto (tgt := 45) hx hb dX8_fewest_88 (by decide) ?_
                        exact ih_45 (n + 1) _ n _ (by omega) (by omega) (by omega) (hMn) (hQn) (by first | exact Or.inr ⟨by omega, congrArg nI (by omega), by rw [show n + 1 - 1 = n by omega]; exact g3, fun j hj => hno j (by omega)⟩ | exact Or.inl ⟨rfl, fun j hj => by by_cases e_ : j = n - 1; (rw [e_, show n - 1 + 1 = n by omega]; simpa using g3); exact hno j (by omega)⟩) _ _ I _ (lv_sub hl [2, 3, 4, 5, 1, 0] rfl)
                      · exact absurd c_73 (by decide)
            exact LP_45 _ 1 _ (N (23 + 13 * i + 2)) σ (Nat.lt_succ_self _) (Nat.le_refl _) (by decide) (mN_same hM (fun k _ => by by_cases e_ : k = 23 + 13 * i + 2; (rw [e_, va_up_self]); rw [va_up_ne _ _ e_])) (qn_rf σ) (Or.inl ⟨rfl, fun j hj => absurd hj (by omega)⟩) _ _ I _ (lv_sub hl [3, 4, 5, 2, 1, 0] rfl)
          · have c_25 : (N (23 + 13 * i + 7)) = 1 := (nI_eq (by omega) (by omega)).mp c_25
            refine lv_bipush (v := (-2 : Int32)) hx hb dX8_fewest_28 (by decide) ?_
            subst hQdef
            exact k_iret hx hb hr hlk I dX8_fewest_30 (by rw [sFewest_ok hoS hcl (Nat.zero_le _) b2, gFewest, if_pos (by omega)]; exact ⟨rfl, hC⟩)
        · exact absurd c_12 (by decide)
      · refine lv_if_ne (tgt := 17) hx hb dX8_fewest_12 (by decide) (fun c_12 => ?_) (fun c_12 => ?_)
        · exact absurd c_12 (by decide)
        · refine lv_iconst (v := (-1 : Int32)) hx hb dX8_fewest_15 (by decide) ?_
          subst hQdef
          exact k_iret hx hb hr hlk I dX8_fewest_16 (by rw [sFewest_bad (by first | exact fun q => hnS q.1 | exact fun q => g1 q.2)]; exact ⟨rfl, hC⟩)
  · refine lv_if_eq (tgt := 15) hx hb dX8_fewest_5 (by decide) (fun c_5 => ?_) (fun c_5 => ?_)
    · refine lv_iconst (v := (-1 : Int32)) hx hb dX8_fewest_15 (by decide) ?_
      subst hQdef
      exact k_iret hx hb hr hlk I dX8_fewest_16 (by rw [sFewest_bad (by first | exact fun q => hnS q.1 | exact fun q => g1 q.2)]; exact ⟨rfl, hC⟩)
    · exact absurd c_5 (by decide)
set_option maxHeartbeats 4000000 in
set_option maxRecDepth 100000 in
theorem c_X8_tooMuch (cy : Nat → ClassId) (D : va_G) (ad : Nat → Nat) (l : Launch) (σ : Nat → Nat → Int32) (s0 : Int32) (N : Nat → Nat) (P : Nat → Nat → Nat) (np : Nat) (T : Nat → Nat) (nt : Nat) (hC : rM σ (N, P, np, T, nt)) : kMi 6 ad (kcM cy ad) cy D l yX8_tooMuch wsX8_tooMuch ({ frames := 7, cells := 0, slots := 0, locals := 166 }) [.ref (ad 0), .int s0] σ (fun r σ' => r = (sTooMuch s0 (N, P, np, T, nt)).1 ∧ rM σ' (sTooMuch s0 (N, P, np, T, nt)).2) := by
  obtain ⟨hM, hN, hPs, hT⟩ := id hC
  have h5 := hN.1
  refine k_entry (cc := cX8_tooMuch) (maxL := 3) (ret := (some .int)) (by decide) rfl (Nat.le_of_ble_eq_true rfl) ?_
  intro p e s m below meth c hx hb hr hml hown hts hlk E I ls hl
  have hA : ∀ q, s.heap.size ≤ q → kA 6 ad s.heap.size q := fun q h => Or.inr h
  have hown : s.vm.findClass RX8 = some m.cls := hown
  have hl : lv_has ls 3 [(0, .ref (ad 0)), (1, .int s0)] := hl
  generalize hQdef : MQ below (va_Qi (fun r σ' => r = (sTooMuch s0 (N, P, np, T, nt)).1 ∧ rM σ' (sTooMuch s0 (N, P, np, T, nt)).2) (kB 6 ad (kcM cy ad) D) (kA 6 ad s.heap.size)) [.ref (ad 0), .int s0].toArray s 0 0 (kA 6 ad s.heap.size) = Q
  refine lv_aload_n hx hb dX8_tooMuch_0 rfl (lv_at hl 0 rfl) ?_
  refine lv_iload_n hx hb dX8_tooMuch_1 rfl (lv_at hl 1 rfl) ?_
  refine k_calli (k := 0) (As := [.int s0]) (rest := []) ⟨hx, hb, hml, hown, hts⟩ (c_X8_isShip cy D ad l σ (s0) N hN hM) (cwV 1 hts gX8_tooMuch_X8_isShip rfl rfl rfl (by decide +kernel) ⟨Nat.le_of_ble_eq_true rfl, Nat.le_of_ble_eq_true rfl⟩) E hA I (k_recv E I (by decide) km_0 rfl) rfl hl.1 rfl (lv_room (Nat.le_of_ble_eq_true rfl)) dX8_tooMuch_2 ⟨Nat.le_of_ble_eq_true rfl, Nat.le_of_ble_eq_true rfl⟩ (fun r_2 σ_2 H locs hp_2 I => ?_)
  obtain ⟨hk_, rfl⟩ := hp_2
  rcases hk_ with ⟨rfl, g0⟩ | ⟨rfl, hnS⟩
  · obtain ⟨i, hi, rfl⟩ := okS_of g0
    have H_i : i < 5 := by omega
    have hsh := hN.2.2 i hi
    unfold nSh at hsh
    have hoS := okS_nI hi h5.2.2.2.1
    have hcl : (nI i).toNatClampNeg = i := nI_clamp (by omega)
    refine lv_if_ne (tgt := 10) hx hb dX8_tooMuch_5 (by decide) (fun c_5 => ?_) (fun c_5 => ?_)
    · refine lv_aload_n hx hb dX8_tooMuch_10 rfl (lv_at hl 0 rfl) ?_
      refine lv_iload_n hx hb dX8_tooMuch_11 rfl (lv_at hl 1 rfl) ?_
      refine lv_bipush (v := nI 7) hx hb dX8_tooMuch_12 (by decide) ?_
      refine k_calli (k := 0) (As := [.int (nI i), .int (nI 7)]) (rest := []) ⟨hx, hb, hml, hown, hts⟩ (c_X8_of cy D ad l σ i (7) (N (23 + 13 * i + 7)) (by omega) (hM _ (by omega))) (cwV 2 hts gX8_tooMuch_X8_of rfl rfl rfl (by decide +kernel) ⟨Nat.le_of_ble_eq_true rfl, Nat.le_of_ble_eq_true rfl⟩) E hA I (k_recv E I (by decide) km_0 rfl) rfl hl.1 rfl (lv_room (Nat.le_of_ble_eq_true rfl)) dX8_tooMuch_14 ⟨Nat.le_of_ble_eq_true rfl, Nat.le_of_ble_eq_true rfl⟩ (fun r_14 σ_14 H locs hp_14 I => ?_)
      obtain ⟨rfl, rfl⟩ := hp_14
      refine lv_iconst (v := nI 1) hx hb dX8_tooMuch_17 (by decide) ?_
      refine lv_icmp_ne (tgt := 24) hx hb dX8_tooMuch_18 (by decide) (fun c_18 => ?_) (fun c_18 => ?_)
      · have c_18 : ¬ ((N (23 + 13 * i + 7)) = 1) := fun q_ => c_18 ((nI_eq (by omega) (by omega)).mpr q_)
        refine lv_iconst (v := nI 0) hx hb dX8_tooMuch_24 (by decide) ?_
        refine lv_istore_n (lv' := [(2, .int (nI 0)), (0, .ref (ad 0)), (1, .int (nI i))]) hx hb dX8_tooMuch_25 rfl hl (by decide) rfl (fun ls hl => ?_)
        have LP_26 : ∀ (fuel_26 : Nat) (n : Nat) (τ : Nat → Nat → Int32), 21 - n < fuel_26 → (n ≤ 21) → (qm σ τ) → (∀ j, j < n → (!pHo N i (N (23 + 13 * i + 2)) j) = false) → ∀ (H : Heap) (locs : List Loc), kI 6 ad (kcM cy ad) D (kA 6 ad s.heap.size) s.heap τ H locs → ∀ ls : Array Slot, lv_has ls 3 [(0, .ref (ad 0)), (1, .int (nI i)), (2, .int (nI n))] → W p l e (headSpec wsX8_tooMuch ({ frames := 7, cells := 0, slots := 0, locals := 166 })).room s m [.ref (ad 0), .int (nI i)].toArray below meth c H locs 0 0 Q (F0 m 26 ls []) := by
          intro fuel_26
          induction fuel_26 with
          | zero => intro n τ hf_26; exact absurd hf_26 (Nat.not_lt_zero _)
          | succ fuel_26 ih_26 =>
            intro n τ hf_26 hn21 hQ hno H locs I ls hl
            have hM := mN_qm hM hQ
            refine lv_iload_n hx hb dX8_tooMuch_26 rfl (lv_at hl 2 rfl) ?_
            refine lv_bipush (v := nI 20) hx hb dX8_tooMuch_27 (by decide) ?_
            refine lv_icmp_gt (tgt := 49) hx hb dX8_tooMuch_29 (by decide) (fun c_29 => ?_) (fun c_29 => ?_)
            · have c_29 : 20 < n := (nI_ltI (by omega) (by omega)).mp c_29
              refine lv_bipush (v := (-4 : Int32)) hx hb dX8_tooMuch_49 (by decide) ?_
              subst hQdef
              exact k_iret hx hb hr hlk I dX8_tooMuch_51 (by rw [sTooMuch_ok hoS hcl, gTooMuch, if_neg (by omega), ff_eq (k := 21) (by omega) (fun j hj => hno j (by omega)) (fun z => absurd z (by omega)), if_neg (by omega)]; exact ⟨rfl, rM_qm hC hQ⟩)
            · have c_29 : ¬ (20 < n) := fun q_ => c_29 ((nI_ltI (by omega) (by omega)).mpr q_)
              refine lv_aload_n hx hb dX8_tooMuch_32 rfl (lv_at hl 0 rfl) ?_
              refine lv_iload_n hx hb dX8_tooMuch_33 rfl (lv_at hl 1 rfl) ?_
              refine lv_iload_n hx hb dX8_tooMuch_34 rfl (lv_at hl 2 rfl) ?_
              refine k_calli (k := 0) (As := [.int (nI i), .int (nI n)]) (rest := []) ⟨hx, hb, hml, hown, hts⟩ (c_X8_holds cy D ad l τ N hN i hi hM n (by omega)) (cwV 2 hts gX8_tooMuch_X8_holds rfl rfl rfl (by decide +kernel) ⟨Nat.le_of_ble_eq_true rfl, Nat.le_of_ble_eq_true rfl⟩) E hA I (k_recv E I (by decide) km_0 rfl) rfl hl.1 rfl (lv_room (Nat.le_of_ble_eq_true rfl)) dX8_tooMuch_35 ⟨Nat.le_of_ble_eq_true rfl, Nat.le_of_ble_eq_true rfl⟩ (fun r_35 σ_35 H locs hp_35 I => ?_)
              obtain ⟨hk_, hq_⟩ := hp_35
              have hQ := qm_tr hQ hq_
              have hM := mN_qm hM hq_
              rcases hk_ with ⟨rfl, g3⟩ | ⟨rfl, g3⟩
              · refine lv_if_ne (tgt := 43) hx hb dX8_tooMuch_38 (by decide) (fun c_38 => ?_) (fun c_38 => ?_)
                · refine lv_iinc (v := nI (n + 1)) (lv' := [(2, .int (nI (n + 1))), (0, .ref (ad 0)), (1, .int (nI i))]) hx hb dX8_tooMuch_43 hl (k := 2) rfl (show nI n + Int32.ofInt 1 = nI (n + 1) from nI_add n 1) (by decide) rfl (fun ls hl => ?_)
                  refine lv_goto (tgt := 26) hx hb dX8_tooMuch_46 (by decide) ?_
                  exact ih_26 (n + 1) _ (by omega) (by omega) (hQ) (fun j hj => by by_cases e_ : j = n; (rw [e_, g3.2]; rfl); exact hno j (by omega)) _ _ I _ (lv_sub hl [1, 2, 0] rfl)
                · exact absurd c_38 (by decide)
              · refine lv_if_ne (tgt := 43) hx hb dX8_tooMuch_38 (by decide) (fun c_38 => ?_) (fun c_38 => ?_)
                · exact absurd c_38 (by decide)
                · refine lv_iload_n hx hb dX8_tooMuch_41 rfl (lv_at hl 2 rfl) ?_
                  subst hQdef
                  exact k_iret hx hb hr hlk I dX8_tooMuch_42 (by rw [sTooMuch_ok hoS hcl, gTooMuch, if_neg (by omega), ff_eq (k := n) (by omega) hno (fun _ => by have : ¬ pHo N i (N (23 + 13 * i + 2)) n = true := fun q => g3 ⟨by omega, q⟩; simpa using this), if_pos (by omega)]; exact ⟨rfl, rM_qm hC hQ⟩)
        exact LP_26 _ 0 σ (Nat.lt_succ_self _) (Nat.zero_le _) (qm_rf σ) (fun j hj => absurd hj (Nat.not_lt_zero j)) _ _ I _ (lv_sub hl [1, 2, 0] rfl)
      · have c_18 : (N (23 + 13 * i + 7)) = 1 := (nI_eq (by omega) (by omega)).mp c_18
        refine lv_bipush (v := (-2 : Int32)) hx hb dX8_tooMuch_21 (by decide) ?_
        subst hQdef
        exact k_iret hx hb hr hlk I dX8_tooMuch_23 (by rw [sTooMuch_ok hoS hcl, gTooMuch, if_pos (by omega)]; exact ⟨rfl, hC⟩)
    · exact absurd c_5 (by decide)
  · refine lv_if_ne (tgt := 10) hx hb dX8_tooMuch_5 (by decide) (fun c_5 => ?_) (fun c_5 => ?_)
    · exact absurd c_5 (by decide)
    · refine lv_iconst (v := (-1 : Int32)) hx hb dX8_tooMuch_8 (by decide) ?_
      subst hQdef
      exact k_iret hx hb hr hlk I dX8_tooMuch_9 (by rw [sTooMuch_bad (by first | exact fun q => hnS q)]; exact ⟨rfl, hC⟩)
set_option maxHeartbeats 4000000 in
set_option maxRecDepth 100000 in
theorem c_X8_isClose (cy : Nat → ClassId) (D : va_G) (ad : Nat → Nat) (l : Launch) (σ : Nat → Nat → Int32) (N : Nat → Nat) (hN : nOk N) (i : Nat) (hi : i < N 1) (hM : mN σ N) (b : Nat) (hb20 : b ≤ 20) (h7 : N (23 + 13 * i + 7) = 0) : kMi 6 ad (kcM cy ad) cy D l yX8_isClose wsX8_isClose ({ frames := 7, cells := 0, slots := 0, locals := 167 }) [.ref (ad 0), .int (nI i), .int (nI b)] σ (fun r σ' => kT r (pGood N b i (N (23 + 13 * i + 2)) = true) ∧ qm σ σ') := by
  have h5 := hN.1
  have H_i : i < 5 := by omega
  have hsh := hN.2.2 i hi
  unfold nSh at hsh
  refine k_entry (cc := cX8_isClose) (maxL := 5) (ret := (some .boolean)) (by decide) rfl (Nat.le_of_ble_eq_true rfl) ?_
  intro p e s m below meth c hx hb hr hml hown hts hlk E I ls hl
  have hA : ∀ q, s.heap.size ≤ q → kA 6 ad s.heap.size q := fun q h => Or.inr h
  have hown : s.vm.findClass RX8 = some m.cls := hown
  have hl : lv_has ls 5 [(0, .ref (ad 0)), (1, .int (nI i)), (2, .int (nI b))] := hl
  have iX8 : ∀ w ∈ u_ws RX8 TX8 13, w ∈ wsX8_isClose := fun w h => List.mem_cons_of_mem _ (List.mem_append_right _ h)
  refine lv_aload_n hx hb dX8_isClose_0 rfl (lv_at hl 0 rfl) ?_
  refine lv_iload_n hx hb dX8_isClose_1 rfl (lv_at hl 1 rfl) ?_
  refine lv_iload_n hx hb dX8_isClose_2 rfl (lv_at hl 2 rfl) ?_
  refine k_calli (k := 0) (As := [.int (nI i), .int (nI b)]) (rest := []) ⟨hx, hb, hml, hown, hts⟩ (c_X8_holds cy D ad l σ N hN i hi hM b hb20) (cwV 2 hts gX8_isClose_X8_holds rfl rfl rfl (by decide +kernel) ⟨Nat.le_of_ble_eq_true rfl, Nat.le_of_ble_eq_true rfl⟩) E hA I (k_recv E I (by decide) km_0 rfl) rfl hl.1 rfl (lv_room (Nat.le_of_ble_eq_true rfl)) dX8_isClose_3 ⟨Nat.le_of_ble_eq_true rfl, Nat.le_of_ble_eq_true rfl⟩ (fun r_3 σ_3 H locs hp_3 I => ?_)
  obtain ⟨hk_, hq_⟩ := hp_3
  rcases hk_ with ⟨rfl, g1⟩ | ⟨rfl, g1⟩
  · refine lv_istore_n (lv' := [(3, .int (nI 1)), (0, .ref (ad 0)), (1, .int (nI i)), (2, .int (nI b))]) hx hb dX8_isClose_6 rfl hl (by decide) rfl (fun ls hl => ?_)
    refine lv_iconst (v := nI 0) hx hb dX8_isClose_7 (by decide) ?_
    refine lv_istore (lv' := [(4, .int (nI 0)), (3, .int (nI 1)), (0, .ref (ad 0)), (1, .int (nI i)), (2, .int (nI b))]) hx hb dX8_isClose_8 hl (by decide) rfl (fun ls hl => ?_)
    have LP_10 : ∀ (fuel_10 : Nat) (t : Nat) (fl : Nat) (τ : Nat → Nat → Int32), N 1 - t < fuel_10 → (t ≤ N 1) → (fl ≤ 1) → (qm σ τ) → (fl = 1 ↔ (pHo N i (N (23 + 13 * i + 2)) b = true ∧ pAp N b i (N (23 + 13 * i + 2)) t = true)) → ∀ (H : Heap) (locs : List Loc), kI 6 ad (kcM cy ad) D (kA 6 ad s.heap.size) s.heap τ H locs → ∀ ls : Array Slot, lv_has ls 5 [(0, .ref (ad 0)), (1, .int (nI i)), (2, .int (nI b)), (3, .int (nI fl)), (4, .int (nI t))] → W p l e (headSpec wsX8_isClose ({ frames := 7, cells := 0, slots := 0, locals := 167 })).room s m [.ref (ad 0), .int (nI i), .int (nI b)].toArray below meth c H locs 0 0 (MQ below (va_Qi (fun r σ' => kT r (pGood N b i (N (23 + 13 * i + 2)) = true) ∧ qm σ σ') (kB 6 ad (kcM cy ad) D) (kA 6 ad s.heap.size)) [.ref (ad 0), .int (nI i), .int (nI b)].toArray s 0 0 (kA 6 ad s.heap.size)) (F0 m 10 ls []) := by
      intro fuel_10
      induction fuel_10 with
      | zero => intro t fl τ hf_10; exact absurd hf_10 (Nat.not_lt_zero _)
      | succ fuel_10 ih_10 =>
        intro t fl τ hf_10 htn hf1 hQ hfl H locs I ls hl
        have hM := mN_qm hM hQ
        refine lv_iload hx hb dX8_isClose_10 (lv_at hl 4 rfl) ?_
        refine lv_aload_n hx hb dX8_isClose_12 rfl (lv_at hl 0 rfl) ?_
        refine k_get (C := RX8) (T := TX8) (N := 13) (v := .ref (ad 1)) hx hb hts hown E I iX8 (0) (by decide) (r0 := τ 0) rfl km_0 rfl 0 (by decide) (List.mem_of_getElem? (i := 1) rfl) rfl dX8_isClose_13 ?_
        refine lv_iconst (v := nI 1) hx hb dX8_isClose_16 (by decide) ?_
        refine k_iald hx hb E I (1) (by decide) (r0 := τ 1) rfl km_1 (vp_in_nI (by omega) (by decide)) dX8_isClose_17 ?_
        rw [nI_clamp (by omega)]
        rw [hM 1 (by decide)]
        refine lv_icmp_ge (tgt := 54) hx hb dX8_isClose_18 (by decide) (fun c_18 => ?_) (fun c_18 => ?_)
        · have c_18 : ((N 1)) ≤ t := (nI_leI (by omega) (by omega)).mp c_18
          have hte : t = N 1 := by omega
          rcases (show fl = 0 ∨ fl = 1 by omega) with rfl | rfl
          · have hno : ¬ pGood N b i (N (23 + 13 * i + 2)) = true := fun q => by
              unfold pGood at q
              rw [Bool.and_eq_true] at q
              exact absurd (hfl.mpr ⟨q.1, (pAp_iff t).mpr (fun u hu hne => (pAp_iff _).mp q.2 u (by omega) hne)⟩) (by decide)
            refine lv_iload_n hx hb dX8_isClose_54 rfl (lv_at hl 3 rfl) ?_
            exact k_zret hx hb hr (by decide) hlk I dX8_isClose_55 (⟨by first | exact kT_0 hno | exact kT_1 (by have q := hfl.mp rfl; unfold pGood; rw [q.1, ← hte, q.2]; rfl) | exact absurd c_22 (by decide), hQ⟩)
          · refine lv_iload_n hx hb dX8_isClose_54 rfl (lv_at hl 3 rfl) ?_
            exact k_zret hx hb hr (by decide) hlk I dX8_isClose_55 (⟨by first | exact kT_0 hno | exact kT_1 (by have q := hfl.mp rfl; unfold pGood; rw [q.1, ← hte, q.2]; rfl) | exact absurd c_22 (by decide), hQ⟩)
        · have c_18 : ¬ (((N 1)) ≤ t) := fun q_ => c_18 ((nI_leI (by omega) (by omega)).mpr q_)
          have ht : t < N 1 := by omega
          have H_t : t < 5 := by omega
          refine lv_iload_n hx hb dX8_isClose_21 rfl (lv_at hl 3 rfl) ?_
          refine lv_if_eq (tgt := 54) hx hb dX8_isClose_22 (by decide) (fun c_22 => ?_) (fun c_22 => ?_)
          · have c_22 : fl = 0 := (nI_eq (by omega) (by decide)).mp c_22
            rcases (show fl = 0 ∨ fl = 1 by omega) with rfl | rfl
            · have hno : ¬ pGood N b i (N (23 + 13 * i + 2)) = true := fun q => by
                unfold pGood at q
                rw [Bool.and_eq_true] at q
                exact absurd (hfl.mpr ⟨q.1, (pAp_iff t).mpr (fun u hu hne => (pAp_iff _).mp q.2 u (by omega) hne)⟩) (by decide)
              refine lv_iload_n hx hb dX8_isClose_54 rfl (lv_at hl 3 rfl) ?_
              exact k_zret hx hb hr (by decide) hlk I dX8_isClose_55 (⟨by first | exact kT_0 hno | exact kT_1 (by have q := hfl.mp rfl; unfold pGood; rw [q.1, ← hte, q.2]; rfl) | exact absurd c_22 (by decide), hQ⟩)
            · refine lv_iload_n hx hb dX8_isClose_54 rfl (lv_at hl 3 rfl) ?_
              exact k_zret hx hb hr (by decide) hlk I dX8_isClose_55 (⟨by first | exact kT_0 hno | exact kT_1 (by have q := hfl.mp rfl; unfold pGood; rw [q.1, ← hte, q.2]; rfl) | exact absurd c_22 (by decide), hQ⟩)
          · have c_22 : ¬ (fl = 0) := fun q_ => c_22 ((nI_eq (by omega) (by decide)).mpr q_)
            have hgo := hfl.mp (by omega)
            refine lv_iload hx hb dX8_isClose_25 (lv_at hl 4 rfl) ?_
            refine lv_iload_n hx hb dX8_isClose_27 rfl (lv_at hl 1 rfl) ?_
            refine lv_icmp_eq (tgt := 42) hx hb dX8_isClose_28 (by decide) (fun c_28 => ?_) (fun c_28 => ?_)
            · have c_28 : t = i := (nI_eq (by omega) (by omega)).mp c_28
              have hnx : pAp N b i (N (23 + 13 * i + 2)) (t + 1) = true := by unfold pAp; rw [hgo.2]; simp [c_28]
              refine lv_iconst (v := nI 1) hx hb dX8_isClose_42 (by decide) ?_
              refine lv_goto (tgt := 47) hx hb dX8_isClose_43 (by decide) ?_
              refine lv_istore_n (lv' := [(3, .int (nI 1)), (0, .ref (ad 0)), (1, .int (nI i)), (2, .int (nI b)), (4, .int (nI t))]) hx hb dX8_isClose_47 rfl hl (by decide) rfl (fun ls hl => ?_)
              refine lv_iinc (v := nI (t + 1)) (lv' := [(4, .int (nI (t + 1))), (3, .int (nI 1)), (0, .ref (ad 0)), (1, .int (nI i)), (2, .int (nI b))]) hx hb dX8_isClose_48 hl (k := 4) rfl (show nI t + Int32.ofInt 1 = nI (t + 1) from nI_add t 1) (by decide) rfl (fun ls hl => ?_)
              refine lv_goto (tgt := 10) hx hb dX8_isClose_51 (by decide) ?_
              exact ih_10 (t + 1) _ _ (by omega) (by omega) (by decide) (hQ) (by first | exact ⟨fun _ => ⟨hgo.1, hnx⟩, fun _ => rfl⟩ | exact ⟨fun q => absurd q (by decide), fun q => absurd q.2 hnx⟩) _ _ I _ (lv_sub hl [2, 3, 4, 1, 0] rfl)
            · have c_28 : ¬ (t = i) := fun q_ => c_28 ((nI_eq (by omega) (by omega)).mpr q_)
              refine lv_aload_n hx hb dX8_isClose_31 rfl (lv_at hl 0 rfl) ?_
              refine lv_iload_n hx hb dX8_isClose_32 rfl (lv_at hl 1 rfl) ?_
              refine lv_iload hx hb dX8_isClose_33 (lv_at hl 4 rfl) ?_
              refine lv_iload_n hx hb dX8_isClose_35 rfl (lv_at hl 2 rfl) ?_
              refine k_calli (k := 0) (As := [.int (nI i), .int (nI t), .int (nI b)]) (rest := []) ⟨hx, hb, hml, hown, hts⟩ (c_X8_areApart cy D ad l τ N hN i hi t ht hM b hb20) (cwV 3 hts gX8_isClose_X8_areApart rfl rfl rfl (by decide +kernel) ⟨Nat.le_of_ble_eq_true rfl, Nat.le_of_ble_eq_true rfl⟩) E hA I (k_recv E I (by decide) km_0 rfl) rfl hl.1 rfl (lv_room (Nat.le_of_ble_eq_true rfl)) dX8_isClose_36 ⟨Nat.le_of_ble_eq_true rfl, Nat.le_of_ble_eq_true rfl⟩ (fun r_36 σ_36 H locs hp_36 I => ?_)
              obtain ⟨hk_, hq_⟩ := hp_36
              have hQ := qm_tr hQ hq_
              have hM := mN_qm hM hq_
              rcases hk_ with ⟨rfl, g3⟩ | ⟨rfl, g3⟩
              · have hnx : pAp N b i (N (23 + 13 * i + 2)) (t + 1) = true := by unfold pAp; rw [hgo.2, show pClr N i t (pSw N i (N (23 + 13 * i + 2)) b) (pS N b t) = true from g3]; simp
                refine lv_if_eq (tgt := 46) hx hb dX8_isClose_39 (by decide) (fun c_39 => ?_) (fun c_39 => ?_)
                · exact absurd c_39 (by decide)
                · refine lv_iconst (v := nI 1) hx hb dX8_isClose_42 (by decide) ?_
                  refine lv_goto (tgt := 47) hx hb dX8_isClose_43 (by decide) ?_
                  refine lv_istore_n (lv' := [(3, .int (nI 1)), (0, .ref (ad 0)), (1, .int (nI i)), (2, .int (nI b)), (4, .int (nI t))]) hx hb dX8_isClose_47 rfl hl (by decide) rfl (fun ls hl => ?_)
                  refine lv_iinc (v := nI (t + 1)) (lv' := [(4, .int (nI (t + 1))), (3, .int (nI 1)), (0, .ref (ad 0)), (1, .int (nI i)), (2, .int (nI b))]) hx hb dX8_isClose_48 hl (k := 4) rfl (show nI t + Int32.ofInt 1 = nI (t + 1) from nI_add t 1) (by decide) rfl (fun ls hl => ?_)
                  refine lv_goto (tgt := 10) hx hb dX8_isClose_51 (by decide) ?_
                  exact ih_10 (t + 1) _ _ (by omega) (by omega) (by decide) (hQ) (by first | exact ⟨fun _ => ⟨hgo.1, hnx⟩, fun _ => rfl⟩ | exact ⟨fun q => absurd q (by decide), fun q => absurd q.2 hnx⟩) _ _ I _ (lv_sub hl [2, 3, 4, 1, 0] rfl)
              · have hnx : ¬ pAp N b i (N (23 + 13 * i + 2)) (t + 1) = true := fun q => by unfold pAp at q; rw [show pClr N i t (pSw N i (N (23 + 13 * i + 2)) b) (pS N b t) = false from Bool.eq_false_iff.mpr g3] at q; simp [c_28] at q
                refine lv_if_eq (tgt := 46) hx hb dX8_isClose_39 (by decide) (fun c_39 => ?_) (fun c_39 => ?_)
                · refine lv_iconst (v := nI 0) hx hb dX8_isClose_46 (by decide) ?_
                  refine lv_istore_n (lv' := [(3, .int (nI 0)), (0, .ref (ad 0)), (1, .int (nI i)), (2, .int (nI b)), (4, .int (nI t))]) hx hb dX8_isClose_47 rfl hl (by decide) rfl (fun ls hl => ?_)
                  refine lv_iinc (v := nI (t + 1)) (lv' := [(4, .int (nI (t + 1))), (3, .int (nI 0)), (0, .ref (ad 0)), (1, .int (nI i)), (2, .int (nI b))]) hx hb dX8_isClose_48 hl (k := 4) rfl (show nI t + Int32.ofInt 1 = nI (t + 1) from nI_add t 1) (by decide) rfl (fun ls hl => ?_)
                  refine lv_goto (tgt := 10) hx hb dX8_isClose_51 (by decide) ?_
                  exact ih_10 (t + 1) _ _ (by omega) (by omega) (by decide) (hQ) (by first | exact ⟨fun _ => ⟨hgo.1, hnx⟩, fun _ => rfl⟩ | exact ⟨fun q => absurd q (by decide), fun q => absurd q.2 hnx⟩) _ _ I _ (lv_sub hl [2, 3, 4, 1, 0] rfl)
                · exact absurd c_39 (by decide)
    exact LP_10 _ 0 _ _ (Nat.lt_succ_self _) (Nat.zero_le _) (by decide) (hq_) (by first | exact ⟨fun _ => ⟨g1.2, rfl⟩, fun _ => rfl⟩ | exact ⟨fun q => absurd q (by decide), fun q => absurd ⟨h7, q.1⟩ g1⟩) _ _ I _ (lv_sub hl [2, 3, 4, 1, 0] rfl)
  · refine lv_istore_n (lv' := [(3, .int (nI 0)), (0, .ref (ad 0)), (1, .int (nI i)), (2, .int (nI b))]) hx hb dX8_isClose_6 rfl hl (by decide) rfl (fun ls hl => ?_)
    refine lv_iconst (v := nI 0) hx hb dX8_isClose_7 (by decide) ?_
    refine lv_istore (lv' := [(4, .int (nI 0)), (3, .int (nI 0)), (0, .ref (ad 0)), (1, .int (nI i)), (2, .int (nI b))]) hx hb dX8_isClose_8 hl (by decide) rfl (fun ls hl => ?_)
    have LP_10 : ∀ (fuel_10 : Nat) (t : Nat) (fl : Nat) (τ : Nat → Nat → Int32), N 1 - t < fuel_10 → (t ≤ N 1) → (fl ≤ 1) → (qm σ τ) → (fl = 1 ↔ (pHo N i (N (23 + 13 * i + 2)) b = true ∧ pAp N b i (N (23 + 13 * i + 2)) t = true)) → ∀ (H : Heap) (locs : List Loc), kI 6 ad (kcM cy ad) D (kA 6 ad s.heap.size) s.heap τ H locs → ∀ ls : Array Slot, lv_has ls 5 [(0, .ref (ad 0)), (1, .int (nI i)), (2, .int (nI b)), (3, .int (nI fl)), (4, .int (nI t))] → W p l e (headSpec wsX8_isClose ({ frames := 7, cells := 0, slots := 0, locals := 167 })).room s m [.ref (ad 0), .int (nI i), .int (nI b)].toArray below meth c H locs 0 0 (MQ below (va_Qi (fun r σ' => kT r (pGood N b i (N (23 + 13 * i + 2)) = true) ∧ qm σ σ') (kB 6 ad (kcM cy ad) D) (kA 6 ad s.heap.size)) [.ref (ad 0), .int (nI i), .int (nI b)].toArray s 0 0 (kA 6 ad s.heap.size)) (F0 m 10 ls []) := by
      intro fuel_10
      induction fuel_10 with
      | zero => intro t fl τ hf_10; exact absurd hf_10 (Nat.not_lt_zero _)
      | succ fuel_10 ih_10 =>
        intro t fl τ hf_10 htn hf1 hQ hfl H locs I ls hl
        have hM := mN_qm hM hQ
        refine lv_iload hx hb dX8_isClose_10 (lv_at hl 4 rfl) ?_
        refine lv_aload_n hx hb dX8_isClose_12 rfl (lv_at hl 0 rfl) ?_
        refine k_get (C := RX8) (T := TX8) (N := 13) (v := .ref (ad 1)) hx hb hts hown E I iX8 (0) (by decide) (r0 := τ 0) rfl km_0 rfl 0 (by decide) (List.mem_of_getElem? (i := 1) rfl) rfl dX8_isClose_13 ?_
        refine lv_iconst (v := nI 1) hx hb dX8_isClose_16 (by decide) ?_
        refine k_iald hx hb E I (1) (by decide) (r0 := τ 1) rfl km_1 (vp_in_nI (by omega) (by decide)) dX8_isClose_17 ?_
        rw [nI_clamp (by omega)]
        rw [hM 1 (by decide)]
        refine lv_icmp_ge (tgt := 54) hx hb dX8_isClose_18 (by decide) (fun c_18 => ?_) (fun c_18 => ?_)
        · have c_18 : ((N 1)) ≤ t := (nI_leI (by omega) (by omega)).mp c_18
          have hte : t = N 1 := by omega
          rcases (show fl = 0 ∨ fl = 1 by omega) with rfl | rfl
          · have hno : ¬ pGood N b i (N (23 + 13 * i + 2)) = true := fun q => by
              unfold pGood at q
              rw [Bool.and_eq_true] at q
              exact absurd (hfl.mpr ⟨q.1, (pAp_iff t).mpr (fun u hu hne => (pAp_iff _).mp q.2 u (by omega) hne)⟩) (by decide)
            refine lv_iload_n hx hb dX8_isClose_54 rfl (lv_at hl 3 rfl) ?_
            exact k_zret hx hb hr (by decide) hlk I dX8_isClose_55 (⟨by first | exact kT_0 hno | exact kT_1 (by have q := hfl.mp rfl; unfold pGood; rw [q.1, ← hte, q.2]; rfl) | exact absurd c_22 (by decide), hQ⟩)
          · refine lv_iload_n hx hb dX8_isClose_54 rfl (lv_at hl 3 rfl) ?_
            exact k_zret hx hb hr (by decide) hlk I dX8_isClose_55 (⟨by first | exact kT_0 hno | exact kT_1 (by have q := hfl.mp rfl; unfold pGood; rw [q.1, ← hte, q.2]; rfl) | exact absurd c_22 (by decide), hQ⟩)
        · have c_18 : ¬ (((N 1)) ≤ t) := fun q_ => c_18 ((nI_leI (by omega) (by omega)).mpr q_)
          have ht : t < N 1 := by omega
          have H_t : t < 5 := by omega
          refine lv_iload_n hx hb dX8_isClose_21 rfl (lv_at hl 3 rfl) ?_
          refine lv_if_eq (tgt := 54) hx hb dX8_isClose_22 (by decide) (fun c_22 => ?_) (fun c_22 => ?_)
          · have c_22 : fl = 0 := (nI_eq (by omega) (by decide)).mp c_22
            rcases (show fl = 0 ∨ fl = 1 by omega) with rfl | rfl
            · have hno : ¬ pGood N b i (N (23 + 13 * i + 2)) = true := fun q => by
                unfold pGood at q
                rw [Bool.and_eq_true] at q
                exact absurd (hfl.mpr ⟨q.1, (pAp_iff t).mpr (fun u hu hne => (pAp_iff _).mp q.2 u (by omega) hne)⟩) (by decide)
              refine lv_iload_n hx hb dX8_isClose_54 rfl (lv_at hl 3 rfl) ?_
              exact k_zret hx hb hr (by decide) hlk I dX8_isClose_55 (⟨by first | exact kT_0 hno | exact kT_1 (by have q := hfl.mp rfl; unfold pGood; rw [q.1, ← hte, q.2]; rfl) | exact absurd c_22 (by decide), hQ⟩)
            · refine lv_iload_n hx hb dX8_isClose_54 rfl (lv_at hl 3 rfl) ?_
              exact k_zret hx hb hr (by decide) hlk I dX8_isClose_55 (⟨by first | exact kT_0 hno | exact kT_1 (by have q := hfl.mp rfl; unfold pGood; rw [q.1, ← hte, q.2]; rfl) | exact absurd c_22 (by decide), hQ⟩)
          · have c_22 : ¬ (fl = 0) := fun q_ => c_22 ((nI_eq (by omega) (by decide)).mpr q_)
            have hgo := hfl.mp (by omega)
            refine lv_iload hx hb dX8_isClose_25 (lv_at hl 4 rfl) ?_
            refine lv_iload_n hx hb dX8_isClose_27 rfl (lv_at hl 1 rfl) ?_
            refine lv_icmp_eq (tgt := 42) hx hb dX8_isClose_28 (by decide) (fun c_28 => ?_) (fun c_28 => ?_)
            · have c_28 : t = i := (nI_eq (by omega) (by omega)).mp c_28
              have hnx : pAp N b i (N (23 + 13 * i + 2)) (t + 1) = true := by unfold pAp; rw [hgo.2]; simp [c_28]
              refine lv_iconst (v := nI 1) hx hb dX8_isClose_42 (by decide) ?_
              refine lv_goto (tgt := 47) hx hb dX8_isClose_43 (by decide) ?_
              refine lv_istore_n (lv' := [(3, .int (nI 1)), (0, .ref (ad 0)), (1, .int (nI i)), (2, .int (nI b)), (4, .int (nI t))]) hx hb dX8_isClose_47 rfl hl (by decide) rfl (fun ls hl => ?_)
              refine lv_iinc (v := nI (t + 1)) (lv' := [(4, .int (nI (t + 1))), (3, .int (nI 1)), (0, .ref (ad 0)), (1, .int (nI i)), (2, .int (nI b))]) hx hb dX8_isClose_48 hl (k := 4) rfl (show nI t + Int32.ofInt 1 = nI (t + 1) from nI_add t 1) (by decide) rfl (fun ls hl => ?_)
              refine lv_goto (tgt := 10) hx hb dX8_isClose_51 (by decide) ?_
              exact ih_10 (t + 1) _ _ (by omega) (by omega) (by decide) (hQ) (by first | exact ⟨fun _ => ⟨hgo.1, hnx⟩, fun _ => rfl⟩ | exact ⟨fun q => absurd q (by decide), fun q => absurd q.2 hnx⟩) _ _ I _ (lv_sub hl [2, 3, 4, 1, 0] rfl)
            · have c_28 : ¬ (t = i) := fun q_ => c_28 ((nI_eq (by omega) (by omega)).mpr q_)
              refine lv_aload_n hx hb dX8_isClose_31 rfl (lv_at hl 0 rfl) ?_
              refine lv_iload_n hx hb dX8_isClose_32 rfl (lv_at hl 1 rfl) ?_
              refine lv_iload hx hb dX8_isClose_33 (lv_at hl 4 rfl) ?_
              refine lv_iload_n hx hb dX8_isClose_35 rfl (lv_at hl 2 rfl) ?_
              refine k_calli (k := 0) (As := [.int (nI i), .int (nI t), .int (nI b)]) (rest := []) ⟨hx, hb, hml, hown, hts⟩ (c_X8_areApart cy D ad l τ N hN i hi t ht hM b hb20) (cwV 3 hts gX8_isClose_X8_areApart rfl rfl rfl (by decide +kernel) ⟨Nat.le_of_ble_eq_true rfl, Nat.le_of_ble_eq_true rfl⟩) E hA I (k_recv E I (by decide) km_0 rfl) rfl hl.1 rfl (lv_room (Nat.le_of_ble_eq_true rfl)) dX8_isClose_36 ⟨Nat.le_of_ble_eq_true rfl, Nat.le_of_ble_eq_true rfl⟩ (fun r_36 σ_36 H locs hp_36 I => ?_)
              obtain ⟨hk_, hq_⟩ := hp_36
              have hQ := qm_tr hQ hq_
              have hM := mN_qm hM hq_
              rcases hk_ with ⟨rfl, g3⟩ | ⟨rfl, g3⟩
              · have hnx : pAp N b i (N (23 + 13 * i + 2)) (t + 1) = true := by unfold pAp; rw [hgo.2, show pClr N i t (pSw N i (N (23 + 13 * i + 2)) b) (pS N b t) = true from g3]; simp
                refine lv_if_eq (tgt := 46) hx hb dX8_isClose_39 (by decide) (fun c_39 => ?_) (fun c_39 => ?_)
                · exact absurd c_39 (by decide)
                · refine lv_iconst (v := nI 1) hx hb dX8_isClose_42 (by decide) ?_
                  refine lv_goto (tgt := 47) hx hb dX8_isClose_43 (by decide) ?_
                  refine lv_istore_n (lv' := [(3, .int (nI 1)), (0, .ref (ad 0)), (1, .int (nI i)), (2, .int (nI b)), (4, .int (nI t))]) hx hb dX8_isClose_47 rfl hl (by decide) rfl (fun ls hl => ?_)
                  refine lv_iinc (v := nI (t + 1)) (lv' := [(4, .int (nI (t + 1))), (3, .int (nI 1)), (0, .ref (ad 0)), (1, .int (nI i)), (2, .int (nI b))]) hx hb dX8_isClose_48 hl (k := 4) rfl (show nI t + Int32.ofInt 1 = nI (t + 1) from nI_add t 1) (by decide) rfl (fun ls hl => ?_)
                  refine lv_goto (tgt := 10) hx hb dX8_isClose_51 (by decide) ?_
                  exact ih_10 (t + 1) _ _ (by omega) (by omega) (by decide) (hQ) (by first | exact ⟨fun _ => ⟨hgo.1, hnx⟩, fun _ => rfl⟩ | exact ⟨fun q => absurd q (by decide), fun q => absurd q.2 hnx⟩) _ _ I _ (lv_sub hl [2, 3, 4, 1, 0] rfl)
              · have hnx : ¬ pAp N b i (N (23 + 13 * i + 2)) (t + 1) = true := fun q => by unfold pAp at q; rw [show pClr N i t (pSw N i (N (23 + 13 * i + 2)) b) (pS N b t) = false from Bool.eq_false_iff.mpr g3] at q; simp [c_28] at q
                refine lv_if_eq (tgt := 46) hx hb dX8_isClose_39 (by decide) (fun c_39 => ?_) (fun c_39 => ?_)
                · refine lv_iconst (v := nI 0) hx hb dX8_isClose_46 (by decide) ?_
                  refine lv_istore_n (lv' := [(3, .int (nI 0)), (0, .ref (ad 0)), (1, .int (nI i)), (2, .int (nI b)), (4, .int (nI t))]) hx hb dX8_isClose_47 rfl hl (by decide) rfl (fun ls hl => ?_)
                  refine lv_iinc (v := nI (t + 1)) (lv' := [(4, .int (nI (t + 1))), (3, .int (nI 0)), (0, .ref (ad 0)), (1, .int (nI i)), (2, .int (nI b))]) hx hb dX8_isClose_48 hl (k := 4) rfl (show nI t + Int32.ofInt 1 = nI (t + 1) from nI_add t 1) (by decide) rfl (fun ls hl => ?_)
                  refine lv_goto (tgt := 10) hx hb dX8_isClose_51 (by decide) ?_
                  exact ih_10 (t + 1) _ _ (by omega) (by omega) (by decide) (hQ) (by first | exact ⟨fun _ => ⟨hgo.1, hnx⟩, fun _ => rfl⟩ | exact ⟨fun q => absurd q (by decide), fun q => absurd q.2 hnx⟩) _ _ I _ (lv_sub hl [2, 3, 4, 1, 0] rfl)
                · exact absurd c_39 (by decide)
    exact LP_10 _ 0 _ _ (Nat.lt_succ_self _) (Nat.zero_le _) (by decide) (hq_) (by first | exact ⟨fun _ => ⟨g1.2, rfl⟩, fun _ => rfl⟩ | exact ⟨fun q => absurd q (by decide), fun q => absurd ⟨h7, q.1⟩ g1⟩) _ _ I _ (lv_sub hl [2, 3, 4, 1, 0] rfl)
set_option maxHeartbeats 4000000 in
set_option maxRecDepth 100000 in
theorem c_X8_close (cy : Nat → ClassId) (D : va_G) (ad : Nat → Nat) (l : Launch) (σ : Nat → Nat → Int32) (s0 b : Int32) (N : Nat → Nat) (P : Nat → Nat → Nat) (np : Nat) (T : Nat → Nat) (nt : Nat) (hC : rM σ (N, P, np, T, nt)) : kMi 6 ad (kcM cy ad) cy D l yX8_close wsX8_close ({ frames := 8, cells := 0, slots := 0, locals := 191 }) [.ref (ad 0), .int s0, .int b] σ (fun r σ' => r = (sClose s0 b (N, P, np, T, nt)).1 ∧ rM σ' (sClose s0 b (N, P, np, T, nt)).2) := by
  obtain ⟨hM, hN, hPs, hT⟩ := id hC
  have h5 := hN.1
  refine k_entry (cc := cX8_close) (maxL := 6) (ret := (some .int)) (by decide) rfl (Nat.le_of_ble_eq_true rfl) ?_
  intro p e s m below meth c hx hb hr hml hown hts hlk E I ls hl
  have hA : ∀ q, s.heap.size ≤ q → kA 6 ad s.heap.size q := fun q h => Or.inr h
  have hown : s.vm.findClass RX8 = some m.cls := hown
  have hl : lv_has ls 6 [(0, .ref (ad 0)), (1, .int s0), (2, .int b)] := hl
  generalize hQdef : MQ below (va_Qi (fun r σ' => r = (sClose s0 b (N, P, np, T, nt)).1 ∧ rM σ' (sClose s0 b (N, P, np, T, nt)).2) (kB 6 ad (kcM cy ad) D) (kA 6 ad s.heap.size)) [.ref (ad 0), .int s0, .int b].toArray s 0 0 (kA 6 ad s.heap.size) = Q
  refine lv_aload_n hx hb dX8_close_0 rfl (lv_at hl 0 rfl) ?_
  refine lv_iload_n hx hb dX8_close_1 rfl (lv_at hl 1 rfl) ?_
  refine k_calli (k := 0) (As := [.int s0]) (rest := []) ⟨hx, hb, hml, hown, hts⟩ (c_X8_isShip cy D ad l σ (s0) N hN hM) (cwV 1 hts gX8_close_X8_isShip rfl rfl rfl (by decide +kernel) ⟨Nat.le_of_ble_eq_true rfl, Nat.le_of_ble_eq_true rfl⟩) E hA I (k_recv E I (by decide) km_0 rfl) rfl hl.1 rfl (lv_room (Nat.le_of_ble_eq_true rfl)) dX8_close_2 ⟨Nat.le_of_ble_eq_true rfl, Nat.le_of_ble_eq_true rfl⟩ (fun r_2 σ_2 H locs hp_2 I => ?_)
  obtain ⟨hk_, rfl⟩ := hp_2
  rcases hk_ with ⟨rfl, g0⟩ | ⟨rfl, hnS⟩
  · obtain ⟨i, hi, rfl⟩ := okS_of g0
    have H_i : i < 5 := by omega
    have hsh := hN.2.2 i hi
    unfold nSh at hsh
    have hoS := okS_nI hi h5.2.2.2.1
    have hcl : (nI i).toNatClampNeg = i := nI_clamp (by omega)
    refine lv_if_eq (tgt := 15) hx hb dX8_close_5 (by decide) (fun c_5 => ?_) (fun c_5 => ?_)
    · exact absurd c_5 (by decide)
    · refine lv_iload_n hx hb dX8_close_8 rfl (lv_at hl 2 rfl) ?_
      refine k_calls (As := [.int b]) (rest := []) ⟨hx, hb, hml, hown, hts⟩ (c_X8_isWind l (b)) (va_cwS 1 hts gX8_close_X8_isWind rfl rfl rfl (by decide +kernel) ⟨Nat.le_of_ble_eq_true rfl, Nat.le_of_ble_eq_true rfl⟩) rfl hl.1 rfl (lv_room (Nat.le_of_ble_eq_true rfl)) dX8_close_9 ⟨Nat.le_of_ble_eq_true rfl, Nat.le_of_ble_eq_true rfl⟩ (fun r_9 hp_9 => ?_)
      rcases hp_9 with ⟨rfl, g1⟩ | ⟨rfl, g1⟩
      · obtain ⟨bb, b1, b2, rfl⟩ := kT_in (by decide) (by decide) g1
        refine lv_if_ne (tgt := 17) hx hb dX8_close_12 (by decide) (fun c_12 => ?_) (fun c_12 => ?_)
        · refine lv_aload_n hx hb dX8_close_17 rfl (lv_at hl 0 rfl) ?_
          refine lv_iload_n hx hb dX8_close_18 rfl (lv_at hl 1 rfl) ?_
          refine lv_bipush (v := nI 7) hx hb dX8_close_19 (by decide) ?_
          refine k_calli (k := 0) (As := [.int (nI i), .int (nI 7)]) (rest := []) ⟨hx, hb, hml, hown, hts⟩ (c_X8_of cy D ad l σ i (7) (N (23 + 13 * i + 7)) (by omega) (hM _ (by omega))) (cwV 2 hts gX8_close_X8_of rfl rfl rfl (by decide +kernel) ⟨Nat.le_of_ble_eq_true rfl, Nat.le_of_ble_eq_true rfl⟩) E hA I (k_recv E I (by decide) km_0 rfl) rfl hl.1 rfl (lv_room (Nat.le_of_ble_eq_true rfl)) dX8_close_21 ⟨Nat.le_of_ble_eq_true rfl, Nat.le_of_ble_eq_true rfl⟩ (fun r_21 σ_21 H locs hp_21 I => ?_)
          obtain ⟨rfl, rfl⟩ := hp_21
          refine lv_iconst (v := nI 1) hx hb dX8_close_24 (by decide) ?_
          refine lv_icmp_ne (tgt := 31) hx hb dX8_close_25 (by decide) (fun c_25 => ?_) (fun c_25 => ?_)
          · have c_25 : ¬ ((N (23 + 13 * i + 7)) = 1) := fun q_ => c_25 ((nI_eq (by omega) (by omega)).mpr q_)
            refine lv_aload_n hx hb dX8_close_31 rfl (lv_at hl 0 rfl) ?_
            refine lv_iload_n hx hb dX8_close_32 rfl (lv_at hl 1 rfl) ?_
            refine lv_iconst (v := nI 2) hx hb dX8_close_33 (by decide) ?_
            refine k_calli (k := 0) (As := [.int (nI i), .int (nI 2)]) (rest := []) ⟨hx, hb, hml, hown, hts⟩ (c_X8_of cy D ad l σ i (2) (N (23 + 13 * i + 2)) (by omega) (hM _ (by omega))) (cwV 2 hts gX8_close_X8_of rfl rfl rfl (by decide +kernel) ⟨Nat.le_of_ble_eq_true rfl, Nat.le_of_ble_eq_true rfl⟩) E hA I (k_recv E I (by decide) km_0 rfl) rfl hl.1 rfl (lv_room (Nat.le_of_ble_eq_true rfl)) dX8_close_34 ⟨Nat.le_of_ble_eq_true rfl, Nat.le_of_ble_eq_true rfl⟩ (fun r_34 σ_34 H locs hp_34 I => ?_)
            obtain ⟨rfl, rfl⟩ := hp_34
            refine lv_istore_n (lv' := [(3, .int (nI (N (23 + 13 * i + 2)))), (0, .ref (ad 0)), (1, .int (nI i)), (2, .int (nI bb))]) hx hb dX8_close_37 rfl hl (by decide) rfl (fun ls hl => ?_)
            refine lv_bipush (v := (-4 : Int32)) hx hb dX8_close_38 (by decide) ?_
            refine lv_istore (lv' := [(4, .int (-4)), (3, .int (nI (N (23 + 13 * i + 2)))), (0, .ref (ad 0)), (1, .int (nI i)), (2, .int (nI bb))]) hx hb dX8_close_40 hl (by decide) rfl (fun ls hl => ?_)
            refine lv_bipush (v := nI 60) hx hb dX8_close_42 (by decide) ?_
            refine lv_istore (lv' := [(5, .int (nI 60)), (4, .int (-4)), (3, .int (nI (N (23 + 13 * i + 2)))), (0, .ref (ad 0)), (1, .int (nI i)), (2, .int (nI bb))]) hx hb dX8_close_44 hl (by decide) rfl (fun ls hl => ?_)
            have LP_46 : ∀ (fuel_46 : Nat) (n : Nat) (bst : Int32) (x : Nat) (τ : Nat → Nat → Int32), n < fuel_46 → (n ≤ 60) → (mN τ (va_up N (23 + 13 * i + 2) x)) → (qn σ τ) → ((bst = -4 ∧ ∀ j, j < 60 - n → pGood N bb i (60 - j) = false) ∨ (n + 1 ≤ 60 ∧ bst = nI (n + 1) ∧ pGood N bb i (n + 1) = true ∧ ∀ j, j < 59 - n → pGood N bb i (60 - j) = false)) → ∀ (H : Heap) (locs : List Loc), kI 6 ad (kcM cy ad) D (kA 6 ad s.heap.size) s.heap τ H locs → ∀ ls : Array Slot, lv_has ls 6 [(0, .ref (ad 0)), (1, .int (nI i)), (2, .int (nI bb)), (3, .int (nI (N (23 + 13 * i + 2)))), (4, .int bst), (5, .int (nI n))] → W p l e (headSpec wsX8_close ({ frames := 8, cells := 0, slots := 0, locals := 191 })).room s m [.ref (ad 0), .int (nI i), .int (nI bb)].toArray below meth c H locs 0 0 Q (F0 m 46 ls []) := by
              intro fuel_46
              induction fuel_46 with
              | zero => intro n bst x τ hf_46; exact absurd hf_46 (Nat.not_lt_zero _)
              | succ fuel_46 ih_46 =>
                intro n bst x τ hf_46 hn60 hMt hQt hbst H locs I ls hl
                refine lv_iload hx hb dX8_close_46 (lv_at hl 5 rfl) ?_
                refine lv_if_le (tgt := 90) hx hb dX8_close_48 (by decide) (fun c_48 => ?_) (fun c_48 => ?_)
                · have c_48 : n ≤ 0 := (nI_leI (by omega) (by decide)).mp c_48
                  refine lv_aload_n hx hb dX8_close_90 rfl (lv_at hl 0 rfl) ?_
                  refine lv_iload_n hx hb dX8_close_91 rfl (lv_at hl 1 rfl) ?_
                  refine lv_iconst (v := nI 2) hx hb dX8_close_92 (by decide) ?_
                  refine lv_iload_n hx hb dX8_close_93 rfl (lv_at hl 3 rfl) ?_
                  refine k_callv (k := 0) (As := [.int (nI i), .int (nI 2), .int (nI (N (23 + 13 * i + 2)))]) (rest := []) ⟨hx, hb, hml, hown, hts⟩ (c_X8_put cy D ad l τ i 2 ((nI (N (23 + 13 * i + 2)))) (by omega)) (cwV 3 hts gX8_close_X8_put rfl rfl rfl (by decide +kernel) ⟨Nat.le_of_ble_eq_true rfl, Nat.le_of_ble_eq_true rfl⟩) E hA I (k_recv E I (by decide) km_0 rfl) rfl hl.1 rfl (lv_room (Nat.le_of_ble_eq_true rfl)) dX8_close_94 ⟨Nat.le_of_ble_eq_true rfl, Nat.le_of_ble_eq_true rfl⟩ (fun σ_94 H locs hp_94 I => ?_)
                  have hMb : mN σ_94 N := by have := mN_put hMt hp_94; rw [va_back] at this; exact this
                  have hQb := qn_tr hQt (qn_put hp_94)
                  refine lv_iload hx hb dX8_close_97 (lv_at hl 4 rfl) ?_
                  subst hQdef
                  exact k_iret hx hb hr hlk I dX8_close_99 (by rw [sClose_ok hoS hcl (Nat.zero_le _) b2, gClose, if_neg (by omega)]; rcases hbst with ⟨e_, hno⟩ | ⟨hn2, e_, hy, hno⟩; (first | exact absurd e_ c_55 | (rw [ff_eq (k := 60) (by omega) (fun j hj => hno j (by omega)) (fun z => absurd z (by omega)), if_neg (by omega)]; exact ⟨e_, rM_qn hC hQb hMb hN⟩)); (rw [ff_eq (k := 59 - n) (by omega) hno (fun _ => by rw [show 60 - (59 - n) = n + 1 by omega]; exact hy), if_pos (by omega)]; exact ⟨e_.trans (congrArg nI (by omega)), rM_qn hC hQb hMb hN⟩))
                · have c_48 : ¬ (n ≤ 0) := fun q_ => c_48 ((nI_leI (by omega) (by decide)).mpr q_)
                  refine lv_iload hx hb dX8_close_51 (lv_at hl 4 rfl) ?_
                  refine lv_bipush (v := (-4 : Int32)) hx hb dX8_close_53 (by decide) ?_
                  refine lv_icmp_ne (tgt := 90) hx hb dX8_close_55 (by decide) (fun c_55 => ?_) (fun c_55 => ?_)
                  · refine lv_aload_n hx hb dX8_close_90 rfl (lv_at hl 0 rfl) ?_
                    refine lv_iload_n hx hb dX8_close_91 rfl (lv_at hl 1 rfl) ?_
                    refine lv_iconst (v := nI 2) hx hb dX8_close_92 (by decide) ?_
                    refine lv_iload_n hx hb dX8_close_93 rfl (lv_at hl 3 rfl) ?_
                    refine k_callv (k := 0) (As := [.int (nI i), .int (nI 2), .int (nI (N (23 + 13 * i + 2)))]) (rest := []) ⟨hx, hb, hml, hown, hts⟩ (c_X8_put cy D ad l τ i 2 ((nI (N (23 + 13 * i + 2)))) (by omega)) (cwV 3 hts gX8_close_X8_put rfl rfl rfl (by decide +kernel) ⟨Nat.le_of_ble_eq_true rfl, Nat.le_of_ble_eq_true rfl⟩) E hA I (k_recv E I (by decide) km_0 rfl) rfl hl.1 rfl (lv_room (Nat.le_of_ble_eq_true rfl)) dX8_close_94 ⟨Nat.le_of_ble_eq_true rfl, Nat.le_of_ble_eq_true rfl⟩ (fun σ_94 H locs hp_94 I => ?_)
                    have hMb : mN σ_94 N := by have := mN_put hMt hp_94; rw [va_back] at this; exact this
                    have hQb := qn_tr hQt (qn_put hp_94)
                    refine lv_iload hx hb dX8_close_97 (lv_at hl 4 rfl) ?_
                    subst hQdef
                    exact k_iret hx hb hr hlk I dX8_close_99 (by rw [sClose_ok hoS hcl (Nat.zero_le _) b2, gClose, if_neg (by omega)]; rcases hbst with ⟨e_, hno⟩ | ⟨hn2, e_, hy, hno⟩; (first | exact absurd e_ c_55 | (rw [ff_eq (k := 60) (by omega) (fun j hj => hno j (by omega)) (fun z => absurd z (by omega)), if_neg (by omega)]; exact ⟨e_, rM_qn hC hQb hMb hN⟩)); (rw [ff_eq (k := 59 - n) (by omega) hno (fun _ => by rw [show 60 - (59 - n) = n + 1 by omega]; exact hy), if_pos (by omega)]; exact ⟨e_.trans (congrArg nI (by omega)), rM_qn hC hQb hMb hN⟩))
                  · have hno : ∀ j, j < 60 - n → pGood N bb i (60 - j) = false := by
                      rcases hbst with ⟨_, q⟩ | ⟨a_, b_, _, _⟩
                      · exact q
                      · exact absurd (b_.symm.trans c_55) (nI_m4 (by omega))
                    refine lv_aload_n hx hb dX8_close_58 rfl (lv_at hl 0 rfl) ?_
                    refine lv_iload_n hx hb dX8_close_59 rfl (lv_at hl 1 rfl) ?_
                    refine lv_iconst (v := nI 2) hx hb dX8_close_60 (by decide) ?_
                    refine lv_iload hx hb dX8_close_61 (lv_at hl 5 rfl) ?_
                    refine k_callv (k := 0) (As := [.int (nI i), .int (nI 2), .int (nI n)]) (rest := []) ⟨hx, hb, hml, hown, hts⟩ (c_X8_put cy D ad l τ i 2 ((nI n)) (by omega)) (cwV 3 hts gX8_close_X8_put rfl rfl rfl (by decide +kernel) ⟨Nat.le_of_ble_eq_true rfl, Nat.le_of_ble_eq_true rfl⟩) E hA I (k_recv E I (by decide) km_0 rfl) rfl hl.1 rfl (lv_room (Nat.le_of_ble_eq_true rfl)) dX8_close_63 ⟨Nat.le_of_ble_eq_true rfl, Nat.le_of_ble_eq_true rfl⟩ (fun σ_63 H locs hp_63 I => ?_)
                    have hMn : mN σ_63 (va_up N (23 + 13 * i + 2) n) := by have := mN_put hMt hp_63; rw [bx_uu] at this; exact this
                    have hQn := qn_tr hQt (qn_put hp_63)
                    have hNn := nOk_out hN hi (n := n) (by omega) (by omega)
                    refine lv_aload_n hx hb dX8_close_66 rfl (lv_at hl 0 rfl) ?_
                    refine lv_iload_n hx hb dX8_close_67 rfl (lv_at hl 1 rfl) ?_
                    refine lv_iload_n hx hb dX8_close_68 rfl (lv_at hl 2 rfl) ?_
                    refine k_calli (k := 0) (As := [.int (nI i), .int (nI bb)]) (rest := []) ⟨hx, hb, hml, hown, hts⟩ (c_X8_isClose cy D ad l σ_63 (va_up N (23 + 13 * i + 2) n) hNn i (by rw [va_up_ne _ _ (by omega)]; exact hi) hMn bb b2 (by rw [va_up_ne _ _ (by omega)]; omega)) (cwV 2 hts gX8_close_X8_isClose rfl rfl rfl (by decide +kernel) ⟨Nat.le_of_ble_eq_true rfl, Nat.le_of_ble_eq_true rfl⟩) E hA I (k_recv E I (by decide) km_0 rfl) rfl hl.1 rfl (lv_room (Nat.le_of_ble_eq_true rfl)) dX8_close_69 ⟨Nat.le_of_ble_eq_true rfl, Nat.le_of_ble_eq_true rfl⟩ (fun r_69 σ_69 H locs hp_69 I => ?_)
                    obtain ⟨hk_, hq_⟩ := hp_69
                    have hMn := mN_qm hMn hq_
                    have hQn := qn_tr hQn (qm_qn hq_)
                    rw [va_up_self, pGood_put hN hi] at hk_
                    rcases hk_ with ⟨rfl, g3⟩ | ⟨rfl, g3⟩
                    · refine lv_if_eq (tgt := 80) hx hb dX8_close_72 (by decide) (fun c_72 => ?_) (fun c_72 => ?_)
                      · exact absurd c_72 (by decide)
                      · refine lv_iload hx hb dX8_close_75 (lv_at hl 5 rfl) ?_
                        refine lv_goto (tgt := 82) hx hb dX8_close_77 (by decide) ?_
                        refine lv_istore (lv' := [(4, .int (nI n)), (0, .ref (ad 0)), (1, .int (nI i)), (2, .int (nI bb)), (3, .int (nI (N (23 + 13 * i + 2)))), (5, .int (nI n))]) hx hb dX8_close_82 hl (by decide) rfl (fun ls hl => ?_)
                        refine lv_iinc (v := nI (n - 1)) (lv' := [(5, .int (nI (n - 1))), (4, .int (nI n)), (0, .ref (ad 0)), (1, .int (nI i)), (2, .int (nI bb)), (3, .int (nI (N (23 + 13 * i + 2))))]) hx hb dX8_close_84 hl (k := 5) rfl (sb_m1 (by omega)) (by decide) rfl (fun ls hl => ?_)
                        refine lv_goto (tgt := 46) hx hb dX8_close_87 (by decide) ?_
                        exact ih_46 (n - 1) _ n _ (by omega) (by omega) (hMn) (hQn) (by first | exact Or.inr ⟨by omega, congrArg nI (by omega), by rw [show n - 1 + 1 = n by omega]; exact g3, fun j hj => hno j (by omega)⟩ | exact Or.inl ⟨rfl, fun j hj => by by_cases e_ : j = 60 - n; (rw [e_, show 60 - (60 - n) = n by omega]; simpa using g3); exact hno j (by omega)⟩) _ _ I _ (lv_sub hl [2, 3, 4, 5, 1, 0] rfl)
                    · refine lv_if_eq (tgt := 80) hx hb dX8_close_72 (by decide) (fun c_72 => ?_) (fun c_72 => ?_)
                      · refine lv_bipush (v := (-4 : Int32)) hx hb dX8_close_80 (by decide) ?_
                        refine lv_istore (lv' := [(4, .int (-4)), (0, .ref (ad 0)), (1, .int (nI i)), (2, .int (nI bb)), (3, .int (nI (N (23 + 13 * i + 2)))), (5, .int (nI n))]) hx hb dX8_close_82 hl (by decide) rfl (fun ls hl => ?_)
                        refine lv_iinc (v := nI (n - 1)) (lv' := [(5, .int (nI (n - 1))), (4, .int (-4)), (0, .ref (ad 0)), (1, .int (nI i)), (2, .int (nI bb)), (3, .int (nI (N (23 + 13 * i + 2))))]) hx hb dX8_close_84 hl (k := 5) rfl (sb_m1 (by omega)) (by decide) rfl (fun ls hl => ?_)
                        refine lv_goto (tgt := 46) hx hb dX8_close_87 (by decide) ?_
                        exact ih_46 (n - 1) _ n _ (by omega) (by omega) (hMn) (hQn) (by first | exact Or.inr ⟨by omega, congrArg nI (by omega), by rw [show n - 1 + 1 = n by omega]; exact g3, fun j hj => hno j (by omega)⟩ | exact Or.inl ⟨rfl, fun j hj => by by_cases e_ : j = 60 - n; (rw [e_, show 60 - (60 - n) = n by omega]; simpa using g3); exact hno j (by omega)⟩) _ _ I _ (lv_sub hl [2, 3, 4, 5, 1, 0] rfl)
                      · exact absurd c_72 (by decide)
            exact LP_46 _ 60 _ (N (23 + 13 * i + 2)) σ (Nat.lt_succ_self _) (Nat.le_refl _) (mN_same hM (fun k _ => by by_cases e_ : k = 23 + 13 * i + 2; (rw [e_, va_up_self]); rw [va_up_ne _ _ e_])) (qn_rf σ) (Or.inl ⟨rfl, fun j hj => absurd hj (by omega)⟩) _ _ I _ (lv_sub hl [3, 4, 5, 2, 1, 0] rfl)
          · have c_25 : (N (23 + 13 * i + 7)) = 1 := (nI_eq (by omega) (by omega)).mp c_25
            refine lv_bipush (v := (-2 : Int32)) hx hb dX8_close_28 (by decide) ?_
            subst hQdef
            exact k_iret hx hb hr hlk I dX8_close_30 (by rw [sClose_ok hoS hcl (Nat.zero_le _) b2, gClose, if_pos (by omega)]; exact ⟨rfl, hC⟩)
        · exact absurd c_12 (by decide)
      · refine lv_if_ne (tgt := 17) hx hb dX8_close_12 (by decide) (fun c_12 => ?_) (fun c_12 => ?_)
        · exact absurd c_12 (by decide)
        · refine lv_iconst (v := (-1 : Int32)) hx hb dX8_close_15 (by decide) ?_
          subst hQdef
          exact k_iret hx hb hr hlk I dX8_close_16 (by rw [sClose_bad (by first | exact fun q => hnS q.1 | exact fun q => g1 q.2)]; exact ⟨rfl, hC⟩)
  · refine lv_if_eq (tgt := 15) hx hb dX8_close_5 (by decide) (fun c_5 => ?_) (fun c_5 => ?_)
    · refine lv_iconst (v := (-1 : Int32)) hx hb dX8_close_15 (by decide) ?_
      subst hQdef
      exact k_iret hx hb hr hlk I dX8_close_16 (by rw [sClose_bad (by first | exact fun q => hnS q.1 | exact fun q => g1 q.2)]; exact ⟨rfl, hC⟩)
    · exact absurd c_5 (by decide)
set_option maxHeartbeats 4000000 in
set_option maxRecDepth 100000 in
theorem c_X8_all (cy : Nat → ClassId) (D : va_G) (ad : Nat → Nat) (l : Launch) (σ : Nat → Nat → Int32) (b x : Int32) (N : Nat → Nat) (P : Nat → Nat → Nat) (np : Nat) (T : Nat → Nat) (nt : Nat) (hC : rM σ (N, P, np, T, nt)) : kMi 6 ad (kcM cy ad) cy D l yX8_all wsX8_all ({ frames := 7, cells := 0, slots := 0, locals := 167 }) [.ref (ad 0), .int b, .int x] σ (fun r σ' => r = (sAll b x (N, P, np, T, nt)).1 ∧ rM σ' (sAll b x (N, P, np, T, nt)).2) := by
  obtain ⟨hM, hN, hPs, hT⟩ := id hC
  have h5 := hN.1
  refine k_entry (cc := cX8_all) (maxL := 7) (ret := (some .int)) (by decide) rfl (Nat.le_of_ble_eq_true rfl) ?_
  intro p e s m below meth c hx hb hr hml hown hts hlk E I ls hl
  have hA : ∀ q, s.heap.size ≤ q → kA 6 ad s.heap.size q := fun q h => Or.inr h
  have hown : s.vm.findClass RX8 = some m.cls := hown
  have hl : lv_has ls 7 [(0, .ref (ad 0)), (1, .int b), (2, .int x)] := hl
  generalize hQdef : MQ below (va_Qi (fun r σ' => r = (sAll b x (N, P, np, T, nt)).1 ∧ rM σ' (sAll b x (N, P, np, T, nt)).2) (kB 6 ad (kcM cy ad) D) (kA 6 ad s.heap.size)) [.ref (ad 0), .int b, .int x].toArray s 0 0 (kA 6 ad s.heap.size) = Q
  have iX8 : ∀ w ∈ u_ws RX8 TX8 13, w ∈ wsX8_all := fun w h => List.mem_cons_of_mem _ (List.mem_append_right _ h)
  refine lv_iload_n hx hb dX8_all_0 rfl (lv_at hl 1 rfl) ?_
  refine k_calls (As := [.int b]) (rest := []) ⟨hx, hb, hml, hown, hts⟩ (c_X8_isWind l (b)) (va_cwS 1 hts gX8_all_X8_isWind rfl rfl rfl (by decide +kernel) ⟨Nat.le_of_ble_eq_true rfl, Nat.le_of_ble_eq_true rfl⟩) rfl hl.1 rfl (lv_room (Nat.le_of_ble_eq_true rfl)) dX8_all_1 ⟨Nat.le_of_ble_eq_true rfl, Nat.le_of_ble_eq_true rfl⟩ (fun r_1 hp_1 => ?_)
  rcases hp_1 with ⟨rfl, g1⟩ | ⟨rfl, g1⟩
  · obtain ⟨bb, b1, b2, rfl⟩ := kT_in (by decide) (by decide) g1
    refine lv_if_eq (tgt := 16) hx hb dX8_all_4 (by decide) (fun c_4 => ?_) (fun c_4 => ?_)
    · exact absurd c_4 (by decide)
    · refine lv_iload_n hx hb dX8_all_7 rfl (lv_at hl 2 rfl) ?_
      refine lv_iconst (v := nI 0) hx hb dX8_all_8 (by decide) ?_
      refine lv_iconst (v := nI 1) hx hb dX8_all_9 (by decide) ?_
      refine k_calls (As := [.int x, .int (nI 0), .int (nI 1)]) (rest := []) ⟨hx, hb, hml, hown, hts⟩ (c_X8_in l (x) (nI 0) (nI 1)) (va_cwS 3 hts gX8_all_X8_in rfl rfl rfl (by decide +kernel) ⟨Nat.le_of_ble_eq_true rfl, Nat.le_of_ble_eq_true rfl⟩) rfl hl.1 rfl (lv_room (Nat.le_of_ble_eq_true rfl)) dX8_all_10 ⟨Nat.le_of_ble_eq_true rfl, Nat.le_of_ble_eq_true rfl⟩ (fun r_10 hp_10 => ?_)
      rcases hp_10 with ⟨rfl, g2⟩ | ⟨rfl, g2⟩
      · obtain ⟨k, k1, k2, rfl⟩ := kT_in (by decide) (by decide) g2
        refine lv_if_ne (tgt := 18) hx hb dX8_all_13 (by decide) (fun c_13 => ?_) (fun c_13 => ?_)
        · refine lv_iconst (v := nI 0) hx hb dX8_all_18 (by decide) ?_
          refine lv_istore_n (lv' := [(3, .int (nI 0)), (0, .ref (ad 0)), (1, .int (nI bb)), (2, .int (nI k))]) hx hb dX8_all_19 rfl hl (by decide) rfl (fun ls hl => ?_)
          refine lv_iconst (v := nI 0) hx hb dX8_all_20 (by decide) ?_
          refine lv_istore (lv' := [(4, .int (nI 0)), (3, .int (nI 0)), (0, .ref (ad 0)), (1, .int (nI bb)), (2, .int (nI k))]) hx hb dX8_all_21 hl (by decide) rfl (fun ls hl => ?_)
          refine lv_iconst (v := nI 0) hx hb dX8_all_23 (by decide) ?_
          refine lv_istore (lv' := [(5, .int (nI 0)), (4, .int (nI 0)), (3, .int (nI 0)), (0, .ref (ad 0)), (1, .int (nI bb)), (2, .int (nI k))]) hx hb dX8_all_24 hl (by decide) rfl (fun ls hl => ?_)
          have LP_26 : ∀ (fuel_26 : Nat) (i : Nat) (τ : Nat → Nat → Int32), N 1 - i < fuel_26 → (i ≤ N 1) → (qm σ τ) → ∀ (H : Heap) (locs : List Loc), kI 6 ad (kcM cy ad) D (kA 6 ad s.heap.size) s.heap τ H locs → ∀ ls : Array Slot, lv_has ls 7 [(0, .ref (ad 0)), (1, .int (nI bb)), (2, .int (nI k)), (3, .int (nI (pCH N bb i))), (4, .int (nI (k * pMt N bb i))), (5, .int (nI i))] → W p l e (headSpec wsX8_all ({ frames := 7, cells := 0, slots := 0, locals := 167 })).room s m [.ref (ad 0), .int (nI bb), .int (nI k)].toArray below meth c H locs 0 0 Q (F0 m 26 ls []) := by
            intro fuel_26
            induction fuel_26 with
            | zero => intro i τ hf_26; exact absurd hf_26 (Nat.not_lt_zero _)
            | succ fuel_26 ih_26 =>
              intro i τ hf_26 hin hQ H locs I ls hl
              have hM := mN_qm hM hQ
              refine lv_iload hx hb dX8_all_26 (lv_at hl 5 rfl) ?_
              refine lv_aload_n hx hb dX8_all_28 rfl (lv_at hl 0 rfl) ?_
              refine k_get (C := RX8) (T := TX8) (N := 13) (v := .ref (ad 1)) hx hb hts hown E I iX8 (0) (by decide) (r0 := τ 0) rfl km_0 rfl 0 (by decide) (List.mem_of_getElem? (i := 1) rfl) rfl dX8_all_29 ?_
              refine lv_iconst (v := nI 1) hx hb dX8_all_32 (by decide) ?_
              refine k_iald hx hb E I (1) (by decide) (r0 := τ 1) rfl km_1 (vp_in_nI (by omega) (by decide)) dX8_all_33 ?_
              rw [nI_clamp (by omega)]
              rw [hM 1 (by decide)]
              refine lv_icmp_ge (tgt := 111) hx hb dX8_all_34 (by decide) (fun c_34 => ?_) (fun c_34 => ?_)
              · have c_34 : ((N 1)) ≤ i := (nI_leI (by omega) (by omega)).mp c_34
                have hie : i = N 1 := by omega
                refine lv_iload_n hx hb dX8_all_111 rfl (lv_at hl 2 rfl) ?_
                refine lv_if_ne (tgt := 119) hx hb dX8_all_112 (by decide) (fun c_112 => ?_) (fun c_112 => ?_)
                · have c_112 : ¬ (k = 0) := fun q_ => c_112 ((nI_eq (by omega) (by decide)).mpr q_)
                  refine lv_iload hx hb dX8_all_119 (lv_at hl 4 rfl) ?_
                  subst hQdef
                  exact k_iret hx hb hr hlk I dX8_all_121 (by rw [sAll_ok (Nat.zero_le _) b2 (Nat.zero_le _) k2, gAll]; first | (rw [if_pos c_112, hie]; exact ⟨rfl, rM_qm hC hQ⟩) | (rw [if_neg c_112, hie, show k = 1 by omega]; exact ⟨congrArg nI (Nat.one_mul _), rM_qm hC hQ⟩))
                · have c_112 : k = 0 := (nI_eq (by omega) (by decide)).mp c_112
                  refine lv_iload_n hx hb dX8_all_115 rfl (lv_at hl 3 rfl) ?_
                  refine lv_goto (tgt := 121) hx hb dX8_all_116 (by decide) ?_
                  subst hQdef
                  exact k_iret hx hb hr hlk I dX8_all_121 (by rw [sAll_ok (Nat.zero_le _) b2 (Nat.zero_le _) k2, gAll]; first | (rw [if_pos c_112, hie]; exact ⟨rfl, rM_qm hC hQ⟩) | (rw [if_neg c_112, hie, show k = 1 by omega]; exact ⟨congrArg nI (Nat.one_mul _), rM_qm hC hQ⟩))
              · have c_34 : ¬ (((N 1)) ≤ i) := fun q_ => c_34 ((nI_leI (by omega) (by omega)).mpr q_)
                have hi : i < N 1 := by omega
                have H_i : i < 5 := by omega
                refine lv_iload_n hx hb dX8_all_37 rfl (lv_at hl 3 rfl) ?_
                refine lv_aload_n hx hb dX8_all_38 rfl (lv_at hl 0 rfl) ?_
                refine lv_iload hx hb dX8_all_39 (lv_at hl 5 rfl) ?_
                refine lv_iload_n hx hb dX8_all_41 rfl (lv_at hl 1 rfl) ?_
                refine k_calli (k := 0) (As := [.int (nI i), .int (nI bb)]) (rest := [.int (nI (pCH N bb i))]) ⟨hx, hb, hml, hown, hts⟩ (c_X8_holds cy D ad l τ N hN i hi hM bb b2) (cwV 2 hts gX8_all_X8_holds rfl rfl rfl (by decide +kernel) ⟨Nat.le_of_ble_eq_true rfl, Nat.le_of_ble_eq_true rfl⟩) E hA I (k_recv E I (by decide) km_0 rfl) rfl hl.1 rfl (lv_room (Nat.le_of_ble_eq_true rfl)) dX8_all_42 ⟨Nat.le_of_ble_eq_true rfl, Nat.le_of_ble_eq_true rfl⟩ (fun r_42 σ_42 H locs hp_42 I => ?_)
                obtain ⟨hk_, hq_⟩ := hp_42
                have hQ := qm_tr hQ hq_
                have hM := mN_qm hM hq_
                rcases hk_ with ⟨rfl, g3⟩ | ⟨rfl, g3⟩
                · have hsn : pCH N bb i + 1 = pCH N bb (i + 1) := by rw [pCH, if_pos g3]
                  refine lv_if_eq (tgt := 52) hx hb dX8_all_45 (by decide) (fun c_45 => ?_) (fun c_45 => ?_)
                  · exact absurd c_45 (by decide)
                  · refine lv_iconst (v := nI 1) hx hb dX8_all_48 (by decide) ?_
                    refine lv_goto (tgt := 53) hx hb dX8_all_49 (by decide) ?_
                    refine lv_iadd hx hb dX8_all_53 ?_
                    rw [nI_add]
                    refine lv_topi (fun t_54 et_54 => ?_)
                    have et_54 : t_54 = nI (pCH N bb (i + 1)) := et_54.trans (congrArg nI hsn)
                    subst et_54
                    refine lv_istore_n (lv' := [(3, .int (nI (pCH N bb (i + 1)))), (0, .ref (ad 0)), (1, .int (nI bb)), (2, .int (nI k)), (4, .int (nI (k * pMt N bb i))), (5, .int (nI i))]) hx hb dX8_all_54 rfl hl (by decide) rfl (fun ls hl => ?_)
                    refine lv_iload hx hb dX8_all_55 (lv_at hl 5 rfl) ?_
                    refine lv_iconst (v := nI 1) hx hb dX8_all_57 (by decide) ?_
                    refine lv_iadd hx hb dX8_all_58 ?_
                    rw [nI_add]
                    refine lv_istore (lv' := [(6, .int (nI (i + 1))), (3, .int (nI (pCH N bb (i + 1)))), (0, .ref (ad 0)), (1, .int (nI bb)), (2, .int (nI k)), (4, .int (nI (k * pMt N bb i))), (5, .int (nI i))]) hx hb dX8_all_59 hl (by decide) rfl (fun ls hl => ?_)
                    have LP_61 : ∀ (fuel_61 : Nat) (t : Nat) (υ : Nat → Nat → Int32), N 1 - t < fuel_61 → (t ≤ N 1) → (i < t) → (qm σ υ) → ∀ (H : Heap) (locs : List Loc), kI 6 ad (kcM cy ad) D (kA 6 ad s.heap.size) s.heap υ H locs → ∀ ls : Array Slot, lv_has ls 7 [(0, .ref (ad 0)), (1, .int (nI bb)), (2, .int (nI k)), (3, .int (nI (pCH N bb (i + 1)))), (4, .int (nI (k * (pMt N bb i + pMr N bb i t)))), (5, .int (nI i)), (6, .int (nI t))] → W p l e (headSpec wsX8_all ({ frames := 7, cells := 0, slots := 0, locals := 167 })).room s m [.ref (ad 0), .int (nI bb), .int (nI k)].toArray below meth c H locs 0 0 Q (F0 m 61 ls []) := by
                      intro fuel_61
                      induction fuel_61 with
                      | zero => intro t υ hf_61; exact absurd hf_61 (Nat.not_lt_zero _)
                      | succ fuel_61 ih_61 =>
                        intro t υ hf_61 htn hit hQ H locs I ls hl
                        have hM := mN_qm (id hC).1 hQ
                        refine lv_iload hx hb dX8_all_61 (lv_at hl 6 rfl) ?_
                        refine lv_aload_n hx hb dX8_all_63 rfl (lv_at hl 0 rfl) ?_
                        refine k_get (C := RX8) (T := TX8) (N := 13) (v := .ref (ad 1)) hx hb hts hown E I iX8 (0) (by decide) (r0 := υ 0) rfl km_0 rfl 0 (by decide) (List.mem_of_getElem? (i := 1) rfl) rfl dX8_all_64 ?_
                        refine lv_iconst (v := nI 1) hx hb dX8_all_67 (by decide) ?_
                        refine k_iald hx hb E I (1) (by decide) (r0 := υ 1) rfl km_1 (vp_in_nI (by omega) (by decide)) dX8_all_68 ?_
                        rw [nI_clamp (by omega)]
                        rw [hM 1 (by decide)]
                        refine lv_icmp_ge (tgt := 105) hx hb dX8_all_69 (by decide) (fun c_69 => ?_) (fun c_69 => ?_)
                        · have c_69 : ((N 1)) ≤ t := (nI_leI (by omega) (by omega)).mp c_69
                          have hte : t = N 1 := by omega
                          refine lv_iinc (v := nI (i + 1)) (lv' := [(5, .int (nI (i + 1))), (0, .ref (ad 0)), (1, .int (nI bb)), (2, .int (nI k)), (3, .int (nI (pCH N bb (i + 1)))), (4, .int (nI (k * (pMt N bb i + pMr N bb i t)))), (6, .int (nI t))]) hx hb dX8_all_105 hl (k := 5) rfl (show nI i + Int32.ofInt 1 = nI (i + 1) from nI_add i 1) (by decide) rfl (fun ls hl => ?_)
                          refine lv_goto (tgt := 26) hx hb dX8_all_108 (by decide) ?_
                          rw [show k * (pMt N bb i + pMr N bb i t) = k * pMt N bb (i + 1) by first | (rw [pMt, hte]; done) | (rw [show k = 0 by omega]; simp)] at hl
                          exact ih_26 (i + 1) _ (by omega) (by omega) (hQ) _ _ I _ (lv_sub hl [1, 2, 3, 4, 5, 0] rfl)
                        · have c_69 : ¬ (((N 1)) ≤ t) := fun q_ => c_69 ((nI_leI (by omega) (by omega)).mpr q_)
                          have ht : t < N 1 := by omega
                          have H_t : t < 5 := by omega
                          refine lv_iload_n hx hb dX8_all_72 rfl (lv_at hl 2 rfl) ?_
                          refine lv_iconst (v := nI 1) hx hb dX8_all_73 (by decide) ?_
                          refine lv_icmp_ne (tgt := 105) hx hb dX8_all_74 (by decide) (fun c_74 => ?_) (fun c_74 => ?_)
                          · have c_74 : ¬ (k = 1) := fun q_ => c_74 ((nI_eq (by omega) (by omega)).mpr q_)
                            refine lv_iinc (v := nI (i + 1)) (lv' := [(5, .int (nI (i + 1))), (0, .ref (ad 0)), (1, .int (nI bb)), (2, .int (nI k)), (3, .int (nI (pCH N bb (i + 1)))), (4, .int (nI (k * (pMt N bb i + pMr N bb i t)))), (6, .int (nI t))]) hx hb dX8_all_105 hl (k := 5) rfl (show nI i + Int32.ofInt 1 = nI (i + 1) from nI_add i 1) (by decide) rfl (fun ls hl => ?_)
                            refine lv_goto (tgt := 26) hx hb dX8_all_108 (by decide) ?_
                            rw [show k * (pMt N bb i + pMr N bb i t) = k * pMt N bb (i + 1) by first | (rw [pMt, hte]; done) | (rw [show k = 0 by omega]; simp)] at hl
                            exact ih_26 (i + 1) _ (by omega) (by omega) (hQ) _ _ I _ (lv_sub hl [1, 2, 3, 4, 5, 0] rfl)
                          · have c_74 : k = 1 := (nI_eq (by omega) (by omega)).mp c_74
                            refine lv_iload hx hb dX8_all_77 (lv_at hl 4 rfl) ?_
                            refine lv_aload_n hx hb dX8_all_79 rfl (lv_at hl 0 rfl) ?_
                            refine lv_iload hx hb dX8_all_80 (lv_at hl 5 rfl) ?_
                            refine lv_iload hx hb dX8_all_82 (lv_at hl 6 rfl) ?_
                            refine lv_iload_n hx hb dX8_all_84 rfl (lv_at hl 1 rfl) ?_
                            refine k_calli (k := 0) (As := [.int (nI i), .int (nI t), .int (nI bb)]) (rest := [.int (nI (k * (pMt N bb i + pMr N bb i t)))]) ⟨hx, hb, hml, hown, hts⟩ (c_X8_areApart cy D ad l υ N hN i hi t ht hM bb b2) (cwV 3 hts gX8_all_X8_areApart rfl rfl rfl (by decide +kernel) ⟨Nat.le_of_ble_eq_true rfl, Nat.le_of_ble_eq_true rfl⟩) E hA I (k_recv E I (by decide) km_0 rfl) rfl hl.1 rfl (lv_room (Nat.le_of_ble_eq_true rfl)) dX8_all_85 ⟨Nat.le_of_ble_eq_true rfl, Nat.le_of_ble_eq_true rfl⟩ (fun r_85 σ_85 H locs hp_85 I => ?_)
                            obtain ⟨hk_, hq_⟩ := hp_85
                            have hQ := qm_tr hQ hq_
                            have hM := mN_qm hM hq_
                            rcases hk_ with ⟨rfl, g4⟩ | ⟨rfl, g4⟩
                            · have hsn : k * (pMt N bb i + pMr N bb i t) + 0 = k * (pMt N bb i + pMr N bb i (t + 1)) := by rw [pMr, if_neg (fun q => by rw [g4] at q; exact absurd q.2 (by decide))]; rfl
                              refine lv_if_eq (tgt := 95) hx hb dX8_all_88 (by decide) (fun c_88 => ?_) (fun c_88 => ?_)
                              · exact absurd c_88 (by decide)
                              · refine lv_iconst (v := nI 0) hx hb dX8_all_91 (by decide) ?_
                                refine lv_goto (tgt := 96) hx hb dX8_all_92 (by decide) ?_
                                refine lv_iadd hx hb dX8_all_96 ?_
                                rw [nI_add]
                                refine lv_topi (fun t_97 et_97 => ?_)
                                have et_97 : t_97 = nI (k * (pMt N bb i + pMr N bb i (t + 1))) := et_97.trans (congrArg nI hsn)
                                subst et_97
                                refine lv_istore (lv' := [(4, .int (nI (k * (pMt N bb i + pMr N bb i (t + 1))))), (0, .ref (ad 0)), (1, .int (nI bb)), (2, .int (nI k)), (3, .int (nI (pCH N bb (i + 1)))), (5, .int (nI i)), (6, .int (nI t))]) hx hb dX8_all_97 hl (by decide) rfl (fun ls hl => ?_)
                                refine lv_iinc (v := nI (t + 1)) (lv' := [(6, .int (nI (t + 1))), (4, .int (nI (k * (pMt N bb i + pMr N bb i (t + 1))))), (0, .ref (ad 0)), (1, .int (nI bb)), (2, .int (nI k)), (3, .int (nI (pCH N bb (i + 1)))), (5, .int (nI i))]) hx hb dX8_all_99 hl (k := 6) rfl (show nI t + Int32.ofInt 1 = nI (t + 1) from nI_add t 1) (by decide) rfl (fun ls hl => ?_)
                                refine lv_goto (tgt := 61) hx hb dX8_all_102 (by decide) ?_
                                exact ih_61 (t + 1) _ (by omega) (by omega) (by omega) (hQ) _ _ I _ (lv_sub hl [2, 3, 4, 5, 1, 6, 0] rfl)
                            · have hsn : k * (pMt N bb i + pMr N bb i t) + 1 = k * (pMt N bb i + pMr N bb i (t + 1)) := by rw [pMr, if_pos ⟨hit, by simpa using g4⟩, c_74]; omega
                              refine lv_if_eq (tgt := 95) hx hb dX8_all_88 (by decide) (fun c_88 => ?_) (fun c_88 => ?_)
                              · refine lv_iconst (v := nI 1) hx hb dX8_all_95 (by decide) ?_
                                refine lv_iadd hx hb dX8_all_96 ?_
                                rw [nI_add]
                                refine lv_topi (fun t_97 et_97 => ?_)
                                have et_97 : t_97 = nI (k * (pMt N bb i + pMr N bb i (t + 1))) := et_97.trans (congrArg nI hsn)
                                subst et_97
                                refine lv_istore (lv' := [(4, .int (nI (k * (pMt N bb i + pMr N bb i (t + 1))))), (0, .ref (ad 0)), (1, .int (nI bb)), (2, .int (nI k)), (3, .int (nI (pCH N bb (i + 1)))), (5, .int (nI i)), (6, .int (nI t))]) hx hb dX8_all_97 hl (by decide) rfl (fun ls hl => ?_)
                                refine lv_iinc (v := nI (t + 1)) (lv' := [(6, .int (nI (t + 1))), (4, .int (nI (k * (pMt N bb i + pMr N bb i (t + 1))))), (0, .ref (ad 0)), (1, .int (nI bb)), (2, .int (nI k)), (3, .int (nI (pCH N bb (i + 1)))), (5, .int (nI i))]) hx hb dX8_all_99 hl (k := 6) rfl (show nI t + Int32.ofInt 1 = nI (t + 1) from nI_add t 1) (by decide) rfl (fun ls hl => ?_)
                                refine lv_goto (tgt := 61) hx hb dX8_all_102 (by decide) ?_
                                exact ih_61 (t + 1) _ (by omega) (by omega) (by omega) (hQ) _ _ I _ (lv_sub hl [2, 3, 4, 5, 1, 6, 0] rfl)
                              · exact absurd c_88 (by decide)
                    rw [show k * pMt N bb i = k * (pMt N bb i + pMr N bb i (i + 1)) by rw [pMr_0 N bb i (i + 1) (Nat.le_refl _)]; rfl] at hl
                    exact LP_61 _ (i + 1) _ (Nat.lt_succ_self _) (by omega) (by omega) (hQ) _ _ I _ (lv_sub hl [2, 3, 4, 1, 5, 6, 0] rfl)
                · have hsn : pCH N bb i + 0 = pCH N bb (i + 1) := by rw [pCH, if_neg g3]
                  refine lv_if_eq (tgt := 52) hx hb dX8_all_45 (by decide) (fun c_45 => ?_) (fun c_45 => ?_)
                  · refine lv_iconst (v := nI 0) hx hb dX8_all_52 (by decide) ?_
                    refine lv_iadd hx hb dX8_all_53 ?_
                    rw [nI_add]
                    refine lv_topi (fun t_54 et_54 => ?_)
                    have et_54 : t_54 = nI (pCH N bb (i + 1)) := et_54.trans (congrArg nI hsn)
                    subst et_54
                    refine lv_istore_n (lv' := [(3, .int (nI (pCH N bb (i + 1)))), (0, .ref (ad 0)), (1, .int (nI bb)), (2, .int (nI k)), (4, .int (nI (k * pMt N bb i))), (5, .int (nI i))]) hx hb dX8_all_54 rfl hl (by decide) rfl (fun ls hl => ?_)
                    refine lv_iload hx hb dX8_all_55 (lv_at hl 5 rfl) ?_
                    refine lv_iconst (v := nI 1) hx hb dX8_all_57 (by decide) ?_
                    refine lv_iadd hx hb dX8_all_58 ?_
                    rw [nI_add]
                    refine lv_istore (lv' := [(6, .int (nI (i + 1))), (3, .int (nI (pCH N bb (i + 1)))), (0, .ref (ad 0)), (1, .int (nI bb)), (2, .int (nI k)), (4, .int (nI (k * pMt N bb i))), (5, .int (nI i))]) hx hb dX8_all_59 hl (by decide) rfl (fun ls hl => ?_)
                    have LP_61 : ∀ (fuel_61 : Nat) (t : Nat) (υ : Nat → Nat → Int32), N 1 - t < fuel_61 → (t ≤ N 1) → (i < t) → (qm σ υ) → ∀ (H : Heap) (locs : List Loc), kI 6 ad (kcM cy ad) D (kA 6 ad s.heap.size) s.heap υ H locs → ∀ ls : Array Slot, lv_has ls 7 [(0, .ref (ad 0)), (1, .int (nI bb)), (2, .int (nI k)), (3, .int (nI (pCH N bb (i + 1)))), (4, .int (nI (k * (pMt N bb i + pMr N bb i t)))), (5, .int (nI i)), (6, .int (nI t))] → W p l e (headSpec wsX8_all ({ frames := 7, cells := 0, slots := 0, locals := 167 })).room s m [.ref (ad 0), .int (nI bb), .int (nI k)].toArray below meth c H locs 0 0 Q (F0 m 61 ls []) := by
                      intro fuel_61
                      induction fuel_61 with
                      | zero => intro t υ hf_61; exact absurd hf_61 (Nat.not_lt_zero _)
                      | succ fuel_61 ih_61 =>
                        intro t υ hf_61 htn hit hQ H locs I ls hl
                        have hM := mN_qm (id hC).1 hQ
                        refine lv_iload hx hb dX8_all_61 (lv_at hl 6 rfl) ?_
                        refine lv_aload_n hx hb dX8_all_63 rfl (lv_at hl 0 rfl) ?_
                        refine k_get (C := RX8) (T := TX8) (N := 13) (v := .ref (ad 1)) hx hb hts hown E I iX8 (0) (by decide) (r0 := υ 0) rfl km_0 rfl 0 (by decide) (List.mem_of_getElem? (i := 1) rfl) rfl dX8_all_64 ?_
                        refine lv_iconst (v := nI 1) hx hb dX8_all_67 (by decide) ?_
                        refine k_iald hx hb E I (1) (by decide) (r0 := υ 1) rfl km_1 (vp_in_nI (by omega) (by decide)) dX8_all_68 ?_
                        rw [nI_clamp (by omega)]
                        rw [hM 1 (by decide)]
                        refine lv_icmp_ge (tgt := 105) hx hb dX8_all_69 (by decide) (fun c_69 => ?_) (fun c_69 => ?_)
                        · have c_69 : ((N 1)) ≤ t := (nI_leI (by omega) (by omega)).mp c_69
                          have hte : t = N 1 := by omega
                          refine lv_iinc (v := nI (i + 1)) (lv' := [(5, .int (nI (i + 1))), (0, .ref (ad 0)), (1, .int (nI bb)), (2, .int (nI k)), (3, .int (nI (pCH N bb (i + 1)))), (4, .int (nI (k * (pMt N bb i + pMr N bb i t)))), (6, .int (nI t))]) hx hb dX8_all_105 hl (k := 5) rfl (show nI i + Int32.ofInt 1 = nI (i + 1) from nI_add i 1) (by decide) rfl (fun ls hl => ?_)
                          refine lv_goto (tgt := 26) hx hb dX8_all_108 (by decide) ?_
                          rw [show k * (pMt N bb i + pMr N bb i t) = k * pMt N bb (i + 1) by first | (rw [pMt, hte]; done) | (rw [show k = 0 by omega]; simp)] at hl
                          exact ih_26 (i + 1) _ (by omega) (by omega) (hQ) _ _ I _ (lv_sub hl [1, 2, 3, 4, 5, 0] rfl)
                        · have c_69 : ¬ (((N 1)) ≤ t) := fun q_ => c_69 ((nI_leI (by omega) (by omega)).mpr q_)
                          have ht : t < N 1 := by omega
                          have H_t : t < 5 := by omega
                          refine lv_iload_n hx hb dX8_all_72 rfl (lv_at hl 2 rfl) ?_
                          refine lv_iconst (v := nI 1) hx hb dX8_all_73 (by decide) ?_
                          refine lv_icmp_ne (tgt := 105) hx hb dX8_all_74 (by decide) (fun c_74 => ?_) (fun c_74 => ?_)
                          · have c_74 : ¬ (k = 1) := fun q_ => c_74 ((nI_eq (by omega) (by omega)).mpr q_)
                            refine lv_iinc (v := nI (i + 1)) (lv' := [(5, .int (nI (i + 1))), (0, .ref (ad 0)), (1, .int (nI bb)), (2, .int (nI k)), (3, .int (nI (pCH N bb (i + 1)))), (4, .int (nI (k * (pMt N bb i + pMr N bb i t)))), (6, .int (nI t))]) hx hb dX8_all_105 hl (k := 5) rfl (show nI i + Int32.ofInt 1 = nI (i + 1) from nI_add i 1) (by decide) rfl (fun ls hl => ?_)
                            refine lv_goto (tgt := 26) hx hb dX8_all_108 (by decide) ?_
                            rw [show k * (pMt N bb i + pMr N bb i t) = k * pMt N bb (i + 1) by first | (rw [pMt, hte]; done) | (rw [show k = 0 by omega]; simp)] at hl
                            exact ih_26 (i + 1) _ (by omega) (by omega) (hQ) _ _ I _ (lv_sub hl [1, 2, 3, 4, 5, 0] rfl)
                          · have c_74 : k = 1 := (nI_eq (by omega) (by omega)).mp c_74
                            refine lv_iload hx hb dX8_all_77 (lv_at hl 4 rfl) ?_
                            refine lv_aload_n hx hb dX8_all_79 rfl (lv_at hl 0 rfl) ?_
                            refine lv_iload hx hb dX8_all_80 (lv_at hl 5 rfl) ?_
                            refine lv_iload hx hb dX8_all_82 (lv_at hl 6 rfl) ?_
                            refine lv_iload_n hx hb dX8_all_84 rfl (lv_at hl 1 rfl) ?_
                            refine k_calli (k := 0) (As := [.int (nI i), .int (nI t), .int (nI bb)]) (rest := [.int (nI (k * (pMt N bb i + pMr N bb i t)))]) ⟨hx, hb, hml, hown, hts⟩ (c_X8_areApart cy D ad l υ N hN i hi t ht hM bb b2) (cwV 3 hts gX8_all_X8_areApart rfl rfl rfl (by decide +kernel) ⟨Nat.le_of_ble_eq_true rfl, Nat.le_of_ble_eq_true rfl⟩) E hA I (k_recv E I (by decide) km_0 rfl) rfl hl.1 rfl (lv_room (Nat.le_of_ble_eq_true rfl)) dX8_all_85 ⟨Nat.le_of_ble_eq_true rfl, Nat.le_of_ble_eq_true rfl⟩ (fun r_85 σ_85 H locs hp_85 I => ?_)
                            obtain ⟨hk_, hq_⟩ := hp_85
                            have hQ := qm_tr hQ hq_
                            have hM := mN_qm hM hq_
                            rcases hk_ with ⟨rfl, g4⟩ | ⟨rfl, g4⟩
                            · have hsn : k * (pMt N bb i + pMr N bb i t) + 0 = k * (pMt N bb i + pMr N bb i (t + 1)) := by rw [pMr, if_neg (fun q => by rw [g4] at q; exact absurd q.2 (by decide))]; rfl
                              refine lv_if_eq (tgt := 95) hx hb dX8_all_88 (by decide) (fun c_88 => ?_) (fun c_88 => ?_)
                              · exact absurd c_88 (by decide)
                              · refine lv_iconst (v := nI 0) hx hb dX8_all_91 (by decide) ?_
                                refine lv_goto (tgt := 96) hx hb dX8_all_92 (by decide) ?_
                                refine lv_iadd hx hb dX8_all_96 ?_
                                rw [nI_add]
                                refine lv_topi (fun t_97 et_97 => ?_)
                                have et_97 : t_97 = nI (k * (pMt N bb i + pMr N bb i (t + 1))) := et_97.trans (congrArg nI hsn)
                                subst et_97
                                refine lv_istore (lv' := [(4, .int (nI (k * (pMt N bb i + pMr N bb i (t + 1))))), (0, .ref (ad 0)), (1, .int (nI bb)), (2, .int (nI k)), (3, .int (nI (pCH N bb (i + 1)))), (5, .int (nI i)), (6, .int (nI t))]) hx hb dX8_all_97 hl (by decide) rfl (fun ls hl => ?_)
                                refine lv_iinc (v := nI (t + 1)) (lv' := [(6, .int (nI (t + 1))), (4, .int (nI (k * (pMt N bb i + pMr N bb i (t + 1))))), (0, .ref (ad 0)), (1, .int (nI bb)), (2, .int (nI k)), (3, .int (nI (pCH N bb (i + 1)))), (5, .int (nI i))]) hx hb dX8_all_99 hl (k := 6) rfl (show nI t + Int32.ofInt 1 = nI (t + 1) from nI_add t 1) (by decide) rfl (fun ls hl => ?_)
                                refine lv_goto (tgt := 61) hx hb dX8_all_102 (by decide) ?_
                                exact ih_61 (t + 1) _ (by omega) (by omega) (by omega) (hQ) _ _ I _ (lv_sub hl [2, 3, 4, 5, 1, 6, 0] rfl)
                            · have hsn : k * (pMt N bb i + pMr N bb i t) + 1 = k * (pMt N bb i + pMr N bb i (t + 1)) := by rw [pMr, if_pos ⟨hit, by simpa using g4⟩, c_74]; omega
                              refine lv_if_eq (tgt := 95) hx hb dX8_all_88 (by decide) (fun c_88 => ?_) (fun c_88 => ?_)
                              · refine lv_iconst (v := nI 1) hx hb dX8_all_95 (by decide) ?_
                                refine lv_iadd hx hb dX8_all_96 ?_
                                rw [nI_add]
                                refine lv_topi (fun t_97 et_97 => ?_)
                                have et_97 : t_97 = nI (k * (pMt N bb i + pMr N bb i (t + 1))) := et_97.trans (congrArg nI hsn)
                                subst et_97
                                refine lv_istore (lv' := [(4, .int (nI (k * (pMt N bb i + pMr N bb i (t + 1))))), (0, .ref (ad 0)), (1, .int (nI bb)), (2, .int (nI k)), (3, .int (nI (pCH N bb (i + 1)))), (5, .int (nI i)), (6, .int (nI t))]) hx hb dX8_all_97 hl (by decide) rfl (fun ls hl => ?_)
                                refine lv_iinc (v := nI (t + 1)) (lv' := [(6, .int (nI (t + 1))), (4, .int (nI (k * (pMt N bb i + pMr N bb i (t + 1))))), (0, .ref (ad 0)), (1, .int (nI bb)), (2, .int (nI k)), (3, .int (nI (pCH N bb (i + 1)))), (5, .int (nI i))]) hx hb dX8_all_99 hl (k := 6) rfl (show nI t + Int32.ofInt 1 = nI (t + 1) from nI_add t 1) (by decide) rfl (fun ls hl => ?_)
                                refine lv_goto (tgt := 61) hx hb dX8_all_102 (by decide) ?_
                                exact ih_61 (t + 1) _ (by omega) (by omega) (by omega) (hQ) _ _ I _ (lv_sub hl [2, 3, 4, 5, 1, 6, 0] rfl)
                              · exact absurd c_88 (by decide)
                    rw [show k * pMt N bb i = k * (pMt N bb i + pMr N bb i (i + 1)) by rw [pMr_0 N bb i (i + 1) (Nat.le_refl _)]; rfl] at hl
                    exact LP_61 _ (i + 1) _ (Nat.lt_succ_self _) (by omega) (by omega) (hQ) _ _ I _ (lv_sub hl [2, 3, 4, 1, 5, 6, 0] rfl)
                  · exact absurd c_45 (by decide)
          have hl : lv_has ls 7 [(5, .int (nI 0)), (4, .int (nI (k * pMt N bb 0))), (3, .int (nI (pCH N bb 0))), (0, .ref (ad 0)), (1, .int (nI bb)), (2, .int (nI k))] := hl
          exact LP_26 _ 0 σ (Nat.lt_succ_self _) (Nat.zero_le _) (qm_rf σ) _ _ I _ (lv_sub hl [3, 4, 5, 2, 1, 0] rfl)
        · exact absurd c_13 (by decide)
      · refine lv_if_ne (tgt := 18) hx hb dX8_all_13 (by decide) (fun c_13 => ?_) (fun c_13 => ?_)
        · exact absurd c_13 (by decide)
        · refine lv_iconst (v := (-1 : Int32)) hx hb dX8_all_16 (by decide) ?_
          subst hQdef
          exact k_iret hx hb hr hlk I dX8_all_17 (by rw [sAll_bad (by first | exact fun q => g1 q.1 | exact fun q => g2 q.2)]; exact ⟨rfl, hC⟩)
  · refine lv_if_eq (tgt := 16) hx hb dX8_all_4 (by decide) (fun c_4 => ?_) (fun c_4 => ?_)
    · refine lv_iconst (v := (-1 : Int32)) hx hb dX8_all_16 (by decide) ?_
      subst hQdef
      exact k_iret hx hb hr hlk I dX8_all_17 (by rw [sAll_bad (by first | exact fun q => g1 q.1 | exact fun q => g2 q.2)]; exact ⟨rfl, hC⟩)
    · exact absurd c_4 (by decide)
set_option maxHeartbeats 4000000 in
set_option maxRecDepth 100000 in
theorem c_X8_count (cy : Nat → ClassId) (D : va_G) (ad : Nat → Nat) (l : Launch) (σ : Nat → Nat → Int32) (x : Int32) (N : Nat → Nat) (P : Nat → Nat → Nat) (np : Nat) (T : Nat → Nat) (nt : Nat) (hC : rM σ (N, P, np, T, nt)) : kMi 6 ad (kcM cy ad) cy D l yX8_count wsX8_count ({ frames := 1, cells := 0, slots := 0, locals := 22 }) [.ref (ad 0), .int x] σ (fun r σ' => r = (sCount x (N, P, np, T, nt)).1 ∧ rM σ' (sCount x (N, P, np, T, nt)).2) := by
  obtain ⟨hM, hN, hPs, hT⟩ := id hC
  have h5 := hN.1
  refine k_entry (cc := cX8_count) (maxL := 6) (ret := (some .int)) (by decide) rfl (Nat.le_of_ble_eq_true rfl) ?_
  intro p e s m below meth c hx hb hr hml hown hts hlk E I ls hl
  have hA : ∀ q, s.heap.size ≤ q → kA 6 ad s.heap.size q := fun q h => Or.inr h
  have hown : s.vm.findClass RX8 = some m.cls := hown
  have hl : lv_has ls 6 [(0, .ref (ad 0)), (1, .int x)] := hl
  have iX8 : ∀ w ∈ u_ws RX8 TX8 13, w ∈ wsX8_count := fun w h => List.mem_cons_of_mem _ (List.mem_append_right _ h)
  refine lv_iconst (v := nI 0) hx hb dX8_count_0 (by decide) ?_
  refine lv_istore_n (lv' := [(2, .int (nI 0)), (0, .ref (ad 0)), (1, .int x)]) hx hb dX8_count_1 rfl hl (by decide) rfl (fun ls hl => ?_)
  refine lv_iconst (v := nI 0) hx hb dX8_count_2 (by decide) ?_
  refine lv_istore_n (lv' := [(3, .int (nI 0)), (2, .int (nI 0)), (0, .ref (ad 0)), (1, .int x)]) hx hb dX8_count_3 rfl hl (by decide) rfl (fun ls hl => ?_)
  refine lv_iconst (v := nI 0) hx hb dX8_count_4 (by decide) ?_
  refine lv_istore (lv' := [(4, .int (nI 0)), (3, .int (nI 0)), (2, .int (nI 0)), (0, .ref (ad 0)), (1, .int x)]) hx hb dX8_count_5 hl (by decide) rfl (fun ls hl => ?_)
  refine lv_iconst (v := nI 0) hx hb dX8_count_7 (by decide) ?_
  refine lv_istore (lv' := [(5, .int (nI 0)), (4, .int (nI 0)), (3, .int (nI 0)), (2, .int (nI 0)), (0, .ref (ad 0)), (1, .int x)]) hx hb dX8_count_8 hl (by decide) rfl (fun ls hl => ?_)
  have LP_10 : ∀ (fuel_10 : Nat) (i : Nat), N 1 - i < fuel_10 → (i ≤ N 1) → ∀ (H : Heap) (locs : List Loc), kI 6 ad (kcM cy ad) D (kA 6 ad s.heap.size) s.heap σ H locs → ∀ ls : Array Slot, lv_has ls 6 [(0, .ref (ad 0)), (1, .int x), (2, .int (nI (pSum (fun t => N (23 + 13 * t + 7)) i))), (3, .int (nI (pSum (fun t => N (23 + 13 * t + 9)) i))), (4, .int (nI (pSum (fun t => if N (23 + 13 * t + 7) = 1 then 0 else N (23 + 13 * t + 2) + N (23 + 13 * t + 12)) i))), (5, .int (nI i))] → W p l e (headSpec wsX8_count ({ frames := 1, cells := 0, slots := 0, locals := 22 })).room s m [.ref (ad 0), .int x].toArray below meth c H locs 0 0 (MQ below (va_Qi (fun r σ' => r = (sCount x (N, P, np, T, nt)).1 ∧ rM σ' (sCount x (N, P, np, T, nt)).2) (kB 6 ad (kcM cy ad) D) (kA 6 ad s.heap.size)) [.ref (ad 0), .int x].toArray s 0 0 (kA 6 ad s.heap.size)) (F0 m 10 ls []) := by
    intro fuel_10
    induction fuel_10 with
    | zero => intro i hf_10; exact absurd hf_10 (Nat.not_lt_zero _)
    | succ fuel_10 ih_10 =>
      intro i hf_10 hin H locs I ls hl
      refine lv_iload hx hb dX8_count_10 (lv_at hl 5 rfl) ?_
      refine lv_aload_n hx hb dX8_count_12 rfl (lv_at hl 0 rfl) ?_
      refine k_get (C := RX8) (T := TX8) (N := 13) (v := .ref (ad 1)) hx hb hts hown E I iX8 (0) (by decide) (r0 := σ 0) rfl km_0 rfl 0 (by decide) (List.mem_of_getElem? (i := 1) rfl) rfl dX8_count_13 ?_
      refine lv_iconst (v := nI 1) hx hb dX8_count_16 (by decide) ?_
      refine k_iald hx hb E I (1) (by decide) (r0 := σ 1) rfl km_1 (vp_in_nI (by omega) (by decide)) dX8_count_17 ?_
      rw [nI_clamp (by omega)]
      rw [hM 1 (by decide)]
      refine lv_icmp_ge (tgt := 86) hx hb dX8_count_18 (by decide) (fun c_18 => ?_) (fun c_18 => ?_)
      · have c_18 : ((N 1)) ≤ i := (nI_leI (by omega) (by omega)).mp c_18
        have hie : i = N 1 := by omega
        refine lv_iload_n hx hb dX8_count_86 rfl (lv_at hl 1 rfl) ?_
        rcases ksw_8 (x) with c_87 | rfl | rfl | rfl | rfl | rfl | rfl | rfl | rfl
        · refine lv_tableOut (tgt := 170) hx hb dX8_count_87 c_87 (by decide) ?_
          refine lv_iconst (v := (-1 : Int32)) hx hb dX8_count_170 (by decide) ?_
          exact k_iret hx hb hr hlk I dX8_count_171 (by rw [sCount_bad (out_inI (b := 7) (by decide) c_87)]; exact ⟨rfl, hC⟩)
        · refine lv_tableIn (tgt := 132) (off := 45) hx hb dX8_count_87 (by decide) (by decide) (by decide) (by decide) ?_
          refine lv_aload_n hx hb dX8_count_132 rfl (lv_at hl 0 rfl) ?_
          refine k_get (C := RX8) (T := TX8) (N := 13) (v := .ref (ad 1)) hx hb hts hown E I iX8 (0) (by decide) (r0 := σ 0) rfl km_0 rfl 0 (by decide) (List.mem_of_getElem? (i := 1) rfl) rfl dX8_count_133 ?_
          refine lv_iconst (v := nI 0) hx hb dX8_count_136 (by decide) ?_
          refine k_iald hx hb E I (1) (by decide) (r0 := σ 1) rfl km_1 (vp_in_nI (by omega) (by decide)) dX8_count_137 ?_
          rw [nI_clamp (by omega)]
          rw [hM 0 (by decide)]
          exact k_iret hx hb hr hlk I dX8_count_138 (by rw [sCount_ok (by decide)]; exact ⟨rfl, hC⟩)
        · refine lv_tableIn (tgt := 139) (off := 52) hx hb dX8_count_87 (by decide) (by decide) (by decide) (by decide) ?_
          refine lv_aload_n hx hb dX8_count_139 rfl (lv_at hl 0 rfl) ?_
          refine k_get (C := RX8) (T := TX8) (N := 13) (v := .ref (ad 1)) hx hb hts hown E I iX8 (0) (by decide) (r0 := σ 0) rfl km_0 rfl 0 (by decide) (List.mem_of_getElem? (i := 1) rfl) rfl dX8_count_140 ?_
          refine lv_iconst (v := nI 1) hx hb dX8_count_143 (by decide) ?_
          refine k_iald hx hb E I (1) (by decide) (r0 := σ 1) rfl km_1 (vp_in_nI (by omega) (by decide)) dX8_count_144 ?_
          rw [nI_clamp (by omega)]
          rw [hM 1 (by decide)]
          exact k_iret hx hb hr hlk I dX8_count_145 (by rw [sCount_ok (by decide)]; exact ⟨rfl, hC⟩)
        · refine lv_tableIn (tgt := 146) (off := 59) hx hb dX8_count_87 (by decide) (by decide) (by decide) (by decide) ?_
          refine lv_aload_n hx hb dX8_count_146 rfl (lv_at hl 0 rfl) ?_
          refine k_get (C := RX8) (T := TX8) (N := 13) (v := .ref (ad 1)) hx hb hts hown E I iX8 (0) (by decide) (r0 := σ 0) rfl km_0 rfl 0 (by decide) (List.mem_of_getElem? (i := 1) rfl) rfl dX8_count_147 ?_
          refine lv_iconst (v := nI 2) hx hb dX8_count_150 (by decide) ?_
          refine k_iald hx hb E I (1) (by decide) (r0 := σ 1) rfl km_1 (vp_in_nI (by omega) (by decide)) dX8_count_151 ?_
          rw [nI_clamp (by omega)]
          rw [hM 2 (by decide)]
          exact k_iret hx hb hr hlk I dX8_count_152 (by rw [sCount_ok (by decide)]; exact ⟨rfl, hC⟩)
        · refine lv_tableIn (tgt := 153) (off := 66) hx hb dX8_count_87 (by decide) (by decide) (by decide) (by decide) ?_
          refine lv_iload_n hx hb dX8_count_153 rfl (lv_at hl 2 rfl) ?_
          exact k_iret hx hb hr hlk I dX8_count_154 (by rw [sCount_ok (by decide)]; exact ⟨by rw [hie]; rfl, hC⟩)
        · refine lv_tableIn (tgt := 155) (off := 68) hx hb dX8_count_87 (by decide) (by decide) (by decide) (by decide) ?_
          refine lv_iload_n hx hb dX8_count_155 rfl (lv_at hl 3 rfl) ?_
          exact k_iret hx hb hr hlk I dX8_count_156 (by rw [sCount_ok (by decide)]; exact ⟨by rw [hie]; rfl, hC⟩)
        · refine lv_tableIn (tgt := 157) (off := 70) hx hb dX8_count_87 (by decide) (by decide) (by decide) (by decide) ?_
          refine lv_iload hx hb dX8_count_157 (lv_at hl 4 rfl) ?_
          exact k_iret hx hb hr hlk I dX8_count_159 (by rw [sCount_ok (by decide)]; exact ⟨by rw [hie]; rfl, hC⟩)
        · refine lv_tableIn (tgt := 160) (off := 73) hx hb dX8_count_87 (by decide) (by decide) (by decide) (by decide) ?_
          refine lv_aload_n hx hb dX8_count_160 rfl (lv_at hl 0 rfl) ?_
          refine k_get (C := RX8) (T := TX8) (N := 13) (v := .int (nI np)) hx hb hts hown E I iX8 (0) (by decide) (r0 := σ 0) rfl km_0 rfl 3 (by decide) (List.mem_of_getElem? (i := 2) rfl) (congrArg (fun z => some (Value.int z)) hPs.1) dX8_count_161 ?_
          exact k_iret hx hb hr hlk I dX8_count_164 (by rw [sCount_ok (by decide)]; exact ⟨rfl, hC⟩)
        · refine lv_tableIn (tgt := 165) (off := 78) hx hb dX8_count_87 (by decide) (by decide) (by decide) (by decide) ?_
          refine lv_aload_n hx hb dX8_count_165 rfl (lv_at hl 0 rfl) ?_
          refine k_get (C := RX8) (T := TX8) (N := 13) (v := .int (nI nt)) hx hb hts hown E I iX8 (0) (by decide) (r0 := σ 0) rfl km_0 rfl 5 (by decide) (List.mem_of_getElem? (i := 3) rfl) (congrArg (fun z => some (Value.int z)) hT.1) dX8_count_166 ?_
          exact k_iret hx hb hr hlk I dX8_count_169 (by rw [sCount_ok (by decide)]; exact ⟨rfl, hC⟩)
      · have c_18 : ¬ (((N 1)) ≤ i) := fun q_ => c_18 ((nI_leI (by omega) (by omega)).mpr q_)
        have hi : i < N 1 := by omega
        have H_i : i < 5 := by omega
        have hsh := hN.2.2 i hi
        unfold nSh at hsh
        refine lv_iload_n hx hb dX8_count_21 rfl (lv_at hl 2 rfl) ?_
        refine lv_aload_n hx hb dX8_count_22 rfl (lv_at hl 0 rfl) ?_
        refine lv_iload hx hb dX8_count_23 (lv_at hl 5 rfl) ?_
        refine lv_bipush (v := nI 7) hx hb dX8_count_25 (by decide) ?_
        refine k_calli (k := 0) (As := [.int (nI i), .int (nI 7)]) (rest := [.int (nI (pSum (fun t => N (23 + 13 * t + 7)) i))]) ⟨hx, hb, hml, hown, hts⟩ (c_X8_of cy D ad l σ i (7) (N (23 + 13 * i + 7)) (by omega) (hM _ (by omega))) (cwV 2 hts gX8_count_X8_of rfl rfl rfl (by decide +kernel) ⟨Nat.le_of_ble_eq_true rfl, Nat.le_of_ble_eq_true rfl⟩) E hA I (k_recv E I (by decide) km_0 rfl) rfl hl.1 rfl (lv_room (Nat.le_of_ble_eq_true rfl)) dX8_count_27 ⟨Nat.le_of_ble_eq_true rfl, Nat.le_of_ble_eq_true rfl⟩ (fun r_27 σ_27 H locs hp_27 I => ?_)
        obtain ⟨rfl, rfl⟩ := hp_27
        refine lv_iadd hx hb dX8_count_30 ?_
        rw [nI_add]
        refine lv_istore_n (lv' := [(2, .int (nI ((pSum (fun t => N (23 + 13 * t + 7)) i) + (N (23 + 13 * i + 7))))), (0, .ref (ad 0)), (1, .int x), (3, .int (nI (pSum (fun t => N (23 + 13 * t + 9)) i))), (4, .int (nI (pSum (fun t => if N (23 + 13 * t + 7) = 1 then 0 else N (23 + 13 * t + 2) + N (23 + 13 * t + 12)) i))), (5, .int (nI i))]) hx hb dX8_count_31 rfl hl (by decide) rfl (fun ls hl => ?_)
        refine lv_iload_n hx hb dX8_count_32 rfl (lv_at hl 3 rfl) ?_
        refine lv_aload_n hx hb dX8_count_33 rfl (lv_at hl 1 rfl) ?_
        refine lv_iload hx hb dX8_count_34 (lv_at hl 5 rfl) ?_
        refine lv_bipush (v := nI 9) hx hb dX8_count_36 (by decide) ?_
        refine k_calli (k := 0) (As := [.int (nI i), .int (nI 9)]) (rest := [.int (nI (pSum (fun t => N (23 + 13 * t + 9)) i))]) ⟨hx, hb, hml, hown, hts⟩ (c_X8_of cy D ad l σ i (9) (N (23 + 13 * i + 9)) (by omega) (hM _ (by omega))) (cwV 2 hts gX8_count_X8_of rfl rfl rfl (by decide +kernel) ⟨Nat.le_of_ble_eq_true rfl, Nat.le_of_ble_eq_true rfl⟩) E hA I (k_recv E I (by decide) km_0 rfl) rfl hl.1 rfl (lv_room (Nat.le_of_ble_eq_true rfl)) dX8_count_38 ⟨Nat.le_of_ble_eq_true rfl, Nat.le_of_ble_eq_true rfl⟩ (fun r_38 σ_38 H locs hp_38 I => ?_)
        obtain ⟨rfl, rfl⟩ := hp_38
        refine lv_iadd hx hb dX8_count_41 ?_
        rw [nI_add]
        refine lv_istore_n (lv' := [(3, .int (nI ((pSum (fun t => N (23 + 13 * t + 9)) i) + (N (23 + 13 * i + 9))))), (2, .int (nI ((pSum (fun t => N (23 + 13 * t + 7)) i) + (N (23 + 13 * i + 7))))), (0, .ref (ad 0)), (1, .int x), (4, .int (nI (pSum (fun t => if N (23 + 13 * t + 7) = 1 then 0 else N (23 + 13 * t + 2) + N (23 + 13 * t + 12)) i))), (5, .int (nI i))]) hx hb dX8_count_42 rfl hl (by decide) rfl (fun ls hl => ?_)
        refine lv_iload hx hb dX8_count_43 (lv_at hl 4 rfl) ?_
        refine lv_aload_n hx hb dX8_count_45 rfl (lv_at hl 2 rfl) ?_
        refine lv_iload hx hb dX8_count_46 (lv_at hl 5 rfl) ?_
        refine lv_bipush (v := nI 7) hx hb dX8_count_48 (by decide) ?_
        refine k_calli (k := 0) (As := [.int (nI i), .int (nI 7)]) (rest := [.int (nI (pSum (fun t => if N (23 + 13 * t + 7) = 1 then 0 else N (23 + 13 * t + 2) + N (23 + 13 * t + 12)) i))]) ⟨hx, hb, hml, hown, hts⟩ (c_X8_of cy D ad l σ i (7) (N (23 + 13 * i + 7)) (by omega) (hM _ (by omega))) (cwV 2 hts gX8_count_X8_of rfl rfl rfl (by decide +kernel) ⟨Nat.le_of_ble_eq_true rfl, Nat.le_of_ble_eq_true rfl⟩) E hA I (k_recv E I (by decide) km_0 rfl) rfl hl.1 rfl (lv_room (Nat.le_of_ble_eq_true rfl)) dX8_count_50 ⟨Nat.le_of_ble_eq_true rfl, Nat.le_of_ble_eq_true rfl⟩ (fun r_50 σ_50 H locs hp_50 I => ?_)
        obtain ⟨rfl, rfl⟩ := hp_50
        refine lv_iconst (v := nI 1) hx hb dX8_count_53 (by decide) ?_
        refine lv_icmp_ne (tgt := 61) hx hb dX8_count_54 (by decide) (fun c_54 => ?_) (fun c_54 => ?_)
        · have c_54 : ¬ ((N (23 + 13 * i + 7)) = 1) := fun q_ => c_54 ((nI_eq (by omega) (by omega)).mpr q_)
          refine lv_aload_n hx hb dX8_count_61 rfl (lv_at hl 2 rfl) ?_
          refine lv_iload hx hb dX8_count_62 (lv_at hl 5 rfl) ?_
          refine lv_iconst (v := nI 2) hx hb dX8_count_64 (by decide) ?_
          refine k_calli (k := 0) (As := [.int (nI i), .int (nI 2)]) (rest := [.int (nI (pSum (fun t => if N (23 + 13 * t + 7) = 1 then 0 else N (23 + 13 * t + 2) + N (23 + 13 * t + 12)) i))]) ⟨hx, hb, hml, hown, hts⟩ (c_X8_of cy D ad l σ i (2) (N (23 + 13 * i + 2)) (by omega) (hM _ (by omega))) (cwV 2 hts gX8_count_X8_of rfl rfl rfl (by decide +kernel) ⟨Nat.le_of_ble_eq_true rfl, Nat.le_of_ble_eq_true rfl⟩) E hA I (k_recv E I (by decide) km_0 rfl) rfl hl.1 rfl (lv_room (Nat.le_of_ble_eq_true rfl)) dX8_count_65 ⟨Nat.le_of_ble_eq_true rfl, Nat.le_of_ble_eq_true rfl⟩ (fun r_65 σ_65 H locs hp_65 I => ?_)
          obtain ⟨rfl, rfl⟩ := hp_65
          refine lv_aload_n hx hb dX8_count_68 rfl (lv_at hl 2 rfl) ?_
          refine lv_iload hx hb dX8_count_69 (lv_at hl 5 rfl) ?_
          refine lv_bipush (v := nI 12) hx hb dX8_count_71 (by decide) ?_
          refine k_calli (k := 0) (As := [.int (nI i), .int (nI 12)]) (rest := [.int (nI (N (23 + 13 * i + 2))), .int (nI (pSum (fun t => if N (23 + 13 * t + 7) = 1 then 0 else N (23 + 13 * t + 2) + N (23 + 13 * t + 12)) i))]) ⟨hx, hb, hml, hown, hts⟩ (c_X8_of cy D ad l σ i (12) (N (23 + 13 * i + 12)) (by omega) (hM _ (by omega))) (cwV 2 hts gX8_count_X8_of rfl rfl rfl (by decide +kernel) ⟨Nat.le_of_ble_eq_true rfl, Nat.le_of_ble_eq_true rfl⟩) E hA I (k_recv E I (by decide) km_0 rfl) rfl hl.1 rfl (lv_room (Nat.le_of_ble_eq_true rfl)) dX8_count_73 ⟨Nat.le_of_ble_eq_true rfl, Nat.le_of_ble_eq_true rfl⟩ (fun r_73 σ_73 H locs hp_73 I => ?_)
          obtain ⟨rfl, rfl⟩ := hp_73
          refine lv_iadd hx hb dX8_count_76 ?_
          rw [nI_add]
          refine lv_iadd hx hb dX8_count_77 ?_
          rw [nI_add]
          refine lv_topi (fun t_78 et_78 => ?_)
          have et_78 : t_78 = nI (pSum (fun t => if N (23 + 13 * t + 7) = 1 then 0 else N (23 + 13 * t + 2) + N (23 + 13 * t + 12)) (i + 1)) := et_78.trans (congrArg nI (by rw [pSum]; first | (rw [if_pos (show N (23 + 13 * i + 7) = 1 by omega)]; done) | (rw [if_neg (show ¬ N (23 + 13 * i + 7) = 1 by omega)]; done)))
          subst et_78
          refine lv_istore (lv' := [(4, .int (nI (pSum (fun t => if N (23 + 13 * t + 7) = 1 then 0 else N (23 + 13 * t + 2) + N (23 + 13 * t + 12)) (i + 1)))), (3, .int (nI ((pSum (fun t => N (23 + 13 * t + 9)) i) + (N (23 + 13 * i + 9))))), (2, .int (nI ((pSum (fun t => N (23 + 13 * t + 7)) i) + (N (23 + 13 * i + 7))))), (0, .ref (ad 0)), (1, .int x), (5, .int (nI i))]) hx hb dX8_count_78 hl (by decide) rfl (fun ls hl => ?_)
          refine lv_iinc (v := nI (i + 1)) (lv' := [(5, .int (nI (i + 1))), (4, .int (nI (pSum (fun t => if N (23 + 13 * t + 7) = 1 then 0 else N (23 + 13 * t + 2) + N (23 + 13 * t + 12)) (i + 1)))), (3, .int (nI ((pSum (fun t => N (23 + 13 * t + 9)) i) + (N (23 + 13 * i + 9))))), (2, .int (nI ((pSum (fun t => N (23 + 13 * t + 7)) i) + (N (23 + 13 * i + 7))))), (0, .ref (ad 0)), (1, .int x)]) hx hb dX8_count_80 hl (k := 5) rfl (show nI i + Int32.ofInt 1 = nI (i + 1) from nI_add i 1) (by decide) rfl (fun ls hl => ?_)
          refine lv_goto (tgt := 10) hx hb dX8_count_83 (by decide) ?_
          exact ih_10 (i + 1) (by omega) (by omega) _ _ I _ (lv_sub hl [4, 5, 3, 2, 1, 0] rfl)
        · have c_54 : (N (23 + 13 * i + 7)) = 1 := (nI_eq (by omega) (by omega)).mp c_54
          refine lv_iconst (v := nI 0) hx hb dX8_count_57 (by decide) ?_
          refine lv_goto (tgt := 77) hx hb dX8_count_58 (by decide) ?_
          refine lv_iadd hx hb dX8_count_77 ?_
          rw [nI_add]
          refine lv_topi (fun t_78 et_78 => ?_)
          have et_78 : t_78 = nI (pSum (fun t => if N (23 + 13 * t + 7) = 1 then 0 else N (23 + 13 * t + 2) + N (23 + 13 * t + 12)) (i + 1)) := et_78.trans (congrArg nI (by rw [pSum]; first | (rw [if_pos (show N (23 + 13 * i + 7) = 1 by omega)]; done) | (rw [if_neg (show ¬ N (23 + 13 * i + 7) = 1 by omega)]; done)))
          subst et_78
          refine lv_istore (lv' := [(4, .int (nI (pSum (fun t => if N (23 + 13 * t + 7) = 1 then 0 else N (23 + 13 * t + 2) + N (23 + 13 * t + 12)) (i + 1)))), (3, .int (nI ((pSum (fun t => N (23 + 13 * t + 9)) i) + (N (23 + 13 * i + 9))))), (2, .int (nI ((pSum (fun t => N (23 + 13 * t + 7)) i) + (N (23 + 13 * i + 7))))), (0, .ref (ad 0)), (1, .int x), (5, .int (nI i))]) hx hb dX8_count_78 hl (by decide) rfl (fun ls hl => ?_)
          refine lv_iinc (v := nI (i + 1)) (lv' := [(5, .int (nI (i + 1))), (4, .int (nI (pSum (fun t => if N (23 + 13 * t + 7) = 1 then 0 else N (23 + 13 * t + 2) + N (23 + 13 * t + 12)) (i + 1)))), (3, .int (nI ((pSum (fun t => N (23 + 13 * t + 9)) i) + (N (23 + 13 * i + 9))))), (2, .int (nI ((pSum (fun t => N (23 + 13 * t + 7)) i) + (N (23 + 13 * i + 7))))), (0, .ref (ad 0)), (1, .int x)]) hx hb dX8_count_80 hl (k := 5) rfl (show nI i + Int32.ofInt 1 = nI (i + 1) from nI_add i 1) (by decide) rfl (fun ls hl => ?_)
          refine lv_goto (tgt := 10) hx hb dX8_count_83 (by decide) ?_
          exact ih_10 (i + 1) (by omega) (by omega) _ _ I _ (lv_sub hl [4, 5, 3, 2, 1, 0] rfl)
  exact LP_10 _ 0 (Nat.lt_succ_self _) (Nat.zero_le _) _ _ I _ (lv_sub hl [4, 5, 3, 2, 1, 0] rfl)

/-! THE BAY: all ships -/
set_option maxHeartbeats 4000000 in
set_option maxRecDepth 100000 in
theorem c_X0_put (cy : Nat → ClassId) (D : va_G) (ad : Nat → Nat) (l : Launch) (σ : Nat → Nat → Int32) (i : Nat) (H_i : i < 5) (a b x : Int32) : kMv 38 ad (kcC cy ad) cy D l yX0_put wsX0_put ({ frames := 0, cells := 0, slots := 0, locals := 0 }) [.ref (ad (16 + 3 * i)), .int a, .int b, .int x] σ (fun σ' => σ' = va_up σ (16 + 3 * i) (upd (upd (upd (σ (16 + 3 * i)) 0 a) 1 b) 2 x)) := by
  refine k_entry (cc := cX0_put) (maxL := 4) (ret := none) (by decide) rfl (Nat.le_of_ble_eq_true rfl) ?_
  intro p e s m below meth c hx hb hr hml hown hts hlk E I ls hl
  have hA : ∀ q, s.heap.size ≤ q → kA 38 ad s.heap.size q := fun q h => Or.inr h
  have hown : s.vm.findClass RX0 = some m.cls := hown
  have hl : lv_has ls 4 [(0, .ref (ad (16 + 3 * i))), (1, .int a), (2, .int b), (3, .int x)] := hl
  have iX0 : ∀ w ∈ u_ws RX0 TX0 3, w ∈ wsX0_put := fun w h => List.mem_cons_of_mem _ (List.mem_append_right _ h)
  refine lv_aload_n hx hb dX0_put_0 rfl (lv_at hl 0 rfl) ?_
  refine lv_iload_n hx hb dX0_put_1 rfl (lv_at hl 1 rfl) ?_
  refine k_put (C := RX0) (T := TX0) (N := 3) (ty0 := tyX0) (ty := .int) (v := .int a) hx hb hts hown E I iX0 tyX0_ok nmX0 (16 + 3 * i) (by omega) (r0 := σ (16 + 3 * i)) rfl (kc_F H_i) rfl 0 (by decide) (List.mem_of_getElem? (i := 1) rfl) rfl rfl rfl rfl (Nat.le_of_ble_eq_true rfl) (upd (σ (16 + 3 * i)) 0 a) (kc_F (cy := cy) (ad := ad) (r := (upd (σ (16 + 3 * i)) 0 a)) H_i).symm (σ2 := va_up σ (16 + 3 * i) (upd (σ (16 + 3 * i)) 0 a)) rfl dX0_put_2 (fun H locs I => ?_)
  refine lv_aload_n hx hb dX0_put_5 rfl (lv_at hl 0 rfl) ?_
  refine lv_iload_n hx hb dX0_put_6 rfl (lv_at hl 2 rfl) ?_
  refine k_put (C := RX0) (T := TX0) (N := 3) (ty0 := tyX0) (ty := .int) (v := .int b) hx hb hts hown E I iX0 tyX0_ok nmX0 (16 + 3 * i) (by omega) (r0 := (upd (σ (16 + 3 * i)) 0 a)) (by rw [va_up_self]) (kc_F H_i) rfl 1 (by decide) (List.mem_of_getElem? (i := 2) rfl) rfl rfl rfl rfl (Nat.le_of_ble_eq_true rfl) (upd (upd (σ (16 + 3 * i)) 0 a) 1 b) (kc_F (cy := cy) (ad := ad) (r := (upd (upd (σ (16 + 3 * i)) 0 a) 1 b)) H_i).symm (σ2 := va_up σ (16 + 3 * i) (upd (upd (σ (16 + 3 * i)) 0 a) 1 b)) (bx_uu _ _ _ _) dX0_put_7 (fun H locs I => ?_)
  refine lv_aload_n hx hb dX0_put_10 rfl (lv_at hl 0 rfl) ?_
  refine lv_iload_n hx hb dX0_put_11 rfl (lv_at hl 3 rfl) ?_
  refine k_put (C := RX0) (T := TX0) (N := 3) (ty0 := tyX0) (ty := .int) (v := .int x) hx hb hts hown E I iX0 tyX0_ok nmX0 (16 + 3 * i) (by omega) (r0 := (upd (upd (σ (16 + 3 * i)) 0 a) 1 b)) (by rw [va_up_self]) (kc_F H_i) rfl 2 (by decide) (List.mem_of_getElem? (i := 3) rfl) rfl rfl rfl rfl (Nat.le_of_ble_eq_true rfl) (upd (upd (upd (σ (16 + 3 * i)) 0 a) 1 b) 2 x) (kc_F (cy := cy) (ad := ad) (r := (upd (upd (upd (σ (16 + 3 * i)) 0 a) 1 b) 2 x)) H_i).symm (σ2 := va_up σ (16 + 3 * i) (upd (upd (upd (σ (16 + 3 * i)) 0 a) 1 b) 2 x)) (bx_uu _ _ _ _) dX0_put_12 (fun H locs I => ?_)
  exact k_vret hx hb hr hlk I dX0_put_15 (rfl)
set_option maxHeartbeats 4000000 in
set_option maxRecDepth 100000 in
theorem c_X0_put2 (cy : Nat → ClassId) (D : va_G) (ad : Nat → Nat) (l : Launch) (σ : Nat → Nat → Int32) (i : Nat) (H_i : i < 5) (a b x : Int32) : kMv 38 ad (kcC cy ad) cy D l yX0_put wsX0_put ({ frames := 0, cells := 0, slots := 0, locals := 0 }) [.ref (ad (17 + 3 * i)), .int a, .int b, .int x] σ (fun σ' => σ' = va_up σ (17 + 3 * i) (upd (upd (upd (σ (17 + 3 * i)) 0 a) 1 b) 2 x)) := by
  refine k_entry (cc := cX0_put) (maxL := 4) (ret := none) (by decide) rfl (Nat.le_of_ble_eq_true rfl) ?_
  intro p e s m below meth c hx hb hr hml hown hts hlk E I ls hl
  have hA : ∀ q, s.heap.size ≤ q → kA 38 ad s.heap.size q := fun q h => Or.inr h
  have hown : s.vm.findClass RX0 = some m.cls := hown
  have hl : lv_has ls 4 [(0, .ref (ad (17 + 3 * i))), (1, .int a), (2, .int b), (3, .int x)] := hl
  have iX0 : ∀ w ∈ u_ws RX0 TX0 3, w ∈ wsX0_put := fun w h => List.mem_cons_of_mem _ (List.mem_append_right _ h)
  refine lv_aload_n hx hb dX0_put_0 rfl (lv_at hl 0 rfl) ?_
  refine lv_iload_n hx hb dX0_put_1 rfl (lv_at hl 1 rfl) ?_
  refine k_put (C := RX0) (T := TX0) (N := 3) (ty0 := tyX0) (ty := .int) (v := .int a) hx hb hts hown E I iX0 tyX0_ok nmX0 (17 + 3 * i) (by omega) (r0 := σ (17 + 3 * i)) rfl (kc_G H_i) rfl 0 (by decide) (List.mem_of_getElem? (i := 1) rfl) rfl rfl rfl rfl (Nat.le_of_ble_eq_true rfl) (upd (σ (17 + 3 * i)) 0 a) (kc_G (cy := cy) (ad := ad) (r := (upd (σ (17 + 3 * i)) 0 a)) H_i).symm (σ2 := va_up σ (17 + 3 * i) (upd (σ (17 + 3 * i)) 0 a)) rfl dX0_put_2 (fun H locs I => ?_)
  refine lv_aload_n hx hb dX0_put_5 rfl (lv_at hl 0 rfl) ?_
  refine lv_iload_n hx hb dX0_put_6 rfl (lv_at hl 2 rfl) ?_
  refine k_put (C := RX0) (T := TX0) (N := 3) (ty0 := tyX0) (ty := .int) (v := .int b) hx hb hts hown E I iX0 tyX0_ok nmX0 (17 + 3 * i) (by omega) (r0 := (upd (σ (17 + 3 * i)) 0 a)) (by rw [va_up_self]) (kc_G H_i) rfl 1 (by decide) (List.mem_of_getElem? (i := 2) rfl) rfl rfl rfl rfl (Nat.le_of_ble_eq_true rfl) (upd (upd (σ (17 + 3 * i)) 0 a) 1 b) (kc_G (cy := cy) (ad := ad) (r := (upd (upd (σ (17 + 3 * i)) 0 a) 1 b)) H_i).symm (σ2 := va_up σ (17 + 3 * i) (upd (upd (σ (17 + 3 * i)) 0 a) 1 b)) (bx_uu _ _ _ _) dX0_put_7 (fun H locs I => ?_)
  refine lv_aload_n hx hb dX0_put_10 rfl (lv_at hl 0 rfl) ?_
  refine lv_iload_n hx hb dX0_put_11 rfl (lv_at hl 3 rfl) ?_
  refine k_put (C := RX0) (T := TX0) (N := 3) (ty0 := tyX0) (ty := .int) (v := .int x) hx hb hts hown E I iX0 tyX0_ok nmX0 (17 + 3 * i) (by omega) (r0 := (upd (upd (σ (17 + 3 * i)) 0 a) 1 b)) (by rw [va_up_self]) (kc_G H_i) rfl 2 (by decide) (List.mem_of_getElem? (i := 3) rfl) rfl rfl rfl rfl (Nat.le_of_ble_eq_true rfl) (upd (upd (upd (σ (17 + 3 * i)) 0 a) 1 b) 2 x) (kc_G (cy := cy) (ad := ad) (r := (upd (upd (upd (σ (17 + 3 * i)) 0 a) 1 b) 2 x)) H_i).symm (σ2 := va_up σ (17 + 3 * i) (upd (upd (upd (σ (17 + 3 * i)) 0 a) 1 b) 2 x)) (bx_uu _ _ _ _) dX0_put_12 (fun H locs I => ?_)
  exact k_vret hx hb hr hlk I dX0_put_15 (rfl)
set_option maxHeartbeats 4000000 in
set_option maxRecDepth 100000 in
theorem c_X1_isCell (cy : Nat → ClassId) (D : va_G) (ad : Nat → Nat) (l : Launch) (σ : Nat → Nat → Int32) (x y : Int32) (C : Nat) (hC1 : 1 ≤ C) (hC : C ≤ 20) (ec : σ 11 3 = nI C) : kMi 38 ad (kcC cy ad) cy D l yX1_isCell wsX1_isCell ({ frames := 1, cells := 0, slots := 0, locals := 22 }) [.ref (ad 11), .int x, .int y] σ (fun r σ' => kT r (0 ≤ x.toInt ∧ x.toInt < C ∧ 0 ≤ y.toInt ∧ y.toInt < 20) ∧ σ = σ') := by
  refine k_entry (cc := cX1_isCell) (maxL := 3) (ret := (some .boolean)) (by decide) rfl (Nat.le_of_ble_eq_true rfl) ?_
  intro p e s m below meth c hx hb hr hml hown hts hlk E I ls hl
  have hA : ∀ q, s.heap.size ≤ q → kA 38 ad s.heap.size q := fun q h => Or.inr h
  have hown : s.vm.findClass RX1 = some m.cls := hown
  have hl : lv_has ls 3 [(0, .ref (ad 11)), (1, .int x), (2, .int y)] := hl
  have iX1 : ∀ w ∈ u_ws RX1 TX1 6, w ∈ wsX1_isCell := fun w h => List.mem_cons_of_mem _ (List.mem_append_right _ h)
  refine lv_iload_n hx hb dX1_isCell_0 rfl (lv_at hl 1 rfl) ?_
  refine lv_iconst (v := nI 0) hx hb dX1_isCell_1 (by decide) ?_
  refine lv_aload_n hx hb dX1_isCell_2 rfl (lv_at hl 0 rfl) ?_
  refine k_get (C := RX1) (T := TX1) (N := 6) (v := .int (nI C)) hx hb hts hown E I iX1 (11) (by decide) (r0 := σ 11) rfl kc_11 rfl 3 (by decide) (List.mem_of_getElem? (i := 1) rfl) (congrArg (fun z => some (Value.int z)) ec) dX1_isCell_3 ?_
  refine lv_iconst (v := nI 1) hx hb dX1_isCell_6 (by decide) ?_
  refine lv_isub hx hb dX1_isCell_7 ?_
  refine lv_topi (fun t_8 et_8 => ?_)
  have et_8 : t_8 = nI (C - 1) := et_8.trans (pk_sub hC1)
  subst et_8
  refine k_callsN (As := [.int x, .int (nI 0), .int (nI (C - 1))]) (rest := []) ⟨hx, hb, hml, hown, hts⟩ (c_X7_within l x (nI 0) (nI (C - 1))) ⟨va_cnB 3 hts gX1_isCell_X7_within_n65 rfl rfl rfl E.2.1.2.2.1 (hts _ (List.mem_of_getElem? (i := 3) rfl)) (by decide +kernel) ⟨Nat.le_of_ble_eq_true rfl, Nat.le_of_ble_eq_true rfl⟩, hts _ (List.mem_of_getElem? (i := 2) rfl), trivial⟩ rfl hl.1 rfl (lv_room (Nat.le_of_ble_eq_true rfl)) dX1_isCell_8 ⟨Nat.le_of_ble_eq_true rfl, Nat.le_of_ble_eq_true rfl⟩ (fun r_8 hp_8 => ?_)
  rw [nI_toInt (show 0 < 2 ^ 31 by decide), nI_toInt (show C - 1 < 2 ^ 31 by omega)] at hp_8
  rcases hp_8 with ⟨rfl, g1⟩ | ⟨rfl, g1⟩
  · refine lv_if_eq (tgt := 28) hx hb dX1_isCell_11 (by decide) (fun c_11 => ?_) (fun c_11 => ?_)
    · exact absurd c_11 (by decide)
    · refine lv_iload_n hx hb dX1_isCell_14 rfl (lv_at hl 2 rfl) ?_
      refine lv_iconst (v := nI 0) hx hb dX1_isCell_15 (by decide) ?_
      refine lv_bipush (v := nI 19) hx hb dX1_isCell_16 (by decide) ?_
      refine k_callsN (As := [.int y, .int (nI 0), .int (nI 19)]) (rest := []) ⟨hx, hb, hml, hown, hts⟩ (c_X7_within l y (nI 0) (nI 19)) ⟨va_cnB 3 hts gX1_isCell_X7_within_n65 rfl rfl rfl E.2.1.2.2.1 (hts _ (List.mem_of_getElem? (i := 3) rfl)) (by decide +kernel) ⟨Nat.le_of_ble_eq_true rfl, Nat.le_of_ble_eq_true rfl⟩, hts _ (List.mem_of_getElem? (i := 2) rfl), trivial⟩ rfl hl.1 rfl (lv_room (Nat.le_of_ble_eq_true rfl)) dX1_isCell_18 ⟨Nat.le_of_ble_eq_true rfl, Nat.le_of_ble_eq_true rfl⟩ (fun r_18 hp_18 => ?_)
      rw [nI_toInt (show 0 < 2 ^ 31 by decide), nI_toInt (show 19 < 2 ^ 31 by decide)] at hp_18
      rcases hp_18 with ⟨rfl, g2⟩ | ⟨rfl, g2⟩
      · refine lv_if_eq (tgt := 28) hx hb dX1_isCell_21 (by decide) (fun c_21 => ?_) (fun c_21 => ?_)
        · exact absurd c_21 (by decide)
        · refine lv_iconst (v := nI 1) hx hb dX1_isCell_24 (by decide) ?_
          refine lv_goto (tgt := 29) hx hb dX1_isCell_25 (by decide) ?_
          exact k_zret hx hb hr (by decide) hlk I dX1_isCell_29 (⟨by first | exact kT_1 (by omega) | exact kT_0 (by omega), rfl⟩)
      · refine lv_if_eq (tgt := 28) hx hb dX1_isCell_21 (by decide) (fun c_21 => ?_) (fun c_21 => ?_)
        · refine lv_iconst (v := nI 0) hx hb dX1_isCell_28 (by decide) ?_
          exact k_zret hx hb hr (by decide) hlk I dX1_isCell_29 (⟨by first | exact kT_1 (by omega) | exact kT_0 (by omega), rfl⟩)
        · exact absurd c_21 (by decide)
  · refine lv_if_eq (tgt := 28) hx hb dX1_isCell_11 (by decide) (fun c_11 => ?_) (fun c_11 => ?_)
    · refine lv_iconst (v := nI 0) hx hb dX1_isCell_28 (by decide) ?_
      exact k_zret hx hb hr (by decide) hlk I dX1_isCell_29 (⟨by first | exact kT_1 (by omega) | exact kT_0 (by omega), rfl⟩)
    · exact absurd c_11 (by decide)
set_option maxHeartbeats 4000000 in
set_option maxRecDepth 100000 in
theorem c_X1_shipAt (cy : Nat → ClassId) (D : va_G) (ad : Nat → Nat) (l : Launch) (σ : Nat → Nat → Int32) (x : Int32) (cnt : Nat) (hc5 : cnt ≤ 5) (ec : σ 11 4 = nI cnt) : kMq 38 ad (kcC cy ad) cy D l yX1_shipAt wsX1_shipAt ({ frames := 0, cells := 0, slots := 0, locals := 0 }) [.ref (ad 11), .int x] σ (fun r σ' => σ = σ' ∧ ((∃ i, i < cnt ∧ x = nI i ∧ r = some (ad (15 + 3 * i))) ∨ ((∀ i, i < cnt → x ≠ nI i) ∧ r = none))) := by
  refine k_entry (cc := cX1_shipAt) (maxL := 2) (ret := (some (.object "ChainLays$Ship"))) (by decide) rfl (Nat.le_of_ble_eq_true rfl) ?_
  intro p e s m below meth c hx hb hr hml hown hts hlk E I ls hl
  have hA : ∀ q, s.heap.size ≤ q → kA 38 ad s.heap.size q := fun q h => Or.inr h
  have hown : s.vm.findClass RX1 = some m.cls := hown
  have hl : lv_has ls 2 [(0, .ref (ad 11)), (1, .int x)] := hl
  have iX1 : ∀ w ∈ u_ws RX1 TX1 6, w ∈ wsX1_shipAt := fun w h => List.mem_cons_of_mem _ (List.mem_append_right _ h)
  refine lv_iload_n hx hb dX1_shipAt_0 rfl (lv_at hl 1 rfl) ?_
  refine lv_if_lt (tgt := 30) hx hb dX1_shipAt_1 (by decide) (fun c_1 => ?_) (fun c_1 => ?_)
  · refine lv_null hx hb dX1_shipAt_30 ?_
    exact k_nret hx hb hr (Or.inl ⟨_, rfl⟩) hlk I dX1_shipAt_31 (⟨rfl, by first | exact Or.inl ⟨i, hi, rfl, rfl⟩ | exact Or.inr ⟨fun i hi e_ => by subst e_; first | exact nI_pos (by omega) c_1 | exact absurd ((nI_leI (by omega) (by omega)).mp c_9) (by omega), rfl⟩⟩)
  · refine lv_iload_n hx hb dX1_shipAt_4 rfl (lv_at hl 1 rfl) ?_
    refine lv_aload_n hx hb dX1_shipAt_5 rfl (lv_at hl 0 rfl) ?_
    refine k_get (C := RX1) (T := TX1) (N := 6) (v := .int (nI cnt)) hx hb hts hown E I iX1 (11) (by decide) (r0 := σ 11) rfl kc_11 rfl 4 (by decide) (List.mem_of_getElem? (i := 1) rfl) (congrArg (fun z => some (Value.int z)) ec) dX1_shipAt_6 ?_
    refine lv_icmp_ge (tgt := 30) hx hb dX1_shipAt_9 (by decide) (fun c_9 => ?_) (fun c_9 => ?_)
    · refine lv_null hx hb dX1_shipAt_30 ?_
      exact k_nret hx hb hr (Or.inl ⟨_, rfl⟩) hlk I dX1_shipAt_31 (⟨rfl, by first | exact Or.inl ⟨i, hi, rfl, rfl⟩ | exact Or.inr ⟨fun i hi e_ => by subst e_; first | exact nI_pos (by omega) c_1 | exact absurd ((nI_leI (by omega) (by omega)).mp c_9) (by omega), rfl⟩⟩)
    · obtain ⟨i, hi, rfl⟩ : ∃ i, i < cnt ∧ x = nI i := by rcases pk_ix x (show cnt < 2 ^ 31 by omega) with q | q | q; (exact absurd q c_1); (exact absurd q c_9); exact q
      · have H_i : i < 5 := by omega
        refine lv_iload_n hx hb dX1_shipAt_12 rfl (lv_at hl 1 rfl) ?_
        refine lv_aload_n hx hb dX1_shipAt_13 rfl (lv_at hl 0 rfl) ?_
        refine k_get (C := RX1) (T := TX1) (N := 6) (v := .ref (ad 13)) hx hb hts hown E I iX1 (11) (by decide) (r0 := σ 11) rfl kc_11 rfl 1 (by decide) (List.mem_of_getElem? (i := 2) rfl) rfl dX1_shipAt_14 ?_
        refine k_alen (t0 := 2) hx hb E I (13) (by decide) kc_13 rfl dX1_shipAt_17 ?_
        refine lv_icmp_ge (tgt := 30) hx hb dX1_shipAt_18 (by decide) (fun c_18 => ?_) (fun c_18 => ?_)
        · have c_18 : 5 ≤ i := (nI_leI (by omega) (by omega)).mp c_18
          omega
        · have c_18 : ¬ (5 ≤ i) := fun q_ => c_18 ((nI_leI (by omega) (by omega)).mpr q_)
          refine lv_aload_n hx hb dX1_shipAt_21 rfl (lv_at hl 0 rfl) ?_
          refine k_get (C := RX1) (T := TX1) (N := 6) (v := .ref (ad 13)) hx hb hts hown E I iX1 (11) (by decide) (r0 := σ 11) rfl kc_11 rfl 1 (by decide) (List.mem_of_getElem? (i := 2) rfl) rfl dX1_shipAt_22 ?_
          refine lv_iload_n hx hb dX1_shipAt_25 rfl (lv_at hl 1 rfl) ?_
          refine k_aldS (a := ad (15 + 3 * i)) hx hb E I (13) (by decide) kc_13 (vp_in_nI (by omega) (by decide)) (by rw [nI_clamp (by omega)]; exact if_pos (by omega)) dX1_shipAt_26 ?_
          refine lv_goto (tgt := 31) hx hb dX1_shipAt_27 (by decide) ?_
          exact k_aret hx hb hr (Or.inl ⟨_, rfl⟩) hlk I dX1_shipAt_31 (⟨rfl, by first | exact Or.inl ⟨i, hi, rfl, rfl⟩ | exact Or.inr ⟨fun i hi e_ => by subst e_; first | exact nI_pos (by omega) c_1 | exact absurd ((nI_leI (by omega) (by omega)).mp c_9) (by omega), rfl⟩⟩)
set_option maxHeartbeats 4000000 in
set_option maxRecDepth 100000 in
theorem c_X1_measureSwings (cy : Nat → ClassId) (D : va_G) (ad : Nat → Nat) (l : Launch) (σ : Nat → Nat → Int32) (N : Nat → Nat) (hN : nOk N) (hB : rBay σ N) (b : Nat) (hb20 : b ≤ 20) : kMv 38 ad (kcC cy ad) cy D l yX1_measureSwings wsX1_measureSwings ({ frames := 5, cells := 0, slots := 0, locals := 114 }) [.ref (ad 11), .int (nI b)] σ (fun σ' => qc σ σ' ∧ ∀ t, t < N 1 → σ' (15 + 3 * t) 9 = nI (pS N b t)) := by
  refine k_entry (cc := cX1_measureSwings) (maxL := 3) (ret := none) (by decide) rfl (Nat.le_of_ble_eq_true rfl) ?_
  intro p e s m below meth c hx hb hr hml hown hts hlk E I ls hl
  have hA : ∀ q, s.heap.size ≤ q → kA 38 ad s.heap.size q := fun q h => Or.inr h
  have hown : s.vm.findClass RX1 = some m.cls := hown
  have hl : lv_has ls 3 [(0, .ref (ad 11)), (1, .int (nI b))] := hl
  have iX0 : ∀ w ∈ u_ws RX0 TX0 3, w ∈ wsX1_measureSwings := fun w h => List.mem_cons_of_mem _ (List.mem_append_left _ (List.mem_append_right _ h))
  have iX1 : ∀ w ∈ u_ws RX1 TX1 6, w ∈ wsX1_measureSwings := fun w h => List.mem_cons_of_mem _ (List.mem_append_left _ (List.mem_append_left _ (List.mem_append_left _ (List.mem_append_right _ h))))
  have iX6 : ∀ w ∈ u_ws RX6 TX6 10, w ∈ wsX1_measureSwings := fun w h => List.mem_cons_of_mem _ (List.mem_append_left _ (List.mem_append_left _ (List.mem_append_right _ h)))
  refine lv_iconst (v := nI 0) hx hb dX1_measureSwings_0 (by decide) ?_
  refine lv_istore_n (lv' := [(2, .int (nI 0)), (0, .ref (ad 11)), (1, .int (nI b))]) hx hb dX1_measureSwings_1 rfl hl (by decide) rfl (fun ls hl => ?_)
  have LP_2 : ∀ (fuel_2 : Nat) (i : Nat) (τ : Nat → Nat → Int32), N 1 - i < fuel_2 → (i ≤ N 1) → (qc σ τ) → (∀ t, t < i → τ (15 + 3 * t) 9 = nI (pS N b t)) → ∀ (H : Heap) (locs : List Loc), kI 38 ad (kcC cy ad) D (kA 38 ad s.heap.size) s.heap τ H locs → ∀ ls : Array Slot, lv_has ls 3 [(0, .ref (ad 11)), (1, .int (nI b)), (2, .int (nI i))] → W p l e (headSpec wsX1_measureSwings ({ frames := 5, cells := 0, slots := 0, locals := 114 })).room s m [.ref (ad 11), .int (nI b)].toArray below meth c H locs 0 0 (MQ below (va_Qv (fun σ' => qc σ σ' ∧ ∀ t, t < N 1 → σ' (15 + 3 * t) 9 = nI (pS N b t)) (kB 38 ad (kcC cy ad) D) (kA 38 ad s.heap.size)) [.ref (ad 11), .int (nI b)].toArray s 0 0 (kA 38 ad s.heap.size)) (F0 m 2 ls []) := by
    intro fuel_2
    induction fuel_2 with
    | zero => intro i τ hf_2; exact absurd hf_2 (Nat.not_lt_zero _)
    | succ fuel_2 ih_2 =>
      intro i τ hf_2 hin hq hsw H locs I ls hl
      have hB := rBay_qc hN.1.2.2.2.1 hB hq
      have h5 := hN.1
      refine lv_iload_n hx hb dX1_measureSwings_2 rfl (lv_at hl 2 rfl) ?_
      refine lv_aload_n hx hb dX1_measureSwings_3 rfl (lv_at hl 0 rfl) ?_
      refine k_get (C := RX1) (T := TX1) (N := 6) (v := .int (nI (N 1))) hx hb hts hown E I iX1 (11) (by decide) (r0 := τ 11) rfl kc_11 rfl 4 (by decide) (List.mem_of_getElem? (i := 1) rfl) (congrArg (fun z => some (Value.int z)) hB.1.2.1) dX1_measureSwings_4 ?_
      refine lv_icmp_ge (tgt := 39) hx hb dX1_measureSwings_7 (by decide) (fun c_7 => ?_) (fun c_7 => ?_)
      · have c_7 : (N 1) ≤ i := (nI_leI (by omega) (by omega)).mp c_7
        exact k_vret hx hb hr hlk I dX1_measureSwings_39 (⟨hq, fun t ht => hsw t (by omega)⟩)
      · have c_7 : ¬ ((N 1) ≤ i) := fun q_ => c_7 ((nI_leI (by omega) (by omega)).mpr q_)
        have hi : i < N 1 := by omega
        have H_i : i < 5 := by omega
        have hsh := hN.2.2 i hi
        unfold nSh at hsh
        refine lv_aload_n hx hb dX1_measureSwings_10 rfl (lv_at hl 0 rfl) ?_
        refine lv_aload_n hx hb dX1_measureSwings_11 rfl (lv_at hl 0 rfl) ?_
        refine k_get (C := RX1) (T := TX1) (N := 6) (v := .ref (ad 13)) hx hb hts hown E I iX1 (11) (by decide) (r0 := τ 11) rfl kc_11 rfl 1 (by decide) (List.mem_of_getElem? (i := 2) rfl) rfl dX1_measureSwings_12 ?_
        refine lv_iload_n hx hb dX1_measureSwings_15 rfl (lv_at hl 2 rfl) ?_
        refine k_aldS (a := ad (15 + 3 * i)) hx hb E I (13) (by decide) kc_13 (vp_in_nI (by omega) (by decide)) (by rw [nI_clamp (by omega)]; exact if_pos (by omega)) dX1_measureSwings_16 ?_
        refine lv_aload_n hx hb dX1_measureSwings_17 rfl (lv_at hl 0 rfl) ?_
        refine k_get (C := RX1) (T := TX1) (N := 6) (v := .ref (ad 13)) hx hb hts hown E I iX1 (11) (by decide) (r0 := τ 11) rfl kc_11 rfl 1 (by decide) (List.mem_of_getElem? (i := 2) rfl) rfl dX1_measureSwings_18 ?_
        refine lv_iload_n hx hb dX1_measureSwings_21 rfl (lv_at hl 2 rfl) ?_
        refine k_aldS (a := ad (15 + 3 * i)) hx hb E I (13) (by decide) kc_13 (vp_in_nI (by omega) (by decide)) (by rw [nI_clamp (by omega)]; exact if_pos (by omega)) dX1_measureSwings_22 ?_
        refine k_get (C := RX6) (T := TX6) (N := 10) (v := .ref (ad (16 + 3 * i))) hx hb hts hown E I iX6 (15 + 3 * i) (by omega) (r0 := τ (15 + 3 * i)) rfl (kc_S H_i) rfl 0 (by decide) (List.mem_of_getElem? (i := 3) rfl) rfl dX1_measureSwings_23 ?_
        refine k_get (C := RX0) (T := TX0) (N := 3) (v := .int (nI (N (23 + 13 * i + 2)))) hx hb hts hown E I iX0 (16 + 3 * i) (by omega) (r0 := τ (16 + 3 * i)) rfl (kc_F H_i) rfl 2 (by decide) (List.mem_of_getElem? (i := 4) rfl) (congrArg (fun z => some (Value.int z)) (rB_f hB hi 2 (by decide))) dX1_measureSwings_26 ?_
        refine lv_iload_n hx hb dX1_measureSwings_29 rfl (lv_at hl 1 rfl) ?_
        refine k_callv (k := 11) (As := [.ref (ad (15 + 3 * i)), .int (nI (N (23 + 13 * i + 2))), .int (nI b)]) (rest := []) ⟨hx, hb, hml, hown, hts⟩ (c_X1_measureSwing cy D ad l τ N hN i hi hB (N (23 + 13 * i + 2)) b hsh.1.2.2.2 hb20) (cwV 3 hts gX1_measureSwings_X1_measureSwing rfl rfl rfl (by decide +kernel) ⟨Nat.le_of_ble_eq_true rfl, Nat.le_of_ble_eq_true rfl⟩) E hA I (k_recv E I (by decide) kc_11 rfl) rfl hl.1 rfl (lv_room (Nat.le_of_ble_eq_true rfl)) dX1_measureSwings_30 ⟨Nat.le_of_ble_eq_true rfl, Nat.le_of_ble_eq_true rfl⟩ (fun σ_30 H locs hp_30 I => ?_)
        obtain ⟨υ, hq1, hs1⟩ := hp_30
        have hw := sw_set H_i hq1 hs1
        refine lv_iinc (v := nI (i + 1)) (lv' := [(2, .int (nI (i + 1))), (0, .ref (ad 11)), (1, .int (nI b))]) hx hb dX1_measureSwings_33 hl (k := 2) rfl (show nI i + Int32.ofInt 1 = nI (i + 1) from nI_add i 1) (by decide) rfl (fun ls hl => ?_)
        refine lv_goto (tgt := 2) hx hb dX1_measureSwings_36 (by decide) ?_
        exact ih_2 (i + 1) σ_30 (by omega) (by omega) (qc_tr hq hw.1) (fun t ht => by by_cases e_ : t = i; (rw [e_]; exact hw.2.1); (rw [hw.2.2 t e_]; exact hsw t (by omega))) _ _ I _ (lv_sub hl [1, 2, 0] rfl)
  exact LP_2 _ 0 σ (Nat.lt_succ_self _) (Nat.zero_le _) (qc_rf σ) (fun t ht => absurd ht (Nat.not_lt_zero t)) _ _ I _ (lv_sub hl [1, 2, 0] rfl)
set_option maxHeartbeats 4000000 in
set_option maxRecDepth 100000 in
theorem c_X6_isClearOf (cy : Nat → ClassId) (D : va_G) (ad : Nat → Nat) (l : Launch) (σ : Nat → Nat → Int32) (N : Nat → Nat) (hN : nOk N) (i : Nat) (hi : i < N 1) (t : Nat) (ht : t < N 1) (hB : rBay σ N) (a x : Nat) (ha : a ≤ 1290) (hx9 : x ≤ 1290) (ea : σ (15 + 3 * i) 9 = nI a) (ex : σ (15 + 3 * t) 9 = nI x) : kMi 38 ad (kcC cy ad) cy D l yX6_isClearOf wsX6_isClearOf ({ frames := 0, cells := 0, slots := 0, locals := 0 }) [.ref (ad (15 + 3 * i)), .ref (ad (15 + 3 * t))] σ (fun r σ' => kT r (pClr N i t a x = true) ∧ σ = σ') := by
  have H_i : i < 5 := by have := hN.1; omega
  have hsh := hN.2.2 i hi
  unfold nSh at hsh
  have H_t : t < 5 := by have := hN.1; omega
  have hst := hN.2.2 t ht
  unfold nSh at hst
  have h5 := hN.1
  have hX : dd (N (23 + 13 * i)) (N (23 + 13 * t)) * dd (N (23 + 13 * i)) (N (23 + 13 * t)) ≤ 20 * 20 := dd_le (by omega) (by omega)
  have hY : dd (N (23 + 13 * i + 1)) (N (23 + 13 * t + 1)) * dd (N (23 + 13 * i + 1)) (N (23 + 13 * t + 1)) ≤ 20 * 20 := dd_le (by omega) (by omega)
  have hA9 : (a + x) * (a + x) ≤ 2580 * 2580 := sq_mono (by omega)
  refine k_entry (cc := cX6_isClearOf) (maxL := 5) (ret := (some .boolean)) (by decide) rfl (Nat.le_of_ble_eq_true rfl) ?_
  intro p e s m below meth c hx hb hr hml hown hts hlk E I ls hl
  have hA : ∀ q, s.heap.size ≤ q → kA 38 ad s.heap.size q := fun q h => Or.inr h
  have hown : s.vm.findClass RX6 = some m.cls := hown
  have hl : lv_has ls 5 [(0, .ref (ad (15 + 3 * i))), (1, .ref (ad (15 + 3 * t)))] := hl
  have iX0 : ∀ w ∈ u_ws RX0 TX0 3, w ∈ wsX6_isClearOf := fun w h => List.mem_cons_of_mem _ (List.mem_append_right _ h)
  have iX6 : ∀ w ∈ u_ws RX6 TX6 10, w ∈ wsX6_isClearOf := fun w h => List.mem_cons_of_mem _ (List.mem_append_left _ (List.mem_append_right _ h))
  refine lv_aload_n hx hb dX6_isClearOf_0 rfl (lv_at hl 0 rfl) ?_
  refine k_get (C := RX6) (T := TX6) (N := 10) (v := .int (nI (N (23 + 13 * i + 7)))) hx hb hts hown E I iX6 (15 + 3 * i) (by omega) (r0 := σ (15 + 3 * i)) rfl (kc_S H_i) rfl 3 (by decide) (List.mem_of_getElem? (i := 1) rfl) (congrArg (fun z => some (Value.int z)) (rB_f hB hi 7 (by decide))) dX6_isClearOf_1 ?_
  refine lv_if_ne (tgt := 14) hx hb dX6_isClearOf_4 (by decide) (fun c_4 => ?_) (fun c_4 => ?_)
  · have c_4 : ¬ ((N (23 + 13 * i + 7)) = 0) := fun q_ => c_4 ((nI_eq (by omega) (by decide)).mpr q_)
    refine lv_iconst (v := nI 1) hx hb dX6_isClearOf_14 (by decide) ?_
    exact k_zret hx hb hr (by decide) hlk I dX6_isClearOf_15 (⟨kT_1 (by unfold pClr; simp; omega), rfl⟩)
  · have c_4 : (N (23 + 13 * i + 7)) = 0 := (nI_eq (by omega) (by decide)).mp c_4
    refine lv_aload_n hx hb dX6_isClearOf_7 rfl (lv_at hl 1 rfl) ?_
    refine k_get (C := RX6) (T := TX6) (N := 10) (v := .int (nI (N (23 + 13 * t + 7)))) hx hb hts hown E I iX6 (15 + 3 * t) (by omega) (r0 := σ (15 + 3 * t)) rfl (kc_S H_t) rfl 3 (by decide) (List.mem_of_getElem? (i := 1) rfl) (congrArg (fun z => some (Value.int z)) (rB_f hB ht 7 (by decide))) dX6_isClearOf_8 ?_
    refine lv_if_eq (tgt := 16) hx hb dX6_isClearOf_11 (by decide) (fun c_11 => ?_) (fun c_11 => ?_)
    · have c_11 : (N (23 + 13 * t + 7)) = 0 := (nI_eq (by omega) (by decide)).mp c_11
      refine lv_bipush (v := nI 10) hx hb dX6_isClearOf_16 (by decide) ?_
      refine lv_aload_n hx hb dX6_isClearOf_18 rfl (lv_at hl 0 rfl) ?_
      refine k_get (C := RX6) (T := TX6) (N := 10) (v := .ref (ad (16 + 3 * i))) hx hb hts hown E I iX6 (15 + 3 * i) (by omega) (r0 := σ (15 + 3 * i)) rfl (kc_S H_i) rfl 0 (by decide) (List.mem_of_getElem? (i := 2) rfl) rfl dX6_isClearOf_19 ?_
      refine k_get (C := RX0) (T := TX0) (N := 3) (v := .int (nI (N (23 + 13 * i)))) hx hb hts hown E I iX0 (16 + 3 * i) (by omega) (r0 := σ (16 + 3 * i)) rfl (kc_F H_i) rfl 0 (by decide) (List.mem_of_getElem? (i := 3) rfl) (congrArg (fun z => some (Value.int z)) (rB_f hB hi 0 (by decide))) dX6_isClearOf_22 ?_
      refine lv_aload_n hx hb dX6_isClearOf_25 rfl (lv_at hl 1 rfl) ?_
      refine k_get (C := RX6) (T := TX6) (N := 10) (v := .ref (ad (16 + 3 * t))) hx hb hts hown E I iX6 (15 + 3 * t) (by omega) (r0 := σ (15 + 3 * t)) rfl (kc_S H_t) rfl 0 (by decide) (List.mem_of_getElem? (i := 2) rfl) rfl dX6_isClearOf_26 ?_
      refine k_get (C := RX0) (T := TX0) (N := 3) (v := .int (nI (N (23 + 13 * t)))) hx hb hts hown E I iX0 (16 + 3 * t) (by omega) (r0 := σ (16 + 3 * t)) rfl (kc_F H_t) rfl 0 (by decide) (List.mem_of_getElem? (i := 3) rfl) (congrArg (fun z => some (Value.int z)) (rB_f hB ht 0 (by decide))) dX6_isClearOf_29 ?_
      refine lv_isub hx hb dX6_isClearOf_32 ?_
      refine lv_imul hx hb dX6_isClearOf_33 ?_
      refine lv_istore_n (lv' := [(2, .int ((nI 10) * ((nI (N (23 + 13 * i))) - (nI (N (23 + 13 * t)))))), (0, .ref (ad (15 + 3 * i))), (1, .ref (ad (15 + 3 * t)))]) hx hb dX6_isClearOf_34 rfl hl (by decide) rfl (fun ls hl => ?_)
      refine lv_bipush (v := nI 10) hx hb dX6_isClearOf_35 (by decide) ?_
      refine lv_aload_n hx hb dX6_isClearOf_37 rfl (lv_at hl 1 rfl) ?_
      refine k_get (C := RX6) (T := TX6) (N := 10) (v := .ref (ad (16 + 3 * i))) hx hb hts hown E I iX6 (15 + 3 * i) (by omega) (r0 := σ (15 + 3 * i)) rfl (kc_S H_i) rfl 0 (by decide) (List.mem_of_getElem? (i := 2) rfl) rfl dX6_isClearOf_38 ?_
      refine k_get (C := RX0) (T := TX0) (N := 3) (v := .int (nI (N (23 + 13 * i + 1)))) hx hb hts hown E I iX0 (16 + 3 * i) (by omega) (r0 := σ (16 + 3 * i)) rfl (kc_F H_i) rfl 1 (by decide) (List.mem_of_getElem? (i := 4) rfl) (congrArg (fun z => some (Value.int z)) (rB_f hB hi 1 (by decide))) dX6_isClearOf_41 ?_
      refine lv_aload_n hx hb dX6_isClearOf_44 rfl (lv_at hl 2 rfl) ?_
      refine k_get (C := RX6) (T := TX6) (N := 10) (v := .ref (ad (16 + 3 * t))) hx hb hts hown E I iX6 (15 + 3 * t) (by omega) (r0 := σ (15 + 3 * t)) rfl (kc_S H_t) rfl 0 (by decide) (List.mem_of_getElem? (i := 2) rfl) rfl dX6_isClearOf_45 ?_
      refine k_get (C := RX0) (T := TX0) (N := 3) (v := .int (nI (N (23 + 13 * t + 1)))) hx hb hts hown E I iX0 (16 + 3 * t) (by omega) (r0 := σ (16 + 3 * t)) rfl (kc_F H_t) rfl 1 (by decide) (List.mem_of_getElem? (i := 4) rfl) (congrArg (fun z => some (Value.int z)) (rB_f hB ht 1 (by decide))) dX6_isClearOf_48 ?_
      refine lv_isub hx hb dX6_isClearOf_51 ?_
      refine lv_imul hx hb dX6_isClearOf_52 ?_
      refine lv_istore_n (lv' := [(3, .int ((nI 10) * ((nI (N (23 + 13 * i + 1))) - (nI (N (23 + 13 * t + 1)))))), (2, .int ((nI 10) * ((nI (N (23 + 13 * i))) - (nI (N (23 + 13 * t)))))), (0, .ref (ad (15 + 3 * i))), (1, .ref (ad (15 + 3 * t)))]) hx hb dX6_isClearOf_53 rfl hl (by decide) rfl (fun ls hl => ?_)
      refine lv_aload_n hx hb dX6_isClearOf_54 rfl (lv_at hl 2 rfl) ?_
      refine k_get (C := RX6) (T := TX6) (N := 10) (v := .int (nI a)) hx hb hts hown E I iX6 (15 + 3 * i) (by omega) (r0 := σ (15 + 3 * i)) rfl (kc_S H_i) rfl 9 (by decide) (List.mem_of_getElem? (i := 5) rfl) (congrArg (fun z => some (Value.int z)) ea) dX6_isClearOf_55 ?_
      refine lv_aload_n hx hb dX6_isClearOf_58 rfl (lv_at hl 3 rfl) ?_
      refine k_get (C := RX6) (T := TX6) (N := 10) (v := .int (nI x)) hx hb hts hown E I iX6 (15 + 3 * t) (by omega) (r0 := σ (15 + 3 * t)) rfl (kc_S H_t) rfl 9 (by decide) (List.mem_of_getElem? (i := 5) rfl) (congrArg (fun z => some (Value.int z)) ex) dX6_isClearOf_59 ?_
      refine lv_iadd hx hb dX6_isClearOf_62 ?_
      rw [nI_add]
      refine lv_istore (lv' := [(4, .int (nI (a + x))), (3, .int ((nI 10) * ((nI (N (23 + 13 * i + 1))) - (nI (N (23 + 13 * t + 1)))))), (2, .int ((nI 10) * ((nI (N (23 + 13 * i))) - (nI (N (23 + 13 * t)))))), (0, .ref (ad (15 + 3 * i))), (1, .ref (ad (15 + 3 * t)))]) hx hb dX6_isClearOf_63 hl (by decide) rfl (fun ls hl => ?_)
      refine lv_iload_n hx hb dX6_isClearOf_65 rfl (lv_at hl 2 rfl) ?_
      refine lv_iload_n hx hb dX6_isClearOf_66 rfl (lv_at hl 2 rfl) ?_
      refine lv_imul hx hb dX6_isClearOf_67 ?_
      refine lv_topi (fun t_68 et_68 => ?_)
      have et_68 : t_68 = nI (100 * (dd (N (23 + 13 * i)) (N (23 + 13 * t)) * dd (N (23 + 13 * i)) (N (23 + 13 * t)))) := et_68.trans (ksq_dd _ _)
      subst et_68
      refine lv_iload_n hx hb dX6_isClearOf_68 rfl (lv_at hl 1 rfl) ?_
      refine lv_iload_n hx hb dX6_isClearOf_69 rfl (lv_at hl 1 rfl) ?_
      refine lv_imul hx hb dX6_isClearOf_70 ?_
      refine lv_topi (fun t_71 et_71 => ?_)
      have et_71 : t_71 = nI (100 * (dd (N (23 + 13 * i + 1)) (N (23 + 13 * t + 1)) * dd (N (23 + 13 * i + 1)) (N (23 + 13 * t + 1)))) := et_71.trans (ksq_dd _ _)
      subst et_71
      refine lv_iadd hx hb dX6_isClearOf_71 ?_
      rw [nI_add]
      refine lv_iload hx hb dX6_isClearOf_72 (lv_at hl 0 rfl) ?_
      refine lv_iload hx hb dX6_isClearOf_74 (lv_at hl 0 rfl) ?_
      refine lv_imul hx hb dX6_isClearOf_76 ?_
      rw [pk_mul]
      refine lv_icmp_lt (tgt := 84) hx hb dX6_isClearOf_77 (by decide) (fun c_77 => ?_) (fun c_77 => ?_)
      · have c_77 : (((100 * (dd (N (23 + 13 * i)) (N (23 + 13 * t)) * dd (N (23 + 13 * i)) (N (23 + 13 * t))))) + ((100 * (dd (N (23 + 13 * i + 1)) (N (23 + 13 * t + 1)) * dd (N (23 + 13 * i + 1)) (N (23 + 13 * t + 1)))))) < ((a + x) * (a + x)) := (nI_ltI (by omega) (by omega)).mp c_77
        refine lv_iconst (v := nI 0) hx hb dX6_isClearOf_84 (by decide) ?_
        exact k_zret hx hb hr (by decide) hlk I dX6_isClearOf_85 (⟨by first | exact kT_1 (by unfold pClr pFar; simp; omega) | exact kT_0 (by unfold pClr pFar; simp; omega), rfl⟩)
      · have c_77 : ¬ ((((100 * (dd (N (23 + 13 * i)) (N (23 + 13 * t)) * dd (N (23 + 13 * i)) (N (23 + 13 * t))))) + ((100 * (dd (N (23 + 13 * i + 1)) (N (23 + 13 * t + 1)) * dd (N (23 + 13 * i + 1)) (N (23 + 13 * t + 1)))))) < ((a + x) * (a + x))) := fun q_ => c_77 ((nI_ltI (by omega) (by omega)).mpr q_)
        refine lv_iconst (v := nI 1) hx hb dX6_isClearOf_80 (by decide) ?_
        refine lv_goto (tgt := 85) hx hb dX6_isClearOf_81 (by decide) ?_
        exact k_zret hx hb hr (by decide) hlk I dX6_isClearOf_85 (⟨by first | exact kT_1 (by unfold pClr pFar; simp; omega) | exact kT_0 (by unfold pClr pFar; simp; omega), rfl⟩)
    · have c_11 : ¬ ((N (23 + 13 * t + 7)) = 0) := fun q_ => c_11 ((nI_eq (by omega) (by decide)).mpr q_)
      refine lv_iconst (v := nI 1) hx hb dX6_isClearOf_14 (by decide) ?_
      exact k_zret hx hb hr (by decide) hlk I dX6_isClearOf_15 (⟨kT_1 (by unfold pClr; simp; omega), rfl⟩)
set_option maxHeartbeats 4000000 in
set_option maxRecDepth 100000 in
theorem c_X1_isClearOfAll (cy : Nat → ClassId) (D : va_G) (ad : Nat → Nat) (l : Launch) (σ : Nat → Nat → Int32) (N : Nat → Nat) (hN : nOk N) (i : Nat) (hi : i < N 1) (hB : rBay σ N) (n b : Nat) (hn : n ≤ 60) (hb20 : b ≤ 20) (hsw : ∀ t, t < N 1 → t ≠ i → σ (15 + 3 * t) 9 = nI (pS N b t)) : kMi 38 ad (kcC cy ad) cy D l yX1_isClearOfAll wsX1_isClearOfAll ({ frames := 5, cells := 0, slots := 0, locals := 114 }) [.ref (ad 11), .ref (ad (15 + 3 * i)), .int (nI n), .int (nI b)] σ (fun r σ' => kT r (∀ t, t < N 1 → t ≠ i → pClr N i t (pSw N i n b) (pS N b t) = true) ∧ qc σ σ' ∧ ∀ u, u ≠ i → σ' (15 + 3 * u) 9 = σ (15 + 3 * u) 9) := by
  have H_i : i < 5 := by have := hN.1; omega
  have hsh := hN.2.2 i hi
  unfold nSh at hsh
  have h5 := hN.1
  refine k_entry (cc := cX1_isClearOfAll) (maxL := 5) (ret := (some .boolean)) (by decide) rfl (Nat.le_of_ble_eq_true rfl) ?_
  intro p e s m below meth c hx hb hr hml hown hts hlk E I ls hl
  have hA : ∀ q, s.heap.size ≤ q → kA 38 ad s.heap.size q := fun q h => Or.inr h
  have hown : s.vm.findClass RX1 = some m.cls := hown
  have hl : lv_has ls 5 [(0, .ref (ad 11)), (1, .ref (ad (15 + 3 * i))), (2, .int (nI n)), (3, .int (nI b))] := hl
  have iX1 : ∀ w ∈ u_ws RX1 TX1 6, w ∈ wsX1_isClearOfAll := fun w h => List.mem_cons_of_mem _ (List.mem_append_left _ (List.mem_append_left _ (List.mem_append_left _ (List.mem_append_right _ h))))
  refine lv_aload_n hx hb dX1_isClearOfAll_0 rfl (lv_at hl 0 rfl) ?_
  refine lv_aload_n hx hb dX1_isClearOfAll_1 rfl (lv_at hl 1 rfl) ?_
  refine lv_iload_n hx hb dX1_isClearOfAll_2 rfl (lv_at hl 2 rfl) ?_
  refine lv_iload_n hx hb dX1_isClearOfAll_3 rfl (lv_at hl 3 rfl) ?_
  refine k_callv (k := 11) (As := [.ref (ad (15 + 3 * i)), .int (nI n), .int (nI b)]) (rest := []) ⟨hx, hb, hml, hown, hts⟩ (c_X1_measureSwing cy D ad l σ N hN i hi hB n b hn hb20) (cwV 3 hts gX1_isClearOfAll_X1_measureSwing rfl rfl rfl (by decide +kernel) ⟨Nat.le_of_ble_eq_true rfl, Nat.le_of_ble_eq_true rfl⟩) E hA I (k_recv E I (by decide) kc_11 rfl) rfl hl.1 rfl (lv_room (Nat.le_of_ble_eq_true rfl)) dX1_isClearOfAll_4 ⟨Nat.le_of_ble_eq_true rfl, Nat.le_of_ble_eq_true rfl⟩ (fun σ_4 H locs hp_4 I => ?_)
  obtain ⟨υ, hq1, hs1⟩ := hp_4
  have hw := sw_set H_i hq1 hs1
  have hB := rBay_qc h5.2.2.2.1 hB hw.1
  refine lv_iconst (v := nI 0) hx hb dX1_isClearOfAll_7 (by decide) ?_
  refine lv_istore (lv' := [(4, .int (nI 0)), (0, .ref (ad 11)), (1, .ref (ad (15 + 3 * i))), (2, .int (nI n)), (3, .int (nI b))]) hx hb dX1_isClearOfAll_8 hl (by decide) rfl (fun ls hl => ?_)
  have LP_10 : ∀ (fuel_10 : Nat) (t : Nat), N 1 - t < fuel_10 → (t ≤ N 1) → (∀ u, u < t → u ≠ i → pClr N i u (pSw N i n b) (pS N b u) = true) → ∀ (H : Heap) (locs : List Loc), kI 38 ad (kcC cy ad) D (kA 38 ad s.heap.size) s.heap σ_4 H locs → ∀ ls : Array Slot, lv_has ls 5 [(0, .ref (ad 11)), (1, .ref (ad (15 + 3 * i))), (2, .int (nI n)), (3, .int (nI b)), (4, .int (nI t))] → W p l e (headSpec wsX1_isClearOfAll ({ frames := 5, cells := 0, slots := 0, locals := 114 })).room s m [.ref (ad 11), .ref (ad (15 + 3 * i)), .int (nI n), .int (nI b)].toArray below meth c H locs 0 0 (MQ below (va_Qi (fun r σ' => kT r (∀ t, t < N 1 → t ≠ i → pClr N i t (pSw N i n b) (pS N b t) = true) ∧ qc σ σ' ∧ ∀ u, u ≠ i → σ' (15 + 3 * u) 9 = σ (15 + 3 * u) 9) (kB 38 ad (kcC cy ad) D) (kA 38 ad s.heap.size)) [.ref (ad 11), .ref (ad (15 + 3 * i)), .int (nI n), .int (nI b)].toArray s 0 0 (kA 38 ad s.heap.size)) (F0 m 10 ls []) := by
    intro fuel_10
    induction fuel_10 with
    | zero => intro t hf_10; exact absurd hf_10 (Nat.not_lt_zero _)
    | succ fuel_10 ih_10 =>
      intro t hf_10 htn hcl H locs I ls hl
      refine lv_iload hx hb dX1_isClearOfAll_10 (lv_at hl 4 rfl) ?_
      refine lv_aload_n hx hb dX1_isClearOfAll_12 rfl (lv_at hl 0 rfl) ?_
      refine k_get (C := RX1) (T := TX1) (N := 6) (v := .int (nI (N 1))) hx hb hts hown E I iX1 (11) (by decide) (r0 := σ_4 11) rfl kc_11 rfl 4 (by decide) (List.mem_of_getElem? (i := 1) rfl) (congrArg (fun z => some (Value.int z)) hB.1.2.1) dX1_isClearOfAll_13 ?_
      refine lv_icmp_ge (tgt := 52) hx hb dX1_isClearOfAll_16 (by decide) (fun c_16 => ?_) (fun c_16 => ?_)
      · have c_16 : (N 1) ≤ t := (nI_leI (by omega) (by omega)).mp c_16
        refine lv_iconst (v := nI 1) hx hb dX1_isClearOfAll_52 (by decide) ?_
        exact k_zret hx hb hr (by decide) hlk I dX1_isClearOfAll_53 (⟨kT_1 (fun u hu hui => hcl u (by omega) hui), hw.1, hw.2.2⟩)
      · have c_16 : ¬ ((N 1) ≤ t) := fun q_ => c_16 ((nI_leI (by omega) (by omega)).mpr q_)
        have ht : t < N 1 := by omega
        have H_t : t < 5 := by omega
        have hst := hN.2.2 t ht
        unfold nSh at hst
        refine lv_aload_n hx hb dX1_isClearOfAll_19 rfl (lv_at hl 0 rfl) ?_
        refine k_get (C := RX1) (T := TX1) (N := 6) (v := .ref (ad 13)) hx hb hts hown E I iX1 (11) (by decide) (r0 := σ_4 11) rfl kc_11 rfl 1 (by decide) (List.mem_of_getElem? (i := 2) rfl) rfl dX1_isClearOfAll_20 ?_
        refine lv_iload hx hb dX1_isClearOfAll_23 (lv_at hl 4 rfl) ?_
        refine k_aldS (a := ad (15 + 3 * t)) hx hb E I (13) (by decide) kc_13 (vp_in_nI (by omega) (by decide)) (by rw [nI_clamp (by omega)]; exact if_pos (by omega)) dX1_isClearOfAll_25 ?_
        refine lv_aload_n hx hb dX1_isClearOfAll_26 rfl (lv_at hl 1 rfl) ?_
        refine lv_acmp_eq (rx := some (ad (15 + 3 * t))) (ry := some (ad (15 + 3 * i))) (tgt := 46) hx hb dX1_isClearOfAll_27 (by decide) (fun c_27 => ?_) (fun c_27 => ?_)
        · have hti : t = i := by have := k_inj I (show 15 + 3 * t < 38 by omega) (show 15 + 3 * i < 38 by omega) (Option.some.inj c_27); omega
          have hcl2 : ∀ u, u < t + 1 → u ≠ i → pClr N i u (pSw N i n b) (pS N b u) = true := fun u hu hui => hcl u (by omega) hui
          have hcl2 : ∀ u, u < t + 1 → u ≠ i → pClr N i u (pSw N i n b) (pS N b u) = true := fun u hu hui => by by_cases e_ : u = t; (first | (rw [e_]; exact g1) | (exact absurd (e_.trans hti) hui)); exact hcl u (by omega) hui
          refine lv_iinc (v := nI (t + 1)) (lv' := [(4, .int (nI (t + 1))), (0, .ref (ad 11)), (1, .ref (ad (15 + 3 * i))), (2, .int (nI n)), (3, .int (nI b))]) hx hb dX1_isClearOfAll_46 hl (k := 4) rfl (show nI t + Int32.ofInt 1 = nI (t + 1) from nI_add t 1) (by decide) rfl (fun ls hl => ?_)
          refine lv_goto (tgt := 10) hx hb dX1_isClearOfAll_49 (by decide) ?_
          exact ih_10 (t + 1) (by omega) (by omega) (hcl2) _ _ I _ (lv_sub hl [1, 2, 3, 4, 0] rfl)
        · have hti : t ≠ i := fun q => c_27 (by rw [q])
          refine lv_aload_n hx hb dX1_isClearOfAll_30 rfl (lv_at hl 1 rfl) ?_
          refine lv_aload_n hx hb dX1_isClearOfAll_31 rfl (lv_at hl 0 rfl) ?_
          refine k_get (C := RX1) (T := TX1) (N := 6) (v := .ref (ad 13)) hx hb hts hown E I iX1 (11) (by decide) (r0 := σ_4 11) rfl kc_11 rfl 1 (by decide) (List.mem_of_getElem? (i := 2) rfl) rfl dX1_isClearOfAll_32 ?_
          refine lv_iload hx hb dX1_isClearOfAll_35 (lv_at hl 4 rfl) ?_
          refine k_aldS (a := ad (15 + 3 * t)) hx hb E I (13) (by decide) kc_13 (vp_in_nI (by omega) (by decide)) (by rw [nI_clamp (by omega)]; exact if_pos (by omega)) dX1_isClearOfAll_37 ?_
          refine k_calli (k := 15 + 3 * i) (As := [.ref (ad (15 + 3 * t))]) (rest := []) ⟨hx, hb, hml, hown, hts⟩ (c_X6_isClearOf cy D ad l σ_4 N hN i hi t ht hB (pSw N i n b) (pS N b t) (pSw_le hsh.2.1.2.2.2 hn) (pSw_le hst.2.1.2.2.2 hst.1.2.2.2) hw.2.1 ((hw.2.2 t hti).trans (hsw t ht hti))) (cwV 1 hts gX1_isClearOfAll_X6_isClearOf rfl rfl rfl (by decide +kernel) ⟨Nat.le_of_ble_eq_true rfl, Nat.le_of_ble_eq_true rfl⟩) E hA I (k_recv E I (by omega) (kc_S H_i) rfl) rfl hl.1 rfl (lv_room (Nat.le_of_ble_eq_true rfl)) dX1_isClearOfAll_38 ⟨Nat.le_of_ble_eq_true rfl, Nat.le_of_ble_eq_true rfl⟩ (fun r_38 σ_38 H locs hp_38 I => ?_)
          obtain ⟨hk_, rfl⟩ := hp_38
          rcases hk_ with ⟨rfl, g1⟩ | ⟨rfl, g1⟩
          · refine lv_if_ne (tgt := 46) hx hb dX1_isClearOfAll_41 (by decide) (fun c_41 => ?_) (fun c_41 => ?_)
            · have hcl2 : ∀ u, u < t + 1 → u ≠ i → pClr N i u (pSw N i n b) (pS N b u) = true := fun u hu hui => by by_cases e_ : u = t; (first | (rw [e_]; exact g1) | (exact absurd (e_.trans hti) hui)); exact hcl u (by omega) hui
              refine lv_iinc (v := nI (t + 1)) (lv' := [(4, .int (nI (t + 1))), (0, .ref (ad 11)), (1, .ref (ad (15 + 3 * i))), (2, .int (nI n)), (3, .int (nI b))]) hx hb dX1_isClearOfAll_46 hl (k := 4) rfl (show nI t + Int32.ofInt 1 = nI (t + 1) from nI_add t 1) (by decide) rfl (fun ls hl => ?_)
              refine lv_goto (tgt := 10) hx hb dX1_isClearOfAll_49 (by decide) ?_
              exact ih_10 (t + 1) (by omega) (by omega) (hcl2) _ _ I _ (lv_sub hl [1, 2, 3, 4, 0] rfl)
            · exact absurd c_41 (by decide)
          · refine lv_if_ne (tgt := 46) hx hb dX1_isClearOfAll_41 (by decide) (fun c_41 => ?_) (fun c_41 => ?_)
            · exact absurd c_41 (by decide)
            · refine lv_iconst (v := nI 0) hx hb dX1_isClearOfAll_44 (by decide) ?_
              exact k_zret hx hb hr (by decide) hlk I dX1_isClearOfAll_45 (⟨kT_0 (fun q => g1 (q t ht hti)), hw.1, hw.2.2⟩)
  exact LP_10 _ 0 (Nat.lt_succ_self _) (Nat.zero_le _) (fun u hu => absurd hu (Nat.not_lt_zero u)) _ _ I _ (lv_sub hl [1, 2, 3, 4, 0] rfl)

/-! THE BAY: one ship -/
set_option maxHeartbeats 4000000 in
set_option maxRecDepth 100000 in
theorem c_X1_depthAt (cy : Nat → ClassId) (D : va_G) (ad : Nat → Nat) (l : Launch) (σ : Nat → Nat → Int32) (x : Nat) (hx9 : x < 20) : kMi 38 ad (kcC cy ad) cy D l yX1_depthAt wsX1_depthAt ({ frames := 0, cells := 0, slots := 0, locals := 0 }) [.ref (ad 11), .int (nI x)] σ (fun r σ' => r = σ 12 x ∧ σ = σ') := by
  refine k_entry (cc := cX1_depthAt) (maxL := 2) (ret := (some .int)) (by decide) rfl (Nat.le_of_ble_eq_true rfl) ?_
  intro p e s m below meth c hx hb hr hml hown hts hlk E I ls hl
  have hA : ∀ q, s.heap.size ≤ q → kA 38 ad s.heap.size q := fun q h => Or.inr h
  have hown : s.vm.findClass RX1 = some m.cls := hown
  have hl : lv_has ls 2 [(0, .ref (ad 11)), (1, .int (nI x))] := hl
  have iX1 : ∀ w ∈ u_ws RX1 TX1 6, w ∈ wsX1_depthAt := fun w h => List.mem_cons_of_mem _ (List.mem_append_right _ h)
  refine lv_iload_n hx hb dX1_depthAt_0 rfl (lv_at hl 1 rfl) ?_
  refine lv_if_lt (tgt := 22) hx hb dX1_depthAt_1 (by decide) (fun c_1 => ?_) (fun c_1 => ?_)
  · have c_1 : x < 0 := (nI_ltI (by omega) (by decide)).mp c_1
    exact absurd c_1 (Nat.not_lt_zero _)
  · have c_1 : ¬ (x < 0) := fun q_ => c_1 ((nI_ltI (by omega) (by decide)).mpr q_)
    refine lv_iload_n hx hb dX1_depthAt_4 rfl (lv_at hl 1 rfl) ?_
    refine lv_aload_n hx hb dX1_depthAt_5 rfl (lv_at hl 0 rfl) ?_
    refine k_get (C := RX1) (T := TX1) (N := 6) (v := .ref (ad 12)) hx hb hts hown E I iX1 (11) (by decide) (r0 := σ 11) rfl kc_11 rfl 0 (by decide) (List.mem_of_getElem? (i := 1) rfl) rfl dX1_depthAt_6 ?_
    refine k_alen (t0 := 1) hx hb E I (12) (by decide) kc_12 rfl dX1_depthAt_9 ?_
    refine lv_icmp_ge (tgt := 22) hx hb dX1_depthAt_10 (by decide) (fun c_10 => ?_) (fun c_10 => ?_)
    · have c_10 : 20 ≤ x := (nI_leI (by omega) (by omega)).mp c_10
      omega
    · have c_10 : ¬ (20 ≤ x) := fun q_ => c_10 ((nI_leI (by omega) (by omega)).mpr q_)
      refine lv_aload_n hx hb dX1_depthAt_13 rfl (lv_at hl 0 rfl) ?_
      refine k_get (C := RX1) (T := TX1) (N := 6) (v := .ref (ad 12)) hx hb hts hown E I iX1 (11) (by decide) (r0 := σ 11) rfl kc_11 rfl 0 (by decide) (List.mem_of_getElem? (i := 1) rfl) rfl dX1_depthAt_14 ?_
      refine lv_iload_n hx hb dX1_depthAt_17 rfl (lv_at hl 1 rfl) ?_
      refine k_iald hx hb E I (12) (by decide) (r0 := σ 12) rfl kc_12 (vp_in_nI (by omega) (by decide)) dX1_depthAt_18 ?_
      rw [nI_clamp (by omega)]
      refine lv_goto (tgt := 23) hx hb dX1_depthAt_19 (by decide) ?_
      exact k_iret hx hb hr hlk I dX1_depthAt_23 (⟨rfl, rfl⟩)
set_option maxHeartbeats 4000000 in
set_option maxRecDepth 100000 in
theorem c_X1_chainOf (cy : Nat → ClassId) (D : va_G) (ad : Nat → Nat) (l : Launch) (σ : Nat → Nat → Int32) (i w x dd n h : Nat) (H_i : i < 5) (hx9 : x < 20) (hd9 : dd ≤ 20) (ew : σ (15 + 3 * i) 5 = nI w) (ex : σ (16 + 3 * i) 0 = nI x) (ed : σ 12 x = nI dd) : kMq 38 ad (kcC cy ad) cy D l yX1_chainOf wsX1_chainOf ({ frames := 1, cells := 0, slots := 0, locals := 24 }) [.ref (ad 11), .ref (ad (15 + 3 * i)), .ref (ad (16 + 3 * i)), .int (nI n), .int (nI h)] σ (fun r σ' => r = some (ad 14) ∧ σ' = va_up σ 14 (upd (upd (upd (upd (σ 14) 5 (nI h)) 6 (nI w)) 7 (nI n)) 8 (nI (10 * dd)))) := by
  refine k_entry (cc := cX1_chainOf) (maxL := 5) (ret := (some (.object "ChainLays$Chain"))) (by decide) rfl (Nat.le_of_ble_eq_true rfl) ?_
  intro p e s m below meth c hx hb hr hml hown hts hlk E I ls hl
  have hA : ∀ q, s.heap.size ≤ q → kA 38 ad s.heap.size q := fun q h => Or.inr h
  have hown : s.vm.findClass RX1 = some m.cls := hown
  have hl : lv_has ls 5 [(0, .ref (ad 11)), (1, .ref (ad (15 + 3 * i))), (2, .ref (ad (16 + 3 * i))), (3, .int (nI n)), (4, .int (nI h))] := hl
  have iX0 : ∀ w ∈ u_ws RX0 TX0 3, w ∈ wsX1_chainOf := fun w h => List.mem_cons_of_mem _ (List.mem_append_left _ (List.mem_append_right _ h))
  have iX1 : ∀ w ∈ u_ws RX1 TX1 6, w ∈ wsX1_chainOf := fun w h => List.mem_cons_of_mem _ (List.mem_append_left _ (List.mem_append_left _ (List.mem_append_left _ (List.mem_append_right _ h))))
  have iX6 : ∀ w ∈ u_ws RX6 TX6 10, w ∈ wsX1_chainOf := fun w h => List.mem_cons_of_mem _ (List.mem_append_left _ (List.mem_append_left _ (List.mem_append_right _ h)))
  refine lv_aload_n hx hb dX1_chainOf_0 rfl (lv_at hl 0 rfl) ?_
  refine k_get (C := RX1) (T := TX1) (N := 6) (v := .ref (ad 14)) hx hb hts hown E I iX1 (11) (by decide) (r0 := σ 11) rfl kc_11 rfl 2 (by decide) (List.mem_of_getElem? (i := 1) rfl) rfl dX1_chainOf_1 ?_
  refine lv_iload hx hb dX1_chainOf_4 (lv_at hl 4 rfl) ?_
  refine lv_aload_n hx hb dX1_chainOf_6 rfl (lv_at hl 1 rfl) ?_
  refine k_get (C := RX6) (T := TX6) (N := 10) (v := .int (nI w)) hx hb hts hown E I iX6 (15 + 3 * i) (by omega) (r0 := σ (15 + 3 * i)) rfl (kc_S H_i) rfl 5 (by decide) (List.mem_of_getElem? (i := 2) rfl) (congrArg (fun z => some (Value.int z)) ew) dX1_chainOf_7 ?_
  refine lv_iload_n hx hb dX1_chainOf_10 rfl (lv_at hl 3 rfl) ?_
  refine lv_bipush (v := nI 10) hx hb dX1_chainOf_11 (by decide) ?_
  refine lv_aload_n hx hb dX1_chainOf_13 rfl (lv_at hl 0 rfl) ?_
  refine lv_aload_n hx hb dX1_chainOf_14 rfl (lv_at hl 2 rfl) ?_
  refine k_get (C := RX0) (T := TX0) (N := 3) (v := .int (nI x)) hx hb hts hown E I iX0 (16 + 3 * i) (by omega) (r0 := σ (16 + 3 * i)) rfl (kc_F H_i) rfl 0 (by decide) (List.mem_of_getElem? (i := 3) rfl) (congrArg (fun z => some (Value.int z)) ex) dX1_chainOf_15 ?_
  refine k_calli (k := 11) (As := [.int (nI x)]) (rest := [.int (nI 10), .int (nI n), .int (nI w), .int (nI h), .ref (ad 14)]) ⟨hx, hb, hml, hown, hts⟩ (c_X1_depthAt cy D ad l σ x hx9) (cwV 1 hts gX1_chainOf_X1_depthAt rfl rfl rfl (by decide +kernel) ⟨Nat.le_of_ble_eq_true rfl, Nat.le_of_ble_eq_true rfl⟩) E hA I (k_recv E I (by decide) kc_11 rfl) rfl hl.1 rfl (lv_room (Nat.le_of_ble_eq_true rfl)) dX1_chainOf_18 ⟨Nat.le_of_ble_eq_true rfl, Nat.le_of_ble_eq_true rfl⟩ (fun r_18 σ_18 H locs hp_18 I => ?_)
  obtain ⟨rfl, rfl⟩ := hp_18
  rw [ed]
  refine lv_imul hx hb dX1_chainOf_21 ?_
  rw [pk_mul]
  refine k_callv (k := 14) (As := [.int (nI h), .int (nI w), .int (nI n), .int (nI (10 * dd))]) (rest := []) ⟨hx, hb, hml, hown, hts⟩ (c_X2_take cy D ad l σ (nI h) (nI w) (nI n) (nI (10 * dd))) (cwV 4 hts gX1_chainOf_X2_take rfl rfl rfl (by decide +kernel) ⟨Nat.le_of_ble_eq_true rfl, Nat.le_of_ble_eq_true rfl⟩) E hA I (k_recv E I (by decide) kc_14 rfl) rfl hl.1 rfl (lv_room (Nat.le_of_ble_eq_true rfl)) dX1_chainOf_22 ⟨Nat.le_of_ble_eq_true rfl, Nat.le_of_ble_eq_true rfl⟩ (fun σ_22 H locs hp_22 I => ?_)
  subst hp_22
  refine lv_aload_n hx hb dX1_chainOf_25 rfl (lv_at hl 0 rfl) ?_
  refine k_get (C := RX1) (T := TX1) (N := 6) (v := .ref (ad 14)) hx hb hts hown E I iX1 (11) (by decide) (r0 := (va_up σ 14 (upd (upd (upd (upd (σ 14) 5 (nI h)) 6 (nI w)) 7 (nI n)) 8 (nI (10 * dd)))) 11) rfl kc_11 rfl 2 (by decide) (List.mem_of_getElem? (i := 1) rfl) rfl dX1_chainOf_26 ?_
  exact k_aret hx hb hr (Or.inl ⟨_, rfl⟩) hlk I dX1_chainOf_29 (⟨rfl, rfl⟩)
set_option maxHeartbeats 4000000 in
set_option maxRecDepth 100000 in
theorem c_X1_chainOf2 (cy : Nat → ClassId) (D : va_G) (ad : Nat → Nat) (l : Launch) (σ : Nat → Nat → Int32) (i w x dd n h : Nat) (H_i : i < 5) (hx9 : x < 20) (hd9 : dd ≤ 20) (ew : σ (15 + 3 * i) 5 = nI w) (ex : σ (17 + 3 * i) 0 = nI x) (ed : σ 12 x = nI dd) : kMq 38 ad (kcC cy ad) cy D l yX1_chainOf wsX1_chainOf ({ frames := 1, cells := 0, slots := 0, locals := 24 }) [.ref (ad 11), .ref (ad (15 + 3 * i)), .ref (ad (17 + 3 * i)), .int (nI n), .int (nI h)] σ (fun r σ' => r = some (ad 14) ∧ σ' = va_up σ 14 (upd (upd (upd (upd (σ 14) 5 (nI h)) 6 (nI w)) 7 (nI n)) 8 (nI (10 * dd)))) := by
  refine k_entry (cc := cX1_chainOf) (maxL := 5) (ret := (some (.object "ChainLays$Chain"))) (by decide) rfl (Nat.le_of_ble_eq_true rfl) ?_
  intro p e s m below meth c hx hb hr hml hown hts hlk E I ls hl
  have hA : ∀ q, s.heap.size ≤ q → kA 38 ad s.heap.size q := fun q h => Or.inr h
  have hown : s.vm.findClass RX1 = some m.cls := hown
  have hl : lv_has ls 5 [(0, .ref (ad 11)), (1, .ref (ad (15 + 3 * i))), (2, .ref (ad (17 + 3 * i))), (3, .int (nI n)), (4, .int (nI h))] := hl
  have iX0 : ∀ w ∈ u_ws RX0 TX0 3, w ∈ wsX1_chainOf := fun w h => List.mem_cons_of_mem _ (List.mem_append_left _ (List.mem_append_right _ h))
  have iX1 : ∀ w ∈ u_ws RX1 TX1 6, w ∈ wsX1_chainOf := fun w h => List.mem_cons_of_mem _ (List.mem_append_left _ (List.mem_append_left _ (List.mem_append_left _ (List.mem_append_right _ h))))
  have iX6 : ∀ w ∈ u_ws RX6 TX6 10, w ∈ wsX1_chainOf := fun w h => List.mem_cons_of_mem _ (List.mem_append_left _ (List.mem_append_left _ (List.mem_append_right _ h)))
  refine lv_aload_n hx hb dX1_chainOf_0 rfl (lv_at hl 0 rfl) ?_
  refine k_get (C := RX1) (T := TX1) (N := 6) (v := .ref (ad 14)) hx hb hts hown E I iX1 (11) (by decide) (r0 := σ 11) rfl kc_11 rfl 2 (by decide) (List.mem_of_getElem? (i := 1) rfl) rfl dX1_chainOf_1 ?_
  refine lv_iload hx hb dX1_chainOf_4 (lv_at hl 4 rfl) ?_
  refine lv_aload_n hx hb dX1_chainOf_6 rfl (lv_at hl 1 rfl) ?_
  refine k_get (C := RX6) (T := TX6) (N := 10) (v := .int (nI w)) hx hb hts hown E I iX6 (15 + 3 * i) (by omega) (r0 := σ (15 + 3 * i)) rfl (kc_S H_i) rfl 5 (by decide) (List.mem_of_getElem? (i := 2) rfl) (congrArg (fun z => some (Value.int z)) ew) dX1_chainOf_7 ?_
  refine lv_iload_n hx hb dX1_chainOf_10 rfl (lv_at hl 3 rfl) ?_
  refine lv_bipush (v := nI 10) hx hb dX1_chainOf_11 (by decide) ?_
  refine lv_aload_n hx hb dX1_chainOf_13 rfl (lv_at hl 0 rfl) ?_
  refine lv_aload_n hx hb dX1_chainOf_14 rfl (lv_at hl 2 rfl) ?_
  refine k_get (C := RX0) (T := TX0) (N := 3) (v := .int (nI x)) hx hb hts hown E I iX0 (17 + 3 * i) (by omega) (r0 := σ (17 + 3 * i)) rfl (kc_G H_i) rfl 0 (by decide) (List.mem_of_getElem? (i := 3) rfl) (congrArg (fun z => some (Value.int z)) ex) dX1_chainOf_15 ?_
  refine k_calli (k := 11) (As := [.int (nI x)]) (rest := [.int (nI 10), .int (nI n), .int (nI w), .int (nI h), .ref (ad 14)]) ⟨hx, hb, hml, hown, hts⟩ (c_X1_depthAt cy D ad l σ x hx9) (cwV 1 hts gX1_chainOf_X1_depthAt rfl rfl rfl (by decide +kernel) ⟨Nat.le_of_ble_eq_true rfl, Nat.le_of_ble_eq_true rfl⟩) E hA I (k_recv E I (by decide) kc_11 rfl) rfl hl.1 rfl (lv_room (Nat.le_of_ble_eq_true rfl)) dX1_chainOf_18 ⟨Nat.le_of_ble_eq_true rfl, Nat.le_of_ble_eq_true rfl⟩ (fun r_18 σ_18 H locs hp_18 I => ?_)
  obtain ⟨rfl, rfl⟩ := hp_18
  rw [ed]
  refine lv_imul hx hb dX1_chainOf_21 ?_
  rw [pk_mul]
  refine k_callv (k := 14) (As := [.int (nI h), .int (nI w), .int (nI n), .int (nI (10 * dd))]) (rest := []) ⟨hx, hb, hml, hown, hts⟩ (c_X2_take cy D ad l σ (nI h) (nI w) (nI n) (nI (10 * dd))) (cwV 4 hts gX1_chainOf_X2_take rfl rfl rfl (by decide +kernel) ⟨Nat.le_of_ble_eq_true rfl, Nat.le_of_ble_eq_true rfl⟩) E hA I (k_recv E I (by decide) kc_14 rfl) rfl hl.1 rfl (lv_room (Nat.le_of_ble_eq_true rfl)) dX1_chainOf_22 ⟨Nat.le_of_ble_eq_true rfl, Nat.le_of_ble_eq_true rfl⟩ (fun σ_22 H locs hp_22 I => ?_)
  subst hp_22
  refine lv_aload_n hx hb dX1_chainOf_25 rfl (lv_at hl 0 rfl) ?_
  refine k_get (C := RX1) (T := TX1) (N := 6) (v := .ref (ad 14)) hx hb hts hown E I iX1 (11) (by decide) (r0 := (va_up σ 14 (upd (upd (upd (upd (σ 14) 5 (nI h)) 6 (nI w)) 7 (nI n)) 8 (nI (10 * dd)))) 11) rfl kc_11 rfl 2 (by decide) (List.mem_of_getElem? (i := 1) rfl) rfl dX1_chainOf_26 ?_
  exact k_aret hx hb hr (Or.inl ⟨_, rfl⟩) hlk I dX1_chainOf_29 (⟨rfl, rfl⟩)
set_option maxHeartbeats 4000000 in
set_option maxRecDepth 100000 in
theorem c_X6_pullBy (cy : Nat → ClassId) (D : va_G) (ad : Nat → Nat) (l : Launch) (σ : Nat → Nat → Int32) (i a b : Nat) (H_i : i < 5) (ha : a ≤ 9) (hb20 : b ≤ 20) (ea : σ (15 + 3 * i) 7 = nI a) : kMi 38 ad (kcC cy ad) cy D l yX6_pullBy wsX6_pullBy ({ frames := 0, cells := 0, slots := 0, locals := 0 }) [.ref (ad (15 + 3 * i)), .int (nI b)] σ (fun r σ' => r = nI (b * b * a / 4) ∧ σ = σ') := by
  have hbb : b * b ≤ 20 * 20 := sq_mono hb20
  have hba : b * b * a ≤ 400 * 9 := Nat.mul_le_mul hbb ha
  refine k_entry (cc := cX6_pullBy) (maxL := 2) (ret := (some .int)) (by decide) rfl (Nat.le_of_ble_eq_true rfl) ?_
  intro p e s m below meth c hx hb hr hml hown hts hlk E I ls hl
  have hA : ∀ q, s.heap.size ≤ q → kA 38 ad s.heap.size q := fun q h => Or.inr h
  have hown : s.vm.findClass RX6 = some m.cls := hown
  have hl : lv_has ls 2 [(0, .ref (ad (15 + 3 * i))), (1, .int (nI b))] := hl
  have iX6 : ∀ w ∈ u_ws RX6 TX6 10, w ∈ wsX6_pullBy := fun w h => List.mem_cons_of_mem _ (List.mem_append_right _ h)
  refine lv_iload_n hx hb dX6_pullBy_0 rfl (lv_at hl 1 rfl) ?_
  refine lv_iload_n hx hb dX6_pullBy_1 rfl (lv_at hl 1 rfl) ?_
  refine lv_imul hx hb dX6_pullBy_2 ?_
  rw [pk_mul]
  refine lv_aload_n hx hb dX6_pullBy_3 rfl (lv_at hl 0 rfl) ?_
  refine k_get (C := RX6) (T := TX6) (N := 10) (v := .int (nI a)) hx hb hts hown E I iX6 (15 + 3 * i) (by omega) (r0 := σ (15 + 3 * i)) rfl (kc_S H_i) rfl 7 (by decide) (List.mem_of_getElem? (i := 1) rfl) (congrArg (fun z => some (Value.int z)) ea) dX6_pullBy_4 ?_
  refine lv_imul hx hb dX6_pullBy_7 ?_
  rw [pk_mul]
  refine lv_iconst (v := nI 4) hx hb dX6_pullBy_8 (by decide) ?_
  refine lv_idiv hx hb dX6_pullBy_9 (by decide) ?_
  exact k_iret hx hb hr hlk I dX6_pullBy_10 (⟨pk_div (by omega) (by decide) (by decide), rfl⟩)
set_option maxHeartbeats 4000000 in
set_option maxRecDepth 100000 in
theorem c_X6_anchorAt (cy : Nat → ClassId) (D : va_G) (ad : Nat → Nat) (l : Launch) (σ : Nat → Nat → Int32) (i mo : Nat) (H_i : i < 5) (hmo : mo ≤ 1) (em : σ (15 + 3 * i) 2 = nI mo) (w : Nat) (hw : w ≤ 1) : kMq 38 ad (kcC cy ad) cy D l yX6_anchorAt wsX6_anchorAt ({ frames := 0, cells := 0, slots := 0, locals := 0 }) [.ref (ad (15 + 3 * i)), .int (nI w)] σ (fun r σ' => σ = σ' ∧ ((w = 0 ∧ r = some (ad (16 + 3 * i))) ∨ (w = 1 ∧ mo = 1 ∧ r = some (ad (17 + 3 * i))) ∨ (w = 1 ∧ mo = 0 ∧ r = none))) := by
  refine k_entry (cc := cX6_anchorAt) (maxL := 2) (ret := (some (.object "ChainLays$Anchor"))) (by decide) rfl (Nat.le_of_ble_eq_true rfl) ?_
  intro p e s m below meth c hx hb hr hml hown hts hlk E I ls hl
  have hA : ∀ q, s.heap.size ≤ q → kA 38 ad s.heap.size q := fun q h => Or.inr h
  have hown : s.vm.findClass RX6 = some m.cls := hown
  have hl : lv_has ls 2 [(0, .ref (ad (15 + 3 * i))), (1, .int (nI w))] := hl
  have iX6 : ∀ w ∈ u_ws RX6 TX6 10, w ∈ wsX6_anchorAt := fun w h => List.mem_cons_of_mem _ (List.mem_append_right _ h)
  refine lv_iload_n hx hb dX6_anchorAt_0 rfl (lv_at hl 1 rfl) ?_
  refine lv_if_ne (tgt := 9) hx hb dX6_anchorAt_1 (by decide) (fun c_1 => ?_) (fun c_1 => ?_)
  · have c_1 : ¬ (w = 0) := fun q_ => c_1 ((nI_eq (by omega) (by decide)).mpr q_)
    refine lv_aload_n hx hb dX6_anchorAt_9 rfl (lv_at hl 0 rfl) ?_
    refine k_get (C := RX6) (T := TX6) (N := 10) (v := .int (nI mo)) hx hb hts hown E I iX6 (15 + 3 * i) (by omega) (r0 := σ (15 + 3 * i)) rfl (kc_S H_i) rfl 2 (by decide) (List.mem_of_getElem? (i := 2) rfl) (congrArg (fun z => some (Value.int z)) em) dX6_anchorAt_10 ?_
    refine lv_if_eq (tgt := 23) hx hb dX6_anchorAt_13 (by decide) (fun c_13 => ?_) (fun c_13 => ?_)
    · have c_13 : mo = 0 := (nI_eq (by omega) (by decide)).mp c_13
      refine lv_null hx hb dX6_anchorAt_23 ?_
      exact k_nret hx hb hr (Or.inl ⟨_, rfl⟩) hlk I dX6_anchorAt_24 (⟨rfl, Or.inr (by first | exact Or.inl ⟨by omega, by omega, rfl⟩ | exact Or.inr ⟨by omega, by omega, rfl⟩)⟩)
    · have c_13 : ¬ (mo = 0) := fun q_ => c_13 ((nI_eq (by omega) (by decide)).mpr q_)
      refine lv_aload_n hx hb dX6_anchorAt_16 rfl (lv_at hl 0 rfl) ?_
      refine k_get (C := RX6) (T := TX6) (N := 10) (v := .ref (ad (17 + 3 * i))) hx hb hts hown E I iX6 (15 + 3 * i) (by omega) (r0 := σ (15 + 3 * i)) rfl (kc_S H_i) rfl 1 (by decide) (List.mem_of_getElem? (i := 3) rfl) rfl dX6_anchorAt_17 ?_
      refine lv_goto (tgt := 24) hx hb dX6_anchorAt_20 (by decide) ?_
      exact k_aret hx hb hr (Or.inl ⟨_, rfl⟩) hlk I dX6_anchorAt_24 (⟨rfl, Or.inr (by first | exact Or.inl ⟨by omega, by omega, rfl⟩ | exact Or.inr ⟨by omega, by omega, rfl⟩)⟩)
  · have c_1 : w = 0 := (nI_eq (by omega) (by decide)).mp c_1
    refine lv_aload_n hx hb dX6_anchorAt_4 rfl (lv_at hl 0 rfl) ?_
    refine k_get (C := RX6) (T := TX6) (N := 10) (v := .ref (ad (16 + 3 * i))) hx hb hts hown E I iX6 (15 + 3 * i) (by omega) (r0 := σ (15 + 3 * i)) rfl (kc_S H_i) rfl 0 (by decide) (List.mem_of_getElem? (i := 1) rfl) rfl dX6_anchorAt_5 ?_
    exact k_aret hx hb hr (Or.inl ⟨_, rfl⟩) hlk I dX6_anchorAt_8 (⟨rfl, Or.inl ⟨by omega, rfl⟩⟩)
set_option maxHeartbeats 4000000 in
set_option maxRecDepth 100000 in
theorem c_X1_firstHolds (cy : Nat → ClassId) (D : va_G) (ad : Nat → Nat) (l : Launch) (σ : Nat → Nat → Int32) (N : Nat → Nat) (hN : nOk N) (i : Nat) (hi : i < N 1) (hB : rBay σ N) (n h : Nat) (hn : n ≤ 60) (hh : h ≤ 9999) : kMi 38 ad (kcC cy ad) cy D l yX1_firstHolds wsX1_firstHolds ({ frames := 3, cells := 0, slots := 0, locals := 69 }) [.ref (ad 11), .ref (ad (15 + 3 * i)), .int (nI n), .int (nI h)] σ (fun r σ' => kT r (pH1 N i n h = true) ∧ q14 σ σ') := by
  have H_i : i < 5 := by have := hN.1; omega
  have hsh := hN.2.2 i hi
  unfold nSh at hsh
  have hdx := pD_le hN hsh.1.1
  refine k_entry (cc := cX1_firstHolds) (maxL := 4) (ret := (some .boolean)) (by decide) rfl (Nat.le_of_ble_eq_true rfl) ?_
  intro p e s m below meth c hx hb hr hml hown hts hlk E I ls hl
  have hA : ∀ q, s.heap.size ≤ q → kA 38 ad s.heap.size q := fun q h => Or.inr h
  have hown : s.vm.findClass RX1 = some m.cls := hown
  have hl : lv_has ls 4 [(0, .ref (ad 11)), (1, .ref (ad (15 + 3 * i))), (2, .int (nI n)), (3, .int (nI h))] := hl
  have iX6 : ∀ w ∈ u_ws RX6 TX6 10, w ∈ wsX1_firstHolds := fun w h => List.mem_cons_of_mem _ (List.mem_append_left _ (List.mem_append_left _ (List.mem_append_left _ (List.mem_append_right _ h))))
  refine lv_aload_n hx hb dX1_firstHolds_0 rfl (lv_at hl 0 rfl) ?_
  refine lv_aload_n hx hb dX1_firstHolds_1 rfl (lv_at hl 1 rfl) ?_
  refine lv_aload_n hx hb dX1_firstHolds_2 rfl (lv_at hl 1 rfl) ?_
  refine k_get (C := RX6) (T := TX6) (N := 10) (v := .ref (ad (16 + 3 * i))) hx hb hts hown E I iX6 (15 + 3 * i) (by omega) (r0 := σ (15 + 3 * i)) rfl (kc_S H_i) rfl 0 (by decide) (List.mem_of_getElem? (i := 1) rfl) rfl dX1_firstHolds_3 ?_
  refine lv_iload_n hx hb dX1_firstHolds_6 rfl (lv_at hl 2 rfl) ?_
  refine lv_iload_n hx hb dX1_firstHolds_7 rfl (lv_at hl 3 rfl) ?_
  refine k_callq (k := 11) (As := [.ref (ad (15 + 3 * i)), .ref (ad (16 + 3 * i)), .int (nI n), .int (nI h)]) (rest := []) ⟨hx, hb, hml, hown, hts⟩ (c_X1_chainOf cy D ad l σ i (N (23 + 13 * i + 3)) (N (23 + 13 * i)) (N (3 + N (23 + 13 * i))) n h H_i (by have := hN.1; omega) (hN.2.1 _ hsh.1.1).2 (rB_f hB hi 3 (by decide)) (rB_f hB hi 0 (by decide)) (hB.2.1 _ hsh.1.1)) (cwV 4 hts gX1_firstHolds_X1_chainOf rfl rfl rfl (by decide +kernel) ⟨Nat.le_of_ble_eq_true rfl, Nat.le_of_ble_eq_true rfl⟩) E hA I (k_recv E I (by decide) kc_11 rfl) rfl hl.1 rfl (lv_room (Nat.le_of_ble_eq_true rfl)) dX1_firstHolds_8 ⟨Nat.le_of_ble_eq_true rfl, Nat.le_of_ble_eq_true rfl⟩ (fun r_8 σ_8 H locs hp_8 I => ?_)
  obtain ⟨rfl, hs_⟩ := hp_8
  have e8 : σ_8 (15 + 3 * i) 8 = nI (N (23 + 13 * i + 6)) := (q14_at ⟨_, hs_⟩ (by omega) 8).trans (rB_f hB hi 6 (by decide))
  refine lv_aload_n hx hb dX1_firstHolds_11 rfl (lv_at hl 1 rfl) ?_
  refine k_get (C := RX6) (T := TX6) (N := 10) (v := .int (nI (N (23 + 13 * i + 6)))) hx hb hts hown E I iX6 (15 + 3 * i) (by omega) (r0 := σ_8 (15 + 3 * i)) rfl (kc_S H_i) rfl 8 (by decide) (List.mem_of_getElem? (i := 2) rfl) (congrArg (fun z => some (Value.int z)) e8) dX1_firstHolds_12 ?_
  refine k_calli (k := 14) (As := [.int (nI (N (23 + 13 * i + 6)))]) (rest := []) ⟨hx, hb, hml, hown, hts⟩ (c_X2_holds cy D ad l σ_8 h (N (23 + 13 * i + 3)) n (10 * N (3 + N (23 + 13 * i))) hh hsh.2.1.1 hsh.2.1.2.1 hn hdx.2 (by rw [hs_]; rfl) (by rw [hs_]; rfl) (by rw [hs_]; rfl) (by rw [hs_]; rfl) (N (23 + 13 * i + 6)) hsh.2.2.1.2.2.2) (cwV 1 hts gX1_firstHolds_X2_holds rfl rfl rfl (by decide +kernel) ⟨Nat.le_of_ble_eq_true rfl, Nat.le_of_ble_eq_true rfl⟩) E hA I (k_recv E I (by decide) kc_14 rfl) rfl hl.1 rfl (lv_room (Nat.le_of_ble_eq_true rfl)) dX1_firstHolds_15 ⟨Nat.le_of_ble_eq_true rfl, Nat.le_of_ble_eq_true rfl⟩ (fun r_15 σ_15 H locs hp_15 I => ?_)
  obtain ⟨hk_, hq2⟩ := hp_15
  have hq3 : q14 σ σ_15 := q14_tr ⟨_, hs_⟩ hq2
  rcases hk_ with ⟨rfl, hb_⟩ | ⟨rfl, hb_⟩
  · exact k_zret hx hb hr (by decide) hlk I dX1_firstHolds_18 (⟨by first | exact kT_1 hb_ | exact kT_0 hb_, hq3⟩)
  · exact k_zret hx hb hr (by decide) hlk I dX1_firstHolds_18 (⟨by first | exact kT_1 hb_ | exact kT_0 hb_, hq3⟩)
set_option maxHeartbeats 4000000 in
set_option maxRecDepth 100000 in
theorem c_X1_secondHolds (cy : Nat → ClassId) (D : va_G) (ad : Nat → Nat) (l : Launch) (σ : Nat → Nat → Int32) (N : Nat → Nat) (hN : nOk N) (i : Nat) (hi : i < N 1) (hB : rBay σ N) (hm : N (23 + 13 * i + 9) = 1) (h : Nat) (hh : h ≤ 9999) : kMi 38 ad (kcC cy ad) cy D l yX1_secondHolds wsX1_secondHolds ({ frames := 3, cells := 0, slots := 0, locals := 69 }) [.ref (ad 11), .ref (ad (15 + 3 * i)), .int (nI h)] σ (fun r σ' => kT r (pH2 N i h = true) ∧ q14 σ σ') := by
  have H_i : i < 5 := by have := hN.1; omega
  have hsh := hN.2.2 i hi
  unfold nSh at hsh
  have hs2 := hsh.2.2.2.2.1 hm
  have hdx := pD_le hN hs2.1
  refine k_entry (cc := cX1_secondHolds) (maxL := 3) (ret := (some .boolean)) (by decide) rfl (Nat.le_of_ble_eq_true rfl) ?_
  intro p e s m below meth c hx hb hr hml hown hts hlk E I ls hl
  have hA : ∀ q, s.heap.size ≤ q → kA 38 ad s.heap.size q := fun q h => Or.inr h
  have hown : s.vm.findClass RX1 = some m.cls := hown
  have hl : lv_has ls 3 [(0, .ref (ad 11)), (1, .ref (ad (15 + 3 * i))), (2, .int (nI h))] := hl
  have iX0 : ∀ w ∈ u_ws RX0 TX0 3, w ∈ wsX1_secondHolds := fun w h => List.mem_cons_of_mem _ (List.mem_append_left _ (List.mem_append_left _ (List.mem_append_right _ h)))
  have iX6 : ∀ w ∈ u_ws RX6 TX6 10, w ∈ wsX1_secondHolds := fun w h => List.mem_cons_of_mem _ (List.mem_append_left _ (List.mem_append_left _ (List.mem_append_left _ (List.mem_append_right _ h))))
  refine lv_aload_n hx hb dX1_secondHolds_0 rfl (lv_at hl 0 rfl) ?_
  refine lv_aload_n hx hb dX1_secondHolds_1 rfl (lv_at hl 1 rfl) ?_
  refine lv_aload_n hx hb dX1_secondHolds_2 rfl (lv_at hl 1 rfl) ?_
  refine k_get (C := RX6) (T := TX6) (N := 10) (v := .ref (ad (17 + 3 * i))) hx hb hts hown E I iX6 (15 + 3 * i) (by omega) (r0 := σ (15 + 3 * i)) rfl (kc_S H_i) rfl 1 (by decide) (List.mem_of_getElem? (i := 1) rfl) rfl dX1_secondHolds_3 ?_
  refine lv_aload_n hx hb dX1_secondHolds_6 rfl (lv_at hl 1 rfl) ?_
  refine k_get (C := RX6) (T := TX6) (N := 10) (v := .ref (ad (17 + 3 * i))) hx hb hts hown E I iX6 (15 + 3 * i) (by omega) (r0 := σ (15 + 3 * i)) rfl (kc_S H_i) rfl 1 (by decide) (List.mem_of_getElem? (i := 1) rfl) rfl dX1_secondHolds_7 ?_
  refine k_get (C := RX0) (T := TX0) (N := 3) (v := .int (nI (N (23 + 13 * i + 12)))) hx hb hts hown E I iX0 (17 + 3 * i) (by omega) (r0 := σ (17 + 3 * i)) rfl (kc_G H_i) rfl 2 (by decide) (List.mem_of_getElem? (i := 2) rfl) (congrArg (fun z => some (Value.int z)) (rB_g hB hi hm 2 (by decide))) dX1_secondHolds_10 ?_
  refine lv_iload_n hx hb dX1_secondHolds_13 rfl (lv_at hl 2 rfl) ?_
  refine k_callq (k := 11) (As := [.ref (ad (15 + 3 * i)), .ref (ad (17 + 3 * i)), .int (nI (N (23 + 13 * i + 12))), .int (nI h)]) (rest := []) ⟨hx, hb, hml, hown, hts⟩ (c_X1_chainOf2 cy D ad l σ i (N (23 + 13 * i + 3)) (N (23 + 13 * i + 10)) (N (3 + N (23 + 13 * i + 10))) (N (23 + 13 * i + 12)) h H_i (by have := hN.1; omega) (hN.2.1 _ hs2.1).2 (rB_f hB hi 3 (by decide)) (rB_g hB hi hm 0 (by decide)) (hB.2.1 _ hs2.1)) (cwV 4 hts gX1_secondHolds_X1_chainOf rfl rfl rfl (by decide +kernel) ⟨Nat.le_of_ble_eq_true rfl, Nat.le_of_ble_eq_true rfl⟩) E hA I (k_recv E I (by decide) kc_11 rfl) rfl hl.1 rfl (lv_room (Nat.le_of_ble_eq_true rfl)) dX1_secondHolds_14 ⟨Nat.le_of_ble_eq_true rfl, Nat.le_of_ble_eq_true rfl⟩ (fun r_14 σ_14 H locs hp_14 I => ?_)
  obtain ⟨rfl, hs_⟩ := hp_14
  have e8 : σ_14 (15 + 3 * i) 8 = nI (N (23 + 13 * i + 6)) := (q14_at ⟨_, hs_⟩ (by omega) 8).trans (rB_f hB hi 6 (by decide))
  refine lv_aload_n hx hb dX1_secondHolds_17 rfl (lv_at hl 1 rfl) ?_
  refine k_get (C := RX6) (T := TX6) (N := 10) (v := .int (nI (N (23 + 13 * i + 6)))) hx hb hts hown E I iX6 (15 + 3 * i) (by omega) (r0 := σ_14 (15 + 3 * i)) rfl (kc_S H_i) rfl 8 (by decide) (List.mem_of_getElem? (i := 3) rfl) (congrArg (fun z => some (Value.int z)) e8) dX1_secondHolds_18 ?_
  refine k_calli (k := 14) (As := [.int (nI (N (23 + 13 * i + 6)))]) (rest := []) ⟨hx, hb, hml, hown, hts⟩ (c_X2_holds cy D ad l σ_14 h (N (23 + 13 * i + 3)) (N (23 + 13 * i + 12)) (10 * N (3 + N (23 + 13 * i + 10))) hh hsh.2.1.1 hsh.2.1.2.1 hs2.2.2.2 hdx.2 (by rw [hs_]; rfl) (by rw [hs_]; rfl) (by rw [hs_]; rfl) (by rw [hs_]; rfl) (N (23 + 13 * i + 6)) hsh.2.2.1.2.2.2) (cwV 1 hts gX1_secondHolds_X2_holds rfl rfl rfl (by decide +kernel) ⟨Nat.le_of_ble_eq_true rfl, Nat.le_of_ble_eq_true rfl⟩) E hA I (k_recv E I (by decide) kc_14 rfl) rfl hl.1 rfl (lv_room (Nat.le_of_ble_eq_true rfl)) dX1_secondHolds_21 ⟨Nat.le_of_ble_eq_true rfl, Nat.le_of_ble_eq_true rfl⟩ (fun r_21 σ_21 H locs hp_21 I => ?_)
  obtain ⟨hk_, hq2⟩ := hp_21
  have hq3 : q14 σ σ_21 := q14_tr ⟨_, hs_⟩ hq2
  rcases hk_ with ⟨rfl, hb_⟩ | ⟨rfl, hb_⟩
  · exact k_zret hx hb hr (by decide) hlk I dX1_secondHolds_24 (⟨by first | exact kT_1 hb_ | exact kT_0 hb_, hq3⟩)
  · exact k_zret hx hb hr (by decide) hlk I dX1_secondHolds_24 (⟨by first | exact kT_1 hb_ | exact kT_0 hb_, hq3⟩)
set_option maxHeartbeats 4000000 in
set_option maxRecDepth 100000 in
theorem c_X1_holdsBy (cy : Nat → ClassId) (D : va_G) (ad : Nat → Nat) (l : Launch) (σ : Nat → Nat → Int32) (N : Nat → Nat) (hN : nOk N) (i : Nat) (hi : i < N 1) (hB : rBay σ N) (n b : Nat) (hn : n ≤ 60) (hb20 : b ≤ 20) : kMi 38 ad (kcC cy ad) cy D l yX1_holdsBy wsX1_holdsBy ({ frames := 4, cells := 0, slots := 0, locals := 92 }) [.ref (ad 11), .ref (ad (15 + 3 * i)), .int (nI n), .int (nI b)] σ (fun r σ' => kT r (pHo N i n b = true) ∧ q14 σ σ') := by
  have H_i : i < 5 := by have := hN.1; omega
  have hsh := hN.2.2 i hi
  unfold nSh at hsh
  have hpp := pP_le (N := N) (i := i) hsh.2.2.1.2.1 hb20
  have hQ := q14_rf σ
  refine k_entry (cc := cX1_holdsBy) (maxL := 6) (ret := (some .boolean)) (by decide) rfl (Nat.le_of_ble_eq_true rfl) ?_
  intro p e s m below meth c hx hb hr hml hown hts hlk E I ls hl
  have hA : ∀ q, s.heap.size ≤ q → kA 38 ad s.heap.size q := fun q h => Or.inr h
  have hown : s.vm.findClass RX1 = some m.cls := hown
  have hl : lv_has ls 6 [(0, .ref (ad 11)), (1, .ref (ad (15 + 3 * i))), (2, .int (nI n)), (3, .int (nI b))] := hl
  have iX6 : ∀ w ∈ u_ws RX6 TX6 10, w ∈ wsX1_holdsBy := fun w h => List.mem_cons_of_mem _ (List.mem_append_left _ (List.mem_append_left _ (List.mem_append_left _ (List.mem_append_right _ h))))
  refine lv_aload_n hx hb dX1_holdsBy_0 rfl (lv_at hl 1 rfl) ?_
  refine lv_iload_n hx hb dX1_holdsBy_1 rfl (lv_at hl 3 rfl) ?_
  refine k_calli (k := 15 + 3 * i) (As := [.int (nI b)]) (rest := []) ⟨hx, hb, hml, hown, hts⟩ (c_X6_pullBy cy D ad l σ i (N (23 + 13 * i + 5)) b H_i hsh.2.2.1.2.1 hb20 (rB_f hB hi 5 (by decide))) (cwV 1 hts gX1_holdsBy_X6_pullBy rfl rfl rfl (by decide +kernel) ⟨Nat.le_of_ble_eq_true rfl, Nat.le_of_ble_eq_true rfl⟩) E hA I (k_recv E I (by omega) (kc_S H_i) rfl) rfl hl.1 rfl (lv_room (Nat.le_of_ble_eq_true rfl)) dX1_holdsBy_2 ⟨Nat.le_of_ble_eq_true rfl, Nat.le_of_ble_eq_true rfl⟩ (fun r_2 σ_2 H locs hp_2 I => ?_)
  obtain ⟨rfl, rfl⟩ := hp_2
  have ep : b * b * N (23 + 13 * i + 5) / 4 = pP N i b := rfl
  rw [ep]
  refine lv_istore (lv' := [(4, .int (nI (pP N i b))), (0, .ref (ad 11)), (1, .ref (ad (15 + 3 * i))), (2, .int (nI n)), (3, .int (nI b))]) hx hb dX1_holdsBy_5 hl (by decide) rfl (fun ls hl => ?_)
  refine lv_aload_n hx hb dX1_holdsBy_7 rfl (lv_at hl 2 rfl) ?_
  refine k_get (C := RX6) (T := TX6) (N := 10) (v := .int (nI (N (23 + 13 * i + 9)))) hx hb hts hown E I iX6 (15 + 3 * i) (by omega) (r0 := σ (15 + 3 * i)) rfl (kc_S H_i) rfl 2 (by decide) (List.mem_of_getElem? (i := 1) rfl) (congrArg (fun z => some (Value.int z)) (rB_f hB hi 9 (by decide))) dX1_holdsBy_8 ?_
  refine lv_if_ne (tgt := 23) hx hb dX1_holdsBy_11 (by decide) (fun c_11 => ?_) (fun c_11 => ?_)
  · have c_11 : ¬ ((N (23 + 13 * i + 9)) = 0) := fun q_ => c_11 ((nI_eq (by omega) (by decide)).mpr q_)
    have hm : N (23 + 13 * i + 9) = 1 := by omega
    refine lv_iload hx hb dX1_holdsBy_23 (lv_at hl 0 rfl) ?_
    refine lv_iconst (v := nI 1) hx hb dX1_holdsBy_25 (by decide) ?_
    refine lv_iadd hx hb dX1_holdsBy_26 ?_
    rw [nI_add]
    refine lv_iconst (v := nI 2) hx hb dX1_holdsBy_27 (by decide) ?_
    refine lv_idiv hx hb dX1_holdsBy_28 (by decide) ?_
    refine lv_topi (fun t_29 et_29 => ?_)
    have et_29 : t_29 = nI ((pP N i b + 1) / 2) := et_29.trans (pk_div (by omega) (by decide) (by decide))
    subst et_29
    refine lv_istore (lv' := [(5, .int (nI ((pP N i b + 1) / 2))), (4, .int (nI (pP N i b))), (0, .ref (ad 11)), (1, .ref (ad (15 + 3 * i))), (2, .int (nI n)), (3, .int (nI b))]) hx hb dX1_holdsBy_29 hl (by decide) rfl (fun ls hl => ?_)
    refine lv_aload_n hx hb dX1_holdsBy_31 rfl (lv_at hl 2 rfl) ?_
    refine lv_aload_n hx hb dX1_holdsBy_32 rfl (lv_at hl 3 rfl) ?_
    refine lv_iload_n hx hb dX1_holdsBy_33 rfl (lv_at hl 4 rfl) ?_
    refine lv_iload hx hb dX1_holdsBy_34 (lv_at hl 0 rfl) ?_
    refine k_calli (k := 11) (As := [.ref (ad (15 + 3 * i)), .int (nI n), .int (nI ((pP N i b + 1) / 2))]) (rest := []) ⟨hx, hb, hml, hown, hts⟩ (c_X1_firstHolds cy D ad l σ N hN i hi hB n ((pP N i b + 1) / 2) hn (by omega)) (cwV 3 hts gX1_holdsBy_X1_firstHolds rfl rfl rfl (by decide +kernel) ⟨Nat.le_of_ble_eq_true rfl, Nat.le_of_ble_eq_true rfl⟩) E hA I (k_recv E I (by decide) kc_11 rfl) rfl hl.1 rfl (lv_room (Nat.le_of_ble_eq_true rfl)) dX1_holdsBy_36 ⟨Nat.le_of_ble_eq_true rfl, Nat.le_of_ble_eq_true rfl⟩ (fun r_36 σ_36 H locs hp_36 I => ?_)
    obtain ⟨hk_, hq_⟩ := hp_36
    have hQ := q14_tr hQ hq_
    have hB := rBay_qc hN.1.2.2.2.1 hB (q14_qc hq_)
    rcases hk_ with ⟨rfl, g1⟩ | ⟨rfl, g1⟩
    · refine lv_if_eq (tgt := 52) hx hb dX1_holdsBy_39 (by decide) (fun c_39 => ?_) (fun c_39 => ?_)
      · exact absurd c_39 (by decide)
      · refine lv_aload_n hx hb dX1_holdsBy_42 rfl (lv_at hl 2 rfl) ?_
        refine lv_aload_n hx hb dX1_holdsBy_43 rfl (lv_at hl 3 rfl) ?_
        refine lv_iload hx hb dX1_holdsBy_44 (lv_at hl 0 rfl) ?_
        refine k_calli (k := 11) (As := [.ref (ad (15 + 3 * i)), .int (nI ((pP N i b + 1) / 2))]) (rest := []) ⟨hx, hb, hml, hown, hts⟩ (c_X1_secondHolds cy D ad l σ_36 N hN i hi hB hm ((pP N i b + 1) / 2) (by omega)) (cwV 2 hts gX1_holdsBy_X1_secondHolds rfl rfl rfl (by decide +kernel) ⟨Nat.le_of_ble_eq_true rfl, Nat.le_of_ble_eq_true rfl⟩) E hA I (k_recv E I (by decide) kc_11 rfl) rfl hl.1 rfl (lv_room (Nat.le_of_ble_eq_true rfl)) dX1_holdsBy_46 ⟨Nat.le_of_ble_eq_true rfl, Nat.le_of_ble_eq_true rfl⟩ (fun r_46 σ_46 H locs hp_46 I => ?_)
        obtain ⟨hk_, hq_⟩ := hp_46
        have hQ := q14_tr hQ hq_
        have hB := rBay_qc hN.1.2.2.2.1 hB (q14_qc hq_)
        rcases hk_ with ⟨rfl, g2⟩ | ⟨rfl, g2⟩
        · refine lv_if_ne (tgt := 73) hx hb dX1_holdsBy_49 (by decide) (fun c_49 => ?_) (fun c_49 => ?_)
          · refine lv_iconst (v := nI 1) hx hb dX1_holdsBy_73 (by decide) ?_
            refine lv_goto (tgt := 78) hx hb dX1_holdsBy_74 (by decide) ?_
            exact k_zret hx hb hr (by decide) hlk I dX1_holdsBy_78 (⟨by unfold pHo; rw [if_neg (by omega)]; first | exact kT_1 (by simp_all) | exact kT_0 (by simp_all), hQ⟩)
          · exact absurd c_49 (by decide)
        · refine lv_if_ne (tgt := 73) hx hb dX1_holdsBy_49 (by decide) (fun c_49 => ?_) (fun c_49 => ?_)
          · exact absurd c_49 (by decide)
          · refine lv_aload_n hx hb dX1_holdsBy_52 rfl (lv_at hl 2 rfl) ?_
            refine lv_aload_n hx hb dX1_holdsBy_53 rfl (lv_at hl 3 rfl) ?_
            refine lv_iload_n hx hb dX1_holdsBy_54 rfl (lv_at hl 4 rfl) ?_
            refine lv_iload hx hb dX1_holdsBy_55 (lv_at hl 1 rfl) ?_
            refine k_calli (k := 11) (As := [.ref (ad (15 + 3 * i)), .int (nI n), .int (nI (pP N i b))]) (rest := []) ⟨hx, hb, hml, hown, hts⟩ (c_X1_firstHolds cy D ad l σ_46 N hN i hi hB n (pP N i b) hn (by omega)) (cwV 3 hts gX1_holdsBy_X1_firstHolds rfl rfl rfl (by decide +kernel) ⟨Nat.le_of_ble_eq_true rfl, Nat.le_of_ble_eq_true rfl⟩) E hA I (k_recv E I (by decide) kc_11 rfl) rfl hl.1 rfl (lv_room (Nat.le_of_ble_eq_true rfl)) dX1_holdsBy_57 ⟨Nat.le_of_ble_eq_true rfl, Nat.le_of_ble_eq_true rfl⟩ (fun r_57 σ_57 H locs hp_57 I => ?_)
            obtain ⟨hk_, hq_⟩ := hp_57
            have hQ := q14_tr hQ hq_
            have hB := rBay_qc hN.1.2.2.2.1 hB (q14_qc hq_)
            rcases hk_ with ⟨rfl, g3⟩ | ⟨rfl, g3⟩
            · refine lv_if_ne (tgt := 73) hx hb dX1_holdsBy_60 (by decide) (fun c_60 => ?_) (fun c_60 => ?_)
              · refine lv_iconst (v := nI 1) hx hb dX1_holdsBy_73 (by decide) ?_
                refine lv_goto (tgt := 78) hx hb dX1_holdsBy_74 (by decide) ?_
                exact k_zret hx hb hr (by decide) hlk I dX1_holdsBy_78 (⟨by unfold pHo; rw [if_neg (by omega)]; first | exact kT_1 (by simp_all) | exact kT_0 (by simp_all), hQ⟩)
              · exact absurd c_60 (by decide)
            · refine lv_if_ne (tgt := 73) hx hb dX1_holdsBy_60 (by decide) (fun c_60 => ?_) (fun c_60 => ?_)
              · exact absurd c_60 (by decide)
              · refine lv_aload_n hx hb dX1_holdsBy_63 rfl (lv_at hl 2 rfl) ?_
                refine lv_aload_n hx hb dX1_holdsBy_64 rfl (lv_at hl 3 rfl) ?_
                refine lv_iload hx hb dX1_holdsBy_65 (lv_at hl 1 rfl) ?_
                refine k_calli (k := 11) (As := [.ref (ad (15 + 3 * i)), .int (nI (pP N i b))]) (rest := []) ⟨hx, hb, hml, hown, hts⟩ (c_X1_secondHolds cy D ad l σ_57 N hN i hi hB hm (pP N i b) (by omega)) (cwV 2 hts gX1_holdsBy_X1_secondHolds rfl rfl rfl (by decide +kernel) ⟨Nat.le_of_ble_eq_true rfl, Nat.le_of_ble_eq_true rfl⟩) E hA I (k_recv E I (by decide) kc_11 rfl) rfl hl.1 rfl (lv_room (Nat.le_of_ble_eq_true rfl)) dX1_holdsBy_67 ⟨Nat.le_of_ble_eq_true rfl, Nat.le_of_ble_eq_true rfl⟩ (fun r_67 σ_67 H locs hp_67 I => ?_)
                obtain ⟨hk_, hq_⟩ := hp_67
                have hQ := q14_tr hQ hq_
                have hB := rBay_qc hN.1.2.2.2.1 hB (q14_qc hq_)
                rcases hk_ with ⟨rfl, g4⟩ | ⟨rfl, g4⟩
                · refine lv_if_eq (tgt := 77) hx hb dX1_holdsBy_70 (by decide) (fun c_70 => ?_) (fun c_70 => ?_)
                  · exact absurd c_70 (by decide)
                  · refine lv_iconst (v := nI 1) hx hb dX1_holdsBy_73 (by decide) ?_
                    refine lv_goto (tgt := 78) hx hb dX1_holdsBy_74 (by decide) ?_
                    exact k_zret hx hb hr (by decide) hlk I dX1_holdsBy_78 (⟨by unfold pHo; rw [if_neg (by omega)]; first | exact kT_1 (by simp_all) | exact kT_0 (by simp_all), hQ⟩)
                · refine lv_if_eq (tgt := 77) hx hb dX1_holdsBy_70 (by decide) (fun c_70 => ?_) (fun c_70 => ?_)
                  · refine lv_iconst (v := nI 0) hx hb dX1_holdsBy_77 (by decide) ?_
                    exact k_zret hx hb hr (by decide) hlk I dX1_holdsBy_78 (⟨by unfold pHo; rw [if_neg (by omega)]; first | exact kT_1 (by simp_all) | exact kT_0 (by simp_all), hQ⟩)
                  · exact absurd c_70 (by decide)
    · refine lv_if_eq (tgt := 52) hx hb dX1_holdsBy_39 (by decide) (fun c_39 => ?_) (fun c_39 => ?_)
      · refine lv_aload_n hx hb dX1_holdsBy_52 rfl (lv_at hl 2 rfl) ?_
        refine lv_aload_n hx hb dX1_holdsBy_53 rfl (lv_at hl 3 rfl) ?_
        refine lv_iload_n hx hb dX1_holdsBy_54 rfl (lv_at hl 4 rfl) ?_
        refine lv_iload hx hb dX1_holdsBy_55 (lv_at hl 1 rfl) ?_
        refine k_calli (k := 11) (As := [.ref (ad (15 + 3 * i)), .int (nI n), .int (nI (pP N i b))]) (rest := []) ⟨hx, hb, hml, hown, hts⟩ (c_X1_firstHolds cy D ad l σ_36 N hN i hi hB n (pP N i b) hn (by omega)) (cwV 3 hts gX1_holdsBy_X1_firstHolds rfl rfl rfl (by decide +kernel) ⟨Nat.le_of_ble_eq_true rfl, Nat.le_of_ble_eq_true rfl⟩) E hA I (k_recv E I (by decide) kc_11 rfl) rfl hl.1 rfl (lv_room (Nat.le_of_ble_eq_true rfl)) dX1_holdsBy_57 ⟨Nat.le_of_ble_eq_true rfl, Nat.le_of_ble_eq_true rfl⟩ (fun r_57 σ_57 H locs hp_57 I => ?_)
        obtain ⟨hk_, hq_⟩ := hp_57
        have hQ := q14_tr hQ hq_
        have hB := rBay_qc hN.1.2.2.2.1 hB (q14_qc hq_)
        rcases hk_ with ⟨rfl, g3⟩ | ⟨rfl, g3⟩
        · refine lv_if_ne (tgt := 73) hx hb dX1_holdsBy_60 (by decide) (fun c_60 => ?_) (fun c_60 => ?_)
          · refine lv_iconst (v := nI 1) hx hb dX1_holdsBy_73 (by decide) ?_
            refine lv_goto (tgt := 78) hx hb dX1_holdsBy_74 (by decide) ?_
            exact k_zret hx hb hr (by decide) hlk I dX1_holdsBy_78 (⟨by unfold pHo; rw [if_neg (by omega)]; first | exact kT_1 (by simp_all) | exact kT_0 (by simp_all), hQ⟩)
          · exact absurd c_60 (by decide)
        · refine lv_if_ne (tgt := 73) hx hb dX1_holdsBy_60 (by decide) (fun c_60 => ?_) (fun c_60 => ?_)
          · exact absurd c_60 (by decide)
          · refine lv_aload_n hx hb dX1_holdsBy_63 rfl (lv_at hl 2 rfl) ?_
            refine lv_aload_n hx hb dX1_holdsBy_64 rfl (lv_at hl 3 rfl) ?_
            refine lv_iload hx hb dX1_holdsBy_65 (lv_at hl 1 rfl) ?_
            refine k_calli (k := 11) (As := [.ref (ad (15 + 3 * i)), .int (nI (pP N i b))]) (rest := []) ⟨hx, hb, hml, hown, hts⟩ (c_X1_secondHolds cy D ad l σ_57 N hN i hi hB hm (pP N i b) (by omega)) (cwV 2 hts gX1_holdsBy_X1_secondHolds rfl rfl rfl (by decide +kernel) ⟨Nat.le_of_ble_eq_true rfl, Nat.le_of_ble_eq_true rfl⟩) E hA I (k_recv E I (by decide) kc_11 rfl) rfl hl.1 rfl (lv_room (Nat.le_of_ble_eq_true rfl)) dX1_holdsBy_67 ⟨Nat.le_of_ble_eq_true rfl, Nat.le_of_ble_eq_true rfl⟩ (fun r_67 σ_67 H locs hp_67 I => ?_)
            obtain ⟨hk_, hq_⟩ := hp_67
            have hQ := q14_tr hQ hq_
            have hB := rBay_qc hN.1.2.2.2.1 hB (q14_qc hq_)
            rcases hk_ with ⟨rfl, g4⟩ | ⟨rfl, g4⟩
            · refine lv_if_eq (tgt := 77) hx hb dX1_holdsBy_70 (by decide) (fun c_70 => ?_) (fun c_70 => ?_)
              · exact absurd c_70 (by decide)
              · refine lv_iconst (v := nI 1) hx hb dX1_holdsBy_73 (by decide) ?_
                refine lv_goto (tgt := 78) hx hb dX1_holdsBy_74 (by decide) ?_
                exact k_zret hx hb hr (by decide) hlk I dX1_holdsBy_78 (⟨by unfold pHo; rw [if_neg (by omega)]; first | exact kT_1 (by simp_all) | exact kT_0 (by simp_all), hQ⟩)
            · refine lv_if_eq (tgt := 77) hx hb dX1_holdsBy_70 (by decide) (fun c_70 => ?_) (fun c_70 => ?_)
              · refine lv_iconst (v := nI 0) hx hb dX1_holdsBy_77 (by decide) ?_
                exact k_zret hx hb hr (by decide) hlk I dX1_holdsBy_78 (⟨by unfold pHo; rw [if_neg (by omega)]; first | exact kT_1 (by simp_all) | exact kT_0 (by simp_all), hQ⟩)
              · exact absurd c_70 (by decide)
      · exact absurd c_39 (by decide)
  · have c_11 : (N (23 + 13 * i + 9)) = 0 := (nI_eq (by omega) (by decide)).mp c_11
    have hm0 : N (23 + 13 * i + 9) = 0 := by omega
    refine lv_aload_n hx hb dX1_holdsBy_14 rfl (lv_at hl 1 rfl) ?_
    refine lv_aload_n hx hb dX1_holdsBy_15 rfl (lv_at hl 2 rfl) ?_
    refine lv_iload_n hx hb dX1_holdsBy_16 rfl (lv_at hl 3 rfl) ?_
    refine lv_iload hx hb dX1_holdsBy_17 (lv_at hl 0 rfl) ?_
    refine k_calli (k := 11) (As := [.ref (ad (15 + 3 * i)), .int (nI n), .int (nI (pP N i b))]) (rest := []) ⟨hx, hb, hml, hown, hts⟩ (c_X1_firstHolds cy D ad l σ N hN i hi hB n (pP N i b) hn (by omega)) (cwV 3 hts gX1_holdsBy_X1_firstHolds rfl rfl rfl (by decide +kernel) ⟨Nat.le_of_ble_eq_true rfl, Nat.le_of_ble_eq_true rfl⟩) E hA I (k_recv E I (by decide) kc_11 rfl) rfl hl.1 rfl (lv_room (Nat.le_of_ble_eq_true rfl)) dX1_holdsBy_19 ⟨Nat.le_of_ble_eq_true rfl, Nat.le_of_ble_eq_true rfl⟩ (fun r_19 σ_19 H locs hp_19 I => ?_)
    obtain ⟨hk_, hq_⟩ := hp_19
    have hQ := q14_tr hQ hq_
    have hB := rBay_qc hN.1.2.2.2.1 hB (q14_qc hq_)
    rcases hk_ with ⟨rfl, g1⟩ | ⟨rfl, g1⟩
    · exact k_zret hx hb hr (by decide) hlk I dX1_holdsBy_22 (⟨by unfold pHo; rw [if_pos hm0]; first | exact kT_1 g1 | exact kT_0 g1, hQ⟩)
    · exact k_zret hx hb hr (by decide) hlk I dX1_holdsBy_22 (⟨by unfold pHo; rw [if_pos hm0]; first | exact kT_1 g1 | exact kT_0 g1, hQ⟩)
set_option maxHeartbeats 4000000 in
set_option maxRecDepth 100000 in
theorem c_X1_measureSwing (cy : Nat → ClassId) (D : va_G) (ad : Nat → Nat) (l : Launch) (σ : Nat → Nat → Int32) (N : Nat → Nat) (hN : nOk N) (i : Nat) (hi : i < N 1) (hB : rBay σ N) (n b : Nat) (hn : n ≤ 60) (hb20 : b ≤ 20) : kMv 38 ad (kcC cy ad) cy D l yX1_measureSwing wsX1_measureSwing ({ frames := 4, cells := 0, slots := 0, locals := 91 }) [.ref (ad 11), .ref (ad (15 + 3 * i)), .int (nI n), .int (nI b)] σ (fun σ' => ∃ τ, q14 σ τ ∧ σ' = va_up τ (15 + 3 * i) (upd (τ (15 + 3 * i)) 9 (nI (pSw N i n b)))) := by
  have H_i : i < 5 := by have := hN.1; omega
  have hsh := hN.2.2 i hi
  unfold nSh at hsh
  have hpp := pP_le (N := N) (i := i) hsh.2.2.1.2.1 hb20
  have hdx := pD_le hN hsh.1.1
  refine k_entry (cc := cX1_measureSwing) (maxL := 4) (ret := none) (by decide) rfl (Nat.le_of_ble_eq_true rfl) ?_
  intro p e s m below meth c hx hb hr hml hown hts hlk E I ls hl
  have hA : ∀ q, s.heap.size ≤ q → kA 38 ad s.heap.size q := fun q h => Or.inr h
  have hown : s.vm.findClass RX1 = some m.cls := hown
  have hl : lv_has ls 4 [(0, .ref (ad 11)), (1, .ref (ad (15 + 3 * i))), (2, .int (nI n)), (3, .int (nI b))] := hl
  have iX1 : ∀ w ∈ u_ws RX1 TX1 6, w ∈ wsX1_measureSwing := fun w h => List.mem_cons_of_mem _ (List.mem_append_left _ (List.mem_append_left _ (List.mem_append_right _ h)))
  have iX2 : ∀ w ∈ u_ws RX2 TX2 12, w ∈ wsX1_measureSwing := fun w h => List.mem_cons_of_mem _ (List.mem_append_left _ (List.mem_append_right _ h))
  have iX6 : ∀ w ∈ u_ws RX6 TX6 10, w ∈ wsX1_measureSwing := fun w h => List.mem_cons_of_mem _ (List.mem_append_left _ (List.mem_append_left _ (List.mem_append_left _ (List.mem_append_right _ h))))
  refine lv_aload_n hx hb dX1_measureSwing_0 rfl (lv_at hl 0 rfl) ?_
  refine lv_aload_n hx hb dX1_measureSwing_1 rfl (lv_at hl 1 rfl) ?_
  refine lv_aload_n hx hb dX1_measureSwing_2 rfl (lv_at hl 1 rfl) ?_
  refine k_get (C := RX6) (T := TX6) (N := 10) (v := .ref (ad (16 + 3 * i))) hx hb hts hown E I iX6 (15 + 3 * i) (by omega) (r0 := σ (15 + 3 * i)) rfl (kc_S H_i) rfl 0 (by decide) (List.mem_of_getElem? (i := 1) rfl) rfl dX1_measureSwing_3 ?_
  refine lv_iload_n hx hb dX1_measureSwing_6 rfl (lv_at hl 2 rfl) ?_
  refine lv_aload_n hx hb dX1_measureSwing_7 rfl (lv_at hl 1 rfl) ?_
  refine lv_iload_n hx hb dX1_measureSwing_8 rfl (lv_at hl 3 rfl) ?_
  refine k_calli (k := 15 + 3 * i) (As := [.int (nI b)]) (rest := [.int (nI n), .ref (ad (16 + 3 * i)), .ref (ad (15 + 3 * i)), .ref (ad 11)]) ⟨hx, hb, hml, hown, hts⟩ (c_X6_pullBy cy D ad l σ i (N (23 + 13 * i + 5)) b H_i hsh.2.2.1.2.1 hb20 (rB_f hB hi 5 (by decide))) (cwV 1 hts gX1_measureSwing_X6_pullBy rfl rfl rfl (by decide +kernel) ⟨Nat.le_of_ble_eq_true rfl, Nat.le_of_ble_eq_true rfl⟩) E hA I (k_recv E I (by omega) (kc_S H_i) rfl) rfl hl.1 rfl (lv_room (Nat.le_of_ble_eq_true rfl)) dX1_measureSwing_9 ⟨Nat.le_of_ble_eq_true rfl, Nat.le_of_ble_eq_true rfl⟩ (fun r_9 σ_9 H locs hp_9 I => ?_)
  obtain ⟨rfl, rfl⟩ := hp_9
  have ep : b * b * N (23 + 13 * i + 5) / 4 = pP N i b := rfl
  rw [ep]
  refine k_callq (k := 11) (As := [.ref (ad (15 + 3 * i)), .ref (ad (16 + 3 * i)), .int (nI n), .int (nI (pP N i b))]) (rest := []) ⟨hx, hb, hml, hown, hts⟩ (c_X1_chainOf cy D ad l σ i (N (23 + 13 * i + 3)) (N (23 + 13 * i)) (N (3 + N (23 + 13 * i))) n (pP N i b) H_i (by have := hN.1; omega) (hN.2.1 _ hsh.1.1).2 (rB_f hB hi 3 (by decide)) (rB_f hB hi 0 (by decide)) (hB.2.1 _ hsh.1.1)) (cwV 4 hts gX1_measureSwing_X1_chainOf rfl rfl rfl (by decide +kernel) ⟨Nat.le_of_ble_eq_true rfl, Nat.le_of_ble_eq_true rfl⟩) E hA I (k_recv E I (by decide) kc_11 rfl) rfl hl.1 rfl (lv_room (Nat.le_of_ble_eq_true rfl)) dX1_measureSwing_12 ⟨Nat.le_of_ble_eq_true rfl, Nat.le_of_ble_eq_true rfl⟩ (fun r_12 σ_12 H locs hp_12 I => ?_)
  obtain ⟨rfl, hs_⟩ := hp_12
  refine k_callv (k := 14) (As := []) (rest := []) ⟨hx, hb, hml, hown, hts⟩ (c_X2_findLie cy D ad l σ_12 (pP N i b) (N (23 + 13 * i + 3)) n (10 * N (3 + N (23 + 13 * i))) (by omega) hsh.2.1.1 hsh.2.1.2.1 hn hdx.2 (by rw [hs_]; rfl) (by rw [hs_]; rfl) (by rw [hs_]; rfl) (by rw [hs_]; rfl)) (cwV 0 hts gX1_measureSwing_X2_findLie rfl rfl rfl (by decide +kernel) ⟨Nat.le_of_ble_eq_true rfl, Nat.le_of_ble_eq_true rfl⟩) E hA I (k_recv E I (by decide) kc_14 rfl) rfl hl.1 rfl (lv_room (Nat.le_of_ble_eq_true rfl)) dX1_measureSwing_15 ⟨Nat.le_of_ble_eq_true rfl, Nat.le_of_ble_eq_true rfl⟩ (fun σ_15 H locs hp_15 I => ?_)
  obtain ⟨R, hs2_, r0, r1, r2, r3, r4⟩ := hp_15
  have hQ : q14 σ σ_15 := q14_tr ⟨_, hs_⟩ ⟨_, hs2_⟩
  have hB := rBay_qc hN.1.2.2.2.1 hB (q14_qc hQ)
  have e2 : σ_15 14 2 = nI (zReach (pP N i b) (N (23 + 13 * i + 3)) (pD N (N (23 + 13 * i))) n) := by rw [hs2_]; exact r2
  refine lv_aload_n hx hb dX1_measureSwing_18 rfl (lv_at hl 1 rfl) ?_
  refine lv_aload_n hx hb dX1_measureSwing_19 rfl (lv_at hl 0 rfl) ?_
  refine k_get (C := RX1) (T := TX1) (N := 6) (v := .ref (ad 14)) hx hb hts hown E I iX1 (11) (by decide) (r0 := σ_15 11) rfl kc_11 rfl 2 (by decide) (List.mem_of_getElem? (i := 2) rfl) rfl dX1_measureSwing_20 ?_
  refine k_get (C := RX2) (T := TX2) (N := 12) (v := .int (nI (zReach (pP N i b) (N (23 + 13 * i + 3)) (pD N (N (23 + 13 * i))) n))) hx hb hts hown E I iX2 (14) (by decide) (r0 := σ_15 14) rfl kc_14 rfl 2 (by decide) (List.mem_of_getElem? (i := 3) rfl) (congrArg (fun z => some (Value.int z)) e2) dX1_measureSwing_23 ?_
  refine lv_bipush (v := nI 10) hx hb dX1_measureSwing_26 (by decide) ?_
  refine lv_aload_n hx hb dX1_measureSwing_28 rfl (lv_at hl 1 rfl) ?_
  refine k_get (C := RX6) (T := TX6) (N := 10) (v := .int (nI (N (23 + 13 * i + 4)))) hx hb hts hown E I iX6 (15 + 3 * i) (by omega) (r0 := σ_15 (15 + 3 * i)) rfl (kc_S H_i) rfl 6 (by decide) (List.mem_of_getElem? (i := 4) rfl) (congrArg (fun z => some (Value.int z)) (rB_f hB hi 4 (by decide))) dX1_measureSwing_29 ?_
  refine lv_imul hx hb dX1_measureSwing_32 ?_
  rw [pk_mul]
  refine lv_iadd hx hb dX1_measureSwing_33 ?_
  rw [nI_add]
  refine k_put (C := RX6) (T := TX6) (N := 10) (ty0 := tyX6) (ty := .int) (v := .int (nI ((zReach (pP N i b) (N (23 + 13 * i + 3)) (pD N (N (23 + 13 * i))) n) + (10 * (N (23 + 13 * i + 4)))))) hx hb hts hown E I iX6 tyX6_ok nmX6 (15 + 3 * i) (by omega) (r0 := σ_15 (15 + 3 * i)) rfl (kc_S H_i) rfl 9 (by decide) (List.mem_of_getElem? (i := 5) rfl) rfl rfl rfl rfl (Nat.le_of_ble_eq_true rfl) (upd (σ_15 (15 + 3 * i)) 9 (nI ((zReach (pP N i b) (N (23 + 13 * i + 3)) (pD N (N (23 + 13 * i))) n) + (10 * (N (23 + 13 * i + 4)))))) (kc_S (cy := cy) (ad := ad) (r := (upd (σ_15 (15 + 3 * i)) 9 (nI ((zReach (pP N i b) (N (23 + 13 * i + 3)) (pD N (N (23 + 13 * i))) n) + (10 * (N (23 + 13 * i + 4))))))) H_i).symm (σ2 := va_up σ_15 (15 + 3 * i) (upd (σ_15 (15 + 3 * i)) 9 (nI ((zReach (pP N i b) (N (23 + 13 * i + 3)) (pD N (N (23 + 13 * i))) n) + (10 * (N (23 + 13 * i + 4))))))) rfl dX1_measureSwing_34 (fun H locs I => ?_)
  exact k_vret hx hb hr hlk I dX1_measureSwing_37 (⟨σ_15, hQ, rfl⟩)

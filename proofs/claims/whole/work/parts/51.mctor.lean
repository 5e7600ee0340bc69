/-! THE REFERENCE'S CONSTRUCTOR -/
set_option maxHeartbeats 16000000 in
set_option maxRecDepth 100000 in
theorem c_X8_init (cy : Nat → ClassId) (D : va_G) (l : Launch) (h0 : Nat) : ∀ sz : Nat, Met l yX8_init wsX8_init ({ frames := 1, cells := 5, slots := 911, locals := 30 }) (va_Pc [.ref h0] (dP h0 (.inr (8, [.null, .null, .null, .int 0, .null, .int 0, .int 0, .null, .int 0, .int 0, .int 0, .int 0, .int 0])) cy D sz)) (dQ h0 (.inr (8, [.null, .null, .null, .int 0, .null, .int 0, .int 0, .null, .int 0, .int 0, .int 0, .int 0, .int 0])) D 6 (kcM cy) (fun σ => rM σ Z0) sz) 5 911 (va_A [(h0, .inr (8, [.null, .null, .null, .int 0, .null, .int 0, .int 0, .null, .int 0, .int 0, .int 0, .int 0, .int 0]))] sz) := by
  refine d_entry (cc := cX8_init) (maxL := 1) (by decide) rfl (Nat.le_of_ble_eq_true rfl) ?_
  intro p e s m below meth c hx hb hr hml hown hts hlk hnm hK hX E hP ls hl
  have hown : s.vm.findClass RX8 = some m.cls := hown
  have hnm : meth.name = "<init>" := hnm
  have iX8 : ∀ w ∈ u_ws RX8 TX8 13, w ∈ wsX8_init := fun w h => List.mem_cons_of_mem _ (List.mem_append_right _ h)
  have hD : va_D (va_A [(h0, .inr (8, [.null, .null, .null, .int 0, .null, .int 0, .int 0, .null, .int 0, .int 0, .int 0, .int 0, .int 0]))] s.heap.size) [(h0, .inr (8, [.null, .null, .null, .int 0, .null, .int 0, .int 0, .null, .int 0, .int 0, .int 0, .int 0, .int 0]))] := cD1
  generalize hAe : va_A [(h0, .inr (8, [.null, .null, .null, .int 0, .null, .int 0, .int 0, .null, .int 0, .int 0, .int 0, .int 0, .int 0]))] s.heap.size = A at hD E ⊢
  have hA : ∀ q : Nat, s.heap.size ≤ q → A q := fun q h => by rw [← hAe]; exact Or.inr h
  have hS : va_S A s.heap s.heap [] := va_S.rf
  refine lv_aload_n hx hb dX8_init_0 rfl (lv_at hl 0 rfl) ?_
  refine W.objInit hx hb hown (hts _ (List.mem_of_getElem? (i := 1) rfl)) (hts _ (List.mem_of_getElem? (i := 2) rfl)) (hts _ (List.mem_of_getElem? (i := 3) rfl)) rfl (by rw [hml]; exact hl.1) rfl dX8_init_1 (Nat.le_of_ble_eq_true rfl) (Nat.le_of_ble_eq_true rfl) ?_
  refine W.eq (g2 := F0 m 4 ls []) rfl ?_
  refine lv_aload_n hx hb dX8_init_4 rfl (lv_at hl 0 rfl) ?_
  refine lv_bipush (v := nI 88) hx hb dX8_init_5 (by decide) ?_
  refine va_newa (atype := .int) (ty := .int) (a0 := (88, .inl (fun _ => 0))) (N' := 88) hx hb (hts _ (List.mem_of_getElem? (i := 4) rfl)) rfl hK hP hD hS hA (fun _ => rfl) (by decide) (by decide) (Nat.le_of_ble_eq_true rfl) (Nat.le_of_ble_eq_true rfl) (Nat.le_of_ble_eq_true rfl) dX8_init_7 (fun q7 cA H hK9 hP hD hS => ?_)
  have hcA := kty_i hK9
  subst hcA
  have hP : va_P D vwCl [(h0, .inr (8, [.null, .null, .null, .int 0, .null, .int 0, .int 0, .null, .int 0, .int 0, .int 0, .int 0, .int 0])), (q7, .inl (cy 1, 88, .inl (fun _ => 0)))] H := hP
  have hD : va_D A [(h0, .inr (8, [.null, .null, .null, .int 0, .null, .int 0, .int 0, .null, .int 0, .int 0, .int 0, .int 0, .int 0])), (q7, .inl (cy 1, 88, .inl (fun _ => 0)))] := hD
  refine W.widen (k := 1) (n := 88) (Nat.le_of_ble_eq_true rfl) (Nat.le_of_ble_eq_true rfl) ?_
  refine va_putF (D := D) (ci := 8) (v := .ref q7) (ty := .array .int) (C := RX8) (T := TX8) (N := 13) hx hb hts iX8 tyX8 tyX8_ok nmX8 hown hK hP hD hS 0 rfl rfl 0 (by decide) (hts _ (List.mem_of_getElem? (i := 5) rfl)) (fun _ h9 => h9) rfl hnm rfl (by decide +kernel) rfl rfl (Nat.le_of_ble_eq_true rfl) dX8_init_9 (fun H locs hP hD hS => ?_)
  have hP : va_P D vwCl [(h0, .inr (8, [.ref q7, .null, .null, .int 0, .null, .int 0, .int 0, .null, .int 0, .int 0, .int 0, .int 0, .int 0])), (q7, .inl (cy 1, 88, .inl (fun _ => 0)))] H := hP
  have hD : va_D A [(h0, .inr (8, [.ref q7, .null, .null, .int 0, .null, .int 0, .int 0, .null, .int 0, .int 0, .int 0, .int 0, .int 0])), (q7, .inl (cy 1, 88, .inl (fun _ => 0)))] := hD
  refine lv_aload_n hx hb dX8_init_12 rfl (lv_at hl 0 rfl) ?_
  refine lv_bipush (v := nI 88) hx hb dX8_init_13 (by decide) ?_
  refine va_newa (atype := .int) (ty := .int) (a0 := (88, .inl (fun _ => 0))) (N' := 88) hx hb (hts _ (List.mem_of_getElem? (i := 4) rfl)) rfl hK hP hD hS hA (fun _ => rfl) (by decide) (by decide) (Nat.le_of_ble_eq_true rfl) (Nat.le_of_ble_eq_true rfl) (Nat.le_of_ble_eq_true rfl) dX8_init_15 (fun q15 cA H hK9 hP hD hS => ?_)
  have hcA := kty_i hK9
  subst hcA
  have hP : va_P D vwCl [(h0, .inr (8, [.ref q7, .null, .null, .int 0, .null, .int 0, .int 0, .null, .int 0, .int 0, .int 0, .int 0, .int 0])), (q7, .inl (cy 1, 88, .inl (fun _ => 0))), (q15, .inl (cy 1, 88, .inl (fun _ => 0)))] H := hP
  have hD : va_D A [(h0, .inr (8, [.ref q7, .null, .null, .int 0, .null, .int 0, .int 0, .null, .int 0, .int 0, .int 0, .int 0, .int 0])), (q7, .inl (cy 1, 88, .inl (fun _ => 0))), (q15, .inl (cy 1, 88, .inl (fun _ => 0)))] := hD
  refine W.widen (k := 2) (n := 176) (Nat.le_of_ble_eq_true rfl) (Nat.le_of_ble_eq_true rfl) ?_
  refine va_putF (D := D) (ci := 8) (v := .ref q15) (ty := .array .int) (C := RX8) (T := TX8) (N := 13) hx hb hts iX8 tyX8 tyX8_ok nmX8 hown hK hP hD hS 0 rfl rfl 1 (by decide) (hts _ (List.mem_of_getElem? (i := 6) rfl)) (fun _ h9 => h9) rfl hnm rfl (by decide +kernel) rfl rfl (Nat.le_of_ble_eq_true rfl) dX8_init_17 (fun H locs hP hD hS => ?_)
  have hP : va_P D vwCl [(h0, .inr (8, [.ref q7, .ref q15, .null, .int 0, .null, .int 0, .int 0, .null, .int 0, .int 0, .int 0, .int 0, .int 0])), (q7, .inl (cy 1, 88, .inl (fun _ => 0))), (q15, .inl (cy 1, 88, .inl (fun _ => 0)))] H := hP
  have hD : va_D A [(h0, .inr (8, [.ref q7, .ref q15, .null, .int 0, .null, .int 0, .int 0, .null, .int 0, .int 0, .int 0, .int 0, .int 0])), (q7, .inl (cy 1, 88, .inl (fun _ => 0))), (q15, .inl (cy 1, 88, .inl (fun _ => 0)))] := hD
  refine lv_aload_n hx hb dX8_init_20 rfl (lv_at hl 0 rfl) ?_
  refine lv_sipush (v := nI 528) hx hb dX8_init_21 (by decide) ?_
  refine va_newa (atype := .int) (ty := .int) (a0 := (528, .inl (fun _ => 0))) (N' := 528) hx hb (hts _ (List.mem_of_getElem? (i := 4) rfl)) rfl hK hP hD hS hA (fun _ => rfl) (by decide) (by decide) (Nat.le_of_ble_eq_true rfl) (Nat.le_of_ble_eq_true rfl) (Nat.le_of_ble_eq_true rfl) dX8_init_24 (fun q24 cA H hK9 hP hD hS => ?_)
  have hcA := kty_i hK9
  subst hcA
  have hP : va_P D vwCl [(h0, .inr (8, [.ref q7, .ref q15, .null, .int 0, .null, .int 0, .int 0, .null, .int 0, .int 0, .int 0, .int 0, .int 0])), (q7, .inl (cy 1, 88, .inl (fun _ => 0))), (q15, .inl (cy 1, 88, .inl (fun _ => 0))), (q24, .inl (cy 1, 528, .inl (fun _ => 0)))] H := hP
  have hD : va_D A [(h0, .inr (8, [.ref q7, .ref q15, .null, .int 0, .null, .int 0, .int 0, .null, .int 0, .int 0, .int 0, .int 0, .int 0])), (q7, .inl (cy 1, 88, .inl (fun _ => 0))), (q15, .inl (cy 1, 88, .inl (fun _ => 0))), (q24, .inl (cy 1, 528, .inl (fun _ => 0)))] := hD
  refine W.widen (k := 3) (n := 704) (Nat.le_of_ble_eq_true rfl) (Nat.le_of_ble_eq_true rfl) ?_
  refine va_putF (D := D) (ci := 8) (v := .ref q24) (ty := .array .int) (C := RX8) (T := TX8) (N := 13) hx hb hts iX8 tyX8 tyX8_ok nmX8 hown hK hP hD hS 0 rfl rfl 2 (by decide) (hts _ (List.mem_of_getElem? (i := 7) rfl)) (fun _ h9 => h9) rfl hnm rfl (by decide +kernel) rfl rfl (Nat.le_of_ble_eq_true rfl) dX8_init_26 (fun H locs hP hD hS => ?_)
  have hP : va_P D vwCl [(h0, .inr (8, [.ref q7, .ref q15, .ref q24, .int 0, .null, .int 0, .int 0, .null, .int 0, .int 0, .int 0, .int 0, .int 0])), (q7, .inl (cy 1, 88, .inl (fun _ => 0))), (q15, .inl (cy 1, 88, .inl (fun _ => 0))), (q24, .inl (cy 1, 528, .inl (fun _ => 0)))] H := hP
  have hD : va_D A [(h0, .inr (8, [.ref q7, .ref q15, .ref q24, .int 0, .null, .int 0, .int 0, .null, .int 0, .int 0, .int 0, .int 0, .int 0])), (q7, .inl (cy 1, 88, .inl (fun _ => 0))), (q15, .inl (cy 1, 88, .inl (fun _ => 0))), (q24, .inl (cy 1, 528, .inl (fun _ => 0)))] := hD
  refine lv_aload_n hx hb dX8_init_29 rfl (lv_at hl 0 rfl) ?_
  refine lv_sipush (v := nI 200) hx hb dX8_init_30 (by decide) ?_
  refine va_newa (atype := .int) (ty := .int) (a0 := (200, .inl (fun _ => 0))) (N' := 200) hx hb (hts _ (List.mem_of_getElem? (i := 4) rfl)) rfl hK hP hD hS hA (fun _ => rfl) (by decide) (by decide) (Nat.le_of_ble_eq_true rfl) (Nat.le_of_ble_eq_true rfl) (Nat.le_of_ble_eq_true rfl) dX8_init_33 (fun q33 cA H hK9 hP hD hS => ?_)
  have hcA := kty_i hK9
  subst hcA
  have hP : va_P D vwCl [(h0, .inr (8, [.ref q7, .ref q15, .ref q24, .int 0, .null, .int 0, .int 0, .null, .int 0, .int 0, .int 0, .int 0, .int 0])), (q7, .inl (cy 1, 88, .inl (fun _ => 0))), (q15, .inl (cy 1, 88, .inl (fun _ => 0))), (q24, .inl (cy 1, 528, .inl (fun _ => 0))), (q33, .inl (cy 1, 200, .inl (fun _ => 0)))] H := hP
  have hD : va_D A [(h0, .inr (8, [.ref q7, .ref q15, .ref q24, .int 0, .null, .int 0, .int 0, .null, .int 0, .int 0, .int 0, .int 0, .int 0])), (q7, .inl (cy 1, 88, .inl (fun _ => 0))), (q15, .inl (cy 1, 88, .inl (fun _ => 0))), (q24, .inl (cy 1, 528, .inl (fun _ => 0))), (q33, .inl (cy 1, 200, .inl (fun _ => 0)))] := hD
  refine W.widen (k := 4) (n := 904) (Nat.le_of_ble_eq_true rfl) (Nat.le_of_ble_eq_true rfl) ?_
  refine va_putF (D := D) (ci := 8) (v := .ref q33) (ty := .array .int) (C := RX8) (T := TX8) (N := 13) hx hb hts iX8 tyX8 tyX8_ok nmX8 hown hK hP hD hS 0 rfl rfl 4 (by decide) (hts _ (List.mem_of_getElem? (i := 8) rfl)) (fun _ h9 => h9) rfl hnm rfl (by decide +kernel) rfl rfl (Nat.le_of_ble_eq_true rfl) dX8_init_35 (fun H locs hP hD hS => ?_)
  have hP : va_P D vwCl [(h0, .inr (8, [.ref q7, .ref q15, .ref q24, .int 0, .ref q33, .int 0, .int 0, .null, .int 0, .int 0, .int 0, .int 0, .int 0])), (q7, .inl (cy 1, 88, .inl (fun _ => 0))), (q15, .inl (cy 1, 88, .inl (fun _ => 0))), (q24, .inl (cy 1, 528, .inl (fun _ => 0))), (q33, .inl (cy 1, 200, .inl (fun _ => 0)))] H := hP
  have hD : va_D A [(h0, .inr (8, [.ref q7, .ref q15, .ref q24, .int 0, .ref q33, .int 0, .int 0, .null, .int 0, .int 0, .int 0, .int 0, .int 0])), (q7, .inl (cy 1, 88, .inl (fun _ => 0))), (q15, .inl (cy 1, 88, .inl (fun _ => 0))), (q24, .inl (cy 1, 528, .inl (fun _ => 0))), (q33, .inl (cy 1, 200, .inl (fun _ => 0)))] := hD
  refine lv_aload_n hx hb dX8_init_38 rfl (lv_at hl 0 rfl) ?_
  refine lv_bipush (v := nI 7) hx hb dX8_init_39 (by decide) ?_
  refine va_newa (atype := .int) (ty := .int) (a0 := (7, .inl (fun _ => 0))) (N' := 7) hx hb (hts _ (List.mem_of_getElem? (i := 4) rfl)) rfl hK hP hD hS hA (fun _ => rfl) (by decide) (by decide) (Nat.le_of_ble_eq_true rfl) (Nat.le_of_ble_eq_true rfl) (Nat.le_of_ble_eq_true rfl) dX8_init_41 (fun q41 cA H hK9 hP hD hS => ?_)
  have hcA := kty_i hK9
  subst hcA
  have hP : va_P D vwCl [(h0, .inr (8, [.ref q7, .ref q15, .ref q24, .int 0, .ref q33, .int 0, .int 0, .null, .int 0, .int 0, .int 0, .int 0, .int 0])), (q7, .inl (cy 1, 88, .inl (fun _ => 0))), (q15, .inl (cy 1, 88, .inl (fun _ => 0))), (q24, .inl (cy 1, 528, .inl (fun _ => 0))), (q33, .inl (cy 1, 200, .inl (fun _ => 0))), (q41, .inl (cy 1, 7, .inl (fun _ => 0)))] H := hP
  have hD : va_D A [(h0, .inr (8, [.ref q7, .ref q15, .ref q24, .int 0, .ref q33, .int 0, .int 0, .null, .int 0, .int 0, .int 0, .int 0, .int 0])), (q7, .inl (cy 1, 88, .inl (fun _ => 0))), (q15, .inl (cy 1, 88, .inl (fun _ => 0))), (q24, .inl (cy 1, 528, .inl (fun _ => 0))), (q33, .inl (cy 1, 200, .inl (fun _ => 0))), (q41, .inl (cy 1, 7, .inl (fun _ => 0)))] := hD
  refine W.widen (k := 5) (n := 911) (Nat.le_of_ble_eq_true rfl) (Nat.le_of_ble_eq_true rfl) ?_
  refine va_putF (D := D) (ci := 8) (v := .ref q41) (ty := .array .int) (C := RX8) (T := TX8) (N := 13) hx hb hts iX8 tyX8 tyX8_ok nmX8 hown hK hP hD hS 0 rfl rfl 7 (by decide) (hts _ (List.mem_of_getElem? (i := 9) rfl)) (fun _ h9 => h9) rfl hnm rfl (by decide +kernel) rfl rfl (Nat.le_of_ble_eq_true rfl) dX8_init_43 (fun H locs hP hD hS => ?_)
  have hP : va_P D vwCl [(h0, .inr (8, [.ref q7, .ref q15, .ref q24, .int 0, .ref q33, .int 0, .int 0, .ref q41, .int 0, .int 0, .int 0, .int 0, .int 0])), (q7, .inl (cy 1, 88, .inl (fun _ => 0))), (q15, .inl (cy 1, 88, .inl (fun _ => 0))), (q24, .inl (cy 1, 528, .inl (fun _ => 0))), (q33, .inl (cy 1, 200, .inl (fun _ => 0))), (q41, .inl (cy 1, 7, .inl (fun _ => 0)))] H := hP
  have hD : va_D A [(h0, .inr (8, [.ref q7, .ref q15, .ref q24, .int 0, .ref q33, .int 0, .int 0, .ref q41, .int 0, .int 0, .int 0, .int 0, .int 0])), (q7, .inl (cy 1, 88, .inl (fun _ => 0))), (q15, .inl (cy 1, 88, .inl (fun _ => 0))), (q24, .inl (cy 1, 528, .inl (fun _ => 0))), (q33, .inl (cy 1, 200, .inl (fun _ => 0))), (q41, .inl (cy 1, 7, .inl (fun _ => 0)))] := hD
  have I : kI 6 (fun k => [h0, q7, q15, q24, q33, q41].getD k 0) (kcM cy (fun k => [h0, q7, q15, q24, q33, q41].getD k 0)) D A s.heap (fun _ _ => 0) H locs := ⟨hP, hD, hS⟩
  generalize hade : (fun k => [h0, q7, q15, q24, q33, q41].getD k 0) = ad at I
  have had0 : ad 0 = h0 := by rw [← hade]; rfl
  have hl : lv_has ls 1 [(0, .ref (ad 0))] := by rw [had0]; exact hl
  obtain ⟨σ0, hσ0⟩ : ∃ z : Nat → Nat → Int32, z = fun _ _ => 0 := ⟨_, rfl⟩
  rw [← hσ0] at I
  have hD0 : mD σ0 mI0 := fun k _ => by rw [hσ0]; rfl
  have hQ := qd_rf σ0
  refine lv_aload_n hx hb dX8_init_46 rfl (lv_at hl 0 rfl) ?_
  refine lv_iconst (v := nI 3) hx hb dX8_init_47 (by decide) ?_
  refine k_callv (k := 0) (As := [.int (nI 3)]) (rest := []) ⟨hx, hb, hml, hown, hts⟩ (c_X8_column cy D ad l σ0 3 (mI0 0) (by decide +kernel) (hD0 0 (by decide))) (cwV 1 hts gX8_init_X8_column rfl rfl rfl (by decide +kernel) ⟨Nat.le_of_ble_eq_true rfl, Nat.le_of_ble_eq_true rfl⟩) E hA I (k_recv E I (by decide) km_0 rfl) rfl hl.1 rfl (lv_room (Nat.le_of_ble_eq_true rfl)) dX8_init_48 ⟨Nat.le_of_ble_eq_true rfl, Nat.le_of_ble_eq_true rfl⟩ (fun σ_48 H locs hp_48 I => ?_)
  have hD1 : mD σ_48 mI1 := cm_yes hD0 hp_48
  have hQ := qd_tr hQ (qd_2 hp_48)
  refine lv_aload_n hx hb dX8_init_51 rfl (lv_at hl 0 rfl) ?_
  refine lv_iconst (v := nI 4) hx hb dX8_init_52 (by decide) ?_
  refine k_callv (k := 0) (As := [.int (nI 4)]) (rest := []) ⟨hx, hb, hml, hown, hts⟩ (c_X8_column cy D ad l σ_48 4 (mI1 0) (by decide +kernel) (hD1 0 (by decide))) (cwV 1 hts gX8_init_X8_column rfl rfl rfl (by decide +kernel) ⟨Nat.le_of_ble_eq_true rfl, Nat.le_of_ble_eq_true rfl⟩) E hA I (k_recv E I (by decide) km_0 rfl) rfl hl.1 rfl (lv_room (Nat.le_of_ble_eq_true rfl)) dX8_init_53 ⟨Nat.le_of_ble_eq_true rfl, Nat.le_of_ble_eq_true rfl⟩ (fun σ_53 H locs hp_53 I => ?_)
  have hD2 : mD σ_53 mI2 := cm_yes hD1 hp_53
  have hQ := qd_tr hQ (qd_2 hp_53)
  refine lv_aload_n hx hb dX8_init_56 rfl (lv_at hl 0 rfl) ?_
  refine lv_iconst (v := nI 4) hx hb dX8_init_57 (by decide) ?_
  refine k_callv (k := 0) (As := [.int (nI 4)]) (rest := []) ⟨hx, hb, hml, hown, hts⟩ (c_X8_column cy D ad l σ_53 4 (mI2 0) (by decide +kernel) (hD2 0 (by decide))) (cwV 1 hts gX8_init_X8_column rfl rfl rfl (by decide +kernel) ⟨Nat.le_of_ble_eq_true rfl, Nat.le_of_ble_eq_true rfl⟩) E hA I (k_recv E I (by decide) km_0 rfl) rfl hl.1 rfl (lv_room (Nat.le_of_ble_eq_true rfl)) dX8_init_58 ⟨Nat.le_of_ble_eq_true rfl, Nat.le_of_ble_eq_true rfl⟩ (fun σ_58 H locs hp_58 I => ?_)
  have hD3 : mD σ_58 mI3 := cm_yes hD2 hp_58
  have hQ := qd_tr hQ (qd_2 hp_58)
  refine lv_aload_n hx hb dX8_init_61 rfl (lv_at hl 0 rfl) ?_
  refine lv_bipush (v := nI 6) hx hb dX8_init_62 (by decide) ?_
  refine k_callv (k := 0) (As := [.int (nI 6)]) (rest := []) ⟨hx, hb, hml, hown, hts⟩ (c_X8_column cy D ad l σ_58 6 (mI3 0) (by decide +kernel) (hD3 0 (by decide))) (cwV 1 hts gX8_init_X8_column rfl rfl rfl (by decide +kernel) ⟨Nat.le_of_ble_eq_true rfl, Nat.le_of_ble_eq_true rfl⟩) E hA I (k_recv E I (by decide) km_0 rfl) rfl hl.1 rfl (lv_room (Nat.le_of_ble_eq_true rfl)) dX8_init_64 ⟨Nat.le_of_ble_eq_true rfl, Nat.le_of_ble_eq_true rfl⟩ (fun σ_64 H locs hp_64 I => ?_)
  have hD4 : mD σ_64 mI4 := cm_yes hD3 hp_64
  have hQ := qd_tr hQ (qd_2 hp_64)
  refine lv_aload_n hx hb dX8_init_67 rfl (lv_at hl 0 rfl) ?_
  refine lv_bipush (v := nI 8) hx hb dX8_init_68 (by decide) ?_
  refine k_callv (k := 0) (As := [.int (nI 8)]) (rest := []) ⟨hx, hb, hml, hown, hts⟩ (c_X8_column cy D ad l σ_64 8 (mI4 0) (by decide +kernel) (hD4 0 (by decide))) (cwV 1 hts gX8_init_X8_column rfl rfl rfl (by decide +kernel) ⟨Nat.le_of_ble_eq_true rfl, Nat.le_of_ble_eq_true rfl⟩) E hA I (k_recv E I (by decide) km_0 rfl) rfl hl.1 rfl (lv_room (Nat.le_of_ble_eq_true rfl)) dX8_init_70 ⟨Nat.le_of_ble_eq_true rfl, Nat.le_of_ble_eq_true rfl⟩ (fun σ_70 H locs hp_70 I => ?_)
  have hD5 : mD σ_70 mI5 := cm_yes hD4 hp_70
  have hQ := qd_tr hQ (qd_2 hp_70)
  refine lv_aload_n hx hb dX8_init_73 rfl (lv_at hl 0 rfl) ?_
  refine lv_bipush (v := nI 8) hx hb dX8_init_74 (by decide) ?_
  refine k_callv (k := 0) (As := [.int (nI 8)]) (rest := []) ⟨hx, hb, hml, hown, hts⟩ (c_X8_column cy D ad l σ_70 8 (mI5 0) (by decide +kernel) (hD5 0 (by decide))) (cwV 1 hts gX8_init_X8_column rfl rfl rfl (by decide +kernel) ⟨Nat.le_of_ble_eq_true rfl, Nat.le_of_ble_eq_true rfl⟩) E hA I (k_recv E I (by decide) km_0 rfl) rfl hl.1 rfl (lv_room (Nat.le_of_ble_eq_true rfl)) dX8_init_76 ⟨Nat.le_of_ble_eq_true rfl, Nat.le_of_ble_eq_true rfl⟩ (fun σ_76 H locs hp_76 I => ?_)
  have hD6 : mD σ_76 mI6 := cm_yes hD5 hp_76
  have hQ := qd_tr hQ (qd_2 hp_76)
  refine lv_aload_n hx hb dX8_init_79 rfl (lv_at hl 0 rfl) ?_
  refine lv_iconst (v := nI 5) hx hb dX8_init_80 (by decide) ?_
  refine k_callv (k := 0) (As := [.int (nI 5)]) (rest := []) ⟨hx, hb, hml, hown, hts⟩ (c_X8_column cy D ad l σ_76 5 (mI6 0) (by decide +kernel) (hD6 0 (by decide))) (cwV 1 hts gX8_init_X8_column rfl rfl rfl (by decide +kernel) ⟨Nat.le_of_ble_eq_true rfl, Nat.le_of_ble_eq_true rfl⟩) E hA I (k_recv E I (by decide) km_0 rfl) rfl hl.1 rfl (lv_room (Nat.le_of_ble_eq_true rfl)) dX8_init_81 ⟨Nat.le_of_ble_eq_true rfl, Nat.le_of_ble_eq_true rfl⟩ (fun σ_81 H locs hp_81 I => ?_)
  have hD7 : mD σ_81 mI7 := cm_yes hD6 hp_81
  have hQ := qd_tr hQ (qd_2 hp_81)
  refine lv_aload_n hx hb dX8_init_84 rfl (lv_at hl 0 rfl) ?_
  refine lv_iconst (v := nI 4) hx hb dX8_init_85 (by decide) ?_
  refine k_callv (k := 0) (As := [.int (nI 4)]) (rest := []) ⟨hx, hb, hml, hown, hts⟩ (c_X8_column cy D ad l σ_81 4 (mI7 0) (by decide +kernel) (hD7 0 (by decide))) (cwV 1 hts gX8_init_X8_column rfl rfl rfl (by decide +kernel) ⟨Nat.le_of_ble_eq_true rfl, Nat.le_of_ble_eq_true rfl⟩) E hA I (k_recv E I (by decide) km_0 rfl) rfl hl.1 rfl (lv_room (Nat.le_of_ble_eq_true rfl)) dX8_init_86 ⟨Nat.le_of_ble_eq_true rfl, Nat.le_of_ble_eq_true rfl⟩ (fun σ_86 H locs hp_86 I => ?_)
  have hD8 : mD σ_86 mI8 := cm_yes hD7 hp_86
  have hQ := qd_tr hQ (qd_2 hp_86)
  refine lv_aload_n hx hb dX8_init_89 rfl (lv_at hl 0 rfl) ?_
  refine lv_iconst (v := nI 3) hx hb dX8_init_90 (by decide) ?_
  refine k_callv (k := 0) (As := [.int (nI 3)]) (rest := []) ⟨hx, hb, hml, hown, hts⟩ (c_X8_column cy D ad l σ_86 3 (mI8 0) (by decide +kernel) (hD8 0 (by decide))) (cwV 1 hts gX8_init_X8_column rfl rfl rfl (by decide +kernel) ⟨Nat.le_of_ble_eq_true rfl, Nat.le_of_ble_eq_true rfl⟩) E hA I (k_recv E I (by decide) km_0 rfl) rfl hl.1 rfl (lv_room (Nat.le_of_ble_eq_true rfl)) dX8_init_91 ⟨Nat.le_of_ble_eq_true rfl, Nat.le_of_ble_eq_true rfl⟩ (fun σ_91 H locs hp_91 I => ?_)
  have hD9 : mD σ_91 mI9 := cm_yes hD8 hp_91
  have hQ := qd_tr hQ (qd_2 hp_91)
  refine lv_aload_n hx hb dX8_init_94 rfl (lv_at hl 0 rfl) ?_
  refine lv_iconst (v := nI 2) hx hb dX8_init_95 (by decide) ?_
  refine k_callv (k := 0) (As := [.int (nI 2)]) (rest := []) ⟨hx, hb, hml, hown, hts⟩ (c_X8_column cy D ad l σ_91 2 (mI9 0) (by decide +kernel) (hD9 0 (by decide))) (cwV 1 hts gX8_init_X8_column rfl rfl rfl (by decide +kernel) ⟨Nat.le_of_ble_eq_true rfl, Nat.le_of_ble_eq_true rfl⟩) E hA I (k_recv E I (by decide) km_0 rfl) rfl hl.1 rfl (lv_room (Nat.le_of_ble_eq_true rfl)) dX8_init_96 ⟨Nat.le_of_ble_eq_true rfl, Nat.le_of_ble_eq_true rfl⟩ (fun σ_96 H locs hp_96 I => ?_)
  have hD10 : mD σ_96 mI10 := cm_yes hD9 hp_96
  have hQ := qd_tr hQ (qd_2 hp_96)
  refine lv_aload_n hx hb dX8_init_99 rfl (lv_at hl 0 rfl) ?_
  refine lv_iconst (v := nI 2) hx hb dX8_init_100 (by decide) ?_
  refine lv_iconst (v := nI 3) hx hb dX8_init_101 (by decide) ?_
  refine lv_bipush (v := nI 20) hx hb dX8_init_102 (by decide) ?_
  refine lv_iconst (v := nI 2) hx hb dX8_init_104 (by decide) ?_
  refine k_callv (k := 0) (As := [.int (nI 2), .int (nI 3), .int (nI 20), .int (nI 2)]) (rest := []) ⟨hx, hb, hml, hown, hts⟩ (c_X8_place cy D ad l σ_96 2 3 20 2 (mI10 1) (by decide +kernel) (hD10 1 (by decide))) (cwV 4 hts gX8_init_X8_place rfl rfl rfl (by decide +kernel) ⟨Nat.le_of_ble_eq_true rfl, Nat.le_of_ble_eq_true rfl⟩) E hA I (k_recv E I (by decide) km_0 rfl) rfl hl.1 rfl (lv_room (Nat.le_of_ble_eq_true rfl)) dX8_init_105 ⟨Nat.le_of_ble_eq_true rfl, Nat.le_of_ble_eq_true rfl⟩ (fun σ_105 H locs hp_105 I => ?_)
  have e1_ : σ_105 2 1 = nI (mI10 1) := by rw [hp_105, va_up_self, pk_un (by decide +kernel), pk_un (by decide +kernel), pk_un (by decide +kernel), pk_un (by decide +kernel)]; exact hD10 1 (by decide)
  have hQ := qd_tr hQ (qd_2 hp_105)
  refine lv_aload_n hx hb dX8_init_108 rfl (lv_at hl 0 rfl) ?_
  refine lv_iconst (v := nI 3) hx hb dX8_init_109 (by decide) ?_
  refine lv_iconst (v := nI 4) hx hb dX8_init_110 (by decide) ?_
  refine lv_sipush (v := nI 200) hx hb dX8_init_111 (by decide) ?_
  refine k_callv (k := 0) (As := [.int (nI 3), .int (nI 4), .int (nI 200)]) (rest := []) ⟨hx, hb, hml, hown, hts⟩ (c_X8_measure cy D ad l σ_105 3 4 200 (mI10 1) (by decide +kernel) e1_) (cwV 3 hts gX8_init_X8_measure rfl rfl rfl (by decide +kernel) ⟨Nat.le_of_ble_eq_true rfl, Nat.le_of_ble_eq_true rfl⟩) E hA I (k_recv E I (by decide) km_0 rfl) rfl hl.1 rfl (lv_room (Nat.le_of_ble_eq_true rfl)) dX8_init_114 ⟨Nat.le_of_ble_eq_true rfl, Nat.le_of_ble_eq_true rfl⟩ (fun σ_114 H locs hp_114 I => ?_)
  have hD11 : mD σ_114 mI11 := pm_yes (v := vI0) hD10 hp_105 hp_114
  have hQ := qd_tr hQ (qd_2 hp_114)
  refine lv_aload_n hx hb dX8_init_117 rfl (lv_at hl 0 rfl) ?_
  refine lv_iconst (v := nI 5) hx hb dX8_init_118 (by decide) ?_
  refine lv_bipush (v := nI 9) hx hb dX8_init_119 (by decide) ?_
  refine lv_bipush (v := nI 40) hx hb dX8_init_121 (by decide) ?_
  refine lv_iconst (v := nI 3) hx hb dX8_init_123 (by decide) ?_
  refine k_callv (k := 0) (As := [.int (nI 5), .int (nI 9), .int (nI 40), .int (nI 3)]) (rest := []) ⟨hx, hb, hml, hown, hts⟩ (c_X8_place cy D ad l σ_114 5 9 40 3 (mI11 1) (by decide +kernel) (hD11 1 (by decide))) (cwV 4 hts gX8_init_X8_place rfl rfl rfl (by decide +kernel) ⟨Nat.le_of_ble_eq_true rfl, Nat.le_of_ble_eq_true rfl⟩) E hA I (k_recv E I (by decide) km_0 rfl) rfl hl.1 rfl (lv_room (Nat.le_of_ble_eq_true rfl)) dX8_init_124 ⟨Nat.le_of_ble_eq_true rfl, Nat.le_of_ble_eq_true rfl⟩ (fun σ_124 H locs hp_124 I => ?_)
  have e1_ : σ_124 2 1 = nI (mI11 1) := by rw [hp_124, va_up_self, pk_un (by decide +kernel), pk_un (by decide +kernel), pk_un (by decide +kernel), pk_un (by decide +kernel)]; exact hD11 1 (by decide)
  have hQ := qd_tr hQ (qd_2 hp_124)
  refine lv_aload_n hx hb dX8_init_127 rfl (lv_at hl 0 rfl) ?_
  refine lv_iconst (v := nI 5) hx hb dX8_init_128 (by decide) ?_
  refine lv_bipush (v := nI 6) hx hb dX8_init_129 (by decide) ?_
  refine lv_sipush (v := nI 300) hx hb dX8_init_131 (by decide) ?_
  refine k_callv (k := 0) (As := [.int (nI 5), .int (nI 6), .int (nI 300)]) (rest := []) ⟨hx, hb, hml, hown, hts⟩ (c_X8_measure cy D ad l σ_124 5 6 300 (mI11 1) (by decide +kernel) e1_) (cwV 3 hts gX8_init_X8_measure rfl rfl rfl (by decide +kernel) ⟨Nat.le_of_ble_eq_true rfl, Nat.le_of_ble_eq_true rfl⟩) E hA I (k_recv E I (by decide) km_0 rfl) rfl hl.1 rfl (lv_room (Nat.le_of_ble_eq_true rfl)) dX8_init_134 ⟨Nat.le_of_ble_eq_true rfl, Nat.le_of_ble_eq_true rfl⟩ (fun σ_134 H locs hp_134 I => ?_)
  have hD12 : mD σ_134 mI12 := pm_yes (v := vI1) hD11 hp_124 hp_134
  have hQ := qd_tr hQ (qd_2 hp_134)
  refine lv_aload_n hx hb dX8_init_137 rfl (lv_at hl 0 rfl) ?_
  refine lv_bipush (v := nI 7) hx hb dX8_init_138 (by decide) ?_
  refine lv_iconst (v := nI 4) hx hb dX8_init_140 (by decide) ?_
  refine lv_bipush (v := nI 12) hx hb dX8_init_141 (by decide) ?_
  refine lv_iconst (v := nI 1) hx hb dX8_init_143 (by decide) ?_
  refine k_callv (k := 0) (As := [.int (nI 7), .int (nI 4), .int (nI 12), .int (nI 1)]) (rest := []) ⟨hx, hb, hml, hown, hts⟩ (c_X8_place cy D ad l σ_134 7 4 12 1 (mI12 1) (by decide +kernel) (hD12 1 (by decide))) (cwV 4 hts gX8_init_X8_place rfl rfl rfl (by decide +kernel) ⟨Nat.le_of_ble_eq_true rfl, Nat.le_of_ble_eq_true rfl⟩) E hA I (k_recv E I (by decide) km_0 rfl) rfl hl.1 rfl (lv_room (Nat.le_of_ble_eq_true rfl)) dX8_init_144 ⟨Nat.le_of_ble_eq_true rfl, Nat.le_of_ble_eq_true rfl⟩ (fun σ_144 H locs hp_144 I => ?_)
  have e1_ : σ_144 2 1 = nI (mI12 1) := by rw [hp_144, va_up_self, pk_un (by decide +kernel), pk_un (by decide +kernel), pk_un (by decide +kernel), pk_un (by decide +kernel)]; exact hD12 1 (by decide)
  have hQ := qd_tr hQ (qd_2 hp_144)
  refine lv_aload_n hx hb dX8_init_147 rfl (lv_at hl 0 rfl) ?_
  refine lv_iconst (v := nI 2) hx hb dX8_init_148 (by decide) ?_
  refine lv_iconst (v := nI 2) hx hb dX8_init_149 (by decide) ?_
  refine lv_bipush (v := nI 60) hx hb dX8_init_150 (by decide) ?_
  refine k_callv (k := 0) (As := [.int (nI 2), .int (nI 2), .int (nI 60)]) (rest := []) ⟨hx, hb, hml, hown, hts⟩ (c_X8_measure cy D ad l σ_144 2 2 60 (mI12 1) (by decide +kernel) e1_) (cwV 3 hts gX8_init_X8_measure rfl rfl rfl (by decide +kernel) ⟨Nat.le_of_ble_eq_true rfl, Nat.le_of_ble_eq_true rfl⟩) E hA I (k_recv E I (by decide) km_0 rfl) rfl hl.1 rfl (lv_room (Nat.le_of_ble_eq_true rfl)) dX8_init_152 ⟨Nat.le_of_ble_eq_true rfl, Nat.le_of_ble_eq_true rfl⟩ (fun σ_152 H locs hp_152 I => ?_)
  have hD13 : mD σ_152 mI13 := pm_yes (v := vI2) hD12 hp_144 hp_152
  have hQ := qd_tr hQ (qd_2 hp_152)
  refine lv_aload_n hx hb dX8_init_155 rfl (lv_at hl 0 rfl) ?_
  refine k_callv (k := 0) (As := []) (rest := []) ⟨hx, hb, hml, hown, hts⟩ (c_X8_install cy D ad l σ_152 mI13 hD13) (cwV 0 hts gX8_init_X8_install rfl rfl rfl (by decide +kernel) ⟨Nat.le_of_ble_eq_true rfl, Nat.le_of_ble_eq_true rfl⟩) E hA I (k_recv E I (by decide) km_0 rfl) rfl hl.1 rfl (lv_room (Nat.le_of_ble_eq_true rfl)) dX8_init_156 ⟨Nat.le_of_ble_eq_true rfl, Nat.le_of_ble_eq_true rfl⟩ (fun σ_156 H locs hp_156 I => ?_)
  obtain ⟨R, hs_, hR⟩ := hp_156
  have h5 : σ_152 0 5 = nI 0 := by rw [hQ.2 5 (by decide), hσ0]; rfl
  exact W.vret hx hb hr (fun t ht hW => ⟨⟨(ad, σ_156), rfl, ⟨had0, init_m h5 hR hs_⟩, by rw [ht]; exact I.1, by rw [hAe]; exact I.2.1⟩, by rw [hAe]; exact I.2.2.F ht⟩) I.2.2.2.2 dX8_init_159

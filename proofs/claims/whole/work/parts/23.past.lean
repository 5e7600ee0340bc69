/-! KEPT FOR UNDONE -/
set_option maxHeartbeats 4000000 in
set_option maxRecDepth 100000 in
theorem c_X0_save (cy : Nat → ClassId) (D : va_G) (ad : Nat → Nat) (l : Launch) (σ : Nat → Nat → Int32) (i q at_ : Nat) (H_i : i < 5) (H_q : q < 6) (hat : at_ + 3 ≤ 46) : kMv 38 ad (kcC cy ad) cy D l yX0_save wsX0_save ({ frames := 0, cells := 0, slots := 0, locals := 0 }) [.ref (ad (16 + 3 * i)), .ref (ad (32 + q)), .int (nI at_)] σ (fun σ' => σ' = va_up σ (32 + q) (upd (upd (upd (σ (32 + q)) (at_) (σ (16 + 3 * i) 0)) (at_ + 1) (σ (16 + 3 * i) 1)) (at_ + 2) (σ (16 + 3 * i) 2))) := by
  refine k_entry (cc := cX0_save) (maxL := 3) (ret := none) (by decide) rfl (Nat.le_of_ble_eq_true rfl) ?_
  intro p e s m below meth c hx hb hr hml hown hts hlk E I ls hl
  have hA : ∀ q, s.heap.size ≤ q → kA 38 ad s.heap.size q := fun q h => Or.inr h
  have hown : s.vm.findClass RX0 = some m.cls := hown
  have hl : lv_has ls 3 [(0, .ref (ad (16 + 3 * i))), (1, .ref (ad (32 + q))), (2, .int (nI at_))] := hl
  have iX0 : ∀ w ∈ u_ws RX0 TX0 3, w ∈ wsX0_save := fun w h => List.mem_cons_of_mem _ (List.mem_append_right _ h)
  refine lv_iload_n hx hb dX0_save_0 rfl (lv_at hl 2 rfl) ?_
  refine lv_if_lt (tgt := 12) hx hb dX0_save_1 (by decide) (fun c_1 => ?_) (fun c_1 => ?_)
  · have c_1 : at_ < 0 := (nI_ltI (by omega) (by decide)).mp c_1
    exact absurd c_1 (Nat.not_lt_zero _)
  · have c_1 : ¬ (at_ < 0) := fun q_ => c_1 ((nI_ltI (by omega) (by decide)).mpr q_)
    refine lv_iload_n hx hb dX0_save_4 rfl (lv_at hl 2 rfl) ?_
    refine lv_aload_n hx hb dX0_save_5 rfl (lv_at hl 1 rfl) ?_
    refine k_alen (t0 := 1) hx hb E I (32 + q) (by omega) (kc_P H_q) rfl dX0_save_6 ?_
    refine lv_iconst (v := nI 3) hx hb dX0_save_7 (by decide) ?_
    refine lv_isub hx hb dX0_save_8 ?_
    refine lv_topi (fun t_8 et_8 => ?_)
    have et_8 : t_8 = nI 43 := et_8.trans (by decide)
    subst et_8
    refine lv_icmp_le (tgt := 13) hx hb dX0_save_9 (by decide) (fun c_9 => ?_) (fun c_9 => ?_)
    · have c_9 : at_ ≤ 43 := (nI_leI (by omega) (by omega)).mp c_9
      refine lv_aload_n hx hb dX0_save_13 rfl (lv_at hl 1 rfl) ?_
      refine lv_iload_n hx hb dX0_save_14 rfl (lv_at hl 2 rfl) ?_
      refine lv_aload_n hx hb dX0_save_15 rfl (lv_at hl 0 rfl) ?_
      refine k_get (C := RX0) (T := TX0) (N := 3) (v := .int (σ (16 + 3 * i) 0)) hx hb hts hown E I iX0 (16 + 3 * i) (by omega) (r0 := σ (16 + 3 * i)) rfl (kc_F H_i) rfl 0 (by decide) (List.mem_of_getElem? (i := 1) rfl) rfl dX0_save_16 ?_
      refine k_iast hx hb E I (32 + q) (by omega) (r0 := σ (32 + q)) rfl (fun _ => (kc_P H_q)) (vp_in_nI (by omega) (by decide)) (σ2 := va_up σ (32 + q) (upd (σ (32 + q)) at_ (σ (16 + 3 * i) 0))) (by rw [nI_clamp (by omega)]) dX0_save_19 (fun H locs I => ?_)
      refine lv_aload_n hx hb dX0_save_20 rfl (lv_at hl 1 rfl) ?_
      refine lv_iload_n hx hb dX0_save_21 rfl (lv_at hl 2 rfl) ?_
      refine lv_iconst (v := nI 1) hx hb dX0_save_22 (by decide) ?_
      refine lv_iadd hx hb dX0_save_23 ?_
      rw [nI_add]
      refine lv_aload_n hx hb dX0_save_24 rfl (lv_at hl 0 rfl) ?_
      refine k_get (C := RX0) (T := TX0) (N := 3) (v := .int (σ (16 + 3 * i) 1)) hx hb hts hown E I iX0 (16 + 3 * i) (by omega) (r0 := σ (16 + 3 * i)) (by rw [va_up_ne _ _ (by omega)]) (kc_F H_i) rfl 1 (by decide) (List.mem_of_getElem? (i := 2) rfl) rfl dX0_save_25 ?_
      refine k_iast hx hb E I (32 + q) (by omega) (r0 := (upd (σ (32 + q)) at_ (σ (16 + 3 * i) 0))) (by rw [va_up_self]) (fun _ => (kc_P H_q)) (vp_in_nI (by omega) (by decide)) (σ2 := va_up σ (32 + q) (upd ((upd (σ (32 + q)) at_ (σ (16 + 3 * i) 0))) (at_ + 1) (σ (16 + 3 * i) 1))) (by rw [nI_clamp (by omega)]; exact (bx_uu _ _ _ _)) dX0_save_28 (fun H locs I => ?_)
      refine lv_aload_n hx hb dX0_save_29 rfl (lv_at hl 1 rfl) ?_
      refine lv_iload_n hx hb dX0_save_30 rfl (lv_at hl 2 rfl) ?_
      refine lv_iconst (v := nI 2) hx hb dX0_save_31 (by decide) ?_
      refine lv_iadd hx hb dX0_save_32 ?_
      rw [nI_add]
      refine lv_aload_n hx hb dX0_save_33 rfl (lv_at hl 0 rfl) ?_
      refine k_get (C := RX0) (T := TX0) (N := 3) (v := .int (σ (16 + 3 * i) 2)) hx hb hts hown E I iX0 (16 + 3 * i) (by omega) (r0 := σ (16 + 3 * i)) (by rw [va_up_ne _ _ (by omega)]) (kc_F H_i) rfl 2 (by decide) (List.mem_of_getElem? (i := 3) rfl) rfl dX0_save_34 ?_
      refine k_iast hx hb E I (32 + q) (by omega) (r0 := (upd ((upd (σ (32 + q)) at_ (σ (16 + 3 * i) 0))) (at_ + 1) (σ (16 + 3 * i) 1))) (by rw [va_up_self]) (fun _ => (kc_P H_q)) (vp_in_nI (by omega) (by decide)) (σ2 := va_up σ (32 + q) (upd ((upd ((upd (σ (32 + q)) at_ (σ (16 + 3 * i) 0))) (at_ + 1) (σ (16 + 3 * i) 1))) (at_ + 2) (σ (16 + 3 * i) 2))) (by rw [nI_clamp (by omega)]; exact (bx_uu _ _ _ _)) dX0_save_37 (fun H locs I => ?_)
      exact k_vret hx hb hr hlk I dX0_save_38 (rfl)
    · have c_9 : ¬ (at_ ≤ 43) := fun q_ => c_9 ((nI_leI (by omega) (by omega)).mpr q_)
      omega
set_option maxHeartbeats 4000000 in
set_option maxRecDepth 100000 in
theorem c_X0_restore (cy : Nat → ClassId) (D : va_G) (ad : Nat → Nat) (l : Launch) (σ : Nat → Nat → Int32) (i q at_ : Nat) (H_i : i < 5) (H_q : q < 6) (hat : at_ + 3 ≤ 46) : kMv 38 ad (kcC cy ad) cy D l yX0_restore wsX0_restore ({ frames := 1, cells := 0, slots := 0, locals := 23 }) [.ref (ad (16 + 3 * i)), .ref (ad (32 + q)), .int (nI at_)] σ (fun σ' => σ' = va_up σ (16 + 3 * i) (upd (upd (upd (σ (16 + 3 * i)) (0) (σ (32 + q) at_)) (1) (σ (32 + q) (at_ + 1))) (2) (σ (32 + q) (at_ + 2)))) := by
  refine k_entry (cc := cX0_restore) (maxL := 3) (ret := none) (by decide) rfl (Nat.le_of_ble_eq_true rfl) ?_
  intro p e s m below meth c hx hb hr hml hown hts hlk E I ls hl
  have hA : ∀ q, s.heap.size ≤ q → kA 38 ad s.heap.size q := fun q h => Or.inr h
  have hown : s.vm.findClass RX0 = some m.cls := hown
  have hl : lv_has ls 3 [(0, .ref (ad (16 + 3 * i))), (1, .ref (ad (32 + q))), (2, .int (nI at_))] := hl
  refine lv_iload_n hx hb dX0_restore_0 rfl (lv_at hl 2 rfl) ?_
  refine lv_if_lt (tgt := 12) hx hb dX0_restore_1 (by decide) (fun c_1 => ?_) (fun c_1 => ?_)
  · have c_1 : at_ < 0 := (nI_ltI (by omega) (by decide)).mp c_1
    exact absurd c_1 (Nat.not_lt_zero _)
  · have c_1 : ¬ (at_ < 0) := fun q_ => c_1 ((nI_ltI (by omega) (by decide)).mpr q_)
    refine lv_iload_n hx hb dX0_restore_4 rfl (lv_at hl 2 rfl) ?_
    refine lv_aload_n hx hb dX0_restore_5 rfl (lv_at hl 1 rfl) ?_
    refine k_alen (t0 := 1) hx hb E I (32 + q) (by omega) (kc_P H_q) rfl dX0_restore_6 ?_
    refine lv_iconst (v := nI 3) hx hb dX0_restore_7 (by decide) ?_
    refine lv_isub hx hb dX0_restore_8 ?_
    refine lv_topi (fun t_8 et_8 => ?_)
    have et_8 : t_8 = nI 43 := et_8.trans (by decide)
    subst et_8
    refine lv_icmp_le (tgt := 13) hx hb dX0_restore_9 (by decide) (fun c_9 => ?_) (fun c_9 => ?_)
    · have c_9 : at_ ≤ 43 := (nI_leI (by omega) (by omega)).mp c_9
      refine lv_aload_n hx hb dX0_restore_13 rfl (lv_at hl 0 rfl) ?_
      refine lv_aload_n hx hb dX0_restore_14 rfl (lv_at hl 1 rfl) ?_
      refine lv_iload_n hx hb dX0_restore_15 rfl (lv_at hl 2 rfl) ?_
      refine k_iald hx hb E I (32 + q) (by omega) (r0 := σ (32 + q)) rfl (kc_P H_q) (vp_in_nI (by omega) (by decide)) dX0_restore_16 ?_
      rw [nI_clamp (by omega)]
      refine lv_aload_n hx hb dX0_restore_17 rfl (lv_at hl 1 rfl) ?_
      refine lv_iload_n hx hb dX0_restore_18 rfl (lv_at hl 2 rfl) ?_
      refine lv_iconst (v := nI 1) hx hb dX0_restore_19 (by decide) ?_
      refine lv_iadd hx hb dX0_restore_20 ?_
      rw [nI_add]
      refine k_iald hx hb E I (32 + q) (by omega) (r0 := σ (32 + q)) rfl (kc_P H_q) (vp_in_nI (by omega) (by decide)) dX0_restore_21 ?_
      rw [nI_clamp (by omega)]
      refine lv_aload_n hx hb dX0_restore_22 rfl (lv_at hl 1 rfl) ?_
      refine lv_iload_n hx hb dX0_restore_23 rfl (lv_at hl 2 rfl) ?_
      refine lv_iconst (v := nI 2) hx hb dX0_restore_24 (by decide) ?_
      refine lv_iadd hx hb dX0_restore_25 ?_
      rw [nI_add]
      refine k_iald hx hb E I (32 + q) (by omega) (r0 := σ (32 + q)) rfl (kc_P H_q) (vp_in_nI (by omega) (by decide)) dX0_restore_26 ?_
      rw [nI_clamp (by omega)]
      refine k_callv (k := 16 + 3 * i) (As := [.int (σ (32 + q) at_), .int (σ (32 + q) (at_ + 1)), .int (σ (32 + q) (at_ + 2))]) (rest := []) ⟨hx, hb, hml, hown, hts⟩ (c_X0_put cy D ad l σ i H_i ((σ (32 + q) at_)) ((σ (32 + q) (at_ + 1))) ((σ (32 + q) (at_ + 2)))) (cwV 3 hts gX0_restore_X0_put rfl rfl rfl (by decide +kernel) ⟨Nat.le_of_ble_eq_true rfl, Nat.le_of_ble_eq_true rfl⟩) E hA I (k_recv E I (by omega) (kc_F H_i) rfl) rfl hl.1 rfl (lv_room (Nat.le_of_ble_eq_true rfl)) dX0_restore_27 ⟨Nat.le_of_ble_eq_true rfl, Nat.le_of_ble_eq_true rfl⟩ (fun σ_27 H locs hp_27 I => ?_)
      exact k_vret hx hb hr hlk I dX0_restore_30 (hp_27)
    · have c_9 : ¬ (at_ ≤ 43) := fun q_ => c_9 ((nI_leI (by omega) (by omega)).mpr q_)
      omega
set_option maxHeartbeats 4000000 in
set_option maxRecDepth 100000 in
theorem c_X0_save2 (cy : Nat → ClassId) (D : va_G) (ad : Nat → Nat) (l : Launch) (σ : Nat → Nat → Int32) (i q at_ : Nat) (H_i : i < 5) (H_q : q < 6) (hat : at_ + 3 ≤ 46) : kMv 38 ad (kcC cy ad) cy D l yX0_save wsX0_save ({ frames := 0, cells := 0, slots := 0, locals := 0 }) [.ref (ad (17 + 3 * i)), .ref (ad (32 + q)), .int (nI at_)] σ (fun σ' => σ' = va_up σ (32 + q) (upd (upd (upd (σ (32 + q)) (at_) (σ (17 + 3 * i) 0)) (at_ + 1) (σ (17 + 3 * i) 1)) (at_ + 2) (σ (17 + 3 * i) 2))) := by
  refine k_entry (cc := cX0_save) (maxL := 3) (ret := none) (by decide) rfl (Nat.le_of_ble_eq_true rfl) ?_
  intro p e s m below meth c hx hb hr hml hown hts hlk E I ls hl
  have hA : ∀ q, s.heap.size ≤ q → kA 38 ad s.heap.size q := fun q h => Or.inr h
  have hown : s.vm.findClass RX0 = some m.cls := hown
  have hl : lv_has ls 3 [(0, .ref (ad (17 + 3 * i))), (1, .ref (ad (32 + q))), (2, .int (nI at_))] := hl
  have iX0 : ∀ w ∈ u_ws RX0 TX0 3, w ∈ wsX0_save := fun w h => List.mem_cons_of_mem _ (List.mem_append_right _ h)
  refine lv_iload_n hx hb dX0_save_0 rfl (lv_at hl 2 rfl) ?_
  refine lv_if_lt (tgt := 12) hx hb dX0_save_1 (by decide) (fun c_1 => ?_) (fun c_1 => ?_)
  · have c_1 : at_ < 0 := (nI_ltI (by omega) (by decide)).mp c_1
    exact absurd c_1 (Nat.not_lt_zero _)
  · have c_1 : ¬ (at_ < 0) := fun q_ => c_1 ((nI_ltI (by omega) (by decide)).mpr q_)
    refine lv_iload_n hx hb dX0_save_4 rfl (lv_at hl 2 rfl) ?_
    refine lv_aload_n hx hb dX0_save_5 rfl (lv_at hl 1 rfl) ?_
    refine k_alen (t0 := 1) hx hb E I (32 + q) (by omega) (kc_P H_q) rfl dX0_save_6 ?_
    refine lv_iconst (v := nI 3) hx hb dX0_save_7 (by decide) ?_
    refine lv_isub hx hb dX0_save_8 ?_
    refine lv_topi (fun t_8 et_8 => ?_)
    have et_8 : t_8 = nI 43 := et_8.trans (by decide)
    subst et_8
    refine lv_icmp_le (tgt := 13) hx hb dX0_save_9 (by decide) (fun c_9 => ?_) (fun c_9 => ?_)
    · have c_9 : at_ ≤ 43 := (nI_leI (by omega) (by omega)).mp c_9
      refine lv_aload_n hx hb dX0_save_13 rfl (lv_at hl 1 rfl) ?_
      refine lv_iload_n hx hb dX0_save_14 rfl (lv_at hl 2 rfl) ?_
      refine lv_aload_n hx hb dX0_save_15 rfl (lv_at hl 0 rfl) ?_
      refine k_get (C := RX0) (T := TX0) (N := 3) (v := .int (σ (17 + 3 * i) 0)) hx hb hts hown E I iX0 (17 + 3 * i) (by omega) (r0 := σ (17 + 3 * i)) rfl (kc_G H_i) rfl 0 (by decide) (List.mem_of_getElem? (i := 1) rfl) rfl dX0_save_16 ?_
      refine k_iast hx hb E I (32 + q) (by omega) (r0 := σ (32 + q)) rfl (fun _ => (kc_P H_q)) (vp_in_nI (by omega) (by decide)) (σ2 := va_up σ (32 + q) (upd (σ (32 + q)) at_ (σ (17 + 3 * i) 0))) (by rw [nI_clamp (by omega)]) dX0_save_19 (fun H locs I => ?_)
      refine lv_aload_n hx hb dX0_save_20 rfl (lv_at hl 1 rfl) ?_
      refine lv_iload_n hx hb dX0_save_21 rfl (lv_at hl 2 rfl) ?_
      refine lv_iconst (v := nI 1) hx hb dX0_save_22 (by decide) ?_
      refine lv_iadd hx hb dX0_save_23 ?_
      rw [nI_add]
      refine lv_aload_n hx hb dX0_save_24 rfl (lv_at hl 0 rfl) ?_
      refine k_get (C := RX0) (T := TX0) (N := 3) (v := .int (σ (17 + 3 * i) 1)) hx hb hts hown E I iX0 (17 + 3 * i) (by omega) (r0 := σ (17 + 3 * i)) (by rw [va_up_ne _ _ (by omega)]) (kc_G H_i) rfl 1 (by decide) (List.mem_of_getElem? (i := 2) rfl) rfl dX0_save_25 ?_
      refine k_iast hx hb E I (32 + q) (by omega) (r0 := (upd (σ (32 + q)) at_ (σ (17 + 3 * i) 0))) (by rw [va_up_self]) (fun _ => (kc_P H_q)) (vp_in_nI (by omega) (by decide)) (σ2 := va_up σ (32 + q) (upd ((upd (σ (32 + q)) at_ (σ (17 + 3 * i) 0))) (at_ + 1) (σ (17 + 3 * i) 1))) (by rw [nI_clamp (by omega)]; exact (bx_uu _ _ _ _)) dX0_save_28 (fun H locs I => ?_)
      refine lv_aload_n hx hb dX0_save_29 rfl (lv_at hl 1 rfl) ?_
      refine lv_iload_n hx hb dX0_save_30 rfl (lv_at hl 2 rfl) ?_
      refine lv_iconst (v := nI 2) hx hb dX0_save_31 (by decide) ?_
      refine lv_iadd hx hb dX0_save_32 ?_
      rw [nI_add]
      refine lv_aload_n hx hb dX0_save_33 rfl (lv_at hl 0 rfl) ?_
      refine k_get (C := RX0) (T := TX0) (N := 3) (v := .int (σ (17 + 3 * i) 2)) hx hb hts hown E I iX0 (17 + 3 * i) (by omega) (r0 := σ (17 + 3 * i)) (by rw [va_up_ne _ _ (by omega)]) (kc_G H_i) rfl 2 (by decide) (List.mem_of_getElem? (i := 3) rfl) rfl dX0_save_34 ?_
      refine k_iast hx hb E I (32 + q) (by omega) (r0 := (upd ((upd (σ (32 + q)) at_ (σ (17 + 3 * i) 0))) (at_ + 1) (σ (17 + 3 * i) 1))) (by rw [va_up_self]) (fun _ => (kc_P H_q)) (vp_in_nI (by omega) (by decide)) (σ2 := va_up σ (32 + q) (upd ((upd ((upd (σ (32 + q)) at_ (σ (17 + 3 * i) 0))) (at_ + 1) (σ (17 + 3 * i) 1))) (at_ + 2) (σ (17 + 3 * i) 2))) (by rw [nI_clamp (by omega)]; exact (bx_uu _ _ _ _)) dX0_save_37 (fun H locs I => ?_)
      exact k_vret hx hb hr hlk I dX0_save_38 (rfl)
    · have c_9 : ¬ (at_ ≤ 43) := fun q_ => c_9 ((nI_leI (by omega) (by omega)).mpr q_)
      omega
set_option maxHeartbeats 4000000 in
set_option maxRecDepth 100000 in
theorem c_X0_restore2 (cy : Nat → ClassId) (D : va_G) (ad : Nat → Nat) (l : Launch) (σ : Nat → Nat → Int32) (i q at_ : Nat) (H_i : i < 5) (H_q : q < 6) (hat : at_ + 3 ≤ 46) : kMv 38 ad (kcC cy ad) cy D l yX0_restore wsX0_restore ({ frames := 1, cells := 0, slots := 0, locals := 23 }) [.ref (ad (17 + 3 * i)), .ref (ad (32 + q)), .int (nI at_)] σ (fun σ' => σ' = va_up σ (17 + 3 * i) (upd (upd (upd (σ (17 + 3 * i)) (0) (σ (32 + q) at_)) (1) (σ (32 + q) (at_ + 1))) (2) (σ (32 + q) (at_ + 2)))) := by
  refine k_entry (cc := cX0_restore) (maxL := 3) (ret := none) (by decide) rfl (Nat.le_of_ble_eq_true rfl) ?_
  intro p e s m below meth c hx hb hr hml hown hts hlk E I ls hl
  have hA : ∀ q, s.heap.size ≤ q → kA 38 ad s.heap.size q := fun q h => Or.inr h
  have hown : s.vm.findClass RX0 = some m.cls := hown
  have hl : lv_has ls 3 [(0, .ref (ad (17 + 3 * i))), (1, .ref (ad (32 + q))), (2, .int (nI at_))] := hl
  refine lv_iload_n hx hb dX0_restore_0 rfl (lv_at hl 2 rfl) ?_
  refine lv_if_lt (tgt := 12) hx hb dX0_restore_1 (by decide) (fun c_1 => ?_) (fun c_1 => ?_)
  · have c_1 : at_ < 0 := (nI_ltI (by omega) (by decide)).mp c_1
    exact absurd c_1 (Nat.not_lt_zero _)
  · have c_1 : ¬ (at_ < 0) := fun q_ => c_1 ((nI_ltI (by omega) (by decide)).mpr q_)
    refine lv_iload_n hx hb dX0_restore_4 rfl (lv_at hl 2 rfl) ?_
    refine lv_aload_n hx hb dX0_restore_5 rfl (lv_at hl 1 rfl) ?_
    refine k_alen (t0 := 1) hx hb E I (32 + q) (by omega) (kc_P H_q) rfl dX0_restore_6 ?_
    refine lv_iconst (v := nI 3) hx hb dX0_restore_7 (by decide) ?_
    refine lv_isub hx hb dX0_restore_8 ?_
    refine lv_topi (fun t_8 et_8 => ?_)
    have et_8 : t_8 = nI 43 := et_8.trans (by decide)
    subst et_8
    refine lv_icmp_le (tgt := 13) hx hb dX0_restore_9 (by decide) (fun c_9 => ?_) (fun c_9 => ?_)
    · have c_9 : at_ ≤ 43 := (nI_leI (by omega) (by omega)).mp c_9
      refine lv_aload_n hx hb dX0_restore_13 rfl (lv_at hl 0 rfl) ?_
      refine lv_aload_n hx hb dX0_restore_14 rfl (lv_at hl 1 rfl) ?_
      refine lv_iload_n hx hb dX0_restore_15 rfl (lv_at hl 2 rfl) ?_
      refine k_iald hx hb E I (32 + q) (by omega) (r0 := σ (32 + q)) rfl (kc_P H_q) (vp_in_nI (by omega) (by decide)) dX0_restore_16 ?_
      rw [nI_clamp (by omega)]
      refine lv_aload_n hx hb dX0_restore_17 rfl (lv_at hl 1 rfl) ?_
      refine lv_iload_n hx hb dX0_restore_18 rfl (lv_at hl 2 rfl) ?_
      refine lv_iconst (v := nI 1) hx hb dX0_restore_19 (by decide) ?_
      refine lv_iadd hx hb dX0_restore_20 ?_
      rw [nI_add]
      refine k_iald hx hb E I (32 + q) (by omega) (r0 := σ (32 + q)) rfl (kc_P H_q) (vp_in_nI (by omega) (by decide)) dX0_restore_21 ?_
      rw [nI_clamp (by omega)]
      refine lv_aload_n hx hb dX0_restore_22 rfl (lv_at hl 1 rfl) ?_
      refine lv_iload_n hx hb dX0_restore_23 rfl (lv_at hl 2 rfl) ?_
      refine lv_iconst (v := nI 2) hx hb dX0_restore_24 (by decide) ?_
      refine lv_iadd hx hb dX0_restore_25 ?_
      rw [nI_add]
      refine k_iald hx hb E I (32 + q) (by omega) (r0 := σ (32 + q)) rfl (kc_P H_q) (vp_in_nI (by omega) (by decide)) dX0_restore_26 ?_
      rw [nI_clamp (by omega)]
      refine k_callv (k := 17 + 3 * i) (As := [.int (σ (32 + q) at_), .int (σ (32 + q) (at_ + 1)), .int (σ (32 + q) (at_ + 2))]) (rest := []) ⟨hx, hb, hml, hown, hts⟩ (c_X0_put2 cy D ad l σ i H_i ((σ (32 + q) at_)) ((σ (32 + q) (at_ + 1))) ((σ (32 + q) (at_ + 2)))) (cwV 3 hts gX0_restore_X0_put rfl rfl rfl (by decide +kernel) ⟨Nat.le_of_ble_eq_true rfl, Nat.le_of_ble_eq_true rfl⟩) E hA I (k_recv E I (by omega) (kc_G H_i) rfl) rfl hl.1 rfl (lv_room (Nat.le_of_ble_eq_true rfl)) dX0_restore_27 ⟨Nat.le_of_ble_eq_true rfl, Nat.le_of_ble_eq_true rfl⟩ (fun σ_27 H locs hp_27 I => ?_)
      exact k_vret hx hb hr hlk I dX0_restore_30 (hp_27)
    · have c_9 : ¬ (at_ ≤ 43) := fun q_ => c_9 ((nI_leI (by omega) (by omega)).mpr q_)
      omega
set_option maxHeartbeats 4000000 in
set_option maxRecDepth 100000 in
theorem c_X6_save (cy : Nat → ClassId) (D : va_G) (ad : Nat → Nat) (l : Launch) (σ : Nat → Nat → Int32) (i q at_ : Nat) (H_i : i < 5) (H_q : q < 6) (hat : at_ + 9 ≤ 46) (mo ash : Nat) (hmo : mo ≤ 1) (hash : ash ≤ 1) (e2 : σ (15 + 3 * i) 2 = nI mo) (e3 : σ (15 + 3 * i) 3 = nI ash) : kMv 38 ad (kcC cy ad) cy D l yX6_save wsX6_save ({ frames := 1, cells := 0, slots := 0, locals := 22 }) [.ref (ad (15 + 3 * i)), .ref (ad (32 + q)), .int (nI at_)] σ (fun σ' => ∃ R : Nat → Int32, σ' = va_up σ (32 + q) R ∧ (∀ j, (j < at_ ∨ at_ + 9 ≤ j) → R j = σ (32 + q) j) ∧ (R at_ = σ (16 + 3 * i) 0 ∧ R (at_ + 1) = σ (16 + 3 * i) 1 ∧ R (at_ + 2) = σ (16 + 3 * i) 2) ∧ (R (at_ + 3) = σ (17 + 3 * i) 0 ∧ R (at_ + 4) = σ (17 + 3 * i) 1 ∧ R (at_ + 5) = σ (17 + 3 * i) 2) ∧ (R (at_ + 6) = nI mo ∧ R (at_ + 7) = nI ash ∧ R (at_ + 8) = σ (15 + 3 * i) 4)) := by
  refine k_entry (cc := cX6_save) (maxL := 4) (ret := none) (by decide) rfl (Nat.le_of_ble_eq_true rfl) ?_
  intro p e s m below meth c hx hb hr hml hown hts hlk E I ls hl
  have hA : ∀ q, s.heap.size ≤ q → kA 38 ad s.heap.size q := fun q h => Or.inr h
  have hown : s.vm.findClass RX6 = some m.cls := hown
  have hl : lv_has ls 4 [(0, .ref (ad (15 + 3 * i))), (1, .ref (ad (32 + q))), (2, .int (nI at_))] := hl
  have iX6 : ∀ w ∈ u_ws RX6 TX6 10, w ∈ wsX6_save := fun w h => List.mem_cons_of_mem _ (List.mem_append_left _ (List.mem_append_right _ h))
  refine lv_iload_n hx hb dX6_save_0 rfl (lv_at hl 2 rfl) ?_
  refine lv_if_lt (tgt := 13) hx hb dX6_save_1 (by decide) (fun c_1 => ?_) (fun c_1 => ?_)
  · have c_1 : at_ < 0 := (nI_ltI (by omega) (by decide)).mp c_1
    exact absurd c_1 (Nat.not_lt_zero _)
  · have c_1 : ¬ (at_ < 0) := fun q_ => c_1 ((nI_ltI (by omega) (by decide)).mpr q_)
    refine lv_iload_n hx hb dX6_save_4 rfl (lv_at hl 2 rfl) ?_
    refine lv_aload_n hx hb dX6_save_5 rfl (lv_at hl 1 rfl) ?_
    refine k_alen (t0 := 1) hx hb E I (32 + q) (by omega) (kc_P H_q) rfl dX6_save_6 ?_
    refine lv_bipush (v := nI 9) hx hb dX6_save_7 (by decide) ?_
    refine lv_isub hx hb dX6_save_9 ?_
    refine lv_topi (fun t_9 et_9 => ?_)
    have et_9 : t_9 = nI 37 := et_9.trans (by decide)
    subst et_9
    refine lv_icmp_le (tgt := 14) hx hb dX6_save_10 (by decide) (fun c_10 => ?_) (fun c_10 => ?_)
    · have c_10 : at_ ≤ 37 := (nI_leI (by omega) (by omega)).mp c_10
      refine lv_aload_n hx hb dX6_save_14 rfl (lv_at hl 0 rfl) ?_
      refine k_get (C := RX6) (T := TX6) (N := 10) (v := .ref (ad (16 + 3 * i))) hx hb hts hown E I iX6 (15 + 3 * i) (by omega) (r0 := σ (15 + 3 * i)) rfl (kc_S H_i) rfl 0 (by decide) (List.mem_of_getElem? (i := 1) rfl) rfl dX6_save_15 ?_
      refine lv_aload_n hx hb dX6_save_18 rfl (lv_at hl 1 rfl) ?_
      refine lv_iload_n hx hb dX6_save_19 rfl (lv_at hl 2 rfl) ?_
      refine k_callv (k := 16 + 3 * i) (As := [.ref (ad (32 + q)), .int (nI at_)]) (rest := []) ⟨hx, hb, hml, hown, hts⟩ (c_X0_save cy D ad l σ i q at_ H_i H_q (by omega)) (cwV 2 hts gX6_save_X0_save rfl rfl rfl (by decide +kernel) ⟨Nat.le_of_ble_eq_true rfl, Nat.le_of_ble_eq_true rfl⟩) E hA I (k_recv E I (by omega) (kc_F H_i) rfl) rfl hl.1 rfl (lv_room (Nat.le_of_ble_eq_true rfl)) dX6_save_20 ⟨Nat.le_of_ble_eq_true rfl, Nat.le_of_ble_eq_true rfl⟩ (fun σ_20 H locs hp_20 I => ?_)
      subst hp_20
      refine lv_aload_n hx hb dX6_save_23 rfl (lv_at hl 0 rfl) ?_
      refine k_get (C := RX6) (T := TX6) (N := 10) (v := .ref (ad (17 + 3 * i))) hx hb hts hown E I iX6 (15 + 3 * i) (by omega) (r0 := σ (15 + 3 * i)) (by rw [va_up_ne _ _ (by omega)]) (kc_S H_i) rfl 1 (by decide) (List.mem_of_getElem? (i := 2) rfl) rfl dX6_save_24 ?_
      refine lv_aload_n hx hb dX6_save_27 rfl (lv_at hl 1 rfl) ?_
      refine lv_iload_n hx hb dX6_save_28 rfl (lv_at hl 2 rfl) ?_
      refine lv_iconst (v := nI 3) hx hb dX6_save_29 (by decide) ?_
      refine lv_iadd hx hb dX6_save_30 ?_
      rw [nI_add]
      refine k_callv (k := 17 + 3 * i) (As := [.ref (ad (32 + q)), .int (nI (at_ + 3))]) (rest := []) ⟨hx, hb, hml, hown, hts⟩ (c_X0_save2 cy D ad l (va_up σ (32 + q) (upd (upd (upd (σ (32 + q)) (at_) (σ (16 + 3 * i) 0)) (at_ + 1) (σ (16 + 3 * i) 1)) (at_ + 2) (σ (16 + 3 * i) 2))) i q (at_ + 3) H_i H_q (by omega)) (cwV 2 hts gX6_save_X0_save rfl rfl rfl (by decide +kernel) ⟨Nat.le_of_ble_eq_true rfl, Nat.le_of_ble_eq_true rfl⟩) E hA I (k_recv E I (by omega) (kc_G H_i) rfl) rfl hl.1 rfl (lv_room (Nat.le_of_ble_eq_true rfl)) dX6_save_31 ⟨Nat.le_of_ble_eq_true rfl, Nat.le_of_ble_eq_true rfl⟩ (fun σ_31 H locs hp_31 I => ?_)
      subst hp_31
      rw [bx_uu, va_up_self, va_up_ne _ _ (show 17 + 3 * i ≠ 32 + q by omega)] at I
      refine lv_iload_n hx hb dX6_save_34 rfl (lv_at hl 2 rfl) ?_
      refine lv_bipush (v := nI 6) hx hb dX6_save_35 (by decide) ?_
      refine lv_iadd hx hb dX6_save_37 ?_
      rw [nI_add]
      refine lv_istore_n (lv' := [(3, .int (nI (at_ + 6))), (0, .ref (ad (15 + 3 * i))), (1, .ref (ad (32 + q))), (2, .int (nI at_))]) hx hb dX6_save_38 rfl hl (by decide) rfl (fun ls hl => ?_)
      refine lv_aload_n hx hb dX6_save_39 rfl (lv_at hl 2 rfl) ?_
      refine lv_iload_n hx hb dX6_save_40 rfl (lv_at hl 0 rfl) ?_
      refine lv_aload_n hx hb dX6_save_41 rfl (lv_at hl 1 rfl) ?_
      refine k_get (C := RX6) (T := TX6) (N := 10) (v := .int (nI mo)) hx hb hts hown E I iX6 (15 + 3 * i) (by omega) (r0 := σ (15 + 3 * i)) (by rw [va_up_ne _ _ (by omega)]) (kc_S H_i) rfl 2 (by decide) (List.mem_of_getElem? (i := 3) rfl) (congrArg (fun z => some (Value.int z)) e2) dX6_save_42 ?_
      refine k_callsN (As := [.int (nI mo)]) (rest := [.int (nI (at_ + 6)), .ref (ad (32 + q))]) ⟨hx, hb, hml, hown, hts⟩ (c_X7_oneIf l (nI mo) (kz1 hmo)) ⟨va_cnB 1 hts gX6_save_X7_oneIf_n63 rfl rfl rfl E.2.1.2.1 (hts _ (List.mem_of_getElem? (i := 15) rfl)) (by decide +kernel) ⟨Nat.le_of_ble_eq_true rfl, Nat.le_of_ble_eq_true rfl⟩, hts _ (List.mem_of_getElem? (i := 14) rfl), trivial⟩ rfl hl.1 rfl (lv_room (Nat.le_of_ble_eq_true rfl)) dX6_save_45 ⟨Nat.le_of_ble_eq_true rfl, Nat.le_of_ble_eq_true rfl⟩ (fun r_45 hp_45 => ?_)
      subst hp_45
      refine k_iast hx hb E I (32 + q) (by omega) (r0 := (upd (upd (upd (upd (upd (upd (σ (32 + q)) (at_) (σ (16 + 3 * i) 0)) (at_ + 1) (σ (16 + 3 * i) 1)) (at_ + 2) (σ (16 + 3 * i) 2)) (at_ + 3) (σ (17 + 3 * i) 0)) (at_ + 3 + 1) (σ (17 + 3 * i) 1)) (at_ + 3 + 2) (σ (17 + 3 * i) 2))) (by rw [va_up_self]) (fun _ => (kc_P H_q)) (vp_in_nI (by omega) (by decide)) (σ2 := va_up σ (32 + q) (upd ((upd (upd (upd (upd (upd (upd (σ (32 + q)) (at_) (σ (16 + 3 * i) 0)) (at_ + 1) (σ (16 + 3 * i) 1)) (at_ + 2) (σ (16 + 3 * i) 2)) (at_ + 3) (σ (17 + 3 * i) 0)) (at_ + 3 + 1) (σ (17 + 3 * i) 1)) (at_ + 3 + 2) (σ (17 + 3 * i) 2))) (at_ + 6) (nI mo))) (by rw [nI_clamp (by omega)]; exact (bx_uu _ _ _ _)) dX6_save_48 (fun H locs I => ?_)
      refine lv_aload_n hx hb dX6_save_49 rfl (lv_at hl 2 rfl) ?_
      refine lv_iload_n hx hb dX6_save_50 rfl (lv_at hl 0 rfl) ?_
      refine lv_iconst (v := nI 1) hx hb dX6_save_51 (by decide) ?_
      refine lv_iadd hx hb dX6_save_52 ?_
      rw [nI_add]
      refine lv_aload_n hx hb dX6_save_53 rfl (lv_at hl 1 rfl) ?_
      refine k_get (C := RX6) (T := TX6) (N := 10) (v := .int (nI ash)) hx hb hts hown E I iX6 (15 + 3 * i) (by omega) (r0 := σ (15 + 3 * i)) (by rw [va_up_ne _ _ (by omega)]) (kc_S H_i) rfl 3 (by decide) (List.mem_of_getElem? (i := 4) rfl) (congrArg (fun z => some (Value.int z)) e3) dX6_save_54 ?_
      refine k_callsN (As := [.int (nI ash)]) (rest := [.int (nI ((at_ + 6) + 1)), .ref (ad (32 + q))]) ⟨hx, hb, hml, hown, hts⟩ (c_X7_oneIf l (nI ash) (kz1 hash)) ⟨va_cnB 1 hts gX6_save_X7_oneIf_n63 rfl rfl rfl E.2.1.2.1 (hts _ (List.mem_of_getElem? (i := 15) rfl)) (by decide +kernel) ⟨Nat.le_of_ble_eq_true rfl, Nat.le_of_ble_eq_true rfl⟩, hts _ (List.mem_of_getElem? (i := 14) rfl), trivial⟩ rfl hl.1 rfl (lv_room (Nat.le_of_ble_eq_true rfl)) dX6_save_57 ⟨Nat.le_of_ble_eq_true rfl, Nat.le_of_ble_eq_true rfl⟩ (fun r_57 hp_57 => ?_)
      subst hp_57
      refine k_iast hx hb E I (32 + q) (by omega) (r0 := (upd ((upd (upd (upd (upd (upd (upd (σ (32 + q)) (at_) (σ (16 + 3 * i) 0)) (at_ + 1) (σ (16 + 3 * i) 1)) (at_ + 2) (σ (16 + 3 * i) 2)) (at_ + 3) (σ (17 + 3 * i) 0)) (at_ + 3 + 1) (σ (17 + 3 * i) 1)) (at_ + 3 + 2) (σ (17 + 3 * i) 2))) (at_ + 6) (nI mo))) (by rw [va_up_self]) (fun _ => (kc_P H_q)) (vp_in_nI (by omega) (by decide)) (σ2 := va_up σ (32 + q) (upd ((upd ((upd (upd (upd (upd (upd (upd (σ (32 + q)) (at_) (σ (16 + 3 * i) 0)) (at_ + 1) (σ (16 + 3 * i) 1)) (at_ + 2) (σ (16 + 3 * i) 2)) (at_ + 3) (σ (17 + 3 * i) 0)) (at_ + 3 + 1) (σ (17 + 3 * i) 1)) (at_ + 3 + 2) (σ (17 + 3 * i) 2))) (at_ + 6) (nI mo))) ((at_ + 6) + 1) (nI ash))) (by rw [nI_clamp (by omega)]; exact (bx_uu _ _ _ _)) dX6_save_60 (fun H locs I => ?_)
      refine lv_aload_n hx hb dX6_save_61 rfl (lv_at hl 2 rfl) ?_
      refine lv_iload_n hx hb dX6_save_62 rfl (lv_at hl 0 rfl) ?_
      refine lv_iconst (v := nI 2) hx hb dX6_save_63 (by decide) ?_
      refine lv_iadd hx hb dX6_save_64 ?_
      rw [nI_add]
      refine lv_aload_n hx hb dX6_save_65 rfl (lv_at hl 1 rfl) ?_
      refine k_get (C := RX6) (T := TX6) (N := 10) (v := .int (σ (15 + 3 * i) 4)) hx hb hts hown E I iX6 (15 + 3 * i) (by omega) (r0 := σ (15 + 3 * i)) (by rw [va_up_ne _ _ (by omega)]) (kc_S H_i) rfl 4 (by decide) (List.mem_of_getElem? (i := 5) rfl) rfl dX6_save_66 ?_
      refine k_iast hx hb E I (32 + q) (by omega) (r0 := (upd ((upd ((upd (upd (upd (upd (upd (upd (σ (32 + q)) (at_) (σ (16 + 3 * i) 0)) (at_ + 1) (σ (16 + 3 * i) 1)) (at_ + 2) (σ (16 + 3 * i) 2)) (at_ + 3) (σ (17 + 3 * i) 0)) (at_ + 3 + 1) (σ (17 + 3 * i) 1)) (at_ + 3 + 2) (σ (17 + 3 * i) 2))) (at_ + 6) (nI mo))) ((at_ + 6) + 1) (nI ash))) (by rw [va_up_self]) (fun _ => (kc_P H_q)) (vp_in_nI (by omega) (by decide)) (σ2 := va_up σ (32 + q) (upd ((upd ((upd ((upd (upd (upd (upd (upd (upd (σ (32 + q)) (at_) (σ (16 + 3 * i) 0)) (at_ + 1) (σ (16 + 3 * i) 1)) (at_ + 2) (σ (16 + 3 * i) 2)) (at_ + 3) (σ (17 + 3 * i) 0)) (at_ + 3 + 1) (σ (17 + 3 * i) 1)) (at_ + 3 + 2) (σ (17 + 3 * i) 2))) (at_ + 6) (nI mo))) ((at_ + 6) + 1) (nI ash))) ((at_ + 6) + 2) (σ (15 + 3 * i) 4))) (by rw [nI_clamp (by omega)]; exact (bx_uu _ _ _ _)) dX6_save_69 (fun H locs I => ?_)
      exact k_vret hx hb hr hlk I dX6_save_70 (⟨_, rfl, fun j hj => by rw [pk_un (by omega), pk_un (by omega), pk_un (by omega), pk_un (by omega), pk_un (by omega), pk_un (by omega), pk_un (by omega), pk_un (by omega), pk_un (by omega)], ⟨by rw [pk_un (by omega), pk_un (by omega), pk_un (by omega), pk_un (by omega), pk_un (by omega), pk_un (by omega), pk_un (by omega), pk_un (by omega), kud (by omega)], by rw [pk_un (by omega), pk_un (by omega), pk_un (by omega), pk_un (by omega), pk_un (by omega), pk_un (by omega), pk_un (by omega), kud (by omega)], by rw [pk_un (by omega), pk_un (by omega), pk_un (by omega), pk_un (by omega), pk_un (by omega), pk_un (by omega), kud (by omega)]⟩, ⟨by rw [pk_un (by omega), pk_un (by omega), pk_un (by omega), pk_un (by omega), pk_un (by omega), kud (by omega)], by rw [pk_un (by omega), pk_un (by omega), pk_un (by omega), pk_un (by omega), kud (by omega)], by rw [pk_un (by omega), pk_un (by omega), pk_un (by omega), kud (by omega)]⟩, ⟨by rw [pk_un (by omega), pk_un (by omega), kud (by omega)], by rw [pk_un (by omega), kud (by omega)], by rw [kud (by omega)]⟩⟩)
    · have c_10 : ¬ (at_ ≤ 37) := fun q_ => c_10 ((nI_leI (by omega) (by omega)).mpr q_)
      omega
set_option maxHeartbeats 4000000 in
set_option maxRecDepth 100000 in
theorem c_X1_save (cy : Nat → ClassId) (D : va_G) (ad : Nat → Nat) (l : Launch) (σ : Nat → Nat → Int32) (N : Nat → Nat) (hN : nOk N) (hB : rBay σ N) (q : Nat) (H_q : q < 6) : kMv 38 ad (kcC cy ad) cy D l yX1_save wsX1_save ({ frames := 2, cells := 0, slots := 0, locals := 45 }) [.ref (ad 11), .ref (ad (32 + q))] σ (fun σ' => ∃ R : Nat → Int32, σ' = va_up σ (32 + q) R ∧ svR R N) := by
  have h5 := hN.1
  refine k_entry (cc := cX1_save) (maxL := 3) (ret := none) (by decide) rfl (Nat.le_of_ble_eq_true rfl) ?_
  intro p e s m below meth c hx hb hr hml hown hts hlk E I ls hl
  have hA : ∀ q, s.heap.size ≤ q → kA 38 ad s.heap.size q := fun q h => Or.inr h
  have hown : s.vm.findClass RX1 = some m.cls := hown
  have hl : lv_has ls 3 [(0, .ref (ad 11)), (1, .ref (ad (32 + q)))] := hl
  have iX1 : ∀ w ∈ u_ws RX1 TX1 6, w ∈ wsX1_save := fun w h => List.mem_cons_of_mem _ (List.mem_append_left _ (List.mem_append_left _ (List.mem_append_right _ h)))
  refine lv_aload_n hx hb dX1_save_0 rfl (lv_at hl 1 rfl) ?_
  refine k_alen (t0 := 1) hx hb E I (32 + q) (by omega) (kc_P H_q) rfl dX1_save_1 ?_
  refine lv_bipush (v := nI 46) hx hb dX1_save_2 (by decide) ?_
  refine lv_icmp_ge (tgt := 8) hx hb dX1_save_4 (by decide) (fun c_4 => ?_) (fun c_4 => ?_)
  · refine lv_aload_n hx hb dX1_save_8 rfl (lv_at hl 1 rfl) ?_
    refine lv_iconst (v := nI 0) hx hb dX1_save_9 (by decide) ?_
    refine lv_aload_n hx hb dX1_save_10 rfl (lv_at hl 0 rfl) ?_
    refine k_get (C := RX1) (T := TX1) (N := 6) (v := .int (nI (N 2))) hx hb hts hown E I iX1 (11) (by decide) (r0 := σ 11) rfl kc_11 rfl 5 (by decide) (List.mem_of_getElem? (i := 1) rfl) (congrArg (fun z => some (Value.int z)) hB.1.2.2) dX1_save_11 ?_
    refine k_iast hx hb E I (32 + q) (by omega) (r0 := σ (32 + q)) rfl (fun _ => (kc_P H_q)) (vp_in_nI (by omega) (by decide)) (σ2 := va_up σ (32 + q) (upd (σ (32 + q)) 0 (nI (N 2)))) (by rw [nI_clamp (by omega)]) dX1_save_14 (fun H locs I => ?_)
    refine lv_iconst (v := nI 0) hx hb dX1_save_15 (by decide) ?_
    refine lv_istore_n (lv' := [(2, .int (nI 0)), (0, .ref (ad 11)), (1, .ref (ad (32 + q)))]) hx hb dX1_save_16 rfl hl (by decide) rfl (fun ls hl => ?_)
    have LP_17 : ∀ (fuel_17 : Nat) (i : Nat) (R : Nat → Int32), N 1 - i < fuel_17 → (i ≤ N 1) → (R 0 = nI (N 2)) → (∀ t, t < i → svS R N t) → ∀ (H : Heap) (locs : List Loc), kI 38 ad (kcC cy ad) D (kA 38 ad s.heap.size) s.heap (va_up σ (32 + q) (R)) H locs → ∀ ls : Array Slot, lv_has ls 3 [(0, .ref (ad 11)), (1, .ref (ad (32 + q))), (2, .int (nI i))] → W p l e (headSpec wsX1_save ({ frames := 2, cells := 0, slots := 0, locals := 45 })).room s m [.ref (ad 11), .ref (ad (32 + q))].toArray below meth c H locs 0 0 (MQ below (va_Qv (fun σ' => ∃ R : Nat → Int32, σ' = va_up σ (32 + q) R ∧ svR R N) (kB 38 ad (kcC cy ad) D) (kA 38 ad s.heap.size)) [.ref (ad 11), .ref (ad (32 + q))].toArray s 0 0 (kA 38 ad s.heap.size)) (F0 m 17 ls []) := by
      intro fuel_17
      induction fuel_17 with
      | zero => intro i R hf_17; exact absurd hf_17 (Nat.not_lt_zero _)
      | succ fuel_17 ih_17 =>
        intro i R hf_17 hin hR0 hRs H locs I ls hl
        refine lv_iload_n hx hb dX1_save_17 rfl (lv_at hl 2 rfl) ?_
        refine lv_aload_n hx hb dX1_save_18 rfl (lv_at hl 0 rfl) ?_
        refine k_get (C := RX1) (T := TX1) (N := 6) (v := .int (nI (N 1))) hx hb hts hown E I iX1 (11) (by decide) (r0 := σ 11) (by rw [va_up_ne _ _ (by omega)]) kc_11 rfl 4 (by decide) (List.mem_of_getElem? (i := 2) rfl) (congrArg (fun z => some (Value.int z)) hB.1.2.1) dX1_save_19 ?_
        refine lv_icmp_ge (tgt := 47) hx hb dX1_save_22 (by decide) (fun c_22 => ?_) (fun c_22 => ?_)
        · have c_22 : (N 1) ≤ i := (nI_leI (by omega) (by omega)).mp c_22
          have hie : i = N 1 := by omega
          exact k_vret hx hb hr hlk I dX1_save_47 (⟨R, rfl, hR0, fun t ht => hRs t (by omega)⟩)
        · have c_22 : ¬ ((N 1) ≤ i) := fun q_ => c_22 ((nI_leI (by omega) (by omega)).mpr q_)
          have hi : i < N 1 := by omega
          have H_i : i < 5 := by omega
          have hsh := hN.2.2 i hi
          unfold nSh at hsh
          refine lv_aload_n hx hb dX1_save_25 rfl (lv_at hl 0 rfl) ?_
          refine k_get (C := RX1) (T := TX1) (N := 6) (v := .ref (ad 13)) hx hb hts hown E I iX1 (11) (by decide) (r0 := σ 11) (by rw [va_up_ne _ _ (by omega)]) kc_11 rfl 1 (by decide) (List.mem_of_getElem? (i := 3) rfl) rfl dX1_save_26 ?_
          refine lv_iload_n hx hb dX1_save_29 rfl (lv_at hl 2 rfl) ?_
          refine k_aldS (a := ad (15 + 3 * i)) hx hb E I (13) (by decide) kc_13 (vp_in_nI (by omega) (by decide)) (by rw [nI_clamp (by omega)]; exact if_pos (by omega)) dX1_save_30 ?_
          refine lv_aload_n hx hb dX1_save_31 rfl (lv_at hl 1 rfl) ?_
          refine lv_iconst (v := nI 1) hx hb dX1_save_32 (by decide) ?_
          refine lv_iload_n hx hb dX1_save_33 rfl (lv_at hl 2 rfl) ?_
          refine lv_bipush (v := nI 9) hx hb dX1_save_34 (by decide) ?_
          refine lv_imul hx hb dX1_save_36 ?_
          rw [pk_mul]
          refine lv_iadd hx hb dX1_save_37 ?_
          rw [nI_add]
          refine lv_topi (fun t_38 et_38 => ?_)
          have et_38 : t_38 = nI (1 + 9 * i) := et_38.trans (congrArg nI (by omega))
          subst et_38
          refine k_callv (k := 15 + 3 * i) (As := [.ref (ad (32 + q)), .int (nI (1 + 9 * i))]) (rest := []) ⟨hx, hb, hml, hown, hts⟩ (c_X6_save cy D ad l (va_up σ (32 + q) (R)) i q (1 + 9 * i) H_i H_q (by omega) (N (23 + 13 * i + 9)) (N (23 + 13 * i + 7)) hsh.2.2.2.1.2 hsh.2.2.2.1.1 (by rw [va_up_ne _ _ (by omega)]; exact rB_f hB hi 9 (by decide)) (by rw [va_up_ne _ _ (by omega)]; exact rB_f hB hi 7 (by decide))) (cwV 2 hts gX1_save_X6_save rfl rfl rfl (by decide +kernel) ⟨Nat.le_of_ble_eq_true rfl, Nat.le_of_ble_eq_true rfl⟩) E hA I (k_recv E I (by omega) (kc_S H_i) rfl) rfl hl.1 rfl (lv_room (Nat.le_of_ble_eq_true rfl)) dX1_save_38 ⟨Nat.le_of_ble_eq_true rfl, Nat.le_of_ble_eq_true rfl⟩ (fun σ_38 H locs hp_38 I => ?_)
          obtain ⟨R1, rfl, hk1, f1, g1, s1⟩ := hp_38
          rw [bx_uu] at I
          rw [va_up_self] at hk1
          rw [va_up_ne _ _ (show 16 + 3 * i ≠ 32 + q by omega)] at f1
          rw [va_up_ne _ _ (show 17 + 3 * i ≠ 32 + q by omega)] at g1
          rw [va_up_ne _ _ (show 15 + 3 * i ≠ 32 + q by omega)] at s1
          have hS1 : svS R1 N i := ⟨⟨f1.1.trans (rB_f hB hi 0 (by decide)), f1.2.1.trans (rB_f hB hi 1 (by decide)), f1.2.2.trans (rB_f hB hi 2 (by decide))⟩, fun hm => ⟨g1.1.trans (rB_g hB hi hm 0 (by decide)), g1.2.1.trans (rB_g hB hi hm 1 (by decide)), g1.2.2.trans (rB_g hB hi hm 2 (by decide))⟩, ⟨s1.1, s1.2.1, s1.2.2.trans (rB_f hB hi 8 (by decide))⟩⟩
          refine lv_iinc (v := nI (i + 1)) (lv' := [(2, .int (nI (i + 1))), (0, .ref (ad 11)), (1, .ref (ad (32 + q)))]) hx hb dX1_save_41 hl (k := 2) rfl (show nI i + Int32.ofInt 1 = nI (i + 1) from nI_add i 1) (by decide) rfl (fun ls hl => ?_)
          refine lv_goto (tgt := 17) hx hb dX1_save_44 (by decide) ?_
          exact ih_17 (i + 1) R1 (by omega) (by omega) ((hk1 0 (by omega)).trans hR0) (fun t ht => by by_cases e_ : t = i; (subst e_; exact hS1); (have hS2 := hRs t (by omega); unfold svS at hS2 ⊢; rw [hk1 _ (by omega), hk1 _ (by omega), hk1 _ (by omega), hk1 _ (by omega), hk1 _ (by omega), hk1 _ (by omega), hk1 _ (by omega), hk1 _ (by omega), hk1 _ (by omega)]; exact hS2)) _ _ I _ (lv_sub hl [1, 2, 0] rfl)
    exact LP_17 _ 0 _ (Nat.lt_succ_self _) (Nat.zero_le _) (rfl) (fun t ht => absurd ht (Nat.not_lt_zero t)) _ _ I _ (lv_sub hl [1, 2, 0] rfl)
  · exact absurd c_4 (by decide)

/-! KEPT FOR UNDONE: back -/
set_option maxHeartbeats 4000000 in
set_option maxRecDepth 100000 in
theorem c_X6_restore (cy : Nat → ClassId) (D : va_G) (ad : Nat → Nat) (l : Launch) (σ : Nat → Nat → Int32) (i q at_ : Nat) (H_i : i < 5) (H_q : q < 6) (hat : at_ + 9 ≤ 46) (mo ash : Nat) (hmo : mo ≤ 1) (hash : ash ≤ 1) (e2 : σ (32 + q) (at_ + 6) = nI mo) (e3 : σ (32 + q) (at_ + 7) = nI ash) : kMv 38 ad (kcC cy ad) cy D l yX6_restore wsX6_restore ({ frames := 2, cells := 0, slots := 0, locals := 45 }) [.ref (ad (15 + 3 * i)), .ref (ad (32 + q)), .int (nI at_)] σ (fun σ' => (∀ k, k ≠ 15 + 3 * i → k ≠ 16 + 3 * i → k ≠ 17 + 3 * i → σ' k = σ k) ∧ (σ' (16 + 3 * i) 0 = σ (32 + q) at_ ∧ σ' (16 + 3 * i) 1 = σ (32 + q) (at_ + 1) ∧ σ' (16 + 3 * i) 2 = σ (32 + q) (at_ + 2)) ∧ (σ' (17 + 3 * i) 0 = σ (32 + q) (at_ + 3) ∧ σ' (17 + 3 * i) 1 = σ (32 + q) (at_ + 4) ∧ σ' (17 + 3 * i) 2 = σ (32 + q) (at_ + 5)) ∧ (σ' (15 + 3 * i) 2 = nI mo ∧ σ' (15 + 3 * i) 3 = nI ash ∧ σ' (15 + 3 * i) 4 = σ (32 + q) (at_ + 8)) ∧ ∀ j, 5 ≤ j → σ' (15 + 3 * i) j = σ (15 + 3 * i) j) := by
  refine k_entry (cc := cX6_restore) (maxL := 4) (ret := none) (by decide) rfl (Nat.le_of_ble_eq_true rfl) ?_
  intro p e s m below meth c hx hb hr hml hown hts hlk E I ls hl
  have hA : ∀ q, s.heap.size ≤ q → kA 38 ad s.heap.size q := fun q h => Or.inr h
  have hown : s.vm.findClass RX6 = some m.cls := hown
  have hl : lv_has ls 4 [(0, .ref (ad (15 + 3 * i))), (1, .ref (ad (32 + q))), (2, .int (nI at_))] := hl
  have iX6 : ∀ w ∈ u_ws RX6 TX6 10, w ∈ wsX6_restore := fun w h => List.mem_cons_of_mem _ (List.mem_append_left _ (List.mem_append_right _ h))
  refine lv_iload_n hx hb dX6_restore_0 rfl (lv_at hl 2 rfl) ?_
  refine lv_if_lt (tgt := 13) hx hb dX6_restore_1 (by decide) (fun c_1 => ?_) (fun c_1 => ?_)
  · have c_1 : at_ < 0 := (nI_ltI (by omega) (by decide)).mp c_1
    exact absurd c_1 (Nat.not_lt_zero _)
  · have c_1 : ¬ (at_ < 0) := fun q_ => c_1 ((nI_ltI (by omega) (by decide)).mpr q_)
    refine lv_iload_n hx hb dX6_restore_4 rfl (lv_at hl 2 rfl) ?_
    refine lv_aload_n hx hb dX6_restore_5 rfl (lv_at hl 1 rfl) ?_
    refine k_alen (t0 := 1) hx hb E I (32 + q) (by omega) (kc_P H_q) rfl dX6_restore_6 ?_
    refine lv_bipush (v := nI 9) hx hb dX6_restore_7 (by decide) ?_
    refine lv_isub hx hb dX6_restore_9 ?_
    refine lv_topi (fun t_9 et_9 => ?_)
    have et_9 : t_9 = nI 37 := et_9.trans (by decide)
    subst et_9
    refine lv_icmp_le (tgt := 14) hx hb dX6_restore_10 (by decide) (fun c_10 => ?_) (fun c_10 => ?_)
    · have c_10 : at_ ≤ 37 := (nI_leI (by omega) (by omega)).mp c_10
      refine lv_aload_n hx hb dX6_restore_14 rfl (lv_at hl 0 rfl) ?_
      refine k_get (C := RX6) (T := TX6) (N := 10) (v := .ref (ad (16 + 3 * i))) hx hb hts hown E I iX6 (15 + 3 * i) (by omega) (r0 := σ (15 + 3 * i)) rfl (kc_S H_i) rfl 0 (by decide) (List.mem_of_getElem? (i := 1) rfl) rfl dX6_restore_15 ?_
      refine lv_aload_n hx hb dX6_restore_18 rfl (lv_at hl 1 rfl) ?_
      refine lv_iload_n hx hb dX6_restore_19 rfl (lv_at hl 2 rfl) ?_
      refine k_callv (k := 16 + 3 * i) (As := [.ref (ad (32 + q)), .int (nI at_)]) (rest := []) ⟨hx, hb, hml, hown, hts⟩ (c_X0_restore cy D ad l σ i q at_ H_i H_q (by omega)) (cwV 2 hts gX6_restore_X0_restore rfl rfl rfl (by decide +kernel) ⟨Nat.le_of_ble_eq_true rfl, Nat.le_of_ble_eq_true rfl⟩) E hA I (k_recv E I (by omega) (kc_F H_i) rfl) rfl hl.1 rfl (lv_room (Nat.le_of_ble_eq_true rfl)) dX6_restore_20 ⟨Nat.le_of_ble_eq_true rfl, Nat.le_of_ble_eq_true rfl⟩ (fun σ_20 H locs hp_20 I => ?_)
      subst hp_20
      refine lv_aload_n hx hb dX6_restore_23 rfl (lv_at hl 0 rfl) ?_
      refine k_get (C := RX6) (T := TX6) (N := 10) (v := .ref (ad (17 + 3 * i))) hx hb hts hown E I iX6 (15 + 3 * i) (by omega) (r0 := σ (15 + 3 * i)) (by rw [va_up_ne _ _ (by omega)]) (kc_S H_i) rfl 1 (by decide) (List.mem_of_getElem? (i := 2) rfl) rfl dX6_restore_24 ?_
      refine lv_aload_n hx hb dX6_restore_27 rfl (lv_at hl 1 rfl) ?_
      refine lv_iload_n hx hb dX6_restore_28 rfl (lv_at hl 2 rfl) ?_
      refine lv_iconst (v := nI 3) hx hb dX6_restore_29 (by decide) ?_
      refine lv_iadd hx hb dX6_restore_30 ?_
      rw [nI_add]
      refine k_callv (k := 17 + 3 * i) (As := [.ref (ad (32 + q)), .int (nI (at_ + 3))]) (rest := []) ⟨hx, hb, hml, hown, hts⟩ (c_X0_restore2 cy D ad l (va_up σ (16 + 3 * i) (upd (upd (upd (σ (16 + 3 * i)) (0) (σ (32 + q) at_)) (1) (σ (32 + q) (at_ + 1))) (2) (σ (32 + q) (at_ + 2)))) i q (at_ + 3) H_i H_q (by omega)) (cwV 2 hts gX6_restore_X0_restore rfl rfl rfl (by decide +kernel) ⟨Nat.le_of_ble_eq_true rfl, Nat.le_of_ble_eq_true rfl⟩) E hA I (k_recv E I (by omega) (kc_G H_i) rfl) rfl hl.1 rfl (lv_room (Nat.le_of_ble_eq_true rfl)) dX6_restore_31 ⟨Nat.le_of_ble_eq_true rfl, Nat.le_of_ble_eq_true rfl⟩ (fun σ_31 H locs hp_31 I => ?_)
      subst hp_31
      rw [va_up_ne _ _ (show 17 + 3 * i ≠ 16 + 3 * i by omega), va_up_ne _ _ (show 32 + q ≠ 16 + 3 * i by omega)] at I
      refine lv_iload_n hx hb dX6_restore_34 rfl (lv_at hl 2 rfl) ?_
      refine lv_bipush (v := nI 6) hx hb dX6_restore_35 (by decide) ?_
      refine lv_iadd hx hb dX6_restore_37 ?_
      rw [nI_add]
      refine lv_istore_n (lv' := [(3, .int (nI (at_ + 6))), (0, .ref (ad (15 + 3 * i))), (1, .ref (ad (32 + q))), (2, .int (nI at_))]) hx hb dX6_restore_38 rfl hl (by decide) rfl (fun ls hl => ?_)
      refine lv_aload_n hx hb dX6_restore_39 rfl (lv_at hl 1 rfl) ?_
      refine lv_aload_n hx hb dX6_restore_40 rfl (lv_at hl 2 rfl) ?_
      refine lv_iload_n hx hb dX6_restore_41 rfl (lv_at hl 0 rfl) ?_
      refine k_iald hx hb E I (32 + q) (by omega) (r0 := σ (32 + q)) (by rw [va_up_ne _ _ (by omega), va_up_ne _ _ (by omega)]) (kc_P H_q) (vp_in_nI (by omega) (by decide)) dX6_restore_42 ?_
      rw [nI_clamp (by omega)]
      rw [e2]
      refine lv_iconst (v := nI 1) hx hb dX6_restore_43 (by decide) ?_
      refine lv_icmp_ne (tgt := 51) hx hb dX6_restore_44 (by decide) (fun c_44 => ?_) (fun c_44 => ?_)
      · have c_44 : ¬ (mo = 1) := fun q_ => c_44 ((nI_eq (by omega) (by omega)).mpr q_)
        have hmv : nI 0 = nI mo := congrArg nI (by omega)
        refine lv_iconst (v := nI 0) hx hb dX6_restore_51 (by decide) ?_
        refine k_put (C := RX6) (T := TX6) (N := 10) (ty0 := tyX6) (ty := .boolean) (v := .int (nI 0)) hx hb hts hown E I iX6 tyX6_ok nmX6 (15 + 3 * i) (by omega) (r0 := σ (15 + 3 * i)) (by rw [va_up_ne _ _ (by omega), va_up_ne _ _ (by omega)]) (kc_S H_i) rfl 2 (by decide) (List.mem_of_getElem? (i := 3) rfl) rfl rfl (by decide) (by decide) (Nat.le_of_ble_eq_true rfl) (upd (σ (15 + 3 * i)) 2 (nI 0)) (kc_S (cy := cy) (ad := ad) (r := (upd (σ (15 + 3 * i)) 2 (nI 0))) H_i).symm (σ2 := va_up (va_up (va_up σ (16 + 3 * i) (upd (upd (upd (σ (16 + 3 * i)) (0) (σ (32 + q) at_)) (1) (σ (32 + q) (at_ + 1))) (2) (σ (32 + q) (at_ + 2)))) (17 + 3 * i) (upd (upd (upd (σ (17 + 3 * i)) (0) (σ (32 + q) (at_ + 3))) (1) (σ (32 + q) (at_ + 3 + 1))) (2) (σ (32 + q) (at_ + 3 + 2)))) (15 + 3 * i) (upd (σ (15 + 3 * i)) 2 (nI 0))) rfl dX6_restore_52 (fun H locs I => ?_)
        refine lv_aload_n hx hb dX6_restore_55 rfl (lv_at hl 1 rfl) ?_
        refine lv_aload_n hx hb dX6_restore_56 rfl (lv_at hl 2 rfl) ?_
        refine lv_iload_n hx hb dX6_restore_57 rfl (lv_at hl 0 rfl) ?_
        refine lv_iconst (v := nI 1) hx hb dX6_restore_58 (by decide) ?_
        refine lv_iadd hx hb dX6_restore_59 ?_
        rw [nI_add]
        refine k_iald hx hb E I (32 + q) (by omega) (r0 := σ (32 + q)) (by rw [va_up_ne _ _ (by omega), va_up_ne _ _ (by omega), va_up_ne _ _ (by omega)]) (kc_P H_q) (vp_in_nI (by omega) (by decide)) dX6_restore_60 ?_
        rw [nI_clamp (by omega)]
        rw [show σ (32 + q) (at_ + 6 + 1) = nI ash from e3]
        refine lv_iconst (v := nI 1) hx hb dX6_restore_61 (by decide) ?_
        refine lv_icmp_ne (tgt := 69) hx hb dX6_restore_62 (by decide) (fun c_62 => ?_) (fun c_62 => ?_)
        · have c_62 : ¬ (ash = 1) := fun q_ => c_62 ((nI_eq (by omega) (by omega)).mpr q_)
          have hav : nI 0 = nI ash := congrArg nI (by omega)
          refine lv_iconst (v := nI 0) hx hb dX6_restore_69 (by decide) ?_
          refine k_put (C := RX6) (T := TX6) (N := 10) (ty0 := tyX6) (ty := .boolean) (v := .int (nI 0)) hx hb hts hown E I iX6 tyX6_ok nmX6 (15 + 3 * i) (by omega) (r0 := (upd (σ (15 + 3 * i)) 2 (nI 0))) (by rw [va_up_self]) (kc_S H_i) rfl 3 (by decide) (List.mem_of_getElem? (i := 4) rfl) rfl rfl (by decide) (by decide) (Nat.le_of_ble_eq_true rfl) (upd (upd (σ (15 + 3 * i)) 2 (nI 0)) 3 (nI 0)) (kc_S (cy := cy) (ad := ad) (r := (upd (upd (σ (15 + 3 * i)) 2 (nI 0)) 3 (nI 0))) H_i).symm (σ2 := va_up (va_up (va_up σ (16 + 3 * i) (upd (upd (upd (σ (16 + 3 * i)) (0) (σ (32 + q) at_)) (1) (σ (32 + q) (at_ + 1))) (2) (σ (32 + q) (at_ + 2)))) (17 + 3 * i) (upd (upd (upd (σ (17 + 3 * i)) (0) (σ (32 + q) (at_ + 3))) (1) (σ (32 + q) (at_ + 3 + 1))) (2) (σ (32 + q) (at_ + 3 + 2)))) (15 + 3 * i) (upd (upd (σ (15 + 3 * i)) 2 (nI 0)) 3 (nI 0))) (bx_uu _ _ _ _) dX6_restore_70 (fun H locs I => ?_)
          refine lv_aload_n hx hb dX6_restore_73 rfl (lv_at hl 1 rfl) ?_
          refine lv_aload_n hx hb dX6_restore_74 rfl (lv_at hl 2 rfl) ?_
          refine lv_iload_n hx hb dX6_restore_75 rfl (lv_at hl 0 rfl) ?_
          refine lv_iconst (v := nI 2) hx hb dX6_restore_76 (by decide) ?_
          refine lv_iadd hx hb dX6_restore_77 ?_
          rw [nI_add]
          refine k_iald hx hb E I (32 + q) (by omega) (r0 := σ (32 + q)) (by rw [va_up_ne _ _ (by omega), va_up_ne _ _ (by omega), va_up_ne _ _ (by omega)]) (kc_P H_q) (vp_in_nI (by omega) (by decide)) dX6_restore_78 ?_
          rw [nI_clamp (by omega)]
          refine k_put (C := RX6) (T := TX6) (N := 10) (ty0 := tyX6) (ty := .int) (v := .int (σ (32 + q) ((at_ + 6) + 2))) hx hb hts hown E I iX6 tyX6_ok nmX6 (15 + 3 * i) (by omega) (r0 := (upd (upd (σ (15 + 3 * i)) 2 (nI 0)) 3 (nI 0))) (by rw [va_up_self]) (kc_S H_i) rfl 4 (by decide) (List.mem_of_getElem? (i := 5) rfl) rfl rfl rfl rfl (Nat.le_of_ble_eq_true rfl) (upd (upd (upd (σ (15 + 3 * i)) 2 (nI 0)) 3 (nI 0)) 4 (σ (32 + q) ((at_ + 6) + 2))) (kc_S (cy := cy) (ad := ad) (r := (upd (upd (upd (σ (15 + 3 * i)) 2 (nI 0)) 3 (nI 0)) 4 (σ (32 + q) ((at_ + 6) + 2)))) H_i).symm (σ2 := va_up (va_up (va_up σ (16 + 3 * i) (upd (upd (upd (σ (16 + 3 * i)) (0) (σ (32 + q) at_)) (1) (σ (32 + q) (at_ + 1))) (2) (σ (32 + q) (at_ + 2)))) (17 + 3 * i) (upd (upd (upd (σ (17 + 3 * i)) (0) (σ (32 + q) (at_ + 3))) (1) (σ (32 + q) (at_ + 3 + 1))) (2) (σ (32 + q) (at_ + 3 + 2)))) (15 + 3 * i) (upd (upd (upd (σ (15 + 3 * i)) 2 (nI 0)) 3 (nI 0)) 4 (σ (32 + q) ((at_ + 6) + 2)))) (bx_uu _ _ _ _) dX6_restore_79 (fun H locs I => ?_)
          exact k_vret hx hb hr hlk I dX6_restore_82 (⟨fun k a b d => by rw [va_up_ne _ _ a, va_up_ne _ _ d, va_up_ne _ _ b], ⟨by rw [va_up_ne _ _ (by omega), va_up_ne _ _ (by omega), va_up_self]; rfl, by rw [va_up_ne _ _ (by omega), va_up_ne _ _ (by omega), va_up_self]; rfl, by rw [va_up_ne _ _ (by omega), va_up_ne _ _ (by omega), va_up_self]; rfl⟩, ⟨by rw [va_up_ne _ _ (by omega), va_up_self]; rfl, by rw [va_up_ne _ _ (by omega), va_up_self]; rfl, by rw [va_up_ne _ _ (by omega), va_up_self]; rfl⟩, ⟨by rw [va_up_self]; exact hmv, by rw [va_up_self]; exact hav, by rw [va_up_self]; rfl⟩, fun j hj => by rw [va_up_self, pk_un (by omega), pk_un (by omega), pk_un (by omega)]⟩)
        · have c_62 : ash = 1 := (nI_eq (by omega) (by omega)).mp c_62
          have hav : nI 1 = nI ash := congrArg nI (by omega)
          refine lv_iconst (v := nI 1) hx hb dX6_restore_65 (by decide) ?_
          refine lv_goto (tgt := 70) hx hb dX6_restore_66 (by decide) ?_
          refine k_put (C := RX6) (T := TX6) (N := 10) (ty0 := tyX6) (ty := .boolean) (v := .int (nI 1)) hx hb hts hown E I iX6 tyX6_ok nmX6 (15 + 3 * i) (by omega) (r0 := (upd (σ (15 + 3 * i)) 2 (nI 0))) (by rw [va_up_self]) (kc_S H_i) rfl 3 (by decide) (List.mem_of_getElem? (i := 4) rfl) rfl rfl (by decide) (by decide) (Nat.le_of_ble_eq_true rfl) (upd (upd (σ (15 + 3 * i)) 2 (nI 0)) 3 (nI 1)) (kc_S (cy := cy) (ad := ad) (r := (upd (upd (σ (15 + 3 * i)) 2 (nI 0)) 3 (nI 1))) H_i).symm (σ2 := va_up (va_up (va_up σ (16 + 3 * i) (upd (upd (upd (σ (16 + 3 * i)) (0) (σ (32 + q) at_)) (1) (σ (32 + q) (at_ + 1))) (2) (σ (32 + q) (at_ + 2)))) (17 + 3 * i) (upd (upd (upd (σ (17 + 3 * i)) (0) (σ (32 + q) (at_ + 3))) (1) (σ (32 + q) (at_ + 3 + 1))) (2) (σ (32 + q) (at_ + 3 + 2)))) (15 + 3 * i) (upd (upd (σ (15 + 3 * i)) 2 (nI 0)) 3 (nI 1))) (bx_uu _ _ _ _) dX6_restore_70 (fun H locs I => ?_)
          refine lv_aload_n hx hb dX6_restore_73 rfl (lv_at hl 1 rfl) ?_
          refine lv_aload_n hx hb dX6_restore_74 rfl (lv_at hl 2 rfl) ?_
          refine lv_iload_n hx hb dX6_restore_75 rfl (lv_at hl 0 rfl) ?_
          refine lv_iconst (v := nI 2) hx hb dX6_restore_76 (by decide) ?_
          refine lv_iadd hx hb dX6_restore_77 ?_
          rw [nI_add]
          refine k_iald hx hb E I (32 + q) (by omega) (r0 := σ (32 + q)) (by rw [va_up_ne _ _ (by omega), va_up_ne _ _ (by omega), va_up_ne _ _ (by omega)]) (kc_P H_q) (vp_in_nI (by omega) (by decide)) dX6_restore_78 ?_
          rw [nI_clamp (by omega)]
          refine k_put (C := RX6) (T := TX6) (N := 10) (ty0 := tyX6) (ty := .int) (v := .int (σ (32 + q) ((at_ + 6) + 2))) hx hb hts hown E I iX6 tyX6_ok nmX6 (15 + 3 * i) (by omega) (r0 := (upd (upd (σ (15 + 3 * i)) 2 (nI 0)) 3 (nI 1))) (by rw [va_up_self]) (kc_S H_i) rfl 4 (by decide) (List.mem_of_getElem? (i := 5) rfl) rfl rfl rfl rfl (Nat.le_of_ble_eq_true rfl) (upd (upd (upd (σ (15 + 3 * i)) 2 (nI 0)) 3 (nI 1)) 4 (σ (32 + q) ((at_ + 6) + 2))) (kc_S (cy := cy) (ad := ad) (r := (upd (upd (upd (σ (15 + 3 * i)) 2 (nI 0)) 3 (nI 1)) 4 (σ (32 + q) ((at_ + 6) + 2)))) H_i).symm (σ2 := va_up (va_up (va_up σ (16 + 3 * i) (upd (upd (upd (σ (16 + 3 * i)) (0) (σ (32 + q) at_)) (1) (σ (32 + q) (at_ + 1))) (2) (σ (32 + q) (at_ + 2)))) (17 + 3 * i) (upd (upd (upd (σ (17 + 3 * i)) (0) (σ (32 + q) (at_ + 3))) (1) (σ (32 + q) (at_ + 3 + 1))) (2) (σ (32 + q) (at_ + 3 + 2)))) (15 + 3 * i) (upd (upd (upd (σ (15 + 3 * i)) 2 (nI 0)) 3 (nI 1)) 4 (σ (32 + q) ((at_ + 6) + 2)))) (bx_uu _ _ _ _) dX6_restore_79 (fun H locs I => ?_)
          exact k_vret hx hb hr hlk I dX6_restore_82 (⟨fun k a b d => by rw [va_up_ne _ _ a, va_up_ne _ _ d, va_up_ne _ _ b], ⟨by rw [va_up_ne _ _ (by omega), va_up_ne _ _ (by omega), va_up_self]; rfl, by rw [va_up_ne _ _ (by omega), va_up_ne _ _ (by omega), va_up_self]; rfl, by rw [va_up_ne _ _ (by omega), va_up_ne _ _ (by omega), va_up_self]; rfl⟩, ⟨by rw [va_up_ne _ _ (by omega), va_up_self]; rfl, by rw [va_up_ne _ _ (by omega), va_up_self]; rfl, by rw [va_up_ne _ _ (by omega), va_up_self]; rfl⟩, ⟨by rw [va_up_self]; exact hmv, by rw [va_up_self]; exact hav, by rw [va_up_self]; rfl⟩, fun j hj => by rw [va_up_self, pk_un (by omega), pk_un (by omega), pk_un (by omega)]⟩)
      · have c_44 : mo = 1 := (nI_eq (by omega) (by omega)).mp c_44
        have hmv : nI 1 = nI mo := congrArg nI (by omega)
        refine lv_iconst (v := nI 1) hx hb dX6_restore_47 (by decide) ?_
        refine lv_goto (tgt := 52) hx hb dX6_restore_48 (by decide) ?_
        refine k_put (C := RX6) (T := TX6) (N := 10) (ty0 := tyX6) (ty := .boolean) (v := .int (nI 1)) hx hb hts hown E I iX6 tyX6_ok nmX6 (15 + 3 * i) (by omega) (r0 := σ (15 + 3 * i)) (by rw [va_up_ne _ _ (by omega), va_up_ne _ _ (by omega)]) (kc_S H_i) rfl 2 (by decide) (List.mem_of_getElem? (i := 3) rfl) rfl rfl (by decide) (by decide) (Nat.le_of_ble_eq_true rfl) (upd (σ (15 + 3 * i)) 2 (nI 1)) (kc_S (cy := cy) (ad := ad) (r := (upd (σ (15 + 3 * i)) 2 (nI 1))) H_i).symm (σ2 := va_up (va_up (va_up σ (16 + 3 * i) (upd (upd (upd (σ (16 + 3 * i)) (0) (σ (32 + q) at_)) (1) (σ (32 + q) (at_ + 1))) (2) (σ (32 + q) (at_ + 2)))) (17 + 3 * i) (upd (upd (upd (σ (17 + 3 * i)) (0) (σ (32 + q) (at_ + 3))) (1) (σ (32 + q) (at_ + 3 + 1))) (2) (σ (32 + q) (at_ + 3 + 2)))) (15 + 3 * i) (upd (σ (15 + 3 * i)) 2 (nI 1))) rfl dX6_restore_52 (fun H locs I => ?_)
        refine lv_aload_n hx hb dX6_restore_55 rfl (lv_at hl 1 rfl) ?_
        refine lv_aload_n hx hb dX6_restore_56 rfl (lv_at hl 2 rfl) ?_
        refine lv_iload_n hx hb dX6_restore_57 rfl (lv_at hl 0 rfl) ?_
        refine lv_iconst (v := nI 1) hx hb dX6_restore_58 (by decide) ?_
        refine lv_iadd hx hb dX6_restore_59 ?_
        rw [nI_add]
        refine k_iald hx hb E I (32 + q) (by omega) (r0 := σ (32 + q)) (by rw [va_up_ne _ _ (by omega), va_up_ne _ _ (by omega), va_up_ne _ _ (by omega)]) (kc_P H_q) (vp_in_nI (by omega) (by decide)) dX6_restore_60 ?_
        rw [nI_clamp (by omega)]
        rw [show σ (32 + q) (at_ + 6 + 1) = nI ash from e3]
        refine lv_iconst (v := nI 1) hx hb dX6_restore_61 (by decide) ?_
        refine lv_icmp_ne (tgt := 69) hx hb dX6_restore_62 (by decide) (fun c_62 => ?_) (fun c_62 => ?_)
        · have c_62 : ¬ (ash = 1) := fun q_ => c_62 ((nI_eq (by omega) (by omega)).mpr q_)
          have hav : nI 0 = nI ash := congrArg nI (by omega)
          refine lv_iconst (v := nI 0) hx hb dX6_restore_69 (by decide) ?_
          refine k_put (C := RX6) (T := TX6) (N := 10) (ty0 := tyX6) (ty := .boolean) (v := .int (nI 0)) hx hb hts hown E I iX6 tyX6_ok nmX6 (15 + 3 * i) (by omega) (r0 := (upd (σ (15 + 3 * i)) 2 (nI 1))) (by rw [va_up_self]) (kc_S H_i) rfl 3 (by decide) (List.mem_of_getElem? (i := 4) rfl) rfl rfl (by decide) (by decide) (Nat.le_of_ble_eq_true rfl) (upd (upd (σ (15 + 3 * i)) 2 (nI 1)) 3 (nI 0)) (kc_S (cy := cy) (ad := ad) (r := (upd (upd (σ (15 + 3 * i)) 2 (nI 1)) 3 (nI 0))) H_i).symm (σ2 := va_up (va_up (va_up σ (16 + 3 * i) (upd (upd (upd (σ (16 + 3 * i)) (0) (σ (32 + q) at_)) (1) (σ (32 + q) (at_ + 1))) (2) (σ (32 + q) (at_ + 2)))) (17 + 3 * i) (upd (upd (upd (σ (17 + 3 * i)) (0) (σ (32 + q) (at_ + 3))) (1) (σ (32 + q) (at_ + 3 + 1))) (2) (σ (32 + q) (at_ + 3 + 2)))) (15 + 3 * i) (upd (upd (σ (15 + 3 * i)) 2 (nI 1)) 3 (nI 0))) (bx_uu _ _ _ _) dX6_restore_70 (fun H locs I => ?_)
          refine lv_aload_n hx hb dX6_restore_73 rfl (lv_at hl 1 rfl) ?_
          refine lv_aload_n hx hb dX6_restore_74 rfl (lv_at hl 2 rfl) ?_
          refine lv_iload_n hx hb dX6_restore_75 rfl (lv_at hl 0 rfl) ?_
          refine lv_iconst (v := nI 2) hx hb dX6_restore_76 (by decide) ?_
          refine lv_iadd hx hb dX6_restore_77 ?_
          rw [nI_add]
          refine k_iald hx hb E I (32 + q) (by omega) (r0 := σ (32 + q)) (by rw [va_up_ne _ _ (by omega), va_up_ne _ _ (by omega), va_up_ne _ _ (by omega)]) (kc_P H_q) (vp_in_nI (by omega) (by decide)) dX6_restore_78 ?_
          rw [nI_clamp (by omega)]
          refine k_put (C := RX6) (T := TX6) (N := 10) (ty0 := tyX6) (ty := .int) (v := .int (σ (32 + q) ((at_ + 6) + 2))) hx hb hts hown E I iX6 tyX6_ok nmX6 (15 + 3 * i) (by omega) (r0 := (upd (upd (σ (15 + 3 * i)) 2 (nI 1)) 3 (nI 0))) (by rw [va_up_self]) (kc_S H_i) rfl 4 (by decide) (List.mem_of_getElem? (i := 5) rfl) rfl rfl rfl rfl (Nat.le_of_ble_eq_true rfl) (upd (upd (upd (σ (15 + 3 * i)) 2 (nI 1)) 3 (nI 0)) 4 (σ (32 + q) ((at_ + 6) + 2))) (kc_S (cy := cy) (ad := ad) (r := (upd (upd (upd (σ (15 + 3 * i)) 2 (nI 1)) 3 (nI 0)) 4 (σ (32 + q) ((at_ + 6) + 2)))) H_i).symm (σ2 := va_up (va_up (va_up σ (16 + 3 * i) (upd (upd (upd (σ (16 + 3 * i)) (0) (σ (32 + q) at_)) (1) (σ (32 + q) (at_ + 1))) (2) (σ (32 + q) (at_ + 2)))) (17 + 3 * i) (upd (upd (upd (σ (17 + 3 * i)) (0) (σ (32 + q) (at_ + 3))) (1) (σ (32 + q) (at_ + 3 + 1))) (2) (σ (32 + q) (at_ + 3 + 2)))) (15 + 3 * i) (upd (upd (upd (σ (15 + 3 * i)) 2 (nI 1)) 3 (nI 0)) 4 (σ (32 + q) ((at_ + 6) + 2)))) (bx_uu _ _ _ _) dX6_restore_79 (fun H locs I => ?_)
          exact k_vret hx hb hr hlk I dX6_restore_82 (⟨fun k a b d => by rw [va_up_ne _ _ a, va_up_ne _ _ d, va_up_ne _ _ b], ⟨by rw [va_up_ne _ _ (by omega), va_up_ne _ _ (by omega), va_up_self]; rfl, by rw [va_up_ne _ _ (by omega), va_up_ne _ _ (by omega), va_up_self]; rfl, by rw [va_up_ne _ _ (by omega), va_up_ne _ _ (by omega), va_up_self]; rfl⟩, ⟨by rw [va_up_ne _ _ (by omega), va_up_self]; rfl, by rw [va_up_ne _ _ (by omega), va_up_self]; rfl, by rw [va_up_ne _ _ (by omega), va_up_self]; rfl⟩, ⟨by rw [va_up_self]; exact hmv, by rw [va_up_self]; exact hav, by rw [va_up_self]; rfl⟩, fun j hj => by rw [va_up_self, pk_un (by omega), pk_un (by omega), pk_un (by omega)]⟩)
        · have c_62 : ash = 1 := (nI_eq (by omega) (by omega)).mp c_62
          have hav : nI 1 = nI ash := congrArg nI (by omega)
          refine lv_iconst (v := nI 1) hx hb dX6_restore_65 (by decide) ?_
          refine lv_goto (tgt := 70) hx hb dX6_restore_66 (by decide) ?_
          refine k_put (C := RX6) (T := TX6) (N := 10) (ty0 := tyX6) (ty := .boolean) (v := .int (nI 1)) hx hb hts hown E I iX6 tyX6_ok nmX6 (15 + 3 * i) (by omega) (r0 := (upd (σ (15 + 3 * i)) 2 (nI 1))) (by rw [va_up_self]) (kc_S H_i) rfl 3 (by decide) (List.mem_of_getElem? (i := 4) rfl) rfl rfl (by decide) (by decide) (Nat.le_of_ble_eq_true rfl) (upd (upd (σ (15 + 3 * i)) 2 (nI 1)) 3 (nI 1)) (kc_S (cy := cy) (ad := ad) (r := (upd (upd (σ (15 + 3 * i)) 2 (nI 1)) 3 (nI 1))) H_i).symm (σ2 := va_up (va_up (va_up σ (16 + 3 * i) (upd (upd (upd (σ (16 + 3 * i)) (0) (σ (32 + q) at_)) (1) (σ (32 + q) (at_ + 1))) (2) (σ (32 + q) (at_ + 2)))) (17 + 3 * i) (upd (upd (upd (σ (17 + 3 * i)) (0) (σ (32 + q) (at_ + 3))) (1) (σ (32 + q) (at_ + 3 + 1))) (2) (σ (32 + q) (at_ + 3 + 2)))) (15 + 3 * i) (upd (upd (σ (15 + 3 * i)) 2 (nI 1)) 3 (nI 1))) (bx_uu _ _ _ _) dX6_restore_70 (fun H locs I => ?_)
          refine lv_aload_n hx hb dX6_restore_73 rfl (lv_at hl 1 rfl) ?_
          refine lv_aload_n hx hb dX6_restore_74 rfl (lv_at hl 2 rfl) ?_
          refine lv_iload_n hx hb dX6_restore_75 rfl (lv_at hl 0 rfl) ?_
          refine lv_iconst (v := nI 2) hx hb dX6_restore_76 (by decide) ?_
          refine lv_iadd hx hb dX6_restore_77 ?_
          rw [nI_add]
          refine k_iald hx hb E I (32 + q) (by omega) (r0 := σ (32 + q)) (by rw [va_up_ne _ _ (by omega), va_up_ne _ _ (by omega), va_up_ne _ _ (by omega)]) (kc_P H_q) (vp_in_nI (by omega) (by decide)) dX6_restore_78 ?_
          rw [nI_clamp (by omega)]
          refine k_put (C := RX6) (T := TX6) (N := 10) (ty0 := tyX6) (ty := .int) (v := .int (σ (32 + q) ((at_ + 6) + 2))) hx hb hts hown E I iX6 tyX6_ok nmX6 (15 + 3 * i) (by omega) (r0 := (upd (upd (σ (15 + 3 * i)) 2 (nI 1)) 3 (nI 1))) (by rw [va_up_self]) (kc_S H_i) rfl 4 (by decide) (List.mem_of_getElem? (i := 5) rfl) rfl rfl rfl rfl (Nat.le_of_ble_eq_true rfl) (upd (upd (upd (σ (15 + 3 * i)) 2 (nI 1)) 3 (nI 1)) 4 (σ (32 + q) ((at_ + 6) + 2))) (kc_S (cy := cy) (ad := ad) (r := (upd (upd (upd (σ (15 + 3 * i)) 2 (nI 1)) 3 (nI 1)) 4 (σ (32 + q) ((at_ + 6) + 2)))) H_i).symm (σ2 := va_up (va_up (va_up σ (16 + 3 * i) (upd (upd (upd (σ (16 + 3 * i)) (0) (σ (32 + q) at_)) (1) (σ (32 + q) (at_ + 1))) (2) (σ (32 + q) (at_ + 2)))) (17 + 3 * i) (upd (upd (upd (σ (17 + 3 * i)) (0) (σ (32 + q) (at_ + 3))) (1) (σ (32 + q) (at_ + 3 + 1))) (2) (σ (32 + q) (at_ + 3 + 2)))) (15 + 3 * i) (upd (upd (upd (σ (15 + 3 * i)) 2 (nI 1)) 3 (nI 1)) 4 (σ (32 + q) ((at_ + 6) + 2)))) (bx_uu _ _ _ _) dX6_restore_79 (fun H locs I => ?_)
          exact k_vret hx hb hr hlk I dX6_restore_82 (⟨fun k a b d => by rw [va_up_ne _ _ a, va_up_ne _ _ d, va_up_ne _ _ b], ⟨by rw [va_up_ne _ _ (by omega), va_up_ne _ _ (by omega), va_up_self]; rfl, by rw [va_up_ne _ _ (by omega), va_up_ne _ _ (by omega), va_up_self]; rfl, by rw [va_up_ne _ _ (by omega), va_up_ne _ _ (by omega), va_up_self]; rfl⟩, ⟨by rw [va_up_ne _ _ (by omega), va_up_self]; rfl, by rw [va_up_ne _ _ (by omega), va_up_self]; rfl, by rw [va_up_ne _ _ (by omega), va_up_self]; rfl⟩, ⟨by rw [va_up_self]; exact hmv, by rw [va_up_self]; exact hav, by rw [va_up_self]; rfl⟩, fun j hj => by rw [va_up_self, pk_un (by omega), pk_un (by omega), pk_un (by omega)]⟩)
    · have c_10 : ¬ (at_ ≤ 37) := fun q_ => c_10 ((nI_leI (by omega) (by omega)).mpr q_)
      omega
set_option maxHeartbeats 4000000 in
set_option maxRecDepth 100000 in
theorem c_X1_restore (cy : Nat → ClassId) (D : va_G) (ad : Nat → Nat) (l : Launch) (σ : Nat → Nat → Int32) (N : Nat → Nat) (hN : nOk N) (hB : rBay σ N) (q : Nat) (H_q : q < 6) (M : Nat → Nat) (hM : nOk M) (hc : cst M N) (hv : svR (σ (32 + q)) M) : kMv 38 ad (kcC cy ad) cy D l yX1_restore wsX1_restore ({ frames := 3, cells := 0, slots := 0, locals := 68 }) [.ref (ad 11), .ref (ad (32 + q))] σ (fun σ' => rBay σ' M ∧ ∀ k, (k < 11 ∨ 30 ≤ k) → σ' k = σ k) := by
  have h5 := hN.1
  refine k_entry (cc := cX1_restore) (maxL := 3) (ret := none) (by decide) rfl (Nat.le_of_ble_eq_true rfl) ?_
  intro p e s m below meth c hx hb hr hml hown hts hlk E I ls hl
  have hA : ∀ q, s.heap.size ≤ q → kA 38 ad s.heap.size q := fun q h => Or.inr h
  have hown : s.vm.findClass RX1 = some m.cls := hown
  have hl : lv_has ls 3 [(0, .ref (ad 11)), (1, .ref (ad (32 + q)))] := hl
  have iX1 : ∀ w ∈ u_ws RX1 TX1 6, w ∈ wsX1_restore := fun w h => List.mem_cons_of_mem _ (List.mem_append_left _ (List.mem_append_left _ (List.mem_append_right _ h)))
  refine lv_aload_n hx hb dX1_restore_0 rfl (lv_at hl 1 rfl) ?_
  refine k_alen (t0 := 1) hx hb E I (32 + q) (by omega) (kc_P H_q) rfl dX1_restore_1 ?_
  refine lv_bipush (v := nI 46) hx hb dX1_restore_2 (by decide) ?_
  refine lv_icmp_ge (tgt := 8) hx hb dX1_restore_4 (by decide) (fun c_4 => ?_) (fun c_4 => ?_)
  · refine lv_aload_n hx hb dX1_restore_8 rfl (lv_at hl 0 rfl) ?_
    refine lv_aload_n hx hb dX1_restore_9 rfl (lv_at hl 1 rfl) ?_
    refine lv_iconst (v := nI 0) hx hb dX1_restore_10 (by decide) ?_
    refine k_iald hx hb E I (32 + q) (by omega) (r0 := σ (32 + q)) rfl (kc_P H_q) (vp_in_nI (by omega) (by decide)) dX1_restore_11 ?_
    rw [nI_clamp (by omega)]
    rw [hv.1]
    refine k_put (C := RX1) (T := TX1) (N := 6) (ty0 := tyX1) (ty := .int) (v := .int (nI (M 2))) hx hb hts hown E I iX1 tyX1_ok nmX1 (11) (by decide) (r0 := σ 11) rfl kc_11 rfl 5 (by decide) (List.mem_of_getElem? (i := 1) rfl) rfl rfl rfl rfl (Nat.le_of_ble_eq_true rfl) (upd (σ 11) 5 (nI (M 2))) rfl (σ2 := va_up σ 11 (upd (σ 11) 5 (nI (M 2)))) rfl dX1_restore_12 (fun H locs I => ?_)
    refine lv_iconst (v := nI 0) hx hb dX1_restore_15 (by decide) ?_
    refine lv_istore_n (lv' := [(2, .int (nI 0)), (0, .ref (ad 11)), (1, .ref (ad (32 + q)))]) hx hb dX1_restore_16 rfl hl (by decide) rfl (fun ls hl => ?_)
    have LP_17 : ∀ (fuel_17 : Nat) (i : Nat) (τ : Nat → Nat → Int32), N 1 - i < fuel_17 → (i ≤ N 1) → (∀ k, (k < 15 ∨ 30 ≤ k) → k ≠ 11 → τ k = σ k) → (τ 11 = upd (σ 11) 5 (nI (M 2))) → (∀ t, t < i → rS τ M t) → (∀ t, i ≤ t → t < 5 → τ (15 + 3 * t) = σ (15 + 3 * t) ∧ τ (16 + 3 * t) = σ (16 + 3 * t) ∧ τ (17 + 3 * t) = σ (17 + 3 * t)) → ∀ (H : Heap) (locs : List Loc), kI 38 ad (kcC cy ad) D (kA 38 ad s.heap.size) s.heap τ H locs → ∀ ls : Array Slot, lv_has ls 3 [(0, .ref (ad 11)), (1, .ref (ad (32 + q))), (2, .int (nI i))] → W p l e (headSpec wsX1_restore ({ frames := 3, cells := 0, slots := 0, locals := 68 })).room s m [.ref (ad 11), .ref (ad (32 + q))].toArray below meth c H locs 0 0 (MQ below (va_Qv (fun σ' => rBay σ' M ∧ ∀ k, (k < 11 ∨ 30 ≤ k) → σ' k = σ k) (kB 38 ad (kcC cy ad) D) (kA 38 ad s.heap.size)) [.ref (ad 11), .ref (ad (32 + q))].toArray s 0 0 (kA 38 ad s.heap.size)) (F0 m 17 ls []) := by
      intro fuel_17
      induction fuel_17 with
      | zero => intro i τ hf_17; exact absurd hf_17 (Nat.not_lt_zero _)
      | succ fuel_17 ih_17 =>
        intro i τ hf_17 hin hkp h11 hdo hto H locs I ls hl
        have hc4 : τ 11 4 = nI (N 1) := by rw [h11]; exact hB.1.2.1
        refine lv_iload_n hx hb dX1_restore_17 rfl (lv_at hl 2 rfl) ?_
        refine lv_aload_n hx hb dX1_restore_18 rfl (lv_at hl 0 rfl) ?_
        refine k_get (C := RX1) (T := TX1) (N := 6) (v := .int (nI (N 1))) hx hb hts hown E I iX1 (11) (by decide) (r0 := τ 11) rfl kc_11 rfl 4 (by decide) (List.mem_of_getElem? (i := 2) rfl) (congrArg (fun z => some (Value.int z)) hc4) dX1_restore_19 ?_
        refine lv_icmp_ge (tgt := 47) hx hb dX1_restore_22 (by decide) (fun c_22 => ?_) (fun c_22 => ?_)
        · have c_22 : (N 1) ≤ i := (nI_leI (by omega) (by omega)).mp c_22
          have hie : i = N 1 := by omega
          exact k_vret hx hb hr hlk I dX1_restore_47 (⟨⟨⟨by rw [h11, hc.1]; exact hB.1.1, by rw [h11, hc.2.1]; exact hB.1.2.1, by rw [h11]; rfl⟩, fun k hk => by rw [hc.1] at hk; rw [hkp 12 (by omega) (by omega), hc.2.2.1 k hk]; exact hB.2.1 k hk, fun t ht => hdo t (by rw [hc.2.1] at ht; omega)⟩, fun k a => hkp k (by omega) (by omega)⟩)
        · have c_22 : ¬ ((N 1) ≤ i) := fun q_ => c_22 ((nI_leI (by omega) (by omega)).mpr q_)
          have hi : i < N 1 := by omega
          have H_i : i < 5 := by omega
          have hiM : i < M 1 := by rw [hc.2.1]; exact hi
          have hsm := hM.2.2 i hiM
          unfold nSh at hsm
          have hrow : τ (32 + q) = σ (32 + q) := hkp _ (by omega) (by omega)
          have hvi := hv.2 i hiM
          have hvi2 := hvi
          unfold svS at hvi2
          refine lv_aload_n hx hb dX1_restore_25 rfl (lv_at hl 0 rfl) ?_
          refine k_get (C := RX1) (T := TX1) (N := 6) (v := .ref (ad 13)) hx hb hts hown E I iX1 (11) (by decide) (r0 := τ 11) rfl kc_11 rfl 1 (by decide) (List.mem_of_getElem? (i := 3) rfl) rfl dX1_restore_26 ?_
          refine lv_iload_n hx hb dX1_restore_29 rfl (lv_at hl 2 rfl) ?_
          refine k_aldS (a := ad (15 + 3 * i)) hx hb E I (13) (by decide) kc_13 (vp_in_nI (by omega) (by decide)) (by rw [nI_clamp (by omega)]; exact if_pos (by omega)) dX1_restore_30 ?_
          refine lv_aload_n hx hb dX1_restore_31 rfl (lv_at hl 1 rfl) ?_
          refine lv_iconst (v := nI 1) hx hb dX1_restore_32 (by decide) ?_
          refine lv_iload_n hx hb dX1_restore_33 rfl (lv_at hl 2 rfl) ?_
          refine lv_bipush (v := nI 9) hx hb dX1_restore_34 (by decide) ?_
          refine lv_imul hx hb dX1_restore_36 ?_
          rw [pk_mul]
          refine lv_iadd hx hb dX1_restore_37 ?_
          rw [nI_add]
          refine lv_topi (fun t_38 et_38 => ?_)
          have et_38 : t_38 = nI (1 + 9 * i) := et_38.trans (congrArg nI (by omega))
          subst et_38
          refine k_callv (k := 15 + 3 * i) (As := [.ref (ad (32 + q)), .int (nI (1 + 9 * i))]) (rest := []) ⟨hx, hb, hml, hown, hts⟩ (c_X6_restore cy D ad l τ i q (1 + 9 * i) H_i H_q (by omega) (M (23 + 13 * i + 9)) (M (23 + 13 * i + 7)) hsm.2.2.2.1.2 hsm.2.2.2.1.1 (by rw [hrow]; exact hvi2.2.2.1) (by rw [hrow]; exact hvi2.2.2.2.1)) (cwV 2 hts gX1_restore_X6_restore rfl rfl rfl (by decide +kernel) ⟨Nat.le_of_ble_eq_true rfl, Nat.le_of_ble_eq_true rfl⟩) E hA I (k_recv E I (by omega) (kc_S H_i) rfl) rfl hl.1 rfl (lv_room (Nat.le_of_ble_eq_true rfl)) dX1_restore_38 ⟨Nat.le_of_ble_eq_true rfl, Nat.le_of_ble_eq_true rfl⟩ (fun σ_38 H locs hp_38 I => ?_)
          obtain ⟨o1, f1, g1, s1, k1⟩ := hp_38
          rw [hrow] at f1 g1 s1
          obtain ⟨z1, z2, z3⟩ := hto i (Nat.le_refl i) H_i
          have hdo2 : ∀ t, t < i + 1 → rS σ_38 M t := fun t ht => by
            by_cases e_ : t = i
            · subst e_; exact rS_back (hB.2.2 t hi) (hc.2.2.2 t hi) hvi f1 g1 s1 (fun j hj => by rw [k1 j hj, z1])
            · exact rS_same (hdo t (by omega)) (fun j _ _ => by rw [o1 _ (by omega) (by omega) (by omega)]) (fun j => by rw [o1 _ (by omega) (by omega) (by omega)]) (fun j => by rw [o1 _ (by omega) (by omega) (by omega)])
          refine lv_iinc (v := nI (i + 1)) (lv' := [(2, .int (nI (i + 1))), (0, .ref (ad 11)), (1, .ref (ad (32 + q)))]) hx hb dX1_restore_41 hl (k := 2) rfl (show nI i + Int32.ofInt 1 = nI (i + 1) from nI_add i 1) (by decide) rfl (fun ls hl => ?_)
          refine lv_goto (tgt := 17) hx hb dX1_restore_44 (by decide) ?_
          exact ih_17 (i + 1) σ_38 (by omega) (by omega) (fun k a b => (o1 k (by omega) (by omega) (by omega)).trans (hkp k a b)) ((o1 11 (by omega) (by omega) (by omega)).trans h11) (hdo2) (fun t a b => by obtain ⟨z1, z2, z3⟩ := hto t (by omega) b; exact ⟨(o1 _ (by omega) (by omega) (by omega)).trans z1, (o1 _ (by omega) (by omega) (by omega)).trans z2, (o1 _ (by omega) (by omega) (by omega)).trans z3⟩) _ _ I _ (lv_sub hl [1, 2, 0] rfl)
    exact LP_17 _ 0 _ (Nat.lt_succ_self _) (Nat.zero_le _) (fun k _ hk => va_up_ne _ _ hk) (va_up_self _ _ _) (fun t ht => absurd ht (Nat.not_lt_zero t)) (fun t _ _ => ⟨va_up_ne _ _ (by omega), va_up_ne _ _ (by omega), va_up_ne _ _ (by omega)⟩) _ _ I _ (lv_sub hl [1, 2, 0] rfl)
  · exact absurd c_4 (by decide)
set_option maxHeartbeats 4000000 in
set_option maxRecDepth 100000 in
theorem c_X4_rowForNext (cy : Nat → ClassId) (D : va_G) (ad : Nat → Nat) (l : Launch) (σ : Nat → Nat → Int32) (nx np : Nat) (H_nx : nx < 6) (hnp : np ≤ 6) (e1 : σ 30 1 = nI nx) (e2 : σ 30 2 = nI np) : kMq 38 ad (kcC cy ad) cy D l yX4_rowForNext wsX4_rowForNext ({ frames := 1, cells := 0, slots := 0, locals := 40 }) [.ref (ad 30)] σ (fun r σ' => r = some (ad (32 + nx)) ∧ σ' = va_up σ 30 (upd (upd (σ 30) 1 (nI ((nx + 1) % 6))) 2 (nI (min (np + 1) 6)))) := by
  refine k_entry (cc := cX4_rowForNext) (maxL := 2) (ret := (some (.array .int))) (by decide) rfl (Nat.le_of_ble_eq_true rfl) ?_
  intro p e s m below meth c hx hb hr hml hown hts hlk E I ls hl
  have hA : ∀ q, s.heap.size ≤ q → kA 38 ad s.heap.size q := fun q h => Or.inr h
  have hown : s.vm.findClass RX4 = some m.cls := hown
  have hl : lv_has ls 2 [(0, .ref (ad 30))] := hl
  have iX4 : ∀ w ∈ u_ws RX4 TX4 3, w ∈ wsX4_rowForNext := fun w h => List.mem_cons_of_mem _ (List.mem_append_right _ h)
  refine lv_aload_n hx hb dX4_rowForNext_0 rfl (lv_at hl 0 rfl) ?_
  refine k_get (C := RX4) (T := TX4) (N := 3) (v := .ref (ad 31)) hx hb hts hown E I iX4 (30) (by decide) (r0 := σ 30) rfl kc_30 rfl 0 (by decide) (List.mem_of_getElem? (i := 1) rfl) rfl dX4_rowForNext_1 ?_
  refine lv_aload_n hx hb dX4_rowForNext_4 rfl (lv_at hl 0 rfl) ?_
  refine k_get (C := RX4) (T := TX4) (N := 3) (v := .int (nI nx)) hx hb hts hown E I iX4 (30) (by decide) (r0 := σ 30) rfl kc_30 rfl 1 (by decide) (List.mem_of_getElem? (i := 2) rfl) (congrArg (fun z => some (Value.int z)) e1) dX4_rowForNext_5 ?_
  refine k_aldA (a := ad (32 + nx)) hx hb E I (31) (by decide) kc_31 (vp_in_nI (by omega) (by decide)) (by rw [nI_clamp (by omega)]; exact if_pos (by omega)) dX4_rowForNext_8 ?_
  refine lv_astore_n (lv' := [(1, .ref (ad (32 + nx))), (0, .ref (ad 30))]) hx hb dX4_rowForNext_9 rfl hl (by decide) rfl (fun ls hl => ?_)
  refine lv_aload_n hx hb dX4_rowForNext_10 rfl (lv_at hl 1 rfl) ?_
  refine lv_aload_n hx hb dX4_rowForNext_11 rfl (lv_at hl 1 rfl) ?_
  refine k_get (C := RX4) (T := TX4) (N := 3) (v := .int (nI nx)) hx hb hts hown E I iX4 (30) (by decide) (r0 := σ 30) rfl kc_30 rfl 1 (by decide) (List.mem_of_getElem? (i := 2) rfl) (congrArg (fun z => some (Value.int z)) e1) dX4_rowForNext_12 ?_
  refine lv_iconst (v := nI 1) hx hb dX4_rowForNext_15 (by decide) ?_
  refine lv_iadd hx hb dX4_rowForNext_16 ?_
  rw [nI_add]
  refine lv_bipush (v := nI 6) hx hb dX4_rowForNext_17 (by decide) ?_
  refine lv_irem hx hb dX4_rowForNext_19 (by decide) ?_
  refine lv_topi (fun t_20 et_20 => ?_)
  have et_20 : t_20 = nI ((nx + 1) % 6) := et_20.trans (pk_rem (by omega) (by decide) (by decide))
  subst et_20
  refine k_put (C := RX4) (T := TX4) (N := 3) (ty0 := tyX4) (ty := .int) (v := .int (nI ((nx + 1) % 6))) hx hb hts hown E I iX4 tyX4_ok nmX4 (30) (by decide) (r0 := σ 30) rfl kc_30 rfl 1 (by decide) (List.mem_of_getElem? (i := 2) rfl) rfl rfl rfl rfl (Nat.le_of_ble_eq_true rfl) (upd (σ 30) 1 (nI ((nx + 1) % 6))) rfl (σ2 := va_up σ 30 (upd (σ 30) 1 (nI ((nx + 1) % 6)))) rfl dX4_rowForNext_20 (fun H locs I => ?_)
  refine lv_aload_n hx hb dX4_rowForNext_23 rfl (lv_at hl 1 rfl) ?_
  refine lv_aload_n hx hb dX4_rowForNext_24 rfl (lv_at hl 1 rfl) ?_
  refine k_get (C := RX4) (T := TX4) (N := 3) (v := .int (nI np)) hx hb hts hown E I iX4 (30) (by decide) (r0 := (upd (σ 30) 1 (nI ((nx + 1) % 6)))) rfl kc_30 rfl 2 (by decide) (List.mem_of_getElem? (i := 3) rfl) (congrArg (fun z => some (Value.int z)) e2) dX4_rowForNext_25 ?_
  refine lv_iconst (v := nI 1) hx hb dX4_rowForNext_28 (by decide) ?_
  refine lv_iadd hx hb dX4_rowForNext_29 ?_
  rw [nI_add]
  refine lv_bipush (v := nI 6) hx hb dX4_rowForNext_30 (by decide) ?_
  refine va_mmin hx hb (hml.trans hl.1.symm) hown (hts _ (List.mem_of_getElem? (i := 4) rfl)) (hts _ (List.mem_of_getElem? (i := 5) rfl)) (hts _ (List.mem_of_getElem? (i := 6) rfl)) (hts _ (List.mem_of_getElem? (i := 7) rfl)) (Nat.le_of_ble_eq_true rfl) (Nat.le_of_ble_eq_true rfl) (Nat.le_of_ble_eq_true rfl) (Nat.le_of_ble_eq_true rfl) dX4_rowForNext_32 ?_
  refine lv_topi (fun t_35 et_35 => ?_)
  have et_35 : t_35 = nI (min (np + 1) 6) := et_35.trans (kmin_nI (by omega) (by decide))
  subst et_35
  refine k_put (C := RX4) (T := TX4) (N := 3) (ty0 := tyX4) (ty := .int) (v := .int (nI (min (np + 1) 6))) hx hb hts hown E I iX4 tyX4_ok nmX4 (30) (by decide) (r0 := (upd (σ 30) 1 (nI ((nx + 1) % 6)))) rfl kc_30 rfl 2 (by decide) (List.mem_of_getElem? (i := 3) rfl) rfl rfl rfl rfl (Nat.le_of_ble_eq_true rfl) (upd (upd (σ 30) 1 (nI ((nx + 1) % 6))) 2 (nI (min (np + 1) 6))) rfl (σ2 := va_up σ 30 (upd (upd (σ 30) 1 (nI ((nx + 1) % 6))) 2 (nI (min (np + 1) 6)))) (bx_uu _ _ _ _) dX4_rowForNext_35 (fun H locs I => ?_)
  refine lv_aload_n hx hb dX4_rowForNext_38 rfl (lv_at hl 0 rfl) ?_
  exact k_aret hx hb hr (Or.inr ⟨_, rfl⟩) hlk I dX4_rowForNext_39 (⟨rfl, rfl⟩)
set_option maxHeartbeats 4000000 in
set_option maxRecDepth 100000 in
theorem c_X4_takeLatest (cy : Nat → ClassId) (D : va_G) (ad : Nat → Nat) (l : Launch) (σ : Nat → Nat → Int32) (nx np : Nat) (H_nx : nx < 6) (hnp : np ≤ 6) (e1 : σ 30 1 = nI nx) (e2 : σ 30 2 = nI np) : kMq 38 ad (kcC cy ad) cy D l yX4_takeLatest wsX4_takeLatest ({ frames := 0, cells := 0, slots := 0, locals := 0 }) [.ref (ad 30)] σ (fun r σ' => (np = 0 ∧ r = none ∧ σ = σ') ∨ (0 < np ∧ r = some (ad (32 + (nx + 5) % 6)) ∧ σ' = va_up σ 30 (upd (upd (σ 30) 1 (nI ((nx + 5) % 6))) 2 (nI (np - 1))))) := by
  obtain ⟨q, hq⟩ : ∃ q, q = (nx + 5) % 6 := ⟨_, rfl⟩
  have H_q : q < 6 := by omega
  rw [← hq]
  refine k_entry (cc := cX4_takeLatest) (maxL := 1) (ret := (some (.array .int))) (by decide) rfl (Nat.le_of_ble_eq_true rfl) ?_
  intro p e s m below meth c hx hb hr hml hown hts hlk E I ls hl
  have hA : ∀ q, s.heap.size ≤ q → kA 38 ad s.heap.size q := fun q h => Or.inr h
  have hown : s.vm.findClass RX4 = some m.cls := hown
  have hl : lv_has ls 1 [(0, .ref (ad 30))] := hl
  have iX4 : ∀ w ∈ u_ws RX4 TX4 3, w ∈ wsX4_takeLatest := fun w h => List.mem_cons_of_mem _ (List.mem_append_right _ h)
  refine lv_aload_n hx hb dX4_takeLatest_0 rfl (lv_at hl 0 rfl) ?_
  refine k_get (C := RX4) (T := TX4) (N := 3) (v := .int (nI np)) hx hb hts hown E I iX4 (30) (by decide) (r0 := σ 30) rfl kc_30 rfl 2 (by decide) (List.mem_of_getElem? (i := 1) rfl) (congrArg (fun z => some (Value.int z)) e2) dX4_takeLatest_1 ?_
  refine lv_if_ne (tgt := 9) hx hb dX4_takeLatest_4 (by decide) (fun c_4 => ?_) (fun c_4 => ?_)
  · have c_4 : ¬ (np = 0) := fun q_ => c_4 ((nI_eq (by omega) (by decide)).mpr q_)
    refine lv_aload_n hx hb dX4_takeLatest_9 rfl (lv_at hl 0 rfl) ?_
    refine lv_dup hx hb dX4_takeLatest_10 rfl ?_
    refine k_get (C := RX4) (T := TX4) (N := 3) (v := .int (nI np)) hx hb hts hown E I iX4 (30) (by decide) (r0 := σ 30) rfl kc_30 rfl 2 (by decide) (List.mem_of_getElem? (i := 1) rfl) (congrArg (fun z => some (Value.int z)) e2) dX4_takeLatest_11 ?_
    refine lv_iconst (v := nI 1) hx hb dX4_takeLatest_14 (by decide) ?_
    refine lv_isub hx hb dX4_takeLatest_15 ?_
    refine lv_topi (fun t_16 et_16 => ?_)
    have et_16 : t_16 = nI (np - 1) := et_16.trans (pk_sub (by omega))
    subst et_16
    refine k_put (C := RX4) (T := TX4) (N := 3) (ty0 := tyX4) (ty := .int) (v := .int (nI (np - 1))) hx hb hts hown E I iX4 tyX4_ok nmX4 (30) (by decide) (r0 := σ 30) rfl kc_30 rfl 2 (by decide) (List.mem_of_getElem? (i := 1) rfl) rfl rfl rfl rfl (Nat.le_of_ble_eq_true rfl) (upd (σ 30) 2 (nI (np - 1))) rfl (σ2 := va_up σ 30 (upd (σ 30) 2 (nI (np - 1)))) rfl dX4_takeLatest_16 (fun H locs I => ?_)
    refine lv_aload_n hx hb dX4_takeLatest_19 rfl (lv_at hl 0 rfl) ?_
    refine lv_aload_n hx hb dX4_takeLatest_20 rfl (lv_at hl 0 rfl) ?_
    refine k_get (C := RX4) (T := TX4) (N := 3) (v := .int (nI nx)) hx hb hts hown E I iX4 (30) (by decide) (r0 := (upd (σ 30) 2 (nI (np - 1)))) rfl kc_30 rfl 1 (by decide) (List.mem_of_getElem? (i := 2) rfl) (congrArg (fun z => some (Value.int z)) e1) dX4_takeLatest_21 ?_
    refine lv_bipush (v := nI 6) hx hb dX4_takeLatest_24 (by decide) ?_
    refine lv_iadd hx hb dX4_takeLatest_26 ?_
    rw [nI_add]
    refine lv_iconst (v := nI 1) hx hb dX4_takeLatest_27 (by decide) ?_
    refine lv_isub hx hb dX4_takeLatest_28 ?_
    refine lv_topi (fun t_29 et_29 => ?_)
    have et_29 : t_29 = nI (nx + 5) := et_29.trans ((pk_sub (by omega)).trans (congrArg nI (by omega)))
    subst et_29
    refine lv_bipush (v := nI 6) hx hb dX4_takeLatest_29 (by decide) ?_
    refine lv_irem hx hb dX4_takeLatest_31 (by decide) ?_
    refine lv_topi (fun t_32 et_32 => ?_)
    have et_32 : t_32 = nI q := et_32.trans (by rw [hq]; exact pk_rem (by omega) (by decide) (by decide))
    subst et_32
    refine k_put (C := RX4) (T := TX4) (N := 3) (ty0 := tyX4) (ty := .int) (v := .int (nI q)) hx hb hts hown E I iX4 tyX4_ok nmX4 (30) (by decide) (r0 := (upd (σ 30) 2 (nI (np - 1)))) rfl kc_30 rfl 1 (by decide) (List.mem_of_getElem? (i := 2) rfl) rfl rfl rfl rfl (Nat.le_of_ble_eq_true rfl) (upd (upd (σ 30) 1 (nI q)) 2 (nI (np - 1))) rfl (σ2 := va_up σ 30 (upd (upd (σ 30) 1 (nI q)) 2 (nI (np - 1)))) (bx_uu _ _ _ _) dX4_takeLatest_32 (fun H locs I => ?_)
    refine lv_aload_n hx hb dX4_takeLatest_35 rfl (lv_at hl 0 rfl) ?_
    refine k_get (C := RX4) (T := TX4) (N := 3) (v := .ref (ad 31)) hx hb hts hown E I iX4 (30) (by decide) (r0 := (upd (upd (σ 30) 1 (nI q)) 2 (nI (np - 1)))) rfl kc_30 rfl 0 (by decide) (List.mem_of_getElem? (i := 3) rfl) rfl dX4_takeLatest_36 ?_
    refine lv_aload_n hx hb dX4_takeLatest_39 rfl (lv_at hl 0 rfl) ?_
    refine k_get (C := RX4) (T := TX4) (N := 3) (v := .int (nI q)) hx hb hts hown E I iX4 (30) (by decide) (r0 := (upd (upd (σ 30) 1 (nI q)) 2 (nI (np - 1)))) rfl kc_30 rfl 1 (by decide) (List.mem_of_getElem? (i := 2) rfl) rfl dX4_takeLatest_40 ?_
    refine k_aldA (a := ad (32 + q)) hx hb E I (31) (by decide) kc_31 (vp_in_nI (by omega) (by decide)) (by rw [nI_clamp (by omega)]; exact if_pos (by omega)) dX4_takeLatest_43 ?_
    exact k_aret hx hb hr (Or.inr ⟨_, rfl⟩) hlk I dX4_takeLatest_44 (Or.inr ⟨by omega, rfl, rfl⟩)
  · have c_4 : np = 0 := (nI_eq (by omega) (by decide)).mp c_4
    refine lv_null hx hb dX4_takeLatest_7 ?_
    exact k_nret hx hb hr (Or.inr ⟨_, rfl⟩) hlk I dX4_takeLatest_8 (Or.inl ⟨c_4, rfl, rfl⟩)
set_option maxHeartbeats 4000000 in
set_option maxRecDepth 100000 in
theorem c_X4_clear (cy : Nat → ClassId) (D : va_G) (ad : Nat → Nat) (l : Launch) (σ : Nat → Nat → Int32)  : kMv 38 ad (kcC cy ad) cy D l yX4_clear wsX4_clear ({ frames := 0, cells := 0, slots := 0, locals := 0 }) [.ref (ad 30)] σ (fun σ' => σ' = va_up σ 30 (upd (σ 30) 2 (nI 0))) := by
  refine k_entry (cc := cX4_clear) (maxL := 1) (ret := none) (by decide) rfl (Nat.le_of_ble_eq_true rfl) ?_
  intro p e s m below meth c hx hb hr hml hown hts hlk E I ls hl
  have hA : ∀ q, s.heap.size ≤ q → kA 38 ad s.heap.size q := fun q h => Or.inr h
  have hown : s.vm.findClass RX4 = some m.cls := hown
  have hl : lv_has ls 1 [(0, .ref (ad 30))] := hl
  have iX4 : ∀ w ∈ u_ws RX4 TX4 3, w ∈ wsX4_clear := fun w h => List.mem_cons_of_mem _ (List.mem_append_right _ h)
  refine lv_aload_n hx hb dX4_clear_0 rfl (lv_at hl 0 rfl) ?_
  refine lv_iconst (v := nI 0) hx hb dX4_clear_1 (by decide) ?_
  refine k_put (C := RX4) (T := TX4) (N := 3) (ty0 := tyX4) (ty := .int) (v := .int (nI 0)) hx hb hts hown E I iX4 tyX4_ok nmX4 (30) (by decide) (r0 := σ 30) rfl kc_30 rfl 2 (by decide) (List.mem_of_getElem? (i := 1) rfl) rfl rfl rfl rfl (Nat.le_of_ble_eq_true rfl) (upd (σ 30) 2 (nI 0)) rfl (σ2 := va_up σ 30 (upd (σ 30) 2 (nI 0))) rfl dX4_clear_2 (fun H locs I => ?_)
  exact k_vret hx hb hr hlk I dX4_clear_5 (rfl)
set_option maxHeartbeats 4000000 in
set_option maxRecDepth 100000 in
theorem c_X7_remember (cy : Nat → ClassId) (D : va_G) (ad : Nat → Nat) (l : Launch) (σ : Nat → Nat → Int32) (N : Nat → Nat) (hN : nOk N) (hB : rBay σ N) (P : Nat → Nat → Nat) (np : Nat) (hPa : rPast σ N P np) : kMv 38 ad (kcC cy ad) cy D l yX7_remember wsX7_remember ({ frames := 3, cells := 0, slots := 0, locals := 67 }) [.ref (ad 0)] σ (fun σ' => rPast σ' N (pushP P np N) (min (np + 1) 6) ∧ rBay σ' N ∧ ∀ k, k < 30 → σ' k = σ k) := by
  obtain ⟨nx, H_nx, hnp, e1, e2, hkeep⟩ := hPa
  have h5 := hN.1
  refine k_entry (cc := cX7_remember) (maxL := 1) (ret := none) (by decide) rfl (Nat.le_of_ble_eq_true rfl) ?_
  intro p e s m below meth c hx hb hr hml hown hts hlk E I ls hl
  have hA : ∀ q, s.heap.size ≤ q → kA 38 ad s.heap.size q := fun q h => Or.inr h
  have hown : s.vm.findClass RX7 = some m.cls := hown
  have hl : lv_has ls 1 [(0, .ref (ad 0))] := hl
  have iX7 : ∀ w ∈ u_ws RX7 TX7 4, w ∈ wsX7_remember := fun w h => List.mem_cons_of_mem _ (List.mem_append_left _ (List.mem_append_left _ (List.mem_append_left _ (List.mem_append_left _ (List.mem_append_right _ h)))))
  refine lv_aload_n hx hb dX7_remember_0 rfl (lv_at hl 0 rfl) ?_
  refine k_get (C := RX7) (T := TX7) (N := 4) (v := .ref (ad 11)) hx hb hts hown E I iX7 (0) (by decide) (r0 := σ 0) rfl kc_0 rfl 2 (by decide) (List.mem_of_getElem? (i := 1) rfl) rfl dX7_remember_1 ?_
  refine lv_aload_n hx hb dX7_remember_4 rfl (lv_at hl 0 rfl) ?_
  refine k_get (C := RX7) (T := TX7) (N := 4) (v := .ref (ad 30)) hx hb hts hown E I iX7 (0) (by decide) (r0 := σ 0) rfl kc_0 rfl 3 (by decide) (List.mem_of_getElem? (i := 2) rfl) rfl dX7_remember_5 ?_
  refine k_callq (k := 30) (As := []) (rest := [.ref (ad 11)]) ⟨hx, hb, hml, hown, hts⟩ (c_X4_rowForNext cy D ad l σ nx np H_nx hnp e1 e2) (cwV 0 hts gX7_remember_X4_rowForNext rfl rfl rfl (by decide +kernel) ⟨Nat.le_of_ble_eq_true rfl, Nat.le_of_ble_eq_true rfl⟩) E hA I (k_recv E I (by decide) kc_30 rfl) rfl hl.1 rfl (lv_room (Nat.le_of_ble_eq_true rfl)) dX7_remember_8 ⟨Nat.le_of_ble_eq_true rfl, Nat.le_of_ble_eq_true rfl⟩ (fun r_8 σ_8 H locs hp_8 I => ?_)
  obtain ⟨rfl, hs1⟩ := hp_8
  have hlo : ∀ k, k < 30 → σ_8 k = σ k := fun k hk => by rw [hs1, va_up_ne _ _ (by omega)]
  have hB8 : rBay σ_8 N := rBay_lo h5.2.2.2.1 hB (fun k j _ a => by rw [hlo k a])
  refine k_callv (k := 11) (As := [.ref (ad (32 + nx))]) (rest := []) ⟨hx, hb, hml, hown, hts⟩ (c_X1_save cy D ad l σ_8 N hN hB8 nx H_nx) (cwV 1 hts gX7_remember_X1_save rfl rfl rfl (by decide +kernel) ⟨Nat.le_of_ble_eq_true rfl, Nat.le_of_ble_eq_true rfl⟩) E hA I (k_recv E I (by decide) kc_11 rfl) rfl hl.1 rfl (lv_room (Nat.le_of_ble_eq_true rfl)) dX7_remember_11 ⟨Nat.le_of_ble_eq_true rfl, Nat.le_of_ble_eq_true rfl⟩ (fun σ_11 H locs hp_11 I => ?_)
  obtain ⟨R, hs2, hR⟩ := hp_11
  have hlo2 : ∀ k, k < 30 → σ_11 k = σ k := fun k hk => by rw [hs2, va_up_ne _ _ (by omega)]; exact hlo k hk
  exact k_vret hx hb hr hlk I dX7_remember_14 (⟨rPast_push hN H_nx hnp hkeep (by rw [hs2, va_up_ne _ _ (by omega), hs1]; rfl) (by rw [hs2, va_up_ne _ _ (by omega), hs1]; rfl) (by rw [hs2, va_up_self]) hR (fun t a b => by rw [hs2, va_up_ne _ _ (by omega), hs1, va_up_ne _ _ (by omega)]), rBay_lo h5.2.2.2.1 hB (fun k j _ a => by rw [hlo2 k a]), hlo2⟩)

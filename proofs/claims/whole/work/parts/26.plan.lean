/-! LETTERS AND PLAN -/
set_option maxHeartbeats 4000000 in
set_option maxRecDepth 100000 in
theorem c_X3_append (cy : Nat → ClassId) (D : va_G) (ad : Nat → Nat) (l : Launch) (σ : Nat → Nat → Int32) (T : Nat → Nat) (nt : Nat) (hT : rText σ T nt) (x : Nat) (hx9 : x < 65536) : kMi 38 ad (kcC cy ad) cy D l yX3_append wsX3_append ({ frames := 0, cells := 0, slots := 0, locals := 0 }) [.ref (ad 1), .int (nI x)] σ (fun r σ' => (nt < 200 ∧ r = nI 1 ∧ σ' = va_up (va_up σ 2 (upd (σ 2) nt (nI x))) 1 (upd (σ 1) 1 (nI (nt + 1)))) ∨ (nt = 200 ∧ r = nI 0 ∧ σ = σ')) := by
  have hn := hT.1.2
  refine k_entry (cc := cX3_append) (maxL := 2) (ret := (some .boolean)) (by decide) rfl (Nat.le_of_ble_eq_true rfl) ?_
  intro p e s m below meth c hx hb hr hml hown hts hlk E I ls hl
  have hA : ∀ q, s.heap.size ≤ q → kA 38 ad s.heap.size q := fun q h => Or.inr h
  have hown : s.vm.findClass RX3 = some m.cls := hown
  have hl : lv_has ls 2 [(0, .ref (ad 1)), (1, .int (nI x))] := hl
  have iX3 : ∀ w ∈ u_ws RX3 TX3 2, w ∈ wsX3_append := fun w h => List.mem_cons_of_mem _ (List.mem_append_right _ h)
  refine lv_aload_n hx hb dX3_append_0 rfl (lv_at hl 0 rfl) ?_
  refine k_get (C := RX3) (T := TX3) (N := 2) (v := .int (nI nt)) hx hb hts hown E I iX3 (1) (by decide) (r0 := σ 1) rfl kc_1 rfl 1 (by decide) (List.mem_of_getElem? (i := 1) rfl) (congrArg (fun z => some (Value.int z)) hT.1.1) dX3_append_1 ?_
  refine lv_aload_n hx hb dX3_append_4 rfl (lv_at hl 0 rfl) ?_
  refine k_get (C := RX3) (T := TX3) (N := 2) (v := .ref (ad 2)) hx hb hts hown E I iX3 (1) (by decide) (r0 := σ 1) rfl kc_1 rfl 0 (by decide) (List.mem_of_getElem? (i := 2) rfl) rfl dX3_append_5 ?_
  refine k_alen (t0 := 0) hx hb E I (2) (by decide) kc_2 rfl dX3_append_8 ?_
  refine lv_icmp_lt (tgt := 14) hx hb dX3_append_9 (by decide) (fun c_9 => ?_) (fun c_9 => ?_)
  · have c_9 : nt < 200 := (nI_ltI (by omega) (by omega)).mp c_9
    refine lv_aload_n hx hb dX3_append_14 rfl (lv_at hl 0 rfl) ?_
    refine k_get (C := RX3) (T := TX3) (N := 2) (v := .ref (ad 2)) hx hb hts hown E I iX3 (1) (by decide) (r0 := σ 1) rfl kc_1 rfl 0 (by decide) (List.mem_of_getElem? (i := 2) rfl) rfl dX3_append_15 ?_
    refine lv_aload_n hx hb dX3_append_18 rfl (lv_at hl 0 rfl) ?_
    refine k_get (C := RX3) (T := TX3) (N := 2) (v := .int (nI nt)) hx hb hts hown E I iX3 (1) (by decide) (r0 := σ 1) rfl kc_1 rfl 1 (by decide) (List.mem_of_getElem? (i := 1) rfl) (congrArg (fun z => some (Value.int z)) hT.1.1) dX3_append_19 ?_
    refine lv_iload_n hx hb dX3_append_22 rfl (lv_at hl 1 rfl) ?_
    refine k_cast hx hb E I (2) (by decide) (r0 := σ 2) rfl (fun _ => kc_2) (vp_in_nI (by omega) (by decide)) (σ2 := va_up σ 2 (upd (σ 2) nt (nI x))) (by rw [nI_clamp (by omega), show vp_nar .char (nI x) = nI x by unfold vp_nar; rw [(pk_charN hx9).1]]) dX3_append_23 (fun H locs I => ?_)
    refine lv_aload_n hx hb dX3_append_24 rfl (lv_at hl 0 rfl) ?_
    refine lv_dup hx hb dX3_append_25 rfl ?_
    refine k_get (C := RX3) (T := TX3) (N := 2) (v := .int (nI nt)) hx hb hts hown E I iX3 (1) (by decide) (r0 := σ 1) rfl kc_1 rfl 1 (by decide) (List.mem_of_getElem? (i := 1) rfl) (congrArg (fun z => some (Value.int z)) hT.1.1) dX3_append_26 ?_
    refine lv_iconst (v := nI 1) hx hb dX3_append_29 (by decide) ?_
    refine lv_iadd hx hb dX3_append_30 ?_
    rw [nI_add]
    refine k_put (C := RX3) (T := TX3) (N := 2) (ty0 := tyX3) (ty := .int) (v := .int (nI (nt + 1))) hx hb hts hown E I iX3 tyX3_ok nmX3 (1) (by decide) (r0 := σ 1) rfl kc_1 rfl 1 (by decide) (List.mem_of_getElem? (i := 1) rfl) rfl rfl rfl rfl (Nat.le_of_ble_eq_true rfl) (upd (σ 1) 1 (nI (nt + 1))) rfl (σ2 := va_up (va_up σ 2 (upd (σ 2) nt (nI x))) 1 (upd (σ 1) 1 (nI (nt + 1)))) rfl dX3_append_31 (fun H locs I => ?_)
    refine lv_iconst (v := nI 1) hx hb dX3_append_34 (by decide) ?_
    exact k_zret hx hb hr (by decide) hlk I dX3_append_35 (Or.inl ⟨by omega, rfl, rfl⟩)
  · have c_9 : ¬ (nt < 200) := fun q_ => c_9 ((nI_ltI (by omega) (by omega)).mpr q_)
    refine lv_iconst (v := nI 0) hx hb dX3_append_12 (by decide) ?_
    exact k_zret hx hb hr (by decide) hlk I dX3_append_13 (Or.inr ⟨by omega, rfl, rfl⟩)
set_option maxHeartbeats 4000000 in
set_option maxRecDepth 100000 in
theorem c_X3_clear (cy : Nat → ClassId) (D : va_G) (ad : Nat → Nat) (l : Launch) (σ : Nat → Nat → Int32)  : kMv 38 ad (kcC cy ad) cy D l yX3_clear wsX3_clear ({ frames := 0, cells := 0, slots := 0, locals := 0 }) [.ref (ad 1)] σ (fun σ' => σ' = va_up σ 1 (upd (σ 1) 1 (nI 0))) := by
  refine k_entry (cc := cX3_clear) (maxL := 1) (ret := none) (by decide) rfl (Nat.le_of_ble_eq_true rfl) ?_
  intro p e s m below meth c hx hb hr hml hown hts hlk E I ls hl
  have hA : ∀ q, s.heap.size ≤ q → kA 38 ad s.heap.size q := fun q h => Or.inr h
  have hown : s.vm.findClass RX3 = some m.cls := hown
  have hl : lv_has ls 1 [(0, .ref (ad 1))] := hl
  have iX3 : ∀ w ∈ u_ws RX3 TX3 2, w ∈ wsX3_clear := fun w h => List.mem_cons_of_mem _ (List.mem_append_right _ h)
  refine lv_aload_n hx hb dX3_clear_0 rfl (lv_at hl 0 rfl) ?_
  refine lv_iconst (v := nI 0) hx hb dX3_clear_1 (by decide) ?_
  refine k_put (C := RX3) (T := TX3) (N := 2) (ty0 := tyX3) (ty := .int) (v := .int (nI 0)) hx hb hts hown E I iX3 tyX3_ok nmX3 (1) (by decide) (r0 := σ 1) rfl kc_1 rfl 1 (by decide) (List.mem_of_getElem? (i := 1) rfl) rfl rfl rfl rfl (Nat.le_of_ble_eq_true rfl) (upd (σ 1) 1 (nI 0)) rfl (σ2 := va_up σ 1 (upd (σ 1) 1 (nI 0))) rfl dX3_clear_2 (fun H locs I => ?_)
  exact k_vret hx hb hr hlk I dX3_clear_5 (rfl)
set_option maxHeartbeats 4000000 in
set_option maxRecDepth 100000 in
theorem c_X3_letterAt (cy : Nat → ClassId) (D : va_G) (ad : Nat → Nat) (l : Launch) (σ : Nat → Nat → Int32) (T : Nat → Nat) (nt : Nat) (hT : rText σ T nt) (a : Nat) (ha : a < 2 ^ 31) : kMi 38 ad (kcC cy ad) cy D l yX3_letterAt wsX3_letterAt ({ frames := 0, cells := 0, slots := 0, locals := 0 }) [.ref (ad 1), .int (nI a)] σ (fun r σ' => r = nI (ch T nt a) ∧ σ = σ') := by
  have hn := hT.1.2
  refine k_entry (cc := cX3_letterAt) (maxL := 2) (ret := (some .char)) (by decide) rfl (Nat.le_of_ble_eq_true rfl) ?_
  intro p e s m below meth c hx hb hr hml hown hts hlk E I ls hl
  have hA : ∀ q, s.heap.size ≤ q → kA 38 ad s.heap.size q := fun q h => Or.inr h
  have hown : s.vm.findClass RX3 = some m.cls := hown
  have hl : lv_has ls 2 [(0, .ref (ad 1)), (1, .int (nI a))] := hl
  have iX3 : ∀ w ∈ u_ws RX3 TX3 2, w ∈ wsX3_letterAt := fun w h => List.mem_cons_of_mem _ (List.mem_append_right _ h)
  refine lv_iload_n hx hb dX3_letterAt_0 rfl (lv_at hl 1 rfl) ?_
  refine lv_if_lt (tgt := 30) hx hb dX3_letterAt_1 (by decide) (fun c_1 => ?_) (fun c_1 => ?_)
  · have c_1 : a < 0 := (nI_ltI (by omega) (by decide)).mp c_1
    exact absurd c_1 (Nat.not_lt_zero _)
  · have c_1 : ¬ (a < 0) := fun q_ => c_1 ((nI_ltI (by omega) (by decide)).mpr q_)
    refine lv_iload_n hx hb dX3_letterAt_4 rfl (lv_at hl 1 rfl) ?_
    refine lv_aload_n hx hb dX3_letterAt_5 rfl (lv_at hl 0 rfl) ?_
    refine k_get (C := RX3) (T := TX3) (N := 2) (v := .int (nI nt)) hx hb hts hown E I iX3 (1) (by decide) (r0 := σ 1) rfl kc_1 rfl 1 (by decide) (List.mem_of_getElem? (i := 1) rfl) (congrArg (fun z => some (Value.int z)) hT.1.1) dX3_letterAt_6 ?_
    refine lv_icmp_ge (tgt := 30) hx hb dX3_letterAt_9 (by decide) (fun c_9 => ?_) (fun c_9 => ?_)
    · have c_9 : nt ≤ a := (nI_leI (by omega) (by omega)).mp c_9
      have hch : nI 0 = nI (ch T nt a) := by unfold ch; rw [if_neg (by omega)]
      refine lv_iconst (v := nI 0) hx hb dX3_letterAt_30 (by decide) ?_
      exact k_zret hx hb hr (pk_charN (by omega)).1 hlk I dX3_letterAt_31 (⟨hch, rfl⟩)
    · have c_9 : ¬ (nt ≤ a) := fun q_ => c_9 ((nI_leI (by omega) (by omega)).mpr q_)
      refine lv_iload_n hx hb dX3_letterAt_12 rfl (lv_at hl 1 rfl) ?_
      refine lv_aload_n hx hb dX3_letterAt_13 rfl (lv_at hl 0 rfl) ?_
      refine k_get (C := RX3) (T := TX3) (N := 2) (v := .ref (ad 2)) hx hb hts hown E I iX3 (1) (by decide) (r0 := σ 1) rfl kc_1 rfl 0 (by decide) (List.mem_of_getElem? (i := 2) rfl) rfl dX3_letterAt_14 ?_
      refine k_alen (t0 := 0) hx hb E I (2) (by decide) kc_2 rfl dX3_letterAt_17 ?_
      refine lv_icmp_ge (tgt := 30) hx hb dX3_letterAt_18 (by decide) (fun c_18 => ?_) (fun c_18 => ?_)
      · have c_18 : 200 ≤ a := (nI_leI (by omega) (by omega)).mp c_18
        omega
      · have c_18 : ¬ (200 ≤ a) := fun q_ => c_18 ((nI_leI (by omega) (by omega)).mpr q_)
        refine lv_aload_n hx hb dX3_letterAt_21 rfl (lv_at hl 0 rfl) ?_
        refine k_get (C := RX3) (T := TX3) (N := 2) (v := .ref (ad 2)) hx hb hts hown E I iX3 (1) (by decide) (r0 := σ 1) rfl kc_1 rfl 0 (by decide) (List.mem_of_getElem? (i := 2) rfl) rfl dX3_letterAt_22 ?_
        refine lv_iload_n hx hb dX3_letterAt_25 rfl (lv_at hl 1 rfl) ?_
        refine k_cald hx hb E I (2) (by decide) (r0 := σ 2) rfl kc_2 (vp_in_nI (by omega) (by decide)) dX3_letterAt_26 ?_
        rw [nI_clamp (by omega)]
        rw [hT.2.1 a (by omega)]
        have hch : nI (T a) = nI (ch T nt a) := by unfold ch; rw [if_pos (by omega)]
        have hta := hT.2.2 a (by omega)
        refine lv_goto (tgt := 31) hx hb dX3_letterAt_27 (by decide) ?_
        exact k_zret hx hb hr (pk_charN (by omega)).1 hlk I dX3_letterAt_31 (⟨hch, rfl⟩)
set_option maxHeartbeats 4000000 in
set_option maxRecDepth 100000 in
theorem c_X5_readNumber (cy : Nat → ClassId) (D : va_G) (ad : Nat → Nat) (l : Launch) (σ : Nat → Nat → Int32) (T : Nat → Nat) (nt : Nat) (hT : rText σ T nt) (a : Nat) (ha : a ≤ 1000) (e4 : σ 3 4 = nI a) : kMi 38 ad (kcC cy ad) cy D l yX5_readNumber wsX5_readNumber ({ frames := 1, cells := 0, slots := 0, locals := 22 }) [.ref (ad 3), .ref (ad 1)] σ (fun r σ' => ((nfc T nt a = 0 ∧ r = -1) ∨ (0 < nfc T nt a ∧ r = nI (nvl T nt a))) ∧ σ' = va_up σ 3 (upd (σ 3) 4 (nI (a + nfc T nt a)))) := by
  have hc := ch_le hT.2.2
  refine k_entry (cc := cX5_readNumber) (maxL := 4) (ret := (some .int)) (by decide) rfl (Nat.le_of_ble_eq_true rfl) ?_
  intro p e s m below meth c hx hb hr hml hown hts hlk E I ls hl
  have hA : ∀ q, s.heap.size ≤ q → kA 38 ad s.heap.size q := fun q h => Or.inr h
  have hown : s.vm.findClass RX5 = some m.cls := hown
  have hl : lv_has ls 4 [(0, .ref (ad 3)), (1, .ref (ad 1))] := hl
  have iX5 : ∀ w ∈ u_ws RX5 TX5 5, w ∈ wsX5_readNumber := fun w h => List.mem_cons_of_mem _ (List.mem_append_left _ (List.mem_append_right _ h))
  refine lv_iconst (v := nI 0) hx hb dX5_readNumber_0 (by decide) ?_
  refine lv_istore_n (lv' := [(2, .int (nI 0)), (0, .ref (ad 3)), (1, .ref (ad 1))]) hx hb dX5_readNumber_1 rfl hl (by decide) rfl (fun ls hl => ?_)
  refine lv_iconst (v := nI 0) hx hb dX5_readNumber_2 (by decide) ?_
  refine lv_istore_n (lv' := [(3, .int (nI 0)), (2, .int (nI 0)), (0, .ref (ad 3)), (1, .ref (ad 1))]) hx hb dX5_readNumber_3 rfl hl (by decide) rfl (fun ls hl => ?_)
  have LP_4 : ∀ (fuel_4 : Nat) (f : Nat), 3 - f < fuel_4 → (f ≤ 3) → (∀ j, j < f → fg T nt (a + j) = true) → ∀ (H : Heap) (locs : List Loc), kI 38 ad (kcC cy ad) D (kA 38 ad s.heap.size) s.heap (va_up σ 3 (upd (σ 3) 4 (nI (a + f)))) H locs → ∀ ls : Array Slot, lv_has ls 4 [(0, .ref (ad 3)), (1, .ref (ad 1)), (2, .int (nI (pv T nt a f))), (3, .int (nI f))] → W p l e (headSpec wsX5_readNumber ({ frames := 1, cells := 0, slots := 0, locals := 22 })).room s m [.ref (ad 3), .ref (ad 1)].toArray below meth c H locs 0 0 (MQ below (va_Qi (fun r σ' => ((nfc T nt a = 0 ∧ r = -1) ∨ (0 < nfc T nt a ∧ r = nI (nvl T nt a))) ∧ σ' = va_up σ 3 (upd (σ 3) 4 (nI (a + nfc T nt a)))) (kB 38 ad (kcC cy ad) D) (kA 38 ad s.heap.size)) [.ref (ad 3), .ref (ad 1)].toArray s 0 0 (kA 38 ad s.heap.size)) (F0 m 4 ls []) := by
    intro fuel_4
    induction fuel_4 with
    | zero => intro f hf_4; exact absurd hf_4 (Nat.not_lt_zero _)
    | succ fuel_4 ih_4 =>
      intro f hf_4 hf3 hfg H locs I ls hl
      have hTf : rText (va_up σ 3 (upd (σ 3) 4 (nI (a + f)))) T nt := rText_fP hT (fP_up (fP_rf σ) _ (by decide))
      have hcf := hc (a + f)
      refine lv_iload_n hx hb dX5_readNumber_4 rfl (lv_at hl 3 rfl) ?_
      refine lv_iconst (v := nI 3) hx hb dX5_readNumber_5 (by decide) ?_
      refine lv_icmp_ge (tgt := 60) hx hb dX5_readNumber_6 (by decide) (fun c_6 => ?_) (fun c_6 => ?_)
      · have c_6 : 3 ≤ f := (nI_leI (by omega) (by omega)).mp c_6
        have hn_ : nfc T nt a = f := nfc_eq hf3 hfg (fun z => absurd z (by omega))
        refine lv_iload_n hx hb dX5_readNumber_60 rfl (lv_at hl 3 rfl) ?_
        refine lv_if_ne (tgt := 68) hx hb dX5_readNumber_61 (by decide) (fun c_61 => ?_) (fun c_61 => ?_)
        · have c_61 : ¬ (f = 0) := fun q_ => c_61 ((nI_eq (by omega) (by decide)).mpr q_)
          refine lv_iload_n hx hb dX5_readNumber_68 rfl (lv_at hl 2 rfl) ?_
          exact k_iret hx hb hr hlk I dX5_readNumber_69 (by rw [hn_]; exact ⟨by first | exact Or.inl ⟨by omega, rfl⟩ | exact Or.inr ⟨by omega, by unfold nvl; rw [hn_]⟩, rfl⟩)
        · have c_61 : f = 0 := (nI_eq (by omega) (by decide)).mp c_61
          refine lv_iconst (v := (-1 : Int32)) hx hb dX5_readNumber_64 (by decide) ?_
          refine lv_goto (tgt := 69) hx hb dX5_readNumber_65 (by decide) ?_
          exact k_iret hx hb hr hlk I dX5_readNumber_69 (by rw [hn_]; exact ⟨by first | exact Or.inl ⟨by omega, rfl⟩ | exact Or.inr ⟨by omega, by unfold nvl; rw [hn_]⟩, rfl⟩)
      · have c_6 : ¬ (3 ≤ f) := fun q_ => c_6 ((nI_leI (by omega) (by omega)).mpr q_)
        refine lv_aload_n hx hb dX5_readNumber_9 rfl (lv_at hl 1 rfl) ?_
        refine lv_aload_n hx hb dX5_readNumber_10 rfl (lv_at hl 0 rfl) ?_
        refine k_get (C := RX5) (T := TX5) (N := 5) (v := .int (nI (a + f))) hx hb hts hown E I iX5 (3) (by decide) (r0 := (upd (σ 3) 4 (nI (a + f)))) rfl kc_3 rfl 4 (by decide) (List.mem_of_getElem? (i := 1) rfl) rfl dX5_readNumber_11 ?_
        refine k_calli (k := 1) (As := [.int (nI (a + f))]) (rest := []) ⟨hx, hb, hml, hown, hts⟩ (c_X3_letterAt cy D ad l (va_up σ 3 (upd (σ 3) 4 (nI (a + f)))) T nt hTf (a + f) (by omega)) (cwV 1 hts gX5_readNumber_X3_letterAt rfl rfl rfl (by decide +kernel) ⟨Nat.le_of_ble_eq_true rfl, Nat.le_of_ble_eq_true rfl⟩) E hA I (k_recv E I (by decide) kc_1 rfl) rfl hl.1 rfl (lv_room (Nat.le_of_ble_eq_true rfl)) dX5_readNumber_14 ⟨Nat.le_of_ble_eq_true rfl, Nat.le_of_ble_eq_true rfl⟩ (fun r_14 σ_14 H locs hp_14 I => ?_)
        obtain ⟨rfl, rfl⟩ := hp_14
        refine lv_bipush (v := nI 48) hx hb dX5_readNumber_17 (by decide) ?_
        refine lv_bipush (v := nI 57) hx hb dX5_readNumber_19 (by decide) ?_
        refine k_callsN (As := [.int (nI (ch T nt (a + f))), .int (nI 48), .int (nI 57)]) (rest := []) ⟨hx, hb, hml, hown, hts⟩ (c_X7_within l (nI (ch T nt (a + f))) (nI 48) (nI 57)) ⟨va_cnB 3 hts gX5_readNumber_X7_within_n53 rfl rfl rfl E.2.1.1 (hts _ (List.mem_of_getElem? (i := 10) rfl)) (by decide +kernel) ⟨Nat.le_of_ble_eq_true rfl, Nat.le_of_ble_eq_true rfl⟩, hts _ (List.mem_of_getElem? (i := 9) rfl), trivial⟩ rfl hl.1 rfl (lv_room (Nat.le_of_ble_eq_true rfl)) dX5_readNumber_21 ⟨Nat.le_of_ble_eq_true rfl, Nat.le_of_ble_eq_true rfl⟩ (fun r_21 hp_21 => ?_)
        rw [nI_toInt (show 48 < 2 ^ 31 by decide), nI_toInt (show 57 < 2 ^ 31 by decide), nI_toInt (show ch T nt (a + f) < 2 ^ 31 by omega)] at hp_21
        rcases hp_21 with ⟨rfl, g1⟩ | ⟨rfl, g1⟩
        · have hff : fg T nt (a + f) = true := by unfold fg; exact decide_eq_true (by omega)
          refine lv_if_eq (tgt := 60) hx hb dX5_readNumber_24 (by decide) (fun c_24 => ?_) (fun c_24 => ?_)
          · exact absurd c_24 (by decide)
          · refine lv_iload_n hx hb dX5_readNumber_27 rfl (lv_at hl 2 rfl) ?_
            refine lv_bipush (v := nI 10) hx hb dX5_readNumber_28 (by decide) ?_
            refine lv_imul hx hb dX5_readNumber_30 ?_
            rw [pk_mul]
            refine lv_aload_n hx hb dX5_readNumber_31 rfl (lv_at hl 1 rfl) ?_
            refine lv_aload_n hx hb dX5_readNumber_32 rfl (lv_at hl 0 rfl) ?_
            refine k_get (C := RX5) (T := TX5) (N := 5) (v := .int (nI (a + f))) hx hb hts hown E I iX5 (3) (by decide) (r0 := (upd (σ 3) 4 (nI (a + f)))) rfl kc_3 rfl 4 (by decide) (List.mem_of_getElem? (i := 1) rfl) rfl dX5_readNumber_33 ?_
            refine k_calli (k := 1) (As := [.int (nI (a + f))]) (rest := [.int (nI ((pv T nt a f) * 10))]) ⟨hx, hb, hml, hown, hts⟩ (c_X3_letterAt cy D ad l (va_up σ 3 (upd (σ 3) 4 (nI (a + f)))) T nt hTf (a + f) (by omega)) (cwV 1 hts gX5_readNumber_X3_letterAt rfl rfl rfl (by decide +kernel) ⟨Nat.le_of_ble_eq_true rfl, Nat.le_of_ble_eq_true rfl⟩) E hA I (k_recv E I (by decide) kc_1 rfl) rfl hl.1 rfl (lv_room (Nat.le_of_ble_eq_true rfl)) dX5_readNumber_36 ⟨Nat.le_of_ble_eq_true rfl, Nat.le_of_ble_eq_true rfl⟩ (fun r_36 σ_36 H locs hp_36 I => ?_)
            obtain ⟨rfl, rfl⟩ := hp_36
            refine lv_bipush (v := nI 48) hx hb dX5_readNumber_39 (by decide) ?_
            refine lv_isub hx hb dX5_readNumber_41 ?_
            refine lv_topi (fun t_42 et_42 => ?_)
            have et_42 : t_42 = nI (ch T nt (a + f) - 48) := et_42.trans (pk_sub (by omega))
            subst et_42
            refine lv_iadd hx hb dX5_readNumber_42 ?_
            rw [nI_add]
            refine lv_istore_n (lv' := [(2, .int (nI (((pv T nt a f) * 10) + ((ch T nt (a + f) - 48))))), (0, .ref (ad 3)), (1, .ref (ad 1)), (3, .int (nI f))]) hx hb dX5_readNumber_43 rfl hl (by decide) rfl (fun ls hl => ?_)
            refine lv_aload_n hx hb dX5_readNumber_44 rfl (lv_at hl 1 rfl) ?_
            refine lv_dup hx hb dX5_readNumber_45 rfl ?_
            refine k_get (C := RX5) (T := TX5) (N := 5) (v := .int (nI (a + f))) hx hb hts hown E I iX5 (3) (by decide) (r0 := (upd (σ 3) 4 (nI (a + f)))) rfl kc_3 rfl 4 (by decide) (List.mem_of_getElem? (i := 1) rfl) rfl dX5_readNumber_46 ?_
            refine lv_iconst (v := nI 1) hx hb dX5_readNumber_49 (by decide) ?_
            refine lv_iadd hx hb dX5_readNumber_50 ?_
            rw [nI_add]
            refine k_put (C := RX5) (T := TX5) (N := 5) (ty0 := tyX5) (ty := .int) (v := .int (nI (((a + f)) + 1))) hx hb hts hown E I iX5 tyX5_ok nmX5 (3) (by decide) (r0 := (upd (σ 3) 4 (nI (a + f)))) rfl kc_3 rfl 4 (by decide) (List.mem_of_getElem? (i := 1) rfl) rfl rfl rfl rfl (Nat.le_of_ble_eq_true rfl) (upd (σ 3) 4 (nI (((a + f)) + 1))) rfl (σ2 := va_up σ 3 (upd (σ 3) 4 (nI (((a + f)) + 1)))) (bx_uu _ _ _ _) dX5_readNumber_51 (fun H locs I => ?_)
            refine lv_iinc (v := nI (f + 1)) (lv' := [(3, .int (nI (f + 1))), (2, .int (nI (((pv T nt a f) * 10) + ((ch T nt (a + f) - 48))))), (0, .ref (ad 3)), (1, .ref (ad 1))]) hx hb dX5_readNumber_54 hl (k := 3) rfl (show nI f + Int32.ofInt 1 = nI (f + 1) from nI_add f 1) (by decide) rfl (fun ls hl => ?_)
            refine lv_goto (tgt := 4) hx hb dX5_readNumber_57 (by decide) ?_
            exact ih_4 (f + 1) (by omega) (by omega) (fun j hj => by by_cases e_ : j = f; (rw [e_]; exact hff); exact hfg j (by omega)) _ _ I _ (lv_sub hl [2, 3, 1, 0] rfl)
        · have hff : fg T nt (a + f) = false := by unfold fg; exact decide_eq_false (by omega)
          have hn_ : nfc T nt a = f := nfc_eq hf3 hfg (fun _ => hff)
          refine lv_if_eq (tgt := 60) hx hb dX5_readNumber_24 (by decide) (fun c_24 => ?_) (fun c_24 => ?_)
          · refine lv_iload_n hx hb dX5_readNumber_60 rfl (lv_at hl 3 rfl) ?_
            refine lv_if_ne (tgt := 68) hx hb dX5_readNumber_61 (by decide) (fun c_61 => ?_) (fun c_61 => ?_)
            · have c_61 : ¬ (f = 0) := fun q_ => c_61 ((nI_eq (by omega) (by decide)).mpr q_)
              refine lv_iload_n hx hb dX5_readNumber_68 rfl (lv_at hl 2 rfl) ?_
              exact k_iret hx hb hr hlk I dX5_readNumber_69 (by rw [hn_]; exact ⟨by first | exact Or.inl ⟨by omega, rfl⟩ | exact Or.inr ⟨by omega, by unfold nvl; rw [hn_]⟩, rfl⟩)
            · have c_61 : f = 0 := (nI_eq (by omega) (by decide)).mp c_61
              refine lv_iconst (v := (-1 : Int32)) hx hb dX5_readNumber_64 (by decide) ?_
              refine lv_goto (tgt := 69) hx hb dX5_readNumber_65 (by decide) ?_
              exact k_iret hx hb hr hlk I dX5_readNumber_69 (by rw [hn_]; exact ⟨by first | exact Or.inl ⟨by omega, rfl⟩ | exact Or.inr ⟨by omega, by unfold nvl; rw [hn_]⟩, rfl⟩)
          · exact absurd c_24 (by decide)
  exact LP_4 _ 0 (Nat.lt_succ_self _) (Nat.zero_le _) (fun j hj => absurd hj (Nat.not_lt_zero j)) _ _ (by rw [show upd (σ 3) 4 (nI (a + 0)) = σ 3 from kupd_id e4, kup_id]; exact I) _ (lv_sub hl [2, 3, 1, 0] rfl)
set_option maxHeartbeats 4000000 in
set_option maxRecDepth 100000 in
theorem c_X5_readSign (cy : Nat → ClassId) (D : va_G) (ad : Nat → Nat) (l : Launch) (σ : Nat → Nat → Int32) (T : Nat → Nat) (nt : Nat) (hT : rText σ T nt) (a x : Nat) (ha : a ≤ 1000) (hx9 : x ≤ 126) (e4 : σ 3 4 = nI a) : kMi 38 ad (kcC cy ad) cy D l yX5_readSign wsX5_readSign ({ frames := 1, cells := 0, slots := 0, locals := 21 }) [.ref (ad 3), .ref (ad 1), .int (nI x)] σ (fun r σ' => (r = nI 1 ∧ ch T nt a = x ∧ σ' = va_up σ 3 (upd (σ 3) 4 (nI (a + 1)))) ∨ (r = nI 0 ∧ ch T nt a ≠ x ∧ σ = σ')) := by
  have hc := ch_le hT.2.2 a
  refine k_entry (cc := cX5_readSign) (maxL := 3) (ret := (some .boolean)) (by decide) rfl (Nat.le_of_ble_eq_true rfl) ?_
  intro p e s m below meth c hx hb hr hml hown hts hlk E I ls hl
  have hA : ∀ q, s.heap.size ≤ q → kA 38 ad s.heap.size q := fun q h => Or.inr h
  have hown : s.vm.findClass RX5 = some m.cls := hown
  have hl : lv_has ls 3 [(0, .ref (ad 3)), (1, .ref (ad 1)), (2, .int (nI x))] := hl
  have iX5 : ∀ w ∈ u_ws RX5 TX5 5, w ∈ wsX5_readSign := fun w h => List.mem_cons_of_mem _ (List.mem_append_left _ (List.mem_append_right _ h))
  refine lv_aload_n hx hb dX5_readSign_0 rfl (lv_at hl 1 rfl) ?_
  refine lv_aload_n hx hb dX5_readSign_1 rfl (lv_at hl 0 rfl) ?_
  refine k_get (C := RX5) (T := TX5) (N := 5) (v := .int (nI a)) hx hb hts hown E I iX5 (3) (by decide) (r0 := σ 3) rfl kc_3 rfl 4 (by decide) (List.mem_of_getElem? (i := 1) rfl) (congrArg (fun z => some (Value.int z)) e4) dX5_readSign_2 ?_
  refine k_calli (k := 1) (As := [.int (nI a)]) (rest := []) ⟨hx, hb, hml, hown, hts⟩ (c_X3_letterAt cy D ad l σ T nt hT a (by omega)) (cwV 1 hts gX5_readSign_X3_letterAt rfl rfl rfl (by decide +kernel) ⟨Nat.le_of_ble_eq_true rfl, Nat.le_of_ble_eq_true rfl⟩) E hA I (k_recv E I (by decide) kc_1 rfl) rfl hl.1 rfl (lv_room (Nat.le_of_ble_eq_true rfl)) dX5_readSign_5 ⟨Nat.le_of_ble_eq_true rfl, Nat.le_of_ble_eq_true rfl⟩ (fun r_5 σ_5 H locs hp_5 I => ?_)
  obtain ⟨rfl, rfl⟩ := hp_5
  refine lv_iload_n hx hb dX5_readSign_8 rfl (lv_at hl 2 rfl) ?_
  refine lv_icmp_eq (tgt := 14) hx hb dX5_readSign_9 (by decide) (fun c_9 => ?_) (fun c_9 => ?_)
  · have c_9 : (ch T nt a) = x := (nI_eq (by omega) (by omega)).mp c_9
    refine lv_aload_n hx hb dX5_readSign_14 rfl (lv_at hl 0 rfl) ?_
    refine lv_dup hx hb dX5_readSign_15 rfl ?_
    refine k_get (C := RX5) (T := TX5) (N := 5) (v := .int (nI a)) hx hb hts hown E I iX5 (3) (by decide) (r0 := σ 3) rfl kc_3 rfl 4 (by decide) (List.mem_of_getElem? (i := 1) rfl) (congrArg (fun z => some (Value.int z)) e4) dX5_readSign_16 ?_
    refine lv_iconst (v := nI 1) hx hb dX5_readSign_19 (by decide) ?_
    refine lv_iadd hx hb dX5_readSign_20 ?_
    rw [nI_add]
    refine k_put (C := RX5) (T := TX5) (N := 5) (ty0 := tyX5) (ty := .int) (v := .int (nI (a + 1))) hx hb hts hown E I iX5 tyX5_ok nmX5 (3) (by decide) (r0 := σ 3) rfl kc_3 rfl 4 (by decide) (List.mem_of_getElem? (i := 1) rfl) rfl rfl rfl rfl (Nat.le_of_ble_eq_true rfl) (upd (σ 3) 4 (nI (a + 1))) rfl (σ2 := va_up σ 3 (upd (σ 3) 4 (nI (a + 1)))) rfl dX5_readSign_21 (fun H locs I => ?_)
    refine lv_iconst (v := nI 1) hx hb dX5_readSign_24 (by decide) ?_
    exact k_zret hx hb hr (by decide) hlk I dX5_readSign_25 (Or.inl ⟨rfl, c_9, rfl⟩)
  · have c_9 : ¬ ((ch T nt a) = x) := fun q_ => c_9 ((nI_eq (by omega) (by omega)).mpr q_)
    refine lv_iconst (v := nI 0) hx hb dX5_readSign_12 (by decide) ?_
    exact k_zret hx hb hr (by decide) hlk I dX5_readSign_13 (Or.inr ⟨rfl, c_9, rfl⟩)
set_option maxHeartbeats 4000000 in
set_option maxRecDepth 100000 in
theorem c_X5_readColumn (cy : Nat → ClassId) (D : va_G) (ad : Nat → Nat) (l : Launch) (σ : Nat → Nat → Int32) (T : Nat → Nat) (nt : Nat) (hT : rText σ T nt) (M : Nat → Nat) (hM : pOk M) (a : Nat) (ha : a ≤ 900) (hP : rPl σ M a) : kMi 38 ad (kcC cy ad) cy D l yX5_readColumn wsX5_readColumn ({ frames := 2, cells := 0, slots := 0, locals := 45 }) [.ref (ad 3), .ref (ad 1)] σ (fun r σ' => kT r (clOk T nt a M) ∧ fP σ σ' ∧ (clOk T nt a M → rPl σ' (clM M (nvl T nt a)) (a + nfc T nt a + 1))) := by
  have h5 := hM.1
  have hn3 := nfc_le T nt a
  have hv9 := nvl_le T nt a
  refine k_entry (cc := cX5_readColumn) (maxL := 3) (ret := (some .boolean)) (by decide) rfl (Nat.le_of_ble_eq_true rfl) ?_
  intro p e s m below meth c hx hb hr hml hown hts hlk E I ls hl
  have hA : ∀ q, s.heap.size ≤ q → kA 38 ad s.heap.size q := fun q h => Or.inr h
  have hown : s.vm.findClass RX5 = some m.cls := hown
  have hl : lv_has ls 3 [(0, .ref (ad 3)), (1, .ref (ad 1))] := hl
  have iX5 : ∀ w ∈ u_ws RX5 TX5 5, w ∈ wsX5_readColumn := fun w h => List.mem_cons_of_mem _ (List.mem_append_left _ (List.mem_append_right _ h))
  refine lv_aload_n hx hb dX5_readColumn_0 rfl (lv_at hl 0 rfl) ?_
  refine lv_aload_n hx hb dX5_readColumn_1 rfl (lv_at hl 1 rfl) ?_
  refine k_calli (k := 3) (As := [.ref (ad 1)]) (rest := []) ⟨hx, hb, hml, hown, hts⟩ (c_X5_readNumber cy D ad l σ T nt hT a (by omega) hP.1.2.2) (cwV 1 hts gX5_readColumn_X5_readNumber rfl rfl rfl (by decide +kernel) ⟨Nat.le_of_ble_eq_true rfl, Nat.le_of_ble_eq_true rfl⟩) E hA I (k_recv E I (by decide) kc_3 rfl) rfl hl.1 rfl (lv_room (Nat.le_of_ble_eq_true rfl)) dX5_readColumn_2 ⟨Nat.le_of_ble_eq_true rfl, Nat.le_of_ble_eq_true rfl⟩ (fun r_2 σ_2 H locs hp_2 I => ?_)
  obtain ⟨hv_, hs_⟩ := hp_2
  have hF : fP σ σ_2 := by rw [hs_]; exact fP_up (fP_rf σ) _ (by decide)
  have hT2 := rText_fP hT hF
  have e2_ : σ_2 3 2 = nI (M 0) := by rw [hs_]; exact hP.1.1
  have e4_ : σ_2 3 4 = nI (a + nfc T nt a) := by rw [hs_]; rfl
  rcases hv_ with ⟨hz_, rfl⟩ | ⟨hz_, rfl⟩
  · refine lv_istore_n (lv' := [(2, .int (-1)), (0, .ref (ad 3)), (1, .ref (ad 1))]) hx hb dX5_readColumn_5 rfl hl (by decide) rfl (fun ls hl => ?_)
    refine lv_aload_n hx hb dX5_readColumn_6 rfl (lv_at hl 1 rfl) ?_
    refine k_get (C := RX5) (T := TX5) (N := 5) (v := .int (nI (M 0))) hx hb hts hown E I iX5 (3) (by decide) (r0 := σ_2 3) rfl kc_3 rfl 2 (by decide) (List.mem_of_getElem? (i := 1) rfl) (congrArg (fun z => some (Value.int z)) e2_) dX5_readColumn_7 ?_
    refine lv_bipush (v := nI 20) hx hb dX5_readColumn_10 (by decide) ?_
    refine lv_icmp_ge (tgt := 35) hx hb dX5_readColumn_12 (by decide) (fun c_12 => ?_) (fun c_12 => ?_)
    · have c_12 : 20 ≤ (M 0) := (nI_leI (by omega) (by omega)).mp c_12
      refine lv_iconst (v := nI 0) hx hb dX5_readColumn_35 (by decide) ?_
      exact k_zret hx hb hr (by decide) hlk I dX5_readColumn_36 (by first | exact cl_no (fun q => g3 q.2.2.2.1) hF3 | exact cl_no (fun q => by unfold clOk at q; omega) hF | exact cl_no (fun q => g2 (by rw [nI_toInt (show 1 < 2 ^ 31 by decide), nI_toInt (show nvl T nt a < 2 ^ 31 by omega), nI_toInt (show 20 < 2 ^ 31 by decide)]; unfold clOk at q; omega)) hF)
    · have c_12 : ¬ (20 ≤ (M 0)) := fun q_ => c_12 ((nI_leI (by omega) (by omega)).mpr q_)
      refine lv_iload_n hx hb dX5_readColumn_15 rfl (lv_at hl 0 rfl) ?_
      refine lv_iconst (v := nI 1) hx hb dX5_readColumn_16 (by decide) ?_
      refine lv_bipush (v := nI 20) hx hb dX5_readColumn_17 (by decide) ?_
      refine k_callsN (As := [.int (-1), .int (nI 1), .int (nI 20)]) (rest := []) ⟨hx, hb, hml, hown, hts⟩ (c_X7_within l ((-1)) (nI 1) (nI 20)) ⟨va_cnB 3 hts gX5_readColumn_X7_within_n53 rfl rfl rfl E.2.1.1 (hts _ (List.mem_of_getElem? (i := 17) rfl)) (by decide +kernel) ⟨Nat.le_of_ble_eq_true rfl, Nat.le_of_ble_eq_true rfl⟩, hts _ (List.mem_of_getElem? (i := 16) rfl), trivial⟩ rfl hl.1 rfl (lv_room (Nat.le_of_ble_eq_true rfl)) dX5_readColumn_19 ⟨Nat.le_of_ble_eq_true rfl, Nat.le_of_ble_eq_true rfl⟩ (fun r_19 hp_19 => ?_)
      rcases hp_19 with ⟨rfl, g2⟩ | ⟨rfl, g2⟩
      · exact absurd g2.1 (by decide)
      · refine lv_if_eq (tgt := 35) hx hb dX5_readColumn_22 (by decide) (fun c_22 => ?_) (fun c_22 => ?_)
        · refine lv_iconst (v := nI 0) hx hb dX5_readColumn_35 (by decide) ?_
          exact k_zret hx hb hr (by decide) hlk I dX5_readColumn_36 (by first | exact cl_no (fun q => g3 q.2.2.2.1) hF3 | exact cl_no (fun q => by unfold clOk at q; omega) hF | exact cl_no (fun q => g2 (by rw [nI_toInt (show 1 < 2 ^ 31 by decide), nI_toInt (show nvl T nt a < 2 ^ 31 by omega), nI_toInt (show 20 < 2 ^ 31 by decide)]; unfold clOk at q; omega)) hF)
        · exact absurd c_22 (by decide)
  · refine lv_istore_n (lv' := [(2, .int (nI (nvl T nt a))), (0, .ref (ad 3)), (1, .ref (ad 1))]) hx hb dX5_readColumn_5 rfl hl (by decide) rfl (fun ls hl => ?_)
    refine lv_aload_n hx hb dX5_readColumn_6 rfl (lv_at hl 1 rfl) ?_
    refine k_get (C := RX5) (T := TX5) (N := 5) (v := .int (nI (M 0))) hx hb hts hown E I iX5 (3) (by decide) (r0 := σ_2 3) rfl kc_3 rfl 2 (by decide) (List.mem_of_getElem? (i := 1) rfl) (congrArg (fun z => some (Value.int z)) e2_) dX5_readColumn_7 ?_
    refine lv_bipush (v := nI 20) hx hb dX5_readColumn_10 (by decide) ?_
    refine lv_icmp_ge (tgt := 35) hx hb dX5_readColumn_12 (by decide) (fun c_12 => ?_) (fun c_12 => ?_)
    · have c_12 : 20 ≤ (M 0) := (nI_leI (by omega) (by omega)).mp c_12
      refine lv_iconst (v := nI 0) hx hb dX5_readColumn_35 (by decide) ?_
      exact k_zret hx hb hr (by decide) hlk I dX5_readColumn_36 (by first | exact cl_no (fun q => g3 q.2.2.2.1) hF3 | exact cl_no (fun q => by unfold clOk at q; omega) hF | exact cl_no (fun q => g2 (by rw [nI_toInt (show 1 < 2 ^ 31 by decide), nI_toInt (show nvl T nt a < 2 ^ 31 by omega), nI_toInt (show 20 < 2 ^ 31 by decide)]; unfold clOk at q; omega)) hF)
    · have c_12 : ¬ (20 ≤ (M 0)) := fun q_ => c_12 ((nI_leI (by omega) (by omega)).mpr q_)
      refine lv_iload_n hx hb dX5_readColumn_15 rfl (lv_at hl 0 rfl) ?_
      refine lv_iconst (v := nI 1) hx hb dX5_readColumn_16 (by decide) ?_
      refine lv_bipush (v := nI 20) hx hb dX5_readColumn_17 (by decide) ?_
      refine k_callsN (As := [.int (nI (nvl T nt a)), .int (nI 1), .int (nI 20)]) (rest := []) ⟨hx, hb, hml, hown, hts⟩ (c_X7_within l ((nI (nvl T nt a))) (nI 1) (nI 20)) ⟨va_cnB 3 hts gX5_readColumn_X7_within_n53 rfl rfl rfl E.2.1.1 (hts _ (List.mem_of_getElem? (i := 17) rfl)) (by decide +kernel) ⟨Nat.le_of_ble_eq_true rfl, Nat.le_of_ble_eq_true rfl⟩, hts _ (List.mem_of_getElem? (i := 16) rfl), trivial⟩ rfl hl.1 rfl (lv_room (Nat.le_of_ble_eq_true rfl)) dX5_readColumn_19 ⟨Nat.le_of_ble_eq_true rfl, Nat.le_of_ble_eq_true rfl⟩ (fun r_19 hp_19 => ?_)
      rcases hp_19 with ⟨rfl, g2⟩ | ⟨rfl, g2⟩
      · refine lv_if_eq (tgt := 35) hx hb dX5_readColumn_22 (by decide) (fun c_22 => ?_) (fun c_22 => ?_)
        · exact absurd c_22 (by decide)
        · refine lv_aload_n hx hb dX5_readColumn_25 rfl (lv_at hl 1 rfl) ?_
          refine lv_aload_n hx hb dX5_readColumn_26 rfl (lv_at hl 2 rfl) ?_
          refine lv_bipush (v := nI 59) hx hb dX5_readColumn_27 (by decide) ?_
          refine k_calli (k := 3) (As := [.ref (ad 1), .int (nI 59)]) (rest := []) ⟨hx, hb, hml, hown, hts⟩ (c_X5_readSign cy D ad l σ_2 T nt hT2 (a + nfc T nt a) 59 (by omega) (by decide) e4_) (cwV 2 hts gX5_readColumn_X5_readSign rfl rfl rfl (by decide +kernel) ⟨Nat.le_of_ble_eq_true rfl, Nat.le_of_ble_eq_true rfl⟩) E hA I (k_recv E I (by decide) kc_3 rfl) rfl hl.1 rfl (lv_room (Nat.le_of_ble_eq_true rfl)) dX5_readColumn_29 ⟨Nat.le_of_ble_eq_true rfl, Nat.le_of_ble_eq_true rfl⟩ (fun r_29 σ_29 H locs hp_29 I => ?_)
          rcases hp_29 with ⟨rfl, g3, hs3_⟩ | ⟨rfl, g3, hs3_⟩
          · rw [nI_toInt (show 1 < 2 ^ 31 by decide), nI_toInt (show nvl T nt a < 2 ^ 31 by omega), nI_toInt (show 20 < 2 ^ 31 by decide)] at g2
            have hF3 : fP σ σ_29 := by rw [hs3_]; exact fP_up hF _ (by decide)
            have e3_ : σ_29 3 2 = nI (M 0) := by rw [hs3_]; exact e2_
            refine lv_if_ne (tgt := 37) hx hb dX5_readColumn_32 (by decide) (fun c_32 => ?_) (fun c_32 => ?_)
            · refine lv_aload_n hx hb dX5_readColumn_37 rfl (lv_at hl 1 rfl) ?_
              refine k_get (C := RX5) (T := TX5) (N := 5) (v := .ref (ad 4)) hx hb hts hown E I iX5 (3) (by decide) (r0 := σ_29 3) rfl kc_3 rfl 0 (by decide) (List.mem_of_getElem? (i := 2) rfl) rfl dX5_readColumn_38 ?_
              refine lv_aload_n hx hb dX5_readColumn_41 rfl (lv_at hl 1 rfl) ?_
              refine k_get (C := RX5) (T := TX5) (N := 5) (v := .int (nI (M 0))) hx hb hts hown E I iX5 (3) (by decide) (r0 := σ_29 3) rfl kc_3 rfl 2 (by decide) (List.mem_of_getElem? (i := 1) rfl) (congrArg (fun z => some (Value.int z)) e3_) dX5_readColumn_42 ?_
              refine lv_iload_n hx hb dX5_readColumn_45 rfl (lv_at hl 0 rfl) ?_
              refine k_iast hx hb E I (4) (by decide) (r0 := σ_29 4) rfl (fun _ => kc_4) (vp_in_nI (by omega) (by decide)) (σ2 := va_up σ_29 4 (upd (σ_29 4) (M 0) (nI (nvl T nt a)))) (by rw [nI_clamp (by omega)]) dX5_readColumn_46 (fun H locs I => ?_)
              refine lv_aload_n hx hb dX5_readColumn_47 rfl (lv_at hl 1 rfl) ?_
              refine lv_dup hx hb dX5_readColumn_48 rfl ?_
              refine k_get (C := RX5) (T := TX5) (N := 5) (v := .int (nI (M 0))) hx hb hts hown E I iX5 (3) (by decide) (r0 := σ_29 3) rfl kc_3 rfl 2 (by decide) (List.mem_of_getElem? (i := 1) rfl) (congrArg (fun z => some (Value.int z)) e3_) dX5_readColumn_49 ?_
              refine lv_iconst (v := nI 1) hx hb dX5_readColumn_52 (by decide) ?_
              refine lv_iadd hx hb dX5_readColumn_53 ?_
              rw [nI_add]
              refine k_put (C := RX5) (T := TX5) (N := 5) (ty0 := tyX5) (ty := .int) (v := .int (nI ((M 0) + 1))) hx hb hts hown E I iX5 tyX5_ok nmX5 (3) (by decide) (r0 := σ_29 3) rfl kc_3 rfl 2 (by decide) (List.mem_of_getElem? (i := 1) rfl) rfl rfl rfl rfl (Nat.le_of_ble_eq_true rfl) (upd (σ_29 3) 2 (nI ((M 0) + 1))) rfl (σ2 := va_up (va_up σ_29 4 (upd (σ_29 4) (M 0) (nI (nvl T nt a)))) 3 (upd (σ_29 3) 2 (nI ((M 0) + 1)))) rfl dX5_readColumn_54 (fun H locs I => ?_)
              refine lv_iconst (v := nI 1) hx hb dX5_readColumn_57 (by decide) ?_
              exact k_zret hx hb hr (by decide) hlk I dX5_readColumn_58 (cl_yes (T := T) (nt := nt) hP hM (by unfold clOk; omega) hs_ hs3_ rfl)
            · exact absurd c_32 (by decide)
          · have hF3 : fP σ σ_29 := by rw [← hs3_]; exact hF
            refine lv_if_ne (tgt := 37) hx hb dX5_readColumn_32 (by decide) (fun c_32 => ?_) (fun c_32 => ?_)
            · exact absurd c_32 (by decide)
            · refine lv_iconst (v := nI 0) hx hb dX5_readColumn_35 (by decide) ?_
              exact k_zret hx hb hr (by decide) hlk I dX5_readColumn_36 (by first | exact cl_no (fun q => g3 q.2.2.2.1) hF3 | exact cl_no (fun q => by unfold clOk at q; omega) hF | exact cl_no (fun q => g2 (by rw [nI_toInt (show 1 < 2 ^ 31 by decide), nI_toInt (show nvl T nt a < 2 ^ 31 by omega), nI_toInt (show 20 < 2 ^ 31 by decide)]; unfold clOk at q; omega)) hF)
      · refine lv_if_eq (tgt := 35) hx hb dX5_readColumn_22 (by decide) (fun c_22 => ?_) (fun c_22 => ?_)
        · refine lv_iconst (v := nI 0) hx hb dX5_readColumn_35 (by decide) ?_
          exact k_zret hx hb hr (by decide) hlk I dX5_readColumn_36 (by first | exact cl_no (fun q => g3 q.2.2.2.1) hF3 | exact cl_no (fun q => by unfold clOk at q; omega) hF | exact cl_no (fun q => g2 (by rw [nI_toInt (show 1 < 2 ^ 31 by decide), nI_toInt (show nvl T nt a < 2 ^ 31 by omega), nI_toInt (show 20 < 2 ^ 31 by decide)]; unfold clOk at q; omega)) hF)
        · exact absurd c_22 (by decide)
set_option maxHeartbeats 4000000 in
set_option maxRecDepth 100000 in
theorem c_X5_readShip (cy : Nat → ClassId) (D : va_G) (ad : Nat → Nat) (l : Launch) (σ : Nat → Nat → Int32) (T : Nat → Nat) (nt : Nat) (hT : rText σ T nt) (M : Nat → Nat) (hM : pOk M) (a : Nat) (ha : a ≤ 900) (hP : rPl σ M a) : kMi 38 ad (kcC cy ad) cy D l yX5_readShip wsX5_readShip ({ frames := 2, cells := 0, slots := 0, locals := 45 }) [.ref (ad 3), .ref (ad 1)] σ (fun r σ' => kT r (shOk T nt a (M 0) = true ∧ M 1 < 5) ∧ fP σ σ' ∧ (shOk T nt a (M 0) = true ∧ M 1 < 5 → rPl σ' (plc M (fun k => nvl T nt (sp T nt a k))) (sp T nt a 7))) := by
  have h5 := hM.1
  obtain ⟨sh, hsh⟩ : ∃ sh, sh = M 1 := ⟨_, rfl⟩
  have hP3 : σ 3 3 = nI sh := by rw [hsh]; exact hP.1.2.1
  refine k_entry (cc := cX5_readShip) (maxL := 6) (ret := (some .boolean)) (by decide) rfl (Nat.le_of_ble_eq_true rfl) ?_
  intro p e s m below meth c hx hb hr hml hown hts hlk E I ls hl
  have hA : ∀ q, s.heap.size ≤ q → kA 38 ad s.heap.size q := fun q h => Or.inr h
  have hown : s.vm.findClass RX5 = some m.cls := hown
  have hl : lv_has ls 6 [(0, .ref (ad 3)), (1, .ref (ad 1))] := hl
  have iX5 : ∀ w ∈ u_ws RX5 TX5 5, w ∈ wsX5_readShip := fun w h => List.mem_cons_of_mem _ (List.mem_append_left _ (List.mem_append_right _ h))
  refine lv_aload_n hx hb dX5_readShip_0 rfl (lv_at hl 0 rfl) ?_
  refine k_get (C := RX5) (T := TX5) (N := 5) (v := .int (nI sh)) hx hb hts hown E I iX5 (3) (by decide) (r0 := σ 3) rfl kc_3 rfl 3 (by decide) (List.mem_of_getElem? (i := 1) rfl) (congrArg (fun z => some (Value.int z)) hP3) dX5_readShip_1 ?_
  have hxx : True := trivial
  refine lv_iconst (v := nI 5) hx hb dX5_readShip_4 (by decide) ?_
  refine lv_icmp_lt (tgt := 10) hx hb dX5_readShip_5 (by decide) (fun c_5 => ?_) (fun c_5 => ?_)
  · have c_5 : sh < 5 := (nI_ltI (by omega) (by omega)).mp c_5
    have H_sh : sh < 5 := by omega
    refine lv_aload_n hx hb dX5_readShip_10 rfl (lv_at hl 0 rfl) ?_
    refine k_get (C := RX5) (T := TX5) (N := 5) (v := .ref (ad 5)) hx hb hts hown E I iX5 (3) (by decide) (r0 := σ 3) rfl kc_3 rfl 1 (by decide) (List.mem_of_getElem? (i := 2) rfl) rfl dX5_readShip_11 ?_
    refine lv_aload_n hx hb dX5_readShip_14 rfl (lv_at hl 0 rfl) ?_
    refine k_get (C := RX5) (T := TX5) (N := 5) (v := .int (nI sh)) hx hb hts hown E I iX5 (3) (by decide) (r0 := σ 3) rfl kc_3 rfl 3 (by decide) (List.mem_of_getElem? (i := 1) rfl) (congrArg (fun z => some (Value.int z)) hP3) dX5_readShip_15 ?_
    refine k_aldA (a := ad (6 + sh)) hx hb E I (5) (by decide) kc_5 (vp_in_nI (by omega) (by decide)) (by rw [nI_clamp (by omega)]; exact if_pos (by omega)) dX5_readShip_18 ?_
    refine lv_astore_n (lv' := [(2, .ref (ad (6 + sh))), (0, .ref (ad 3)), (1, .ref (ad 1))]) hx hb dX5_readShip_19 rfl hl (by decide) rfl (fun ls hl => ?_)
    refine lv_iconst (v := nI 0) hx hb dX5_readShip_20 (by decide) ?_
    refine lv_istore_n (lv' := [(3, .int (nI 0)), (2, .ref (ad (6 + sh))), (0, .ref (ad 3)), (1, .ref (ad 1))]) hx hb dX5_readShip_21 rfl hl (by decide) rfl (fun ls hl => ?_)
    have LP_22 : ∀ (fuel_22 : Nat) (i : Nat) (τ : Nat → Nat → Int32), 7 - i < fuel_22 → (i ≤ 7) → (τ 3 2 = nI (M 0)) → (τ 3 3 = nI sh) → (τ 3 4 = nI (sp T nt a i)) → (∀ k, k ≠ 3 → k ≠ 6 + sh → τ k = σ k) → (∀ f, f < i → τ (6 + sh) f = nI (nvl T nt (sp T nt a f))) → (∀ k, k < i → okN T nt a k ∧ rgN (M 0) k (nvl T nt (sp T nt a k))) → ∀ (H : Heap) (locs : List Loc), kI 38 ad (kcC cy ad) D (kA 38 ad s.heap.size) s.heap τ H locs → ∀ ls : Array Slot, lv_has ls 6 [(0, .ref (ad 3)), (1, .ref (ad 1)), (2, .ref (ad (6 + sh))), (3, .int (nI i))] → W p l e (headSpec wsX5_readShip ({ frames := 2, cells := 0, slots := 0, locals := 45 })).room s m [.ref (ad 3), .ref (ad 1)].toArray below meth c H locs 0 0 (MQ below (va_Qi (fun r σ' => kT r (shOk T nt a (M 0) = true ∧ M 1 < 5) ∧ fP σ σ' ∧ (shOk T nt a (M 0) = true ∧ M 1 < 5 → rPl σ' (plc M (fun k => nvl T nt (sp T nt a k))) (sp T nt a 7))) (kB 38 ad (kcC cy ad) D) (kA 38 ad s.heap.size)) [.ref (ad 3), .ref (ad 1)].toArray s 0 0 (kA 38 ad s.heap.size)) (F0 m 22 ls []) := by
      intro fuel_22
      induction fuel_22 with
      | zero => intro i τ hf_22; exact absurd hf_22 (Nat.not_lt_zero _)
      | succ fuel_22 ih_22 =>
        intro i τ hf_22 hi7 t2 t3 t4 hfr hrw hok H locs I ls hl
        have hsp := sp_le T nt a i
        have hFt : fP σ τ := fun k q => hfr k (by omega) (by omega)
        have hTt := rText_fP hT hFt
        have hn3 := nfc_le T nt (sp T nt a i)
        have hv9 := nvl_le T nt (sp T nt a i)
        refine lv_iload_n hx hb dX5_readShip_22 rfl (lv_at hl 3 rfl) ?_
        refine lv_bipush (v := nI 7) hx hb dX5_readShip_23 (by decide) ?_
        refine lv_icmp_ge (tgt := 105) hx hb dX5_readShip_25 (by decide) (fun c_25 => ?_) (fun c_25 => ?_)
        · have c_25 : 7 ≤ i := (nI_leI (by omega) (by omega)).mp c_25
          have hi7e : i = 7 := by omega
          refine lv_aload_n hx hb dX5_readShip_105 rfl (lv_at hl 0 rfl) ?_
          refine lv_dup hx hb dX5_readShip_106 rfl ?_
          refine k_get (C := RX5) (T := TX5) (N := 5) (v := .int (nI sh)) hx hb hts hown E I iX5 (3) (by decide) (r0 := τ 3) rfl kc_3 rfl 3 (by decide) (List.mem_of_getElem? (i := 1) rfl) (congrArg (fun z => some (Value.int z)) t3) dX5_readShip_107 ?_
          refine lv_iconst (v := nI 1) hx hb dX5_readShip_110 (by decide) ?_
          refine lv_iadd hx hb dX5_readShip_111 ?_
          rw [nI_add]
          refine k_put (C := RX5) (T := TX5) (N := 5) (ty0 := tyX5) (ty := .int) (v := .int (nI (sh + 1))) hx hb hts hown E I iX5 tyX5_ok nmX5 (3) (by decide) (r0 := τ 3) rfl kc_3 rfl 3 (by decide) (List.mem_of_getElem? (i := 1) rfl) rfl rfl rfl rfl (Nat.le_of_ble_eq_true rfl) (upd (τ 3) 3 (nI (sh + 1))) rfl (σ2 := va_up τ 3 (upd (τ 3) 3 (nI (sh + 1)))) rfl dX5_readShip_112 (fun H locs I => ?_)
          refine lv_iconst (v := nI 1) hx hb dX5_readShip_115 (by decide) ?_
          exact k_zret hx hb hr (by decide) hlk I dX5_readShip_116 (sh_yes (sh := sh) hP hM hsh (by omega) (fun k hk => hok k (by omega)) (fun f hf => hrw f (by omega)) hfr t2 (by rw [← hi7e]; exact t4) rfl)
        · have c_25 : ¬ (7 ≤ i) := fun q_ => c_25 ((nI_leI (by omega) (by omega)).mpr q_)
          have hlo9 := loV_le i (by omega)
          have hhi9 := hiV_le i (by omega)
          refine lv_iload_n hx hb dX5_readShip_28 rfl (lv_at hl 3 rfl) ?_
          refine lv_if_ne (tgt := 41) hx hb dX5_readShip_29 (by decide) (fun c_29 => ?_) (fun c_29 => ?_)
          · have c_29 : ¬ (i = 0) := fun q_ => c_29 ((nI_eq (by omega) (by decide)).mpr q_)
            refine k_gets hx hb hts hown E.2.2.2.2 I.2.2 (List.mem_of_getElem? (i := 4) rfl) dX5_readShip_41 (fun ts1 hts1 => ?_)
            refine lv_iload_n hx hb dX5_readShip_44 rfl (lv_at hl 3 rfl) ?_
            refine va_ti (v := .int (nI (hiV i))) hx hb hts1 I.2.2 (vp_in_nI (show _ < 7 by omega) (by decide)) (by rw [nI_clamp (by omega)]; exact congrArg Value.int (kMOST_at i (by omega))) dX5_readShip_45 ?_
            refine lv_istore (lv' := [(4, .int (nI (hiV i))), (0, .ref (ad 3)), (1, .ref (ad 1)), (2, .ref (ad (6 + sh))), (3, .int (nI i))]) hx hb dX5_readShip_46 hl (by decide) rfl (fun ls hl => ?_)
            refine lv_iload_n hx hb dX5_readShip_48 rfl (lv_at hl 4 rfl) ?_
            refine lv_bipush (v := nI 6) hx hb dX5_readShip_49 (by decide) ?_
            refine lv_icmp_ne (tgt := 59) hx hb dX5_readShip_51 (by decide) (fun c_51 => ?_) (fun c_51 => ?_)
            · have c_51 : ¬ (i = 6) := fun q_ => c_51 ((nI_eq (by omega) (by omega)).mpr q_)
              have hsg : 44 = sgn i := by unfold sgn; rw [if_neg c_51]
              refine lv_bipush (v := nI 44) hx hb dX5_readShip_59 (by decide) ?_
              refine lv_istore (lv' := [(5, .int (nI 44)), (4, .int (nI (hiV i))), (0, .ref (ad 3)), (1, .ref (ad 1)), (2, .ref (ad (6 + sh))), (3, .int (nI i))]) hx hb dX5_readShip_61 hl (by decide) rfl (fun ls hl => ?_)
              refine lv_aload_n hx hb dX5_readShip_63 rfl (lv_at hl 4 rfl) ?_
              refine lv_iload_n hx hb dX5_readShip_64 rfl (lv_at hl 5 rfl) ?_
              refine lv_aload_n hx hb dX5_readShip_65 rfl (lv_at hl 2 rfl) ?_
              refine lv_aload_n hx hb dX5_readShip_66 rfl (lv_at hl 3 rfl) ?_
              refine k_calli (k := 3) (As := [.ref (ad 1)]) (rest := [.int (nI i), .ref (ad (6 + sh))]) ⟨hx, hb, hml, hown, hts⟩ (c_X5_readNumber cy D ad l τ T nt hTt (sp T nt a i) (by omega) t4) (cwV 1 hts gX5_readShip_X5_readNumber rfl rfl rfl (by decide +kernel) ⟨Nat.le_of_ble_eq_true rfl, Nat.le_of_ble_eq_true rfl⟩) E hA I (k_recv E I (by decide) kc_3 rfl) rfl hl.1 rfl (lv_room (Nat.le_of_ble_eq_true rfl)) dX5_readShip_67 ⟨Nat.le_of_ble_eq_true rfl, Nat.le_of_ble_eq_true rfl⟩ (fun r_67 σ_67 H locs hp_67 I => ?_)
              obtain ⟨hv_, hs_⟩ := hp_67
              have hF7 : fP σ σ_67 := by rw [hs_]; exact fP_up hFt _ (by decide)
              rcases hv_ with ⟨hz_, rfl⟩ | ⟨hz_, rfl⟩
              · refine k_iast hx hb E I (6 + sh) (by omega) (r0 := σ_67 (6 + sh)) rfl (fun _ => (kc_R H_sh)) (vp_in_nI (by omega) (by decide)) (σ2 := va_up σ_67 (6 + sh) (upd (σ_67 (6 + sh)) i (-1))) (by rw [nI_clamp (by omega)]) dX5_readShip_70 (fun H locs I => ?_)
                refine lv_aload_n hx hb dX5_readShip_71 rfl (lv_at hl 4 rfl) ?_
                refine lv_iload_n hx hb dX5_readShip_72 rfl (lv_at hl 5 rfl) ?_
                refine k_iald hx hb E I (6 + sh) (by omega) (r0 := (upd (σ_67 (6 + sh)) i (-1))) (by rw [va_up_self]) (kc_R H_sh) (vp_in_nI (by omega) (by decide)) dX5_readShip_73 ?_
                rw [nI_clamp (by omega)]
                rw [pk_us]
                refine k_gets hx hb hts hown E.2.2.2.1 I.2.2 (List.mem_of_getElem? (i := 5) rfl) dX5_readShip_74 (fun ts2 hts2 => ?_)
                refine lv_iload_n hx hb dX5_readShip_77 rfl (lv_at hl 5 rfl) ?_
                refine va_ti (v := .int (nI (loV i))) hx hb hts2 I.2.2 (vp_in_nI (show _ < 7 by omega) (by decide)) (by rw [nI_clamp (by omega)]; exact congrArg Value.int (kLEAST_at i (by omega))) dX5_readShip_78 ?_
                refine lv_iload hx hb dX5_readShip_79 (lv_at hl 1 rfl) ?_
                refine k_callsN (As := [.int (-1), .int (nI (loV i)), .int (nI (hiV i))]) (rest := []) ⟨hx, hb, hml, hown, hts⟩ (c_X7_within l ((-1)) ((nI (loV i))) ((nI (hiV i)))) ⟨va_cnB 3 hts gX5_readShip_X7_within_n53 rfl rfl rfl E.2.1.1 (hts _ (List.mem_of_getElem? (i := 20) rfl)) (by decide +kernel) ⟨Nat.le_of_ble_eq_true rfl, Nat.le_of_ble_eq_true rfl⟩, hts _ (List.mem_of_getElem? (i := 19) rfl), trivial⟩ rfl hl.1 rfl (lv_room (Nat.le_of_ble_eq_true rfl)) dX5_readShip_81 ⟨Nat.le_of_ble_eq_true rfl, Nat.le_of_ble_eq_true rfl⟩ (fun r_81 hp_81 => ?_)
                rcases hp_81 with ⟨rfl, g2⟩ | ⟨rfl, g2⟩
                · exact absurd g2.1 (by rw [nI_toInt (by omega)]; have h9 : (-1 : Int32).toInt = -1 := (by decide); omega)
                · have hbad : ¬ (okN T nt a i ∧ rgN (M 0) i (nvl T nt (sp T nt a i))) := fun q => by have := q.1.1; omega
                  refine lv_if_eq (tgt := 97) hx hb dX5_readShip_84 (by decide) (fun c_84 => ?_) (fun c_84 => ?_)
                  · refine lv_iconst (v := nI 0) hx hb dX5_readShip_97 (by decide) ?_
                    exact k_zret hx hb hr (by decide) hlk I dX5_readShip_98 (⟨kT_0 (fun q => hbad (shOk_iff.mp q.1 i (by omega))), by first | exact hF9 | exact fP_up hF7 _ (by omega), fun q => absurd (shOk_iff.mp q.1 i (by omega)) hbad⟩)
                  · exact absurd c_84 (by decide)
              · refine k_iast hx hb E I (6 + sh) (by omega) (r0 := σ_67 (6 + sh)) rfl (fun _ => (kc_R H_sh)) (vp_in_nI (by omega) (by decide)) (σ2 := va_up σ_67 (6 + sh) (upd (σ_67 (6 + sh)) i (nI (nvl T nt (sp T nt a i))))) (by rw [nI_clamp (by omega)]) dX5_readShip_70 (fun H locs I => ?_)
                refine lv_aload_n hx hb dX5_readShip_71 rfl (lv_at hl 4 rfl) ?_
                refine lv_iload_n hx hb dX5_readShip_72 rfl (lv_at hl 5 rfl) ?_
                refine k_iald hx hb E I (6 + sh) (by omega) (r0 := (upd (σ_67 (6 + sh)) i (nI (nvl T nt (sp T nt a i))))) (by rw [va_up_self]) (kc_R H_sh) (vp_in_nI (by omega) (by decide)) dX5_readShip_73 ?_
                rw [nI_clamp (by omega)]
                rw [pk_us]
                refine k_gets hx hb hts hown E.2.2.2.1 I.2.2 (List.mem_of_getElem? (i := 5) rfl) dX5_readShip_74 (fun ts3 hts3 => ?_)
                refine lv_iload_n hx hb dX5_readShip_77 rfl (lv_at hl 5 rfl) ?_
                refine va_ti (v := .int (nI (loV i))) hx hb hts3 I.2.2 (vp_in_nI (show _ < 7 by omega) (by decide)) (by rw [nI_clamp (by omega)]; exact congrArg Value.int (kLEAST_at i (by omega))) dX5_readShip_78 ?_
                refine lv_iload hx hb dX5_readShip_79 (lv_at hl 1 rfl) ?_
                refine k_callsN (As := [.int (nI (nvl T nt (sp T nt a i))), .int (nI (loV i)), .int (nI (hiV i))]) (rest := []) ⟨hx, hb, hml, hown, hts⟩ (c_X7_within l ((nI (nvl T nt (sp T nt a i)))) ((nI (loV i))) ((nI (hiV i)))) ⟨va_cnB 3 hts gX5_readShip_X7_within_n53 rfl rfl rfl E.2.1.1 (hts _ (List.mem_of_getElem? (i := 20) rfl)) (by decide +kernel) ⟨Nat.le_of_ble_eq_true rfl, Nat.le_of_ble_eq_true rfl⟩, hts _ (List.mem_of_getElem? (i := 19) rfl), trivial⟩ rfl hl.1 rfl (lv_room (Nat.le_of_ble_eq_true rfl)) dX5_readShip_81 ⟨Nat.le_of_ble_eq_true rfl, Nat.le_of_ble_eq_true rfl⟩ (fun r_81 hp_81 => ?_)
                rcases hp_81 with ⟨rfl, g2⟩ | ⟨rfl, g2⟩
                · rw [nI_toInt (show loV i < 2 ^ 31 by omega), nI_toInt (show nvl T nt (sp T nt a i) < 2 ^ 31 by omega), nI_toInt (show hiV i < 2 ^ 31 by omega)] at g2
                  have hrg : rgN (M 0) i (nvl T nt (sp T nt a i)) := ⟨by omega, Or.inr ⟨c_29, by omega⟩⟩
                  refine lv_if_eq (tgt := 97) hx hb dX5_readShip_84 (by decide) (fun c_84 => ?_) (fun c_84 => ?_)
                  · exact absurd c_84 (by decide)
                  · refine lv_aload_n hx hb dX5_readShip_87 rfl (lv_at hl 2 rfl) ?_
                    refine lv_aload_n hx hb dX5_readShip_88 rfl (lv_at hl 3 rfl) ?_
                    refine lv_iload hx hb dX5_readShip_89 (lv_at hl 0 rfl) ?_
                    refine k_calli (k := 3) (As := [.ref (ad 1), .int (nI 44)]) (rest := []) ⟨hx, hb, hml, hown, hts⟩ (c_X5_readSign cy D ad l (va_up σ_67 (6 + sh) (upd (σ_67 (6 + sh)) i (nI (nvl T nt (sp T nt a i))))) T nt (rText_fP hTt (fP_up (by rw [hs_]; exact fP_up (fP_rf τ) _ (by decide)) _ (by omega))) (sp T nt a i + nfc T nt (sp T nt a i)) (44) (by omega) (by decide) (by rw [va_up_ne _ _ (by omega), hs_]; rfl)) (cwV 2 hts gX5_readShip_X5_readSign rfl rfl rfl (by decide +kernel) ⟨Nat.le_of_ble_eq_true rfl, Nat.le_of_ble_eq_true rfl⟩) E hA I (k_recv E I (by decide) kc_3 rfl) rfl hl.1 rfl (lv_room (Nat.le_of_ble_eq_true rfl)) dX5_readShip_91 ⟨Nat.le_of_ble_eq_true rfl, Nat.le_of_ble_eq_true rfl⟩ (fun r_91 σ_91 H locs hp_91 I => ?_)
                    rcases hp_91 with ⟨rfl, g3, hs3_⟩ | ⟨rfl, g3, hs3_⟩
                    · have hoki : okN T nt a i := ⟨hz_, g3.trans hsg⟩
                      have v2 : σ_67 3 2 = nI (M 0) := by rw [hs_]; exact t2
                      have v3 : σ_67 3 3 = nI sh := by rw [hs_]; exact t3
                      refine lv_if_ne (tgt := 99) hx hb dX5_readShip_94 (by decide) (fun c_94 => ?_) (fun c_94 => ?_)
                      · refine lv_iinc (v := nI (i + 1)) (lv' := [(3, .int (nI (i + 1))), (5, .int (nI 44)), (4, .int (nI (hiV i))), (0, .ref (ad 3)), (1, .ref (ad 1)), (2, .ref (ad (6 + sh)))]) hx hb dX5_readShip_99 hl (k := 5) rfl (show nI i + Int32.ofInt 1 = nI (i + 1) from nI_add i 1) (by decide) rfl (fun ls hl => ?_)
                        refine lv_goto (tgt := 22) hx hb dX5_readShip_102 (by decide) ?_
                        exact ih_22 (i + 1) σ_91 (by omega) (by omega) (by rw [hs3_, va_up_self, pk_un (by decide), va_up_ne _ _ (by omega)]; exact v2) (by rw [hs3_, va_up_self, pk_un (by decide), va_up_ne _ _ (by omega)]; exact v3) (by rw [hs3_]; rfl) (fun k x1 x2 => by rw [hs3_, va_up_ne _ _ x1, va_up_ne _ _ x2, hs_, va_up_ne _ _ x1]; exact hfr k x1 x2) (fun f hf => by rw [hs3_, va_up_ne _ _ (by omega), va_up_self]; by_cases e_ : f = i; (rw [e_, pk_us]); (rw [pk_un e_, hs_, va_up_ne _ _ (by omega)]; exact hrw f (by omega))) (fun k hk => by by_cases e_ : k = i; (rw [e_]; exact ⟨hoki, hrg⟩); exact hok k (by omega)) _ _ I _ (lv_sub hl [3, 4, 5, 0] rfl)
                      · exact absurd c_94 (by decide)
                    · have hbad : ¬ (okN T nt a i ∧ rgN (M 0) i (nvl T nt (sp T nt a i))) := fun q => g3 (q.1.2.trans hsg.symm)
                      have hF9 : fP σ σ_91 := by rw [← hs3_]; exact fP_up hF7 _ (by omega)
                      refine lv_if_ne (tgt := 99) hx hb dX5_readShip_94 (by decide) (fun c_94 => ?_) (fun c_94 => ?_)
                      · exact absurd c_94 (by decide)
                      · refine lv_iconst (v := nI 0) hx hb dX5_readShip_97 (by decide) ?_
                        exact k_zret hx hb hr (by decide) hlk I dX5_readShip_98 (⟨kT_0 (fun q => hbad (shOk_iff.mp q.1 i (by omega))), by first | exact hF9 | exact fP_up hF7 _ (by omega), fun q => absurd (shOk_iff.mp q.1 i (by omega)) hbad⟩)
                · rw [nI_toInt (show loV i < 2 ^ 31 by omega), nI_toInt (show nvl T nt (sp T nt a i) < 2 ^ 31 by omega), nI_toInt (show hiV i < 2 ^ 31 by omega)] at g2
                  have hbad : ¬ (okN T nt a i ∧ rgN (M 0) i (nvl T nt (sp T nt a i))) := fun q => by have q1 := q.2.1; have q2 := q.2.2; omega
                  refine lv_if_eq (tgt := 97) hx hb dX5_readShip_84 (by decide) (fun c_84 => ?_) (fun c_84 => ?_)
                  · refine lv_iconst (v := nI 0) hx hb dX5_readShip_97 (by decide) ?_
                    exact k_zret hx hb hr (by decide) hlk I dX5_readShip_98 (⟨kT_0 (fun q => hbad (shOk_iff.mp q.1 i (by omega))), by first | exact hF9 | exact fP_up hF7 _ (by omega), fun q => absurd (shOk_iff.mp q.1 i (by omega)) hbad⟩)
                  · exact absurd c_84 (by decide)
            · have c_51 : i = 6 := (nI_eq (by omega) (by omega)).mp c_51
              have hsg : 59 = sgn i := by unfold sgn; rw [if_pos c_51]
              refine lv_bipush (v := nI 59) hx hb dX5_readShip_54 (by decide) ?_
              refine lv_goto (tgt := 61) hx hb dX5_readShip_56 (by decide) ?_
              refine lv_istore (lv' := [(5, .int (nI 59)), (4, .int (nI (hiV i))), (0, .ref (ad 3)), (1, .ref (ad 1)), (2, .ref (ad (6 + sh))), (3, .int (nI i))]) hx hb dX5_readShip_61 hl (by decide) rfl (fun ls hl => ?_)
              refine lv_aload_n hx hb dX5_readShip_63 rfl (lv_at hl 4 rfl) ?_
              refine lv_iload_n hx hb dX5_readShip_64 rfl (lv_at hl 5 rfl) ?_
              refine lv_aload_n hx hb dX5_readShip_65 rfl (lv_at hl 2 rfl) ?_
              refine lv_aload_n hx hb dX5_readShip_66 rfl (lv_at hl 3 rfl) ?_
              refine k_calli (k := 3) (As := [.ref (ad 1)]) (rest := [.int (nI i), .ref (ad (6 + sh))]) ⟨hx, hb, hml, hown, hts⟩ (c_X5_readNumber cy D ad l τ T nt hTt (sp T nt a i) (by omega) t4) (cwV 1 hts gX5_readShip_X5_readNumber rfl rfl rfl (by decide +kernel) ⟨Nat.le_of_ble_eq_true rfl, Nat.le_of_ble_eq_true rfl⟩) E hA I (k_recv E I (by decide) kc_3 rfl) rfl hl.1 rfl (lv_room (Nat.le_of_ble_eq_true rfl)) dX5_readShip_67 ⟨Nat.le_of_ble_eq_true rfl, Nat.le_of_ble_eq_true rfl⟩ (fun r_67 σ_67 H locs hp_67 I => ?_)
              obtain ⟨hv_, hs_⟩ := hp_67
              have hF7 : fP σ σ_67 := by rw [hs_]; exact fP_up hFt _ (by decide)
              rcases hv_ with ⟨hz_, rfl⟩ | ⟨hz_, rfl⟩
              · refine k_iast hx hb E I (6 + sh) (by omega) (r0 := σ_67 (6 + sh)) rfl (fun _ => (kc_R H_sh)) (vp_in_nI (by omega) (by decide)) (σ2 := va_up σ_67 (6 + sh) (upd (σ_67 (6 + sh)) i (-1))) (by rw [nI_clamp (by omega)]) dX5_readShip_70 (fun H locs I => ?_)
                refine lv_aload_n hx hb dX5_readShip_71 rfl (lv_at hl 4 rfl) ?_
                refine lv_iload_n hx hb dX5_readShip_72 rfl (lv_at hl 5 rfl) ?_
                refine k_iald hx hb E I (6 + sh) (by omega) (r0 := (upd (σ_67 (6 + sh)) i (-1))) (by rw [va_up_self]) (kc_R H_sh) (vp_in_nI (by omega) (by decide)) dX5_readShip_73 ?_
                rw [nI_clamp (by omega)]
                rw [pk_us]
                refine k_gets hx hb hts hown E.2.2.2.1 I.2.2 (List.mem_of_getElem? (i := 5) rfl) dX5_readShip_74 (fun ts4 hts4 => ?_)
                refine lv_iload_n hx hb dX5_readShip_77 rfl (lv_at hl 5 rfl) ?_
                refine va_ti (v := .int (nI (loV i))) hx hb hts4 I.2.2 (vp_in_nI (show _ < 7 by omega) (by decide)) (by rw [nI_clamp (by omega)]; exact congrArg Value.int (kLEAST_at i (by omega))) dX5_readShip_78 ?_
                refine lv_iload hx hb dX5_readShip_79 (lv_at hl 1 rfl) ?_
                refine k_callsN (As := [.int (-1), .int (nI (loV i)), .int (nI (hiV i))]) (rest := []) ⟨hx, hb, hml, hown, hts⟩ (c_X7_within l ((-1)) ((nI (loV i))) ((nI (hiV i)))) ⟨va_cnB 3 hts gX5_readShip_X7_within_n53 rfl rfl rfl E.2.1.1 (hts _ (List.mem_of_getElem? (i := 20) rfl)) (by decide +kernel) ⟨Nat.le_of_ble_eq_true rfl, Nat.le_of_ble_eq_true rfl⟩, hts _ (List.mem_of_getElem? (i := 19) rfl), trivial⟩ rfl hl.1 rfl (lv_room (Nat.le_of_ble_eq_true rfl)) dX5_readShip_81 ⟨Nat.le_of_ble_eq_true rfl, Nat.le_of_ble_eq_true rfl⟩ (fun r_81 hp_81 => ?_)
                rcases hp_81 with ⟨rfl, g2⟩ | ⟨rfl, g2⟩
                · exact absurd g2.1 (by rw [nI_toInt (by omega)]; have h9 : (-1 : Int32).toInt = -1 := (by decide); omega)
                · have hbad : ¬ (okN T nt a i ∧ rgN (M 0) i (nvl T nt (sp T nt a i))) := fun q => by have := q.1.1; omega
                  refine lv_if_eq (tgt := 97) hx hb dX5_readShip_84 (by decide) (fun c_84 => ?_) (fun c_84 => ?_)
                  · refine lv_iconst (v := nI 0) hx hb dX5_readShip_97 (by decide) ?_
                    exact k_zret hx hb hr (by decide) hlk I dX5_readShip_98 (⟨kT_0 (fun q => hbad (shOk_iff.mp q.1 i (by omega))), by first | exact hF9 | exact fP_up hF7 _ (by omega), fun q => absurd (shOk_iff.mp q.1 i (by omega)) hbad⟩)
                  · exact absurd c_84 (by decide)
              · refine k_iast hx hb E I (6 + sh) (by omega) (r0 := σ_67 (6 + sh)) rfl (fun _ => (kc_R H_sh)) (vp_in_nI (by omega) (by decide)) (σ2 := va_up σ_67 (6 + sh) (upd (σ_67 (6 + sh)) i (nI (nvl T nt (sp T nt a i))))) (by rw [nI_clamp (by omega)]) dX5_readShip_70 (fun H locs I => ?_)
                refine lv_aload_n hx hb dX5_readShip_71 rfl (lv_at hl 4 rfl) ?_
                refine lv_iload_n hx hb dX5_readShip_72 rfl (lv_at hl 5 rfl) ?_
                refine k_iald hx hb E I (6 + sh) (by omega) (r0 := (upd (σ_67 (6 + sh)) i (nI (nvl T nt (sp T nt a i))))) (by rw [va_up_self]) (kc_R H_sh) (vp_in_nI (by omega) (by decide)) dX5_readShip_73 ?_
                rw [nI_clamp (by omega)]
                rw [pk_us]
                refine k_gets hx hb hts hown E.2.2.2.1 I.2.2 (List.mem_of_getElem? (i := 5) rfl) dX5_readShip_74 (fun ts5 hts5 => ?_)
                refine lv_iload_n hx hb dX5_readShip_77 rfl (lv_at hl 5 rfl) ?_
                refine va_ti (v := .int (nI (loV i))) hx hb hts5 I.2.2 (vp_in_nI (show _ < 7 by omega) (by decide)) (by rw [nI_clamp (by omega)]; exact congrArg Value.int (kLEAST_at i (by omega))) dX5_readShip_78 ?_
                refine lv_iload hx hb dX5_readShip_79 (lv_at hl 1 rfl) ?_
                refine k_callsN (As := [.int (nI (nvl T nt (sp T nt a i))), .int (nI (loV i)), .int (nI (hiV i))]) (rest := []) ⟨hx, hb, hml, hown, hts⟩ (c_X7_within l ((nI (nvl T nt (sp T nt a i)))) ((nI (loV i))) ((nI (hiV i)))) ⟨va_cnB 3 hts gX5_readShip_X7_within_n53 rfl rfl rfl E.2.1.1 (hts _ (List.mem_of_getElem? (i := 20) rfl)) (by decide +kernel) ⟨Nat.le_of_ble_eq_true rfl, Nat.le_of_ble_eq_true rfl⟩, hts _ (List.mem_of_getElem? (i := 19) rfl), trivial⟩ rfl hl.1 rfl (lv_room (Nat.le_of_ble_eq_true rfl)) dX5_readShip_81 ⟨Nat.le_of_ble_eq_true rfl, Nat.le_of_ble_eq_true rfl⟩ (fun r_81 hp_81 => ?_)
                rcases hp_81 with ⟨rfl, g2⟩ | ⟨rfl, g2⟩
                · rw [nI_toInt (show loV i < 2 ^ 31 by omega), nI_toInt (show nvl T nt (sp T nt a i) < 2 ^ 31 by omega), nI_toInt (show hiV i < 2 ^ 31 by omega)] at g2
                  have hrg : rgN (M 0) i (nvl T nt (sp T nt a i)) := ⟨by omega, Or.inr ⟨c_29, by omega⟩⟩
                  refine lv_if_eq (tgt := 97) hx hb dX5_readShip_84 (by decide) (fun c_84 => ?_) (fun c_84 => ?_)
                  · exact absurd c_84 (by decide)
                  · refine lv_aload_n hx hb dX5_readShip_87 rfl (lv_at hl 2 rfl) ?_
                    refine lv_aload_n hx hb dX5_readShip_88 rfl (lv_at hl 3 rfl) ?_
                    refine lv_iload hx hb dX5_readShip_89 (lv_at hl 0 rfl) ?_
                    refine k_calli (k := 3) (As := [.ref (ad 1), .int (nI 59)]) (rest := []) ⟨hx, hb, hml, hown, hts⟩ (c_X5_readSign cy D ad l (va_up σ_67 (6 + sh) (upd (σ_67 (6 + sh)) i (nI (nvl T nt (sp T nt a i))))) T nt (rText_fP hTt (fP_up (by rw [hs_]; exact fP_up (fP_rf τ) _ (by decide)) _ (by omega))) (sp T nt a i + nfc T nt (sp T nt a i)) (59) (by omega) (by decide) (by rw [va_up_ne _ _ (by omega), hs_]; rfl)) (cwV 2 hts gX5_readShip_X5_readSign rfl rfl rfl (by decide +kernel) ⟨Nat.le_of_ble_eq_true rfl, Nat.le_of_ble_eq_true rfl⟩) E hA I (k_recv E I (by decide) kc_3 rfl) rfl hl.1 rfl (lv_room (Nat.le_of_ble_eq_true rfl)) dX5_readShip_91 ⟨Nat.le_of_ble_eq_true rfl, Nat.le_of_ble_eq_true rfl⟩ (fun r_91 σ_91 H locs hp_91 I => ?_)
                    rcases hp_91 with ⟨rfl, g3, hs3_⟩ | ⟨rfl, g3, hs3_⟩
                    · have hoki : okN T nt a i := ⟨hz_, g3.trans hsg⟩
                      have v2 : σ_67 3 2 = nI (M 0) := by rw [hs_]; exact t2
                      have v3 : σ_67 3 3 = nI sh := by rw [hs_]; exact t3
                      refine lv_if_ne (tgt := 99) hx hb dX5_readShip_94 (by decide) (fun c_94 => ?_) (fun c_94 => ?_)
                      · refine lv_iinc (v := nI (i + 1)) (lv' := [(3, .int (nI (i + 1))), (5, .int (nI 59)), (4, .int (nI (hiV i))), (0, .ref (ad 3)), (1, .ref (ad 1)), (2, .ref (ad (6 + sh)))]) hx hb dX5_readShip_99 hl (k := 5) rfl (show nI i + Int32.ofInt 1 = nI (i + 1) from nI_add i 1) (by decide) rfl (fun ls hl => ?_)
                        refine lv_goto (tgt := 22) hx hb dX5_readShip_102 (by decide) ?_
                        exact ih_22 (i + 1) σ_91 (by omega) (by omega) (by rw [hs3_, va_up_self, pk_un (by decide), va_up_ne _ _ (by omega)]; exact v2) (by rw [hs3_, va_up_self, pk_un (by decide), va_up_ne _ _ (by omega)]; exact v3) (by rw [hs3_]; rfl) (fun k x1 x2 => by rw [hs3_, va_up_ne _ _ x1, va_up_ne _ _ x2, hs_, va_up_ne _ _ x1]; exact hfr k x1 x2) (fun f hf => by rw [hs3_, va_up_ne _ _ (by omega), va_up_self]; by_cases e_ : f = i; (rw [e_, pk_us]); (rw [pk_un e_, hs_, va_up_ne _ _ (by omega)]; exact hrw f (by omega))) (fun k hk => by by_cases e_ : k = i; (rw [e_]; exact ⟨hoki, hrg⟩); exact hok k (by omega)) _ _ I _ (lv_sub hl [3, 4, 5, 0] rfl)
                      · exact absurd c_94 (by decide)
                    · have hbad : ¬ (okN T nt a i ∧ rgN (M 0) i (nvl T nt (sp T nt a i))) := fun q => g3 (q.1.2.trans hsg.symm)
                      have hF9 : fP σ σ_91 := by rw [← hs3_]; exact fP_up hF7 _ (by omega)
                      refine lv_if_ne (tgt := 99) hx hb dX5_readShip_94 (by decide) (fun c_94 => ?_) (fun c_94 => ?_)
                      · exact absurd c_94 (by decide)
                      · refine lv_iconst (v := nI 0) hx hb dX5_readShip_97 (by decide) ?_
                        exact k_zret hx hb hr (by decide) hlk I dX5_readShip_98 (⟨kT_0 (fun q => hbad (shOk_iff.mp q.1 i (by omega))), by first | exact hF9 | exact fP_up hF7 _ (by omega), fun q => absurd (shOk_iff.mp q.1 i (by omega)) hbad⟩)
                · rw [nI_toInt (show loV i < 2 ^ 31 by omega), nI_toInt (show nvl T nt (sp T nt a i) < 2 ^ 31 by omega), nI_toInt (show hiV i < 2 ^ 31 by omega)] at g2
                  have hbad : ¬ (okN T nt a i ∧ rgN (M 0) i (nvl T nt (sp T nt a i))) := fun q => by have q1 := q.2.1; have q2 := q.2.2; omega
                  refine lv_if_eq (tgt := 97) hx hb dX5_readShip_84 (by decide) (fun c_84 => ?_) (fun c_84 => ?_)
                  · refine lv_iconst (v := nI 0) hx hb dX5_readShip_97 (by decide) ?_
                    exact k_zret hx hb hr (by decide) hlk I dX5_readShip_98 (⟨kT_0 (fun q => hbad (shOk_iff.mp q.1 i (by omega))), by first | exact hF9 | exact fP_up hF7 _ (by omega), fun q => absurd (shOk_iff.mp q.1 i (by omega)) hbad⟩)
                  · exact absurd c_84 (by decide)
          · have c_29 : i = 0 := (nI_eq (by omega) (by decide)).mp c_29
            refine lv_aload_n hx hb dX5_readShip_32 rfl (lv_at hl 0 rfl) ?_
            refine k_get (C := RX5) (T := TX5) (N := 5) (v := .int (nI (M 0))) hx hb hts hown E I iX5 (3) (by decide) (r0 := τ 3) rfl kc_3 rfl 2 (by decide) (List.mem_of_getElem? (i := 3) rfl) (congrArg (fun z => some (Value.int z)) t2) dX5_readShip_33 ?_
            refine lv_iconst (v := nI 1) hx hb dX5_readShip_36 (by decide) ?_
            refine lv_isub hx hb dX5_readShip_37 ?_
            refine lv_goto (tgt := 46) hx hb dX5_readShip_38 (by decide) ?_
            refine lv_istore (lv' := [(4, .int ((nI (M 0)) - (nI 1))), (0, .ref (ad 3)), (1, .ref (ad 1)), (2, .ref (ad (6 + sh))), (3, .int (nI i))]) hx hb dX5_readShip_46 hl (by decide) rfl (fun ls hl => ?_)
            refine lv_iload_n hx hb dX5_readShip_48 rfl (lv_at hl 4 rfl) ?_
            refine lv_bipush (v := nI 6) hx hb dX5_readShip_49 (by decide) ?_
            refine lv_icmp_ne (tgt := 59) hx hb dX5_readShip_51 (by decide) (fun c_51 => ?_) (fun c_51 => ?_)
            · have c_51 : ¬ (i = 6) := fun q_ => c_51 ((nI_eq (by omega) (by omega)).mpr q_)
              have hsg : 44 = sgn i := by unfold sgn; rw [if_neg c_51]
              refine lv_bipush (v := nI 44) hx hb dX5_readShip_59 (by decide) ?_
              refine lv_istore (lv' := [(5, .int (nI 44)), (4, .int ((nI (M 0)) - (nI 1))), (0, .ref (ad 3)), (1, .ref (ad 1)), (2, .ref (ad (6 + sh))), (3, .int (nI i))]) hx hb dX5_readShip_61 hl (by decide) rfl (fun ls hl => ?_)
              refine lv_aload_n hx hb dX5_readShip_63 rfl (lv_at hl 4 rfl) ?_
              refine lv_iload_n hx hb dX5_readShip_64 rfl (lv_at hl 5 rfl) ?_
              refine lv_aload_n hx hb dX5_readShip_65 rfl (lv_at hl 2 rfl) ?_
              refine lv_aload_n hx hb dX5_readShip_66 rfl (lv_at hl 3 rfl) ?_
              refine k_calli (k := 3) (As := [.ref (ad 1)]) (rest := [.int (nI i), .ref (ad (6 + sh))]) ⟨hx, hb, hml, hown, hts⟩ (c_X5_readNumber cy D ad l τ T nt hTt (sp T nt a i) (by omega) t4) (cwV 1 hts gX5_readShip_X5_readNumber rfl rfl rfl (by decide +kernel) ⟨Nat.le_of_ble_eq_true rfl, Nat.le_of_ble_eq_true rfl⟩) E hA I (k_recv E I (by decide) kc_3 rfl) rfl hl.1 rfl (lv_room (Nat.le_of_ble_eq_true rfl)) dX5_readShip_67 ⟨Nat.le_of_ble_eq_true rfl, Nat.le_of_ble_eq_true rfl⟩ (fun r_67 σ_67 H locs hp_67 I => ?_)
              obtain ⟨hv_, hs_⟩ := hp_67
              have hF7 : fP σ σ_67 := by rw [hs_]; exact fP_up hFt _ (by decide)
              rcases hv_ with ⟨hz_, rfl⟩ | ⟨hz_, rfl⟩
              · refine k_iast hx hb E I (6 + sh) (by omega) (r0 := σ_67 (6 + sh)) rfl (fun _ => (kc_R H_sh)) (vp_in_nI (by omega) (by decide)) (σ2 := va_up σ_67 (6 + sh) (upd (σ_67 (6 + sh)) i (-1))) (by rw [nI_clamp (by omega)]) dX5_readShip_70 (fun H locs I => ?_)
                refine lv_aload_n hx hb dX5_readShip_71 rfl (lv_at hl 4 rfl) ?_
                refine lv_iload_n hx hb dX5_readShip_72 rfl (lv_at hl 5 rfl) ?_
                refine k_iald hx hb E I (6 + sh) (by omega) (r0 := (upd (σ_67 (6 + sh)) i (-1))) (by rw [va_up_self]) (kc_R H_sh) (vp_in_nI (by omega) (by decide)) dX5_readShip_73 ?_
                rw [nI_clamp (by omega)]
                rw [pk_us]
                refine k_gets hx hb hts hown E.2.2.2.1 I.2.2 (List.mem_of_getElem? (i := 5) rfl) dX5_readShip_74 (fun ts6 hts6 => ?_)
                refine lv_iload_n hx hb dX5_readShip_77 rfl (lv_at hl 5 rfl) ?_
                refine va_ti (v := .int (nI (loV i))) hx hb hts6 I.2.2 (vp_in_nI (show _ < 7 by omega) (by decide)) (by rw [nI_clamp (by omega)]; exact congrArg Value.int (kLEAST_at i (by omega))) dX5_readShip_78 ?_
                refine lv_iload hx hb dX5_readShip_79 (lv_at hl 1 rfl) ?_
                refine k_callsN (As := [.int (-1), .int (nI (loV i)), .int ((nI (M 0)) - (nI 1))]) (rest := []) ⟨hx, hb, hml, hown, hts⟩ (c_X7_within l ((-1)) ((nI (loV i))) (((nI (M 0)) - (nI 1)))) ⟨va_cnB 3 hts gX5_readShip_X7_within_n53 rfl rfl rfl E.2.1.1 (hts _ (List.mem_of_getElem? (i := 20) rfl)) (by decide +kernel) ⟨Nat.le_of_ble_eq_true rfl, Nat.le_of_ble_eq_true rfl⟩, hts _ (List.mem_of_getElem? (i := 19) rfl), trivial⟩ rfl hl.1 rfl (lv_room (Nat.le_of_ble_eq_true rfl)) dX5_readShip_81 ⟨Nat.le_of_ble_eq_true rfl, Nat.le_of_ble_eq_true rfl⟩ (fun r_81 hp_81 => ?_)
                rcases hp_81 with ⟨rfl, g2⟩ | ⟨rfl, g2⟩
                · exact absurd g2.1 (by rw [nI_toInt (by omega)]; have h9 : (-1 : Int32).toInt = -1 := (by decide); omega)
                · have hbad : ¬ (okN T nt a i ∧ rgN (M 0) i (nvl T nt (sp T nt a i))) := fun q => by have := q.1.1; omega
                  refine lv_if_eq (tgt := 97) hx hb dX5_readShip_84 (by decide) (fun c_84 => ?_) (fun c_84 => ?_)
                  · refine lv_iconst (v := nI 0) hx hb dX5_readShip_97 (by decide) ?_
                    exact k_zret hx hb hr (by decide) hlk I dX5_readShip_98 (⟨kT_0 (fun q => hbad (shOk_iff.mp q.1 i (by omega))), by first | exact hF9 | exact fP_up hF7 _ (by omega), fun q => absurd (shOk_iff.mp q.1 i (by omega)) hbad⟩)
                  · exact absurd c_84 (by decide)
              · refine k_iast hx hb E I (6 + sh) (by omega) (r0 := σ_67 (6 + sh)) rfl (fun _ => (kc_R H_sh)) (vp_in_nI (by omega) (by decide)) (σ2 := va_up σ_67 (6 + sh) (upd (σ_67 (6 + sh)) i (nI (nvl T nt (sp T nt a i))))) (by rw [nI_clamp (by omega)]) dX5_readShip_70 (fun H locs I => ?_)
                refine lv_aload_n hx hb dX5_readShip_71 rfl (lv_at hl 4 rfl) ?_
                refine lv_iload_n hx hb dX5_readShip_72 rfl (lv_at hl 5 rfl) ?_
                refine k_iald hx hb E I (6 + sh) (by omega) (r0 := (upd (σ_67 (6 + sh)) i (nI (nvl T nt (sp T nt a i))))) (by rw [va_up_self]) (kc_R H_sh) (vp_in_nI (by omega) (by decide)) dX5_readShip_73 ?_
                rw [nI_clamp (by omega)]
                rw [pk_us]
                refine k_gets hx hb hts hown E.2.2.2.1 I.2.2 (List.mem_of_getElem? (i := 5) rfl) dX5_readShip_74 (fun ts7 hts7 => ?_)
                refine lv_iload_n hx hb dX5_readShip_77 rfl (lv_at hl 5 rfl) ?_
                refine va_ti (v := .int (nI (loV i))) hx hb hts7 I.2.2 (vp_in_nI (show _ < 7 by omega) (by decide)) (by rw [nI_clamp (by omega)]; exact congrArg Value.int (kLEAST_at i (by omega))) dX5_readShip_78 ?_
                refine lv_iload hx hb dX5_readShip_79 (lv_at hl 1 rfl) ?_
                refine k_callsN (As := [.int (nI (nvl T nt (sp T nt a i))), .int (nI (loV i)), .int ((nI (M 0)) - (nI 1))]) (rest := []) ⟨hx, hb, hml, hown, hts⟩ (c_X7_within l ((nI (nvl T nt (sp T nt a i)))) ((nI (loV i))) (((nI (M 0)) - (nI 1)))) ⟨va_cnB 3 hts gX5_readShip_X7_within_n53 rfl rfl rfl E.2.1.1 (hts _ (List.mem_of_getElem? (i := 20) rfl)) (by decide +kernel) ⟨Nat.le_of_ble_eq_true rfl, Nat.le_of_ble_eq_true rfl⟩, hts _ (List.mem_of_getElem? (i := 19) rfl), trivial⟩ rfl hl.1 rfl (lv_room (Nat.le_of_ble_eq_true rfl)) dX5_readShip_81 ⟨Nat.le_of_ble_eq_true rfl, Nat.le_of_ble_eq_true rfl⟩ (fun r_81 hp_81 => ?_)
                rcases hp_81 with ⟨rfl, g2⟩ | ⟨rfl, g2⟩
                · rw [nI_toInt (show loV i < 2 ^ 31 by omega), nI_toInt (show nvl T nt (sp T nt a i) < 2 ^ 31 by omega), pk_sub_toInt (show M 0 < 2 ^ 30 by omega) (show 1 < 2 ^ 30 by decide)] at g2
                  have hrg : rgN (M 0) i (nvl T nt (sp T nt a i)) := ⟨by omega, Or.inl ⟨c_29, by omega⟩⟩
                  refine lv_if_eq (tgt := 97) hx hb dX5_readShip_84 (by decide) (fun c_84 => ?_) (fun c_84 => ?_)
                  · exact absurd c_84 (by decide)
                  · refine lv_aload_n hx hb dX5_readShip_87 rfl (lv_at hl 2 rfl) ?_
                    refine lv_aload_n hx hb dX5_readShip_88 rfl (lv_at hl 3 rfl) ?_
                    refine lv_iload hx hb dX5_readShip_89 (lv_at hl 0 rfl) ?_
                    refine k_calli (k := 3) (As := [.ref (ad 1), .int (nI 44)]) (rest := []) ⟨hx, hb, hml, hown, hts⟩ (c_X5_readSign cy D ad l (va_up σ_67 (6 + sh) (upd (σ_67 (6 + sh)) i (nI (nvl T nt (sp T nt a i))))) T nt (rText_fP hTt (fP_up (by rw [hs_]; exact fP_up (fP_rf τ) _ (by decide)) _ (by omega))) (sp T nt a i + nfc T nt (sp T nt a i)) (44) (by omega) (by decide) (by rw [va_up_ne _ _ (by omega), hs_]; rfl)) (cwV 2 hts gX5_readShip_X5_readSign rfl rfl rfl (by decide +kernel) ⟨Nat.le_of_ble_eq_true rfl, Nat.le_of_ble_eq_true rfl⟩) E hA I (k_recv E I (by decide) kc_3 rfl) rfl hl.1 rfl (lv_room (Nat.le_of_ble_eq_true rfl)) dX5_readShip_91 ⟨Nat.le_of_ble_eq_true rfl, Nat.le_of_ble_eq_true rfl⟩ (fun r_91 σ_91 H locs hp_91 I => ?_)
                    rcases hp_91 with ⟨rfl, g3, hs3_⟩ | ⟨rfl, g3, hs3_⟩
                    · have hoki : okN T nt a i := ⟨hz_, g3.trans hsg⟩
                      have v2 : σ_67 3 2 = nI (M 0) := by rw [hs_]; exact t2
                      have v3 : σ_67 3 3 = nI sh := by rw [hs_]; exact t3
                      refine lv_if_ne (tgt := 99) hx hb dX5_readShip_94 (by decide) (fun c_94 => ?_) (fun c_94 => ?_)
                      · refine lv_iinc (v := nI (i + 1)) (lv' := [(3, .int (nI (i + 1))), (5, .int (nI 44)), (4, .int ((nI (M 0)) - (nI 1))), (0, .ref (ad 3)), (1, .ref (ad 1)), (2, .ref (ad (6 + sh)))]) hx hb dX5_readShip_99 hl (k := 5) rfl (show nI i + Int32.ofInt 1 = nI (i + 1) from nI_add i 1) (by decide) rfl (fun ls hl => ?_)
                        refine lv_goto (tgt := 22) hx hb dX5_readShip_102 (by decide) ?_
                        exact ih_22 (i + 1) σ_91 (by omega) (by omega) (by rw [hs3_, va_up_self, pk_un (by decide), va_up_ne _ _ (by omega)]; exact v2) (by rw [hs3_, va_up_self, pk_un (by decide), va_up_ne _ _ (by omega)]; exact v3) (by rw [hs3_]; rfl) (fun k x1 x2 => by rw [hs3_, va_up_ne _ _ x1, va_up_ne _ _ x2, hs_, va_up_ne _ _ x1]; exact hfr k x1 x2) (fun f hf => by rw [hs3_, va_up_ne _ _ (by omega), va_up_self]; by_cases e_ : f = i; (rw [e_, pk_us]); (rw [pk_un e_, hs_, va_up_ne _ _ (by omega)]; exact hrw f (by omega))) (fun k hk => by by_cases e_ : k = i; (rw [e_]; exact ⟨hoki, hrg⟩); exact hok k (by omega)) _ _ I _ (lv_sub hl [3, 4, 5, 0] rfl)
                      · exact absurd c_94 (by decide)
                    · have hbad : ¬ (okN T nt a i ∧ rgN (M 0) i (nvl T nt (sp T nt a i))) := fun q => g3 (q.1.2.trans hsg.symm)
                      have hF9 : fP σ σ_91 := by rw [← hs3_]; exact fP_up hF7 _ (by omega)
                      refine lv_if_ne (tgt := 99) hx hb dX5_readShip_94 (by decide) (fun c_94 => ?_) (fun c_94 => ?_)
                      · exact absurd c_94 (by decide)
                      · refine lv_iconst (v := nI 0) hx hb dX5_readShip_97 (by decide) ?_
                        exact k_zret hx hb hr (by decide) hlk I dX5_readShip_98 (⟨kT_0 (fun q => hbad (shOk_iff.mp q.1 i (by omega))), by first | exact hF9 | exact fP_up hF7 _ (by omega), fun q => absurd (shOk_iff.mp q.1 i (by omega)) hbad⟩)
                · rw [nI_toInt (show loV i < 2 ^ 31 by omega), nI_toInt (show nvl T nt (sp T nt a i) < 2 ^ 31 by omega), pk_sub_toInt (show M 0 < 2 ^ 30 by omega) (show 1 < 2 ^ 30 by decide)] at g2
                  have hbad : ¬ (okN T nt a i ∧ rgN (M 0) i (nvl T nt (sp T nt a i))) := fun q => by have q1 := q.2.1; have q2 := q.2.2; omega
                  refine lv_if_eq (tgt := 97) hx hb dX5_readShip_84 (by decide) (fun c_84 => ?_) (fun c_84 => ?_)
                  · refine lv_iconst (v := nI 0) hx hb dX5_readShip_97 (by decide) ?_
                    exact k_zret hx hb hr (by decide) hlk I dX5_readShip_98 (⟨kT_0 (fun q => hbad (shOk_iff.mp q.1 i (by omega))), by first | exact hF9 | exact fP_up hF7 _ (by omega), fun q => absurd (shOk_iff.mp q.1 i (by omega)) hbad⟩)
                  · exact absurd c_84 (by decide)
            · have c_51 : i = 6 := (nI_eq (by omega) (by omega)).mp c_51
              have hsg : 59 = sgn i := by unfold sgn; rw [if_pos c_51]
              refine lv_bipush (v := nI 59) hx hb dX5_readShip_54 (by decide) ?_
              refine lv_goto (tgt := 61) hx hb dX5_readShip_56 (by decide) ?_
              refine lv_istore (lv' := [(5, .int (nI 59)), (4, .int ((nI (M 0)) - (nI 1))), (0, .ref (ad 3)), (1, .ref (ad 1)), (2, .ref (ad (6 + sh))), (3, .int (nI i))]) hx hb dX5_readShip_61 hl (by decide) rfl (fun ls hl => ?_)
              refine lv_aload_n hx hb dX5_readShip_63 rfl (lv_at hl 4 rfl) ?_
              refine lv_iload_n hx hb dX5_readShip_64 rfl (lv_at hl 5 rfl) ?_
              refine lv_aload_n hx hb dX5_readShip_65 rfl (lv_at hl 2 rfl) ?_
              refine lv_aload_n hx hb dX5_readShip_66 rfl (lv_at hl 3 rfl) ?_
              refine k_calli (k := 3) (As := [.ref (ad 1)]) (rest := [.int (nI i), .ref (ad (6 + sh))]) ⟨hx, hb, hml, hown, hts⟩ (c_X5_readNumber cy D ad l τ T nt hTt (sp T nt a i) (by omega) t4) (cwV 1 hts gX5_readShip_X5_readNumber rfl rfl rfl (by decide +kernel) ⟨Nat.le_of_ble_eq_true rfl, Nat.le_of_ble_eq_true rfl⟩) E hA I (k_recv E I (by decide) kc_3 rfl) rfl hl.1 rfl (lv_room (Nat.le_of_ble_eq_true rfl)) dX5_readShip_67 ⟨Nat.le_of_ble_eq_true rfl, Nat.le_of_ble_eq_true rfl⟩ (fun r_67 σ_67 H locs hp_67 I => ?_)
              obtain ⟨hv_, hs_⟩ := hp_67
              have hF7 : fP σ σ_67 := by rw [hs_]; exact fP_up hFt _ (by decide)
              rcases hv_ with ⟨hz_, rfl⟩ | ⟨hz_, rfl⟩
              · refine k_iast hx hb E I (6 + sh) (by omega) (r0 := σ_67 (6 + sh)) rfl (fun _ => (kc_R H_sh)) (vp_in_nI (by omega) (by decide)) (σ2 := va_up σ_67 (6 + sh) (upd (σ_67 (6 + sh)) i (-1))) (by rw [nI_clamp (by omega)]) dX5_readShip_70 (fun H locs I => ?_)
                refine lv_aload_n hx hb dX5_readShip_71 rfl (lv_at hl 4 rfl) ?_
                refine lv_iload_n hx hb dX5_readShip_72 rfl (lv_at hl 5 rfl) ?_
                refine k_iald hx hb E I (6 + sh) (by omega) (r0 := (upd (σ_67 (6 + sh)) i (-1))) (by rw [va_up_self]) (kc_R H_sh) (vp_in_nI (by omega) (by decide)) dX5_readShip_73 ?_
                rw [nI_clamp (by omega)]
                rw [pk_us]
                refine k_gets hx hb hts hown E.2.2.2.1 I.2.2 (List.mem_of_getElem? (i := 5) rfl) dX5_readShip_74 (fun ts8 hts8 => ?_)
                refine lv_iload_n hx hb dX5_readShip_77 rfl (lv_at hl 5 rfl) ?_
                refine va_ti (v := .int (nI (loV i))) hx hb hts8 I.2.2 (vp_in_nI (show _ < 7 by omega) (by decide)) (by rw [nI_clamp (by omega)]; exact congrArg Value.int (kLEAST_at i (by omega))) dX5_readShip_78 ?_
                refine lv_iload hx hb dX5_readShip_79 (lv_at hl 1 rfl) ?_
                refine k_callsN (As := [.int (-1), .int (nI (loV i)), .int ((nI (M 0)) - (nI 1))]) (rest := []) ⟨hx, hb, hml, hown, hts⟩ (c_X7_within l ((-1)) ((nI (loV i))) (((nI (M 0)) - (nI 1)))) ⟨va_cnB 3 hts gX5_readShip_X7_within_n53 rfl rfl rfl E.2.1.1 (hts _ (List.mem_of_getElem? (i := 20) rfl)) (by decide +kernel) ⟨Nat.le_of_ble_eq_true rfl, Nat.le_of_ble_eq_true rfl⟩, hts _ (List.mem_of_getElem? (i := 19) rfl), trivial⟩ rfl hl.1 rfl (lv_room (Nat.le_of_ble_eq_true rfl)) dX5_readShip_81 ⟨Nat.le_of_ble_eq_true rfl, Nat.le_of_ble_eq_true rfl⟩ (fun r_81 hp_81 => ?_)
                rcases hp_81 with ⟨rfl, g2⟩ | ⟨rfl, g2⟩
                · exact absurd g2.1 (by rw [nI_toInt (by omega)]; have h9 : (-1 : Int32).toInt = -1 := (by decide); omega)
                · have hbad : ¬ (okN T nt a i ∧ rgN (M 0) i (nvl T nt (sp T nt a i))) := fun q => by have := q.1.1; omega
                  refine lv_if_eq (tgt := 97) hx hb dX5_readShip_84 (by decide) (fun c_84 => ?_) (fun c_84 => ?_)
                  · refine lv_iconst (v := nI 0) hx hb dX5_readShip_97 (by decide) ?_
                    exact k_zret hx hb hr (by decide) hlk I dX5_readShip_98 (⟨kT_0 (fun q => hbad (shOk_iff.mp q.1 i (by omega))), by first | exact hF9 | exact fP_up hF7 _ (by omega), fun q => absurd (shOk_iff.mp q.1 i (by omega)) hbad⟩)
                  · exact absurd c_84 (by decide)
              · refine k_iast hx hb E I (6 + sh) (by omega) (r0 := σ_67 (6 + sh)) rfl (fun _ => (kc_R H_sh)) (vp_in_nI (by omega) (by decide)) (σ2 := va_up σ_67 (6 + sh) (upd (σ_67 (6 + sh)) i (nI (nvl T nt (sp T nt a i))))) (by rw [nI_clamp (by omega)]) dX5_readShip_70 (fun H locs I => ?_)
                refine lv_aload_n hx hb dX5_readShip_71 rfl (lv_at hl 4 rfl) ?_
                refine lv_iload_n hx hb dX5_readShip_72 rfl (lv_at hl 5 rfl) ?_
                refine k_iald hx hb E I (6 + sh) (by omega) (r0 := (upd (σ_67 (6 + sh)) i (nI (nvl T nt (sp T nt a i))))) (by rw [va_up_self]) (kc_R H_sh) (vp_in_nI (by omega) (by decide)) dX5_readShip_73 ?_
                rw [nI_clamp (by omega)]
                rw [pk_us]
                refine k_gets hx hb hts hown E.2.2.2.1 I.2.2 (List.mem_of_getElem? (i := 5) rfl) dX5_readShip_74 (fun ts9 hts9 => ?_)
                refine lv_iload_n hx hb dX5_readShip_77 rfl (lv_at hl 5 rfl) ?_
                refine va_ti (v := .int (nI (loV i))) hx hb hts9 I.2.2 (vp_in_nI (show _ < 7 by omega) (by decide)) (by rw [nI_clamp (by omega)]; exact congrArg Value.int (kLEAST_at i (by omega))) dX5_readShip_78 ?_
                refine lv_iload hx hb dX5_readShip_79 (lv_at hl 1 rfl) ?_
                refine k_callsN (As := [.int (nI (nvl T nt (sp T nt a i))), .int (nI (loV i)), .int ((nI (M 0)) - (nI 1))]) (rest := []) ⟨hx, hb, hml, hown, hts⟩ (c_X7_within l ((nI (nvl T nt (sp T nt a i)))) ((nI (loV i))) (((nI (M 0)) - (nI 1)))) ⟨va_cnB 3 hts gX5_readShip_X7_within_n53 rfl rfl rfl E.2.1.1 (hts _ (List.mem_of_getElem? (i := 20) rfl)) (by decide +kernel) ⟨Nat.le_of_ble_eq_true rfl, Nat.le_of_ble_eq_true rfl⟩, hts _ (List.mem_of_getElem? (i := 19) rfl), trivial⟩ rfl hl.1 rfl (lv_room (Nat.le_of_ble_eq_true rfl)) dX5_readShip_81 ⟨Nat.le_of_ble_eq_true rfl, Nat.le_of_ble_eq_true rfl⟩ (fun r_81 hp_81 => ?_)
                rcases hp_81 with ⟨rfl, g2⟩ | ⟨rfl, g2⟩
                · rw [nI_toInt (show loV i < 2 ^ 31 by omega), nI_toInt (show nvl T nt (sp T nt a i) < 2 ^ 31 by omega), pk_sub_toInt (show M 0 < 2 ^ 30 by omega) (show 1 < 2 ^ 30 by decide)] at g2
                  have hrg : rgN (M 0) i (nvl T nt (sp T nt a i)) := ⟨by omega, Or.inl ⟨c_29, by omega⟩⟩
                  refine lv_if_eq (tgt := 97) hx hb dX5_readShip_84 (by decide) (fun c_84 => ?_) (fun c_84 => ?_)
                  · exact absurd c_84 (by decide)
                  · refine lv_aload_n hx hb dX5_readShip_87 rfl (lv_at hl 2 rfl) ?_
                    refine lv_aload_n hx hb dX5_readShip_88 rfl (lv_at hl 3 rfl) ?_
                    refine lv_iload hx hb dX5_readShip_89 (lv_at hl 0 rfl) ?_
                    refine k_calli (k := 3) (As := [.ref (ad 1), .int (nI 59)]) (rest := []) ⟨hx, hb, hml, hown, hts⟩ (c_X5_readSign cy D ad l (va_up σ_67 (6 + sh) (upd (σ_67 (6 + sh)) i (nI (nvl T nt (sp T nt a i))))) T nt (rText_fP hTt (fP_up (by rw [hs_]; exact fP_up (fP_rf τ) _ (by decide)) _ (by omega))) (sp T nt a i + nfc T nt (sp T nt a i)) (59) (by omega) (by decide) (by rw [va_up_ne _ _ (by omega), hs_]; rfl)) (cwV 2 hts gX5_readShip_X5_readSign rfl rfl rfl (by decide +kernel) ⟨Nat.le_of_ble_eq_true rfl, Nat.le_of_ble_eq_true rfl⟩) E hA I (k_recv E I (by decide) kc_3 rfl) rfl hl.1 rfl (lv_room (Nat.le_of_ble_eq_true rfl)) dX5_readShip_91 ⟨Nat.le_of_ble_eq_true rfl, Nat.le_of_ble_eq_true rfl⟩ (fun r_91 σ_91 H locs hp_91 I => ?_)
                    rcases hp_91 with ⟨rfl, g3, hs3_⟩ | ⟨rfl, g3, hs3_⟩
                    · have hoki : okN T nt a i := ⟨hz_, g3.trans hsg⟩
                      have v2 : σ_67 3 2 = nI (M 0) := by rw [hs_]; exact t2
                      have v3 : σ_67 3 3 = nI sh := by rw [hs_]; exact t3
                      refine lv_if_ne (tgt := 99) hx hb dX5_readShip_94 (by decide) (fun c_94 => ?_) (fun c_94 => ?_)
                      · refine lv_iinc (v := nI (i + 1)) (lv' := [(3, .int (nI (i + 1))), (5, .int (nI 59)), (4, .int ((nI (M 0)) - (nI 1))), (0, .ref (ad 3)), (1, .ref (ad 1)), (2, .ref (ad (6 + sh)))]) hx hb dX5_readShip_99 hl (k := 5) rfl (show nI i + Int32.ofInt 1 = nI (i + 1) from nI_add i 1) (by decide) rfl (fun ls hl => ?_)
                        refine lv_goto (tgt := 22) hx hb dX5_readShip_102 (by decide) ?_
                        exact ih_22 (i + 1) σ_91 (by omega) (by omega) (by rw [hs3_, va_up_self, pk_un (by decide), va_up_ne _ _ (by omega)]; exact v2) (by rw [hs3_, va_up_self, pk_un (by decide), va_up_ne _ _ (by omega)]; exact v3) (by rw [hs3_]; rfl) (fun k x1 x2 => by rw [hs3_, va_up_ne _ _ x1, va_up_ne _ _ x2, hs_, va_up_ne _ _ x1]; exact hfr k x1 x2) (fun f hf => by rw [hs3_, va_up_ne _ _ (by omega), va_up_self]; by_cases e_ : f = i; (rw [e_, pk_us]); (rw [pk_un e_, hs_, va_up_ne _ _ (by omega)]; exact hrw f (by omega))) (fun k hk => by by_cases e_ : k = i; (rw [e_]; exact ⟨hoki, hrg⟩); exact hok k (by omega)) _ _ I _ (lv_sub hl [3, 4, 5, 0] rfl)
                      · exact absurd c_94 (by decide)
                    · have hbad : ¬ (okN T nt a i ∧ rgN (M 0) i (nvl T nt (sp T nt a i))) := fun q => g3 (q.1.2.trans hsg.symm)
                      have hF9 : fP σ σ_91 := by rw [← hs3_]; exact fP_up hF7 _ (by omega)
                      refine lv_if_ne (tgt := 99) hx hb dX5_readShip_94 (by decide) (fun c_94 => ?_) (fun c_94 => ?_)
                      · exact absurd c_94 (by decide)
                      · refine lv_iconst (v := nI 0) hx hb dX5_readShip_97 (by decide) ?_
                        exact k_zret hx hb hr (by decide) hlk I dX5_readShip_98 (⟨kT_0 (fun q => hbad (shOk_iff.mp q.1 i (by omega))), by first | exact hF9 | exact fP_up hF7 _ (by omega), fun q => absurd (shOk_iff.mp q.1 i (by omega)) hbad⟩)
                · rw [nI_toInt (show loV i < 2 ^ 31 by omega), nI_toInt (show nvl T nt (sp T nt a i) < 2 ^ 31 by omega), pk_sub_toInt (show M 0 < 2 ^ 30 by omega) (show 1 < 2 ^ 30 by decide)] at g2
                  have hbad : ¬ (okN T nt a i ∧ rgN (M 0) i (nvl T nt (sp T nt a i))) := fun q => by have q1 := q.2.1; have q2 := q.2.2; omega
                  refine lv_if_eq (tgt := 97) hx hb dX5_readShip_84 (by decide) (fun c_84 => ?_) (fun c_84 => ?_)
                  · refine lv_iconst (v := nI 0) hx hb dX5_readShip_97 (by decide) ?_
                    exact k_zret hx hb hr (by decide) hlk I dX5_readShip_98 (⟨kT_0 (fun q => hbad (shOk_iff.mp q.1 i (by omega))), by first | exact hF9 | exact fP_up hF7 _ (by omega), fun q => absurd (shOk_iff.mp q.1 i (by omega)) hbad⟩)
                  · exact absurd c_84 (by decide)
    exact LP_22 _ 0 σ (Nat.lt_succ_self _) (Nat.zero_le _) (hP.1.1) (hP3) (hP.1.2.2) (fun _ _ _ => rfl) (fun f hf => absurd hf (Nat.not_lt_zero f)) (fun f hf => absurd hf (Nat.not_lt_zero f)) _ _ I _ (lv_sub hl [2, 3, 1, 0] rfl)
  · have c_5 : ¬ (sh < 5) := fun q_ => c_5 ((nI_ltI (by omega) (by omega)).mpr q_)
    refine lv_iconst (v := nI 0) hx hb dX5_readShip_8 (by decide) ?_
    exact k_zret hx hb hr (by decide) hlk I dX5_readShip_9 (⟨kT_0 (fun q => absurd q.2 (by omega)), fP_rf σ, fun q => absurd q.2 (by omega)⟩)
set_option maxHeartbeats 4000000 in
set_option maxRecDepth 100000 in
theorem c_X5_readItem (cy : Nat → ClassId) (D : va_G) (ad : Nat → Nat) (l : Launch) (σ : Nat → Nat → Int32) (T : Nat → Nat) (nt : Nat) (hT : rText σ T nt) (M : Nat → Nat) (hM : pOk M) (a : Nat) (ha : a ≤ 800) (hP : rPl σ M a) : kMi 38 ad (kcC cy ad) cy D l yX5_readItem wsX5_readItem ({ frames := 3, cells := 0, slots := 0, locals := 70 }) [.ref (ad 3), .ref (ad 1)] σ (fun r σ' => fP σ σ' ∧ ((r = nI 0 ∧ pItem T nt a M = none) ∨ (r = nI 1 ∧ ∃ q, pItem T nt a M = some q ∧ rPl σ' q.2 q.1))) := by
  have hc := ch_le hT.2.2 a
  have hF0 : fP σ (va_up σ 3 (upd (σ 3) 4 (nI (a + 1)))) := fP_up (fP_rf σ) _ (by decide)
  have hT0 := rText_fP hT hF0
  have hP0 : rPl (va_up σ 3 (upd (σ 3) 4 (nI (a + 1)))) M (a + 1) := ⟨⟨hP.1.1, hP.1.2.1, rfl⟩, hP.2.1, fun i hi f hf => by have := hM.1; rw [va_up_ne _ _ (by omega)]; exact hP.2.2 i hi f hf⟩
  refine k_entry (cc := cX5_readItem) (maxL := 3) (ret := (some .boolean)) (by decide) rfl (Nat.le_of_ble_eq_true rfl) ?_
  intro p e s m below meth c hx hb hr hml hown hts hlk E I ls hl
  have hA : ∀ q, s.heap.size ≤ q → kA 38 ad s.heap.size q := fun q h => Or.inr h
  have hown : s.vm.findClass RX5 = some m.cls := hown
  have hl : lv_has ls 3 [(0, .ref (ad 3)), (1, .ref (ad 1))] := hl
  have iX5 : ∀ w ∈ u_ws RX5 TX5 5, w ∈ wsX5_readItem := fun w h => List.mem_cons_of_mem _ (List.mem_append_left _ (List.mem_append_right _ h))
  refine lv_aload_n hx hb dX5_readItem_0 rfl (lv_at hl 1 rfl) ?_
  refine lv_aload_n hx hb dX5_readItem_1 rfl (lv_at hl 0 rfl) ?_
  refine k_get (C := RX5) (T := TX5) (N := 5) (v := .int (nI a)) hx hb hts hown E I iX5 (3) (by decide) (r0 := σ 3) rfl kc_3 rfl 4 (by decide) (List.mem_of_getElem? (i := 1) rfl) (congrArg (fun z => some (Value.int z)) hP.1.2.2) dX5_readItem_2 ?_
  refine k_calli (k := 1) (As := [.int (nI a)]) (rest := []) ⟨hx, hb, hml, hown, hts⟩ (c_X3_letterAt cy D ad l σ T nt hT a (by omega)) (cwV 1 hts gX5_readItem_X3_letterAt rfl rfl rfl (by decide +kernel) ⟨Nat.le_of_ble_eq_true rfl, Nat.le_of_ble_eq_true rfl⟩) E hA I (k_recv E I (by decide) kc_1 rfl) rfl hl.1 rfl (lv_room (Nat.le_of_ble_eq_true rfl)) dX5_readItem_5 ⟨Nat.le_of_ble_eq_true rfl, Nat.le_of_ble_eq_true rfl⟩ (fun r_5 σ_5 H locs hp_5 I => ?_)
  obtain ⟨rfl, rfl⟩ := hp_5
  refine lv_istore_n (lv' := [(2, .int (nI (ch T nt a))), (0, .ref (ad 3)), (1, .ref (ad 1))]) hx hb dX5_readItem_8 rfl hl (by decide) rfl (fun ls hl => ?_)
  refine lv_aload_n hx hb dX5_readItem_9 rfl (lv_at hl 1 rfl) ?_
  refine lv_dup hx hb dX5_readItem_10 rfl ?_
  refine k_get (C := RX5) (T := TX5) (N := 5) (v := .int (nI a)) hx hb hts hown E I iX5 (3) (by decide) (r0 := σ 3) rfl kc_3 rfl 4 (by decide) (List.mem_of_getElem? (i := 1) rfl) (congrArg (fun z => some (Value.int z)) hP.1.2.2) dX5_readItem_11 ?_
  refine lv_iconst (v := nI 1) hx hb dX5_readItem_14 (by decide) ?_
  refine lv_iadd hx hb dX5_readItem_15 ?_
  rw [nI_add]
  refine k_put (C := RX5) (T := TX5) (N := 5) (ty0 := tyX5) (ty := .int) (v := .int (nI (a + 1))) hx hb hts hown E I iX5 tyX5_ok nmX5 (3) (by decide) (r0 := σ 3) rfl kc_3 rfl 4 (by decide) (List.mem_of_getElem? (i := 1) rfl) rfl rfl rfl rfl (Nat.le_of_ble_eq_true rfl) (upd (σ 3) 4 (nI (a + 1))) rfl (σ2 := va_up σ 3 (upd (σ 3) 4 (nI (a + 1)))) rfl dX5_readItem_16 (fun H locs I => ?_)
  refine lv_iload_n hx hb dX5_readItem_19 rfl (lv_at hl 0 rfl) ?_
  refine lv_bipush (v := nI 99) hx hb dX5_readItem_20 (by decide) ?_
  refine lv_icmp_ne (tgt := 31) hx hb dX5_readItem_22 (by decide) (fun c_22 => ?_) (fun c_22 => ?_)
  · have c_22 : ¬ ((ch T nt a) = 99) := fun q_ => c_22 ((nI_eq (by omega) (by omega)).mpr q_)
    refine lv_iload_n hx hb dX5_readItem_31 rfl (lv_at hl 0 rfl) ?_
    refine lv_bipush (v := nI 115) hx hb dX5_readItem_32 (by decide) ?_
    refine lv_icmp_ne (tgt := 49) hx hb dX5_readItem_34 (by decide) (fun c_34 => ?_) (fun c_34 => ?_)
    · have c_34 : ¬ ((ch T nt a) = 115) := fun q_ => c_34 ((nI_eq (by omega) (by omega)).mpr q_)
      refine lv_iconst (v := nI 0) hx hb dX5_readItem_49 (by decide) ?_
      exact k_zret hx hb hr (by decide) hlk I dX5_readItem_50 (⟨by first | exact fP_tr hF0 hF_ | exact hF0, by unfold pItem; rw [if_neg c_22]; first | exact Or.inr ⟨rfl, _, if_pos ⟨c_34, g1⟩, hy_ g1⟩ | exact Or.inl ⟨rfl, if_neg (fun q => g1 q.2)⟩ | exact Or.inl ⟨rfl, if_neg (fun q => c_34 q.1)⟩⟩)
    · have c_34 : (ch T nt a) = 115 := (nI_eq (by omega) (by omega)).mp c_34
      refine lv_aload_n hx hb dX5_readItem_37 rfl (lv_at hl 1 rfl) ?_
      refine lv_aload_n hx hb dX5_readItem_38 rfl (lv_at hl 2 rfl) ?_
      refine k_calli (k := 3) (As := [.ref (ad 1)]) (rest := []) ⟨hx, hb, hml, hown, hts⟩ (c_X5_readShip cy D ad l (va_up σ 3 (upd (σ 3) 4 (nI (a + 1)))) T nt hT0 M hM (a + 1) (by omega) hP0) (cwV 1 hts gX5_readItem_X5_readShip rfl rfl rfl (by decide +kernel) ⟨Nat.le_of_ble_eq_true rfl, Nat.le_of_ble_eq_true rfl⟩) E hA I (k_recv E I (by decide) kc_3 rfl) rfl hl.1 rfl (lv_room (Nat.le_of_ble_eq_true rfl)) dX5_readItem_39 ⟨Nat.le_of_ble_eq_true rfl, Nat.le_of_ble_eq_true rfl⟩ (fun r_39 σ_39 H locs hp_39 I => ?_)
      obtain ⟨hk_, hF_, hy_⟩ := hp_39
      rcases hk_ with ⟨rfl, g1⟩ | ⟨rfl, g1⟩
      · refine lv_if_eq (tgt := 49) hx hb dX5_readItem_42 (by decide) (fun c_42 => ?_) (fun c_42 => ?_)
        · exact absurd c_42 (by decide)
        · refine lv_iconst (v := nI 1) hx hb dX5_readItem_45 (by decide) ?_
          refine lv_goto (tgt := 50) hx hb dX5_readItem_46 (by decide) ?_
          exact k_zret hx hb hr (by decide) hlk I dX5_readItem_50 (⟨by first | exact fP_tr hF0 hF_ | exact hF0, by unfold pItem; rw [if_neg c_22]; first | exact Or.inr ⟨rfl, _, if_pos ⟨c_34, g1⟩, hy_ g1⟩ | exact Or.inl ⟨rfl, if_neg (fun q => g1 q.2)⟩ | exact Or.inl ⟨rfl, if_neg (fun q => c_34 q.1)⟩⟩)
      · refine lv_if_eq (tgt := 49) hx hb dX5_readItem_42 (by decide) (fun c_42 => ?_) (fun c_42 => ?_)
        · refine lv_iconst (v := nI 0) hx hb dX5_readItem_49 (by decide) ?_
          exact k_zret hx hb hr (by decide) hlk I dX5_readItem_50 (⟨by first | exact fP_tr hF0 hF_ | exact hF0, by unfold pItem; rw [if_neg c_22]; first | exact Or.inr ⟨rfl, _, if_pos ⟨c_34, g1⟩, hy_ g1⟩ | exact Or.inl ⟨rfl, if_neg (fun q => g1 q.2)⟩ | exact Or.inl ⟨rfl, if_neg (fun q => c_34 q.1)⟩⟩)
        · exact absurd c_42 (by decide)
  · have c_22 : (ch T nt a) = 99 := (nI_eq (by omega) (by omega)).mp c_22
    refine lv_aload_n hx hb dX5_readItem_25 rfl (lv_at hl 1 rfl) ?_
    refine lv_aload_n hx hb dX5_readItem_26 rfl (lv_at hl 2 rfl) ?_
    refine k_calli (k := 3) (As := [.ref (ad 1)]) (rest := []) ⟨hx, hb, hml, hown, hts⟩ (c_X5_readColumn cy D ad l (va_up σ 3 (upd (σ 3) 4 (nI (a + 1)))) T nt hT0 M hM (a + 1) (by omega) hP0) (cwV 1 hts gX5_readItem_X5_readColumn rfl rfl rfl (by decide +kernel) ⟨Nat.le_of_ble_eq_true rfl, Nat.le_of_ble_eq_true rfl⟩) E hA I (k_recv E I (by decide) kc_3 rfl) rfl hl.1 rfl (lv_room (Nat.le_of_ble_eq_true rfl)) dX5_readItem_27 ⟨Nat.le_of_ble_eq_true rfl, Nat.le_of_ble_eq_true rfl⟩ (fun r_27 σ_27 H locs hp_27 I => ?_)
    obtain ⟨hk_, hF_, hy_⟩ := hp_27
    rcases hk_ with ⟨rfl, g1⟩ | ⟨rfl, g1⟩
    · exact k_zret hx hb hr (by decide) hlk I dX5_readItem_30 (⟨fP_tr hF0 hF_, by unfold pItem; rw [if_pos c_22]; first | exact Or.inr ⟨rfl, _, if_pos g1, hy_ g1⟩ | exact Or.inl ⟨rfl, if_neg g1⟩⟩)
    · exact k_zret hx hb hr (by decide) hlk I dX5_readItem_30 (⟨fP_tr hF0 hF_, by unfold pItem; rw [if_pos c_22]; first | exact Or.inr ⟨rfl, _, if_pos g1, hy_ g1⟩ | exact Or.inl ⟨rfl, if_neg g1⟩⟩)
set_option maxHeartbeats 4000000 in
set_option maxRecDepth 100000 in
theorem c_X5_read (cy : Nat → ClassId) (D : va_G) (ad : Nat → Nat) (l : Launch) (σ : Nat → Nat → Int32) (T : Nat → Nat) (nt : Nat) (hT : rText σ T nt) : kMi 38 ad (kcC cy ad) cy D l yX5_read wsX5_read ({ frames := 4, cells := 0, slots := 0, locals := 92 }) [.ref (ad 3), .ref (ad 1)] σ (fun r σ' => fP σ σ' ∧ ((∃ a, (pRead T nt 200 0 (fun _ => 0)).1 = some a ∧ r = nI a) ∨ ((pRead T nt 200 0 (fun _ => 0)).1 = none ∧ r = -4 ∧ ∃ a, rPl σ' (pRead T nt 200 0 (fun _ => 0)).2 a))) := by
  have hn := hT.1.2
  refine k_entry (cc := cX5_read) (maxL := 4) (ret := (some .int)) (by decide) rfl (Nat.le_of_ble_eq_true rfl) ?_
  intro p e s m below meth c hx hb hr hml hown hts hlk E I ls hl
  have hA : ∀ q, s.heap.size ≤ q → kA 38 ad s.heap.size q := fun q h => Or.inr h
  have hown : s.vm.findClass RX5 = some m.cls := hown
  have hl : lv_has ls 4 [(0, .ref (ad 3)), (1, .ref (ad 1))] := hl
  have iX3 : ∀ w ∈ u_ws RX3 TX3 2, w ∈ wsX5_read := fun w h => List.mem_cons_of_mem _ (List.mem_append_right _ h)
  have iX5 : ∀ w ∈ u_ws RX5 TX5 5, w ∈ wsX5_read := fun w h => List.mem_cons_of_mem _ (List.mem_append_left _ (List.mem_append_right _ h))
  refine lv_aload_n hx hb dX5_read_0 rfl (lv_at hl 0 rfl) ?_
  refine lv_iconst (v := nI 0) hx hb dX5_read_1 (by decide) ?_
  refine k_put (C := RX5) (T := TX5) (N := 5) (ty0 := tyX5) (ty := .int) (v := .int (nI 0)) hx hb hts hown E I iX5 tyX5_ok nmX5 (3) (by decide) (r0 := σ 3) rfl kc_3 rfl 2 (by decide) (List.mem_of_getElem? (i := 1) rfl) rfl rfl rfl rfl (Nat.le_of_ble_eq_true rfl) (upd (σ 3) 2 (nI 0)) rfl (σ2 := va_up σ 3 (upd (σ 3) 2 (nI 0))) rfl dX5_read_2 (fun H locs I => ?_)
  refine lv_aload_n hx hb dX5_read_5 rfl (lv_at hl 0 rfl) ?_
  refine lv_iconst (v := nI 0) hx hb dX5_read_6 (by decide) ?_
  refine k_put (C := RX5) (T := TX5) (N := 5) (ty0 := tyX5) (ty := .int) (v := .int (nI 0)) hx hb hts hown E I iX5 tyX5_ok nmX5 (3) (by decide) (r0 := (upd (σ 3) 2 (nI 0))) rfl kc_3 rfl 3 (by decide) (List.mem_of_getElem? (i := 2) rfl) rfl rfl rfl rfl (Nat.le_of_ble_eq_true rfl) (upd (upd (σ 3) 2 (nI 0)) 3 (nI 0)) rfl (σ2 := va_up σ 3 (upd (upd (σ 3) 2 (nI 0)) 3 (nI 0))) (bx_uu _ _ _ _) dX5_read_7 (fun H locs I => ?_)
  refine lv_aload_n hx hb dX5_read_10 rfl (lv_at hl 0 rfl) ?_
  refine lv_iconst (v := nI 0) hx hb dX5_read_11 (by decide) ?_
  refine k_put (C := RX5) (T := TX5) (N := 5) (ty0 := tyX5) (ty := .int) (v := .int (nI 0)) hx hb hts hown E I iX5 tyX5_ok nmX5 (3) (by decide) (r0 := (upd (upd (σ 3) 2 (nI 0)) 3 (nI 0))) rfl kc_3 rfl 4 (by decide) (List.mem_of_getElem? (i := 3) rfl) rfl rfl rfl rfl (Nat.le_of_ble_eq_true rfl) (upd (upd (upd (σ 3) 2 (nI 0)) 3 (nI 0)) 4 (nI 0)) rfl (σ2 := va_up σ 3 (upd (upd (upd (σ 3) 2 (nI 0)) 3 (nI 0)) 4 (nI 0))) (bx_uu _ _ _ _) dX5_read_12 (fun H locs I => ?_)
  refine lv_iconst (v := nI 0) hx hb dX5_read_15 (by decide) ?_
  refine lv_istore_n (lv' := [(2, .int (nI 0)), (0, .ref (ad 3)), (1, .ref (ad 1))]) hx hb dX5_read_16 rfl hl (by decide) rfl (fun ls hl => ?_)
  have LP_17 : ∀ (fuel_17 : Nat) (i : Nat) (a : Nat) (M : Nat → Nat) (τ : Nat → Nat → Int32), 200 - i < fuel_17 → (i ≤ 200) → (pOk M) → (fP σ τ) → (rPl τ M a) → (pRead T nt 200 0 (fun _ => 0) = pRead T nt (200 - i) a M) → (i ≤ a) → (a ≤ 700) → ∀ (H : Heap) (locs : List Loc), kI 38 ad (kcC cy ad) D (kA 38 ad s.heap.size) s.heap τ H locs → ∀ ls : Array Slot, lv_has ls 4 [(0, .ref (ad 3)), (1, .ref (ad 1)), (2, .int (nI i))] → W p l e (headSpec wsX5_read ({ frames := 4, cells := 0, slots := 0, locals := 92 })).room s m [.ref (ad 3), .ref (ad 1)].toArray below meth c H locs 0 0 (MQ below (va_Qi (fun r σ' => fP σ σ' ∧ ((∃ a, (pRead T nt 200 0 (fun _ => 0)).1 = some a ∧ r = nI a) ∨ ((pRead T nt 200 0 (fun _ => 0)).1 = none ∧ r = -4 ∧ ∃ a, rPl σ' (pRead T nt 200 0 (fun _ => 0)).2 a))) (kB 38 ad (kcC cy ad) D) (kA 38 ad s.heap.size)) [.ref (ad 3), .ref (ad 1)].toArray s 0 0 (kA 38 ad s.heap.size)) (F0 m 17 ls []) := by
    intro fuel_17
    induction fuel_17 with
    | zero => intro i a M τ hf_17; exact absurd hf_17 (Nat.not_lt_zero _)
    | succ fuel_17 ih_17 =>
      intro i a M τ hf_17 hi2 hM hF hP hR hai ha9 H locs I ls hl
      have hTt := rText_fP hT hF
      refine lv_iload_n hx hb dX5_read_17 rfl (lv_at hl 2 rfl) ?_
      refine lv_sipush (v := nI 200) hx hb dX5_read_18 (by decide) ?_
      refine lv_icmp_ge (tgt := 56) hx hb dX5_read_21 (by decide) (fun c_21 => ?_) (fun c_21 => ?_)
      · have c_21 : 200 ≤ i := (nI_leI (by omega) (by omega)).mp c_21
        have hend : pRead T nt 200 0 (fun _ => 0) = (none, M) := by rw [hR, show 200 - i = 0 by omega]; rfl
        refine lv_bipush (v := (-4 : Int32)) hx hb dX5_read_56 (by decide) ?_
        exact k_iret hx hb hr hlk I dX5_read_58 (⟨hF, Or.inr ⟨by rw [hend], rfl, a, by rw [hend]; exact hP⟩⟩)
      · have c_21 : ¬ (200 ≤ i) := fun q_ => c_21 ((nI_leI (by omega) (by omega)).mpr q_)
        refine lv_aload_n hx hb dX5_read_24 rfl (lv_at hl 0 rfl) ?_
        refine k_get (C := RX5) (T := TX5) (N := 5) (v := .int (nI a)) hx hb hts hown E I iX5 (3) (by decide) (r0 := τ 3) rfl kc_3 rfl 4 (by decide) (List.mem_of_getElem? (i := 3) rfl) (congrArg (fun z => some (Value.int z)) hP.1.2.2) dX5_read_25 ?_
        refine lv_aload_n hx hb dX5_read_28 rfl (lv_at hl 1 rfl) ?_
        refine k_get (C := RX3) (T := TX3) (N := 2) (v := .int (nI nt)) hx hb hts hown E I iX3 (1) (by decide) (r0 := τ 1) rfl kc_1 rfl 1 (by decide) (List.mem_of_getElem? (i := 4) rfl) (congrArg (fun z => some (Value.int z)) hTt.1.1) dX5_read_29 ?_
        refine lv_icmp_ge (tgt := 56) hx hb dX5_read_32 (by decide) (fun c_32 => ?_) (fun c_32 => ?_)
        · have c_32 : nt ≤ a := (nI_leI (by omega) (by omega)).mp c_32
          have hend : pRead T nt 200 0 (fun _ => 0) = (none, M) := by rw [hR]; cases h_ : 200 - i with | zero => rfl | succ z => rw [pRead, if_neg (by omega)]
          refine lv_bipush (v := (-4 : Int32)) hx hb dX5_read_56 (by decide) ?_
          exact k_iret hx hb hr hlk I dX5_read_58 (⟨hF, Or.inr ⟨by rw [hend], rfl, a, by rw [hend]; exact hP⟩⟩)
        · have c_32 : ¬ (nt ≤ a) := fun q_ => c_32 ((nI_leI (by omega) (by omega)).mpr q_)
          refine lv_aload_n hx hb dX5_read_35 rfl (lv_at hl 0 rfl) ?_
          refine k_get (C := RX5) (T := TX5) (N := 5) (v := .int (nI a)) hx hb hts hown E I iX5 (3) (by decide) (r0 := τ 3) rfl kc_3 rfl 4 (by decide) (List.mem_of_getElem? (i := 3) rfl) (congrArg (fun z => some (Value.int z)) hP.1.2.2) dX5_read_36 ?_
          refine lv_istore_n (lv' := [(3, .int (nI a)), (0, .ref (ad 3)), (1, .ref (ad 1)), (2, .int (nI i))]) hx hb dX5_read_39 rfl hl (by decide) rfl (fun ls hl => ?_)
          refine lv_aload_n hx hb dX5_read_40 rfl (lv_at hl 1 rfl) ?_
          refine lv_aload_n hx hb dX5_read_41 rfl (lv_at hl 2 rfl) ?_
          refine k_calli (k := 3) (As := [.ref (ad 1)]) (rest := []) ⟨hx, hb, hml, hown, hts⟩ (c_X5_readItem cy D ad l τ T nt hTt M hM a (by omega) hP) (cwV 1 hts gX5_read_X5_readItem rfl rfl rfl (by decide +kernel) ⟨Nat.le_of_ble_eq_true rfl, Nat.le_of_ble_eq_true rfl⟩) E hA I (k_recv E I (by decide) kc_3 rfl) rfl hl.1 rfl (lv_room (Nat.le_of_ble_eq_true rfl)) dX5_read_42 ⟨Nat.le_of_ble_eq_true rfl, Nat.le_of_ble_eq_true rfl⟩ (fun r_42 σ_42 H locs hp_42 I => ?_)
          obtain ⟨hF_, hk_⟩ := hp_42
          rcases hk_ with ⟨rfl, hq_⟩ | ⟨rfl, q, hq_, hq2_⟩
          · refine lv_if_ne (tgt := 50) hx hb dX5_read_45 (by decide) (fun c_45 => ?_) (fun c_45 => ?_)
            · exact absurd c_45 (by decide)
            · refine lv_iload_n hx hb dX5_read_48 rfl (lv_at hl 0 rfl) ?_
              exact k_iret hx hb hr hlk I dX5_read_49 (⟨fP_tr hF hF_, Or.inl ⟨a, by rw [hR, show 200 - i = (200 - (i + 1)) + 1 by omega, pRead, if_pos (by omega), hq_], rfl⟩⟩)
          · refine lv_if_ne (tgt := 50) hx hb dX5_read_45 (by decide) (fun c_45 => ?_) (fun c_45 => ?_)
            · refine lv_iinc (v := nI (i + 1)) (lv' := [(2, .int (nI (i + 1))), (3, .int (nI a)), (0, .ref (ad 3)), (1, .ref (ad 1))]) hx hb dX5_read_50 hl (k := 3) rfl (show nI i + Int32.ofInt 1 = nI (i + 1) from nI_add i 1) (by decide) rfl (fun ls hl => ?_)
              refine lv_goto (tgt := 17) hx hb dX5_read_53 (by decide) ?_
              exact ih_17 (i + 1) q.1 q.2 σ_42 (by omega) (by omega) ((pOk_item hM hq_).1) (fP_tr hF hF_) (hq2_) (by rw [hR, show 200 - i = (200 - (i + 1)) + 1 by omega, pRead, if_pos (by omega), hq_]) (by have := (pOk_item hM hq_).2; omega) (pItem_le hq_ (by omega)) _ _ I _ (lv_sub hl [2, 3, 0] rfl)
            · exact absurd c_45 (by decide)
  exact LP_17 _ 0 0 (fun _ => 0) _ (Nat.lt_succ_self _) (Nat.zero_le _) (pOk_0) (fP_up (fP_rf σ) _ (by decide)) (⟨⟨rfl, rfl, rfl⟩, fun k hk => absurd hk (Nat.not_lt_zero k), fun k hk => absurd hk (Nat.not_lt_zero k)⟩) (rfl) (Nat.le_refl _) (Nat.zero_le _) _ _ I _ (lv_sub hl [1, 2, 0] rfl)

/-! THE BAY: counts -/
set_option maxHeartbeats 4000000 in
set_option maxRecDepth 100000 in
theorem c_X1_countHolding (cy : Nat → ClassId) (D : va_G) (ad : Nat → Nat) (l : Launch) (σ : Nat → Nat → Int32) (N : Nat → Nat) (hN : nOk N) (hB : rBay σ N) (b : Nat) (hb20 : b ≤ 20) : kMi 38 ad (kcC cy ad) cy D l yX1_countHolding wsX1_countHolding ({ frames := 5, cells := 0, slots := 0, locals := 117 }) [.ref (ad 11), .int (nI b)] σ (fun r σ' => r = nI (pCH N b (N 1)) ∧ q14 σ σ') := by
  have h5 := hN.1
  refine k_entry (cc := cX1_countHolding) (maxL := 5) (ret := (some .int)) (by decide) rfl (Nat.le_of_ble_eq_true rfl) ?_
  intro p e s m below meth c hx hb hr hml hown hts hlk E I ls hl
  have hA : ∀ q, s.heap.size ≤ q → kA 38 ad s.heap.size q := fun q h => Or.inr h
  have hown : s.vm.findClass RX1 = some m.cls := hown
  have hl : lv_has ls 5 [(0, .ref (ad 11)), (1, .int (nI b))] := hl
  have iX0 : ∀ w ∈ u_ws RX0 TX0 3, w ∈ wsX1_countHolding := fun w h => List.mem_cons_of_mem _ (List.mem_append_left _ (List.mem_append_right _ h))
  have iX1 : ∀ w ∈ u_ws RX1 TX1 6, w ∈ wsX1_countHolding := fun w h => List.mem_cons_of_mem _ (List.mem_append_left _ (List.mem_append_left _ (List.mem_append_left _ (List.mem_append_right _ h))))
  have iX6 : ∀ w ∈ u_ws RX6 TX6 10, w ∈ wsX1_countHolding := fun w h => List.mem_cons_of_mem _ (List.mem_append_left _ (List.mem_append_left _ (List.mem_append_right _ h)))
  refine lv_iconst (v := nI 0) hx hb dX1_countHolding_0 (by decide) ?_
  refine lv_istore_n (lv' := [(2, .int (nI 0)), (0, .ref (ad 11)), (1, .int (nI b))]) hx hb dX1_countHolding_1 rfl hl (by decide) rfl (fun ls hl => ?_)
  refine lv_iconst (v := nI 0) hx hb dX1_countHolding_2 (by decide) ?_
  refine lv_istore_n (lv' := [(3, .int (nI 0)), (2, .int (nI 0)), (0, .ref (ad 11)), (1, .int (nI b))]) hx hb dX1_countHolding_3 rfl hl (by decide) rfl (fun ls hl => ?_)
  have LP_4 : ∀ (fuel_4 : Nat) (i : Nat) (τ : Nat → Nat → Int32), N 1 - i < fuel_4 → (i ≤ N 1) → (q14 σ τ) → ∀ (H : Heap) (locs : List Loc), kI 38 ad (kcC cy ad) D (kA 38 ad s.heap.size) s.heap τ H locs → ∀ ls : Array Slot, lv_has ls 5 [(0, .ref (ad 11)), (1, .int (nI b)), (2, .int (nI (pCH N b i))), (3, .int (nI i))] → W p l e (headSpec wsX1_countHolding ({ frames := 5, cells := 0, slots := 0, locals := 117 })).room s m [.ref (ad 11), .int (nI b)].toArray below meth c H locs 0 0 (MQ below (va_Qi (fun r σ' => r = nI (pCH N b (N 1)) ∧ q14 σ σ') (kB 38 ad (kcC cy ad) D) (kA 38 ad s.heap.size)) [.ref (ad 11), .int (nI b)].toArray s 0 0 (kA 38 ad s.heap.size)) (F0 m 4 ls []) := by
    intro fuel_4
    induction fuel_4 with
    | zero => intro i τ hf_4; exact absurd hf_4 (Nat.not_lt_zero _)
    | succ fuel_4 ih_4 =>
      intro i τ hf_4 hin hQ H locs I ls hl
      have hB := rBay_qc h5.2.2.2.1 hB (q14_qc hQ)
      refine lv_iload_n hx hb dX1_countHolding_4 rfl (lv_at hl 3 rfl) ?_
      refine lv_aload_n hx hb dX1_countHolding_5 rfl (lv_at hl 0 rfl) ?_
      refine k_get (C := RX1) (T := TX1) (N := 6) (v := .int (nI (N 1))) hx hb hts hown E I iX1 (11) (by decide) (r0 := τ 11) rfl kc_11 rfl 4 (by decide) (List.mem_of_getElem? (i := 1) rfl) (congrArg (fun z => some (Value.int z)) hB.1.2.1) dX1_countHolding_6 ?_
      refine lv_icmp_ge (tgt := 63) hx hb dX1_countHolding_9 (by decide) (fun c_9 => ?_) (fun c_9 => ?_)
      · have c_9 : (N 1) ≤ i := (nI_leI (by omega) (by omega)).mp c_9
        have hie : i = N 1 := by omega
        refine lv_iload_n hx hb dX1_countHolding_63 rfl (lv_at hl 2 rfl) ?_
        exact k_iret hx hb hr hlk I dX1_countHolding_64 (⟨by rw [hie], hQ⟩)
      · have c_9 : ¬ ((N 1) ≤ i) := fun q_ => c_9 ((nI_leI (by omega) (by omega)).mpr q_)
        have hi : i < N 1 := by omega
        have H_i : i < 5 := by omega
        have hsh := hN.2.2 i hi
        unfold nSh at hsh
        refine lv_aload_n hx hb dX1_countHolding_12 rfl (lv_at hl 0 rfl) ?_
        refine k_get (C := RX1) (T := TX1) (N := 6) (v := .ref (ad 13)) hx hb hts hown E I iX1 (11) (by decide) (r0 := τ 11) rfl kc_11 rfl 1 (by decide) (List.mem_of_getElem? (i := 2) rfl) rfl dX1_countHolding_13 ?_
        refine lv_iload_n hx hb dX1_countHolding_16 rfl (lv_at hl 3 rfl) ?_
        refine k_aldS (a := ad (15 + 3 * i)) hx hb E I (13) (by decide) kc_13 (vp_in_nI (by omega) (by decide)) (by rw [nI_clamp (by omega)]; exact if_pos (by omega)) dX1_countHolding_17 ?_
        refine lv_astore (lv' := [(4, .ref (ad (15 + 3 * i))), (0, .ref (ad 11)), (1, .int (nI b)), (2, .int (nI (pCH N b i))), (3, .int (nI i))]) hx hb dX1_countHolding_18 hl (by decide) rfl (fun ls hl => ?_)
        refine lv_iload_n hx hb dX1_countHolding_20 rfl (lv_at hl 3 rfl) ?_
        refine lv_aload hx hb dX1_countHolding_21 (lv_at hl 0 rfl) ?_
        refine k_get (C := RX6) (T := TX6) (N := 10) (v := .int (nI (N (23 + 13 * i + 7)))) hx hb hts hown E I iX6 (15 + 3 * i) (by omega) (r0 := τ (15 + 3 * i)) rfl (kc_S H_i) rfl 3 (by decide) (List.mem_of_getElem? (i := 3) rfl) (congrArg (fun z => some (Value.int z)) (rB_f hB hi 7 (by decide))) dX1_countHolding_23 ?_
        refine lv_if_ne (tgt := 51) hx hb dX1_countHolding_26 (by decide) (fun c_26 => ?_) (fun c_26 => ?_)
        · have c_26 : ¬ ((N (23 + 13 * i + 7)) = 0) := fun q_ => c_26 ((nI_eq (by omega) (by decide)).mpr q_)
          have hsn : pCH N b i + 0 = pCH N b (i + 1) := by rw [pCH, if_neg (fun q => absurd q.1 (by omega))]
          refine lv_iconst (v := nI 0) hx hb dX1_countHolding_51 (by decide) ?_
          refine k_callsN (As := [.int (nI 0)]) (rest := [.int (nI (pCH N b i))]) ⟨hx, hb, hml, hown, hts⟩ (c_X7_oneIf l (nI 0) (by first | exact Or.inl rfl | exact Or.inr rfl)) ⟨va_cnB 1 hts gX1_countHolding_X7_oneIf_n151 rfl rfl rfl E.2.1.2.2.2 (hts _ (List.mem_of_getElem? (i := 68) rfl)) (by decide +kernel) ⟨Nat.le_of_ble_eq_true rfl, Nat.le_of_ble_eq_true rfl⟩, hts _ (List.mem_of_getElem? (i := 67) rfl), trivial⟩ rfl hl.1 rfl (lv_room (Nat.le_of_ble_eq_true rfl)) dX1_countHolding_52 ⟨Nat.le_of_ble_eq_true rfl, Nat.le_of_ble_eq_true rfl⟩ (fun r_52 hp_52 => ?_)
          subst hp_52
          refine lv_iadd hx hb dX1_countHolding_55 ?_
          rw [nI_add]
          refine lv_topi (fun t_56 et_56 => ?_)
          have et_56 : t_56 = nI (pCH N b (i + 1)) := et_56.trans (congrArg nI hsn)
          subst et_56
          refine lv_istore_n (lv' := [(2, .int (nI (pCH N b (i + 1)))), (4, .ref (ad (15 + 3 * i))), (0, .ref (ad 11)), (1, .int (nI b)), (3, .int (nI i))]) hx hb dX1_countHolding_56 rfl hl (by decide) rfl (fun ls hl => ?_)
          refine lv_iinc (v := nI (i + 1)) (lv' := [(3, .int (nI (i + 1))), (2, .int (nI (pCH N b (i + 1)))), (4, .ref (ad (15 + 3 * i))), (0, .ref (ad 11)), (1, .int (nI b))]) hx hb dX1_countHolding_57 hl (k := 4) rfl (show nI i + Int32.ofInt 1 = nI (i + 1) from nI_add i 1) (by decide) rfl (fun ls hl => ?_)
          refine lv_goto (tgt := 4) hx hb dX1_countHolding_60 (by decide) ?_
          exact ih_4 (i + 1) _ (by omega) (by omega) (hQ) _ _ I _ (lv_sub hl [3, 4, 1, 0] rfl)
        · have c_26 : (N (23 + 13 * i + 7)) = 0 := (nI_eq (by omega) (by decide)).mp c_26
          refine lv_aload_n hx hb dX1_countHolding_29 rfl (lv_at hl 1 rfl) ?_
          refine lv_aload hx hb dX1_countHolding_30 (lv_at hl 0 rfl) ?_
          refine lv_aload hx hb dX1_countHolding_32 (lv_at hl 0 rfl) ?_
          refine k_get (C := RX6) (T := TX6) (N := 10) (v := .ref (ad (16 + 3 * i))) hx hb hts hown E I iX6 (15 + 3 * i) (by omega) (r0 := τ (15 + 3 * i)) rfl (kc_S H_i) rfl 0 (by decide) (List.mem_of_getElem? (i := 4) rfl) rfl dX1_countHolding_34 ?_
          refine k_get (C := RX0) (T := TX0) (N := 3) (v := .int (nI (N (23 + 13 * i + 2)))) hx hb hts hown E I iX0 (16 + 3 * i) (by omega) (r0 := τ (16 + 3 * i)) rfl (kc_F H_i) rfl 2 (by decide) (List.mem_of_getElem? (i := 5) rfl) (congrArg (fun z => some (Value.int z)) (rB_f hB hi 2 (by decide))) dX1_countHolding_37 ?_
          refine lv_iload_n hx hb dX1_countHolding_40 rfl (lv_at hl 2 rfl) ?_
          refine k_calli (k := 11) (As := [.ref (ad (15 + 3 * i)), .int (nI (N (23 + 13 * i + 2))), .int (nI b)]) (rest := [.int (nI (pCH N b i))]) ⟨hx, hb, hml, hown, hts⟩ (c_X1_holdsBy cy D ad l τ N hN i hi hB (N (23 + 13 * i + 2)) b hsh.1.2.2.2 hb20) (cwV 3 hts gX1_countHolding_X1_holdsBy rfl rfl rfl (by decide +kernel) ⟨Nat.le_of_ble_eq_true rfl, Nat.le_of_ble_eq_true rfl⟩) E hA I (k_recv E I (by decide) kc_11 rfl) rfl hl.1 rfl (lv_room (Nat.le_of_ble_eq_true rfl)) dX1_countHolding_41 ⟨Nat.le_of_ble_eq_true rfl, Nat.le_of_ble_eq_true rfl⟩ (fun r_41 σ_41 H locs hp_41 I => ?_)
          obtain ⟨hk_, hq_⟩ := hp_41
          have hQ := q14_tr hQ hq_
          rcases hk_ with ⟨rfl, g1⟩ | ⟨rfl, g1⟩
          · have hsn : pCH N b i + 1 = pCH N b (i + 1) := by rw [pCH, if_pos ⟨by omega, g1⟩]
            refine lv_if_eq (tgt := 51) hx hb dX1_countHolding_44 (by decide) (fun c_44 => ?_) (fun c_44 => ?_)
            · exact absurd c_44 (by decide)
            · refine lv_iconst (v := nI 1) hx hb dX1_countHolding_47 (by decide) ?_
              refine lv_goto (tgt := 52) hx hb dX1_countHolding_48 (by decide) ?_
              refine k_callsN (As := [.int (nI 1)]) (rest := [.int (nI (pCH N b i))]) ⟨hx, hb, hml, hown, hts⟩ (c_X7_oneIf l (nI 1) (by first | exact Or.inl rfl | exact Or.inr rfl)) ⟨va_cnB 1 hts gX1_countHolding_X7_oneIf_n151 rfl rfl rfl E.2.1.2.2.2 (hts _ (List.mem_of_getElem? (i := 68) rfl)) (by decide +kernel) ⟨Nat.le_of_ble_eq_true rfl, Nat.le_of_ble_eq_true rfl⟩, hts _ (List.mem_of_getElem? (i := 67) rfl), trivial⟩ rfl hl.1 rfl (lv_room (Nat.le_of_ble_eq_true rfl)) dX1_countHolding_52 ⟨Nat.le_of_ble_eq_true rfl, Nat.le_of_ble_eq_true rfl⟩ (fun r_52 hp_52 => ?_)
              subst hp_52
              refine lv_iadd hx hb dX1_countHolding_55 ?_
              rw [nI_add]
              refine lv_topi (fun t_56 et_56 => ?_)
              have et_56 : t_56 = nI (pCH N b (i + 1)) := et_56.trans (congrArg nI hsn)
              subst et_56
              refine lv_istore_n (lv' := [(2, .int (nI (pCH N b (i + 1)))), (4, .ref (ad (15 + 3 * i))), (0, .ref (ad 11)), (1, .int (nI b)), (3, .int (nI i))]) hx hb dX1_countHolding_56 rfl hl (by decide) rfl (fun ls hl => ?_)
              refine lv_iinc (v := nI (i + 1)) (lv' := [(3, .int (nI (i + 1))), (2, .int (nI (pCH N b (i + 1)))), (4, .ref (ad (15 + 3 * i))), (0, .ref (ad 11)), (1, .int (nI b))]) hx hb dX1_countHolding_57 hl (k := 4) rfl (show nI i + Int32.ofInt 1 = nI (i + 1) from nI_add i 1) (by decide) rfl (fun ls hl => ?_)
              refine lv_goto (tgt := 4) hx hb dX1_countHolding_60 (by decide) ?_
              exact ih_4 (i + 1) _ (by omega) (by omega) (hQ) _ _ I _ (lv_sub hl [3, 4, 1, 0] rfl)
          · have hsn : pCH N b i + 0 = pCH N b (i + 1) := by rw [pCH, if_neg (fun q => g1 q.2)]
            refine lv_if_eq (tgt := 51) hx hb dX1_countHolding_44 (by decide) (fun c_44 => ?_) (fun c_44 => ?_)
            · refine lv_iconst (v := nI 0) hx hb dX1_countHolding_51 (by decide) ?_
              refine k_callsN (As := [.int (nI 0)]) (rest := [.int (nI (pCH N b i))]) ⟨hx, hb, hml, hown, hts⟩ (c_X7_oneIf l (nI 0) (by first | exact Or.inl rfl | exact Or.inr rfl)) ⟨va_cnB 1 hts gX1_countHolding_X7_oneIf_n151 rfl rfl rfl E.2.1.2.2.2 (hts _ (List.mem_of_getElem? (i := 68) rfl)) (by decide +kernel) ⟨Nat.le_of_ble_eq_true rfl, Nat.le_of_ble_eq_true rfl⟩, hts _ (List.mem_of_getElem? (i := 67) rfl), trivial⟩ rfl hl.1 rfl (lv_room (Nat.le_of_ble_eq_true rfl)) dX1_countHolding_52 ⟨Nat.le_of_ble_eq_true rfl, Nat.le_of_ble_eq_true rfl⟩ (fun r_52 hp_52 => ?_)
              subst hp_52
              refine lv_iadd hx hb dX1_countHolding_55 ?_
              rw [nI_add]
              refine lv_topi (fun t_56 et_56 => ?_)
              have et_56 : t_56 = nI (pCH N b (i + 1)) := et_56.trans (congrArg nI hsn)
              subst et_56
              refine lv_istore_n (lv' := [(2, .int (nI (pCH N b (i + 1)))), (4, .ref (ad (15 + 3 * i))), (0, .ref (ad 11)), (1, .int (nI b)), (3, .int (nI i))]) hx hb dX1_countHolding_56 rfl hl (by decide) rfl (fun ls hl => ?_)
              refine lv_iinc (v := nI (i + 1)) (lv' := [(3, .int (nI (i + 1))), (2, .int (nI (pCH N b (i + 1)))), (4, .ref (ad (15 + 3 * i))), (0, .ref (ad 11)), (1, .int (nI b))]) hx hb dX1_countHolding_57 hl (k := 4) rfl (show nI i + Int32.ofInt 1 = nI (i + 1) from nI_add i 1) (by decide) rfl (fun ls hl => ?_)
              refine lv_goto (tgt := 4) hx hb dX1_countHolding_60 (by decide) ?_
              exact ih_4 (i + 1) _ (by omega) (by omega) (hQ) _ _ I _ (lv_sub hl [3, 4, 1, 0] rfl)
            · exact absurd c_44 (by decide)
  exact LP_4 _ 0 σ (Nat.lt_succ_self _) (Nat.zero_le _) (q14_rf σ) _ _ I _ (lv_sub hl [2, 3, 1, 0] rfl)
set_option maxHeartbeats 4000000 in
set_option maxRecDepth 100000 in
theorem c_X1_countMeeting (cy : Nat → ClassId) (D : va_G) (ad : Nat → Nat) (l : Launch) (σ : Nat → Nat → Int32) (N : Nat → Nat) (hN : nOk N) (hB : rBay σ N) (b : Nat) (hsw : ∀ t, t < N 1 → σ (15 + 3 * t) 9 = nI (pS N b t)) : kMi 38 ad (kcC cy ad) cy D l yX1_countMeeting wsX1_countMeeting ({ frames := 1, cells := 0, slots := 0, locals := 24 }) [.ref (ad 11)] σ (fun r σ' => r = nI (pMt N b (N 1)) ∧ σ = σ') := by
  have h5 := hN.1
  refine k_entry (cc := cX1_countMeeting) (maxL := 4) (ret := (some .int)) (by decide) rfl (Nat.le_of_ble_eq_true rfl) ?_
  intro p e s m below meth c hx hb hr hml hown hts hlk E I ls hl
  have hA : ∀ q, s.heap.size ≤ q → kA 38 ad s.heap.size q := fun q h => Or.inr h
  have hown : s.vm.findClass RX1 = some m.cls := hown
  have hl : lv_has ls 4 [(0, .ref (ad 11))] := hl
  have iX1 : ∀ w ∈ u_ws RX1 TX1 6, w ∈ wsX1_countMeeting := fun w h => List.mem_cons_of_mem _ (List.mem_append_left _ (List.mem_append_left _ (List.mem_append_right _ h)))
  refine lv_iconst (v := nI 0) hx hb dX1_countMeeting_0 (by decide) ?_
  refine lv_istore_n (lv' := [(1, .int (nI 0)), (0, .ref (ad 11))]) hx hb dX1_countMeeting_1 rfl hl (by decide) rfl (fun ls hl => ?_)
  refine lv_iconst (v := nI 0) hx hb dX1_countMeeting_2 (by decide) ?_
  refine lv_istore_n (lv' := [(2, .int (nI 0)), (1, .int (nI 0)), (0, .ref (ad 11))]) hx hb dX1_countMeeting_3 rfl hl (by decide) rfl (fun ls hl => ?_)
  have LP_4 : ∀ (fuel_4 : Nat) (i : Nat), N 1 - i < fuel_4 → (i ≤ N 1) → ∀ (H : Heap) (locs : List Loc), kI 38 ad (kcC cy ad) D (kA 38 ad s.heap.size) s.heap σ H locs → ∀ ls : Array Slot, lv_has ls 4 [(0, .ref (ad 11)), (1, .int (nI (pMt N b i))), (2, .int (nI i))] → W p l e (headSpec wsX1_countMeeting ({ frames := 1, cells := 0, slots := 0, locals := 24 })).room s m [.ref (ad 11)].toArray below meth c H locs 0 0 (MQ below (va_Qi (fun r σ' => r = nI (pMt N b (N 1)) ∧ σ = σ') (kB 38 ad (kcC cy ad) D) (kA 38 ad s.heap.size)) [.ref (ad 11)].toArray s 0 0 (kA 38 ad s.heap.size)) (F0 m 4 ls []) := by
    intro fuel_4
    induction fuel_4 with
    | zero => intro i hf_4; exact absurd hf_4 (Nat.not_lt_zero _)
    | succ fuel_4 ih_4 =>
      intro i hf_4 hin H locs I ls hl
      refine lv_iload_n hx hb dX1_countMeeting_4 rfl (lv_at hl 2 rfl) ?_
      refine lv_aload_n hx hb dX1_countMeeting_5 rfl (lv_at hl 0 rfl) ?_
      refine k_get (C := RX1) (T := TX1) (N := 6) (v := .int (nI (N 1))) hx hb hts hown E I iX1 (11) (by decide) (r0 := σ 11) rfl kc_11 rfl 4 (by decide) (List.mem_of_getElem? (i := 1) rfl) (congrArg (fun z => some (Value.int z)) hB.1.2.1) dX1_countMeeting_6 ?_
      refine lv_icmp_ge (tgt := 65) hx hb dX1_countMeeting_9 (by decide) (fun c_9 => ?_) (fun c_9 => ?_)
      · have c_9 : (N 1) ≤ i := (nI_leI (by omega) (by omega)).mp c_9
        have hie : i = N 1 := by omega
        refine lv_iload_n hx hb dX1_countMeeting_65 rfl (lv_at hl 1 rfl) ?_
        exact k_iret hx hb hr hlk I dX1_countMeeting_66 (⟨by rw [hie], rfl⟩)
      · have c_9 : ¬ ((N 1) ≤ i) := fun q_ => c_9 ((nI_leI (by omega) (by omega)).mpr q_)
        have hi : i < N 1 := by omega
        have H_i : i < 5 := by omega
        have hsh := hN.2.2 i hi
        unfold nSh at hsh
        refine lv_iload_n hx hb dX1_countMeeting_12 rfl (lv_at hl 2 rfl) ?_
        refine lv_iconst (v := nI 1) hx hb dX1_countMeeting_13 (by decide) ?_
        refine lv_iadd hx hb dX1_countMeeting_14 ?_
        rw [nI_add]
        refine lv_istore_n (lv' := [(3, .int (nI (i + 1))), (0, .ref (ad 11)), (1, .int (nI (pMt N b i))), (2, .int (nI i))]) hx hb dX1_countMeeting_15 rfl hl (by decide) rfl (fun ls hl => ?_)
        have LP_16 : ∀ (fuel_16 : Nat) (t : Nat), N 1 - t < fuel_16 → (t ≤ N 1) → (i < t) → ∀ (H : Heap) (locs : List Loc), kI 38 ad (kcC cy ad) D (kA 38 ad s.heap.size) s.heap σ H locs → ∀ ls : Array Slot, lv_has ls 4 [(0, .ref (ad 11)), (1, .int (nI (pMt N b i + pMr N b i t))), (2, .int (nI i)), (3, .int (nI t))] → W p l e (headSpec wsX1_countMeeting ({ frames := 1, cells := 0, slots := 0, locals := 24 })).room s m [.ref (ad 11)].toArray below meth c H locs 0 0 (MQ below (va_Qi (fun r σ' => r = nI (pMt N b (N 1)) ∧ σ = σ') (kB 38 ad (kcC cy ad) D) (kA 38 ad s.heap.size)) [.ref (ad 11)].toArray s 0 0 (kA 38 ad s.heap.size)) (F0 m 16 ls []) := by
          intro fuel_16
          induction fuel_16 with
          | zero => intro t hf_16; exact absurd hf_16 (Nat.not_lt_zero _)
          | succ fuel_16 ih_16 =>
            intro t hf_16 htn hit H locs I ls hl
            refine lv_iload_n hx hb dX1_countMeeting_16 rfl (lv_at hl 3 rfl) ?_
            refine lv_aload_n hx hb dX1_countMeeting_17 rfl (lv_at hl 0 rfl) ?_
            refine k_get (C := RX1) (T := TX1) (N := 6) (v := .int (nI (N 1))) hx hb hts hown E I iX1 (11) (by decide) (r0 := σ 11) rfl kc_11 rfl 4 (by decide) (List.mem_of_getElem? (i := 1) rfl) (congrArg (fun z => some (Value.int z)) hB.1.2.1) dX1_countMeeting_18 ?_
            refine lv_icmp_ge (tgt := 59) hx hb dX1_countMeeting_21 (by decide) (fun c_21 => ?_) (fun c_21 => ?_)
            · have c_21 : (N 1) ≤ t := (nI_leI (by omega) (by omega)).mp c_21
              have hte : t = N 1 := by omega
              refine lv_iinc (v := nI (i + 1)) (lv' := [(2, .int (nI (i + 1))), (0, .ref (ad 11)), (1, .int (nI (pMt N b i + pMr N b i t))), (3, .int (nI t))]) hx hb dX1_countMeeting_59 hl (k := 2) rfl (show nI i + Int32.ofInt 1 = nI (i + 1) from nI_add i 1) (by decide) rfl (fun ls hl => ?_)
              refine lv_goto (tgt := 4) hx hb dX1_countMeeting_62 (by decide) ?_
              rw [show pMt N b i + pMr N b i t = pMt N b (i + 1) by rw [pMt, hte]] at hl
              exact ih_4 (i + 1) (by omega) (by omega) _ _ I _ (lv_sub hl [1, 2, 0] rfl)
            · have c_21 : ¬ ((N 1) ≤ t) := fun q_ => c_21 ((nI_leI (by omega) (by omega)).mpr q_)
              have ht : t < N 1 := by omega
              have H_t : t < 5 := by omega
              have hst := hN.2.2 t ht
              unfold nSh at hst
              refine lv_iload_n hx hb dX1_countMeeting_24 rfl (lv_at hl 1 rfl) ?_
              refine lv_aload_n hx hb dX1_countMeeting_25 rfl (lv_at hl 0 rfl) ?_
              refine k_get (C := RX1) (T := TX1) (N := 6) (v := .ref (ad 13)) hx hb hts hown E I iX1 (11) (by decide) (r0 := σ 11) rfl kc_11 rfl 1 (by decide) (List.mem_of_getElem? (i := 2) rfl) rfl dX1_countMeeting_26 ?_
              refine lv_iload_n hx hb dX1_countMeeting_29 rfl (lv_at hl 2 rfl) ?_
              refine k_aldS (a := ad (15 + 3 * i)) hx hb E I (13) (by decide) kc_13 (vp_in_nI (by omega) (by decide)) (by rw [nI_clamp (by omega)]; exact if_pos (by omega)) dX1_countMeeting_30 ?_
              refine lv_aload_n hx hb dX1_countMeeting_31 rfl (lv_at hl 0 rfl) ?_
              refine k_get (C := RX1) (T := TX1) (N := 6) (v := .ref (ad 13)) hx hb hts hown E I iX1 (11) (by decide) (r0 := σ 11) rfl kc_11 rfl 1 (by decide) (List.mem_of_getElem? (i := 2) rfl) rfl dX1_countMeeting_32 ?_
              refine lv_iload_n hx hb dX1_countMeeting_35 rfl (lv_at hl 3 rfl) ?_
              refine k_aldS (a := ad (15 + 3 * t)) hx hb E I (13) (by decide) kc_13 (vp_in_nI (by omega) (by decide)) (by rw [nI_clamp (by omega)]; exact if_pos (by omega)) dX1_countMeeting_36 ?_
              refine k_calli (k := 15 + 3 * i) (As := [.ref (ad (15 + 3 * t))]) (rest := [.int (nI (pMt N b i + pMr N b i t))]) ⟨hx, hb, hml, hown, hts⟩ (c_X6_isClearOf cy D ad l σ N hN i hi t ht hB (pS N b i) (pS N b t) (pSw_le hsh.2.1.2.2.2 hsh.1.2.2.2) (pSw_le hst.2.1.2.2.2 hst.1.2.2.2) (hsw i hi) (hsw t ht)) (cwV 1 hts gX1_countMeeting_X6_isClearOf rfl rfl rfl (by decide +kernel) ⟨Nat.le_of_ble_eq_true rfl, Nat.le_of_ble_eq_true rfl⟩) E hA I (k_recv E I (by omega) (kc_S H_i) rfl) rfl hl.1 rfl (lv_room (Nat.le_of_ble_eq_true rfl)) dX1_countMeeting_37 ⟨Nat.le_of_ble_eq_true rfl, Nat.le_of_ble_eq_true rfl⟩ (fun r_37 σ_37 H locs hp_37 I => ?_)
              obtain ⟨hk_, rfl⟩ := hp_37
              rcases hk_ with ⟨rfl, g1⟩ | ⟨rfl, g1⟩
              · have hsn : pMt N b i + pMr N b i t + 0 = pMt N b i + pMr N b i (t + 1) := by rw [pMr, if_neg (fun q => by rw [g1] at q; exact absurd q.2 (by decide))]; rfl
                refine lv_if_ne (tgt := 47) hx hb dX1_countMeeting_40 (by decide) (fun c_40 => ?_) (fun c_40 => ?_)
                · refine lv_iconst (v := nI 0) hx hb dX1_countMeeting_47 (by decide) ?_
                  refine k_callsN (As := [.int (nI 0)]) (rest := [.int (nI (pMt N b i + pMr N b i t))]) ⟨hx, hb, hml, hown, hts⟩ (c_X7_oneIf l (nI 0) (by first | exact Or.inl rfl | exact Or.inr rfl)) ⟨va_cnB 1 hts gX1_countMeeting_X7_oneIf_n151 rfl rfl rfl E.2.1.2.2.2 (hts _ (List.mem_of_getElem? (i := 14) rfl)) (by decide +kernel) ⟨Nat.le_of_ble_eq_true rfl, Nat.le_of_ble_eq_true rfl⟩, hts _ (List.mem_of_getElem? (i := 13) rfl), trivial⟩ rfl hl.1 rfl (lv_room (Nat.le_of_ble_eq_true rfl)) dX1_countMeeting_48 ⟨Nat.le_of_ble_eq_true rfl, Nat.le_of_ble_eq_true rfl⟩ (fun r_48 hp_48 => ?_)
                  subst hp_48
                  refine lv_iadd hx hb dX1_countMeeting_51 ?_
                  rw [nI_add]
                  refine lv_topi (fun t_52 et_52 => ?_)
                  have et_52 : t_52 = nI (pMt N b i + pMr N b i (t + 1)) := et_52.trans (congrArg nI hsn)
                  subst et_52
                  refine lv_istore_n (lv' := [(1, .int (nI (pMt N b i + pMr N b i (t + 1)))), (0, .ref (ad 11)), (2, .int (nI i)), (3, .int (nI t))]) hx hb dX1_countMeeting_52 rfl hl (by decide) rfl (fun ls hl => ?_)
                  refine lv_iinc (v := nI (t + 1)) (lv' := [(3, .int (nI (t + 1))), (1, .int (nI (pMt N b i + pMr N b i (t + 1)))), (0, .ref (ad 11)), (2, .int (nI i))]) hx hb dX1_countMeeting_53 hl (k := 3) rfl (show nI t + Int32.ofInt 1 = nI (t + 1) from nI_add t 1) (by decide) rfl (fun ls hl => ?_)
                  refine lv_goto (tgt := 16) hx hb dX1_countMeeting_56 (by decide) ?_
                  exact ih_16 (t + 1) (by omega) (by omega) (by omega) _ _ I _ (lv_sub hl [2, 1, 3, 0] rfl)
                · exact absurd c_40 (by decide)
              · have hsn : pMt N b i + pMr N b i t + 1 = pMt N b i + pMr N b i (t + 1) := by rw [pMr, if_pos ⟨hit, by simpa using g1⟩]; rfl
                refine lv_if_ne (tgt := 47) hx hb dX1_countMeeting_40 (by decide) (fun c_40 => ?_) (fun c_40 => ?_)
                · exact absurd c_40 (by decide)
                · refine lv_iconst (v := nI 1) hx hb dX1_countMeeting_43 (by decide) ?_
                  refine lv_goto (tgt := 48) hx hb dX1_countMeeting_44 (by decide) ?_
                  refine k_callsN (As := [.int (nI 1)]) (rest := [.int (nI (pMt N b i + pMr N b i t))]) ⟨hx, hb, hml, hown, hts⟩ (c_X7_oneIf l (nI 1) (by first | exact Or.inl rfl | exact Or.inr rfl)) ⟨va_cnB 1 hts gX1_countMeeting_X7_oneIf_n151 rfl rfl rfl E.2.1.2.2.2 (hts _ (List.mem_of_getElem? (i := 14) rfl)) (by decide +kernel) ⟨Nat.le_of_ble_eq_true rfl, Nat.le_of_ble_eq_true rfl⟩, hts _ (List.mem_of_getElem? (i := 13) rfl), trivial⟩ rfl hl.1 rfl (lv_room (Nat.le_of_ble_eq_true rfl)) dX1_countMeeting_48 ⟨Nat.le_of_ble_eq_true rfl, Nat.le_of_ble_eq_true rfl⟩ (fun r_48 hp_48 => ?_)
                  subst hp_48
                  refine lv_iadd hx hb dX1_countMeeting_51 ?_
                  rw [nI_add]
                  refine lv_topi (fun t_52 et_52 => ?_)
                  have et_52 : t_52 = nI (pMt N b i + pMr N b i (t + 1)) := et_52.trans (congrArg nI hsn)
                  subst et_52
                  refine lv_istore_n (lv' := [(1, .int (nI (pMt N b i + pMr N b i (t + 1)))), (0, .ref (ad 11)), (2, .int (nI i)), (3, .int (nI t))]) hx hb dX1_countMeeting_52 rfl hl (by decide) rfl (fun ls hl => ?_)
                  refine lv_iinc (v := nI (t + 1)) (lv' := [(3, .int (nI (t + 1))), (1, .int (nI (pMt N b i + pMr N b i (t + 1)))), (0, .ref (ad 11)), (2, .int (nI i))]) hx hb dX1_countMeeting_53 hl (k := 3) rfl (show nI t + Int32.ofInt 1 = nI (t + 1) from nI_add t 1) (by decide) rfl (fun ls hl => ?_)
                  refine lv_goto (tgt := 16) hx hb dX1_countMeeting_56 (by decide) ?_
                  exact ih_16 (t + 1) (by omega) (by omega) (by omega) _ _ I _ (lv_sub hl [2, 1, 3, 0] rfl)
        rw [show pMt N b i = pMt N b i + pMr N b i (i + 1) by rw [pMr_0 N b i (i + 1) (Nat.le_refl _)]; rfl] at hl
        exact LP_16 _ (i + 1) (Nat.lt_succ_self _) (by omega) (by omega) _ _ I _ (lv_sub hl [1, 2, 3, 0] rfl)
  exact LP_4 _ 0 (Nat.lt_succ_self _) (Nat.zero_le _) _ _ I _ (lv_sub hl [2, 1, 0] rfl)
set_option maxHeartbeats 4000000 in
set_option maxRecDepth 100000 in
theorem c_X1_countAshore (cy : Nat → ClassId) (D : va_G) (ad : Nat → Nat) (l : Launch) (σ : Nat → Nat → Int32) (N : Nat → Nat) (hN : nOk N) (hB : rBay σ N) : kMi 38 ad (kcC cy ad) cy D l yX1_countAshore wsX1_countAshore ({ frames := 1, cells := 0, slots := 0, locals := 20 }) [.ref (ad 11)] σ (fun r σ' => r = nI (pSum (fun t => N (23 + 13 * t + 7)) (N 1)) ∧ σ = σ') := by
  have h5 := hN.1
  refine k_entry (cc := cX1_countAshore) (maxL := 3) (ret := (some .int)) (by decide) rfl (Nat.le_of_ble_eq_true rfl) ?_
  intro p e s m below meth c hx hb hr hml hown hts hlk E I ls hl
  have hA : ∀ q, s.heap.size ≤ q → kA 38 ad s.heap.size q := fun q h => Or.inr h
  have hown : s.vm.findClass RX1 = some m.cls := hown
  have hl : lv_has ls 3 [(0, .ref (ad 11))] := hl
  have iX1 : ∀ w ∈ u_ws RX1 TX1 6, w ∈ wsX1_countAshore := fun w h => List.mem_cons_of_mem _ (List.mem_append_left _ (List.mem_append_right _ h))
  have iX6 : ∀ w ∈ u_ws RX6 TX6 10, w ∈ wsX1_countAshore := fun w h => List.mem_cons_of_mem _ (List.mem_append_right _ h)
  refine lv_iconst (v := nI 0) hx hb dX1_countAshore_0 (by decide) ?_
  refine lv_istore_n (lv' := [(1, .int (nI 0)), (0, .ref (ad 11))]) hx hb dX1_countAshore_1 rfl hl (by decide) rfl (fun ls hl => ?_)
  refine lv_iconst (v := nI 0) hx hb dX1_countAshore_2 (by decide) ?_
  refine lv_istore_n (lv' := [(2, .int (nI 0)), (1, .int (nI 0)), (0, .ref (ad 11))]) hx hb dX1_countAshore_3 rfl hl (by decide) rfl (fun ls hl => ?_)
  have LP_4 : ∀ (fuel_4 : Nat) (i : Nat), N 1 - i < fuel_4 → (i ≤ N 1) → ∀ (H : Heap) (locs : List Loc), kI 38 ad (kcC cy ad) D (kA 38 ad s.heap.size) s.heap σ H locs → ∀ ls : Array Slot, lv_has ls 3 [(0, .ref (ad 11)), (1, .int (nI (pSum (fun t => N (23 + 13 * t + 7)) i))), (2, .int (nI i))] → W p l e (headSpec wsX1_countAshore ({ frames := 1, cells := 0, slots := 0, locals := 20 })).room s m [.ref (ad 11)].toArray below meth c H locs 0 0 (MQ below (va_Qi (fun r σ' => r = nI (pSum (fun t => N (23 + 13 * t + 7)) (N 1)) ∧ σ = σ') (kB 38 ad (kcC cy ad) D) (kA 38 ad s.heap.size)) [.ref (ad 11)].toArray s 0 0 (kA 38 ad s.heap.size)) (F0 m 4 ls []) := by
    intro fuel_4
    induction fuel_4 with
    | zero => intro i hf_4; exact absurd hf_4 (Nat.not_lt_zero _)
    | succ fuel_4 ih_4 =>
      intro i hf_4 hin H locs I ls hl
      refine lv_iload_n hx hb dX1_countAshore_4 rfl (lv_at hl 2 rfl) ?_
      refine lv_aload_n hx hb dX1_countAshore_5 rfl (lv_at hl 0 rfl) ?_
      refine k_get (C := RX1) (T := TX1) (N := 6) (v := .int (nI (N 1))) hx hb hts hown E I iX1 (11) (by decide) (r0 := σ 11) rfl kc_11 rfl 4 (by decide) (List.mem_of_getElem? (i := 1) rfl) (congrArg (fun z => some (Value.int z)) hB.1.2.1) dX1_countAshore_6 ?_
      refine lv_icmp_ge (tgt := 33) hx hb dX1_countAshore_9 (by decide) (fun c_9 => ?_) (fun c_9 => ?_)
      · have c_9 : (N 1) ≤ i := (nI_leI (by omega) (by omega)).mp c_9
        have hie : i = N 1 := by omega
        refine lv_iload_n hx hb dX1_countAshore_33 rfl (lv_at hl 1 rfl) ?_
        exact k_iret hx hb hr hlk I dX1_countAshore_34 (⟨by rw [hie], rfl⟩)
      · have c_9 : ¬ ((N 1) ≤ i) := fun q_ => c_9 ((nI_leI (by omega) (by omega)).mpr q_)
        have hi : i < N 1 := by omega
        have H_i : i < 5 := by omega
        have hsh := hN.2.2 i hi
        unfold nSh at hsh
        refine lv_iload_n hx hb dX1_countAshore_12 rfl (lv_at hl 1 rfl) ?_
        refine lv_aload_n hx hb dX1_countAshore_13 rfl (lv_at hl 0 rfl) ?_
        refine k_get (C := RX1) (T := TX1) (N := 6) (v := .ref (ad 13)) hx hb hts hown E I iX1 (11) (by decide) (r0 := σ 11) rfl kc_11 rfl 1 (by decide) (List.mem_of_getElem? (i := 2) rfl) rfl dX1_countAshore_14 ?_
        refine lv_iload_n hx hb dX1_countAshore_17 rfl (lv_at hl 2 rfl) ?_
        refine k_aldS (a := ad (15 + 3 * i)) hx hb E I (13) (by decide) kc_13 (vp_in_nI (by omega) (by decide)) (by rw [nI_clamp (by omega)]; exact if_pos (by omega)) dX1_countAshore_18 ?_
        refine k_get (C := RX6) (T := TX6) (N := 10) (v := .int (nI (N (23 + 13 * i + 7)))) hx hb hts hown E I iX6 (15 + 3 * i) (by omega) (r0 := σ (15 + 3 * i)) rfl (kc_S H_i) rfl 3 (by decide) (List.mem_of_getElem? (i := 3) rfl) (congrArg (fun z => some (Value.int z)) (rB_f hB hi 7 (by decide))) dX1_countAshore_19 ?_
        refine k_callsN (As := [.int (nI (N (23 + 13 * i + 7)))]) (rest := [.int (nI (pSum (fun t => N (23 + 13 * t + 7)) i))]) ⟨hx, hb, hml, hown, hts⟩ (c_X7_oneIf l (nI (N (23 + 13 * i + 7))) (kz1 (by omega))) ⟨va_cnB 1 hts gX1_countAshore_X7_oneIf_n151 rfl rfl rfl E.2.1.2.2.2 (hts _ (List.mem_of_getElem? (i := 5) rfl)) (by decide +kernel) ⟨Nat.le_of_ble_eq_true rfl, Nat.le_of_ble_eq_true rfl⟩, hts _ (List.mem_of_getElem? (i := 4) rfl), trivial⟩ rfl hl.1 rfl (lv_room (Nat.le_of_ble_eq_true rfl)) dX1_countAshore_22 ⟨Nat.le_of_ble_eq_true rfl, Nat.le_of_ble_eq_true rfl⟩ (fun r_22 hp_22 => ?_)
        subst hp_22
        refine lv_iadd hx hb dX1_countAshore_25 ?_
        rw [nI_add]
        refine lv_istore_n (lv' := [(1, .int (nI ((pSum (fun t => N (23 + 13 * t + 7)) i) + (N (23 + 13 * i + 7))))), (0, .ref (ad 11)), (2, .int (nI i))]) hx hb dX1_countAshore_26 rfl hl (by decide) rfl (fun ls hl => ?_)
        refine lv_iinc (v := nI (i + 1)) (lv' := [(2, .int (nI (i + 1))), (1, .int (nI ((pSum (fun t => N (23 + 13 * t + 7)) i) + (N (23 + 13 * i + 7))))), (0, .ref (ad 11))]) hx hb dX1_countAshore_27 hl (k := 2) rfl (show nI i + Int32.ofInt 1 = nI (i + 1) from nI_add i 1) (by decide) rfl (fun ls hl => ?_)
        refine lv_goto (tgt := 4) hx hb dX1_countAshore_30 (by decide) ?_
        exact ih_4 (i + 1) (by omega) (by omega) _ _ I _ (lv_sub hl [2, 1, 0] rfl)
  exact LP_4 _ 0 (Nat.lt_succ_self _) (Nat.zero_le _) _ _ I _ (lv_sub hl [2, 1, 0] rfl)
set_option maxHeartbeats 4000000 in
set_option maxRecDepth 100000 in
theorem c_X1_countMoored (cy : Nat → ClassId) (D : va_G) (ad : Nat → Nat) (l : Launch) (σ : Nat → Nat → Int32) (N : Nat → Nat) (hN : nOk N) (hB : rBay σ N) : kMi 38 ad (kcC cy ad) cy D l yX1_countMoored wsX1_countMoored ({ frames := 1, cells := 0, slots := 0, locals := 20 }) [.ref (ad 11)] σ (fun r σ' => r = nI (pSum (fun t => N (23 + 13 * t + 9)) (N 1)) ∧ σ = σ') := by
  have h5 := hN.1
  refine k_entry (cc := cX1_countMoored) (maxL := 3) (ret := (some .int)) (by decide) rfl (Nat.le_of_ble_eq_true rfl) ?_
  intro p e s m below meth c hx hb hr hml hown hts hlk E I ls hl
  have hA : ∀ q, s.heap.size ≤ q → kA 38 ad s.heap.size q := fun q h => Or.inr h
  have hown : s.vm.findClass RX1 = some m.cls := hown
  have hl : lv_has ls 3 [(0, .ref (ad 11))] := hl
  have iX1 : ∀ w ∈ u_ws RX1 TX1 6, w ∈ wsX1_countMoored := fun w h => List.mem_cons_of_mem _ (List.mem_append_left _ (List.mem_append_right _ h))
  have iX6 : ∀ w ∈ u_ws RX6 TX6 10, w ∈ wsX1_countMoored := fun w h => List.mem_cons_of_mem _ (List.mem_append_right _ h)
  refine lv_iconst (v := nI 0) hx hb dX1_countMoored_0 (by decide) ?_
  refine lv_istore_n (lv' := [(1, .int (nI 0)), (0, .ref (ad 11))]) hx hb dX1_countMoored_1 rfl hl (by decide) rfl (fun ls hl => ?_)
  refine lv_iconst (v := nI 0) hx hb dX1_countMoored_2 (by decide) ?_
  refine lv_istore_n (lv' := [(2, .int (nI 0)), (1, .int (nI 0)), (0, .ref (ad 11))]) hx hb dX1_countMoored_3 rfl hl (by decide) rfl (fun ls hl => ?_)
  have LP_4 : ∀ (fuel_4 : Nat) (i : Nat), N 1 - i < fuel_4 → (i ≤ N 1) → ∀ (H : Heap) (locs : List Loc), kI 38 ad (kcC cy ad) D (kA 38 ad s.heap.size) s.heap σ H locs → ∀ ls : Array Slot, lv_has ls 3 [(0, .ref (ad 11)), (1, .int (nI (pSum (fun t => N (23 + 13 * t + 9)) i))), (2, .int (nI i))] → W p l e (headSpec wsX1_countMoored ({ frames := 1, cells := 0, slots := 0, locals := 20 })).room s m [.ref (ad 11)].toArray below meth c H locs 0 0 (MQ below (va_Qi (fun r σ' => r = nI (pSum (fun t => N (23 + 13 * t + 9)) (N 1)) ∧ σ = σ') (kB 38 ad (kcC cy ad) D) (kA 38 ad s.heap.size)) [.ref (ad 11)].toArray s 0 0 (kA 38 ad s.heap.size)) (F0 m 4 ls []) := by
    intro fuel_4
    induction fuel_4 with
    | zero => intro i hf_4; exact absurd hf_4 (Nat.not_lt_zero _)
    | succ fuel_4 ih_4 =>
      intro i hf_4 hin H locs I ls hl
      refine lv_iload_n hx hb dX1_countMoored_4 rfl (lv_at hl 2 rfl) ?_
      refine lv_aload_n hx hb dX1_countMoored_5 rfl (lv_at hl 0 rfl) ?_
      refine k_get (C := RX1) (T := TX1) (N := 6) (v := .int (nI (N 1))) hx hb hts hown E I iX1 (11) (by decide) (r0 := σ 11) rfl kc_11 rfl 4 (by decide) (List.mem_of_getElem? (i := 1) rfl) (congrArg (fun z => some (Value.int z)) hB.1.2.1) dX1_countMoored_6 ?_
      refine lv_icmp_ge (tgt := 33) hx hb dX1_countMoored_9 (by decide) (fun c_9 => ?_) (fun c_9 => ?_)
      · have c_9 : (N 1) ≤ i := (nI_leI (by omega) (by omega)).mp c_9
        have hie : i = N 1 := by omega
        refine lv_iload_n hx hb dX1_countMoored_33 rfl (lv_at hl 1 rfl) ?_
        exact k_iret hx hb hr hlk I dX1_countMoored_34 (⟨by rw [hie], rfl⟩)
      · have c_9 : ¬ ((N 1) ≤ i) := fun q_ => c_9 ((nI_leI (by omega) (by omega)).mpr q_)
        have hi : i < N 1 := by omega
        have H_i : i < 5 := by omega
        have hsh := hN.2.2 i hi
        unfold nSh at hsh
        refine lv_iload_n hx hb dX1_countMoored_12 rfl (lv_at hl 1 rfl) ?_
        refine lv_aload_n hx hb dX1_countMoored_13 rfl (lv_at hl 0 rfl) ?_
        refine k_get (C := RX1) (T := TX1) (N := 6) (v := .ref (ad 13)) hx hb hts hown E I iX1 (11) (by decide) (r0 := σ 11) rfl kc_11 rfl 1 (by decide) (List.mem_of_getElem? (i := 2) rfl) rfl dX1_countMoored_14 ?_
        refine lv_iload_n hx hb dX1_countMoored_17 rfl (lv_at hl 2 rfl) ?_
        refine k_aldS (a := ad (15 + 3 * i)) hx hb E I (13) (by decide) kc_13 (vp_in_nI (by omega) (by decide)) (by rw [nI_clamp (by omega)]; exact if_pos (by omega)) dX1_countMoored_18 ?_
        refine k_get (C := RX6) (T := TX6) (N := 10) (v := .int (nI (N (23 + 13 * i + 9)))) hx hb hts hown E I iX6 (15 + 3 * i) (by omega) (r0 := σ (15 + 3 * i)) rfl (kc_S H_i) rfl 2 (by decide) (List.mem_of_getElem? (i := 3) rfl) (congrArg (fun z => some (Value.int z)) (rB_f hB hi 9 (by decide))) dX1_countMoored_19 ?_
        refine k_callsN (As := [.int (nI (N (23 + 13 * i + 9)))]) (rest := [.int (nI (pSum (fun t => N (23 + 13 * t + 9)) i))]) ⟨hx, hb, hml, hown, hts⟩ (c_X7_oneIf l (nI (N (23 + 13 * i + 9))) (kz1 (by omega))) ⟨va_cnB 1 hts gX1_countMoored_X7_oneIf_n151 rfl rfl rfl E.2.1.2.2.2 (hts _ (List.mem_of_getElem? (i := 5) rfl)) (by decide +kernel) ⟨Nat.le_of_ble_eq_true rfl, Nat.le_of_ble_eq_true rfl⟩, hts _ (List.mem_of_getElem? (i := 4) rfl), trivial⟩ rfl hl.1 rfl (lv_room (Nat.le_of_ble_eq_true rfl)) dX1_countMoored_22 ⟨Nat.le_of_ble_eq_true rfl, Nat.le_of_ble_eq_true rfl⟩ (fun r_22 hp_22 => ?_)
        subst hp_22
        refine lv_iadd hx hb dX1_countMoored_25 ?_
        rw [nI_add]
        refine lv_istore_n (lv' := [(1, .int (nI ((pSum (fun t => N (23 + 13 * t + 9)) i) + (N (23 + 13 * i + 9))))), (0, .ref (ad 11)), (2, .int (nI i))]) hx hb dX1_countMoored_26 rfl hl (by decide) rfl (fun ls hl => ?_)
        refine lv_iinc (v := nI (i + 1)) (lv' := [(2, .int (nI (i + 1))), (1, .int (nI ((pSum (fun t => N (23 + 13 * t + 9)) i) + (N (23 + 13 * i + 9))))), (0, .ref (ad 11))]) hx hb dX1_countMoored_27 hl (k := 2) rfl (show nI i + Int32.ofInt 1 = nI (i + 1) from nI_add i 1) (by decide) rfl (fun ls hl => ?_)
        refine lv_goto (tgt := 4) hx hb dX1_countMoored_30 (by decide) ?_
        exact ih_4 (i + 1) (by omega) (by omega) _ _ I _ (lv_sub hl [2, 1, 0] rfl)
  exact LP_4 _ 0 (Nat.lt_succ_self _) (Nat.zero_le _) _ _ I _ (lv_sub hl [2, 1, 0] rfl)
set_option maxHeartbeats 4000000 in
set_option maxRecDepth 100000 in
theorem c_X1_countLinksOut (cy : Nat → ClassId) (D : va_G) (ad : Nat → Nat) (l : Launch) (σ : Nat → Nat → Int32) (N : Nat → Nat) (hN : nOk N) (hB : rBay σ N) : kMi 38 ad (kcC cy ad) cy D l yX1_countLinksOut wsX1_countLinksOut ({ frames := 0, cells := 0, slots := 0, locals := 0 }) [.ref (ad 11)] σ (fun r σ' => r = nI (pSum (fun t => if N (23 + 13 * t + 7) = 1 then 0 else N (23 + 13 * t + 2) + N (23 + 13 * t + 12)) (N 1)) ∧ σ = σ') := by
  have h5 := hN.1
  refine k_entry (cc := cX1_countLinksOut) (maxL := 4) (ret := (some .int)) (by decide) rfl (Nat.le_of_ble_eq_true rfl) ?_
  intro p e s m below meth c hx hb hr hml hown hts hlk E I ls hl
  have hA : ∀ q, s.heap.size ≤ q → kA 38 ad s.heap.size q := fun q h => Or.inr h
  have hown : s.vm.findClass RX1 = some m.cls := hown
  have hl : lv_has ls 4 [(0, .ref (ad 11))] := hl
  have iX0 : ∀ w ∈ u_ws RX0 TX0 3, w ∈ wsX1_countLinksOut := fun w h => List.mem_cons_of_mem _ (List.mem_append_right _ h)
  have iX1 : ∀ w ∈ u_ws RX1 TX1 6, w ∈ wsX1_countLinksOut := fun w h => List.mem_cons_of_mem _ (List.mem_append_left _ (List.mem_append_left _ (List.mem_append_right _ h)))
  have iX6 : ∀ w ∈ u_ws RX6 TX6 10, w ∈ wsX1_countLinksOut := fun w h => List.mem_cons_of_mem _ (List.mem_append_left _ (List.mem_append_right _ h))
  refine lv_iconst (v := nI 0) hx hb dX1_countLinksOut_0 (by decide) ?_
  refine lv_istore_n (lv' := [(1, .int (nI 0)), (0, .ref (ad 11))]) hx hb dX1_countLinksOut_1 rfl hl (by decide) rfl (fun ls hl => ?_)
  refine lv_iconst (v := nI 0) hx hb dX1_countLinksOut_2 (by decide) ?_
  refine lv_istore_n (lv' := [(2, .int (nI 0)), (1, .int (nI 0)), (0, .ref (ad 11))]) hx hb dX1_countLinksOut_3 rfl hl (by decide) rfl (fun ls hl => ?_)
  have LP_4 : ∀ (fuel_4 : Nat) (i : Nat), N 1 - i < fuel_4 → (i ≤ N 1) → ∀ (H : Heap) (locs : List Loc), kI 38 ad (kcC cy ad) D (kA 38 ad s.heap.size) s.heap σ H locs → ∀ ls : Array Slot, lv_has ls 4 [(0, .ref (ad 11)), (1, .int (nI (pSum (fun t => if N (23 + 13 * t + 7) = 1 then 0 else N (23 + 13 * t + 2) + N (23 + 13 * t + 12)) i))), (2, .int (nI i))] → W p l e (headSpec wsX1_countLinksOut ({ frames := 0, cells := 0, slots := 0, locals := 0 })).room s m [.ref (ad 11)].toArray below meth c H locs 0 0 (MQ below (va_Qi (fun r σ' => r = nI (pSum (fun t => if N (23 + 13 * t + 7) = 1 then 0 else N (23 + 13 * t + 2) + N (23 + 13 * t + 12)) (N 1)) ∧ σ = σ') (kB 38 ad (kcC cy ad) D) (kA 38 ad s.heap.size)) [.ref (ad 11)].toArray s 0 0 (kA 38 ad s.heap.size)) (F0 m 4 ls []) := by
    intro fuel_4
    induction fuel_4 with
    | zero => intro i hf_4; exact absurd hf_4 (Nat.not_lt_zero _)
    | succ fuel_4 ih_4 =>
      intro i hf_4 hin H locs I ls hl
      refine lv_iload_n hx hb dX1_countLinksOut_4 rfl (lv_at hl 2 rfl) ?_
      refine lv_aload_n hx hb dX1_countLinksOut_5 rfl (lv_at hl 0 rfl) ?_
      refine k_get (C := RX1) (T := TX1) (N := 6) (v := .int (nI (N 1))) hx hb hts hown E I iX1 (11) (by decide) (r0 := σ 11) rfl kc_11 rfl 4 (by decide) (List.mem_of_getElem? (i := 1) rfl) (congrArg (fun z => some (Value.int z)) hB.1.2.1) dX1_countLinksOut_6 ?_
      refine lv_icmp_ge (tgt := 61) hx hb dX1_countLinksOut_9 (by decide) (fun c_9 => ?_) (fun c_9 => ?_)
      · have c_9 : (N 1) ≤ i := (nI_leI (by omega) (by omega)).mp c_9
        have hie : i = N 1 := by omega
        refine lv_iload_n hx hb dX1_countLinksOut_61 rfl (lv_at hl 1 rfl) ?_
        exact k_iret hx hb hr hlk I dX1_countLinksOut_62 (⟨by rw [hie], rfl⟩)
      · have c_9 : ¬ ((N 1) ≤ i) := fun q_ => c_9 ((nI_leI (by omega) (by omega)).mpr q_)
        have hi : i < N 1 := by omega
        have H_i : i < 5 := by omega
        have hsh := hN.2.2 i hi
        unfold nSh at hsh
        refine lv_aload_n hx hb dX1_countLinksOut_12 rfl (lv_at hl 0 rfl) ?_
        refine k_get (C := RX1) (T := TX1) (N := 6) (v := .ref (ad 13)) hx hb hts hown E I iX1 (11) (by decide) (r0 := σ 11) rfl kc_11 rfl 1 (by decide) (List.mem_of_getElem? (i := 2) rfl) rfl dX1_countLinksOut_13 ?_
        refine lv_iload_n hx hb dX1_countLinksOut_16 rfl (lv_at hl 2 rfl) ?_
        refine k_aldS (a := ad (15 + 3 * i)) hx hb E I (13) (by decide) kc_13 (vp_in_nI (by omega) (by decide)) (by rw [nI_clamp (by omega)]; exact if_pos (by omega)) dX1_countLinksOut_17 ?_
        refine lv_astore_n (lv' := [(3, .ref (ad (15 + 3 * i))), (0, .ref (ad 11)), (1, .int (nI (pSum (fun t => if N (23 + 13 * t + 7) = 1 then 0 else N (23 + 13 * t + 2) + N (23 + 13 * t + 12)) i))), (2, .int (nI i))]) hx hb dX1_countLinksOut_18 rfl hl (by decide) rfl (fun ls hl => ?_)
        refine lv_aload_n hx hb dX1_countLinksOut_19 rfl (lv_at hl 0 rfl) ?_
        refine k_get (C := RX6) (T := TX6) (N := 10) (v := .int (nI (N (23 + 13 * i + 7)))) hx hb hts hown E I iX6 (15 + 3 * i) (by omega) (r0 := σ (15 + 3 * i)) rfl (kc_S H_i) rfl 3 (by decide) (List.mem_of_getElem? (i := 3) rfl) (congrArg (fun z => some (Value.int z)) (rB_f hB hi 7 (by decide))) dX1_countLinksOut_20 ?_
        refine lv_if_ne (tgt := 55) hx hb dX1_countLinksOut_23 (by decide) (fun c_23 => ?_) (fun c_23 => ?_)
        · have c_23 : ¬ ((N (23 + 13 * i + 7)) = 0) := fun q_ => c_23 ((nI_eq (by omega) (by decide)).mpr q_)
          refine lv_iinc (v := nI (i + 1)) (lv' := [(2, .int (nI (i + 1))), (3, .ref (ad (15 + 3 * i))), (0, .ref (ad 11)), (1, .int (nI (pSum (fun t => if N (23 + 13 * t + 7) = 1 then 0 else N (23 + 13 * t + 2) + N (23 + 13 * t + 12)) i)))]) hx hb dX1_countLinksOut_55 hl (k := 3) rfl (show nI i + Int32.ofInt 1 = nI (i + 1) from nI_add i 1) (by decide) rfl (fun ls hl => ?_)
          refine lv_goto (tgt := 4) hx hb dX1_countLinksOut_58 (by decide) ?_
          rw [show pSum (fun t => if N (23 + 13 * t + 7) = 1 then 0 else N (23 + 13 * t + 2) + N (23 + 13 * t + 12)) i = pSum (fun t => if N (23 + 13 * t + 7) = 1 then 0 else N (23 + 13 * t + 2) + N (23 + 13 * t + 12)) (i + 1) by rw [pSum, if_pos (show N (23 + 13 * i + 7) = 1 by omega)]; rfl] at hl
          exact ih_4 (i + 1) (by omega) (by omega) _ _ I _ (lv_sub hl [2, 3, 0] rfl)
        · have c_23 : (N (23 + 13 * i + 7)) = 0 := (nI_eq (by omega) (by decide)).mp c_23
          refine lv_iload_n hx hb dX1_countLinksOut_26 rfl (lv_at hl 2 rfl) ?_
          refine lv_aload_n hx hb dX1_countLinksOut_27 rfl (lv_at hl 0 rfl) ?_
          refine k_get (C := RX6) (T := TX6) (N := 10) (v := .ref (ad (16 + 3 * i))) hx hb hts hown E I iX6 (15 + 3 * i) (by omega) (r0 := σ (15 + 3 * i)) rfl (kc_S H_i) rfl 0 (by decide) (List.mem_of_getElem? (i := 4) rfl) rfl dX1_countLinksOut_28 ?_
          refine k_get (C := RX0) (T := TX0) (N := 3) (v := .int (nI (N (23 + 13 * i + 2)))) hx hb hts hown E I iX0 (16 + 3 * i) (by omega) (r0 := σ (16 + 3 * i)) rfl (kc_F H_i) rfl 2 (by decide) (List.mem_of_getElem? (i := 5) rfl) (congrArg (fun z => some (Value.int z)) (rB_f hB hi 2 (by decide))) dX1_countLinksOut_31 ?_
          refine lv_aload_n hx hb dX1_countLinksOut_34 rfl (lv_at hl 0 rfl) ?_
          refine k_get (C := RX6) (T := TX6) (N := 10) (v := .int (nI (N (23 + 13 * i + 9)))) hx hb hts hown E I iX6 (15 + 3 * i) (by omega) (r0 := σ (15 + 3 * i)) rfl (kc_S H_i) rfl 2 (by decide) (List.mem_of_getElem? (i := 6) rfl) (congrArg (fun z => some (Value.int z)) (rB_f hB hi 9 (by decide))) dX1_countLinksOut_35 ?_
          refine lv_if_eq (tgt := 51) hx hb dX1_countLinksOut_38 (by decide) (fun c_38 => ?_) (fun c_38 => ?_)
          · have c_38 : (N (23 + 13 * i + 9)) = 0 := (nI_eq (by omega) (by decide)).mp c_38
            have hx2 := hsh.2.2.2.2.2 c_38
            refine lv_iconst (v := nI 0) hx hb dX1_countLinksOut_51 (by decide) ?_
            refine lv_iadd hx hb dX1_countLinksOut_52 ?_
            rw [nI_add]
            refine lv_iadd hx hb dX1_countLinksOut_53 ?_
            rw [nI_add]
            refine lv_topi (fun t_54 et_54 => ?_)
            have et_54 : t_54 = nI (pSum (fun t => if N (23 + 13 * t + 7) = 1 then 0 else N (23 + 13 * t + 2) + N (23 + 13 * t + 12)) (i + 1)) := et_54.trans (congrArg nI (by rw [pSum, if_neg (show ¬ N (23 + 13 * i + 7) = 1 by omega)]; try omega))
            subst et_54
            refine lv_istore_n (lv' := [(1, .int (nI (pSum (fun t => if N (23 + 13 * t + 7) = 1 then 0 else N (23 + 13 * t + 2) + N (23 + 13 * t + 12)) (i + 1)))), (3, .ref (ad (15 + 3 * i))), (0, .ref (ad 11)), (2, .int (nI i))]) hx hb dX1_countLinksOut_54 rfl hl (by decide) rfl (fun ls hl => ?_)
            refine lv_iinc (v := nI (i + 1)) (lv' := [(2, .int (nI (i + 1))), (1, .int (nI (pSum (fun t => if N (23 + 13 * t + 7) = 1 then 0 else N (23 + 13 * t + 2) + N (23 + 13 * t + 12)) (i + 1)))), (3, .ref (ad (15 + 3 * i))), (0, .ref (ad 11))]) hx hb dX1_countLinksOut_55 hl (k := 3) rfl (show nI i + Int32.ofInt 1 = nI (i + 1) from nI_add i 1) (by decide) rfl (fun ls hl => ?_)
            refine lv_goto (tgt := 4) hx hb dX1_countLinksOut_58 (by decide) ?_
            exact ih_4 (i + 1) (by omega) (by omega) _ _ I _ (lv_sub hl [3, 1, 0] rfl)
          · have c_38 : ¬ ((N (23 + 13 * i + 9)) = 0) := fun q_ => c_38 ((nI_eq (by omega) (by decide)).mpr q_)
            have hm : N (23 + 13 * i + 9) = 1 := by omega
            refine lv_aload_n hx hb dX1_countLinksOut_41 rfl (lv_at hl 0 rfl) ?_
            refine k_get (C := RX6) (T := TX6) (N := 10) (v := .ref (ad (17 + 3 * i))) hx hb hts hown E I iX6 (15 + 3 * i) (by omega) (r0 := σ (15 + 3 * i)) rfl (kc_S H_i) rfl 1 (by decide) (List.mem_of_getElem? (i := 7) rfl) rfl dX1_countLinksOut_42 ?_
            refine k_get (C := RX0) (T := TX0) (N := 3) (v := .int (nI (N (23 + 13 * i + 12)))) hx hb hts hown E I iX0 (17 + 3 * i) (by omega) (r0 := σ (17 + 3 * i)) rfl (kc_G H_i) rfl 2 (by decide) (List.mem_of_getElem? (i := 5) rfl) (congrArg (fun z => some (Value.int z)) (rB_g hB hi hm 2 (by decide))) dX1_countLinksOut_45 ?_
            refine lv_goto (tgt := 52) hx hb dX1_countLinksOut_48 (by decide) ?_
            refine lv_iadd hx hb dX1_countLinksOut_52 ?_
            rw [nI_add]
            refine lv_iadd hx hb dX1_countLinksOut_53 ?_
            rw [nI_add]
            refine lv_topi (fun t_54 et_54 => ?_)
            have et_54 : t_54 = nI (pSum (fun t => if N (23 + 13 * t + 7) = 1 then 0 else N (23 + 13 * t + 2) + N (23 + 13 * t + 12)) (i + 1)) := et_54.trans (congrArg nI (by rw [pSum, if_neg (show ¬ N (23 + 13 * i + 7) = 1 by omega)]; try omega))
            subst et_54
            refine lv_istore_n (lv' := [(1, .int (nI (pSum (fun t => if N (23 + 13 * t + 7) = 1 then 0 else N (23 + 13 * t + 2) + N (23 + 13 * t + 12)) (i + 1)))), (3, .ref (ad (15 + 3 * i))), (0, .ref (ad 11)), (2, .int (nI i))]) hx hb dX1_countLinksOut_54 rfl hl (by decide) rfl (fun ls hl => ?_)
            refine lv_iinc (v := nI (i + 1)) (lv' := [(2, .int (nI (i + 1))), (1, .int (nI (pSum (fun t => if N (23 + 13 * t + 7) = 1 then 0 else N (23 + 13 * t + 2) + N (23 + 13 * t + 12)) (i + 1)))), (3, .ref (ad (15 + 3 * i))), (0, .ref (ad 11))]) hx hb dX1_countLinksOut_55 hl (k := 3) rfl (show nI i + Int32.ofInt 1 = nI (i + 1) from nI_add i 1) (by decide) rfl (fun ls hl => ?_)
            refine lv_goto (tgt := 4) hx hb dX1_countLinksOut_58 (by decide) ?_
            exact ih_4 (i + 1) (by omega) (by omega) _ _ I _ (lv_sub hl [3, 1, 0] rfl)
  exact LP_4 _ 0 (Nat.lt_succ_self _) (Nat.zero_le _) _ _ I _ (lv_sub hl [2, 1, 0] rfl)

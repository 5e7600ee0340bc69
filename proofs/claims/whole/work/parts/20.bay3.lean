/-! THE BAY: dragging and hours -/
set_option maxHeartbeats 4000000 in
set_option maxRecDepth 100000 in
theorem c_X1_drag (cy : Nat → ClassId) (D : va_G) (ad : Nat → Nat) (l : Launch) (σ : Nat → Nat → Int32) (N : Nat → Nat) (hN : nOk N) (i : Nat) (hi : i < N 1) (hB : rBay σ N) (side : Nat) (hs3 : side ≤ 3) : kMv 38 ad (kcC cy ad) cy D l yX1_drag wsX1_drag ({ frames := 2, cells := 0, slots := 0, locals := 44 }) [.ref (ad 11), .ref (ad (15 + 3 * i)), .int (nI side)] σ (fun σ' => rBay σ' (pDrag N i side) ∧ fB σ σ') := by
  have H_i : i < 5 := by have := hN.1; omega
  have hsh := hN.2.2 i hi
  unfold nSh at hsh
  have h5 := hN.1
  refine k_entry (cc := cX1_drag) (maxL := 8) (ret := none) (by decide) rfl (Nat.le_of_ble_eq_true rfl) ?_
  intro p e s m below meth c hx hb hr hml hown hts hlk E I ls hl
  have hA : ∀ q, s.heap.size ≤ q → kA 38 ad s.heap.size q := fun q h => Or.inr h
  have hown : s.vm.findClass RX1 = some m.cls := hown
  have hl : lv_has ls 8 [(0, .ref (ad 11)), (1, .ref (ad (15 + 3 * i))), (2, .int (nI side))] := hl
  have iX0 : ∀ w ∈ u_ws RX0 TX0 3, w ∈ wsX1_drag := fun w h => List.mem_cons_of_mem _ (List.mem_append_left _ (List.mem_append_right _ h))
  have iX6 : ∀ w ∈ u_ws RX6 TX6 10, w ∈ wsX1_drag := fun w h => List.mem_cons_of_mem _ (List.mem_append_left _ (List.mem_append_left _ (List.mem_append_right _ h)))
  rcases (show side = 0 ∨ side = 1 ∨ side = 2 ∨ side = 3 by omega) with rfl | rfl | rfl | rfl
  · refine lv_iload_n hx hb dX1_drag_0 rfl (lv_at hl 2 rfl) ?_
    refine lv_iconst (v := nI 1) hx hb dX1_drag_1 (by decide) ?_
    refine lv_icmp_ne (tgt := 9) hx hb dX1_drag_2 (by decide) (fun c_2 => ?_) (fun c_2 => ?_)
    · refine lv_iconst (v := nI 0) hx hb dX1_drag_9 (by decide) ?_
      refine k_callsN (As := [.int (nI 0)]) (rest := []) ⟨hx, hb, hml, hown, hts⟩ (c_X7_oneIf l (nI 0) (by first | exact Or.inl rfl | exact Or.inr rfl)) ⟨va_cnB 1 hts gX1_drag_X7_oneIf_n151 rfl rfl rfl E.2.1.2.2.2 (hts _ (List.mem_of_getElem? (i := 10) rfl)) (by decide +kernel) ⟨Nat.le_of_ble_eq_true rfl, Nat.le_of_ble_eq_true rfl⟩, hts _ (List.mem_of_getElem? (i := 9) rfl), trivial⟩ rfl hl.1 rfl (lv_room (Nat.le_of_ble_eq_true rfl)) dX1_drag_10 ⟨Nat.le_of_ble_eq_true rfl, Nat.le_of_ble_eq_true rfl⟩ (fun r_10 hp_10 => ?_)
      subst hp_10
      refine lv_iload_n hx hb dX1_drag_13 rfl (lv_at hl 2 rfl) ?_
      refine lv_iconst (v := nI 3) hx hb dX1_drag_14 (by decide) ?_
      refine lv_icmp_ne (tgt := 22) hx hb dX1_drag_15 (by decide) (fun c_15 => ?_) (fun c_15 => ?_)
      · refine lv_iconst (v := nI 0) hx hb dX1_drag_22 (by decide) ?_
        refine k_callsN (As := [.int (nI 0)]) (rest := [.int (nI 0)]) ⟨hx, hb, hml, hown, hts⟩ (c_X7_oneIf l (nI 0) (by first | exact Or.inl rfl | exact Or.inr rfl)) ⟨va_cnB 1 hts gX1_drag_X7_oneIf_n151 rfl rfl rfl E.2.1.2.2.2 (hts _ (List.mem_of_getElem? (i := 10) rfl)) (by decide +kernel) ⟨Nat.le_of_ble_eq_true rfl, Nat.le_of_ble_eq_true rfl⟩, hts _ (List.mem_of_getElem? (i := 9) rfl), trivial⟩ rfl hl.1 rfl (lv_room (Nat.le_of_ble_eq_true rfl)) dX1_drag_23 ⟨Nat.le_of_ble_eq_true rfl, Nat.le_of_ble_eq_true rfl⟩ (fun r_23 hp_23 => ?_)
        subst hp_23
        refine lv_isub hx hb dX1_drag_26 ?_
        refine lv_topi (fun t_26 et_26 => ?_)
        have et_26 : t_26 = nI 0 := et_26.trans (by decide)
        subst et_26
        refine lv_istore_n (lv' := [(3, .int (nI 0)), (0, .ref (ad 11)), (1, .ref (ad (15 + 3 * i))), (2, .int (nI 0))]) hx hb dX1_drag_27 rfl hl (by decide) rfl (fun ls hl => ?_)
        refine lv_iload_n hx hb dX1_drag_28 rfl (lv_at hl 3 rfl) ?_
        refine lv_iconst (v := nI 2) hx hb dX1_drag_29 (by decide) ?_
        refine lv_icmp_ne (tgt := 37) hx hb dX1_drag_30 (by decide) (fun c_30 => ?_) (fun c_30 => ?_)
        · refine lv_iconst (v := nI 0) hx hb dX1_drag_37 (by decide) ?_
          refine k_callsN (As := [.int (nI 0)]) (rest := []) ⟨hx, hb, hml, hown, hts⟩ (c_X7_oneIf l (nI 0) (by first | exact Or.inl rfl | exact Or.inr rfl)) ⟨va_cnB 1 hts gX1_drag_X7_oneIf_n151 rfl rfl rfl E.2.1.2.2.2 (hts _ (List.mem_of_getElem? (i := 10) rfl)) (by decide +kernel) ⟨Nat.le_of_ble_eq_true rfl, Nat.le_of_ble_eq_true rfl⟩, hts _ (List.mem_of_getElem? (i := 9) rfl), trivial⟩ rfl hl.1 rfl (lv_room (Nat.le_of_ble_eq_true rfl)) dX1_drag_38 ⟨Nat.le_of_ble_eq_true rfl, Nat.le_of_ble_eq_true rfl⟩ (fun r_38 hp_38 => ?_)
          subst hp_38
          refine lv_iload_n hx hb dX1_drag_41 rfl (lv_at hl 3 rfl) ?_
          refine lv_if_ne (tgt := 49) hx hb dX1_drag_42 (by decide) (fun c_42 => ?_) (fun c_42 => ?_)
          · exact absurd c_42 (by decide)
          · refine lv_iconst (v := nI 1) hx hb dX1_drag_45 (by decide) ?_
            refine lv_goto (tgt := 50) hx hb dX1_drag_46 (by decide) ?_
            refine k_callsN (As := [.int (nI 1)]) (rest := [.int (nI 0)]) ⟨hx, hb, hml, hown, hts⟩ (c_X7_oneIf l (nI 1) (by first | exact Or.inl rfl | exact Or.inr rfl)) ⟨va_cnB 1 hts gX1_drag_X7_oneIf_n151 rfl rfl rfl E.2.1.2.2.2 (hts _ (List.mem_of_getElem? (i := 10) rfl)) (by decide +kernel) ⟨Nat.le_of_ble_eq_true rfl, Nat.le_of_ble_eq_true rfl⟩, hts _ (List.mem_of_getElem? (i := 9) rfl), trivial⟩ rfl hl.1 rfl (lv_room (Nat.le_of_ble_eq_true rfl)) dX1_drag_50 ⟨Nat.le_of_ble_eq_true rfl, Nat.le_of_ble_eq_true rfl⟩ (fun r_50 hp_50 => ?_)
            subst hp_50
            refine lv_isub hx hb dX1_drag_53 ?_
            refine lv_topi (fun t_53 et_53 => ?_)
            have et_53 : t_53 = -1 := et_53.trans (by decide)
            subst et_53
            refine lv_istore (lv' := [(4, .int (-1)), (3, .int (nI 0)), (0, .ref (ad 11)), (1, .ref (ad (15 + 3 * i))), (2, .int (nI 0))]) hx hb dX1_drag_54 hl (by decide) rfl (fun ls hl => ?_)
            refine lv_aload_n hx hb dX1_drag_56 rfl (lv_at hl 3 rfl) ?_
            refine k_get (C := RX6) (T := TX6) (N := 10) (v := .ref (ad (16 + 3 * i))) hx hb hts hown E I iX6 (15 + 3 * i) (by omega) (r0 := σ (15 + 3 * i)) rfl (kc_S H_i) rfl 0 (by decide) (List.mem_of_getElem? (i := 1) rfl) rfl dX1_drag_57 ?_
            refine lv_astore (lv' := [(5, .ref (ad (16 + 3 * i))), (4, .int (-1)), (3, .int (nI 0)), (0, .ref (ad 11)), (1, .ref (ad (15 + 3 * i))), (2, .int (nI 0))]) hx hb dX1_drag_60 hl (by decide) rfl (fun ls hl => ?_)
            refine lv_aload_n hx hb dX1_drag_62 rfl (lv_at hl 4 rfl) ?_
            refine k_get (C := RX6) (T := TX6) (N := 10) (v := .ref (ad (17 + 3 * i))) hx hb hts hown E I iX6 (15 + 3 * i) (by omega) (r0 := σ (15 + 3 * i)) rfl (kc_S H_i) rfl 1 (by decide) (List.mem_of_getElem? (i := 2) rfl) rfl dX1_drag_63 ?_
            refine lv_astore (lv' := [(6, .ref (ad (17 + 3 * i))), (5, .ref (ad (16 + 3 * i))), (4, .int (-1)), (3, .int (nI 0)), (0, .ref (ad 11)), (1, .ref (ad (15 + 3 * i))), (2, .int (nI 0))]) hx hb dX1_drag_66 hl (by decide) rfl (fun ls hl => ?_)
            refine lv_aload_n hx hb dX1_drag_68 rfl (lv_at hl 4 rfl) ?_
            refine lv_aload hx hb dX1_drag_69 (lv_at hl 1 rfl) ?_
            refine k_get (C := RX0) (T := TX0) (N := 3) (v := .int (nI (N (23 + 13 * i)))) hx hb hts hown E I iX0 (16 + 3 * i) (by omega) (r0 := σ (16 + 3 * i)) rfl (kc_F H_i) rfl 0 (by decide) (List.mem_of_getElem? (i := 3) rfl) (congrArg (fun z => some (Value.int z)) (rB_f hB hi 0 (by decide))) dX1_drag_71 ?_
            refine lv_iload_n hx hb dX1_drag_74 rfl (lv_at hl 3 rfl) ?_
            refine lv_iadd hx hb dX1_drag_75 ?_
            rw [nI_add]
            refine lv_aload hx hb dX1_drag_76 (lv_at hl 1 rfl) ?_
            refine k_get (C := RX0) (T := TX0) (N := 3) (v := .int (nI (N (23 + 13 * i + 1)))) hx hb hts hown E I iX0 (16 + 3 * i) (by omega) (r0 := σ (16 + 3 * i)) rfl (kc_F H_i) rfl 1 (by decide) (List.mem_of_getElem? (i := 4) rfl) (congrArg (fun z => some (Value.int z)) (rB_f hB hi 1 (by decide))) dX1_drag_78 ?_
            refine lv_iload hx hb dX1_drag_81 (lv_at hl 2 rfl) ?_
            refine lv_iadd hx hb dX1_drag_83 ?_
            refine k_calli (k := 11) (As := [.int (nI ((N (23 + 13 * i)) + 0)), .int ((nI (N (23 + 13 * i + 1))) + (-1))]) (rest := []) ⟨hx, hb, hml, hown, hts⟩ (c_X1_isCell cy D ad l σ ((nI ((N (23 + 13 * i)) + 0))) (((nI (N (23 + 13 * i + 1))) + (-1))) (N 0) (by omega) (by omega) hB.1.1) (cwV 2 hts gX1_drag_X1_isCell rfl rfl rfl (by decide +kernel) ⟨Nat.le_of_ble_eq_true rfl, Nat.le_of_ble_eq_true rfl⟩) E hA I (k_recv E I (by decide) kc_11 rfl) rfl hl.1 rfl (lv_room (Nat.le_of_ble_eq_true rfl)) dX1_drag_84 ⟨Nat.le_of_ble_eq_true rfl, Nat.le_of_ble_eq_true rfl⟩ (fun r_84 σ_84 H locs hp_84 I => ?_)
            obtain ⟨hk_, rfl⟩ := hp_84
            first | rw [nI_toInt (by omega), nI_toInt (by omega)] at hk_ | rw [km1_toInt (by omega), nI_toInt (by omega)] at hk_ | rw [nI_toInt (by omega), km1_toInt (by omega)] at hk_
            rcases hk_ with ⟨rfl, g1⟩ | ⟨rfl, g1⟩
            · refine lv_if_eq (tgt := 123) hx hb dX1_drag_87 (by decide) (fun c_87 => ?_) (fun c_87 => ?_)
              · exact absurd c_87 (by decide)
              · refine lv_aload_n hx hb dX1_drag_90 rfl (lv_at hl 5 rfl) ?_
                refine k_get (C := RX6) (T := TX6) (N := 10) (v := .int (nI (N (23 + 13 * i + 9)))) hx hb hts hown E I iX6 (15 + 3 * i) (by omega) (r0 := σ (15 + 3 * i)) rfl (kc_S H_i) rfl 2 (by decide) (List.mem_of_getElem? (i := 5) rfl) (congrArg (fun z => some (Value.int z)) (rB_f hB hi 9 (by decide))) dX1_drag_91 ?_
                refine lv_if_eq (tgt := 119) hx hb dX1_drag_94 (by decide) (fun c_94 => ?_) (fun c_94 => ?_)
                · have c_94 : (N (23 + 13 * i + 9)) = 0 := (nI_eq (by omega) (by decide)).mp c_94
                  have hm0 : N (23 + 13 * i + 9) = 0 := by omega
                  refine lv_iconst (v := nI 1) hx hb dX1_drag_119 (by decide) ?_
                  refine lv_goto (tgt := 124) hx hb dX1_drag_120 (by decide) ?_
                  refine lv_istore (lv' := [(7, .int (nI 1)), (6, .ref (ad (17 + 3 * i))), (5, .ref (ad (16 + 3 * i))), (4, .int (-1)), (3, .int (nI 0)), (0, .ref (ad 11)), (1, .ref (ad (15 + 3 * i))), (2, .int (nI 0))]) hx hb dX1_drag_124 hl (by decide) rfl (fun ls hl => ?_)
                  refine lv_iload hx hb dX1_drag_126 (lv_at hl 0 rfl) ?_
                  refine lv_if_ne (tgt := 137) hx hb dX1_drag_128 (by decide) (fun c_128 => ?_) (fun c_128 => ?_)
                  · refine lv_aload hx hb dX1_drag_137 (lv_at hl 2 rfl) ?_
                    refine lv_aload hx hb dX1_drag_139 (lv_at hl 2 rfl) ?_
                    refine k_get (C := RX0) (T := TX0) (N := 3) (v := .int (nI (N (23 + 13 * i)))) hx hb hts hown E I iX0 (16 + 3 * i) (by omega) (r0 := σ (16 + 3 * i)) rfl (kc_F H_i) rfl 0 (by decide) (List.mem_of_getElem? (i := 3) rfl) (congrArg (fun z => some (Value.int z)) (rB_f hB hi 0 (by decide))) dX1_drag_141 ?_
                    refine lv_iload_n hx hb dX1_drag_144 rfl (lv_at hl 4 rfl) ?_
                    refine lv_iadd hx hb dX1_drag_145 ?_
                    rw [nI_add]
                    refine lv_aload hx hb dX1_drag_146 (lv_at hl 2 rfl) ?_
                    refine k_get (C := RX0) (T := TX0) (N := 3) (v := .int (nI (N (23 + 13 * i + 1)))) hx hb hts hown E I iX0 (16 + 3 * i) (by omega) (r0 := σ (16 + 3 * i)) rfl (kc_F H_i) rfl 1 (by decide) (List.mem_of_getElem? (i := 4) rfl) (congrArg (fun z => some (Value.int z)) (rB_f hB hi 1 (by decide))) dX1_drag_148 ?_
                    refine lv_iload hx hb dX1_drag_151 (lv_at hl 3 rfl) ?_
                    refine lv_iadd hx hb dX1_drag_153 ?_
                    refine lv_aload hx hb dX1_drag_154 (lv_at hl 2 rfl) ?_
                    refine k_get (C := RX0) (T := TX0) (N := 3) (v := .int (nI (N (23 + 13 * i + 2)))) hx hb hts hown E I iX0 (16 + 3 * i) (by omega) (r0 := σ (16 + 3 * i)) rfl (kc_F H_i) rfl 2 (by decide) (List.mem_of_getElem? (i := 7) rfl) (congrArg (fun z => some (Value.int z)) (rB_f hB hi 2 (by decide))) dX1_drag_156 ?_
                    refine k_callv (k := 16 + 3 * i) (As := [.int (nI ((N (23 + 13 * i)) + 0)), .int ((nI (N (23 + 13 * i + 1))) + (-1)), .int (nI (N (23 + 13 * i + 2)))]) (rest := []) ⟨hx, hb, hml, hown, hts⟩ (c_X0_put cy D ad l σ i H_i ((nI ((N (23 + 13 * i)) + 0))) (((nI (N (23 + 13 * i + 1))) + (-1))) ((nI (N (23 + 13 * i + 2))))) (cwV 3 hts gX1_drag_X0_put rfl rfl rfl (by decide +kernel) ⟨Nat.le_of_ble_eq_true rfl, Nat.le_of_ble_eq_true rfl⟩) E hA I (k_recv E I (by omega) (kc_F H_i) rfl) rfl hl.1 rfl (lv_room (Nat.le_of_ble_eq_true rfl)) dX1_drag_159 ⟨Nat.le_of_ble_eq_true rfl, Nat.le_of_ble_eq_true rfl⟩ (fun σ_159 H locs hp_159 I => ?_)
                    have hs159 : σ_159 = va_up σ (16 + 3 * i) (upd (upd (upd (σ (16 + 3 * i)) 0 (nI ((N (23 + 13 * i)) + 0))) 1 ((nI (N (23 + 13 * i + 1))) + (-1))) 2 (nI (N (23 + 13 * i + 2)))) := hp_159
                    have e2 : σ_159 (15 + 3 * i) 2 = nI (N (23 + 13 * i + 9)) := by rw [hs159, va_up_ne _ _ (by omega)]; exact rB_f hB hi 9 (by decide)
                    have e4 : σ_159 (15 + 3 * i) 4 = nI (N (23 + 13 * i + 8)) := by rw [hs159, va_up_ne _ _ (by omega)]; exact rB_f hB hi 8 (by decide)
                    refine lv_aload_n hx hb dX1_drag_162 rfl (lv_at hl 6 rfl) ?_
                    refine k_get (C := RX6) (T := TX6) (N := 10) (v := .int (nI (N (23 + 13 * i + 9)))) hx hb hts hown E I iX6 (15 + 3 * i) (by omega) (r0 := σ_159 (15 + 3 * i)) rfl (kc_S H_i) rfl 2 (by decide) (List.mem_of_getElem? (i := 5) rfl) (congrArg (fun z => some (Value.int z)) e2) dX1_drag_163 ?_
                    refine lv_if_eq (tgt := 194) hx hb dX1_drag_166 (by decide) (fun c_166 => ?_) (fun c_166 => ?_)
                    · have c_166 : (N (23 + 13 * i + 9)) = 0 := (nI_eq (by omega) (by decide)).mp c_166
                      refine lv_aload_n hx hb dX1_drag_194 rfl (lv_at hl 6 rfl) ?_
                      refine lv_dup hx hb dX1_drag_195 rfl ?_
                      refine k_get (C := RX6) (T := TX6) (N := 10) (v := .int (nI (N (23 + 13 * i + 8)))) hx hb hts hown E I iX6 (15 + 3 * i) (by omega) (r0 := σ_159 (15 + 3 * i)) rfl (kc_S H_i) rfl 4 (by decide) (List.mem_of_getElem? (i := 8) rfl) (congrArg (fun z => some (Value.int z)) e4) dX1_drag_196 ?_
                      refine lv_iconst (v := nI 1) hx hb dX1_drag_199 (by decide) ?_
                      refine lv_iadd hx hb dX1_drag_200 ?_
                      rw [nI_add]
                      refine k_put (C := RX6) (T := TX6) (N := 10) (ty0 := tyX6) (ty := .int) (v := .int (nI ((N (23 + 13 * i + 8)) + 1))) hx hb hts hown E I iX6 tyX6_ok nmX6 (15 + 3 * i) (by omega) (r0 := σ_159 (15 + 3 * i)) rfl (kc_S H_i) rfl 4 (by decide) (List.mem_of_getElem? (i := 8) rfl) rfl rfl rfl rfl (Nat.le_of_ble_eq_true rfl) (upd (σ_159 (15 + 3 * i)) 4 (nI ((N (23 + 13 * i + 8)) + 1))) (kc_S (cy := cy) (ad := ad) (r := (upd (σ_159 (15 + 3 * i)) 4 (nI ((N (23 + 13 * i + 8)) + 1)))) H_i).symm (σ2 := va_up σ_159 (15 + 3 * i) (upd (σ_159 (15 + 3 * i)) 4 (nI ((N (23 + 13 * i + 8)) + 1)))) rfl dX1_drag_201 (fun H locs I => ?_)
                      exact k_vret hx hb hr hlk I dX1_drag_204 (by first | exact drag_yes2 hB hN hi (by unfold pStay mIn; simp; omega) (by omega) hs159 hs191 rfl (rfl) (sb_m1 (by omega)) (rfl) (sb_m1 (by omega)) | exact drag_yes1 hB hN hi (by unfold pStay mIn; simp; omega) (by omega) hs159 rfl (rfl) (sb_m1 (by omega)))
                    · have c_166 : ¬ ((N (23 + 13 * i + 9)) = 0) := fun q_ => c_166 ((nI_eq (by omega) (by decide)).mpr q_)
                      have gg : ∀ f, f < 3 → σ_159 (17 + 3 * i) f = nI (N (23 + 13 * i + (10 + f))) := fun f hf => by rw [hs159, va_up_ne _ _ (by omega)]; exact rB_g hB hi (by omega) f hf
                      refine lv_aload hx hb dX1_drag_169 (lv_at hl 1 rfl) ?_
                      refine lv_aload hx hb dX1_drag_171 (lv_at hl 1 rfl) ?_
                      refine k_get (C := RX0) (T := TX0) (N := 3) (v := .int (nI (N (23 + 13 * i + 10)))) hx hb hts hown E I iX0 (17 + 3 * i) (by omega) (r0 := σ_159 (17 + 3 * i)) rfl (kc_G H_i) rfl 0 (by decide) (List.mem_of_getElem? (i := 3) rfl) (congrArg (fun z => some (Value.int z)) (gg 0 (by decide))) dX1_drag_173 ?_
                      refine lv_iload_n hx hb dX1_drag_176 rfl (lv_at hl 4 rfl) ?_
                      refine lv_iadd hx hb dX1_drag_177 ?_
                      rw [nI_add]
                      refine lv_aload hx hb dX1_drag_178 (lv_at hl 1 rfl) ?_
                      refine k_get (C := RX0) (T := TX0) (N := 3) (v := .int (nI (N (23 + 13 * i + 11)))) hx hb hts hown E I iX0 (17 + 3 * i) (by omega) (r0 := σ_159 (17 + 3 * i)) rfl (kc_G H_i) rfl 1 (by decide) (List.mem_of_getElem? (i := 4) rfl) (congrArg (fun z => some (Value.int z)) (gg 1 (by decide))) dX1_drag_180 ?_
                      refine lv_iload hx hb dX1_drag_183 (lv_at hl 3 rfl) ?_
                      refine lv_iadd hx hb dX1_drag_185 ?_
                      refine lv_aload hx hb dX1_drag_186 (lv_at hl 1 rfl) ?_
                      refine k_get (C := RX0) (T := TX0) (N := 3) (v := .int (nI (N (23 + 13 * i + 12)))) hx hb hts hown E I iX0 (17 + 3 * i) (by omega) (r0 := σ_159 (17 + 3 * i)) rfl (kc_G H_i) rfl 2 (by decide) (List.mem_of_getElem? (i := 7) rfl) (congrArg (fun z => some (Value.int z)) (gg 2 (by decide))) dX1_drag_188 ?_
                      refine k_callv (k := 17 + 3 * i) (As := [.int (nI ((N (23 + 13 * i + 10)) + 0)), .int ((nI (N (23 + 13 * i + 11))) + (-1)), .int (nI (N (23 + 13 * i + 12)))]) (rest := []) ⟨hx, hb, hml, hown, hts⟩ (c_X0_put2 cy D ad l σ_159 i H_i ((nI ((N (23 + 13 * i + 10)) + 0))) (((nI (N (23 + 13 * i + 11))) + (-1))) ((nI (N (23 + 13 * i + 12))))) (cwV 3 hts gX1_drag_X0_put rfl rfl rfl (by decide +kernel) ⟨Nat.le_of_ble_eq_true rfl, Nat.le_of_ble_eq_true rfl⟩) E hA I (k_recv E I (by omega) (kc_G H_i) rfl) rfl hl.1 rfl (lv_room (Nat.le_of_ble_eq_true rfl)) dX1_drag_191 ⟨Nat.le_of_ble_eq_true rfl, Nat.le_of_ble_eq_true rfl⟩ (fun σ_191 H locs hp_191 I => ?_)
                      have hs191 : σ_191 = va_up σ_159 (17 + 3 * i) (upd (upd (upd (σ_159 (17 + 3 * i)) 0 (nI ((N (23 + 13 * i + 10)) + 0))) 1 ((nI (N (23 + 13 * i + 11))) + (-1))) 2 (nI (N (23 + 13 * i + 12)))) := hp_191
                      have e4 : σ_191 (15 + 3 * i) 4 = nI (N (23 + 13 * i + 8)) := by rw [hs191, va_up_ne _ _ (by omega)]; exact e4
                      refine lv_aload_n hx hb dX1_drag_194 rfl (lv_at hl 6 rfl) ?_
                      refine lv_dup hx hb dX1_drag_195 rfl ?_
                      refine k_get (C := RX6) (T := TX6) (N := 10) (v := .int (nI (N (23 + 13 * i + 8)))) hx hb hts hown E I iX6 (15 + 3 * i) (by omega) (r0 := σ_191 (15 + 3 * i)) rfl (kc_S H_i) rfl 4 (by decide) (List.mem_of_getElem? (i := 8) rfl) (congrArg (fun z => some (Value.int z)) e4) dX1_drag_196 ?_
                      refine lv_iconst (v := nI 1) hx hb dX1_drag_199 (by decide) ?_
                      refine lv_iadd hx hb dX1_drag_200 ?_
                      rw [nI_add]
                      refine k_put (C := RX6) (T := TX6) (N := 10) (ty0 := tyX6) (ty := .int) (v := .int (nI ((N (23 + 13 * i + 8)) + 1))) hx hb hts hown E I iX6 tyX6_ok nmX6 (15 + 3 * i) (by omega) (r0 := σ_191 (15 + 3 * i)) rfl (kc_S H_i) rfl 4 (by decide) (List.mem_of_getElem? (i := 8) rfl) rfl rfl rfl rfl (Nat.le_of_ble_eq_true rfl) (upd (σ_191 (15 + 3 * i)) 4 (nI ((N (23 + 13 * i + 8)) + 1))) (kc_S (cy := cy) (ad := ad) (r := (upd (σ_191 (15 + 3 * i)) 4 (nI ((N (23 + 13 * i + 8)) + 1)))) H_i).symm (σ2 := va_up σ_191 (15 + 3 * i) (upd (σ_191 (15 + 3 * i)) 4 (nI ((N (23 + 13 * i + 8)) + 1)))) rfl dX1_drag_201 (fun H locs I => ?_)
                      exact k_vret hx hb hr hlk I dX1_drag_204 (by first | exact drag_yes2 hB hN hi (by unfold pStay mIn; simp; omega) (by omega) hs159 hs191 rfl (rfl) (sb_m1 (by omega)) (rfl) (sb_m1 (by omega)) | exact drag_yes1 hB hN hi (by unfold pStay mIn; simp; omega) (by omega) hs159 rfl (rfl) (sb_m1 (by omega)))
                  · exact absurd c_128 (by decide)
                · have c_94 : ¬ ((N (23 + 13 * i + 9)) = 0) := fun q_ => c_94 ((nI_eq (by omega) (by decide)).mpr q_)
                  have hm : N (23 + 13 * i + 9) = 1 := by omega
                  have hs2 := hsh.2.2.2.2.1 hm
                  refine lv_aload_n hx hb dX1_drag_97 rfl (lv_at hl 4 rfl) ?_
                  refine lv_aload hx hb dX1_drag_98 (lv_at hl 0 rfl) ?_
                  refine k_get (C := RX0) (T := TX0) (N := 3) (v := .int (nI (N (23 + 13 * i + 10)))) hx hb hts hown E I iX0 (17 + 3 * i) (by omega) (r0 := σ (17 + 3 * i)) rfl (kc_G H_i) rfl 0 (by decide) (List.mem_of_getElem? (i := 3) rfl) (congrArg (fun z => some (Value.int z)) (rB_g hB hi hm 0 (by decide))) dX1_drag_100 ?_
                  refine lv_iload_n hx hb dX1_drag_103 rfl (lv_at hl 3 rfl) ?_
                  refine lv_iadd hx hb dX1_drag_104 ?_
                  rw [nI_add]
                  refine lv_aload hx hb dX1_drag_105 (lv_at hl 0 rfl) ?_
                  refine k_get (C := RX0) (T := TX0) (N := 3) (v := .int (nI (N (23 + 13 * i + 11)))) hx hb hts hown E I iX0 (17 + 3 * i) (by omega) (r0 := σ (17 + 3 * i)) rfl (kc_G H_i) rfl 1 (by decide) (List.mem_of_getElem? (i := 4) rfl) (congrArg (fun z => some (Value.int z)) (rB_g hB hi hm 1 (by decide))) dX1_drag_107 ?_
                  refine lv_iload hx hb dX1_drag_110 (lv_at hl 2 rfl) ?_
                  refine lv_iadd hx hb dX1_drag_112 ?_
                  refine k_calli (k := 11) (As := [.int (nI ((N (23 + 13 * i + 10)) + 0)), .int ((nI (N (23 + 13 * i + 11))) + (-1))]) (rest := []) ⟨hx, hb, hml, hown, hts⟩ (c_X1_isCell cy D ad l σ ((nI ((N (23 + 13 * i + 10)) + 0))) (((nI (N (23 + 13 * i + 11))) + (-1))) (N 0) (by omega) (by omega) hB.1.1) (cwV 2 hts gX1_drag_X1_isCell rfl rfl rfl (by decide +kernel) ⟨Nat.le_of_ble_eq_true rfl, Nat.le_of_ble_eq_true rfl⟩) E hA I (k_recv E I (by decide) kc_11 rfl) rfl hl.1 rfl (lv_room (Nat.le_of_ble_eq_true rfl)) dX1_drag_113 ⟨Nat.le_of_ble_eq_true rfl, Nat.le_of_ble_eq_true rfl⟩ (fun r_113 σ_113 H locs hp_113 I => ?_)
                  obtain ⟨hk_, rfl⟩ := hp_113
                  first | rw [nI_toInt (by omega), nI_toInt (by omega)] at hk_ | rw [km1_toInt (by omega), nI_toInt (by omega)] at hk_ | rw [nI_toInt (by omega), km1_toInt (by omega)] at hk_
                  rcases hk_ with ⟨rfl, g2⟩ | ⟨rfl, g2⟩
                  · refine lv_if_eq (tgt := 123) hx hb dX1_drag_116 (by decide) (fun c_116 => ?_) (fun c_116 => ?_)
                    · exact absurd c_116 (by decide)
                    · refine lv_iconst (v := nI 1) hx hb dX1_drag_119 (by decide) ?_
                      refine lv_goto (tgt := 124) hx hb dX1_drag_120 (by decide) ?_
                      refine lv_istore (lv' := [(7, .int (nI 1)), (6, .ref (ad (17 + 3 * i))), (5, .ref (ad (16 + 3 * i))), (4, .int (-1)), (3, .int (nI 0)), (0, .ref (ad 11)), (1, .ref (ad (15 + 3 * i))), (2, .int (nI 0))]) hx hb dX1_drag_124 hl (by decide) rfl (fun ls hl => ?_)
                      refine lv_iload hx hb dX1_drag_126 (lv_at hl 0 rfl) ?_
                      refine lv_if_ne (tgt := 137) hx hb dX1_drag_128 (by decide) (fun c_128 => ?_) (fun c_128 => ?_)
                      · refine lv_aload hx hb dX1_drag_137 (lv_at hl 2 rfl) ?_
                        refine lv_aload hx hb dX1_drag_139 (lv_at hl 2 rfl) ?_
                        refine k_get (C := RX0) (T := TX0) (N := 3) (v := .int (nI (N (23 + 13 * i)))) hx hb hts hown E I iX0 (16 + 3 * i) (by omega) (r0 := σ (16 + 3 * i)) rfl (kc_F H_i) rfl 0 (by decide) (List.mem_of_getElem? (i := 3) rfl) (congrArg (fun z => some (Value.int z)) (rB_f hB hi 0 (by decide))) dX1_drag_141 ?_
                        refine lv_iload_n hx hb dX1_drag_144 rfl (lv_at hl 4 rfl) ?_
                        refine lv_iadd hx hb dX1_drag_145 ?_
                        rw [nI_add]
                        refine lv_aload hx hb dX1_drag_146 (lv_at hl 2 rfl) ?_
                        refine k_get (C := RX0) (T := TX0) (N := 3) (v := .int (nI (N (23 + 13 * i + 1)))) hx hb hts hown E I iX0 (16 + 3 * i) (by omega) (r0 := σ (16 + 3 * i)) rfl (kc_F H_i) rfl 1 (by decide) (List.mem_of_getElem? (i := 4) rfl) (congrArg (fun z => some (Value.int z)) (rB_f hB hi 1 (by decide))) dX1_drag_148 ?_
                        refine lv_iload hx hb dX1_drag_151 (lv_at hl 3 rfl) ?_
                        refine lv_iadd hx hb dX1_drag_153 ?_
                        refine lv_aload hx hb dX1_drag_154 (lv_at hl 2 rfl) ?_
                        refine k_get (C := RX0) (T := TX0) (N := 3) (v := .int (nI (N (23 + 13 * i + 2)))) hx hb hts hown E I iX0 (16 + 3 * i) (by omega) (r0 := σ (16 + 3 * i)) rfl (kc_F H_i) rfl 2 (by decide) (List.mem_of_getElem? (i := 7) rfl) (congrArg (fun z => some (Value.int z)) (rB_f hB hi 2 (by decide))) dX1_drag_156 ?_
                        refine k_callv (k := 16 + 3 * i) (As := [.int (nI ((N (23 + 13 * i)) + 0)), .int ((nI (N (23 + 13 * i + 1))) + (-1)), .int (nI (N (23 + 13 * i + 2)))]) (rest := []) ⟨hx, hb, hml, hown, hts⟩ (c_X0_put cy D ad l σ i H_i ((nI ((N (23 + 13 * i)) + 0))) (((nI (N (23 + 13 * i + 1))) + (-1))) ((nI (N (23 + 13 * i + 2))))) (cwV 3 hts gX1_drag_X0_put rfl rfl rfl (by decide +kernel) ⟨Nat.le_of_ble_eq_true rfl, Nat.le_of_ble_eq_true rfl⟩) E hA I (k_recv E I (by omega) (kc_F H_i) rfl) rfl hl.1 rfl (lv_room (Nat.le_of_ble_eq_true rfl)) dX1_drag_159 ⟨Nat.le_of_ble_eq_true rfl, Nat.le_of_ble_eq_true rfl⟩ (fun σ_159 H locs hp_159 I => ?_)
                        have hs159 : σ_159 = va_up σ (16 + 3 * i) (upd (upd (upd (σ (16 + 3 * i)) 0 (nI ((N (23 + 13 * i)) + 0))) 1 ((nI (N (23 + 13 * i + 1))) + (-1))) 2 (nI (N (23 + 13 * i + 2)))) := hp_159
                        have e2 : σ_159 (15 + 3 * i) 2 = nI (N (23 + 13 * i + 9)) := by rw [hs159, va_up_ne _ _ (by omega)]; exact rB_f hB hi 9 (by decide)
                        have e4 : σ_159 (15 + 3 * i) 4 = nI (N (23 + 13 * i + 8)) := by rw [hs159, va_up_ne _ _ (by omega)]; exact rB_f hB hi 8 (by decide)
                        refine lv_aload_n hx hb dX1_drag_162 rfl (lv_at hl 6 rfl) ?_
                        refine k_get (C := RX6) (T := TX6) (N := 10) (v := .int (nI (N (23 + 13 * i + 9)))) hx hb hts hown E I iX6 (15 + 3 * i) (by omega) (r0 := σ_159 (15 + 3 * i)) rfl (kc_S H_i) rfl 2 (by decide) (List.mem_of_getElem? (i := 5) rfl) (congrArg (fun z => some (Value.int z)) e2) dX1_drag_163 ?_
                        refine lv_if_eq (tgt := 194) hx hb dX1_drag_166 (by decide) (fun c_166 => ?_) (fun c_166 => ?_)
                        · have c_166 : (N (23 + 13 * i + 9)) = 0 := (nI_eq (by omega) (by decide)).mp c_166
                          refine lv_aload_n hx hb dX1_drag_194 rfl (lv_at hl 6 rfl) ?_
                          refine lv_dup hx hb dX1_drag_195 rfl ?_
                          refine k_get (C := RX6) (T := TX6) (N := 10) (v := .int (nI (N (23 + 13 * i + 8)))) hx hb hts hown E I iX6 (15 + 3 * i) (by omega) (r0 := σ_159 (15 + 3 * i)) rfl (kc_S H_i) rfl 4 (by decide) (List.mem_of_getElem? (i := 8) rfl) (congrArg (fun z => some (Value.int z)) e4) dX1_drag_196 ?_
                          refine lv_iconst (v := nI 1) hx hb dX1_drag_199 (by decide) ?_
                          refine lv_iadd hx hb dX1_drag_200 ?_
                          rw [nI_add]
                          refine k_put (C := RX6) (T := TX6) (N := 10) (ty0 := tyX6) (ty := .int) (v := .int (nI ((N (23 + 13 * i + 8)) + 1))) hx hb hts hown E I iX6 tyX6_ok nmX6 (15 + 3 * i) (by omega) (r0 := σ_159 (15 + 3 * i)) rfl (kc_S H_i) rfl 4 (by decide) (List.mem_of_getElem? (i := 8) rfl) rfl rfl rfl rfl (Nat.le_of_ble_eq_true rfl) (upd (σ_159 (15 + 3 * i)) 4 (nI ((N (23 + 13 * i + 8)) + 1))) (kc_S (cy := cy) (ad := ad) (r := (upd (σ_159 (15 + 3 * i)) 4 (nI ((N (23 + 13 * i + 8)) + 1)))) H_i).symm (σ2 := va_up σ_159 (15 + 3 * i) (upd (σ_159 (15 + 3 * i)) 4 (nI ((N (23 + 13 * i + 8)) + 1)))) rfl dX1_drag_201 (fun H locs I => ?_)
                          exact k_vret hx hb hr hlk I dX1_drag_204 (by first | exact drag_yes2 hB hN hi (by unfold pStay mIn; simp; omega) (by omega) hs159 hs191 rfl (rfl) (sb_m1 (by omega)) (rfl) (sb_m1 (by omega)) | exact drag_yes1 hB hN hi (by unfold pStay mIn; simp; omega) (by omega) hs159 rfl (rfl) (sb_m1 (by omega)))
                        · have c_166 : ¬ ((N (23 + 13 * i + 9)) = 0) := fun q_ => c_166 ((nI_eq (by omega) (by decide)).mpr q_)
                          have gg : ∀ f, f < 3 → σ_159 (17 + 3 * i) f = nI (N (23 + 13 * i + (10 + f))) := fun f hf => by rw [hs159, va_up_ne _ _ (by omega)]; exact rB_g hB hi (by omega) f hf
                          refine lv_aload hx hb dX1_drag_169 (lv_at hl 1 rfl) ?_
                          refine lv_aload hx hb dX1_drag_171 (lv_at hl 1 rfl) ?_
                          refine k_get (C := RX0) (T := TX0) (N := 3) (v := .int (nI (N (23 + 13 * i + 10)))) hx hb hts hown E I iX0 (17 + 3 * i) (by omega) (r0 := σ_159 (17 + 3 * i)) rfl (kc_G H_i) rfl 0 (by decide) (List.mem_of_getElem? (i := 3) rfl) (congrArg (fun z => some (Value.int z)) (gg 0 (by decide))) dX1_drag_173 ?_
                          refine lv_iload_n hx hb dX1_drag_176 rfl (lv_at hl 4 rfl) ?_
                          refine lv_iadd hx hb dX1_drag_177 ?_
                          rw [nI_add]
                          refine lv_aload hx hb dX1_drag_178 (lv_at hl 1 rfl) ?_
                          refine k_get (C := RX0) (T := TX0) (N := 3) (v := .int (nI (N (23 + 13 * i + 11)))) hx hb hts hown E I iX0 (17 + 3 * i) (by omega) (r0 := σ_159 (17 + 3 * i)) rfl (kc_G H_i) rfl 1 (by decide) (List.mem_of_getElem? (i := 4) rfl) (congrArg (fun z => some (Value.int z)) (gg 1 (by decide))) dX1_drag_180 ?_
                          refine lv_iload hx hb dX1_drag_183 (lv_at hl 3 rfl) ?_
                          refine lv_iadd hx hb dX1_drag_185 ?_
                          refine lv_aload hx hb dX1_drag_186 (lv_at hl 1 rfl) ?_
                          refine k_get (C := RX0) (T := TX0) (N := 3) (v := .int (nI (N (23 + 13 * i + 12)))) hx hb hts hown E I iX0 (17 + 3 * i) (by omega) (r0 := σ_159 (17 + 3 * i)) rfl (kc_G H_i) rfl 2 (by decide) (List.mem_of_getElem? (i := 7) rfl) (congrArg (fun z => some (Value.int z)) (gg 2 (by decide))) dX1_drag_188 ?_
                          refine k_callv (k := 17 + 3 * i) (As := [.int (nI ((N (23 + 13 * i + 10)) + 0)), .int ((nI (N (23 + 13 * i + 11))) + (-1)), .int (nI (N (23 + 13 * i + 12)))]) (rest := []) ⟨hx, hb, hml, hown, hts⟩ (c_X0_put2 cy D ad l σ_159 i H_i ((nI ((N (23 + 13 * i + 10)) + 0))) (((nI (N (23 + 13 * i + 11))) + (-1))) ((nI (N (23 + 13 * i + 12))))) (cwV 3 hts gX1_drag_X0_put rfl rfl rfl (by decide +kernel) ⟨Nat.le_of_ble_eq_true rfl, Nat.le_of_ble_eq_true rfl⟩) E hA I (k_recv E I (by omega) (kc_G H_i) rfl) rfl hl.1 rfl (lv_room (Nat.le_of_ble_eq_true rfl)) dX1_drag_191 ⟨Nat.le_of_ble_eq_true rfl, Nat.le_of_ble_eq_true rfl⟩ (fun σ_191 H locs hp_191 I => ?_)
                          have hs191 : σ_191 = va_up σ_159 (17 + 3 * i) (upd (upd (upd (σ_159 (17 + 3 * i)) 0 (nI ((N (23 + 13 * i + 10)) + 0))) 1 ((nI (N (23 + 13 * i + 11))) + (-1))) 2 (nI (N (23 + 13 * i + 12)))) := hp_191
                          have e4 : σ_191 (15 + 3 * i) 4 = nI (N (23 + 13 * i + 8)) := by rw [hs191, va_up_ne _ _ (by omega)]; exact e4
                          refine lv_aload_n hx hb dX1_drag_194 rfl (lv_at hl 6 rfl) ?_
                          refine lv_dup hx hb dX1_drag_195 rfl ?_
                          refine k_get (C := RX6) (T := TX6) (N := 10) (v := .int (nI (N (23 + 13 * i + 8)))) hx hb hts hown E I iX6 (15 + 3 * i) (by omega) (r0 := σ_191 (15 + 3 * i)) rfl (kc_S H_i) rfl 4 (by decide) (List.mem_of_getElem? (i := 8) rfl) (congrArg (fun z => some (Value.int z)) e4) dX1_drag_196 ?_
                          refine lv_iconst (v := nI 1) hx hb dX1_drag_199 (by decide) ?_
                          refine lv_iadd hx hb dX1_drag_200 ?_
                          rw [nI_add]
                          refine k_put (C := RX6) (T := TX6) (N := 10) (ty0 := tyX6) (ty := .int) (v := .int (nI ((N (23 + 13 * i + 8)) + 1))) hx hb hts hown E I iX6 tyX6_ok nmX6 (15 + 3 * i) (by omega) (r0 := σ_191 (15 + 3 * i)) rfl (kc_S H_i) rfl 4 (by decide) (List.mem_of_getElem? (i := 8) rfl) rfl rfl rfl rfl (Nat.le_of_ble_eq_true rfl) (upd (σ_191 (15 + 3 * i)) 4 (nI ((N (23 + 13 * i + 8)) + 1))) (kc_S (cy := cy) (ad := ad) (r := (upd (σ_191 (15 + 3 * i)) 4 (nI ((N (23 + 13 * i + 8)) + 1)))) H_i).symm (σ2 := va_up σ_191 (15 + 3 * i) (upd (σ_191 (15 + 3 * i)) 4 (nI ((N (23 + 13 * i + 8)) + 1)))) rfl dX1_drag_201 (fun H locs I => ?_)
                          exact k_vret hx hb hr hlk I dX1_drag_204 (by first | exact drag_yes2 hB hN hi (by unfold pStay mIn; simp; omega) (by omega) hs159 hs191 rfl (rfl) (sb_m1 (by omega)) (rfl) (sb_m1 (by omega)) | exact drag_yes1 hB hN hi (by unfold pStay mIn; simp; omega) (by omega) hs159 rfl (rfl) (sb_m1 (by omega)))
                      · exact absurd c_128 (by decide)
                  · refine lv_if_eq (tgt := 123) hx hb dX1_drag_116 (by decide) (fun c_116 => ?_) (fun c_116 => ?_)
                    · refine lv_iconst (v := nI 0) hx hb dX1_drag_123 (by decide) ?_
                      refine lv_istore (lv' := [(7, .int (nI 0)), (6, .ref (ad (17 + 3 * i))), (5, .ref (ad (16 + 3 * i))), (4, .int (-1)), (3, .int (nI 0)), (0, .ref (ad 11)), (1, .ref (ad (15 + 3 * i))), (2, .int (nI 0))]) hx hb dX1_drag_124 hl (by decide) rfl (fun ls hl => ?_)
                      refine lv_iload hx hb dX1_drag_126 (lv_at hl 0 rfl) ?_
                      refine lv_if_ne (tgt := 137) hx hb dX1_drag_128 (by decide) (fun c_128 => ?_) (fun c_128 => ?_)
                      · exact absurd c_128 (by decide)
                      · refine lv_aload_n hx hb dX1_drag_131 rfl (lv_at hl 6 rfl) ?_
                        refine lv_iconst (v := nI 1) hx hb dX1_drag_132 (by decide) ?_
                        refine k_put (C := RX6) (T := TX6) (N := 10) (ty0 := tyX6) (ty := .boolean) (v := .int (nI 1)) hx hb hts hown E I iX6 tyX6_ok nmX6 (15 + 3 * i) (by omega) (r0 := σ (15 + 3 * i)) rfl (kc_S H_i) rfl 3 (by decide) (List.mem_of_getElem? (i := 6) rfl) rfl rfl (by decide) (by decide) (Nat.le_of_ble_eq_true rfl) (upd (σ (15 + 3 * i)) 3 (nI 1)) (kc_S (cy := cy) (ad := ad) (r := (upd (σ (15 + 3 * i)) 3 (nI 1))) H_i).symm (σ2 := va_up σ (15 + 3 * i) (upd (σ (15 + 3 * i)) 3 (nI 1))) rfl dX1_drag_133 (fun H locs I => ?_)
                        exact k_vret hx hb hr hlk I dX1_drag_136 (drag_no hB hN hi (by unfold pStay mIn; simp; omega) rfl)
                    · exact absurd c_116 (by decide)
            · refine lv_if_eq (tgt := 123) hx hb dX1_drag_87 (by decide) (fun c_87 => ?_) (fun c_87 => ?_)
              · refine lv_iconst (v := nI 0) hx hb dX1_drag_123 (by decide) ?_
                refine lv_istore (lv' := [(7, .int (nI 0)), (6, .ref (ad (17 + 3 * i))), (5, .ref (ad (16 + 3 * i))), (4, .int (-1)), (3, .int (nI 0)), (0, .ref (ad 11)), (1, .ref (ad (15 + 3 * i))), (2, .int (nI 0))]) hx hb dX1_drag_124 hl (by decide) rfl (fun ls hl => ?_)
                refine lv_iload hx hb dX1_drag_126 (lv_at hl 0 rfl) ?_
                refine lv_if_ne (tgt := 137) hx hb dX1_drag_128 (by decide) (fun c_128 => ?_) (fun c_128 => ?_)
                · exact absurd c_128 (by decide)
                · refine lv_aload_n hx hb dX1_drag_131 rfl (lv_at hl 6 rfl) ?_
                  refine lv_iconst (v := nI 1) hx hb dX1_drag_132 (by decide) ?_
                  refine k_put (C := RX6) (T := TX6) (N := 10) (ty0 := tyX6) (ty := .boolean) (v := .int (nI 1)) hx hb hts hown E I iX6 tyX6_ok nmX6 (15 + 3 * i) (by omega) (r0 := σ (15 + 3 * i)) rfl (kc_S H_i) rfl 3 (by decide) (List.mem_of_getElem? (i := 6) rfl) rfl rfl (by decide) (by decide) (Nat.le_of_ble_eq_true rfl) (upd (σ (15 + 3 * i)) 3 (nI 1)) (kc_S (cy := cy) (ad := ad) (r := (upd (σ (15 + 3 * i)) 3 (nI 1))) H_i).symm (σ2 := va_up σ (15 + 3 * i) (upd (σ (15 + 3 * i)) 3 (nI 1))) rfl dX1_drag_133 (fun H locs I => ?_)
                  exact k_vret hx hb hr hlk I dX1_drag_136 (drag_no hB hN hi (by unfold pStay mIn; simp; omega) rfl)
              · exact absurd c_87 (by decide)
        · exact absurd c_30 (by decide)
      · exact absurd c_15 (by decide)
    · exact absurd c_2 (by decide)
  · refine lv_iload_n hx hb dX1_drag_0 rfl (lv_at hl 2 rfl) ?_
    refine lv_iconst (v := nI 1) hx hb dX1_drag_1 (by decide) ?_
    refine lv_icmp_ne (tgt := 9) hx hb dX1_drag_2 (by decide) (fun c_2 => ?_) (fun c_2 => ?_)
    · exact absurd c_2 (by decide)
    · refine lv_iconst (v := nI 1) hx hb dX1_drag_5 (by decide) ?_
      refine lv_goto (tgt := 10) hx hb dX1_drag_6 (by decide) ?_
      refine k_callsN (As := [.int (nI 1)]) (rest := []) ⟨hx, hb, hml, hown, hts⟩ (c_X7_oneIf l (nI 1) (by first | exact Or.inl rfl | exact Or.inr rfl)) ⟨va_cnB 1 hts gX1_drag_X7_oneIf_n151 rfl rfl rfl E.2.1.2.2.2 (hts _ (List.mem_of_getElem? (i := 10) rfl)) (by decide +kernel) ⟨Nat.le_of_ble_eq_true rfl, Nat.le_of_ble_eq_true rfl⟩, hts _ (List.mem_of_getElem? (i := 9) rfl), trivial⟩ rfl hl.1 rfl (lv_room (Nat.le_of_ble_eq_true rfl)) dX1_drag_10 ⟨Nat.le_of_ble_eq_true rfl, Nat.le_of_ble_eq_true rfl⟩ (fun r_10 hp_10 => ?_)
      subst hp_10
      refine lv_iload_n hx hb dX1_drag_13 rfl (lv_at hl 2 rfl) ?_
      refine lv_iconst (v := nI 3) hx hb dX1_drag_14 (by decide) ?_
      refine lv_icmp_ne (tgt := 22) hx hb dX1_drag_15 (by decide) (fun c_15 => ?_) (fun c_15 => ?_)
      · refine lv_iconst (v := nI 0) hx hb dX1_drag_22 (by decide) ?_
        refine k_callsN (As := [.int (nI 0)]) (rest := [.int (nI 1)]) ⟨hx, hb, hml, hown, hts⟩ (c_X7_oneIf l (nI 0) (by first | exact Or.inl rfl | exact Or.inr rfl)) ⟨va_cnB 1 hts gX1_drag_X7_oneIf_n151 rfl rfl rfl E.2.1.2.2.2 (hts _ (List.mem_of_getElem? (i := 10) rfl)) (by decide +kernel) ⟨Nat.le_of_ble_eq_true rfl, Nat.le_of_ble_eq_true rfl⟩, hts _ (List.mem_of_getElem? (i := 9) rfl), trivial⟩ rfl hl.1 rfl (lv_room (Nat.le_of_ble_eq_true rfl)) dX1_drag_23 ⟨Nat.le_of_ble_eq_true rfl, Nat.le_of_ble_eq_true rfl⟩ (fun r_23 hp_23 => ?_)
        subst hp_23
        refine lv_isub hx hb dX1_drag_26 ?_
        refine lv_topi (fun t_26 et_26 => ?_)
        have et_26 : t_26 = nI 1 := et_26.trans (by decide)
        subst et_26
        refine lv_istore_n (lv' := [(3, .int (nI 1)), (0, .ref (ad 11)), (1, .ref (ad (15 + 3 * i))), (2, .int (nI 1))]) hx hb dX1_drag_27 rfl hl (by decide) rfl (fun ls hl => ?_)
        refine lv_iload_n hx hb dX1_drag_28 rfl (lv_at hl 3 rfl) ?_
        refine lv_iconst (v := nI 2) hx hb dX1_drag_29 (by decide) ?_
        refine lv_icmp_ne (tgt := 37) hx hb dX1_drag_30 (by decide) (fun c_30 => ?_) (fun c_30 => ?_)
        · refine lv_iconst (v := nI 0) hx hb dX1_drag_37 (by decide) ?_
          refine k_callsN (As := [.int (nI 0)]) (rest := []) ⟨hx, hb, hml, hown, hts⟩ (c_X7_oneIf l (nI 0) (by first | exact Or.inl rfl | exact Or.inr rfl)) ⟨va_cnB 1 hts gX1_drag_X7_oneIf_n151 rfl rfl rfl E.2.1.2.2.2 (hts _ (List.mem_of_getElem? (i := 10) rfl)) (by decide +kernel) ⟨Nat.le_of_ble_eq_true rfl, Nat.le_of_ble_eq_true rfl⟩, hts _ (List.mem_of_getElem? (i := 9) rfl), trivial⟩ rfl hl.1 rfl (lv_room (Nat.le_of_ble_eq_true rfl)) dX1_drag_38 ⟨Nat.le_of_ble_eq_true rfl, Nat.le_of_ble_eq_true rfl⟩ (fun r_38 hp_38 => ?_)
          subst hp_38
          refine lv_iload_n hx hb dX1_drag_41 rfl (lv_at hl 3 rfl) ?_
          refine lv_if_ne (tgt := 49) hx hb dX1_drag_42 (by decide) (fun c_42 => ?_) (fun c_42 => ?_)
          · refine lv_iconst (v := nI 0) hx hb dX1_drag_49 (by decide) ?_
            refine k_callsN (As := [.int (nI 0)]) (rest := [.int (nI 0)]) ⟨hx, hb, hml, hown, hts⟩ (c_X7_oneIf l (nI 0) (by first | exact Or.inl rfl | exact Or.inr rfl)) ⟨va_cnB 1 hts gX1_drag_X7_oneIf_n151 rfl rfl rfl E.2.1.2.2.2 (hts _ (List.mem_of_getElem? (i := 10) rfl)) (by decide +kernel) ⟨Nat.le_of_ble_eq_true rfl, Nat.le_of_ble_eq_true rfl⟩, hts _ (List.mem_of_getElem? (i := 9) rfl), trivial⟩ rfl hl.1 rfl (lv_room (Nat.le_of_ble_eq_true rfl)) dX1_drag_50 ⟨Nat.le_of_ble_eq_true rfl, Nat.le_of_ble_eq_true rfl⟩ (fun r_50 hp_50 => ?_)
            subst hp_50
            refine lv_isub hx hb dX1_drag_53 ?_
            refine lv_topi (fun t_53 et_53 => ?_)
            have et_53 : t_53 = nI 0 := et_53.trans (by decide)
            subst et_53
            refine lv_istore (lv' := [(4, .int (nI 0)), (3, .int (nI 1)), (0, .ref (ad 11)), (1, .ref (ad (15 + 3 * i))), (2, .int (nI 1))]) hx hb dX1_drag_54 hl (by decide) rfl (fun ls hl => ?_)
            refine lv_aload_n hx hb dX1_drag_56 rfl (lv_at hl 3 rfl) ?_
            refine k_get (C := RX6) (T := TX6) (N := 10) (v := .ref (ad (16 + 3 * i))) hx hb hts hown E I iX6 (15 + 3 * i) (by omega) (r0 := σ (15 + 3 * i)) rfl (kc_S H_i) rfl 0 (by decide) (List.mem_of_getElem? (i := 1) rfl) rfl dX1_drag_57 ?_
            refine lv_astore (lv' := [(5, .ref (ad (16 + 3 * i))), (4, .int (nI 0)), (3, .int (nI 1)), (0, .ref (ad 11)), (1, .ref (ad (15 + 3 * i))), (2, .int (nI 1))]) hx hb dX1_drag_60 hl (by decide) rfl (fun ls hl => ?_)
            refine lv_aload_n hx hb dX1_drag_62 rfl (lv_at hl 4 rfl) ?_
            refine k_get (C := RX6) (T := TX6) (N := 10) (v := .ref (ad (17 + 3 * i))) hx hb hts hown E I iX6 (15 + 3 * i) (by omega) (r0 := σ (15 + 3 * i)) rfl (kc_S H_i) rfl 1 (by decide) (List.mem_of_getElem? (i := 2) rfl) rfl dX1_drag_63 ?_
            refine lv_astore (lv' := [(6, .ref (ad (17 + 3 * i))), (5, .ref (ad (16 + 3 * i))), (4, .int (nI 0)), (3, .int (nI 1)), (0, .ref (ad 11)), (1, .ref (ad (15 + 3 * i))), (2, .int (nI 1))]) hx hb dX1_drag_66 hl (by decide) rfl (fun ls hl => ?_)
            refine lv_aload_n hx hb dX1_drag_68 rfl (lv_at hl 4 rfl) ?_
            refine lv_aload hx hb dX1_drag_69 (lv_at hl 1 rfl) ?_
            refine k_get (C := RX0) (T := TX0) (N := 3) (v := .int (nI (N (23 + 13 * i)))) hx hb hts hown E I iX0 (16 + 3 * i) (by omega) (r0 := σ (16 + 3 * i)) rfl (kc_F H_i) rfl 0 (by decide) (List.mem_of_getElem? (i := 3) rfl) (congrArg (fun z => some (Value.int z)) (rB_f hB hi 0 (by decide))) dX1_drag_71 ?_
            refine lv_iload_n hx hb dX1_drag_74 rfl (lv_at hl 3 rfl) ?_
            refine lv_iadd hx hb dX1_drag_75 ?_
            rw [nI_add]
            refine lv_aload hx hb dX1_drag_76 (lv_at hl 1 rfl) ?_
            refine k_get (C := RX0) (T := TX0) (N := 3) (v := .int (nI (N (23 + 13 * i + 1)))) hx hb hts hown E I iX0 (16 + 3 * i) (by omega) (r0 := σ (16 + 3 * i)) rfl (kc_F H_i) rfl 1 (by decide) (List.mem_of_getElem? (i := 4) rfl) (congrArg (fun z => some (Value.int z)) (rB_f hB hi 1 (by decide))) dX1_drag_78 ?_
            refine lv_iload hx hb dX1_drag_81 (lv_at hl 2 rfl) ?_
            refine lv_iadd hx hb dX1_drag_83 ?_
            rw [nI_add]
            refine k_calli (k := 11) (As := [.int (nI ((N (23 + 13 * i)) + 1)), .int (nI ((N (23 + 13 * i + 1)) + 0))]) (rest := []) ⟨hx, hb, hml, hown, hts⟩ (c_X1_isCell cy D ad l σ ((nI ((N (23 + 13 * i)) + 1))) ((nI ((N (23 + 13 * i + 1)) + 0))) (N 0) (by omega) (by omega) hB.1.1) (cwV 2 hts gX1_drag_X1_isCell rfl rfl rfl (by decide +kernel) ⟨Nat.le_of_ble_eq_true rfl, Nat.le_of_ble_eq_true rfl⟩) E hA I (k_recv E I (by decide) kc_11 rfl) rfl hl.1 rfl (lv_room (Nat.le_of_ble_eq_true rfl)) dX1_drag_84 ⟨Nat.le_of_ble_eq_true rfl, Nat.le_of_ble_eq_true rfl⟩ (fun r_84 σ_84 H locs hp_84 I => ?_)
            obtain ⟨hk_, rfl⟩ := hp_84
            first | rw [nI_toInt (by omega), nI_toInt (by omega)] at hk_ | rw [km1_toInt (by omega), nI_toInt (by omega)] at hk_ | rw [nI_toInt (by omega), km1_toInt (by omega)] at hk_
            rcases hk_ with ⟨rfl, g1⟩ | ⟨rfl, g1⟩
            · refine lv_if_eq (tgt := 123) hx hb dX1_drag_87 (by decide) (fun c_87 => ?_) (fun c_87 => ?_)
              · exact absurd c_87 (by decide)
              · refine lv_aload_n hx hb dX1_drag_90 rfl (lv_at hl 5 rfl) ?_
                refine k_get (C := RX6) (T := TX6) (N := 10) (v := .int (nI (N (23 + 13 * i + 9)))) hx hb hts hown E I iX6 (15 + 3 * i) (by omega) (r0 := σ (15 + 3 * i)) rfl (kc_S H_i) rfl 2 (by decide) (List.mem_of_getElem? (i := 5) rfl) (congrArg (fun z => some (Value.int z)) (rB_f hB hi 9 (by decide))) dX1_drag_91 ?_
                refine lv_if_eq (tgt := 119) hx hb dX1_drag_94 (by decide) (fun c_94 => ?_) (fun c_94 => ?_)
                · have c_94 : (N (23 + 13 * i + 9)) = 0 := (nI_eq (by omega) (by decide)).mp c_94
                  have hm0 : N (23 + 13 * i + 9) = 0 := by omega
                  refine lv_iconst (v := nI 1) hx hb dX1_drag_119 (by decide) ?_
                  refine lv_goto (tgt := 124) hx hb dX1_drag_120 (by decide) ?_
                  refine lv_istore (lv' := [(7, .int (nI 1)), (6, .ref (ad (17 + 3 * i))), (5, .ref (ad (16 + 3 * i))), (4, .int (nI 0)), (3, .int (nI 1)), (0, .ref (ad 11)), (1, .ref (ad (15 + 3 * i))), (2, .int (nI 1))]) hx hb dX1_drag_124 hl (by decide) rfl (fun ls hl => ?_)
                  refine lv_iload hx hb dX1_drag_126 (lv_at hl 0 rfl) ?_
                  refine lv_if_ne (tgt := 137) hx hb dX1_drag_128 (by decide) (fun c_128 => ?_) (fun c_128 => ?_)
                  · refine lv_aload hx hb dX1_drag_137 (lv_at hl 2 rfl) ?_
                    refine lv_aload hx hb dX1_drag_139 (lv_at hl 2 rfl) ?_
                    refine k_get (C := RX0) (T := TX0) (N := 3) (v := .int (nI (N (23 + 13 * i)))) hx hb hts hown E I iX0 (16 + 3 * i) (by omega) (r0 := σ (16 + 3 * i)) rfl (kc_F H_i) rfl 0 (by decide) (List.mem_of_getElem? (i := 3) rfl) (congrArg (fun z => some (Value.int z)) (rB_f hB hi 0 (by decide))) dX1_drag_141 ?_
                    refine lv_iload_n hx hb dX1_drag_144 rfl (lv_at hl 4 rfl) ?_
                    refine lv_iadd hx hb dX1_drag_145 ?_
                    rw [nI_add]
                    refine lv_aload hx hb dX1_drag_146 (lv_at hl 2 rfl) ?_
                    refine k_get (C := RX0) (T := TX0) (N := 3) (v := .int (nI (N (23 + 13 * i + 1)))) hx hb hts hown E I iX0 (16 + 3 * i) (by omega) (r0 := σ (16 + 3 * i)) rfl (kc_F H_i) rfl 1 (by decide) (List.mem_of_getElem? (i := 4) rfl) (congrArg (fun z => some (Value.int z)) (rB_f hB hi 1 (by decide))) dX1_drag_148 ?_
                    refine lv_iload hx hb dX1_drag_151 (lv_at hl 3 rfl) ?_
                    refine lv_iadd hx hb dX1_drag_153 ?_
                    rw [nI_add]
                    refine lv_aload hx hb dX1_drag_154 (lv_at hl 2 rfl) ?_
                    refine k_get (C := RX0) (T := TX0) (N := 3) (v := .int (nI (N (23 + 13 * i + 2)))) hx hb hts hown E I iX0 (16 + 3 * i) (by omega) (r0 := σ (16 + 3 * i)) rfl (kc_F H_i) rfl 2 (by decide) (List.mem_of_getElem? (i := 7) rfl) (congrArg (fun z => some (Value.int z)) (rB_f hB hi 2 (by decide))) dX1_drag_156 ?_
                    refine k_callv (k := 16 + 3 * i) (As := [.int (nI ((N (23 + 13 * i)) + 1)), .int (nI ((N (23 + 13 * i + 1)) + 0)), .int (nI (N (23 + 13 * i + 2)))]) (rest := []) ⟨hx, hb, hml, hown, hts⟩ (c_X0_put cy D ad l σ i H_i ((nI ((N (23 + 13 * i)) + 1))) ((nI ((N (23 + 13 * i + 1)) + 0))) ((nI (N (23 + 13 * i + 2))))) (cwV 3 hts gX1_drag_X0_put rfl rfl rfl (by decide +kernel) ⟨Nat.le_of_ble_eq_true rfl, Nat.le_of_ble_eq_true rfl⟩) E hA I (k_recv E I (by omega) (kc_F H_i) rfl) rfl hl.1 rfl (lv_room (Nat.le_of_ble_eq_true rfl)) dX1_drag_159 ⟨Nat.le_of_ble_eq_true rfl, Nat.le_of_ble_eq_true rfl⟩ (fun σ_159 H locs hp_159 I => ?_)
                    have hs159 : σ_159 = va_up σ (16 + 3 * i) (upd (upd (upd (σ (16 + 3 * i)) 0 (nI ((N (23 + 13 * i)) + 1))) 1 (nI ((N (23 + 13 * i + 1)) + 0))) 2 (nI (N (23 + 13 * i + 2)))) := hp_159
                    have e2 : σ_159 (15 + 3 * i) 2 = nI (N (23 + 13 * i + 9)) := by rw [hs159, va_up_ne _ _ (by omega)]; exact rB_f hB hi 9 (by decide)
                    have e4 : σ_159 (15 + 3 * i) 4 = nI (N (23 + 13 * i + 8)) := by rw [hs159, va_up_ne _ _ (by omega)]; exact rB_f hB hi 8 (by decide)
                    refine lv_aload_n hx hb dX1_drag_162 rfl (lv_at hl 6 rfl) ?_
                    refine k_get (C := RX6) (T := TX6) (N := 10) (v := .int (nI (N (23 + 13 * i + 9)))) hx hb hts hown E I iX6 (15 + 3 * i) (by omega) (r0 := σ_159 (15 + 3 * i)) rfl (kc_S H_i) rfl 2 (by decide) (List.mem_of_getElem? (i := 5) rfl) (congrArg (fun z => some (Value.int z)) e2) dX1_drag_163 ?_
                    refine lv_if_eq (tgt := 194) hx hb dX1_drag_166 (by decide) (fun c_166 => ?_) (fun c_166 => ?_)
                    · have c_166 : (N (23 + 13 * i + 9)) = 0 := (nI_eq (by omega) (by decide)).mp c_166
                      refine lv_aload_n hx hb dX1_drag_194 rfl (lv_at hl 6 rfl) ?_
                      refine lv_dup hx hb dX1_drag_195 rfl ?_
                      refine k_get (C := RX6) (T := TX6) (N := 10) (v := .int (nI (N (23 + 13 * i + 8)))) hx hb hts hown E I iX6 (15 + 3 * i) (by omega) (r0 := σ_159 (15 + 3 * i)) rfl (kc_S H_i) rfl 4 (by decide) (List.mem_of_getElem? (i := 8) rfl) (congrArg (fun z => some (Value.int z)) e4) dX1_drag_196 ?_
                      refine lv_iconst (v := nI 1) hx hb dX1_drag_199 (by decide) ?_
                      refine lv_iadd hx hb dX1_drag_200 ?_
                      rw [nI_add]
                      refine k_put (C := RX6) (T := TX6) (N := 10) (ty0 := tyX6) (ty := .int) (v := .int (nI ((N (23 + 13 * i + 8)) + 1))) hx hb hts hown E I iX6 tyX6_ok nmX6 (15 + 3 * i) (by omega) (r0 := σ_159 (15 + 3 * i)) rfl (kc_S H_i) rfl 4 (by decide) (List.mem_of_getElem? (i := 8) rfl) rfl rfl rfl rfl (Nat.le_of_ble_eq_true rfl) (upd (σ_159 (15 + 3 * i)) 4 (nI ((N (23 + 13 * i + 8)) + 1))) (kc_S (cy := cy) (ad := ad) (r := (upd (σ_159 (15 + 3 * i)) 4 (nI ((N (23 + 13 * i + 8)) + 1)))) H_i).symm (σ2 := va_up σ_159 (15 + 3 * i) (upd (σ_159 (15 + 3 * i)) 4 (nI ((N (23 + 13 * i + 8)) + 1)))) rfl dX1_drag_201 (fun H locs I => ?_)
                      exact k_vret hx hb hr hlk I dX1_drag_204 (by first | exact drag_yes2 hB hN hi (by unfold pStay mIn; simp; omega) (by omega) hs159 hs191 rfl (rfl) (rfl) (rfl) (rfl) | exact drag_yes1 hB hN hi (by unfold pStay mIn; simp; omega) (by omega) hs159 rfl (rfl) (rfl))
                    · have c_166 : ¬ ((N (23 + 13 * i + 9)) = 0) := fun q_ => c_166 ((nI_eq (by omega) (by decide)).mpr q_)
                      have gg : ∀ f, f < 3 → σ_159 (17 + 3 * i) f = nI (N (23 + 13 * i + (10 + f))) := fun f hf => by rw [hs159, va_up_ne _ _ (by omega)]; exact rB_g hB hi (by omega) f hf
                      refine lv_aload hx hb dX1_drag_169 (lv_at hl 1 rfl) ?_
                      refine lv_aload hx hb dX1_drag_171 (lv_at hl 1 rfl) ?_
                      refine k_get (C := RX0) (T := TX0) (N := 3) (v := .int (nI (N (23 + 13 * i + 10)))) hx hb hts hown E I iX0 (17 + 3 * i) (by omega) (r0 := σ_159 (17 + 3 * i)) rfl (kc_G H_i) rfl 0 (by decide) (List.mem_of_getElem? (i := 3) rfl) (congrArg (fun z => some (Value.int z)) (gg 0 (by decide))) dX1_drag_173 ?_
                      refine lv_iload_n hx hb dX1_drag_176 rfl (lv_at hl 4 rfl) ?_
                      refine lv_iadd hx hb dX1_drag_177 ?_
                      rw [nI_add]
                      refine lv_aload hx hb dX1_drag_178 (lv_at hl 1 rfl) ?_
                      refine k_get (C := RX0) (T := TX0) (N := 3) (v := .int (nI (N (23 + 13 * i + 11)))) hx hb hts hown E I iX0 (17 + 3 * i) (by omega) (r0 := σ_159 (17 + 3 * i)) rfl (kc_G H_i) rfl 1 (by decide) (List.mem_of_getElem? (i := 4) rfl) (congrArg (fun z => some (Value.int z)) (gg 1 (by decide))) dX1_drag_180 ?_
                      refine lv_iload hx hb dX1_drag_183 (lv_at hl 3 rfl) ?_
                      refine lv_iadd hx hb dX1_drag_185 ?_
                      rw [nI_add]
                      refine lv_aload hx hb dX1_drag_186 (lv_at hl 1 rfl) ?_
                      refine k_get (C := RX0) (T := TX0) (N := 3) (v := .int (nI (N (23 + 13 * i + 12)))) hx hb hts hown E I iX0 (17 + 3 * i) (by omega) (r0 := σ_159 (17 + 3 * i)) rfl (kc_G H_i) rfl 2 (by decide) (List.mem_of_getElem? (i := 7) rfl) (congrArg (fun z => some (Value.int z)) (gg 2 (by decide))) dX1_drag_188 ?_
                      refine k_callv (k := 17 + 3 * i) (As := [.int (nI ((N (23 + 13 * i + 10)) + 1)), .int (nI ((N (23 + 13 * i + 11)) + 0)), .int (nI (N (23 + 13 * i + 12)))]) (rest := []) ⟨hx, hb, hml, hown, hts⟩ (c_X0_put2 cy D ad l σ_159 i H_i ((nI ((N (23 + 13 * i + 10)) + 1))) ((nI ((N (23 + 13 * i + 11)) + 0))) ((nI (N (23 + 13 * i + 12))))) (cwV 3 hts gX1_drag_X0_put rfl rfl rfl (by decide +kernel) ⟨Nat.le_of_ble_eq_true rfl, Nat.le_of_ble_eq_true rfl⟩) E hA I (k_recv E I (by omega) (kc_G H_i) rfl) rfl hl.1 rfl (lv_room (Nat.le_of_ble_eq_true rfl)) dX1_drag_191 ⟨Nat.le_of_ble_eq_true rfl, Nat.le_of_ble_eq_true rfl⟩ (fun σ_191 H locs hp_191 I => ?_)
                      have hs191 : σ_191 = va_up σ_159 (17 + 3 * i) (upd (upd (upd (σ_159 (17 + 3 * i)) 0 (nI ((N (23 + 13 * i + 10)) + 1))) 1 (nI ((N (23 + 13 * i + 11)) + 0))) 2 (nI (N (23 + 13 * i + 12)))) := hp_191
                      have e4 : σ_191 (15 + 3 * i) 4 = nI (N (23 + 13 * i + 8)) := by rw [hs191, va_up_ne _ _ (by omega)]; exact e4
                      refine lv_aload_n hx hb dX1_drag_194 rfl (lv_at hl 6 rfl) ?_
                      refine lv_dup hx hb dX1_drag_195 rfl ?_
                      refine k_get (C := RX6) (T := TX6) (N := 10) (v := .int (nI (N (23 + 13 * i + 8)))) hx hb hts hown E I iX6 (15 + 3 * i) (by omega) (r0 := σ_191 (15 + 3 * i)) rfl (kc_S H_i) rfl 4 (by decide) (List.mem_of_getElem? (i := 8) rfl) (congrArg (fun z => some (Value.int z)) e4) dX1_drag_196 ?_
                      refine lv_iconst (v := nI 1) hx hb dX1_drag_199 (by decide) ?_
                      refine lv_iadd hx hb dX1_drag_200 ?_
                      rw [nI_add]
                      refine k_put (C := RX6) (T := TX6) (N := 10) (ty0 := tyX6) (ty := .int) (v := .int (nI ((N (23 + 13 * i + 8)) + 1))) hx hb hts hown E I iX6 tyX6_ok nmX6 (15 + 3 * i) (by omega) (r0 := σ_191 (15 + 3 * i)) rfl (kc_S H_i) rfl 4 (by decide) (List.mem_of_getElem? (i := 8) rfl) rfl rfl rfl rfl (Nat.le_of_ble_eq_true rfl) (upd (σ_191 (15 + 3 * i)) 4 (nI ((N (23 + 13 * i + 8)) + 1))) (kc_S (cy := cy) (ad := ad) (r := (upd (σ_191 (15 + 3 * i)) 4 (nI ((N (23 + 13 * i + 8)) + 1)))) H_i).symm (σ2 := va_up σ_191 (15 + 3 * i) (upd (σ_191 (15 + 3 * i)) 4 (nI ((N (23 + 13 * i + 8)) + 1)))) rfl dX1_drag_201 (fun H locs I => ?_)
                      exact k_vret hx hb hr hlk I dX1_drag_204 (by first | exact drag_yes2 hB hN hi (by unfold pStay mIn; simp; omega) (by omega) hs159 hs191 rfl (rfl) (rfl) (rfl) (rfl) | exact drag_yes1 hB hN hi (by unfold pStay mIn; simp; omega) (by omega) hs159 rfl (rfl) (rfl))
                  · exact absurd c_128 (by decide)
                · have c_94 : ¬ ((N (23 + 13 * i + 9)) = 0) := fun q_ => c_94 ((nI_eq (by omega) (by decide)).mpr q_)
                  have hm : N (23 + 13 * i + 9) = 1 := by omega
                  have hs2 := hsh.2.2.2.2.1 hm
                  refine lv_aload_n hx hb dX1_drag_97 rfl (lv_at hl 4 rfl) ?_
                  refine lv_aload hx hb dX1_drag_98 (lv_at hl 0 rfl) ?_
                  refine k_get (C := RX0) (T := TX0) (N := 3) (v := .int (nI (N (23 + 13 * i + 10)))) hx hb hts hown E I iX0 (17 + 3 * i) (by omega) (r0 := σ (17 + 3 * i)) rfl (kc_G H_i) rfl 0 (by decide) (List.mem_of_getElem? (i := 3) rfl) (congrArg (fun z => some (Value.int z)) (rB_g hB hi hm 0 (by decide))) dX1_drag_100 ?_
                  refine lv_iload_n hx hb dX1_drag_103 rfl (lv_at hl 3 rfl) ?_
                  refine lv_iadd hx hb dX1_drag_104 ?_
                  rw [nI_add]
                  refine lv_aload hx hb dX1_drag_105 (lv_at hl 0 rfl) ?_
                  refine k_get (C := RX0) (T := TX0) (N := 3) (v := .int (nI (N (23 + 13 * i + 11)))) hx hb hts hown E I iX0 (17 + 3 * i) (by omega) (r0 := σ (17 + 3 * i)) rfl (kc_G H_i) rfl 1 (by decide) (List.mem_of_getElem? (i := 4) rfl) (congrArg (fun z => some (Value.int z)) (rB_g hB hi hm 1 (by decide))) dX1_drag_107 ?_
                  refine lv_iload hx hb dX1_drag_110 (lv_at hl 2 rfl) ?_
                  refine lv_iadd hx hb dX1_drag_112 ?_
                  rw [nI_add]
                  refine k_calli (k := 11) (As := [.int (nI ((N (23 + 13 * i + 10)) + 1)), .int (nI ((N (23 + 13 * i + 11)) + 0))]) (rest := []) ⟨hx, hb, hml, hown, hts⟩ (c_X1_isCell cy D ad l σ ((nI ((N (23 + 13 * i + 10)) + 1))) ((nI ((N (23 + 13 * i + 11)) + 0))) (N 0) (by omega) (by omega) hB.1.1) (cwV 2 hts gX1_drag_X1_isCell rfl rfl rfl (by decide +kernel) ⟨Nat.le_of_ble_eq_true rfl, Nat.le_of_ble_eq_true rfl⟩) E hA I (k_recv E I (by decide) kc_11 rfl) rfl hl.1 rfl (lv_room (Nat.le_of_ble_eq_true rfl)) dX1_drag_113 ⟨Nat.le_of_ble_eq_true rfl, Nat.le_of_ble_eq_true rfl⟩ (fun r_113 σ_113 H locs hp_113 I => ?_)
                  obtain ⟨hk_, rfl⟩ := hp_113
                  first | rw [nI_toInt (by omega), nI_toInt (by omega)] at hk_ | rw [km1_toInt (by omega), nI_toInt (by omega)] at hk_ | rw [nI_toInt (by omega), km1_toInt (by omega)] at hk_
                  rcases hk_ with ⟨rfl, g2⟩ | ⟨rfl, g2⟩
                  · refine lv_if_eq (tgt := 123) hx hb dX1_drag_116 (by decide) (fun c_116 => ?_) (fun c_116 => ?_)
                    · exact absurd c_116 (by decide)
                    · refine lv_iconst (v := nI 1) hx hb dX1_drag_119 (by decide) ?_
                      refine lv_goto (tgt := 124) hx hb dX1_drag_120 (by decide) ?_
                      refine lv_istore (lv' := [(7, .int (nI 1)), (6, .ref (ad (17 + 3 * i))), (5, .ref (ad (16 + 3 * i))), (4, .int (nI 0)), (3, .int (nI 1)), (0, .ref (ad 11)), (1, .ref (ad (15 + 3 * i))), (2, .int (nI 1))]) hx hb dX1_drag_124 hl (by decide) rfl (fun ls hl => ?_)
                      refine lv_iload hx hb dX1_drag_126 (lv_at hl 0 rfl) ?_
                      refine lv_if_ne (tgt := 137) hx hb dX1_drag_128 (by decide) (fun c_128 => ?_) (fun c_128 => ?_)
                      · refine lv_aload hx hb dX1_drag_137 (lv_at hl 2 rfl) ?_
                        refine lv_aload hx hb dX1_drag_139 (lv_at hl 2 rfl) ?_
                        refine k_get (C := RX0) (T := TX0) (N := 3) (v := .int (nI (N (23 + 13 * i)))) hx hb hts hown E I iX0 (16 + 3 * i) (by omega) (r0 := σ (16 + 3 * i)) rfl (kc_F H_i) rfl 0 (by decide) (List.mem_of_getElem? (i := 3) rfl) (congrArg (fun z => some (Value.int z)) (rB_f hB hi 0 (by decide))) dX1_drag_141 ?_
                        refine lv_iload_n hx hb dX1_drag_144 rfl (lv_at hl 4 rfl) ?_
                        refine lv_iadd hx hb dX1_drag_145 ?_
                        rw [nI_add]
                        refine lv_aload hx hb dX1_drag_146 (lv_at hl 2 rfl) ?_
                        refine k_get (C := RX0) (T := TX0) (N := 3) (v := .int (nI (N (23 + 13 * i + 1)))) hx hb hts hown E I iX0 (16 + 3 * i) (by omega) (r0 := σ (16 + 3 * i)) rfl (kc_F H_i) rfl 1 (by decide) (List.mem_of_getElem? (i := 4) rfl) (congrArg (fun z => some (Value.int z)) (rB_f hB hi 1 (by decide))) dX1_drag_148 ?_
                        refine lv_iload hx hb dX1_drag_151 (lv_at hl 3 rfl) ?_
                        refine lv_iadd hx hb dX1_drag_153 ?_
                        rw [nI_add]
                        refine lv_aload hx hb dX1_drag_154 (lv_at hl 2 rfl) ?_
                        refine k_get (C := RX0) (T := TX0) (N := 3) (v := .int (nI (N (23 + 13 * i + 2)))) hx hb hts hown E I iX0 (16 + 3 * i) (by omega) (r0 := σ (16 + 3 * i)) rfl (kc_F H_i) rfl 2 (by decide) (List.mem_of_getElem? (i := 7) rfl) (congrArg (fun z => some (Value.int z)) (rB_f hB hi 2 (by decide))) dX1_drag_156 ?_
                        refine k_callv (k := 16 + 3 * i) (As := [.int (nI ((N (23 + 13 * i)) + 1)), .int (nI ((N (23 + 13 * i + 1)) + 0)), .int (nI (N (23 + 13 * i + 2)))]) (rest := []) ⟨hx, hb, hml, hown, hts⟩ (c_X0_put cy D ad l σ i H_i ((nI ((N (23 + 13 * i)) + 1))) ((nI ((N (23 + 13 * i + 1)) + 0))) ((nI (N (23 + 13 * i + 2))))) (cwV 3 hts gX1_drag_X0_put rfl rfl rfl (by decide +kernel) ⟨Nat.le_of_ble_eq_true rfl, Nat.le_of_ble_eq_true rfl⟩) E hA I (k_recv E I (by omega) (kc_F H_i) rfl) rfl hl.1 rfl (lv_room (Nat.le_of_ble_eq_true rfl)) dX1_drag_159 ⟨Nat.le_of_ble_eq_true rfl, Nat.le_of_ble_eq_true rfl⟩ (fun σ_159 H locs hp_159 I => ?_)
                        have hs159 : σ_159 = va_up σ (16 + 3 * i) (upd (upd (upd (σ (16 + 3 * i)) 0 (nI ((N (23 + 13 * i)) + 1))) 1 (nI ((N (23 + 13 * i + 1)) + 0))) 2 (nI (N (23 + 13 * i + 2)))) := hp_159
                        have e2 : σ_159 (15 + 3 * i) 2 = nI (N (23 + 13 * i + 9)) := by rw [hs159, va_up_ne _ _ (by omega)]; exact rB_f hB hi 9 (by decide)
                        have e4 : σ_159 (15 + 3 * i) 4 = nI (N (23 + 13 * i + 8)) := by rw [hs159, va_up_ne _ _ (by omega)]; exact rB_f hB hi 8 (by decide)
                        refine lv_aload_n hx hb dX1_drag_162 rfl (lv_at hl 6 rfl) ?_
                        refine k_get (C := RX6) (T := TX6) (N := 10) (v := .int (nI (N (23 + 13 * i + 9)))) hx hb hts hown E I iX6 (15 + 3 * i) (by omega) (r0 := σ_159 (15 + 3 * i)) rfl (kc_S H_i) rfl 2 (by decide) (List.mem_of_getElem? (i := 5) rfl) (congrArg (fun z => some (Value.int z)) e2) dX1_drag_163 ?_
                        refine lv_if_eq (tgt := 194) hx hb dX1_drag_166 (by decide) (fun c_166 => ?_) (fun c_166 => ?_)
                        · have c_166 : (N (23 + 13 * i + 9)) = 0 := (nI_eq (by omega) (by decide)).mp c_166
                          refine lv_aload_n hx hb dX1_drag_194 rfl (lv_at hl 6 rfl) ?_
                          refine lv_dup hx hb dX1_drag_195 rfl ?_
                          refine k_get (C := RX6) (T := TX6) (N := 10) (v := .int (nI (N (23 + 13 * i + 8)))) hx hb hts hown E I iX6 (15 + 3 * i) (by omega) (r0 := σ_159 (15 + 3 * i)) rfl (kc_S H_i) rfl 4 (by decide) (List.mem_of_getElem? (i := 8) rfl) (congrArg (fun z => some (Value.int z)) e4) dX1_drag_196 ?_
                          refine lv_iconst (v := nI 1) hx hb dX1_drag_199 (by decide) ?_
                          refine lv_iadd hx hb dX1_drag_200 ?_
                          rw [nI_add]
                          refine k_put (C := RX6) (T := TX6) (N := 10) (ty0 := tyX6) (ty := .int) (v := .int (nI ((N (23 + 13 * i + 8)) + 1))) hx hb hts hown E I iX6 tyX6_ok nmX6 (15 + 3 * i) (by omega) (r0 := σ_159 (15 + 3 * i)) rfl (kc_S H_i) rfl 4 (by decide) (List.mem_of_getElem? (i := 8) rfl) rfl rfl rfl rfl (Nat.le_of_ble_eq_true rfl) (upd (σ_159 (15 + 3 * i)) 4 (nI ((N (23 + 13 * i + 8)) + 1))) (kc_S (cy := cy) (ad := ad) (r := (upd (σ_159 (15 + 3 * i)) 4 (nI ((N (23 + 13 * i + 8)) + 1)))) H_i).symm (σ2 := va_up σ_159 (15 + 3 * i) (upd (σ_159 (15 + 3 * i)) 4 (nI ((N (23 + 13 * i + 8)) + 1)))) rfl dX1_drag_201 (fun H locs I => ?_)
                          exact k_vret hx hb hr hlk I dX1_drag_204 (by first | exact drag_yes2 hB hN hi (by unfold pStay mIn; simp; omega) (by omega) hs159 hs191 rfl (rfl) (rfl) (rfl) (rfl) | exact drag_yes1 hB hN hi (by unfold pStay mIn; simp; omega) (by omega) hs159 rfl (rfl) (rfl))
                        · have c_166 : ¬ ((N (23 + 13 * i + 9)) = 0) := fun q_ => c_166 ((nI_eq (by omega) (by decide)).mpr q_)
                          have gg : ∀ f, f < 3 → σ_159 (17 + 3 * i) f = nI (N (23 + 13 * i + (10 + f))) := fun f hf => by rw [hs159, va_up_ne _ _ (by omega)]; exact rB_g hB hi (by omega) f hf
                          refine lv_aload hx hb dX1_drag_169 (lv_at hl 1 rfl) ?_
                          refine lv_aload hx hb dX1_drag_171 (lv_at hl 1 rfl) ?_
                          refine k_get (C := RX0) (T := TX0) (N := 3) (v := .int (nI (N (23 + 13 * i + 10)))) hx hb hts hown E I iX0 (17 + 3 * i) (by omega) (r0 := σ_159 (17 + 3 * i)) rfl (kc_G H_i) rfl 0 (by decide) (List.mem_of_getElem? (i := 3) rfl) (congrArg (fun z => some (Value.int z)) (gg 0 (by decide))) dX1_drag_173 ?_
                          refine lv_iload_n hx hb dX1_drag_176 rfl (lv_at hl 4 rfl) ?_
                          refine lv_iadd hx hb dX1_drag_177 ?_
                          rw [nI_add]
                          refine lv_aload hx hb dX1_drag_178 (lv_at hl 1 rfl) ?_
                          refine k_get (C := RX0) (T := TX0) (N := 3) (v := .int (nI (N (23 + 13 * i + 11)))) hx hb hts hown E I iX0 (17 + 3 * i) (by omega) (r0 := σ_159 (17 + 3 * i)) rfl (kc_G H_i) rfl 1 (by decide) (List.mem_of_getElem? (i := 4) rfl) (congrArg (fun z => some (Value.int z)) (gg 1 (by decide))) dX1_drag_180 ?_
                          refine lv_iload hx hb dX1_drag_183 (lv_at hl 3 rfl) ?_
                          refine lv_iadd hx hb dX1_drag_185 ?_
                          rw [nI_add]
                          refine lv_aload hx hb dX1_drag_186 (lv_at hl 1 rfl) ?_
                          refine k_get (C := RX0) (T := TX0) (N := 3) (v := .int (nI (N (23 + 13 * i + 12)))) hx hb hts hown E I iX0 (17 + 3 * i) (by omega) (r0 := σ_159 (17 + 3 * i)) rfl (kc_G H_i) rfl 2 (by decide) (List.mem_of_getElem? (i := 7) rfl) (congrArg (fun z => some (Value.int z)) (gg 2 (by decide))) dX1_drag_188 ?_
                          refine k_callv (k := 17 + 3 * i) (As := [.int (nI ((N (23 + 13 * i + 10)) + 1)), .int (nI ((N (23 + 13 * i + 11)) + 0)), .int (nI (N (23 + 13 * i + 12)))]) (rest := []) ⟨hx, hb, hml, hown, hts⟩ (c_X0_put2 cy D ad l σ_159 i H_i ((nI ((N (23 + 13 * i + 10)) + 1))) ((nI ((N (23 + 13 * i + 11)) + 0))) ((nI (N (23 + 13 * i + 12))))) (cwV 3 hts gX1_drag_X0_put rfl rfl rfl (by decide +kernel) ⟨Nat.le_of_ble_eq_true rfl, Nat.le_of_ble_eq_true rfl⟩) E hA I (k_recv E I (by omega) (kc_G H_i) rfl) rfl hl.1 rfl (lv_room (Nat.le_of_ble_eq_true rfl)) dX1_drag_191 ⟨Nat.le_of_ble_eq_true rfl, Nat.le_of_ble_eq_true rfl⟩ (fun σ_191 H locs hp_191 I => ?_)
                          have hs191 : σ_191 = va_up σ_159 (17 + 3 * i) (upd (upd (upd (σ_159 (17 + 3 * i)) 0 (nI ((N (23 + 13 * i + 10)) + 1))) 1 (nI ((N (23 + 13 * i + 11)) + 0))) 2 (nI (N (23 + 13 * i + 12)))) := hp_191
                          have e4 : σ_191 (15 + 3 * i) 4 = nI (N (23 + 13 * i + 8)) := by rw [hs191, va_up_ne _ _ (by omega)]; exact e4
                          refine lv_aload_n hx hb dX1_drag_194 rfl (lv_at hl 6 rfl) ?_
                          refine lv_dup hx hb dX1_drag_195 rfl ?_
                          refine k_get (C := RX6) (T := TX6) (N := 10) (v := .int (nI (N (23 + 13 * i + 8)))) hx hb hts hown E I iX6 (15 + 3 * i) (by omega) (r0 := σ_191 (15 + 3 * i)) rfl (kc_S H_i) rfl 4 (by decide) (List.mem_of_getElem? (i := 8) rfl) (congrArg (fun z => some (Value.int z)) e4) dX1_drag_196 ?_
                          refine lv_iconst (v := nI 1) hx hb dX1_drag_199 (by decide) ?_
                          refine lv_iadd hx hb dX1_drag_200 ?_
                          rw [nI_add]
                          refine k_put (C := RX6) (T := TX6) (N := 10) (ty0 := tyX6) (ty := .int) (v := .int (nI ((N (23 + 13 * i + 8)) + 1))) hx hb hts hown E I iX6 tyX6_ok nmX6 (15 + 3 * i) (by omega) (r0 := σ_191 (15 + 3 * i)) rfl (kc_S H_i) rfl 4 (by decide) (List.mem_of_getElem? (i := 8) rfl) rfl rfl rfl rfl (Nat.le_of_ble_eq_true rfl) (upd (σ_191 (15 + 3 * i)) 4 (nI ((N (23 + 13 * i + 8)) + 1))) (kc_S (cy := cy) (ad := ad) (r := (upd (σ_191 (15 + 3 * i)) 4 (nI ((N (23 + 13 * i + 8)) + 1)))) H_i).symm (σ2 := va_up σ_191 (15 + 3 * i) (upd (σ_191 (15 + 3 * i)) 4 (nI ((N (23 + 13 * i + 8)) + 1)))) rfl dX1_drag_201 (fun H locs I => ?_)
                          exact k_vret hx hb hr hlk I dX1_drag_204 (by first | exact drag_yes2 hB hN hi (by unfold pStay mIn; simp; omega) (by omega) hs159 hs191 rfl (rfl) (rfl) (rfl) (rfl) | exact drag_yes1 hB hN hi (by unfold pStay mIn; simp; omega) (by omega) hs159 rfl (rfl) (rfl))
                      · exact absurd c_128 (by decide)
                  · refine lv_if_eq (tgt := 123) hx hb dX1_drag_116 (by decide) (fun c_116 => ?_) (fun c_116 => ?_)
                    · refine lv_iconst (v := nI 0) hx hb dX1_drag_123 (by decide) ?_
                      refine lv_istore (lv' := [(7, .int (nI 0)), (6, .ref (ad (17 + 3 * i))), (5, .ref (ad (16 + 3 * i))), (4, .int (nI 0)), (3, .int (nI 1)), (0, .ref (ad 11)), (1, .ref (ad (15 + 3 * i))), (2, .int (nI 1))]) hx hb dX1_drag_124 hl (by decide) rfl (fun ls hl => ?_)
                      refine lv_iload hx hb dX1_drag_126 (lv_at hl 0 rfl) ?_
                      refine lv_if_ne (tgt := 137) hx hb dX1_drag_128 (by decide) (fun c_128 => ?_) (fun c_128 => ?_)
                      · exact absurd c_128 (by decide)
                      · refine lv_aload_n hx hb dX1_drag_131 rfl (lv_at hl 6 rfl) ?_
                        refine lv_iconst (v := nI 1) hx hb dX1_drag_132 (by decide) ?_
                        refine k_put (C := RX6) (T := TX6) (N := 10) (ty0 := tyX6) (ty := .boolean) (v := .int (nI 1)) hx hb hts hown E I iX6 tyX6_ok nmX6 (15 + 3 * i) (by omega) (r0 := σ (15 + 3 * i)) rfl (kc_S H_i) rfl 3 (by decide) (List.mem_of_getElem? (i := 6) rfl) rfl rfl (by decide) (by decide) (Nat.le_of_ble_eq_true rfl) (upd (σ (15 + 3 * i)) 3 (nI 1)) (kc_S (cy := cy) (ad := ad) (r := (upd (σ (15 + 3 * i)) 3 (nI 1))) H_i).symm (σ2 := va_up σ (15 + 3 * i) (upd (σ (15 + 3 * i)) 3 (nI 1))) rfl dX1_drag_133 (fun H locs I => ?_)
                        exact k_vret hx hb hr hlk I dX1_drag_136 (drag_no hB hN hi (by unfold pStay mIn; simp; omega) rfl)
                    · exact absurd c_116 (by decide)
            · refine lv_if_eq (tgt := 123) hx hb dX1_drag_87 (by decide) (fun c_87 => ?_) (fun c_87 => ?_)
              · refine lv_iconst (v := nI 0) hx hb dX1_drag_123 (by decide) ?_
                refine lv_istore (lv' := [(7, .int (nI 0)), (6, .ref (ad (17 + 3 * i))), (5, .ref (ad (16 + 3 * i))), (4, .int (nI 0)), (3, .int (nI 1)), (0, .ref (ad 11)), (1, .ref (ad (15 + 3 * i))), (2, .int (nI 1))]) hx hb dX1_drag_124 hl (by decide) rfl (fun ls hl => ?_)
                refine lv_iload hx hb dX1_drag_126 (lv_at hl 0 rfl) ?_
                refine lv_if_ne (tgt := 137) hx hb dX1_drag_128 (by decide) (fun c_128 => ?_) (fun c_128 => ?_)
                · exact absurd c_128 (by decide)
                · refine lv_aload_n hx hb dX1_drag_131 rfl (lv_at hl 6 rfl) ?_
                  refine lv_iconst (v := nI 1) hx hb dX1_drag_132 (by decide) ?_
                  refine k_put (C := RX6) (T := TX6) (N := 10) (ty0 := tyX6) (ty := .boolean) (v := .int (nI 1)) hx hb hts hown E I iX6 tyX6_ok nmX6 (15 + 3 * i) (by omega) (r0 := σ (15 + 3 * i)) rfl (kc_S H_i) rfl 3 (by decide) (List.mem_of_getElem? (i := 6) rfl) rfl rfl (by decide) (by decide) (Nat.le_of_ble_eq_true rfl) (upd (σ (15 + 3 * i)) 3 (nI 1)) (kc_S (cy := cy) (ad := ad) (r := (upd (σ (15 + 3 * i)) 3 (nI 1))) H_i).symm (σ2 := va_up σ (15 + 3 * i) (upd (σ (15 + 3 * i)) 3 (nI 1))) rfl dX1_drag_133 (fun H locs I => ?_)
                  exact k_vret hx hb hr hlk I dX1_drag_136 (drag_no hB hN hi (by unfold pStay mIn; simp; omega) rfl)
              · exact absurd c_87 (by decide)
          · exact absurd c_42 (by decide)
        · exact absurd c_30 (by decide)
      · exact absurd c_15 (by decide)
  · refine lv_iload_n hx hb dX1_drag_0 rfl (lv_at hl 2 rfl) ?_
    refine lv_iconst (v := nI 1) hx hb dX1_drag_1 (by decide) ?_
    refine lv_icmp_ne (tgt := 9) hx hb dX1_drag_2 (by decide) (fun c_2 => ?_) (fun c_2 => ?_)
    · refine lv_iconst (v := nI 0) hx hb dX1_drag_9 (by decide) ?_
      refine k_callsN (As := [.int (nI 0)]) (rest := []) ⟨hx, hb, hml, hown, hts⟩ (c_X7_oneIf l (nI 0) (by first | exact Or.inl rfl | exact Or.inr rfl)) ⟨va_cnB 1 hts gX1_drag_X7_oneIf_n151 rfl rfl rfl E.2.1.2.2.2 (hts _ (List.mem_of_getElem? (i := 10) rfl)) (by decide +kernel) ⟨Nat.le_of_ble_eq_true rfl, Nat.le_of_ble_eq_true rfl⟩, hts _ (List.mem_of_getElem? (i := 9) rfl), trivial⟩ rfl hl.1 rfl (lv_room (Nat.le_of_ble_eq_true rfl)) dX1_drag_10 ⟨Nat.le_of_ble_eq_true rfl, Nat.le_of_ble_eq_true rfl⟩ (fun r_10 hp_10 => ?_)
      subst hp_10
      refine lv_iload_n hx hb dX1_drag_13 rfl (lv_at hl 2 rfl) ?_
      refine lv_iconst (v := nI 3) hx hb dX1_drag_14 (by decide) ?_
      refine lv_icmp_ne (tgt := 22) hx hb dX1_drag_15 (by decide) (fun c_15 => ?_) (fun c_15 => ?_)
      · refine lv_iconst (v := nI 0) hx hb dX1_drag_22 (by decide) ?_
        refine k_callsN (As := [.int (nI 0)]) (rest := [.int (nI 0)]) ⟨hx, hb, hml, hown, hts⟩ (c_X7_oneIf l (nI 0) (by first | exact Or.inl rfl | exact Or.inr rfl)) ⟨va_cnB 1 hts gX1_drag_X7_oneIf_n151 rfl rfl rfl E.2.1.2.2.2 (hts _ (List.mem_of_getElem? (i := 10) rfl)) (by decide +kernel) ⟨Nat.le_of_ble_eq_true rfl, Nat.le_of_ble_eq_true rfl⟩, hts _ (List.mem_of_getElem? (i := 9) rfl), trivial⟩ rfl hl.1 rfl (lv_room (Nat.le_of_ble_eq_true rfl)) dX1_drag_23 ⟨Nat.le_of_ble_eq_true rfl, Nat.le_of_ble_eq_true rfl⟩ (fun r_23 hp_23 => ?_)
        subst hp_23
        refine lv_isub hx hb dX1_drag_26 ?_
        refine lv_topi (fun t_26 et_26 => ?_)
        have et_26 : t_26 = nI 0 := et_26.trans (by decide)
        subst et_26
        refine lv_istore_n (lv' := [(3, .int (nI 0)), (0, .ref (ad 11)), (1, .ref (ad (15 + 3 * i))), (2, .int (nI 2))]) hx hb dX1_drag_27 rfl hl (by decide) rfl (fun ls hl => ?_)
        refine lv_iload_n hx hb dX1_drag_28 rfl (lv_at hl 3 rfl) ?_
        refine lv_iconst (v := nI 2) hx hb dX1_drag_29 (by decide) ?_
        refine lv_icmp_ne (tgt := 37) hx hb dX1_drag_30 (by decide) (fun c_30 => ?_) (fun c_30 => ?_)
        · exact absurd c_30 (by decide)
        · refine lv_iconst (v := nI 1) hx hb dX1_drag_33 (by decide) ?_
          refine lv_goto (tgt := 38) hx hb dX1_drag_34 (by decide) ?_
          refine k_callsN (As := [.int (nI 1)]) (rest := []) ⟨hx, hb, hml, hown, hts⟩ (c_X7_oneIf l (nI 1) (by first | exact Or.inl rfl | exact Or.inr rfl)) ⟨va_cnB 1 hts gX1_drag_X7_oneIf_n151 rfl rfl rfl E.2.1.2.2.2 (hts _ (List.mem_of_getElem? (i := 10) rfl)) (by decide +kernel) ⟨Nat.le_of_ble_eq_true rfl, Nat.le_of_ble_eq_true rfl⟩, hts _ (List.mem_of_getElem? (i := 9) rfl), trivial⟩ rfl hl.1 rfl (lv_room (Nat.le_of_ble_eq_true rfl)) dX1_drag_38 ⟨Nat.le_of_ble_eq_true rfl, Nat.le_of_ble_eq_true rfl⟩ (fun r_38 hp_38 => ?_)
          subst hp_38
          refine lv_iload_n hx hb dX1_drag_41 rfl (lv_at hl 3 rfl) ?_
          refine lv_if_ne (tgt := 49) hx hb dX1_drag_42 (by decide) (fun c_42 => ?_) (fun c_42 => ?_)
          · refine lv_iconst (v := nI 0) hx hb dX1_drag_49 (by decide) ?_
            refine k_callsN (As := [.int (nI 0)]) (rest := [.int (nI 1)]) ⟨hx, hb, hml, hown, hts⟩ (c_X7_oneIf l (nI 0) (by first | exact Or.inl rfl | exact Or.inr rfl)) ⟨va_cnB 1 hts gX1_drag_X7_oneIf_n151 rfl rfl rfl E.2.1.2.2.2 (hts _ (List.mem_of_getElem? (i := 10) rfl)) (by decide +kernel) ⟨Nat.le_of_ble_eq_true rfl, Nat.le_of_ble_eq_true rfl⟩, hts _ (List.mem_of_getElem? (i := 9) rfl), trivial⟩ rfl hl.1 rfl (lv_room (Nat.le_of_ble_eq_true rfl)) dX1_drag_50 ⟨Nat.le_of_ble_eq_true rfl, Nat.le_of_ble_eq_true rfl⟩ (fun r_50 hp_50 => ?_)
            subst hp_50
            refine lv_isub hx hb dX1_drag_53 ?_
            refine lv_topi (fun t_53 et_53 => ?_)
            have et_53 : t_53 = nI 1 := et_53.trans (by decide)
            subst et_53
            refine lv_istore (lv' := [(4, .int (nI 1)), (3, .int (nI 0)), (0, .ref (ad 11)), (1, .ref (ad (15 + 3 * i))), (2, .int (nI 2))]) hx hb dX1_drag_54 hl (by decide) rfl (fun ls hl => ?_)
            refine lv_aload_n hx hb dX1_drag_56 rfl (lv_at hl 3 rfl) ?_
            refine k_get (C := RX6) (T := TX6) (N := 10) (v := .ref (ad (16 + 3 * i))) hx hb hts hown E I iX6 (15 + 3 * i) (by omega) (r0 := σ (15 + 3 * i)) rfl (kc_S H_i) rfl 0 (by decide) (List.mem_of_getElem? (i := 1) rfl) rfl dX1_drag_57 ?_
            refine lv_astore (lv' := [(5, .ref (ad (16 + 3 * i))), (4, .int (nI 1)), (3, .int (nI 0)), (0, .ref (ad 11)), (1, .ref (ad (15 + 3 * i))), (2, .int (nI 2))]) hx hb dX1_drag_60 hl (by decide) rfl (fun ls hl => ?_)
            refine lv_aload_n hx hb dX1_drag_62 rfl (lv_at hl 4 rfl) ?_
            refine k_get (C := RX6) (T := TX6) (N := 10) (v := .ref (ad (17 + 3 * i))) hx hb hts hown E I iX6 (15 + 3 * i) (by omega) (r0 := σ (15 + 3 * i)) rfl (kc_S H_i) rfl 1 (by decide) (List.mem_of_getElem? (i := 2) rfl) rfl dX1_drag_63 ?_
            refine lv_astore (lv' := [(6, .ref (ad (17 + 3 * i))), (5, .ref (ad (16 + 3 * i))), (4, .int (nI 1)), (3, .int (nI 0)), (0, .ref (ad 11)), (1, .ref (ad (15 + 3 * i))), (2, .int (nI 2))]) hx hb dX1_drag_66 hl (by decide) rfl (fun ls hl => ?_)
            refine lv_aload_n hx hb dX1_drag_68 rfl (lv_at hl 4 rfl) ?_
            refine lv_aload hx hb dX1_drag_69 (lv_at hl 1 rfl) ?_
            refine k_get (C := RX0) (T := TX0) (N := 3) (v := .int (nI (N (23 + 13 * i)))) hx hb hts hown E I iX0 (16 + 3 * i) (by omega) (r0 := σ (16 + 3 * i)) rfl (kc_F H_i) rfl 0 (by decide) (List.mem_of_getElem? (i := 3) rfl) (congrArg (fun z => some (Value.int z)) (rB_f hB hi 0 (by decide))) dX1_drag_71 ?_
            refine lv_iload_n hx hb dX1_drag_74 rfl (lv_at hl 3 rfl) ?_
            refine lv_iadd hx hb dX1_drag_75 ?_
            rw [nI_add]
            refine lv_aload hx hb dX1_drag_76 (lv_at hl 1 rfl) ?_
            refine k_get (C := RX0) (T := TX0) (N := 3) (v := .int (nI (N (23 + 13 * i + 1)))) hx hb hts hown E I iX0 (16 + 3 * i) (by omega) (r0 := σ (16 + 3 * i)) rfl (kc_F H_i) rfl 1 (by decide) (List.mem_of_getElem? (i := 4) rfl) (congrArg (fun z => some (Value.int z)) (rB_f hB hi 1 (by decide))) dX1_drag_78 ?_
            refine lv_iload hx hb dX1_drag_81 (lv_at hl 2 rfl) ?_
            refine lv_iadd hx hb dX1_drag_83 ?_
            rw [nI_add]
            refine k_calli (k := 11) (As := [.int (nI ((N (23 + 13 * i)) + 0)), .int (nI ((N (23 + 13 * i + 1)) + 1))]) (rest := []) ⟨hx, hb, hml, hown, hts⟩ (c_X1_isCell cy D ad l σ ((nI ((N (23 + 13 * i)) + 0))) ((nI ((N (23 + 13 * i + 1)) + 1))) (N 0) (by omega) (by omega) hB.1.1) (cwV 2 hts gX1_drag_X1_isCell rfl rfl rfl (by decide +kernel) ⟨Nat.le_of_ble_eq_true rfl, Nat.le_of_ble_eq_true rfl⟩) E hA I (k_recv E I (by decide) kc_11 rfl) rfl hl.1 rfl (lv_room (Nat.le_of_ble_eq_true rfl)) dX1_drag_84 ⟨Nat.le_of_ble_eq_true rfl, Nat.le_of_ble_eq_true rfl⟩ (fun r_84 σ_84 H locs hp_84 I => ?_)
            obtain ⟨hk_, rfl⟩ := hp_84
            first | rw [nI_toInt (by omega), nI_toInt (by omega)] at hk_ | rw [km1_toInt (by omega), nI_toInt (by omega)] at hk_ | rw [nI_toInt (by omega), km1_toInt (by omega)] at hk_
            rcases hk_ with ⟨rfl, g1⟩ | ⟨rfl, g1⟩
            · refine lv_if_eq (tgt := 123) hx hb dX1_drag_87 (by decide) (fun c_87 => ?_) (fun c_87 => ?_)
              · exact absurd c_87 (by decide)
              · refine lv_aload_n hx hb dX1_drag_90 rfl (lv_at hl 5 rfl) ?_
                refine k_get (C := RX6) (T := TX6) (N := 10) (v := .int (nI (N (23 + 13 * i + 9)))) hx hb hts hown E I iX6 (15 + 3 * i) (by omega) (r0 := σ (15 + 3 * i)) rfl (kc_S H_i) rfl 2 (by decide) (List.mem_of_getElem? (i := 5) rfl) (congrArg (fun z => some (Value.int z)) (rB_f hB hi 9 (by decide))) dX1_drag_91 ?_
                refine lv_if_eq (tgt := 119) hx hb dX1_drag_94 (by decide) (fun c_94 => ?_) (fun c_94 => ?_)
                · have c_94 : (N (23 + 13 * i + 9)) = 0 := (nI_eq (by omega) (by decide)).mp c_94
                  have hm0 : N (23 + 13 * i + 9) = 0 := by omega
                  refine lv_iconst (v := nI 1) hx hb dX1_drag_119 (by decide) ?_
                  refine lv_goto (tgt := 124) hx hb dX1_drag_120 (by decide) ?_
                  refine lv_istore (lv' := [(7, .int (nI 1)), (6, .ref (ad (17 + 3 * i))), (5, .ref (ad (16 + 3 * i))), (4, .int (nI 1)), (3, .int (nI 0)), (0, .ref (ad 11)), (1, .ref (ad (15 + 3 * i))), (2, .int (nI 2))]) hx hb dX1_drag_124 hl (by decide) rfl (fun ls hl => ?_)
                  refine lv_iload hx hb dX1_drag_126 (lv_at hl 0 rfl) ?_
                  refine lv_if_ne (tgt := 137) hx hb dX1_drag_128 (by decide) (fun c_128 => ?_) (fun c_128 => ?_)
                  · refine lv_aload hx hb dX1_drag_137 (lv_at hl 2 rfl) ?_
                    refine lv_aload hx hb dX1_drag_139 (lv_at hl 2 rfl) ?_
                    refine k_get (C := RX0) (T := TX0) (N := 3) (v := .int (nI (N (23 + 13 * i)))) hx hb hts hown E I iX0 (16 + 3 * i) (by omega) (r0 := σ (16 + 3 * i)) rfl (kc_F H_i) rfl 0 (by decide) (List.mem_of_getElem? (i := 3) rfl) (congrArg (fun z => some (Value.int z)) (rB_f hB hi 0 (by decide))) dX1_drag_141 ?_
                    refine lv_iload_n hx hb dX1_drag_144 rfl (lv_at hl 4 rfl) ?_
                    refine lv_iadd hx hb dX1_drag_145 ?_
                    rw [nI_add]
                    refine lv_aload hx hb dX1_drag_146 (lv_at hl 2 rfl) ?_
                    refine k_get (C := RX0) (T := TX0) (N := 3) (v := .int (nI (N (23 + 13 * i + 1)))) hx hb hts hown E I iX0 (16 + 3 * i) (by omega) (r0 := σ (16 + 3 * i)) rfl (kc_F H_i) rfl 1 (by decide) (List.mem_of_getElem? (i := 4) rfl) (congrArg (fun z => some (Value.int z)) (rB_f hB hi 1 (by decide))) dX1_drag_148 ?_
                    refine lv_iload hx hb dX1_drag_151 (lv_at hl 3 rfl) ?_
                    refine lv_iadd hx hb dX1_drag_153 ?_
                    rw [nI_add]
                    refine lv_aload hx hb dX1_drag_154 (lv_at hl 2 rfl) ?_
                    refine k_get (C := RX0) (T := TX0) (N := 3) (v := .int (nI (N (23 + 13 * i + 2)))) hx hb hts hown E I iX0 (16 + 3 * i) (by omega) (r0 := σ (16 + 3 * i)) rfl (kc_F H_i) rfl 2 (by decide) (List.mem_of_getElem? (i := 7) rfl) (congrArg (fun z => some (Value.int z)) (rB_f hB hi 2 (by decide))) dX1_drag_156 ?_
                    refine k_callv (k := 16 + 3 * i) (As := [.int (nI ((N (23 + 13 * i)) + 0)), .int (nI ((N (23 + 13 * i + 1)) + 1)), .int (nI (N (23 + 13 * i + 2)))]) (rest := []) ⟨hx, hb, hml, hown, hts⟩ (c_X0_put cy D ad l σ i H_i ((nI ((N (23 + 13 * i)) + 0))) ((nI ((N (23 + 13 * i + 1)) + 1))) ((nI (N (23 + 13 * i + 2))))) (cwV 3 hts gX1_drag_X0_put rfl rfl rfl (by decide +kernel) ⟨Nat.le_of_ble_eq_true rfl, Nat.le_of_ble_eq_true rfl⟩) E hA I (k_recv E I (by omega) (kc_F H_i) rfl) rfl hl.1 rfl (lv_room (Nat.le_of_ble_eq_true rfl)) dX1_drag_159 ⟨Nat.le_of_ble_eq_true rfl, Nat.le_of_ble_eq_true rfl⟩ (fun σ_159 H locs hp_159 I => ?_)
                    have hs159 : σ_159 = va_up σ (16 + 3 * i) (upd (upd (upd (σ (16 + 3 * i)) 0 (nI ((N (23 + 13 * i)) + 0))) 1 (nI ((N (23 + 13 * i + 1)) + 1))) 2 (nI (N (23 + 13 * i + 2)))) := hp_159
                    have e2 : σ_159 (15 + 3 * i) 2 = nI (N (23 + 13 * i + 9)) := by rw [hs159, va_up_ne _ _ (by omega)]; exact rB_f hB hi 9 (by decide)
                    have e4 : σ_159 (15 + 3 * i) 4 = nI (N (23 + 13 * i + 8)) := by rw [hs159, va_up_ne _ _ (by omega)]; exact rB_f hB hi 8 (by decide)
                    refine lv_aload_n hx hb dX1_drag_162 rfl (lv_at hl 6 rfl) ?_
                    refine k_get (C := RX6) (T := TX6) (N := 10) (v := .int (nI (N (23 + 13 * i + 9)))) hx hb hts hown E I iX6 (15 + 3 * i) (by omega) (r0 := σ_159 (15 + 3 * i)) rfl (kc_S H_i) rfl 2 (by decide) (List.mem_of_getElem? (i := 5) rfl) (congrArg (fun z => some (Value.int z)) e2) dX1_drag_163 ?_
                    refine lv_if_eq (tgt := 194) hx hb dX1_drag_166 (by decide) (fun c_166 => ?_) (fun c_166 => ?_)
                    · have c_166 : (N (23 + 13 * i + 9)) = 0 := (nI_eq (by omega) (by decide)).mp c_166
                      refine lv_aload_n hx hb dX1_drag_194 rfl (lv_at hl 6 rfl) ?_
                      refine lv_dup hx hb dX1_drag_195 rfl ?_
                      refine k_get (C := RX6) (T := TX6) (N := 10) (v := .int (nI (N (23 + 13 * i + 8)))) hx hb hts hown E I iX6 (15 + 3 * i) (by omega) (r0 := σ_159 (15 + 3 * i)) rfl (kc_S H_i) rfl 4 (by decide) (List.mem_of_getElem? (i := 8) rfl) (congrArg (fun z => some (Value.int z)) e4) dX1_drag_196 ?_
                      refine lv_iconst (v := nI 1) hx hb dX1_drag_199 (by decide) ?_
                      refine lv_iadd hx hb dX1_drag_200 ?_
                      rw [nI_add]
                      refine k_put (C := RX6) (T := TX6) (N := 10) (ty0 := tyX6) (ty := .int) (v := .int (nI ((N (23 + 13 * i + 8)) + 1))) hx hb hts hown E I iX6 tyX6_ok nmX6 (15 + 3 * i) (by omega) (r0 := σ_159 (15 + 3 * i)) rfl (kc_S H_i) rfl 4 (by decide) (List.mem_of_getElem? (i := 8) rfl) rfl rfl rfl rfl (Nat.le_of_ble_eq_true rfl) (upd (σ_159 (15 + 3 * i)) 4 (nI ((N (23 + 13 * i + 8)) + 1))) (kc_S (cy := cy) (ad := ad) (r := (upd (σ_159 (15 + 3 * i)) 4 (nI ((N (23 + 13 * i + 8)) + 1)))) H_i).symm (σ2 := va_up σ_159 (15 + 3 * i) (upd (σ_159 (15 + 3 * i)) 4 (nI ((N (23 + 13 * i + 8)) + 1)))) rfl dX1_drag_201 (fun H locs I => ?_)
                      exact k_vret hx hb hr hlk I dX1_drag_204 (by first | exact drag_yes2 hB hN hi (by unfold pStay mIn; simp; omega) (by omega) hs159 hs191 rfl (rfl) (rfl) (rfl) (rfl) | exact drag_yes1 hB hN hi (by unfold pStay mIn; simp; omega) (by omega) hs159 rfl (rfl) (rfl))
                    · have c_166 : ¬ ((N (23 + 13 * i + 9)) = 0) := fun q_ => c_166 ((nI_eq (by omega) (by decide)).mpr q_)
                      have gg : ∀ f, f < 3 → σ_159 (17 + 3 * i) f = nI (N (23 + 13 * i + (10 + f))) := fun f hf => by rw [hs159, va_up_ne _ _ (by omega)]; exact rB_g hB hi (by omega) f hf
                      refine lv_aload hx hb dX1_drag_169 (lv_at hl 1 rfl) ?_
                      refine lv_aload hx hb dX1_drag_171 (lv_at hl 1 rfl) ?_
                      refine k_get (C := RX0) (T := TX0) (N := 3) (v := .int (nI (N (23 + 13 * i + 10)))) hx hb hts hown E I iX0 (17 + 3 * i) (by omega) (r0 := σ_159 (17 + 3 * i)) rfl (kc_G H_i) rfl 0 (by decide) (List.mem_of_getElem? (i := 3) rfl) (congrArg (fun z => some (Value.int z)) (gg 0 (by decide))) dX1_drag_173 ?_
                      refine lv_iload_n hx hb dX1_drag_176 rfl (lv_at hl 4 rfl) ?_
                      refine lv_iadd hx hb dX1_drag_177 ?_
                      rw [nI_add]
                      refine lv_aload hx hb dX1_drag_178 (lv_at hl 1 rfl) ?_
                      refine k_get (C := RX0) (T := TX0) (N := 3) (v := .int (nI (N (23 + 13 * i + 11)))) hx hb hts hown E I iX0 (17 + 3 * i) (by omega) (r0 := σ_159 (17 + 3 * i)) rfl (kc_G H_i) rfl 1 (by decide) (List.mem_of_getElem? (i := 4) rfl) (congrArg (fun z => some (Value.int z)) (gg 1 (by decide))) dX1_drag_180 ?_
                      refine lv_iload hx hb dX1_drag_183 (lv_at hl 3 rfl) ?_
                      refine lv_iadd hx hb dX1_drag_185 ?_
                      rw [nI_add]
                      refine lv_aload hx hb dX1_drag_186 (lv_at hl 1 rfl) ?_
                      refine k_get (C := RX0) (T := TX0) (N := 3) (v := .int (nI (N (23 + 13 * i + 12)))) hx hb hts hown E I iX0 (17 + 3 * i) (by omega) (r0 := σ_159 (17 + 3 * i)) rfl (kc_G H_i) rfl 2 (by decide) (List.mem_of_getElem? (i := 7) rfl) (congrArg (fun z => some (Value.int z)) (gg 2 (by decide))) dX1_drag_188 ?_
                      refine k_callv (k := 17 + 3 * i) (As := [.int (nI ((N (23 + 13 * i + 10)) + 0)), .int (nI ((N (23 + 13 * i + 11)) + 1)), .int (nI (N (23 + 13 * i + 12)))]) (rest := []) ⟨hx, hb, hml, hown, hts⟩ (c_X0_put2 cy D ad l σ_159 i H_i ((nI ((N (23 + 13 * i + 10)) + 0))) ((nI ((N (23 + 13 * i + 11)) + 1))) ((nI (N (23 + 13 * i + 12))))) (cwV 3 hts gX1_drag_X0_put rfl rfl rfl (by decide +kernel) ⟨Nat.le_of_ble_eq_true rfl, Nat.le_of_ble_eq_true rfl⟩) E hA I (k_recv E I (by omega) (kc_G H_i) rfl) rfl hl.1 rfl (lv_room (Nat.le_of_ble_eq_true rfl)) dX1_drag_191 ⟨Nat.le_of_ble_eq_true rfl, Nat.le_of_ble_eq_true rfl⟩ (fun σ_191 H locs hp_191 I => ?_)
                      have hs191 : σ_191 = va_up σ_159 (17 + 3 * i) (upd (upd (upd (σ_159 (17 + 3 * i)) 0 (nI ((N (23 + 13 * i + 10)) + 0))) 1 (nI ((N (23 + 13 * i + 11)) + 1))) 2 (nI (N (23 + 13 * i + 12)))) := hp_191
                      have e4 : σ_191 (15 + 3 * i) 4 = nI (N (23 + 13 * i + 8)) := by rw [hs191, va_up_ne _ _ (by omega)]; exact e4
                      refine lv_aload_n hx hb dX1_drag_194 rfl (lv_at hl 6 rfl) ?_
                      refine lv_dup hx hb dX1_drag_195 rfl ?_
                      refine k_get (C := RX6) (T := TX6) (N := 10) (v := .int (nI (N (23 + 13 * i + 8)))) hx hb hts hown E I iX6 (15 + 3 * i) (by omega) (r0 := σ_191 (15 + 3 * i)) rfl (kc_S H_i) rfl 4 (by decide) (List.mem_of_getElem? (i := 8) rfl) (congrArg (fun z => some (Value.int z)) e4) dX1_drag_196 ?_
                      refine lv_iconst (v := nI 1) hx hb dX1_drag_199 (by decide) ?_
                      refine lv_iadd hx hb dX1_drag_200 ?_
                      rw [nI_add]
                      refine k_put (C := RX6) (T := TX6) (N := 10) (ty0 := tyX6) (ty := .int) (v := .int (nI ((N (23 + 13 * i + 8)) + 1))) hx hb hts hown E I iX6 tyX6_ok nmX6 (15 + 3 * i) (by omega) (r0 := σ_191 (15 + 3 * i)) rfl (kc_S H_i) rfl 4 (by decide) (List.mem_of_getElem? (i := 8) rfl) rfl rfl rfl rfl (Nat.le_of_ble_eq_true rfl) (upd (σ_191 (15 + 3 * i)) 4 (nI ((N (23 + 13 * i + 8)) + 1))) (kc_S (cy := cy) (ad := ad) (r := (upd (σ_191 (15 + 3 * i)) 4 (nI ((N (23 + 13 * i + 8)) + 1)))) H_i).symm (σ2 := va_up σ_191 (15 + 3 * i) (upd (σ_191 (15 + 3 * i)) 4 (nI ((N (23 + 13 * i + 8)) + 1)))) rfl dX1_drag_201 (fun H locs I => ?_)
                      exact k_vret hx hb hr hlk I dX1_drag_204 (by first | exact drag_yes2 hB hN hi (by unfold pStay mIn; simp; omega) (by omega) hs159 hs191 rfl (rfl) (rfl) (rfl) (rfl) | exact drag_yes1 hB hN hi (by unfold pStay mIn; simp; omega) (by omega) hs159 rfl (rfl) (rfl))
                  · exact absurd c_128 (by decide)
                · have c_94 : ¬ ((N (23 + 13 * i + 9)) = 0) := fun q_ => c_94 ((nI_eq (by omega) (by decide)).mpr q_)
                  have hm : N (23 + 13 * i + 9) = 1 := by omega
                  have hs2 := hsh.2.2.2.2.1 hm
                  refine lv_aload_n hx hb dX1_drag_97 rfl (lv_at hl 4 rfl) ?_
                  refine lv_aload hx hb dX1_drag_98 (lv_at hl 0 rfl) ?_
                  refine k_get (C := RX0) (T := TX0) (N := 3) (v := .int (nI (N (23 + 13 * i + 10)))) hx hb hts hown E I iX0 (17 + 3 * i) (by omega) (r0 := σ (17 + 3 * i)) rfl (kc_G H_i) rfl 0 (by decide) (List.mem_of_getElem? (i := 3) rfl) (congrArg (fun z => some (Value.int z)) (rB_g hB hi hm 0 (by decide))) dX1_drag_100 ?_
                  refine lv_iload_n hx hb dX1_drag_103 rfl (lv_at hl 3 rfl) ?_
                  refine lv_iadd hx hb dX1_drag_104 ?_
                  rw [nI_add]
                  refine lv_aload hx hb dX1_drag_105 (lv_at hl 0 rfl) ?_
                  refine k_get (C := RX0) (T := TX0) (N := 3) (v := .int (nI (N (23 + 13 * i + 11)))) hx hb hts hown E I iX0 (17 + 3 * i) (by omega) (r0 := σ (17 + 3 * i)) rfl (kc_G H_i) rfl 1 (by decide) (List.mem_of_getElem? (i := 4) rfl) (congrArg (fun z => some (Value.int z)) (rB_g hB hi hm 1 (by decide))) dX1_drag_107 ?_
                  refine lv_iload hx hb dX1_drag_110 (lv_at hl 2 rfl) ?_
                  refine lv_iadd hx hb dX1_drag_112 ?_
                  rw [nI_add]
                  refine k_calli (k := 11) (As := [.int (nI ((N (23 + 13 * i + 10)) + 0)), .int (nI ((N (23 + 13 * i + 11)) + 1))]) (rest := []) ⟨hx, hb, hml, hown, hts⟩ (c_X1_isCell cy D ad l σ ((nI ((N (23 + 13 * i + 10)) + 0))) ((nI ((N (23 + 13 * i + 11)) + 1))) (N 0) (by omega) (by omega) hB.1.1) (cwV 2 hts gX1_drag_X1_isCell rfl rfl rfl (by decide +kernel) ⟨Nat.le_of_ble_eq_true rfl, Nat.le_of_ble_eq_true rfl⟩) E hA I (k_recv E I (by decide) kc_11 rfl) rfl hl.1 rfl (lv_room (Nat.le_of_ble_eq_true rfl)) dX1_drag_113 ⟨Nat.le_of_ble_eq_true rfl, Nat.le_of_ble_eq_true rfl⟩ (fun r_113 σ_113 H locs hp_113 I => ?_)
                  obtain ⟨hk_, rfl⟩ := hp_113
                  first | rw [nI_toInt (by omega), nI_toInt (by omega)] at hk_ | rw [km1_toInt (by omega), nI_toInt (by omega)] at hk_ | rw [nI_toInt (by omega), km1_toInt (by omega)] at hk_
                  rcases hk_ with ⟨rfl, g2⟩ | ⟨rfl, g2⟩
                  · refine lv_if_eq (tgt := 123) hx hb dX1_drag_116 (by decide) (fun c_116 => ?_) (fun c_116 => ?_)
                    · exact absurd c_116 (by decide)
                    · refine lv_iconst (v := nI 1) hx hb dX1_drag_119 (by decide) ?_
                      refine lv_goto (tgt := 124) hx hb dX1_drag_120 (by decide) ?_
                      refine lv_istore (lv' := [(7, .int (nI 1)), (6, .ref (ad (17 + 3 * i))), (5, .ref (ad (16 + 3 * i))), (4, .int (nI 1)), (3, .int (nI 0)), (0, .ref (ad 11)), (1, .ref (ad (15 + 3 * i))), (2, .int (nI 2))]) hx hb dX1_drag_124 hl (by decide) rfl (fun ls hl => ?_)
                      refine lv_iload hx hb dX1_drag_126 (lv_at hl 0 rfl) ?_
                      refine lv_if_ne (tgt := 137) hx hb dX1_drag_128 (by decide) (fun c_128 => ?_) (fun c_128 => ?_)
                      · refine lv_aload hx hb dX1_drag_137 (lv_at hl 2 rfl) ?_
                        refine lv_aload hx hb dX1_drag_139 (lv_at hl 2 rfl) ?_
                        refine k_get (C := RX0) (T := TX0) (N := 3) (v := .int (nI (N (23 + 13 * i)))) hx hb hts hown E I iX0 (16 + 3 * i) (by omega) (r0 := σ (16 + 3 * i)) rfl (kc_F H_i) rfl 0 (by decide) (List.mem_of_getElem? (i := 3) rfl) (congrArg (fun z => some (Value.int z)) (rB_f hB hi 0 (by decide))) dX1_drag_141 ?_
                        refine lv_iload_n hx hb dX1_drag_144 rfl (lv_at hl 4 rfl) ?_
                        refine lv_iadd hx hb dX1_drag_145 ?_
                        rw [nI_add]
                        refine lv_aload hx hb dX1_drag_146 (lv_at hl 2 rfl) ?_
                        refine k_get (C := RX0) (T := TX0) (N := 3) (v := .int (nI (N (23 + 13 * i + 1)))) hx hb hts hown E I iX0 (16 + 3 * i) (by omega) (r0 := σ (16 + 3 * i)) rfl (kc_F H_i) rfl 1 (by decide) (List.mem_of_getElem? (i := 4) rfl) (congrArg (fun z => some (Value.int z)) (rB_f hB hi 1 (by decide))) dX1_drag_148 ?_
                        refine lv_iload hx hb dX1_drag_151 (lv_at hl 3 rfl) ?_
                        refine lv_iadd hx hb dX1_drag_153 ?_
                        rw [nI_add]
                        refine lv_aload hx hb dX1_drag_154 (lv_at hl 2 rfl) ?_
                        refine k_get (C := RX0) (T := TX0) (N := 3) (v := .int (nI (N (23 + 13 * i + 2)))) hx hb hts hown E I iX0 (16 + 3 * i) (by omega) (r0 := σ (16 + 3 * i)) rfl (kc_F H_i) rfl 2 (by decide) (List.mem_of_getElem? (i := 7) rfl) (congrArg (fun z => some (Value.int z)) (rB_f hB hi 2 (by decide))) dX1_drag_156 ?_
                        refine k_callv (k := 16 + 3 * i) (As := [.int (nI ((N (23 + 13 * i)) + 0)), .int (nI ((N (23 + 13 * i + 1)) + 1)), .int (nI (N (23 + 13 * i + 2)))]) (rest := []) ⟨hx, hb, hml, hown, hts⟩ (c_X0_put cy D ad l σ i H_i ((nI ((N (23 + 13 * i)) + 0))) ((nI ((N (23 + 13 * i + 1)) + 1))) ((nI (N (23 + 13 * i + 2))))) (cwV 3 hts gX1_drag_X0_put rfl rfl rfl (by decide +kernel) ⟨Nat.le_of_ble_eq_true rfl, Nat.le_of_ble_eq_true rfl⟩) E hA I (k_recv E I (by omega) (kc_F H_i) rfl) rfl hl.1 rfl (lv_room (Nat.le_of_ble_eq_true rfl)) dX1_drag_159 ⟨Nat.le_of_ble_eq_true rfl, Nat.le_of_ble_eq_true rfl⟩ (fun σ_159 H locs hp_159 I => ?_)
                        have hs159 : σ_159 = va_up σ (16 + 3 * i) (upd (upd (upd (σ (16 + 3 * i)) 0 (nI ((N (23 + 13 * i)) + 0))) 1 (nI ((N (23 + 13 * i + 1)) + 1))) 2 (nI (N (23 + 13 * i + 2)))) := hp_159
                        have e2 : σ_159 (15 + 3 * i) 2 = nI (N (23 + 13 * i + 9)) := by rw [hs159, va_up_ne _ _ (by omega)]; exact rB_f hB hi 9 (by decide)
                        have e4 : σ_159 (15 + 3 * i) 4 = nI (N (23 + 13 * i + 8)) := by rw [hs159, va_up_ne _ _ (by omega)]; exact rB_f hB hi 8 (by decide)
                        refine lv_aload_n hx hb dX1_drag_162 rfl (lv_at hl 6 rfl) ?_
                        refine k_get (C := RX6) (T := TX6) (N := 10) (v := .int (nI (N (23 + 13 * i + 9)))) hx hb hts hown E I iX6 (15 + 3 * i) (by omega) (r0 := σ_159 (15 + 3 * i)) rfl (kc_S H_i) rfl 2 (by decide) (List.mem_of_getElem? (i := 5) rfl) (congrArg (fun z => some (Value.int z)) e2) dX1_drag_163 ?_
                        refine lv_if_eq (tgt := 194) hx hb dX1_drag_166 (by decide) (fun c_166 => ?_) (fun c_166 => ?_)
                        · have c_166 : (N (23 + 13 * i + 9)) = 0 := (nI_eq (by omega) (by decide)).mp c_166
                          refine lv_aload_n hx hb dX1_drag_194 rfl (lv_at hl 6 rfl) ?_
                          refine lv_dup hx hb dX1_drag_195 rfl ?_
                          refine k_get (C := RX6) (T := TX6) (N := 10) (v := .int (nI (N (23 + 13 * i + 8)))) hx hb hts hown E I iX6 (15 + 3 * i) (by omega) (r0 := σ_159 (15 + 3 * i)) rfl (kc_S H_i) rfl 4 (by decide) (List.mem_of_getElem? (i := 8) rfl) (congrArg (fun z => some (Value.int z)) e4) dX1_drag_196 ?_
                          refine lv_iconst (v := nI 1) hx hb dX1_drag_199 (by decide) ?_
                          refine lv_iadd hx hb dX1_drag_200 ?_
                          rw [nI_add]
                          refine k_put (C := RX6) (T := TX6) (N := 10) (ty0 := tyX6) (ty := .int) (v := .int (nI ((N (23 + 13 * i + 8)) + 1))) hx hb hts hown E I iX6 tyX6_ok nmX6 (15 + 3 * i) (by omega) (r0 := σ_159 (15 + 3 * i)) rfl (kc_S H_i) rfl 4 (by decide) (List.mem_of_getElem? (i := 8) rfl) rfl rfl rfl rfl (Nat.le_of_ble_eq_true rfl) (upd (σ_159 (15 + 3 * i)) 4 (nI ((N (23 + 13 * i + 8)) + 1))) (kc_S (cy := cy) (ad := ad) (r := (upd (σ_159 (15 + 3 * i)) 4 (nI ((N (23 + 13 * i + 8)) + 1)))) H_i).symm (σ2 := va_up σ_159 (15 + 3 * i) (upd (σ_159 (15 + 3 * i)) 4 (nI ((N (23 + 13 * i + 8)) + 1)))) rfl dX1_drag_201 (fun H locs I => ?_)
                          exact k_vret hx hb hr hlk I dX1_drag_204 (by first | exact drag_yes2 hB hN hi (by unfold pStay mIn; simp; omega) (by omega) hs159 hs191 rfl (rfl) (rfl) (rfl) (rfl) | exact drag_yes1 hB hN hi (by unfold pStay mIn; simp; omega) (by omega) hs159 rfl (rfl) (rfl))
                        · have c_166 : ¬ ((N (23 + 13 * i + 9)) = 0) := fun q_ => c_166 ((nI_eq (by omega) (by decide)).mpr q_)
                          have gg : ∀ f, f < 3 → σ_159 (17 + 3 * i) f = nI (N (23 + 13 * i + (10 + f))) := fun f hf => by rw [hs159, va_up_ne _ _ (by omega)]; exact rB_g hB hi (by omega) f hf
                          refine lv_aload hx hb dX1_drag_169 (lv_at hl 1 rfl) ?_
                          refine lv_aload hx hb dX1_drag_171 (lv_at hl 1 rfl) ?_
                          refine k_get (C := RX0) (T := TX0) (N := 3) (v := .int (nI (N (23 + 13 * i + 10)))) hx hb hts hown E I iX0 (17 + 3 * i) (by omega) (r0 := σ_159 (17 + 3 * i)) rfl (kc_G H_i) rfl 0 (by decide) (List.mem_of_getElem? (i := 3) rfl) (congrArg (fun z => some (Value.int z)) (gg 0 (by decide))) dX1_drag_173 ?_
                          refine lv_iload_n hx hb dX1_drag_176 rfl (lv_at hl 4 rfl) ?_
                          refine lv_iadd hx hb dX1_drag_177 ?_
                          rw [nI_add]
                          refine lv_aload hx hb dX1_drag_178 (lv_at hl 1 rfl) ?_
                          refine k_get (C := RX0) (T := TX0) (N := 3) (v := .int (nI (N (23 + 13 * i + 11)))) hx hb hts hown E I iX0 (17 + 3 * i) (by omega) (r0 := σ_159 (17 + 3 * i)) rfl (kc_G H_i) rfl 1 (by decide) (List.mem_of_getElem? (i := 4) rfl) (congrArg (fun z => some (Value.int z)) (gg 1 (by decide))) dX1_drag_180 ?_
                          refine lv_iload hx hb dX1_drag_183 (lv_at hl 3 rfl) ?_
                          refine lv_iadd hx hb dX1_drag_185 ?_
                          rw [nI_add]
                          refine lv_aload hx hb dX1_drag_186 (lv_at hl 1 rfl) ?_
                          refine k_get (C := RX0) (T := TX0) (N := 3) (v := .int (nI (N (23 + 13 * i + 12)))) hx hb hts hown E I iX0 (17 + 3 * i) (by omega) (r0 := σ_159 (17 + 3 * i)) rfl (kc_G H_i) rfl 2 (by decide) (List.mem_of_getElem? (i := 7) rfl) (congrArg (fun z => some (Value.int z)) (gg 2 (by decide))) dX1_drag_188 ?_
                          refine k_callv (k := 17 + 3 * i) (As := [.int (nI ((N (23 + 13 * i + 10)) + 0)), .int (nI ((N (23 + 13 * i + 11)) + 1)), .int (nI (N (23 + 13 * i + 12)))]) (rest := []) ⟨hx, hb, hml, hown, hts⟩ (c_X0_put2 cy D ad l σ_159 i H_i ((nI ((N (23 + 13 * i + 10)) + 0))) ((nI ((N (23 + 13 * i + 11)) + 1))) ((nI (N (23 + 13 * i + 12))))) (cwV 3 hts gX1_drag_X0_put rfl rfl rfl (by decide +kernel) ⟨Nat.le_of_ble_eq_true rfl, Nat.le_of_ble_eq_true rfl⟩) E hA I (k_recv E I (by omega) (kc_G H_i) rfl) rfl hl.1 rfl (lv_room (Nat.le_of_ble_eq_true rfl)) dX1_drag_191 ⟨Nat.le_of_ble_eq_true rfl, Nat.le_of_ble_eq_true rfl⟩ (fun σ_191 H locs hp_191 I => ?_)
                          have hs191 : σ_191 = va_up σ_159 (17 + 3 * i) (upd (upd (upd (σ_159 (17 + 3 * i)) 0 (nI ((N (23 + 13 * i + 10)) + 0))) 1 (nI ((N (23 + 13 * i + 11)) + 1))) 2 (nI (N (23 + 13 * i + 12)))) := hp_191
                          have e4 : σ_191 (15 + 3 * i) 4 = nI (N (23 + 13 * i + 8)) := by rw [hs191, va_up_ne _ _ (by omega)]; exact e4
                          refine lv_aload_n hx hb dX1_drag_194 rfl (lv_at hl 6 rfl) ?_
                          refine lv_dup hx hb dX1_drag_195 rfl ?_
                          refine k_get (C := RX6) (T := TX6) (N := 10) (v := .int (nI (N (23 + 13 * i + 8)))) hx hb hts hown E I iX6 (15 + 3 * i) (by omega) (r0 := σ_191 (15 + 3 * i)) rfl (kc_S H_i) rfl 4 (by decide) (List.mem_of_getElem? (i := 8) rfl) (congrArg (fun z => some (Value.int z)) e4) dX1_drag_196 ?_
                          refine lv_iconst (v := nI 1) hx hb dX1_drag_199 (by decide) ?_
                          refine lv_iadd hx hb dX1_drag_200 ?_
                          rw [nI_add]
                          refine k_put (C := RX6) (T := TX6) (N := 10) (ty0 := tyX6) (ty := .int) (v := .int (nI ((N (23 + 13 * i + 8)) + 1))) hx hb hts hown E I iX6 tyX6_ok nmX6 (15 + 3 * i) (by omega) (r0 := σ_191 (15 + 3 * i)) rfl (kc_S H_i) rfl 4 (by decide) (List.mem_of_getElem? (i := 8) rfl) rfl rfl rfl rfl (Nat.le_of_ble_eq_true rfl) (upd (σ_191 (15 + 3 * i)) 4 (nI ((N (23 + 13 * i + 8)) + 1))) (kc_S (cy := cy) (ad := ad) (r := (upd (σ_191 (15 + 3 * i)) 4 (nI ((N (23 + 13 * i + 8)) + 1)))) H_i).symm (σ2 := va_up σ_191 (15 + 3 * i) (upd (σ_191 (15 + 3 * i)) 4 (nI ((N (23 + 13 * i + 8)) + 1)))) rfl dX1_drag_201 (fun H locs I => ?_)
                          exact k_vret hx hb hr hlk I dX1_drag_204 (by first | exact drag_yes2 hB hN hi (by unfold pStay mIn; simp; omega) (by omega) hs159 hs191 rfl (rfl) (rfl) (rfl) (rfl) | exact drag_yes1 hB hN hi (by unfold pStay mIn; simp; omega) (by omega) hs159 rfl (rfl) (rfl))
                      · exact absurd c_128 (by decide)
                  · refine lv_if_eq (tgt := 123) hx hb dX1_drag_116 (by decide) (fun c_116 => ?_) (fun c_116 => ?_)
                    · refine lv_iconst (v := nI 0) hx hb dX1_drag_123 (by decide) ?_
                      refine lv_istore (lv' := [(7, .int (nI 0)), (6, .ref (ad (17 + 3 * i))), (5, .ref (ad (16 + 3 * i))), (4, .int (nI 1)), (3, .int (nI 0)), (0, .ref (ad 11)), (1, .ref (ad (15 + 3 * i))), (2, .int (nI 2))]) hx hb dX1_drag_124 hl (by decide) rfl (fun ls hl => ?_)
                      refine lv_iload hx hb dX1_drag_126 (lv_at hl 0 rfl) ?_
                      refine lv_if_ne (tgt := 137) hx hb dX1_drag_128 (by decide) (fun c_128 => ?_) (fun c_128 => ?_)
                      · exact absurd c_128 (by decide)
                      · refine lv_aload_n hx hb dX1_drag_131 rfl (lv_at hl 6 rfl) ?_
                        refine lv_iconst (v := nI 1) hx hb dX1_drag_132 (by decide) ?_
                        refine k_put (C := RX6) (T := TX6) (N := 10) (ty0 := tyX6) (ty := .boolean) (v := .int (nI 1)) hx hb hts hown E I iX6 tyX6_ok nmX6 (15 + 3 * i) (by omega) (r0 := σ (15 + 3 * i)) rfl (kc_S H_i) rfl 3 (by decide) (List.mem_of_getElem? (i := 6) rfl) rfl rfl (by decide) (by decide) (Nat.le_of_ble_eq_true rfl) (upd (σ (15 + 3 * i)) 3 (nI 1)) (kc_S (cy := cy) (ad := ad) (r := (upd (σ (15 + 3 * i)) 3 (nI 1))) H_i).symm (σ2 := va_up σ (15 + 3 * i) (upd (σ (15 + 3 * i)) 3 (nI 1))) rfl dX1_drag_133 (fun H locs I => ?_)
                        exact k_vret hx hb hr hlk I dX1_drag_136 (drag_no hB hN hi (by unfold pStay mIn; simp; omega) rfl)
                    · exact absurd c_116 (by decide)
            · refine lv_if_eq (tgt := 123) hx hb dX1_drag_87 (by decide) (fun c_87 => ?_) (fun c_87 => ?_)
              · refine lv_iconst (v := nI 0) hx hb dX1_drag_123 (by decide) ?_
                refine lv_istore (lv' := [(7, .int (nI 0)), (6, .ref (ad (17 + 3 * i))), (5, .ref (ad (16 + 3 * i))), (4, .int (nI 1)), (3, .int (nI 0)), (0, .ref (ad 11)), (1, .ref (ad (15 + 3 * i))), (2, .int (nI 2))]) hx hb dX1_drag_124 hl (by decide) rfl (fun ls hl => ?_)
                refine lv_iload hx hb dX1_drag_126 (lv_at hl 0 rfl) ?_
                refine lv_if_ne (tgt := 137) hx hb dX1_drag_128 (by decide) (fun c_128 => ?_) (fun c_128 => ?_)
                · exact absurd c_128 (by decide)
                · refine lv_aload_n hx hb dX1_drag_131 rfl (lv_at hl 6 rfl) ?_
                  refine lv_iconst (v := nI 1) hx hb dX1_drag_132 (by decide) ?_
                  refine k_put (C := RX6) (T := TX6) (N := 10) (ty0 := tyX6) (ty := .boolean) (v := .int (nI 1)) hx hb hts hown E I iX6 tyX6_ok nmX6 (15 + 3 * i) (by omega) (r0 := σ (15 + 3 * i)) rfl (kc_S H_i) rfl 3 (by decide) (List.mem_of_getElem? (i := 6) rfl) rfl rfl (by decide) (by decide) (Nat.le_of_ble_eq_true rfl) (upd (σ (15 + 3 * i)) 3 (nI 1)) (kc_S (cy := cy) (ad := ad) (r := (upd (σ (15 + 3 * i)) 3 (nI 1))) H_i).symm (σ2 := va_up σ (15 + 3 * i) (upd (σ (15 + 3 * i)) 3 (nI 1))) rfl dX1_drag_133 (fun H locs I => ?_)
                  exact k_vret hx hb hr hlk I dX1_drag_136 (drag_no hB hN hi (by unfold pStay mIn; simp; omega) rfl)
              · exact absurd c_87 (by decide)
          · exact absurd c_42 (by decide)
      · exact absurd c_15 (by decide)
    · exact absurd c_2 (by decide)
  · refine lv_iload_n hx hb dX1_drag_0 rfl (lv_at hl 2 rfl) ?_
    refine lv_iconst (v := nI 1) hx hb dX1_drag_1 (by decide) ?_
    refine lv_icmp_ne (tgt := 9) hx hb dX1_drag_2 (by decide) (fun c_2 => ?_) (fun c_2 => ?_)
    · refine lv_iconst (v := nI 0) hx hb dX1_drag_9 (by decide) ?_
      refine k_callsN (As := [.int (nI 0)]) (rest := []) ⟨hx, hb, hml, hown, hts⟩ (c_X7_oneIf l (nI 0) (by first | exact Or.inl rfl | exact Or.inr rfl)) ⟨va_cnB 1 hts gX1_drag_X7_oneIf_n151 rfl rfl rfl E.2.1.2.2.2 (hts _ (List.mem_of_getElem? (i := 10) rfl)) (by decide +kernel) ⟨Nat.le_of_ble_eq_true rfl, Nat.le_of_ble_eq_true rfl⟩, hts _ (List.mem_of_getElem? (i := 9) rfl), trivial⟩ rfl hl.1 rfl (lv_room (Nat.le_of_ble_eq_true rfl)) dX1_drag_10 ⟨Nat.le_of_ble_eq_true rfl, Nat.le_of_ble_eq_true rfl⟩ (fun r_10 hp_10 => ?_)
      subst hp_10
      refine lv_iload_n hx hb dX1_drag_13 rfl (lv_at hl 2 rfl) ?_
      refine lv_iconst (v := nI 3) hx hb dX1_drag_14 (by decide) ?_
      refine lv_icmp_ne (tgt := 22) hx hb dX1_drag_15 (by decide) (fun c_15 => ?_) (fun c_15 => ?_)
      · exact absurd c_15 (by decide)
      · refine lv_iconst (v := nI 1) hx hb dX1_drag_18 (by decide) ?_
        refine lv_goto (tgt := 23) hx hb dX1_drag_19 (by decide) ?_
        refine k_callsN (As := [.int (nI 1)]) (rest := [.int (nI 0)]) ⟨hx, hb, hml, hown, hts⟩ (c_X7_oneIf l (nI 1) (by first | exact Or.inl rfl | exact Or.inr rfl)) ⟨va_cnB 1 hts gX1_drag_X7_oneIf_n151 rfl rfl rfl E.2.1.2.2.2 (hts _ (List.mem_of_getElem? (i := 10) rfl)) (by decide +kernel) ⟨Nat.le_of_ble_eq_true rfl, Nat.le_of_ble_eq_true rfl⟩, hts _ (List.mem_of_getElem? (i := 9) rfl), trivial⟩ rfl hl.1 rfl (lv_room (Nat.le_of_ble_eq_true rfl)) dX1_drag_23 ⟨Nat.le_of_ble_eq_true rfl, Nat.le_of_ble_eq_true rfl⟩ (fun r_23 hp_23 => ?_)
        subst hp_23
        refine lv_isub hx hb dX1_drag_26 ?_
        refine lv_topi (fun t_26 et_26 => ?_)
        have et_26 : t_26 = -1 := et_26.trans (by decide)
        subst et_26
        refine lv_istore_n (lv' := [(3, .int (-1)), (0, .ref (ad 11)), (1, .ref (ad (15 + 3 * i))), (2, .int (nI 3))]) hx hb dX1_drag_27 rfl hl (by decide) rfl (fun ls hl => ?_)
        refine lv_iload_n hx hb dX1_drag_28 rfl (lv_at hl 3 rfl) ?_
        refine lv_iconst (v := nI 2) hx hb dX1_drag_29 (by decide) ?_
        refine lv_icmp_ne (tgt := 37) hx hb dX1_drag_30 (by decide) (fun c_30 => ?_) (fun c_30 => ?_)
        · refine lv_iconst (v := nI 0) hx hb dX1_drag_37 (by decide) ?_
          refine k_callsN (As := [.int (nI 0)]) (rest := []) ⟨hx, hb, hml, hown, hts⟩ (c_X7_oneIf l (nI 0) (by first | exact Or.inl rfl | exact Or.inr rfl)) ⟨va_cnB 1 hts gX1_drag_X7_oneIf_n151 rfl rfl rfl E.2.1.2.2.2 (hts _ (List.mem_of_getElem? (i := 10) rfl)) (by decide +kernel) ⟨Nat.le_of_ble_eq_true rfl, Nat.le_of_ble_eq_true rfl⟩, hts _ (List.mem_of_getElem? (i := 9) rfl), trivial⟩ rfl hl.1 rfl (lv_room (Nat.le_of_ble_eq_true rfl)) dX1_drag_38 ⟨Nat.le_of_ble_eq_true rfl, Nat.le_of_ble_eq_true rfl⟩ (fun r_38 hp_38 => ?_)
          subst hp_38
          refine lv_iload_n hx hb dX1_drag_41 rfl (lv_at hl 3 rfl) ?_
          refine lv_if_ne (tgt := 49) hx hb dX1_drag_42 (by decide) (fun c_42 => ?_) (fun c_42 => ?_)
          · refine lv_iconst (v := nI 0) hx hb dX1_drag_49 (by decide) ?_
            refine k_callsN (As := [.int (nI 0)]) (rest := [.int (nI 0)]) ⟨hx, hb, hml, hown, hts⟩ (c_X7_oneIf l (nI 0) (by first | exact Or.inl rfl | exact Or.inr rfl)) ⟨va_cnB 1 hts gX1_drag_X7_oneIf_n151 rfl rfl rfl E.2.1.2.2.2 (hts _ (List.mem_of_getElem? (i := 10) rfl)) (by decide +kernel) ⟨Nat.le_of_ble_eq_true rfl, Nat.le_of_ble_eq_true rfl⟩, hts _ (List.mem_of_getElem? (i := 9) rfl), trivial⟩ rfl hl.1 rfl (lv_room (Nat.le_of_ble_eq_true rfl)) dX1_drag_50 ⟨Nat.le_of_ble_eq_true rfl, Nat.le_of_ble_eq_true rfl⟩ (fun r_50 hp_50 => ?_)
            subst hp_50
            refine lv_isub hx hb dX1_drag_53 ?_
            refine lv_topi (fun t_53 et_53 => ?_)
            have et_53 : t_53 = nI 0 := et_53.trans (by decide)
            subst et_53
            refine lv_istore (lv' := [(4, .int (nI 0)), (3, .int (-1)), (0, .ref (ad 11)), (1, .ref (ad (15 + 3 * i))), (2, .int (nI 3))]) hx hb dX1_drag_54 hl (by decide) rfl (fun ls hl => ?_)
            refine lv_aload_n hx hb dX1_drag_56 rfl (lv_at hl 3 rfl) ?_
            refine k_get (C := RX6) (T := TX6) (N := 10) (v := .ref (ad (16 + 3 * i))) hx hb hts hown E I iX6 (15 + 3 * i) (by omega) (r0 := σ (15 + 3 * i)) rfl (kc_S H_i) rfl 0 (by decide) (List.mem_of_getElem? (i := 1) rfl) rfl dX1_drag_57 ?_
            refine lv_astore (lv' := [(5, .ref (ad (16 + 3 * i))), (4, .int (nI 0)), (3, .int (-1)), (0, .ref (ad 11)), (1, .ref (ad (15 + 3 * i))), (2, .int (nI 3))]) hx hb dX1_drag_60 hl (by decide) rfl (fun ls hl => ?_)
            refine lv_aload_n hx hb dX1_drag_62 rfl (lv_at hl 4 rfl) ?_
            refine k_get (C := RX6) (T := TX6) (N := 10) (v := .ref (ad (17 + 3 * i))) hx hb hts hown E I iX6 (15 + 3 * i) (by omega) (r0 := σ (15 + 3 * i)) rfl (kc_S H_i) rfl 1 (by decide) (List.mem_of_getElem? (i := 2) rfl) rfl dX1_drag_63 ?_
            refine lv_astore (lv' := [(6, .ref (ad (17 + 3 * i))), (5, .ref (ad (16 + 3 * i))), (4, .int (nI 0)), (3, .int (-1)), (0, .ref (ad 11)), (1, .ref (ad (15 + 3 * i))), (2, .int (nI 3))]) hx hb dX1_drag_66 hl (by decide) rfl (fun ls hl => ?_)
            refine lv_aload_n hx hb dX1_drag_68 rfl (lv_at hl 4 rfl) ?_
            refine lv_aload hx hb dX1_drag_69 (lv_at hl 1 rfl) ?_
            refine k_get (C := RX0) (T := TX0) (N := 3) (v := .int (nI (N (23 + 13 * i)))) hx hb hts hown E I iX0 (16 + 3 * i) (by omega) (r0 := σ (16 + 3 * i)) rfl (kc_F H_i) rfl 0 (by decide) (List.mem_of_getElem? (i := 3) rfl) (congrArg (fun z => some (Value.int z)) (rB_f hB hi 0 (by decide))) dX1_drag_71 ?_
            refine lv_iload_n hx hb dX1_drag_74 rfl (lv_at hl 3 rfl) ?_
            refine lv_iadd hx hb dX1_drag_75 ?_
            refine lv_aload hx hb dX1_drag_76 (lv_at hl 1 rfl) ?_
            refine k_get (C := RX0) (T := TX0) (N := 3) (v := .int (nI (N (23 + 13 * i + 1)))) hx hb hts hown E I iX0 (16 + 3 * i) (by omega) (r0 := σ (16 + 3 * i)) rfl (kc_F H_i) rfl 1 (by decide) (List.mem_of_getElem? (i := 4) rfl) (congrArg (fun z => some (Value.int z)) (rB_f hB hi 1 (by decide))) dX1_drag_78 ?_
            refine lv_iload hx hb dX1_drag_81 (lv_at hl 2 rfl) ?_
            refine lv_iadd hx hb dX1_drag_83 ?_
            rw [nI_add]
            refine k_calli (k := 11) (As := [.int ((nI (N (23 + 13 * i))) + (-1)), .int (nI ((N (23 + 13 * i + 1)) + 0))]) (rest := []) ⟨hx, hb, hml, hown, hts⟩ (c_X1_isCell cy D ad l σ (((nI (N (23 + 13 * i))) + (-1))) ((nI ((N (23 + 13 * i + 1)) + 0))) (N 0) (by omega) (by omega) hB.1.1) (cwV 2 hts gX1_drag_X1_isCell rfl rfl rfl (by decide +kernel) ⟨Nat.le_of_ble_eq_true rfl, Nat.le_of_ble_eq_true rfl⟩) E hA I (k_recv E I (by decide) kc_11 rfl) rfl hl.1 rfl (lv_room (Nat.le_of_ble_eq_true rfl)) dX1_drag_84 ⟨Nat.le_of_ble_eq_true rfl, Nat.le_of_ble_eq_true rfl⟩ (fun r_84 σ_84 H locs hp_84 I => ?_)
            obtain ⟨hk_, rfl⟩ := hp_84
            first | rw [nI_toInt (by omega), nI_toInt (by omega)] at hk_ | rw [km1_toInt (by omega), nI_toInt (by omega)] at hk_ | rw [nI_toInt (by omega), km1_toInt (by omega)] at hk_
            rcases hk_ with ⟨rfl, g1⟩ | ⟨rfl, g1⟩
            · refine lv_if_eq (tgt := 123) hx hb dX1_drag_87 (by decide) (fun c_87 => ?_) (fun c_87 => ?_)
              · exact absurd c_87 (by decide)
              · refine lv_aload_n hx hb dX1_drag_90 rfl (lv_at hl 5 rfl) ?_
                refine k_get (C := RX6) (T := TX6) (N := 10) (v := .int (nI (N (23 + 13 * i + 9)))) hx hb hts hown E I iX6 (15 + 3 * i) (by omega) (r0 := σ (15 + 3 * i)) rfl (kc_S H_i) rfl 2 (by decide) (List.mem_of_getElem? (i := 5) rfl) (congrArg (fun z => some (Value.int z)) (rB_f hB hi 9 (by decide))) dX1_drag_91 ?_
                refine lv_if_eq (tgt := 119) hx hb dX1_drag_94 (by decide) (fun c_94 => ?_) (fun c_94 => ?_)
                · have c_94 : (N (23 + 13 * i + 9)) = 0 := (nI_eq (by omega) (by decide)).mp c_94
                  have hm0 : N (23 + 13 * i + 9) = 0 := by omega
                  refine lv_iconst (v := nI 1) hx hb dX1_drag_119 (by decide) ?_
                  refine lv_goto (tgt := 124) hx hb dX1_drag_120 (by decide) ?_
                  refine lv_istore (lv' := [(7, .int (nI 1)), (6, .ref (ad (17 + 3 * i))), (5, .ref (ad (16 + 3 * i))), (4, .int (nI 0)), (3, .int (-1)), (0, .ref (ad 11)), (1, .ref (ad (15 + 3 * i))), (2, .int (nI 3))]) hx hb dX1_drag_124 hl (by decide) rfl (fun ls hl => ?_)
                  refine lv_iload hx hb dX1_drag_126 (lv_at hl 0 rfl) ?_
                  refine lv_if_ne (tgt := 137) hx hb dX1_drag_128 (by decide) (fun c_128 => ?_) (fun c_128 => ?_)
                  · refine lv_aload hx hb dX1_drag_137 (lv_at hl 2 rfl) ?_
                    refine lv_aload hx hb dX1_drag_139 (lv_at hl 2 rfl) ?_
                    refine k_get (C := RX0) (T := TX0) (N := 3) (v := .int (nI (N (23 + 13 * i)))) hx hb hts hown E I iX0 (16 + 3 * i) (by omega) (r0 := σ (16 + 3 * i)) rfl (kc_F H_i) rfl 0 (by decide) (List.mem_of_getElem? (i := 3) rfl) (congrArg (fun z => some (Value.int z)) (rB_f hB hi 0 (by decide))) dX1_drag_141 ?_
                    refine lv_iload_n hx hb dX1_drag_144 rfl (lv_at hl 4 rfl) ?_
                    refine lv_iadd hx hb dX1_drag_145 ?_
                    refine lv_aload hx hb dX1_drag_146 (lv_at hl 2 rfl) ?_
                    refine k_get (C := RX0) (T := TX0) (N := 3) (v := .int (nI (N (23 + 13 * i + 1)))) hx hb hts hown E I iX0 (16 + 3 * i) (by omega) (r0 := σ (16 + 3 * i)) rfl (kc_F H_i) rfl 1 (by decide) (List.mem_of_getElem? (i := 4) rfl) (congrArg (fun z => some (Value.int z)) (rB_f hB hi 1 (by decide))) dX1_drag_148 ?_
                    refine lv_iload hx hb dX1_drag_151 (lv_at hl 3 rfl) ?_
                    refine lv_iadd hx hb dX1_drag_153 ?_
                    rw [nI_add]
                    refine lv_aload hx hb dX1_drag_154 (lv_at hl 2 rfl) ?_
                    refine k_get (C := RX0) (T := TX0) (N := 3) (v := .int (nI (N (23 + 13 * i + 2)))) hx hb hts hown E I iX0 (16 + 3 * i) (by omega) (r0 := σ (16 + 3 * i)) rfl (kc_F H_i) rfl 2 (by decide) (List.mem_of_getElem? (i := 7) rfl) (congrArg (fun z => some (Value.int z)) (rB_f hB hi 2 (by decide))) dX1_drag_156 ?_
                    refine k_callv (k := 16 + 3 * i) (As := [.int ((nI (N (23 + 13 * i))) + (-1)), .int (nI ((N (23 + 13 * i + 1)) + 0)), .int (nI (N (23 + 13 * i + 2)))]) (rest := []) ⟨hx, hb, hml, hown, hts⟩ (c_X0_put cy D ad l σ i H_i (((nI (N (23 + 13 * i))) + (-1))) ((nI ((N (23 + 13 * i + 1)) + 0))) ((nI (N (23 + 13 * i + 2))))) (cwV 3 hts gX1_drag_X0_put rfl rfl rfl (by decide +kernel) ⟨Nat.le_of_ble_eq_true rfl, Nat.le_of_ble_eq_true rfl⟩) E hA I (k_recv E I (by omega) (kc_F H_i) rfl) rfl hl.1 rfl (lv_room (Nat.le_of_ble_eq_true rfl)) dX1_drag_159 ⟨Nat.le_of_ble_eq_true rfl, Nat.le_of_ble_eq_true rfl⟩ (fun σ_159 H locs hp_159 I => ?_)
                    have hs159 : σ_159 = va_up σ (16 + 3 * i) (upd (upd (upd (σ (16 + 3 * i)) 0 ((nI (N (23 + 13 * i))) + (-1))) 1 (nI ((N (23 + 13 * i + 1)) + 0))) 2 (nI (N (23 + 13 * i + 2)))) := hp_159
                    have e2 : σ_159 (15 + 3 * i) 2 = nI (N (23 + 13 * i + 9)) := by rw [hs159, va_up_ne _ _ (by omega)]; exact rB_f hB hi 9 (by decide)
                    have e4 : σ_159 (15 + 3 * i) 4 = nI (N (23 + 13 * i + 8)) := by rw [hs159, va_up_ne _ _ (by omega)]; exact rB_f hB hi 8 (by decide)
                    refine lv_aload_n hx hb dX1_drag_162 rfl (lv_at hl 6 rfl) ?_
                    refine k_get (C := RX6) (T := TX6) (N := 10) (v := .int (nI (N (23 + 13 * i + 9)))) hx hb hts hown E I iX6 (15 + 3 * i) (by omega) (r0 := σ_159 (15 + 3 * i)) rfl (kc_S H_i) rfl 2 (by decide) (List.mem_of_getElem? (i := 5) rfl) (congrArg (fun z => some (Value.int z)) e2) dX1_drag_163 ?_
                    refine lv_if_eq (tgt := 194) hx hb dX1_drag_166 (by decide) (fun c_166 => ?_) (fun c_166 => ?_)
                    · have c_166 : (N (23 + 13 * i + 9)) = 0 := (nI_eq (by omega) (by decide)).mp c_166
                      refine lv_aload_n hx hb dX1_drag_194 rfl (lv_at hl 6 rfl) ?_
                      refine lv_dup hx hb dX1_drag_195 rfl ?_
                      refine k_get (C := RX6) (T := TX6) (N := 10) (v := .int (nI (N (23 + 13 * i + 8)))) hx hb hts hown E I iX6 (15 + 3 * i) (by omega) (r0 := σ_159 (15 + 3 * i)) rfl (kc_S H_i) rfl 4 (by decide) (List.mem_of_getElem? (i := 8) rfl) (congrArg (fun z => some (Value.int z)) e4) dX1_drag_196 ?_
                      refine lv_iconst (v := nI 1) hx hb dX1_drag_199 (by decide) ?_
                      refine lv_iadd hx hb dX1_drag_200 ?_
                      rw [nI_add]
                      refine k_put (C := RX6) (T := TX6) (N := 10) (ty0 := tyX6) (ty := .int) (v := .int (nI ((N (23 + 13 * i + 8)) + 1))) hx hb hts hown E I iX6 tyX6_ok nmX6 (15 + 3 * i) (by omega) (r0 := σ_159 (15 + 3 * i)) rfl (kc_S H_i) rfl 4 (by decide) (List.mem_of_getElem? (i := 8) rfl) rfl rfl rfl rfl (Nat.le_of_ble_eq_true rfl) (upd (σ_159 (15 + 3 * i)) 4 (nI ((N (23 + 13 * i + 8)) + 1))) (kc_S (cy := cy) (ad := ad) (r := (upd (σ_159 (15 + 3 * i)) 4 (nI ((N (23 + 13 * i + 8)) + 1)))) H_i).symm (σ2 := va_up σ_159 (15 + 3 * i) (upd (σ_159 (15 + 3 * i)) 4 (nI ((N (23 + 13 * i + 8)) + 1)))) rfl dX1_drag_201 (fun H locs I => ?_)
                      exact k_vret hx hb hr hlk I dX1_drag_204 (by first | exact drag_yes2 hB hN hi (by unfold pStay mIn; simp; omega) (by omega) hs159 hs191 rfl (sb_m1 (by omega)) (rfl) (sb_m1 (by omega)) (rfl) | exact drag_yes1 hB hN hi (by unfold pStay mIn; simp; omega) (by omega) hs159 rfl (sb_m1 (by omega)) (rfl))
                    · have c_166 : ¬ ((N (23 + 13 * i + 9)) = 0) := fun q_ => c_166 ((nI_eq (by omega) (by decide)).mpr q_)
                      have gg : ∀ f, f < 3 → σ_159 (17 + 3 * i) f = nI (N (23 + 13 * i + (10 + f))) := fun f hf => by rw [hs159, va_up_ne _ _ (by omega)]; exact rB_g hB hi (by omega) f hf
                      refine lv_aload hx hb dX1_drag_169 (lv_at hl 1 rfl) ?_
                      refine lv_aload hx hb dX1_drag_171 (lv_at hl 1 rfl) ?_
                      refine k_get (C := RX0) (T := TX0) (N := 3) (v := .int (nI (N (23 + 13 * i + 10)))) hx hb hts hown E I iX0 (17 + 3 * i) (by omega) (r0 := σ_159 (17 + 3 * i)) rfl (kc_G H_i) rfl 0 (by decide) (List.mem_of_getElem? (i := 3) rfl) (congrArg (fun z => some (Value.int z)) (gg 0 (by decide))) dX1_drag_173 ?_
                      refine lv_iload_n hx hb dX1_drag_176 rfl (lv_at hl 4 rfl) ?_
                      refine lv_iadd hx hb dX1_drag_177 ?_
                      refine lv_aload hx hb dX1_drag_178 (lv_at hl 1 rfl) ?_
                      refine k_get (C := RX0) (T := TX0) (N := 3) (v := .int (nI (N (23 + 13 * i + 11)))) hx hb hts hown E I iX0 (17 + 3 * i) (by omega) (r0 := σ_159 (17 + 3 * i)) rfl (kc_G H_i) rfl 1 (by decide) (List.mem_of_getElem? (i := 4) rfl) (congrArg (fun z => some (Value.int z)) (gg 1 (by decide))) dX1_drag_180 ?_
                      refine lv_iload hx hb dX1_drag_183 (lv_at hl 3 rfl) ?_
                      refine lv_iadd hx hb dX1_drag_185 ?_
                      rw [nI_add]
                      refine lv_aload hx hb dX1_drag_186 (lv_at hl 1 rfl) ?_
                      refine k_get (C := RX0) (T := TX0) (N := 3) (v := .int (nI (N (23 + 13 * i + 12)))) hx hb hts hown E I iX0 (17 + 3 * i) (by omega) (r0 := σ_159 (17 + 3 * i)) rfl (kc_G H_i) rfl 2 (by decide) (List.mem_of_getElem? (i := 7) rfl) (congrArg (fun z => some (Value.int z)) (gg 2 (by decide))) dX1_drag_188 ?_
                      refine k_callv (k := 17 + 3 * i) (As := [.int ((nI (N (23 + 13 * i + 10))) + (-1)), .int (nI ((N (23 + 13 * i + 11)) + 0)), .int (nI (N (23 + 13 * i + 12)))]) (rest := []) ⟨hx, hb, hml, hown, hts⟩ (c_X0_put2 cy D ad l σ_159 i H_i (((nI (N (23 + 13 * i + 10))) + (-1))) ((nI ((N (23 + 13 * i + 11)) + 0))) ((nI (N (23 + 13 * i + 12))))) (cwV 3 hts gX1_drag_X0_put rfl rfl rfl (by decide +kernel) ⟨Nat.le_of_ble_eq_true rfl, Nat.le_of_ble_eq_true rfl⟩) E hA I (k_recv E I (by omega) (kc_G H_i) rfl) rfl hl.1 rfl (lv_room (Nat.le_of_ble_eq_true rfl)) dX1_drag_191 ⟨Nat.le_of_ble_eq_true rfl, Nat.le_of_ble_eq_true rfl⟩ (fun σ_191 H locs hp_191 I => ?_)
                      have hs191 : σ_191 = va_up σ_159 (17 + 3 * i) (upd (upd (upd (σ_159 (17 + 3 * i)) 0 ((nI (N (23 + 13 * i + 10))) + (-1))) 1 (nI ((N (23 + 13 * i + 11)) + 0))) 2 (nI (N (23 + 13 * i + 12)))) := hp_191
                      have e4 : σ_191 (15 + 3 * i) 4 = nI (N (23 + 13 * i + 8)) := by rw [hs191, va_up_ne _ _ (by omega)]; exact e4
                      refine lv_aload_n hx hb dX1_drag_194 rfl (lv_at hl 6 rfl) ?_
                      refine lv_dup hx hb dX1_drag_195 rfl ?_
                      refine k_get (C := RX6) (T := TX6) (N := 10) (v := .int (nI (N (23 + 13 * i + 8)))) hx hb hts hown E I iX6 (15 + 3 * i) (by omega) (r0 := σ_191 (15 + 3 * i)) rfl (kc_S H_i) rfl 4 (by decide) (List.mem_of_getElem? (i := 8) rfl) (congrArg (fun z => some (Value.int z)) e4) dX1_drag_196 ?_
                      refine lv_iconst (v := nI 1) hx hb dX1_drag_199 (by decide) ?_
                      refine lv_iadd hx hb dX1_drag_200 ?_
                      rw [nI_add]
                      refine k_put (C := RX6) (T := TX6) (N := 10) (ty0 := tyX6) (ty := .int) (v := .int (nI ((N (23 + 13 * i + 8)) + 1))) hx hb hts hown E I iX6 tyX6_ok nmX6 (15 + 3 * i) (by omega) (r0 := σ_191 (15 + 3 * i)) rfl (kc_S H_i) rfl 4 (by decide) (List.mem_of_getElem? (i := 8) rfl) rfl rfl rfl rfl (Nat.le_of_ble_eq_true rfl) (upd (σ_191 (15 + 3 * i)) 4 (nI ((N (23 + 13 * i + 8)) + 1))) (kc_S (cy := cy) (ad := ad) (r := (upd (σ_191 (15 + 3 * i)) 4 (nI ((N (23 + 13 * i + 8)) + 1)))) H_i).symm (σ2 := va_up σ_191 (15 + 3 * i) (upd (σ_191 (15 + 3 * i)) 4 (nI ((N (23 + 13 * i + 8)) + 1)))) rfl dX1_drag_201 (fun H locs I => ?_)
                      exact k_vret hx hb hr hlk I dX1_drag_204 (by first | exact drag_yes2 hB hN hi (by unfold pStay mIn; simp; omega) (by omega) hs159 hs191 rfl (sb_m1 (by omega)) (rfl) (sb_m1 (by omega)) (rfl) | exact drag_yes1 hB hN hi (by unfold pStay mIn; simp; omega) (by omega) hs159 rfl (sb_m1 (by omega)) (rfl))
                  · exact absurd c_128 (by decide)
                · have c_94 : ¬ ((N (23 + 13 * i + 9)) = 0) := fun q_ => c_94 ((nI_eq (by omega) (by decide)).mpr q_)
                  have hm : N (23 + 13 * i + 9) = 1 := by omega
                  have hs2 := hsh.2.2.2.2.1 hm
                  refine lv_aload_n hx hb dX1_drag_97 rfl (lv_at hl 4 rfl) ?_
                  refine lv_aload hx hb dX1_drag_98 (lv_at hl 0 rfl) ?_
                  refine k_get (C := RX0) (T := TX0) (N := 3) (v := .int (nI (N (23 + 13 * i + 10)))) hx hb hts hown E I iX0 (17 + 3 * i) (by omega) (r0 := σ (17 + 3 * i)) rfl (kc_G H_i) rfl 0 (by decide) (List.mem_of_getElem? (i := 3) rfl) (congrArg (fun z => some (Value.int z)) (rB_g hB hi hm 0 (by decide))) dX1_drag_100 ?_
                  refine lv_iload_n hx hb dX1_drag_103 rfl (lv_at hl 3 rfl) ?_
                  refine lv_iadd hx hb dX1_drag_104 ?_
                  refine lv_aload hx hb dX1_drag_105 (lv_at hl 0 rfl) ?_
                  refine k_get (C := RX0) (T := TX0) (N := 3) (v := .int (nI (N (23 + 13 * i + 11)))) hx hb hts hown E I iX0 (17 + 3 * i) (by omega) (r0 := σ (17 + 3 * i)) rfl (kc_G H_i) rfl 1 (by decide) (List.mem_of_getElem? (i := 4) rfl) (congrArg (fun z => some (Value.int z)) (rB_g hB hi hm 1 (by decide))) dX1_drag_107 ?_
                  refine lv_iload hx hb dX1_drag_110 (lv_at hl 2 rfl) ?_
                  refine lv_iadd hx hb dX1_drag_112 ?_
                  rw [nI_add]
                  refine k_calli (k := 11) (As := [.int ((nI (N (23 + 13 * i + 10))) + (-1)), .int (nI ((N (23 + 13 * i + 11)) + 0))]) (rest := []) ⟨hx, hb, hml, hown, hts⟩ (c_X1_isCell cy D ad l σ (((nI (N (23 + 13 * i + 10))) + (-1))) ((nI ((N (23 + 13 * i + 11)) + 0))) (N 0) (by omega) (by omega) hB.1.1) (cwV 2 hts gX1_drag_X1_isCell rfl rfl rfl (by decide +kernel) ⟨Nat.le_of_ble_eq_true rfl, Nat.le_of_ble_eq_true rfl⟩) E hA I (k_recv E I (by decide) kc_11 rfl) rfl hl.1 rfl (lv_room (Nat.le_of_ble_eq_true rfl)) dX1_drag_113 ⟨Nat.le_of_ble_eq_true rfl, Nat.le_of_ble_eq_true rfl⟩ (fun r_113 σ_113 H locs hp_113 I => ?_)
                  obtain ⟨hk_, rfl⟩ := hp_113
                  first | rw [nI_toInt (by omega), nI_toInt (by omega)] at hk_ | rw [km1_toInt (by omega), nI_toInt (by omega)] at hk_ | rw [nI_toInt (by omega), km1_toInt (by omega)] at hk_
                  rcases hk_ with ⟨rfl, g2⟩ | ⟨rfl, g2⟩
                  · refine lv_if_eq (tgt := 123) hx hb dX1_drag_116 (by decide) (fun c_116 => ?_) (fun c_116 => ?_)
                    · exact absurd c_116 (by decide)
                    · refine lv_iconst (v := nI 1) hx hb dX1_drag_119 (by decide) ?_
                      refine lv_goto (tgt := 124) hx hb dX1_drag_120 (by decide) ?_
                      refine lv_istore (lv' := [(7, .int (nI 1)), (6, .ref (ad (17 + 3 * i))), (5, .ref (ad (16 + 3 * i))), (4, .int (nI 0)), (3, .int (-1)), (0, .ref (ad 11)), (1, .ref (ad (15 + 3 * i))), (2, .int (nI 3))]) hx hb dX1_drag_124 hl (by decide) rfl (fun ls hl => ?_)
                      refine lv_iload hx hb dX1_drag_126 (lv_at hl 0 rfl) ?_
                      refine lv_if_ne (tgt := 137) hx hb dX1_drag_128 (by decide) (fun c_128 => ?_) (fun c_128 => ?_)
                      · refine lv_aload hx hb dX1_drag_137 (lv_at hl 2 rfl) ?_
                        refine lv_aload hx hb dX1_drag_139 (lv_at hl 2 rfl) ?_
                        refine k_get (C := RX0) (T := TX0) (N := 3) (v := .int (nI (N (23 + 13 * i)))) hx hb hts hown E I iX0 (16 + 3 * i) (by omega) (r0 := σ (16 + 3 * i)) rfl (kc_F H_i) rfl 0 (by decide) (List.mem_of_getElem? (i := 3) rfl) (congrArg (fun z => some (Value.int z)) (rB_f hB hi 0 (by decide))) dX1_drag_141 ?_
                        refine lv_iload_n hx hb dX1_drag_144 rfl (lv_at hl 4 rfl) ?_
                        refine lv_iadd hx hb dX1_drag_145 ?_
                        refine lv_aload hx hb dX1_drag_146 (lv_at hl 2 rfl) ?_
                        refine k_get (C := RX0) (T := TX0) (N := 3) (v := .int (nI (N (23 + 13 * i + 1)))) hx hb hts hown E I iX0 (16 + 3 * i) (by omega) (r0 := σ (16 + 3 * i)) rfl (kc_F H_i) rfl 1 (by decide) (List.mem_of_getElem? (i := 4) rfl) (congrArg (fun z => some (Value.int z)) (rB_f hB hi 1 (by decide))) dX1_drag_148 ?_
                        refine lv_iload hx hb dX1_drag_151 (lv_at hl 3 rfl) ?_
                        refine lv_iadd hx hb dX1_drag_153 ?_
                        rw [nI_add]
                        refine lv_aload hx hb dX1_drag_154 (lv_at hl 2 rfl) ?_
                        refine k_get (C := RX0) (T := TX0) (N := 3) (v := .int (nI (N (23 + 13 * i + 2)))) hx hb hts hown E I iX0 (16 + 3 * i) (by omega) (r0 := σ (16 + 3 * i)) rfl (kc_F H_i) rfl 2 (by decide) (List.mem_of_getElem? (i := 7) rfl) (congrArg (fun z => some (Value.int z)) (rB_f hB hi 2 (by decide))) dX1_drag_156 ?_
                        refine k_callv (k := 16 + 3 * i) (As := [.int ((nI (N (23 + 13 * i))) + (-1)), .int (nI ((N (23 + 13 * i + 1)) + 0)), .int (nI (N (23 + 13 * i + 2)))]) (rest := []) ⟨hx, hb, hml, hown, hts⟩ (c_X0_put cy D ad l σ i H_i (((nI (N (23 + 13 * i))) + (-1))) ((nI ((N (23 + 13 * i + 1)) + 0))) ((nI (N (23 + 13 * i + 2))))) (cwV 3 hts gX1_drag_X0_put rfl rfl rfl (by decide +kernel) ⟨Nat.le_of_ble_eq_true rfl, Nat.le_of_ble_eq_true rfl⟩) E hA I (k_recv E I (by omega) (kc_F H_i) rfl) rfl hl.1 rfl (lv_room (Nat.le_of_ble_eq_true rfl)) dX1_drag_159 ⟨Nat.le_of_ble_eq_true rfl, Nat.le_of_ble_eq_true rfl⟩ (fun σ_159 H locs hp_159 I => ?_)
                        have hs159 : σ_159 = va_up σ (16 + 3 * i) (upd (upd (upd (σ (16 + 3 * i)) 0 ((nI (N (23 + 13 * i))) + (-1))) 1 (nI ((N (23 + 13 * i + 1)) + 0))) 2 (nI (N (23 + 13 * i + 2)))) := hp_159
                        have e2 : σ_159 (15 + 3 * i) 2 = nI (N (23 + 13 * i + 9)) := by rw [hs159, va_up_ne _ _ (by omega)]; exact rB_f hB hi 9 (by decide)
                        have e4 : σ_159 (15 + 3 * i) 4 = nI (N (23 + 13 * i + 8)) := by rw [hs159, va_up_ne _ _ (by omega)]; exact rB_f hB hi 8 (by decide)
                        refine lv_aload_n hx hb dX1_drag_162 rfl (lv_at hl 6 rfl) ?_
                        refine k_get (C := RX6) (T := TX6) (N := 10) (v := .int (nI (N (23 + 13 * i + 9)))) hx hb hts hown E I iX6 (15 + 3 * i) (by omega) (r0 := σ_159 (15 + 3 * i)) rfl (kc_S H_i) rfl 2 (by decide) (List.mem_of_getElem? (i := 5) rfl) (congrArg (fun z => some (Value.int z)) e2) dX1_drag_163 ?_
                        refine lv_if_eq (tgt := 194) hx hb dX1_drag_166 (by decide) (fun c_166 => ?_) (fun c_166 => ?_)
                        · have c_166 : (N (23 + 13 * i + 9)) = 0 := (nI_eq (by omega) (by decide)).mp c_166
                          refine lv_aload_n hx hb dX1_drag_194 rfl (lv_at hl 6 rfl) ?_
                          refine lv_dup hx hb dX1_drag_195 rfl ?_
                          refine k_get (C := RX6) (T := TX6) (N := 10) (v := .int (nI (N (23 + 13 * i + 8)))) hx hb hts hown E I iX6 (15 + 3 * i) (by omega) (r0 := σ_159 (15 + 3 * i)) rfl (kc_S H_i) rfl 4 (by decide) (List.mem_of_getElem? (i := 8) rfl) (congrArg (fun z => some (Value.int z)) e4) dX1_drag_196 ?_
                          refine lv_iconst (v := nI 1) hx hb dX1_drag_199 (by decide) ?_
                          refine lv_iadd hx hb dX1_drag_200 ?_
                          rw [nI_add]
                          refine k_put (C := RX6) (T := TX6) (N := 10) (ty0 := tyX6) (ty := .int) (v := .int (nI ((N (23 + 13 * i + 8)) + 1))) hx hb hts hown E I iX6 tyX6_ok nmX6 (15 + 3 * i) (by omega) (r0 := σ_159 (15 + 3 * i)) rfl (kc_S H_i) rfl 4 (by decide) (List.mem_of_getElem? (i := 8) rfl) rfl rfl rfl rfl (Nat.le_of_ble_eq_true rfl) (upd (σ_159 (15 + 3 * i)) 4 (nI ((N (23 + 13 * i + 8)) + 1))) (kc_S (cy := cy) (ad := ad) (r := (upd (σ_159 (15 + 3 * i)) 4 (nI ((N (23 + 13 * i + 8)) + 1)))) H_i).symm (σ2 := va_up σ_159 (15 + 3 * i) (upd (σ_159 (15 + 3 * i)) 4 (nI ((N (23 + 13 * i + 8)) + 1)))) rfl dX1_drag_201 (fun H locs I => ?_)
                          exact k_vret hx hb hr hlk I dX1_drag_204 (by first | exact drag_yes2 hB hN hi (by unfold pStay mIn; simp; omega) (by omega) hs159 hs191 rfl (sb_m1 (by omega)) (rfl) (sb_m1 (by omega)) (rfl) | exact drag_yes1 hB hN hi (by unfold pStay mIn; simp; omega) (by omega) hs159 rfl (sb_m1 (by omega)) (rfl))
                        · have c_166 : ¬ ((N (23 + 13 * i + 9)) = 0) := fun q_ => c_166 ((nI_eq (by omega) (by decide)).mpr q_)
                          have gg : ∀ f, f < 3 → σ_159 (17 + 3 * i) f = nI (N (23 + 13 * i + (10 + f))) := fun f hf => by rw [hs159, va_up_ne _ _ (by omega)]; exact rB_g hB hi (by omega) f hf
                          refine lv_aload hx hb dX1_drag_169 (lv_at hl 1 rfl) ?_
                          refine lv_aload hx hb dX1_drag_171 (lv_at hl 1 rfl) ?_
                          refine k_get (C := RX0) (T := TX0) (N := 3) (v := .int (nI (N (23 + 13 * i + 10)))) hx hb hts hown E I iX0 (17 + 3 * i) (by omega) (r0 := σ_159 (17 + 3 * i)) rfl (kc_G H_i) rfl 0 (by decide) (List.mem_of_getElem? (i := 3) rfl) (congrArg (fun z => some (Value.int z)) (gg 0 (by decide))) dX1_drag_173 ?_
                          refine lv_iload_n hx hb dX1_drag_176 rfl (lv_at hl 4 rfl) ?_
                          refine lv_iadd hx hb dX1_drag_177 ?_
                          refine lv_aload hx hb dX1_drag_178 (lv_at hl 1 rfl) ?_
                          refine k_get (C := RX0) (T := TX0) (N := 3) (v := .int (nI (N (23 + 13 * i + 11)))) hx hb hts hown E I iX0 (17 + 3 * i) (by omega) (r0 := σ_159 (17 + 3 * i)) rfl (kc_G H_i) rfl 1 (by decide) (List.mem_of_getElem? (i := 4) rfl) (congrArg (fun z => some (Value.int z)) (gg 1 (by decide))) dX1_drag_180 ?_
                          refine lv_iload hx hb dX1_drag_183 (lv_at hl 3 rfl) ?_
                          refine lv_iadd hx hb dX1_drag_185 ?_
                          rw [nI_add]
                          refine lv_aload hx hb dX1_drag_186 (lv_at hl 1 rfl) ?_
                          refine k_get (C := RX0) (T := TX0) (N := 3) (v := .int (nI (N (23 + 13 * i + 12)))) hx hb hts hown E I iX0 (17 + 3 * i) (by omega) (r0 := σ_159 (17 + 3 * i)) rfl (kc_G H_i) rfl 2 (by decide) (List.mem_of_getElem? (i := 7) rfl) (congrArg (fun z => some (Value.int z)) (gg 2 (by decide))) dX1_drag_188 ?_
                          refine k_callv (k := 17 + 3 * i) (As := [.int ((nI (N (23 + 13 * i + 10))) + (-1)), .int (nI ((N (23 + 13 * i + 11)) + 0)), .int (nI (N (23 + 13 * i + 12)))]) (rest := []) ⟨hx, hb, hml, hown, hts⟩ (c_X0_put2 cy D ad l σ_159 i H_i (((nI (N (23 + 13 * i + 10))) + (-1))) ((nI ((N (23 + 13 * i + 11)) + 0))) ((nI (N (23 + 13 * i + 12))))) (cwV 3 hts gX1_drag_X0_put rfl rfl rfl (by decide +kernel) ⟨Nat.le_of_ble_eq_true rfl, Nat.le_of_ble_eq_true rfl⟩) E hA I (k_recv E I (by omega) (kc_G H_i) rfl) rfl hl.1 rfl (lv_room (Nat.le_of_ble_eq_true rfl)) dX1_drag_191 ⟨Nat.le_of_ble_eq_true rfl, Nat.le_of_ble_eq_true rfl⟩ (fun σ_191 H locs hp_191 I => ?_)
                          have hs191 : σ_191 = va_up σ_159 (17 + 3 * i) (upd (upd (upd (σ_159 (17 + 3 * i)) 0 ((nI (N (23 + 13 * i + 10))) + (-1))) 1 (nI ((N (23 + 13 * i + 11)) + 0))) 2 (nI (N (23 + 13 * i + 12)))) := hp_191
                          have e4 : σ_191 (15 + 3 * i) 4 = nI (N (23 + 13 * i + 8)) := by rw [hs191, va_up_ne _ _ (by omega)]; exact e4
                          refine lv_aload_n hx hb dX1_drag_194 rfl (lv_at hl 6 rfl) ?_
                          refine lv_dup hx hb dX1_drag_195 rfl ?_
                          refine k_get (C := RX6) (T := TX6) (N := 10) (v := .int (nI (N (23 + 13 * i + 8)))) hx hb hts hown E I iX6 (15 + 3 * i) (by omega) (r0 := σ_191 (15 + 3 * i)) rfl (kc_S H_i) rfl 4 (by decide) (List.mem_of_getElem? (i := 8) rfl) (congrArg (fun z => some (Value.int z)) e4) dX1_drag_196 ?_
                          refine lv_iconst (v := nI 1) hx hb dX1_drag_199 (by decide) ?_
                          refine lv_iadd hx hb dX1_drag_200 ?_
                          rw [nI_add]
                          refine k_put (C := RX6) (T := TX6) (N := 10) (ty0 := tyX6) (ty := .int) (v := .int (nI ((N (23 + 13 * i + 8)) + 1))) hx hb hts hown E I iX6 tyX6_ok nmX6 (15 + 3 * i) (by omega) (r0 := σ_191 (15 + 3 * i)) rfl (kc_S H_i) rfl 4 (by decide) (List.mem_of_getElem? (i := 8) rfl) rfl rfl rfl rfl (Nat.le_of_ble_eq_true rfl) (upd (σ_191 (15 + 3 * i)) 4 (nI ((N (23 + 13 * i + 8)) + 1))) (kc_S (cy := cy) (ad := ad) (r := (upd (σ_191 (15 + 3 * i)) 4 (nI ((N (23 + 13 * i + 8)) + 1)))) H_i).symm (σ2 := va_up σ_191 (15 + 3 * i) (upd (σ_191 (15 + 3 * i)) 4 (nI ((N (23 + 13 * i + 8)) + 1)))) rfl dX1_drag_201 (fun H locs I => ?_)
                          exact k_vret hx hb hr hlk I dX1_drag_204 (by first | exact drag_yes2 hB hN hi (by unfold pStay mIn; simp; omega) (by omega) hs159 hs191 rfl (sb_m1 (by omega)) (rfl) (sb_m1 (by omega)) (rfl) | exact drag_yes1 hB hN hi (by unfold pStay mIn; simp; omega) (by omega) hs159 rfl (sb_m1 (by omega)) (rfl))
                      · exact absurd c_128 (by decide)
                  · refine lv_if_eq (tgt := 123) hx hb dX1_drag_116 (by decide) (fun c_116 => ?_) (fun c_116 => ?_)
                    · refine lv_iconst (v := nI 0) hx hb dX1_drag_123 (by decide) ?_
                      refine lv_istore (lv' := [(7, .int (nI 0)), (6, .ref (ad (17 + 3 * i))), (5, .ref (ad (16 + 3 * i))), (4, .int (nI 0)), (3, .int (-1)), (0, .ref (ad 11)), (1, .ref (ad (15 + 3 * i))), (2, .int (nI 3))]) hx hb dX1_drag_124 hl (by decide) rfl (fun ls hl => ?_)
                      refine lv_iload hx hb dX1_drag_126 (lv_at hl 0 rfl) ?_
                      refine lv_if_ne (tgt := 137) hx hb dX1_drag_128 (by decide) (fun c_128 => ?_) (fun c_128 => ?_)
                      · exact absurd c_128 (by decide)
                      · refine lv_aload_n hx hb dX1_drag_131 rfl (lv_at hl 6 rfl) ?_
                        refine lv_iconst (v := nI 1) hx hb dX1_drag_132 (by decide) ?_
                        refine k_put (C := RX6) (T := TX6) (N := 10) (ty0 := tyX6) (ty := .boolean) (v := .int (nI 1)) hx hb hts hown E I iX6 tyX6_ok nmX6 (15 + 3 * i) (by omega) (r0 := σ (15 + 3 * i)) rfl (kc_S H_i) rfl 3 (by decide) (List.mem_of_getElem? (i := 6) rfl) rfl rfl (by decide) (by decide) (Nat.le_of_ble_eq_true rfl) (upd (σ (15 + 3 * i)) 3 (nI 1)) (kc_S (cy := cy) (ad := ad) (r := (upd (σ (15 + 3 * i)) 3 (nI 1))) H_i).symm (σ2 := va_up σ (15 + 3 * i) (upd (σ (15 + 3 * i)) 3 (nI 1))) rfl dX1_drag_133 (fun H locs I => ?_)
                        exact k_vret hx hb hr hlk I dX1_drag_136 (drag_no hB hN hi (by unfold pStay mIn; simp; omega) rfl)
                    · exact absurd c_116 (by decide)
            · refine lv_if_eq (tgt := 123) hx hb dX1_drag_87 (by decide) (fun c_87 => ?_) (fun c_87 => ?_)
              · refine lv_iconst (v := nI 0) hx hb dX1_drag_123 (by decide) ?_
                refine lv_istore (lv' := [(7, .int (nI 0)), (6, .ref (ad (17 + 3 * i))), (5, .ref (ad (16 + 3 * i))), (4, .int (nI 0)), (3, .int (-1)), (0, .ref (ad 11)), (1, .ref (ad (15 + 3 * i))), (2, .int (nI 3))]) hx hb dX1_drag_124 hl (by decide) rfl (fun ls hl => ?_)
                refine lv_iload hx hb dX1_drag_126 (lv_at hl 0 rfl) ?_
                refine lv_if_ne (tgt := 137) hx hb dX1_drag_128 (by decide) (fun c_128 => ?_) (fun c_128 => ?_)
                · exact absurd c_128 (by decide)
                · refine lv_aload_n hx hb dX1_drag_131 rfl (lv_at hl 6 rfl) ?_
                  refine lv_iconst (v := nI 1) hx hb dX1_drag_132 (by decide) ?_
                  refine k_put (C := RX6) (T := TX6) (N := 10) (ty0 := tyX6) (ty := .boolean) (v := .int (nI 1)) hx hb hts hown E I iX6 tyX6_ok nmX6 (15 + 3 * i) (by omega) (r0 := σ (15 + 3 * i)) rfl (kc_S H_i) rfl 3 (by decide) (List.mem_of_getElem? (i := 6) rfl) rfl rfl (by decide) (by decide) (Nat.le_of_ble_eq_true rfl) (upd (σ (15 + 3 * i)) 3 (nI 1)) (kc_S (cy := cy) (ad := ad) (r := (upd (σ (15 + 3 * i)) 3 (nI 1))) H_i).symm (σ2 := va_up σ (15 + 3 * i) (upd (σ (15 + 3 * i)) 3 (nI 1))) rfl dX1_drag_133 (fun H locs I => ?_)
                  exact k_vret hx hb hr hlk I dX1_drag_136 (drag_no hB hN hi (by unfold pStay mIn; simp; omega) rfl)
              · exact absurd c_87 (by decide)
          · exact absurd c_42 (by decide)
        · exact absurd c_30 (by decide)
    · exact absurd c_2 (by decide)
set_option maxHeartbeats 4000000 in
set_option maxRecDepth 100000 in
theorem c_X1_passHour (cy : Nat → ClassId) (D : va_G) (ad : Nat → Nat) (l : Launch) (σ : Nat → Nat → Int32) (N : Nat → Nat) (hN : nOk N) (hB : rBay σ N) (b side : Nat) (hb20 : b ≤ 20) (hs3 : side ≤ 3) : kMi 38 ad (kcC cy ad) cy D l yX1_passHour wsX1_passHour ({ frames := 5, cells := 0, slots := 0, locals := 117 }) [.ref (ad 11), .int (nI b), .int (nI side)] σ (fun r σ' => r = nI (pStr N b side (N 1)) ∧ rBay σ' (pHour N b side) ∧ fB σ σ') := by
  have h5 := hN.1
  refine k_entry (cc := cX1_passHour) (maxL := 6) (ret := (some .int)) (by decide) rfl (Nat.le_of_ble_eq_true rfl) ?_
  intro p e s m below meth c hx hb hr hml hown hts hlk E I ls hl
  have hA : ∀ q, s.heap.size ≤ q → kA 38 ad s.heap.size q := fun q h => Or.inr h
  have hown : s.vm.findClass RX1 = some m.cls := hown
  have hl : lv_has ls 6 [(0, .ref (ad 11)), (1, .int (nI b)), (2, .int (nI side))] := hl
  have iX0 : ∀ w ∈ u_ws RX0 TX0 3, w ∈ wsX1_passHour := fun w h => List.mem_cons_of_mem _ (List.mem_append_left _ (List.mem_append_right _ h))
  have iX1 : ∀ w ∈ u_ws RX1 TX1 6, w ∈ wsX1_passHour := fun w h => List.mem_cons_of_mem _ (List.mem_append_left _ (List.mem_append_left _ (List.mem_append_left _ (List.mem_append_right _ h))))
  have iX6 : ∀ w ∈ u_ws RX6 TX6 10, w ∈ wsX1_passHour := fun w h => List.mem_cons_of_mem _ (List.mem_append_left _ (List.mem_append_left _ (List.mem_append_right _ h)))
  refine lv_iconst (v := nI 0) hx hb dX1_passHour_0 (by decide) ?_
  refine lv_istore_n (lv' := [(3, .int (nI 0)), (0, .ref (ad 11)), (1, .int (nI b)), (2, .int (nI side))]) hx hb dX1_passHour_1 rfl hl (by decide) rfl (fun ls hl => ?_)
  refine lv_iconst (v := nI 0) hx hb dX1_passHour_2 (by decide) ?_
  refine lv_istore (lv' := [(4, .int (nI 0)), (3, .int (nI 0)), (0, .ref (ad 11)), (1, .int (nI b)), (2, .int (nI side))]) hx hb dX1_passHour_3 hl (by decide) rfl (fun ls hl => ?_)
  have LP_5 : ∀ (fuel_5 : Nat) (i : Nat) (τ : Nat → Nat → Int32), N 1 - i < fuel_5 → (i ≤ N 1) → (rBay τ (pPass N b side i)) → (fB σ τ) → ∀ (H : Heap) (locs : List Loc), kI 38 ad (kcC cy ad) D (kA 38 ad s.heap.size) s.heap τ H locs → ∀ ls : Array Slot, lv_has ls 6 [(0, .ref (ad 11)), (1, .int (nI b)), (2, .int (nI side)), (3, .int (nI (pStr N b side i))), (4, .int (nI i))] → W p l e (headSpec wsX1_passHour ({ frames := 5, cells := 0, slots := 0, locals := 117 })).room s m [.ref (ad 11), .int (nI b), .int (nI side)].toArray below meth c H locs 0 0 (MQ below (va_Qi (fun r σ' => r = nI (pStr N b side (N 1)) ∧ rBay σ' (pHour N b side) ∧ fB σ σ') (kB 38 ad (kcC cy ad) D) (kA 38 ad s.heap.size)) [.ref (ad 11), .int (nI b), .int (nI side)].toArray s 0 0 (kA 38 ad s.heap.size)) (F0 m 5 ls []) := by
    intro fuel_5
    induction fuel_5 with
    | zero => intro i τ hf_5; exact absurd hf_5 (Nat.not_lt_zero _)
    | succ fuel_5 ih_5 =>
      intro i τ hf_5 hin hBt hF H locs I ls hl
      have hM := nOk_pass hN b hs3 i hin
      have a1 := pPass_hd N b side i 1 (by decide)
      have hB1 : τ 11 4 = nI (N 1) := by rw [← a1]; exact hBt.1.2.1
      have hB2 : τ 11 5 = nI (N 2) := by rw [← pPass_hd N b side i 2 (by decide)]; exact hBt.1.2.2
      have hsl := pStr_le N b side i
      refine lv_iload hx hb dX1_passHour_5 (lv_at hl 4 rfl) ?_
      refine lv_aload_n hx hb dX1_passHour_7 rfl (lv_at hl 0 rfl) ?_
      refine k_get (C := RX1) (T := TX1) (N := 6) (v := .int (nI (N 1))) hx hb hts hown E I iX1 (11) (by decide) (r0 := τ 11) rfl kc_11 rfl 4 (by decide) (List.mem_of_getElem? (i := 1) rfl) (congrArg (fun z => some (Value.int z)) hB1) dX1_passHour_8 ?_
      refine lv_icmp_ge (tgt := 73) hx hb dX1_passHour_11 (by decide) (fun c_11 => ?_) (fun c_11 => ?_)
      · have c_11 : (N 1) ≤ i := (nI_leI (by omega) (by omega)).mp c_11
        have hie : i = N 1 := by omega
        refine lv_aload_n hx hb dX1_passHour_73 rfl (lv_at hl 0 rfl) ?_
        refine lv_dup hx hb dX1_passHour_74 rfl ?_
        refine k_get (C := RX1) (T := TX1) (N := 6) (v := .int (nI (N 2))) hx hb hts hown E I iX1 (11) (by decide) (r0 := τ 11) rfl kc_11 rfl 5 (by decide) (List.mem_of_getElem? (i := 6) rfl) (congrArg (fun z => some (Value.int z)) hB2) dX1_passHour_75 ?_
        refine lv_iconst (v := nI 1) hx hb dX1_passHour_78 (by decide) ?_
        refine lv_iadd hx hb dX1_passHour_79 ?_
        rw [nI_add]
        refine k_put (C := RX1) (T := TX1) (N := 6) (ty0 := tyX1) (ty := .int) (v := .int (nI ((N 2) + 1))) hx hb hts hown E I iX1 tyX1_ok nmX1 (11) (by decide) (r0 := τ 11) rfl kc_11 rfl 5 (by decide) (List.mem_of_getElem? (i := 6) rfl) rfl rfl rfl rfl (Nat.le_of_ble_eq_true rfl) (upd (τ 11) 5 (nI ((N 2) + 1))) rfl (σ2 := va_up τ 11 (upd (τ 11) 5 (nI ((N 2) + 1)))) rfl dX1_passHour_80 (fun H locs I => ?_)
        refine lv_iload_n hx hb dX1_passHour_83 rfl (lv_at hl 3 rfl) ?_
        exact k_iret hx hb hr hlk I dX1_passHour_84 (⟨by rw [hie], by unfold pHour; rw [← hie]; exact rBay_2 hBt (N 2 + 1), fB_up hF _ (by decide)⟩)
      · have c_11 : ¬ ((N 1) ≤ i) := fun q_ => c_11 ((nI_leI (by omega) (by omega)).mpr q_)
        have hi : i < N 1 := by omega
        have hit : i < pPass N b side i 1 := by rw [a1]; exact hi
        have H_i : i < 5 := by omega
        have hsh := hM.2.2 i hit
        unfold nSh at hsh
        refine lv_aload_n hx hb dX1_passHour_14 rfl (lv_at hl 0 rfl) ?_
        refine k_get (C := RX1) (T := TX1) (N := 6) (v := .ref (ad 13)) hx hb hts hown E I iX1 (11) (by decide) (r0 := τ 11) rfl kc_11 rfl 1 (by decide) (List.mem_of_getElem? (i := 2) rfl) rfl dX1_passHour_15 ?_
        refine lv_iload hx hb dX1_passHour_18 (lv_at hl 4 rfl) ?_
        refine k_aldS (a := ad (15 + 3 * i)) hx hb E I (13) (by decide) kc_13 (vp_in_nI (by omega) (by decide)) (by rw [nI_clamp (by omega)]; exact if_pos (by omega)) dX1_passHour_20 ?_
        refine lv_astore (lv' := [(5, .ref (ad (15 + 3 * i))), (0, .ref (ad 11)), (1, .int (nI b)), (2, .int (nI side)), (3, .int (nI (pStr N b side i))), (4, .int (nI i))]) hx hb dX1_passHour_21 hl (by decide) rfl (fun ls hl => ?_)
        refine lv_aload hx hb dX1_passHour_23 (lv_at hl 0 rfl) ?_
        refine k_get (C := RX6) (T := TX6) (N := 10) (v := .int (nI ((pPass N b side i) (23 + 13 * i + 7)))) hx hb hts hown E I iX6 (15 + 3 * i) (by omega) (r0 := τ (15 + 3 * i)) rfl (kc_S H_i) rfl 3 (by decide) (List.mem_of_getElem? (i := 3) rfl) (congrArg (fun z => some (Value.int z)) (rB_f hBt hit 7 (by decide))) dX1_passHour_25 ?_
        refine lv_if_ne (tgt := 67) hx hb dX1_passHour_28 (by decide) (fun c_28 => ?_) (fun c_28 => ?_)
        · have c_28 : ¬ (((pPass N b side i) (23 + 13 * i + 7)) = 0) := fun q_ => c_28 ((nI_eq (by omega) (by decide)).mpr q_)
          have hBn : rBay τ (pPass N b side (i + 1)) := by rw [pPass, if_neg (fun q => absurd q.1 (by omega))]; exact hBt
          have hFn := hF
          have hsn : pStr N b side i = pStr N b side (i + 1) := by rw [pStr, if_neg (fun q => absurd q.1.1 (by omega))]; rfl
          refine lv_iinc (v := nI (i + 1)) (lv' := [(4, .int (nI (i + 1))), (5, .ref (ad (15 + 3 * i))), (0, .ref (ad 11)), (1, .int (nI b)), (2, .int (nI side)), (3, .int (nI (pStr N b side i)))]) hx hb dX1_passHour_67 hl (k := 5) rfl (show nI i + Int32.ofInt 1 = nI (i + 1) from nI_add i 1) (by decide) rfl (fun ls hl => ?_)
          refine lv_goto (tgt := 5) hx hb dX1_passHour_70 (by decide) ?_
          rw [hsn] at hl
          exact ih_5 (i + 1) _ (by omega) (by omega) (hBn) (hFn) _ _ I _ (lv_sub hl [2, 3, 4, 5, 0] rfl)
        · have c_28 : ((pPass N b side i) (23 + 13 * i + 7)) = 0 := (nI_eq (by omega) (by decide)).mp c_28
          refine lv_aload_n hx hb dX1_passHour_31 rfl (lv_at hl 1 rfl) ?_
          refine lv_aload hx hb dX1_passHour_32 (lv_at hl 0 rfl) ?_
          refine lv_aload hx hb dX1_passHour_34 (lv_at hl 0 rfl) ?_
          refine k_get (C := RX6) (T := TX6) (N := 10) (v := .ref (ad (16 + 3 * i))) hx hb hts hown E I iX6 (15 + 3 * i) (by omega) (r0 := τ (15 + 3 * i)) rfl (kc_S H_i) rfl 0 (by decide) (List.mem_of_getElem? (i := 4) rfl) rfl dX1_passHour_36 ?_
          refine k_get (C := RX0) (T := TX0) (N := 3) (v := .int (nI ((pPass N b side i) (23 + 13 * i + 2)))) hx hb hts hown E I iX0 (16 + 3 * i) (by omega) (r0 := τ (16 + 3 * i)) rfl (kc_F H_i) rfl 2 (by decide) (List.mem_of_getElem? (i := 5) rfl) (congrArg (fun z => some (Value.int z)) (rB_f hBt hit 2 (by decide))) dX1_passHour_39 ?_
          refine lv_iload_n hx hb dX1_passHour_42 rfl (lv_at hl 2 rfl) ?_
          refine k_calli (k := 11) (As := [.ref (ad (15 + 3 * i)), .int (nI ((pPass N b side i) (23 + 13 * i + 2))), .int (nI b)]) (rest := []) ⟨hx, hb, hml, hown, hts⟩ (c_X1_holdsBy cy D ad l τ (pPass N b side i) hM i hit hBt (pPass N b side i (23 + 13 * i + 2)) b hsh.1.2.2.2 hb20) (cwV 3 hts gX1_passHour_X1_holdsBy rfl rfl rfl (by decide +kernel) ⟨Nat.le_of_ble_eq_true rfl, Nat.le_of_ble_eq_true rfl⟩) E hA I (k_recv E I (by decide) kc_11 rfl) rfl hl.1 rfl (lv_room (Nat.le_of_ble_eq_true rfl)) dX1_passHour_43 ⟨Nat.le_of_ble_eq_true rfl, Nat.le_of_ble_eq_true rfl⟩ (fun r_43 σ_43 H locs hp_43 I => ?_)
          obtain ⟨hk_, hq_⟩ := hp_43
          have hBt := rBay_qc hM.1.2.2.2.1 hBt (q14_qc hq_)
          have hF := fB_tr hF (qc_fB (q14_qc hq_))
          rcases hk_ with ⟨rfl, g1⟩ | ⟨rfl, g1⟩
          · have hBn : rBay σ_43 (pPass N b side (i + 1)) := by rw [pPass, if_neg (fun q => by rw [g1] at q; exact absurd q.2 (by decide))]; exact hBt
            have hFn := hF
            have hsn : pStr N b side i = pStr N b side (i + 1) := by rw [pStr, if_neg (fun q => by rw [g1] at q; exact absurd q.1.2 (by decide))]; rfl
            refine lv_if_ne (tgt := 67) hx hb dX1_passHour_46 (by decide) (fun c_46 => ?_) (fun c_46 => ?_)
            · refine lv_iinc (v := nI (i + 1)) (lv' := [(4, .int (nI (i + 1))), (5, .ref (ad (15 + 3 * i))), (0, .ref (ad 11)), (1, .int (nI b)), (2, .int (nI side)), (3, .int (nI (pStr N b side i)))]) hx hb dX1_passHour_67 hl (k := 5) rfl (show nI i + Int32.ofInt 1 = nI (i + 1) from nI_add i 1) (by decide) rfl (fun ls hl => ?_)
              refine lv_goto (tgt := 5) hx hb dX1_passHour_70 (by decide) ?_
              rw [hsn] at hl
              exact ih_5 (i + 1) _ (by omega) (by omega) (hBn) (hFn) _ _ I _ (lv_sub hl [2, 3, 4, 5, 0] rfl)
            · exact absurd c_46 (by decide)
          · refine lv_if_ne (tgt := 67) hx hb dX1_passHour_46 (by decide) (fun c_46 => ?_) (fun c_46 => ?_)
            · exact absurd c_46 (by decide)
            · refine lv_aload_n hx hb dX1_passHour_49 rfl (lv_at hl 1 rfl) ?_
              refine lv_aload hx hb dX1_passHour_50 (lv_at hl 0 rfl) ?_
              refine lv_iload_n hx hb dX1_passHour_52 rfl (lv_at hl 3 rfl) ?_
              refine k_callv (k := 11) (As := [.ref (ad (15 + 3 * i)), .int (nI side)]) (rest := []) ⟨hx, hb, hml, hown, hts⟩ (c_X1_drag cy D ad l σ_43 (pPass N b side i) hM i hit hBt side hs3) (cwV 2 hts gX1_passHour_X1_drag rfl rfl rfl (by decide +kernel) ⟨Nat.le_of_ble_eq_true rfl, Nat.le_of_ble_eq_true rfl⟩) E hA I (k_recv E I (by decide) kc_11 rfl) rfl hl.1 rfl (lv_room (Nat.le_of_ble_eq_true rfl)) dX1_passHour_53 ⟨Nat.le_of_ble_eq_true rfl, Nat.le_of_ble_eq_true rfl⟩ (fun σ_53 H locs hp_53 I => ?_)
              obtain ⟨hBd, hFd⟩ := hp_53
              have hFn := fB_tr hF hFd
              have hcond : pPass N b side i (23 + 13 * i + 7) = 0 ∧ pHo (pPass N b side i) i (pPass N b side i (23 + 13 * i + 2)) b = false := ⟨by omega, by simpa using g1⟩
              have hBn : rBay σ_53 (pPass N b side (i + 1)) := by rw [pPass, if_pos hcond]; exact hBd
              have ed7 := rB_f hBd (i := i) (by rw [pDrag_off _ _ _ (by omega)]; exact hit) 7 (by decide)
              have hd7 : pDrag (pPass N b side i) i side (23 + 13 * i + 7) = if pStay (pPass N b side i) i side = false then 1 else 0 := drag_7 hcond.1
              have hsn : pStr N b side (i + 1) = pStr N b side i + pDrag (pPass N b side i) i side (23 + 13 * i + 7) := by rw [pStr, hd7]; simp [hcond]
              refine lv_iload_n hx hb dX1_passHour_56 rfl (lv_at hl 4 rfl) ?_
              refine lv_aload hx hb dX1_passHour_57 (lv_at hl 0 rfl) ?_
              refine k_get (C := RX6) (T := TX6) (N := 10) (v := .int (nI (pDrag (pPass N b side i) i side (23 + 13 * i + 7)))) hx hb hts hown E I iX6 (15 + 3 * i) (by omega) (r0 := σ_53 (15 + 3 * i)) rfl (kc_S H_i) rfl 3 (by decide) (List.mem_of_getElem? (i := 3) rfl) (congrArg (fun z => some (Value.int z)) ed7) dX1_passHour_59 ?_
              refine k_callsN (As := [.int (nI (pDrag (pPass N b side i) i side (23 + 13 * i + 7)))]) (rest := [.int (nI (pStr N b side i))]) ⟨hx, hb, hml, hown, hts⟩ (c_X7_oneIf l (nI (pDrag (pPass N b side i) i side (23 + 13 * i + 7))) (kz1 (by rw [hd7]; split <;> omega))) ⟨va_cnB 1 hts gX1_passHour_X7_oneIf_n151 rfl rfl rfl E.2.1.2.2.2 (hts _ (List.mem_of_getElem? (i := 75) rfl)) (by decide +kernel) ⟨Nat.le_of_ble_eq_true rfl, Nat.le_of_ble_eq_true rfl⟩, hts _ (List.mem_of_getElem? (i := 74) rfl), trivial⟩ rfl hl.1 rfl (lv_room (Nat.le_of_ble_eq_true rfl)) dX1_passHour_62 ⟨Nat.le_of_ble_eq_true rfl, Nat.le_of_ble_eq_true rfl⟩ (fun r_62 hp_62 => ?_)
              subst hp_62
              refine lv_iadd hx hb dX1_passHour_65 ?_
              rw [nI_add]
              refine lv_topi (fun t_66 et_66 => ?_)
              have et_66 : t_66 = nI (pStr N b side (i + 1)) := et_66.trans (by rw [hsn])
              subst et_66
              refine lv_istore_n (lv' := [(3, .int (nI (pStr N b side (i + 1)))), (5, .ref (ad (15 + 3 * i))), (0, .ref (ad 11)), (1, .int (nI b)), (2, .int (nI side)), (4, .int (nI i))]) hx hb dX1_passHour_66 rfl hl (by decide) rfl (fun ls hl => ?_)
              refine lv_iinc (v := nI (i + 1)) (lv' := [(4, .int (nI (i + 1))), (3, .int (nI (pStr N b side (i + 1)))), (5, .ref (ad (15 + 3 * i))), (0, .ref (ad 11)), (1, .int (nI b)), (2, .int (nI side))]) hx hb dX1_passHour_67 hl (k := 5) rfl (show nI i + Int32.ofInt 1 = nI (i + 1) from nI_add i 1) (by decide) rfl (fun ls hl => ?_)
              refine lv_goto (tgt := 5) hx hb dX1_passHour_70 (by decide) ?_
              exact ih_5 (i + 1) _ (by omega) (by omega) (hBn) (hFn) _ _ I _ (lv_sub hl [3, 4, 5, 1, 0] rfl)
  exact LP_5 _ 0 σ (Nat.lt_succ_self _) (Nat.zero_le _) (hB) (fB_rf σ) _ _ I _ (lv_sub hl [2, 3, 4, 1, 0] rfl)

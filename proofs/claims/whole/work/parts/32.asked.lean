/-! THE CALLS: asked -/
set_option maxHeartbeats 4000000 in
set_option maxRecDepth 100000 in
theorem c_X7_hangs (cy : Nat → ClassId) (D : va_G) (ad : Nat → Nat) (l : Launch) (σ : Nat → Nat → Int32) (s0 a u x : Int32) (N : Nat → Nat) (P : Nat → Nat → Nat) (np : Nat) (T : Nat → Nat) (nt : Nat) (hC : rC σ (N, P, np, T, nt)) : kMi 38 ad (kcC cy ad) cy D l yX7_hangs wsX7_hangs ({ frames := 4, cells := 0, slots := 0, locals := 91 }) [.ref (ad 0), .int s0, .int a, .int u, .int x] σ (fun r σ' => r = (sHangs s0 a u x (N, P, np, T, nt)).1 ∧ rC σ' (sHangs s0 a u x (N, P, np, T, nt)).2) := by
  obtain ⟨hB, hN, hPa, hT⟩ := id hC
  have h5 := hN.1
  refine k_entry (cc := cX7_hangs) (maxL := 8) (ret := (some .int)) (by decide) rfl (Nat.le_of_ble_eq_true rfl) ?_
  intro p e s m below meth c hx hb hr hml hown hts hlk E I ls hl
  have hA : ∀ q, s.heap.size ≤ q → kA 38 ad s.heap.size q := fun q h => Or.inr h
  have hown : s.vm.findClass RX7 = some m.cls := hown
  have hl : lv_has ls 8 [(0, .ref (ad 0)), (1, .int s0), (2, .int a), (3, .int u), (4, .int x)] := hl
  have iX0 : ∀ w ∈ u_ws RX0 TX0 3, w ∈ wsX7_hangs := fun w h => List.mem_cons_of_mem _ (List.mem_append_left _ (List.mem_append_left _ (List.mem_append_right _ h)))
  have iX2 : ∀ w ∈ u_ws RX2 TX2 12, w ∈ wsX7_hangs := fun w h => List.mem_cons_of_mem _ (List.mem_append_left _ (List.mem_append_right _ h))
  have iX6 : ∀ w ∈ u_ws RX6 TX6 10, w ∈ wsX7_hangs := fun w h => List.mem_cons_of_mem _ (List.mem_append_left _ (List.mem_append_left _ (List.mem_append_left _ (List.mem_append_right _ h))))
  have iX7 : ∀ w ∈ u_ws RX7 TX7 4, w ∈ wsX7_hangs := fun w h => List.mem_cons_of_mem _ (List.mem_append_left _ (List.mem_append_left _ (List.mem_append_left _ (List.mem_append_left _ (List.mem_append_right _ h)))))
  refine lv_aload_n hx hb dX7_hangs_0 rfl (lv_at hl 0 rfl) ?_
  refine k_get (C := RX7) (T := TX7) (N := 4) (v := .ref (ad 11)) hx hb hts hown E I iX7 (0) (by decide) (r0 := σ 0) rfl kc_0 rfl 2 (by decide) (List.mem_of_getElem? (i := 1) rfl) rfl dX7_hangs_1 ?_
  refine lv_iload_n hx hb dX7_hangs_4 rfl (lv_at hl 1 rfl) ?_
  refine k_callq (k := 11) (As := [.int s0]) (rest := []) ⟨hx, hb, hml, hown, hts⟩ (c_X1_shipAt cy D ad l σ (s0) (N 1) (by omega) hB.1.2.1) (cwV 1 hts gX7_hangs_X1_shipAt rfl rfl rfl (by decide +kernel) ⟨Nat.le_of_ble_eq_true rfl, Nat.le_of_ble_eq_true rfl⟩) E hA I (k_recv E I (by decide) kc_11 rfl) rfl hl.1 rfl (lv_room (Nat.le_of_ble_eq_true rfl)) dX7_hangs_5 ⟨Nat.le_of_ble_eq_true rfl, Nat.le_of_ble_eq_true rfl⟩ (fun r_5 σ_5 H locs hp_5 I => ?_)
  obtain ⟨rfl, hk_⟩ := hp_5
  rcases hk_ with ⟨i, hi, rfl, rfl⟩ | ⟨hno, rfl⟩
  · have H_i : i < 5 := by omega
    have hsh := hN.2.2 i hi
    unfold nSh at hsh
    have hoS := okS_nI hi h5.2.2.2.1
    have hcl : (nI i).toNatClampNeg = i := nI_clamp (by omega)
    refine lv_astore (lv' := [(5, .ref (ad (15 + 3 * i))), (0, .ref (ad 0)), (1, .int (nI i)), (2, .int a), (3, .int u), (4, .int x)]) hx hb dX7_hangs_8 hl (by decide) rfl (fun ls hl => ?_)
    refine lv_aload hx hb dX7_hangs_10 (lv_at hl 0 rfl) ?_
    refine lv_ifnull hx hb dX7_hangs_12 ?_
    refine lv_iload_n hx hb dX7_hangs_15 rfl (lv_at hl 3 rfl) ?_
    refine lv_iconst (v := nI 0) hx hb dX7_hangs_16 (by decide) ?_
    refine lv_iconst (v := nI 1) hx hb dX7_hangs_17 (by decide) ?_
    refine k_calls (As := [.int a, .int (nI 0), .int (nI 1)]) (rest := []) ⟨hx, hb, hml, hown, hts⟩ (c_X7_within l (a) (nI 0) (nI 1)) (va_cwS 3 hts gX7_hangs_X7_within rfl rfl rfl (by decide +kernel) ⟨Nat.le_of_ble_eq_true rfl, Nat.le_of_ble_eq_true rfl⟩) rfl hl.1 rfl (lv_room (Nat.le_of_ble_eq_true rfl)) dX7_hangs_18 ⟨Nat.le_of_ble_eq_true rfl, Nat.le_of_ble_eq_true rfl⟩ (fun r_18 hp_18 => ?_)
    rcases hp_18 with ⟨rfl, g1⟩ | ⟨rfl, g1⟩
    · obtain ⟨w, w1, w2, rfl⟩ := kT_in (by decide) (by decide) g1
      refine lv_if_eq (tgt := 45) hx hb dX7_hangs_21 (by decide) (fun c_21 => ?_) (fun c_21 => ?_)
      · exact absurd c_21 (by decide)
      · refine lv_iload_n hx hb dX7_hangs_24 rfl (lv_at hl 4 rfl) ?_
        refine lv_iconst (v := nI 0) hx hb dX7_hangs_25 (by decide) ?_
        refine lv_sipush (v := nI 9999) hx hb dX7_hangs_26 (by decide) ?_
        refine k_calls (As := [.int u, .int (nI 0), .int (nI 9999)]) (rest := []) ⟨hx, hb, hml, hown, hts⟩ (c_X7_within l (u) (nI 0) (nI 9999)) (va_cwS 3 hts gX7_hangs_X7_within rfl rfl rfl (by decide +kernel) ⟨Nat.le_of_ble_eq_true rfl, Nat.le_of_ble_eq_true rfl⟩) rfl hl.1 rfl (lv_room (Nat.le_of_ble_eq_true rfl)) dX7_hangs_29 ⟨Nat.le_of_ble_eq_true rfl, Nat.le_of_ble_eq_true rfl⟩ (fun r_29 hp_29 => ?_)
        rcases hp_29 with ⟨rfl, g2⟩ | ⟨rfl, g2⟩
        · obtain ⟨pu, pu1, pu2, rfl⟩ := kT_in (by decide) (by decide) g2
          refine lv_if_eq (tgt := 45) hx hb dX7_hangs_32 (by decide) (fun c_32 => ?_) (fun c_32 => ?_)
          · exact absurd c_32 (by decide)
          · refine lv_iload hx hb dX7_hangs_35 (lv_at hl 5 rfl) ?_
            refine lv_iconst (v := nI 0) hx hb dX7_hangs_37 (by decide) ?_
            refine lv_iconst (v := nI 5) hx hb dX7_hangs_38 (by decide) ?_
            refine k_calls (As := [.int x, .int (nI 0), .int (nI 5)]) (rest := []) ⟨hx, hb, hml, hown, hts⟩ (c_X7_within l (x) (nI 0) (nI 5)) (va_cwS 3 hts gX7_hangs_X7_within rfl rfl rfl (by decide +kernel) ⟨Nat.le_of_ble_eq_true rfl, Nat.le_of_ble_eq_true rfl⟩) rfl hl.1 rfl (lv_room (Nat.le_of_ble_eq_true rfl)) dX7_hangs_39 ⟨Nat.le_of_ble_eq_true rfl, Nat.le_of_ble_eq_true rfl⟩ (fun r_39 hp_39 => ?_)
            rcases hp_39 with ⟨rfl, g3⟩ | ⟨rfl, g3⟩
            · obtain ⟨k, k1, k2, rfl⟩ := kT_in (by decide) (by decide) g3
              refine lv_if_ne (tgt := 47) hx hb dX7_hangs_42 (by decide) (fun c_42 => ?_) (fun c_42 => ?_)
              · refine lv_aload hx hb dX7_hangs_47 (lv_at hl 0 rfl) ?_
                refine k_get (C := RX6) (T := TX6) (N := 10) (v := .int (nI (N (23 + 13 * i + 7)))) hx hb hts hown E I iX6 (15 + 3 * i) (by omega) (r0 := σ (15 + 3 * i)) rfl (kc_S H_i) rfl 3 (by decide) (List.mem_of_getElem? (i := 2) rfl) (congrArg (fun z => some (Value.int z)) (rB_f hB hi 7 (by decide))) dX7_hangs_49 ?_
                refine lv_if_eq (tgt := 58) hx hb dX7_hangs_52 (by decide) (fun c_52 => ?_) (fun c_52 => ?_)
                · have c_52 : (N (23 + 13 * i + 7)) = 0 := (nI_eq (by omega) (by decide)).mp c_52
                  refine lv_aload hx hb dX7_hangs_58 (lv_at hl 0 rfl) ?_
                  refine lv_iload_n hx hb dX7_hangs_60 rfl (lv_at hl 3 rfl) ?_
                  refine k_callq (k := 15 + 3 * i) (As := [.int (nI w)]) (rest := []) ⟨hx, hb, hml, hown, hts⟩ (c_X6_anchorAt cy D ad l σ i (N (23 + 13 * i + 9)) H_i hsh.2.2.2.1.2 (rB_f hB hi 9 (by decide)) w w2) (cwV 1 hts gX7_hangs_X6_anchorAt rfl rfl rfl (by decide +kernel) ⟨Nat.le_of_ble_eq_true rfl, Nat.le_of_ble_eq_true rfl⟩) E hA I (k_recv E I (by omega) (kc_S H_i) rfl) rfl hl.1 rfl (lv_room (Nat.le_of_ble_eq_true rfl)) dX7_hangs_61 ⟨Nat.le_of_ble_eq_true rfl, Nat.le_of_ble_eq_true rfl⟩ (fun r_61 σ_61 H locs hp_61 I => ?_)
                  obtain ⟨rfl, hk_⟩ := hp_61
                  rcases hk_ with ⟨hw0, rfl⟩ | ⟨hw1, hm, rfl⟩ | ⟨hw1, hm0, rfl⟩
                  · obtain ⟨ln, hln⟩ : ∃ z, z = N (23 + 13 * i + 2) := ⟨_, rfl⟩
                    obtain ⟨dp, hdp⟩ : ∃ z, z = 10 * N (3 + N (23 + 13 * i)) := ⟨_, rfl⟩
                    have hl60 : ln ≤ 60 := by omega
                    have hd2 : dp ≤ 200 := by have := hN.2.1 _ hsh.1.1; omega
                    refine lv_astore (lv' := [(6, .ref (ad (16 + 3 * i))), (5, .ref (ad (15 + 3 * i))), (0, .ref (ad 0)), (1, .int (nI i)), (2, .int (nI w)), (3, .int (nI pu)), (4, .int (nI k))]) hx hb dX7_hangs_64 hl (by decide) rfl (fun ls hl => ?_)
                    refine lv_aload hx hb dX7_hangs_66 (lv_at hl 0 rfl) ?_
                    refine lv_ifnonnull (tgt := 74) hx hb dX7_hangs_68 (by decide) ?_
                    refine lv_aload_n hx hb dX7_hangs_74 rfl (lv_at hl 2 rfl) ?_
                    refine k_get (C := RX7) (T := TX7) (N := 4) (v := .ref (ad 11)) hx hb hts hown E I iX7 (0) (by decide) (r0 := σ 0) rfl kc_0 rfl 2 (by decide) (List.mem_of_getElem? (i := 1) rfl) rfl dX7_hangs_75 ?_
                    refine lv_aload hx hb dX7_hangs_78 (lv_at hl 1 rfl) ?_
                    refine lv_aload hx hb dX7_hangs_80 (lv_at hl 0 rfl) ?_
                    refine lv_aload hx hb dX7_hangs_82 (lv_at hl 0 rfl) ?_
                    refine k_get (C := RX0) (T := TX0) (N := 3) (v := .int (nI (N (23 + 13 * i + 2)))) hx hb hts hown E I iX0 (16 + 3 * i) (by omega) (r0 := σ (16 + 3 * i)) rfl (kc_F H_i) rfl 2 (by decide) (List.mem_of_getElem? (i := 3) rfl) (congrArg (fun z => some (Value.int z)) (rB_f hB hi 2 (by decide))) dX7_hangs_84 ?_
                    refine lv_iload_n hx hb dX7_hangs_87 rfl (lv_at hl 5 rfl) ?_
                    refine k_callq (k := 11) (As := [.ref (ad (15 + 3 * i)), .ref (ad (16 + 3 * i)), .int (nI (N (23 + 13 * i + 2))), .int (nI pu)]) (rest := []) ⟨hx, hb, hml, hown, hts⟩ (c_X1_chainOf cy D ad l σ i (N (23 + 13 * i + 3)) (N (23 + 13 * i)) (N (3 + N (23 + 13 * i))) (N (23 + 13 * i + 2)) pu H_i (by omega) (hN.2.1 _ hsh.1.1).2 (rB_f hB hi 3 (by decide)) (rB_f hB hi 0 (by decide)) (hB.2.1 _ hsh.1.1)) (cwV 4 hts gX7_hangs_X1_chainOf rfl rfl rfl (by decide +kernel) ⟨Nat.le_of_ble_eq_true rfl, Nat.le_of_ble_eq_true rfl⟩) E hA I (k_recv E I (by decide) kc_11 rfl) rfl hl.1 rfl (lv_room (Nat.le_of_ble_eq_true rfl)) dX7_hangs_88 ⟨Nat.le_of_ble_eq_true rfl, Nat.le_of_ble_eq_true rfl⟩ (fun r_88 σ_88 H locs hp_88 I => ?_)
                    obtain ⟨rfl, hs_⟩ := hp_88
                    refine lv_astore (lv' := [(7, .ref (ad 14)), (6, .ref (ad (16 + 3 * i))), (5, .ref (ad (15 + 3 * i))), (0, .ref (ad 0)), (1, .int (nI i)), (2, .int (nI w)), (3, .int (nI pu)), (4, .int (nI k))]) hx hb dX7_hangs_91 hl (by decide) rfl (fun ls hl => ?_)
                    refine lv_aload hx hb dX7_hangs_93 (lv_at hl 0 rfl) ?_
                    refine k_callv (k := 14) (As := []) (rest := []) ⟨hx, hb, hml, hown, hts⟩ (c_X2_findLie cy D ad l σ_88 pu (N (23 + 13 * i + 3)) ln dp pu2 hsh.2.1.1 hsh.2.1.2.1 hl60 hd2 (by rw [hs_]; rfl) (by rw [hs_]; rfl) (by rw [hs_, hln]; rfl) (by rw [hs_, hdp]; rfl)) (cwV 0 hts gX7_hangs_X2_findLie rfl rfl rfl (by decide +kernel) ⟨Nat.le_of_ble_eq_true rfl, Nat.le_of_ble_eq_true rfl⟩) E hA I (k_recv E I (by decide) kc_14 rfl) rfl hl.1 rfl (lv_room (Nat.le_of_ble_eq_true rfl)) dX7_hangs_95 ⟨Nat.le_of_ble_eq_true rfl, Nat.le_of_ble_eq_true rfl⟩ (fun σ_95 H locs hp_95 I => ?_)
                    obtain ⟨R, hs2_, r0, r1, r2, r3, r4⟩ := hp_95
                    have hQ4 : q14 σ σ_95 := q14_tr ⟨_, hs_⟩ ⟨_, hs2_⟩
                    have hQ := q14_qc hQ4
                    have e8 : σ_95 (15 + 3 * i) 8 = nI (N (23 + 13 * i + 6)) := (q14_at hQ4 (by omega) 8).trans (rB_f hB hi 6 (by decide))
                    have f0 : σ_95 14 0 = nI (hg pu (N (23 + 13 * i + 3)) 0 dp ln) := by rw [hs2_]; exact r0
                    have f1 : σ_95 14 1 = nI (zGround pu (N (23 + 13 * i + 3)) dp ln) := by rw [hs2_]; exact r1
                    have f2 : σ_95 14 2 = nI (zReach pu (N (23 + 13 * i + 3)) dp ln) := by rw [hs2_]; exact r2
                    have f3 : σ_95 14 3 = nI (zLift pu (N (23 + 13 * i + 3)) dp ln) := by rw [hs2_]; exact r3
                    have f4 : σ_95 14 4 = nI (if zTaut pu (N (23 + 13 * i + 3)) dp ln then 1 else 0) := by rw [hs2_]; exact r4
                    rcases (show k = 0 ∨ k = 1 ∨ k = 2 ∨ k = 3 ∨ k = 4 ∨ k = 5 by omega) with rfl | rfl | rfl | rfl | rfl | rfl
                    · refine lv_iload hx hb dX7_hangs_98 (lv_at hl 7 rfl) ?_
                      refine lv_tableIn (tgt := 136) (off := 36) hx hb dX7_hangs_100 (by decide) (by decide) (by decide) (by decide) ?_
                      refine lv_aload hx hb dX7_hangs_136 (lv_at hl 0 rfl) ?_
                      refine k_get (C := RX2) (T := TX2) (N := 12) (v := .int (nI (hg pu (N (23 + 13 * i + 3)) 0 dp ln))) hx hb hts hown E I iX2 (14) (by decide) (r0 := σ_95 14) rfl kc_14 rfl 0 (by decide) (List.mem_of_getElem? (i := 4) rfl) (congrArg (fun z => some (Value.int z)) f0) dX7_hangs_138 ?_
                      exact k_iret hx hb hr hlk I dX7_hangs_141 (by rw [sHangs_ok hoS hcl (Nat.zero_le _) w2 (Nat.zero_le _) pu2 (Nat.zero_le _) (by decide), gHangs, if_neg (show ¬ N (23 + 13 * i + 7) = 1 by omega), if_neg (show ¬ (w = 1 ∧ N (23 + 13 * i + 9) = 0) by omega)]; first | (subst hw0 hdp hln; exact ⟨rfl, rC_qc hC hQ⟩) | (subst hw1 hdp hln; exact ⟨rfl, rC_qc hC hQ⟩))
                    · refine lv_iload hx hb dX7_hangs_98 (lv_at hl 7 rfl) ?_
                      refine lv_tableIn (tgt := 142) (off := 42) hx hb dX7_hangs_100 (by decide) (by decide) (by decide) (by decide) ?_
                      refine lv_aload hx hb dX7_hangs_142 (lv_at hl 0 rfl) ?_
                      refine k_get (C := RX2) (T := TX2) (N := 12) (v := .int (nI (zGround pu (N (23 + 13 * i + 3)) dp ln))) hx hb hts hown E I iX2 (14) (by decide) (r0 := σ_95 14) rfl kc_14 rfl 1 (by decide) (List.mem_of_getElem? (i := 5) rfl) (congrArg (fun z => some (Value.int z)) f1) dX7_hangs_144 ?_
                      exact k_iret hx hb hr hlk I dX7_hangs_147 (by rw [sHangs_ok hoS hcl (Nat.zero_le _) w2 (Nat.zero_le _) pu2 (Nat.zero_le _) (by decide), gHangs, if_neg (show ¬ N (23 + 13 * i + 7) = 1 by omega), if_neg (show ¬ (w = 1 ∧ N (23 + 13 * i + 9) = 0) by omega)]; first | (subst hw0 hdp hln; exact ⟨rfl, rC_qc hC hQ⟩) | (subst hw1 hdp hln; exact ⟨rfl, rC_qc hC hQ⟩))
                    · refine lv_iload hx hb dX7_hangs_98 (lv_at hl 7 rfl) ?_
                      refine lv_tableIn (tgt := 148) (off := 48) hx hb dX7_hangs_100 (by decide) (by decide) (by decide) (by decide) ?_
                      refine lv_aload hx hb dX7_hangs_148 (lv_at hl 0 rfl) ?_
                      refine k_get (C := RX2) (T := TX2) (N := 12) (v := .int (nI (zReach pu (N (23 + 13 * i + 3)) dp ln))) hx hb hts hown E I iX2 (14) (by decide) (r0 := σ_95 14) rfl kc_14 rfl 2 (by decide) (List.mem_of_getElem? (i := 6) rfl) (congrArg (fun z => some (Value.int z)) f2) dX7_hangs_150 ?_
                      exact k_iret hx hb hr hlk I dX7_hangs_153 (by rw [sHangs_ok hoS hcl (Nat.zero_le _) w2 (Nat.zero_le _) pu2 (Nat.zero_le _) (by decide), gHangs, if_neg (show ¬ N (23 + 13 * i + 7) = 1 by omega), if_neg (show ¬ (w = 1 ∧ N (23 + 13 * i + 9) = 0) by omega)]; first | (subst hw0 hdp hln; exact ⟨rfl, rC_qc hC hQ⟩) | (subst hw1 hdp hln; exact ⟨rfl, rC_qc hC hQ⟩))
                    · refine lv_iload hx hb dX7_hangs_98 (lv_at hl 7 rfl) ?_
                      refine lv_tableIn (tgt := 154) (off := 54) hx hb dX7_hangs_100 (by decide) (by decide) (by decide) (by decide) ?_
                      refine lv_aload hx hb dX7_hangs_154 (lv_at hl 0 rfl) ?_
                      refine k_get (C := RX2) (T := TX2) (N := 12) (v := .int (nI (zLift pu (N (23 + 13 * i + 3)) dp ln))) hx hb hts hown E I iX2 (14) (by decide) (r0 := σ_95 14) rfl kc_14 rfl 3 (by decide) (List.mem_of_getElem? (i := 7) rfl) (congrArg (fun z => some (Value.int z)) f3) dX7_hangs_156 ?_
                      exact k_iret hx hb hr hlk I dX7_hangs_159 (by rw [sHangs_ok hoS hcl (Nat.zero_le _) w2 (Nat.zero_le _) pu2 (Nat.zero_le _) (by decide), gHangs, if_neg (show ¬ N (23 + 13 * i + 7) = 1 by omega), if_neg (show ¬ (w = 1 ∧ N (23 + 13 * i + 9) = 0) by omega)]; first | (subst hw0 hdp hln; exact ⟨rfl, rC_qc hC hQ⟩) | (subst hw1 hdp hln; exact ⟨rfl, rC_qc hC hQ⟩))
                    · refine lv_iload hx hb dX7_hangs_98 (lv_at hl 7 rfl) ?_
                      refine lv_tableIn (tgt := 160) (off := 60) hx hb dX7_hangs_100 (by decide) (by decide) (by decide) (by decide) ?_
                      refine lv_aload hx hb dX7_hangs_160 (lv_at hl 0 rfl) ?_
                      refine lv_aload hx hb dX7_hangs_162 (lv_at hl 2 rfl) ?_
                      refine k_get (C := RX6) (T := TX6) (N := 10) (v := .int (nI (N (23 + 13 * i + 6)))) hx hb hts hown E I iX6 (15 + 3 * i) (by omega) (r0 := σ_95 (15 + 3 * i)) rfl (kc_S H_i) rfl 8 (by decide) (List.mem_of_getElem? (i := 8) rfl) (congrArg (fun z => some (Value.int z)) e8) dX7_hangs_164 ?_
                      refine k_calli (k := 14) (As := [.int (nI (N (23 + 13 * i + 6)))]) (rest := []) ⟨hx, hb, hml, hown, hts⟩ (c_X2_holding cy D ad l σ_95 (if zTaut pu (N (23 + 13 * i + 3)) dp ln then 1 else 0) (zLift pu (N (23 + 13 * i + 3)) dp ln) (N (23 + 13 * i + 6)) (by split <;> omega) (zLift_le _ _ _ _) hsh.2.2.1.2.2.2 f4 f3) (cwV 1 hts gX7_hangs_X2_holding rfl rfl rfl (by decide +kernel) ⟨Nat.le_of_ble_eq_true rfl, Nat.le_of_ble_eq_true rfl⟩) E hA I (k_recv E I (by decide) kc_14 rfl) rfl hl.1 rfl (lv_room (Nat.le_of_ble_eq_true rfl)) dX7_hangs_167 ⟨Nat.le_of_ble_eq_true rfl, Nat.le_of_ble_eq_true rfl⟩ (fun r_167 σ_167 H locs hp_167 I => ?_)
                      obtain ⟨rfl, rfl⟩ := hp_167
                      rw [show (if (if zTaut pu (N (23 + 13 * i + 3)) dp ln then 1 else 0) = 1 then 0 else N (23 + 13 * i + 6) - 3 * zLift pu (N (23 + 13 * i + 3)) dp ln) = zHold pu (N (23 + 13 * i + 3)) dp ln (N (23 + 13 * i + 6)) by unfold zHold; cases zTaut pu (N (23 + 13 * i + 3)) dp ln <;> rfl]
                      exact k_iret hx hb hr hlk I dX7_hangs_170 (by rw [sHangs_ok hoS hcl (Nat.zero_le _) w2 (Nat.zero_le _) pu2 (Nat.zero_le _) (by decide), gHangs, if_neg (show ¬ N (23 + 13 * i + 7) = 1 by omega), if_neg (show ¬ (w = 1 ∧ N (23 + 13 * i + 9) = 0) by omega)]; first | (subst hw0 hdp hln; exact ⟨rfl, rC_qc hC hQ⟩) | (subst hw1 hdp hln; exact ⟨rfl, rC_qc hC hQ⟩))
                    · refine lv_iload hx hb dX7_hangs_98 (lv_at hl 7 rfl) ?_
                      refine lv_tableOut (tgt := 171) hx hb dX7_hangs_100 (by decide) (by decide) ?_
                      refine lv_aload hx hb dX7_hangs_171 (lv_at hl 0 rfl) ?_
                      refine k_get (C := RX2) (T := TX2) (N := 12) (v := .int (nI (if zTaut pu (N (23 + 13 * i + 3)) dp ln then 1 else 0))) hx hb hts hown E I iX2 (14) (by decide) (r0 := σ_95 14) rfl kc_14 rfl 4 (by decide) (List.mem_of_getElem? (i := 9) rfl) (congrArg (fun z => some (Value.int z)) f4) dX7_hangs_173 ?_
                      refine k_calls (As := [.int (nI (if zTaut pu (N (23 + 13 * i + 3)) dp ln then 1 else 0))]) (rest := []) ⟨hx, hb, hml, hown, hts⟩ (c_X7_oneIf l (nI (if zTaut pu (N (23 + 13 * i + 3)) dp ln then 1 else 0)) (kz1 (by split <;> omega))) (va_cwS 1 hts gX7_hangs_X7_oneIf rfl rfl rfl (by decide +kernel) ⟨Nat.le_of_ble_eq_true rfl, Nat.le_of_ble_eq_true rfl⟩) rfl hl.1 rfl (lv_room (Nat.le_of_ble_eq_true rfl)) dX7_hangs_176 ⟨Nat.le_of_ble_eq_true rfl, Nat.le_of_ble_eq_true rfl⟩ (fun r_176 hp_176 => ?_)
                      subst hp_176
                      exact k_iret hx hb hr hlk I dX7_hangs_179 (by rw [sHangs_ok hoS hcl (Nat.zero_le _) w2 (Nat.zero_le _) pu2 (Nat.zero_le _) (by decide), gHangs, if_neg (show ¬ N (23 + 13 * i + 7) = 1 by omega), if_neg (show ¬ (w = 1 ∧ N (23 + 13 * i + 9) = 0) by omega)]; first | (subst hw0 hdp hln; exact ⟨rfl, rC_qc hC hQ⟩) | (subst hw1 hdp hln; exact ⟨rfl, rC_qc hC hQ⟩))
                  · have hs2 := hsh.2.2.2.2.1 hm
                    obtain ⟨ln, hln⟩ : ∃ z, z = N (23 + 13 * i + 12) := ⟨_, rfl⟩
                    obtain ⟨dp, hdp⟩ : ∃ z, z = 10 * N (3 + N (23 + 13 * i + 10)) := ⟨_, rfl⟩
                    have hl60 : ln ≤ 60 := by omega
                    have hd2 : dp ≤ 200 := by have := hN.2.1 _ hs2.1; omega
                    refine lv_astore (lv' := [(6, .ref (ad (17 + 3 * i))), (5, .ref (ad (15 + 3 * i))), (0, .ref (ad 0)), (1, .int (nI i)), (2, .int (nI w)), (3, .int (nI pu)), (4, .int (nI k))]) hx hb dX7_hangs_64 hl (by decide) rfl (fun ls hl => ?_)
                    refine lv_aload hx hb dX7_hangs_66 (lv_at hl 0 rfl) ?_
                    refine lv_ifnonnull (tgt := 74) hx hb dX7_hangs_68 (by decide) ?_
                    refine lv_aload_n hx hb dX7_hangs_74 rfl (lv_at hl 2 rfl) ?_
                    refine k_get (C := RX7) (T := TX7) (N := 4) (v := .ref (ad 11)) hx hb hts hown E I iX7 (0) (by decide) (r0 := σ 0) rfl kc_0 rfl 2 (by decide) (List.mem_of_getElem? (i := 1) rfl) rfl dX7_hangs_75 ?_
                    refine lv_aload hx hb dX7_hangs_78 (lv_at hl 1 rfl) ?_
                    refine lv_aload hx hb dX7_hangs_80 (lv_at hl 0 rfl) ?_
                    refine lv_aload hx hb dX7_hangs_82 (lv_at hl 0 rfl) ?_
                    refine k_get (C := RX0) (T := TX0) (N := 3) (v := .int (nI (N (23 + 13 * i + 12)))) hx hb hts hown E I iX0 (17 + 3 * i) (by omega) (r0 := σ (17 + 3 * i)) rfl (kc_G H_i) rfl 2 (by decide) (List.mem_of_getElem? (i := 3) rfl) (congrArg (fun z => some (Value.int z)) (rB_g hB hi hm 2 (by decide))) dX7_hangs_84 ?_
                    refine lv_iload_n hx hb dX7_hangs_87 rfl (lv_at hl 5 rfl) ?_
                    refine k_callq (k := 11) (As := [.ref (ad (15 + 3 * i)), .ref (ad (17 + 3 * i)), .int (nI (N (23 + 13 * i + 12))), .int (nI pu)]) (rest := []) ⟨hx, hb, hml, hown, hts⟩ (c_X1_chainOf2 cy D ad l σ i (N (23 + 13 * i + 3)) (N (23 + 13 * i + 10)) (N (3 + N (23 + 13 * i + 10))) (N (23 + 13 * i + 12)) pu H_i (by omega) (hN.2.1 _ hs2.1).2 (rB_f hB hi 3 (by decide)) (rB_g hB hi hm 0 (by decide)) (hB.2.1 _ hs2.1)) (cwV 4 hts gX7_hangs_X1_chainOf rfl rfl rfl (by decide +kernel) ⟨Nat.le_of_ble_eq_true rfl, Nat.le_of_ble_eq_true rfl⟩) E hA I (k_recv E I (by decide) kc_11 rfl) rfl hl.1 rfl (lv_room (Nat.le_of_ble_eq_true rfl)) dX7_hangs_88 ⟨Nat.le_of_ble_eq_true rfl, Nat.le_of_ble_eq_true rfl⟩ (fun r_88 σ_88 H locs hp_88 I => ?_)
                    obtain ⟨rfl, hs_⟩ := hp_88
                    refine lv_astore (lv' := [(7, .ref (ad 14)), (6, .ref (ad (17 + 3 * i))), (5, .ref (ad (15 + 3 * i))), (0, .ref (ad 0)), (1, .int (nI i)), (2, .int (nI w)), (3, .int (nI pu)), (4, .int (nI k))]) hx hb dX7_hangs_91 hl (by decide) rfl (fun ls hl => ?_)
                    refine lv_aload hx hb dX7_hangs_93 (lv_at hl 0 rfl) ?_
                    refine k_callv (k := 14) (As := []) (rest := []) ⟨hx, hb, hml, hown, hts⟩ (c_X2_findLie cy D ad l σ_88 pu (N (23 + 13 * i + 3)) ln dp pu2 hsh.2.1.1 hsh.2.1.2.1 hl60 hd2 (by rw [hs_]; rfl) (by rw [hs_]; rfl) (by rw [hs_, hln]; rfl) (by rw [hs_, hdp]; rfl)) (cwV 0 hts gX7_hangs_X2_findLie rfl rfl rfl (by decide +kernel) ⟨Nat.le_of_ble_eq_true rfl, Nat.le_of_ble_eq_true rfl⟩) E hA I (k_recv E I (by decide) kc_14 rfl) rfl hl.1 rfl (lv_room (Nat.le_of_ble_eq_true rfl)) dX7_hangs_95 ⟨Nat.le_of_ble_eq_true rfl, Nat.le_of_ble_eq_true rfl⟩ (fun σ_95 H locs hp_95 I => ?_)
                    obtain ⟨R, hs2_, r0, r1, r2, r3, r4⟩ := hp_95
                    have hQ4 : q14 σ σ_95 := q14_tr ⟨_, hs_⟩ ⟨_, hs2_⟩
                    have hQ := q14_qc hQ4
                    have e8 : σ_95 (15 + 3 * i) 8 = nI (N (23 + 13 * i + 6)) := (q14_at hQ4 (by omega) 8).trans (rB_f hB hi 6 (by decide))
                    have f0 : σ_95 14 0 = nI (hg pu (N (23 + 13 * i + 3)) 0 dp ln) := by rw [hs2_]; exact r0
                    have f1 : σ_95 14 1 = nI (zGround pu (N (23 + 13 * i + 3)) dp ln) := by rw [hs2_]; exact r1
                    have f2 : σ_95 14 2 = nI (zReach pu (N (23 + 13 * i + 3)) dp ln) := by rw [hs2_]; exact r2
                    have f3 : σ_95 14 3 = nI (zLift pu (N (23 + 13 * i + 3)) dp ln) := by rw [hs2_]; exact r3
                    have f4 : σ_95 14 4 = nI (if zTaut pu (N (23 + 13 * i + 3)) dp ln then 1 else 0) := by rw [hs2_]; exact r4
                    rcases (show k = 0 ∨ k = 1 ∨ k = 2 ∨ k = 3 ∨ k = 4 ∨ k = 5 by omega) with rfl | rfl | rfl | rfl | rfl | rfl
                    · refine lv_iload hx hb dX7_hangs_98 (lv_at hl 7 rfl) ?_
                      refine lv_tableIn (tgt := 136) (off := 36) hx hb dX7_hangs_100 (by decide) (by decide) (by decide) (by decide) ?_
                      refine lv_aload hx hb dX7_hangs_136 (lv_at hl 0 rfl) ?_
                      refine k_get (C := RX2) (T := TX2) (N := 12) (v := .int (nI (hg pu (N (23 + 13 * i + 3)) 0 dp ln))) hx hb hts hown E I iX2 (14) (by decide) (r0 := σ_95 14) rfl kc_14 rfl 0 (by decide) (List.mem_of_getElem? (i := 4) rfl) (congrArg (fun z => some (Value.int z)) f0) dX7_hangs_138 ?_
                      exact k_iret hx hb hr hlk I dX7_hangs_141 (by rw [sHangs_ok hoS hcl (Nat.zero_le _) w2 (Nat.zero_le _) pu2 (Nat.zero_le _) (by decide), gHangs, if_neg (show ¬ N (23 + 13 * i + 7) = 1 by omega), if_neg (show ¬ (w = 1 ∧ N (23 + 13 * i + 9) = 0) by omega)]; first | (subst hw0 hdp hln; exact ⟨rfl, rC_qc hC hQ⟩) | (subst hw1 hdp hln; exact ⟨rfl, rC_qc hC hQ⟩))
                    · refine lv_iload hx hb dX7_hangs_98 (lv_at hl 7 rfl) ?_
                      refine lv_tableIn (tgt := 142) (off := 42) hx hb dX7_hangs_100 (by decide) (by decide) (by decide) (by decide) ?_
                      refine lv_aload hx hb dX7_hangs_142 (lv_at hl 0 rfl) ?_
                      refine k_get (C := RX2) (T := TX2) (N := 12) (v := .int (nI (zGround pu (N (23 + 13 * i + 3)) dp ln))) hx hb hts hown E I iX2 (14) (by decide) (r0 := σ_95 14) rfl kc_14 rfl 1 (by decide) (List.mem_of_getElem? (i := 5) rfl) (congrArg (fun z => some (Value.int z)) f1) dX7_hangs_144 ?_
                      exact k_iret hx hb hr hlk I dX7_hangs_147 (by rw [sHangs_ok hoS hcl (Nat.zero_le _) w2 (Nat.zero_le _) pu2 (Nat.zero_le _) (by decide), gHangs, if_neg (show ¬ N (23 + 13 * i + 7) = 1 by omega), if_neg (show ¬ (w = 1 ∧ N (23 + 13 * i + 9) = 0) by omega)]; first | (subst hw0 hdp hln; exact ⟨rfl, rC_qc hC hQ⟩) | (subst hw1 hdp hln; exact ⟨rfl, rC_qc hC hQ⟩))
                    · refine lv_iload hx hb dX7_hangs_98 (lv_at hl 7 rfl) ?_
                      refine lv_tableIn (tgt := 148) (off := 48) hx hb dX7_hangs_100 (by decide) (by decide) (by decide) (by decide) ?_
                      refine lv_aload hx hb dX7_hangs_148 (lv_at hl 0 rfl) ?_
                      refine k_get (C := RX2) (T := TX2) (N := 12) (v := .int (nI (zReach pu (N (23 + 13 * i + 3)) dp ln))) hx hb hts hown E I iX2 (14) (by decide) (r0 := σ_95 14) rfl kc_14 rfl 2 (by decide) (List.mem_of_getElem? (i := 6) rfl) (congrArg (fun z => some (Value.int z)) f2) dX7_hangs_150 ?_
                      exact k_iret hx hb hr hlk I dX7_hangs_153 (by rw [sHangs_ok hoS hcl (Nat.zero_le _) w2 (Nat.zero_le _) pu2 (Nat.zero_le _) (by decide), gHangs, if_neg (show ¬ N (23 + 13 * i + 7) = 1 by omega), if_neg (show ¬ (w = 1 ∧ N (23 + 13 * i + 9) = 0) by omega)]; first | (subst hw0 hdp hln; exact ⟨rfl, rC_qc hC hQ⟩) | (subst hw1 hdp hln; exact ⟨rfl, rC_qc hC hQ⟩))
                    · refine lv_iload hx hb dX7_hangs_98 (lv_at hl 7 rfl) ?_
                      refine lv_tableIn (tgt := 154) (off := 54) hx hb dX7_hangs_100 (by decide) (by decide) (by decide) (by decide) ?_
                      refine lv_aload hx hb dX7_hangs_154 (lv_at hl 0 rfl) ?_
                      refine k_get (C := RX2) (T := TX2) (N := 12) (v := .int (nI (zLift pu (N (23 + 13 * i + 3)) dp ln))) hx hb hts hown E I iX2 (14) (by decide) (r0 := σ_95 14) rfl kc_14 rfl 3 (by decide) (List.mem_of_getElem? (i := 7) rfl) (congrArg (fun z => some (Value.int z)) f3) dX7_hangs_156 ?_
                      exact k_iret hx hb hr hlk I dX7_hangs_159 (by rw [sHangs_ok hoS hcl (Nat.zero_le _) w2 (Nat.zero_le _) pu2 (Nat.zero_le _) (by decide), gHangs, if_neg (show ¬ N (23 + 13 * i + 7) = 1 by omega), if_neg (show ¬ (w = 1 ∧ N (23 + 13 * i + 9) = 0) by omega)]; first | (subst hw0 hdp hln; exact ⟨rfl, rC_qc hC hQ⟩) | (subst hw1 hdp hln; exact ⟨rfl, rC_qc hC hQ⟩))
                    · refine lv_iload hx hb dX7_hangs_98 (lv_at hl 7 rfl) ?_
                      refine lv_tableIn (tgt := 160) (off := 60) hx hb dX7_hangs_100 (by decide) (by decide) (by decide) (by decide) ?_
                      refine lv_aload hx hb dX7_hangs_160 (lv_at hl 0 rfl) ?_
                      refine lv_aload hx hb dX7_hangs_162 (lv_at hl 2 rfl) ?_
                      refine k_get (C := RX6) (T := TX6) (N := 10) (v := .int (nI (N (23 + 13 * i + 6)))) hx hb hts hown E I iX6 (15 + 3 * i) (by omega) (r0 := σ_95 (15 + 3 * i)) rfl (kc_S H_i) rfl 8 (by decide) (List.mem_of_getElem? (i := 8) rfl) (congrArg (fun z => some (Value.int z)) e8) dX7_hangs_164 ?_
                      refine k_calli (k := 14) (As := [.int (nI (N (23 + 13 * i + 6)))]) (rest := []) ⟨hx, hb, hml, hown, hts⟩ (c_X2_holding cy D ad l σ_95 (if zTaut pu (N (23 + 13 * i + 3)) dp ln then 1 else 0) (zLift pu (N (23 + 13 * i + 3)) dp ln) (N (23 + 13 * i + 6)) (by split <;> omega) (zLift_le _ _ _ _) hsh.2.2.1.2.2.2 f4 f3) (cwV 1 hts gX7_hangs_X2_holding rfl rfl rfl (by decide +kernel) ⟨Nat.le_of_ble_eq_true rfl, Nat.le_of_ble_eq_true rfl⟩) E hA I (k_recv E I (by decide) kc_14 rfl) rfl hl.1 rfl (lv_room (Nat.le_of_ble_eq_true rfl)) dX7_hangs_167 ⟨Nat.le_of_ble_eq_true rfl, Nat.le_of_ble_eq_true rfl⟩ (fun r_167 σ_167 H locs hp_167 I => ?_)
                      obtain ⟨rfl, rfl⟩ := hp_167
                      rw [show (if (if zTaut pu (N (23 + 13 * i + 3)) dp ln then 1 else 0) = 1 then 0 else N (23 + 13 * i + 6) - 3 * zLift pu (N (23 + 13 * i + 3)) dp ln) = zHold pu (N (23 + 13 * i + 3)) dp ln (N (23 + 13 * i + 6)) by unfold zHold; cases zTaut pu (N (23 + 13 * i + 3)) dp ln <;> rfl]
                      exact k_iret hx hb hr hlk I dX7_hangs_170 (by rw [sHangs_ok hoS hcl (Nat.zero_le _) w2 (Nat.zero_le _) pu2 (Nat.zero_le _) (by decide), gHangs, if_neg (show ¬ N (23 + 13 * i + 7) = 1 by omega), if_neg (show ¬ (w = 1 ∧ N (23 + 13 * i + 9) = 0) by omega)]; first | (subst hw0 hdp hln; exact ⟨rfl, rC_qc hC hQ⟩) | (subst hw1 hdp hln; exact ⟨rfl, rC_qc hC hQ⟩))
                    · refine lv_iload hx hb dX7_hangs_98 (lv_at hl 7 rfl) ?_
                      refine lv_tableOut (tgt := 171) hx hb dX7_hangs_100 (by decide) (by decide) ?_
                      refine lv_aload hx hb dX7_hangs_171 (lv_at hl 0 rfl) ?_
                      refine k_get (C := RX2) (T := TX2) (N := 12) (v := .int (nI (if zTaut pu (N (23 + 13 * i + 3)) dp ln then 1 else 0))) hx hb hts hown E I iX2 (14) (by decide) (r0 := σ_95 14) rfl kc_14 rfl 4 (by decide) (List.mem_of_getElem? (i := 9) rfl) (congrArg (fun z => some (Value.int z)) f4) dX7_hangs_173 ?_
                      refine k_calls (As := [.int (nI (if zTaut pu (N (23 + 13 * i + 3)) dp ln then 1 else 0))]) (rest := []) ⟨hx, hb, hml, hown, hts⟩ (c_X7_oneIf l (nI (if zTaut pu (N (23 + 13 * i + 3)) dp ln then 1 else 0)) (kz1 (by split <;> omega))) (va_cwS 1 hts gX7_hangs_X7_oneIf rfl rfl rfl (by decide +kernel) ⟨Nat.le_of_ble_eq_true rfl, Nat.le_of_ble_eq_true rfl⟩) rfl hl.1 rfl (lv_room (Nat.le_of_ble_eq_true rfl)) dX7_hangs_176 ⟨Nat.le_of_ble_eq_true rfl, Nat.le_of_ble_eq_true rfl⟩ (fun r_176 hp_176 => ?_)
                      subst hp_176
                      exact k_iret hx hb hr hlk I dX7_hangs_179 (by rw [sHangs_ok hoS hcl (Nat.zero_le _) w2 (Nat.zero_le _) pu2 (Nat.zero_le _) (by decide), gHangs, if_neg (show ¬ N (23 + 13 * i + 7) = 1 by omega), if_neg (show ¬ (w = 1 ∧ N (23 + 13 * i + 9) = 0) by omega)]; first | (subst hw0 hdp hln; exact ⟨rfl, rC_qc hC hQ⟩) | (subst hw1 hdp hln; exact ⟨rfl, rC_qc hC hQ⟩))
                  · refine lv_astoreN (lv' := [(6, .null), (5, .ref (ad (15 + 3 * i))), (0, .ref (ad 0)), (1, .int (nI i)), (2, .int (nI w)), (3, .int (nI pu)), (4, .int (nI k))]) hx hb dX7_hangs_64 hl (by decide) rfl (fun ls hl => ?_)
                    refine lv_aloadN hx hb dX7_hangs_66 (lv_at hl 0 rfl) ?_
                    refine lv_ifnonnullN hx hb dX7_hangs_68 ?_
                    refine lv_bipush (v := (-4 : Int32)) hx hb dX7_hangs_71 (by decide) ?_
                    exact k_iret hx hb hr hlk I dX7_hangs_73 (by rw [sHangs_ok hoS hcl (Nat.zero_le _) w2 (Nat.zero_le _) pu2 (Nat.zero_le _) k2, gHangs, if_neg (by omega), if_pos ⟨hw1, hm0⟩]; exact ⟨rfl, hC⟩)
                · have c_52 : ¬ ((N (23 + 13 * i + 7)) = 0) := fun q_ => c_52 ((nI_eq (by omega) (by decide)).mpr q_)
                  refine lv_bipush (v := (-2 : Int32)) hx hb dX7_hangs_55 (by decide) ?_
                  exact k_iret hx hb hr hlk I dX7_hangs_57 (by rw [sHangs_ok hoS hcl (Nat.zero_le _) w2 (Nat.zero_le _) pu2 (Nat.zero_le _) k2, gHangs, if_pos (by omega)]; exact ⟨rfl, hC⟩)
              · exact absurd c_42 (by decide)
            · refine lv_if_ne (tgt := 47) hx hb dX7_hangs_42 (by decide) (fun c_42 => ?_) (fun c_42 => ?_)
              · exact absurd c_42 (by decide)
              · refine lv_iconst (v := (-1 : Int32)) hx hb dX7_hangs_45 (by decide) ?_
                exact k_iret hx hb hr hlk I dX7_hangs_46 (by rw [sHangs_bad (by first | exact fun q => hnS q.1 | exact fun q => g1 q.2.1 | exact fun q => g2 q.2.2.1 | exact fun q => g3 q.2.2.2)]; exact ⟨rfl, hC⟩)
        · refine lv_if_eq (tgt := 45) hx hb dX7_hangs_32 (by decide) (fun c_32 => ?_) (fun c_32 => ?_)
          · refine lv_iconst (v := (-1 : Int32)) hx hb dX7_hangs_45 (by decide) ?_
            exact k_iret hx hb hr hlk I dX7_hangs_46 (by rw [sHangs_bad (by first | exact fun q => hnS q.1 | exact fun q => g1 q.2.1 | exact fun q => g2 q.2.2.1 | exact fun q => g3 q.2.2.2)]; exact ⟨rfl, hC⟩)
          · exact absurd c_32 (by decide)
    · refine lv_if_eq (tgt := 45) hx hb dX7_hangs_21 (by decide) (fun c_21 => ?_) (fun c_21 => ?_)
      · refine lv_iconst (v := (-1 : Int32)) hx hb dX7_hangs_45 (by decide) ?_
        exact k_iret hx hb hr hlk I dX7_hangs_46 (by rw [sHangs_bad (by first | exact fun q => hnS q.1 | exact fun q => g1 q.2.1 | exact fun q => g2 q.2.2.1 | exact fun q => g3 q.2.2.2)]; exact ⟨rfl, hC⟩)
      · exact absurd c_21 (by decide)
  · have hnS := okS_no h5.2.2.2.1 hno
    refine lv_astoreN (lv' := [(5, .null), (0, .ref (ad 0)), (1, .int s0), (2, .int a), (3, .int u), (4, .int x)]) hx hb dX7_hangs_8 hl (by decide) rfl (fun ls hl => ?_)
    refine lv_aloadN hx hb dX7_hangs_10 (lv_at hl 0 rfl) ?_
    refine lv_ifnullN (tgt := 45) hx hb dX7_hangs_12 (by decide) ?_
    refine lv_iconst (v := (-1 : Int32)) hx hb dX7_hangs_45 (by decide) ?_
    exact k_iret hx hb hr hlk I dX7_hangs_46 (by rw [sHangs_bad (by first | exact fun q => hnS q.1 | exact fun q => g1 q.2.1 | exact fun q => g2 q.2.2.1 | exact fun q => g3 q.2.2.2)]; exact ⟨rfl, hC⟩)
set_option maxHeartbeats 4000000 in
set_option maxRecDepth 100000 in
theorem c_X7_wind (cy : Nat → ClassId) (D : va_G) (ad : Nat → Nat) (l : Launch) (σ : Nat → Nat → Int32) (s0 b x : Int32) (N : Nat → Nat) (P : Nat → Nat → Nat) (np : Nat) (T : Nat → Nat) (nt : Nat) (hC : rC σ (N, P, np, T, nt)) : kMi 38 ad (kcC cy ad) cy D l yX7_wind wsX7_wind ({ frames := 5, cells := 0, slots := 0, locals := 117 }) [.ref (ad 0), .int s0, .int b, .int x] σ (fun r σ' => r = (sWind s0 b x (N, P, np, T, nt)).1 ∧ rC σ' (sWind s0 b x (N, P, np, T, nt)).2) := by
  obtain ⟨hB, hN, hPa, hT⟩ := id hC
  have h5 := hN.1
  refine k_entry (cc := cX7_wind) (maxL := 5) (ret := (some .int)) (by decide) rfl (Nat.le_of_ble_eq_true rfl) ?_
  intro p e s m below meth c hx hb hr hml hown hts hlk E I ls hl
  have hA : ∀ q, s.heap.size ≤ q → kA 38 ad s.heap.size q := fun q h => Or.inr h
  have hown : s.vm.findClass RX7 = some m.cls := hown
  have hl : lv_has ls 5 [(0, .ref (ad 0)), (1, .int s0), (2, .int b), (3, .int x)] := hl
  have iX0 : ∀ w ∈ u_ws RX0 TX0 3, w ∈ wsX7_wind := fun w h => List.mem_cons_of_mem _ (List.mem_append_left _ (List.mem_append_left _ (List.mem_append_right _ h)))
  have iX6 : ∀ w ∈ u_ws RX6 TX6 10, w ∈ wsX7_wind := fun w h => List.mem_cons_of_mem _ (List.mem_append_left _ (List.mem_append_left _ (List.mem_append_left _ (List.mem_append_right _ h))))
  have iX7 : ∀ w ∈ u_ws RX7 TX7 4, w ∈ wsX7_wind := fun w h => List.mem_cons_of_mem _ (List.mem_append_left _ (List.mem_append_left _ (List.mem_append_left _ (List.mem_append_left _ (List.mem_append_right _ h)))))
  refine lv_aload_n hx hb dX7_wind_0 rfl (lv_at hl 0 rfl) ?_
  refine k_get (C := RX7) (T := TX7) (N := 4) (v := .ref (ad 11)) hx hb hts hown E I iX7 (0) (by decide) (r0 := σ 0) rfl kc_0 rfl 2 (by decide) (List.mem_of_getElem? (i := 1) rfl) rfl dX7_wind_1 ?_
  refine lv_iload_n hx hb dX7_wind_4 rfl (lv_at hl 1 rfl) ?_
  refine k_callq (k := 11) (As := [.int s0]) (rest := []) ⟨hx, hb, hml, hown, hts⟩ (c_X1_shipAt cy D ad l σ (s0) (N 1) (by omega) hB.1.2.1) (cwV 1 hts gX7_wind_X1_shipAt rfl rfl rfl (by decide +kernel) ⟨Nat.le_of_ble_eq_true rfl, Nat.le_of_ble_eq_true rfl⟩) E hA I (k_recv E I (by decide) kc_11 rfl) rfl hl.1 rfl (lv_room (Nat.le_of_ble_eq_true rfl)) dX7_wind_5 ⟨Nat.le_of_ble_eq_true rfl, Nat.le_of_ble_eq_true rfl⟩ (fun r_5 σ_5 H locs hp_5 I => ?_)
  obtain ⟨rfl, hk_⟩ := hp_5
  rcases hk_ with ⟨i, hi, rfl, rfl⟩ | ⟨hno, rfl⟩
  · have H_i : i < 5 := by omega
    have hsh := hN.2.2 i hi
    unfold nSh at hsh
    have hoS := okS_nI hi h5.2.2.2.1
    have hcl : (nI i).toNatClampNeg = i := nI_clamp (by omega)
    refine lv_astore (lv' := [(4, .ref (ad (15 + 3 * i))), (0, .ref (ad 0)), (1, .int (nI i)), (2, .int b), (3, .int x)]) hx hb dX7_wind_8 hl (by decide) rfl (fun ls hl => ?_)
    refine lv_aload hx hb dX7_wind_10 (lv_at hl 0 rfl) ?_
    refine lv_ifnull hx hb dX7_wind_12 ?_
    refine lv_iload_n hx hb dX7_wind_15 rfl (lv_at hl 3 rfl) ?_
    refine k_calls (As := [.int b]) (rest := []) ⟨hx, hb, hml, hown, hts⟩ (c_X7_isWind l (b)) (va_cwS 1 hts gX7_wind_X7_isWind rfl rfl rfl (by decide +kernel) ⟨Nat.le_of_ble_eq_true rfl, Nat.le_of_ble_eq_true rfl⟩) rfl hl.1 rfl (lv_room (Nat.le_of_ble_eq_true rfl)) dX7_wind_16 ⟨Nat.le_of_ble_eq_true rfl, Nat.le_of_ble_eq_true rfl⟩ (fun r_16 hp_16 => ?_)
    rcases hp_16 with ⟨rfl, g1⟩ | ⟨rfl, g1⟩
    · obtain ⟨bb, b1, b2, rfl⟩ := kT_in (by decide) (by decide) g1
      refine lv_if_eq (tgt := 31) hx hb dX7_wind_19 (by decide) (fun c_19 => ?_) (fun c_19 => ?_)
      · exact absurd c_19 (by decide)
      · refine lv_iload_n hx hb dX7_wind_22 rfl (lv_at hl 4 rfl) ?_
        refine lv_iconst (v := nI 0) hx hb dX7_wind_23 (by decide) ?_
        refine lv_iconst (v := nI 2) hx hb dX7_wind_24 (by decide) ?_
        refine k_calls (As := [.int x, .int (nI 0), .int (nI 2)]) (rest := []) ⟨hx, hb, hml, hown, hts⟩ (c_X7_within l (x) (nI 0) (nI 2)) (va_cwS 3 hts gX7_wind_X7_within rfl rfl rfl (by decide +kernel) ⟨Nat.le_of_ble_eq_true rfl, Nat.le_of_ble_eq_true rfl⟩) rfl hl.1 rfl (lv_room (Nat.le_of_ble_eq_true rfl)) dX7_wind_25 ⟨Nat.le_of_ble_eq_true rfl, Nat.le_of_ble_eq_true rfl⟩ (fun r_25 hp_25 => ?_)
        rcases hp_25 with ⟨rfl, g2⟩ | ⟨rfl, g2⟩
        · obtain ⟨k, k1, k2, rfl⟩ := kT_in (by decide) (by decide) g2
          refine lv_if_ne (tgt := 33) hx hb dX7_wind_28 (by decide) (fun c_28 => ?_) (fun c_28 => ?_)
          · refine lv_aload hx hb dX7_wind_33 (lv_at hl 0 rfl) ?_
            refine k_get (C := RX6) (T := TX6) (N := 10) (v := .int (nI (N (23 + 13 * i + 7)))) hx hb hts hown E I iX6 (15 + 3 * i) (by omega) (r0 := σ (15 + 3 * i)) rfl (kc_S H_i) rfl 3 (by decide) (List.mem_of_getElem? (i := 2) rfl) (congrArg (fun z => some (Value.int z)) (rB_f hB hi 7 (by decide))) dX7_wind_35 ?_
            refine lv_if_eq (tgt := 44) hx hb dX7_wind_38 (by decide) (fun c_38 => ?_) (fun c_38 => ?_)
            · have c_38 : (N (23 + 13 * i + 7)) = 0 := (nI_eq (by omega) (by decide)).mp c_38
              rcases (show k = 0 ∨ k = 1 ∨ k = 2 by omega) with rfl | rfl | rfl
              · refine lv_iload_n hx hb dX7_wind_44 rfl (lv_at hl 4 rfl) ?_
                refine lv_lookup (tgt := 72) (off := 27) hx hb dX7_wind_45 (by decide) (by decide) (by decide) ?_
                refine lv_aload hx hb dX7_wind_72 (lv_at hl 0 rfl) ?_
                refine lv_iload_n hx hb dX7_wind_74 rfl (lv_at hl 3 rfl) ?_
                refine k_calli (k := 15 + 3 * i) (As := [.int (nI bb)]) (rest := []) ⟨hx, hb, hml, hown, hts⟩ (c_X6_pullBy cy D ad l σ i (N (23 + 13 * i + 5)) bb H_i hsh.2.2.1.2.1 b2 (rB_f hB hi 5 (by decide))) (cwV 1 hts gX7_wind_X6_pullBy rfl rfl rfl (by decide +kernel) ⟨Nat.le_of_ble_eq_true rfl, Nat.le_of_ble_eq_true rfl⟩) E hA I (k_recv E I (by omega) (kc_S H_i) rfl) rfl hl.1 rfl (lv_room (Nat.le_of_ble_eq_true rfl)) dX7_wind_75 ⟨Nat.le_of_ble_eq_true rfl, Nat.le_of_ble_eq_true rfl⟩ (fun r_75 σ_75 H locs hp_75 I => ?_)
                obtain ⟨rfl, rfl⟩ := hp_75
                exact k_iret hx hb hr hlk I dX7_wind_78 (by rw [sWind_ok hoS hcl (Nat.zero_le _) b2 (Nat.zero_le _) (by decide), gWind, if_neg (by omega)]; exact ⟨rfl, hC⟩)
              · refine lv_iload_n hx hb dX7_wind_44 rfl (lv_at hl 4 rfl) ?_
                refine lv_lookup (tgt := 79) (off := 34) hx hb dX7_wind_45 (by decide) (by decide) (by decide) ?_
                refine lv_aload_n hx hb dX7_wind_79 rfl (lv_at hl 1 rfl) ?_
                refine k_get (C := RX7) (T := TX7) (N := 4) (v := .ref (ad 11)) hx hb hts hown E I iX7 (0) (by decide) (r0 := σ 0) rfl kc_0 rfl 2 (by decide) (List.mem_of_getElem? (i := 1) rfl) rfl dX7_wind_80 ?_
                refine lv_aload hx hb dX7_wind_83 (lv_at hl 0 rfl) ?_
                refine lv_aload hx hb dX7_wind_85 (lv_at hl 0 rfl) ?_
                refine k_get (C := RX6) (T := TX6) (N := 10) (v := .ref (ad (16 + 3 * i))) hx hb hts hown E I iX6 (15 + 3 * i) (by omega) (r0 := σ (15 + 3 * i)) rfl (kc_S H_i) rfl 0 (by decide) (List.mem_of_getElem? (i := 3) rfl) rfl dX7_wind_87 ?_
                refine k_get (C := RX0) (T := TX0) (N := 3) (v := .int (nI (N (23 + 13 * i + 2)))) hx hb hts hown E I iX0 (16 + 3 * i) (by omega) (r0 := σ (16 + 3 * i)) rfl (kc_F H_i) rfl 2 (by decide) (List.mem_of_getElem? (i := 4) rfl) (congrArg (fun z => some (Value.int z)) (rB_f hB hi 2 (by decide))) dX7_wind_90 ?_
                refine lv_iload_n hx hb dX7_wind_93 rfl (lv_at hl 3 rfl) ?_
                refine k_calli (k := 11) (As := [.ref (ad (15 + 3 * i)), .int (nI (N (23 + 13 * i + 2))), .int (nI bb)]) (rest := []) ⟨hx, hb, hml, hown, hts⟩ (c_X1_holdsBy cy D ad l σ N hN i hi hB (N (23 + 13 * i + 2)) bb hsh.1.2.2.2 b2) (cwV 3 hts gX7_wind_X1_holdsBy rfl rfl rfl (by decide +kernel) ⟨Nat.le_of_ble_eq_true rfl, Nat.le_of_ble_eq_true rfl⟩) E hA I (k_recv E I (by decide) kc_11 rfl) rfl hl.1 rfl (lv_room (Nat.le_of_ble_eq_true rfl)) dX7_wind_94 ⟨Nat.le_of_ble_eq_true rfl, Nat.le_of_ble_eq_true rfl⟩ (fun r_94 σ_94 H locs hp_94 I => ?_)
                obtain ⟨hk_, hq_⟩ := hp_94
                rcases hk_ with ⟨rfl, g3⟩ | ⟨rfl, g3⟩
                · refine k_calls (As := [.int (nI 1)]) (rest := []) ⟨hx, hb, hml, hown, hts⟩ (c_X7_oneIf l (nI 1) (by first | exact Or.inl rfl | exact Or.inr rfl)) (va_cwS 1 hts gX7_wind_X7_oneIf rfl rfl rfl (by decide +kernel) ⟨Nat.le_of_ble_eq_true rfl, Nat.le_of_ble_eq_true rfl⟩) rfl hl.1 rfl (lv_room (Nat.le_of_ble_eq_true rfl)) dX7_wind_97 ⟨Nat.le_of_ble_eq_true rfl, Nat.le_of_ble_eq_true rfl⟩ (fun r_97 hp_97 => ?_)
                  subst hp_97
                  exact k_iret hx hb hr hlk I dX7_wind_100 (by rw [sWind_ok hoS hcl (Nat.zero_le _) b2 (Nat.zero_le _) (by decide), gWind, if_neg (by omega), if_neg (by decide), if_pos rfl]; exact ⟨by first | (rw [if_pos g3]) | (rw [if_neg g3]), rC_qc hC (q14_qc hq_)⟩)
                · refine k_calls (As := [.int (nI 0)]) (rest := []) ⟨hx, hb, hml, hown, hts⟩ (c_X7_oneIf l (nI 0) (by first | exact Or.inl rfl | exact Or.inr rfl)) (va_cwS 1 hts gX7_wind_X7_oneIf rfl rfl rfl (by decide +kernel) ⟨Nat.le_of_ble_eq_true rfl, Nat.le_of_ble_eq_true rfl⟩) rfl hl.1 rfl (lv_room (Nat.le_of_ble_eq_true rfl)) dX7_wind_97 ⟨Nat.le_of_ble_eq_true rfl, Nat.le_of_ble_eq_true rfl⟩ (fun r_97 hp_97 => ?_)
                  subst hp_97
                  exact k_iret hx hb hr hlk I dX7_wind_100 (by rw [sWind_ok hoS hcl (Nat.zero_le _) b2 (Nat.zero_le _) (by decide), gWind, if_neg (by omega), if_neg (by decide), if_pos rfl]; exact ⟨by first | (rw [if_pos g3]) | (rw [if_neg g3]), rC_qc hC (q14_qc hq_)⟩)
              · refine lv_iload_n hx hb dX7_wind_44 rfl (lv_at hl 4 rfl) ?_
                refine lv_lookup (tgt := 101) (off := 56) hx hb dX7_wind_45 (by decide) (by decide) (by decide) ?_
                refine lv_aload_n hx hb dX7_wind_101 rfl (lv_at hl 1 rfl) ?_
                refine k_get (C := RX7) (T := TX7) (N := 4) (v := .ref (ad 11)) hx hb hts hown E I iX7 (0) (by decide) (r0 := σ 0) rfl kc_0 rfl 2 (by decide) (List.mem_of_getElem? (i := 1) rfl) rfl dX7_wind_102 ?_
                refine lv_aload hx hb dX7_wind_105 (lv_at hl 0 rfl) ?_
                refine lv_aload hx hb dX7_wind_107 (lv_at hl 0 rfl) ?_
                refine k_get (C := RX6) (T := TX6) (N := 10) (v := .ref (ad (16 + 3 * i))) hx hb hts hown E I iX6 (15 + 3 * i) (by omega) (r0 := σ (15 + 3 * i)) rfl (kc_S H_i) rfl 0 (by decide) (List.mem_of_getElem? (i := 3) rfl) rfl dX7_wind_109 ?_
                refine k_get (C := RX0) (T := TX0) (N := 3) (v := .int (nI (N (23 + 13 * i + 2)))) hx hb hts hown E I iX0 (16 + 3 * i) (by omega) (r0 := σ (16 + 3 * i)) rfl (kc_F H_i) rfl 2 (by decide) (List.mem_of_getElem? (i := 4) rfl) (congrArg (fun z => some (Value.int z)) (rB_f hB hi 2 (by decide))) dX7_wind_112 ?_
                refine lv_iload_n hx hb dX7_wind_115 rfl (lv_at hl 3 rfl) ?_
                refine k_callv (k := 11) (As := [.ref (ad (15 + 3 * i)), .int (nI (N (23 + 13 * i + 2))), .int (nI bb)]) (rest := []) ⟨hx, hb, hml, hown, hts⟩ (c_X1_measureSwing cy D ad l σ N hN i hi hB (N (23 + 13 * i + 2)) bb hsh.1.2.2.2 b2) (cwV 3 hts gX7_wind_X1_measureSwing rfl rfl rfl (by decide +kernel) ⟨Nat.le_of_ble_eq_true rfl, Nat.le_of_ble_eq_true rfl⟩) E hA I (k_recv E I (by decide) kc_11 rfl) rfl hl.1 rfl (lv_room (Nat.le_of_ble_eq_true rfl)) dX7_wind_116 ⟨Nat.le_of_ble_eq_true rfl, Nat.le_of_ble_eq_true rfl⟩ (fun σ_116 H locs hp_116 I => ?_)
                obtain ⟨υ, hq1, hs1⟩ := hp_116
                have hw := sw_set H_i hq1 hs1
                refine lv_aload hx hb dX7_wind_119 (lv_at hl 0 rfl) ?_
                refine k_get (C := RX6) (T := TX6) (N := 10) (v := .int (nI (pSw N i (N (23 + 13 * i + 2)) bb))) hx hb hts hown E I iX6 (15 + 3 * i) (by omega) (r0 := σ_116 (15 + 3 * i)) rfl (kc_S H_i) rfl 9 (by decide) (List.mem_of_getElem? (i := 5) rfl) (congrArg (fun z => some (Value.int z)) hw.2.1) dX7_wind_121 ?_
                exact k_iret hx hb hr hlk I dX7_wind_124 (by rw [sWind_ok hoS hcl (Nat.zero_le _) b2 (Nat.zero_le _) (by decide), gWind, if_neg (by omega), if_neg (by decide), if_neg (by decide)]; exact ⟨rfl, rC_qc hC hw.1⟩)
            · have c_38 : ¬ ((N (23 + 13 * i + 7)) = 0) := fun q_ => c_38 ((nI_eq (by omega) (by decide)).mpr q_)
              refine lv_bipush (v := (-2 : Int32)) hx hb dX7_wind_41 (by decide) ?_
              exact k_iret hx hb hr hlk I dX7_wind_43 (by rw [sWind_ok hoS hcl (Nat.zero_le _) b2 (Nat.zero_le _) k2, gWind, if_pos (by omega)]; exact ⟨rfl, hC⟩)
          · exact absurd c_28 (by decide)
        · refine lv_if_ne (tgt := 33) hx hb dX7_wind_28 (by decide) (fun c_28 => ?_) (fun c_28 => ?_)
          · exact absurd c_28 (by decide)
          · refine lv_iconst (v := (-1 : Int32)) hx hb dX7_wind_31 (by decide) ?_
            exact k_iret hx hb hr hlk I dX7_wind_32 (by rw [sWind_bad (by first | exact fun q => hnS q.1 | exact fun q => g1 q.2.1 | exact fun q => g2 q.2.2)]; exact ⟨rfl, hC⟩)
    · refine lv_if_eq (tgt := 31) hx hb dX7_wind_19 (by decide) (fun c_19 => ?_) (fun c_19 => ?_)
      · refine lv_iconst (v := (-1 : Int32)) hx hb dX7_wind_31 (by decide) ?_
        exact k_iret hx hb hr hlk I dX7_wind_32 (by rw [sWind_bad (by first | exact fun q => hnS q.1 | exact fun q => g1 q.2.1 | exact fun q => g2 q.2.2)]; exact ⟨rfl, hC⟩)
      · exact absurd c_19 (by decide)
  · have hnS := okS_no h5.2.2.2.1 hno
    refine lv_astoreN (lv' := [(4, .null), (0, .ref (ad 0)), (1, .int s0), (2, .int b), (3, .int x)]) hx hb dX7_wind_8 hl (by decide) rfl (fun ls hl => ?_)
    refine lv_aloadN hx hb dX7_wind_10 (lv_at hl 0 rfl) ?_
    refine lv_ifnullN (tgt := 31) hx hb dX7_wind_12 (by decide) ?_
    refine lv_iconst (v := (-1 : Int32)) hx hb dX7_wind_31 (by decide) ?_
    exact k_iret hx hb hr hlk I dX7_wind_32 (by rw [sWind_bad (by first | exact fun q => hnS q.1 | exact fun q => g1 q.2.1 | exact fun q => g2 q.2.2)]; exact ⟨rfl, hC⟩)
set_option maxHeartbeats 4000000 in
set_option maxRecDepth 100000 in
theorem c_X7_apart (cy : Nat → ClassId) (D : va_G) (ad : Nat → Nat) (l : Launch) (σ : Nat → Nat → Int32) (s0 t0 b : Int32) (N : Nat → Nat) (P : Nat → Nat → Nat) (np : Nat) (T : Nat → Nat) (nt : Nat) (hC : rC σ (N, P, np, T, nt)) : kMi 38 ad (kcC cy ad) cy D l yX7_apart wsX7_apart ({ frames := 5, cells := 0, slots := 0, locals := 114 }) [.ref (ad 0), .int s0, .int t0, .int b] σ (fun r σ' => r = (sApart s0 t0 b (N, P, np, T, nt)).1 ∧ rC σ' (sApart s0 t0 b (N, P, np, T, nt)).2) := by
  obtain ⟨hB, hN, hPa, hT⟩ := id hC
  have h5 := hN.1
  refine k_entry (cc := cX7_apart) (maxL := 6) (ret := (some .int)) (by decide) rfl (Nat.le_of_ble_eq_true rfl) ?_
  intro p e s m below meth c hx hb hr hml hown hts hlk E I ls hl
  have hA : ∀ q, s.heap.size ≤ q → kA 38 ad s.heap.size q := fun q h => Or.inr h
  have hown : s.vm.findClass RX7 = some m.cls := hown
  have hl : lv_has ls 6 [(0, .ref (ad 0)), (1, .int s0), (2, .int t0), (3, .int b)] := hl
  have iX0 : ∀ w ∈ u_ws RX0 TX0 3, w ∈ wsX7_apart := fun w h => List.mem_cons_of_mem _ (List.mem_append_left _ (List.mem_append_left _ (List.mem_append_right _ h)))
  have iX6 : ∀ w ∈ u_ws RX6 TX6 10, w ∈ wsX7_apart := fun w h => List.mem_cons_of_mem _ (List.mem_append_left _ (List.mem_append_left _ (List.mem_append_left _ (List.mem_append_right _ h))))
  have iX7 : ∀ w ∈ u_ws RX7 TX7 4, w ∈ wsX7_apart := fun w h => List.mem_cons_of_mem _ (List.mem_append_left _ (List.mem_append_left _ (List.mem_append_left _ (List.mem_append_left _ (List.mem_append_right _ h)))))
  refine lv_aload_n hx hb dX7_apart_0 rfl (lv_at hl 0 rfl) ?_
  refine k_get (C := RX7) (T := TX7) (N := 4) (v := .ref (ad 11)) hx hb hts hown E I iX7 (0) (by decide) (r0 := σ 0) rfl kc_0 rfl 2 (by decide) (List.mem_of_getElem? (i := 1) rfl) rfl dX7_apart_1 ?_
  refine lv_iload_n hx hb dX7_apart_4 rfl (lv_at hl 1 rfl) ?_
  refine k_callq (k := 11) (As := [.int s0]) (rest := []) ⟨hx, hb, hml, hown, hts⟩ (c_X1_shipAt cy D ad l σ (s0) (N 1) (by omega) hB.1.2.1) (cwV 1 hts gX7_apart_X1_shipAt rfl rfl rfl (by decide +kernel) ⟨Nat.le_of_ble_eq_true rfl, Nat.le_of_ble_eq_true rfl⟩) E hA I (k_recv E I (by decide) kc_11 rfl) rfl hl.1 rfl (lv_room (Nat.le_of_ble_eq_true rfl)) dX7_apart_5 ⟨Nat.le_of_ble_eq_true rfl, Nat.le_of_ble_eq_true rfl⟩ (fun r_5 σ_5 H locs hp_5 I => ?_)
  obtain ⟨rfl, hk_⟩ := hp_5
  rcases hk_ with ⟨i, hi, rfl, rfl⟩ | ⟨hno, rfl⟩
  · have H_i : i < 5 := by omega
    have hsh := hN.2.2 i hi
    unfold nSh at hsh
    have hoS := okS_nI hi h5.2.2.2.1
    have hcl : (nI i).toNatClampNeg = i := nI_clamp (by omega)
    refine lv_astore (lv' := [(4, .ref (ad (15 + 3 * i))), (0, .ref (ad 0)), (1, .int (nI i)), (2, .int t0), (3, .int b)]) hx hb dX7_apart_8 hl (by decide) rfl (fun ls hl => ?_)
    refine lv_aload_n hx hb dX7_apart_10 rfl (lv_at hl 1 rfl) ?_
    refine k_get (C := RX7) (T := TX7) (N := 4) (v := .ref (ad 11)) hx hb hts hown E I iX7 (0) (by decide) (r0 := σ 0) rfl kc_0 rfl 2 (by decide) (List.mem_of_getElem? (i := 1) rfl) rfl dX7_apart_11 ?_
    refine lv_iload_n hx hb dX7_apart_14 rfl (lv_at hl 3 rfl) ?_
    refine k_callq (k := 11) (As := [.int t0]) (rest := []) ⟨hx, hb, hml, hown, hts⟩ (c_X1_shipAt cy D ad l σ (t0) (N 1) (by omega) hB.1.2.1) (cwV 1 hts gX7_apart_X1_shipAt rfl rfl rfl (by decide +kernel) ⟨Nat.le_of_ble_eq_true rfl, Nat.le_of_ble_eq_true rfl⟩) E hA I (k_recv E I (by decide) kc_11 rfl) rfl hl.1 rfl (lv_room (Nat.le_of_ble_eq_true rfl)) dX7_apart_15 ⟨Nat.le_of_ble_eq_true rfl, Nat.le_of_ble_eq_true rfl⟩ (fun r_15 σ_15 H locs hp_15 I => ?_)
    obtain ⟨rfl, hk_⟩ := hp_15
    rcases hk_ with ⟨t, ht, rfl, rfl⟩ | ⟨hno2, rfl⟩
    · have H_t : t < 5 := by omega
      have hst := hN.2.2 t ht
      unfold nSh at hst
      have hoT := okS_nI ht h5.2.2.2.1
      have hct : (nI t).toNatClampNeg = t := nI_clamp (by omega)
      refine lv_astore (lv' := [(5, .ref (ad (15 + 3 * t))), (4, .ref (ad (15 + 3 * i))), (0, .ref (ad 0)), (1, .int (nI i)), (2, .int (nI t)), (3, .int b)]) hx hb dX7_apart_18 hl (by decide) rfl (fun ls hl => ?_)
      refine lv_aload hx hb dX7_apart_20 (lv_at hl 1 rfl) ?_
      refine lv_ifnull hx hb dX7_apart_22 ?_
      refine lv_aload hx hb dX7_apart_25 (lv_at hl 0 rfl) ?_
      refine lv_ifnull hx hb dX7_apart_27 ?_
      refine lv_iload_n hx hb dX7_apart_30 rfl (lv_at hl 3 rfl) ?_
      refine lv_iload_n hx hb dX7_apart_31 rfl (lv_at hl 4 rfl) ?_
      refine lv_icmp_eq (tgt := 42) hx hb dX7_apart_32 (by decide) (fun c_32 => ?_) (fun c_32 => ?_)
      · have c_32 : i = t := (nI_eq (by omega) (by omega)).mp c_32
        refine lv_iconst (v := (-1 : Int32)) hx hb dX7_apart_42 (by decide) ?_
        exact k_iret hx hb hr hlk I dX7_apart_43 (by rw [sApart_bad (by first | exact fun q => hnS q.1 | exact fun q => hnT q.2.1 | exact fun q => q.2.2.1 (congrArg nI c_32) | exact fun q => g1 q.2.2.2)]; exact ⟨rfl, hC⟩)
      · have c_32 : ¬ (i = t) := fun q_ => c_32 ((nI_eq (by omega) (by omega)).mpr q_)
        refine lv_iload_n hx hb dX7_apart_35 rfl (lv_at hl 5 rfl) ?_
        refine k_calls (As := [.int b]) (rest := []) ⟨hx, hb, hml, hown, hts⟩ (c_X7_isWind l (b)) (va_cwS 1 hts gX7_apart_X7_isWind rfl rfl rfl (by decide +kernel) ⟨Nat.le_of_ble_eq_true rfl, Nat.le_of_ble_eq_true rfl⟩) rfl hl.1 rfl (lv_room (Nat.le_of_ble_eq_true rfl)) dX7_apart_36 ⟨Nat.le_of_ble_eq_true rfl, Nat.le_of_ble_eq_true rfl⟩ (fun r_36 hp_36 => ?_)
        rcases hp_36 with ⟨rfl, g1⟩ | ⟨rfl, g1⟩
        · obtain ⟨bb, b1, b2, rfl⟩ := kT_in (by decide) (by decide) g1
          refine lv_if_ne (tgt := 44) hx hb dX7_apart_39 (by decide) (fun c_39 => ?_) (fun c_39 => ?_)
          · refine lv_aload_n hx hb dX7_apart_44 rfl (lv_at hl 2 rfl) ?_
            refine k_get (C := RX7) (T := TX7) (N := 4) (v := .ref (ad 11)) hx hb hts hown E I iX7 (0) (by decide) (r0 := σ 0) rfl kc_0 rfl 2 (by decide) (List.mem_of_getElem? (i := 1) rfl) rfl dX7_apart_45 ?_
            refine lv_aload hx hb dX7_apart_48 (lv_at hl 1 rfl) ?_
            refine lv_aload hx hb dX7_apart_50 (lv_at hl 1 rfl) ?_
            refine k_get (C := RX6) (T := TX6) (N := 10) (v := .ref (ad (16 + 3 * i))) hx hb hts hown E I iX6 (15 + 3 * i) (by omega) (r0 := σ (15 + 3 * i)) rfl (kc_S H_i) rfl 0 (by decide) (List.mem_of_getElem? (i := 2) rfl) rfl dX7_apart_52 ?_
            refine k_get (C := RX0) (T := TX0) (N := 3) (v := .int (nI (N (23 + 13 * i + 2)))) hx hb hts hown E I iX0 (16 + 3 * i) (by omega) (r0 := σ (16 + 3 * i)) rfl (kc_F H_i) rfl 2 (by decide) (List.mem_of_getElem? (i := 3) rfl) (congrArg (fun z => some (Value.int z)) (rB_f hB hi 2 (by decide))) dX7_apart_55 ?_
            refine lv_iload_n hx hb dX7_apart_58 rfl (lv_at hl 5 rfl) ?_
            refine k_callv (k := 11) (As := [.ref (ad (15 + 3 * i)), .int (nI (N (23 + 13 * i + 2))), .int (nI bb)]) (rest := []) ⟨hx, hb, hml, hown, hts⟩ (c_X1_measureSwing cy D ad l σ N hN i hi hB (N (23 + 13 * i + 2)) bb hsh.1.2.2.2 b2) (cwV 3 hts gX7_apart_X1_measureSwing rfl rfl rfl (by decide +kernel) ⟨Nat.le_of_ble_eq_true rfl, Nat.le_of_ble_eq_true rfl⟩) E hA I (k_recv E I (by decide) kc_11 rfl) rfl hl.1 rfl (lv_room (Nat.le_of_ble_eq_true rfl)) dX7_apart_59 ⟨Nat.le_of_ble_eq_true rfl, Nat.le_of_ble_eq_true rfl⟩ (fun σ_59 H locs hp_59 I => ?_)
            obtain ⟨υ, hq1, hs1⟩ := hp_59
            have hw1 := sw_set H_i hq1 hs1
            have hB1 := rBay_qc h5.2.2.2.1 hB hw1.1
            refine lv_aload_n hx hb dX7_apart_62 rfl (lv_at hl 2 rfl) ?_
            refine k_get (C := RX7) (T := TX7) (N := 4) (v := .ref (ad 11)) hx hb hts hown E I iX7 (0) (by decide) (r0 := σ_59 0) rfl kc_0 rfl 2 (by decide) (List.mem_of_getElem? (i := 1) rfl) rfl dX7_apart_63 ?_
            refine lv_aload hx hb dX7_apart_66 (lv_at hl 0 rfl) ?_
            refine lv_aload hx hb dX7_apart_68 (lv_at hl 0 rfl) ?_
            refine k_get (C := RX6) (T := TX6) (N := 10) (v := .ref (ad (16 + 3 * t))) hx hb hts hown E I iX6 (15 + 3 * t) (by omega) (r0 := σ_59 (15 + 3 * t)) rfl (kc_S H_t) rfl 0 (by decide) (List.mem_of_getElem? (i := 2) rfl) rfl dX7_apart_70 ?_
            refine k_get (C := RX0) (T := TX0) (N := 3) (v := .int (nI (N (23 + 13 * t + 2)))) hx hb hts hown E I iX0 (16 + 3 * t) (by omega) (r0 := σ_59 (16 + 3 * t)) rfl (kc_F H_t) rfl 2 (by decide) (List.mem_of_getElem? (i := 3) rfl) (congrArg (fun z => some (Value.int z)) (rB_f hB1 ht 2 (by decide))) dX7_apart_73 ?_
            refine lv_iload_n hx hb dX7_apart_76 rfl (lv_at hl 5 rfl) ?_
            refine k_callv (k := 11) (As := [.ref (ad (15 + 3 * t)), .int (nI (N (23 + 13 * t + 2))), .int (nI bb)]) (rest := []) ⟨hx, hb, hml, hown, hts⟩ (c_X1_measureSwing cy D ad l σ_59 N hN t ht hB1 (N (23 + 13 * t + 2)) bb hst.1.2.2.2 b2) (cwV 3 hts gX7_apart_X1_measureSwing rfl rfl rfl (by decide +kernel) ⟨Nat.le_of_ble_eq_true rfl, Nat.le_of_ble_eq_true rfl⟩) E hA I (k_recv E I (by decide) kc_11 rfl) rfl hl.1 rfl (lv_room (Nat.le_of_ble_eq_true rfl)) dX7_apart_77 ⟨Nat.le_of_ble_eq_true rfl, Nat.le_of_ble_eq_true rfl⟩ (fun σ_77 H locs hp_77 I => ?_)
            obtain ⟨υ2, hq2, hs2⟩ := hp_77
            have hw2 := sw_set H_t hq2 hs2
            have hB2 := rBay_qc h5.2.2.2.1 hB1 hw2.1
            refine lv_aload hx hb dX7_apart_80 (lv_at hl 1 rfl) ?_
            refine lv_aload hx hb dX7_apart_82 (lv_at hl 0 rfl) ?_
            refine k_calli (k := 15 + 3 * i) (As := [.ref (ad (15 + 3 * t))]) (rest := []) ⟨hx, hb, hml, hown, hts⟩ (c_X6_isClearOf cy D ad l σ_77 N hN i hi t ht hB2 (pS N bb i) (pS N bb t) (pSw_le hsh.2.1.2.2.2 hsh.1.2.2.2) (pSw_le hst.2.1.2.2.2 hst.1.2.2.2) ((hw2.2.2 i c_32).trans hw1.2.1) hw2.2.1) (cwV 1 hts gX7_apart_X6_isClearOf rfl rfl rfl (by decide +kernel) ⟨Nat.le_of_ble_eq_true rfl, Nat.le_of_ble_eq_true rfl⟩) E hA I (k_recv E I (by omega) (kc_S H_i) rfl) rfl hl.1 rfl (lv_room (Nat.le_of_ble_eq_true rfl)) dX7_apart_84 ⟨Nat.le_of_ble_eq_true rfl, Nat.le_of_ble_eq_true rfl⟩ (fun r_84 σ_84 H locs hp_84 I => ?_)
            obtain ⟨hk_, rfl⟩ := hp_84
            rcases hk_ with ⟨rfl, g3⟩ | ⟨rfl, g3⟩
            · refine k_calls (As := [.int (nI 1)]) (rest := []) ⟨hx, hb, hml, hown, hts⟩ (c_X7_oneIf l (nI 1) (by first | exact Or.inl rfl | exact Or.inr rfl)) (va_cwS 1 hts gX7_apart_X7_oneIf rfl rfl rfl (by decide +kernel) ⟨Nat.le_of_ble_eq_true rfl, Nat.le_of_ble_eq_true rfl⟩) rfl hl.1 rfl (lv_room (Nat.le_of_ble_eq_true rfl)) dX7_apart_87 ⟨Nat.le_of_ble_eq_true rfl, Nat.le_of_ble_eq_true rfl⟩ (fun r_87 hp_87 => ?_)
              subst hp_87
              exact k_iret hx hb hr hlk I dX7_apart_90 (by rw [sApart_ok hoS hcl hoT hct (fun q => c_32 ((nI_eq (by omega) (by omega)).mp q)) (Nat.zero_le _) b2, gApart]; exact ⟨by first | (rw [if_pos g3]) | (rw [if_neg g3]), rC_qc hC (qc_tr hw1.1 hw2.1)⟩)
            · refine k_calls (As := [.int (nI 0)]) (rest := []) ⟨hx, hb, hml, hown, hts⟩ (c_X7_oneIf l (nI 0) (by first | exact Or.inl rfl | exact Or.inr rfl)) (va_cwS 1 hts gX7_apart_X7_oneIf rfl rfl rfl (by decide +kernel) ⟨Nat.le_of_ble_eq_true rfl, Nat.le_of_ble_eq_true rfl⟩) rfl hl.1 rfl (lv_room (Nat.le_of_ble_eq_true rfl)) dX7_apart_87 ⟨Nat.le_of_ble_eq_true rfl, Nat.le_of_ble_eq_true rfl⟩ (fun r_87 hp_87 => ?_)
              subst hp_87
              exact k_iret hx hb hr hlk I dX7_apart_90 (by rw [sApart_ok hoS hcl hoT hct (fun q => c_32 ((nI_eq (by omega) (by omega)).mp q)) (Nat.zero_le _) b2, gApart]; exact ⟨by first | (rw [if_pos g3]) | (rw [if_neg g3]), rC_qc hC (qc_tr hw1.1 hw2.1)⟩)
          · exact absurd c_39 (by decide)
        · refine lv_if_ne (tgt := 44) hx hb dX7_apart_39 (by decide) (fun c_39 => ?_) (fun c_39 => ?_)
          · exact absurd c_39 (by decide)
          · refine lv_iconst (v := (-1 : Int32)) hx hb dX7_apart_42 (by decide) ?_
            exact k_iret hx hb hr hlk I dX7_apart_43 (by rw [sApart_bad (by first | exact fun q => hnS q.1 | exact fun q => hnT q.2.1 | exact fun q => q.2.2.1 (congrArg nI c_32) | exact fun q => g1 q.2.2.2)]; exact ⟨rfl, hC⟩)
    · have hnT := okS_no h5.2.2.2.1 hno2
      refine lv_astoreN (lv' := [(5, .null), (4, .ref (ad (15 + 3 * i))), (0, .ref (ad 0)), (1, .int (nI i)), (2, .int t0), (3, .int b)]) hx hb dX7_apart_18 hl (by decide) rfl (fun ls hl => ?_)
      refine lv_aload hx hb dX7_apart_20 (lv_at hl 1 rfl) ?_
      refine lv_ifnull hx hb dX7_apart_22 ?_
      refine lv_aloadN hx hb dX7_apart_25 (lv_at hl 0 rfl) ?_
      refine lv_ifnullN (tgt := 42) hx hb dX7_apart_27 (by decide) ?_
      refine lv_iconst (v := (-1 : Int32)) hx hb dX7_apart_42 (by decide) ?_
      exact k_iret hx hb hr hlk I dX7_apart_43 (by rw [sApart_bad (by first | exact fun q => hnS q.1 | exact fun q => hnT q.2.1 | exact fun q => q.2.2.1 (congrArg nI c_32) | exact fun q => g1 q.2.2.2)]; exact ⟨rfl, hC⟩)
  · have hnS := okS_no h5.2.2.2.1 hno
    refine lv_astoreN (lv' := [(4, .null), (0, .ref (ad 0)), (1, .int s0), (2, .int t0), (3, .int b)]) hx hb dX7_apart_8 hl (by decide) rfl (fun ls hl => ?_)
    refine lv_aload_n hx hb dX7_apart_10 rfl (lv_at hl 1 rfl) ?_
    refine k_get (C := RX7) (T := TX7) (N := 4) (v := .ref (ad 11)) hx hb hts hown E I iX7 (0) (by decide) (r0 := σ 0) rfl kc_0 rfl 2 (by decide) (List.mem_of_getElem? (i := 1) rfl) rfl dX7_apart_11 ?_
    refine lv_iload_n hx hb dX7_apart_14 rfl (lv_at hl 3 rfl) ?_
    refine k_callq (k := 11) (As := [.int t0]) (rest := []) ⟨hx, hb, hml, hown, hts⟩ (c_X1_shipAt cy D ad l σ (t0) (N 1) (by omega) hB.1.2.1) (cwV 1 hts gX7_apart_X1_shipAt rfl rfl rfl (by decide +kernel) ⟨Nat.le_of_ble_eq_true rfl, Nat.le_of_ble_eq_true rfl⟩) E hA I (k_recv E I (by decide) kc_11 rfl) rfl hl.1 rfl (lv_room (Nat.le_of_ble_eq_true rfl)) dX7_apart_15 ⟨Nat.le_of_ble_eq_true rfl, Nat.le_of_ble_eq_true rfl⟩ (fun r_15 σ_15 H locs hp_15 I => ?_)
    obtain ⟨rfl, hk_⟩ := hp_15
    rcases hk_ with ⟨t, ht, rfl, rfl⟩ | ⟨hno2, rfl⟩
    · have H_t : t < 5 := by omega
      have hst := hN.2.2 t ht
      unfold nSh at hst
      have hoT := okS_nI ht h5.2.2.2.1
      have hct : (nI t).toNatClampNeg = t := nI_clamp (by omega)
      refine lv_astore (lv' := [(5, .ref (ad (15 + 3 * t))), (4, .null), (0, .ref (ad 0)), (1, .int s0), (2, .int (nI t)), (3, .int b)]) hx hb dX7_apart_18 hl (by decide) rfl (fun ls hl => ?_)
      refine lv_aloadN hx hb dX7_apart_20 (lv_at hl 1 rfl) ?_
      refine lv_ifnullN (tgt := 42) hx hb dX7_apart_22 (by decide) ?_
      refine lv_iconst (v := (-1 : Int32)) hx hb dX7_apart_42 (by decide) ?_
      exact k_iret hx hb hr hlk I dX7_apart_43 (by rw [sApart_bad (by first | exact fun q => hnS q.1 | exact fun q => hnT q.2.1 | exact fun q => q.2.2.1 (congrArg nI c_32) | exact fun q => g1 q.2.2.2)]; exact ⟨rfl, hC⟩)
    · have hnT := okS_no h5.2.2.2.1 hno2
      refine lv_astoreN (lv' := [(5, .null), (4, .null), (0, .ref (ad 0)), (1, .int s0), (2, .int t0), (3, .int b)]) hx hb dX7_apart_18 hl (by decide) rfl (fun ls hl => ?_)
      refine lv_aloadN hx hb dX7_apart_20 (lv_at hl 1 rfl) ?_
      refine lv_ifnullN (tgt := 42) hx hb dX7_apart_22 (by decide) ?_
      refine lv_iconst (v := (-1 : Int32)) hx hb dX7_apart_42 (by decide) ?_
      exact k_iret hx hb hr hlk I dX7_apart_43 (by rw [sApart_bad (by first | exact fun q => hnS q.1 | exact fun q => hnT q.2.1 | exact fun q => q.2.2.1 (congrArg nI c_32) | exact fun q => g1 q.2.2.2)]; exact ⟨rfl, hC⟩)
set_option maxHeartbeats 4000000 in
set_option maxRecDepth 100000 in
theorem c_X7_fewest (cy : Nat → ClassId) (D : va_G) (ad : Nat → Nat) (l : Launch) (σ : Nat → Nat → Int32) (s0 b : Int32) (N : Nat → Nat) (P : Nat → Nat → Nat) (np : Nat) (T : Nat → Nat) (nt : Nat) (hC : rC σ (N, P, np, T, nt)) : kMi 38 ad (kcC cy ad) cy D l yX7_fewest wsX7_fewest ({ frames := 5, cells := 0, slots := 0, locals := 117 }) [.ref (ad 0), .int s0, .int b] σ (fun r σ' => r = (sFewest s0 b (N, P, np, T, nt)).1 ∧ rC σ' (sFewest s0 b (N, P, np, T, nt)).2) := by
  obtain ⟨hB, hN, hPa, hT⟩ := id hC
  have h5 := hN.1
  refine k_entry (cc := cX7_fewest) (maxL := 5) (ret := (some .int)) (by decide) rfl (Nat.le_of_ble_eq_true rfl) ?_
  intro p e s m below meth c hx hb hr hml hown hts hlk E I ls hl
  have hA : ∀ q, s.heap.size ≤ q → kA 38 ad s.heap.size q := fun q h => Or.inr h
  have hown : s.vm.findClass RX7 = some m.cls := hown
  have hl : lv_has ls 5 [(0, .ref (ad 0)), (1, .int s0), (2, .int b)] := hl
  generalize hQdef : MQ below (va_Qi (fun r σ' => r = (sFewest s0 b (N, P, np, T, nt)).1 ∧ rC σ' (sFewest s0 b (N, P, np, T, nt)).2) (kB 38 ad (kcC cy ad) D) (kA 38 ad s.heap.size)) [.ref (ad 0), .int s0, .int b].toArray s 0 0 (kA 38 ad s.heap.size) = Q
  have iX6 : ∀ w ∈ u_ws RX6 TX6 10, w ∈ wsX7_fewest := fun w h => List.mem_cons_of_mem _ (List.mem_append_left _ (List.mem_append_left _ (List.mem_append_left _ (List.mem_append_right _ h))))
  have iX7 : ∀ w ∈ u_ws RX7 TX7 4, w ∈ wsX7_fewest := fun w h => List.mem_cons_of_mem _ (List.mem_append_left _ (List.mem_append_left _ (List.mem_append_left _ (List.mem_append_left _ (List.mem_append_right _ h)))))
  refine lv_aload_n hx hb dX7_fewest_0 rfl (lv_at hl 0 rfl) ?_
  refine k_get (C := RX7) (T := TX7) (N := 4) (v := .ref (ad 11)) hx hb hts hown E I iX7 (0) (by decide) (r0 := σ 0) rfl kc_0 rfl 2 (by decide) (List.mem_of_getElem? (i := 1) rfl) rfl dX7_fewest_1 ?_
  refine lv_iload_n hx hb dX7_fewest_4 rfl (lv_at hl 1 rfl) ?_
  refine k_callq (k := 11) (As := [.int s0]) (rest := []) ⟨hx, hb, hml, hown, hts⟩ (c_X1_shipAt cy D ad l σ (s0) (N 1) (by omega) hB.1.2.1) (cwV 1 hts gX7_fewest_X1_shipAt rfl rfl rfl (by decide +kernel) ⟨Nat.le_of_ble_eq_true rfl, Nat.le_of_ble_eq_true rfl⟩) E hA I (k_recv E I (by decide) kc_11 rfl) rfl hl.1 rfl (lv_room (Nat.le_of_ble_eq_true rfl)) dX7_fewest_5 ⟨Nat.le_of_ble_eq_true rfl, Nat.le_of_ble_eq_true rfl⟩ (fun r_5 σ_5 H locs hp_5 I => ?_)
  obtain ⟨rfl, hk_⟩ := hp_5
  rcases hk_ with ⟨i, hi, rfl, rfl⟩ | ⟨hno, rfl⟩
  · have H_i : i < 5 := by omega
    have hsh := hN.2.2 i hi
    unfold nSh at hsh
    have hoS := okS_nI hi h5.2.2.2.1
    have hcl : (nI i).toNatClampNeg = i := nI_clamp (by omega)
    refine lv_astore_n (lv' := [(3, .ref (ad (15 + 3 * i))), (0, .ref (ad 0)), (1, .int (nI i)), (2, .int b)]) hx hb dX7_fewest_8 rfl hl (by decide) rfl (fun ls hl => ?_)
    refine lv_aload_n hx hb dX7_fewest_9 rfl (lv_at hl 0 rfl) ?_
    refine lv_ifnull hx hb dX7_fewest_10 ?_
    refine lv_iload_n hx hb dX7_fewest_13 rfl (lv_at hl 3 rfl) ?_
    refine k_calls (As := [.int b]) (rest := []) ⟨hx, hb, hml, hown, hts⟩ (c_X7_isWind l (b)) (va_cwS 1 hts gX7_fewest_X7_isWind rfl rfl rfl (by decide +kernel) ⟨Nat.le_of_ble_eq_true rfl, Nat.le_of_ble_eq_true rfl⟩) rfl hl.1 rfl (lv_room (Nat.le_of_ble_eq_true rfl)) dX7_fewest_14 ⟨Nat.le_of_ble_eq_true rfl, Nat.le_of_ble_eq_true rfl⟩ (fun r_14 hp_14 => ?_)
    rcases hp_14 with ⟨rfl, g1⟩ | ⟨rfl, g1⟩
    · obtain ⟨bb, b1, b2, rfl⟩ := kT_in (by decide) (by decide) g1
      refine lv_if_ne (tgt := 22) hx hb dX7_fewest_17 (by decide) (fun c_17 => ?_) (fun c_17 => ?_)
      · refine lv_aload_n hx hb dX7_fewest_22 rfl (lv_at hl 0 rfl) ?_
        refine k_get (C := RX6) (T := TX6) (N := 10) (v := .int (nI (N (23 + 13 * i + 7)))) hx hb hts hown E I iX6 (15 + 3 * i) (by omega) (r0 := σ (15 + 3 * i)) rfl (kc_S H_i) rfl 3 (by decide) (List.mem_of_getElem? (i := 2) rfl) (congrArg (fun z => some (Value.int z)) (rB_f hB hi 7 (by decide))) dX7_fewest_23 ?_
        refine lv_if_eq (tgt := 32) hx hb dX7_fewest_26 (by decide) (fun c_26 => ?_) (fun c_26 => ?_)
        · have c_26 : (N (23 + 13 * i + 7)) = 0 := (nI_eq (by omega) (by decide)).mp c_26
          refine lv_iconst (v := nI 1) hx hb dX7_fewest_32 (by decide) ?_
          refine lv_istore (lv' := [(4, .int (nI 1)), (3, .ref (ad (15 + 3 * i))), (0, .ref (ad 0)), (1, .int (nI i)), (2, .int (nI bb))]) hx hb dX7_fewest_33 hl (by decide) rfl (fun ls hl => ?_)
          have LP_35 : ∀ (fuel_35 : Nat) (n : Nat) (τ : Nat → Nat → Int32), 61 - n < fuel_35 → (1 ≤ n) → (n ≤ 61) → (q14 σ τ) → (∀ j, j < n - 1 → pHo N i (j + 1) bb = false) → ∀ (H : Heap) (locs : List Loc), kI 38 ad (kcC cy ad) D (kA 38 ad s.heap.size) s.heap τ H locs → ∀ ls : Array Slot, lv_has ls 5 [(0, .ref (ad 0)), (1, .int (nI i)), (2, .int (nI bb)), (3, .ref (ad (15 + 3 * i))), (4, .int (nI n))] → W p l e (headSpec wsX7_fewest ({ frames := 5, cells := 0, slots := 0, locals := 117 })).room s m [.ref (ad 0), .int (nI i), .int (nI bb)].toArray below meth c H locs 0 0 Q (F0 m 35 ls []) := by
            intro fuel_35
            induction fuel_35 with
            | zero => intro n τ hf_35; exact absurd hf_35 (Nat.not_lt_zero _)
            | succ fuel_35 ih_35 =>
              intro n τ hf_35 hn1 hn61 hQ hno H locs I ls hl
              have hBt := rBay_qc h5.2.2.2.1 hB (q14_qc hQ)
              refine lv_iload hx hb dX7_fewest_35 (lv_at hl 4 rfl) ?_
              refine lv_bipush (v := nI 60) hx hb dX7_fewest_37 (by decide) ?_
              refine lv_icmp_gt (tgt := 65) hx hb dX7_fewest_39 (by decide) (fun c_39 => ?_) (fun c_39 => ?_)
              · have c_39 : 60 < n := (nI_ltI (by omega) (by omega)).mp c_39
                refine lv_bipush (v := (-4 : Int32)) hx hb dX7_fewest_65 (by decide) ?_
                subst hQdef
                exact k_iret hx hb hr hlk I dX7_fewest_67 (by rw [sFewest_ok hoS hcl (Nat.zero_le _) b2, gFewest, if_neg (by omega), ff_eq (k := 60) (by omega) (fun j hj => hno j (by omega)) (fun z => absurd z (by omega)), if_neg (by omega)]; exact ⟨rfl, rC_qc hC (q14_qc hQ)⟩)
              · have c_39 : ¬ (60 < n) := fun q_ => c_39 ((nI_ltI (by omega) (by omega)).mpr q_)
                refine lv_aload_n hx hb dX7_fewest_42 rfl (lv_at hl 0 rfl) ?_
                refine k_get (C := RX7) (T := TX7) (N := 4) (v := .ref (ad 11)) hx hb hts hown E I iX7 (0) (by decide) (r0 := τ 0) rfl kc_0 rfl 2 (by decide) (List.mem_of_getElem? (i := 1) rfl) rfl dX7_fewest_43 ?_
                refine lv_aload_n hx hb dX7_fewest_46 rfl (lv_at hl 3 rfl) ?_
                refine lv_iload hx hb dX7_fewest_47 (lv_at hl 4 rfl) ?_
                refine lv_iload_n hx hb dX7_fewest_49 rfl (lv_at hl 2 rfl) ?_
                refine k_calli (k := 11) (As := [.ref (ad (15 + 3 * i)), .int (nI n), .int (nI bb)]) (rest := []) ⟨hx, hb, hml, hown, hts⟩ (c_X1_holdsBy cy D ad l τ N hN i hi hBt n bb (by omega) b2) (cwV 3 hts gX7_fewest_X1_holdsBy rfl rfl rfl (by decide +kernel) ⟨Nat.le_of_ble_eq_true rfl, Nat.le_of_ble_eq_true rfl⟩) E hA I (k_recv E I (by decide) kc_11 rfl) rfl hl.1 rfl (lv_room (Nat.le_of_ble_eq_true rfl)) dX7_fewest_50 ⟨Nat.le_of_ble_eq_true rfl, Nat.le_of_ble_eq_true rfl⟩ (fun r_50 σ_50 H locs hp_50 I => ?_)
                obtain ⟨hk_, hq_⟩ := hp_50
                have hQ2 := q14_tr hQ hq_
                rcases hk_ with ⟨rfl, g3⟩ | ⟨rfl, g3⟩
                · refine lv_if_eq (tgt := 59) hx hb dX7_fewest_53 (by decide) (fun c_53 => ?_) (fun c_53 => ?_)
                  · exact absurd c_53 (by decide)
                  · refine lv_iload hx hb dX7_fewest_56 (lv_at hl 4 rfl) ?_
                    subst hQdef
                    exact k_iret hx hb hr hlk I dX7_fewest_58 (by rw [sFewest_ok hoS hcl (Nat.zero_le _) b2, gFewest, if_neg (by omega), ff_eq (k := n - 1) (by omega) hno (fun _ => by rw [show n - 1 + 1 = n by omega]; exact g3), if_pos (by omega)]; exact ⟨congrArg nI (by omega), rC_qc hC (q14_qc hQ2)⟩)
                · refine lv_if_eq (tgt := 59) hx hb dX7_fewest_53 (by decide) (fun c_53 => ?_) (fun c_53 => ?_)
                  · refine lv_iinc (v := nI (n + 1)) (lv' := [(4, .int (nI (n + 1))), (0, .ref (ad 0)), (1, .int (nI i)), (2, .int (nI bb)), (3, .ref (ad (15 + 3 * i)))]) hx hb dX7_fewest_59 hl (k := 4) rfl (show nI n + Int32.ofInt 1 = nI (n + 1) from nI_add n 1) (by decide) rfl (fun ls hl => ?_)
                    refine lv_goto (tgt := 35) hx hb dX7_fewest_62 (by decide) ?_
                    exact ih_35 (n + 1) σ_50 (by omega) (by omega) (by omega) (hQ2) (fun j hj => by by_cases e_ : j = n - 1; (rw [e_, show n - 1 + 1 = n by omega]; simpa using g3); exact hno j (by omega)) _ _ I _ (lv_sub hl [1, 2, 3, 4, 0] rfl)
                  · exact absurd c_53 (by decide)
          exact LP_35 _ 1 σ (Nat.lt_succ_self _) (Nat.le_refl _) (by decide) (q14_rf σ) (fun j hj => absurd hj (Nat.not_lt_zero j)) _ _ I _ (lv_sub hl [2, 3, 4, 1, 0] rfl)
        · have c_26 : ¬ ((N (23 + 13 * i + 7)) = 0) := fun q_ => c_26 ((nI_eq (by omega) (by decide)).mpr q_)
          refine lv_bipush (v := (-2 : Int32)) hx hb dX7_fewest_29 (by decide) ?_
          subst hQdef
          exact k_iret hx hb hr hlk I dX7_fewest_31 (by rw [sFewest_ok hoS hcl (Nat.zero_le _) b2, gFewest, if_pos (by omega)]; exact ⟨rfl, hC⟩)
      · exact absurd c_17 (by decide)
    · refine lv_if_ne (tgt := 22) hx hb dX7_fewest_17 (by decide) (fun c_17 => ?_) (fun c_17 => ?_)
      · exact absurd c_17 (by decide)
      · refine lv_iconst (v := (-1 : Int32)) hx hb dX7_fewest_20 (by decide) ?_
        subst hQdef
        exact k_iret hx hb hr hlk I dX7_fewest_21 (by rw [sFewest_bad (by first | exact fun q => hnS q.1 | exact fun q => g1 q.2)]; exact ⟨rfl, hC⟩)
  · have hnS := okS_no h5.2.2.2.1 hno
    refine lv_astore_nN (lv' := [(3, .null), (0, .ref (ad 0)), (1, .int s0), (2, .int b)]) hx hb dX7_fewest_8 rfl hl (by decide) rfl (fun ls hl => ?_)
    refine lv_aload_nN hx hb dX7_fewest_9 rfl (lv_at hl 0 rfl) ?_
    refine lv_ifnullN (tgt := 20) hx hb dX7_fewest_10 (by decide) ?_
    refine lv_iconst (v := (-1 : Int32)) hx hb dX7_fewest_20 (by decide) ?_
    subst hQdef
    exact k_iret hx hb hr hlk I dX7_fewest_21 (by rw [sFewest_bad (by first | exact fun q => hnS q.1 | exact fun q => g1 q.2)]; exact ⟨rfl, hC⟩)
set_option maxHeartbeats 4000000 in
set_option maxRecDepth 100000 in
theorem c_X7_tooMuch (cy : Nat → ClassId) (D : va_G) (ad : Nat → Nat) (l : Launch) (σ : Nat → Nat → Int32) (s0 : Int32) (N : Nat → Nat) (P : Nat → Nat → Nat) (np : Nat) (T : Nat → Nat) (nt : Nat) (hC : rC σ (N, P, np, T, nt)) : kMi 38 ad (kcC cy ad) cy D l yX7_tooMuch wsX7_tooMuch ({ frames := 5, cells := 0, slots := 0, locals := 117 }) [.ref (ad 0), .int s0] σ (fun r σ' => r = (sTooMuch s0 (N, P, np, T, nt)).1 ∧ rC σ' (sTooMuch s0 (N, P, np, T, nt)).2) := by
  obtain ⟨hB, hN, hPa, hT⟩ := id hC
  have h5 := hN.1
  refine k_entry (cc := cX7_tooMuch) (maxL := 4) (ret := (some .int)) (by decide) rfl (Nat.le_of_ble_eq_true rfl) ?_
  intro p e s m below meth c hx hb hr hml hown hts hlk E I ls hl
  have hA : ∀ q, s.heap.size ≤ q → kA 38 ad s.heap.size q := fun q h => Or.inr h
  have hown : s.vm.findClass RX7 = some m.cls := hown
  have hl : lv_has ls 4 [(0, .ref (ad 0)), (1, .int s0)] := hl
  generalize hQdef : MQ below (va_Qi (fun r σ' => r = (sTooMuch s0 (N, P, np, T, nt)).1 ∧ rC σ' (sTooMuch s0 (N, P, np, T, nt)).2) (kB 38 ad (kcC cy ad) D) (kA 38 ad s.heap.size)) [.ref (ad 0), .int s0].toArray s 0 0 (kA 38 ad s.heap.size) = Q
  have iX0 : ∀ w ∈ u_ws RX0 TX0 3, w ∈ wsX7_tooMuch := fun w h => List.mem_cons_of_mem _ (List.mem_append_left _ (List.mem_append_left _ (List.mem_append_right _ h)))
  have iX6 : ∀ w ∈ u_ws RX6 TX6 10, w ∈ wsX7_tooMuch := fun w h => List.mem_cons_of_mem _ (List.mem_append_left _ (List.mem_append_left _ (List.mem_append_left _ (List.mem_append_right _ h))))
  have iX7 : ∀ w ∈ u_ws RX7 TX7 4, w ∈ wsX7_tooMuch := fun w h => List.mem_cons_of_mem _ (List.mem_append_left _ (List.mem_append_left _ (List.mem_append_left _ (List.mem_append_left _ (List.mem_append_right _ h)))))
  refine lv_aload_n hx hb dX7_tooMuch_0 rfl (lv_at hl 0 rfl) ?_
  refine k_get (C := RX7) (T := TX7) (N := 4) (v := .ref (ad 11)) hx hb hts hown E I iX7 (0) (by decide) (r0 := σ 0) rfl kc_0 rfl 2 (by decide) (List.mem_of_getElem? (i := 1) rfl) rfl dX7_tooMuch_1 ?_
  refine lv_iload_n hx hb dX7_tooMuch_4 rfl (lv_at hl 1 rfl) ?_
  refine k_callq (k := 11) (As := [.int s0]) (rest := []) ⟨hx, hb, hml, hown, hts⟩ (c_X1_shipAt cy D ad l σ (s0) (N 1) (by omega) hB.1.2.1) (cwV 1 hts gX7_tooMuch_X1_shipAt rfl rfl rfl (by decide +kernel) ⟨Nat.le_of_ble_eq_true rfl, Nat.le_of_ble_eq_true rfl⟩) E hA I (k_recv E I (by decide) kc_11 rfl) rfl hl.1 rfl (lv_room (Nat.le_of_ble_eq_true rfl)) dX7_tooMuch_5 ⟨Nat.le_of_ble_eq_true rfl, Nat.le_of_ble_eq_true rfl⟩ (fun r_5 σ_5 H locs hp_5 I => ?_)
  obtain ⟨rfl, hk_⟩ := hp_5
  rcases hk_ with ⟨i, hi, rfl, rfl⟩ | ⟨hno, rfl⟩
  · have H_i : i < 5 := by omega
    have hsh := hN.2.2 i hi
    unfold nSh at hsh
    have hoS := okS_nI hi h5.2.2.2.1
    have hcl : (nI i).toNatClampNeg = i := nI_clamp (by omega)
    refine lv_astore_n (lv' := [(2, .ref (ad (15 + 3 * i))), (0, .ref (ad 0)), (1, .int (nI i))]) hx hb dX7_tooMuch_8 rfl hl (by decide) rfl (fun ls hl => ?_)
    refine lv_aload_n hx hb dX7_tooMuch_9 rfl (lv_at hl 0 rfl) ?_
    refine lv_ifnonnull (tgt := 15) hx hb dX7_tooMuch_10 (by decide) ?_
    refine lv_aload_n hx hb dX7_tooMuch_15 rfl (lv_at hl 0 rfl) ?_
    refine k_get (C := RX6) (T := TX6) (N := 10) (v := .int (nI (N (23 + 13 * i + 7)))) hx hb hts hown E I iX6 (15 + 3 * i) (by omega) (r0 := σ (15 + 3 * i)) rfl (kc_S H_i) rfl 3 (by decide) (List.mem_of_getElem? (i := 2) rfl) (congrArg (fun z => some (Value.int z)) (rB_f hB hi 7 (by decide))) dX7_tooMuch_16 ?_
    refine lv_if_eq (tgt := 25) hx hb dX7_tooMuch_19 (by decide) (fun c_19 => ?_) (fun c_19 => ?_)
    · have c_19 : (N (23 + 13 * i + 7)) = 0 := (nI_eq (by omega) (by decide)).mp c_19
      refine lv_iconst (v := nI 0) hx hb dX7_tooMuch_25 (by decide) ?_
      refine lv_istore_n (lv' := [(3, .int (nI 0)), (2, .ref (ad (15 + 3 * i))), (0, .ref (ad 0)), (1, .int (nI i))]) hx hb dX7_tooMuch_26 rfl hl (by decide) rfl (fun ls hl => ?_)
      have LP_27 : ∀ (fuel_27 : Nat) (n : Nat) (τ : Nat → Nat → Int32), 21 - n < fuel_27 → (n ≤ 21) → (q14 σ τ) → (∀ j, j < n → (!pHo N i (N (23 + 13 * i + 2)) j) = false) → ∀ (H : Heap) (locs : List Loc), kI 38 ad (kcC cy ad) D (kA 38 ad s.heap.size) s.heap τ H locs → ∀ ls : Array Slot, lv_has ls 4 [(0, .ref (ad 0)), (1, .int (nI i)), (2, .ref (ad (15 + 3 * i))), (3, .int (nI n))] → W p l e (headSpec wsX7_tooMuch ({ frames := 5, cells := 0, slots := 0, locals := 117 })).room s m [.ref (ad 0), .int (nI i)].toArray below meth c H locs 0 0 Q (F0 m 27 ls []) := by
        intro fuel_27
        induction fuel_27 with
        | zero => intro n τ hf_27; exact absurd hf_27 (Nat.not_lt_zero _)
        | succ fuel_27 ih_27 =>
          intro n τ hf_27 hn21 hQ hno H locs I ls hl
          have hBt := rBay_qc h5.2.2.2.1 hB (q14_qc hQ)
          refine lv_iload_n hx hb dX7_tooMuch_27 rfl (lv_at hl 3 rfl) ?_
          refine lv_bipush (v := nI 20) hx hb dX7_tooMuch_28 (by decide) ?_
          refine lv_icmp_gt (tgt := 60) hx hb dX7_tooMuch_30 (by decide) (fun c_30 => ?_) (fun c_30 => ?_)
          · have c_30 : 20 < n := (nI_ltI (by omega) (by omega)).mp c_30
            refine lv_bipush (v := (-4 : Int32)) hx hb dX7_tooMuch_60 (by decide) ?_
            subst hQdef
            exact k_iret hx hb hr hlk I dX7_tooMuch_62 (by rw [sTooMuch_ok hoS hcl, gTooMuch, if_neg (by omega), ff_eq (k := 21) (by omega) (fun j hj => hno j (by omega)) (fun z => absurd z (by omega)), if_neg (by omega)]; exact ⟨rfl, rC_qc hC (q14_qc hQ)⟩)
          · have c_30 : ¬ (20 < n) := fun q_ => c_30 ((nI_ltI (by omega) (by omega)).mpr q_)
            refine lv_aload_n hx hb dX7_tooMuch_33 rfl (lv_at hl 0 rfl) ?_
            refine k_get (C := RX7) (T := TX7) (N := 4) (v := .ref (ad 11)) hx hb hts hown E I iX7 (0) (by decide) (r0 := τ 0) rfl kc_0 rfl 2 (by decide) (List.mem_of_getElem? (i := 1) rfl) rfl dX7_tooMuch_34 ?_
            refine lv_aload_n hx hb dX7_tooMuch_37 rfl (lv_at hl 2 rfl) ?_
            refine lv_aload_n hx hb dX7_tooMuch_38 rfl (lv_at hl 2 rfl) ?_
            refine k_get (C := RX6) (T := TX6) (N := 10) (v := .ref (ad (16 + 3 * i))) hx hb hts hown E I iX6 (15 + 3 * i) (by omega) (r0 := τ (15 + 3 * i)) rfl (kc_S H_i) rfl 0 (by decide) (List.mem_of_getElem? (i := 3) rfl) rfl dX7_tooMuch_39 ?_
            refine k_get (C := RX0) (T := TX0) (N := 3) (v := .int (nI (N (23 + 13 * i + 2)))) hx hb hts hown E I iX0 (16 + 3 * i) (by omega) (r0 := τ (16 + 3 * i)) rfl (kc_F H_i) rfl 2 (by decide) (List.mem_of_getElem? (i := 4) rfl) (congrArg (fun z => some (Value.int z)) (rB_f hBt hi 2 (by decide))) dX7_tooMuch_42 ?_
            refine lv_iload_n hx hb dX7_tooMuch_45 rfl (lv_at hl 3 rfl) ?_
            refine k_calli (k := 11) (As := [.ref (ad (15 + 3 * i)), .int (nI (N (23 + 13 * i + 2))), .int (nI n)]) (rest := []) ⟨hx, hb, hml, hown, hts⟩ (c_X1_holdsBy cy D ad l τ N hN i hi hBt (N (23 + 13 * i + 2)) n hsh.1.2.2.2 (by omega)) (cwV 3 hts gX7_tooMuch_X1_holdsBy rfl rfl rfl (by decide +kernel) ⟨Nat.le_of_ble_eq_true rfl, Nat.le_of_ble_eq_true rfl⟩) E hA I (k_recv E I (by decide) kc_11 rfl) rfl hl.1 rfl (lv_room (Nat.le_of_ble_eq_true rfl)) dX7_tooMuch_46 ⟨Nat.le_of_ble_eq_true rfl, Nat.le_of_ble_eq_true rfl⟩ (fun r_46 σ_46 H locs hp_46 I => ?_)
            obtain ⟨hk_, hq_⟩ := hp_46
            have hQ2 := q14_tr hQ hq_
            rcases hk_ with ⟨rfl, g3⟩ | ⟨rfl, g3⟩
            · refine lv_if_ne (tgt := 54) hx hb dX7_tooMuch_49 (by decide) (fun c_49 => ?_) (fun c_49 => ?_)
              · refine lv_iinc (v := nI (n + 1)) (lv' := [(3, .int (nI (n + 1))), (0, .ref (ad 0)), (1, .int (nI i)), (2, .ref (ad (15 + 3 * i)))]) hx hb dX7_tooMuch_54 hl (k := 3) rfl (show nI n + Int32.ofInt 1 = nI (n + 1) from nI_add n 1) (by decide) rfl (fun ls hl => ?_)
                refine lv_goto (tgt := 27) hx hb dX7_tooMuch_57 (by decide) ?_
                exact ih_27 (n + 1) σ_46 (by omega) (by omega) (hQ2) (fun j hj => by by_cases e_ : j = n; (rw [e_, g3]; rfl); exact hno j (by omega)) _ _ I _ (lv_sub hl [1, 2, 3, 0] rfl)
              · exact absurd c_49 (by decide)
            · refine lv_if_ne (tgt := 54) hx hb dX7_tooMuch_49 (by decide) (fun c_49 => ?_) (fun c_49 => ?_)
              · exact absurd c_49 (by decide)
              · refine lv_iload_n hx hb dX7_tooMuch_52 rfl (lv_at hl 3 rfl) ?_
                subst hQdef
                exact k_iret hx hb hr hlk I dX7_tooMuch_53 (by rw [sTooMuch_ok hoS hcl, gTooMuch, if_neg (by omega), ff_eq (k := n) (by omega) hno (fun _ => by simpa using g3), if_pos (by omega)]; exact ⟨rfl, rC_qc hC (q14_qc hQ2)⟩)
      exact LP_27 _ 0 σ (Nat.lt_succ_self _) (Nat.zero_le _) (q14_rf σ) (fun j hj => absurd hj (Nat.not_lt_zero j)) _ _ I _ (lv_sub hl [2, 3, 1, 0] rfl)
    · have c_19 : ¬ ((N (23 + 13 * i + 7)) = 0) := fun q_ => c_19 ((nI_eq (by omega) (by decide)).mpr q_)
      refine lv_bipush (v := (-2 : Int32)) hx hb dX7_tooMuch_22 (by decide) ?_
      subst hQdef
      exact k_iret hx hb hr hlk I dX7_tooMuch_24 (by rw [sTooMuch_ok hoS hcl, gTooMuch, if_pos (by omega)]; exact ⟨rfl, hC⟩)
  · have hnS := okS_no h5.2.2.2.1 hno
    refine lv_astore_nN (lv' := [(2, .null), (0, .ref (ad 0)), (1, .int s0)]) hx hb dX7_tooMuch_8 rfl hl (by decide) rfl (fun ls hl => ?_)
    refine lv_aload_nN hx hb dX7_tooMuch_9 rfl (lv_at hl 0 rfl) ?_
    refine lv_ifnonnullN hx hb dX7_tooMuch_10 ?_
    refine lv_iconst (v := (-1 : Int32)) hx hb dX7_tooMuch_13 (by decide) ?_
    subst hQdef
    exact k_iret hx hb hr hlk I dX7_tooMuch_14 (by rw [sTooMuch_bad (by first | exact fun q => hnS q)]; exact ⟨rfl, hC⟩)
set_option maxHeartbeats 4000000 in
set_option maxRecDepth 100000 in
theorem c_X7_close (cy : Nat → ClassId) (D : va_G) (ad : Nat → Nat) (l : Launch) (σ : Nat → Nat → Int32) (s0 b : Int32) (N : Nat → Nat) (P : Nat → Nat → Nat) (np : Nat) (T : Nat → Nat) (nt : Nat) (hC : rC σ (N, P, np, T, nt)) : kMi 38 ad (kcC cy ad) cy D l yX7_close wsX7_close ({ frames := 6, cells := 0, slots := 0, locals := 138 }) [.ref (ad 0), .int s0, .int b] σ (fun r σ' => r = (sClose s0 b (N, P, np, T, nt)).1 ∧ rC σ' (sClose s0 b (N, P, np, T, nt)).2) := by
  obtain ⟨hB, hN, hPa, hT⟩ := id hC
  have h5 := hN.1
  refine k_entry (cc := cX7_close) (maxL := 5) (ret := (some .int)) (by decide) rfl (Nat.le_of_ble_eq_true rfl) ?_
  intro p e s m below meth c hx hb hr hml hown hts hlk E I ls hl
  have hA : ∀ q, s.heap.size ≤ q → kA 38 ad s.heap.size q := fun q h => Or.inr h
  have hown : s.vm.findClass RX7 = some m.cls := hown
  have hl : lv_has ls 5 [(0, .ref (ad 0)), (1, .int s0), (2, .int b)] := hl
  generalize hQdef : MQ below (va_Qi (fun r σ' => r = (sClose s0 b (N, P, np, T, nt)).1 ∧ rC σ' (sClose s0 b (N, P, np, T, nt)).2) (kB 38 ad (kcC cy ad) D) (kA 38 ad s.heap.size)) [.ref (ad 0), .int s0, .int b].toArray s 0 0 (kA 38 ad s.heap.size) = Q
  have iX6 : ∀ w ∈ u_ws RX6 TX6 10, w ∈ wsX7_close := fun w h => List.mem_cons_of_mem _ (List.mem_append_left _ (List.mem_append_left _ (List.mem_append_left _ (List.mem_append_right _ h))))
  have iX7 : ∀ w ∈ u_ws RX7 TX7 4, w ∈ wsX7_close := fun w h => List.mem_cons_of_mem _ (List.mem_append_left _ (List.mem_append_left _ (List.mem_append_left _ (List.mem_append_left _ (List.mem_append_right _ h)))))
  refine lv_aload_n hx hb dX7_close_0 rfl (lv_at hl 0 rfl) ?_
  refine k_get (C := RX7) (T := TX7) (N := 4) (v := .ref (ad 11)) hx hb hts hown E I iX7 (0) (by decide) (r0 := σ 0) rfl kc_0 rfl 2 (by decide) (List.mem_of_getElem? (i := 1) rfl) rfl dX7_close_1 ?_
  refine lv_iload_n hx hb dX7_close_4 rfl (lv_at hl 1 rfl) ?_
  refine k_callq (k := 11) (As := [.int s0]) (rest := []) ⟨hx, hb, hml, hown, hts⟩ (c_X1_shipAt cy D ad l σ (s0) (N 1) (by omega) hB.1.2.1) (cwV 1 hts gX7_close_X1_shipAt rfl rfl rfl (by decide +kernel) ⟨Nat.le_of_ble_eq_true rfl, Nat.le_of_ble_eq_true rfl⟩) E hA I (k_recv E I (by decide) kc_11 rfl) rfl hl.1 rfl (lv_room (Nat.le_of_ble_eq_true rfl)) dX7_close_5 ⟨Nat.le_of_ble_eq_true rfl, Nat.le_of_ble_eq_true rfl⟩ (fun r_5 σ_5 H locs hp_5 I => ?_)
  obtain ⟨rfl, hk_⟩ := hp_5
  rcases hk_ with ⟨i, hi, rfl, rfl⟩ | ⟨hno, rfl⟩
  · have H_i : i < 5 := by omega
    have hsh := hN.2.2 i hi
    unfold nSh at hsh
    have hoS := okS_nI hi h5.2.2.2.1
    have hcl : (nI i).toNatClampNeg = i := nI_clamp (by omega)
    refine lv_astore_n (lv' := [(3, .ref (ad (15 + 3 * i))), (0, .ref (ad 0)), (1, .int (nI i)), (2, .int b)]) hx hb dX7_close_8 rfl hl (by decide) rfl (fun ls hl => ?_)
    refine lv_aload_n hx hb dX7_close_9 rfl (lv_at hl 0 rfl) ?_
    refine lv_ifnull hx hb dX7_close_10 ?_
    refine lv_iload_n hx hb dX7_close_13 rfl (lv_at hl 3 rfl) ?_
    refine k_calls (As := [.int b]) (rest := []) ⟨hx, hb, hml, hown, hts⟩ (c_X7_isWind l (b)) (va_cwS 1 hts gX7_close_X7_isWind rfl rfl rfl (by decide +kernel) ⟨Nat.le_of_ble_eq_true rfl, Nat.le_of_ble_eq_true rfl⟩) rfl hl.1 rfl (lv_room (Nat.le_of_ble_eq_true rfl)) dX7_close_14 ⟨Nat.le_of_ble_eq_true rfl, Nat.le_of_ble_eq_true rfl⟩ (fun r_14 hp_14 => ?_)
    rcases hp_14 with ⟨rfl, g1⟩ | ⟨rfl, g1⟩
    · obtain ⟨bb, b1, b2, rfl⟩ := kT_in (by decide) (by decide) g1
      refine lv_if_ne (tgt := 22) hx hb dX7_close_17 (by decide) (fun c_17 => ?_) (fun c_17 => ?_)
      · refine lv_aload_n hx hb dX7_close_22 rfl (lv_at hl 0 rfl) ?_
        refine k_get (C := RX6) (T := TX6) (N := 10) (v := .int (nI (N (23 + 13 * i + 7)))) hx hb hts hown E I iX6 (15 + 3 * i) (by omega) (r0 := σ (15 + 3 * i)) rfl (kc_S H_i) rfl 3 (by decide) (List.mem_of_getElem? (i := 2) rfl) (congrArg (fun z => some (Value.int z)) (rB_f hB hi 7 (by decide))) dX7_close_23 ?_
        refine lv_if_eq (tgt := 32) hx hb dX7_close_26 (by decide) (fun c_26 => ?_) (fun c_26 => ?_)
        · have c_26 : (N (23 + 13 * i + 7)) = 0 := (nI_eq (by omega) (by decide)).mp c_26
          refine lv_aload_n hx hb dX7_close_32 rfl (lv_at hl 1 rfl) ?_
          refine k_get (C := RX7) (T := TX7) (N := 4) (v := .ref (ad 11)) hx hb hts hown E I iX7 (0) (by decide) (r0 := σ 0) rfl kc_0 rfl 2 (by decide) (List.mem_of_getElem? (i := 1) rfl) rfl dX7_close_33 ?_
          refine lv_iload_n hx hb dX7_close_36 rfl (lv_at hl 3 rfl) ?_
          refine k_callv (k := 11) (As := [.int (nI bb)]) (rest := []) ⟨hx, hb, hml, hown, hts⟩ (c_X1_measureSwings cy D ad l σ N hN hB bb b2) (cwV 1 hts gX7_close_X1_measureSwings rfl rfl rfl (by decide +kernel) ⟨Nat.le_of_ble_eq_true rfl, Nat.le_of_ble_eq_true rfl⟩) E hA I (k_recv E I (by decide) kc_11 rfl) rfl hl.1 rfl (lv_room (Nat.le_of_ble_eq_true rfl)) dX7_close_37 ⟨Nat.le_of_ble_eq_true rfl, Nat.le_of_ble_eq_true rfl⟩ (fun σ_37 H locs hp_37 I => ?_)
          have hq0 := hp_37
          refine lv_bipush (v := nI 60) hx hb dX7_close_40 (by decide) ?_
          refine lv_istore (lv' := [(4, .int (nI 60)), (3, .ref (ad (15 + 3 * i))), (0, .ref (ad 0)), (1, .int (nI i)), (2, .int (nI bb))]) hx hb dX7_close_42 hl (by decide) rfl (fun ls hl => ?_)
          have LP_44 : ∀ (fuel_44 : Nat) (n : Nat) (τ : Nat → Nat → Int32), n < fuel_44 → (n ≤ 60) → (qc σ τ) → (∀ t, t < N 1 → t ≠ i → τ (15 + 3 * t) 9 = nI (pS N bb t)) → (∀ j, j < 60 - n → pGood N bb i (60 - j) = false) → ∀ (H : Heap) (locs : List Loc), kI 38 ad (kcC cy ad) D (kA 38 ad s.heap.size) s.heap τ H locs → ∀ ls : Array Slot, lv_has ls 5 [(0, .ref (ad 0)), (1, .int (nI i)), (2, .int (nI bb)), (3, .ref (ad (15 + 3 * i))), (4, .int (nI n))] → W p l e (headSpec wsX7_close ({ frames := 6, cells := 0, slots := 0, locals := 138 })).room s m [.ref (ad 0), .int (nI i), .int (nI bb)].toArray below meth c H locs 0 0 Q (F0 m 44 ls []) := by
            intro fuel_44
            induction fuel_44 with
            | zero => intro n τ hf_44; exact absurd hf_44 (Nat.not_lt_zero _)
            | succ fuel_44 ih_44 =>
              intro n τ hf_44 hn60 hQ hsw hno H locs I ls hl
              have hBt := rBay_qc h5.2.2.2.1 hB hQ
              refine lv_iload hx hb dX7_close_44 (lv_at hl 4 rfl) ?_
              refine lv_iconst (v := nI 1) hx hb dX7_close_46 (by decide) ?_
              refine lv_icmp_lt (tgt := 87) hx hb dX7_close_47 (by decide) (fun c_47 => ?_) (fun c_47 => ?_)
              · have c_47 : n < 1 := (nI_ltI (by omega) (by omega)).mp c_47
                refine lv_bipush (v := (-4 : Int32)) hx hb dX7_close_87 (by decide) ?_
                subst hQdef
                exact k_iret hx hb hr hlk I dX7_close_89 (by rw [sClose_ok hoS hcl (Nat.zero_le _) b2, gClose, if_neg (by omega), ff_eq (k := 60) (by omega) (fun j hj => hno j (by omega)) (fun z => absurd z (by omega)), if_neg (by omega)]; exact ⟨rfl, rC_qc hC hQ⟩)
              · have c_47 : ¬ (n < 1) := fun q_ => c_47 ((nI_ltI (by omega) (by omega)).mpr q_)
                have hn1 : 1 ≤ n := by omega
                refine lv_aload_n hx hb dX7_close_50 rfl (lv_at hl 0 rfl) ?_
                refine k_get (C := RX7) (T := TX7) (N := 4) (v := .ref (ad 11)) hx hb hts hown E I iX7 (0) (by decide) (r0 := τ 0) rfl kc_0 rfl 2 (by decide) (List.mem_of_getElem? (i := 1) rfl) rfl dX7_close_51 ?_
                refine lv_aload_n hx hb dX7_close_54 rfl (lv_at hl 3 rfl) ?_
                refine lv_iload hx hb dX7_close_55 (lv_at hl 4 rfl) ?_
                refine lv_iload_n hx hb dX7_close_57 rfl (lv_at hl 2 rfl) ?_
                refine k_calli (k := 11) (As := [.ref (ad (15 + 3 * i)), .int (nI n), .int (nI bb)]) (rest := []) ⟨hx, hb, hml, hown, hts⟩ (c_X1_holdsBy cy D ad l τ N hN i hi hBt n bb hn60 b2) (cwV 3 hts gX7_close_X1_holdsBy rfl rfl rfl (by decide +kernel) ⟨Nat.le_of_ble_eq_true rfl, Nat.le_of_ble_eq_true rfl⟩) E hA I (k_recv E I (by decide) kc_11 rfl) rfl hl.1 rfl (lv_room (Nat.le_of_ble_eq_true rfl)) dX7_close_58 ⟨Nat.le_of_ble_eq_true rfl, Nat.le_of_ble_eq_true rfl⟩ (fun r_58 σ_58 H locs hp_58 I => ?_)
                obtain ⟨hk_, hq_⟩ := hp_58
                have hQ2 := qc_tr hQ (q14_qc hq_)
                have hsw2 : ∀ t, t < N 1 → t ≠ i → σ_58 (15 + 3 * t) 9 = nI (pS N bb t) := fun t ht hti => (q14_at hq_ (by omega) 9).trans (hsw t ht hti)
                rcases hk_ with ⟨rfl, g3⟩ | ⟨rfl, g3⟩
                · have hBt := rBay_qc h5.2.2.2.1 hBt (q14_qc hq_)
                  refine lv_if_eq (tgt := 81) hx hb dX7_close_61 (by decide) (fun c_61 => ?_) (fun c_61 => ?_)
                  · exact absurd c_61 (by decide)
                  · refine lv_aload_n hx hb dX7_close_64 rfl (lv_at hl 0 rfl) ?_
                    refine k_get (C := RX7) (T := TX7) (N := 4) (v := .ref (ad 11)) hx hb hts hown E I iX7 (0) (by decide) (r0 := σ_58 0) rfl kc_0 rfl 2 (by decide) (List.mem_of_getElem? (i := 1) rfl) rfl dX7_close_65 ?_
                    refine lv_aload_n hx hb dX7_close_68 rfl (lv_at hl 3 rfl) ?_
                    refine lv_iload hx hb dX7_close_69 (lv_at hl 4 rfl) ?_
                    refine lv_iload_n hx hb dX7_close_71 rfl (lv_at hl 2 rfl) ?_
                    refine k_calli (k := 11) (As := [.ref (ad (15 + 3 * i)), .int (nI n), .int (nI bb)]) (rest := []) ⟨hx, hb, hml, hown, hts⟩ (c_X1_isClearOfAll cy D ad l σ_58 N hN i hi hBt n bb hn60 b2 hsw2) (cwV 3 hts gX7_close_X1_isClearOfAll rfl rfl rfl (by decide +kernel) ⟨Nat.le_of_ble_eq_true rfl, Nat.le_of_ble_eq_true rfl⟩) E hA I (k_recv E I (by decide) kc_11 rfl) rfl hl.1 rfl (lv_room (Nat.le_of_ble_eq_true rfl)) dX7_close_72 ⟨Nat.le_of_ble_eq_true rfl, Nat.le_of_ble_eq_true rfl⟩ (fun r_72 σ_72 H locs hp_72 I => ?_)
                    obtain ⟨hk_, hq2_, hs2_⟩ := hp_72
                    have hQ2 := qc_tr hQ2 hq2_
                    have hsw2 : ∀ t, t < N 1 → t ≠ i → σ_72 (15 + 3 * t) 9 = nI (pS N bb t) := fun t ht hti => (hs2_ t hti).trans (hsw2 t ht hti)
                    rcases hk_ with ⟨rfl, g4⟩ | ⟨rfl, g4⟩
                    · have hgood : pGood N bb i n = true := by unfold pGood; rw [Bool.and_eq_true]; exact ⟨g3, (pAp_iff _).mpr g4⟩
                      refine lv_if_eq (tgt := 81) hx hb dX7_close_75 (by decide) (fun c_75 => ?_) (fun c_75 => ?_)
                      · exact absurd c_75 (by decide)
                      · refine lv_iload hx hb dX7_close_78 (lv_at hl 4 rfl) ?_
                        subst hQdef
                        exact k_iret hx hb hr hlk I dX7_close_80 (by rw [sClose_ok hoS hcl (Nat.zero_le _) b2, gClose, if_neg (by omega), ff_eq (k := 60 - n) (by omega) hno (fun _ => by rw [show 60 - (60 - n) = n by omega]; exact hgood), if_pos (by omega)]; exact ⟨congrArg nI (by omega), rC_qc hC hQ2⟩)
                    · have hbad : pGood N bb i n = false := by unfold pGood; rw [Bool.and_eq_false_iff]; exact Or.inr (by rw [← Bool.not_eq_true]; exact fun q => g4 ((pAp_iff _).mp q))
                      refine lv_if_eq (tgt := 81) hx hb dX7_close_75 (by decide) (fun c_75 => ?_) (fun c_75 => ?_)
                      · refine lv_iinc (v := nI (n - 1)) (lv' := [(4, .int (nI (n - 1))), (0, .ref (ad 0)), (1, .int (nI i)), (2, .int (nI bb)), (3, .ref (ad (15 + 3 * i)))]) hx hb dX7_close_81 hl (k := 4) rfl (sb_m1 (by omega)) (by decide) rfl (fun ls hl => ?_)
                        refine lv_goto (tgt := 44) hx hb dX7_close_84 (by decide) ?_
                        exact ih_44 (n - 1) _ (by omega) (by omega) (hQ2) (hsw2) (fun j hj => by by_cases e_ : j = 60 - n; (rw [e_, show 60 - (60 - n) = n by omega]; exact hbad); exact hno j (by omega)) _ _ I _ (lv_sub hl [1, 2, 3, 4, 0] rfl)
                      · exact absurd c_75 (by decide)
                · have hbad : pGood N bb i n = false := by unfold pGood; simp [g3]
                  refine lv_if_eq (tgt := 81) hx hb dX7_close_61 (by decide) (fun c_61 => ?_) (fun c_61 => ?_)
                  · refine lv_iinc (v := nI (n - 1)) (lv' := [(4, .int (nI (n - 1))), (0, .ref (ad 0)), (1, .int (nI i)), (2, .int (nI bb)), (3, .ref (ad (15 + 3 * i)))]) hx hb dX7_close_81 hl (k := 4) rfl (sb_m1 (by omega)) (by decide) rfl (fun ls hl => ?_)
                    refine lv_goto (tgt := 44) hx hb dX7_close_84 (by decide) ?_
                    exact ih_44 (n - 1) _ (by omega) (by omega) (hQ2) (hsw2) (fun j hj => by by_cases e_ : j = 60 - n; (rw [e_, show 60 - (60 - n) = n by omega]; exact hbad); exact hno j (by omega)) _ _ I _ (lv_sub hl [1, 2, 3, 4, 0] rfl)
                  · exact absurd c_61 (by decide)
          exact LP_44 _ 60 σ_37 (Nat.lt_succ_self _) (Nat.le_refl _) (hq0.1) (fun t ht _ => hq0.2 t ht) (fun j hj => absurd hj (Nat.not_lt_zero j)) _ _ I _ (lv_sub hl [2, 3, 4, 1, 0] rfl)
        · have c_26 : ¬ ((N (23 + 13 * i + 7)) = 0) := fun q_ => c_26 ((nI_eq (by omega) (by decide)).mpr q_)
          refine lv_bipush (v := (-2 : Int32)) hx hb dX7_close_29 (by decide) ?_
          subst hQdef
          exact k_iret hx hb hr hlk I dX7_close_31 (by rw [sClose_ok hoS hcl (Nat.zero_le _) b2, gClose, if_pos (by omega)]; exact ⟨rfl, hC⟩)
      · exact absurd c_17 (by decide)
    · refine lv_if_ne (tgt := 22) hx hb dX7_close_17 (by decide) (fun c_17 => ?_) (fun c_17 => ?_)
      · exact absurd c_17 (by decide)
      · refine lv_iconst (v := (-1 : Int32)) hx hb dX7_close_20 (by decide) ?_
        subst hQdef
        exact k_iret hx hb hr hlk I dX7_close_21 (by rw [sClose_bad (by first | exact fun q => hnS q.1 | exact fun q => g1 q.2)]; exact ⟨rfl, hC⟩)
  · have hnS := okS_no h5.2.2.2.1 hno
    refine lv_astore_nN (lv' := [(3, .null), (0, .ref (ad 0)), (1, .int s0), (2, .int b)]) hx hb dX7_close_8 rfl hl (by decide) rfl (fun ls hl => ?_)
    refine lv_aload_nN hx hb dX7_close_9 rfl (lv_at hl 0 rfl) ?_
    refine lv_ifnullN (tgt := 20) hx hb dX7_close_10 (by decide) ?_
    refine lv_iconst (v := (-1 : Int32)) hx hb dX7_close_20 (by decide) ?_
    subst hQdef
    exact k_iret hx hb hr hlk I dX7_close_21 (by rw [sClose_bad (by first | exact fun q => hnS q.1 | exact fun q => g1 q.2)]; exact ⟨rfl, hC⟩)
set_option maxHeartbeats 4000000 in
set_option maxRecDepth 100000 in
theorem c_X7_all (cy : Nat → ClassId) (D : va_G) (ad : Nat → Nat) (l : Launch) (σ : Nat → Nat → Int32) (b x : Int32) (N : Nat → Nat) (P : Nat → Nat → Nat) (np : Nat) (T : Nat → Nat) (nt : Nat) (hC : rC σ (N, P, np, T, nt)) : kMi 38 ad (kcC cy ad) cy D l yX7_all wsX7_all ({ frames := 6, cells := 0, slots := 0, locals := 141 }) [.ref (ad 0), .int b, .int x] σ (fun r σ' => r = (sAll b x (N, P, np, T, nt)).1 ∧ rC σ' (sAll b x (N, P, np, T, nt)).2) := by
  obtain ⟨hB, hN, hPa, hT⟩ := id hC
  have h5 := hN.1
  refine k_entry (cc := cX7_all) (maxL := 3) (ret := (some .int)) (by decide) rfl (Nat.le_of_ble_eq_true rfl) ?_
  intro p e s m below meth c hx hb hr hml hown hts hlk E I ls hl
  have hA : ∀ q, s.heap.size ≤ q → kA 38 ad s.heap.size q := fun q h => Or.inr h
  have hown : s.vm.findClass RX7 = some m.cls := hown
  have hl : lv_has ls 3 [(0, .ref (ad 0)), (1, .int b), (2, .int x)] := hl
  have iX7 : ∀ w ∈ u_ws RX7 TX7 4, w ∈ wsX7_all := fun w h => List.mem_cons_of_mem _ (List.mem_append_left _ (List.mem_append_left _ (List.mem_append_left _ (List.mem_append_left _ (List.mem_append_right _ h)))))
  refine lv_iload_n hx hb dX7_all_0 rfl (lv_at hl 1 rfl) ?_
  refine k_calls (As := [.int b]) (rest := []) ⟨hx, hb, hml, hown, hts⟩ (c_X7_isWind l (b)) (va_cwS 1 hts gX7_all_X7_isWind rfl rfl rfl (by decide +kernel) ⟨Nat.le_of_ble_eq_true rfl, Nat.le_of_ble_eq_true rfl⟩) rfl hl.1 rfl (lv_room (Nat.le_of_ble_eq_true rfl)) dX7_all_1 ⟨Nat.le_of_ble_eq_true rfl, Nat.le_of_ble_eq_true rfl⟩ (fun r_1 hp_1 => ?_)
  rcases hp_1 with ⟨rfl, g1⟩ | ⟨rfl, g1⟩
  · obtain ⟨bb, b1, b2, rfl⟩ := kT_in (by decide) (by decide) g1
    refine lv_if_eq (tgt := 16) hx hb dX7_all_4 (by decide) (fun c_4 => ?_) (fun c_4 => ?_)
    · exact absurd c_4 (by decide)
    · refine lv_iload_n hx hb dX7_all_7 rfl (lv_at hl 2 rfl) ?_
      refine lv_iconst (v := nI 0) hx hb dX7_all_8 (by decide) ?_
      refine lv_iconst (v := nI 1) hx hb dX7_all_9 (by decide) ?_
      refine k_calls (As := [.int x, .int (nI 0), .int (nI 1)]) (rest := []) ⟨hx, hb, hml, hown, hts⟩ (c_X7_within l (x) (nI 0) (nI 1)) (va_cwS 3 hts gX7_all_X7_within rfl rfl rfl (by decide +kernel) ⟨Nat.le_of_ble_eq_true rfl, Nat.le_of_ble_eq_true rfl⟩) rfl hl.1 rfl (lv_room (Nat.le_of_ble_eq_true rfl)) dX7_all_10 ⟨Nat.le_of_ble_eq_true rfl, Nat.le_of_ble_eq_true rfl⟩ (fun r_10 hp_10 => ?_)
      rcases hp_10 with ⟨rfl, g2⟩ | ⟨rfl, g2⟩
      · obtain ⟨k, k1, k2, rfl⟩ := kT_in (by decide) (by decide) g2
        refine lv_if_ne (tgt := 18) hx hb dX7_all_13 (by decide) (fun c_13 => ?_) (fun c_13 => ?_)
        · refine lv_iload_n hx hb dX7_all_18 rfl (lv_at hl 2 rfl) ?_
          refine lv_if_ne (tgt := 31) hx hb dX7_all_19 (by decide) (fun c_19 => ?_) (fun c_19 => ?_)
          · have c_19 : ¬ (k = 0) := fun q_ => c_19 ((nI_eq (by omega) (by decide)).mpr q_)
            refine lv_aload_n hx hb dX7_all_31 rfl (lv_at hl 0 rfl) ?_
            refine k_get (C := RX7) (T := TX7) (N := 4) (v := .ref (ad 11)) hx hb hts hown E I iX7 (0) (by decide) (r0 := σ 0) rfl kc_0 rfl 2 (by decide) (List.mem_of_getElem? (i := 1) rfl) rfl dX7_all_32 ?_
            refine lv_iload_n hx hb dX7_all_35 rfl (lv_at hl 1 rfl) ?_
            refine k_callv (k := 11) (As := [.int (nI bb)]) (rest := []) ⟨hx, hb, hml, hown, hts⟩ (c_X1_measureSwings cy D ad l σ N hN hB bb b2) (cwV 1 hts gX7_all_X1_measureSwings rfl rfl rfl (by decide +kernel) ⟨Nat.le_of_ble_eq_true rfl, Nat.le_of_ble_eq_true rfl⟩) E hA I (k_recv E I (by decide) kc_11 rfl) rfl hl.1 rfl (lv_room (Nat.le_of_ble_eq_true rfl)) dX7_all_36 ⟨Nat.le_of_ble_eq_true rfl, Nat.le_of_ble_eq_true rfl⟩ (fun σ_36 H locs hp_36 I => ?_)
            obtain ⟨hq_, hw_⟩ := hp_36
            have hB1 := rBay_qc h5.2.2.2.1 hB hq_
            refine lv_aload_n hx hb dX7_all_39 rfl (lv_at hl 0 rfl) ?_
            refine k_get (C := RX7) (T := TX7) (N := 4) (v := .ref (ad 11)) hx hb hts hown E I iX7 (0) (by decide) (r0 := σ_36 0) rfl kc_0 rfl 2 (by decide) (List.mem_of_getElem? (i := 1) rfl) rfl dX7_all_40 ?_
            refine k_calli (k := 11) (As := []) (rest := []) ⟨hx, hb, hml, hown, hts⟩ (c_X1_countMeeting cy D ad l σ_36 N hN hB1 bb hw_) (cwV 0 hts gX7_all_X1_countMeeting rfl rfl rfl (by decide +kernel) ⟨Nat.le_of_ble_eq_true rfl, Nat.le_of_ble_eq_true rfl⟩) E hA I (k_recv E I (by decide) kc_11 rfl) rfl hl.1 rfl (lv_room (Nat.le_of_ble_eq_true rfl)) dX7_all_43 ⟨Nat.le_of_ble_eq_true rfl, Nat.le_of_ble_eq_true rfl⟩ (fun r_43 σ_43 H locs hp_43 I => ?_)
            obtain ⟨rfl, rfl⟩ := hp_43
            exact k_iret hx hb hr hlk I dX7_all_46 (by rw [sAll_ok (Nat.zero_le _) b2 (Nat.zero_le _) k2, gAll, if_neg c_19]; exact ⟨rfl, rC_qc hC hq_⟩)
          · have c_19 : k = 0 := (nI_eq (by omega) (by decide)).mp c_19
            refine lv_aload_n hx hb dX7_all_22 rfl (lv_at hl 0 rfl) ?_
            refine k_get (C := RX7) (T := TX7) (N := 4) (v := .ref (ad 11)) hx hb hts hown E I iX7 (0) (by decide) (r0 := σ 0) rfl kc_0 rfl 2 (by decide) (List.mem_of_getElem? (i := 1) rfl) rfl dX7_all_23 ?_
            refine lv_iload_n hx hb dX7_all_26 rfl (lv_at hl 1 rfl) ?_
            refine k_calli (k := 11) (As := [.int (nI bb)]) (rest := []) ⟨hx, hb, hml, hown, hts⟩ (c_X1_countHolding cy D ad l σ N hN hB bb b2) (cwV 1 hts gX7_all_X1_countHolding rfl rfl rfl (by decide +kernel) ⟨Nat.le_of_ble_eq_true rfl, Nat.le_of_ble_eq_true rfl⟩) E hA I (k_recv E I (by decide) kc_11 rfl) rfl hl.1 rfl (lv_room (Nat.le_of_ble_eq_true rfl)) dX7_all_27 ⟨Nat.le_of_ble_eq_true rfl, Nat.le_of_ble_eq_true rfl⟩ (fun r_27 σ_27 H locs hp_27 I => ?_)
            obtain ⟨rfl, hq_⟩ := hp_27
            exact k_iret hx hb hr hlk I dX7_all_30 (by rw [sAll_ok (Nat.zero_le _) b2 (Nat.zero_le _) k2, gAll, if_pos c_19]; exact ⟨rfl, rC_qc hC (q14_qc hq_)⟩)
        · exact absurd c_13 (by decide)
      · refine lv_if_ne (tgt := 18) hx hb dX7_all_13 (by decide) (fun c_13 => ?_) (fun c_13 => ?_)
        · exact absurd c_13 (by decide)
        · refine lv_iconst (v := (-1 : Int32)) hx hb dX7_all_16 (by decide) ?_
          exact k_iret hx hb hr hlk I dX7_all_17 (by rw [sAll_bad (by first | exact fun q => g1 q.1 | exact fun q => g2 q.2)]; exact ⟨rfl, hC⟩)
  · refine lv_if_eq (tgt := 16) hx hb dX7_all_4 (by decide) (fun c_4 => ?_) (fun c_4 => ?_)
    · refine lv_iconst (v := (-1 : Int32)) hx hb dX7_all_16 (by decide) ?_
      exact k_iret hx hb hr hlk I dX7_all_17 (by rw [sAll_bad (by first | exact fun q => g1 q.1 | exact fun q => g2 q.2)]; exact ⟨rfl, hC⟩)
    · exact absurd c_4 (by decide)
set_option maxHeartbeats 4000000 in
set_option maxRecDepth 100000 in
theorem c_X7_count (cy : Nat → ClassId) (D : va_G) (ad : Nat → Nat) (l : Launch) (σ : Nat → Nat → Int32) (x : Int32) (N : Nat → Nat) (P : Nat → Nat → Nat) (np : Nat) (T : Nat → Nat) (nt : Nat) (hC : rC σ (N, P, np, T, nt)) : kMi 38 ad (kcC cy ad) cy D l yX7_count wsX7_count ({ frames := 2, cells := 0, slots := 0, locals := 42 }) [.ref (ad 0), .int x] σ (fun r σ' => r = (sCount x (N, P, np, T, nt)).1 ∧ rC σ' (sCount x (N, P, np, T, nt)).2) := by
  obtain ⟨hB, hN, hPa, hT⟩ := id hC
  have h5 := hN.1
  obtain ⟨nx, _, _, _, e30, _⟩ := id hPa
  refine k_entry (cc := cX7_count) (maxL := 2) (ret := (some .int)) (by decide) rfl (Nat.le_of_ble_eq_true rfl) ?_
  intro p e s m below meth c hx hb hr hml hown hts hlk E I ls hl
  have hA : ∀ q, s.heap.size ≤ q → kA 38 ad s.heap.size q := fun q h => Or.inr h
  have hown : s.vm.findClass RX7 = some m.cls := hown
  have hl : lv_has ls 2 [(0, .ref (ad 0)), (1, .int x)] := hl
  have iX1 : ∀ w ∈ u_ws RX1 TX1 6, w ∈ wsX7_count := fun w h => List.mem_cons_of_mem _ (List.mem_append_left _ (List.mem_append_left _ (List.mem_append_left _ (List.mem_append_left _ (List.mem_append_right _ h)))))
  have iX3 : ∀ w ∈ u_ws RX3 TX3 2, w ∈ wsX7_count := fun w h => List.mem_cons_of_mem _ (List.mem_append_left _ (List.mem_append_left _ (List.mem_append_right _ h)))
  have iX4 : ∀ w ∈ u_ws RX4 TX4 3, w ∈ wsX7_count := fun w h => List.mem_cons_of_mem _ (List.mem_append_left _ (List.mem_append_left _ (List.mem_append_left _ (List.mem_append_right _ h))))
  have iX7 : ∀ w ∈ u_ws RX7 TX7 4, w ∈ wsX7_count := fun w h => List.mem_cons_of_mem _ (List.mem_append_left _ (List.mem_append_left _ (List.mem_append_left _ (List.mem_append_left _ (List.mem_append_left _ (List.mem_append_right _ h))))))
  refine lv_iload_n hx hb dX7_count_0 rfl (lv_at hl 1 rfl) ?_
  rcases ksw_8 (x) with c_1 | rfl | rfl | rfl | rfl | rfl | rfl | rfl | rfl
  · refine lv_tableOut (tgt := 112) hx hb dX7_count_1 c_1 (by decide) ?_
    refine lv_iconst (v := (-1 : Int32)) hx hb dX7_count_112 (by decide) ?_
    exact k_iret hx hb hr hlk I dX7_count_113 (by rw [sCount_bad (out_inI (b := 7) (by decide) c_1)]; exact ⟨rfl, hC⟩)
  · refine lv_tableIn (tgt := 48) (off := 47) hx hb dX7_count_1 (by decide) (by decide) (by decide) (by decide) ?_
    refine lv_aload_n hx hb dX7_count_48 rfl (lv_at hl 0 rfl) ?_
    refine k_get (C := RX7) (T := TX7) (N := 4) (v := .ref (ad 11)) hx hb hts hown E I iX7 (0) (by decide) (r0 := σ 0) rfl kc_0 rfl 2 (by decide) (List.mem_of_getElem? (i := 1) rfl) rfl dX7_count_49 ?_
    refine k_get (C := RX1) (T := TX1) (N := 6) (v := .int (nI (N 0))) hx hb hts hown E I iX1 (11) (by decide) (r0 := σ 11) rfl kc_11 rfl 3 (by decide) (List.mem_of_getElem? (i := 2) rfl) (congrArg (fun z => some (Value.int z)) hB.1.1) dX7_count_52 ?_
    exact k_iret hx hb hr hlk I dX7_count_55 (by rw [sCount_ok (by decide)]; exact ⟨rfl, hC⟩)
  · refine lv_tableIn (tgt := 56) (off := 55) hx hb dX7_count_1 (by decide) (by decide) (by decide) (by decide) ?_
    refine lv_aload_n hx hb dX7_count_56 rfl (lv_at hl 0 rfl) ?_
    refine k_get (C := RX7) (T := TX7) (N := 4) (v := .ref (ad 11)) hx hb hts hown E I iX7 (0) (by decide) (r0 := σ 0) rfl kc_0 rfl 2 (by decide) (List.mem_of_getElem? (i := 1) rfl) rfl dX7_count_57 ?_
    refine k_get (C := RX1) (T := TX1) (N := 6) (v := .int (nI (N 1))) hx hb hts hown E I iX1 (11) (by decide) (r0 := σ 11) rfl kc_11 rfl 4 (by decide) (List.mem_of_getElem? (i := 3) rfl) (congrArg (fun z => some (Value.int z)) hB.1.2.1) dX7_count_60 ?_
    exact k_iret hx hb hr hlk I dX7_count_63 (by rw [sCount_ok (by decide)]; exact ⟨rfl, hC⟩)
  · refine lv_tableIn (tgt := 64) (off := 63) hx hb dX7_count_1 (by decide) (by decide) (by decide) (by decide) ?_
    refine lv_aload_n hx hb dX7_count_64 rfl (lv_at hl 0 rfl) ?_
    refine k_get (C := RX7) (T := TX7) (N := 4) (v := .ref (ad 11)) hx hb hts hown E I iX7 (0) (by decide) (r0 := σ 0) rfl kc_0 rfl 2 (by decide) (List.mem_of_getElem? (i := 1) rfl) rfl dX7_count_65 ?_
    refine k_get (C := RX1) (T := TX1) (N := 6) (v := .int (nI (N 2))) hx hb hts hown E I iX1 (11) (by decide) (r0 := σ 11) rfl kc_11 rfl 5 (by decide) (List.mem_of_getElem? (i := 4) rfl) (congrArg (fun z => some (Value.int z)) hB.1.2.2) dX7_count_68 ?_
    exact k_iret hx hb hr hlk I dX7_count_71 (by rw [sCount_ok (by decide)]; exact ⟨rfl, hC⟩)
  · refine lv_tableIn (tgt := 72) (off := 71) hx hb dX7_count_1 (by decide) (by decide) (by decide) (by decide) ?_
    refine lv_aload_n hx hb dX7_count_72 rfl (lv_at hl 0 rfl) ?_
    refine k_get (C := RX7) (T := TX7) (N := 4) (v := .ref (ad 11)) hx hb hts hown E I iX7 (0) (by decide) (r0 := σ 0) rfl kc_0 rfl 2 (by decide) (List.mem_of_getElem? (i := 1) rfl) rfl dX7_count_73 ?_
    refine k_calli (k := 11) (As := []) (rest := []) ⟨hx, hb, hml, hown, hts⟩ (c_X1_countAshore cy D ad l σ N hN hB) (cwV 0 hts gX7_count_X1_countAshore rfl rfl rfl (by decide +kernel) ⟨Nat.le_of_ble_eq_true rfl, Nat.le_of_ble_eq_true rfl⟩) E hA I (k_recv E I (by decide) kc_11 rfl) rfl hl.1 rfl (lv_room (Nat.le_of_ble_eq_true rfl)) dX7_count_76 ⟨Nat.le_of_ble_eq_true rfl, Nat.le_of_ble_eq_true rfl⟩ (fun r_76 σ_76 H locs hp_76 I => ?_)
    obtain ⟨rfl, rfl⟩ := hp_76
    exact k_iret hx hb hr hlk I dX7_count_79 (by rw [sCount_ok (by decide)]; exact ⟨rfl, hC⟩)
  · refine lv_tableIn (tgt := 80) (off := 79) hx hb dX7_count_1 (by decide) (by decide) (by decide) (by decide) ?_
    refine lv_aload_n hx hb dX7_count_80 rfl (lv_at hl 0 rfl) ?_
    refine k_get (C := RX7) (T := TX7) (N := 4) (v := .ref (ad 11)) hx hb hts hown E I iX7 (0) (by decide) (r0 := σ 0) rfl kc_0 rfl 2 (by decide) (List.mem_of_getElem? (i := 1) rfl) rfl dX7_count_81 ?_
    refine k_calli (k := 11) (As := []) (rest := []) ⟨hx, hb, hml, hown, hts⟩ (c_X1_countMoored cy D ad l σ N hN hB) (cwV 0 hts gX7_count_X1_countMoored rfl rfl rfl (by decide +kernel) ⟨Nat.le_of_ble_eq_true rfl, Nat.le_of_ble_eq_true rfl⟩) E hA I (k_recv E I (by decide) kc_11 rfl) rfl hl.1 rfl (lv_room (Nat.le_of_ble_eq_true rfl)) dX7_count_84 ⟨Nat.le_of_ble_eq_true rfl, Nat.le_of_ble_eq_true rfl⟩ (fun r_84 σ_84 H locs hp_84 I => ?_)
    obtain ⟨rfl, rfl⟩ := hp_84
    exact k_iret hx hb hr hlk I dX7_count_87 (by rw [sCount_ok (by decide)]; exact ⟨rfl, hC⟩)
  · refine lv_tableIn (tgt := 88) (off := 87) hx hb dX7_count_1 (by decide) (by decide) (by decide) (by decide) ?_
    refine lv_aload_n hx hb dX7_count_88 rfl (lv_at hl 0 rfl) ?_
    refine k_get (C := RX7) (T := TX7) (N := 4) (v := .ref (ad 11)) hx hb hts hown E I iX7 (0) (by decide) (r0 := σ 0) rfl kc_0 rfl 2 (by decide) (List.mem_of_getElem? (i := 1) rfl) rfl dX7_count_89 ?_
    refine k_calli (k := 11) (As := []) (rest := []) ⟨hx, hb, hml, hown, hts⟩ (c_X1_countLinksOut cy D ad l σ N hN hB) (cwV 0 hts gX7_count_X1_countLinksOut rfl rfl rfl (by decide +kernel) ⟨Nat.le_of_ble_eq_true rfl, Nat.le_of_ble_eq_true rfl⟩) E hA I (k_recv E I (by decide) kc_11 rfl) rfl hl.1 rfl (lv_room (Nat.le_of_ble_eq_true rfl)) dX7_count_92 ⟨Nat.le_of_ble_eq_true rfl, Nat.le_of_ble_eq_true rfl⟩ (fun r_92 σ_92 H locs hp_92 I => ?_)
    obtain ⟨rfl, rfl⟩ := hp_92
    exact k_iret hx hb hr hlk I dX7_count_95 (by rw [sCount_ok (by decide)]; exact ⟨rfl, hC⟩)
  · refine lv_tableIn (tgt := 96) (off := 95) hx hb dX7_count_1 (by decide) (by decide) (by decide) (by decide) ?_
    refine lv_aload_n hx hb dX7_count_96 rfl (lv_at hl 0 rfl) ?_
    refine k_get (C := RX7) (T := TX7) (N := 4) (v := .ref (ad 30)) hx hb hts hown E I iX7 (0) (by decide) (r0 := σ 0) rfl kc_0 rfl 3 (by decide) (List.mem_of_getElem? (i := 5) rfl) rfl dX7_count_97 ?_
    refine k_get (C := RX4) (T := TX4) (N := 3) (v := .int (nI np)) hx hb hts hown E I iX4 (30) (by decide) (r0 := σ 30) rfl kc_30 rfl 2 (by decide) (List.mem_of_getElem? (i := 6) rfl) (congrArg (fun z => some (Value.int z)) e30) dX7_count_100 ?_
    exact k_iret hx hb hr hlk I dX7_count_103 (by rw [sCount_ok (by decide)]; exact ⟨rfl, hC⟩)
  · refine lv_tableIn (tgt := 104) (off := 103) hx hb dX7_count_1 (by decide) (by decide) (by decide) (by decide) ?_
    refine lv_aload_n hx hb dX7_count_104 rfl (lv_at hl 0 rfl) ?_
    refine k_get (C := RX7) (T := TX7) (N := 4) (v := .ref (ad 1)) hx hb hts hown E I iX7 (0) (by decide) (r0 := σ 0) rfl kc_0 rfl 0 (by decide) (List.mem_of_getElem? (i := 7) rfl) rfl dX7_count_105 ?_
    refine k_get (C := RX3) (T := TX3) (N := 2) (v := .int (nI nt)) hx hb hts hown E I iX3 (1) (by decide) (r0 := σ 1) rfl kc_1 rfl 1 (by decide) (List.mem_of_getElem? (i := 8) rfl) (congrArg (fun z => some (Value.int z)) hT.1.1) dX7_count_108 ?_
    exact k_iret hx hb hr hlk I dX7_count_111 (by rw [sCount_ok (by decide)]; exact ⟨rfl, hC⟩)

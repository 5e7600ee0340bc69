/-! THE CALLS: done; anchors, ships -/
set_option maxHeartbeats 4000000 in
set_option maxRecDepth 100000 in
theorem c_X7_links (cy : Nat → ClassId) (D : va_G) (ad : Nat → Nat) (l : Launch) (σ : Nat → Nat → Int32) (s0 a n : Int32) (N : Nat → Nat) (P : Nat → Nat → Nat) (np : Nat) (T : Nat → Nat) (nt : Nat) (hC : rC σ (N, P, np, T, nt)) : kMi 38 ad (kcC cy ad) cy D l yX7_links wsX7_links ({ frames := 4, cells := 0, slots := 0, locals := 87 }) [.ref (ad 0), .int s0, .int a, .int n] σ (fun r σ' => r = (sLinks s0 a n (N, P, np, T, nt)).1 ∧ rC σ' (sLinks s0 a n (N, P, np, T, nt)).2) := by
  obtain ⟨hB, hN, hPa, hT⟩ := id hC
  have h5 := hN.1
  refine k_entry (cc := cX7_links) (maxL := 7) (ret := (some .int)) (by decide) rfl (Nat.le_of_ble_eq_true rfl) ?_
  intro p e s m below meth c hx hb hr hml hown hts hlk E I ls hl
  have hA : ∀ q, s.heap.size ≤ q → kA 38 ad s.heap.size q := fun q h => Or.inr h
  have hown : s.vm.findClass RX7 = some m.cls := hown
  have hl : lv_has ls 7 [(0, .ref (ad 0)), (1, .int s0), (2, .int a), (3, .int n)] := hl
  have iX0 : ∀ w ∈ u_ws RX0 TX0 3, w ∈ wsX7_links := fun w h => List.mem_cons_of_mem _ (List.mem_append_left _ (List.mem_append_left _ (List.mem_append_right _ h)))
  have iX6 : ∀ w ∈ u_ws RX6 TX6 10, w ∈ wsX7_links := fun w h => List.mem_cons_of_mem _ (List.mem_append_left _ (List.mem_append_left _ (List.mem_append_left _ (List.mem_append_right _ h))))
  have iX7 : ∀ w ∈ u_ws RX7 TX7 4, w ∈ wsX7_links := fun w h => List.mem_cons_of_mem _ (List.mem_append_left _ (List.mem_append_left _ (List.mem_append_left _ (List.mem_append_left _ (List.mem_append_right _ h)))))
  refine lv_aload_n hx hb dX7_links_0 rfl (lv_at hl 0 rfl) ?_
  refine k_get (C := RX7) (T := TX7) (N := 4) (v := .ref (ad 11)) hx hb hts hown E I iX7 (0) (by decide) (r0 := σ 0) rfl kc_0 rfl 2 (by decide) (List.mem_of_getElem? (i := 1) rfl) rfl dX7_links_1 ?_
  refine lv_iload_n hx hb dX7_links_4 rfl (lv_at hl 1 rfl) ?_
  refine k_callq (k := 11) (As := [.int s0]) (rest := []) ⟨hx, hb, hml, hown, hts⟩ (c_X1_shipAt cy D ad l σ (s0) (N 1) (by omega) hB.1.2.1) (cwV 1 hts gX7_links_X1_shipAt rfl rfl rfl (by decide +kernel) ⟨Nat.le_of_ble_eq_true rfl, Nat.le_of_ble_eq_true rfl⟩) E hA I (k_recv E I (by decide) kc_11 rfl) rfl hl.1 rfl (lv_room (Nat.le_of_ble_eq_true rfl)) dX7_links_5 ⟨Nat.le_of_ble_eq_true rfl, Nat.le_of_ble_eq_true rfl⟩ (fun r_5 σ_5 H locs hp_5 I => ?_)
  obtain ⟨rfl, hk_⟩ := hp_5
  rcases hk_ with ⟨i, hi, rfl, rfl⟩ | ⟨hno, rfl⟩
  · have H_i : i < 5 := by omega
    have hsh := hN.2.2 i hi
    unfold nSh at hsh
    have hoS := okS_nI hi h5.2.2.2.1
    have hcl : (nI i).toNatClampNeg = i := nI_clamp (by omega)
    refine lv_astore (lv' := [(4, .ref (ad (15 + 3 * i))), (0, .ref (ad 0)), (1, .int (nI i)), (2, .int a), (3, .int n)]) hx hb dX7_links_8 hl (by decide) rfl (fun ls hl => ?_)
    refine lv_aload hx hb dX7_links_10 (lv_at hl 0 rfl) ?_
    refine lv_ifnull hx hb dX7_links_12 ?_
    refine lv_iload_n hx hb dX7_links_15 rfl (lv_at hl 3 rfl) ?_
    refine lv_iconst (v := nI 0) hx hb dX7_links_16 (by decide) ?_
    refine lv_iconst (v := nI 1) hx hb dX7_links_17 (by decide) ?_
    refine k_calls (As := [.int a, .int (nI 0), .int (nI 1)]) (rest := []) ⟨hx, hb, hml, hown, hts⟩ (c_X7_within l (a) (nI 0) (nI 1)) (va_cwS 3 hts gX7_links_X7_within rfl rfl rfl (by decide +kernel) ⟨Nat.le_of_ble_eq_true rfl, Nat.le_of_ble_eq_true rfl⟩) rfl hl.1 rfl (lv_room (Nat.le_of_ble_eq_true rfl)) dX7_links_18 ⟨Nat.le_of_ble_eq_true rfl, Nat.le_of_ble_eq_true rfl⟩ (fun r_18 hp_18 => ?_)
    rcases hp_18 with ⟨rfl, g1⟩ | ⟨rfl, g1⟩
    · obtain ⟨w, w1, w2, rfl⟩ := kT_in (by decide) (by decide) g1
      refine lv_if_eq (tgt := 34) hx hb dX7_links_21 (by decide) (fun c_21 => ?_) (fun c_21 => ?_)
      · exact absurd c_21 (by decide)
      · refine lv_iload_n hx hb dX7_links_24 rfl (lv_at hl 4 rfl) ?_
        refine lv_iconst (v := nI 1) hx hb dX7_links_25 (by decide) ?_
        refine lv_bipush (v := nI 60) hx hb dX7_links_26 (by decide) ?_
        refine k_calls (As := [.int n, .int (nI 1), .int (nI 60)]) (rest := []) ⟨hx, hb, hml, hown, hts⟩ (c_X7_within l (n) (nI 1) (nI 60)) (va_cwS 3 hts gX7_links_X7_within rfl rfl rfl (by decide +kernel) ⟨Nat.le_of_ble_eq_true rfl, Nat.le_of_ble_eq_true rfl⟩) rfl hl.1 rfl (lv_room (Nat.le_of_ble_eq_true rfl)) dX7_links_28 ⟨Nat.le_of_ble_eq_true rfl, Nat.le_of_ble_eq_true rfl⟩ (fun r_28 hp_28 => ?_)
        rcases hp_28 with ⟨rfl, g2⟩ | ⟨rfl, g2⟩
        · obtain ⟨k, k1, k2, rfl⟩ := kT_in (by decide) (by decide) g2
          refine lv_if_ne (tgt := 36) hx hb dX7_links_31 (by decide) (fun c_31 => ?_) (fun c_31 => ?_)
          · refine lv_aload hx hb dX7_links_36 (lv_at hl 0 rfl) ?_
            refine lv_iload_n hx hb dX7_links_38 rfl (lv_at hl 3 rfl) ?_
            refine k_callq (k := 15 + 3 * i) (As := [.int (nI w)]) (rest := []) ⟨hx, hb, hml, hown, hts⟩ (c_X6_anchorAt cy D ad l σ i (N (23 + 13 * i + 9)) H_i hsh.2.2.2.1.2 (rB_f hB hi 9 (by decide)) w w2) (cwV 1 hts gX7_links_X6_anchorAt rfl rfl rfl (by decide +kernel) ⟨Nat.le_of_ble_eq_true rfl, Nat.le_of_ble_eq_true rfl⟩) E hA I (k_recv E I (by omega) (kc_S H_i) rfl) rfl hl.1 rfl (lv_room (Nat.le_of_ble_eq_true rfl)) dX7_links_39 ⟨Nat.le_of_ble_eq_true rfl, Nat.le_of_ble_eq_true rfl⟩ (fun r_39 σ_39 H locs hp_39 I => ?_)
            obtain ⟨rfl, hk_⟩ := hp_39
            rcases hk_ with ⟨hw0, rfl⟩ | ⟨hw1, hm, rfl⟩ | ⟨hw1, hm0, rfl⟩
            · refine lv_astore (lv' := [(5, .ref (ad (16 + 3 * i))), (4, .ref (ad (15 + 3 * i))), (0, .ref (ad 0)), (1, .int (nI i)), (2, .int (nI w)), (3, .int (nI k))]) hx hb dX7_links_42 hl (by decide) rfl (fun ls hl => ?_)
              refine lv_aload hx hb dX7_links_44 (lv_at hl 1 rfl) ?_
              refine k_get (C := RX6) (T := TX6) (N := 10) (v := .int (nI (N (23 + 13 * i + 7)))) hx hb hts hown E I iX6 (15 + 3 * i) (by omega) (r0 := σ (15 + 3 * i)) rfl (kc_S H_i) rfl 3 (by decide) (List.mem_of_getElem? (i := 2) rfl) (congrArg (fun z => some (Value.int z)) (rB_f hB hi 7 (by decide))) dX7_links_46 ?_
              refine lv_if_ne (tgt := 57) hx hb dX7_links_49 (by decide) (fun c_49 => ?_) (fun c_49 => ?_)
              · have c_49 : ¬ ((N (23 + 13 * i + 7)) = 0) := fun q_ => c_49 ((nI_eq (by omega) (by decide)).mpr q_)
                refine lv_bipush (v := (-2 : Int32)) hx hb dX7_links_57 (by decide) ?_
                exact k_iret hx hb hr hlk I dX7_links_59 (by rw [sLinks_ok hoS hcl (Nat.zero_le _) w2 k1 k2, gLinks, if_pos (by omega)]; exact ⟨rfl, hC⟩)
              · have c_49 : (N (23 + 13 * i + 7)) = 0 := (nI_eq (by omega) (by decide)).mp c_49
                refine lv_aload hx hb dX7_links_52 (lv_at hl 0 rfl) ?_
                refine lv_ifnonnull (tgt := 60) hx hb dX7_links_54 (by decide) ?_
                refine lv_aload_n hx hb dX7_links_60 rfl (lv_at hl 2 rfl) ?_
                refine k_callv (k := 0) (As := []) (rest := []) ⟨hx, hb, hml, hown, hts⟩ (c_X7_remember cy D ad l σ N hN hB P np hPa) (cwV 0 hts gX7_links_X7_remember rfl rfl rfl (by decide +kernel) ⟨Nat.le_of_ble_eq_true rfl, Nat.le_of_ble_eq_true rfl⟩) E hA I (k_recv E I (by decide) kc_0 rfl) rfl hl.1 rfl (lv_room (Nat.le_of_ble_eq_true rfl)) dX7_links_61 ⟨Nat.le_of_ble_eq_true rfl, Nat.le_of_ble_eq_true rfl⟩ (fun σ_61 H locs hp_61 I => ?_)
                obtain ⟨hp1, hB1, hlo⟩ := hp_61
                refine lv_aload hx hb dX7_links_64 (lv_at hl 0 rfl) ?_
                refine k_get (C := RX0) (T := TX0) (N := 3) (v := .int (nI (N (23 + 13 * i + 2)))) hx hb hts hown E I iX0 (16 + 3 * i) (by omega) (r0 := σ_61 (16 + 3 * i)) rfl (kc_F H_i) rfl 2 (by decide) (List.mem_of_getElem? (i := 3) rfl) (congrArg (fun z => some (Value.int z)) (rB_f hB1 hi 2 (by decide))) dX7_links_66 ?_
                refine lv_istore (lv' := [(6, .int (nI (N (23 + 13 * i + 2)))), (5, .ref (ad (16 + 3 * i))), (4, .ref (ad (15 + 3 * i))), (0, .ref (ad 0)), (1, .int (nI i)), (2, .int (nI w)), (3, .int (nI k))]) hx hb dX7_links_69 hl (by decide) rfl (fun ls hl => ?_)
                refine lv_aload hx hb dX7_links_71 (lv_at hl 1 rfl) ?_
                refine lv_iload_n hx hb dX7_links_73 rfl (lv_at hl 6 rfl) ?_
                refine k_put (C := RX0) (T := TX0) (N := 3) (ty0 := tyX0) (ty := .int) (v := .int (nI k)) hx hb hts hown E I iX0 tyX0_ok nmX0 (16 + 3 * i) (by omega) (r0 := σ_61 (16 + 3 * i)) rfl (kc_F H_i) rfl 2 (by decide) (List.mem_of_getElem? (i := 3) rfl) rfl rfl rfl rfl (Nat.le_of_ble_eq_true rfl) (upd (σ_61 (16 + 3 * i)) 2 (nI k)) (kc_F (cy := cy) (ad := ad) (r := (upd (σ_61 (16 + 3 * i)) 2 (nI k))) H_i).symm (σ2 := va_up σ_61 (16 + 3 * i) (upd (σ_61 (16 + 3 * i)) 2 (nI k))) rfl dX7_links_74 (fun H locs I => ?_)
                refine lv_iload hx hb dX7_links_77 (lv_at hl 0 rfl) ?_
                exact k_iret hx hb hr hlk I dX7_links_79 (by rw [sLinks_ok hoS hcl (Nat.zero_le _) w2 k1 k2, gLinks, if_neg (by omega)]; first | (subst hw0; exact ⟨rfl, ks_change hC hp1 hlo (ks_first hB1 hN hi rfl).1 (ks_first hB1 hN hi rfl).2 (nOk_links hN hi (Or.inl rfl) k1 k2).1 (nOk_links hN hi (Or.inl rfl) k1 k2).2⟩) | (subst hw1; have hq := links2 (k := k) hB1 hN hi hm rfl; exact ⟨rfl, ks_change hC hp1 hlo hq.1 hq.2 (nOk_links hN hi (Or.inr ⟨rfl, hm⟩) k1 k2).1 (nOk_links hN hi (Or.inr ⟨rfl, hm⟩) k1 k2).2⟩))
            · refine lv_astore (lv' := [(5, .ref (ad (17 + 3 * i))), (4, .ref (ad (15 + 3 * i))), (0, .ref (ad 0)), (1, .int (nI i)), (2, .int (nI w)), (3, .int (nI k))]) hx hb dX7_links_42 hl (by decide) rfl (fun ls hl => ?_)
              refine lv_aload hx hb dX7_links_44 (lv_at hl 1 rfl) ?_
              refine k_get (C := RX6) (T := TX6) (N := 10) (v := .int (nI (N (23 + 13 * i + 7)))) hx hb hts hown E I iX6 (15 + 3 * i) (by omega) (r0 := σ (15 + 3 * i)) rfl (kc_S H_i) rfl 3 (by decide) (List.mem_of_getElem? (i := 2) rfl) (congrArg (fun z => some (Value.int z)) (rB_f hB hi 7 (by decide))) dX7_links_46 ?_
              refine lv_if_ne (tgt := 57) hx hb dX7_links_49 (by decide) (fun c_49 => ?_) (fun c_49 => ?_)
              · have c_49 : ¬ ((N (23 + 13 * i + 7)) = 0) := fun q_ => c_49 ((nI_eq (by omega) (by decide)).mpr q_)
                refine lv_bipush (v := (-2 : Int32)) hx hb dX7_links_57 (by decide) ?_
                exact k_iret hx hb hr hlk I dX7_links_59 (by rw [sLinks_ok hoS hcl (Nat.zero_le _) w2 k1 k2, gLinks, if_pos (by omega)]; exact ⟨rfl, hC⟩)
              · have c_49 : (N (23 + 13 * i + 7)) = 0 := (nI_eq (by omega) (by decide)).mp c_49
                refine lv_aload hx hb dX7_links_52 (lv_at hl 0 rfl) ?_
                refine lv_ifnonnull (tgt := 60) hx hb dX7_links_54 (by decide) ?_
                refine lv_aload_n hx hb dX7_links_60 rfl (lv_at hl 2 rfl) ?_
                refine k_callv (k := 0) (As := []) (rest := []) ⟨hx, hb, hml, hown, hts⟩ (c_X7_remember cy D ad l σ N hN hB P np hPa) (cwV 0 hts gX7_links_X7_remember rfl rfl rfl (by decide +kernel) ⟨Nat.le_of_ble_eq_true rfl, Nat.le_of_ble_eq_true rfl⟩) E hA I (k_recv E I (by decide) kc_0 rfl) rfl hl.1 rfl (lv_room (Nat.le_of_ble_eq_true rfl)) dX7_links_61 ⟨Nat.le_of_ble_eq_true rfl, Nat.le_of_ble_eq_true rfl⟩ (fun σ_61 H locs hp_61 I => ?_)
                obtain ⟨hp1, hB1, hlo⟩ := hp_61
                refine lv_aload hx hb dX7_links_64 (lv_at hl 0 rfl) ?_
                refine k_get (C := RX0) (T := TX0) (N := 3) (v := .int (nI (N (23 + 13 * i + 12)))) hx hb hts hown E I iX0 (17 + 3 * i) (by omega) (r0 := σ_61 (17 + 3 * i)) rfl (kc_G H_i) rfl 2 (by decide) (List.mem_of_getElem? (i := 3) rfl) (congrArg (fun z => some (Value.int z)) (rB_g hB1 hi hm 2 (by decide))) dX7_links_66 ?_
                refine lv_istore (lv' := [(6, .int (nI (N (23 + 13 * i + 12)))), (5, .ref (ad (17 + 3 * i))), (4, .ref (ad (15 + 3 * i))), (0, .ref (ad 0)), (1, .int (nI i)), (2, .int (nI w)), (3, .int (nI k))]) hx hb dX7_links_69 hl (by decide) rfl (fun ls hl => ?_)
                refine lv_aload hx hb dX7_links_71 (lv_at hl 1 rfl) ?_
                refine lv_iload_n hx hb dX7_links_73 rfl (lv_at hl 6 rfl) ?_
                refine k_put (C := RX0) (T := TX0) (N := 3) (ty0 := tyX0) (ty := .int) (v := .int (nI k)) hx hb hts hown E I iX0 tyX0_ok nmX0 (17 + 3 * i) (by omega) (r0 := σ_61 (17 + 3 * i)) rfl (kc_G H_i) rfl 2 (by decide) (List.mem_of_getElem? (i := 3) rfl) rfl rfl rfl rfl (Nat.le_of_ble_eq_true rfl) (upd (σ_61 (17 + 3 * i)) 2 (nI k)) (kc_G (cy := cy) (ad := ad) (r := (upd (σ_61 (17 + 3 * i)) 2 (nI k))) H_i).symm (σ2 := va_up σ_61 (17 + 3 * i) (upd (σ_61 (17 + 3 * i)) 2 (nI k))) rfl dX7_links_74 (fun H locs I => ?_)
                refine lv_iload hx hb dX7_links_77 (lv_at hl 0 rfl) ?_
                exact k_iret hx hb hr hlk I dX7_links_79 (by rw [sLinks_ok hoS hcl (Nat.zero_le _) w2 k1 k2, gLinks, if_neg (by omega)]; first | (subst hw0; exact ⟨rfl, ks_change hC hp1 hlo (ks_first hB1 hN hi rfl).1 (ks_first hB1 hN hi rfl).2 (nOk_links hN hi (Or.inl rfl) k1 k2).1 (nOk_links hN hi (Or.inl rfl) k1 k2).2⟩) | (subst hw1; have hq := links2 (k := k) hB1 hN hi hm rfl; exact ⟨rfl, ks_change hC hp1 hlo hq.1 hq.2 (nOk_links hN hi (Or.inr ⟨rfl, hm⟩) k1 k2).1 (nOk_links hN hi (Or.inr ⟨rfl, hm⟩) k1 k2).2⟩))
            · refine lv_astoreN (lv' := [(5, .null), (4, .ref (ad (15 + 3 * i))), (0, .ref (ad 0)), (1, .int (nI i)), (2, .int (nI w)), (3, .int (nI k))]) hx hb dX7_links_42 hl (by decide) rfl (fun ls hl => ?_)
              refine lv_aload hx hb dX7_links_44 (lv_at hl 1 rfl) ?_
              refine k_get (C := RX6) (T := TX6) (N := 10) (v := .int (nI (N (23 + 13 * i + 7)))) hx hb hts hown E I iX6 (15 + 3 * i) (by omega) (r0 := σ (15 + 3 * i)) rfl (kc_S H_i) rfl 3 (by decide) (List.mem_of_getElem? (i := 2) rfl) (congrArg (fun z => some (Value.int z)) (rB_f hB hi 7 (by decide))) dX7_links_46 ?_
              refine lv_if_ne (tgt := 57) hx hb dX7_links_49 (by decide) (fun c_49 => ?_) (fun c_49 => ?_)
              · have c_49 : ¬ ((N (23 + 13 * i + 7)) = 0) := fun q_ => c_49 ((nI_eq (by omega) (by decide)).mpr q_)
                refine lv_bipush (v := (-2 : Int32)) hx hb dX7_links_57 (by decide) ?_
                exact k_iret hx hb hr hlk I dX7_links_59 (by rw [sLinks_ok hoS hcl (Nat.zero_le _) w2 k1 k2, gLinks, if_pos (by omega)]; exact ⟨rfl, hC⟩)
              · have c_49 : (N (23 + 13 * i + 7)) = 0 := (nI_eq (by omega) (by decide)).mp c_49
                refine lv_aloadN hx hb dX7_links_52 (lv_at hl 0 rfl) ?_
                refine lv_ifnonnullN hx hb dX7_links_54 ?_
                refine lv_bipush (v := (-2 : Int32)) hx hb dX7_links_57 (by decide) ?_
                exact k_iret hx hb hr hlk I dX7_links_59 (by rw [sLinks_ok hoS hcl (Nat.zero_le _) w2 k1 k2, gLinks, if_pos (by omega)]; exact ⟨rfl, hC⟩)
          · exact absurd c_31 (by decide)
        · refine lv_if_ne (tgt := 36) hx hb dX7_links_31 (by decide) (fun c_31 => ?_) (fun c_31 => ?_)
          · exact absurd c_31 (by decide)
          · refine lv_iconst (v := (-1 : Int32)) hx hb dX7_links_34 (by decide) ?_
            exact k_iret hx hb hr hlk I dX7_links_35 (by rw [sLinks_bad (by first | exact fun q => hnS q.1 | exact fun q => g1 q.2.1 | exact fun q => g2 q.2.2)]; exact ⟨rfl, hC⟩)
    · refine lv_if_eq (tgt := 34) hx hb dX7_links_21 (by decide) (fun c_21 => ?_) (fun c_21 => ?_)
      · refine lv_iconst (v := (-1 : Int32)) hx hb dX7_links_34 (by decide) ?_
        exact k_iret hx hb hr hlk I dX7_links_35 (by rw [sLinks_bad (by first | exact fun q => hnS q.1 | exact fun q => g1 q.2.1 | exact fun q => g2 q.2.2)]; exact ⟨rfl, hC⟩)
      · exact absurd c_21 (by decide)
  · have hnS := okS_no h5.2.2.2.1 hno
    refine lv_astoreN (lv' := [(4, .null), (0, .ref (ad 0)), (1, .int s0), (2, .int a), (3, .int n)]) hx hb dX7_links_8 hl (by decide) rfl (fun ls hl => ?_)
    refine lv_aloadN hx hb dX7_links_10 (lv_at hl 0 rfl) ?_
    refine lv_ifnullN (tgt := 34) hx hb dX7_links_12 (by decide) ?_
    refine lv_iconst (v := (-1 : Int32)) hx hb dX7_links_34 (by decide) ?_
    exact k_iret hx hb hr hlk I dX7_links_35 (by rw [sLinks_bad (by first | exact fun q => hnS q.1 | exact fun q => g1 q.2.1 | exact fun q => g2 q.2.2)]; exact ⟨rfl, hC⟩)
set_option maxHeartbeats 4000000 in
set_option maxRecDepth 100000 in
theorem c_X7_moor (cy : Nat → ClassId) (D : va_G) (ad : Nat → Nat) (l : Launch) (σ : Nat → Nat → Int32) (s0 x y n : Int32) (N : Nat → Nat) (P : Nat → Nat → Nat) (np : Nat) (T : Nat → Nat) (nt : Nat) (hC : rC σ (N, P, np, T, nt)) : kMi 38 ad (kcC cy ad) cy D l yX7_moor wsX7_moor ({ frames := 4, cells := 0, slots := 0, locals := 87 }) [.ref (ad 0), .int s0, .int x, .int y, .int n] σ (fun r σ' => r = (sMoor s0 x y n (N, P, np, T, nt)).1 ∧ rC σ' (sMoor s0 x y n (N, P, np, T, nt)).2) := by
  obtain ⟨hB, hN, hPa, hT⟩ := id hC
  have h5 := hN.1
  refine k_entry (cc := cX7_moor) (maxL := 6) (ret := (some .int)) (by decide) rfl (Nat.le_of_ble_eq_true rfl) ?_
  intro p e s m below meth c hx hb hr hml hown hts hlk E I ls hl
  have hA : ∀ q, s.heap.size ≤ q → kA 38 ad s.heap.size q := fun q h => Or.inr h
  have hown : s.vm.findClass RX7 = some m.cls := hown
  have hl : lv_has ls 6 [(0, .ref (ad 0)), (1, .int s0), (2, .int x), (3, .int y), (4, .int n)] := hl
  have iX6 : ∀ w ∈ u_ws RX6 TX6 10, w ∈ wsX7_moor := fun w h => List.mem_cons_of_mem _ (List.mem_append_left _ (List.mem_append_left _ (List.mem_append_left _ (List.mem_append_right _ h))))
  have iX7 : ∀ w ∈ u_ws RX7 TX7 4, w ∈ wsX7_moor := fun w h => List.mem_cons_of_mem _ (List.mem_append_left _ (List.mem_append_left _ (List.mem_append_left _ (List.mem_append_left _ (List.mem_append_right _ h)))))
  refine lv_aload_n hx hb dX7_moor_0 rfl (lv_at hl 0 rfl) ?_
  refine k_get (C := RX7) (T := TX7) (N := 4) (v := .ref (ad 11)) hx hb hts hown E I iX7 (0) (by decide) (r0 := σ 0) rfl kc_0 rfl 2 (by decide) (List.mem_of_getElem? (i := 1) rfl) rfl dX7_moor_1 ?_
  refine lv_iload_n hx hb dX7_moor_4 rfl (lv_at hl 1 rfl) ?_
  refine k_callq (k := 11) (As := [.int s0]) (rest := []) ⟨hx, hb, hml, hown, hts⟩ (c_X1_shipAt cy D ad l σ (s0) (N 1) (by omega) hB.1.2.1) (cwV 1 hts gX7_moor_X1_shipAt rfl rfl rfl (by decide +kernel) ⟨Nat.le_of_ble_eq_true rfl, Nat.le_of_ble_eq_true rfl⟩) E hA I (k_recv E I (by decide) kc_11 rfl) rfl hl.1 rfl (lv_room (Nat.le_of_ble_eq_true rfl)) dX7_moor_5 ⟨Nat.le_of_ble_eq_true rfl, Nat.le_of_ble_eq_true rfl⟩ (fun r_5 σ_5 H locs hp_5 I => ?_)
  obtain ⟨rfl, hk_⟩ := hp_5
  rcases hk_ with ⟨i, hi, rfl, rfl⟩ | ⟨hno, rfl⟩
  · have H_i : i < 5 := by omega
    have hsh := hN.2.2 i hi
    unfold nSh at hsh
    have hoS := okS_nI hi h5.2.2.2.1
    have hcl : (nI i).toNatClampNeg = i := nI_clamp (by omega)
    refine lv_astore (lv' := [(5, .ref (ad (15 + 3 * i))), (0, .ref (ad 0)), (1, .int (nI i)), (2, .int x), (3, .int y), (4, .int n)]) hx hb dX7_moor_8 hl (by decide) rfl (fun ls hl => ?_)
    refine lv_aload hx hb dX7_moor_10 (lv_at hl 0 rfl) ?_
    refine lv_ifnull hx hb dX7_moor_12 ?_
    refine lv_aload_n hx hb dX7_moor_15 rfl (lv_at hl 1 rfl) ?_
    refine k_get (C := RX7) (T := TX7) (N := 4) (v := .ref (ad 11)) hx hb hts hown E I iX7 (0) (by decide) (r0 := σ 0) rfl kc_0 rfl 2 (by decide) (List.mem_of_getElem? (i := 1) rfl) rfl dX7_moor_16 ?_
    refine lv_iload_n hx hb dX7_moor_19 rfl (lv_at hl 3 rfl) ?_
    refine lv_iload_n hx hb dX7_moor_20 rfl (lv_at hl 4 rfl) ?_
    refine k_calli (k := 11) (As := [.int x, .int y]) (rest := []) ⟨hx, hb, hml, hown, hts⟩ (c_X1_isCell cy D ad l σ (x) (y) (N 0) (by omega) (by omega) hB.1.1) (cwV 2 hts gX7_moor_X1_isCell rfl rfl rfl (by decide +kernel) ⟨Nat.le_of_ble_eq_true rfl, Nat.le_of_ble_eq_true rfl⟩) E hA I (k_recv E I (by decide) kc_11 rfl) rfl hl.1 rfl (lv_room (Nat.le_of_ble_eq_true rfl)) dX7_moor_21 ⟨Nat.le_of_ble_eq_true rfl, Nat.le_of_ble_eq_true rfl⟩ (fun r_21 σ_21 H locs hp_21 I => ?_)
    obtain ⟨hk_, rfl⟩ := hp_21
    rcases hk_ with ⟨rfl, g1⟩ | ⟨rfl, g1⟩
    · obtain ⟨xx, xx1, rfl⟩ := kx_of g1.1 g1.2.1
      obtain ⟨yy, yy1, rfl⟩ := kx_of (C := 20) g1.2.2.1 (by omega)
      refine lv_if_eq (tgt := 38) hx hb dX7_moor_24 (by decide) (fun c_24 => ?_) (fun c_24 => ?_)
      · exact absurd c_24 (by decide)
      · refine lv_iload hx hb dX7_moor_27 (lv_at hl 5 rfl) ?_
        refine lv_iconst (v := nI 1) hx hb dX7_moor_29 (by decide) ?_
        refine lv_bipush (v := nI 60) hx hb dX7_moor_30 (by decide) ?_
        refine k_calls (As := [.int n, .int (nI 1), .int (nI 60)]) (rest := []) ⟨hx, hb, hml, hown, hts⟩ (c_X7_within l (n) (nI 1) (nI 60)) (va_cwS 3 hts gX7_moor_X7_within rfl rfl rfl (by decide +kernel) ⟨Nat.le_of_ble_eq_true rfl, Nat.le_of_ble_eq_true rfl⟩) rfl hl.1 rfl (lv_room (Nat.le_of_ble_eq_true rfl)) dX7_moor_32 ⟨Nat.le_of_ble_eq_true rfl, Nat.le_of_ble_eq_true rfl⟩ (fun r_32 hp_32 => ?_)
        rcases hp_32 with ⟨rfl, g2⟩ | ⟨rfl, g2⟩
        · obtain ⟨k, k1, k2, rfl⟩ := kT_in (by decide) (by decide) g2
          refine lv_if_ne (tgt := 40) hx hb dX7_moor_35 (by decide) (fun c_35 => ?_) (fun c_35 => ?_)
          · refine lv_aload hx hb dX7_moor_40 (lv_at hl 0 rfl) ?_
            refine k_get (C := RX6) (T := TX6) (N := 10) (v := .int (nI (N (23 + 13 * i + 7)))) hx hb hts hown E I iX6 (15 + 3 * i) (by omega) (r0 := σ (15 + 3 * i)) rfl (kc_S H_i) rfl 3 (by decide) (List.mem_of_getElem? (i := 2) rfl) (congrArg (fun z => some (Value.int z)) (rB_f hB hi 7 (by decide))) dX7_moor_42 ?_
            refine lv_if_ne (tgt := 56) hx hb dX7_moor_45 (by decide) (fun c_45 => ?_) (fun c_45 => ?_)
            · have c_45 : ¬ ((N (23 + 13 * i + 7)) = 0) := fun q_ => c_45 ((nI_eq (by omega) (by decide)).mpr q_)
              refine lv_bipush (v := (-2 : Int32)) hx hb dX7_moor_56 (by decide) ?_
              exact k_iret hx hb hr hlk I dX7_moor_58 (by rw [sMoor_ok hoS hcl xx1 h5.2.1 yy1 k1 k2, gMoor, if_pos (by omega)]; exact ⟨rfl, hC⟩)
            · have c_45 : (N (23 + 13 * i + 7)) = 0 := (nI_eq (by omega) (by decide)).mp c_45
              refine lv_aload hx hb dX7_moor_48 (lv_at hl 0 rfl) ?_
              refine k_get (C := RX6) (T := TX6) (N := 10) (v := .int (nI (N (23 + 13 * i + 9)))) hx hb hts hown E I iX6 (15 + 3 * i) (by omega) (r0 := σ (15 + 3 * i)) rfl (kc_S H_i) rfl 2 (by decide) (List.mem_of_getElem? (i := 3) rfl) (congrArg (fun z => some (Value.int z)) (rB_f hB hi 9 (by decide))) dX7_moor_50 ?_
              refine lv_if_eq (tgt := 59) hx hb dX7_moor_53 (by decide) (fun c_53 => ?_) (fun c_53 => ?_)
              · have c_53 : (N (23 + 13 * i + 9)) = 0 := (nI_eq (by omega) (by decide)).mp c_53
                refine lv_aload_n hx hb dX7_moor_59 rfl (lv_at hl 1 rfl) ?_
                refine k_callv (k := 0) (As := []) (rest := []) ⟨hx, hb, hml, hown, hts⟩ (c_X7_remember cy D ad l σ N hN hB P np hPa) (cwV 0 hts gX7_moor_X7_remember rfl rfl rfl (by decide +kernel) ⟨Nat.le_of_ble_eq_true rfl, Nat.le_of_ble_eq_true rfl⟩) E hA I (k_recv E I (by decide) kc_0 rfl) rfl hl.1 rfl (lv_room (Nat.le_of_ble_eq_true rfl)) dX7_moor_60 ⟨Nat.le_of_ble_eq_true rfl, Nat.le_of_ble_eq_true rfl⟩ (fun σ_60 H locs hp_60 I => ?_)
                obtain ⟨hp1, hB1, hlo⟩ := hp_60
                refine lv_aload hx hb dX7_moor_63 (lv_at hl 0 rfl) ?_
                refine lv_iconst (v := nI 1) hx hb dX7_moor_65 (by decide) ?_
                refine k_put (C := RX6) (T := TX6) (N := 10) (ty0 := tyX6) (ty := .boolean) (v := .int (nI 1)) hx hb hts hown E I iX6 tyX6_ok nmX6 (15 + 3 * i) (by omega) (r0 := σ_60 (15 + 3 * i)) rfl (kc_S H_i) rfl 2 (by decide) (List.mem_of_getElem? (i := 3) rfl) rfl rfl (by decide) (by decide) (Nat.le_of_ble_eq_true rfl) (upd (σ_60 (15 + 3 * i)) 2 (nI 1)) (kc_S (cy := cy) (ad := ad) (r := (upd (σ_60 (15 + 3 * i)) 2 (nI 1))) H_i).symm (σ2 := va_up σ_60 (15 + 3 * i) (upd (σ_60 (15 + 3 * i)) 2 (nI 1))) rfl dX7_moor_66 (fun H locs I => ?_)
                refine lv_aload hx hb dX7_moor_69 (lv_at hl 0 rfl) ?_
                refine k_get (C := RX6) (T := TX6) (N := 10) (v := .ref (ad (17 + 3 * i))) hx hb hts hown E I iX6 (15 + 3 * i) (by omega) (r0 := (upd (σ_60 (15 + 3 * i)) 2 (nI 1))) (by rw [va_up_self]) (kc_S H_i) rfl 1 (by decide) (List.mem_of_getElem? (i := 4) rfl) rfl dX7_moor_71 ?_
                refine lv_iload_n hx hb dX7_moor_74 rfl (lv_at hl 3 rfl) ?_
                refine lv_iload_n hx hb dX7_moor_75 rfl (lv_at hl 4 rfl) ?_
                refine lv_iload hx hb dX7_moor_76 (lv_at hl 5 rfl) ?_
                refine k_callv (k := 17 + 3 * i) (As := [.int (nI xx), .int (nI yy), .int (nI k)]) (rest := []) ⟨hx, hb, hml, hown, hts⟩ (c_X0_put2 cy D ad l (va_up σ_60 (15 + 3 * i) (upd (σ_60 (15 + 3 * i)) 2 (nI 1))) i H_i ((nI xx)) ((nI yy)) ((nI k))) (cwV 3 hts gX7_moor_X0_put rfl rfl rfl (by decide +kernel) ⟨Nat.le_of_ble_eq_true rfl, Nat.le_of_ble_eq_true rfl⟩) E hA I (k_recv E I (by omega) (kc_G H_i) rfl) rfl hl.1 rfl (lv_room (Nat.le_of_ble_eq_true rfl)) dX7_moor_78 ⟨Nat.le_of_ble_eq_true rfl, Nat.le_of_ble_eq_true rfl⟩ (fun σ_78 H locs hp_78 I => ?_)
                rw [va_up_ne _ _ (show 17 + 3 * i ≠ 15 + 3 * i by omega)] at hp_78
                refine lv_aload_n hx hb dX7_moor_81 rfl (lv_at hl 1 rfl) ?_
                refine k_get (C := RX7) (T := TX7) (N := 4) (v := .ref (ad 11)) hx hb hts hown E I iX7 (0) (by decide) (r0 := σ_78 0) rfl kc_0 rfl 2 (by decide) (List.mem_of_getElem? (i := 1) rfl) rfl dX7_moor_82 ?_
                refine lv_iload_n hx hb dX7_moor_85 rfl (lv_at hl 3 rfl) ?_
                refine k_calli (k := 11) (As := [.int (nI xx)]) (rest := []) ⟨hx, hb, hml, hown, hts⟩ (c_X1_depthAt cy D ad l σ_78 xx (by omega)) (cwV 1 hts gX7_moor_X1_depthAt rfl rfl rfl (by decide +kernel) ⟨Nat.le_of_ble_eq_true rfl, Nat.le_of_ble_eq_true rfl⟩) E hA I (k_recv E I (by decide) kc_11 rfl) rfl hl.1 rfl (lv_room (Nat.le_of_ble_eq_true rfl)) dX7_moor_86 ⟨Nat.le_of_ble_eq_true rfl, Nat.le_of_ble_eq_true rfl⟩ (fun r_86 σ_86 H locs hp_86 I => ?_)
                obtain ⟨rfl, rfl⟩ := hp_86
                have e12 : σ_78 12 xx = nI (N (3 + xx)) := by rw [hp_78, va_up_ne _ _ (by omega), va_up_ne _ _ (by omega)]; exact hB1.2.1 xx xx1
                rw [e12]
                exact k_iret hx hb hr hlk I dX7_moor_89 (by rw [sMoor_ok hoS hcl xx1 h5.2.1 yy1 k1 k2, gMoor, if_neg (by omega)]; have hq := moor2 hB1 hN hi hp_78; exact ⟨rfl, ks_change hC hp1 hlo hq.1 hq.2 (nOk_moor hN hi xx1 yy1 k1 k2).1 (nOk_moor hN hi xx1 yy1 k1 k2).2⟩)
              · have c_53 : ¬ ((N (23 + 13 * i + 9)) = 0) := fun q_ => c_53 ((nI_eq (by omega) (by decide)).mpr q_)
                refine lv_bipush (v := (-2 : Int32)) hx hb dX7_moor_56 (by decide) ?_
                exact k_iret hx hb hr hlk I dX7_moor_58 (by rw [sMoor_ok hoS hcl xx1 h5.2.1 yy1 k1 k2, gMoor, if_pos (by omega)]; exact ⟨rfl, hC⟩)
          · exact absurd c_35 (by decide)
        · refine lv_if_ne (tgt := 40) hx hb dX7_moor_35 (by decide) (fun c_35 => ?_) (fun c_35 => ?_)
          · exact absurd c_35 (by decide)
          · refine lv_iconst (v := (-1 : Int32)) hx hb dX7_moor_38 (by decide) ?_
            exact k_iret hx hb hr hlk I dX7_moor_39 (by rw [sMoor_bad (by first | exact fun q => hnS q.1 | exact fun q => g1 q.2.1 | exact fun q => g2 q.2.2)]; exact ⟨rfl, hC⟩)
    · refine lv_if_eq (tgt := 38) hx hb dX7_moor_24 (by decide) (fun c_24 => ?_) (fun c_24 => ?_)
      · refine lv_iconst (v := (-1 : Int32)) hx hb dX7_moor_38 (by decide) ?_
        exact k_iret hx hb hr hlk I dX7_moor_39 (by rw [sMoor_bad (by first | exact fun q => hnS q.1 | exact fun q => g1 q.2.1 | exact fun q => g2 q.2.2)]; exact ⟨rfl, hC⟩)
      · exact absurd c_24 (by decide)
  · have hnS := okS_no h5.2.2.2.1 hno
    refine lv_astoreN (lv' := [(5, .null), (0, .ref (ad 0)), (1, .int s0), (2, .int x), (3, .int y), (4, .int n)]) hx hb dX7_moor_8 hl (by decide) rfl (fun ls hl => ?_)
    refine lv_aloadN hx hb dX7_moor_10 (lv_at hl 0 rfl) ?_
    refine lv_ifnullN (tgt := 38) hx hb dX7_moor_12 (by decide) ?_
    refine lv_iconst (v := (-1 : Int32)) hx hb dX7_moor_38 (by decide) ?_
    exact k_iret hx hb hr hlk I dX7_moor_39 (by rw [sMoor_bad (by first | exact fun q => hnS q.1 | exact fun q => g1 q.2.1 | exact fun q => g2 q.2.2)]; exact ⟨rfl, hC⟩)
set_option maxHeartbeats 4000000 in
set_option maxRecDepth 100000 in
theorem c_X7_weigh (cy : Nat → ClassId) (D : va_G) (ad : Nat → Nat) (l : Launch) (σ : Nat → Nat → Int32) (s0 : Int32) (N : Nat → Nat) (P : Nat → Nat → Nat) (np : Nat) (T : Nat → Nat) (nt : Nat) (hC : rC σ (N, P, np, T, nt)) : kMi 38 ad (kcC cy ad) cy D l yX7_weigh wsX7_weigh ({ frames := 4, cells := 0, slots := 0, locals := 87 }) [.ref (ad 0), .int s0] σ (fun r σ' => r = (sWeigh s0 (N, P, np, T, nt)).1 ∧ rC σ' (sWeigh s0 (N, P, np, T, nt)).2) := by
  obtain ⟨hB, hN, hPa, hT⟩ := id hC
  have h5 := hN.1
  refine k_entry (cc := cX7_weigh) (maxL := 3) (ret := (some .int)) (by decide) rfl (Nat.le_of_ble_eq_true rfl) ?_
  intro p e s m below meth c hx hb hr hml hown hts hlk E I ls hl
  have hA : ∀ q, s.heap.size ≤ q → kA 38 ad s.heap.size q := fun q h => Or.inr h
  have hown : s.vm.findClass RX7 = some m.cls := hown
  have hl : lv_has ls 3 [(0, .ref (ad 0)), (1, .int s0)] := hl
  have iX0 : ∀ w ∈ u_ws RX0 TX0 3, w ∈ wsX7_weigh := fun w h => List.mem_cons_of_mem _ (List.mem_append_left _ (List.mem_append_left _ (List.mem_append_right _ h)))
  have iX6 : ∀ w ∈ u_ws RX6 TX6 10, w ∈ wsX7_weigh := fun w h => List.mem_cons_of_mem _ (List.mem_append_left _ (List.mem_append_left _ (List.mem_append_left _ (List.mem_append_right _ h))))
  have iX7 : ∀ w ∈ u_ws RX7 TX7 4, w ∈ wsX7_weigh := fun w h => List.mem_cons_of_mem _ (List.mem_append_left _ (List.mem_append_left _ (List.mem_append_left _ (List.mem_append_left _ (List.mem_append_right _ h)))))
  refine lv_aload_n hx hb dX7_weigh_0 rfl (lv_at hl 0 rfl) ?_
  refine k_get (C := RX7) (T := TX7) (N := 4) (v := .ref (ad 11)) hx hb hts hown E I iX7 (0) (by decide) (r0 := σ 0) rfl kc_0 rfl 2 (by decide) (List.mem_of_getElem? (i := 1) rfl) rfl dX7_weigh_1 ?_
  refine lv_iload_n hx hb dX7_weigh_4 rfl (lv_at hl 1 rfl) ?_
  refine k_callq (k := 11) (As := [.int s0]) (rest := []) ⟨hx, hb, hml, hown, hts⟩ (c_X1_shipAt cy D ad l σ (s0) (N 1) (by omega) hB.1.2.1) (cwV 1 hts gX7_weigh_X1_shipAt rfl rfl rfl (by decide +kernel) ⟨Nat.le_of_ble_eq_true rfl, Nat.le_of_ble_eq_true rfl⟩) E hA I (k_recv E I (by decide) kc_11 rfl) rfl hl.1 rfl (lv_room (Nat.le_of_ble_eq_true rfl)) dX7_weigh_5 ⟨Nat.le_of_ble_eq_true rfl, Nat.le_of_ble_eq_true rfl⟩ (fun r_5 σ_5 H locs hp_5 I => ?_)
  obtain ⟨rfl, hk_⟩ := hp_5
  rcases hk_ with ⟨i, hi, rfl, rfl⟩ | ⟨hno, rfl⟩
  · have H_i : i < 5 := by omega
    have hsh := hN.2.2 i hi
    unfold nSh at hsh
    have hoS := okS_nI hi h5.2.2.2.1
    have hcl : (nI i).toNatClampNeg = i := nI_clamp (by omega)
    refine lv_astore_n (lv' := [(2, .ref (ad (15 + 3 * i))), (0, .ref (ad 0)), (1, .int (nI i))]) hx hb dX7_weigh_8 rfl hl (by decide) rfl (fun ls hl => ?_)
    refine lv_aload_n hx hb dX7_weigh_9 rfl (lv_at hl 0 rfl) ?_
    refine lv_ifnonnull (tgt := 15) hx hb dX7_weigh_10 (by decide) ?_
    refine lv_aload_n hx hb dX7_weigh_15 rfl (lv_at hl 0 rfl) ?_
    refine k_get (C := RX6) (T := TX6) (N := 10) (v := .int (nI (N (23 + 13 * i + 7)))) hx hb hts hown E I iX6 (15 + 3 * i) (by omega) (r0 := σ (15 + 3 * i)) rfl (kc_S H_i) rfl 3 (by decide) (List.mem_of_getElem? (i := 2) rfl) (congrArg (fun z => some (Value.int z)) (rB_f hB hi 7 (by decide))) dX7_weigh_16 ?_
    refine lv_if_ne (tgt := 29) hx hb dX7_weigh_19 (by decide) (fun c_19 => ?_) (fun c_19 => ?_)
    · have c_19 : ¬ ((N (23 + 13 * i + 7)) = 0) := fun q_ => c_19 ((nI_eq (by omega) (by decide)).mpr q_)
      refine lv_bipush (v := (-2 : Int32)) hx hb dX7_weigh_29 (by decide) ?_
      exact k_iret hx hb hr hlk I dX7_weigh_31 (by rw [sWeigh_ok hoS hcl, gWeigh, if_pos (by omega)]; exact ⟨rfl, hC⟩)
    · have c_19 : (N (23 + 13 * i + 7)) = 0 := (nI_eq (by omega) (by decide)).mp c_19
      refine lv_aload_n hx hb dX7_weigh_22 rfl (lv_at hl 0 rfl) ?_
      refine k_get (C := RX6) (T := TX6) (N := 10) (v := .int (nI (N (23 + 13 * i + 9)))) hx hb hts hown E I iX6 (15 + 3 * i) (by omega) (r0 := σ (15 + 3 * i)) rfl (kc_S H_i) rfl 2 (by decide) (List.mem_of_getElem? (i := 3) rfl) (congrArg (fun z => some (Value.int z)) (rB_f hB hi 9 (by decide))) dX7_weigh_23 ?_
      refine lv_if_ne (tgt := 32) hx hb dX7_weigh_26 (by decide) (fun c_26 => ?_) (fun c_26 => ?_)
      · have c_26 : ¬ ((N (23 + 13 * i + 9)) = 0) := fun q_ => c_26 ((nI_eq (by omega) (by decide)).mpr q_)
        have hm : N (23 + 13 * i + 9) = 1 := by omega
        refine lv_aload_n hx hb dX7_weigh_32 rfl (lv_at hl 1 rfl) ?_
        refine k_callv (k := 0) (As := []) (rest := []) ⟨hx, hb, hml, hown, hts⟩ (c_X7_remember cy D ad l σ N hN hB P np hPa) (cwV 0 hts gX7_weigh_X7_remember rfl rfl rfl (by decide +kernel) ⟨Nat.le_of_ble_eq_true rfl, Nat.le_of_ble_eq_true rfl⟩) E hA I (k_recv E I (by decide) kc_0 rfl) rfl hl.1 rfl (lv_room (Nat.le_of_ble_eq_true rfl)) dX7_weigh_33 ⟨Nat.le_of_ble_eq_true rfl, Nat.le_of_ble_eq_true rfl⟩ (fun σ_33 H locs hp_33 I => ?_)
        obtain ⟨hp1, hB1, hlo⟩ := hp_33
        refine lv_aload_n hx hb dX7_weigh_36 rfl (lv_at hl 0 rfl) ?_
        refine lv_iconst (v := nI 0) hx hb dX7_weigh_37 (by decide) ?_
        refine k_put (C := RX6) (T := TX6) (N := 10) (ty0 := tyX6) (ty := .boolean) (v := .int (nI 0)) hx hb hts hown E I iX6 tyX6_ok nmX6 (15 + 3 * i) (by omega) (r0 := σ_33 (15 + 3 * i)) rfl (kc_S H_i) rfl 2 (by decide) (List.mem_of_getElem? (i := 3) rfl) rfl rfl (by decide) (by decide) (Nat.le_of_ble_eq_true rfl) (upd (σ_33 (15 + 3 * i)) 2 (nI 0)) (kc_S (cy := cy) (ad := ad) (r := (upd (σ_33 (15 + 3 * i)) 2 (nI 0))) H_i).symm (σ2 := va_up σ_33 (15 + 3 * i) (upd (σ_33 (15 + 3 * i)) 2 (nI 0))) rfl dX7_weigh_38 (fun H locs I => ?_)
        refine lv_aload_n hx hb dX7_weigh_41 rfl (lv_at hl 0 rfl) ?_
        refine k_get (C := RX6) (T := TX6) (N := 10) (v := .ref (ad (17 + 3 * i))) hx hb hts hown E I iX6 (15 + 3 * i) (by omega) (r0 := (upd (σ_33 (15 + 3 * i)) 2 (nI 0))) (by rw [va_up_self]) (kc_S H_i) rfl 1 (by decide) (List.mem_of_getElem? (i := 4) rfl) rfl dX7_weigh_42 ?_
        refine k_get (C := RX0) (T := TX0) (N := 3) (v := .int (nI (N (23 + 13 * i + 12)))) hx hb hts hown E I iX0 (17 + 3 * i) (by omega) (r0 := σ_33 (17 + 3 * i)) (by rw [va_up_ne _ _ (by omega)]) (kc_G H_i) rfl 2 (by decide) (List.mem_of_getElem? (i := 5) rfl) (congrArg (fun z => some (Value.int z)) (rB_g hB1 hi hm 2 (by decide))) dX7_weigh_45 ?_
        exact k_iret hx hb hr hlk I dX7_weigh_48 (by rw [sWeigh_ok hoS hcl, gWeigh, if_neg (by omega)]; have hq := weigh2 hB1 hN hi rfl; exact ⟨rfl, ks_change hC hp1 hlo hq.1 hq.2 (nOk_weigh hN hi).1 (nOk_weigh hN hi).2⟩)
      · have c_26 : (N (23 + 13 * i + 9)) = 0 := (nI_eq (by omega) (by decide)).mp c_26
        refine lv_bipush (v := (-2 : Int32)) hx hb dX7_weigh_29 (by decide) ?_
        exact k_iret hx hb hr hlk I dX7_weigh_31 (by rw [sWeigh_ok hoS hcl, gWeigh, if_pos (by omega)]; exact ⟨rfl, hC⟩)
  · have hnS := okS_no h5.2.2.2.1 hno
    refine lv_astore_nN (lv' := [(2, .null), (0, .ref (ad 0)), (1, .int s0)]) hx hb dX7_weigh_8 rfl hl (by decide) rfl (fun ls hl => ?_)
    refine lv_aload_nN hx hb dX7_weigh_9 rfl (lv_at hl 0 rfl) ?_
    refine lv_ifnonnullN hx hb dX7_weigh_10 ?_
    refine lv_iconst (v := (-1 : Int32)) hx hb dX7_weigh_13 (by decide) ?_
    exact k_iret hx hb hr hlk I dX7_weigh_14 (by rw [sWeigh_bad (by first | exact fun q => hnS q)]; exact ⟨rfl, hC⟩)
set_option maxHeartbeats 4000000 in
set_option maxRecDepth 100000 in
theorem c_X7_hours (cy : Nat → ClassId) (D : va_G) (ad : Nat → Nat) (l : Launch) (σ : Nat → Nat → Int32) (n b d : Int32) (N : Nat → Nat) (P : Nat → Nat → Nat) (np : Nat) (T : Nat → Nat) (nt : Nat) (hC : rC σ (N, P, np, T, nt)) : kMi 38 ad (kcC cy ad) cy D l yX7_hours wsX7_hours ({ frames := 6, cells := 0, slots := 0, locals := 142 }) [.ref (ad 0), .int n, .int b, .int d] σ (fun r σ' => r = (sHours n b d (N, P, np, T, nt)).1 ∧ rC σ' (sHours n b d (N, P, np, T, nt)).2) := by
  obtain ⟨hB, hN, hPa, hT⟩ := id hC
  have h5 := hN.1
  refine k_entry (cc := cX7_hours) (maxL := 6) (ret := (some .int)) (by decide) rfl (Nat.le_of_ble_eq_true rfl) ?_
  intro p e s m below meth c hx hb hr hml hown hts hlk E I ls hl
  have hA : ∀ q, s.heap.size ≤ q → kA 38 ad s.heap.size q := fun q h => Or.inr h
  have hown : s.vm.findClass RX7 = some m.cls := hown
  have hl : lv_has ls 6 [(0, .ref (ad 0)), (1, .int n), (2, .int b), (3, .int d)] := hl
  generalize hQdef : MQ below (va_Qi (fun r σ' => r = (sHours n b d (N, P, np, T, nt)).1 ∧ rC σ' (sHours n b d (N, P, np, T, nt)).2) (kB 38 ad (kcC cy ad) D) (kA 38 ad s.heap.size)) [.ref (ad 0), .int n, .int b, .int d].toArray s 0 0 (kA 38 ad s.heap.size) = Q
  have iX1 : ∀ w ∈ u_ws RX1 TX1 6, w ∈ wsX7_hours := fun w h => List.mem_cons_of_mem _ (List.mem_append_left _ (List.mem_append_left _ (List.mem_append_left _ (List.mem_append_left _ (List.mem_append_right _ h)))))
  have iX7 : ∀ w ∈ u_ws RX7 TX7 4, w ∈ wsX7_hours := fun w h => List.mem_cons_of_mem _ (List.mem_append_left _ (List.mem_append_left _ (List.mem_append_left _ (List.mem_append_left _ (List.mem_append_left _ (List.mem_append_right _ h))))))
  refine lv_iload_n hx hb dX7_hours_0 rfl (lv_at hl 1 rfl) ?_
  refine lv_iconst (v := nI 1) hx hb dX7_hours_1 (by decide) ?_
  refine lv_bipush (v := nI 24) hx hb dX7_hours_2 (by decide) ?_
  refine k_calls (As := [.int n, .int (nI 1), .int (nI 24)]) (rest := []) ⟨hx, hb, hml, hown, hts⟩ (c_X7_within l (n) (nI 1) (nI 24)) (va_cwS 3 hts gX7_hours_X7_within rfl rfl rfl (by decide +kernel) ⟨Nat.le_of_ble_eq_true rfl, Nat.le_of_ble_eq_true rfl⟩) rfl hl.1 rfl (lv_room (Nat.le_of_ble_eq_true rfl)) dX7_hours_4 ⟨Nat.le_of_ble_eq_true rfl, Nat.le_of_ble_eq_true rfl⟩ (fun r_4 hp_4 => ?_)
  rcases hp_4 with ⟨rfl, g1⟩ | ⟨rfl, g1⟩
  · obtain ⟨nn, n1, n2, rfl⟩ := kT_in (by decide) (by decide) g1
    refine lv_if_eq (tgt := 26) hx hb dX7_hours_7 (by decide) (fun c_7 => ?_) (fun c_7 => ?_)
    · exact absurd c_7 (by decide)
    · refine lv_iload_n hx hb dX7_hours_10 rfl (lv_at hl 2 rfl) ?_
      refine k_calls (As := [.int b]) (rest := []) ⟨hx, hb, hml, hown, hts⟩ (c_X7_isWind l (b)) (va_cwS 1 hts gX7_hours_X7_isWind rfl rfl rfl (by decide +kernel) ⟨Nat.le_of_ble_eq_true rfl, Nat.le_of_ble_eq_true rfl⟩) rfl hl.1 rfl (lv_room (Nat.le_of_ble_eq_true rfl)) dX7_hours_11 ⟨Nat.le_of_ble_eq_true rfl, Nat.le_of_ble_eq_true rfl⟩ (fun r_11 hp_11 => ?_)
      rcases hp_11 with ⟨rfl, g2⟩ | ⟨rfl, g2⟩
      · obtain ⟨bb, b1, b2, rfl⟩ := kT_in (by decide) (by decide) g2
        refine lv_if_eq (tgt := 26) hx hb dX7_hours_14 (by decide) (fun c_14 => ?_) (fun c_14 => ?_)
        · exact absurd c_14 (by decide)
        · refine lv_iload_n hx hb dX7_hours_17 rfl (lv_at hl 3 rfl) ?_
          refine lv_iconst (v := nI 0) hx hb dX7_hours_18 (by decide) ?_
          refine lv_iconst (v := nI 3) hx hb dX7_hours_19 (by decide) ?_
          refine k_calls (As := [.int d, .int (nI 0), .int (nI 3)]) (rest := []) ⟨hx, hb, hml, hown, hts⟩ (c_X7_within l (d) (nI 0) (nI 3)) (va_cwS 3 hts gX7_hours_X7_within rfl rfl rfl (by decide +kernel) ⟨Nat.le_of_ble_eq_true rfl, Nat.le_of_ble_eq_true rfl⟩) rfl hl.1 rfl (lv_room (Nat.le_of_ble_eq_true rfl)) dX7_hours_20 ⟨Nat.le_of_ble_eq_true rfl, Nat.le_of_ble_eq_true rfl⟩ (fun r_20 hp_20 => ?_)
          rcases hp_20 with ⟨rfl, g3⟩ | ⟨rfl, g3⟩
          · obtain ⟨dd_, d1, d2, rfl⟩ := kT_in (by decide) (by decide) g3
            refine lv_if_ne (tgt := 28) hx hb dX7_hours_23 (by decide) (fun c_23 => ?_) (fun c_23 => ?_)
            · refine lv_aload_n hx hb dX7_hours_28 rfl (lv_at hl 0 rfl) ?_
              refine k_get (C := RX7) (T := TX7) (N := 4) (v := .ref (ad 11)) hx hb hts hown E I iX7 (0) (by decide) (r0 := σ 0) rfl kc_0 rfl 2 (by decide) (List.mem_of_getElem? (i := 1) rfl) rfl dX7_hours_29 ?_
              refine k_get (C := RX1) (T := TX1) (N := 6) (v := .int (nI (N 2))) hx hb hts hown E I iX1 (11) (by decide) (r0 := σ 11) rfl kc_11 rfl 5 (by decide) (List.mem_of_getElem? (i := 2) rfl) (congrArg (fun z => some (Value.int z)) hB.1.2.2) dX7_hours_32 ?_
              refine lv_iload_n hx hb dX7_hours_35 rfl (lv_at hl 1 rfl) ?_
              refine lv_iadd hx hb dX7_hours_36 ?_
              rw [nI_add]
              refine lv_sipush (v := nI 999) hx hb dX7_hours_37 (by decide) ?_
              refine lv_icmp_le (tgt := 46) hx hb dX7_hours_40 (by decide) (fun c_40 => ?_) (fun c_40 => ?_)
              · have c_40 : ((N 2) + nn) ≤ 999 := (nI_leI (by omega) (by omega)).mp c_40
                refine lv_aload_n hx hb dX7_hours_46 rfl (lv_at hl 0 rfl) ?_
                refine k_callv (k := 0) (As := []) (rest := []) ⟨hx, hb, hml, hown, hts⟩ (c_X7_remember cy D ad l σ N hN hB P np hPa) (cwV 0 hts gX7_hours_X7_remember rfl rfl rfl (by decide +kernel) ⟨Nat.le_of_ble_eq_true rfl, Nat.le_of_ble_eq_true rfl⟩) E hA I (k_recv E I (by decide) kc_0 rfl) rfl hl.1 rfl (lv_room (Nat.le_of_ble_eq_true rfl)) dX7_hours_47 ⟨Nat.le_of_ble_eq_true rfl, Nat.le_of_ble_eq_true rfl⟩ (fun σ_47 H locs hp_47 I => ?_)
                obtain ⟨hp1, hB1, hlo⟩ := hp_47
                refine lv_iconst (v := nI 0) hx hb dX7_hours_50 (by decide) ?_
                refine lv_istore (lv' := [(4, .int (nI 0)), (0, .ref (ad 0)), (1, .int (nI nn)), (2, .int (nI bb)), (3, .int (nI dd_))]) hx hb dX7_hours_51 hl (by decide) rfl (fun ls hl => ?_)
                refine lv_iconst (v := nI 0) hx hb dX7_hours_53 (by decide) ?_
                refine lv_istore (lv' := [(5, .int (nI 0)), (4, .int (nI 0)), (0, .ref (ad 0)), (1, .int (nI nn)), (2, .int (nI bb)), (3, .int (nI dd_))]) hx hb dX7_hours_54 hl (by decide) rfl (fun ls hl => ?_)
                have LP_56 : ∀ (fuel_56 : Nat) (j : Nat) (τ : Nat → Nat → Int32), nn - j < fuel_56 → (j ≤ nn) → (rBay τ (pHs N bb dd_ j)) → (fB σ_47 τ) → ∀ (H : Heap) (locs : List Loc), kI 38 ad (kcC cy ad) D (kA 38 ad s.heap.size) s.heap τ H locs → ∀ ls : Array Slot, lv_has ls 6 [(0, .ref (ad 0)), (1, .int (nI nn)), (2, .int (nI bb)), (3, .int (nI dd_)), (4, .int (nI (pHt N bb dd_ j))), (5, .int (nI j))] → W p l e (headSpec wsX7_hours ({ frames := 6, cells := 0, slots := 0, locals := 142 })).room s m [.ref (ad 0), .int (nI nn), .int (nI bb), .int (nI dd_)].toArray below meth c H locs 0 0 Q (F0 m 56 ls []) := by
                  intro fuel_56
                  induction fuel_56 with
                  | zero => intro j τ hf_56; exact absurd hf_56 (Nat.not_lt_zero _)
                  | succ fuel_56 ih_56 =>
                    intro j τ hf_56 hjn hBt hFt H locs I ls hl
                    have hMj := pHs_ok hN bb d2 j (by omega)
                    refine lv_iload hx hb dX7_hours_56 (lv_at hl 5 rfl) ?_
                    refine lv_iload_n hx hb dX7_hours_58 rfl (lv_at hl 1 rfl) ?_
                    refine lv_icmp_ge (tgt := 82) hx hb dX7_hours_59 (by decide) (fun c_59 => ?_) (fun c_59 => ?_)
                    · have c_59 : nn ≤ j := (nI_leI (by omega) (by omega)).mp c_59
                      have hje : j = nn := by omega
                      refine lv_iload hx hb dX7_hours_82 (lv_at hl 4 rfl) ?_
                      subst hQdef
                      exact k_iret hx hb hr hlk I dX7_hours_84 (by rw [sHours_ok n1 n2 (Nat.zero_le _) b2 (Nat.zero_le _) d2, gHours, if_neg (by omega)]; rw [hje] at hBt hMj ⊢; exact ⟨rfl, ks_change hC hp1 hlo hBt hFt hMj.1 hMj.2.1⟩)
                    · have c_59 : ¬ (nn ≤ j) := fun q_ => c_59 ((nI_leI (by omega) (by omega)).mpr q_)
                      refine lv_iload hx hb dX7_hours_62 (lv_at hl 4 rfl) ?_
                      refine lv_aload_n hx hb dX7_hours_64 rfl (lv_at hl 0 rfl) ?_
                      refine k_get (C := RX7) (T := TX7) (N := 4) (v := .ref (ad 11)) hx hb hts hown E I iX7 (0) (by decide) (r0 := τ 0) rfl kc_0 rfl 2 (by decide) (List.mem_of_getElem? (i := 1) rfl) rfl dX7_hours_65 ?_
                      refine lv_iload_n hx hb dX7_hours_68 rfl (lv_at hl 2 rfl) ?_
                      refine lv_iload_n hx hb dX7_hours_69 rfl (lv_at hl 3 rfl) ?_
                      refine k_calli (k := 11) (As := [.int (nI bb), .int (nI dd_)]) (rest := [.int (nI (pHt N bb dd_ j))]) ⟨hx, hb, hml, hown, hts⟩ (c_X1_passHour cy D ad l τ (pHs N bb dd_ j) hMj.1 hBt bb dd_ b2 d2) (cwV 2 hts gX7_hours_X1_passHour rfl rfl rfl (by decide +kernel) ⟨Nat.le_of_ble_eq_true rfl, Nat.le_of_ble_eq_true rfl⟩) E hA I (k_recv E I (by decide) kc_11 rfl) rfl hl.1 rfl (lv_room (Nat.le_of_ble_eq_true rfl)) dX7_hours_70 ⟨Nat.le_of_ble_eq_true rfl, Nat.le_of_ble_eq_true rfl⟩ (fun r_70 σ_70 H locs hp_70 I => ?_)
                      obtain ⟨rfl, hBn, hFn⟩ := hp_70
                      refine lv_iadd hx hb dX7_hours_73 ?_
                      rw [nI_add]
                      refine lv_istore (lv' := [(4, .int (nI ((pHt N bb dd_ j) + (pStr (pHs N bb dd_ j) bb dd_ (pHs N bb dd_ j 1))))), (0, .ref (ad 0)), (1, .int (nI nn)), (2, .int (nI bb)), (3, .int (nI dd_)), (5, .int (nI j))]) hx hb dX7_hours_74 hl (by decide) rfl (fun ls hl => ?_)
                      refine lv_iinc (v := nI (j + 1)) (lv' := [(5, .int (nI (j + 1))), (4, .int (nI ((pHt N bb dd_ j) + (pStr (pHs N bb dd_ j) bb dd_ (pHs N bb dd_ j 1))))), (0, .ref (ad 0)), (1, .int (nI nn)), (2, .int (nI bb)), (3, .int (nI dd_))]) hx hb dX7_hours_76 hl (k := 5) rfl (show nI j + Int32.ofInt 1 = nI (j + 1) from nI_add j 1) (by decide) rfl (fun ls hl => ?_)
                      refine lv_goto (tgt := 56) hx hb dX7_hours_79 (by decide) ?_
                      exact ih_56 (j + 1) σ_70 (by omega) (by omega) (hBn) (fB_tr hFt hFn) _ _ I _ (lv_sub hl [2, 3, 4, 5, 1, 0] rfl)
                exact LP_56 _ 0 σ_47 (Nat.lt_succ_self _) (Nat.zero_le _) (hB1) (fB_rf _) _ _ I _ (lv_sub hl [2, 3, 4, 5, 1, 0] rfl)
              · have c_40 : ¬ (((N 2) + nn) ≤ 999) := fun q_ => c_40 ((nI_leI (by omega) (by omega)).mpr q_)
                refine lv_bipush (v := (-2 : Int32)) hx hb dX7_hours_43 (by decide) ?_
                subst hQdef
                exact k_iret hx hb hr hlk I dX7_hours_45 (by rw [sHours_ok n1 n2 (Nat.zero_le _) b2 (Nat.zero_le _) d2, gHours, if_pos (by omega)]; exact ⟨rfl, hC⟩)
            · exact absurd c_23 (by decide)
          · refine lv_if_ne (tgt := 28) hx hb dX7_hours_23 (by decide) (fun c_23 => ?_) (fun c_23 => ?_)
            · exact absurd c_23 (by decide)
            · refine lv_iconst (v := (-1 : Int32)) hx hb dX7_hours_26 (by decide) ?_
              subst hQdef
              exact k_iret hx hb hr hlk I dX7_hours_27 (by rw [sHours_bad (by first | exact fun q => g1 q.1 | exact fun q => g2 q.2.1 | exact fun q => g3 q.2.2)]; exact ⟨rfl, hC⟩)
      · refine lv_if_eq (tgt := 26) hx hb dX7_hours_14 (by decide) (fun c_14 => ?_) (fun c_14 => ?_)
        · refine lv_iconst (v := (-1 : Int32)) hx hb dX7_hours_26 (by decide) ?_
          subst hQdef
          exact k_iret hx hb hr hlk I dX7_hours_27 (by rw [sHours_bad (by first | exact fun q => g1 q.1 | exact fun q => g2 q.2.1 | exact fun q => g3 q.2.2)]; exact ⟨rfl, hC⟩)
        · exact absurd c_14 (by decide)
  · refine lv_if_eq (tgt := 26) hx hb dX7_hours_7 (by decide) (fun c_7 => ?_) (fun c_7 => ?_)
    · refine lv_iconst (v := (-1 : Int32)) hx hb dX7_hours_26 (by decide) ?_
      subst hQdef
      exact k_iret hx hb hr hlk I dX7_hours_27 (by rw [sHours_bad (by first | exact fun q => g1 q.1 | exact fun q => g2 q.2.1 | exact fun q => g3 q.2.2)]; exact ⟨rfl, hC⟩)
    · exact absurd c_7 (by decide)
set_option maxHeartbeats 4000000 in
set_option maxRecDepth 100000 in
theorem c_X7_undo (cy : Nat → ClassId) (D : va_G) (ad : Nat → Nat) (l : Launch) (σ : Nat → Nat → Int32) (N : Nat → Nat) (P : Nat → Nat → Nat) (np : Nat) (T : Nat → Nat) (nt : Nat) (hC : rC σ (N, P, np, T, nt)) : kMi 38 ad (kcC cy ad) cy D l yX7_undo wsX7_undo ({ frames := 4, cells := 0, slots := 0, locals := 90 }) [.ref (ad 0)] σ (fun r σ' => r = (sUndo (N, P, np, T, nt)).1 ∧ rC σ' (sUndo (N, P, np, T, nt)).2) := by
  obtain ⟨hB, hN, hPa, hT⟩ := id hC
  have h5 := hN.1
  obtain ⟨nx, H_nx, hnp, e1, e2, hkeep⟩ := hPa
  obtain ⟨q, hq⟩ : ∃ q, q = (nx + 5) % 6 := ⟨_, rfl⟩
  have H_q : q < 6 := by omega
  refine k_entry (cc := cX7_undo) (maxL := 2) (ret := (some .int)) (by decide) rfl (Nat.le_of_ble_eq_true rfl) ?_
  intro p e s m below meth c hx hb hr hml hown hts hlk E I ls hl
  have hA : ∀ q, s.heap.size ≤ q → kA 38 ad s.heap.size q := fun q h => Or.inr h
  have hown : s.vm.findClass RX7 = some m.cls := hown
  have hl : lv_has ls 2 [(0, .ref (ad 0))] := hl
  have iX4 : ∀ w ∈ u_ws RX4 TX4 3, w ∈ wsX7_undo := fun w h => List.mem_cons_of_mem _ (List.mem_append_left _ (List.mem_append_left _ (List.mem_append_left _ (List.mem_append_right _ h))))
  have iX7 : ∀ w ∈ u_ws RX7 TX7 4, w ∈ wsX7_undo := fun w h => List.mem_cons_of_mem _ (List.mem_append_left _ (List.mem_append_left _ (List.mem_append_left _ (List.mem_append_left _ (List.mem_append_right _ h)))))
  refine lv_aload_n hx hb dX7_undo_0 rfl (lv_at hl 0 rfl) ?_
  refine k_get (C := RX7) (T := TX7) (N := 4) (v := .ref (ad 30)) hx hb hts hown E I iX7 (0) (by decide) (r0 := σ 0) rfl kc_0 rfl 3 (by decide) (List.mem_of_getElem? (i := 1) rfl) rfl dX7_undo_1 ?_
  refine k_callq (k := 30) (As := []) (rest := []) ⟨hx, hb, hml, hown, hts⟩ (c_X4_takeLatest cy D ad l σ nx np H_nx hnp e1 e2) (cwV 0 hts gX7_undo_X4_takeLatest rfl rfl rfl (by decide +kernel) ⟨Nat.le_of_ble_eq_true rfl, Nat.le_of_ble_eq_true rfl⟩) E hA I (k_recv E I (by decide) kc_30 rfl) rfl hl.1 rfl (lv_room (Nat.le_of_ble_eq_true rfl)) dX7_undo_4 ⟨Nat.le_of_ble_eq_true rfl, Nat.le_of_ble_eq_true rfl⟩ (fun r_4 σ_4 H locs hp_4 I => ?_)
  rw [← hq] at hp_4
  rcases hp_4 with ⟨h0, rfl, rfl⟩ | ⟨h0, rfl, hs_⟩
  · refine lv_astore_nN (lv' := [(1, .null), (0, .ref (ad 0))]) hx hb dX7_undo_7 rfl hl (by decide) rfl (fun ls hl => ?_)
    refine lv_aload_nN hx hb dX7_undo_8 rfl (lv_at hl 0 rfl) ?_
    refine lv_ifnonnullN hx hb dX7_undo_9 ?_
    refine lv_bipush (v := (-2 : Int32)) hx hb dX7_undo_12 (by decide) ?_
    exact k_iret hx hb hr hlk I dX7_undo_14 (by rw [sUndo, if_pos h0]; exact ⟨rfl, hC⟩)
  · obtain ⟨k1, k2, k3⟩ := hkeep (np - 1) (by omega)
    rw [show (nx + 6 - np + (np - 1)) % 6 = q by omega] at k1
    have ho : ∀ k, k ≠ 30 → σ_4 k = σ k := fun k hk => by rw [hs_, va_up_ne _ _ hk]
    have hB4 : rBay σ_4 N := rBay_lo h5.2.2.2.1 hB (fun k j _ a => by rw [ho k (by omega)])
    refine lv_astore_n (lv' := [(1, .ref (ad (32 + q))), (0, .ref (ad 0))]) hx hb dX7_undo_7 rfl hl (by decide) rfl (fun ls hl => ?_)
    refine lv_aload_n hx hb dX7_undo_8 rfl (lv_at hl 0 rfl) ?_
    refine lv_ifnonnull (tgt := 15) hx hb dX7_undo_9 (by decide) ?_
    refine lv_aload_n hx hb dX7_undo_15 rfl (lv_at hl 1 rfl) ?_
    refine k_get (C := RX7) (T := TX7) (N := 4) (v := .ref (ad 11)) hx hb hts hown E I iX7 (0) (by decide) (r0 := σ_4 0) rfl kc_0 rfl 2 (by decide) (List.mem_of_getElem? (i := 2) rfl) rfl dX7_undo_16 ?_
    refine lv_aload_n hx hb dX7_undo_19 rfl (lv_at hl 0 rfl) ?_
    refine k_callv (k := 11) (As := [.ref (ad (32 + q))]) (rest := []) ⟨hx, hb, hml, hown, hts⟩ (c_X1_restore cy D ad l σ_4 N hN hB4 q H_q (P (np - 1)) k3 k2 (by rw [ho _ (by omega)]; exact k1)) (cwV 1 hts gX7_undo_X1_restore rfl rfl rfl (by decide +kernel) ⟨Nat.le_of_ble_eq_true rfl, Nat.le_of_ble_eq_true rfl⟩) E hA I (k_recv E I (by decide) kc_11 rfl) rfl hl.1 rfl (lv_room (Nat.le_of_ble_eq_true rfl)) dX7_undo_20 ⟨Nat.le_of_ble_eq_true rfl, Nat.le_of_ble_eq_true rfl⟩ (fun σ_20 H locs hp_20 I => ?_)
    obtain ⟨hB5, hk5⟩ := hp_20
    have e30 : σ_20 30 2 = nI (np - 1) := by rw [hk5 30 (by omega), hs_]; rfl
    refine lv_aload_n hx hb dX7_undo_23 rfl (lv_at hl 1 rfl) ?_
    refine k_get (C := RX7) (T := TX7) (N := 4) (v := .ref (ad 30)) hx hb hts hown E I iX7 (0) (by decide) (r0 := σ_20 0) rfl kc_0 rfl 3 (by decide) (List.mem_of_getElem? (i := 1) rfl) rfl dX7_undo_24 ?_
    refine k_get (C := RX4) (T := TX4) (N := 3) (v := .int (nI (np - 1))) hx hb hts hown E I iX4 (30) (by decide) (r0 := σ_20 30) rfl kc_30 rfl 2 (by decide) (List.mem_of_getElem? (i := 3) rfl) (congrArg (fun z => some (Value.int z)) e30) dX7_undo_27 ?_
    exact k_iret hx hb hr hlk I dX7_undo_30 (by rw [sUndo, if_neg (by omega)]; exact ⟨rfl, undo2 hC hB5 k3 h0 H_nx hnp hkeep (fun k hk => by rw [hk5 k (by omega)]; exact ho k (by omega)) (by rw [hk5 30 (by omega), hs_]; rfl) e30 hq k2⟩)
set_option maxHeartbeats 4000000 in
set_option maxRecDepth 100000 in
theorem c_X7_anchor (cy : Nat → ClassId) (D : va_G) (ad : Nat → Nat) (l : Launch) (σ : Nat → Nat → Int32) (s0 a x : Int32) (N : Nat → Nat) (P : Nat → Nat → Nat) (np : Nat) (T : Nat → Nat) (nt : Nat) (hC : rC σ (N, P, np, T, nt)) : kMi 38 ad (kcC cy ad) cy D l yX7_anchor wsX7_anchor ({ frames := 1, cells := 0, slots := 0, locals := 22 }) [.ref (ad 0), .int s0, .int a, .int x] σ (fun r σ' => r = (sAnchor s0 a x (N, P, np, T, nt)).1 ∧ rC σ' (sAnchor s0 a x (N, P, np, T, nt)).2) := by
  obtain ⟨hB, hN, hPa, hT⟩ := id hC
  have h5 := hN.1
  refine k_entry (cc := cX7_anchor) (maxL := 6) (ret := (some .int)) (by decide) rfl (Nat.le_of_ble_eq_true rfl) ?_
  intro p e s m below meth c hx hb hr hml hown hts hlk E I ls hl
  have hA : ∀ q, s.heap.size ≤ q → kA 38 ad s.heap.size q := fun q h => Or.inr h
  have hown : s.vm.findClass RX7 = some m.cls := hown
  have hl : lv_has ls 6 [(0, .ref (ad 0)), (1, .int s0), (2, .int a), (3, .int x)] := hl
  have iX0 : ∀ w ∈ u_ws RX0 TX0 3, w ∈ wsX7_anchor := fun w h => List.mem_cons_of_mem _ (List.mem_append_left _ (List.mem_append_left _ (List.mem_append_right _ h)))
  have iX7 : ∀ w ∈ u_ws RX7 TX7 4, w ∈ wsX7_anchor := fun w h => List.mem_cons_of_mem _ (List.mem_append_left _ (List.mem_append_left _ (List.mem_append_left _ (List.mem_append_right _ h))))
  refine lv_aload_n hx hb dX7_anchor_0 rfl (lv_at hl 0 rfl) ?_
  refine k_get (C := RX7) (T := TX7) (N := 4) (v := .ref (ad 11)) hx hb hts hown E I iX7 (0) (by decide) (r0 := σ 0) rfl kc_0 rfl 2 (by decide) (List.mem_of_getElem? (i := 1) rfl) rfl dX7_anchor_1 ?_
  refine lv_iload_n hx hb dX7_anchor_4 rfl (lv_at hl 1 rfl) ?_
  refine k_callq (k := 11) (As := [.int s0]) (rest := []) ⟨hx, hb, hml, hown, hts⟩ (c_X1_shipAt cy D ad l σ (s0) (N 1) (by omega) hB.1.2.1) (cwV 1 hts gX7_anchor_X1_shipAt rfl rfl rfl (by decide +kernel) ⟨Nat.le_of_ble_eq_true rfl, Nat.le_of_ble_eq_true rfl⟩) E hA I (k_recv E I (by decide) kc_11 rfl) rfl hl.1 rfl (lv_room (Nat.le_of_ble_eq_true rfl)) dX7_anchor_5 ⟨Nat.le_of_ble_eq_true rfl, Nat.le_of_ble_eq_true rfl⟩ (fun r_5 σ_5 H locs hp_5 I => ?_)
  obtain ⟨rfl, hk_⟩ := hp_5
  rcases hk_ with ⟨i, hi, rfl, rfl⟩ | ⟨hno, rfl⟩
  · have H_i : i < 5 := by omega
    have hsh := hN.2.2 i hi
    unfold nSh at hsh
    have hoS := okS_nI hi h5.2.2.2.1
    have hcl : (nI i).toNatClampNeg = i := nI_clamp (by omega)
    refine lv_astore (lv' := [(4, .ref (ad (15 + 3 * i))), (0, .ref (ad 0)), (1, .int (nI i)), (2, .int a), (3, .int x)]) hx hb dX7_anchor_8 hl (by decide) rfl (fun ls hl => ?_)
    refine lv_aload hx hb dX7_anchor_10 (lv_at hl 0 rfl) ?_
    refine lv_ifnull hx hb dX7_anchor_12 ?_
    refine lv_iload_n hx hb dX7_anchor_15 rfl (lv_at hl 3 rfl) ?_
    refine lv_iconst (v := nI 0) hx hb dX7_anchor_16 (by decide) ?_
    refine lv_iconst (v := nI 1) hx hb dX7_anchor_17 (by decide) ?_
    refine k_calls (As := [.int a, .int (nI 0), .int (nI 1)]) (rest := []) ⟨hx, hb, hml, hown, hts⟩ (c_X7_within l (a) (nI 0) (nI 1)) (va_cwS 3 hts gX7_anchor_X7_within rfl rfl rfl (by decide +kernel) ⟨Nat.le_of_ble_eq_true rfl, Nat.le_of_ble_eq_true rfl⟩) rfl hl.1 rfl (lv_room (Nat.le_of_ble_eq_true rfl)) dX7_anchor_18 ⟨Nat.le_of_ble_eq_true rfl, Nat.le_of_ble_eq_true rfl⟩ (fun r_18 hp_18 => ?_)
    rcases hp_18 with ⟨rfl, g1⟩ | ⟨rfl, g1⟩
    · obtain ⟨w, w1, w2, rfl⟩ := kT_in (by decide) (by decide) g1
      refine lv_if_eq (tgt := 33) hx hb dX7_anchor_21 (by decide) (fun c_21 => ?_) (fun c_21 => ?_)
      · exact absurd c_21 (by decide)
      · refine lv_iload_n hx hb dX7_anchor_24 rfl (lv_at hl 4 rfl) ?_
        refine lv_iconst (v := nI 0) hx hb dX7_anchor_25 (by decide) ?_
        refine lv_iconst (v := nI 2) hx hb dX7_anchor_26 (by decide) ?_
        refine k_calls (As := [.int x, .int (nI 0), .int (nI 2)]) (rest := []) ⟨hx, hb, hml, hown, hts⟩ (c_X7_within l (x) (nI 0) (nI 2)) (va_cwS 3 hts gX7_anchor_X7_within rfl rfl rfl (by decide +kernel) ⟨Nat.le_of_ble_eq_true rfl, Nat.le_of_ble_eq_true rfl⟩) rfl hl.1 rfl (lv_room (Nat.le_of_ble_eq_true rfl)) dX7_anchor_27 ⟨Nat.le_of_ble_eq_true rfl, Nat.le_of_ble_eq_true rfl⟩ (fun r_27 hp_27 => ?_)
        rcases hp_27 with ⟨rfl, g2⟩ | ⟨rfl, g2⟩
        · obtain ⟨k, k1, k2, rfl⟩ := kT_in (by decide) (by decide) g2
          refine lv_if_ne (tgt := 35) hx hb dX7_anchor_30 (by decide) (fun c_30 => ?_) (fun c_30 => ?_)
          · refine lv_aload hx hb dX7_anchor_35 (lv_at hl 0 rfl) ?_
            refine lv_iload_n hx hb dX7_anchor_37 rfl (lv_at hl 3 rfl) ?_
            refine k_callq (k := 15 + 3 * i) (As := [.int (nI w)]) (rest := []) ⟨hx, hb, hml, hown, hts⟩ (c_X6_anchorAt cy D ad l σ i (N (23 + 13 * i + 9)) H_i hsh.2.2.2.1.2 (rB_f hB hi 9 (by decide)) w w2) (cwV 1 hts gX7_anchor_X6_anchorAt rfl rfl rfl (by decide +kernel) ⟨Nat.le_of_ble_eq_true rfl, Nat.le_of_ble_eq_true rfl⟩) E hA I (k_recv E I (by omega) (kc_S H_i) rfl) rfl hl.1 rfl (lv_room (Nat.le_of_ble_eq_true rfl)) dX7_anchor_38 ⟨Nat.le_of_ble_eq_true rfl, Nat.le_of_ble_eq_true rfl⟩ (fun r_38 σ_38 H locs hp_38 I => ?_)
            obtain ⟨rfl, hk_⟩ := hp_38
            rcases hk_ with ⟨hw0, rfl⟩ | ⟨hw1, hm, rfl⟩ | ⟨hw1, hm0, rfl⟩
            · refine lv_astore (lv' := [(5, .ref (ad (16 + 3 * i))), (4, .ref (ad (15 + 3 * i))), (0, .ref (ad 0)), (1, .int (nI i)), (2, .int (nI w)), (3, .int (nI k))]) hx hb dX7_anchor_41 hl (by decide) rfl (fun ls hl => ?_)
              refine lv_aload hx hb dX7_anchor_43 (lv_at hl 0 rfl) ?_
              refine lv_ifnonnull (tgt := 51) hx hb dX7_anchor_45 (by decide) ?_
              rcases (show k = 0 ∨ k = 1 ∨ k = 2 by omega) with rfl | rfl | rfl
              · refine lv_iload_n hx hb dX7_anchor_51 rfl (lv_at hl 5 rfl) ?_
                refine lv_lookup (tgt := 80) (off := 28) hx hb dX7_anchor_52 (by decide) (by decide) (by decide) ?_
                refine lv_aload hx hb dX7_anchor_80 (lv_at hl 0 rfl) ?_
                refine k_get (C := RX0) (T := TX0) (N := 3) (v := .int (nI (N (23 + 13 * i)))) hx hb hts hown E I iX0 (16 + 3 * i) (by omega) (r0 := σ (16 + 3 * i)) rfl (kc_F H_i) rfl 0 (by decide) (List.mem_of_getElem? (i := 2) rfl) (congrArg (fun z => some (Value.int z)) (rB_f hB hi 0 (by decide))) dX7_anchor_82 ?_
                exact k_iret hx hb hr hlk I dX7_anchor_85 (by rw [sAnchor_ok hoS hcl (Nat.zero_le _) w2 (Nat.zero_le _) (by decide), gAnchor]; first | (rw [if_pos hw0]; exact ⟨rfl, hC⟩) | (rw [if_neg (by omega), if_neg (by omega)]; exact ⟨rfl, hC⟩))
              · refine lv_iload_n hx hb dX7_anchor_51 rfl (lv_at hl 5 rfl) ?_
                refine lv_lookup (tgt := 86) (off := 34) hx hb dX7_anchor_52 (by decide) (by decide) (by decide) ?_
                refine lv_aload hx hb dX7_anchor_86 (lv_at hl 0 rfl) ?_
                refine k_get (C := RX0) (T := TX0) (N := 3) (v := .int (nI (N (23 + 13 * i + 1)))) hx hb hts hown E I iX0 (16 + 3 * i) (by omega) (r0 := σ (16 + 3 * i)) rfl (kc_F H_i) rfl 1 (by decide) (List.mem_of_getElem? (i := 3) rfl) (congrArg (fun z => some (Value.int z)) (rB_f hB hi 1 (by decide))) dX7_anchor_88 ?_
                exact k_iret hx hb hr hlk I dX7_anchor_91 (by rw [sAnchor_ok hoS hcl (Nat.zero_le _) w2 (Nat.zero_le _) (by decide), gAnchor]; first | (rw [if_pos hw0]; exact ⟨rfl, hC⟩) | (rw [if_neg (by omega), if_neg (by omega)]; exact ⟨rfl, hC⟩))
              · refine lv_iload_n hx hb dX7_anchor_51 rfl (lv_at hl 5 rfl) ?_
                refine lv_lookup (tgt := 92) (off := 40) hx hb dX7_anchor_52 (by decide) (by decide) (by decide) ?_
                refine lv_aload hx hb dX7_anchor_92 (lv_at hl 0 rfl) ?_
                refine k_get (C := RX0) (T := TX0) (N := 3) (v := .int (nI (N (23 + 13 * i + 2)))) hx hb hts hown E I iX0 (16 + 3 * i) (by omega) (r0 := σ (16 + 3 * i)) rfl (kc_F H_i) rfl 2 (by decide) (List.mem_of_getElem? (i := 4) rfl) (congrArg (fun z => some (Value.int z)) (rB_f hB hi 2 (by decide))) dX7_anchor_94 ?_
                exact k_iret hx hb hr hlk I dX7_anchor_97 (by rw [sAnchor_ok hoS hcl (Nat.zero_le _) w2 (Nat.zero_le _) (by decide), gAnchor]; first | (rw [if_pos hw0]; exact ⟨rfl, hC⟩) | (rw [if_neg (by omega), if_neg (by omega)]; exact ⟨rfl, hC⟩))
            · refine lv_astore (lv' := [(5, .ref (ad (17 + 3 * i))), (4, .ref (ad (15 + 3 * i))), (0, .ref (ad 0)), (1, .int (nI i)), (2, .int (nI w)), (3, .int (nI k))]) hx hb dX7_anchor_41 hl (by decide) rfl (fun ls hl => ?_)
              refine lv_aload hx hb dX7_anchor_43 (lv_at hl 0 rfl) ?_
              refine lv_ifnonnull (tgt := 51) hx hb dX7_anchor_45 (by decide) ?_
              rcases (show k = 0 ∨ k = 1 ∨ k = 2 by omega) with rfl | rfl | rfl
              · refine lv_iload_n hx hb dX7_anchor_51 rfl (lv_at hl 5 rfl) ?_
                refine lv_lookup (tgt := 80) (off := 28) hx hb dX7_anchor_52 (by decide) (by decide) (by decide) ?_
                refine lv_aload hx hb dX7_anchor_80 (lv_at hl 0 rfl) ?_
                refine k_get (C := RX0) (T := TX0) (N := 3) (v := .int (nI (N (23 + 13 * i + 10)))) hx hb hts hown E I iX0 (17 + 3 * i) (by omega) (r0 := σ (17 + 3 * i)) rfl (kc_G H_i) rfl 0 (by decide) (List.mem_of_getElem? (i := 2) rfl) (congrArg (fun z => some (Value.int z)) (rB_g hB hi hm 0 (by decide))) dX7_anchor_82 ?_
                exact k_iret hx hb hr hlk I dX7_anchor_85 (by rw [sAnchor_ok hoS hcl (Nat.zero_le _) w2 (Nat.zero_le _) (by decide), gAnchor]; first | (rw [if_pos hw0]; exact ⟨rfl, hC⟩) | (rw [if_neg (by omega), if_neg (by omega)]; exact ⟨rfl, hC⟩))
              · refine lv_iload_n hx hb dX7_anchor_51 rfl (lv_at hl 5 rfl) ?_
                refine lv_lookup (tgt := 86) (off := 34) hx hb dX7_anchor_52 (by decide) (by decide) (by decide) ?_
                refine lv_aload hx hb dX7_anchor_86 (lv_at hl 0 rfl) ?_
                refine k_get (C := RX0) (T := TX0) (N := 3) (v := .int (nI (N (23 + 13 * i + 11)))) hx hb hts hown E I iX0 (17 + 3 * i) (by omega) (r0 := σ (17 + 3 * i)) rfl (kc_G H_i) rfl 1 (by decide) (List.mem_of_getElem? (i := 3) rfl) (congrArg (fun z => some (Value.int z)) (rB_g hB hi hm 1 (by decide))) dX7_anchor_88 ?_
                exact k_iret hx hb hr hlk I dX7_anchor_91 (by rw [sAnchor_ok hoS hcl (Nat.zero_le _) w2 (Nat.zero_le _) (by decide), gAnchor]; first | (rw [if_pos hw0]; exact ⟨rfl, hC⟩) | (rw [if_neg (by omega), if_neg (by omega)]; exact ⟨rfl, hC⟩))
              · refine lv_iload_n hx hb dX7_anchor_51 rfl (lv_at hl 5 rfl) ?_
                refine lv_lookup (tgt := 92) (off := 40) hx hb dX7_anchor_52 (by decide) (by decide) (by decide) ?_
                refine lv_aload hx hb dX7_anchor_92 (lv_at hl 0 rfl) ?_
                refine k_get (C := RX0) (T := TX0) (N := 3) (v := .int (nI (N (23 + 13 * i + 12)))) hx hb hts hown E I iX0 (17 + 3 * i) (by omega) (r0 := σ (17 + 3 * i)) rfl (kc_G H_i) rfl 2 (by decide) (List.mem_of_getElem? (i := 4) rfl) (congrArg (fun z => some (Value.int z)) (rB_g hB hi hm 2 (by decide))) dX7_anchor_94 ?_
                exact k_iret hx hb hr hlk I dX7_anchor_97 (by rw [sAnchor_ok hoS hcl (Nat.zero_le _) w2 (Nat.zero_le _) (by decide), gAnchor]; first | (rw [if_pos hw0]; exact ⟨rfl, hC⟩) | (rw [if_neg (by omega), if_neg (by omega)]; exact ⟨rfl, hC⟩))
            · refine lv_astoreN (lv' := [(5, .null), (4, .ref (ad (15 + 3 * i))), (0, .ref (ad 0)), (1, .int (nI i)), (2, .int (nI w)), (3, .int (nI k))]) hx hb dX7_anchor_41 hl (by decide) rfl (fun ls hl => ?_)
              refine lv_aloadN hx hb dX7_anchor_43 (lv_at hl 0 rfl) ?_
              refine lv_ifnonnullN hx hb dX7_anchor_45 ?_
              refine lv_bipush (v := (-4 : Int32)) hx hb dX7_anchor_48 (by decide) ?_
              exact k_iret hx hb hr hlk I dX7_anchor_50 (by rw [sAnchor_ok hoS hcl (Nat.zero_le _) w2 (Nat.zero_le _) k2, gAnchor, if_neg (by omega), if_pos hm0]; exact ⟨rfl, hC⟩)
          · exact absurd c_30 (by decide)
        · refine lv_if_ne (tgt := 35) hx hb dX7_anchor_30 (by decide) (fun c_30 => ?_) (fun c_30 => ?_)
          · exact absurd c_30 (by decide)
          · refine lv_iconst (v := (-1 : Int32)) hx hb dX7_anchor_33 (by decide) ?_
            exact k_iret hx hb hr hlk I dX7_anchor_34 (by rw [sAnchor_bad (by first | exact fun q => hnS q.1 | exact fun q => g1 q.2.1 | exact fun q => g2 q.2.2)]; exact ⟨rfl, hC⟩)
    · refine lv_if_eq (tgt := 33) hx hb dX7_anchor_21 (by decide) (fun c_21 => ?_) (fun c_21 => ?_)
      · refine lv_iconst (v := (-1 : Int32)) hx hb dX7_anchor_33 (by decide) ?_
        exact k_iret hx hb hr hlk I dX7_anchor_34 (by rw [sAnchor_bad (by first | exact fun q => hnS q.1 | exact fun q => g1 q.2.1 | exact fun q => g2 q.2.2)]; exact ⟨rfl, hC⟩)
      · exact absurd c_21 (by decide)
  · have hnS := okS_no h5.2.2.2.1 hno
    refine lv_astoreN (lv' := [(4, .null), (0, .ref (ad 0)), (1, .int s0), (2, .int a), (3, .int x)]) hx hb dX7_anchor_8 hl (by decide) rfl (fun ls hl => ?_)
    refine lv_aloadN hx hb dX7_anchor_10 (lv_at hl 0 rfl) ?_
    refine lv_ifnullN (tgt := 33) hx hb dX7_anchor_12 (by decide) ?_
    refine lv_iconst (v := (-1 : Int32)) hx hb dX7_anchor_33 (by decide) ?_
    exact k_iret hx hb hr hlk I dX7_anchor_34 (by rw [sAnchor_bad (by first | exact fun q => hnS q.1 | exact fun q => g1 q.2.1 | exact fun q => g2 q.2.2)]; exact ⟨rfl, hC⟩)
set_option maxHeartbeats 4000000 in
set_option maxRecDepth 100000 in
theorem c_X7_ship (cy : Nat → ClassId) (D : va_G) (ad : Nat → Nat) (l : Launch) (σ : Nat → Nat → Int32) (s0 x : Int32) (N : Nat → Nat) (P : Nat → Nat → Nat) (np : Nat) (T : Nat → Nat) (nt : Nat) (hC : rC σ (N, P, np, T, nt)) : kMi 38 ad (kcC cy ad) cy D l yX7_ship wsX7_ship ({ frames := 1, cells := 0, slots := 0, locals := 21 }) [.ref (ad 0), .int s0, .int x] σ (fun r σ' => r = (sShip s0 x (N, P, np, T, nt)).1 ∧ rC σ' (sShip s0 x (N, P, np, T, nt)).2) := by
  obtain ⟨hB, hN, hPa, hT⟩ := id hC
  have h5 := hN.1
  refine k_entry (cc := cX7_ship) (maxL := 4) (ret := (some .int)) (by decide) rfl (Nat.le_of_ble_eq_true rfl) ?_
  intro p e s m below meth c hx hb hr hml hown hts hlk E I ls hl
  have hA : ∀ q, s.heap.size ≤ q → kA 38 ad s.heap.size q := fun q h => Or.inr h
  have hown : s.vm.findClass RX7 = some m.cls := hown
  have hl : lv_has ls 4 [(0, .ref (ad 0)), (1, .int s0), (2, .int x)] := hl
  have iX6 : ∀ w ∈ u_ws RX6 TX6 10, w ∈ wsX7_ship := fun w h => List.mem_cons_of_mem _ (List.mem_append_left _ (List.mem_append_right _ h))
  have iX7 : ∀ w ∈ u_ws RX7 TX7 4, w ∈ wsX7_ship := fun w h => List.mem_cons_of_mem _ (List.mem_append_left _ (List.mem_append_left _ (List.mem_append_right _ h)))
  refine lv_aload_n hx hb dX7_ship_0 rfl (lv_at hl 0 rfl) ?_
  refine k_get (C := RX7) (T := TX7) (N := 4) (v := .ref (ad 11)) hx hb hts hown E I iX7 (0) (by decide) (r0 := σ 0) rfl kc_0 rfl 2 (by decide) (List.mem_of_getElem? (i := 1) rfl) rfl dX7_ship_1 ?_
  refine lv_iload_n hx hb dX7_ship_4 rfl (lv_at hl 1 rfl) ?_
  refine k_callq (k := 11) (As := [.int s0]) (rest := []) ⟨hx, hb, hml, hown, hts⟩ (c_X1_shipAt cy D ad l σ (s0) (N 1) (by omega) hB.1.2.1) (cwV 1 hts gX7_ship_X1_shipAt rfl rfl rfl (by decide +kernel) ⟨Nat.le_of_ble_eq_true rfl, Nat.le_of_ble_eq_true rfl⟩) E hA I (k_recv E I (by decide) kc_11 rfl) rfl hl.1 rfl (lv_room (Nat.le_of_ble_eq_true rfl)) dX7_ship_5 ⟨Nat.le_of_ble_eq_true rfl, Nat.le_of_ble_eq_true rfl⟩ (fun r_5 σ_5 H locs hp_5 I => ?_)
  obtain ⟨rfl, hk_⟩ := hp_5
  rcases hk_ with ⟨i, hi, rfl, rfl⟩ | ⟨hno, rfl⟩
  · have H_i : i < 5 := by omega
    have hsh := hN.2.2 i hi
    unfold nSh at hsh
    have hoS := okS_nI hi h5.2.2.2.1
    have hcl : (nI i).toNatClampNeg = i := nI_clamp (by omega)
    refine lv_astore_n (lv' := [(3, .ref (ad (15 + 3 * i))), (0, .ref (ad 0)), (1, .int (nI i)), (2, .int x)]) hx hb dX7_ship_8 rfl hl (by decide) rfl (fun ls hl => ?_)
    refine lv_aload_n hx hb dX7_ship_9 rfl (lv_at hl 0 rfl) ?_
    refine lv_ifnonnull (tgt := 15) hx hb dX7_ship_10 (by decide) ?_
    refine lv_iload_n hx hb dX7_ship_15 rfl (lv_at hl 3 rfl) ?_
    rcases ksw_6 (x) with c_16 | rfl | rfl | rfl | rfl | rfl | rfl
    · refine lv_tableOut (tgt := 89) hx hb dX7_ship_16 c_16 (by decide) ?_
      refine lv_iconst (v := (-1 : Int32)) hx hb dX7_ship_89 (by decide) ?_
      exact k_iret hx hb hr hlk I dX7_ship_90 (by rw [sShip_bad (fun q => out_inI (b := 5) (by decide) c_16 q.2)]; exact ⟨rfl, hC⟩)
    · refine lv_tableIn (tgt := 56) (off := 40) hx hb dX7_ship_16 (by decide) (by decide) (by decide) (by decide) ?_
      refine lv_aload_n hx hb dX7_ship_56 rfl (lv_at hl 0 rfl) ?_
      refine k_get (C := RX6) (T := TX6) (N := 10) (v := .int (nI (N (23 + 13 * i + 3)))) hx hb hts hown E I iX6 (15 + 3 * i) (by omega) (r0 := σ (15 + 3 * i)) rfl (kc_S H_i) rfl 5 (by decide) (List.mem_of_getElem? (i := 2) rfl) (congrArg (fun z => some (Value.int z)) (rB_f hB hi 3 (by decide))) dX7_ship_57 ?_
      exact k_iret hx hb hr hlk I dX7_ship_60 (by rw [sShip_ok hoS hcl (by decide)]; exact ⟨rfl, hC⟩)
    · refine lv_tableIn (tgt := 61) (off := 45) hx hb dX7_ship_16 (by decide) (by decide) (by decide) (by decide) ?_
      refine lv_aload_n hx hb dX7_ship_61 rfl (lv_at hl 0 rfl) ?_
      refine k_get (C := RX6) (T := TX6) (N := 10) (v := .int (nI (N (23 + 13 * i + 4)))) hx hb hts hown E I iX6 (15 + 3 * i) (by omega) (r0 := σ (15 + 3 * i)) rfl (kc_S H_i) rfl 6 (by decide) (List.mem_of_getElem? (i := 3) rfl) (congrArg (fun z => some (Value.int z)) (rB_f hB hi 4 (by decide))) dX7_ship_62 ?_
      exact k_iret hx hb hr hlk I dX7_ship_65 (by rw [sShip_ok hoS hcl (by decide)]; exact ⟨rfl, hC⟩)
    · refine lv_tableIn (tgt := 66) (off := 50) hx hb dX7_ship_16 (by decide) (by decide) (by decide) (by decide) ?_
      refine lv_aload_n hx hb dX7_ship_66 rfl (lv_at hl 0 rfl) ?_
      refine k_get (C := RX6) (T := TX6) (N := 10) (v := .int (nI (N (23 + 13 * i + 5)))) hx hb hts hown E I iX6 (15 + 3 * i) (by omega) (r0 := σ (15 + 3 * i)) rfl (kc_S H_i) rfl 7 (by decide) (List.mem_of_getElem? (i := 4) rfl) (congrArg (fun z => some (Value.int z)) (rB_f hB hi 5 (by decide))) dX7_ship_67 ?_
      exact k_iret hx hb hr hlk I dX7_ship_70 (by rw [sShip_ok hoS hcl (by decide)]; exact ⟨rfl, hC⟩)
    · refine lv_tableIn (tgt := 71) (off := 55) hx hb dX7_ship_16 (by decide) (by decide) (by decide) (by decide) ?_
      refine lv_aload_n hx hb dX7_ship_71 rfl (lv_at hl 0 rfl) ?_
      refine k_get (C := RX6) (T := TX6) (N := 10) (v := .int (nI (N (23 + 13 * i + 6)))) hx hb hts hown E I iX6 (15 + 3 * i) (by omega) (r0 := σ (15 + 3 * i)) rfl (kc_S H_i) rfl 8 (by decide) (List.mem_of_getElem? (i := 5) rfl) (congrArg (fun z => some (Value.int z)) (rB_f hB hi 6 (by decide))) dX7_ship_72 ?_
      exact k_iret hx hb hr hlk I dX7_ship_75 (by rw [sShip_ok hoS hcl (by decide)]; exact ⟨rfl, hC⟩)
    · refine lv_tableIn (tgt := 76) (off := 60) hx hb dX7_ship_16 (by decide) (by decide) (by decide) (by decide) ?_
      refine lv_aload_n hx hb dX7_ship_76 rfl (lv_at hl 0 rfl) ?_
      refine k_get (C := RX6) (T := TX6) (N := 10) (v := .int (nI (N (23 + 13 * i + 7)))) hx hb hts hown E I iX6 (15 + 3 * i) (by omega) (r0 := σ (15 + 3 * i)) rfl (kc_S H_i) rfl 3 (by decide) (List.mem_of_getElem? (i := 6) rfl) (congrArg (fun z => some (Value.int z)) (rB_f hB hi 7 (by decide))) dX7_ship_77 ?_
      refine k_calls (As := [.int (nI (N (23 + 13 * i + 7)))]) (rest := []) ⟨hx, hb, hml, hown, hts⟩ (c_X7_oneIf l (nI (N (23 + 13 * i + 7))) (kz1 hsh.2.2.2.1.1)) (va_cwS 1 hts gX7_ship_X7_oneIf rfl rfl rfl (by decide +kernel) ⟨Nat.le_of_ble_eq_true rfl, Nat.le_of_ble_eq_true rfl⟩) rfl hl.1 rfl (lv_room (Nat.le_of_ble_eq_true rfl)) dX7_ship_80 ⟨Nat.le_of_ble_eq_true rfl, Nat.le_of_ble_eq_true rfl⟩ (fun r_80 hp_80 => ?_)
      subst hp_80
      exact k_iret hx hb hr hlk I dX7_ship_83 (by rw [sShip_ok hoS hcl (by decide)]; exact ⟨rfl, hC⟩)
    · refine lv_tableIn (tgt := 84) (off := 68) hx hb dX7_ship_16 (by decide) (by decide) (by decide) (by decide) ?_
      refine lv_aload_n hx hb dX7_ship_84 rfl (lv_at hl 0 rfl) ?_
      refine k_get (C := RX6) (T := TX6) (N := 10) (v := .int (nI (N (23 + 13 * i + 8)))) hx hb hts hown E I iX6 (15 + 3 * i) (by omega) (r0 := σ (15 + 3 * i)) rfl (kc_S H_i) rfl 4 (by decide) (List.mem_of_getElem? (i := 7) rfl) (congrArg (fun z => some (Value.int z)) (rB_f hB hi 8 (by decide))) dX7_ship_85 ?_
      exact k_iret hx hb hr hlk I dX7_ship_88 (by rw [sShip_ok hoS hcl (by decide)]; exact ⟨rfl, hC⟩)
  · have hnS := okS_no h5.2.2.2.1 hno
    refine lv_astore_nN (lv' := [(3, .null), (0, .ref (ad 0)), (1, .int s0), (2, .int x)]) hx hb dX7_ship_8 rfl hl (by decide) rfl (fun ls hl => ?_)
    refine lv_aload_nN hx hb dX7_ship_9 rfl (lv_at hl 0 rfl) ?_
    refine lv_ifnonnullN hx hb dX7_ship_10 ?_
    refine lv_iconst (v := (-1 : Int32)) hx hb dX7_ship_13 (by decide) ?_
    exact k_iret hx hb hr hlk I dX7_ship_14 (by rw [sShip_bad (by first | exact fun q => hnS q.1)]; exact ⟨rfl, hC⟩)

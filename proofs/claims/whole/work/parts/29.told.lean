/-! THE CALLS: told -/
set_option maxHeartbeats 4000000 in
set_option maxRecDepth 100000 in
theorem c_X7_write (cy : Nat → ClassId) (D : va_G) (ad : Nat → Nat) (l : Launch) (σ : Nat → Nat → Int32) (x : Int32) (N : Nat → Nat) (P : Nat → Nat → Nat) (np : Nat) (T : Nat → Nat) (nt : Nat) (hC : rC σ (N, P, np, T, nt)) : kMi 38 ad (kcC cy ad) cy D l yX7_write wsX7_write ({ frames := 1, cells := 0, slots := 0, locals := 22 }) [.ref (ad 0), .int x] σ (fun r σ' => r = (sWrite x (N, P, np, T, nt)).1 ∧ rC σ' (sWrite x (N, P, np, T, nt)).2) := by
  obtain ⟨hB, hN, hPa, hT⟩ := id hC
  have h5 := hN.1
  refine k_entry (cc := cX7_write) (maxL := 2) (ret := (some .int)) (by decide) rfl (Nat.le_of_ble_eq_true rfl) ?_
  intro p e s m below meth c hx hb hr hml hown hts hlk E I ls hl
  have hA : ∀ q, s.heap.size ≤ q → kA 38 ad s.heap.size q := fun q h => Or.inr h
  have hown : s.vm.findClass RX7 = some m.cls := hown
  have hl : lv_has ls 2 [(0, .ref (ad 0)), (1, .int x)] := hl
  have iX3 : ∀ w ∈ u_ws RX3 TX3 2, w ∈ wsX7_write := fun w h => List.mem_cons_of_mem _ (List.mem_append_right _ h)
  have iX7 : ∀ w ∈ u_ws RX7 TX7 4, w ∈ wsX7_write := fun w h => List.mem_cons_of_mem _ (List.mem_append_left _ (List.mem_append_right _ h))
  refine lv_iload_n hx hb dX7_write_0 rfl (lv_at hl 1 rfl) ?_
  refine lv_bipush (v := nI 32) hx hb dX7_write_1 (by decide) ?_
  refine lv_bipush (v := nI 126) hx hb dX7_write_3 (by decide) ?_
  refine k_calls (As := [.int x, .int (nI 32), .int (nI 126)]) (rest := []) ⟨hx, hb, hml, hown, hts⟩ (c_X7_within l x (nI 32) (nI 126)) (va_cwS 3 hts gX7_write_X7_within rfl rfl rfl (by decide +kernel) ⟨Nat.le_of_ble_eq_true rfl, Nat.le_of_ble_eq_true rfl⟩) rfl hl.1 rfl (lv_room (Nat.le_of_ble_eq_true rfl)) dX7_write_5 ⟨Nat.le_of_ble_eq_true rfl, Nat.le_of_ble_eq_true rfl⟩ (fun r_5 hp_5 => ?_)
  rcases hp_5 with ⟨rfl, g1⟩ | ⟨rfl, g1⟩
  · obtain ⟨k, k1, k2, rfl⟩ := kT_in (by decide) (by decide) g1
    refine lv_if_ne (tgt := 13) hx hb dX7_write_8 (by decide) (fun c_8 => ?_) (fun c_8 => ?_)
    · refine lv_aload_n hx hb dX7_write_13 rfl (lv_at hl 0 rfl) ?_
      refine k_get (C := RX7) (T := TX7) (N := 4) (v := .ref (ad 1)) hx hb hts hown E I iX7 (0) (by decide) (r0 := σ 0) rfl kc_0 rfl 0 (by decide) (List.mem_of_getElem? (i := 1) rfl) rfl dX7_write_14 ?_
      refine lv_iload_n hx hb dX7_write_17 rfl (lv_at hl 1 rfl) ?_
      refine lv_i2c (v := nI k) hx hb dX7_write_18 (by rw [pk_char, pk_tn (by omega)]; congr 1; omega) ?_
      refine k_calli (k := 1) (As := [.int (nI k)]) (rest := []) ⟨hx, hb, hml, hown, hts⟩ (c_X3_append cy D ad l σ T nt hT k (by omega)) (cwV 1 hts gX7_write_X3_append rfl rfl rfl (by decide +kernel) ⟨Nat.le_of_ble_eq_true rfl, Nat.le_of_ble_eq_true rfl⟩) E hA I (k_recv E I (by decide) kc_1 rfl) rfl hl.1 rfl (lv_room (Nat.le_of_ble_eq_true rfl)) dX7_write_19 ⟨Nat.le_of_ble_eq_true rfl, Nat.le_of_ble_eq_true rfl⟩ (fun r_19 σ_19 H locs hp_19 I => ?_)
      rcases hp_19 with ⟨hl_, rfl, hs_⟩ | ⟨hl_, rfl, rfl⟩
      · have e1_ : σ_19 1 1 = nI (nt + 1) := by rw [hs_]; rfl
        refine lv_if_eq (tgt := 35) hx hb dX7_write_22 (by decide) (fun c_22 => ?_) (fun c_22 => ?_)
        · exact absurd c_22 (by decide)
        · refine lv_aload_n hx hb dX7_write_25 rfl (lv_at hl 0 rfl) ?_
          refine k_get (C := RX7) (T := TX7) (N := 4) (v := .ref (ad 1)) hx hb hts hown E I iX7 (0) (by decide) (r0 := σ_19 0) rfl kc_0 rfl 0 (by decide) (List.mem_of_getElem? (i := 1) rfl) rfl dX7_write_26 ?_
          refine k_get (C := RX3) (T := TX3) (N := 2) (v := .int (nI (nt + 1))) hx hb hts hown E I iX3 (1) (by decide) (r0 := σ_19 1) rfl kc_1 rfl 1 (by decide) (List.mem_of_getElem? (i := 2) rfl) (congrArg (fun z => some (Value.int z)) e1_) dX7_write_29 ?_
          refine lv_goto (tgt := 37) hx hb dX7_write_32 (by decide) ?_
          exact k_iret hx hb hr hlk I dX7_write_37 (by rw [sWrite]; rw [if_pos g1]; first | (rw [if_neg (show ¬ nt = 200 by omega), nI_clamp (show k < 2 ^ 31 by omega)]; exact ⟨rfl, wr_yes hC hl_ (by omega) hs_⟩) | (rw [if_pos hl_]; exact ⟨rfl, hC⟩))
      · refine lv_if_eq (tgt := 35) hx hb dX7_write_22 (by decide) (fun c_22 => ?_) (fun c_22 => ?_)
        · refine lv_bipush (v := (-3 : Int32)) hx hb dX7_write_35 (by decide) ?_
          exact k_iret hx hb hr hlk I dX7_write_37 (by rw [sWrite]; rw [if_pos g1]; first | (rw [if_neg (show ¬ nt = 200 by omega), nI_clamp (show k < 2 ^ 31 by omega)]; exact ⟨rfl, wr_yes hC hl_ (by omega) hs_⟩) | (rw [if_pos hl_]; exact ⟨rfl, hC⟩))
        · exact absurd c_22 (by decide)
    · exact absurd c_8 (by decide)
  · refine lv_if_ne (tgt := 13) hx hb dX7_write_8 (by decide) (fun c_8 => ?_) (fun c_8 => ?_)
    · exact absurd c_8 (by decide)
    · refine lv_iconst (v := (-1 : Int32)) hx hb dX7_write_11 (by decide) ?_
      exact k_iret hx hb hr hlk I dX7_write_12 (by rw [sWrite]; rw [if_neg g1]; exact ⟨rfl, hC⟩)
set_option maxHeartbeats 4000000 in
set_option maxRecDepth 100000 in
theorem c_X7_wipe (cy : Nat → ClassId) (D : va_G) (ad : Nat → Nat) (l : Launch) (σ : Nat → Nat → Int32) (N : Nat → Nat) (P : Nat → Nat → Nat) (np : Nat) (T : Nat → Nat) (nt : Nat) (hC : rC σ (N, P, np, T, nt)) : kMi 38 ad (kcC cy ad) cy D l yX7_wipe wsX7_wipe ({ frames := 1, cells := 0, slots := 0, locals := 20 }) [.ref (ad 0)] σ (fun r σ' => r = (sWipe (N, P, np, T, nt)).1 ∧ rC σ' (sWipe (N, P, np, T, nt)).2) := by
  obtain ⟨hB, hN, hPa, hT⟩ := id hC
  have h5 := hN.1
  refine k_entry (cc := cX7_wipe) (maxL := 2) (ret := (some .int)) (by decide) rfl (Nat.le_of_ble_eq_true rfl) ?_
  intro p e s m below meth c hx hb hr hml hown hts hlk E I ls hl
  have hA : ∀ q, s.heap.size ≤ q → kA 38 ad s.heap.size q := fun q h => Or.inr h
  have hown : s.vm.findClass RX7 = some m.cls := hown
  have hl : lv_has ls 2 [(0, .ref (ad 0))] := hl
  have iX3 : ∀ w ∈ u_ws RX3 TX3 2, w ∈ wsX7_wipe := fun w h => List.mem_cons_of_mem _ (List.mem_append_right _ h)
  have iX7 : ∀ w ∈ u_ws RX7 TX7 4, w ∈ wsX7_wipe := fun w h => List.mem_cons_of_mem _ (List.mem_append_left _ (List.mem_append_right _ h))
  refine lv_aload_n hx hb dX7_wipe_0 rfl (lv_at hl 0 rfl) ?_
  refine k_get (C := RX7) (T := TX7) (N := 4) (v := .ref (ad 1)) hx hb hts hown E I iX7 (0) (by decide) (r0 := σ 0) rfl kc_0 rfl 0 (by decide) (List.mem_of_getElem? (i := 1) rfl) rfl dX7_wipe_1 ?_
  refine k_get (C := RX3) (T := TX3) (N := 2) (v := .int (nI nt)) hx hb hts hown E I iX3 (1) (by decide) (r0 := σ 1) rfl kc_1 rfl 1 (by decide) (List.mem_of_getElem? (i := 2) rfl) (congrArg (fun z => some (Value.int z)) hT.1.1) dX7_wipe_4 ?_
  refine lv_istore_n (lv' := [(1, .int (nI nt)), (0, .ref (ad 0))]) hx hb dX7_wipe_7 rfl hl (by decide) rfl (fun ls hl => ?_)
  refine lv_aload_n hx hb dX7_wipe_8 rfl (lv_at hl 1 rfl) ?_
  refine k_get (C := RX7) (T := TX7) (N := 4) (v := .ref (ad 1)) hx hb hts hown E I iX7 (0) (by decide) (r0 := σ 0) rfl kc_0 rfl 0 (by decide) (List.mem_of_getElem? (i := 1) rfl) rfl dX7_wipe_9 ?_
  refine k_callv (k := 1) (As := []) (rest := []) ⟨hx, hb, hml, hown, hts⟩ (c_X3_clear cy D ad l σ ) (cwV 0 hts gX7_wipe_X3_clear rfl rfl rfl (by decide +kernel) ⟨Nat.le_of_ble_eq_true rfl, Nat.le_of_ble_eq_true rfl⟩) E hA I (k_recv E I (by decide) kc_1 rfl) rfl hl.1 rfl (lv_room (Nat.le_of_ble_eq_true rfl)) dX7_wipe_12 ⟨Nat.le_of_ble_eq_true rfl, Nat.le_of_ble_eq_true rfl⟩ (fun σ_12 H locs hp_12 I => ?_)
  refine lv_iload_n hx hb dX7_wipe_15 rfl (lv_at hl 0 rfl) ?_
  exact k_iret hx hb hr hlk I dX7_wipe_16 (⟨rfl, wi_yes hC hp_12⟩)
set_option maxHeartbeats 4000000 in
set_option maxRecDepth 100000 in
theorem c_X7_fault (cy : Nat → ClassId) (D : va_G) (ad : Nat → Nat) (l : Launch) (σ : Nat → Nat → Int32) (N : Nat → Nat) (P : Nat → Nat → Nat) (np : Nat) (T : Nat → Nat) (nt : Nat) (hC : rC σ (N, P, np, T, nt)) : kMi 38 ad (kcC cy ad) cy D l yX7_fault wsX7_fault ({ frames := 5, cells := 0, slots := 0, locals := 115 }) [.ref (ad 0)] σ (fun r σ' => r = (sFault (N, P, np, T, nt)).1 ∧ rC σ' (sFault (N, P, np, T, nt)).2) := by
  obtain ⟨hB, hN, hPa, hT⟩ := id hC
  have h5 := hN.1
  refine k_entry (cc := cX7_fault) (maxL := 1) (ret := (some .int)) (by decide) rfl (Nat.le_of_ble_eq_true rfl) ?_
  intro p e s m below meth c hx hb hr hml hown hts hlk E I ls hl
  have hA : ∀ q, s.heap.size ≤ q → kA 38 ad s.heap.size q := fun q h => Or.inr h
  have hown : s.vm.findClass RX7 = some m.cls := hown
  have hl : lv_has ls 1 [(0, .ref (ad 0))] := hl
  have iX7 : ∀ w ∈ u_ws RX7 TX7 4, w ∈ wsX7_fault := fun w h => List.mem_cons_of_mem _ (List.mem_append_left _ (List.mem_append_left _ (List.mem_append_right _ h)))
  refine lv_aload_n hx hb dX7_fault_0 rfl (lv_at hl 0 rfl) ?_
  refine k_get (C := RX7) (T := TX7) (N := 4) (v := .ref (ad 3)) hx hb hts hown E I iX7 (0) (by decide) (r0 := σ 0) rfl kc_0 rfl 1 (by decide) (List.mem_of_getElem? (i := 1) rfl) rfl dX7_fault_1 ?_
  refine lv_aload_n hx hb dX7_fault_4 rfl (lv_at hl 0 rfl) ?_
  refine k_get (C := RX7) (T := TX7) (N := 4) (v := .ref (ad 1)) hx hb hts hown E I iX7 (0) (by decide) (r0 := σ 0) rfl kc_0 rfl 0 (by decide) (List.mem_of_getElem? (i := 2) rfl) rfl dX7_fault_5 ?_
  refine k_calli (k := 3) (As := [.ref (ad 1)]) (rest := []) ⟨hx, hb, hml, hown, hts⟩ (c_X5_read cy D ad l σ T nt hT) (cwV 1 hts gX7_fault_X5_read rfl rfl rfl (by decide +kernel) ⟨Nat.le_of_ble_eq_true rfl, Nat.le_of_ble_eq_true rfl⟩) E hA I (k_recv E I (by decide) kc_3 rfl) rfl hl.1 rfl (lv_room (Nat.le_of_ble_eq_true rfl)) dX7_fault_8 ⟨Nat.le_of_ble_eq_true rfl, Nat.le_of_ble_eq_true rfl⟩ (fun r_8 σ_8 H locs hp_8 I => ?_)
  obtain ⟨hF_, hk_⟩ := hp_8
  exact k_iret hx hb hr hlk I dX7_fault_11 (⟨by unfold sFault pFault; rcases hk_ with ⟨a_, h1_, h2_⟩ | ⟨h1_, h2_, _⟩ <;> (simp only [h1_]; exact h2_), rC_fP hC hF_⟩)
set_option maxHeartbeats 4000000 in
set_option maxRecDepth 100000 in
theorem c_X7_lay (cy : Nat → ClassId) (D : va_G) (ad : Nat → Nat) (l : Launch) (σ : Nat → Nat → Int32) (N : Nat → Nat) (P : Nat → Nat → Nat) (np : Nat) (T : Nat → Nat) (nt : Nat) (hC : rC σ (N, P, np, T, nt)) : kMi 38 ad (kcC cy ad) cy D l yX7_lay wsX7_lay ({ frames := 5, cells := 0, slots := 0, locals := 115 }) [.ref (ad 0)] σ (fun r σ' => r = (sLay (N, P, np, T, nt)).1 ∧ rC σ' (sLay (N, P, np, T, nt)).2) := by
  obtain ⟨hB, hN, hPa, hT⟩ := id hC
  have h5 := hN.1
  refine k_entry (cc := cX7_lay) (maxL := 1) (ret := (some .int)) (by decide) rfl (Nat.le_of_ble_eq_true rfl) ?_
  intro p e s m below meth c hx hb hr hml hown hts hlk E I ls hl
  have hA : ∀ q, s.heap.size ≤ q → kA 38 ad s.heap.size q := fun q h => Or.inr h
  have hown : s.vm.findClass RX7 = some m.cls := hown
  have hl : lv_has ls 1 [(0, .ref (ad 0))] := hl
  have iX1 : ∀ w ∈ u_ws RX1 TX1 6, w ∈ wsX7_lay := fun w h => List.mem_cons_of_mem _ (List.mem_append_left _ (List.mem_append_left _ (List.mem_append_left _ (List.mem_append_left _ (List.mem_append_right _ h)))))
  have iX5 : ∀ w ∈ u_ws RX5 TX5 5, w ∈ wsX7_lay := fun w h => List.mem_cons_of_mem _ (List.mem_append_left _ (List.mem_append_left _ (List.mem_append_left _ (List.mem_append_left _ (List.mem_append_left _ (List.mem_append_right _ h))))))
  have iX7 : ∀ w ∈ u_ws RX7 TX7 4, w ∈ wsX7_lay := fun w h => List.mem_cons_of_mem _ (List.mem_append_left _ (List.mem_append_left _ (List.mem_append_left _ (List.mem_append_left _ (List.mem_append_left _ (List.mem_append_left _ (List.mem_append_right _ h)))))))
  refine lv_aload_n hx hb dX7_lay_0 rfl (lv_at hl 0 rfl) ?_
  refine k_get (C := RX7) (T := TX7) (N := 4) (v := .ref (ad 3)) hx hb hts hown E I iX7 (0) (by decide) (r0 := σ 0) rfl kc_0 rfl 1 (by decide) (List.mem_of_getElem? (i := 1) rfl) rfl dX7_lay_1 ?_
  refine lv_aload_n hx hb dX7_lay_4 rfl (lv_at hl 0 rfl) ?_
  refine k_get (C := RX7) (T := TX7) (N := 4) (v := .ref (ad 1)) hx hb hts hown E I iX7 (0) (by decide) (r0 := σ 0) rfl kc_0 rfl 0 (by decide) (List.mem_of_getElem? (i := 2) rfl) rfl dX7_lay_5 ?_
  refine k_calli (k := 3) (As := [.ref (ad 1)]) (rest := []) ⟨hx, hb, hml, hown, hts⟩ (c_X5_read cy D ad l σ T nt hT) (cwV 1 hts gX7_lay_X5_read rfl rfl rfl (by decide +kernel) ⟨Nat.le_of_ble_eq_true rfl, Nat.le_of_ble_eq_true rfl⟩) E hA I (k_recv E I (by decide) kc_3 rfl) rfl hl.1 rfl (lv_room (Nat.le_of_ble_eq_true rfl)) dX7_lay_8 ⟨Nat.le_of_ble_eq_true rfl, Nat.le_of_ble_eq_true rfl⟩ (fun r_8 σ_8 H locs hp_8 I => ?_)
  obtain ⟨hF_, hk_⟩ := hp_8
  have hMp := pOk_read (T := T) (n := nt) 200 0 _ pOk_0
  rcases hk_ with ⟨a_, h1_, rfl⟩ | ⟨h1_, rfl, a_, hP_⟩
  · refine lv_bipush (v := (-4 : Int32)) hx hb dX7_lay_11 (by decide) ?_
    refine lv_icmp_ne (tgt := 38) hx hb dX7_lay_13 (by decide) (fun c_13 => ?_) (fun c_13 => ?_)
    · have hbad : ¬ ((pRead T nt 200 0 (fun _ => 0)).1 = none ∧ 2 ≤ (pRead T nt 200 0 (fun _ => 0)).2 0 ∧ 1 ≤ (pRead T nt 200 0 (fun _ => 0)).2 1) := fun q => by rw [h1_] at q; exact absurd q.1 (by simp)
      refine lv_bipush (v := (-2 : Int32)) hx hb dX7_lay_38 (by decide) ?_
      exact k_iret hx hb hr hlk I dX7_lay_40 (by rw [sLay, if_neg hbad]; exact ⟨rfl, rC_fP hC hF_⟩)
    · have hla : a_ < 2 ^ 31 := by have := pRead_lt h1_; have := hT.1.2; omega
      exact absurd (congrArg Int32.toInt c_13) (by rw [nI_toInt (by have := pRead_lt h1_; have := hT.1.2; omega), show (-4 : Int32).toInt = -4 by decide]; omega)
  · generalize hMd : (pRead T nt 200 0 (fun _ => 0)).2 = M at hMp hP_
    have h9 := hMp.1
    refine lv_bipush (v := (-4 : Int32)) hx hb dX7_lay_11 (by decide) ?_
    refine lv_icmp_ne (tgt := 38) hx hb dX7_lay_13 (by decide) (fun c_13 => ?_) (fun c_13 => ?_)
    · exact absurd c_13 (by decide)
    · refine lv_aload_n hx hb dX7_lay_16 rfl (lv_at hl 0 rfl) ?_
      refine k_get (C := RX7) (T := TX7) (N := 4) (v := .ref (ad 3)) hx hb hts hown E I iX7 (0) (by decide) (r0 := σ_8 0) rfl kc_0 rfl 1 (by decide) (List.mem_of_getElem? (i := 1) rfl) rfl dX7_lay_17 ?_
      refine k_get (C := RX5) (T := TX5) (N := 5) (v := .int (nI (M 0))) hx hb hts hown E I iX5 (3) (by decide) (r0 := σ_8 3) rfl kc_3 rfl 2 (by decide) (List.mem_of_getElem? (i := 3) rfl) (congrArg (fun z => some (Value.int z)) hP_.1.1) dX7_lay_20 ?_
      refine lv_iconst (v := nI 2) hx hb dX7_lay_23 (by decide) ?_
      refine lv_icmp_lt (tgt := 38) hx hb dX7_lay_24 (by decide) (fun c_24 => ?_) (fun c_24 => ?_)
      · have c_24 : (M 0) < 2 := (nI_ltI (by omega) (by omega)).mp c_24
        have hbad : ¬ ((pRead T nt 200 0 (fun _ => 0)).1 = none ∧ 2 ≤ (pRead T nt 200 0 (fun _ => 0)).2 0 ∧ 1 ≤ (pRead T nt 200 0 (fun _ => 0)).2 1) := fun q => by rw [hMd] at q; omega
        refine lv_bipush (v := (-2 : Int32)) hx hb dX7_lay_38 (by decide) ?_
        exact k_iret hx hb hr hlk I dX7_lay_40 (by rw [sLay, if_neg hbad]; exact ⟨rfl, rC_fP hC hF_⟩)
      · have c_24 : ¬ ((M 0) < 2) := fun q_ => c_24 ((nI_ltI (by omega) (by omega)).mpr q_)
        refine lv_aload_n hx hb dX7_lay_27 rfl (lv_at hl 0 rfl) ?_
        refine k_get (C := RX7) (T := TX7) (N := 4) (v := .ref (ad 3)) hx hb hts hown E I iX7 (0) (by decide) (r0 := σ_8 0) rfl kc_0 rfl 1 (by decide) (List.mem_of_getElem? (i := 1) rfl) rfl dX7_lay_28 ?_
        refine k_get (C := RX5) (T := TX5) (N := 5) (v := .int (nI (M 1))) hx hb hts hown E I iX5 (3) (by decide) (r0 := σ_8 3) rfl kc_3 rfl 3 (by decide) (List.mem_of_getElem? (i := 4) rfl) (congrArg (fun z => some (Value.int z)) hP_.1.2.1) dX7_lay_31 ?_
        refine lv_iconst (v := nI 1) hx hb dX7_lay_34 (by decide) ?_
        refine lv_icmp_ge (tgt := 41) hx hb dX7_lay_35 (by decide) (fun c_35 => ?_) (fun c_35 => ?_)
        · have c_35 : 1 ≤ (M 1) := (nI_leI (by omega) (by omega)).mp c_35
          refine lv_aload_n hx hb dX7_lay_41 rfl (lv_at hl 0 rfl) ?_
          refine k_get (C := RX7) (T := TX7) (N := 4) (v := .ref (ad 11)) hx hb hts hown E I iX7 (0) (by decide) (r0 := σ_8 0) rfl kc_0 rfl 2 (by decide) (List.mem_of_getElem? (i := 5) rfl) rfl dX7_lay_42 ?_
          refine lv_aload_n hx hb dX7_lay_45 rfl (lv_at hl 0 rfl) ?_
          refine k_get (C := RX7) (T := TX7) (N := 4) (v := .ref (ad 3)) hx hb hts hown E I iX7 (0) (by decide) (r0 := σ_8 0) rfl kc_0 rfl 1 (by decide) (List.mem_of_getElem? (i := 1) rfl) rfl dX7_lay_46 ?_
          refine k_callv (k := 11) (As := [.ref (ad 3)]) (rest := []) ⟨hx, hb, hml, hown, hts⟩ (c_X1_layOut cy D ad l σ_8 M hMp a_ hP_) (cwV 1 hts gX7_lay_X1_layOut rfl rfl rfl (by decide +kernel) ⟨Nat.le_of_ble_eq_true rfl, Nat.le_of_ble_eq_true rfl⟩) E hA I (k_recv E I (by decide) kc_11 rfl) rfl hl.1 rfl (lv_room (Nat.le_of_ble_eq_true rfl)) dX7_lay_49 ⟨Nat.le_of_ble_eq_true rfl, Nat.le_of_ble_eq_true rfl⟩ (fun σ_49 H locs hp_49 I => ?_)
          obtain ⟨hB2, hk2⟩ := hp_49
          refine lv_aload_n hx hb dX7_lay_52 rfl (lv_at hl 0 rfl) ?_
          refine k_get (C := RX7) (T := TX7) (N := 4) (v := .ref (ad 30)) hx hb hts hown E I iX7 (0) (by decide) (r0 := σ_49 0) rfl kc_0 rfl 3 (by decide) (List.mem_of_getElem? (i := 6) rfl) rfl dX7_lay_53 ?_
          refine k_callv (k := 30) (As := []) (rest := []) ⟨hx, hb, hml, hown, hts⟩ (c_X4_clear cy D ad l σ_49 ) (cwV 0 hts gX7_lay_X4_clear rfl rfl rfl (by decide +kernel) ⟨Nat.le_of_ble_eq_true rfl, Nat.le_of_ble_eq_true rfl⟩) E hA I (k_recv E I (by decide) kc_30 rfl) rfl hl.1 rfl (lv_room (Nat.le_of_ble_eq_true rfl)) dX7_lay_56 ⟨Nat.le_of_ble_eq_true rfl, Nat.le_of_ble_eq_true rfl⟩ (fun σ_56 H locs hp_56 I => ?_)
          have e4_ : σ_56 11 4 = nI (M 1) := by rw [hp_56, va_up_ne _ _ (by decide)]; exact hB2.1.2.1
          refine lv_aload_n hx hb dX7_lay_59 rfl (lv_at hl 0 rfl) ?_
          refine k_get (C := RX7) (T := TX7) (N := 4) (v := .ref (ad 11)) hx hb hts hown E I iX7 (0) (by decide) (r0 := σ_56 0) rfl kc_0 rfl 2 (by decide) (List.mem_of_getElem? (i := 5) rfl) rfl dX7_lay_60 ?_
          refine k_get (C := RX1) (T := TX1) (N := 6) (v := .int (nI (M 1))) hx hb hts hown E I iX1 (11) (by decide) (r0 := σ_56 11) rfl kc_11 rfl 4 (by decide) (List.mem_of_getElem? (i := 7) rfl) (congrArg (fun z => some (Value.int z)) e4_) dX7_lay_63 ?_
          exact k_iret hx hb hr hlk I dX7_lay_66 (by rw [sLay, hMd, if_pos ⟨h1_, by omega, by omega⟩]; exact ⟨rfl, ks_lay (rC_fP hC hF_) (nOk_of hMp (by omega) (by omega)) (rBay_lo (by omega) hB2 (fun k j _ a => by rw [hp_56, va_up_ne _ _ (by omega)])) (fun k hk => by rw [hp_56, va_up_ne _ _ (by omega)]; exact hk2 k (by omega)) (by rw [hp_56, va_up_self, hk2 30 (by omega)])⟩)
        · have c_35 : ¬ (1 ≤ (M 1)) := fun q_ => c_35 ((nI_leI (by omega) (by omega)).mpr q_)
          have hbad : ¬ ((pRead T nt 200 0 (fun _ => 0)).1 = none ∧ 2 ≤ (pRead T nt 200 0 (fun _ => 0)).2 0 ∧ 1 ≤ (pRead T nt 200 0 (fun _ => 0)).2 1) := fun q => by rw [hMd] at q; omega
          refine lv_bipush (v := (-2 : Int32)) hx hb dX7_lay_38 (by decide) ?_
          exact k_iret hx hb hr hlk I dX7_lay_40 (by rw [sLay, if_neg hbad]; exact ⟨rfl, rC_fP hC hF_⟩)

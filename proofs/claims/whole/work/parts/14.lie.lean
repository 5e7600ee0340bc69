/-! THE CHAIN: how it lies -/
set_option maxHeartbeats 4000000 in
set_option maxRecDepth 100000 in
theorem c_X2_holds (cy : Nat → ClassId) (D : va_G) (ad : Nat → Nat) (l : Launch) (σ : Nat → Nat → Int32) (h w n d : Nat) (hh : h ≤ 9999) (hw1 : 1 ≤ w) (hw : w ≤ 5) (hn : n ≤ 60) (hd : d ≤ 200) (e5 : σ 14 5 = nI h) (e6 : σ 14 6 = nI w) (e7 : σ 14 7 = nI n) (e8 : σ 14 8 = nI d) (g : Nat) (hg9 : g ≤ 999) : kMi 38 ad (kcC cy ad) cy D l yX2_holds wsX2_holds ({ frames := 2, cells := 0, slots := 0, locals := 48 }) [.ref (ad 14), .int (nI g)] σ (fun r σ' => kT r (zHolds h w d n g = true) ∧ ∃ R : Nat → Int32, σ' = va_up σ 14 R) := by
  refine k_entry (cc := cX2_holds) (maxL := 2) (ret := (some .boolean)) (by decide) rfl (Nat.le_of_ble_eq_true rfl) ?_
  intro p e s m below meth c hx hb hr hml hown hts hlk E I ls hl
  have hA : ∀ q, s.heap.size ≤ q → kA 38 ad s.heap.size q := fun q h => Or.inr h
  have hown : s.vm.findClass RX2 = some m.cls := hown
  have hl : lv_has ls 2 [(0, .ref (ad 14)), (1, .int (nI g))] := hl
  have iX2 : ∀ w ∈ u_ws RX2 TX2 12, w ∈ wsX2_holds := fun w h => List.mem_cons_of_mem _ (List.mem_append_right _ h)
  refine lv_aload_n hx hb dX2_holds_0 rfl (lv_at hl 0 rfl) ?_
  refine k_get (C := RX2) (T := TX2) (N := 12) (v := .int (nI h)) hx hb hts hown E I iX2 (14) (by decide) (r0 := σ 14) rfl kc_14 rfl 5 (by decide) (List.mem_of_getElem? (i := 1) rfl) (congrArg (fun z => some (Value.int z)) e5) dX2_holds_1 ?_
  refine lv_if_ne (tgt := 9) hx hb dX2_holds_4 (by decide) (fun c_4 => ?_) (fun c_4 => ?_)
  · have c_4 : ¬ (h = 0) := fun q_ => c_4 ((nI_eq (by omega) (by decide)).mpr q_)
    refine lv_aload_n hx hb dX2_holds_9 rfl (lv_at hl 0 rfl) ?_
    refine k_get (C := RX2) (T := TX2) (N := 12) (v := .int (nI h)) hx hb hts hown E I iX2 (14) (by decide) (r0 := σ 14) rfl kc_14 rfl 5 (by decide) (List.mem_of_getElem? (i := 1) rfl) (congrArg (fun z => some (Value.int z)) e5) dX2_holds_10 ?_
    refine lv_iload_n hx hb dX2_holds_13 rfl (lv_at hl 1 rfl) ?_
    refine lv_icmp_le (tgt := 19) hx hb dX2_holds_14 (by decide) (fun c_14 => ?_) (fun c_14 => ?_)
    · have c_14 : h ≤ g := (nI_leI (by omega) (by omega)).mp c_14
      refine lv_aload_n hx hb dX2_holds_19 rfl (lv_at hl 0 rfl) ?_
      refine lv_iload_n hx hb dX2_holds_20 rfl (lv_at hl 1 rfl) ?_
      refine lv_aload_n hx hb dX2_holds_21 rfl (lv_at hl 0 rfl) ?_
      refine k_get (C := RX2) (T := TX2) (N := 12) (v := .int (nI h)) hx hb hts hown E I iX2 (14) (by decide) (r0 := σ 14) rfl kc_14 rfl 5 (by decide) (List.mem_of_getElem? (i := 1) rfl) (congrArg (fun z => some (Value.int z)) e5) dX2_holds_22 ?_
      refine lv_isub hx hb dX2_holds_25 ?_
      refine lv_topi (fun t_26 et_26 => ?_)
      have et_26 : t_26 = nI (g - h) := et_26.trans (pk_sub c_14)
      subst et_26
      refine lv_iconst (v := nI 3) hx hb dX2_holds_26 (by decide) ?_
      refine lv_idiv hx hb dX2_holds_27 (by decide) ?_
      refine lv_topi (fun t_28 et_28 => ?_)
      have et_28 : t_28 = nI ((g - h) / 3) := et_28.trans (pk_div (by omega) (by decide) (by decide))
      subst et_28
      refine k_callv (k := 14) (As := [.int (nI ((g - h) / 3))]) (rest := []) ⟨hx, hb, hml, hown, hts⟩ (c_X2_climb cy D ad l σ h w n d hh hw1 hw hn hd e5 e6 e7 e8 ((g - h) / 3) (by omega)) (cwV 1 hts gX2_holds_X2_climb rfl rfl rfl (by decide +kernel) ⟨Nat.le_of_ble_eq_true rfl, Nat.le_of_ble_eq_true rfl⟩) E hA I (k_recv E I (by decide) kc_14 rfl) rfl hl.1 rfl (lv_room (Nat.le_of_ble_eq_true rfl)) dX2_holds_28 ⟨Nat.le_of_ble_eq_true rfl, Nat.le_of_ble_eq_true rfl⟩ (fun σ_28 H locs hp_28 I => ?_)
      obtain ⟨R, rfl, q9, q10, q11, qk⟩ := hp_28
      have r5 : R 5 = nI h := (qk 5 (by decide)).trans e5
      have r6 : R 6 = nI w := (qk 6 (by decide)).trans e6
      have r7 : R 7 = nI n := (qk 7 (by decide)).trans e7
      have r8 : R 8 = nI d := (qk 8 (by decide)).trans e8
      have hs1 := sR_le h w ((g - h) / 3) (hg h w ((g - h) / 3) d n)
      have hs2 := hg_le h w ((g - h) / 3) d n
      refine lv_aload_n hx hb dX2_holds_31 rfl (lv_at hl 0 rfl) ?_
      refine k_get (C := RX2) (T := TX2) (N := 12) (v := .int (nI (sR h w ((g - h) / 3) (hg h w ((g - h) / 3) d n)))) hx hb hts hown E I iX2 (14) (by decide) (r0 := (R)) rfl kc_14 rfl 10 (by decide) (List.mem_of_getElem? (i := 2) rfl) (congrArg (fun z => some (Value.int z)) q10) dX2_holds_32 ?_
      refine lv_aload_n hx hb dX2_holds_35 rfl (lv_at hl 0 rfl) ?_
      refine k_get (C := RX2) (T := TX2) (N := 12) (v := .int (nI d)) hx hb hts hown E I iX2 (14) (by decide) (r0 := (R)) rfl kc_14 rfl 8 (by decide) (List.mem_of_getElem? (i := 3) rfl) (congrArg (fun z => some (Value.int z)) r8) dX2_holds_36 ?_
      refine lv_icmp_lt (tgt := 46) hx hb dX2_holds_39 (by decide) (fun c_39 => ?_) (fun c_39 => ?_)
      · have c_39 : (sR h w ((g - h) / 3) (hg h w ((g - h) / 3) d n)) < d := (nI_ltI (by omega) (by omega)).mp c_39
        refine lv_iconst (v := nI 0) hx hb dX2_holds_46 (by decide) ?_
        exact k_zret hx hb hr (by decide) hlk I dX2_holds_47 (⟨by first | exact kT_1 (by rw [zHolds_one hg9 c_14]; simp; omega) | exact kT_0 (by rw [zHolds_one hg9 c_14]; simp; omega), R, rfl⟩)
      · have c_39 : ¬ ((sR h w ((g - h) / 3) (hg h w ((g - h) / 3) d n)) < d) := fun q_ => c_39 ((nI_ltI (by omega) (by omega)).mpr q_)
        refine lv_iconst (v := nI 1) hx hb dX2_holds_42 (by decide) ?_
        refine lv_goto (tgt := 47) hx hb dX2_holds_43 (by decide) ?_
        exact k_zret hx hb hr (by decide) hlk I dX2_holds_47 (⟨by first | exact kT_1 (by rw [zHolds_one hg9 c_14]; simp; omega) | exact kT_0 (by rw [zHolds_one hg9 c_14]; simp; omega), R, rfl⟩)
    · have c_14 : ¬ (h ≤ g) := fun q_ => c_14 ((nI_leI (by omega) (by omega)).mpr q_)
      refine lv_iconst (v := nI 0) hx hb dX2_holds_17 (by decide) ?_
      exact k_zret hx hb hr (by decide) hlk I dX2_holds_18 (⟨kT_0 (by rw [zHolds_no (by omega)]; decide), _, (kup_id σ 14).symm⟩)
  · have c_4 : h = 0 := (nI_eq (by omega) (by decide)).mp c_4
    refine lv_iconst (v := nI 1) hx hb dX2_holds_7 (by decide) ?_
    exact k_zret hx hb hr (by decide) hlk I dX2_holds_8 (⟨kT_1 (by rw [c_4]; exact zHolds_0), _, (kup_id σ 14).symm⟩)
set_option maxHeartbeats 4000000 in
set_option maxRecDepth 100000 in
theorem c_X2_holding (cy : Nat → ClassId) (D : va_G) (ad : Nat → Nat) (l : Launch) (σ : Nat → Nat → Int32) (t4 u g : Nat) (ht4 : t4 ≤ 1) (hu : u ≤ 999) (hg9 : g ≤ 999) (e4 : σ 14 4 = nI t4) (e3 : σ 14 3 = nI u) : kMi 38 ad (kcC cy ad) cy D l yX2_holding wsX2_holding ({ frames := 1, cells := 0, slots := 0, locals := 40 }) [.ref (ad 14), .int (nI g)] σ (fun r σ' => r = nI (if t4 = 1 then 0 else g - 3 * u) ∧ σ = σ') := by
  refine k_entry (cc := cX2_holding) (maxL := 2) (ret := (some .int)) (by decide) rfl (Nat.le_of_ble_eq_true rfl) ?_
  intro p e s m below meth c hx hb hr hml hown hts hlk E I ls hl
  have hA : ∀ q, s.heap.size ≤ q → kA 38 ad s.heap.size q := fun q h => Or.inr h
  have hown : s.vm.findClass RX2 = some m.cls := hown
  have hl : lv_has ls 2 [(0, .ref (ad 14)), (1, .int (nI g))] := hl
  have iX2 : ∀ w ∈ u_ws RX2 TX2 12, w ∈ wsX2_holding := fun w h => List.mem_cons_of_mem _ (List.mem_append_right _ h)
  refine lv_aload_n hx hb dX2_holding_0 rfl (lv_at hl 0 rfl) ?_
  refine k_get (C := RX2) (T := TX2) (N := 12) (v := .int (nI t4)) hx hb hts hown E I iX2 (14) (by decide) (r0 := σ 14) rfl kc_14 rfl 4 (by decide) (List.mem_of_getElem? (i := 1) rfl) (congrArg (fun z => some (Value.int z)) e4) dX2_holding_1 ?_
  refine lv_if_eq (tgt := 11) hx hb dX2_holding_4 (by decide) (fun c_4 => ?_) (fun c_4 => ?_)
  · have c_4 : t4 = 0 := (nI_eq (by omega) (by decide)).mp c_4
    refine lv_iconst (v := nI 0) hx hb dX2_holding_11 (by decide) ?_
    refine lv_iload_n hx hb dX2_holding_12 rfl (lv_at hl 1 rfl) ?_
    refine lv_iconst (v := nI 3) hx hb dX2_holding_13 (by decide) ?_
    refine lv_aload_n hx hb dX2_holding_14 rfl (lv_at hl 0 rfl) ?_
    refine k_get (C := RX2) (T := TX2) (N := 12) (v := .int (nI u)) hx hb hts hown E I iX2 (14) (by decide) (r0 := σ 14) rfl kc_14 rfl 3 (by decide) (List.mem_of_getElem? (i := 2) rfl) (congrArg (fun z => some (Value.int z)) e3) dX2_holding_15 ?_
    refine lv_imul hx hb dX2_holding_18 ?_
    rw [pk_mul]
    refine lv_isub hx hb dX2_holding_19 ?_
    refine va_mmax hx hb (hml.trans hl.1.symm) hown (hts _ (List.mem_of_getElem? (i := 3) rfl)) (hts _ (List.mem_of_getElem? (i := 4) rfl)) (hts _ (List.mem_of_getElem? (i := 5) rfl)) (hts _ (List.mem_of_getElem? (i := 6) rfl)) (Nat.le_of_ble_eq_true rfl) (Nat.le_of_ble_eq_true rfl) (Nat.le_of_ble_eq_true rfl) (Nat.le_of_ble_eq_true rfl) dX2_holding_20 ?_
    exact k_iret hx hb hr hlk I dX2_holding_23 (⟨by first | (have e_ : (if t4 = 1 then 0 else g - 3 * u) = 0 := if_pos (by omega); rw [e_]; done) | (have e_ : (if t4 = 1 then 0 else g - 3 * u) = g - 3 * u := if_neg (by omega); rw [e_]; exact kmax_sub (by omega) (by omega)), rfl⟩)
  · have c_4 : ¬ (t4 = 0) := fun q_ => c_4 ((nI_eq (by omega) (by decide)).mpr q_)
    refine lv_iconst (v := nI 0) hx hb dX2_holding_7 (by decide) ?_
    refine lv_goto (tgt := 23) hx hb dX2_holding_8 (by decide) ?_
    exact k_iret hx hb hr hlk I dX2_holding_23 (⟨by first | (have e_ : (if t4 = 1 then 0 else g - 3 * u) = 0 := if_pos (by omega); rw [e_]; done) | (have e_ : (if t4 = 1 then 0 else g - 3 * u) = g - 3 * u := if_neg (by omega); rw [e_]; exact kmax_sub (by omega) (by omega)), rfl⟩)
set_option maxHeartbeats 4000000 in
set_option maxRecDepth 100000 in
theorem c_X2_findLift (cy : Nat → ClassId) (D : va_G) (ad : Nat → Nat) (l : Launch) (σ : Nat → Nat → Int32) (h w n d : Nat) (hh : h ≤ 9999) (hw1 : 1 ≤ w) (hw : w ≤ 5) (hn : n ≤ 60) (hd : d ≤ 200) (e5 : σ 14 5 = nI h) (e6 : σ 14 6 = nI w) (e7 : σ 14 7 = nI n) (e8 : σ 14 8 = nI d) (h0 : sR h w 0 n < d) : kMv 38 ad (kcC cy ad) cy D l yX2_findLift wsX2_findLift ({ frames := 2, cells := 0, slots := 0, locals := 48 }) [.ref (ad 14)] σ (fun σ' => ∃ R : Nat → Int32, σ' = va_up σ 14 R ∧ R 3 = nI (min (lf h w d n) 999) ∧ R 4 = nI (if lf h w d n = 1000 then 1 else 0) ∧ (lf h w d n ≠ 1000 → R 11 = nI (sX h w (lf h w d n) n)) ∧ ∀ j, j < 9 → j ≠ 3 → j ≠ 4 → R j = σ 14 j) := by
  refine k_entry (cc := cX2_findLift) (maxL := 4) (ret := none) (by decide) rfl (Nat.le_of_ble_eq_true rfl) ?_
  intro p e s m below meth c hx hb hr hml hown hts hlk E I ls hl
  have hA : ∀ q, s.heap.size ≤ q → kA 38 ad s.heap.size q := fun q h => Or.inr h
  have hown : s.vm.findClass RX2 = some m.cls := hown
  have hl : lv_has ls 4 [(0, .ref (ad 14))] := hl
  have iX2 : ∀ w ∈ u_ws RX2 TX2 12, w ∈ wsX2_findLift := fun w h => List.mem_cons_of_mem _ (List.mem_append_right _ h)
  refine lv_iconst (v := nI 0) hx hb dX2_findLift_0 (by decide) ?_
  refine lv_istore_n (lv' := [(1, .int (nI 0)), (0, .ref (ad 14))]) hx hb dX2_findLift_1 rfl hl (by decide) rfl (fun ls hl => ?_)
  refine lv_sipush (v := nI 512) hx hb dX2_findLift_2 (by decide) ?_
  refine lv_istore_n (lv' := [(2, .int (nI 512)), (1, .int (nI 0)), (0, .ref (ad 14))]) hx hb dX2_findLift_5 rfl hl (by decide) rfl (fun ls hl => ?_)
  have LP_6 : ∀ (fuel : Nat) (j : Nat) (t : Nat) (R : Nat → Int32), j < fuel → (j ≤ 10) → (t ≤ 999) → (sR h w t n < d) → (1000 ≤ t + 2 ^ j ∨ d ≤ sR h w (t + 2 ^ j) n) → (∀ i, i < 9 → R i = σ 14 i) → ∀ (H : Heap) (locs : List Loc), kI 38 ad (kcC cy ad) D (kA 38 ad s.heap.size) s.heap (va_up σ 14 (R)) H locs → ∀ ls : Array Slot, lv_has ls 4 [(0, .ref (ad 14)), (1, .int (nI t)), (2, .int (nI (2 ^ j / 2)))] → W p l e (headSpec wsX2_findLift ({ frames := 2, cells := 0, slots := 0, locals := 48 })).room s m [.ref (ad 14)].toArray below meth c H locs 0 0 (MQ below (va_Qv (fun σ' => ∃ R : Nat → Int32, σ' = va_up σ 14 R ∧ R 3 = nI (min (lf h w d n) 999) ∧ R 4 = nI (if lf h w d n = 1000 then 1 else 0) ∧ (lf h w d n ≠ 1000 → R 11 = nI (sX h w (lf h w d n) n)) ∧ ∀ j, j < 9 → j ≠ 3 → j ≠ 4 → R j = σ 14 j) (kB 38 ad (kcC cy ad) D) (kA 38 ad s.heap.size)) [.ref (ad 14)].toArray s 0 0 (kA 38 ad s.heap.size)) (F0 m 6 ls []) := by
    intro fuel
    induction fuel with
    | zero => intro j t R hf_; exact absurd hf_ (Nat.not_lt_zero _)
    | succ fuel ih =>
      intro j t R hf_ hj ht hlt hup hRk H locs I ls hl
      have hpj : 2 ^ j ≤ 1024 := Nat.le_trans (Nat.pow_le_pow_right (by decide) hj) (by decide)
      have r5 : R 5 = nI h := (hRk 5 (by decide)).trans e5
      have r6 : R 6 = nI w := (hRk 6 (by decide)).trans e6
      have r7 : R 7 = nI n := (hRk 7 (by decide)).trans e7
      have r8 : R 8 = nI d := (hRk 8 (by decide)).trans e8
      refine lv_iload_n hx hb dX2_findLift_6 rfl (lv_at hl 2 rfl) ?_
      refine lv_if_le (tgt := 50) hx hb dX2_findLift_7 (by decide) (fun c_7 => ?_) (fun c_7 => ?_)
      · have c_7 : (2 ^ j / 2) ≤ 0 := (nI_leI (by omega) (by decide)).mp c_7
        have hj0 : j = 0 := by
          rcases Nat.eq_zero_or_pos j with q | q
          · exact q
          · have := Nat.pow_le_pow_right (show 0 < 2 by decide) q
            omega
        subst hj0
        have hz := zLie_lift (h := h) (n := n) hw1 ht hlt (fun q => hup.elim (fun z => absurd z (by simp; omega)) id)
        refine lv_aload_n hx hb dX2_findLift_50 rfl (lv_at hl 0 rfl) ?_
        refine lv_iload_n hx hb dX2_findLift_51 rfl (lv_at hl 1 rfl) ?_
        refine lv_sipush (v := nI 999) hx hb dX2_findLift_52 (by decide) ?_
        refine lv_icmp_ne (tgt := 62) hx hb dX2_findLift_55 (by decide) (fun c_55 => ?_) (fun c_55 => ?_)
        · have c_55 : ¬ (t = 999) := fun q_ => c_55 ((nI_eq (by omega) (by omega)).mpr q_)
          refine lv_iconst (v := nI 0) hx hb dX2_findLift_62 (by decide) ?_
          refine k_put (C := RX2) (T := TX2) (N := 12) (ty0 := tyX2) (ty := .boolean) (v := .int (nI 0)) hx hb hts hown E I iX2 tyX2_ok nmX2 (14) (by decide) (r0 := (R)) rfl kc_14 rfl 4 (by decide) (List.mem_of_getElem? (i := 3) rfl) rfl rfl (by decide) (by decide) (Nat.le_of_ble_eq_true rfl) (upd R 4 (nI 0)) rfl (σ2 := va_up σ 14 (upd R 4 (nI 0))) (bx_uu _ _ _ _) dX2_findLift_63 (fun H locs I => ?_)
          refine lv_aload_n hx hb dX2_findLift_66 rfl (lv_at hl 0 rfl) ?_
          refine lv_iload_n hx hb dX2_findLift_67 rfl (lv_at hl 1 rfl) ?_
          refine lv_iconst (v := nI 1) hx hb dX2_findLift_68 (by decide) ?_
          refine lv_iadd hx hb dX2_findLift_69 ?_
          rw [nI_add]
          refine lv_sipush (v := nI 999) hx hb dX2_findLift_70 (by decide) ?_
          refine va_mmin hx hb (hml.trans hl.1.symm) hown (hts _ (List.mem_of_getElem? (i := 4) rfl)) (hts _ (List.mem_of_getElem? (i := 5) rfl)) (hts _ (List.mem_of_getElem? (i := 6) rfl)) (hts _ (List.mem_of_getElem? (i := 7) rfl)) (Nat.le_of_ble_eq_true rfl) (Nat.le_of_ble_eq_true rfl) (Nat.le_of_ble_eq_true rfl) (Nat.le_of_ble_eq_true rfl) dX2_findLift_73 ?_
          refine lv_topi (fun t_76 et_76 => ?_)
          have et_76 : t_76 = nI (min (t + 1) 999) := et_76.trans (kmin_nI (by omega) (by decide))
          subst et_76
          refine k_put (C := RX2) (T := TX2) (N := 12) (ty0 := tyX2) (ty := .int) (v := .int (nI (min (t + 1) 999))) hx hb hts hown E I iX2 tyX2_ok nmX2 (14) (by decide) (r0 := (upd R 4 (nI 0))) rfl kc_14 rfl 3 (by decide) (List.mem_of_getElem? (i := 8) rfl) rfl rfl rfl rfl (Nat.le_of_ble_eq_true rfl) (upd (upd R 3 (nI (min (t + 1) 999))) 4 (nI 0)) rfl (σ2 := va_up σ 14 (upd (upd R 3 (nI (min (t + 1) 999))) 4 (nI 0))) (bx_uu _ _ _ _) dX2_findLift_76 (fun H locs I => ?_)
          refine lv_aload_n hx hb dX2_findLift_79 rfl (lv_at hl 0 rfl) ?_
          refine lv_aload_n hx hb dX2_findLift_80 rfl (lv_at hl 0 rfl) ?_
          refine k_get (C := RX2) (T := TX2) (N := 12) (v := .int (nI (min (t + 1) 999))) hx hb hts hown E I iX2 (14) (by decide) (r0 := (upd (upd R 3 (nI (min (t + 1) 999))) 4 (nI 0))) rfl kc_14 rfl 3 (by decide) (List.mem_of_getElem? (i := 8) rfl) rfl dX2_findLift_81 ?_
          refine k_callv (k := 14) (As := [.int (nI (min (t + 1) 999))]) (rest := []) ⟨hx, hb, hml, hown, hts⟩ (c_X2_climb cy D ad l (va_up σ 14 (upd (upd R 3 (nI (min (t + 1) 999))) 4 (nI 0))) h w n d hh hw1 hw hn hd r5 r6 r7 r8 (min (t + 1) 999) (by omega)) (cwV 1 hts gX2_findLift_X2_climb rfl rfl rfl (by decide +kernel) ⟨Nat.le_of_ble_eq_true rfl, Nat.le_of_ble_eq_true rfl⟩) E hA I (k_recv E I (by decide) kc_14 rfl) rfl hl.1 rfl (lv_room (Nat.le_of_ble_eq_true rfl)) dX2_findLift_84 ⟨Nat.le_of_ble_eq_true rfl, Nat.le_of_ble_eq_true rfl⟩ (fun σ_84 H locs hp_84 I => ?_)
          obtain ⟨R2, rfl, p9, p10, p11, pk⟩ := hp_84
          rw [bx_uu] at I
          exact k_vret hx hb hr hlk I dX2_findLift_87 (⟨R2, rfl, by rw [hz.2.1]; exact pk 3 (by decide), by rw [hz.2.1]; first | (rw [if_pos (by omega)]; exact pk 4 (by decide)) | (rw [if_neg (by omega)]; exact pk 4 (by decide)), fun hne => by rw [hz.2.1] at hne ⊢; rw [p11, Nat.min_eq_left (by omega), hz.2.2.2 (by omega)], fun j hj h3 h4 => (pk j hj).trans (by show upd (upd R 3 _) 4 _ j = _; simp only [upd]; rw [if_neg h4, if_neg h3]; exact hRk j hj)⟩)
        · have c_55 : t = 999 := (nI_eq (by omega) (by omega)).mp c_55
          refine lv_iconst (v := nI 1) hx hb dX2_findLift_58 (by decide) ?_
          refine lv_goto (tgt := 63) hx hb dX2_findLift_59 (by decide) ?_
          refine k_put (C := RX2) (T := TX2) (N := 12) (ty0 := tyX2) (ty := .boolean) (v := .int (nI 1)) hx hb hts hown E I iX2 tyX2_ok nmX2 (14) (by decide) (r0 := (R)) rfl kc_14 rfl 4 (by decide) (List.mem_of_getElem? (i := 3) rfl) rfl rfl (by decide) (by decide) (Nat.le_of_ble_eq_true rfl) (upd R 4 (nI 1)) rfl (σ2 := va_up σ 14 (upd R 4 (nI 1))) (bx_uu _ _ _ _) dX2_findLift_63 (fun H locs I => ?_)
          refine lv_aload_n hx hb dX2_findLift_66 rfl (lv_at hl 0 rfl) ?_
          refine lv_iload_n hx hb dX2_findLift_67 rfl (lv_at hl 1 rfl) ?_
          refine lv_iconst (v := nI 1) hx hb dX2_findLift_68 (by decide) ?_
          refine lv_iadd hx hb dX2_findLift_69 ?_
          rw [nI_add]
          refine lv_sipush (v := nI 999) hx hb dX2_findLift_70 (by decide) ?_
          refine va_mmin hx hb (hml.trans hl.1.symm) hown (hts _ (List.mem_of_getElem? (i := 4) rfl)) (hts _ (List.mem_of_getElem? (i := 5) rfl)) (hts _ (List.mem_of_getElem? (i := 6) rfl)) (hts _ (List.mem_of_getElem? (i := 7) rfl)) (Nat.le_of_ble_eq_true rfl) (Nat.le_of_ble_eq_true rfl) (Nat.le_of_ble_eq_true rfl) (Nat.le_of_ble_eq_true rfl) dX2_findLift_73 ?_
          refine lv_topi (fun t_76 et_76 => ?_)
          have et_76 : t_76 = nI (min (t + 1) 999) := et_76.trans (kmin_nI (by omega) (by decide))
          subst et_76
          refine k_put (C := RX2) (T := TX2) (N := 12) (ty0 := tyX2) (ty := .int) (v := .int (nI (min (t + 1) 999))) hx hb hts hown E I iX2 tyX2_ok nmX2 (14) (by decide) (r0 := (upd R 4 (nI 1))) rfl kc_14 rfl 3 (by decide) (List.mem_of_getElem? (i := 8) rfl) rfl rfl rfl rfl (Nat.le_of_ble_eq_true rfl) (upd (upd R 3 (nI (min (t + 1) 999))) 4 (nI 1)) rfl (σ2 := va_up σ 14 (upd (upd R 3 (nI (min (t + 1) 999))) 4 (nI 1))) (bx_uu _ _ _ _) dX2_findLift_76 (fun H locs I => ?_)
          refine lv_aload_n hx hb dX2_findLift_79 rfl (lv_at hl 0 rfl) ?_
          refine lv_aload_n hx hb dX2_findLift_80 rfl (lv_at hl 0 rfl) ?_
          refine k_get (C := RX2) (T := TX2) (N := 12) (v := .int (nI (min (t + 1) 999))) hx hb hts hown E I iX2 (14) (by decide) (r0 := (upd (upd R 3 (nI (min (t + 1) 999))) 4 (nI 1))) rfl kc_14 rfl 3 (by decide) (List.mem_of_getElem? (i := 8) rfl) rfl dX2_findLift_81 ?_
          refine k_callv (k := 14) (As := [.int (nI (min (t + 1) 999))]) (rest := []) ⟨hx, hb, hml, hown, hts⟩ (c_X2_climb cy D ad l (va_up σ 14 (upd (upd R 3 (nI (min (t + 1) 999))) 4 (nI 1))) h w n d hh hw1 hw hn hd r5 r6 r7 r8 (min (t + 1) 999) (by omega)) (cwV 1 hts gX2_findLift_X2_climb rfl rfl rfl (by decide +kernel) ⟨Nat.le_of_ble_eq_true rfl, Nat.le_of_ble_eq_true rfl⟩) E hA I (k_recv E I (by decide) kc_14 rfl) rfl hl.1 rfl (lv_room (Nat.le_of_ble_eq_true rfl)) dX2_findLift_84 ⟨Nat.le_of_ble_eq_true rfl, Nat.le_of_ble_eq_true rfl⟩ (fun σ_84 H locs hp_84 I => ?_)
          obtain ⟨R2, rfl, p9, p10, p11, pk⟩ := hp_84
          rw [bx_uu] at I
          exact k_vret hx hb hr hlk I dX2_findLift_87 (⟨R2, rfl, by rw [hz.2.1]; exact pk 3 (by decide), by rw [hz.2.1]; first | (rw [if_pos (by omega)]; exact pk 4 (by decide)) | (rw [if_neg (by omega)]; exact pk 4 (by decide)), fun hne => by rw [hz.2.1] at hne ⊢; rw [p11, Nat.min_eq_left (by omega), hz.2.2.2 (by omega)], fun j hj h3 h4 => (pk j hj).trans (by show upd (upd R 3 _) 4 _ j = _; simp only [upd]; rw [if_neg h4, if_neg h3]; exact hRk j hj)⟩)
      · have c_7 : ¬ ((2 ^ j / 2) ≤ 0) := fun q_ => c_7 ((nI_leI (by omega) (by decide)).mpr q_)
        obtain ⟨i, hi⟩ : ∃ i, j = i + 1 := ⟨j - 1, by
          rcases Nat.eq_zero_or_pos j with q | q
          · rw [q] at c_7; exact absurd (by decide) c_7
          · omega⟩
        have e2 : 2 ^ j / 2 = 2 ^ i := by rw [hi, Nat.pow_succ]; omega
        have e3_ : t + 2 ^ j / 2 + 2 ^ i = t + 2 ^ j := by rw [hi, Nat.pow_succ]; omega
        refine lv_iload_n hx hb dX2_findLift_10 rfl (lv_at hl 1 rfl) ?_
        refine lv_iload_n hx hb dX2_findLift_11 rfl (lv_at hl 2 rfl) ?_
        refine lv_iadd hx hb dX2_findLift_12 ?_
        rw [nI_add]
        refine lv_istore_n (lv' := [(3, .int (nI (t + (2 ^ j / 2)))), (0, .ref (ad 14)), (1, .int (nI t)), (2, .int (nI (2 ^ j / 2)))]) hx hb dX2_findLift_13 rfl hl (by decide) rfl (fun ls hl => ?_)
        refine lv_iload_n hx hb dX2_findLift_14 rfl (lv_at hl 0 rfl) ?_
        refine lv_sipush (v := nI 999) hx hb dX2_findLift_15 (by decide) ?_
        refine lv_icmp_gt (tgt := 43) hx hb dX2_findLift_18 (by decide) (fun c_18 => ?_) (fun c_18 => ?_)
        · have c_18 : 999 < (t + (2 ^ j / 2)) := (nI_ltI (by omega) (by omega)).mp c_18
          refine lv_iload_n hx hb dX2_findLift_43 rfl (lv_at hl 3 rfl) ?_
          refine lv_iconst (v := nI 1) hx hb dX2_findLift_44 (by decide) ?_
          refine lv_ishr hx hb dX2_findLift_45 ?_
          refine lv_topi (fun t_46 et_46 => ?_)
          have et_46 : t_46 = nI (2 ^ i / 2) := et_46.trans (by rw [← e2]; exact pk_shrN (by omega) _ 1 (by decide))
          subst et_46
          refine lv_istore_n (lv' := [(2, .int (nI (2 ^ i / 2))), (3, .int (nI (t + (2 ^ j / 2)))), (0, .ref (ad 14)), (1, .int (nI t))]) hx hb dX2_findLift_46 rfl hl (by decide) rfl (fun ls hl => ?_)
          refine lv_goto (tgt := 6) hx hb dX2_findLift_47 (by decide) ?_
          exact ih i t R (by omega) (by omega) (ht) (hlt) (Or.inl (by omega)) (hRk) _ _ I _ (lv_sub hl [2, 3, 0] rfl)
        · have c_18 : ¬ (999 < (t + (2 ^ j / 2))) := fun q_ => c_18 ((nI_ltI (by omega) (by omega)).mpr q_)
          refine lv_aload_n hx hb dX2_findLift_21 rfl (lv_at hl 1 rfl) ?_
          refine lv_iload_n hx hb dX2_findLift_22 rfl (lv_at hl 0 rfl) ?_
          refine k_callv (k := 14) (As := [.int (nI (t + (2 ^ j / 2)))]) (rest := []) ⟨hx, hb, hml, hown, hts⟩ (c_X2_climb cy D ad l (va_up σ 14 (R)) h w n d hh hw1 hw hn hd r5 r6 r7 r8 (t + 2 ^ j / 2) (by omega)) (cwV 1 hts gX2_findLift_X2_climb rfl rfl rfl (by decide +kernel) ⟨Nat.le_of_ble_eq_true rfl, Nat.le_of_ble_eq_true rfl⟩) E hA I (k_recv E I (by decide) kc_14 rfl) rfl hl.1 rfl (lv_room (Nat.le_of_ble_eq_true rfl)) dX2_findLift_23 ⟨Nat.le_of_ble_eq_true rfl, Nat.le_of_ble_eq_true rfl⟩ (fun σ_23 H locs hp_23 I => ?_)
          obtain ⟨R1, rfl, q9, q10, q11, qk⟩ := hp_23
          rw [bx_uu] at I
          have s5 : R1 5 = nI h := (qk 5 (by decide)).trans r5
          have s6 : R1 6 = nI w := (qk 6 (by decide)).trans r6
          have s7 : R1 7 = nI n := (qk 7 (by decide)).trans r7
          have s8 : R1 8 = nI d := (qk 8 (by decide)).trans r8
          have hs1 := sR_le h w (t + 2 ^ j / 2) (hg h w (t + 2 ^ j / 2) d n)
          have hs2 := hg_le h w (t + 2 ^ j / 2) d n
          refine lv_aload_n hx hb dX2_findLift_26 rfl (lv_at hl 1 rfl) ?_
          refine k_get (C := RX2) (T := TX2) (N := 12) (v := .int (nI (sR h w (t + 2 ^ j / 2) (hg h w (t + 2 ^ j / 2) d n)))) hx hb hts hown E I iX2 (14) (by decide) (r0 := (R1)) rfl kc_14 rfl 10 (by decide) (List.mem_of_getElem? (i := 1) rfl) (congrArg (fun z => some (Value.int z)) q10) dX2_findLift_27 ?_
          refine lv_aload_n hx hb dX2_findLift_30 rfl (lv_at hl 1 rfl) ?_
          refine k_get (C := RX2) (T := TX2) (N := 12) (v := .int (nI d)) hx hb hts hown E I iX2 (14) (by decide) (r0 := (R1)) rfl kc_14 rfl 8 (by decide) (List.mem_of_getElem? (i := 2) rfl) (congrArg (fun z => some (Value.int z)) s8) dX2_findLift_31 ?_
          refine lv_icmp_ge (tgt := 41) hx hb dX2_findLift_34 (by decide) (fun c_34 => ?_) (fun c_34 => ?_)
          · have c_34 : d ≤ (sR h w (t + 2 ^ j / 2) (hg h w (t + 2 ^ j / 2) d n)) := (nI_leI (by omega) (by omega)).mp c_34
            refine lv_iload_n hx hb dX2_findLift_41 rfl (lv_at hl 2 rfl) ?_
            refine lv_istore_n (lv' := [(1, .int (nI t)), (3, .int (nI (t + (2 ^ j / 2)))), (0, .ref (ad 14)), (2, .int (nI (2 ^ j / 2)))]) hx hb dX2_findLift_42 rfl hl (by decide) rfl (fun ls hl => ?_)
            refine lv_iload_n hx hb dX2_findLift_43 rfl (lv_at hl 3 rfl) ?_
            refine lv_iconst (v := nI 1) hx hb dX2_findLift_44 (by decide) ?_
            refine lv_ishr hx hb dX2_findLift_45 ?_
            refine lv_topi (fun t_46 et_46 => ?_)
            have et_46 : t_46 = nI (2 ^ i / 2) := et_46.trans (by rw [← e2]; exact pk_shrN (by omega) _ 1 (by decide))
            subst et_46
            refine lv_istore_n (lv' := [(2, .int (nI (2 ^ i / 2))), (1, .int (nI t)), (3, .int (nI (t + (2 ^ j / 2)))), (0, .ref (ad 14))]) hx hb dX2_findLift_46 rfl hl (by decide) rfl (fun ls hl => ?_)
            refine lv_goto (tgt := 6) hx hb dX2_findLift_47 (by decide) ?_
            exact ih i t R1 (by omega) (by omega) (ht) (hlt) (Or.inr (by rw [← e2]; exact (hg_iff h w (t + 2 ^ j / 2) d n).mp c_34)) (fun i hi => (qk i hi).trans (hRk i hi)) _ _ I _ (lv_sub hl [3, 1, 0] rfl)
          · have c_34 : ¬ (d ≤ (sR h w (t + 2 ^ j / 2) (hg h w (t + 2 ^ j / 2) d n))) := fun q_ => c_34 ((nI_leI (by omega) (by omega)).mpr q_)
            refine lv_iload_n hx hb dX2_findLift_37 rfl (lv_at hl 0 rfl) ?_
            refine lv_goto (tgt := 42) hx hb dX2_findLift_38 (by decide) ?_
            refine lv_istore_n (lv' := [(1, .int (nI (t + (2 ^ j / 2)))), (3, .int (nI (t + (2 ^ j / 2)))), (0, .ref (ad 14)), (2, .int (nI (2 ^ j / 2)))]) hx hb dX2_findLift_42 rfl hl (by decide) rfl (fun ls hl => ?_)
            refine lv_iload_n hx hb dX2_findLift_43 rfl (lv_at hl 3 rfl) ?_
            refine lv_iconst (v := nI 1) hx hb dX2_findLift_44 (by decide) ?_
            refine lv_ishr hx hb dX2_findLift_45 ?_
            refine lv_topi (fun t_46 et_46 => ?_)
            have et_46 : t_46 = nI (2 ^ i / 2) := et_46.trans (by rw [← e2]; exact pk_shrN (by omega) _ 1 (by decide))
            subst et_46
            refine lv_istore_n (lv' := [(2, .int (nI (2 ^ i / 2))), (1, .int (nI (t + (2 ^ j / 2)))), (3, .int (nI (t + (2 ^ j / 2)))), (0, .ref (ad 14))]) hx hb dX2_findLift_46 rfl hl (by decide) rfl (fun ls hl => ?_)
            refine lv_goto (tgt := 6) hx hb dX2_findLift_47 (by decide) ?_
            exact ih i (t + 2 ^ j / 2) R1 (by omega) (by omega) (by omega) (Nat.lt_of_not_le (fun q => c_34 ((hg_iff h w (t + 2 ^ j / 2) d n).mpr q))) (by rw [e3_]; exact hup) (fun i hi => (qk i hi).trans (hRk i hi)) _ _ I _ (lv_sub hl [3, 1, 0] rfl)
  exact LP_6 _ 10 0 (σ 14) (Nat.lt_succ_self _) (Nat.le_refl _) (Nat.zero_le _) (h0) (Or.inl (by decide)) (fun i _ => rfl) _ _ (by rw [kup_id]; exact I) _ (lv_sub hl [2, 1, 0] rfl)
set_option maxHeartbeats 4000000 in
set_option maxRecDepth 100000 in
theorem c_X2_findLie (cy : Nat → ClassId) (D : va_G) (ad : Nat → Nat) (l : Launch) (σ : Nat → Nat → Int32) (h w n d : Nat) (hh : h ≤ 9999) (hw1 : 1 ≤ w) (hw : w ≤ 5) (hn : n ≤ 60) (hd : d ≤ 200) (e5 : σ 14 5 = nI h) (e6 : σ 14 6 = nI w) (e7 : σ 14 7 = nI n) (e8 : σ 14 8 = nI d) : kMv 38 ad (kcC cy ad) cy D l yX2_findLie wsX2_findLie ({ frames := 3, cells := 0, slots := 0, locals := 71 }) [.ref (ad 14)] σ (fun σ' => ∃ R : Nat → Int32, σ' = va_up σ 14 R ∧ R 0 = nI (hg h w 0 d n) ∧ R 1 = nI (zGround h w d n) ∧ R 2 = nI (zReach h w d n) ∧ R 3 = nI (zLift h w d n) ∧ R 4 = nI (if zTaut h w d n then 1 else 0)) := by
  refine k_entry (cc := cX2_findLie) (maxL := 1) (ret := none) (by decide) rfl (Nat.le_of_ble_eq_true rfl) ?_
  intro p e s m below meth c hx hb hr hml hown hts hlk E I ls hl
  have hA : ∀ q, s.heap.size ≤ q → kA 38 ad s.heap.size q := fun q h => Or.inr h
  have hown : s.vm.findClass RX2 = some m.cls := hown
  have hl : lv_has ls 1 [(0, .ref (ad 14))] := hl
  have iX2 : ∀ w ∈ u_ws RX2 TX2 12, w ∈ wsX2_findLie := fun w h => List.mem_cons_of_mem _ (List.mem_append_right _ h)
  refine lv_aload_n hx hb dX2_findLie_0 rfl (lv_at hl 0 rfl) ?_
  refine lv_iconst (v := nI 0) hx hb dX2_findLie_1 (by decide) ?_
  refine k_callv (k := 14) (As := [.int (nI 0)]) (rest := []) ⟨hx, hb, hml, hown, hts⟩ (c_X2_climb cy D ad l σ h w n d hh hw1 hw hn hd e5 e6 e7 e8 0 (by decide)) (cwV 1 hts gX2_findLie_X2_climb rfl rfl rfl (by decide +kernel) ⟨Nat.le_of_ble_eq_true rfl, Nat.le_of_ble_eq_true rfl⟩) E hA I (k_recv E I (by decide) kc_14 rfl) rfl hl.1 rfl (lv_room (Nat.le_of_ble_eq_true rfl)) dX2_findLie_2 ⟨Nat.le_of_ble_eq_true rfl, Nat.le_of_ble_eq_true rfl⟩ (fun σ_2 H locs hp_2 I => ?_)
  obtain ⟨R, rfl, q9, q10, q11, qk⟩ := hp_2
  have r5 : R 5 = nI h := (qk 5 (by decide)).trans e5
  have r6 : R 6 = nI w := (qk 6 (by decide)).trans e6
  have r7 : R 7 = nI n := (qk 7 (by decide)).trans e7
  have r8 : R 8 = nI d := (qk 8 (by decide)).trans e8
  have hs1 := sR_le h w 0 (hg h w 0 d n)
  have hs2 := hg_le h w 0 d n
  have hs3 := sX_le h w 0 (hg h w 0 d n)
  refine lv_aload_n hx hb dX2_findLie_5 rfl (lv_at hl 0 rfl) ?_
  refine lv_aload_n hx hb dX2_findLie_6 rfl (lv_at hl 0 rfl) ?_
  refine k_get (C := RX2) (T := TX2) (N := 12) (v := .int (nI (hg h w 0 d n))) hx hb hts hown E I iX2 (14) (by decide) (r0 := (R)) rfl kc_14 rfl 9 (by decide) (List.mem_of_getElem? (i := 1) rfl) (congrArg (fun z => some (Value.int z)) q9) dX2_findLie_7 ?_
  refine k_put (C := RX2) (T := TX2) (N := 12) (ty0 := tyX2) (ty := .int) (v := .int (nI (hg h w 0 d n))) hx hb hts hown E I iX2 tyX2_ok nmX2 (14) (by decide) (r0 := (R)) rfl kc_14 rfl 0 (by decide) (List.mem_of_getElem? (i := 2) rfl) rfl rfl rfl rfl (Nat.le_of_ble_eq_true rfl) (upd R 0 (nI (hg h w 0 d n))) rfl (σ2 := va_up σ 14 (upd R 0 (nI (hg h w 0 d n)))) (bx_uu _ _ _ _) dX2_findLie_10 (fun H locs I => ?_)
  refine lv_aload_n hx hb dX2_findLie_13 rfl (lv_at hl 0 rfl) ?_
  refine lv_iconst (v := nI 0) hx hb dX2_findLie_14 (by decide) ?_
  refine k_put (C := RX2) (T := TX2) (N := 12) (ty0 := tyX2) (ty := .int) (v := .int (nI 0)) hx hb hts hown E I iX2 tyX2_ok nmX2 (14) (by decide) (r0 := (upd R 0 (nI (hg h w 0 d n)))) rfl kc_14 rfl 3 (by decide) (List.mem_of_getElem? (i := 3) rfl) rfl rfl rfl rfl (Nat.le_of_ble_eq_true rfl) (upd (upd R 0 (nI (hg h w 0 d n))) 3 (nI 0)) rfl (σ2 := va_up σ 14 (upd (upd R 0 (nI (hg h w 0 d n))) 3 (nI 0))) (bx_uu _ _ _ _) dX2_findLie_15 (fun H locs I => ?_)
  refine lv_aload_n hx hb dX2_findLie_18 rfl (lv_at hl 0 rfl) ?_
  refine lv_iconst (v := nI 0) hx hb dX2_findLie_19 (by decide) ?_
  refine k_put (C := RX2) (T := TX2) (N := 12) (ty0 := tyX2) (ty := .boolean) (v := .int (nI 0)) hx hb hts hown E I iX2 tyX2_ok nmX2 (14) (by decide) (r0 := (upd (upd R 0 (nI (hg h w 0 d n))) 3 (nI 0))) rfl kc_14 rfl 4 (by decide) (List.mem_of_getElem? (i := 4) rfl) rfl rfl (by decide) (by decide) (Nat.le_of_ble_eq_true rfl) (upd (upd (upd R 0 (nI (hg h w 0 d n))) 3 (nI 0)) 4 (nI 0)) rfl (σ2 := va_up σ 14 (upd (upd (upd R 0 (nI (hg h w 0 d n))) 3 (nI 0)) 4 (nI 0))) (bx_uu _ _ _ _) dX2_findLie_20 (fun H locs I => ?_)
  refine lv_aload_n hx hb dX2_findLie_23 rfl (lv_at hl 0 rfl) ?_
  refine k_get (C := RX2) (T := TX2) (N := 12) (v := .int (nI (sR h w 0 (hg h w 0 d n)))) hx hb hts hown E I iX2 (14) (by decide) (r0 := (upd (upd (upd R 0 (nI (hg h w 0 d n))) 3 (nI 0)) 4 (nI 0))) rfl kc_14 rfl 10 (by decide) (List.mem_of_getElem? (i := 5) rfl) (congrArg (fun z => some (Value.int z)) q10) dX2_findLie_24 ?_
  refine lv_aload_n hx hb dX2_findLie_27 rfl (lv_at hl 0 rfl) ?_
  refine k_get (C := RX2) (T := TX2) (N := 12) (v := .int (nI d)) hx hb hts hown E I iX2 (14) (by decide) (r0 := (upd (upd (upd R 0 (nI (hg h w 0 d n))) 3 (nI 0)) 4 (nI 0))) rfl kc_14 rfl 8 (by decide) (List.mem_of_getElem? (i := 6) rfl) (congrArg (fun z => some (Value.int z)) r8) dX2_findLie_28 ?_
  refine lv_icmp_ge (tgt := 38) hx hb dX2_findLie_31 (by decide) (fun c_31 => ?_) (fun c_31 => ?_)
  · have c_31 : d ≤ (sR h w 0 (hg h w 0 d n)) := (nI_leI (by omega) (by omega)).mp c_31
    have hok : zOk h w d n = true := by unfold zOk; simp; exact (hg_iff h w 0 d n).mp c_31
    have hre : nI (10 * (n - hg h w 0 d n) + sX h w 0 (hg h w 0 d n)) = nI (zReach h w d n) := by simp [zReach, hok]
    have hli : nI 0 = nI (zLift h w d n) := by simp [zLift, hok]
    have hta : nI 0 = nI (if zTaut h w d n then 1 else 0) := by simp [zTaut, hok]
    have f0 : nI (hg h w 0 d n) = nI (hg h w 0 d n) := rfl
    refine lv_aload_n hx hb dX2_findLie_38 rfl (lv_at hl 0 rfl) ?_
    refine lv_aload_n hx hb dX2_findLie_39 rfl (lv_at hl 0 rfl) ?_
    refine k_get (C := RX2) (T := TX2) (N := 12) (v := .int (nI n)) hx hb hts hown E I iX2 (14) (by decide) (r0 := (upd (upd (upd R 0 (nI (hg h w 0 d n))) 3 (nI 0)) 4 (nI 0))) rfl kc_14 rfl 7 (by decide) (List.mem_of_getElem? (i := 7) rfl) (congrArg (fun z => some (Value.int z)) r7) dX2_findLie_40 ?_
    refine lv_aload_n hx hb dX2_findLie_43 rfl (lv_at hl 0 rfl) ?_
    refine k_get (C := RX2) (T := TX2) (N := 12) (v := .int (nI (hg h w 0 d n))) hx hb hts hown E I iX2 (14) (by decide) (r0 := (upd (upd (upd R 0 (nI (hg h w 0 d n))) 3 (nI 0)) 4 (nI 0))) rfl kc_14 rfl 0 (by decide) (List.mem_of_getElem? (i := 2) rfl) rfl dX2_findLie_44 ?_
    refine lv_isub hx hb dX2_findLie_47 ?_
    refine lv_topi (fun t_48 et_48 => ?_)
    have et_48 : t_48 = nI (n - hg h w 0 d n) := et_48.trans (pk_sub hs2)
    subst et_48
    refine k_put (C := RX2) (T := TX2) (N := 12) (ty0 := tyX2) (ty := .int) (v := .int (nI (n - hg h w 0 d n))) hx hb hts hown E I iX2 tyX2_ok nmX2 (14) (by decide) (r0 := (upd (upd (upd R 0 (nI (hg h w 0 d n))) 3 (nI 0)) 4 (nI 0))) rfl kc_14 rfl 1 (by decide) (List.mem_of_getElem? (i := 8) rfl) rfl rfl rfl rfl (Nat.le_of_ble_eq_true rfl) (upd (upd (upd (upd R 0 (nI (hg h w 0 d n))) 1 (nI (n - hg h w 0 d n))) 3 (nI 0)) 4 (nI 0)) rfl (σ2 := va_up σ 14 (upd (upd (upd (upd R 0 (nI (hg h w 0 d n))) 1 (nI (n - hg h w 0 d n))) 3 (nI 0)) 4 (nI 0))) (bx_uu _ _ _ _) dX2_findLie_48 (fun H locs I => ?_)
    refine lv_aload_n hx hb dX2_findLie_51 rfl (lv_at hl 0 rfl) ?_
    refine lv_aload_n hx hb dX2_findLie_52 rfl (lv_at hl 0 rfl) ?_
    refine k_get (C := RX2) (T := TX2) (N := 12) (v := .int (nI 0)) hx hb hts hown E I iX2 (14) (by decide) (r0 := (upd (upd (upd (upd R 0 (nI (hg h w 0 d n))) 1 (nI (n - hg h w 0 d n))) 3 (nI 0)) 4 (nI 0))) rfl kc_14 rfl 4 (by decide) (List.mem_of_getElem? (i := 4) rfl) rfl dX2_findLie_53 ?_
    refine lv_if_eq (tgt := 63) hx hb dX2_findLie_56 (by decide) (fun c_56 => ?_) (fun c_56 => ?_)
    · refine lv_bipush (v := nI 10) hx hb dX2_findLie_63 (by decide) ?_
      refine lv_aload_n hx hb dX2_findLie_65 rfl (lv_at hl 0 rfl) ?_
      refine k_get (C := RX2) (T := TX2) (N := 12) (v := .int (nI (n - hg h w 0 d n))) hx hb hts hown E I iX2 (14) (by decide) (r0 := (upd (upd (upd (upd R 0 (nI (hg h w 0 d n))) 1 (nI (n - hg h w 0 d n))) 3 (nI 0)) 4 (nI 0))) rfl kc_14 rfl 1 (by decide) (List.mem_of_getElem? (i := 8) rfl) rfl dX2_findLie_66 ?_
      refine lv_imul hx hb dX2_findLie_69 ?_
      rw [pk_mul]
      refine lv_aload_n hx hb dX2_findLie_70 rfl (lv_at hl 0 rfl) ?_
      refine k_get (C := RX2) (T := TX2) (N := 12) (v := .int (nI (sX h w 0 (hg h w 0 d n)))) hx hb hts hown E I iX2 (14) (by decide) (r0 := (upd (upd (upd (upd R 0 (nI (hg h w 0 d n))) 1 (nI (n - hg h w 0 d n))) 3 (nI 0)) 4 (nI 0))) rfl kc_14 rfl 11 (by decide) (List.mem_of_getElem? (i := 9) rfl) (congrArg (fun z => some (Value.int z)) q11) dX2_findLie_71 ?_
      refine lv_iadd hx hb dX2_findLie_74 ?_
      rw [nI_add]
      refine k_put (C := RX2) (T := TX2) (N := 12) (ty0 := tyX2) (ty := .int) (v := .int (nI ((10 * ((n - hg h w 0 d n))) + (sX h w 0 (hg h w 0 d n))))) hx hb hts hown E I iX2 tyX2_ok nmX2 (14) (by decide) (r0 := (upd (upd (upd (upd R 0 (nI (hg h w 0 d n))) 1 (nI (n - hg h w 0 d n))) 3 (nI 0)) 4 (nI 0))) rfl kc_14 rfl 2 (by decide) (List.mem_of_getElem? (i := 10) rfl) rfl rfl rfl rfl (Nat.le_of_ble_eq_true rfl) (upd (upd (upd (upd (upd R 0 (nI (hg h w 0 d n))) 1 (nI (n - hg h w 0 d n))) 2 (nI ((10 * ((n - hg h w 0 d n))) + (sX h w 0 (hg h w 0 d n))))) 3 (nI 0)) 4 (nI 0)) rfl (σ2 := va_up σ 14 (upd (upd (upd (upd (upd R 0 (nI (hg h w 0 d n))) 1 (nI (n - hg h w 0 d n))) 2 (nI ((10 * ((n - hg h w 0 d n))) + (sX h w 0 (hg h w 0 d n))))) 3 (nI 0)) 4 (nI 0))) (bx_uu _ _ _ _) dX2_findLie_75 (fun H locs I => ?_)
      exact k_vret hx hb hr hlk I dX2_findLie_78 (⟨_, rfl, f0, rfl, hre, hli, hta⟩)
    · exact absurd c_56 (by decide)
  · have c_31 : ¬ (d ≤ (sR h w 0 (hg h w 0 d n))) := fun q_ => c_31 ((nI_leI (by omega) (by omega)).mpr q_)
    have h0 : sR h w 0 n < d := Nat.lt_of_not_le (fun q => c_31 ((hg_iff h w 0 d n).mpr q))
    have hok : zOk h w d n = false := by unfold zOk; simp; omega
    refine lv_aload_n hx hb dX2_findLie_34 rfl (lv_at hl 0 rfl) ?_
    refine k_callv (k := 14) (As := []) (rest := []) ⟨hx, hb, hml, hown, hts⟩ (c_X2_findLift cy D ad l (va_up σ 14 (upd (upd (upd R 0 (nI (hg h w 0 d n))) 3 (nI 0)) 4 (nI 0))) h w n d hh hw1 hw hn hd r5 r6 r7 r8 h0) (cwV 0 hts gX2_findLie_X2_findLift rfl rfl rfl (by decide +kernel) ⟨Nat.le_of_ble_eq_true rfl, Nat.le_of_ble_eq_true rfl⟩) E hA I (k_recv E I (by decide) kc_14 rfl) rfl hl.1 rfl (lv_room (Nat.le_of_ble_eq_true rfl)) dX2_findLie_35 ⟨Nat.le_of_ble_eq_true rfl, Nat.le_of_ble_eq_true rfl⟩ (fun σ_35 H locs hp_35 I => ?_)
    obtain ⟨R1, rfl, p3, p4, p11, pk⟩ := hp_35
    rw [bx_uu] at I
    have f0 : R1 0 = nI (hg h w 0 d n) := pk 0 (by decide) (by decide) (by decide)
    have f7 : R1 7 = nI n := (pk 7 (by decide) (by decide) (by decide)).trans r7
    have hli : R1 3 = nI (zLift h w d n) := by rw [p3]; simp [zLift, hok]
    have hta : R1 4 = nI (if zTaut h w d n then 1 else 0) := by rw [p4]; simp [zTaut, hok]
    have hgn : hg h w 0 d n = n := hg_eq (Nat.le_refl _) (fun j hj => Nat.lt_of_le_of_lt (sR_n h w 0 (by omega)) h0) (fun z => absurd z (by omega))
    refine lv_aload_n hx hb dX2_findLie_38 rfl (lv_at hl 0 rfl) ?_
    refine lv_aload_n hx hb dX2_findLie_39 rfl (lv_at hl 0 rfl) ?_
    refine k_get (C := RX2) (T := TX2) (N := 12) (v := .int (nI n)) hx hb hts hown E I iX2 (14) (by decide) (r0 := (R1)) rfl kc_14 rfl 7 (by decide) (List.mem_of_getElem? (i := 7) rfl) (congrArg (fun z => some (Value.int z)) f7) dX2_findLie_40 ?_
    refine lv_aload_n hx hb dX2_findLie_43 rfl (lv_at hl 0 rfl) ?_
    refine k_get (C := RX2) (T := TX2) (N := 12) (v := .int (nI (hg h w 0 d n))) hx hb hts hown E I iX2 (14) (by decide) (r0 := (R1)) rfl kc_14 rfl 0 (by decide) (List.mem_of_getElem? (i := 2) rfl) (congrArg (fun z => some (Value.int z)) f0) dX2_findLie_44 ?_
    refine lv_isub hx hb dX2_findLie_47 ?_
    refine lv_topi (fun t_48 et_48 => ?_)
    have et_48 : t_48 = nI (n - hg h w 0 d n) := et_48.trans (pk_sub hs2)
    subst et_48
    refine k_put (C := RX2) (T := TX2) (N := 12) (ty0 := tyX2) (ty := .int) (v := .int (nI (n - hg h w 0 d n))) hx hb hts hown E I iX2 tyX2_ok nmX2 (14) (by decide) (r0 := (R1)) rfl kc_14 rfl 1 (by decide) (List.mem_of_getElem? (i := 8) rfl) rfl rfl rfl rfl (Nat.le_of_ble_eq_true rfl) (upd R1 1 (nI (n - hg h w 0 d n))) rfl (σ2 := va_up σ 14 (upd R1 1 (nI (n - hg h w 0 d n)))) (bx_uu _ _ _ _) dX2_findLie_48 (fun H locs I => ?_)
    refine lv_aload_n hx hb dX2_findLie_51 rfl (lv_at hl 0 rfl) ?_
    refine lv_aload_n hx hb dX2_findLie_52 rfl (lv_at hl 0 rfl) ?_
    refine k_get (C := RX2) (T := TX2) (N := 12) (v := .int (nI (if lf h w d n = 1000 then 1 else 0))) hx hb hts hown E I iX2 (14) (by decide) (r0 := (upd R1 1 (nI (n - hg h w 0 d n)))) rfl kc_14 rfl 4 (by decide) (List.mem_of_getElem? (i := 4) rfl) (congrArg (fun z => some (Value.int z)) p4) dX2_findLie_53 ?_
    refine lv_if_eq (tgt := 63) hx hb dX2_findLie_56 (by decide) (fun c_56 => ?_) (fun c_56 => ?_)
    · have c_56 : (if lf h w d n = 1000 then 1 else 0) = 0 := (nI_eq (by first | omega | (split <;> omega)) (by decide)).mp c_56
      have hne : lf h w d n ≠ 1000 := fun q => by rw [if_pos q] at c_56; exact absurd c_56 (by decide)
      have hre : nI (10 * (n - hg h w 0 d n) + sX h w (lf h w d n) n) = nI (zReach h w d n) := by simp [zReach, hok, hne, hgn]
      refine lv_bipush (v := nI 10) hx hb dX2_findLie_63 (by decide) ?_
      refine lv_aload_n hx hb dX2_findLie_65 rfl (lv_at hl 0 rfl) ?_
      refine k_get (C := RX2) (T := TX2) (N := 12) (v := .int (nI (n - hg h w 0 d n))) hx hb hts hown E I iX2 (14) (by decide) (r0 := (upd R1 1 (nI (n - hg h w 0 d n)))) rfl kc_14 rfl 1 (by decide) (List.mem_of_getElem? (i := 8) rfl) rfl dX2_findLie_66 ?_
      refine lv_imul hx hb dX2_findLie_69 ?_
      rw [pk_mul]
      refine lv_aload_n hx hb dX2_findLie_70 rfl (lv_at hl 0 rfl) ?_
      refine k_get (C := RX2) (T := TX2) (N := 12) (v := .int (nI (sX h w (lf h w d n) n))) hx hb hts hown E I iX2 (14) (by decide) (r0 := (upd R1 1 (nI (n - hg h w 0 d n)))) rfl kc_14 rfl 11 (by decide) (List.mem_of_getElem? (i := 9) rfl) (congrArg (fun z => some (Value.int z)) (p11 hne)) dX2_findLie_71 ?_
      refine lv_iadd hx hb dX2_findLie_74 ?_
      rw [nI_add]
      refine k_put (C := RX2) (T := TX2) (N := 12) (ty0 := tyX2) (ty := .int) (v := .int (nI ((10 * ((n - hg h w 0 d n))) + (sX h w (lf h w d n) n)))) hx hb hts hown E I iX2 tyX2_ok nmX2 (14) (by decide) (r0 := (upd R1 1 (nI (n - hg h w 0 d n)))) rfl kc_14 rfl 2 (by decide) (List.mem_of_getElem? (i := 10) rfl) rfl rfl rfl rfl (Nat.le_of_ble_eq_true rfl) (upd (upd R1 1 (nI (n - hg h w 0 d n))) 2 (nI ((10 * ((n - hg h w 0 d n))) + (sX h w (lf h w d n) n)))) rfl (σ2 := va_up σ 14 (upd (upd R1 1 (nI (n - hg h w 0 d n))) 2 (nI ((10 * ((n - hg h w 0 d n))) + (sX h w (lf h w d n) n))))) (bx_uu _ _ _ _) dX2_findLie_75 (fun H locs I => ?_)
      exact k_vret hx hb hr hlk I dX2_findLie_78 (⟨_, rfl, f0, rfl, hre, hli, hta⟩)
    · have c_56 : ¬ ((if lf h w d n = 1000 then 1 else 0) = 0) := fun q_ => c_56 ((nI_eq (by first | omega | (split <;> omega)) (by decide)).mpr q_)
      have heq : lf h w d n = 1000 := Classical.byContradiction fun q => by rw [if_neg q] at c_56; exact absurd rfl c_56
      have hre : nI 0 = nI (zReach h w d n) := by simp [zReach, hok, heq]
      refine lv_iconst (v := nI 0) hx hb dX2_findLie_59 (by decide) ?_
      refine lv_goto (tgt := 75) hx hb dX2_findLie_60 (by decide) ?_
      refine k_put (C := RX2) (T := TX2) (N := 12) (ty0 := tyX2) (ty := .int) (v := .int (nI 0)) hx hb hts hown E I iX2 tyX2_ok nmX2 (14) (by decide) (r0 := (upd R1 1 (nI (n - hg h w 0 d n)))) rfl kc_14 rfl 2 (by decide) (List.mem_of_getElem? (i := 10) rfl) rfl rfl rfl rfl (Nat.le_of_ble_eq_true rfl) (upd (upd R1 1 (nI (n - hg h w 0 d n))) 2 (nI 0)) rfl (σ2 := va_up σ 14 (upd (upd R1 1 (nI (n - hg h w 0 d n))) 2 (nI 0))) (bx_uu _ _ _ _) dX2_findLie_75 (fun H locs I => ?_)
      exact k_vret hx hb hr hlk I dX2_findLie_78 (⟨_, rfl, f0, rfl, hre, hli, hta⟩)

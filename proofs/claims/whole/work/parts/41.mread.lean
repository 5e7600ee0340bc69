/-! THE REFERENCE: it reads -/
set_option maxHeartbeats 4000000 in
set_option maxRecDepth 100000 in
theorem c_X8_isFigure (cy : Nat → ClassId) (D : va_G) (ad : Nat → Nat) (l : Launch) (σ : Nat → Nat → Int32) (T : Nat → Nat) (nt : Nat) (hT : mT σ T nt) (a : Nat) (ha : a ≤ 1000) (e6 : σ 0 6 = nI a) : kMi 6 ad (kcM cy ad) cy D l yX8_isFigure wsX8_isFigure ({ frames := 1, cells := 0, slots := 0, locals := 22 }) [.ref (ad 0)] σ (fun r σ' => kT r (fg T nt a = true) ∧ σ = σ') := by
  have hn := hT.2.1
  refine k_entry (cc := cX8_isFigure) (maxL := 1) (ret := (some .boolean)) (by decide) rfl (Nat.le_of_ble_eq_true rfl) ?_
  intro p e s m below meth c hx hb hr hml hown hts hlk E I ls hl
  have hA : ∀ q, s.heap.size ≤ q → kA 6 ad s.heap.size q := fun q h => Or.inr h
  have hown : s.vm.findClass RX8 = some m.cls := hown
  have hl : lv_has ls 1 [(0, .ref (ad 0))] := hl
  have iX8 : ∀ w ∈ u_ws RX8 TX8 13, w ∈ wsX8_isFigure := fun w h => List.mem_cons_of_mem _ (List.mem_append_right _ h)
  refine lv_aload_n hx hb dX8_isFigure_0 rfl (lv_at hl 0 rfl) ?_
  refine k_get (C := RX8) (T := TX8) (N := 13) (v := .int (nI a)) hx hb hts hown E I iX8 (0) (by decide) (r0 := σ 0) rfl km_0 rfl 6 (by decide) (List.mem_of_getElem? (i := 1) rfl) (congrArg (fun z => some (Value.int z)) e6) dX8_isFigure_1 ?_
  refine lv_aload_n hx hb dX8_isFigure_4 rfl (lv_at hl 0 rfl) ?_
  refine k_get (C := RX8) (T := TX8) (N := 13) (v := .int (nI nt)) hx hb hts hown E I iX8 (0) (by decide) (r0 := σ 0) rfl km_0 rfl 5 (by decide) (List.mem_of_getElem? (i := 2) rfl) (congrArg (fun z => some (Value.int z)) hT.1) dX8_isFigure_5 ?_
  refine lv_icmp_ge (tgt := 34) hx hb dX8_isFigure_8 (by decide) (fun c_8 => ?_) (fun c_8 => ?_)
  · have c_8 : nt ≤ a := (nI_leI (by omega) (by omega)).mp c_8
    have hno : ¬ fg T nt a = true := fun q => absurd (fg_lt q).1 (by omega)
    refine lv_iconst (v := nI 0) hx hb dX8_isFigure_34 (by decide) ?_
    exact k_zret hx hb hr (by decide) hlk I dX8_isFigure_35 (⟨by first | exact kT_1 hy | exact kT_0 hno, rfl⟩)
  · have c_8 : ¬ (nt ≤ a) := fun q_ => c_8 ((nI_leI (by omega) (by omega)).mpr q_)
    have hta := hT.2.2 a (by omega)
    have hch : ch T nt a = T a := if_pos (by omega)
    refine lv_aload_n hx hb dX8_isFigure_11 rfl (lv_at hl 0 rfl) ?_
    refine k_get (C := RX8) (T := TX8) (N := 13) (v := .ref (ad 4)) hx hb hts hown E I iX8 (0) (by decide) (r0 := σ 0) rfl km_0 rfl 4 (by decide) (List.mem_of_getElem? (i := 3) rfl) rfl dX8_isFigure_12 ?_
    refine lv_aload_n hx hb dX8_isFigure_15 rfl (lv_at hl 0 rfl) ?_
    refine k_get (C := RX8) (T := TX8) (N := 13) (v := .int (nI a)) hx hb hts hown E I iX8 (0) (by decide) (r0 := σ 0) rfl km_0 rfl 6 (by decide) (List.mem_of_getElem? (i := 1) rfl) (congrArg (fun z => some (Value.int z)) e6) dX8_isFigure_16 ?_
    refine k_iald hx hb E I (4) (by decide) (r0 := σ 4) rfl km_4 (vp_in_nI (by omega) (by decide)) dX8_isFigure_19 ?_
    rw [nI_clamp (by omega)]
    rw [hta.1]
    refine lv_bipush (v := nI 48) hx hb dX8_isFigure_20 (by decide) ?_
    refine lv_bipush (v := nI 57) hx hb dX8_isFigure_22 (by decide) ?_
    refine k_calls (As := [.int (nI (T a)), .int (nI 48), .int (nI 57)]) (rest := []) ⟨hx, hb, hml, hown, hts⟩ (c_X8_in l ((nI (T a))) (nI 48) (nI 57)) (va_cwS 3 hts gX8_isFigure_X8_in rfl rfl rfl (by decide +kernel) ⟨Nat.le_of_ble_eq_true rfl, Nat.le_of_ble_eq_true rfl⟩) rfl hl.1 rfl (lv_room (Nat.le_of_ble_eq_true rfl)) dX8_isFigure_24 ⟨Nat.le_of_ble_eq_true rfl, Nat.le_of_ble_eq_true rfl⟩ (fun r_24 hp_24 => ?_)
    rw [nI_toInt (show 48 < 2 ^ 31 by decide), nI_toInt (show 57 < 2 ^ 31 by decide), nI_toInt (show T a < 2 ^ 31 by omega)] at hp_24
    rcases hp_24 with ⟨rfl, g1⟩ | ⟨rfl, g1⟩
    · have hy : fg T nt a = true := by unfold fg; rw [hch]; exact decide_eq_true (by omega)
      refine lv_if_eq (tgt := 34) hx hb dX8_isFigure_27 (by decide) (fun c_27 => ?_) (fun c_27 => ?_)
      · exact absurd c_27 (by decide)
      · refine lv_iconst (v := nI 1) hx hb dX8_isFigure_30 (by decide) ?_
        refine lv_goto (tgt := 35) hx hb dX8_isFigure_31 (by decide) ?_
        exact k_zret hx hb hr (by decide) hlk I dX8_isFigure_35 (⟨by first | exact kT_1 hy | exact kT_0 hno, rfl⟩)
    · have hno : ¬ fg T nt a = true := fun q => by have := (fg_lt q).2; omega
      refine lv_if_eq (tgt := 34) hx hb dX8_isFigure_27 (by decide) (fun c_27 => ?_) (fun c_27 => ?_)
      · refine lv_iconst (v := nI 0) hx hb dX8_isFigure_34 (by decide) ?_
        exact k_zret hx hb hr (by decide) hlk I dX8_isFigure_35 (⟨by first | exact kT_1 hy | exact kT_0 hno, rfl⟩)
      · exact absurd c_27 (by decide)
set_option maxHeartbeats 4000000 in
set_option maxRecDepth 100000 in
theorem c_X8_isSign (cy : Nat → ClassId) (D : va_G) (ad : Nat → Nat) (l : Launch) (σ : Nat → Nat → Int32) (T : Nat → Nat) (nt : Nat) (hT : mT σ T nt) (a x : Nat) (ha : a ≤ 1000) (hx1 : 1 ≤ x) (hx9 : x ≤ 126) (e6 : σ 0 6 = nI a) : kMi 6 ad (kcM cy ad) cy D l yX8_isSign wsX8_isSign ({ frames := 0, cells := 0, slots := 0, locals := 0 }) [.ref (ad 0), .int (nI x)] σ (fun r σ' => (r = nI 1 ∧ ch T nt a = x ∧ σ' = va_up σ 0 (upd (σ 0) 6 (nI (a + 1)))) ∨ (r = nI 0 ∧ ch T nt a ≠ x ∧ σ' = va_up σ 0 (upd (σ 0) 6 (nI (a + 0))))) := by
  have hn := hT.2.1
  refine k_entry (cc := cX8_isSign) (maxL := 3) (ret := (some .boolean)) (by decide) rfl (Nat.le_of_ble_eq_true rfl) ?_
  intro p e s m below meth c hx hb hr hml hown hts hlk E I ls hl
  have hA : ∀ q, s.heap.size ≤ q → kA 6 ad s.heap.size q := fun q h => Or.inr h
  have hown : s.vm.findClass RX8 = some m.cls := hown
  have hl : lv_has ls 3 [(0, .ref (ad 0)), (1, .int (nI x))] := hl
  have iX8 : ∀ w ∈ u_ws RX8 TX8 13, w ∈ wsX8_isSign := fun w h => List.mem_cons_of_mem _ (List.mem_append_right _ h)
  refine lv_aload_n hx hb dX8_isSign_0 rfl (lv_at hl 0 rfl) ?_
  refine k_get (C := RX8) (T := TX8) (N := 13) (v := .int (nI a)) hx hb hts hown E I iX8 (0) (by decide) (r0 := σ 0) rfl km_0 rfl 6 (by decide) (List.mem_of_getElem? (i := 1) rfl) (congrArg (fun z => some (Value.int z)) e6) dX8_isSign_1 ?_
  refine lv_aload_n hx hb dX8_isSign_4 rfl (lv_at hl 0 rfl) ?_
  refine k_get (C := RX8) (T := TX8) (N := 13) (v := .int (nI nt)) hx hb hts hown E I iX8 (0) (by decide) (r0 := σ 0) rfl km_0 rfl 5 (by decide) (List.mem_of_getElem? (i := 2) rfl) (congrArg (fun z => some (Value.int z)) hT.1) dX8_isSign_5 ?_
  refine lv_icmp_ge (tgt := 28) hx hb dX8_isSign_8 (by decide) (fun c_8 => ?_) (fun c_8 => ?_)
  · have c_8 : nt ≤ a := (nI_leI (by omega) (by omega)).mp c_8
    have hch : ch T nt a = 0 := if_neg (by omega)
    have hno : ch T nt a ≠ x := by omega
    refine lv_iconst (v := nI 0) hx hb dX8_isSign_28 (by decide) ?_
    refine lv_istore_n (lv' := [(2, .int (nI 0)), (0, .ref (ad 0)), (1, .int (nI x))]) hx hb dX8_isSign_29 rfl hl (by decide) rfl (fun ls hl => ?_)
    refine lv_aload_n hx hb dX8_isSign_30 rfl (lv_at hl 1 rfl) ?_
    refine lv_dup hx hb dX8_isSign_31 rfl ?_
    refine k_get (C := RX8) (T := TX8) (N := 13) (v := .int (nI a)) hx hb hts hown E I iX8 (0) (by decide) (r0 := σ 0) rfl km_0 rfl 6 (by decide) (List.mem_of_getElem? (i := 1) rfl) (congrArg (fun z => some (Value.int z)) e6) dX8_isSign_32 ?_
    refine lv_iload_n hx hb dX8_isSign_35 rfl (lv_at hl 0 rfl) ?_
    refine lv_if_eq (tgt := 43) hx hb dX8_isSign_36 (by decide) (fun c_36 => ?_) (fun c_36 => ?_)
    · refine lv_iconst (v := nI 0) hx hb dX8_isSign_43 (by decide) ?_
      refine lv_iadd hx hb dX8_isSign_44 ?_
      rw [nI_add]
      refine k_put (C := RX8) (T := TX8) (N := 13) (ty0 := tyX8) (ty := .int) (v := .int (nI (a + 0))) hx hb hts hown E I iX8 tyX8_ok nmX8 (0) (by decide) (r0 := σ 0) rfl km_0 rfl 6 (by decide) (List.mem_of_getElem? (i := 1) rfl) rfl rfl rfl rfl (Nat.le_of_ble_eq_true rfl) (upd (σ 0) 6 (nI (a + 0))) rfl (σ2 := va_up σ 0 (upd (σ 0) 6 (nI (a + 0)))) rfl dX8_isSign_45 (fun H locs I => ?_)
      refine lv_iload_n hx hb dX8_isSign_48 rfl (lv_at hl 0 rfl) ?_
      exact k_zret hx hb hr (by decide) hlk I dX8_isSign_49 (by first | exact Or.inl ⟨rfl, hy, rfl⟩ | exact Or.inr ⟨rfl, hno, rfl⟩)
    · exact absurd c_36 (by decide)
  · have c_8 : ¬ (nt ≤ a) := fun q_ => c_8 ((nI_leI (by omega) (by omega)).mpr q_)
    have hta := hT.2.2 a (by omega)
    have hch : ch T nt a = T a := if_pos (by omega)
    refine lv_aload_n hx hb dX8_isSign_11 rfl (lv_at hl 0 rfl) ?_
    refine k_get (C := RX8) (T := TX8) (N := 13) (v := .ref (ad 4)) hx hb hts hown E I iX8 (0) (by decide) (r0 := σ 0) rfl km_0 rfl 4 (by decide) (List.mem_of_getElem? (i := 3) rfl) rfl dX8_isSign_12 ?_
    refine lv_aload_n hx hb dX8_isSign_15 rfl (lv_at hl 0 rfl) ?_
    refine k_get (C := RX8) (T := TX8) (N := 13) (v := .int (nI a)) hx hb hts hown E I iX8 (0) (by decide) (r0 := σ 0) rfl km_0 rfl 6 (by decide) (List.mem_of_getElem? (i := 1) rfl) (congrArg (fun z => some (Value.int z)) e6) dX8_isSign_16 ?_
    refine k_iald hx hb E I (4) (by decide) (r0 := σ 4) rfl km_4 (vp_in_nI (by omega) (by decide)) dX8_isSign_19 ?_
    rw [nI_clamp (by omega)]
    rw [hta.1]
    refine lv_iload_n hx hb dX8_isSign_20 rfl (lv_at hl 1 rfl) ?_
    refine lv_icmp_ne (tgt := 28) hx hb dX8_isSign_21 (by decide) (fun c_21 => ?_) (fun c_21 => ?_)
    · have c_21 : ¬ (((T a)) = x) := fun q_ => c_21 ((nI_eq (by omega) (by omega)).mpr q_)
      have hno : ch T nt a ≠ x := by omega
      refine lv_iconst (v := nI 0) hx hb dX8_isSign_28 (by decide) ?_
      refine lv_istore_n (lv' := [(2, .int (nI 0)), (0, .ref (ad 0)), (1, .int (nI x))]) hx hb dX8_isSign_29 rfl hl (by decide) rfl (fun ls hl => ?_)
      refine lv_aload_n hx hb dX8_isSign_30 rfl (lv_at hl 1 rfl) ?_
      refine lv_dup hx hb dX8_isSign_31 rfl ?_
      refine k_get (C := RX8) (T := TX8) (N := 13) (v := .int (nI a)) hx hb hts hown E I iX8 (0) (by decide) (r0 := σ 0) rfl km_0 rfl 6 (by decide) (List.mem_of_getElem? (i := 1) rfl) (congrArg (fun z => some (Value.int z)) e6) dX8_isSign_32 ?_
      refine lv_iload_n hx hb dX8_isSign_35 rfl (lv_at hl 0 rfl) ?_
      refine lv_if_eq (tgt := 43) hx hb dX8_isSign_36 (by decide) (fun c_36 => ?_) (fun c_36 => ?_)
      · refine lv_iconst (v := nI 0) hx hb dX8_isSign_43 (by decide) ?_
        refine lv_iadd hx hb dX8_isSign_44 ?_
        rw [nI_add]
        refine k_put (C := RX8) (T := TX8) (N := 13) (ty0 := tyX8) (ty := .int) (v := .int (nI (a + 0))) hx hb hts hown E I iX8 tyX8_ok nmX8 (0) (by decide) (r0 := σ 0) rfl km_0 rfl 6 (by decide) (List.mem_of_getElem? (i := 1) rfl) rfl rfl rfl rfl (Nat.le_of_ble_eq_true rfl) (upd (σ 0) 6 (nI (a + 0))) rfl (σ2 := va_up σ 0 (upd (σ 0) 6 (nI (a + 0)))) rfl dX8_isSign_45 (fun H locs I => ?_)
        refine lv_iload_n hx hb dX8_isSign_48 rfl (lv_at hl 0 rfl) ?_
        exact k_zret hx hb hr (by decide) hlk I dX8_isSign_49 (by first | exact Or.inl ⟨rfl, hy, rfl⟩ | exact Or.inr ⟨rfl, hno, rfl⟩)
      · exact absurd c_36 (by decide)
    · have c_21 : ((T a)) = x := (nI_eq (by omega) (by omega)).mp c_21
      have hy : ch T nt a = x := by omega
      refine lv_iconst (v := nI 1) hx hb dX8_isSign_24 (by decide) ?_
      refine lv_goto (tgt := 29) hx hb dX8_isSign_25 (by decide) ?_
      refine lv_istore_n (lv' := [(2, .int (nI 1)), (0, .ref (ad 0)), (1, .int (nI x))]) hx hb dX8_isSign_29 rfl hl (by decide) rfl (fun ls hl => ?_)
      refine lv_aload_n hx hb dX8_isSign_30 rfl (lv_at hl 1 rfl) ?_
      refine lv_dup hx hb dX8_isSign_31 rfl ?_
      refine k_get (C := RX8) (T := TX8) (N := 13) (v := .int (nI a)) hx hb hts hown E I iX8 (0) (by decide) (r0 := σ 0) rfl km_0 rfl 6 (by decide) (List.mem_of_getElem? (i := 1) rfl) (congrArg (fun z => some (Value.int z)) e6) dX8_isSign_32 ?_
      refine lv_iload_n hx hb dX8_isSign_35 rfl (lv_at hl 0 rfl) ?_
      refine lv_if_eq (tgt := 43) hx hb dX8_isSign_36 (by decide) (fun c_36 => ?_) (fun c_36 => ?_)
      · exact absurd c_36 (by decide)
      · refine lv_iconst (v := nI 1) hx hb dX8_isSign_39 (by decide) ?_
        refine lv_goto (tgt := 44) hx hb dX8_isSign_40 (by decide) ?_
        refine lv_iadd hx hb dX8_isSign_44 ?_
        rw [nI_add]
        refine k_put (C := RX8) (T := TX8) (N := 13) (ty0 := tyX8) (ty := .int) (v := .int (nI (a + 1))) hx hb hts hown E I iX8 tyX8_ok nmX8 (0) (by decide) (r0 := σ 0) rfl km_0 rfl 6 (by decide) (List.mem_of_getElem? (i := 1) rfl) rfl rfl rfl rfl (Nat.le_of_ble_eq_true rfl) (upd (σ 0) 6 (nI (a + 1))) rfl (σ2 := va_up σ 0 (upd (σ 0) 6 (nI (a + 1)))) rfl dX8_isSign_45 (fun H locs I => ?_)
        refine lv_iload_n hx hb dX8_isSign_48 rfl (lv_at hl 0 rfl) ?_
        exact k_zret hx hb hr (by decide) hlk I dX8_isSign_49 (by first | exact Or.inl ⟨rfl, hy, rfl⟩ | exact Or.inr ⟨rfl, hno, rfl⟩)
set_option maxHeartbeats 4000000 in
set_option maxRecDepth 100000 in
theorem c_X8_readNumbers (cy : Nat → ClassId) (D : va_G) (ad : Nat → Nat) (l : Launch) (σ : Nat → Nat → Int32) (T : Nat → Nat) (nt : Nat) (hT : mT σ T nt) (n : Nat) (hn1 : 1 ≤ n) (hn7 : n ≤ 7) (a : Nat) (ha : a ≤ 900) (e6 : σ 0 6 = nI a) : kMi 6 ad (kcM cy ad) cy D l yX8_readNumbers wsX8_readNumbers ({ frames := 2, cells := 0, slots := 0, locals := 42 }) [.ref (ad 0), .int (nI n)] σ (fun r σ' => kT r (∀ j, j < n → okR T nt a n j) ∧ qp σ σ' ∧ ((∀ j, j < n → okR T nt a n j) → σ' 0 6 = nI (sp T nt a n) ∧ ∀ j, j < n → σ' 5 j = nI (nvl T nt (sp T nt a j)))) := by
  refine k_entry (cc := cX8_readNumbers) (maxL := 6) (ret := (some .boolean)) (by decide) rfl (Nat.le_of_ble_eq_true rfl) ?_
  intro p e s m below meth c hx hb hr hml hown hts hlk E I ls hl
  have hA : ∀ q, s.heap.size ≤ q → kA 6 ad s.heap.size q := fun q h => Or.inr h
  have hown : s.vm.findClass RX8 = some m.cls := hown
  have hl : lv_has ls 6 [(0, .ref (ad 0)), (1, .int (nI n))] := hl
  have iX8 : ∀ w ∈ u_ws RX8 TX8 13, w ∈ wsX8_readNumbers := fun w h => List.mem_cons_of_mem _ (List.mem_append_right _ h)
  refine lv_iconst (v := nI 1) hx hb dX8_readNumbers_0 (by decide) ?_
  refine lv_istore_n (lv' := [(2, .int (nI 1)), (0, .ref (ad 0)), (1, .int (nI n))]) hx hb dX8_readNumbers_1 rfl hl (by decide) rfl (fun ls hl => ?_)
  refine lv_iconst (v := nI 0) hx hb dX8_readNumbers_2 (by decide) ?_
  refine lv_istore_n (lv' := [(3, .int (nI 0)), (2, .int (nI 1)), (0, .ref (ad 0)), (1, .int (nI n))]) hx hb dX8_readNumbers_3 rfl hl (by decide) rfl (fun ls hl => ?_)
  have LP_4 : ∀ (fuel_4 : Nat) (k : Nat) (fl : Nat) (p0 : Nat) (τ : Nat → Nat → Int32), n - k < fuel_4 → (k ≤ n) → (fl ≤ 1) → (τ 0 6 = nI p0) → (p0 ≤ a + 4 * k) → (qp σ τ) → (fl = 0 → ¬ (∀ j, j < n → okR T nt a n j)) → (fl = 1 → ((k = 0 ∧ p0 = a) ∨ (k ≠ 0 ∧ p0 + 1 = sp T nt a k)) ∧ (∀ j, j < k → 0 < nfc T nt (sp T nt a j) ∧ τ 5 j = nI (nvl T nt (sp T nt a j))) ∧ ∀ j, j + 1 < k → ch T nt (sp T nt a j + nfc T nt (sp T nt a j)) = 44) → ∀ (H : Heap) (locs : List Loc), kI 6 ad (kcM cy ad) D (kA 6 ad s.heap.size) s.heap τ H locs → ∀ ls : Array Slot, lv_has ls 6 [(0, .ref (ad 0)), (1, .int (nI n)), (2, .int (nI fl)), (3, .int (nI k))] → W p l e (headSpec wsX8_readNumbers ({ frames := 2, cells := 0, slots := 0, locals := 42 })).room s m [.ref (ad 0), .int (nI n)].toArray below meth c H locs 0 0 (MQ below (va_Qi (fun r σ' => kT r (∀ j, j < n → okR T nt a n j) ∧ qp σ σ' ∧ ((∀ j, j < n → okR T nt a n j) → σ' 0 6 = nI (sp T nt a n) ∧ ∀ j, j < n → σ' 5 j = nI (nvl T nt (sp T nt a j)))) (kB 6 ad (kcM cy ad) D) (kA 6 ad s.heap.size)) [.ref (ad 0), .int (nI n)].toArray s 0 0 (kA 6 ad s.heap.size)) (F0 m 4 ls []) := by
    intro fuel_4
    induction fuel_4 with
    | zero => intro k fl p0 τ hf_4; exact absurd hf_4 (Nat.not_lt_zero _)
    | succ fuel_4 ih_4 =>
      intro k fl p0 τ hf_4 hkn hfl t6 hp9 hF hbz hg H locs I ls hl
      have hTt := mT_qp hT hF
      have hspl := sp_le T nt a k
      refine lv_iload_n hx hb dX8_readNumbers_4 rfl (lv_at hl 3 rfl) ?_
      refine lv_iload_n hx hb dX8_readNumbers_5 rfl (lv_at hl 1 rfl) ?_
      refine lv_icmp_ge (tgt := 112) hx hb dX8_readNumbers_6 (by decide) (fun c_6 => ?_) (fun c_6 => ?_)
      · have c_6 : n ≤ k := (nI_leI (by omega) (by omega)).mp c_6
        have hke : k = n := by omega
        refine lv_iload_n hx hb dX8_readNumbers_112 rfl (lv_at hl 2 rfl) ?_
        refine lv_if_eq (tgt := 129) hx hb dX8_readNumbers_113 (by decide) (fun c_113 => ?_) (fun c_113 => ?_)
        · have c_113 : fl = 0 := (nI_eq (by omega) (by decide)).mp c_113
          have hbad := hbz (by omega)
          have hFe := hF
          refine lv_iconst (v := nI 0) hx hb dX8_readNumbers_129 (by decide) ?_
          exact k_zret hx hb hr (by decide) hlk I dX8_readNumbers_130 (by first | exact ⟨kT_0 hbad, hFe, fun q => absurd q hbad⟩ | exact ⟨kT_1 hall, qp_tr hF (qp_at hs_), fun _ => ⟨by rw [hs_, va_up_self, pk_us, hp1, hke], fun j hj => by rw [hs_, va_up_ne _ _ (by decide)]; exact (hnn j (by omega)).2⟩⟩)
        · have c_113 : ¬ (fl = 0) := fun q_ => c_113 ((nI_eq (by omega) (by decide)).mpr q_)
          obtain ⟨hpp, hnn, hss⟩ := hg (by omega)
          have hke : k = n := by omega
          have hp1 : p0 + 1 = sp T nt a k := by
            rcases hpp with q | q
            · omega
            · exact q.2
          have hpd := sp_pred (show k ≠ 0 by omega) hp1
          refine lv_aload_n hx hb dX8_readNumbers_116 rfl (lv_at hl 0 rfl) ?_
          refine lv_bipush (v := nI 59) hx hb dX8_readNumbers_117 (by decide) ?_
          refine k_calli (k := 0) (As := [.int (nI 59)]) (rest := []) ⟨hx, hb, hml, hown, hts⟩ (c_X8_isSign cy D ad l τ T nt hTt p0 59 (by omega) (by decide) (by decide) t6) (cwV 1 hts gX8_readNumbers_X8_isSign rfl rfl rfl (by decide +kernel) ⟨Nat.le_of_ble_eq_true rfl, Nat.le_of_ble_eq_true rfl⟩) E hA I (k_recv E I (by decide) km_0 rfl) rfl hl.1 rfl (lv_room (Nat.le_of_ble_eq_true rfl)) dX8_readNumbers_119 ⟨Nat.le_of_ble_eq_true rfl, Nat.le_of_ble_eq_true rfl⟩ (fun r_119 σ_119 H locs hp_119 I => ?_)
          rcases hp_119 with ⟨rfl, g5, hs_⟩ | ⟨rfl, g5, hs_⟩
          · have hall : ∀ j, j < n → okR T nt a n j := fun j hj => ⟨(hnn j (by omega)).1, by
              by_cases e_ : j + 1 = n
              · rw [if_pos e_, show j = k - 1 by omega, ← hpd]; exact g5
              · rw [if_neg e_]; exact hss j (by omega)⟩
            refine lv_if_eq (tgt := 129) hx hb dX8_readNumbers_122 (by decide) (fun c_122 => ?_) (fun c_122 => ?_)
            · exact absurd c_122 (by decide)
            · refine lv_iconst (v := nI 1) hx hb dX8_readNumbers_125 (by decide) ?_
              refine lv_goto (tgt := 130) hx hb dX8_readNumbers_126 (by decide) ?_
              exact k_zret hx hb hr (by decide) hlk I dX8_readNumbers_130 (by first | exact ⟨kT_0 hbad, hFe, fun q => absurd q hbad⟩ | exact ⟨kT_1 hall, qp_tr hF (qp_at hs_), fun _ => ⟨by rw [hs_, va_up_self, pk_us, hp1, hke], fun j hj => by rw [hs_, va_up_ne _ _ (by decide)]; exact (hnn j (by omega)).2⟩⟩)
          · have hFe := qp_tr hF (qp_at hs_)
            have hbad : ¬ (∀ j, j < n → okR T nt a n j) := fun q => by
              have h2 := (q (k - 1) (by omega)).2
              rw [← hpd, if_pos (by omega)] at h2
              exact g5 h2
            refine lv_if_eq (tgt := 129) hx hb dX8_readNumbers_122 (by decide) (fun c_122 => ?_) (fun c_122 => ?_)
            · refine lv_iconst (v := nI 0) hx hb dX8_readNumbers_129 (by decide) ?_
              exact k_zret hx hb hr (by decide) hlk I dX8_readNumbers_130 (by first | exact ⟨kT_0 hbad, hFe, fun q => absurd q hbad⟩ | exact ⟨kT_1 hall, qp_tr hF (qp_at hs_), fun _ => ⟨by rw [hs_, va_up_self, pk_us, hp1, hke], fun j hj => by rw [hs_, va_up_ne _ _ (by decide)]; exact (hnn j (by omega)).2⟩⟩)
            · exact absurd c_122 (by decide)
      · have c_6 : ¬ (n ≤ k) := fun q_ => c_6 ((nI_leI (by omega) (by omega)).mpr q_)
        refine lv_iload_n hx hb dX8_readNumbers_9 rfl (lv_at hl 2 rfl) ?_
        refine lv_if_eq (tgt := 112) hx hb dX8_readNumbers_10 (by decide) (fun c_10 => ?_) (fun c_10 => ?_)
        · have c_10 : fl = 0 := (nI_eq (by omega) (by decide)).mp c_10
          refine lv_iload_n hx hb dX8_readNumbers_112 rfl (lv_at hl 2 rfl) ?_
          refine lv_if_eq (tgt := 129) hx hb dX8_readNumbers_113 (by decide) (fun c_113 => ?_) (fun c_113 => ?_)
          · have c_113 : fl = 0 := (nI_eq (by omega) (by decide)).mp c_113
            have hbad := hbz (by omega)
            have hFe := hF
            refine lv_iconst (v := nI 0) hx hb dX8_readNumbers_129 (by decide) ?_
            exact k_zret hx hb hr (by decide) hlk I dX8_readNumbers_130 (by first | exact ⟨kT_0 hbad, hFe, fun q => absurd q hbad⟩ | exact ⟨kT_1 hall, qp_tr hF (qp_at hs_), fun _ => ⟨by rw [hs_, va_up_self, pk_us, hp1, hke], fun j hj => by rw [hs_, va_up_ne _ _ (by decide)]; exact (hnn j (by omega)).2⟩⟩)
          · have c_113 : ¬ (fl = 0) := fun q_ => c_113 ((nI_eq (by omega) (by decide)).mpr q_)
            obtain ⟨hpp, hnn, hss⟩ := hg (by omega)
            have hke : k = n := by omega
            have hp1 : p0 + 1 = sp T nt a k := by
              rcases hpp with q | q
              · omega
              · exact q.2
            have hpd := sp_pred (show k ≠ 0 by omega) hp1
            refine lv_aload_n hx hb dX8_readNumbers_116 rfl (lv_at hl 0 rfl) ?_
            refine lv_bipush (v := nI 59) hx hb dX8_readNumbers_117 (by decide) ?_
            refine k_calli (k := 0) (As := [.int (nI 59)]) (rest := []) ⟨hx, hb, hml, hown, hts⟩ (c_X8_isSign cy D ad l τ T nt hTt p0 59 (by omega) (by decide) (by decide) t6) (cwV 1 hts gX8_readNumbers_X8_isSign rfl rfl rfl (by decide +kernel) ⟨Nat.le_of_ble_eq_true rfl, Nat.le_of_ble_eq_true rfl⟩) E hA I (k_recv E I (by decide) km_0 rfl) rfl hl.1 rfl (lv_room (Nat.le_of_ble_eq_true rfl)) dX8_readNumbers_119 ⟨Nat.le_of_ble_eq_true rfl, Nat.le_of_ble_eq_true rfl⟩ (fun r_119 σ_119 H locs hp_119 I => ?_)
            rcases hp_119 with ⟨rfl, g5, hs_⟩ | ⟨rfl, g5, hs_⟩
            · have hall : ∀ j, j < n → okR T nt a n j := fun j hj => ⟨(hnn j (by omega)).1, by
                by_cases e_ : j + 1 = n
                · rw [if_pos e_, show j = k - 1 by omega, ← hpd]; exact g5
                · rw [if_neg e_]; exact hss j (by omega)⟩
              refine lv_if_eq (tgt := 129) hx hb dX8_readNumbers_122 (by decide) (fun c_122 => ?_) (fun c_122 => ?_)
              · exact absurd c_122 (by decide)
              · refine lv_iconst (v := nI 1) hx hb dX8_readNumbers_125 (by decide) ?_
                refine lv_goto (tgt := 130) hx hb dX8_readNumbers_126 (by decide) ?_
                exact k_zret hx hb hr (by decide) hlk I dX8_readNumbers_130 (by first | exact ⟨kT_0 hbad, hFe, fun q => absurd q hbad⟩ | exact ⟨kT_1 hall, qp_tr hF (qp_at hs_), fun _ => ⟨by rw [hs_, va_up_self, pk_us, hp1, hke], fun j hj => by rw [hs_, va_up_ne _ _ (by decide)]; exact (hnn j (by omega)).2⟩⟩)
            · have hFe := qp_tr hF (qp_at hs_)
              have hbad : ¬ (∀ j, j < n → okR T nt a n j) := fun q => by
                have h2 := (q (k - 1) (by omega)).2
                rw [← hpd, if_pos (by omega)] at h2
                exact g5 h2
              refine lv_if_eq (tgt := 129) hx hb dX8_readNumbers_122 (by decide) (fun c_122 => ?_) (fun c_122 => ?_)
              · refine lv_iconst (v := nI 0) hx hb dX8_readNumbers_129 (by decide) ?_
                exact k_zret hx hb hr (by decide) hlk I dX8_readNumbers_130 (by first | exact ⟨kT_0 hbad, hFe, fun q => absurd q hbad⟩ | exact ⟨kT_1 hall, qp_tr hF (qp_at hs_), fun _ => ⟨by rw [hs_, va_up_self, pk_us, hp1, hke], fun j hj => by rw [hs_, va_up_ne _ _ (by decide)]; exact (hnn j (by omega)).2⟩⟩)
              · exact absurd c_122 (by decide)
        · have c_10 : ¬ (fl = 0) := fun q_ => c_10 ((nI_eq (by omega) (by decide)).mpr q_)
          obtain ⟨hpp, hnn, hss⟩ := hg (by omega)
          refine lv_iload_n hx hb dX8_readNumbers_13 rfl (lv_at hl 3 rfl) ?_
          refine lv_if_eq (tgt := 26) hx hb dX8_readNumbers_14 (by decide) (fun c_14 => ?_) (fun c_14 => ?_)
          · have c_14 : k = 0 := (nI_eq (by omega) (by decide)).mp c_14
            have hpk : p0 = sp T nt a k := by
              rcases hpp with q | q
              · have := q.1; subst this; exact q.2
              · exact absurd c_14 q.1
            have u6 : τ 0 6 = nI (sp T nt a k) := by rw [← hpk]; exact t6
            have hTx := hTt
            have hn5 : τ 5 = τ 5 := rfl
            have hs44 : ∀ j, j + 1 < k + 1 → ch T nt (sp T nt a j + nfc T nt (sp T nt a j)) = 44 := fun j hj => by omega
            refine lv_aload_n hx hb dX8_readNumbers_26 rfl (lv_at hl 0 rfl) ?_
            refine k_calli (k := 0) (As := []) (rest := []) ⟨hx, hb, hml, hown, hts⟩ (c_X8_isFigure cy D ad l τ T nt hTx (sp T nt a k) (by omega) u6) (cwV 0 hts gX8_readNumbers_X8_isFigure rfl rfl rfl (by decide +kernel) ⟨Nat.le_of_ble_eq_true rfl, Nat.le_of_ble_eq_true rfl⟩) E hA I (k_recv E I (by decide) km_0 rfl) rfl hl.1 rfl (lv_room (Nat.le_of_ble_eq_true rfl)) dX8_readNumbers_27 ⟨Nat.le_of_ble_eq_true rfl, Nat.le_of_ble_eq_true rfl⟩ (fun r_27 σ_27 H locs hp_27 I => ?_)
            obtain ⟨hk_, rfl⟩ := hp_27
            rcases hk_ with ⟨rfl, g2⟩ | ⟨rfl, g2⟩
            · have hn0 := fg_pos g2
              refine lv_if_eq (tgt := 37) hx hb dX8_readNumbers_30 (by decide) (fun c_30 => ?_) (fun c_30 => ?_)
              · exact absurd c_30 (by decide)
              · refine lv_iconst (v := nI 1) hx hb dX8_readNumbers_33 (by decide) ?_
                refine lv_goto (tgt := 38) hx hb dX8_readNumbers_34 (by decide) ?_
                refine lv_istore_n (lv' := [(2, .int (nI 1)), (0, .ref (ad 0)), (1, .int (nI n)), (3, .int (nI k))]) hx hb dX8_readNumbers_38 rfl hl (by decide) rfl (fun ls hl => ?_)
                refine lv_iconst (v := nI 0) hx hb dX8_readNumbers_39 (by decide) ?_
                refine lv_istore (lv' := [(4, .int (nI 0)), (2, .int (nI 1)), (0, .ref (ad 0)), (1, .int (nI n)), (3, .int (nI k))]) hx hb dX8_readNumbers_40 hl (by decide) rfl (fun ls hl => ?_)
                refine lv_iconst (v := nI 0) hx hb dX8_readNumbers_42 (by decide) ?_
                refine lv_istore (lv' := [(5, .int (nI 0)), (4, .int (nI 0)), (2, .int (nI 1)), (0, .ref (ad 0)), (1, .int (nI n)), (3, .int (nI k))]) hx hb dX8_readNumbers_43 hl (by decide) rfl (fun ls hl => ?_)
                have LP_45 : ∀ (fuel_45 : Nat) (f : Nat) (fl2 : Nat) (p2 : Nat) (υ : Nat → Nat → Int32), 3 - f < fuel_45 → (f ≤ 3) → (fl2 ≤ 1) → (υ 0 6 = nI p2) → (p2 ≤ a + 4 * k + f) → (qp σ υ) → (fl2 = 0 → ¬ (∀ j, j < n → okR T nt a n j)) → (fl2 = 1 → p2 = sp T nt a k + f ∧ (∀ j, j < f → fg T nt (sp T nt a k + j) = true) ∧ 0 < nfc T nt (sp T nt a k) ∧ ∀ j, j + 1 < k + 1 → ch T nt (sp T nt a j + nfc T nt (sp T nt a j)) = 44) → (∀ j, j < k → υ 5 j = nI (nvl T nt (sp T nt a j))) → ∀ (H : Heap) (locs : List Loc), kI 6 ad (kcM cy ad) D (kA 6 ad s.heap.size) s.heap υ H locs → ∀ ls : Array Slot, lv_has ls 6 [(0, .ref (ad 0)), (1, .int (nI n)), (2, .int (nI fl2)), (3, .int (nI k)), (4, .int (nI (pv T nt (sp T nt a k) f))), (5, .int (nI f))] → W p l e (headSpec wsX8_readNumbers ({ frames := 2, cells := 0, slots := 0, locals := 42 })).room s m [.ref (ad 0), .int (nI n)].toArray below meth c H locs 0 0 (MQ below (va_Qi (fun r σ' => kT r (∀ j, j < n → okR T nt a n j) ∧ qp σ σ' ∧ ((∀ j, j < n → okR T nt a n j) → σ' 0 6 = nI (sp T nt a n) ∧ ∀ j, j < n → σ' 5 j = nI (nvl T nt (sp T nt a j)))) (kB 6 ad (kcM cy ad) D) (kA 6 ad s.heap.size)) [.ref (ad 0), .int (nI n)].toArray s 0 0 (kA 6 ad s.heap.size)) (F0 m 45 ls []) := by
                  intro fuel_45
                  induction fuel_45 with
                  | zero => intro f fl2 p2 υ hf_45; exact absurd hf_45 (Nat.not_lt_zero _)
                  | succ fuel_45 ih_45 =>
                    intro f fl2 p2 υ hf_45 hf3 hf2 u6 hp2 hFu hb2 hg2 hn5 H locs I ls hl
                    refine lv_iload hx hb dX8_readNumbers_45 (lv_at hl 5 rfl) ?_
                    refine lv_iconst (v := nI 3) hx hb dX8_readNumbers_47 (by decide) ?_
                    refine lv_icmp_ge (tgt := 98) hx hb dX8_readNumbers_48 (by decide) (fun c_48 => ?_) (fun c_48 => ?_)
                    · have c_48 : 3 ≤ f := (nI_leI (by omega) (by omega)).mp c_48
                      refine lv_aload_n hx hb dX8_readNumbers_98 rfl (lv_at hl 0 rfl) ?_
                      refine k_get (C := RX8) (T := TX8) (N := 13) (v := .ref (ad 5)) hx hb hts hown E I iX8 (0) (by decide) (r0 := υ 0) rfl km_0 rfl 7 (by decide) (List.mem_of_getElem? (i := 3) rfl) rfl dX8_readNumbers_99 ?_
                      refine lv_iload_n hx hb dX8_readNumbers_102 rfl (lv_at hl 3 rfl) ?_
                      refine lv_iload hx hb dX8_readNumbers_103 (lv_at hl 4 rfl) ?_
                      refine k_iast hx hb E I (5) (by decide) (r0 := υ 5) rfl (fun _ => km_5) (vp_in_nI (by omega) (by decide)) (σ2 := va_up υ 5 (upd (υ 5) k (nI (pv T nt (sp T nt a k) f)))) (by rw [nI_clamp (by omega)]) dX8_readNumbers_105 (fun H locs I => ?_)
                      refine lv_iinc (v := nI (k + 1)) (lv' := [(3, .int (nI (k + 1))), (0, .ref (ad 0)), (1, .int (nI n)), (2, .int (nI fl2)), (4, .int (nI (pv T nt (sp T nt a k) f))), (5, .int (nI f))]) hx hb dX8_readNumbers_106 hl (k := 3) rfl (show nI k + Int32.ofInt 1 = nI (k + 1) from nI_add k 1) (by decide) rfl (fun ls hl => ?_)
                      refine lv_goto (tgt := 4) hx hb dX8_readNumbers_109 (by decide) ?_
                      exact ih_4 (k + 1) fl2 p2 _ (by omega) (by omega) (hf2) (by rw [va_up_ne _ _ (by decide)]; exact u6) (by omega) (qp_tr hFu (qp_5 rfl)) (hb2) (fun z => by obtain ⟨hpe, hfg, hn0, hs44⟩ := hg2 z; have hnf : nfc T nt (sp T nt a k) = f := nfc_eq hf3 hfg (fun y => by first | omega | (rw [← hpe]; exact Bool.eq_false_iff.mpr g3)); exact ⟨Or.inr ⟨by omega, by rw [sp, hnf, hpe]⟩, fun j hj => by by_cases e_ : j = k; (subst e_; exact ⟨hn0, by rw [va_up_self, pk_us]; unfold nvl; rw [hnf]⟩); (exact ⟨(hnn j (by omega)).1, by rw [va_up_self, pk_un e_]; exact hn5 j (by omega)⟩), hs44⟩) _ _ I _ (lv_sub hl [1, 2, 3, 0] rfl)
                    · have c_48 : ¬ (3 ≤ f) := fun q_ => c_48 ((nI_leI (by omega) (by omega)).mpr q_)
                      refine lv_iload_n hx hb dX8_readNumbers_51 rfl (lv_at hl 2 rfl) ?_
                      refine lv_if_eq (tgt := 98) hx hb dX8_readNumbers_52 (by decide) (fun c_52 => ?_) (fun c_52 => ?_)
                      · have c_52 : fl2 = 0 := (nI_eq (by omega) (by decide)).mp c_52
                        refine lv_aload_n hx hb dX8_readNumbers_98 rfl (lv_at hl 0 rfl) ?_
                        refine k_get (C := RX8) (T := TX8) (N := 13) (v := .ref (ad 5)) hx hb hts hown E I iX8 (0) (by decide) (r0 := υ 0) rfl km_0 rfl 7 (by decide) (List.mem_of_getElem? (i := 3) rfl) rfl dX8_readNumbers_99 ?_
                        refine lv_iload_n hx hb dX8_readNumbers_102 rfl (lv_at hl 3 rfl) ?_
                        refine lv_iload hx hb dX8_readNumbers_103 (lv_at hl 4 rfl) ?_
                        refine k_iast hx hb E I (5) (by decide) (r0 := υ 5) rfl (fun _ => km_5) (vp_in_nI (by omega) (by decide)) (σ2 := va_up υ 5 (upd (υ 5) k (nI (pv T nt (sp T nt a k) f)))) (by rw [nI_clamp (by omega)]) dX8_readNumbers_105 (fun H locs I => ?_)
                        refine lv_iinc (v := nI (k + 1)) (lv' := [(3, .int (nI (k + 1))), (0, .ref (ad 0)), (1, .int (nI n)), (2, .int (nI fl2)), (4, .int (nI (pv T nt (sp T nt a k) f))), (5, .int (nI f))]) hx hb dX8_readNumbers_106 hl (k := 3) rfl (show nI k + Int32.ofInt 1 = nI (k + 1) from nI_add k 1) (by decide) rfl (fun ls hl => ?_)
                        refine lv_goto (tgt := 4) hx hb dX8_readNumbers_109 (by decide) ?_
                        exact ih_4 (k + 1) fl2 p2 _ (by omega) (by omega) (hf2) (by rw [va_up_ne _ _ (by decide)]; exact u6) (by omega) (qp_tr hFu (qp_5 rfl)) (hb2) (fun z => by obtain ⟨hpe, hfg, hn0, hs44⟩ := hg2 z; have hnf : nfc T nt (sp T nt a k) = f := nfc_eq hf3 hfg (fun y => by first | omega | (rw [← hpe]; exact Bool.eq_false_iff.mpr g3)); exact ⟨Or.inr ⟨by omega, by rw [sp, hnf, hpe]⟩, fun j hj => by by_cases e_ : j = k; (subst e_; exact ⟨hn0, by rw [va_up_self, pk_us]; unfold nvl; rw [hnf]⟩); (exact ⟨(hnn j (by omega)).1, by rw [va_up_self, pk_un e_]; exact hn5 j (by omega)⟩), hs44⟩) _ _ I _ (lv_sub hl [1, 2, 3, 0] rfl)
                      · have c_52 : ¬ (fl2 = 0) := fun q_ => c_52 ((nI_eq (by omega) (by decide)).mpr q_)
                        obtain ⟨hpe, hfg, hn0, hs44⟩ := hg2 (by omega)
                        refine lv_aload_n hx hb dX8_readNumbers_55 rfl (lv_at hl 0 rfl) ?_
                        refine k_calli (k := 0) (As := []) (rest := []) ⟨hx, hb, hml, hown, hts⟩ (c_X8_isFigure cy D ad l υ T nt (mT_qp hT hFu) p2 (by omega) u6) (cwV 0 hts gX8_readNumbers_X8_isFigure rfl rfl rfl (by decide +kernel) ⟨Nat.le_of_ble_eq_true rfl, Nat.le_of_ble_eq_true rfl⟩) E hA I (k_recv E I (by decide) km_0 rfl) rfl hl.1 rfl (lv_room (Nat.le_of_ble_eq_true rfl)) dX8_readNumbers_56 ⟨Nat.le_of_ble_eq_true rfl, Nat.le_of_ble_eq_true rfl⟩ (fun r_56 σ_56 H locs hp_56 I => ?_)
                        obtain ⟨hk_, rfl⟩ := hp_56
                        rcases hk_ with ⟨rfl, g3⟩ | ⟨rfl, g3⟩
                        · have hlt := fg_lt g3
                          have hn2 := hT.2.1
                          refine lv_if_eq (tgt := 98) hx hb dX8_readNumbers_59 (by decide) (fun c_59 => ?_) (fun c_59 => ?_)
                          · exact absurd c_59 (by decide)
                          · refine lv_bipush (v := nI 10) hx hb dX8_readNumbers_62 (by decide) ?_
                            refine lv_iload hx hb dX8_readNumbers_64 (lv_at hl 4 rfl) ?_
                            refine lv_imul hx hb dX8_readNumbers_66 ?_
                            rw [pk_mul]
                            refine lv_aload_n hx hb dX8_readNumbers_67 rfl (lv_at hl 0 rfl) ?_
                            refine k_get (C := RX8) (T := TX8) (N := 13) (v := .ref (ad 4)) hx hb hts hown E I iX8 (0) (by decide) (r0 := υ 0) rfl km_0 rfl 4 (by decide) (List.mem_of_getElem? (i := 1) rfl) rfl dX8_readNumbers_68 ?_
                            refine lv_aload_n hx hb dX8_readNumbers_71 rfl (lv_at hl 0 rfl) ?_
                            refine k_get (C := RX8) (T := TX8) (N := 13) (v := .int (nI p2)) hx hb hts hown E I iX8 (0) (by decide) (r0 := υ 0) rfl km_0 rfl 6 (by decide) (List.mem_of_getElem? (i := 2) rfl) (congrArg (fun z => some (Value.int z)) u6) dX8_readNumbers_72 ?_
                            refine k_iald hx hb E I (4) (by decide) (r0 := υ 4) rfl km_4 (vp_in_nI (by omega) (by decide)) dX8_readNumbers_75 ?_
                            rw [nI_clamp (by omega)]
                            rw [((mT_qp hT hFu).2.2 p2 hlt.1).1]
                            refine lv_iadd hx hb dX8_readNumbers_76 ?_
                            rw [nI_add]
                            refine lv_bipush (v := nI 48) hx hb dX8_readNumbers_77 (by decide) ?_
                            refine lv_isub hx hb dX8_readNumbers_79 ?_
                            refine lv_topi (fun t_80 et_80 => ?_)
                            have et_80 : t_80 = nI (pv T nt (sp T nt a k) (f + 1)) := et_80.trans ((pk_sub (by omega)).trans (congrArg nI (by rw [pv, ← hpe, hlt.2.1]; omega)))
                            subst et_80
                            refine lv_istore (lv' := [(4, .int (nI (pv T nt (sp T nt a k) (f + 1)))), (0, .ref (ad 0)), (1, .int (nI n)), (2, .int (nI fl2)), (3, .int (nI k)), (5, .int (nI f))]) hx hb dX8_readNumbers_80 hl (by decide) rfl (fun ls hl => ?_)
                            refine lv_aload_n hx hb dX8_readNumbers_82 rfl (lv_at hl 1 rfl) ?_
                            refine lv_dup hx hb dX8_readNumbers_83 rfl ?_
                            refine k_get (C := RX8) (T := TX8) (N := 13) (v := .int (nI p2)) hx hb hts hown E I iX8 (0) (by decide) (r0 := υ 0) rfl km_0 rfl 6 (by decide) (List.mem_of_getElem? (i := 2) rfl) (congrArg (fun z => some (Value.int z)) u6) dX8_readNumbers_84 ?_
                            refine lv_iconst (v := nI 1) hx hb dX8_readNumbers_87 (by decide) ?_
                            refine lv_iadd hx hb dX8_readNumbers_88 ?_
                            rw [nI_add]
                            refine k_put (C := RX8) (T := TX8) (N := 13) (ty0 := tyX8) (ty := .int) (v := .int (nI (p2 + 1))) hx hb hts hown E I iX8 tyX8_ok nmX8 (0) (by decide) (r0 := υ 0) rfl km_0 rfl 6 (by decide) (List.mem_of_getElem? (i := 2) rfl) rfl rfl rfl rfl (Nat.le_of_ble_eq_true rfl) (upd (υ 0) 6 (nI (p2 + 1))) rfl (σ2 := va_up υ 0 (upd (υ 0) 6 (nI (p2 + 1)))) rfl dX8_readNumbers_89 (fun H locs I => ?_)
                            refine lv_iinc (v := nI (f + 1)) (lv' := [(5, .int (nI (f + 1))), (4, .int (nI (pv T nt (sp T nt a k) (f + 1)))), (0, .ref (ad 0)), (1, .int (nI n)), (2, .int (nI fl2)), (3, .int (nI k))]) hx hb dX8_readNumbers_92 hl (k := 5) rfl (show nI f + Int32.ofInt 1 = nI (f + 1) from nI_add f 1) (by decide) rfl (fun ls hl => ?_)
                            refine lv_goto (tgt := 45) hx hb dX8_readNumbers_95 (by decide) ?_
                            exact ih_45 (f + 1) fl2 (p2 + 1) _ (by omega) (by omega) (hf2) (by rw [va_up_self, pk_us]) (by omega) (qp_tr hFu (qp_at rfl)) (hb2) (fun _ => ⟨by omega, fun j hj => by by_cases e_ : j = f; (rw [e_, ← hpe]; exact g3); exact hfg j (by omega), hn0, hs44⟩) (fun j hj => by rw [va_up_ne _ _ (by decide)]; exact hn5 j hj) _ _ I _ (lv_sub hl [2, 3, 4, 5, 1, 0] rfl)
                        · refine lv_if_eq (tgt := 98) hx hb dX8_readNumbers_59 (by decide) (fun c_59 => ?_) (fun c_59 => ?_)
                          · refine lv_aload_n hx hb dX8_readNumbers_98 rfl (lv_at hl 0 rfl) ?_
                            refine k_get (C := RX8) (T := TX8) (N := 13) (v := .ref (ad 5)) hx hb hts hown E I iX8 (0) (by decide) (r0 := υ 0) rfl km_0 rfl 7 (by decide) (List.mem_of_getElem? (i := 3) rfl) rfl dX8_readNumbers_99 ?_
                            refine lv_iload_n hx hb dX8_readNumbers_102 rfl (lv_at hl 3 rfl) ?_
                            refine lv_iload hx hb dX8_readNumbers_103 (lv_at hl 4 rfl) ?_
                            refine k_iast hx hb E I (5) (by decide) (r0 := υ 5) rfl (fun _ => km_5) (vp_in_nI (by omega) (by decide)) (σ2 := va_up υ 5 (upd (υ 5) k (nI (pv T nt (sp T nt a k) f)))) (by rw [nI_clamp (by omega)]) dX8_readNumbers_105 (fun H locs I => ?_)
                            refine lv_iinc (v := nI (k + 1)) (lv' := [(3, .int (nI (k + 1))), (0, .ref (ad 0)), (1, .int (nI n)), (2, .int (nI fl2)), (4, .int (nI (pv T nt (sp T nt a k) f))), (5, .int (nI f))]) hx hb dX8_readNumbers_106 hl (k := 3) rfl (show nI k + Int32.ofInt 1 = nI (k + 1) from nI_add k 1) (by decide) rfl (fun ls hl => ?_)
                            refine lv_goto (tgt := 4) hx hb dX8_readNumbers_109 (by decide) ?_
                            exact ih_4 (k + 1) fl2 p2 _ (by omega) (by omega) (hf2) (by rw [va_up_ne _ _ (by decide)]; exact u6) (by omega) (qp_tr hFu (qp_5 rfl)) (hb2) (fun z => by obtain ⟨hpe, hfg, hn0, hs44⟩ := hg2 z; have hnf : nfc T nt (sp T nt a k) = f := nfc_eq hf3 hfg (fun y => by first | omega | (rw [← hpe]; exact Bool.eq_false_iff.mpr g3)); exact ⟨Or.inr ⟨by omega, by rw [sp, hnf, hpe]⟩, fun j hj => by by_cases e_ : j = k; (subst e_; exact ⟨hn0, by rw [va_up_self, pk_us]; unfold nvl; rw [hnf]⟩); (exact ⟨(hnn j (by omega)).1, by rw [va_up_self, pk_un e_]; exact hn5 j (by omega)⟩), hs44⟩) _ _ I _ (lv_sub hl [1, 2, 3, 0] rfl)
                          · exact absurd c_59 (by decide)
                exact LP_45 _ 0 _ _ _ (Nat.lt_succ_self _) (Nat.zero_le _) (by decide) (u6) (by omega) (hF) (by first | exact fun _ => hbad | exact fun z => absurd z (by decide)) (by first | exact fun z => absurd z (by decide) | exact fun _ => ⟨rfl, fun j hj => absurd hj (Nat.not_lt_zero j), hn0, hs44⟩) (fun j hj => by rw [hn5]; exact (hnn j hj).2) _ _ I _ (lv_sub hl [3, 4, 2, 5, 1, 0] rfl)
            · have hbad : ¬ (∀ j, j < n → okR T nt a n j) := fun q => by
                have h2 := (q k (by omega)).1
                rw [nfc_0 g2] at h2
                omega
              refine lv_if_eq (tgt := 37) hx hb dX8_readNumbers_30 (by decide) (fun c_30 => ?_) (fun c_30 => ?_)
              · refine lv_iconst (v := nI 0) hx hb dX8_readNumbers_37 (by decide) ?_
                refine lv_istore_n (lv' := [(2, .int (nI 0)), (0, .ref (ad 0)), (1, .int (nI n)), (3, .int (nI k))]) hx hb dX8_readNumbers_38 rfl hl (by decide) rfl (fun ls hl => ?_)
                refine lv_iconst (v := nI 0) hx hb dX8_readNumbers_39 (by decide) ?_
                refine lv_istore (lv' := [(4, .int (nI 0)), (2, .int (nI 0)), (0, .ref (ad 0)), (1, .int (nI n)), (3, .int (nI k))]) hx hb dX8_readNumbers_40 hl (by decide) rfl (fun ls hl => ?_)
                refine lv_iconst (v := nI 0) hx hb dX8_readNumbers_42 (by decide) ?_
                refine lv_istore (lv' := [(5, .int (nI 0)), (4, .int (nI 0)), (2, .int (nI 0)), (0, .ref (ad 0)), (1, .int (nI n)), (3, .int (nI k))]) hx hb dX8_readNumbers_43 hl (by decide) rfl (fun ls hl => ?_)
                have LP_45 : ∀ (fuel_45 : Nat) (f : Nat) (fl2 : Nat) (p2 : Nat) (υ : Nat → Nat → Int32), 3 - f < fuel_45 → (f ≤ 3) → (fl2 ≤ 1) → (υ 0 6 = nI p2) → (p2 ≤ a + 4 * k + f) → (qp σ υ) → (fl2 = 0 → ¬ (∀ j, j < n → okR T nt a n j)) → (fl2 = 1 → p2 = sp T nt a k + f ∧ (∀ j, j < f → fg T nt (sp T nt a k + j) = true) ∧ 0 < nfc T nt (sp T nt a k) ∧ ∀ j, j + 1 < k + 1 → ch T nt (sp T nt a j + nfc T nt (sp T nt a j)) = 44) → (∀ j, j < k → υ 5 j = nI (nvl T nt (sp T nt a j))) → ∀ (H : Heap) (locs : List Loc), kI 6 ad (kcM cy ad) D (kA 6 ad s.heap.size) s.heap υ H locs → ∀ ls : Array Slot, lv_has ls 6 [(0, .ref (ad 0)), (1, .int (nI n)), (2, .int (nI fl2)), (3, .int (nI k)), (4, .int (nI (pv T nt (sp T nt a k) f))), (5, .int (nI f))] → W p l e (headSpec wsX8_readNumbers ({ frames := 2, cells := 0, slots := 0, locals := 42 })).room s m [.ref (ad 0), .int (nI n)].toArray below meth c H locs 0 0 (MQ below (va_Qi (fun r σ' => kT r (∀ j, j < n → okR T nt a n j) ∧ qp σ σ' ∧ ((∀ j, j < n → okR T nt a n j) → σ' 0 6 = nI (sp T nt a n) ∧ ∀ j, j < n → σ' 5 j = nI (nvl T nt (sp T nt a j)))) (kB 6 ad (kcM cy ad) D) (kA 6 ad s.heap.size)) [.ref (ad 0), .int (nI n)].toArray s 0 0 (kA 6 ad s.heap.size)) (F0 m 45 ls []) := by
                  intro fuel_45
                  induction fuel_45 with
                  | zero => intro f fl2 p2 υ hf_45; exact absurd hf_45 (Nat.not_lt_zero _)
                  | succ fuel_45 ih_45 =>
                    intro f fl2 p2 υ hf_45 hf3 hf2 u6 hp2 hFu hb2 hg2 hn5 H locs I ls hl
                    refine lv_iload hx hb dX8_readNumbers_45 (lv_at hl 5 rfl) ?_
                    refine lv_iconst (v := nI 3) hx hb dX8_readNumbers_47 (by decide) ?_
                    refine lv_icmp_ge (tgt := 98) hx hb dX8_readNumbers_48 (by decide) (fun c_48 => ?_) (fun c_48 => ?_)
                    · have c_48 : 3 ≤ f := (nI_leI (by omega) (by omega)).mp c_48
                      refine lv_aload_n hx hb dX8_readNumbers_98 rfl (lv_at hl 0 rfl) ?_
                      refine k_get (C := RX8) (T := TX8) (N := 13) (v := .ref (ad 5)) hx hb hts hown E I iX8 (0) (by decide) (r0 := υ 0) rfl km_0 rfl 7 (by decide) (List.mem_of_getElem? (i := 3) rfl) rfl dX8_readNumbers_99 ?_
                      refine lv_iload_n hx hb dX8_readNumbers_102 rfl (lv_at hl 3 rfl) ?_
                      refine lv_iload hx hb dX8_readNumbers_103 (lv_at hl 4 rfl) ?_
                      refine k_iast hx hb E I (5) (by decide) (r0 := υ 5) rfl (fun _ => km_5) (vp_in_nI (by omega) (by decide)) (σ2 := va_up υ 5 (upd (υ 5) k (nI (pv T nt (sp T nt a k) f)))) (by rw [nI_clamp (by omega)]) dX8_readNumbers_105 (fun H locs I => ?_)
                      refine lv_iinc (v := nI (k + 1)) (lv' := [(3, .int (nI (k + 1))), (0, .ref (ad 0)), (1, .int (nI n)), (2, .int (nI fl2)), (4, .int (nI (pv T nt (sp T nt a k) f))), (5, .int (nI f))]) hx hb dX8_readNumbers_106 hl (k := 3) rfl (show nI k + Int32.ofInt 1 = nI (k + 1) from nI_add k 1) (by decide) rfl (fun ls hl => ?_)
                      refine lv_goto (tgt := 4) hx hb dX8_readNumbers_109 (by decide) ?_
                      exact ih_4 (k + 1) fl2 p2 _ (by omega) (by omega) (hf2) (by rw [va_up_ne _ _ (by decide)]; exact u6) (by omega) (qp_tr hFu (qp_5 rfl)) (hb2) (fun z => by obtain ⟨hpe, hfg, hn0, hs44⟩ := hg2 z; have hnf : nfc T nt (sp T nt a k) = f := nfc_eq hf3 hfg (fun y => by first | omega | (rw [← hpe]; exact Bool.eq_false_iff.mpr g3)); exact ⟨Or.inr ⟨by omega, by rw [sp, hnf, hpe]⟩, fun j hj => by by_cases e_ : j = k; (subst e_; exact ⟨hn0, by rw [va_up_self, pk_us]; unfold nvl; rw [hnf]⟩); (exact ⟨(hnn j (by omega)).1, by rw [va_up_self, pk_un e_]; exact hn5 j (by omega)⟩), hs44⟩) _ _ I _ (lv_sub hl [1, 2, 3, 0] rfl)
                    · have c_48 : ¬ (3 ≤ f) := fun q_ => c_48 ((nI_leI (by omega) (by omega)).mpr q_)
                      refine lv_iload_n hx hb dX8_readNumbers_51 rfl (lv_at hl 2 rfl) ?_
                      refine lv_if_eq (tgt := 98) hx hb dX8_readNumbers_52 (by decide) (fun c_52 => ?_) (fun c_52 => ?_)
                      · have c_52 : fl2 = 0 := (nI_eq (by omega) (by decide)).mp c_52
                        refine lv_aload_n hx hb dX8_readNumbers_98 rfl (lv_at hl 0 rfl) ?_
                        refine k_get (C := RX8) (T := TX8) (N := 13) (v := .ref (ad 5)) hx hb hts hown E I iX8 (0) (by decide) (r0 := υ 0) rfl km_0 rfl 7 (by decide) (List.mem_of_getElem? (i := 3) rfl) rfl dX8_readNumbers_99 ?_
                        refine lv_iload_n hx hb dX8_readNumbers_102 rfl (lv_at hl 3 rfl) ?_
                        refine lv_iload hx hb dX8_readNumbers_103 (lv_at hl 4 rfl) ?_
                        refine k_iast hx hb E I (5) (by decide) (r0 := υ 5) rfl (fun _ => km_5) (vp_in_nI (by omega) (by decide)) (σ2 := va_up υ 5 (upd (υ 5) k (nI (pv T nt (sp T nt a k) f)))) (by rw [nI_clamp (by omega)]) dX8_readNumbers_105 (fun H locs I => ?_)
                        refine lv_iinc (v := nI (k + 1)) (lv' := [(3, .int (nI (k + 1))), (0, .ref (ad 0)), (1, .int (nI n)), (2, .int (nI fl2)), (4, .int (nI (pv T nt (sp T nt a k) f))), (5, .int (nI f))]) hx hb dX8_readNumbers_106 hl (k := 3) rfl (show nI k + Int32.ofInt 1 = nI (k + 1) from nI_add k 1) (by decide) rfl (fun ls hl => ?_)
                        refine lv_goto (tgt := 4) hx hb dX8_readNumbers_109 (by decide) ?_
                        exact ih_4 (k + 1) fl2 p2 _ (by omega) (by omega) (hf2) (by rw [va_up_ne _ _ (by decide)]; exact u6) (by omega) (qp_tr hFu (qp_5 rfl)) (hb2) (fun z => by obtain ⟨hpe, hfg, hn0, hs44⟩ := hg2 z; have hnf : nfc T nt (sp T nt a k) = f := nfc_eq hf3 hfg (fun y => by first | omega | (rw [← hpe]; exact Bool.eq_false_iff.mpr g3)); exact ⟨Or.inr ⟨by omega, by rw [sp, hnf, hpe]⟩, fun j hj => by by_cases e_ : j = k; (subst e_; exact ⟨hn0, by rw [va_up_self, pk_us]; unfold nvl; rw [hnf]⟩); (exact ⟨(hnn j (by omega)).1, by rw [va_up_self, pk_un e_]; exact hn5 j (by omega)⟩), hs44⟩) _ _ I _ (lv_sub hl [1, 2, 3, 0] rfl)
                      · have c_52 : ¬ (fl2 = 0) := fun q_ => c_52 ((nI_eq (by omega) (by decide)).mpr q_)
                        obtain ⟨hpe, hfg, hn0, hs44⟩ := hg2 (by omega)
                        refine lv_aload_n hx hb dX8_readNumbers_55 rfl (lv_at hl 0 rfl) ?_
                        refine k_calli (k := 0) (As := []) (rest := []) ⟨hx, hb, hml, hown, hts⟩ (c_X8_isFigure cy D ad l υ T nt (mT_qp hT hFu) p2 (by omega) u6) (cwV 0 hts gX8_readNumbers_X8_isFigure rfl rfl rfl (by decide +kernel) ⟨Nat.le_of_ble_eq_true rfl, Nat.le_of_ble_eq_true rfl⟩) E hA I (k_recv E I (by decide) km_0 rfl) rfl hl.1 rfl (lv_room (Nat.le_of_ble_eq_true rfl)) dX8_readNumbers_56 ⟨Nat.le_of_ble_eq_true rfl, Nat.le_of_ble_eq_true rfl⟩ (fun r_56 σ_56 H locs hp_56 I => ?_)
                        obtain ⟨hk_, rfl⟩ := hp_56
                        rcases hk_ with ⟨rfl, g3⟩ | ⟨rfl, g3⟩
                        · have hlt := fg_lt g3
                          have hn2 := hT.2.1
                          refine lv_if_eq (tgt := 98) hx hb dX8_readNumbers_59 (by decide) (fun c_59 => ?_) (fun c_59 => ?_)
                          · exact absurd c_59 (by decide)
                          · refine lv_bipush (v := nI 10) hx hb dX8_readNumbers_62 (by decide) ?_
                            refine lv_iload hx hb dX8_readNumbers_64 (lv_at hl 4 rfl) ?_
                            refine lv_imul hx hb dX8_readNumbers_66 ?_
                            rw [pk_mul]
                            refine lv_aload_n hx hb dX8_readNumbers_67 rfl (lv_at hl 0 rfl) ?_
                            refine k_get (C := RX8) (T := TX8) (N := 13) (v := .ref (ad 4)) hx hb hts hown E I iX8 (0) (by decide) (r0 := υ 0) rfl km_0 rfl 4 (by decide) (List.mem_of_getElem? (i := 1) rfl) rfl dX8_readNumbers_68 ?_
                            refine lv_aload_n hx hb dX8_readNumbers_71 rfl (lv_at hl 0 rfl) ?_
                            refine k_get (C := RX8) (T := TX8) (N := 13) (v := .int (nI p2)) hx hb hts hown E I iX8 (0) (by decide) (r0 := υ 0) rfl km_0 rfl 6 (by decide) (List.mem_of_getElem? (i := 2) rfl) (congrArg (fun z => some (Value.int z)) u6) dX8_readNumbers_72 ?_
                            refine k_iald hx hb E I (4) (by decide) (r0 := υ 4) rfl km_4 (vp_in_nI (by omega) (by decide)) dX8_readNumbers_75 ?_
                            rw [nI_clamp (by omega)]
                            rw [((mT_qp hT hFu).2.2 p2 hlt.1).1]
                            refine lv_iadd hx hb dX8_readNumbers_76 ?_
                            rw [nI_add]
                            refine lv_bipush (v := nI 48) hx hb dX8_readNumbers_77 (by decide) ?_
                            refine lv_isub hx hb dX8_readNumbers_79 ?_
                            refine lv_topi (fun t_80 et_80 => ?_)
                            have et_80 : t_80 = nI (pv T nt (sp T nt a k) (f + 1)) := et_80.trans ((pk_sub (by omega)).trans (congrArg nI (by rw [pv, ← hpe, hlt.2.1]; omega)))
                            subst et_80
                            refine lv_istore (lv' := [(4, .int (nI (pv T nt (sp T nt a k) (f + 1)))), (0, .ref (ad 0)), (1, .int (nI n)), (2, .int (nI fl2)), (3, .int (nI k)), (5, .int (nI f))]) hx hb dX8_readNumbers_80 hl (by decide) rfl (fun ls hl => ?_)
                            refine lv_aload_n hx hb dX8_readNumbers_82 rfl (lv_at hl 1 rfl) ?_
                            refine lv_dup hx hb dX8_readNumbers_83 rfl ?_
                            refine k_get (C := RX8) (T := TX8) (N := 13) (v := .int (nI p2)) hx hb hts hown E I iX8 (0) (by decide) (r0 := υ 0) rfl km_0 rfl 6 (by decide) (List.mem_of_getElem? (i := 2) rfl) (congrArg (fun z => some (Value.int z)) u6) dX8_readNumbers_84 ?_
                            refine lv_iconst (v := nI 1) hx hb dX8_readNumbers_87 (by decide) ?_
                            refine lv_iadd hx hb dX8_readNumbers_88 ?_
                            rw [nI_add]
                            refine k_put (C := RX8) (T := TX8) (N := 13) (ty0 := tyX8) (ty := .int) (v := .int (nI (p2 + 1))) hx hb hts hown E I iX8 tyX8_ok nmX8 (0) (by decide) (r0 := υ 0) rfl km_0 rfl 6 (by decide) (List.mem_of_getElem? (i := 2) rfl) rfl rfl rfl rfl (Nat.le_of_ble_eq_true rfl) (upd (υ 0) 6 (nI (p2 + 1))) rfl (σ2 := va_up υ 0 (upd (υ 0) 6 (nI (p2 + 1)))) rfl dX8_readNumbers_89 (fun H locs I => ?_)
                            refine lv_iinc (v := nI (f + 1)) (lv' := [(5, .int (nI (f + 1))), (4, .int (nI (pv T nt (sp T nt a k) (f + 1)))), (0, .ref (ad 0)), (1, .int (nI n)), (2, .int (nI fl2)), (3, .int (nI k))]) hx hb dX8_readNumbers_92 hl (k := 5) rfl (show nI f + Int32.ofInt 1 = nI (f + 1) from nI_add f 1) (by decide) rfl (fun ls hl => ?_)
                            refine lv_goto (tgt := 45) hx hb dX8_readNumbers_95 (by decide) ?_
                            exact ih_45 (f + 1) fl2 (p2 + 1) _ (by omega) (by omega) (hf2) (by rw [va_up_self, pk_us]) (by omega) (qp_tr hFu (qp_at rfl)) (hb2) (fun _ => ⟨by omega, fun j hj => by by_cases e_ : j = f; (rw [e_, ← hpe]; exact g3); exact hfg j (by omega), hn0, hs44⟩) (fun j hj => by rw [va_up_ne _ _ (by decide)]; exact hn5 j hj) _ _ I _ (lv_sub hl [2, 3, 4, 5, 1, 0] rfl)
                        · refine lv_if_eq (tgt := 98) hx hb dX8_readNumbers_59 (by decide) (fun c_59 => ?_) (fun c_59 => ?_)
                          · refine lv_aload_n hx hb dX8_readNumbers_98 rfl (lv_at hl 0 rfl) ?_
                            refine k_get (C := RX8) (T := TX8) (N := 13) (v := .ref (ad 5)) hx hb hts hown E I iX8 (0) (by decide) (r0 := υ 0) rfl km_0 rfl 7 (by decide) (List.mem_of_getElem? (i := 3) rfl) rfl dX8_readNumbers_99 ?_
                            refine lv_iload_n hx hb dX8_readNumbers_102 rfl (lv_at hl 3 rfl) ?_
                            refine lv_iload hx hb dX8_readNumbers_103 (lv_at hl 4 rfl) ?_
                            refine k_iast hx hb E I (5) (by decide) (r0 := υ 5) rfl (fun _ => km_5) (vp_in_nI (by omega) (by decide)) (σ2 := va_up υ 5 (upd (υ 5) k (nI (pv T nt (sp T nt a k) f)))) (by rw [nI_clamp (by omega)]) dX8_readNumbers_105 (fun H locs I => ?_)
                            refine lv_iinc (v := nI (k + 1)) (lv' := [(3, .int (nI (k + 1))), (0, .ref (ad 0)), (1, .int (nI n)), (2, .int (nI fl2)), (4, .int (nI (pv T nt (sp T nt a k) f))), (5, .int (nI f))]) hx hb dX8_readNumbers_106 hl (k := 3) rfl (show nI k + Int32.ofInt 1 = nI (k + 1) from nI_add k 1) (by decide) rfl (fun ls hl => ?_)
                            refine lv_goto (tgt := 4) hx hb dX8_readNumbers_109 (by decide) ?_
                            exact ih_4 (k + 1) fl2 p2 _ (by omega) (by omega) (hf2) (by rw [va_up_ne _ _ (by decide)]; exact u6) (by omega) (qp_tr hFu (qp_5 rfl)) (hb2) (fun z => by obtain ⟨hpe, hfg, hn0, hs44⟩ := hg2 z; have hnf : nfc T nt (sp T nt a k) = f := nfc_eq hf3 hfg (fun y => by first | omega | (rw [← hpe]; exact Bool.eq_false_iff.mpr g3)); exact ⟨Or.inr ⟨by omega, by rw [sp, hnf, hpe]⟩, fun j hj => by by_cases e_ : j = k; (subst e_; exact ⟨hn0, by rw [va_up_self, pk_us]; unfold nvl; rw [hnf]⟩); (exact ⟨(hnn j (by omega)).1, by rw [va_up_self, pk_un e_]; exact hn5 j (by omega)⟩), hs44⟩) _ _ I _ (lv_sub hl [1, 2, 3, 0] rfl)
                          · exact absurd c_59 (by decide)
                exact LP_45 _ 0 _ _ _ (Nat.lt_succ_self _) (Nat.zero_le _) (by decide) (u6) (by omega) (hF) (by first | exact fun _ => hbad | exact fun z => absurd z (by decide)) (by first | exact fun z => absurd z (by decide) | exact fun _ => ⟨rfl, fun j hj => absurd hj (Nat.not_lt_zero j), hn0, hs44⟩) (fun j hj => by rw [hn5]; exact (hnn j hj).2) _ _ I _ (lv_sub hl [3, 4, 2, 5, 1, 0] rfl)
              · exact absurd c_30 (by decide)
          · have c_14 : ¬ (k = 0) := fun q_ => c_14 ((nI_eq (by omega) (by decide)).mpr q_)
            refine lv_aload_n hx hb dX8_readNumbers_17 rfl (lv_at hl 0 rfl) ?_
            refine lv_bipush (v := nI 44) hx hb dX8_readNumbers_18 (by decide) ?_
            refine k_calli (k := 0) (As := [.int (nI 44)]) (rest := []) ⟨hx, hb, hml, hown, hts⟩ (c_X8_isSign cy D ad l τ T nt hTt p0 44 (by omega) (by decide) (by decide) t6) (cwV 1 hts gX8_readNumbers_X8_isSign rfl rfl rfl (by decide +kernel) ⟨Nat.le_of_ble_eq_true rfl, Nat.le_of_ble_eq_true rfl⟩) E hA I (k_recv E I (by decide) km_0 rfl) rfl hl.1 rfl (lv_room (Nat.le_of_ble_eq_true rfl)) dX8_readNumbers_20 ⟨Nat.le_of_ble_eq_true rfl, Nat.le_of_ble_eq_true rfl⟩ (fun r_20 σ_20 H locs hp_20 I => ?_)
            have hp1 : p0 + 1 = sp T nt a k := by
              rcases hpp with q | q
              · exact absurd q.1 c_14
              · exact q.2
            have hpd := sp_pred c_14 hp1
            rcases hp_20 with ⟨rfl, g1, hs_⟩ | ⟨rfl, g1, hs_⟩
            · have hF := qp_tr hF (qp_at hs_)
              have u6 : σ_20 0 6 = nI (sp T nt a k) := by rw [hs_, va_up_self, pk_us, hp1]
              have hTx := mT_qp hT hF
              have hn5 : σ_20 5 = τ 5 := by rw [hs_, va_up_ne _ _ (by decide)]
              have hs44 : ∀ j, j + 1 < k + 1 → ch T nt (sp T nt a j + nfc T nt (sp T nt a j)) = 44 := fun j hj => by
                by_cases e_ : j = k - 1
                · rw [e_, ← hpd]; exact g1
                · exact hss j (by omega)
              refine lv_if_eq (tgt := 37) hx hb dX8_readNumbers_23 (by decide) (fun c_23 => ?_) (fun c_23 => ?_)
              · exact absurd c_23 (by decide)
              · refine lv_aload_n hx hb dX8_readNumbers_26 rfl (lv_at hl 0 rfl) ?_
                refine k_calli (k := 0) (As := []) (rest := []) ⟨hx, hb, hml, hown, hts⟩ (c_X8_isFigure cy D ad l σ_20 T nt hTx (sp T nt a k) (by omega) u6) (cwV 0 hts gX8_readNumbers_X8_isFigure rfl rfl rfl (by decide +kernel) ⟨Nat.le_of_ble_eq_true rfl, Nat.le_of_ble_eq_true rfl⟩) E hA I (k_recv E I (by decide) km_0 rfl) rfl hl.1 rfl (lv_room (Nat.le_of_ble_eq_true rfl)) dX8_readNumbers_27 ⟨Nat.le_of_ble_eq_true rfl, Nat.le_of_ble_eq_true rfl⟩ (fun r_27 σ_27 H locs hp_27 I => ?_)
                obtain ⟨hk_, rfl⟩ := hp_27
                rcases hk_ with ⟨rfl, g2⟩ | ⟨rfl, g2⟩
                · have hn0 := fg_pos g2
                  refine lv_if_eq (tgt := 37) hx hb dX8_readNumbers_30 (by decide) (fun c_30 => ?_) (fun c_30 => ?_)
                  · exact absurd c_30 (by decide)
                  · refine lv_iconst (v := nI 1) hx hb dX8_readNumbers_33 (by decide) ?_
                    refine lv_goto (tgt := 38) hx hb dX8_readNumbers_34 (by decide) ?_
                    refine lv_istore_n (lv' := [(2, .int (nI 1)), (0, .ref (ad 0)), (1, .int (nI n)), (3, .int (nI k))]) hx hb dX8_readNumbers_38 rfl hl (by decide) rfl (fun ls hl => ?_)
                    refine lv_iconst (v := nI 0) hx hb dX8_readNumbers_39 (by decide) ?_
                    refine lv_istore (lv' := [(4, .int (nI 0)), (2, .int (nI 1)), (0, .ref (ad 0)), (1, .int (nI n)), (3, .int (nI k))]) hx hb dX8_readNumbers_40 hl (by decide) rfl (fun ls hl => ?_)
                    refine lv_iconst (v := nI 0) hx hb dX8_readNumbers_42 (by decide) ?_
                    refine lv_istore (lv' := [(5, .int (nI 0)), (4, .int (nI 0)), (2, .int (nI 1)), (0, .ref (ad 0)), (1, .int (nI n)), (3, .int (nI k))]) hx hb dX8_readNumbers_43 hl (by decide) rfl (fun ls hl => ?_)
                    have LP_45 : ∀ (fuel_45 : Nat) (f : Nat) (fl2 : Nat) (p2 : Nat) (υ : Nat → Nat → Int32), 3 - f < fuel_45 → (f ≤ 3) → (fl2 ≤ 1) → (υ 0 6 = nI p2) → (p2 ≤ a + 4 * k + f) → (qp σ υ) → (fl2 = 0 → ¬ (∀ j, j < n → okR T nt a n j)) → (fl2 = 1 → p2 = sp T nt a k + f ∧ (∀ j, j < f → fg T nt (sp T nt a k + j) = true) ∧ 0 < nfc T nt (sp T nt a k) ∧ ∀ j, j + 1 < k + 1 → ch T nt (sp T nt a j + nfc T nt (sp T nt a j)) = 44) → (∀ j, j < k → υ 5 j = nI (nvl T nt (sp T nt a j))) → ∀ (H : Heap) (locs : List Loc), kI 6 ad (kcM cy ad) D (kA 6 ad s.heap.size) s.heap υ H locs → ∀ ls : Array Slot, lv_has ls 6 [(0, .ref (ad 0)), (1, .int (nI n)), (2, .int (nI fl2)), (3, .int (nI k)), (4, .int (nI (pv T nt (sp T nt a k) f))), (5, .int (nI f))] → W p l e (headSpec wsX8_readNumbers ({ frames := 2, cells := 0, slots := 0, locals := 42 })).room s m [.ref (ad 0), .int (nI n)].toArray below meth c H locs 0 0 (MQ below (va_Qi (fun r σ' => kT r (∀ j, j < n → okR T nt a n j) ∧ qp σ σ' ∧ ((∀ j, j < n → okR T nt a n j) → σ' 0 6 = nI (sp T nt a n) ∧ ∀ j, j < n → σ' 5 j = nI (nvl T nt (sp T nt a j)))) (kB 6 ad (kcM cy ad) D) (kA 6 ad s.heap.size)) [.ref (ad 0), .int (nI n)].toArray s 0 0 (kA 6 ad s.heap.size)) (F0 m 45 ls []) := by
                      intro fuel_45
                      induction fuel_45 with
                      | zero => intro f fl2 p2 υ hf_45; exact absurd hf_45 (Nat.not_lt_zero _)
                      | succ fuel_45 ih_45 =>
                        intro f fl2 p2 υ hf_45 hf3 hf2 u6 hp2 hFu hb2 hg2 hn5 H locs I ls hl
                        refine lv_iload hx hb dX8_readNumbers_45 (lv_at hl 5 rfl) ?_
                        refine lv_iconst (v := nI 3) hx hb dX8_readNumbers_47 (by decide) ?_
                        refine lv_icmp_ge (tgt := 98) hx hb dX8_readNumbers_48 (by decide) (fun c_48 => ?_) (fun c_48 => ?_)
                        · have c_48 : 3 ≤ f := (nI_leI (by omega) (by omega)).mp c_48
                          refine lv_aload_n hx hb dX8_readNumbers_98 rfl (lv_at hl 0 rfl) ?_
                          refine k_get (C := RX8) (T := TX8) (N := 13) (v := .ref (ad 5)) hx hb hts hown E I iX8 (0) (by decide) (r0 := υ 0) rfl km_0 rfl 7 (by decide) (List.mem_of_getElem? (i := 3) rfl) rfl dX8_readNumbers_99 ?_
                          refine lv_iload_n hx hb dX8_readNumbers_102 rfl (lv_at hl 3 rfl) ?_
                          refine lv_iload hx hb dX8_readNumbers_103 (lv_at hl 4 rfl) ?_
                          refine k_iast hx hb E I (5) (by decide) (r0 := υ 5) rfl (fun _ => km_5) (vp_in_nI (by omega) (by decide)) (σ2 := va_up υ 5 (upd (υ 5) k (nI (pv T nt (sp T nt a k) f)))) (by rw [nI_clamp (by omega)]) dX8_readNumbers_105 (fun H locs I => ?_)
                          refine lv_iinc (v := nI (k + 1)) (lv' := [(3, .int (nI (k + 1))), (0, .ref (ad 0)), (1, .int (nI n)), (2, .int (nI fl2)), (4, .int (nI (pv T nt (sp T nt a k) f))), (5, .int (nI f))]) hx hb dX8_readNumbers_106 hl (k := 3) rfl (show nI k + Int32.ofInt 1 = nI (k + 1) from nI_add k 1) (by decide) rfl (fun ls hl => ?_)
                          refine lv_goto (tgt := 4) hx hb dX8_readNumbers_109 (by decide) ?_
                          exact ih_4 (k + 1) fl2 p2 _ (by omega) (by omega) (hf2) (by rw [va_up_ne _ _ (by decide)]; exact u6) (by omega) (qp_tr hFu (qp_5 rfl)) (hb2) (fun z => by obtain ⟨hpe, hfg, hn0, hs44⟩ := hg2 z; have hnf : nfc T nt (sp T nt a k) = f := nfc_eq hf3 hfg (fun y => by first | omega | (rw [← hpe]; exact Bool.eq_false_iff.mpr g3)); exact ⟨Or.inr ⟨by omega, by rw [sp, hnf, hpe]⟩, fun j hj => by by_cases e_ : j = k; (subst e_; exact ⟨hn0, by rw [va_up_self, pk_us]; unfold nvl; rw [hnf]⟩); (exact ⟨(hnn j (by omega)).1, by rw [va_up_self, pk_un e_]; exact hn5 j (by omega)⟩), hs44⟩) _ _ I _ (lv_sub hl [1, 2, 3, 0] rfl)
                        · have c_48 : ¬ (3 ≤ f) := fun q_ => c_48 ((nI_leI (by omega) (by omega)).mpr q_)
                          refine lv_iload_n hx hb dX8_readNumbers_51 rfl (lv_at hl 2 rfl) ?_
                          refine lv_if_eq (tgt := 98) hx hb dX8_readNumbers_52 (by decide) (fun c_52 => ?_) (fun c_52 => ?_)
                          · have c_52 : fl2 = 0 := (nI_eq (by omega) (by decide)).mp c_52
                            refine lv_aload_n hx hb dX8_readNumbers_98 rfl (lv_at hl 0 rfl) ?_
                            refine k_get (C := RX8) (T := TX8) (N := 13) (v := .ref (ad 5)) hx hb hts hown E I iX8 (0) (by decide) (r0 := υ 0) rfl km_0 rfl 7 (by decide) (List.mem_of_getElem? (i := 3) rfl) rfl dX8_readNumbers_99 ?_
                            refine lv_iload_n hx hb dX8_readNumbers_102 rfl (lv_at hl 3 rfl) ?_
                            refine lv_iload hx hb dX8_readNumbers_103 (lv_at hl 4 rfl) ?_
                            refine k_iast hx hb E I (5) (by decide) (r0 := υ 5) rfl (fun _ => km_5) (vp_in_nI (by omega) (by decide)) (σ2 := va_up υ 5 (upd (υ 5) k (nI (pv T nt (sp T nt a k) f)))) (by rw [nI_clamp (by omega)]) dX8_readNumbers_105 (fun H locs I => ?_)
                            refine lv_iinc (v := nI (k + 1)) (lv' := [(3, .int (nI (k + 1))), (0, .ref (ad 0)), (1, .int (nI n)), (2, .int (nI fl2)), (4, .int (nI (pv T nt (sp T nt a k) f))), (5, .int (nI f))]) hx hb dX8_readNumbers_106 hl (k := 3) rfl (show nI k + Int32.ofInt 1 = nI (k + 1) from nI_add k 1) (by decide) rfl (fun ls hl => ?_)
                            refine lv_goto (tgt := 4) hx hb dX8_readNumbers_109 (by decide) ?_
                            exact ih_4 (k + 1) fl2 p2 _ (by omega) (by omega) (hf2) (by rw [va_up_ne _ _ (by decide)]; exact u6) (by omega) (qp_tr hFu (qp_5 rfl)) (hb2) (fun z => by obtain ⟨hpe, hfg, hn0, hs44⟩ := hg2 z; have hnf : nfc T nt (sp T nt a k) = f := nfc_eq hf3 hfg (fun y => by first | omega | (rw [← hpe]; exact Bool.eq_false_iff.mpr g3)); exact ⟨Or.inr ⟨by omega, by rw [sp, hnf, hpe]⟩, fun j hj => by by_cases e_ : j = k; (subst e_; exact ⟨hn0, by rw [va_up_self, pk_us]; unfold nvl; rw [hnf]⟩); (exact ⟨(hnn j (by omega)).1, by rw [va_up_self, pk_un e_]; exact hn5 j (by omega)⟩), hs44⟩) _ _ I _ (lv_sub hl [1, 2, 3, 0] rfl)
                          · have c_52 : ¬ (fl2 = 0) := fun q_ => c_52 ((nI_eq (by omega) (by decide)).mpr q_)
                            obtain ⟨hpe, hfg, hn0, hs44⟩ := hg2 (by omega)
                            refine lv_aload_n hx hb dX8_readNumbers_55 rfl (lv_at hl 0 rfl) ?_
                            refine k_calli (k := 0) (As := []) (rest := []) ⟨hx, hb, hml, hown, hts⟩ (c_X8_isFigure cy D ad l υ T nt (mT_qp hT hFu) p2 (by omega) u6) (cwV 0 hts gX8_readNumbers_X8_isFigure rfl rfl rfl (by decide +kernel) ⟨Nat.le_of_ble_eq_true rfl, Nat.le_of_ble_eq_true rfl⟩) E hA I (k_recv E I (by decide) km_0 rfl) rfl hl.1 rfl (lv_room (Nat.le_of_ble_eq_true rfl)) dX8_readNumbers_56 ⟨Nat.le_of_ble_eq_true rfl, Nat.le_of_ble_eq_true rfl⟩ (fun r_56 σ_56 H locs hp_56 I => ?_)
                            obtain ⟨hk_, rfl⟩ := hp_56
                            rcases hk_ with ⟨rfl, g3⟩ | ⟨rfl, g3⟩
                            · have hlt := fg_lt g3
                              have hn2 := hT.2.1
                              refine lv_if_eq (tgt := 98) hx hb dX8_readNumbers_59 (by decide) (fun c_59 => ?_) (fun c_59 => ?_)
                              · exact absurd c_59 (by decide)
                              · refine lv_bipush (v := nI 10) hx hb dX8_readNumbers_62 (by decide) ?_
                                refine lv_iload hx hb dX8_readNumbers_64 (lv_at hl 4 rfl) ?_
                                refine lv_imul hx hb dX8_readNumbers_66 ?_
                                rw [pk_mul]
                                refine lv_aload_n hx hb dX8_readNumbers_67 rfl (lv_at hl 0 rfl) ?_
                                refine k_get (C := RX8) (T := TX8) (N := 13) (v := .ref (ad 4)) hx hb hts hown E I iX8 (0) (by decide) (r0 := υ 0) rfl km_0 rfl 4 (by decide) (List.mem_of_getElem? (i := 1) rfl) rfl dX8_readNumbers_68 ?_
                                refine lv_aload_n hx hb dX8_readNumbers_71 rfl (lv_at hl 0 rfl) ?_
                                refine k_get (C := RX8) (T := TX8) (N := 13) (v := .int (nI p2)) hx hb hts hown E I iX8 (0) (by decide) (r0 := υ 0) rfl km_0 rfl 6 (by decide) (List.mem_of_getElem? (i := 2) rfl) (congrArg (fun z => some (Value.int z)) u6) dX8_readNumbers_72 ?_
                                refine k_iald hx hb E I (4) (by decide) (r0 := υ 4) rfl km_4 (vp_in_nI (by omega) (by decide)) dX8_readNumbers_75 ?_
                                rw [nI_clamp (by omega)]
                                rw [((mT_qp hT hFu).2.2 p2 hlt.1).1]
                                refine lv_iadd hx hb dX8_readNumbers_76 ?_
                                rw [nI_add]
                                refine lv_bipush (v := nI 48) hx hb dX8_readNumbers_77 (by decide) ?_
                                refine lv_isub hx hb dX8_readNumbers_79 ?_
                                refine lv_topi (fun t_80 et_80 => ?_)
                                have et_80 : t_80 = nI (pv T nt (sp T nt a k) (f + 1)) := et_80.trans ((pk_sub (by omega)).trans (congrArg nI (by rw [pv, ← hpe, hlt.2.1]; omega)))
                                subst et_80
                                refine lv_istore (lv' := [(4, .int (nI (pv T nt (sp T nt a k) (f + 1)))), (0, .ref (ad 0)), (1, .int (nI n)), (2, .int (nI fl2)), (3, .int (nI k)), (5, .int (nI f))]) hx hb dX8_readNumbers_80 hl (by decide) rfl (fun ls hl => ?_)
                                refine lv_aload_n hx hb dX8_readNumbers_82 rfl (lv_at hl 1 rfl) ?_
                                refine lv_dup hx hb dX8_readNumbers_83 rfl ?_
                                refine k_get (C := RX8) (T := TX8) (N := 13) (v := .int (nI p2)) hx hb hts hown E I iX8 (0) (by decide) (r0 := υ 0) rfl km_0 rfl 6 (by decide) (List.mem_of_getElem? (i := 2) rfl) (congrArg (fun z => some (Value.int z)) u6) dX8_readNumbers_84 ?_
                                refine lv_iconst (v := nI 1) hx hb dX8_readNumbers_87 (by decide) ?_
                                refine lv_iadd hx hb dX8_readNumbers_88 ?_
                                rw [nI_add]
                                refine k_put (C := RX8) (T := TX8) (N := 13) (ty0 := tyX8) (ty := .int) (v := .int (nI (p2 + 1))) hx hb hts hown E I iX8 tyX8_ok nmX8 (0) (by decide) (r0 := υ 0) rfl km_0 rfl 6 (by decide) (List.mem_of_getElem? (i := 2) rfl) rfl rfl rfl rfl (Nat.le_of_ble_eq_true rfl) (upd (υ 0) 6 (nI (p2 + 1))) rfl (σ2 := va_up υ 0 (upd (υ 0) 6 (nI (p2 + 1)))) rfl dX8_readNumbers_89 (fun H locs I => ?_)
                                refine lv_iinc (v := nI (f + 1)) (lv' := [(5, .int (nI (f + 1))), (4, .int (nI (pv T nt (sp T nt a k) (f + 1)))), (0, .ref (ad 0)), (1, .int (nI n)), (2, .int (nI fl2)), (3, .int (nI k))]) hx hb dX8_readNumbers_92 hl (k := 5) rfl (show nI f + Int32.ofInt 1 = nI (f + 1) from nI_add f 1) (by decide) rfl (fun ls hl => ?_)
                                refine lv_goto (tgt := 45) hx hb dX8_readNumbers_95 (by decide) ?_
                                exact ih_45 (f + 1) fl2 (p2 + 1) _ (by omega) (by omega) (hf2) (by rw [va_up_self, pk_us]) (by omega) (qp_tr hFu (qp_at rfl)) (hb2) (fun _ => ⟨by omega, fun j hj => by by_cases e_ : j = f; (rw [e_, ← hpe]; exact g3); exact hfg j (by omega), hn0, hs44⟩) (fun j hj => by rw [va_up_ne _ _ (by decide)]; exact hn5 j hj) _ _ I _ (lv_sub hl [2, 3, 4, 5, 1, 0] rfl)
                            · refine lv_if_eq (tgt := 98) hx hb dX8_readNumbers_59 (by decide) (fun c_59 => ?_) (fun c_59 => ?_)
                              · refine lv_aload_n hx hb dX8_readNumbers_98 rfl (lv_at hl 0 rfl) ?_
                                refine k_get (C := RX8) (T := TX8) (N := 13) (v := .ref (ad 5)) hx hb hts hown E I iX8 (0) (by decide) (r0 := υ 0) rfl km_0 rfl 7 (by decide) (List.mem_of_getElem? (i := 3) rfl) rfl dX8_readNumbers_99 ?_
                                refine lv_iload_n hx hb dX8_readNumbers_102 rfl (lv_at hl 3 rfl) ?_
                                refine lv_iload hx hb dX8_readNumbers_103 (lv_at hl 4 rfl) ?_
                                refine k_iast hx hb E I (5) (by decide) (r0 := υ 5) rfl (fun _ => km_5) (vp_in_nI (by omega) (by decide)) (σ2 := va_up υ 5 (upd (υ 5) k (nI (pv T nt (sp T nt a k) f)))) (by rw [nI_clamp (by omega)]) dX8_readNumbers_105 (fun H locs I => ?_)
                                refine lv_iinc (v := nI (k + 1)) (lv' := [(3, .int (nI (k + 1))), (0, .ref (ad 0)), (1, .int (nI n)), (2, .int (nI fl2)), (4, .int (nI (pv T nt (sp T nt a k) f))), (5, .int (nI f))]) hx hb dX8_readNumbers_106 hl (k := 3) rfl (show nI k + Int32.ofInt 1 = nI (k + 1) from nI_add k 1) (by decide) rfl (fun ls hl => ?_)
                                refine lv_goto (tgt := 4) hx hb dX8_readNumbers_109 (by decide) ?_
                                exact ih_4 (k + 1) fl2 p2 _ (by omega) (by omega) (hf2) (by rw [va_up_ne _ _ (by decide)]; exact u6) (by omega) (qp_tr hFu (qp_5 rfl)) (hb2) (fun z => by obtain ⟨hpe, hfg, hn0, hs44⟩ := hg2 z; have hnf : nfc T nt (sp T nt a k) = f := nfc_eq hf3 hfg (fun y => by first | omega | (rw [← hpe]; exact Bool.eq_false_iff.mpr g3)); exact ⟨Or.inr ⟨by omega, by rw [sp, hnf, hpe]⟩, fun j hj => by by_cases e_ : j = k; (subst e_; exact ⟨hn0, by rw [va_up_self, pk_us]; unfold nvl; rw [hnf]⟩); (exact ⟨(hnn j (by omega)).1, by rw [va_up_self, pk_un e_]; exact hn5 j (by omega)⟩), hs44⟩) _ _ I _ (lv_sub hl [1, 2, 3, 0] rfl)
                              · exact absurd c_59 (by decide)
                    exact LP_45 _ 0 _ _ _ (Nat.lt_succ_self _) (Nat.zero_le _) (by decide) (u6) (by omega) (hF) (by first | exact fun _ => hbad | exact fun z => absurd z (by decide)) (by first | exact fun z => absurd z (by decide) | exact fun _ => ⟨rfl, fun j hj => absurd hj (Nat.not_lt_zero j), hn0, hs44⟩) (fun j hj => by rw [hn5]; exact (hnn j hj).2) _ _ I _ (lv_sub hl [3, 4, 2, 5, 1, 0] rfl)
                · have hbad : ¬ (∀ j, j < n → okR T nt a n j) := fun q => by
                    have h2 := (q k (by omega)).1
                    rw [nfc_0 g2] at h2
                    omega
                  refine lv_if_eq (tgt := 37) hx hb dX8_readNumbers_30 (by decide) (fun c_30 => ?_) (fun c_30 => ?_)
                  · refine lv_iconst (v := nI 0) hx hb dX8_readNumbers_37 (by decide) ?_
                    refine lv_istore_n (lv' := [(2, .int (nI 0)), (0, .ref (ad 0)), (1, .int (nI n)), (3, .int (nI k))]) hx hb dX8_readNumbers_38 rfl hl (by decide) rfl (fun ls hl => ?_)
                    refine lv_iconst (v := nI 0) hx hb dX8_readNumbers_39 (by decide) ?_
                    refine lv_istore (lv' := [(4, .int (nI 0)), (2, .int (nI 0)), (0, .ref (ad 0)), (1, .int (nI n)), (3, .int (nI k))]) hx hb dX8_readNumbers_40 hl (by decide) rfl (fun ls hl => ?_)
                    refine lv_iconst (v := nI 0) hx hb dX8_readNumbers_42 (by decide) ?_
                    refine lv_istore (lv' := [(5, .int (nI 0)), (4, .int (nI 0)), (2, .int (nI 0)), (0, .ref (ad 0)), (1, .int (nI n)), (3, .int (nI k))]) hx hb dX8_readNumbers_43 hl (by decide) rfl (fun ls hl => ?_)
                    have LP_45 : ∀ (fuel_45 : Nat) (f : Nat) (fl2 : Nat) (p2 : Nat) (υ : Nat → Nat → Int32), 3 - f < fuel_45 → (f ≤ 3) → (fl2 ≤ 1) → (υ 0 6 = nI p2) → (p2 ≤ a + 4 * k + f) → (qp σ υ) → (fl2 = 0 → ¬ (∀ j, j < n → okR T nt a n j)) → (fl2 = 1 → p2 = sp T nt a k + f ∧ (∀ j, j < f → fg T nt (sp T nt a k + j) = true) ∧ 0 < nfc T nt (sp T nt a k) ∧ ∀ j, j + 1 < k + 1 → ch T nt (sp T nt a j + nfc T nt (sp T nt a j)) = 44) → (∀ j, j < k → υ 5 j = nI (nvl T nt (sp T nt a j))) → ∀ (H : Heap) (locs : List Loc), kI 6 ad (kcM cy ad) D (kA 6 ad s.heap.size) s.heap υ H locs → ∀ ls : Array Slot, lv_has ls 6 [(0, .ref (ad 0)), (1, .int (nI n)), (2, .int (nI fl2)), (3, .int (nI k)), (4, .int (nI (pv T nt (sp T nt a k) f))), (5, .int (nI f))] → W p l e (headSpec wsX8_readNumbers ({ frames := 2, cells := 0, slots := 0, locals := 42 })).room s m [.ref (ad 0), .int (nI n)].toArray below meth c H locs 0 0 (MQ below (va_Qi (fun r σ' => kT r (∀ j, j < n → okR T nt a n j) ∧ qp σ σ' ∧ ((∀ j, j < n → okR T nt a n j) → σ' 0 6 = nI (sp T nt a n) ∧ ∀ j, j < n → σ' 5 j = nI (nvl T nt (sp T nt a j)))) (kB 6 ad (kcM cy ad) D) (kA 6 ad s.heap.size)) [.ref (ad 0), .int (nI n)].toArray s 0 0 (kA 6 ad s.heap.size)) (F0 m 45 ls []) := by
                      intro fuel_45
                      induction fuel_45 with
                      | zero => intro f fl2 p2 υ hf_45; exact absurd hf_45 (Nat.not_lt_zero _)
                      | succ fuel_45 ih_45 =>
                        intro f fl2 p2 υ hf_45 hf3 hf2 u6 hp2 hFu hb2 hg2 hn5 H locs I ls hl
                        refine lv_iload hx hb dX8_readNumbers_45 (lv_at hl 5 rfl) ?_
                        refine lv_iconst (v := nI 3) hx hb dX8_readNumbers_47 (by decide) ?_
                        refine lv_icmp_ge (tgt := 98) hx hb dX8_readNumbers_48 (by decide) (fun c_48 => ?_) (fun c_48 => ?_)
                        · have c_48 : 3 ≤ f := (nI_leI (by omega) (by omega)).mp c_48
                          refine lv_aload_n hx hb dX8_readNumbers_98 rfl (lv_at hl 0 rfl) ?_
                          refine k_get (C := RX8) (T := TX8) (N := 13) (v := .ref (ad 5)) hx hb hts hown E I iX8 (0) (by decide) (r0 := υ 0) rfl km_0 rfl 7 (by decide) (List.mem_of_getElem? (i := 3) rfl) rfl dX8_readNumbers_99 ?_
                          refine lv_iload_n hx hb dX8_readNumbers_102 rfl (lv_at hl 3 rfl) ?_
                          refine lv_iload hx hb dX8_readNumbers_103 (lv_at hl 4 rfl) ?_
                          refine k_iast hx hb E I (5) (by decide) (r0 := υ 5) rfl (fun _ => km_5) (vp_in_nI (by omega) (by decide)) (σ2 := va_up υ 5 (upd (υ 5) k (nI (pv T nt (sp T nt a k) f)))) (by rw [nI_clamp (by omega)]) dX8_readNumbers_105 (fun H locs I => ?_)
                          refine lv_iinc (v := nI (k + 1)) (lv' := [(3, .int (nI (k + 1))), (0, .ref (ad 0)), (1, .int (nI n)), (2, .int (nI fl2)), (4, .int (nI (pv T nt (sp T nt a k) f))), (5, .int (nI f))]) hx hb dX8_readNumbers_106 hl (k := 3) rfl (show nI k + Int32.ofInt 1 = nI (k + 1) from nI_add k 1) (by decide) rfl (fun ls hl => ?_)
                          refine lv_goto (tgt := 4) hx hb dX8_readNumbers_109 (by decide) ?_
                          exact ih_4 (k + 1) fl2 p2 _ (by omega) (by omega) (hf2) (by rw [va_up_ne _ _ (by decide)]; exact u6) (by omega) (qp_tr hFu (qp_5 rfl)) (hb2) (fun z => by obtain ⟨hpe, hfg, hn0, hs44⟩ := hg2 z; have hnf : nfc T nt (sp T nt a k) = f := nfc_eq hf3 hfg (fun y => by first | omega | (rw [← hpe]; exact Bool.eq_false_iff.mpr g3)); exact ⟨Or.inr ⟨by omega, by rw [sp, hnf, hpe]⟩, fun j hj => by by_cases e_ : j = k; (subst e_; exact ⟨hn0, by rw [va_up_self, pk_us]; unfold nvl; rw [hnf]⟩); (exact ⟨(hnn j (by omega)).1, by rw [va_up_self, pk_un e_]; exact hn5 j (by omega)⟩), hs44⟩) _ _ I _ (lv_sub hl [1, 2, 3, 0] rfl)
                        · have c_48 : ¬ (3 ≤ f) := fun q_ => c_48 ((nI_leI (by omega) (by omega)).mpr q_)
                          refine lv_iload_n hx hb dX8_readNumbers_51 rfl (lv_at hl 2 rfl) ?_
                          refine lv_if_eq (tgt := 98) hx hb dX8_readNumbers_52 (by decide) (fun c_52 => ?_) (fun c_52 => ?_)
                          · have c_52 : fl2 = 0 := (nI_eq (by omega) (by decide)).mp c_52
                            refine lv_aload_n hx hb dX8_readNumbers_98 rfl (lv_at hl 0 rfl) ?_
                            refine k_get (C := RX8) (T := TX8) (N := 13) (v := .ref (ad 5)) hx hb hts hown E I iX8 (0) (by decide) (r0 := υ 0) rfl km_0 rfl 7 (by decide) (List.mem_of_getElem? (i := 3) rfl) rfl dX8_readNumbers_99 ?_
                            refine lv_iload_n hx hb dX8_readNumbers_102 rfl (lv_at hl 3 rfl) ?_
                            refine lv_iload hx hb dX8_readNumbers_103 (lv_at hl 4 rfl) ?_
                            refine k_iast hx hb E I (5) (by decide) (r0 := υ 5) rfl (fun _ => km_5) (vp_in_nI (by omega) (by decide)) (σ2 := va_up υ 5 (upd (υ 5) k (nI (pv T nt (sp T nt a k) f)))) (by rw [nI_clamp (by omega)]) dX8_readNumbers_105 (fun H locs I => ?_)
                            refine lv_iinc (v := nI (k + 1)) (lv' := [(3, .int (nI (k + 1))), (0, .ref (ad 0)), (1, .int (nI n)), (2, .int (nI fl2)), (4, .int (nI (pv T nt (sp T nt a k) f))), (5, .int (nI f))]) hx hb dX8_readNumbers_106 hl (k := 3) rfl (show nI k + Int32.ofInt 1 = nI (k + 1) from nI_add k 1) (by decide) rfl (fun ls hl => ?_)
                            refine lv_goto (tgt := 4) hx hb dX8_readNumbers_109 (by decide) ?_
                            exact ih_4 (k + 1) fl2 p2 _ (by omega) (by omega) (hf2) (by rw [va_up_ne _ _ (by decide)]; exact u6) (by omega) (qp_tr hFu (qp_5 rfl)) (hb2) (fun z => by obtain ⟨hpe, hfg, hn0, hs44⟩ := hg2 z; have hnf : nfc T nt (sp T nt a k) = f := nfc_eq hf3 hfg (fun y => by first | omega | (rw [← hpe]; exact Bool.eq_false_iff.mpr g3)); exact ⟨Or.inr ⟨by omega, by rw [sp, hnf, hpe]⟩, fun j hj => by by_cases e_ : j = k; (subst e_; exact ⟨hn0, by rw [va_up_self, pk_us]; unfold nvl; rw [hnf]⟩); (exact ⟨(hnn j (by omega)).1, by rw [va_up_self, pk_un e_]; exact hn5 j (by omega)⟩), hs44⟩) _ _ I _ (lv_sub hl [1, 2, 3, 0] rfl)
                          · have c_52 : ¬ (fl2 = 0) := fun q_ => c_52 ((nI_eq (by omega) (by decide)).mpr q_)
                            obtain ⟨hpe, hfg, hn0, hs44⟩ := hg2 (by omega)
                            refine lv_aload_n hx hb dX8_readNumbers_55 rfl (lv_at hl 0 rfl) ?_
                            refine k_calli (k := 0) (As := []) (rest := []) ⟨hx, hb, hml, hown, hts⟩ (c_X8_isFigure cy D ad l υ T nt (mT_qp hT hFu) p2 (by omega) u6) (cwV 0 hts gX8_readNumbers_X8_isFigure rfl rfl rfl (by decide +kernel) ⟨Nat.le_of_ble_eq_true rfl, Nat.le_of_ble_eq_true rfl⟩) E hA I (k_recv E I (by decide) km_0 rfl) rfl hl.1 rfl (lv_room (Nat.le_of_ble_eq_true rfl)) dX8_readNumbers_56 ⟨Nat.le_of_ble_eq_true rfl, Nat.le_of_ble_eq_true rfl⟩ (fun r_56 σ_56 H locs hp_56 I => ?_)
                            obtain ⟨hk_, rfl⟩ := hp_56
                            rcases hk_ with ⟨rfl, g3⟩ | ⟨rfl, g3⟩
                            · have hlt := fg_lt g3
                              have hn2 := hT.2.1
                              refine lv_if_eq (tgt := 98) hx hb dX8_readNumbers_59 (by decide) (fun c_59 => ?_) (fun c_59 => ?_)
                              · exact absurd c_59 (by decide)
                              · refine lv_bipush (v := nI 10) hx hb dX8_readNumbers_62 (by decide) ?_
                                refine lv_iload hx hb dX8_readNumbers_64 (lv_at hl 4 rfl) ?_
                                refine lv_imul hx hb dX8_readNumbers_66 ?_
                                rw [pk_mul]
                                refine lv_aload_n hx hb dX8_readNumbers_67 rfl (lv_at hl 0 rfl) ?_
                                refine k_get (C := RX8) (T := TX8) (N := 13) (v := .ref (ad 4)) hx hb hts hown E I iX8 (0) (by decide) (r0 := υ 0) rfl km_0 rfl 4 (by decide) (List.mem_of_getElem? (i := 1) rfl) rfl dX8_readNumbers_68 ?_
                                refine lv_aload_n hx hb dX8_readNumbers_71 rfl (lv_at hl 0 rfl) ?_
                                refine k_get (C := RX8) (T := TX8) (N := 13) (v := .int (nI p2)) hx hb hts hown E I iX8 (0) (by decide) (r0 := υ 0) rfl km_0 rfl 6 (by decide) (List.mem_of_getElem? (i := 2) rfl) (congrArg (fun z => some (Value.int z)) u6) dX8_readNumbers_72 ?_
                                refine k_iald hx hb E I (4) (by decide) (r0 := υ 4) rfl km_4 (vp_in_nI (by omega) (by decide)) dX8_readNumbers_75 ?_
                                rw [nI_clamp (by omega)]
                                rw [((mT_qp hT hFu).2.2 p2 hlt.1).1]
                                refine lv_iadd hx hb dX8_readNumbers_76 ?_
                                rw [nI_add]
                                refine lv_bipush (v := nI 48) hx hb dX8_readNumbers_77 (by decide) ?_
                                refine lv_isub hx hb dX8_readNumbers_79 ?_
                                refine lv_topi (fun t_80 et_80 => ?_)
                                have et_80 : t_80 = nI (pv T nt (sp T nt a k) (f + 1)) := et_80.trans ((pk_sub (by omega)).trans (congrArg nI (by rw [pv, ← hpe, hlt.2.1]; omega)))
                                subst et_80
                                refine lv_istore (lv' := [(4, .int (nI (pv T nt (sp T nt a k) (f + 1)))), (0, .ref (ad 0)), (1, .int (nI n)), (2, .int (nI fl2)), (3, .int (nI k)), (5, .int (nI f))]) hx hb dX8_readNumbers_80 hl (by decide) rfl (fun ls hl => ?_)
                                refine lv_aload_n hx hb dX8_readNumbers_82 rfl (lv_at hl 1 rfl) ?_
                                refine lv_dup hx hb dX8_readNumbers_83 rfl ?_
                                refine k_get (C := RX8) (T := TX8) (N := 13) (v := .int (nI p2)) hx hb hts hown E I iX8 (0) (by decide) (r0 := υ 0) rfl km_0 rfl 6 (by decide) (List.mem_of_getElem? (i := 2) rfl) (congrArg (fun z => some (Value.int z)) u6) dX8_readNumbers_84 ?_
                                refine lv_iconst (v := nI 1) hx hb dX8_readNumbers_87 (by decide) ?_
                                refine lv_iadd hx hb dX8_readNumbers_88 ?_
                                rw [nI_add]
                                refine k_put (C := RX8) (T := TX8) (N := 13) (ty0 := tyX8) (ty := .int) (v := .int (nI (p2 + 1))) hx hb hts hown E I iX8 tyX8_ok nmX8 (0) (by decide) (r0 := υ 0) rfl km_0 rfl 6 (by decide) (List.mem_of_getElem? (i := 2) rfl) rfl rfl rfl rfl (Nat.le_of_ble_eq_true rfl) (upd (υ 0) 6 (nI (p2 + 1))) rfl (σ2 := va_up υ 0 (upd (υ 0) 6 (nI (p2 + 1)))) rfl dX8_readNumbers_89 (fun H locs I => ?_)
                                refine lv_iinc (v := nI (f + 1)) (lv' := [(5, .int (nI (f + 1))), (4, .int (nI (pv T nt (sp T nt a k) (f + 1)))), (0, .ref (ad 0)), (1, .int (nI n)), (2, .int (nI fl2)), (3, .int (nI k))]) hx hb dX8_readNumbers_92 hl (k := 5) rfl (show nI f + Int32.ofInt 1 = nI (f + 1) from nI_add f 1) (by decide) rfl (fun ls hl => ?_)
                                refine lv_goto (tgt := 45) hx hb dX8_readNumbers_95 (by decide) ?_
                                exact ih_45 (f + 1) fl2 (p2 + 1) _ (by omega) (by omega) (hf2) (by rw [va_up_self, pk_us]) (by omega) (qp_tr hFu (qp_at rfl)) (hb2) (fun _ => ⟨by omega, fun j hj => by by_cases e_ : j = f; (rw [e_, ← hpe]; exact g3); exact hfg j (by omega), hn0, hs44⟩) (fun j hj => by rw [va_up_ne _ _ (by decide)]; exact hn5 j hj) _ _ I _ (lv_sub hl [2, 3, 4, 5, 1, 0] rfl)
                            · refine lv_if_eq (tgt := 98) hx hb dX8_readNumbers_59 (by decide) (fun c_59 => ?_) (fun c_59 => ?_)
                              · refine lv_aload_n hx hb dX8_readNumbers_98 rfl (lv_at hl 0 rfl) ?_
                                refine k_get (C := RX8) (T := TX8) (N := 13) (v := .ref (ad 5)) hx hb hts hown E I iX8 (0) (by decide) (r0 := υ 0) rfl km_0 rfl 7 (by decide) (List.mem_of_getElem? (i := 3) rfl) rfl dX8_readNumbers_99 ?_
                                refine lv_iload_n hx hb dX8_readNumbers_102 rfl (lv_at hl 3 rfl) ?_
                                refine lv_iload hx hb dX8_readNumbers_103 (lv_at hl 4 rfl) ?_
                                refine k_iast hx hb E I (5) (by decide) (r0 := υ 5) rfl (fun _ => km_5) (vp_in_nI (by omega) (by decide)) (σ2 := va_up υ 5 (upd (υ 5) k (nI (pv T nt (sp T nt a k) f)))) (by rw [nI_clamp (by omega)]) dX8_readNumbers_105 (fun H locs I => ?_)
                                refine lv_iinc (v := nI (k + 1)) (lv' := [(3, .int (nI (k + 1))), (0, .ref (ad 0)), (1, .int (nI n)), (2, .int (nI fl2)), (4, .int (nI (pv T nt (sp T nt a k) f))), (5, .int (nI f))]) hx hb dX8_readNumbers_106 hl (k := 3) rfl (show nI k + Int32.ofInt 1 = nI (k + 1) from nI_add k 1) (by decide) rfl (fun ls hl => ?_)
                                refine lv_goto (tgt := 4) hx hb dX8_readNumbers_109 (by decide) ?_
                                exact ih_4 (k + 1) fl2 p2 _ (by omega) (by omega) (hf2) (by rw [va_up_ne _ _ (by decide)]; exact u6) (by omega) (qp_tr hFu (qp_5 rfl)) (hb2) (fun z => by obtain ⟨hpe, hfg, hn0, hs44⟩ := hg2 z; have hnf : nfc T nt (sp T nt a k) = f := nfc_eq hf3 hfg (fun y => by first | omega | (rw [← hpe]; exact Bool.eq_false_iff.mpr g3)); exact ⟨Or.inr ⟨by omega, by rw [sp, hnf, hpe]⟩, fun j hj => by by_cases e_ : j = k; (subst e_; exact ⟨hn0, by rw [va_up_self, pk_us]; unfold nvl; rw [hnf]⟩); (exact ⟨(hnn j (by omega)).1, by rw [va_up_self, pk_un e_]; exact hn5 j (by omega)⟩), hs44⟩) _ _ I _ (lv_sub hl [1, 2, 3, 0] rfl)
                              · exact absurd c_59 (by decide)
                    exact LP_45 _ 0 _ _ _ (Nat.lt_succ_self _) (Nat.zero_le _) (by decide) (u6) (by omega) (hF) (by first | exact fun _ => hbad | exact fun z => absurd z (by decide)) (by first | exact fun z => absurd z (by decide) | exact fun _ => ⟨rfl, fun j hj => absurd hj (Nat.not_lt_zero j), hn0, hs44⟩) (fun j hj => by rw [hn5]; exact (hnn j hj).2) _ _ I _ (lv_sub hl [3, 4, 2, 5, 1, 0] rfl)
                  · exact absurd c_30 (by decide)
            · have hF := qp_tr hF (qp_at hs_)
              have u6 : σ_20 0 6 = nI (p0 + 0) := by rw [hs_, va_up_self, pk_us]
              have hn5 : σ_20 5 = τ 5 := by rw [hs_, va_up_ne _ _ (by decide)]
              have hbad : ¬ (∀ j, j < n → okR T nt a n j) := fun q => by
                have h2 := (q (k - 1) (by omega)).2
                rw [← hpd, if_neg (by omega)] at h2
                exact g1 h2
              refine lv_if_eq (tgt := 37) hx hb dX8_readNumbers_23 (by decide) (fun c_23 => ?_) (fun c_23 => ?_)
              · refine lv_iconst (v := nI 0) hx hb dX8_readNumbers_37 (by decide) ?_
                refine lv_istore_n (lv' := [(2, .int (nI 0)), (0, .ref (ad 0)), (1, .int (nI n)), (3, .int (nI k))]) hx hb dX8_readNumbers_38 rfl hl (by decide) rfl (fun ls hl => ?_)
                refine lv_iconst (v := nI 0) hx hb dX8_readNumbers_39 (by decide) ?_
                refine lv_istore (lv' := [(4, .int (nI 0)), (2, .int (nI 0)), (0, .ref (ad 0)), (1, .int (nI n)), (3, .int (nI k))]) hx hb dX8_readNumbers_40 hl (by decide) rfl (fun ls hl => ?_)
                refine lv_iconst (v := nI 0) hx hb dX8_readNumbers_42 (by decide) ?_
                refine lv_istore (lv' := [(5, .int (nI 0)), (4, .int (nI 0)), (2, .int (nI 0)), (0, .ref (ad 0)), (1, .int (nI n)), (3, .int (nI k))]) hx hb dX8_readNumbers_43 hl (by decide) rfl (fun ls hl => ?_)
                have LP_45 : ∀ (fuel_45 : Nat) (f : Nat) (fl2 : Nat) (p2 : Nat) (υ : Nat → Nat → Int32), 3 - f < fuel_45 → (f ≤ 3) → (fl2 ≤ 1) → (υ 0 6 = nI p2) → (p2 ≤ a + 4 * k + f) → (qp σ υ) → (fl2 = 0 → ¬ (∀ j, j < n → okR T nt a n j)) → (fl2 = 1 → p2 = sp T nt a k + f ∧ (∀ j, j < f → fg T nt (sp T nt a k + j) = true) ∧ 0 < nfc T nt (sp T nt a k) ∧ ∀ j, j + 1 < k + 1 → ch T nt (sp T nt a j + nfc T nt (sp T nt a j)) = 44) → (∀ j, j < k → υ 5 j = nI (nvl T nt (sp T nt a j))) → ∀ (H : Heap) (locs : List Loc), kI 6 ad (kcM cy ad) D (kA 6 ad s.heap.size) s.heap υ H locs → ∀ ls : Array Slot, lv_has ls 6 [(0, .ref (ad 0)), (1, .int (nI n)), (2, .int (nI fl2)), (3, .int (nI k)), (4, .int (nI (pv T nt (sp T nt a k) f))), (5, .int (nI f))] → W p l e (headSpec wsX8_readNumbers ({ frames := 2, cells := 0, slots := 0, locals := 42 })).room s m [.ref (ad 0), .int (nI n)].toArray below meth c H locs 0 0 (MQ below (va_Qi (fun r σ' => kT r (∀ j, j < n → okR T nt a n j) ∧ qp σ σ' ∧ ((∀ j, j < n → okR T nt a n j) → σ' 0 6 = nI (sp T nt a n) ∧ ∀ j, j < n → σ' 5 j = nI (nvl T nt (sp T nt a j)))) (kB 6 ad (kcM cy ad) D) (kA 6 ad s.heap.size)) [.ref (ad 0), .int (nI n)].toArray s 0 0 (kA 6 ad s.heap.size)) (F0 m 45 ls []) := by
                  intro fuel_45
                  induction fuel_45 with
                  | zero => intro f fl2 p2 υ hf_45; exact absurd hf_45 (Nat.not_lt_zero _)
                  | succ fuel_45 ih_45 =>
                    intro f fl2 p2 υ hf_45 hf3 hf2 u6 hp2 hFu hb2 hg2 hn5 H locs I ls hl
                    refine lv_iload hx hb dX8_readNumbers_45 (lv_at hl 5 rfl) ?_
                    refine lv_iconst (v := nI 3) hx hb dX8_readNumbers_47 (by decide) ?_
                    refine lv_icmp_ge (tgt := 98) hx hb dX8_readNumbers_48 (by decide) (fun c_48 => ?_) (fun c_48 => ?_)
                    · have c_48 : 3 ≤ f := (nI_leI (by omega) (by omega)).mp c_48
                      refine lv_aload_n hx hb dX8_readNumbers_98 rfl (lv_at hl 0 rfl) ?_
                      refine k_get (C := RX8) (T := TX8) (N := 13) (v := .ref (ad 5)) hx hb hts hown E I iX8 (0) (by decide) (r0 := υ 0) rfl km_0 rfl 7 (by decide) (List.mem_of_getElem? (i := 3) rfl) rfl dX8_readNumbers_99 ?_
                      refine lv_iload_n hx hb dX8_readNumbers_102 rfl (lv_at hl 3 rfl) ?_
                      refine lv_iload hx hb dX8_readNumbers_103 (lv_at hl 4 rfl) ?_
                      refine k_iast hx hb E I (5) (by decide) (r0 := υ 5) rfl (fun _ => km_5) (vp_in_nI (by omega) (by decide)) (σ2 := va_up υ 5 (upd (υ 5) k (nI (pv T nt (sp T nt a k) f)))) (by rw [nI_clamp (by omega)]) dX8_readNumbers_105 (fun H locs I => ?_)
                      refine lv_iinc (v := nI (k + 1)) (lv' := [(3, .int (nI (k + 1))), (0, .ref (ad 0)), (1, .int (nI n)), (2, .int (nI fl2)), (4, .int (nI (pv T nt (sp T nt a k) f))), (5, .int (nI f))]) hx hb dX8_readNumbers_106 hl (k := 3) rfl (show nI k + Int32.ofInt 1 = nI (k + 1) from nI_add k 1) (by decide) rfl (fun ls hl => ?_)
                      refine lv_goto (tgt := 4) hx hb dX8_readNumbers_109 (by decide) ?_
                      exact ih_4 (k + 1) fl2 p2 _ (by omega) (by omega) (hf2) (by rw [va_up_ne _ _ (by decide)]; exact u6) (by omega) (qp_tr hFu (qp_5 rfl)) (hb2) (fun z => by obtain ⟨hpe, hfg, hn0, hs44⟩ := hg2 z; have hnf : nfc T nt (sp T nt a k) = f := nfc_eq hf3 hfg (fun y => by first | omega | (rw [← hpe]; exact Bool.eq_false_iff.mpr g3)); exact ⟨Or.inr ⟨by omega, by rw [sp, hnf, hpe]⟩, fun j hj => by by_cases e_ : j = k; (subst e_; exact ⟨hn0, by rw [va_up_self, pk_us]; unfold nvl; rw [hnf]⟩); (exact ⟨(hnn j (by omega)).1, by rw [va_up_self, pk_un e_]; exact hn5 j (by omega)⟩), hs44⟩) _ _ I _ (lv_sub hl [1, 2, 3, 0] rfl)
                    · have c_48 : ¬ (3 ≤ f) := fun q_ => c_48 ((nI_leI (by omega) (by omega)).mpr q_)
                      refine lv_iload_n hx hb dX8_readNumbers_51 rfl (lv_at hl 2 rfl) ?_
                      refine lv_if_eq (tgt := 98) hx hb dX8_readNumbers_52 (by decide) (fun c_52 => ?_) (fun c_52 => ?_)
                      · have c_52 : fl2 = 0 := (nI_eq (by omega) (by decide)).mp c_52
                        refine lv_aload_n hx hb dX8_readNumbers_98 rfl (lv_at hl 0 rfl) ?_
                        refine k_get (C := RX8) (T := TX8) (N := 13) (v := .ref (ad 5)) hx hb hts hown E I iX8 (0) (by decide) (r0 := υ 0) rfl km_0 rfl 7 (by decide) (List.mem_of_getElem? (i := 3) rfl) rfl dX8_readNumbers_99 ?_
                        refine lv_iload_n hx hb dX8_readNumbers_102 rfl (lv_at hl 3 rfl) ?_
                        refine lv_iload hx hb dX8_readNumbers_103 (lv_at hl 4 rfl) ?_
                        refine k_iast hx hb E I (5) (by decide) (r0 := υ 5) rfl (fun _ => km_5) (vp_in_nI (by omega) (by decide)) (σ2 := va_up υ 5 (upd (υ 5) k (nI (pv T nt (sp T nt a k) f)))) (by rw [nI_clamp (by omega)]) dX8_readNumbers_105 (fun H locs I => ?_)
                        refine lv_iinc (v := nI (k + 1)) (lv' := [(3, .int (nI (k + 1))), (0, .ref (ad 0)), (1, .int (nI n)), (2, .int (nI fl2)), (4, .int (nI (pv T nt (sp T nt a k) f))), (5, .int (nI f))]) hx hb dX8_readNumbers_106 hl (k := 3) rfl (show nI k + Int32.ofInt 1 = nI (k + 1) from nI_add k 1) (by decide) rfl (fun ls hl => ?_)
                        refine lv_goto (tgt := 4) hx hb dX8_readNumbers_109 (by decide) ?_
                        exact ih_4 (k + 1) fl2 p2 _ (by omega) (by omega) (hf2) (by rw [va_up_ne _ _ (by decide)]; exact u6) (by omega) (qp_tr hFu (qp_5 rfl)) (hb2) (fun z => by obtain ⟨hpe, hfg, hn0, hs44⟩ := hg2 z; have hnf : nfc T nt (sp T nt a k) = f := nfc_eq hf3 hfg (fun y => by first | omega | (rw [← hpe]; exact Bool.eq_false_iff.mpr g3)); exact ⟨Or.inr ⟨by omega, by rw [sp, hnf, hpe]⟩, fun j hj => by by_cases e_ : j = k; (subst e_; exact ⟨hn0, by rw [va_up_self, pk_us]; unfold nvl; rw [hnf]⟩); (exact ⟨(hnn j (by omega)).1, by rw [va_up_self, pk_un e_]; exact hn5 j (by omega)⟩), hs44⟩) _ _ I _ (lv_sub hl [1, 2, 3, 0] rfl)
                      · have c_52 : ¬ (fl2 = 0) := fun q_ => c_52 ((nI_eq (by omega) (by decide)).mpr q_)
                        obtain ⟨hpe, hfg, hn0, hs44⟩ := hg2 (by omega)
                        refine lv_aload_n hx hb dX8_readNumbers_55 rfl (lv_at hl 0 rfl) ?_
                        refine k_calli (k := 0) (As := []) (rest := []) ⟨hx, hb, hml, hown, hts⟩ (c_X8_isFigure cy D ad l υ T nt (mT_qp hT hFu) p2 (by omega) u6) (cwV 0 hts gX8_readNumbers_X8_isFigure rfl rfl rfl (by decide +kernel) ⟨Nat.le_of_ble_eq_true rfl, Nat.le_of_ble_eq_true rfl⟩) E hA I (k_recv E I (by decide) km_0 rfl) rfl hl.1 rfl (lv_room (Nat.le_of_ble_eq_true rfl)) dX8_readNumbers_56 ⟨Nat.le_of_ble_eq_true rfl, Nat.le_of_ble_eq_true rfl⟩ (fun r_56 σ_56 H locs hp_56 I => ?_)
                        obtain ⟨hk_, rfl⟩ := hp_56
                        rcases hk_ with ⟨rfl, g3⟩ | ⟨rfl, g3⟩
                        · have hlt := fg_lt g3
                          have hn2 := hT.2.1
                          refine lv_if_eq (tgt := 98) hx hb dX8_readNumbers_59 (by decide) (fun c_59 => ?_) (fun c_59 => ?_)
                          · exact absurd c_59 (by decide)
                          · refine lv_bipush (v := nI 10) hx hb dX8_readNumbers_62 (by decide) ?_
                            refine lv_iload hx hb dX8_readNumbers_64 (lv_at hl 4 rfl) ?_
                            refine lv_imul hx hb dX8_readNumbers_66 ?_
                            rw [pk_mul]
                            refine lv_aload_n hx hb dX8_readNumbers_67 rfl (lv_at hl 0 rfl) ?_
                            refine k_get (C := RX8) (T := TX8) (N := 13) (v := .ref (ad 4)) hx hb hts hown E I iX8 (0) (by decide) (r0 := υ 0) rfl km_0 rfl 4 (by decide) (List.mem_of_getElem? (i := 1) rfl) rfl dX8_readNumbers_68 ?_
                            refine lv_aload_n hx hb dX8_readNumbers_71 rfl (lv_at hl 0 rfl) ?_
                            refine k_get (C := RX8) (T := TX8) (N := 13) (v := .int (nI p2)) hx hb hts hown E I iX8 (0) (by decide) (r0 := υ 0) rfl km_0 rfl 6 (by decide) (List.mem_of_getElem? (i := 2) rfl) (congrArg (fun z => some (Value.int z)) u6) dX8_readNumbers_72 ?_
                            refine k_iald hx hb E I (4) (by decide) (r0 := υ 4) rfl km_4 (vp_in_nI (by omega) (by decide)) dX8_readNumbers_75 ?_
                            rw [nI_clamp (by omega)]
                            rw [((mT_qp hT hFu).2.2 p2 hlt.1).1]
                            refine lv_iadd hx hb dX8_readNumbers_76 ?_
                            rw [nI_add]
                            refine lv_bipush (v := nI 48) hx hb dX8_readNumbers_77 (by decide) ?_
                            refine lv_isub hx hb dX8_readNumbers_79 ?_
                            refine lv_topi (fun t_80 et_80 => ?_)
                            have et_80 : t_80 = nI (pv T nt (sp T nt a k) (f + 1)) := et_80.trans ((pk_sub (by omega)).trans (congrArg nI (by rw [pv, ← hpe, hlt.2.1]; omega)))
                            subst et_80
                            refine lv_istore (lv' := [(4, .int (nI (pv T nt (sp T nt a k) (f + 1)))), (0, .ref (ad 0)), (1, .int (nI n)), (2, .int (nI fl2)), (3, .int (nI k)), (5, .int (nI f))]) hx hb dX8_readNumbers_80 hl (by decide) rfl (fun ls hl => ?_)
                            refine lv_aload_n hx hb dX8_readNumbers_82 rfl (lv_at hl 1 rfl) ?_
                            refine lv_dup hx hb dX8_readNumbers_83 rfl ?_
                            refine k_get (C := RX8) (T := TX8) (N := 13) (v := .int (nI p2)) hx hb hts hown E I iX8 (0) (by decide) (r0 := υ 0) rfl km_0 rfl 6 (by decide) (List.mem_of_getElem? (i := 2) rfl) (congrArg (fun z => some (Value.int z)) u6) dX8_readNumbers_84 ?_
                            refine lv_iconst (v := nI 1) hx hb dX8_readNumbers_87 (by decide) ?_
                            refine lv_iadd hx hb dX8_readNumbers_88 ?_
                            rw [nI_add]
                            refine k_put (C := RX8) (T := TX8) (N := 13) (ty0 := tyX8) (ty := .int) (v := .int (nI (p2 + 1))) hx hb hts hown E I iX8 tyX8_ok nmX8 (0) (by decide) (r0 := υ 0) rfl km_0 rfl 6 (by decide) (List.mem_of_getElem? (i := 2) rfl) rfl rfl rfl rfl (Nat.le_of_ble_eq_true rfl) (upd (υ 0) 6 (nI (p2 + 1))) rfl (σ2 := va_up υ 0 (upd (υ 0) 6 (nI (p2 + 1)))) rfl dX8_readNumbers_89 (fun H locs I => ?_)
                            refine lv_iinc (v := nI (f + 1)) (lv' := [(5, .int (nI (f + 1))), (4, .int (nI (pv T nt (sp T nt a k) (f + 1)))), (0, .ref (ad 0)), (1, .int (nI n)), (2, .int (nI fl2)), (3, .int (nI k))]) hx hb dX8_readNumbers_92 hl (k := 5) rfl (show nI f + Int32.ofInt 1 = nI (f + 1) from nI_add f 1) (by decide) rfl (fun ls hl => ?_)
                            refine lv_goto (tgt := 45) hx hb dX8_readNumbers_95 (by decide) ?_
                            exact ih_45 (f + 1) fl2 (p2 + 1) _ (by omega) (by omega) (hf2) (by rw [va_up_self, pk_us]) (by omega) (qp_tr hFu (qp_at rfl)) (hb2) (fun _ => ⟨by omega, fun j hj => by by_cases e_ : j = f; (rw [e_, ← hpe]; exact g3); exact hfg j (by omega), hn0, hs44⟩) (fun j hj => by rw [va_up_ne _ _ (by decide)]; exact hn5 j hj) _ _ I _ (lv_sub hl [2, 3, 4, 5, 1, 0] rfl)
                        · refine lv_if_eq (tgt := 98) hx hb dX8_readNumbers_59 (by decide) (fun c_59 => ?_) (fun c_59 => ?_)
                          · refine lv_aload_n hx hb dX8_readNumbers_98 rfl (lv_at hl 0 rfl) ?_
                            refine k_get (C := RX8) (T := TX8) (N := 13) (v := .ref (ad 5)) hx hb hts hown E I iX8 (0) (by decide) (r0 := υ 0) rfl km_0 rfl 7 (by decide) (List.mem_of_getElem? (i := 3) rfl) rfl dX8_readNumbers_99 ?_
                            refine lv_iload_n hx hb dX8_readNumbers_102 rfl (lv_at hl 3 rfl) ?_
                            refine lv_iload hx hb dX8_readNumbers_103 (lv_at hl 4 rfl) ?_
                            refine k_iast hx hb E I (5) (by decide) (r0 := υ 5) rfl (fun _ => km_5) (vp_in_nI (by omega) (by decide)) (σ2 := va_up υ 5 (upd (υ 5) k (nI (pv T nt (sp T nt a k) f)))) (by rw [nI_clamp (by omega)]) dX8_readNumbers_105 (fun H locs I => ?_)
                            refine lv_iinc (v := nI (k + 1)) (lv' := [(3, .int (nI (k + 1))), (0, .ref (ad 0)), (1, .int (nI n)), (2, .int (nI fl2)), (4, .int (nI (pv T nt (sp T nt a k) f))), (5, .int (nI f))]) hx hb dX8_readNumbers_106 hl (k := 3) rfl (show nI k + Int32.ofInt 1 = nI (k + 1) from nI_add k 1) (by decide) rfl (fun ls hl => ?_)
                            refine lv_goto (tgt := 4) hx hb dX8_readNumbers_109 (by decide) ?_
                            exact ih_4 (k + 1) fl2 p2 _ (by omega) (by omega) (hf2) (by rw [va_up_ne _ _ (by decide)]; exact u6) (by omega) (qp_tr hFu (qp_5 rfl)) (hb2) (fun z => by obtain ⟨hpe, hfg, hn0, hs44⟩ := hg2 z; have hnf : nfc T nt (sp T nt a k) = f := nfc_eq hf3 hfg (fun y => by first | omega | (rw [← hpe]; exact Bool.eq_false_iff.mpr g3)); exact ⟨Or.inr ⟨by omega, by rw [sp, hnf, hpe]⟩, fun j hj => by by_cases e_ : j = k; (subst e_; exact ⟨hn0, by rw [va_up_self, pk_us]; unfold nvl; rw [hnf]⟩); (exact ⟨(hnn j (by omega)).1, by rw [va_up_self, pk_un e_]; exact hn5 j (by omega)⟩), hs44⟩) _ _ I _ (lv_sub hl [1, 2, 3, 0] rfl)
                          · exact absurd c_59 (by decide)
                exact LP_45 _ 0 _ _ _ (Nat.lt_succ_self _) (Nat.zero_le _) (by decide) (u6) (by omega) (hF) (by first | exact fun _ => hbad | exact fun z => absurd z (by decide)) (by first | exact fun z => absurd z (by decide) | exact fun _ => ⟨rfl, fun j hj => absurd hj (Nat.not_lt_zero j), hn0, hs44⟩) (fun j hj => by rw [hn5]; exact (hnn j hj).2) _ _ I _ (lv_sub hl [3, 4, 2, 5, 1, 0] rfl)
              · exact absurd c_23 (by decide)
  exact LP_4 _ 0 1 a σ (Nat.lt_succ_self _) (Nat.zero_le _) (by decide) (e6) (by omega) (qp_rf σ) (fun z => absurd z (by decide)) (fun _ => ⟨Or.inl ⟨rfl, rfl⟩, fun j hj => absurd hj (Nat.not_lt_zero j), fun j hj => absurd hj (Nat.not_lt_zero _)⟩) _ _ I _ (lv_sub hl [2, 3, 1, 0] rfl)
set_option maxHeartbeats 4000000 in
set_option maxRecDepth 100000 in
theorem c_X8_column (cy : Nat → ClassId) (D : va_G) (ad : Nat → Nat) (l : Launch) (σ : Nat → Nat → Int32) (x m0 : Nat) (hm : m0 < 20) (em : σ 2 0 = nI m0) : kMv 6 ad (kcM cy ad) cy D l yX8_column wsX8_column ({ frames := 0, cells := 0, slots := 0, locals := 0 }) [.ref (ad 0), .int (nI x)] σ (fun σ' => σ' = va_up σ 2 (upd (upd (σ 2) (3 + m0) (nI x)) 0 (nI (m0 + 1)))) := by
  refine k_entry (cc := cX8_column) (maxL := 2) (ret := none) (by decide) rfl (Nat.le_of_ble_eq_true rfl) ?_
  intro p e s m below meth c hx hb hr hml hown hts hlk E I ls hl
  have hA : ∀ q, s.heap.size ≤ q → kA 6 ad s.heap.size q := fun q h => Or.inr h
  have hown : s.vm.findClass RX8 = some m.cls := hown
  have hl : lv_has ls 2 [(0, .ref (ad 0)), (1, .int (nI x))] := hl
  have iX8 : ∀ w ∈ u_ws RX8 TX8 13, w ∈ wsX8_column := fun w h => List.mem_cons_of_mem _ (List.mem_append_right _ h)
  refine lv_aload_n hx hb dX8_column_0 rfl (lv_at hl 0 rfl) ?_
  refine k_get (C := RX8) (T := TX8) (N := 13) (v := .ref (ad 2)) hx hb hts hown E I iX8 (0) (by decide) (r0 := σ 0) rfl km_0 rfl 1 (by decide) (List.mem_of_getElem? (i := 1) rfl) rfl dX8_column_1 ?_
  refine lv_iconst (v := nI 3) hx hb dX8_column_4 (by decide) ?_
  refine lv_aload_n hx hb dX8_column_5 rfl (lv_at hl 0 rfl) ?_
  refine k_get (C := RX8) (T := TX8) (N := 13) (v := .ref (ad 2)) hx hb hts hown E I iX8 (0) (by decide) (r0 := σ 0) rfl km_0 rfl 1 (by decide) (List.mem_of_getElem? (i := 1) rfl) rfl dX8_column_6 ?_
  refine lv_iconst (v := nI 0) hx hb dX8_column_9 (by decide) ?_
  refine k_iald hx hb E I (2) (by decide) (r0 := σ 2) rfl km_2 (vp_in_nI (by omega) (by decide)) dX8_column_10 ?_
  rw [nI_clamp (by omega)]
  rw [em]
  refine lv_iadd hx hb dX8_column_11 ?_
  rw [nI_add]
  refine lv_iload_n hx hb dX8_column_12 rfl (lv_at hl 1 rfl) ?_
  refine k_iast hx hb E I (2) (by decide) (r0 := σ 2) rfl (fun _ => km_2) (vp_in_nI (by omega) (by decide)) (σ2 := va_up σ 2 (upd (σ 2) (3 + m0) (nI x))) (by rw [nI_clamp (by omega)]) dX8_column_13 (fun H locs I => ?_)
  refine lv_aload_n hx hb dX8_column_14 rfl (lv_at hl 0 rfl) ?_
  refine k_get (C := RX8) (T := TX8) (N := 13) (v := .ref (ad 2)) hx hb hts hown E I iX8 (0) (by decide) (r0 := σ 0) rfl km_0 rfl 1 (by decide) (List.mem_of_getElem? (i := 1) rfl) rfl dX8_column_15 ?_
  refine lv_iconst (v := nI 0) hx hb dX8_column_18 (by decide) ?_
  refine lv_dup2_11 hx hb dX8_column_19 rfl rfl ?_
  refine k_iald hx hb E I (2) (by decide) (r0 := (upd (σ 2) (3 + m0) (nI x))) rfl km_2 (vp_in_nI (by omega) (by decide)) dX8_column_20 ?_
  rw [nI_clamp (by omega)]
  rw [show (upd (σ 2) (3 + m0) (nI x)) 0 = nI m0 from (pk_un (by omega)).trans em]
  refine lv_iconst (v := nI 1) hx hb dX8_column_21 (by decide) ?_
  refine lv_iadd hx hb dX8_column_22 ?_
  rw [nI_add]
  refine k_iast hx hb E I (2) (by decide) (r0 := (upd (σ 2) (3 + m0) (nI x))) rfl (fun _ => km_2) (vp_in_nI (by omega) (by decide)) (σ2 := va_up σ 2 (upd ((upd (σ 2) (3 + m0) (nI x))) 0 (nI (m0 + 1)))) (by rw [nI_clamp (by omega)]; exact (bx_uu _ _ _ _)) dX8_column_23 (fun H locs I => ?_)
  exact k_vret hx hb hr hlk I dX8_column_24 (rfl)
set_option maxHeartbeats 4000000 in
set_option maxRecDepth 100000 in
theorem c_X8_place (cy : Nat → ClassId) (D : va_G) (ad : Nat → Nat) (l : Launch) (σ : Nat → Nat → Int32) (x0 x1 x2 x3 m0 : Nat) (hm : m0 < 5) (em : σ 2 1 = nI m0) : kMv 6 ad (kcM cy ad) cy D l yX8_place wsX8_place ({ frames := 0, cells := 0, slots := 0, locals := 0 }) [.ref (ad 0), .int (nI x0), .int (nI x1), .int (nI x2), .int (nI x3)] σ (fun σ' => σ' = va_up σ 2 (upd (upd (upd (upd (σ 2) (23 + 13 * m0) (nI x0)) (23 + 13 * m0 + 1) (nI x1)) (23 + 13 * m0 + 2) (nI x2)) (23 + 13 * m0 + 3) (nI x3))) := by
  refine k_entry (cc := cX8_place) (maxL := 6) (ret := none) (by decide) rfl (Nat.le_of_ble_eq_true rfl) ?_
  intro p e s m below meth c hx hb hr hml hown hts hlk E I ls hl
  have hA : ∀ q, s.heap.size ≤ q → kA 6 ad s.heap.size q := fun q h => Or.inr h
  have hown : s.vm.findClass RX8 = some m.cls := hown
  have hl : lv_has ls 6 [(0, .ref (ad 0)), (1, .int (nI x0)), (2, .int (nI x1)), (3, .int (nI x2)), (4, .int (nI x3))] := hl
  have iX8 : ∀ w ∈ u_ws RX8 TX8 13, w ∈ wsX8_place := fun w h => List.mem_cons_of_mem _ (List.mem_append_right _ h)
  refine lv_bipush (v := nI 23) hx hb dX8_place_0 (by decide) ?_
  refine lv_bipush (v := nI 13) hx hb dX8_place_2 (by decide) ?_
  refine lv_aload_n hx hb dX8_place_4 rfl (lv_at hl 0 rfl) ?_
  refine k_get (C := RX8) (T := TX8) (N := 13) (v := .ref (ad 2)) hx hb hts hown E I iX8 (0) (by decide) (r0 := σ 0) rfl km_0 rfl 1 (by decide) (List.mem_of_getElem? (i := 1) rfl) rfl dX8_place_5 ?_
  refine lv_iconst (v := nI 1) hx hb dX8_place_8 (by decide) ?_
  refine k_iald hx hb E I (2) (by decide) (r0 := σ 2) rfl km_2 (vp_in_nI (by omega) (by decide)) dX8_place_9 ?_
  rw [nI_clamp (by omega)]
  rw [em]
  refine lv_imul hx hb dX8_place_10 ?_
  rw [pk_mul]
  refine lv_iadd hx hb dX8_place_11 ?_
  rw [nI_add]
  refine lv_istore (lv' := [(5, .int (nI (23 + (13 * m0)))), (0, .ref (ad 0)), (1, .int (nI x0)), (2, .int (nI x1)), (3, .int (nI x2)), (4, .int (nI x3))]) hx hb dX8_place_12 hl (by decide) rfl (fun ls hl => ?_)
  refine lv_aload_n hx hb dX8_place_14 rfl (lv_at hl 1 rfl) ?_
  refine k_get (C := RX8) (T := TX8) (N := 13) (v := .ref (ad 2)) hx hb hts hown E I iX8 (0) (by decide) (r0 := σ 0) rfl km_0 rfl 1 (by decide) (List.mem_of_getElem? (i := 1) rfl) rfl dX8_place_15 ?_
  refine lv_iload hx hb dX8_place_18 (lv_at hl 0 rfl) ?_
  refine lv_iconst (v := nI 0) hx hb dX8_place_20 (by decide) ?_
  refine lv_iadd hx hb dX8_place_21 ?_
  rw [nI_add]
  refine lv_iload_n hx hb dX8_place_22 rfl (lv_at hl 2 rfl) ?_
  refine k_iast hx hb E I (2) (by decide) (r0 := σ 2) rfl (fun _ => km_2) (vp_in_nI (by omega) (by decide)) (σ2 := va_up σ 2 (upd (σ 2) ((23 + (13 * m0)) + 0) (nI x0))) (by rw [nI_clamp (by omega)]) dX8_place_23 (fun H locs I => ?_)
  refine lv_aload_n hx hb dX8_place_24 rfl (lv_at hl 1 rfl) ?_
  refine k_get (C := RX8) (T := TX8) (N := 13) (v := .ref (ad 2)) hx hb hts hown E I iX8 (0) (by decide) (r0 := σ 0) rfl km_0 rfl 1 (by decide) (List.mem_of_getElem? (i := 1) rfl) rfl dX8_place_25 ?_
  refine lv_iload hx hb dX8_place_28 (lv_at hl 0 rfl) ?_
  refine lv_iconst (v := nI 1) hx hb dX8_place_30 (by decide) ?_
  refine lv_iadd hx hb dX8_place_31 ?_
  rw [nI_add]
  refine lv_iload_n hx hb dX8_place_32 rfl (lv_at hl 3 rfl) ?_
  refine k_iast hx hb E I (2) (by decide) (r0 := (upd (σ 2) ((23 + (13 * m0)) + 0) (nI x0))) rfl (fun _ => km_2) (vp_in_nI (by omega) (by decide)) (σ2 := va_up σ 2 (upd ((upd (σ 2) ((23 + (13 * m0)) + 0) (nI x0))) ((23 + (13 * m0)) + 1) (nI x1))) (by rw [nI_clamp (by omega)]; exact (bx_uu _ _ _ _)) dX8_place_33 (fun H locs I => ?_)
  refine lv_aload_n hx hb dX8_place_34 rfl (lv_at hl 1 rfl) ?_
  refine k_get (C := RX8) (T := TX8) (N := 13) (v := .ref (ad 2)) hx hb hts hown E I iX8 (0) (by decide) (r0 := σ 0) rfl km_0 rfl 1 (by decide) (List.mem_of_getElem? (i := 1) rfl) rfl dX8_place_35 ?_
  refine lv_iload hx hb dX8_place_38 (lv_at hl 0 rfl) ?_
  refine lv_iconst (v := nI 2) hx hb dX8_place_40 (by decide) ?_
  refine lv_iadd hx hb dX8_place_41 ?_
  rw [nI_add]
  refine lv_iload_n hx hb dX8_place_42 rfl (lv_at hl 4 rfl) ?_
  refine k_iast hx hb E I (2) (by decide) (r0 := (upd ((upd (σ 2) ((23 + (13 * m0)) + 0) (nI x0))) ((23 + (13 * m0)) + 1) (nI x1))) rfl (fun _ => km_2) (vp_in_nI (by omega) (by decide)) (σ2 := va_up σ 2 (upd ((upd ((upd (σ 2) ((23 + (13 * m0)) + 0) (nI x0))) ((23 + (13 * m0)) + 1) (nI x1))) ((23 + (13 * m0)) + 2) (nI x2))) (by rw [nI_clamp (by omega)]; exact (bx_uu _ _ _ _)) dX8_place_43 (fun H locs I => ?_)
  refine lv_aload_n hx hb dX8_place_44 rfl (lv_at hl 1 rfl) ?_
  refine k_get (C := RX8) (T := TX8) (N := 13) (v := .ref (ad 2)) hx hb hts hown E I iX8 (0) (by decide) (r0 := σ 0) rfl km_0 rfl 1 (by decide) (List.mem_of_getElem? (i := 1) rfl) rfl dX8_place_45 ?_
  refine lv_iload hx hb dX8_place_48 (lv_at hl 0 rfl) ?_
  refine lv_iconst (v := nI 3) hx hb dX8_place_50 (by decide) ?_
  refine lv_iadd hx hb dX8_place_51 ?_
  rw [nI_add]
  refine lv_iload hx hb dX8_place_52 (lv_at hl 5 rfl) ?_
  refine k_iast hx hb E I (2) (by decide) (r0 := (upd ((upd ((upd (σ 2) ((23 + (13 * m0)) + 0) (nI x0))) ((23 + (13 * m0)) + 1) (nI x1))) ((23 + (13 * m0)) + 2) (nI x2))) rfl (fun _ => km_2) (vp_in_nI (by omega) (by decide)) (σ2 := va_up σ 2 (upd ((upd ((upd ((upd (σ 2) ((23 + (13 * m0)) + 0) (nI x0))) ((23 + (13 * m0)) + 1) (nI x1))) ((23 + (13 * m0)) + 2) (nI x2))) ((23 + (13 * m0)) + 3) (nI x3))) (by rw [nI_clamp (by omega)]; exact (bx_uu _ _ _ _)) dX8_place_54 (fun H locs I => ?_)
  exact k_vret hx hb hr hlk I dX8_place_55 (rfl)
set_option maxHeartbeats 4000000 in
set_option maxRecDepth 100000 in
theorem c_X8_measure (cy : Nat → ClassId) (D : va_G) (ad : Nat → Nat) (l : Launch) (σ : Nat → Nat → Int32) (x4 x5 x6 m0 : Nat) (hm : m0 < 5) (em : σ 2 1 = nI m0) : kMv 6 ad (kcM cy ad) cy D l yX8_measure wsX8_measure ({ frames := 0, cells := 0, slots := 0, locals := 0 }) [.ref (ad 0), .int (nI x4), .int (nI x5), .int (nI x6)] σ (fun σ' => σ' = va_up σ 2 (upd (upd (upd (upd (σ 2) (23 + 13 * m0 + 4) (nI x4)) (23 + 13 * m0 + 5) (nI x5)) (23 + 13 * m0 + 6) (nI x6)) 1 (nI (m0 + 1)))) := by
  refine k_entry (cc := cX8_measure) (maxL := 5) (ret := none) (by decide) rfl (Nat.le_of_ble_eq_true rfl) ?_
  intro p e s m below meth c hx hb hr hml hown hts hlk E I ls hl
  have hA : ∀ q, s.heap.size ≤ q → kA 6 ad s.heap.size q := fun q h => Or.inr h
  have hown : s.vm.findClass RX8 = some m.cls := hown
  have hl : lv_has ls 5 [(0, .ref (ad 0)), (1, .int (nI x4)), (2, .int (nI x5)), (3, .int (nI x6))] := hl
  have iX8 : ∀ w ∈ u_ws RX8 TX8 13, w ∈ wsX8_measure := fun w h => List.mem_cons_of_mem _ (List.mem_append_right _ h)
  refine lv_bipush (v := nI 23) hx hb dX8_measure_0 (by decide) ?_
  refine lv_bipush (v := nI 13) hx hb dX8_measure_2 (by decide) ?_
  refine lv_aload_n hx hb dX8_measure_4 rfl (lv_at hl 0 rfl) ?_
  refine k_get (C := RX8) (T := TX8) (N := 13) (v := .ref (ad 2)) hx hb hts hown E I iX8 (0) (by decide) (r0 := σ 0) rfl km_0 rfl 1 (by decide) (List.mem_of_getElem? (i := 1) rfl) rfl dX8_measure_5 ?_
  refine lv_iconst (v := nI 1) hx hb dX8_measure_8 (by decide) ?_
  refine k_iald hx hb E I (2) (by decide) (r0 := σ 2) rfl km_2 (vp_in_nI (by omega) (by decide)) dX8_measure_9 ?_
  rw [nI_clamp (by omega)]
  rw [em]
  refine lv_imul hx hb dX8_measure_10 ?_
  rw [pk_mul]
  refine lv_iadd hx hb dX8_measure_11 ?_
  rw [nI_add]
  refine lv_istore (lv' := [(4, .int (nI (23 + (13 * m0)))), (0, .ref (ad 0)), (1, .int (nI x4)), (2, .int (nI x5)), (3, .int (nI x6))]) hx hb dX8_measure_12 hl (by decide) rfl (fun ls hl => ?_)
  refine lv_aload_n hx hb dX8_measure_14 rfl (lv_at hl 1 rfl) ?_
  refine k_get (C := RX8) (T := TX8) (N := 13) (v := .ref (ad 2)) hx hb hts hown E I iX8 (0) (by decide) (r0 := σ 0) rfl km_0 rfl 1 (by decide) (List.mem_of_getElem? (i := 1) rfl) rfl dX8_measure_15 ?_
  refine lv_iload hx hb dX8_measure_18 (lv_at hl 0 rfl) ?_
  refine lv_iconst (v := nI 4) hx hb dX8_measure_20 (by decide) ?_
  refine lv_iadd hx hb dX8_measure_21 ?_
  rw [nI_add]
  refine lv_iload_n hx hb dX8_measure_22 rfl (lv_at hl 2 rfl) ?_
  refine k_iast hx hb E I (2) (by decide) (r0 := σ 2) rfl (fun _ => km_2) (vp_in_nI (by omega) (by decide)) (σ2 := va_up σ 2 (upd (σ 2) ((23 + (13 * m0)) + 4) (nI x4))) (by rw [nI_clamp (by omega)]) dX8_measure_23 (fun H locs I => ?_)
  refine lv_aload_n hx hb dX8_measure_24 rfl (lv_at hl 1 rfl) ?_
  refine k_get (C := RX8) (T := TX8) (N := 13) (v := .ref (ad 2)) hx hb hts hown E I iX8 (0) (by decide) (r0 := σ 0) rfl km_0 rfl 1 (by decide) (List.mem_of_getElem? (i := 1) rfl) rfl dX8_measure_25 ?_
  refine lv_iload hx hb dX8_measure_28 (lv_at hl 0 rfl) ?_
  refine lv_iconst (v := nI 5) hx hb dX8_measure_30 (by decide) ?_
  refine lv_iadd hx hb dX8_measure_31 ?_
  rw [nI_add]
  refine lv_iload_n hx hb dX8_measure_32 rfl (lv_at hl 3 rfl) ?_
  refine k_iast hx hb E I (2) (by decide) (r0 := (upd (σ 2) ((23 + (13 * m0)) + 4) (nI x4))) rfl (fun _ => km_2) (vp_in_nI (by omega) (by decide)) (σ2 := va_up σ 2 (upd ((upd (σ 2) ((23 + (13 * m0)) + 4) (nI x4))) ((23 + (13 * m0)) + 5) (nI x5))) (by rw [nI_clamp (by omega)]; exact (bx_uu _ _ _ _)) dX8_measure_33 (fun H locs I => ?_)
  refine lv_aload_n hx hb dX8_measure_34 rfl (lv_at hl 1 rfl) ?_
  refine k_get (C := RX8) (T := TX8) (N := 13) (v := .ref (ad 2)) hx hb hts hown E I iX8 (0) (by decide) (r0 := σ 0) rfl km_0 rfl 1 (by decide) (List.mem_of_getElem? (i := 1) rfl) rfl dX8_measure_35 ?_
  refine lv_iload hx hb dX8_measure_38 (lv_at hl 0 rfl) ?_
  refine lv_bipush (v := nI 6) hx hb dX8_measure_40 (by decide) ?_
  refine lv_iadd hx hb dX8_measure_42 ?_
  rw [nI_add]
  refine lv_iload_n hx hb dX8_measure_43 rfl (lv_at hl 4 rfl) ?_
  refine k_iast hx hb E I (2) (by decide) (r0 := (upd ((upd (σ 2) ((23 + (13 * m0)) + 4) (nI x4))) ((23 + (13 * m0)) + 5) (nI x5))) rfl (fun _ => km_2) (vp_in_nI (by omega) (by decide)) (σ2 := va_up σ 2 (upd ((upd ((upd (σ 2) ((23 + (13 * m0)) + 4) (nI x4))) ((23 + (13 * m0)) + 5) (nI x5))) ((23 + (13 * m0)) + 6) (nI x6))) (by rw [nI_clamp (by omega)]; exact (bx_uu _ _ _ _)) dX8_measure_44 (fun H locs I => ?_)
  refine lv_aload_n hx hb dX8_measure_45 rfl (lv_at hl 1 rfl) ?_
  refine k_get (C := RX8) (T := TX8) (N := 13) (v := .ref (ad 2)) hx hb hts hown E I iX8 (0) (by decide) (r0 := σ 0) rfl km_0 rfl 1 (by decide) (List.mem_of_getElem? (i := 1) rfl) rfl dX8_measure_46 ?_
  refine lv_iconst (v := nI 1) hx hb dX8_measure_49 (by decide) ?_
  refine lv_dup2_11 hx hb dX8_measure_50 rfl rfl ?_
  refine k_iald hx hb E I (2) (by decide) (r0 := (upd ((upd ((upd (σ 2) ((23 + (13 * m0)) + 4) (nI x4))) ((23 + (13 * m0)) + 5) (nI x5))) ((23 + (13 * m0)) + 6) (nI x6))) rfl km_2 (vp_in_nI (by omega) (by decide)) dX8_measure_51 ?_
  rw [nI_clamp (by omega)]
  rw [show (upd ((upd ((upd (σ 2) ((23 + (13 * m0)) + 4) (nI x4))) ((23 + (13 * m0)) + 5) (nI x5))) ((23 + (13 * m0)) + 6) (nI x6)) 1 = nI m0 from by rw [pk_un (by omega), pk_un (by omega), pk_un (by omega)]; exact em]
  refine lv_iconst (v := nI 1) hx hb dX8_measure_52 (by decide) ?_
  refine lv_iadd hx hb dX8_measure_53 ?_
  rw [nI_add]
  refine k_iast hx hb E I (2) (by decide) (r0 := (upd ((upd ((upd (σ 2) ((23 + (13 * m0)) + 4) (nI x4))) ((23 + (13 * m0)) + 5) (nI x5))) ((23 + (13 * m0)) + 6) (nI x6))) rfl (fun _ => km_2) (vp_in_nI (by omega) (by decide)) (σ2 := va_up σ 2 (upd ((upd ((upd ((upd (σ 2) ((23 + (13 * m0)) + 4) (nI x4))) ((23 + (13 * m0)) + 5) (nI x5))) ((23 + (13 * m0)) + 6) (nI x6))) 1 (nI (m0 + 1)))) (by rw [nI_clamp (by omega)]; exact (bx_uu _ _ _ _)) dX8_measure_54 (fun H locs I => ?_)
  exact k_vret hx hb hr hlk I dX8_measure_55 (rfl)
set_option maxHeartbeats 4000000 in
set_option maxRecDepth 100000 in
theorem c_X8_readColumn (cy : Nat → ClassId) (D : va_G) (ad : Nat → Nat) (l : Launch) (σ : Nat → Nat → Int32) (T : Nat → Nat) (nt : Nat) (hT : mT σ T nt) (M : Nat → Nat) (hM : pOk M) (hD : mD σ M) (a : Nat) (ha : a ≤ 900) (e6 : σ 0 6 = nI a) : kMi 6 ad (kcM cy ad) cy D l yX8_readColumn wsX8_readColumn ({ frames := 3, cells := 0, slots := 0, locals := 67 }) [.ref (ad 0)] σ (fun r σ' => kT r (clOk T nt a M) ∧ qd σ σ' ∧ (clOk T nt a M → mD σ' (clM M (nvl T nt a)) ∧ σ' 0 6 = nI (a + nfc T nt a + 1))) := by
  have h5 := hM.1
  have hv9 := nvl_le T nt a
  refine k_entry (cc := cX8_readColumn) (maxL := 1) (ret := (some .boolean)) (by decide) rfl (Nat.le_of_ble_eq_true rfl) ?_
  intro p e s m below meth c hx hb hr hml hown hts hlk E I ls hl
  have hA : ∀ q, s.heap.size ≤ q → kA 6 ad s.heap.size q := fun q h => Or.inr h
  have hown : s.vm.findClass RX8 = some m.cls := hown
  have hl : lv_has ls 1 [(0, .ref (ad 0))] := hl
  have iX8 : ∀ w ∈ u_ws RX8 TX8 13, w ∈ wsX8_readColumn := fun w h => List.mem_cons_of_mem _ (List.mem_append_right _ h)
  refine lv_aload_n hx hb dX8_readColumn_0 rfl (lv_at hl 0 rfl) ?_
  refine lv_iconst (v := nI 1) hx hb dX8_readColumn_1 (by decide) ?_
  refine k_calli (k := 0) (As := [.int (nI 1)]) (rest := []) ⟨hx, hb, hml, hown, hts⟩ (c_X8_readNumbers cy D ad l σ T nt hT 1 (by decide) (by decide) a ha e6) (cwV 1 hts gX8_readColumn_X8_readNumbers rfl rfl rfl (by decide +kernel) ⟨Nat.le_of_ble_eq_true rfl, Nat.le_of_ble_eq_true rfl⟩) E hA I (k_recv E I (by decide) km_0 rfl) rfl hl.1 rfl (lv_room (Nat.le_of_ble_eq_true rfl)) dX8_readColumn_2 ⟨Nat.le_of_ble_eq_true rfl, Nat.le_of_ble_eq_true rfl⟩ (fun r_2 σ_2 H locs hp_2 I => ?_)
  obtain ⟨hk_, hq_, hy_⟩ := hp_2
  have hD2 := mD_qp hD hq_
  rcases hk_ with ⟨rfl, g1⟩ | ⟨rfl, g1⟩
  · obtain ⟨y6, y5⟩ := hy_ g1
    have y50 : σ_2 5 0 = nI (nvl T nt a) := y5 0 (by decide)
    have y61 : σ_2 0 6 = nI (a + nfc T nt a + 1) := y6
    have hok1 : 0 < nfc T nt a := (g1 0 (by decide)).1
    have hok2 : ch T nt (a + nfc T nt a) = 59 := (g1 0 (by decide)).2
    refine lv_if_eq (tgt := 34) hx hb dX8_readColumn_5 (by decide) (fun c_5 => ?_) (fun c_5 => ?_)
    · exact absurd c_5 (by decide)
    · refine lv_aload_n hx hb dX8_readColumn_8 rfl (lv_at hl 0 rfl) ?_
      refine k_get (C := RX8) (T := TX8) (N := 13) (v := .ref (ad 5)) hx hb hts hown E I iX8 (0) (by decide) (r0 := σ_2 0) rfl km_0 rfl 7 (by decide) (List.mem_of_getElem? (i := 1) rfl) rfl dX8_readColumn_9 ?_
      refine lv_iconst (v := nI 0) hx hb dX8_readColumn_12 (by decide) ?_
      refine k_iald hx hb E I (5) (by decide) (r0 := σ_2 5) rfl km_5 (vp_in_nI (by omega) (by decide)) dX8_readColumn_13 ?_
      rw [nI_clamp (by omega)]
      rw [y50]
      refine lv_iconst (v := nI 1) hx hb dX8_readColumn_14 (by decide) ?_
      refine lv_bipush (v := nI 20) hx hb dX8_readColumn_15 (by decide) ?_
      refine k_calls (As := [.int (nI (nvl T nt a)), .int (nI 1), .int (nI 20)]) (rest := []) ⟨hx, hb, hml, hown, hts⟩ (c_X8_in l ((nI (nvl T nt a))) (nI 1) (nI 20)) (va_cwS 3 hts gX8_readColumn_X8_in rfl rfl rfl (by decide +kernel) ⟨Nat.le_of_ble_eq_true rfl, Nat.le_of_ble_eq_true rfl⟩) rfl hl.1 rfl (lv_room (Nat.le_of_ble_eq_true rfl)) dX8_readColumn_17 ⟨Nat.le_of_ble_eq_true rfl, Nat.le_of_ble_eq_true rfl⟩ (fun r_17 hp_17 => ?_)
      rw [nI_toInt (show 1 < 2 ^ 31 by decide), nI_toInt (show nvl T nt a < 2 ^ 31 by omega), nI_toInt (show 20 < 2 ^ 31 by decide)] at hp_17
      rcases hp_17 with ⟨rfl, g2⟩ | ⟨rfl, g2⟩
      · refine lv_if_eq (tgt := 34) hx hb dX8_readColumn_20 (by decide) (fun c_20 => ?_) (fun c_20 => ?_)
        · exact absurd c_20 (by decide)
        · refine lv_aload_n hx hb dX8_readColumn_23 rfl (lv_at hl 0 rfl) ?_
          refine k_get (C := RX8) (T := TX8) (N := 13) (v := .ref (ad 2)) hx hb hts hown E I iX8 (0) (by decide) (r0 := σ_2 0) rfl km_0 rfl 1 (by decide) (List.mem_of_getElem? (i := 2) rfl) rfl dX8_readColumn_24 ?_
          refine lv_iconst (v := nI 0) hx hb dX8_readColumn_27 (by decide) ?_
          refine k_iald hx hb E I (2) (by decide) (r0 := σ_2 2) rfl km_2 (vp_in_nI (by omega) (by decide)) dX8_readColumn_28 ?_
          rw [nI_clamp (by omega)]
          rw [hD2 0 (by decide)]
          refine lv_bipush (v := nI 20) hx hb dX8_readColumn_29 (by decide) ?_
          refine lv_icmp_ne (tgt := 36) hx hb dX8_readColumn_31 (by decide) (fun c_31 => ?_) (fun c_31 => ?_)
          · have c_31 : ¬ (((M 0)) = 20) := fun q_ => c_31 ((nI_eq (by omega) (by omega)).mpr q_)
            refine lv_aload_n hx hb dX8_readColumn_36 rfl (lv_at hl 0 rfl) ?_
            refine lv_aload_n hx hb dX8_readColumn_37 rfl (lv_at hl 0 rfl) ?_
            refine k_get (C := RX8) (T := TX8) (N := 13) (v := .ref (ad 5)) hx hb hts hown E I iX8 (0) (by decide) (r0 := σ_2 0) rfl km_0 rfl 7 (by decide) (List.mem_of_getElem? (i := 1) rfl) rfl dX8_readColumn_38 ?_
            refine lv_iconst (v := nI 0) hx hb dX8_readColumn_41 (by decide) ?_
            refine k_iald hx hb E I (5) (by decide) (r0 := σ_2 5) rfl km_5 (vp_in_nI (by omega) (by decide)) dX8_readColumn_42 ?_
            rw [nI_clamp (by omega)]
            rw [y50]
            refine k_callv (k := 0) (As := [.int (nI (nvl T nt a))]) (rest := []) ⟨hx, hb, hml, hown, hts⟩ (c_X8_column cy D ad l σ_2 (nvl T nt a) (M 0) (by omega) (hD2 0 (by decide))) (cwV 1 hts gX8_readColumn_X8_column rfl rfl rfl (by decide +kernel) ⟨Nat.le_of_ble_eq_true rfl, Nat.le_of_ble_eq_true rfl⟩) E hA I (k_recv E I (by decide) km_0 rfl) rfl hl.1 rfl (lv_room (Nat.le_of_ble_eq_true rfl)) dX8_readColumn_43 ⟨Nat.le_of_ble_eq_true rfl, Nat.le_of_ble_eq_true rfl⟩ (fun σ_43 H locs hp_43 I => ?_)
            refine lv_iconst (v := nI 1) hx hb dX8_readColumn_46 (by decide) ?_
            exact k_zret hx hb hr (by decide) hlk I dX8_readColumn_47 (⟨kT_1 ⟨hok1, by omega, by omega, hok2, by omega⟩, qd_tr (qp_qd hq_) (qd_2 hp_43), fun _ => ⟨cm_yes hD2 hp_43, by rw [hp_43, va_up_ne _ _ (by decide)]; exact y61⟩⟩)
          · have c_31 : ((M 0)) = 20 := (nI_eq (by omega) (by omega)).mp c_31
            have hno : ¬ clOk T nt a M := fun q => by unfold clOk at q; omega
            refine lv_iconst (v := nI 0) hx hb dX8_readColumn_34 (by decide) ?_
            exact k_zret hx hb hr (by decide) hlk I dX8_readColumn_35 (⟨kT_0 hno, qp_qd hq_, fun q => absurd q hno⟩)
      · have hno : ¬ clOk T nt a M := fun q => by unfold clOk at q; omega
        refine lv_if_eq (tgt := 34) hx hb dX8_readColumn_20 (by decide) (fun c_20 => ?_) (fun c_20 => ?_)
        · refine lv_iconst (v := nI 0) hx hb dX8_readColumn_34 (by decide) ?_
          exact k_zret hx hb hr (by decide) hlk I dX8_readColumn_35 (⟨kT_0 hno, qp_qd hq_, fun q => absurd q hno⟩)
        · exact absurd c_20 (by decide)
  · have hno : ¬ clOk T nt a M := fun q => g1 (fun j hj => by have h0 : j = 0 := (by omega); subst h0; exact ⟨q.1, q.2.2.2.1⟩)
    refine lv_if_eq (tgt := 34) hx hb dX8_readColumn_5 (by decide) (fun c_5 => ?_) (fun c_5 => ?_)
    · refine lv_iconst (v := nI 0) hx hb dX8_readColumn_34 (by decide) ?_
      exact k_zret hx hb hr (by decide) hlk I dX8_readColumn_35 (⟨kT_0 hno, qp_qd hq_, fun q => absurd q hno⟩)
    · exact absurd c_5 (by decide)
set_option maxHeartbeats 4000000 in
set_option maxRecDepth 100000 in
theorem c_X8_readShip (cy : Nat → ClassId) (D : va_G) (ad : Nat → Nat) (l : Launch) (σ : Nat → Nat → Int32) (T : Nat → Nat) (nt : Nat) (hT : mT σ T nt) (M : Nat → Nat) (hM : pOk M) (hD : mD σ M) (a : Nat) (ha : a ≤ 900) (e6 : σ 0 6 = nI a) : kMi 6 ad (kcM cy ad) cy D l yX8_readShip wsX8_readShip ({ frames := 3, cells := 0, slots := 0, locals := 67 }) [.ref (ad 0)] σ (fun r σ' => kT r (shOk T nt a (M 0) = true ∧ M 1 < 5) ∧ qd σ σ' ∧ (shOk T nt a (M 0) = true ∧ M 1 < 5 → mD σ' (plc M (fun k => nvl T nt (sp T nt a k))) ∧ σ' 0 6 = nI (sp T nt a 7))) := by
  have h5 := hM.1
  have hv0 := nvl_le T nt (sp T nt a 0)
  have hv1 := nvl_le T nt (sp T nt a 1)
  have hv2 := nvl_le T nt (sp T nt a 2)
  have hv3 := nvl_le T nt (sp T nt a 3)
  have hv4 := nvl_le T nt (sp T nt a 4)
  have hv5 := nvl_le T nt (sp T nt a 5)
  have hv6 := nvl_le T nt (sp T nt a 6)
  refine k_entry (cc := cX8_readShip) (maxL := 2) (ret := (some .boolean)) (by decide) rfl (Nat.le_of_ble_eq_true rfl) ?_
  intro p e s m below meth c hx hb hr hml hown hts hlk E I ls hl
  have hA : ∀ q, s.heap.size ≤ q → kA 6 ad s.heap.size q := fun q h => Or.inr h
  have hown : s.vm.findClass RX8 = some m.cls := hown
  have hl : lv_has ls 2 [(0, .ref (ad 0))] := hl
  have iX8 : ∀ w ∈ u_ws RX8 TX8 13, w ∈ wsX8_readShip := fun w h => List.mem_cons_of_mem _ (List.mem_append_right _ h)
  refine lv_aload_n hx hb dX8_readShip_0 rfl (lv_at hl 0 rfl) ?_
  refine lv_bipush (v := nI 7) hx hb dX8_readShip_1 (by decide) ?_
  refine k_calli (k := 0) (As := [.int (nI 7)]) (rest := []) ⟨hx, hb, hml, hown, hts⟩ (c_X8_readNumbers cy D ad l σ T nt hT 7 (by decide) (by decide) a ha e6) (cwV 1 hts gX8_readShip_X8_readNumbers rfl rfl rfl (by decide +kernel) ⟨Nat.le_of_ble_eq_true rfl, Nat.le_of_ble_eq_true rfl⟩) E hA I (k_recv E I (by decide) km_0 rfl) rfl hl.1 rfl (lv_room (Nat.le_of_ble_eq_true rfl)) dX8_readShip_3 ⟨Nat.le_of_ble_eq_true rfl, Nat.le_of_ble_eq_true rfl⟩ (fun r_3 σ_3 H locs hp_3 I => ?_)
  obtain ⟨hk_, hq_, hy_⟩ := hp_3
  have hD2 := mD_qp hD hq_
  rcases hk_ with ⟨rfl, g1⟩ | ⟨rfl, g1⟩
  · obtain ⟨y6, y5⟩ := hy_ g1
    refine lv_if_eq (tgt := 19) hx hb dX8_readShip_6 (by decide) (fun c_6 => ?_) (fun c_6 => ?_)
    · exact absurd c_6 (by decide)
    · refine lv_aload_n hx hb dX8_readShip_9 rfl (lv_at hl 0 rfl) ?_
      refine k_get (C := RX8) (T := TX8) (N := 13) (v := .ref (ad 2)) hx hb hts hown E I iX8 (0) (by decide) (r0 := σ_3 0) rfl km_0 rfl 1 (by decide) (List.mem_of_getElem? (i := 1) rfl) rfl dX8_readShip_10 ?_
      refine lv_iconst (v := nI 1) hx hb dX8_readShip_13 (by decide) ?_
      refine k_iald hx hb E I (2) (by decide) (r0 := σ_3 2) rfl km_2 (vp_in_nI (by omega) (by decide)) dX8_readShip_14 ?_
      rw [nI_clamp (by omega)]
      rw [hD2 1 (by decide)]
      refine lv_iconst (v := nI 5) hx hb dX8_readShip_15 (by decide) ?_
      refine lv_icmp_ne (tgt := 21) hx hb dX8_readShip_16 (by decide) (fun c_16 => ?_) (fun c_16 => ?_)
      · have c_16 : ¬ (((M 1)) = 5) := fun q_ => c_16 ((nI_eq (by omega) (by omega)).mpr q_)
        refine lv_aload_n hx hb dX8_readShip_21 rfl (lv_at hl 0 rfl) ?_
        refine k_get (C := RX8) (T := TX8) (N := 13) (v := .ref (ad 5)) hx hb hts hown E I iX8 (0) (by decide) (r0 := σ_3 0) rfl km_0 rfl 7 (by decide) (List.mem_of_getElem? (i := 2) rfl) rfl dX8_readShip_22 ?_
        refine lv_iconst (v := nI 0) hx hb dX8_readShip_25 (by decide) ?_
        refine k_iald hx hb E I (5) (by decide) (r0 := σ_3 5) rfl km_5 (vp_in_nI (by omega) (by decide)) dX8_readShip_26 ?_
        rw [nI_clamp (by omega)]
        rw [y5 0 (by decide)]
        refine lv_aload_n hx hb dX8_readShip_27 rfl (lv_at hl 0 rfl) ?_
        refine k_get (C := RX8) (T := TX8) (N := 13) (v := .ref (ad 2)) hx hb hts hown E I iX8 (0) (by decide) (r0 := σ_3 0) rfl km_0 rfl 1 (by decide) (List.mem_of_getElem? (i := 1) rfl) rfl dX8_readShip_28 ?_
        refine lv_iconst (v := nI 0) hx hb dX8_readShip_31 (by decide) ?_
        refine k_iald hx hb E I (2) (by decide) (r0 := σ_3 2) rfl km_2 (vp_in_nI (by omega) (by decide)) dX8_readShip_32 ?_
        rw [nI_clamp (by omega)]
        rw [hD2 0 (by decide)]
        refine lv_icmp_ge (tgt := 80) hx hb dX8_readShip_33 (by decide) (fun c_33 => ?_) (fun c_33 => ?_)
        · have c_33 : ((M 0)) ≤ ((nvl T nt (sp T nt a 0))) := (nI_leI (by omega) (by omega)).mp c_33
          refine lv_iconst (v := nI 0) hx hb dX8_readShip_80 (by decide) ?_
          refine lv_istore_n (lv' := [(1, .int (nI 0)), (0, .ref (ad 0))]) hx hb dX8_readShip_81 rfl hl (by decide) rfl (fun ls hl => ?_)
          refine lv_iload_n hx hb dX8_readShip_82 rfl (lv_at hl 0 rfl) ?_
          refine lv_if_eq (tgt := 128) hx hb dX8_readShip_83 (by decide) (fun c_83 => ?_) (fun c_83 => ?_)
          · refine lv_iconst (v := nI 0) hx hb dX8_readShip_128 (by decide) ?_
            exact k_zret hx hb hr (by decide) hlk I dX8_readShip_129 (by have hno : ¬ (shOk T nt a (M 0) = true ∧ M 1 < 5) := (fun q => by have r := sh_rg q.1; unfold rgA at r; simp only at r; omega); exact ⟨kT_0 hno, qp_qd hq_, fun q => absurd q hno⟩)
          · exact absurd c_83 (by decide)
        · have c_33 : ¬ (((M 0)) ≤ ((nvl T nt (sp T nt a 0)))) := fun q_ => c_33 ((nI_leI (by omega) (by omega)).mpr q_)
          refine lv_aload_n hx hb dX8_readShip_36 rfl (lv_at hl 0 rfl) ?_
          refine k_get (C := RX8) (T := TX8) (N := 13) (v := .ref (ad 5)) hx hb hts hown E I iX8 (0) (by decide) (r0 := σ_3 0) rfl km_0 rfl 7 (by decide) (List.mem_of_getElem? (i := 2) rfl) rfl dX8_readShip_37 ?_
          refine lv_iconst (v := nI 1) hx hb dX8_readShip_40 (by decide) ?_
          refine k_iald hx hb E I (5) (by decide) (r0 := σ_3 5) rfl km_5 (vp_in_nI (by omega) (by decide)) dX8_readShip_41 ?_
          rw [nI_clamp (by omega)]
          rw [y5 1 (by decide)]
          refine lv_bipush (v := nI 20) hx hb dX8_readShip_42 (by decide) ?_
          refine lv_icmp_ge (tgt := 80) hx hb dX8_readShip_44 (by decide) (fun c_44 => ?_) (fun c_44 => ?_)
          · have c_44 : 20 ≤ ((nvl T nt (sp T nt a 1))) := (nI_leI (by omega) (by omega)).mp c_44
            refine lv_iconst (v := nI 0) hx hb dX8_readShip_80 (by decide) ?_
            refine lv_istore_n (lv' := [(1, .int (nI 0)), (0, .ref (ad 0))]) hx hb dX8_readShip_81 rfl hl (by decide) rfl (fun ls hl => ?_)
            refine lv_iload_n hx hb dX8_readShip_82 rfl (lv_at hl 0 rfl) ?_
            refine lv_if_eq (tgt := 128) hx hb dX8_readShip_83 (by decide) (fun c_83 => ?_) (fun c_83 => ?_)
            · refine lv_iconst (v := nI 0) hx hb dX8_readShip_128 (by decide) ?_
              exact k_zret hx hb hr (by decide) hlk I dX8_readShip_129 (by have hno : ¬ (shOk T nt a (M 0) = true ∧ M 1 < 5) := (fun q => by have r := sh_rg q.1; unfold rgA at r; simp only at r; omega); exact ⟨kT_0 hno, qp_qd hq_, fun q => absurd q hno⟩)
            · exact absurd c_83 (by decide)
          · have c_44 : ¬ (20 ≤ ((nvl T nt (sp T nt a 1)))) := fun q_ => c_44 ((nI_leI (by omega) (by omega)).mpr q_)
            refine lv_aload_n hx hb dX8_readShip_47 rfl (lv_at hl 0 rfl) ?_
            refine k_get (C := RX8) (T := TX8) (N := 13) (v := .ref (ad 5)) hx hb hts hown E I iX8 (0) (by decide) (r0 := σ_3 0) rfl km_0 rfl 7 (by decide) (List.mem_of_getElem? (i := 2) rfl) rfl dX8_readShip_48 ?_
            refine lv_iconst (v := nI 2) hx hb dX8_readShip_51 (by decide) ?_
            refine k_iald hx hb E I (5) (by decide) (r0 := σ_3 5) rfl km_5 (vp_in_nI (by omega) (by decide)) dX8_readShip_52 ?_
            rw [nI_clamp (by omega)]
            rw [y5 2 (by decide)]
            refine lv_iconst (v := nI 1) hx hb dX8_readShip_53 (by decide) ?_
            refine lv_bipush (v := nI 60) hx hb dX8_readShip_54 (by decide) ?_
            refine k_calls (As := [.int (nI (nvl T nt (sp T nt a 2))), .int (nI 1), .int (nI 60)]) (rest := []) ⟨hx, hb, hml, hown, hts⟩ (c_X8_in l ((nI (nvl T nt (sp T nt a 2)))) (nI 1) (nI 60)) (va_cwS 3 hts gX8_readShip_X8_in rfl rfl rfl (by decide +kernel) ⟨Nat.le_of_ble_eq_true rfl, Nat.le_of_ble_eq_true rfl⟩) rfl hl.1 rfl (lv_room (Nat.le_of_ble_eq_true rfl)) dX8_readShip_56 ⟨Nat.le_of_ble_eq_true rfl, Nat.le_of_ble_eq_true rfl⟩ (fun r_56 hp_56 => ?_)
            rw [nI_toInt (show 1 < 2 ^ 31 by decide), nI_toInt (show 60 < 2 ^ 31 by decide), nI_toInt (show nvl T nt (sp T nt a 2) < 2 ^ 31 by omega)] at hp_56
            rcases hp_56 with ⟨rfl, r2⟩ | ⟨rfl, r2⟩
            · refine lv_if_eq (tgt := 80) hx hb dX8_readShip_59 (by decide) (fun c_59 => ?_) (fun c_59 => ?_)
              · exact absurd c_59 (by decide)
              · refine lv_aload_n hx hb dX8_readShip_62 rfl (lv_at hl 0 rfl) ?_
                refine k_get (C := RX8) (T := TX8) (N := 13) (v := .ref (ad 5)) hx hb hts hown E I iX8 (0) (by decide) (r0 := σ_3 0) rfl km_0 rfl 7 (by decide) (List.mem_of_getElem? (i := 2) rfl) rfl dX8_readShip_63 ?_
                refine lv_iconst (v := nI 3) hx hb dX8_readShip_66 (by decide) ?_
                refine k_iald hx hb E I (5) (by decide) (r0 := σ_3 5) rfl km_5 (vp_in_nI (by omega) (by decide)) dX8_readShip_67 ?_
                rw [nI_clamp (by omega)]
                rw [y5 3 (by decide)]
                refine lv_iconst (v := nI 1) hx hb dX8_readShip_68 (by decide) ?_
                refine lv_iconst (v := nI 5) hx hb dX8_readShip_69 (by decide) ?_
                refine k_calls (As := [.int (nI (nvl T nt (sp T nt a 3))), .int (nI 1), .int (nI 5)]) (rest := []) ⟨hx, hb, hml, hown, hts⟩ (c_X8_in l ((nI (nvl T nt (sp T nt a 3)))) (nI 1) (nI 5)) (va_cwS 3 hts gX8_readShip_X8_in rfl rfl rfl (by decide +kernel) ⟨Nat.le_of_ble_eq_true rfl, Nat.le_of_ble_eq_true rfl⟩) rfl hl.1 rfl (lv_room (Nat.le_of_ble_eq_true rfl)) dX8_readShip_70 ⟨Nat.le_of_ble_eq_true rfl, Nat.le_of_ble_eq_true rfl⟩ (fun r_70 hp_70 => ?_)
                rw [nI_toInt (show 1 < 2 ^ 31 by decide), nI_toInt (show 5 < 2 ^ 31 by decide), nI_toInt (show nvl T nt (sp T nt a 3) < 2 ^ 31 by omega)] at hp_70
                rcases hp_70 with ⟨rfl, r3⟩ | ⟨rfl, r3⟩
                · refine lv_if_eq (tgt := 80) hx hb dX8_readShip_73 (by decide) (fun c_73 => ?_) (fun c_73 => ?_)
                  · exact absurd c_73 (by decide)
                  · refine lv_iconst (v := nI 1) hx hb dX8_readShip_76 (by decide) ?_
                    refine lv_goto (tgt := 81) hx hb dX8_readShip_77 (by decide) ?_
                    refine lv_istore_n (lv' := [(1, .int (nI 1)), (0, .ref (ad 0))]) hx hb dX8_readShip_81 rfl hl (by decide) rfl (fun ls hl => ?_)
                    refine lv_iload_n hx hb dX8_readShip_82 rfl (lv_at hl 0 rfl) ?_
                    refine lv_if_eq (tgt := 128) hx hb dX8_readShip_83 (by decide) (fun c_83 => ?_) (fun c_83 => ?_)
                    · exact absurd c_83 (by decide)
                    · refine lv_aload_n hx hb dX8_readShip_86 rfl (lv_at hl 1 rfl) ?_
                      refine k_get (C := RX8) (T := TX8) (N := 13) (v := .ref (ad 5)) hx hb hts hown E I iX8 (0) (by decide) (r0 := σ_3 0) rfl km_0 rfl 7 (by decide) (List.mem_of_getElem? (i := 2) rfl) rfl dX8_readShip_87 ?_
                      refine lv_iconst (v := nI 4) hx hb dX8_readShip_90 (by decide) ?_
                      refine k_iald hx hb E I (5) (by decide) (r0 := σ_3 5) rfl km_5 (vp_in_nI (by omega) (by decide)) dX8_readShip_91 ?_
                      rw [nI_clamp (by omega)]
                      rw [y5 4 (by decide)]
                      refine lv_iconst (v := nI 1) hx hb dX8_readShip_92 (by decide) ?_
                      refine lv_bipush (v := nI 9) hx hb dX8_readShip_93 (by decide) ?_
                      refine k_calls (As := [.int (nI (nvl T nt (sp T nt a 4))), .int (nI 1), .int (nI 9)]) (rest := []) ⟨hx, hb, hml, hown, hts⟩ (c_X8_in l ((nI (nvl T nt (sp T nt a 4)))) (nI 1) (nI 9)) (va_cwS 3 hts gX8_readShip_X8_in rfl rfl rfl (by decide +kernel) ⟨Nat.le_of_ble_eq_true rfl, Nat.le_of_ble_eq_true rfl⟩) rfl hl.1 rfl (lv_room (Nat.le_of_ble_eq_true rfl)) dX8_readShip_95 ⟨Nat.le_of_ble_eq_true rfl, Nat.le_of_ble_eq_true rfl⟩ (fun r_95 hp_95 => ?_)
                      rw [nI_toInt (show 1 < 2 ^ 31 by decide), nI_toInt (show 9 < 2 ^ 31 by decide), nI_toInt (show nvl T nt (sp T nt a 4) < 2 ^ 31 by omega)] at hp_95
                      rcases hp_95 with ⟨rfl, r4⟩ | ⟨rfl, r4⟩
                      · refine lv_if_eq (tgt := 128) hx hb dX8_readShip_98 (by decide) (fun c_98 => ?_) (fun c_98 => ?_)
                        · exact absurd c_98 (by decide)
                        · refine lv_aload_n hx hb dX8_readShip_101 rfl (lv_at hl 1 rfl) ?_
                          refine k_get (C := RX8) (T := TX8) (N := 13) (v := .ref (ad 5)) hx hb hts hown E I iX8 (0) (by decide) (r0 := σ_3 0) rfl km_0 rfl 7 (by decide) (List.mem_of_getElem? (i := 2) rfl) rfl dX8_readShip_102 ?_
                          refine lv_iconst (v := nI 5) hx hb dX8_readShip_105 (by decide) ?_
                          refine k_iald hx hb E I (5) (by decide) (r0 := σ_3 5) rfl km_5 (vp_in_nI (by omega) (by decide)) dX8_readShip_106 ?_
                          rw [nI_clamp (by omega)]
                          rw [y5 5 (by decide)]
                          refine lv_iconst (v := nI 1) hx hb dX8_readShip_107 (by decide) ?_
                          refine lv_bipush (v := nI 9) hx hb dX8_readShip_108 (by decide) ?_
                          refine k_calls (As := [.int (nI (nvl T nt (sp T nt a 5))), .int (nI 1), .int (nI 9)]) (rest := []) ⟨hx, hb, hml, hown, hts⟩ (c_X8_in l ((nI (nvl T nt (sp T nt a 5)))) (nI 1) (nI 9)) (va_cwS 3 hts gX8_readShip_X8_in rfl rfl rfl (by decide +kernel) ⟨Nat.le_of_ble_eq_true rfl, Nat.le_of_ble_eq_true rfl⟩) rfl hl.1 rfl (lv_room (Nat.le_of_ble_eq_true rfl)) dX8_readShip_110 ⟨Nat.le_of_ble_eq_true rfl, Nat.le_of_ble_eq_true rfl⟩ (fun r_110 hp_110 => ?_)
                          rw [nI_toInt (show 1 < 2 ^ 31 by decide), nI_toInt (show 9 < 2 ^ 31 by decide), nI_toInt (show nvl T nt (sp T nt a 5) < 2 ^ 31 by omega)] at hp_110
                          rcases hp_110 with ⟨rfl, r5⟩ | ⟨rfl, r5⟩
                          · refine lv_if_eq (tgt := 128) hx hb dX8_readShip_113 (by decide) (fun c_113 => ?_) (fun c_113 => ?_)
                            · exact absurd c_113 (by decide)
                            · refine lv_aload_n hx hb dX8_readShip_116 rfl (lv_at hl 1 rfl) ?_
                              refine k_get (C := RX8) (T := TX8) (N := 13) (v := .ref (ad 5)) hx hb hts hown E I iX8 (0) (by decide) (r0 := σ_3 0) rfl km_0 rfl 7 (by decide) (List.mem_of_getElem? (i := 2) rfl) rfl dX8_readShip_117 ?_
                              refine lv_bipush (v := nI 6) hx hb dX8_readShip_120 (by decide) ?_
                              refine k_iald hx hb E I (5) (by decide) (r0 := σ_3 5) rfl km_5 (vp_in_nI (by omega) (by decide)) dX8_readShip_122 ?_
                              rw [nI_clamp (by omega)]
                              rw [y5 6 (by decide)]
                              refine lv_bipush (v := nI 10) hx hb dX8_readShip_123 (by decide) ?_
                              refine lv_icmp_ge (tgt := 130) hx hb dX8_readShip_125 (by decide) (fun c_125 => ?_) (fun c_125 => ?_)
                              · have c_125 : 10 ≤ ((nvl T nt (sp T nt a 6))) := (nI_leI (by omega) (by omega)).mp c_125
                                refine lv_aload_n hx hb dX8_readShip_130 rfl (lv_at hl 1 rfl) ?_
                                refine lv_aload_n hx hb dX8_readShip_131 rfl (lv_at hl 1 rfl) ?_
                                refine k_get (C := RX8) (T := TX8) (N := 13) (v := .ref (ad 5)) hx hb hts hown E I iX8 (0) (by decide) (r0 := σ_3 0) rfl km_0 rfl 7 (by decide) (List.mem_of_getElem? (i := 2) rfl) rfl dX8_readShip_132 ?_
                                refine lv_iconst (v := nI 0) hx hb dX8_readShip_135 (by decide) ?_
                                refine k_iald hx hb E I (5) (by decide) (r0 := σ_3 5) rfl km_5 (vp_in_nI (by omega) (by decide)) dX8_readShip_136 ?_
                                rw [nI_clamp (by omega)]
                                rw [y5 0 (by decide)]
                                refine lv_aload_n hx hb dX8_readShip_137 rfl (lv_at hl 1 rfl) ?_
                                refine k_get (C := RX8) (T := TX8) (N := 13) (v := .ref (ad 5)) hx hb hts hown E I iX8 (0) (by decide) (r0 := σ_3 0) rfl km_0 rfl 7 (by decide) (List.mem_of_getElem? (i := 2) rfl) rfl dX8_readShip_138 ?_
                                refine lv_iconst (v := nI 1) hx hb dX8_readShip_141 (by decide) ?_
                                refine k_iald hx hb E I (5) (by decide) (r0 := σ_3 5) rfl km_5 (vp_in_nI (by omega) (by decide)) dX8_readShip_142 ?_
                                rw [nI_clamp (by omega)]
                                rw [y5 1 (by decide)]
                                refine lv_aload_n hx hb dX8_readShip_143 rfl (lv_at hl 1 rfl) ?_
                                refine k_get (C := RX8) (T := TX8) (N := 13) (v := .ref (ad 5)) hx hb hts hown E I iX8 (0) (by decide) (r0 := σ_3 0) rfl km_0 rfl 7 (by decide) (List.mem_of_getElem? (i := 2) rfl) rfl dX8_readShip_144 ?_
                                refine lv_iconst (v := nI 2) hx hb dX8_readShip_147 (by decide) ?_
                                refine k_iald hx hb E I (5) (by decide) (r0 := σ_3 5) rfl km_5 (vp_in_nI (by omega) (by decide)) dX8_readShip_148 ?_
                                rw [nI_clamp (by omega)]
                                rw [y5 2 (by decide)]
                                refine lv_aload_n hx hb dX8_readShip_149 rfl (lv_at hl 1 rfl) ?_
                                refine k_get (C := RX8) (T := TX8) (N := 13) (v := .ref (ad 5)) hx hb hts hown E I iX8 (0) (by decide) (r0 := σ_3 0) rfl km_0 rfl 7 (by decide) (List.mem_of_getElem? (i := 2) rfl) rfl dX8_readShip_150 ?_
                                refine lv_iconst (v := nI 3) hx hb dX8_readShip_153 (by decide) ?_
                                refine k_iald hx hb E I (5) (by decide) (r0 := σ_3 5) rfl km_5 (vp_in_nI (by omega) (by decide)) dX8_readShip_154 ?_
                                rw [nI_clamp (by omega)]
                                rw [y5 3 (by decide)]
                                refine k_callv (k := 0) (As := [.int (nI (nvl T nt (sp T nt a 0))), .int (nI (nvl T nt (sp T nt a 1))), .int (nI (nvl T nt (sp T nt a 2))), .int (nI (nvl T nt (sp T nt a 3)))]) (rest := []) ⟨hx, hb, hml, hown, hts⟩ (c_X8_place cy D ad l σ_3 (nvl T nt (sp T nt a 0)) (nvl T nt (sp T nt a 1)) (nvl T nt (sp T nt a 2)) (nvl T nt (sp T nt a 3)) (M 1) (by omega) (hD2 1 (by decide))) (cwV 4 hts gX8_readShip_X8_place rfl rfl rfl (by decide +kernel) ⟨Nat.le_of_ble_eq_true rfl, Nat.le_of_ble_eq_true rfl⟩) E hA I (k_recv E I (by decide) km_0 rfl) rfl hl.1 rfl (lv_room (Nat.le_of_ble_eq_true rfl)) dX8_readShip_155 ⟨Nat.le_of_ble_eq_true rfl, Nat.le_of_ble_eq_true rfl⟩ (fun σ_155 H locs hp_155 I => ?_)
                                have hs1 := hp_155
                                have hk1 : ∀ k, k ≠ 2 → σ_155 k = σ_3 k := fun k hk => by rw [hs1, va_up_ne _ _ hk]
                                have y5 : ∀ j, j < 7 → σ_155 5 j = nI (nvl T nt (sp T nt a j)) := fun j hj => by rw [hk1 5 (by decide)]; exact y5 j hj
                                have e1_ : σ_155 2 1 = nI (M 1) := by rw [hs1, va_up_self, pk_un (by omega), pk_un (by omega), pk_un (by omega), pk_un (by omega)]; exact hD2 1 (by decide)
                                refine lv_aload_n hx hb dX8_readShip_158 rfl (lv_at hl 1 rfl) ?_
                                refine lv_aload_n hx hb dX8_readShip_159 rfl (lv_at hl 1 rfl) ?_
                                refine k_get (C := RX8) (T := TX8) (N := 13) (v := .ref (ad 5)) hx hb hts hown E I iX8 (0) (by decide) (r0 := σ_155 0) rfl km_0 rfl 7 (by decide) (List.mem_of_getElem? (i := 2) rfl) rfl dX8_readShip_160 ?_
                                refine lv_iconst (v := nI 4) hx hb dX8_readShip_163 (by decide) ?_
                                refine k_iald hx hb E I (5) (by decide) (r0 := σ_155 5) rfl km_5 (vp_in_nI (by omega) (by decide)) dX8_readShip_164 ?_
                                rw [nI_clamp (by omega)]
                                rw [y5 4 (by decide)]
                                refine lv_aload_n hx hb dX8_readShip_165 rfl (lv_at hl 1 rfl) ?_
                                refine k_get (C := RX8) (T := TX8) (N := 13) (v := .ref (ad 5)) hx hb hts hown E I iX8 (0) (by decide) (r0 := σ_155 0) rfl km_0 rfl 7 (by decide) (List.mem_of_getElem? (i := 2) rfl) rfl dX8_readShip_166 ?_
                                refine lv_iconst (v := nI 5) hx hb dX8_readShip_169 (by decide) ?_
                                refine k_iald hx hb E I (5) (by decide) (r0 := σ_155 5) rfl km_5 (vp_in_nI (by omega) (by decide)) dX8_readShip_170 ?_
                                rw [nI_clamp (by omega)]
                                rw [y5 5 (by decide)]
                                refine lv_aload_n hx hb dX8_readShip_171 rfl (lv_at hl 1 rfl) ?_
                                refine k_get (C := RX8) (T := TX8) (N := 13) (v := .ref (ad 5)) hx hb hts hown E I iX8 (0) (by decide) (r0 := σ_155 0) rfl km_0 rfl 7 (by decide) (List.mem_of_getElem? (i := 2) rfl) rfl dX8_readShip_172 ?_
                                refine lv_bipush (v := nI 6) hx hb dX8_readShip_175 (by decide) ?_
                                refine k_iald hx hb E I (5) (by decide) (r0 := σ_155 5) rfl km_5 (vp_in_nI (by omega) (by decide)) dX8_readShip_177 ?_
                                rw [nI_clamp (by omega)]
                                rw [y5 6 (by decide)]
                                refine k_callv (k := 0) (As := [.int (nI (nvl T nt (sp T nt a 4))), .int (nI (nvl T nt (sp T nt a 5))), .int (nI (nvl T nt (sp T nt a 6)))]) (rest := []) ⟨hx, hb, hml, hown, hts⟩ (c_X8_measure cy D ad l σ_155 (nvl T nt (sp T nt a 4)) (nvl T nt (sp T nt a 5)) (nvl T nt (sp T nt a 6)) (M 1) (by omega) e1_) (cwV 3 hts gX8_readShip_X8_measure rfl rfl rfl (by decide +kernel) ⟨Nat.le_of_ble_eq_true rfl, Nat.le_of_ble_eq_true rfl⟩) E hA I (k_recv E I (by decide) km_0 rfl) rfl hl.1 rfl (lv_room (Nat.le_of_ble_eq_true rfl)) dX8_readShip_178 ⟨Nat.le_of_ble_eq_true rfl, Nat.le_of_ble_eq_true rfl⟩ (fun σ_178 H locs hp_178 I => ?_)
                                refine lv_iconst (v := nI 1) hx hb dX8_readShip_181 (by decide) ?_
                                exact k_zret hx hb hr (by decide) hlk I dX8_readShip_182 (⟨kT_1 ⟨sh_of g1 (by unfold rgA; simp only; omega), by omega⟩, qd_tr (qp_qd hq_) (qd_tr (qd_2 hs1) (qd_2 hp_178)), fun _ => ⟨pm_yes (v := fun k => nvl T nt (sp T nt a k)) hD2 hs1 hp_178, by rw [hp_178, va_up_ne _ _ (by decide), hk1 0 (by decide)]; exact y6⟩⟩)
                              · have c_125 : ¬ (10 ≤ ((nvl T nt (sp T nt a 6)))) := fun q_ => c_125 ((nI_leI (by omega) (by omega)).mpr q_)
                                refine lv_iconst (v := nI 0) hx hb dX8_readShip_128 (by decide) ?_
                                exact k_zret hx hb hr (by decide) hlk I dX8_readShip_129 (by have hno : ¬ (shOk T nt a (M 0) = true ∧ M 1 < 5) := (fun q => by have r := sh_rg q.1; unfold rgA at r; simp only at r; omega); exact ⟨kT_0 hno, qp_qd hq_, fun q => absurd q hno⟩)
                          · refine lv_if_eq (tgt := 128) hx hb dX8_readShip_113 (by decide) (fun c_113 => ?_) (fun c_113 => ?_)
                            · refine lv_iconst (v := nI 0) hx hb dX8_readShip_128 (by decide) ?_
                              exact k_zret hx hb hr (by decide) hlk I dX8_readShip_129 (by have hno : ¬ (shOk T nt a (M 0) = true ∧ M 1 < 5) := (fun q => by have r := sh_rg q.1; unfold rgA at r; simp only at r; omega); exact ⟨kT_0 hno, qp_qd hq_, fun q => absurd q hno⟩)
                            · exact absurd c_113 (by decide)
                      · refine lv_if_eq (tgt := 128) hx hb dX8_readShip_98 (by decide) (fun c_98 => ?_) (fun c_98 => ?_)
                        · refine lv_iconst (v := nI 0) hx hb dX8_readShip_128 (by decide) ?_
                          exact k_zret hx hb hr (by decide) hlk I dX8_readShip_129 (by have hno : ¬ (shOk T nt a (M 0) = true ∧ M 1 < 5) := (fun q => by have r := sh_rg q.1; unfold rgA at r; simp only at r; omega); exact ⟨kT_0 hno, qp_qd hq_, fun q => absurd q hno⟩)
                        · exact absurd c_98 (by decide)
                · refine lv_if_eq (tgt := 80) hx hb dX8_readShip_73 (by decide) (fun c_73 => ?_) (fun c_73 => ?_)
                  · refine lv_iconst (v := nI 0) hx hb dX8_readShip_80 (by decide) ?_
                    refine lv_istore_n (lv' := [(1, .int (nI 0)), (0, .ref (ad 0))]) hx hb dX8_readShip_81 rfl hl (by decide) rfl (fun ls hl => ?_)
                    refine lv_iload_n hx hb dX8_readShip_82 rfl (lv_at hl 0 rfl) ?_
                    refine lv_if_eq (tgt := 128) hx hb dX8_readShip_83 (by decide) (fun c_83 => ?_) (fun c_83 => ?_)
                    · refine lv_iconst (v := nI 0) hx hb dX8_readShip_128 (by decide) ?_
                      exact k_zret hx hb hr (by decide) hlk I dX8_readShip_129 (by have hno : ¬ (shOk T nt a (M 0) = true ∧ M 1 < 5) := (fun q => by have r := sh_rg q.1; unfold rgA at r; simp only at r; omega); exact ⟨kT_0 hno, qp_qd hq_, fun q => absurd q hno⟩)
                    · exact absurd c_83 (by decide)
                  · exact absurd c_73 (by decide)
            · refine lv_if_eq (tgt := 80) hx hb dX8_readShip_59 (by decide) (fun c_59 => ?_) (fun c_59 => ?_)
              · refine lv_iconst (v := nI 0) hx hb dX8_readShip_80 (by decide) ?_
                refine lv_istore_n (lv' := [(1, .int (nI 0)), (0, .ref (ad 0))]) hx hb dX8_readShip_81 rfl hl (by decide) rfl (fun ls hl => ?_)
                refine lv_iload_n hx hb dX8_readShip_82 rfl (lv_at hl 0 rfl) ?_
                refine lv_if_eq (tgt := 128) hx hb dX8_readShip_83 (by decide) (fun c_83 => ?_) (fun c_83 => ?_)
                · refine lv_iconst (v := nI 0) hx hb dX8_readShip_128 (by decide) ?_
                  exact k_zret hx hb hr (by decide) hlk I dX8_readShip_129 (by have hno : ¬ (shOk T nt a (M 0) = true ∧ M 1 < 5) := (fun q => by have r := sh_rg q.1; unfold rgA at r; simp only at r; omega); exact ⟨kT_0 hno, qp_qd hq_, fun q => absurd q hno⟩)
                · exact absurd c_83 (by decide)
              · exact absurd c_59 (by decide)
      · have c_16 : ((M 1)) = 5 := (nI_eq (by omega) (by omega)).mp c_16
        have hno : ¬ (shOk T nt a (M 0) = true ∧ M 1 < 5) := fun q => by omega
        refine lv_iconst (v := nI 0) hx hb dX8_readShip_19 (by decide) ?_
        exact k_zret hx hb hr (by decide) hlk I dX8_readShip_20 (⟨kT_0 hno, qp_qd hq_, fun q => absurd q hno⟩)
  · have hno : ¬ (shOk T nt a (M 0) = true ∧ M 1 < 5) := fun q => g1 (fun j hj => okN_R (shOk_iff.mp q.1 j hj).1)
    refine lv_if_eq (tgt := 19) hx hb dX8_readShip_6 (by decide) (fun c_6 => ?_) (fun c_6 => ?_)
    · refine lv_iconst (v := nI 0) hx hb dX8_readShip_19 (by decide) ?_
      exact k_zret hx hb hr (by decide) hlk I dX8_readShip_20 (⟨kT_0 hno, qp_qd hq_, fun q => absurd q hno⟩)
    · exact absurd c_6 (by decide)
set_option maxHeartbeats 4000000 in
set_option maxRecDepth 100000 in
theorem c_X8_parse (cy : Nat → ClassId) (D : va_G) (ad : Nat → Nat) (l : Launch) (σ : Nat → Nat → Int32) (T : Nat → Nat) (nt : Nat) (hT : mT σ T nt) : kMi 6 ad (kcM cy ad) cy D l yX8_parse wsX8_parse ({ frames := 4, cells := 0, slots := 0, locals := 88 }) [.ref (ad 0)] σ (fun r σ' => qd σ σ' ∧ ((∃ a, (pRead T nt 200 0 (fun _ => 0)).1 = some a ∧ r = nI a) ∨ ((pRead T nt 200 0 (fun _ => 0)).1 = none ∧ r = -4 ∧ mD σ' (pRead T nt 200 0 (fun _ => 0)).2))) := by
  have hn := hT.2.1
  refine k_entry (cc := cX8_parse) (maxL := 3) (ret := (some .int)) (by decide) rfl (Nat.le_of_ble_eq_true rfl) ?_
  intro p e s m below meth c hx hb hr hml hown hts hlk E I ls hl
  have hA : ∀ q, s.heap.size ≤ q → kA 6 ad s.heap.size q := fun q h => Or.inr h
  have hown : s.vm.findClass RX8 = some m.cls := hown
  have hl : lv_has ls 3 [(0, .ref (ad 0))] := hl
  have iX8 : ∀ w ∈ u_ws RX8 TX8 13, w ∈ wsX8_parse := fun w h => List.mem_cons_of_mem _ (List.mem_append_right _ h)
  refine lv_iconst (v := nI 0) hx hb dX8_parse_0 (by decide) ?_
  refine lv_istore_n (lv' := [(1, .int (nI 0)), (0, .ref (ad 0))]) hx hb dX8_parse_1 rfl hl (by decide) rfl (fun ls hl => ?_)
  have LP_2 : ∀ (fuel_2 : Nat) (k : Nat) (R : Nat → Int32), 88 - k < fuel_2 → (k ≤ 88) → (∀ j, j < k → R j = nI 0) → ∀ (H : Heap) (locs : List Loc), kI 6 ad (kcM cy ad) D (kA 6 ad s.heap.size) s.heap (va_up σ 2 (R)) H locs → ∀ ls : Array Slot, lv_has ls 3 [(0, .ref (ad 0)), (1, .int (nI k))] → W p l e (headSpec wsX8_parse ({ frames := 4, cells := 0, slots := 0, locals := 88 })).room s m [.ref (ad 0)].toArray below meth c H locs 0 0 (MQ below (va_Qi (fun r σ' => qd σ σ' ∧ ((∃ a, (pRead T nt 200 0 (fun _ => 0)).1 = some a ∧ r = nI a) ∨ ((pRead T nt 200 0 (fun _ => 0)).1 = none ∧ r = -4 ∧ mD σ' (pRead T nt 200 0 (fun _ => 0)).2))) (kB 6 ad (kcM cy ad) D) (kA 6 ad s.heap.size)) [.ref (ad 0)].toArray s 0 0 (kA 6 ad s.heap.size)) (F0 m 2 ls []) := by
    intro fuel_2
    induction fuel_2 with
    | zero => intro k R hf_2; exact absurd hf_2 (Nat.not_lt_zero _)
    | succ fuel_2 ih_2 =>
      intro k R hf_2 hk4 r1 H locs I ls hl
      refine lv_iload_n hx hb dX8_parse_2 rfl (lv_at hl 1 rfl) ?_
      refine lv_bipush (v := nI 88) hx hb dX8_parse_3 (by decide) ?_
      refine lv_icmp_ge (tgt := 21) hx hb dX8_parse_5 (by decide) (fun c_5 => ?_) (fun c_5 => ?_)
      · have c_5 : 88 ≤ k := (nI_leI (by omega) (by omega)).mp c_5
        refine lv_aload_n hx hb dX8_parse_21 rfl (lv_at hl 0 rfl) ?_
        refine lv_iconst (v := nI 0) hx hb dX8_parse_22 (by decide) ?_
        refine k_put (C := RX8) (T := TX8) (N := 13) (ty0 := tyX8) (ty := .int) (v := .int (nI 0)) hx hb hts hown E I iX8 tyX8_ok nmX8 (0) (by decide) (r0 := σ 0) rfl km_0 rfl 6 (by decide) (List.mem_of_getElem? (i := 2) rfl) rfl rfl rfl rfl (Nat.le_of_ble_eq_true rfl) (upd (σ 0) 6 (nI 0)) rfl (σ2 := va_up (va_up σ 2 (R)) 0 (upd (σ 0) 6 (nI 0))) rfl dX8_parse_23 (fun H locs I => ?_)
        have LP_26 : ∀ (fuel_26 : Nat) (i : Nat) (a : Nat) (M : Nat → Nat) (τ : Nat → Nat → Int32), 701 - a < fuel_26 → (pOk M) → (mD τ M) → (τ 0 6 = nI a) → (qd σ τ) → (pRead T nt 200 0 (fun _ => 0) = pRead T nt (200 - i) a M) → (i ≤ a) → (a ≤ 700) → ∀ (H : Heap) (locs : List Loc), kI 6 ad (kcM cy ad) D (kA 6 ad s.heap.size) s.heap τ H locs → ∀ ls : Array Slot, lv_has ls 3 [(0, .ref (ad 0))] → W p l e (headSpec wsX8_parse ({ frames := 4, cells := 0, slots := 0, locals := 88 })).room s m [.ref (ad 0)].toArray below meth c H locs 0 0 (MQ below (va_Qi (fun r σ' => qd σ σ' ∧ ((∃ a, (pRead T nt 200 0 (fun _ => 0)).1 = some a ∧ r = nI a) ∨ ((pRead T nt 200 0 (fun _ => 0)).1 = none ∧ r = -4 ∧ mD σ' (pRead T nt 200 0 (fun _ => 0)).2))) (kB 6 ad (kcM cy ad) D) (kA 6 ad s.heap.size)) [.ref (ad 0)].toArray s 0 0 (kA 6 ad s.heap.size)) (F0 m 26 ls []) := by
          intro fuel_26
          induction fuel_26 with
          | zero => intro i a M τ hf_26; exact absurd hf_26 (Nat.not_lt_zero _)
          | succ fuel_26 ih_26 =>
            intro i a M τ hf_26 hM hD t6 hF hR hai ha9 H locs I ls hl
            have hTt := mT_qd hT hF
            refine lv_aload_n hx hb dX8_parse_26 rfl (lv_at hl 0 rfl) ?_
            refine k_get (C := RX8) (T := TX8) (N := 13) (v := .int (nI a)) hx hb hts hown E I iX8 (0) (by decide) (r0 := τ 0) rfl km_0 rfl 6 (by decide) (List.mem_of_getElem? (i := 2) rfl) (congrArg (fun z => some (Value.int z)) t6) dX8_parse_27 ?_
            refine lv_aload_n hx hb dX8_parse_30 rfl (lv_at hl 0 rfl) ?_
            refine k_get (C := RX8) (T := TX8) (N := 13) (v := .int (nI nt)) hx hb hts hown E I iX8 (0) (by decide) (r0 := τ 0) rfl km_0 rfl 5 (by decide) (List.mem_of_getElem? (i := 3) rfl) (congrArg (fun z => some (Value.int z)) hTt.1) dX8_parse_31 ?_
            refine lv_icmp_ge (tgt := 103) hx hb dX8_parse_34 (by decide) (fun c_34 => ?_) (fun c_34 => ?_)
            · have c_34 : nt ≤ a := (nI_leI (by omega) (by omega)).mp c_34
              have hend : pRead T nt 200 0 (fun _ => 0) = (none, M) := by rw [hR]; cases h_ : 200 - i with | zero => rfl | succ z => rw [pRead, if_neg (by omega)]
              refine lv_bipush (v := (-4 : Int32)) hx hb dX8_parse_103 (by decide) ?_
              exact k_iret hx hb hr hlk I dX8_parse_105 (⟨hF, Or.inr ⟨by rw [hend], rfl, by rw [hend]; exact hD⟩⟩)
            · have c_34 : ¬ (nt ≤ a) := fun q_ => c_34 ((nI_leI (by omega) (by omega)).mpr q_)
              have hta := hTt.2.2 a (by omega)
              have hch : ch T nt a = T a := if_pos (by omega)
              have hq1 : qp τ (va_up τ 0 (upd (τ 0) 6 (nI (a + 1)))) := qp_at rfl
              have hT1 := mT_qp hTt hq1
              have hD1 := mD_qp hD hq1
              refine lv_aload_n hx hb dX8_parse_37 rfl (lv_at hl 0 rfl) ?_
              refine k_get (C := RX8) (T := TX8) (N := 13) (v := .int (nI a)) hx hb hts hown E I iX8 (0) (by decide) (r0 := τ 0) rfl km_0 rfl 6 (by decide) (List.mem_of_getElem? (i := 2) rfl) (congrArg (fun z => some (Value.int z)) t6) dX8_parse_38 ?_
              refine lv_istore_n (lv' := [(1, .int (nI a)), (0, .ref (ad 0))]) hx hb dX8_parse_41 rfl hl (by decide) rfl (fun ls hl => ?_)
              refine lv_aload_n hx hb dX8_parse_42 rfl (lv_at hl 1 rfl) ?_
              refine lv_dup hx hb dX8_parse_43 rfl ?_
              refine k_get (C := RX8) (T := TX8) (N := 13) (v := .int (nI a)) hx hb hts hown E I iX8 (0) (by decide) (r0 := τ 0) rfl km_0 rfl 6 (by decide) (List.mem_of_getElem? (i := 2) rfl) (congrArg (fun z => some (Value.int z)) t6) dX8_parse_44 ?_
              refine lv_iconst (v := nI 1) hx hb dX8_parse_47 (by decide) ?_
              refine lv_iadd hx hb dX8_parse_48 ?_
              rw [nI_add]
              refine k_put (C := RX8) (T := TX8) (N := 13) (ty0 := tyX8) (ty := .int) (v := .int (nI (a + 1))) hx hb hts hown E I iX8 tyX8_ok nmX8 (0) (by decide) (r0 := τ 0) rfl km_0 rfl 6 (by decide) (List.mem_of_getElem? (i := 2) rfl) rfl rfl rfl rfl (Nat.le_of_ble_eq_true rfl) (upd (τ 0) 6 (nI (a + 1))) rfl (σ2 := va_up τ 0 (upd (τ 0) 6 (nI (a + 1)))) rfl dX8_parse_49 (fun H locs I => ?_)
              refine lv_aload_n hx hb dX8_parse_52 rfl (lv_at hl 1 rfl) ?_
              refine k_get (C := RX8) (T := TX8) (N := 13) (v := .ref (ad 4)) hx hb hts hown E I iX8 (0) (by decide) (r0 := (upd (τ 0) 6 (nI (a + 1)))) rfl km_0 rfl 4 (by decide) (List.mem_of_getElem? (i := 4) rfl) rfl dX8_parse_53 ?_
              refine lv_iload_n hx hb dX8_parse_56 rfl (lv_at hl 0 rfl) ?_
              refine k_iald hx hb E I (4) (by decide) (r0 := τ 4) rfl km_4 (vp_in_nI (by omega) (by decide)) dX8_parse_57 ?_
              rw [nI_clamp (by omega)]
              rw [hta.1]
              refine lv_bipush (v := nI 99) hx hb dX8_parse_58 (by decide) ?_
              refine lv_icmp_ne (tgt := 70) hx hb dX8_parse_60 (by decide) (fun c_60 => ?_) (fun c_60 => ?_)
              · have c_60 : ¬ (((T a)) = 99) := fun q_ => c_60 ((nI_eq (by omega) (by omega)).mpr q_)
                have h99 : ¬ ch T nt a = 99 := by omega
                refine lv_aload_n hx hb dX8_parse_70 rfl (lv_at hl 1 rfl) ?_
                refine k_get (C := RX8) (T := TX8) (N := 13) (v := .ref (ad 4)) hx hb hts hown E I iX8 (0) (by decide) (r0 := (upd (τ 0) 6 (nI (a + 1)))) rfl km_0 rfl 4 (by decide) (List.mem_of_getElem? (i := 4) rfl) rfl dX8_parse_71 ?_
                refine lv_iload_n hx hb dX8_parse_74 rfl (lv_at hl 0 rfl) ?_
                refine k_iald hx hb E I (4) (by decide) (r0 := τ 4) rfl km_4 (vp_in_nI (by omega) (by decide)) dX8_parse_75 ?_
                rw [nI_clamp (by omega)]
                rw [hta.1]
                refine lv_bipush (v := nI 115) hx hb dX8_parse_76 (by decide) ?_
                refine lv_icmp_ne (tgt := 92) hx hb dX8_parse_78 (by decide) (fun c_78 => ?_) (fun c_78 => ?_)
                · have c_78 : ¬ (((T a)) = 115) := fun q_ => c_78 ((nI_eq (by omega) (by omega)).mpr q_)
                  have hit : pItem T nt a M = none := by unfold pItem; rw [if_neg h99]; exact if_neg (fun q => by omega)
                  have hFq : qd σ (va_up τ 0 (upd (τ 0) 6 (nI (a + 1)))) := qd_tr hF (qp_qd hq1)
                  refine lv_iconst (v := nI 0) hx hb dX8_parse_92 (by decide) ?_
                  refine lv_istore_n (lv' := [(2, .int (nI 0)), (1, .int (nI a)), (0, .ref (ad 0))]) hx hb dX8_parse_93 rfl hl (by decide) rfl (fun ls hl => ?_)
                  refine lv_iload_n hx hb dX8_parse_94 rfl (lv_at hl 0 rfl) ?_
                  refine lv_if_ne (tgt := 100) hx hb dX8_parse_95 (by decide) (fun c_95 => ?_) (fun c_95 => ?_)
                  · exact absurd c_95 (by decide)
                  · refine lv_iload_n hx hb dX8_parse_98 rfl (lv_at hl 1 rfl) ?_
                    exact k_iret hx hb hr hlk I dX8_parse_99 (⟨hFq, Or.inl ⟨a, by rw [hR, show 200 - i = (200 - (i + 1)) + 1 by omega, pRead, if_pos (by omega), hit], rfl⟩⟩)
                · have c_78 : ((T a)) = 115 := (nI_eq (by omega) (by omega)).mp c_78
                  refine lv_aload_n hx hb dX8_parse_81 rfl (lv_at hl 1 rfl) ?_
                  refine k_calli (k := 0) (As := []) (rest := []) ⟨hx, hb, hml, hown, hts⟩ (c_X8_readShip cy D ad l (va_up τ 0 (upd (τ 0) 6 (nI (a + 1)))) T nt hT1 M hM hD1 (a + 1) (by omega) (by rw [va_up_self, pk_us])) (cwV 0 hts gX8_parse_X8_readShip rfl rfl rfl (by decide +kernel) ⟨Nat.le_of_ble_eq_true rfl, Nat.le_of_ble_eq_true rfl⟩) E hA I (k_recv E I (by decide) km_0 rfl) rfl hl.1 rfl (lv_room (Nat.le_of_ble_eq_true rfl)) dX8_parse_82 ⟨Nat.le_of_ble_eq_true rfl, Nat.le_of_ble_eq_true rfl⟩ (fun r_82 σ_82 H locs hp_82 I => ?_)
                  obtain ⟨hk_, hq2, hy_⟩ := hp_82
                  have hFq := qd_tr hF (qd_tr (qp_qd hq1) hq2)
                  rcases hk_ with ⟨rfl, g1⟩ | ⟨rfl, g1⟩
                  · obtain ⟨q, hq_, hMq, h6q⟩ : ∃ q, pItem T nt a M = some q ∧ mD σ_82 q.2 ∧ σ_82 0 6 = nI q.1 := ⟨_, by unfold pItem; rw [if_neg h99]; exact if_pos ⟨by omega, g1⟩, (hy_ g1).1, (hy_ g1).2⟩
                    refine lv_if_eq (tgt := 92) hx hb dX8_parse_85 (by decide) (fun c_85 => ?_) (fun c_85 => ?_)
                    · exact absurd c_85 (by decide)
                    · refine lv_iconst (v := nI 1) hx hb dX8_parse_88 (by decide) ?_
                      refine lv_goto (tgt := 93) hx hb dX8_parse_89 (by decide) ?_
                      refine lv_istore_n (lv' := [(2, .int (nI 1)), (1, .int (nI a)), (0, .ref (ad 0))]) hx hb dX8_parse_93 rfl hl (by decide) rfl (fun ls hl => ?_)
                      refine lv_iload_n hx hb dX8_parse_94 rfl (lv_at hl 0 rfl) ?_
                      refine lv_if_ne (tgt := 100) hx hb dX8_parse_95 (by decide) (fun c_95 => ?_) (fun c_95 => ?_)
                      · refine lv_goto (tgt := 26) hx hb dX8_parse_100 (by decide) ?_
                        exact ih_26 (i + 1) q.1 q.2 _ (by have := (pOk_item hM hq_).2; omega) ((pOk_item hM hq_).1) (hMq) (h6q) (hFq) (by rw [hR, show 200 - i = (200 - (i + 1)) + 1 by omega, pRead, if_pos (by omega), hq_]) (by have := (pOk_item hM hq_).2; omega) (pItem_le hq_ (by omega)) _ _ I _ (lv_sub hl [2] rfl)
                      · exact absurd c_95 (by decide)
                  · have hit : pItem T nt a M = none := by unfold pItem; rw [if_neg h99]; exact if_neg (fun q => g1 q.2)
                    refine lv_if_eq (tgt := 92) hx hb dX8_parse_85 (by decide) (fun c_85 => ?_) (fun c_85 => ?_)
                    · refine lv_iconst (v := nI 0) hx hb dX8_parse_92 (by decide) ?_
                      refine lv_istore_n (lv' := [(2, .int (nI 0)), (1, .int (nI a)), (0, .ref (ad 0))]) hx hb dX8_parse_93 rfl hl (by decide) rfl (fun ls hl => ?_)
                      refine lv_iload_n hx hb dX8_parse_94 rfl (lv_at hl 0 rfl) ?_
                      refine lv_if_ne (tgt := 100) hx hb dX8_parse_95 (by decide) (fun c_95 => ?_) (fun c_95 => ?_)
                      · exact absurd c_95 (by decide)
                      · refine lv_iload_n hx hb dX8_parse_98 rfl (lv_at hl 1 rfl) ?_
                        exact k_iret hx hb hr hlk I dX8_parse_99 (⟨hFq, Or.inl ⟨a, by rw [hR, show 200 - i = (200 - (i + 1)) + 1 by omega, pRead, if_pos (by omega), hit], rfl⟩⟩)
                    · exact absurd c_85 (by decide)
              · have c_60 : ((T a)) = 99 := (nI_eq (by omega) (by omega)).mp c_60
                have h99 : ch T nt a = 99 := by omega
                refine lv_aload_n hx hb dX8_parse_63 rfl (lv_at hl 1 rfl) ?_
                refine k_calli (k := 0) (As := []) (rest := []) ⟨hx, hb, hml, hown, hts⟩ (c_X8_readColumn cy D ad l (va_up τ 0 (upd (τ 0) 6 (nI (a + 1)))) T nt hT1 M hM hD1 (a + 1) (by omega) (by rw [va_up_self, pk_us])) (cwV 0 hts gX8_parse_X8_readColumn rfl rfl rfl (by decide +kernel) ⟨Nat.le_of_ble_eq_true rfl, Nat.le_of_ble_eq_true rfl⟩) E hA I (k_recv E I (by decide) km_0 rfl) rfl hl.1 rfl (lv_room (Nat.le_of_ble_eq_true rfl)) dX8_parse_64 ⟨Nat.le_of_ble_eq_true rfl, Nat.le_of_ble_eq_true rfl⟩ (fun r_64 σ_64 H locs hp_64 I => ?_)
                obtain ⟨hk_, hq2, hy_⟩ := hp_64
                have hFq := qd_tr hF (qd_tr (qp_qd hq1) hq2)
                rcases hk_ with ⟨rfl, g1⟩ | ⟨rfl, g1⟩
                · obtain ⟨q, hq_, hMq, h6q⟩ : ∃ q, pItem T nt a M = some q ∧ mD σ_64 q.2 ∧ σ_64 0 6 = nI q.1 := ⟨_, by unfold pItem; rw [if_pos h99]; exact if_pos g1, (hy_ g1).1, (hy_ g1).2⟩
                  refine lv_goto (tgt := 93) hx hb dX8_parse_67 (by decide) ?_
                  refine lv_istore_n (lv' := [(2, .int (nI 1)), (1, .int (nI a)), (0, .ref (ad 0))]) hx hb dX8_parse_93 rfl hl (by decide) rfl (fun ls hl => ?_)
                  refine lv_iload_n hx hb dX8_parse_94 rfl (lv_at hl 0 rfl) ?_
                  refine lv_if_ne (tgt := 100) hx hb dX8_parse_95 (by decide) (fun c_95 => ?_) (fun c_95 => ?_)
                  · refine lv_goto (tgt := 26) hx hb dX8_parse_100 (by decide) ?_
                    exact ih_26 (i + 1) q.1 q.2 _ (by have := (pOk_item hM hq_).2; omega) ((pOk_item hM hq_).1) (hMq) (h6q) (hFq) (by rw [hR, show 200 - i = (200 - (i + 1)) + 1 by omega, pRead, if_pos (by omega), hq_]) (by have := (pOk_item hM hq_).2; omega) (pItem_le hq_ (by omega)) _ _ I _ (lv_sub hl [2] rfl)
                  · exact absurd c_95 (by decide)
                · have hit : pItem T nt a M = none := by unfold pItem; rw [if_pos h99]; exact if_neg g1
                  refine lv_goto (tgt := 93) hx hb dX8_parse_67 (by decide) ?_
                  refine lv_istore_n (lv' := [(2, .int (nI 0)), (1, .int (nI a)), (0, .ref (ad 0))]) hx hb dX8_parse_93 rfl hl (by decide) rfl (fun ls hl => ?_)
                  refine lv_iload_n hx hb dX8_parse_94 rfl (lv_at hl 0 rfl) ?_
                  refine lv_if_ne (tgt := 100) hx hb dX8_parse_95 (by decide) (fun c_95 => ?_) (fun c_95 => ?_)
                  · exact absurd c_95 (by decide)
                  · refine lv_iload_n hx hb dX8_parse_98 rfl (lv_at hl 1 rfl) ?_
                    exact k_iret hx hb hr hlk I dX8_parse_99 (⟨hFq, Or.inl ⟨a, by rw [hR, show 200 - i = (200 - (i + 1)) + 1 by omega, pRead, if_pos (by omega), hit], rfl⟩⟩)
        exact LP_26 _ 0 0 (fun _ => 0) _ (Nat.lt_succ_self _) (pOk_0) (fun j hj => by rw [va_up_ne _ _ (by decide), va_up_self]; exact r1 j (by omega)) (by rw [va_up_self, pk_us]) (⟨fun k a b c => by rw [va_up_ne _ _ a, va_up_ne _ _ b], fun j hj => by rw [va_up_self, pk_un hj]⟩) (rfl) (Nat.le_refl _) (Nat.zero_le _) _ _ I _ (lv_sub hl [0] rfl)
      · have c_5 : ¬ (88 ≤ k) := fun q_ => c_5 ((nI_leI (by omega) (by omega)).mpr q_)
        refine lv_aload_n hx hb dX8_parse_8 rfl (lv_at hl 0 rfl) ?_
        refine k_get (C := RX8) (T := TX8) (N := 13) (v := .ref (ad 2)) hx hb hts hown E I iX8 (0) (by decide) (r0 := σ 0) rfl km_0 rfl 1 (by decide) (List.mem_of_getElem? (i := 1) rfl) rfl dX8_parse_9 ?_
        refine lv_iload_n hx hb dX8_parse_12 rfl (lv_at hl 1 rfl) ?_
        refine lv_iconst (v := nI 0) hx hb dX8_parse_13 (by decide) ?_
        refine k_iast hx hb E I (2) (by decide) (r0 := (R)) rfl (fun _ => km_2) (vp_in_nI (by omega) (by decide)) (σ2 := va_up σ 2 (upd ((R)) k (nI 0))) (by rw [nI_clamp (by omega)]; exact (bx_uu _ _ _ _)) dX8_parse_14 (fun H locs I => ?_)
        refine lv_iinc (v := nI (k + 1)) (lv' := [(1, .int (nI (k + 1))), (0, .ref (ad 0))]) hx hb dX8_parse_15 hl (k := 1) rfl (show nI k + Int32.ofInt 1 = nI (k + 1) from nI_add k 1) (by decide) rfl (fun ls hl => ?_)
        refine lv_goto (tgt := 2) hx hb dX8_parse_18 (by decide) ?_
        exact ih_2 (k + 1) _ (by omega) (by omega) (fun j hj => by by_cases e_ : j = k; (rw [e_, pk_us]); (rw [pk_un e_]; exact r1 j (by omega))) _ _ I _ (lv_sub hl [1, 0] rfl)
  exact LP_2 _ 0 (σ 2) (Nat.lt_succ_self _) (Nat.zero_le _) (fun j hj => absurd hj (Nat.not_lt_zero j)) _ _ (by rw [kup_id]; exact I) _ (lv_sub hl [1, 0] rfl)
set_option maxHeartbeats 4000000 in
set_option maxRecDepth 100000 in
theorem c_X8_fault (cy : Nat → ClassId) (D : va_G) (ad : Nat → Nat) (l : Launch) (σ : Nat → Nat → Int32) (N : Nat → Nat) (P : Nat → Nat → Nat) (np : Nat) (T : Nat → Nat) (nt : Nat) (hC : rM σ (N, P, np, T, nt)) : kMi 6 ad (kcM cy ad) cy D l yX8_fault wsX8_fault ({ frames := 5, cells := 0, slots := 0, locals := 110 }) [.ref (ad 0)] σ (fun r σ' => r = (sFault (N, P, np, T, nt)).1 ∧ rM σ' (sFault (N, P, np, T, nt)).2) := by
  obtain ⟨hM, hN, hPs, hT⟩ := id hC
  have h5 := hN.1
  refine k_entry (cc := cX8_fault) (maxL := 1) (ret := (some .int)) (by decide) rfl (Nat.le_of_ble_eq_true rfl) ?_
  intro p e s m below meth c hx hb hr hml hown hts hlk E I ls hl
  have hA : ∀ q, s.heap.size ≤ q → kA 6 ad s.heap.size q := fun q h => Or.inr h
  have hown : s.vm.findClass RX8 = some m.cls := hown
  have hl : lv_has ls 1 [(0, .ref (ad 0))] := hl
  refine lv_aload_n hx hb dX8_fault_0 rfl (lv_at hl 0 rfl) ?_
  refine k_calli (k := 0) (As := []) (rest := []) ⟨hx, hb, hml, hown, hts⟩ (c_X8_parse cy D ad l σ T nt hT) (cwV 0 hts gX8_fault_X8_parse rfl rfl rfl (by decide +kernel) ⟨Nat.le_of_ble_eq_true rfl, Nat.le_of_ble_eq_true rfl⟩) E hA I (k_recv E I (by decide) km_0 rfl) rfl hl.1 rfl (lv_room (Nat.le_of_ble_eq_true rfl)) dX8_fault_1 ⟨Nat.le_of_ble_eq_true rfl, Nat.le_of_ble_eq_true rfl⟩ (fun r_1 σ_1 H locs hp_1 I => ?_)
  obtain ⟨hF_, hk_⟩ := hp_1
  exact k_iret hx hb hr hlk I dX8_fault_4 (⟨by unfold sFault pFault; rcases hk_ with ⟨a_, h1_, h2_⟩ | ⟨h1_, h2_, _⟩ <;> (simp only [h1_]; exact h2_), rM_qd hC hF_⟩)
set_option maxHeartbeats 4000000 in
set_option maxRecDepth 100000 in
theorem c_X8_install (cy : Nat → ClassId) (D : va_G) (ad : Nat → Nat) (l : Launch) (σ : Nat → Nat → Int32) (M : Nat → Nat) (hD : mD σ M) : kMv 6 ad (kcM cy ad) cy D l yX8_install wsX8_install ({ frames := 0, cells := 0, slots := 0, locals := 0 }) [.ref (ad 0)] σ (fun σ' => ∃ R : Nat → Int32, σ' = va_up (va_up σ 1 R) 0 (upd (σ 0) 3 (nI 0)) ∧ ∀ k, k < 88 → R k = nI (M k)) := by
  refine k_entry (cc := cX8_install) (maxL := 2) (ret := none) (by decide) rfl (Nat.le_of_ble_eq_true rfl) ?_
  intro p e s m below meth c hx hb hr hml hown hts hlk E I ls hl
  have hA : ∀ q, s.heap.size ≤ q → kA 6 ad s.heap.size q := fun q h => Or.inr h
  have hown : s.vm.findClass RX8 = some m.cls := hown
  have hl : lv_has ls 2 [(0, .ref (ad 0))] := hl
  have iX8 : ∀ w ∈ u_ws RX8 TX8 13, w ∈ wsX8_install := fun w h => List.mem_cons_of_mem _ (List.mem_append_right _ h)
  refine lv_iconst (v := nI 0) hx hb dX8_install_0 (by decide) ?_
  refine lv_istore_n (lv' := [(1, .int (nI 0)), (0, .ref (ad 0))]) hx hb dX8_install_1 rfl hl (by decide) rfl (fun ls hl => ?_)
  have LP_2 : ∀ (fuel_2 : Nat) (k : Nat) (R : Nat → Int32), 88 - k < fuel_2 → (k ≤ 88) → (∀ j, j < k → R j = nI (M j)) → ∀ (H : Heap) (locs : List Loc), kI 6 ad (kcM cy ad) D (kA 6 ad s.heap.size) s.heap (va_up σ 1 (R)) H locs → ∀ ls : Array Slot, lv_has ls 2 [(0, .ref (ad 0)), (1, .int (nI k))] → W p l e (headSpec wsX8_install ({ frames := 0, cells := 0, slots := 0, locals := 0 })).room s m [.ref (ad 0)].toArray below meth c H locs 0 0 (MQ below (va_Qv (fun σ' => ∃ R : Nat → Int32, σ' = va_up (va_up σ 1 R) 0 (upd (σ 0) 3 (nI 0)) ∧ ∀ k, k < 88 → R k = nI (M k)) (kB 6 ad (kcM cy ad) D) (kA 6 ad s.heap.size)) [.ref (ad 0)].toArray s 0 0 (kA 6 ad s.heap.size)) (F0 m 2 ls []) := by
    intro fuel_2
    induction fuel_2 with
    | zero => intro k R hf_2; exact absurd hf_2 (Nat.not_lt_zero _)
    | succ fuel_2 ih_2 =>
      intro k R hf_2 hk4 r1 H locs I ls hl
      refine lv_iload_n hx hb dX8_install_2 rfl (lv_at hl 1 rfl) ?_
      refine lv_bipush (v := nI 88) hx hb dX8_install_3 (by decide) ?_
      refine lv_icmp_ge (tgt := 26) hx hb dX8_install_5 (by decide) (fun c_5 => ?_) (fun c_5 => ?_)
      · have c_5 : 88 ≤ k := (nI_leI (by omega) (by omega)).mp c_5
        refine lv_aload_n hx hb dX8_install_26 rfl (lv_at hl 0 rfl) ?_
        refine lv_iconst (v := nI 0) hx hb dX8_install_27 (by decide) ?_
        refine k_put (C := RX8) (T := TX8) (N := 13) (ty0 := tyX8) (ty := .int) (v := .int (nI 0)) hx hb hts hown E I iX8 tyX8_ok nmX8 (0) (by decide) (r0 := σ 0) rfl km_0 rfl 3 (by decide) (List.mem_of_getElem? (i := 3) rfl) rfl rfl rfl rfl (Nat.le_of_ble_eq_true rfl) (upd (σ 0) 3 (nI 0)) rfl (σ2 := va_up (va_up σ 1 (R)) 0 (upd (σ 0) 3 (nI 0))) rfl dX8_install_28 (fun H locs I => ?_)
        exact k_vret hx hb hr hlk I dX8_install_31 (⟨R, rfl, fun j hj => r1 j (by omega)⟩)
      · have c_5 : ¬ (88 ≤ k) := fun q_ => c_5 ((nI_leI (by omega) (by omega)).mpr q_)
        refine lv_aload_n hx hb dX8_install_8 rfl (lv_at hl 0 rfl) ?_
        refine k_get (C := RX8) (T := TX8) (N := 13) (v := .ref (ad 1)) hx hb hts hown E I iX8 (0) (by decide) (r0 := σ 0) rfl km_0 rfl 0 (by decide) (List.mem_of_getElem? (i := 1) rfl) rfl dX8_install_9 ?_
        refine lv_iload_n hx hb dX8_install_12 rfl (lv_at hl 1 rfl) ?_
        refine lv_aload_n hx hb dX8_install_13 rfl (lv_at hl 0 rfl) ?_
        refine k_get (C := RX8) (T := TX8) (N := 13) (v := .ref (ad 2)) hx hb hts hown E I iX8 (0) (by decide) (r0 := σ 0) rfl km_0 rfl 1 (by decide) (List.mem_of_getElem? (i := 2) rfl) rfl dX8_install_14 ?_
        refine lv_iload_n hx hb dX8_install_17 rfl (lv_at hl 1 rfl) ?_
        refine k_iald hx hb E I (2) (by decide) (r0 := σ 2) rfl km_2 (vp_in_nI (by omega) (by decide)) dX8_install_18 ?_
        rw [nI_clamp (by omega)]
        rw [hD k (by omega)]
        refine k_iast hx hb E I (1) (by decide) (r0 := (R)) rfl (fun _ => km_1) (vp_in_nI (by omega) (by decide)) (σ2 := va_up σ 1 (upd ((R)) k (nI (M k)))) (by rw [nI_clamp (by omega)]; exact (bx_uu _ _ _ _)) dX8_install_19 (fun H locs I => ?_)
        refine lv_iinc (v := nI (k + 1)) (lv' := [(1, .int (nI (k + 1))), (0, .ref (ad 0))]) hx hb dX8_install_20 hl (k := 1) rfl (show nI k + Int32.ofInt 1 = nI (k + 1) from nI_add k 1) (by decide) rfl (fun ls hl => ?_)
        refine lv_goto (tgt := 2) hx hb dX8_install_23 (by decide) ?_
        exact ih_2 (k + 1) _ (by omega) (by omega) (fun j hj => by by_cases e_ : j = k; (rw [e_, pk_us]); (rw [pk_un e_]; exact r1 j (by omega))) _ _ I _ (lv_sub hl [1, 0] rfl)
  exact LP_2 _ 0 (σ 1) (Nat.lt_succ_self _) (Nat.zero_le _) (fun j hj => absurd hj (Nat.not_lt_zero j)) _ _ (by rw [kup_id]; exact I) _ (lv_sub hl [1, 0] rfl)
set_option maxHeartbeats 4000000 in
set_option maxRecDepth 100000 in
theorem c_X8_lay (cy : Nat → ClassId) (D : va_G) (ad : Nat → Nat) (l : Launch) (σ : Nat → Nat → Int32) (N : Nat → Nat) (P : Nat → Nat → Nat) (np : Nat) (T : Nat → Nat) (nt : Nat) (hC : rM σ (N, P, np, T, nt)) : kMi 6 ad (kcM cy ad) cy D l yX8_lay wsX8_lay ({ frames := 5, cells := 0, slots := 0, locals := 110 }) [.ref (ad 0)] σ (fun r σ' => r = (sLay (N, P, np, T, nt)).1 ∧ rM σ' (sLay (N, P, np, T, nt)).2) := by
  obtain ⟨hM, hN, hPs, hT⟩ := id hC
  have h5 := hN.1
  refine k_entry (cc := cX8_lay) (maxL := 1) (ret := (some .int)) (by decide) rfl (Nat.le_of_ble_eq_true rfl) ?_
  intro p e s m below meth c hx hb hr hml hown hts hlk E I ls hl
  have hA : ∀ q, s.heap.size ≤ q → kA 6 ad s.heap.size q := fun q h => Or.inr h
  have hown : s.vm.findClass RX8 = some m.cls := hown
  have hl : lv_has ls 1 [(0, .ref (ad 0))] := hl
  have iX8 : ∀ w ∈ u_ws RX8 TX8 13, w ∈ wsX8_lay := fun w h => List.mem_cons_of_mem _ (List.mem_append_right _ h)
  refine lv_aload_n hx hb dX8_lay_0 rfl (lv_at hl 0 rfl) ?_
  refine k_calli (k := 0) (As := []) (rest := []) ⟨hx, hb, hml, hown, hts⟩ (c_X8_parse cy D ad l σ T nt hT) (cwV 0 hts gX8_lay_X8_parse rfl rfl rfl (by decide +kernel) ⟨Nat.le_of_ble_eq_true rfl, Nat.le_of_ble_eq_true rfl⟩) E hA I (k_recv E I (by decide) km_0 rfl) rfl hl.1 rfl (lv_room (Nat.le_of_ble_eq_true rfl)) dX8_lay_1 ⟨Nat.le_of_ble_eq_true rfl, Nat.le_of_ble_eq_true rfl⟩ (fun r_1 σ_1 H locs hp_1 I => ?_)
  obtain ⟨hF_, hk_⟩ := hp_1
  have hMp := pOk_read (T := T) (n := nt) 200 0 _ pOk_0
  have hC1 := rM_qd hC hF_
  rcases hk_ with ⟨a_, h1_, rfl⟩ | ⟨h1_, rfl, hD_⟩
  · refine lv_bipush (v := (-4 : Int32)) hx hb dX8_lay_4 (by decide) ?_
    refine lv_icmp_ne (tgt := 28) hx hb dX8_lay_6 (by decide) (fun c_6 => ?_) (fun c_6 => ?_)
    · have hbad : ¬ ((pRead T nt 200 0 (fun _ => 0)).1 = none ∧ 2 ≤ (pRead T nt 200 0 (fun _ => 0)).2 0 ∧ 1 ≤ (pRead T nt 200 0 (fun _ => 0)).2 1) := fun q => by rw [h1_] at q; exact absurd q.1 (by simp)
      refine lv_bipush (v := (-2 : Int32)) hx hb dX8_lay_28 (by decide) ?_
      exact k_iret hx hb hr hlk I dX8_lay_30 (by rw [sLay, if_neg hbad]; exact ⟨rfl, hC1⟩)
    · exact absurd c_6 (nI_m4 (by have := pRead_lt h1_; have := hT.2.1; omega))
  · generalize hMd : (pRead T nt 200 0 (fun _ => 0)).2 = M at hMp hD_
    have h9 := hMp.1
    refine lv_bipush (v := (-4 : Int32)) hx hb dX8_lay_4 (by decide) ?_
    refine lv_icmp_ne (tgt := 28) hx hb dX8_lay_6 (by decide) (fun c_6 => ?_) (fun c_6 => ?_)
    · exact absurd c_6 (by decide)
    · refine lv_aload_n hx hb dX8_lay_9 rfl (lv_at hl 0 rfl) ?_
      refine k_get (C := RX8) (T := TX8) (N := 13) (v := .ref (ad 2)) hx hb hts hown E I iX8 (0) (by decide) (r0 := σ_1 0) rfl km_0 rfl 1 (by decide) (List.mem_of_getElem? (i := 1) rfl) rfl dX8_lay_10 ?_
      refine lv_iconst (v := nI 0) hx hb dX8_lay_13 (by decide) ?_
      refine k_iald hx hb E I (2) (by decide) (r0 := σ_1 2) rfl km_2 (vp_in_nI (by omega) (by decide)) dX8_lay_14 ?_
      rw [nI_clamp (by omega)]
      rw [hD_ 0 (by decide)]
      refine lv_iconst (v := nI 2) hx hb dX8_lay_15 (by decide) ?_
      refine lv_icmp_lt (tgt := 28) hx hb dX8_lay_16 (by decide) (fun c_16 => ?_) (fun c_16 => ?_)
      · have c_16 : ((M 0)) < 2 := (nI_ltI (by omega) (by omega)).mp c_16
        have hbad : ¬ ((pRead T nt 200 0 (fun _ => 0)).1 = none ∧ 2 ≤ (pRead T nt 200 0 (fun _ => 0)).2 0 ∧ 1 ≤ (pRead T nt 200 0 (fun _ => 0)).2 1) := fun q => by rw [hMd] at q; omega
        refine lv_bipush (v := (-2 : Int32)) hx hb dX8_lay_28 (by decide) ?_
        exact k_iret hx hb hr hlk I dX8_lay_30 (by rw [sLay, if_neg hbad]; exact ⟨rfl, hC1⟩)
      · have c_16 : ¬ (((M 0)) < 2) := fun q_ => c_16 ((nI_ltI (by omega) (by omega)).mpr q_)
        refine lv_aload_n hx hb dX8_lay_19 rfl (lv_at hl 0 rfl) ?_
        refine k_get (C := RX8) (T := TX8) (N := 13) (v := .ref (ad 2)) hx hb hts hown E I iX8 (0) (by decide) (r0 := σ_1 0) rfl km_0 rfl 1 (by decide) (List.mem_of_getElem? (i := 1) rfl) rfl dX8_lay_20 ?_
        refine lv_iconst (v := nI 1) hx hb dX8_lay_23 (by decide) ?_
        refine k_iald hx hb E I (2) (by decide) (r0 := σ_1 2) rfl km_2 (vp_in_nI (by omega) (by decide)) dX8_lay_24 ?_
        rw [nI_clamp (by omega)]
        rw [hD_ 1 (by decide)]
        refine lv_if_ne (tgt := 31) hx hb dX8_lay_25 (by decide) (fun c_25 => ?_) (fun c_25 => ?_)
        · have c_25 : ¬ (((M 1)) = 0) := fun q_ => c_25 ((nI_eq (by omega) (by decide)).mpr q_)
          refine lv_aload_n hx hb dX8_lay_31 rfl (lv_at hl 0 rfl) ?_
          refine k_callv (k := 0) (As := []) (rest := []) ⟨hx, hb, hml, hown, hts⟩ (c_X8_install cy D ad l σ_1 M hD_) (cwV 0 hts gX8_lay_X8_install rfl rfl rfl (by decide +kernel) ⟨Nat.le_of_ble_eq_true rfl, Nat.le_of_ble_eq_true rfl⟩) E hA I (k_recv E I (by decide) km_0 rfl) rfl hl.1 rfl (lv_room (Nat.le_of_ble_eq_true rfl)) dX8_lay_32 ⟨Nat.le_of_ble_eq_true rfl, Nat.le_of_ble_eq_true rfl⟩ (fun σ_32 H locs hp_32 I => ?_)
          obtain ⟨R, hs_, hR⟩ := hp_32
          have e1_ : σ_32 1 1 = nI (M 1) := by rw [hs_, va_up_ne _ _ (by decide), va_up_self]; exact hR 1 (by decide)
          refine lv_aload_n hx hb dX8_lay_35 rfl (lv_at hl 0 rfl) ?_
          refine k_get (C := RX8) (T := TX8) (N := 13) (v := .ref (ad 1)) hx hb hts hown E I iX8 (0) (by decide) (r0 := σ_32 0) rfl km_0 rfl 0 (by decide) (List.mem_of_getElem? (i := 2) rfl) rfl dX8_lay_36 ?_
          refine lv_iconst (v := nI 1) hx hb dX8_lay_39 (by decide) ?_
          refine k_iald hx hb E I (1) (by decide) (r0 := σ_32 1) rfl km_1 (vp_in_nI (by omega) (by decide)) dX8_lay_40 ?_
          rw [nI_clamp (by omega)]
          rw [e1_]
          exact k_iret hx hb hr hlk I dX8_lay_41 (by rw [sLay, hMd, if_pos ⟨h1_, by omega, by omega⟩]; exact ⟨rfl, lay_m hC1 (nOk_of hMp (by omega) (by omega)) hR hs_⟩)
        · have c_25 : ((M 1)) = 0 := (nI_eq (by omega) (by decide)).mp c_25
          have hbad : ¬ ((pRead T nt 200 0 (fun _ => 0)).1 = none ∧ 2 ≤ (pRead T nt 200 0 (fun _ => 0)).2 0 ∧ 1 ≤ (pRead T nt 200 0 (fun _ => 0)).2 1) := fun q => by rw [hMd] at q; omega
          refine lv_bipush (v := (-2 : Int32)) hx hb dX8_lay_28 (by decide) ?_
          exact k_iret hx hb hr hlk I dX8_lay_30 (by rw [sLay, if_neg hbad]; exact ⟨rfl, hC1⟩)

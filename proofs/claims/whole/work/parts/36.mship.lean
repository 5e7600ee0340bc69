/-! THE REFERENCE: its ships -/
set_option maxHeartbeats 4000000 in
set_option maxRecDepth 100000 in
theorem c_X8_of (cy : Nat → ClassId) (D : va_G) (ad : Nat → Nat) (l : Launch) (σ : Nat → Nat → Int32) (i f v : Nat) (hf : 23 + 13 * i + f < 88) (ev : σ 1 (23 + 13 * i + f) = nI v) : kMi 6 ad (kcM cy ad) cy D l yX8_of wsX8_of ({ frames := 0, cells := 0, slots := 0, locals := 0 }) [.ref (ad 0), .int (nI i), .int (nI f)] σ (fun r σ' => r = nI v ∧ σ = σ') := by
  refine k_entry (cc := cX8_of) (maxL := 3) (ret := (some .int)) (by decide) rfl (Nat.le_of_ble_eq_true rfl) ?_
  intro p e s m below meth c hx hb hr hml hown hts hlk E I ls hl
  have hA : ∀ q, s.heap.size ≤ q → kA 6 ad s.heap.size q := fun q h => Or.inr h
  have hown : s.vm.findClass RX8 = some m.cls := hown
  have hl : lv_has ls 3 [(0, .ref (ad 0)), (1, .int (nI i)), (2, .int (nI f))] := hl
  have iX8 : ∀ w ∈ u_ws RX8 TX8 13, w ∈ wsX8_of := fun w h => List.mem_cons_of_mem _ (List.mem_append_right _ h)
  refine lv_aload_n hx hb dX8_of_0 rfl (lv_at hl 0 rfl) ?_
  refine k_get (C := RX8) (T := TX8) (N := 13) (v := .ref (ad 1)) hx hb hts hown E I iX8 (0) (by decide) (r0 := σ 0) rfl km_0 rfl 0 (by decide) (List.mem_of_getElem? (i := 1) rfl) rfl dX8_of_1 ?_
  refine lv_bipush (v := nI 23) hx hb dX8_of_4 (by decide) ?_
  refine lv_bipush (v := nI 13) hx hb dX8_of_6 (by decide) ?_
  refine lv_iload_n hx hb dX8_of_8 rfl (lv_at hl 1 rfl) ?_
  refine lv_imul hx hb dX8_of_9 ?_
  rw [pk_mul]
  refine lv_iadd hx hb dX8_of_10 ?_
  rw [nI_add]
  refine lv_iload_n hx hb dX8_of_11 rfl (lv_at hl 2 rfl) ?_
  refine lv_iadd hx hb dX8_of_12 ?_
  rw [nI_add]
  refine k_iald hx hb E I (1) (by decide) (r0 := σ 1) rfl km_1 (vp_in_nI (by omega) (by decide)) dX8_of_13 ?_
  rw [nI_clamp (by omega)]
  rw [ev]
  exact k_iret hx hb hr hlk I dX8_of_14 (⟨rfl, rfl⟩)
set_option maxHeartbeats 4000000 in
set_option maxRecDepth 100000 in
theorem c_X8_put (cy : Nat → ClassId) (D : va_G) (ad : Nat → Nat) (l : Launch) (σ : Nat → Nat → Int32) (i f : Nat) (x : Int32) (hf : 23 + 13 * i + f < 88) : kMv 6 ad (kcM cy ad) cy D l yX8_put wsX8_put ({ frames := 0, cells := 0, slots := 0, locals := 0 }) [.ref (ad 0), .int (nI i), .int (nI f), .int x] σ (fun σ' => σ' = va_up σ 1 (upd (σ 1) (23 + 13 * i + f) x)) := by
  refine k_entry (cc := cX8_put) (maxL := 4) (ret := none) (by decide) rfl (Nat.le_of_ble_eq_true rfl) ?_
  intro p e s m below meth c hx hb hr hml hown hts hlk E I ls hl
  have hA : ∀ q, s.heap.size ≤ q → kA 6 ad s.heap.size q := fun q h => Or.inr h
  have hown : s.vm.findClass RX8 = some m.cls := hown
  have hl : lv_has ls 4 [(0, .ref (ad 0)), (1, .int (nI i)), (2, .int (nI f)), (3, .int x)] := hl
  have iX8 : ∀ w ∈ u_ws RX8 TX8 13, w ∈ wsX8_put := fun w h => List.mem_cons_of_mem _ (List.mem_append_right _ h)
  refine lv_aload_n hx hb dX8_put_0 rfl (lv_at hl 0 rfl) ?_
  refine k_get (C := RX8) (T := TX8) (N := 13) (v := .ref (ad 1)) hx hb hts hown E I iX8 (0) (by decide) (r0 := σ 0) rfl km_0 rfl 0 (by decide) (List.mem_of_getElem? (i := 1) rfl) rfl dX8_put_1 ?_
  refine lv_bipush (v := nI 23) hx hb dX8_put_4 (by decide) ?_
  refine lv_bipush (v := nI 13) hx hb dX8_put_6 (by decide) ?_
  refine lv_iload_n hx hb dX8_put_8 rfl (lv_at hl 1 rfl) ?_
  refine lv_imul hx hb dX8_put_9 ?_
  rw [pk_mul]
  refine lv_iadd hx hb dX8_put_10 ?_
  rw [nI_add]
  refine lv_iload_n hx hb dX8_put_11 rfl (lv_at hl 2 rfl) ?_
  refine lv_iadd hx hb dX8_put_12 ?_
  rw [nI_add]
  refine lv_iload_n hx hb dX8_put_13 rfl (lv_at hl 3 rfl) ?_
  refine k_iast hx hb E I (1) (by decide) (r0 := σ 1) rfl (fun _ => km_1) (vp_in_nI (by omega) (by decide)) (σ2 := va_up σ 1 (upd (σ 1) ((23 + (13 * i)) + f) x)) (by rw [nI_clamp (by omega)]) dX8_put_14 (fun H locs I => ?_)
  exact k_vret hx hb hr hlk I dX8_put_15 (rfl)
set_option maxHeartbeats 4000000 in
set_option maxRecDepth 100000 in
theorem c_X8_pull (cy : Nat → ClassId) (D : va_G) (ad : Nat → Nat) (l : Launch) (σ : Nat → Nat → Int32) (i b a : Nat) (H_i : i < 5) (ha : a ≤ 9) (hb20 : b ≤ 20) (ea : σ 1 (23 + 13 * i + 5) = nI a) : kMi 6 ad (kcM cy ad) cy D l yX8_pull wsX8_pull ({ frames := 1, cells := 0, slots := 0, locals := 22 }) [.ref (ad 0), .int (nI i), .int (nI b)] σ (fun r σ' => r = nI (b * b * a / 4) ∧ σ = σ') := by
  have hbb : b * b ≤ 20 * 20 := sq_mono hb20
  have hba : b * b * a ≤ 400 * 9 := Nat.mul_le_mul hbb ha
  refine k_entry (cc := cX8_pull) (maxL := 3) (ret := (some .int)) (by decide) rfl (Nat.le_of_ble_eq_true rfl) ?_
  intro p e s m below meth c hx hb hr hml hown hts hlk E I ls hl
  have hA : ∀ q, s.heap.size ≤ q → kA 6 ad s.heap.size q := fun q h => Or.inr h
  have hown : s.vm.findClass RX8 = some m.cls := hown
  have hl : lv_has ls 3 [(0, .ref (ad 0)), (1, .int (nI i)), (2, .int (nI b))] := hl
  refine lv_iload_n hx hb dX8_pull_0 rfl (lv_at hl 2 rfl) ?_
  refine lv_iload_n hx hb dX8_pull_1 rfl (lv_at hl 2 rfl) ?_
  refine lv_imul hx hb dX8_pull_2 ?_
  rw [pk_mul]
  refine lv_aload_n hx hb dX8_pull_3 rfl (lv_at hl 0 rfl) ?_
  refine lv_iload_n hx hb dX8_pull_4 rfl (lv_at hl 1 rfl) ?_
  refine lv_iconst (v := nI 5) hx hb dX8_pull_5 (by decide) ?_
  refine k_calli (k := 0) (As := [.int (nI i), .int (nI 5)]) (rest := [.int (nI (b * b))]) ⟨hx, hb, hml, hown, hts⟩ (c_X8_of cy D ad l σ i 5 a (by omega) ea) (cwV 2 hts gX8_pull_X8_of rfl rfl rfl (by decide +kernel) ⟨Nat.le_of_ble_eq_true rfl, Nat.le_of_ble_eq_true rfl⟩) E hA I (k_recv E I (by decide) km_0 rfl) rfl hl.1 rfl (lv_room (Nat.le_of_ble_eq_true rfl)) dX8_pull_6 ⟨Nat.le_of_ble_eq_true rfl, Nat.le_of_ble_eq_true rfl⟩ (fun r_6 σ_6 H locs hp_6 I => ?_)
  obtain ⟨rfl, rfl⟩ := hp_6
  refine lv_imul hx hb dX8_pull_9 ?_
  rw [pk_mul]
  refine lv_iconst (v := nI 4) hx hb dX8_pull_10 (by decide) ?_
  refine lv_idiv hx hb dX8_pull_11 (by decide) ?_
  exact k_iret hx hb hr hlk I dX8_pull_12 (⟨pk_div (by omega) (by decide) (by decide), rfl⟩)
set_option maxHeartbeats 4000000 in
set_option maxRecDepth 100000 in
theorem c_X8_chainOf (cy : Nat → ClassId) (D : va_G) (ad : Nat → Nat) (l : Launch) (σ : Nat → Nat → Int32) (N : Nat → Nat) (hN : nOk N) (i : Nat) (hi : i < N 1) (hM : mN σ N) (w h : Nat) (hw : w ≤ 1) (hm : w = 1 → N (23 + 13 * i + 9) = 1) (hh : h ≤ 9999) : kMv 6 ad (kcM cy ad) cy D l yX8_chainOf wsX8_chainOf ({ frames := 4, cells := 0, slots := 0, locals := 96 }) [.ref (ad 0), .int (nI i), .int (nI w), .int (nI h)] σ (fun σ' => ∃ R : Nat → Int32, σ' = va_up σ 0 R ∧ (∀ j, j < 8 → R j = σ 0 j) ∧ mLie R h (N (23 + 13 * i + 3)) (pD N (N (23 + 13 * i + cxf w))) (N (23 + 13 * i + lkf w))) := by
  have h5 := hN.1
  have H_i : i < 5 := by omega
  have hsh := hN.2.2 i hi
  unfold nSh at hsh
  refine k_entry (cc := cX8_chainOf) (maxL := 4) (ret := none) (by decide) rfl (Nat.le_of_ble_eq_true rfl) ?_
  intro p e s m below meth c hx hb hr hml hown hts hlk E I ls hl
  have hA : ∀ q, s.heap.size ≤ q → kA 6 ad s.heap.size q := fun q h => Or.inr h
  have hown : s.vm.findClass RX8 = some m.cls := hown
  have hl : lv_has ls 4 [(0, .ref (ad 0)), (1, .int (nI i)), (2, .int (nI w)), (3, .int (nI h))] := hl
  rcases (show w = 0 ∨ w = 1 by omega) with rfl | rfl
  · have hx2 : N (23 + 13 * i) < N 0 ∧ 1 ≤ N (23 + 13 * i + 2) ∧ N (23 + 13 * i + 2) ≤ 60 := by omega
    refine lv_aload_n hx hb dX8_chainOf_0 rfl (lv_at hl 0 rfl) ?_
    refine lv_aload_n hx hb dX8_chainOf_1 rfl (lv_at hl 0 rfl) ?_
    refine lv_iload_n hx hb dX8_chainOf_2 rfl (lv_at hl 1 rfl) ?_
    refine lv_iload_n hx hb dX8_chainOf_3 rfl (lv_at hl 2 rfl) ?_
    refine lv_if_ne (tgt := 11) hx hb dX8_chainOf_4 (by decide) (fun c_4 => ?_) (fun c_4 => ?_)
    · exact absurd c_4 (by decide)
    · refine lv_iconst (v := nI 0) hx hb dX8_chainOf_7 (by decide) ?_
      refine lv_goto (tgt := 13) hx hb dX8_chainOf_8 (by decide) ?_
      refine k_calli (k := 0) (As := [.int (nI i), .int (nI 0)]) (rest := [.ref (ad 0)]) ⟨hx, hb, hml, hown, hts⟩ (c_X8_of cy D ad l σ i (0) (N (23 + 13 * i)) (by omega) (hM _ (by omega))) (cwV 2 hts gX8_chainOf_X8_of rfl rfl rfl (by decide +kernel) ⟨Nat.le_of_ble_eq_true rfl, Nat.le_of_ble_eq_true rfl⟩) E hA I (k_recv E I (by decide) km_0 rfl) rfl hl.1 rfl (lv_room (Nat.le_of_ble_eq_true rfl)) dX8_chainOf_13 ⟨Nat.le_of_ble_eq_true rfl, Nat.le_of_ble_eq_true rfl⟩ (fun r_13 σ_13 H locs hp_13 I => ?_)
      obtain ⟨rfl, rfl⟩ := hp_13
      refine lv_aload_n hx hb dX8_chainOf_16 rfl (lv_at hl 0 rfl) ?_
      refine lv_iload_n hx hb dX8_chainOf_17 rfl (lv_at hl 1 rfl) ?_
      refine lv_iload_n hx hb dX8_chainOf_18 rfl (lv_at hl 2 rfl) ?_
      refine lv_if_ne (tgt := 26) hx hb dX8_chainOf_19 (by decide) (fun c_19 => ?_) (fun c_19 => ?_)
      · exact absurd c_19 (by decide)
      · refine lv_iconst (v := nI 2) hx hb dX8_chainOf_22 (by decide) ?_
        refine lv_goto (tgt := 28) hx hb dX8_chainOf_23 (by decide) ?_
        refine k_calli (k := 0) (As := [.int (nI i), .int (nI 2)]) (rest := [.int (nI (N (23 + 13 * i))), .ref (ad 0)]) ⟨hx, hb, hml, hown, hts⟩ (c_X8_of cy D ad l σ i (2) (N (23 + 13 * i + 2)) (by omega) (hM _ (by omega))) (cwV 2 hts gX8_chainOf_X8_of rfl rfl rfl (by decide +kernel) ⟨Nat.le_of_ble_eq_true rfl, Nat.le_of_ble_eq_true rfl⟩) E hA I (k_recv E I (by decide) km_0 rfl) rfl hl.1 rfl (lv_room (Nat.le_of_ble_eq_true rfl)) dX8_chainOf_28 ⟨Nat.le_of_ble_eq_true rfl, Nat.le_of_ble_eq_true rfl⟩ (fun r_28 σ_28 H locs hp_28 I => ?_)
        obtain ⟨rfl, rfl⟩ := hp_28
        refine lv_aload_n hx hb dX8_chainOf_31 rfl (lv_at hl 0 rfl) ?_
        refine lv_iload_n hx hb dX8_chainOf_32 rfl (lv_at hl 1 rfl) ?_
        refine lv_iconst (v := nI 3) hx hb dX8_chainOf_33 (by decide) ?_
        refine k_calli (k := 0) (As := [.int (nI i), .int (nI 3)]) (rest := [.int (nI (N (23 + 13 * i + 2))), .int (nI (N (23 + 13 * i))), .ref (ad 0)]) ⟨hx, hb, hml, hown, hts⟩ (c_X8_of cy D ad l σ i (3) (N (23 + 13 * i + 3)) (by omega) (hM _ (by omega))) (cwV 2 hts gX8_chainOf_X8_of rfl rfl rfl (by decide +kernel) ⟨Nat.le_of_ble_eq_true rfl, Nat.le_of_ble_eq_true rfl⟩) E hA I (k_recv E I (by decide) km_0 rfl) rfl hl.1 rfl (lv_room (Nat.le_of_ble_eq_true rfl)) dX8_chainOf_34 ⟨Nat.le_of_ble_eq_true rfl, Nat.le_of_ble_eq_true rfl⟩ (fun r_34 σ_34 H locs hp_34 I => ?_)
        obtain ⟨rfl, rfl⟩ := hp_34
        refine lv_iload_n hx hb dX8_chainOf_37 rfl (lv_at hl 3 rfl) ?_
        refine k_callv (k := 0) (As := [.int (nI (N (23 + 13 * i))), .int (nI (N (23 + 13 * i + 2))), .int (nI (N (23 + 13 * i + 3))), .int (nI h)]) (rest := []) ⟨hx, hb, hml, hown, hts⟩ (c_X8_chain cy D ad l σ ((N (23 + 13 * i))) ((N (23 + 13 * i + 2))) ((N (23 + 13 * i + 3))) h (N (3 + ((N (23 + 13 * i))))) (by omega) hx2.2.2 hsh.2.1.1 hsh.2.1.2.1 hh (hN.2.1 _ hx2.1).2 (hM _ (by omega))) (cwV 4 hts gX8_chainOf_X8_chain rfl rfl rfl (by decide +kernel) ⟨Nat.le_of_ble_eq_true rfl, Nat.le_of_ble_eq_true rfl⟩) E hA I (k_recv E I (by decide) km_0 rfl) rfl hl.1 rfl (lv_room (Nat.le_of_ble_eq_true rfl)) dX8_chainOf_38 ⟨Nat.le_of_ble_eq_true rfl, Nat.le_of_ble_eq_true rfl⟩ (fun σ_38 H locs hp_38 I => ?_)
        exact k_vret hx hb hr hlk I dX8_chainOf_41 (hp_38)
  · have hs2 := hsh.2.2.2.2.1 (hm rfl)
    have hx2 : N (23 + 13 * i + 10) < N 0 ∧ 1 ≤ N (23 + 13 * i + 12) ∧ N (23 + 13 * i + 12) ≤ 60 := by omega
    refine lv_aload_n hx hb dX8_chainOf_0 rfl (lv_at hl 0 rfl) ?_
    refine lv_aload_n hx hb dX8_chainOf_1 rfl (lv_at hl 0 rfl) ?_
    refine lv_iload_n hx hb dX8_chainOf_2 rfl (lv_at hl 1 rfl) ?_
    refine lv_iload_n hx hb dX8_chainOf_3 rfl (lv_at hl 2 rfl) ?_
    refine lv_if_ne (tgt := 11) hx hb dX8_chainOf_4 (by decide) (fun c_4 => ?_) (fun c_4 => ?_)
    · refine lv_bipush (v := nI 10) hx hb dX8_chainOf_11 (by decide) ?_
      refine k_calli (k := 0) (As := [.int (nI i), .int (nI 10)]) (rest := [.ref (ad 0)]) ⟨hx, hb, hml, hown, hts⟩ (c_X8_of cy D ad l σ i (10) (N (23 + 13 * i + 10)) (by omega) (hM _ (by omega))) (cwV 2 hts gX8_chainOf_X8_of rfl rfl rfl (by decide +kernel) ⟨Nat.le_of_ble_eq_true rfl, Nat.le_of_ble_eq_true rfl⟩) E hA I (k_recv E I (by decide) km_0 rfl) rfl hl.1 rfl (lv_room (Nat.le_of_ble_eq_true rfl)) dX8_chainOf_13 ⟨Nat.le_of_ble_eq_true rfl, Nat.le_of_ble_eq_true rfl⟩ (fun r_13 σ_13 H locs hp_13 I => ?_)
      obtain ⟨rfl, rfl⟩ := hp_13
      refine lv_aload_n hx hb dX8_chainOf_16 rfl (lv_at hl 0 rfl) ?_
      refine lv_iload_n hx hb dX8_chainOf_17 rfl (lv_at hl 1 rfl) ?_
      refine lv_iload_n hx hb dX8_chainOf_18 rfl (lv_at hl 2 rfl) ?_
      refine lv_if_ne (tgt := 26) hx hb dX8_chainOf_19 (by decide) (fun c_19 => ?_) (fun c_19 => ?_)
      · refine lv_bipush (v := nI 12) hx hb dX8_chainOf_26 (by decide) ?_
        refine k_calli (k := 0) (As := [.int (nI i), .int (nI 12)]) (rest := [.int (nI (N (23 + 13 * i + 10))), .ref (ad 0)]) ⟨hx, hb, hml, hown, hts⟩ (c_X8_of cy D ad l σ i (12) (N (23 + 13 * i + 12)) (by omega) (hM _ (by omega))) (cwV 2 hts gX8_chainOf_X8_of rfl rfl rfl (by decide +kernel) ⟨Nat.le_of_ble_eq_true rfl, Nat.le_of_ble_eq_true rfl⟩) E hA I (k_recv E I (by decide) km_0 rfl) rfl hl.1 rfl (lv_room (Nat.le_of_ble_eq_true rfl)) dX8_chainOf_28 ⟨Nat.le_of_ble_eq_true rfl, Nat.le_of_ble_eq_true rfl⟩ (fun r_28 σ_28 H locs hp_28 I => ?_)
        obtain ⟨rfl, rfl⟩ := hp_28
        refine lv_aload_n hx hb dX8_chainOf_31 rfl (lv_at hl 0 rfl) ?_
        refine lv_iload_n hx hb dX8_chainOf_32 rfl (lv_at hl 1 rfl) ?_
        refine lv_iconst (v := nI 3) hx hb dX8_chainOf_33 (by decide) ?_
        refine k_calli (k := 0) (As := [.int (nI i), .int (nI 3)]) (rest := [.int (nI (N (23 + 13 * i + 12))), .int (nI (N (23 + 13 * i + 10))), .ref (ad 0)]) ⟨hx, hb, hml, hown, hts⟩ (c_X8_of cy D ad l σ i (3) (N (23 + 13 * i + 3)) (by omega) (hM _ (by omega))) (cwV 2 hts gX8_chainOf_X8_of rfl rfl rfl (by decide +kernel) ⟨Nat.le_of_ble_eq_true rfl, Nat.le_of_ble_eq_true rfl⟩) E hA I (k_recv E I (by decide) km_0 rfl) rfl hl.1 rfl (lv_room (Nat.le_of_ble_eq_true rfl)) dX8_chainOf_34 ⟨Nat.le_of_ble_eq_true rfl, Nat.le_of_ble_eq_true rfl⟩ (fun r_34 σ_34 H locs hp_34 I => ?_)
        obtain ⟨rfl, rfl⟩ := hp_34
        refine lv_iload_n hx hb dX8_chainOf_37 rfl (lv_at hl 3 rfl) ?_
        refine k_callv (k := 0) (As := [.int (nI (N (23 + 13 * i + 10))), .int (nI (N (23 + 13 * i + 12))), .int (nI (N (23 + 13 * i + 3))), .int (nI h)]) (rest := []) ⟨hx, hb, hml, hown, hts⟩ (c_X8_chain cy D ad l σ ((N (23 + 13 * i + 10))) ((N (23 + 13 * i + 12))) ((N (23 + 13 * i + 3))) h (N (3 + ((N (23 + 13 * i + 10))))) (by omega) hx2.2.2 hsh.2.1.1 hsh.2.1.2.1 hh (hN.2.1 _ hx2.1).2 (hM _ (by omega))) (cwV 4 hts gX8_chainOf_X8_chain rfl rfl rfl (by decide +kernel) ⟨Nat.le_of_ble_eq_true rfl, Nat.le_of_ble_eq_true rfl⟩) E hA I (k_recv E I (by decide) km_0 rfl) rfl hl.1 rfl (lv_room (Nat.le_of_ble_eq_true rfl)) dX8_chainOf_38 ⟨Nat.le_of_ble_eq_true rfl, Nat.le_of_ble_eq_true rfl⟩ (fun σ_38 H locs hp_38 I => ?_)
        exact k_vret hx hb hr hlk I dX8_chainOf_41 (hp_38)
      · exact absurd c_19 (by decide)
    · exact absurd c_4 (by decide)
set_option maxHeartbeats 4000000 in
set_option maxRecDepth 100000 in
theorem c_X8_doesHold (cy : Nat → ClassId) (D : va_G) (ad : Nat → Nat) (l : Launch) (σ : Nat → Nat → Int32) (N : Nat → Nat) (hN : nOk N) (i : Nat) (hi : i < N 1) (hM : mN σ N) (w h : Nat) (hw : w ≤ 1) (hm : w = 1 → N (23 + 13 * i + 9) = 1) (hh : h ≤ 9999) : kMi 6 ad (kcM cy ad) cy D l yX8_doesHold wsX8_doesHold ({ frames := 5, cells := 0, slots := 0, locals := 119 }) [.ref (ad 0), .int (nI i), .int (nI w), .int (nI h)] σ (fun r σ' => kT r (zHolds h (N (23 + 13 * i + 3)) (pD N (N (23 + 13 * i + cxf w))) (N (23 + 13 * i + lkf w)) (N (23 + 13 * i + 6)) = true) ∧ qm σ σ') := by
  have h5 := hN.1
  have H_i : i < 5 := by omega
  have hsh := hN.2.2 i hi
  unfold nSh at hsh
  refine k_entry (cc := cX8_doesHold) (maxL := 4) (ret := (some .boolean)) (by decide) rfl (Nat.le_of_ble_eq_true rfl) ?_
  intro p e s m below meth c hx hb hr hml hown hts hlk E I ls hl
  have hA : ∀ q, s.heap.size ≤ q → kA 6 ad s.heap.size q := fun q h => Or.inr h
  have hown : s.vm.findClass RX8 = some m.cls := hown
  have hl : lv_has ls 4 [(0, .ref (ad 0)), (1, .int (nI i)), (2, .int (nI w)), (3, .int (nI h))] := hl
  refine lv_aload_n hx hb dX8_doesHold_0 rfl (lv_at hl 0 rfl) ?_
  refine lv_iload_n hx hb dX8_doesHold_1 rfl (lv_at hl 1 rfl) ?_
  refine lv_iload_n hx hb dX8_doesHold_2 rfl (lv_at hl 2 rfl) ?_
  refine lv_iload_n hx hb dX8_doesHold_3 rfl (lv_at hl 3 rfl) ?_
  refine k_callv (k := 0) (As := [.int (nI i), .int (nI w), .int (nI h)]) (rest := []) ⟨hx, hb, hml, hown, hts⟩ (c_X8_chainOf cy D ad l σ N hN i hi hM w h hw hm hh) (cwV 3 hts gX8_doesHold_X8_chainOf rfl rfl rfl (by decide +kernel) ⟨Nat.le_of_ble_eq_true rfl, Nat.le_of_ble_eq_true rfl⟩) E hA I (k_recv E I (by decide) km_0 rfl) rfl hl.1 rfl (lv_room (Nat.le_of_ble_eq_true rfl)) dX8_doesHold_4 ⟨Nat.le_of_ble_eq_true rfl, Nat.le_of_ble_eq_true rfl⟩ (fun σ_4 H locs hp_4 I => ?_)
  obtain ⟨R, hs_, hr_, hz_⟩ := hp_4
  have hQ : qm σ σ_4 := ⟨R, hs_, hr_⟩
  have hM := mN_qm hM hQ
  have f4 : σ_4 0 12 = nI (if zTaut h (N (23 + 13 * i + 3)) (pD N (N (23 + 13 * i + cxf w))) (N (23 + 13 * i + lkf w)) then 1 else 0) := by rw [hs_]; exact hz_.2.2.2.2
  have f3 : σ_4 0 11 = nI (zLift h (N (23 + 13 * i + 3)) (pD N (N (23 + 13 * i + cxf w))) (N (23 + 13 * i + lkf w))) := by rw [hs_]; exact hz_.2.2.2.1
  refine lv_iload_n hx hb dX8_doesHold_7 rfl (lv_at hl 3 rfl) ?_
  refine lv_aload_n hx hb dX8_doesHold_8 rfl (lv_at hl 0 rfl) ?_
  refine lv_aload_n hx hb dX8_doesHold_9 rfl (lv_at hl 0 rfl) ?_
  refine lv_iload_n hx hb dX8_doesHold_10 rfl (lv_at hl 1 rfl) ?_
  refine lv_bipush (v := nI 6) hx hb dX8_doesHold_11 (by decide) ?_
  refine k_calli (k := 0) (As := [.int (nI i), .int (nI 6)]) (rest := [.ref (ad 0), .int (nI h)]) ⟨hx, hb, hml, hown, hts⟩ (c_X8_of cy D ad l σ_4 i (6) (N (23 + 13 * i + 6)) (by omega) (hM _ (by omega))) (cwV 2 hts gX8_doesHold_X8_of rfl rfl rfl (by decide +kernel) ⟨Nat.le_of_ble_eq_true rfl, Nat.le_of_ble_eq_true rfl⟩) E hA I (k_recv E I (by decide) km_0 rfl) rfl hl.1 rfl (lv_room (Nat.le_of_ble_eq_true rfl)) dX8_doesHold_13 ⟨Nat.le_of_ble_eq_true rfl, Nat.le_of_ble_eq_true rfl⟩ (fun r_13 σ_13 H locs hp_13 I => ?_)
  obtain ⟨rfl, rfl⟩ := hp_13
  refine k_calli (k := 0) (As := [.int (nI (N (23 + 13 * i + 6)))]) (rest := [.int (nI h)]) ⟨hx, hb, hml, hown, hts⟩ (c_X8_holding cy D ad l σ_4 (if zTaut h (N (23 + 13 * i + 3)) (pD N (N (23 + 13 * i + cxf w))) (N (23 + 13 * i + lkf w)) then 1 else 0) (zLift h (N (23 + 13 * i + 3)) (pD N (N (23 + 13 * i + cxf w))) (N (23 + 13 * i + lkf w))) (N (23 + 13 * i + 6)) (by split <;> omega) (zLift_le _ _ _ _) hsh.2.2.1.2.2.2 f4 f3) (cwV 1 hts gX8_doesHold_X8_holding rfl rfl rfl (by decide +kernel) ⟨Nat.le_of_ble_eq_true rfl, Nat.le_of_ble_eq_true rfl⟩) E hA I (k_recv E I (by decide) km_0 rfl) rfl hl.1 rfl (lv_room (Nat.le_of_ble_eq_true rfl)) dX8_doesHold_16 ⟨Nat.le_of_ble_eq_true rfl, Nat.le_of_ble_eq_true rfl⟩ (fun r_16 σ_16 H locs hp_16 I => ?_)
  obtain ⟨rfl, rfl⟩ := hp_16
  rw [show (if (if zTaut h (N (23 + 13 * i + 3)) (pD N (N (23 + 13 * i + cxf w))) (N (23 + 13 * i + lkf w)) then 1 else 0) = 1 then 0 else N (23 + 13 * i + 6) - 3 * zLift h (N (23 + 13 * i + 3)) (pD N (N (23 + 13 * i + cxf w))) (N (23 + 13 * i + lkf w))) = zHold h (N (23 + 13 * i + 3)) (pD N (N (23 + 13 * i + cxf w))) (N (23 + 13 * i + lkf w)) (N (23 + 13 * i + 6)) by unfold zHold; cases zTaut h (N (23 + 13 * i + 3)) (pD N (N (23 + 13 * i + cxf w))) (N (23 + 13 * i + lkf w)) <;> rfl]
  have hz9 : zHold h (N (23 + 13 * i + 3)) (pD N (N (23 + 13 * i + cxf w))) (N (23 + 13 * i + lkf w)) (N (23 + 13 * i + 6)) ≤ 999 := by unfold zHold; split <;> omega
  refine lv_icmp_gt (tgt := 26) hx hb dX8_doesHold_19 (by decide) (fun c_19 => ?_) (fun c_19 => ?_)
  · have c_19 : (zHold h (N (23 + 13 * i + 3)) (pD N (N (23 + 13 * i + cxf w))) (N (23 + 13 * i + lkf w)) (N (23 + 13 * i + 6))) < h := (nI_ltI (by omega) (by omega)).mp c_19
    refine lv_iconst (v := nI 0) hx hb dX8_doesHold_26 (by decide) ?_
    exact k_zret hx hb hr (by decide) hlk I dX8_doesHold_27 (⟨by first | exact kT_1 (by unfold zHolds; simp; omega) | exact kT_0 (by unfold zHolds; simp; omega), hQ⟩)
  · have c_19 : ¬ ((zHold h (N (23 + 13 * i + 3)) (pD N (N (23 + 13 * i + cxf w))) (N (23 + 13 * i + lkf w)) (N (23 + 13 * i + 6))) < h) := fun q_ => c_19 ((nI_ltI (by omega) (by omega)).mpr q_)
    refine lv_iconst (v := nI 1) hx hb dX8_doesHold_22 (by decide) ?_
    refine lv_goto (tgt := 27) hx hb dX8_doesHold_23 (by decide) ?_
    exact k_zret hx hb hr (by decide) hlk I dX8_doesHold_27 (⟨by first | exact kT_1 (by unfold zHolds; simp; omega) | exact kT_0 (by unfold zHolds; simp; omega), hQ⟩)
set_option maxHeartbeats 4000000 in
set_option maxRecDepth 100000 in
theorem c_X8_holds (cy : Nat → ClassId) (D : va_G) (ad : Nat → Nat) (l : Launch) (σ : Nat → Nat → Int32) (N : Nat → Nat) (hN : nOk N) (i : Nat) (hi : i < N 1) (hM : mN σ N) (b : Nat) (hb20 : b ≤ 20) : kMi 6 ad (kcM cy ad) cy D l yX8_holds wsX8_holds ({ frames := 6, cells := 0, slots := 0, locals := 142 }) [.ref (ad 0), .int (nI i), .int (nI b)] σ (fun r σ' => kT r (N (23 + 13 * i + 7) = 0 ∧ pHo N i (N (23 + 13 * i + 2)) b = true) ∧ qm σ σ') := by
  have h5 := hN.1
  have H_i : i < 5 := by omega
  have hsh := hN.2.2 i hi
  unfold nSh at hsh
  have hpp := pP_le (N := N) (i := i) hsh.2.2.1.2.1 hb20
  have hQ := qm_rf σ
  refine k_entry (cc := cX8_holds) (maxL := 5) (ret := (some .boolean)) (by decide) rfl (Nat.le_of_ble_eq_true rfl) ?_
  intro p e s m below meth c hx hb hr hml hown hts hlk E I ls hl
  have hA : ∀ q, s.heap.size ≤ q → kA 6 ad s.heap.size q := fun q h => Or.inr h
  have hown : s.vm.findClass RX8 = some m.cls := hown
  have hl : lv_has ls 5 [(0, .ref (ad 0)), (1, .int (nI i)), (2, .int (nI b))] := hl
  refine lv_aload_n hx hb dX8_holds_0 rfl (lv_at hl 0 rfl) ?_
  refine lv_iload_n hx hb dX8_holds_1 rfl (lv_at hl 1 rfl) ?_
  refine lv_iload_n hx hb dX8_holds_2 rfl (lv_at hl 2 rfl) ?_
  refine k_calli (k := 0) (As := [.int (nI i), .int (nI b)]) (rest := []) ⟨hx, hb, hml, hown, hts⟩ (c_X8_pull cy D ad l σ i b (N (23 + 13 * i + 5)) H_i hsh.2.2.1.2.1 hb20 (hM _ (by omega))) (cwV 2 hts gX8_holds_X8_pull rfl rfl rfl (by decide +kernel) ⟨Nat.le_of_ble_eq_true rfl, Nat.le_of_ble_eq_true rfl⟩) E hA I (k_recv E I (by decide) km_0 rfl) rfl hl.1 rfl (lv_room (Nat.le_of_ble_eq_true rfl)) dX8_holds_3 ⟨Nat.le_of_ble_eq_true rfl, Nat.le_of_ble_eq_true rfl⟩ (fun r_3 σ_3 H locs hp_3 I => ?_)
  obtain ⟨rfl, rfl⟩ := hp_3
  have ep : b * b * N (23 + 13 * i + 5) / 4 = pP N i b := rfl
  rw [ep]
  refine lv_istore_n (lv' := [(3, .int (nI (pP N i b))), (0, .ref (ad 0)), (1, .int (nI i)), (2, .int (nI b))]) hx hb dX8_holds_6 rfl hl (by decide) rfl (fun ls hl => ?_)
  refine lv_aload_n hx hb dX8_holds_7 rfl (lv_at hl 1 rfl) ?_
  refine lv_iload_n hx hb dX8_holds_8 rfl (lv_at hl 2 rfl) ?_
  refine lv_bipush (v := nI 7) hx hb dX8_holds_9 (by decide) ?_
  refine k_calli (k := 0) (As := [.int (nI i), .int (nI 7)]) (rest := []) ⟨hx, hb, hml, hown, hts⟩ (c_X8_of cy D ad l σ i (7) (N (23 + 13 * i + 7)) (by omega) (hM _ (by omega))) (cwV 2 hts gX8_holds_X8_of rfl rfl rfl (by decide +kernel) ⟨Nat.le_of_ble_eq_true rfl, Nat.le_of_ble_eq_true rfl⟩) E hA I (k_recv E I (by decide) km_0 rfl) rfl hl.1 rfl (lv_room (Nat.le_of_ble_eq_true rfl)) dX8_holds_11 ⟨Nat.le_of_ble_eq_true rfl, Nat.le_of_ble_eq_true rfl⟩ (fun r_11 σ_11 H locs hp_11 I => ?_)
  obtain ⟨rfl, rfl⟩ := hp_11
  refine lv_iconst (v := nI 1) hx hb dX8_holds_14 (by decide) ?_
  refine lv_icmp_ne (tgt := 20) hx hb dX8_holds_15 (by decide) (fun c_15 => ?_) (fun c_15 => ?_)
  · have c_15 : ¬ ((N (23 + 13 * i + 7)) = 1) := fun q_ => c_15 ((nI_eq (by omega) (by omega)).mpr q_)
    refine lv_aload_n hx hb dX8_holds_20 rfl (lv_at hl 1 rfl) ?_
    refine lv_iload_n hx hb dX8_holds_21 rfl (lv_at hl 2 rfl) ?_
    refine lv_bipush (v := nI 9) hx hb dX8_holds_22 (by decide) ?_
    refine k_calli (k := 0) (As := [.int (nI i), .int (nI 9)]) (rest := []) ⟨hx, hb, hml, hown, hts⟩ (c_X8_of cy D ad l σ i (9) (N (23 + 13 * i + 9)) (by omega) (hM _ (by omega))) (cwV 2 hts gX8_holds_X8_of rfl rfl rfl (by decide +kernel) ⟨Nat.le_of_ble_eq_true rfl, Nat.le_of_ble_eq_true rfl⟩) E hA I (k_recv E I (by decide) km_0 rfl) rfl hl.1 rfl (lv_room (Nat.le_of_ble_eq_true rfl)) dX8_holds_24 ⟨Nat.le_of_ble_eq_true rfl, Nat.le_of_ble_eq_true rfl⟩ (fun r_24 σ_24 H locs hp_24 I => ?_)
    obtain ⟨rfl, rfl⟩ := hp_24
    refine lv_if_ne (tgt := 38) hx hb dX8_holds_27 (by decide) (fun c_27 => ?_) (fun c_27 => ?_)
    · have c_27 : ¬ ((N (23 + 13 * i + 9)) = 0) := fun q_ => c_27 ((nI_eq (by omega) (by decide)).mpr q_)
      have hm : N (23 + 13 * i + 9) = 1 := by omega
      refine lv_iload_n hx hb dX8_holds_38 rfl (lv_at hl 0 rfl) ?_
      refine lv_iconst (v := nI 1) hx hb dX8_holds_39 (by decide) ?_
      refine lv_iadd hx hb dX8_holds_40 ?_
      rw [nI_add]
      refine lv_iconst (v := nI 2) hx hb dX8_holds_41 (by decide) ?_
      refine lv_idiv hx hb dX8_holds_42 (by decide) ?_
      refine lv_topi (fun t_43 et_43 => ?_)
      have et_43 : t_43 = nI ((pP N i b + 1) / 2) := et_43.trans (pk_div (by omega) (by decide) (by decide))
      subst et_43
      refine lv_istore (lv' := [(4, .int (nI ((pP N i b + 1) / 2))), (3, .int (nI (pP N i b))), (0, .ref (ad 0)), (1, .int (nI i)), (2, .int (nI b))]) hx hb dX8_holds_43 hl (by decide) rfl (fun ls hl => ?_)
      refine lv_aload_n hx hb dX8_holds_45 rfl (lv_at hl 2 rfl) ?_
      refine lv_iload_n hx hb dX8_holds_46 rfl (lv_at hl 3 rfl) ?_
      refine lv_iconst (v := nI 0) hx hb dX8_holds_47 (by decide) ?_
      refine lv_iload hx hb dX8_holds_48 (lv_at hl 0 rfl) ?_
      refine k_calli (k := 0) (As := [.int (nI i), .int (nI 0), .int (nI ((pP N i b + 1) / 2))]) (rest := []) ⟨hx, hb, hml, hown, hts⟩ (c_X8_doesHold cy D ad l σ N hN i hi hM 0 ((pP N i b + 1) / 2) (by decide) (fun z => absurd z (by decide)) (by omega)) (cwV 3 hts gX8_holds_X8_doesHold rfl rfl rfl (by decide +kernel) ⟨Nat.le_of_ble_eq_true rfl, Nat.le_of_ble_eq_true rfl⟩) E hA I (k_recv E I (by decide) km_0 rfl) rfl hl.1 rfl (lv_room (Nat.le_of_ble_eq_true rfl)) dX8_holds_50 ⟨Nat.le_of_ble_eq_true rfl, Nat.le_of_ble_eq_true rfl⟩ (fun r_50 σ_50 H locs hp_50 I => ?_)
      obtain ⟨hk_, hq_⟩ := hp_50
      have hQ := qm_tr hQ hq_
      have hM := mN_qm hM hq_
      have hk_ : kT r_50 (pH1 N i (N (23 + 13 * i + 2)) ((pP N i b + 1) / 2) = true) := hk_
      rcases hk_ with ⟨rfl, g1⟩ | ⟨rfl, g1⟩
      · refine lv_if_eq (tgt := 67) hx hb dX8_holds_53 (by decide) (fun c_53 => ?_) (fun c_53 => ?_)
        · exact absurd c_53 (by decide)
        · refine lv_aload_n hx hb dX8_holds_56 rfl (lv_at hl 2 rfl) ?_
          refine lv_iload_n hx hb dX8_holds_57 rfl (lv_at hl 3 rfl) ?_
          refine lv_iconst (v := nI 1) hx hb dX8_holds_58 (by decide) ?_
          refine lv_iload hx hb dX8_holds_59 (lv_at hl 0 rfl) ?_
          refine k_calli (k := 0) (As := [.int (nI i), .int (nI 1), .int (nI ((pP N i b + 1) / 2))]) (rest := []) ⟨hx, hb, hml, hown, hts⟩ (c_X8_doesHold cy D ad l σ_50 N hN i hi hM 1 ((pP N i b + 1) / 2) (by decide) (fun _ => hm) (by omega)) (cwV 3 hts gX8_holds_X8_doesHold rfl rfl rfl (by decide +kernel) ⟨Nat.le_of_ble_eq_true rfl, Nat.le_of_ble_eq_true rfl⟩) E hA I (k_recv E I (by decide) km_0 rfl) rfl hl.1 rfl (lv_room (Nat.le_of_ble_eq_true rfl)) dX8_holds_61 ⟨Nat.le_of_ble_eq_true rfl, Nat.le_of_ble_eq_true rfl⟩ (fun r_61 σ_61 H locs hp_61 I => ?_)
          obtain ⟨hk_, hq_⟩ := hp_61
          have hQ := qm_tr hQ hq_
          have hM := mN_qm hM hq_
          have hk_ : kT r_61 (pH2 N i ((pP N i b + 1) / 2) = true) := hk_
          rcases hk_ with ⟨rfl, g2⟩ | ⟨rfl, g2⟩
          · refine lv_if_ne (tgt := 87) hx hb dX8_holds_64 (by decide) (fun c_64 => ?_) (fun c_64 => ?_)
            · refine lv_iconst (v := nI 1) hx hb dX8_holds_87 (by decide) ?_
              refine lv_goto (tgt := 92) hx hb dX8_holds_88 (by decide) ?_
              exact k_zret hx hb hr (by decide) hlk I dX8_holds_92 (⟨by unfold pHo; rw [if_neg (by omega)]; have h70 : N (23 + 13 * i + 7) = 0 := (by omega); first | exact kT_1 ⟨h70, by simp_all⟩ | exact kT_0 (fun q => by simp_all), hQ⟩)
            · exact absurd c_64 (by decide)
          · refine lv_if_ne (tgt := 87) hx hb dX8_holds_64 (by decide) (fun c_64 => ?_) (fun c_64 => ?_)
            · exact absurd c_64 (by decide)
            · refine lv_aload_n hx hb dX8_holds_67 rfl (lv_at hl 2 rfl) ?_
              refine lv_iload_n hx hb dX8_holds_68 rfl (lv_at hl 3 rfl) ?_
              refine lv_iconst (v := nI 0) hx hb dX8_holds_69 (by decide) ?_
              refine lv_iload_n hx hb dX8_holds_70 rfl (lv_at hl 1 rfl) ?_
              refine k_calli (k := 0) (As := [.int (nI i), .int (nI 0), .int (nI (pP N i b))]) (rest := []) ⟨hx, hb, hml, hown, hts⟩ (c_X8_doesHold cy D ad l σ_61 N hN i hi hM 0 (pP N i b) (by decide) (fun z => absurd z (by decide)) (by omega)) (cwV 3 hts gX8_holds_X8_doesHold rfl rfl rfl (by decide +kernel) ⟨Nat.le_of_ble_eq_true rfl, Nat.le_of_ble_eq_true rfl⟩) E hA I (k_recv E I (by decide) km_0 rfl) rfl hl.1 rfl (lv_room (Nat.le_of_ble_eq_true rfl)) dX8_holds_71 ⟨Nat.le_of_ble_eq_true rfl, Nat.le_of_ble_eq_true rfl⟩ (fun r_71 σ_71 H locs hp_71 I => ?_)
              obtain ⟨hk_, hq_⟩ := hp_71
              have hQ := qm_tr hQ hq_
              have hM := mN_qm hM hq_
              have hk_ : kT r_71 (pH1 N i (N (23 + 13 * i + 2)) (pP N i b) = true) := hk_
              rcases hk_ with ⟨rfl, g3⟩ | ⟨rfl, g3⟩
              · refine lv_if_ne (tgt := 87) hx hb dX8_holds_74 (by decide) (fun c_74 => ?_) (fun c_74 => ?_)
                · refine lv_iconst (v := nI 1) hx hb dX8_holds_87 (by decide) ?_
                  refine lv_goto (tgt := 92) hx hb dX8_holds_88 (by decide) ?_
                  exact k_zret hx hb hr (by decide) hlk I dX8_holds_92 (⟨by unfold pHo; rw [if_neg (by omega)]; have h70 : N (23 + 13 * i + 7) = 0 := (by omega); first | exact kT_1 ⟨h70, by simp_all⟩ | exact kT_0 (fun q => by simp_all), hQ⟩)
                · exact absurd c_74 (by decide)
              · refine lv_if_ne (tgt := 87) hx hb dX8_holds_74 (by decide) (fun c_74 => ?_) (fun c_74 => ?_)
                · exact absurd c_74 (by decide)
                · refine lv_aload_n hx hb dX8_holds_77 rfl (lv_at hl 2 rfl) ?_
                  refine lv_iload_n hx hb dX8_holds_78 rfl (lv_at hl 3 rfl) ?_
                  refine lv_iconst (v := nI 1) hx hb dX8_holds_79 (by decide) ?_
                  refine lv_iload_n hx hb dX8_holds_80 rfl (lv_at hl 1 rfl) ?_
                  refine k_calli (k := 0) (As := [.int (nI i), .int (nI 1), .int (nI (pP N i b))]) (rest := []) ⟨hx, hb, hml, hown, hts⟩ (c_X8_doesHold cy D ad l σ_71 N hN i hi hM 1 (pP N i b) (by decide) (fun _ => hm) (by omega)) (cwV 3 hts gX8_holds_X8_doesHold rfl rfl rfl (by decide +kernel) ⟨Nat.le_of_ble_eq_true rfl, Nat.le_of_ble_eq_true rfl⟩) E hA I (k_recv E I (by decide) km_0 rfl) rfl hl.1 rfl (lv_room (Nat.le_of_ble_eq_true rfl)) dX8_holds_81 ⟨Nat.le_of_ble_eq_true rfl, Nat.le_of_ble_eq_true rfl⟩ (fun r_81 σ_81 H locs hp_81 I => ?_)
                  obtain ⟨hk_, hq_⟩ := hp_81
                  have hQ := qm_tr hQ hq_
                  have hM := mN_qm hM hq_
                  have hk_ : kT r_81 (pH2 N i (pP N i b) = true) := hk_
                  rcases hk_ with ⟨rfl, g4⟩ | ⟨rfl, g4⟩
                  · refine lv_if_eq (tgt := 91) hx hb dX8_holds_84 (by decide) (fun c_84 => ?_) (fun c_84 => ?_)
                    · exact absurd c_84 (by decide)
                    · refine lv_iconst (v := nI 1) hx hb dX8_holds_87 (by decide) ?_
                      refine lv_goto (tgt := 92) hx hb dX8_holds_88 (by decide) ?_
                      exact k_zret hx hb hr (by decide) hlk I dX8_holds_92 (⟨by unfold pHo; rw [if_neg (by omega)]; have h70 : N (23 + 13 * i + 7) = 0 := (by omega); first | exact kT_1 ⟨h70, by simp_all⟩ | exact kT_0 (fun q => by simp_all), hQ⟩)
                  · refine lv_if_eq (tgt := 91) hx hb dX8_holds_84 (by decide) (fun c_84 => ?_) (fun c_84 => ?_)
                    · refine lv_iconst (v := nI 0) hx hb dX8_holds_91 (by decide) ?_
                      exact k_zret hx hb hr (by decide) hlk I dX8_holds_92 (⟨by unfold pHo; rw [if_neg (by omega)]; have h70 : N (23 + 13 * i + 7) = 0 := (by omega); first | exact kT_1 ⟨h70, by simp_all⟩ | exact kT_0 (fun q => by simp_all), hQ⟩)
                    · exact absurd c_84 (by decide)
      · refine lv_if_eq (tgt := 67) hx hb dX8_holds_53 (by decide) (fun c_53 => ?_) (fun c_53 => ?_)
        · refine lv_aload_n hx hb dX8_holds_67 rfl (lv_at hl 2 rfl) ?_
          refine lv_iload_n hx hb dX8_holds_68 rfl (lv_at hl 3 rfl) ?_
          refine lv_iconst (v := nI 0) hx hb dX8_holds_69 (by decide) ?_
          refine lv_iload_n hx hb dX8_holds_70 rfl (lv_at hl 1 rfl) ?_
          refine k_calli (k := 0) (As := [.int (nI i), .int (nI 0), .int (nI (pP N i b))]) (rest := []) ⟨hx, hb, hml, hown, hts⟩ (c_X8_doesHold cy D ad l σ_50 N hN i hi hM 0 (pP N i b) (by decide) (fun z => absurd z (by decide)) (by omega)) (cwV 3 hts gX8_holds_X8_doesHold rfl rfl rfl (by decide +kernel) ⟨Nat.le_of_ble_eq_true rfl, Nat.le_of_ble_eq_true rfl⟩) E hA I (k_recv E I (by decide) km_0 rfl) rfl hl.1 rfl (lv_room (Nat.le_of_ble_eq_true rfl)) dX8_holds_71 ⟨Nat.le_of_ble_eq_true rfl, Nat.le_of_ble_eq_true rfl⟩ (fun r_71 σ_71 H locs hp_71 I => ?_)
          obtain ⟨hk_, hq_⟩ := hp_71
          have hQ := qm_tr hQ hq_
          have hM := mN_qm hM hq_
          have hk_ : kT r_71 (pH1 N i (N (23 + 13 * i + 2)) (pP N i b) = true) := hk_
          rcases hk_ with ⟨rfl, g3⟩ | ⟨rfl, g3⟩
          · refine lv_if_ne (tgt := 87) hx hb dX8_holds_74 (by decide) (fun c_74 => ?_) (fun c_74 => ?_)
            · refine lv_iconst (v := nI 1) hx hb dX8_holds_87 (by decide) ?_
              refine lv_goto (tgt := 92) hx hb dX8_holds_88 (by decide) ?_
              exact k_zret hx hb hr (by decide) hlk I dX8_holds_92 (⟨by unfold pHo; rw [if_neg (by omega)]; have h70 : N (23 + 13 * i + 7) = 0 := (by omega); first | exact kT_1 ⟨h70, by simp_all⟩ | exact kT_0 (fun q => by simp_all), hQ⟩)
            · exact absurd c_74 (by decide)
          · refine lv_if_ne (tgt := 87) hx hb dX8_holds_74 (by decide) (fun c_74 => ?_) (fun c_74 => ?_)
            · exact absurd c_74 (by decide)
            · refine lv_aload_n hx hb dX8_holds_77 rfl (lv_at hl 2 rfl) ?_
              refine lv_iload_n hx hb dX8_holds_78 rfl (lv_at hl 3 rfl) ?_
              refine lv_iconst (v := nI 1) hx hb dX8_holds_79 (by decide) ?_
              refine lv_iload_n hx hb dX8_holds_80 rfl (lv_at hl 1 rfl) ?_
              refine k_calli (k := 0) (As := [.int (nI i), .int (nI 1), .int (nI (pP N i b))]) (rest := []) ⟨hx, hb, hml, hown, hts⟩ (c_X8_doesHold cy D ad l σ_71 N hN i hi hM 1 (pP N i b) (by decide) (fun _ => hm) (by omega)) (cwV 3 hts gX8_holds_X8_doesHold rfl rfl rfl (by decide +kernel) ⟨Nat.le_of_ble_eq_true rfl, Nat.le_of_ble_eq_true rfl⟩) E hA I (k_recv E I (by decide) km_0 rfl) rfl hl.1 rfl (lv_room (Nat.le_of_ble_eq_true rfl)) dX8_holds_81 ⟨Nat.le_of_ble_eq_true rfl, Nat.le_of_ble_eq_true rfl⟩ (fun r_81 σ_81 H locs hp_81 I => ?_)
              obtain ⟨hk_, hq_⟩ := hp_81
              have hQ := qm_tr hQ hq_
              have hM := mN_qm hM hq_
              have hk_ : kT r_81 (pH2 N i (pP N i b) = true) := hk_
              rcases hk_ with ⟨rfl, g4⟩ | ⟨rfl, g4⟩
              · refine lv_if_eq (tgt := 91) hx hb dX8_holds_84 (by decide) (fun c_84 => ?_) (fun c_84 => ?_)
                · exact absurd c_84 (by decide)
                · refine lv_iconst (v := nI 1) hx hb dX8_holds_87 (by decide) ?_
                  refine lv_goto (tgt := 92) hx hb dX8_holds_88 (by decide) ?_
                  exact k_zret hx hb hr (by decide) hlk I dX8_holds_92 (⟨by unfold pHo; rw [if_neg (by omega)]; have h70 : N (23 + 13 * i + 7) = 0 := (by omega); first | exact kT_1 ⟨h70, by simp_all⟩ | exact kT_0 (fun q => by simp_all), hQ⟩)
              · refine lv_if_eq (tgt := 91) hx hb dX8_holds_84 (by decide) (fun c_84 => ?_) (fun c_84 => ?_)
                · refine lv_iconst (v := nI 0) hx hb dX8_holds_91 (by decide) ?_
                  exact k_zret hx hb hr (by decide) hlk I dX8_holds_92 (⟨by unfold pHo; rw [if_neg (by omega)]; have h70 : N (23 + 13 * i + 7) = 0 := (by omega); first | exact kT_1 ⟨h70, by simp_all⟩ | exact kT_0 (fun q => by simp_all), hQ⟩)
                · exact absurd c_84 (by decide)
        · exact absurd c_53 (by decide)
    · have c_27 : (N (23 + 13 * i + 9)) = 0 := (nI_eq (by omega) (by decide)).mp c_27
      have hm0 : N (23 + 13 * i + 9) = 0 := by omega
      refine lv_aload_n hx hb dX8_holds_30 rfl (lv_at hl 1 rfl) ?_
      refine lv_iload_n hx hb dX8_holds_31 rfl (lv_at hl 2 rfl) ?_
      refine lv_iconst (v := nI 0) hx hb dX8_holds_32 (by decide) ?_
      refine lv_iload_n hx hb dX8_holds_33 rfl (lv_at hl 0 rfl) ?_
      refine k_calli (k := 0) (As := [.int (nI i), .int (nI 0), .int (nI (pP N i b))]) (rest := []) ⟨hx, hb, hml, hown, hts⟩ (c_X8_doesHold cy D ad l σ N hN i hi hM 0 (pP N i b) (by decide) (fun z => absurd z (by decide)) (by omega)) (cwV 3 hts gX8_holds_X8_doesHold rfl rfl rfl (by decide +kernel) ⟨Nat.le_of_ble_eq_true rfl, Nat.le_of_ble_eq_true rfl⟩) E hA I (k_recv E I (by decide) km_0 rfl) rfl hl.1 rfl (lv_room (Nat.le_of_ble_eq_true rfl)) dX8_holds_34 ⟨Nat.le_of_ble_eq_true rfl, Nat.le_of_ble_eq_true rfl⟩ (fun r_34 σ_34 H locs hp_34 I => ?_)
      obtain ⟨hk_, hq_⟩ := hp_34
      have hQ := qm_tr hQ hq_
      have hM := mN_qm hM hq_
      have hk_ : kT r_34 (pH1 N i (N (23 + 13 * i + 2)) (pP N i b) = true) := hk_
      rcases hk_ with ⟨rfl, g1⟩ | ⟨rfl, g1⟩
      · exact k_zret hx hb hr (by decide) hlk I dX8_holds_37 (⟨by unfold pHo; rw [if_pos hm0]; first | exact kT_1 ⟨by omega, g1⟩ | exact kT_0 (fun q => g1 q.2), hQ⟩)
      · exact k_zret hx hb hr (by decide) hlk I dX8_holds_37 (⟨by unfold pHo; rw [if_pos hm0]; first | exact kT_1 ⟨by omega, g1⟩ | exact kT_0 (fun q => g1 q.2), hQ⟩)
  · have c_15 : (N (23 + 13 * i + 7)) = 1 := (nI_eq (by omega) (by omega)).mp c_15
    refine lv_iconst (v := nI 0) hx hb dX8_holds_18 (by decide) ?_
    exact k_zret hx hb hr (by decide) hlk I dX8_holds_19 (⟨kT_0 (fun q => by omega), hQ⟩)
set_option maxHeartbeats 4000000 in
set_option maxRecDepth 100000 in
theorem c_X8_swing (cy : Nat → ClassId) (D : va_G) (ad : Nat → Nat) (l : Launch) (σ : Nat → Nat → Int32) (N : Nat → Nat) (hN : nOk N) (i : Nat) (hi : i < N 1) (hM : mN σ N) (b : Nat) (hb20 : b ≤ 20) : kMi 6 ad (kcM cy ad) cy D l yX8_swing wsX8_swing ({ frames := 5, cells := 0, slots := 0, locals := 119 }) [.ref (ad 0), .int (nI i), .int (nI b)] σ (fun r σ' => r = nI (pS N b i) ∧ qm σ σ') := by
  have h5 := hN.1
  have H_i : i < 5 := by omega
  have hsh := hN.2.2 i hi
  unfold nSh at hsh
  have hpp := pP_le (N := N) (i := i) hsh.2.2.1.2.1 hb20
  refine k_entry (cc := cX8_swing) (maxL := 3) (ret := (some .int)) (by decide) rfl (Nat.le_of_ble_eq_true rfl) ?_
  intro p e s m below meth c hx hb hr hml hown hts hlk E I ls hl
  have hA : ∀ q, s.heap.size ≤ q → kA 6 ad s.heap.size q := fun q h => Or.inr h
  have hown : s.vm.findClass RX8 = some m.cls := hown
  have hl : lv_has ls 3 [(0, .ref (ad 0)), (1, .int (nI i)), (2, .int (nI b))] := hl
  have iX8 : ∀ w ∈ u_ws RX8 TX8 13, w ∈ wsX8_swing := fun w h => List.mem_cons_of_mem _ (List.mem_append_right _ h)
  refine lv_aload_n hx hb dX8_swing_0 rfl (lv_at hl 0 rfl) ?_
  refine lv_iload_n hx hb dX8_swing_1 rfl (lv_at hl 1 rfl) ?_
  refine lv_iconst (v := nI 0) hx hb dX8_swing_2 (by decide) ?_
  refine lv_aload_n hx hb dX8_swing_3 rfl (lv_at hl 0 rfl) ?_
  refine lv_iload_n hx hb dX8_swing_4 rfl (lv_at hl 1 rfl) ?_
  refine lv_iload_n hx hb dX8_swing_5 rfl (lv_at hl 2 rfl) ?_
  refine k_calli (k := 0) (As := [.int (nI i), .int (nI b)]) (rest := [.int (nI 0), .int (nI i), .ref (ad 0)]) ⟨hx, hb, hml, hown, hts⟩ (c_X8_pull cy D ad l σ i b (N (23 + 13 * i + 5)) H_i hsh.2.2.1.2.1 hb20 (hM _ (by omega))) (cwV 2 hts gX8_swing_X8_pull rfl rfl rfl (by decide +kernel) ⟨Nat.le_of_ble_eq_true rfl, Nat.le_of_ble_eq_true rfl⟩) E hA I (k_recv E I (by decide) km_0 rfl) rfl hl.1 rfl (lv_room (Nat.le_of_ble_eq_true rfl)) dX8_swing_6 ⟨Nat.le_of_ble_eq_true rfl, Nat.le_of_ble_eq_true rfl⟩ (fun r_6 σ_6 H locs hp_6 I => ?_)
  obtain ⟨rfl, rfl⟩ := hp_6
  have ep : b * b * N (23 + 13 * i + 5) / 4 = pP N i b := rfl
  rw [ep]
  refine k_callv (k := 0) (As := [.int (nI i), .int (nI 0), .int (nI (pP N i b))]) (rest := []) ⟨hx, hb, hml, hown, hts⟩ (c_X8_chainOf cy D ad l σ N hN i hi hM 0 (pP N i b) (by decide) (fun z => absurd z (by decide)) (by omega)) (cwV 3 hts gX8_swing_X8_chainOf rfl rfl rfl (by decide +kernel) ⟨Nat.le_of_ble_eq_true rfl, Nat.le_of_ble_eq_true rfl⟩) E hA I (k_recv E I (by decide) km_0 rfl) rfl hl.1 rfl (lv_room (Nat.le_of_ble_eq_true rfl)) dX8_swing_9 ⟨Nat.le_of_ble_eq_true rfl, Nat.le_of_ble_eq_true rfl⟩ (fun σ_9 H locs hp_9 I => ?_)
  obtain ⟨R, hs_, hr_, hz_⟩ := hp_9
  have hQ : qm σ σ_9 := ⟨R, hs_, hr_⟩
  have hM := mN_qm hM hQ
  have f2 : σ_9 0 10 = nI (zReach (pP N i b) (N (23 + 13 * i + 3)) (pD N (N (23 + 13 * i))) (N (23 + 13 * i + 2))) := by rw [hs_]; exact hz_.2.2.1
  refine lv_aload_n hx hb dX8_swing_12 rfl (lv_at hl 0 rfl) ?_
  refine k_get (C := RX8) (T := TX8) (N := 13) (v := .int (nI (zReach (pP N i b) (N (23 + 13 * i + 3)) (pD N (N (23 + 13 * i))) (N (23 + 13 * i + 2))))) hx hb hts hown E I iX8 (0) (by decide) (r0 := σ_9 0) rfl km_0 rfl 10 (by decide) (List.mem_of_getElem? (i := 1) rfl) (congrArg (fun z => some (Value.int z)) f2) dX8_swing_13 ?_
  refine lv_bipush (v := nI 10) hx hb dX8_swing_16 (by decide) ?_
  refine lv_aload_n hx hb dX8_swing_18 rfl (lv_at hl 0 rfl) ?_
  refine lv_iload_n hx hb dX8_swing_19 rfl (lv_at hl 1 rfl) ?_
  refine lv_iconst (v := nI 4) hx hb dX8_swing_20 (by decide) ?_
  refine k_calli (k := 0) (As := [.int (nI i), .int (nI 4)]) (rest := [.int (nI 10), .int (nI (zReach (pP N i b) (N (23 + 13 * i + 3)) (pD N (N (23 + 13 * i))) (N (23 + 13 * i + 2))))]) ⟨hx, hb, hml, hown, hts⟩ (c_X8_of cy D ad l σ_9 i (4) (N (23 + 13 * i + 4)) (by omega) (hM _ (by omega))) (cwV 2 hts gX8_swing_X8_of rfl rfl rfl (by decide +kernel) ⟨Nat.le_of_ble_eq_true rfl, Nat.le_of_ble_eq_true rfl⟩) E hA I (k_recv E I (by decide) km_0 rfl) rfl hl.1 rfl (lv_room (Nat.le_of_ble_eq_true rfl)) dX8_swing_21 ⟨Nat.le_of_ble_eq_true rfl, Nat.le_of_ble_eq_true rfl⟩ (fun r_21 σ_21 H locs hp_21 I => ?_)
  obtain ⟨rfl, rfl⟩ := hp_21
  refine lv_imul hx hb dX8_swing_24 ?_
  rw [pk_mul]
  refine lv_iadd hx hb dX8_swing_25 ?_
  rw [nI_add]
  exact k_iret hx hb hr hlk I dX8_swing_26 (⟨rfl, hQ⟩)
set_option maxHeartbeats 4000000 in
set_option maxRecDepth 100000 in
theorem c_X8_isShip (cy : Nat → ClassId) (D : va_G) (ad : Nat → Nat) (l : Launch) (σ : Nat → Nat → Int32) (x : Int32) (N : Nat → Nat) (hN : nOk N) (hM : mN σ N) : kMi 6 ad (kcM cy ad) cy D l yX8_isShip wsX8_isShip ({ frames := 1, cells := 0, slots := 0, locals := 22 }) [.ref (ad 0), .int x] σ (fun r σ' => kT r (okS N x) ∧ σ = σ') := by
  have h5 := hN.1
  refine k_entry (cc := cX8_isShip) (maxL := 2) (ret := (some .boolean)) (by decide) rfl (Nat.le_of_ble_eq_true rfl) ?_
  intro p e s m below meth c hx hb hr hml hown hts hlk E I ls hl
  have hA : ∀ q, s.heap.size ≤ q → kA 6 ad s.heap.size q := fun q h => Or.inr h
  have hown : s.vm.findClass RX8 = some m.cls := hown
  have hl : lv_has ls 2 [(0, .ref (ad 0)), (1, .int x)] := hl
  have iX8 : ∀ w ∈ u_ws RX8 TX8 13, w ∈ wsX8_isShip := fun w h => List.mem_cons_of_mem _ (List.mem_append_right _ h)
  refine lv_iload_n hx hb dX8_isShip_0 rfl (lv_at hl 1 rfl) ?_
  refine lv_iconst (v := nI 0) hx hb dX8_isShip_1 (by decide) ?_
  refine lv_aload_n hx hb dX8_isShip_2 rfl (lv_at hl 0 rfl) ?_
  refine k_get (C := RX8) (T := TX8) (N := 13) (v := .ref (ad 1)) hx hb hts hown E I iX8 (0) (by decide) (r0 := σ 0) rfl km_0 rfl 0 (by decide) (List.mem_of_getElem? (i := 1) rfl) rfl dX8_isShip_3 ?_
  refine lv_iconst (v := nI 1) hx hb dX8_isShip_6 (by decide) ?_
  refine k_iald hx hb E I (1) (by decide) (r0 := σ 1) rfl km_1 (vp_in_nI (by omega) (by decide)) dX8_isShip_7 ?_
  rw [nI_clamp (by omega)]
  rw [hM 1 (by decide)]
  refine lv_iconst (v := nI 1) hx hb dX8_isShip_8 (by decide) ?_
  refine lv_isub hx hb dX8_isShip_9 ?_
  refine lv_topi (fun t_10 et_10 => ?_)
  have et_10 : t_10 = nI (N 1 - 1) := et_10.trans (pk_sub (by omega))
  subst et_10
  refine k_calls (As := [.int x, .int (nI 0), .int (nI (N 1 - 1))]) (rest := []) ⟨hx, hb, hml, hown, hts⟩ (c_X8_in l x (nI 0) (nI (N 1 - 1))) (va_cwS 3 hts gX8_isShip_X8_in rfl rfl rfl (by decide +kernel) ⟨Nat.le_of_ble_eq_true rfl, Nat.le_of_ble_eq_true rfl⟩) rfl hl.1 rfl (lv_room (Nat.le_of_ble_eq_true rfl)) dX8_isShip_10 ⟨Nat.le_of_ble_eq_true rfl, Nat.le_of_ble_eq_true rfl⟩ (fun r_10 hp_10 => ?_)
  rw [nI_toInt (show 0 < 2 ^ 31 by decide), nI_toInt (show N 1 - 1 < 2 ^ 31 by omega)] at hp_10
  rcases hp_10 with ⟨rfl, g1⟩ | ⟨rfl, g1⟩
  · exact k_zret hx hb hr (by decide) hlk I dX8_isShip_13 (⟨by first | exact kT_1 (by omega) | exact kT_0 (by omega), rfl⟩)
  · exact k_zret hx hb hr (by decide) hlk I dX8_isShip_13 (⟨by first | exact kT_1 (by omega) | exact kT_0 (by omega), rfl⟩)
set_option maxHeartbeats 4000000 in
set_option maxRecDepth 100000 in
theorem c_X8_isColumn (cy : Nat → ClassId) (D : va_G) (ad : Nat → Nat) (l : Launch) (σ : Nat → Nat → Int32) (x : Int32) (N : Nat → Nat) (hN : nOk N) (hM : mN σ N) : kMi 6 ad (kcM cy ad) cy D l yX8_isColumn wsX8_isColumn ({ frames := 1, cells := 0, slots := 0, locals := 22 }) [.ref (ad 0), .int x] σ (fun r σ' => kT r (0 ≤ x.toInt ∧ x.toInt < (N 0 : Int)) ∧ σ = σ') := by
  have h5 := hN.1
  refine k_entry (cc := cX8_isColumn) (maxL := 2) (ret := (some .boolean)) (by decide) rfl (Nat.le_of_ble_eq_true rfl) ?_
  intro p e s m below meth c hx hb hr hml hown hts hlk E I ls hl
  have hA : ∀ q, s.heap.size ≤ q → kA 6 ad s.heap.size q := fun q h => Or.inr h
  have hown : s.vm.findClass RX8 = some m.cls := hown
  have hl : lv_has ls 2 [(0, .ref (ad 0)), (1, .int x)] := hl
  have iX8 : ∀ w ∈ u_ws RX8 TX8 13, w ∈ wsX8_isColumn := fun w h => List.mem_cons_of_mem _ (List.mem_append_right _ h)
  refine lv_iload_n hx hb dX8_isColumn_0 rfl (lv_at hl 1 rfl) ?_
  refine lv_iconst (v := nI 0) hx hb dX8_isColumn_1 (by decide) ?_
  refine lv_aload_n hx hb dX8_isColumn_2 rfl (lv_at hl 0 rfl) ?_
  refine k_get (C := RX8) (T := TX8) (N := 13) (v := .ref (ad 1)) hx hb hts hown E I iX8 (0) (by decide) (r0 := σ 0) rfl km_0 rfl 0 (by decide) (List.mem_of_getElem? (i := 1) rfl) rfl dX8_isColumn_3 ?_
  refine lv_iconst (v := nI 0) hx hb dX8_isColumn_6 (by decide) ?_
  refine k_iald hx hb E I (1) (by decide) (r0 := σ 1) rfl km_1 (vp_in_nI (by omega) (by decide)) dX8_isColumn_7 ?_
  rw [nI_clamp (by omega)]
  rw [hM 0 (by decide)]
  refine lv_iconst (v := nI 1) hx hb dX8_isColumn_8 (by decide) ?_
  refine lv_isub hx hb dX8_isColumn_9 ?_
  refine lv_topi (fun t_10 et_10 => ?_)
  have et_10 : t_10 = nI (N 0 - 1) := et_10.trans (pk_sub (by omega))
  subst et_10
  refine k_calls (As := [.int x, .int (nI 0), .int (nI (N 0 - 1))]) (rest := []) ⟨hx, hb, hml, hown, hts⟩ (c_X8_in l x (nI 0) (nI (N 0 - 1))) (va_cwS 3 hts gX8_isColumn_X8_in rfl rfl rfl (by decide +kernel) ⟨Nat.le_of_ble_eq_true rfl, Nat.le_of_ble_eq_true rfl⟩) rfl hl.1 rfl (lv_room (Nat.le_of_ble_eq_true rfl)) dX8_isColumn_10 ⟨Nat.le_of_ble_eq_true rfl, Nat.le_of_ble_eq_true rfl⟩ (fun r_10 hp_10 => ?_)
  rw [nI_toInt (show 0 < 2 ^ 31 by decide), nI_toInt (show N 0 - 1 < 2 ^ 31 by omega)] at hp_10
  rcases hp_10 with ⟨rfl, g1⟩ | ⟨rfl, g1⟩
  · exact k_zret hx hb hr (by decide) hlk I dX8_isColumn_13 (⟨by first | exact kT_1 (by omega) | exact kT_0 (by omega), rfl⟩)
  · exact k_zret hx hb hr (by decide) hlk I dX8_isColumn_13 (⟨by first | exact kT_1 (by omega) | exact kT_0 (by omega), rfl⟩)
set_option maxHeartbeats 4000000 in
set_option maxRecDepth 100000 in
theorem c_X8_isField (cy : Nat → ClassId) (D : va_G) (ad : Nat → Nat) (l : Launch) (σ : Nat → Nat → Int32) (x y : Int32) (N : Nat → Nat) (hN : nOk N) (hM : mN σ N) : kMi 6 ad (kcM cy ad) cy D l yX8_isField wsX8_isField ({ frames := 2, cells := 0, slots := 0, locals := 43 }) [.ref (ad 0), .int x, .int y] σ (fun r σ' => kT r (0 ≤ x.toInt ∧ x.toInt < (N 0 : Int) ∧ 0 ≤ y.toInt ∧ y.toInt < 20) ∧ σ = σ') := by
  have h5 := hN.1
  refine k_entry (cc := cX8_isField) (maxL := 3) (ret := (some .boolean)) (by decide) rfl (Nat.le_of_ble_eq_true rfl) ?_
  intro p e s m below meth c hx hb hr hml hown hts hlk E I ls hl
  have hA : ∀ q, s.heap.size ≤ q → kA 6 ad s.heap.size q := fun q h => Or.inr h
  have hown : s.vm.findClass RX8 = some m.cls := hown
  have hl : lv_has ls 3 [(0, .ref (ad 0)), (1, .int x), (2, .int y)] := hl
  refine lv_aload_n hx hb dX8_isField_0 rfl (lv_at hl 0 rfl) ?_
  refine lv_iload_n hx hb dX8_isField_1 rfl (lv_at hl 1 rfl) ?_
  refine k_calli (k := 0) (As := [.int x]) (rest := []) ⟨hx, hb, hml, hown, hts⟩ (c_X8_isColumn cy D ad l σ x N hN hM) (cwV 1 hts gX8_isField_X8_isColumn rfl rfl rfl (by decide +kernel) ⟨Nat.le_of_ble_eq_true rfl, Nat.le_of_ble_eq_true rfl⟩) E hA I (k_recv E I (by decide) km_0 rfl) rfl hl.1 rfl (lv_room (Nat.le_of_ble_eq_true rfl)) dX8_isField_2 ⟨Nat.le_of_ble_eq_true rfl, Nat.le_of_ble_eq_true rfl⟩ (fun r_2 σ_2 H locs hp_2 I => ?_)
  obtain ⟨hk_, rfl⟩ := hp_2
  rcases hk_ with ⟨rfl, g1⟩ | ⟨rfl, g1⟩
  · refine lv_if_eq (tgt := 22) hx hb dX8_isField_5 (by decide) (fun c_5 => ?_) (fun c_5 => ?_)
    · exact absurd c_5 (by decide)
    · refine lv_iload_n hx hb dX8_isField_8 rfl (lv_at hl 2 rfl) ?_
      refine lv_iconst (v := nI 0) hx hb dX8_isField_9 (by decide) ?_
      refine lv_bipush (v := nI 19) hx hb dX8_isField_10 (by decide) ?_
      refine k_calls (As := [.int y, .int (nI 0), .int (nI 19)]) (rest := []) ⟨hx, hb, hml, hown, hts⟩ (c_X8_in l y (nI 0) (nI 19)) (va_cwS 3 hts gX8_isField_X8_in rfl rfl rfl (by decide +kernel) ⟨Nat.le_of_ble_eq_true rfl, Nat.le_of_ble_eq_true rfl⟩) rfl hl.1 rfl (lv_room (Nat.le_of_ble_eq_true rfl)) dX8_isField_12 ⟨Nat.le_of_ble_eq_true rfl, Nat.le_of_ble_eq_true rfl⟩ (fun r_12 hp_12 => ?_)
      rw [nI_toInt (show 0 < 2 ^ 31 by decide), nI_toInt (show 19 < 2 ^ 31 by decide)] at hp_12
      rcases hp_12 with ⟨rfl, g2⟩ | ⟨rfl, g2⟩
      · refine lv_if_eq (tgt := 22) hx hb dX8_isField_15 (by decide) (fun c_15 => ?_) (fun c_15 => ?_)
        · exact absurd c_15 (by decide)
        · refine lv_iconst (v := nI 1) hx hb dX8_isField_18 (by decide) ?_
          refine lv_goto (tgt := 23) hx hb dX8_isField_19 (by decide) ?_
          exact k_zret hx hb hr (by decide) hlk I dX8_isField_23 (⟨by first | exact kT_1 (by omega) | exact kT_0 (by omega), rfl⟩)
      · refine lv_if_eq (tgt := 22) hx hb dX8_isField_15 (by decide) (fun c_15 => ?_) (fun c_15 => ?_)
        · refine lv_iconst (v := nI 0) hx hb dX8_isField_22 (by decide) ?_
          exact k_zret hx hb hr (by decide) hlk I dX8_isField_23 (⟨by first | exact kT_1 (by omega) | exact kT_0 (by omega), rfl⟩)
        · exact absurd c_15 (by decide)
  · refine lv_if_eq (tgt := 22) hx hb dX8_isField_5 (by decide) (fun c_5 => ?_) (fun c_5 => ?_)
    · refine lv_iconst (v := nI 0) hx hb dX8_isField_22 (by decide) ?_
      exact k_zret hx hb hr (by decide) hlk I dX8_isField_23 (⟨by first | exact kT_1 (by omega) | exact kT_0 (by omega), rfl⟩)
    · exact absurd c_5 (by decide)

/-! LAID -/
section KCOPY
variable {p : Program} {l : Launch} {e : Env} {R : Room} {s : State} {m : MethodId} {args : Array Value} {below : List Frame} {meth : Method} {c : Code} {H : Heap} {locs : List Loc} {cells slots : Nat} {Q : State → Prop}
variable {cc : ByteArray} {pc : Nat} {ls : Array Slot} {rest : List Value} {n : Nat} {ad : Nat → Nat} {kc : Nat → (Nat → Int32) → va_E} {cy : Nat → ClassId} {D : va_G} {A : Nat → Prop} {σ : Nat → Nat → Int32} {H0 : Heap}
theorem k_copyi (hx : p.tables.exec = Jvm.exec) (hb : c.code = cc) (hml : c.maxLocals = ls.size) {own : String} {index : Nat} (hown : s.vm.findClass own = some m.cls) (hlink : (Cond.methodLink own index arraycopyName).before args s = true) (hnat : (Cond.native arraycopyName).before args s = true) (hstat : (Cond.static arraycopyName).before args s = true) (hini : (Cond.initialized "java/lang/System").before args s = true)
    (E : kE cy D A s s.heap) (I : kI n ad kc D A H0 σ H locs) (k0 k1 : Nat) (hk0 : k0 < n) (hk1 : k1 < n) {n0 n1 : Nat} {f g : Nat → Int32} (hf : σ k0 = f) (hg : σ k1 = g) (hc0 : kc k0 f = .inl (cy 1, n0, .inl f)) (hc1 : ∀ r, kc k1 r = .inl (cy 1, n1, .inl r)) {z : Nat} (hz : z < 2 ^ 31) (h4 : z ≤ n0) (h5 : z ≤ n1)
    (hframes : 1 ≤ R.frames) (hlocals : (rest.map fun v => v.category).sum + (nativeFrameWords "java/lang/System" "arraycopy" 5 + 11) ≤ R.locals) {σ2 : Nat → Nat → Int32} (hσ : va_up σ k1 (va_cpy f g 0 0 z) = σ2) (hdg : decode cc pc = .ok (.invokestatic index, 3))
    (kk : ∀ (H1 : Heap) (locs1 : List Loc), kI n ad kc D A H0 σ2 H1 locs1 → W p l e R s m args below meth c H1 locs1 cells slots Q (F0 m (pc + 3) ls rest)) : W p l e R s m args below meth c H locs cells slots Q (F0 m pc ls (.int (nI z) :: .int (nI 0) :: .ref (ad k1) :: .int (nI 0) :: .ref (ad k0) :: rest)) := by
  have e0 : (nI 0).toNatClampNeg = 0 := nI_clamp (by decide)
  have ez : (nI z).toNatClampNeg = z := nI_clamp hz
  refine va_copyi (ty := .int) hx hb hml hown hlink hnat hstat hini E.1 I.1 I.2.1 I.2.2 k0 k1 1 1 (n0 := n0) (n1 := n1) (f := f) (g := g) (by rw [kW_at hk0, hf, hc0]) (by rw [kW_at hk1, hg, hc1]) rfl rfl rfl (nI_pos (by decide)) (nI_pos (by decide)) (nI_pos hz) (by rw [e0, ez]; omega) (by rw [e0, ez]; omega) (fun _ _ => rfl) hframes hlocals hdg (fun H1 locs1 a1 a2 a3 => ?_)
  rw [e0, ez] at a1 a2
  exact kk H1 locs1 (hσ ▸ kI_put _ hk1 (hc1 _).symm a1 a2 a3)
end KCOPY
set_option maxHeartbeats 4000000 in
set_option maxRecDepth 100000 in
theorem c_X6_layOut (cy : Nat → ClassId) (D : va_G) (ad : Nat → Nat) (l : Launch) (σ : Nat → Nat → Int32) (i : Nat) (H_i : i < 5) : kMv 38 ad (kcC cy ad) cy D l yX6_layOut wsX6_layOut ({ frames := 1, cells := 0, slots := 0, locals := 23 }) [.ref (ad (15 + 3 * i)), .ref (ad (6 + i))] σ (fun σ' => (∀ k, k ≠ 15 + 3 * i → k ≠ 16 + 3 * i → σ' k = σ k) ∧ (σ' (16 + 3 * i) 0 = σ (6 + i) 0 ∧ σ' (16 + 3 * i) 1 = σ (6 + i) 1 ∧ σ' (16 + 3 * i) 2 = σ (6 + i) 2) ∧ (σ' (15 + 3 * i) 5 = σ (6 + i) 3 ∧ σ' (15 + 3 * i) 6 = σ (6 + i) 4 ∧ σ' (15 + 3 * i) 7 = σ (6 + i) 5 ∧ σ' (15 + 3 * i) 8 = σ (6 + i) 6) ∧ (σ' (15 + 3 * i) 2 = nI 0 ∧ σ' (15 + 3 * i) 3 = nI 0 ∧ σ' (15 + 3 * i) 4 = nI 0)) := by
  refine k_entry (cc := cX6_layOut) (maxL := 2) (ret := none) (by decide) rfl (Nat.le_of_ble_eq_true rfl) ?_
  intro p e s m below meth c hx hb hr hml hown hts hlk E I ls hl
  have hA : ∀ q, s.heap.size ≤ q → kA 38 ad s.heap.size q := fun q h => Or.inr h
  have hown : s.vm.findClass RX6 = some m.cls := hown
  have hl : lv_has ls 2 [(0, .ref (ad (15 + 3 * i))), (1, .ref (ad (6 + i)))] := hl
  have iX6 : ∀ w ∈ u_ws RX6 TX6 10, w ∈ wsX6_layOut := fun w h => List.mem_cons_of_mem _ (List.mem_append_left _ (List.mem_append_right _ h))
  refine lv_aload_n hx hb dX6_layOut_0 rfl (lv_at hl 1 rfl) ?_
  refine k_alen (t0 := 1) hx hb E I (6 + i) (by omega) (kc_R H_i) rfl dX6_layOut_1 ?_
  refine lv_bipush (v := nI 7) hx hb dX6_layOut_2 (by decide) ?_
  refine lv_icmp_ge (tgt := 8) hx hb dX6_layOut_4 (by decide) (fun c_4 => ?_) (fun c_4 => ?_)
  · refine lv_aload_n hx hb dX6_layOut_8 rfl (lv_at hl 0 rfl) ?_
    refine k_get (C := RX6) (T := TX6) (N := 10) (v := .ref (ad (16 + 3 * i))) hx hb hts hown E I iX6 (15 + 3 * i) (by omega) (r0 := σ (15 + 3 * i)) rfl (kc_S H_i) rfl 0 (by decide) (List.mem_of_getElem? (i := 1) rfl) rfl dX6_layOut_9 ?_
    refine lv_aload_n hx hb dX6_layOut_12 rfl (lv_at hl 1 rfl) ?_
    refine lv_iconst (v := nI 0) hx hb dX6_layOut_13 (by decide) ?_
    refine k_iald hx hb E I (6 + i) (by omega) (r0 := σ (6 + i)) rfl (kc_R H_i) (vp_in_nI (by omega) (by decide)) dX6_layOut_14 ?_
    rw [nI_clamp (by omega)]
    refine lv_aload_n hx hb dX6_layOut_15 rfl (lv_at hl 1 rfl) ?_
    refine lv_iconst (v := nI 1) hx hb dX6_layOut_16 (by decide) ?_
    refine k_iald hx hb E I (6 + i) (by omega) (r0 := σ (6 + i)) rfl (kc_R H_i) (vp_in_nI (by omega) (by decide)) dX6_layOut_17 ?_
    rw [nI_clamp (by omega)]
    refine lv_aload_n hx hb dX6_layOut_18 rfl (lv_at hl 1 rfl) ?_
    refine lv_iconst (v := nI 2) hx hb dX6_layOut_19 (by decide) ?_
    refine k_iald hx hb E I (6 + i) (by omega) (r0 := σ (6 + i)) rfl (kc_R H_i) (vp_in_nI (by omega) (by decide)) dX6_layOut_20 ?_
    rw [nI_clamp (by omega)]
    refine k_callv (k := 16 + 3 * i) (As := [.int (σ (6 + i) 0), .int (σ (6 + i) 1), .int (σ (6 + i) 2)]) (rest := []) ⟨hx, hb, hml, hown, hts⟩ (c_X0_put cy D ad l σ i H_i ((σ (6 + i) 0)) ((σ (6 + i) 1)) ((σ (6 + i) 2))) (cwV 3 hts gX6_layOut_X0_put rfl rfl rfl (by decide +kernel) ⟨Nat.le_of_ble_eq_true rfl, Nat.le_of_ble_eq_true rfl⟩) E hA I (k_recv E I (by omega) (kc_F H_i) rfl) rfl hl.1 rfl (lv_room (Nat.le_of_ble_eq_true rfl)) dX6_layOut_21 ⟨Nat.le_of_ble_eq_true rfl, Nat.le_of_ble_eq_true rfl⟩ (fun σ_21 H locs hp_21 I => ?_)
    subst hp_21
    refine lv_aload_n hx hb dX6_layOut_24 rfl (lv_at hl 0 rfl) ?_
    refine lv_aload_n hx hb dX6_layOut_25 rfl (lv_at hl 1 rfl) ?_
    refine lv_iconst (v := nI 3) hx hb dX6_layOut_26 (by decide) ?_
    refine k_iald hx hb E I (6 + i) (by omega) (r0 := σ (6 + i)) (by rw [va_up_ne _ _ (by omega)]) (kc_R H_i) (vp_in_nI (by omega) (by decide)) dX6_layOut_27 ?_
    rw [nI_clamp (by omega)]
    refine k_put (C := RX6) (T := TX6) (N := 10) (ty0 := tyX6) (ty := .int) (v := .int (σ (6 + i) 3)) hx hb hts hown E I iX6 tyX6_ok nmX6 (15 + 3 * i) (by omega) (r0 := σ (15 + 3 * i)) (by rw [va_up_ne _ _ (by omega)]) (kc_S H_i) rfl 5 (by decide) (List.mem_of_getElem? (i := 2) rfl) rfl rfl rfl rfl (Nat.le_of_ble_eq_true rfl) (upd (σ (15 + 3 * i)) 5 (σ (6 + i) 3)) (kc_S (cy := cy) (ad := ad) (r := (upd (σ (15 + 3 * i)) 5 (σ (6 + i) 3))) H_i).symm (σ2 := va_up (va_up σ (16 + 3 * i) (upd (upd (upd (σ (16 + 3 * i)) (0) (σ (6 + i) 0)) (1) (σ (6 + i) 1)) (2) (σ (6 + i) 2))) (15 + 3 * i) (upd (σ (15 + 3 * i)) 5 (σ (6 + i) 3))) rfl dX6_layOut_28 (fun H locs I => ?_)
    refine lv_aload_n hx hb dX6_layOut_31 rfl (lv_at hl 0 rfl) ?_
    refine lv_aload_n hx hb dX6_layOut_32 rfl (lv_at hl 1 rfl) ?_
    refine lv_iconst (v := nI 4) hx hb dX6_layOut_33 (by decide) ?_
    refine k_iald hx hb E I (6 + i) (by omega) (r0 := σ (6 + i)) (by rw [va_up_ne _ _ (by omega), va_up_ne _ _ (by omega)]) (kc_R H_i) (vp_in_nI (by omega) (by decide)) dX6_layOut_34 ?_
    rw [nI_clamp (by omega)]
    refine k_put (C := RX6) (T := TX6) (N := 10) (ty0 := tyX6) (ty := .int) (v := .int (σ (6 + i) 4)) hx hb hts hown E I iX6 tyX6_ok nmX6 (15 + 3 * i) (by omega) (r0 := (upd (σ (15 + 3 * i)) 5 (σ (6 + i) 3))) (by rw [va_up_self]) (kc_S H_i) rfl 6 (by decide) (List.mem_of_getElem? (i := 3) rfl) rfl rfl rfl rfl (Nat.le_of_ble_eq_true rfl) (upd (upd (σ (15 + 3 * i)) 5 (σ (6 + i) 3)) 6 (σ (6 + i) 4)) (kc_S (cy := cy) (ad := ad) (r := (upd (upd (σ (15 + 3 * i)) 5 (σ (6 + i) 3)) 6 (σ (6 + i) 4))) H_i).symm (σ2 := va_up (va_up σ (16 + 3 * i) (upd (upd (upd (σ (16 + 3 * i)) (0) (σ (6 + i) 0)) (1) (σ (6 + i) 1)) (2) (σ (6 + i) 2))) (15 + 3 * i) (upd (upd (σ (15 + 3 * i)) 5 (σ (6 + i) 3)) 6 (σ (6 + i) 4))) (bx_uu _ _ _ _) dX6_layOut_35 (fun H locs I => ?_)
    refine lv_aload_n hx hb dX6_layOut_38 rfl (lv_at hl 0 rfl) ?_
    refine lv_aload_n hx hb dX6_layOut_39 rfl (lv_at hl 1 rfl) ?_
    refine lv_iconst (v := nI 5) hx hb dX6_layOut_40 (by decide) ?_
    refine k_iald hx hb E I (6 + i) (by omega) (r0 := σ (6 + i)) (by rw [va_up_ne _ _ (by omega), va_up_ne _ _ (by omega)]) (kc_R H_i) (vp_in_nI (by omega) (by decide)) dX6_layOut_41 ?_
    rw [nI_clamp (by omega)]
    refine k_put (C := RX6) (T := TX6) (N := 10) (ty0 := tyX6) (ty := .int) (v := .int (σ (6 + i) 5)) hx hb hts hown E I iX6 tyX6_ok nmX6 (15 + 3 * i) (by omega) (r0 := (upd (upd (σ (15 + 3 * i)) 5 (σ (6 + i) 3)) 6 (σ (6 + i) 4))) (by rw [va_up_self]) (kc_S H_i) rfl 7 (by decide) (List.mem_of_getElem? (i := 4) rfl) rfl rfl rfl rfl (Nat.le_of_ble_eq_true rfl) (upd (upd (upd (σ (15 + 3 * i)) 5 (σ (6 + i) 3)) 6 (σ (6 + i) 4)) 7 (σ (6 + i) 5)) (kc_S (cy := cy) (ad := ad) (r := (upd (upd (upd (σ (15 + 3 * i)) 5 (σ (6 + i) 3)) 6 (σ (6 + i) 4)) 7 (σ (6 + i) 5))) H_i).symm (σ2 := va_up (va_up σ (16 + 3 * i) (upd (upd (upd (σ (16 + 3 * i)) (0) (σ (6 + i) 0)) (1) (σ (6 + i) 1)) (2) (σ (6 + i) 2))) (15 + 3 * i) (upd (upd (upd (σ (15 + 3 * i)) 5 (σ (6 + i) 3)) 6 (σ (6 + i) 4)) 7 (σ (6 + i) 5))) (bx_uu _ _ _ _) dX6_layOut_42 (fun H locs I => ?_)
    refine lv_aload_n hx hb dX6_layOut_45 rfl (lv_at hl 0 rfl) ?_
    refine lv_aload_n hx hb dX6_layOut_46 rfl (lv_at hl 1 rfl) ?_
    refine lv_bipush (v := nI 6) hx hb dX6_layOut_47 (by decide) ?_
    refine k_iald hx hb E I (6 + i) (by omega) (r0 := σ (6 + i)) (by rw [va_up_ne _ _ (by omega), va_up_ne _ _ (by omega)]) (kc_R H_i) (vp_in_nI (by omega) (by decide)) dX6_layOut_49 ?_
    rw [nI_clamp (by omega)]
    refine k_put (C := RX6) (T := TX6) (N := 10) (ty0 := tyX6) (ty := .int) (v := .int (σ (6 + i) 6)) hx hb hts hown E I iX6 tyX6_ok nmX6 (15 + 3 * i) (by omega) (r0 := (upd (upd (upd (σ (15 + 3 * i)) 5 (σ (6 + i) 3)) 6 (σ (6 + i) 4)) 7 (σ (6 + i) 5))) (by rw [va_up_self]) (kc_S H_i) rfl 8 (by decide) (List.mem_of_getElem? (i := 5) rfl) rfl rfl rfl rfl (Nat.le_of_ble_eq_true rfl) (upd (upd (upd (upd (σ (15 + 3 * i)) 5 (σ (6 + i) 3)) 6 (σ (6 + i) 4)) 7 (σ (6 + i) 5)) 8 (σ (6 + i) 6)) (kc_S (cy := cy) (ad := ad) (r := (upd (upd (upd (upd (σ (15 + 3 * i)) 5 (σ (6 + i) 3)) 6 (σ (6 + i) 4)) 7 (σ (6 + i) 5)) 8 (σ (6 + i) 6))) H_i).symm (σ2 := va_up (va_up σ (16 + 3 * i) (upd (upd (upd (σ (16 + 3 * i)) (0) (σ (6 + i) 0)) (1) (σ (6 + i) 1)) (2) (σ (6 + i) 2))) (15 + 3 * i) (upd (upd (upd (upd (σ (15 + 3 * i)) 5 (σ (6 + i) 3)) 6 (σ (6 + i) 4)) 7 (σ (6 + i) 5)) 8 (σ (6 + i) 6))) (bx_uu _ _ _ _) dX6_layOut_50 (fun H locs I => ?_)
    refine lv_aload_n hx hb dX6_layOut_53 rfl (lv_at hl 0 rfl) ?_
    refine lv_iconst (v := nI 0) hx hb dX6_layOut_54 (by decide) ?_
    refine k_put (C := RX6) (T := TX6) (N := 10) (ty0 := tyX6) (ty := .boolean) (v := .int (nI 0)) hx hb hts hown E I iX6 tyX6_ok nmX6 (15 + 3 * i) (by omega) (r0 := (upd (upd (upd (upd (σ (15 + 3 * i)) 5 (σ (6 + i) 3)) 6 (σ (6 + i) 4)) 7 (σ (6 + i) 5)) 8 (σ (6 + i) 6))) (by rw [va_up_self]) (kc_S H_i) rfl 2 (by decide) (List.mem_of_getElem? (i := 6) rfl) rfl rfl (by decide) (by decide) (Nat.le_of_ble_eq_true rfl) (upd (upd (upd (upd (upd (σ (15 + 3 * i)) 2 (nI 0)) 5 (σ (6 + i) 3)) 6 (σ (6 + i) 4)) 7 (σ (6 + i) 5)) 8 (σ (6 + i) 6)) (kc_S (cy := cy) (ad := ad) (r := (upd (upd (upd (upd (upd (σ (15 + 3 * i)) 2 (nI 0)) 5 (σ (6 + i) 3)) 6 (σ (6 + i) 4)) 7 (σ (6 + i) 5)) 8 (σ (6 + i) 6))) H_i).symm (σ2 := va_up (va_up σ (16 + 3 * i) (upd (upd (upd (σ (16 + 3 * i)) (0) (σ (6 + i) 0)) (1) (σ (6 + i) 1)) (2) (σ (6 + i) 2))) (15 + 3 * i) (upd (upd (upd (upd (upd (σ (15 + 3 * i)) 2 (nI 0)) 5 (σ (6 + i) 3)) 6 (σ (6 + i) 4)) 7 (σ (6 + i) 5)) 8 (σ (6 + i) 6))) (bx_uu _ _ _ _) dX6_layOut_55 (fun H locs I => ?_)
    refine lv_aload_n hx hb dX6_layOut_58 rfl (lv_at hl 0 rfl) ?_
    refine lv_iconst (v := nI 0) hx hb dX6_layOut_59 (by decide) ?_
    refine k_put (C := RX6) (T := TX6) (N := 10) (ty0 := tyX6) (ty := .boolean) (v := .int (nI 0)) hx hb hts hown E I iX6 tyX6_ok nmX6 (15 + 3 * i) (by omega) (r0 := (upd (upd (upd (upd (upd (σ (15 + 3 * i)) 2 (nI 0)) 5 (σ (6 + i) 3)) 6 (σ (6 + i) 4)) 7 (σ (6 + i) 5)) 8 (σ (6 + i) 6))) (by rw [va_up_self]) (kc_S H_i) rfl 3 (by decide) (List.mem_of_getElem? (i := 7) rfl) rfl rfl (by decide) (by decide) (Nat.le_of_ble_eq_true rfl) (upd (upd (upd (upd (upd (upd (σ (15 + 3 * i)) 2 (nI 0)) 3 (nI 0)) 5 (σ (6 + i) 3)) 6 (σ (6 + i) 4)) 7 (σ (6 + i) 5)) 8 (σ (6 + i) 6)) (kc_S (cy := cy) (ad := ad) (r := (upd (upd (upd (upd (upd (upd (σ (15 + 3 * i)) 2 (nI 0)) 3 (nI 0)) 5 (σ (6 + i) 3)) 6 (σ (6 + i) 4)) 7 (σ (6 + i) 5)) 8 (σ (6 + i) 6))) H_i).symm (σ2 := va_up (va_up σ (16 + 3 * i) (upd (upd (upd (σ (16 + 3 * i)) (0) (σ (6 + i) 0)) (1) (σ (6 + i) 1)) (2) (σ (6 + i) 2))) (15 + 3 * i) (upd (upd (upd (upd (upd (upd (σ (15 + 3 * i)) 2 (nI 0)) 3 (nI 0)) 5 (σ (6 + i) 3)) 6 (σ (6 + i) 4)) 7 (σ (6 + i) 5)) 8 (σ (6 + i) 6))) (bx_uu _ _ _ _) dX6_layOut_60 (fun H locs I => ?_)
    refine lv_aload_n hx hb dX6_layOut_63 rfl (lv_at hl 0 rfl) ?_
    refine lv_iconst (v := nI 0) hx hb dX6_layOut_64 (by decide) ?_
    refine k_put (C := RX6) (T := TX6) (N := 10) (ty0 := tyX6) (ty := .int) (v := .int (nI 0)) hx hb hts hown E I iX6 tyX6_ok nmX6 (15 + 3 * i) (by omega) (r0 := (upd (upd (upd (upd (upd (upd (σ (15 + 3 * i)) 2 (nI 0)) 3 (nI 0)) 5 (σ (6 + i) 3)) 6 (σ (6 + i) 4)) 7 (σ (6 + i) 5)) 8 (σ (6 + i) 6))) (by rw [va_up_self]) (kc_S H_i) rfl 4 (by decide) (List.mem_of_getElem? (i := 8) rfl) rfl rfl rfl rfl (Nat.le_of_ble_eq_true rfl) (upd (upd (upd (upd (upd (upd (upd (σ (15 + 3 * i)) 2 (nI 0)) 3 (nI 0)) 4 (nI 0)) 5 (σ (6 + i) 3)) 6 (σ (6 + i) 4)) 7 (σ (6 + i) 5)) 8 (σ (6 + i) 6)) (kc_S (cy := cy) (ad := ad) (r := (upd (upd (upd (upd (upd (upd (upd (σ (15 + 3 * i)) 2 (nI 0)) 3 (nI 0)) 4 (nI 0)) 5 (σ (6 + i) 3)) 6 (σ (6 + i) 4)) 7 (σ (6 + i) 5)) 8 (σ (6 + i) 6))) H_i).symm (σ2 := va_up (va_up σ (16 + 3 * i) (upd (upd (upd (σ (16 + 3 * i)) (0) (σ (6 + i) 0)) (1) (σ (6 + i) 1)) (2) (σ (6 + i) 2))) (15 + 3 * i) (upd (upd (upd (upd (upd (upd (upd (σ (15 + 3 * i)) 2 (nI 0)) 3 (nI 0)) 4 (nI 0)) 5 (σ (6 + i) 3)) 6 (σ (6 + i) 4)) 7 (σ (6 + i) 5)) 8 (σ (6 + i) 6))) (bx_uu _ _ _ _) dX6_layOut_65 (fun H locs I => ?_)
    exact k_vret hx hb hr hlk I dX6_layOut_68 (⟨fun k a b => by rw [va_up_ne _ _ a, va_up_ne _ _ b], ⟨by rw [va_up_ne _ _ (by omega), va_up_self]; rfl, by rw [va_up_ne _ _ (by omega), va_up_self]; rfl, by rw [va_up_ne _ _ (by omega), va_up_self]; rfl⟩, ⟨by rw [va_up_self]; rfl, by rw [va_up_self]; rfl, by rw [va_up_self]; rfl, by rw [va_up_self]; rfl⟩, ⟨by rw [va_up_self]; rfl, by rw [va_up_self]; rfl, by rw [va_up_self]; rfl⟩⟩)
  · exact absurd c_4 (by decide)
set_option maxHeartbeats 4000000 in
set_option maxRecDepth 100000 in
theorem c_X1_layOut (cy : Nat → ClassId) (D : va_G) (ad : Nat → Nat) (l : Launch) (σ : Nat → Nat → Int32) (M : Nat → Nat) (hM : pOk M) (a : Nat) (hP : rPl σ M a) : kMv 38 ad (kcC cy ad) cy D l yX1_layOut wsX1_layOut ({ frames := 2, cells := 0, slots := 0, locals := 44 }) [.ref (ad 11), .ref (ad 3)] σ (fun σ' => rBay σ' M ∧ ∀ k, (k < 11 ∨ 30 ≤ k) → σ' k = σ k) := by
  have h5 := hM.1
  refine k_entry (cc := cX1_layOut) (maxL := 3) (ret := none) (by decide) rfl (Nat.le_of_ble_eq_true rfl) ?_
  intro p e s m below meth c hx hb hr hml hown hts hlk E I ls hl
  have hA : ∀ q, s.heap.size ≤ q → kA 38 ad s.heap.size q := fun q h => Or.inr h
  have hown : s.vm.findClass RX1 = some m.cls := hown
  have hl : lv_has ls 3 [(0, .ref (ad 11)), (1, .ref (ad 3))] := hl
  have iX1 : ∀ w ∈ u_ws RX1 TX1 6, w ∈ wsX1_layOut := fun w h => List.mem_cons_of_mem _ (List.mem_append_left _ (List.mem_append_left _ (List.mem_append_right _ h)))
  have iX5 : ∀ w ∈ u_ws RX5 TX5 5, w ∈ wsX1_layOut := fun w h => List.mem_cons_of_mem _ (List.mem_append_left _ (List.mem_append_left _ (List.mem_append_left _ (List.mem_append_right _ h))))
  refine lv_aload_n hx hb dX1_layOut_0 rfl (lv_at hl 0 rfl) ?_
  refine lv_aload_n hx hb dX1_layOut_1 rfl (lv_at hl 1 rfl) ?_
  refine k_get (C := RX5) (T := TX5) (N := 5) (v := .int (nI (M 0))) hx hb hts hown E I iX5 (3) (by decide) (r0 := σ 3) rfl kc_3 rfl 2 (by decide) (List.mem_of_getElem? (i := 1) rfl) (congrArg (fun z => some (Value.int z)) hP.1.1) dX1_layOut_2 ?_
  refine k_put (C := RX1) (T := TX1) (N := 6) (ty0 := tyX1) (ty := .int) (v := .int (nI (M 0))) hx hb hts hown E I iX1 tyX1_ok nmX1 (11) (by decide) (r0 := σ 11) rfl kc_11 rfl 3 (by decide) (List.mem_of_getElem? (i := 2) rfl) rfl rfl rfl rfl (Nat.le_of_ble_eq_true rfl) (upd (σ 11) 3 (nI (M 0))) rfl (σ2 := va_up σ 11 (upd (σ 11) 3 (nI (M 0)))) rfl dX1_layOut_5 (fun H locs I => ?_)
  refine lv_aload_n hx hb dX1_layOut_8 rfl (lv_at hl 1 rfl) ?_
  refine k_get (C := RX5) (T := TX5) (N := 5) (v := .ref (ad 4)) hx hb hts hown E I iX5 (3) (by decide) (r0 := σ 3) rfl kc_3 rfl 0 (by decide) (List.mem_of_getElem? (i := 3) rfl) rfl dX1_layOut_9 ?_
  refine lv_iconst (v := nI 0) hx hb dX1_layOut_12 (by decide) ?_
  refine lv_aload_n hx hb dX1_layOut_13 rfl (lv_at hl 0 rfl) ?_
  refine k_get (C := RX1) (T := TX1) (N := 6) (v := .ref (ad 12)) hx hb hts hown E I iX1 (11) (by decide) (r0 := (upd (σ 11) 3 (nI (M 0)))) rfl kc_11 rfl 0 (by decide) (List.mem_of_getElem? (i := 4) rfl) rfl dX1_layOut_14 ?_
  refine lv_iconst (v := nI 0) hx hb dX1_layOut_17 (by decide) ?_
  refine lv_bipush (v := nI 20) hx hb dX1_layOut_18 (by decide) ?_
  refine k_copyi hx hb (hml.trans hl.1.symm) hown (hts _ (List.mem_of_getElem? (i := 5) rfl)) (hts _ (List.mem_of_getElem? (i := 6) rfl)) (hts _ (List.mem_of_getElem? (i := 7) rfl)) (hts _ (List.mem_of_getElem? (i := 8) rfl)) E I 4 12 (by decide) (by decide) (f := σ 4) (g := σ 12) rfl rfl kc_4 (fun _ => kc_12) (z := 20) (by decide) (by decide) (by decide) (Nat.le_of_ble_eq_true rfl) (Nat.le_of_ble_eq_true rfl) (σ2 := va_up (va_up σ 11 (upd (σ 11) 3 (nI (M 0)))) 12 (va_cpy (σ 4) (σ 12) 0 0 20)) rfl dX1_layOut_20 (fun H locs I => ?_)
  refine lv_aload_n hx hb dX1_layOut_23 rfl (lv_at hl 0 rfl) ?_
  refine lv_aload_n hx hb dX1_layOut_24 rfl (lv_at hl 1 rfl) ?_
  refine k_get (C := RX5) (T := TX5) (N := 5) (v := .int (nI (M 1))) hx hb hts hown E I iX5 (3) (by decide) (r0 := σ 3) rfl kc_3 rfl 3 (by decide) (List.mem_of_getElem? (i := 9) rfl) (congrArg (fun z => some (Value.int z)) hP.1.2.1) dX1_layOut_25 ?_
  refine lv_iconst (v := nI 5) hx hb dX1_layOut_28 (by decide) ?_
  refine va_mmin hx hb (hml.trans hl.1.symm) hown (hts _ (List.mem_of_getElem? (i := 10) rfl)) (hts _ (List.mem_of_getElem? (i := 11) rfl)) (hts _ (List.mem_of_getElem? (i := 12) rfl)) (hts _ (List.mem_of_getElem? (i := 13) rfl)) (Nat.le_of_ble_eq_true rfl) (Nat.le_of_ble_eq_true rfl) (Nat.le_of_ble_eq_true rfl) (Nat.le_of_ble_eq_true rfl) dX1_layOut_29 ?_
  refine lv_topi (fun t_32 et_32 => ?_)
  have et_32 : t_32 = nI (M 1) := et_32.trans ((kmin_nI (by omega) (by decide)).trans (congrArg nI (Nat.min_eq_left (by omega))))
  subst et_32
  refine k_put (C := RX1) (T := TX1) (N := 6) (ty0 := tyX1) (ty := .int) (v := .int (nI (M 1))) hx hb hts hown E I iX1 tyX1_ok nmX1 (11) (by decide) (r0 := (upd (σ 11) 3 (nI (M 0)))) rfl kc_11 rfl 4 (by decide) (List.mem_of_getElem? (i := 14) rfl) rfl rfl rfl rfl (Nat.le_of_ble_eq_true rfl) (upd (upd (σ 11) 3 (nI (M 0))) 4 (nI (M 1))) rfl (σ2 := va_up (va_up σ 11 (upd (upd (σ 11) 3 (nI (M 0))) 4 (nI (M 1)))) 12 (va_cpy (σ 4) (σ 12) 0 0 20)) (kup_3 _ _ _ _ (by omega)) dX1_layOut_32 (fun H locs I => ?_)
  refine lv_iconst (v := nI 0) hx hb dX1_layOut_35 (by decide) ?_
  refine lv_istore_n (lv' := [(2, .int (nI 0)), (0, .ref (ad 11)), (1, .ref (ad 3))]) hx hb dX1_layOut_36 rfl hl (by decide) rfl (fun ls hl => ?_)
  have LP_37 : ∀ (fuel_37 : Nat) (i : Nat) (τ : Nat → Nat → Int32), M 1 - i < fuel_37 → (i ≤ M 1) → (∀ k, (k < 11 ∨ 30 ≤ k) → τ k = σ k) → (τ 11 3 = nI (M 0)) → (τ 11 4 = nI (M 1)) → (∀ k, k < 20 → τ 12 k = σ 4 k) → (∀ t, t < i → rS τ M t) → ∀ (H : Heap) (locs : List Loc), kI 38 ad (kcC cy ad) D (kA 38 ad s.heap.size) s.heap τ H locs → ∀ ls : Array Slot, lv_has ls 3 [(0, .ref (ad 11)), (1, .ref (ad 3)), (2, .int (nI i))] → W p l e (headSpec wsX1_layOut ({ frames := 2, cells := 0, slots := 0, locals := 44 })).room s m [.ref (ad 11), .ref (ad 3)].toArray below meth c H locs 0 0 (MQ below (va_Qv (fun σ' => rBay σ' M ∧ ∀ k, (k < 11 ∨ 30 ≤ k) → σ' k = σ k) (kB 38 ad (kcC cy ad) D) (kA 38 ad s.heap.size)) [.ref (ad 11), .ref (ad 3)].toArray s 0 0 (kA 38 ad s.heap.size)) (F0 m 37 ls []) := by
    intro fuel_37
    induction fuel_37 with
    | zero => intro i τ hf_37; exact absurd hf_37 (Nat.not_lt_zero _)
    | succ fuel_37 ih_37 =>
      intro i τ hf_37 hin hkp t3 t4 h12 hdo H locs I ls hl
      refine lv_iload_n hx hb dX1_layOut_37 rfl (lv_at hl 2 rfl) ?_
      refine lv_aload_n hx hb dX1_layOut_38 rfl (lv_at hl 0 rfl) ?_
      refine k_get (C := RX1) (T := TX1) (N := 6) (v := .int (nI (M 1))) hx hb hts hown E I iX1 (11) (by decide) (r0 := τ 11) rfl kc_11 rfl 4 (by decide) (List.mem_of_getElem? (i := 14) rfl) (congrArg (fun z => some (Value.int z)) t4) dX1_layOut_39 ?_
      refine lv_icmp_ge (tgt := 66) hx hb dX1_layOut_42 (by decide) (fun c_42 => ?_) (fun c_42 => ?_)
      · have c_42 : (M 1) ≤ i := (nI_leI (by omega) (by omega)).mp c_42
        have hie : i = M 1 := by omega
        refine lv_aload_n hx hb dX1_layOut_66 rfl (lv_at hl 0 rfl) ?_
        refine lv_iconst (v := nI 0) hx hb dX1_layOut_67 (by decide) ?_
        refine k_put (C := RX1) (T := TX1) (N := 6) (ty0 := tyX1) (ty := .int) (v := .int (nI 0)) hx hb hts hown E I iX1 tyX1_ok nmX1 (11) (by decide) (r0 := τ 11) rfl kc_11 rfl 5 (by decide) (List.mem_of_getElem? (i := 17) rfl) rfl rfl rfl rfl (Nat.le_of_ble_eq_true rfl) (upd (τ 11) 5 (nI 0)) rfl (σ2 := va_up τ 11 (upd (τ 11) 5 (nI 0))) rfl dX1_layOut_68 (fun H locs I => ?_)
        exact k_vret hx hb hr hlk I dX1_layOut_71 (⟨⟨⟨t3, t4, congrArg nI h5.2.2.symm⟩, fun k hk => by rw [va_up_ne _ _ (by decide), h12 k (by omega)]; exact hP.2.1 k hk, fun t ht => rS_same (hdo t (by omega)) (fun j _ _ => by rw [va_up_ne _ _ (by omega)]) (fun j => by rw [va_up_ne _ _ (by omega)]) (fun j => by rw [va_up_ne _ _ (by omega)])⟩, fun k hk => by rw [va_up_ne _ _ (by omega)]; exact hkp k hk⟩)
      · have c_42 : ¬ ((M 1) ≤ i) := fun q_ => c_42 ((nI_leI (by omega) (by omega)).mpr q_)
        have hi : i < M 1 := by omega
        have H_i : i < 5 := by omega
        refine lv_aload_n hx hb dX1_layOut_45 rfl (lv_at hl 0 rfl) ?_
        refine k_get (C := RX1) (T := TX1) (N := 6) (v := .ref (ad 13)) hx hb hts hown E I iX1 (11) (by decide) (r0 := τ 11) rfl kc_11 rfl 1 (by decide) (List.mem_of_getElem? (i := 15) rfl) rfl dX1_layOut_46 ?_
        refine lv_iload_n hx hb dX1_layOut_49 rfl (lv_at hl 2 rfl) ?_
        refine k_aldS (a := ad (15 + 3 * i)) hx hb E I (13) (by decide) kc_13 (vp_in_nI (by omega) (by decide)) (by rw [nI_clamp (by omega)]; exact if_pos (by omega)) dX1_layOut_50 ?_
        refine lv_aload_n hx hb dX1_layOut_51 rfl (lv_at hl 1 rfl) ?_
        refine k_get (C := RX5) (T := TX5) (N := 5) (v := .ref (ad 5)) hx hb hts hown E I iX5 (3) (by decide) (r0 := τ 3) rfl kc_3 rfl 1 (by decide) (List.mem_of_getElem? (i := 16) rfl) rfl dX1_layOut_52 ?_
        refine lv_iload_n hx hb dX1_layOut_55 rfl (lv_at hl 2 rfl) ?_
        refine k_aldA (a := ad (6 + i)) hx hb E I (5) (by decide) kc_5 (vp_in_nI (by omega) (by decide)) (by rw [nI_clamp (by omega)]; exact if_pos (by omega)) dX1_layOut_56 ?_
        refine k_callv (k := 15 + 3 * i) (As := [.ref (ad (6 + i))]) (rest := []) ⟨hx, hb, hml, hown, hts⟩ (c_X6_layOut cy D ad l τ i H_i) (cwV 1 hts gX1_layOut_X6_layOut rfl rfl rfl (by decide +kernel) ⟨Nat.le_of_ble_eq_true rfl, Nat.le_of_ble_eq_true rfl⟩) E hA I (k_recv E I (by omega) (kc_S H_i) rfl) rfl hl.1 rfl (lv_room (Nat.le_of_ble_eq_true rfl)) dX1_layOut_57 ⟨Nat.le_of_ble_eq_true rfl, Nat.le_of_ble_eq_true rfl⟩ (fun σ_57 H locs hp_57 I => ?_)
        obtain ⟨o1, f1, s1, z1⟩ := hp_57
        have hrow : τ (6 + i) = σ (6 + i) := hkp _ (by omega)
        rw [hrow] at f1 s1
        have hz := hM.2.2.2.1 i hi
        have hr := hP.2.2 i hi
        have hdo2 : ∀ t, t < i + 1 → rS σ_57 M t := fun t ht => by
          by_cases e_ : t = i
          · subst e_
            refine ⟨fun f hf => ?_, fun hm => absurd hm (by rw [hz 9 (by decide) (by decide)]; decide)⟩
            match f, hf with
            | 0, _ => exact f1.1.trans (hr 0 (by decide))
            | 1, _ => exact f1.2.1.trans (hr 1 (by decide))
            | 2, _ => exact f1.2.2.trans (hr 2 (by decide))
            | 3, _ => exact s1.1.trans (hr 3 (by decide))
            | 4, _ => exact s1.2.1.trans (hr 4 (by decide))
            | 5, _ => exact s1.2.2.1.trans (hr 5 (by decide))
            | 6, _ => exact s1.2.2.2.trans (hr 6 (by decide))
            | 7, _ => exact z1.2.1.trans (congrArg nI (hz 7 (by decide) (by decide)).symm)
            | 8, _ => exact z1.2.2.trans (congrArg nI (hz 8 (by decide) (by decide)).symm)
            | 9, _ => exact z1.1.trans (congrArg nI (hz 9 (by decide) (by decide)).symm)
          · exact rS_same (hdo t (by omega)) (fun j _ _ => by rw [o1 _ (by omega) (by omega)]) (fun j => by rw [o1 _ (by omega) (by omega)]) (fun j => by rw [o1 _ (by omega) (by omega)])
        refine lv_iinc (v := nI (i + 1)) (lv' := [(2, .int (nI (i + 1))), (0, .ref (ad 11)), (1, .ref (ad 3))]) hx hb dX1_layOut_60 hl (k := 2) rfl (show nI i + Int32.ofInt 1 = nI (i + 1) from nI_add i 1) (by decide) rfl (fun ls hl => ?_)
        refine lv_goto (tgt := 37) hx hb dX1_layOut_63 (by decide) ?_
        exact ih_37 (i + 1) σ_57 (by omega) (by omega) (fun k hk => (o1 k (by omega) (by omega)).trans (hkp k hk)) (by rw [o1 11 (by omega) (by omega)]; exact t3) (by rw [o1 11 (by omega) (by omega)]; exact t4) (fun k hk => by rw [o1 12 (by omega) (by omega)]; exact h12 k hk) (hdo2) _ _ I _ (lv_sub hl [1, 2, 0] rfl)
  exact LP_37 _ 0 _ (Nat.lt_succ_self _) (Nat.zero_le _) (fun k hk => by rw [va_up_ne _ _ (by omega), va_up_ne _ _ (by omega)]) (rfl) (rfl) (fun k hk => by rw [va_up_self]; rw [pk_cpy_in (by omega) (by omega)]; congr 1; omega) (fun t ht => absurd ht (Nat.not_lt_zero t)) _ _ I _ (lv_sub hl [1, 2, 0] rfl)

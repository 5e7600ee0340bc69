/-! THE CHAIN: climb -/
set_option maxHeartbeats 4000000 in
set_option maxRecDepth 100000 in
theorem c_X2_climb (cy : Nat → ClassId) (D : va_G) (ad : Nat → Nat) (l : Launch) (σ : Nat → Nat → Int32) (h w n d : Nat) (hh : h ≤ 9999) (hw1 : 1 ≤ w) (hw : w ≤ 5) (hn : n ≤ 60) (hd : d ≤ 200) (e5 : σ 14 5 = nI h) (e6 : σ 14 6 = nI w) (e7 : σ 14 7 = nI n) (e8 : σ 14 8 = nI d) (u : Nat) (hu : u ≤ 999) : kMv 38 ad (kcC cy ad) cy D l yX2_climb wsX2_climb ({ frames := 1, cells := 0, slots := 0, locals := 24 }) [.ref (ad 14), .int (nI u)] σ (fun σ' => ∃ R : Nat → Int32, σ' = va_up σ 14 R ∧ R 9 = nI (hg h w u d n) ∧ R 10 = nI (sR h w u (hg h w u d n)) ∧ R 11 = nI (sX h w u (hg h w u d n)) ∧ ∀ j, j < 9 → R j = σ 14 j) := by
  have hhh : h * h ≤ 9999 * 9999 := sq_mono hh
  have huu : u * u ≤ 999 * 999 := sq_mono hu
  refine k_entry (cc := cX2_climb) (maxL := 5) (ret := none) (by decide) rfl (Nat.le_of_ble_eq_true rfl) ?_
  intro p e s m below meth c hx hb hr hml hown hts hlk E I ls hl
  have hA : ∀ q, s.heap.size ≤ q → kA 38 ad s.heap.size q := fun q h => Or.inr h
  have hown : s.vm.findClass RX2 = some m.cls := hown
  have hl : lv_has ls 5 [(0, .ref (ad 14)), (1, .int (nI u))] := hl
  have iX2 : ∀ w ∈ u_ws RX2 TX2 12, w ∈ wsX2_climb := fun w h => List.mem_cons_of_mem _ (List.mem_append_right _ h)
  refine lv_aload_n hx hb dX2_climb_0 rfl (lv_at hl 0 rfl) ?_
  refine lv_iconst (v := nI 0) hx hb dX2_climb_1 (by decide) ?_
  refine k_put (C := RX2) (T := TX2) (N := 12) (ty0 := tyX2) (ty := .int) (v := .int (nI 0)) hx hb hts hown E I iX2 tyX2_ok nmX2 (14) (by decide) (r0 := σ 14) rfl kc_14 rfl 9 (by decide) (List.mem_of_getElem? (i := 1) rfl) rfl rfl rfl rfl (Nat.le_of_ble_eq_true rfl) (upd (σ 14) 9 (nI 0)) rfl (σ2 := va_up σ 14 (upd (σ 14) 9 (nI 0))) rfl dX2_climb_2 (fun H locs I => ?_)
  refine lv_aload_n hx hb dX2_climb_5 rfl (lv_at hl 0 rfl) ?_
  refine lv_iconst (v := nI 0) hx hb dX2_climb_6 (by decide) ?_
  refine k_put (C := RX2) (T := TX2) (N := 12) (ty0 := tyX2) (ty := .int) (v := .int (nI 0)) hx hb hts hown E I iX2 tyX2_ok nmX2 (14) (by decide) (r0 := (upd (σ 14) 9 (nI 0))) rfl kc_14 rfl 10 (by decide) (List.mem_of_getElem? (i := 2) rfl) rfl rfl rfl rfl (Nat.le_of_ble_eq_true rfl) (upd (upd (σ 14) 9 (nI 0)) 10 (nI 0)) rfl (σ2 := va_up σ 14 (upd (upd (σ 14) 9 (nI 0)) 10 (nI 0))) (bx_uu _ _ _ _) dX2_climb_7 (fun H locs I => ?_)
  refine lv_aload_n hx hb dX2_climb_10 rfl (lv_at hl 0 rfl) ?_
  refine lv_iconst (v := nI 0) hx hb dX2_climb_11 (by decide) ?_
  refine k_put (C := RX2) (T := TX2) (N := 12) (ty0 := tyX2) (ty := .int) (v := .int (nI 0)) hx hb hts hown E I iX2 tyX2_ok nmX2 (14) (by decide) (r0 := (upd (upd (σ 14) 9 (nI 0)) 10 (nI 0))) rfl kc_14 rfl 11 (by decide) (List.mem_of_getElem? (i := 3) rfl) rfl rfl rfl rfl (Nat.le_of_ble_eq_true rfl) (upd (upd (upd (σ 14) 9 (nI 0)) 10 (nI 0)) 11 (nI 0)) rfl (σ2 := va_up σ 14 (upd (upd (upd (σ 14) 9 (nI 0)) 10 (nI 0)) 11 (nI 0))) (bx_uu _ _ _ _) dX2_climb_12 (fun H locs I => ?_)
  refine lv_iload_n hx hb dX2_climb_15 rfl (lv_at hl 1 rfl) ?_
  refine lv_istore_n (lv' := [(2, .int (nI u)), (0, .ref (ad 14)), (1, .int (nI u))]) hx hb dX2_climb_16 rfl hl (by decide) rfl (fun ls hl => ?_)
  refine lv_aload_n hx hb dX2_climb_17 rfl (lv_at hl 1 rfl) ?_
  refine k_get (C := RX2) (T := TX2) (N := 12) (v := .int (nI h)) hx hb hts hown E I iX2 (14) (by decide) (r0 := (upd (upd (upd (σ 14) 9 (nI 0)) 10 (nI 0)) 11 (nI 0))) rfl kc_14 rfl 5 (by decide) (List.mem_of_getElem? (i := 4) rfl) (congrArg (fun z => some (Value.int z)) e5) dX2_climb_18 ?_
  refine lv_aload_n hx hb dX2_climb_21 rfl (lv_at hl 1 rfl) ?_
  refine k_get (C := RX2) (T := TX2) (N := 12) (v := .int (nI h)) hx hb hts hown E I iX2 (14) (by decide) (r0 := (upd (upd (upd (σ 14) 9 (nI 0)) 10 (nI 0)) 11 (nI 0))) rfl kc_14 rfl 5 (by decide) (List.mem_of_getElem? (i := 4) rfl) (congrArg (fun z => some (Value.int z)) e5) dX2_climb_22 ?_
  refine lv_imul hx hb dX2_climb_25 ?_
  rw [pk_mul]
  refine lv_iload_n hx hb dX2_climb_26 rfl (lv_at hl 0 rfl) ?_
  refine lv_iload_n hx hb dX2_climb_27 rfl (lv_at hl 0 rfl) ?_
  refine lv_imul hx hb dX2_climb_28 ?_
  rw [pk_mul]
  refine lv_iadd hx hb dX2_climb_29 ?_
  rw [nI_add]
  refine k_calls (As := [.int (nI ((h * h) + (u * u)))]) (rest := []) ⟨hx, hb, hml, hown, hts⟩ (c_X2_root l (h * h + u * u) (by omega)) (va_cwS 1 hts gX2_climb_X2_root rfl rfl rfl (by decide +kernel) ⟨Nat.le_of_ble_eq_true rfl, Nat.le_of_ble_eq_true rfl⟩) rfl hl.1 rfl (lv_room (Nat.le_of_ble_eq_true rfl)) dX2_climb_30 ⟨Nat.le_of_ble_eq_true rfl, Nat.le_of_ble_eq_true rfl⟩ (fun r_30 hp_30 => ?_)
  subst hp_30
  refine lv_istore_n (lv' := [(3, .int (nI (isq (h * h + u * u)))), (2, .int (nI u)), (0, .ref (ad 14)), (1, .int (nI u))]) hx hb dX2_climb_33 rfl hl (by decide) rfl (fun ls hl => ?_)
  have LP_34 : ∀ (fuel : Nat) (k : Nat), n - k < fuel → (k ≤ n) → (∀ j, j < k → sR h w u j < d) → ∀ (H : Heap) (locs : List Loc), kI 38 ad (kcC cy ad) D (kA 38 ad s.heap.size) s.heap (va_up σ 14 (upd (upd (upd (σ 14) 9 (nI k)) 10 (nI (sR h w u k))) 11 (nI (sX h w u k)))) H locs → ∀ ls : Array Slot, lv_has ls 5 [(0, .ref (ad 14)), (1, .int (nI u)), (2, .int (nI (u + w * k))), (3, .int (nI (isq (h * h + (u + w * k) * (u + w * k)))))] → W p l e (headSpec wsX2_climb ({ frames := 1, cells := 0, slots := 0, locals := 24 })).room s m [.ref (ad 14), .int (nI u)].toArray below meth c H locs 0 0 (MQ below (va_Qv (fun σ' => ∃ R : Nat → Int32, σ' = va_up σ 14 R ∧ R 9 = nI (hg h w u d n) ∧ R 10 = nI (sR h w u (hg h w u d n)) ∧ R 11 = nI (sX h w u (hg h w u d n)) ∧ ∀ j, j < 9 → R j = σ 14 j) (kB 38 ad (kcC cy ad) D) (kA 38 ad s.heap.size)) [.ref (ad 14), .int (nI u)].toArray s 0 0 (kA 38 ad s.heap.size)) (F0 m 34 ls []) := by
    intro fuel
    induction fuel with
    | zero => intro k hf_; exact absurd hf_ (Nat.not_lt_zero _)
    | succ fuel ih =>
      intro k hf_ hkn hno H locs I ls hl
      have hs1 := sR_le h w u k
      have hs2 := sX_le h w u k
      refine lv_aload_n hx hb dX2_climb_34 rfl (lv_at hl 0 rfl) ?_
      refine k_get (C := RX2) (T := TX2) (N := 12) (v := .int (nI k)) hx hb hts hown E I iX2 (14) (by decide) (r0 := (upd (upd (upd (σ 14) 9 (nI k)) 10 (nI (sR h w u k))) 11 (nI (sX h w u k)))) rfl kc_14 rfl 9 (by decide) (List.mem_of_getElem? (i := 1) rfl) rfl dX2_climb_35 ?_
      refine lv_aload_n hx hb dX2_climb_38 rfl (lv_at hl 0 rfl) ?_
      refine k_get (C := RX2) (T := TX2) (N := 12) (v := .int (nI n)) hx hb hts hown E I iX2 (14) (by decide) (r0 := (upd (upd (upd (σ 14) 9 (nI k)) 10 (nI (sR h w u k))) 11 (nI (sX h w u k)))) rfl kc_14 rfl 7 (by decide) (List.mem_of_getElem? (i := 5) rfl) (congrArg (fun z => some (Value.int z)) e7) dX2_climb_39 ?_
      refine lv_icmp_ge (tgt := 158) hx hb dX2_climb_42 (by decide) (fun c_42 => ?_) (fun c_42 => ?_)
      · have c_42 : n ≤ k := (nI_leI (by omega) (by omega)).mp c_42
        have hgk : hg h w u d n = k := hg_eq hkn hno (fun z => absurd z (by omega))
        exact k_vret hx hb hr hlk I dX2_climb_158 (⟨_, rfl, congrArg nI hgk.symm, by rw [hgk]; rfl, by rw [hgk]; rfl, fun j hj => by simp only [upd]; rw [if_neg (by omega), if_neg (by omega), if_neg (by omega)]⟩)
      · have c_42 : ¬ (n ≤ k) := fun q_ => c_42 ((nI_leI (by omega) (by omega)).mpr q_)
        refine lv_aload_n hx hb dX2_climb_45 rfl (lv_at hl 0 rfl) ?_
        refine k_get (C := RX2) (T := TX2) (N := 12) (v := .int (nI (sR h w u k))) hx hb hts hown E I iX2 (14) (by decide) (r0 := (upd (upd (upd (σ 14) 9 (nI k)) 10 (nI (sR h w u k))) 11 (nI (sX h w u k)))) rfl kc_14 rfl 10 (by decide) (List.mem_of_getElem? (i := 2) rfl) rfl dX2_climb_46 ?_
        refine lv_aload_n hx hb dX2_climb_49 rfl (lv_at hl 0 rfl) ?_
        refine k_get (C := RX2) (T := TX2) (N := 12) (v := .int (nI d)) hx hb hts hown E I iX2 (14) (by decide) (r0 := (upd (upd (upd (σ 14) 9 (nI k)) 10 (nI (sR h w u k))) 11 (nI (sX h w u k)))) rfl kc_14 rfl 8 (by decide) (List.mem_of_getElem? (i := 6) rfl) (congrArg (fun z => some (Value.int z)) e8) dX2_climb_50 ?_
        refine lv_icmp_ge (tgt := 158) hx hb dX2_climb_53 (by decide) (fun c_53 => ?_) (fun c_53 => ?_)
        · have c_53 : d ≤ ((sR h w u k)) := (nI_leI (by omega) (by omega)).mp c_53
          have hgk : hg h w u d n = k := hg_eq hkn hno (fun z => by omega)
          exact k_vret hx hb hr hlk I dX2_climb_158 (⟨_, rfl, congrArg nI hgk.symm, by rw [hgk]; rfl, by rw [hgk]; rfl, fun j hj => by simp only [upd]; rw [if_neg (by omega), if_neg (by omega), if_neg (by omega)]⟩)
        · have c_53 : ¬ (d ≤ ((sR h w u k))) := fun q_ => c_53 ((nI_leI (by omega) (by omega)).mpr q_)
          have hD9 : w * (k + 1) ≤ 5 * 60 := Nat.mul_le_mul hw (by omega)
          have eD : u + w * (k + 1) = u + w * k + w := by rw [Nat.mul_add, Nat.mul_one, Nat.add_assoc]
          have hDD : (u + w * (k + 1)) * (u + w * (k + 1)) ≤ 1299 * 1299 := sq_mono (by omega)
          have hD1 : 1 ≤ u + w * (k + 1) := by have := Nat.mul_le_mul hw1 (show 1 ≤ k + 1 by omega); omega
          have hsl := isq_v h (u + w * (k + 1))
          have hsl9 : isq (h * h + (u + w * (k + 1)) * (u + w * (k + 1))) ≤ 16384 := isq_up (by omega)
          have hz10 := rz_le h (u + w * (k + 1))
          refine lv_aload_n hx hb dX2_climb_56 rfl (lv_at hl 0 rfl) ?_
          refine lv_dup hx hb dX2_climb_57 rfl ?_
          refine k_get (C := RX2) (T := TX2) (N := 12) (v := .int (nI k)) hx hb hts hown E I iX2 (14) (by decide) (r0 := (upd (upd (upd (σ 14) 9 (nI k)) 10 (nI (sR h w u k))) 11 (nI (sX h w u k)))) rfl kc_14 rfl 9 (by decide) (List.mem_of_getElem? (i := 1) rfl) rfl dX2_climb_58 ?_
          refine lv_iconst (v := nI 1) hx hb dX2_climb_61 (by decide) ?_
          refine lv_iadd hx hb dX2_climb_62 ?_
          rw [nI_add]
          refine k_put (C := RX2) (T := TX2) (N := 12) (ty0 := tyX2) (ty := .int) (v := .int (nI (k + 1))) hx hb hts hown E I iX2 tyX2_ok nmX2 (14) (by decide) (r0 := (upd (upd (upd (σ 14) 9 (nI k)) 10 (nI (sR h w u k))) 11 (nI (sX h w u k)))) rfl kc_14 rfl 9 (by decide) (List.mem_of_getElem? (i := 1) rfl) rfl rfl rfl rfl (Nat.le_of_ble_eq_true rfl) (upd (upd (upd (σ 14) 9 (nI (k + 1))) 10 (nI (sR h w u k))) 11 (nI (sX h w u k))) rfl (σ2 := va_up σ 14 (upd (upd (upd (σ 14) 9 (nI (k + 1))) 10 (nI (sR h w u k))) 11 (nI (sX h w u k)))) (bx_uu _ _ _ _) dX2_climb_63 (fun H locs I => ?_)
          refine lv_iload_n hx hb dX2_climb_66 rfl (lv_at hl 2 rfl) ?_
          refine lv_aload_n hx hb dX2_climb_67 rfl (lv_at hl 0 rfl) ?_
          refine k_get (C := RX2) (T := TX2) (N := 12) (v := .int (nI w)) hx hb hts hown E I iX2 (14) (by decide) (r0 := (upd (upd (upd (σ 14) 9 (nI (k + 1))) 10 (nI (sR h w u k))) 11 (nI (sX h w u k)))) rfl kc_14 rfl 6 (by decide) (List.mem_of_getElem? (i := 7) rfl) (congrArg (fun z => some (Value.int z)) e6) dX2_climb_68 ?_
          refine lv_iadd hx hb dX2_climb_71 ?_
          rw [nI_add]
          refine lv_topi (fun t_72 et_72 => ?_)
          have et_72 : t_72 = nI (u + w * (k + 1)) := et_72.trans (congrArg nI eD.symm)
          subst et_72
          refine lv_istore_n (lv' := [(2, .int (nI (u + w * (k + 1)))), (0, .ref (ad 14)), (1, .int (nI u)), (3, .int (nI (isq (h * h + (u + w * k) * (u + w * k)))))]) hx hb dX2_climb_72 rfl hl (by decide) rfl (fun ls hl => ?_)
          refine lv_iload_n hx hb dX2_climb_73 rfl (lv_at hl 3 rfl) ?_
          refine lv_aload_n hx hb dX2_climb_74 rfl (lv_at hl 1 rfl) ?_
          refine k_get (C := RX2) (T := TX2) (N := 12) (v := .int (nI w)) hx hb hts hown E I iX2 (14) (by decide) (r0 := (upd (upd (upd (σ 14) 9 (nI (k + 1))) 10 (nI (sR h w u k))) 11 (nI (sX h w u k)))) rfl kc_14 rfl 6 (by decide) (List.mem_of_getElem? (i := 7) rfl) (congrArg (fun z => some (Value.int z)) e6) dX2_climb_75 ?_
          refine lv_aload_n hx hb dX2_climb_78 rfl (lv_at hl 1 rfl) ?_
          refine k_get (C := RX2) (T := TX2) (N := 12) (v := .int (nI h)) hx hb hts hown E I iX2 (14) (by decide) (r0 := (upd (upd (upd (σ 14) 9 (nI (k + 1))) 10 (nI (sR h w u k))) 11 (nI (sX h w u k)))) rfl kc_14 rfl 5 (by decide) (List.mem_of_getElem? (i := 4) rfl) (congrArg (fun z => some (Value.int z)) e5) dX2_climb_79 ?_
          refine lv_aload_n hx hb dX2_climb_82 rfl (lv_at hl 1 rfl) ?_
          refine k_get (C := RX2) (T := TX2) (N := 12) (v := .int (nI h)) hx hb hts hown E I iX2 (14) (by decide) (r0 := (upd (upd (upd (σ 14) 9 (nI (k + 1))) 10 (nI (sR h w u k))) 11 (nI (sX h w u k)))) rfl kc_14 rfl 5 (by decide) (List.mem_of_getElem? (i := 4) rfl) (congrArg (fun z => some (Value.int z)) e5) dX2_climb_83 ?_
          refine lv_imul hx hb dX2_climb_86 ?_
          rw [pk_mul]
          refine lv_iload_n hx hb dX2_climb_87 rfl (lv_at hl 0 rfl) ?_
          refine lv_iload_n hx hb dX2_climb_88 rfl (lv_at hl 0 rfl) ?_
          refine lv_imul hx hb dX2_climb_89 ?_
          rw [pk_mul]
          refine lv_iadd hx hb dX2_climb_90 ?_
          rw [nI_add]
          refine k_calls (As := [.int (nI (isq (h * h + (u + w * k) * (u + w * k)))), .int (nI w), .int (nI ((h * h) + (((u + w * (k + 1))) * ((u + w * (k + 1))))))]) (rest := []) ⟨hx, hb, hml, hown, hts⟩ (c_X2_rootFrom l (isq (h * h + (u + w * k) * (u + w * k))) w (h * h + (u + w * (k + 1)) * (u + w * (k + 1))) (by omega) hw (isq_mono (Nat.add_le_add_left (sq_mono (by omega)) _)) (by rw [eD]; exact isq_steps w)) (va_cwS 3 hts gX2_climb_X2_rootFrom rfl rfl rfl (by decide +kernel) ⟨Nat.le_of_ble_eq_true rfl, Nat.le_of_ble_eq_true rfl⟩) rfl hl.1 rfl (lv_room (Nat.le_of_ble_eq_true rfl)) dX2_climb_91 ⟨Nat.le_of_ble_eq_true rfl, Nat.le_of_ble_eq_true rfl⟩ (fun r_91 hp_91 => ?_)
          subst hp_91
          refine lv_istore_n (lv' := [(3, .int (nI (isq (h * h + (u + w * (k + 1)) * (u + w * (k + 1)))))), (2, .int (nI (u + w * (k + 1)))), (0, .ref (ad 14)), (1, .int (nI u))]) hx hb dX2_climb_94 rfl hl (by decide) rfl (fun ls hl => ?_)
          refine lv_iload_n hx hb dX2_climb_95 rfl (lv_at hl 0 rfl) ?_
          refine lv_if_ne (tgt := 103) hx hb dX2_climb_96 (by decide) (fun c_96 => ?_) (fun c_96 => ?_)
          · have c_96 : ¬ ((isq (h * h + (u + w * (k + 1)) * (u + w * (k + 1)))) = 0) := fun q_ => c_96 ((nI_eq (by omega) (by decide)).mpr q_)
            refine lv_bipush (v := nI 10) hx hb dX2_climb_103 (by decide) ?_
            refine lv_iload_n hx hb dX2_climb_105 rfl (lv_at hl 1 rfl) ?_
            refine lv_imul hx hb dX2_climb_106 ?_
            rw [pk_mul]
            refine lv_iload_n hx hb dX2_climb_107 rfl (lv_at hl 0 rfl) ?_
            refine lv_idiv hx hb dX2_climb_108 (nI_ne0 (by omega) (by omega)) ?_
            refine lv_topi (fun t_109 et_109 => ?_)
            have et_109 : t_109 = nI (rz h (u + w * (k + 1))) := et_109.trans (pk_div (by omega) (by omega) (by omega))
            subst et_109
            refine lv_istore (lv' := [(4, .int (nI (rz h (u + w * (k + 1))))), (3, .int (nI (isq (h * h + (u + w * (k + 1)) * (u + w * (k + 1)))))), (2, .int (nI (u + w * (k + 1)))), (0, .ref (ad 14)), (1, .int (nI u))]) hx hb dX2_climb_109 hl (by decide) rfl (fun ls hl => ?_)
            refine lv_aload_n hx hb dX2_climb_111 rfl (lv_at hl 3 rfl) ?_
            refine lv_dup hx hb dX2_climb_112 rfl ?_
            refine k_get (C := RX2) (T := TX2) (N := 12) (v := .int (nI (sR h w u k))) hx hb hts hown E I iX2 (14) (by decide) (r0 := (upd (upd (upd (σ 14) 9 (nI (k + 1))) 10 (nI (sR h w u k))) 11 (nI (sX h w u k)))) rfl kc_14 rfl 10 (by decide) (List.mem_of_getElem? (i := 2) rfl) rfl dX2_climb_113 ?_
            refine lv_iload hx hb dX2_climb_116 (lv_at hl 0 rfl) ?_
            refine lv_iadd hx hb dX2_climb_118 ?_
            rw [nI_add]
            refine k_put (C := RX2) (T := TX2) (N := 12) (ty0 := tyX2) (ty := .int) (v := .int (nI (((sR h w u k)) + ((rz h (u + w * (k + 1))))))) hx hb hts hown E I iX2 tyX2_ok nmX2 (14) (by decide) (r0 := (upd (upd (upd (σ 14) 9 (nI (k + 1))) 10 (nI (sR h w u k))) 11 (nI (sX h w u k)))) rfl kc_14 rfl 10 (by decide) (List.mem_of_getElem? (i := 2) rfl) rfl rfl rfl rfl (Nat.le_of_ble_eq_true rfl) (upd (upd (upd (σ 14) 9 (nI (k + 1))) 10 (nI (((sR h w u k)) + ((rz h (u + w * (k + 1))))))) 11 (nI (sX h w u k))) rfl (σ2 := va_up σ 14 (upd (upd (upd (σ 14) 9 (nI (k + 1))) 10 (nI (((sR h w u k)) + ((rz h (u + w * (k + 1))))))) 11 (nI (sX h w u k)))) (bx_uu _ _ _ _) dX2_climb_119 (fun H locs I => ?_)
            refine lv_aload_n hx hb dX2_climb_122 rfl (lv_at hl 3 rfl) ?_
            refine lv_dup hx hb dX2_climb_123 rfl ?_
            refine k_get (C := RX2) (T := TX2) (N := 12) (v := .int (nI (sX h w u k))) hx hb hts hown E I iX2 (14) (by decide) (r0 := (upd (upd (upd (σ 14) 9 (nI (k + 1))) 10 (nI (((sR h w u k)) + ((rz h (u + w * (k + 1))))))) 11 (nI (sX h w u k)))) rfl kc_14 rfl 11 (by decide) (List.mem_of_getElem? (i := 3) rfl) rfl dX2_climb_124 ?_
            refine lv_iload hx hb dX2_climb_127 (lv_at hl 0 rfl) ?_
            refine lv_if_lt (tgt := 150) hx hb dX2_climb_129 (by decide) (fun c_129 => ?_) (fun c_129 => ?_)
            · have c_129 : ((rz h (u + w * (k + 1)))) < 0 := (nI_ltI (by omega) (by decide)).mp c_129
              exact absurd c_129 (Nat.not_lt_zero _)
            · have c_129 : ¬ (((rz h (u + w * (k + 1)))) < 0) := fun q_ => c_129 ((nI_ltI (by omega) (by decide)).mpr q_)
              refine lv_iload hx hb dX2_climb_132 (lv_at hl 0 rfl) ?_
              refine k_gets hx hb hts hown E.2.2.1 I.2.2 (List.mem_of_getElem? (i := 8) rfl) dX2_climb_134 (fun t1 ht1 => ?_)
              refine va_tlen hx hb ht1 I.2.2 (v := nI 11) rfl dX2_climb_137 ?_
              refine lv_icmp_ge (tgt := 150) hx hb dX2_climb_138 (by decide) (fun c_138 => ?_) (fun c_138 => ?_)
              · have c_138 : 11 ≤ ((rz h (u + w * (k + 1)))) := (nI_leI (by omega) (by omega)).mp c_138
                omega
              · have c_138 : ¬ (11 ≤ ((rz h (u + w * (k + 1))))) := fun q_ => c_138 ((nI_leI (by omega) (by omega)).mpr q_)
                refine k_gets hx hb hts hown E.2.2.1 I.2.2 (List.mem_of_getElem? (i := 8) rfl) dX2_climb_141 (fun t2 ht2 => ?_)
                refine lv_iload hx hb dX2_climb_144 (lv_at hl 0 rfl) ?_
                refine va_ti (v := .int (nI (isq (100 - rz h (u + w * (k + 1)) * rz h (u + w * (k + 1)))))) hx hb ht2 I.2.2 (vp_in_nI (show _ < 11 by omega) (by decide)) (by rw [nI_clamp (by omega)]; exact congrArg Value.int (kRUNS_at _ hz10)) dX2_climb_146 ?_
                refine lv_goto (tgt := 151) hx hb dX2_climb_147 (by decide) ?_
                refine lv_iadd hx hb dX2_climb_151 ?_
                rw [nI_add]
                refine k_put (C := RX2) (T := TX2) (N := 12) (ty0 := tyX2) (ty := .int) (v := .int (nI (((sX h w u k)) + ((isq (100 - rz h (u + w * (k + 1)) * rz h (u + w * (k + 1)))))))) hx hb hts hown E I iX2 tyX2_ok nmX2 (14) (by decide) (r0 := (upd (upd (upd (σ 14) 9 (nI (k + 1))) 10 (nI (((sR h w u k)) + ((rz h (u + w * (k + 1))))))) 11 (nI (sX h w u k)))) rfl kc_14 rfl 11 (by decide) (List.mem_of_getElem? (i := 3) rfl) rfl rfl rfl rfl (Nat.le_of_ble_eq_true rfl) (upd (upd (upd (σ 14) 9 (nI (k + 1))) 10 (nI (((sR h w u k)) + ((rz h (u + w * (k + 1))))))) 11 (nI (((sX h w u k)) + ((isq (100 - rz h (u + w * (k + 1)) * rz h (u + w * (k + 1)))))))) rfl (σ2 := va_up σ 14 (upd (upd (upd (σ 14) 9 (nI (k + 1))) 10 (nI (((sR h w u k)) + ((rz h (u + w * (k + 1))))))) 11 (nI (((sX h w u k)) + ((isq (100 - rz h (u + w * (k + 1)) * rz h (u + w * (k + 1))))))))) (bx_uu _ _ _ _) dX2_climb_152 (fun H locs I => ?_)
                refine lv_goto (tgt := 34) hx hb dX2_climb_155 (by decide) ?_
                exact ih (k + 1) (by omega) (by omega) (fun j hj => by by_cases q : j = k; (rw [q]; omega); exact hno j (by omega)) _ _ I _ (lv_sub hl [3, 4, 2, 1] rfl)
          · have c_96 : (isq (h * h + (u + w * (k + 1)) * (u + w * (k + 1)))) = 0 := (nI_eq (by omega) (by decide)).mp c_96
            omega
  exact LP_34 _ 0 (Nat.lt_succ_self _) (Nat.zero_le _) (fun j hj => absurd hj (Nat.not_lt_zero j)) _ _ I _ (lv_sub hl [2, 3, 1, 0] rfl)

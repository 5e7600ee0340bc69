/-! THE REFERENCE: done -/
set_option maxHeartbeats 4000000 in
set_option maxRecDepth 100000 in
theorem c_X8_drag (cy : Nat → ClassId) (D : va_G) (ad : Nat → Nat) (l : Launch) (σ : Nat → Nat → Int32) (N : Nat → Nat) (hN : nOk N) (i : Nat) (hi : i < N 1) (hM : mN σ N) (side : Nat) (hs3 : side ≤ 3) : kMi 6 ad (kcM cy ad) cy D l yX8_drag wsX8_drag ({ frames := 3, cells := 0, slots := 0, locals := 65 }) [.ref (ad 0), .int (nI i), .int (nI side)] σ (fun r σ' => r = nI (if pStay N i side = false then 1 else 0) ∧ mN σ' (pDrag N i side) ∧ qn σ σ') := by
  have h5 := hN.1
  have H_i : i < 5 := by omega
  have hsh := hN.2.2 i hi
  unfold nSh at hsh
  have hQ := qn_rf σ
  obtain ⟨S, hS⟩ : ∃ z, z = side := ⟨_, rfl⟩
  refine k_entry (cc := cX8_drag) (maxL := 6) (ret := (some .int)) (by decide) rfl (Nat.le_of_ble_eq_true rfl) ?_
  intro p e s m below meth c hx hb hr hml hown hts hlk E I ls hl
  have hA : ∀ q, s.heap.size ≤ q → kA 6 ad s.heap.size q := fun q h => Or.inr h
  have hown : s.vm.findClass RX8 = some m.cls := hown
  have hl : lv_has ls 6 [(0, .ref (ad 0)), (1, .int (nI i)), (2, .int (nI side))] := hl
  rcases (show side = 0 ∨ side = 1 ∨ side = 2 ∨ side = 3 by omega) with rfl | rfl | rfl | rfl
  · refine lv_iload_n hx hb dX8_drag_0 rfl (lv_at hl 2 rfl) ?_
    refine lv_iconst (v := nI 1) hx hb dX8_drag_1 (by decide) ?_
    refine lv_icmp_ne (tgt := 9) hx hb dX8_drag_2 (by decide) (fun c_2 => ?_) (fun c_2 => ?_)
    · refine lv_iload_n hx hb dX8_drag_9 rfl (lv_at hl 2 rfl) ?_
      refine lv_iconst (v := nI 3) hx hb dX8_drag_10 (by decide) ?_
      refine lv_icmp_ne (tgt := 18) hx hb dX8_drag_11 (by decide) (fun c_11 => ?_) (fun c_11 => ?_)
      · refine lv_iconst (v := nI 0) hx hb dX8_drag_18 (by decide) ?_
        refine lv_istore_n (lv' := [(3, .int (nI 0)), (0, .ref (ad 0)), (1, .int (nI i)), (2, .int (nI 0))]) hx hb dX8_drag_19 rfl hl (by decide) rfl (fun ls hl => ?_)
        refine lv_iload_n hx hb dX8_drag_20 rfl (lv_at hl 3 rfl) ?_
        refine lv_if_ne (tgt := 28) hx hb dX8_drag_21 (by decide) (fun c_21 => ?_) (fun c_21 => ?_)
        · exact absurd c_21 (by decide)
        · refine lv_iconst (v := (-1 : Int32)) hx hb dX8_drag_24 (by decide) ?_
          refine lv_goto (tgt := 38) hx hb dX8_drag_25 (by decide) ?_
          refine lv_istore (lv' := [(4, .int (-1)), (3, .int (nI 0)), (0, .ref (ad 0)), (1, .int (nI i)), (2, .int (nI 0))]) hx hb dX8_drag_38 hl (by decide) rfl (fun ls hl => ?_)
          refine lv_aload_n hx hb dX8_drag_40 rfl (lv_at hl 2 rfl) ?_
          refine lv_aload_n hx hb dX8_drag_41 rfl (lv_at hl 2 rfl) ?_
          refine lv_iload_n hx hb dX8_drag_42 rfl (lv_at hl 3 rfl) ?_
          refine lv_iconst (v := nI 0) hx hb dX8_drag_43 (by decide) ?_
          refine k_calli (k := 0) (As := [.int (nI i), .int (nI 0)]) (rest := [.ref (ad 0)]) ⟨hx, hb, hml, hown, hts⟩ (c_X8_of cy D ad l σ i (0) (N (23 + 13 * i)) (by omega) (hM _ (by omega))) (cwV 2 hts gX8_drag_X8_of rfl rfl rfl (by decide +kernel) ⟨Nat.le_of_ble_eq_true rfl, Nat.le_of_ble_eq_true rfl⟩) E hA I (k_recv E I (by decide) km_0 rfl) rfl hl.1 rfl (lv_room (Nat.le_of_ble_eq_true rfl)) dX8_drag_44 ⟨Nat.le_of_ble_eq_true rfl, Nat.le_of_ble_eq_true rfl⟩ (fun r_44 σ_44 H locs hp_44 I => ?_)
          obtain ⟨rfl, rfl⟩ := hp_44
          refine lv_iload_n hx hb dX8_drag_47 rfl (lv_at hl 1 rfl) ?_
          refine lv_iadd hx hb dX8_drag_48 ?_
          rw [nI_add]
          refine lv_aload_n hx hb dX8_drag_49 rfl (lv_at hl 2 rfl) ?_
          refine lv_iload_n hx hb dX8_drag_50 rfl (lv_at hl 3 rfl) ?_
          refine lv_iconst (v := nI 1) hx hb dX8_drag_51 (by decide) ?_
          refine k_calli (k := 0) (As := [.int (nI i), .int (nI 1)]) (rest := [.int (nI ((N (23 + 13 * i)) + 0)), .ref (ad 0)]) ⟨hx, hb, hml, hown, hts⟩ (c_X8_of cy D ad l σ i (1) (N (23 + 13 * i + 1)) (by omega) (hM _ (by omega))) (cwV 2 hts gX8_drag_X8_of rfl rfl rfl (by decide +kernel) ⟨Nat.le_of_ble_eq_true rfl, Nat.le_of_ble_eq_true rfl⟩) E hA I (k_recv E I (by decide) km_0 rfl) rfl hl.1 rfl (lv_room (Nat.le_of_ble_eq_true rfl)) dX8_drag_52 ⟨Nat.le_of_ble_eq_true rfl, Nat.le_of_ble_eq_true rfl⟩ (fun r_52 σ_52 H locs hp_52 I => ?_)
          obtain ⟨rfl, rfl⟩ := hp_52
          refine lv_iload hx hb dX8_drag_55 (lv_at hl 0 rfl) ?_
          refine lv_iadd hx hb dX8_drag_57 ?_
          refine k_calli (k := 0) (As := [.int (nI ((N (23 + 13 * i)) + 0)), .int ((nI (N (23 + 13 * i + 1))) + (-1))]) (rest := []) ⟨hx, hb, hml, hown, hts⟩ (c_X8_isField cy D ad l σ ((nI ((N (23 + 13 * i)) + 0))) (((nI (N (23 + 13 * i + 1))) + (-1))) N hN hM) (cwV 2 hts gX8_drag_X8_isField rfl rfl rfl (by decide +kernel) ⟨Nat.le_of_ble_eq_true rfl, Nat.le_of_ble_eq_true rfl⟩) E hA I (k_recv E I (by decide) km_0 rfl) rfl hl.1 rfl (lv_room (Nat.le_of_ble_eq_true rfl)) dX8_drag_58 ⟨Nat.le_of_ble_eq_true rfl, Nat.le_of_ble_eq_true rfl⟩ (fun r_58 σ_58 H locs hp_58 I => ?_)
          obtain ⟨hk_, rfl⟩ := hp_58
          first | rw [nI_toInt (by omega), nI_toInt (by omega)] at hk_ | rw [km1_toInt (by omega), nI_toInt (by omega)] at hk_ | rw [nI_toInt (by omega), km1_toInt (by omega)] at hk_
          rcases hk_ with ⟨rfl, g1⟩ | ⟨rfl, g1⟩
          · refine lv_if_eq (tgt := 104) hx hb dX8_drag_61 (by decide) (fun c_61 => ?_) (fun c_61 => ?_)
            · exact absurd c_61 (by decide)
            · refine lv_aload_n hx hb dX8_drag_64 rfl (lv_at hl 2 rfl) ?_
              refine lv_iload_n hx hb dX8_drag_65 rfl (lv_at hl 3 rfl) ?_
              refine lv_bipush (v := nI 9) hx hb dX8_drag_66 (by decide) ?_
              refine k_calli (k := 0) (As := [.int (nI i), .int (nI 9)]) (rest := []) ⟨hx, hb, hml, hown, hts⟩ (c_X8_of cy D ad l σ i (9) (N (23 + 13 * i + 9)) (by omega) (hM _ (by omega))) (cwV 2 hts gX8_drag_X8_of rfl rfl rfl (by decide +kernel) ⟨Nat.le_of_ble_eq_true rfl, Nat.le_of_ble_eq_true rfl⟩) E hA I (k_recv E I (by decide) km_0 rfl) rfl hl.1 rfl (lv_room (Nat.le_of_ble_eq_true rfl)) dX8_drag_68 ⟨Nat.le_of_ble_eq_true rfl, Nat.le_of_ble_eq_true rfl⟩ (fun r_68 σ_68 H locs hp_68 I => ?_)
              obtain ⟨rfl, rfl⟩ := hp_68
              refine lv_if_eq (tgt := 100) hx hb dX8_drag_71 (by decide) (fun c_71 => ?_) (fun c_71 => ?_)
              · have c_71 : (N (23 + 13 * i + 9)) = 0 := (nI_eq (by omega) (by decide)).mp c_71
                have hm0 : N (23 + 13 * i + 9) = 0 := by omega
                refine lv_iconst (v := nI 1) hx hb dX8_drag_100 (by decide) ?_
                refine lv_goto (tgt := 105) hx hb dX8_drag_101 (by decide) ?_
                refine lv_istore (lv' := [(5, .int (nI 1)), (4, .int (-1)), (3, .int (nI 0)), (0, .ref (ad 0)), (1, .int (nI i)), (2, .int (nI 0))]) hx hb dX8_drag_105 hl (by decide) rfl (fun ls hl => ?_)
                refine lv_iload hx hb dX8_drag_107 (lv_at hl 0 rfl) ?_
                refine lv_if_ne (tgt := 122) hx hb dX8_drag_109 (by decide) (fun c_109 => ?_) (fun c_109 => ?_)
                · refine lv_aload_n hx hb dX8_drag_122 rfl (lv_at hl 3 rfl) ?_
                  refine lv_iload_n hx hb dX8_drag_123 rfl (lv_at hl 4 rfl) ?_
                  refine lv_iconst (v := nI 0) hx hb dX8_drag_124 (by decide) ?_
                  refine lv_aload_n hx hb dX8_drag_125 rfl (lv_at hl 3 rfl) ?_
                  refine lv_iload_n hx hb dX8_drag_126 rfl (lv_at hl 4 rfl) ?_
                  refine lv_iconst (v := nI 0) hx hb dX8_drag_127 (by decide) ?_
                  refine k_calli (k := 0) (As := [.int (nI i), .int (nI 0)]) (rest := [.int (nI 0), .int (nI i), .ref (ad 0)]) ⟨hx, hb, hml, hown, hts⟩ (c_X8_of cy D ad l σ i (0) (N (23 + 13 * i)) (by omega) (hM _ (by omega))) (cwV 2 hts gX8_drag_X8_of rfl rfl rfl (by decide +kernel) ⟨Nat.le_of_ble_eq_true rfl, Nat.le_of_ble_eq_true rfl⟩) E hA I (k_recv E I (by decide) km_0 rfl) rfl hl.1 rfl (lv_room (Nat.le_of_ble_eq_true rfl)) dX8_drag_128 ⟨Nat.le_of_ble_eq_true rfl, Nat.le_of_ble_eq_true rfl⟩ (fun r_128 σ_128 H locs hp_128 I => ?_)
                  obtain ⟨rfl, rfl⟩ := hp_128
                  refine lv_iload_n hx hb dX8_drag_131 rfl (lv_at hl 2 rfl) ?_
                  refine lv_iadd hx hb dX8_drag_132 ?_
                  rw [nI_add]
                  refine lv_topi (fun t_133 et_133 => ?_)
                  have et_133 : t_133 = nI (mX S (N (23 + 13 * i))) := et_133.trans (by subst hS; first | (rw [sb_m1 (by omega)]; exact congrArg nI (by unfold mX; simp)) | exact congrArg nI (by unfold mX; simp))
                  subst et_133
                  refine k_callv (k := 0) (As := [.int (nI i), .int (nI 0), .int (nI (mX S (N (23 + 13 * i))))]) (rest := []) ⟨hx, hb, hml, hown, hts⟩ (c_X8_put cy D ad l σ i 0 ((nI (mX S (N (23 + 13 * i))))) (by omega)) (cwV 3 hts gX8_drag_X8_put rfl rfl rfl (by decide +kernel) ⟨Nat.le_of_ble_eq_true rfl, Nat.le_of_ble_eq_true rfl⟩) E hA I (k_recv E I (by decide) km_0 rfl) rfl hl.1 rfl (lv_room (Nat.le_of_ble_eq_true rfl)) dX8_drag_133 ⟨Nat.le_of_ble_eq_true rfl, Nat.le_of_ble_eq_true rfl⟩ (fun σ_133 H locs hp_133 I => ?_)
                  have hM1 := mN_put (k := 23 + 13 * i) (v := mX S (N (23 + 13 * i))) hM hp_133
                  have hQ := qn_tr hQ (qn_put hp_133)
                  have e1 : σ_133 1 (23 + 13 * i + 1) = nI (N (23 + 13 * i + 1)) := by rw [hp_133, va_up_self, pk_un (by omega)]; exact hM _ (by omega)
                  have e8 : σ_133 1 (23 + 13 * i + 8) = nI (N (23 + 13 * i + 8)) := by rw [hp_133, va_up_self, pk_un (by omega)]; exact hM _ (by omega)
                  have e9 : σ_133 1 (23 + 13 * i + 9) = nI (N (23 + 13 * i + 9)) := by rw [hp_133, va_up_self, pk_un (by omega)]; exact hM _ (by omega)
                  have e10 : σ_133 1 (23 + 13 * i + 10) = nI (N (23 + 13 * i + 10)) := by rw [hp_133, va_up_self, pk_un (by omega)]; exact hM _ (by omega)
                  have e11 : σ_133 1 (23 + 13 * i + 11) = nI (N (23 + 13 * i + 11)) := by rw [hp_133, va_up_self, pk_un (by omega)]; exact hM _ (by omega)
                  refine lv_aload_n hx hb dX8_drag_136 rfl (lv_at hl 3 rfl) ?_
                  refine lv_iload_n hx hb dX8_drag_137 rfl (lv_at hl 4 rfl) ?_
                  refine lv_iconst (v := nI 1) hx hb dX8_drag_138 (by decide) ?_
                  refine lv_aload_n hx hb dX8_drag_139 rfl (lv_at hl 3 rfl) ?_
                  refine lv_iload_n hx hb dX8_drag_140 rfl (lv_at hl 4 rfl) ?_
                  refine lv_iconst (v := nI 1) hx hb dX8_drag_141 (by decide) ?_
                  refine k_calli (k := 0) (As := [.int (nI i), .int (nI 1)]) (rest := [.int (nI 1), .int (nI i), .ref (ad 0)]) ⟨hx, hb, hml, hown, hts⟩ (c_X8_of cy D ad l σ_133 i 1 (N (23 + 13 * i + 1)) (by omega) e1) (cwV 2 hts gX8_drag_X8_of rfl rfl rfl (by decide +kernel) ⟨Nat.le_of_ble_eq_true rfl, Nat.le_of_ble_eq_true rfl⟩) E hA I (k_recv E I (by decide) km_0 rfl) rfl hl.1 rfl (lv_room (Nat.le_of_ble_eq_true rfl)) dX8_drag_142 ⟨Nat.le_of_ble_eq_true rfl, Nat.le_of_ble_eq_true rfl⟩ (fun r_142 σ_142 H locs hp_142 I => ?_)
                  obtain ⟨rfl, rfl⟩ := hp_142
                  refine lv_iload hx hb dX8_drag_145 (lv_at hl 1 rfl) ?_
                  refine lv_iadd hx hb dX8_drag_147 ?_
                  refine lv_topi (fun t_148 et_148 => ?_)
                  have et_148 : t_148 = nI (mY S (N (23 + 13 * i + 1))) := et_148.trans (by subst hS; first | (rw [sb_m1 (by omega)]; exact congrArg nI (by unfold mY; simp)) | exact congrArg nI (by unfold mY; simp))
                  subst et_148
                  refine k_callv (k := 0) (As := [.int (nI i), .int (nI 1), .int (nI (mY S (N (23 + 13 * i + 1))))]) (rest := []) ⟨hx, hb, hml, hown, hts⟩ (c_X8_put cy D ad l σ_133 i 1 ((nI (mY S (N (23 + 13 * i + 1))))) (by omega)) (cwV 3 hts gX8_drag_X8_put rfl rfl rfl (by decide +kernel) ⟨Nat.le_of_ble_eq_true rfl, Nat.le_of_ble_eq_true rfl⟩) E hA I (k_recv E I (by decide) km_0 rfl) rfl hl.1 rfl (lv_room (Nat.le_of_ble_eq_true rfl)) dX8_drag_148 ⟨Nat.le_of_ble_eq_true rfl, Nat.le_of_ble_eq_true rfl⟩ (fun σ_148 H locs hp_148 I => ?_)
                  have hM2 := mN_put (k := 23 + 13 * i + 1) (v := mY S (N (23 + 13 * i + 1))) hM1 hp_148
                  have hQ := qn_tr hQ (qn_put hp_148)
                  have e8 : σ_148 1 (23 + 13 * i + 8) = nI (N (23 + 13 * i + 8)) := by rw [hp_148, va_up_self, pk_un (by omega)]; exact e8
                  have e9 : σ_148 1 (23 + 13 * i + 9) = nI (N (23 + 13 * i + 9)) := by rw [hp_148, va_up_self, pk_un (by omega)]; exact e9
                  have e10 : σ_148 1 (23 + 13 * i + 10) = nI (N (23 + 13 * i + 10)) := by rw [hp_148, va_up_self, pk_un (by omega)]; exact e10
                  have e11 : σ_148 1 (23 + 13 * i + 11) = nI (N (23 + 13 * i + 11)) := by rw [hp_148, va_up_self, pk_un (by omega)]; exact e11
                  refine lv_aload_n hx hb dX8_drag_151 rfl (lv_at hl 3 rfl) ?_
                  refine lv_iload_n hx hb dX8_drag_152 rfl (lv_at hl 4 rfl) ?_
                  refine lv_bipush (v := nI 9) hx hb dX8_drag_153 (by decide) ?_
                  refine k_calli (k := 0) (As := [.int (nI i), .int (nI 9)]) (rest := []) ⟨hx, hb, hml, hown, hts⟩ (c_X8_of cy D ad l σ_148 i 9 (N (23 + 13 * i + 9)) (by omega) e9) (cwV 2 hts gX8_drag_X8_of rfl rfl rfl (by decide +kernel) ⟨Nat.le_of_ble_eq_true rfl, Nat.le_of_ble_eq_true rfl⟩) E hA I (k_recv E I (by decide) km_0 rfl) rfl hl.1 rfl (lv_room (Nat.le_of_ble_eq_true rfl)) dX8_drag_155 ⟨Nat.le_of_ble_eq_true rfl, Nat.le_of_ble_eq_true rfl⟩ (fun r_155 σ_155 H locs hp_155 I => ?_)
                  obtain ⟨rfl, rfl⟩ := hp_155
                  refine lv_iconst (v := nI 1) hx hb dX8_drag_158 (by decide) ?_
                  refine lv_icmp_ne (tgt := 195) hx hb dX8_drag_159 (by decide) (fun c_159 => ?_) (fun c_159 => ?_)
                  · have c_159 : ¬ ((N (23 + 13 * i + 9)) = 1) := fun q_ => c_159 ((nI_eq (by omega) (by omega)).mpr q_)
                    refine lv_aload_n hx hb dX8_drag_195 rfl (lv_at hl 3 rfl) ?_
                    refine lv_iload_n hx hb dX8_drag_196 rfl (lv_at hl 4 rfl) ?_
                    refine lv_bipush (v := nI 8) hx hb dX8_drag_197 (by decide) ?_
                    refine lv_aload_n hx hb dX8_drag_199 rfl (lv_at hl 3 rfl) ?_
                    refine lv_iload_n hx hb dX8_drag_200 rfl (lv_at hl 4 rfl) ?_
                    refine lv_bipush (v := nI 8) hx hb dX8_drag_201 (by decide) ?_
                    refine k_calli (k := 0) (As := [.int (nI i), .int (nI 8)]) (rest := [.int (nI 8), .int (nI i), .ref (ad 0)]) ⟨hx, hb, hml, hown, hts⟩ (c_X8_of cy D ad l σ_148 i 8 (N (23 + 13 * i + 8)) (by omega) e8) (cwV 2 hts gX8_drag_X8_of rfl rfl rfl (by decide +kernel) ⟨Nat.le_of_ble_eq_true rfl, Nat.le_of_ble_eq_true rfl⟩) E hA I (k_recv E I (by decide) km_0 rfl) rfl hl.1 rfl (lv_room (Nat.le_of_ble_eq_true rfl)) dX8_drag_203 ⟨Nat.le_of_ble_eq_true rfl, Nat.le_of_ble_eq_true rfl⟩ (fun r_203 σ_203 H locs hp_203 I => ?_)
                    obtain ⟨rfl, rfl⟩ := hp_203
                    refine lv_iconst (v := nI 1) hx hb dX8_drag_206 (by decide) ?_
                    refine lv_iadd hx hb dX8_drag_207 ?_
                    rw [nI_add]
                    refine k_callv (k := 0) (As := [.int (nI i), .int (nI 8), .int (nI ((N (23 + 13 * i + 8)) + 1))]) (rest := []) ⟨hx, hb, hml, hown, hts⟩ (c_X8_put cy D ad l σ_148 i 8 ((nI ((N (23 + 13 * i + 8)) + 1))) (by omega)) (cwV 3 hts gX8_drag_X8_put rfl rfl rfl (by decide +kernel) ⟨Nat.le_of_ble_eq_true rfl, Nat.le_of_ble_eq_true rfl⟩) E hA I (k_recv E I (by decide) km_0 rfl) rfl hl.1 rfl (lv_room (Nat.le_of_ble_eq_true rfl)) dX8_drag_208 ⟨Nat.le_of_ble_eq_true rfl, Nat.le_of_ble_eq_true rfl⟩ (fun σ_208 H locs hp_208 I => ?_)
                    have hM2 := mN_put (k := 23 + 13 * i + 8) (v := N (23 + 13 * i + 8) + 1) hM2 hp_208
                    have hQ := qn_tr hQ (qn_put hp_208)
                    refine lv_iconst (v := nI 0) hx hb dX8_drag_211 (by decide) ?_
                    exact k_iret hx hb hr hlk I dX8_drag_212 (by have hst : pStay N i S = true := (by subst hS; unfold pStay mIn; simp; omega); first | (have hk := drag_m1 hst (by omega); subst hS; exact ⟨by rw [hst]; rfl, mN_same hM2 (fun k _ => hk k), hQ⟩) | (have hk := drag_m2 hst (by omega); subst hS; exact ⟨by rw [hst]; rfl, mN_same hM2 (fun k _ => hk k), hQ⟩))
                  · have c_159 : (N (23 + 13 * i + 9)) = 1 := (nI_eq (by omega) (by omega)).mp c_159
                    have hs2 := hsh.2.2.2.2.1 (by omega)
                    refine lv_aload_n hx hb dX8_drag_162 rfl (lv_at hl 3 rfl) ?_
                    refine lv_iload_n hx hb dX8_drag_163 rfl (lv_at hl 4 rfl) ?_
                    refine lv_bipush (v := nI 10) hx hb dX8_drag_164 (by decide) ?_
                    refine lv_aload_n hx hb dX8_drag_166 rfl (lv_at hl 3 rfl) ?_
                    refine lv_iload_n hx hb dX8_drag_167 rfl (lv_at hl 4 rfl) ?_
                    refine lv_bipush (v := nI 10) hx hb dX8_drag_168 (by decide) ?_
                    refine k_calli (k := 0) (As := [.int (nI i), .int (nI 10)]) (rest := [.int (nI 10), .int (nI i), .ref (ad 0)]) ⟨hx, hb, hml, hown, hts⟩ (c_X8_of cy D ad l σ_148 i 10 (N (23 + 13 * i + 10)) (by omega) e10) (cwV 2 hts gX8_drag_X8_of rfl rfl rfl (by decide +kernel) ⟨Nat.le_of_ble_eq_true rfl, Nat.le_of_ble_eq_true rfl⟩) E hA I (k_recv E I (by decide) km_0 rfl) rfl hl.1 rfl (lv_room (Nat.le_of_ble_eq_true rfl)) dX8_drag_170 ⟨Nat.le_of_ble_eq_true rfl, Nat.le_of_ble_eq_true rfl⟩ (fun r_170 σ_170 H locs hp_170 I => ?_)
                    obtain ⟨rfl, rfl⟩ := hp_170
                    refine lv_iload_n hx hb dX8_drag_173 rfl (lv_at hl 2 rfl) ?_
                    refine lv_iadd hx hb dX8_drag_174 ?_
                    rw [nI_add]
                    refine lv_topi (fun t_175 et_175 => ?_)
                    have et_175 : t_175 = nI (mX S (N (23 + 13 * i + 10))) := et_175.trans (by subst hS; first | (rw [sb_m1 (by omega)]; exact congrArg nI (by unfold mX; simp)) | exact congrArg nI (by unfold mX; simp))
                    subst et_175
                    refine k_callv (k := 0) (As := [.int (nI i), .int (nI 10), .int (nI (mX S (N (23 + 13 * i + 10))))]) (rest := []) ⟨hx, hb, hml, hown, hts⟩ (c_X8_put cy D ad l σ_148 i 10 ((nI (mX S (N (23 + 13 * i + 10))))) (by omega)) (cwV 3 hts gX8_drag_X8_put rfl rfl rfl (by decide +kernel) ⟨Nat.le_of_ble_eq_true rfl, Nat.le_of_ble_eq_true rfl⟩) E hA I (k_recv E I (by decide) km_0 rfl) rfl hl.1 rfl (lv_room (Nat.le_of_ble_eq_true rfl)) dX8_drag_175 ⟨Nat.le_of_ble_eq_true rfl, Nat.le_of_ble_eq_true rfl⟩ (fun σ_175 H locs hp_175 I => ?_)
                    have hM2 := mN_put (k := 23 + 13 * i + 10) (v := mX S (N (23 + 13 * i + 10))) hM2 hp_175
                    have hQ := qn_tr hQ (qn_put hp_175)
                    have e8 : σ_175 1 (23 + 13 * i + 8) = nI (N (23 + 13 * i + 8)) := by rw [hp_175, va_up_self, pk_un (by omega)]; exact e8
                    have e11 : σ_175 1 (23 + 13 * i + 11) = nI (N (23 + 13 * i + 11)) := by rw [hp_175, va_up_self, pk_un (by omega)]; exact e11
                    refine lv_aload_n hx hb dX8_drag_178 rfl (lv_at hl 3 rfl) ?_
                    refine lv_iload_n hx hb dX8_drag_179 rfl (lv_at hl 4 rfl) ?_
                    refine lv_bipush (v := nI 11) hx hb dX8_drag_180 (by decide) ?_
                    refine lv_aload_n hx hb dX8_drag_182 rfl (lv_at hl 3 rfl) ?_
                    refine lv_iload_n hx hb dX8_drag_183 rfl (lv_at hl 4 rfl) ?_
                    refine lv_bipush (v := nI 11) hx hb dX8_drag_184 (by decide) ?_
                    refine k_calli (k := 0) (As := [.int (nI i), .int (nI 11)]) (rest := [.int (nI 11), .int (nI i), .ref (ad 0)]) ⟨hx, hb, hml, hown, hts⟩ (c_X8_of cy D ad l σ_175 i 11 (N (23 + 13 * i + 11)) (by omega) e11) (cwV 2 hts gX8_drag_X8_of rfl rfl rfl (by decide +kernel) ⟨Nat.le_of_ble_eq_true rfl, Nat.le_of_ble_eq_true rfl⟩) E hA I (k_recv E I (by decide) km_0 rfl) rfl hl.1 rfl (lv_room (Nat.le_of_ble_eq_true rfl)) dX8_drag_186 ⟨Nat.le_of_ble_eq_true rfl, Nat.le_of_ble_eq_true rfl⟩ (fun r_186 σ_186 H locs hp_186 I => ?_)
                    obtain ⟨rfl, rfl⟩ := hp_186
                    refine lv_iload hx hb dX8_drag_189 (lv_at hl 1 rfl) ?_
                    refine lv_iadd hx hb dX8_drag_191 ?_
                    refine lv_topi (fun t_192 et_192 => ?_)
                    have et_192 : t_192 = nI (mY S (N (23 + 13 * i + 11))) := et_192.trans (by subst hS; first | (rw [sb_m1 (by omega)]; exact congrArg nI (by unfold mY; simp)) | exact congrArg nI (by unfold mY; simp))
                    subst et_192
                    refine k_callv (k := 0) (As := [.int (nI i), .int (nI 11), .int (nI (mY S (N (23 + 13 * i + 11))))]) (rest := []) ⟨hx, hb, hml, hown, hts⟩ (c_X8_put cy D ad l σ_175 i 11 ((nI (mY S (N (23 + 13 * i + 11))))) (by omega)) (cwV 3 hts gX8_drag_X8_put rfl rfl rfl (by decide +kernel) ⟨Nat.le_of_ble_eq_true rfl, Nat.le_of_ble_eq_true rfl⟩) E hA I (k_recv E I (by decide) km_0 rfl) rfl hl.1 rfl (lv_room (Nat.le_of_ble_eq_true rfl)) dX8_drag_192 ⟨Nat.le_of_ble_eq_true rfl, Nat.le_of_ble_eq_true rfl⟩ (fun σ_192 H locs hp_192 I => ?_)
                    have hM2 := mN_put (k := 23 + 13 * i + 11) (v := mY S (N (23 + 13 * i + 11))) hM2 hp_192
                    have hQ := qn_tr hQ (qn_put hp_192)
                    have e8 : σ_192 1 (23 + 13 * i + 8) = nI (N (23 + 13 * i + 8)) := by rw [hp_192, va_up_self, pk_un (by omega)]; exact e8
                    refine lv_aload_n hx hb dX8_drag_195 rfl (lv_at hl 3 rfl) ?_
                    refine lv_iload_n hx hb dX8_drag_196 rfl (lv_at hl 4 rfl) ?_
                    refine lv_bipush (v := nI 8) hx hb dX8_drag_197 (by decide) ?_
                    refine lv_aload_n hx hb dX8_drag_199 rfl (lv_at hl 3 rfl) ?_
                    refine lv_iload_n hx hb dX8_drag_200 rfl (lv_at hl 4 rfl) ?_
                    refine lv_bipush (v := nI 8) hx hb dX8_drag_201 (by decide) ?_
                    refine k_calli (k := 0) (As := [.int (nI i), .int (nI 8)]) (rest := [.int (nI 8), .int (nI i), .ref (ad 0)]) ⟨hx, hb, hml, hown, hts⟩ (c_X8_of cy D ad l σ_192 i 8 (N (23 + 13 * i + 8)) (by omega) e8) (cwV 2 hts gX8_drag_X8_of rfl rfl rfl (by decide +kernel) ⟨Nat.le_of_ble_eq_true rfl, Nat.le_of_ble_eq_true rfl⟩) E hA I (k_recv E I (by decide) km_0 rfl) rfl hl.1 rfl (lv_room (Nat.le_of_ble_eq_true rfl)) dX8_drag_203 ⟨Nat.le_of_ble_eq_true rfl, Nat.le_of_ble_eq_true rfl⟩ (fun r_203 σ_203 H locs hp_203 I => ?_)
                    obtain ⟨rfl, rfl⟩ := hp_203
                    refine lv_iconst (v := nI 1) hx hb dX8_drag_206 (by decide) ?_
                    refine lv_iadd hx hb dX8_drag_207 ?_
                    rw [nI_add]
                    refine k_callv (k := 0) (As := [.int (nI i), .int (nI 8), .int (nI ((N (23 + 13 * i + 8)) + 1))]) (rest := []) ⟨hx, hb, hml, hown, hts⟩ (c_X8_put cy D ad l σ_192 i 8 ((nI ((N (23 + 13 * i + 8)) + 1))) (by omega)) (cwV 3 hts gX8_drag_X8_put rfl rfl rfl (by decide +kernel) ⟨Nat.le_of_ble_eq_true rfl, Nat.le_of_ble_eq_true rfl⟩) E hA I (k_recv E I (by decide) km_0 rfl) rfl hl.1 rfl (lv_room (Nat.le_of_ble_eq_true rfl)) dX8_drag_208 ⟨Nat.le_of_ble_eq_true rfl, Nat.le_of_ble_eq_true rfl⟩ (fun σ_208 H locs hp_208 I => ?_)
                    have hM2 := mN_put (k := 23 + 13 * i + 8) (v := N (23 + 13 * i + 8) + 1) hM2 hp_208
                    have hQ := qn_tr hQ (qn_put hp_208)
                    refine lv_iconst (v := nI 0) hx hb dX8_drag_211 (by decide) ?_
                    exact k_iret hx hb hr hlk I dX8_drag_212 (by have hst : pStay N i S = true := (by subst hS; unfold pStay mIn; simp; omega); first | (have hk := drag_m1 hst (by omega); subst hS; exact ⟨by rw [hst]; rfl, mN_same hM2 (fun k _ => hk k), hQ⟩) | (have hk := drag_m2 hst (by omega); subst hS; exact ⟨by rw [hst]; rfl, mN_same hM2 (fun k _ => hk k), hQ⟩))
                · exact absurd c_109 (by decide)
              · have c_71 : ¬ ((N (23 + 13 * i + 9)) = 0) := fun q_ => c_71 ((nI_eq (by omega) (by decide)).mpr q_)
                have hm : N (23 + 13 * i + 9) = 1 := by omega
                have hs2 := hsh.2.2.2.2.1 hm
                refine lv_aload_n hx hb dX8_drag_74 rfl (lv_at hl 2 rfl) ?_
                refine lv_aload_n hx hb dX8_drag_75 rfl (lv_at hl 2 rfl) ?_
                refine lv_iload_n hx hb dX8_drag_76 rfl (lv_at hl 3 rfl) ?_
                refine lv_bipush (v := nI 10) hx hb dX8_drag_77 (by decide) ?_
                refine k_calli (k := 0) (As := [.int (nI i), .int (nI 10)]) (rest := [.ref (ad 0)]) ⟨hx, hb, hml, hown, hts⟩ (c_X8_of cy D ad l σ i (10) (N (23 + 13 * i + 10)) (by omega) (hM _ (by omega))) (cwV 2 hts gX8_drag_X8_of rfl rfl rfl (by decide +kernel) ⟨Nat.le_of_ble_eq_true rfl, Nat.le_of_ble_eq_true rfl⟩) E hA I (k_recv E I (by decide) km_0 rfl) rfl hl.1 rfl (lv_room (Nat.le_of_ble_eq_true rfl)) dX8_drag_79 ⟨Nat.le_of_ble_eq_true rfl, Nat.le_of_ble_eq_true rfl⟩ (fun r_79 σ_79 H locs hp_79 I => ?_)
                obtain ⟨rfl, rfl⟩ := hp_79
                refine lv_iload_n hx hb dX8_drag_82 rfl (lv_at hl 1 rfl) ?_
                refine lv_iadd hx hb dX8_drag_83 ?_
                rw [nI_add]
                refine lv_aload_n hx hb dX8_drag_84 rfl (lv_at hl 2 rfl) ?_
                refine lv_iload_n hx hb dX8_drag_85 rfl (lv_at hl 3 rfl) ?_
                refine lv_bipush (v := nI 11) hx hb dX8_drag_86 (by decide) ?_
                refine k_calli (k := 0) (As := [.int (nI i), .int (nI 11)]) (rest := [.int (nI ((N (23 + 13 * i + 10)) + 0)), .ref (ad 0)]) ⟨hx, hb, hml, hown, hts⟩ (c_X8_of cy D ad l σ i (11) (N (23 + 13 * i + 11)) (by omega) (hM _ (by omega))) (cwV 2 hts gX8_drag_X8_of rfl rfl rfl (by decide +kernel) ⟨Nat.le_of_ble_eq_true rfl, Nat.le_of_ble_eq_true rfl⟩) E hA I (k_recv E I (by decide) km_0 rfl) rfl hl.1 rfl (lv_room (Nat.le_of_ble_eq_true rfl)) dX8_drag_88 ⟨Nat.le_of_ble_eq_true rfl, Nat.le_of_ble_eq_true rfl⟩ (fun r_88 σ_88 H locs hp_88 I => ?_)
                obtain ⟨rfl, rfl⟩ := hp_88
                refine lv_iload hx hb dX8_drag_91 (lv_at hl 0 rfl) ?_
                refine lv_iadd hx hb dX8_drag_93 ?_
                refine k_calli (k := 0) (As := [.int (nI ((N (23 + 13 * i + 10)) + 0)), .int ((nI (N (23 + 13 * i + 11))) + (-1))]) (rest := []) ⟨hx, hb, hml, hown, hts⟩ (c_X8_isField cy D ad l σ ((nI ((N (23 + 13 * i + 10)) + 0))) (((nI (N (23 + 13 * i + 11))) + (-1))) N hN hM) (cwV 2 hts gX8_drag_X8_isField rfl rfl rfl (by decide +kernel) ⟨Nat.le_of_ble_eq_true rfl, Nat.le_of_ble_eq_true rfl⟩) E hA I (k_recv E I (by decide) km_0 rfl) rfl hl.1 rfl (lv_room (Nat.le_of_ble_eq_true rfl)) dX8_drag_94 ⟨Nat.le_of_ble_eq_true rfl, Nat.le_of_ble_eq_true rfl⟩ (fun r_94 σ_94 H locs hp_94 I => ?_)
                obtain ⟨hk_, rfl⟩ := hp_94
                first | rw [nI_toInt (by omega), nI_toInt (by omega)] at hk_ | rw [km1_toInt (by omega), nI_toInt (by omega)] at hk_ | rw [nI_toInt (by omega), km1_toInt (by omega)] at hk_
                rcases hk_ with ⟨rfl, g2⟩ | ⟨rfl, g2⟩
                · refine lv_if_eq (tgt := 104) hx hb dX8_drag_97 (by decide) (fun c_97 => ?_) (fun c_97 => ?_)
                  · exact absurd c_97 (by decide)
                  · refine lv_iconst (v := nI 1) hx hb dX8_drag_100 (by decide) ?_
                    refine lv_goto (tgt := 105) hx hb dX8_drag_101 (by decide) ?_
                    refine lv_istore (lv' := [(5, .int (nI 1)), (4, .int (-1)), (3, .int (nI 0)), (0, .ref (ad 0)), (1, .int (nI i)), (2, .int (nI 0))]) hx hb dX8_drag_105 hl (by decide) rfl (fun ls hl => ?_)
                    refine lv_iload hx hb dX8_drag_107 (lv_at hl 0 rfl) ?_
                    refine lv_if_ne (tgt := 122) hx hb dX8_drag_109 (by decide) (fun c_109 => ?_) (fun c_109 => ?_)
                    · refine lv_aload_n hx hb dX8_drag_122 rfl (lv_at hl 3 rfl) ?_
                      refine lv_iload_n hx hb dX8_drag_123 rfl (lv_at hl 4 rfl) ?_
                      refine lv_iconst (v := nI 0) hx hb dX8_drag_124 (by decide) ?_
                      refine lv_aload_n hx hb dX8_drag_125 rfl (lv_at hl 3 rfl) ?_
                      refine lv_iload_n hx hb dX8_drag_126 rfl (lv_at hl 4 rfl) ?_
                      refine lv_iconst (v := nI 0) hx hb dX8_drag_127 (by decide) ?_
                      refine k_calli (k := 0) (As := [.int (nI i), .int (nI 0)]) (rest := [.int (nI 0), .int (nI i), .ref (ad 0)]) ⟨hx, hb, hml, hown, hts⟩ (c_X8_of cy D ad l σ i (0) (N (23 + 13 * i)) (by omega) (hM _ (by omega))) (cwV 2 hts gX8_drag_X8_of rfl rfl rfl (by decide +kernel) ⟨Nat.le_of_ble_eq_true rfl, Nat.le_of_ble_eq_true rfl⟩) E hA I (k_recv E I (by decide) km_0 rfl) rfl hl.1 rfl (lv_room (Nat.le_of_ble_eq_true rfl)) dX8_drag_128 ⟨Nat.le_of_ble_eq_true rfl, Nat.le_of_ble_eq_true rfl⟩ (fun r_128 σ_128 H locs hp_128 I => ?_)
                      obtain ⟨rfl, rfl⟩ := hp_128
                      refine lv_iload_n hx hb dX8_drag_131 rfl (lv_at hl 2 rfl) ?_
                      refine lv_iadd hx hb dX8_drag_132 ?_
                      rw [nI_add]
                      refine lv_topi (fun t_133 et_133 => ?_)
                      have et_133 : t_133 = nI (mX S (N (23 + 13 * i))) := et_133.trans (by subst hS; first | (rw [sb_m1 (by omega)]; exact congrArg nI (by unfold mX; simp)) | exact congrArg nI (by unfold mX; simp))
                      subst et_133
                      refine k_callv (k := 0) (As := [.int (nI i), .int (nI 0), .int (nI (mX S (N (23 + 13 * i))))]) (rest := []) ⟨hx, hb, hml, hown, hts⟩ (c_X8_put cy D ad l σ i 0 ((nI (mX S (N (23 + 13 * i))))) (by omega)) (cwV 3 hts gX8_drag_X8_put rfl rfl rfl (by decide +kernel) ⟨Nat.le_of_ble_eq_true rfl, Nat.le_of_ble_eq_true rfl⟩) E hA I (k_recv E I (by decide) km_0 rfl) rfl hl.1 rfl (lv_room (Nat.le_of_ble_eq_true rfl)) dX8_drag_133 ⟨Nat.le_of_ble_eq_true rfl, Nat.le_of_ble_eq_true rfl⟩ (fun σ_133 H locs hp_133 I => ?_)
                      have hM1 := mN_put (k := 23 + 13 * i) (v := mX S (N (23 + 13 * i))) hM hp_133
                      have hQ := qn_tr hQ (qn_put hp_133)
                      have e1 : σ_133 1 (23 + 13 * i + 1) = nI (N (23 + 13 * i + 1)) := by rw [hp_133, va_up_self, pk_un (by omega)]; exact hM _ (by omega)
                      have e8 : σ_133 1 (23 + 13 * i + 8) = nI (N (23 + 13 * i + 8)) := by rw [hp_133, va_up_self, pk_un (by omega)]; exact hM _ (by omega)
                      have e9 : σ_133 1 (23 + 13 * i + 9) = nI (N (23 + 13 * i + 9)) := by rw [hp_133, va_up_self, pk_un (by omega)]; exact hM _ (by omega)
                      have e10 : σ_133 1 (23 + 13 * i + 10) = nI (N (23 + 13 * i + 10)) := by rw [hp_133, va_up_self, pk_un (by omega)]; exact hM _ (by omega)
                      have e11 : σ_133 1 (23 + 13 * i + 11) = nI (N (23 + 13 * i + 11)) := by rw [hp_133, va_up_self, pk_un (by omega)]; exact hM _ (by omega)
                      refine lv_aload_n hx hb dX8_drag_136 rfl (lv_at hl 3 rfl) ?_
                      refine lv_iload_n hx hb dX8_drag_137 rfl (lv_at hl 4 rfl) ?_
                      refine lv_iconst (v := nI 1) hx hb dX8_drag_138 (by decide) ?_
                      refine lv_aload_n hx hb dX8_drag_139 rfl (lv_at hl 3 rfl) ?_
                      refine lv_iload_n hx hb dX8_drag_140 rfl (lv_at hl 4 rfl) ?_
                      refine lv_iconst (v := nI 1) hx hb dX8_drag_141 (by decide) ?_
                      refine k_calli (k := 0) (As := [.int (nI i), .int (nI 1)]) (rest := [.int (nI 1), .int (nI i), .ref (ad 0)]) ⟨hx, hb, hml, hown, hts⟩ (c_X8_of cy D ad l σ_133 i 1 (N (23 + 13 * i + 1)) (by omega) e1) (cwV 2 hts gX8_drag_X8_of rfl rfl rfl (by decide +kernel) ⟨Nat.le_of_ble_eq_true rfl, Nat.le_of_ble_eq_true rfl⟩) E hA I (k_recv E I (by decide) km_0 rfl) rfl hl.1 rfl (lv_room (Nat.le_of_ble_eq_true rfl)) dX8_drag_142 ⟨Nat.le_of_ble_eq_true rfl, Nat.le_of_ble_eq_true rfl⟩ (fun r_142 σ_142 H locs hp_142 I => ?_)
                      obtain ⟨rfl, rfl⟩ := hp_142
                      refine lv_iload hx hb dX8_drag_145 (lv_at hl 1 rfl) ?_
                      refine lv_iadd hx hb dX8_drag_147 ?_
                      refine lv_topi (fun t_148 et_148 => ?_)
                      have et_148 : t_148 = nI (mY S (N (23 + 13 * i + 1))) := et_148.trans (by subst hS; first | (rw [sb_m1 (by omega)]; exact congrArg nI (by unfold mY; simp)) | exact congrArg nI (by unfold mY; simp))
                      subst et_148
                      refine k_callv (k := 0) (As := [.int (nI i), .int (nI 1), .int (nI (mY S (N (23 + 13 * i + 1))))]) (rest := []) ⟨hx, hb, hml, hown, hts⟩ (c_X8_put cy D ad l σ_133 i 1 ((nI (mY S (N (23 + 13 * i + 1))))) (by omega)) (cwV 3 hts gX8_drag_X8_put rfl rfl rfl (by decide +kernel) ⟨Nat.le_of_ble_eq_true rfl, Nat.le_of_ble_eq_true rfl⟩) E hA I (k_recv E I (by decide) km_0 rfl) rfl hl.1 rfl (lv_room (Nat.le_of_ble_eq_true rfl)) dX8_drag_148 ⟨Nat.le_of_ble_eq_true rfl, Nat.le_of_ble_eq_true rfl⟩ (fun σ_148 H locs hp_148 I => ?_)
                      have hM2 := mN_put (k := 23 + 13 * i + 1) (v := mY S (N (23 + 13 * i + 1))) hM1 hp_148
                      have hQ := qn_tr hQ (qn_put hp_148)
                      have e8 : σ_148 1 (23 + 13 * i + 8) = nI (N (23 + 13 * i + 8)) := by rw [hp_148, va_up_self, pk_un (by omega)]; exact e8
                      have e9 : σ_148 1 (23 + 13 * i + 9) = nI (N (23 + 13 * i + 9)) := by rw [hp_148, va_up_self, pk_un (by omega)]; exact e9
                      have e10 : σ_148 1 (23 + 13 * i + 10) = nI (N (23 + 13 * i + 10)) := by rw [hp_148, va_up_self, pk_un (by omega)]; exact e10
                      have e11 : σ_148 1 (23 + 13 * i + 11) = nI (N (23 + 13 * i + 11)) := by rw [hp_148, va_up_self, pk_un (by omega)]; exact e11
                      refine lv_aload_n hx hb dX8_drag_151 rfl (lv_at hl 3 rfl) ?_
                      refine lv_iload_n hx hb dX8_drag_152 rfl (lv_at hl 4 rfl) ?_
                      refine lv_bipush (v := nI 9) hx hb dX8_drag_153 (by decide) ?_
                      refine k_calli (k := 0) (As := [.int (nI i), .int (nI 9)]) (rest := []) ⟨hx, hb, hml, hown, hts⟩ (c_X8_of cy D ad l σ_148 i 9 (N (23 + 13 * i + 9)) (by omega) e9) (cwV 2 hts gX8_drag_X8_of rfl rfl rfl (by decide +kernel) ⟨Nat.le_of_ble_eq_true rfl, Nat.le_of_ble_eq_true rfl⟩) E hA I (k_recv E I (by decide) km_0 rfl) rfl hl.1 rfl (lv_room (Nat.le_of_ble_eq_true rfl)) dX8_drag_155 ⟨Nat.le_of_ble_eq_true rfl, Nat.le_of_ble_eq_true rfl⟩ (fun r_155 σ_155 H locs hp_155 I => ?_)
                      obtain ⟨rfl, rfl⟩ := hp_155
                      refine lv_iconst (v := nI 1) hx hb dX8_drag_158 (by decide) ?_
                      refine lv_icmp_ne (tgt := 195) hx hb dX8_drag_159 (by decide) (fun c_159 => ?_) (fun c_159 => ?_)
                      · have c_159 : ¬ ((N (23 + 13 * i + 9)) = 1) := fun q_ => c_159 ((nI_eq (by omega) (by omega)).mpr q_)
                        refine lv_aload_n hx hb dX8_drag_195 rfl (lv_at hl 3 rfl) ?_
                        refine lv_iload_n hx hb dX8_drag_196 rfl (lv_at hl 4 rfl) ?_
                        refine lv_bipush (v := nI 8) hx hb dX8_drag_197 (by decide) ?_
                        refine lv_aload_n hx hb dX8_drag_199 rfl (lv_at hl 3 rfl) ?_
                        refine lv_iload_n hx hb dX8_drag_200 rfl (lv_at hl 4 rfl) ?_
                        refine lv_bipush (v := nI 8) hx hb dX8_drag_201 (by decide) ?_
                        refine k_calli (k := 0) (As := [.int (nI i), .int (nI 8)]) (rest := [.int (nI 8), .int (nI i), .ref (ad 0)]) ⟨hx, hb, hml, hown, hts⟩ (c_X8_of cy D ad l σ_148 i 8 (N (23 + 13 * i + 8)) (by omega) e8) (cwV 2 hts gX8_drag_X8_of rfl rfl rfl (by decide +kernel) ⟨Nat.le_of_ble_eq_true rfl, Nat.le_of_ble_eq_true rfl⟩) E hA I (k_recv E I (by decide) km_0 rfl) rfl hl.1 rfl (lv_room (Nat.le_of_ble_eq_true rfl)) dX8_drag_203 ⟨Nat.le_of_ble_eq_true rfl, Nat.le_of_ble_eq_true rfl⟩ (fun r_203 σ_203 H locs hp_203 I => ?_)
                        obtain ⟨rfl, rfl⟩ := hp_203
                        refine lv_iconst (v := nI 1) hx hb dX8_drag_206 (by decide) ?_
                        refine lv_iadd hx hb dX8_drag_207 ?_
                        rw [nI_add]
                        refine k_callv (k := 0) (As := [.int (nI i), .int (nI 8), .int (nI ((N (23 + 13 * i + 8)) + 1))]) (rest := []) ⟨hx, hb, hml, hown, hts⟩ (c_X8_put cy D ad l σ_148 i 8 ((nI ((N (23 + 13 * i + 8)) + 1))) (by omega)) (cwV 3 hts gX8_drag_X8_put rfl rfl rfl (by decide +kernel) ⟨Nat.le_of_ble_eq_true rfl, Nat.le_of_ble_eq_true rfl⟩) E hA I (k_recv E I (by decide) km_0 rfl) rfl hl.1 rfl (lv_room (Nat.le_of_ble_eq_true rfl)) dX8_drag_208 ⟨Nat.le_of_ble_eq_true rfl, Nat.le_of_ble_eq_true rfl⟩ (fun σ_208 H locs hp_208 I => ?_)
                        have hM2 := mN_put (k := 23 + 13 * i + 8) (v := N (23 + 13 * i + 8) + 1) hM2 hp_208
                        have hQ := qn_tr hQ (qn_put hp_208)
                        refine lv_iconst (v := nI 0) hx hb dX8_drag_211 (by decide) ?_
                        exact k_iret hx hb hr hlk I dX8_drag_212 (by have hst : pStay N i S = true := (by subst hS; unfold pStay mIn; simp; omega); first | (have hk := drag_m1 hst (by omega); subst hS; exact ⟨by rw [hst]; rfl, mN_same hM2 (fun k _ => hk k), hQ⟩) | (have hk := drag_m2 hst (by omega); subst hS; exact ⟨by rw [hst]; rfl, mN_same hM2 (fun k _ => hk k), hQ⟩))
                      · have c_159 : (N (23 + 13 * i + 9)) = 1 := (nI_eq (by omega) (by omega)).mp c_159
                        have hs2 := hsh.2.2.2.2.1 (by omega)
                        refine lv_aload_n hx hb dX8_drag_162 rfl (lv_at hl 3 rfl) ?_
                        refine lv_iload_n hx hb dX8_drag_163 rfl (lv_at hl 4 rfl) ?_
                        refine lv_bipush (v := nI 10) hx hb dX8_drag_164 (by decide) ?_
                        refine lv_aload_n hx hb dX8_drag_166 rfl (lv_at hl 3 rfl) ?_
                        refine lv_iload_n hx hb dX8_drag_167 rfl (lv_at hl 4 rfl) ?_
                        refine lv_bipush (v := nI 10) hx hb dX8_drag_168 (by decide) ?_
                        refine k_calli (k := 0) (As := [.int (nI i), .int (nI 10)]) (rest := [.int (nI 10), .int (nI i), .ref (ad 0)]) ⟨hx, hb, hml, hown, hts⟩ (c_X8_of cy D ad l σ_148 i 10 (N (23 + 13 * i + 10)) (by omega) e10) (cwV 2 hts gX8_drag_X8_of rfl rfl rfl (by decide +kernel) ⟨Nat.le_of_ble_eq_true rfl, Nat.le_of_ble_eq_true rfl⟩) E hA I (k_recv E I (by decide) km_0 rfl) rfl hl.1 rfl (lv_room (Nat.le_of_ble_eq_true rfl)) dX8_drag_170 ⟨Nat.le_of_ble_eq_true rfl, Nat.le_of_ble_eq_true rfl⟩ (fun r_170 σ_170 H locs hp_170 I => ?_)
                        obtain ⟨rfl, rfl⟩ := hp_170
                        refine lv_iload_n hx hb dX8_drag_173 rfl (lv_at hl 2 rfl) ?_
                        refine lv_iadd hx hb dX8_drag_174 ?_
                        rw [nI_add]
                        refine lv_topi (fun t_175 et_175 => ?_)
                        have et_175 : t_175 = nI (mX S (N (23 + 13 * i + 10))) := et_175.trans (by subst hS; first | (rw [sb_m1 (by omega)]; exact congrArg nI (by unfold mX; simp)) | exact congrArg nI (by unfold mX; simp))
                        subst et_175
                        refine k_callv (k := 0) (As := [.int (nI i), .int (nI 10), .int (nI (mX S (N (23 + 13 * i + 10))))]) (rest := []) ⟨hx, hb, hml, hown, hts⟩ (c_X8_put cy D ad l σ_148 i 10 ((nI (mX S (N (23 + 13 * i + 10))))) (by omega)) (cwV 3 hts gX8_drag_X8_put rfl rfl rfl (by decide +kernel) ⟨Nat.le_of_ble_eq_true rfl, Nat.le_of_ble_eq_true rfl⟩) E hA I (k_recv E I (by decide) km_0 rfl) rfl hl.1 rfl (lv_room (Nat.le_of_ble_eq_true rfl)) dX8_drag_175 ⟨Nat.le_of_ble_eq_true rfl, Nat.le_of_ble_eq_true rfl⟩ (fun σ_175 H locs hp_175 I => ?_)
                        have hM2 := mN_put (k := 23 + 13 * i + 10) (v := mX S (N (23 + 13 * i + 10))) hM2 hp_175
                        have hQ := qn_tr hQ (qn_put hp_175)
                        have e8 : σ_175 1 (23 + 13 * i + 8) = nI (N (23 + 13 * i + 8)) := by rw [hp_175, va_up_self, pk_un (by omega)]; exact e8
                        have e11 : σ_175 1 (23 + 13 * i + 11) = nI (N (23 + 13 * i + 11)) := by rw [hp_175, va_up_self, pk_un (by omega)]; exact e11
                        refine lv_aload_n hx hb dX8_drag_178 rfl (lv_at hl 3 rfl) ?_
                        refine lv_iload_n hx hb dX8_drag_179 rfl (lv_at hl 4 rfl) ?_
                        refine lv_bipush (v := nI 11) hx hb dX8_drag_180 (by decide) ?_
                        refine lv_aload_n hx hb dX8_drag_182 rfl (lv_at hl 3 rfl) ?_
                        refine lv_iload_n hx hb dX8_drag_183 rfl (lv_at hl 4 rfl) ?_
                        refine lv_bipush (v := nI 11) hx hb dX8_drag_184 (by decide) ?_
                        refine k_calli (k := 0) (As := [.int (nI i), .int (nI 11)]) (rest := [.int (nI 11), .int (nI i), .ref (ad 0)]) ⟨hx, hb, hml, hown, hts⟩ (c_X8_of cy D ad l σ_175 i 11 (N (23 + 13 * i + 11)) (by omega) e11) (cwV 2 hts gX8_drag_X8_of rfl rfl rfl (by decide +kernel) ⟨Nat.le_of_ble_eq_true rfl, Nat.le_of_ble_eq_true rfl⟩) E hA I (k_recv E I (by decide) km_0 rfl) rfl hl.1 rfl (lv_room (Nat.le_of_ble_eq_true rfl)) dX8_drag_186 ⟨Nat.le_of_ble_eq_true rfl, Nat.le_of_ble_eq_true rfl⟩ (fun r_186 σ_186 H locs hp_186 I => ?_)
                        obtain ⟨rfl, rfl⟩ := hp_186
                        refine lv_iload hx hb dX8_drag_189 (lv_at hl 1 rfl) ?_
                        refine lv_iadd hx hb dX8_drag_191 ?_
                        refine lv_topi (fun t_192 et_192 => ?_)
                        have et_192 : t_192 = nI (mY S (N (23 + 13 * i + 11))) := et_192.trans (by subst hS; first | (rw [sb_m1 (by omega)]; exact congrArg nI (by unfold mY; simp)) | exact congrArg nI (by unfold mY; simp))
                        subst et_192
                        refine k_callv (k := 0) (As := [.int (nI i), .int (nI 11), .int (nI (mY S (N (23 + 13 * i + 11))))]) (rest := []) ⟨hx, hb, hml, hown, hts⟩ (c_X8_put cy D ad l σ_175 i 11 ((nI (mY S (N (23 + 13 * i + 11))))) (by omega)) (cwV 3 hts gX8_drag_X8_put rfl rfl rfl (by decide +kernel) ⟨Nat.le_of_ble_eq_true rfl, Nat.le_of_ble_eq_true rfl⟩) E hA I (k_recv E I (by decide) km_0 rfl) rfl hl.1 rfl (lv_room (Nat.le_of_ble_eq_true rfl)) dX8_drag_192 ⟨Nat.le_of_ble_eq_true rfl, Nat.le_of_ble_eq_true rfl⟩ (fun σ_192 H locs hp_192 I => ?_)
                        have hM2 := mN_put (k := 23 + 13 * i + 11) (v := mY S (N (23 + 13 * i + 11))) hM2 hp_192
                        have hQ := qn_tr hQ (qn_put hp_192)
                        have e8 : σ_192 1 (23 + 13 * i + 8) = nI (N (23 + 13 * i + 8)) := by rw [hp_192, va_up_self, pk_un (by omega)]; exact e8
                        refine lv_aload_n hx hb dX8_drag_195 rfl (lv_at hl 3 rfl) ?_
                        refine lv_iload_n hx hb dX8_drag_196 rfl (lv_at hl 4 rfl) ?_
                        refine lv_bipush (v := nI 8) hx hb dX8_drag_197 (by decide) ?_
                        refine lv_aload_n hx hb dX8_drag_199 rfl (lv_at hl 3 rfl) ?_
                        refine lv_iload_n hx hb dX8_drag_200 rfl (lv_at hl 4 rfl) ?_
                        refine lv_bipush (v := nI 8) hx hb dX8_drag_201 (by decide) ?_
                        refine k_calli (k := 0) (As := [.int (nI i), .int (nI 8)]) (rest := [.int (nI 8), .int (nI i), .ref (ad 0)]) ⟨hx, hb, hml, hown, hts⟩ (c_X8_of cy D ad l σ_192 i 8 (N (23 + 13 * i + 8)) (by omega) e8) (cwV 2 hts gX8_drag_X8_of rfl rfl rfl (by decide +kernel) ⟨Nat.le_of_ble_eq_true rfl, Nat.le_of_ble_eq_true rfl⟩) E hA I (k_recv E I (by decide) km_0 rfl) rfl hl.1 rfl (lv_room (Nat.le_of_ble_eq_true rfl)) dX8_drag_203 ⟨Nat.le_of_ble_eq_true rfl, Nat.le_of_ble_eq_true rfl⟩ (fun r_203 σ_203 H locs hp_203 I => ?_)
                        obtain ⟨rfl, rfl⟩ := hp_203
                        refine lv_iconst (v := nI 1) hx hb dX8_drag_206 (by decide) ?_
                        refine lv_iadd hx hb dX8_drag_207 ?_
                        rw [nI_add]
                        refine k_callv (k := 0) (As := [.int (nI i), .int (nI 8), .int (nI ((N (23 + 13 * i + 8)) + 1))]) (rest := []) ⟨hx, hb, hml, hown, hts⟩ (c_X8_put cy D ad l σ_192 i 8 ((nI ((N (23 + 13 * i + 8)) + 1))) (by omega)) (cwV 3 hts gX8_drag_X8_put rfl rfl rfl (by decide +kernel) ⟨Nat.le_of_ble_eq_true rfl, Nat.le_of_ble_eq_true rfl⟩) E hA I (k_recv E I (by decide) km_0 rfl) rfl hl.1 rfl (lv_room (Nat.le_of_ble_eq_true rfl)) dX8_drag_208 ⟨Nat.le_of_ble_eq_true rfl, Nat.le_of_ble_eq_true rfl⟩ (fun σ_208 H locs hp_208 I => ?_)
                        have hM2 := mN_put (k := 23 + 13 * i + 8) (v := N (23 + 13 * i + 8) + 1) hM2 hp_208
                        have hQ := qn_tr hQ (qn_put hp_208)
                        refine lv_iconst (v := nI 0) hx hb dX8_drag_211 (by decide) ?_
                        exact k_iret hx hb hr hlk I dX8_drag_212 (by have hst : pStay N i S = true := (by subst hS; unfold pStay mIn; simp; omega); first | (have hk := drag_m1 hst (by omega); subst hS; exact ⟨by rw [hst]; rfl, mN_same hM2 (fun k _ => hk k), hQ⟩) | (have hk := drag_m2 hst (by omega); subst hS; exact ⟨by rw [hst]; rfl, mN_same hM2 (fun k _ => hk k), hQ⟩))
                    · exact absurd c_109 (by decide)
                · refine lv_if_eq (tgt := 104) hx hb dX8_drag_97 (by decide) (fun c_97 => ?_) (fun c_97 => ?_)
                  · refine lv_iconst (v := nI 0) hx hb dX8_drag_104 (by decide) ?_
                    refine lv_istore (lv' := [(5, .int (nI 0)), (4, .int (-1)), (3, .int (nI 0)), (0, .ref (ad 0)), (1, .int (nI i)), (2, .int (nI 0))]) hx hb dX8_drag_105 hl (by decide) rfl (fun ls hl => ?_)
                    refine lv_iload hx hb dX8_drag_107 (lv_at hl 0 rfl) ?_
                    refine lv_if_ne (tgt := 122) hx hb dX8_drag_109 (by decide) (fun c_109 => ?_) (fun c_109 => ?_)
                    · exact absurd c_109 (by decide)
                    · refine lv_aload_n hx hb dX8_drag_112 rfl (lv_at hl 3 rfl) ?_
                      refine lv_iload_n hx hb dX8_drag_113 rfl (lv_at hl 4 rfl) ?_
                      refine lv_bipush (v := nI 7) hx hb dX8_drag_114 (by decide) ?_
                      refine lv_iconst (v := nI 1) hx hb dX8_drag_116 (by decide) ?_
                      refine k_callv (k := 0) (As := [.int (nI i), .int (nI 7), .int (nI 1)]) (rest := []) ⟨hx, hb, hml, hown, hts⟩ (c_X8_put cy D ad l σ i 7 ((nI 1)) (by omega)) (cwV 3 hts gX8_drag_X8_put rfl rfl rfl (by decide +kernel) ⟨Nat.le_of_ble_eq_true rfl, Nat.le_of_ble_eq_true rfl⟩) E hA I (k_recv E I (by decide) km_0 rfl) rfl hl.1 rfl (lv_room (Nat.le_of_ble_eq_true rfl)) dX8_drag_117 ⟨Nat.le_of_ble_eq_true rfl, Nat.le_of_ble_eq_true rfl⟩ (fun σ_117 H locs hp_117 I => ?_)
                      have hst : pStay N i S = false := by subst hS; unfold pStay mIn; simp; omega
                      subst hS
                      refine lv_iconst (v := nI 1) hx hb dX8_drag_120 (by decide) ?_
                      exact k_iret hx hb hr hlk I dX8_drag_121 (⟨by rw [hst]; rfl, by have := mN_put (k := 23 + 13 * i + 7) (v := 1) hM hp_117; unfold pDrag; rw [hst]; exact this, qn_tr hQ (qn_put hp_117)⟩)
                  · exact absurd c_97 (by decide)
          · refine lv_if_eq (tgt := 104) hx hb dX8_drag_61 (by decide) (fun c_61 => ?_) (fun c_61 => ?_)
            · refine lv_iconst (v := nI 0) hx hb dX8_drag_104 (by decide) ?_
              refine lv_istore (lv' := [(5, .int (nI 0)), (4, .int (-1)), (3, .int (nI 0)), (0, .ref (ad 0)), (1, .int (nI i)), (2, .int (nI 0))]) hx hb dX8_drag_105 hl (by decide) rfl (fun ls hl => ?_)
              refine lv_iload hx hb dX8_drag_107 (lv_at hl 0 rfl) ?_
              refine lv_if_ne (tgt := 122) hx hb dX8_drag_109 (by decide) (fun c_109 => ?_) (fun c_109 => ?_)
              · exact absurd c_109 (by decide)
              · refine lv_aload_n hx hb dX8_drag_112 rfl (lv_at hl 3 rfl) ?_
                refine lv_iload_n hx hb dX8_drag_113 rfl (lv_at hl 4 rfl) ?_
                refine lv_bipush (v := nI 7) hx hb dX8_drag_114 (by decide) ?_
                refine lv_iconst (v := nI 1) hx hb dX8_drag_116 (by decide) ?_
                refine k_callv (k := 0) (As := [.int (nI i), .int (nI 7), .int (nI 1)]) (rest := []) ⟨hx, hb, hml, hown, hts⟩ (c_X8_put cy D ad l σ i 7 ((nI 1)) (by omega)) (cwV 3 hts gX8_drag_X8_put rfl rfl rfl (by decide +kernel) ⟨Nat.le_of_ble_eq_true rfl, Nat.le_of_ble_eq_true rfl⟩) E hA I (k_recv E I (by decide) km_0 rfl) rfl hl.1 rfl (lv_room (Nat.le_of_ble_eq_true rfl)) dX8_drag_117 ⟨Nat.le_of_ble_eq_true rfl, Nat.le_of_ble_eq_true rfl⟩ (fun σ_117 H locs hp_117 I => ?_)
                have hst : pStay N i S = false := by subst hS; unfold pStay mIn; simp; omega
                subst hS
                refine lv_iconst (v := nI 1) hx hb dX8_drag_120 (by decide) ?_
                exact k_iret hx hb hr hlk I dX8_drag_121 (⟨by rw [hst]; rfl, by have := mN_put (k := 23 + 13 * i + 7) (v := 1) hM hp_117; unfold pDrag; rw [hst]; exact this, qn_tr hQ (qn_put hp_117)⟩)
            · exact absurd c_61 (by decide)
      · exact absurd c_11 (by decide)
    · exact absurd c_2 (by decide)
  · refine lv_iload_n hx hb dX8_drag_0 rfl (lv_at hl 2 rfl) ?_
    refine lv_iconst (v := nI 1) hx hb dX8_drag_1 (by decide) ?_
    refine lv_icmp_ne (tgt := 9) hx hb dX8_drag_2 (by decide) (fun c_2 => ?_) (fun c_2 => ?_)
    · exact absurd c_2 (by decide)
    · refine lv_iconst (v := nI 1) hx hb dX8_drag_5 (by decide) ?_
      refine lv_goto (tgt := 19) hx hb dX8_drag_6 (by decide) ?_
      refine lv_istore_n (lv' := [(3, .int (nI 1)), (0, .ref (ad 0)), (1, .int (nI i)), (2, .int (nI 1))]) hx hb dX8_drag_19 rfl hl (by decide) rfl (fun ls hl => ?_)
      refine lv_iload_n hx hb dX8_drag_20 rfl (lv_at hl 3 rfl) ?_
      refine lv_if_ne (tgt := 28) hx hb dX8_drag_21 (by decide) (fun c_21 => ?_) (fun c_21 => ?_)
      · refine lv_iload_n hx hb dX8_drag_28 rfl (lv_at hl 3 rfl) ?_
        refine lv_iconst (v := nI 2) hx hb dX8_drag_29 (by decide) ?_
        refine lv_icmp_ne (tgt := 37) hx hb dX8_drag_30 (by decide) (fun c_30 => ?_) (fun c_30 => ?_)
        · refine lv_iconst (v := nI 0) hx hb dX8_drag_37 (by decide) ?_
          refine lv_istore (lv' := [(4, .int (nI 0)), (3, .int (nI 1)), (0, .ref (ad 0)), (1, .int (nI i)), (2, .int (nI 1))]) hx hb dX8_drag_38 hl (by decide) rfl (fun ls hl => ?_)
          refine lv_aload_n hx hb dX8_drag_40 rfl (lv_at hl 2 rfl) ?_
          refine lv_aload_n hx hb dX8_drag_41 rfl (lv_at hl 2 rfl) ?_
          refine lv_iload_n hx hb dX8_drag_42 rfl (lv_at hl 3 rfl) ?_
          refine lv_iconst (v := nI 0) hx hb dX8_drag_43 (by decide) ?_
          refine k_calli (k := 0) (As := [.int (nI i), .int (nI 0)]) (rest := [.ref (ad 0)]) ⟨hx, hb, hml, hown, hts⟩ (c_X8_of cy D ad l σ i (0) (N (23 + 13 * i)) (by omega) (hM _ (by omega))) (cwV 2 hts gX8_drag_X8_of rfl rfl rfl (by decide +kernel) ⟨Nat.le_of_ble_eq_true rfl, Nat.le_of_ble_eq_true rfl⟩) E hA I (k_recv E I (by decide) km_0 rfl) rfl hl.1 rfl (lv_room (Nat.le_of_ble_eq_true rfl)) dX8_drag_44 ⟨Nat.le_of_ble_eq_true rfl, Nat.le_of_ble_eq_true rfl⟩ (fun r_44 σ_44 H locs hp_44 I => ?_)
          obtain ⟨rfl, rfl⟩ := hp_44
          refine lv_iload_n hx hb dX8_drag_47 rfl (lv_at hl 1 rfl) ?_
          refine lv_iadd hx hb dX8_drag_48 ?_
          rw [nI_add]
          refine lv_aload_n hx hb dX8_drag_49 rfl (lv_at hl 2 rfl) ?_
          refine lv_iload_n hx hb dX8_drag_50 rfl (lv_at hl 3 rfl) ?_
          refine lv_iconst (v := nI 1) hx hb dX8_drag_51 (by decide) ?_
          refine k_calli (k := 0) (As := [.int (nI i), .int (nI 1)]) (rest := [.int (nI ((N (23 + 13 * i)) + 1)), .ref (ad 0)]) ⟨hx, hb, hml, hown, hts⟩ (c_X8_of cy D ad l σ i (1) (N (23 + 13 * i + 1)) (by omega) (hM _ (by omega))) (cwV 2 hts gX8_drag_X8_of rfl rfl rfl (by decide +kernel) ⟨Nat.le_of_ble_eq_true rfl, Nat.le_of_ble_eq_true rfl⟩) E hA I (k_recv E I (by decide) km_0 rfl) rfl hl.1 rfl (lv_room (Nat.le_of_ble_eq_true rfl)) dX8_drag_52 ⟨Nat.le_of_ble_eq_true rfl, Nat.le_of_ble_eq_true rfl⟩ (fun r_52 σ_52 H locs hp_52 I => ?_)
          obtain ⟨rfl, rfl⟩ := hp_52
          refine lv_iload hx hb dX8_drag_55 (lv_at hl 0 rfl) ?_
          refine lv_iadd hx hb dX8_drag_57 ?_
          rw [nI_add]
          refine k_calli (k := 0) (As := [.int (nI ((N (23 + 13 * i)) + 1)), .int (nI ((N (23 + 13 * i + 1)) + 0))]) (rest := []) ⟨hx, hb, hml, hown, hts⟩ (c_X8_isField cy D ad l σ ((nI ((N (23 + 13 * i)) + 1))) ((nI ((N (23 + 13 * i + 1)) + 0))) N hN hM) (cwV 2 hts gX8_drag_X8_isField rfl rfl rfl (by decide +kernel) ⟨Nat.le_of_ble_eq_true rfl, Nat.le_of_ble_eq_true rfl⟩) E hA I (k_recv E I (by decide) km_0 rfl) rfl hl.1 rfl (lv_room (Nat.le_of_ble_eq_true rfl)) dX8_drag_58 ⟨Nat.le_of_ble_eq_true rfl, Nat.le_of_ble_eq_true rfl⟩ (fun r_58 σ_58 H locs hp_58 I => ?_)
          obtain ⟨hk_, rfl⟩ := hp_58
          first | rw [nI_toInt (by omega), nI_toInt (by omega)] at hk_ | rw [km1_toInt (by omega), nI_toInt (by omega)] at hk_ | rw [nI_toInt (by omega), km1_toInt (by omega)] at hk_
          rcases hk_ with ⟨rfl, g1⟩ | ⟨rfl, g1⟩
          · refine lv_if_eq (tgt := 104) hx hb dX8_drag_61 (by decide) (fun c_61 => ?_) (fun c_61 => ?_)
            · exact absurd c_61 (by decide)
            · refine lv_aload_n hx hb dX8_drag_64 rfl (lv_at hl 2 rfl) ?_
              refine lv_iload_n hx hb dX8_drag_65 rfl (lv_at hl 3 rfl) ?_
              refine lv_bipush (v := nI 9) hx hb dX8_drag_66 (by decide) ?_
              refine k_calli (k := 0) (As := [.int (nI i), .int (nI 9)]) (rest := []) ⟨hx, hb, hml, hown, hts⟩ (c_X8_of cy D ad l σ i (9) (N (23 + 13 * i + 9)) (by omega) (hM _ (by omega))) (cwV 2 hts gX8_drag_X8_of rfl rfl rfl (by decide +kernel) ⟨Nat.le_of_ble_eq_true rfl, Nat.le_of_ble_eq_true rfl⟩) E hA I (k_recv E I (by decide) km_0 rfl) rfl hl.1 rfl (lv_room (Nat.le_of_ble_eq_true rfl)) dX8_drag_68 ⟨Nat.le_of_ble_eq_true rfl, Nat.le_of_ble_eq_true rfl⟩ (fun r_68 σ_68 H locs hp_68 I => ?_)
              obtain ⟨rfl, rfl⟩ := hp_68
              refine lv_if_eq (tgt := 100) hx hb dX8_drag_71 (by decide) (fun c_71 => ?_) (fun c_71 => ?_)
              · have c_71 : (N (23 + 13 * i + 9)) = 0 := (nI_eq (by omega) (by decide)).mp c_71
                have hm0 : N (23 + 13 * i + 9) = 0 := by omega
                refine lv_iconst (v := nI 1) hx hb dX8_drag_100 (by decide) ?_
                refine lv_goto (tgt := 105) hx hb dX8_drag_101 (by decide) ?_
                refine lv_istore (lv' := [(5, .int (nI 1)), (4, .int (nI 0)), (3, .int (nI 1)), (0, .ref (ad 0)), (1, .int (nI i)), (2, .int (nI 1))]) hx hb dX8_drag_105 hl (by decide) rfl (fun ls hl => ?_)
                refine lv_iload hx hb dX8_drag_107 (lv_at hl 0 rfl) ?_
                refine lv_if_ne (tgt := 122) hx hb dX8_drag_109 (by decide) (fun c_109 => ?_) (fun c_109 => ?_)
                · refine lv_aload_n hx hb dX8_drag_122 rfl (lv_at hl 3 rfl) ?_
                  refine lv_iload_n hx hb dX8_drag_123 rfl (lv_at hl 4 rfl) ?_
                  refine lv_iconst (v := nI 0) hx hb dX8_drag_124 (by decide) ?_
                  refine lv_aload_n hx hb dX8_drag_125 rfl (lv_at hl 3 rfl) ?_
                  refine lv_iload_n hx hb dX8_drag_126 rfl (lv_at hl 4 rfl) ?_
                  refine lv_iconst (v := nI 0) hx hb dX8_drag_127 (by decide) ?_
                  refine k_calli (k := 0) (As := [.int (nI i), .int (nI 0)]) (rest := [.int (nI 0), .int (nI i), .ref (ad 0)]) ⟨hx, hb, hml, hown, hts⟩ (c_X8_of cy D ad l σ i (0) (N (23 + 13 * i)) (by omega) (hM _ (by omega))) (cwV 2 hts gX8_drag_X8_of rfl rfl rfl (by decide +kernel) ⟨Nat.le_of_ble_eq_true rfl, Nat.le_of_ble_eq_true rfl⟩) E hA I (k_recv E I (by decide) km_0 rfl) rfl hl.1 rfl (lv_room (Nat.le_of_ble_eq_true rfl)) dX8_drag_128 ⟨Nat.le_of_ble_eq_true rfl, Nat.le_of_ble_eq_true rfl⟩ (fun r_128 σ_128 H locs hp_128 I => ?_)
                  obtain ⟨rfl, rfl⟩ := hp_128
                  refine lv_iload_n hx hb dX8_drag_131 rfl (lv_at hl 2 rfl) ?_
                  refine lv_iadd hx hb dX8_drag_132 ?_
                  rw [nI_add]
                  refine lv_topi (fun t_133 et_133 => ?_)
                  have et_133 : t_133 = nI (mX S (N (23 + 13 * i))) := et_133.trans (by subst hS; first | (rw [sb_m1 (by omega)]; exact congrArg nI (by unfold mX; simp)) | exact congrArg nI (by unfold mX; simp))
                  subst et_133
                  refine k_callv (k := 0) (As := [.int (nI i), .int (nI 0), .int (nI (mX S (N (23 + 13 * i))))]) (rest := []) ⟨hx, hb, hml, hown, hts⟩ (c_X8_put cy D ad l σ i 0 ((nI (mX S (N (23 + 13 * i))))) (by omega)) (cwV 3 hts gX8_drag_X8_put rfl rfl rfl (by decide +kernel) ⟨Nat.le_of_ble_eq_true rfl, Nat.le_of_ble_eq_true rfl⟩) E hA I (k_recv E I (by decide) km_0 rfl) rfl hl.1 rfl (lv_room (Nat.le_of_ble_eq_true rfl)) dX8_drag_133 ⟨Nat.le_of_ble_eq_true rfl, Nat.le_of_ble_eq_true rfl⟩ (fun σ_133 H locs hp_133 I => ?_)
                  have hM1 := mN_put (k := 23 + 13 * i) (v := mX S (N (23 + 13 * i))) hM hp_133
                  have hQ := qn_tr hQ (qn_put hp_133)
                  have e1 : σ_133 1 (23 + 13 * i + 1) = nI (N (23 + 13 * i + 1)) := by rw [hp_133, va_up_self, pk_un (by omega)]; exact hM _ (by omega)
                  have e8 : σ_133 1 (23 + 13 * i + 8) = nI (N (23 + 13 * i + 8)) := by rw [hp_133, va_up_self, pk_un (by omega)]; exact hM _ (by omega)
                  have e9 : σ_133 1 (23 + 13 * i + 9) = nI (N (23 + 13 * i + 9)) := by rw [hp_133, va_up_self, pk_un (by omega)]; exact hM _ (by omega)
                  have e10 : σ_133 1 (23 + 13 * i + 10) = nI (N (23 + 13 * i + 10)) := by rw [hp_133, va_up_self, pk_un (by omega)]; exact hM _ (by omega)
                  have e11 : σ_133 1 (23 + 13 * i + 11) = nI (N (23 + 13 * i + 11)) := by rw [hp_133, va_up_self, pk_un (by omega)]; exact hM _ (by omega)
                  refine lv_aload_n hx hb dX8_drag_136 rfl (lv_at hl 3 rfl) ?_
                  refine lv_iload_n hx hb dX8_drag_137 rfl (lv_at hl 4 rfl) ?_
                  refine lv_iconst (v := nI 1) hx hb dX8_drag_138 (by decide) ?_
                  refine lv_aload_n hx hb dX8_drag_139 rfl (lv_at hl 3 rfl) ?_
                  refine lv_iload_n hx hb dX8_drag_140 rfl (lv_at hl 4 rfl) ?_
                  refine lv_iconst (v := nI 1) hx hb dX8_drag_141 (by decide) ?_
                  refine k_calli (k := 0) (As := [.int (nI i), .int (nI 1)]) (rest := [.int (nI 1), .int (nI i), .ref (ad 0)]) ⟨hx, hb, hml, hown, hts⟩ (c_X8_of cy D ad l σ_133 i 1 (N (23 + 13 * i + 1)) (by omega) e1) (cwV 2 hts gX8_drag_X8_of rfl rfl rfl (by decide +kernel) ⟨Nat.le_of_ble_eq_true rfl, Nat.le_of_ble_eq_true rfl⟩) E hA I (k_recv E I (by decide) km_0 rfl) rfl hl.1 rfl (lv_room (Nat.le_of_ble_eq_true rfl)) dX8_drag_142 ⟨Nat.le_of_ble_eq_true rfl, Nat.le_of_ble_eq_true rfl⟩ (fun r_142 σ_142 H locs hp_142 I => ?_)
                  obtain ⟨rfl, rfl⟩ := hp_142
                  refine lv_iload hx hb dX8_drag_145 (lv_at hl 1 rfl) ?_
                  refine lv_iadd hx hb dX8_drag_147 ?_
                  rw [nI_add]
                  refine lv_topi (fun t_148 et_148 => ?_)
                  have et_148 : t_148 = nI (mY S (N (23 + 13 * i + 1))) := et_148.trans (by subst hS; first | (rw [sb_m1 (by omega)]; exact congrArg nI (by unfold mY; simp)) | exact congrArg nI (by unfold mY; simp))
                  subst et_148
                  refine k_callv (k := 0) (As := [.int (nI i), .int (nI 1), .int (nI (mY S (N (23 + 13 * i + 1))))]) (rest := []) ⟨hx, hb, hml, hown, hts⟩ (c_X8_put cy D ad l σ_133 i 1 ((nI (mY S (N (23 + 13 * i + 1))))) (by omega)) (cwV 3 hts gX8_drag_X8_put rfl rfl rfl (by decide +kernel) ⟨Nat.le_of_ble_eq_true rfl, Nat.le_of_ble_eq_true rfl⟩) E hA I (k_recv E I (by decide) km_0 rfl) rfl hl.1 rfl (lv_room (Nat.le_of_ble_eq_true rfl)) dX8_drag_148 ⟨Nat.le_of_ble_eq_true rfl, Nat.le_of_ble_eq_true rfl⟩ (fun σ_148 H locs hp_148 I => ?_)
                  have hM2 := mN_put (k := 23 + 13 * i + 1) (v := mY S (N (23 + 13 * i + 1))) hM1 hp_148
                  have hQ := qn_tr hQ (qn_put hp_148)
                  have e8 : σ_148 1 (23 + 13 * i + 8) = nI (N (23 + 13 * i + 8)) := by rw [hp_148, va_up_self, pk_un (by omega)]; exact e8
                  have e9 : σ_148 1 (23 + 13 * i + 9) = nI (N (23 + 13 * i + 9)) := by rw [hp_148, va_up_self, pk_un (by omega)]; exact e9
                  have e10 : σ_148 1 (23 + 13 * i + 10) = nI (N (23 + 13 * i + 10)) := by rw [hp_148, va_up_self, pk_un (by omega)]; exact e10
                  have e11 : σ_148 1 (23 + 13 * i + 11) = nI (N (23 + 13 * i + 11)) := by rw [hp_148, va_up_self, pk_un (by omega)]; exact e11
                  refine lv_aload_n hx hb dX8_drag_151 rfl (lv_at hl 3 rfl) ?_
                  refine lv_iload_n hx hb dX8_drag_152 rfl (lv_at hl 4 rfl) ?_
                  refine lv_bipush (v := nI 9) hx hb dX8_drag_153 (by decide) ?_
                  refine k_calli (k := 0) (As := [.int (nI i), .int (nI 9)]) (rest := []) ⟨hx, hb, hml, hown, hts⟩ (c_X8_of cy D ad l σ_148 i 9 (N (23 + 13 * i + 9)) (by omega) e9) (cwV 2 hts gX8_drag_X8_of rfl rfl rfl (by decide +kernel) ⟨Nat.le_of_ble_eq_true rfl, Nat.le_of_ble_eq_true rfl⟩) E hA I (k_recv E I (by decide) km_0 rfl) rfl hl.1 rfl (lv_room (Nat.le_of_ble_eq_true rfl)) dX8_drag_155 ⟨Nat.le_of_ble_eq_true rfl, Nat.le_of_ble_eq_true rfl⟩ (fun r_155 σ_155 H locs hp_155 I => ?_)
                  obtain ⟨rfl, rfl⟩ := hp_155
                  refine lv_iconst (v := nI 1) hx hb dX8_drag_158 (by decide) ?_
                  refine lv_icmp_ne (tgt := 195) hx hb dX8_drag_159 (by decide) (fun c_159 => ?_) (fun c_159 => ?_)
                  · have c_159 : ¬ ((N (23 + 13 * i + 9)) = 1) := fun q_ => c_159 ((nI_eq (by omega) (by omega)).mpr q_)
                    refine lv_aload_n hx hb dX8_drag_195 rfl (lv_at hl 3 rfl) ?_
                    refine lv_iload_n hx hb dX8_drag_196 rfl (lv_at hl 4 rfl) ?_
                    refine lv_bipush (v := nI 8) hx hb dX8_drag_197 (by decide) ?_
                    refine lv_aload_n hx hb dX8_drag_199 rfl (lv_at hl 3 rfl) ?_
                    refine lv_iload_n hx hb dX8_drag_200 rfl (lv_at hl 4 rfl) ?_
                    refine lv_bipush (v := nI 8) hx hb dX8_drag_201 (by decide) ?_
                    refine k_calli (k := 0) (As := [.int (nI i), .int (nI 8)]) (rest := [.int (nI 8), .int (nI i), .ref (ad 0)]) ⟨hx, hb, hml, hown, hts⟩ (c_X8_of cy D ad l σ_148 i 8 (N (23 + 13 * i + 8)) (by omega) e8) (cwV 2 hts gX8_drag_X8_of rfl rfl rfl (by decide +kernel) ⟨Nat.le_of_ble_eq_true rfl, Nat.le_of_ble_eq_true rfl⟩) E hA I (k_recv E I (by decide) km_0 rfl) rfl hl.1 rfl (lv_room (Nat.le_of_ble_eq_true rfl)) dX8_drag_203 ⟨Nat.le_of_ble_eq_true rfl, Nat.le_of_ble_eq_true rfl⟩ (fun r_203 σ_203 H locs hp_203 I => ?_)
                    obtain ⟨rfl, rfl⟩ := hp_203
                    refine lv_iconst (v := nI 1) hx hb dX8_drag_206 (by decide) ?_
                    refine lv_iadd hx hb dX8_drag_207 ?_
                    rw [nI_add]
                    refine k_callv (k := 0) (As := [.int (nI i), .int (nI 8), .int (nI ((N (23 + 13 * i + 8)) + 1))]) (rest := []) ⟨hx, hb, hml, hown, hts⟩ (c_X8_put cy D ad l σ_148 i 8 ((nI ((N (23 + 13 * i + 8)) + 1))) (by omega)) (cwV 3 hts gX8_drag_X8_put rfl rfl rfl (by decide +kernel) ⟨Nat.le_of_ble_eq_true rfl, Nat.le_of_ble_eq_true rfl⟩) E hA I (k_recv E I (by decide) km_0 rfl) rfl hl.1 rfl (lv_room (Nat.le_of_ble_eq_true rfl)) dX8_drag_208 ⟨Nat.le_of_ble_eq_true rfl, Nat.le_of_ble_eq_true rfl⟩ (fun σ_208 H locs hp_208 I => ?_)
                    have hM2 := mN_put (k := 23 + 13 * i + 8) (v := N (23 + 13 * i + 8) + 1) hM2 hp_208
                    have hQ := qn_tr hQ (qn_put hp_208)
                    refine lv_iconst (v := nI 0) hx hb dX8_drag_211 (by decide) ?_
                    exact k_iret hx hb hr hlk I dX8_drag_212 (by have hst : pStay N i S = true := (by subst hS; unfold pStay mIn; simp; omega); first | (have hk := drag_m1 hst (by omega); subst hS; exact ⟨by rw [hst]; rfl, mN_same hM2 (fun k _ => hk k), hQ⟩) | (have hk := drag_m2 hst (by omega); subst hS; exact ⟨by rw [hst]; rfl, mN_same hM2 (fun k _ => hk k), hQ⟩))
                  · have c_159 : (N (23 + 13 * i + 9)) = 1 := (nI_eq (by omega) (by omega)).mp c_159
                    have hs2 := hsh.2.2.2.2.1 (by omega)
                    refine lv_aload_n hx hb dX8_drag_162 rfl (lv_at hl 3 rfl) ?_
                    refine lv_iload_n hx hb dX8_drag_163 rfl (lv_at hl 4 rfl) ?_
                    refine lv_bipush (v := nI 10) hx hb dX8_drag_164 (by decide) ?_
                    refine lv_aload_n hx hb dX8_drag_166 rfl (lv_at hl 3 rfl) ?_
                    refine lv_iload_n hx hb dX8_drag_167 rfl (lv_at hl 4 rfl) ?_
                    refine lv_bipush (v := nI 10) hx hb dX8_drag_168 (by decide) ?_
                    refine k_calli (k := 0) (As := [.int (nI i), .int (nI 10)]) (rest := [.int (nI 10), .int (nI i), .ref (ad 0)]) ⟨hx, hb, hml, hown, hts⟩ (c_X8_of cy D ad l σ_148 i 10 (N (23 + 13 * i + 10)) (by omega) e10) (cwV 2 hts gX8_drag_X8_of rfl rfl rfl (by decide +kernel) ⟨Nat.le_of_ble_eq_true rfl, Nat.le_of_ble_eq_true rfl⟩) E hA I (k_recv E I (by decide) km_0 rfl) rfl hl.1 rfl (lv_room (Nat.le_of_ble_eq_true rfl)) dX8_drag_170 ⟨Nat.le_of_ble_eq_true rfl, Nat.le_of_ble_eq_true rfl⟩ (fun r_170 σ_170 H locs hp_170 I => ?_)
                    obtain ⟨rfl, rfl⟩ := hp_170
                    refine lv_iload_n hx hb dX8_drag_173 rfl (lv_at hl 2 rfl) ?_
                    refine lv_iadd hx hb dX8_drag_174 ?_
                    rw [nI_add]
                    refine lv_topi (fun t_175 et_175 => ?_)
                    have et_175 : t_175 = nI (mX S (N (23 + 13 * i + 10))) := et_175.trans (by subst hS; first | (rw [sb_m1 (by omega)]; exact congrArg nI (by unfold mX; simp)) | exact congrArg nI (by unfold mX; simp))
                    subst et_175
                    refine k_callv (k := 0) (As := [.int (nI i), .int (nI 10), .int (nI (mX S (N (23 + 13 * i + 10))))]) (rest := []) ⟨hx, hb, hml, hown, hts⟩ (c_X8_put cy D ad l σ_148 i 10 ((nI (mX S (N (23 + 13 * i + 10))))) (by omega)) (cwV 3 hts gX8_drag_X8_put rfl rfl rfl (by decide +kernel) ⟨Nat.le_of_ble_eq_true rfl, Nat.le_of_ble_eq_true rfl⟩) E hA I (k_recv E I (by decide) km_0 rfl) rfl hl.1 rfl (lv_room (Nat.le_of_ble_eq_true rfl)) dX8_drag_175 ⟨Nat.le_of_ble_eq_true rfl, Nat.le_of_ble_eq_true rfl⟩ (fun σ_175 H locs hp_175 I => ?_)
                    have hM2 := mN_put (k := 23 + 13 * i + 10) (v := mX S (N (23 + 13 * i + 10))) hM2 hp_175
                    have hQ := qn_tr hQ (qn_put hp_175)
                    have e8 : σ_175 1 (23 + 13 * i + 8) = nI (N (23 + 13 * i + 8)) := by rw [hp_175, va_up_self, pk_un (by omega)]; exact e8
                    have e11 : σ_175 1 (23 + 13 * i + 11) = nI (N (23 + 13 * i + 11)) := by rw [hp_175, va_up_self, pk_un (by omega)]; exact e11
                    refine lv_aload_n hx hb dX8_drag_178 rfl (lv_at hl 3 rfl) ?_
                    refine lv_iload_n hx hb dX8_drag_179 rfl (lv_at hl 4 rfl) ?_
                    refine lv_bipush (v := nI 11) hx hb dX8_drag_180 (by decide) ?_
                    refine lv_aload_n hx hb dX8_drag_182 rfl (lv_at hl 3 rfl) ?_
                    refine lv_iload_n hx hb dX8_drag_183 rfl (lv_at hl 4 rfl) ?_
                    refine lv_bipush (v := nI 11) hx hb dX8_drag_184 (by decide) ?_
                    refine k_calli (k := 0) (As := [.int (nI i), .int (nI 11)]) (rest := [.int (nI 11), .int (nI i), .ref (ad 0)]) ⟨hx, hb, hml, hown, hts⟩ (c_X8_of cy D ad l σ_175 i 11 (N (23 + 13 * i + 11)) (by omega) e11) (cwV 2 hts gX8_drag_X8_of rfl rfl rfl (by decide +kernel) ⟨Nat.le_of_ble_eq_true rfl, Nat.le_of_ble_eq_true rfl⟩) E hA I (k_recv E I (by decide) km_0 rfl) rfl hl.1 rfl (lv_room (Nat.le_of_ble_eq_true rfl)) dX8_drag_186 ⟨Nat.le_of_ble_eq_true rfl, Nat.le_of_ble_eq_true rfl⟩ (fun r_186 σ_186 H locs hp_186 I => ?_)
                    obtain ⟨rfl, rfl⟩ := hp_186
                    refine lv_iload hx hb dX8_drag_189 (lv_at hl 1 rfl) ?_
                    refine lv_iadd hx hb dX8_drag_191 ?_
                    rw [nI_add]
                    refine lv_topi (fun t_192 et_192 => ?_)
                    have et_192 : t_192 = nI (mY S (N (23 + 13 * i + 11))) := et_192.trans (by subst hS; first | (rw [sb_m1 (by omega)]; exact congrArg nI (by unfold mY; simp)) | exact congrArg nI (by unfold mY; simp))
                    subst et_192
                    refine k_callv (k := 0) (As := [.int (nI i), .int (nI 11), .int (nI (mY S (N (23 + 13 * i + 11))))]) (rest := []) ⟨hx, hb, hml, hown, hts⟩ (c_X8_put cy D ad l σ_175 i 11 ((nI (mY S (N (23 + 13 * i + 11))))) (by omega)) (cwV 3 hts gX8_drag_X8_put rfl rfl rfl (by decide +kernel) ⟨Nat.le_of_ble_eq_true rfl, Nat.le_of_ble_eq_true rfl⟩) E hA I (k_recv E I (by decide) km_0 rfl) rfl hl.1 rfl (lv_room (Nat.le_of_ble_eq_true rfl)) dX8_drag_192 ⟨Nat.le_of_ble_eq_true rfl, Nat.le_of_ble_eq_true rfl⟩ (fun σ_192 H locs hp_192 I => ?_)
                    have hM2 := mN_put (k := 23 + 13 * i + 11) (v := mY S (N (23 + 13 * i + 11))) hM2 hp_192
                    have hQ := qn_tr hQ (qn_put hp_192)
                    have e8 : σ_192 1 (23 + 13 * i + 8) = nI (N (23 + 13 * i + 8)) := by rw [hp_192, va_up_self, pk_un (by omega)]; exact e8
                    refine lv_aload_n hx hb dX8_drag_195 rfl (lv_at hl 3 rfl) ?_
                    refine lv_iload_n hx hb dX8_drag_196 rfl (lv_at hl 4 rfl) ?_
                    refine lv_bipush (v := nI 8) hx hb dX8_drag_197 (by decide) ?_
                    refine lv_aload_n hx hb dX8_drag_199 rfl (lv_at hl 3 rfl) ?_
                    refine lv_iload_n hx hb dX8_drag_200 rfl (lv_at hl 4 rfl) ?_
                    refine lv_bipush (v := nI 8) hx hb dX8_drag_201 (by decide) ?_
                    refine k_calli (k := 0) (As := [.int (nI i), .int (nI 8)]) (rest := [.int (nI 8), .int (nI i), .ref (ad 0)]) ⟨hx, hb, hml, hown, hts⟩ (c_X8_of cy D ad l σ_192 i 8 (N (23 + 13 * i + 8)) (by omega) e8) (cwV 2 hts gX8_drag_X8_of rfl rfl rfl (by decide +kernel) ⟨Nat.le_of_ble_eq_true rfl, Nat.le_of_ble_eq_true rfl⟩) E hA I (k_recv E I (by decide) km_0 rfl) rfl hl.1 rfl (lv_room (Nat.le_of_ble_eq_true rfl)) dX8_drag_203 ⟨Nat.le_of_ble_eq_true rfl, Nat.le_of_ble_eq_true rfl⟩ (fun r_203 σ_203 H locs hp_203 I => ?_)
                    obtain ⟨rfl, rfl⟩ := hp_203
                    refine lv_iconst (v := nI 1) hx hb dX8_drag_206 (by decide) ?_
                    refine lv_iadd hx hb dX8_drag_207 ?_
                    rw [nI_add]
                    refine k_callv (k := 0) (As := [.int (nI i), .int (nI 8), .int (nI ((N (23 + 13 * i + 8)) + 1))]) (rest := []) ⟨hx, hb, hml, hown, hts⟩ (c_X8_put cy D ad l σ_192 i 8 ((nI ((N (23 + 13 * i + 8)) + 1))) (by omega)) (cwV 3 hts gX8_drag_X8_put rfl rfl rfl (by decide +kernel) ⟨Nat.le_of_ble_eq_true rfl, Nat.le_of_ble_eq_true rfl⟩) E hA I (k_recv E I (by decide) km_0 rfl) rfl hl.1 rfl (lv_room (Nat.le_of_ble_eq_true rfl)) dX8_drag_208 ⟨Nat.le_of_ble_eq_true rfl, Nat.le_of_ble_eq_true rfl⟩ (fun σ_208 H locs hp_208 I => ?_)
                    have hM2 := mN_put (k := 23 + 13 * i + 8) (v := N (23 + 13 * i + 8) + 1) hM2 hp_208
                    have hQ := qn_tr hQ (qn_put hp_208)
                    refine lv_iconst (v := nI 0) hx hb dX8_drag_211 (by decide) ?_
                    exact k_iret hx hb hr hlk I dX8_drag_212 (by have hst : pStay N i S = true := (by subst hS; unfold pStay mIn; simp; omega); first | (have hk := drag_m1 hst (by omega); subst hS; exact ⟨by rw [hst]; rfl, mN_same hM2 (fun k _ => hk k), hQ⟩) | (have hk := drag_m2 hst (by omega); subst hS; exact ⟨by rw [hst]; rfl, mN_same hM2 (fun k _ => hk k), hQ⟩))
                · exact absurd c_109 (by decide)
              · have c_71 : ¬ ((N (23 + 13 * i + 9)) = 0) := fun q_ => c_71 ((nI_eq (by omega) (by decide)).mpr q_)
                have hm : N (23 + 13 * i + 9) = 1 := by omega
                have hs2 := hsh.2.2.2.2.1 hm
                refine lv_aload_n hx hb dX8_drag_74 rfl (lv_at hl 2 rfl) ?_
                refine lv_aload_n hx hb dX8_drag_75 rfl (lv_at hl 2 rfl) ?_
                refine lv_iload_n hx hb dX8_drag_76 rfl (lv_at hl 3 rfl) ?_
                refine lv_bipush (v := nI 10) hx hb dX8_drag_77 (by decide) ?_
                refine k_calli (k := 0) (As := [.int (nI i), .int (nI 10)]) (rest := [.ref (ad 0)]) ⟨hx, hb, hml, hown, hts⟩ (c_X8_of cy D ad l σ i (10) (N (23 + 13 * i + 10)) (by omega) (hM _ (by omega))) (cwV 2 hts gX8_drag_X8_of rfl rfl rfl (by decide +kernel) ⟨Nat.le_of_ble_eq_true rfl, Nat.le_of_ble_eq_true rfl⟩) E hA I (k_recv E I (by decide) km_0 rfl) rfl hl.1 rfl (lv_room (Nat.le_of_ble_eq_true rfl)) dX8_drag_79 ⟨Nat.le_of_ble_eq_true rfl, Nat.le_of_ble_eq_true rfl⟩ (fun r_79 σ_79 H locs hp_79 I => ?_)
                obtain ⟨rfl, rfl⟩ := hp_79
                refine lv_iload_n hx hb dX8_drag_82 rfl (lv_at hl 1 rfl) ?_
                refine lv_iadd hx hb dX8_drag_83 ?_
                rw [nI_add]
                refine lv_aload_n hx hb dX8_drag_84 rfl (lv_at hl 2 rfl) ?_
                refine lv_iload_n hx hb dX8_drag_85 rfl (lv_at hl 3 rfl) ?_
                refine lv_bipush (v := nI 11) hx hb dX8_drag_86 (by decide) ?_
                refine k_calli (k := 0) (As := [.int (nI i), .int (nI 11)]) (rest := [.int (nI ((N (23 + 13 * i + 10)) + 1)), .ref (ad 0)]) ⟨hx, hb, hml, hown, hts⟩ (c_X8_of cy D ad l σ i (11) (N (23 + 13 * i + 11)) (by omega) (hM _ (by omega))) (cwV 2 hts gX8_drag_X8_of rfl rfl rfl (by decide +kernel) ⟨Nat.le_of_ble_eq_true rfl, Nat.le_of_ble_eq_true rfl⟩) E hA I (k_recv E I (by decide) km_0 rfl) rfl hl.1 rfl (lv_room (Nat.le_of_ble_eq_true rfl)) dX8_drag_88 ⟨Nat.le_of_ble_eq_true rfl, Nat.le_of_ble_eq_true rfl⟩ (fun r_88 σ_88 H locs hp_88 I => ?_)
                obtain ⟨rfl, rfl⟩ := hp_88
                refine lv_iload hx hb dX8_drag_91 (lv_at hl 0 rfl) ?_
                refine lv_iadd hx hb dX8_drag_93 ?_
                rw [nI_add]
                refine k_calli (k := 0) (As := [.int (nI ((N (23 + 13 * i + 10)) + 1)), .int (nI ((N (23 + 13 * i + 11)) + 0))]) (rest := []) ⟨hx, hb, hml, hown, hts⟩ (c_X8_isField cy D ad l σ ((nI ((N (23 + 13 * i + 10)) + 1))) ((nI ((N (23 + 13 * i + 11)) + 0))) N hN hM) (cwV 2 hts gX8_drag_X8_isField rfl rfl rfl (by decide +kernel) ⟨Nat.le_of_ble_eq_true rfl, Nat.le_of_ble_eq_true rfl⟩) E hA I (k_recv E I (by decide) km_0 rfl) rfl hl.1 rfl (lv_room (Nat.le_of_ble_eq_true rfl)) dX8_drag_94 ⟨Nat.le_of_ble_eq_true rfl, Nat.le_of_ble_eq_true rfl⟩ (fun r_94 σ_94 H locs hp_94 I => ?_)
                obtain ⟨hk_, rfl⟩ := hp_94
                first | rw [nI_toInt (by omega), nI_toInt (by omega)] at hk_ | rw [km1_toInt (by omega), nI_toInt (by omega)] at hk_ | rw [nI_toInt (by omega), km1_toInt (by omega)] at hk_
                rcases hk_ with ⟨rfl, g2⟩ | ⟨rfl, g2⟩
                · refine lv_if_eq (tgt := 104) hx hb dX8_drag_97 (by decide) (fun c_97 => ?_) (fun c_97 => ?_)
                  · exact absurd c_97 (by decide)
                  · refine lv_iconst (v := nI 1) hx hb dX8_drag_100 (by decide) ?_
                    refine lv_goto (tgt := 105) hx hb dX8_drag_101 (by decide) ?_
                    refine lv_istore (lv' := [(5, .int (nI 1)), (4, .int (nI 0)), (3, .int (nI 1)), (0, .ref (ad 0)), (1, .int (nI i)), (2, .int (nI 1))]) hx hb dX8_drag_105 hl (by decide) rfl (fun ls hl => ?_)
                    refine lv_iload hx hb dX8_drag_107 (lv_at hl 0 rfl) ?_
                    refine lv_if_ne (tgt := 122) hx hb dX8_drag_109 (by decide) (fun c_109 => ?_) (fun c_109 => ?_)
                    · refine lv_aload_n hx hb dX8_drag_122 rfl (lv_at hl 3 rfl) ?_
                      refine lv_iload_n hx hb dX8_drag_123 rfl (lv_at hl 4 rfl) ?_
                      refine lv_iconst (v := nI 0) hx hb dX8_drag_124 (by decide) ?_
                      refine lv_aload_n hx hb dX8_drag_125 rfl (lv_at hl 3 rfl) ?_
                      refine lv_iload_n hx hb dX8_drag_126 rfl (lv_at hl 4 rfl) ?_
                      refine lv_iconst (v := nI 0) hx hb dX8_drag_127 (by decide) ?_
                      refine k_calli (k := 0) (As := [.int (nI i), .int (nI 0)]) (rest := [.int (nI 0), .int (nI i), .ref (ad 0)]) ⟨hx, hb, hml, hown, hts⟩ (c_X8_of cy D ad l σ i (0) (N (23 + 13 * i)) (by omega) (hM _ (by omega))) (cwV 2 hts gX8_drag_X8_of rfl rfl rfl (by decide +kernel) ⟨Nat.le_of_ble_eq_true rfl, Nat.le_of_ble_eq_true rfl⟩) E hA I (k_recv E I (by decide) km_0 rfl) rfl hl.1 rfl (lv_room (Nat.le_of_ble_eq_true rfl)) dX8_drag_128 ⟨Nat.le_of_ble_eq_true rfl, Nat.le_of_ble_eq_true rfl⟩ (fun r_128 σ_128 H locs hp_128 I => ?_)
                      obtain ⟨rfl, rfl⟩ := hp_128
                      refine lv_iload_n hx hb dX8_drag_131 rfl (lv_at hl 2 rfl) ?_
                      refine lv_iadd hx hb dX8_drag_132 ?_
                      rw [nI_add]
                      refine lv_topi (fun t_133 et_133 => ?_)
                      have et_133 : t_133 = nI (mX S (N (23 + 13 * i))) := et_133.trans (by subst hS; first | (rw [sb_m1 (by omega)]; exact congrArg nI (by unfold mX; simp)) | exact congrArg nI (by unfold mX; simp))
                      subst et_133
                      refine k_callv (k := 0) (As := [.int (nI i), .int (nI 0), .int (nI (mX S (N (23 + 13 * i))))]) (rest := []) ⟨hx, hb, hml, hown, hts⟩ (c_X8_put cy D ad l σ i 0 ((nI (mX S (N (23 + 13 * i))))) (by omega)) (cwV 3 hts gX8_drag_X8_put rfl rfl rfl (by decide +kernel) ⟨Nat.le_of_ble_eq_true rfl, Nat.le_of_ble_eq_true rfl⟩) E hA I (k_recv E I (by decide) km_0 rfl) rfl hl.1 rfl (lv_room (Nat.le_of_ble_eq_true rfl)) dX8_drag_133 ⟨Nat.le_of_ble_eq_true rfl, Nat.le_of_ble_eq_true rfl⟩ (fun σ_133 H locs hp_133 I => ?_)
                      have hM1 := mN_put (k := 23 + 13 * i) (v := mX S (N (23 + 13 * i))) hM hp_133
                      have hQ := qn_tr hQ (qn_put hp_133)
                      have e1 : σ_133 1 (23 + 13 * i + 1) = nI (N (23 + 13 * i + 1)) := by rw [hp_133, va_up_self, pk_un (by omega)]; exact hM _ (by omega)
                      have e8 : σ_133 1 (23 + 13 * i + 8) = nI (N (23 + 13 * i + 8)) := by rw [hp_133, va_up_self, pk_un (by omega)]; exact hM _ (by omega)
                      have e9 : σ_133 1 (23 + 13 * i + 9) = nI (N (23 + 13 * i + 9)) := by rw [hp_133, va_up_self, pk_un (by omega)]; exact hM _ (by omega)
                      have e10 : σ_133 1 (23 + 13 * i + 10) = nI (N (23 + 13 * i + 10)) := by rw [hp_133, va_up_self, pk_un (by omega)]; exact hM _ (by omega)
                      have e11 : σ_133 1 (23 + 13 * i + 11) = nI (N (23 + 13 * i + 11)) := by rw [hp_133, va_up_self, pk_un (by omega)]; exact hM _ (by omega)
                      refine lv_aload_n hx hb dX8_drag_136 rfl (lv_at hl 3 rfl) ?_
                      refine lv_iload_n hx hb dX8_drag_137 rfl (lv_at hl 4 rfl) ?_
                      refine lv_iconst (v := nI 1) hx hb dX8_drag_138 (by decide) ?_
                      refine lv_aload_n hx hb dX8_drag_139 rfl (lv_at hl 3 rfl) ?_
                      refine lv_iload_n hx hb dX8_drag_140 rfl (lv_at hl 4 rfl) ?_
                      refine lv_iconst (v := nI 1) hx hb dX8_drag_141 (by decide) ?_
                      refine k_calli (k := 0) (As := [.int (nI i), .int (nI 1)]) (rest := [.int (nI 1), .int (nI i), .ref (ad 0)]) ⟨hx, hb, hml, hown, hts⟩ (c_X8_of cy D ad l σ_133 i 1 (N (23 + 13 * i + 1)) (by omega) e1) (cwV 2 hts gX8_drag_X8_of rfl rfl rfl (by decide +kernel) ⟨Nat.le_of_ble_eq_true rfl, Nat.le_of_ble_eq_true rfl⟩) E hA I (k_recv E I (by decide) km_0 rfl) rfl hl.1 rfl (lv_room (Nat.le_of_ble_eq_true rfl)) dX8_drag_142 ⟨Nat.le_of_ble_eq_true rfl, Nat.le_of_ble_eq_true rfl⟩ (fun r_142 σ_142 H locs hp_142 I => ?_)
                      obtain ⟨rfl, rfl⟩ := hp_142
                      refine lv_iload hx hb dX8_drag_145 (lv_at hl 1 rfl) ?_
                      refine lv_iadd hx hb dX8_drag_147 ?_
                      rw [nI_add]
                      refine lv_topi (fun t_148 et_148 => ?_)
                      have et_148 : t_148 = nI (mY S (N (23 + 13 * i + 1))) := et_148.trans (by subst hS; first | (rw [sb_m1 (by omega)]; exact congrArg nI (by unfold mY; simp)) | exact congrArg nI (by unfold mY; simp))
                      subst et_148
                      refine k_callv (k := 0) (As := [.int (nI i), .int (nI 1), .int (nI (mY S (N (23 + 13 * i + 1))))]) (rest := []) ⟨hx, hb, hml, hown, hts⟩ (c_X8_put cy D ad l σ_133 i 1 ((nI (mY S (N (23 + 13 * i + 1))))) (by omega)) (cwV 3 hts gX8_drag_X8_put rfl rfl rfl (by decide +kernel) ⟨Nat.le_of_ble_eq_true rfl, Nat.le_of_ble_eq_true rfl⟩) E hA I (k_recv E I (by decide) km_0 rfl) rfl hl.1 rfl (lv_room (Nat.le_of_ble_eq_true rfl)) dX8_drag_148 ⟨Nat.le_of_ble_eq_true rfl, Nat.le_of_ble_eq_true rfl⟩ (fun σ_148 H locs hp_148 I => ?_)
                      have hM2 := mN_put (k := 23 + 13 * i + 1) (v := mY S (N (23 + 13 * i + 1))) hM1 hp_148
                      have hQ := qn_tr hQ (qn_put hp_148)
                      have e8 : σ_148 1 (23 + 13 * i + 8) = nI (N (23 + 13 * i + 8)) := by rw [hp_148, va_up_self, pk_un (by omega)]; exact e8
                      have e9 : σ_148 1 (23 + 13 * i + 9) = nI (N (23 + 13 * i + 9)) := by rw [hp_148, va_up_self, pk_un (by omega)]; exact e9
                      have e10 : σ_148 1 (23 + 13 * i + 10) = nI (N (23 + 13 * i + 10)) := by rw [hp_148, va_up_self, pk_un (by omega)]; exact e10
                      have e11 : σ_148 1 (23 + 13 * i + 11) = nI (N (23 + 13 * i + 11)) := by rw [hp_148, va_up_self, pk_un (by omega)]; exact e11
                      refine lv_aload_n hx hb dX8_drag_151 rfl (lv_at hl 3 rfl) ?_
                      refine lv_iload_n hx hb dX8_drag_152 rfl (lv_at hl 4 rfl) ?_
                      refine lv_bipush (v := nI 9) hx hb dX8_drag_153 (by decide) ?_
                      refine k_calli (k := 0) (As := [.int (nI i), .int (nI 9)]) (rest := []) ⟨hx, hb, hml, hown, hts⟩ (c_X8_of cy D ad l σ_148 i 9 (N (23 + 13 * i + 9)) (by omega) e9) (cwV 2 hts gX8_drag_X8_of rfl rfl rfl (by decide +kernel) ⟨Nat.le_of_ble_eq_true rfl, Nat.le_of_ble_eq_true rfl⟩) E hA I (k_recv E I (by decide) km_0 rfl) rfl hl.1 rfl (lv_room (Nat.le_of_ble_eq_true rfl)) dX8_drag_155 ⟨Nat.le_of_ble_eq_true rfl, Nat.le_of_ble_eq_true rfl⟩ (fun r_155 σ_155 H locs hp_155 I => ?_)
                      obtain ⟨rfl, rfl⟩ := hp_155
                      refine lv_iconst (v := nI 1) hx hb dX8_drag_158 (by decide) ?_
                      refine lv_icmp_ne (tgt := 195) hx hb dX8_drag_159 (by decide) (fun c_159 => ?_) (fun c_159 => ?_)
                      · have c_159 : ¬ ((N (23 + 13 * i + 9)) = 1) := fun q_ => c_159 ((nI_eq (by omega) (by omega)).mpr q_)
                        refine lv_aload_n hx hb dX8_drag_195 rfl (lv_at hl 3 rfl) ?_
                        refine lv_iload_n hx hb dX8_drag_196 rfl (lv_at hl 4 rfl) ?_
                        refine lv_bipush (v := nI 8) hx hb dX8_drag_197 (by decide) ?_
                        refine lv_aload_n hx hb dX8_drag_199 rfl (lv_at hl 3 rfl) ?_
                        refine lv_iload_n hx hb dX8_drag_200 rfl (lv_at hl 4 rfl) ?_
                        refine lv_bipush (v := nI 8) hx hb dX8_drag_201 (by decide) ?_
                        refine k_calli (k := 0) (As := [.int (nI i), .int (nI 8)]) (rest := [.int (nI 8), .int (nI i), .ref (ad 0)]) ⟨hx, hb, hml, hown, hts⟩ (c_X8_of cy D ad l σ_148 i 8 (N (23 + 13 * i + 8)) (by omega) e8) (cwV 2 hts gX8_drag_X8_of rfl rfl rfl (by decide +kernel) ⟨Nat.le_of_ble_eq_true rfl, Nat.le_of_ble_eq_true rfl⟩) E hA I (k_recv E I (by decide) km_0 rfl) rfl hl.1 rfl (lv_room (Nat.le_of_ble_eq_true rfl)) dX8_drag_203 ⟨Nat.le_of_ble_eq_true rfl, Nat.le_of_ble_eq_true rfl⟩ (fun r_203 σ_203 H locs hp_203 I => ?_)
                        obtain ⟨rfl, rfl⟩ := hp_203
                        refine lv_iconst (v := nI 1) hx hb dX8_drag_206 (by decide) ?_
                        refine lv_iadd hx hb dX8_drag_207 ?_
                        rw [nI_add]
                        refine k_callv (k := 0) (As := [.int (nI i), .int (nI 8), .int (nI ((N (23 + 13 * i + 8)) + 1))]) (rest := []) ⟨hx, hb, hml, hown, hts⟩ (c_X8_put cy D ad l σ_148 i 8 ((nI ((N (23 + 13 * i + 8)) + 1))) (by omega)) (cwV 3 hts gX8_drag_X8_put rfl rfl rfl (by decide +kernel) ⟨Nat.le_of_ble_eq_true rfl, Nat.le_of_ble_eq_true rfl⟩) E hA I (k_recv E I (by decide) km_0 rfl) rfl hl.1 rfl (lv_room (Nat.le_of_ble_eq_true rfl)) dX8_drag_208 ⟨Nat.le_of_ble_eq_true rfl, Nat.le_of_ble_eq_true rfl⟩ (fun σ_208 H locs hp_208 I => ?_)
                        have hM2 := mN_put (k := 23 + 13 * i + 8) (v := N (23 + 13 * i + 8) + 1) hM2 hp_208
                        have hQ := qn_tr hQ (qn_put hp_208)
                        refine lv_iconst (v := nI 0) hx hb dX8_drag_211 (by decide) ?_
                        exact k_iret hx hb hr hlk I dX8_drag_212 (by have hst : pStay N i S = true := (by subst hS; unfold pStay mIn; simp; omega); first | (have hk := drag_m1 hst (by omega); subst hS; exact ⟨by rw [hst]; rfl, mN_same hM2 (fun k _ => hk k), hQ⟩) | (have hk := drag_m2 hst (by omega); subst hS; exact ⟨by rw [hst]; rfl, mN_same hM2 (fun k _ => hk k), hQ⟩))
                      · have c_159 : (N (23 + 13 * i + 9)) = 1 := (nI_eq (by omega) (by omega)).mp c_159
                        have hs2 := hsh.2.2.2.2.1 (by omega)
                        refine lv_aload_n hx hb dX8_drag_162 rfl (lv_at hl 3 rfl) ?_
                        refine lv_iload_n hx hb dX8_drag_163 rfl (lv_at hl 4 rfl) ?_
                        refine lv_bipush (v := nI 10) hx hb dX8_drag_164 (by decide) ?_
                        refine lv_aload_n hx hb dX8_drag_166 rfl (lv_at hl 3 rfl) ?_
                        refine lv_iload_n hx hb dX8_drag_167 rfl (lv_at hl 4 rfl) ?_
                        refine lv_bipush (v := nI 10) hx hb dX8_drag_168 (by decide) ?_
                        refine k_calli (k := 0) (As := [.int (nI i), .int (nI 10)]) (rest := [.int (nI 10), .int (nI i), .ref (ad 0)]) ⟨hx, hb, hml, hown, hts⟩ (c_X8_of cy D ad l σ_148 i 10 (N (23 + 13 * i + 10)) (by omega) e10) (cwV 2 hts gX8_drag_X8_of rfl rfl rfl (by decide +kernel) ⟨Nat.le_of_ble_eq_true rfl, Nat.le_of_ble_eq_true rfl⟩) E hA I (k_recv E I (by decide) km_0 rfl) rfl hl.1 rfl (lv_room (Nat.le_of_ble_eq_true rfl)) dX8_drag_170 ⟨Nat.le_of_ble_eq_true rfl, Nat.le_of_ble_eq_true rfl⟩ (fun r_170 σ_170 H locs hp_170 I => ?_)
                        obtain ⟨rfl, rfl⟩ := hp_170
                        refine lv_iload_n hx hb dX8_drag_173 rfl (lv_at hl 2 rfl) ?_
                        refine lv_iadd hx hb dX8_drag_174 ?_
                        rw [nI_add]
                        refine lv_topi (fun t_175 et_175 => ?_)
                        have et_175 : t_175 = nI (mX S (N (23 + 13 * i + 10))) := et_175.trans (by subst hS; first | (rw [sb_m1 (by omega)]; exact congrArg nI (by unfold mX; simp)) | exact congrArg nI (by unfold mX; simp))
                        subst et_175
                        refine k_callv (k := 0) (As := [.int (nI i), .int (nI 10), .int (nI (mX S (N (23 + 13 * i + 10))))]) (rest := []) ⟨hx, hb, hml, hown, hts⟩ (c_X8_put cy D ad l σ_148 i 10 ((nI (mX S (N (23 + 13 * i + 10))))) (by omega)) (cwV 3 hts gX8_drag_X8_put rfl rfl rfl (by decide +kernel) ⟨Nat.le_of_ble_eq_true rfl, Nat.le_of_ble_eq_true rfl⟩) E hA I (k_recv E I (by decide) km_0 rfl) rfl hl.1 rfl (lv_room (Nat.le_of_ble_eq_true rfl)) dX8_drag_175 ⟨Nat.le_of_ble_eq_true rfl, Nat.le_of_ble_eq_true rfl⟩ (fun σ_175 H locs hp_175 I => ?_)
                        have hM2 := mN_put (k := 23 + 13 * i + 10) (v := mX S (N (23 + 13 * i + 10))) hM2 hp_175
                        have hQ := qn_tr hQ (qn_put hp_175)
                        have e8 : σ_175 1 (23 + 13 * i + 8) = nI (N (23 + 13 * i + 8)) := by rw [hp_175, va_up_self, pk_un (by omega)]; exact e8
                        have e11 : σ_175 1 (23 + 13 * i + 11) = nI (N (23 + 13 * i + 11)) := by rw [hp_175, va_up_self, pk_un (by omega)]; exact e11
                        refine lv_aload_n hx hb dX8_drag_178 rfl (lv_at hl 3 rfl) ?_
                        refine lv_iload_n hx hb dX8_drag_179 rfl (lv_at hl 4 rfl) ?_
                        refine lv_bipush (v := nI 11) hx hb dX8_drag_180 (by decide) ?_
                        refine lv_aload_n hx hb dX8_drag_182 rfl (lv_at hl 3 rfl) ?_
                        refine lv_iload_n hx hb dX8_drag_183 rfl (lv_at hl 4 rfl) ?_
                        refine lv_bipush (v := nI 11) hx hb dX8_drag_184 (by decide) ?_
                        refine k_calli (k := 0) (As := [.int (nI i), .int (nI 11)]) (rest := [.int (nI 11), .int (nI i), .ref (ad 0)]) ⟨hx, hb, hml, hown, hts⟩ (c_X8_of cy D ad l σ_175 i 11 (N (23 + 13 * i + 11)) (by omega) e11) (cwV 2 hts gX8_drag_X8_of rfl rfl rfl (by decide +kernel) ⟨Nat.le_of_ble_eq_true rfl, Nat.le_of_ble_eq_true rfl⟩) E hA I (k_recv E I (by decide) km_0 rfl) rfl hl.1 rfl (lv_room (Nat.le_of_ble_eq_true rfl)) dX8_drag_186 ⟨Nat.le_of_ble_eq_true rfl, Nat.le_of_ble_eq_true rfl⟩ (fun r_186 σ_186 H locs hp_186 I => ?_)
                        obtain ⟨rfl, rfl⟩ := hp_186
                        refine lv_iload hx hb dX8_drag_189 (lv_at hl 1 rfl) ?_
                        refine lv_iadd hx hb dX8_drag_191 ?_
                        rw [nI_add]
                        refine lv_topi (fun t_192 et_192 => ?_)
                        have et_192 : t_192 = nI (mY S (N (23 + 13 * i + 11))) := et_192.trans (by subst hS; first | (rw [sb_m1 (by omega)]; exact congrArg nI (by unfold mY; simp)) | exact congrArg nI (by unfold mY; simp))
                        subst et_192
                        refine k_callv (k := 0) (As := [.int (nI i), .int (nI 11), .int (nI (mY S (N (23 + 13 * i + 11))))]) (rest := []) ⟨hx, hb, hml, hown, hts⟩ (c_X8_put cy D ad l σ_175 i 11 ((nI (mY S (N (23 + 13 * i + 11))))) (by omega)) (cwV 3 hts gX8_drag_X8_put rfl rfl rfl (by decide +kernel) ⟨Nat.le_of_ble_eq_true rfl, Nat.le_of_ble_eq_true rfl⟩) E hA I (k_recv E I (by decide) km_0 rfl) rfl hl.1 rfl (lv_room (Nat.le_of_ble_eq_true rfl)) dX8_drag_192 ⟨Nat.le_of_ble_eq_true rfl, Nat.le_of_ble_eq_true rfl⟩ (fun σ_192 H locs hp_192 I => ?_)
                        have hM2 := mN_put (k := 23 + 13 * i + 11) (v := mY S (N (23 + 13 * i + 11))) hM2 hp_192
                        have hQ := qn_tr hQ (qn_put hp_192)
                        have e8 : σ_192 1 (23 + 13 * i + 8) = nI (N (23 + 13 * i + 8)) := by rw [hp_192, va_up_self, pk_un (by omega)]; exact e8
                        refine lv_aload_n hx hb dX8_drag_195 rfl (lv_at hl 3 rfl) ?_
                        refine lv_iload_n hx hb dX8_drag_196 rfl (lv_at hl 4 rfl) ?_
                        refine lv_bipush (v := nI 8) hx hb dX8_drag_197 (by decide) ?_
                        refine lv_aload_n hx hb dX8_drag_199 rfl (lv_at hl 3 rfl) ?_
                        refine lv_iload_n hx hb dX8_drag_200 rfl (lv_at hl 4 rfl) ?_
                        refine lv_bipush (v := nI 8) hx hb dX8_drag_201 (by decide) ?_
                        refine k_calli (k := 0) (As := [.int (nI i), .int (nI 8)]) (rest := [.int (nI 8), .int (nI i), .ref (ad 0)]) ⟨hx, hb, hml, hown, hts⟩ (c_X8_of cy D ad l σ_192 i 8 (N (23 + 13 * i + 8)) (by omega) e8) (cwV 2 hts gX8_drag_X8_of rfl rfl rfl (by decide +kernel) ⟨Nat.le_of_ble_eq_true rfl, Nat.le_of_ble_eq_true rfl⟩) E hA I (k_recv E I (by decide) km_0 rfl) rfl hl.1 rfl (lv_room (Nat.le_of_ble_eq_true rfl)) dX8_drag_203 ⟨Nat.le_of_ble_eq_true rfl, Nat.le_of_ble_eq_true rfl⟩ (fun r_203 σ_203 H locs hp_203 I => ?_)
                        obtain ⟨rfl, rfl⟩ := hp_203
                        refine lv_iconst (v := nI 1) hx hb dX8_drag_206 (by decide) ?_
                        refine lv_iadd hx hb dX8_drag_207 ?_
                        rw [nI_add]
                        refine k_callv (k := 0) (As := [.int (nI i), .int (nI 8), .int (nI ((N (23 + 13 * i + 8)) + 1))]) (rest := []) ⟨hx, hb, hml, hown, hts⟩ (c_X8_put cy D ad l σ_192 i 8 ((nI ((N (23 + 13 * i + 8)) + 1))) (by omega)) (cwV 3 hts gX8_drag_X8_put rfl rfl rfl (by decide +kernel) ⟨Nat.le_of_ble_eq_true rfl, Nat.le_of_ble_eq_true rfl⟩) E hA I (k_recv E I (by decide) km_0 rfl) rfl hl.1 rfl (lv_room (Nat.le_of_ble_eq_true rfl)) dX8_drag_208 ⟨Nat.le_of_ble_eq_true rfl, Nat.le_of_ble_eq_true rfl⟩ (fun σ_208 H locs hp_208 I => ?_)
                        have hM2 := mN_put (k := 23 + 13 * i + 8) (v := N (23 + 13 * i + 8) + 1) hM2 hp_208
                        have hQ := qn_tr hQ (qn_put hp_208)
                        refine lv_iconst (v := nI 0) hx hb dX8_drag_211 (by decide) ?_
                        exact k_iret hx hb hr hlk I dX8_drag_212 (by have hst : pStay N i S = true := (by subst hS; unfold pStay mIn; simp; omega); first | (have hk := drag_m1 hst (by omega); subst hS; exact ⟨by rw [hst]; rfl, mN_same hM2 (fun k _ => hk k), hQ⟩) | (have hk := drag_m2 hst (by omega); subst hS; exact ⟨by rw [hst]; rfl, mN_same hM2 (fun k _ => hk k), hQ⟩))
                    · exact absurd c_109 (by decide)
                · refine lv_if_eq (tgt := 104) hx hb dX8_drag_97 (by decide) (fun c_97 => ?_) (fun c_97 => ?_)
                  · refine lv_iconst (v := nI 0) hx hb dX8_drag_104 (by decide) ?_
                    refine lv_istore (lv' := [(5, .int (nI 0)), (4, .int (nI 0)), (3, .int (nI 1)), (0, .ref (ad 0)), (1, .int (nI i)), (2, .int (nI 1))]) hx hb dX8_drag_105 hl (by decide) rfl (fun ls hl => ?_)
                    refine lv_iload hx hb dX8_drag_107 (lv_at hl 0 rfl) ?_
                    refine lv_if_ne (tgt := 122) hx hb dX8_drag_109 (by decide) (fun c_109 => ?_) (fun c_109 => ?_)
                    · exact absurd c_109 (by decide)
                    · refine lv_aload_n hx hb dX8_drag_112 rfl (lv_at hl 3 rfl) ?_
                      refine lv_iload_n hx hb dX8_drag_113 rfl (lv_at hl 4 rfl) ?_
                      refine lv_bipush (v := nI 7) hx hb dX8_drag_114 (by decide) ?_
                      refine lv_iconst (v := nI 1) hx hb dX8_drag_116 (by decide) ?_
                      refine k_callv (k := 0) (As := [.int (nI i), .int (nI 7), .int (nI 1)]) (rest := []) ⟨hx, hb, hml, hown, hts⟩ (c_X8_put cy D ad l σ i 7 ((nI 1)) (by omega)) (cwV 3 hts gX8_drag_X8_put rfl rfl rfl (by decide +kernel) ⟨Nat.le_of_ble_eq_true rfl, Nat.le_of_ble_eq_true rfl⟩) E hA I (k_recv E I (by decide) km_0 rfl) rfl hl.1 rfl (lv_room (Nat.le_of_ble_eq_true rfl)) dX8_drag_117 ⟨Nat.le_of_ble_eq_true rfl, Nat.le_of_ble_eq_true rfl⟩ (fun σ_117 H locs hp_117 I => ?_)
                      have hst : pStay N i S = false := by subst hS; unfold pStay mIn; simp; omega
                      subst hS
                      refine lv_iconst (v := nI 1) hx hb dX8_drag_120 (by decide) ?_
                      exact k_iret hx hb hr hlk I dX8_drag_121 (⟨by rw [hst]; rfl, by have := mN_put (k := 23 + 13 * i + 7) (v := 1) hM hp_117; unfold pDrag; rw [hst]; exact this, qn_tr hQ (qn_put hp_117)⟩)
                  · exact absurd c_97 (by decide)
          · refine lv_if_eq (tgt := 104) hx hb dX8_drag_61 (by decide) (fun c_61 => ?_) (fun c_61 => ?_)
            · refine lv_iconst (v := nI 0) hx hb dX8_drag_104 (by decide) ?_
              refine lv_istore (lv' := [(5, .int (nI 0)), (4, .int (nI 0)), (3, .int (nI 1)), (0, .ref (ad 0)), (1, .int (nI i)), (2, .int (nI 1))]) hx hb dX8_drag_105 hl (by decide) rfl (fun ls hl => ?_)
              refine lv_iload hx hb dX8_drag_107 (lv_at hl 0 rfl) ?_
              refine lv_if_ne (tgt := 122) hx hb dX8_drag_109 (by decide) (fun c_109 => ?_) (fun c_109 => ?_)
              · exact absurd c_109 (by decide)
              · refine lv_aload_n hx hb dX8_drag_112 rfl (lv_at hl 3 rfl) ?_
                refine lv_iload_n hx hb dX8_drag_113 rfl (lv_at hl 4 rfl) ?_
                refine lv_bipush (v := nI 7) hx hb dX8_drag_114 (by decide) ?_
                refine lv_iconst (v := nI 1) hx hb dX8_drag_116 (by decide) ?_
                refine k_callv (k := 0) (As := [.int (nI i), .int (nI 7), .int (nI 1)]) (rest := []) ⟨hx, hb, hml, hown, hts⟩ (c_X8_put cy D ad l σ i 7 ((nI 1)) (by omega)) (cwV 3 hts gX8_drag_X8_put rfl rfl rfl (by decide +kernel) ⟨Nat.le_of_ble_eq_true rfl, Nat.le_of_ble_eq_true rfl⟩) E hA I (k_recv E I (by decide) km_0 rfl) rfl hl.1 rfl (lv_room (Nat.le_of_ble_eq_true rfl)) dX8_drag_117 ⟨Nat.le_of_ble_eq_true rfl, Nat.le_of_ble_eq_true rfl⟩ (fun σ_117 H locs hp_117 I => ?_)
                have hst : pStay N i S = false := by subst hS; unfold pStay mIn; simp; omega
                subst hS
                refine lv_iconst (v := nI 1) hx hb dX8_drag_120 (by decide) ?_
                exact k_iret hx hb hr hlk I dX8_drag_121 (⟨by rw [hst]; rfl, by have := mN_put (k := 23 + 13 * i + 7) (v := 1) hM hp_117; unfold pDrag; rw [hst]; exact this, qn_tr hQ (qn_put hp_117)⟩)
            · exact absurd c_61 (by decide)
        · exact absurd c_30 (by decide)
      · exact absurd c_21 (by decide)
  · refine lv_iload_n hx hb dX8_drag_0 rfl (lv_at hl 2 rfl) ?_
    refine lv_iconst (v := nI 1) hx hb dX8_drag_1 (by decide) ?_
    refine lv_icmp_ne (tgt := 9) hx hb dX8_drag_2 (by decide) (fun c_2 => ?_) (fun c_2 => ?_)
    · refine lv_iload_n hx hb dX8_drag_9 rfl (lv_at hl 2 rfl) ?_
      refine lv_iconst (v := nI 3) hx hb dX8_drag_10 (by decide) ?_
      refine lv_icmp_ne (tgt := 18) hx hb dX8_drag_11 (by decide) (fun c_11 => ?_) (fun c_11 => ?_)
      · refine lv_iconst (v := nI 0) hx hb dX8_drag_18 (by decide) ?_
        refine lv_istore_n (lv' := [(3, .int (nI 0)), (0, .ref (ad 0)), (1, .int (nI i)), (2, .int (nI 2))]) hx hb dX8_drag_19 rfl hl (by decide) rfl (fun ls hl => ?_)
        refine lv_iload_n hx hb dX8_drag_20 rfl (lv_at hl 3 rfl) ?_
        refine lv_if_ne (tgt := 28) hx hb dX8_drag_21 (by decide) (fun c_21 => ?_) (fun c_21 => ?_)
        · refine lv_iload_n hx hb dX8_drag_28 rfl (lv_at hl 3 rfl) ?_
          refine lv_iconst (v := nI 2) hx hb dX8_drag_29 (by decide) ?_
          refine lv_icmp_ne (tgt := 37) hx hb dX8_drag_30 (by decide) (fun c_30 => ?_) (fun c_30 => ?_)
          · exact absurd c_30 (by decide)
          · refine lv_iconst (v := nI 1) hx hb dX8_drag_33 (by decide) ?_
            refine lv_goto (tgt := 38) hx hb dX8_drag_34 (by decide) ?_
            refine lv_istore (lv' := [(4, .int (nI 1)), (3, .int (nI 0)), (0, .ref (ad 0)), (1, .int (nI i)), (2, .int (nI 2))]) hx hb dX8_drag_38 hl (by decide) rfl (fun ls hl => ?_)
            refine lv_aload_n hx hb dX8_drag_40 rfl (lv_at hl 2 rfl) ?_
            refine lv_aload_n hx hb dX8_drag_41 rfl (lv_at hl 2 rfl) ?_
            refine lv_iload_n hx hb dX8_drag_42 rfl (lv_at hl 3 rfl) ?_
            refine lv_iconst (v := nI 0) hx hb dX8_drag_43 (by decide) ?_
            refine k_calli (k := 0) (As := [.int (nI i), .int (nI 0)]) (rest := [.ref (ad 0)]) ⟨hx, hb, hml, hown, hts⟩ (c_X8_of cy D ad l σ i (0) (N (23 + 13 * i)) (by omega) (hM _ (by omega))) (cwV 2 hts gX8_drag_X8_of rfl rfl rfl (by decide +kernel) ⟨Nat.le_of_ble_eq_true rfl, Nat.le_of_ble_eq_true rfl⟩) E hA I (k_recv E I (by decide) km_0 rfl) rfl hl.1 rfl (lv_room (Nat.le_of_ble_eq_true rfl)) dX8_drag_44 ⟨Nat.le_of_ble_eq_true rfl, Nat.le_of_ble_eq_true rfl⟩ (fun r_44 σ_44 H locs hp_44 I => ?_)
            obtain ⟨rfl, rfl⟩ := hp_44
            refine lv_iload_n hx hb dX8_drag_47 rfl (lv_at hl 1 rfl) ?_
            refine lv_iadd hx hb dX8_drag_48 ?_
            rw [nI_add]
            refine lv_aload_n hx hb dX8_drag_49 rfl (lv_at hl 2 rfl) ?_
            refine lv_iload_n hx hb dX8_drag_50 rfl (lv_at hl 3 rfl) ?_
            refine lv_iconst (v := nI 1) hx hb dX8_drag_51 (by decide) ?_
            refine k_calli (k := 0) (As := [.int (nI i), .int (nI 1)]) (rest := [.int (nI ((N (23 + 13 * i)) + 0)), .ref (ad 0)]) ⟨hx, hb, hml, hown, hts⟩ (c_X8_of cy D ad l σ i (1) (N (23 + 13 * i + 1)) (by omega) (hM _ (by omega))) (cwV 2 hts gX8_drag_X8_of rfl rfl rfl (by decide +kernel) ⟨Nat.le_of_ble_eq_true rfl, Nat.le_of_ble_eq_true rfl⟩) E hA I (k_recv E I (by decide) km_0 rfl) rfl hl.1 rfl (lv_room (Nat.le_of_ble_eq_true rfl)) dX8_drag_52 ⟨Nat.le_of_ble_eq_true rfl, Nat.le_of_ble_eq_true rfl⟩ (fun r_52 σ_52 H locs hp_52 I => ?_)
            obtain ⟨rfl, rfl⟩ := hp_52
            refine lv_iload hx hb dX8_drag_55 (lv_at hl 0 rfl) ?_
            refine lv_iadd hx hb dX8_drag_57 ?_
            rw [nI_add]
            refine k_calli (k := 0) (As := [.int (nI ((N (23 + 13 * i)) + 0)), .int (nI ((N (23 + 13 * i + 1)) + 1))]) (rest := []) ⟨hx, hb, hml, hown, hts⟩ (c_X8_isField cy D ad l σ ((nI ((N (23 + 13 * i)) + 0))) ((nI ((N (23 + 13 * i + 1)) + 1))) N hN hM) (cwV 2 hts gX8_drag_X8_isField rfl rfl rfl (by decide +kernel) ⟨Nat.le_of_ble_eq_true rfl, Nat.le_of_ble_eq_true rfl⟩) E hA I (k_recv E I (by decide) km_0 rfl) rfl hl.1 rfl (lv_room (Nat.le_of_ble_eq_true rfl)) dX8_drag_58 ⟨Nat.le_of_ble_eq_true rfl, Nat.le_of_ble_eq_true rfl⟩ (fun r_58 σ_58 H locs hp_58 I => ?_)
            obtain ⟨hk_, rfl⟩ := hp_58
            first | rw [nI_toInt (by omega), nI_toInt (by omega)] at hk_ | rw [km1_toInt (by omega), nI_toInt (by omega)] at hk_ | rw [nI_toInt (by omega), km1_toInt (by omega)] at hk_
            rcases hk_ with ⟨rfl, g1⟩ | ⟨rfl, g1⟩
            · refine lv_if_eq (tgt := 104) hx hb dX8_drag_61 (by decide) (fun c_61 => ?_) (fun c_61 => ?_)
              · exact absurd c_61 (by decide)
              · refine lv_aload_n hx hb dX8_drag_64 rfl (lv_at hl 2 rfl) ?_
                refine lv_iload_n hx hb dX8_drag_65 rfl (lv_at hl 3 rfl) ?_
                refine lv_bipush (v := nI 9) hx hb dX8_drag_66 (by decide) ?_
                refine k_calli (k := 0) (As := [.int (nI i), .int (nI 9)]) (rest := []) ⟨hx, hb, hml, hown, hts⟩ (c_X8_of cy D ad l σ i (9) (N (23 + 13 * i + 9)) (by omega) (hM _ (by omega))) (cwV 2 hts gX8_drag_X8_of rfl rfl rfl (by decide +kernel) ⟨Nat.le_of_ble_eq_true rfl, Nat.le_of_ble_eq_true rfl⟩) E hA I (k_recv E I (by decide) km_0 rfl) rfl hl.1 rfl (lv_room (Nat.le_of_ble_eq_true rfl)) dX8_drag_68 ⟨Nat.le_of_ble_eq_true rfl, Nat.le_of_ble_eq_true rfl⟩ (fun r_68 σ_68 H locs hp_68 I => ?_)
                obtain ⟨rfl, rfl⟩ := hp_68
                refine lv_if_eq (tgt := 100) hx hb dX8_drag_71 (by decide) (fun c_71 => ?_) (fun c_71 => ?_)
                · have c_71 : (N (23 + 13 * i + 9)) = 0 := (nI_eq (by omega) (by decide)).mp c_71
                  have hm0 : N (23 + 13 * i + 9) = 0 := by omega
                  refine lv_iconst (v := nI 1) hx hb dX8_drag_100 (by decide) ?_
                  refine lv_goto (tgt := 105) hx hb dX8_drag_101 (by decide) ?_
                  refine lv_istore (lv' := [(5, .int (nI 1)), (4, .int (nI 1)), (3, .int (nI 0)), (0, .ref (ad 0)), (1, .int (nI i)), (2, .int (nI 2))]) hx hb dX8_drag_105 hl (by decide) rfl (fun ls hl => ?_)
                  refine lv_iload hx hb dX8_drag_107 (lv_at hl 0 rfl) ?_
                  refine lv_if_ne (tgt := 122) hx hb dX8_drag_109 (by decide) (fun c_109 => ?_) (fun c_109 => ?_)
                  · refine lv_aload_n hx hb dX8_drag_122 rfl (lv_at hl 3 rfl) ?_
                    refine lv_iload_n hx hb dX8_drag_123 rfl (lv_at hl 4 rfl) ?_
                    refine lv_iconst (v := nI 0) hx hb dX8_drag_124 (by decide) ?_
                    refine lv_aload_n hx hb dX8_drag_125 rfl (lv_at hl 3 rfl) ?_
                    refine lv_iload_n hx hb dX8_drag_126 rfl (lv_at hl 4 rfl) ?_
                    refine lv_iconst (v := nI 0) hx hb dX8_drag_127 (by decide) ?_
                    refine k_calli (k := 0) (As := [.int (nI i), .int (nI 0)]) (rest := [.int (nI 0), .int (nI i), .ref (ad 0)]) ⟨hx, hb, hml, hown, hts⟩ (c_X8_of cy D ad l σ i (0) (N (23 + 13 * i)) (by omega) (hM _ (by omega))) (cwV 2 hts gX8_drag_X8_of rfl rfl rfl (by decide +kernel) ⟨Nat.le_of_ble_eq_true rfl, Nat.le_of_ble_eq_true rfl⟩) E hA I (k_recv E I (by decide) km_0 rfl) rfl hl.1 rfl (lv_room (Nat.le_of_ble_eq_true rfl)) dX8_drag_128 ⟨Nat.le_of_ble_eq_true rfl, Nat.le_of_ble_eq_true rfl⟩ (fun r_128 σ_128 H locs hp_128 I => ?_)
                    obtain ⟨rfl, rfl⟩ := hp_128
                    refine lv_iload_n hx hb dX8_drag_131 rfl (lv_at hl 2 rfl) ?_
                    refine lv_iadd hx hb dX8_drag_132 ?_
                    rw [nI_add]
                    refine lv_topi (fun t_133 et_133 => ?_)
                    have et_133 : t_133 = nI (mX S (N (23 + 13 * i))) := et_133.trans (by subst hS; first | (rw [sb_m1 (by omega)]; exact congrArg nI (by unfold mX; simp)) | exact congrArg nI (by unfold mX; simp))
                    subst et_133
                    refine k_callv (k := 0) (As := [.int (nI i), .int (nI 0), .int (nI (mX S (N (23 + 13 * i))))]) (rest := []) ⟨hx, hb, hml, hown, hts⟩ (c_X8_put cy D ad l σ i 0 ((nI (mX S (N (23 + 13 * i))))) (by omega)) (cwV 3 hts gX8_drag_X8_put rfl rfl rfl (by decide +kernel) ⟨Nat.le_of_ble_eq_true rfl, Nat.le_of_ble_eq_true rfl⟩) E hA I (k_recv E I (by decide) km_0 rfl) rfl hl.1 rfl (lv_room (Nat.le_of_ble_eq_true rfl)) dX8_drag_133 ⟨Nat.le_of_ble_eq_true rfl, Nat.le_of_ble_eq_true rfl⟩ (fun σ_133 H locs hp_133 I => ?_)
                    have hM1 := mN_put (k := 23 + 13 * i) (v := mX S (N (23 + 13 * i))) hM hp_133
                    have hQ := qn_tr hQ (qn_put hp_133)
                    have e1 : σ_133 1 (23 + 13 * i + 1) = nI (N (23 + 13 * i + 1)) := by rw [hp_133, va_up_self, pk_un (by omega)]; exact hM _ (by omega)
                    have e8 : σ_133 1 (23 + 13 * i + 8) = nI (N (23 + 13 * i + 8)) := by rw [hp_133, va_up_self, pk_un (by omega)]; exact hM _ (by omega)
                    have e9 : σ_133 1 (23 + 13 * i + 9) = nI (N (23 + 13 * i + 9)) := by rw [hp_133, va_up_self, pk_un (by omega)]; exact hM _ (by omega)
                    have e10 : σ_133 1 (23 + 13 * i + 10) = nI (N (23 + 13 * i + 10)) := by rw [hp_133, va_up_self, pk_un (by omega)]; exact hM _ (by omega)
                    have e11 : σ_133 1 (23 + 13 * i + 11) = nI (N (23 + 13 * i + 11)) := by rw [hp_133, va_up_self, pk_un (by omega)]; exact hM _ (by omega)
                    refine lv_aload_n hx hb dX8_drag_136 rfl (lv_at hl 3 rfl) ?_
                    refine lv_iload_n hx hb dX8_drag_137 rfl (lv_at hl 4 rfl) ?_
                    refine lv_iconst (v := nI 1) hx hb dX8_drag_138 (by decide) ?_
                    refine lv_aload_n hx hb dX8_drag_139 rfl (lv_at hl 3 rfl) ?_
                    refine lv_iload_n hx hb dX8_drag_140 rfl (lv_at hl 4 rfl) ?_
                    refine lv_iconst (v := nI 1) hx hb dX8_drag_141 (by decide) ?_
                    refine k_calli (k := 0) (As := [.int (nI i), .int (nI 1)]) (rest := [.int (nI 1), .int (nI i), .ref (ad 0)]) ⟨hx, hb, hml, hown, hts⟩ (c_X8_of cy D ad l σ_133 i 1 (N (23 + 13 * i + 1)) (by omega) e1) (cwV 2 hts gX8_drag_X8_of rfl rfl rfl (by decide +kernel) ⟨Nat.le_of_ble_eq_true rfl, Nat.le_of_ble_eq_true rfl⟩) E hA I (k_recv E I (by decide) km_0 rfl) rfl hl.1 rfl (lv_room (Nat.le_of_ble_eq_true rfl)) dX8_drag_142 ⟨Nat.le_of_ble_eq_true rfl, Nat.le_of_ble_eq_true rfl⟩ (fun r_142 σ_142 H locs hp_142 I => ?_)
                    obtain ⟨rfl, rfl⟩ := hp_142
                    refine lv_iload hx hb dX8_drag_145 (lv_at hl 1 rfl) ?_
                    refine lv_iadd hx hb dX8_drag_147 ?_
                    rw [nI_add]
                    refine lv_topi (fun t_148 et_148 => ?_)
                    have et_148 : t_148 = nI (mY S (N (23 + 13 * i + 1))) := et_148.trans (by subst hS; first | (rw [sb_m1 (by omega)]; exact congrArg nI (by unfold mY; simp)) | exact congrArg nI (by unfold mY; simp))
                    subst et_148
                    refine k_callv (k := 0) (As := [.int (nI i), .int (nI 1), .int (nI (mY S (N (23 + 13 * i + 1))))]) (rest := []) ⟨hx, hb, hml, hown, hts⟩ (c_X8_put cy D ad l σ_133 i 1 ((nI (mY S (N (23 + 13 * i + 1))))) (by omega)) (cwV 3 hts gX8_drag_X8_put rfl rfl rfl (by decide +kernel) ⟨Nat.le_of_ble_eq_true rfl, Nat.le_of_ble_eq_true rfl⟩) E hA I (k_recv E I (by decide) km_0 rfl) rfl hl.1 rfl (lv_room (Nat.le_of_ble_eq_true rfl)) dX8_drag_148 ⟨Nat.le_of_ble_eq_true rfl, Nat.le_of_ble_eq_true rfl⟩ (fun σ_148 H locs hp_148 I => ?_)
                    have hM2 := mN_put (k := 23 + 13 * i + 1) (v := mY S (N (23 + 13 * i + 1))) hM1 hp_148
                    have hQ := qn_tr hQ (qn_put hp_148)
                    have e8 : σ_148 1 (23 + 13 * i + 8) = nI (N (23 + 13 * i + 8)) := by rw [hp_148, va_up_self, pk_un (by omega)]; exact e8
                    have e9 : σ_148 1 (23 + 13 * i + 9) = nI (N (23 + 13 * i + 9)) := by rw [hp_148, va_up_self, pk_un (by omega)]; exact e9
                    have e10 : σ_148 1 (23 + 13 * i + 10) = nI (N (23 + 13 * i + 10)) := by rw [hp_148, va_up_self, pk_un (by omega)]; exact e10
                    have e11 : σ_148 1 (23 + 13 * i + 11) = nI (N (23 + 13 * i + 11)) := by rw [hp_148, va_up_self, pk_un (by omega)]; exact e11
                    refine lv_aload_n hx hb dX8_drag_151 rfl (lv_at hl 3 rfl) ?_
                    refine lv_iload_n hx hb dX8_drag_152 rfl (lv_at hl 4 rfl) ?_
                    refine lv_bipush (v := nI 9) hx hb dX8_drag_153 (by decide) ?_
                    refine k_calli (k := 0) (As := [.int (nI i), .int (nI 9)]) (rest := []) ⟨hx, hb, hml, hown, hts⟩ (c_X8_of cy D ad l σ_148 i 9 (N (23 + 13 * i + 9)) (by omega) e9) (cwV 2 hts gX8_drag_X8_of rfl rfl rfl (by decide +kernel) ⟨Nat.le_of_ble_eq_true rfl, Nat.le_of_ble_eq_true rfl⟩) E hA I (k_recv E I (by decide) km_0 rfl) rfl hl.1 rfl (lv_room (Nat.le_of_ble_eq_true rfl)) dX8_drag_155 ⟨Nat.le_of_ble_eq_true rfl, Nat.le_of_ble_eq_true rfl⟩ (fun r_155 σ_155 H locs hp_155 I => ?_)
                    obtain ⟨rfl, rfl⟩ := hp_155
                    refine lv_iconst (v := nI 1) hx hb dX8_drag_158 (by decide) ?_
                    refine lv_icmp_ne (tgt := 195) hx hb dX8_drag_159 (by decide) (fun c_159 => ?_) (fun c_159 => ?_)
                    · have c_159 : ¬ ((N (23 + 13 * i + 9)) = 1) := fun q_ => c_159 ((nI_eq (by omega) (by omega)).mpr q_)
                      refine lv_aload_n hx hb dX8_drag_195 rfl (lv_at hl 3 rfl) ?_
                      refine lv_iload_n hx hb dX8_drag_196 rfl (lv_at hl 4 rfl) ?_
                      refine lv_bipush (v := nI 8) hx hb dX8_drag_197 (by decide) ?_
                      refine lv_aload_n hx hb dX8_drag_199 rfl (lv_at hl 3 rfl) ?_
                      refine lv_iload_n hx hb dX8_drag_200 rfl (lv_at hl 4 rfl) ?_
                      refine lv_bipush (v := nI 8) hx hb dX8_drag_201 (by decide) ?_
                      refine k_calli (k := 0) (As := [.int (nI i), .int (nI 8)]) (rest := [.int (nI 8), .int (nI i), .ref (ad 0)]) ⟨hx, hb, hml, hown, hts⟩ (c_X8_of cy D ad l σ_148 i 8 (N (23 + 13 * i + 8)) (by omega) e8) (cwV 2 hts gX8_drag_X8_of rfl rfl rfl (by decide +kernel) ⟨Nat.le_of_ble_eq_true rfl, Nat.le_of_ble_eq_true rfl⟩) E hA I (k_recv E I (by decide) km_0 rfl) rfl hl.1 rfl (lv_room (Nat.le_of_ble_eq_true rfl)) dX8_drag_203 ⟨Nat.le_of_ble_eq_true rfl, Nat.le_of_ble_eq_true rfl⟩ (fun r_203 σ_203 H locs hp_203 I => ?_)
                      obtain ⟨rfl, rfl⟩ := hp_203
                      refine lv_iconst (v := nI 1) hx hb dX8_drag_206 (by decide) ?_
                      refine lv_iadd hx hb dX8_drag_207 ?_
                      rw [nI_add]
                      refine k_callv (k := 0) (As := [.int (nI i), .int (nI 8), .int (nI ((N (23 + 13 * i + 8)) + 1))]) (rest := []) ⟨hx, hb, hml, hown, hts⟩ (c_X8_put cy D ad l σ_148 i 8 ((nI ((N (23 + 13 * i + 8)) + 1))) (by omega)) (cwV 3 hts gX8_drag_X8_put rfl rfl rfl (by decide +kernel) ⟨Nat.le_of_ble_eq_true rfl, Nat.le_of_ble_eq_true rfl⟩) E hA I (k_recv E I (by decide) km_0 rfl) rfl hl.1 rfl (lv_room (Nat.le_of_ble_eq_true rfl)) dX8_drag_208 ⟨Nat.le_of_ble_eq_true rfl, Nat.le_of_ble_eq_true rfl⟩ (fun σ_208 H locs hp_208 I => ?_)
                      have hM2 := mN_put (k := 23 + 13 * i + 8) (v := N (23 + 13 * i + 8) + 1) hM2 hp_208
                      have hQ := qn_tr hQ (qn_put hp_208)
                      refine lv_iconst (v := nI 0) hx hb dX8_drag_211 (by decide) ?_
                      exact k_iret hx hb hr hlk I dX8_drag_212 (by have hst : pStay N i S = true := (by subst hS; unfold pStay mIn; simp; omega); first | (have hk := drag_m1 hst (by omega); subst hS; exact ⟨by rw [hst]; rfl, mN_same hM2 (fun k _ => hk k), hQ⟩) | (have hk := drag_m2 hst (by omega); subst hS; exact ⟨by rw [hst]; rfl, mN_same hM2 (fun k _ => hk k), hQ⟩))
                    · have c_159 : (N (23 + 13 * i + 9)) = 1 := (nI_eq (by omega) (by omega)).mp c_159
                      have hs2 := hsh.2.2.2.2.1 (by omega)
                      refine lv_aload_n hx hb dX8_drag_162 rfl (lv_at hl 3 rfl) ?_
                      refine lv_iload_n hx hb dX8_drag_163 rfl (lv_at hl 4 rfl) ?_
                      refine lv_bipush (v := nI 10) hx hb dX8_drag_164 (by decide) ?_
                      refine lv_aload_n hx hb dX8_drag_166 rfl (lv_at hl 3 rfl) ?_
                      refine lv_iload_n hx hb dX8_drag_167 rfl (lv_at hl 4 rfl) ?_
                      refine lv_bipush (v := nI 10) hx hb dX8_drag_168 (by decide) ?_
                      refine k_calli (k := 0) (As := [.int (nI i), .int (nI 10)]) (rest := [.int (nI 10), .int (nI i), .ref (ad 0)]) ⟨hx, hb, hml, hown, hts⟩ (c_X8_of cy D ad l σ_148 i 10 (N (23 + 13 * i + 10)) (by omega) e10) (cwV 2 hts gX8_drag_X8_of rfl rfl rfl (by decide +kernel) ⟨Nat.le_of_ble_eq_true rfl, Nat.le_of_ble_eq_true rfl⟩) E hA I (k_recv E I (by decide) km_0 rfl) rfl hl.1 rfl (lv_room (Nat.le_of_ble_eq_true rfl)) dX8_drag_170 ⟨Nat.le_of_ble_eq_true rfl, Nat.le_of_ble_eq_true rfl⟩ (fun r_170 σ_170 H locs hp_170 I => ?_)
                      obtain ⟨rfl, rfl⟩ := hp_170
                      refine lv_iload_n hx hb dX8_drag_173 rfl (lv_at hl 2 rfl) ?_
                      refine lv_iadd hx hb dX8_drag_174 ?_
                      rw [nI_add]
                      refine lv_topi (fun t_175 et_175 => ?_)
                      have et_175 : t_175 = nI (mX S (N (23 + 13 * i + 10))) := et_175.trans (by subst hS; first | (rw [sb_m1 (by omega)]; exact congrArg nI (by unfold mX; simp)) | exact congrArg nI (by unfold mX; simp))
                      subst et_175
                      refine k_callv (k := 0) (As := [.int (nI i), .int (nI 10), .int (nI (mX S (N (23 + 13 * i + 10))))]) (rest := []) ⟨hx, hb, hml, hown, hts⟩ (c_X8_put cy D ad l σ_148 i 10 ((nI (mX S (N (23 + 13 * i + 10))))) (by omega)) (cwV 3 hts gX8_drag_X8_put rfl rfl rfl (by decide +kernel) ⟨Nat.le_of_ble_eq_true rfl, Nat.le_of_ble_eq_true rfl⟩) E hA I (k_recv E I (by decide) km_0 rfl) rfl hl.1 rfl (lv_room (Nat.le_of_ble_eq_true rfl)) dX8_drag_175 ⟨Nat.le_of_ble_eq_true rfl, Nat.le_of_ble_eq_true rfl⟩ (fun σ_175 H locs hp_175 I => ?_)
                      have hM2 := mN_put (k := 23 + 13 * i + 10) (v := mX S (N (23 + 13 * i + 10))) hM2 hp_175
                      have hQ := qn_tr hQ (qn_put hp_175)
                      have e8 : σ_175 1 (23 + 13 * i + 8) = nI (N (23 + 13 * i + 8)) := by rw [hp_175, va_up_self, pk_un (by omega)]; exact e8
                      have e11 : σ_175 1 (23 + 13 * i + 11) = nI (N (23 + 13 * i + 11)) := by rw [hp_175, va_up_self, pk_un (by omega)]; exact e11
                      refine lv_aload_n hx hb dX8_drag_178 rfl (lv_at hl 3 rfl) ?_
                      refine lv_iload_n hx hb dX8_drag_179 rfl (lv_at hl 4 rfl) ?_
                      refine lv_bipush (v := nI 11) hx hb dX8_drag_180 (by decide) ?_
                      refine lv_aload_n hx hb dX8_drag_182 rfl (lv_at hl 3 rfl) ?_
                      refine lv_iload_n hx hb dX8_drag_183 rfl (lv_at hl 4 rfl) ?_
                      refine lv_bipush (v := nI 11) hx hb dX8_drag_184 (by decide) ?_
                      refine k_calli (k := 0) (As := [.int (nI i), .int (nI 11)]) (rest := [.int (nI 11), .int (nI i), .ref (ad 0)]) ⟨hx, hb, hml, hown, hts⟩ (c_X8_of cy D ad l σ_175 i 11 (N (23 + 13 * i + 11)) (by omega) e11) (cwV 2 hts gX8_drag_X8_of rfl rfl rfl (by decide +kernel) ⟨Nat.le_of_ble_eq_true rfl, Nat.le_of_ble_eq_true rfl⟩) E hA I (k_recv E I (by decide) km_0 rfl) rfl hl.1 rfl (lv_room (Nat.le_of_ble_eq_true rfl)) dX8_drag_186 ⟨Nat.le_of_ble_eq_true rfl, Nat.le_of_ble_eq_true rfl⟩ (fun r_186 σ_186 H locs hp_186 I => ?_)
                      obtain ⟨rfl, rfl⟩ := hp_186
                      refine lv_iload hx hb dX8_drag_189 (lv_at hl 1 rfl) ?_
                      refine lv_iadd hx hb dX8_drag_191 ?_
                      rw [nI_add]
                      refine lv_topi (fun t_192 et_192 => ?_)
                      have et_192 : t_192 = nI (mY S (N (23 + 13 * i + 11))) := et_192.trans (by subst hS; first | (rw [sb_m1 (by omega)]; exact congrArg nI (by unfold mY; simp)) | exact congrArg nI (by unfold mY; simp))
                      subst et_192
                      refine k_callv (k := 0) (As := [.int (nI i), .int (nI 11), .int (nI (mY S (N (23 + 13 * i + 11))))]) (rest := []) ⟨hx, hb, hml, hown, hts⟩ (c_X8_put cy D ad l σ_175 i 11 ((nI (mY S (N (23 + 13 * i + 11))))) (by omega)) (cwV 3 hts gX8_drag_X8_put rfl rfl rfl (by decide +kernel) ⟨Nat.le_of_ble_eq_true rfl, Nat.le_of_ble_eq_true rfl⟩) E hA I (k_recv E I (by decide) km_0 rfl) rfl hl.1 rfl (lv_room (Nat.le_of_ble_eq_true rfl)) dX8_drag_192 ⟨Nat.le_of_ble_eq_true rfl, Nat.le_of_ble_eq_true rfl⟩ (fun σ_192 H locs hp_192 I => ?_)
                      have hM2 := mN_put (k := 23 + 13 * i + 11) (v := mY S (N (23 + 13 * i + 11))) hM2 hp_192
                      have hQ := qn_tr hQ (qn_put hp_192)
                      have e8 : σ_192 1 (23 + 13 * i + 8) = nI (N (23 + 13 * i + 8)) := by rw [hp_192, va_up_self, pk_un (by omega)]; exact e8
                      refine lv_aload_n hx hb dX8_drag_195 rfl (lv_at hl 3 rfl) ?_
                      refine lv_iload_n hx hb dX8_drag_196 rfl (lv_at hl 4 rfl) ?_
                      refine lv_bipush (v := nI 8) hx hb dX8_drag_197 (by decide) ?_
                      refine lv_aload_n hx hb dX8_drag_199 rfl (lv_at hl 3 rfl) ?_
                      refine lv_iload_n hx hb dX8_drag_200 rfl (lv_at hl 4 rfl) ?_
                      refine lv_bipush (v := nI 8) hx hb dX8_drag_201 (by decide) ?_
                      refine k_calli (k := 0) (As := [.int (nI i), .int (nI 8)]) (rest := [.int (nI 8), .int (nI i), .ref (ad 0)]) ⟨hx, hb, hml, hown, hts⟩ (c_X8_of cy D ad l σ_192 i 8 (N (23 + 13 * i + 8)) (by omega) e8) (cwV 2 hts gX8_drag_X8_of rfl rfl rfl (by decide +kernel) ⟨Nat.le_of_ble_eq_true rfl, Nat.le_of_ble_eq_true rfl⟩) E hA I (k_recv E I (by decide) km_0 rfl) rfl hl.1 rfl (lv_room (Nat.le_of_ble_eq_true rfl)) dX8_drag_203 ⟨Nat.le_of_ble_eq_true rfl, Nat.le_of_ble_eq_true rfl⟩ (fun r_203 σ_203 H locs hp_203 I => ?_)
                      obtain ⟨rfl, rfl⟩ := hp_203
                      refine lv_iconst (v := nI 1) hx hb dX8_drag_206 (by decide) ?_
                      refine lv_iadd hx hb dX8_drag_207 ?_
                      rw [nI_add]
                      refine k_callv (k := 0) (As := [.int (nI i), .int (nI 8), .int (nI ((N (23 + 13 * i + 8)) + 1))]) (rest := []) ⟨hx, hb, hml, hown, hts⟩ (c_X8_put cy D ad l σ_192 i 8 ((nI ((N (23 + 13 * i + 8)) + 1))) (by omega)) (cwV 3 hts gX8_drag_X8_put rfl rfl rfl (by decide +kernel) ⟨Nat.le_of_ble_eq_true rfl, Nat.le_of_ble_eq_true rfl⟩) E hA I (k_recv E I (by decide) km_0 rfl) rfl hl.1 rfl (lv_room (Nat.le_of_ble_eq_true rfl)) dX8_drag_208 ⟨Nat.le_of_ble_eq_true rfl, Nat.le_of_ble_eq_true rfl⟩ (fun σ_208 H locs hp_208 I => ?_)
                      have hM2 := mN_put (k := 23 + 13 * i + 8) (v := N (23 + 13 * i + 8) + 1) hM2 hp_208
                      have hQ := qn_tr hQ (qn_put hp_208)
                      refine lv_iconst (v := nI 0) hx hb dX8_drag_211 (by decide) ?_
                      exact k_iret hx hb hr hlk I dX8_drag_212 (by have hst : pStay N i S = true := (by subst hS; unfold pStay mIn; simp; omega); first | (have hk := drag_m1 hst (by omega); subst hS; exact ⟨by rw [hst]; rfl, mN_same hM2 (fun k _ => hk k), hQ⟩) | (have hk := drag_m2 hst (by omega); subst hS; exact ⟨by rw [hst]; rfl, mN_same hM2 (fun k _ => hk k), hQ⟩))
                  · exact absurd c_109 (by decide)
                · have c_71 : ¬ ((N (23 + 13 * i + 9)) = 0) := fun q_ => c_71 ((nI_eq (by omega) (by decide)).mpr q_)
                  have hm : N (23 + 13 * i + 9) = 1 := by omega
                  have hs2 := hsh.2.2.2.2.1 hm
                  refine lv_aload_n hx hb dX8_drag_74 rfl (lv_at hl 2 rfl) ?_
                  refine lv_aload_n hx hb dX8_drag_75 rfl (lv_at hl 2 rfl) ?_
                  refine lv_iload_n hx hb dX8_drag_76 rfl (lv_at hl 3 rfl) ?_
                  refine lv_bipush (v := nI 10) hx hb dX8_drag_77 (by decide) ?_
                  refine k_calli (k := 0) (As := [.int (nI i), .int (nI 10)]) (rest := [.ref (ad 0)]) ⟨hx, hb, hml, hown, hts⟩ (c_X8_of cy D ad l σ i (10) (N (23 + 13 * i + 10)) (by omega) (hM _ (by omega))) (cwV 2 hts gX8_drag_X8_of rfl rfl rfl (by decide +kernel) ⟨Nat.le_of_ble_eq_true rfl, Nat.le_of_ble_eq_true rfl⟩) E hA I (k_recv E I (by decide) km_0 rfl) rfl hl.1 rfl (lv_room (Nat.le_of_ble_eq_true rfl)) dX8_drag_79 ⟨Nat.le_of_ble_eq_true rfl, Nat.le_of_ble_eq_true rfl⟩ (fun r_79 σ_79 H locs hp_79 I => ?_)
                  obtain ⟨rfl, rfl⟩ := hp_79
                  refine lv_iload_n hx hb dX8_drag_82 rfl (lv_at hl 1 rfl) ?_
                  refine lv_iadd hx hb dX8_drag_83 ?_
                  rw [nI_add]
                  refine lv_aload_n hx hb dX8_drag_84 rfl (lv_at hl 2 rfl) ?_
                  refine lv_iload_n hx hb dX8_drag_85 rfl (lv_at hl 3 rfl) ?_
                  refine lv_bipush (v := nI 11) hx hb dX8_drag_86 (by decide) ?_
                  refine k_calli (k := 0) (As := [.int (nI i), .int (nI 11)]) (rest := [.int (nI ((N (23 + 13 * i + 10)) + 0)), .ref (ad 0)]) ⟨hx, hb, hml, hown, hts⟩ (c_X8_of cy D ad l σ i (11) (N (23 + 13 * i + 11)) (by omega) (hM _ (by omega))) (cwV 2 hts gX8_drag_X8_of rfl rfl rfl (by decide +kernel) ⟨Nat.le_of_ble_eq_true rfl, Nat.le_of_ble_eq_true rfl⟩) E hA I (k_recv E I (by decide) km_0 rfl) rfl hl.1 rfl (lv_room (Nat.le_of_ble_eq_true rfl)) dX8_drag_88 ⟨Nat.le_of_ble_eq_true rfl, Nat.le_of_ble_eq_true rfl⟩ (fun r_88 σ_88 H locs hp_88 I => ?_)
                  obtain ⟨rfl, rfl⟩ := hp_88
                  refine lv_iload hx hb dX8_drag_91 (lv_at hl 0 rfl) ?_
                  refine lv_iadd hx hb dX8_drag_93 ?_
                  rw [nI_add]
                  refine k_calli (k := 0) (As := [.int (nI ((N (23 + 13 * i + 10)) + 0)), .int (nI ((N (23 + 13 * i + 11)) + 1))]) (rest := []) ⟨hx, hb, hml, hown, hts⟩ (c_X8_isField cy D ad l σ ((nI ((N (23 + 13 * i + 10)) + 0))) ((nI ((N (23 + 13 * i + 11)) + 1))) N hN hM) (cwV 2 hts gX8_drag_X8_isField rfl rfl rfl (by decide +kernel) ⟨Nat.le_of_ble_eq_true rfl, Nat.le_of_ble_eq_true rfl⟩) E hA I (k_recv E I (by decide) km_0 rfl) rfl hl.1 rfl (lv_room (Nat.le_of_ble_eq_true rfl)) dX8_drag_94 ⟨Nat.le_of_ble_eq_true rfl, Nat.le_of_ble_eq_true rfl⟩ (fun r_94 σ_94 H locs hp_94 I => ?_)
                  obtain ⟨hk_, rfl⟩ := hp_94
                  first | rw [nI_toInt (by omega), nI_toInt (by omega)] at hk_ | rw [km1_toInt (by omega), nI_toInt (by omega)] at hk_ | rw [nI_toInt (by omega), km1_toInt (by omega)] at hk_
                  rcases hk_ with ⟨rfl, g2⟩ | ⟨rfl, g2⟩
                  · refine lv_if_eq (tgt := 104) hx hb dX8_drag_97 (by decide) (fun c_97 => ?_) (fun c_97 => ?_)
                    · exact absurd c_97 (by decide)
                    · refine lv_iconst (v := nI 1) hx hb dX8_drag_100 (by decide) ?_
                      refine lv_goto (tgt := 105) hx hb dX8_drag_101 (by decide) ?_
                      refine lv_istore (lv' := [(5, .int (nI 1)), (4, .int (nI 1)), (3, .int (nI 0)), (0, .ref (ad 0)), (1, .int (nI i)), (2, .int (nI 2))]) hx hb dX8_drag_105 hl (by decide) rfl (fun ls hl => ?_)
                      refine lv_iload hx hb dX8_drag_107 (lv_at hl 0 rfl) ?_
                      refine lv_if_ne (tgt := 122) hx hb dX8_drag_109 (by decide) (fun c_109 => ?_) (fun c_109 => ?_)
                      · refine lv_aload_n hx hb dX8_drag_122 rfl (lv_at hl 3 rfl) ?_
                        refine lv_iload_n hx hb dX8_drag_123 rfl (lv_at hl 4 rfl) ?_
                        refine lv_iconst (v := nI 0) hx hb dX8_drag_124 (by decide) ?_
                        refine lv_aload_n hx hb dX8_drag_125 rfl (lv_at hl 3 rfl) ?_
                        refine lv_iload_n hx hb dX8_drag_126 rfl (lv_at hl 4 rfl) ?_
                        refine lv_iconst (v := nI 0) hx hb dX8_drag_127 (by decide) ?_
                        refine k_calli (k := 0) (As := [.int (nI i), .int (nI 0)]) (rest := [.int (nI 0), .int (nI i), .ref (ad 0)]) ⟨hx, hb, hml, hown, hts⟩ (c_X8_of cy D ad l σ i (0) (N (23 + 13 * i)) (by omega) (hM _ (by omega))) (cwV 2 hts gX8_drag_X8_of rfl rfl rfl (by decide +kernel) ⟨Nat.le_of_ble_eq_true rfl, Nat.le_of_ble_eq_true rfl⟩) E hA I (k_recv E I (by decide) km_0 rfl) rfl hl.1 rfl (lv_room (Nat.le_of_ble_eq_true rfl)) dX8_drag_128 ⟨Nat.le_of_ble_eq_true rfl, Nat.le_of_ble_eq_true rfl⟩ (fun r_128 σ_128 H locs hp_128 I => ?_)
                        obtain ⟨rfl, rfl⟩ := hp_128
                        refine lv_iload_n hx hb dX8_drag_131 rfl (lv_at hl 2 rfl) ?_
                        refine lv_iadd hx hb dX8_drag_132 ?_
                        rw [nI_add]
                        refine lv_topi (fun t_133 et_133 => ?_)
                        have et_133 : t_133 = nI (mX S (N (23 + 13 * i))) := et_133.trans (by subst hS; first | (rw [sb_m1 (by omega)]; exact congrArg nI (by unfold mX; simp)) | exact congrArg nI (by unfold mX; simp))
                        subst et_133
                        refine k_callv (k := 0) (As := [.int (nI i), .int (nI 0), .int (nI (mX S (N (23 + 13 * i))))]) (rest := []) ⟨hx, hb, hml, hown, hts⟩ (c_X8_put cy D ad l σ i 0 ((nI (mX S (N (23 + 13 * i))))) (by omega)) (cwV 3 hts gX8_drag_X8_put rfl rfl rfl (by decide +kernel) ⟨Nat.le_of_ble_eq_true rfl, Nat.le_of_ble_eq_true rfl⟩) E hA I (k_recv E I (by decide) km_0 rfl) rfl hl.1 rfl (lv_room (Nat.le_of_ble_eq_true rfl)) dX8_drag_133 ⟨Nat.le_of_ble_eq_true rfl, Nat.le_of_ble_eq_true rfl⟩ (fun σ_133 H locs hp_133 I => ?_)
                        have hM1 := mN_put (k := 23 + 13 * i) (v := mX S (N (23 + 13 * i))) hM hp_133
                        have hQ := qn_tr hQ (qn_put hp_133)
                        have e1 : σ_133 1 (23 + 13 * i + 1) = nI (N (23 + 13 * i + 1)) := by rw [hp_133, va_up_self, pk_un (by omega)]; exact hM _ (by omega)
                        have e8 : σ_133 1 (23 + 13 * i + 8) = nI (N (23 + 13 * i + 8)) := by rw [hp_133, va_up_self, pk_un (by omega)]; exact hM _ (by omega)
                        have e9 : σ_133 1 (23 + 13 * i + 9) = nI (N (23 + 13 * i + 9)) := by rw [hp_133, va_up_self, pk_un (by omega)]; exact hM _ (by omega)
                        have e10 : σ_133 1 (23 + 13 * i + 10) = nI (N (23 + 13 * i + 10)) := by rw [hp_133, va_up_self, pk_un (by omega)]; exact hM _ (by omega)
                        have e11 : σ_133 1 (23 + 13 * i + 11) = nI (N (23 + 13 * i + 11)) := by rw [hp_133, va_up_self, pk_un (by omega)]; exact hM _ (by omega)
                        refine lv_aload_n hx hb dX8_drag_136 rfl (lv_at hl 3 rfl) ?_
                        refine lv_iload_n hx hb dX8_drag_137 rfl (lv_at hl 4 rfl) ?_
                        refine lv_iconst (v := nI 1) hx hb dX8_drag_138 (by decide) ?_
                        refine lv_aload_n hx hb dX8_drag_139 rfl (lv_at hl 3 rfl) ?_
                        refine lv_iload_n hx hb dX8_drag_140 rfl (lv_at hl 4 rfl) ?_
                        refine lv_iconst (v := nI 1) hx hb dX8_drag_141 (by decide) ?_
                        refine k_calli (k := 0) (As := [.int (nI i), .int (nI 1)]) (rest := [.int (nI 1), .int (nI i), .ref (ad 0)]) ⟨hx, hb, hml, hown, hts⟩ (c_X8_of cy D ad l σ_133 i 1 (N (23 + 13 * i + 1)) (by omega) e1) (cwV 2 hts gX8_drag_X8_of rfl rfl rfl (by decide +kernel) ⟨Nat.le_of_ble_eq_true rfl, Nat.le_of_ble_eq_true rfl⟩) E hA I (k_recv E I (by decide) km_0 rfl) rfl hl.1 rfl (lv_room (Nat.le_of_ble_eq_true rfl)) dX8_drag_142 ⟨Nat.le_of_ble_eq_true rfl, Nat.le_of_ble_eq_true rfl⟩ (fun r_142 σ_142 H locs hp_142 I => ?_)
                        obtain ⟨rfl, rfl⟩ := hp_142
                        refine lv_iload hx hb dX8_drag_145 (lv_at hl 1 rfl) ?_
                        refine lv_iadd hx hb dX8_drag_147 ?_
                        rw [nI_add]
                        refine lv_topi (fun t_148 et_148 => ?_)
                        have et_148 : t_148 = nI (mY S (N (23 + 13 * i + 1))) := et_148.trans (by subst hS; first | (rw [sb_m1 (by omega)]; exact congrArg nI (by unfold mY; simp)) | exact congrArg nI (by unfold mY; simp))
                        subst et_148
                        refine k_callv (k := 0) (As := [.int (nI i), .int (nI 1), .int (nI (mY S (N (23 + 13 * i + 1))))]) (rest := []) ⟨hx, hb, hml, hown, hts⟩ (c_X8_put cy D ad l σ_133 i 1 ((nI (mY S (N (23 + 13 * i + 1))))) (by omega)) (cwV 3 hts gX8_drag_X8_put rfl rfl rfl (by decide +kernel) ⟨Nat.le_of_ble_eq_true rfl, Nat.le_of_ble_eq_true rfl⟩) E hA I (k_recv E I (by decide) km_0 rfl) rfl hl.1 rfl (lv_room (Nat.le_of_ble_eq_true rfl)) dX8_drag_148 ⟨Nat.le_of_ble_eq_true rfl, Nat.le_of_ble_eq_true rfl⟩ (fun σ_148 H locs hp_148 I => ?_)
                        have hM2 := mN_put (k := 23 + 13 * i + 1) (v := mY S (N (23 + 13 * i + 1))) hM1 hp_148
                        have hQ := qn_tr hQ (qn_put hp_148)
                        have e8 : σ_148 1 (23 + 13 * i + 8) = nI (N (23 + 13 * i + 8)) := by rw [hp_148, va_up_self, pk_un (by omega)]; exact e8
                        have e9 : σ_148 1 (23 + 13 * i + 9) = nI (N (23 + 13 * i + 9)) := by rw [hp_148, va_up_self, pk_un (by omega)]; exact e9
                        have e10 : σ_148 1 (23 + 13 * i + 10) = nI (N (23 + 13 * i + 10)) := by rw [hp_148, va_up_self, pk_un (by omega)]; exact e10
                        have e11 : σ_148 1 (23 + 13 * i + 11) = nI (N (23 + 13 * i + 11)) := by rw [hp_148, va_up_self, pk_un (by omega)]; exact e11
                        refine lv_aload_n hx hb dX8_drag_151 rfl (lv_at hl 3 rfl) ?_
                        refine lv_iload_n hx hb dX8_drag_152 rfl (lv_at hl 4 rfl) ?_
                        refine lv_bipush (v := nI 9) hx hb dX8_drag_153 (by decide) ?_
                        refine k_calli (k := 0) (As := [.int (nI i), .int (nI 9)]) (rest := []) ⟨hx, hb, hml, hown, hts⟩ (c_X8_of cy D ad l σ_148 i 9 (N (23 + 13 * i + 9)) (by omega) e9) (cwV 2 hts gX8_drag_X8_of rfl rfl rfl (by decide +kernel) ⟨Nat.le_of_ble_eq_true rfl, Nat.le_of_ble_eq_true rfl⟩) E hA I (k_recv E I (by decide) km_0 rfl) rfl hl.1 rfl (lv_room (Nat.le_of_ble_eq_true rfl)) dX8_drag_155 ⟨Nat.le_of_ble_eq_true rfl, Nat.le_of_ble_eq_true rfl⟩ (fun r_155 σ_155 H locs hp_155 I => ?_)
                        obtain ⟨rfl, rfl⟩ := hp_155
                        refine lv_iconst (v := nI 1) hx hb dX8_drag_158 (by decide) ?_
                        refine lv_icmp_ne (tgt := 195) hx hb dX8_drag_159 (by decide) (fun c_159 => ?_) (fun c_159 => ?_)
                        · have c_159 : ¬ ((N (23 + 13 * i + 9)) = 1) := fun q_ => c_159 ((nI_eq (by omega) (by omega)).mpr q_)
                          refine lv_aload_n hx hb dX8_drag_195 rfl (lv_at hl 3 rfl) ?_
                          refine lv_iload_n hx hb dX8_drag_196 rfl (lv_at hl 4 rfl) ?_
                          refine lv_bipush (v := nI 8) hx hb dX8_drag_197 (by decide) ?_
                          refine lv_aload_n hx hb dX8_drag_199 rfl (lv_at hl 3 rfl) ?_
                          refine lv_iload_n hx hb dX8_drag_200 rfl (lv_at hl 4 rfl) ?_
                          refine lv_bipush (v := nI 8) hx hb dX8_drag_201 (by decide) ?_
                          refine k_calli (k := 0) (As := [.int (nI i), .int (nI 8)]) (rest := [.int (nI 8), .int (nI i), .ref (ad 0)]) ⟨hx, hb, hml, hown, hts⟩ (c_X8_of cy D ad l σ_148 i 8 (N (23 + 13 * i + 8)) (by omega) e8) (cwV 2 hts gX8_drag_X8_of rfl rfl rfl (by decide +kernel) ⟨Nat.le_of_ble_eq_true rfl, Nat.le_of_ble_eq_true rfl⟩) E hA I (k_recv E I (by decide) km_0 rfl) rfl hl.1 rfl (lv_room (Nat.le_of_ble_eq_true rfl)) dX8_drag_203 ⟨Nat.le_of_ble_eq_true rfl, Nat.le_of_ble_eq_true rfl⟩ (fun r_203 σ_203 H locs hp_203 I => ?_)
                          obtain ⟨rfl, rfl⟩ := hp_203
                          refine lv_iconst (v := nI 1) hx hb dX8_drag_206 (by decide) ?_
                          refine lv_iadd hx hb dX8_drag_207 ?_
                          rw [nI_add]
                          refine k_callv (k := 0) (As := [.int (nI i), .int (nI 8), .int (nI ((N (23 + 13 * i + 8)) + 1))]) (rest := []) ⟨hx, hb, hml, hown, hts⟩ (c_X8_put cy D ad l σ_148 i 8 ((nI ((N (23 + 13 * i + 8)) + 1))) (by omega)) (cwV 3 hts gX8_drag_X8_put rfl rfl rfl (by decide +kernel) ⟨Nat.le_of_ble_eq_true rfl, Nat.le_of_ble_eq_true rfl⟩) E hA I (k_recv E I (by decide) km_0 rfl) rfl hl.1 rfl (lv_room (Nat.le_of_ble_eq_true rfl)) dX8_drag_208 ⟨Nat.le_of_ble_eq_true rfl, Nat.le_of_ble_eq_true rfl⟩ (fun σ_208 H locs hp_208 I => ?_)
                          have hM2 := mN_put (k := 23 + 13 * i + 8) (v := N (23 + 13 * i + 8) + 1) hM2 hp_208
                          have hQ := qn_tr hQ (qn_put hp_208)
                          refine lv_iconst (v := nI 0) hx hb dX8_drag_211 (by decide) ?_
                          exact k_iret hx hb hr hlk I dX8_drag_212 (by have hst : pStay N i S = true := (by subst hS; unfold pStay mIn; simp; omega); first | (have hk := drag_m1 hst (by omega); subst hS; exact ⟨by rw [hst]; rfl, mN_same hM2 (fun k _ => hk k), hQ⟩) | (have hk := drag_m2 hst (by omega); subst hS; exact ⟨by rw [hst]; rfl, mN_same hM2 (fun k _ => hk k), hQ⟩))
                        · have c_159 : (N (23 + 13 * i + 9)) = 1 := (nI_eq (by omega) (by omega)).mp c_159
                          have hs2 := hsh.2.2.2.2.1 (by omega)
                          refine lv_aload_n hx hb dX8_drag_162 rfl (lv_at hl 3 rfl) ?_
                          refine lv_iload_n hx hb dX8_drag_163 rfl (lv_at hl 4 rfl) ?_
                          refine lv_bipush (v := nI 10) hx hb dX8_drag_164 (by decide) ?_
                          refine lv_aload_n hx hb dX8_drag_166 rfl (lv_at hl 3 rfl) ?_
                          refine lv_iload_n hx hb dX8_drag_167 rfl (lv_at hl 4 rfl) ?_
                          refine lv_bipush (v := nI 10) hx hb dX8_drag_168 (by decide) ?_
                          refine k_calli (k := 0) (As := [.int (nI i), .int (nI 10)]) (rest := [.int (nI 10), .int (nI i), .ref (ad 0)]) ⟨hx, hb, hml, hown, hts⟩ (c_X8_of cy D ad l σ_148 i 10 (N (23 + 13 * i + 10)) (by omega) e10) (cwV 2 hts gX8_drag_X8_of rfl rfl rfl (by decide +kernel) ⟨Nat.le_of_ble_eq_true rfl, Nat.le_of_ble_eq_true rfl⟩) E hA I (k_recv E I (by decide) km_0 rfl) rfl hl.1 rfl (lv_room (Nat.le_of_ble_eq_true rfl)) dX8_drag_170 ⟨Nat.le_of_ble_eq_true rfl, Nat.le_of_ble_eq_true rfl⟩ (fun r_170 σ_170 H locs hp_170 I => ?_)
                          obtain ⟨rfl, rfl⟩ := hp_170
                          refine lv_iload_n hx hb dX8_drag_173 rfl (lv_at hl 2 rfl) ?_
                          refine lv_iadd hx hb dX8_drag_174 ?_
                          rw [nI_add]
                          refine lv_topi (fun t_175 et_175 => ?_)
                          have et_175 : t_175 = nI (mX S (N (23 + 13 * i + 10))) := et_175.trans (by subst hS; first | (rw [sb_m1 (by omega)]; exact congrArg nI (by unfold mX; simp)) | exact congrArg nI (by unfold mX; simp))
                          subst et_175
                          refine k_callv (k := 0) (As := [.int (nI i), .int (nI 10), .int (nI (mX S (N (23 + 13 * i + 10))))]) (rest := []) ⟨hx, hb, hml, hown, hts⟩ (c_X8_put cy D ad l σ_148 i 10 ((nI (mX S (N (23 + 13 * i + 10))))) (by omega)) (cwV 3 hts gX8_drag_X8_put rfl rfl rfl (by decide +kernel) ⟨Nat.le_of_ble_eq_true rfl, Nat.le_of_ble_eq_true rfl⟩) E hA I (k_recv E I (by decide) km_0 rfl) rfl hl.1 rfl (lv_room (Nat.le_of_ble_eq_true rfl)) dX8_drag_175 ⟨Nat.le_of_ble_eq_true rfl, Nat.le_of_ble_eq_true rfl⟩ (fun σ_175 H locs hp_175 I => ?_)
                          have hM2 := mN_put (k := 23 + 13 * i + 10) (v := mX S (N (23 + 13 * i + 10))) hM2 hp_175
                          have hQ := qn_tr hQ (qn_put hp_175)
                          have e8 : σ_175 1 (23 + 13 * i + 8) = nI (N (23 + 13 * i + 8)) := by rw [hp_175, va_up_self, pk_un (by omega)]; exact e8
                          have e11 : σ_175 1 (23 + 13 * i + 11) = nI (N (23 + 13 * i + 11)) := by rw [hp_175, va_up_self, pk_un (by omega)]; exact e11
                          refine lv_aload_n hx hb dX8_drag_178 rfl (lv_at hl 3 rfl) ?_
                          refine lv_iload_n hx hb dX8_drag_179 rfl (lv_at hl 4 rfl) ?_
                          refine lv_bipush (v := nI 11) hx hb dX8_drag_180 (by decide) ?_
                          refine lv_aload_n hx hb dX8_drag_182 rfl (lv_at hl 3 rfl) ?_
                          refine lv_iload_n hx hb dX8_drag_183 rfl (lv_at hl 4 rfl) ?_
                          refine lv_bipush (v := nI 11) hx hb dX8_drag_184 (by decide) ?_
                          refine k_calli (k := 0) (As := [.int (nI i), .int (nI 11)]) (rest := [.int (nI 11), .int (nI i), .ref (ad 0)]) ⟨hx, hb, hml, hown, hts⟩ (c_X8_of cy D ad l σ_175 i 11 (N (23 + 13 * i + 11)) (by omega) e11) (cwV 2 hts gX8_drag_X8_of rfl rfl rfl (by decide +kernel) ⟨Nat.le_of_ble_eq_true rfl, Nat.le_of_ble_eq_true rfl⟩) E hA I (k_recv E I (by decide) km_0 rfl) rfl hl.1 rfl (lv_room (Nat.le_of_ble_eq_true rfl)) dX8_drag_186 ⟨Nat.le_of_ble_eq_true rfl, Nat.le_of_ble_eq_true rfl⟩ (fun r_186 σ_186 H locs hp_186 I => ?_)
                          obtain ⟨rfl, rfl⟩ := hp_186
                          refine lv_iload hx hb dX8_drag_189 (lv_at hl 1 rfl) ?_
                          refine lv_iadd hx hb dX8_drag_191 ?_
                          rw [nI_add]
                          refine lv_topi (fun t_192 et_192 => ?_)
                          have et_192 : t_192 = nI (mY S (N (23 + 13 * i + 11))) := et_192.trans (by subst hS; first | (rw [sb_m1 (by omega)]; exact congrArg nI (by unfold mY; simp)) | exact congrArg nI (by unfold mY; simp))
                          subst et_192
                          refine k_callv (k := 0) (As := [.int (nI i), .int (nI 11), .int (nI (mY S (N (23 + 13 * i + 11))))]) (rest := []) ⟨hx, hb, hml, hown, hts⟩ (c_X8_put cy D ad l σ_175 i 11 ((nI (mY S (N (23 + 13 * i + 11))))) (by omega)) (cwV 3 hts gX8_drag_X8_put rfl rfl rfl (by decide +kernel) ⟨Nat.le_of_ble_eq_true rfl, Nat.le_of_ble_eq_true rfl⟩) E hA I (k_recv E I (by decide) km_0 rfl) rfl hl.1 rfl (lv_room (Nat.le_of_ble_eq_true rfl)) dX8_drag_192 ⟨Nat.le_of_ble_eq_true rfl, Nat.le_of_ble_eq_true rfl⟩ (fun σ_192 H locs hp_192 I => ?_)
                          have hM2 := mN_put (k := 23 + 13 * i + 11) (v := mY S (N (23 + 13 * i + 11))) hM2 hp_192
                          have hQ := qn_tr hQ (qn_put hp_192)
                          have e8 : σ_192 1 (23 + 13 * i + 8) = nI (N (23 + 13 * i + 8)) := by rw [hp_192, va_up_self, pk_un (by omega)]; exact e8
                          refine lv_aload_n hx hb dX8_drag_195 rfl (lv_at hl 3 rfl) ?_
                          refine lv_iload_n hx hb dX8_drag_196 rfl (lv_at hl 4 rfl) ?_
                          refine lv_bipush (v := nI 8) hx hb dX8_drag_197 (by decide) ?_
                          refine lv_aload_n hx hb dX8_drag_199 rfl (lv_at hl 3 rfl) ?_
                          refine lv_iload_n hx hb dX8_drag_200 rfl (lv_at hl 4 rfl) ?_
                          refine lv_bipush (v := nI 8) hx hb dX8_drag_201 (by decide) ?_
                          refine k_calli (k := 0) (As := [.int (nI i), .int (nI 8)]) (rest := [.int (nI 8), .int (nI i), .ref (ad 0)]) ⟨hx, hb, hml, hown, hts⟩ (c_X8_of cy D ad l σ_192 i 8 (N (23 + 13 * i + 8)) (by omega) e8) (cwV 2 hts gX8_drag_X8_of rfl rfl rfl (by decide +kernel) ⟨Nat.le_of_ble_eq_true rfl, Nat.le_of_ble_eq_true rfl⟩) E hA I (k_recv E I (by decide) km_0 rfl) rfl hl.1 rfl (lv_room (Nat.le_of_ble_eq_true rfl)) dX8_drag_203 ⟨Nat.le_of_ble_eq_true rfl, Nat.le_of_ble_eq_true rfl⟩ (fun r_203 σ_203 H locs hp_203 I => ?_)
                          obtain ⟨rfl, rfl⟩ := hp_203
                          refine lv_iconst (v := nI 1) hx hb dX8_drag_206 (by decide) ?_
                          refine lv_iadd hx hb dX8_drag_207 ?_
                          rw [nI_add]
                          refine k_callv (k := 0) (As := [.int (nI i), .int (nI 8), .int (nI ((N (23 + 13 * i + 8)) + 1))]) (rest := []) ⟨hx, hb, hml, hown, hts⟩ (c_X8_put cy D ad l σ_192 i 8 ((nI ((N (23 + 13 * i + 8)) + 1))) (by omega)) (cwV 3 hts gX8_drag_X8_put rfl rfl rfl (by decide +kernel) ⟨Nat.le_of_ble_eq_true rfl, Nat.le_of_ble_eq_true rfl⟩) E hA I (k_recv E I (by decide) km_0 rfl) rfl hl.1 rfl (lv_room (Nat.le_of_ble_eq_true rfl)) dX8_drag_208 ⟨Nat.le_of_ble_eq_true rfl, Nat.le_of_ble_eq_true rfl⟩ (fun σ_208 H locs hp_208 I => ?_)
                          have hM2 := mN_put (k := 23 + 13 * i + 8) (v := N (23 + 13 * i + 8) + 1) hM2 hp_208
                          have hQ := qn_tr hQ (qn_put hp_208)
                          refine lv_iconst (v := nI 0) hx hb dX8_drag_211 (by decide) ?_
                          exact k_iret hx hb hr hlk I dX8_drag_212 (by have hst : pStay N i S = true := (by subst hS; unfold pStay mIn; simp; omega); first | (have hk := drag_m1 hst (by omega); subst hS; exact ⟨by rw [hst]; rfl, mN_same hM2 (fun k _ => hk k), hQ⟩) | (have hk := drag_m2 hst (by omega); subst hS; exact ⟨by rw [hst]; rfl, mN_same hM2 (fun k _ => hk k), hQ⟩))
                      · exact absurd c_109 (by decide)
                  · refine lv_if_eq (tgt := 104) hx hb dX8_drag_97 (by decide) (fun c_97 => ?_) (fun c_97 => ?_)
                    · refine lv_iconst (v := nI 0) hx hb dX8_drag_104 (by decide) ?_
                      refine lv_istore (lv' := [(5, .int (nI 0)), (4, .int (nI 1)), (3, .int (nI 0)), (0, .ref (ad 0)), (1, .int (nI i)), (2, .int (nI 2))]) hx hb dX8_drag_105 hl (by decide) rfl (fun ls hl => ?_)
                      refine lv_iload hx hb dX8_drag_107 (lv_at hl 0 rfl) ?_
                      refine lv_if_ne (tgt := 122) hx hb dX8_drag_109 (by decide) (fun c_109 => ?_) (fun c_109 => ?_)
                      · exact absurd c_109 (by decide)
                      · refine lv_aload_n hx hb dX8_drag_112 rfl (lv_at hl 3 rfl) ?_
                        refine lv_iload_n hx hb dX8_drag_113 rfl (lv_at hl 4 rfl) ?_
                        refine lv_bipush (v := nI 7) hx hb dX8_drag_114 (by decide) ?_
                        refine lv_iconst (v := nI 1) hx hb dX8_drag_116 (by decide) ?_
                        refine k_callv (k := 0) (As := [.int (nI i), .int (nI 7), .int (nI 1)]) (rest := []) ⟨hx, hb, hml, hown, hts⟩ (c_X8_put cy D ad l σ i 7 ((nI 1)) (by omega)) (cwV 3 hts gX8_drag_X8_put rfl rfl rfl (by decide +kernel) ⟨Nat.le_of_ble_eq_true rfl, Nat.le_of_ble_eq_true rfl⟩) E hA I (k_recv E I (by decide) km_0 rfl) rfl hl.1 rfl (lv_room (Nat.le_of_ble_eq_true rfl)) dX8_drag_117 ⟨Nat.le_of_ble_eq_true rfl, Nat.le_of_ble_eq_true rfl⟩ (fun σ_117 H locs hp_117 I => ?_)
                        have hst : pStay N i S = false := by subst hS; unfold pStay mIn; simp; omega
                        subst hS
                        refine lv_iconst (v := nI 1) hx hb dX8_drag_120 (by decide) ?_
                        exact k_iret hx hb hr hlk I dX8_drag_121 (⟨by rw [hst]; rfl, by have := mN_put (k := 23 + 13 * i + 7) (v := 1) hM hp_117; unfold pDrag; rw [hst]; exact this, qn_tr hQ (qn_put hp_117)⟩)
                    · exact absurd c_97 (by decide)
            · refine lv_if_eq (tgt := 104) hx hb dX8_drag_61 (by decide) (fun c_61 => ?_) (fun c_61 => ?_)
              · refine lv_iconst (v := nI 0) hx hb dX8_drag_104 (by decide) ?_
                refine lv_istore (lv' := [(5, .int (nI 0)), (4, .int (nI 1)), (3, .int (nI 0)), (0, .ref (ad 0)), (1, .int (nI i)), (2, .int (nI 2))]) hx hb dX8_drag_105 hl (by decide) rfl (fun ls hl => ?_)
                refine lv_iload hx hb dX8_drag_107 (lv_at hl 0 rfl) ?_
                refine lv_if_ne (tgt := 122) hx hb dX8_drag_109 (by decide) (fun c_109 => ?_) (fun c_109 => ?_)
                · exact absurd c_109 (by decide)
                · refine lv_aload_n hx hb dX8_drag_112 rfl (lv_at hl 3 rfl) ?_
                  refine lv_iload_n hx hb dX8_drag_113 rfl (lv_at hl 4 rfl) ?_
                  refine lv_bipush (v := nI 7) hx hb dX8_drag_114 (by decide) ?_
                  refine lv_iconst (v := nI 1) hx hb dX8_drag_116 (by decide) ?_
                  refine k_callv (k := 0) (As := [.int (nI i), .int (nI 7), .int (nI 1)]) (rest := []) ⟨hx, hb, hml, hown, hts⟩ (c_X8_put cy D ad l σ i 7 ((nI 1)) (by omega)) (cwV 3 hts gX8_drag_X8_put rfl rfl rfl (by decide +kernel) ⟨Nat.le_of_ble_eq_true rfl, Nat.le_of_ble_eq_true rfl⟩) E hA I (k_recv E I (by decide) km_0 rfl) rfl hl.1 rfl (lv_room (Nat.le_of_ble_eq_true rfl)) dX8_drag_117 ⟨Nat.le_of_ble_eq_true rfl, Nat.le_of_ble_eq_true rfl⟩ (fun σ_117 H locs hp_117 I => ?_)
                  have hst : pStay N i S = false := by subst hS; unfold pStay mIn; simp; omega
                  subst hS
                  refine lv_iconst (v := nI 1) hx hb dX8_drag_120 (by decide) ?_
                  exact k_iret hx hb hr hlk I dX8_drag_121 (⟨by rw [hst]; rfl, by have := mN_put (k := 23 + 13 * i + 7) (v := 1) hM hp_117; unfold pDrag; rw [hst]; exact this, qn_tr hQ (qn_put hp_117)⟩)
              · exact absurd c_61 (by decide)
        · exact absurd c_21 (by decide)
      · exact absurd c_11 (by decide)
    · exact absurd c_2 (by decide)
  · refine lv_iload_n hx hb dX8_drag_0 rfl (lv_at hl 2 rfl) ?_
    refine lv_iconst (v := nI 1) hx hb dX8_drag_1 (by decide) ?_
    refine lv_icmp_ne (tgt := 9) hx hb dX8_drag_2 (by decide) (fun c_2 => ?_) (fun c_2 => ?_)
    · refine lv_iload_n hx hb dX8_drag_9 rfl (lv_at hl 2 rfl) ?_
      refine lv_iconst (v := nI 3) hx hb dX8_drag_10 (by decide) ?_
      refine lv_icmp_ne (tgt := 18) hx hb dX8_drag_11 (by decide) (fun c_11 => ?_) (fun c_11 => ?_)
      · exact absurd c_11 (by decide)
      · refine lv_iconst (v := (-1 : Int32)) hx hb dX8_drag_14 (by decide) ?_
        refine lv_goto (tgt := 19) hx hb dX8_drag_15 (by decide) ?_
        refine lv_istore_n (lv' := [(3, .int (-1)), (0, .ref (ad 0)), (1, .int (nI i)), (2, .int (nI 3))]) hx hb dX8_drag_19 rfl hl (by decide) rfl (fun ls hl => ?_)
        refine lv_iload_n hx hb dX8_drag_20 rfl (lv_at hl 3 rfl) ?_
        refine lv_if_ne (tgt := 28) hx hb dX8_drag_21 (by decide) (fun c_21 => ?_) (fun c_21 => ?_)
        · refine lv_iload_n hx hb dX8_drag_28 rfl (lv_at hl 3 rfl) ?_
          refine lv_iconst (v := nI 2) hx hb dX8_drag_29 (by decide) ?_
          refine lv_icmp_ne (tgt := 37) hx hb dX8_drag_30 (by decide) (fun c_30 => ?_) (fun c_30 => ?_)
          · refine lv_iconst (v := nI 0) hx hb dX8_drag_37 (by decide) ?_
            refine lv_istore (lv' := [(4, .int (nI 0)), (3, .int (-1)), (0, .ref (ad 0)), (1, .int (nI i)), (2, .int (nI 3))]) hx hb dX8_drag_38 hl (by decide) rfl (fun ls hl => ?_)
            refine lv_aload_n hx hb dX8_drag_40 rfl (lv_at hl 2 rfl) ?_
            refine lv_aload_n hx hb dX8_drag_41 rfl (lv_at hl 2 rfl) ?_
            refine lv_iload_n hx hb dX8_drag_42 rfl (lv_at hl 3 rfl) ?_
            refine lv_iconst (v := nI 0) hx hb dX8_drag_43 (by decide) ?_
            refine k_calli (k := 0) (As := [.int (nI i), .int (nI 0)]) (rest := [.ref (ad 0)]) ⟨hx, hb, hml, hown, hts⟩ (c_X8_of cy D ad l σ i (0) (N (23 + 13 * i)) (by omega) (hM _ (by omega))) (cwV 2 hts gX8_drag_X8_of rfl rfl rfl (by decide +kernel) ⟨Nat.le_of_ble_eq_true rfl, Nat.le_of_ble_eq_true rfl⟩) E hA I (k_recv E I (by decide) km_0 rfl) rfl hl.1 rfl (lv_room (Nat.le_of_ble_eq_true rfl)) dX8_drag_44 ⟨Nat.le_of_ble_eq_true rfl, Nat.le_of_ble_eq_true rfl⟩ (fun r_44 σ_44 H locs hp_44 I => ?_)
            obtain ⟨rfl, rfl⟩ := hp_44
            refine lv_iload_n hx hb dX8_drag_47 rfl (lv_at hl 1 rfl) ?_
            refine lv_iadd hx hb dX8_drag_48 ?_
            refine lv_aload_n hx hb dX8_drag_49 rfl (lv_at hl 2 rfl) ?_
            refine lv_iload_n hx hb dX8_drag_50 rfl (lv_at hl 3 rfl) ?_
            refine lv_iconst (v := nI 1) hx hb dX8_drag_51 (by decide) ?_
            refine k_calli (k := 0) (As := [.int (nI i), .int (nI 1)]) (rest := [.int ((nI (N (23 + 13 * i))) + (-1)), .ref (ad 0)]) ⟨hx, hb, hml, hown, hts⟩ (c_X8_of cy D ad l σ i (1) (N (23 + 13 * i + 1)) (by omega) (hM _ (by omega))) (cwV 2 hts gX8_drag_X8_of rfl rfl rfl (by decide +kernel) ⟨Nat.le_of_ble_eq_true rfl, Nat.le_of_ble_eq_true rfl⟩) E hA I (k_recv E I (by decide) km_0 rfl) rfl hl.1 rfl (lv_room (Nat.le_of_ble_eq_true rfl)) dX8_drag_52 ⟨Nat.le_of_ble_eq_true rfl, Nat.le_of_ble_eq_true rfl⟩ (fun r_52 σ_52 H locs hp_52 I => ?_)
            obtain ⟨rfl, rfl⟩ := hp_52
            refine lv_iload hx hb dX8_drag_55 (lv_at hl 0 rfl) ?_
            refine lv_iadd hx hb dX8_drag_57 ?_
            rw [nI_add]
            refine k_calli (k := 0) (As := [.int ((nI (N (23 + 13 * i))) + (-1)), .int (nI ((N (23 + 13 * i + 1)) + 0))]) (rest := []) ⟨hx, hb, hml, hown, hts⟩ (c_X8_isField cy D ad l σ (((nI (N (23 + 13 * i))) + (-1))) ((nI ((N (23 + 13 * i + 1)) + 0))) N hN hM) (cwV 2 hts gX8_drag_X8_isField rfl rfl rfl (by decide +kernel) ⟨Nat.le_of_ble_eq_true rfl, Nat.le_of_ble_eq_true rfl⟩) E hA I (k_recv E I (by decide) km_0 rfl) rfl hl.1 rfl (lv_room (Nat.le_of_ble_eq_true rfl)) dX8_drag_58 ⟨Nat.le_of_ble_eq_true rfl, Nat.le_of_ble_eq_true rfl⟩ (fun r_58 σ_58 H locs hp_58 I => ?_)
            obtain ⟨hk_, rfl⟩ := hp_58
            first | rw [nI_toInt (by omega), nI_toInt (by omega)] at hk_ | rw [km1_toInt (by omega), nI_toInt (by omega)] at hk_ | rw [nI_toInt (by omega), km1_toInt (by omega)] at hk_
            rcases hk_ with ⟨rfl, g1⟩ | ⟨rfl, g1⟩
            · refine lv_if_eq (tgt := 104) hx hb dX8_drag_61 (by decide) (fun c_61 => ?_) (fun c_61 => ?_)
              · exact absurd c_61 (by decide)
              · refine lv_aload_n hx hb dX8_drag_64 rfl (lv_at hl 2 rfl) ?_
                refine lv_iload_n hx hb dX8_drag_65 rfl (lv_at hl 3 rfl) ?_
                refine lv_bipush (v := nI 9) hx hb dX8_drag_66 (by decide) ?_
                refine k_calli (k := 0) (As := [.int (nI i), .int (nI 9)]) (rest := []) ⟨hx, hb, hml, hown, hts⟩ (c_X8_of cy D ad l σ i (9) (N (23 + 13 * i + 9)) (by omega) (hM _ (by omega))) (cwV 2 hts gX8_drag_X8_of rfl rfl rfl (by decide +kernel) ⟨Nat.le_of_ble_eq_true rfl, Nat.le_of_ble_eq_true rfl⟩) E hA I (k_recv E I (by decide) km_0 rfl) rfl hl.1 rfl (lv_room (Nat.le_of_ble_eq_true rfl)) dX8_drag_68 ⟨Nat.le_of_ble_eq_true rfl, Nat.le_of_ble_eq_true rfl⟩ (fun r_68 σ_68 H locs hp_68 I => ?_)
                obtain ⟨rfl, rfl⟩ := hp_68
                refine lv_if_eq (tgt := 100) hx hb dX8_drag_71 (by decide) (fun c_71 => ?_) (fun c_71 => ?_)
                · have c_71 : (N (23 + 13 * i + 9)) = 0 := (nI_eq (by omega) (by decide)).mp c_71
                  have hm0 : N (23 + 13 * i + 9) = 0 := by omega
                  refine lv_iconst (v := nI 1) hx hb dX8_drag_100 (by decide) ?_
                  refine lv_goto (tgt := 105) hx hb dX8_drag_101 (by decide) ?_
                  refine lv_istore (lv' := [(5, .int (nI 1)), (4, .int (nI 0)), (3, .int (-1)), (0, .ref (ad 0)), (1, .int (nI i)), (2, .int (nI 3))]) hx hb dX8_drag_105 hl (by decide) rfl (fun ls hl => ?_)
                  refine lv_iload hx hb dX8_drag_107 (lv_at hl 0 rfl) ?_
                  refine lv_if_ne (tgt := 122) hx hb dX8_drag_109 (by decide) (fun c_109 => ?_) (fun c_109 => ?_)
                  · refine lv_aload_n hx hb dX8_drag_122 rfl (lv_at hl 3 rfl) ?_
                    refine lv_iload_n hx hb dX8_drag_123 rfl (lv_at hl 4 rfl) ?_
                    refine lv_iconst (v := nI 0) hx hb dX8_drag_124 (by decide) ?_
                    refine lv_aload_n hx hb dX8_drag_125 rfl (lv_at hl 3 rfl) ?_
                    refine lv_iload_n hx hb dX8_drag_126 rfl (lv_at hl 4 rfl) ?_
                    refine lv_iconst (v := nI 0) hx hb dX8_drag_127 (by decide) ?_
                    refine k_calli (k := 0) (As := [.int (nI i), .int (nI 0)]) (rest := [.int (nI 0), .int (nI i), .ref (ad 0)]) ⟨hx, hb, hml, hown, hts⟩ (c_X8_of cy D ad l σ i (0) (N (23 + 13 * i)) (by omega) (hM _ (by omega))) (cwV 2 hts gX8_drag_X8_of rfl rfl rfl (by decide +kernel) ⟨Nat.le_of_ble_eq_true rfl, Nat.le_of_ble_eq_true rfl⟩) E hA I (k_recv E I (by decide) km_0 rfl) rfl hl.1 rfl (lv_room (Nat.le_of_ble_eq_true rfl)) dX8_drag_128 ⟨Nat.le_of_ble_eq_true rfl, Nat.le_of_ble_eq_true rfl⟩ (fun r_128 σ_128 H locs hp_128 I => ?_)
                    obtain ⟨rfl, rfl⟩ := hp_128
                    refine lv_iload_n hx hb dX8_drag_131 rfl (lv_at hl 2 rfl) ?_
                    refine lv_iadd hx hb dX8_drag_132 ?_
                    refine lv_topi (fun t_133 et_133 => ?_)
                    have et_133 : t_133 = nI (mX S (N (23 + 13 * i))) := et_133.trans (by subst hS; first | (rw [sb_m1 (by omega)]; exact congrArg nI (by unfold mX; simp)) | exact congrArg nI (by unfold mX; simp))
                    subst et_133
                    refine k_callv (k := 0) (As := [.int (nI i), .int (nI 0), .int (nI (mX S (N (23 + 13 * i))))]) (rest := []) ⟨hx, hb, hml, hown, hts⟩ (c_X8_put cy D ad l σ i 0 ((nI (mX S (N (23 + 13 * i))))) (by omega)) (cwV 3 hts gX8_drag_X8_put rfl rfl rfl (by decide +kernel) ⟨Nat.le_of_ble_eq_true rfl, Nat.le_of_ble_eq_true rfl⟩) E hA I (k_recv E I (by decide) km_0 rfl) rfl hl.1 rfl (lv_room (Nat.le_of_ble_eq_true rfl)) dX8_drag_133 ⟨Nat.le_of_ble_eq_true rfl, Nat.le_of_ble_eq_true rfl⟩ (fun σ_133 H locs hp_133 I => ?_)
                    have hM1 := mN_put (k := 23 + 13 * i) (v := mX S (N (23 + 13 * i))) hM hp_133
                    have hQ := qn_tr hQ (qn_put hp_133)
                    have e1 : σ_133 1 (23 + 13 * i + 1) = nI (N (23 + 13 * i + 1)) := by rw [hp_133, va_up_self, pk_un (by omega)]; exact hM _ (by omega)
                    have e8 : σ_133 1 (23 + 13 * i + 8) = nI (N (23 + 13 * i + 8)) := by rw [hp_133, va_up_self, pk_un (by omega)]; exact hM _ (by omega)
                    have e9 : σ_133 1 (23 + 13 * i + 9) = nI (N (23 + 13 * i + 9)) := by rw [hp_133, va_up_self, pk_un (by omega)]; exact hM _ (by omega)
                    have e10 : σ_133 1 (23 + 13 * i + 10) = nI (N (23 + 13 * i + 10)) := by rw [hp_133, va_up_self, pk_un (by omega)]; exact hM _ (by omega)
                    have e11 : σ_133 1 (23 + 13 * i + 11) = nI (N (23 + 13 * i + 11)) := by rw [hp_133, va_up_self, pk_un (by omega)]; exact hM _ (by omega)
                    refine lv_aload_n hx hb dX8_drag_136 rfl (lv_at hl 3 rfl) ?_
                    refine lv_iload_n hx hb dX8_drag_137 rfl (lv_at hl 4 rfl) ?_
                    refine lv_iconst (v := nI 1) hx hb dX8_drag_138 (by decide) ?_
                    refine lv_aload_n hx hb dX8_drag_139 rfl (lv_at hl 3 rfl) ?_
                    refine lv_iload_n hx hb dX8_drag_140 rfl (lv_at hl 4 rfl) ?_
                    refine lv_iconst (v := nI 1) hx hb dX8_drag_141 (by decide) ?_
                    refine k_calli (k := 0) (As := [.int (nI i), .int (nI 1)]) (rest := [.int (nI 1), .int (nI i), .ref (ad 0)]) ⟨hx, hb, hml, hown, hts⟩ (c_X8_of cy D ad l σ_133 i 1 (N (23 + 13 * i + 1)) (by omega) e1) (cwV 2 hts gX8_drag_X8_of rfl rfl rfl (by decide +kernel) ⟨Nat.le_of_ble_eq_true rfl, Nat.le_of_ble_eq_true rfl⟩) E hA I (k_recv E I (by decide) km_0 rfl) rfl hl.1 rfl (lv_room (Nat.le_of_ble_eq_true rfl)) dX8_drag_142 ⟨Nat.le_of_ble_eq_true rfl, Nat.le_of_ble_eq_true rfl⟩ (fun r_142 σ_142 H locs hp_142 I => ?_)
                    obtain ⟨rfl, rfl⟩ := hp_142
                    refine lv_iload hx hb dX8_drag_145 (lv_at hl 1 rfl) ?_
                    refine lv_iadd hx hb dX8_drag_147 ?_
                    rw [nI_add]
                    refine lv_topi (fun t_148 et_148 => ?_)
                    have et_148 : t_148 = nI (mY S (N (23 + 13 * i + 1))) := et_148.trans (by subst hS; first | (rw [sb_m1 (by omega)]; exact congrArg nI (by unfold mY; simp)) | exact congrArg nI (by unfold mY; simp))
                    subst et_148
                    refine k_callv (k := 0) (As := [.int (nI i), .int (nI 1), .int (nI (mY S (N (23 + 13 * i + 1))))]) (rest := []) ⟨hx, hb, hml, hown, hts⟩ (c_X8_put cy D ad l σ_133 i 1 ((nI (mY S (N (23 + 13 * i + 1))))) (by omega)) (cwV 3 hts gX8_drag_X8_put rfl rfl rfl (by decide +kernel) ⟨Nat.le_of_ble_eq_true rfl, Nat.le_of_ble_eq_true rfl⟩) E hA I (k_recv E I (by decide) km_0 rfl) rfl hl.1 rfl (lv_room (Nat.le_of_ble_eq_true rfl)) dX8_drag_148 ⟨Nat.le_of_ble_eq_true rfl, Nat.le_of_ble_eq_true rfl⟩ (fun σ_148 H locs hp_148 I => ?_)
                    have hM2 := mN_put (k := 23 + 13 * i + 1) (v := mY S (N (23 + 13 * i + 1))) hM1 hp_148
                    have hQ := qn_tr hQ (qn_put hp_148)
                    have e8 : σ_148 1 (23 + 13 * i + 8) = nI (N (23 + 13 * i + 8)) := by rw [hp_148, va_up_self, pk_un (by omega)]; exact e8
                    have e9 : σ_148 1 (23 + 13 * i + 9) = nI (N (23 + 13 * i + 9)) := by rw [hp_148, va_up_self, pk_un (by omega)]; exact e9
                    have e10 : σ_148 1 (23 + 13 * i + 10) = nI (N (23 + 13 * i + 10)) := by rw [hp_148, va_up_self, pk_un (by omega)]; exact e10
                    have e11 : σ_148 1 (23 + 13 * i + 11) = nI (N (23 + 13 * i + 11)) := by rw [hp_148, va_up_self, pk_un (by omega)]; exact e11
                    refine lv_aload_n hx hb dX8_drag_151 rfl (lv_at hl 3 rfl) ?_
                    refine lv_iload_n hx hb dX8_drag_152 rfl (lv_at hl 4 rfl) ?_
                    refine lv_bipush (v := nI 9) hx hb dX8_drag_153 (by decide) ?_
                    refine k_calli (k := 0) (As := [.int (nI i), .int (nI 9)]) (rest := []) ⟨hx, hb, hml, hown, hts⟩ (c_X8_of cy D ad l σ_148 i 9 (N (23 + 13 * i + 9)) (by omega) e9) (cwV 2 hts gX8_drag_X8_of rfl rfl rfl (by decide +kernel) ⟨Nat.le_of_ble_eq_true rfl, Nat.le_of_ble_eq_true rfl⟩) E hA I (k_recv E I (by decide) km_0 rfl) rfl hl.1 rfl (lv_room (Nat.le_of_ble_eq_true rfl)) dX8_drag_155 ⟨Nat.le_of_ble_eq_true rfl, Nat.le_of_ble_eq_true rfl⟩ (fun r_155 σ_155 H locs hp_155 I => ?_)
                    obtain ⟨rfl, rfl⟩ := hp_155
                    refine lv_iconst (v := nI 1) hx hb dX8_drag_158 (by decide) ?_
                    refine lv_icmp_ne (tgt := 195) hx hb dX8_drag_159 (by decide) (fun c_159 => ?_) (fun c_159 => ?_)
                    · have c_159 : ¬ ((N (23 + 13 * i + 9)) = 1) := fun q_ => c_159 ((nI_eq (by omega) (by omega)).mpr q_)
                      refine lv_aload_n hx hb dX8_drag_195 rfl (lv_at hl 3 rfl) ?_
                      refine lv_iload_n hx hb dX8_drag_196 rfl (lv_at hl 4 rfl) ?_
                      refine lv_bipush (v := nI 8) hx hb dX8_drag_197 (by decide) ?_
                      refine lv_aload_n hx hb dX8_drag_199 rfl (lv_at hl 3 rfl) ?_
                      refine lv_iload_n hx hb dX8_drag_200 rfl (lv_at hl 4 rfl) ?_
                      refine lv_bipush (v := nI 8) hx hb dX8_drag_201 (by decide) ?_
                      refine k_calli (k := 0) (As := [.int (nI i), .int (nI 8)]) (rest := [.int (nI 8), .int (nI i), .ref (ad 0)]) ⟨hx, hb, hml, hown, hts⟩ (c_X8_of cy D ad l σ_148 i 8 (N (23 + 13 * i + 8)) (by omega) e8) (cwV 2 hts gX8_drag_X8_of rfl rfl rfl (by decide +kernel) ⟨Nat.le_of_ble_eq_true rfl, Nat.le_of_ble_eq_true rfl⟩) E hA I (k_recv E I (by decide) km_0 rfl) rfl hl.1 rfl (lv_room (Nat.le_of_ble_eq_true rfl)) dX8_drag_203 ⟨Nat.le_of_ble_eq_true rfl, Nat.le_of_ble_eq_true rfl⟩ (fun r_203 σ_203 H locs hp_203 I => ?_)
                      obtain ⟨rfl, rfl⟩ := hp_203
                      refine lv_iconst (v := nI 1) hx hb dX8_drag_206 (by decide) ?_
                      refine lv_iadd hx hb dX8_drag_207 ?_
                      rw [nI_add]
                      refine k_callv (k := 0) (As := [.int (nI i), .int (nI 8), .int (nI ((N (23 + 13 * i + 8)) + 1))]) (rest := []) ⟨hx, hb, hml, hown, hts⟩ (c_X8_put cy D ad l σ_148 i 8 ((nI ((N (23 + 13 * i + 8)) + 1))) (by omega)) (cwV 3 hts gX8_drag_X8_put rfl rfl rfl (by decide +kernel) ⟨Nat.le_of_ble_eq_true rfl, Nat.le_of_ble_eq_true rfl⟩) E hA I (k_recv E I (by decide) km_0 rfl) rfl hl.1 rfl (lv_room (Nat.le_of_ble_eq_true rfl)) dX8_drag_208 ⟨Nat.le_of_ble_eq_true rfl, Nat.le_of_ble_eq_true rfl⟩ (fun σ_208 H locs hp_208 I => ?_)
                      have hM2 := mN_put (k := 23 + 13 * i + 8) (v := N (23 + 13 * i + 8) + 1) hM2 hp_208
                      have hQ := qn_tr hQ (qn_put hp_208)
                      refine lv_iconst (v := nI 0) hx hb dX8_drag_211 (by decide) ?_
                      exact k_iret hx hb hr hlk I dX8_drag_212 (by have hst : pStay N i S = true := (by subst hS; unfold pStay mIn; simp; omega); first | (have hk := drag_m1 hst (by omega); subst hS; exact ⟨by rw [hst]; rfl, mN_same hM2 (fun k _ => hk k), hQ⟩) | (have hk := drag_m2 hst (by omega); subst hS; exact ⟨by rw [hst]; rfl, mN_same hM2 (fun k _ => hk k), hQ⟩))
                    · have c_159 : (N (23 + 13 * i + 9)) = 1 := (nI_eq (by omega) (by omega)).mp c_159
                      have hs2 := hsh.2.2.2.2.1 (by omega)
                      refine lv_aload_n hx hb dX8_drag_162 rfl (lv_at hl 3 rfl) ?_
                      refine lv_iload_n hx hb dX8_drag_163 rfl (lv_at hl 4 rfl) ?_
                      refine lv_bipush (v := nI 10) hx hb dX8_drag_164 (by decide) ?_
                      refine lv_aload_n hx hb dX8_drag_166 rfl (lv_at hl 3 rfl) ?_
                      refine lv_iload_n hx hb dX8_drag_167 rfl (lv_at hl 4 rfl) ?_
                      refine lv_bipush (v := nI 10) hx hb dX8_drag_168 (by decide) ?_
                      refine k_calli (k := 0) (As := [.int (nI i), .int (nI 10)]) (rest := [.int (nI 10), .int (nI i), .ref (ad 0)]) ⟨hx, hb, hml, hown, hts⟩ (c_X8_of cy D ad l σ_148 i 10 (N (23 + 13 * i + 10)) (by omega) e10) (cwV 2 hts gX8_drag_X8_of rfl rfl rfl (by decide +kernel) ⟨Nat.le_of_ble_eq_true rfl, Nat.le_of_ble_eq_true rfl⟩) E hA I (k_recv E I (by decide) km_0 rfl) rfl hl.1 rfl (lv_room (Nat.le_of_ble_eq_true rfl)) dX8_drag_170 ⟨Nat.le_of_ble_eq_true rfl, Nat.le_of_ble_eq_true rfl⟩ (fun r_170 σ_170 H locs hp_170 I => ?_)
                      obtain ⟨rfl, rfl⟩ := hp_170
                      refine lv_iload_n hx hb dX8_drag_173 rfl (lv_at hl 2 rfl) ?_
                      refine lv_iadd hx hb dX8_drag_174 ?_
                      refine lv_topi (fun t_175 et_175 => ?_)
                      have et_175 : t_175 = nI (mX S (N (23 + 13 * i + 10))) := et_175.trans (by subst hS; first | (rw [sb_m1 (by omega)]; exact congrArg nI (by unfold mX; simp)) | exact congrArg nI (by unfold mX; simp))
                      subst et_175
                      refine k_callv (k := 0) (As := [.int (nI i), .int (nI 10), .int (nI (mX S (N (23 + 13 * i + 10))))]) (rest := []) ⟨hx, hb, hml, hown, hts⟩ (c_X8_put cy D ad l σ_148 i 10 ((nI (mX S (N (23 + 13 * i + 10))))) (by omega)) (cwV 3 hts gX8_drag_X8_put rfl rfl rfl (by decide +kernel) ⟨Nat.le_of_ble_eq_true rfl, Nat.le_of_ble_eq_true rfl⟩) E hA I (k_recv E I (by decide) km_0 rfl) rfl hl.1 rfl (lv_room (Nat.le_of_ble_eq_true rfl)) dX8_drag_175 ⟨Nat.le_of_ble_eq_true rfl, Nat.le_of_ble_eq_true rfl⟩ (fun σ_175 H locs hp_175 I => ?_)
                      have hM2 := mN_put (k := 23 + 13 * i + 10) (v := mX S (N (23 + 13 * i + 10))) hM2 hp_175
                      have hQ := qn_tr hQ (qn_put hp_175)
                      have e8 : σ_175 1 (23 + 13 * i + 8) = nI (N (23 + 13 * i + 8)) := by rw [hp_175, va_up_self, pk_un (by omega)]; exact e8
                      have e11 : σ_175 1 (23 + 13 * i + 11) = nI (N (23 + 13 * i + 11)) := by rw [hp_175, va_up_self, pk_un (by omega)]; exact e11
                      refine lv_aload_n hx hb dX8_drag_178 rfl (lv_at hl 3 rfl) ?_
                      refine lv_iload_n hx hb dX8_drag_179 rfl (lv_at hl 4 rfl) ?_
                      refine lv_bipush (v := nI 11) hx hb dX8_drag_180 (by decide) ?_
                      refine lv_aload_n hx hb dX8_drag_182 rfl (lv_at hl 3 rfl) ?_
                      refine lv_iload_n hx hb dX8_drag_183 rfl (lv_at hl 4 rfl) ?_
                      refine lv_bipush (v := nI 11) hx hb dX8_drag_184 (by decide) ?_
                      refine k_calli (k := 0) (As := [.int (nI i), .int (nI 11)]) (rest := [.int (nI 11), .int (nI i), .ref (ad 0)]) ⟨hx, hb, hml, hown, hts⟩ (c_X8_of cy D ad l σ_175 i 11 (N (23 + 13 * i + 11)) (by omega) e11) (cwV 2 hts gX8_drag_X8_of rfl rfl rfl (by decide +kernel) ⟨Nat.le_of_ble_eq_true rfl, Nat.le_of_ble_eq_true rfl⟩) E hA I (k_recv E I (by decide) km_0 rfl) rfl hl.1 rfl (lv_room (Nat.le_of_ble_eq_true rfl)) dX8_drag_186 ⟨Nat.le_of_ble_eq_true rfl, Nat.le_of_ble_eq_true rfl⟩ (fun r_186 σ_186 H locs hp_186 I => ?_)
                      obtain ⟨rfl, rfl⟩ := hp_186
                      refine lv_iload hx hb dX8_drag_189 (lv_at hl 1 rfl) ?_
                      refine lv_iadd hx hb dX8_drag_191 ?_
                      rw [nI_add]
                      refine lv_topi (fun t_192 et_192 => ?_)
                      have et_192 : t_192 = nI (mY S (N (23 + 13 * i + 11))) := et_192.trans (by subst hS; first | (rw [sb_m1 (by omega)]; exact congrArg nI (by unfold mY; simp)) | exact congrArg nI (by unfold mY; simp))
                      subst et_192
                      refine k_callv (k := 0) (As := [.int (nI i), .int (nI 11), .int (nI (mY S (N (23 + 13 * i + 11))))]) (rest := []) ⟨hx, hb, hml, hown, hts⟩ (c_X8_put cy D ad l σ_175 i 11 ((nI (mY S (N (23 + 13 * i + 11))))) (by omega)) (cwV 3 hts gX8_drag_X8_put rfl rfl rfl (by decide +kernel) ⟨Nat.le_of_ble_eq_true rfl, Nat.le_of_ble_eq_true rfl⟩) E hA I (k_recv E I (by decide) km_0 rfl) rfl hl.1 rfl (lv_room (Nat.le_of_ble_eq_true rfl)) dX8_drag_192 ⟨Nat.le_of_ble_eq_true rfl, Nat.le_of_ble_eq_true rfl⟩ (fun σ_192 H locs hp_192 I => ?_)
                      have hM2 := mN_put (k := 23 + 13 * i + 11) (v := mY S (N (23 + 13 * i + 11))) hM2 hp_192
                      have hQ := qn_tr hQ (qn_put hp_192)
                      have e8 : σ_192 1 (23 + 13 * i + 8) = nI (N (23 + 13 * i + 8)) := by rw [hp_192, va_up_self, pk_un (by omega)]; exact e8
                      refine lv_aload_n hx hb dX8_drag_195 rfl (lv_at hl 3 rfl) ?_
                      refine lv_iload_n hx hb dX8_drag_196 rfl (lv_at hl 4 rfl) ?_
                      refine lv_bipush (v := nI 8) hx hb dX8_drag_197 (by decide) ?_
                      refine lv_aload_n hx hb dX8_drag_199 rfl (lv_at hl 3 rfl) ?_
                      refine lv_iload_n hx hb dX8_drag_200 rfl (lv_at hl 4 rfl) ?_
                      refine lv_bipush (v := nI 8) hx hb dX8_drag_201 (by decide) ?_
                      refine k_calli (k := 0) (As := [.int (nI i), .int (nI 8)]) (rest := [.int (nI 8), .int (nI i), .ref (ad 0)]) ⟨hx, hb, hml, hown, hts⟩ (c_X8_of cy D ad l σ_192 i 8 (N (23 + 13 * i + 8)) (by omega) e8) (cwV 2 hts gX8_drag_X8_of rfl rfl rfl (by decide +kernel) ⟨Nat.le_of_ble_eq_true rfl, Nat.le_of_ble_eq_true rfl⟩) E hA I (k_recv E I (by decide) km_0 rfl) rfl hl.1 rfl (lv_room (Nat.le_of_ble_eq_true rfl)) dX8_drag_203 ⟨Nat.le_of_ble_eq_true rfl, Nat.le_of_ble_eq_true rfl⟩ (fun r_203 σ_203 H locs hp_203 I => ?_)
                      obtain ⟨rfl, rfl⟩ := hp_203
                      refine lv_iconst (v := nI 1) hx hb dX8_drag_206 (by decide) ?_
                      refine lv_iadd hx hb dX8_drag_207 ?_
                      rw [nI_add]
                      refine k_callv (k := 0) (As := [.int (nI i), .int (nI 8), .int (nI ((N (23 + 13 * i + 8)) + 1))]) (rest := []) ⟨hx, hb, hml, hown, hts⟩ (c_X8_put cy D ad l σ_192 i 8 ((nI ((N (23 + 13 * i + 8)) + 1))) (by omega)) (cwV 3 hts gX8_drag_X8_put rfl rfl rfl (by decide +kernel) ⟨Nat.le_of_ble_eq_true rfl, Nat.le_of_ble_eq_true rfl⟩) E hA I (k_recv E I (by decide) km_0 rfl) rfl hl.1 rfl (lv_room (Nat.le_of_ble_eq_true rfl)) dX8_drag_208 ⟨Nat.le_of_ble_eq_true rfl, Nat.le_of_ble_eq_true rfl⟩ (fun σ_208 H locs hp_208 I => ?_)
                      have hM2 := mN_put (k := 23 + 13 * i + 8) (v := N (23 + 13 * i + 8) + 1) hM2 hp_208
                      have hQ := qn_tr hQ (qn_put hp_208)
                      refine lv_iconst (v := nI 0) hx hb dX8_drag_211 (by decide) ?_
                      exact k_iret hx hb hr hlk I dX8_drag_212 (by have hst : pStay N i S = true := (by subst hS; unfold pStay mIn; simp; omega); first | (have hk := drag_m1 hst (by omega); subst hS; exact ⟨by rw [hst]; rfl, mN_same hM2 (fun k _ => hk k), hQ⟩) | (have hk := drag_m2 hst (by omega); subst hS; exact ⟨by rw [hst]; rfl, mN_same hM2 (fun k _ => hk k), hQ⟩))
                  · exact absurd c_109 (by decide)
                · have c_71 : ¬ ((N (23 + 13 * i + 9)) = 0) := fun q_ => c_71 ((nI_eq (by omega) (by decide)).mpr q_)
                  have hm : N (23 + 13 * i + 9) = 1 := by omega
                  have hs2 := hsh.2.2.2.2.1 hm
                  refine lv_aload_n hx hb dX8_drag_74 rfl (lv_at hl 2 rfl) ?_
                  refine lv_aload_n hx hb dX8_drag_75 rfl (lv_at hl 2 rfl) ?_
                  refine lv_iload_n hx hb dX8_drag_76 rfl (lv_at hl 3 rfl) ?_
                  refine lv_bipush (v := nI 10) hx hb dX8_drag_77 (by decide) ?_
                  refine k_calli (k := 0) (As := [.int (nI i), .int (nI 10)]) (rest := [.ref (ad 0)]) ⟨hx, hb, hml, hown, hts⟩ (c_X8_of cy D ad l σ i (10) (N (23 + 13 * i + 10)) (by omega) (hM _ (by omega))) (cwV 2 hts gX8_drag_X8_of rfl rfl rfl (by decide +kernel) ⟨Nat.le_of_ble_eq_true rfl, Nat.le_of_ble_eq_true rfl⟩) E hA I (k_recv E I (by decide) km_0 rfl) rfl hl.1 rfl (lv_room (Nat.le_of_ble_eq_true rfl)) dX8_drag_79 ⟨Nat.le_of_ble_eq_true rfl, Nat.le_of_ble_eq_true rfl⟩ (fun r_79 σ_79 H locs hp_79 I => ?_)
                  obtain ⟨rfl, rfl⟩ := hp_79
                  refine lv_iload_n hx hb dX8_drag_82 rfl (lv_at hl 1 rfl) ?_
                  refine lv_iadd hx hb dX8_drag_83 ?_
                  refine lv_aload_n hx hb dX8_drag_84 rfl (lv_at hl 2 rfl) ?_
                  refine lv_iload_n hx hb dX8_drag_85 rfl (lv_at hl 3 rfl) ?_
                  refine lv_bipush (v := nI 11) hx hb dX8_drag_86 (by decide) ?_
                  refine k_calli (k := 0) (As := [.int (nI i), .int (nI 11)]) (rest := [.int ((nI (N (23 + 13 * i + 10))) + (-1)), .ref (ad 0)]) ⟨hx, hb, hml, hown, hts⟩ (c_X8_of cy D ad l σ i (11) (N (23 + 13 * i + 11)) (by omega) (hM _ (by omega))) (cwV 2 hts gX8_drag_X8_of rfl rfl rfl (by decide +kernel) ⟨Nat.le_of_ble_eq_true rfl, Nat.le_of_ble_eq_true rfl⟩) E hA I (k_recv E I (by decide) km_0 rfl) rfl hl.1 rfl (lv_room (Nat.le_of_ble_eq_true rfl)) dX8_drag_88 ⟨Nat.le_of_ble_eq_true rfl, Nat.le_of_ble_eq_true rfl⟩ (fun r_88 σ_88 H locs hp_88 I => ?_)
                  obtain ⟨rfl, rfl⟩ := hp_88
                  refine lv_iload hx hb dX8_drag_91 (lv_at hl 0 rfl) ?_
                  refine lv_iadd hx hb dX8_drag_93 ?_
                  rw [nI_add]
                  refine k_calli (k := 0) (As := [.int ((nI (N (23 + 13 * i + 10))) + (-1)), .int (nI ((N (23 + 13 * i + 11)) + 0))]) (rest := []) ⟨hx, hb, hml, hown, hts⟩ (c_X8_isField cy D ad l σ (((nI (N (23 + 13 * i + 10))) + (-1))) ((nI ((N (23 + 13 * i + 11)) + 0))) N hN hM) (cwV 2 hts gX8_drag_X8_isField rfl rfl rfl (by decide +kernel) ⟨Nat.le_of_ble_eq_true rfl, Nat.le_of_ble_eq_true rfl⟩) E hA I (k_recv E I (by decide) km_0 rfl) rfl hl.1 rfl (lv_room (Nat.le_of_ble_eq_true rfl)) dX8_drag_94 ⟨Nat.le_of_ble_eq_true rfl, Nat.le_of_ble_eq_true rfl⟩ (fun r_94 σ_94 H locs hp_94 I => ?_)
                  obtain ⟨hk_, rfl⟩ := hp_94
                  first | rw [nI_toInt (by omega), nI_toInt (by omega)] at hk_ | rw [km1_toInt (by omega), nI_toInt (by omega)] at hk_ | rw [nI_toInt (by omega), km1_toInt (by omega)] at hk_
                  rcases hk_ with ⟨rfl, g2⟩ | ⟨rfl, g2⟩
                  · refine lv_if_eq (tgt := 104) hx hb dX8_drag_97 (by decide) (fun c_97 => ?_) (fun c_97 => ?_)
                    · exact absurd c_97 (by decide)
                    · refine lv_iconst (v := nI 1) hx hb dX8_drag_100 (by decide) ?_
                      refine lv_goto (tgt := 105) hx hb dX8_drag_101 (by decide) ?_
                      refine lv_istore (lv' := [(5, .int (nI 1)), (4, .int (nI 0)), (3, .int (-1)), (0, .ref (ad 0)), (1, .int (nI i)), (2, .int (nI 3))]) hx hb dX8_drag_105 hl (by decide) rfl (fun ls hl => ?_)
                      refine lv_iload hx hb dX8_drag_107 (lv_at hl 0 rfl) ?_
                      refine lv_if_ne (tgt := 122) hx hb dX8_drag_109 (by decide) (fun c_109 => ?_) (fun c_109 => ?_)
                      · refine lv_aload_n hx hb dX8_drag_122 rfl (lv_at hl 3 rfl) ?_
                        refine lv_iload_n hx hb dX8_drag_123 rfl (lv_at hl 4 rfl) ?_
                        refine lv_iconst (v := nI 0) hx hb dX8_drag_124 (by decide) ?_
                        refine lv_aload_n hx hb dX8_drag_125 rfl (lv_at hl 3 rfl) ?_
                        refine lv_iload_n hx hb dX8_drag_126 rfl (lv_at hl 4 rfl) ?_
                        refine lv_iconst (v := nI 0) hx hb dX8_drag_127 (by decide) ?_
                        refine k_calli (k := 0) (As := [.int (nI i), .int (nI 0)]) (rest := [.int (nI 0), .int (nI i), .ref (ad 0)]) ⟨hx, hb, hml, hown, hts⟩ (c_X8_of cy D ad l σ i (0) (N (23 + 13 * i)) (by omega) (hM _ (by omega))) (cwV 2 hts gX8_drag_X8_of rfl rfl rfl (by decide +kernel) ⟨Nat.le_of_ble_eq_true rfl, Nat.le_of_ble_eq_true rfl⟩) E hA I (k_recv E I (by decide) km_0 rfl) rfl hl.1 rfl (lv_room (Nat.le_of_ble_eq_true rfl)) dX8_drag_128 ⟨Nat.le_of_ble_eq_true rfl, Nat.le_of_ble_eq_true rfl⟩ (fun r_128 σ_128 H locs hp_128 I => ?_)
                        obtain ⟨rfl, rfl⟩ := hp_128
                        refine lv_iload_n hx hb dX8_drag_131 rfl (lv_at hl 2 rfl) ?_
                        refine lv_iadd hx hb dX8_drag_132 ?_
                        refine lv_topi (fun t_133 et_133 => ?_)
                        have et_133 : t_133 = nI (mX S (N (23 + 13 * i))) := et_133.trans (by subst hS; first | (rw [sb_m1 (by omega)]; exact congrArg nI (by unfold mX; simp)) | exact congrArg nI (by unfold mX; simp))
                        subst et_133
                        refine k_callv (k := 0) (As := [.int (nI i), .int (nI 0), .int (nI (mX S (N (23 + 13 * i))))]) (rest := []) ⟨hx, hb, hml, hown, hts⟩ (c_X8_put cy D ad l σ i 0 ((nI (mX S (N (23 + 13 * i))))) (by omega)) (cwV 3 hts gX8_drag_X8_put rfl rfl rfl (by decide +kernel) ⟨Nat.le_of_ble_eq_true rfl, Nat.le_of_ble_eq_true rfl⟩) E hA I (k_recv E I (by decide) km_0 rfl) rfl hl.1 rfl (lv_room (Nat.le_of_ble_eq_true rfl)) dX8_drag_133 ⟨Nat.le_of_ble_eq_true rfl, Nat.le_of_ble_eq_true rfl⟩ (fun σ_133 H locs hp_133 I => ?_)
                        have hM1 := mN_put (k := 23 + 13 * i) (v := mX S (N (23 + 13 * i))) hM hp_133
                        have hQ := qn_tr hQ (qn_put hp_133)
                        have e1 : σ_133 1 (23 + 13 * i + 1) = nI (N (23 + 13 * i + 1)) := by rw [hp_133, va_up_self, pk_un (by omega)]; exact hM _ (by omega)
                        have e8 : σ_133 1 (23 + 13 * i + 8) = nI (N (23 + 13 * i + 8)) := by rw [hp_133, va_up_self, pk_un (by omega)]; exact hM _ (by omega)
                        have e9 : σ_133 1 (23 + 13 * i + 9) = nI (N (23 + 13 * i + 9)) := by rw [hp_133, va_up_self, pk_un (by omega)]; exact hM _ (by omega)
                        have e10 : σ_133 1 (23 + 13 * i + 10) = nI (N (23 + 13 * i + 10)) := by rw [hp_133, va_up_self, pk_un (by omega)]; exact hM _ (by omega)
                        have e11 : σ_133 1 (23 + 13 * i + 11) = nI (N (23 + 13 * i + 11)) := by rw [hp_133, va_up_self, pk_un (by omega)]; exact hM _ (by omega)
                        refine lv_aload_n hx hb dX8_drag_136 rfl (lv_at hl 3 rfl) ?_
                        refine lv_iload_n hx hb dX8_drag_137 rfl (lv_at hl 4 rfl) ?_
                        refine lv_iconst (v := nI 1) hx hb dX8_drag_138 (by decide) ?_
                        refine lv_aload_n hx hb dX8_drag_139 rfl (lv_at hl 3 rfl) ?_
                        refine lv_iload_n hx hb dX8_drag_140 rfl (lv_at hl 4 rfl) ?_
                        refine lv_iconst (v := nI 1) hx hb dX8_drag_141 (by decide) ?_
                        refine k_calli (k := 0) (As := [.int (nI i), .int (nI 1)]) (rest := [.int (nI 1), .int (nI i), .ref (ad 0)]) ⟨hx, hb, hml, hown, hts⟩ (c_X8_of cy D ad l σ_133 i 1 (N (23 + 13 * i + 1)) (by omega) e1) (cwV 2 hts gX8_drag_X8_of rfl rfl rfl (by decide +kernel) ⟨Nat.le_of_ble_eq_true rfl, Nat.le_of_ble_eq_true rfl⟩) E hA I (k_recv E I (by decide) km_0 rfl) rfl hl.1 rfl (lv_room (Nat.le_of_ble_eq_true rfl)) dX8_drag_142 ⟨Nat.le_of_ble_eq_true rfl, Nat.le_of_ble_eq_true rfl⟩ (fun r_142 σ_142 H locs hp_142 I => ?_)
                        obtain ⟨rfl, rfl⟩ := hp_142
                        refine lv_iload hx hb dX8_drag_145 (lv_at hl 1 rfl) ?_
                        refine lv_iadd hx hb dX8_drag_147 ?_
                        rw [nI_add]
                        refine lv_topi (fun t_148 et_148 => ?_)
                        have et_148 : t_148 = nI (mY S (N (23 + 13 * i + 1))) := et_148.trans (by subst hS; first | (rw [sb_m1 (by omega)]; exact congrArg nI (by unfold mY; simp)) | exact congrArg nI (by unfold mY; simp))
                        subst et_148
                        refine k_callv (k := 0) (As := [.int (nI i), .int (nI 1), .int (nI (mY S (N (23 + 13 * i + 1))))]) (rest := []) ⟨hx, hb, hml, hown, hts⟩ (c_X8_put cy D ad l σ_133 i 1 ((nI (mY S (N (23 + 13 * i + 1))))) (by omega)) (cwV 3 hts gX8_drag_X8_put rfl rfl rfl (by decide +kernel) ⟨Nat.le_of_ble_eq_true rfl, Nat.le_of_ble_eq_true rfl⟩) E hA I (k_recv E I (by decide) km_0 rfl) rfl hl.1 rfl (lv_room (Nat.le_of_ble_eq_true rfl)) dX8_drag_148 ⟨Nat.le_of_ble_eq_true rfl, Nat.le_of_ble_eq_true rfl⟩ (fun σ_148 H locs hp_148 I => ?_)
                        have hM2 := mN_put (k := 23 + 13 * i + 1) (v := mY S (N (23 + 13 * i + 1))) hM1 hp_148
                        have hQ := qn_tr hQ (qn_put hp_148)
                        have e8 : σ_148 1 (23 + 13 * i + 8) = nI (N (23 + 13 * i + 8)) := by rw [hp_148, va_up_self, pk_un (by omega)]; exact e8
                        have e9 : σ_148 1 (23 + 13 * i + 9) = nI (N (23 + 13 * i + 9)) := by rw [hp_148, va_up_self, pk_un (by omega)]; exact e9
                        have e10 : σ_148 1 (23 + 13 * i + 10) = nI (N (23 + 13 * i + 10)) := by rw [hp_148, va_up_self, pk_un (by omega)]; exact e10
                        have e11 : σ_148 1 (23 + 13 * i + 11) = nI (N (23 + 13 * i + 11)) := by rw [hp_148, va_up_self, pk_un (by omega)]; exact e11
                        refine lv_aload_n hx hb dX8_drag_151 rfl (lv_at hl 3 rfl) ?_
                        refine lv_iload_n hx hb dX8_drag_152 rfl (lv_at hl 4 rfl) ?_
                        refine lv_bipush (v := nI 9) hx hb dX8_drag_153 (by decide) ?_
                        refine k_calli (k := 0) (As := [.int (nI i), .int (nI 9)]) (rest := []) ⟨hx, hb, hml, hown, hts⟩ (c_X8_of cy D ad l σ_148 i 9 (N (23 + 13 * i + 9)) (by omega) e9) (cwV 2 hts gX8_drag_X8_of rfl rfl rfl (by decide +kernel) ⟨Nat.le_of_ble_eq_true rfl, Nat.le_of_ble_eq_true rfl⟩) E hA I (k_recv E I (by decide) km_0 rfl) rfl hl.1 rfl (lv_room (Nat.le_of_ble_eq_true rfl)) dX8_drag_155 ⟨Nat.le_of_ble_eq_true rfl, Nat.le_of_ble_eq_true rfl⟩ (fun r_155 σ_155 H locs hp_155 I => ?_)
                        obtain ⟨rfl, rfl⟩ := hp_155
                        refine lv_iconst (v := nI 1) hx hb dX8_drag_158 (by decide) ?_
                        refine lv_icmp_ne (tgt := 195) hx hb dX8_drag_159 (by decide) (fun c_159 => ?_) (fun c_159 => ?_)
                        · have c_159 : ¬ ((N (23 + 13 * i + 9)) = 1) := fun q_ => c_159 ((nI_eq (by omega) (by omega)).mpr q_)
                          refine lv_aload_n hx hb dX8_drag_195 rfl (lv_at hl 3 rfl) ?_
                          refine lv_iload_n hx hb dX8_drag_196 rfl (lv_at hl 4 rfl) ?_
                          refine lv_bipush (v := nI 8) hx hb dX8_drag_197 (by decide) ?_
                          refine lv_aload_n hx hb dX8_drag_199 rfl (lv_at hl 3 rfl) ?_
                          refine lv_iload_n hx hb dX8_drag_200 rfl (lv_at hl 4 rfl) ?_
                          refine lv_bipush (v := nI 8) hx hb dX8_drag_201 (by decide) ?_
                          refine k_calli (k := 0) (As := [.int (nI i), .int (nI 8)]) (rest := [.int (nI 8), .int (nI i), .ref (ad 0)]) ⟨hx, hb, hml, hown, hts⟩ (c_X8_of cy D ad l σ_148 i 8 (N (23 + 13 * i + 8)) (by omega) e8) (cwV 2 hts gX8_drag_X8_of rfl rfl rfl (by decide +kernel) ⟨Nat.le_of_ble_eq_true rfl, Nat.le_of_ble_eq_true rfl⟩) E hA I (k_recv E I (by decide) km_0 rfl) rfl hl.1 rfl (lv_room (Nat.le_of_ble_eq_true rfl)) dX8_drag_203 ⟨Nat.le_of_ble_eq_true rfl, Nat.le_of_ble_eq_true rfl⟩ (fun r_203 σ_203 H locs hp_203 I => ?_)
                          obtain ⟨rfl, rfl⟩ := hp_203
                          refine lv_iconst (v := nI 1) hx hb dX8_drag_206 (by decide) ?_
                          refine lv_iadd hx hb dX8_drag_207 ?_
                          rw [nI_add]
                          refine k_callv (k := 0) (As := [.int (nI i), .int (nI 8), .int (nI ((N (23 + 13 * i + 8)) + 1))]) (rest := []) ⟨hx, hb, hml, hown, hts⟩ (c_X8_put cy D ad l σ_148 i 8 ((nI ((N (23 + 13 * i + 8)) + 1))) (by omega)) (cwV 3 hts gX8_drag_X8_put rfl rfl rfl (by decide +kernel) ⟨Nat.le_of_ble_eq_true rfl, Nat.le_of_ble_eq_true rfl⟩) E hA I (k_recv E I (by decide) km_0 rfl) rfl hl.1 rfl (lv_room (Nat.le_of_ble_eq_true rfl)) dX8_drag_208 ⟨Nat.le_of_ble_eq_true rfl, Nat.le_of_ble_eq_true rfl⟩ (fun σ_208 H locs hp_208 I => ?_)
                          have hM2 := mN_put (k := 23 + 13 * i + 8) (v := N (23 + 13 * i + 8) + 1) hM2 hp_208
                          have hQ := qn_tr hQ (qn_put hp_208)
                          refine lv_iconst (v := nI 0) hx hb dX8_drag_211 (by decide) ?_
                          exact k_iret hx hb hr hlk I dX8_drag_212 (by have hst : pStay N i S = true := (by subst hS; unfold pStay mIn; simp; omega); first | (have hk := drag_m1 hst (by omega); subst hS; exact ⟨by rw [hst]; rfl, mN_same hM2 (fun k _ => hk k), hQ⟩) | (have hk := drag_m2 hst (by omega); subst hS; exact ⟨by rw [hst]; rfl, mN_same hM2 (fun k _ => hk k), hQ⟩))
                        · have c_159 : (N (23 + 13 * i + 9)) = 1 := (nI_eq (by omega) (by omega)).mp c_159
                          have hs2 := hsh.2.2.2.2.1 (by omega)
                          refine lv_aload_n hx hb dX8_drag_162 rfl (lv_at hl 3 rfl) ?_
                          refine lv_iload_n hx hb dX8_drag_163 rfl (lv_at hl 4 rfl) ?_
                          refine lv_bipush (v := nI 10) hx hb dX8_drag_164 (by decide) ?_
                          refine lv_aload_n hx hb dX8_drag_166 rfl (lv_at hl 3 rfl) ?_
                          refine lv_iload_n hx hb dX8_drag_167 rfl (lv_at hl 4 rfl) ?_
                          refine lv_bipush (v := nI 10) hx hb dX8_drag_168 (by decide) ?_
                          refine k_calli (k := 0) (As := [.int (nI i), .int (nI 10)]) (rest := [.int (nI 10), .int (nI i), .ref (ad 0)]) ⟨hx, hb, hml, hown, hts⟩ (c_X8_of cy D ad l σ_148 i 10 (N (23 + 13 * i + 10)) (by omega) e10) (cwV 2 hts gX8_drag_X8_of rfl rfl rfl (by decide +kernel) ⟨Nat.le_of_ble_eq_true rfl, Nat.le_of_ble_eq_true rfl⟩) E hA I (k_recv E I (by decide) km_0 rfl) rfl hl.1 rfl (lv_room (Nat.le_of_ble_eq_true rfl)) dX8_drag_170 ⟨Nat.le_of_ble_eq_true rfl, Nat.le_of_ble_eq_true rfl⟩ (fun r_170 σ_170 H locs hp_170 I => ?_)
                          obtain ⟨rfl, rfl⟩ := hp_170
                          refine lv_iload_n hx hb dX8_drag_173 rfl (lv_at hl 2 rfl) ?_
                          refine lv_iadd hx hb dX8_drag_174 ?_
                          refine lv_topi (fun t_175 et_175 => ?_)
                          have et_175 : t_175 = nI (mX S (N (23 + 13 * i + 10))) := et_175.trans (by subst hS; first | (rw [sb_m1 (by omega)]; exact congrArg nI (by unfold mX; simp)) | exact congrArg nI (by unfold mX; simp))
                          subst et_175
                          refine k_callv (k := 0) (As := [.int (nI i), .int (nI 10), .int (nI (mX S (N (23 + 13 * i + 10))))]) (rest := []) ⟨hx, hb, hml, hown, hts⟩ (c_X8_put cy D ad l σ_148 i 10 ((nI (mX S (N (23 + 13 * i + 10))))) (by omega)) (cwV 3 hts gX8_drag_X8_put rfl rfl rfl (by decide +kernel) ⟨Nat.le_of_ble_eq_true rfl, Nat.le_of_ble_eq_true rfl⟩) E hA I (k_recv E I (by decide) km_0 rfl) rfl hl.1 rfl (lv_room (Nat.le_of_ble_eq_true rfl)) dX8_drag_175 ⟨Nat.le_of_ble_eq_true rfl, Nat.le_of_ble_eq_true rfl⟩ (fun σ_175 H locs hp_175 I => ?_)
                          have hM2 := mN_put (k := 23 + 13 * i + 10) (v := mX S (N (23 + 13 * i + 10))) hM2 hp_175
                          have hQ := qn_tr hQ (qn_put hp_175)
                          have e8 : σ_175 1 (23 + 13 * i + 8) = nI (N (23 + 13 * i + 8)) := by rw [hp_175, va_up_self, pk_un (by omega)]; exact e8
                          have e11 : σ_175 1 (23 + 13 * i + 11) = nI (N (23 + 13 * i + 11)) := by rw [hp_175, va_up_self, pk_un (by omega)]; exact e11
                          refine lv_aload_n hx hb dX8_drag_178 rfl (lv_at hl 3 rfl) ?_
                          refine lv_iload_n hx hb dX8_drag_179 rfl (lv_at hl 4 rfl) ?_
                          refine lv_bipush (v := nI 11) hx hb dX8_drag_180 (by decide) ?_
                          refine lv_aload_n hx hb dX8_drag_182 rfl (lv_at hl 3 rfl) ?_
                          refine lv_iload_n hx hb dX8_drag_183 rfl (lv_at hl 4 rfl) ?_
                          refine lv_bipush (v := nI 11) hx hb dX8_drag_184 (by decide) ?_
                          refine k_calli (k := 0) (As := [.int (nI i), .int (nI 11)]) (rest := [.int (nI 11), .int (nI i), .ref (ad 0)]) ⟨hx, hb, hml, hown, hts⟩ (c_X8_of cy D ad l σ_175 i 11 (N (23 + 13 * i + 11)) (by omega) e11) (cwV 2 hts gX8_drag_X8_of rfl rfl rfl (by decide +kernel) ⟨Nat.le_of_ble_eq_true rfl, Nat.le_of_ble_eq_true rfl⟩) E hA I (k_recv E I (by decide) km_0 rfl) rfl hl.1 rfl (lv_room (Nat.le_of_ble_eq_true rfl)) dX8_drag_186 ⟨Nat.le_of_ble_eq_true rfl, Nat.le_of_ble_eq_true rfl⟩ (fun r_186 σ_186 H locs hp_186 I => ?_)
                          obtain ⟨rfl, rfl⟩ := hp_186
                          refine lv_iload hx hb dX8_drag_189 (lv_at hl 1 rfl) ?_
                          refine lv_iadd hx hb dX8_drag_191 ?_
                          rw [nI_add]
                          refine lv_topi (fun t_192 et_192 => ?_)
                          have et_192 : t_192 = nI (mY S (N (23 + 13 * i + 11))) := et_192.trans (by subst hS; first | (rw [sb_m1 (by omega)]; exact congrArg nI (by unfold mY; simp)) | exact congrArg nI (by unfold mY; simp))
                          subst et_192
                          refine k_callv (k := 0) (As := [.int (nI i), .int (nI 11), .int (nI (mY S (N (23 + 13 * i + 11))))]) (rest := []) ⟨hx, hb, hml, hown, hts⟩ (c_X8_put cy D ad l σ_175 i 11 ((nI (mY S (N (23 + 13 * i + 11))))) (by omega)) (cwV 3 hts gX8_drag_X8_put rfl rfl rfl (by decide +kernel) ⟨Nat.le_of_ble_eq_true rfl, Nat.le_of_ble_eq_true rfl⟩) E hA I (k_recv E I (by decide) km_0 rfl) rfl hl.1 rfl (lv_room (Nat.le_of_ble_eq_true rfl)) dX8_drag_192 ⟨Nat.le_of_ble_eq_true rfl, Nat.le_of_ble_eq_true rfl⟩ (fun σ_192 H locs hp_192 I => ?_)
                          have hM2 := mN_put (k := 23 + 13 * i + 11) (v := mY S (N (23 + 13 * i + 11))) hM2 hp_192
                          have hQ := qn_tr hQ (qn_put hp_192)
                          have e8 : σ_192 1 (23 + 13 * i + 8) = nI (N (23 + 13 * i + 8)) := by rw [hp_192, va_up_self, pk_un (by omega)]; exact e8
                          refine lv_aload_n hx hb dX8_drag_195 rfl (lv_at hl 3 rfl) ?_
                          refine lv_iload_n hx hb dX8_drag_196 rfl (lv_at hl 4 rfl) ?_
                          refine lv_bipush (v := nI 8) hx hb dX8_drag_197 (by decide) ?_
                          refine lv_aload_n hx hb dX8_drag_199 rfl (lv_at hl 3 rfl) ?_
                          refine lv_iload_n hx hb dX8_drag_200 rfl (lv_at hl 4 rfl) ?_
                          refine lv_bipush (v := nI 8) hx hb dX8_drag_201 (by decide) ?_
                          refine k_calli (k := 0) (As := [.int (nI i), .int (nI 8)]) (rest := [.int (nI 8), .int (nI i), .ref (ad 0)]) ⟨hx, hb, hml, hown, hts⟩ (c_X8_of cy D ad l σ_192 i 8 (N (23 + 13 * i + 8)) (by omega) e8) (cwV 2 hts gX8_drag_X8_of rfl rfl rfl (by decide +kernel) ⟨Nat.le_of_ble_eq_true rfl, Nat.le_of_ble_eq_true rfl⟩) E hA I (k_recv E I (by decide) km_0 rfl) rfl hl.1 rfl (lv_room (Nat.le_of_ble_eq_true rfl)) dX8_drag_203 ⟨Nat.le_of_ble_eq_true rfl, Nat.le_of_ble_eq_true rfl⟩ (fun r_203 σ_203 H locs hp_203 I => ?_)
                          obtain ⟨rfl, rfl⟩ := hp_203
                          refine lv_iconst (v := nI 1) hx hb dX8_drag_206 (by decide) ?_
                          refine lv_iadd hx hb dX8_drag_207 ?_
                          rw [nI_add]
                          refine k_callv (k := 0) (As := [.int (nI i), .int (nI 8), .int (nI ((N (23 + 13 * i + 8)) + 1))]) (rest := []) ⟨hx, hb, hml, hown, hts⟩ (c_X8_put cy D ad l σ_192 i 8 ((nI ((N (23 + 13 * i + 8)) + 1))) (by omega)) (cwV 3 hts gX8_drag_X8_put rfl rfl rfl (by decide +kernel) ⟨Nat.le_of_ble_eq_true rfl, Nat.le_of_ble_eq_true rfl⟩) E hA I (k_recv E I (by decide) km_0 rfl) rfl hl.1 rfl (lv_room (Nat.le_of_ble_eq_true rfl)) dX8_drag_208 ⟨Nat.le_of_ble_eq_true rfl, Nat.le_of_ble_eq_true rfl⟩ (fun σ_208 H locs hp_208 I => ?_)
                          have hM2 := mN_put (k := 23 + 13 * i + 8) (v := N (23 + 13 * i + 8) + 1) hM2 hp_208
                          have hQ := qn_tr hQ (qn_put hp_208)
                          refine lv_iconst (v := nI 0) hx hb dX8_drag_211 (by decide) ?_
                          exact k_iret hx hb hr hlk I dX8_drag_212 (by have hst : pStay N i S = true := (by subst hS; unfold pStay mIn; simp; omega); first | (have hk := drag_m1 hst (by omega); subst hS; exact ⟨by rw [hst]; rfl, mN_same hM2 (fun k _ => hk k), hQ⟩) | (have hk := drag_m2 hst (by omega); subst hS; exact ⟨by rw [hst]; rfl, mN_same hM2 (fun k _ => hk k), hQ⟩))
                      · exact absurd c_109 (by decide)
                  · refine lv_if_eq (tgt := 104) hx hb dX8_drag_97 (by decide) (fun c_97 => ?_) (fun c_97 => ?_)
                    · refine lv_iconst (v := nI 0) hx hb dX8_drag_104 (by decide) ?_
                      refine lv_istore (lv' := [(5, .int (nI 0)), (4, .int (nI 0)), (3, .int (-1)), (0, .ref (ad 0)), (1, .int (nI i)), (2, .int (nI 3))]) hx hb dX8_drag_105 hl (by decide) rfl (fun ls hl => ?_)
                      refine lv_iload hx hb dX8_drag_107 (lv_at hl 0 rfl) ?_
                      refine lv_if_ne (tgt := 122) hx hb dX8_drag_109 (by decide) (fun c_109 => ?_) (fun c_109 => ?_)
                      · exact absurd c_109 (by decide)
                      · refine lv_aload_n hx hb dX8_drag_112 rfl (lv_at hl 3 rfl) ?_
                        refine lv_iload_n hx hb dX8_drag_113 rfl (lv_at hl 4 rfl) ?_
                        refine lv_bipush (v := nI 7) hx hb dX8_drag_114 (by decide) ?_
                        refine lv_iconst (v := nI 1) hx hb dX8_drag_116 (by decide) ?_
                        refine k_callv (k := 0) (As := [.int (nI i), .int (nI 7), .int (nI 1)]) (rest := []) ⟨hx, hb, hml, hown, hts⟩ (c_X8_put cy D ad l σ i 7 ((nI 1)) (by omega)) (cwV 3 hts gX8_drag_X8_put rfl rfl rfl (by decide +kernel) ⟨Nat.le_of_ble_eq_true rfl, Nat.le_of_ble_eq_true rfl⟩) E hA I (k_recv E I (by decide) km_0 rfl) rfl hl.1 rfl (lv_room (Nat.le_of_ble_eq_true rfl)) dX8_drag_117 ⟨Nat.le_of_ble_eq_true rfl, Nat.le_of_ble_eq_true rfl⟩ (fun σ_117 H locs hp_117 I => ?_)
                        have hst : pStay N i S = false := by subst hS; unfold pStay mIn; simp; omega
                        subst hS
                        refine lv_iconst (v := nI 1) hx hb dX8_drag_120 (by decide) ?_
                        exact k_iret hx hb hr hlk I dX8_drag_121 (⟨by rw [hst]; rfl, by have := mN_put (k := 23 + 13 * i + 7) (v := 1) hM hp_117; unfold pDrag; rw [hst]; exact this, qn_tr hQ (qn_put hp_117)⟩)
                    · exact absurd c_97 (by decide)
            · refine lv_if_eq (tgt := 104) hx hb dX8_drag_61 (by decide) (fun c_61 => ?_) (fun c_61 => ?_)
              · refine lv_iconst (v := nI 0) hx hb dX8_drag_104 (by decide) ?_
                refine lv_istore (lv' := [(5, .int (nI 0)), (4, .int (nI 0)), (3, .int (-1)), (0, .ref (ad 0)), (1, .int (nI i)), (2, .int (nI 3))]) hx hb dX8_drag_105 hl (by decide) rfl (fun ls hl => ?_)
                refine lv_iload hx hb dX8_drag_107 (lv_at hl 0 rfl) ?_
                refine lv_if_ne (tgt := 122) hx hb dX8_drag_109 (by decide) (fun c_109 => ?_) (fun c_109 => ?_)
                · exact absurd c_109 (by decide)
                · refine lv_aload_n hx hb dX8_drag_112 rfl (lv_at hl 3 rfl) ?_
                  refine lv_iload_n hx hb dX8_drag_113 rfl (lv_at hl 4 rfl) ?_
                  refine lv_bipush (v := nI 7) hx hb dX8_drag_114 (by decide) ?_
                  refine lv_iconst (v := nI 1) hx hb dX8_drag_116 (by decide) ?_
                  refine k_callv (k := 0) (As := [.int (nI i), .int (nI 7), .int (nI 1)]) (rest := []) ⟨hx, hb, hml, hown, hts⟩ (c_X8_put cy D ad l σ i 7 ((nI 1)) (by omega)) (cwV 3 hts gX8_drag_X8_put rfl rfl rfl (by decide +kernel) ⟨Nat.le_of_ble_eq_true rfl, Nat.le_of_ble_eq_true rfl⟩) E hA I (k_recv E I (by decide) km_0 rfl) rfl hl.1 rfl (lv_room (Nat.le_of_ble_eq_true rfl)) dX8_drag_117 ⟨Nat.le_of_ble_eq_true rfl, Nat.le_of_ble_eq_true rfl⟩ (fun σ_117 H locs hp_117 I => ?_)
                  have hst : pStay N i S = false := by subst hS; unfold pStay mIn; simp; omega
                  subst hS
                  refine lv_iconst (v := nI 1) hx hb dX8_drag_120 (by decide) ?_
                  exact k_iret hx hb hr hlk I dX8_drag_121 (⟨by rw [hst]; rfl, by have := mN_put (k := 23 + 13 * i + 7) (v := 1) hM hp_117; unfold pDrag; rw [hst]; exact this, qn_tr hQ (qn_put hp_117)⟩)
              · exact absurd c_61 (by decide)
          · exact absurd c_30 (by decide)
        · exact absurd c_21 (by decide)
    · exact absurd c_2 (by decide)
set_option maxHeartbeats 4000000 in
set_option maxRecDepth 100000 in
theorem c_X8_push (cy : Nat → ClassId) (D : va_G) (ad : Nat → Nat) (l : Launch) (σ : Nat → Nat → Int32) (N : Nat → Nat) (P : Nat → Nat → Nat) (np : Nat) (T : Nat → Nat) (nt : Nat) (hC : rM σ (N, P, np, T, nt)) : kMv 6 ad (kcM cy ad) cy D l yX8_push wsX8_push ({ frames := 0, cells := 0, slots := 0, locals := 0 }) [.ref (ad 0)] σ (fun σ' => rM σ' (N, pushP P np N, min (np + 1) 6, T, nt)) := by
  obtain ⟨hM, hN, hPs, hT⟩ := id hC
  have h5 := hN.1
  refine k_entry (cc := cX8_push) (maxL := 2) (ret := none) (by decide) rfl (Nat.le_of_ble_eq_true rfl) ?_
  intro p e s m below meth c hx hb hr hml hown hts hlk E I ls hl
  have hA : ∀ q, s.heap.size ≤ q → kA 6 ad s.heap.size q := fun q h => Or.inr h
  have hown : s.vm.findClass RX8 = some m.cls := hown
  have hl : lv_has ls 2 [(0, .ref (ad 0))] := hl
  have iX8 : ∀ w ∈ u_ws RX8 TX8 13, w ∈ wsX8_push := fun w h => List.mem_cons_of_mem _ (List.mem_append_right _ h)
  refine lv_aload_n hx hb dX8_push_0 rfl (lv_at hl 0 rfl) ?_
  refine k_get (C := RX8) (T := TX8) (N := 13) (v := .int (nI np)) hx hb hts hown E I iX8 (0) (by decide) (r0 := σ 0) rfl km_0 rfl 3 (by decide) (List.mem_of_getElem? (i := 1) rfl) (congrArg (fun z => some (Value.int z)) hPs.1) dX8_push_1 ?_
  refine lv_bipush (v := nI 6) hx hb dX8_push_4 (by decide) ?_
  refine lv_icmp_ne (tgt := 49) hx hb dX8_push_6 (by decide) (fun c_6 => ?_) (fun c_6 => ?_)
  · have c_6 : ¬ (np = 6) := fun q_ => c_6 ((nI_eq (by omega) (by omega)).mpr q_)
    have hn6 : np < 6 := by have := hPs.2.1; omega
    refine lv_iconst (v := nI 0) hx hb dX8_push_49 (by decide) ?_
    refine lv_istore_n (lv' := [(1, .int (nI 0)), (0, .ref (ad 0))]) hx hb dX8_push_50 rfl hl (by decide) rfl (fun ls hl => ?_)
    have LP_51 : ∀ (fuel_51 : Nat) (k : Nat) (R : Nat → Int32) (S : Nat → Int32) (U : Nat → Int32) (q : Nat), 88 - k < fuel_51 → (k ≤ 88) → (q + 1 = min (np + 1) 6) → (U 3 = nI q) → (∀ j, j ≠ 3 → U j = σ 0 j) → (∀ t, t < q → (∀ k, k < 88 → S (88 * t + k) = nI (pushP P np N t k)) ∧ nOk (pushP P np N t)) → (∀ j, j < 88 * q → R j = S j) → (∀ j, j < k → R (88 * q + j) = nI (N j)) → ∀ (H : Heap) (locs : List Loc), kI 6 ad (kcM cy ad) D (kA 6 ad s.heap.size) s.heap (va_up (va_up σ 3 (R)) 0 (U)) H locs → ∀ ls : Array Slot, lv_has ls 2 [(0, .ref (ad 0)), (1, .int (nI k))] → W p l e (headSpec wsX8_push ({ frames := 0, cells := 0, slots := 0, locals := 0 })).room s m [.ref (ad 0)].toArray below meth c H locs 0 0 (MQ below (va_Qv (fun σ' => rM σ' (N, pushP P np N, min (np + 1) 6, T, nt)) (kB 6 ad (kcM cy ad) D) (kA 6 ad s.heap.size)) [.ref (ad 0)].toArray s 0 0 (kA 6 ad s.heap.size)) (F0 m 51 ls []) := by
      intro fuel_51
      induction fuel_51 with
      | zero => intro k R S U q hf_51; exact absurd hf_51 (Nat.not_lt_zero _)
      | succ fuel_51 ih_51 =>
        intro k R S U q hf_51 hk4 hq u3 hU hS r1 r2 H locs I ls hl
        refine lv_iload_n hx hb dX8_push_51 rfl (lv_at hl 1 rfl) ?_
        refine lv_bipush (v := nI 88) hx hb dX8_push_52 (by decide) ?_
        refine lv_icmp_ge (tgt := 83) hx hb dX8_push_54 (by decide) (fun c_54 => ?_) (fun c_54 => ?_)
        · have c_54 : 88 ≤ k := (nI_leI (by omega) (by omega)).mp c_54
          have hke : k = 88 := by omega
          refine lv_aload_n hx hb dX8_push_83 rfl (lv_at hl 0 rfl) ?_
          refine lv_dup hx hb dX8_push_84 rfl ?_
          refine k_get (C := RX8) (T := TX8) (N := 13) (v := .int (nI q)) hx hb hts hown E I iX8 (0) (by decide) (r0 := (U)) rfl km_0 rfl 3 (by decide) (List.mem_of_getElem? (i := 1) rfl) (congrArg (fun z => some (Value.int z)) u3) dX8_push_85 ?_
          refine lv_iconst (v := nI 1) hx hb dX8_push_88 (by decide) ?_
          refine lv_iadd hx hb dX8_push_89 ?_
          rw [nI_add]
          refine k_put (C := RX8) (T := TX8) (N := 13) (ty0 := tyX8) (ty := .int) (v := .int (nI (q + 1))) hx hb hts hown E I iX8 tyX8_ok nmX8 (0) (by decide) (r0 := (U)) rfl km_0 rfl 3 (by decide) (List.mem_of_getElem? (i := 1) rfl) rfl rfl rfl rfl (Nat.le_of_ble_eq_true rfl) (upd U 3 (nI (q + 1))) rfl (σ2 := va_up (va_up σ 3 (R)) 0 (upd U 3 (nI (q + 1)))) (bx_uu _ _ _ _) dX8_push_90 (fun H locs I => ?_)
          exact k_vret hx hb hr hlk I dX8_push_93 (push_m hC hq hU hS r1 (fun j hj => r2 j (by omega)))
        · have c_54 : ¬ (88 ≤ k) := fun q_ => c_54 ((nI_leI (by omega) (by omega)).mpr q_)
          refine lv_aload_n hx hb dX8_push_57 rfl (lv_at hl 0 rfl) ?_
          refine k_get (C := RX8) (T := TX8) (N := 13) (v := .ref (ad 3)) hx hb hts hown E I iX8 (0) (by decide) (r0 := (U)) rfl km_0 rfl 2 (by decide) (List.mem_of_getElem? (i := 2) rfl) rfl dX8_push_58 ?_
          refine lv_bipush (v := nI 88) hx hb dX8_push_61 (by decide) ?_
          refine lv_aload_n hx hb dX8_push_63 rfl (lv_at hl 0 rfl) ?_
          refine k_get (C := RX8) (T := TX8) (N := 13) (v := .int (nI q)) hx hb hts hown E I iX8 (0) (by decide) (r0 := (U)) rfl km_0 rfl 3 (by decide) (List.mem_of_getElem? (i := 1) rfl) (congrArg (fun z => some (Value.int z)) u3) dX8_push_64 ?_
          refine lv_imul hx hb dX8_push_67 ?_
          rw [pk_mul]
          refine lv_iload_n hx hb dX8_push_68 rfl (lv_at hl 1 rfl) ?_
          refine lv_iadd hx hb dX8_push_69 ?_
          rw [nI_add]
          refine lv_aload_n hx hb dX8_push_70 rfl (lv_at hl 0 rfl) ?_
          refine k_get (C := RX8) (T := TX8) (N := 13) (v := .ref (ad 1)) hx hb hts hown E I iX8 (0) (by decide) (r0 := (U)) rfl km_0 rfl 0 (by decide) (List.mem_of_getElem? (i := 3) rfl) rfl dX8_push_71 ?_
          refine lv_iload_n hx hb dX8_push_74 rfl (lv_at hl 1 rfl) ?_
          refine k_iald hx hb E I (1) (by decide) (r0 := σ 1) rfl km_1 (vp_in_nI (by omega) (by decide)) dX8_push_75 ?_
          rw [nI_clamp (by omega)]
          rw [hM k (by omega)]
          refine k_iast hx hb E I (3) (by decide) (r0 := (R)) rfl (fun _ => km_3) (vp_in_nI (by omega) (by decide)) (σ2 := va_up (va_up σ 3 (upd ((R)) ((88 * q) + k) (nI (N k)))) 0 (U)) (by rw [nI_clamp (by omega)]; exact (kup_3 _ _ _ _ (by omega))) dX8_push_76 (fun H locs I => ?_)
          refine lv_iinc (v := nI (k + 1)) (lv' := [(1, .int (nI (k + 1))), (0, .ref (ad 0))]) hx hb dX8_push_77 hl (k := 1) rfl (show nI k + Int32.ofInt 1 = nI (k + 1) from nI_add k 1) (by decide) rfl (fun ls hl => ?_)
          refine lv_goto (tgt := 51) hx hb dX8_push_80 (by decide) ?_
          exact ih_51 (k + 1) _ S U q (by omega) (by omega) (hq) (u3) (hU) (hS) (fun j hj => by rw [pk_un (by omega)]; exact r1 j hj) (fun j hj => by by_cases e_ : j = k; (rw [e_, pk_us]); (rw [pk_un (by omega)]; exact r2 j (by omega))) _ _ I _ (lv_sub hl [1, 0] rfl)
    exact LP_51 _ 0 (σ 3) (σ 3) (σ 0) np (Nat.lt_succ_self _) (Nat.zero_le _) (by omega) (hPs.1) (fun _ _ => rfl) (push_A hC hn6) (fun _ _ => rfl) (fun j hj => absurd hj (Nat.not_lt_zero j)) _ _ (by rw [kup_id, kup_id]; exact I) _ (lv_sub hl [1, 0] rfl)
  · have c_6 : np = 6 := (nI_eq (by omega) (by omega)).mp c_6
    have hn6 : np = 6 := by omega
    refine lv_iconst (v := nI 0) hx hb dX8_push_9 (by decide) ?_
    refine lv_istore_n (lv' := [(1, .int (nI 0)), (0, .ref (ad 0))]) hx hb dX8_push_10 rfl hl (by decide) rfl (fun ls hl => ?_)
    have LP_11 : ∀ (fuel_11 : Nat) (k : Nat) (R : Nat → Int32), 440 - k < fuel_11 → (k ≤ 440) → (∀ j, j < k → R j = σ 3 (j + 88)) → (∀ j, k ≤ j → R j = σ 3 j) → ∀ (H : Heap) (locs : List Loc), kI 6 ad (kcM cy ad) D (kA 6 ad s.heap.size) s.heap (va_up σ 3 (R)) H locs → ∀ ls : Array Slot, lv_has ls 2 [(0, .ref (ad 0)), (1, .int (nI k))] → W p l e (headSpec wsX8_push ({ frames := 0, cells := 0, slots := 0, locals := 0 })).room s m [.ref (ad 0)].toArray below meth c H locs 0 0 (MQ below (va_Qv (fun σ' => rM σ' (N, pushP P np N, min (np + 1) 6, T, nt)) (kB 6 ad (kcM cy ad) D) (kA 6 ad s.heap.size)) [.ref (ad 0)].toArray s 0 0 (kA 6 ad s.heap.size)) (F0 m 11 ls []) := by
      intro fuel_11
      induction fuel_11 with
      | zero => intro k R hf_11; exact absurd hf_11 (Nat.not_lt_zero _)
      | succ fuel_11 ih_11 =>
        intro k R hf_11 hk4 r1 r2 H locs I ls hl
        refine lv_iload_n hx hb dX8_push_11 rfl (lv_at hl 1 rfl) ?_
        refine lv_sipush (v := nI 440) hx hb dX8_push_12 (by decide) ?_
        refine lv_icmp_ge (tgt := 39) hx hb dX8_push_15 (by decide) (fun c_15 => ?_) (fun c_15 => ?_)
        · have c_15 : 440 ≤ k := (nI_leI (by omega) (by omega)).mp c_15
          have hke : k = 440 := by omega
          refine lv_aload_n hx hb dX8_push_39 rfl (lv_at hl 0 rfl) ?_
          refine lv_dup hx hb dX8_push_40 rfl ?_
          refine k_get (C := RX8) (T := TX8) (N := 13) (v := .int (nI np)) hx hb hts hown E I iX8 (0) (by decide) (r0 := σ 0) rfl km_0 rfl 3 (by decide) (List.mem_of_getElem? (i := 1) rfl) (congrArg (fun z => some (Value.int z)) hPs.1) dX8_push_41 ?_
          refine lv_iconst (v := nI 1) hx hb dX8_push_44 (by decide) ?_
          refine lv_isub hx hb dX8_push_45 ?_
          refine lv_topi (fun t_46 et_46 => ?_)
          have et_46 : t_46 = nI (np - 1) := et_46.trans (pk_sub (by omega))
          subst et_46
          refine k_put (C := RX8) (T := TX8) (N := 13) (ty0 := tyX8) (ty := .int) (v := .int (nI (np - 1))) hx hb hts hown E I iX8 tyX8_ok nmX8 (0) (by decide) (r0 := σ 0) rfl km_0 rfl 3 (by decide) (List.mem_of_getElem? (i := 1) rfl) rfl rfl rfl rfl (Nat.le_of_ble_eq_true rfl) (upd (σ 0) 3 (nI (np - 1))) rfl (σ2 := va_up (va_up σ 3 (R)) 0 (upd (σ 0) 3 (nI (np - 1)))) rfl dX8_push_46 (fun H locs I => ?_)
          refine lv_iconst (v := nI 0) hx hb dX8_push_49 (by decide) ?_
          refine lv_istore_n (lv' := [(1, .int (nI 0)), (0, .ref (ad 0))]) hx hb dX8_push_50 rfl hl (by decide) rfl (fun ls hl => ?_)
          have LP_51 : ∀ (fuel_51 : Nat) (k : Nat) (R : Nat → Int32) (S : Nat → Int32) (U : Nat → Int32) (q : Nat), 88 - k < fuel_51 → (k ≤ 88) → (q + 1 = min (np + 1) 6) → (U 3 = nI q) → (∀ j, j ≠ 3 → U j = σ 0 j) → (∀ t, t < q → (∀ k, k < 88 → S (88 * t + k) = nI (pushP P np N t k)) ∧ nOk (pushP P np N t)) → (∀ j, j < 88 * q → R j = S j) → (∀ j, j < k → R (88 * q + j) = nI (N j)) → ∀ (H : Heap) (locs : List Loc), kI 6 ad (kcM cy ad) D (kA 6 ad s.heap.size) s.heap (va_up (va_up σ 3 (R)) 0 (U)) H locs → ∀ ls : Array Slot, lv_has ls 2 [(0, .ref (ad 0)), (1, .int (nI k))] → W p l e (headSpec wsX8_push ({ frames := 0, cells := 0, slots := 0, locals := 0 })).room s m [.ref (ad 0)].toArray below meth c H locs 0 0 (MQ below (va_Qv (fun σ' => rM σ' (N, pushP P np N, min (np + 1) 6, T, nt)) (kB 6 ad (kcM cy ad) D) (kA 6 ad s.heap.size)) [.ref (ad 0)].toArray s 0 0 (kA 6 ad s.heap.size)) (F0 m 51 ls []) := by
            intro fuel_51
            induction fuel_51 with
            | zero => intro k R S U q hf_51; exact absurd hf_51 (Nat.not_lt_zero _)
            | succ fuel_51 ih_51 =>
              intro k R S U q hf_51 hk4 hq u3 hU hS r1 r2 H locs I ls hl
              refine lv_iload_n hx hb dX8_push_51 rfl (lv_at hl 1 rfl) ?_
              refine lv_bipush (v := nI 88) hx hb dX8_push_52 (by decide) ?_
              refine lv_icmp_ge (tgt := 83) hx hb dX8_push_54 (by decide) (fun c_54 => ?_) (fun c_54 => ?_)
              · have c_54 : 88 ≤ k := (nI_leI (by omega) (by omega)).mp c_54
                have hke : k = 88 := by omega
                refine lv_aload_n hx hb dX8_push_83 rfl (lv_at hl 0 rfl) ?_
                refine lv_dup hx hb dX8_push_84 rfl ?_
                refine k_get (C := RX8) (T := TX8) (N := 13) (v := .int (nI q)) hx hb hts hown E I iX8 (0) (by decide) (r0 := (U)) rfl km_0 rfl 3 (by decide) (List.mem_of_getElem? (i := 1) rfl) (congrArg (fun z => some (Value.int z)) u3) dX8_push_85 ?_
                refine lv_iconst (v := nI 1) hx hb dX8_push_88 (by decide) ?_
                refine lv_iadd hx hb dX8_push_89 ?_
                rw [nI_add]
                refine k_put (C := RX8) (T := TX8) (N := 13) (ty0 := tyX8) (ty := .int) (v := .int (nI (q + 1))) hx hb hts hown E I iX8 tyX8_ok nmX8 (0) (by decide) (r0 := (U)) rfl km_0 rfl 3 (by decide) (List.mem_of_getElem? (i := 1) rfl) rfl rfl rfl rfl (Nat.le_of_ble_eq_true rfl) (upd U 3 (nI (q + 1))) rfl (σ2 := va_up (va_up σ 3 (R)) 0 (upd U 3 (nI (q + 1)))) (bx_uu _ _ _ _) dX8_push_90 (fun H locs I => ?_)
                exact k_vret hx hb hr hlk I dX8_push_93 (push_m hC hq hU hS r1 (fun j hj => r2 j (by omega)))
              · have c_54 : ¬ (88 ≤ k) := fun q_ => c_54 ((nI_leI (by omega) (by omega)).mpr q_)
                refine lv_aload_n hx hb dX8_push_57 rfl (lv_at hl 0 rfl) ?_
                refine k_get (C := RX8) (T := TX8) (N := 13) (v := .ref (ad 3)) hx hb hts hown E I iX8 (0) (by decide) (r0 := (U)) rfl km_0 rfl 2 (by decide) (List.mem_of_getElem? (i := 2) rfl) rfl dX8_push_58 ?_
                refine lv_bipush (v := nI 88) hx hb dX8_push_61 (by decide) ?_
                refine lv_aload_n hx hb dX8_push_63 rfl (lv_at hl 0 rfl) ?_
                refine k_get (C := RX8) (T := TX8) (N := 13) (v := .int (nI q)) hx hb hts hown E I iX8 (0) (by decide) (r0 := (U)) rfl km_0 rfl 3 (by decide) (List.mem_of_getElem? (i := 1) rfl) (congrArg (fun z => some (Value.int z)) u3) dX8_push_64 ?_
                refine lv_imul hx hb dX8_push_67 ?_
                rw [pk_mul]
                refine lv_iload_n hx hb dX8_push_68 rfl (lv_at hl 1 rfl) ?_
                refine lv_iadd hx hb dX8_push_69 ?_
                rw [nI_add]
                refine lv_aload_n hx hb dX8_push_70 rfl (lv_at hl 0 rfl) ?_
                refine k_get (C := RX8) (T := TX8) (N := 13) (v := .ref (ad 1)) hx hb hts hown E I iX8 (0) (by decide) (r0 := (U)) rfl km_0 rfl 0 (by decide) (List.mem_of_getElem? (i := 3) rfl) rfl dX8_push_71 ?_
                refine lv_iload_n hx hb dX8_push_74 rfl (lv_at hl 1 rfl) ?_
                refine k_iald hx hb E I (1) (by decide) (r0 := σ 1) rfl km_1 (vp_in_nI (by omega) (by decide)) dX8_push_75 ?_
                rw [nI_clamp (by omega)]
                rw [hM k (by omega)]
                refine k_iast hx hb E I (3) (by decide) (r0 := (R)) rfl (fun _ => km_3) (vp_in_nI (by omega) (by decide)) (σ2 := va_up (va_up σ 3 (upd ((R)) ((88 * q) + k) (nI (N k)))) 0 (U)) (by rw [nI_clamp (by omega)]; exact (kup_3 _ _ _ _ (by omega))) dX8_push_76 (fun H locs I => ?_)
                refine lv_iinc (v := nI (k + 1)) (lv' := [(1, .int (nI (k + 1))), (0, .ref (ad 0))]) hx hb dX8_push_77 hl (k := 1) rfl (show nI k + Int32.ofInt 1 = nI (k + 1) from nI_add k 1) (by decide) rfl (fun ls hl => ?_)
                refine lv_goto (tgt := 51) hx hb dX8_push_80 (by decide) ?_
                exact ih_51 (k + 1) _ S U q (by omega) (by omega) (hq) (u3) (hU) (hS) (fun j hj => by rw [pk_un (by omega)]; exact r1 j hj) (fun j hj => by by_cases e_ : j = k; (rw [e_, pk_us]); (rw [pk_un (by omega)]; exact r2 j (by omega))) _ _ I _ (lv_sub hl [1, 0] rfl)
          exact LP_51 _ 0 _ R _ 5 (Nat.lt_succ_self _) (Nat.zero_le _) (by omega) (by rw [pk_us, hn6]) (fun j hj => pk_un hj) (push_B hC hn6 (fun j hj => r1 j (by omega))) (fun _ _ => rfl) (fun j hj => absurd hj (Nat.not_lt_zero j)) _ _ I _ (lv_sub hl [1, 0] rfl)
        · have c_15 : ¬ (440 ≤ k) := fun q_ => c_15 ((nI_leI (by omega) (by omega)).mpr q_)
          refine lv_aload_n hx hb dX8_push_18 rfl (lv_at hl 0 rfl) ?_
          refine k_get (C := RX8) (T := TX8) (N := 13) (v := .ref (ad 3)) hx hb hts hown E I iX8 (0) (by decide) (r0 := σ 0) rfl km_0 rfl 2 (by decide) (List.mem_of_getElem? (i := 2) rfl) rfl dX8_push_19 ?_
          refine lv_iload_n hx hb dX8_push_22 rfl (lv_at hl 1 rfl) ?_
          refine lv_aload_n hx hb dX8_push_23 rfl (lv_at hl 0 rfl) ?_
          refine k_get (C := RX8) (T := TX8) (N := 13) (v := .ref (ad 3)) hx hb hts hown E I iX8 (0) (by decide) (r0 := σ 0) rfl km_0 rfl 2 (by decide) (List.mem_of_getElem? (i := 2) rfl) rfl dX8_push_24 ?_
          refine lv_iload_n hx hb dX8_push_27 rfl (lv_at hl 1 rfl) ?_
          refine lv_bipush (v := nI 88) hx hb dX8_push_28 (by decide) ?_
          refine lv_iadd hx hb dX8_push_30 ?_
          rw [nI_add]
          refine k_iald hx hb E I (3) (by decide) (r0 := (R)) rfl km_3 (vp_in_nI (by omega) (by decide)) dX8_push_31 ?_
          rw [nI_clamp (by omega)]
          refine k_iast hx hb E I (3) (by decide) (r0 := (R)) rfl (fun _ => km_3) (vp_in_nI (by omega) (by decide)) (σ2 := va_up σ 3 (upd ((R)) k ((R) (k + 88)))) (by rw [nI_clamp (by omega)]; exact (bx_uu _ _ _ _)) dX8_push_32 (fun H locs I => ?_)
          refine lv_iinc (v := nI (k + 1)) (lv' := [(1, .int (nI (k + 1))), (0, .ref (ad 0))]) hx hb dX8_push_33 hl (k := 1) rfl (show nI k + Int32.ofInt 1 = nI (k + 1) from nI_add k 1) (by decide) rfl (fun ls hl => ?_)
          refine lv_goto (tgt := 11) hx hb dX8_push_36 (by decide) ?_
          exact ih_11 (k + 1) _ (by omega) (by omega) (fun j hj => by by_cases e_ : j = k; (rw [e_, pk_us]; exact r2 _ (by omega)); (rw [pk_un e_]; exact r1 j (by omega))) (fun j hj => by rw [pk_un (by omega)]; exact r2 j (by omega)) _ _ I _ (lv_sub hl [1, 0] rfl)
    exact LP_11 _ 0 (σ 3) (Nat.lt_succ_self _) (Nat.zero_le _) (fun j hj => absurd hj (Nat.not_lt_zero j)) (fun _ _ => rfl) _ _ (by rw [kup_id]; exact I) _ (lv_sub hl [1, 0] rfl)
set_option maxHeartbeats 4000000 in
set_option maxRecDepth 100000 in
theorem c_X8_undo (cy : Nat → ClassId) (D : va_G) (ad : Nat → Nat) (l : Launch) (σ : Nat → Nat → Int32) (N : Nat → Nat) (P : Nat → Nat → Nat) (np : Nat) (T : Nat → Nat) (nt : Nat) (hC : rM σ (N, P, np, T, nt)) : kMi 6 ad (kcM cy ad) cy D l yX8_undo wsX8_undo ({ frames := 0, cells := 0, slots := 0, locals := 0 }) [.ref (ad 0)] σ (fun r σ' => r = (sUndo (N, P, np, T, nt)).1 ∧ rM σ' (sUndo (N, P, np, T, nt)).2) := by
  obtain ⟨hM, hN, hPs, hT⟩ := id hC
  have h5 := hN.1
  refine k_entry (cc := cX8_undo) (maxL := 2) (ret := (some .int)) (by decide) rfl (Nat.le_of_ble_eq_true rfl) ?_
  intro p e s m below meth c hx hb hr hml hown hts hlk E I ls hl
  have hA : ∀ q, s.heap.size ≤ q → kA 6 ad s.heap.size q := fun q h => Or.inr h
  have hown : s.vm.findClass RX8 = some m.cls := hown
  have hl : lv_has ls 2 [(0, .ref (ad 0))] := hl
  have iX8 : ∀ w ∈ u_ws RX8 TX8 13, w ∈ wsX8_undo := fun w h => List.mem_cons_of_mem _ (List.mem_append_right _ h)
  refine lv_aload_n hx hb dX8_undo_0 rfl (lv_at hl 0 rfl) ?_
  refine k_get (C := RX8) (T := TX8) (N := 13) (v := .int (nI np)) hx hb hts hown E I iX8 (0) (by decide) (r0 := σ 0) rfl km_0 rfl 3 (by decide) (List.mem_of_getElem? (i := 1) rfl) (congrArg (fun z => some (Value.int z)) hPs.1) dX8_undo_1 ?_
  refine lv_if_ne (tgt := 10) hx hb dX8_undo_4 (by decide) (fun c_4 => ?_) (fun c_4 => ?_)
  · have c_4 : ¬ (np = 0) := fun q_ => c_4 ((nI_eq (by omega) (by decide)).mpr q_)
    have h0 : 0 < np := by omega
    have hn6 := hPs.2.1
    refine lv_aload_n hx hb dX8_undo_10 rfl (lv_at hl 0 rfl) ?_
    refine lv_dup hx hb dX8_undo_11 rfl ?_
    refine k_get (C := RX8) (T := TX8) (N := 13) (v := .int (nI np)) hx hb hts hown E I iX8 (0) (by decide) (r0 := σ 0) rfl km_0 rfl 3 (by decide) (List.mem_of_getElem? (i := 1) rfl) (congrArg (fun z => some (Value.int z)) hPs.1) dX8_undo_12 ?_
    refine lv_iconst (v := nI 1) hx hb dX8_undo_15 (by decide) ?_
    refine lv_isub hx hb dX8_undo_16 ?_
    refine lv_topi (fun t_17 et_17 => ?_)
    have et_17 : t_17 = nI (np - 1) := et_17.trans (pk_sub (by omega))
    subst et_17
    refine k_put (C := RX8) (T := TX8) (N := 13) (ty0 := tyX8) (ty := .int) (v := .int (nI (np - 1))) hx hb hts hown E I iX8 tyX8_ok nmX8 (0) (by decide) (r0 := σ 0) rfl km_0 rfl 3 (by decide) (List.mem_of_getElem? (i := 1) rfl) rfl rfl rfl rfl (Nat.le_of_ble_eq_true rfl) (upd (σ 0) 3 (nI (np - 1))) rfl (σ2 := va_up σ 0 (upd (σ 0) 3 (nI (np - 1)))) rfl dX8_undo_17 (fun H locs I => ?_)
    refine lv_iconst (v := nI 0) hx hb dX8_undo_20 (by decide) ?_
    refine lv_istore_n (lv' := [(1, .int (nI 0)), (0, .ref (ad 0))]) hx hb dX8_undo_21 rfl hl (by decide) rfl (fun ls hl => ?_)
    have LP_22 : ∀ (fuel_22 : Nat) (k : Nat) (R : Nat → Int32), 88 - k < fuel_22 → (k ≤ 88) → (∀ j, j < k → R j = nI (P (np - 1) j)) → ∀ (H : Heap) (locs : List Loc), kI 6 ad (kcM cy ad) D (kA 6 ad s.heap.size) s.heap (va_up (va_up σ 0 (upd (σ 0) 3 (nI (np - 1)))) 1 (R)) H locs → ∀ ls : Array Slot, lv_has ls 2 [(0, .ref (ad 0)), (1, .int (nI k))] → W p l e (headSpec wsX8_undo ({ frames := 0, cells := 0, slots := 0, locals := 0 })).room s m [.ref (ad 0)].toArray below meth c H locs 0 0 (MQ below (va_Qi (fun r σ' => r = (sUndo (N, P, np, T, nt)).1 ∧ rM σ' (sUndo (N, P, np, T, nt)).2) (kB 6 ad (kcM cy ad) D) (kA 6 ad s.heap.size)) [.ref (ad 0)].toArray s 0 0 (kA 6 ad s.heap.size)) (F0 m 22 ls []) := by
      intro fuel_22
      induction fuel_22 with
      | zero => intro k R hf_22; exact absurd hf_22 (Nat.not_lt_zero _)
      | succ fuel_22 ih_22 =>
        intro k R hf_22 hk4 r1 H locs I ls hl
        refine lv_iload_n hx hb dX8_undo_22 rfl (lv_at hl 1 rfl) ?_
        refine lv_bipush (v := nI 88) hx hb dX8_undo_23 (by decide) ?_
        refine lv_icmp_ge (tgt := 54) hx hb dX8_undo_25 (by decide) (fun c_25 => ?_) (fun c_25 => ?_)
        · have c_25 : 88 ≤ k := (nI_leI (by omega) (by omega)).mp c_25
          refine lv_aload_n hx hb dX8_undo_54 rfl (lv_at hl 0 rfl) ?_
          refine k_get (C := RX8) (T := TX8) (N := 13) (v := .int (nI (np - 1))) hx hb hts hown E I iX8 (0) (by decide) (r0 := (upd (σ 0) 3 (nI (np - 1)))) rfl km_0 rfl 3 (by decide) (List.mem_of_getElem? (i := 1) rfl) rfl dX8_undo_55 ?_
          exact k_iret hx hb hr hlk I dX8_undo_58 (by rw [sUndo, if_neg (by omega)]; exact ⟨rfl, undo_m hC h0 (fun j hj => r1 j (by omega))⟩)
        · have c_25 : ¬ (88 ≤ k) := fun q_ => c_25 ((nI_leI (by omega) (by omega)).mpr q_)
          refine lv_aload_n hx hb dX8_undo_28 rfl (lv_at hl 0 rfl) ?_
          refine k_get (C := RX8) (T := TX8) (N := 13) (v := .ref (ad 1)) hx hb hts hown E I iX8 (0) (by decide) (r0 := (upd (σ 0) 3 (nI (np - 1)))) rfl km_0 rfl 0 (by decide) (List.mem_of_getElem? (i := 2) rfl) rfl dX8_undo_29 ?_
          refine lv_iload_n hx hb dX8_undo_32 rfl (lv_at hl 1 rfl) ?_
          refine lv_aload_n hx hb dX8_undo_33 rfl (lv_at hl 0 rfl) ?_
          refine k_get (C := RX8) (T := TX8) (N := 13) (v := .ref (ad 3)) hx hb hts hown E I iX8 (0) (by decide) (r0 := (upd (σ 0) 3 (nI (np - 1)))) rfl km_0 rfl 2 (by decide) (List.mem_of_getElem? (i := 3) rfl) rfl dX8_undo_34 ?_
          refine lv_bipush (v := nI 88) hx hb dX8_undo_37 (by decide) ?_
          refine lv_aload_n hx hb dX8_undo_39 rfl (lv_at hl 0 rfl) ?_
          refine k_get (C := RX8) (T := TX8) (N := 13) (v := .int (nI (np - 1))) hx hb hts hown E I iX8 (0) (by decide) (r0 := (upd (σ 0) 3 (nI (np - 1)))) rfl km_0 rfl 3 (by decide) (List.mem_of_getElem? (i := 1) rfl) rfl dX8_undo_40 ?_
          refine lv_imul hx hb dX8_undo_43 ?_
          rw [pk_mul]
          refine lv_iload_n hx hb dX8_undo_44 rfl (lv_at hl 1 rfl) ?_
          refine lv_iadd hx hb dX8_undo_45 ?_
          rw [nI_add]
          refine k_iald hx hb E I (3) (by decide) (r0 := σ 3) rfl km_3 (vp_in_nI (by omega) (by decide)) dX8_undo_46 ?_
          rw [nI_clamp (by omega)]
          rw [(hPs.2.2 (np - 1) (by omega)).1 k (by omega)]
          refine k_iast hx hb E I (1) (by decide) (r0 := (R)) rfl (fun _ => km_1) (vp_in_nI (by omega) (by decide)) (σ2 := va_up (va_up σ 0 (upd (σ 0) 3 (nI (np - 1)))) 1 (upd ((R)) k (nI (P (np - 1) k)))) (by rw [nI_clamp (by omega)]; exact (bx_uu _ _ _ _)) dX8_undo_47 (fun H locs I => ?_)
          refine lv_iinc (v := nI (k + 1)) (lv' := [(1, .int (nI (k + 1))), (0, .ref (ad 0))]) hx hb dX8_undo_48 hl (k := 1) rfl (show nI k + Int32.ofInt 1 = nI (k + 1) from nI_add k 1) (by decide) rfl (fun ls hl => ?_)
          refine lv_goto (tgt := 22) hx hb dX8_undo_51 (by decide) ?_
          exact ih_22 (k + 1) _ (by omega) (by omega) (fun j hj => by by_cases e_ : j = k; (rw [e_, pk_us]); (rw [pk_un e_]; exact r1 j (by omega))) _ _ I _ (lv_sub hl [1, 0] rfl)
    exact LP_22 _ 0 (σ 1) (Nat.lt_succ_self _) (Nat.zero_le _) (fun j hj => absurd hj (Nat.not_lt_zero j)) _ _ (by rw [show va_up (va_up σ 0 (upd (σ 0) 3 (nI (np - 1)))) 1 (σ 1) = va_up σ 0 (upd (σ 0) 3 (nI (np - 1))) from kup_id _ 1]; exact I) _ (lv_sub hl [1, 0] rfl)
  · have c_4 : np = 0 := (nI_eq (by omega) (by decide)).mp c_4
    refine lv_bipush (v := (-2 : Int32)) hx hb dX8_undo_7 (by decide) ?_
    exact k_iret hx hb hr hlk I dX8_undo_9 (by rw [sUndo, if_pos (by omega)]; exact ⟨rfl, hC⟩)
set_option maxHeartbeats 4000000 in
set_option maxRecDepth 100000 in
theorem c_X8_write (cy : Nat → ClassId) (D : va_G) (ad : Nat → Nat) (l : Launch) (σ : Nat → Nat → Int32) (x : Int32) (N : Nat → Nat) (P : Nat → Nat → Nat) (np : Nat) (T : Nat → Nat) (nt : Nat) (hC : rM σ (N, P, np, T, nt)) : kMi 6 ad (kcM cy ad) cy D l yX8_write wsX8_write ({ frames := 1, cells := 0, slots := 0, locals := 22 }) [.ref (ad 0), .int x] σ (fun r σ' => r = (sWrite x (N, P, np, T, nt)).1 ∧ rM σ' (sWrite x (N, P, np, T, nt)).2) := by
  obtain ⟨hM, hN, hPs, hT⟩ := id hC
  have h5 := hN.1
  have hnt := hT.2.1
  refine k_entry (cc := cX8_write) (maxL := 2) (ret := (some .int)) (by decide) rfl (Nat.le_of_ble_eq_true rfl) ?_
  intro p e s m below meth c hx hb hr hml hown hts hlk E I ls hl
  have hA : ∀ q, s.heap.size ≤ q → kA 6 ad s.heap.size q := fun q h => Or.inr h
  have hown : s.vm.findClass RX8 = some m.cls := hown
  have hl : lv_has ls 2 [(0, .ref (ad 0)), (1, .int x)] := hl
  have iX8 : ∀ w ∈ u_ws RX8 TX8 13, w ∈ wsX8_write := fun w h => List.mem_cons_of_mem _ (List.mem_append_right _ h)
  refine lv_iload_n hx hb dX8_write_0 rfl (lv_at hl 1 rfl) ?_
  refine lv_bipush (v := nI 32) hx hb dX8_write_1 (by decide) ?_
  refine lv_bipush (v := nI 126) hx hb dX8_write_3 (by decide) ?_
  refine k_calls (As := [.int x, .int (nI 32), .int (nI 126)]) (rest := []) ⟨hx, hb, hml, hown, hts⟩ (c_X8_in l (x) (nI 32) (nI 126)) (va_cwS 3 hts gX8_write_X8_in rfl rfl rfl (by decide +kernel) ⟨Nat.le_of_ble_eq_true rfl, Nat.le_of_ble_eq_true rfl⟩) rfl hl.1 rfl (lv_room (Nat.le_of_ble_eq_true rfl)) dX8_write_5 ⟨Nat.le_of_ble_eq_true rfl, Nat.le_of_ble_eq_true rfl⟩ (fun r_5 hp_5 => ?_)
  rcases hp_5 with ⟨rfl, g1⟩ | ⟨rfl, g1⟩
  · obtain ⟨k, k1, k2, rfl⟩ := kT_in (by decide) (by decide) g1
    refine lv_if_ne (tgt := 13) hx hb dX8_write_8 (by decide) (fun c_8 => ?_) (fun c_8 => ?_)
    · refine lv_aload_n hx hb dX8_write_13 rfl (lv_at hl 0 rfl) ?_
      refine k_get (C := RX8) (T := TX8) (N := 13) (v := .int (nI nt)) hx hb hts hown E I iX8 (0) (by decide) (r0 := σ 0) rfl km_0 rfl 5 (by decide) (List.mem_of_getElem? (i := 1) rfl) (congrArg (fun z => some (Value.int z)) hT.1) dX8_write_14 ?_
      refine lv_sipush (v := nI 200) hx hb dX8_write_17 (by decide) ?_
      refine lv_icmp_ne (tgt := 26) hx hb dX8_write_20 (by decide) (fun c_20 => ?_) (fun c_20 => ?_)
      · have c_20 : ¬ (nt = 200) := fun q_ => c_20 ((nI_eq (by omega) (by omega)).mpr q_)
        refine lv_aload_n hx hb dX8_write_26 rfl (lv_at hl 0 rfl) ?_
        refine k_get (C := RX8) (T := TX8) (N := 13) (v := .ref (ad 4)) hx hb hts hown E I iX8 (0) (by decide) (r0 := σ 0) rfl km_0 rfl 4 (by decide) (List.mem_of_getElem? (i := 2) rfl) rfl dX8_write_27 ?_
        refine lv_aload_n hx hb dX8_write_30 rfl (lv_at hl 0 rfl) ?_
        refine k_get (C := RX8) (T := TX8) (N := 13) (v := .int (nI nt)) hx hb hts hown E I iX8 (0) (by decide) (r0 := σ 0) rfl km_0 rfl 5 (by decide) (List.mem_of_getElem? (i := 1) rfl) (congrArg (fun z => some (Value.int z)) hT.1) dX8_write_31 ?_
        refine lv_iload_n hx hb dX8_write_34 rfl (lv_at hl 1 rfl) ?_
        refine k_iast hx hb E I (4) (by decide) (r0 := σ 4) rfl (fun _ => km_4) (vp_in_nI (by omega) (by decide)) (σ2 := va_up σ 4 (upd (σ 4) nt (nI k))) (by rw [nI_clamp (by omega)]) dX8_write_35 (fun H locs I => ?_)
        refine lv_aload_n hx hb dX8_write_36 rfl (lv_at hl 0 rfl) ?_
        refine lv_dup hx hb dX8_write_37 rfl ?_
        refine k_get (C := RX8) (T := TX8) (N := 13) (v := .int (nI nt)) hx hb hts hown E I iX8 (0) (by decide) (r0 := σ 0) rfl km_0 rfl 5 (by decide) (List.mem_of_getElem? (i := 1) rfl) (congrArg (fun z => some (Value.int z)) hT.1) dX8_write_38 ?_
        refine lv_iconst (v := nI 1) hx hb dX8_write_41 (by decide) ?_
        refine lv_iadd hx hb dX8_write_42 ?_
        rw [nI_add]
        refine k_put (C := RX8) (T := TX8) (N := 13) (ty0 := tyX8) (ty := .int) (v := .int (nI (nt + 1))) hx hb hts hown E I iX8 tyX8_ok nmX8 (0) (by decide) (r0 := σ 0) rfl km_0 rfl 5 (by decide) (List.mem_of_getElem? (i := 1) rfl) rfl rfl rfl rfl (Nat.le_of_ble_eq_true rfl) (upd (σ 0) 5 (nI (nt + 1))) rfl (σ2 := va_up (va_up σ 4 (upd (σ 4) nt (nI k))) 0 (upd (σ 0) 5 (nI (nt + 1)))) rfl dX8_write_43 (fun H locs I => ?_)
        refine lv_aload_n hx hb dX8_write_46 rfl (lv_at hl 0 rfl) ?_
        refine k_get (C := RX8) (T := TX8) (N := 13) (v := .int (nI (nt + 1))) hx hb hts hown E I iX8 (0) (by decide) (r0 := (upd (σ 0) 5 (nI (nt + 1)))) rfl km_0 rfl 5 (by decide) (List.mem_of_getElem? (i := 1) rfl) rfl dX8_write_47 ?_
        exact k_iret hx hb hr hlk I dX8_write_50 (by rw [sWrite, if_pos g1, if_neg (by omega), nI_clamp (show k < 2 ^ 31 by omega)]; exact ⟨rfl, write_m hC (by omega) ⟨k1, k2⟩⟩)
      · have c_20 : nt = 200 := (nI_eq (by omega) (by omega)).mp c_20
        refine lv_bipush (v := (-3 : Int32)) hx hb dX8_write_23 (by decide) ?_
        exact k_iret hx hb hr hlk I dX8_write_25 (by rw [sWrite, if_pos g1, if_pos (by omega)]; exact ⟨rfl, hC⟩)
    · exact absurd c_8 (by decide)
  · refine lv_if_ne (tgt := 13) hx hb dX8_write_8 (by decide) (fun c_8 => ?_) (fun c_8 => ?_)
    · exact absurd c_8 (by decide)
    · refine lv_iconst (v := (-1 : Int32)) hx hb dX8_write_11 (by decide) ?_
      exact k_iret hx hb hr hlk I dX8_write_12 (by rw [sWrite, if_neg g1]; exact ⟨rfl, hC⟩)
set_option maxHeartbeats 4000000 in
set_option maxRecDepth 100000 in
theorem c_X8_wipe (cy : Nat → ClassId) (D : va_G) (ad : Nat → Nat) (l : Launch) (σ : Nat → Nat → Int32) (N : Nat → Nat) (P : Nat → Nat → Nat) (np : Nat) (T : Nat → Nat) (nt : Nat) (hC : rM σ (N, P, np, T, nt)) : kMi 6 ad (kcM cy ad) cy D l yX8_wipe wsX8_wipe ({ frames := 0, cells := 0, slots := 0, locals := 0 }) [.ref (ad 0)] σ (fun r σ' => r = (sWipe (N, P, np, T, nt)).1 ∧ rM σ' (sWipe (N, P, np, T, nt)).2) := by
  obtain ⟨hM, hN, hPs, hT⟩ := id hC
  have h5 := hN.1
  refine k_entry (cc := cX8_wipe) (maxL := 2) (ret := (some .int)) (by decide) rfl (Nat.le_of_ble_eq_true rfl) ?_
  intro p e s m below meth c hx hb hr hml hown hts hlk E I ls hl
  have hA : ∀ q, s.heap.size ≤ q → kA 6 ad s.heap.size q := fun q h => Or.inr h
  have hown : s.vm.findClass RX8 = some m.cls := hown
  have hl : lv_has ls 2 [(0, .ref (ad 0))] := hl
  have iX8 : ∀ w ∈ u_ws RX8 TX8 13, w ∈ wsX8_wipe := fun w h => List.mem_cons_of_mem _ (List.mem_append_right _ h)
  refine lv_aload_n hx hb dX8_wipe_0 rfl (lv_at hl 0 rfl) ?_
  refine k_get (C := RX8) (T := TX8) (N := 13) (v := .int (nI nt)) hx hb hts hown E I iX8 (0) (by decide) (r0 := σ 0) rfl km_0 rfl 5 (by decide) (List.mem_of_getElem? (i := 1) rfl) (congrArg (fun z => some (Value.int z)) hT.1) dX8_wipe_1 ?_
  refine lv_istore_n (lv' := [(1, .int (nI nt)), (0, .ref (ad 0))]) hx hb dX8_wipe_4 rfl hl (by decide) rfl (fun ls hl => ?_)
  refine lv_aload_n hx hb dX8_wipe_5 rfl (lv_at hl 1 rfl) ?_
  refine lv_iconst (v := nI 0) hx hb dX8_wipe_6 (by decide) ?_
  refine k_put (C := RX8) (T := TX8) (N := 13) (ty0 := tyX8) (ty := .int) (v := .int (nI 0)) hx hb hts hown E I iX8 tyX8_ok nmX8 (0) (by decide) (r0 := σ 0) rfl km_0 rfl 5 (by decide) (List.mem_of_getElem? (i := 1) rfl) rfl rfl rfl rfl (Nat.le_of_ble_eq_true rfl) (upd (σ 0) 5 (nI 0)) rfl (σ2 := va_up σ 0 (upd (σ 0) 5 (nI 0))) rfl dX8_wipe_7 (fun H locs I => ?_)
  refine lv_iload_n hx hb dX8_wipe_10 rfl (lv_at hl 0 rfl) ?_
  exact k_iret hx hb hr hlk I dX8_wipe_11 (⟨rfl, wipe_m hC⟩)
set_option maxHeartbeats 4000000 in
set_option maxRecDepth 100000 in
theorem c_X8_links (cy : Nat → ClassId) (D : va_G) (ad : Nat → Nat) (l : Launch) (σ : Nat → Nat → Int32) (s0 a n : Int32) (N : Nat → Nat) (P : Nat → Nat → Nat) (np : Nat) (T : Nat → Nat) (nt : Nat) (hC : rM σ (N, P, np, T, nt)) : kMi 6 ad (kcM cy ad) cy D l yX8_links wsX8_links ({ frames := 2, cells := 0, slots := 0, locals := 43 }) [.ref (ad 0), .int s0, .int a, .int n] σ (fun r σ' => r = (sLinks s0 a n (N, P, np, T, nt)).1 ∧ rM σ' (sLinks s0 a n (N, P, np, T, nt)).2) := by
  obtain ⟨hM, hN, hPs, hT⟩ := id hC
  have h5 := hN.1
  refine k_entry (cc := cX8_links) (maxL := 6) (ret := (some .int)) (by decide) rfl (Nat.le_of_ble_eq_true rfl) ?_
  intro p e s m below meth c hx hb hr hml hown hts hlk E I ls hl
  have hA : ∀ q, s.heap.size ≤ q → kA 6 ad s.heap.size q := fun q h => Or.inr h
  have hown : s.vm.findClass RX8 = some m.cls := hown
  have hl : lv_has ls 6 [(0, .ref (ad 0)), (1, .int s0), (2, .int a), (3, .int n)] := hl
  refine lv_aload_n hx hb dX8_links_0 rfl (lv_at hl 0 rfl) ?_
  refine lv_iload_n hx hb dX8_links_1 rfl (lv_at hl 1 rfl) ?_
  refine k_calli (k := 0) (As := [.int s0]) (rest := []) ⟨hx, hb, hml, hown, hts⟩ (c_X8_isShip cy D ad l σ (s0) N hN hM) (cwV 1 hts gX8_links_X8_isShip rfl rfl rfl (by decide +kernel) ⟨Nat.le_of_ble_eq_true rfl, Nat.le_of_ble_eq_true rfl⟩) E hA I (k_recv E I (by decide) km_0 rfl) rfl hl.1 rfl (lv_room (Nat.le_of_ble_eq_true rfl)) dX8_links_2 ⟨Nat.le_of_ble_eq_true rfl, Nat.le_of_ble_eq_true rfl⟩ (fun r_2 σ_2 H locs hp_2 I => ?_)
  obtain ⟨hk_, rfl⟩ := hp_2
  rcases hk_ with ⟨rfl, g0⟩ | ⟨rfl, hnS⟩
  · obtain ⟨i, hi, rfl⟩ := okS_of g0
    have H_i : i < 5 := by omega
    have hsh := hN.2.2 i hi
    unfold nSh at hsh
    have hoS := okS_nI hi h5.2.2.2.1
    have hcl : (nI i).toNatClampNeg = i := nI_clamp (by omega)
    refine lv_if_eq (tgt := 27) hx hb dX8_links_5 (by decide) (fun c_5 => ?_) (fun c_5 => ?_)
    · exact absurd c_5 (by decide)
    · refine lv_iload_n hx hb dX8_links_8 rfl (lv_at hl 2 rfl) ?_
      refine lv_iconst (v := nI 0) hx hb dX8_links_9 (by decide) ?_
      refine lv_iconst (v := nI 1) hx hb dX8_links_10 (by decide) ?_
      refine k_calls (As := [.int a, .int (nI 0), .int (nI 1)]) (rest := []) ⟨hx, hb, hml, hown, hts⟩ (c_X8_in l (a) (nI 0) (nI 1)) (va_cwS 3 hts gX8_links_X8_in rfl rfl rfl (by decide +kernel) ⟨Nat.le_of_ble_eq_true rfl, Nat.le_of_ble_eq_true rfl⟩) rfl hl.1 rfl (lv_room (Nat.le_of_ble_eq_true rfl)) dX8_links_11 ⟨Nat.le_of_ble_eq_true rfl, Nat.le_of_ble_eq_true rfl⟩ (fun r_11 hp_11 => ?_)
      rcases hp_11 with ⟨rfl, g1⟩ | ⟨rfl, g1⟩
      · obtain ⟨w, w1, w2, rfl⟩ := kT_in (by decide) (by decide) g1
        refine lv_if_eq (tgt := 27) hx hb dX8_links_14 (by decide) (fun c_14 => ?_) (fun c_14 => ?_)
        · exact absurd c_14 (by decide)
        · refine lv_iload_n hx hb dX8_links_17 rfl (lv_at hl 3 rfl) ?_
          refine lv_iconst (v := nI 1) hx hb dX8_links_18 (by decide) ?_
          refine lv_bipush (v := nI 60) hx hb dX8_links_19 (by decide) ?_
          refine k_calls (As := [.int n, .int (nI 1), .int (nI 60)]) (rest := []) ⟨hx, hb, hml, hown, hts⟩ (c_X8_in l (n) (nI 1) (nI 60)) (va_cwS 3 hts gX8_links_X8_in rfl rfl rfl (by decide +kernel) ⟨Nat.le_of_ble_eq_true rfl, Nat.le_of_ble_eq_true rfl⟩) rfl hl.1 rfl (lv_room (Nat.le_of_ble_eq_true rfl)) dX8_links_21 ⟨Nat.le_of_ble_eq_true rfl, Nat.le_of_ble_eq_true rfl⟩ (fun r_21 hp_21 => ?_)
          rcases hp_21 with ⟨rfl, g2⟩ | ⟨rfl, g2⟩
          · obtain ⟨k, k1, k2, rfl⟩ := kT_in (by decide) (by decide) g2
            refine lv_if_ne (tgt := 29) hx hb dX8_links_24 (by decide) (fun c_24 => ?_) (fun c_24 => ?_)
            · refine lv_aload_n hx hb dX8_links_29 rfl (lv_at hl 0 rfl) ?_
              refine lv_iload_n hx hb dX8_links_30 rfl (lv_at hl 1 rfl) ?_
              refine lv_bipush (v := nI 7) hx hb dX8_links_31 (by decide) ?_
              refine k_calli (k := 0) (As := [.int (nI i), .int (nI 7)]) (rest := []) ⟨hx, hb, hml, hown, hts⟩ (c_X8_of cy D ad l σ i (7) (N (23 + 13 * i + 7)) (by omega) (hM _ (by omega))) (cwV 2 hts gX8_links_X8_of rfl rfl rfl (by decide +kernel) ⟨Nat.le_of_ble_eq_true rfl, Nat.le_of_ble_eq_true rfl⟩) E hA I (k_recv E I (by decide) km_0 rfl) rfl hl.1 rfl (lv_room (Nat.le_of_ble_eq_true rfl)) dX8_links_33 ⟨Nat.le_of_ble_eq_true rfl, Nat.le_of_ble_eq_true rfl⟩ (fun r_33 σ_33 H locs hp_33 I => ?_)
              obtain ⟨rfl, rfl⟩ := hp_33
              refine lv_iconst (v := nI 1) hx hb dX8_links_36 (by decide) ?_
              refine lv_icmp_eq (tgt := 55) hx hb dX8_links_37 (by decide) (fun c_37 => ?_) (fun c_37 => ?_)
              · have c_37 : (N (23 + 13 * i + 7)) = 1 := (nI_eq (by omega) (by omega)).mp c_37
                refine lv_bipush (v := (-2 : Int32)) hx hb dX8_links_55 (by decide) ?_
                exact k_iret hx hb hr hlk I dX8_links_57 (by rw [sLinks_ok hoS hcl (Nat.zero_le _) w2 k1 k2, gLinks, if_pos (by omega)]; exact ⟨rfl, hC⟩)
              · have c_37 : ¬ ((N (23 + 13 * i + 7)) = 1) := fun q_ => c_37 ((nI_eq (by omega) (by omega)).mpr q_)
                refine lv_iload_n hx hb dX8_links_40 rfl (lv_at hl 2 rfl) ?_
                refine lv_iconst (v := nI 1) hx hb dX8_links_41 (by decide) ?_
                refine lv_icmp_ne (tgt := 58) hx hb dX8_links_42 (by decide) (fun c_42 => ?_) (fun c_42 => ?_)
                · have c_42 : ¬ (w = 1) := fun q_ => c_42 ((nI_eq (by omega) (by omega)).mpr q_)
                  refine lv_aload_n hx hb dX8_links_58 rfl (lv_at hl 0 rfl) ?_
                  refine k_callv (k := 0) (As := []) (rest := []) ⟨hx, hb, hml, hown, hts⟩ (c_X8_push cy D ad l σ N P np T nt hC) (cwV 0 hts gX8_links_X8_push rfl rfl rfl (by decide +kernel) ⟨Nat.le_of_ble_eq_true rfl, Nat.le_of_ble_eq_true rfl⟩) E hA I (k_recv E I (by decide) km_0 rfl) rfl hl.1 rfl (lv_room (Nat.le_of_ble_eq_true rfl)) dX8_links_59 ⟨Nat.le_of_ble_eq_true rfl, Nat.le_of_ble_eq_true rfl⟩ (fun σ_59 H locs hp_59 I => ?_)
                  have hC1 := hp_59
                  have hM := hC1.1
                  have hQ := qn_rf σ_59
                  refine lv_iload_n hx hb dX8_links_62 rfl (lv_at hl 2 rfl) ?_
                  refine lv_if_ne (tgt := 70) hx hb dX8_links_63 (by decide) (fun c_63 => ?_) (fun c_63 => ?_)
                  · have c_63 : ¬ (w = 0) := fun q_ => c_63 ((nI_eq (by omega) (by decide)).mpr q_)
                    refine lv_bipush (v := nI 12) hx hb dX8_links_70 (by decide) ?_
                    refine lv_istore (lv' := [(4, .int (nI 12)), (0, .ref (ad 0)), (1, .int (nI i)), (2, .int (nI w)), (3, .int (nI k))]) hx hb dX8_links_72 hl (by decide) rfl (fun ls hl => ?_)
                    refine lv_aload_n hx hb dX8_links_74 rfl (lv_at hl 1 rfl) ?_
                    refine lv_iload_n hx hb dX8_links_75 rfl (lv_at hl 2 rfl) ?_
                    refine lv_iload hx hb dX8_links_76 (lv_at hl 0 rfl) ?_
                    refine k_calli (k := 0) (As := [.int (nI i), .int (nI 12)]) (rest := []) ⟨hx, hb, hml, hown, hts⟩ (c_X8_of cy D ad l σ_59 i (12) (N (23 + 13 * i + 12)) (by omega) (hM _ (by omega))) (cwV 2 hts gX8_links_X8_of rfl rfl rfl (by decide +kernel) ⟨Nat.le_of_ble_eq_true rfl, Nat.le_of_ble_eq_true rfl⟩) E hA I (k_recv E I (by decide) km_0 rfl) rfl hl.1 rfl (lv_room (Nat.le_of_ble_eq_true rfl)) dX8_links_78 ⟨Nat.le_of_ble_eq_true rfl, Nat.le_of_ble_eq_true rfl⟩ (fun r_78 σ_78 H locs hp_78 I => ?_)
                    obtain ⟨rfl, rfl⟩ := hp_78
                    refine lv_istore (lv' := [(5, .int (nI (N (23 + 13 * i + 12)))), (4, .int (nI 12)), (0, .ref (ad 0)), (1, .int (nI i)), (2, .int (nI w)), (3, .int (nI k))]) hx hb dX8_links_81 hl (by decide) rfl (fun ls hl => ?_)
                    refine lv_aload_n hx hb dX8_links_83 rfl (lv_at hl 2 rfl) ?_
                    refine lv_iload_n hx hb dX8_links_84 rfl (lv_at hl 3 rfl) ?_
                    refine lv_iload hx hb dX8_links_85 (lv_at hl 1 rfl) ?_
                    refine lv_iload_n hx hb dX8_links_87 rfl (lv_at hl 5 rfl) ?_
                    refine k_callv (k := 0) (As := [.int (nI i), .int (nI 12), .int (nI k)]) (rest := []) ⟨hx, hb, hml, hown, hts⟩ (c_X8_put cy D ad l σ_59 i (12) ((nI k)) (by omega)) (cwV 3 hts gX8_links_X8_put rfl rfl rfl (by decide +kernel) ⟨Nat.le_of_ble_eq_true rfl, Nat.le_of_ble_eq_true rfl⟩) E hA I (k_recv E I (by decide) km_0 rfl) rfl hl.1 rfl (lv_room (Nat.le_of_ble_eq_true rfl)) dX8_links_88 ⟨Nat.le_of_ble_eq_true rfl, Nat.le_of_ble_eq_true rfl⟩ (fun σ_88 H locs hp_88 I => ?_)
                    refine lv_iload hx hb dX8_links_91 (lv_at hl 0 rfl) ?_
                    exact k_iret hx hb hr hlk I dX8_links_93 (by rw [sLinks_ok hoS hcl (Nat.zero_le _) w2 k1 k2, gLinks, if_neg (by omega)]; first | (have hw0 : w = 0 := (by omega); subst hw0; exact ⟨rfl, rM_qn hC1 (qn_put hp_88) (mN_put hM hp_88) (nOk_links hN hi (Or.inl rfl) k1 k2).1⟩) | (have hw1 : w = 1 := (by omega); subst hw1; exact ⟨rfl, rM_qn hC1 (qn_put hp_88) (mN_put hM hp_88) (nOk_links hN hi (Or.inr ⟨rfl, by omega⟩) k1 k2).1⟩))
                  · have c_63 : w = 0 := (nI_eq (by omega) (by decide)).mp c_63
                    refine lv_iconst (v := nI 2) hx hb dX8_links_66 (by decide) ?_
                    refine lv_goto (tgt := 72) hx hb dX8_links_67 (by decide) ?_
                    refine lv_istore (lv' := [(4, .int (nI 2)), (0, .ref (ad 0)), (1, .int (nI i)), (2, .int (nI w)), (3, .int (nI k))]) hx hb dX8_links_72 hl (by decide) rfl (fun ls hl => ?_)
                    refine lv_aload_n hx hb dX8_links_74 rfl (lv_at hl 1 rfl) ?_
                    refine lv_iload_n hx hb dX8_links_75 rfl (lv_at hl 2 rfl) ?_
                    refine lv_iload hx hb dX8_links_76 (lv_at hl 0 rfl) ?_
                    refine k_calli (k := 0) (As := [.int (nI i), .int (nI 2)]) (rest := []) ⟨hx, hb, hml, hown, hts⟩ (c_X8_of cy D ad l σ_59 i (2) (N (23 + 13 * i + 2)) (by omega) (hM _ (by omega))) (cwV 2 hts gX8_links_X8_of rfl rfl rfl (by decide +kernel) ⟨Nat.le_of_ble_eq_true rfl, Nat.le_of_ble_eq_true rfl⟩) E hA I (k_recv E I (by decide) km_0 rfl) rfl hl.1 rfl (lv_room (Nat.le_of_ble_eq_true rfl)) dX8_links_78 ⟨Nat.le_of_ble_eq_true rfl, Nat.le_of_ble_eq_true rfl⟩ (fun r_78 σ_78 H locs hp_78 I => ?_)
                    obtain ⟨rfl, rfl⟩ := hp_78
                    refine lv_istore (lv' := [(5, .int (nI (N (23 + 13 * i + 2)))), (4, .int (nI 2)), (0, .ref (ad 0)), (1, .int (nI i)), (2, .int (nI w)), (3, .int (nI k))]) hx hb dX8_links_81 hl (by decide) rfl (fun ls hl => ?_)
                    refine lv_aload_n hx hb dX8_links_83 rfl (lv_at hl 2 rfl) ?_
                    refine lv_iload_n hx hb dX8_links_84 rfl (lv_at hl 3 rfl) ?_
                    refine lv_iload hx hb dX8_links_85 (lv_at hl 1 rfl) ?_
                    refine lv_iload_n hx hb dX8_links_87 rfl (lv_at hl 5 rfl) ?_
                    refine k_callv (k := 0) (As := [.int (nI i), .int (nI 2), .int (nI k)]) (rest := []) ⟨hx, hb, hml, hown, hts⟩ (c_X8_put cy D ad l σ_59 i (2) ((nI k)) (by omega)) (cwV 3 hts gX8_links_X8_put rfl rfl rfl (by decide +kernel) ⟨Nat.le_of_ble_eq_true rfl, Nat.le_of_ble_eq_true rfl⟩) E hA I (k_recv E I (by decide) km_0 rfl) rfl hl.1 rfl (lv_room (Nat.le_of_ble_eq_true rfl)) dX8_links_88 ⟨Nat.le_of_ble_eq_true rfl, Nat.le_of_ble_eq_true rfl⟩ (fun σ_88 H locs hp_88 I => ?_)
                    refine lv_iload hx hb dX8_links_91 (lv_at hl 0 rfl) ?_
                    exact k_iret hx hb hr hlk I dX8_links_93 (by rw [sLinks_ok hoS hcl (Nat.zero_le _) w2 k1 k2, gLinks, if_neg (by omega)]; first | (have hw0 : w = 0 := (by omega); subst hw0; exact ⟨rfl, rM_qn hC1 (qn_put hp_88) (mN_put hM hp_88) (nOk_links hN hi (Or.inl rfl) k1 k2).1⟩) | (have hw1 : w = 1 := (by omega); subst hw1; exact ⟨rfl, rM_qn hC1 (qn_put hp_88) (mN_put hM hp_88) (nOk_links hN hi (Or.inr ⟨rfl, by omega⟩) k1 k2).1⟩))
                · have c_42 : w = 1 := (nI_eq (by omega) (by omega)).mp c_42
                  refine lv_aload_n hx hb dX8_links_45 rfl (lv_at hl 0 rfl) ?_
                  refine lv_iload_n hx hb dX8_links_46 rfl (lv_at hl 1 rfl) ?_
                  refine lv_bipush (v := nI 9) hx hb dX8_links_47 (by decide) ?_
                  refine k_calli (k := 0) (As := [.int (nI i), .int (nI 9)]) (rest := []) ⟨hx, hb, hml, hown, hts⟩ (c_X8_of cy D ad l σ i (9) (N (23 + 13 * i + 9)) (by omega) (hM _ (by omega))) (cwV 2 hts gX8_links_X8_of rfl rfl rfl (by decide +kernel) ⟨Nat.le_of_ble_eq_true rfl, Nat.le_of_ble_eq_true rfl⟩) E hA I (k_recv E I (by decide) km_0 rfl) rfl hl.1 rfl (lv_room (Nat.le_of_ble_eq_true rfl)) dX8_links_49 ⟨Nat.le_of_ble_eq_true rfl, Nat.le_of_ble_eq_true rfl⟩ (fun r_49 σ_49 H locs hp_49 I => ?_)
                  obtain ⟨rfl, rfl⟩ := hp_49
                  refine lv_if_ne (tgt := 58) hx hb dX8_links_52 (by decide) (fun c_52 => ?_) (fun c_52 => ?_)
                  · have c_52 : ¬ ((N (23 + 13 * i + 9)) = 0) := fun q_ => c_52 ((nI_eq (by omega) (by decide)).mpr q_)
                    refine lv_aload_n hx hb dX8_links_58 rfl (lv_at hl 0 rfl) ?_
                    refine k_callv (k := 0) (As := []) (rest := []) ⟨hx, hb, hml, hown, hts⟩ (c_X8_push cy D ad l σ N P np T nt hC) (cwV 0 hts gX8_links_X8_push rfl rfl rfl (by decide +kernel) ⟨Nat.le_of_ble_eq_true rfl, Nat.le_of_ble_eq_true rfl⟩) E hA I (k_recv E I (by decide) km_0 rfl) rfl hl.1 rfl (lv_room (Nat.le_of_ble_eq_true rfl)) dX8_links_59 ⟨Nat.le_of_ble_eq_true rfl, Nat.le_of_ble_eq_true rfl⟩ (fun σ_59 H locs hp_59 I => ?_)
                    have hC1 := hp_59
                    have hM := hC1.1
                    have hQ := qn_rf σ_59
                    refine lv_iload_n hx hb dX8_links_62 rfl (lv_at hl 2 rfl) ?_
                    refine lv_if_ne (tgt := 70) hx hb dX8_links_63 (by decide) (fun c_63 => ?_) (fun c_63 => ?_)
                    · have c_63 : ¬ (w = 0) := fun q_ => c_63 ((nI_eq (by omega) (by decide)).mpr q_)
                      refine lv_bipush (v := nI 12) hx hb dX8_links_70 (by decide) ?_
                      refine lv_istore (lv' := [(4, .int (nI 12)), (0, .ref (ad 0)), (1, .int (nI i)), (2, .int (nI w)), (3, .int (nI k))]) hx hb dX8_links_72 hl (by decide) rfl (fun ls hl => ?_)
                      refine lv_aload_n hx hb dX8_links_74 rfl (lv_at hl 1 rfl) ?_
                      refine lv_iload_n hx hb dX8_links_75 rfl (lv_at hl 2 rfl) ?_
                      refine lv_iload hx hb dX8_links_76 (lv_at hl 0 rfl) ?_
                      refine k_calli (k := 0) (As := [.int (nI i), .int (nI 12)]) (rest := []) ⟨hx, hb, hml, hown, hts⟩ (c_X8_of cy D ad l σ_59 i (12) (N (23 + 13 * i + 12)) (by omega) (hM _ (by omega))) (cwV 2 hts gX8_links_X8_of rfl rfl rfl (by decide +kernel) ⟨Nat.le_of_ble_eq_true rfl, Nat.le_of_ble_eq_true rfl⟩) E hA I (k_recv E I (by decide) km_0 rfl) rfl hl.1 rfl (lv_room (Nat.le_of_ble_eq_true rfl)) dX8_links_78 ⟨Nat.le_of_ble_eq_true rfl, Nat.le_of_ble_eq_true rfl⟩ (fun r_78 σ_78 H locs hp_78 I => ?_)
                      obtain ⟨rfl, rfl⟩ := hp_78
                      refine lv_istore (lv' := [(5, .int (nI (N (23 + 13 * i + 12)))), (4, .int (nI 12)), (0, .ref (ad 0)), (1, .int (nI i)), (2, .int (nI w)), (3, .int (nI k))]) hx hb dX8_links_81 hl (by decide) rfl (fun ls hl => ?_)
                      refine lv_aload_n hx hb dX8_links_83 rfl (lv_at hl 2 rfl) ?_
                      refine lv_iload_n hx hb dX8_links_84 rfl (lv_at hl 3 rfl) ?_
                      refine lv_iload hx hb dX8_links_85 (lv_at hl 1 rfl) ?_
                      refine lv_iload_n hx hb dX8_links_87 rfl (lv_at hl 5 rfl) ?_
                      refine k_callv (k := 0) (As := [.int (nI i), .int (nI 12), .int (nI k)]) (rest := []) ⟨hx, hb, hml, hown, hts⟩ (c_X8_put cy D ad l σ_59 i (12) ((nI k)) (by omega)) (cwV 3 hts gX8_links_X8_put rfl rfl rfl (by decide +kernel) ⟨Nat.le_of_ble_eq_true rfl, Nat.le_of_ble_eq_true rfl⟩) E hA I (k_recv E I (by decide) km_0 rfl) rfl hl.1 rfl (lv_room (Nat.le_of_ble_eq_true rfl)) dX8_links_88 ⟨Nat.le_of_ble_eq_true rfl, Nat.le_of_ble_eq_true rfl⟩ (fun σ_88 H locs hp_88 I => ?_)
                      refine lv_iload hx hb dX8_links_91 (lv_at hl 0 rfl) ?_
                      exact k_iret hx hb hr hlk I dX8_links_93 (by rw [sLinks_ok hoS hcl (Nat.zero_le _) w2 k1 k2, gLinks, if_neg (by omega)]; first | (have hw0 : w = 0 := (by omega); subst hw0; exact ⟨rfl, rM_qn hC1 (qn_put hp_88) (mN_put hM hp_88) (nOk_links hN hi (Or.inl rfl) k1 k2).1⟩) | (have hw1 : w = 1 := (by omega); subst hw1; exact ⟨rfl, rM_qn hC1 (qn_put hp_88) (mN_put hM hp_88) (nOk_links hN hi (Or.inr ⟨rfl, by omega⟩) k1 k2).1⟩))
                    · have c_63 : w = 0 := (nI_eq (by omega) (by decide)).mp c_63
                      refine lv_iconst (v := nI 2) hx hb dX8_links_66 (by decide) ?_
                      refine lv_goto (tgt := 72) hx hb dX8_links_67 (by decide) ?_
                      refine lv_istore (lv' := [(4, .int (nI 2)), (0, .ref (ad 0)), (1, .int (nI i)), (2, .int (nI w)), (3, .int (nI k))]) hx hb dX8_links_72 hl (by decide) rfl (fun ls hl => ?_)
                      refine lv_aload_n hx hb dX8_links_74 rfl (lv_at hl 1 rfl) ?_
                      refine lv_iload_n hx hb dX8_links_75 rfl (lv_at hl 2 rfl) ?_
                      refine lv_iload hx hb dX8_links_76 (lv_at hl 0 rfl) ?_
                      refine k_calli (k := 0) (As := [.int (nI i), .int (nI 2)]) (rest := []) ⟨hx, hb, hml, hown, hts⟩ (c_X8_of cy D ad l σ_59 i (2) (N (23 + 13 * i + 2)) (by omega) (hM _ (by omega))) (cwV 2 hts gX8_links_X8_of rfl rfl rfl (by decide +kernel) ⟨Nat.le_of_ble_eq_true rfl, Nat.le_of_ble_eq_true rfl⟩) E hA I (k_recv E I (by decide) km_0 rfl) rfl hl.1 rfl (lv_room (Nat.le_of_ble_eq_true rfl)) dX8_links_78 ⟨Nat.le_of_ble_eq_true rfl, Nat.le_of_ble_eq_true rfl⟩ (fun r_78 σ_78 H locs hp_78 I => ?_)
                      obtain ⟨rfl, rfl⟩ := hp_78
                      refine lv_istore (lv' := [(5, .int (nI (N (23 + 13 * i + 2)))), (4, .int (nI 2)), (0, .ref (ad 0)), (1, .int (nI i)), (2, .int (nI w)), (3, .int (nI k))]) hx hb dX8_links_81 hl (by decide) rfl (fun ls hl => ?_)
                      refine lv_aload_n hx hb dX8_links_83 rfl (lv_at hl 2 rfl) ?_
                      refine lv_iload_n hx hb dX8_links_84 rfl (lv_at hl 3 rfl) ?_
                      refine lv_iload hx hb dX8_links_85 (lv_at hl 1 rfl) ?_
                      refine lv_iload_n hx hb dX8_links_87 rfl (lv_at hl 5 rfl) ?_
                      refine k_callv (k := 0) (As := [.int (nI i), .int (nI 2), .int (nI k)]) (rest := []) ⟨hx, hb, hml, hown, hts⟩ (c_X8_put cy D ad l σ_59 i (2) ((nI k)) (by omega)) (cwV 3 hts gX8_links_X8_put rfl rfl rfl (by decide +kernel) ⟨Nat.le_of_ble_eq_true rfl, Nat.le_of_ble_eq_true rfl⟩) E hA I (k_recv E I (by decide) km_0 rfl) rfl hl.1 rfl (lv_room (Nat.le_of_ble_eq_true rfl)) dX8_links_88 ⟨Nat.le_of_ble_eq_true rfl, Nat.le_of_ble_eq_true rfl⟩ (fun σ_88 H locs hp_88 I => ?_)
                      refine lv_iload hx hb dX8_links_91 (lv_at hl 0 rfl) ?_
                      exact k_iret hx hb hr hlk I dX8_links_93 (by rw [sLinks_ok hoS hcl (Nat.zero_le _) w2 k1 k2, gLinks, if_neg (by omega)]; first | (have hw0 : w = 0 := (by omega); subst hw0; exact ⟨rfl, rM_qn hC1 (qn_put hp_88) (mN_put hM hp_88) (nOk_links hN hi (Or.inl rfl) k1 k2).1⟩) | (have hw1 : w = 1 := (by omega); subst hw1; exact ⟨rfl, rM_qn hC1 (qn_put hp_88) (mN_put hM hp_88) (nOk_links hN hi (Or.inr ⟨rfl, by omega⟩) k1 k2).1⟩))
                  · have c_52 : (N (23 + 13 * i + 9)) = 0 := (nI_eq (by omega) (by decide)).mp c_52
                    refine lv_bipush (v := (-2 : Int32)) hx hb dX8_links_55 (by decide) ?_
                    exact k_iret hx hb hr hlk I dX8_links_57 (by rw [sLinks_ok hoS hcl (Nat.zero_le _) w2 k1 k2, gLinks, if_pos (by omega)]; exact ⟨rfl, hC⟩)
            · exact absurd c_24 (by decide)
          · refine lv_if_ne (tgt := 29) hx hb dX8_links_24 (by decide) (fun c_24 => ?_) (fun c_24 => ?_)
            · exact absurd c_24 (by decide)
            · refine lv_iconst (v := (-1 : Int32)) hx hb dX8_links_27 (by decide) ?_
              exact k_iret hx hb hr hlk I dX8_links_28 (by rw [sLinks_bad (by first | exact fun q => hnS q.1 | exact fun q => g1 q.2.1 | exact fun q => g2 q.2.2)]; exact ⟨rfl, hC⟩)
      · refine lv_if_eq (tgt := 27) hx hb dX8_links_14 (by decide) (fun c_14 => ?_) (fun c_14 => ?_)
        · refine lv_iconst (v := (-1 : Int32)) hx hb dX8_links_27 (by decide) ?_
          exact k_iret hx hb hr hlk I dX8_links_28 (by rw [sLinks_bad (by first | exact fun q => hnS q.1 | exact fun q => g1 q.2.1 | exact fun q => g2 q.2.2)]; exact ⟨rfl, hC⟩)
        · exact absurd c_14 (by decide)
  · refine lv_if_eq (tgt := 27) hx hb dX8_links_5 (by decide) (fun c_5 => ?_) (fun c_5 => ?_)
    · refine lv_iconst (v := (-1 : Int32)) hx hb dX8_links_27 (by decide) ?_
      exact k_iret hx hb hr hlk I dX8_links_28 (by rw [sLinks_bad (by first | exact fun q => hnS q.1 | exact fun q => g1 q.2.1 | exact fun q => g2 q.2.2)]; exact ⟨rfl, hC⟩)
    · exact absurd c_5 (by decide)
set_option maxHeartbeats 4000000 in
set_option maxRecDepth 100000 in
theorem c_X8_moor (cy : Nat → ClassId) (D : va_G) (ad : Nat → Nat) (l : Launch) (σ : Nat → Nat → Int32) (s0 x y n : Int32) (N : Nat → Nat) (P : Nat → Nat → Nat) (np : Nat) (T : Nat → Nat) (nt : Nat) (hC : rM σ (N, P, np, T, nt)) : kMi 6 ad (kcM cy ad) cy D l yX8_moor wsX8_moor ({ frames := 2, cells := 0, slots := 0, locals := 43 }) [.ref (ad 0), .int s0, .int x, .int y, .int n] σ (fun r σ' => r = (sMoor s0 x y n (N, P, np, T, nt)).1 ∧ rM σ' (sMoor s0 x y n (N, P, np, T, nt)).2) := by
  obtain ⟨hM, hN, hPs, hT⟩ := id hC
  have h5 := hN.1
  refine k_entry (cc := cX8_moor) (maxL := 5) (ret := (some .int)) (by decide) rfl (Nat.le_of_ble_eq_true rfl) ?_
  intro p e s m below meth c hx hb hr hml hown hts hlk E I ls hl
  have hA : ∀ q, s.heap.size ≤ q → kA 6 ad s.heap.size q := fun q h => Or.inr h
  have hown : s.vm.findClass RX8 = some m.cls := hown
  have hl : lv_has ls 5 [(0, .ref (ad 0)), (1, .int s0), (2, .int x), (3, .int y), (4, .int n)] := hl
  have iX8 : ∀ w ∈ u_ws RX8 TX8 13, w ∈ wsX8_moor := fun w h => List.mem_cons_of_mem _ (List.mem_append_right _ h)
  refine lv_aload_n hx hb dX8_moor_0 rfl (lv_at hl 0 rfl) ?_
  refine lv_iload_n hx hb dX8_moor_1 rfl (lv_at hl 1 rfl) ?_
  refine k_calli (k := 0) (As := [.int s0]) (rest := []) ⟨hx, hb, hml, hown, hts⟩ (c_X8_isShip cy D ad l σ (s0) N hN hM) (cwV 1 hts gX8_moor_X8_isShip rfl rfl rfl (by decide +kernel) ⟨Nat.le_of_ble_eq_true rfl, Nat.le_of_ble_eq_true rfl⟩) E hA I (k_recv E I (by decide) km_0 rfl) rfl hl.1 rfl (lv_room (Nat.le_of_ble_eq_true rfl)) dX8_moor_2 ⟨Nat.le_of_ble_eq_true rfl, Nat.le_of_ble_eq_true rfl⟩ (fun r_2 σ_2 H locs hp_2 I => ?_)
  obtain ⟨hk_, rfl⟩ := hp_2
  rcases hk_ with ⟨rfl, g0⟩ | ⟨rfl, hnS⟩
  · obtain ⟨i, hi, rfl⟩ := okS_of g0
    have H_i : i < 5 := by omega
    have hsh := hN.2.2 i hi
    unfold nSh at hsh
    have hoS := okS_nI hi h5.2.2.2.1
    have hcl : (nI i).toNatClampNeg = i := nI_clamp (by omega)
    refine lv_if_eq (tgt := 37) hx hb dX8_moor_5 (by decide) (fun c_5 => ?_) (fun c_5 => ?_)
    · exact absurd c_5 (by decide)
    · refine lv_aload_n hx hb dX8_moor_8 rfl (lv_at hl 0 rfl) ?_
      refine lv_iload_n hx hb dX8_moor_9 rfl (lv_at hl 2 rfl) ?_
      refine k_calli (k := 0) (As := [.int x]) (rest := []) ⟨hx, hb, hml, hown, hts⟩ (c_X8_isColumn cy D ad l σ (x) N hN hM) (cwV 1 hts gX8_moor_X8_isColumn rfl rfl rfl (by decide +kernel) ⟨Nat.le_of_ble_eq_true rfl, Nat.le_of_ble_eq_true rfl⟩) E hA I (k_recv E I (by decide) km_0 rfl) rfl hl.1 rfl (lv_room (Nat.le_of_ble_eq_true rfl)) dX8_moor_10 ⟨Nat.le_of_ble_eq_true rfl, Nat.le_of_ble_eq_true rfl⟩ (fun r_10 σ_10 H locs hp_10 I => ?_)
      obtain ⟨hk_, rfl⟩ := hp_10
      rcases hk_ with ⟨rfl, g1⟩ | ⟨rfl, g1⟩
      · obtain ⟨xx, xx1, rfl⟩ := kx_of g1.1 g1.2
        refine lv_if_eq (tgt := 37) hx hb dX8_moor_13 (by decide) (fun c_13 => ?_) (fun c_13 => ?_)
        · exact absurd c_13 (by decide)
        · refine lv_iload_n hx hb dX8_moor_16 rfl (lv_at hl 3 rfl) ?_
          refine lv_iconst (v := nI 0) hx hb dX8_moor_17 (by decide) ?_
          refine lv_bipush (v := nI 19) hx hb dX8_moor_18 (by decide) ?_
          refine k_calls (As := [.int y, .int (nI 0), .int (nI 19)]) (rest := []) ⟨hx, hb, hml, hown, hts⟩ (c_X8_in l (y) (nI 0) (nI 19)) (va_cwS 3 hts gX8_moor_X8_in rfl rfl rfl (by decide +kernel) ⟨Nat.le_of_ble_eq_true rfl, Nat.le_of_ble_eq_true rfl⟩) rfl hl.1 rfl (lv_room (Nat.le_of_ble_eq_true rfl)) dX8_moor_20 ⟨Nat.le_of_ble_eq_true rfl, Nat.le_of_ble_eq_true rfl⟩ (fun r_20 hp_20 => ?_)
          rcases hp_20 with ⟨rfl, g2⟩ | ⟨rfl, g2⟩
          · obtain ⟨yy, yy1, yy2, rfl⟩ := kT_in (by decide) (by decide) g2
            refine lv_if_eq (tgt := 37) hx hb dX8_moor_23 (by decide) (fun c_23 => ?_) (fun c_23 => ?_)
            · exact absurd c_23 (by decide)
            · refine lv_iload hx hb dX8_moor_26 (lv_at hl 4 rfl) ?_
              refine lv_iconst (v := nI 1) hx hb dX8_moor_28 (by decide) ?_
              refine lv_bipush (v := nI 60) hx hb dX8_moor_29 (by decide) ?_
              refine k_calls (As := [.int n, .int (nI 1), .int (nI 60)]) (rest := []) ⟨hx, hb, hml, hown, hts⟩ (c_X8_in l (n) (nI 1) (nI 60)) (va_cwS 3 hts gX8_moor_X8_in rfl rfl rfl (by decide +kernel) ⟨Nat.le_of_ble_eq_true rfl, Nat.le_of_ble_eq_true rfl⟩) rfl hl.1 rfl (lv_room (Nat.le_of_ble_eq_true rfl)) dX8_moor_31 ⟨Nat.le_of_ble_eq_true rfl, Nat.le_of_ble_eq_true rfl⟩ (fun r_31 hp_31 => ?_)
              rcases hp_31 with ⟨rfl, g3⟩ | ⟨rfl, g3⟩
              · obtain ⟨k, k1, k2, rfl⟩ := kT_in (by decide) (by decide) g3
                refine lv_if_ne (tgt := 39) hx hb dX8_moor_34 (by decide) (fun c_34 => ?_) (fun c_34 => ?_)
                · refine lv_aload_n hx hb dX8_moor_39 rfl (lv_at hl 0 rfl) ?_
                  refine lv_iload_n hx hb dX8_moor_40 rfl (lv_at hl 1 rfl) ?_
                  refine lv_bipush (v := nI 7) hx hb dX8_moor_41 (by decide) ?_
                  refine k_calli (k := 0) (As := [.int (nI i), .int (nI 7)]) (rest := []) ⟨hx, hb, hml, hown, hts⟩ (c_X8_of cy D ad l σ i (7) (N (23 + 13 * i + 7)) (by omega) (hM _ (by omega))) (cwV 2 hts gX8_moor_X8_of rfl rfl rfl (by decide +kernel) ⟨Nat.le_of_ble_eq_true rfl, Nat.le_of_ble_eq_true rfl⟩) E hA I (k_recv E I (by decide) km_0 rfl) rfl hl.1 rfl (lv_room (Nat.le_of_ble_eq_true rfl)) dX8_moor_43 ⟨Nat.le_of_ble_eq_true rfl, Nat.le_of_ble_eq_true rfl⟩ (fun r_43 σ_43 H locs hp_43 I => ?_)
                  obtain ⟨rfl, rfl⟩ := hp_43
                  refine lv_iconst (v := nI 1) hx hb dX8_moor_46 (by decide) ?_
                  refine lv_icmp_eq (tgt := 61) hx hb dX8_moor_47 (by decide) (fun c_47 => ?_) (fun c_47 => ?_)
                  · have c_47 : (N (23 + 13 * i + 7)) = 1 := (nI_eq (by omega) (by omega)).mp c_47
                    refine lv_bipush (v := (-2 : Int32)) hx hb dX8_moor_61 (by decide) ?_
                    exact k_iret hx hb hr hlk I dX8_moor_63 (by rw [sMoor_ok hoS hcl xx1 h5.2.1 (show yy < 20 by omega) k1 k2, gMoor, if_pos (by omega)]; exact ⟨rfl, hC⟩)
                  · have c_47 : ¬ ((N (23 + 13 * i + 7)) = 1) := fun q_ => c_47 ((nI_eq (by omega) (by omega)).mpr q_)
                    refine lv_aload_n hx hb dX8_moor_50 rfl (lv_at hl 0 rfl) ?_
                    refine lv_iload_n hx hb dX8_moor_51 rfl (lv_at hl 1 rfl) ?_
                    refine lv_bipush (v := nI 9) hx hb dX8_moor_52 (by decide) ?_
                    refine k_calli (k := 0) (As := [.int (nI i), .int (nI 9)]) (rest := []) ⟨hx, hb, hml, hown, hts⟩ (c_X8_of cy D ad l σ i (9) (N (23 + 13 * i + 9)) (by omega) (hM _ (by omega))) (cwV 2 hts gX8_moor_X8_of rfl rfl rfl (by decide +kernel) ⟨Nat.le_of_ble_eq_true rfl, Nat.le_of_ble_eq_true rfl⟩) E hA I (k_recv E I (by decide) km_0 rfl) rfl hl.1 rfl (lv_room (Nat.le_of_ble_eq_true rfl)) dX8_moor_54 ⟨Nat.le_of_ble_eq_true rfl, Nat.le_of_ble_eq_true rfl⟩ (fun r_54 σ_54 H locs hp_54 I => ?_)
                    obtain ⟨rfl, rfl⟩ := hp_54
                    refine lv_iconst (v := nI 1) hx hb dX8_moor_57 (by decide) ?_
                    refine lv_icmp_ne (tgt := 64) hx hb dX8_moor_58 (by decide) (fun c_58 => ?_) (fun c_58 => ?_)
                    · have c_58 : ¬ ((N (23 + 13 * i + 9)) = 1) := fun q_ => c_58 ((nI_eq (by omega) (by omega)).mpr q_)
                      refine lv_aload_n hx hb dX8_moor_64 rfl (lv_at hl 0 rfl) ?_
                      refine k_callv (k := 0) (As := []) (rest := []) ⟨hx, hb, hml, hown, hts⟩ (c_X8_push cy D ad l σ N P np T nt hC) (cwV 0 hts gX8_moor_X8_push rfl rfl rfl (by decide +kernel) ⟨Nat.le_of_ble_eq_true rfl, Nat.le_of_ble_eq_true rfl⟩) E hA I (k_recv E I (by decide) km_0 rfl) rfl hl.1 rfl (lv_room (Nat.le_of_ble_eq_true rfl)) dX8_moor_65 ⟨Nat.le_of_ble_eq_true rfl, Nat.le_of_ble_eq_true rfl⟩ (fun σ_65 H locs hp_65 I => ?_)
                      have hC1 := hp_65
                      have hM := hC1.1
                      have hQ := qn_rf σ_65
                      refine lv_aload_n hx hb dX8_moor_68 rfl (lv_at hl 0 rfl) ?_
                      refine lv_iload_n hx hb dX8_moor_69 rfl (lv_at hl 1 rfl) ?_
                      refine lv_bipush (v := nI 9) hx hb dX8_moor_70 (by decide) ?_
                      refine lv_iconst (v := nI 1) hx hb dX8_moor_72 (by decide) ?_
                      refine k_callv (k := 0) (As := [.int (nI i), .int (nI 9), .int (nI 1)]) (rest := []) ⟨hx, hb, hml, hown, hts⟩ (c_X8_put cy D ad l σ_65 i 9 ((nI 1)) (by omega)) (cwV 3 hts gX8_moor_X8_put rfl rfl rfl (by decide +kernel) ⟨Nat.le_of_ble_eq_true rfl, Nat.le_of_ble_eq_true rfl⟩) E hA I (k_recv E I (by decide) km_0 rfl) rfl hl.1 rfl (lv_room (Nat.le_of_ble_eq_true rfl)) dX8_moor_73 ⟨Nat.le_of_ble_eq_true rfl, Nat.le_of_ble_eq_true rfl⟩ (fun σ_73 H locs hp_73 I => ?_)
                      have hM := mN_put (k := 23 + 13 * i + 9) (v := 1) hM hp_73
                      have hQ := qn_tr hQ (qn_put hp_73)
                      refine lv_aload_n hx hb dX8_moor_76 rfl (lv_at hl 0 rfl) ?_
                      refine lv_iload_n hx hb dX8_moor_77 rfl (lv_at hl 1 rfl) ?_
                      refine lv_bipush (v := nI 10) hx hb dX8_moor_78 (by decide) ?_
                      refine lv_iload_n hx hb dX8_moor_80 rfl (lv_at hl 2 rfl) ?_
                      refine k_callv (k := 0) (As := [.int (nI i), .int (nI 10), .int (nI xx)]) (rest := []) ⟨hx, hb, hml, hown, hts⟩ (c_X8_put cy D ad l σ_73 i 10 ((nI xx)) (by omega)) (cwV 3 hts gX8_moor_X8_put rfl rfl rfl (by decide +kernel) ⟨Nat.le_of_ble_eq_true rfl, Nat.le_of_ble_eq_true rfl⟩) E hA I (k_recv E I (by decide) km_0 rfl) rfl hl.1 rfl (lv_room (Nat.le_of_ble_eq_true rfl)) dX8_moor_81 ⟨Nat.le_of_ble_eq_true rfl, Nat.le_of_ble_eq_true rfl⟩ (fun σ_81 H locs hp_81 I => ?_)
                      have hM := mN_put (k := 23 + 13 * i + 10) (v := xx) hM hp_81
                      have hQ := qn_tr hQ (qn_put hp_81)
                      refine lv_aload_n hx hb dX8_moor_84 rfl (lv_at hl 0 rfl) ?_
                      refine lv_iload_n hx hb dX8_moor_85 rfl (lv_at hl 1 rfl) ?_
                      refine lv_bipush (v := nI 11) hx hb dX8_moor_86 (by decide) ?_
                      refine lv_iload_n hx hb dX8_moor_88 rfl (lv_at hl 3 rfl) ?_
                      refine k_callv (k := 0) (As := [.int (nI i), .int (nI 11), .int (nI yy)]) (rest := []) ⟨hx, hb, hml, hown, hts⟩ (c_X8_put cy D ad l σ_81 i 11 ((nI yy)) (by omega)) (cwV 3 hts gX8_moor_X8_put rfl rfl rfl (by decide +kernel) ⟨Nat.le_of_ble_eq_true rfl, Nat.le_of_ble_eq_true rfl⟩) E hA I (k_recv E I (by decide) km_0 rfl) rfl hl.1 rfl (lv_room (Nat.le_of_ble_eq_true rfl)) dX8_moor_89 ⟨Nat.le_of_ble_eq_true rfl, Nat.le_of_ble_eq_true rfl⟩ (fun σ_89 H locs hp_89 I => ?_)
                      have hM := mN_put (k := 23 + 13 * i + 11) (v := yy) hM hp_89
                      have hQ := qn_tr hQ (qn_put hp_89)
                      refine lv_aload_n hx hb dX8_moor_92 rfl (lv_at hl 0 rfl) ?_
                      refine lv_iload_n hx hb dX8_moor_93 rfl (lv_at hl 1 rfl) ?_
                      refine lv_bipush (v := nI 12) hx hb dX8_moor_94 (by decide) ?_
                      refine lv_iload hx hb dX8_moor_96 (lv_at hl 4 rfl) ?_
                      refine k_callv (k := 0) (As := [.int (nI i), .int (nI 12), .int (nI k)]) (rest := []) ⟨hx, hb, hml, hown, hts⟩ (c_X8_put cy D ad l σ_89 i 12 ((nI k)) (by omega)) (cwV 3 hts gX8_moor_X8_put rfl rfl rfl (by decide +kernel) ⟨Nat.le_of_ble_eq_true rfl, Nat.le_of_ble_eq_true rfl⟩) E hA I (k_recv E I (by decide) km_0 rfl) rfl hl.1 rfl (lv_room (Nat.le_of_ble_eq_true rfl)) dX8_moor_98 ⟨Nat.le_of_ble_eq_true rfl, Nat.le_of_ble_eq_true rfl⟩ (fun σ_98 H locs hp_98 I => ?_)
                      have hM := mN_put (k := 23 + 13 * i + 12) (v := k) hM hp_98
                      have hQ := qn_tr hQ (qn_put hp_98)
                      refine lv_aload_n hx hb dX8_moor_101 rfl (lv_at hl 0 rfl) ?_
                      refine k_get (C := RX8) (T := TX8) (N := 13) (v := .ref (ad 1)) hx hb hts hown E I iX8 (0) (by decide) (r0 := σ_98 0) rfl km_0 rfl 0 (by decide) (List.mem_of_getElem? (i := 1) rfl) rfl dX8_moor_102 ?_
                      refine lv_iconst (v := nI 3) hx hb dX8_moor_105 (by decide) ?_
                      refine lv_iload_n hx hb dX8_moor_106 rfl (lv_at hl 2 rfl) ?_
                      refine lv_iadd hx hb dX8_moor_107 ?_
                      rw [nI_add]
                      refine k_iald hx hb E I (1) (by decide) (r0 := σ_98 1) rfl km_1 (vp_in_nI (by omega) (by decide)) dX8_moor_108 ?_
                      rw [nI_clamp (by omega)]
                      rw [show σ_98 1 (3 + xx) = nI (N (3 + xx)) from (hM _ (by omega)).trans (congrArg nI (moM_at N i xx yy k (by omega) (by omega) (by omega) (by omega)))]
                      exact k_iret hx hb hr hlk I dX8_moor_109 (by rw [sMoor_ok hoS hcl xx1 h5.2.1 (show yy < 20 by omega) k1 k2, gMoor, if_neg (by omega)]; exact ⟨rfl, rM_qn hC1 hQ hM (nOk_moor hN hi xx1 (by omega) k1 k2).1⟩)
                    · have c_58 : (N (23 + 13 * i + 9)) = 1 := (nI_eq (by omega) (by omega)).mp c_58
                      refine lv_bipush (v := (-2 : Int32)) hx hb dX8_moor_61 (by decide) ?_
                      exact k_iret hx hb hr hlk I dX8_moor_63 (by rw [sMoor_ok hoS hcl xx1 h5.2.1 (show yy < 20 by omega) k1 k2, gMoor, if_pos (by omega)]; exact ⟨rfl, hC⟩)
                · exact absurd c_34 (by decide)
              · refine lv_if_ne (tgt := 39) hx hb dX8_moor_34 (by decide) (fun c_34 => ?_) (fun c_34 => ?_)
                · exact absurd c_34 (by decide)
                · refine lv_iconst (v := (-1 : Int32)) hx hb dX8_moor_37 (by decide) ?_
                  exact k_iret hx hb hr hlk I dX8_moor_38 (by rw [sMoor_bad (by first | exact fun q => hnS q.1 | exact fun q => g1 ⟨q.2.1.1, q.2.1.2.1⟩ | exact fun q => g2 (kin19 q.2.1.2.2.1 q.2.1.2.2.2) | exact fun q => g3 q.2.2)]; exact ⟨rfl, hC⟩)
          · refine lv_if_eq (tgt := 37) hx hb dX8_moor_23 (by decide) (fun c_23 => ?_) (fun c_23 => ?_)
            · refine lv_iconst (v := (-1 : Int32)) hx hb dX8_moor_37 (by decide) ?_
              exact k_iret hx hb hr hlk I dX8_moor_38 (by rw [sMoor_bad (by first | exact fun q => hnS q.1 | exact fun q => g1 ⟨q.2.1.1, q.2.1.2.1⟩ | exact fun q => g2 (kin19 q.2.1.2.2.1 q.2.1.2.2.2) | exact fun q => g3 q.2.2)]; exact ⟨rfl, hC⟩)
            · exact absurd c_23 (by decide)
      · refine lv_if_eq (tgt := 37) hx hb dX8_moor_13 (by decide) (fun c_13 => ?_) (fun c_13 => ?_)
        · refine lv_iconst (v := (-1 : Int32)) hx hb dX8_moor_37 (by decide) ?_
          exact k_iret hx hb hr hlk I dX8_moor_38 (by rw [sMoor_bad (by first | exact fun q => hnS q.1 | exact fun q => g1 ⟨q.2.1.1, q.2.1.2.1⟩ | exact fun q => g2 (kin19 q.2.1.2.2.1 q.2.1.2.2.2) | exact fun q => g3 q.2.2)]; exact ⟨rfl, hC⟩)
        · exact absurd c_13 (by decide)
  · refine lv_if_eq (tgt := 37) hx hb dX8_moor_5 (by decide) (fun c_5 => ?_) (fun c_5 => ?_)
    · refine lv_iconst (v := (-1 : Int32)) hx hb dX8_moor_37 (by decide) ?_
      exact k_iret hx hb hr hlk I dX8_moor_38 (by rw [sMoor_bad (by first | exact fun q => hnS q.1 | exact fun q => g1 ⟨q.2.1.1, q.2.1.2.1⟩ | exact fun q => g2 (kin19 q.2.1.2.2.1 q.2.1.2.2.2) | exact fun q => g3 q.2.2)]; exact ⟨rfl, hC⟩)
    · exact absurd c_5 (by decide)
set_option maxHeartbeats 4000000 in
set_option maxRecDepth 100000 in
theorem c_X8_weigh (cy : Nat → ClassId) (D : va_G) (ad : Nat → Nat) (l : Launch) (σ : Nat → Nat → Int32) (s0 : Int32) (N : Nat → Nat) (P : Nat → Nat → Nat) (np : Nat) (T : Nat → Nat) (nt : Nat) (hC : rM σ (N, P, np, T, nt)) : kMi 6 ad (kcM cy ad) cy D l yX8_weigh wsX8_weigh ({ frames := 2, cells := 0, slots := 0, locals := 43 }) [.ref (ad 0), .int s0] σ (fun r σ' => r = (sWeigh s0 (N, P, np, T, nt)).1 ∧ rM σ' (sWeigh s0 (N, P, np, T, nt)).2) := by
  obtain ⟨hM, hN, hPs, hT⟩ := id hC
  have h5 := hN.1
  refine k_entry (cc := cX8_weigh) (maxL := 3) (ret := (some .int)) (by decide) rfl (Nat.le_of_ble_eq_true rfl) ?_
  intro p e s m below meth c hx hb hr hml hown hts hlk E I ls hl
  have hA : ∀ q, s.heap.size ≤ q → kA 6 ad s.heap.size q := fun q h => Or.inr h
  have hown : s.vm.findClass RX8 = some m.cls := hown
  have hl : lv_has ls 3 [(0, .ref (ad 0)), (1, .int s0)] := hl
  refine lv_aload_n hx hb dX8_weigh_0 rfl (lv_at hl 0 rfl) ?_
  refine lv_iload_n hx hb dX8_weigh_1 rfl (lv_at hl 1 rfl) ?_
  refine k_calli (k := 0) (As := [.int s0]) (rest := []) ⟨hx, hb, hml, hown, hts⟩ (c_X8_isShip cy D ad l σ (s0) N hN hM) (cwV 1 hts gX8_weigh_X8_isShip rfl rfl rfl (by decide +kernel) ⟨Nat.le_of_ble_eq_true rfl, Nat.le_of_ble_eq_true rfl⟩) E hA I (k_recv E I (by decide) km_0 rfl) rfl hl.1 rfl (lv_room (Nat.le_of_ble_eq_true rfl)) dX8_weigh_2 ⟨Nat.le_of_ble_eq_true rfl, Nat.le_of_ble_eq_true rfl⟩ (fun r_2 σ_2 H locs hp_2 I => ?_)
  obtain ⟨hk_, rfl⟩ := hp_2
  rcases hk_ with ⟨rfl, g0⟩ | ⟨rfl, hnS⟩
  · obtain ⟨i, hi, rfl⟩ := okS_of g0
    have H_i : i < 5 := by omega
    have hsh := hN.2.2 i hi
    unfold nSh at hsh
    have hoS := okS_nI hi h5.2.2.2.1
    have hcl : (nI i).toNatClampNeg = i := nI_clamp (by omega)
    refine lv_if_ne (tgt := 10) hx hb dX8_weigh_5 (by decide) (fun c_5 => ?_) (fun c_5 => ?_)
    · refine lv_aload_n hx hb dX8_weigh_10 rfl (lv_at hl 0 rfl) ?_
      refine lv_iload_n hx hb dX8_weigh_11 rfl (lv_at hl 1 rfl) ?_
      refine lv_bipush (v := nI 7) hx hb dX8_weigh_12 (by decide) ?_
      refine k_calli (k := 0) (As := [.int (nI i), .int (nI 7)]) (rest := []) ⟨hx, hb, hml, hown, hts⟩ (c_X8_of cy D ad l σ i (7) (N (23 + 13 * i + 7)) (by omega) (hM _ (by omega))) (cwV 2 hts gX8_weigh_X8_of rfl rfl rfl (by decide +kernel) ⟨Nat.le_of_ble_eq_true rfl, Nat.le_of_ble_eq_true rfl⟩) E hA I (k_recv E I (by decide) km_0 rfl) rfl hl.1 rfl (lv_room (Nat.le_of_ble_eq_true rfl)) dX8_weigh_14 ⟨Nat.le_of_ble_eq_true rfl, Nat.le_of_ble_eq_true rfl⟩ (fun r_14 σ_14 H locs hp_14 I => ?_)
      obtain ⟨rfl, rfl⟩ := hp_14
      refine lv_iconst (v := nI 1) hx hb dX8_weigh_17 (by decide) ?_
      refine lv_icmp_eq (tgt := 31) hx hb dX8_weigh_18 (by decide) (fun c_18 => ?_) (fun c_18 => ?_)
      · have c_18 : (N (23 + 13 * i + 7)) = 1 := (nI_eq (by omega) (by omega)).mp c_18
        refine lv_bipush (v := (-2 : Int32)) hx hb dX8_weigh_31 (by decide) ?_
        exact k_iret hx hb hr hlk I dX8_weigh_33 (by rw [sWeigh_ok hoS hcl, gWeigh, if_pos (by omega)]; exact ⟨rfl, hC⟩)
      · have c_18 : ¬ ((N (23 + 13 * i + 7)) = 1) := fun q_ => c_18 ((nI_eq (by omega) (by omega)).mpr q_)
        refine lv_aload_n hx hb dX8_weigh_21 rfl (lv_at hl 0 rfl) ?_
        refine lv_iload_n hx hb dX8_weigh_22 rfl (lv_at hl 1 rfl) ?_
        refine lv_bipush (v := nI 9) hx hb dX8_weigh_23 (by decide) ?_
        refine k_calli (k := 0) (As := [.int (nI i), .int (nI 9)]) (rest := []) ⟨hx, hb, hml, hown, hts⟩ (c_X8_of cy D ad l σ i (9) (N (23 + 13 * i + 9)) (by omega) (hM _ (by omega))) (cwV 2 hts gX8_weigh_X8_of rfl rfl rfl (by decide +kernel) ⟨Nat.le_of_ble_eq_true rfl, Nat.le_of_ble_eq_true rfl⟩) E hA I (k_recv E I (by decide) km_0 rfl) rfl hl.1 rfl (lv_room (Nat.le_of_ble_eq_true rfl)) dX8_weigh_25 ⟨Nat.le_of_ble_eq_true rfl, Nat.le_of_ble_eq_true rfl⟩ (fun r_25 σ_25 H locs hp_25 I => ?_)
        obtain ⟨rfl, rfl⟩ := hp_25
        refine lv_if_ne (tgt := 34) hx hb dX8_weigh_28 (by decide) (fun c_28 => ?_) (fun c_28 => ?_)
        · have c_28 : ¬ ((N (23 + 13 * i + 9)) = 0) := fun q_ => c_28 ((nI_eq (by omega) (by decide)).mpr q_)
          refine lv_aload_n hx hb dX8_weigh_34 rfl (lv_at hl 0 rfl) ?_
          refine k_callv (k := 0) (As := []) (rest := []) ⟨hx, hb, hml, hown, hts⟩ (c_X8_push cy D ad l σ N P np T nt hC) (cwV 0 hts gX8_weigh_X8_push rfl rfl rfl (by decide +kernel) ⟨Nat.le_of_ble_eq_true rfl, Nat.le_of_ble_eq_true rfl⟩) E hA I (k_recv E I (by decide) km_0 rfl) rfl hl.1 rfl (lv_room (Nat.le_of_ble_eq_true rfl)) dX8_weigh_35 ⟨Nat.le_of_ble_eq_true rfl, Nat.le_of_ble_eq_true rfl⟩ (fun σ_35 H locs hp_35 I => ?_)
          have hC1 := hp_35
          have hM := hC1.1
          have hQ := qn_rf σ_35
          refine lv_aload_n hx hb dX8_weigh_38 rfl (lv_at hl 0 rfl) ?_
          refine lv_iload_n hx hb dX8_weigh_39 rfl (lv_at hl 1 rfl) ?_
          refine lv_bipush (v := nI 12) hx hb dX8_weigh_40 (by decide) ?_
          refine k_calli (k := 0) (As := [.int (nI i), .int (nI 12)]) (rest := []) ⟨hx, hb, hml, hown, hts⟩ (c_X8_of cy D ad l σ_35 i (12) (N (23 + 13 * i + 12)) (by omega) (hM _ (by omega))) (cwV 2 hts gX8_weigh_X8_of rfl rfl rfl (by decide +kernel) ⟨Nat.le_of_ble_eq_true rfl, Nat.le_of_ble_eq_true rfl⟩) E hA I (k_recv E I (by decide) km_0 rfl) rfl hl.1 rfl (lv_room (Nat.le_of_ble_eq_true rfl)) dX8_weigh_42 ⟨Nat.le_of_ble_eq_true rfl, Nat.le_of_ble_eq_true rfl⟩ (fun r_42 σ_42 H locs hp_42 I => ?_)
          obtain ⟨rfl, rfl⟩ := hp_42
          refine lv_istore_n (lv' := [(2, .int (nI (N (23 + 13 * i + 12)))), (0, .ref (ad 0)), (1, .int (nI i))]) hx hb dX8_weigh_45 rfl hl (by decide) rfl (fun ls hl => ?_)
          refine lv_aload_n hx hb dX8_weigh_46 rfl (lv_at hl 1 rfl) ?_
          refine lv_iload_n hx hb dX8_weigh_47 rfl (lv_at hl 2 rfl) ?_
          refine lv_bipush (v := nI 9) hx hb dX8_weigh_48 (by decide) ?_
          refine lv_iconst (v := nI 0) hx hb dX8_weigh_50 (by decide) ?_
          refine k_callv (k := 0) (As := [.int (nI i), .int (nI 9), .int (nI 0)]) (rest := []) ⟨hx, hb, hml, hown, hts⟩ (c_X8_put cy D ad l σ_35 i 9 ((nI 0)) (by omega)) (cwV 3 hts gX8_weigh_X8_put rfl rfl rfl (by decide +kernel) ⟨Nat.le_of_ble_eq_true rfl, Nat.le_of_ble_eq_true rfl⟩) E hA I (k_recv E I (by decide) km_0 rfl) rfl hl.1 rfl (lv_room (Nat.le_of_ble_eq_true rfl)) dX8_weigh_51 ⟨Nat.le_of_ble_eq_true rfl, Nat.le_of_ble_eq_true rfl⟩ (fun σ_51 H locs hp_51 I => ?_)
          have hM := mN_put (k := 23 + 13 * i + 9) (v := 0) hM hp_51
          have hQ := qn_tr hQ (qn_put hp_51)
          refine lv_aload_n hx hb dX8_weigh_54 rfl (lv_at hl 1 rfl) ?_
          refine lv_iload_n hx hb dX8_weigh_55 rfl (lv_at hl 2 rfl) ?_
          refine lv_bipush (v := nI 10) hx hb dX8_weigh_56 (by decide) ?_
          refine lv_iconst (v := nI 0) hx hb dX8_weigh_58 (by decide) ?_
          refine k_callv (k := 0) (As := [.int (nI i), .int (nI 10), .int (nI 0)]) (rest := []) ⟨hx, hb, hml, hown, hts⟩ (c_X8_put cy D ad l σ_51 i 10 ((nI 0)) (by omega)) (cwV 3 hts gX8_weigh_X8_put rfl rfl rfl (by decide +kernel) ⟨Nat.le_of_ble_eq_true rfl, Nat.le_of_ble_eq_true rfl⟩) E hA I (k_recv E I (by decide) km_0 rfl) rfl hl.1 rfl (lv_room (Nat.le_of_ble_eq_true rfl)) dX8_weigh_59 ⟨Nat.le_of_ble_eq_true rfl, Nat.le_of_ble_eq_true rfl⟩ (fun σ_59 H locs hp_59 I => ?_)
          have hM := mN_put (k := 23 + 13 * i + 10) (v := 0) hM hp_59
          have hQ := qn_tr hQ (qn_put hp_59)
          refine lv_aload_n hx hb dX8_weigh_62 rfl (lv_at hl 1 rfl) ?_
          refine lv_iload_n hx hb dX8_weigh_63 rfl (lv_at hl 2 rfl) ?_
          refine lv_bipush (v := nI 11) hx hb dX8_weigh_64 (by decide) ?_
          refine lv_iconst (v := nI 0) hx hb dX8_weigh_66 (by decide) ?_
          refine k_callv (k := 0) (As := [.int (nI i), .int (nI 11), .int (nI 0)]) (rest := []) ⟨hx, hb, hml, hown, hts⟩ (c_X8_put cy D ad l σ_59 i 11 ((nI 0)) (by omega)) (cwV 3 hts gX8_weigh_X8_put rfl rfl rfl (by decide +kernel) ⟨Nat.le_of_ble_eq_true rfl, Nat.le_of_ble_eq_true rfl⟩) E hA I (k_recv E I (by decide) km_0 rfl) rfl hl.1 rfl (lv_room (Nat.le_of_ble_eq_true rfl)) dX8_weigh_67 ⟨Nat.le_of_ble_eq_true rfl, Nat.le_of_ble_eq_true rfl⟩ (fun σ_67 H locs hp_67 I => ?_)
          have hM := mN_put (k := 23 + 13 * i + 11) (v := 0) hM hp_67
          have hQ := qn_tr hQ (qn_put hp_67)
          refine lv_aload_n hx hb dX8_weigh_70 rfl (lv_at hl 1 rfl) ?_
          refine lv_iload_n hx hb dX8_weigh_71 rfl (lv_at hl 2 rfl) ?_
          refine lv_bipush (v := nI 12) hx hb dX8_weigh_72 (by decide) ?_
          refine lv_iconst (v := nI 0) hx hb dX8_weigh_74 (by decide) ?_
          refine k_callv (k := 0) (As := [.int (nI i), .int (nI 12), .int (nI 0)]) (rest := []) ⟨hx, hb, hml, hown, hts⟩ (c_X8_put cy D ad l σ_67 i 12 ((nI 0)) (by omega)) (cwV 3 hts gX8_weigh_X8_put rfl rfl rfl (by decide +kernel) ⟨Nat.le_of_ble_eq_true rfl, Nat.le_of_ble_eq_true rfl⟩) E hA I (k_recv E I (by decide) km_0 rfl) rfl hl.1 rfl (lv_room (Nat.le_of_ble_eq_true rfl)) dX8_weigh_75 ⟨Nat.le_of_ble_eq_true rfl, Nat.le_of_ble_eq_true rfl⟩ (fun σ_75 H locs hp_75 I => ?_)
          have hM := mN_put (k := 23 + 13 * i + 12) (v := 0) hM hp_75
          have hQ := qn_tr hQ (qn_put hp_75)
          refine lv_iload_n hx hb dX8_weigh_78 rfl (lv_at hl 0 rfl) ?_
          exact k_iret hx hb hr hlk I dX8_weigh_79 (by rw [sWeigh_ok hoS hcl, gWeigh, if_neg (by omega)]; exact ⟨rfl, rM_qn hC1 hQ hM (nOk_weigh hN hi).1⟩)
        · have c_28 : (N (23 + 13 * i + 9)) = 0 := (nI_eq (by omega) (by decide)).mp c_28
          refine lv_bipush (v := (-2 : Int32)) hx hb dX8_weigh_31 (by decide) ?_
          exact k_iret hx hb hr hlk I dX8_weigh_33 (by rw [sWeigh_ok hoS hcl, gWeigh, if_pos (by omega)]; exact ⟨rfl, hC⟩)
    · exact absurd c_5 (by decide)
  · refine lv_if_ne (tgt := 10) hx hb dX8_weigh_5 (by decide) (fun c_5 => ?_) (fun c_5 => ?_)
    · exact absurd c_5 (by decide)
    · refine lv_iconst (v := (-1 : Int32)) hx hb dX8_weigh_8 (by decide) ?_
      exact k_iret hx hb hr hlk I dX8_weigh_9 (by rw [sWeigh_bad (by first | exact fun q => hnS q)]; exact ⟨rfl, hC⟩)
set_option maxHeartbeats 4000000 in
set_option maxRecDepth 100000 in
theorem c_X8_hours (cy : Nat → ClassId) (D : va_G) (ad : Nat → Nat) (l : Launch) (σ : Nat → Nat → Int32) (n b d : Int32) (N : Nat → Nat) (P : Nat → Nat → Nat) (np : Nat) (T : Nat → Nat) (nt : Nat) (hC : rM σ (N, P, np, T, nt)) : kMi 6 ad (kcM cy ad) cy D l yX8_hours wsX8_hours ({ frames := 7, cells := 0, slots := 0, locals := 166 }) [.ref (ad 0), .int n, .int b, .int d] σ (fun r σ' => r = (sHours n b d (N, P, np, T, nt)).1 ∧ rM σ' (sHours n b d (N, P, np, T, nt)).2) := by
  obtain ⟨hM, hN, hPs, hT⟩ := id hC
  have h5 := hN.1
  refine k_entry (cc := cX8_hours) (maxL := 7) (ret := (some .int)) (by decide) rfl (Nat.le_of_ble_eq_true rfl) ?_
  intro p e s m below meth c hx hb hr hml hown hts hlk E I ls hl
  have hA : ∀ q, s.heap.size ≤ q → kA 6 ad s.heap.size q := fun q h => Or.inr h
  have hown : s.vm.findClass RX8 = some m.cls := hown
  have hl : lv_has ls 7 [(0, .ref (ad 0)), (1, .int n), (2, .int b), (3, .int d)] := hl
  generalize hQdef : MQ below (va_Qi (fun r σ' => r = (sHours n b d (N, P, np, T, nt)).1 ∧ rM σ' (sHours n b d (N, P, np, T, nt)).2) (kB 6 ad (kcM cy ad) D) (kA 6 ad s.heap.size)) [.ref (ad 0), .int n, .int b, .int d].toArray s 0 0 (kA 6 ad s.heap.size) = Q
  have iX8 : ∀ w ∈ u_ws RX8 TX8 13, w ∈ wsX8_hours := fun w h => List.mem_cons_of_mem _ (List.mem_append_right _ h)
  refine lv_iload_n hx hb dX8_hours_0 rfl (lv_at hl 1 rfl) ?_
  refine lv_iconst (v := nI 1) hx hb dX8_hours_1 (by decide) ?_
  refine lv_bipush (v := nI 24) hx hb dX8_hours_2 (by decide) ?_
  refine k_calls (As := [.int n, .int (nI 1), .int (nI 24)]) (rest := []) ⟨hx, hb, hml, hown, hts⟩ (c_X8_in l (n) (nI 1) (nI 24)) (va_cwS 3 hts gX8_hours_X8_in rfl rfl rfl (by decide +kernel) ⟨Nat.le_of_ble_eq_true rfl, Nat.le_of_ble_eq_true rfl⟩) rfl hl.1 rfl (lv_room (Nat.le_of_ble_eq_true rfl)) dX8_hours_4 ⟨Nat.le_of_ble_eq_true rfl, Nat.le_of_ble_eq_true rfl⟩ (fun r_4 hp_4 => ?_)
  rcases hp_4 with ⟨rfl, g1⟩ | ⟨rfl, g1⟩
  · obtain ⟨nn, n1, n2, rfl⟩ := kT_in (by decide) (by decide) g1
    refine lv_if_eq (tgt := 26) hx hb dX8_hours_7 (by decide) (fun c_7 => ?_) (fun c_7 => ?_)
    · exact absurd c_7 (by decide)
    · refine lv_iload_n hx hb dX8_hours_10 rfl (lv_at hl 2 rfl) ?_
      refine k_calls (As := [.int b]) (rest := []) ⟨hx, hb, hml, hown, hts⟩ (c_X8_isWind l (b)) (va_cwS 1 hts gX8_hours_X8_isWind rfl rfl rfl (by decide +kernel) ⟨Nat.le_of_ble_eq_true rfl, Nat.le_of_ble_eq_true rfl⟩) rfl hl.1 rfl (lv_room (Nat.le_of_ble_eq_true rfl)) dX8_hours_11 ⟨Nat.le_of_ble_eq_true rfl, Nat.le_of_ble_eq_true rfl⟩ (fun r_11 hp_11 => ?_)
      rcases hp_11 with ⟨rfl, g2⟩ | ⟨rfl, g2⟩
      · obtain ⟨bb, b1, b2, rfl⟩ := kT_in (by decide) (by decide) g2
        refine lv_if_eq (tgt := 26) hx hb dX8_hours_14 (by decide) (fun c_14 => ?_) (fun c_14 => ?_)
        · exact absurd c_14 (by decide)
        · refine lv_iload_n hx hb dX8_hours_17 rfl (lv_at hl 3 rfl) ?_
          refine lv_iconst (v := nI 0) hx hb dX8_hours_18 (by decide) ?_
          refine lv_iconst (v := nI 3) hx hb dX8_hours_19 (by decide) ?_
          refine k_calls (As := [.int d, .int (nI 0), .int (nI 3)]) (rest := []) ⟨hx, hb, hml, hown, hts⟩ (c_X8_in l (d) (nI 0) (nI 3)) (va_cwS 3 hts gX8_hours_X8_in rfl rfl rfl (by decide +kernel) ⟨Nat.le_of_ble_eq_true rfl, Nat.le_of_ble_eq_true rfl⟩) rfl hl.1 rfl (lv_room (Nat.le_of_ble_eq_true rfl)) dX8_hours_20 ⟨Nat.le_of_ble_eq_true rfl, Nat.le_of_ble_eq_true rfl⟩ (fun r_20 hp_20 => ?_)
          rcases hp_20 with ⟨rfl, g3⟩ | ⟨rfl, g3⟩
          · obtain ⟨dd_, d1, d2, rfl⟩ := kT_in (by decide) (by decide) g3
            refine lv_if_ne (tgt := 28) hx hb dX8_hours_23 (by decide) (fun c_23 => ?_) (fun c_23 => ?_)
            · refine lv_aload_n hx hb dX8_hours_28 rfl (lv_at hl 0 rfl) ?_
              refine k_get (C := RX8) (T := TX8) (N := 13) (v := .ref (ad 1)) hx hb hts hown E I iX8 (0) (by decide) (r0 := σ 0) rfl km_0 rfl 0 (by decide) (List.mem_of_getElem? (i := 1) rfl) rfl dX8_hours_29 ?_
              refine lv_iconst (v := nI 2) hx hb dX8_hours_32 (by decide) ?_
              refine k_iald hx hb E I (1) (by decide) (r0 := σ 1) rfl km_1 (vp_in_nI (by omega) (by decide)) dX8_hours_33 ?_
              rw [nI_clamp (by omega)]
              rw [hM 2 (by decide)]
              refine lv_iload_n hx hb dX8_hours_34 rfl (lv_at hl 1 rfl) ?_
              refine lv_iadd hx hb dX8_hours_35 ?_
              rw [nI_add]
              refine lv_sipush (v := nI 999) hx hb dX8_hours_36 (by decide) ?_
              refine lv_icmp_le (tgt := 45) hx hb dX8_hours_39 (by decide) (fun c_39 => ?_) (fun c_39 => ?_)
              · have c_39 : (((N 2)) + nn) ≤ 999 := (nI_leI (by omega) (by omega)).mp c_39
                refine lv_aload_n hx hb dX8_hours_45 rfl (lv_at hl 0 rfl) ?_
                refine k_callv (k := 0) (As := []) (rest := []) ⟨hx, hb, hml, hown, hts⟩ (c_X8_push cy D ad l σ N P np T nt hC) (cwV 0 hts gX8_hours_X8_push rfl rfl rfl (by decide +kernel) ⟨Nat.le_of_ble_eq_true rfl, Nat.le_of_ble_eq_true rfl⟩) E hA I (k_recv E I (by decide) km_0 rfl) rfl hl.1 rfl (lv_room (Nat.le_of_ble_eq_true rfl)) dX8_hours_46 ⟨Nat.le_of_ble_eq_true rfl, Nat.le_of_ble_eq_true rfl⟩ (fun σ_46 H locs hp_46 I => ?_)
                have hC1 := hp_46
                have hM := hC1.1
                have hQ := qn_rf σ_46
                refine lv_iconst (v := nI 0) hx hb dX8_hours_49 (by decide) ?_
                refine lv_istore (lv' := [(4, .int (nI 0)), (0, .ref (ad 0)), (1, .int (nI nn)), (2, .int (nI bb)), (3, .int (nI dd_))]) hx hb dX8_hours_50 hl (by decide) rfl (fun ls hl => ?_)
                refine lv_iconst (v := nI 0) hx hb dX8_hours_52 (by decide) ?_
                refine lv_istore (lv' := [(5, .int (nI 0)), (4, .int (nI 0)), (0, .ref (ad 0)), (1, .int (nI nn)), (2, .int (nI bb)), (3, .int (nI dd_))]) hx hb dX8_hours_53 hl (by decide) rfl (fun ls hl => ?_)
                have LP_55 : ∀ (fuel_55 : Nat) (j : Nat) (τ : Nat → Nat → Int32), nn - j < fuel_55 → (j ≤ nn) → (mN τ (pHs N bb dd_ j)) → (qn σ_46 τ) → ∀ (H : Heap) (locs : List Loc), kI 6 ad (kcM cy ad) D (kA 6 ad s.heap.size) s.heap τ H locs → ∀ ls : Array Slot, lv_has ls 7 [(0, .ref (ad 0)), (1, .int (nI nn)), (2, .int (nI bb)), (3, .int (nI dd_)), (4, .int (nI (pHt N bb dd_ j))), (5, .int (nI j))] → W p l e (headSpec wsX8_hours ({ frames := 7, cells := 0, slots := 0, locals := 166 })).room s m [.ref (ad 0), .int (nI nn), .int (nI bb), .int (nI dd_)].toArray below meth c H locs 0 0 Q (F0 m 55 ls []) := by
                  intro fuel_55
                  induction fuel_55 with
                  | zero => intro j τ hf_55; exact absurd hf_55 (Nat.not_lt_zero _)
                  | succ fuel_55 ih_55 =>
                    intro j τ hf_55 hjn hMj hQj H locs I ls hl
                    have hKj := pHs_ok hN bb d2 j (by omega)
                    refine lv_iload hx hb dX8_hours_55 (lv_at hl 5 rfl) ?_
                    refine lv_iload_n hx hb dX8_hours_57 rfl (lv_at hl 1 rfl) ?_
                    refine lv_icmp_ge (tgt := 134) hx hb dX8_hours_58 (by decide) (fun c_58 => ?_) (fun c_58 => ?_)
                    · have c_58 : nn ≤ j := (nI_leI (by omega) (by omega)).mp c_58
                      have hje : j = nn := by omega
                      refine lv_iload hx hb dX8_hours_134 (lv_at hl 4 rfl) ?_
                      subst hQdef
                      exact k_iret hx hb hr hlk I dX8_hours_136 (by rw [sHours_ok n1 n2 (Nat.zero_le _) b2 (Nat.zero_le _) d2, gHours, if_neg (by omega)]; rw [hje] at hMj hKj ⊢; exact ⟨rfl, rM_qn hC1 hQj hMj hKj.1⟩)
                    · have c_58 : ¬ (nn ≤ j) := fun q_ => c_58 ((nI_leI (by omega) (by omega)).mpr q_)
                      refine lv_iconst (v := nI 0) hx hb dX8_hours_61 (by decide) ?_
                      refine lv_istore (lv' := [(6, .int (nI 0)), (0, .ref (ad 0)), (1, .int (nI nn)), (2, .int (nI bb)), (3, .int (nI dd_)), (4, .int (nI (pHt N bb dd_ j))), (5, .int (nI j))]) hx hb dX8_hours_62 hl (by decide) rfl (fun ls hl => ?_)
                      have LP_64 : ∀ (fuel_64 : Nat) (i : Nat) (υ : Nat → Nat → Int32), N 1 - i < fuel_64 → (i ≤ N 1) → (mN υ (pPass (pHs N bb dd_ j) bb dd_ i)) → (qn σ_46 υ) → ∀ (H : Heap) (locs : List Loc), kI 6 ad (kcM cy ad) D (kA 6 ad s.heap.size) s.heap υ H locs → ∀ ls : Array Slot, lv_has ls 7 [(0, .ref (ad 0)), (1, .int (nI nn)), (2, .int (nI bb)), (3, .int (nI dd_)), (4, .int (nI (pHt N bb dd_ j + pStr (pHs N bb dd_ j) bb dd_ i))), (5, .int (nI j)), (6, .int (nI i))] → W p l e (headSpec wsX8_hours ({ frames := 7, cells := 0, slots := 0, locals := 166 })).room s m [.ref (ad 0), .int (nI nn), .int (nI bb), .int (nI dd_)].toArray below meth c H locs 0 0 Q (F0 m 64 ls []) := by
                        intro fuel_64
                        induction fuel_64 with
                        | zero => intro i υ hf_64; exact absurd hf_64 (Nat.not_lt_zero _)
                        | succ fuel_64 ih_64 =>
                          intro i υ hf_64 hin hMi hQi H locs I ls hl
                          have hKo := nOk_pass hKj.1 bb d2 i (by rw [hKj.2.1.2.1]; exact hin)
                          have a1 : pPass (pHs N bb dd_ j) bb dd_ i 1 = N 1 := (pPass_hd _ bb dd_ i 1 (by decide)).trans hKj.2.1.2.1
                          have a2 : pPass (pHs N bb dd_ j) bb dd_ i 2 = N 2 + j := (pPass_hd _ bb dd_ i 2 (by decide)).trans hKj.2.2
                          have ps1 : pPass (pHs N bb dd_ j) bb dd_ (i + 1) = if pPass (pHs N bb dd_ j) bb dd_ i (23 + 13 * i + 7) = 0 ∧ pHo (pPass (pHs N bb dd_ j) bb dd_ i) i (pPass (pHs N bb dd_ j) bb dd_ i (23 + 13 * i + 2)) bb = false then pDrag (pPass (pHs N bb dd_ j) bb dd_ i) i dd_ else pPass (pHs N bb dd_ j) bb dd_ i := rfl
                          have ps2 : pStr (pHs N bb dd_ j) bb dd_ (i + 1) = pStr (pHs N bb dd_ j) bb dd_ i + (if (pPass (pHs N bb dd_ j) bb dd_ i (23 + 13 * i + 7) = 0 ∧ pHo (pPass (pHs N bb dd_ j) bb dd_ i) i (pPass (pHs N bb dd_ j) bb dd_ i (23 + 13 * i + 2)) bb = false) ∧ pStay (pPass (pHs N bb dd_ j) bb dd_ i) i dd_ = false then 1 else 0) := rfl
                          generalize hK : pPass (pHs N bb dd_ j) bb dd_ i = K at hMi hKo a1 a2 ps1 ps2
                          refine lv_iload hx hb dX8_hours_64 (lv_at hl 6 rfl) ?_
                          refine lv_aload_n hx hb dX8_hours_66 rfl (lv_at hl 0 rfl) ?_
                          refine k_get (C := RX8) (T := TX8) (N := 13) (v := .ref (ad 1)) hx hb hts hown E I iX8 (0) (by decide) (r0 := υ 0) rfl km_0 rfl 0 (by decide) (List.mem_of_getElem? (i := 1) rfl) rfl dX8_hours_67 ?_
                          refine lv_iconst (v := nI 1) hx hb dX8_hours_70 (by decide) ?_
                          refine k_iald hx hb E I (1) (by decide) (r0 := υ 1) rfl km_1 (vp_in_nI (by omega) (by decide)) dX8_hours_71 ?_
                          rw [nI_clamp (by omega)]
                          rw [show υ 1 1 = nI (N 1) from (hMi 1 (by decide)).trans (congrArg nI a1)]
                          refine lv_icmp_ge (tgt := 118) hx hb dX8_hours_72 (by decide) (fun c_72 => ?_) (fun c_72 => ?_)
                          · have c_72 : ((N 1)) ≤ i := (nI_leI (by omega) (by omega)).mp c_72
                            have hie : i = N 1 := by omega
                            refine lv_aload_n hx hb dX8_hours_118 rfl (lv_at hl 0 rfl) ?_
                            refine k_get (C := RX8) (T := TX8) (N := 13) (v := .ref (ad 1)) hx hb hts hown E I iX8 (0) (by decide) (r0 := υ 0) rfl km_0 rfl 0 (by decide) (List.mem_of_getElem? (i := 1) rfl) rfl dX8_hours_119 ?_
                            refine lv_iconst (v := nI 2) hx hb dX8_hours_122 (by decide) ?_
                            refine lv_dup2_11 hx hb dX8_hours_123 rfl rfl ?_
                            refine k_iald hx hb E I (1) (by decide) (r0 := υ 1) rfl km_1 (vp_in_nI (by omega) (by decide)) dX8_hours_124 ?_
                            rw [nI_clamp (by omega)]
                            rw [show υ 1 2 = nI (N 2 + j) from (hMi 2 (by decide)).trans (congrArg nI a2)]
                            refine lv_iconst (v := nI 1) hx hb dX8_hours_125 (by decide) ?_
                            refine lv_iadd hx hb dX8_hours_126 ?_
                            rw [nI_add]
                            refine k_iast hx hb E I (1) (by decide) (r0 := υ 1) rfl (fun _ => km_1) (vp_in_nI (by omega) (by decide)) (σ2 := va_up υ 1 (upd (υ 1) 2 (nI (((N 2 + j)) + 1)))) (by rw [nI_clamp (by omega)]) dX8_hours_127 (fun H locs I => ?_)
                            refine lv_iinc (v := nI (j + 1)) (lv' := [(5, .int (nI (j + 1))), (0, .ref (ad 0)), (1, .int (nI nn)), (2, .int (nI bb)), (3, .int (nI dd_)), (4, .int (nI (pHt N bb dd_ j + pStr (pHs N bb dd_ j) bb dd_ i))), (6, .int (nI i))]) hx hb dX8_hours_128 hl (k := 5) rfl (show nI j + Int32.ofInt 1 = nI (j + 1) from nI_add j 1) (by decide) rfl (fun ls hl => ?_)
                            refine lv_goto (tgt := 55) hx hb dX8_hours_131 (by decide) ?_
                            rw [show pHt N bb dd_ j + pStr (pHs N bb dd_ j) bb dd_ i = pHt N bb dd_ (j + 1) by rw [pHt, hKj.2.1.2.1, hie]] at hl
                            exact ih_55 (j + 1) _ (by omega) (by omega) (by have hz := mN_put (k := 2) (v := N 2 + j + 1) hMi rfl; rw [pHs, pHour, hKj.2.2, hKj.2.1.2.1, ← hie, hK]; exact hz) (qn_tr hQi (qn_put rfl)) _ _ I _ (lv_sub hl [1, 2, 3, 4, 5, 0] rfl)
                          · have c_72 : ¬ (((N 1)) ≤ i) := fun q_ => c_72 ((nI_leI (by omega) (by omega)).mpr q_)
                            have hi : i < N 1 := by omega
                            have hit : i < K 1 := by rw [a1]; exact hi
                            have H_i : i < 5 := by omega
                            have hsh := hKo.2.2 i hit
                            unfold nSh at hsh
                            refine lv_iload hx hb dX8_hours_75 (lv_at hl 4 rfl) ?_
                            refine lv_aload_n hx hb dX8_hours_77 rfl (lv_at hl 0 rfl) ?_
                            refine lv_iload hx hb dX8_hours_78 (lv_at hl 6 rfl) ?_
                            refine lv_bipush (v := nI 7) hx hb dX8_hours_80 (by decide) ?_
                            refine k_calli (k := 0) (As := [.int (nI i), .int (nI 7)]) (rest := [.int (nI (pHt N bb dd_ j + pStr (pHs N bb dd_ j) bb dd_ i))]) ⟨hx, hb, hml, hown, hts⟩ (c_X8_of cy D ad l υ i (7) (K (23 + 13 * i + 7)) (by omega) (hMi _ (by omega))) (cwV 2 hts gX8_hours_X8_of rfl rfl rfl (by decide +kernel) ⟨Nat.le_of_ble_eq_true rfl, Nat.le_of_ble_eq_true rfl⟩) E hA I (k_recv E I (by decide) km_0 rfl) rfl hl.1 rfl (lv_room (Nat.le_of_ble_eq_true rfl)) dX8_hours_82 ⟨Nat.le_of_ble_eq_true rfl, Nat.le_of_ble_eq_true rfl⟩ (fun r_82 σ_82 H locs hp_82 I => ?_)
                            obtain ⟨rfl, rfl⟩ := hp_82
                            refine lv_if_ne (tgt := 108) hx hb dX8_hours_85 (by decide) (fun c_85 => ?_) (fun c_85 => ?_)
                            · have c_85 : ¬ ((K (23 + 13 * i + 7)) = 0) := fun q_ => c_85 ((nI_eq (by omega) (by decide)).mpr q_)
                              have hMn : mN υ (pPass (pHs N bb dd_ j) bb dd_ (i + 1)) := by rw [ps1, if_neg (fun q => absurd q.1 (by omega))]; exact hMi
                              have hQn := hQi
                              have hsn : pHt N bb dd_ j + pStr (pHs N bb dd_ j) bb dd_ i + 0 = pHt N bb dd_ j + pStr (pHs N bb dd_ j) bb dd_ (i + 1) := by rw [ps2, if_neg (fun q => absurd q.1.1 (by omega))]; rfl
                              refine lv_iconst (v := nI 0) hx hb dX8_hours_108 (by decide) ?_
                              refine lv_iadd hx hb dX8_hours_109 ?_
                              rw [nI_add]
                              refine lv_topi (fun t_110 et_110 => ?_)
                              have et_110 : t_110 = nI (pHt N bb dd_ j + pStr (pHs N bb dd_ j) bb dd_ (i + 1)) := et_110.trans (congrArg nI hsn)
                              subst et_110
                              refine lv_istore (lv' := [(4, .int (nI (pHt N bb dd_ j + pStr (pHs N bb dd_ j) bb dd_ (i + 1)))), (0, .ref (ad 0)), (1, .int (nI nn)), (2, .int (nI bb)), (3, .int (nI dd_)), (5, .int (nI j)), (6, .int (nI i))]) hx hb dX8_hours_110 hl (by decide) rfl (fun ls hl => ?_)
                              refine lv_iinc (v := nI (i + 1)) (lv' := [(6, .int (nI (i + 1))), (4, .int (nI (pHt N bb dd_ j + pStr (pHs N bb dd_ j) bb dd_ (i + 1)))), (0, .ref (ad 0)), (1, .int (nI nn)), (2, .int (nI bb)), (3, .int (nI dd_)), (5, .int (nI j))]) hx hb dX8_hours_112 hl (k := 6) rfl (show nI i + Int32.ofInt 1 = nI (i + 1) from nI_add i 1) (by decide) rfl (fun ls hl => ?_)
                              refine lv_goto (tgt := 64) hx hb dX8_hours_115 (by decide) ?_
                              exact ih_64 (i + 1) _ (by omega) (by omega) (hMn) (hQn) _ _ I _ (lv_sub hl [2, 3, 4, 5, 1, 6, 0] rfl)
                            · have c_85 : (K (23 + 13 * i + 7)) = 0 := (nI_eq (by omega) (by decide)).mp c_85
                              refine lv_aload_n hx hb dX8_hours_88 rfl (lv_at hl 0 rfl) ?_
                              refine lv_iload hx hb dX8_hours_89 (lv_at hl 6 rfl) ?_
                              refine lv_iload_n hx hb dX8_hours_91 rfl (lv_at hl 2 rfl) ?_
                              refine k_calli (k := 0) (As := [.int (nI i), .int (nI bb)]) (rest := [.int (nI (pHt N bb dd_ j + pStr (pHs N bb dd_ j) bb dd_ i))]) ⟨hx, hb, hml, hown, hts⟩ (c_X8_holds cy D ad l υ K hKo i hit hMi bb b2) (cwV 2 hts gX8_hours_X8_holds rfl rfl rfl (by decide +kernel) ⟨Nat.le_of_ble_eq_true rfl, Nat.le_of_ble_eq_true rfl⟩) E hA I (k_recv E I (by decide) km_0 rfl) rfl hl.1 rfl (lv_room (Nat.le_of_ble_eq_true rfl)) dX8_hours_92 ⟨Nat.le_of_ble_eq_true rfl, Nat.le_of_ble_eq_true rfl⟩ (fun r_92 σ_92 H locs hp_92 I => ?_)
                              obtain ⟨hk_, hq_⟩ := hp_92
                              have hMi := mN_qm hMi hq_
                              have hQi := qn_tr hQi (qm_qn hq_)
                              rcases hk_ with ⟨rfl, g4⟩ | ⟨rfl, g4⟩
                              · have hMn : mN σ_92 (pPass (pHs N bb dd_ j) bb dd_ (i + 1)) := by rw [ps1, if_neg (fun q => by rw [g4.2] at q; exact absurd q.2 (by decide))]; exact hMi
                                have hQn := hQi
                                have hsn : pHt N bb dd_ j + pStr (pHs N bb dd_ j) bb dd_ i + 0 = pHt N bb dd_ j + pStr (pHs N bb dd_ j) bb dd_ (i + 1) := by rw [ps2, if_neg (fun q => by rw [g4.2] at q; exact absurd q.1.2 (by decide))]; rfl
                                refine lv_if_ne (tgt := 108) hx hb dX8_hours_95 (by decide) (fun c_95 => ?_) (fun c_95 => ?_)
                                · refine lv_iconst (v := nI 0) hx hb dX8_hours_108 (by decide) ?_
                                  refine lv_iadd hx hb dX8_hours_109 ?_
                                  rw [nI_add]
                                  refine lv_topi (fun t_110 et_110 => ?_)
                                  have et_110 : t_110 = nI (pHt N bb dd_ j + pStr (pHs N bb dd_ j) bb dd_ (i + 1)) := et_110.trans (congrArg nI hsn)
                                  subst et_110
                                  refine lv_istore (lv' := [(4, .int (nI (pHt N bb dd_ j + pStr (pHs N bb dd_ j) bb dd_ (i + 1)))), (0, .ref (ad 0)), (1, .int (nI nn)), (2, .int (nI bb)), (3, .int (nI dd_)), (5, .int (nI j)), (6, .int (nI i))]) hx hb dX8_hours_110 hl (by decide) rfl (fun ls hl => ?_)
                                  refine lv_iinc (v := nI (i + 1)) (lv' := [(6, .int (nI (i + 1))), (4, .int (nI (pHt N bb dd_ j + pStr (pHs N bb dd_ j) bb dd_ (i + 1)))), (0, .ref (ad 0)), (1, .int (nI nn)), (2, .int (nI bb)), (3, .int (nI dd_)), (5, .int (nI j))]) hx hb dX8_hours_112 hl (k := 6) rfl (show nI i + Int32.ofInt 1 = nI (i + 1) from nI_add i 1) (by decide) rfl (fun ls hl => ?_)
                                  refine lv_goto (tgt := 64) hx hb dX8_hours_115 (by decide) ?_
                                  exact ih_64 (i + 1) _ (by omega) (by omega) (hMn) (hQn) _ _ I _ (lv_sub hl [2, 3, 4, 5, 1, 6, 0] rfl)
                                · exact absurd c_95 (by decide)
                              · refine lv_if_ne (tgt := 108) hx hb dX8_hours_95 (by decide) (fun c_95 => ?_) (fun c_95 => ?_)
                                · exact absurd c_95 (by decide)
                                · refine lv_aload_n hx hb dX8_hours_98 rfl (lv_at hl 0 rfl) ?_
                                  refine lv_iload hx hb dX8_hours_99 (lv_at hl 6 rfl) ?_
                                  refine lv_iload_n hx hb dX8_hours_101 rfl (lv_at hl 3 rfl) ?_
                                  refine k_calli (k := 0) (As := [.int (nI i), .int (nI dd_)]) (rest := [.int (nI (pHt N bb dd_ j + pStr (pHs N bb dd_ j) bb dd_ i))]) ⟨hx, hb, hml, hown, hts⟩ (c_X8_drag cy D ad l σ_92 K hKo i hit hMi dd_ d2) (cwV 2 hts gX8_hours_X8_drag rfl rfl rfl (by decide +kernel) ⟨Nat.le_of_ble_eq_true rfl, Nat.le_of_ble_eq_true rfl⟩) E hA I (k_recv E I (by decide) km_0 rfl) rfl hl.1 rfl (lv_room (Nat.le_of_ble_eq_true rfl)) dX8_hours_102 ⟨Nat.le_of_ble_eq_true rfl, Nat.le_of_ble_eq_true rfl⟩ (fun r_102 σ_102 H locs hp_102 I => ?_)
                                  obtain ⟨rfl, hMd, hQd⟩ := hp_102
                                  have hQn := qn_tr hQi hQd
                                  have hcond : K (23 + 13 * i + 7) = 0 ∧ pHo K i (K (23 + 13 * i + 2)) bb = false := ⟨by omega, Bool.eq_false_iff.mpr (fun q => g4 ⟨by omega, q⟩)⟩
                                  have hMn : mN σ_102 (pPass (pHs N bb dd_ j) bb dd_ (i + 1)) := by rw [ps1, if_pos hcond]; exact hMd
                                  have hsn : pHt N bb dd_ j + pStr (pHs N bb dd_ j) bb dd_ i + (if pStay K i dd_ = false then 1 else 0) = pHt N bb dd_ j + pStr (pHs N bb dd_ j) bb dd_ (i + 1) := by rw [ps2, Nat.add_assoc]; simp [hcond]
                                  refine lv_goto (tgt := 109) hx hb dX8_hours_105 (by decide) ?_
                                  refine lv_iadd hx hb dX8_hours_109 ?_
                                  rw [nI_add]
                                  refine lv_topi (fun t_110 et_110 => ?_)
                                  have et_110 : t_110 = nI (pHt N bb dd_ j + pStr (pHs N bb dd_ j) bb dd_ (i + 1)) := et_110.trans (congrArg nI hsn)
                                  subst et_110
                                  refine lv_istore (lv' := [(4, .int (nI (pHt N bb dd_ j + pStr (pHs N bb dd_ j) bb dd_ (i + 1)))), (0, .ref (ad 0)), (1, .int (nI nn)), (2, .int (nI bb)), (3, .int (nI dd_)), (5, .int (nI j)), (6, .int (nI i))]) hx hb dX8_hours_110 hl (by decide) rfl (fun ls hl => ?_)
                                  refine lv_iinc (v := nI (i + 1)) (lv' := [(6, .int (nI (i + 1))), (4, .int (nI (pHt N bb dd_ j + pStr (pHs N bb dd_ j) bb dd_ (i + 1)))), (0, .ref (ad 0)), (1, .int (nI nn)), (2, .int (nI bb)), (3, .int (nI dd_)), (5, .int (nI j))]) hx hb dX8_hours_112 hl (k := 6) rfl (show nI i + Int32.ofInt 1 = nI (i + 1) from nI_add i 1) (by decide) rfl (fun ls hl => ?_)
                                  refine lv_goto (tgt := 64) hx hb dX8_hours_115 (by decide) ?_
                                  exact ih_64 (i + 1) _ (by omega) (by omega) (hMn) (hQn) _ _ I _ (lv_sub hl [2, 3, 4, 5, 1, 6, 0] rfl)
                      exact LP_64 _ 0 _ (Nat.lt_succ_self _) (Nat.zero_le _) (hMj) (hQj) _ _ I _ (lv_sub hl [1, 2, 3, 4, 5, 6, 0] rfl)
                exact LP_55 _ 0 σ_46 (Nat.lt_succ_self _) (Nat.zero_le _) (hM) (qn_rf _) _ _ I _ (lv_sub hl [2, 3, 4, 5, 1, 0] rfl)
              · have c_39 : ¬ ((((N 2)) + nn) ≤ 999) := fun q_ => c_39 ((nI_leI (by omega) (by omega)).mpr q_)
                refine lv_bipush (v := (-2 : Int32)) hx hb dX8_hours_42 (by decide) ?_
                subst hQdef
                exact k_iret hx hb hr hlk I dX8_hours_44 (by rw [sHours_ok n1 n2 (Nat.zero_le _) b2 (Nat.zero_le _) d2, gHours, if_pos (by omega)]; exact ⟨rfl, hC⟩)
            · exact absurd c_23 (by decide)
          · refine lv_if_ne (tgt := 28) hx hb dX8_hours_23 (by decide) (fun c_23 => ?_) (fun c_23 => ?_)
            · exact absurd c_23 (by decide)
            · refine lv_iconst (v := (-1 : Int32)) hx hb dX8_hours_26 (by decide) ?_
              subst hQdef
              exact k_iret hx hb hr hlk I dX8_hours_27 (by rw [sHours_bad (by first | exact fun q => g1 q.1 | exact fun q => g2 q.2.1 | exact fun q => g3 q.2.2)]; exact ⟨rfl, hC⟩)
      · refine lv_if_eq (tgt := 26) hx hb dX8_hours_14 (by decide) (fun c_14 => ?_) (fun c_14 => ?_)
        · refine lv_iconst (v := (-1 : Int32)) hx hb dX8_hours_26 (by decide) ?_
          subst hQdef
          exact k_iret hx hb hr hlk I dX8_hours_27 (by rw [sHours_bad (by first | exact fun q => g1 q.1 | exact fun q => g2 q.2.1 | exact fun q => g3 q.2.2)]; exact ⟨rfl, hC⟩)
        · exact absurd c_14 (by decide)
  · refine lv_if_eq (tgt := 26) hx hb dX8_hours_7 (by decide) (fun c_7 => ?_) (fun c_7 => ?_)
    · refine lv_iconst (v := (-1 : Int32)) hx hb dX8_hours_26 (by decide) ?_
      subst hQdef
      exact k_iret hx hb hr hlk I dX8_hours_27 (by rw [sHours_bad (by first | exact fun q => g1 q.1 | exact fun q => g2 q.2.1 | exact fun q => g3 q.2.2)]; exact ⟨rfl, hC⟩)
    · exact absurd c_7 (by decide)

/-! THE REFERENCE: its chain -/
set_option maxHeartbeats 4000000 in
set_option maxRecDepth 100000 in
theorem c_X8_in (l : Launch) (x a b : Int32) : kMs l yX8_in wsX8_in ({ frames := 0, cells := 0, slots := 0, locals := 0 }) [.int x, .int a, .int b] (fun r => kT r (a.toInt ≤ x.toInt ∧ x.toInt ≤ b.toInt)) := by
  refine k_entryS (cc := cX8_in) (maxL := 3) (ret := (some .boolean)) (by decide) rfl (Nat.le_of_ble_eq_true rfl) ?_
  intro p e s m below meth c hx hb hr hml hown hts hlk ls hl
  have hown : s.vm.findClass RX8 = some m.cls := hown
  have hl : lv_has ls 3 [(0, .int x), (1, .int a), (2, .int b)] := hl
  refine lv_iload_n hx hb dX8_in_0 rfl (lv_at hl 0 rfl) ?_
  refine lv_iload_n hx hb dX8_in_1 rfl (lv_at hl 1 rfl) ?_
  refine lv_icmp_lt (tgt := 14) hx hb dX8_in_2 (by decide) (fun c_2 => ?_) (fun c_2 => ?_)
  · refine lv_iconst (v := nI 0) hx hb dX8_in_14 (by decide) ?_
    exact k_zsret hx hb hr (by decide) hlk dX8_in_15 (by simp only [ki_lt] at *; first | exact kT_1 (by omega) | exact kT_0 (by omega))
  · refine lv_iload_n hx hb dX8_in_5 rfl (lv_at hl 0 rfl) ?_
    refine lv_iload_n hx hb dX8_in_6 rfl (lv_at hl 2 rfl) ?_
    refine lv_icmp_gt (tgt := 14) hx hb dX8_in_7 (by decide) (fun c_7 => ?_) (fun c_7 => ?_)
    · refine lv_iconst (v := nI 0) hx hb dX8_in_14 (by decide) ?_
      exact k_zsret hx hb hr (by decide) hlk dX8_in_15 (by simp only [ki_lt] at *; first | exact kT_1 (by omega) | exact kT_0 (by omega))
    · refine lv_iconst (v := nI 1) hx hb dX8_in_10 (by decide) ?_
      refine lv_goto (tgt := 15) hx hb dX8_in_11 (by decide) ?_
      exact k_zsret hx hb hr (by decide) hlk dX8_in_15 (by simp only [ki_lt] at *; first | exact kT_1 (by omega) | exact kT_0 (by omega))
set_option maxHeartbeats 4000000 in
set_option maxRecDepth 100000 in
theorem c_X8_isWind (l : Launch) (b : Int32) : kMs l yX8_isWind wsX8_isWind ({ frames := 1, cells := 0, slots := 0, locals := 22 }) [.int b] (fun r => kT r ((nI 0).toInt ≤ b.toInt ∧ b.toInt ≤ (nI 20).toInt)) := by
  refine k_entryS (cc := cX8_isWind) (maxL := 1) (ret := (some .boolean)) (by decide) rfl (Nat.le_of_ble_eq_true rfl) ?_
  intro p e s m below meth c hx hb hr hml hown hts hlk ls hl
  have hown : s.vm.findClass RX8 = some m.cls := hown
  have hl : lv_has ls 1 [(0, .int b)] := hl
  refine lv_iload_n hx hb dX8_isWind_0 rfl (lv_at hl 0 rfl) ?_
  refine lv_iconst (v := nI 0) hx hb dX8_isWind_1 (by decide) ?_
  refine lv_bipush (v := nI 20) hx hb dX8_isWind_2 (by decide) ?_
  refine k_calls (As := [.int b, .int (nI 0), .int (nI 20)]) (rest := []) ⟨hx, hb, hml, hown, hts⟩ (c_X8_in l b (nI 0) (nI 20)) (va_cwS 3 hts gX8_isWind_X8_in rfl rfl rfl (by decide +kernel) ⟨Nat.le_of_ble_eq_true rfl, Nat.le_of_ble_eq_true rfl⟩) rfl hl.1 rfl (lv_room (Nat.le_of_ble_eq_true rfl)) dX8_isWind_4 ⟨Nat.le_of_ble_eq_true rfl, Nat.le_of_ble_eq_true rfl⟩ (fun r_4 hp_4 => ?_)
  rcases hp_4 with ⟨rfl, hb_⟩ | ⟨rfl, hb_⟩
  · exact k_zsret hx hb hr (by decide) hlk dX8_isWind_7 (by first | exact kT_1 hb_ | exact kT_0 hb_)
  · exact k_zsret hx hb hr (by decide) hlk dX8_isWind_7 (by first | exact kT_1 hb_ | exact kT_0 hb_)
set_option maxHeartbeats 4000000 in
set_option maxRecDepth 100000 in
theorem c_X8_root (l : Launch) (v : Nat) (hv : v < 10101 * 10101) : kMs l yX8_root wsX8_root ({ frames := 0, cells := 0, slots := 0, locals := 0 }) [.int (nI v)] (fun r => r = nI (isq v)) := by
  refine k_entryS (cc := cX8_root) (maxL := 4) (ret := (some .int)) (by decide) rfl (Nat.le_of_ble_eq_true rfl) ?_
  intro p e s m below meth c hx hb hr hml hown hts hlk ls hl
  have hown : s.vm.findClass RX8 = some m.cls := hown
  have hl : lv_has ls 4 [(0, .int (nI v))] := hl
  refine lv_iconst (v := nI 0) hx hb dX8_root_0 (by decide) ?_
  refine lv_istore_n (lv' := [(1, .int (nI 0)), (0, .int (nI v))]) hx hb dX8_root_1 rfl hl (by decide) rfl (fun ls hl => ?_)
  refine lv_sipush (v := nI 10100) hx hb dX8_root_2 (by decide) ?_
  refine lv_istore_n (lv' := [(2, .int (nI 10100)), (1, .int (nI 0)), (0, .int (nI v))]) hx hb dX8_root_5 rfl hl (by decide) rfl (fun ls hl => ?_)
  have LP_6 : ∀ (fuel_6 : Nat) (lo : Nat) (hi : Nat), hi - lo < fuel_6 → (lo ≤ hi) → (hi ≤ 10100) → (lo * lo ≤ v) → (v < (hi + 1) * (hi + 1)) → ∀ ls : Array Slot, lv_has ls 4 [(0, .int (nI v)), (1, .int (nI lo)), (2, .int (nI hi))] → W p l e (headSpec wsX8_root ({ frames := 0, cells := 0, slots := 0, locals := 0 })).room s m [.int (nI v)].toArray below meth c s.heap [] 0 0 (MQ below (vp_Si (fun r => r = nI (isq v))) [.int (nI v)].toArray s 0 0 (fun _ => False)) (F0 m 6 ls []) := by
    intro fuel_6
    induction fuel_6 with
    | zero => intro lo hi hf_6; exact absurd hf_6 (Nat.not_lt_zero _)
    | succ fuel_6 ih_6 =>
      intro lo hi hf_6 hlh hh9 hl1 hh1 ls hl
      refine lv_iload_n hx hb dX8_root_6 rfl (lv_at hl 1 rfl) ?_
      refine lv_iload_n hx hb dX8_root_7 rfl (lv_at hl 2 rfl) ?_
      refine lv_icmp_ge (tgt := 38) hx hb dX8_root_8 (by decide) (fun c_8 => ?_) (fun c_8 => ?_)
      · have c_8 : hi ≤ lo := (nI_leI (by omega) (by omega)).mp c_8
        have hle : lo = hi := by omega
        subst hle
        refine lv_iload_n hx hb dX8_root_38 rfl (lv_at hl 1 rfl) ?_
        exact k_isret hx hb hr hlk dX8_root_39 (by rw [isq_eq hl1 hh1])
      · have c_8 : ¬ (hi ≤ lo) := fun q_ => c_8 ((nI_leI (by omega) (by omega)).mpr q_)
        have hm1 : lo < (lo + hi + 1) / 2 := by omega
        have hm2 : (lo + hi + 1) / 2 ≤ hi := by omega
        have hm9 : (lo + hi + 1) / 2 * ((lo + hi + 1) / 2) ≤ 10100 * 10100 := sq_mono (by omega)
        refine lv_iload_n hx hb dX8_root_11 rfl (lv_at hl 1 rfl) ?_
        refine lv_iload_n hx hb dX8_root_12 rfl (lv_at hl 2 rfl) ?_
        refine lv_iadd hx hb dX8_root_13 ?_
        rw [nI_add]
        refine lv_iconst (v := nI 1) hx hb dX8_root_14 (by decide) ?_
        refine lv_iadd hx hb dX8_root_15 ?_
        rw [nI_add]
        refine lv_iconst (v := nI 2) hx hb dX8_root_16 (by decide) ?_
        refine lv_idiv hx hb dX8_root_17 (by decide) ?_
        refine lv_topi (fun t_18 et_18 => ?_)
        have et_18 : t_18 = nI ((lo + hi + 1) / 2) := et_18.trans (pk_div (by omega) (by decide) (by decide))
        subst et_18
        refine lv_istore_n (lv' := [(3, .int (nI ((lo + hi + 1) / 2))), (0, .int (nI v)), (1, .int (nI lo)), (2, .int (nI hi))]) hx hb dX8_root_18 rfl hl (by decide) rfl (fun ls hl => ?_)
        refine lv_iload_n hx hb dX8_root_19 rfl (lv_at hl 0 rfl) ?_
        refine lv_iload_n hx hb dX8_root_20 rfl (lv_at hl 0 rfl) ?_
        refine lv_imul hx hb dX8_root_21 ?_
        rw [pk_mul]
        refine lv_iload_n hx hb dX8_root_22 rfl (lv_at hl 1 rfl) ?_
        refine lv_icmp_gt (tgt := 31) hx hb dX8_root_23 (by decide) (fun c_23 => ?_) (fun c_23 => ?_)
        · have c_23 : v < ((((lo + hi + 1) / 2)) * (((lo + hi + 1) / 2))) := (nI_ltI (by omega) (by omega)).mp c_23
          refine lv_iload_n hx hb dX8_root_31 rfl (lv_at hl 0 rfl) ?_
          refine lv_iconst (v := nI 1) hx hb dX8_root_32 (by decide) ?_
          refine lv_isub hx hb dX8_root_33 ?_
          refine lv_topi (fun t_34 et_34 => ?_)
          have et_34 : t_34 = nI ((lo + hi + 1) / 2 - 1) := et_34.trans (pk_sub (by omega))
          subst et_34
          refine lv_istore_n (lv' := [(2, .int (nI ((lo + hi + 1) / 2 - 1))), (3, .int (nI ((lo + hi + 1) / 2))), (0, .int (nI v)), (1, .int (nI lo))]) hx hb dX8_root_34 rfl hl (by decide) rfl (fun ls hl => ?_)
          refine lv_goto (tgt := 6) hx hb dX8_root_35 (by decide) ?_
          exact ih_6 _ _ (by omega) (by omega) (by omega) (by first | assumption | omega) (by first | assumption | (rw [show (lo + hi + 1) / 2 - 1 + 1 = (lo + hi + 1) / 2 by omega]; omega)) _ (lv_sub hl [2, 3, 0] rfl)
        · have c_23 : ¬ (v < ((((lo + hi + 1) / 2)) * (((lo + hi + 1) / 2)))) := fun q_ => c_23 ((nI_ltI (by omega) (by omega)).mpr q_)
          refine lv_iload_n hx hb dX8_root_26 rfl (lv_at hl 0 rfl) ?_
          refine lv_istore_n (lv' := [(1, .int (nI ((lo + hi + 1) / 2))), (3, .int (nI ((lo + hi + 1) / 2))), (0, .int (nI v)), (2, .int (nI hi))]) hx hb dX8_root_27 rfl hl (by decide) rfl (fun ls hl => ?_)
          refine lv_goto (tgt := 35) hx hb dX8_root_28 (by decide) ?_
          refine lv_goto (tgt := 6) hx hb dX8_root_35 (by decide) ?_
          exact ih_6 _ _ (by omega) (by omega) (by omega) (by first | assumption | omega) (by first | assumption | (rw [show (lo + hi + 1) / 2 - 1 + 1 = (lo + hi + 1) / 2 by omega]; omega)) _ (lv_sub hl [2, 0, 3] rfl)
  exact LP_6 _ 0 10100 (Nat.lt_succ_self _) (by decide) (Nat.le_refl _) (Nat.zero_le _) (hv) _ (lv_sub hl [2, 1, 0] rfl)
set_option maxHeartbeats 4000000 in
set_option maxRecDepth 100000 in
theorem c_X8_rise (l : Launch) (h v : Nat) (hh : h ≤ 9999) (hv1 : 1 ≤ v) (hv : v ≤ 1299) : kMs l yX8_rise wsX8_rise ({ frames := 1, cells := 0, slots := 0, locals := 23 }) [.int (nI h), .int (nI v)] (fun r => r = nI (rz h v)) := by
  have hhh : h * h ≤ 9999 * 9999 := sq_mono hh
  have hvv : v * v ≤ 1299 * 1299 := sq_mono hv
  have hs1 := isq_v h v
  have hs9 : isq (h * h + v * v) ≤ 10100 := isq_up (by omega)
  refine k_entryS (cc := cX8_rise) (maxL := 2) (ret := (some .int)) (by decide) rfl (Nat.le_of_ble_eq_true rfl) ?_
  intro p e s m below meth c hx hb hr hml hown hts hlk ls hl
  have hown : s.vm.findClass RX8 = some m.cls := hown
  have hl : lv_has ls 2 [(0, .int (nI h)), (1, .int (nI v))] := hl
  refine lv_bipush (v := nI 10) hx hb dX8_rise_0 (by decide) ?_
  refine lv_iload_n hx hb dX8_rise_2 rfl (lv_at hl 1 rfl) ?_
  refine lv_imul hx hb dX8_rise_3 ?_
  rw [pk_mul]
  refine lv_iload_n hx hb dX8_rise_4 rfl (lv_at hl 0 rfl) ?_
  refine lv_iload_n hx hb dX8_rise_5 rfl (lv_at hl 0 rfl) ?_
  refine lv_imul hx hb dX8_rise_6 ?_
  rw [pk_mul]
  refine lv_iload_n hx hb dX8_rise_7 rfl (lv_at hl 1 rfl) ?_
  refine lv_iload_n hx hb dX8_rise_8 rfl (lv_at hl 1 rfl) ?_
  refine lv_imul hx hb dX8_rise_9 ?_
  rw [pk_mul]
  refine lv_iadd hx hb dX8_rise_10 ?_
  rw [nI_add]
  refine k_calls (As := [.int (nI ((h * h) + (v * v)))]) (rest := [.int (nI (10 * v))]) ⟨hx, hb, hml, hown, hts⟩ (c_X8_root l (h * h + v * v) (by omega)) (va_cwS 1 hts gX8_rise_X8_root rfl rfl rfl (by decide +kernel) ⟨Nat.le_of_ble_eq_true rfl, Nat.le_of_ble_eq_true rfl⟩) rfl hl.1 rfl (lv_room (Nat.le_of_ble_eq_true rfl)) dX8_rise_11 ⟨Nat.le_of_ble_eq_true rfl, Nat.le_of_ble_eq_true rfl⟩ (fun r_11 hp_11 => ?_)
  subst hp_11
  refine lv_idiv hx hb dX8_rise_14 (nI_ne0 (by omega) (by omega)) ?_
  exact k_isret hx hb hr hlk dX8_rise_15 (pk_div (by omega) (by omega) (by omega))
set_option maxHeartbeats 4000000 in
set_option maxRecDepth 100000 in
theorem c_X8_runs (l : Launch) (n w h u : Nat) (hn : n ≤ 60) (hw1 : 1 ≤ w) (hw : w ≤ 5) (hh : h ≤ 9999) (hu : u ≤ 999) : kMs l yX8_runs wsX8_runs ({ frames := 2, cells := 0, slots := 0, locals := 44 }) [.int (nI n), .int (nI w), .int (nI h), .int (nI u)] (fun r => r = nI (sX h w u n)) := by
  refine k_entryS (cc := cX8_runs) (maxL := 7) (ret := (some .int)) (by decide) rfl (Nat.le_of_ble_eq_true rfl) ?_
  intro p e s m below meth c hx hb hr hml hown hts hlk ls hl
  have hown : s.vm.findClass RX8 = some m.cls := hown
  have hl : lv_has ls 7 [(0, .int (nI n)), (1, .int (nI w)), (2, .int (nI h)), (3, .int (nI u))] := hl
  refine lv_iconst (v := nI 0) hx hb dX8_runs_0 (by decide) ?_
  refine lv_istore (lv' := [(4, .int (nI 0)), (0, .int (nI n)), (1, .int (nI w)), (2, .int (nI h)), (3, .int (nI u))]) hx hb dX8_runs_1 hl (by decide) rfl (fun ls hl => ?_)
  refine lv_iconst (v := nI 1) hx hb dX8_runs_3 (by decide) ?_
  refine lv_istore (lv' := [(5, .int (nI 1)), (4, .int (nI 0)), (0, .int (nI n)), (1, .int (nI w)), (2, .int (nI h)), (3, .int (nI u))]) hx hb dX8_runs_4 hl (by decide) rfl (fun ls hl => ?_)
  have LP_6 : ∀ (fuel_6 : Nat) (j : Nat), n - j < fuel_6 → (j ≤ n) → ∀ ls : Array Slot, lv_has ls 7 [(0, .int (nI n)), (1, .int (nI w)), (2, .int (nI h)), (3, .int (nI u)), (4, .int (nI (sX h w u j))), (5, .int (nI (j + 1)))] → W p l e (headSpec wsX8_runs ({ frames := 2, cells := 0, slots := 0, locals := 44 })).room s m [.int (nI n), .int (nI w), .int (nI h), .int (nI u)].toArray below meth c s.heap [] 0 0 (MQ below (vp_Si (fun r => r = nI (sX h w u n))) [.int (nI n), .int (nI w), .int (nI h), .int (nI u)].toArray s 0 0 (fun _ => False)) (F0 m 6 ls []) := by
    intro fuel_6
    induction fuel_6 with
    | zero => intro j hf_6; exact absurd hf_6 (Nat.not_lt_zero _)
    | succ fuel_6 ih_6 =>
      intro j hf_6 hjn ls hl
      refine lv_iload hx hb dX8_runs_6 (lv_at hl 5 rfl) ?_
      refine lv_iload_n hx hb dX8_runs_8 rfl (lv_at hl 0 rfl) ?_
      refine lv_icmp_gt (tgt := 46) hx hb dX8_runs_9 (by decide) (fun c_9 => ?_) (fun c_9 => ?_)
      · have c_9 : n < (j + 1) := (nI_ltI (by omega) (by omega)).mp c_9
        have hje : j = n := by omega
        refine lv_iload hx hb dX8_runs_46 (lv_at hl 4 rfl) ?_
        exact k_isret hx hb hr hlk dX8_runs_48 (by rw [hje])
      · have c_9 : ¬ (n < (j + 1)) := fun q_ => c_9 ((nI_ltI (by omega) (by omega)).mpr q_)
        have hD9 : w * (j + 1) ≤ 5 * 60 := Nat.mul_le_mul hw (by omega)
        have hD1 := Nat.mul_le_mul hw1 (show 1 ≤ j + 1 by omega)
        have hz10 := rz_le h (u + w * (j + 1))
        have hzz : rz h (u + w * (j + 1)) * rz h (u + w * (j + 1)) ≤ 10 * 10 := sq_mono hz10
        refine lv_iload_n hx hb dX8_runs_12 rfl (lv_at hl 2 rfl) ?_
        refine lv_iload_n hx hb dX8_runs_13 rfl (lv_at hl 3 rfl) ?_
        refine lv_iload_n hx hb dX8_runs_14 rfl (lv_at hl 1 rfl) ?_
        refine lv_iload hx hb dX8_runs_15 (lv_at hl 5 rfl) ?_
        refine lv_imul hx hb dX8_runs_17 ?_
        rw [pk_mul]
        refine lv_iadd hx hb dX8_runs_18 ?_
        rw [nI_add]
        refine k_calls (As := [.int (nI h), .int (nI (u + (w * (j + 1))))]) (rest := []) ⟨hx, hb, hml, hown, hts⟩ (c_X8_rise l h (u + w * (j + 1)) hh (by omega) (by omega)) (va_cwS 2 hts gX8_runs_X8_rise rfl rfl rfl (by decide +kernel) ⟨Nat.le_of_ble_eq_true rfl, Nat.le_of_ble_eq_true rfl⟩) rfl hl.1 rfl (lv_room (Nat.le_of_ble_eq_true rfl)) dX8_runs_19 ⟨Nat.le_of_ble_eq_true rfl, Nat.le_of_ble_eq_true rfl⟩ (fun r_19 hp_19 => ?_)
        subst hp_19
        refine lv_istore (lv' := [(6, .int (nI (rz h (u + w * (j + 1))))), (0, .int (nI n)), (1, .int (nI w)), (2, .int (nI h)), (3, .int (nI u)), (4, .int (nI (sX h w u j))), (5, .int (nI (j + 1)))]) hx hb dX8_runs_22 hl (by decide) rfl (fun ls hl => ?_)
        refine lv_iload hx hb dX8_runs_24 (lv_at hl 5 rfl) ?_
        refine lv_bipush (v := nI 100) hx hb dX8_runs_26 (by decide) ?_
        refine lv_iload hx hb dX8_runs_28 (lv_at hl 0 rfl) ?_
        refine lv_iload hx hb dX8_runs_30 (lv_at hl 0 rfl) ?_
        refine lv_imul hx hb dX8_runs_32 ?_
        rw [pk_mul]
        refine lv_isub hx hb dX8_runs_33 ?_
        refine lv_topi (fun t_34 et_34 => ?_)
        have et_34 : t_34 = nI (100 - rz h (u + w * (j + 1)) * rz h (u + w * (j + 1))) := et_34.trans (pk_sub hzz)
        subst et_34
        refine k_calls (As := [.int (nI (100 - rz h (u + w * (j + 1)) * rz h (u + w * (j + 1))))]) (rest := [.int (nI (sX h w u j))]) ⟨hx, hb, hml, hown, hts⟩ (c_X8_root l (100 - rz h (u + w * (j + 1)) * rz h (u + w * (j + 1))) (by omega)) (va_cwS 1 hts gX8_runs_X8_root rfl rfl rfl (by decide +kernel) ⟨Nat.le_of_ble_eq_true rfl, Nat.le_of_ble_eq_true rfl⟩) rfl hl.1 rfl (lv_room (Nat.le_of_ble_eq_true rfl)) dX8_runs_34 ⟨Nat.le_of_ble_eq_true rfl, Nat.le_of_ble_eq_true rfl⟩ (fun r_34 hp_34 => ?_)
        subst hp_34
        refine lv_iadd hx hb dX8_runs_37 ?_
        rw [nI_add]
        refine lv_istore (lv' := [(4, .int (nI ((sX h w u j) + (isq (100 - rz h (u + w * (j + 1)) * rz h (u + w * (j + 1))))))), (6, .int (nI (rz h (u + w * (j + 1))))), (0, .int (nI n)), (1, .int (nI w)), (2, .int (nI h)), (3, .int (nI u)), (5, .int (nI (j + 1)))]) hx hb dX8_runs_38 hl (by decide) rfl (fun ls hl => ?_)
        refine lv_iinc (v := nI (j + 1 + 1)) (lv' := [(5, .int (nI (j + 1 + 1))), (4, .int (nI ((sX h w u j) + (isq (100 - rz h (u + w * (j + 1)) * rz h (u + w * (j + 1))))))), (6, .int (nI (rz h (u + w * (j + 1))))), (0, .int (nI n)), (1, .int (nI w)), (2, .int (nI h)), (3, .int (nI u))]) hx hb dX8_runs_40 hl (k := 6) rfl (show nI (j + 1) + Int32.ofInt 1 = nI (j + 1 + 1) from nI_add (j + 1) 1) (by decide) rfl (fun ls hl => ?_)
        refine lv_goto (tgt := 6) hx hb dX8_runs_43 (by decide) ?_
        exact ih_6 (j + 1) (by omega) (by omega) _ (lv_sub hl [3, 4, 5, 6, 1, 0] rfl)
  exact LP_6 _ 0 (Nat.lt_succ_self _) (Nat.zero_le _) _ (lv_sub hl [2, 3, 4, 5, 1, 0] rfl)
set_option maxHeartbeats 4000000 in
set_option maxRecDepth 100000 in
theorem c_X8_rises (l : Launch) (n w h u : Nat) (hn : n ≤ 60) (hw1 : 1 ≤ w) (hw : w ≤ 5) (hh : h ≤ 9999) (hu : u ≤ 999) : kMs l yX8_rises wsX8_rises ({ frames := 2, cells := 0, slots := 0, locals := 44 }) [.int (nI n), .int (nI w), .int (nI h), .int (nI u)] (fun r => r = nI (sR h w u n)) := by
  refine k_entryS (cc := cX8_rises) (maxL := 6) (ret := (some .int)) (by decide) rfl (Nat.le_of_ble_eq_true rfl) ?_
  intro p e s m below meth c hx hb hr hml hown hts hlk ls hl
  have hown : s.vm.findClass RX8 = some m.cls := hown
  have hl : lv_has ls 6 [(0, .int (nI n)), (1, .int (nI w)), (2, .int (nI h)), (3, .int (nI u))] := hl
  refine lv_iconst (v := nI 0) hx hb dX8_rises_0 (by decide) ?_
  refine lv_istore (lv' := [(4, .int (nI 0)), (0, .int (nI n)), (1, .int (nI w)), (2, .int (nI h)), (3, .int (nI u))]) hx hb dX8_rises_1 hl (by decide) rfl (fun ls hl => ?_)
  refine lv_iconst (v := nI 1) hx hb dX8_rises_3 (by decide) ?_
  refine lv_istore (lv' := [(5, .int (nI 1)), (4, .int (nI 0)), (0, .int (nI n)), (1, .int (nI w)), (2, .int (nI h)), (3, .int (nI u))]) hx hb dX8_rises_4 hl (by decide) rfl (fun ls hl => ?_)
  have LP_6 : ∀ (fuel_6 : Nat) (j : Nat), n - j < fuel_6 → (j ≤ n) → ∀ ls : Array Slot, lv_has ls 6 [(0, .int (nI n)), (1, .int (nI w)), (2, .int (nI h)), (3, .int (nI u)), (4, .int (nI (sR h w u j))), (5, .int (nI (j + 1)))] → W p l e (headSpec wsX8_rises ({ frames := 2, cells := 0, slots := 0, locals := 44 })).room s m [.int (nI n), .int (nI w), .int (nI h), .int (nI u)].toArray below meth c s.heap [] 0 0 (MQ below (vp_Si (fun r => r = nI (sR h w u n))) [.int (nI n), .int (nI w), .int (nI h), .int (nI u)].toArray s 0 0 (fun _ => False)) (F0 m 6 ls []) := by
    intro fuel_6
    induction fuel_6 with
    | zero => intro j hf_6; exact absurd hf_6 (Nat.not_lt_zero _)
    | succ fuel_6 ih_6 =>
      intro j hf_6 hjn ls hl
      refine lv_iload hx hb dX8_rises_6 (lv_at hl 5 rfl) ?_
      refine lv_iload_n hx hb dX8_rises_8 rfl (lv_at hl 0 rfl) ?_
      refine lv_icmp_gt (tgt := 33) hx hb dX8_rises_9 (by decide) (fun c_9 => ?_) (fun c_9 => ?_)
      · have c_9 : n < (j + 1) := (nI_ltI (by omega) (by omega)).mp c_9
        have hje : j = n := by omega
        refine lv_iload hx hb dX8_rises_33 (lv_at hl 4 rfl) ?_
        exact k_isret hx hb hr hlk dX8_rises_35 (by rw [hje])
      · have c_9 : ¬ (n < (j + 1)) := fun q_ => c_9 ((nI_ltI (by omega) (by omega)).mpr q_)
        have hD9 : w * (j + 1) ≤ 5 * 60 := Nat.mul_le_mul hw (by omega)
        have hD1 := Nat.mul_le_mul hw1 (show 1 ≤ j + 1 by omega)
        have hz10 := rz_le h (u + w * (j + 1))
        have hzz : rz h (u + w * (j + 1)) * rz h (u + w * (j + 1)) ≤ 10 * 10 := sq_mono hz10
        refine lv_iload hx hb dX8_rises_12 (lv_at hl 4 rfl) ?_
        refine lv_iload_n hx hb dX8_rises_14 rfl (lv_at hl 2 rfl) ?_
        refine lv_iload_n hx hb dX8_rises_15 rfl (lv_at hl 3 rfl) ?_
        refine lv_iload_n hx hb dX8_rises_16 rfl (lv_at hl 1 rfl) ?_
        refine lv_iload hx hb dX8_rises_17 (lv_at hl 5 rfl) ?_
        refine lv_imul hx hb dX8_rises_19 ?_
        rw [pk_mul]
        refine lv_iadd hx hb dX8_rises_20 ?_
        rw [nI_add]
        refine k_calls (As := [.int (nI h), .int (nI (u + (w * (j + 1))))]) (rest := [.int (nI (sR h w u j))]) ⟨hx, hb, hml, hown, hts⟩ (c_X8_rise l h (u + w * (j + 1)) hh (by omega) (by omega)) (va_cwS 2 hts gX8_rises_X8_rise rfl rfl rfl (by decide +kernel) ⟨Nat.le_of_ble_eq_true rfl, Nat.le_of_ble_eq_true rfl⟩) rfl hl.1 rfl (lv_room (Nat.le_of_ble_eq_true rfl)) dX8_rises_21 ⟨Nat.le_of_ble_eq_true rfl, Nat.le_of_ble_eq_true rfl⟩ (fun r_21 hp_21 => ?_)
        subst hp_21
        refine lv_iadd hx hb dX8_rises_24 ?_
        rw [nI_add]
        refine lv_istore (lv' := [(4, .int (nI ((sR h w u j) + (rz h (u + w * (j + 1)))))), (0, .int (nI n)), (1, .int (nI w)), (2, .int (nI h)), (3, .int (nI u)), (5, .int (nI (j + 1)))]) hx hb dX8_rises_25 hl (by decide) rfl (fun ls hl => ?_)
        refine lv_iinc (v := nI (j + 1 + 1)) (lv' := [(5, .int (nI (j + 1 + 1))), (4, .int (nI ((sR h w u j) + (rz h (u + w * (j + 1)))))), (0, .int (nI n)), (1, .int (nI w)), (2, .int (nI h)), (3, .int (nI u))]) hx hb dX8_rises_27 hl (k := 5) rfl (show nI (j + 1) + Int32.ofInt 1 = nI (j + 1 + 1) from nI_add (j + 1) 1) (by decide) rfl (fun ls hl => ?_)
        refine lv_goto (tgt := 6) hx hb dX8_rises_30 (by decide) ?_
        exact ih_6 (j + 1) (by omega) (by omega) _ (lv_sub hl [2, 3, 4, 5, 1, 0] rfl)
  exact LP_6 _ 0 (Nat.lt_succ_self _) (Nat.zero_le _) _ (lv_sub hl [2, 3, 4, 5, 1, 0] rfl)
set_option maxHeartbeats 4000000 in
set_option maxRecDepth 100000 in
theorem c_X8_chain (cy : Nat → ClassId) (D : va_G) (ad : Nat → Nat) (l : Launch) (σ : Nat → Nat → Int32) (x n w h dq : Nat) (hx20 : x < 20) (hn : n ≤ 60) (hw1 : 1 ≤ w) (hw : w ≤ 5) (hh : h ≤ 9999) (hd20 : dq ≤ 20) (ed : σ 1 (3 + x) = nI dq) : kMv 6 ad (kcM cy ad) cy D l yX8_chain wsX8_chain ({ frames := 3, cells := 0, slots := 0, locals := 70 }) [.ref (ad 0), .int (nI x), .int (nI n), .int (nI w), .int (nI h)] σ (fun σ' => ∃ R : Nat → Int32, σ' = va_up σ 0 R ∧ (∀ j, j < 8 → R j = σ 0 j) ∧ mLie R h w (10 * dq) n) := by
  refine k_entry (cc := cX8_chain) (maxL := 7) (ret := none) (by decide) rfl (Nat.le_of_ble_eq_true rfl) ?_
  intro p e s m below meth c hx hb hr hml hown hts hlk E I ls hl
  have hA : ∀ q, s.heap.size ≤ q → kA 6 ad s.heap.size q := fun q h => Or.inr h
  have hown : s.vm.findClass RX8 = some m.cls := hown
  have hl : lv_has ls 7 [(0, .ref (ad 0)), (1, .int (nI x)), (2, .int (nI n)), (3, .int (nI w)), (4, .int (nI h))] := hl
  have iX8 : ∀ w ∈ u_ws RX8 TX8 13, w ∈ wsX8_chain := fun w h => List.mem_cons_of_mem _ (List.mem_append_right _ h)
  refine lv_bipush (v := nI 10) hx hb dX8_chain_0 (by decide) ?_
  refine lv_aload_n hx hb dX8_chain_2 rfl (lv_at hl 0 rfl) ?_
  refine k_get (C := RX8) (T := TX8) (N := 13) (v := .ref (ad 1)) hx hb hts hown E I iX8 (0) (by decide) (r0 := σ 0) rfl km_0 rfl 0 (by decide) (List.mem_of_getElem? (i := 1) rfl) rfl dX8_chain_3 ?_
  refine lv_iconst (v := nI 3) hx hb dX8_chain_6 (by decide) ?_
  refine lv_iload_n hx hb dX8_chain_7 rfl (lv_at hl 1 rfl) ?_
  refine lv_iadd hx hb dX8_chain_8 ?_
  rw [nI_add]
  refine k_iald hx hb E I (1) (by decide) (r0 := σ 1) rfl km_1 (vp_in_nI (by omega) (by decide)) dX8_chain_9 ?_
  rw [nI_clamp (by omega)]
  rw [ed]
  refine lv_imul hx hb dX8_chain_10 ?_
  rw [pk_mul]
  refine lv_istore (lv' := [(5, .int (nI (10 * dq))), (0, .ref (ad 0)), (1, .int (nI x)), (2, .int (nI n)), (3, .int (nI w)), (4, .int (nI h))]) hx hb dX8_chain_11 hl (by decide) rfl (fun ls hl => ?_)
  refine lv_iconst (v := nI 0) hx hb dX8_chain_13 (by decide) ?_
  refine lv_istore (lv' := [(6, .int (nI 0)), (5, .int (nI (10 * dq))), (0, .ref (ad 0)), (1, .int (nI x)), (2, .int (nI n)), (3, .int (nI w)), (4, .int (nI h))]) hx hb dX8_chain_14 hl (by decide) rfl (fun ls hl => ?_)
  refine lv_aload_n hx hb dX8_chain_16 rfl (lv_at hl 2 rfl) ?_
  refine lv_iconst (v := nI 0) hx hb dX8_chain_17 (by decide) ?_
  refine k_put (C := RX8) (T := TX8) (N := 13) (ty0 := tyX8) (ty := .int) (v := .int (nI 0)) hx hb hts hown E I iX8 tyX8_ok nmX8 (0) (by decide) (r0 := σ 0) rfl km_0 rfl 8 (by decide) (List.mem_of_getElem? (i := 2) rfl) rfl rfl rfl rfl (Nat.le_of_ble_eq_true rfl) (upd (σ 0) 8 (nI 0)) rfl (σ2 := va_up σ 0 (upd (σ 0) 8 (nI 0))) rfl dX8_chain_18 (fun H locs I => ?_)
  have LP_21 : ∀ (fuel_21 : Nat) (k : Nat), n - k < fuel_21 → (k ≤ n) → (∀ j, j < k → sR h w 0 j < 10 * dq) → ∀ (H : Heap) (locs : List Loc), kI 6 ad (kcM cy ad) D (kA 6 ad s.heap.size) s.heap (va_up σ 0 (upd (σ 0) 8 (nI k))) H locs → ∀ ls : Array Slot, lv_has ls 7 [(0, .ref (ad 0)), (1, .int (nI x)), (2, .int (nI n)), (3, .int (nI w)), (4, .int (nI h)), (5, .int (nI (10 * dq))), (6, .int (nI (sR h w 0 k)))] → W p l e (headSpec wsX8_chain ({ frames := 3, cells := 0, slots := 0, locals := 70 })).room s m [.ref (ad 0), .int (nI x), .int (nI n), .int (nI w), .int (nI h)].toArray below meth c H locs 0 0 (MQ below (va_Qv (fun σ' => ∃ R : Nat → Int32, σ' = va_up σ 0 R ∧ (∀ j, j < 8 → R j = σ 0 j) ∧ mLie R h w (10 * dq) n) (kB 6 ad (kcM cy ad) D) (kA 6 ad s.heap.size)) [.ref (ad 0), .int (nI x), .int (nI n), .int (nI w), .int (nI h)].toArray s 0 0 (kA 6 ad s.heap.size)) (F0 m 21 ls []) := by
    intro fuel_21
    induction fuel_21 with
    | zero => intro k hf_21; exact absurd hf_21 (Nat.not_lt_zero _)
    | succ fuel_21 ih_21 =>
      intro k hf_21 hkn hno H locs I ls hl
      have hs1 := sR_le h w 0 k
      refine lv_iload hx hb dX8_chain_21 (lv_at hl 6 rfl) ?_
      refine lv_iload hx hb dX8_chain_23 (lv_at hl 5 rfl) ?_
      refine lv_icmp_ge (tgt := 65) hx hb dX8_chain_25 (by decide) (fun c_25 => ?_) (fun c_25 => ?_)
      · have c_25 : (10 * dq) ≤ (sR h w 0 k) := (nI_leI (by omega) (by omega)).mp c_25
        have hgk : hg h w 0 (10 * dq) n = k := hg_eq hkn hno (fun z => by omega)
        refine lv_aload_n hx hb dX8_chain_65 rfl (lv_at hl 0 rfl) ?_
        refine lv_iload_n hx hb dX8_chain_66 rfl (lv_at hl 2 rfl) ?_
        refine lv_aload_n hx hb dX8_chain_67 rfl (lv_at hl 0 rfl) ?_
        refine k_get (C := RX8) (T := TX8) (N := 13) (v := .int (nI k)) hx hb hts hown E I iX8 (0) (by decide) (r0 := (upd (σ 0) 8 (nI k))) rfl km_0 rfl 8 (by decide) (List.mem_of_getElem? (i := 2) rfl) rfl dX8_chain_68 ?_
        refine lv_isub hx hb dX8_chain_71 ?_
        refine lv_topi (fun t_72 et_72 => ?_)
        have et_72 : t_72 = nI (n - k) := et_72.trans (pk_sub hkn)
        subst et_72
        refine k_put (C := RX8) (T := TX8) (N := 13) (ty0 := tyX8) (ty := .int) (v := .int (nI (n - k))) hx hb hts hown E I iX8 tyX8_ok nmX8 (0) (by decide) (r0 := (upd (σ 0) 8 (nI k))) rfl km_0 rfl 9 (by decide) (List.mem_of_getElem? (i := 3) rfl) rfl rfl rfl rfl (Nat.le_of_ble_eq_true rfl) (upd (upd (σ 0) 8 (nI k)) 9 (nI (n - k))) rfl (σ2 := va_up σ 0 (upd (upd (σ 0) 8 (nI k)) 9 (nI (n - k)))) (bx_uu _ _ _ _) dX8_chain_72 (fun H locs I => ?_)
        refine lv_aload_n hx hb dX8_chain_75 rfl (lv_at hl 0 rfl) ?_
        refine lv_iconst (v := nI 0) hx hb dX8_chain_76 (by decide) ?_
        refine k_put (C := RX8) (T := TX8) (N := 13) (ty0 := tyX8) (ty := .int) (v := .int (nI 0)) hx hb hts hown E I iX8 tyX8_ok nmX8 (0) (by decide) (r0 := (upd (upd (σ 0) 8 (nI k)) 9 (nI (n - k)))) rfl km_0 rfl 11 (by decide) (List.mem_of_getElem? (i := 4) rfl) rfl rfl rfl rfl (Nat.le_of_ble_eq_true rfl) (upd (upd (upd (σ 0) 8 (nI k)) 9 (nI (n - k))) 11 (nI 0)) rfl (σ2 := va_up σ 0 (upd (upd (upd (σ 0) 8 (nI k)) 9 (nI (n - k))) 11 (nI 0))) (bx_uu _ _ _ _) dX8_chain_77 (fun H locs I => ?_)
        refine lv_aload_n hx hb dX8_chain_80 rfl (lv_at hl 0 rfl) ?_
        refine lv_iconst (v := nI 0) hx hb dX8_chain_81 (by decide) ?_
        refine k_put (C := RX8) (T := TX8) (N := 13) (ty0 := tyX8) (ty := .boolean) (v := .int (nI 0)) hx hb hts hown E I iX8 tyX8_ok nmX8 (0) (by decide) (r0 := (upd (upd (upd (σ 0) 8 (nI k)) 9 (nI (n - k))) 11 (nI 0))) rfl km_0 rfl 12 (by decide) (List.mem_of_getElem? (i := 5) rfl) rfl rfl (by decide) (by decide) (Nat.le_of_ble_eq_true rfl) (upd (upd (upd (upd (σ 0) 8 (nI k)) 9 (nI (n - k))) 11 (nI 0)) 12 (nI 0)) rfl (σ2 := va_up σ 0 (upd (upd (upd (upd (σ 0) 8 (nI k)) 9 (nI (n - k))) 11 (nI 0)) 12 (nI 0))) (bx_uu _ _ _ _) dX8_chain_82 (fun H locs I => ?_)
        refine lv_iload hx hb dX8_chain_85 (lv_at hl 6 rfl) ?_
        refine lv_iload hx hb dX8_chain_87 (lv_at hl 5 rfl) ?_
        refine lv_icmp_lt (tgt := 116) hx hb dX8_chain_89 (by decide) (fun c_89 => ?_) (fun c_89 => ?_)
        · have c_89 : (sR h w 0 k) < (10 * dq) := (nI_ltI (by omega) (by omega)).mp c_89
          have hkn2 : k = n := by
            rcases Nat.lt_or_ge k n with q | q
            · have := hg_yes (h := h) (w := w) (u := 0) (d := 10 * dq) (n := n) (by omega)
              rw [hgk] at this
              omega
            · omega
          have h0 : sR h w 0 n < 10 * dq := by rw [← hkn2]; omega
          refine lv_aload_n hx hb dX8_chain_116 rfl (lv_at hl 0 rfl) ?_
          refine lv_bipush (v := nI 10) hx hb dX8_chain_117 (by decide) ?_
          refine lv_iload_n hx hb dX8_chain_119 rfl (lv_at hl 2 rfl) ?_
          refine lv_imul hx hb dX8_chain_120 ?_
          rw [pk_mul]
          refine lv_iload hx hb dX8_chain_121 (lv_at hl 5 rfl) ?_
          refine lv_icmp_ge (tgt := 132) hx hb dX8_chain_123 (by decide) (fun c_123 => ?_) (fun c_123 => ?_)
          · have c_123 : (10 * dq) ≤ (10 * n) := (nI_leI (by omega) (by omega)).mp c_123
            refine lv_iconst (v := nI 1) hx hb dX8_chain_132 (by decide) ?_
            refine k_put (C := RX8) (T := TX8) (N := 13) (ty0 := tyX8) (ty := .int) (v := .int (nI 1)) hx hb hts hown E I iX8 tyX8_ok nmX8 (0) (by decide) (r0 := (upd (upd (upd (upd (σ 0) 8 (nI k)) 9 (nI (n - k))) 11 (nI 0)) 12 (nI 0))) rfl km_0 rfl 11 (by decide) (List.mem_of_getElem? (i := 4) rfl) rfl rfl rfl rfl (Nat.le_of_ble_eq_true rfl) (upd (upd (upd (upd (σ 0) 8 (nI k)) 9 (nI (n - k))) 11 (nI 1)) 12 (nI 0)) rfl (σ2 := va_up σ 0 (upd (upd (upd (upd (σ 0) 8 (nI k)) 9 (nI (n - k))) 11 (nI 1)) 12 (nI 0))) (bx_uu _ _ _ _) dX8_chain_133 (fun H locs I => ?_)
            have LP_136 : ∀ (fuel_136 : Nat) (u : Nat), 1000 - u < fuel_136 → (1 ≤ u) → (u ≤ 1000) → (∀ v, v < u → sR h w v n < 10 * dq) → ∀ (H : Heap) (locs : List Loc), kI 6 ad (kcM cy ad) D (kA 6 ad s.heap.size) s.heap (va_up σ 0 (upd (upd (upd (upd (σ 0) 8 (nI k)) 9 (nI (n - k))) 11 (nI u)) 12 (nI 0))) H locs → ∀ ls : Array Slot, lv_has ls 7 [(0, .ref (ad 0)), (2, .int (nI n)), (3, .int (nI w)), (4, .int (nI h)), (5, .int (nI (10 * dq)))] → W p l e (headSpec wsX8_chain ({ frames := 3, cells := 0, slots := 0, locals := 70 })).room s m [.ref (ad 0), .int (nI x), .int (nI n), .int (nI w), .int (nI h)].toArray below meth c H locs 0 0 (MQ below (va_Qv (fun σ' => ∃ R : Nat → Int32, σ' = va_up σ 0 R ∧ (∀ j, j < 8 → R j = σ 0 j) ∧ mLie R h w (10 * dq) n) (kB 6 ad (kcM cy ad) D) (kA 6 ad s.heap.size)) [.ref (ad 0), .int (nI x), .int (nI n), .int (nI w), .int (nI h)].toArray s 0 0 (kA 6 ad s.heap.size)) (F0 m 136 ls []) := by
              intro fuel_136
              induction fuel_136 with
              | zero => intro u hf_136; exact absurd hf_136 (Nat.not_lt_zero _)
              | succ fuel_136 ih_136 =>
                intro u hf_136 hu1 hu9 hun H locs I ls hl
                refine lv_aload_n hx hb dX8_chain_136 rfl (lv_at hl 0 rfl) ?_
                refine k_get (C := RX8) (T := TX8) (N := 13) (v := .int (nI u)) hx hb hts hown E I iX8 (0) (by decide) (r0 := (upd (upd (upd (upd (σ 0) 8 (nI k)) 9 (nI (n - k))) 11 (nI u)) 12 (nI 0))) rfl km_0 rfl 11 (by decide) (List.mem_of_getElem? (i := 4) rfl) rfl dX8_chain_137 ?_
                refine lv_sipush (v := nI 999) hx hb dX8_chain_140 (by decide) ?_
                refine lv_icmp_gt (tgt := 175) hx hb dX8_chain_143 (by decide) (fun c_143 => ?_) (fun c_143 => ?_)
                · have c_143 : 999 < u := (nI_ltI (by omega) (by omega)).mp c_143
                  have hul : lf h w (10 * dq) n = u := by have := lf_eq (h := h) (w := w) (d := 10 * dq) (n := n) (t := u - 1) (by omega) (hun _ (by omega)) (fun z => absurd z (by omega)); omega
                  have hz := zLie_no (hgk.trans hkn2) h0 hul
                  refine lv_aload_n hx hb dX8_chain_175 rfl (lv_at hl 0 rfl) ?_
                  refine lv_aload_n hx hb dX8_chain_176 rfl (lv_at hl 0 rfl) ?_
                  refine k_get (C := RX8) (T := TX8) (N := 13) (v := .int (nI u)) hx hb hts hown E I iX8 (0) (by decide) (r0 := (upd (upd (upd (upd (σ 0) 8 (nI k)) 9 (nI (n - k))) 11 (nI u)) 12 (nI 0))) rfl km_0 rfl 11 (by decide) (List.mem_of_getElem? (i := 4) rfl) rfl dX8_chain_177 ?_
                  refine lv_sipush (v := nI 999) hx hb dX8_chain_180 (by decide) ?_
                  refine lv_icmp_le (tgt := 190) hx hb dX8_chain_183 (by decide) (fun c_183 => ?_) (fun c_183 => ?_)
                  · have c_183 : u ≤ 999 := (nI_leI (by omega) (by omega)).mp c_183
                    have hz3 := hz.2.2 (by omega)
                    refine lv_iconst (v := nI 0) hx hb dX8_chain_190 (by decide) ?_
                    refine k_put (C := RX8) (T := TX8) (N := 13) (ty0 := tyX8) (ty := .boolean) (v := .int (nI 0)) hx hb hts hown E I iX8 tyX8_ok nmX8 (0) (by decide) (r0 := (upd (upd (upd (upd (σ 0) 8 (nI k)) 9 (nI (n - k))) 11 (nI u)) 12 (nI 0))) rfl km_0 rfl 12 (by decide) (List.mem_of_getElem? (i := 5) rfl) rfl rfl (by decide) (by decide) (Nat.le_of_ble_eq_true rfl) (upd (upd (upd (upd (σ 0) 8 (nI k)) 9 (nI (n - k))) 11 (nI u)) 12 (nI 0)) rfl (σ2 := va_up σ 0 (upd (upd (upd (upd (σ 0) 8 (nI k)) 9 (nI (n - k))) 11 (nI u)) 12 (nI 0))) (bx_uu _ _ _ _) dX8_chain_191 (fun H locs I => ?_)
                    refine lv_aload_n hx hb dX8_chain_194 rfl (lv_at hl 0 rfl) ?_
                    refine lv_aload_n hx hb dX8_chain_195 rfl (lv_at hl 0 rfl) ?_
                    refine k_get (C := RX8) (T := TX8) (N := 13) (v := .int (nI 0)) hx hb hts hown E I iX8 (0) (by decide) (r0 := (upd (upd (upd (upd (σ 0) 8 (nI k)) 9 (nI (n - k))) 11 (nI u)) 12 (nI 0))) rfl km_0 rfl 12 (by decide) (List.mem_of_getElem? (i := 5) rfl) rfl dX8_chain_196 ?_
                    refine lv_if_eq (tgt := 208) hx hb dX8_chain_199 (by decide) (fun c_199 => ?_) (fun c_199 => ?_)
                    · refine lv_aload_n hx hb dX8_chain_208 rfl (lv_at hl 0 rfl) ?_
                      refine k_get (C := RX8) (T := TX8) (N := 13) (v := .int (nI u)) hx hb hts hown E I iX8 (0) (by decide) (r0 := (upd (upd (upd (upd (σ 0) 8 (nI k)) 9 (nI (n - k))) 11 (nI u)) 12 (nI 0))) rfl km_0 rfl 11 (by decide) (List.mem_of_getElem? (i := 4) rfl) rfl dX8_chain_209 ?_
                      refine k_put (C := RX8) (T := TX8) (N := 13) (ty0 := tyX8) (ty := .int) (v := .int (nI u)) hx hb hts hown E I iX8 tyX8_ok nmX8 (0) (by decide) (r0 := (upd (upd (upd (upd (σ 0) 8 (nI k)) 9 (nI (n - k))) 11 (nI u)) 12 (nI 0))) rfl km_0 rfl 11 (by decide) (List.mem_of_getElem? (i := 4) rfl) rfl rfl rfl rfl (Nat.le_of_ble_eq_true rfl) (upd (upd (upd (upd (σ 0) 8 (nI k)) 9 (nI (n - k))) 11 (nI u)) 12 (nI 0)) rfl (σ2 := va_up σ 0 (upd (upd (upd (upd (σ 0) 8 (nI k)) 9 (nI (n - k))) 11 (nI u)) 12 (nI 0))) (bx_uu _ _ _ _) dX8_chain_212 (fun H locs I => ?_)
                      refine lv_aload_n hx hb dX8_chain_215 rfl (lv_at hl 0 rfl) ?_
                      refine lv_aload_n hx hb dX8_chain_216 rfl (lv_at hl 0 rfl) ?_
                      refine k_get (C := RX8) (T := TX8) (N := 13) (v := .int (nI 0)) hx hb hts hown E I iX8 (0) (by decide) (r0 := (upd (upd (upd (upd (σ 0) 8 (nI k)) 9 (nI (n - k))) 11 (nI u)) 12 (nI 0))) rfl km_0 rfl 12 (by decide) (List.mem_of_getElem? (i := 5) rfl) rfl dX8_chain_217 ?_
                      refine lv_if_eq (tgt := 227) hx hb dX8_chain_220 (by decide) (fun c_220 => ?_) (fun c_220 => ?_)
                      · refine lv_iload_n hx hb dX8_chain_227 rfl (lv_at hl 1 rfl) ?_
                        refine lv_iload_n hx hb dX8_chain_228 rfl (lv_at hl 2 rfl) ?_
                        refine lv_iload hx hb dX8_chain_229 (lv_at hl 3 rfl) ?_
                        refine lv_aload_n hx hb dX8_chain_231 rfl (lv_at hl 0 rfl) ?_
                        refine k_get (C := RX8) (T := TX8) (N := 13) (v := .int (nI u)) hx hb hts hown E I iX8 (0) (by decide) (r0 := (upd (upd (upd (upd (σ 0) 8 (nI k)) 9 (nI (n - k))) 11 (nI u)) 12 (nI 0))) rfl km_0 rfl 11 (by decide) (List.mem_of_getElem? (i := 4) rfl) rfl dX8_chain_232 ?_
                        refine k_calls (As := [.int (nI n), .int (nI w), .int (nI h), .int (nI u)]) (rest := [.ref (ad 0)]) ⟨hx, hb, hml, hown, hts⟩ (c_X8_runs l n w h u hn hw1 hw hh (by omega)) (va_cwS 4 hts gX8_chain_X8_runs rfl rfl rfl (by decide +kernel) ⟨Nat.le_of_ble_eq_true rfl, Nat.le_of_ble_eq_true rfl⟩) rfl hl.1 rfl (lv_room (Nat.le_of_ble_eq_true rfl)) dX8_chain_235 ⟨Nat.le_of_ble_eq_true rfl, Nat.le_of_ble_eq_true rfl⟩ (fun r_235 hp_235 => ?_)
                        subst hp_235
                        refine k_put (C := RX8) (T := TX8) (N := 13) (ty0 := tyX8) (ty := .int) (v := .int (nI (sX h w u n))) hx hb hts hown E I iX8 tyX8_ok nmX8 (0) (by decide) (r0 := (upd (upd (upd (upd (σ 0) 8 (nI k)) 9 (nI (n - k))) 11 (nI u)) 12 (nI 0))) rfl km_0 rfl 10 (by decide) (List.mem_of_getElem? (i := 6) rfl) rfl rfl rfl rfl (Nat.le_of_ble_eq_true rfl) (upd (upd (upd (upd (upd (σ 0) 8 (nI k)) 9 (nI (n - k))) 10 (nI (sX h w u n))) 11 (nI u)) 12 (nI 0)) rfl (σ2 := va_up σ 0 (upd (upd (upd (upd (upd (σ 0) 8 (nI k)) 9 (nI (n - k))) 10 (nI (sX h w u n))) 11 (nI u)) 12 (nI 0))) (bx_uu _ _ _ _) dX8_chain_238 (fun H locs I => ?_)
                        exact k_vret hx hb hr hlk I dX8_chain_241 (⟨_, rfl, fun j hj => by rw [pk_un (by omega), pk_un (by omega), pk_un (by omega), pk_un (by omega), pk_un (by omega)], congrArg nI hgk.symm, congrArg nI (by rw [hz.1, hkn2]), by first | exact congrArg nI hz3.1.symm | exact congrArg nI hz2.1.symm, by first | exact congrArg nI hz3.2.1.symm | exact congrArg nI hz2.2.1.symm, by first | exact congrArg nI hz3.2.2.symm | exact congrArg nI hz2.2.2.symm⟩)
                      · exact absurd c_220 (by decide)
                    · exact absurd c_199 (by decide)
                  · have c_183 : ¬ (u ≤ 999) := fun q_ => c_183 ((nI_leI (by omega) (by omega)).mpr q_)
                    have hz2 := hz.2.1 (by omega)
                    refine lv_iconst (v := nI 1) hx hb dX8_chain_186 (by decide) ?_
                    refine lv_goto (tgt := 191) hx hb dX8_chain_187 (by decide) ?_
                    refine k_put (C := RX8) (T := TX8) (N := 13) (ty0 := tyX8) (ty := .boolean) (v := .int (nI 1)) hx hb hts hown E I iX8 tyX8_ok nmX8 (0) (by decide) (r0 := (upd (upd (upd (upd (σ 0) 8 (nI k)) 9 (nI (n - k))) 11 (nI u)) 12 (nI 0))) rfl km_0 rfl 12 (by decide) (List.mem_of_getElem? (i := 5) rfl) rfl rfl (by decide) (by decide) (Nat.le_of_ble_eq_true rfl) (upd (upd (upd (upd (σ 0) 8 (nI k)) 9 (nI (n - k))) 11 (nI u)) 12 (nI 1)) rfl (σ2 := va_up σ 0 (upd (upd (upd (upd (σ 0) 8 (nI k)) 9 (nI (n - k))) 11 (nI u)) 12 (nI 1))) (bx_uu _ _ _ _) dX8_chain_191 (fun H locs I => ?_)
                    refine lv_aload_n hx hb dX8_chain_194 rfl (lv_at hl 0 rfl) ?_
                    refine lv_aload_n hx hb dX8_chain_195 rfl (lv_at hl 0 rfl) ?_
                    refine k_get (C := RX8) (T := TX8) (N := 13) (v := .int (nI 1)) hx hb hts hown E I iX8 (0) (by decide) (r0 := (upd (upd (upd (upd (σ 0) 8 (nI k)) 9 (nI (n - k))) 11 (nI u)) 12 (nI 1))) rfl km_0 rfl 12 (by decide) (List.mem_of_getElem? (i := 5) rfl) rfl dX8_chain_196 ?_
                    refine lv_if_eq (tgt := 208) hx hb dX8_chain_199 (by decide) (fun c_199 => ?_) (fun c_199 => ?_)
                    · exact absurd c_199 (by decide)
                    · refine lv_sipush (v := nI 999) hx hb dX8_chain_202 (by decide) ?_
                      refine lv_goto (tgt := 212) hx hb dX8_chain_205 (by decide) ?_
                      refine k_put (C := RX8) (T := TX8) (N := 13) (ty0 := tyX8) (ty := .int) (v := .int (nI 999)) hx hb hts hown E I iX8 tyX8_ok nmX8 (0) (by decide) (r0 := (upd (upd (upd (upd (σ 0) 8 (nI k)) 9 (nI (n - k))) 11 (nI u)) 12 (nI 1))) rfl km_0 rfl 11 (by decide) (List.mem_of_getElem? (i := 4) rfl) rfl rfl rfl rfl (Nat.le_of_ble_eq_true rfl) (upd (upd (upd (upd (σ 0) 8 (nI k)) 9 (nI (n - k))) 11 (nI 999)) 12 (nI 1)) rfl (σ2 := va_up σ 0 (upd (upd (upd (upd (σ 0) 8 (nI k)) 9 (nI (n - k))) 11 (nI 999)) 12 (nI 1))) (bx_uu _ _ _ _) dX8_chain_212 (fun H locs I => ?_)
                      refine lv_aload_n hx hb dX8_chain_215 rfl (lv_at hl 0 rfl) ?_
                      refine lv_aload_n hx hb dX8_chain_216 rfl (lv_at hl 0 rfl) ?_
                      refine k_get (C := RX8) (T := TX8) (N := 13) (v := .int (nI 1)) hx hb hts hown E I iX8 (0) (by decide) (r0 := (upd (upd (upd (upd (σ 0) 8 (nI k)) 9 (nI (n - k))) 11 (nI 999)) 12 (nI 1))) rfl km_0 rfl 12 (by decide) (List.mem_of_getElem? (i := 5) rfl) rfl dX8_chain_217 ?_
                      refine lv_if_eq (tgt := 227) hx hb dX8_chain_220 (by decide) (fun c_220 => ?_) (fun c_220 => ?_)
                      · exact absurd c_220 (by decide)
                      · refine lv_iconst (v := nI 0) hx hb dX8_chain_223 (by decide) ?_
                        refine lv_goto (tgt := 238) hx hb dX8_chain_224 (by decide) ?_
                        refine k_put (C := RX8) (T := TX8) (N := 13) (ty0 := tyX8) (ty := .int) (v := .int (nI 0)) hx hb hts hown E I iX8 tyX8_ok nmX8 (0) (by decide) (r0 := (upd (upd (upd (upd (σ 0) 8 (nI k)) 9 (nI (n - k))) 11 (nI 999)) 12 (nI 1))) rfl km_0 rfl 10 (by decide) (List.mem_of_getElem? (i := 6) rfl) rfl rfl rfl rfl (Nat.le_of_ble_eq_true rfl) (upd (upd (upd (upd (upd (σ 0) 8 (nI k)) 9 (nI (n - k))) 10 (nI 0)) 11 (nI 999)) 12 (nI 1)) rfl (σ2 := va_up σ 0 (upd (upd (upd (upd (upd (σ 0) 8 (nI k)) 9 (nI (n - k))) 10 (nI 0)) 11 (nI 999)) 12 (nI 1))) (bx_uu _ _ _ _) dX8_chain_238 (fun H locs I => ?_)
                        exact k_vret hx hb hr hlk I dX8_chain_241 (⟨_, rfl, fun j hj => by rw [pk_un (by omega), pk_un (by omega), pk_un (by omega), pk_un (by omega), pk_un (by omega)], congrArg nI hgk.symm, congrArg nI (by rw [hz.1, hkn2]), by first | exact congrArg nI hz3.1.symm | exact congrArg nI hz2.1.symm, by first | exact congrArg nI hz3.2.1.symm | exact congrArg nI hz2.2.1.symm, by first | exact congrArg nI hz3.2.2.symm | exact congrArg nI hz2.2.2.symm⟩)
                · have c_143 : ¬ (999 < u) := fun q_ => c_143 ((nI_ltI (by omega) (by omega)).mpr q_)
                  have hsu := sR_le h w u n
                  refine lv_iload_n hx hb dX8_chain_146 rfl (lv_at hl 1 rfl) ?_
                  refine lv_iload_n hx hb dX8_chain_147 rfl (lv_at hl 2 rfl) ?_
                  refine lv_iload hx hb dX8_chain_148 (lv_at hl 3 rfl) ?_
                  refine lv_aload_n hx hb dX8_chain_150 rfl (lv_at hl 0 rfl) ?_
                  refine k_get (C := RX8) (T := TX8) (N := 13) (v := .int (nI u)) hx hb hts hown E I iX8 (0) (by decide) (r0 := (upd (upd (upd (upd (σ 0) 8 (nI k)) 9 (nI (n - k))) 11 (nI u)) 12 (nI 0))) rfl km_0 rfl 11 (by decide) (List.mem_of_getElem? (i := 4) rfl) rfl dX8_chain_151 ?_
                  refine k_calls (As := [.int (nI n), .int (nI w), .int (nI h), .int (nI u)]) (rest := []) ⟨hx, hb, hml, hown, hts⟩ (c_X8_rises l n w h u hn hw1 hw hh (by omega)) (va_cwS 4 hts gX8_chain_X8_rises rfl rfl rfl (by decide +kernel) ⟨Nat.le_of_ble_eq_true rfl, Nat.le_of_ble_eq_true rfl⟩) rfl hl.1 rfl (lv_room (Nat.le_of_ble_eq_true rfl)) dX8_chain_154 ⟨Nat.le_of_ble_eq_true rfl, Nat.le_of_ble_eq_true rfl⟩ (fun r_154 hp_154 => ?_)
                  subst hp_154
                  refine lv_iload hx hb dX8_chain_157 (lv_at hl 4 rfl) ?_
                  refine lv_icmp_ge (tgt := 175) hx hb dX8_chain_159 (by decide) (fun c_159 => ?_) (fun c_159 => ?_)
                  · have c_159 : (10 * dq) ≤ (sR h w u n) := (nI_leI (by omega) (by omega)).mp c_159
                    have hul : lf h w (10 * dq) n = u := by have := lf_eq (h := h) (w := w) (d := 10 * dq) (n := n) (t := u - 1) (by omega) (hun _ (by omega)) (fun z => by rw [show u - 1 + 1 = u by omega]; omega); omega
                    have hz := zLie_no (hgk.trans hkn2) h0 hul
                    refine lv_aload_n hx hb dX8_chain_175 rfl (lv_at hl 0 rfl) ?_
                    refine lv_aload_n hx hb dX8_chain_176 rfl (lv_at hl 0 rfl) ?_
                    refine k_get (C := RX8) (T := TX8) (N := 13) (v := .int (nI u)) hx hb hts hown E I iX8 (0) (by decide) (r0 := (upd (upd (upd (upd (σ 0) 8 (nI k)) 9 (nI (n - k))) 11 (nI u)) 12 (nI 0))) rfl km_0 rfl 11 (by decide) (List.mem_of_getElem? (i := 4) rfl) rfl dX8_chain_177 ?_
                    refine lv_sipush (v := nI 999) hx hb dX8_chain_180 (by decide) ?_
                    refine lv_icmp_le (tgt := 190) hx hb dX8_chain_183 (by decide) (fun c_183 => ?_) (fun c_183 => ?_)
                    · have c_183 : u ≤ 999 := (nI_leI (by omega) (by omega)).mp c_183
                      have hz3 := hz.2.2 (by omega)
                      refine lv_iconst (v := nI 0) hx hb dX8_chain_190 (by decide) ?_
                      refine k_put (C := RX8) (T := TX8) (N := 13) (ty0 := tyX8) (ty := .boolean) (v := .int (nI 0)) hx hb hts hown E I iX8 tyX8_ok nmX8 (0) (by decide) (r0 := (upd (upd (upd (upd (σ 0) 8 (nI k)) 9 (nI (n - k))) 11 (nI u)) 12 (nI 0))) rfl km_0 rfl 12 (by decide) (List.mem_of_getElem? (i := 5) rfl) rfl rfl (by decide) (by decide) (Nat.le_of_ble_eq_true rfl) (upd (upd (upd (upd (σ 0) 8 (nI k)) 9 (nI (n - k))) 11 (nI u)) 12 (nI 0)) rfl (σ2 := va_up σ 0 (upd (upd (upd (upd (σ 0) 8 (nI k)) 9 (nI (n - k))) 11 (nI u)) 12 (nI 0))) (bx_uu _ _ _ _) dX8_chain_191 (fun H locs I => ?_)
                      refine lv_aload_n hx hb dX8_chain_194 rfl (lv_at hl 0 rfl) ?_
                      refine lv_aload_n hx hb dX8_chain_195 rfl (lv_at hl 0 rfl) ?_
                      refine k_get (C := RX8) (T := TX8) (N := 13) (v := .int (nI 0)) hx hb hts hown E I iX8 (0) (by decide) (r0 := (upd (upd (upd (upd (σ 0) 8 (nI k)) 9 (nI (n - k))) 11 (nI u)) 12 (nI 0))) rfl km_0 rfl 12 (by decide) (List.mem_of_getElem? (i := 5) rfl) rfl dX8_chain_196 ?_
                      refine lv_if_eq (tgt := 208) hx hb dX8_chain_199 (by decide) (fun c_199 => ?_) (fun c_199 => ?_)
                      · refine lv_aload_n hx hb dX8_chain_208 rfl (lv_at hl 0 rfl) ?_
                        refine k_get (C := RX8) (T := TX8) (N := 13) (v := .int (nI u)) hx hb hts hown E I iX8 (0) (by decide) (r0 := (upd (upd (upd (upd (σ 0) 8 (nI k)) 9 (nI (n - k))) 11 (nI u)) 12 (nI 0))) rfl km_0 rfl 11 (by decide) (List.mem_of_getElem? (i := 4) rfl) rfl dX8_chain_209 ?_
                        refine k_put (C := RX8) (T := TX8) (N := 13) (ty0 := tyX8) (ty := .int) (v := .int (nI u)) hx hb hts hown E I iX8 tyX8_ok nmX8 (0) (by decide) (r0 := (upd (upd (upd (upd (σ 0) 8 (nI k)) 9 (nI (n - k))) 11 (nI u)) 12 (nI 0))) rfl km_0 rfl 11 (by decide) (List.mem_of_getElem? (i := 4) rfl) rfl rfl rfl rfl (Nat.le_of_ble_eq_true rfl) (upd (upd (upd (upd (σ 0) 8 (nI k)) 9 (nI (n - k))) 11 (nI u)) 12 (nI 0)) rfl (σ2 := va_up σ 0 (upd (upd (upd (upd (σ 0) 8 (nI k)) 9 (nI (n - k))) 11 (nI u)) 12 (nI 0))) (bx_uu _ _ _ _) dX8_chain_212 (fun H locs I => ?_)
                        refine lv_aload_n hx hb dX8_chain_215 rfl (lv_at hl 0 rfl) ?_
                        refine lv_aload_n hx hb dX8_chain_216 rfl (lv_at hl 0 rfl) ?_
                        refine k_get (C := RX8) (T := TX8) (N := 13) (v := .int (nI 0)) hx hb hts hown E I iX8 (0) (by decide) (r0 := (upd (upd (upd (upd (σ 0) 8 (nI k)) 9 (nI (n - k))) 11 (nI u)) 12 (nI 0))) rfl km_0 rfl 12 (by decide) (List.mem_of_getElem? (i := 5) rfl) rfl dX8_chain_217 ?_
                        refine lv_if_eq (tgt := 227) hx hb dX8_chain_220 (by decide) (fun c_220 => ?_) (fun c_220 => ?_)
                        · refine lv_iload_n hx hb dX8_chain_227 rfl (lv_at hl 1 rfl) ?_
                          refine lv_iload_n hx hb dX8_chain_228 rfl (lv_at hl 2 rfl) ?_
                          refine lv_iload hx hb dX8_chain_229 (lv_at hl 3 rfl) ?_
                          refine lv_aload_n hx hb dX8_chain_231 rfl (lv_at hl 0 rfl) ?_
                          refine k_get (C := RX8) (T := TX8) (N := 13) (v := .int (nI u)) hx hb hts hown E I iX8 (0) (by decide) (r0 := (upd (upd (upd (upd (σ 0) 8 (nI k)) 9 (nI (n - k))) 11 (nI u)) 12 (nI 0))) rfl km_0 rfl 11 (by decide) (List.mem_of_getElem? (i := 4) rfl) rfl dX8_chain_232 ?_
                          refine k_calls (As := [.int (nI n), .int (nI w), .int (nI h), .int (nI u)]) (rest := [.ref (ad 0)]) ⟨hx, hb, hml, hown, hts⟩ (c_X8_runs l n w h u hn hw1 hw hh (by omega)) (va_cwS 4 hts gX8_chain_X8_runs rfl rfl rfl (by decide +kernel) ⟨Nat.le_of_ble_eq_true rfl, Nat.le_of_ble_eq_true rfl⟩) rfl hl.1 rfl (lv_room (Nat.le_of_ble_eq_true rfl)) dX8_chain_235 ⟨Nat.le_of_ble_eq_true rfl, Nat.le_of_ble_eq_true rfl⟩ (fun r_235 hp_235 => ?_)
                          subst hp_235
                          refine k_put (C := RX8) (T := TX8) (N := 13) (ty0 := tyX8) (ty := .int) (v := .int (nI (sX h w u n))) hx hb hts hown E I iX8 tyX8_ok nmX8 (0) (by decide) (r0 := (upd (upd (upd (upd (σ 0) 8 (nI k)) 9 (nI (n - k))) 11 (nI u)) 12 (nI 0))) rfl km_0 rfl 10 (by decide) (List.mem_of_getElem? (i := 6) rfl) rfl rfl rfl rfl (Nat.le_of_ble_eq_true rfl) (upd (upd (upd (upd (upd (σ 0) 8 (nI k)) 9 (nI (n - k))) 10 (nI (sX h w u n))) 11 (nI u)) 12 (nI 0)) rfl (σ2 := va_up σ 0 (upd (upd (upd (upd (upd (σ 0) 8 (nI k)) 9 (nI (n - k))) 10 (nI (sX h w u n))) 11 (nI u)) 12 (nI 0))) (bx_uu _ _ _ _) dX8_chain_238 (fun H locs I => ?_)
                          exact k_vret hx hb hr hlk I dX8_chain_241 (⟨_, rfl, fun j hj => by rw [pk_un (by omega), pk_un (by omega), pk_un (by omega), pk_un (by omega), pk_un (by omega)], congrArg nI hgk.symm, congrArg nI (by rw [hz.1, hkn2]), by first | exact congrArg nI hz3.1.symm | exact congrArg nI hz2.1.symm, by first | exact congrArg nI hz3.2.1.symm | exact congrArg nI hz2.2.1.symm, by first | exact congrArg nI hz3.2.2.symm | exact congrArg nI hz2.2.2.symm⟩)
                        · exact absurd c_220 (by decide)
                      · exact absurd c_199 (by decide)
                    · have c_183 : ¬ (u ≤ 999) := fun q_ => c_183 ((nI_leI (by omega) (by omega)).mpr q_)
                      have hz2 := hz.2.1 (by omega)
                      refine lv_iconst (v := nI 1) hx hb dX8_chain_186 (by decide) ?_
                      refine lv_goto (tgt := 191) hx hb dX8_chain_187 (by decide) ?_
                      refine k_put (C := RX8) (T := TX8) (N := 13) (ty0 := tyX8) (ty := .boolean) (v := .int (nI 1)) hx hb hts hown E I iX8 tyX8_ok nmX8 (0) (by decide) (r0 := (upd (upd (upd (upd (σ 0) 8 (nI k)) 9 (nI (n - k))) 11 (nI u)) 12 (nI 0))) rfl km_0 rfl 12 (by decide) (List.mem_of_getElem? (i := 5) rfl) rfl rfl (by decide) (by decide) (Nat.le_of_ble_eq_true rfl) (upd (upd (upd (upd (σ 0) 8 (nI k)) 9 (nI (n - k))) 11 (nI u)) 12 (nI 1)) rfl (σ2 := va_up σ 0 (upd (upd (upd (upd (σ 0) 8 (nI k)) 9 (nI (n - k))) 11 (nI u)) 12 (nI 1))) (bx_uu _ _ _ _) dX8_chain_191 (fun H locs I => ?_)
                      refine lv_aload_n hx hb dX8_chain_194 rfl (lv_at hl 0 rfl) ?_
                      refine lv_aload_n hx hb dX8_chain_195 rfl (lv_at hl 0 rfl) ?_
                      refine k_get (C := RX8) (T := TX8) (N := 13) (v := .int (nI 1)) hx hb hts hown E I iX8 (0) (by decide) (r0 := (upd (upd (upd (upd (σ 0) 8 (nI k)) 9 (nI (n - k))) 11 (nI u)) 12 (nI 1))) rfl km_0 rfl 12 (by decide) (List.mem_of_getElem? (i := 5) rfl) rfl dX8_chain_196 ?_
                      refine lv_if_eq (tgt := 208) hx hb dX8_chain_199 (by decide) (fun c_199 => ?_) (fun c_199 => ?_)
                      · exact absurd c_199 (by decide)
                      · refine lv_sipush (v := nI 999) hx hb dX8_chain_202 (by decide) ?_
                        refine lv_goto (tgt := 212) hx hb dX8_chain_205 (by decide) ?_
                        refine k_put (C := RX8) (T := TX8) (N := 13) (ty0 := tyX8) (ty := .int) (v := .int (nI 999)) hx hb hts hown E I iX8 tyX8_ok nmX8 (0) (by decide) (r0 := (upd (upd (upd (upd (σ 0) 8 (nI k)) 9 (nI (n - k))) 11 (nI u)) 12 (nI 1))) rfl km_0 rfl 11 (by decide) (List.mem_of_getElem? (i := 4) rfl) rfl rfl rfl rfl (Nat.le_of_ble_eq_true rfl) (upd (upd (upd (upd (σ 0) 8 (nI k)) 9 (nI (n - k))) 11 (nI 999)) 12 (nI 1)) rfl (σ2 := va_up σ 0 (upd (upd (upd (upd (σ 0) 8 (nI k)) 9 (nI (n - k))) 11 (nI 999)) 12 (nI 1))) (bx_uu _ _ _ _) dX8_chain_212 (fun H locs I => ?_)
                        refine lv_aload_n hx hb dX8_chain_215 rfl (lv_at hl 0 rfl) ?_
                        refine lv_aload_n hx hb dX8_chain_216 rfl (lv_at hl 0 rfl) ?_
                        refine k_get (C := RX8) (T := TX8) (N := 13) (v := .int (nI 1)) hx hb hts hown E I iX8 (0) (by decide) (r0 := (upd (upd (upd (upd (σ 0) 8 (nI k)) 9 (nI (n - k))) 11 (nI 999)) 12 (nI 1))) rfl km_0 rfl 12 (by decide) (List.mem_of_getElem? (i := 5) rfl) rfl dX8_chain_217 ?_
                        refine lv_if_eq (tgt := 227) hx hb dX8_chain_220 (by decide) (fun c_220 => ?_) (fun c_220 => ?_)
                        · exact absurd c_220 (by decide)
                        · refine lv_iconst (v := nI 0) hx hb dX8_chain_223 (by decide) ?_
                          refine lv_goto (tgt := 238) hx hb dX8_chain_224 (by decide) ?_
                          refine k_put (C := RX8) (T := TX8) (N := 13) (ty0 := tyX8) (ty := .int) (v := .int (nI 0)) hx hb hts hown E I iX8 tyX8_ok nmX8 (0) (by decide) (r0 := (upd (upd (upd (upd (σ 0) 8 (nI k)) 9 (nI (n - k))) 11 (nI 999)) 12 (nI 1))) rfl km_0 rfl 10 (by decide) (List.mem_of_getElem? (i := 6) rfl) rfl rfl rfl rfl (Nat.le_of_ble_eq_true rfl) (upd (upd (upd (upd (upd (σ 0) 8 (nI k)) 9 (nI (n - k))) 10 (nI 0)) 11 (nI 999)) 12 (nI 1)) rfl (σ2 := va_up σ 0 (upd (upd (upd (upd (upd (σ 0) 8 (nI k)) 9 (nI (n - k))) 10 (nI 0)) 11 (nI 999)) 12 (nI 1))) (bx_uu _ _ _ _) dX8_chain_238 (fun H locs I => ?_)
                          exact k_vret hx hb hr hlk I dX8_chain_241 (⟨_, rfl, fun j hj => by rw [pk_un (by omega), pk_un (by omega), pk_un (by omega), pk_un (by omega), pk_un (by omega)], congrArg nI hgk.symm, congrArg nI (by rw [hz.1, hkn2]), by first | exact congrArg nI hz3.1.symm | exact congrArg nI hz2.1.symm, by first | exact congrArg nI hz3.2.1.symm | exact congrArg nI hz2.2.1.symm, by first | exact congrArg nI hz3.2.2.symm | exact congrArg nI hz2.2.2.symm⟩)
                  · have c_159 : ¬ ((10 * dq) ≤ (sR h w u n)) := fun q_ => c_159 ((nI_leI (by omega) (by omega)).mpr q_)
                    refine lv_aload_n hx hb dX8_chain_162 rfl (lv_at hl 0 rfl) ?_
                    refine lv_dup hx hb dX8_chain_163 rfl ?_
                    refine k_get (C := RX8) (T := TX8) (N := 13) (v := .int (nI u)) hx hb hts hown E I iX8 (0) (by decide) (r0 := (upd (upd (upd (upd (σ 0) 8 (nI k)) 9 (nI (n - k))) 11 (nI u)) 12 (nI 0))) rfl km_0 rfl 11 (by decide) (List.mem_of_getElem? (i := 4) rfl) rfl dX8_chain_164 ?_
                    refine lv_iconst (v := nI 1) hx hb dX8_chain_167 (by decide) ?_
                    refine lv_iadd hx hb dX8_chain_168 ?_
                    rw [nI_add]
                    refine k_put (C := RX8) (T := TX8) (N := 13) (ty0 := tyX8) (ty := .int) (v := .int (nI (u + 1))) hx hb hts hown E I iX8 tyX8_ok nmX8 (0) (by decide) (r0 := (upd (upd (upd (upd (σ 0) 8 (nI k)) 9 (nI (n - k))) 11 (nI u)) 12 (nI 0))) rfl km_0 rfl 11 (by decide) (List.mem_of_getElem? (i := 4) rfl) rfl rfl rfl rfl (Nat.le_of_ble_eq_true rfl) (upd (upd (upd (upd (σ 0) 8 (nI k)) 9 (nI (n - k))) 11 (nI (u + 1))) 12 (nI 0)) rfl (σ2 := va_up σ 0 (upd (upd (upd (upd (σ 0) 8 (nI k)) 9 (nI (n - k))) 11 (nI (u + 1))) 12 (nI 0))) (bx_uu _ _ _ _) dX8_chain_169 (fun H locs I => ?_)
                    refine lv_goto (tgt := 136) hx hb dX8_chain_172 (by decide) ?_
                    exact ih_136 (u + 1) (by omega) (by omega) (by omega) (fun v hv => by by_cases e_ : v = u; (rw [e_]; omega); exact hun v (by omega)) _ _ I _ (lv_sub hl [0, 1, 2, 3, 4] rfl)
            exact LP_136 _ _ (Nat.lt_succ_self _) (by omega) (by omega) (by first | exact fun v _ => zFew (by omega) | exact fun v hv => by rw [show v = 0 by omega]; exact h0) _ _ I _ (lv_sub hl [0, 2, 3, 4, 5] rfl)
          · have c_123 : ¬ ((10 * dq) ≤ (10 * n)) := fun q_ => c_123 ((nI_leI (by omega) (by omega)).mpr q_)
            refine lv_sipush (v := nI 1000) hx hb dX8_chain_126 (by decide) ?_
            refine lv_goto (tgt := 133) hx hb dX8_chain_129 (by decide) ?_
            refine k_put (C := RX8) (T := TX8) (N := 13) (ty0 := tyX8) (ty := .int) (v := .int (nI 1000)) hx hb hts hown E I iX8 tyX8_ok nmX8 (0) (by decide) (r0 := (upd (upd (upd (upd (σ 0) 8 (nI k)) 9 (nI (n - k))) 11 (nI 0)) 12 (nI 0))) rfl km_0 rfl 11 (by decide) (List.mem_of_getElem? (i := 4) rfl) rfl rfl rfl rfl (Nat.le_of_ble_eq_true rfl) (upd (upd (upd (upd (σ 0) 8 (nI k)) 9 (nI (n - k))) 11 (nI 1000)) 12 (nI 0)) rfl (σ2 := va_up σ 0 (upd (upd (upd (upd (σ 0) 8 (nI k)) 9 (nI (n - k))) 11 (nI 1000)) 12 (nI 0))) (bx_uu _ _ _ _) dX8_chain_133 (fun H locs I => ?_)
            have LP_136 : ∀ (fuel_136 : Nat) (u : Nat), 1000 - u < fuel_136 → (1 ≤ u) → (u ≤ 1000) → (∀ v, v < u → sR h w v n < 10 * dq) → ∀ (H : Heap) (locs : List Loc), kI 6 ad (kcM cy ad) D (kA 6 ad s.heap.size) s.heap (va_up σ 0 (upd (upd (upd (upd (σ 0) 8 (nI k)) 9 (nI (n - k))) 11 (nI u)) 12 (nI 0))) H locs → ∀ ls : Array Slot, lv_has ls 7 [(0, .ref (ad 0)), (2, .int (nI n)), (3, .int (nI w)), (4, .int (nI h)), (5, .int (nI (10 * dq)))] → W p l e (headSpec wsX8_chain ({ frames := 3, cells := 0, slots := 0, locals := 70 })).room s m [.ref (ad 0), .int (nI x), .int (nI n), .int (nI w), .int (nI h)].toArray below meth c H locs 0 0 (MQ below (va_Qv (fun σ' => ∃ R : Nat → Int32, σ' = va_up σ 0 R ∧ (∀ j, j < 8 → R j = σ 0 j) ∧ mLie R h w (10 * dq) n) (kB 6 ad (kcM cy ad) D) (kA 6 ad s.heap.size)) [.ref (ad 0), .int (nI x), .int (nI n), .int (nI w), .int (nI h)].toArray s 0 0 (kA 6 ad s.heap.size)) (F0 m 136 ls []) := by
              intro fuel_136
              induction fuel_136 with
              | zero => intro u hf_136; exact absurd hf_136 (Nat.not_lt_zero _)
              | succ fuel_136 ih_136 =>
                intro u hf_136 hu1 hu9 hun H locs I ls hl
                refine lv_aload_n hx hb dX8_chain_136 rfl (lv_at hl 0 rfl) ?_
                refine k_get (C := RX8) (T := TX8) (N := 13) (v := .int (nI u)) hx hb hts hown E I iX8 (0) (by decide) (r0 := (upd (upd (upd (upd (σ 0) 8 (nI k)) 9 (nI (n - k))) 11 (nI u)) 12 (nI 0))) rfl km_0 rfl 11 (by decide) (List.mem_of_getElem? (i := 4) rfl) rfl dX8_chain_137 ?_
                refine lv_sipush (v := nI 999) hx hb dX8_chain_140 (by decide) ?_
                refine lv_icmp_gt (tgt := 175) hx hb dX8_chain_143 (by decide) (fun c_143 => ?_) (fun c_143 => ?_)
                · have c_143 : 999 < u := (nI_ltI (by omega) (by omega)).mp c_143
                  have hul : lf h w (10 * dq) n = u := by have := lf_eq (h := h) (w := w) (d := 10 * dq) (n := n) (t := u - 1) (by omega) (hun _ (by omega)) (fun z => absurd z (by omega)); omega
                  have hz := zLie_no (hgk.trans hkn2) h0 hul
                  refine lv_aload_n hx hb dX8_chain_175 rfl (lv_at hl 0 rfl) ?_
                  refine lv_aload_n hx hb dX8_chain_176 rfl (lv_at hl 0 rfl) ?_
                  refine k_get (C := RX8) (T := TX8) (N := 13) (v := .int (nI u)) hx hb hts hown E I iX8 (0) (by decide) (r0 := (upd (upd (upd (upd (σ 0) 8 (nI k)) 9 (nI (n - k))) 11 (nI u)) 12 (nI 0))) rfl km_0 rfl 11 (by decide) (List.mem_of_getElem? (i := 4) rfl) rfl dX8_chain_177 ?_
                  refine lv_sipush (v := nI 999) hx hb dX8_chain_180 (by decide) ?_
                  refine lv_icmp_le (tgt := 190) hx hb dX8_chain_183 (by decide) (fun c_183 => ?_) (fun c_183 => ?_)
                  · have c_183 : u ≤ 999 := (nI_leI (by omega) (by omega)).mp c_183
                    have hz3 := hz.2.2 (by omega)
                    refine lv_iconst (v := nI 0) hx hb dX8_chain_190 (by decide) ?_
                    refine k_put (C := RX8) (T := TX8) (N := 13) (ty0 := tyX8) (ty := .boolean) (v := .int (nI 0)) hx hb hts hown E I iX8 tyX8_ok nmX8 (0) (by decide) (r0 := (upd (upd (upd (upd (σ 0) 8 (nI k)) 9 (nI (n - k))) 11 (nI u)) 12 (nI 0))) rfl km_0 rfl 12 (by decide) (List.mem_of_getElem? (i := 5) rfl) rfl rfl (by decide) (by decide) (Nat.le_of_ble_eq_true rfl) (upd (upd (upd (upd (σ 0) 8 (nI k)) 9 (nI (n - k))) 11 (nI u)) 12 (nI 0)) rfl (σ2 := va_up σ 0 (upd (upd (upd (upd (σ 0) 8 (nI k)) 9 (nI (n - k))) 11 (nI u)) 12 (nI 0))) (bx_uu _ _ _ _) dX8_chain_191 (fun H locs I => ?_)
                    refine lv_aload_n hx hb dX8_chain_194 rfl (lv_at hl 0 rfl) ?_
                    refine lv_aload_n hx hb dX8_chain_195 rfl (lv_at hl 0 rfl) ?_
                    refine k_get (C := RX8) (T := TX8) (N := 13) (v := .int (nI 0)) hx hb hts hown E I iX8 (0) (by decide) (r0 := (upd (upd (upd (upd (σ 0) 8 (nI k)) 9 (nI (n - k))) 11 (nI u)) 12 (nI 0))) rfl km_0 rfl 12 (by decide) (List.mem_of_getElem? (i := 5) rfl) rfl dX8_chain_196 ?_
                    refine lv_if_eq (tgt := 208) hx hb dX8_chain_199 (by decide) (fun c_199 => ?_) (fun c_199 => ?_)
                    · refine lv_aload_n hx hb dX8_chain_208 rfl (lv_at hl 0 rfl) ?_
                      refine k_get (C := RX8) (T := TX8) (N := 13) (v := .int (nI u)) hx hb hts hown E I iX8 (0) (by decide) (r0 := (upd (upd (upd (upd (σ 0) 8 (nI k)) 9 (nI (n - k))) 11 (nI u)) 12 (nI 0))) rfl km_0 rfl 11 (by decide) (List.mem_of_getElem? (i := 4) rfl) rfl dX8_chain_209 ?_
                      refine k_put (C := RX8) (T := TX8) (N := 13) (ty0 := tyX8) (ty := .int) (v := .int (nI u)) hx hb hts hown E I iX8 tyX8_ok nmX8 (0) (by decide) (r0 := (upd (upd (upd (upd (σ 0) 8 (nI k)) 9 (nI (n - k))) 11 (nI u)) 12 (nI 0))) rfl km_0 rfl 11 (by decide) (List.mem_of_getElem? (i := 4) rfl) rfl rfl rfl rfl (Nat.le_of_ble_eq_true rfl) (upd (upd (upd (upd (σ 0) 8 (nI k)) 9 (nI (n - k))) 11 (nI u)) 12 (nI 0)) rfl (σ2 := va_up σ 0 (upd (upd (upd (upd (σ 0) 8 (nI k)) 9 (nI (n - k))) 11 (nI u)) 12 (nI 0))) (bx_uu _ _ _ _) dX8_chain_212 (fun H locs I => ?_)
                      refine lv_aload_n hx hb dX8_chain_215 rfl (lv_at hl 0 rfl) ?_
                      refine lv_aload_n hx hb dX8_chain_216 rfl (lv_at hl 0 rfl) ?_
                      refine k_get (C := RX8) (T := TX8) (N := 13) (v := .int (nI 0)) hx hb hts hown E I iX8 (0) (by decide) (r0 := (upd (upd (upd (upd (σ 0) 8 (nI k)) 9 (nI (n - k))) 11 (nI u)) 12 (nI 0))) rfl km_0 rfl 12 (by decide) (List.mem_of_getElem? (i := 5) rfl) rfl dX8_chain_217 ?_
                      refine lv_if_eq (tgt := 227) hx hb dX8_chain_220 (by decide) (fun c_220 => ?_) (fun c_220 => ?_)
                      · refine lv_iload_n hx hb dX8_chain_227 rfl (lv_at hl 1 rfl) ?_
                        refine lv_iload_n hx hb dX8_chain_228 rfl (lv_at hl 2 rfl) ?_
                        refine lv_iload hx hb dX8_chain_229 (lv_at hl 3 rfl) ?_
                        refine lv_aload_n hx hb dX8_chain_231 rfl (lv_at hl 0 rfl) ?_
                        refine k_get (C := RX8) (T := TX8) (N := 13) (v := .int (nI u)) hx hb hts hown E I iX8 (0) (by decide) (r0 := (upd (upd (upd (upd (σ 0) 8 (nI k)) 9 (nI (n - k))) 11 (nI u)) 12 (nI 0))) rfl km_0 rfl 11 (by decide) (List.mem_of_getElem? (i := 4) rfl) rfl dX8_chain_232 ?_
                        refine k_calls (As := [.int (nI n), .int (nI w), .int (nI h), .int (nI u)]) (rest := [.ref (ad 0)]) ⟨hx, hb, hml, hown, hts⟩ (c_X8_runs l n w h u hn hw1 hw hh (by omega)) (va_cwS 4 hts gX8_chain_X8_runs rfl rfl rfl (by decide +kernel) ⟨Nat.le_of_ble_eq_true rfl, Nat.le_of_ble_eq_true rfl⟩) rfl hl.1 rfl (lv_room (Nat.le_of_ble_eq_true rfl)) dX8_chain_235 ⟨Nat.le_of_ble_eq_true rfl, Nat.le_of_ble_eq_true rfl⟩ (fun r_235 hp_235 => ?_)
                        subst hp_235
                        refine k_put (C := RX8) (T := TX8) (N := 13) (ty0 := tyX8) (ty := .int) (v := .int (nI (sX h w u n))) hx hb hts hown E I iX8 tyX8_ok nmX8 (0) (by decide) (r0 := (upd (upd (upd (upd (σ 0) 8 (nI k)) 9 (nI (n - k))) 11 (nI u)) 12 (nI 0))) rfl km_0 rfl 10 (by decide) (List.mem_of_getElem? (i := 6) rfl) rfl rfl rfl rfl (Nat.le_of_ble_eq_true rfl) (upd (upd (upd (upd (upd (σ 0) 8 (nI k)) 9 (nI (n - k))) 10 (nI (sX h w u n))) 11 (nI u)) 12 (nI 0)) rfl (σ2 := va_up σ 0 (upd (upd (upd (upd (upd (σ 0) 8 (nI k)) 9 (nI (n - k))) 10 (nI (sX h w u n))) 11 (nI u)) 12 (nI 0))) (bx_uu _ _ _ _) dX8_chain_238 (fun H locs I => ?_)
                        exact k_vret hx hb hr hlk I dX8_chain_241 (⟨_, rfl, fun j hj => by rw [pk_un (by omega), pk_un (by omega), pk_un (by omega), pk_un (by omega), pk_un (by omega)], congrArg nI hgk.symm, congrArg nI (by rw [hz.1, hkn2]), by first | exact congrArg nI hz3.1.symm | exact congrArg nI hz2.1.symm, by first | exact congrArg nI hz3.2.1.symm | exact congrArg nI hz2.2.1.symm, by first | exact congrArg nI hz3.2.2.symm | exact congrArg nI hz2.2.2.symm⟩)
                      · exact absurd c_220 (by decide)
                    · exact absurd c_199 (by decide)
                  · have c_183 : ¬ (u ≤ 999) := fun q_ => c_183 ((nI_leI (by omega) (by omega)).mpr q_)
                    have hz2 := hz.2.1 (by omega)
                    refine lv_iconst (v := nI 1) hx hb dX8_chain_186 (by decide) ?_
                    refine lv_goto (tgt := 191) hx hb dX8_chain_187 (by decide) ?_
                    refine k_put (C := RX8) (T := TX8) (N := 13) (ty0 := tyX8) (ty := .boolean) (v := .int (nI 1)) hx hb hts hown E I iX8 tyX8_ok nmX8 (0) (by decide) (r0 := (upd (upd (upd (upd (σ 0) 8 (nI k)) 9 (nI (n - k))) 11 (nI u)) 12 (nI 0))) rfl km_0 rfl 12 (by decide) (List.mem_of_getElem? (i := 5) rfl) rfl rfl (by decide) (by decide) (Nat.le_of_ble_eq_true rfl) (upd (upd (upd (upd (σ 0) 8 (nI k)) 9 (nI (n - k))) 11 (nI u)) 12 (nI 1)) rfl (σ2 := va_up σ 0 (upd (upd (upd (upd (σ 0) 8 (nI k)) 9 (nI (n - k))) 11 (nI u)) 12 (nI 1))) (bx_uu _ _ _ _) dX8_chain_191 (fun H locs I => ?_)
                    refine lv_aload_n hx hb dX8_chain_194 rfl (lv_at hl 0 rfl) ?_
                    refine lv_aload_n hx hb dX8_chain_195 rfl (lv_at hl 0 rfl) ?_
                    refine k_get (C := RX8) (T := TX8) (N := 13) (v := .int (nI 1)) hx hb hts hown E I iX8 (0) (by decide) (r0 := (upd (upd (upd (upd (σ 0) 8 (nI k)) 9 (nI (n - k))) 11 (nI u)) 12 (nI 1))) rfl km_0 rfl 12 (by decide) (List.mem_of_getElem? (i := 5) rfl) rfl dX8_chain_196 ?_
                    refine lv_if_eq (tgt := 208) hx hb dX8_chain_199 (by decide) (fun c_199 => ?_) (fun c_199 => ?_)
                    · exact absurd c_199 (by decide)
                    · refine lv_sipush (v := nI 999) hx hb dX8_chain_202 (by decide) ?_
                      refine lv_goto (tgt := 212) hx hb dX8_chain_205 (by decide) ?_
                      refine k_put (C := RX8) (T := TX8) (N := 13) (ty0 := tyX8) (ty := .int) (v := .int (nI 999)) hx hb hts hown E I iX8 tyX8_ok nmX8 (0) (by decide) (r0 := (upd (upd (upd (upd (σ 0) 8 (nI k)) 9 (nI (n - k))) 11 (nI u)) 12 (nI 1))) rfl km_0 rfl 11 (by decide) (List.mem_of_getElem? (i := 4) rfl) rfl rfl rfl rfl (Nat.le_of_ble_eq_true rfl) (upd (upd (upd (upd (σ 0) 8 (nI k)) 9 (nI (n - k))) 11 (nI 999)) 12 (nI 1)) rfl (σ2 := va_up σ 0 (upd (upd (upd (upd (σ 0) 8 (nI k)) 9 (nI (n - k))) 11 (nI 999)) 12 (nI 1))) (bx_uu _ _ _ _) dX8_chain_212 (fun H locs I => ?_)
                      refine lv_aload_n hx hb dX8_chain_215 rfl (lv_at hl 0 rfl) ?_
                      refine lv_aload_n hx hb dX8_chain_216 rfl (lv_at hl 0 rfl) ?_
                      refine k_get (C := RX8) (T := TX8) (N := 13) (v := .int (nI 1)) hx hb hts hown E I iX8 (0) (by decide) (r0 := (upd (upd (upd (upd (σ 0) 8 (nI k)) 9 (nI (n - k))) 11 (nI 999)) 12 (nI 1))) rfl km_0 rfl 12 (by decide) (List.mem_of_getElem? (i := 5) rfl) rfl dX8_chain_217 ?_
                      refine lv_if_eq (tgt := 227) hx hb dX8_chain_220 (by decide) (fun c_220 => ?_) (fun c_220 => ?_)
                      · exact absurd c_220 (by decide)
                      · refine lv_iconst (v := nI 0) hx hb dX8_chain_223 (by decide) ?_
                        refine lv_goto (tgt := 238) hx hb dX8_chain_224 (by decide) ?_
                        refine k_put (C := RX8) (T := TX8) (N := 13) (ty0 := tyX8) (ty := .int) (v := .int (nI 0)) hx hb hts hown E I iX8 tyX8_ok nmX8 (0) (by decide) (r0 := (upd (upd (upd (upd (σ 0) 8 (nI k)) 9 (nI (n - k))) 11 (nI 999)) 12 (nI 1))) rfl km_0 rfl 10 (by decide) (List.mem_of_getElem? (i := 6) rfl) rfl rfl rfl rfl (Nat.le_of_ble_eq_true rfl) (upd (upd (upd (upd (upd (σ 0) 8 (nI k)) 9 (nI (n - k))) 10 (nI 0)) 11 (nI 999)) 12 (nI 1)) rfl (σ2 := va_up σ 0 (upd (upd (upd (upd (upd (σ 0) 8 (nI k)) 9 (nI (n - k))) 10 (nI 0)) 11 (nI 999)) 12 (nI 1))) (bx_uu _ _ _ _) dX8_chain_238 (fun H locs I => ?_)
                        exact k_vret hx hb hr hlk I dX8_chain_241 (⟨_, rfl, fun j hj => by rw [pk_un (by omega), pk_un (by omega), pk_un (by omega), pk_un (by omega), pk_un (by omega)], congrArg nI hgk.symm, congrArg nI (by rw [hz.1, hkn2]), by first | exact congrArg nI hz3.1.symm | exact congrArg nI hz2.1.symm, by first | exact congrArg nI hz3.2.1.symm | exact congrArg nI hz2.2.1.symm, by first | exact congrArg nI hz3.2.2.symm | exact congrArg nI hz2.2.2.symm⟩)
                · have c_143 : ¬ (999 < u) := fun q_ => c_143 ((nI_ltI (by omega) (by omega)).mpr q_)
                  have hsu := sR_le h w u n
                  refine lv_iload_n hx hb dX8_chain_146 rfl (lv_at hl 1 rfl) ?_
                  refine lv_iload_n hx hb dX8_chain_147 rfl (lv_at hl 2 rfl) ?_
                  refine lv_iload hx hb dX8_chain_148 (lv_at hl 3 rfl) ?_
                  refine lv_aload_n hx hb dX8_chain_150 rfl (lv_at hl 0 rfl) ?_
                  refine k_get (C := RX8) (T := TX8) (N := 13) (v := .int (nI u)) hx hb hts hown E I iX8 (0) (by decide) (r0 := (upd (upd (upd (upd (σ 0) 8 (nI k)) 9 (nI (n - k))) 11 (nI u)) 12 (nI 0))) rfl km_0 rfl 11 (by decide) (List.mem_of_getElem? (i := 4) rfl) rfl dX8_chain_151 ?_
                  refine k_calls (As := [.int (nI n), .int (nI w), .int (nI h), .int (nI u)]) (rest := []) ⟨hx, hb, hml, hown, hts⟩ (c_X8_rises l n w h u hn hw1 hw hh (by omega)) (va_cwS 4 hts gX8_chain_X8_rises rfl rfl rfl (by decide +kernel) ⟨Nat.le_of_ble_eq_true rfl, Nat.le_of_ble_eq_true rfl⟩) rfl hl.1 rfl (lv_room (Nat.le_of_ble_eq_true rfl)) dX8_chain_154 ⟨Nat.le_of_ble_eq_true rfl, Nat.le_of_ble_eq_true rfl⟩ (fun r_154 hp_154 => ?_)
                  subst hp_154
                  refine lv_iload hx hb dX8_chain_157 (lv_at hl 4 rfl) ?_
                  refine lv_icmp_ge (tgt := 175) hx hb dX8_chain_159 (by decide) (fun c_159 => ?_) (fun c_159 => ?_)
                  · have c_159 : (10 * dq) ≤ (sR h w u n) := (nI_leI (by omega) (by omega)).mp c_159
                    have hul : lf h w (10 * dq) n = u := by have := lf_eq (h := h) (w := w) (d := 10 * dq) (n := n) (t := u - 1) (by omega) (hun _ (by omega)) (fun z => by rw [show u - 1 + 1 = u by omega]; omega); omega
                    have hz := zLie_no (hgk.trans hkn2) h0 hul
                    refine lv_aload_n hx hb dX8_chain_175 rfl (lv_at hl 0 rfl) ?_
                    refine lv_aload_n hx hb dX8_chain_176 rfl (lv_at hl 0 rfl) ?_
                    refine k_get (C := RX8) (T := TX8) (N := 13) (v := .int (nI u)) hx hb hts hown E I iX8 (0) (by decide) (r0 := (upd (upd (upd (upd (σ 0) 8 (nI k)) 9 (nI (n - k))) 11 (nI u)) 12 (nI 0))) rfl km_0 rfl 11 (by decide) (List.mem_of_getElem? (i := 4) rfl) rfl dX8_chain_177 ?_
                    refine lv_sipush (v := nI 999) hx hb dX8_chain_180 (by decide) ?_
                    refine lv_icmp_le (tgt := 190) hx hb dX8_chain_183 (by decide) (fun c_183 => ?_) (fun c_183 => ?_)
                    · have c_183 : u ≤ 999 := (nI_leI (by omega) (by omega)).mp c_183
                      have hz3 := hz.2.2 (by omega)
                      refine lv_iconst (v := nI 0) hx hb dX8_chain_190 (by decide) ?_
                      refine k_put (C := RX8) (T := TX8) (N := 13) (ty0 := tyX8) (ty := .boolean) (v := .int (nI 0)) hx hb hts hown E I iX8 tyX8_ok nmX8 (0) (by decide) (r0 := (upd (upd (upd (upd (σ 0) 8 (nI k)) 9 (nI (n - k))) 11 (nI u)) 12 (nI 0))) rfl km_0 rfl 12 (by decide) (List.mem_of_getElem? (i := 5) rfl) rfl rfl (by decide) (by decide) (Nat.le_of_ble_eq_true rfl) (upd (upd (upd (upd (σ 0) 8 (nI k)) 9 (nI (n - k))) 11 (nI u)) 12 (nI 0)) rfl (σ2 := va_up σ 0 (upd (upd (upd (upd (σ 0) 8 (nI k)) 9 (nI (n - k))) 11 (nI u)) 12 (nI 0))) (bx_uu _ _ _ _) dX8_chain_191 (fun H locs I => ?_)
                      refine lv_aload_n hx hb dX8_chain_194 rfl (lv_at hl 0 rfl) ?_
                      refine lv_aload_n hx hb dX8_chain_195 rfl (lv_at hl 0 rfl) ?_
                      refine k_get (C := RX8) (T := TX8) (N := 13) (v := .int (nI 0)) hx hb hts hown E I iX8 (0) (by decide) (r0 := (upd (upd (upd (upd (σ 0) 8 (nI k)) 9 (nI (n - k))) 11 (nI u)) 12 (nI 0))) rfl km_0 rfl 12 (by decide) (List.mem_of_getElem? (i := 5) rfl) rfl dX8_chain_196 ?_
                      refine lv_if_eq (tgt := 208) hx hb dX8_chain_199 (by decide) (fun c_199 => ?_) (fun c_199 => ?_)
                      · refine lv_aload_n hx hb dX8_chain_208 rfl (lv_at hl 0 rfl) ?_
                        refine k_get (C := RX8) (T := TX8) (N := 13) (v := .int (nI u)) hx hb hts hown E I iX8 (0) (by decide) (r0 := (upd (upd (upd (upd (σ 0) 8 (nI k)) 9 (nI (n - k))) 11 (nI u)) 12 (nI 0))) rfl km_0 rfl 11 (by decide) (List.mem_of_getElem? (i := 4) rfl) rfl dX8_chain_209 ?_
                        refine k_put (C := RX8) (T := TX8) (N := 13) (ty0 := tyX8) (ty := .int) (v := .int (nI u)) hx hb hts hown E I iX8 tyX8_ok nmX8 (0) (by decide) (r0 := (upd (upd (upd (upd (σ 0) 8 (nI k)) 9 (nI (n - k))) 11 (nI u)) 12 (nI 0))) rfl km_0 rfl 11 (by decide) (List.mem_of_getElem? (i := 4) rfl) rfl rfl rfl rfl (Nat.le_of_ble_eq_true rfl) (upd (upd (upd (upd (σ 0) 8 (nI k)) 9 (nI (n - k))) 11 (nI u)) 12 (nI 0)) rfl (σ2 := va_up σ 0 (upd (upd (upd (upd (σ 0) 8 (nI k)) 9 (nI (n - k))) 11 (nI u)) 12 (nI 0))) (bx_uu _ _ _ _) dX8_chain_212 (fun H locs I => ?_)
                        refine lv_aload_n hx hb dX8_chain_215 rfl (lv_at hl 0 rfl) ?_
                        refine lv_aload_n hx hb dX8_chain_216 rfl (lv_at hl 0 rfl) ?_
                        refine k_get (C := RX8) (T := TX8) (N := 13) (v := .int (nI 0)) hx hb hts hown E I iX8 (0) (by decide) (r0 := (upd (upd (upd (upd (σ 0) 8 (nI k)) 9 (nI (n - k))) 11 (nI u)) 12 (nI 0))) rfl km_0 rfl 12 (by decide) (List.mem_of_getElem? (i := 5) rfl) rfl dX8_chain_217 ?_
                        refine lv_if_eq (tgt := 227) hx hb dX8_chain_220 (by decide) (fun c_220 => ?_) (fun c_220 => ?_)
                        · refine lv_iload_n hx hb dX8_chain_227 rfl (lv_at hl 1 rfl) ?_
                          refine lv_iload_n hx hb dX8_chain_228 rfl (lv_at hl 2 rfl) ?_
                          refine lv_iload hx hb dX8_chain_229 (lv_at hl 3 rfl) ?_
                          refine lv_aload_n hx hb dX8_chain_231 rfl (lv_at hl 0 rfl) ?_
                          refine k_get (C := RX8) (T := TX8) (N := 13) (v := .int (nI u)) hx hb hts hown E I iX8 (0) (by decide) (r0 := (upd (upd (upd (upd (σ 0) 8 (nI k)) 9 (nI (n - k))) 11 (nI u)) 12 (nI 0))) rfl km_0 rfl 11 (by decide) (List.mem_of_getElem? (i := 4) rfl) rfl dX8_chain_232 ?_
                          refine k_calls (As := [.int (nI n), .int (nI w), .int (nI h), .int (nI u)]) (rest := [.ref (ad 0)]) ⟨hx, hb, hml, hown, hts⟩ (c_X8_runs l n w h u hn hw1 hw hh (by omega)) (va_cwS 4 hts gX8_chain_X8_runs rfl rfl rfl (by decide +kernel) ⟨Nat.le_of_ble_eq_true rfl, Nat.le_of_ble_eq_true rfl⟩) rfl hl.1 rfl (lv_room (Nat.le_of_ble_eq_true rfl)) dX8_chain_235 ⟨Nat.le_of_ble_eq_true rfl, Nat.le_of_ble_eq_true rfl⟩ (fun r_235 hp_235 => ?_)
                          subst hp_235
                          refine k_put (C := RX8) (T := TX8) (N := 13) (ty0 := tyX8) (ty := .int) (v := .int (nI (sX h w u n))) hx hb hts hown E I iX8 tyX8_ok nmX8 (0) (by decide) (r0 := (upd (upd (upd (upd (σ 0) 8 (nI k)) 9 (nI (n - k))) 11 (nI u)) 12 (nI 0))) rfl km_0 rfl 10 (by decide) (List.mem_of_getElem? (i := 6) rfl) rfl rfl rfl rfl (Nat.le_of_ble_eq_true rfl) (upd (upd (upd (upd (upd (σ 0) 8 (nI k)) 9 (nI (n - k))) 10 (nI (sX h w u n))) 11 (nI u)) 12 (nI 0)) rfl (σ2 := va_up σ 0 (upd (upd (upd (upd (upd (σ 0) 8 (nI k)) 9 (nI (n - k))) 10 (nI (sX h w u n))) 11 (nI u)) 12 (nI 0))) (bx_uu _ _ _ _) dX8_chain_238 (fun H locs I => ?_)
                          exact k_vret hx hb hr hlk I dX8_chain_241 (⟨_, rfl, fun j hj => by rw [pk_un (by omega), pk_un (by omega), pk_un (by omega), pk_un (by omega), pk_un (by omega)], congrArg nI hgk.symm, congrArg nI (by rw [hz.1, hkn2]), by first | exact congrArg nI hz3.1.symm | exact congrArg nI hz2.1.symm, by first | exact congrArg nI hz3.2.1.symm | exact congrArg nI hz2.2.1.symm, by first | exact congrArg nI hz3.2.2.symm | exact congrArg nI hz2.2.2.symm⟩)
                        · exact absurd c_220 (by decide)
                      · exact absurd c_199 (by decide)
                    · have c_183 : ¬ (u ≤ 999) := fun q_ => c_183 ((nI_leI (by omega) (by omega)).mpr q_)
                      have hz2 := hz.2.1 (by omega)
                      refine lv_iconst (v := nI 1) hx hb dX8_chain_186 (by decide) ?_
                      refine lv_goto (tgt := 191) hx hb dX8_chain_187 (by decide) ?_
                      refine k_put (C := RX8) (T := TX8) (N := 13) (ty0 := tyX8) (ty := .boolean) (v := .int (nI 1)) hx hb hts hown E I iX8 tyX8_ok nmX8 (0) (by decide) (r0 := (upd (upd (upd (upd (σ 0) 8 (nI k)) 9 (nI (n - k))) 11 (nI u)) 12 (nI 0))) rfl km_0 rfl 12 (by decide) (List.mem_of_getElem? (i := 5) rfl) rfl rfl (by decide) (by decide) (Nat.le_of_ble_eq_true rfl) (upd (upd (upd (upd (σ 0) 8 (nI k)) 9 (nI (n - k))) 11 (nI u)) 12 (nI 1)) rfl (σ2 := va_up σ 0 (upd (upd (upd (upd (σ 0) 8 (nI k)) 9 (nI (n - k))) 11 (nI u)) 12 (nI 1))) (bx_uu _ _ _ _) dX8_chain_191 (fun H locs I => ?_)
                      refine lv_aload_n hx hb dX8_chain_194 rfl (lv_at hl 0 rfl) ?_
                      refine lv_aload_n hx hb dX8_chain_195 rfl (lv_at hl 0 rfl) ?_
                      refine k_get (C := RX8) (T := TX8) (N := 13) (v := .int (nI 1)) hx hb hts hown E I iX8 (0) (by decide) (r0 := (upd (upd (upd (upd (σ 0) 8 (nI k)) 9 (nI (n - k))) 11 (nI u)) 12 (nI 1))) rfl km_0 rfl 12 (by decide) (List.mem_of_getElem? (i := 5) rfl) rfl dX8_chain_196 ?_
                      refine lv_if_eq (tgt := 208) hx hb dX8_chain_199 (by decide) (fun c_199 => ?_) (fun c_199 => ?_)
                      · exact absurd c_199 (by decide)
                      · refine lv_sipush (v := nI 999) hx hb dX8_chain_202 (by decide) ?_
                        refine lv_goto (tgt := 212) hx hb dX8_chain_205 (by decide) ?_
                        refine k_put (C := RX8) (T := TX8) (N := 13) (ty0 := tyX8) (ty := .int) (v := .int (nI 999)) hx hb hts hown E I iX8 tyX8_ok nmX8 (0) (by decide) (r0 := (upd (upd (upd (upd (σ 0) 8 (nI k)) 9 (nI (n - k))) 11 (nI u)) 12 (nI 1))) rfl km_0 rfl 11 (by decide) (List.mem_of_getElem? (i := 4) rfl) rfl rfl rfl rfl (Nat.le_of_ble_eq_true rfl) (upd (upd (upd (upd (σ 0) 8 (nI k)) 9 (nI (n - k))) 11 (nI 999)) 12 (nI 1)) rfl (σ2 := va_up σ 0 (upd (upd (upd (upd (σ 0) 8 (nI k)) 9 (nI (n - k))) 11 (nI 999)) 12 (nI 1))) (bx_uu _ _ _ _) dX8_chain_212 (fun H locs I => ?_)
                        refine lv_aload_n hx hb dX8_chain_215 rfl (lv_at hl 0 rfl) ?_
                        refine lv_aload_n hx hb dX8_chain_216 rfl (lv_at hl 0 rfl) ?_
                        refine k_get (C := RX8) (T := TX8) (N := 13) (v := .int (nI 1)) hx hb hts hown E I iX8 (0) (by decide) (r0 := (upd (upd (upd (upd (σ 0) 8 (nI k)) 9 (nI (n - k))) 11 (nI 999)) 12 (nI 1))) rfl km_0 rfl 12 (by decide) (List.mem_of_getElem? (i := 5) rfl) rfl dX8_chain_217 ?_
                        refine lv_if_eq (tgt := 227) hx hb dX8_chain_220 (by decide) (fun c_220 => ?_) (fun c_220 => ?_)
                        · exact absurd c_220 (by decide)
                        · refine lv_iconst (v := nI 0) hx hb dX8_chain_223 (by decide) ?_
                          refine lv_goto (tgt := 238) hx hb dX8_chain_224 (by decide) ?_
                          refine k_put (C := RX8) (T := TX8) (N := 13) (ty0 := tyX8) (ty := .int) (v := .int (nI 0)) hx hb hts hown E I iX8 tyX8_ok nmX8 (0) (by decide) (r0 := (upd (upd (upd (upd (σ 0) 8 (nI k)) 9 (nI (n - k))) 11 (nI 999)) 12 (nI 1))) rfl km_0 rfl 10 (by decide) (List.mem_of_getElem? (i := 6) rfl) rfl rfl rfl rfl (Nat.le_of_ble_eq_true rfl) (upd (upd (upd (upd (upd (σ 0) 8 (nI k)) 9 (nI (n - k))) 10 (nI 0)) 11 (nI 999)) 12 (nI 1)) rfl (σ2 := va_up σ 0 (upd (upd (upd (upd (upd (σ 0) 8 (nI k)) 9 (nI (n - k))) 10 (nI 0)) 11 (nI 999)) 12 (nI 1))) (bx_uu _ _ _ _) dX8_chain_238 (fun H locs I => ?_)
                          exact k_vret hx hb hr hlk I dX8_chain_241 (⟨_, rfl, fun j hj => by rw [pk_un (by omega), pk_un (by omega), pk_un (by omega), pk_un (by omega), pk_un (by omega)], congrArg nI hgk.symm, congrArg nI (by rw [hz.1, hkn2]), by first | exact congrArg nI hz3.1.symm | exact congrArg nI hz2.1.symm, by first | exact congrArg nI hz3.2.1.symm | exact congrArg nI hz2.2.1.symm, by first | exact congrArg nI hz3.2.2.symm | exact congrArg nI hz2.2.2.symm⟩)
                  · have c_159 : ¬ ((10 * dq) ≤ (sR h w u n)) := fun q_ => c_159 ((nI_leI (by omega) (by omega)).mpr q_)
                    refine lv_aload_n hx hb dX8_chain_162 rfl (lv_at hl 0 rfl) ?_
                    refine lv_dup hx hb dX8_chain_163 rfl ?_
                    refine k_get (C := RX8) (T := TX8) (N := 13) (v := .int (nI u)) hx hb hts hown E I iX8 (0) (by decide) (r0 := (upd (upd (upd (upd (σ 0) 8 (nI k)) 9 (nI (n - k))) 11 (nI u)) 12 (nI 0))) rfl km_0 rfl 11 (by decide) (List.mem_of_getElem? (i := 4) rfl) rfl dX8_chain_164 ?_
                    refine lv_iconst (v := nI 1) hx hb dX8_chain_167 (by decide) ?_
                    refine lv_iadd hx hb dX8_chain_168 ?_
                    rw [nI_add]
                    refine k_put (C := RX8) (T := TX8) (N := 13) (ty0 := tyX8) (ty := .int) (v := .int (nI (u + 1))) hx hb hts hown E I iX8 tyX8_ok nmX8 (0) (by decide) (r0 := (upd (upd (upd (upd (σ 0) 8 (nI k)) 9 (nI (n - k))) 11 (nI u)) 12 (nI 0))) rfl km_0 rfl 11 (by decide) (List.mem_of_getElem? (i := 4) rfl) rfl rfl rfl rfl (Nat.le_of_ble_eq_true rfl) (upd (upd (upd (upd (σ 0) 8 (nI k)) 9 (nI (n - k))) 11 (nI (u + 1))) 12 (nI 0)) rfl (σ2 := va_up σ 0 (upd (upd (upd (upd (σ 0) 8 (nI k)) 9 (nI (n - k))) 11 (nI (u + 1))) 12 (nI 0))) (bx_uu _ _ _ _) dX8_chain_169 (fun H locs I => ?_)
                    refine lv_goto (tgt := 136) hx hb dX8_chain_172 (by decide) ?_
                    exact ih_136 (u + 1) (by omega) (by omega) (by omega) (fun v hv => by by_cases e_ : v = u; (rw [e_]; omega); exact hun v (by omega)) _ _ I _ (lv_sub hl [0, 1, 2, 3, 4] rfl)
            exact LP_136 _ _ (Nat.lt_succ_self _) (by omega) (by omega) (by first | exact fun v _ => zFew (by omega) | exact fun v hv => by rw [show v = 0 by omega]; exact h0) _ _ I _ (lv_sub hl [0, 2, 3, 4, 5] rfl)
        · have c_89 : ¬ ((sR h w 0 k) < (10 * dq)) := fun q_ => c_89 ((nI_ltI (by omega) (by omega)).mpr q_)
          have hz := zLie_ok hgk (by omega)
          refine lv_aload_n hx hb dX8_chain_92 rfl (lv_at hl 0 rfl) ?_
          refine lv_bipush (v := nI 10) hx hb dX8_chain_93 (by decide) ?_
          refine lv_aload_n hx hb dX8_chain_95 rfl (lv_at hl 0 rfl) ?_
          refine k_get (C := RX8) (T := TX8) (N := 13) (v := .int (nI (n - k))) hx hb hts hown E I iX8 (0) (by decide) (r0 := (upd (upd (upd (upd (σ 0) 8 (nI k)) 9 (nI (n - k))) 11 (nI 0)) 12 (nI 0))) rfl km_0 rfl 9 (by decide) (List.mem_of_getElem? (i := 3) rfl) rfl dX8_chain_96 ?_
          refine lv_imul hx hb dX8_chain_99 ?_
          rw [pk_mul]
          refine lv_aload_n hx hb dX8_chain_100 rfl (lv_at hl 0 rfl) ?_
          refine k_get (C := RX8) (T := TX8) (N := 13) (v := .int (nI k)) hx hb hts hown E I iX8 (0) (by decide) (r0 := (upd (upd (upd (upd (σ 0) 8 (nI k)) 9 (nI (n - k))) 11 (nI 0)) 12 (nI 0))) rfl km_0 rfl 8 (by decide) (List.mem_of_getElem? (i := 2) rfl) rfl dX8_chain_101 ?_
          refine lv_iload_n hx hb dX8_chain_104 rfl (lv_at hl 3 rfl) ?_
          refine lv_iload hx hb dX8_chain_105 (lv_at hl 4 rfl) ?_
          refine lv_iconst (v := nI 0) hx hb dX8_chain_107 (by decide) ?_
          refine k_calls (As := [.int (nI k), .int (nI w), .int (nI h), .int (nI 0)]) (rest := [.int (nI (10 * ((n - k)))), .ref (ad 0)]) ⟨hx, hb, hml, hown, hts⟩ (c_X8_runs l k w h 0 (by omega) hw1 hw hh (by decide)) (va_cwS 4 hts gX8_chain_X8_runs rfl rfl rfl (by decide +kernel) ⟨Nat.le_of_ble_eq_true rfl, Nat.le_of_ble_eq_true rfl⟩) rfl hl.1 rfl (lv_room (Nat.le_of_ble_eq_true rfl)) dX8_chain_108 ⟨Nat.le_of_ble_eq_true rfl, Nat.le_of_ble_eq_true rfl⟩ (fun r_108 hp_108 => ?_)
          subst hp_108
          refine lv_iadd hx hb dX8_chain_111 ?_
          rw [nI_add]
          refine k_put (C := RX8) (T := TX8) (N := 13) (ty0 := tyX8) (ty := .int) (v := .int (nI ((10 * ((n - k))) + (sX h w 0 k)))) hx hb hts hown E I iX8 tyX8_ok nmX8 (0) (by decide) (r0 := (upd (upd (upd (upd (σ 0) 8 (nI k)) 9 (nI (n - k))) 11 (nI 0)) 12 (nI 0))) rfl km_0 rfl 10 (by decide) (List.mem_of_getElem? (i := 6) rfl) rfl rfl rfl rfl (Nat.le_of_ble_eq_true rfl) (upd (upd (upd (upd (upd (σ 0) 8 (nI k)) 9 (nI (n - k))) 10 (nI ((10 * ((n - k))) + (sX h w 0 k)))) 11 (nI 0)) 12 (nI 0)) rfl (σ2 := va_up σ 0 (upd (upd (upd (upd (upd (σ 0) 8 (nI k)) 9 (nI (n - k))) 10 (nI ((10 * ((n - k))) + (sX h w 0 k)))) 11 (nI 0)) 12 (nI 0))) (bx_uu _ _ _ _) dX8_chain_112 (fun H locs I => ?_)
          exact k_vret hx hb hr hlk I dX8_chain_115 (⟨_, rfl, fun j hj => by rw [pk_un (by omega), pk_un (by omega), pk_un (by omega), pk_un (by omega), pk_un (by omega)], congrArg nI hgk.symm, congrArg nI hz.1.symm, congrArg nI hz.2.1.symm, congrArg nI hz.2.2.1.symm, congrArg nI hz.2.2.2.symm⟩)
      · have c_25 : ¬ ((10 * dq) ≤ (sR h w 0 k)) := fun q_ => c_25 ((nI_leI (by omega) (by omega)).mpr q_)
        refine lv_aload_n hx hb dX8_chain_28 rfl (lv_at hl 0 rfl) ?_
        refine k_get (C := RX8) (T := TX8) (N := 13) (v := .int (nI k)) hx hb hts hown E I iX8 (0) (by decide) (r0 := (upd (σ 0) 8 (nI k))) rfl km_0 rfl 8 (by decide) (List.mem_of_getElem? (i := 2) rfl) rfl dX8_chain_29 ?_
        refine lv_iload_n hx hb dX8_chain_32 rfl (lv_at hl 2 rfl) ?_
        refine lv_icmp_ge (tgt := 65) hx hb dX8_chain_33 (by decide) (fun c_33 => ?_) (fun c_33 => ?_)
        · have c_33 : n ≤ k := (nI_leI (by omega) (by omega)).mp c_33
          have hgk : hg h w 0 (10 * dq) n = k := hg_eq hkn hno (fun z => absurd z (by omega))
          refine lv_aload_n hx hb dX8_chain_65 rfl (lv_at hl 0 rfl) ?_
          refine lv_iload_n hx hb dX8_chain_66 rfl (lv_at hl 2 rfl) ?_
          refine lv_aload_n hx hb dX8_chain_67 rfl (lv_at hl 0 rfl) ?_
          refine k_get (C := RX8) (T := TX8) (N := 13) (v := .int (nI k)) hx hb hts hown E I iX8 (0) (by decide) (r0 := (upd (σ 0) 8 (nI k))) rfl km_0 rfl 8 (by decide) (List.mem_of_getElem? (i := 2) rfl) rfl dX8_chain_68 ?_
          refine lv_isub hx hb dX8_chain_71 ?_
          refine lv_topi (fun t_72 et_72 => ?_)
          have et_72 : t_72 = nI (n - k) := et_72.trans (pk_sub hkn)
          subst et_72
          refine k_put (C := RX8) (T := TX8) (N := 13) (ty0 := tyX8) (ty := .int) (v := .int (nI (n - k))) hx hb hts hown E I iX8 tyX8_ok nmX8 (0) (by decide) (r0 := (upd (σ 0) 8 (nI k))) rfl km_0 rfl 9 (by decide) (List.mem_of_getElem? (i := 3) rfl) rfl rfl rfl rfl (Nat.le_of_ble_eq_true rfl) (upd (upd (σ 0) 8 (nI k)) 9 (nI (n - k))) rfl (σ2 := va_up σ 0 (upd (upd (σ 0) 8 (nI k)) 9 (nI (n - k)))) (bx_uu _ _ _ _) dX8_chain_72 (fun H locs I => ?_)
          refine lv_aload_n hx hb dX8_chain_75 rfl (lv_at hl 0 rfl) ?_
          refine lv_iconst (v := nI 0) hx hb dX8_chain_76 (by decide) ?_
          refine k_put (C := RX8) (T := TX8) (N := 13) (ty0 := tyX8) (ty := .int) (v := .int (nI 0)) hx hb hts hown E I iX8 tyX8_ok nmX8 (0) (by decide) (r0 := (upd (upd (σ 0) 8 (nI k)) 9 (nI (n - k)))) rfl km_0 rfl 11 (by decide) (List.mem_of_getElem? (i := 4) rfl) rfl rfl rfl rfl (Nat.le_of_ble_eq_true rfl) (upd (upd (upd (σ 0) 8 (nI k)) 9 (nI (n - k))) 11 (nI 0)) rfl (σ2 := va_up σ 0 (upd (upd (upd (σ 0) 8 (nI k)) 9 (nI (n - k))) 11 (nI 0))) (bx_uu _ _ _ _) dX8_chain_77 (fun H locs I => ?_)
          refine lv_aload_n hx hb dX8_chain_80 rfl (lv_at hl 0 rfl) ?_
          refine lv_iconst (v := nI 0) hx hb dX8_chain_81 (by decide) ?_
          refine k_put (C := RX8) (T := TX8) (N := 13) (ty0 := tyX8) (ty := .boolean) (v := .int (nI 0)) hx hb hts hown E I iX8 tyX8_ok nmX8 (0) (by decide) (r0 := (upd (upd (upd (σ 0) 8 (nI k)) 9 (nI (n - k))) 11 (nI 0))) rfl km_0 rfl 12 (by decide) (List.mem_of_getElem? (i := 5) rfl) rfl rfl (by decide) (by decide) (Nat.le_of_ble_eq_true rfl) (upd (upd (upd (upd (σ 0) 8 (nI k)) 9 (nI (n - k))) 11 (nI 0)) 12 (nI 0)) rfl (σ2 := va_up σ 0 (upd (upd (upd (upd (σ 0) 8 (nI k)) 9 (nI (n - k))) 11 (nI 0)) 12 (nI 0))) (bx_uu _ _ _ _) dX8_chain_82 (fun H locs I => ?_)
          refine lv_iload hx hb dX8_chain_85 (lv_at hl 6 rfl) ?_
          refine lv_iload hx hb dX8_chain_87 (lv_at hl 5 rfl) ?_
          refine lv_icmp_lt (tgt := 116) hx hb dX8_chain_89 (by decide) (fun c_89 => ?_) (fun c_89 => ?_)
          · have c_89 : (sR h w 0 k) < (10 * dq) := (nI_ltI (by omega) (by omega)).mp c_89
            have hkn2 : k = n := by
              rcases Nat.lt_or_ge k n with q | q
              · have := hg_yes (h := h) (w := w) (u := 0) (d := 10 * dq) (n := n) (by omega)
                rw [hgk] at this
                omega
              · omega
            have h0 : sR h w 0 n < 10 * dq := by rw [← hkn2]; omega
            refine lv_aload_n hx hb dX8_chain_116 rfl (lv_at hl 0 rfl) ?_
            refine lv_bipush (v := nI 10) hx hb dX8_chain_117 (by decide) ?_
            refine lv_iload_n hx hb dX8_chain_119 rfl (lv_at hl 2 rfl) ?_
            refine lv_imul hx hb dX8_chain_120 ?_
            rw [pk_mul]
            refine lv_iload hx hb dX8_chain_121 (lv_at hl 5 rfl) ?_
            refine lv_icmp_ge (tgt := 132) hx hb dX8_chain_123 (by decide) (fun c_123 => ?_) (fun c_123 => ?_)
            · have c_123 : (10 * dq) ≤ (10 * n) := (nI_leI (by omega) (by omega)).mp c_123
              refine lv_iconst (v := nI 1) hx hb dX8_chain_132 (by decide) ?_
              refine k_put (C := RX8) (T := TX8) (N := 13) (ty0 := tyX8) (ty := .int) (v := .int (nI 1)) hx hb hts hown E I iX8 tyX8_ok nmX8 (0) (by decide) (r0 := (upd (upd (upd (upd (σ 0) 8 (nI k)) 9 (nI (n - k))) 11 (nI 0)) 12 (nI 0))) rfl km_0 rfl 11 (by decide) (List.mem_of_getElem? (i := 4) rfl) rfl rfl rfl rfl (Nat.le_of_ble_eq_true rfl) (upd (upd (upd (upd (σ 0) 8 (nI k)) 9 (nI (n - k))) 11 (nI 1)) 12 (nI 0)) rfl (σ2 := va_up σ 0 (upd (upd (upd (upd (σ 0) 8 (nI k)) 9 (nI (n - k))) 11 (nI 1)) 12 (nI 0))) (bx_uu _ _ _ _) dX8_chain_133 (fun H locs I => ?_)
              have LP_136 : ∀ (fuel_136 : Nat) (u : Nat), 1000 - u < fuel_136 → (1 ≤ u) → (u ≤ 1000) → (∀ v, v < u → sR h w v n < 10 * dq) → ∀ (H : Heap) (locs : List Loc), kI 6 ad (kcM cy ad) D (kA 6 ad s.heap.size) s.heap (va_up σ 0 (upd (upd (upd (upd (σ 0) 8 (nI k)) 9 (nI (n - k))) 11 (nI u)) 12 (nI 0))) H locs → ∀ ls : Array Slot, lv_has ls 7 [(0, .ref (ad 0)), (2, .int (nI n)), (3, .int (nI w)), (4, .int (nI h)), (5, .int (nI (10 * dq)))] → W p l e (headSpec wsX8_chain ({ frames := 3, cells := 0, slots := 0, locals := 70 })).room s m [.ref (ad 0), .int (nI x), .int (nI n), .int (nI w), .int (nI h)].toArray below meth c H locs 0 0 (MQ below (va_Qv (fun σ' => ∃ R : Nat → Int32, σ' = va_up σ 0 R ∧ (∀ j, j < 8 → R j = σ 0 j) ∧ mLie R h w (10 * dq) n) (kB 6 ad (kcM cy ad) D) (kA 6 ad s.heap.size)) [.ref (ad 0), .int (nI x), .int (nI n), .int (nI w), .int (nI h)].toArray s 0 0 (kA 6 ad s.heap.size)) (F0 m 136 ls []) := by
                intro fuel_136
                induction fuel_136 with
                | zero => intro u hf_136; exact absurd hf_136 (Nat.not_lt_zero _)
                | succ fuel_136 ih_136 =>
                  intro u hf_136 hu1 hu9 hun H locs I ls hl
                  refine lv_aload_n hx hb dX8_chain_136 rfl (lv_at hl 0 rfl) ?_
                  refine k_get (C := RX8) (T := TX8) (N := 13) (v := .int (nI u)) hx hb hts hown E I iX8 (0) (by decide) (r0 := (upd (upd (upd (upd (σ 0) 8 (nI k)) 9 (nI (n - k))) 11 (nI u)) 12 (nI 0))) rfl km_0 rfl 11 (by decide) (List.mem_of_getElem? (i := 4) rfl) rfl dX8_chain_137 ?_
                  refine lv_sipush (v := nI 999) hx hb dX8_chain_140 (by decide) ?_
                  refine lv_icmp_gt (tgt := 175) hx hb dX8_chain_143 (by decide) (fun c_143 => ?_) (fun c_143 => ?_)
                  · have c_143 : 999 < u := (nI_ltI (by omega) (by omega)).mp c_143
                    have hul : lf h w (10 * dq) n = u := by have := lf_eq (h := h) (w := w) (d := 10 * dq) (n := n) (t := u - 1) (by omega) (hun _ (by omega)) (fun z => absurd z (by omega)); omega
                    have hz := zLie_no (hgk.trans hkn2) h0 hul
                    refine lv_aload_n hx hb dX8_chain_175 rfl (lv_at hl 0 rfl) ?_
                    refine lv_aload_n hx hb dX8_chain_176 rfl (lv_at hl 0 rfl) ?_
                    refine k_get (C := RX8) (T := TX8) (N := 13) (v := .int (nI u)) hx hb hts hown E I iX8 (0) (by decide) (r0 := (upd (upd (upd (upd (σ 0) 8 (nI k)) 9 (nI (n - k))) 11 (nI u)) 12 (nI 0))) rfl km_0 rfl 11 (by decide) (List.mem_of_getElem? (i := 4) rfl) rfl dX8_chain_177 ?_
                    refine lv_sipush (v := nI 999) hx hb dX8_chain_180 (by decide) ?_
                    refine lv_icmp_le (tgt := 190) hx hb dX8_chain_183 (by decide) (fun c_183 => ?_) (fun c_183 => ?_)
                    · have c_183 : u ≤ 999 := (nI_leI (by omega) (by omega)).mp c_183
                      have hz3 := hz.2.2 (by omega)
                      refine lv_iconst (v := nI 0) hx hb dX8_chain_190 (by decide) ?_
                      refine k_put (C := RX8) (T := TX8) (N := 13) (ty0 := tyX8) (ty := .boolean) (v := .int (nI 0)) hx hb hts hown E I iX8 tyX8_ok nmX8 (0) (by decide) (r0 := (upd (upd (upd (upd (σ 0) 8 (nI k)) 9 (nI (n - k))) 11 (nI u)) 12 (nI 0))) rfl km_0 rfl 12 (by decide) (List.mem_of_getElem? (i := 5) rfl) rfl rfl (by decide) (by decide) (Nat.le_of_ble_eq_true rfl) (upd (upd (upd (upd (σ 0) 8 (nI k)) 9 (nI (n - k))) 11 (nI u)) 12 (nI 0)) rfl (σ2 := va_up σ 0 (upd (upd (upd (upd (σ 0) 8 (nI k)) 9 (nI (n - k))) 11 (nI u)) 12 (nI 0))) (bx_uu _ _ _ _) dX8_chain_191 (fun H locs I => ?_)
                      refine lv_aload_n hx hb dX8_chain_194 rfl (lv_at hl 0 rfl) ?_
                      refine lv_aload_n hx hb dX8_chain_195 rfl (lv_at hl 0 rfl) ?_
                      refine k_get (C := RX8) (T := TX8) (N := 13) (v := .int (nI 0)) hx hb hts hown E I iX8 (0) (by decide) (r0 := (upd (upd (upd (upd (σ 0) 8 (nI k)) 9 (nI (n - k))) 11 (nI u)) 12 (nI 0))) rfl km_0 rfl 12 (by decide) (List.mem_of_getElem? (i := 5) rfl) rfl dX8_chain_196 ?_
                      refine lv_if_eq (tgt := 208) hx hb dX8_chain_199 (by decide) (fun c_199 => ?_) (fun c_199 => ?_)
                      · refine lv_aload_n hx hb dX8_chain_208 rfl (lv_at hl 0 rfl) ?_
                        refine k_get (C := RX8) (T := TX8) (N := 13) (v := .int (nI u)) hx hb hts hown E I iX8 (0) (by decide) (r0 := (upd (upd (upd (upd (σ 0) 8 (nI k)) 9 (nI (n - k))) 11 (nI u)) 12 (nI 0))) rfl km_0 rfl 11 (by decide) (List.mem_of_getElem? (i := 4) rfl) rfl dX8_chain_209 ?_
                        refine k_put (C := RX8) (T := TX8) (N := 13) (ty0 := tyX8) (ty := .int) (v := .int (nI u)) hx hb hts hown E I iX8 tyX8_ok nmX8 (0) (by decide) (r0 := (upd (upd (upd (upd (σ 0) 8 (nI k)) 9 (nI (n - k))) 11 (nI u)) 12 (nI 0))) rfl km_0 rfl 11 (by decide) (List.mem_of_getElem? (i := 4) rfl) rfl rfl rfl rfl (Nat.le_of_ble_eq_true rfl) (upd (upd (upd (upd (σ 0) 8 (nI k)) 9 (nI (n - k))) 11 (nI u)) 12 (nI 0)) rfl (σ2 := va_up σ 0 (upd (upd (upd (upd (σ 0) 8 (nI k)) 9 (nI (n - k))) 11 (nI u)) 12 (nI 0))) (bx_uu _ _ _ _) dX8_chain_212 (fun H locs I => ?_)
                        refine lv_aload_n hx hb dX8_chain_215 rfl (lv_at hl 0 rfl) ?_
                        refine lv_aload_n hx hb dX8_chain_216 rfl (lv_at hl 0 rfl) ?_
                        refine k_get (C := RX8) (T := TX8) (N := 13) (v := .int (nI 0)) hx hb hts hown E I iX8 (0) (by decide) (r0 := (upd (upd (upd (upd (σ 0) 8 (nI k)) 9 (nI (n - k))) 11 (nI u)) 12 (nI 0))) rfl km_0 rfl 12 (by decide) (List.mem_of_getElem? (i := 5) rfl) rfl dX8_chain_217 ?_
                        refine lv_if_eq (tgt := 227) hx hb dX8_chain_220 (by decide) (fun c_220 => ?_) (fun c_220 => ?_)
                        · refine lv_iload_n hx hb dX8_chain_227 rfl (lv_at hl 1 rfl) ?_
                          refine lv_iload_n hx hb dX8_chain_228 rfl (lv_at hl 2 rfl) ?_
                          refine lv_iload hx hb dX8_chain_229 (lv_at hl 3 rfl) ?_
                          refine lv_aload_n hx hb dX8_chain_231 rfl (lv_at hl 0 rfl) ?_
                          refine k_get (C := RX8) (T := TX8) (N := 13) (v := .int (nI u)) hx hb hts hown E I iX8 (0) (by decide) (r0 := (upd (upd (upd (upd (σ 0) 8 (nI k)) 9 (nI (n - k))) 11 (nI u)) 12 (nI 0))) rfl km_0 rfl 11 (by decide) (List.mem_of_getElem? (i := 4) rfl) rfl dX8_chain_232 ?_
                          refine k_calls (As := [.int (nI n), .int (nI w), .int (nI h), .int (nI u)]) (rest := [.ref (ad 0)]) ⟨hx, hb, hml, hown, hts⟩ (c_X8_runs l n w h u hn hw1 hw hh (by omega)) (va_cwS 4 hts gX8_chain_X8_runs rfl rfl rfl (by decide +kernel) ⟨Nat.le_of_ble_eq_true rfl, Nat.le_of_ble_eq_true rfl⟩) rfl hl.1 rfl (lv_room (Nat.le_of_ble_eq_true rfl)) dX8_chain_235 ⟨Nat.le_of_ble_eq_true rfl, Nat.le_of_ble_eq_true rfl⟩ (fun r_235 hp_235 => ?_)
                          subst hp_235
                          refine k_put (C := RX8) (T := TX8) (N := 13) (ty0 := tyX8) (ty := .int) (v := .int (nI (sX h w u n))) hx hb hts hown E I iX8 tyX8_ok nmX8 (0) (by decide) (r0 := (upd (upd (upd (upd (σ 0) 8 (nI k)) 9 (nI (n - k))) 11 (nI u)) 12 (nI 0))) rfl km_0 rfl 10 (by decide) (List.mem_of_getElem? (i := 6) rfl) rfl rfl rfl rfl (Nat.le_of_ble_eq_true rfl) (upd (upd (upd (upd (upd (σ 0) 8 (nI k)) 9 (nI (n - k))) 10 (nI (sX h w u n))) 11 (nI u)) 12 (nI 0)) rfl (σ2 := va_up σ 0 (upd (upd (upd (upd (upd (σ 0) 8 (nI k)) 9 (nI (n - k))) 10 (nI (sX h w u n))) 11 (nI u)) 12 (nI 0))) (bx_uu _ _ _ _) dX8_chain_238 (fun H locs I => ?_)
                          exact k_vret hx hb hr hlk I dX8_chain_241 (⟨_, rfl, fun j hj => by rw [pk_un (by omega), pk_un (by omega), pk_un (by omega), pk_un (by omega), pk_un (by omega)], congrArg nI hgk.symm, congrArg nI (by rw [hz.1, hkn2]), by first | exact congrArg nI hz3.1.symm | exact congrArg nI hz2.1.symm, by first | exact congrArg nI hz3.2.1.symm | exact congrArg nI hz2.2.1.symm, by first | exact congrArg nI hz3.2.2.symm | exact congrArg nI hz2.2.2.symm⟩)
                        · exact absurd c_220 (by decide)
                      · exact absurd c_199 (by decide)
                    · have c_183 : ¬ (u ≤ 999) := fun q_ => c_183 ((nI_leI (by omega) (by omega)).mpr q_)
                      have hz2 := hz.2.1 (by omega)
                      refine lv_iconst (v := nI 1) hx hb dX8_chain_186 (by decide) ?_
                      refine lv_goto (tgt := 191) hx hb dX8_chain_187 (by decide) ?_
                      refine k_put (C := RX8) (T := TX8) (N := 13) (ty0 := tyX8) (ty := .boolean) (v := .int (nI 1)) hx hb hts hown E I iX8 tyX8_ok nmX8 (0) (by decide) (r0 := (upd (upd (upd (upd (σ 0) 8 (nI k)) 9 (nI (n - k))) 11 (nI u)) 12 (nI 0))) rfl km_0 rfl 12 (by decide) (List.mem_of_getElem? (i := 5) rfl) rfl rfl (by decide) (by decide) (Nat.le_of_ble_eq_true rfl) (upd (upd (upd (upd (σ 0) 8 (nI k)) 9 (nI (n - k))) 11 (nI u)) 12 (nI 1)) rfl (σ2 := va_up σ 0 (upd (upd (upd (upd (σ 0) 8 (nI k)) 9 (nI (n - k))) 11 (nI u)) 12 (nI 1))) (bx_uu _ _ _ _) dX8_chain_191 (fun H locs I => ?_)
                      refine lv_aload_n hx hb dX8_chain_194 rfl (lv_at hl 0 rfl) ?_
                      refine lv_aload_n hx hb dX8_chain_195 rfl (lv_at hl 0 rfl) ?_
                      refine k_get (C := RX8) (T := TX8) (N := 13) (v := .int (nI 1)) hx hb hts hown E I iX8 (0) (by decide) (r0 := (upd (upd (upd (upd (σ 0) 8 (nI k)) 9 (nI (n - k))) 11 (nI u)) 12 (nI 1))) rfl km_0 rfl 12 (by decide) (List.mem_of_getElem? (i := 5) rfl) rfl dX8_chain_196 ?_
                      refine lv_if_eq (tgt := 208) hx hb dX8_chain_199 (by decide) (fun c_199 => ?_) (fun c_199 => ?_)
                      · exact absurd c_199 (by decide)
                      · refine lv_sipush (v := nI 999) hx hb dX8_chain_202 (by decide) ?_
                        refine lv_goto (tgt := 212) hx hb dX8_chain_205 (by decide) ?_
                        refine k_put (C := RX8) (T := TX8) (N := 13) (ty0 := tyX8) (ty := .int) (v := .int (nI 999)) hx hb hts hown E I iX8 tyX8_ok nmX8 (0) (by decide) (r0 := (upd (upd (upd (upd (σ 0) 8 (nI k)) 9 (nI (n - k))) 11 (nI u)) 12 (nI 1))) rfl km_0 rfl 11 (by decide) (List.mem_of_getElem? (i := 4) rfl) rfl rfl rfl rfl (Nat.le_of_ble_eq_true rfl) (upd (upd (upd (upd (σ 0) 8 (nI k)) 9 (nI (n - k))) 11 (nI 999)) 12 (nI 1)) rfl (σ2 := va_up σ 0 (upd (upd (upd (upd (σ 0) 8 (nI k)) 9 (nI (n - k))) 11 (nI 999)) 12 (nI 1))) (bx_uu _ _ _ _) dX8_chain_212 (fun H locs I => ?_)
                        refine lv_aload_n hx hb dX8_chain_215 rfl (lv_at hl 0 rfl) ?_
                        refine lv_aload_n hx hb dX8_chain_216 rfl (lv_at hl 0 rfl) ?_
                        refine k_get (C := RX8) (T := TX8) (N := 13) (v := .int (nI 1)) hx hb hts hown E I iX8 (0) (by decide) (r0 := (upd (upd (upd (upd (σ 0) 8 (nI k)) 9 (nI (n - k))) 11 (nI 999)) 12 (nI 1))) rfl km_0 rfl 12 (by decide) (List.mem_of_getElem? (i := 5) rfl) rfl dX8_chain_217 ?_
                        refine lv_if_eq (tgt := 227) hx hb dX8_chain_220 (by decide) (fun c_220 => ?_) (fun c_220 => ?_)
                        · exact absurd c_220 (by decide)
                        · refine lv_iconst (v := nI 0) hx hb dX8_chain_223 (by decide) ?_
                          refine lv_goto (tgt := 238) hx hb dX8_chain_224 (by decide) ?_
                          refine k_put (C := RX8) (T := TX8) (N := 13) (ty0 := tyX8) (ty := .int) (v := .int (nI 0)) hx hb hts hown E I iX8 tyX8_ok nmX8 (0) (by decide) (r0 := (upd (upd (upd (upd (σ 0) 8 (nI k)) 9 (nI (n - k))) 11 (nI 999)) 12 (nI 1))) rfl km_0 rfl 10 (by decide) (List.mem_of_getElem? (i := 6) rfl) rfl rfl rfl rfl (Nat.le_of_ble_eq_true rfl) (upd (upd (upd (upd (upd (σ 0) 8 (nI k)) 9 (nI (n - k))) 10 (nI 0)) 11 (nI 999)) 12 (nI 1)) rfl (σ2 := va_up σ 0 (upd (upd (upd (upd (upd (σ 0) 8 (nI k)) 9 (nI (n - k))) 10 (nI 0)) 11 (nI 999)) 12 (nI 1))) (bx_uu _ _ _ _) dX8_chain_238 (fun H locs I => ?_)
                          exact k_vret hx hb hr hlk I dX8_chain_241 (⟨_, rfl, fun j hj => by rw [pk_un (by omega), pk_un (by omega), pk_un (by omega), pk_un (by omega), pk_un (by omega)], congrArg nI hgk.symm, congrArg nI (by rw [hz.1, hkn2]), by first | exact congrArg nI hz3.1.symm | exact congrArg nI hz2.1.symm, by first | exact congrArg nI hz3.2.1.symm | exact congrArg nI hz2.2.1.symm, by first | exact congrArg nI hz3.2.2.symm | exact congrArg nI hz2.2.2.symm⟩)
                  · have c_143 : ¬ (999 < u) := fun q_ => c_143 ((nI_ltI (by omega) (by omega)).mpr q_)
                    have hsu := sR_le h w u n
                    refine lv_iload_n hx hb dX8_chain_146 rfl (lv_at hl 1 rfl) ?_
                    refine lv_iload_n hx hb dX8_chain_147 rfl (lv_at hl 2 rfl) ?_
                    refine lv_iload hx hb dX8_chain_148 (lv_at hl 3 rfl) ?_
                    refine lv_aload_n hx hb dX8_chain_150 rfl (lv_at hl 0 rfl) ?_
                    refine k_get (C := RX8) (T := TX8) (N := 13) (v := .int (nI u)) hx hb hts hown E I iX8 (0) (by decide) (r0 := (upd (upd (upd (upd (σ 0) 8 (nI k)) 9 (nI (n - k))) 11 (nI u)) 12 (nI 0))) rfl km_0 rfl 11 (by decide) (List.mem_of_getElem? (i := 4) rfl) rfl dX8_chain_151 ?_
                    refine k_calls (As := [.int (nI n), .int (nI w), .int (nI h), .int (nI u)]) (rest := []) ⟨hx, hb, hml, hown, hts⟩ (c_X8_rises l n w h u hn hw1 hw hh (by omega)) (va_cwS 4 hts gX8_chain_X8_rises rfl rfl rfl (by decide +kernel) ⟨Nat.le_of_ble_eq_true rfl, Nat.le_of_ble_eq_true rfl⟩) rfl hl.1 rfl (lv_room (Nat.le_of_ble_eq_true rfl)) dX8_chain_154 ⟨Nat.le_of_ble_eq_true rfl, Nat.le_of_ble_eq_true rfl⟩ (fun r_154 hp_154 => ?_)
                    subst hp_154
                    refine lv_iload hx hb dX8_chain_157 (lv_at hl 4 rfl) ?_
                    refine lv_icmp_ge (tgt := 175) hx hb dX8_chain_159 (by decide) (fun c_159 => ?_) (fun c_159 => ?_)
                    · have c_159 : (10 * dq) ≤ (sR h w u n) := (nI_leI (by omega) (by omega)).mp c_159
                      have hul : lf h w (10 * dq) n = u := by have := lf_eq (h := h) (w := w) (d := 10 * dq) (n := n) (t := u - 1) (by omega) (hun _ (by omega)) (fun z => by rw [show u - 1 + 1 = u by omega]; omega); omega
                      have hz := zLie_no (hgk.trans hkn2) h0 hul
                      refine lv_aload_n hx hb dX8_chain_175 rfl (lv_at hl 0 rfl) ?_
                      refine lv_aload_n hx hb dX8_chain_176 rfl (lv_at hl 0 rfl) ?_
                      refine k_get (C := RX8) (T := TX8) (N := 13) (v := .int (nI u)) hx hb hts hown E I iX8 (0) (by decide) (r0 := (upd (upd (upd (upd (σ 0) 8 (nI k)) 9 (nI (n - k))) 11 (nI u)) 12 (nI 0))) rfl km_0 rfl 11 (by decide) (List.mem_of_getElem? (i := 4) rfl) rfl dX8_chain_177 ?_
                      refine lv_sipush (v := nI 999) hx hb dX8_chain_180 (by decide) ?_
                      refine lv_icmp_le (tgt := 190) hx hb dX8_chain_183 (by decide) (fun c_183 => ?_) (fun c_183 => ?_)
                      · have c_183 : u ≤ 999 := (nI_leI (by omega) (by omega)).mp c_183
                        have hz3 := hz.2.2 (by omega)
                        refine lv_iconst (v := nI 0) hx hb dX8_chain_190 (by decide) ?_
                        refine k_put (C := RX8) (T := TX8) (N := 13) (ty0 := tyX8) (ty := .boolean) (v := .int (nI 0)) hx hb hts hown E I iX8 tyX8_ok nmX8 (0) (by decide) (r0 := (upd (upd (upd (upd (σ 0) 8 (nI k)) 9 (nI (n - k))) 11 (nI u)) 12 (nI 0))) rfl km_0 rfl 12 (by decide) (List.mem_of_getElem? (i := 5) rfl) rfl rfl (by decide) (by decide) (Nat.le_of_ble_eq_true rfl) (upd (upd (upd (upd (σ 0) 8 (nI k)) 9 (nI (n - k))) 11 (nI u)) 12 (nI 0)) rfl (σ2 := va_up σ 0 (upd (upd (upd (upd (σ 0) 8 (nI k)) 9 (nI (n - k))) 11 (nI u)) 12 (nI 0))) (bx_uu _ _ _ _) dX8_chain_191 (fun H locs I => ?_)
                        refine lv_aload_n hx hb dX8_chain_194 rfl (lv_at hl 0 rfl) ?_
                        refine lv_aload_n hx hb dX8_chain_195 rfl (lv_at hl 0 rfl) ?_
                        refine k_get (C := RX8) (T := TX8) (N := 13) (v := .int (nI 0)) hx hb hts hown E I iX8 (0) (by decide) (r0 := (upd (upd (upd (upd (σ 0) 8 (nI k)) 9 (nI (n - k))) 11 (nI u)) 12 (nI 0))) rfl km_0 rfl 12 (by decide) (List.mem_of_getElem? (i := 5) rfl) rfl dX8_chain_196 ?_
                        refine lv_if_eq (tgt := 208) hx hb dX8_chain_199 (by decide) (fun c_199 => ?_) (fun c_199 => ?_)
                        · refine lv_aload_n hx hb dX8_chain_208 rfl (lv_at hl 0 rfl) ?_
                          refine k_get (C := RX8) (T := TX8) (N := 13) (v := .int (nI u)) hx hb hts hown E I iX8 (0) (by decide) (r0 := (upd (upd (upd (upd (σ 0) 8 (nI k)) 9 (nI (n - k))) 11 (nI u)) 12 (nI 0))) rfl km_0 rfl 11 (by decide) (List.mem_of_getElem? (i := 4) rfl) rfl dX8_chain_209 ?_
                          refine k_put (C := RX8) (T := TX8) (N := 13) (ty0 := tyX8) (ty := .int) (v := .int (nI u)) hx hb hts hown E I iX8 tyX8_ok nmX8 (0) (by decide) (r0 := (upd (upd (upd (upd (σ 0) 8 (nI k)) 9 (nI (n - k))) 11 (nI u)) 12 (nI 0))) rfl km_0 rfl 11 (by decide) (List.mem_of_getElem? (i := 4) rfl) rfl rfl rfl rfl (Nat.le_of_ble_eq_true rfl) (upd (upd (upd (upd (σ 0) 8 (nI k)) 9 (nI (n - k))) 11 (nI u)) 12 (nI 0)) rfl (σ2 := va_up σ 0 (upd (upd (upd (upd (σ 0) 8 (nI k)) 9 (nI (n - k))) 11 (nI u)) 12 (nI 0))) (bx_uu _ _ _ _) dX8_chain_212 (fun H locs I => ?_)
                          refine lv_aload_n hx hb dX8_chain_215 rfl (lv_at hl 0 rfl) ?_
                          refine lv_aload_n hx hb dX8_chain_216 rfl (lv_at hl 0 rfl) ?_
                          refine k_get (C := RX8) (T := TX8) (N := 13) (v := .int (nI 0)) hx hb hts hown E I iX8 (0) (by decide) (r0 := (upd (upd (upd (upd (σ 0) 8 (nI k)) 9 (nI (n - k))) 11 (nI u)) 12 (nI 0))) rfl km_0 rfl 12 (by decide) (List.mem_of_getElem? (i := 5) rfl) rfl dX8_chain_217 ?_
                          refine lv_if_eq (tgt := 227) hx hb dX8_chain_220 (by decide) (fun c_220 => ?_) (fun c_220 => ?_)
                          · refine lv_iload_n hx hb dX8_chain_227 rfl (lv_at hl 1 rfl) ?_
                            refine lv_iload_n hx hb dX8_chain_228 rfl (lv_at hl 2 rfl) ?_
                            refine lv_iload hx hb dX8_chain_229 (lv_at hl 3 rfl) ?_
                            refine lv_aload_n hx hb dX8_chain_231 rfl (lv_at hl 0 rfl) ?_
                            refine k_get (C := RX8) (T := TX8) (N := 13) (v := .int (nI u)) hx hb hts hown E I iX8 (0) (by decide) (r0 := (upd (upd (upd (upd (σ 0) 8 (nI k)) 9 (nI (n - k))) 11 (nI u)) 12 (nI 0))) rfl km_0 rfl 11 (by decide) (List.mem_of_getElem? (i := 4) rfl) rfl dX8_chain_232 ?_
                            refine k_calls (As := [.int (nI n), .int (nI w), .int (nI h), .int (nI u)]) (rest := [.ref (ad 0)]) ⟨hx, hb, hml, hown, hts⟩ (c_X8_runs l n w h u hn hw1 hw hh (by omega)) (va_cwS 4 hts gX8_chain_X8_runs rfl rfl rfl (by decide +kernel) ⟨Nat.le_of_ble_eq_true rfl, Nat.le_of_ble_eq_true rfl⟩) rfl hl.1 rfl (lv_room (Nat.le_of_ble_eq_true rfl)) dX8_chain_235 ⟨Nat.le_of_ble_eq_true rfl, Nat.le_of_ble_eq_true rfl⟩ (fun r_235 hp_235 => ?_)
                            subst hp_235
                            refine k_put (C := RX8) (T := TX8) (N := 13) (ty0 := tyX8) (ty := .int) (v := .int (nI (sX h w u n))) hx hb hts hown E I iX8 tyX8_ok nmX8 (0) (by decide) (r0 := (upd (upd (upd (upd (σ 0) 8 (nI k)) 9 (nI (n - k))) 11 (nI u)) 12 (nI 0))) rfl km_0 rfl 10 (by decide) (List.mem_of_getElem? (i := 6) rfl) rfl rfl rfl rfl (Nat.le_of_ble_eq_true rfl) (upd (upd (upd (upd (upd (σ 0) 8 (nI k)) 9 (nI (n - k))) 10 (nI (sX h w u n))) 11 (nI u)) 12 (nI 0)) rfl (σ2 := va_up σ 0 (upd (upd (upd (upd (upd (σ 0) 8 (nI k)) 9 (nI (n - k))) 10 (nI (sX h w u n))) 11 (nI u)) 12 (nI 0))) (bx_uu _ _ _ _) dX8_chain_238 (fun H locs I => ?_)
                            exact k_vret hx hb hr hlk I dX8_chain_241 (⟨_, rfl, fun j hj => by rw [pk_un (by omega), pk_un (by omega), pk_un (by omega), pk_un (by omega), pk_un (by omega)], congrArg nI hgk.symm, congrArg nI (by rw [hz.1, hkn2]), by first | exact congrArg nI hz3.1.symm | exact congrArg nI hz2.1.symm, by first | exact congrArg nI hz3.2.1.symm | exact congrArg nI hz2.2.1.symm, by first | exact congrArg nI hz3.2.2.symm | exact congrArg nI hz2.2.2.symm⟩)
                          · exact absurd c_220 (by decide)
                        · exact absurd c_199 (by decide)
                      · have c_183 : ¬ (u ≤ 999) := fun q_ => c_183 ((nI_leI (by omega) (by omega)).mpr q_)
                        have hz2 := hz.2.1 (by omega)
                        refine lv_iconst (v := nI 1) hx hb dX8_chain_186 (by decide) ?_
                        refine lv_goto (tgt := 191) hx hb dX8_chain_187 (by decide) ?_
                        refine k_put (C := RX8) (T := TX8) (N := 13) (ty0 := tyX8) (ty := .boolean) (v := .int (nI 1)) hx hb hts hown E I iX8 tyX8_ok nmX8 (0) (by decide) (r0 := (upd (upd (upd (upd (σ 0) 8 (nI k)) 9 (nI (n - k))) 11 (nI u)) 12 (nI 0))) rfl km_0 rfl 12 (by decide) (List.mem_of_getElem? (i := 5) rfl) rfl rfl (by decide) (by decide) (Nat.le_of_ble_eq_true rfl) (upd (upd (upd (upd (σ 0) 8 (nI k)) 9 (nI (n - k))) 11 (nI u)) 12 (nI 1)) rfl (σ2 := va_up σ 0 (upd (upd (upd (upd (σ 0) 8 (nI k)) 9 (nI (n - k))) 11 (nI u)) 12 (nI 1))) (bx_uu _ _ _ _) dX8_chain_191 (fun H locs I => ?_)
                        refine lv_aload_n hx hb dX8_chain_194 rfl (lv_at hl 0 rfl) ?_
                        refine lv_aload_n hx hb dX8_chain_195 rfl (lv_at hl 0 rfl) ?_
                        refine k_get (C := RX8) (T := TX8) (N := 13) (v := .int (nI 1)) hx hb hts hown E I iX8 (0) (by decide) (r0 := (upd (upd (upd (upd (σ 0) 8 (nI k)) 9 (nI (n - k))) 11 (nI u)) 12 (nI 1))) rfl km_0 rfl 12 (by decide) (List.mem_of_getElem? (i := 5) rfl) rfl dX8_chain_196 ?_
                        refine lv_if_eq (tgt := 208) hx hb dX8_chain_199 (by decide) (fun c_199 => ?_) (fun c_199 => ?_)
                        · exact absurd c_199 (by decide)
                        · refine lv_sipush (v := nI 999) hx hb dX8_chain_202 (by decide) ?_
                          refine lv_goto (tgt := 212) hx hb dX8_chain_205 (by decide) ?_
                          refine k_put (C := RX8) (T := TX8) (N := 13) (ty0 := tyX8) (ty := .int) (v := .int (nI 999)) hx hb hts hown E I iX8 tyX8_ok nmX8 (0) (by decide) (r0 := (upd (upd (upd (upd (σ 0) 8 (nI k)) 9 (nI (n - k))) 11 (nI u)) 12 (nI 1))) rfl km_0 rfl 11 (by decide) (List.mem_of_getElem? (i := 4) rfl) rfl rfl rfl rfl (Nat.le_of_ble_eq_true rfl) (upd (upd (upd (upd (σ 0) 8 (nI k)) 9 (nI (n - k))) 11 (nI 999)) 12 (nI 1)) rfl (σ2 := va_up σ 0 (upd (upd (upd (upd (σ 0) 8 (nI k)) 9 (nI (n - k))) 11 (nI 999)) 12 (nI 1))) (bx_uu _ _ _ _) dX8_chain_212 (fun H locs I => ?_)
                          refine lv_aload_n hx hb dX8_chain_215 rfl (lv_at hl 0 rfl) ?_
                          refine lv_aload_n hx hb dX8_chain_216 rfl (lv_at hl 0 rfl) ?_
                          refine k_get (C := RX8) (T := TX8) (N := 13) (v := .int (nI 1)) hx hb hts hown E I iX8 (0) (by decide) (r0 := (upd (upd (upd (upd (σ 0) 8 (nI k)) 9 (nI (n - k))) 11 (nI 999)) 12 (nI 1))) rfl km_0 rfl 12 (by decide) (List.mem_of_getElem? (i := 5) rfl) rfl dX8_chain_217 ?_
                          refine lv_if_eq (tgt := 227) hx hb dX8_chain_220 (by decide) (fun c_220 => ?_) (fun c_220 => ?_)
                          · exact absurd c_220 (by decide)
                          · refine lv_iconst (v := nI 0) hx hb dX8_chain_223 (by decide) ?_
                            refine lv_goto (tgt := 238) hx hb dX8_chain_224 (by decide) ?_
                            refine k_put (C := RX8) (T := TX8) (N := 13) (ty0 := tyX8) (ty := .int) (v := .int (nI 0)) hx hb hts hown E I iX8 tyX8_ok nmX8 (0) (by decide) (r0 := (upd (upd (upd (upd (σ 0) 8 (nI k)) 9 (nI (n - k))) 11 (nI 999)) 12 (nI 1))) rfl km_0 rfl 10 (by decide) (List.mem_of_getElem? (i := 6) rfl) rfl rfl rfl rfl (Nat.le_of_ble_eq_true rfl) (upd (upd (upd (upd (upd (σ 0) 8 (nI k)) 9 (nI (n - k))) 10 (nI 0)) 11 (nI 999)) 12 (nI 1)) rfl (σ2 := va_up σ 0 (upd (upd (upd (upd (upd (σ 0) 8 (nI k)) 9 (nI (n - k))) 10 (nI 0)) 11 (nI 999)) 12 (nI 1))) (bx_uu _ _ _ _) dX8_chain_238 (fun H locs I => ?_)
                            exact k_vret hx hb hr hlk I dX8_chain_241 (⟨_, rfl, fun j hj => by rw [pk_un (by omega), pk_un (by omega), pk_un (by omega), pk_un (by omega), pk_un (by omega)], congrArg nI hgk.symm, congrArg nI (by rw [hz.1, hkn2]), by first | exact congrArg nI hz3.1.symm | exact congrArg nI hz2.1.symm, by first | exact congrArg nI hz3.2.1.symm | exact congrArg nI hz2.2.1.symm, by first | exact congrArg nI hz3.2.2.symm | exact congrArg nI hz2.2.2.symm⟩)
                    · have c_159 : ¬ ((10 * dq) ≤ (sR h w u n)) := fun q_ => c_159 ((nI_leI (by omega) (by omega)).mpr q_)
                      refine lv_aload_n hx hb dX8_chain_162 rfl (lv_at hl 0 rfl) ?_
                      refine lv_dup hx hb dX8_chain_163 rfl ?_
                      refine k_get (C := RX8) (T := TX8) (N := 13) (v := .int (nI u)) hx hb hts hown E I iX8 (0) (by decide) (r0 := (upd (upd (upd (upd (σ 0) 8 (nI k)) 9 (nI (n - k))) 11 (nI u)) 12 (nI 0))) rfl km_0 rfl 11 (by decide) (List.mem_of_getElem? (i := 4) rfl) rfl dX8_chain_164 ?_
                      refine lv_iconst (v := nI 1) hx hb dX8_chain_167 (by decide) ?_
                      refine lv_iadd hx hb dX8_chain_168 ?_
                      rw [nI_add]
                      refine k_put (C := RX8) (T := TX8) (N := 13) (ty0 := tyX8) (ty := .int) (v := .int (nI (u + 1))) hx hb hts hown E I iX8 tyX8_ok nmX8 (0) (by decide) (r0 := (upd (upd (upd (upd (σ 0) 8 (nI k)) 9 (nI (n - k))) 11 (nI u)) 12 (nI 0))) rfl km_0 rfl 11 (by decide) (List.mem_of_getElem? (i := 4) rfl) rfl rfl rfl rfl (Nat.le_of_ble_eq_true rfl) (upd (upd (upd (upd (σ 0) 8 (nI k)) 9 (nI (n - k))) 11 (nI (u + 1))) 12 (nI 0)) rfl (σ2 := va_up σ 0 (upd (upd (upd (upd (σ 0) 8 (nI k)) 9 (nI (n - k))) 11 (nI (u + 1))) 12 (nI 0))) (bx_uu _ _ _ _) dX8_chain_169 (fun H locs I => ?_)
                      refine lv_goto (tgt := 136) hx hb dX8_chain_172 (by decide) ?_
                      exact ih_136 (u + 1) (by omega) (by omega) (by omega) (fun v hv => by by_cases e_ : v = u; (rw [e_]; omega); exact hun v (by omega)) _ _ I _ (lv_sub hl [0, 1, 2, 3, 4] rfl)
              exact LP_136 _ _ (Nat.lt_succ_self _) (by omega) (by omega) (by first | exact fun v _ => zFew (by omega) | exact fun v hv => by rw [show v = 0 by omega]; exact h0) _ _ I _ (lv_sub hl [0, 2, 3, 4, 5] rfl)
            · have c_123 : ¬ ((10 * dq) ≤ (10 * n)) := fun q_ => c_123 ((nI_leI (by omega) (by omega)).mpr q_)
              refine lv_sipush (v := nI 1000) hx hb dX8_chain_126 (by decide) ?_
              refine lv_goto (tgt := 133) hx hb dX8_chain_129 (by decide) ?_
              refine k_put (C := RX8) (T := TX8) (N := 13) (ty0 := tyX8) (ty := .int) (v := .int (nI 1000)) hx hb hts hown E I iX8 tyX8_ok nmX8 (0) (by decide) (r0 := (upd (upd (upd (upd (σ 0) 8 (nI k)) 9 (nI (n - k))) 11 (nI 0)) 12 (nI 0))) rfl km_0 rfl 11 (by decide) (List.mem_of_getElem? (i := 4) rfl) rfl rfl rfl rfl (Nat.le_of_ble_eq_true rfl) (upd (upd (upd (upd (σ 0) 8 (nI k)) 9 (nI (n - k))) 11 (nI 1000)) 12 (nI 0)) rfl (σ2 := va_up σ 0 (upd (upd (upd (upd (σ 0) 8 (nI k)) 9 (nI (n - k))) 11 (nI 1000)) 12 (nI 0))) (bx_uu _ _ _ _) dX8_chain_133 (fun H locs I => ?_)
              have LP_136 : ∀ (fuel_136 : Nat) (u : Nat), 1000 - u < fuel_136 → (1 ≤ u) → (u ≤ 1000) → (∀ v, v < u → sR h w v n < 10 * dq) → ∀ (H : Heap) (locs : List Loc), kI 6 ad (kcM cy ad) D (kA 6 ad s.heap.size) s.heap (va_up σ 0 (upd (upd (upd (upd (σ 0) 8 (nI k)) 9 (nI (n - k))) 11 (nI u)) 12 (nI 0))) H locs → ∀ ls : Array Slot, lv_has ls 7 [(0, .ref (ad 0)), (2, .int (nI n)), (3, .int (nI w)), (4, .int (nI h)), (5, .int (nI (10 * dq)))] → W p l e (headSpec wsX8_chain ({ frames := 3, cells := 0, slots := 0, locals := 70 })).room s m [.ref (ad 0), .int (nI x), .int (nI n), .int (nI w), .int (nI h)].toArray below meth c H locs 0 0 (MQ below (va_Qv (fun σ' => ∃ R : Nat → Int32, σ' = va_up σ 0 R ∧ (∀ j, j < 8 → R j = σ 0 j) ∧ mLie R h w (10 * dq) n) (kB 6 ad (kcM cy ad) D) (kA 6 ad s.heap.size)) [.ref (ad 0), .int (nI x), .int (nI n), .int (nI w), .int (nI h)].toArray s 0 0 (kA 6 ad s.heap.size)) (F0 m 136 ls []) := by
                intro fuel_136
                induction fuel_136 with
                | zero => intro u hf_136; exact absurd hf_136 (Nat.not_lt_zero _)
                | succ fuel_136 ih_136 =>
                  intro u hf_136 hu1 hu9 hun H locs I ls hl
                  refine lv_aload_n hx hb dX8_chain_136 rfl (lv_at hl 0 rfl) ?_
                  refine k_get (C := RX8) (T := TX8) (N := 13) (v := .int (nI u)) hx hb hts hown E I iX8 (0) (by decide) (r0 := (upd (upd (upd (upd (σ 0) 8 (nI k)) 9 (nI (n - k))) 11 (nI u)) 12 (nI 0))) rfl km_0 rfl 11 (by decide) (List.mem_of_getElem? (i := 4) rfl) rfl dX8_chain_137 ?_
                  refine lv_sipush (v := nI 999) hx hb dX8_chain_140 (by decide) ?_
                  refine lv_icmp_gt (tgt := 175) hx hb dX8_chain_143 (by decide) (fun c_143 => ?_) (fun c_143 => ?_)
                  · have c_143 : 999 < u := (nI_ltI (by omega) (by omega)).mp c_143
                    have hul : lf h w (10 * dq) n = u := by have := lf_eq (h := h) (w := w) (d := 10 * dq) (n := n) (t := u - 1) (by omega) (hun _ (by omega)) (fun z => absurd z (by omega)); omega
                    have hz := zLie_no (hgk.trans hkn2) h0 hul
                    refine lv_aload_n hx hb dX8_chain_175 rfl (lv_at hl 0 rfl) ?_
                    refine lv_aload_n hx hb dX8_chain_176 rfl (lv_at hl 0 rfl) ?_
                    refine k_get (C := RX8) (T := TX8) (N := 13) (v := .int (nI u)) hx hb hts hown E I iX8 (0) (by decide) (r0 := (upd (upd (upd (upd (σ 0) 8 (nI k)) 9 (nI (n - k))) 11 (nI u)) 12 (nI 0))) rfl km_0 rfl 11 (by decide) (List.mem_of_getElem? (i := 4) rfl) rfl dX8_chain_177 ?_
                    refine lv_sipush (v := nI 999) hx hb dX8_chain_180 (by decide) ?_
                    refine lv_icmp_le (tgt := 190) hx hb dX8_chain_183 (by decide) (fun c_183 => ?_) (fun c_183 => ?_)
                    · have c_183 : u ≤ 999 := (nI_leI (by omega) (by omega)).mp c_183
                      have hz3 := hz.2.2 (by omega)
                      refine lv_iconst (v := nI 0) hx hb dX8_chain_190 (by decide) ?_
                      refine k_put (C := RX8) (T := TX8) (N := 13) (ty0 := tyX8) (ty := .boolean) (v := .int (nI 0)) hx hb hts hown E I iX8 tyX8_ok nmX8 (0) (by decide) (r0 := (upd (upd (upd (upd (σ 0) 8 (nI k)) 9 (nI (n - k))) 11 (nI u)) 12 (nI 0))) rfl km_0 rfl 12 (by decide) (List.mem_of_getElem? (i := 5) rfl) rfl rfl (by decide) (by decide) (Nat.le_of_ble_eq_true rfl) (upd (upd (upd (upd (σ 0) 8 (nI k)) 9 (nI (n - k))) 11 (nI u)) 12 (nI 0)) rfl (σ2 := va_up σ 0 (upd (upd (upd (upd (σ 0) 8 (nI k)) 9 (nI (n - k))) 11 (nI u)) 12 (nI 0))) (bx_uu _ _ _ _) dX8_chain_191 (fun H locs I => ?_)
                      refine lv_aload_n hx hb dX8_chain_194 rfl (lv_at hl 0 rfl) ?_
                      refine lv_aload_n hx hb dX8_chain_195 rfl (lv_at hl 0 rfl) ?_
                      refine k_get (C := RX8) (T := TX8) (N := 13) (v := .int (nI 0)) hx hb hts hown E I iX8 (0) (by decide) (r0 := (upd (upd (upd (upd (σ 0) 8 (nI k)) 9 (nI (n - k))) 11 (nI u)) 12 (nI 0))) rfl km_0 rfl 12 (by decide) (List.mem_of_getElem? (i := 5) rfl) rfl dX8_chain_196 ?_
                      refine lv_if_eq (tgt := 208) hx hb dX8_chain_199 (by decide) (fun c_199 => ?_) (fun c_199 => ?_)
                      · refine lv_aload_n hx hb dX8_chain_208 rfl (lv_at hl 0 rfl) ?_
                        refine k_get (C := RX8) (T := TX8) (N := 13) (v := .int (nI u)) hx hb hts hown E I iX8 (0) (by decide) (r0 := (upd (upd (upd (upd (σ 0) 8 (nI k)) 9 (nI (n - k))) 11 (nI u)) 12 (nI 0))) rfl km_0 rfl 11 (by decide) (List.mem_of_getElem? (i := 4) rfl) rfl dX8_chain_209 ?_
                        refine k_put (C := RX8) (T := TX8) (N := 13) (ty0 := tyX8) (ty := .int) (v := .int (nI u)) hx hb hts hown E I iX8 tyX8_ok nmX8 (0) (by decide) (r0 := (upd (upd (upd (upd (σ 0) 8 (nI k)) 9 (nI (n - k))) 11 (nI u)) 12 (nI 0))) rfl km_0 rfl 11 (by decide) (List.mem_of_getElem? (i := 4) rfl) rfl rfl rfl rfl (Nat.le_of_ble_eq_true rfl) (upd (upd (upd (upd (σ 0) 8 (nI k)) 9 (nI (n - k))) 11 (nI u)) 12 (nI 0)) rfl (σ2 := va_up σ 0 (upd (upd (upd (upd (σ 0) 8 (nI k)) 9 (nI (n - k))) 11 (nI u)) 12 (nI 0))) (bx_uu _ _ _ _) dX8_chain_212 (fun H locs I => ?_)
                        refine lv_aload_n hx hb dX8_chain_215 rfl (lv_at hl 0 rfl) ?_
                        refine lv_aload_n hx hb dX8_chain_216 rfl (lv_at hl 0 rfl) ?_
                        refine k_get (C := RX8) (T := TX8) (N := 13) (v := .int (nI 0)) hx hb hts hown E I iX8 (0) (by decide) (r0 := (upd (upd (upd (upd (σ 0) 8 (nI k)) 9 (nI (n - k))) 11 (nI u)) 12 (nI 0))) rfl km_0 rfl 12 (by decide) (List.mem_of_getElem? (i := 5) rfl) rfl dX8_chain_217 ?_
                        refine lv_if_eq (tgt := 227) hx hb dX8_chain_220 (by decide) (fun c_220 => ?_) (fun c_220 => ?_)
                        · refine lv_iload_n hx hb dX8_chain_227 rfl (lv_at hl 1 rfl) ?_
                          refine lv_iload_n hx hb dX8_chain_228 rfl (lv_at hl 2 rfl) ?_
                          refine lv_iload hx hb dX8_chain_229 (lv_at hl 3 rfl) ?_
                          refine lv_aload_n hx hb dX8_chain_231 rfl (lv_at hl 0 rfl) ?_
                          refine k_get (C := RX8) (T := TX8) (N := 13) (v := .int (nI u)) hx hb hts hown E I iX8 (0) (by decide) (r0 := (upd (upd (upd (upd (σ 0) 8 (nI k)) 9 (nI (n - k))) 11 (nI u)) 12 (nI 0))) rfl km_0 rfl 11 (by decide) (List.mem_of_getElem? (i := 4) rfl) rfl dX8_chain_232 ?_
                          refine k_calls (As := [.int (nI n), .int (nI w), .int (nI h), .int (nI u)]) (rest := [.ref (ad 0)]) ⟨hx, hb, hml, hown, hts⟩ (c_X8_runs l n w h u hn hw1 hw hh (by omega)) (va_cwS 4 hts gX8_chain_X8_runs rfl rfl rfl (by decide +kernel) ⟨Nat.le_of_ble_eq_true rfl, Nat.le_of_ble_eq_true rfl⟩) rfl hl.1 rfl (lv_room (Nat.le_of_ble_eq_true rfl)) dX8_chain_235 ⟨Nat.le_of_ble_eq_true rfl, Nat.le_of_ble_eq_true rfl⟩ (fun r_235 hp_235 => ?_)
                          subst hp_235
                          refine k_put (C := RX8) (T := TX8) (N := 13) (ty0 := tyX8) (ty := .int) (v := .int (nI (sX h w u n))) hx hb hts hown E I iX8 tyX8_ok nmX8 (0) (by decide) (r0 := (upd (upd (upd (upd (σ 0) 8 (nI k)) 9 (nI (n - k))) 11 (nI u)) 12 (nI 0))) rfl km_0 rfl 10 (by decide) (List.mem_of_getElem? (i := 6) rfl) rfl rfl rfl rfl (Nat.le_of_ble_eq_true rfl) (upd (upd (upd (upd (upd (σ 0) 8 (nI k)) 9 (nI (n - k))) 10 (nI (sX h w u n))) 11 (nI u)) 12 (nI 0)) rfl (σ2 := va_up σ 0 (upd (upd (upd (upd (upd (σ 0) 8 (nI k)) 9 (nI (n - k))) 10 (nI (sX h w u n))) 11 (nI u)) 12 (nI 0))) (bx_uu _ _ _ _) dX8_chain_238 (fun H locs I => ?_)
                          exact k_vret hx hb hr hlk I dX8_chain_241 (⟨_, rfl, fun j hj => by rw [pk_un (by omega), pk_un (by omega), pk_un (by omega), pk_un (by omega), pk_un (by omega)], congrArg nI hgk.symm, congrArg nI (by rw [hz.1, hkn2]), by first | exact congrArg nI hz3.1.symm | exact congrArg nI hz2.1.symm, by first | exact congrArg nI hz3.2.1.symm | exact congrArg nI hz2.2.1.symm, by first | exact congrArg nI hz3.2.2.symm | exact congrArg nI hz2.2.2.symm⟩)
                        · exact absurd c_220 (by decide)
                      · exact absurd c_199 (by decide)
                    · have c_183 : ¬ (u ≤ 999) := fun q_ => c_183 ((nI_leI (by omega) (by omega)).mpr q_)
                      have hz2 := hz.2.1 (by omega)
                      refine lv_iconst (v := nI 1) hx hb dX8_chain_186 (by decide) ?_
                      refine lv_goto (tgt := 191) hx hb dX8_chain_187 (by decide) ?_
                      refine k_put (C := RX8) (T := TX8) (N := 13) (ty0 := tyX8) (ty := .boolean) (v := .int (nI 1)) hx hb hts hown E I iX8 tyX8_ok nmX8 (0) (by decide) (r0 := (upd (upd (upd (upd (σ 0) 8 (nI k)) 9 (nI (n - k))) 11 (nI u)) 12 (nI 0))) rfl km_0 rfl 12 (by decide) (List.mem_of_getElem? (i := 5) rfl) rfl rfl (by decide) (by decide) (Nat.le_of_ble_eq_true rfl) (upd (upd (upd (upd (σ 0) 8 (nI k)) 9 (nI (n - k))) 11 (nI u)) 12 (nI 1)) rfl (σ2 := va_up σ 0 (upd (upd (upd (upd (σ 0) 8 (nI k)) 9 (nI (n - k))) 11 (nI u)) 12 (nI 1))) (bx_uu _ _ _ _) dX8_chain_191 (fun H locs I => ?_)
                      refine lv_aload_n hx hb dX8_chain_194 rfl (lv_at hl 0 rfl) ?_
                      refine lv_aload_n hx hb dX8_chain_195 rfl (lv_at hl 0 rfl) ?_
                      refine k_get (C := RX8) (T := TX8) (N := 13) (v := .int (nI 1)) hx hb hts hown E I iX8 (0) (by decide) (r0 := (upd (upd (upd (upd (σ 0) 8 (nI k)) 9 (nI (n - k))) 11 (nI u)) 12 (nI 1))) rfl km_0 rfl 12 (by decide) (List.mem_of_getElem? (i := 5) rfl) rfl dX8_chain_196 ?_
                      refine lv_if_eq (tgt := 208) hx hb dX8_chain_199 (by decide) (fun c_199 => ?_) (fun c_199 => ?_)
                      · exact absurd c_199 (by decide)
                      · refine lv_sipush (v := nI 999) hx hb dX8_chain_202 (by decide) ?_
                        refine lv_goto (tgt := 212) hx hb dX8_chain_205 (by decide) ?_
                        refine k_put (C := RX8) (T := TX8) (N := 13) (ty0 := tyX8) (ty := .int) (v := .int (nI 999)) hx hb hts hown E I iX8 tyX8_ok nmX8 (0) (by decide) (r0 := (upd (upd (upd (upd (σ 0) 8 (nI k)) 9 (nI (n - k))) 11 (nI u)) 12 (nI 1))) rfl km_0 rfl 11 (by decide) (List.mem_of_getElem? (i := 4) rfl) rfl rfl rfl rfl (Nat.le_of_ble_eq_true rfl) (upd (upd (upd (upd (σ 0) 8 (nI k)) 9 (nI (n - k))) 11 (nI 999)) 12 (nI 1)) rfl (σ2 := va_up σ 0 (upd (upd (upd (upd (σ 0) 8 (nI k)) 9 (nI (n - k))) 11 (nI 999)) 12 (nI 1))) (bx_uu _ _ _ _) dX8_chain_212 (fun H locs I => ?_)
                        refine lv_aload_n hx hb dX8_chain_215 rfl (lv_at hl 0 rfl) ?_
                        refine lv_aload_n hx hb dX8_chain_216 rfl (lv_at hl 0 rfl) ?_
                        refine k_get (C := RX8) (T := TX8) (N := 13) (v := .int (nI 1)) hx hb hts hown E I iX8 (0) (by decide) (r0 := (upd (upd (upd (upd (σ 0) 8 (nI k)) 9 (nI (n - k))) 11 (nI 999)) 12 (nI 1))) rfl km_0 rfl 12 (by decide) (List.mem_of_getElem? (i := 5) rfl) rfl dX8_chain_217 ?_
                        refine lv_if_eq (tgt := 227) hx hb dX8_chain_220 (by decide) (fun c_220 => ?_) (fun c_220 => ?_)
                        · exact absurd c_220 (by decide)
                        · refine lv_iconst (v := nI 0) hx hb dX8_chain_223 (by decide) ?_
                          refine lv_goto (tgt := 238) hx hb dX8_chain_224 (by decide) ?_
                          refine k_put (C := RX8) (T := TX8) (N := 13) (ty0 := tyX8) (ty := .int) (v := .int (nI 0)) hx hb hts hown E I iX8 tyX8_ok nmX8 (0) (by decide) (r0 := (upd (upd (upd (upd (σ 0) 8 (nI k)) 9 (nI (n - k))) 11 (nI 999)) 12 (nI 1))) rfl km_0 rfl 10 (by decide) (List.mem_of_getElem? (i := 6) rfl) rfl rfl rfl rfl (Nat.le_of_ble_eq_true rfl) (upd (upd (upd (upd (upd (σ 0) 8 (nI k)) 9 (nI (n - k))) 10 (nI 0)) 11 (nI 999)) 12 (nI 1)) rfl (σ2 := va_up σ 0 (upd (upd (upd (upd (upd (σ 0) 8 (nI k)) 9 (nI (n - k))) 10 (nI 0)) 11 (nI 999)) 12 (nI 1))) (bx_uu _ _ _ _) dX8_chain_238 (fun H locs I => ?_)
                          exact k_vret hx hb hr hlk I dX8_chain_241 (⟨_, rfl, fun j hj => by rw [pk_un (by omega), pk_un (by omega), pk_un (by omega), pk_un (by omega), pk_un (by omega)], congrArg nI hgk.symm, congrArg nI (by rw [hz.1, hkn2]), by first | exact congrArg nI hz3.1.symm | exact congrArg nI hz2.1.symm, by first | exact congrArg nI hz3.2.1.symm | exact congrArg nI hz2.2.1.symm, by first | exact congrArg nI hz3.2.2.symm | exact congrArg nI hz2.2.2.symm⟩)
                  · have c_143 : ¬ (999 < u) := fun q_ => c_143 ((nI_ltI (by omega) (by omega)).mpr q_)
                    have hsu := sR_le h w u n
                    refine lv_iload_n hx hb dX8_chain_146 rfl (lv_at hl 1 rfl) ?_
                    refine lv_iload_n hx hb dX8_chain_147 rfl (lv_at hl 2 rfl) ?_
                    refine lv_iload hx hb dX8_chain_148 (lv_at hl 3 rfl) ?_
                    refine lv_aload_n hx hb dX8_chain_150 rfl (lv_at hl 0 rfl) ?_
                    refine k_get (C := RX8) (T := TX8) (N := 13) (v := .int (nI u)) hx hb hts hown E I iX8 (0) (by decide) (r0 := (upd (upd (upd (upd (σ 0) 8 (nI k)) 9 (nI (n - k))) 11 (nI u)) 12 (nI 0))) rfl km_0 rfl 11 (by decide) (List.mem_of_getElem? (i := 4) rfl) rfl dX8_chain_151 ?_
                    refine k_calls (As := [.int (nI n), .int (nI w), .int (nI h), .int (nI u)]) (rest := []) ⟨hx, hb, hml, hown, hts⟩ (c_X8_rises l n w h u hn hw1 hw hh (by omega)) (va_cwS 4 hts gX8_chain_X8_rises rfl rfl rfl (by decide +kernel) ⟨Nat.le_of_ble_eq_true rfl, Nat.le_of_ble_eq_true rfl⟩) rfl hl.1 rfl (lv_room (Nat.le_of_ble_eq_true rfl)) dX8_chain_154 ⟨Nat.le_of_ble_eq_true rfl, Nat.le_of_ble_eq_true rfl⟩ (fun r_154 hp_154 => ?_)
                    subst hp_154
                    refine lv_iload hx hb dX8_chain_157 (lv_at hl 4 rfl) ?_
                    refine lv_icmp_ge (tgt := 175) hx hb dX8_chain_159 (by decide) (fun c_159 => ?_) (fun c_159 => ?_)
                    · have c_159 : (10 * dq) ≤ (sR h w u n) := (nI_leI (by omega) (by omega)).mp c_159
                      have hul : lf h w (10 * dq) n = u := by have := lf_eq (h := h) (w := w) (d := 10 * dq) (n := n) (t := u - 1) (by omega) (hun _ (by omega)) (fun z => by rw [show u - 1 + 1 = u by omega]; omega); omega
                      have hz := zLie_no (hgk.trans hkn2) h0 hul
                      refine lv_aload_n hx hb dX8_chain_175 rfl (lv_at hl 0 rfl) ?_
                      refine lv_aload_n hx hb dX8_chain_176 rfl (lv_at hl 0 rfl) ?_
                      refine k_get (C := RX8) (T := TX8) (N := 13) (v := .int (nI u)) hx hb hts hown E I iX8 (0) (by decide) (r0 := (upd (upd (upd (upd (σ 0) 8 (nI k)) 9 (nI (n - k))) 11 (nI u)) 12 (nI 0))) rfl km_0 rfl 11 (by decide) (List.mem_of_getElem? (i := 4) rfl) rfl dX8_chain_177 ?_
                      refine lv_sipush (v := nI 999) hx hb dX8_chain_180 (by decide) ?_
                      refine lv_icmp_le (tgt := 190) hx hb dX8_chain_183 (by decide) (fun c_183 => ?_) (fun c_183 => ?_)
                      · have c_183 : u ≤ 999 := (nI_leI (by omega) (by omega)).mp c_183
                        have hz3 := hz.2.2 (by omega)
                        refine lv_iconst (v := nI 0) hx hb dX8_chain_190 (by decide) ?_
                        refine k_put (C := RX8) (T := TX8) (N := 13) (ty0 := tyX8) (ty := .boolean) (v := .int (nI 0)) hx hb hts hown E I iX8 tyX8_ok nmX8 (0) (by decide) (r0 := (upd (upd (upd (upd (σ 0) 8 (nI k)) 9 (nI (n - k))) 11 (nI u)) 12 (nI 0))) rfl km_0 rfl 12 (by decide) (List.mem_of_getElem? (i := 5) rfl) rfl rfl (by decide) (by decide) (Nat.le_of_ble_eq_true rfl) (upd (upd (upd (upd (σ 0) 8 (nI k)) 9 (nI (n - k))) 11 (nI u)) 12 (nI 0)) rfl (σ2 := va_up σ 0 (upd (upd (upd (upd (σ 0) 8 (nI k)) 9 (nI (n - k))) 11 (nI u)) 12 (nI 0))) (bx_uu _ _ _ _) dX8_chain_191 (fun H locs I => ?_)
                        refine lv_aload_n hx hb dX8_chain_194 rfl (lv_at hl 0 rfl) ?_
                        refine lv_aload_n hx hb dX8_chain_195 rfl (lv_at hl 0 rfl) ?_
                        refine k_get (C := RX8) (T := TX8) (N := 13) (v := .int (nI 0)) hx hb hts hown E I iX8 (0) (by decide) (r0 := (upd (upd (upd (upd (σ 0) 8 (nI k)) 9 (nI (n - k))) 11 (nI u)) 12 (nI 0))) rfl km_0 rfl 12 (by decide) (List.mem_of_getElem? (i := 5) rfl) rfl dX8_chain_196 ?_
                        refine lv_if_eq (tgt := 208) hx hb dX8_chain_199 (by decide) (fun c_199 => ?_) (fun c_199 => ?_)
                        · refine lv_aload_n hx hb dX8_chain_208 rfl (lv_at hl 0 rfl) ?_
                          refine k_get (C := RX8) (T := TX8) (N := 13) (v := .int (nI u)) hx hb hts hown E I iX8 (0) (by decide) (r0 := (upd (upd (upd (upd (σ 0) 8 (nI k)) 9 (nI (n - k))) 11 (nI u)) 12 (nI 0))) rfl km_0 rfl 11 (by decide) (List.mem_of_getElem? (i := 4) rfl) rfl dX8_chain_209 ?_
                          refine k_put (C := RX8) (T := TX8) (N := 13) (ty0 := tyX8) (ty := .int) (v := .int (nI u)) hx hb hts hown E I iX8 tyX8_ok nmX8 (0) (by decide) (r0 := (upd (upd (upd (upd (σ 0) 8 (nI k)) 9 (nI (n - k))) 11 (nI u)) 12 (nI 0))) rfl km_0 rfl 11 (by decide) (List.mem_of_getElem? (i := 4) rfl) rfl rfl rfl rfl (Nat.le_of_ble_eq_true rfl) (upd (upd (upd (upd (σ 0) 8 (nI k)) 9 (nI (n - k))) 11 (nI u)) 12 (nI 0)) rfl (σ2 := va_up σ 0 (upd (upd (upd (upd (σ 0) 8 (nI k)) 9 (nI (n - k))) 11 (nI u)) 12 (nI 0))) (bx_uu _ _ _ _) dX8_chain_212 (fun H locs I => ?_)
                          refine lv_aload_n hx hb dX8_chain_215 rfl (lv_at hl 0 rfl) ?_
                          refine lv_aload_n hx hb dX8_chain_216 rfl (lv_at hl 0 rfl) ?_
                          refine k_get (C := RX8) (T := TX8) (N := 13) (v := .int (nI 0)) hx hb hts hown E I iX8 (0) (by decide) (r0 := (upd (upd (upd (upd (σ 0) 8 (nI k)) 9 (nI (n - k))) 11 (nI u)) 12 (nI 0))) rfl km_0 rfl 12 (by decide) (List.mem_of_getElem? (i := 5) rfl) rfl dX8_chain_217 ?_
                          refine lv_if_eq (tgt := 227) hx hb dX8_chain_220 (by decide) (fun c_220 => ?_) (fun c_220 => ?_)
                          · refine lv_iload_n hx hb dX8_chain_227 rfl (lv_at hl 1 rfl) ?_
                            refine lv_iload_n hx hb dX8_chain_228 rfl (lv_at hl 2 rfl) ?_
                            refine lv_iload hx hb dX8_chain_229 (lv_at hl 3 rfl) ?_
                            refine lv_aload_n hx hb dX8_chain_231 rfl (lv_at hl 0 rfl) ?_
                            refine k_get (C := RX8) (T := TX8) (N := 13) (v := .int (nI u)) hx hb hts hown E I iX8 (0) (by decide) (r0 := (upd (upd (upd (upd (σ 0) 8 (nI k)) 9 (nI (n - k))) 11 (nI u)) 12 (nI 0))) rfl km_0 rfl 11 (by decide) (List.mem_of_getElem? (i := 4) rfl) rfl dX8_chain_232 ?_
                            refine k_calls (As := [.int (nI n), .int (nI w), .int (nI h), .int (nI u)]) (rest := [.ref (ad 0)]) ⟨hx, hb, hml, hown, hts⟩ (c_X8_runs l n w h u hn hw1 hw hh (by omega)) (va_cwS 4 hts gX8_chain_X8_runs rfl rfl rfl (by decide +kernel) ⟨Nat.le_of_ble_eq_true rfl, Nat.le_of_ble_eq_true rfl⟩) rfl hl.1 rfl (lv_room (Nat.le_of_ble_eq_true rfl)) dX8_chain_235 ⟨Nat.le_of_ble_eq_true rfl, Nat.le_of_ble_eq_true rfl⟩ (fun r_235 hp_235 => ?_)
                            subst hp_235
                            refine k_put (C := RX8) (T := TX8) (N := 13) (ty0 := tyX8) (ty := .int) (v := .int (nI (sX h w u n))) hx hb hts hown E I iX8 tyX8_ok nmX8 (0) (by decide) (r0 := (upd (upd (upd (upd (σ 0) 8 (nI k)) 9 (nI (n - k))) 11 (nI u)) 12 (nI 0))) rfl km_0 rfl 10 (by decide) (List.mem_of_getElem? (i := 6) rfl) rfl rfl rfl rfl (Nat.le_of_ble_eq_true rfl) (upd (upd (upd (upd (upd (σ 0) 8 (nI k)) 9 (nI (n - k))) 10 (nI (sX h w u n))) 11 (nI u)) 12 (nI 0)) rfl (σ2 := va_up σ 0 (upd (upd (upd (upd (upd (σ 0) 8 (nI k)) 9 (nI (n - k))) 10 (nI (sX h w u n))) 11 (nI u)) 12 (nI 0))) (bx_uu _ _ _ _) dX8_chain_238 (fun H locs I => ?_)
                            exact k_vret hx hb hr hlk I dX8_chain_241 (⟨_, rfl, fun j hj => by rw [pk_un (by omega), pk_un (by omega), pk_un (by omega), pk_un (by omega), pk_un (by omega)], congrArg nI hgk.symm, congrArg nI (by rw [hz.1, hkn2]), by first | exact congrArg nI hz3.1.symm | exact congrArg nI hz2.1.symm, by first | exact congrArg nI hz3.2.1.symm | exact congrArg nI hz2.2.1.symm, by first | exact congrArg nI hz3.2.2.symm | exact congrArg nI hz2.2.2.symm⟩)
                          · exact absurd c_220 (by decide)
                        · exact absurd c_199 (by decide)
                      · have c_183 : ¬ (u ≤ 999) := fun q_ => c_183 ((nI_leI (by omega) (by omega)).mpr q_)
                        have hz2 := hz.2.1 (by omega)
                        refine lv_iconst (v := nI 1) hx hb dX8_chain_186 (by decide) ?_
                        refine lv_goto (tgt := 191) hx hb dX8_chain_187 (by decide) ?_
                        refine k_put (C := RX8) (T := TX8) (N := 13) (ty0 := tyX8) (ty := .boolean) (v := .int (nI 1)) hx hb hts hown E I iX8 tyX8_ok nmX8 (0) (by decide) (r0 := (upd (upd (upd (upd (σ 0) 8 (nI k)) 9 (nI (n - k))) 11 (nI u)) 12 (nI 0))) rfl km_0 rfl 12 (by decide) (List.mem_of_getElem? (i := 5) rfl) rfl rfl (by decide) (by decide) (Nat.le_of_ble_eq_true rfl) (upd (upd (upd (upd (σ 0) 8 (nI k)) 9 (nI (n - k))) 11 (nI u)) 12 (nI 1)) rfl (σ2 := va_up σ 0 (upd (upd (upd (upd (σ 0) 8 (nI k)) 9 (nI (n - k))) 11 (nI u)) 12 (nI 1))) (bx_uu _ _ _ _) dX8_chain_191 (fun H locs I => ?_)
                        refine lv_aload_n hx hb dX8_chain_194 rfl (lv_at hl 0 rfl) ?_
                        refine lv_aload_n hx hb dX8_chain_195 rfl (lv_at hl 0 rfl) ?_
                        refine k_get (C := RX8) (T := TX8) (N := 13) (v := .int (nI 1)) hx hb hts hown E I iX8 (0) (by decide) (r0 := (upd (upd (upd (upd (σ 0) 8 (nI k)) 9 (nI (n - k))) 11 (nI u)) 12 (nI 1))) rfl km_0 rfl 12 (by decide) (List.mem_of_getElem? (i := 5) rfl) rfl dX8_chain_196 ?_
                        refine lv_if_eq (tgt := 208) hx hb dX8_chain_199 (by decide) (fun c_199 => ?_) (fun c_199 => ?_)
                        · exact absurd c_199 (by decide)
                        · refine lv_sipush (v := nI 999) hx hb dX8_chain_202 (by decide) ?_
                          refine lv_goto (tgt := 212) hx hb dX8_chain_205 (by decide) ?_
                          refine k_put (C := RX8) (T := TX8) (N := 13) (ty0 := tyX8) (ty := .int) (v := .int (nI 999)) hx hb hts hown E I iX8 tyX8_ok nmX8 (0) (by decide) (r0 := (upd (upd (upd (upd (σ 0) 8 (nI k)) 9 (nI (n - k))) 11 (nI u)) 12 (nI 1))) rfl km_0 rfl 11 (by decide) (List.mem_of_getElem? (i := 4) rfl) rfl rfl rfl rfl (Nat.le_of_ble_eq_true rfl) (upd (upd (upd (upd (σ 0) 8 (nI k)) 9 (nI (n - k))) 11 (nI 999)) 12 (nI 1)) rfl (σ2 := va_up σ 0 (upd (upd (upd (upd (σ 0) 8 (nI k)) 9 (nI (n - k))) 11 (nI 999)) 12 (nI 1))) (bx_uu _ _ _ _) dX8_chain_212 (fun H locs I => ?_)
                          refine lv_aload_n hx hb dX8_chain_215 rfl (lv_at hl 0 rfl) ?_
                          refine lv_aload_n hx hb dX8_chain_216 rfl (lv_at hl 0 rfl) ?_
                          refine k_get (C := RX8) (T := TX8) (N := 13) (v := .int (nI 1)) hx hb hts hown E I iX8 (0) (by decide) (r0 := (upd (upd (upd (upd (σ 0) 8 (nI k)) 9 (nI (n - k))) 11 (nI 999)) 12 (nI 1))) rfl km_0 rfl 12 (by decide) (List.mem_of_getElem? (i := 5) rfl) rfl dX8_chain_217 ?_
                          refine lv_if_eq (tgt := 227) hx hb dX8_chain_220 (by decide) (fun c_220 => ?_) (fun c_220 => ?_)
                          · exact absurd c_220 (by decide)
                          · refine lv_iconst (v := nI 0) hx hb dX8_chain_223 (by decide) ?_
                            refine lv_goto (tgt := 238) hx hb dX8_chain_224 (by decide) ?_
                            refine k_put (C := RX8) (T := TX8) (N := 13) (ty0 := tyX8) (ty := .int) (v := .int (nI 0)) hx hb hts hown E I iX8 tyX8_ok nmX8 (0) (by decide) (r0 := (upd (upd (upd (upd (σ 0) 8 (nI k)) 9 (nI (n - k))) 11 (nI 999)) 12 (nI 1))) rfl km_0 rfl 10 (by decide) (List.mem_of_getElem? (i := 6) rfl) rfl rfl rfl rfl (Nat.le_of_ble_eq_true rfl) (upd (upd (upd (upd (upd (σ 0) 8 (nI k)) 9 (nI (n - k))) 10 (nI 0)) 11 (nI 999)) 12 (nI 1)) rfl (σ2 := va_up σ 0 (upd (upd (upd (upd (upd (σ 0) 8 (nI k)) 9 (nI (n - k))) 10 (nI 0)) 11 (nI 999)) 12 (nI 1))) (bx_uu _ _ _ _) dX8_chain_238 (fun H locs I => ?_)
                            exact k_vret hx hb hr hlk I dX8_chain_241 (⟨_, rfl, fun j hj => by rw [pk_un (by omega), pk_un (by omega), pk_un (by omega), pk_un (by omega), pk_un (by omega)], congrArg nI hgk.symm, congrArg nI (by rw [hz.1, hkn2]), by first | exact congrArg nI hz3.1.symm | exact congrArg nI hz2.1.symm, by first | exact congrArg nI hz3.2.1.symm | exact congrArg nI hz2.2.1.symm, by first | exact congrArg nI hz3.2.2.symm | exact congrArg nI hz2.2.2.symm⟩)
                    · have c_159 : ¬ ((10 * dq) ≤ (sR h w u n)) := fun q_ => c_159 ((nI_leI (by omega) (by omega)).mpr q_)
                      refine lv_aload_n hx hb dX8_chain_162 rfl (lv_at hl 0 rfl) ?_
                      refine lv_dup hx hb dX8_chain_163 rfl ?_
                      refine k_get (C := RX8) (T := TX8) (N := 13) (v := .int (nI u)) hx hb hts hown E I iX8 (0) (by decide) (r0 := (upd (upd (upd (upd (σ 0) 8 (nI k)) 9 (nI (n - k))) 11 (nI u)) 12 (nI 0))) rfl km_0 rfl 11 (by decide) (List.mem_of_getElem? (i := 4) rfl) rfl dX8_chain_164 ?_
                      refine lv_iconst (v := nI 1) hx hb dX8_chain_167 (by decide) ?_
                      refine lv_iadd hx hb dX8_chain_168 ?_
                      rw [nI_add]
                      refine k_put (C := RX8) (T := TX8) (N := 13) (ty0 := tyX8) (ty := .int) (v := .int (nI (u + 1))) hx hb hts hown E I iX8 tyX8_ok nmX8 (0) (by decide) (r0 := (upd (upd (upd (upd (σ 0) 8 (nI k)) 9 (nI (n - k))) 11 (nI u)) 12 (nI 0))) rfl km_0 rfl 11 (by decide) (List.mem_of_getElem? (i := 4) rfl) rfl rfl rfl rfl (Nat.le_of_ble_eq_true rfl) (upd (upd (upd (upd (σ 0) 8 (nI k)) 9 (nI (n - k))) 11 (nI (u + 1))) 12 (nI 0)) rfl (σ2 := va_up σ 0 (upd (upd (upd (upd (σ 0) 8 (nI k)) 9 (nI (n - k))) 11 (nI (u + 1))) 12 (nI 0))) (bx_uu _ _ _ _) dX8_chain_169 (fun H locs I => ?_)
                      refine lv_goto (tgt := 136) hx hb dX8_chain_172 (by decide) ?_
                      exact ih_136 (u + 1) (by omega) (by omega) (by omega) (fun v hv => by by_cases e_ : v = u; (rw [e_]; omega); exact hun v (by omega)) _ _ I _ (lv_sub hl [0, 1, 2, 3, 4] rfl)
              exact LP_136 _ _ (Nat.lt_succ_self _) (by omega) (by omega) (by first | exact fun v _ => zFew (by omega) | exact fun v hv => by rw [show v = 0 by omega]; exact h0) _ _ I _ (lv_sub hl [0, 2, 3, 4, 5] rfl)
          · have c_89 : ¬ ((sR h w 0 k) < (10 * dq)) := fun q_ => c_89 ((nI_ltI (by omega) (by omega)).mpr q_)
            have hz := zLie_ok hgk (by omega)
            refine lv_aload_n hx hb dX8_chain_92 rfl (lv_at hl 0 rfl) ?_
            refine lv_bipush (v := nI 10) hx hb dX8_chain_93 (by decide) ?_
            refine lv_aload_n hx hb dX8_chain_95 rfl (lv_at hl 0 rfl) ?_
            refine k_get (C := RX8) (T := TX8) (N := 13) (v := .int (nI (n - k))) hx hb hts hown E I iX8 (0) (by decide) (r0 := (upd (upd (upd (upd (σ 0) 8 (nI k)) 9 (nI (n - k))) 11 (nI 0)) 12 (nI 0))) rfl km_0 rfl 9 (by decide) (List.mem_of_getElem? (i := 3) rfl) rfl dX8_chain_96 ?_
            refine lv_imul hx hb dX8_chain_99 ?_
            rw [pk_mul]
            refine lv_aload_n hx hb dX8_chain_100 rfl (lv_at hl 0 rfl) ?_
            refine k_get (C := RX8) (T := TX8) (N := 13) (v := .int (nI k)) hx hb hts hown E I iX8 (0) (by decide) (r0 := (upd (upd (upd (upd (σ 0) 8 (nI k)) 9 (nI (n - k))) 11 (nI 0)) 12 (nI 0))) rfl km_0 rfl 8 (by decide) (List.mem_of_getElem? (i := 2) rfl) rfl dX8_chain_101 ?_
            refine lv_iload_n hx hb dX8_chain_104 rfl (lv_at hl 3 rfl) ?_
            refine lv_iload hx hb dX8_chain_105 (lv_at hl 4 rfl) ?_
            refine lv_iconst (v := nI 0) hx hb dX8_chain_107 (by decide) ?_
            refine k_calls (As := [.int (nI k), .int (nI w), .int (nI h), .int (nI 0)]) (rest := [.int (nI (10 * ((n - k)))), .ref (ad 0)]) ⟨hx, hb, hml, hown, hts⟩ (c_X8_runs l k w h 0 (by omega) hw1 hw hh (by decide)) (va_cwS 4 hts gX8_chain_X8_runs rfl rfl rfl (by decide +kernel) ⟨Nat.le_of_ble_eq_true rfl, Nat.le_of_ble_eq_true rfl⟩) rfl hl.1 rfl (lv_room (Nat.le_of_ble_eq_true rfl)) dX8_chain_108 ⟨Nat.le_of_ble_eq_true rfl, Nat.le_of_ble_eq_true rfl⟩ (fun r_108 hp_108 => ?_)
            subst hp_108
            refine lv_iadd hx hb dX8_chain_111 ?_
            rw [nI_add]
            refine k_put (C := RX8) (T := TX8) (N := 13) (ty0 := tyX8) (ty := .int) (v := .int (nI ((10 * ((n - k))) + (sX h w 0 k)))) hx hb hts hown E I iX8 tyX8_ok nmX8 (0) (by decide) (r0 := (upd (upd (upd (upd (σ 0) 8 (nI k)) 9 (nI (n - k))) 11 (nI 0)) 12 (nI 0))) rfl km_0 rfl 10 (by decide) (List.mem_of_getElem? (i := 6) rfl) rfl rfl rfl rfl (Nat.le_of_ble_eq_true rfl) (upd (upd (upd (upd (upd (σ 0) 8 (nI k)) 9 (nI (n - k))) 10 (nI ((10 * ((n - k))) + (sX h w 0 k)))) 11 (nI 0)) 12 (nI 0)) rfl (σ2 := va_up σ 0 (upd (upd (upd (upd (upd (σ 0) 8 (nI k)) 9 (nI (n - k))) 10 (nI ((10 * ((n - k))) + (sX h w 0 k)))) 11 (nI 0)) 12 (nI 0))) (bx_uu _ _ _ _) dX8_chain_112 (fun H locs I => ?_)
            exact k_vret hx hb hr hlk I dX8_chain_115 (⟨_, rfl, fun j hj => by rw [pk_un (by omega), pk_un (by omega), pk_un (by omega), pk_un (by omega), pk_un (by omega)], congrArg nI hgk.symm, congrArg nI hz.1.symm, congrArg nI hz.2.1.symm, congrArg nI hz.2.2.1.symm, congrArg nI hz.2.2.2.symm⟩)
        · have c_33 : ¬ (n ≤ k) := fun q_ => c_33 ((nI_leI (by omega) (by omega)).mpr q_)
          have hD9 : w * (k + 1) ≤ 5 * 60 := Nat.mul_le_mul hw (by omega)
          have hD1 := Nat.mul_le_mul hw1 (show 1 ≤ k + 1 by omega)
          refine lv_aload_n hx hb dX8_chain_36 rfl (lv_at hl 0 rfl) ?_
          refine lv_dup hx hb dX8_chain_37 rfl ?_
          refine k_get (C := RX8) (T := TX8) (N := 13) (v := .int (nI k)) hx hb hts hown E I iX8 (0) (by decide) (r0 := (upd (σ 0) 8 (nI k))) rfl km_0 rfl 8 (by decide) (List.mem_of_getElem? (i := 2) rfl) rfl dX8_chain_38 ?_
          refine lv_iconst (v := nI 1) hx hb dX8_chain_41 (by decide) ?_
          refine lv_iadd hx hb dX8_chain_42 ?_
          rw [nI_add]
          refine k_put (C := RX8) (T := TX8) (N := 13) (ty0 := tyX8) (ty := .int) (v := .int (nI (k + 1))) hx hb hts hown E I iX8 tyX8_ok nmX8 (0) (by decide) (r0 := (upd (σ 0) 8 (nI k))) rfl km_0 rfl 8 (by decide) (List.mem_of_getElem? (i := 2) rfl) rfl rfl rfl rfl (Nat.le_of_ble_eq_true rfl) (upd (σ 0) 8 (nI (k + 1))) rfl (σ2 := va_up σ 0 (upd (σ 0) 8 (nI (k + 1)))) (bx_uu _ _ _ _) dX8_chain_43 (fun H locs I => ?_)
          refine lv_iload hx hb dX8_chain_46 (lv_at hl 6 rfl) ?_
          refine lv_iload hx hb dX8_chain_48 (lv_at hl 4 rfl) ?_
          refine lv_iload_n hx hb dX8_chain_50 rfl (lv_at hl 3 rfl) ?_
          refine lv_aload_n hx hb dX8_chain_51 rfl (lv_at hl 0 rfl) ?_
          refine k_get (C := RX8) (T := TX8) (N := 13) (v := .int (nI (k + 1))) hx hb hts hown E I iX8 (0) (by decide) (r0 := (upd (σ 0) 8 (nI (k + 1)))) rfl km_0 rfl 8 (by decide) (List.mem_of_getElem? (i := 2) rfl) rfl dX8_chain_52 ?_
          refine lv_imul hx hb dX8_chain_55 ?_
          rw [pk_mul]
          refine k_calls (As := [.int (nI h), .int (nI (w * ((k + 1))))]) (rest := [.int (nI (sR h w 0 k))]) ⟨hx, hb, hml, hown, hts⟩ (c_X8_rise l h (w * (k + 1)) hh (by omega) (by omega)) (va_cwS 2 hts gX8_chain_X8_rise rfl rfl rfl (by decide +kernel) ⟨Nat.le_of_ble_eq_true rfl, Nat.le_of_ble_eq_true rfl⟩) rfl hl.1 rfl (lv_room (Nat.le_of_ble_eq_true rfl)) dX8_chain_56 ⟨Nat.le_of_ble_eq_true rfl, Nat.le_of_ble_eq_true rfl⟩ (fun r_56 hp_56 => ?_)
          subst hp_56
          refine lv_iadd hx hb dX8_chain_59 ?_
          rw [nI_add]
          refine lv_topi (fun t_60 et_60 => ?_)
          have et_60 : t_60 = nI (sR h w 0 (k + 1)) := et_60.trans (congrArg nI (by rw [sR, Nat.zero_add]))
          subst et_60
          refine lv_istore (lv' := [(6, .int (nI (sR h w 0 (k + 1)))), (0, .ref (ad 0)), (1, .int (nI x)), (2, .int (nI n)), (3, .int (nI w)), (4, .int (nI h)), (5, .int (nI (10 * dq)))]) hx hb dX8_chain_60 hl (by decide) rfl (fun ls hl => ?_)
          refine lv_goto (tgt := 21) hx hb dX8_chain_62 (by decide) ?_
          exact ih_21 (k + 1) (by omega) (by omega) (fun j hj => by by_cases e_ : j = k; (rw [e_]; omega); exact hno j (by omega)) _ _ I _ (lv_sub hl [1, 2, 3, 4, 5, 6, 0] rfl)
  exact LP_21 _ 0 (Nat.lt_succ_self _) (Nat.zero_le _) (fun j hj => absurd hj (Nat.not_lt_zero j)) _ _ I _ (lv_sub hl [2, 3, 4, 5, 6, 1, 0] rfl)
set_option maxHeartbeats 4000000 in
set_option maxRecDepth 100000 in
theorem c_X8_holding (cy : Nat → ClassId) (D : va_G) (ad : Nat → Nat) (l : Launch) (σ : Nat → Nat → Int32) (t4 u g : Nat) (ht4 : t4 ≤ 1) (hu : u ≤ 999) (hg9 : g ≤ 999) (e4 : σ 0 12 = nI t4) (e3 : σ 0 11 = nI u) : kMi 6 ad (kcM cy ad) cy D l yX8_holding wsX8_holding ({ frames := 0, cells := 0, slots := 0, locals := 0 }) [.ref (ad 0), .int (nI g)] σ (fun r σ' => r = nI (if t4 = 1 then 0 else g - 3 * u) ∧ σ = σ') := by
  refine k_entry (cc := cX8_holding) (maxL := 3) (ret := (some .int)) (by decide) rfl (Nat.le_of_ble_eq_true rfl) ?_
  intro p e s m below meth c hx hb hr hml hown hts hlk E I ls hl
  have hA : ∀ q, s.heap.size ≤ q → kA 6 ad s.heap.size q := fun q h => Or.inr h
  have hown : s.vm.findClass RX8 = some m.cls := hown
  have hl : lv_has ls 3 [(0, .ref (ad 0)), (1, .int (nI g))] := hl
  have iX8 : ∀ w ∈ u_ws RX8 TX8 13, w ∈ wsX8_holding := fun w h => List.mem_cons_of_mem _ (List.mem_append_right _ h)
  refine lv_iload_n hx hb dX8_holding_0 rfl (lv_at hl 1 rfl) ?_
  refine lv_iconst (v := nI 3) hx hb dX8_holding_1 (by decide) ?_
  refine lv_aload_n hx hb dX8_holding_2 rfl (lv_at hl 0 rfl) ?_
  refine k_get (C := RX8) (T := TX8) (N := 13) (v := .int (nI u)) hx hb hts hown E I iX8 (0) (by decide) (r0 := σ 0) rfl km_0 rfl 11 (by decide) (List.mem_of_getElem? (i := 1) rfl) (congrArg (fun z => some (Value.int z)) e3) dX8_holding_3 ?_
  refine lv_imul hx hb dX8_holding_6 ?_
  rw [pk_mul]
  refine lv_isub hx hb dX8_holding_7 ?_
  refine lv_istore_n (lv' := [(2, .int ((nI g) - (nI (3 * u)))), (0, .ref (ad 0)), (1, .int (nI g))]) hx hb dX8_holding_8 rfl hl (by decide) rfl (fun ls hl => ?_)
  refine lv_aload_n hx hb dX8_holding_9 rfl (lv_at hl 1 rfl) ?_
  refine k_get (C := RX8) (T := TX8) (N := 13) (v := .int (nI t4)) hx hb hts hown E I iX8 (0) (by decide) (r0 := σ 0) rfl km_0 rfl 12 (by decide) (List.mem_of_getElem? (i := 2) rfl) (congrArg (fun z => some (Value.int z)) e4) dX8_holding_10 ?_
  refine lv_if_ne (tgt := 20) hx hb dX8_holding_13 (by decide) (fun c_13 => ?_) (fun c_13 => ?_)
  · have c_13 : ¬ (t4 = 0) := fun q_ => c_13 ((nI_eq (by omega) (by decide)).mpr q_)
    have e_ : 0 = (if t4 = 1 then 0 else g - 3 * u) := (if_pos (by omega)).symm
    refine lv_iconst (v := nI 0) hx hb dX8_holding_20 (by decide) ?_
    refine lv_goto (tgt := 25) hx hb dX8_holding_21 (by decide) ?_
    exact k_iret hx hb hr hlk I dX8_holding_25 (⟨by rw [← e_]; first | done | exact pk_sub hge, rfl⟩)
  · have c_13 : t4 = 0 := (nI_eq (by omega) (by decide)).mp c_13
    refine lv_iload_n hx hb dX8_holding_16 rfl (lv_at hl 0 rfl) ?_
    refine lv_if_ge (tgt := 24) hx hb dX8_holding_17 (by decide) (fun c_17 => ?_) (fun c_17 => ?_)
    · have hge : 3 * u ≤ g := Nat.le_of_not_lt (fun q => by have h1 := pk_sneg (a := g) (b := 3 * u) (by omega) q; rw [ki_le] at c_17; rw [ki_lt] at h1; have h0 : (0 : Int32).toInt = 0 := (by decide); omega)
      have e_ : g - 3 * u = (if t4 = 1 then 0 else g - 3 * u) := (if_neg (by omega)).symm
      refine lv_iload_n hx hb dX8_holding_24 rfl (lv_at hl 0 rfl) ?_
      exact k_iret hx hb hr hlk I dX8_holding_25 (⟨by rw [← e_]; first | done | exact pk_sub hge, rfl⟩)
    · have hlt : g < 3 * u := Nat.lt_of_not_le (fun q => c_17 (by rw [pk_sub q]; exact nI_pos' (by omega)))
      have e_ : 0 = (if t4 = 1 then 0 else g - 3 * u) := by rw [if_neg (by omega)]; omega
      refine lv_iconst (v := nI 0) hx hb dX8_holding_20 (by decide) ?_
      refine lv_goto (tgt := 25) hx hb dX8_holding_21 (by decide) ?_
      exact k_iret hx hb hr hlk I dX8_holding_25 (⟨by rw [← e_]; first | done | exact pk_sub hge, rfl⟩)

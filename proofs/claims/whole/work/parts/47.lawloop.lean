/-! THE LAW'S LOOP -/
def lA (s : State) : Nat → Prop := fun q => s.heap.size ≤ q
def LW (cy : Nat → ClassId) (D : va_G) (adC adM : Nat → Nat) (s : State) (σ μ : Nat → Nat → Int32) (H : Heap) (locs : List Loc) : Prop := kI 38 adC (kcC cy adC) D (lA s) s.heap σ H locs ∧ kI 6 adM (kcM cy adM) D (lA s) s.heap μ H locs ∧ ∀ i j, i < 38 → j < 6 → adC i ≠ adM j
theorem ksw_19 (x : Int32) : (x.toInt < 0 ∨ (18 : Int) < x.toInt) ∨ x = nI 0 ∨ x = nI 1 ∨ x = nI 2 ∨ x = nI 3 ∨ x = nI 4 ∨ x = nI 5 ∨ x = nI 6 ∨ x = nI 7 ∨ x = nI 8 ∨ x = nI 9 ∨ x = nI 10 ∨ x = nI 11 ∨ x = nI 12 ∨ x = nI 13 ∨ x = nI 14 ∨ x = nI 15 ∨ x = nI 16 ∨ x = nI 17 ∨ x = nI 18 := by
  rcases kint x 18 (by decide) with h | ⟨j, hj, rfl⟩
  · exact Or.inl h
  · right
    rcases (show j = 0 ∨ j = 1 ∨ j = 2 ∨ j = 3 ∨ j = 4 ∨ j = 5 ∨ j = 6 ∨ j = 7 ∨ j = 8 ∨ j = 9 ∨ j = 10 ∨ j = 11 ∨ j = 12 ∨ j = 13 ∨ j = 14 ∨ j = 15 ∨ j = 16 ∨ j = 17 ∨ j = 18 by omega) with rfl | rfl | rfl | rfl | rfl | rfl | rfl | rfl | rfl | rfl | rfl | rfl | rfl | rfl | rfl | rfl | rfl | rfl | rfl <;> simp
section LAWROWS
variable {p : Program} {l : Launch} {e : Env} {R : Room} {s : State} {m : MethodId} {args : Array Value} {below : List Frame} {meth : Method} {c : Code} {H : Heap} {locs : List Loc} {cells slots : Nat} {Q : State → Prop}
variable {cc : ByteArray} {pc : Nat} {ls : Array Slot} {rest st0 As : List Value} {cy : Nat → ClassId} {D : va_G} {adC adM : Nat → Nat} {σ μ : Nat → Nat → Int32}
variable {y : MethodName} {bytes : ByteArray} {maxL nL na index : Nat} {ret : Option FieldType} {ws : List Cond} {rm : Room} {Ts : List Cond} {own C : String}
theorem lw_callC {post : Int32 → (Nat → Nat → Int32) → Prop} (S : CallFix p m c cc nL s args Ts own) (hM : kMi 38 adC (kcC cy adC) cy D l y ws rm (.ref (adC 0) :: As) σ post) (cw : CallW R s args own RX7 index y bytes maxL ret ws rm 0 0 na) (E : kE cy D (lA s) s s.heap) (I : LW cy D adC adM s σ μ H locs)
    (hn : As.length = na) (hsize : ls.size = nL) (hstack : st0 = As.reverse ++ .ref (adC 0) :: rest) (hW : 2 * (F0 m pc ls st0).monitorRoom + (rest.map fun v => v.category).sum ≤ 8) (hdg : decode cc pc = .ok (.invokevirtual index, 3)) (hf : cells + 0 ≤ R.cells ∧ slots + 0 ≤ R.slots)
    (kk : ∀ (r : Int32) (σ' : Nat → Nat → Int32) (H1 : Heap) (locs1 : List Loc), post r σ' → LW cy D adC adM s σ' μ H1 locs1 → W p l e R s m args below meth c H1 locs1 cells slots Q (F0 m (pc + 3) ls (.int r :: rest))) : W p l e R s m args below meth c H locs cells slots Q (F0 m pc ls st0) :=
  va_calli (va_runV S (hM H.size) cw ⟨k_blind, k_recv E I.1 (by decide) kc_0 rfl, k_pre E (fun _ h => h) I.1⟩ rfl hn hsize hstack hW hdg hf) I.1.2.2 (fun q _ h => k_sub (fun _ h => h) I.1 q h) (k_sub (fun _ h => h) I.1) (fun r σ' t H1 locs1 ht _ hp hB _ hk hS => kk r σ' H1 locs1 hp ⟨⟨by rw [← ht]; exact hB, kD I.1.2.1, hS⟩, ⟨I.2.1.1.kept (fun j x hx => by
    have hlt := (I.2.1.1 j x hx).lt
    obtain ⟨hj, rfl⟩ := kW_in hx
    refine hk _ hlt ?_
    rintro (⟨i, hi, h⟩ | h)
    · exact I.2.2 i j hi hj h.symm
    · exact absurd hlt (Nat.not_lt.mpr h)), I.2.1.2.1, hS⟩, I.2.2⟩)
theorem lw_callM {post : Int32 → (Nat → Nat → Int32) → Prop} (S : CallFix p m c cc nL s args Ts own) (hM : kMi 6 adM (kcM cy adM) cy D l y ws rm (.ref (adM 0) :: As) μ post) (cw : CallW R s args own RX8 index y bytes maxL ret ws rm 0 0 na) (E : kE cy D (lA s) s s.heap) (I : LW cy D adC adM s σ μ H locs)
    (hn : As.length = na) (hsize : ls.size = nL) (hstack : st0 = As.reverse ++ .ref (adM 0) :: rest) (hW : 2 * (F0 m pc ls st0).monitorRoom + (rest.map fun v => v.category).sum ≤ 8) (hdg : decode cc pc = .ok (.invokevirtual index, 3)) (hf : cells + 0 ≤ R.cells ∧ slots + 0 ≤ R.slots)
    (kk : ∀ (r : Int32) (μ' : Nat → Nat → Int32) (H1 : Heap) (locs1 : List Loc), post r μ' → LW cy D adC adM s σ μ' H1 locs1 → W p l e R s m args below meth c H1 locs1 cells slots Q (F0 m (pc + 3) ls (.int r :: rest))) : W p l e R s m args below meth c H locs cells slots Q (F0 m pc ls st0) :=
  va_calli (va_runV S (hM H.size) cw ⟨k_blind, k_recv E I.2.1 (by decide) km_0 rfl, k_pre E (fun _ h => h) I.2.1⟩ rfl hn hsize hstack hW hdg hf) I.2.1.2.2 (fun q _ h => k_sub (fun _ h => h) I.2.1 q h) (k_sub (fun _ h => h) I.2.1) (fun r μ' t H1 locs1 ht _ hp hB _ hk hS => kk r μ' H1 locs1 hp ⟨⟨I.1.1.kept (fun j x hx => by
    have hlt := (I.1.1 j x hx).lt
    obtain ⟨hj, rfl⟩ := kW_in hx
    refine hk _ hlt ?_
    rintro (⟨i, hi, h⟩ | h)
    · exact I.2.2 j i hj hi h
    · exact absurd hlt (Nat.not_lt.mpr h)), I.1.2.1, hS⟩, ⟨by rw [← ht]; exact hB, kD I.2.1.2.1, hS⟩, I.2.2⟩)
end LAWROWS

set_option maxHeartbeats 8000000 in
set_option maxRecDepth 100000 in
theorem law_loop {p : Program} {l : Launch} {e : Env} {s : State} {m : MethodId} {below : List Frame} {meth : Method} {c : Code} {cy : Nat → ClassId} {D : va_G} {adC adM : Nat → Nat} {b L : Nat} {xs : Nat → Int32} (hL : L ≤ 2560) (C0 : lw_At p s m meth c b L xs) (E : kE cy D (lA s) s s.heap) :
    ∀ (n i : Nat), L + 6 < i + n → i ≤ L + 5 → ∀ (σ μ : Nat → Nat → Int32) (Z : ZS) (H : Heap) (locs : List Loc), LW cy D adC adM s σ μ H locs → rC σ Z → rM μ Z → ∀ ls : Array Slot, lv_has ls 4 [(0, .ref b), (1, .ref (adC 0)), (2, .ref (adM 0)), (3, .int (nI i))] → W p l e room_1 s m #[Value.ref b] below meth c H locs 600000 7302250 (lw_Z below #[Value.ref b] s) (F0 m 18 ls []) := by
  obtain ⟨hx, hb, hr, hml, hown, hts0, hX, hbl, hlocks, hgv⟩ := C0
  have hts : ∀ w ∈ wsL_law, w.before #[Value.ref b] s = true := fun w h => hts0 w (wsL_law_in w h)
  have hown : s.vm.findClass RL = some m.cls := hown
  have hb : c.code = cL_law := hb
  have hbA : ¬ (lA s) b := Nat.not_le.mpr hbl
  intro n
  induction n with
  | zero => intro i h1 h2; exact absurd h1 (by omega)
  | succ n ih =>
    intro i hin hi5 σ μ Z H locs I hC hR ls hl
    refine lv_iload_n hx hb dL_law_18 rfl (lv_at hl 3 rfl) ?_
    refine lv_aload_n hx hb dL_law_19 rfl (lv_at hl 0 rfl) ?_
    refine va_slen hx hb hX hbl hbA I.1.2.2 dL_law_20 ?_
    refine lv_iconst (v := nI 5) hx hb dL_law_21 (by decide) ?_
    refine lv_isub hx hb dL_law_22 ?_
    refine lv_icmp_gt (tgt := 727) hx hb dL_law_23 (by decide) (fun c_ => ?_) (fun c_ => ?_)
    · refine lv_iconst (v := 1) hx hb dL_law_727 (by decide) ?_
      refine va_forget (fun q hq => I.1.2.2.2.2 q hq) ?_
      exact lw_ret hx hb hr hlocks dL_law_728
    · have hlt : i + 5 ≤ L := by
        have h1 : (nI L - nI 5).toInt = (L : Int) - (5 : Nat) := pk_sub_toInt (by omega) (by decide)
        have h2 : (nI i).toInt = (i : Int) := nI_toInt (by omega)
        rcases Nat.lt_or_ge L (i + 5) with q | q
        · exact absurd (show (nI L - nI 5) < nI i by rw [ki_lt, h1, h2]; omega) c_
        · exact q
      have NEXT : ∀ (σ μ : Nat → Nat → Int32) (Z : ZS) (H : Heap) (locs : List Loc), LW cy D adC adM s σ μ H locs → rC σ Z → rM μ Z → ∀ ls : Array Slot, lv_has ls 4 [(0, .ref b), (1, .ref (adC 0)), (2, .ref (adM 0)), (3, .int (nI i))] → W p l e room_1 s m #[Value.ref b] below meth c H locs 600000 7302250 (lw_Z below #[Value.ref b] s) (F0 m 721 ls []) := by
        intro σ μ Z H locs I hC hR ls hl
        refine lv_iinc (v := nI (i + 5)) (lv' := [(3, .int (nI (i + 5))), (0, .ref b), (1, .ref (adC 0)), (2, .ref (adM 0))]) hx hb dL_law_721 hl (k := 3) rfl (show nI i + Int32.ofInt 5 = nI (i + 5) from nI_add i 5) (by decide) rfl (fun ls hl => ?_)
        refine lv_goto (tgt := 18) hx hb dL_law_724 (by decide) ?_
        exact ih (i + 5) (by omega) (by omega) σ μ Z H locs I hC hR ls (lv_sub hl [1, 2, 3, 0] rfl)
      obtain ⟨N, P, np, T, nt⟩ := Z
      refine lv_aload_n hx hb dL_law_26 rfl (lv_at hl 0 rfl) ?_
      refine lv_iload_n hx hb dL_law_27 rfl (lv_at hl 3 rfl) ?_
      refine va_sld hx hb hX hbl hbA I.1.2.2 (vp_in_nI (show i < L by omega) (by omega)) dL_law_28 ?_
      refine lv_bipush (v := nI 31) hx hb dL_law_29 (by decide) ?_
      refine lv_iand hx hb dL_law_31 ?_
      rcases ksw_19 (xs (nI i).toNatClampNeg &&& nI 31) with c_ | c_ | c_ | c_ | c_ | c_ | c_ | c_ | c_ | c_ | c_ | c_ | c_ | c_ | c_ | c_ | c_ | c_ | c_ | c_
      · refine lv_tableOut (tgt := 721) hx hb dL_law_32 c_ (by decide) ?_
        exact NEXT σ μ _ H locs I hC hR ls hl
      · rw [c_]
        refine lv_tableIn (tgt := 124) (off := 92) hx hb dL_law_32 (by decide) (by decide) (by decide) (by decide) ?_
        refine lv_aload_n hx hb dL_law_124 rfl (lv_at hl 1 rfl) ?_
        refine lv_aload_n hx hb dL_law_125 rfl (lv_at hl 0 rfl) ?_
        refine lv_iload_n hx hb dL_law_126 rfl (lv_at hl 3 rfl) ?_
        refine lv_iconst (v := nI 1) hx hb dL_law_127 (by decide) ?_
        refine lv_iadd hx hb dL_law_128 ?_
        rw [nI_add]
        refine va_sld hx hb hX hbl hbA I.1.2.2 (vp_in_nI (show i + 1 < L by omega) (by omega)) dL_law_129 ?_
        rw [nI_clamp (show i + 1 < 2 ^ 31 by omega)]
        refine lw_callC (As := [.int (xs (i + 1))]) (rest := []) ⟨hx, hb, hml, hown, hts⟩ (c_X7_write cy D adC l σ (xs (i + 1)) N P np T nt hC) (cwV 1 hts gL_law_X7_write rfl rfl rfl (by decide +kernel) ⟨Nat.le_of_ble_eq_true rfl, Nat.le_of_ble_eq_true rfl⟩) E I rfl hl.1 rfl (lv_room (Nat.le_of_ble_eq_true rfl)) dL_law_130 ⟨Nat.le_of_ble_eq_true rfl, Nat.le_of_ble_eq_true rfl⟩ (fun r1 σ1 H locs h1 I => ?_)
        refine lv_aload_n hx hb dL_law_133 rfl (lv_at hl 2 rfl) ?_
        refine lv_aload_n hx hb dL_law_134 rfl (lv_at hl 0 rfl) ?_
        refine lv_iload_n hx hb dL_law_135 rfl (lv_at hl 3 rfl) ?_
        refine lv_iconst (v := nI 1) hx hb dL_law_136 (by decide) ?_
        refine lv_iadd hx hb dL_law_137 ?_
        rw [nI_add]
        refine va_sld hx hb hX hbl hbA I.1.2.2 (vp_in_nI (show i + 1 < L by omega) (by omega)) dL_law_138 ?_
        rw [nI_clamp (show i + 1 < 2 ^ 31 by omega)]
        refine lw_callM (As := [.int (xs (i + 1))]) (rest := [.int r1]) ⟨hx, hb, hml, hown, hts⟩ (c_X8_write cy D adM l μ (xs (i + 1)) N P np T nt hR) (cwV 1 hts gL_law_X8_write rfl rfl rfl (by decide +kernel) ⟨Nat.le_of_ble_eq_true rfl, Nat.le_of_ble_eq_true rfl⟩) E I rfl hl.1 rfl (lv_room (Nat.le_of_ble_eq_true rfl)) dL_law_139 ⟨Nat.le_of_ble_eq_true rfl, Nat.le_of_ble_eq_true rfl⟩ (fun r2 μ1 H locs h2 I => ?_)
        refine lv_icmp_eq (tgt := 721) hx hb dL_law_142 (by decide) (fun c_ => ?_) (fun c_ => ?_)
        · exact NEXT σ1 μ1 _ H locs I h1.2 h2.2 ls hl
        · exact absurd (h1.1.trans h2.1.symm) c_
      · rw [c_]
        refine lv_tableIn (tgt := 147) (off := 115) hx hb dL_law_32 (by decide) (by decide) (by decide) (by decide) ?_
        refine lv_aload_n hx hb dL_law_147 rfl (lv_at hl 1 rfl) ?_
        refine lw_callC (As := []) (rest := []) ⟨hx, hb, hml, hown, hts⟩ (c_X7_wipe cy D adC l σ  N P np T nt hC) (cwV 0 hts gL_law_X7_wipe rfl rfl rfl (by decide +kernel) ⟨Nat.le_of_ble_eq_true rfl, Nat.le_of_ble_eq_true rfl⟩) E I rfl hl.1 rfl (lv_room (Nat.le_of_ble_eq_true rfl)) dL_law_148 ⟨Nat.le_of_ble_eq_true rfl, Nat.le_of_ble_eq_true rfl⟩ (fun r1 σ1 H locs h1 I => ?_)
        refine lv_aload_n hx hb dL_law_151 rfl (lv_at hl 2 rfl) ?_
        refine lw_callM (As := []) (rest := [.int r1]) ⟨hx, hb, hml, hown, hts⟩ (c_X8_wipe cy D adM l μ  N P np T nt hR) (cwV 0 hts gL_law_X8_wipe rfl rfl rfl (by decide +kernel) ⟨Nat.le_of_ble_eq_true rfl, Nat.le_of_ble_eq_true rfl⟩) E I rfl hl.1 rfl (lv_room (Nat.le_of_ble_eq_true rfl)) dL_law_152 ⟨Nat.le_of_ble_eq_true rfl, Nat.le_of_ble_eq_true rfl⟩ (fun r2 μ1 H locs h2 I => ?_)
        refine lv_icmp_eq (tgt := 721) hx hb dL_law_155 (by decide) (fun c_ => ?_) (fun c_ => ?_)
        · exact NEXT σ1 μ1 _ H locs I h1.2 h2.2 ls hl
        · exact absurd (h1.1.trans h2.1.symm) c_
      · rw [c_]
        refine lv_tableIn (tgt := 160) (off := 128) hx hb dL_law_32 (by decide) (by decide) (by decide) (by decide) ?_
        refine lv_aload_n hx hb dL_law_160 rfl (lv_at hl 1 rfl) ?_
        refine lw_callC (As := []) (rest := []) ⟨hx, hb, hml, hown, hts⟩ (c_X7_fault cy D adC l σ  N P np T nt hC) (cwV 0 hts gL_law_X7_fault rfl rfl rfl (by decide +kernel) ⟨Nat.le_of_ble_eq_true rfl, Nat.le_of_ble_eq_true rfl⟩) E I rfl hl.1 rfl (lv_room (Nat.le_of_ble_eq_true rfl)) dL_law_161 ⟨Nat.le_of_ble_eq_true rfl, Nat.le_of_ble_eq_true rfl⟩ (fun r1 σ1 H locs h1 I => ?_)
        refine lv_aload_n hx hb dL_law_164 rfl (lv_at hl 2 rfl) ?_
        refine lw_callM (As := []) (rest := [.int r1]) ⟨hx, hb, hml, hown, hts⟩ (c_X8_fault cy D adM l μ  N P np T nt hR) (cwV 0 hts gL_law_X8_fault rfl rfl rfl (by decide +kernel) ⟨Nat.le_of_ble_eq_true rfl, Nat.le_of_ble_eq_true rfl⟩) E I rfl hl.1 rfl (lv_room (Nat.le_of_ble_eq_true rfl)) dL_law_165 ⟨Nat.le_of_ble_eq_true rfl, Nat.le_of_ble_eq_true rfl⟩ (fun r2 μ1 H locs h2 I => ?_)
        refine lv_icmp_eq (tgt := 721) hx hb dL_law_168 (by decide) (fun c_ => ?_) (fun c_ => ?_)
        · exact NEXT σ1 μ1 _ H locs I h1.2 h2.2 ls hl
        · exact absurd (h1.1.trans h2.1.symm) c_
      · rw [c_]
        refine lv_tableIn (tgt := 173) (off := 141) hx hb dL_law_32 (by decide) (by decide) (by decide) (by decide) ?_
        refine lv_aload_n hx hb dL_law_173 rfl (lv_at hl 1 rfl) ?_
        refine lw_callC (As := []) (rest := []) ⟨hx, hb, hml, hown, hts⟩ (c_X7_lay cy D adC l σ  N P np T nt hC) (cwV 0 hts gL_law_X7_lay rfl rfl rfl (by decide +kernel) ⟨Nat.le_of_ble_eq_true rfl, Nat.le_of_ble_eq_true rfl⟩) E I rfl hl.1 rfl (lv_room (Nat.le_of_ble_eq_true rfl)) dL_law_174 ⟨Nat.le_of_ble_eq_true rfl, Nat.le_of_ble_eq_true rfl⟩ (fun r1 σ1 H locs h1 I => ?_)
        refine lv_aload_n hx hb dL_law_177 rfl (lv_at hl 2 rfl) ?_
        refine lw_callM (As := []) (rest := [.int r1]) ⟨hx, hb, hml, hown, hts⟩ (c_X8_lay cy D adM l μ  N P np T nt hR) (cwV 0 hts gL_law_X8_lay rfl rfl rfl (by decide +kernel) ⟨Nat.le_of_ble_eq_true rfl, Nat.le_of_ble_eq_true rfl⟩) E I rfl hl.1 rfl (lv_room (Nat.le_of_ble_eq_true rfl)) dL_law_178 ⟨Nat.le_of_ble_eq_true rfl, Nat.le_of_ble_eq_true rfl⟩ (fun r2 μ1 H locs h2 I => ?_)
        refine lv_icmp_eq (tgt := 721) hx hb dL_law_181 (by decide) (fun c_ => ?_) (fun c_ => ?_)
        · exact NEXT σ1 μ1 _ H locs I h1.2 h2.2 ls hl
        · exact absurd (h1.1.trans h2.1.symm) c_
      · rw [c_]
        refine lv_tableIn (tgt := 186) (off := 154) hx hb dL_law_32 (by decide) (by decide) (by decide) (by decide) ?_
        refine lv_aload_n hx hb dL_law_186 rfl (lv_at hl 1 rfl) ?_
        refine lv_aload_n hx hb dL_law_187 rfl (lv_at hl 0 rfl) ?_
        refine lv_iload_n hx hb dL_law_188 rfl (lv_at hl 3 rfl) ?_
        refine lv_iconst (v := nI 1) hx hb dL_law_189 (by decide) ?_
        refine lv_iadd hx hb dL_law_190 ?_
        rw [nI_add]
        refine va_sld hx hb hX hbl hbA I.1.2.2 (vp_in_nI (show i + 1 < L by omega) (by omega)) dL_law_191 ?_
        rw [nI_clamp (show i + 1 < 2 ^ 31 by omega)]
        refine lv_aload_n hx hb dL_law_192 rfl (lv_at hl 0 rfl) ?_
        refine lv_iload_n hx hb dL_law_193 rfl (lv_at hl 3 rfl) ?_
        refine lv_iconst (v := nI 2) hx hb dL_law_194 (by decide) ?_
        refine lv_iadd hx hb dL_law_195 ?_
        rw [nI_add]
        refine va_sld hx hb hX hbl hbA I.1.2.2 (vp_in_nI (show i + 2 < L by omega) (by omega)) dL_law_196 ?_
        rw [nI_clamp (show i + 2 < 2 ^ 31 by omega)]
        refine lv_aload_n hx hb dL_law_197 rfl (lv_at hl 0 rfl) ?_
        refine lv_iload_n hx hb dL_law_198 rfl (lv_at hl 3 rfl) ?_
        refine lv_iconst (v := nI 3) hx hb dL_law_199 (by decide) ?_
        refine lv_iadd hx hb dL_law_200 ?_
        rw [nI_add]
        refine va_sld hx hb hX hbl hbA I.1.2.2 (vp_in_nI (show i + 3 < L by omega) (by omega)) dL_law_201 ?_
        rw [nI_clamp (show i + 3 < 2 ^ 31 by omega)]
        refine lw_callC (As := [.int (xs (i + 1)), .int (xs (i + 2)), .int (xs (i + 3))]) (rest := []) ⟨hx, hb, hml, hown, hts⟩ (c_X7_links cy D adC l σ (xs (i + 1)) (xs (i + 2)) (xs (i + 3)) N P np T nt hC) (cwV 3 hts gL_law_X7_links rfl rfl rfl (by decide +kernel) ⟨Nat.le_of_ble_eq_true rfl, Nat.le_of_ble_eq_true rfl⟩) E I rfl hl.1 rfl (lv_room (Nat.le_of_ble_eq_true rfl)) dL_law_202 ⟨Nat.le_of_ble_eq_true rfl, Nat.le_of_ble_eq_true rfl⟩ (fun r1 σ1 H locs h1 I => ?_)
        refine lv_aload_n hx hb dL_law_205 rfl (lv_at hl 2 rfl) ?_
        refine lv_aload_n hx hb dL_law_206 rfl (lv_at hl 0 rfl) ?_
        refine lv_iload_n hx hb dL_law_207 rfl (lv_at hl 3 rfl) ?_
        refine lv_iconst (v := nI 1) hx hb dL_law_208 (by decide) ?_
        refine lv_iadd hx hb dL_law_209 ?_
        rw [nI_add]
        refine va_sld hx hb hX hbl hbA I.1.2.2 (vp_in_nI (show i + 1 < L by omega) (by omega)) dL_law_210 ?_
        rw [nI_clamp (show i + 1 < 2 ^ 31 by omega)]
        refine lv_aload_n hx hb dL_law_211 rfl (lv_at hl 0 rfl) ?_
        refine lv_iload_n hx hb dL_law_212 rfl (lv_at hl 3 rfl) ?_
        refine lv_iconst (v := nI 2) hx hb dL_law_213 (by decide) ?_
        refine lv_iadd hx hb dL_law_214 ?_
        rw [nI_add]
        refine va_sld hx hb hX hbl hbA I.1.2.2 (vp_in_nI (show i + 2 < L by omega) (by omega)) dL_law_215 ?_
        rw [nI_clamp (show i + 2 < 2 ^ 31 by omega)]
        refine lv_aload_n hx hb dL_law_216 rfl (lv_at hl 0 rfl) ?_
        refine lv_iload_n hx hb dL_law_217 rfl (lv_at hl 3 rfl) ?_
        refine lv_iconst (v := nI 3) hx hb dL_law_218 (by decide) ?_
        refine lv_iadd hx hb dL_law_219 ?_
        rw [nI_add]
        refine va_sld hx hb hX hbl hbA I.1.2.2 (vp_in_nI (show i + 3 < L by omega) (by omega)) dL_law_220 ?_
        rw [nI_clamp (show i + 3 < 2 ^ 31 by omega)]
        refine lw_callM (As := [.int (xs (i + 1)), .int (xs (i + 2)), .int (xs (i + 3))]) (rest := [.int r1]) ⟨hx, hb, hml, hown, hts⟩ (c_X8_links cy D adM l μ (xs (i + 1)) (xs (i + 2)) (xs (i + 3)) N P np T nt hR) (cwV 3 hts gL_law_X8_links rfl rfl rfl (by decide +kernel) ⟨Nat.le_of_ble_eq_true rfl, Nat.le_of_ble_eq_true rfl⟩) E I rfl hl.1 rfl (lv_room (Nat.le_of_ble_eq_true rfl)) dL_law_221 ⟨Nat.le_of_ble_eq_true rfl, Nat.le_of_ble_eq_true rfl⟩ (fun r2 μ1 H locs h2 I => ?_)
        refine lv_icmp_eq (tgt := 721) hx hb dL_law_224 (by decide) (fun c_ => ?_) (fun c_ => ?_)
        · exact NEXT σ1 μ1 _ H locs I h1.2 h2.2 ls hl
        · exact absurd (h1.1.trans h2.1.symm) c_
      · rw [c_]
        refine lv_tableIn (tgt := 229) (off := 197) hx hb dL_law_32 (by decide) (by decide) (by decide) (by decide) ?_
        refine lv_aload_n hx hb dL_law_229 rfl (lv_at hl 1 rfl) ?_
        refine lv_aload_n hx hb dL_law_230 rfl (lv_at hl 0 rfl) ?_
        refine lv_iload_n hx hb dL_law_231 rfl (lv_at hl 3 rfl) ?_
        refine lv_iconst (v := nI 1) hx hb dL_law_232 (by decide) ?_
        refine lv_iadd hx hb dL_law_233 ?_
        rw [nI_add]
        refine va_sld hx hb hX hbl hbA I.1.2.2 (vp_in_nI (show i + 1 < L by omega) (by omega)) dL_law_234 ?_
        rw [nI_clamp (show i + 1 < 2 ^ 31 by omega)]
        refine lv_aload_n hx hb dL_law_235 rfl (lv_at hl 0 rfl) ?_
        refine lv_iload_n hx hb dL_law_236 rfl (lv_at hl 3 rfl) ?_
        refine lv_iconst (v := nI 2) hx hb dL_law_237 (by decide) ?_
        refine lv_iadd hx hb dL_law_238 ?_
        rw [nI_add]
        refine va_sld hx hb hX hbl hbA I.1.2.2 (vp_in_nI (show i + 2 < L by omega) (by omega)) dL_law_239 ?_
        rw [nI_clamp (show i + 2 < 2 ^ 31 by omega)]
        refine lv_aload_n hx hb dL_law_240 rfl (lv_at hl 0 rfl) ?_
        refine lv_iload_n hx hb dL_law_241 rfl (lv_at hl 3 rfl) ?_
        refine lv_iconst (v := nI 3) hx hb dL_law_242 (by decide) ?_
        refine lv_iadd hx hb dL_law_243 ?_
        rw [nI_add]
        refine va_sld hx hb hX hbl hbA I.1.2.2 (vp_in_nI (show i + 3 < L by omega) (by omega)) dL_law_244 ?_
        rw [nI_clamp (show i + 3 < 2 ^ 31 by omega)]
        refine lv_aload_n hx hb dL_law_245 rfl (lv_at hl 0 rfl) ?_
        refine lv_iload_n hx hb dL_law_246 rfl (lv_at hl 3 rfl) ?_
        refine lv_iconst (v := nI 4) hx hb dL_law_247 (by decide) ?_
        refine lv_iadd hx hb dL_law_248 ?_
        rw [nI_add]
        refine va_sld hx hb hX hbl hbA I.1.2.2 (vp_in_nI (show i + 4 < L by omega) (by omega)) dL_law_249 ?_
        rw [nI_clamp (show i + 4 < 2 ^ 31 by omega)]
        refine lw_callC (As := [.int (xs (i + 1)), .int (xs (i + 2)), .int (xs (i + 3)), .int (xs (i + 4))]) (rest := []) ⟨hx, hb, hml, hown, hts⟩ (c_X7_moor cy D adC l σ (xs (i + 1)) (xs (i + 2)) (xs (i + 3)) (xs (i + 4)) N P np T nt hC) (cwV 4 hts gL_law_X7_moor rfl rfl rfl (by decide +kernel) ⟨Nat.le_of_ble_eq_true rfl, Nat.le_of_ble_eq_true rfl⟩) E I rfl hl.1 rfl (lv_room (Nat.le_of_ble_eq_true rfl)) dL_law_250 ⟨Nat.le_of_ble_eq_true rfl, Nat.le_of_ble_eq_true rfl⟩ (fun r1 σ1 H locs h1 I => ?_)
        refine lv_aload_n hx hb dL_law_253 rfl (lv_at hl 2 rfl) ?_
        refine lv_aload_n hx hb dL_law_254 rfl (lv_at hl 0 rfl) ?_
        refine lv_iload_n hx hb dL_law_255 rfl (lv_at hl 3 rfl) ?_
        refine lv_iconst (v := nI 1) hx hb dL_law_256 (by decide) ?_
        refine lv_iadd hx hb dL_law_257 ?_
        rw [nI_add]
        refine va_sld hx hb hX hbl hbA I.1.2.2 (vp_in_nI (show i + 1 < L by omega) (by omega)) dL_law_258 ?_
        rw [nI_clamp (show i + 1 < 2 ^ 31 by omega)]
        refine lv_aload_n hx hb dL_law_259 rfl (lv_at hl 0 rfl) ?_
        refine lv_iload_n hx hb dL_law_260 rfl (lv_at hl 3 rfl) ?_
        refine lv_iconst (v := nI 2) hx hb dL_law_261 (by decide) ?_
        refine lv_iadd hx hb dL_law_262 ?_
        rw [nI_add]
        refine va_sld hx hb hX hbl hbA I.1.2.2 (vp_in_nI (show i + 2 < L by omega) (by omega)) dL_law_263 ?_
        rw [nI_clamp (show i + 2 < 2 ^ 31 by omega)]
        refine lv_aload_n hx hb dL_law_264 rfl (lv_at hl 0 rfl) ?_
        refine lv_iload_n hx hb dL_law_265 rfl (lv_at hl 3 rfl) ?_
        refine lv_iconst (v := nI 3) hx hb dL_law_266 (by decide) ?_
        refine lv_iadd hx hb dL_law_267 ?_
        rw [nI_add]
        refine va_sld hx hb hX hbl hbA I.1.2.2 (vp_in_nI (show i + 3 < L by omega) (by omega)) dL_law_268 ?_
        rw [nI_clamp (show i + 3 < 2 ^ 31 by omega)]
        refine lv_aload_n hx hb dL_law_269 rfl (lv_at hl 0 rfl) ?_
        refine lv_iload_n hx hb dL_law_270 rfl (lv_at hl 3 rfl) ?_
        refine lv_iconst (v := nI 4) hx hb dL_law_271 (by decide) ?_
        refine lv_iadd hx hb dL_law_272 ?_
        rw [nI_add]
        refine va_sld hx hb hX hbl hbA I.1.2.2 (vp_in_nI (show i + 4 < L by omega) (by omega)) dL_law_273 ?_
        rw [nI_clamp (show i + 4 < 2 ^ 31 by omega)]
        refine lw_callM (As := [.int (xs (i + 1)), .int (xs (i + 2)), .int (xs (i + 3)), .int (xs (i + 4))]) (rest := [.int r1]) ⟨hx, hb, hml, hown, hts⟩ (c_X8_moor cy D adM l μ (xs (i + 1)) (xs (i + 2)) (xs (i + 3)) (xs (i + 4)) N P np T nt hR) (cwV 4 hts gL_law_X8_moor rfl rfl rfl (by decide +kernel) ⟨Nat.le_of_ble_eq_true rfl, Nat.le_of_ble_eq_true rfl⟩) E I rfl hl.1 rfl (lv_room (Nat.le_of_ble_eq_true rfl)) dL_law_274 ⟨Nat.le_of_ble_eq_true rfl, Nat.le_of_ble_eq_true rfl⟩ (fun r2 μ1 H locs h2 I => ?_)
        refine lv_icmp_eq (tgt := 721) hx hb dL_law_277 (by decide) (fun c_ => ?_) (fun c_ => ?_)
        · exact NEXT σ1 μ1 _ H locs I h1.2 h2.2 ls hl
        · exact absurd (h1.1.trans h2.1.symm) c_
      · rw [c_]
        refine lv_tableIn (tgt := 282) (off := 250) hx hb dL_law_32 (by decide) (by decide) (by decide) (by decide) ?_
        refine lv_aload_n hx hb dL_law_282 rfl (lv_at hl 1 rfl) ?_
        refine lv_aload_n hx hb dL_law_283 rfl (lv_at hl 0 rfl) ?_
        refine lv_iload_n hx hb dL_law_284 rfl (lv_at hl 3 rfl) ?_
        refine lv_iconst (v := nI 1) hx hb dL_law_285 (by decide) ?_
        refine lv_iadd hx hb dL_law_286 ?_
        rw [nI_add]
        refine va_sld hx hb hX hbl hbA I.1.2.2 (vp_in_nI (show i + 1 < L by omega) (by omega)) dL_law_287 ?_
        rw [nI_clamp (show i + 1 < 2 ^ 31 by omega)]
        refine lw_callC (As := [.int (xs (i + 1))]) (rest := []) ⟨hx, hb, hml, hown, hts⟩ (c_X7_weigh cy D adC l σ (xs (i + 1)) N P np T nt hC) (cwV 1 hts gL_law_X7_weigh rfl rfl rfl (by decide +kernel) ⟨Nat.le_of_ble_eq_true rfl, Nat.le_of_ble_eq_true rfl⟩) E I rfl hl.1 rfl (lv_room (Nat.le_of_ble_eq_true rfl)) dL_law_288 ⟨Nat.le_of_ble_eq_true rfl, Nat.le_of_ble_eq_true rfl⟩ (fun r1 σ1 H locs h1 I => ?_)
        refine lv_aload_n hx hb dL_law_291 rfl (lv_at hl 2 rfl) ?_
        refine lv_aload_n hx hb dL_law_292 rfl (lv_at hl 0 rfl) ?_
        refine lv_iload_n hx hb dL_law_293 rfl (lv_at hl 3 rfl) ?_
        refine lv_iconst (v := nI 1) hx hb dL_law_294 (by decide) ?_
        refine lv_iadd hx hb dL_law_295 ?_
        rw [nI_add]
        refine va_sld hx hb hX hbl hbA I.1.2.2 (vp_in_nI (show i + 1 < L by omega) (by omega)) dL_law_296 ?_
        rw [nI_clamp (show i + 1 < 2 ^ 31 by omega)]
        refine lw_callM (As := [.int (xs (i + 1))]) (rest := [.int r1]) ⟨hx, hb, hml, hown, hts⟩ (c_X8_weigh cy D adM l μ (xs (i + 1)) N P np T nt hR) (cwV 1 hts gL_law_X8_weigh rfl rfl rfl (by decide +kernel) ⟨Nat.le_of_ble_eq_true rfl, Nat.le_of_ble_eq_true rfl⟩) E I rfl hl.1 rfl (lv_room (Nat.le_of_ble_eq_true rfl)) dL_law_297 ⟨Nat.le_of_ble_eq_true rfl, Nat.le_of_ble_eq_true rfl⟩ (fun r2 μ1 H locs h2 I => ?_)
        refine lv_icmp_eq (tgt := 721) hx hb dL_law_300 (by decide) (fun c_ => ?_) (fun c_ => ?_)
        · exact NEXT σ1 μ1 _ H locs I h1.2 h2.2 ls hl
        · exact absurd (h1.1.trans h2.1.symm) c_
      · rw [c_]
        refine lv_tableIn (tgt := 305) (off := 273) hx hb dL_law_32 (by decide) (by decide) (by decide) (by decide) ?_
        refine lv_aload_n hx hb dL_law_305 rfl (lv_at hl 1 rfl) ?_
        refine lv_aload_n hx hb dL_law_306 rfl (lv_at hl 0 rfl) ?_
        refine lv_iload_n hx hb dL_law_307 rfl (lv_at hl 3 rfl) ?_
        refine lv_iconst (v := nI 1) hx hb dL_law_308 (by decide) ?_
        refine lv_iadd hx hb dL_law_309 ?_
        rw [nI_add]
        refine va_sld hx hb hX hbl hbA I.1.2.2 (vp_in_nI (show i + 1 < L by omega) (by omega)) dL_law_310 ?_
        rw [nI_clamp (show i + 1 < 2 ^ 31 by omega)]
        refine lv_aload_n hx hb dL_law_311 rfl (lv_at hl 0 rfl) ?_
        refine lv_iload_n hx hb dL_law_312 rfl (lv_at hl 3 rfl) ?_
        refine lv_iconst (v := nI 2) hx hb dL_law_313 (by decide) ?_
        refine lv_iadd hx hb dL_law_314 ?_
        rw [nI_add]
        refine va_sld hx hb hX hbl hbA I.1.2.2 (vp_in_nI (show i + 2 < L by omega) (by omega)) dL_law_315 ?_
        rw [nI_clamp (show i + 2 < 2 ^ 31 by omega)]
        refine lv_aload_n hx hb dL_law_316 rfl (lv_at hl 0 rfl) ?_
        refine lv_iload_n hx hb dL_law_317 rfl (lv_at hl 3 rfl) ?_
        refine lv_iconst (v := nI 3) hx hb dL_law_318 (by decide) ?_
        refine lv_iadd hx hb dL_law_319 ?_
        rw [nI_add]
        refine va_sld hx hb hX hbl hbA I.1.2.2 (vp_in_nI (show i + 3 < L by omega) (by omega)) dL_law_320 ?_
        rw [nI_clamp (show i + 3 < 2 ^ 31 by omega)]
        refine lw_callC (As := [.int (xs (i + 1)), .int (xs (i + 2)), .int (xs (i + 3))]) (rest := []) ⟨hx, hb, hml, hown, hts⟩ (c_X7_hours cy D adC l σ (xs (i + 1)) (xs (i + 2)) (xs (i + 3)) N P np T nt hC) (cwV 3 hts gL_law_X7_hours rfl rfl rfl (by decide +kernel) ⟨Nat.le_of_ble_eq_true rfl, Nat.le_of_ble_eq_true rfl⟩) E I rfl hl.1 rfl (lv_room (Nat.le_of_ble_eq_true rfl)) dL_law_321 ⟨Nat.le_of_ble_eq_true rfl, Nat.le_of_ble_eq_true rfl⟩ (fun r1 σ1 H locs h1 I => ?_)
        refine lv_aload_n hx hb dL_law_324 rfl (lv_at hl 2 rfl) ?_
        refine lv_aload_n hx hb dL_law_325 rfl (lv_at hl 0 rfl) ?_
        refine lv_iload_n hx hb dL_law_326 rfl (lv_at hl 3 rfl) ?_
        refine lv_iconst (v := nI 1) hx hb dL_law_327 (by decide) ?_
        refine lv_iadd hx hb dL_law_328 ?_
        rw [nI_add]
        refine va_sld hx hb hX hbl hbA I.1.2.2 (vp_in_nI (show i + 1 < L by omega) (by omega)) dL_law_329 ?_
        rw [nI_clamp (show i + 1 < 2 ^ 31 by omega)]
        refine lv_aload_n hx hb dL_law_330 rfl (lv_at hl 0 rfl) ?_
        refine lv_iload_n hx hb dL_law_331 rfl (lv_at hl 3 rfl) ?_
        refine lv_iconst (v := nI 2) hx hb dL_law_332 (by decide) ?_
        refine lv_iadd hx hb dL_law_333 ?_
        rw [nI_add]
        refine va_sld hx hb hX hbl hbA I.1.2.2 (vp_in_nI (show i + 2 < L by omega) (by omega)) dL_law_334 ?_
        rw [nI_clamp (show i + 2 < 2 ^ 31 by omega)]
        refine lv_aload_n hx hb dL_law_335 rfl (lv_at hl 0 rfl) ?_
        refine lv_iload_n hx hb dL_law_336 rfl (lv_at hl 3 rfl) ?_
        refine lv_iconst (v := nI 3) hx hb dL_law_337 (by decide) ?_
        refine lv_iadd hx hb dL_law_338 ?_
        rw [nI_add]
        refine va_sld hx hb hX hbl hbA I.1.2.2 (vp_in_nI (show i + 3 < L by omega) (by omega)) dL_law_339 ?_
        rw [nI_clamp (show i + 3 < 2 ^ 31 by omega)]
        refine lw_callM (As := [.int (xs (i + 1)), .int (xs (i + 2)), .int (xs (i + 3))]) (rest := [.int r1]) ⟨hx, hb, hml, hown, hts⟩ (c_X8_hours cy D adM l μ (xs (i + 1)) (xs (i + 2)) (xs (i + 3)) N P np T nt hR) (cwV 3 hts gL_law_X8_hours rfl rfl rfl (by decide +kernel) ⟨Nat.le_of_ble_eq_true rfl, Nat.le_of_ble_eq_true rfl⟩) E I rfl hl.1 rfl (lv_room (Nat.le_of_ble_eq_true rfl)) dL_law_340 ⟨Nat.le_of_ble_eq_true rfl, Nat.le_of_ble_eq_true rfl⟩ (fun r2 μ1 H locs h2 I => ?_)
        refine lv_icmp_eq (tgt := 721) hx hb dL_law_343 (by decide) (fun c_ => ?_) (fun c_ => ?_)
        · exact NEXT σ1 μ1 _ H locs I h1.2 h2.2 ls hl
        · exact absurd (h1.1.trans h2.1.symm) c_
      · rw [c_]
        refine lv_tableIn (tgt := 348) (off := 316) hx hb dL_law_32 (by decide) (by decide) (by decide) (by decide) ?_
        refine lv_aload_n hx hb dL_law_348 rfl (lv_at hl 1 rfl) ?_
        refine lw_callC (As := []) (rest := []) ⟨hx, hb, hml, hown, hts⟩ (c_X7_undo cy D adC l σ  N P np T nt hC) (cwV 0 hts gL_law_X7_undo rfl rfl rfl (by decide +kernel) ⟨Nat.le_of_ble_eq_true rfl, Nat.le_of_ble_eq_true rfl⟩) E I rfl hl.1 rfl (lv_room (Nat.le_of_ble_eq_true rfl)) dL_law_349 ⟨Nat.le_of_ble_eq_true rfl, Nat.le_of_ble_eq_true rfl⟩ (fun r1 σ1 H locs h1 I => ?_)
        refine lv_aload_n hx hb dL_law_352 rfl (lv_at hl 2 rfl) ?_
        refine lw_callM (As := []) (rest := [.int r1]) ⟨hx, hb, hml, hown, hts⟩ (c_X8_undo cy D adM l μ  N P np T nt hR) (cwV 0 hts gL_law_X8_undo rfl rfl rfl (by decide +kernel) ⟨Nat.le_of_ble_eq_true rfl, Nat.le_of_ble_eq_true rfl⟩) E I rfl hl.1 rfl (lv_room (Nat.le_of_ble_eq_true rfl)) dL_law_353 ⟨Nat.le_of_ble_eq_true rfl, Nat.le_of_ble_eq_true rfl⟩ (fun r2 μ1 H locs h2 I => ?_)
        refine lv_icmp_eq (tgt := 721) hx hb dL_law_356 (by decide) (fun c_ => ?_) (fun c_ => ?_)
        · exact NEXT σ1 μ1 _ H locs I h1.2 h2.2 ls hl
        · exact absurd (h1.1.trans h2.1.symm) c_
      · rw [c_]
        refine lv_tableIn (tgt := 361) (off := 329) hx hb dL_law_32 (by decide) (by decide) (by decide) (by decide) ?_
        refine lv_aload_n hx hb dL_law_361 rfl (lv_at hl 1 rfl) ?_
        refine lv_aload_n hx hb dL_law_362 rfl (lv_at hl 0 rfl) ?_
        refine lv_iload_n hx hb dL_law_363 rfl (lv_at hl 3 rfl) ?_
        refine lv_iconst (v := nI 1) hx hb dL_law_364 (by decide) ?_
        refine lv_iadd hx hb dL_law_365 ?_
        rw [nI_add]
        refine va_sld hx hb hX hbl hbA I.1.2.2 (vp_in_nI (show i + 1 < L by omega) (by omega)) dL_law_366 ?_
        rw [nI_clamp (show i + 1 < 2 ^ 31 by omega)]
        refine lv_aload_n hx hb dL_law_367 rfl (lv_at hl 0 rfl) ?_
        refine lv_iload_n hx hb dL_law_368 rfl (lv_at hl 3 rfl) ?_
        refine lv_iconst (v := nI 2) hx hb dL_law_369 (by decide) ?_
        refine lv_iadd hx hb dL_law_370 ?_
        rw [nI_add]
        refine va_sld hx hb hX hbl hbA I.1.2.2 (vp_in_nI (show i + 2 < L by omega) (by omega)) dL_law_371 ?_
        rw [nI_clamp (show i + 2 < 2 ^ 31 by omega)]
        refine lv_aload_n hx hb dL_law_372 rfl (lv_at hl 0 rfl) ?_
        refine lv_iload_n hx hb dL_law_373 rfl (lv_at hl 3 rfl) ?_
        refine lv_iconst (v := nI 3) hx hb dL_law_374 (by decide) ?_
        refine lv_iadd hx hb dL_law_375 ?_
        rw [nI_add]
        refine va_sld hx hb hX hbl hbA I.1.2.2 (vp_in_nI (show i + 3 < L by omega) (by omega)) dL_law_376 ?_
        rw [nI_clamp (show i + 3 < 2 ^ 31 by omega)]
        refine lw_callC (As := [.int (xs (i + 1)), .int (xs (i + 2)), .int (xs (i + 3))]) (rest := []) ⟨hx, hb, hml, hown, hts⟩ (c_X7_anchor cy D adC l σ (xs (i + 1)) (xs (i + 2)) (xs (i + 3)) N P np T nt hC) (cwV 3 hts gL_law_X7_anchor rfl rfl rfl (by decide +kernel) ⟨Nat.le_of_ble_eq_true rfl, Nat.le_of_ble_eq_true rfl⟩) E I rfl hl.1 rfl (lv_room (Nat.le_of_ble_eq_true rfl)) dL_law_377 ⟨Nat.le_of_ble_eq_true rfl, Nat.le_of_ble_eq_true rfl⟩ (fun r1 σ1 H locs h1 I => ?_)
        refine lv_aload_n hx hb dL_law_380 rfl (lv_at hl 2 rfl) ?_
        refine lv_aload_n hx hb dL_law_381 rfl (lv_at hl 0 rfl) ?_
        refine lv_iload_n hx hb dL_law_382 rfl (lv_at hl 3 rfl) ?_
        refine lv_iconst (v := nI 1) hx hb dL_law_383 (by decide) ?_
        refine lv_iadd hx hb dL_law_384 ?_
        rw [nI_add]
        refine va_sld hx hb hX hbl hbA I.1.2.2 (vp_in_nI (show i + 1 < L by omega) (by omega)) dL_law_385 ?_
        rw [nI_clamp (show i + 1 < 2 ^ 31 by omega)]
        refine lv_aload_n hx hb dL_law_386 rfl (lv_at hl 0 rfl) ?_
        refine lv_iload_n hx hb dL_law_387 rfl (lv_at hl 3 rfl) ?_
        refine lv_iconst (v := nI 2) hx hb dL_law_388 (by decide) ?_
        refine lv_iadd hx hb dL_law_389 ?_
        rw [nI_add]
        refine va_sld hx hb hX hbl hbA I.1.2.2 (vp_in_nI (show i + 2 < L by omega) (by omega)) dL_law_390 ?_
        rw [nI_clamp (show i + 2 < 2 ^ 31 by omega)]
        refine lv_aload_n hx hb dL_law_391 rfl (lv_at hl 0 rfl) ?_
        refine lv_iload_n hx hb dL_law_392 rfl (lv_at hl 3 rfl) ?_
        refine lv_iconst (v := nI 3) hx hb dL_law_393 (by decide) ?_
        refine lv_iadd hx hb dL_law_394 ?_
        rw [nI_add]
        refine va_sld hx hb hX hbl hbA I.1.2.2 (vp_in_nI (show i + 3 < L by omega) (by omega)) dL_law_395 ?_
        rw [nI_clamp (show i + 3 < 2 ^ 31 by omega)]
        refine lw_callM (As := [.int (xs (i + 1)), .int (xs (i + 2)), .int (xs (i + 3))]) (rest := [.int r1]) ⟨hx, hb, hml, hown, hts⟩ (c_X8_anchor cy D adM l μ (xs (i + 1)) (xs (i + 2)) (xs (i + 3)) N P np T nt hR) (cwV 3 hts gL_law_X8_anchor rfl rfl rfl (by decide +kernel) ⟨Nat.le_of_ble_eq_true rfl, Nat.le_of_ble_eq_true rfl⟩) E I rfl hl.1 rfl (lv_room (Nat.le_of_ble_eq_true rfl)) dL_law_396 ⟨Nat.le_of_ble_eq_true rfl, Nat.le_of_ble_eq_true rfl⟩ (fun r2 μ1 H locs h2 I => ?_)
        refine lv_icmp_eq (tgt := 721) hx hb dL_law_399 (by decide) (fun c_ => ?_) (fun c_ => ?_)
        · exact NEXT σ1 μ1 _ H locs I h1.2 h2.2 ls hl
        · exact absurd (h1.1.trans h2.1.symm) c_
      · rw [c_]
        refine lv_tableIn (tgt := 404) (off := 372) hx hb dL_law_32 (by decide) (by decide) (by decide) (by decide) ?_
        refine lv_aload_n hx hb dL_law_404 rfl (lv_at hl 1 rfl) ?_
        refine lv_aload_n hx hb dL_law_405 rfl (lv_at hl 0 rfl) ?_
        refine lv_iload_n hx hb dL_law_406 rfl (lv_at hl 3 rfl) ?_
        refine lv_iconst (v := nI 1) hx hb dL_law_407 (by decide) ?_
        refine lv_iadd hx hb dL_law_408 ?_
        rw [nI_add]
        refine va_sld hx hb hX hbl hbA I.1.2.2 (vp_in_nI (show i + 1 < L by omega) (by omega)) dL_law_409 ?_
        rw [nI_clamp (show i + 1 < 2 ^ 31 by omega)]
        refine lv_aload_n hx hb dL_law_410 rfl (lv_at hl 0 rfl) ?_
        refine lv_iload_n hx hb dL_law_411 rfl (lv_at hl 3 rfl) ?_
        refine lv_iconst (v := nI 2) hx hb dL_law_412 (by decide) ?_
        refine lv_iadd hx hb dL_law_413 ?_
        rw [nI_add]
        refine va_sld hx hb hX hbl hbA I.1.2.2 (vp_in_nI (show i + 2 < L by omega) (by omega)) dL_law_414 ?_
        rw [nI_clamp (show i + 2 < 2 ^ 31 by omega)]
        refine lw_callC (As := [.int (xs (i + 1)), .int (xs (i + 2))]) (rest := []) ⟨hx, hb, hml, hown, hts⟩ (c_X7_ship cy D adC l σ (xs (i + 1)) (xs (i + 2)) N P np T nt hC) (cwV 2 hts gL_law_X7_ship rfl rfl rfl (by decide +kernel) ⟨Nat.le_of_ble_eq_true rfl, Nat.le_of_ble_eq_true rfl⟩) E I rfl hl.1 rfl (lv_room (Nat.le_of_ble_eq_true rfl)) dL_law_415 ⟨Nat.le_of_ble_eq_true rfl, Nat.le_of_ble_eq_true rfl⟩ (fun r1 σ1 H locs h1 I => ?_)
        refine lv_aload_n hx hb dL_law_418 rfl (lv_at hl 2 rfl) ?_
        refine lv_aload_n hx hb dL_law_419 rfl (lv_at hl 0 rfl) ?_
        refine lv_iload_n hx hb dL_law_420 rfl (lv_at hl 3 rfl) ?_
        refine lv_iconst (v := nI 1) hx hb dL_law_421 (by decide) ?_
        refine lv_iadd hx hb dL_law_422 ?_
        rw [nI_add]
        refine va_sld hx hb hX hbl hbA I.1.2.2 (vp_in_nI (show i + 1 < L by omega) (by omega)) dL_law_423 ?_
        rw [nI_clamp (show i + 1 < 2 ^ 31 by omega)]
        refine lv_aload_n hx hb dL_law_424 rfl (lv_at hl 0 rfl) ?_
        refine lv_iload_n hx hb dL_law_425 rfl (lv_at hl 3 rfl) ?_
        refine lv_iconst (v := nI 2) hx hb dL_law_426 (by decide) ?_
        refine lv_iadd hx hb dL_law_427 ?_
        rw [nI_add]
        refine va_sld hx hb hX hbl hbA I.1.2.2 (vp_in_nI (show i + 2 < L by omega) (by omega)) dL_law_428 ?_
        rw [nI_clamp (show i + 2 < 2 ^ 31 by omega)]
        refine lw_callM (As := [.int (xs (i + 1)), .int (xs (i + 2))]) (rest := [.int r1]) ⟨hx, hb, hml, hown, hts⟩ (c_X8_ship cy D adM l μ (xs (i + 1)) (xs (i + 2)) N P np T nt hR) (cwV 2 hts gL_law_X8_ship rfl rfl rfl (by decide +kernel) ⟨Nat.le_of_ble_eq_true rfl, Nat.le_of_ble_eq_true rfl⟩) E I rfl hl.1 rfl (lv_room (Nat.le_of_ble_eq_true rfl)) dL_law_429 ⟨Nat.le_of_ble_eq_true rfl, Nat.le_of_ble_eq_true rfl⟩ (fun r2 μ1 H locs h2 I => ?_)
        refine lv_icmp_eq (tgt := 721) hx hb dL_law_432 (by decide) (fun c_ => ?_) (fun c_ => ?_)
        · exact NEXT σ1 μ1 _ H locs I h1.2 h2.2 ls hl
        · exact absurd (h1.1.trans h2.1.symm) c_
      · rw [c_]
        refine lv_tableIn (tgt := 437) (off := 405) hx hb dL_law_32 (by decide) (by decide) (by decide) (by decide) ?_
        refine lv_aload_n hx hb dL_law_437 rfl (lv_at hl 1 rfl) ?_
        refine lv_aload_n hx hb dL_law_438 rfl (lv_at hl 0 rfl) ?_
        refine lv_iload_n hx hb dL_law_439 rfl (lv_at hl 3 rfl) ?_
        refine lv_iconst (v := nI 1) hx hb dL_law_440 (by decide) ?_
        refine lv_iadd hx hb dL_law_441 ?_
        rw [nI_add]
        refine va_sld hx hb hX hbl hbA I.1.2.2 (vp_in_nI (show i + 1 < L by omega) (by omega)) dL_law_442 ?_
        rw [nI_clamp (show i + 1 < 2 ^ 31 by omega)]
        refine lv_aload_n hx hb dL_law_443 rfl (lv_at hl 0 rfl) ?_
        refine lv_iload_n hx hb dL_law_444 rfl (lv_at hl 3 rfl) ?_
        refine lv_iconst (v := nI 2) hx hb dL_law_445 (by decide) ?_
        refine lv_iadd hx hb dL_law_446 ?_
        rw [nI_add]
        refine va_sld hx hb hX hbl hbA I.1.2.2 (vp_in_nI (show i + 2 < L by omega) (by omega)) dL_law_447 ?_
        rw [nI_clamp (show i + 2 < 2 ^ 31 by omega)]
        refine lv_aload_n hx hb dL_law_448 rfl (lv_at hl 0 rfl) ?_
        refine lv_iload_n hx hb dL_law_449 rfl (lv_at hl 3 rfl) ?_
        refine lv_iconst (v := nI 3) hx hb dL_law_450 (by decide) ?_
        refine lv_iadd hx hb dL_law_451 ?_
        rw [nI_add]
        refine va_sld hx hb hX hbl hbA I.1.2.2 (vp_in_nI (show i + 3 < L by omega) (by omega)) dL_law_452 ?_
        rw [nI_clamp (show i + 3 < 2 ^ 31 by omega)]
        refine lv_aload_n hx hb dL_law_453 rfl (lv_at hl 0 rfl) ?_
        refine lv_iload_n hx hb dL_law_454 rfl (lv_at hl 3 rfl) ?_
        refine lv_iconst (v := nI 4) hx hb dL_law_455 (by decide) ?_
        refine lv_iadd hx hb dL_law_456 ?_
        rw [nI_add]
        refine va_sld hx hb hX hbl hbA I.1.2.2 (vp_in_nI (show i + 4 < L by omega) (by omega)) dL_law_457 ?_
        rw [nI_clamp (show i + 4 < 2 ^ 31 by omega)]
        refine lw_callC (As := [.int (xs (i + 1)), .int (xs (i + 2)), .int (xs (i + 3)), .int (xs (i + 4))]) (rest := []) ⟨hx, hb, hml, hown, hts⟩ (c_X7_hangs cy D adC l σ (xs (i + 1)) (xs (i + 2)) (xs (i + 3)) (xs (i + 4)) N P np T nt hC) (cwV 4 hts gL_law_X7_hangs rfl rfl rfl (by decide +kernel) ⟨Nat.le_of_ble_eq_true rfl, Nat.le_of_ble_eq_true rfl⟩) E I rfl hl.1 rfl (lv_room (Nat.le_of_ble_eq_true rfl)) dL_law_458 ⟨Nat.le_of_ble_eq_true rfl, Nat.le_of_ble_eq_true rfl⟩ (fun r1 σ1 H locs h1 I => ?_)
        refine lv_aload_n hx hb dL_law_461 rfl (lv_at hl 2 rfl) ?_
        refine lv_aload_n hx hb dL_law_462 rfl (lv_at hl 0 rfl) ?_
        refine lv_iload_n hx hb dL_law_463 rfl (lv_at hl 3 rfl) ?_
        refine lv_iconst (v := nI 1) hx hb dL_law_464 (by decide) ?_
        refine lv_iadd hx hb dL_law_465 ?_
        rw [nI_add]
        refine va_sld hx hb hX hbl hbA I.1.2.2 (vp_in_nI (show i + 1 < L by omega) (by omega)) dL_law_466 ?_
        rw [nI_clamp (show i + 1 < 2 ^ 31 by omega)]
        refine lv_aload_n hx hb dL_law_467 rfl (lv_at hl 0 rfl) ?_
        refine lv_iload_n hx hb dL_law_468 rfl (lv_at hl 3 rfl) ?_
        refine lv_iconst (v := nI 2) hx hb dL_law_469 (by decide) ?_
        refine lv_iadd hx hb dL_law_470 ?_
        rw [nI_add]
        refine va_sld hx hb hX hbl hbA I.1.2.2 (vp_in_nI (show i + 2 < L by omega) (by omega)) dL_law_471 ?_
        rw [nI_clamp (show i + 2 < 2 ^ 31 by omega)]
        refine lv_aload_n hx hb dL_law_472 rfl (lv_at hl 0 rfl) ?_
        refine lv_iload_n hx hb dL_law_473 rfl (lv_at hl 3 rfl) ?_
        refine lv_iconst (v := nI 3) hx hb dL_law_474 (by decide) ?_
        refine lv_iadd hx hb dL_law_475 ?_
        rw [nI_add]
        refine va_sld hx hb hX hbl hbA I.1.2.2 (vp_in_nI (show i + 3 < L by omega) (by omega)) dL_law_476 ?_
        rw [nI_clamp (show i + 3 < 2 ^ 31 by omega)]
        refine lv_aload_n hx hb dL_law_477 rfl (lv_at hl 0 rfl) ?_
        refine lv_iload_n hx hb dL_law_478 rfl (lv_at hl 3 rfl) ?_
        refine lv_iconst (v := nI 4) hx hb dL_law_479 (by decide) ?_
        refine lv_iadd hx hb dL_law_480 ?_
        rw [nI_add]
        refine va_sld hx hb hX hbl hbA I.1.2.2 (vp_in_nI (show i + 4 < L by omega) (by omega)) dL_law_481 ?_
        rw [nI_clamp (show i + 4 < 2 ^ 31 by omega)]
        refine lw_callM (As := [.int (xs (i + 1)), .int (xs (i + 2)), .int (xs (i + 3)), .int (xs (i + 4))]) (rest := [.int r1]) ⟨hx, hb, hml, hown, hts⟩ (c_X8_hangs cy D adM l μ (xs (i + 1)) (xs (i + 2)) (xs (i + 3)) (xs (i + 4)) N P np T nt hR) (cwV 4 hts gL_law_X8_hangs rfl rfl rfl (by decide +kernel) ⟨Nat.le_of_ble_eq_true rfl, Nat.le_of_ble_eq_true rfl⟩) E I rfl hl.1 rfl (lv_room (Nat.le_of_ble_eq_true rfl)) dL_law_482 ⟨Nat.le_of_ble_eq_true rfl, Nat.le_of_ble_eq_true rfl⟩ (fun r2 μ1 H locs h2 I => ?_)
        refine lv_icmp_eq (tgt := 721) hx hb dL_law_485 (by decide) (fun c_ => ?_) (fun c_ => ?_)
        · exact NEXT σ1 μ1 _ H locs I h1.2 h2.2 ls hl
        · exact absurd (h1.1.trans h2.1.symm) c_
      · rw [c_]
        refine lv_tableIn (tgt := 490) (off := 458) hx hb dL_law_32 (by decide) (by decide) (by decide) (by decide) ?_
        refine lv_aload_n hx hb dL_law_490 rfl (lv_at hl 1 rfl) ?_
        refine lv_aload_n hx hb dL_law_491 rfl (lv_at hl 0 rfl) ?_
        refine lv_iload_n hx hb dL_law_492 rfl (lv_at hl 3 rfl) ?_
        refine lv_iconst (v := nI 1) hx hb dL_law_493 (by decide) ?_
        refine lv_iadd hx hb dL_law_494 ?_
        rw [nI_add]
        refine va_sld hx hb hX hbl hbA I.1.2.2 (vp_in_nI (show i + 1 < L by omega) (by omega)) dL_law_495 ?_
        rw [nI_clamp (show i + 1 < 2 ^ 31 by omega)]
        refine lv_aload_n hx hb dL_law_496 rfl (lv_at hl 0 rfl) ?_
        refine lv_iload_n hx hb dL_law_497 rfl (lv_at hl 3 rfl) ?_
        refine lv_iconst (v := nI 2) hx hb dL_law_498 (by decide) ?_
        refine lv_iadd hx hb dL_law_499 ?_
        rw [nI_add]
        refine va_sld hx hb hX hbl hbA I.1.2.2 (vp_in_nI (show i + 2 < L by omega) (by omega)) dL_law_500 ?_
        rw [nI_clamp (show i + 2 < 2 ^ 31 by omega)]
        refine lv_aload_n hx hb dL_law_501 rfl (lv_at hl 0 rfl) ?_
        refine lv_iload_n hx hb dL_law_502 rfl (lv_at hl 3 rfl) ?_
        refine lv_iconst (v := nI 3) hx hb dL_law_503 (by decide) ?_
        refine lv_iadd hx hb dL_law_504 ?_
        rw [nI_add]
        refine va_sld hx hb hX hbl hbA I.1.2.2 (vp_in_nI (show i + 3 < L by omega) (by omega)) dL_law_505 ?_
        rw [nI_clamp (show i + 3 < 2 ^ 31 by omega)]
        refine lw_callC (As := [.int (xs (i + 1)), .int (xs (i + 2)), .int (xs (i + 3))]) (rest := []) ⟨hx, hb, hml, hown, hts⟩ (c_X7_wind cy D adC l σ (xs (i + 1)) (xs (i + 2)) (xs (i + 3)) N P np T nt hC) (cwV 3 hts gL_law_X7_wind rfl rfl rfl (by decide +kernel) ⟨Nat.le_of_ble_eq_true rfl, Nat.le_of_ble_eq_true rfl⟩) E I rfl hl.1 rfl (lv_room (Nat.le_of_ble_eq_true rfl)) dL_law_506 ⟨Nat.le_of_ble_eq_true rfl, Nat.le_of_ble_eq_true rfl⟩ (fun r1 σ1 H locs h1 I => ?_)
        refine lv_aload_n hx hb dL_law_509 rfl (lv_at hl 2 rfl) ?_
        refine lv_aload_n hx hb dL_law_510 rfl (lv_at hl 0 rfl) ?_
        refine lv_iload_n hx hb dL_law_511 rfl (lv_at hl 3 rfl) ?_
        refine lv_iconst (v := nI 1) hx hb dL_law_512 (by decide) ?_
        refine lv_iadd hx hb dL_law_513 ?_
        rw [nI_add]
        refine va_sld hx hb hX hbl hbA I.1.2.2 (vp_in_nI (show i + 1 < L by omega) (by omega)) dL_law_514 ?_
        rw [nI_clamp (show i + 1 < 2 ^ 31 by omega)]
        refine lv_aload_n hx hb dL_law_515 rfl (lv_at hl 0 rfl) ?_
        refine lv_iload_n hx hb dL_law_516 rfl (lv_at hl 3 rfl) ?_
        refine lv_iconst (v := nI 2) hx hb dL_law_517 (by decide) ?_
        refine lv_iadd hx hb dL_law_518 ?_
        rw [nI_add]
        refine va_sld hx hb hX hbl hbA I.1.2.2 (vp_in_nI (show i + 2 < L by omega) (by omega)) dL_law_519 ?_
        rw [nI_clamp (show i + 2 < 2 ^ 31 by omega)]
        refine lv_aload_n hx hb dL_law_520 rfl (lv_at hl 0 rfl) ?_
        refine lv_iload_n hx hb dL_law_521 rfl (lv_at hl 3 rfl) ?_
        refine lv_iconst (v := nI 3) hx hb dL_law_522 (by decide) ?_
        refine lv_iadd hx hb dL_law_523 ?_
        rw [nI_add]
        refine va_sld hx hb hX hbl hbA I.1.2.2 (vp_in_nI (show i + 3 < L by omega) (by omega)) dL_law_524 ?_
        rw [nI_clamp (show i + 3 < 2 ^ 31 by omega)]
        refine lw_callM (As := [.int (xs (i + 1)), .int (xs (i + 2)), .int (xs (i + 3))]) (rest := [.int r1]) ⟨hx, hb, hml, hown, hts⟩ (c_X8_wind cy D adM l μ (xs (i + 1)) (xs (i + 2)) (xs (i + 3)) N P np T nt hR) (cwV 3 hts gL_law_X8_wind rfl rfl rfl (by decide +kernel) ⟨Nat.le_of_ble_eq_true rfl, Nat.le_of_ble_eq_true rfl⟩) E I rfl hl.1 rfl (lv_room (Nat.le_of_ble_eq_true rfl)) dL_law_525 ⟨Nat.le_of_ble_eq_true rfl, Nat.le_of_ble_eq_true rfl⟩ (fun r2 μ1 H locs h2 I => ?_)
        refine lv_icmp_eq (tgt := 721) hx hb dL_law_528 (by decide) (fun c_ => ?_) (fun c_ => ?_)
        · exact NEXT σ1 μ1 _ H locs I h1.2 h2.2 ls hl
        · exact absurd (h1.1.trans h2.1.symm) c_
      · rw [c_]
        refine lv_tableIn (tgt := 533) (off := 501) hx hb dL_law_32 (by decide) (by decide) (by decide) (by decide) ?_
        refine lv_aload_n hx hb dL_law_533 rfl (lv_at hl 1 rfl) ?_
        refine lv_aload_n hx hb dL_law_534 rfl (lv_at hl 0 rfl) ?_
        refine lv_iload_n hx hb dL_law_535 rfl (lv_at hl 3 rfl) ?_
        refine lv_iconst (v := nI 1) hx hb dL_law_536 (by decide) ?_
        refine lv_iadd hx hb dL_law_537 ?_
        rw [nI_add]
        refine va_sld hx hb hX hbl hbA I.1.2.2 (vp_in_nI (show i + 1 < L by omega) (by omega)) dL_law_538 ?_
        rw [nI_clamp (show i + 1 < 2 ^ 31 by omega)]
        refine lv_aload_n hx hb dL_law_539 rfl (lv_at hl 0 rfl) ?_
        refine lv_iload_n hx hb dL_law_540 rfl (lv_at hl 3 rfl) ?_
        refine lv_iconst (v := nI 2) hx hb dL_law_541 (by decide) ?_
        refine lv_iadd hx hb dL_law_542 ?_
        rw [nI_add]
        refine va_sld hx hb hX hbl hbA I.1.2.2 (vp_in_nI (show i + 2 < L by omega) (by omega)) dL_law_543 ?_
        rw [nI_clamp (show i + 2 < 2 ^ 31 by omega)]
        refine lv_aload_n hx hb dL_law_544 rfl (lv_at hl 0 rfl) ?_
        refine lv_iload_n hx hb dL_law_545 rfl (lv_at hl 3 rfl) ?_
        refine lv_iconst (v := nI 3) hx hb dL_law_546 (by decide) ?_
        refine lv_iadd hx hb dL_law_547 ?_
        rw [nI_add]
        refine va_sld hx hb hX hbl hbA I.1.2.2 (vp_in_nI (show i + 3 < L by omega) (by omega)) dL_law_548 ?_
        rw [nI_clamp (show i + 3 < 2 ^ 31 by omega)]
        refine lw_callC (As := [.int (xs (i + 1)), .int (xs (i + 2)), .int (xs (i + 3))]) (rest := []) ⟨hx, hb, hml, hown, hts⟩ (c_X7_apart cy D adC l σ (xs (i + 1)) (xs (i + 2)) (xs (i + 3)) N P np T nt hC) (cwV 3 hts gL_law_X7_apart rfl rfl rfl (by decide +kernel) ⟨Nat.le_of_ble_eq_true rfl, Nat.le_of_ble_eq_true rfl⟩) E I rfl hl.1 rfl (lv_room (Nat.le_of_ble_eq_true rfl)) dL_law_549 ⟨Nat.le_of_ble_eq_true rfl, Nat.le_of_ble_eq_true rfl⟩ (fun r1 σ1 H locs h1 I => ?_)
        refine lv_aload_n hx hb dL_law_552 rfl (lv_at hl 2 rfl) ?_
        refine lv_aload_n hx hb dL_law_553 rfl (lv_at hl 0 rfl) ?_
        refine lv_iload_n hx hb dL_law_554 rfl (lv_at hl 3 rfl) ?_
        refine lv_iconst (v := nI 1) hx hb dL_law_555 (by decide) ?_
        refine lv_iadd hx hb dL_law_556 ?_
        rw [nI_add]
        refine va_sld hx hb hX hbl hbA I.1.2.2 (vp_in_nI (show i + 1 < L by omega) (by omega)) dL_law_557 ?_
        rw [nI_clamp (show i + 1 < 2 ^ 31 by omega)]
        refine lv_aload_n hx hb dL_law_558 rfl (lv_at hl 0 rfl) ?_
        refine lv_iload_n hx hb dL_law_559 rfl (lv_at hl 3 rfl) ?_
        refine lv_iconst (v := nI 2) hx hb dL_law_560 (by decide) ?_
        refine lv_iadd hx hb dL_law_561 ?_
        rw [nI_add]
        refine va_sld hx hb hX hbl hbA I.1.2.2 (vp_in_nI (show i + 2 < L by omega) (by omega)) dL_law_562 ?_
        rw [nI_clamp (show i + 2 < 2 ^ 31 by omega)]
        refine lv_aload_n hx hb dL_law_563 rfl (lv_at hl 0 rfl) ?_
        refine lv_iload_n hx hb dL_law_564 rfl (lv_at hl 3 rfl) ?_
        refine lv_iconst (v := nI 3) hx hb dL_law_565 (by decide) ?_
        refine lv_iadd hx hb dL_law_566 ?_
        rw [nI_add]
        refine va_sld hx hb hX hbl hbA I.1.2.2 (vp_in_nI (show i + 3 < L by omega) (by omega)) dL_law_567 ?_
        rw [nI_clamp (show i + 3 < 2 ^ 31 by omega)]
        refine lw_callM (As := [.int (xs (i + 1)), .int (xs (i + 2)), .int (xs (i + 3))]) (rest := [.int r1]) ⟨hx, hb, hml, hown, hts⟩ (c_X8_apart cy D adM l μ (xs (i + 1)) (xs (i + 2)) (xs (i + 3)) N P np T nt hR) (cwV 3 hts gL_law_X8_apart rfl rfl rfl (by decide +kernel) ⟨Nat.le_of_ble_eq_true rfl, Nat.le_of_ble_eq_true rfl⟩) E I rfl hl.1 rfl (lv_room (Nat.le_of_ble_eq_true rfl)) dL_law_568 ⟨Nat.le_of_ble_eq_true rfl, Nat.le_of_ble_eq_true rfl⟩ (fun r2 μ1 H locs h2 I => ?_)
        refine lv_icmp_eq (tgt := 721) hx hb dL_law_571 (by decide) (fun c_ => ?_) (fun c_ => ?_)
        · exact NEXT σ1 μ1 _ H locs I h1.2 h2.2 ls hl
        · exact absurd (h1.1.trans h2.1.symm) c_
      · rw [c_]
        refine lv_tableIn (tgt := 576) (off := 544) hx hb dL_law_32 (by decide) (by decide) (by decide) (by decide) ?_
        refine lv_aload_n hx hb dL_law_576 rfl (lv_at hl 1 rfl) ?_
        refine lv_aload_n hx hb dL_law_577 rfl (lv_at hl 0 rfl) ?_
        refine lv_iload_n hx hb dL_law_578 rfl (lv_at hl 3 rfl) ?_
        refine lv_iconst (v := nI 1) hx hb dL_law_579 (by decide) ?_
        refine lv_iadd hx hb dL_law_580 ?_
        rw [nI_add]
        refine va_sld hx hb hX hbl hbA I.1.2.2 (vp_in_nI (show i + 1 < L by omega) (by omega)) dL_law_581 ?_
        rw [nI_clamp (show i + 1 < 2 ^ 31 by omega)]
        refine lv_aload_n hx hb dL_law_582 rfl (lv_at hl 0 rfl) ?_
        refine lv_iload_n hx hb dL_law_583 rfl (lv_at hl 3 rfl) ?_
        refine lv_iconst (v := nI 2) hx hb dL_law_584 (by decide) ?_
        refine lv_iadd hx hb dL_law_585 ?_
        rw [nI_add]
        refine va_sld hx hb hX hbl hbA I.1.2.2 (vp_in_nI (show i + 2 < L by omega) (by omega)) dL_law_586 ?_
        rw [nI_clamp (show i + 2 < 2 ^ 31 by omega)]
        refine lw_callC (As := [.int (xs (i + 1)), .int (xs (i + 2))]) (rest := []) ⟨hx, hb, hml, hown, hts⟩ (c_X7_fewest cy D adC l σ (xs (i + 1)) (xs (i + 2)) N P np T nt hC) (cwV 2 hts gL_law_X7_fewest rfl rfl rfl (by decide +kernel) ⟨Nat.le_of_ble_eq_true rfl, Nat.le_of_ble_eq_true rfl⟩) E I rfl hl.1 rfl (lv_room (Nat.le_of_ble_eq_true rfl)) dL_law_587 ⟨Nat.le_of_ble_eq_true rfl, Nat.le_of_ble_eq_true rfl⟩ (fun r1 σ1 H locs h1 I => ?_)
        refine lv_aload_n hx hb dL_law_590 rfl (lv_at hl 2 rfl) ?_
        refine lv_aload_n hx hb dL_law_591 rfl (lv_at hl 0 rfl) ?_
        refine lv_iload_n hx hb dL_law_592 rfl (lv_at hl 3 rfl) ?_
        refine lv_iconst (v := nI 1) hx hb dL_law_593 (by decide) ?_
        refine lv_iadd hx hb dL_law_594 ?_
        rw [nI_add]
        refine va_sld hx hb hX hbl hbA I.1.2.2 (vp_in_nI (show i + 1 < L by omega) (by omega)) dL_law_595 ?_
        rw [nI_clamp (show i + 1 < 2 ^ 31 by omega)]
        refine lv_aload_n hx hb dL_law_596 rfl (lv_at hl 0 rfl) ?_
        refine lv_iload_n hx hb dL_law_597 rfl (lv_at hl 3 rfl) ?_
        refine lv_iconst (v := nI 2) hx hb dL_law_598 (by decide) ?_
        refine lv_iadd hx hb dL_law_599 ?_
        rw [nI_add]
        refine va_sld hx hb hX hbl hbA I.1.2.2 (vp_in_nI (show i + 2 < L by omega) (by omega)) dL_law_600 ?_
        rw [nI_clamp (show i + 2 < 2 ^ 31 by omega)]
        refine lw_callM (As := [.int (xs (i + 1)), .int (xs (i + 2))]) (rest := [.int r1]) ⟨hx, hb, hml, hown, hts⟩ (c_X8_fewest cy D adM l μ (xs (i + 1)) (xs (i + 2)) N P np T nt hR) (cwV 2 hts gL_law_X8_fewest rfl rfl rfl (by decide +kernel) ⟨Nat.le_of_ble_eq_true rfl, Nat.le_of_ble_eq_true rfl⟩) E I rfl hl.1 rfl (lv_room (Nat.le_of_ble_eq_true rfl)) dL_law_601 ⟨Nat.le_of_ble_eq_true rfl, Nat.le_of_ble_eq_true rfl⟩ (fun r2 μ1 H locs h2 I => ?_)
        refine lv_icmp_eq (tgt := 721) hx hb dL_law_604 (by decide) (fun c_ => ?_) (fun c_ => ?_)
        · exact NEXT σ1 μ1 _ H locs I h1.2 h2.2 ls hl
        · exact absurd (h1.1.trans h2.1.symm) c_
      · rw [c_]
        refine lv_tableIn (tgt := 609) (off := 577) hx hb dL_law_32 (by decide) (by decide) (by decide) (by decide) ?_
        refine lv_aload_n hx hb dL_law_609 rfl (lv_at hl 1 rfl) ?_
        refine lv_aload_n hx hb dL_law_610 rfl (lv_at hl 0 rfl) ?_
        refine lv_iload_n hx hb dL_law_611 rfl (lv_at hl 3 rfl) ?_
        refine lv_iconst (v := nI 1) hx hb dL_law_612 (by decide) ?_
        refine lv_iadd hx hb dL_law_613 ?_
        rw [nI_add]
        refine va_sld hx hb hX hbl hbA I.1.2.2 (vp_in_nI (show i + 1 < L by omega) (by omega)) dL_law_614 ?_
        rw [nI_clamp (show i + 1 < 2 ^ 31 by omega)]
        refine lw_callC (As := [.int (xs (i + 1))]) (rest := []) ⟨hx, hb, hml, hown, hts⟩ (c_X7_tooMuch cy D adC l σ (xs (i + 1)) N P np T nt hC) (cwV 1 hts gL_law_X7_tooMuch rfl rfl rfl (by decide +kernel) ⟨Nat.le_of_ble_eq_true rfl, Nat.le_of_ble_eq_true rfl⟩) E I rfl hl.1 rfl (lv_room (Nat.le_of_ble_eq_true rfl)) dL_law_615 ⟨Nat.le_of_ble_eq_true rfl, Nat.le_of_ble_eq_true rfl⟩ (fun r1 σ1 H locs h1 I => ?_)
        refine lv_aload_n hx hb dL_law_618 rfl (lv_at hl 2 rfl) ?_
        refine lv_aload_n hx hb dL_law_619 rfl (lv_at hl 0 rfl) ?_
        refine lv_iload_n hx hb dL_law_620 rfl (lv_at hl 3 rfl) ?_
        refine lv_iconst (v := nI 1) hx hb dL_law_621 (by decide) ?_
        refine lv_iadd hx hb dL_law_622 ?_
        rw [nI_add]
        refine va_sld hx hb hX hbl hbA I.1.2.2 (vp_in_nI (show i + 1 < L by omega) (by omega)) dL_law_623 ?_
        rw [nI_clamp (show i + 1 < 2 ^ 31 by omega)]
        refine lw_callM (As := [.int (xs (i + 1))]) (rest := [.int r1]) ⟨hx, hb, hml, hown, hts⟩ (c_X8_tooMuch cy D adM l μ (xs (i + 1)) N P np T nt hR) (cwV 1 hts gL_law_X8_tooMuch rfl rfl rfl (by decide +kernel) ⟨Nat.le_of_ble_eq_true rfl, Nat.le_of_ble_eq_true rfl⟩) E I rfl hl.1 rfl (lv_room (Nat.le_of_ble_eq_true rfl)) dL_law_624 ⟨Nat.le_of_ble_eq_true rfl, Nat.le_of_ble_eq_true rfl⟩ (fun r2 μ1 H locs h2 I => ?_)
        refine lv_icmp_eq (tgt := 721) hx hb dL_law_627 (by decide) (fun c_ => ?_) (fun c_ => ?_)
        · exact NEXT σ1 μ1 _ H locs I h1.2 h2.2 ls hl
        · exact absurd (h1.1.trans h2.1.symm) c_
      · rw [c_]
        refine lv_tableIn (tgt := 632) (off := 600) hx hb dL_law_32 (by decide) (by decide) (by decide) (by decide) ?_
        refine lv_aload_n hx hb dL_law_632 rfl (lv_at hl 1 rfl) ?_
        refine lv_aload_n hx hb dL_law_633 rfl (lv_at hl 0 rfl) ?_
        refine lv_iload_n hx hb dL_law_634 rfl (lv_at hl 3 rfl) ?_
        refine lv_iconst (v := nI 1) hx hb dL_law_635 (by decide) ?_
        refine lv_iadd hx hb dL_law_636 ?_
        rw [nI_add]
        refine va_sld hx hb hX hbl hbA I.1.2.2 (vp_in_nI (show i + 1 < L by omega) (by omega)) dL_law_637 ?_
        rw [nI_clamp (show i + 1 < 2 ^ 31 by omega)]
        refine lv_aload_n hx hb dL_law_638 rfl (lv_at hl 0 rfl) ?_
        refine lv_iload_n hx hb dL_law_639 rfl (lv_at hl 3 rfl) ?_
        refine lv_iconst (v := nI 2) hx hb dL_law_640 (by decide) ?_
        refine lv_iadd hx hb dL_law_641 ?_
        rw [nI_add]
        refine va_sld hx hb hX hbl hbA I.1.2.2 (vp_in_nI (show i + 2 < L by omega) (by omega)) dL_law_642 ?_
        rw [nI_clamp (show i + 2 < 2 ^ 31 by omega)]
        refine lw_callC (As := [.int (xs (i + 1)), .int (xs (i + 2))]) (rest := []) ⟨hx, hb, hml, hown, hts⟩ (c_X7_close cy D adC l σ (xs (i + 1)) (xs (i + 2)) N P np T nt hC) (cwV 2 hts gL_law_X7_close rfl rfl rfl (by decide +kernel) ⟨Nat.le_of_ble_eq_true rfl, Nat.le_of_ble_eq_true rfl⟩) E I rfl hl.1 rfl (lv_room (Nat.le_of_ble_eq_true rfl)) dL_law_643 ⟨Nat.le_of_ble_eq_true rfl, Nat.le_of_ble_eq_true rfl⟩ (fun r1 σ1 H locs h1 I => ?_)
        refine lv_aload_n hx hb dL_law_646 rfl (lv_at hl 2 rfl) ?_
        refine lv_aload_n hx hb dL_law_647 rfl (lv_at hl 0 rfl) ?_
        refine lv_iload_n hx hb dL_law_648 rfl (lv_at hl 3 rfl) ?_
        refine lv_iconst (v := nI 1) hx hb dL_law_649 (by decide) ?_
        refine lv_iadd hx hb dL_law_650 ?_
        rw [nI_add]
        refine va_sld hx hb hX hbl hbA I.1.2.2 (vp_in_nI (show i + 1 < L by omega) (by omega)) dL_law_651 ?_
        rw [nI_clamp (show i + 1 < 2 ^ 31 by omega)]
        refine lv_aload_n hx hb dL_law_652 rfl (lv_at hl 0 rfl) ?_
        refine lv_iload_n hx hb dL_law_653 rfl (lv_at hl 3 rfl) ?_
        refine lv_iconst (v := nI 2) hx hb dL_law_654 (by decide) ?_
        refine lv_iadd hx hb dL_law_655 ?_
        rw [nI_add]
        refine va_sld hx hb hX hbl hbA I.1.2.2 (vp_in_nI (show i + 2 < L by omega) (by omega)) dL_law_656 ?_
        rw [nI_clamp (show i + 2 < 2 ^ 31 by omega)]
        refine lw_callM (As := [.int (xs (i + 1)), .int (xs (i + 2))]) (rest := [.int r1]) ⟨hx, hb, hml, hown, hts⟩ (c_X8_close cy D adM l μ (xs (i + 1)) (xs (i + 2)) N P np T nt hR) (cwV 2 hts gL_law_X8_close rfl rfl rfl (by decide +kernel) ⟨Nat.le_of_ble_eq_true rfl, Nat.le_of_ble_eq_true rfl⟩) E I rfl hl.1 rfl (lv_room (Nat.le_of_ble_eq_true rfl)) dL_law_657 ⟨Nat.le_of_ble_eq_true rfl, Nat.le_of_ble_eq_true rfl⟩ (fun r2 μ1 H locs h2 I => ?_)
        refine lv_icmp_eq (tgt := 721) hx hb dL_law_660 (by decide) (fun c_ => ?_) (fun c_ => ?_)
        · exact NEXT σ1 μ1 _ H locs I h1.2 h2.2 ls hl
        · exact absurd (h1.1.trans h2.1.symm) c_
      · rw [c_]
        refine lv_tableIn (tgt := 665) (off := 633) hx hb dL_law_32 (by decide) (by decide) (by decide) (by decide) ?_
        refine lv_aload_n hx hb dL_law_665 rfl (lv_at hl 1 rfl) ?_
        refine lv_aload_n hx hb dL_law_666 rfl (lv_at hl 0 rfl) ?_
        refine lv_iload_n hx hb dL_law_667 rfl (lv_at hl 3 rfl) ?_
        refine lv_iconst (v := nI 1) hx hb dL_law_668 (by decide) ?_
        refine lv_iadd hx hb dL_law_669 ?_
        rw [nI_add]
        refine va_sld hx hb hX hbl hbA I.1.2.2 (vp_in_nI (show i + 1 < L by omega) (by omega)) dL_law_670 ?_
        rw [nI_clamp (show i + 1 < 2 ^ 31 by omega)]
        refine lv_aload_n hx hb dL_law_671 rfl (lv_at hl 0 rfl) ?_
        refine lv_iload_n hx hb dL_law_672 rfl (lv_at hl 3 rfl) ?_
        refine lv_iconst (v := nI 2) hx hb dL_law_673 (by decide) ?_
        refine lv_iadd hx hb dL_law_674 ?_
        rw [nI_add]
        refine va_sld hx hb hX hbl hbA I.1.2.2 (vp_in_nI (show i + 2 < L by omega) (by omega)) dL_law_675 ?_
        rw [nI_clamp (show i + 2 < 2 ^ 31 by omega)]
        refine lw_callC (As := [.int (xs (i + 1)), .int (xs (i + 2))]) (rest := []) ⟨hx, hb, hml, hown, hts⟩ (c_X7_all cy D adC l σ (xs (i + 1)) (xs (i + 2)) N P np T nt hC) (cwV 2 hts gL_law_X7_all rfl rfl rfl (by decide +kernel) ⟨Nat.le_of_ble_eq_true rfl, Nat.le_of_ble_eq_true rfl⟩) E I rfl hl.1 rfl (lv_room (Nat.le_of_ble_eq_true rfl)) dL_law_676 ⟨Nat.le_of_ble_eq_true rfl, Nat.le_of_ble_eq_true rfl⟩ (fun r1 σ1 H locs h1 I => ?_)
        refine lv_aload_n hx hb dL_law_679 rfl (lv_at hl 2 rfl) ?_
        refine lv_aload_n hx hb dL_law_680 rfl (lv_at hl 0 rfl) ?_
        refine lv_iload_n hx hb dL_law_681 rfl (lv_at hl 3 rfl) ?_
        refine lv_iconst (v := nI 1) hx hb dL_law_682 (by decide) ?_
        refine lv_iadd hx hb dL_law_683 ?_
        rw [nI_add]
        refine va_sld hx hb hX hbl hbA I.1.2.2 (vp_in_nI (show i + 1 < L by omega) (by omega)) dL_law_684 ?_
        rw [nI_clamp (show i + 1 < 2 ^ 31 by omega)]
        refine lv_aload_n hx hb dL_law_685 rfl (lv_at hl 0 rfl) ?_
        refine lv_iload_n hx hb dL_law_686 rfl (lv_at hl 3 rfl) ?_
        refine lv_iconst (v := nI 2) hx hb dL_law_687 (by decide) ?_
        refine lv_iadd hx hb dL_law_688 ?_
        rw [nI_add]
        refine va_sld hx hb hX hbl hbA I.1.2.2 (vp_in_nI (show i + 2 < L by omega) (by omega)) dL_law_689 ?_
        rw [nI_clamp (show i + 2 < 2 ^ 31 by omega)]
        refine lw_callM (As := [.int (xs (i + 1)), .int (xs (i + 2))]) (rest := [.int r1]) ⟨hx, hb, hml, hown, hts⟩ (c_X8_all cy D adM l μ (xs (i + 1)) (xs (i + 2)) N P np T nt hR) (cwV 2 hts gL_law_X8_all rfl rfl rfl (by decide +kernel) ⟨Nat.le_of_ble_eq_true rfl, Nat.le_of_ble_eq_true rfl⟩) E I rfl hl.1 rfl (lv_room (Nat.le_of_ble_eq_true rfl)) dL_law_690 ⟨Nat.le_of_ble_eq_true rfl, Nat.le_of_ble_eq_true rfl⟩ (fun r2 μ1 H locs h2 I => ?_)
        refine lv_icmp_eq (tgt := 721) hx hb dL_law_693 (by decide) (fun c_ => ?_) (fun c_ => ?_)
        · exact NEXT σ1 μ1 _ H locs I h1.2 h2.2 ls hl
        · exact absurd (h1.1.trans h2.1.symm) c_
      · rw [c_]
        refine lv_tableIn (tgt := 698) (off := 666) hx hb dL_law_32 (by decide) (by decide) (by decide) (by decide) ?_
        refine lv_aload_n hx hb dL_law_698 rfl (lv_at hl 1 rfl) ?_
        refine lv_aload_n hx hb dL_law_699 rfl (lv_at hl 0 rfl) ?_
        refine lv_iload_n hx hb dL_law_700 rfl (lv_at hl 3 rfl) ?_
        refine lv_iconst (v := nI 1) hx hb dL_law_701 (by decide) ?_
        refine lv_iadd hx hb dL_law_702 ?_
        rw [nI_add]
        refine va_sld hx hb hX hbl hbA I.1.2.2 (vp_in_nI (show i + 1 < L by omega) (by omega)) dL_law_703 ?_
        rw [nI_clamp (show i + 1 < 2 ^ 31 by omega)]
        refine lw_callC (As := [.int (xs (i + 1))]) (rest := []) ⟨hx, hb, hml, hown, hts⟩ (c_X7_count cy D adC l σ (xs (i + 1)) N P np T nt hC) (cwV 1 hts gL_law_X7_count rfl rfl rfl (by decide +kernel) ⟨Nat.le_of_ble_eq_true rfl, Nat.le_of_ble_eq_true rfl⟩) E I rfl hl.1 rfl (lv_room (Nat.le_of_ble_eq_true rfl)) dL_law_704 ⟨Nat.le_of_ble_eq_true rfl, Nat.le_of_ble_eq_true rfl⟩ (fun r1 σ1 H locs h1 I => ?_)
        refine lv_aload_n hx hb dL_law_707 rfl (lv_at hl 2 rfl) ?_
        refine lv_aload_n hx hb dL_law_708 rfl (lv_at hl 0 rfl) ?_
        refine lv_iload_n hx hb dL_law_709 rfl (lv_at hl 3 rfl) ?_
        refine lv_iconst (v := nI 1) hx hb dL_law_710 (by decide) ?_
        refine lv_iadd hx hb dL_law_711 ?_
        rw [nI_add]
        refine va_sld hx hb hX hbl hbA I.1.2.2 (vp_in_nI (show i + 1 < L by omega) (by omega)) dL_law_712 ?_
        rw [nI_clamp (show i + 1 < 2 ^ 31 by omega)]
        refine lw_callM (As := [.int (xs (i + 1))]) (rest := [.int r1]) ⟨hx, hb, hml, hown, hts⟩ (c_X8_count cy D adM l μ (xs (i + 1)) N P np T nt hR) (cwV 1 hts gL_law_X8_count rfl rfl rfl (by decide +kernel) ⟨Nat.le_of_ble_eq_true rfl, Nat.le_of_ble_eq_true rfl⟩) E I rfl hl.1 rfl (lv_room (Nat.le_of_ble_eq_true rfl)) dL_law_713 ⟨Nat.le_of_ble_eq_true rfl, Nat.le_of_ble_eq_true rfl⟩ (fun r2 μ1 H locs h2 I => ?_)
        refine lv_icmp_eq (tgt := 721) hx hb dL_law_716 (by decide) (fun c_ => ?_) (fun c_ => ?_)
        · exact NEXT σ1 μ1 _ H locs I h1.2 h2.2 ls hl
        · exact absurd (h1.1.trans h2.1.symm) c_

/-! THE TEXT AT FIRST: String's own methods -/
def kS (a v : Nat) (A : Nat → Prop) (U : State) (H : Heap) : Prop := va_O "java/lang/String" a A U H ∧ va_OF "java/lang/String" "coder" "B" (.int 0) a A U H ∧ va_OF "java/lang/String" "value" "[B" (.ref v) a A U H ∧ va_T .byte v 83 (fun j => .int (nI (T0 j))) A U H ∧ va_Z "java/lang/String" "COMPACT_STRINGS" "Z" (.int 1) A U H ∧ va_Zq "jdk/internal/util/Preconditions" "SIOOBE_FORMATTER" "Ljava/util/function/BiFunction;" A U H
theorem kS_to {a v : Nat} {A B : Nat → Prop} {s U : State} {H H1 : Heap} (h : kS a v A s H) (hvm : s.vm.Alike U.vm) (hq : ∀ a : Nat, a < H.size → ¬ A a → H1[a]? = H[a]?) (hAB : ∀ q, B q → A q) : kS a v B U H1 :=
  ⟨((h.1.kept hq).moved hvm).narrow hAB, ((h.2.1.kept hq).moved hvm).narrow hAB, ((h.2.2.1.kept hq).moved hvm).narrow hAB, ((h.2.2.2.1.kept hq).moved hvm).narrow hAB, ((h.2.2.2.2.1.kept hq).moved hvm).narrow hAB, ((h.2.2.2.2.2.kept hq).moved hvm).narrow hAB⟩
def jN : Nat → Prop := fun _ => False
theorem jS {A : Nat → Prop} {H0 H : Heap} {locs : List Loc} (h : va_S jN H0 H locs) : va_S A H0 H locs := ⟨h.1, fun q h1 _ => h.2.1 q h1 (fun f => f), fun l hl => (h.2.2 l hl).elim⟩
def jQ (post : Int32 → Prop) : Array Value → State → Outcome → State → Prop := va_Qi (fun r (_ : Unit) => post r) (fun _ _ => True) jN
def jV : Array Value → State → Outcome → State → Prop := va_Qv (fun _ : Unit => True) (fun _ _ => True) jN
theorem j_entry {l : Launch} {y : MethodName} {ws ws' : List Cond} {rm : Room} {av : List Value} {Pp : State → Prop} {Qc : Array Value → State → Outcome → State → Prop} {cc : ByteArray} {maxL : Nat} {ret : Option FieldType} (hy : plainName y.cls = true) (hw : ws = Cond.code y cc maxL ret :: ws') (hlen : (lg_sl av).length ≤ maxL)
    (body : ∀ (p : Program) (e : Env) (s : State) (m : MethodId) (below : List Frame) (meth : Method) (c : Code), p.tables.exec = Jvm.exec → c.code = cc → meth.sig.returnType = ret → c.maxLocals = maxL → s.vm.findClass y.cls = some m.cls → (∀ w ∈ ws, w.before av.toArray s = true) → meth.locks = false → Pp s → ∀ ls : Array Slot, lv_has ls maxL (lv_args 0 av) →
      W p l e (headSpec ws rm).room s m av.toArray below meth c s.heap [] 0 0 (MQ below Qc av.toArray s 0 0 jN) (F0 m 0 ls [])) : Met l y ws rm (va_Pc av Pp) Qc 0 0 jN := by
  refine Met.ofW (cc := cc) (maxL := maxL) (ret := ret) hy hw ?_
  intro p e s m args below meth c s₁ B hml hv
  obtain ⟨rfl, hP⟩ := hv
  have hl := lv_entry av (n := maxL) hlen
  rw [lg_entry_eq]
  exact body p e s m below meth c B.exec B.bytes B.returns hml (findClass_of_methodNamed B.named) (atoms_spec (ws := ws) B.pre) B.notSynchronized hP _ hl
theorem T0_le : ∀ k, k < 83 → 32 ≤ T0 k ∧ T0 k ≤ 126 := by decide +kernel
theorem T0_byte : ∀ k, k < 83 → nI (T0 k) &&& nI 255 = nI (T0 k) := by decide +kernel
theorem T0_char : ∀ k, k < 83 → ((nI (T0 k)).toUInt32 % 65536).toInt32 = nI (T0 k) := by decide +kernel
theorem T0_nar : ∀ k, k < 83 → narrow .char (.int (nI (T0 k))) = .int (nI (T0 k)) := fun k hk => (pk_charN (by have := T0_le k hk; omega)).1
theorem j_blind {av : List Value} {a v : Nat} {A : Nat → Prop} : FrameBlind (va_Pc av (fun U => kS a v A U U.heap)) := fun x U g mk q => ⟨q.1, kS_to q.2 (Vm.Alike.refl U.vm) (fun _ _ _ => rfl) (fun _ h => h)⟩
theorem j_pre {av : List Value} {a v : Nat} {A : Nat → Prop} {s : State} {H : Heap} {locs : List Loc} (h : kS a v A s s.heap) (hS : va_S A s.heap H locs) : ∀ U : State, U.heap = H → s.WarmedH U.vm → va_Pc av (fun U => kS a v A U U.heap) av.toArray U := fun U hU hW => ⟨rfl, by show kS a v A U U.heap; rw [hU]; exact kS_to h hW.alike hS.2.1 (fun _ h => h)⟩
theorem j_recv {a v : Nat} {A : Nat → Prop} {s : State} {H : Heap} {locs : List Loc} (h : kS a v A s s.heap) (hS : va_S A s.heap H locs) : ∃ cell : Cell, H[a]? = some cell ∧ cell.vm.isStatics = false ∧ s.vm.findClass "java/lang/String" = some cell.cls := by
  obtain ⟨cell, h1, h2, h3, -⟩ := h.1.kept hS.2.1
  exact ⟨cell, h1, h2, h3⟩
set_option maxHeartbeats 4000000 in
set_option maxRecDepth 100000 in
theorem c_J3_checkIndex_8e157 (l : Launch) (k n : Nat) (hk : k < n) (hn : n < 2 ^ 31) (x : Value) (hxc : x.category = 1) : Met l yJ3_checkIndex_8e157 wsJ3_checkIndex_8e157 ({ frames := 1, cells := 0, slots := 0, locals := 40 }) (va_Pc [.int (nI k), .int (nI n), x] (fun U => True)) (jQ (fun r => r = nI k)) 0 0 jN := by
  refine j_entry (cc := cJ3_checkIndex_8e157) (maxL := 3) (ret := (some .int)) (by decide) rfl (by cases x <;> first | exact Nat.le_of_ble_eq_true rfl | (simp [Value.category] at hxc)) ?_
  intro p e s m below meth c hx hb hr hml hown hts hlk hE ls hl
  have hown : s.vm.findClass RJ3 = some m.cls := hown
  have S0 : va_S jN s.heap s.heap [] := va_S.rf
  have hl : lv_has ls 3 [(0, .int (nI k)), (1, .int (nI n)), (2, x)] := by
    have h := hl
    cases x <;> first | exact h | (simp [Value.category] at hxc)
  refine lv_iload_n hx hb dJ3_checkIndex_8e157_0 rfl (lv_at hl 0 rfl) ?_
  refine lv_if_lt (tgt := 9) hx hb dJ3_checkIndex_8e157_1 (by decide) (fun c_ => absurd c_ (nI_pos (by omega))) (fun _ => ?_)
  refine lv_iload_n hx hb dJ3_checkIndex_8e157_4 rfl (lv_at hl 0 rfl) ?_
  refine lv_iload_n hx hb dJ3_checkIndex_8e157_5 rfl (lv_at hl 1 rfl) ?_
  refine lv_icmp_lt (tgt := 16) hx hb dJ3_checkIndex_8e157_6 (by decide) (fun _ => ?_) (fun c_ => absurd ((nI_ltI (by omega) hn).mpr hk) c_)
  refine lv_iload_n hx hb dJ3_checkIndex_8e157_16 rfl (lv_at hl 0 rfl) ?_
  exact W.iret hx hb hr (fun t ht hW => ⟨⟨_, (), rfl, rfl, trivial⟩, S0.F ht⟩) S0.2.2 dJ3_checkIndex_8e157_17 hlk
set_option maxHeartbeats 4000000 in
set_option maxRecDepth 100000 in
theorem c_J0_checkIndex_df160 (l : Launch) (a v : Nat) (A : Nat → Prop) (k n : Nat) (hk : k < n) (hn : n < 2 ^ 31) : Met l yJ0_checkIndex_df160 wsJ0_checkIndex_df160 ({ frames := 2, cells := 0, slots := 0, locals := 62 }) (va_Pc [.int (nI k), .int (nI n)] (fun U => kS a v A U U.heap)) (jV) 0 0 jN := by
  refine j_entry (cc := cJ0_checkIndex_df160) (maxL := 2) (ret := none) (by decide) rfl (Nat.le_of_ble_eq_true rfl) ?_
  intro p e s m below meth c hx hb hr hml hown hts hlk hE ls hl
  have hown : s.vm.findClass RJ0 = some m.cls := hown
  have S0 : va_S jN s.heap s.heap [] := va_S.rf
  have hl : lv_has ls 2 [(0, .int (nI k)), (1, .int (nI n))] := hl
  refine lv_iload_n hx hb dJ0_checkIndex_df160_0 rfl (lv_at hl 0 rfl) ?_
  refine lv_iload_n hx hb dJ0_checkIndex_df160_1 rfl (lv_at hl 1 rfl) ?_
  have KEY : ∀ x : Value, x.category = 1 → va_Z "jdk/internal/util/Preconditions" "SIOOBE_FORMATTER" "Ljava/util/function/BiFunction;" x A s s.heap → W p l e (headSpec wsJ0_checkIndex_df160 { frames := 2, cells := 0, slots := 0, locals := 62 }).room s m [Value.int (nI k), Value.int (nI n)].toArray below meth c s.heap [] 0 0 (MQ below jV [Value.int (nI k), Value.int (nI n)].toArray s 0 0 jN) (F0 m 2 ls [.int (nI n), .int (nI k)]) := by
    intro x hxc hz
    refine va_gets (v := x) hx hb hz (jS S0) hown (hts _ (List.mem_of_getElem? (i := 1) rfl)) (fun _ h9 => h9) dJ0_checkIndex_df160_2 ?_
    refine va_calli (va_runS (As := [.int (nI k), .int (nI n), x]) (rest := []) ⟨hx, hb, hml, hown, hts⟩ (c_J3_checkIndex_8e157 l k n hk hn x hxc) (va_cwS 3 hts gJ0_checkIndex_df160_J3_checkIndex_8e157 rfl rfl rfl (by decide +kernel) ⟨(Nat.le_of_ble_eq_true rfl), (Nat.le_of_ble_eq_true rfl)⟩) ⟨fun x U g mk q => q, fun U hU hW => ⟨rfl, trivial⟩⟩ rfl rfl hl.1 rfl (lv_room (Nat.le_of_ble_eq_true rfl)) dJ0_checkIndex_df160_5 ⟨(Nat.le_of_ble_eq_true rfl), (Nat.le_of_ble_eq_true rfl)⟩) S0 (fun q _ h => h) (fun q h => h) (fun r u t H1 locs1 ht hvm hp hB hz1 hk1 S0 => ?_)
    refine lv_pop hx hb dJ0_checkIndex_df160_8 rfl ?_
    exact W.vret hx hb hr (fun t ht hW => ⟨⟨(), rfl, trivial, trivial⟩, S0.F ht⟩) S0.2.2 dJ0_checkIndex_df160_9
  rcases hE.2.2.2.2.2 with h | ⟨t, h⟩
  · exact KEY _ rfl h
  · exact KEY _ rfl h
set_option maxHeartbeats 4000000 in
set_option maxRecDepth 100000 in
theorem c_J1_charAt_3b067 (l : Launch) (a v : Nat) (A : Nat → Prop) (k : Nat) (hk : k < 83) : Met l yJ1_charAt_3b067 wsJ1_charAt_3b067 ({ frames := 3, cells := 0, slots := 0, locals := 83 }) (va_Pc [.ref v, .int (nI k)] (fun U => kS a v A U U.heap)) (jQ (fun r => r = nI (T0 k))) 0 0 jN := by
  refine j_entry (cc := cJ1_charAt_3b067) (maxL := 2) (ret := (some .char)) (by decide) rfl (Nat.le_of_ble_eq_true rfl) ?_
  intro p e s m below meth c hx hb hr hml hown hts hlk hE ls hl
  have hown : s.vm.findClass RJ1 = some m.cls := hown
  have S0 : va_S jN s.heap s.heap [] := va_S.rf
  have hl : lv_has ls 2 [(0, .ref v), (1, .int (nI k))] := hl
  refine lv_iload_n hx hb dJ1_charAt_3b067_0 rfl (lv_at hl 1 rfl) ?_
  refine lv_aload_n hx hb dJ1_charAt_3b067_1 rfl (lv_at hl 0 rfl) ?_
  refine va_tlen (v := nI 83) hx hb hE.2.2.2.1 (jS S0) rfl dJ1_charAt_3b067_2 ?_
  refine va_callv (va_runS (As := [.int (nI k), .int (nI 83)]) (rest := []) ⟨hx, hb, hml, hown, hts⟩ (c_J0_checkIndex_df160 l a v A k 83 hk (by decide)) (va_cwS 2 hts gJ1_charAt_3b067_J0_checkIndex_df160 rfl rfl rfl (by decide +kernel) ⟨(Nat.le_of_ble_eq_true rfl), (Nat.le_of_ble_eq_true rfl)⟩) ⟨j_blind, j_pre hE (jS S0)⟩ rfl rfl hl.1 rfl (lv_room (Nat.le_of_ble_eq_true rfl)) dJ1_charAt_3b067_3 ⟨(Nat.le_of_ble_eq_true rfl), (Nat.le_of_ble_eq_true rfl)⟩) S0 (fun q _ h => h) (fun q h => h) (fun u t H1 locs1 ht hvm hp hB hz1 hk1 S0 => ?_)
  refine lv_aload_n hx hb dJ1_charAt_3b067_6 rfl (lv_at hl 0 rfl) ?_
  refine lv_iload_n hx hb dJ1_charAt_3b067_7 rfl (lv_at hl 1 rfl) ?_
  refine va_tb (v := .int (nI (T0 k))) hx hb hE.2.2.2.1 (jS S0) (vp_in_nI hk (by decide)) (by rw [nI_clamp (by omega)]) dJ1_charAt_3b067_8 ?_
  refine lv_sipush (v := nI 255) hx hb dJ1_charAt_3b067_9 (by decide) ?_
  refine lv_iand hx hb dJ1_charAt_3b067_12 ?_
  rw [T0_byte k hk]
  refine lv_i2c (v := nI (T0 k)) hx hb dJ1_charAt_3b067_13 (T0_char k hk) ?_
  exact W.zret hx hb hr (T0_nar k hk) (fun t ht hW => ⟨⟨_, (), rfl, rfl, trivial⟩, S0.F ht⟩) S0.2.2 dJ1_charAt_3b067_14 hlk
set_option maxHeartbeats 4000000 in
set_option maxRecDepth 100000 in
theorem c_J0_coder_7d493 (l : Launch) (a v : Nat) (A : Nat → Prop) : Met l yJ0_coder_7d493 wsJ0_coder_7d493 ({ frames := 0, cells := 0, slots := 0, locals := 0 }) (va_Pc [.ref a] (fun U => kS a v A U U.heap)) (jQ (fun r => r = nI 0)) 0 0 jN := by
  refine j_entry (cc := cJ0_coder_7d493) (maxL := 1) (ret := (some .byte)) (by decide) rfl (Nat.le_of_ble_eq_true rfl) ?_
  intro p e s m below meth c hx hb hr hml hown hts hlk hE ls hl
  have hown : s.vm.findClass RJ0 = some m.cls := hown
  have S0 : va_S jN s.heap s.heap [] := va_S.rf
  have hl : lv_has ls 1 [(0, .ref a)] := hl
  refine va_gets (v := .int 1) hx hb hE.2.2.2.2.1 (jS S0) hown (hts _ (List.mem_of_getElem? (i := 1) rfl)) (fun _ h9 => h9) dJ0_coder_7d493_0 ?_
  refine lv_if_eq (tgt := 13) hx hb dJ0_coder_7d493_3 (by decide) (fun c_ => absurd c_ (by decide)) (fun _ => ?_)
  refine lv_aload_n hx hb dJ0_coder_7d493_6 rfl (lv_at hl 0 rfl) ?_
  refine vk_getf (v := .int 0) hx hb hE.2.1 (jS S0) hown (hts _ (List.mem_of_getElem? (i := 2) rfl)) (fun _ h9 => h9) dJ0_coder_7d493_7 ?_
  refine lv_goto (tgt := 14) hx hb dJ0_coder_7d493_10 (by decide) ?_
  exact W.zret hx hb hr (by decide) (fun t ht hW => ⟨⟨_, (), rfl, rfl, trivial⟩, S0.F ht⟩) S0.2.2 dJ0_coder_7d493_14 hlk
set_option maxHeartbeats 4000000 in
set_option maxRecDepth 100000 in
theorem c_J0_isLatin1_aae02 (l : Launch) (a v : Nat) (A : Nat → Prop) : Met l yJ0_isLatin1_aae02 wsJ0_isLatin1_aae02 ({ frames := 0, cells := 0, slots := 0, locals := 0 }) (va_Pc [.ref a] (fun U => kS a v A U U.heap)) (jQ (fun r => r = nI 1)) 0 0 jN := by
  refine j_entry (cc := cJ0_isLatin1_aae02) (maxL := 1) (ret := (some .boolean)) (by decide) rfl (Nat.le_of_ble_eq_true rfl) ?_
  intro p e s m below meth c hx hb hr hml hown hts hlk hE ls hl
  have hown : s.vm.findClass RJ0 = some m.cls := hown
  have S0 : va_S jN s.heap s.heap [] := va_S.rf
  have hl : lv_has ls 1 [(0, .ref a)] := hl
  refine va_gets (v := .int 1) hx hb hE.2.2.2.2.1 (jS S0) hown (hts _ (List.mem_of_getElem? (i := 1) rfl)) (fun _ h9 => h9) dJ0_isLatin1_aae02_0 ?_
  refine lv_if_eq (tgt := 17) hx hb dJ0_isLatin1_aae02_3 (by decide) (fun c_ => absurd c_ (by decide)) (fun _ => ?_)
  refine lv_aload_n hx hb dJ0_isLatin1_aae02_6 rfl (lv_at hl 0 rfl) ?_
  refine vk_getf (v := .int 0) hx hb hE.2.1 (jS S0) hown (hts _ (List.mem_of_getElem? (i := 2) rfl)) (fun _ h9 => h9) dJ0_isLatin1_aae02_7 ?_
  refine lv_if_ne (tgt := 17) hx hb dJ0_isLatin1_aae02_10 (by decide) (fun c_ => absurd rfl c_) (fun _ => ?_)
  refine lv_iconst (v := nI 1) hx hb dJ0_isLatin1_aae02_13 (by decide) ?_
  refine lv_goto (tgt := 18) hx hb dJ0_isLatin1_aae02_14 (by decide) ?_
  exact W.zret hx hb hr (by decide) (fun t ht hW => ⟨⟨_, (), rfl, rfl, trivial⟩, S0.F ht⟩) S0.2.2 dJ0_isLatin1_aae02_18 hlk
set_option maxHeartbeats 4000000 in
set_option maxRecDepth 100000 in
theorem c_J0_length_8abf5 (l : Launch) (a v : Nat) (A : Nat → Prop) : Met l yJ0_length_8abf5 wsJ0_length_8abf5 ({ frames := 1, cells := 0, slots := 0, locals := 20 }) (va_Pc [.ref a] (fun U => kS a v A U U.heap)) (jQ (fun r => r = nI 83)) 0 0 jN := by
  refine j_entry (cc := cJ0_length_8abf5) (maxL := 1) (ret := (some .int)) (by decide) rfl (Nat.le_of_ble_eq_true rfl) ?_
  intro p e s m below meth c hx hb hr hml hown hts hlk hE ls hl
  have hown : s.vm.findClass RJ0 = some m.cls := hown
  have S0 : va_S jN s.heap s.heap [] := va_S.rf
  have hl : lv_has ls 1 [(0, .ref a)] := hl
  refine lv_aload_n hx hb dJ0_length_8abf5_0 rfl (lv_at hl 0 rfl) ?_
  refine vk_getf (v := .ref v) hx hb hE.2.2.1 (jS S0) hown (hts _ (List.mem_of_getElem? (i := 1) rfl)) (fun _ h9 => h9) dJ0_length_8abf5_1 ?_
  refine va_tlen (v := nI 83) hx hb hE.2.2.2.1 (jS S0) rfl dJ0_length_8abf5_4 ?_
  refine lv_aload_n hx hb dJ0_length_8abf5_5 rfl (lv_at hl 0 rfl) ?_
  refine va_calli (va_runV (As := []) (rest := [.int (nI 83)]) ⟨hx, hb, hml, hown, hts⟩ (c_J0_coder_7d493 l a v A) (cwV 0 hts gJ0_length_8abf5_J0_coder_7d493 rfl rfl rfl (by decide +kernel) ⟨(Nat.le_of_ble_eq_true rfl), (Nat.le_of_ble_eq_true rfl)⟩) ⟨j_blind, j_recv hE (jS S0), j_pre hE (jS S0)⟩ rfl rfl hl.1 rfl (lv_room (Nat.le_of_ble_eq_true rfl)) dJ0_length_8abf5_6 ⟨(Nat.le_of_ble_eq_true rfl), (Nat.le_of_ble_eq_true rfl)⟩) S0 (fun q _ h => h) (fun q h => h) (fun r u t H1 locs1 ht hvm hp hB hz1 hk1 S0 => ?_)
  have hp : r = nI 0 := hp
  subst hp
  refine lv_ishr hx hb dJ0_length_8abf5_9 ?_
  exact W.iret hx hb hr (fun t ht hW => ⟨⟨_, (), rfl, (by decide), trivial⟩, S0.F ht⟩) S0.2.2 dJ0_length_8abf5_10 hlk
set_option maxHeartbeats 4000000 in
set_option maxRecDepth 100000 in
theorem c_J0_charAt_5068e (l : Launch) (a v : Nat) (A : Nat → Prop) (k : Nat) (hk : k < 83) : Met l yJ0_charAt_5068e wsJ0_charAt_5068e ({ frames := 5, cells := 0, slots := 0, locals := 125 }) (va_Pc [.ref a, .int (nI k)] (fun U => kS a v A U U.heap)) (jQ (fun r => r = nI (T0 k))) 0 0 jN := by
  refine j_entry (cc := cJ0_charAt_5068e) (maxL := 2) (ret := (some .char)) (by decide) rfl (Nat.le_of_ble_eq_true rfl) ?_
  intro p e s m below meth c hx hb hr hml hown hts hlk hE ls hl
  have hown : s.vm.findClass RJ0 = some m.cls := hown
  have S0 : va_S jN s.heap s.heap [] := va_S.rf
  have hl : lv_has ls 2 [(0, .ref a), (1, .int (nI k))] := hl
  refine lv_aload_n hx hb dJ0_charAt_5068e_0 rfl (lv_at hl 0 rfl) ?_
  refine va_calli (va_runV (As := []) (rest := []) ⟨hx, hb, hml, hown, hts⟩ (c_J0_isLatin1_aae02 l a v A) (cwV 0 hts gJ0_charAt_5068e_J0_isLatin1_aae02 rfl rfl rfl (by decide +kernel) ⟨(Nat.le_of_ble_eq_true rfl), (Nat.le_of_ble_eq_true rfl)⟩) ⟨j_blind, j_recv hE (jS S0), j_pre hE (jS S0)⟩ rfl rfl hl.1 rfl (lv_room (Nat.le_of_ble_eq_true rfl)) dJ0_charAt_5068e_1 ⟨(Nat.le_of_ble_eq_true rfl), (Nat.le_of_ble_eq_true rfl)⟩) S0 (fun q _ h => h) (fun q h => h) (fun r u t H1 locs1 ht hvm hp hB hz1 hk1 S0 => ?_)
  have hp : r = nI 1 := hp
  subst hp
  refine lv_if_eq (tgt := 16) hx hb dJ0_charAt_5068e_4 (by decide) (fun c_ => absurd c_ (by decide)) (fun _ => ?_)
  refine lv_aload_n hx hb dJ0_charAt_5068e_7 rfl (lv_at hl 0 rfl) ?_
  refine vk_getf (v := .ref v) hx hb hE.2.2.1 (jS S0) hown (hts _ (List.mem_of_getElem? (i := 1) rfl)) (fun _ h9 => h9) dJ0_charAt_5068e_8 ?_
  refine lv_iload_n hx hb dJ0_charAt_5068e_11 rfl (lv_at hl 1 rfl) ?_
  refine va_calli (va_runS (As := [.ref v, .int (nI k)]) (rest := []) ⟨hx, hb, hml, hown, hts⟩ (c_J1_charAt_3b067 l a v A k hk) (va_cwS 2 hts gJ0_charAt_5068e_J1_charAt_3b067 rfl rfl rfl (by decide +kernel) ⟨(Nat.le_of_ble_eq_true rfl), (Nat.le_of_ble_eq_true rfl)⟩) ⟨j_blind, j_pre hE (jS S0)⟩ rfl rfl hl.1 rfl (lv_room (Nat.le_of_ble_eq_true rfl)) dJ0_charAt_5068e_12 ⟨(Nat.le_of_ble_eq_true rfl), (Nat.le_of_ble_eq_true rfl)⟩) S0 (fun q _ h => h) (fun q h => h) (fun r u t H1 locs1 ht hvm hp hB hz1 hk1 S0 => ?_)
  have hp : r = nI (T0 k) := hp
  subst hp
  exact W.zret hx hb hr (T0_nar k hk) (fun t ht hW => ⟨⟨_, (), rfl, rfl, trivial⟩, S0.F ht⟩) S0.2.2 dJ0_charAt_5068e_15 hlk

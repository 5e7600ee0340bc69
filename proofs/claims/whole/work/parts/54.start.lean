/-! THE LAW'S START -/
theorem last_P {D : va_G} {cl : List vw_C} {ws : va_W} {x : Nat × va_E} {H : Heap} (hP : va_P D cl (ws ++ [x]) H) : va_P D cl [x] H := fun k q hk => hP (ws.length + k) q (by
  rw [List.getElem?_append_right (by omega), show ws.length + k - ws.length = k by omega]
  exact hk)
theorem last_F {A : Nat → Prop} {ws : va_W} {a : Nat} {e : va_E} {H0 H : Heap} {locs : List Loc} (hD : va_D A (ws ++ [(a, e)])) (hS : va_S A H0 H locs) (hA : ∀ q, H0.size ≤ q → A q) : ∀ q, va_A [(a, e)] H.size q → A q := by
  intro q h
  rcases h with ⟨k, e1, h⟩ | h
  · have hk : k < 1 := (List.getElem?_eq_some_iff.mp h).1
    rw [show k = 0 by omega] at h
    cases h
    exact hD.2 ws.length (a, e) (by simp)
  · exact hA q (Nat.le_trans hS.1 h)
theorem last_ne {A : Nat → Prop} {ws : va_W} {a : Nat} {e : va_E} (hD : va_D A (ws ++ [(a, e)])) {k : Nat} {x : Nat × va_E} (hk : ws[k]? = some x) : x.1 ≠ a := fun h => by
  have hl : k < ws.length := (List.getElem?_eq_some_iff.mp hk).1
  have := hD.1 k ws.length x (a, e) (by rw [List.getElem?_append_left hl]; exact hk) (by simp) h
  omega
theorem kty_of {args : Array Value} {s : State} (h0 : (Cond.arrayClass .char).before args s = true) (h1 : (Cond.arrayClass .int).before args s = true) (h2 : (Cond.arrayOver (.object "ChainLays$Ship")).before args s = true) (h3 : (Cond.arrayOver (.array .int)).before args s = true) : ∃ cy : Nat → ClassId, ∀ (k : Nat) (q : ClassId × FieldType), (kty cy)[k]? = some q → ArrOfT s q.1 q.2 ∧ va_RA s q.1 q.2 := by
  obtain ⟨a0, k0, o0, f0, g0, t0⟩ := Cond.arrayClass_spec h0
  obtain ⟨a1, k1, o1, f1, g1, t1⟩ := Cond.arrayClass_spec h1
  obtain ⟨o2, a2, k2, c2, i2, g2, t2, f2⟩ := Cond.arrayOver_spec h2
  obtain ⟨o3, a3, k3, c3, g3, t3, f3⟩ := Cond.arrayOver_specA h3
  refine ⟨fun k => if k = 0 then a0 else if k = 1 then a1 else if k = 2 then a2 else a3, fun k q hq => ?_⟩
  match k, hq with
  | 0, hq => cases hq; exact ⟨fun n z => ⟨fun k h => (by cases h), k0, g0, o0, t0⟩, f0⟩
  | 1, hq => cases hq; exact ⟨fun n z => ⟨fun k h => (by cases h), k1, g1, o1, t1⟩, f1⟩
  | 2, hq => cases hq; exact ⟨fun n z => ⟨fun k h => (by cases h), k2, g2, o2, t2⟩, k2, o2, g2, t2, c2, f2⟩
  | 3, hq => cases hq; exact ⟨fun n z => ⟨fun k h => (by cases h), k3, g3, o3, t3⟩, f3⟩
  | k + 4, hq => simp [kty] at hq
def lw_fl : List Cond := flatC (Jvm.Cond.and given_1 narrow_1)
theorem kz_of {args : Array Value} {s : State} {C n : String} {Ls : List Int32} {A : Nat → Prop} (hl : (Cond.laysStatic C n "[I").before args s = true) (hini : (Cond.initialized C).before args s = true) (hN : Ls.length < 2 ^ 31) (har : (Cond.arrayOf (.static C n "[I") .int).before args s = true) (hle : (Cond.eq (.length (.static C n "[I")) (.int (Int32.ofNat Ls.length))).before args s = true) (hel : ∀ j : Nat, j < Ls.length → (Cond.eq (.elem (.static C n "[I") (.int (Int32.ofNat j))) (.int (Ls.getD j 0))).before args s = true) (hA : ∀ a : Nat, a < s.heap.size → ¬ A a) : kZ C n Ls A s s.heap := by
  obtain ⟨t, ht, hT⟩ := va_Tof (f := fun j => .int (Ls.getD j 0)) (A := A) hN har (va_eqt hle) (fun j hj => va_eqt (hel j hj)) hA
  exact ⟨t, va_Zof hl hini ht hA, hT⟩

set_option maxHeartbeats 16000000 in
set_option maxRecDepth 100000 in
theorem whole_start {p : Program} {e : Env} {s : State} {m : MethodId} {below : List Frame} {meth : Method} {c : Code} (l : Launch) (hflags : l.flags = flags0) {b L : Nat} {xs : Nat → Int32} (hL : L ≤ 2560) (C0 : lw_At p s m meth c b L xs) : W p l e room_1 s m #[Value.ref b] below meth c s.heap [] 0 0 (lw_Z below #[Value.ref b] s) (entryFrame m ([Value.ref b] : List Value).toArray 4) := by
  obtain ⟨hx, hb, hr, hml, hown, hts0, hXs, hbl, hlocks, hgv⟩ := id C0
  have hts : ∀ w ∈ wsL_law, w.before #[Value.ref b] s = true := fun w h => hts0 w (wsL_law_in w h)
  have hown : s.vm.findClass RL = some m.cls := hown
  have hb : c.code = cL_law := hb
  have hA : ∀ q : Nat, s.heap.size ≤ q → lA s q := fun _ h => h
  have hnA : ∀ a : Nat, a < s.heap.size → ¬ lA s a := fun a h q => absurd h (Nat.not_lt.mpr q)
  obtain ⟨c0, i0, hK0⟩ := u_known (C := RX0) (T := TX0) (N := 3) (n := 3) hts0 inX0 (hts0 (.instantiable RX0 3) (List.mem_append_right _ (List.mem_append_left _ (List.mem_of_getElem? (i := 134) rfl))))
  obtain ⟨c1, i1, hK1⟩ := u_known (C := RX1) (T := TX1) (N := 6) (n := 6) hts0 inX1 (hts0 (.instantiable RX1 6) (List.mem_append_right _ (List.mem_append_left _ (List.mem_of_getElem? (i := 72) rfl))))
  obtain ⟨c2, i2, hK2⟩ := u_known (C := RX2) (T := TX2) (N := 12) (n := 12) hts0 inX2 (hts0 (.instantiable RX2 12) (List.mem_append_right _ (List.mem_append_left _ (List.mem_of_getElem? (i := 80) rfl))))
  obtain ⟨c3, i3, hK3⟩ := u_known (C := RX3) (T := TX3) (N := 2) (n := 2) hts0 inX3 (hts0 (.instantiable RX3 2) (List.mem_append_right _ (List.mem_append_left _ (List.mem_of_getElem? (i := 25) rfl))))
  obtain ⟨c4, i4, hK4⟩ := u_known (C := RX4) (T := TX4) (N := 3) (n := 3) hts0 inX4 (hts0 (.instantiable RX4 3) (List.mem_append_right _ (List.mem_append_left _ (List.mem_of_getElem? (i := 230) rfl))))
  obtain ⟨c5, i5, hK5⟩ := u_known (C := RX5) (T := TX5) (N := 5) (n := 5) hts0 inX5 (hts0 (.instantiable RX5 5) (List.mem_append_right _ (List.mem_append_left _ (List.mem_of_getElem? (i := 41) rfl))))
  obtain ⟨c6, i6, hK6⟩ := u_known (C := RX6) (T := TX6) (N := 10) (n := 10) hts0 inX6 (hts0 (.instantiable RX6 10) (List.mem_append_right _ (List.mem_append_left _ (List.mem_of_getElem? (i := 128) rfl))))
  obtain ⟨c7, i7, hK7⟩ := u_known (C := RX7) (T := TX7) (N := 4) (n := 4) hts0 inX7 (hts0 (.instantiable RX7 4) (List.mem_append_right _ (List.mem_append_left _ (List.mem_of_getElem? (i := 17) rfl))))
  obtain ⟨c8, i8, hK8⟩ := u_known (C := RX8) (T := TX8) (N := 13) (n := 13) hts0 inX8 (hts0 (.instantiable RX8 13) (List.mem_append_right _ (List.mem_append_right _ (List.mem_append_right _ (List.mem_append_left _ (List.mem_of_getElem? (i := 146) rfl))))))
  obtain ⟨D, hKc⟩ : ∃ D : va_G, ∀ (k : Nat) (q : vw_C), vwCl[k]? = some q → u_Kn s q.1 q.2.1 q.2.2 (D.1 k) (D.2 k) := by
    refine ⟨(fun k => if k = 0 then c0 else if k = 1 then c1 else if k = 2 then c2 else if k = 3 then c3 else if k = 4 then c4 else if k = 5 then c5 else if k = 6 then c6 else if k = 7 then c7 else c8, fun k => if k = 0 then i0 else if k = 1 then i1 else if k = 2 then i2 else if k = 3 then i3 else if k = 4 then i4 else if k = 5 then i5 else if k = 6 then i6 else if k = 7 then i7 else i8), ?_⟩
    intro k q hq
    match k, hq with
    | 0, hq => cases hq; exact hK0
    | 1, hq => cases hq; exact hK1
    | 2, hq => cases hq; exact hK2
    | 3, hq => cases hq; exact hK3
    | 4, hq => cases hq; exact hK4
    | 5, hq => cases hq; exact hK5
    | 6, hq => cases hq; exact hK6
    | 7, hq => cases hq; exact hK7
    | 8, hq => cases hq; exact hK8
    | k + 9, hq => simp [vwCl] at hq
  obtain ⟨cy, hcy⟩ := kty_of (hts0 (.arrayClass .char) (List.mem_append_right _ (List.mem_append_left _ (List.mem_of_getElem? (i := 39) rfl)))) (hts0 (.arrayClass .int) (List.mem_append_right _ (List.mem_append_left _ (List.mem_of_getElem? (i := 70) rfl)))) (hts0 (.arrayOver (.object "ChainLays$Ship")) (List.mem_append_right _ (List.mem_append_left _ (List.mem_of_getElem? (i := 78) rfl)))) (hts0 (.arrayOver (.array .int)) (List.mem_append_right _ (List.mem_append_left _ (List.mem_of_getElem? (i := 47) rfl))))
  have hK : va_K D vwCl (kty cy) s := ⟨hKc, hcy⟩
  have hX : kX s := ⟨va_Nw.of rfl (hts0 (.methodLinkNest RX6 11 yX0_init RX7) (List.mem_append_right _ (List.mem_append_left _ (List.mem_of_getElem? (i := 135) rfl)))), va_Nw.of rfl (hts0 (.methodLinkNest RX1 23 yX2_init RX7) (List.mem_append_right _ (List.mem_append_left _ (List.mem_of_getElem? (i := 81) rfl)))), va_Nw.of rfl (hts0 (.methodLinkNest RX1 28 yX6_init RX7) (List.mem_append_right _ (List.mem_append_left _ (List.mem_of_getElem? (i := 129) rfl)))), va_Nw.of rfl (hts0 (.methodLinkNest RX7 9 yX3_init RX7) (List.mem_append_right _ (List.mem_append_left _ (List.mem_of_getElem? (i := 26) rfl)))), va_Nw.of rfl (hts0 (.methodLinkNest RX7 18 yX5_init RX7) (List.mem_append_right _ (List.mem_append_left _ (List.mem_of_getElem? (i := 42) rfl)))), va_Nw.of rfl (hts0 (.methodLinkNest RX7 32 yX4_init RX7) (List.mem_append_right _ (List.mem_append_left _ (List.mem_of_getElem? (i := 231) rfl)))), va_AO.of (hts0 (.arrayOver (.object "ChainLays$Ship")) (List.mem_append_right _ (List.mem_append_left _ (List.mem_of_getElem? (i := 78) rfl)))), (hts0 (.arrayOver (.array .int)) (List.mem_append_right _ (List.mem_append_left _ (List.mem_of_getElem? (i := 47) rfl))))⟩
  have hfl := flat_of_before _ hgv
  have hNn : kN s := ⟨va_Nw.of rfl (hts0 (.methodLinkNest RX5 53 yX7_within RX7) (List.mem_append_right _ (List.mem_append_right _ (List.mem_append_left _ (List.mem_of_getElem? (i := 80) rfl))))), va_Nw.of rfl (hts0 (.methodLinkNest RX6 63 yX7_oneIf RX7) (List.mem_append_right _ (List.mem_append_right _ (List.mem_append_left _ (List.mem_of_getElem? (i := 185) rfl))))), va_Nw.of rfl (hts0 (.methodLinkNest RX1 65 yX7_within RX7) (List.mem_append_right _ (List.mem_append_right _ (List.mem_append_left _ (List.mem_of_getElem? (i := 196) rfl))))), va_Nw.of rfl (hts0 (.methodLinkNest RX1 151 yX7_oneIf RX7) (List.mem_append_right _ (List.mem_append_right _ (List.mem_append_right _ (List.mem_append_left _ (List.mem_of_getElem? (i := 22) rfl))))))⟩
  have hzRUNS : kZ RX2 "RUNS" kRUNS (lA s) s s.heap := kz_of (hts0 (.laysStatic RX2 "RUNS" "[I") (List.mem_append_right _ (List.mem_append_right _ (List.mem_append_right _ (List.mem_append_left _ (List.mem_of_getElem? (i := 13) rfl)))))) (hts0 (.initialized RX2) (List.mem_append_right _ (List.mem_append_left _ (List.mem_of_getElem? (i := 5) rfl)))) (by decide) (hfl _ (by decide +kernel)) (hfl _ (by decide +kernel)) (fun j hj => by
    have hj : j < 11 := hj
    rcases (show j = 0 ∨ j = 1 ∨ j = 2 ∨ j = 3 ∨ j = 4 ∨ j = 5 ∨ j = 6 ∨ j = 7 ∨ j = 8 ∨ j = 9 ∨ j = 10 by omega) with rfl | rfl | rfl | rfl | rfl | rfl | rfl | rfl | rfl | rfl | rfl <;> exact hfl _ (by decide +kernel)) hnA
  have hzLEAST : kZ RX5 "LEAST" kLEAST (lA s) s s.heap := kz_of (hts0 (.laysStatic RX5 "LEAST" "[I") (List.mem_append_right _ (List.mem_append_right _ (List.mem_append_left _ (List.mem_of_getElem? (i := 94) rfl))))) (hts0 (.initialized RX5) (List.mem_append_right _ (List.mem_append_left _ (List.mem_of_getElem? (i := 3) rfl)))) (by decide) (hfl _ (by decide +kernel)) (hfl _ (by decide +kernel)) (fun j hj => by
    have hj : j < 7 := hj
    rcases (show j = 0 ∨ j = 1 ∨ j = 2 ∨ j = 3 ∨ j = 4 ∨ j = 5 ∨ j = 6 by omega) with rfl | rfl | rfl | rfl | rfl | rfl | rfl <;> exact hfl _ (by decide +kernel)) hnA
  have hzMOST : kZ RX5 "MOST" kMOST (lA s) s s.heap := kz_of (hts0 (.laysStatic RX5 "MOST" "[I") (List.mem_append_right _ (List.mem_append_right _ (List.mem_append_left _ (List.mem_of_getElem? (i := 92) rfl))))) (hts0 (.initialized RX5) (List.mem_append_right _ (List.mem_append_left _ (List.mem_of_getElem? (i := 3) rfl)))) (by decide) (hfl _ (by decide +kernel)) (hfl _ (by decide +kernel)) (fun j hj => by
    have hj : j < 7 := hj
    rcases (show j = 0 ∨ j = 1 ∨ j = 2 ∨ j = 3 ∨ j = 4 ∨ j = 5 ∨ j = 6 by omega) with rfl | rfl | rfl | rfl | rfl | rfl | rfl <;> exact hfl _ (by decide +kernel)) hnA
  have E : kE cy D (lA s) s s.heap := ⟨hK, hNn, hzRUNS, hzLEAST, hzMOST⟩
  obtain ⟨sa, sv, hSt, hR⟩ : ∃ sa sv : Nat, kS sa sv (lA s) s s.heap ∧ vk_R RX7 37 "c3;c4;c4;c6;c8;c8;c5;c4;c3;c2;s2,3,20,2,3,4,200;s5,9,40,3,5,6,300;s7,4,12,1,2,2,60;" sa s := by
    obtain ⟨a, cS, cA, kA, q1, q2, q3, q4, q5, q6, -⟩ := Cond.exactly_spec (args := #[Value.ref b]) (first := s) (o := none) (s := s) (idx := []) (t := (.string "ChainLays" 37)) (cls := "java/lang/String") (hfl _ (by decide +kernel))
    have hel : ∀ j, j < 83 → Cond.eq (.elem (.field (.string "ChainLays" 37) "java/lang/String" "value" "[B") (.int (Int32.ofNat j))) (.int (nI (T0 j))) ∈ flatC (Jvm.Cond.and given_1 narrow_1) := by decide +kernel
    obtain ⟨t, ht, hT⟩ := va_Tof (tm := .field (.string "ChainLays" 37) "java/lang/String" "value" "[B") (ty := .byte) (N := 83) (f := fun j => .int (nI (T0 j))) (A := lA s) (by decide) (hfl _ (by decide +kernel)) (va_eqt (hfl _ (by decide +kernel))) (fun j hj => va_eqt (hfl _ (hel j hj))) hnA
    exact ⟨a, t, ⟨⟨cA, q3, q5, by rw [q6]; exact q2, hnA a (Array.getElem?_eq_some_iff.mp q3).1⟩, vk_OFof q1 (va_eqt (hfl (Cond.eq (.field (.string "ChainLays" 37) "java/lang/String" "coder" "B") (.int 0)) (by decide +kernel))) hnA, vk_OFof q1 ht hnA, hT, va_Zof (hts0 (.laysStatic "java/lang/String" "COMPACT_STRINGS" "Z") (List.mem_append_right _ (List.mem_append_right _ (List.mem_append_left _ (List.mem_of_getElem? (i := 17) rfl))))) (hts0 (.initialized "java/lang/String") (List.mem_append_right _ (List.mem_append_left _ (List.mem_of_getElem? (i := 9) rfl)))) (va_eqt (hfl (Cond.eq (.static "java/lang/String" "COMPACT_STRINGS" "Z") (.int 1)) (by decide +kernel))) hnA, va_Zqof (hts0 (.laysStatic "jdk/internal/util/Preconditions" "SIOOBE_FORMATTER" "Ljava/util/function/BiFunction;") (List.mem_append_right _ (List.mem_append_right _ (List.mem_append_left _ (List.mem_of_getElem? (i := 33) rfl))))) (hts0 (.initialized "jdk/internal/util/Preconditions") (List.mem_append_right _ (List.mem_append_left _ (List.mem_of_getElem? (i := 11) rfl)))) (hfl _ (by decide +kernel)) hnA⟩, vk_R.of (hts0 (.stringRef "ChainLays" 37 "c3;c4;c4;c6;c8;c8;c5;c4;c3;c2;s2,3,20,2,3,4,200;s5,9,40,3,5,6,300;s7,4,12,1,2,2,60;") (List.mem_append_right _ (List.mem_append_right _ (List.mem_append_left _ (List.mem_of_getElem? (i := 7) rfl))))) q1⟩
  have hS : va_S (lA s) s.heap s.heap [] := va_S.rf
  have hP : va_P D vwCl [] s.heap := fun k q h => by simp at h
  have hD : va_D (lA s) [] := ⟨fun i j p q h => by simp at h, fun k q h => by simp at h⟩
  have hl := lv_entry ([.ref b]) (n := 4) (Nat.le_of_ble_eq_true rfl)
  rw [lg_entry_eq]
  generalize (lg_sl ([.ref b]) ++ List.replicate (4 - (lg_sl ([.ref b])).length) Slot.unset).toArray = ls at hl ⊢
  have hl : lv_has ls 4 [(0, .ref b)] := hl
  refine va_new (ci := 7) (fs := [.null, .null, .null, .null]) (C := RX7) (T := TX7) (N := 4) hx hb hts0 inX7 tyX7 tyX7_ok hown (hts0 (.classLink RL 7 RX7) (List.mem_append_right _ (List.mem_append_left _ (List.mem_of_getElem? (i := 16) rfl)))) (hts0 (.instantiable RX7 4) (List.mem_append_right _ (List.mem_append_left _ (List.mem_of_getElem? (i := 17) rfl)))) (hts0 (.initialized RX7) (List.mem_append_right _ (List.mem_append_left _ (List.mem_of_getElem? (i := 1) rfl)))) hK hP hD hS hA rfl (fun j hj => by rcases (show j = 0 ∨ j = 1 ∨ j = 2 ∨ j = 3 by omega) with rfl | rfl | rfl | rfl <;> rfl) (Nat.le_of_ble_eq_true rfl) (Nat.le_of_ble_eq_true rfl) dL_law_0 (fun q7 H hP hD hS => ?_)
  have hP : va_P D vwCl ([] ++ [(q7, .inr (7, [.null, .null, .null, .null]))]) H := hP
  have hD : va_D (lA s) ([] ++ [(q7, .inr (7, [.null, .null, .null, .null]))]) := hD
  refine W.widen (k := 1) (n := 4) (Nat.le_of_ble_eq_true rfl) (Nat.le_of_ble_eq_true rfl) ?_
  refine lv_dup hx hb dL_law_3 rfl ?_
  have hPc := last_P hP
  have hFc := last_F hD hS hA
  refine va_callv (va_runI (As := []) (rest := [.ref q7]) ⟨hx, hb, hml, hown, hts⟩ (c_X7_init cy D l q7 sa sv H.size) (cwI 0 hts gL_law_X7_init rfl rfl rfl (hts0 (.initialized RX7) (List.mem_append_right _ (List.mem_append_left _ (List.mem_of_getElem? (i := 1) rfl)))) (hts0 (.methodLink RL 9 yX7_init) (List.mem_append_right _ (List.mem_append_left _ (List.mem_of_getElem? (i := 18) rfl)))) (hts0 (.instanceMethod yX7_init) (List.mem_append_right _ (List.mem_append_left _ (List.mem_of_getElem? (i := 19) rfl)))) rfl (by decide +kernel) ⟨(Nat.le_of_ble_eq_true rfl), (Nat.le_of_ble_eq_true rfl)⟩) ⟨e_blind, fun U hU hW => ⟨rfl, ⟨⟨by rw [hU], by rw [hU]; exact hPc, va_K.moved hW.alike hK, kX_to hW hX⟩, by rw [hU]; exact kE_to E hW hS.2.1 hFc⟩, by rw [hU]; exact kS_to hSt hW.alike hS.2.1 hFc, vk_R.warm hW hR⟩⟩ rfl rfl hl.1 rfl (lv_room (Nat.le_of_ble_eq_true rfl)) dL_law_4 ⟨(Nat.le_of_ble_eq_true rfl), (Nat.le_of_ble_eq_true rfl)⟩) hS (fun q _ h => hFc q h) hFc (fun u t H1 locs ht hvm hp hB hz1 hk1 hS => ?_)
  obtain ⟨adC, σ⟩ := u
  obtain ⟨hP1, hD1⟩ := hB
  obtain ⟨hq7, hC⟩ := hp
  have hq7 : adC 0 = q7 := hq7
  have hC : rC σ Z0 := hC
  rw [ht] at hP1
  have hP1 : va_P D vwCl (kW 38 adC (kcC cy adC) σ) H1 := hP1
  have hD1 : va_D (lA s) (kW 38 adC (kcC cy adC) σ) := ⟨hD1.1, fun k q hk => hFc _ (hD1.2 k q hk)⟩
  refine W.widen (k := 100) (n := 1000) (Nat.le_of_ble_eq_true rfl) (Nat.le_of_ble_eq_true rfl) ?_
  refine lv_astore_n (lv' := [(1, .ref q7), (0, .ref b)]) hx hb dL_law_7 rfl hl (by decide) rfl (fun ls hl => ?_)
  clear hP hD hPc hFc hk1 hz1
  have hP := hP1
  have hD := hD1
  refine va_new (ci := 8) (fs := [.null, .null, .null, .int 0, .null, .int 0, .int 0, .null, .int 0, .int 0, .int 0, .int 0, .int 0]) (C := RX8) (T := TX8) (N := 13) hx hb hts0 inX8 tyX8 tyX8_ok hown (hts0 (.classLink RL 10 RX8) (List.mem_append_right _ (List.mem_append_right _ (List.mem_append_right _ (List.mem_append_left _ (List.mem_of_getElem? (i := 145) rfl)))))) (hts0 (.instantiable RX8 13) (List.mem_append_right _ (List.mem_append_right _ (List.mem_append_right _ (List.mem_append_left _ (List.mem_of_getElem? (i := 146) rfl)))))) (hts0 (.initialized RX8) (List.mem_append_right _ (List.mem_append_left _ (List.mem_of_getElem? (i := 15) rfl)))) hK hP hD hS hA rfl (fun j hj => by rcases (show j = 0 ∨ j = 1 ∨ j = 2 ∨ j = 3 ∨ j = 4 ∨ j = 5 ∨ j = 6 ∨ j = 7 ∨ j = 8 ∨ j = 9 ∨ j = 10 ∨ j = 11 ∨ j = 12 by omega) with rfl | rfl | rfl | rfl | rfl | rfl | rfl | rfl | rfl | rfl | rfl | rfl | rfl <;> rfl) (Nat.le_of_ble_eq_true rfl) (Nat.le_of_ble_eq_true rfl) dL_law_8 (fun q8 H hP hD hS => ?_)
  have hP : va_P D vwCl (kW 38 adC (kcC cy adC) σ ++ [(q8, .inr (8, [.null, .null, .null, .int 0, .null, .int 0, .int 0, .null, .int 0, .int 0, .int 0, .int 0, .int 0]))]) H := hP
  have hD : va_D (lA s) (kW 38 adC (kcC cy adC) σ ++ [(q8, .inr (8, [.null, .null, .null, .int 0, .null, .int 0, .int 0, .null, .int 0, .int 0, .int 0, .int 0, .int 0]))]) := hD
  refine W.widen (k := 200) (n := 2000) (Nat.le_of_ble_eq_true rfl) (Nat.le_of_ble_eq_true rfl) ?_
  refine lv_dup hx hb dL_law_11 rfl ?_
  have hPc := last_P hP
  have hFc := last_F hD hS hA
  have hP1 : va_P D vwCl (kW 38 adC (kcC cy adC) σ) H := fun k q hk => hP k q (by rw [List.getElem?_append_left (List.getElem?_eq_some_iff.mp hk).1]; exact hk)
  refine va_callv (va_runI (As := []) (rest := [.ref q8]) ⟨hx, hb, hml, hown, hts⟩ (c_X8_init cy D l q8 H.size) (cwI 0 hts gL_law_X8_init rfl rfl rfl (hts0 (.initialized RX8) (List.mem_append_right _ (List.mem_append_left _ (List.mem_of_getElem? (i := 15) rfl)))) (hts0 (.methodLink RL 12 yX8_init) (List.mem_append_right _ (List.mem_append_right _ (List.mem_append_right _ (List.mem_append_left _ (List.mem_of_getElem? (i := 147) rfl)))))) (hts0 (.instanceMethod yX8_init) (List.mem_append_right _ (List.mem_append_right _ (List.mem_append_right _ (List.mem_append_left _ (List.mem_of_getElem? (i := 148) rfl)))))) rfl (by decide +kernel) ⟨(Nat.le_of_ble_eq_true rfl), (Nat.le_of_ble_eq_true rfl)⟩) ⟨d_blind, fun U hU hW => ⟨rfl, ⟨by rw [hU], by rw [hU]; exact hPc, va_K.moved hW.alike hK, kX_to hW hX⟩, by rw [hU]; exact kE_to E hW hS.2.1 hFc⟩⟩ rfl rfl hl.1 rfl (lv_room (Nat.le_of_ble_eq_true rfl)) dL_law_12 ⟨(Nat.le_of_ble_eq_true rfl), (Nat.le_of_ble_eq_true rfl)⟩) hS (fun q _ h => hFc q h) hFc (fun u t H1 locs ht hvm hp hB hz1 hk1 hS => ?_)
  obtain ⟨adM, μ⟩ := u
  obtain ⟨hP2, hD2⟩ := hB
  obtain ⟨hq8, hM⟩ := hp
  have hq8 : adM 0 = q8 := hq8
  have hM : rM μ Z0 := hM
  rw [ht] at hP2
  have hP2 : va_P D vwCl (kW 6 adM (kcM cy adM) μ) H1 := hP2
  have hfar : ∀ i, i < 38 → adC i < H.size ∧ ¬ va_A [(q8, .inr (8, [.null, .null, .null, .int 0, .null, .int 0, .int 0, .null, .int 0, .int 0, .int 0, .int 0, .int 0]))] H.size (adC i) := fun i hi => by
    have hlt := (hP1 i _ (kW_at hi)).lt
    refine ⟨hlt, ?_⟩
    rintro (⟨k, e1, h⟩ | h)
    · have hk : k < 1 := (List.getElem?_eq_some_iff.mp h).1
      rw [show k = 0 by omega] at h
      have hne := last_ne hD (kW_at (n := 38) (ad := adC) (kc := kcC cy adC) (σ := σ) hi)
      have h8 : q8 = adC i := congrArg Prod.fst (Option.some.inj h)
      exact hne h8.symm
    · exact absurd hlt (Nat.not_lt.mpr h)
  have hP3 : va_P D vwCl (kW 38 adC (kcC cy adC) σ) H1 := hP1.kept (fun k x hx => by
    obtain ⟨hk, rfl⟩ := kW_in hx
    exact hk1 _ (hfar k hk).1 (hfar k hk).2)
  have hdis : ∀ i j, i < 38 → j < 6 → adC i ≠ adM j := fun i j hi hj h => (hfar i hi).2 (by rw [h]; exact hD2.2 j _ (kW_at (n := 6) (ad := adM) (kc := kcM cy adM) (σ := μ) hj))
  have hD2 : va_D (lA s) (kW 6 adM (kcM cy adM) μ) := ⟨hD2.1, fun k q hk => hFc _ (hD2.2 k q hk)⟩
  refine lv_astore_n (lv' := [(2, .ref q8), (1, .ref q7), (0, .ref b)]) hx hb dL_law_15 rfl hl (by decide) rfl (fun ls hl => ?_)
  refine lv_iconst (v := nI 0) hx hb dL_law_16 (by decide) ?_
  refine lv_istore_n (lv' := [(3, .int (nI 0)), (2, .ref q8), (1, .ref q7), (0, .ref b)]) hx hb dL_law_17 rfl hl (by decide) rfl (fun ls hl => ?_)
  refine W.widen (k := 600000) (n := 7302250) (Nat.le_of_ble_eq_true rfl) (Nat.le_of_ble_eq_true rfl) ?_
  have hl : lv_has ls 4 [(0, .ref b), (1, .ref (adC 0)), (2, .ref (adM 0)), (3, .int (nI 0))] := by rw [hq7, hq8]; exact lv_sub hl [3, 2, 1, 0] rfl
  exact law_loop hL C0 E (L + 7) 0 (by omega) (by omega) σ μ Z0 H1 locs ⟨⟨hP3, hD1, hS⟩, ⟨hP2, hD2, hS⟩, hdis⟩ hC hM ls hl

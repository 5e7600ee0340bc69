/-! CONSTRUCTORS: the base -/
theorem va_AOA.moved {ty : FieldType} {u U : State} (hvm : u.vm.Alike U.vm) (h : va_AOA ty u) : va_AOA ty U := by
  unfold va_AOA Cond.before Cond.holds at h ⊢
  simp only [Cond.value] at h ⊢
  cases hc : u.vm.findClass (FieldType.array ty).toString with
  | none => simp [hc] at h
  | some comp =>
    simp only [hc, Option.bind_some, beq_iff_eq, Option.bind_eq_some_iff, Option.map_eq_some_iff] at h
    obtain ⟨c, hi, k, hk, hb⟩ := h
    obtain ⟨k', hk', he⟩ := hvm.2.2 _ _ hk
    have f1 : U.vm.findClass (FieldType.array ty).toString = some comp := by rw [hvm.findClass]; exact hc
    have hi' : (U.vm.classes.findIdx? fun (x : Class) => match x.kind with | .array component _ => component == comp | _ => false) = some c := by
      have h1 := va_idx_bare u.vm comp
      have h2 := va_idx_bare U.vm comp
      have e := hvm.bare_eq
      first | rw [e] at h1 | rw [← e] at h1
      exact (h2.symm.trans h1).trans hi
    have hkn : ∃ co : ClassId, k.kind = .array co (.array ty) ∧ u.vm.findClass ("[" ++ (FieldType.array ty).toString) = some c := by
      cases hkk : k.kind <;> simp [hkk] at hb
      exact ⟨_, by rw [hb.1], hb.2⟩
    obtain ⟨co, hkind, hname⟩ := hkn
    have f2 : U.vm.findClass ("[" ++ (FieldType.array ty).toString) = some c := by rw [hvm.findClass]; exact hname
    have hkind' : k'.kind = .array co (.array ty) := by rw [he]; exact hkind
    rw [f1, Option.bind_some]
    refine (congrArg (fun o : Option Nat => (o.bind (fun c => (U.vm.classes[c]?).map fun (k : Class) => match k.kind with | .array _ t => decide (t = FieldType.array ty) && decide (U.vm.findClass ("[" ++ (FieldType.array ty).toString) = some c) | _ => false) == some true)) hi').trans ?_
    simp [hk', hkind', f2]
def kX (U : State) : Prop := va_Nw (.methodLinkNest RX6 11 yX0_init RX7) U ∧ va_Nw (.methodLinkNest RX1 23 yX2_init RX7) U ∧ va_Nw (.methodLinkNest RX1 28 yX6_init RX7) U ∧ va_Nw (.methodLinkNest RX7 9 yX3_init RX7) U ∧ va_Nw (.methodLinkNest RX7 18 yX5_init RX7) U ∧ va_Nw (.methodLinkNest RX7 32 yX4_init RX7) U ∧ va_AO "ChainLays$Ship" U ∧ va_AOA .int U
theorem kX_to {s U : State} (hW : s.WarmedH U.vm) (h : kX s) : kX U := ⟨va_Nw.warmM hW h.1, va_Nw.warmM hW h.2.1, va_Nw.warmM hW h.2.2.1, va_Nw.warmM hW h.2.2.2.1, va_Nw.warmM hW h.2.2.2.2.1, va_Nw.warmM hW h.2.2.2.2.2.1, h.2.2.2.2.2.2.1.moved hW.alike, h.2.2.2.2.2.2.2.moved hW.alike⟩
theorem kX_same {s U : State} (hvm : s.vm = U.vm) (h : kX s) : kX U := by
  have ha : s.vm.Alike U.vm := by rw [hvm]; exact Vm.Alike.refl _
  exact ⟨va_Nw.same rfl hvm h.1, va_Nw.same rfl hvm h.2.1, va_Nw.same rfl hvm h.2.2.1, va_Nw.same rfl hvm h.2.2.2.1, va_Nw.same rfl hvm h.2.2.2.2.1, va_Nw.same rfl hvm h.2.2.2.2.2.1, h.2.2.2.2.2.2.1.moved ha, h.2.2.2.2.2.2.2.moved ha⟩
def cP (h0 : Nat) (e0 : va_E) (cy : Nat → ClassId) (D : va_G) (sz : Nat) (U : State) : Prop := U.heap.size = sz ∧ va_P D vwCl [(h0, e0)] U.heap ∧ va_K D vwCl (kty cy) U ∧ kX U
def cQ {S : Type} (h0 : Nat) (e0 : va_E) (D : va_G) (cl : S → va_W) (sz : Nat) : Array Value → State → Outcome → State → Prop := va_Qv (fun _ : S => True) (fun u t => va_P D vwCl (cl u) t.heap ∧ va_D (va_A [(h0, e0)] sz) (cl u)) (va_A [(h0, e0)] sz)
def cM {S : Type} (l : Launch) (y : MethodName) (ws : List Cond) (rm : Room) (h0 : Nat) (e0 : va_E) (cy : Nat → ClassId) (D : va_G) (cl : S → va_W) (mc ms : Nat) : Prop := ∀ sz : Nat, Met l y ws rm (va_Pc [.ref h0] (cP h0 e0 cy D sz)) (cQ h0 e0 D cl sz) mc ms (va_A [(h0, e0)] sz)
theorem cD1 {h0 sz : Nat} {e0 : va_E} : va_D (va_A [(h0, e0)] sz) [(h0, e0)] := ⟨fun i j p q hi hj _ => by
  have h1 := (List.getElem?_eq_some_iff.mp hi).1
  have h2 := (List.getElem?_eq_some_iff.mp hj).1
  simp only [List.length_cons, List.length_nil] at h1 h2
  omega, fun k q hk => va_A.in hk⟩
theorem c_entry {S : Type} {l : Launch} {y : MethodName} {ws ws' : List Cond} {rm : Room} {h0 : Nat} {e0 : va_E} {cy : Nat → ClassId} {D : va_G} {cl : S → va_W} {mc ms maxL : Nat} {cc : ByteArray} (hy : plainName y.cls = true) (hw : ws = Cond.code y cc maxL none :: ws') (hlen : 1 ≤ maxL)
    (body : ∀ (p : Program) (e : Env) (s : State) (m : MethodId) (below : List Frame) (meth : Method) (c : Code), p.tables.exec = Jvm.exec → c.code = cc → meth.sig.returnType = none → c.maxLocals = maxL → s.vm.findClass y.cls = some m.cls → (∀ w ∈ ws, w.before #[Value.ref h0] s = true) → meth.locks = false → meth.name = y.name →
      va_K D vwCl (kty cy) s → kX s → va_P D vwCl [(h0, e0)] s.heap → ∀ ls : Array Slot, lv_has ls maxL [(0, .ref h0)] →
      W p l e (headSpec ws rm).room s m #[Value.ref h0] below meth c s.heap [] 0 0 (MQ below (cQ h0 e0 D cl s.heap.size) #[Value.ref h0] s mc ms (va_A [(h0, e0)] s.heap.size)) (F0 m 0 ls [])) :
    cM l y ws rm h0 e0 cy D cl mc ms := by
  intro sz
  refine Met.ofW (cc := cc) (maxL := maxL) (ret := none) hy hw ?_
  intro p e s m args below meth c s₁ B hml hv
  obtain ⟨rfl, hsz, hP, hK, hX⟩ := hv
  subst hsz
  have hl := lv_entry ([.ref h0]) (n := maxL) hlen
  rw [lg_entry_eq]
  exact body p e s m below meth c B.exec B.bytes B.returns hml (findClass_of_methodNamed B.named) (atoms_spec (ws := ws) B.pre) B.notSynchronized (name_of_methodNamed B.named B.method).1 hK hX hP _ hl
theorem c_blind {h0 : Nat} {e0 : va_E} {cy : Nat → ClassId} {D : va_G} {sz : Nat} : FrameBlind (va_Pc [.ref h0] (cP h0 e0 cy D sz)) := fun a U g mk q => by
  obtain ⟨q0, q1, qP, qK, qX⟩ := q
  exact ⟨q0, q1, qP, va_K.moved (u := U) (U := U.calling g mk a) (Vm.Alike.refl U.vm) qK, kX_same rfl qX⟩
theorem c_pre {h0 : Nat} {e0 : va_E} {cy : Nat → ClassId} {D : va_G} {s : State} {H : Heap} (hP : va_P D vwCl [(h0, e0)] H) (hK : va_K D vwCl (kty cy) s) (hX : kX s) : ∀ U : State, U.heap = H → s.WarmedH U.vm → va_Pc [.ref h0] (cP h0 e0 cy D H.size) #[Value.ref h0] U := fun U hU hW => ⟨rfl, by rw [hU], by rw [hU]; exact hP, va_K.moved hW.alike hK, kX_to hW hX⟩
theorem kty_i {cy : Nat → ClassId} {D : va_G} {s : State} {cA : ClassId} (h : va_K D vwCl (kty cy ++ [(cA, .int)]) s) : cA = cy 1 := Option.some.inj ((h.2 4 (cA, .int) rfl).2.symm.trans (h.2 1 (cy 1, .int) rfl).2)
theorem kty_c {cy : Nat → ClassId} {D : va_G} {s : State} {cA : ClassId} (h : va_K D vwCl (kty cy ++ [(cA, .char)]) s) : cA = cy 0 := Option.some.inj ((h.2 4 (cA, .char) rfl).2.symm.trans (h.2 0 (cy 0, .char) rfl).2)
theorem kty_s {cy : Nat → ClassId} {D : va_G} {s : State} {cA : ClassId} (h : va_K D vwCl (kty cy ++ [(cA, .object "ChainLays$Ship")]) s) : cA = cy 2 := by
  obtain ⟨_, _, _, _, _, h1⟩ := (h.2 4 (cA, .object "ChainLays$Ship") rfl).2
  obtain ⟨_, _, _, _, _, h2⟩ := (h.2 2 (cy 2, .object "ChainLays$Ship") rfl).2
  exact Option.some.inj (h1.symm.trans h2)
theorem kty_a {cy : Nat → ClassId} {D : va_G} {s : State} {cA : ClassId} (h : va_K D vwCl (kty cy ++ [(cA, .array .int)]) s) : cA = cy 3 := Option.some.inj ((h.2 4 (cA, .array .int) rfl).2.symm.trans (h.2 3 (cy 3, .array .int) rfl).2)
theorem mna_rows {r : Nat → Nat} {f : Nat → va_E} {e : va_E} (n : Nat) : va_pl ([] ++ (List.range n).map r) (vr_up f ((List.range n).map r) e) = (List.range n).map (fun i => (r i, e)) := by
  unfold va_pl
  rw [List.nil_append, List.map_map]
  apply List.map_congr_left
  intro i hi
  show (r i, vr_up f _ e (r i)) = (r i, e)
  rw [vr_up_in (List.mem_map.mpr ⟨i, hi, rfl⟩)]

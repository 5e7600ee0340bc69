/-! THE REFERENCE AT FIRST -/
def T0l : List Nat := "c3;c4;c4;c6;c8;c8;c5;c4;c3;c2;s2,3,20,2,3,4,200;s5,9,40,3,5,6,300;s7,4,12,1,2,2,60;".toList.map Char.toNat
def T0 : Nat → Nat := fun k => T0l.getD k 0
def N0 : Nat → Nat := (pRead T0 83 200 0 (fun _ => 0)).2
def mI0 : Nat → Nat := fun _ => 0
def mI1 : Nat → Nat := clM mI0 3
def mI2 : Nat → Nat := clM mI1 4
def mI3 : Nat → Nat := clM mI2 4
def mI4 : Nat → Nat := clM mI3 6
def mI5 : Nat → Nat := clM mI4 8
def mI6 : Nat → Nat := clM mI5 8
def mI7 : Nat → Nat := clM mI6 5
def mI8 : Nat → Nat := clM mI7 4
def mI9 : Nat → Nat := clM mI8 3
def mI10 : Nat → Nat := clM mI9 2
def vI0 : Nat → Nat := fun k => [2, 3, 20, 2, 3, 4, 200].getD k 0
def vI1 : Nat → Nat := fun k => [5, 9, 40, 3, 5, 6, 300].getD k 0
def vI2 : Nat → Nat := fun k => [7, 4, 12, 1, 2, 2, 60].getD k 0
def mI11 : Nat → Nat := plc mI10 vI0
def mI12 : Nat → Nat := plc mI11 vI1
def mI13 : Nat → Nat := plc mI12 vI2
theorem T0_len : T0l.length = 83 := by decide +kernel
theorem N0_none : (pRead T0 83 200 0 (fun _ => 0)).1 = none := by decide +kernel
theorem N0_is : ∀ k, k < 88 → mI13 k = N0 k := by decide +kernel
theorem N0_0 : N0 0 = 10 := by decide +kernel
theorem N0_1 : N0 1 = 3 := by decide +kernel
theorem N0_ok : nOk N0 := nOk_of (pOk_read 200 0 _ pOk_0) (show 2 ≤ N0 0 by rw [N0_0]; decide) (show 1 ≤ N0 1 by rw [N0_1]; decide)
def Z0 : ZS := (N0, fun _ _ => 0, 0, T0, 0)
theorem init_m {σ τ : Nat → Nat → Int32} {R : Nat → Int32} (h5 : σ 0 5 = nI 0) (hR : ∀ k, k < 88 → R k = nI (mI13 k)) (hs : τ = va_up (va_up σ 1 R) 0 (upd (σ 0) 3 (nI 0))) : rM τ Z0 := by
  subst hs
  refine ⟨fun k hk => ?_, N0_ok, ⟨?_, by decide, fun t ht => absurd ht (Nat.not_lt_zero t)⟩, ⟨?_, by decide, fun k hk => absurd hk (Nat.not_lt_zero k)⟩⟩
  · rw [va_up_ne _ _ (by decide), va_up_self, hR k hk, N0_is k hk]
  · rw [va_up_self, pk_us]
  · rw [va_up_self, pk_un (by decide)]
    exact h5
/-- a constructor's end: a world -/
def dP (h0 : Nat) (e0 : va_E) (cy : Nat → ClassId) (D : va_G) (sz : Nat) (U : State) : Prop := cP h0 e0 cy D sz U ∧ kE cy D (va_A [(h0, e0)] sz) U U.heap
def dQ (h0 : Nat) (e0 : va_E) (D : va_G) (n : Nat) (kc : (Nat → Nat) → Nat → (Nat → Int32) → va_E) (R : (Nat → Nat → Int32) → Prop) (sz : Nat) : Array Value → State → Outcome → State → Prop := va_Qv (fun u : (Nat → Nat) × (Nat → Nat → Int32) => u.1 0 = h0 ∧ R u.2) (fun u t => va_P D vwCl (kW n u.1 (kc u.1) u.2) t.heap ∧ va_D (va_A [(h0, e0)] sz) (kW n u.1 (kc u.1) u.2)) (va_A [(h0, e0)] sz)
theorem d_entry {l : Launch} {y : MethodName} {ws ws' : List Cond} {rm : Room} {h0 : Nat} {e0 : va_E} {cy : Nat → ClassId} {D : va_G} {n : Nat} {kc : (Nat → Nat) → Nat → (Nat → Int32) → va_E} {Rr : (Nat → Nat → Int32) → Prop} {mc ms maxL : Nat} {cc : ByteArray} (hy : plainName y.cls = true) (hw : ws = Cond.code y cc maxL none :: ws') (hlen : 1 ≤ maxL)
    (body : ∀ (p : Program) (e : Env) (s : State) (m : MethodId) (below : List Frame) (meth : Method) (c : Code), p.tables.exec = Jvm.exec → c.code = cc → meth.sig.returnType = none → c.maxLocals = maxL → s.vm.findClass y.cls = some m.cls → (∀ w ∈ ws, w.before #[Value.ref h0] s = true) → meth.locks = false → meth.name = y.name →
      va_K D vwCl (kty cy) s → kX s → kE cy D (va_A [(h0, e0)] s.heap.size) s s.heap → va_P D vwCl [(h0, e0)] s.heap → ∀ ls : Array Slot, lv_has ls maxL [(0, .ref h0)] →
      W p l e (headSpec ws rm).room s m #[Value.ref h0] below meth c s.heap [] 0 0 (MQ below (dQ h0 e0 D n kc Rr s.heap.size) #[Value.ref h0] s mc ms (va_A [(h0, e0)] s.heap.size)) (F0 m 0 ls [])) :
    ∀ sz : Nat, Met l y ws rm (va_Pc [.ref h0] (dP h0 e0 cy D sz)) (dQ h0 e0 D n kc Rr sz) mc ms (va_A [(h0, e0)] sz) := by
  intro sz
  refine Met.ofW (cc := cc) (maxL := maxL) (ret := none) hy hw ?_
  intro p e s m args below meth c s₁ B hml hv
  obtain ⟨rfl, ⟨hsz, hP, hK, hX⟩, hE⟩ := hv
  subst hsz
  have hl := lv_entry ([.ref h0]) (n := maxL) hlen
  rw [lg_entry_eq]
  exact body p e s m below meth c B.exec B.bytes B.returns hml (findClass_of_methodNamed B.named) (atoms_spec (ws := ws) B.pre) B.notSynchronized (name_of_methodNamed B.named B.method).1 hK hX hE hP _ hl
theorem d_blind {h0 : Nat} {e0 : va_E} {cy : Nat → ClassId} {D : va_G} {sz : Nat} : FrameBlind (va_Pc [.ref h0] (dP h0 e0 cy D sz)) := fun a U g mk q => by
  obtain ⟨q0, ⟨q1, qP, qK, qX⟩, qE⟩ := q
  exact ⟨q0, ⟨q1, qP, va_K.moved (u := U) (U := U.calling g mk a) (Vm.Alike.refl U.vm) qK, kX_same rfl qX⟩, kE_same (U := U.calling g mk a) rfl qE⟩

/-! CORE: a world of n cells, cell k at address ad k, its contents by a row of ints (references inside are fixed by ad) -/
def kW (n : Nat) (ad : Nat → Nat) (kc : Nat → (Nat → Int32) → va_E) (σ : Nat → Nat → Int32) : va_W := (List.range n).map (fun k => (ad k, kc k (σ k)))
theorem kW_at {n : Nat} {ad : Nat → Nat} {kc : Nat → (Nat → Int32) → va_E} {σ : Nat → Nat → Int32} {k : Nat} (h : k < n) : (kW n ad kc σ)[k]? = some (ad k, kc k (σ k)) := by
  unfold kW
  rw [List.getElem?_map, List.getElem?_range h]
  rfl
theorem kW_in {n : Nat} {ad : Nat → Nat} {kc : Nat → (Nat → Int32) → va_E} {σ : Nat → Nat → Int32} {k : Nat} {q : Nat × va_E} (h : (kW n ad kc σ)[k]? = some q) : k < n ∧ q = (ad k, kc k (σ k)) := by
  have hk : k < n := by
    have h1 := (List.getElem?_eq_some_iff.mp h).1
    unfold kW at h1
    rwa [List.length_map, List.length_range] at h1
  rw [kW_at hk] at h
  exact ⟨hk, (Option.some.inj h).symm⟩
theorem kW_set {n : Nat} {ad : Nat → Nat} {kc : Nat → (Nat → Int32) → va_E} {σ : Nat → Nat → Int32} {k : Nat} (r : Nat → Int32) (h : k < n) : (kW n ad kc σ).set k (ad k, kc k r) = kW n ad kc (va_up σ k r) := by
  apply List.ext_getElem?
  intro j
  have hl : (kW n ad kc σ).length = n := by unfold kW; rw [List.length_map, List.length_range]
  by_cases hj : j < n
  · rw [kW_at hj]
    by_cases e : j = k
    · subst e
      rw [List.getElem?_set_self (by rw [hl]; exact hj)]
      simp [va_up]
    · rw [List.getElem?_set_ne (Ne.symm e), kW_at hj]
      simp [va_up, e]
  · have h1 : ∀ w : va_W, w.length = n → w[j]? = none := fun w hw => List.getElem?_eq_none (by omega)
    rw [h1 _ (by rw [List.length_set]; exact hl), h1 _ (by unfold kW; rw [List.length_map, List.length_range])]
/-- what a method may change: its world's cells, and new ones -/
def kA (n : Nat) (ad : Nat → Nat) (sz : Nat) : Nat → Prop := fun q => (∃ k, k < n ∧ q = ad k) ∨ sz ≤ q
theorem kD {n : Nat} {ad : Nat → Nat} {kc : Nat → (Nat → Int32) → va_E} {σ σ' : Nat → Nat → Int32} {A : Nat → Prop} (h : va_D A (kW n ad kc σ)) : va_D A (kW n ad kc σ') := by
  refine ⟨fun i j p q hi hj e => ?_, fun k q hk => ?_⟩
  · obtain ⟨h1, rfl⟩ := kW_in hi
    obtain ⟨h2, rfl⟩ := kW_in hj
    exact h.1 i j _ _ (kW_at h1) (kW_at h2) e
  · obtain ⟨h1, rfl⟩ := kW_in hk
    exact h.2 k (ad k, kc k (σ k)) (kW_at h1)
theorem kD_A {n : Nat} {ad : Nat → Nat} {kc : Nat → (Nat → Int32) → va_E} {σ σ' : Nat → Nat → Int32} {A : Nat → Prop} (h : va_D A (kW n ad kc σ)) (sz : Nat) : va_D (kA n ad sz) (kW n ad kc σ') :=
  ⟨(kD h).1, fun k q hk => by obtain ⟨h1, rfl⟩ := kW_in hk; exact Or.inl ⟨k, h1, rfl⟩⟩
/-- the array classes: chars, ints, ships, rows of ints -/
def kty (cy : Nat → ClassId) : List (ClassId × FieldType) := [(cy 0, .char), (cy 1, .int), (cy 2, .object "ChainLays$Ship"), (cy 3, .array .int)]
/-- a static array of ints -/
def kZ (C n : String) (L : List Int32) (A : Nat → Prop) (U : State) (H : Heap) : Prop := ∃ t : Nat, va_Z C n "[I" (.ref t) A U H ∧ va_T .int t L.length (fun j => .int (L.getD j 0)) A U H
def kRUNS : List Int32 := [10, 9, 9, 9, 9, 8, 8, 7, 6, 4, 0]
def kLEAST : List Int32 := [0, 0, 1, 1, 1, 1, 10]
def kMOST : List Int32 := [0, 19, 60, 5, 9, 9, 999]
/-- the nest's private links -/
def kN (U : State) : Prop := va_Nw (.methodLinkNest RX5 53 yX7_within RX7) U ∧ va_Nw (.methodLinkNest RX6 63 yX7_oneIf RX7) U ∧ va_Nw (.methodLinkNest RX1 65 yX7_within RX7) U ∧ va_Nw (.methodLinkNest RX1 151 yX7_oneIf RX7) U
/-- what stands about a world: the classes, the nest's links, the static arrays -/
def kE (cy : Nat → ClassId) (D : va_G) (A : Nat → Prop) (U : State) (H : Heap) : Prop :=
  va_K D vwCl (kty cy) U ∧ kN U ∧ kZ RX2 "RUNS" kRUNS A U H ∧ kZ RX5 "LEAST" kLEAST A U H ∧ kZ RX5 "MOST" kMOST A U H
theorem kZ_to {C n : String} {L : List Int32} {A B : Nat → Prop} {s U : State} {H H1 : Heap} (h : kZ C n L A s H) (hvm : s.vm.Alike U.vm) (hq : ∀ a : Nat, a < H.size → ¬ A a → H1[a]? = H[a]?) (hAB : ∀ q, B q → A q) : kZ C n L B U H1 := by
  obtain ⟨t, h1, h2⟩ := h
  exact ⟨t, ((h1.kept hq).moved hvm).narrow hAB, ((h2.kept hq).moved hvm).narrow hAB⟩
theorem kN_to {s U : State} (hW : s.WarmedH U.vm) (h : kN s) : kN U := ⟨va_Nw.warmM hW h.1, va_Nw.warmM hW h.2.1, va_Nw.warmM hW h.2.2.1, va_Nw.warmM hW h.2.2.2⟩
theorem kE_to {cy : Nat → ClassId} {D : va_G} {A B : Nat → Prop} {s U : State} {H H1 : Heap} (h : kE cy D A s H) (hW : s.WarmedH U.vm) (hq : ∀ a : Nat, a < H.size → ¬ A a → H1[a]? = H[a]?) (hAB : ∀ q, B q → A q) : kE cy D B U H1 :=
  ⟨va_K.moved hW.alike h.1, kN_to hW h.2.1, kZ_to h.2.2.1 hW.alike hq hAB, kZ_to h.2.2.2.1 hW.alike hq hAB, kZ_to h.2.2.2.2 hW.alike hq hAB⟩
theorem kE_same {cy : Nat → ClassId} {D : va_G} {A : Nat → Prop} {u U : State} {H : Heap} (hvm : u.vm = U.vm) (h : kE cy D A u H) : kE cy D A U H := by
  have ha : u.vm.Alike U.vm := by rw [hvm]; exact Vm.Alike.refl _
  exact ⟨va_K.moved ha h.1, ⟨va_Nw.same rfl hvm h.2.1.1, va_Nw.same rfl hvm h.2.1.2.1, va_Nw.same rfl hvm h.2.1.2.2.1, va_Nw.same rfl hvm h.2.1.2.2.2⟩, kZ_to h.2.2.1 ha (fun _ _ _ => rfl) (fun _ h => h), kZ_to h.2.2.2.1 ha (fun _ _ _ => rfl) (fun _ h => h), kZ_to h.2.2.2.2 ha (fun _ _ _ => rfl) (fun _ h => h)⟩
/-- a method's start -/
def kPre (n : Nat) (ad : Nat → Nat) (kc : Nat → (Nat → Int32) → va_E) (cy : Nat → ClassId) (D : va_G) (σ : Nat → Nat → Int32) (sz : Nat) (U : State) : Prop :=
  U.heap.size = sz ∧ va_P D vwCl (kW n ad kc σ) U.heap ∧ va_D (fun _ => True) (kW n ad kc σ) ∧ kE cy D (kA n ad sz) U U.heap
/-- a method's end -/
def kB (n : Nat) (ad : Nat → Nat) (kc : Nat → (Nat → Int32) → va_E) (D : va_G) (σ : Nat → Nat → Int32) (t : State) : Prop := va_P D vwCl (kW n ad kc σ) t.heap
/-- inside a method -/
def kI (n : Nat) (ad : Nat → Nat) (kc : Nat → (Nat → Int32) → va_E) (D : va_G) (A : Nat → Prop) (H0 : Heap) (σ : Nat → Nat → Int32) (H : Heap) (locs : List Loc) : Prop :=
  va_P D vwCl (kW n ad kc σ) H ∧ va_D A (kW n ad kc σ) ∧ va_S A H0 H locs
/-- contracts: an int, nothing, a reference or null; rows in, rows out -/
def kMi (n : Nat) (ad : Nat → Nat) (kc : Nat → (Nat → Int32) → va_E) (cy : Nat → ClassId) (D : va_G) (l : Launch) (y : MethodName) (ws : List Cond) (rm : Room) (av : List Value) (σ : Nat → Nat → Int32) (post : Int32 → (Nat → Nat → Int32) → Prop) : Prop :=
  ∀ sz : Nat, Met l y ws rm (va_Pc av (kPre n ad kc cy D σ sz)) (va_Qi post (kB n ad kc D) (kA n ad sz)) 0 0 (kA n ad sz)
def kMv (n : Nat) (ad : Nat → Nat) (kc : Nat → (Nat → Int32) → va_E) (cy : Nat → ClassId) (D : va_G) (l : Launch) (y : MethodName) (ws : List Cond) (rm : Room) (av : List Value) (σ : Nat → Nat → Int32) (post : (Nat → Nat → Int32) → Prop) : Prop :=
  ∀ sz : Nat, Met l y ws rm (va_Pc av (kPre n ad kc cy D σ sz)) (va_Qv post (kB n ad kc D) (kA n ad sz)) 0 0 (kA n ad sz)
def kMq (n : Nat) (ad : Nat → Nat) (kc : Nat → (Nat → Int32) → va_E) (cy : Nat → ClassId) (D : va_G) (l : Launch) (y : MethodName) (ws : List Cond) (rm : Room) (av : List Value) (σ : Nat → Nat → Int32) (post : Option Nat → (Nat → Nat → Int32) → Prop) : Prop :=
  ∀ sz : Nat, Met l y ws rm (va_Pc av (kPre n ad kc cy D σ sz)) (va_Qq post (kB n ad kc D) (kA n ad sz)) 0 0 (kA n ad sz)
/-- a static method over numbers alone -/
def kMs (l : Launch) (y : MethodName) (ws : List Cond) (rm : Room) (av : List Value) (post : Int32 → Prop) : Prop :=
  Met l y ws rm (fun v _ => v = av.toArray) (vp_Si post) 0 0 (fun _ => False)
section KENTRY
variable {n : Nat} {ad : Nat → Nat} {kc : Nat → (Nat → Int32) → va_E} {cy : Nat → ClassId} {D : va_G} {l : Launch} {y : MethodName} {ws ws' : List Cond} {rm : Room} {av : List Value} {σ : Nat → Nat → Int32} {cc : ByteArray} {maxL : Nat} {ret : Option FieldType}
theorem k_entry {Qc : Nat → Array Value → State → Outcome → State → Prop} (hy : plainName y.cls = true) (hw : ws = Cond.code y cc maxL ret :: ws') (hlen : (lg_sl av).length ≤ maxL)
    (body : ∀ (p : Program) (e : Env) (s : State) (m : MethodId) (below : List Frame) (meth : Method) (c : Code), p.tables.exec = Jvm.exec → c.code = cc → meth.sig.returnType = ret → c.maxLocals = maxL → s.vm.findClass y.cls = some m.cls → (∀ w ∈ ws, w.before av.toArray s = true) → meth.locks = false →
      kE cy D (kA n ad s.heap.size) s s.heap → kI n ad kc D (kA n ad s.heap.size) s.heap σ s.heap [] → ∀ ls : Array Slot, lv_has ls maxL (lv_args 0 av) →
      W p l e (headSpec ws rm).room s m av.toArray below meth c s.heap [] 0 0 (MQ below (Qc s.heap.size) av.toArray s 0 0 (kA n ad s.heap.size)) (F0 m 0 ls [])) :
    ∀ sz : Nat, Met l y ws rm (va_Pc av (kPre n ad kc cy D σ sz)) (Qc sz) 0 0 (kA n ad sz) := by
  intro sz
  refine Met.ofW (cc := cc) (maxL := maxL) (ret := ret) hy hw ?_
  intro p e s m args below meth c s₁ B hml hv
  obtain ⟨rfl, hsz, hP, hD, hE⟩ := hv
  subst hsz
  have hl := lv_entry av (n := maxL) hlen
  rw [lg_entry_eq]
  exact body p e s m below meth c B.exec B.bytes B.returns hml (findClass_of_methodNamed B.named) (atoms_spec (ws := ws) B.pre) B.notSynchronized hE ⟨hP, kD_A hD _, va_S.rf⟩ _ hl
theorem k_entryS {post : Int32 → Prop} (hy : plainName y.cls = true) (hw : ws = Cond.code y cc maxL ret :: ws') (hlen : (lg_sl av).length ≤ maxL)
    (body : ∀ (p : Program) (e : Env) (s : State) (m : MethodId) (below : List Frame) (meth : Method) (c : Code), p.tables.exec = Jvm.exec → c.code = cc → meth.sig.returnType = ret → c.maxLocals = maxL → s.vm.findClass y.cls = some m.cls → (∀ w ∈ ws, w.before av.toArray s = true) → meth.locks = false →
      ∀ ls : Array Slot, lv_has ls maxL (lv_args 0 av) →
      W p l e (headSpec ws rm).room s m av.toArray below meth c s.heap [] 0 0 (MQ below (vp_Si post) av.toArray s 0 0 (fun _ => False)) (F0 m 0 ls [])) :
    kMs l y ws rm av post := by
  refine Met.ofW (cc := cc) (maxL := maxL) (ret := ret) hy hw ?_
  intro p e s m args below meth c s₁ B hml hv
  subst hv
  have hl := lv_entry av (n := maxL) hlen
  rw [lg_entry_eq]
  exact body p e s m below meth c B.exec B.bytes B.returns hml (findClass_of_methodNamed B.named) (atoms_spec (ws := ws) B.pre) B.notSynchronized _ hl
end KENTRY
section KROWS
variable {p : Program} {l : Launch} {e : Env} {R : Room} {s : State} {m : MethodId} {args : Array Value} {below : List Frame} {meth : Method} {c : Code} {H : Heap} {locs : List Loc} {cells slots : Nat} {Q : State → Prop}
variable {cc : ByteArray} {pc : Nat} {ls : Array Slot} {rest st0 : List Value} {n : Nat} {ad : Nat → Nat} {kc : Nat → (Nat → Int32) → va_E} {cy : Nat → ClassId} {D : va_G} {A : Nat → Prop} {σ : Nat → Nat → Int32} {H0 : Heap}
theorem kI_put {H1 : Heap} {locs1 : List Loc} {k : Nat} {e1 : va_E} (r : Nat → Int32) (hk : k < n) (he : e1 = kc k r) (h1 : va_P D vwCl ((kW n ad kc σ).set k (ad k, e1)) H1) (h2 : va_D A ((kW n ad kc σ).set k (ad k, e1))) (h3 : va_S A H0 H1 locs1) : kI n ad kc D A H0 (va_up σ k r) H1 locs1 := by
  rw [he, kW_set r hk] at h1 h2
  exact ⟨h1, h2, h3⟩
/-- getfield of cell k -/
theorem k_get {own C : String} {T : u_T} {N ci index : Nat} {Ts : List Cond} {fs : List Value} {v : Value} (hx : p.tables.exec = Jvm.exec) (hb : c.code = cc) (hts : ∀ w ∈ Ts, w.before args s = true) (hown : s.vm.findClass own = some m.cls) (E : kE cy D A s s.heap) (I : kI n ad kc D A H0 σ H locs) (hin : ∀ w ∈ u_ws C T N, w ∈ Ts)
    (k : Nat) (hk : k < n) {r0 : Nat → Int32} (hr0 : σ k = r0) (hc : kc k r0 = .inr (ci, fs)) (hcl : vwCl[ci]? = some (C, T, N)) (j : Nat) (hj : j < N) (hw : Cond.fieldLink own index (T j).1 (T j).2.1 (T j).2.2.1 ∈ Ts) (hv : fs[j]? = some v) (hdg : decode cc pc = .ok (.getfield index, 3))
    (kk : W p l e R s m args below meth c H locs cells slots Q (F0 m (pc + 3) ls (v :: rest))) : W p l e R s m args below meth c H locs cells slots Q (F0 m pc ls (.ref (ad k) :: rest)) :=
  va_get hx hb hts hin hown E.1 I.1 k (by rw [kW_at hk, hr0, hc]) hcl j hj (hts _ hw) (fun _ h9 => h9) hv hdg kk
/-- putfield of cell k: its row is r then -/
theorem k_put {own C : String} {T : u_T} {N ci index : Nat} {Ts : List Cond} {fs : List Value} {v : Value} {ty0 : Nat → FieldType} {ty : FieldType} (hx : p.tables.exec = Jvm.exec) (hb : c.code = cc) (hts : ∀ w ∈ Ts, w.before args s = true) (hown : s.vm.findClass own = some m.cls) (E : kE cy D A s s.heap) (I : kI n ad kc D A H0 σ H locs) (hin : ∀ w ∈ u_ws C T N, w ∈ Ts) (hty : ∀ k, k < N → parseFieldDescriptor (T k).2.2.1 = some (ty0 k)) (hnm : ∀ a, a < N → ∀ b, b < N → a ≠ b → (T a).2.1 ≠ (T b).2.1)
    (k : Nat) (hk : k < n) {r0 : Nat → Int32} (hr0 : σ k = r0) (hc : kc k r0 = .inr (ci, fs)) (hcl : vwCl[ci]? = some (C, T, N)) (j : Nat) (hj : j < N) (hw : Cond.fieldLink own index (T j).1 (T j).2.1 (T j).2.2.1 ∈ Ts) (hfin : (T j).2.2.2 = false) (hd : ty0 j = ty) (hn : narrow ty v = v) (hfit : fits ty v = true) (hl : j < fs.length) (r : Nat → Int32) (hset : .inr (ci, fs.set j v) = kc k r) {σ2 : Nat → Nat → Int32} (hσ : va_up σ k r = σ2) (hdg : decode cc pc = .ok (.putfield index, 3))
    (kk : ∀ (H1 : Heap) (locs1 : List Loc), kI n ad kc D A H0 σ2 H1 locs1 → W p l e R s m args below meth c H1 locs1 cells slots Q (F0 m (pc + 3) ls rest)) : W p l e R s m args below meth c H locs cells slots Q (F0 m pc ls (v :: .ref (ad k) :: rest)) :=
  va_put (v := v) (ty := ty) hx hb hts hin ty0 hty hnm hown E.1 I.1 I.2.1 I.2.2 k (by rw [kW_at hk, hr0, hc]) hcl j hj (hts _ hw) (fun _ h9 => h9) hfin (by rw [hty j hj, hd]) hn hfit hl hdg (fun H1 locs1 h1 h2 h3 => kk H1 locs1 (hσ ▸ kI_put r hk hset h1 h2 h3))
/-- iaload, iastore, arraylength, aaload of cell k -/
theorem k_iald {len : Nat} {i : Int32} (hx : p.tables.exec = Jvm.exec) (hb : c.code = cc) (E : kE cy D A s s.heap) (I : kI n ad kc D A H0 σ H locs) (k : Nat) (hk : k < n) {r0 : Nat → Int32} (hr0 : σ k = r0) (hc : kc k r0 = .inl (cy 1, len, .inl r0)) (hin : vp_in i len) (hdg : decode cc pc = .ok (.iaload, 1))
    (kk : W p l e R s m args below meth c H locs cells slots Q (F0 m (pc + 1) ls (.int (r0 i.toNatClampNeg) :: rest))) : W p l e R s m args below meth c H locs cells slots Q (F0 m pc ls (.int i :: .ref (ad k) :: rest)) :=
  va_iald hx hb E.1 I.1 k 1 (by rw [kW_at hk, hr0, hc]) rfl hin hdg kk
theorem k_iast {len : Nat} {i x : Int32} (hx : p.tables.exec = Jvm.exec) (hb : c.code = cc) (E : kE cy D A s s.heap) (I : kI n ad kc D A H0 σ H locs) (k : Nat) (hk : k < n) {r0 : Nat → Int32} (hr0 : σ k = r0) (hc : ∀ r, kc k r = .inl (cy 1, len, .inl r)) (hin : vp_in i len) {σ2 : Nat → Nat → Int32} (hσ : va_up σ k (upd r0 i.toNatClampNeg x) = σ2) (hdg : decode cc pc = .ok (.iastore, 1))
    (kk : ∀ (H1 : Heap) (locs1 : List Loc), kI n ad kc D A H0 σ2 H1 locs1 → W p l e R s m args below meth c H1 locs1 cells slots Q (F0 m (pc + 1) ls rest)) : W p l e R s m args below meth c H locs cells slots Q (F0 m pc ls (.int x :: .int i :: .ref (ad k) :: rest)) :=
  va_iast hx hb E.1 I.1 I.2.1 I.2.2 k 1 (by rw [kW_at hk, hr0, hc]) rfl hin hdg (fun H1 locs1 h1 h2 h3 => kk H1 locs1 (hσ ▸ kI_put _ hk (hc _).symm h1 h2 h3))
theorem k_cald {len : Nat} {i : Int32} (hx : p.tables.exec = Jvm.exec) (hb : c.code = cc) (E : kE cy D A s s.heap) (I : kI n ad kc D A H0 σ H locs) (k : Nat) (hk : k < n) {r0 : Nat → Int32} (hr0 : σ k = r0) (hc : kc k r0 = .inl (cy 0, len, .inl r0)) (hin : vp_in i len) (hdg : decode cc pc = .ok (.caload, 1))
    (kk : W p l e R s m args below meth c H locs cells slots Q (F0 m (pc + 1) ls (.int (r0 i.toNatClampNeg) :: rest))) : W p l e R s m args below meth c H locs cells slots Q (F0 m pc ls (.int i :: .ref (ad k) :: rest)) :=
  va_cald hx hb E.1 I.1 k 0 (by rw [kW_at hk, hr0, hc]) rfl hin hdg kk
theorem k_cast {len : Nat} {i x : Int32} (hx : p.tables.exec = Jvm.exec) (hb : c.code = cc) (E : kE cy D A s s.heap) (I : kI n ad kc D A H0 σ H locs) (k : Nat) (hk : k < n) {r0 : Nat → Int32} (hr0 : σ k = r0) (hc : ∀ r, kc k r = .inl (cy 0, len, .inl r)) (hin : vp_in i len) {σ2 : Nat → Nat → Int32} (hσ : va_up σ k (upd r0 i.toNatClampNeg (vp_nar .char x)) = σ2) (hdg : decode cc pc = .ok (.castore, 1))
    (kk : ∀ (H1 : Heap) (locs1 : List Loc), kI n ad kc D A H0 σ2 H1 locs1 → W p l e R s m args below meth c H1 locs1 cells slots Q (F0 m (pc + 1) ls rest)) : W p l e R s m args below meth c H locs cells slots Q (F0 m pc ls (.int x :: .int i :: .ref (ad k) :: rest)) :=
  va_cast hx hb E.1 I.1 I.2.1 I.2.2 k 0 (by rw [kW_at hk, hr0, hc]) rfl hin hdg (fun H1 locs1 h1 h2 h3 => kk H1 locs1 (hσ ▸ kI_put _ hk (hc _).symm h1 h2 h3))
theorem k_alen {len : Nat} {t0 : Nat} {ty : FieldType} {cA : ClassId} {z : (Nat → Int32) ⊕ (Nat → Int64) ⊕ (Nat → UInt32) ⊕ (Nat → UInt64) ⊕ (Nat → Option Nat)} (hx : p.tables.exec = Jvm.exec) (hb : c.code = cc) (E : kE cy D A s s.heap) (I : kI n ad kc D A H0 σ H locs) (k : Nat) (hk : k < n) (hc : kc k (σ k) = .inl (cA, len, z)) (ht : (kty cy)[t0]? = some (cA, ty)) (hdg : decode cc pc = .ok (.arraylength, 1))
    (kk : W p l e R s m args below meth c H locs cells slots Q (F0 m (pc + 1) ls (.int (nI len) :: rest))) : W p l e R s m args below meth c H locs cells slots Q (F0 m pc ls (.ref (ad k) :: rest)) :=
  va_alen (x := (len, z)) hx hb E.1 I.1 k t0 (by rw [kW_at hk, hc]) ht rfl hdg kk
theorem k_aldS {len : Nat} {i : Int32} {f : Nat → Option Nat} (hx : p.tables.exec = Jvm.exec) (hb : c.code = cc) (E : kE cy D A s s.heap) (I : kI n ad kc D A H0 σ H locs) (k : Nat) (hk : k < n) (hc : kc k (σ k) = .inl (cy 2, len, .inr (.inr (.inr (.inr f))))) (hin : vp_in i len) {a : Nat} (ha : f i.toNatClampNeg = some a) (hdg : decode cc pc = .ok (.aaload, 1))
    (kk : W p l e R s m args below meth c H locs cells slots Q (F0 m (pc + 1) ls (.ref a :: rest))) : W p l e R s m args below meth c H locs cells slots Q (F0 m pc ls (.int i :: .ref (ad k) :: rest)) :=
  va_aldq hx hb E.1 I.1 k 2 (by rw [kW_at hk, hc]) rfl hin hdg (by rw [ha]; exact kk)
theorem k_aldA {len : Nat} {i : Int32} {f : Nat → Option Nat} (hx : p.tables.exec = Jvm.exec) (hb : c.code = cc) (E : kE cy D A s s.heap) (I : kI n ad kc D A H0 σ H locs) (k : Nat) (hk : k < n) (hc : kc k (σ k) = .inl (cy 3, len, .inr (.inr (.inr (.inr f))))) (hin : vp_in i len) {a : Nat} (ha : f i.toNatClampNeg = some a) (hdg : decode cc pc = .ok (.aaload, 1))
    (kk : W p l e R s m args below meth c H locs cells slots Q (F0 m (pc + 1) ls (.ref a :: rest))) : W p l e R s m args below meth c H locs cells slots Q (F0 m pc ls (.int i :: .ref (ad k) :: rest)) := by
  have hlt : i.toNatClampNeg < len := Nat.not_le.mp fun q => hin (Or.inr q)
  have h0 : va_at D vwCl (ad k, .inl (cy 3, len, .inr (.inr (.inr (.inr f))))) H := I.1 k _ (by rw [kW_at hk, hc])
  exact W.aald (v := va_rf (f i.toNatClampNeg)) (ty := .array .int) hx hb h0 ((E.1.2 3 (cy 3, .array .int) rfl).1 len (fun j => va_rf (f j))) rfl (fun q => by cases q) (by show ¬ (i < 0 ∨ (arrV _ _ _).slots.size ≤ _); rw [arrV_size]; exact hin) (by show (arrV _ _ _).slots[_]? = _; rw [arrV_read _ _ hlt]) rfl rfl hdg (by rw [ha]; exact kk)
/-- a static array's place, length -/
theorem k_gets {C nm own : String} {L : List Int32} {index : Nat} (hx : p.tables.exec = Jvm.exec) (hb : c.code = cc) {Ts : List Cond} (hts : ∀ w ∈ Ts, w.before args s = true) (hown : s.vm.findClass own = some m.cls) (hZ : kZ C nm L A s s.heap) (hS : va_S A s.heap H locs) (hw : Cond.fieldLink own index C nm "[I" ∈ Ts) (hdg : decode cc pc = .ok (.getstatic index, 3))
    (kk : ∀ t : Nat, va_T .int t L.length (fun j => .int (L.getD j 0)) A s s.heap → W p l e R s m args below meth c H locs cells slots Q (F0 m (pc + 3) ls (.ref t :: rest))) : W p l e R s m args below meth c H locs cells slots Q (F0 m pc ls rest) := by
  obtain ⟨t, h1, h2⟩ := hZ
  exact va_gets hx hb h1 hS hown (hts _ hw) (fun _ h => h) hdg (kk t h2)
theorem k_blind {av : List Value} {sz : Nat} : FrameBlind (va_Pc av (kPre n ad kc cy D σ sz)) := by
  intro a U g mk q
  obtain ⟨q0, q1, q2, q3, q4⟩ := q
  exact ⟨q0, q1, q2, q3, kE_same (u := U) rfl q4⟩
theorem k_pre {av : List Value} (E : kE cy D A s s.heap) (hA : ∀ q, s.heap.size ≤ q → A q) (I : kI n ad kc D A s.heap σ H locs) : ∀ U : State, U.heap = H → s.WarmedH U.vm → va_Pc av (kPre n ad kc cy D σ H.size) av.toArray U := by
  intro U hU hW
  refine ⟨rfl, by rw [hU], by rw [hU]; exact I.1, I.2.1.weaken (fun _ _ _ _ => trivial), ?_⟩
  refine kE_to E hW (fun a h1 h2 => by rw [hU]; exact I.2.2.2.1 a h1 h2) (fun q h => ?_)
  rcases h with ⟨k, hk, rfl⟩ | h
  · exact I.2.1.2 k _ (kW_at hk)
  · exact hA q (Nat.le_trans I.2.2.1 h)
theorem k_sub (hA : ∀ q, s.heap.size ≤ q → A q) (I : kI n ad kc D A s.heap σ H locs) : ∀ q, kA n ad H.size q → A q := by
  intro q h
  rcases h with ⟨k, hk, rfl⟩ | h
  · exact I.2.1.2 k _ (kW_at hk)
  · exact hA q (Nat.le_trans I.2.2.1 h)
variable {y : MethodName} {bytes : ByteArray} {maxL nL na index : Nat} {ret : Option FieldType} {ws Ts : List Cond} {rm : Room} {own C : String} {As : List Value}
theorem k_recv {k ci : Nat} {T : u_T} {N : Nat} {fs : List Value} (E : kE cy D A s s.heap) (I : kI n ad kc D A H0 σ H locs) (hk : k < n) (hc : kc k (σ k) = .inr (ci, fs)) (hcl : vwCl[ci]? = some (C, T, N)) : ∃ cell : Cell, H[ad k]? = some cell ∧ cell.vm.isStatics = false ∧ s.vm.findClass C = some cell.cls :=
  va_recv (q := (C, T, N)) E.1 I.1 hcl (q0 := k) (by rw [kW_at hk, hc])
/-- calls of a method of an object of the world -/
theorem k_calli {post : Int32 → (Nat → Nat → Int32) → Prop} {k : Nat} (S : CallFix p m c cc nL s args Ts own) (hM : kMi n ad kc cy D l y ws rm (.ref (ad k) :: As) σ post) (cw : CallW R s args own C index y bytes maxL ret ws rm 0 0 na) (E : kE cy D A s s.heap) (hA : ∀ q, s.heap.size ≤ q → A q) (I : kI n ad kc D A s.heap σ H locs) (hr : ∃ cell : Cell, H[ad k]? = some cell ∧ cell.vm.isStatics = false ∧ s.vm.findClass C = some cell.cls)
    (hn : As.length = na) (hsize : ls.size = nL) (hstack : st0 = As.reverse ++ .ref (ad k) :: rest) (hW : 2 * (F0 m pc ls st0).monitorRoom + (rest.map fun v => v.category).sum ≤ 8) (hdg : decode cc pc = .ok (.invokevirtual index, 3)) (hf : cells + 0 ≤ R.cells ∧ slots + 0 ≤ R.slots)
    (kk : ∀ (r : Int32) (σ' : Nat → Nat → Int32) (H1 : Heap) (locs1 : List Loc), post r σ' → kI n ad kc D A s.heap σ' H1 locs1 → W p l e R s m args below meth c H1 locs1 cells slots Q (F0 m (pc + 3) ls (.int r :: rest))) : W p l e R s m args below meth c H locs cells slots Q (F0 m pc ls st0) :=
  va_calli (va_runV S (hM H.size) cw ⟨k_blind, hr, k_pre E hA I⟩ rfl hn hsize hstack hW hdg hf) I.2.2 (fun q _ h => k_sub hA I q h) (k_sub hA I) (fun r σ' t H1 locs1 ht _ hp hB _ _ hS => kk r σ' H1 locs1 hp ⟨by rw [← ht]; exact hB, kD I.2.1, hS⟩)
theorem k_callv {post : (Nat → Nat → Int32) → Prop} {k : Nat} (S : CallFix p m c cc nL s args Ts own) (hM : kMv n ad kc cy D l y ws rm (.ref (ad k) :: As) σ post) (cw : CallW R s args own C index y bytes maxL ret ws rm 0 0 na) (E : kE cy D A s s.heap) (hA : ∀ q, s.heap.size ≤ q → A q) (I : kI n ad kc D A s.heap σ H locs) (hr : ∃ cell : Cell, H[ad k]? = some cell ∧ cell.vm.isStatics = false ∧ s.vm.findClass C = some cell.cls)
    (hn : As.length = na) (hsize : ls.size = nL) (hstack : st0 = As.reverse ++ .ref (ad k) :: rest) (hW : 2 * (F0 m pc ls st0).monitorRoom + (rest.map fun v => v.category).sum ≤ 8) (hdg : decode cc pc = .ok (.invokevirtual index, 3)) (hf : cells + 0 ≤ R.cells ∧ slots + 0 ≤ R.slots)
    (kk : ∀ (σ' : Nat → Nat → Int32) (H1 : Heap) (locs1 : List Loc), post σ' → kI n ad kc D A s.heap σ' H1 locs1 → W p l e R s m args below meth c H1 locs1 cells slots Q (F0 m (pc + 3) ls rest)) : W p l e R s m args below meth c H locs cells slots Q (F0 m pc ls st0) :=
  va_callv (va_runV S (hM H.size) cw ⟨k_blind, hr, k_pre E hA I⟩ rfl hn hsize hstack hW hdg hf) I.2.2 (fun q _ h => k_sub hA I q h) (k_sub hA I) (fun σ' t H1 locs1 ht _ hp hB _ _ hS => kk σ' H1 locs1 hp ⟨by rw [← ht]; exact hB, kD I.2.1, hS⟩)
theorem k_callq {post : Option Nat → (Nat → Nat → Int32) → Prop} {k : Nat} (S : CallFix p m c cc nL s args Ts own) (hM : kMq n ad kc cy D l y ws rm (.ref (ad k) :: As) σ post) (cw : CallW R s args own C index y bytes maxL ret ws rm 0 0 na) (E : kE cy D A s s.heap) (hA : ∀ q, s.heap.size ≤ q → A q) (I : kI n ad kc D A s.heap σ H locs) (hr : ∃ cell : Cell, H[ad k]? = some cell ∧ cell.vm.isStatics = false ∧ s.vm.findClass C = some cell.cls)
    (hn : As.length = na) (hsize : ls.size = nL) (hstack : st0 = As.reverse ++ .ref (ad k) :: rest) (hW : 2 * (F0 m pc ls st0).monitorRoom + (rest.map fun v => v.category).sum ≤ 8) (hdg : decode cc pc = .ok (.invokevirtual index, 3)) (hf : cells + 0 ≤ R.cells ∧ slots + 0 ≤ R.slots)
    (kk : ∀ (r : Option Nat) (σ' : Nat → Nat → Int32) (H1 : Heap) (locs1 : List Loc), post r σ' → kI n ad kc D A s.heap σ' H1 locs1 → W p l e R s m args below meth c H1 locs1 cells slots Q (F0 m (pc + 3) ls (va_rf r :: rest))) : W p l e R s m args below meth c H locs cells slots Q (F0 m pc ls st0) :=
  va_callq (va_runV S (hM H.size) cw ⟨k_blind, hr, k_pre E hA I⟩ rfl hn hsize hstack hW hdg hf) I.2.2 (fun q _ h => k_sub hA I q h) (k_sub hA I) (fun r σ' t H1 locs1 ht _ hp hB _ _ hS => kk r σ' H1 locs1 hp ⟨by rw [← ht]; exact hB, kD I.2.1, hS⟩)
/-- calls of a static method over numbers: of the own class, of the nest's host -/
theorem k_calls {post : Int32 → Prop} (S : CallFix p m c cc nL s args Ts own) (hM : kMs l y ws rm As post) (cw : CallB R s args own index y bytes maxL ret ws rm 0 0 na ∧ (Cond.static y).before args s = true)
    (hn : As.length = na) (hsize : ls.size = nL) (hstack : st0 = As.reverse ++ rest) (hW : 2 * (F0 m pc ls st0).monitorRoom + (rest.map fun v => v.category).sum ≤ 8) (hdg : decode cc pc = .ok (.invokestatic index, 3)) (hf : cells + 0 ≤ R.cells ∧ slots + 0 ≤ R.slots)
    (kk : ∀ r : Int32, post r → W p l e R s m args below meth c H locs cells slots Q (F0 m (pc + 3) ls (.int r :: rest))) : W p l e R s m args below meth c H locs cells slots Q (F0 m pc ls st0) :=
  vp_callSi (W.runS S hM cw preEq rfl hn hsize hstack hW hdg hf) kk
theorem k_callsN {post : Int32 → Prop} {host : String} (S : CallFix p m c cc nL s args Ts own) (hM : kMs l y ws rm As post) (cw : va_CN R s args own index y host bytes maxL ret ws rm 0 0 na ∧ (Cond.static y).before args s = true ∧ True)
    (hn : As.length = na) (hsize : ls.size = nL) (hstack : st0 = As.reverse ++ rest) (hW : 2 * (F0 m pc ls st0).monitorRoom + (rest.map fun v => v.category).sum ≤ 8) (hdg : decode cc pc = .ok (.invokestatic index, 3)) (hf : cells + 0 ≤ R.cells ∧ slots + 0 ≤ R.slots)
    (kk : ∀ r : Int32, post r → W p l e R s m args below meth c H locs cells slots Q (F0 m (pc + 3) ls (.int r :: rest))) : W p l e R s m args below meth c H locs cells slots Q (F0 m pc ls st0) :=
  vp_callSi (va_runSN S hM cw preEq rfl hn hsize hstack hW hdg hf).run kk
end KROWS
section KRET
variable {p : Program} {l : Launch} {e : Env} {R : Room} {s : State} {m : MethodId} {args : Array Value} {below : List Frame} {meth : Method} {c : Code} {H : Heap} {locs : List Loc}
variable {cc : ByteArray} {pc : Nat} {ls : Array Slot} {n : Nat} {ad : Nat → Nat} {kc : Nat → (Nat → Int32) → va_E} {D : va_G} {σ : Nat → Nat → Int32}
theorem k_iret {post : Int32 → (Nat → Nat → Int32) → Prop} {v : Int32} (hx : p.tables.exec = Jvm.exec) (hb : c.code = cc) (hr : meth.sig.returnType = some .int) (hlk : meth.locks = false) (I : kI n ad kc D (kA n ad s.heap.size) s.heap σ H locs) (hdg : decode cc pc = .ok (.ireturn, 1)) (hp : post v σ) :
    W p l e R s m args below meth c H locs 0 0 (MQ below (va_Qi post (kB n ad kc D) (kA n ad s.heap.size)) args s 0 0 (kA n ad s.heap.size)) (F0 m pc ls [.int v]) :=
  W.iret hx hb hr (fun t ht hW => ⟨⟨v, σ, rfl, hp, by unfold kB; rw [ht]; exact I.1⟩, I.2.2.F ht⟩) I.2.2.2.2 hdg hlk
theorem k_zret {post : Int32 → (Nat → Nat → Int32) → Prop} {v : Int32} {ty : FieldType} (hx : p.tables.exec = Jvm.exec) (hb : c.code = cc) (hr : meth.sig.returnType = some ty) (hn : narrow ty (.int v) = .int v) (hlk : meth.locks = false) (I : kI n ad kc D (kA n ad s.heap.size) s.heap σ H locs) (hdg : decode cc pc = .ok (.ireturn, 1)) (hp : post v σ) :
    W p l e R s m args below meth c H locs 0 0 (MQ below (va_Qi post (kB n ad kc D) (kA n ad s.heap.size)) args s 0 0 (kA n ad s.heap.size)) (F0 m pc ls [.int v]) :=
  W.zret hx hb hr hn (fun t ht hW => ⟨⟨v, σ, rfl, hp, by unfold kB; rw [ht]; exact I.1⟩, I.2.2.F ht⟩) I.2.2.2.2 hdg hlk
theorem k_vret {post : (Nat → Nat → Int32) → Prop} (hx : p.tables.exec = Jvm.exec) (hb : c.code = cc) (hr : meth.sig.returnType = none) (hlk : meth.locks = false) (I : kI n ad kc D (kA n ad s.heap.size) s.heap σ H locs) (hdg : decode cc pc = .ok (.return_, 1)) (hp : post σ) :
    W p l e R s m args below meth c H locs 0 0 (MQ below (va_Qv post (kB n ad kc D) (kA n ad s.heap.size)) args s 0 0 (kA n ad s.heap.size)) (F0 m pc ls []) :=
  W.vret hx hb hr (fun t ht hW => ⟨⟨σ, rfl, hp, by unfold kB; rw [ht]; exact I.1⟩, I.2.2.F ht⟩) I.2.2.2.2 hdg hlk
theorem k_aret {post : Option Nat → (Nat → Nat → Int32) → Prop} {a : Nat} {ty : FieldType} (hx : p.tables.exec = Jvm.exec) (hb : c.code = cc) (hr : meth.sig.returnType = some ty) (hty : (∃ n, ty = .object n) ∨ ∃ t, ty = .array t) (hlk : meth.locks = false) (I : kI n ad kc D (kA n ad s.heap.size) s.heap σ H locs) (hdg : decode cc pc = .ok (.areturn, 1)) (hp : post (some a) σ) :
    W p l e R s m args below meth c H locs 0 0 (MQ below (va_Qq post (kB n ad kc D) (kA n ad s.heap.size)) args s 0 0 (kA n ad s.heap.size)) (F0 m pc ls [.ref a]) :=
  W.aret hx hb hr hty (Or.inr ⟨a, rfl⟩) (fun t ht hW => ⟨⟨some a, σ, rfl, hp, by unfold kB; rw [ht]; exact I.1⟩, I.2.2.F ht⟩) I.2.2.2.2 hdg hlk
theorem k_nret {post : Option Nat → (Nat → Nat → Int32) → Prop} {ty : FieldType} (hx : p.tables.exec = Jvm.exec) (hb : c.code = cc) (hr : meth.sig.returnType = some ty) (hty : (∃ n, ty = .object n) ∨ ∃ t, ty = .array t) (hlk : meth.locks = false) (I : kI n ad kc D (kA n ad s.heap.size) s.heap σ H locs) (hdg : decode cc pc = .ok (.areturn, 1)) (hp : post none σ) :
    W p l e R s m args below meth c H locs 0 0 (MQ below (va_Qq post (kB n ad kc D) (kA n ad s.heap.size)) args s 0 0 (kA n ad s.heap.size)) (F0 m pc ls [.null]) :=
  W.aret hx hb hr hty (Or.inl rfl) (fun t ht hW => ⟨⟨none, σ, rfl, hp, by unfold kB; rw [ht]; exact I.1⟩, I.2.2.F ht⟩) I.2.2.2.2 hdg hlk
theorem k_isret {post : Int32 → Prop} {v : Int32} (hx : p.tables.exec = Jvm.exec) (hb : c.code = cc) (hr : meth.sig.returnType = some .int) (hlk : meth.locks = false) (hdg : decode cc pc = .ok (.ireturn, 1)) (hp : post v) :
    W p l e R s m args below meth c s.heap [] 0 0 (MQ below (vp_Si post) args s 0 0 (fun _ => False)) (F0 m pc ls [.int v]) :=
  W.iret hx hb hr (fun t ht hW => ⟨v, rfl, hp, ht⟩) (fun q h => by cases h) hdg hlk
theorem k_zsret {post : Int32 → Prop} {v : Int32} {ty : FieldType} (hx : p.tables.exec = Jvm.exec) (hb : c.code = cc) (hr : meth.sig.returnType = some ty) (hn : narrow ty (.int v) = .int v) (hlk : meth.locks = false) (hdg : decode cc pc = .ok (.ireturn, 1)) (hp : post v) :
    W p l e R s m args below meth c s.heap [] 0 0 (MQ below (vp_Si post) args s 0 0 (fun _ => False)) (F0 m pc ls [.int v]) :=
  W.zret hx hb hr hn (fun t ht hW => ⟨v, rfl, hp, ht⟩) (fun q h => by cases h) hdg hlk
end KRET

/-! constructors: what they need of the nest, and the arrays' classes -/
def kNst (U : State) : Prop := va_Nw (.methodLinkNest RX1 9 yX0_init "SeriesWatcher") U ∧ va_Nw (.methodLinkNest RX1 21 yX4_init "SeriesWatcher") U ∧ va_Nw (.methodLinkNest RX2 11 yX4_init "SeriesWatcher") U ∧ va_Nw (.methodLinkNest RX2 27 yX0_init "SeriesWatcher") U ∧ va_Nw (.methodLinkNest RX6 9 yX3_init "SeriesWatcher") U ∧ va_Nw (.methodLinkNest RX6 45 yX4_init "SeriesWatcher") U
def kPreN (D : va_G) (tys : List (ClassId × FieldType)) (sz : Nat) (pre : va_W) : State → Prop := fun U => kPre D tys sz pre U ∧ kNst U
theorem kNst_same {u U : State} (hv : u.vm = U.vm) (h : kNst u) : kNst U := ⟨va_Nw.same rfl hv h.1, va_Nw.same rfl hv h.2.1, va_Nw.same rfl hv h.2.2.1, va_Nw.same rfl hv h.2.2.2.1, va_Nw.same rfl hv h.2.2.2.2.1, va_Nw.same rfl hv h.2.2.2.2.2⟩
theorem kNst_warm {s U : State} (hW : s.WarmedH U.vm) (h : kNst s) : kNst U := ⟨va_Nw.warmM hW h.1, va_Nw.warmM hW h.2.1, va_Nw.warmM hW h.2.2.1, va_Nw.warmM hW h.2.2.2.1, va_Nw.warmM hW h.2.2.2.2.1, va_Nw.warmM hW h.2.2.2.2.2⟩
theorem kblindN {D : va_G} {tys : List (ClassId × FieldType)} {sz : Nat} {pre : va_W} {av : List Value} : FrameBlind (va_Pc av (kPreN D tys sz pre)) := fun a U g mk q => by
  obtain ⟨q0, q1, q2⟩ := q
  exact ⟨q0, (kblind (av := av) a U g mk ⟨q0, q1⟩).2, kNst_same (u := U) rfl q2⟩
theorem kOfWN {l : Launch} {y : MethodName} {ws ws' : List Cond} {rm : Room} {cc : ByteArray} {maxL : Nat} {ret : Option FieldType} {D : va_G} {tys : List (ClassId × FieldType)} {pre : va_W} {av : List Value} {mc ms sz : Nat} (Qk : (Nat → Prop) → Array Value → State → Outcome → State → Prop)
    (hy : plainName y.cls = true) (hw : ws = Cond.code y cc maxL ret :: ws') (hsl : (lg_sl av).length ≤ maxL)
    (body : ∀ (p : Program) (e : Env) (s : State) (m : MethodId) (below : List Frame) (meth : Method) (c : Code) (A : Nat → Prop) (ls : Array Slot), p.tables.exec = Jvm.exec → c.code = cc → meth.sig.returnType = ret → c.maxLocals = maxL → (∀ w ∈ ws, w.before av.toArray s = true) → s.vm.findClass y.cls = some m.cls → meth.locks = false → meth.name = y.name → (∀ q : Nat, s.heap.size ≤ q → A q) → va_P D vwCl pre s.heap → va_K D vwCl tys s → va_D A pre → s.heap.size = sz → kNst s → lv_has ls maxL (lv_args 0 av) → W p l e rm s m av.toArray below meth c s.heap [] 0 0 (MQ below (Qk A) av.toArray s mc ms A) (F0 m 0 ls [])) :
    Met l y ws rm (va_Pc av (kPreN D tys sz pre)) (Qk (va_A pre sz)) mc ms (va_A pre sz) := by
  refine Met.ofW (cc := cc) (maxL := maxL) (ret := ret) hy hw ?_
  intro p e s m args below meth c s₁ B hml hv
  obtain ⟨rfl, ⟨hsz, hP, hK, hD0⟩, hN⟩ := hv
  have hl := lv_entry av (n := maxL) hsl
  rw [lg_entry_eq]
  exact body p e s m below meth c (va_A pre sz) _ B.exec B.bytes B.returns hml (atoms_spec (ws := ws) B.pre) (findClass_of_methodNamed B.named) B.notSynchronized (name_of_methodNamed B.named B.method).1 (fun q h => Or.inr (by rw [← hsz]; exact h)) hP hK hD0.self hsz hN hl
theorem kpreSN {s : State} {H : Heap} {D : va_G} {tys : List (ClassId × FieldType)} {ws pre : va_W} {A : Nat → Prop} (hK : va_K D vwCl tys s) (hP : va_P D vwCl ws H) (hD : va_D A ws) (hN : kNst s) (is : List Nat) (hn : va_nd is = true) (hC : is.map (fun i => ws[i]?) = pre.map some) {As : List Value} : PreS s H (va_Pc As (kPreN D tys H.size pre)) As :=
  ⟨kblindN, fun U hU hW => ⟨rfl, ((kpreS hK hP hD is hn hC (As := As)).2 U hU hW).2, kNst_warm hW hN⟩⟩
theorem kArrI {D : va_G} {cI cZ cJ cA : ClassId} {s : State} (h : va_K D vwCl (tyA cI cZ cJ ++ [(cA, .int)]) s) : cA = cI := by
  have h1 := (h.2 0 (cI, .int) rfl).2
  have h2 := (h.2 2 (cA, .int) rfl).2
  exact (Option.some.inj (h1.symm.trans h2)).symm
theorem kArrZ {D : va_G} {cI cZ cJ cA : ClassId} {s : State} (h : va_K D vwCl (tyA cI cZ cJ ++ [(cA, .boolean)]) s) : cA = cZ := by
  have h1 := (h.2 1 (cZ, .boolean) rfl).2
  have h2 := (h.2 2 (cA, .boolean) rfl).2
  exact (Option.some.inj (h1.symm.trans h2)).symm
/-- the class of an array, out of the tables' word -/
theorem kArrOf {args : Array Value} {s : State} {ty : FieldType} (h : (Cond.arrayClass ty).before args s = true) : ∃ cA : ClassId, ArrOfT s cA ty ∧ s.vm.findClass ("[" ++ ty.toString) = some cA := by
  obtain ⟨cA, kA, comp, h1, h2, h3⟩ := Cond.arrayClass_spec h
  exact ⟨cA, fun n z => ⟨fun k h => (by cases h), kA, h2, comp, h3⟩, h1⟩

/-! methods with a table of handlers of their own, that let nothing out -/
theorem kMetH {l : Launch} {y : MethodName} {ws ws' : List Cond} {rm : Room} {Pc : Array Value → State → Prop} {Qc : Array Value → State → Outcome → State → Prop} {mc ms : Nat} {free : Addr → Prop} {cc : ByteArray} {maxL : Nat} {ret : Option FieldType} {hh : List (Nat × Nat × Nat × Nat)}
    (hy : plainName y.cls = true) (hw : ws = Cond.codeWith y cc maxL ret hh :: ws')
    (body : ∀ p e s m args below meth c s₁, BodyLoose p l y (headSpec ws rm) cc maxL ret e s m args below meth c s₁ → c.maxLocals = maxL → Pc args s →
      W p l e (headSpec ws rm).room s m args below meth c s.heap [] 0 0 (MQ below Qc args s mc ms free) (entryFrame m args maxL)) : Met l y ws rm Pc Qc mc ms free := by
  refine MetFree.of_bodyS (code := cc) (maxLocals := maxL) (ret := ret) hy ?_ ?_
  · intro args s m h hn
    obtain ⟨m9, meth, c, hn9, h1, h2, h3, h4, -, h5, h6, -⟩ := Cond.codeWith_spec (atoms_spec (ws := ws) h _ (by rw [hw]; exact List.mem_cons_self))
    cases hn.symm.trans hn9
    exact ⟨meth, c, h1, h2, h3, h4, h5, h6⟩
  · intro p e s m args below meth c s₁ B hml hP _
    have hh0 : s₁.heap = s.heap := by rw [B.state]; rfl
    obtain ⟨t, a1, o, b1, b2, b3⟩ := body p e s m args below meth c s₁ B hml hP s₁ hh0 (Stand.of_body B)
    exact ⟨t, o, a1, b1, b2, b3⟩
theorem kOfWH {l : Launch} {y : MethodName} {ws ws' : List Cond} {rm : Room} {cc : ByteArray} {maxL : Nat} {ret : Option FieldType} {hh : List (Nat × Nat × Nat × Nat)} {D : va_G} {tys : List (ClassId × FieldType)} {pre : va_W} {av : List Value} {mc ms sz : Nat} (Qk : (Nat → Prop) → Array Value → State → Outcome → State → Prop)
    (hy : plainName y.cls = true) (hw : ws = Cond.codeWith y cc maxL ret hh :: ws') (hsl : (lg_sl av).length ≤ maxL)
    (body : ∀ (p : Program) (e : Env) (s : State) (m : MethodId) (below : List Frame) (meth : Method) (c : Code) (A : Nat → Prop) (ls : Array Slot), p.tables.exec = Jvm.exec → c.code = cc → meth.sig.returnType = ret → c.maxLocals = maxL → (∀ w ∈ ws, w.before av.toArray s = true) → s.vm.findClass y.cls = some m.cls → meth.locks = false → c.exceptionTable.toList = tableOf hh → (∀ q : Nat, s.heap.size ≤ q → A q) → va_P D vwCl pre s.heap → va_K D vwCl tys s → va_D A pre → s.heap.size = sz → kEx A s s.heap → lv_has ls maxL (lv_args 0 av) → W p l e rm s m av.toArray below meth c s.heap [] 0 0 (MQ below (Qk A) av.toArray s mc ms A) (F0 m 0 ls [])) :
    Met l y ws rm (va_Pc av (kPreX D tys sz pre)) (Qk (va_A pre sz)) mc ms (va_A pre sz) := by
  refine kMetH (cc := cc) (maxL := maxL) (ret := ret) (hh := hh) hy hw ?_
  intro p e s m args below meth c s₁ B hml hv
  obtain ⟨rfl, ⟨hsz, hP, hK, hD0⟩, hE⟩ := hv
  have hl := lv_entry av (n := maxL) hsl
  have hT := vx_table (x := y) B (atoms_spec (ws := ws) B.pre _ (by rw [hw]; exact List.mem_cons_self))
  rw [lg_entry_eq]
  exact body p e s m below meth c (va_A pre sz) _ B.exec B.bytes B.returns hml (atoms_spec (ws := ws) B.pre) (findClass_of_methodNamed B.named) B.notSynchronized hT (fun q h => Or.inr (by rw [← hsz]; exact h)) hP hK hD0.self hsz hE hl
/-- the handler of the exception of this very class, the first in the table -/
theorem kcatch0 {p : Program} {l : Launch} {e : Env} {R : Room} {s : State} {m : MethodId} {args : Array Value} {below : List Frame} {meth : Method} {c : Code} {H : Heap} {locs : List Loc} {cells slots : Nat} {Q : State → Prop} {pc : Nat} {ls : Array Slot} {rest : List Value} {own E : String} {ce : Cell} {q : Addr} {A : Nat → Prop} {z : Nat × Nat × Nat × Nat} {hh : List (Nat × Nat × Nat × Nat)}
    (hown : s.vm.findClass own = some m.cls) (hT : c.exceptionTable.toList = tableOf (z :: hh)) (hz : covers ⟨z.1, z.2.1, z.2.2.1, z.2.2.2⟩ pc = true) (h0 : z.2.2.2 ≠ 0) (hlink : (Cond.classLink own z.2.2.2 E).before args s = true) (hE : kEx A s s.heap) (hc : Cond.castable E E ∈ kNgL)
    (hcell : H[q]? = some ce) (hv : ce.vm = .none) (hcl : s.vm.findClass E = some ce.cls)
    (kk : W p l e R s m args below meth c H locs cells slots Q (F0 m z.2.2.1 ls [.ref q])) : vx_W p l e R s m args below meth c H locs cells slots Q (F0 m pc ls rest) q :=
  vx_catch hown [] ⟨z.1, z.2.1, z.2.2.1, z.2.2.2⟩ (tableOf hh) hT (fun _ h => absurd h List.not_mem_nil) hz h0 hlink (va_Nw.use rfl (hE.2.2.2.1 _ hc)) hcell hv hcl kk
/-- .. the second, the first being of another class -/
theorem kcatch1 {p : Program} {l : Launch} {e : Env} {R : Room} {s : State} {m : MethodId} {args : Array Value} {below : List Frame} {meth : Method} {c : Code} {H : Heap} {locs : List Loc} {cells slots : Nat} {Q : State → Prop} {pc : Nat} {ls : Array Slot} {rest : List Value} {own E nm : String} {ce : Cell} {q : Addr} {A : Nat → Prop} {y z : Nat × Nat × Nat × Nat} {hh : List (Nat × Nat × Nat × Nat)}
    (hown : s.vm.findClass own = some m.cls) (hT : c.exceptionTable.toList = tableOf (y :: z :: hh)) (hz : covers ⟨z.1, z.2.1, z.2.2.1, z.2.2.2⟩ pc = true) (h0 : z.2.2.2 ≠ 0) (hlink : (Cond.classLink own z.2.2.2 E).before args s = true) (hE : kEx A s s.heap) (hc : Cond.castable E E ∈ kNgL)
    (hy0 : y.2.2.2 ≠ 0) (hyl : (Cond.classLink own y.2.2.2 nm).before args s = true) (hyn : va_Nc E nm s)
    (hcell : H[q]? = some ce) (hv : ce.vm = .none) (hcl : s.vm.findClass E = some ce.cls)
    (kk : W p l e R s m args below meth c H locs cells slots Q (F0 m z.2.2.1 ls [.ref q])) : vx_W p l e R s m args below meth c H locs cells slots Q (F0 m pc ls rest) q :=
  vx_catch hown [⟨y.1, y.2.1, y.2.2.1, y.2.2.2⟩] ⟨z.1, z.2.1, z.2.2.1, z.2.2.2⟩ (tableOf hh) hT (fun x h => by
    rcases List.mem_singleton.mp h with rfl
    exact Or.inr ⟨hy0, nm, hyl, hyn⟩) hz h0 hlink (va_Nw.use rfl (hE.2.2.2.1 _ hc)) hcell hv hcl kk
theorem kNcA : Cond.castable "java/lang/IllegalArgumentException" "java/lang/IllegalArgumentException" ∈ kNgL := by decide +kernel
theorem kNcB : Cond.castable "java/lang/IllegalStateException" "java/lang/IllegalStateException" ∈ kNgL := by decide +kernel
theorem kNcC : Cond.castable "java/lang/IndexOutOfBoundsException" "java/lang/IndexOutOfBoundsException" ∈ kNgL := by decide +kernel

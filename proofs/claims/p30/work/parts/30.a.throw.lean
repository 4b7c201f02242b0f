/-! methods that throw: what they need of the machine, and how a throw and its way out are walked -/
/-- the words of a throw that aren't good ones -/
def kNgL : List Cond := (vx_atS RX6 158 "java/lang/IllegalArgumentException" ["java/lang/RuntimeException", "java/lang/Exception"] ++ (vx_atS RX6 168 "java/lang/IllegalStateException" ["java/lang/RuntimeException", "java/lang/Exception"] ++ vx_atS RX6 197 "java/lang/IndexOutOfBoundsException" ["java/lang/RuntimeException", "java/lang/Exception"])).filter (fun w => !goodWord w)
theorem kNgL_ok : kNgL.all (fun w => w.onTables && w.faceAtom) = true := by decide +kernel
theorem kNgL_w {w : Cond} (h : w ∈ kNgL) : w.onTables = true ∧ w.faceAtom = true := by
  have := List.all_eq_true.mp kNgL_ok w h
  rwa [Bool.and_eq_true] at this
theorem kNw_warm {w : Cond} {s U : State} (h1 : w.onTables = true) (h2 : w.faceAtom = true) (hW : s.WarmedH U.vm) (hZ : va_Nw w s) : va_Nw w U := va_tabs h1 (rfl : (s.setVm U.vm).vm = U.vm) (Cond.faceAtom_setVm hW.alike w h2 hZ)
def kEx (A : Nat → Prop) (U : State) (H : Heap) : Prop := vx_Zq Bundle.tN "UNASSIGNED_STACK" Bundle.steD A U H ∧ vx_Zq Bundle.tN "SUPPRESSED_SENTINEL" Bundle.listD A U H ∧
  ((∃ a, vk_R RX6 191 "out of range" a U) ∧ (∃ a, vk_R RX6 195 "there is none of this number" a U) ∧ (∃ a, vk_R RX6 198 "there would be too many values" a U) ∧ (∃ a, vk_R RX6 156 "a segment would be shorter than the least length" a U) ∧ ∃ a, vk_R RX6 166 "too many values to try every division" a U) ∧
  (∀ w ∈ kNgL, va_Nw w U) ∧ va_Nc "java/lang/IllegalStateException" "java/lang/IllegalArgumentException" U ∧ va_Nc "java/lang/IllegalArgumentException" "java/lang/IndexOutOfBoundsException" U
theorem kEx_blind {A : Nat → Prop} {U : State} {g : JFrame} {mk : MethodId} {a : Array Value} (h : kEx A U U.heap) : kEx A (U.calling g mk a) (U.calling g mk a).heap := by
  obtain ⟨h1, h2, ⟨⟨a1, s1⟩, ⟨a2, s2⟩, ⟨a3, s3⟩, ⟨a4, s4⟩, ⟨a5, s5⟩⟩, h4, h5, h6⟩ := h
  exact ⟨vx_Zq.moved (u := U) (Vm.Alike.refl U.vm) h1, vx_Zq.moved (u := U) (Vm.Alike.refl U.vm) h2, ⟨⟨a1, vk_R.same (u := U) rfl s1⟩, ⟨a2, vk_R.same (u := U) rfl s2⟩, ⟨a3, vk_R.same (u := U) rfl s3⟩, ⟨a4, vk_R.same (u := U) rfl s4⟩, ⟨a5, vk_R.same (u := U) rfl s5⟩⟩, fun w hw => va_Nw.same (kNgL_w hw).1 (u := U) rfl (h4 w hw), va_Nc.moved (u := U) (Vm.Alike.refl U.vm) h5, va_Nc.moved (u := U) (Vm.Alike.refl U.vm) h6⟩
theorem kEx_call {A B : Nat → Prop} {s U : State} {H : Heap} {locs : List Loc} (h : kEx A s s.heap) (hS : va_S A s.heap H locs) (hB : ∀ q, B q → A q) (hU : U.heap = H) (hW : s.WarmedH U.vm) : kEx B U U.heap := by
  obtain ⟨h1, h2, ⟨⟨a1, s1⟩, ⟨a2, s2⟩, ⟨a3, s3⟩, ⟨a4, s4⟩, ⟨a5, s5⟩⟩, h4, h5, h6⟩ := h
  rw [hU]
  exact ⟨vx_Zq.moved hW.alike (vx_Zq.narrow (vx_Zq.kept h1 hS.2.1) hB), vx_Zq.moved hW.alike (vx_Zq.narrow (vx_Zq.kept h2 hS.2.1) hB), ⟨⟨a1, vk_R.warm hW s1⟩, ⟨a2, vk_R.warm hW s2⟩, ⟨a3, vk_R.warm hW s3⟩, ⟨a4, vk_R.warm hW s4⟩, ⟨a5, vk_R.warm hW s5⟩⟩, fun w hw => kNw_warm (kNgL_w hw).1 (kNgL_w hw).2 hW (h4 w hw), va_Nc.moved hW.alike h5, va_Nc.moved hW.alike h6⟩
def kPreX (D : va_G) (tys : List (ClassId × FieldType)) (sz : Nat) (pre : va_W) : State → Prop := fun U => kPre D tys sz pre U ∧ kEx (va_A pre sz) U U.heap
theorem kblindX {D : va_G} {tys : List (ClassId × FieldType)} {sz : Nat} {pre : va_W} {av : List Value} : FrameBlind (va_Pc av (kPreX D tys sz pre)) := fun a U g mk q => by
  obtain ⟨q0, q1, q2⟩ := q
  exact ⟨q0, (kblind (av := av) a U g mk ⟨q0, q1⟩).2, kEx_blind q2⟩
/-- an exception of the class nm, the world as 'out' says -/
def kXC {S : Type} (nm : String) (D : va_G) (tys : List (ClassId × FieldType)) (A : Nat → Prop) (px : S → Prop) (out : S → va_W) : String → State → State → Prop := vx_X px (fun E u t => E = nm ∧ kPost D tys A out u t) A
theorem kOfWX {l : Launch} {y : MethodName} {ws ws' : List Cond} {rm : Room} {cc : ByteArray} {maxL : Nat} {ret : Option FieldType} {D : va_G} {tys : List (ClassId × FieldType)} {pre : va_W} {av : List Value} {mc ms sz : Nat} (Qk : (Nat → Prop) → Array Value → State → Outcome → State → Prop) (Xk : (Nat → Prop) → String → State → State → Prop)
    (hy : plainName y.cls = true) (hw : ws = Cond.code y cc maxL ret :: ws') (hsl : (lg_sl av).length ≤ maxL)
    (body : ∀ (p : Program) (e : Env) (s : State) (m : MethodId) (below : List Frame) (meth : Method) (c : Code) (A : Nat → Prop) (ls : Array Slot), p.tables.exec = Jvm.exec → c.code = cc → meth.sig.returnType = ret → c.maxLocals = maxL → (∀ w ∈ ws, w.before av.toArray s = true) → s.vm.findClass y.cls = some m.cls → meth.locks = false → (∀ x ∈ c.exceptionTable.toList, False) → (∀ q : Nat, s.heap.size ≤ q → A q) → va_P D vwCl pre s.heap → va_K D vwCl tys s → va_D A pre → s.heap.size = sz → kEx A s s.heap → lv_has ls maxL (lv_args 0 av) → W p l e rm s m av.toArray below meth c s.heap [] 0 0 (vx_MQ below (Qk A) (Xk A) av.toArray s mc ms A) (F0 m 0 ls [])) :
    vx_Met l y ws rm (va_Pc av (kPreX D tys sz pre)) (Qk (va_A pre sz)) (Xk (va_A pre sz)) mc ms (va_A pre sz) := by
  refine vx_ofW (cc := cc) (maxL := maxL) (ret := ret) hy hw ?_
  intro p e s m args below meth c s₁ B hml hT hv
  obtain ⟨rfl, ⟨hsz, hP, hK, hD0⟩, hE⟩ := hv
  have hl := lv_entry av (n := maxL) hsl
  rw [lg_entry_eq]
  exact body p e s m below meth c (va_A pre sz) _ B.exec B.bytes B.returns hml (atoms_spec (ws := ws) B.pre) (findClass_of_methodNamed B.named) B.notSynchronized hT (fun q h => Or.inr (by rw [← hsz]; exact h)) hP hK hD0.self hsz hE hl
section KX
variable {p : Program} {l : Launch} {e : Env} {R : Room} {s : State} {m : MethodId} {args : Array Value} {below : List Frame} {meth : Method} {c : Code} {H : Heap} {locs : List Loc} {cells slots : Nat} {Q : State → Prop} {pc : Nat} {ls : Array Slot} {rest st0 : List Value}
variable {D : va_G} {tys : List (ClassId × FieldType)} {ws pre wr : va_W} {A : Nat → Prop} {a : Array Value} {mc ms : Nat}
theorem kpreSX (hK : va_K D vwCl tys s) (hP : va_P D vwCl ws H) (hD : va_D A ws) (hS : va_S A s.heap H locs) (hA : ∀ q : Nat, s.heap.size ≤ q → A q) (hE : kEx A s s.heap) (is : List Nat) (hn : va_nd is = true) (hC : is.map (fun i => ws[i]?) = pre.map some) {As : List Value} : PreS s H (va_Pc As (kPreX D tys H.size pre)) As :=
  ⟨kblindX, fun U hU hW => ⟨rfl, ((kpreS hK hP hD is hn hC (As := As)).2 U hU hW).2, kEx_call hE hS (va_free hD hS hA is hC) hU hW⟩⟩
theorem kpreVX {b : Nat} {As : List Value} {qc : vw_C} {q0 ci : Nat} {fs : List Value} (hK : va_K D vwCl tys s) (hP : va_P D vwCl ws H) (hD : va_D A ws) (hS : va_S A s.heap H locs) (hA : ∀ q : Nat, s.heap.size ≤ q → A q) (hE : kEx A s s.heap) (hc : vwCl[ci]? = some qc) (he : ws[q0]? = some (b, .inr (ci, fs))) (is : List Nat) (hn : va_nd is = true) (hC : is.map (fun i => ws[i]?) = pre.map some) : PreV s H qc.1 b (va_Pc (.ref b :: As) (kPreX D tys H.size pre)) As :=
  ⟨kblindX, va_recv hK hP hc he, (kpreSX hK hP hD hS hA hE is hn hC).2⟩
/-- a call that throws -/
theorem kcxv {S SX : Type} {px : SX → Prop} {out : SX → va_W} {nm : String} {B : S → State → Prop} {A1 : Nat → Prop}
    (hr : vx_Run p l e R s m args below meth c H locs cells slots mc ms (F0 m pc ls st0) rest (va_Qv (fun _ : S => False) B A1 a) (kXC nm D tys (va_A pre H.size) px out) (va_A pre H.size)) (hA1 : A1 = va_A pre H.size)
    (hP : va_P D vwCl ws H) (hD : va_D A ws) (hS : va_S A s.heap H locs) (hA : ∀ q : Nat, s.heap.size ≤ q → A q) (isC isR : List Nat) (hC : isC.map (fun i => ws[i]?) = pre.map some) (hR : isR.map (fun i => ws[i]?) = wr.map some) (hn : va_nd isR = true) (hdis : ∀ i ∈ isR, i ∉ isC)
    (kx : ∀ (ce : Cell) (q9 : Addr) (u : SX) (H1 : Heap) (locs1 : List Loc), px u → va_P D vwCl (wr ++ out u) H1 → va_D A (wr ++ out u) → va_S A s.heap H1 locs1 → H1[q9]? = some ce → ce.vm = .none → s.vm.findClass nm = some ce.cls → vx_W p l e R s m args below meth c H1 locs1 (cells + mc) (slots + ms) Q (F0 m pc ls rest) q9) :
    W p l e R s m args below meth c H locs cells slots Q (F0 m pc ls st0) := by
  have hF := va_free (wc := pre) hD hS hA isC hC
  subst hA1
  refine vx_callv hr hS (fun q _ h => hF q h) hF (fun q _ h => hF q h) (fun E ce q9 u t H1 locs1 ht hvm hp hB hz1 hk1 hS1 hc1 hc2 hc3 => ?_) (fun u t H1 locs1 ht hvm hw => absurd hw id)
  obtain ⟨rfl, hP1, hK1, hD1⟩ := hB
  rw [ht] at hP1
  obtain ⟨hP2, hD2⟩ := va_join hP hD isC isR hC hR hn hdis hk1 hF hP1 hD1
  exact kx ce q9 u H1 locs1 hp hP2 hD2 hS1 hc1 hc2 hc3
theorem kcxi {S SX : Type} {px : SX → Prop} {out : SX → va_W} {nm : String} {B : S → State → Prop} {A1 : Nat → Prop}
    (hr : vx_Run p l e R s m args below meth c H locs cells slots mc ms (F0 m pc ls st0) rest (va_Qi (fun _ (_ : S) => False) B A1 a) (kXC nm D tys (va_A pre H.size) px out) (va_A pre H.size)) (hA1 : A1 = va_A pre H.size)
    (hP : va_P D vwCl ws H) (hD : va_D A ws) (hS : va_S A s.heap H locs) (hA : ∀ q : Nat, s.heap.size ≤ q → A q) (isC isR : List Nat) (hC : isC.map (fun i => ws[i]?) = pre.map some) (hR : isR.map (fun i => ws[i]?) = wr.map some) (hn : va_nd isR = true) (hdis : ∀ i ∈ isR, i ∉ isC)
    (kx : ∀ (ce : Cell) (q9 : Addr) (u : SX) (H1 : Heap) (locs1 : List Loc), px u → va_P D vwCl (wr ++ out u) H1 → va_D A (wr ++ out u) → va_S A s.heap H1 locs1 → H1[q9]? = some ce → ce.vm = .none → s.vm.findClass nm = some ce.cls → vx_W p l e R s m args below meth c H1 locs1 (cells + mc) (slots + ms) Q (F0 m pc ls rest) q9) :
    W p l e R s m args below meth c H locs cells slots Q (F0 m pc ls st0) := by
  have hF := va_free (wc := pre) hD hS hA isC hC
  subst hA1
  refine vx_calli hr hS (fun q _ h => hF q h) hF (fun q _ h => hF q h) (fun E ce q9 u t H1 locs1 ht hvm hp hB hz1 hk1 hS1 hc1 hc2 hc3 => ?_) (fun r u t H1 locs1 ht hvm hw => absurd hw id)
  obtain ⟨rfl, hP1, hK1, hD1⟩ := hB
  rw [ht] at hP1
  obtain ⟨hP2, hD2⟩ := va_join hP hD isC isR hC hR hn hdis hk1 hF hP1 hD1
  exact kx ce q9 u H1 locs1 hp hP2 hD2 hS1 hc1 hc2 hc3
/-- it goes on to the caller -/
theorem kxout {S : Type} {px : S → Prop} {out : S → va_W} {nm : String} {Qc : Array Value → State → Outcome → State → Prop} {ce : Cell} {q : Addr} (hT : ∀ x ∈ c.exceptionTable.toList, False) (hlocks : meth.locks = false) (hP : va_P D vwCl ws H) (hK : va_K D vwCl tys s) (hD : va_D A ws) (hS : va_S A s.heap H locs) (hcell : H[q]? = some ce) (hv : ce.vm = .none) (hcl : s.vm.findClass nm = some ce.cls) (u : S) (hw : px u) (is : List Nat) (hn : va_nd is = true) (ho : is.map (fun i => ws[i]?) = (out u).map some) (hc : cells ≤ mc) (hs : slots ≤ ms) :
    vx_W p l e R s m args below meth c H locs cells slots (vx_MQ below Qc (kXC nm D tys A px out) args s mc ms A) (F0 m pc ls rest) q :=
  vx_out (fun x hx => (hT x hx).elim) hlocks hcell hv hcl (fun t ht hvm => ⟨u, hw, ⟨rfl, by rw [ht]; exact kPsub hP is ho, va_K.moved hvm hK, hD.sub is hn ho⟩, hS.F ht⟩) hS.2.2 hc hs
/-- 'throw new E("text")' -/
theorem kthrow {S : Type} {px : S → Prop} {out : S → va_W} {Qc : Array Value → State → Outcome → State → Prop} {cc : ByteArray} (hexec : p.tables.exec = Jvm.exec) (hb : c.code = cc) (hlf : l.stackTraces = false) {own cls text : String} {names : List String} {ik is9 ic : Nat}
    (hown : s.vm.findClass own = some m.cls) (hcls : Bundle.fit cls = true) (hnames : ∀ n ∈ names, Bundle.fit n = true) (hk : (Cond.classLink own ik cls).before args s = true) (hini : (Cond.initialized cls).before args s = true) (hstr : ∃ sa, vk_R own is9 text sa s)
    (hat : ∀ w ∈ (vx_atS own ic cls names).filter goodWord, w.before args s = true) (hng : ∀ w ∈ (vx_atS own ic cls names).filter (fun w => !goodWord w), w ∈ kNgL) (hgood : ∀ w ∈ Cond.classLink own ik cls :: Cond.initialized cls :: vx_atS own ic cls names, vx_ot w = true)
    (hT : ∀ x ∈ c.exceptionTable.toList, False) (hlocks : meth.locks = false) (hml : ls.size = c.maxLocals) (hP : va_P D vwCl ws H) (hK : va_K D vwCl tys s) (hD : va_D A ws) (hS : va_S A s.heap H locs) (hE : kEx A s s.heap)
    (d0 : decode cc pc = .ok (.new ik, 3)) (d3 : decode cc (pc + 3) = .ok (.dup, 1)) (d4 : decode cc (pc + 4) = .ok (.ldc is9, 2)) (d6 : decode cc (pc + 6) = .ok (.invokespecial ic, 3)) (d9 : decode cc (pc + 9) = .ok (.athrow, 1))
    (hR1 : names.length + 3 < R.frames) (hR2 : (rest.map fun v => v.category).sum + (13 * (names.length + 1) + 43) ≤ R.locals) (hR3 : cells + 1 ≤ R.cells) (hR4 : slots + 6 ≤ R.slots)
    (u : S) (hw : px u) (is : List Nat) (hn : va_nd is = true) (ho : is.map (fun i => ws[i]?) = (out u).map some) (hc : cells + 1 ≤ mc) (hs : slots + 6 ≤ ms) :
    W p l e R s m args below meth c H locs cells slots (vx_MQ below Qc (kXC cls D tys A px out) args s mc ms A) (F0 m pc ls rest) := by
  obtain ⟨sa, hstr⟩ := hstr
  refine vx_throwS hexec hb hlf hown hcls hnames hk hini hstr (vx_hat (B := kNgL) hat hng (fun w hw => va_Nw.use (kNgL_w hw).1 (hE.2.2.2.1 w hw))) hgood hE.1 hE.2.1 hS hml d0 d3 d4 d6 d9 (fun x hx => (hT x hx).elim) hR1 hR2 hR3 hR4 hlocks (fun t hvm hz hkeep => ?_) hS.2.2 hc hs
  have hP2 : va_P D vwCl ws t.heap := fun k q hq => (hP k q hq).kept (hkeep q.1 (hP k q hq).lt)
  exact ⟨u, hw, ⟨rfl, kPsub hP2 is ho, va_K.moved hvm hK, hD.sub is hn ho⟩, Nat.le_trans hS.1 hz, fun q h1 h2 => by rw [hkeep q (Nat.lt_of_lt_of_le h1 hS.1)]; exact hS.2.1 q h1 h2⟩
end KX
theorem kngA : ∀ w ∈ (vx_atS RX6 158 "java/lang/IllegalArgumentException" ["java/lang/RuntimeException", "java/lang/Exception"]).filter (fun w => !goodWord w), w ∈ kNgL := fun w hw => by unfold kNgL; rw [List.filter_append]; exact List.mem_append_left _ hw
theorem kngB : ∀ w ∈ (vx_atS RX6 168 "java/lang/IllegalStateException" ["java/lang/RuntimeException", "java/lang/Exception"]).filter (fun w => !goodWord w), w ∈ kNgL := fun w hw => by unfold kNgL; rw [List.filter_append, List.filter_append]; exact List.mem_append_right _ (List.mem_append_left _ hw)
theorem kngC : ∀ w ∈ (vx_atS RX6 197 "java/lang/IndexOutOfBoundsException" ["java/lang/RuntimeException", "java/lang/Exception"]).filter (fun w => !goodWord w), w ∈ kNgL := fun w hw => by unfold kNgL; rw [List.filter_append, List.filter_append]; exact List.mem_append_right _ (List.mem_append_right _ hw)
theorem kgdA : ∀ w ∈ Cond.classLink RX6 154 "java/lang/IllegalArgumentException" :: Cond.initialized "java/lang/IllegalArgumentException" :: vx_atS RX6 158 "java/lang/IllegalArgumentException" ["java/lang/RuntimeException", "java/lang/Exception"], vx_ot w = true := by decide +kernel
theorem kgdB : ∀ w ∈ Cond.classLink RX6 164 "java/lang/IllegalStateException" :: Cond.initialized "java/lang/IllegalStateException" :: vx_atS RX6 168 "java/lang/IllegalStateException" ["java/lang/RuntimeException", "java/lang/Exception"], vx_ot w = true := by decide +kernel
theorem kgdC : ∀ w ∈ Cond.classLink RX6 193 "java/lang/IndexOutOfBoundsException" :: Cond.initialized "java/lang/IndexOutOfBoundsException" :: vx_atS RX6 197 "java/lang/IndexOutOfBoundsException" ["java/lang/RuntimeException", "java/lang/Exception"], vx_ot w = true := by decide +kernel

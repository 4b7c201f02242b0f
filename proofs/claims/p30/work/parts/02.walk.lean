abbrev vwCl : List vw_C := [(RX0, TX0, 1), (RX1, TX1, 6), (RX2, TX2, 12), (RX3, TX3, 3), (RX4, TX4, 3), (RX5, TX5, 2), (RX6, TX6, 9)]
/-! how a method is walked here: contracts of one shape, loops, calls, ends -/
abbrev tyA (cI cZ _cJ : ClassId) : List (ClassId × FieldType) := [(cI, .int), (cZ, .boolean)]
def kPre (D : va_G) (tys : List (ClassId × FieldType)) (sz : Nat) (pre : va_W) : State → Prop := fun U => U.heap.size = sz ∧ va_P D vwCl pre U.heap ∧ va_K D vwCl tys U ∧ va_D (fun _ => True) pre
def kPost {S : Type} (D : va_G) (tys : List (ClassId × FieldType)) (A : Nat → Prop) (out : S → va_W) : S → State → Prop := fun u t => va_P D vwCl (out u) t.heap ∧ va_K D vwCl tys t ∧ va_D A (out u)
theorem kblind {D : va_G} {tys : List (ClassId × FieldType)} {sz : Nat} {pre : va_W} {av : List Value} : FrameBlind (va_Pc av (kPre D tys sz pre)) := fun a U g mk q => by
  obtain ⟨q0, q1, qP, qK, qD⟩ := q
  exact ⟨q0, q1, qP, va_K.moved (u := U) (U := U.calling g mk a) (Vm.Alike.refl U.vm) qK, qD⟩
theorem kfm {α β : Type} {f : α → Option β} : ∀ (is : List α) (l : List β), is.map f = l.map some → is.filterMap f = l := by
  intro is
  induction is with
  | nil => intro l h; cases l with
    | nil => rfl
    | cons b l => simp at h
  | cons a is ih => intro l h; cases l with
    | nil => simp at h
    | cons b l =>
      simp only [List.map_cons, List.cons.injEq] at h
      rw [List.filterMap_cons, h.1]
      show b :: List.filterMap f is = b :: l
      rw [ih l h.2]
theorem kPsub {D : va_G} {ws ws' : va_W} {H : Heap} (h : va_P D vwCl ws H) (is : List Nat) (hs : is.map (fun i => ws[i]?) = ws'.map some) : va_P D vwCl ws' H := h.sub is (kfm is ws' hs)
theorem kOfW {l : Launch} {y : MethodName} {ws ws' : List Cond} {rm : Room} {cc : ByteArray} {maxL : Nat} {ret : Option FieldType} {D : va_G} {tys : List (ClassId × FieldType)} {pre : va_W} {av : List Value} {mc ms sz : Nat} (Qk : (Nat → Prop) → Array Value → State → Outcome → State → Prop)
    (hy : plainName y.cls = true) (hw : ws = Cond.code y cc maxL ret :: ws') (hsl : (lg_sl av).length ≤ maxL)
    (body : ∀ (p : Program) (e : Env) (s : State) (m : MethodId) (below : List Frame) (meth : Method) (c : Code) (A : Nat → Prop) (ls : Array Slot), p.tables.exec = Jvm.exec → c.code = cc → meth.sig.returnType = ret → c.maxLocals = maxL → (∀ w ∈ ws, w.before av.toArray s = true) → s.vm.findClass y.cls = some m.cls → meth.locks = false → meth.name = y.name → (∀ q : Nat, s.heap.size ≤ q → A q) → va_P D vwCl pre s.heap → va_K D vwCl tys s → va_D A pre → s.heap.size = sz → lv_has ls maxL (lv_args 0 av) → W p l e rm s m av.toArray below meth c s.heap [] 0 0 (MQ below (Qk A) av.toArray s mc ms A) (F0 m 0 ls [])) :
    Met l y ws rm (va_Pc av (kPre D tys sz pre)) (Qk (va_A pre sz)) mc ms (va_A pre sz) := by
  refine Met.ofW (cc := cc) (maxL := maxL) (ret := ret) hy hw ?_
  intro p e s m args below meth c s₁ B hml hv
  obtain ⟨rfl, hsz, hP, hK, hD0⟩ := hv
  have hl := lv_entry av (n := maxL) hsl
  rw [lg_entry_eq]
  exact body p e s m below meth c (va_A pre sz) _ B.exec B.bytes B.returns hml (atoms_spec (ws := ws) B.pre) (findClass_of_methodNamed B.named) B.notSynchronized (name_of_methodNamed B.named B.method).1 (fun q h => Or.inr (by rw [← hsz]; exact h)) hP hK hD0.self hsz hl
section KW
variable {p : Program} {l : Launch} {e : Env} {R : Room} {s : State} {m : MethodId} {args : Array Value} {below : List Frame} {meth : Method} {c : Code} {H : Heap} {locs : List Loc} {cells slots : Nat} {Q : State → Prop} {pc : Nat} {ls : Array Slot} {rest st0 : List Value}
theorem wl_loop (I : Nat → Heap → List Loc → Array Slot → Prop)
    (step : ∀ (d : Nat) (H : Heap) (locs : List Loc) (ls : Array Slot), I d H locs ls → (∀ (d' : Nat), d' < d → ∀ (H' : Heap) (locs' : List Loc) (ls' : Array Slot), I d' H' locs' ls' → W p l e R s m args below meth c H' locs' cells slots Q (F0 m pc ls' [])) → W p l e R s m args below meth c H locs cells slots Q (F0 m pc ls []))
    (d : Nat) (h : I d H locs ls) : W p l e R s m args below meth c H locs cells slots Q (F0 m pc ls []) := by
  induction d using Nat.strongRecOn generalizing H locs ls with
  | ind d ih => exact step d H locs ls h (fun d' hd H' locs' ls' h' => ih d' hd h')
theorem wt_i {x y : Int32} (h : x = y) (k : W p l e R s m args below meth c H locs cells slots Q (F0 m pc ls (.int y :: rest))) : W p l e R s m args below meth c H locs cells slots Q (F0 m pc ls (.int x :: rest)) := by rw [h]; exact k
theorem wt_l {x y : Int64} (h : x = y) (k : W p l e R s m args below meth c H locs cells slots Q (F0 m pc ls (.long y :: rest))) : W p l e R s m args below meth c H locs cells slots Q (F0 m pc ls (.long x :: rest)) := by rw [h]; exact k
variable {D : va_G} {tys : List (ClassId × FieldType)} {ws pre wr ws9 : va_W} {A : Nat → Prop} {a : Array Value} {mc ms : Nat}
theorem kpreS (hK : va_K D vwCl tys s) (hP : va_P D vwCl ws H) (hD : va_D A ws) (is : List Nat) (hn : va_nd is = true) (hC : is.map (fun i => ws[i]?) = pre.map some) {As : List Value} : PreS s H (va_Pc As (kPre D tys H.size pre)) As :=
  ⟨kblind, fun U hU hW => ⟨rfl, by rw [hU], by rw [hU]; exact kPsub hP is hC, va_K.moved hW.alike hK, (hD.sub is hn hC).weaken (fun _ _ _ _ => trivial)⟩⟩
theorem kpreV {b : Nat} {As : List Value} {qc : vw_C} {q0 ci : Nat} {fs : List Value} (hK : va_K D vwCl tys s) (hP : va_P D vwCl ws H) (hD : va_D A ws) (hc : vwCl[ci]? = some qc) (he : ws[q0]? = some (b, .inr (ci, fs))) (is : List Nat) (hn : va_nd is = true) (hC : is.map (fun i => ws[i]?) = pre.map some) : PreV s H qc.1 b (va_Pc (.ref b :: As) (kPre D tys H.size pre)) As :=
  ⟨kblind, va_recv hK hP hc he, (kpreS hK hP hD is hn hC).2⟩
theorem kci {S : Type} {post : Int32 → S → Prop} {out : S → va_W}
    (hr : va_Run p l e R s m args below meth c H locs cells slots mc ms (F0 m pc ls st0) rest (va_Qi post (kPost D tys (va_A pre H.size) out) (va_A pre H.size) a) (va_A pre H.size))
    (hP : va_P D vwCl ws H) (hD : va_D A ws) (hS : va_S A s.heap H locs) (hA : ∀ q : Nat, s.heap.size ≤ q → A q) (isC isR : List Nat) (hC : isC.map (fun i => ws[i]?) = pre.map some) (hR : isR.map (fun i => ws[i]?) = wr.map some) (hn : va_nd isR = true) (hdis : ∀ i ∈ isR, i ∉ isC)
    (kk : ∀ (r : Int32) (u : S) (H1 : Heap) (locs1 : List Loc), post r u → va_P D vwCl (wr ++ out u) H1 → va_D A (wr ++ out u) → va_S A s.heap H1 locs1 → W p l e R s m args below meth c H1 locs1 (cells + mc) (slots + ms) Q (F0 m (pc + 3) ls (.int r :: rest))) :
    W p l e R s m args below meth c H locs cells slots Q (F0 m pc ls st0) := by
  have hF := va_free (wc := pre) hD hS hA isC hC
  refine va_calli hr hS (fun q _ h => hF q h) hF (fun r u t H1 locs1 ht hvm hw hB hz1 hk1 hS1 => ?_)
  obtain ⟨hP1, hK1, hD1⟩ := hB
  rw [ht] at hP1
  obtain ⟨hP2, hD2⟩ := va_join hP hD isC isR hC hR hn hdis hk1 hF hP1 hD1
  exact kk r u H1 locs1 hw hP2 hD2 hS1
theorem kcv {S : Type} {post : S → Prop} {out : S → va_W}
    (hr : va_Run p l e R s m args below meth c H locs cells slots mc ms (F0 m pc ls st0) rest (va_Qv post (kPost D tys (va_A pre H.size) out) (va_A pre H.size) a) (va_A pre H.size))
    (hP : va_P D vwCl ws H) (hD : va_D A ws) (hS : va_S A s.heap H locs) (hA : ∀ q : Nat, s.heap.size ≤ q → A q) (isC isR : List Nat) (hC : isC.map (fun i => ws[i]?) = pre.map some) (hR : isR.map (fun i => ws[i]?) = wr.map some) (hn : va_nd isR = true) (hdis : ∀ i ∈ isR, i ∉ isC)
    (kk : ∀ (u : S) (H1 : Heap) (locs1 : List Loc), post u → va_P D vwCl (wr ++ out u) H1 → va_D A (wr ++ out u) → va_S A s.heap H1 locs1 → W p l e R s m args below meth c H1 locs1 (cells + mc) (slots + ms) Q (F0 m (pc + 3) ls rest)) :
    W p l e R s m args below meth c H locs cells slots Q (F0 m pc ls st0) := by
  have hF := va_free (wc := pre) hD hS hA isC hC
  refine va_callv hr hS (fun q _ h => hF q h) hF (fun u t H1 locs1 ht hvm hw hB hz1 hk1 hS1 => ?_)
  obtain ⟨hP1, hK1, hD1⟩ := hB
  rw [ht] at hP1
  obtain ⟨hP2, hD2⟩ := va_join hP hD isC isR hC hR hn hdis hk1 hF hP1 hD1
  exact kk u H1 locs1 hw hP2 hD2 hS1
theorem krv {S : Type} {post : S → Prop} {out : S → va_W} {cc : ByteArray} (hx : p.tables.exec = Jvm.exec) (hb : c.code = cc) (hr : meth.sig.returnType = none) (hlocks : meth.locks = false) (hP : va_P D vwCl ws H) (hK : va_K D vwCl tys s) (hD : va_D A ws) (hS : va_S A s.heap H locs) (u : S) (hw : post u) (is : List Nat) (hn : va_nd is = true) (ho : is.map (fun i => ws[i]?) = (out u).map some) (hdg : decode cc pc = .ok (.return_, 1)) :
    W p l e R s m args below meth c H locs cells slots (MQ below (va_Qv post (kPost D tys A out) A) args s cells slots A) (F0 m pc ls []) :=
  W.vret hx hb hr (fun t ht hW => ⟨⟨u, rfl, hw, by rw [ht]; exact kPsub hP is ho, va_K.moved hW.alike hK, hD.sub is hn ho⟩, hS.F ht⟩) hS.2.2 hdg hlocks
theorem kri {S : Type} {post : Int32 → S → Prop} {out : S → va_W} {cc : ByteArray} {v : Int32} (hx : p.tables.exec = Jvm.exec) (hb : c.code = cc) (hr : meth.sig.returnType = some .int) (hlocks : meth.locks = false) (hP : va_P D vwCl ws H) (hK : va_K D vwCl tys s) (hD : va_D A ws) (hS : va_S A s.heap H locs) (u : S) (hw : post v u) (is : List Nat) (hn : va_nd is = true) (ho : is.map (fun i => ws[i]?) = (out u).map some) (hdg : decode cc pc = .ok (.ireturn, 1)) :
    W p l e R s m args below meth c H locs cells slots (MQ below (va_Qi post (kPost D tys A out) A) args s cells slots A) (F0 m pc ls [.int v]) :=
  W.iret (v := v) hx hb hr (fun t ht hW => ⟨⟨v, u, rfl, hw, by rw [ht]; exact kPsub hP is ho, va_K.moved hW.alike hK, hD.sub is hn ho⟩, hS.F ht⟩) hS.2.2 hdg hlocks
theorem krz {S : Type} {post : Int32 → S → Prop} {out : S → va_W} {cc : ByteArray} {v : Int32} (hx : p.tables.exec = Jvm.exec) (hb : c.code = cc) (hr : meth.sig.returnType = some .boolean) (hlocks : meth.locks = false) (hz : v = 0 ∨ v = 1) (hP : va_P D vwCl ws H) (hK : va_K D vwCl tys s) (hD : va_D A ws) (hS : va_S A s.heap H locs) (u : S) (hw : post v u) (is : List Nat) (hn : va_nd is = true) (ho : is.map (fun i => ws[i]?) = (out u).map some) (hdg : decode cc pc = .ok (.ireturn, 1)) :
    W p l e R s m args below meth c H locs cells slots (MQ below (va_Qi post (kPost D tys A out) A) args s cells slots A) (F0 m pc ls [.int v]) :=
  W.zret (v := v) (ty := .boolean) hx hb hr (by rcases hz with rfl | rfl <;> decide) (fun t ht hW => ⟨⟨v, u, rfl, hw, by rw [ht]; exact kPsub hP is ho, va_K.moved hW.alike hK, hD.sub is hn ho⟩, hS.F ht⟩) hS.2.2 hdg hlocks
end KW
theorem kle {a b : Nat} (h : nI a ≤ nI b) (ha : a < 2 ^ 31) (hb : b < 2 ^ 31) : a ≤ b := (nI_leI ha hb).mp h
theorem knle {a b : Nat} (h : ¬ nI a ≤ nI b) (ha : a < 2 ^ 31) (hb : b < 2 ^ 31) : b < a := Nat.lt_of_not_le (fun q => h ((nI_leI ha hb).mpr q))
theorem klt {a b : Nat} (h : nI a < nI b) (ha : a < 2 ^ 31) (hb : b < 2 ^ 31) : a < b := (nI_ltI ha hb).mp h
theorem knlt {a b : Nat} (h : ¬ nI a < nI b) (ha : a < 2 ^ 31) (hb : b < 2 ^ 31) : b ≤ a := Nat.le_of_not_lt (fun q => h ((nI_ltI ha hb).mpr q))
theorem keq {a b : Nat} (h : nI a = nI b) (ha : a < 2 ^ 31) (hb : b < 2 ^ 31) : a = b := (nI_eq ha hb).mp h
theorem kneq {a b : Nat} (h : ¬ nI a = nI b) (ha : a < 2 ^ 31) (hb : b < 2 ^ 31) : a ≠ b := fun q => h ((nI_eq ha hb).mpr q)
theorem wl_join {p : Program} {l : Launch} {e : Env} {R : Room} {s : State} {m : MethodId} {args : Array Value} {below : List Frame} {meth : Method} {c : Code} {H : Heap} {locs : List Loc} {cells slots : Nat} {Q : State → Prop} {g : JFrame} (pc2 : Nat) (I : List Value → Heap → List Loc → Array Slot → Prop)
    (k : ∀ (stk : List Value) (H : Heap) (locs : List Loc) (ls : Array Slot), I stk H locs ls → W p l e R s m args below meth c H locs cells slots Q (F0 m pc2 ls stk))
    (kk : (∀ (stk : List Value) (H : Heap) (locs : List Loc) (ls : Array Slot), I stk H locs ls → W p l e R s m args below meth c H locs cells slots Q (F0 m pc2 ls stk)) → W p l e R s m args below meth c H locs cells slots Q g) : W p l e R s m args below meth c H locs cells slots Q g := kk k
/-- the median of the first n of a sorted row -/
def kmed (f : Nat → Int32) (n : Nat) : Int32 := if n = 0 then 0 else f ((n - 1) / 2)
/-- the sum of differences from the median, one number more -/
def kspr (sp : Int32) (f : Nat → Int32) (n : Nat) (x : Int32) : Int32 := if n = 0 then sp else sp + (if x < f ((n - 1) / 2) then f ((n - 1) / 2) - x else if f (n / 2) < x then x - f (n / 2) else 0)
/-- f2 is f's first n with x put in behind those that aren't above it -/
def kins (f : Nat → Int32) (n : Nat) (x : Int32) (f2 : Nat → Int32) : Prop := ∃ p : Nat, p ≤ n ∧ (∀ j, j < p → f2 j = f j) ∧ f2 p = x ∧ (∀ j, p ≤ j → j < n → f2 (j + 1) = f j) ∧ (p = 0 ∨ ¬ x < f (p - 1)) ∧ ∀ j, p ≤ j → j < n → x < f j
/-- 0 or 1 -/
def kbit (x : Int32) : Prop := x = 0 ∨ x = 1
theorem kzb {x : Int32} (h : kbit x) : vp_nar .boolean x = x := by rcases h with rfl | rfl <;> decide
theorem kb1 {x : Int32} (h : kbit x) (h0 : ¬ x = 0) : x = 1 := h.elim (fun q => absurd q h0) id

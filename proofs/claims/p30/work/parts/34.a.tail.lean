/-! worlds with a part at their end that isn't looked into -/
def kix (a : Nat) : Nat → List Nat
  | 0 => []
  | n + 1 => a :: kix (a + 1) n
theorem kix_map : ∀ (pl X : va_W), (kix X.length pl.length).map (fun i => (X ++ pl)[i]?) = pl.map some
  | [], _ => rfl
  | c :: pl, X => by
    have ih := kix_map pl (X ++ [c])
    rw [List.length_append, List.append_assoc] at ih
    show (X ++ c :: pl)[X.length]? :: (kix (X.length + 1) pl.length).map (fun i => (X ++ c :: pl)[i]?) = some c :: pl.map some
    rw [List.getElem?_append_right (Nat.le_refl _), Nat.sub_self]
    exact congrArg (fun z => some c :: z) ih
theorem kix_in : ∀ (n a i : Nat), i ∈ kix a n → a ≤ i ∧ i < a + n
  | 0, _, _, h => nomatch h
  | n + 1, a, i, h => by
    rcases List.mem_cons.mp h with q | q
    · omega
    · have := kix_in n (a + 1) i q
      omega
theorem kix_nd : ∀ (n a : Nat), va_nd (kix a n) = true
  | 0, _ => rfl
  | n + 1, a => by
    show (decide (a ∉ kix (a + 1) n) && va_nd (kix (a + 1) n)) = true
    rw [kix_nd n (a + 1), Bool.and_true]
    exact decide_eq_true (fun h => by have := kix_in n (a + 1) a h; omega)
theorem knd_app : ∀ (xs ys : List Nat), va_nd xs = true → va_nd ys = true → (∀ i ∈ xs, i ∉ ys) → va_nd (xs ++ ys) = true
  | [], _, _, h, _ => h
  | x :: xs, ys, h1, h2, h3 => by
    have h1' : (decide (x ∉ xs) && va_nd xs) = true := h1
    rw [Bool.and_eq_true] at h1'
    show (decide (x ∉ xs ++ ys) && va_nd (xs ++ ys)) = true
    rw [knd_app xs ys h1'.2 h2 (fun i hi => h3 i (List.mem_cons_of_mem _ hi)), Bool.and_true]
    have hx : x ∉ xs := of_decide_eq_true h1'.1
    exact decide_eq_true (fun h => (List.mem_append.mp h).elim hx (h3 x List.mem_cons_self))
theorem kai {X pl : va_W} : ∀ (is : List Nat) (w : va_W), is.map (fun i => X[i]?) = w.map some → is.map (fun i => (X ++ pl)[i]?) = w.map some
  | [], _, h => h
  | i :: is, [], h => by simp at h
  | i :: is, q :: w, h => by
    simp only [List.map_cons, List.cons.injEq] at h
    obtain ⟨h1, h2⟩ := h
    have hi : i < X.length := (List.getElem?_eq_some_iff.mp h1).1
    show (X ++ pl)[i]? :: is.map (fun i => (X ++ pl)[i]?) = some q :: w.map some
    rw [List.getElem?_append_left hi, h1, kai is w h2]
theorem kai_lt {X : va_W} : ∀ (is : List Nat) (w : va_W), is.map (fun i => X[i]?) = w.map some → ∀ i ∈ is, i < X.length
  | [], _, _, _, h => nomatch h
  | j :: is, [], h, _, _ => by simp at h
  | j :: is, q :: w, h, i, hi => by
    simp only [List.map_cons, List.cons.injEq] at h
    obtain ⟨h1, h2⟩ := h
    rcases List.mem_cons.mp hi with e | e
    · rw [e]; exact (List.getElem?_eq_some_iff.mp h1).1
    · exact kai_lt is w h2 i e
theorem kix0 (X pl : va_W) : (kix 0 X.length).map (fun i => (X ++ pl)[i]?) = X.map some := kai (kix 0 X.length) X (kix_map X [])
theorem kouT {X X' pl : va_W} (is : List Nat) (hs : is.map (fun i => X[i]?) = X'.map some) : (is ++ kix X.length pl.length).map (fun i => (X ++ pl)[i]?) = (X' ++ pl).map some := by
  rw [List.map_append, List.map_append, kai is X' hs, kix_map pl X]
theorem kndT {X X' : va_W} (k : Nat) (is : List Nat) (hn : va_nd is = true) (hs : is.map (fun i => X[i]?) = X'.map some) : va_nd (is ++ kix X.length k) = true :=
  knd_app is _ hn (kix_nd _ _) (fun i h1 h2 => by have := kai_lt is X' hs i h1; have := kix_in _ _ _ h2; omega)
section KT
variable {D : va_G} {A : Nat → Prop} {H : Heap} {X X' pl : va_W}
theorem kpermP (hP : va_P D vwCl (X ++ pl) H) (is : List Nat) (hs : is.map (fun i => X[i]?) = X'.map some) : va_P D vwCl (X' ++ pl) H := kPsub hP (is ++ kix X.length pl.length) (kouT is hs)
theorem kpermD (hD : va_D A (X ++ pl)) (is : List Nat) (hn : va_nd is = true) (hs : is.map (fun i => X[i]?) = X'.map some) : va_D A (X' ++ pl) := hD.sub (is ++ kix X.length pl.length) (kndT _ is hn hs) (kouT is hs)
theorem kflipP (hP : va_P D vwCl (pl ++ X) H) : va_P D vwCl (X ++ pl) H := va_P.app (kPsub hP _ (kix_map X pl)) (kPsub hP _ (kix0 pl X))
theorem kflipD (hD : va_D A (pl ++ X)) : va_D A (X ++ pl) := hD.sub (kix pl.length X.length ++ kix 0 pl.length)
  (knd_app _ _ (kix_nd _ _) (kix_nd _ _) (fun i h1 h2 => by have := kix_in _ _ _ h1; have := kix_in _ _ _ h2; omega))
  (by rw [List.map_append, List.map_append, kix_map X pl, kix0 pl X])
theorem kswapP {a b c : va_W} (hP : va_P D vwCl ((a ++ b) ++ c) H) : va_P D vwCl ((a ++ c) ++ b) H :=
  va_P.app (va_P.app (kPsub hP _ (kai _ _ (kix0 a b))) (kPsub hP _ (kix_map c (a ++ b)))) (kPsub hP _ (kai _ _ (kix_map b a)))
theorem kswapD {a b c : va_W} (hD : va_D A ((a ++ b) ++ c)) : va_D A ((a ++ c) ++ b) :=
  hD.sub ((kix 0 a.length ++ kix (a ++ b).length c.length) ++ kix a.length b.length)
    (knd_app _ _ (knd_app _ _ (kix_nd _ _) (kix_nd _ _) (fun i h1 h2 => by
      have := kix_in _ _ _ h1; have := kix_in _ _ _ h2; rw [List.length_append] at this; omega)) (kix_nd _ _) (fun i h1 h2 => by
      have h3 := kix_in _ _ _ h2
      rcases List.mem_append.mp h1 with q | q
      · have := kix_in _ _ _ q; omega
      · have := kix_in _ _ _ q; rw [List.length_append] at this; omega))
    (by rw [List.map_append, List.map_append, List.map_append, List.map_append, kai _ _ (kix0 a b), kix_map c (a ++ b), kai _ _ (kix_map b a)])
end KT
section KU
variable {p : Program} {l : Launch} {e : Env} {R : Room} {s : State} {m : MethodId} {args : Array Value} {below : List Frame} {meth : Method} {c : Code} {H : Heap} {locs : List Loc} {cells slots : Nat} {Q : State → Prop} {pc : Nat} {ls : Array Slot} {rest st0 : List Value}
variable {D : va_G} {tys : List (ClassId × FieldType)} {X pre wr pl : va_W} {A : Nat → Prop} {a : Array Value} {mc ms : Nat}
/-- a call that is given the part alone -/
theorem klci {post : Int32 → va_W → Prop}
    (hr : va_Run p l e R s m args below meth c H locs cells slots mc ms (F0 m pc ls st0) rest (va_Qi post (kPost D tys (va_A pl H.size) (fun w2 => w2)) (va_A pl H.size) a) (va_A pl H.size))
    (hP : va_P D vwCl (X ++ pl) H) (hD : va_D A (X ++ pl)) (hS : va_S A s.heap H locs) (hA : ∀ q : Nat, s.heap.size ≤ q → A q)
    (kk : ∀ (r : Int32) (w2 : va_W) (H1 : Heap) (locs1 : List Loc), post r w2 → va_P D vwCl (X ++ w2) H1 → va_D A (X ++ w2) → va_S A s.heap H1 locs1 → W p l e R s m args below meth c H1 locs1 (cells + mc) (slots + ms) Q (F0 m (pc + 3) ls (.int r :: rest))) :
    W p l e R s m args below meth c H locs cells slots Q (F0 m pc ls st0) :=
  kci hr hP hD hS hA (kix X.length pl.length) (kix 0 X.length) (kix_map pl X) (kix0 X pl) (kix_nd _ _) (fun i h1 h2 => by have := kix_in _ _ _ h1; have := kix_in _ _ _ h2; omega) kk
theorem klcv {post : va_W → Prop}
    (hr : va_Run p l e R s m args below meth c H locs cells slots mc ms (F0 m pc ls st0) rest (va_Qv post (kPost D tys (va_A pl H.size) (fun w2 => w2)) (va_A pl H.size) a) (va_A pl H.size))
    (hP : va_P D vwCl (X ++ pl) H) (hD : va_D A (X ++ pl)) (hS : va_S A s.heap H locs) (hA : ∀ q : Nat, s.heap.size ≤ q → A q)
    (kk : ∀ (w2 : va_W) (H1 : Heap) (locs1 : List Loc), post w2 → va_P D vwCl (X ++ w2) H1 → va_D A (X ++ w2) → va_S A s.heap H1 locs1 → W p l e R s m args below meth c H1 locs1 (cells + mc) (slots + ms) Q (F0 m (pc + 3) ls rest)) :
    W p l e R s m args below meth c H locs cells slots Q (F0 m pc ls st0) :=
  kcv hr hP hD hS hA (kix X.length pl.length) (kix 0 X.length) (kix_map pl X) (kix0 X pl) (kix_nd _ _) (fun i h1 h2 => by have := kix_in _ _ _ h1; have := kix_in _ _ _ h2; omega) kk
/-- a call that isn't given the part -/
theorem klhi {S : Type} {post : Int32 → S → Prop} {out : S → va_W}
    (hr : va_Run p l e R s m args below meth c H locs cells slots mc ms (F0 m pc ls st0) rest (va_Qi post (kPost D tys (va_A pre H.size) out) (va_A pre H.size) a) (va_A pre H.size))
    (hP : va_P D vwCl (X ++ pl) H) (hD : va_D A (X ++ pl)) (hS : va_S A s.heap H locs) (hA : ∀ q : Nat, s.heap.size ≤ q → A q) (isC isR : List Nat) (hC : isC.map (fun i => X[i]?) = pre.map some) (hR : isR.map (fun i => X[i]?) = wr.map some) (hn : va_nd isR = true) (hdis : ∀ i ∈ isR, i ∉ isC)
    (kk : ∀ (r : Int32) (u : S) (H1 : Heap) (locs1 : List Loc), post r u → va_P D vwCl ((wr ++ out u) ++ pl) H1 → va_D A ((wr ++ out u) ++ pl) → va_S A s.heap H1 locs1 → W p l e R s m args below meth c H1 locs1 (cells + mc) (slots + ms) Q (F0 m (pc + 3) ls (.int r :: rest))) :
    W p l e R s m args below meth c H locs cells slots Q (F0 m pc ls st0) :=
  kci hr hP hD hS hA isC (isR ++ kix X.length pl.length) (kai isC _ hC) (kouT isR hR) (kndT _ isR hn hR)
    (fun i h1 h2 => (List.mem_append.mp h1).elim (fun q => hdis i q h2) (fun q => by have := kix_in _ _ _ q; have := kai_lt isC _ hC i h2; omega))
    (fun r u H1 locs1 hw hP hD hS => kk r u H1 locs1 hw (kswapP hP) (kswapD hD) hS)
theorem klhv {S : Type} {post : S → Prop} {out : S → va_W}
    (hr : va_Run p l e R s m args below meth c H locs cells slots mc ms (F0 m pc ls st0) rest (va_Qv post (kPost D tys (va_A pre H.size) out) (va_A pre H.size) a) (va_A pre H.size))
    (hP : va_P D vwCl (X ++ pl) H) (hD : va_D A (X ++ pl)) (hS : va_S A s.heap H locs) (hA : ∀ q : Nat, s.heap.size ≤ q → A q) (isC isR : List Nat) (hC : isC.map (fun i => X[i]?) = pre.map some) (hR : isR.map (fun i => X[i]?) = wr.map some) (hn : va_nd isR = true) (hdis : ∀ i ∈ isR, i ∉ isC)
    (kk : ∀ (u : S) (H1 : Heap) (locs1 : List Loc), post u → va_P D vwCl ((wr ++ out u) ++ pl) H1 → va_D A ((wr ++ out u) ++ pl) → va_S A s.heap H1 locs1 → W p l e R s m args below meth c H1 locs1 (cells + mc) (slots + ms) Q (F0 m (pc + 3) ls rest)) :
    W p l e R s m args below meth c H locs cells slots Q (F0 m pc ls st0) :=
  kcv hr hP hD hS hA isC (isR ++ kix X.length pl.length) (kai isC _ hC) (kouT isR hR) (kndT _ isR hn hR)
    (fun i h1 h2 => (List.mem_append.mp h1).elim (fun q => hdis i q h2) (fun q => by have := kix_in _ _ _ q; have := kai_lt isC _ hC i h2; omega))
    (fun u H1 locs1 hw hP hD hS => kk u H1 locs1 hw (kswapP hP) (kswapD hD) hS)
/-- a call that is given the part, and some of the rest -/
theorem klxi {S : Type} {post : Int32 → S → Prop} {outC outW : S → va_W}
    (hr : va_Run p l e R s m args below meth c H locs cells slots mc ms (F0 m pc ls st0) rest (va_Qi post (kPost D tys (va_A (pre ++ pl) H.size) (fun u => outC u ++ outW u)) (va_A (pre ++ pl) H.size) a) (va_A (pre ++ pl) H.size))
    (hP : va_P D vwCl (X ++ pl) H) (hD : va_D A (X ++ pl)) (hS : va_S A s.heap H locs) (hA : ∀ q : Nat, s.heap.size ≤ q → A q) (isC isR : List Nat) (hC : isC.map (fun i => X[i]?) = pre.map some) (hR : isR.map (fun i => X[i]?) = wr.map some) (hn : va_nd isR = true) (hdis : ∀ i ∈ isR, i ∉ isC)
    (kk : ∀ (r : Int32) (u : S) (H1 : Heap) (locs1 : List Loc), post r u → va_P D vwCl ((wr ++ outC u) ++ outW u) H1 → va_D A ((wr ++ outC u) ++ outW u) → va_S A s.heap H1 locs1 → W p l e R s m args below meth c H1 locs1 (cells + mc) (slots + ms) Q (F0 m (pc + 3) ls (.int r :: rest))) :
    W p l e R s m args below meth c H locs cells slots Q (F0 m pc ls st0) :=
  kci hr hP hD hS hA (isC ++ kix X.length pl.length) isR (kouT isC hC) (kai isR _ hR) hn
    (fun i h1 h2 => (List.mem_append.mp h2).elim (hdis i h1) (fun q => by have := kix_in _ _ _ q; have := kai_lt isR _ hR i h1; omega))
    (fun r u H1 locs1 hw hP hD hS => kk r u H1 locs1 hw (by rw [List.append_assoc]; exact hP) (by rw [List.append_assoc]; exact hD) hS)
theorem kpreL {b : Nat} {As : List Value} {qc : vw_C} (hK : va_K D vwCl tys s) (hP : va_P D vwCl (X ++ pl) H) (hD : va_D A (X ++ pl)) (hc : vwCl[6]? = some qc) (he : ∃ fs : List Value, pl[0]? = some (b, .inr (6, fs))) : PreV s H qc.1 b (va_Pc (.ref b :: As) (kPre D tys H.size pl)) As := by
  obtain ⟨fs, he⟩ := he
  exact kpreV hK hP hD hc (q0 := X.length) (fs := fs) (by rw [List.getElem?_append_right (Nat.le_refl _), Nat.sub_self]; exact he) (kix X.length pl.length) (kix_nd _ _) (kix_map pl X)
theorem kpreLX (hK : va_K D vwCl tys s) (hP : va_P D vwCl (X ++ pl) H) (hD : va_D A (X ++ pl)) (hS : va_S A s.heap H locs) (hA : ∀ q : Nat, s.heap.size ≤ q → A q) (hE : kEx A s s.heap) {As : List Value} : PreS s H (va_Pc As (kPreX D tys H.size pl)) As :=
  kpreSX hK hP hD hS hA hE (kix X.length pl.length) (kix_nd _ _) (kix_map pl X)
theorem kpreH (hK : va_K D vwCl tys s) (hP : va_P D vwCl (X ++ pl) H) (hD : va_D A (X ++ pl)) (isC : List Nat) (hn : va_nd isC = true) (hC : isC.map (fun i => X[i]?) = pre.map some) {As : List Value} : PreS s H (va_Pc As (kPre D tys H.size pre)) As :=
  kpreS hK hP hD isC hn (kai isC _ hC)
theorem kpreHX (hK : va_K D vwCl tys s) (hP : va_P D vwCl (X ++ pl) H) (hD : va_D A (X ++ pl)) (hS : va_S A s.heap H locs) (hA : ∀ q : Nat, s.heap.size ≤ q → A q) (hE : kEx A s s.heap) (isC : List Nat) (hn : va_nd isC = true) (hC : isC.map (fun i => X[i]?) = pre.map some) {As : List Value} : PreS s H (va_Pc As (kPreX D tys H.size (pre ++ pl))) As :=
  kpreSX hK hP hD hS hA hE (isC ++ kix X.length pl.length) (kndT _ isC hn hC) (kouT isC hC)
end KU
/-- a method whose callees throw: what they need of the machine is given on -/
theorem kOfWE {l : Launch} {y : MethodName} {ws ws' : List Cond} {rm : Room} {cc : ByteArray} {maxL : Nat} {ret : Option FieldType} {D : va_G} {tys : List (ClassId × FieldType)} {pre : va_W} {av : List Value} {mc ms sz : Nat} (Qk : (Nat → Prop) → Array Value → State → Outcome → State → Prop)
    (hy : plainName y.cls = true) (hw : ws = Cond.code y cc maxL ret :: ws') (hsl : (lg_sl av).length ≤ maxL)
    (body : ∀ (p : Program) (e : Env) (s : State) (m : MethodId) (below : List Frame) (meth : Method) (c : Code) (A : Nat → Prop) (ls : Array Slot), p.tables.exec = Jvm.exec → c.code = cc → meth.sig.returnType = ret → c.maxLocals = maxL → (∀ w ∈ ws, w.before av.toArray s = true) → s.vm.findClass y.cls = some m.cls → meth.locks = false → (∀ q : Nat, s.heap.size ≤ q → A q) → va_P D vwCl pre s.heap → va_K D vwCl tys s → va_D A pre → s.heap.size = sz → kEx A s s.heap → lv_has ls maxL (lv_args 0 av) → W p l e rm s m av.toArray below meth c s.heap [] 0 0 (MQ below (Qk A) av.toArray s mc ms A) (F0 m 0 ls [])) :
    Met l y ws rm (va_Pc av (kPreX D tys sz pre)) (Qk (va_A pre sz)) mc ms (va_A pre sz) := by
  refine Met.ofW (cc := cc) (maxL := maxL) (ret := ret) hy hw ?_
  intro p e s m args below meth c s₁ B hml hv
  obtain ⟨rfl, ⟨hsz, hP, hK, hD0⟩, hE⟩ := hv
  have hl := lv_entry av (n := maxL) hsl
  rw [lg_entry_eq]
  exact body p e s m below meth c (va_A pre sz) _ B.exec B.bytes B.returns hml (atoms_spec (ws := ws) B.pre) (findClass_of_methodNamed B.named) B.notSynchronized (fun q h => Or.inr (by rw [← hsz]; exact h)) hP hK hD0.self hsz hE hl
theorem kSt_recv {cI cZ : ClassId} {v hf : Nat → Int32} {n len ll : Nat} {pen bf bl : Int32} {lev o6 : Nat} {w : va_W} (h : kSt cI cZ v hf n len ll pen bf bl lev o6 w) : ∃ fs : List Value, w[0]? = some (o6, .inr (6, fs)) := by
  refine kSt_open h ?_
  intros
  subst_vars
  exact ⟨_, rfl⟩

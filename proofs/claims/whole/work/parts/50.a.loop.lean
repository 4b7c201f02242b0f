/-! the law's loop: what holds at its head -/
abbrev lwA (s : State) : Nat → Prop := fun q => s.heap.size ≤ q
def lwE (p : Program) (l : Launch) (s : State) (m : MethodId) (c : Code) (D : va_G) (cI cZ cJ : ClassId) (b L : Nat) (xs : Nat → Int32) : Prop :=
  p.tables.exec = Jvm.exec ∧ c.code = code ∧ c.maxLocals = 7 ∧ s.vm.findClass RL = some m.cls ∧ (∀ w ∈ wsL_law, w.before #[Value.ref b] s = true) ∧ va_X b L xs s s.heap ∧ b < s.heap.size ∧ va_K D vwCl (tyA cI cZ cJ) s ∧ kEx (lwA s) s s.heap ∧ l.stackTraces = false ∧ L ≤ 1536
def lwI (s : State) (D : va_G) (cI cZ cJ : ClassId) (b i : Nat) (H : Heap) (locs : List Loc) (ls : Array Slot) : Prop :=
  ∃ (v hf : Nat → Int32) (n len ll : Nat) (pen bf bl th : Int32) (o6 o7 fo : Nat) (fo9 : Nat → Int64) (w6 w7 : va_W), kOk v hf n len ll pen bf bl ∧ kSt cI cZ v hf n len ll pen bf bl 0 o6 w6 ∧ kMd cI cZ v hf n len ll pen bf bl th 0 o7 w7 ∧
    va_P D vwCl (w7 ++ (w6 ++ [(fo, .inl (cJ, 1, .inr (.inl fo9)))])) H ∧ va_D (lwA s) (w7 ++ (w6 ++ [(fo, .inl (cJ, 1, .inr (.inl fo9)))])) ∧ va_S (lwA s) s.heap H locs ∧ lv_has ls 7 [(0, .ref b), (1, .ref o6), (2, .ref o7), (3, .ref fo), (4, .int (nI (3 * i)))]
theorem kupL (f : Nat → Int64) (x : Int64) : vp_updL f 0 x 0 = x := by unfold vp_updL; exact if_pos rfl
theorem klc0 (x : Int64) : lg_cmp x x = nI 0 := by
  have h : ¬ x < x := by rw [Int64.lt_iff_toInt_lt]; exact Int.lt_irrefl _
  unfold lg_cmp
  rw [if_neg h]
  simp
  rfl

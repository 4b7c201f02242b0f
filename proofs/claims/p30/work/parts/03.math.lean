/-! the numbers behind both sides: sorted rows, medians, spreads, rows of working values -/
theorem ki_lt {a b : Int32} : a < b ↔ a.toInt < b.toInt := Int32.lt_iff_toInt_lt
theorem ki_le {a b : Int32} : a ≤ b ↔ a.toInt ≤ b.toInt := Int32.le_iff_toInt_le
theorem ki_eq {a b : Int32} : a = b ↔ a.toInt = b.toInt := Int32.toInt_inj.symm
def kSR (f : Nat → Int32) (L : List Int32) : Prop := ∀ (i : Nat) (h : i < L.length), L[i] = f i
def kinsL : List Int32 → Int32 → List Int32
  | [], x => [x]
  | a :: l, x => if x < a then x :: a :: l else a :: kinsL l x
theorem kinsL_app : ∀ (A B : List Int32) (x : Int32), (∀ a ∈ A, ¬ x < a) → (∀ b ∈ B, x < b) → kinsL (A ++ B) x = A ++ x :: B
  | [], [], x, _, _ => rfl
  | [], b :: B, x, _, h => by
    show (if x < b then x :: b :: B else b :: kinsL B x) = x :: b :: B
    rw [if_pos (h b List.mem_cons_self)]
  | a :: A, B, x, h1, h2 => by
    show (if x < a then x :: a :: (A ++ B) else a :: kinsL (A ++ B) x) = a :: (A ++ x :: B)
    rw [if_neg (h1 a List.mem_cons_self), kinsL_app A B x (fun c hc => h1 c (List.mem_cons_of_mem _ hc)) h2]
theorem kinsL_len : ∀ (L : List Int32) (x : Int32), (kinsL L x).length = L.length + 1
  | [], x => rfl
  | a :: l, x => by
    show (if x < a then x :: a :: l else a :: kinsL l x).length = _
    split
    · rfl
    · rw [List.length_cons, kinsL_len l x, List.length_cons]
theorem kSR_ins {f f2 : Nat → Int32} {L : List Int32} {x : Int32} (hf : kSR f L) (hs : L.Pairwise (· ≤ ·)) (h : kins f L.length x f2) : kSR f2 (kinsL L x) ∧ (kinsL L x).Pairwise (· ≤ ·) := by
  obtain ⟨p, hp, h1, h2, h3, h4, h5⟩ := h
  have hl : (L.take p).length = p := by rw [List.length_take]; omega
  have hs2 := hs
  rw [← List.take_append_drop p L] at hs2
  obtain ⟨sA, sB, sX⟩ := List.pairwise_append.mp hs2
  have hA : ∀ a ∈ L.take p, ¬ x < a := by
    intro a ha
    obtain ⟨i, hi, rfl⟩ := List.mem_iff_getElem.mp ha
    have hi' : i < p := by omega
    rcases h4 with h4 | h4
    · omega
    · rw [List.getElem_take]
      have e2 : L[p - 1]'(by omega) = f (p - 1) := hf (p - 1) (by omega)
      rw [← e2] at h4
      rcases Nat.lt_or_ge i (p - 1) with q | q
      · have := List.pairwise_iff_getElem.mp hs i (p - 1) (by omega) (by omega) q
        rw [ki_le] at this
        rw [ki_lt] at h4 ⊢
        omega
      · have e : i = p - 1 := by omega
        subst e
        exact h4
  have hB : ∀ b ∈ L.drop p, x < b := by
    intro b hb
    obtain ⟨i, hi, rfl⟩ := List.mem_iff_getElem.mp hb
    rw [List.length_drop] at hi
    rw [List.getElem_drop, hf (p + i) (by omega)]
    exact h5 (p + i) (by omega) (by omega)
  have e : kinsL L x = L.take p ++ x :: L.drop p := by
    have := kinsL_app (L.take p) (L.drop p) x hA hB
    rwa [List.take_append_drop] at this
  rw [e]
  refine ⟨fun i hi => ?_, List.pairwise_append.mpr ⟨sA, List.pairwise_cons.mpr ⟨fun b hb => ?_, sB⟩, fun a ha b hb => ?_⟩⟩
  · rcases Nat.lt_or_ge i p with q | q
    · rw [List.getElem_append_left (by omega), List.getElem_take, h1 i q]
      exact hf i (by omega)
    · obtain ⟨j, rfl⟩ : ∃ j, i = p + j := ⟨i - p, by omega⟩
      rw [List.getElem_append_right (by omega)]
      cases j with
      | zero =>
        have : p + 0 - (L.take p).length = 0 := by omega
        simp only [this, List.getElem_cons_zero]
        exact h2.symm
      | succ j =>
        have : p + (j + 1) - (L.take p).length = j + 1 := by omega
        simp only [this, List.getElem_cons_succ, List.getElem_drop]
        have hj : p + j < L.length := by
          simp only [List.length_append, List.length_cons, List.length_drop, hl] at hi
          omega
        rw [hf (p + j) hj]
        exact (h3 (p + j) (by omega) hj).symm
  · have := hB b hb
    rw [ki_lt] at this
    rw [ki_le]
    omega
  · rcases List.mem_cons.mp hb with rfl | hb
    · exact Int32.not_lt.mp (hA a ha)
    · exact sX a ha b hb
def ksort (xs : List Int32) : List Int32 := xs.foldl kinsL []
theorem ksort_snoc (xs : List Int32) (x : Int32) : ksort (xs ++ [x]) = kinsL (ksort xs) x := by unfold ksort; rw [List.foldl_append]; rfl
theorem klist_ind {P : List Int32 → Prop} (h0 : P []) (h1 : ∀ l x, P l → P (l ++ [x])) (l : List Int32) : P l := by
  have : ∀ r : List Int32, P r.reverse := by
    intro r
    induction r with
    | nil => exact h0
    | cons a r ih => rw [List.reverse_cons]; exact h1 _ a ih
  have h := this l.reverse
  rwa [List.reverse_reverse] at h
theorem ksort_len (xs : List Int32) : (ksort xs).length = xs.length := by
  refine klist_ind (P := fun xs => (ksort xs).length = xs.length) rfl (fun l x ih => ?_) xs
  rw [ksort_snoc, kinsL_len, ih, List.length_append]
  rfl
def kmedL (L : List Int32) : Int32 := kmed (fun i => L.getD i 0) L.length
def kMed (xs : List Int32) : Int32 := kmedL (ksort xs)
def kspread (xs : List Int32) : Int32 := (xs.foldl (fun (u : List Int32 × Int32) x => (kinsL u.1 x, kspr u.2 (fun i => u.1.getD i 0) u.1.length x)) ([], 0)).2
theorem kspread_fst (xs : List Int32) : (xs.foldl (fun (u : List Int32 × Int32) x => (kinsL u.1 x, kspr u.2 (fun i => u.1.getD i 0) u.1.length x)) ([], 0)).1 = ksort xs := by
  refine klist_ind (P := fun xs => (xs.foldl (fun (u : List Int32 × Int32) x => (kinsL u.1 x, kspr u.2 (fun i => u.1.getD i 0) u.1.length x)) ([], 0)).1 = ksort xs) rfl (fun l x ih => ?_) xs
  rw [ksort_snoc, ← ih, List.foldl_append]
  rfl
theorem kspread_snoc (xs : List Int32) (x : Int32) : kspread (xs ++ [x]) = kspr (kspread xs) (fun i => (ksort xs).getD i 0) (ksort xs).length x := by
  show ((xs ++ [x]).foldl (fun (u : List Int32 × Int32) x => (kinsL u.1 x, kspr u.2 (fun i => u.1.getD i 0) u.1.length x)) ([], 0)).2 = _
  rw [List.foldl_append, ← kspread_fst]
  rfl
/-- a sorted row of n numbers, put in one by one, and the sum of their differences -/
def kRow (xs : List Int32) (n : Nat) (sp : Int32) (f : Nat → Int32) : Prop := n = xs.length ∧ sp = kspread xs ∧ kSR f (ksort xs) ∧ (ksort xs).Pairwise (· ≤ ·)
theorem kSR_getD {f : Nat → Int32} {L : List Int32} (h : kSR f L) {i : Nat} (hi : i < L.length) : L.getD i 0 = f i := by
  rw [← h i hi, List.getD_eq_getElem?_getD, List.getElem?_eq_getElem hi]
  rfl
theorem kmed_congr {f g : Nat → Int32} {n : Nat} (h : ∀ i, i < n → f i = g i) : kmed f n = kmed g n := by
  unfold kmed
  split
  · rfl
  · exact h _ (by omega)
theorem kspr_congr {f g : Nat → Int32} {n : Nat} {sp x : Int32} (h : ∀ i, i < n → f i = g i) : kspr sp f n x = kspr sp g n x := by
  unfold kspr
  split
  · rfl
  · rw [h _ (by omega), h _ (by omega)]
theorem kRow_0 (f : Nat → Int32) : kRow [] 0 (nI 0) f := ⟨rfl, rfl, fun i h => absurd h (by simp [ksort]), List.Pairwise.nil⟩
theorem kRow_ins {xs : List Int32} {n : Nat} {sp sp2 x : Int32} {f f2 : Nat → Int32} (h : kRow xs n sp f) (h2 : sp2 = kspr sp f n x ∧ kins f n x f2) : kRow (xs ++ [x]) (n + 1) sp2 f2 := by
  obtain ⟨rfl, rfl, h3, h4⟩ := h
  obtain ⟨rfl, h6⟩ := h2
  rw [← ksort_len] at h6
  obtain ⟨a, b⟩ := kSR_ins h3 h4 h6
  refine ⟨by rw [List.length_append]; rfl, ?_, by rw [ksort_snoc]; exact a, by rw [ksort_snoc]; exact b⟩
  rw [kspread_snoc, ksort_len]
  exact kspr_congr (fun i hi => (kSR_getD h3 (by rw [ksort_len]; exact hi)).symm)
theorem kRow_med {xs : List Int32} {n : Nat} {sp : Int32} {f : Nat → Int32} (h : kRow xs n sp f) : kmed f n = kMed xs := by
  obtain ⟨rfl, -, h3, -⟩ := h
  unfold kMed kmedL
  rw [ksort_len]
  exact kmed_congr (fun i hi => (kSR_getD h3 (by rw [ksort_len]; exact hi)).symm)
/-- of a, a + 1, .. (m of them) those that are no holidays -/
def kwk (g h : Nat → Int32) (a : Nat) : Nat → List Int32
  | 0 => []
  | m + 1 => kwk g h a m ++ (if h (a + m) = 0 then [g (a + m)] else [])
def kseg (g h : Nat → Int32) (a b : Nat) : List Int32 := kwk g h a (b - a)
theorem kseg_0 (g h : Nat → Int32) (a : Nat) : kseg g h a a = [] := by unfold kseg; rw [Nat.sub_self]; rfl
theorem kseg_yes {g h : Nat → Int32} {a b : Nat} (hab : a ≤ b) (hh : h b = 0) : kseg g h a (b + 1) = kseg g h a b ++ [g b] := by
  unfold kseg
  rw [show b + 1 - a = (b - a) + 1 by omega, kwk, show a + (b - a) = b by omega, if_pos hh]
theorem kseg_no {g h : Nat → Int32} {a b : Nat} (hab : a ≤ b) (hh : ¬ h b = 0) : kseg g h a (b + 1) = kseg g h a b := by
  unfold kseg
  rw [show b + 1 - a = (b - a) + 1 by omega, kwk, show a + (b - a) = b by omega, if_neg hh, List.append_nil]
theorem kwk_len (g h : Nat → Int32) (a : Nat) : ∀ m, (kwk g h a m).length ≤ m
  | 0 => Nat.le_refl 0
  | m + 1 => by
    have := kwk_len g h a m
    rw [kwk, List.length_append]
    split <;> simp <;> omega
theorem kseg_len (g h : Nat → Int32) (a b : Nat) : (kseg g h a b).length ≤ b - a := kwk_len g h a _
/-- of the first k those of a phase, less the base -/
def kph (v h : Nat → Int32) (len : Nat) (base : Int32) (p : Nat) : Nat → List Int32
  | 0 => []
  | k + 1 => kph v h len base p k ++ (if k % len = p ∧ h k = 0 then [v k - base] else [])
theorem kph_yes {v h : Nat → Int32} {len : Nat} {base : Int32} {p k : Nat} (h1 : k % len = p) (h2 : h k = 0) : kph v h len base p (k + 1) = kph v h len base p k ++ [v k - base] := by
  rw [kph, if_pos ⟨h1, h2⟩]
theorem kph_no {v h : Nat → Int32} {len : Nat} {base : Int32} {p k : Nat} (h1 : ¬ (k % len = p ∧ h k = 0)) : kph v h len base p (k + 1) = kph v h len base p k := by
  rw [kph, if_neg h1, List.append_nil]
theorem kph_len (v h : Nat → Int32) (len : Nat) (base : Int32) (p : Nat) : ∀ k, (kph v h len base p k).length ≤ k
  | 0 => Nat.le_refl 0
  | k + 1 => by
    have := kph_len v h len base p k
    rw [kph, List.length_append]
    split <;> simp <;> omega
def kBase (v h : Nat → Int32) (n : Nat) : Int32 := kMed (kseg v h 0 n)
def kSeas (v h : Nat → Int32) (n len p : Nat) : Int32 := kMed (kph v h len (kBase v h n) p n)
def kAdj (v h : Nat → Int32) (n len k : Nat) : Int32 := v k - kSeas v h n len (k % len)
def kLev (g h : Nat → Int32) (a b : Nat) : Int32 := kMed (kseg g h a b)
def kCost (g h : Nat → Int32) (a b : Nat) : Int32 := kspread (kseg g h a b)
theorem kseg_s {g h : Nat → Int32} {a b : Nat} (hab : a ≤ b) : kseg g h a (b + 1) = kseg g h a b ++ (if h b = 0 then [g b] else []) := by
  unfold kseg
  rw [show b + 1 - a = (b - a) + 1 by omega, kwk, show a + (b - a) = b by omega]

/-! the sum of differences, kept up one by one, is the sum added up at the end -/
theorem fb_rng (x : Int32) : -2147483648 ≤ x.toInt ∧ x.toInt < 2147483648 := by
  have h1 := Int32.le_toInt x
  have h2 := Int32.toInt_lt x
  omega
theorem fb_bmod {z : Int} (h1 : -2147483648 ≤ z) (h2 : z < 2147483648) : z.bmod (2 ^ 32) = z := by
  rw [Int.bmod_eq_of_le (by omega) (by omega)]
theorem fb_addI {x y : Int32} (h1 : -2147483648 ≤ x.toInt + y.toInt) (h2 : x.toInt + y.toInt < 2147483648) : (x + y).toInt = x.toInt + y.toInt := by
  rw [Int32.toInt_add, fb_bmod h1 h2]
theorem fb_subI {x y : Int32} (h1 : -2147483648 ≤ x.toInt - y.toInt) (h2 : x.toInt - y.toInt < 2147483648) : (x - y).toInt = x.toInt - y.toInt := by
  rw [Int32.toInt_sub, fb_bmod h1 h2]
theorem fb_mulI {x y : Int32} (h1 : -2147483648 ≤ x.toInt * y.toInt) (h2 : x.toInt * y.toInt < 2147483648) : (x * y).toInt = x.toInt * y.toInt := by
  rw [Int32.toInt_mul, fb_bmod h1 h2]
theorem fb_negI {x : Int32} (h : x.toInt ≠ -2147483648) : (-x).toInt = -x.toInt := by
  have := fb_rng x
  rw [Int32.toInt_neg, fb_bmod (by omega) (by omega)]
def kS (g : Nat → Int) : Nat → Int
  | 0 => 0
  | n + 1 => kS g n + g n
theorem kS_congr {f g : Nat → Int} : ∀ n, (∀ i, i < n → f i = g i) → kS f n = kS g n
  | 0, _ => rfl
  | n + 1, h => by rw [kS, kS, kS_congr n (fun i hi => h i (by omega)), h n (by omega)]
theorem kS_add (f g : Nat → Int) : ∀ n, kS (fun i => f i + g i) n = kS f n + kS g n
  | 0 => rfl
  | n + 1 => by
    rw [kS, kS, kS, kS_add f g n]
    omega
theorem kS_head (g : Nat → Int) : ∀ n, kS g (n + 1) = g 0 + kS (fun i => g (i + 1)) n
  | 0 => by
    show 0 + g 0 = g 0 + 0
    omega
  | n + 1 => by
    rw [kS, kS_head g n, kS]
    omega
theorem kS_rev (g : Nat → Int) : ∀ n, kS (fun i => g (n - 1 - i)) n = kS g n
  | 0 => rfl
  | n + 1 => by
    rw [kS_head, kS, ← kS_rev g n]
    have e : kS (fun i => g (n + 1 - 1 - (i + 1))) n = kS (fun i => g (n - 1 - i)) n := kS_congr n (fun i _ => by rw [show n + 1 - 1 - (i + 1) = n - 1 - i by omega])
    rw [e, show n + 1 - 1 - 0 = n by omega]
    omega
theorem kS_bound {g : Nat → Int} {c : Int} : ∀ n, (∀ i, i < n → 0 ≤ g i ∧ g i ≤ c) → 0 ≤ kS g n ∧ kS g n ≤ n * c
  | 0, _ => by
    show (0 : Int) ≤ 0 ∧ (0 : Int) ≤ ((0 : Nat) : Int) * c
    rw [show ((0 : Nat) : Int) = 0 from rfl, Int.zero_mul]
    omega
  | n + 1, h => by
    have h1 := kS_bound n (fun i hi => h i (by omega))
    have h2 := h n (by omega)
    have e : ((n + 1 : Nat) : Int) * c = n * c + c := by rw [show ((n + 1 : Nat) : Int) = n + 1 from rfl, Int.add_mul, Int.one_mul]
    rw [kS, e]
    omega
def kab9 (x : Int) : Int := max x (-x)
def kF (f : Nat → Int) (n : Nat) (c : Int) : Int := kS (fun i => kab9 (f i - c)) n
def kUp (f : Nat → Int) (n : Nat) : Prop := ∀ i j, i ≤ j → j < n → f i ≤ f j
theorem kF_mid {f : Nat → Int} {n : Nat} {c : Int} (hs : kUp f n) (h1 : f ((n - 1) / 2) ≤ c) (h2 : c ≤ f (n / 2)) : 2 * kF f n c = kS (fun i => kab9 (f (n - 1 - i) - f i)) n := by
  have e : 2 * kF f n c = kS (fun i => kab9 (f i - c)) n + kS (fun i => kab9 (f (n - 1 - i) - c)) n := by
    rw [kS_rev (fun i => kab9 (f i - c)) n]
    unfold kF
    omega
  rw [e, ← kS_add]
  refine kS_congr n (fun i hi => ?_)
  show kab9 (f i - c) + kab9 (f (n - 1 - i) - c) = kab9 (f (n - 1 - i) - f i)
  unfold kab9
  rcases Nat.lt_or_ge (n - 1 - i) i with q | q
  · have a1 := hs (n - 1 - i) ((n - 1) / 2) (by omega) (by omega)
    have a2 := hs (n / 2) i (by omega) hi
    omega
  · have a1 := hs i ((n - 1) / 2) (by omega) (by omega)
    have a2 := hs (n / 2) (n - 1 - i) (by omega) (by omega)
    omega
theorem kF_const {f : Nat → Int} {n : Nat} {c d : Int} (hs : kUp f n) (h1 : f ((n - 1) / 2) ≤ c) (h2 : c ≤ f (n / 2)) (h3 : f ((n - 1) / 2) ≤ d) (h4 : d ≤ f (n / 2)) : kF f n c = kF f n d := by
  have := kF_mid hs h1 h2
  have := kF_mid hs h3 h4
  omega
theorem kS_ins {g g2 : Nat → Int} {x : Int} {p : Nat} (h1 : ∀ j, j < p → g2 j = g j) (h2 : g2 p = x) : ∀ n, p ≤ n → (∀ j, p ≤ j → j < n → g2 (j + 1) = g j) → kS g2 (n + 1) = kS g n + x
  | 0, hp, h3 => by
    have : p = 0 := by omega
    subst this
    show 0 + g2 0 = 0 + x
    rw [h2]
  | n + 1, hp, h3 => by
    rcases Nat.eq_or_lt_of_le hp with q | q
    · subst q
      rw [kS, h2, kS_congr (n + 1) h1]
    · rw [kS, kS_ins h1 h2 n (by omega) (fun j a b => h3 j a (by omega)), h3 n (by omega) (by omega), kS]
      omega
/-- one number more -/
theorem kF_step {f f2 : Nat → Int} {n p : Nat} {x : Int} (hn : 0 < n) (hs : kUp f n) (hs2 : kUp f2 (n + 1)) (hp : p ≤ n) (h1 : ∀ j, j < p → f2 j = f j) (h2 : f2 p = x) (h3 : ∀ j, p ≤ j → j < n → f2 (j + 1) = f j) (h4 : p = 0 ∨ f (p - 1) ≤ x) (h5 : ∀ j, p ≤ j → j < n → x < f j) :
    kF f2 (n + 1) (f2 (n / 2)) = kF f n (f ((n - 1) / 2)) + (if x < f ((n - 1) / 2) then f ((n - 1) / 2) - x else if f (n / 2) < x then x - f (n / 2) else 0) := by
  have lt : ∀ j, j < p → f j ≤ x := fun j hj => by
    rcases h4 with q | q
    · omega
    · exact Int.le_trans (hs j (p - 1) (by omega) (by omega)) q
  have hlu := hs ((n - 1) / 2) (n / 2) (by omega) (by omega)
  have key : ∀ c, f ((n - 1) / 2) ≤ c → c ≤ f (n / 2) → f2 (n / 2) ≤ c → c ≤ f2 ((n + 1) / 2) → kF f2 (n + 1) (f2 (n / 2)) = kF f n (f ((n - 1) / 2)) + kab9 (x - c) := by
    intro c c1 c2 c3 c4
    rw [kF_const hs (Int.le_refl _) hlu c1 c2]
    have e := kF_const (f := f2) (n := n + 1) (c := f2 (n / 2)) (d := c) hs2 (Int.le_refl _) (hs2 _ _ (by omega) (by omega)) c3 c4
    rw [e]
    unfold kF
    exact kS_ins (g := fun i => kab9 (f i - c)) (g2 := fun i => kab9 (f2 i - c)) (p := p) (fun j hj => by show kab9 _ = kab9 _; rw [h1 j hj]) (by show kab9 _ = kab9 _; rw [h2]) n hp (fun j a b => by show kab9 _ = kab9 _; rw [h3 j a b])
  have m2 := hs2 (n / 2) ((n + 1) / 2) (by omega) (by omega)
  split
  · rename_i q
    have hp2 : p ≤ (n - 1) / 2 := by
      rcases Nat.lt_or_ge ((n - 1) / 2) p with r | r
      · have := lt _ r; omega
      · exact r
    have e : f2 ((n + 1) / 2) = f ((n - 1) / 2) := by
      have := h3 ((n - 1) / 2) hp2 (by omega)
      rw [show (n - 1) / 2 + 1 = (n + 1) / 2 by omega] at this
      exact this
    rw [key (f ((n - 1) / 2)) (Int.le_refl _) hlu (by omega) (by omega)]
    unfold kab9
    omega
  · rename_i q
    split
    · rename_i q2
      have hp2 : n / 2 < p := by
        rcases Nat.lt_or_ge (n / 2) p with r | r
        · exact r
        · have := h5 (n / 2) r (by omega); omega
      have e := h1 _ hp2
      rw [key (f (n / 2)) hlu (Int.le_refl _) (by omega) (by omega)]
      unfold kab9
      omega
    · rename_i q2
      have hp2 : (n - 1) / 2 < p := by
        rcases Nat.lt_or_ge ((n - 1) / 2) p with r | r
        · exact r
        · have := h5 ((n - 1) / 2) r (by omega); omega
      have a1 : f2 (n / 2) ≤ x := by
        rcases Nat.lt_or_ge (n / 2) p with r | r
        · rw [h1 _ r]; exact lt _ r
        · rw [show n / 2 = p by omega, h2]; omega
      have a2 : x ≤ f2 ((n + 1) / 2) := by
        rcases Nat.lt_or_ge ((n + 1) / 2) p with r | r
        · rw [h1 _ r]
          have := hs (n / 2) ((n + 1) / 2) (by omega) (by omega)
          omega
        · rw [show (n + 1) / 2 = p by omega, h2]; omega
      rw [key x (by omega) (by omega) a1 a2]
      unfold kab9
      omega
theorem kinsL_kins : ∀ (L : List Int32) (x : Int32), L.Pairwise (· ≤ ·) → kins (fun i => L.getD i 0) L.length x (fun i => (kinsL L x).getD i 0)
  | [], x, _ => ⟨0, Nat.le_refl 0, fun j hj => absurd hj (Nat.not_lt_zero j), rfl, fun j _ hj => absurd hj (Nat.not_lt_zero j), Or.inl rfl, fun j _ hj => absurd hj (Nat.not_lt_zero j)⟩
  | a :: l, x, hs => by
    obtain ⟨ha, hl⟩ := List.pairwise_cons.mp hs
    by_cases q : x < a
    · have e : kinsL (a :: l) x = x :: a :: l := by show (if x < a then _ else _) = _; rw [if_pos q]
      rw [e]
      refine ⟨0, Nat.zero_le _, fun j hj => absurd hj (Nat.not_lt_zero j), rfl, fun j _ _ => rfl, Or.inl rfl, fun j _ hj => ?_⟩
      cases j with
      | zero => exact q
      | succ j =>
        have hj2 : j < l.length := by simpa using hj
        have := ha (l.getD j 0) (by rw [List.getD_eq_getElem?_getD, List.getElem?_eq_getElem hj2]; exact List.getElem_mem hj2)
        show x < l.getD j 0
        rw [ki_lt] at q ⊢
        rw [ki_le] at this
        omega
    · have e : kinsL (a :: l) x = a :: kinsL l x := by show (if x < a then _ else _) = _; rw [if_neg q]
      rw [e]
      obtain ⟨p, h0, h1, h2, h3, h4, h5⟩ := kinsL_kins l x hl
      refine ⟨p + 1, by simpa using h0, fun j hj => ?_, h2, fun j a1 b1 => ?_, Or.inr ?_, fun j a1 b1 => ?_⟩
      · cases j with
        | zero => rfl
        | succ j => exact h1 j (by omega)
      · cases j with
        | zero => omega
        | succ j => exact h3 j (by omega) (by simpa using b1)
      · rcases h4 with r | r
        · subst r; exact q
        · rcases Nat.eq_zero_or_pos p with z | z
          · subst z; exact q
          · obtain ⟨p', rfl⟩ : ∃ p', p = p' + 1 := ⟨p - 1, by omega⟩
            exact r
      · cases j with
        | zero => omega
        | succ j => exact h5 j (by omega) (by simpa using b1)
theorem kSR_self (L : List Int32) : kSR (fun i => L.getD i 0) L := fun i h => by
  show L[i] = L.getD i 0
  rw [List.getD_eq_getElem?_getD, List.getElem?_eq_getElem h]
  rfl
theorem ksort_up (xs : List Int32) : (ksort xs).Pairwise (· ≤ ·) := by
  refine klist_ind (P := fun xs => (ksort xs).Pairwise (· ≤ ·)) List.Pairwise.nil (fun l x ih => ?_) xs
  rw [ksort_snoc]
  exact (kSR_ins (kSR_self _) ih (kinsL_kins _ x ih)).2
theorem kinsL_mem : ∀ (L : List Int32) (x y : Int32), y ∈ kinsL L x → y = x ∨ y ∈ L
  | [], x, y, h => by
    rcases List.mem_cons.mp h with r | r
    · exact Or.inl r
    · exact Or.inr r
  | a :: l, x, y, h => by
    by_cases q : x < a
    · have e : kinsL (a :: l) x = x :: a :: l := by show (if x < a then _ else _) = _; rw [if_pos q]
      rw [e] at h
      exact List.mem_cons.mp h
    · have e : kinsL (a :: l) x = a :: kinsL l x := by show (if x < a then _ else _) = _; rw [if_neg q]
      rw [e] at h
      rcases List.mem_cons.mp h with r | r
      · exact Or.inr (by rw [r]; exact List.mem_cons_self)
      · rcases kinsL_mem l x y r with r | r
        · exact Or.inl r
        · exact Or.inr (List.mem_cons_of_mem _ r)
theorem ksort_mem (xs : List Int32) : ∀ y ∈ ksort xs, y ∈ xs := by
  refine klist_ind (P := fun xs => ∀ y ∈ ksort xs, y ∈ xs) (fun y h => absurd h (by simp [ksort])) (fun l x ih => ?_) xs
  intro y hy
  rw [ksort_snoc] at hy
  rcases kinsL_mem _ _ _ hy with r | r
  · rw [r]; simp
  · exact List.mem_append_left _ (ih y r)
/-- all within B -/
def kIn (B : Int) (x : Int32) : Prop := -B ≤ x.toInt ∧ x.toInt ≤ B
def kG (xs : List Int32) : Nat → Int := fun i => ((ksort xs).getD i 0).toInt
theorem kG_in {B : Int} (hB : 0 ≤ B) {xs : List Int32} (h : ∀ x ∈ xs, kIn B x) (i : Nat) : -B ≤ kG xs i ∧ kG xs i ≤ B := by
  unfold kG
  rcases Nat.lt_or_ge i (ksort xs).length with q | q
  · have e : (ksort xs).getD i 0 = (ksort xs)[i] := by rw [List.getD_eq_getElem?_getD, List.getElem?_eq_getElem q]; rfl
    rw [e]
    exact h _ (ksort_mem xs _ (List.getElem_mem q))
  · have e : (ksort xs).getD i 0 = 0 := by rw [List.getD_eq_getElem?_getD, List.getElem?_eq_none q]; rfl
    rw [e]
    show -B ≤ 0 ∧ 0 ≤ B
    omega
theorem kG_up (xs : List Int32) : kUp (kG xs) xs.length := by
  intro i j hij hj
  unfold kG
  have hj2 : j < (ksort xs).length := by rw [ksort_len]; exact hj
  have e1 : (ksort xs).getD i 0 = (ksort xs)[i] := by rw [List.getD_eq_getElem?_getD, List.getElem?_eq_getElem (by omega)]; rfl
  have e2 : (ksort xs).getD j 0 = (ksort xs)[j] := by rw [List.getD_eq_getElem?_getD, List.getElem?_eq_getElem hj2]; rfl
  rw [e1, e2]
  rcases Nat.eq_or_lt_of_le hij with r | r
  · subst r; omega
  · exact ki_le.mp (List.pairwise_iff_getElem.mp (ksort_up xs) i j (by omega) hj2 r)
theorem kMed_G (xs : List Int32) (h : 0 < xs.length) : (kMed xs).toInt = kG xs ((xs.length - 1) / 2) := by
  unfold kMed kmedL kmed kG
  rw [ksort_len, if_neg (by omega)]
theorem kMed_in {B : Int} (hB : 0 ≤ B) {xs : List Int32} (h : ∀ x ∈ xs, kIn B x) : kIn B (kMed xs) := by
  rcases Nat.eq_zero_or_pos xs.length with q | q
  · have e : kMed xs = 0 := by unfold kMed kmedL kmed; rw [ksort_len, if_pos q]
    rw [e]
    show -B ≤ 0 ∧ 0 ≤ B
    omega
  · unfold kIn
    rw [kMed_G xs q]
    exact kG_in hB h _
theorem kF_bound {B : Int} (hB : 0 ≤ B) {xs : List Int32} (h : ∀ x ∈ xs, kIn B x) {c : Int} (hc : -B ≤ c ∧ c ≤ B) (n : Nat) : 0 ≤ kF (kG xs) n c ∧ kF (kG xs) n c ≤ n * (2 * B) := by
  refine kS_bound n (fun i _ => ?_)
  have := kG_in hB h i
  show 0 ≤ kab9 (kG xs i - c) ∧ kab9 (kG xs i - c) ≤ 2 * B
  unfold kab9
  omega
theorem kspread_F (xs : List Int32) : (∀ x ∈ xs, kIn 1000000 x) → xs.length ≤ 60 → (kspread xs).toInt = kF (kG xs) xs.length (kMed xs).toInt := by
  refine klist_ind (P := fun xs => (∀ x ∈ xs, kIn 1000000 x) → xs.length ≤ 60 → (kspread xs).toInt = kF (kG xs) xs.length (kMed xs).toInt) (fun _ _ => rfl) (fun l x ih => ?_) xs
  intro hx hl
  have hxl : ∀ y ∈ l, kIn 1000000 y := fun y hy => hx y (List.mem_append_left _ hy)
  have hxx : kIn 1000000 x := hx x (by simp)
  have hlen : (l ++ [x]).length = l.length + 1 := by simp
  rw [hlen] at hl ⊢
  have ih := ih hxl (by omega)
  obtain ⟨p, k0, k1, k2, k3, k4, k5⟩ := kinsL_kins (ksort l) x (ksort_up l)
  rw [ksort_len] at k0 k3 k5
  dsimp only at k1 k2 k3 k4 k5
  have eG : kG (l ++ [x]) = fun i => ((kinsL (ksort l) x).getD i 0).toInt := by unfold kG; rw [ksort_snoc]
  have eM : (kMed (l ++ [x])).toInt = kG (l ++ [x]) (l.length / 2) := by
    rw [kMed_G _ (by rw [hlen]; omega), hlen, show l.length + 1 - 1 = l.length by omega]
  rw [kspread_snoc, ksort_len]
  unfold kspr
  rcases Nat.eq_zero_or_pos l.length with q | q
  · rw [if_pos q, ih, eM, q]
    show (0 : Int) = 0 + kab9 (kG (l ++ [x]) 0 - kG (l ++ [x]) (0 / 2))
    unfold kab9
    rw [show 0 / 2 = 0 from rfl]
    omega
  · rw [if_neg (by omega)]
    have hst := kF_step (f := kG l) (f2 := kG (l ++ [x])) (n := l.length) (p := p) (x := x.toInt) q (kG_up l) (by have := kG_up (l ++ [x]); rwa [hlen] at this) k0
      (fun j hj => by rw [eG]; show ((kinsL (ksort l) x).getD j 0).toInt = _; rw [k1 j hj]; rfl) (by rw [eG]; show ((kinsL (ksort l) x).getD p 0).toInt = _; rw [k2])
      (fun j a b => by rw [eG]; show ((kinsL (ksort l) x).getD (j + 1) 0).toInt = _; rw [k3 j a b]; rfl)
      (k4.imp id (fun r => by rw [ki_lt] at r; show ((ksort l).getD (p - 1) 0).toInt ≤ _; omega)) (fun j a b => ki_lt.mp (k5 j a b))
    have hb := kF_bound (by omega) hxl (kMed_in (by omega) hxl) l.length
    have g1 := kG_in (B := 1000000) (by omega) hxl ((l.length - 1) / 2)
    have g2 := kG_in (B := 1000000) (by omega) hxl (l.length / 2)
    have hxb : -1000000 ≤ x.toInt ∧ x.toInt ≤ 1000000 := hxx
    have hb2 : (l.length : Int) * (2 * 1000000) ≤ 60 * 2000000 := by omega
    rw [eM, hst, ← kMed_G l q, ← ih]
    rw [← ih] at hb
    have e1 : kG l ((l.length - 1) / 2) = ((ksort l).getD ((l.length - 1) / 2) 0).toInt := rfl
    have e2 : kG l (l.length / 2) = ((ksort l).getD (l.length / 2) 0).toInt := rfl
    rw [kMed_G l q]
    rw [e1] at g1 ⊢
    rw [e2] at g2 ⊢
    simp only [ki_lt]
    split
    · have s1 : ((ksort l).getD ((l.length - 1) / 2) 0 - x).toInt = ((ksort l).getD ((l.length - 1) / 2) 0).toInt - x.toInt := fb_subI (by omega) (by omega)
      rw [fb_addI (by rw [s1]; omega) (by rw [s1]; omega), s1]
    · split
      · have s1 : (x - (ksort l).getD (l.length / 2) 0).toInt = x.toInt - ((ksort l).getD (l.length / 2) 0).toInt := fb_subI (by omega) (by omega)
        rw [fb_addI (by rw [s1]; omega) (by rw [s1]; omega), s1]
      · rw [fb_addI (by rw [show (0 : Int32).toInt = 0 from rfl]; omega) (by rw [show (0 : Int32).toInt = 0 from rfl]; omega)]
        rfl
theorem ksz_toInt {x : Int32} (h : -2000000000 ≤ x.toInt ∧ x.toInt ≤ 2000000000) : (ksz x).toInt = kab9 x.toInt := by
  unfold ksz kab9
  split
  · rename_i q
    rw [ki_le] at q
    have : (0 : Int32).toInt = 0 := rfl
    omega
  · rename_i q
    rw [ki_le] at q
    have : (0 : Int32).toInt = 0 := rfl
    rw [fb_negI (by omega)]
    omega
theorem ksum_F {xs : List Int32} (h : ∀ x ∈ xs, kIn 1000000 x) {lv : Int32} (hlv : kIn 1000000 lv) : ∀ k, k ≤ 60 → (ksum (fun i => (ksort xs).getD i 0) lv k).toInt = kF (kG xs) k lv.toInt
  | 0, _ => rfl
  | k + 1, hk => by
    have ih := ksum_F h hlv k (by omega)
    have hb := kF_bound (by omega) h hlv k
    have g1 := kG_in (B := 1000000) (by omega) h k
    have e1 : kG xs k = ((ksort xs).getD k 0).toInt := rfl
    have hl2 : -1000000 ≤ lv.toInt ∧ lv.toInt ≤ 1000000 := hlv
    rw [e1] at g1
    have s1 : ((ksort xs).getD k 0 - lv).toInt = ((ksort xs).getD k 0).toInt - lv.toInt := fb_subI (by omega) (by omega)
    have s2 := ksz_toInt (x := (ksort xs).getD k 0 - lv) (by omega)
    rw [s1] at s2
    have hab : 0 ≤ kab9 (((ksort xs).getD k 0).toInt - lv.toInt) ∧ kab9 (((ksort xs).getD k 0).toInt - lv.toInt) ≤ 2000000 := by unfold kab9; omega
    have hk2 : (k : Int) * (2 * 1000000) ≤ 60 * 2000000 := by omega
    rw [ksum, fb_addI (by rw [s2, ih]; omega) (by rw [s2, ih]; omega), s2, ih]
    rfl
theorem kspread_sum {xs : List Int32} (h : ∀ x ∈ xs, kIn 1000000 x) (hl : xs.length ≤ 60) : kspread xs = kSumM xs := by
  rw [ki_eq, kspread_F xs h hl]
  unfold kSumM
  rw [ksum_F h (kMed_in (by omega) h) _ hl]
theorem kspread_bound {xs : List Int32} {B : Int} (hB : 0 ≤ B) (hB2 : B ≤ 1000000) (h : ∀ x ∈ xs, kIn B x) (hl : xs.length ≤ 60) : 0 ≤ (kspread xs).toInt ∧ (kspread xs).toInt ≤ xs.length * (2 * B) := by
  have h2 : ∀ x ∈ xs, kIn 1000000 x := fun x hx => by have := h x hx; unfold kIn at this ⊢; omega
  rw [kspread_F xs h2 hl]
  exact kF_bound hB h (kMed_in hB h) _

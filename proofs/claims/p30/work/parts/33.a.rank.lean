/-! medians picked by ranks: how many of a list are below a number, how many are it -/
def kcl (x : Int32) : List Int32 → Nat
  | [] => 0
  | y :: l => (if y < x then 1 else 0) + kcl x l
def kce (x : Int32) : List Int32 → Nat
  | [] => 0
  | y :: l => (if y = x then 1 else 0) + kce x l
theorem kcl_app (x : Int32) : ∀ A B : List Int32, kcl x (A ++ B) = kcl x A + kcl x B
  | [], B => (Nat.zero_add _).symm
  | y :: A, B => by
    show (if y < x then 1 else 0) + kcl x (A ++ B) = (if y < x then 1 else 0) + kcl x A + kcl x B
    rw [kcl_app x A B, Nat.add_assoc]
theorem kce_app (x : Int32) : ∀ A B : List Int32, kce x (A ++ B) = kce x A + kce x B
  | [], B => (Nat.zero_add _).symm
  | y :: A, B => by
    show (if y = x then 1 else 0) + kce x (A ++ B) = (if y = x then 1 else 0) + kce x A + kce x B
    rw [kce_app x A B, Nat.add_assoc]
theorem kcl_one (x y : Int32) : kcl x [y] = if y < x then 1 else 0 := Nat.add_zero _
theorem kce_one (x y : Int32) : kce x [y] = if y = x then 1 else 0 := Nat.add_zero _
theorem kcl_ins (x y : Int32) : ∀ L : List Int32, kcl x (kinsL L y) = (if y < x then 1 else 0) + kcl x L
  | [] => rfl
  | a :: l => by
    show kcl x (if y < a then y :: a :: l else a :: kinsL l y) = _
    by_cases q : y < a
    · rw [if_pos q]
      rfl
    · rw [if_neg q]
      show (if a < x then 1 else 0) + kcl x (kinsL l y) = (if y < x then 1 else 0) + ((if a < x then 1 else 0) + kcl x l)
      rw [kcl_ins x y l, Nat.add_left_comm]
theorem kce_ins (x y : Int32) : ∀ L : List Int32, kce x (kinsL L y) = (if y = x then 1 else 0) + kce x L
  | [] => rfl
  | a :: l => by
    show kce x (if y < a then y :: a :: l else a :: kinsL l y) = _
    by_cases q : y < a
    · rw [if_pos q]
      rfl
    · rw [if_neg q]
      show (if a = x then 1 else 0) + kce x (kinsL l y) = (if y = x then 1 else 0) + ((if a = x then 1 else 0) + kce x l)
      rw [kce_ins x y l, Nat.add_left_comm]
theorem kcl_sort (x : Int32) (xs : List Int32) : kcl x (ksort xs) = kcl x xs := by
  refine klist_ind (P := fun xs => kcl x (ksort xs) = kcl x xs) rfl (fun l y ih => ?_) xs
  rw [ksort_snoc, kcl_ins, ih, kcl_app, kcl_one, Nat.add_comm]
theorem kce_sort (x : Int32) (xs : List Int32) : kce x (ksort xs) = kce x xs := by
  refine klist_ind (P := fun xs => kce x (ksort xs) = kce x xs) rfl (fun l y ih => ?_) xs
  rw [ksort_snoc, kce_ins, ih, kce_app, kce_one, Nat.add_comm]
theorem kcl_len (x : Int32) : ∀ L : List Int32, kcl x L + kce x L ≤ L.length
  | [] => Nat.le_refl 0
  | y :: l => by
    have ih := kcl_len x l
    show (if y < x then 1 else 0) + kcl x l + ((if y = x then 1 else 0) + kce x l) ≤ l.length + 1
    by_cases h : y < x
    · have h2 : ¬ y = x := fun z => by rw [z, ki_lt] at h; omega
      rw [if_pos h, if_neg h2]
      omega
    · rw [if_neg h]
      by_cases h2 : y = x
      · rw [if_pos h2]; omega
      · rw [if_neg h2]; omega
theorem kcl_ge {x : Int32} : ∀ L : List Int32, (∀ y ∈ L, x ≤ y) → kcl x L = 0
  | [], _ => rfl
  | y :: l, h => by
    have h1 := h y List.mem_cons_self
    show (if y < x then 1 else 0) + kcl x l = 0
    rw [kcl_ge l (fun z hz => h z (List.mem_cons_of_mem _ hz)), if_neg (fun z => by rw [ki_lt] at z; rw [ki_le] at h1; omega)]
theorem kce_gt {x : Int32} : ∀ L : List Int32, (∀ y ∈ L, x < y) → kce x L = 0
  | [], _ => rfl
  | y :: l, h => by
    have h1 := h y List.mem_cons_self
    show (if y = x then 1 else 0) + kce x l = 0
    rw [kce_gt l (fun z hz => h z (List.mem_cons_of_mem _ hz)), if_neg (fun z => by rw [z, ki_lt] at h1; omega)]
/-- in a sorted row the number of rank i stands at i -/
theorem krank {x : Int32} : ∀ (L : List Int32) (i : Nat), L.Pairwise (· ≤ ·) → kcl x L ≤ i → i < kcl x L + kce x L → L.getD i 0 = x
  | [], i, _, _, h => absurd h (Nat.not_lt_zero i)
  | a :: l, i, hs, h1, h2 => by
    obtain ⟨ha, hl⟩ := List.pairwise_cons.mp hs
    have e1 : kcl x (a :: l) = (if a < x then 1 else 0) + kcl x l := rfl
    have e2 : kce x (a :: l) = (if a = x then 1 else 0) + kce x l := rfl
    rw [e1] at h1
    rw [e1, e2] at h2
    by_cases q : a < x
    · have q2 : ¬ a = x := fun z => by rw [z, ki_lt] at q; omega
      rw [if_pos q] at h1 h2
      rw [if_neg q2] at h2
      cases i with
      | zero => omega
      | succ j =>
        rw [List.getD_cons_succ]
        exact krank l j hl (by omega) (by omega)
    · have hx : ∀ y ∈ l, x ≤ y := fun y hy => by
        have := ha y hy
        rw [ki_le] at this ⊢
        rw [ki_lt] at q
        omega
      have z0 := kcl_ge l hx
      rw [if_neg q, z0] at h1 h2
      by_cases q2 : a = x
      · cases i with
        | zero => rw [List.getD_cons_zero]; exact q2
        | succ j =>
          rw [if_pos q2] at h2
          rw [List.getD_cons_succ]
          exact krank l j hl (by omega) (by omega)
      · have z1 := kce_gt (x := x) l (fun y hy => by
          have := ha y hy
          rw [ki_le] at this
          rw [ki_lt] at q ⊢
          rw [ki_eq] at q2
          omega)
        rw [if_neg q2, z1] at h2
        omega
theorem krank_of : ∀ (L : List Int32) (i : Nat), L.Pairwise (· ≤ ·) → i < L.length → kcl (L.getD i 0) L ≤ i ∧ i < kcl (L.getD i 0) L + kce (L.getD i 0) L
  | [], i, _, h => absurd h (Nat.not_lt_zero i)
  | a :: l, i, hs, hi => by
    obtain ⟨ha, hl⟩ := List.pairwise_cons.mp hs
    cases i with
    | zero =>
      rw [List.getD_cons_zero]
      have e1 : kcl a (a :: l) = (if a < a then 1 else 0) + kcl a l := rfl
      have e2 : kce a (a :: l) = (if a = a then 1 else 0) + kce a l := rfl
      rw [e1, e2, kcl_ge l ha, if_neg (fun z => by rw [ki_lt] at z; omega), if_pos rfl]
      omega
    | succ j =>
      have hj : j < l.length := Nat.lt_of_succ_lt_succ hi
      obtain ⟨ih1, ih2⟩ := krank_of l j hl hj
      rw [List.getD_cons_succ]
      obtain ⟨x, hx⟩ : ∃ x, x = l.getD j 0 := ⟨_, rfl⟩
      rw [← hx] at ih1 ih2 ⊢
      have e1 : kcl x (a :: l) = (if a < x then 1 else 0) + kcl x l := rfl
      have e2 : kce x (a :: l) = (if a = x then 1 else 0) + kce x l := rfl
      have hax : a ≤ x := by
        rw [hx, List.getD_eq_getElem?_getD, List.getElem?_eq_getElem hj]
        exact ha _ (List.getElem_mem hj)
      rw [e1, e2]
      by_cases q : a < x
      · rw [if_pos q]
        omega
      · have q2 : a = x := by
          rw [ki_le] at hax
          rw [ki_lt] at q
          rw [ki_eq]
          omega
        have z0 := kcl_ge (x := x) l (fun y hy => by rw [← q2]; exact ha y hy)
        rw [if_neg q, if_pos q2, z0]
        omega
theorem kMed_nil : kMed [] = 0 := rfl
theorem kMed_at {xs : List Int32} (h : 0 < xs.length) : kMed xs = (ksort xs).getD ((xs.length - 1) / 2) 0 := by
  unfold kMed kmedL kmed
  rw [ksort_len, if_neg (by omega)]
/-- the number picked is the median -/
theorem kpick {xs : List Int32} {x : Int32} (h1 : kcl x xs ≤ (xs.length - 1) / 2) (h2 : (xs.length - 1) / 2 < kcl x xs + kce x xs) : kMed xs = x := by
  have hl := kcl_len x xs
  rw [kMed_at (by omega)]
  exact krank _ _ (ksort_up xs) (by rw [kcl_sort]; exact h1) (by rw [kcl_sort, kce_sort]; exact h2)
/-- and the median is one that is picked -/
theorem kpick_ex {xs : List Int32} (h : 0 < xs.length) : kMed xs ∈ xs ∧ kcl (kMed xs) xs ≤ (xs.length - 1) / 2 ∧ (xs.length - 1) / 2 < kcl (kMed xs) xs + kce (kMed xs) xs := by
  have hi : (xs.length - 1) / 2 < (ksort xs).length := by rw [ksort_len]; omega
  have hr := krank_of (ksort xs) _ (ksort_up xs) hi
  rw [← kMed_at h, kcl_sort, kce_sort] at hr
  refine ⟨ksort_mem xs _ ?_, hr⟩
  rw [kMed_at h, List.getD_eq_getElem?_getD, List.getElem?_eq_getElem hi]
  exact List.getElem_mem hi
theorem kcl_map {f : Int32 → Int32} {x : Int32} : ∀ L : List Int32, (∀ y ∈ L, (f y < f x ↔ y < x)) → kcl (f x) (L.map f) = kcl x L
  | [], _ => rfl
  | y :: l, h => by
    show (if f y < f x then 1 else 0) + kcl (f x) (l.map f) = (if y < x then 1 else 0) + kcl x l
    rw [kcl_map l (fun z hz => h z (List.mem_cons_of_mem _ hz))]
    have := h y List.mem_cons_self
    by_cases q : y < x
    · rw [if_pos q, if_pos (this.mpr q)]
    · rw [if_neg q, if_neg (fun z => q (this.mp z))]
theorem kce_map {f : Int32 → Int32} {x : Int32} : ∀ L : List Int32, (∀ y ∈ L, (f y = f x ↔ y = x)) → kce (f x) (L.map f) = kce x L
  | [], _ => rfl
  | y :: l, h => by
    show (if f y = f x then 1 else 0) + kce (f x) (l.map f) = (if y = x then 1 else 0) + kce x l
    rw [kce_map l (fun z hz => h z (List.mem_cons_of_mem _ hz))]
    have := h y List.mem_cons_self
    by_cases q : y = x
    · rw [if_pos q, if_pos (this.mpr q)]
    · rw [if_neg q, if_neg (fun z => q (this.mp z))]
/-- the median of what is moved by as much is the median moved -/
theorem kMed_sub {xs : List Int32} {b : Int32} (h : 0 < xs.length) (hx : ∀ x ∈ xs, kIn 10000 x) (hb : kIn 10000 b) : kMed (xs.map (fun x => x - b)) = kMed xs - b := by
  obtain ⟨hm, h1, h2⟩ := kpick_ex h
  have sb : ∀ y ∈ xs, (y - b).toInt = y.toInt - b.toInt := fun y hy => by
    have := hx y hy
    unfold kIn at this hb
    exact fb_subI (by omega) (by omega)
  have e1 : kcl (kMed xs - b) (xs.map (fun x => x - b)) = kcl (kMed xs) xs := kcl_map (f := fun x => x - b) xs (fun y hy => by
    show y - b < kMed xs - b ↔ y < kMed xs
    rw [ki_lt, ki_lt, sb y hy, sb _ hm]
    omega)
  have e2 : kce (kMed xs - b) (xs.map (fun x => x - b)) = kce (kMed xs) xs := kce_map (f := fun x => x - b) xs (fun y hy => by
    show y - b = kMed xs - b ↔ y = kMed xs
    rw [ki_eq, ki_eq, sb y hy, sb _ hm]
    omega)
  exact kpick (by rw [e1, List.length_map]; exact h1) (by rw [e1, e2, List.length_map]; exact h2)
/-! the working numbers of a row from a on, by steps of q, m of them -/
def kpk (g h : Nat → Int32) (a q m : Nat) : List Int32 := kwk (fun i => g (a + q * i)) (fun i => h (a + q * i)) 0 m
theorem kpk_0 (g h : Nat → Int32) (a q : Nat) : kpk g h a q 0 = [] := rfl
theorem kpk_s (g h : Nat → Int32) (a q m : Nat) : kpk g h a q (m + 1) = kpk g h a q m ++ (if h (a + q * m) = 0 then [g (a + q * m)] else []) := by
  unfold kpk
  rw [kwk, Nat.zero_add]
theorem kpk_len (g h : Nat → Int32) (a q m : Nat) : (kpk g h a q m).length ≤ m := kwk_len _ _ _ _
theorem kpk_1 (g h : Nat → Int32) (a : Nat) : ∀ m, kpk g h a 1 m = kwk g h a m
  | 0 => rfl
  | m + 1 => by rw [kpk_s, kwk, kpk_1 g h a m, Nat.one_mul]
theorem kpk_seg (g h : Nat → Int32) (a b : Nat) : kpk g h a 1 (b - a) = kseg g h a b := kpk_1 g h a _
theorem kwk_mem2 {g h : Nat → Int32} {a : Nat} {x : Int32} : ∀ m, x ∈ kwk g h a m → ∃ k, a ≤ k ∧ k < a + m ∧ h k = 0 ∧ x = g k
  | 0, hx => nomatch hx
  | m + 1, hx => by
    rw [kwk] at hx
    rcases List.mem_append.mp hx with q | q
    · obtain ⟨k, h1, h2, h3⟩ := kwk_mem2 m q
      exact ⟨k, h1, by omega, h3⟩
    · split at q
      · rename_i h0
        exact ⟨a + m, by omega, by omega, h0, List.mem_singleton.mp q⟩
      · exact nomatch q
theorem kpk_mem {g h : Nat → Int32} {a q m : Nat} {x : Int32} (hx : x ∈ kpk g h a q m) : ∃ j, j < m ∧ h (a + q * j) = 0 ∧ x = g (a + q * j) := by
  obtain ⟨k, -, h2, h3, h4⟩ := kwk_mem2 m hx
  exact ⟨k, by omega, h3, h4⟩
/-- one is picked, or there is none -/
theorem kpick_none {g h : Nat → Int32} {a q m : Nat} (hno : ∀ j, j < m → h (a + q * j) = 0 → kcl (g (a + q * j)) (kpk g h a q m) ≤ ((kpk g h a q m).length - 1) / 2 → ¬ ((kpk g h a q m).length - 1) / 2 < kcl (g (a + q * j)) (kpk g h a q m) + kce (g (a + q * j)) (kpk g h a q m)) : kMed (kpk g h a q m) = 0 := by
  rcases Nat.eq_zero_or_pos (kpk g h a q m).length with z | z
  · rw [List.eq_nil_of_length_eq_zero z]
    rfl
  · obtain ⟨h1, h2, h3⟩ := kpick_ex z
    obtain ⟨j, hj, h0, e⟩ := kpk_mem h1
    rw [e] at h2 h3
    exact absurd h3 (hno j hj h0 h2)
/-- how the counting goes on -/
theorem kpk_cnt {g h : Nat → Int32} {a q m : Nat} (hb : kbit (h (a + q * m))) : nI (kpk g h a q m).length + (nI 1 - h (a + q * m)) = nI (kpk g h a q (m + 1)).length := by
  have e1 : nI ((kpk g h a q m).length + 1) = nI (kpk g h a q m).length + nI 1 := (nI_add _ _).symm
  rw [kpk_s, List.length_append]
  rcases hb with e | e
  · have e2 : nI 1 - (0 : Int32) = nI 1 := by decide
    rw [e, if_pos rfl, e2]
    exact e1.symm
  · have e2 : nI 1 - (1 : Int32) = 0 := by decide
    rw [e, if_neg (by decide), e2, Int32.add_zero]
    exact rfl
theorem kpk_below {g h : Nat → Int32} {a q m d : Nat} {x : Int32} (hd : d = if h (a + q * m) = 0 ∧ g (a + q * m) < x then 1 else 0) : kcl x (kpk g h a q m) + d = kcl x (kpk g h a q (m + 1)) := by
  rw [kpk_s, kcl_app, hd]
  by_cases e : h (a + q * m) = 0
  · rw [if_pos e, kcl_one]
    by_cases e2 : g (a + q * m) < x
    · rw [if_pos e2, if_pos ⟨e, e2⟩]
    · rw [if_neg e2, if_neg (fun z => e2 z.2)]
  · rw [if_neg e, if_neg (fun z => e z.1)]
    rfl
theorem kpk_same {g h : Nat → Int32} {a q m d : Nat} {x : Int32} (hd : d = if h (a + q * m) = 0 ∧ g (a + q * m) = x then 1 else 0) : kce x (kpk g h a q m) + d = kce x (kpk g h a q (m + 1)) := by
  rw [kpk_s, kce_app, hd]
  by_cases e : h (a + q * m) = 0
  · rw [if_pos e, kce_one]
    by_cases e2 : g (a + q * m) = x
    · rw [if_pos e2, if_pos ⟨e, e2⟩]
    · rw [if_neg e2, if_neg (fun z => e2 z.2)]
  · rw [if_neg e, if_neg (fun z => e z.1)]
    rfl
theorem khalf {n : Nat} (hn : n ≤ 60) : (nI n - nI 1) / nI 2 = nI ((n - 1) / 2) := by
  rcases Nat.eq_zero_or_pos n with q | q
  · rw [q]
    decide
  · rw [pk_sub q, pk_div (by omega) (by omega) (by omega)]
theorem knext (a q j : Nat) : nI (a + q * j) + nI q = nI (a + q * (j + 1)) := by
  rw [nI_add, Nat.mul_add, Nat.mul_one, Nat.add_assoc]
/-! the seasons -/
def kms (a b q : Nat) : Nat := (b - a + (q - 1)) / q
theorem kms_lt {a b q : Nat} (hq : 1 ≤ q) (i : Nat) : i < kms a b q ↔ a + q * i < b := by
  have e : (i + 1) * q = q * i + q := by rw [Nat.add_mul, Nat.one_mul, Nat.mul_comm]
  have h : i + 1 ≤ (b - a + (q - 1)) / q ↔ (i + 1) * q ≤ b - a + (q - 1) := Nat.le_div_iff_mul_le (by omega)
  rw [e] at h
  unfold kms
  constructor
  · intro h1
    have := h.mp h1
    omega
  · intro h1
    exact h.mpr (by omega)
theorem kph_pk {v h : Nat → Int32} {len : Nat} {base : Int32} {p : Nat} (hl : 1 ≤ len) (hp : p < len) : ∀ i, kph v h len base p (p + len * i) = (kpk v h p len i).map (fun x => x - base)
  | 0 => by
    rw [Nat.mul_zero, Nat.add_zero, kpk_0, kph_gap (a := 0) p (Nat.zero_le p) (fun i _ h2 => kmod_small h2 hp)]
    rfl
  | i + 1 => by
    have e : p + len * (i + 1) = p + len * i + len := by rw [Nat.mul_add, Nat.mul_one, Nat.add_assoc]
    have hm : (p + len * i) % len = p := by rw [Nat.add_mul_mod_self_left, Nat.mod_eq_of_lt hp]
    rw [e, kph_step hl hm, kph_pk hl hp i, kpk_s, List.map_append]
    by_cases q : h (p + len * i) = 0
    · rw [if_pos q, if_pos q]; rfl
    · rw [if_neg q, if_neg q]; rfl
theorem kph_all {v h : Nat → Int32} {n len : Nat} {base : Int32} {p m : Nat} (hl : 1 ≤ len) (hp : p < len) (hm : ∀ i, i < m ↔ p + len * i < n) : kph v h len base p n = (kpk v h p len m).map (fun x => x - base) := by
  rw [← kph_pk hl hp m]
  have h1 : n ≤ p + len * m := Nat.le_of_not_lt (fun z => Nat.lt_irrefl m ((hm m).mpr z))
  refine (kph_gap (p + len * m) h1 (fun i a b => ?_)).symm
  cases m with
  | zero => exact kmod_small (by omega) hp
  | succ m =>
    have h2 := (hm m).mp (by omega)
    have e : p + len * (m + 1) = p + len * m + len := by rw [Nat.mul_add, Nat.mul_one, Nat.add_assoc]
    exact kmod_gap (k := p + len * m) (by rw [Nat.add_mul_mod_self_left, Nat.mod_eq_of_lt hp]) (by omega) (by omega)
theorem kBase_in {v hf : Nat → Int32} {n : Nat} (hv : ∀ k, k < n → -10000 ≤ (v k).toInt ∧ (v k).toInt ≤ 10000) : kIn 10000 (kBase v hf n) := kMed_in (by omega) (fun x hx => by
  obtain ⟨i, -, h2, h3⟩ := kseg_mem hx
  rw [h3]
  exact hv i h2)
theorem kSeas_is {v hf : Nat → Int32} {n len p m : Nat} (hl : 1 ≤ len) (hp : p < len) (hm : ∀ i, i < m ↔ p + len * i < n) (hv : ∀ k, k < n → -10000 ≤ (v k).toInt ∧ (v k).toInt ≤ 10000) : kSeas v hf n len p = if (kpk v hf p len m).length = 0 then 0 else kMed (kpk v hf p len m) - kBase v hf n := by
  unfold kSeas
  rw [kph_all hl hp hm]
  by_cases z : (kpk v hf p len m).length = 0
  · rw [if_pos z, List.eq_nil_of_length_eq_zero z]
    rfl
  · rw [if_neg z]
    exact kMed_sub (by omega) (fun x hx => by
      obtain ⟨j, h1, -, h3⟩ := kpk_mem hx
      rw [h3]
      exact hv _ ((hm j).mp h1)) (kBase_in hv)
theorem kSeas_0 {v hf : Nat → Int32} {n len p : Nat} (hp : p < len) (hn : n ≤ p) : kSeas v hf n len p = 0 := by
  unfold kSeas
  rw [kph_gap (a := 0) n (Nat.zero_le n) (fun i _ h2 => kmod_small (by omega) hp)]
  rfl
/-! the costs, the differences added up -/
def kdf (lv y : Int32) : Int32 := if y < lv then lv - y else y - lv
def kds (lv : Int32) : List Int32 → Int32
  | [] => 0
  | y :: l => kdf lv y + kds lv l
theorem kds_app (lv : Int32) : ∀ A B : List Int32, kds lv (A ++ B) = kds lv A + kds lv B
  | [], B => (Int32.zero_add _).symm
  | y :: A, B => by
    show kdf lv y + kds lv (A ++ B) = kdf lv y + kds lv A + kds lv B
    rw [kds_app lv A B, Int32.add_assoc]
theorem kds_one (lv y : Int32) : kds lv [y] = kdf lv y := Int32.add_zero _
theorem kds_ins (lv y : Int32) : ∀ L : List Int32, kds lv (kinsL L y) = kdf lv y + kds lv L
  | [] => rfl
  | a :: l => by
    show kds lv (if y < a then y :: a :: l else a :: kinsL l y) = _
    by_cases q : y < a
    · rw [if_pos q]
      rfl
    · rw [if_neg q]
      show kdf lv a + kds lv (kinsL l y) = kdf lv y + (kdf lv a + kds lv l)
      rw [kds_ins lv y l, ← Int32.add_assoc, ← Int32.add_assoc, Int32.add_comm (kdf lv a)]
theorem kds_sort (lv : Int32) (xs : List Int32) : kds lv (ksort xs) = kds lv xs := by
  refine klist_ind (P := fun xs => kds lv (ksort xs) = kds lv xs) rfl (fun l y ih => ?_) xs
  rw [ksort_snoc, kds_ins, ih, kds_app, kds_one, Int32.add_comm]
theorem kdf_sz {lv y : Int32} (h1 : kIn 1000000 lv) (h2 : kIn 1000000 y) : ksz (y - lv) = kdf lv y := by
  unfold kIn at h1 h2
  have e : (y - lv).toInt = y.toInt - lv.toInt := fb_subI (by omega) (by omega)
  have e2 : (lv - y).toInt = lv.toInt - y.toInt := fb_subI (by omega) (by omega)
  unfold ksz kdf
  by_cases q : y < lv
  · rw [if_pos q]
    rw [ki_lt] at q
    rw [if_neg (fun z => by rw [ki_le, e] at z; have z0 : (0 : Int32).toInt = 0 := rfl; omega), ki_eq, fb_negI (by omega), e, e2]
    omega
  · rw [if_neg q]
    rw [ki_lt] at q
    rw [if_pos (by rw [ki_le, e]; have z0 : (0 : Int32).toInt = 0 := rfl; omega)]
theorem ksum_ds {lv : Int32} (h1 : kIn 1000000 lv) (L : List Int32) : (∀ y ∈ L, kIn 1000000 y) → ksum (fun i => L.getD i 0) lv L.length = kds lv L := by
  refine klist_ind (P := fun L => (∀ y ∈ L, kIn 1000000 y) → ksum (fun i => L.getD i 0) lv L.length = kds lv L) (fun _ => rfl) (fun l x ih => ?_) L
  intro h
  rw [List.length_append, kds_app, kds_one]
  show ksum _ lv (l.length + 1) = _
  rw [ksum, ksum_congr (g := fun i => l.getD i 0) l.length (fun i hi => by show (l ++ [x]).getD i 0 = l.getD i 0; rw [List.getD_eq_getElem?_getD, List.getElem?_append_left hi, List.getD_eq_getElem?_getD]), ih (fun y hy => h y (List.mem_append_left _ hy))]
  have e : (l ++ [x]).getD l.length 0 = x := by rw [List.getD_eq_getElem?_getD, List.getElem?_append_right (Nat.le_refl _), Nat.sub_self]; rfl
  show kds lv l + ksz ((l ++ [x]).getD l.length 0 - lv) = _
  rw [e, kdf_sz h1 (h x (List.mem_append_right _ List.mem_cons_self))]
theorem kspread_ds {xs : List Int32} (h : ∀ x ∈ xs, kIn 30000 x) (hl : xs.length ≤ 60) : kspread xs = kds (kMed xs) xs := by
  have h2 : ∀ x ∈ xs, kIn 1000000 x := fun x hx => by have := h x hx; unfold kIn at this ⊢; omega
  have hm : kIn 1000000 (kMed xs) := kMed_in (by omega) h2
  rw [kspread_sum h2 hl, ← kds_sort]
  unfold kSumM
  rw [← ksort_len xs]
  exact ksum_ds hm (ksort xs) (fun y hy => h2 y (ksort_mem xs y hy))
theorem kCost_ds {ad hf : Nat → Int32} {n : Nat} (hn : n ≤ 60) (ha : ∀ k, k < n → kIn 30000 (ad k)) {a b : Nat} (hb : b ≤ n) : kds (kLev ad hf a b) (kseg ad hf a b) = kCost ad hf a b :=
  (kspread_ds (kSeg_in ha hb) (by have := kseg_len ad hf a b; omega)).symm
theorem kds_s {ad hf : Nat → Int32} {lv d : Int32} {a b : Nat} (hab : a ≤ b) (hd : d = if hf b = 0 then kdf lv (ad b) else 0) : kds lv (kseg ad hf a b) + d = kds lv (kseg ad hf a (b + 1)) := by
  rw [kseg_s hab, kds_app, hd]
  by_cases e : hf b = 0
  · rw [if_pos e, if_pos e, kds_one]
  · rw [if_neg e, if_neg e]
    rfl

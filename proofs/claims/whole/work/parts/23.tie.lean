/-! the reference's sums against the costs and the cuts -/
theorem kmed_in {B : Int} (hB : 0 ≤ B) {xs : List Int32} (h : ∀ x ∈ xs, kIn B x) : -B ≤ (kMed xs).toInt ∧ (kMed xs).toInt ≤ B := kMed_in hB h
theorem kwk_mem {g h : Nat → Int32} {a : Nat} {x : Int32} : ∀ m, x ∈ kwk g h a m → ∃ k, a ≤ k ∧ k < a + m ∧ x = g k
  | 0, hx => nomatch hx
  | m + 1, hx => by
    rw [kwk] at hx
    rcases List.mem_append.mp hx with q | q
    · obtain ⟨k, h1, h2, h3⟩ := kwk_mem m q
      exact ⟨k, h1, by omega, h3⟩
    · split at q
      · exact ⟨a + m, by omega, by omega, List.mem_singleton.mp q⟩
      · exact nomatch q
theorem kseg_mem {g h : Nat → Int32} {a b : Nat} {x : Int32} (hx : x ∈ kseg g h a b) : ∃ k, a ≤ k ∧ k < b ∧ x = g k := by
  obtain ⟨k, h1, h2, h3⟩ := kwk_mem _ hx
  exact ⟨k, h1, by omega, h3⟩
theorem kph_mem {v h : Nat → Int32} {len : Nat} {base : Int32} {p : Nat} {x : Int32} : ∀ m, x ∈ kph v h len base p m → ∃ k, k < m ∧ x = v k - base
  | 0, hx => nomatch hx
  | m + 1, hx => by
    rw [kph] at hx
    rcases List.mem_append.mp hx with q | q
    · obtain ⟨k, h1, h2⟩ := kph_mem m q
      exact ⟨k, by omega, h2⟩
    · split at q
      · exact ⟨m, by omega, List.mem_singleton.mp q⟩
      · exact nomatch q
/-- adjusted values are within 30000 -/
theorem kAdj_in {v hf : Nat → Int32} {n len : Nat} (hv : ∀ k, k < n → -10000 ≤ (v k).toInt ∧ (v k).toInt ≤ 10000) {k : Nat} (hk : k < n) : kIn 30000 (kAdj v hf n len k) := by
  have hb : kIn 10000 (kBase v hf n) := kMed_in (by omega) (fun x hx => by
    obtain ⟨i, -, h2, h3⟩ := kseg_mem hx
    rw [h3]
    exact hv i h2)
  have hb' : -10000 ≤ (kBase v hf n).toInt ∧ (kBase v hf n).toInt ≤ 10000 := hb
  have hs : kIn 20000 (kSeas v hf n len (k % len)) := kMed_in (by omega) (fun x hx => by
    obtain ⟨i, h2, h3⟩ := kph_mem _ hx
    have := hv i h2
    rw [h3]
    unfold kIn
    rw [fb_subI (by omega) (by omega)]
    omega)
  have hs' : -20000 ≤ (kSeas v hf n len (k % len)).toInt ∧ (kSeas v hf n len (k % len)).toInt ≤ 20000 := hs
  have := hv k hk
  unfold kIn kAdj
  rw [fb_subI (by omega) (by omega)]
  omega
theorem kSeg_in {ad hf : Nat → Int32} {n : Nat} (ha : ∀ k, k < n → kIn 30000 (ad k)) {a b : Nat} (hb : b ≤ n) : ∀ x ∈ kseg ad hf a b, kIn 30000 x := fun x hx => by
  obtain ⟨i, -, h2, h3⟩ := kseg_mem hx
  rw [h3]
  exact ha i (by omega)
theorem kCost_in {ad hf : Nat → Int32} {n : Nat} (hn : n ≤ 60) (ha : ∀ k, k < n → kIn 30000 (ad k)) {a b : Nat} (hb : b ≤ n) : 0 ≤ (kCost ad hf a b).toInt ∧ (kCost ad hf a b).toInt ≤ 3600000 := by
  have hl := kseg_len ad hf a b
  have := kspread_bound (B := 30000) (by omega) (by omega) (kSeg_in ha hb (hf := hf) (a := a)) (by omega)
  unfold kCost
  have h2 : ((kseg ad hf a b).length : Int) ≤ 60 := by omega
  omega
theorem kCost_sum {ad hf : Nat → Int32} {n : Nat} (hn : n ≤ 60) (ha : ∀ k, k < n → kIn 30000 (ad k)) {a b : Nat} (hb : b ≤ n) : kSumM (kseg ad hf a b) = kCost ad hf a b :=
  (kspread_sum (fun x hx => by have := kSeg_in ha hb x hx; unfold kIn at this ⊢; omega) (by have := kseg_len ad hf a b; omega)).symm
def kRel (n s : Nat) (c : Int32 × Int32 × Int32) (d : Int32 × Int32) : Prop := (c = (2147483647, 0, nI n) ∧ d = (1000000000, nI n)) ∨ (0 ≤ c.1.toInt ∧ c.1.toInt ≤ 7300000 ∧ 0 ≤ c.2.1.toInt ∧ c.2.1.toInt ≤ (n : Int) - 1 - s ∧ d.1.toInt = 64 * c.1.toInt + c.2.1.toInt ∧ d.2 = c.2.2)
theorem kbig : (1000000000 : Int32).toInt = 1000000000 := by decide
theorem kmax : (2147483647 : Int32).toInt = 2147483647 := by decide
theorem kRel_offer {n s : Nat} {c : Int32 × Int32 × Int32} {d : Int32 × Int32} {cost cuts e z : Int32} (hn : n ≤ 60) (h : kRel n s c d) (b1 : 0 ≤ cost.toInt) (b2 : cost.toInt ≤ 7300000) (b3 : 0 ≤ cuts.toInt) (b4 : cuts.toInt ≤ (n : Int) - 1 - s) (hz : z.toInt = 64 * cost.toInt + cuts.toInt) :
    0 ≤ (kcand c cost cuts e).1.toInt ∧ (kcand c cost cuts e).1.toInt ≤ cost.toInt ∧ 0 ≤ (kcand c cost cuts e).2.1.toInt ∧ (kcand c cost cuts e).2.1.toInt ≤ (n : Int) - 1 - s ∧ (if z < d.1 then (z, e) else d).1.toInt = 64 * (kcand c cost cuts e).1.toInt + (kcand c cost cuts e).2.1.toInt ∧ (if z < d.1 then (z, e) else d).2 = (kcand c cost cuts e).2.2 := by
  have hb := kbig
  have hm := kmax
  rcases h with ⟨rfl, rfl⟩ | ⟨h1, h2, h3, h4, h5, h6⟩
  · have q : z < (1000000000 : Int32) := by rw [ki_lt, hz]; omega
    have q2 : cost < (2147483647 : Int32) := by rw [ki_lt]; omega
    rw [if_pos q, kcand_yes (Or.inl q2)]
    exact ⟨b1, Int.le_refl _, b3, b4, hz, rfl⟩
  · by_cases q : z < d.1
    · have q2 : cost < c.1 ∨ (cost = c.1 ∧ cuts < c.2.1) := by
        rw [ki_lt, hz, h5] at q
        rw [ki_lt, ki_lt, ki_eq]
        omega
      rw [if_pos q, kcand_yes q2]
      exact ⟨b1, Int.le_refl _, b3, b4, hz, rfl⟩
    · have q2 : ¬ (cost < c.1 ∨ (cost = c.1 ∧ cuts < c.2.1)) := by
        rw [ki_lt, hz, h5] at q
        rw [ki_lt, ki_lt, ki_eq]
        omega
      have q3 : c.1.toInt ≤ cost.toInt := by
        rw [ki_lt, ki_lt, ki_eq] at q2
        omega
      rw [if_neg q, kcand_no q2]
      exact ⟨h1, q3, h3, h4, h5, h6⟩
theorem kRel_skip {n s : Nat} {c : Int32 × Int32 × Int32} {d : Int32 × Int32} (hn : n ≤ 60) (h : kRel n s c d) : ¬ (1000000000 : Int32) < d.1 := by
  have hb := kbig
  rw [ki_lt]
  rcases h with ⟨rfl, rfl⟩ | ⟨h1, h2, h3, h4, h5, h6⟩
  · exact Int.lt_irrefl _
  · omega
/-- what holds of the best division from j on, on both sides -/
def kTie (ll n : Nat) (be en rc rk re : Nat → Int32) (j : Nat) : Prop := 0 ≤ (rc j).toInt ∧ (rc j).toInt ≤ 3600000 ∧ 0 ≤ (rk j).toInt ∧ (rk j).toInt ≤ (n : Int) - 1 - j ∧ ((j = 0 ∨ ll ≤ n - j) → (be j).toInt = 64 * (rc j).toInt + (rk j).toInt ∧ en j = re j) ∧ (¬ (j = 0 ∨ ll ≤ n - j) → be j = 1000000000)
theorem kTie_fold {ad hf co : Nat → Int32} {ll n : Nat} {pen : Int32} {be en rc rk re : Nat → Int32} {s : Nat} (hn : n ≤ 60) (hl1 : 1 ≤ ll) (hp : 0 ≤ pen.toInt ∧ pen.toInt ≤ 100000) (ha : ∀ k, k < n → kIn 30000 (ad k)) (hco : ∀ a b, a < n → a < b → b ≤ n → co (61 * a + b) = kCost ad hf a b) (ih : ∀ j, s < j → j < n → kTie ll n be en rc rk re j) :
    ∀ m, s + m < n → kRel n s (kbestTo ad hf ll pen n rc rk s m) (kmTo co ll pen n be s m)
  | 0, _ => Or.inl ⟨rfl, rfl⟩
  | m + 1, hm => by
    have h := kTie_fold hn hl1 hp ha hco ih m (by omega)
    obtain ⟨t1, t2, t3, t4, t5, t6⟩ := ih (s + 1 + m) (by omega) (by omega)
    have hb := kbig
    have hc := kCost_in (hf := hf) hn ha (a := s) (b := s + 1 + m) (by omega)
    have h1 : (1 : Int32).toInt = 1 := rfl
    have h64 : (64 : Int32).toInt = 64 := rfl
    rw [kbestTo, kmTo]
    by_cases q : ll ≤ m + 1 ∧ ll ≤ n - (s + 1 + m)
    · obtain ⟨u1, u2⟩ := t5 (Or.inr q.2)
      rw [if_pos q]
      have s1 : (kCost ad hf s (s + 1 + m) + pen).toInt = (kCost ad hf s (s + 1 + m)).toInt + pen.toInt := fb_addI (by omega) (by omega)
      have s2 : (kCost ad hf s (s + 1 + m) + pen + rc (s + 1 + m)).toInt = (kCost ad hf s (s + 1 + m)).toInt + pen.toInt + (rc (s + 1 + m)).toInt := by rw [fb_addI (by rw [s1]; omega) (by rw [s1]; omega), s1]
      have s3 : (rk (s + 1 + m) + 1).toInt = (rk (s + 1 + m)).toInt + 1 := by rw [fb_addI (by rw [h1]; omega) (by rw [h1]; omega), h1]
      have goes : (ll ≤ s + 1 + m - s ∨ (s = 0 ∧ s + 1 + m = n)) ∧ (s + 1 + m = n ∨ be (s + 1 + m) < 1000000000) := ⟨Or.inl (by omega), Or.inr (by rw [ki_lt, u1]; omega)⟩
      have z1 : (64 * co (61 * s + (s + 1 + m))).toInt = 64 * (kCost ad hf s (s + 1 + m)).toInt := by rw [hco s (s + 1 + m) (by omega) (by omega) (by omega), fb_mulI (by rw [h64]; omega) (by rw [h64]; omega), h64]
      have z2 : (64 * pen).toInt = 64 * pen.toInt := by rw [fb_mulI (by rw [h64]; omega) (by rw [h64]; omega), h64]
      have z3 : (be (s + 1 + m) + 64 * pen).toInt = (be (s + 1 + m)).toInt + 64 * pen.toInt := by rw [fb_addI (by rw [z2, u1]; omega) (by rw [z2, u1]; omega), z2]
      have z4 : (be (s + 1 + m) + 64 * pen + 1).toInt = (be (s + 1 + m)).toInt + 64 * pen.toInt + 1 := by rw [fb_addI (by rw [z3, u1, h1]; omega) (by rw [z3, u1, h1]; omega), z3, h1]
      have z5 : (64 * co (61 * s + (s + 1 + m)) + (be (s + 1 + m) + 64 * pen + 1)).toInt = 64 * (kCost ad hf s (s + 1 + m)).toInt + ((be (s + 1 + m)).toInt + 64 * pen.toInt + 1) := by rw [fb_addI (by rw [z1, z4, u1]; omega) (by rw [z1, z4, u1]; omega), z1, z4]
      have hz : (kmsum co ll pen n be s (s + 1 + m)).toInt = 64 * (kCost ad hf s (s + 1 + m) + pen + rc (s + 1 + m)).toInt + (rk (s + 1 + m) + 1).toInt := by
        unfold kmsum
        rw [if_pos goes, if_neg (by omega), z5, s2, s3, u1]
        omega
      have o := kRel_offer (e := nI (s + 1 + m)) hn h (cost := kCost ad hf s (s + 1 + m) + pen + rc (s + 1 + m)) (cuts := rk (s + 1 + m) + 1) (by rw [s2]; omega) (by rw [s2]; omega) (by rw [s3]; omega) (by rw [s3]; omega) hz
      exact Or.inr ⟨o.1, by have := o.2.1; rw [s2] at this; omega, o.2.2.1, o.2.2.2.1, o.2.2.2.2.1, o.2.2.2.2.2⟩
    · rw [if_neg q]
      have hz : kmsum co ll pen n be s (s + 1 + m) = 1000000000 := by
        unfold kmsum
        refine if_neg (fun g => ?_)
        rcases g with ⟨g1, g2⟩
        rcases g2 with g2 | g2
        · omega
        · have : ¬ (s + 1 + m = 0 ∨ ll ≤ n - (s + 1 + m)) := by omega
          rw [t6 this, ki_lt] at g2
          omega
      rw [hz, if_neg (kRel_skip hn h)]
      exact h
theorem kTie_all {ad hf co : Nat → Int32} {ll n : Nat} {pen : Int32} {be en rc rk re : Nat → Int32} (hn : n ≤ 60) (hl1 : 1 ≤ ll) (hp : 0 ≤ pen.toInt ∧ pen.toInt ≤ 100000) (ha : ∀ k, k < n → kIn 30000 (ad k)) (hco : ∀ a b, a < n → a < b → b ≤ n → co (61 * a + b) = kCost ad hf a b) (hd : kDP ad hf ll pen n rc rk re 0) (hm : kDM co ll pen n be en 0) : ∀ k j, n - j ≤ k → j < n → kTie ll n be en rc rk re j
  | 0, j, h1, h2 => absurd h1 (by omega)
  | k + 1, j, hk, hj => by
    have ih : ∀ i, j < i → i < n → kTie ll n be en rc rk re i := fun i a b => kTie_all hn hl1 hp ha hco hd hm k i (by omega) b
    have h := kTie_fold hn hl1 hp ha hco ih (n - (j + 1)) (by omega)
    have hc := kCost_in (hf := hf) hn ha (a := j) (b := n) (Nat.le_refl n)
    have hb := kbig
    have h64 : (64 : Int32).toInt = 64 := rfl
    have h0 : (0 : Int32).toInt = 0 := rfl
    have e1 := hd j (Nat.zero_le j) hj
    have e2 := hm.2 j (Nat.zero_le j) hj
    unfold kbest at e1
    rw [show n - j = n - (j + 1) + 1 by omega, kmTo, show j + 1 + (n - (j + 1)) = n by omega] at e2
    have z1 : (64 * co (61 * j + n)).toInt = 64 * (kCost ad hf j n).toInt := by rw [hco j n hj hj (Nat.le_refl n), fb_mulI (by rw [h64]; omega) (by rw [h64]; omega), h64]
    by_cases q : j = 0 ∨ ll ≤ n - j
    · have hz : (kmsum co ll pen n be j n).toInt = 64 * (kCost ad hf j n).toInt + (0 : Int32).toInt := by
        unfold kmsum
        rw [if_pos ⟨q.elim (fun z => Or.inr ⟨z, rfl⟩) (fun z => Or.inl z), Or.inl rfl⟩, if_pos rfl, fb_addI (by rw [z1, h0]; omega) (by rw [z1, h0]; omega), z1]
      have o := kRel_offer (e := nI n) hn h (cost := kCost ad hf j n) (cuts := 0) hc.1 (by omega) (by omega) (by rw [h0]; omega) hz
      rw [← e1, ← e2] at o
      exact ⟨o.1, Int.le_trans o.2.1 hc.2, o.2.2.1, o.2.2.2.1, fun _ => ⟨o.2.2.2.2.1, o.2.2.2.2.2⟩, fun z => absurd q z⟩
    · have hcl : ∀ m, j + m < n → kbestTo ad hf ll pen n rc rk j m = (2147483647, 0, nI n) := by
        intro m
        induction m with
        | zero => intro _; rfl
        | succ m ihm => intro hm2; rw [kbestTo, if_neg (by omega), ihm (by omega)]
      have hz : kmsum co ll pen n be j n = 1000000000 := by
        unfold kmsum
        exact if_neg (fun g => g.1.elim (fun z => q (Or.inr z)) (fun z => q (Or.inl z.1)))
      have hmx := kmax
      rw [hcl _ (by omega), kcand_yes (Or.inl (by show kCost ad hf j n < 2147483647; rw [ki_lt]; omega))] at e1
      rw [hcl _ (by omega)] at h
      have hdd : kmTo co ll pen n be j (n - (j + 1)) = (1000000000, nI n) := by
        rcases h with ⟨-, h⟩ | ⟨h1, h2, -⟩
        · exact h
        · have : (2147483647 : Int32).toInt ≤ 7300000 := h2
          omega
      rw [hz, hdd, if_neg (by rw [ki_lt]; exact Int.lt_irrefl _)] at e2
      simp only [Prod.mk.injEq] at e1 e2
      obtain ⟨a1, a2, a3⟩ := e1
      refine ⟨by rw [a1]; exact hc.1, by rw [a1]; exact hc.2, by rw [a2]; omega, by rw [a2, h0]; omega, fun z => absurd z q, fun _ => e2.1⟩

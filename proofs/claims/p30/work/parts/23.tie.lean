/-! the reference's sums against the costs and the cuts -/
theorem kmed_in {B : Int} (hB : 0 ≤ B) {xs : List Int32} (h : ∀ x ∈ xs, kIn B x) : -B ≤ (kMed xs).toInt ∧ (kMed xs).toInt ≤ B := kMed_in hB h
theorem kwk_mem {g h : Nat → Int32} {a : Nat} {x : Int32} : ∀ m, x ∈ kwk g h a m → ∃ k, a ≤ k ∧ k < a + m ∧ x = g k
  | 0, hx => nomatch hx
  | m + 1, hx => by
    rw [kwk] at hx
    rcases List.mem_append.mp hx with q | q
    · obtain ⟨k, h1, h2, h3⟩ := kwk_mem m q
      exact ⟨k, h1, by omega, h3⟩
    · split at q
      · exact ⟨a + m, by omega, by omega, List.mem_singleton.mp q⟩
      · exact nomatch q
theorem kseg_mem {g h : Nat → Int32} {a b : Nat} {x : Int32} (hx : x ∈ kseg g h a b) : ∃ k, a ≤ k ∧ k < b ∧ x = g k := by
  obtain ⟨k, h1, h2, h3⟩ := kwk_mem _ hx
  exact ⟨k, h1, by omega, h3⟩
theorem kph_mem {v h : Nat → Int32} {len : Nat} {base : Int32} {p : Nat} {x : Int32} : ∀ m, x ∈ kph v h len base p m → ∃ k, k < m ∧ x = v k - base
  | 0, hx => nomatch hx
  | m + 1, hx => by
    rw [kph] at hx
    rcases List.mem_append.mp hx with q | q
    · obtain ⟨k, h1, h2⟩ := kph_mem m q
      exact ⟨k, by omega, h2⟩
    · split at q
      · exact ⟨m, by omega, List.mem_singleton.mp q⟩
      · exact nomatch q
/-- adjusted values are within 30000 -/
theorem kAdj_in {v hf : Nat → Int32} {n len : Nat} (hv : ∀ k, k < n → -10000 ≤ (v k).toInt ∧ (v k).toInt ≤ 10000) {k : Nat} (hk : k < n) : kIn 30000 (kAdj v hf n len k) := by
  have hb : kIn 10000 (kBase v hf n) := kMed_in (by omega) (fun x hx => by
    obtain ⟨i, -, h2, h3⟩ := kseg_mem hx
    rw [h3]
    exact hv i h2)
  have hb' : -10000 ≤ (kBase v hf n).toInt ∧ (kBase v hf n).toInt ≤ 10000 := hb
  have hs : kIn 20000 (kSeas v hf n len (k % len)) := kMed_in (by omega) (fun x hx => by
    obtain ⟨i, h2, h3⟩ := kph_mem _ hx
    have := hv i h2
    rw [h3]
    unfold kIn
    rw [fb_subI (by omega) (by omega)]
    omega)
  have hs' : -20000 ≤ (kSeas v hf n len (k % len)).toInt ∧ (kSeas v hf n len (k % len)).toInt ≤ 20000 := hs
  have := hv k hk
  unfold kIn kAdj
  rw [fb_subI (by omega) (by omega)]
  omega
theorem kSeg_in {ad hf : Nat → Int32} {n : Nat} (ha : ∀ k, k < n → kIn 30000 (ad k)) {a b : Nat} (hb : b ≤ n) : ∀ x ∈ kseg ad hf a b, kIn 30000 x := fun x hx => by
  obtain ⟨i, -, h2, h3⟩ := kseg_mem hx
  rw [h3]
  exact ha i (by omega)
theorem kCost_in {ad hf : Nat → Int32} {n : Nat} (hn : n ≤ 60) (ha : ∀ k, k < n → kIn 30000 (ad k)) {a b : Nat} (hb : b ≤ n) : 0 ≤ (kCost ad hf a b).toInt ∧ (kCost ad hf a b).toInt ≤ 3600000 := by
  have hl := kseg_len ad hf a b
  have := kspread_bound (B := 30000) (by omega) (by omega) (kSeg_in ha hb (hf := hf) (a := a)) (by omega)
  unfold kCost
  have h2 : ((kseg ad hf a b).length : Int) ≤ 60 := by omega
  omega
theorem kCost_sum {ad hf : Nat → Int32} {n : Nat} (hn : n ≤ 60) (ha : ∀ k, k < n → kIn 30000 (ad k)) {a b : Nat} (hb : b ≤ n) : kSumM (kseg ad hf a b) = kCost ad hf a b :=
  (kspread_sum (fun x hx => by have := kSeg_in ha hb x hx; unfold kIn at this ⊢; omega) (by have := kseg_len ad hf a b; omega)).symm
theorem kbig : (1000000000 : Int32).toInt = 1000000000 := by decide
theorem kmax : (2147483647 : Int32).toInt = 2147483647 := by decide

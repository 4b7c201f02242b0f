/-! what the reference lays -/
def kin (x lo hi : Int32) : Int32 := if x < lo then 0 else if hi < x then 0 else 1
def ksz (x : Int32) : Int32 := if 0 ≤ x then x else -x
def ksum (f : Nat → Int32) (lv : Int32) : Nat → Int32
  | 0 => 0
  | k + 1 => ksum f lv k + ksz (f k - lv)
theorem ksum_congr {f g : Nat → Int32} {lv : Int32} : ∀ k, (∀ i, i < k → f i = g i) → ksum f lv k = ksum g lv k
  | 0, _ => rfl
  | k + 1, h => by rw [ksum, ksum, ksum_congr k (fun i hi => h i (by omega)), h k (by omega)]
/-- a sorted row without its sum -/
def kRowR (xs : List Int32) (n : Nat) (f : Nat → Int32) : Prop := n = xs.length ∧ kSR f (ksort xs) ∧ (ksort xs).Pairwise (· ≤ ·)
theorem kRowR_0 (f : Nat → Int32) : kRowR [] 0 f := ⟨rfl, fun i h => absurd h (by simp [ksort]), List.Pairwise.nil⟩
theorem kRowR_ins {xs : List Int32} {n : Nat} {x : Int32} {f f2 : Nat → Int32} (h : kRowR xs n f) (h2 : kins f n x f2) : kRowR (xs ++ [x]) (n + 1) f2 := by
  obtain ⟨rfl, h3, h4⟩ := h
  rw [← ksort_len] at h2
  obtain ⟨a, b⟩ := kSR_ins h3 h4 h2
  exact ⟨by rw [List.length_append]; rfl, by rw [ksort_snoc]; exact a, by rw [ksort_snoc]; exact b⟩
theorem kRowR_med {xs : List Int32} {n : Nat} {f : Nat → Int32} (h : kRowR xs n f) : kmed f n = kMed xs := by
  obtain ⟨rfl, h3, -⟩ := h
  unfold kMed kmedL
  rw [ksort_len]
  exact kmed_congr (fun i hi => (kSR_getD h3 (by rw [ksort_len]; exact hi)).symm)
/-- the sum of the differences from the median, added up -/
def kSumM (xs : List Int32) : Int32 := ksum (fun i => (ksort xs).getD i 0) (kMed xs) xs.length
theorem kRowR_sum {xs : List Int32} {n : Nat} {f : Nat → Int32} (h : kRowR xs n f) : ksum f (kMed xs) n = kSumM xs := by
  obtain ⟨rfl, h3, -⟩ := h
  exact ksum_congr _ (fun i hi => (kSR_getD h3 (by rw [ksort_len]; exact hi)).symm)
theorem kph_gap {v h : Nat → Int32} {len : Nat} {base : Int32} {p a : Nat} : ∀ b, a ≤ b → (∀ i, a ≤ i → i < b → i % len ≠ p) → kph v h len base p b = kph v h len base p a
  | 0, hab, _ => by
    have : a = 0 := by omega
    rw [this]
  | b + 1, hab, hh => by
    rcases Nat.eq_or_lt_of_le hab with q | q
    · rw [← q]
    · rw [kph_no (fun z => hh b (by omega) (by omega) z.1)]
      exact kph_gap b (by omega) (fun i h1 h2 => hh i h1 (by omega))
theorem kmod_gap {k len p i : Nat} (h : k % len = p) (h1 : k < i) (h2 : i < k + len) : i % len ≠ p := by
  intro q
  have e := Nat.sub_mod_eq_zero_of_mod_eq (q.trans h.symm)
  rw [Nat.mod_eq_of_lt (by omega)] at e
  omega
theorem kmod_small {p len i : Nat} (h : i < p) (hp : p < len) : i % len ≠ p := by
  rw [Nat.mod_eq_of_lt (by omega)]
  omega
theorem kph_step {v h : Nat → Int32} {len : Nat} {base : Int32} {p k : Nat} (hl : 1 ≤ len) (hk : k % len = p) : kph v h len base p (k + len) = kph v h len base p k ++ (if h k = 0 then [v k - base] else []) := by
  rw [kph_gap (a := k + 1) (k + len) (by omega) (fun i h1 h2 => kmod_gap hk (by omega) h2), kph]
  by_cases q : h k = 0
  · rw [if_pos ⟨hk, q⟩, if_pos q]
  · rw [if_neg (fun z => q z.2), if_neg q]
/-- one offer, and the best of the offers up to before s + 1 + m: 64 times the cost, and the cuts -/
def kmsum (co : Nat → Int32) (ll : Nat) (pen : Int32) (n : Nat) (be : Nat → Int32) (s e : Nat) : Int32 := if (ll ≤ e - s ∨ (s = 0 ∧ e = n)) ∧ (e = n ∨ be e < 1000000000) then 64 * co (61 * s + e) + (if e = n then 0 else be e + 64 * pen + 1) else 1000000000
def kmTo (co : Nat → Int32) (ll : Nat) (pen : Int32) (n : Nat) (be : Nat → Int32) (s : Nat) : Nat → Int32 × Int32
  | 0 => (1000000000, nI n)
  | m + 1 => if kmsum co ll pen n be s (s + 1 + m) < (kmTo co ll pen n be s m).1 then (kmsum co ll pen n be s (s + 1 + m), nI (s + 1 + m)) else kmTo co ll pen n be s m
theorem kmTo_s {co : Nat → Int32} {ll : Nat} {pen : Int32} {n : Nat} {be : Nat → Int32} {s e : Nat} (he : s < e) : kmTo co ll pen n be s (e + 1 - (s + 1)) = if kmsum co ll pen n be s e < (kmTo co ll pen n be s (e - (s + 1))).1 then (kmsum co ll pen n be s e, nI e) else kmTo co ll pen n be s (e - (s + 1)) := by
  obtain ⟨m, rfl⟩ : ∃ m, e = s + 1 + m := ⟨e - (s + 1), by omega⟩
  rw [show s + 1 + m + 1 - (s + 1) = m + 1 by omega, show s + 1 + m - (s + 1) = m by omega]
  rfl
theorem kmTo_congr {co : Nat → Int32} {ll : Nat} {pen : Int32} {n : Nat} {be be2 : Nat → Int32} {s : Nat} (hh : ∀ i, s < i → be i = be2 i) : ∀ m, kmTo co ll pen n be s m = kmTo co ll pen n be2 s m
  | 0 => rfl
  | m + 1 => by
    have e : kmsum co ll pen n be s (s + 1 + m) = kmsum co ll pen n be2 s (s + 1 + m) := by unfold kmsum; rw [hh (s + 1 + m) (by omega)]
    rw [kmTo, kmTo, kmTo_congr hh m, e]
def ku2 (be en : Nat → Int32) (s : Nat) (d : Int32 × Int32) (be2 en2 : Nat → Int32) : Prop := be2 = upd be s d.1 ∧ en2 = upd en s d.2
theorem ku2_up {be en be2 en2 : Nat → Int32} {s : Nat} {d : Int32 × Int32} {z e : Int32} (h : ku2 be en s d be2 en2) : ku2 be en s (z, e) (upd be2 s z) (upd en2 s e) := by
  obtain ⟨rfl, rfl⟩ := h
  exact ⟨ku_twice _ _ _ _, ku_twice _ _ _ _⟩
/-- the rows of best sums and ends, from s on -/
def kDM (co : Nat → Int32) (ll : Nat) (pen : Int32) (n : Nat) (be en : Nat → Int32) (s : Nat) : Prop := be n = 0 ∧ ∀ j, s ≤ j → j < n → (be j, en j) = kmTo co ll pen n be j (n - j)
theorem kDM_step {co : Nat → Int32} {ll : Nat} {pen : Int32} {n : Nat} {be en be2 en2 : Nat → Int32} {s : Nat} (hs : s < n) (hd : kDM co ll pen n be en (s + 1)) (hu : ku2 be en s (kmTo co ll pen n be s (n - s)) be2 en2) : kDM co ll pen n be2 en2 s := by
  obtain ⟨h0, h1⟩ := hd
  have hat : (be2 s, en2 s) = kmTo co ll pen n be s (n - s) := by
    rw [hu.1, hu.2, pk_us, pk_us]
  obtain ⟨rfl, rfl⟩ := hu
  refine ⟨by rw [pk_un (by omega)]; exact h0, fun j hj hjn => ?_⟩
  rcases Nat.eq_or_lt_of_le hj with rfl | q
  · rw [hat]
    exact kmTo_congr (fun i hi => by rw [pk_un (by omega)]) _
  · rw [pk_un (by omega), pk_un (by omega), h1 j q hjn]
    exact kmTo_congr (fun i hi => by rw [pk_un (by omega)]) _

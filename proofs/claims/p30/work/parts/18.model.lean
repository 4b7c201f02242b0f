/-! what the reference lays -/
def kin (x lo hi : Int32) : Int32 := if x < lo then 0 else if hi < x then 0 else 1
def ksz (x : Int32) : Int32 := if 0 ≤ x then x else -x
def ksum (f : Nat → Int32) (lv : Int32) : Nat → Int32
  | 0 => 0
  | k + 1 => ksum f lv k + ksz (f k - lv)
theorem ksum_congr {f g : Nat → Int32} {lv : Int32} : ∀ k, (∀ i, i < k → f i = g i) → ksum f lv k = ksum g lv k
  | 0, _ => rfl
  | k + 1, h => by rw [ksum, ksum, ksum_congr k (fun i hi => h i (by omega)), h k (by omega)]
/-- the sum of the differences from the median, added up -/
def kSumM (xs : List Int32) : Int32 := ksum (fun i => (ksort xs).getD i 0) (kMed xs) xs.length
theorem kph_gap {v h : Nat → Int32} {len : Nat} {base : Int32} {p a : Nat} : ∀ b, a ≤ b → (∀ i, a ≤ i → i < b → i % len ≠ p) → kph v h len base p b = kph v h len base p a
  | 0, hab, _ => by
    have : a = 0 := by omega
    rw [this]
  | b + 1, hab, hh => by
    rcases Nat.eq_or_lt_of_le hab with q | q
    · rw [← q]
    · rw [kph_no (fun z => hh b (by omega) (by omega) z.1)]
      exact kph_gap b (by omega) (fun i h1 h2 => hh i h1 (by omega))
theorem kmod_gap {k len p i : Nat} (h : k % len = p) (h1 : k < i) (h2 : i < k + len) : i % len ≠ p := by
  intro q
  have e := Nat.sub_mod_eq_zero_of_mod_eq (q.trans h.symm)
  rw [Nat.mod_eq_of_lt (by omega)] at e
  omega
theorem kmod_small {p len i : Nat} (h : i < p) (hp : p < len) : i % len ≠ p := by
  rw [Nat.mod_eq_of_lt (by omega)]
  omega
theorem kph_step {v h : Nat → Int32} {len : Nat} {base : Int32} {p k : Nat} (hl : 1 ≤ len) (hk : k % len = p) : kph v h len base p (k + len) = kph v h len base p k ++ (if h k = 0 then [v k - base] else []) := by
  rw [kph_gap (a := k + 1) (k + len) (by omega) (fun i h1 h2 => kmod_gap hk (by omega) h2), kph]
  by_cases q : h k = 0
  · rw [if_pos ⟨hk, q⟩, if_pos q]
  · rw [if_neg (fun z => q z.2), if_neg q]

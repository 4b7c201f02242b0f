/-! the least cost of every division tried is what the rows say; what is in and out of bounds -/
theorem kcand_min {c : Int32 × Int32 × Int32} {cost cuts e : Int32} : (kcand c cost cuts e).1.toInt = min cost.toInt c.1.toInt := by
  unfold kcand
  split
  · rename_i h
    show cost.toInt = min cost.toInt c.1.toInt
    rcases h with h | ⟨h, -⟩
    · rw [ki_lt] at h; omega
    · rw [h, Int.min_self]
  · rename_i h
    have h1 : ¬ cost < c.1 := fun q => h (Or.inl q)
    rw [ki_lt] at h1
    omega
theorem kbestTo_none {ad h : Nat → Int32} {ll : Nat} {pen : Int32} {n : Nat} {rc rk : Nat → Int32} {s : Nat} : ∀ m, (∀ i, i < m → ¬ (ll ≤ i + 1 ∧ ll ≤ n - (s + 1 + i))) → kbestTo ad h ll pen n rc rk s m = (2147483647, 0, nI n)
  | 0, _ => rfl
  | m + 1, hm => by rw [kbestTo, if_neg (hm m (by omega)), kbestTo_none m (fun i hi => hm i (by omega))]
theorem kbestTo_tail {ad h : Nat → Int32} {ll : Nat} {pen : Int32} {n : Nat} {rc rk : Nat → Int32} {s a : Nat} : ∀ m, (∀ i, a ≤ i → i < a + m → ¬ (ll ≤ i + 1 ∧ ll ≤ n - (s + 1 + i))) → kbestTo ad h ll pen n rc rk s (a + m) = kbestTo ad h ll pen n rc rk s a
  | 0, _ => rfl
  | m + 1, hm => by rw [← Nat.add_assoc, kbestTo, if_neg (hm (a + m) (by omega) (by omega)), kbestTo_tail m (fun i h1 h2 => hm i h1 (by omega))]
theorem ktry_fold {ad h : Nat → Int32} {ll : Nat} {pen : Int32} {n : Nat} {rc rk : Nat → Int32} {s : Nat} (hl : 1 ≤ ll) : ∀ m, m ≤ n - ll + 1 - (s + ll) → (ktryTo (kCost ad h) n ll pen s rc m).toInt = min (kCost ad h s n).toInt (kbestTo ad h ll pen n rc rk s (ll - 1 + m)).1.toInt
  | 0, _ => by
    rw [kbestTo_none (ll - 1 + 0) (fun i hi => by omega)]
    have := fb_rng (kCost ad h s n)
    show (kCost ad h s n).toInt = min (kCost ad h s n).toInt (2147483647 : Int32).toInt
    rw [kmax]
    omega
  | m + 1, hm => by
    have ih := ktry_fold (ad := ad) (h := h) (ll := ll) (pen := pen) (n := n) (rc := rc) (rk := rk) (s := s) hl m (by omega)
    rw [ktryTo, show ll - 1 + (m + 1) = (ll - 1 + m) + 1 by omega, kbestTo, if_pos (show ll ≤ ll - 1 + m + 1 ∧ ll ≤ n - (s + 1 + (ll - 1 + m)) by omega), kcand_min, show s + 1 + (ll - 1 + m) = s + ll + m by omega]
    split
    · rename_i q; rw [ki_lt] at q; omega
    · rename_i q; rw [ki_lt] at q; omega
theorem ktry_best {ad h : Nat → Int32} {ll : Nat} {pen : Int32} {n : Nat} {rc rk re : Nat → Int32} (hl : 1 ≤ ll) (hd : kDP ad h ll pen n rc rk re 0) : ∀ k s, s < n → n - s ≤ k → ktry (kCost ad h) n ll pen k s = rc s
  | 0, s, hs, hk => absurd hk (by omega)
  | k + 1, s, hs, hk => by
    have e1 := congrArg Prod.fst (hd s (Nat.zero_le s) hs)
    rw [show rc s = (kbest ad h ll pen n rc rk s).1 from e1, ktry, ktryTo_congr hs hl (fun e _ _ => rfl) (fun e a b => ktry_best hl hd k e b (by omega)) _ (Nat.le_refl _), ki_eq, ktry_fold (rk := rk) hl _ (Nat.le_refl _)]
    unfold kbest
    rw [kcand_min]
    by_cases q : s + ll ≤ n - ll
    · have ht := kbestTo_tail (ad := ad) (h := h) (pen := pen) (rc := rc) (rk := rk) (ll := ll) (n := n) (s := s) (a := ll - 1 + (n - ll + 1 - (s + ll))) (n - (s + 1) - (ll - 1 + (n - ll + 1 - (s + ll)))) (fun i h1 h2 => by omega)
      rw [show ll - 1 + (n - ll + 1 - (s + ll)) + (n - (s + 1) - (ll - 1 + (n - ll + 1 - (s + ll)))) = n - (s + 1) by omega] at ht
      rw [ht]
    · rw [kbestTo_none (ll - 1 + (n - ll + 1 - (s + ll))) (fun i hi => by omega), kbestTo_none (n - (s + 1)) (fun i hi => by omega)]
theorem kLeast {v hf : Nat → Int32} {n len ll : Nat} {pen : Int32} (hl : 1 ≤ ll) (hn : 0 < n) : ktry (kCost (kAdj v hf n len) hf) n ll pen n 0 = kRc v hf n len ll pen 0 := ktry_best hl (kEn_dp v hf n len ll pen) n 0 hn (by omega)
/-! in or out of bounds -/
theorem kin_two (x lo hi : Int32) : kin x lo hi = nI 0 ∨ kin x lo hi = nI 1 := by
  unfold kin
  split
  · exact Or.inl rfl
  · split
    · exact Or.inl rfl
    · exact Or.inr rfl
theorem kin_bad {x lo hi : Int32} (h : kin x lo hi = nI 0) : x < lo ∨ ¬ x ≤ hi := by
  unfold kin at h
  by_cases q : x < lo
  · exact Or.inl q
  · rw [if_neg q] at h
    by_cases r : hi < x
    · exact Or.inr (Int32.not_le.mpr r)
    · rw [if_neg r] at h
      exact absurd h (by decide)
theorem kin_good {x lo hi : Int32} (h : kin x lo hi = nI 1) : ¬ x < lo ∧ x ≤ hi := by
  unfold kin at h
  by_cases q : x < lo
  · rw [if_pos q] at h; exact absurd h (by decide)
  · rw [if_neg q] at h
    by_cases r : hi < x
    · rw [if_pos r] at h; exact absurd h (by decide)
    · exact ⟨q, Int32.not_lt.mp r⟩
theorem kin_goodI {x lo hi : Int32} (h : kin x lo hi = nI 1) : lo.toInt ≤ x.toInt ∧ x.toInt ≤ hi.toInt := by
  obtain ⟨a, b⟩ := kin_good h
  rw [ki_lt] at a
  exact ⟨by omega, Int32.le_iff_toInt_le.mp b⟩
theorem knI {x : Int32} (h : 0 ≤ x.toInt) : x = nI x.toInt.toNat ∧ (x.toInt.toNat : Int) = x.toInt := by
  have := fb_rng x
  exact ⟨by rw [ki_eq, nI_toInt (by omega)]; omega, by omega⟩
theorem kin_nat {x : Int32} {a b : Nat} (hb : b < 2 ^ 31) (ha : a < 2 ^ 31) (h : kin x (nI a) (nI b) = nI 1) : ∃ m, x = nI m ∧ a ≤ m ∧ m ≤ b := by
  obtain ⟨h1, h2⟩ := kin_goodI h
  rw [nI_toInt ha] at h1
  rw [nI_toInt hb] at h2
  obtain ⟨e1, e2⟩ := knI (x := x) (by omega)
  exact ⟨_, e1, by omega, by omega⟩
theorem kn1 {n : Nat} (hn : n ≤ 60) : (nI n - nI 1).toInt = (n : Int) - 1 := by
  have h1 : (nI 1).toInt = 1 := rfl
  rw [fb_subI (by rw [nI_toInt (by omega), h1]; omega) (by rw [nI_toInt (by omega), h1]; omega), nI_toInt (by omega), h1]
theorem kin_up {x : Int32} {a n : Nat} (hn : n ≤ 60) (ha : a ≤ 60) (h : kin x (nI a) (nI n - nI 1) = nI 1) : ∃ m, x = nI m ∧ a ≤ m ∧ m < n := by
  obtain ⟨h1, h2⟩ := kin_goodI h
  rw [nI_toInt (by omega)] at h1
  rw [kn1 hn] at h2
  obtain ⟨e1, e2⟩ := knI (x := x) (by omega)
  exact ⟨_, e1, by omega, by omega⟩
theorem kin_upbad {x lo : Int32} {n : Nat} (hn : n ≤ 60) (h : kin x lo (nI n - nI 1) = nI 0) : x < lo ∨ ¬ x < nI n := (kin_bad h).elim Or.inl (fun q => Or.inr (fun r => q (by
  rw [ki_lt, nI_toInt (by omega)] at r
  rw [Int32.le_iff_toInt_le, kn1 hn]
  omega)))
/-! the bounds are kept -/
theorem kOk_add {v hf : Nat → Int32} {n len ll : Nat} {pen bf bl : Int32} (h : kOk v hf n len ll pen bf bl) {x : Int32} (hx : kin x (-10000 : Int32) (nI 10000) = nI 1) (hn : n < 60) : kOk (upd v n x) (upd hf n (nI 0)) (n + 1) len ll pen bf bl := by
  obtain ⟨h1, h2, h3, h4, h5, h6, h7, h8, h9⟩ := h
  have hb : -10000 ≤ x.toInt ∧ x.toInt ≤ 10000 := kin_goodI hx
  refine ⟨by omega, fun k => ?_, h3, h4, h5, h6, fun k hk => ?_, h8, h9⟩
  · unfold upd; split
    · exact Or.inl rfl
    · exact h2 k
  · unfold upd; split
    · exact hb
    · exact h7 k (by omega)
theorem kOk_fill {v hf : Nat → Int32} {n len ll : Nat} {pen bf bl : Int32} (h : kOk v hf n len ll pen bf bl) {x : Int32} {t : Nat} (hx : kin x (-10000 : Int32) (nI 10000) = nI 1) (hn : n + t ≤ 60) : kOk (kfill v n x t) (kfill hf n (nI 0) t) (n + t) len ll pen bf bl := by
  obtain ⟨h1, h2, h3, h4, h5, h6, h7, h8, h9⟩ := h
  have hb : -10000 ≤ x.toInt ∧ x.toInt ≤ 10000 := kin_goodI hx
  refine ⟨hn, fun k => ?_, h3, h4, h5, h6, fun k hk => ?_, h8, h9⟩
  · unfold kfill; split
    · exact Or.inl rfl
    · exact h2 k
  · unfold kfill; split
    · exact hb
    · exact h7 k (by omega)
theorem kOk_correct {v hf : Nat → Int32} {n len ll : Nat} {pen bf bl : Int32} (h : kOk v hf n len ll pen bf bl) {x : Int32} {j : Nat} (hx : kin x (-10000 : Int32) (nI 10000) = nI 1) : kOk (upd v j x) hf n len ll pen bf bl := by
  obtain ⟨h1, h2, h3, h4, h5, h6, h7, h8, h9⟩ := h
  have hb : -10000 ≤ x.toInt ∧ x.toInt ≤ 10000 := kin_goodI hx
  refine ⟨h1, h2, h3, h4, h5, h6, fun k hk => ?_, h8, h9⟩
  unfold upd; split
  · exact hb
  · exact h7 k hk
theorem kOk_holiday {v hf : Nat → Int32} {n len ll : Nat} {pen bf bl : Int32} (h : kOk v hf n len ll pen bf bl) {x : Int32} {j : Nat} (hx : kbit x) : kOk v (upd hf j x) n len ll pen bf bl := by
  obtain ⟨h1, h2, h3⟩ := h
  refine ⟨h1, fun k => ?_, h3⟩
  unfold upd; split
  · exact hx
  · exact h2 k
theorem kOk_drop {v hf : Nat → Int32} {n len ll : Nat} {pen bf bl : Int32} (h : kOk v hf n len ll pen bf bl) {t : Nat} (ht : t ≤ n) : kOk (kshift v n t) (kshift hf n t) (n - t) len ll pen bf bl := by
  obtain ⟨h1, h2, h3, h4, h5, h6, h7, h8, h9⟩ := h
  refine ⟨by omega, fun k => ?_, h3, h4, h5, h6, fun k hk => ?_, h8, h9⟩
  · unfold kshift; split
    · exact h2 _
    · exact h2 k
  · unfold kshift; rw [if_pos hk]
    exact h7 _ (by omega)
theorem kOk_season {v hf : Nat → Int32} {n len ll : Nat} {pen bf bl : Int32} (h : kOk v hf n len ll pen bf bl) {t : Nat} (h1 : 1 ≤ t) (h2 : t ≤ 12) : kOk v hf n t ll pen bf bl := ⟨h.1, h.2.1, h1, h2, h.2.2.2.2⟩
theorem kOk_cuts {v hf : Nat → Int32} {n len ll : Nat} {pen bf bl : Int32} (h : kOk v hf n len ll pen bf bl) {t : Nat} {y : Int32} (h1 : 1 ≤ t) (h2 : t ≤ 10) (h3 : kin y (nI 0) (nI 100000) = nI 1) : kOk v hf n len t y bf bl := ⟨h.1, h.2.1, h.2.2.1, h.2.2.2.1, h1, h2, h.2.2.2.2.2.2.1, kin_goodI h3, h.2.2.2.2.2.2.2.2⟩
theorem kOk_bound {v hf : Nat → Int32} {n len ll : Nat} {pen bf bl : Int32} (h : kOk v hf n len ll pen bf bl) {x y : Int32} (h1 : kin x (nI 100) (nI 2000) = nI 1) (h2 : kin y (nI 0) (nI 1000) = nI 1) : kOk v hf n len ll pen x y := ⟨h.1, h.2.1, h.2.2.1, h.2.2.2.1, h.2.2.2.2.1, h.2.2.2.2.2.1, h.2.2.2.2.2.2.1, h.2.2.2.2.2.2.2.1, kin_goodI h1, kin_goodI h2⟩

/-! what the reference has laid, in the words of what is normal -/
theorem kbestTo_end2 (ad h : Nat → Int32) (ll : Nat) (pen : Int32) (n : Nat) (rc rk : Nat → Int32) (s : Nat) (hs : s < n) : ∀ m, s + m < n → ∃ e, s < e ∧ e ≤ n ∧ (e = n ∨ ll ≤ n - e) ∧ (kbestTo ad h ll pen n rc rk s m).2.2 = nI e
  | 0, _ => ⟨n, hs, Nat.le_refl n, Or.inl rfl, rfl⟩
  | m + 1, hm => by
    have ih := kbestTo_end2 ad h ll pen n rc rk s hs m (by omega)
    rw [kbestTo]
    split
    · rename_i q
      unfold kcand
      split
      · exact ⟨s + 1 + m, by omega, by omega, Or.inr q.2, rfl⟩
      · exact ih
    · exact ih
theorem kEn_cut {v hf : Nat → Int32} {n len ll : Nat} {pen : Int32} (hn : n ≤ 60) {j : Nat} (hj : j < n) : kEn v hf n len ll pen j = n ∨ ll ≤ n - kEn v hf n len ll pen j := by
  have h := kEn_dp v hf n len ll pen j (Nat.zero_le j) hj
  have h4 := (kEn_is (v := v) (hf := hf) (len := len) (ll := ll) (pen := pen) hn hj).1
  have h5 : nI (kEn v hf n len ll pen j) = (kbest (kAdj v hf n len) hf ll pen n (kRc v hf n len ll pen) (kRk v hf n len ll pen) j).2.2 := by rw [← h, ← h4]
  obtain ⟨e, h1, h2, h3, h6⟩ := kbestTo_end2 (kAdj v hf n len) hf ll pen n (kRc v hf n len ll pen) (kRk v hf n len ll pen) j hj (n - (j + 1)) (by omega)
  have hen := (kEn_is (v := v) (hf := hf) (len := len) (ll := ll) (pen := pen) hn hj).2
  unfold kbest kcand at h5
  split at h5
  · exact Or.inl (keq h5 (by omega) (by omega))
  · rw [h6] at h5
    rw [keq h5 (by omega) (by omega)]
    exact h3
theorem kpos_ex {en : Nat → Nat} {n : Nat} (hen : ∀ j, j < n → j < en j ∧ en j ≤ n) : ∀ m i, n - kpos en i ≤ m → kpos en i ≤ n → i ≤ kpos en i → (∀ j, j < i → kpos en j < n) → ∃ c, kpos en c = n ∧ c ≤ n ∧ ∀ j, j < c → kpos en j < n
  | 0, i, h1, h2, h3, h4 => ⟨i, by omega, by omega, h4⟩
  | m + 1, i, h1, h2, h3, h4 => by
    rcases Nat.eq_or_lt_of_le h2 with q | q
    · exact ⟨i, q, by omega, h4⟩
    · have e : kpos en (i + 1) = en (kpos en i) := rfl
      have := hen _ q
      exact kpos_ex hen m (i + 1) (by omega) (by omega) (by omega) (fun j hj => by
        rcases Nat.eq_or_lt_of_le (Nat.le_of_lt_succ hj) with r | r
        · rw [r]; exact q
        · exact h4 j r)
theorem kFnd_ok {v hf : Nat → Int32} {n len ll : Nat} {pen : Int32} (hn : n ≤ 60) : kpos (kEn v hf n len ll pen) (kFnd v hf n len ll pen) = n ∧ kFnd v hf n len ll pen ≤ n ∧ ∀ j, j < kFnd v hf n len ll pen → kpos (kEn v hf n len ll pen) j < n := by
  obtain ⟨c, h1, h2, h3⟩ := kpos_ex (en := kEn v hf n len ll pen) (n := n) (fun j hj => (kEn_is hn hj).2) n 0 (by omega) (Nat.zero_le n) (Nat.le_refl 0) (fun j hj => absurd hj (Nat.not_lt_zero j))
  rw [kFnd_is h1 h2 h3]
  exact ⟨h1, h2, h3⟩
theorem kStart_is {v hf : Nat → Int32} {n len ll : Nat} {pen : Int32} (hn : n ≤ 60) {k : Nat} (hk : k < n) : ∃ i, i < kFnd v hf n len ll pen ∧ kStart v hf n len ll pen k = kpos (kEn v hf n len ll pen) i := by
  obtain ⟨h1, h2, h3⟩ := kFnd_ok (v := v) (hf := hf) (len := len) (ll := ll) (pen := pen) hn
  obtain ⟨i, a, b, c⟩ := kseg_find (en := kEn v hf n len ll pen) (k := k) (kFnd v hf n len ll pen) (by rw [h1]; exact hk)
  refine ⟨i, a, kst_is (fun j hj => ?_) c n 0 (Nat.zero_le i) (by omega)⟩
  rcases Nat.eq_or_lt_of_le (show j + 1 ≤ i from hj) with q | q
  · rw [q]; exact b
  · have := kpos_mono (en := kEn v hf n len ll pen) (fun j hj => (kEn_is hn hj).2) h3 i (by omega) (j + 1) q
    omega
theorem ksz_kab (x : Int32) : ksz x = kab x := by
  unfold ksz kab
  split
  · rfl
  · rw [Int32.zero_sub]
theorem kw_lt {a b : Int32} : a.toInt64 < b.toInt64 ↔ a < b := by
  rw [Int64.lt_iff_toInt_lt, Int32.toInt_toInt64, Int32.toInt_toInt64, ki_lt]
theorem kSide_w (d b : Int32) : kSide d.toInt64 b = if b < d then 1 else if d < -b then 2 else 0 := by
  unfold kSide
  simp only [kw_lt]
theorem kEnLast {v hf : Nat → Int32} {n len ll : Nat} {pen : Int32} (hn : n ≤ 60) (h0 : 0 < n) : kEn v hf n len ll pen (kStart v hf n len ll pen (n - 1)) = n := by
  obtain ⟨h1, h2, h3⟩ := kFnd_ok (v := v) (hf := hf) (len := len) (ll := ll) (pen := pen) hn
  have hc : 0 < kFnd v hf n len ll pen := by
    rcases Nat.eq_zero_or_pos (kFnd v hf n len ll pen) with q | q
    · rw [q] at h1
      have : n = 0 := h1.symm
      omega
    · exact q
  have e2 : kpos (kEn v hf n len ll pen) (kFnd v hf n len ll pen - 1 + 1) = n := by rw [show kFnd v hf n len ll pen - 1 + 1 = kFnd v hf n len ll pen by omega]; exact h1
  have e : kStart v hf n len ll pen (n - 1) = kpos (kEn v hf n len ll pen) (kFnd v hf n len ll pen - 1) := kst_is (c := kFnd v hf n len ll pen - 1) (fun j hj => by
      have := kpos_mono (en := kEn v hf n len ll pen) (fun j hj => (kEn_is hn hj).2) h3 (kFnd v hf n len ll pen) (Nat.le_refl _) (j + 1) (by omega)
      omega) (by omega) n 0 (Nat.zero_le _) (by omega)
  rw [e]
  exact e2
theorem kin_ok {n k : Nat} (hn : n ≤ 60) (hk : k < n) : kin (nI k) (nI 0) (nI n - nI 1) = nI 1 := by
  unfold kin
  rw [pk_sub (by omega), if_neg (fun q => by have := klt q (by omega) (by omega); omega), if_neg (fun q => by have := klt q (by omega) (by omega); omega)]
  rfl
theorem kin_le {a b k : Nat} (hk : a ≤ k) (hb : k ≤ b) (hB : b < 2 ^ 31) : kin (nI k) (nI a) (nI b) = nI 1 := by
  unfold kin
  rw [if_neg (fun q => by have := klt q (by omega) (by omega); omega), if_neg (fun q => by have := klt q (by omega) (by omega); omega)]
  rfl


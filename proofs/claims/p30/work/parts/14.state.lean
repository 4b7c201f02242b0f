/-! what is normal of a series: v the values, hf the holidays, n how many, len the season's length, ll and pen the cuts' settings -/
theorem kwk_congr {g g2 h : Nat → Int32} {a : Nat} : ∀ m, (∀ k, a ≤ k → k < a + m → g k = g2 k) → kwk g h a m = kwk g2 h a m
  | 0, _ => rfl
  | m + 1, hh => by rw [kwk, kwk, kwk_congr m (fun k h1 h2 => hh k h1 (by omega)), hh (a + m) (by omega) (by omega)]
theorem kseg_congr {g g2 h : Nat → Int32} {a b : Nat} (hh : ∀ k, a ≤ k → k < b → g k = g2 k) : kseg g h a b = kseg g2 h a b := kwk_congr _ (fun k h1 h2 => hh k h1 (by omega))
theorem kCost_congr {g g2 h : Nat → Int32} {a b : Nat} (hh : ∀ k, a ≤ k → k < b → g k = g2 k) : kCost g h a b = kCost g2 h a b := by unfold kCost; rw [kseg_congr hh]
theorem kLev_congr {g g2 h : Nat → Int32} {a b : Nat} (hh : ∀ k, a ≤ k → k < b → g k = g2 k) : kLev g h a b = kLev g2 h a b := by unfold kLev; rw [kseg_congr hh]
theorem kbestTo_congrA {ad ad2 h : Nat → Int32} {ll : Nat} {pen : Int32} {n : Nat} {rc rk : Nat → Int32} {s : Nat} (hh : ∀ k, k < n → ad k = ad2 k) : ∀ m, s + m < n → kbestTo ad h ll pen n rc rk s m = kbestTo ad2 h ll pen n rc rk s m
  | 0, _ => rfl
  | m + 1, hm => by rw [kbestTo, kbestTo, kbestTo_congrA hh m (by omega), kCost_congr (fun k _ h2 => hh k (by omega))]
theorem kbest_congrA {ad ad2 h : Nat → Int32} {ll : Nat} {pen : Int32} {n : Nat} {rc rk : Nat → Int32} {s : Nat} (hs : s < n) (hh : ∀ k, k < n → ad k = ad2 k) : kbest ad h ll pen n rc rk s = kbest ad2 h ll pen n rc rk s := by
  unfold kbest
  rw [kbestTo_congrA hh _ (by omega), kCost_congr (fun k _ h2 => hh k h2)]
theorem kDP_congrA {ad ad2 h : Nat → Int32} {ll : Nat} {pen : Int32} {n : Nat} {rc rk re : Nat → Int32} (hh : ∀ k, k < n → ad k = ad2 k) (hd : kDP ad h ll pen n rc rk re 0) : kDP ad2 h ll pen n rc rk re 0 := fun j h1 h2 => by rw [hd j h1 h2, kbest_congrA h2 hh]
/-- the rows as they must be, from the last value back -/
def kT (ad h : Nat → Int32) (ll : Nat) (pen : Int32) (n : Nat) : Nat → (Nat → Int32) × (Nat → Int32) × (Nat → Int32)
  | 0 => (fun _ => 0, fun _ => 0, fun _ => 0)
  | t + 1 => (upd (kT ad h ll pen n t).1 (n - 1 - t) (kbest ad h ll pen n (kT ad h ll pen n t).1 (kT ad h ll pen n t).2.1 (n - 1 - t)).1, upd (kT ad h ll pen n t).2.1 (n - 1 - t) (kbest ad h ll pen n (kT ad h ll pen n t).1 (kT ad h ll pen n t).2.1 (n - 1 - t)).2.1, upd (kT ad h ll pen n t).2.2 (n - 1 - t) (kbest ad h ll pen n (kT ad h ll pen n t).1 (kT ad h ll pen n t).2.1 (n - 1 - t)).2.2)
theorem kT_dp (ad h : Nat → Int32) (ll : Nat) (pen : Int32) (n : Nat) : ∀ t, t ≤ n → kDP ad h ll pen n (kT ad h ll pen n t).1 (kT ad h ll pen n t).2.1 (kT ad h ll pen n t).2.2 (n - t)
  | 0, _ => fun j h1 h2 => absurd h1 (by omega)
  | t + 1, ht => by
    have ih := kT_dp ad h ll pen n t (by omega)
    rw [show n - t = n - 1 - t + 1 by omega] at ih
    rw [show n - (t + 1) = n - 1 - t by omega]
    exact kDP_step (by omega) ih ⟨rfl, rfl, rfl⟩
theorem kDP_uniq {ad h : Nat → Int32} {ll : Nat} {pen : Int32} {n : Nat} {rc rk re rc2 rk2 re2 : Nat → Int32} (h1 : kDP ad h ll pen n rc rk re 0) (h2 : kDP ad h ll pen n rc2 rk2 re2 0) : ∀ m j, n - j ≤ m → j < n → rc j = rc2 j ∧ rk j = rk2 j ∧ re j = re2 j
  | 0, j, hm, hj => absurd hm (by omega)
  | m + 1, j, hm, hj => by
    have e : (rc j, rk j, re j) = (rc2 j, rk2 j, re2 j) := by
      rw [h1 j (Nat.zero_le j) hj, h2 j (Nat.zero_le j) hj]
      exact kbest_congr hj (fun i a b => ⟨(kDP_uniq h1 h2 m i (by omega) b).1, (kDP_uniq h1 h2 m i (by omega) b).2.1⟩)
    simp only [Prod.mk.injEq] at e
    exact e
theorem kbestTo_end (ad h : Nat → Int32) (ll : Nat) (pen : Int32) (n : Nat) (rc rk : Nat → Int32) (s : Nat) (hs : s < n) : ∀ m, s + m < n → ∃ e, s < e ∧ e ≤ n ∧ (kbestTo ad h ll pen n rc rk s m).2.2 = nI e
  | 0, _ => ⟨n, hs, Nat.le_refl n, rfl⟩
  | m + 1, hm => by
    have ih := kbestTo_end ad h ll pen n rc rk s hs m (by omega)
    rw [kbestTo]
    split
    · unfold kcand
      split
      · exact ⟨s + 1 + m, by omega, by omega, rfl⟩
      · exact ih
    · exact ih
theorem kbest_end {ad h : Nat → Int32} {ll : Nat} {pen : Int32} {n : Nat} {rc rk : Nat → Int32} {s : Nat} (hs : s < n) : ∃ e, s < e ∧ e ≤ n ∧ (kbest ad h ll pen n rc rk s).2.2 = nI e := by
  unfold kbest kcand
  split
  · exact ⟨n, hs, Nat.le_refl n, rfl⟩
  · exact kbestTo_end ad h ll pen n rc rk s hs _ (by omega)
def kRc (v hf : Nat → Int32) (n len ll : Nat) (pen : Int32) (j : Nat) : Int32 := (kT (kAdj v hf n len) hf ll pen n n).1 j
def kRk (v hf : Nat → Int32) (n len ll : Nat) (pen : Int32) (j : Nat) : Int32 := (kT (kAdj v hf n len) hf ll pen n n).2.1 j
def kEn (v hf : Nat → Int32) (n len ll : Nat) (pen : Int32) (j : Nat) : Nat := ((kT (kAdj v hf n len) hf ll pen n n).2.2 j).toNatClampNeg
theorem kEn_dp (v hf : Nat → Int32) (n len ll : Nat) (pen : Int32) : kDP (kAdj v hf n len) hf ll pen n (kRc v hf n len ll pen) (kRk v hf n len ll pen) (kT (kAdj v hf n len) hf ll pen n n).2.2 0 := by
  have := kT_dp (kAdj v hf n len) hf ll pen n n (Nat.le_refl n)
  rwa [Nat.sub_self] at this
theorem kEn_is {v hf : Nat → Int32} {n len ll : Nat} {pen : Int32} (hn : n ≤ 60) {j : Nat} (hj : j < n) : (kT (kAdj v hf n len) hf ll pen n n).2.2 j = nI (kEn v hf n len ll pen j) ∧ j < kEn v hf n len ll pen j ∧ kEn v hf n len ll pen j ≤ n := by
  have h := kEn_dp v hf n len ll pen j (Nat.zero_le j) hj
  obtain ⟨e, h1, h2, h3⟩ := kbest_end (ad := kAdj v hf n len) (h := hf) (ll := ll) (pen := pen) (rc := kRc v hf n len ll pen) (rk := kRk v hf n len ll pen) hj
  have h4 : (kT (kAdj v hf n len) hf ll pen n n).2.2 j = nI e := by
    rw [← h3, ← h]
  have h5 : kEn v hf n len ll pen j = e := by unfold kEn; rw [h4, nI_clamp (by omega)]
  rw [h5]
  exact ⟨h4, h1, h2⟩
theorem kDP_is {v hf : Nat → Int32} {n len ll : Nat} {pen : Int32} (hn : n ≤ 60) {rc rk re : Nat → Int32} (h : kDP (kAdj v hf n len) hf ll pen n rc rk re 0) {j : Nat} (hj : j < n) : rc j = kRc v hf n len ll pen j ∧ rk j = kRk v hf n len ll pen j ∧ re j = nI (kEn v hf n len ll pen j) := by
  obtain ⟨a, b, c⟩ := kDP_uniq h (kEn_dp v hf n len ll pen) n j (by omega) hj
  exact ⟨a, b, c.trans (kEn_is hn hj).1⟩
/-- how many segments there are -/
def kcnt (en : Nat → Nat) (n : Nat) : Nat → Nat → Nat
  | 0, _ => 0
  | k + 1, p => if p < n then kcnt en n k (en p) + 1 else 0
def kFnd (v hf : Nat → Int32) (n len ll : Nat) (pen : Int32) : Nat := kcnt (kEn v hf n len ll pen) n n 0
theorem kcnt_is {en : Nat → Nat} {n c : Nat} (hc : kpos en c = n) (hlt : ∀ i, i < c → kpos en i < n) : ∀ k i, i ≤ c → c - i ≤ k → kcnt en n k (kpos en i) = c - i
  | 0, i, h1, h2 => by
    rw [kcnt]
    omega
  | k + 1, i, h1, h2 => by
    rw [kcnt]
    split
    · rename_i h
      rcases Nat.eq_or_lt_of_le h1 with q | q
      · rw [q, hc] at h
        omega
      · rw [show en (kpos en i) = kpos en (i + 1) from rfl, kcnt_is hc hlt k (i + 1) q (by omega)]
        omega
    · rename_i h
      rcases Nat.eq_or_lt_of_le h1 with q | q
      · omega
      · exact absurd (hlt i q) h
theorem kFnd_is {v hf : Nat → Int32} {n len ll : Nat} {pen : Int32} {c : Nat} (hc : kpos (kEn v hf n len ll pen) c = n) (hcn : c ≤ n) (hlt : ∀ i, i < c → kpos (kEn v hf n len ll pen) i < n) : kFnd v hf n len ll pen = c := by
  have := kcnt_is hc hlt n 0 (Nat.zero_le c) (by omega)
  exact this
/-- where the segment of a value begins -/
def kst (en : Nat → Nat) (k : Nat) : Nat → Nat → Nat
  | 0, p => p
  | f + 1, p => if en p ≤ k then kst en k f (en p) else p
def kStart (v hf : Nat → Int32) (n len ll : Nat) (pen : Int32) (k : Nat) : Nat := kst (kEn v hf n len ll pen) k n 0
theorem kst_is {en : Nat → Nat} {k c : Nat} (h1 : ∀ i, i < c → kpos en (i + 1) ≤ k) (h2 : k < kpos en (c + 1)) : ∀ f i, i ≤ c → c - i ≤ f → kst en k f (kpos en i) = kpos en c
  | 0, i, a, b => by
    have : i = c := by omega
    rw [this]
    rfl
  | f + 1, i, a, b => by
    rw [kst, show en (kpos en i) = kpos en (i + 1) from rfl]
    rcases Nat.eq_or_lt_of_le a with q | q
    · rw [q, if_neg (by omega)]
    · rw [if_pos (h1 i q), kst_is h1 h2 f (i + 1) q (by omega)]
/-- each value lies in one of the segments -/
theorem kseg_find {en : Nat → Nat} {k : Nat} : ∀ m, k < kpos en m → ∃ i, i < m ∧ kpos en i ≤ k ∧ k < kpos en (i + 1)
  | 0, h => absurd h (Nat.not_lt_zero k)
  | m + 1, h => by
    rcases Nat.lt_or_ge k (kpos en m) with q | q
    · obtain ⟨i, a, b⟩ := kseg_find m q
      exact ⟨i, by omega, b⟩
    · exact ⟨m, by omega, q, h⟩
theorem kpos_congr {en en2 : Nat → Nat} {n c : Nat} (hh : ∀ j, j < n → en j = en2 j) (hlt : ∀ i, i < c → kpos en i < n) : ∀ i, i ≤ c → kpos en i = kpos en2 i
  | 0, _ => rfl
  | i + 1, hi => by
    show en (kpos en i) = en2 (kpos en2 i)
    rw [← kpos_congr hh hlt i (by omega), hh _ (hlt i hi)]
/-- the level of a value's segment -/
def kLvK (v hf : Nat → Int32) (n len ll : Nat) (pen : Int32) (k : Nat) : Int32 := kLev (kAdj v hf n len) hf (kStart v hf n len ll pen k) (kEn v hf n len ll pen (kStart v hf n len ll pen k))
/-- the seasons' rows hold what they should -/
def kSea (v hf : Nat → Int32) (n len : Nat) (mid : Int32) (f1 ad : Nat → Int32) : Prop := mid = kBase v hf n ∧ (∀ j, j < len → f1 j = kSeas v hf n len j) ∧ ∀ k, k < n → ad k = kAdj v hf n len k
/-- the segments' rows hold what they should -/
def kSgs (v hf : Nat → Int32) (n len ll : Nat) (pen : Int32) (r1 r4 r5 r6 : Nat → Int32) (found : Nat) : Prop := (∀ j, j < n → r1 j = kRc v hf n len ll pen j) ∧ found = kFnd v hf n len ll pen ∧ kpos (kEn v hf n len ll pen) found = n ∧ found ≤ n ∧ (∀ i, i < found → kpos (kEn v hf n len ll pen) i < n ∧ r4 i = nI (kpos (kEn v hf n len ll pen) i) ∧ r5 i = kLev (kAdj v hf n len) hf (kpos (kEn v hf n len ll pen) i) (kpos (kEn v hf n len ll pen) (i + 1))) ∧ ∀ k, k < n → r6 k = kLvK v hf n len ll pen k
theorem kSgs_of {v hf : Nat → Int32} {n len ll : Nat} {pen : Int32} {ad r1 r2 r3 r4 r5 r6 : Nat → Int32} {found : Nat} (hn : n ≤ 60) (ha : ∀ k, k < n → ad k = kAdj v hf n len k) (hd : kDP ad hf ll pen n r1 r2 r3 0) (h1 : kpos (kEn v hf n len ll pen) found = n) (h2 : found ≤ n) (h3 : kSegd ad hf (kEn v hf n len ll pen) n found r4 r5 r6) : kSgs v hf n len ll pen r1 r4 r5 r6 found := by
  have hen : ∀ j, j < n → j < kEn v hf n len ll pen j ∧ kEn v hf n len ll pen j ≤ n := fun j hj => (kEn_is hn hj).2
  have hlt : ∀ i, i < found → kpos (kEn v hf n len ll pen) i < n := fun i hi => (h3 i hi).1
  have hle : ∀ i, i < found → kpos (kEn v hf n len ll pen) (i + 1) ≤ n := fun i hi => (hen _ (hlt i hi)).2
  refine ⟨fun j hj => (kDP_is hn (kDP_congrA ha hd) hj).1, (kFnd_is h1 h2 hlt).symm, h1, h2, fun i hi => ⟨hlt i hi, (h3 i hi).2.1, ?_⟩, fun k hk => ?_⟩
  · rw [(h3 i hi).2.2.1]
    exact kLev_congr (fun k _ b => ha k (by have := hle i hi; omega))
  · obtain ⟨i, a, b, c⟩ := kseg_find (en := kEn v hf n len ll pen) (k := k) found (by rw [h1]; exact hk)
    rw [(h3 i a).2.2.2 k b c]
    have e : kStart v hf n len ll pen k = kpos (kEn v hf n len ll pen) i := kst_is (fun j hj => by
        rcases Nat.eq_or_lt_of_le (show j + 1 ≤ i from hj) with q | q
        · rw [q]; exact b
        · have := kpos_mono hen hlt i (by omega) (j + 1) q
          omega) c n 0 (Nat.zero_le i) (by omega)
    unfold kLvK
    rw [e]
    exact kLev_congr (fun k _ q => ha k (by have := hle i a; have e2 : kpos (kEn v hf n len ll pen) (i + 1) = kEn v hf n len ll pen (kpos (kEn v hf n len ll pen) i) := rfl; omega))
/-- the settings and the values are within their bounds -/
def kOk (v hf : Nat → Int32) (n len ll : Nat) (pen bf bl : Int32) : Prop := n ≤ 60 ∧ (∀ k, kbit (hf k)) ∧ 1 ≤ len ∧ len ≤ 12 ∧ 1 ≤ ll ∧ ll ≤ 10 ∧ (∀ k, k < n → -10000 ≤ (v k).toInt ∧ (v k).toInt ≤ 10000) ∧ (0 ≤ pen.toInt ∧ pen.toInt ≤ 100000) ∧ (100 ≤ bf.toInt ∧ bf.toInt ≤ 2000) ∧ 0 ≤ bl.toInt ∧ bl.toInt ≤ 1000
/-- of the first k working values the residuals without their signs -/
def kab (x : Int32) : Int32 := if 0 ≤ x then x else 0 - x
def kResid (v hf : Nat → Int32) (n len ll : Nat) (pen : Int32) (k : Nat) : Int32 := kAdj v hf n len k - kLvK v hf n len ll pen k
def kDev (v hf : Nat → Int32) (n len ll : Nat) (pen : Int32) : Int32 := kMed (kseg (fun k => kab (kResid v hf n len ll pen k)) hf 0 n)
def kBound (v hf : Nat → Int32) (n len ll : Nat) (pen bf bl : Int32) : Int32 := if bf * kDev v hf n len ll pen / 100 < bl then bl else bf * kDev v hf n len ll pen / 100
def kSide (d : Int64) (b : Int32) : Int32 := if b.toInt64 < d then 1 else if d < (-b).toInt64 then 2 else 0
def kVerd (v hf : Nat → Int32) (n len ll : Nat) (pen bf bl : Int32) (k : Nat) : Int32 := if hf k = 0 then kSide (kResid v hf n len ll pen k).toInt64 (kBound v hf n len ll pen bf bl) else 3
def kAnom (f : Nat → Int32) : Nat → Nat
  | 0 => 0
  | k + 1 => kAnom f k + (if f k = 1 ∨ f k = 2 then 1 else 0)
theorem kAnom_le (f : Nat → Int32) : ∀ k, kAnom f k ≤ k
  | 0 => Nat.le_refl 0
  | k + 1 => by
    have := kAnom_le f k
    rw [kAnom]
    split <;> omega
/-- the level of the last segment, and what is expected of the next value -/
def kLast (v hf : Nat → Int32) (n len ll : Nat) (pen : Int32) : Int32 := if n = 0 then 0 else kLvK v hf n len ll pen (n - 1)
def kExp (v hf : Nat → Int32) (n len ll : Nat) (pen : Int32) : Int32 := kLast v hf n len ll pen + kSeas v hf n len (n % len)
theorem klc1 {x y : Int64} (h : lg_cmp x y ≤ 0) : ¬ y < x := fun q => by
  have e : lg_cmp x y = 1 := by unfold lg_cmp; rw [if_pos q]
  rw [e] at h
  exact absurd h (by decide)
theorem klc2 {x y : Int64} (h : ¬ lg_cmp x y ≤ 0) : y < x := by
  by_cases q : y < x
  · exact q
  · exact absurd (by unfold lg_cmp; rw [if_neg q]; split <;> decide) h
theorem klc4 {x y : Int64} (h : ¬ 0 ≤ lg_cmp x y) : x < y := by
  by_cases q : y < x
  · exact absurd (by unfold lg_cmp; rw [if_pos q]; decide) h
  · by_cases r : x = y
    · exact absurd (by unfold lg_cmp; rw [if_neg q]; simp [r]) h
    · rw [Int64.lt_iff_toInt_lt] at q ⊢
      have : x.toInt ≠ y.toInt := fun z => r (Int64.toInt_inj.mp z)
      omega
theorem klc3 {x y : Int64} (h : 0 ≤ lg_cmp x y) : ¬ x < y := fun q => by
  have q2 : ¬ y < x := by rw [Int64.lt_iff_toInt_lt] at q ⊢; omega
  have q3 : ¬ x = y := fun z => by rw [z, Int64.lt_iff_toInt_lt] at q; omega
  have e : lg_cmp x y = -1 := by unfold lg_cmp; rw [if_neg q2]; simp [q3]
  rw [e] at h
  exact absurd h (by decide)
/-- the first k dropped: the others move down, what lies behind them stays -/
def kshift (v : Nat → Int32) (n k : Nat) : Nat → Int32 := fun j => if j < n - k then v (j + k) else v j
/-- x, t times from n on -/
def kfill (v : Nat → Int32) (n : Nat) (x : Int32) (t : Nat) : Nat → Int32 := fun j => if n ≤ j ∧ j < n + t then x else v j
theorem kfill_0 (v : Nat → Int32) (n : Nat) (x : Int32) : kfill v n x 0 = v := by
  funext j
  unfold kfill
  rw [if_neg (by omega)]
theorem kfill_s (v : Nat → Int32) (n : Nat) (x : Int32) (t : Nat) : upd (kfill v n x t) (n + t) x = kfill v n x (t + 1) := by
  funext j
  unfold upd kfill
  by_cases h : j = n + t
  · rw [if_pos h, if_pos (by omega)]
  · rw [if_neg h]
    by_cases h2 : n ≤ j ∧ j < n + t
    · rw [if_pos h2, if_pos (by omega)]
    · rw [if_neg h2, if_neg (by omega)]
theorem kLast_is {v hf : Nat → Int32} {n len ll : Nat} {pen : Int32} {r1 r4 r5 r6 : Nat → Int32} {found : Nat} (hn : n ≤ 60) (h : kSgs v hf n len ll pen r1 r4 r5 r6 found) : (if found = 0 then 0 else r5 (found - 1)) = kLast v hf n len ll pen := by
  obtain ⟨-, -, h3, h4, h5, -⟩ := h
  unfold kLast
  rcases Nat.eq_zero_or_pos found with q | q
  · rw [if_pos q, if_pos (by rw [q] at h3; exact h3.symm)]
  · rw [if_neg (by omega), if_neg (by omega), (h5 (found - 1) (by omega)).2.2, show found - 1 + 1 = found by omega]
    have hlt : ∀ i, i < found → kpos (kEn v hf n len ll pen) i < n := fun i hi => (h5 i hi).1
    have hen : ∀ j, j < n → j < kEn v hf n len ll pen j ∧ kEn v hf n len ll pen j ≤ n := fun j hj => (kEn_is hn hj).2
    have e2 : kpos (kEn v hf n len ll pen) (found - 1 + 1) = n := by rw [show found - 1 + 1 = found by omega]; exact h3
    have e : kStart v hf n len ll pen (n - 1) = kpos (kEn v hf n len ll pen) (found - 1) := kst_is (c := found - 1) (fun j hj => by
        have := kpos_mono hen hlt found (Nat.le_refl _) (j + 1) (by omega)
        omega) (by have := hlt (found - 1) (by omega); omega) n 0 (Nat.zero_le _) (by omega)
    unfold kLvK
    rw [e, show kEn v hf n len ll pen (kpos (kEn v hf n len ll pen) (found - 1)) = kpos (kEn v hf n len ll pen) (found - 1 + 1) from rfl, show found - 1 + 1 = found by omega]
theorem kFnd_0 {v hf : Nat → Int32} {n len ll : Nat} {pen : Int32} {r1 r4 r5 r6 : Nat → Int32} {found : Nat} (h : kSgs v hf n len ll pen r1 r4 r5 r6 found) : (if found = 0 then 0 else r1 0) = (if n = 0 then 0 else kRc v hf n len ll pen 0) := by
  obtain ⟨h1, -, h3, h4, -, -⟩ := h
  rcases Nat.eq_zero_or_pos found with q | q
  · rw [if_pos q, if_pos (by rw [q] at h3; exact h3.symm)]
  · rw [if_neg (by omega), if_neg (by omega), h1 0 (by omega)]

/-! what is within what, so that nothing wraps around; the sides of a bound in ints -/
section KB
variable {v hf : Nat → Int32} {n len ll : Nat} {pen bf bl : Int32}
/-- the level of the values of a segment -/
theorem klvk (hn : n ≤ 60) {i k : Nat} (hi : i < kFnd v hf n len ll pen) (h1 : kpos (kEn v hf n len ll pen) i ≤ k) (h2 : k < kpos (kEn v hf n len ll pen) (i + 1)) : kLvK v hf n len ll pen k = kLev (kAdj v hf n len) hf (kpos (kEn v hf n len ll pen) i) (kpos (kEn v hf n len ll pen) (i + 1)) := by
  obtain ⟨f1, f2, f3⟩ := kFnd_ok (v := v) (hf := hf) (len := len) (ll := ll) (pen := pen) hn
  have e : kStart v hf n len ll pen k = kpos (kEn v hf n len ll pen) i := kst_is (fun j hj => by
      rcases Nat.eq_or_lt_of_le (show j + 1 ≤ i from hj) with q | q
      · rw [q]; exact h1
      · have := kpos_mono (en := kEn v hf n len ll pen) (fun j hj => (kEn_is hn hj).2) f3 i (by omega) (j + 1) q
        omega) h2 n 0 (Nat.zero_le i) (by omega)
  unfold kLvK
  rw [e]
  rfl
theorem kLvK_in (hn : n ≤ 60) (hv : ∀ k, k < n → -10000 ≤ (v k).toInt ∧ (v k).toInt ≤ 10000) {k : Nat} (hk : k < n) : kIn 30000 (kLvK v hf n len ll pen k) := by
  obtain ⟨i, hi, e⟩ := kStart_is (v := v) (hf := hf) (len := len) (ll := ll) (pen := pen) hn hk
  obtain ⟨f1, f2, f3⟩ := kFnd_ok (v := v) (hf := hf) (len := len) (ll := ll) (pen := pen) hn
  unfold kLvK
  rw [e]
  exact kMed_in (by omega) (kSeg_in (fun k hk => kAdj_in hv hk) (kEn_is hn (f3 i hi)).2.2)
theorem kResid_in (hn : n ≤ 60) (hv : ∀ k, k < n → -10000 ≤ (v k).toInt ∧ (v k).toInt ≤ 10000) {k : Nat} (hk : k < n) : -60000 ≤ (kResid v hf n len ll pen k).toInt ∧ (kResid v hf n len ll pen k).toInt ≤ 60000 := by
  have h1 : kIn 30000 (kAdj v hf n len k) := kAdj_in hv hk
  have h2 : kIn 30000 (kLvK v hf n len ll pen k) := kLvK_in hn hv hk
  unfold kIn at h1 h2
  unfold kResid
  rw [fb_subI (by omega) (by omega)]
  omega
theorem kab_in (hn : n ≤ 60) (hv : ∀ k, k < n → -10000 ≤ (v k).toInt ∧ (v k).toInt ≤ 10000) {k : Nat} (hk : k < n) : 0 ≤ (kab (kResid v hf n len ll pen k)).toInt ∧ (kab (kResid v hf n len ll pen k)).toInt ≤ 60000 := by
  have h := kResid_in (hf := hf) (len := len) (ll := ll) (pen := pen) hn hv hk
  have z0 := kzero
  unfold kab
  by_cases q : 0 ≤ kResid v hf n len ll pen k
  · rw [if_pos q]
    rw [ki_le] at q
    omega
  · rw [if_neg q, fb_subI (by omega) (by omega)]
    rw [ki_le] at q
    omega
theorem kDev_in (hn : n ≤ 60) (hv : ∀ k, k < n → -10000 ≤ (v k).toInt ∧ (v k).toInt ≤ 10000) : 0 ≤ (kDev v hf n len ll pen).toInt ∧ (kDev v hf n len ll pen).toInt ≤ 60000 := by
  unfold kDev
  rcases Nat.eq_zero_or_pos (kseg (fun k => kab (kResid v hf n len ll pen k)) hf 0 n).length with z | z
  · rw [List.eq_nil_of_length_eq_zero z]
    decide
  · obtain ⟨i, -, h2, h3⟩ := kseg_mem (kpick_ex z).1
    rw [h3]
    exact kab_in hn hv h2
theorem kBound_in (hn : n ≤ 60) (hv : ∀ k, k < n → -10000 ≤ (v k).toInt ∧ (v k).toInt ≤ 10000) (hb : 100 ≤ bf.toInt ∧ bf.toInt ≤ 2000) (hl : 0 ≤ bl.toInt ∧ bl.toInt ≤ 1000) : 0 ≤ (kBound v hf n len ll pen bf bl).toInt ∧ (kBound v hf n len ll pen bf bl).toInt ≤ 2000000 := by
  have hd := kDev_in (hf := hf) (len := len) (ll := ll) (pen := pen) hn hv
  unfold kBound
  generalize kDev v hf n len ll pen = d at hd ⊢
  have e1 := (knI (x := bf) (by omega)).1
  have e2 := (knI (x := d) (by omega)).1
  have b1 := (knI (x := bf) (by omega)).2
  have b2 := (knI (x := d) (by omega)).2
  generalize bf.toInt.toNat = x at e1 b1
  generalize d.toInt.toNat = y at e2 b2
  have hxy : x * y ≤ 2000 * 60000 := Nat.mul_le_mul (by omega) (by omega)
  have e3 : bf * d / 100 = nI (x * y / 100) := by
    rw [e1, e2, pk_mul]
    exact pk_div (d := 100) (by omega) (by omega) (by omega)
  have e4 : (nI (x * y / 100)).toInt = ((x * y / 100 : Nat) : Int) := nI_toInt (by omega)
  rw [e3]
  split
  · omega
  · rw [e4]
    omega
theorem kSeas_in (_hn : n ≤ 60) (hv : ∀ k, k < n → -10000 ≤ (v k).toInt ∧ (v k).toInt ≤ 10000) (p : Nat) : -20000 ≤ (kSeas v hf n len p).toInt ∧ (kSeas v hf n len p).toInt ≤ 20000 := kMed_in (B := 20000) (by omega) (fun x hx => by
  have hb : kIn 10000 (kBase v hf n) := kBase_in hv
  obtain ⟨i, h2, h3⟩ := kph_mem _ hx
  have := hv i h2
  unfold kIn at hb
  rw [h3]
  unfold kIn
  rw [fb_subI (by omega) (by omega)]
  omega)
theorem kExp_in (hn : n ≤ 60) (hv : ∀ k, k < n → -10000 ≤ (v k).toInt ∧ (v k).toInt ≤ 10000) : -50000 ≤ (kExp v hf n len ll pen).toInt ∧ (kExp v hf n len ll pen).toInt ≤ 50000 := by
  have hs := kSeas_in (hf := hf) (len := len) hn hv (n % len)
  have hl : -30000 ≤ (kLast v hf n len ll pen).toInt ∧ (kLast v hf n len ll pen).toInt ≤ 30000 := by
    unfold kLast
    by_cases q : n = 0
    · rw [if_pos q]; decide
    · rw [if_neg q]
      exact kLvK_in hn hv (by omega)
  unfold kExp
  rw [fb_addI (by omega) (by omega)]
  omega
theorem kj64 (x e : Int32) : (x.toInt64 - e.toInt64).toInt = x.toInt - e.toInt := by
  have h1 := fb_rng x
  have h2 := fb_rng e
  rw [Int64.toInt_sub, Int32.toInt_toInt64, Int32.toInt_toInt64, Int.bmod_eq_of_le (by omega) (by omega)]
theorem kjudge {x e b : Int32} (he : -50000 ≤ e.toInt ∧ e.toInt ≤ 50000) (hb : 0 ≤ b.toInt ∧ b.toInt ≤ 2000000) : kSide (x.toInt64 - e.toInt64) b = if e + b < x then 1 else if x < e - b then 2 else 0 := by
  have h1 : (e + b).toInt = e.toInt + b.toInt := fb_addI (by omega) (by omega)
  have h2 : (e - b).toInt = e.toInt - b.toInt := fb_subI (by omega) (by omega)
  have h3 : (-b).toInt = -b.toInt := fb_negI (by omega)
  have c1 : b.toInt64 < x.toInt64 - e.toInt64 ↔ e + b < x := by
    rw [Int64.lt_iff_toInt_lt, kj64, Int32.toInt_toInt64, ki_lt, h1]
    omega
  have c2 : x.toInt64 - e.toInt64 < (-b).toInt64 ↔ x < e - b := by
    rw [Int64.lt_iff_toInt_lt, kj64, Int32.toInt_toInt64, ki_lt, h2, h3]
    omega
  unfold kSide
  simp only [c1, c2]
theorem kjudge2 {x e b : Int32} (he : -50000 ≤ e.toInt ∧ e.toInt ≤ 50000) (hb : 0 ≤ b.toInt ∧ b.toInt ≤ 2000000) : kSide (x.toInt64 - e.toInt64) b = if x < e - b then 2 else if e + b < x then 1 else 0 := by
  have h1 : (e + b).toInt = e.toInt + b.toInt := fb_addI (by omega) (by omega)
  have h2 : (e - b).toInt = e.toInt - b.toInt := fb_subI (by omega) (by omega)
  rw [kjudge he hb]
  by_cases q : x < e - b
  · have q2 : ¬ e + b < x := by
      rw [ki_lt, h2] at q
      rw [ki_lt, h1]
      omega
    rw [if_pos q, if_neg q2, if_pos q]
  · rw [if_neg q, if_neg q]
theorem kbd_le (h : bf * kDev v hf n len ll pen / 100 ≤ bl) : bl = kBound v hf n len ll pen bf bl := by
  unfold kBound
  by_cases q : bf * kDev v hf n len ll pen / 100 < bl
  · rw [if_pos q]
  · rw [if_neg q, ki_eq]
    rw [ki_lt] at q
    rw [ki_le] at h
    omega
theorem kbd_gt (h : ¬ bf * kDev v hf n len ll pen / 100 ≤ bl) : bf * kDev v hf n len ll pen / 100 = kBound v hf n len ll pen bf bl := by
  unfold kBound
  rw [if_neg (fun q => h (by rw [ki_le]; rw [ki_lt] at q; omega))]
end KB

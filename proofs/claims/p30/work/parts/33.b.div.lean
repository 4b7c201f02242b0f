/-! the best division, from the end back to the beginning: the least of the candidates, as both sides find it -/
def kCe (ad hf : Nat → Int32) (pen : Int32) (n : Nat) (rc : Nat → Int32) (s e : Nat) : Int32 := if e = n then kCost ad hf s n else kCost ad hf s e + pen + rc e
def kKe (n : Nat) (rk : Nat → Int32) (e : Nat) : Int32 := if e = n then 0 else rk e + 1
def kLx (c1 k1 : Int32) (e1 : Nat) (c2 k2 : Int32) (e2 : Nat) : Prop := c1.toInt < c2.toInt ∨ (c1.toInt = c2.toInt ∧ (k1.toInt < k2.toInt ∨ (k1.toInt = k2.toInt ∧ e1 ≤ e2)))
def kIn9 (n ll s i e : Nat) : Prop := e = n ∨ (s + ll ≤ e ∧ e + ll ≤ n ∧ n < e + ll + i)
def kMn (ad hf : Nat → Int32) (pen : Int32) (n : Nat) (rc rk : Nat → Int32) (s : Nat) (In : Nat → Prop) (x k e9 : Int32) : Prop :=
  ∃ e : Nat, In e ∧ x = kCe ad hf pen n rc s e ∧ k = kKe n rk e ∧ e9 = nI e ∧ ∀ e' : Nat, In e' → kLx (kCe ad hf pen n rc s e) (kKe n rk e) e (kCe ad hf pen n rc s e') (kKe n rk e') e'
theorem kLx_rf (c k : Int32) (e : Nat) : kLx c k e c k e := Or.inr ⟨rfl, Or.inr ⟨rfl, Nat.le_refl e⟩⟩
section KM
variable {ad hf : Nat → Int32} {pen : Int32} {n ll : Nat} {rc rk re : Nat → Int32} {s i : Nat} {x k e9 : Int32}
theorem kMn_0 : kMn ad hf pen n rc rk s (kIn9 n ll s 0) (kCost ad hf s n) 0 (nI n) := by
  refine ⟨n, Or.inl rfl, (if_pos rfl).symm, (if_pos rfl).symm, rfl, fun e' h => ?_⟩
  rcases h with q | ⟨q1, q2, q3⟩
  · rw [q]; exact kLx_rf _ _ _
  · omega
theorem kIn9_s {to e' : Nat} (h2 : to + ll + i = n) (h : kIn9 n ll s (i + 1) e') : e' = to ∨ kIn9 n ll s i e' := by
  rcases h with q | ⟨q1, q2, q3⟩
  · exact Or.inr (Or.inl q)
  · by_cases z : e' = to
    · exact Or.inl z
    · exact Or.inr (Or.inr ⟨q1, q2, by omega⟩)
theorem kMn_yes (h : kMn ad hf pen n rc rk s (kIn9 n ll s i) x k e9) {to : Nat} (h1 : s + ll ≤ to) (h2 : to + ll + i = n) {S K : Int32} (hS : S = kCe ad hf pen n rc s to) (hK : K = kKe n rk to) (hP : S < x ∨ (S = x ∧ ¬ k < K)) : kMn ad hf pen n rc rk s (kIn9 n ll s (i + 1)) S K (nI to) := by
  obtain ⟨e, he, e1, e2, -, hall⟩ := h
  refine ⟨to, Or.inr ⟨h1, by omega, by omega⟩, hS, hK, rfl, fun e' h' => ?_⟩
  rw [← hS, ← hK]
  rcases kIn9_s h2 h' with q | q
  · rw [q, ← hS, ← hK]; exact kLx_rf _ _ _
  · have hx := hall e' q
    have hte : to ≤ e' := by
      rcases q with q | ⟨q1, q2, q3⟩ <;> omega
    rw [← e1, ← e2] at hx
    unfold kLx at hx ⊢
    rw [ki_lt, ki_eq, ki_lt] at hP
    omega
theorem kMn_no (h : kMn ad hf pen n rc rk s (kIn9 n ll s i) x k e9) {to : Nat} (h2 : to + ll + i = n) {S K : Int32} (hS : S = kCe ad hf pen n rc s to) (hK : K = kKe n rk to) (hP : ¬ (S < x ∨ (S = x ∧ ¬ k < K))) : kMn ad hf pen n rc rk s (kIn9 n ll s (i + 1)) x k e9 := by
  obtain ⟨e, he, e1, e2, e3, hall⟩ := h
  refine ⟨e, ?_, e1, e2, e3, fun e' h' => ?_⟩
  · rcases he with q | ⟨q1, q2, q3⟩
    · exact Or.inl q
    · exact Or.inr ⟨q1, q2, by omega⟩
  · rcases kIn9_s h2 h' with q | q
    · rw [q, ← hS, ← hK, ← e1, ← e2]
      unfold kLx
      rw [ki_lt, ki_eq, ki_lt] at hP
      omega
    · exact hall e' q
/-- costs and cuts of what begins at j -/
def kBd (n : Nat) (rc rk : Nat → Int32) (j : Nat) : Prop := 0 ≤ (rc j).toInt ∧ (rc j).toInt ≤ 3600000 ∧ 0 ≤ (rk j).toInt ∧ (rk j).toInt ≤ (n : Int) - 1 - j
theorem kone : (1 : Int32).toInt = 1 := rfl
theorem kzero : (0 : Int32).toInt = 0 := rfl
theorem kCe_in (hn : n ≤ 60) (hp : 0 ≤ pen.toInt ∧ pen.toInt ≤ 100000) (ha : ∀ k, k < n → kIn 30000 (ad k)) {e : Nat} (he : e ≤ n) (hb : e < n → kBd n rc rk e) : 0 ≤ (kCe ad hf pen n rc s e).toInt ∧ (kCe ad hf pen n rc s e).toInt ≤ 7300000 ∧ 0 ≤ (kKe n rk e).toInt ∧ (kKe n rk e).toInt ≤ (n : Int) - e ∧ (e < n → 1 ≤ (kKe n rk e).toInt) := by
  unfold kCe kKe
  by_cases q : e = n
  · have := kCost_in (hf := hf) hn ha (a := s) (Nat.le_refl n)
    rw [if_pos q, if_pos q, kzero]
    omega
  · have hc := kCost_in (hf := hf) hn ha (a := s) he
    obtain ⟨b1, b2, b3, b4⟩ := hb (by omega)
    have h1 := kone
    have s1 : (kCost ad hf s e + pen).toInt = (kCost ad hf s e).toInt + pen.toInt := fb_addI (by omega) (by omega)
    have s2 : (kCost ad hf s e + pen + rc e).toInt = (kCost ad hf s e).toInt + pen.toInt + (rc e).toInt := by rw [fb_addI (by rw [s1]; omega) (by rw [s1]; omega), s1]
    have s3 : (rk e + 1).toInt = (rk e).toInt + 1 := by rw [fb_addI (by rw [h1]; omega) (by rw [h1]; omega), h1]
    rw [if_neg q, if_neg q, s2, s3]
    omega
/-- what the class has found of the ends up to s + m -/
theorem kbTo_mn (hn : n ≤ 60) (hl : 1 ≤ ll) (hp : 0 ≤ pen.toInt ∧ pen.toInt ≤ 100000) (ha : ∀ k, k < n → kIn 30000 (ad k)) (hb : ∀ j, s < j → j < n → kBd n rc rk j) : ∀ m, s + m < n →
    (kbestTo ad hf ll pen n rc rk s m = (2147483647, 0, nI n) ∧ ∀ e, e ≤ s + m → s + ll ≤ e → ¬ e + ll ≤ n) ∨
    ∃ e, (s + ll ≤ e ∧ e + ll ≤ n ∧ e ≤ s + m) ∧ kbestTo ad hf ll pen n rc rk s m = (kCe ad hf pen n rc s e, kKe n rk e, nI e) ∧ ∀ e', s + ll ≤ e' → e' + ll ≤ n → e' ≤ s + m → kLx (kCe ad hf pen n rc s e) (kKe n rk e) e (kCe ad hf pen n rc s e') (kKe n rk e') e'
  | 0, _ => Or.inl ⟨rfl, fun e h1 h2 => by omega⟩
  | m + 1, hm => by
    have ih := kbTo_mn hn hl hp ha hb m (by omega)
    rw [kbestTo]
    by_cases q : ll ≤ m + 1 ∧ ll ≤ n - (s + 1 + m)
    · have hen : s + 1 + m ≠ n := by omega
      have ec : kCost ad hf s (s + 1 + m) + pen + rc (s + 1 + m) = kCe ad hf pen n rc s (s + 1 + m) := (if_neg hen).symm
      have ek : rk (s + 1 + m) + 1 = kKe n rk (s + 1 + m) := (if_neg hen).symm
      have hbe := kCe_in (hf := hf) (s := s) hn hp ha (e := s + 1 + m) (by omega) (fun _ => hb (s + 1 + m) (by omega) (by omega))
      rw [if_pos q, ec, ek]
      refine Or.inr ?_
      rcases ih with ⟨i1, i2⟩ | ⟨e, ⟨i1, i2, i3⟩, i4, i5⟩
      · rw [i1, kcand_yes (Or.inl (by show _ < (2147483647 : Int32); rw [ki_lt, kmax]; omega))]
        refine ⟨s + 1 + m, ⟨by omega, by omega, by omega⟩, rfl, fun e' h1 h2 h3 => ?_⟩
        by_cases z : e' = s + 1 + m
        · rw [z]; exact kLx_rf _ _ _
        · exact absurd h2 (i2 e' (by omega) h1)
      · rw [i4]
        by_cases w : kCe ad hf pen n rc s (s + 1 + m) < kCe ad hf pen n rc s e ∨ (kCe ad hf pen n rc s (s + 1 + m) = kCe ad hf pen n rc s e ∧ kKe n rk (s + 1 + m) < kKe n rk e)
        · rw [kcand_yes (c := (kCe ad hf pen n rc s e, kKe n rk e, nI e)) w]
          refine ⟨s + 1 + m, ⟨by omega, by omega, by omega⟩, rfl, fun e' h1 h2 h3 => ?_⟩
          by_cases z : e' = s + 1 + m
          · rw [z]; exact kLx_rf _ _ _
          · have hx := i5 e' h1 h2 (by omega)
            unfold kLx at hx ⊢
            rw [ki_lt, ki_eq, ki_lt] at w
            omega
        · rw [kcand_no (c := (kCe ad hf pen n rc s e, kKe n rk e, nI e)) w]
          refine ⟨e, ⟨i1, i2, by omega⟩, rfl, fun e' h1 h2 h3 => ?_⟩
          by_cases z : e' = s + 1 + m
          · rw [z]
            unfold kLx
            rw [ki_lt, ki_eq, ki_lt] at w
            omega
          · exact i5 e' h1 h2 (by omega)
    · rw [if_neg q]
      rcases ih with ⟨i1, i2⟩ | ⟨e, ⟨i1, i2, i3⟩, i4, i5⟩
      · refine Or.inl ⟨i1, fun e h1 h2 h3 => ?_⟩
        by_cases z : e = s + 1 + m
        · omega
        · exact i2 e (by omega) h2 h3
      · refine Or.inr ⟨e, ⟨i1, i2, by omega⟩, i4, fun e' h1 h2 h3 => ?_⟩
        by_cases z : e' = s + 1 + m
        · omega
        · exact i5 e' h1 h2 (by omega)
theorem kbest_mn (hn : n ≤ 60) (hl : 1 ≤ ll) (hp : 0 ≤ pen.toInt ∧ pen.toInt ≤ 100000) (ha : ∀ k, k < n → kIn 30000 (ad k)) (hb : ∀ j, s < j → j < n → kBd n rc rk j) (hs : s < n) :
    ∃ e, (e = n ∨ (s + ll ≤ e ∧ e + ll ≤ n)) ∧ kbest ad hf ll pen n rc rk s = (kCe ad hf pen n rc s e, kKe n rk e, nI e) ∧ ∀ e', (e' = n ∨ (s + ll ≤ e' ∧ e' + ll ≤ n)) → kLx (kCe ad hf pen n rc s e) (kKe n rk e) e (kCe ad hf pen n rc s e') (kKe n rk e') e' := by
  have hbn := kCe_in (ad := ad) (hf := hf) (rc := rc) (rk := rk) (s := s) hn hp ha (Nat.le_refl n) (fun h => absurd h (Nat.lt_irrefl n))
  have ec : kCost ad hf s n = kCe ad hf pen n rc s n := (if_pos rfl).symm
  have ek : (0 : Int32) = kKe n rk n := (if_pos rfl).symm
  have ekz := kzero
  unfold kbest
  rw [ec]
  rcases kbTo_mn (hf := hf) hn hl hp ha hb (n - (s + 1)) (by omega) with ⟨i1, i2⟩ | ⟨e, ⟨i1, i2, i3⟩, i4, i5⟩
  · rw [i1, kcand_yes (Or.inl (by show _ < (2147483647 : Int32); rw [ki_lt, kmax]; omega))]
    refine ⟨n, Or.inl rfl, by rw [← ek], fun e' h => ?_⟩
    rcases h with z | ⟨h1, h2⟩
    · rw [z]; exact kLx_rf _ _ _
    · exact absurd h2 (i2 e' (by omega) h1)
  · have hbe := kCe_in (ad := ad) (hf := hf) (s := s) hn hp ha (e := e) (by omega) (fun h => hb e (by omega) h)
    have h1e := hbe.2.2.2.2 (by omega)
    rw [i4]
    by_cases w : kCe ad hf pen n rc s n < kCe ad hf pen n rc s e ∨ (kCe ad hf pen n rc s n = kCe ad hf pen n rc s e ∧ (0 : Int32) < kKe n rk e)
    · rw [kcand_yes (c := (kCe ad hf pen n rc s e, kKe n rk e, nI e)) w]
      refine ⟨n, Or.inl rfl, by rw [← ek], fun e' h => ?_⟩
      rcases h with z | ⟨h1, h2⟩
      · rw [z]; exact kLx_rf _ _ _
      · have hx := i5 e' h1 h2 (by omega)
        rw [← ek]
        unfold kLx at hx ⊢
        rw [ki_lt, ki_eq, ki_lt] at w
        omega
    · rw [kcand_no (c := (kCe ad hf pen n rc s e, kKe n rk e, nI e)) w]
      refine ⟨e, Or.inr ⟨i1, i2⟩, rfl, fun e' h => ?_⟩
      rcases h with z | ⟨h1, h2⟩
      · rw [z, ← ek]
        unfold kLx
        rw [ki_lt, ki_eq, ki_lt] at w
        omega
      · exact i5 e' h1 h2 (by omega)
theorem kDP_bd (hn : n ≤ 60) (hl : 1 ≤ ll) (hp : 0 ≤ pen.toInt ∧ pen.toInt ≤ 100000) (ha : ∀ k, k < n → kIn 30000 (ad k)) (hd : kDP ad hf ll pen n rc rk re 0) : ∀ m j, n - j ≤ m → j < n → kBd n rc rk j
  | 0, j, h, hj => absurd h (by omega)
  | m + 1, j, h, hj => by
    have hb : ∀ i, j < i → i < n → kBd n rc rk i := fun i h1 h2 => kDP_bd hn hl hp ha hd m i (by omega) h2
    obtain ⟨e, he, e1, hall⟩ := kbest_mn (hf := hf) hn hl hp ha hb hj
    have e2 := (hd j (Nat.zero_le j) hj).trans e1
    simp only [Prod.mk.injEq] at e2
    obtain ⟨a1, a2, -⟩ := e2
    have hen : e ≤ n := by omega
    have hje : e < n → j < e := fun _ => by omega
    have hbe := kCe_in (ad := ad) (hf := hf) (s := j) hn hp ha (e := e) hen (fun h => hb e (hje h) h)
    have hw := hall n (Or.inl rfl)
    have ec : kCe ad hf pen n rc j n = kCost ad hf j n := if_pos rfl
    have hc := kCost_in (hf := hf) hn ha (a := j) (Nat.le_refl n)
    unfold kLx at hw
    rw [ec] at hw
    unfold kBd
    rw [a1, a2]
    rcases Nat.lt_or_ge e n with z | z
    · have := hje z
      omega
    · have : e = n := by omega
      omega
/-- the law's least candidate is the class's -/
theorem kMn_fin (hn : n ≤ 60) (hl : 1 ≤ ll) (hp : 0 ≤ pen.toInt ∧ pen.toInt ≤ 100000) (ha : ∀ k, k < n → kIn 30000 (ad k)) (hd : kDP ad hf ll pen n rc rk re 0) (hs : s < n) (hi : n < s + ll + ll + i) (h : kMn ad hf pen n rc rk s (kIn9 n ll s i) x k e9) : x = rc s ∧ k = rk s ∧ e9 = re s := by
  obtain ⟨e, he, e1, e2, e3, hall⟩ := h
  obtain ⟨e', he', e1', hall'⟩ := kbest_mn (hf := hf) hn hl hp ha (fun j h1 h2 => kDP_bd hn hl hp ha hd n j (by omega) h2) hs
  have q := (hd s (Nat.zero_le s) hs).trans e1'
  simp only [Prod.mk.injEq] at q
  obtain ⟨a1, a2, a3⟩ := q
  have h1 := hall e' (by
    rcases he' with z | ⟨z1, z2⟩
    · exact Or.inl z
    · exact Or.inr ⟨z1, z2, by omega⟩)
  have h2 := hall' e (by
    rcases he with z | ⟨z1, z2, -⟩
    · exact Or.inl z
    · exact Or.inr ⟨z1, z2⟩)
  have hee : e = e' := by
    unfold kLx at h1 h2
    omega
  rw [e1, e2, e3, a1, a2, a3, hee]
  exact ⟨rfl, rfl, rfl⟩
theorem kMn_pos (hn : n ≤ 60) (hl : 1 ≤ ll) (hp : 0 ≤ pen.toInt ∧ pen.toInt ≤ 100000) (ha : ∀ k, k < n → kIn 30000 (ad k)) (hd : kDP ad hf ll pen n rc rk re 0) (hs : s < n) (h : kMn ad hf pen n rc rk s (kIn9 n ll s i) x k e9) : ¬ x < 0 := by
  obtain ⟨e, he, e1, -⟩ := h
  have hen : e ≤ n := by
    rcases he with z | ⟨z1, z2, -⟩ <;> omega
  have := kCe_in (ad := ad) (hf := hf) (s := s) hn hp ha (e := e) hen (fun h => kDP_bd hn hl hp ha hd n e (by omega) h)
  rw [e1, ki_lt, kzero]
  omega
end KM
/-! the row of the law's settings -/
def kq (a b c d e f : Int32) : Nat → Int32
  | 0 => a
  | 1 => b
  | 2 => c
  | 3 => d
  | 4 => e
  | 5 => f
  | _ => 0
theorem kq_u0 (a b c d e f x : Int32) : upd (kq a b c d e f) 0 x = kq x b c d e f := by
  funext j
  unfold upd
  by_cases h : j = 0
  · subst h
    exact if_pos rfl
  · rw [if_neg h]
    match j, h with
    | 0, h => exact absurd rfl h
    | 1, h => rfl
    | 2, h => rfl
    | 3, h => rfl
    | 4, h => rfl
    | 5, h => rfl
    | j + 6, _ => rfl
theorem kq_u1 (a b c d e f x : Int32) : upd (kq a b c d e f) 1 x = kq a x c d e f := by
  funext j
  unfold upd
  by_cases h : j = 1
  · subst h
    exact if_pos rfl
  · rw [if_neg h]
    match j, h with
    | 0, h => rfl
    | 1, h => exact absurd rfl h
    | 2, h => rfl
    | 3, h => rfl
    | 4, h => rfl
    | 5, h => rfl
    | j + 6, _ => rfl
theorem kq_u2 (a b c d e f x : Int32) : upd (kq a b c d e f) 2 x = kq a b x d e f := by
  funext j
  unfold upd
  by_cases h : j = 2
  · subst h
    exact if_pos rfl
  · rw [if_neg h]
    match j, h with
    | 0, h => rfl
    | 1, h => rfl
    | 2, h => exact absurd rfl h
    | 3, h => rfl
    | 4, h => rfl
    | 5, h => rfl
    | j + 6, _ => rfl
theorem kq_u3 (a b c d e f x : Int32) : upd (kq a b c d e f) 3 x = kq a b c x e f := by
  funext j
  unfold upd
  by_cases h : j = 3
  · subst h
    exact if_pos rfl
  · rw [if_neg h]
    match j, h with
    | 0, h => rfl
    | 1, h => rfl
    | 2, h => rfl
    | 3, h => exact absurd rfl h
    | 4, h => rfl
    | 5, h => rfl
    | j + 6, _ => rfl
theorem kq_u4 (a b c d e f x : Int32) : upd (kq a b c d e f) 4 x = kq a b c d x f := by
  funext j
  unfold upd
  by_cases h : j = 4
  · subst h
    exact if_pos rfl
  · rw [if_neg h]
    match j, h with
    | 0, h => rfl
    | 1, h => rfl
    | 2, h => rfl
    | 3, h => rfl
    | 4, h => exact absurd rfl h
    | 5, h => rfl
    | j + 6, _ => rfl
theorem kq_u5 (a b c d e f x : Int32) : upd (kq a b c d e f) 5 x = kq a b c d e x := by
  funext j
  unfold upd
  by_cases h : j = 5
  · subst h
    exact if_pos rfl
  · rw [if_neg h]
    match j, h with
    | 0, h => rfl
    | 1, h => rfl
    | 2, h => rfl
    | 3, h => rfl
    | 4, h => rfl
    | 5, h => exact absurd rfl h
    | j + 6, _ => rfl
theorem kq_new : (fun _ => 0 : Nat → Int32) = kq (nI 0) 0 0 0 0 0 := by
  funext j
  match j with
  | 0 | 1 | 2 | 3 | 4 | 5 => rfl
  | j + 6 => rfl
def klow (x : Int32) (n : Nat) : Nat := x.toBitVec.toNat % 2 ^ 31 % n
theorem kms_le {a b q : Nat} (hq : 1 ≤ q) : kms a b q ≤ b - a := Nat.le_of_not_lt (fun h => by
  have := (kms_lt (a := a) (b := b) hq (b - a)).mp h
  have := Nat.le_mul_of_pos_left (b - a) hq
  omega)

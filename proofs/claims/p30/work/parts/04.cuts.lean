/-! the best division of what follows each value, as both sides come to it -/
def kcand (c : Int32 × Int32 × Int32) (cost cuts e : Int32) : Int32 × Int32 × Int32 := if cost < c.1 ∨ (cost = c.1 ∧ cuts < c.2.1) then (cost, cuts, e) else c
def kbestTo (ad h : Nat → Int32) (ll : Nat) (pen : Int32) (n : Nat) (rc rk : Nat → Int32) (s : Nat) : Nat → Int32 × Int32 × Int32
  | 0 => (2147483647, 0, nI n)
  | m + 1 => if ll ≤ m + 1 ∧ ll ≤ n - (s + 1 + m) then kcand (kbestTo ad h ll pen n rc rk s m) (kCost ad h s (s + 1 + m) + pen + rc (s + 1 + m)) (rk (s + 1 + m) + 1) (nI (s + 1 + m)) else kbestTo ad h ll pen n rc rk s m
def kbest (ad h : Nat → Int32) (ll : Nat) (pen : Int32) (n : Nat) (rc rk : Nat → Int32) (s : Nat) : Int32 × Int32 × Int32 := kcand (kbestTo ad h ll pen n rc rk s (n - (s + 1))) (kCost ad h s n) 0 (nI n)
theorem kbestTo_s {ad h : Nat → Int32} {ll : Nat} {pen : Int32} {n : Nat} {rc rk : Nat → Int32} {s e : Nat} (he : s < e) : kbestTo ad h ll pen n rc rk s (e + 1 - (s + 1)) = if ll ≤ e - s ∧ ll ≤ n - e then kcand (kbestTo ad h ll pen n rc rk s (e - (s + 1))) (kCost ad h s e + pen + rc e) (rk e + 1) (nI e) else kbestTo ad h ll pen n rc rk s (e - (s + 1)) := by
  obtain ⟨m, rfl⟩ : ∃ m, e = s + 1 + m := ⟨e - (s + 1), by omega⟩
  rw [show s + 1 + m + 1 - (s + 1) = m + 1 by omega, show s + 1 + m - (s + 1) = m by omega, show s + 1 + m - s = m + 1 by omega]
  rfl
theorem kbestTo_congr {ad h : Nat → Int32} {ll : Nat} {pen : Int32} {n : Nat} {rc rk rc' rk' : Nat → Int32} {s : Nat} (hh : ∀ i, s < i → i < n → rc i = rc' i ∧ rk i = rk' i) : ∀ m, s + m < n → kbestTo ad h ll pen n rc rk s m = kbestTo ad h ll pen n rc' rk' s m
  | 0, _ => rfl
  | m + 1, hm => by
    have := hh (s + 1 + m) (by omega) (by omega)
    rw [kbestTo, kbestTo, kbestTo_congr hh m (by omega), this.1, this.2]
theorem kbest_congr {ad h : Nat → Int32} {ll : Nat} {pen : Int32} {n : Nat} {rc rk rc' rk' : Nat → Int32} {s : Nat} (hs : s < n) (hh : ∀ i, s < i → i < n → rc i = rc' i ∧ rk i = rk' i) : kbest ad h ll pen n rc rk s = kbest ad h ll pen n rc' rk' s := by
  unfold kbest
  rw [kbestTo_congr hh _ (by omega)]
/-- what the rows hold behind 'findCuts', from s on -/
def kDP (ad h : Nat → Int32) (ll : Nat) (pen : Int32) (n : Nat) (rc rk re : Nat → Int32) (s : Nat) : Prop := ∀ j, s ≤ j → j < n → (rc j, rk j, re j) = kbest ad h ll pen n rc rk j
theorem kcand_no {c : Int32 × Int32 × Int32} {cost cuts e : Int32} (h : ¬ (cost < c.1 ∨ (cost = c.1 ∧ cuts < c.2.1))) : kcand c cost cuts e = c := if_neg h
theorem kcand_yes {c : Int32 × Int32 × Int32} {cost cuts e : Int32} (h : cost < c.1 ∨ (cost = c.1 ∧ cuts < c.2.1)) : kcand c cost cuts e = (cost, cuts, e) := if_pos h
theorem ku_same (f : Nat → Int32) (i : Nat) : upd f i (f i) = f := by
  funext j
  unfold upd
  split
  · rename_i h; rw [h]
  · rfl
theorem ku_twice (f : Nat → Int32) (i : Nat) (x y : Int32) : upd (upd f i x) i y = upd f i y := by
  funext j
  unfold upd
  split <;> rfl
/-- three rows at once -/
def ku3 (rc rk re : Nat → Int32) (s : Nat) (c : Int32 × Int32 × Int32) (rc2 rk2 re2 : Nat → Int32) : Prop := rc2 = upd rc s c.1 ∧ rk2 = upd rk s c.2.1 ∧ re2 = upd re s c.2.2
theorem ku3_trans {rc rk re rc1 rk1 re1 rc2 rk2 re2 : Nat → Int32} {s : Nat} {c d : Int32 × Int32 × Int32} (h : ku3 rc rk re s c rc1 rk1 re1) (h2 : ku3 rc1 rk1 re1 s d rc2 rk2 re2) : ku3 rc rk re s d rc2 rk2 re2 := by
  obtain ⟨rfl, rfl, rfl⟩ := h
  obtain ⟨rfl, rfl, rfl⟩ := h2
  exact ⟨ku_twice _ _ _ _, ku_twice _ _ _ _, ku_twice _ _ _ _⟩
theorem ku3_at {rc rk re rc1 rk1 re1 : Nat → Int32} {s : Nat} {c : Int32 × Int32 × Int32} (h : ku3 rc rk re s c rc1 rk1 re1) : (rc1 s, rk1 s, re1 s) = c := by
  obtain ⟨rfl, rfl, rfl⟩ := h
  rw [pk_us, pk_us, pk_us]
theorem ku3_no {rc rk re : Nat → Int32} {s : Nat} {cost cuts e : Int32} (h : ¬ (cost < rc s ∨ (cost = rc s ∧ cuts < rk s))) : ku3 rc rk re s (kcand (rc s, rk s, re s) cost cuts e) rc rk re := by
  rw [kcand_no h]
  exact ⟨(ku_same _ _).symm, (ku_same _ _).symm, (ku_same _ _).symm⟩
theorem kDP_step {ad h : Nat → Int32} {ll : Nat} {pen : Int32} {n : Nat} {rc rk re rc2 rk2 re2 : Nat → Int32} {s : Nat} (hs : s < n) (hd : kDP ad h ll pen n rc rk re (s + 1)) (hu : ku3 rc rk re s (kbest ad h ll pen n rc rk s) rc2 rk2 re2) : kDP ad h ll pen n rc2 rk2 re2 s := by
  have hat := ku3_at hu
  obtain ⟨rfl, rfl, rfl⟩ := hu
  intro j hj hjn
  rcases Nat.eq_or_lt_of_le hj with rfl | q
  · rw [hat]
    exact kbest_congr hs (fun i h1 h2 => by rw [pk_un (by omega), pk_un (by omega)]; exact ⟨rfl, rfl⟩)
  · rw [pk_un (by omega), pk_un (by omega), pk_un (by omega), hd j q hjn]
    exact kbest_congr hjn (fun i h1 h2 => by rw [pk_un (by omega), pk_un (by omega)]; exact ⟨rfl, rfl⟩)
/-- where the segments begin, the ends of the first ones given -/
def kpos (en : Nat → Nat) : Nat → Nat
  | 0 => 0
  | i + 1 => en (kpos en i)
/-- the first i segments: their starts, their levels, the levels of their values -/
def kSegd (ad h : Nat → Int32) (en : Nat → Nat) (n c : Nat) (g4 g5 g6 : Nat → Int32) : Prop := ∀ i, i < c → kpos en i < n ∧ g4 i = nI (kpos en i) ∧ g5 i = kLev ad h (kpos en i) (kpos en (i + 1)) ∧ ∀ k, kpos en i ≤ k → k < kpos en (i + 1) → g6 k = kLev ad h (kpos en i) (kpos en (i + 1))
theorem kpos_mono {en : Nat → Nat} {n c : Nat} (hen : ∀ j, j < n → j < en j ∧ en j ≤ n) (hc : ∀ i, i < c → kpos en i < n) : ∀ i, i ≤ c → ∀ j, j < i → kpos en j < kpos en i
  | 0, _, j, hj => absurd hj (Nat.not_lt_zero j)
  | i + 1, hi, j, hj => by
    have h1 := (hen (kpos en i) (hc i hi)).1
    have e : kpos en (i + 1) = en (kpos en i) := rfl
    rcases Nat.eq_or_lt_of_le (Nat.le_of_lt_succ hj) with q | q
    · rw [q]; omega
    · have := kpos_mono hen hc i (by omega) j q
      omega
theorem kSegd_step {ad h : Nat → Int32} {en : Nat → Nat} {n c : Nat} {g4 g5 g6 g62 : Nat → Int32} (hen : ∀ j, j < n → j < en j ∧ en j ≤ n) (hs : kSegd ad h en n c g4 g5 g6) (hcn : kpos en c < n) (h1 : ∀ j, kpos en c ≤ j → j < en (kpos en c) → g62 j = kLev ad h (kpos en c) (en (kpos en c))) (h2 : ∀ j, j < kpos en c → g62 j = g6 j) : kSegd ad h en n (c + 1) (upd g4 c (nI (kpos en c))) (upd g5 c (kLev ad h (kpos en c) (en (kpos en c)))) g62 := by
  intro i hi
  rcases Nat.eq_or_lt_of_le (Nat.le_of_lt_succ hi) with q | q
  · subst q
    exact ⟨hcn, pk_us, pk_us, fun k a b => h1 k a b⟩
  · obtain ⟨a1, a2, a3, a4⟩ := hs i q
    refine ⟨a1, by rw [pk_un (by omega)]; exact a2, by rw [pk_un (by omega)]; exact a3, fun k b1 b2 => ?_⟩
    rw [h2 k ?_]
    · exact a4 k b1 b2
    · have hall : ∀ j, j < c + 1 → kpos en j < n := fun j hj => by
        rcases Nat.eq_or_lt_of_le (Nat.le_of_lt_succ hj) with r | r
        · rw [r]; exact hcn
        · exact (hs j r).1
      rcases Nat.eq_or_lt_of_le (show i + 1 ≤ c from q) with r | r
      · rw [← r]; exact b2
      · have := kpos_mono hen hall c (by omega) (i + 1) r
        omega
/-- every division tried: the least of the costs of what begins at s; C s e is the cost of the segment from s to before e -/
def ktryTo (C : Nat → Nat → Int32) (n ll : Nat) (pen : Int32) (s : Nat) (rec9 : Nat → Int32) : Nat → Int32
  | 0 => C s n
  | m + 1 => if C s (s + ll + m) + pen + rec9 (s + ll + m) < ktryTo C n ll pen s rec9 m then C s (s + ll + m) + pen + rec9 (s + ll + m) else ktryTo C n ll pen s rec9 m
def ktry (C : Nat → Nat → Int32) (n ll : Nat) (pen : Int32) : Nat → Nat → Int32
  | 0, _ => 0
  | k + 1, s => ktryTo C n ll pen s (ktry C n ll pen k) (n - ll + 1 - (s + ll))
theorem ktryTo_congr {C C2 : Nat → Nat → Int32} {n ll : Nat} {pen : Int32} {s : Nat} {r r2 : Nat → Int32} (hs : s < n) (hl : 1 ≤ ll) (hC : ∀ e, s < e → e ≤ n → C s e = C2 s e) (hr : ∀ e, s < e → e < n → r e = r2 e) : ∀ m, m ≤ n - ll + 1 - (s + ll) → ktryTo C n ll pen s r m = ktryTo C2 n ll pen s r2 m
  | 0, _ => hC n hs (Nat.le_refl n)
  | m + 1, hm => by
    rw [ktryTo, ktryTo, ktryTo_congr hs hl hC hr m (by omega), hC (s + ll + m) (by omega) (by omega), hr (s + ll + m) (by omega) (by omega)]
theorem ktry_congr {C C2 : Nat → Nat → Int32} {n ll : Nat} {pen : Int32} (hl : 1 ≤ ll) (hC : ∀ s e, s < e → e ≤ n → C s e = C2 s e) : ∀ k s, s < n → ktry C n ll pen k s = ktry C2 n ll pen k s
  | 0, _, _ => rfl
  | k + 1, s, hs => ktryTo_congr hs hl (fun e h1 h2 => hC s e h1 h2) (fun e h1 h2 => ktry_congr hl hC k e h2) _ (Nat.le_refl _)
theorem ktry_fuel {C : Nat → Nat → Int32} {n ll : Nat} {pen : Int32} (hl : 1 ≤ ll) : ∀ k k2 s, s < n → n - s ≤ k → n - s ≤ k2 → ktry C n ll pen k s = ktry C n ll pen k2 s
  | 0, _, s, hs, h, _ => absurd h (by omega)
  | k + 1, 0, s, hs, _, h => absurd h (by omega)
  | k + 1, k2 + 1, s, hs, h1, h2 => ktryTo_congr hs hl (fun e _ _ => rfl) (fun e a b => ktry_fuel hl k k2 e b (by omega) (by omega)) _ (Nat.le_refl _)

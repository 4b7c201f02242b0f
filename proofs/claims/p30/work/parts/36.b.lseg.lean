/-! the three together -/
theorem kfill_1 (v : Nat → Int32) (n : Nat) (x : Int32) : kfill v n x 1 = upd v n x := by
  funext j
  unfold kfill upd
  by_cases z : j = n
  · rw [if_pos z, if_pos (by omega)]
  · rw [if_neg z, if_neg (by omega)]
def kDue (C : Nat → Nat → Int32) (n ll k : Nat) (pen : Int32) : Int32 := if k < 1 ∨ n ≤ k then -1 else if k < ll ∨ n - k < ll then -2 else C 0 k + C k n + pen
def kLst (v hf : Nat → Int32) (n len ll : Nat) (pen : Int32) : Int32 := if 14 < n then -3 else if n = 0 then 0 else kRc v hf n len ll pen 0

set_option maxHeartbeats 1000000 in
theorem h_L_adds (l : Launch) (hlf : l.stackTraces = false) (D : va_G) (cI cZ cJ : ClassId) (sz : Nat)  (v hf : Nat → Int32) (n len ll : Nat) (pen bf bl : Int32)  (o6 : Nat) (w6 : va_W) (x : Int32) (t m : Nat) (hok : kOk v hf n len ll pen bf bl) (hst : kSt cI cZ v hf n len ll pen bf bl 0 o6 w6) (hx1 : ¬ x < (-10000 : Int32)) (hx2 : x ≤ nI 10000) (hm9 : m = if t = 0 then 1 else t) (hm6 : n + m ≤ 60) : Met l yL_adds wsL_adds ({ frames := 11, cells := 1, slots := 6, locals := 470 }) (va_Pc [.ref o6, .int x, .int (nI t)] (kPreX D (tyA cI cZ cJ) sz w6)) (va_Qi (fun (r : Int32) (w2 : va_W) => r = nI (if t = 0 then n else n + t) ∧ kSt cI cZ (kfill v n x m) (kfill hf n (nI 0) m) (n + m) len ll pen bf bl 0 o6 w2) (kPost D (tyA cI cZ cJ) (va_A w6 sz) (fun (w2 : va_W) => w2)) (va_A w6 sz)) 1 6 (va_A w6 sz) := by
  by_cases z : t = 0
  · rw [if_pos z] at hm9
    subst hm9
    subst z
    rw [if_pos rfl, kfill_1, kfill_1]
    exact h_L_adds_1 l hlf D cI cZ cJ sz v hf n len ll pen bf bl o6 w6 x hok hst hx1 hx2 (by omega)
  · rw [if_neg z] at hm9
    subst hm9
    rw [if_neg z]
    exact h_L_adds_m l hlf D cI cZ cJ sz v hf n len ll pen bf bl o6 w6 x m hok hst hx1 hx2 (by omega) (by omega)

set_option maxHeartbeats 1000000 in
theorem h_L_cutAt (l : Launch) (hlf : l.stackTraces = false) (D : va_G) (cI cZ cJ : ClassId) (sz : Nat)  (v hf : Nat → Int32) (n len ll : Nat) (pen bf bl : Int32)  (o6 : Nat) (w6 : va_W) (k : Nat) (hok : kOk v hf n len ll pen bf bl) (hst : kSt cI cZ v hf n len ll pen bf bl 0 o6 w6) (hk9 : k ≤ 100) : Met l yL_cutAt wsL_cutAt ({ frames := 11, cells := 1, slots := 6, locals := 470 }) (va_Pc [.ref o6, .int (nI k)] (kPreX D (tyA cI cZ cJ) sz w6)) (va_Qi (fun (r : Int32) (w2 : va_W) => r = kDue (kCost (kAdj v hf n len) hf) n ll k pen ∧ kSt cI cZ v hf n len ll pen bf bl 0 o6 w2) (kPost D (tyA cI cZ cJ) (va_A w6 sz) (fun (w2 : va_W) => w2)) (va_A w6 sz)) 1 6 (va_A w6 sz) := by
  unfold kDue
  by_cases z : k < 1 ∨ n ≤ k
  · rw [if_pos z]
    exact h_L_cutAt_k l hlf D cI cZ cJ sz v hf n len ll pen bf bl o6 w6 k hok hst hk9 z
  · rw [if_neg z]
    by_cases z2 : k < ll ∨ n - k < ll
    · rw [if_pos z2]
      exact h_L_cutAt_s l hlf D cI cZ cJ sz v hf n len ll pen bf bl o6 w6 k hok hst (by omega) (by omega) z2
    · rw [if_neg z2]
      exact h_L_cutAt_ok l hlf D cI cZ cJ sz v hf n len ll pen bf bl o6 w6 k hok hst (by omega) (by omega) (by omega) (by omega)

set_option maxHeartbeats 1000000 in
theorem h_L_least (l : Launch) (hlf : l.stackTraces = false) (D : va_G) (cI cZ cJ : ClassId) (sz : Nat)  (v hf : Nat → Int32) (n len ll : Nat) (pen bf bl : Int32)  (o6 : Nat) (w6 : va_W)  (hok : kOk v hf n len ll pen bf bl) (hst : kSt cI cZ v hf n len ll pen bf bl 0 o6 w6) : Met l yL_least wsL_least ({ frames := 24, cells := 1, slots := 6, locals := 820 }) (va_Pc [.ref o6] (kPreX D (tyA cI cZ cJ) sz w6)) (va_Qi (fun (r : Int32) (w2 : va_W) => r = kLst v hf n len ll pen ∧ kSt cI cZ v hf n len ll pen bf bl 0 o6 w2) (kPost D (tyA cI cZ cJ) (va_A w6 sz) (fun (w2 : va_W) => w2)) (va_A w6 sz)) 1 6 (va_A w6 sz) := by
  by_cases z : 14 < n
  · have e : kLst v hf n len ll pen = -3 := if_pos z
    rw [e]
    exact h_L_least_n l hlf D cI cZ cJ sz v hf n len ll pen bf bl o6 w6 hok hst z
  · have e : kLst v hf n len ll pen = (if n = 0 then 0 else ktry (kCost (kAdj v hf n len) hf) n ll pen n 0) := by
      unfold kLst
      rw [if_neg z]
      by_cases z2 : n = 0
      · rw [if_pos z2, if_pos z2]
      · rw [if_neg z2, if_neg z2]
        exact (kLeast hok.2.2.2.2.1 (by omega)).symm
    rw [e]
    by_cases z2 : n = 0
    · exact h_L_least_0 l hlf D cI cZ cJ sz v hf n len ll pen bf bl o6 w6 hok hst z2
    · exact h_L_least_a l hlf D cI cZ cJ sz v hf n len ll pen bf bl o6 w6 hok hst (by omega) (by omega)

/-- the ends that the law has found, followed from the beginning -/
theorem kchain {v hf : Nat → Int32} {n len ll : Nat} {pen : Int32} {e1 : Nat → Int32} (hn : n ≤ 60) (he : ∀ j, j < n → (j = 0 ∨ ll ≤ n - j) → e1 j = nI (kEn v hf n len ll pen j)) : ∀ i, i < kFnd v hf n len ll pen → e1 (kpos (kEn v hf n len ll pen) i) = nI (kpos (kEn v hf n len ll pen) (i + 1)) ∧ kpos (kEn v hf n len ll pen) i < kpos (kEn v hf n len ll pen) (i + 1) ∧ kpos (kEn v hf n len ll pen) (i + 1) ≤ n := by
  intro i hi
  obtain ⟨-, -, f3⟩ := kFnd_ok (v := v) (hf := hf) (len := len) (ll := ll) (pen := pen) hn
  have hj := f3 i hi
  have hg : kpos (kEn v hf n len ll pen) i = 0 ∨ ll ≤ n - kpos (kEn v hf n len ll pen) i := by
    cases i with
    | zero => exact Or.inl rfl
    | succ i =>
      refine Or.inr ?_
      have := kEn_cut (v := v) (hf := hf) (len := len) (ll := ll) (pen := pen) hn (f3 i (by omega))
      have e : kpos (kEn v hf n len ll pen) (i + 1) = kEn v hf n len ll pen (kpos (kEn v hf n len ll pen) i) := rfl
      omega
  have h2 := kEn_is (v := v) (hf := hf) (len := len) (ll := ll) (pen := pen) hn hj
  exact ⟨he _ hj hg, h2.2.1, h2.2.2⟩

set_option maxHeartbeats 4000000 in
set_option maxRecDepth 100000 in
theorem c_L_isSegments (l : Launch) (hlf : l.stackTraces = false) (D : va_G) (cI cZ cJ : ClassId) (sz : Nat)  (v hf : Nat → Int32) (n len ll : Nat) (pen bf bl : Int32)  (o6 : Nat) (w6 : va_W) (a1 a2 a3 a4 a5 : Nat) (av c1 e1 : Nat → Int32) (hok : kOk v hf n len ll pen bf bl) (hst : kSt cI cZ v hf n len ll pen bf bl 0 o6 w6) (hav : ∀ k, k < n → av k = kAdj v hf n len k) (hce : ∀ j, j < n → (j = 0 ∨ ll ≤ n - j) → c1 j = kRc v hf n len ll pen j ∧ e1 j = nI (kEn v hf n len ll pen j)) : Met l yL_isSegments wsL_isSegments ({ frames := 26, cells := 1, slots := 6, locals := 900 }) (va_Pc [.ref o6, .ref a1, .ref a2, .ref a3, .ref a4, .ref a5] (kPreX D (tyA cI cZ cJ) sz ([(a1, .inl (cI, 60, .inl av)), (a2, .inl (cI, 60, .inl hf)), (a3, .inl (cI, 61, .inl c1)), (a4, .inl (cI, 61, .inl e1)), (a5, .inl (cI, 6, .inl (kq (nI n) (nI len) (nI ll) pen bf bl)))] ++ w6))) (va_Qi (fun (r : Int32) (u : va_W × va_W) => r = nI 1 ∧ u.1 = [(a1, .inl (cI, 60, .inl av)), (a2, .inl (cI, 60, .inl hf)), (a3, .inl (cI, 61, .inl c1)), (a4, .inl (cI, 61, .inl e1)), (a5, .inl (cI, 6, .inl (kq (nI n) (nI len) (nI ll) pen bf bl)))] ∧ kSt cI cZ v hf n len ll pen bf bl 0 o6 u.2) (kPost D (tyA cI cZ cJ) (va_A ([(a1, .inl (cI, 60, .inl av)), (a2, .inl (cI, 60, .inl hf)), (a3, .inl (cI, 61, .inl c1)), (a4, .inl (cI, 61, .inl e1)), (a5, .inl (cI, 6, .inl (kq (nI n) (nI len) (nI ll) pen bf bl)))] ++ w6) sz) (fun (u : va_W × va_W) => u.1 ++ u.2)) (va_A ([(a1, .inl (cI, 60, .inl av)), (a2, .inl (cI, 60, .inl hf)), (a3, .inl (cI, 61, .inl c1)), (a4, .inl (cI, 61, .inl e1)), (a5, .inl (cI, 6, .inl (kq (nI n) (nI len) (nI ll) pen bf bl)))] ++ w6) sz)) 1 6 (va_A ([(a1, .inl (cI, 60, .inl av)), (a2, .inl (cI, 60, .inl hf)), (a3, .inl (cI, 61, .inl c1)), (a4, .inl (cI, 61, .inl e1)), (a5, .inl (cI, 6, .inl (kq (nI n) (nI len) (nI ll) pen bf bl)))] ++ w6) sz) := by
  obtain ⟨hn, hbit, hln1, hln2, hll, hlm, hvb, hpb, hbb, hfb⟩ := id hok
  refine kOfWE (cc := cL_isSegments) (maxL := 9) (ret := (some .boolean)) (fun A => va_Qi (fun (r : Int32) (u : va_W × va_W) => r = nI 1 ∧ u.1 = [(a1, .inl (cI, 60, .inl av)), (a2, .inl (cI, 60, .inl hf)), (a3, .inl (cI, 61, .inl c1)), (a4, .inl (cI, 61, .inl e1)), (a5, .inl (cI, 6, .inl (kq (nI n) (nI len) (nI ll) pen bf bl)))] ∧ kSt cI cZ v hf n len ll pen bf bl 0 o6 u.2) (kPost D (tyA cI cZ cJ) (A) (fun (u : va_W × va_W) => u.1 ++ u.2)) (A)) (by decide) rfl (Nat.le_of_ble_eq_true rfl) ?_
  intro p_ e_ s m_ below_ meth_ c_ A ls hx hb hr hml hts hown hlocks hA hP hK hD hsz hE hl
  have hS : va_S A s.heap s.heap [] := va_S.rf
  have hl : lv_has ls 9 [(0, .ref o6), (1, .ref a1), (2, .ref a2), (3, .ref a3), (4, .ref a4), (5, .ref a5)] := hl
  have hin9 : ∀ k, k < n → kIn 30000 (av k) := fun k hk => by rw [hav k hk]; exact kAdj_in hvb hk
  obtain ⟨f1, f2, f3⟩ := kFnd_ok (v := v) (hf := hf) (len := len) (ll := ll) (pen := pen) hn
  have hch := kchain (len := len) (pen := pen) hn (fun j h1 h2 => (hce j h1 h2).2)
  refine lv_iconst (v := nI 0) hx hb dL_isSegments_0 (by decide) ?_
  refine lv_istore (lv' := [(6, .int (nI 0)), (0, .ref o6), (1, .ref a1), (2, .ref a2), (3, .ref a3), (4, .ref a4), (5, .ref a5)]) hx hb dL_isSegments_1 hl (by decide) rfl (fun ls hl => ?_)
  refine lv_iconst (v := nI 1) hx hb dL_isSegments_3 (by decide) ?_
  refine lv_istore (lv' := [(7, .int (nI 1)), (6, .int (nI 0)), (0, .ref o6), (1, .ref a1), (2, .ref a2), (3, .ref a3), (4, .ref a4), (5, .ref a5)]) hx hb dL_isSegments_4 hl (by decide) rfl (fun ls hl => ?_)
  refine lv_iconst (v := nI 0) hx hb dL_isSegments_6 (by decide) ?_
  refine lv_istore (lv' := [(8, .int (nI 0)), (7, .int (nI 1)), (6, .int (nI 0)), (0, .ref o6), (1, .ref a1), (2, .ref a2), (3, .ref a3), (4, .ref a4), (5, .ref a5)]) hx hb dL_isSegments_7 hl (by decide) rfl (fun ls hl => ?_)
  refine wl_loop (fun (d9 : Nat) (H : Heap) (locs : List Loc) (ls : Array Slot) => ∃ (i : Nat) (w7 : va_W), d9 = kFnd v hf n len ll pen - i ∧ (i ≤ kFnd v hf n len ll pen) ∧ (kSt cI cZ v hf n len ll pen bf bl 0 o6 w7) ∧ ((kpos (kEn v hf n len ll pen) i) ≤ n) ∧ va_P D vwCl ([(a1, .inl (cI, 60, .inl av)), (a2, .inl (cI, 60, .inl hf)), (a3, .inl (cI, 61, .inl c1)), (a4, .inl (cI, 61, .inl e1)), (a5, .inl (cI, 6, .inl (kq (nI n) (nI len) (nI ll) pen bf bl)))] ++ w7) H ∧ va_D A ([(a1, .inl (cI, 60, .inl av)), (a2, .inl (cI, 60, .inl hf)), (a3, .inl (cI, 61, .inl c1)), (a4, .inl (cI, 61, .inl e1)), (a5, .inl (cI, 6, .inl (kq (nI n) (nI len) (nI ll) pen bf bl)))] ++ w7) ∧ va_S A s.heap H locs ∧ lv_has ls 9 [(8, .int (nI (kpos (kEn v hf n len ll pen) i))), (7, .int (nI 1)), (6, .int (nI i)), (0, .ref o6), (1, .ref a1), (2, .ref a2), (3, .ref a3), (4, .ref a4), (5, .ref a5)]) ?_ _ ⟨0, _, rfl, Nat.zero_le _, hst, Nat.zero_le _, hP, hD, hS, lv_sub hl [0, 1, 2, 3, 4, 5, 6, 7, 8] rfl⟩
  rintro d_2 H locs ls ⟨i, w7, hd_3, hi, hst, hpl, hP, hD, hS, hl⟩ ih_1
  refine lv_iload hx hb dL_isSegments_9 (lv_at hl 0 rfl) ?_
  refine lv_aload hx hb dL_isSegments_11 (lv_at hl 8 rfl) ?_
  refine lv_iconst (v := nI 0) hx hb dL_isSegments_13 (by decide) ?_
  refine va_iald (D := D) hx hb hK hP 4 0 rfl rfl (vp_in_nI (by omega) (by decide)) dL_isSegments_14 ?_
  refine wt_i (by rw [nI_clamp (n := 0) (by omega)]) ?_
  refine wt_i (y := nI n) rfl ?_
  refine lv_icmp_ge (tgt := 76) hx hb dL_isSegments_15 (by decide) (fun c15 => ?_) (fun c15 => ?_)
  · skip
    have c15 := kle (a := n) (b := (kpos (kEn v hf n len ll pen) i)) c15 (by omega) (by omega)
    have ei : i = kFnd v hf n len ll pen := by
      rcases Nat.lt_or_ge i (kFnd v hf n len ll pen) with z | z
      · have := f3 i z
        omega
      · omega
    rw [ei] at hl
    refine lv_iload hx hb dL_isSegments_76 (lv_at hl 1 rfl) ?_
    refine lv_if_eq (tgt := 167) hx hb dL_isSegments_78 (by decide) (fun c78 => ?_) (fun c78 => ?_)
    · skip
      have c78 := keq (a := 1) (b := 0) c78 (by omega) (by omega)
      exact absurd c78 (by decide)
    · skip
      have c78 := kneq (a := 1) (b := 0) c78 (by omega) (by omega)
      refine lv_aload_n hx hb dL_isSegments_81 rfl (lv_at hl 3 rfl) ?_
      refine klci (X := [(a1, .inl (cI, 60, .inl av)), (a2, .inl (cI, 60, .inl hf)), (a3, .inl (cI, 61, .inl c1)), (a4, .inl (cI, 61, .inl e1)), (a5, .inl (cI, 6, .inl (kq (nI n) (nI len) (nI ll) pen bf bl)))]) (pl := w7) (va_runV (As := []) (rest := []) ⟨hx, hb, hml, hown, hts⟩ (c_X6_segments l D cI cZ cJ H.size v hf n len ll pen bf bl o6 w7 hok hst) (cwV 0 hts gL_isSegments_X6_segments rfl rfl rfl (by decide +kernel) ⟨Nat.le_of_ble_eq_true rfl, Nat.le_of_ble_eq_true rfl⟩) (kpreL hK hP hD rfl (kSt_recv hst)) rfl rfl hl.1 rfl (lv_room (Nat.le_of_ble_eq_true rfl)) dL_isSegments_82 ⟨Nat.zero_le _, Nat.zero_le _⟩) hP hD hS hA (fun r_4 w_5 H locs hw hP hD hS => ?_)
      obtain ⟨hr9, hst⟩ := hw
      have hP : va_P D vwCl ([(a1, .inl (cI, 60, .inl av)), (a2, .inl (cI, 60, .inl hf)), (a3, .inl (cI, 61, .inl c1)), (a4, .inl (cI, 61, .inl e1)), (a5, .inl (cI, 6, .inl (kq (nI n) (nI len) (nI ll) pen bf bl)))] ++ w_5) H := hP
      have hD : va_D A ([(a1, .inl (cI, 60, .inl av)), (a2, .inl (cI, 60, .inl hf)), (a3, .inl (cI, 61, .inl c1)), (a4, .inl (cI, 61, .inl e1)), (a5, .inl (cI, 6, .inl (kq (nI n) (nI len) (nI ll) pen bf bl)))] ++ w_5) := hD
      refine wt_i hr9 ?_
      refine lv_iload hx hb dL_isSegments_85 (lv_at hl 2 rfl) ?_
      refine lv_icmp_ne (tgt := 167) hx hb dL_isSegments_87 (by decide) (fun c87 => ?_) (fun c87 => ?_)
      · skip
        exact absurd rfl c87
      · skip
        refine lv_aload_n hx hb dL_isSegments_90 rfl (lv_at hl 3 rfl) ?_
        refine klci (X := [(a1, .inl (cI, 60, .inl av)), (a2, .inl (cI, 60, .inl hf)), (a3, .inl (cI, 61, .inl c1)), (a4, .inl (cI, 61, .inl e1)), (a5, .inl (cI, 6, .inl (kq (nI n) (nI len) (nI ll) pen bf bl)))]) (pl := w_5) (va_runV (As := []) (rest := []) ⟨hx, hb, hml, hown, hts⟩ (c_X6_cost l D cI cZ cJ H.size v hf n len ll pen bf bl o6 w_5 hok hst) (cwV 0 hts gL_isSegments_X6_cost rfl rfl rfl (by decide +kernel) ⟨Nat.le_of_ble_eq_true rfl, Nat.le_of_ble_eq_true rfl⟩) (kpreL hK hP hD rfl (kSt_recv hst)) rfl rfl hl.1 rfl (lv_room (Nat.le_of_ble_eq_true rfl)) dL_isSegments_91 ⟨Nat.zero_le _, Nat.zero_le _⟩) hP hD hS hA (fun r_7 w_8 H locs hw hP hD hS => ?_)
        obtain ⟨hr9, hst⟩ := hw
        have hP : va_P D vwCl ([(a1, .inl (cI, 60, .inl av)), (a2, .inl (cI, 60, .inl hf)), (a3, .inl (cI, 61, .inl c1)), (a4, .inl (cI, 61, .inl e1)), (a5, .inl (cI, 6, .inl (kq (nI n) (nI len) (nI ll) pen bf bl)))] ++ w_8) H := hP
        have hD : va_D A ([(a1, .inl (cI, 60, .inl av)), (a2, .inl (cI, 60, .inl hf)), (a3, .inl (cI, 61, .inl c1)), (a4, .inl (cI, 61, .inl e1)), (a5, .inl (cI, 6, .inl (kq (nI n) (nI len) (nI ll) pen bf bl)))] ++ w_8) := hD
        refine wt_i hr9 ?_
        refine lv_aload hx hb dL_isSegments_94 (lv_at hl 8 rfl) ?_
        refine lv_iconst (v := nI 0) hx hb dL_isSegments_96 (by decide) ?_
        refine va_iald (D := D) hx hb hK hP 4 0 rfl rfl (vp_in_nI (by omega) (by decide)) dL_isSegments_97 ?_
        refine wt_i (by rw [nI_clamp (n := 0) (by omega)]) ?_
        refine wt_i (y := nI n) rfl ?_
        refine lv_if_ne (tgt := 105) hx hb dL_isSegments_98 (by decide) (fun c98 => ?_) (fun c98 => ?_)
        · skip
          have c98 := kneq (a := n) (b := 0) c98 (by omega) (by omega)
          refine lv_aload_n hx hb dL_isSegments_105 rfl (lv_at hl 6 rfl) ?_
          refine lv_iconst (v := nI 0) hx hb dL_isSegments_106 (by decide) ?_
          refine va_iald (D := D) hx hb hK hP 2 0 rfl rfl (vp_in_nI (by omega) (by decide)) dL_isSegments_107 ?_
          refine wt_i (by rw [nI_clamp (n := 0) (by omega)]) ?_
          refine wt_i (y := if n = 0 then 0 else kRc v hf n len ll pen 0) (show _ = (if n = 0 then 0 else kRc v hf n len ll pen 0) from by rw [if_neg c98]; exact (hce 0 (by omega) (Or.inl rfl)).1) ?_
          refine lv_icmp_ne (tgt := 167) hx hb dL_isSegments_108 (by decide) (fun c108 => ?_) (fun c108 => ?_)
          · skip
            exact absurd rfl c108
          · skip
            refine lv_aload_n hx hb dL_isSegments_111 rfl (lv_at hl 3 rfl) ?_
            refine klci (X := [(a1, .inl (cI, 60, .inl av)), (a2, .inl (cI, 60, .inl hf)), (a3, .inl (cI, 61, .inl c1)), (a4, .inl (cI, 61, .inl e1)), (a5, .inl (cI, 6, .inl (kq (nI n) (nI len) (nI ll) pen bf bl)))]) (pl := w_8) (va_runV (As := []) (rest := []) ⟨hx, hb, hml, hown, hts⟩ (c_X6_costUncut l D cI cZ cJ H.size v hf n len ll pen bf bl o6 w_8 hok hst) (cwV 0 hts gL_isSegments_X6_costUncut rfl rfl rfl (by decide +kernel) ⟨Nat.le_of_ble_eq_true rfl, Nat.le_of_ble_eq_true rfl⟩) (kpreL hK hP hD rfl (kSt_recv hst)) rfl rfl hl.1 rfl (lv_room (Nat.le_of_ble_eq_true rfl)) dL_isSegments_112 ⟨Nat.zero_le _, Nat.zero_le _⟩) hP hD hS hA (fun r_10 w_11 H locs hw hP hD hS => ?_)
            obtain ⟨hr9, hst⟩ := hw
            have hP : va_P D vwCl ([(a1, .inl (cI, 60, .inl av)), (a2, .inl (cI, 60, .inl hf)), (a3, .inl (cI, 61, .inl c1)), (a4, .inl (cI, 61, .inl e1)), (a5, .inl (cI, 6, .inl (kq (nI n) (nI len) (nI ll) pen bf bl)))] ++ w_11) H := hP
            have hD : va_D A ([(a1, .inl (cI, 60, .inl av)), (a2, .inl (cI, 60, .inl hf)), (a3, .inl (cI, 61, .inl c1)), (a4, .inl (cI, 61, .inl e1)), (a5, .inl (cI, 6, .inl (kq (nI n) (nI len) (nI ll) pen bf bl)))] ++ w_11) := hD
            refine wt_i hr9 ?_
            refine lv_aload_n hx hb dL_isSegments_115 rfl (lv_at hl 4 rfl) ?_
            refine lv_aload_n hx hb dL_isSegments_116 rfl (lv_at hl 5 rfl) ?_
            refine lv_iconst (v := nI 0) hx hb dL_isSegments_117 (by decide) ?_
            refine lv_aload hx hb dL_isSegments_118 (lv_at hl 8 rfl) ?_
            refine lv_iconst (v := nI 0) hx hb dL_isSegments_120 (by decide) ?_
            refine va_iald (D := D) hx hb hK hP 4 0 rfl rfl (vp_in_nI (by omega) (by decide)) dL_isSegments_121 ?_
            refine wt_i (by rw [nI_clamp (n := 0) (by omega)]) ?_
            refine wt_i (y := nI n) rfl ?_
            refine klhi (X := [(a1, .inl (cI, 60, .inl av)), (a2, .inl (cI, 60, .inl hf)), (a3, .inl (cI, 61, .inl c1)), (a4, .inl (cI, 61, .inl e1)), (a5, .inl (cI, 6, .inl (kq (nI n) (nI len) (nI ll) pen bf bl)))]) (pl := w_11) (wr := [(a3, .inl (cI, 61, .inl c1)), (a4, .inl (cI, 61, .inl e1)), (a5, .inl (cI, 6, .inl (kq (nI n) (nI len) (nI ll) pen bf bl)))]) (pre := [(a1, .inl (cI, 60, .inl av)), (a2, .inl (cI, 60, .inl hf))]) (va_runS (As := [.ref a1, .ref a2, .int (nI 0), .int (nI n)]) (rest := [.int (kCost (kAdj v hf n len) hf 0 n)]) ⟨hx, hb, hml, hown, hts⟩ (c_L_cost l D cI cZ cJ H.size a1 a2 av hf 0 n (by first | assumption | omega) (by first | assumption | omega) (by first | assumption | omega) hin9) (va_cwS 4 hts gL_isSegments_L_cost rfl rfl rfl (by decide +kernel) ⟨Nat.le_of_ble_eq_true rfl, Nat.le_of_ble_eq_true rfl⟩) (kpreH hK hP hD [0, 1] (by decide +kernel) rfl) rfl rfl hl.1 rfl (lv_room (Nat.le_of_ble_eq_true rfl)) dL_isSegments_122 ⟨Nat.zero_le _, Nat.zero_le _⟩) hP hD hS hA [0, 1] [2, 3, 4] rfl rfl (by decide +kernel) (by decide +kernel) (fun r_13 _ H locs hw hP hD hS => ?_)
            have hP := kpermP (X := [(a3, .inl (cI, 61, .inl c1)), (a4, .inl (cI, 61, .inl e1)), (a5, .inl (cI, 6, .inl (kq (nI n) (nI len) (nI ll) pen bf bl))), (a1, .inl (cI, 60, .inl av)), (a2, .inl (cI, 60, .inl hf))]) (X' := [(a1, .inl (cI, 60, .inl av)), (a2, .inl (cI, 60, .inl hf)), (a3, .inl (cI, 61, .inl c1)), (a4, .inl (cI, 61, .inl e1)), (a5, .inl (cI, 6, .inl (kq (nI n) (nI len) (nI ll) pen bf bl)))]) hP [3, 4, 0, 1, 2] rfl
            have hD := kpermD (X := [(a3, .inl (cI, 61, .inl c1)), (a4, .inl (cI, 61, .inl e1)), (a5, .inl (cI, 6, .inl (kq (nI n) (nI len) (nI ll) pen bf bl))), (a1, .inl (cI, 60, .inl av)), (a2, .inl (cI, 60, .inl hf))]) (X' := [(a1, .inl (cI, 60, .inl av)), (a2, .inl (cI, 60, .inl hf)), (a3, .inl (cI, 61, .inl c1)), (a4, .inl (cI, 61, .inl e1)), (a5, .inl (cI, 6, .inl (kq (nI n) (nI len) (nI ll) pen bf bl)))]) hD [3, 4, 0, 1, 2] (by decide +kernel) rfl
            have hP : va_P D vwCl ([(a1, .inl (cI, 60, .inl av)), (a2, .inl (cI, 60, .inl hf)), (a3, .inl (cI, 61, .inl c1)), (a4, .inl (cI, 61, .inl e1)), (a5, .inl (cI, 6, .inl (kq (nI n) (nI len) (nI ll) pen bf bl)))] ++ w_11) H := hP
            have hD : va_D A ([(a1, .inl (cI, 60, .inl av)), (a2, .inl (cI, 60, .inl hf)), (a3, .inl (cI, 61, .inl c1)), (a4, .inl (cI, 61, .inl e1)), (a5, .inl (cI, 6, .inl (kq (nI n) (nI len) (nI ll) pen bf bl)))] ++ w_11) := hD
            have hr9 : r_13 = kCost av hf 0 n := hw
            refine wt_i hr9 ?_
            refine wt_i (y := kCost (kAdj v hf n len) hf 0 n) (show _ = kCost (kAdj v hf n len) hf 0 n from kCost_congr (fun k _ q9 => hav k q9)) ?_
            refine lv_icmp_ne (tgt := 167) hx hb dL_isSegments_125 (by decide) (fun c125 => ?_) (fun c125 => ?_)
            · skip
              exact absurd rfl c125
            · skip
              refine lv_aload_n hx hb dL_isSegments_128 rfl (lv_at hl 3 rfl) ?_
              refine klci (X := [(a1, .inl (cI, 60, .inl av)), (a2, .inl (cI, 60, .inl hf)), (a3, .inl (cI, 61, .inl c1)), (a4, .inl (cI, 61, .inl e1)), (a5, .inl (cI, 6, .inl (kq (nI n) (nI len) (nI ll) pen bf bl)))]) (pl := w_11) (vx_runSW (As := [.ref o6]) (rest := []) ⟨hx, hb, hml, hown, hts⟩ (h_L_least l hlf D cI cZ cJ H.size v hf n len ll pen bf bl o6 w_11 hok hst) (vx_cwSW 1 hts gL_isSegments_L_least rfl rfl rfl (by decide +kernel) ⟨Nat.le_of_ble_eq_true rfl, Nat.le_of_ble_eq_true rfl⟩) (kpreLX hK hP hD hS hA hE) rfl rfl hl.1 rfl (lv_room (Nat.le_of_ble_eq_true rfl)) dL_isSegments_129 ⟨Nat.le_of_ble_eq_true rfl, Nat.le_of_ble_eq_true rfl⟩) hP hD hS hA (fun r_15 w_16 H locs hw hP hD hS => ?_)
              obtain ⟨hr9, hst⟩ := hw
              have hP : va_P D vwCl ([(a1, .inl (cI, 60, .inl av)), (a2, .inl (cI, 60, .inl hf)), (a3, .inl (cI, 61, .inl c1)), (a4, .inl (cI, 61, .inl e1)), (a5, .inl (cI, 6, .inl (kq (nI n) (nI len) (nI ll) pen bf bl)))] ++ w_16) H := hP
              have hD : va_D A ([(a1, .inl (cI, 60, .inl av)), (a2, .inl (cI, 60, .inl hf)), (a3, .inl (cI, 61, .inl c1)), (a4, .inl (cI, 61, .inl e1)), (a5, .inl (cI, 6, .inl (kq (nI n) (nI len) (nI ll) pen bf bl)))] ++ w_16) := hD
              refine wt_i hr9 ?_
              refine lv_aload hx hb dL_isSegments_132 (lv_at hl 8 rfl) ?_
              refine lv_iconst (v := nI 0) hx hb dL_isSegments_134 (by decide) ?_
              refine va_iald (D := D) hx hb hK hP 4 0 rfl rfl (vp_in_nI (by omega) (by decide)) dL_isSegments_135 ?_
              refine wt_i (by rw [nI_clamp (n := 0) (by omega)]) ?_
              refine wt_i (y := nI n) rfl ?_
              refine lv_bipush (v := nI 14) hx hb dL_isSegments_136 (by decide) ?_
              refine lv_icmp_le (tgt := 146) hx hb dL_isSegments_138 (by decide) (fun c138 => ?_) (fun c138 => ?_)
              · skip
                have c138 := kle (a := n) (b := 14) c138 (by omega) (by omega)
                refine lv_aload hx hb dL_isSegments_146 (lv_at hl 8 rfl) ?_
                refine lv_iconst (v := nI 0) hx hb dL_isSegments_148 (by decide) ?_
                refine va_iald (D := D) hx hb hK hP 4 0 rfl rfl (vp_in_nI (by omega) (by decide)) dL_isSegments_149 ?_
                refine wt_i (by rw [nI_clamp (n := 0) (by omega)]) ?_
                refine wt_i (y := nI n) rfl ?_
                refine lv_if_ne (tgt := 157) hx hb dL_isSegments_150 (by decide) (fun c150 => ?_) (fun c150 => ?_)
                · skip
                  have c150 := kneq (a := n) (b := 0) c150 (by omega) (by omega)
                  refine lv_aload_n hx hb dL_isSegments_157 rfl (lv_at hl 6 rfl) ?_
                  refine lv_iconst (v := nI 0) hx hb dL_isSegments_158 (by decide) ?_
                  refine va_iald (D := D) hx hb hK hP 2 0 rfl rfl (vp_in_nI (by omega) (by decide)) dL_isSegments_159 ?_
                  refine wt_i (by rw [nI_clamp (n := 0) (by omega)]) ?_
                  refine wt_i (y := kLst v hf n len ll pen) (show _ = kLst v hf n len ll pen from by unfold kLst; rw [if_neg (by omega), if_neg c150]; exact (hce 0 (by omega) (Or.inl rfl)).1) ?_
                  refine lv_icmp_ne (tgt := 167) hx hb dL_isSegments_160 (by decide) (fun c160 => ?_) (fun c160 => ?_)
                  · skip
                    exact absurd rfl c160
                  · skip
                    refine lv_iconst (v := nI 1) hx hb dL_isSegments_163 (by decide) ?_
                    refine lv_goto (tgt := 168) hx hb dL_isSegments_164 (by decide) ?_
                    exact krz hx hb hr hlocks (by first | exact Or.inl rfl | exact Or.inr rfl) hP hK hD hS ([(a1, .inl (cI, 60, .inl av)), (a2, .inl (cI, 60, .inl hf)), (a3, .inl (cI, 61, .inl c1)), (a4, .inl (cI, 61, .inl e1)), (a5, .inl (cI, 6, .inl (kq (nI n) (nI len) (nI ll) pen bf bl)))], w_16) (⟨rfl, rfl, hst⟩) ([0, 1, 2, 3, 4] ++ kix ([(a1, .inl (cI, 60, .inl av)), (a2, .inl (cI, 60, .inl hf)), (a3, .inl (cI, 61, .inl c1)), (a4, .inl (cI, 61, .inl e1)), (a5, .inl (cI, 6, .inl (kq (nI n) (nI len) (nI ll) pen bf bl)))]).length (w_16).length) (kndT (X := [(a1, .inl (cI, 60, .inl av)), (a2, .inl (cI, 60, .inl hf)), (a3, .inl (cI, 61, .inl c1)), (a4, .inl (cI, 61, .inl e1)), (a5, .inl (cI, 6, .inl (kq (nI n) (nI len) (nI ll) pen bf bl)))]) (X' := [(a1, .inl (cI, 60, .inl av)), (a2, .inl (cI, 60, .inl hf)), (a3, .inl (cI, 61, .inl c1)), (a4, .inl (cI, 61, .inl e1)), (a5, .inl (cI, 6, .inl (kq (nI n) (nI len) (nI ll) pen bf bl)))]) _ [0, 1, 2, 3, 4] (by decide +kernel) rfl) (kouT (X := [(a1, .inl (cI, 60, .inl av)), (a2, .inl (cI, 60, .inl hf)), (a3, .inl (cI, 61, .inl c1)), (a4, .inl (cI, 61, .inl e1)), (a5, .inl (cI, 6, .inl (kq (nI n) (nI len) (nI ll) pen bf bl)))]) (X' := [(a1, .inl (cI, 60, .inl av)), (a2, .inl (cI, 60, .inl hf)), (a3, .inl (cI, 61, .inl c1)), (a4, .inl (cI, 61, .inl e1)), (a5, .inl (cI, 6, .inl (kq (nI n) (nI len) (nI ll) pen bf bl)))]) [0, 1, 2, 3, 4] rfl) dL_isSegments_168
                · skip
                  have c150 := keq (a := n) (b := 0) c150 (by omega) (by omega)
                  refine lv_iconst (v := nI 0) hx hb dL_isSegments_153 (by decide) ?_
                  refine wt_i (y := kLst v hf n len ll pen) (show _ = kLst v hf n len ll pen from by unfold kLst; rw [if_neg (by omega), if_pos c150]; rfl) ?_
                  refine lv_goto (tgt := 160) hx hb dL_isSegments_154 (by decide) ?_
                  refine lv_icmp_ne (tgt := 167) hx hb dL_isSegments_160 (by decide) (fun c160 => ?_) (fun c160 => ?_)
                  · skip
                    exact absurd rfl c160
                  · skip
                    refine lv_iconst (v := nI 1) hx hb dL_isSegments_163 (by decide) ?_
                    refine lv_goto (tgt := 168) hx hb dL_isSegments_164 (by decide) ?_
                    exact krz hx hb hr hlocks (by first | exact Or.inl rfl | exact Or.inr rfl) hP hK hD hS ([(a1, .inl (cI, 60, .inl av)), (a2, .inl (cI, 60, .inl hf)), (a3, .inl (cI, 61, .inl c1)), (a4, .inl (cI, 61, .inl e1)), (a5, .inl (cI, 6, .inl (kq (nI n) (nI len) (nI ll) pen bf bl)))], w_16) (⟨rfl, rfl, hst⟩) ([0, 1, 2, 3, 4] ++ kix ([(a1, .inl (cI, 60, .inl av)), (a2, .inl (cI, 60, .inl hf)), (a3, .inl (cI, 61, .inl c1)), (a4, .inl (cI, 61, .inl e1)), (a5, .inl (cI, 6, .inl (kq (nI n) (nI len) (nI ll) pen bf bl)))]).length (w_16).length) (kndT (X := [(a1, .inl (cI, 60, .inl av)), (a2, .inl (cI, 60, .inl hf)), (a3, .inl (cI, 61, .inl c1)), (a4, .inl (cI, 61, .inl e1)), (a5, .inl (cI, 6, .inl (kq (nI n) (nI len) (nI ll) pen bf bl)))]) (X' := [(a1, .inl (cI, 60, .inl av)), (a2, .inl (cI, 60, .inl hf)), (a3, .inl (cI, 61, .inl c1)), (a4, .inl (cI, 61, .inl e1)), (a5, .inl (cI, 6, .inl (kq (nI n) (nI len) (nI ll) pen bf bl)))]) _ [0, 1, 2, 3, 4] (by decide +kernel) rfl) (kouT (X := [(a1, .inl (cI, 60, .inl av)), (a2, .inl (cI, 60, .inl hf)), (a3, .inl (cI, 61, .inl c1)), (a4, .inl (cI, 61, .inl e1)), (a5, .inl (cI, 6, .inl (kq (nI n) (nI len) (nI ll) pen bf bl)))]) (X' := [(a1, .inl (cI, 60, .inl av)), (a2, .inl (cI, 60, .inl hf)), (a3, .inl (cI, 61, .inl c1)), (a4, .inl (cI, 61, .inl e1)), (a5, .inl (cI, 6, .inl (kq (nI n) (nI len) (nI ll) pen bf bl)))]) [0, 1, 2, 3, 4] rfl) dL_isSegments_168
              · skip
                have c138 := knle (a := n) (b := 14) c138 (by omega) (by omega)
                refine lv_bipush (v := (-3 : Int32)) hx hb dL_isSegments_141 (by decide) ?_
                refine wt_i (y := kLst v hf n len ll pen) (show _ = kLst v hf n len ll pen from (if_pos c138).symm) ?_
                refine lv_goto (tgt := 160) hx hb dL_isSegments_143 (by decide) ?_
                refine lv_icmp_ne (tgt := 167) hx hb dL_isSegments_160 (by decide) (fun c160 => ?_) (fun c160 => ?_)
                · skip
                  exact absurd rfl c160
                · skip
                  refine lv_iconst (v := nI 1) hx hb dL_isSegments_163 (by decide) ?_
                  refine lv_goto (tgt := 168) hx hb dL_isSegments_164 (by decide) ?_
                  exact krz hx hb hr hlocks (by first | exact Or.inl rfl | exact Or.inr rfl) hP hK hD hS ([(a1, .inl (cI, 60, .inl av)), (a2, .inl (cI, 60, .inl hf)), (a3, .inl (cI, 61, .inl c1)), (a4, .inl (cI, 61, .inl e1)), (a5, .inl (cI, 6, .inl (kq (nI n) (nI len) (nI ll) pen bf bl)))], w_16) (⟨rfl, rfl, hst⟩) ([0, 1, 2, 3, 4] ++ kix ([(a1, .inl (cI, 60, .inl av)), (a2, .inl (cI, 60, .inl hf)), (a3, .inl (cI, 61, .inl c1)), (a4, .inl (cI, 61, .inl e1)), (a5, .inl (cI, 6, .inl (kq (nI n) (nI len) (nI ll) pen bf bl)))]).length (w_16).length) (kndT (X := [(a1, .inl (cI, 60, .inl av)), (a2, .inl (cI, 60, .inl hf)), (a3, .inl (cI, 61, .inl c1)), (a4, .inl (cI, 61, .inl e1)), (a5, .inl (cI, 6, .inl (kq (nI n) (nI len) (nI ll) pen bf bl)))]) (X' := [(a1, .inl (cI, 60, .inl av)), (a2, .inl (cI, 60, .inl hf)), (a3, .inl (cI, 61, .inl c1)), (a4, .inl (cI, 61, .inl e1)), (a5, .inl (cI, 6, .inl (kq (nI n) (nI len) (nI ll) pen bf bl)))]) _ [0, 1, 2, 3, 4] (by decide +kernel) rfl) (kouT (X := [(a1, .inl (cI, 60, .inl av)), (a2, .inl (cI, 60, .inl hf)), (a3, .inl (cI, 61, .inl c1)), (a4, .inl (cI, 61, .inl e1)), (a5, .inl (cI, 6, .inl (kq (nI n) (nI len) (nI ll) pen bf bl)))]) (X' := [(a1, .inl (cI, 60, .inl av)), (a2, .inl (cI, 60, .inl hf)), (a3, .inl (cI, 61, .inl c1)), (a4, .inl (cI, 61, .inl e1)), (a5, .inl (cI, 6, .inl (kq (nI n) (nI len) (nI ll) pen bf bl)))]) [0, 1, 2, 3, 4] rfl) dL_isSegments_168
        · skip
          have c98 := keq (a := n) (b := 0) c98 (by omega) (by omega)
          refine lv_iconst (v := nI 0) hx hb dL_isSegments_101 (by decide) ?_
          refine wt_i (y := if n = 0 then 0 else kRc v hf n len ll pen 0) (show _ = (if n = 0 then 0 else kRc v hf n len ll pen 0) from (if_pos c98).symm) ?_
          refine lv_goto (tgt := 108) hx hb dL_isSegments_102 (by decide) ?_
          refine lv_icmp_ne (tgt := 167) hx hb dL_isSegments_108 (by decide) (fun c108 => ?_) (fun c108 => ?_)
          · skip
            exact absurd rfl c108
          · skip
            refine lv_aload_n hx hb dL_isSegments_111 rfl (lv_at hl 3 rfl) ?_
            refine klci (X := [(a1, .inl (cI, 60, .inl av)), (a2, .inl (cI, 60, .inl hf)), (a3, .inl (cI, 61, .inl c1)), (a4, .inl (cI, 61, .inl e1)), (a5, .inl (cI, 6, .inl (kq (nI n) (nI len) (nI ll) pen bf bl)))]) (pl := w_8) (va_runV (As := []) (rest := []) ⟨hx, hb, hml, hown, hts⟩ (c_X6_costUncut l D cI cZ cJ H.size v hf n len ll pen bf bl o6 w_8 hok hst) (cwV 0 hts gL_isSegments_X6_costUncut rfl rfl rfl (by decide +kernel) ⟨Nat.le_of_ble_eq_true rfl, Nat.le_of_ble_eq_true rfl⟩) (kpreL hK hP hD rfl (kSt_recv hst)) rfl rfl hl.1 rfl (lv_room (Nat.le_of_ble_eq_true rfl)) dL_isSegments_112 ⟨Nat.zero_le _, Nat.zero_le _⟩) hP hD hS hA (fun r_18 w_19 H locs hw hP hD hS => ?_)
            obtain ⟨hr9, hst⟩ := hw
            have hP : va_P D vwCl ([(a1, .inl (cI, 60, .inl av)), (a2, .inl (cI, 60, .inl hf)), (a3, .inl (cI, 61, .inl c1)), (a4, .inl (cI, 61, .inl e1)), (a5, .inl (cI, 6, .inl (kq (nI n) (nI len) (nI ll) pen bf bl)))] ++ w_19) H := hP
            have hD : va_D A ([(a1, .inl (cI, 60, .inl av)), (a2, .inl (cI, 60, .inl hf)), (a3, .inl (cI, 61, .inl c1)), (a4, .inl (cI, 61, .inl e1)), (a5, .inl (cI, 6, .inl (kq (nI n) (nI len) (nI ll) pen bf bl)))] ++ w_19) := hD
            refine wt_i hr9 ?_
            refine lv_aload_n hx hb dL_isSegments_115 rfl (lv_at hl 4 rfl) ?_
            refine lv_aload_n hx hb dL_isSegments_116 rfl (lv_at hl 5 rfl) ?_
            refine lv_iconst (v := nI 0) hx hb dL_isSegments_117 (by decide) ?_
            refine lv_aload hx hb dL_isSegments_118 (lv_at hl 8 rfl) ?_
            refine lv_iconst (v := nI 0) hx hb dL_isSegments_120 (by decide) ?_
            refine va_iald (D := D) hx hb hK hP 4 0 rfl rfl (vp_in_nI (by omega) (by decide)) dL_isSegments_121 ?_
            refine wt_i (by rw [nI_clamp (n := 0) (by omega)]) ?_
            refine wt_i (y := nI n) rfl ?_
            refine klhi (X := [(a1, .inl (cI, 60, .inl av)), (a2, .inl (cI, 60, .inl hf)), (a3, .inl (cI, 61, .inl c1)), (a4, .inl (cI, 61, .inl e1)), (a5, .inl (cI, 6, .inl (kq (nI n) (nI len) (nI ll) pen bf bl)))]) (pl := w_19) (wr := [(a3, .inl (cI, 61, .inl c1)), (a4, .inl (cI, 61, .inl e1)), (a5, .inl (cI, 6, .inl (kq (nI n) (nI len) (nI ll) pen bf bl)))]) (pre := [(a1, .inl (cI, 60, .inl av)), (a2, .inl (cI, 60, .inl hf))]) (va_runS (As := [.ref a1, .ref a2, .int (nI 0), .int (nI n)]) (rest := [.int (kCost (kAdj v hf n len) hf 0 n)]) ⟨hx, hb, hml, hown, hts⟩ (c_L_cost l D cI cZ cJ H.size a1 a2 av hf 0 n (by first | assumption | omega) (by first | assumption | omega) (by first | assumption | omega) hin9) (va_cwS 4 hts gL_isSegments_L_cost rfl rfl rfl (by decide +kernel) ⟨Nat.le_of_ble_eq_true rfl, Nat.le_of_ble_eq_true rfl⟩) (kpreH hK hP hD [0, 1] (by decide +kernel) rfl) rfl rfl hl.1 rfl (lv_room (Nat.le_of_ble_eq_true rfl)) dL_isSegments_122 ⟨Nat.zero_le _, Nat.zero_le _⟩) hP hD hS hA [0, 1] [2, 3, 4] rfl rfl (by decide +kernel) (by decide +kernel) (fun r_21 _ H locs hw hP hD hS => ?_)
            have hP := kpermP (X := [(a3, .inl (cI, 61, .inl c1)), (a4, .inl (cI, 61, .inl e1)), (a5, .inl (cI, 6, .inl (kq (nI n) (nI len) (nI ll) pen bf bl))), (a1, .inl (cI, 60, .inl av)), (a2, .inl (cI, 60, .inl hf))]) (X' := [(a1, .inl (cI, 60, .inl av)), (a2, .inl (cI, 60, .inl hf)), (a3, .inl (cI, 61, .inl c1)), (a4, .inl (cI, 61, .inl e1)), (a5, .inl (cI, 6, .inl (kq (nI n) (nI len) (nI ll) pen bf bl)))]) hP [3, 4, 0, 1, 2] rfl
            have hD := kpermD (X := [(a3, .inl (cI, 61, .inl c1)), (a4, .inl (cI, 61, .inl e1)), (a5, .inl (cI, 6, .inl (kq (nI n) (nI len) (nI ll) pen bf bl))), (a1, .inl (cI, 60, .inl av)), (a2, .inl (cI, 60, .inl hf))]) (X' := [(a1, .inl (cI, 60, .inl av)), (a2, .inl (cI, 60, .inl hf)), (a3, .inl (cI, 61, .inl c1)), (a4, .inl (cI, 61, .inl e1)), (a5, .inl (cI, 6, .inl (kq (nI n) (nI len) (nI ll) pen bf bl)))]) hD [3, 4, 0, 1, 2] (by decide +kernel) rfl
            have hP : va_P D vwCl ([(a1, .inl (cI, 60, .inl av)), (a2, .inl (cI, 60, .inl hf)), (a3, .inl (cI, 61, .inl c1)), (a4, .inl (cI, 61, .inl e1)), (a5, .inl (cI, 6, .inl (kq (nI n) (nI len) (nI ll) pen bf bl)))] ++ w_19) H := hP
            have hD : va_D A ([(a1, .inl (cI, 60, .inl av)), (a2, .inl (cI, 60, .inl hf)), (a3, .inl (cI, 61, .inl c1)), (a4, .inl (cI, 61, .inl e1)), (a5, .inl (cI, 6, .inl (kq (nI n) (nI len) (nI ll) pen bf bl)))] ++ w_19) := hD
            have hr9 : r_21 = kCost av hf 0 n := hw
            refine wt_i hr9 ?_
            refine wt_i (y := kCost (kAdj v hf n len) hf 0 n) (show _ = kCost (kAdj v hf n len) hf 0 n from kCost_congr (fun k _ q9 => hav k q9)) ?_
            refine lv_icmp_ne (tgt := 167) hx hb dL_isSegments_125 (by decide) (fun c125 => ?_) (fun c125 => ?_)
            · skip
              exact absurd rfl c125
            · skip
              refine lv_aload_n hx hb dL_isSegments_128 rfl (lv_at hl 3 rfl) ?_
              refine klci (X := [(a1, .inl (cI, 60, .inl av)), (a2, .inl (cI, 60, .inl hf)), (a3, .inl (cI, 61, .inl c1)), (a4, .inl (cI, 61, .inl e1)), (a5, .inl (cI, 6, .inl (kq (nI n) (nI len) (nI ll) pen bf bl)))]) (pl := w_19) (vx_runSW (As := [.ref o6]) (rest := []) ⟨hx, hb, hml, hown, hts⟩ (h_L_least l hlf D cI cZ cJ H.size v hf n len ll pen bf bl o6 w_19 hok hst) (vx_cwSW 1 hts gL_isSegments_L_least rfl rfl rfl (by decide +kernel) ⟨Nat.le_of_ble_eq_true rfl, Nat.le_of_ble_eq_true rfl⟩) (kpreLX hK hP hD hS hA hE) rfl rfl hl.1 rfl (lv_room (Nat.le_of_ble_eq_true rfl)) dL_isSegments_129 ⟨Nat.le_of_ble_eq_true rfl, Nat.le_of_ble_eq_true rfl⟩) hP hD hS hA (fun r_23 w_24 H locs hw hP hD hS => ?_)
              obtain ⟨hr9, hst⟩ := hw
              have hP : va_P D vwCl ([(a1, .inl (cI, 60, .inl av)), (a2, .inl (cI, 60, .inl hf)), (a3, .inl (cI, 61, .inl c1)), (a4, .inl (cI, 61, .inl e1)), (a5, .inl (cI, 6, .inl (kq (nI n) (nI len) (nI ll) pen bf bl)))] ++ w_24) H := hP
              have hD : va_D A ([(a1, .inl (cI, 60, .inl av)), (a2, .inl (cI, 60, .inl hf)), (a3, .inl (cI, 61, .inl c1)), (a4, .inl (cI, 61, .inl e1)), (a5, .inl (cI, 6, .inl (kq (nI n) (nI len) (nI ll) pen bf bl)))] ++ w_24) := hD
              refine wt_i hr9 ?_
              refine lv_aload hx hb dL_isSegments_132 (lv_at hl 8 rfl) ?_
              refine lv_iconst (v := nI 0) hx hb dL_isSegments_134 (by decide) ?_
              refine va_iald (D := D) hx hb hK hP 4 0 rfl rfl (vp_in_nI (by omega) (by decide)) dL_isSegments_135 ?_
              refine wt_i (by rw [nI_clamp (n := 0) (by omega)]) ?_
              refine wt_i (y := nI n) rfl ?_
              refine lv_bipush (v := nI 14) hx hb dL_isSegments_136 (by decide) ?_
              refine lv_icmp_le (tgt := 146) hx hb dL_isSegments_138 (by decide) (fun c138 => ?_) (fun c138 => ?_)
              · skip
                have c138 := kle (a := n) (b := 14) c138 (by omega) (by omega)
                refine lv_aload hx hb dL_isSegments_146 (lv_at hl 8 rfl) ?_
                refine lv_iconst (v := nI 0) hx hb dL_isSegments_148 (by decide) ?_
                refine va_iald (D := D) hx hb hK hP 4 0 rfl rfl (vp_in_nI (by omega) (by decide)) dL_isSegments_149 ?_
                refine wt_i (by rw [nI_clamp (n := 0) (by omega)]) ?_
                refine wt_i (y := nI n) rfl ?_
                refine lv_if_ne (tgt := 157) hx hb dL_isSegments_150 (by decide) (fun c150 => ?_) (fun c150 => ?_)
                · skip
                  have c150 := kneq (a := n) (b := 0) c150 (by omega) (by omega)
                  refine lv_aload_n hx hb dL_isSegments_157 rfl (lv_at hl 6 rfl) ?_
                  refine lv_iconst (v := nI 0) hx hb dL_isSegments_158 (by decide) ?_
                  refine va_iald (D := D) hx hb hK hP 2 0 rfl rfl (vp_in_nI (by omega) (by decide)) dL_isSegments_159 ?_
                  refine wt_i (by rw [nI_clamp (n := 0) (by omega)]) ?_
                  refine wt_i (y := kLst v hf n len ll pen) (show _ = kLst v hf n len ll pen from by unfold kLst; rw [if_neg (by omega), if_neg c150]; exact (hce 0 (by omega) (Or.inl rfl)).1) ?_
                  refine lv_icmp_ne (tgt := 167) hx hb dL_isSegments_160 (by decide) (fun c160 => ?_) (fun c160 => ?_)
                  · skip
                    exact absurd rfl c160
                  · skip
                    refine lv_iconst (v := nI 1) hx hb dL_isSegments_163 (by decide) ?_
                    refine lv_goto (tgt := 168) hx hb dL_isSegments_164 (by decide) ?_
                    exact krz hx hb hr hlocks (by first | exact Or.inl rfl | exact Or.inr rfl) hP hK hD hS ([(a1, .inl (cI, 60, .inl av)), (a2, .inl (cI, 60, .inl hf)), (a3, .inl (cI, 61, .inl c1)), (a4, .inl (cI, 61, .inl e1)), (a5, .inl (cI, 6, .inl (kq (nI n) (nI len) (nI ll) pen bf bl)))], w_24) (⟨rfl, rfl, hst⟩) ([0, 1, 2, 3, 4] ++ kix ([(a1, .inl (cI, 60, .inl av)), (a2, .inl (cI, 60, .inl hf)), (a3, .inl (cI, 61, .inl c1)), (a4, .inl (cI, 61, .inl e1)), (a5, .inl (cI, 6, .inl (kq (nI n) (nI len) (nI ll) pen bf bl)))]).length (w_24).length) (kndT (X := [(a1, .inl (cI, 60, .inl av)), (a2, .inl (cI, 60, .inl hf)), (a3, .inl (cI, 61, .inl c1)), (a4, .inl (cI, 61, .inl e1)), (a5, .inl (cI, 6, .inl (kq (nI n) (nI len) (nI ll) pen bf bl)))]) (X' := [(a1, .inl (cI, 60, .inl av)), (a2, .inl (cI, 60, .inl hf)), (a3, .inl (cI, 61, .inl c1)), (a4, .inl (cI, 61, .inl e1)), (a5, .inl (cI, 6, .inl (kq (nI n) (nI len) (nI ll) pen bf bl)))]) _ [0, 1, 2, 3, 4] (by decide +kernel) rfl) (kouT (X := [(a1, .inl (cI, 60, .inl av)), (a2, .inl (cI, 60, .inl hf)), (a3, .inl (cI, 61, .inl c1)), (a4, .inl (cI, 61, .inl e1)), (a5, .inl (cI, 6, .inl (kq (nI n) (nI len) (nI ll) pen bf bl)))]) (X' := [(a1, .inl (cI, 60, .inl av)), (a2, .inl (cI, 60, .inl hf)), (a3, .inl (cI, 61, .inl c1)), (a4, .inl (cI, 61, .inl e1)), (a5, .inl (cI, 6, .inl (kq (nI n) (nI len) (nI ll) pen bf bl)))]) [0, 1, 2, 3, 4] rfl) dL_isSegments_168
                · skip
                  have c150 := keq (a := n) (b := 0) c150 (by omega) (by omega)
                  refine lv_iconst (v := nI 0) hx hb dL_isSegments_153 (by decide) ?_
                  refine wt_i (y := kLst v hf n len ll pen) (show _ = kLst v hf n len ll pen from by unfold kLst; rw [if_neg (by omega), if_pos c150]; rfl) ?_
                  refine lv_goto (tgt := 160) hx hb dL_isSegments_154 (by decide) ?_
                  refine lv_icmp_ne (tgt := 167) hx hb dL_isSegments_160 (by decide) (fun c160 => ?_) (fun c160 => ?_)
                  · skip
                    exact absurd rfl c160
                  · skip
                    refine lv_iconst (v := nI 1) hx hb dL_isSegments_163 (by decide) ?_
                    refine lv_goto (tgt := 168) hx hb dL_isSegments_164 (by decide) ?_
                    exact krz hx hb hr hlocks (by first | exact Or.inl rfl | exact Or.inr rfl) hP hK hD hS ([(a1, .inl (cI, 60, .inl av)), (a2, .inl (cI, 60, .inl hf)), (a3, .inl (cI, 61, .inl c1)), (a4, .inl (cI, 61, .inl e1)), (a5, .inl (cI, 6, .inl (kq (nI n) (nI len) (nI ll) pen bf bl)))], w_24) (⟨rfl, rfl, hst⟩) ([0, 1, 2, 3, 4] ++ kix ([(a1, .inl (cI, 60, .inl av)), (a2, .inl (cI, 60, .inl hf)), (a3, .inl (cI, 61, .inl c1)), (a4, .inl (cI, 61, .inl e1)), (a5, .inl (cI, 6, .inl (kq (nI n) (nI len) (nI ll) pen bf bl)))]).length (w_24).length) (kndT (X := [(a1, .inl (cI, 60, .inl av)), (a2, .inl (cI, 60, .inl hf)), (a3, .inl (cI, 61, .inl c1)), (a4, .inl (cI, 61, .inl e1)), (a5, .inl (cI, 6, .inl (kq (nI n) (nI len) (nI ll) pen bf bl)))]) (X' := [(a1, .inl (cI, 60, .inl av)), (a2, .inl (cI, 60, .inl hf)), (a3, .inl (cI, 61, .inl c1)), (a4, .inl (cI, 61, .inl e1)), (a5, .inl (cI, 6, .inl (kq (nI n) (nI len) (nI ll) pen bf bl)))]) _ [0, 1, 2, 3, 4] (by decide +kernel) rfl) (kouT (X := [(a1, .inl (cI, 60, .inl av)), (a2, .inl (cI, 60, .inl hf)), (a3, .inl (cI, 61, .inl c1)), (a4, .inl (cI, 61, .inl e1)), (a5, .inl (cI, 6, .inl (kq (nI n) (nI len) (nI ll) pen bf bl)))]) (X' := [(a1, .inl (cI, 60, .inl av)), (a2, .inl (cI, 60, .inl hf)), (a3, .inl (cI, 61, .inl c1)), (a4, .inl (cI, 61, .inl e1)), (a5, .inl (cI, 6, .inl (kq (nI n) (nI len) (nI ll) pen bf bl)))]) [0, 1, 2, 3, 4] rfl) dL_isSegments_168
              · skip
                have c138 := knle (a := n) (b := 14) c138 (by omega) (by omega)
                refine lv_bipush (v := (-3 : Int32)) hx hb dL_isSegments_141 (by decide) ?_
                refine wt_i (y := kLst v hf n len ll pen) (show _ = kLst v hf n len ll pen from (if_pos c138).symm) ?_
                refine lv_goto (tgt := 160) hx hb dL_isSegments_143 (by decide) ?_
                refine lv_icmp_ne (tgt := 167) hx hb dL_isSegments_160 (by decide) (fun c160 => ?_) (fun c160 => ?_)
                · skip
                  exact absurd rfl c160
                · skip
                  refine lv_iconst (v := nI 1) hx hb dL_isSegments_163 (by decide) ?_
                  refine lv_goto (tgt := 168) hx hb dL_isSegments_164 (by decide) ?_
                  exact krz hx hb hr hlocks (by first | exact Or.inl rfl | exact Or.inr rfl) hP hK hD hS ([(a1, .inl (cI, 60, .inl av)), (a2, .inl (cI, 60, .inl hf)), (a3, .inl (cI, 61, .inl c1)), (a4, .inl (cI, 61, .inl e1)), (a5, .inl (cI, 6, .inl (kq (nI n) (nI len) (nI ll) pen bf bl)))], w_24) (⟨rfl, rfl, hst⟩) ([0, 1, 2, 3, 4] ++ kix ([(a1, .inl (cI, 60, .inl av)), (a2, .inl (cI, 60, .inl hf)), (a3, .inl (cI, 61, .inl c1)), (a4, .inl (cI, 61, .inl e1)), (a5, .inl (cI, 6, .inl (kq (nI n) (nI len) (nI ll) pen bf bl)))]).length (w_24).length) (kndT (X := [(a1, .inl (cI, 60, .inl av)), (a2, .inl (cI, 60, .inl hf)), (a3, .inl (cI, 61, .inl c1)), (a4, .inl (cI, 61, .inl e1)), (a5, .inl (cI, 6, .inl (kq (nI n) (nI len) (nI ll) pen bf bl)))]) (X' := [(a1, .inl (cI, 60, .inl av)), (a2, .inl (cI, 60, .inl hf)), (a3, .inl (cI, 61, .inl c1)), (a4, .inl (cI, 61, .inl e1)), (a5, .inl (cI, 6, .inl (kq (nI n) (nI len) (nI ll) pen bf bl)))]) _ [0, 1, 2, 3, 4] (by decide +kernel) rfl) (kouT (X := [(a1, .inl (cI, 60, .inl av)), (a2, .inl (cI, 60, .inl hf)), (a3, .inl (cI, 61, .inl c1)), (a4, .inl (cI, 61, .inl e1)), (a5, .inl (cI, 6, .inl (kq (nI n) (nI len) (nI ll) pen bf bl)))]) (X' := [(a1, .inl (cI, 60, .inl av)), (a2, .inl (cI, 60, .inl hf)), (a3, .inl (cI, 61, .inl c1)), (a4, .inl (cI, 61, .inl e1)), (a5, .inl (cI, 6, .inl (kq (nI n) (nI len) (nI ll) pen bf bl)))]) [0, 1, 2, 3, 4] rfl) dL_isSegments_168
  · skip
    have c15 := knle (a := n) (b := (kpos (kEn v hf n len ll pen) i)) c15 (by omega) (by omega)
    have hi9 : i < kFnd v hf n len ll pen := by
      rcases Nat.lt_or_ge i (kFnd v hf n len ll pen) with z | z
      · exact z
      · have ei : i = kFnd v hf n len ll pen := by omega
        rw [ei, f1] at c15
        omega
    have hch9 := hch i hi9
    refine lv_iload hx hb dL_isSegments_18 (lv_at hl 1 rfl) ?_
    refine lv_if_eq (tgt := 76) hx hb dL_isSegments_20 (by decide) (fun c20 => ?_) (fun c20 => ?_)
    · skip
      have c20 := keq (a := 1) (b := 0) c20 (by omega) (by omega)
      exact absurd c20 (by decide)
    · skip
      have c20 := kneq (a := 1) (b := 0) c20 (by omega) (by omega)
      refine lv_aload_n hx hb dL_isSegments_23 rfl (lv_at hl 3 rfl) ?_
      refine lv_iload hx hb dL_isSegments_24 (lv_at hl 2 rfl) ?_
      refine klci (X := [(a1, .inl (cI, 60, .inl av)), (a2, .inl (cI, 60, .inl hf)), (a3, .inl (cI, 61, .inl c1)), (a4, .inl (cI, 61, .inl e1)), (a5, .inl (cI, 6, .inl (kq (nI n) (nI len) (nI ll) pen bf bl)))]) (pl := w7) (va_runV (As := [.int (nI i)]) (rest := []) ⟨hx, hb, hml, hown, hts⟩ (c_X6_startOf l D cI cZ cJ H.size v hf n len ll pen bf bl o6 w7 i hok hst (by first | assumption | omega)) (cwV 1 hts gL_isSegments_X6_startOf rfl rfl rfl (by decide +kernel) ⟨Nat.le_of_ble_eq_true rfl, Nat.le_of_ble_eq_true rfl⟩) (kpreL hK hP hD rfl (kSt_recv hst)) rfl rfl hl.1 rfl (lv_room (Nat.le_of_ble_eq_true rfl)) dL_isSegments_26 ⟨Nat.zero_le _, Nat.zero_le _⟩) hP hD hS hA (fun r_26 w_27 H locs hw hP hD hS => ?_)
      obtain ⟨hr9, hst⟩ := hw
      have hP : va_P D vwCl ([(a1, .inl (cI, 60, .inl av)), (a2, .inl (cI, 60, .inl hf)), (a3, .inl (cI, 61, .inl c1)), (a4, .inl (cI, 61, .inl e1)), (a5, .inl (cI, 6, .inl (kq (nI n) (nI len) (nI ll) pen bf bl)))] ++ w_27) H := hP
      have hD : va_D A ([(a1, .inl (cI, 60, .inl av)), (a2, .inl (cI, 60, .inl hf)), (a3, .inl (cI, 61, .inl c1)), (a4, .inl (cI, 61, .inl e1)), (a5, .inl (cI, 6, .inl (kq (nI n) (nI len) (nI ll) pen bf bl)))] ++ w_27) := hD
      refine wt_i hr9 ?_
      refine lv_iload hx hb dL_isSegments_29 (lv_at hl 0 rfl) ?_
      refine lv_icmp_ne (tgt := 60) hx hb dL_isSegments_31 (by decide) (fun c31 => ?_) (fun c31 => ?_)
      · skip
        exact absurd rfl c31
      · skip
        refine lv_aload_n hx hb dL_isSegments_34 rfl (lv_at hl 3 rfl) ?_
        refine lv_iload hx hb dL_isSegments_35 (lv_at hl 2 rfl) ?_
        refine klci (X := [(a1, .inl (cI, 60, .inl av)), (a2, .inl (cI, 60, .inl hf)), (a3, .inl (cI, 61, .inl c1)), (a4, .inl (cI, 61, .inl e1)), (a5, .inl (cI, 6, .inl (kq (nI n) (nI len) (nI ll) pen bf bl)))]) (pl := w_27) (va_runV (As := [.int (nI i)]) (rest := []) ⟨hx, hb, hml, hown, hts⟩ (c_X6_levelOf l D cI cZ cJ H.size v hf n len ll pen bf bl o6 w_27 i hok hst (by first | assumption | omega)) (cwV 1 hts gL_isSegments_X6_levelOf rfl rfl rfl (by decide +kernel) ⟨Nat.le_of_ble_eq_true rfl, Nat.le_of_ble_eq_true rfl⟩) (kpreL hK hP hD rfl (kSt_recv hst)) rfl rfl hl.1 rfl (lv_room (Nat.le_of_ble_eq_true rfl)) dL_isSegments_37 ⟨Nat.zero_le _, Nat.zero_le _⟩) hP hD hS hA (fun r_29 w_30 H locs hw hP hD hS => ?_)
        obtain ⟨hr9, hst⟩ := hw
        have hP : va_P D vwCl ([(a1, .inl (cI, 60, .inl av)), (a2, .inl (cI, 60, .inl hf)), (a3, .inl (cI, 61, .inl c1)), (a4, .inl (cI, 61, .inl e1)), (a5, .inl (cI, 6, .inl (kq (nI n) (nI len) (nI ll) pen bf bl)))] ++ w_30) H := hP
        have hD : va_D A ([(a1, .inl (cI, 60, .inl av)), (a2, .inl (cI, 60, .inl hf)), (a3, .inl (cI, 61, .inl c1)), (a4, .inl (cI, 61, .inl e1)), (a5, .inl (cI, 6, .inl (kq (nI n) (nI len) (nI ll) pen bf bl)))] ++ w_30) := hD
        refine wt_i hr9 ?_
        refine lv_aload_n hx hb dL_isSegments_40 rfl (lv_at hl 4 rfl) ?_
        refine lv_aload_n hx hb dL_isSegments_41 rfl (lv_at hl 5 rfl) ?_
        refine lv_iload hx hb dL_isSegments_42 (lv_at hl 0 rfl) ?_
        refine lv_aload hx hb dL_isSegments_44 (lv_at hl 7 rfl) ?_
        refine lv_iload hx hb dL_isSegments_46 (lv_at hl 0 rfl) ?_
        refine va_iald (D := D) hx hb hK hP 3 0 rfl rfl (vp_in_nI (by omega) (by decide)) dL_isSegments_48 ?_
        refine wt_i (by rw [nI_clamp (n := (kpos (kEn v hf n len ll pen) i)) (by omega)]) ?_
        refine wt_i (y := nI (kpos (kEn v hf n len ll pen) (i + 1))) (hch9.1) ?_
        refine lv_iconst (v := nI 1) hx hb dL_isSegments_49 (by decide) ?_
        refine klhi (X := [(a1, .inl (cI, 60, .inl av)), (a2, .inl (cI, 60, .inl hf)), (a3, .inl (cI, 61, .inl c1)), (a4, .inl (cI, 61, .inl e1)), (a5, .inl (cI, 6, .inl (kq (nI n) (nI len) (nI ll) pen bf bl)))]) (pl := w_30) (wr := [(a3, .inl (cI, 61, .inl c1)), (a4, .inl (cI, 61, .inl e1)), (a5, .inl (cI, 6, .inl (kq (nI n) (nI len) (nI ll) pen bf bl)))]) (pre := [(a1, .inl (cI, 60, .inl av)), (a2, .inl (cI, 60, .inl hf))]) (va_runS (As := [.ref a1, .ref a2, .int (nI (kpos (kEn v hf n len ll pen) i)), .int (nI (kpos (kEn v hf n len ll pen) (i + 1))), .int (nI 1)]) (rest := [.int (kLev (kAdj v hf n len) hf (kpos (kEn v hf n len ll pen) i) (kpos (kEn v hf n len ll pen) (i + 1)))]) ⟨hx, hb, hml, hown, hts⟩ (c_L_median1 l D cI cZ cJ H.size a1 a2 av hf (kpos (kEn v hf n len ll pen) i) (kpos (kEn v hf n len ll pen) (i + 1)) (by first | assumption | omega) (by first | assumption | omega) (by first | assumption | omega)) (va_cwS 5 hts gL_isSegments_L_median rfl rfl rfl (by decide +kernel) ⟨Nat.le_of_ble_eq_true rfl, Nat.le_of_ble_eq_true rfl⟩) (kpreH hK hP hD [0, 1] (by decide +kernel) rfl) rfl rfl hl.1 rfl (lv_room (Nat.le_of_ble_eq_true rfl)) dL_isSegments_50 ⟨Nat.zero_le _, Nat.zero_le _⟩) hP hD hS hA [0, 1] [2, 3, 4] rfl rfl (by decide +kernel) (by decide +kernel) (fun r_32 _ H locs hw hP hD hS => ?_)
        have hP := kpermP (X := [(a3, .inl (cI, 61, .inl c1)), (a4, .inl (cI, 61, .inl e1)), (a5, .inl (cI, 6, .inl (kq (nI n) (nI len) (nI ll) pen bf bl))), (a1, .inl (cI, 60, .inl av)), (a2, .inl (cI, 60, .inl hf))]) (X' := [(a1, .inl (cI, 60, .inl av)), (a2, .inl (cI, 60, .inl hf)), (a3, .inl (cI, 61, .inl c1)), (a4, .inl (cI, 61, .inl e1)), (a5, .inl (cI, 6, .inl (kq (nI n) (nI len) (nI ll) pen bf bl)))]) hP [3, 4, 0, 1, 2] rfl
        have hD := kpermD (X := [(a3, .inl (cI, 61, .inl c1)), (a4, .inl (cI, 61, .inl e1)), (a5, .inl (cI, 6, .inl (kq (nI n) (nI len) (nI ll) pen bf bl))), (a1, .inl (cI, 60, .inl av)), (a2, .inl (cI, 60, .inl hf))]) (X' := [(a1, .inl (cI, 60, .inl av)), (a2, .inl (cI, 60, .inl hf)), (a3, .inl (cI, 61, .inl c1)), (a4, .inl (cI, 61, .inl e1)), (a5, .inl (cI, 6, .inl (kq (nI n) (nI len) (nI ll) pen bf bl)))]) hD [3, 4, 0, 1, 2] (by decide +kernel) rfl
        have hP : va_P D vwCl ([(a1, .inl (cI, 60, .inl av)), (a2, .inl (cI, 60, .inl hf)), (a3, .inl (cI, 61, .inl c1)), (a4, .inl (cI, 61, .inl e1)), (a5, .inl (cI, 6, .inl (kq (nI n) (nI len) (nI ll) pen bf bl)))] ++ w_30) H := hP
        have hD : va_D A ([(a1, .inl (cI, 60, .inl av)), (a2, .inl (cI, 60, .inl hf)), (a3, .inl (cI, 61, .inl c1)), (a4, .inl (cI, 61, .inl e1)), (a5, .inl (cI, 6, .inl (kq (nI n) (nI len) (nI ll) pen bf bl)))] ++ w_30) := hD
        have hr9 : r_32 = kMed (kseg av hf (kpos (kEn v hf n len ll pen) i) (kpos (kEn v hf n len ll pen) (i + 1))) := hw
        refine wt_i hr9 ?_
        refine wt_i (y := kLev (kAdj v hf n len) hf (kpos (kEn v hf n len ll pen) i) (kpos (kEn v hf n len ll pen) (i + 1))) (show _ = kLev (kAdj v hf n len) hf (kpos (kEn v hf n len ll pen) i) (kpos (kEn v hf n len ll pen) (i + 1)) from kLev_congr (fun k _ q9 => hav k (by omega))) ?_
        refine lv_icmp_ne (tgt := 60) hx hb dL_isSegments_53 (by decide) (fun c53 => ?_) (fun c53 => ?_)
        · skip
          exact absurd rfl c53
        · skip
          refine lv_iconst (v := nI 1) hx hb dL_isSegments_56 (by decide) ?_
          refine lv_goto (tgt := 61) hx hb dL_isSegments_57 (by decide) ?_
          refine lv_istore (lv' := [(7, .int (nI 1)), (8, .int (nI (kpos (kEn v hf n len ll pen) i))), (6, .int (nI i)), (0, .ref o6), (1, .ref a1), (2, .ref a2), (3, .ref a3), (4, .ref a4), (5, .ref a5)]) hx hb dL_isSegments_61 hl (by decide) rfl (fun ls hl => ?_)
          refine lv_iinc (v := nI (i + 1)) (lv' := [(6, .int (nI (i + 1))), (7, .int (nI 1)), (8, .int (nI (kpos (kEn v hf n len ll pen) i))), (0, .ref o6), (1, .ref a1), (2, .ref a2), (3, .ref a3), (4, .ref a4), (5, .ref a5)]) hx hb dL_isSegments_63 hl (k := 2) rfl (by exact nI_add _ 1) (by decide) rfl (fun ls hl => ?_)
          refine lv_aload hx hb dL_isSegments_66 (lv_at hl 7 rfl) ?_
          refine lv_iload hx hb dL_isSegments_68 (lv_at hl 2 rfl) ?_
          refine va_iald (D := D) hx hb hK hP 3 0 rfl rfl (vp_in_nI (by omega) (by decide)) dL_isSegments_70 ?_
          refine wt_i (by rw [nI_clamp (n := (kpos (kEn v hf n len ll pen) i)) (by omega)]) ?_
          refine wt_i (y := nI (kpos (kEn v hf n len ll pen) (i + 1))) (hch9.1) ?_
          refine lv_istore (lv' := [(8, .int (nI (kpos (kEn v hf n len ll pen) (i + 1)))), (6, .int (nI (i + 1))), (7, .int (nI 1)), (0, .ref o6), (1, .ref a1), (2, .ref a2), (3, .ref a3), (4, .ref a4), (5, .ref a5)]) hx hb dL_isSegments_71 hl (by decide) rfl (fun ls hl => ?_)
          refine lv_goto (tgt := 9) hx hb dL_isSegments_73 (by decide) ?_
          exact ih_1 _ (by omega) _ _ _ ⟨(i + 1), _, rfl, hi9, hst, hch9.2.2, hP, hD, hS, lv_sub hl [0, 2, 1, 3, 4, 5, 6, 7, 8] rfl⟩

set_option maxHeartbeats 4000000 in
set_option maxRecDepth 100000 in
theorem c_L_isSo (l : Launch) (hlf : l.stackTraces = false) (D : va_G) (cI cZ cJ : ClassId) (sz : Nat)  (v hf : Nat → Int32) (n len ll : Nat) (pen bf bl : Int32)  (o6 : Nat) (w6 : va_W) (z : Int32) (a1 a2 a3 a4 a5 a6 a7 a8 a9 aA : Nat) (ad gg c1 d1 e1 r1 o1 : Nat → Int32) (hok : kOk v hf n len ll pen bf bl) (hst : kSt cI cZ v hf n len ll pen bf bl 0 o6 w6) : Met l yL_isSo wsL_isSo ({ frames := 28, cells := 2, slots := 12, locals := 1000 }) (va_Pc [.ref o6, .int z, .ref a1, .ref a2, .ref a3, .ref a4, .ref a5, .ref a6, .ref a7, .ref a8, .ref a9, .ref aA] (kPreX D (tyA cI cZ cJ) sz ([(a1, .inl (cI, 60, .inl v)), (a2, .inl (cI, 60, .inl hf)), (a3, .inl (cI, 60, .inl ad)), (a4, .inl (cI, 12, .inl gg)), (a5, .inl (cI, 61, .inl c1)), (a6, .inl (cI, 61, .inl d1)), (a7, .inl (cI, 61, .inl e1)), (a8, .inl (cI, 6, .inl (kq (nI n) (nI len) (nI ll) pen bf bl))), (a9, .inl (cI, 60, .inl r1)), (aA, .inl (cI, 60, .inl o1))] ++ w6))) (va_Qi (fun (r : Int32) (u : va_W × va_W) => r = nI 1 ∧ ∃ (ad2 : Nat → Int32) (g2 : Nat → Int32) (c2 : Nat → Int32) (d2 : Nat → Int32) (e2 : Nat → Int32) (r2 : Nat → Int32) (o2 : Nat → Int32), u.1 = [(a1, .inl (cI, 60, .inl v)), (a2, .inl (cI, 60, .inl hf)), (a3, .inl (cI, 60, .inl ad2)), (a4, .inl (cI, 12, .inl g2)), (a5, .inl (cI, 61, .inl c2)), (a6, .inl (cI, 61, .inl d2)), (a7, .inl (cI, 61, .inl e2)), (a8, .inl (cI, 6, .inl (kq (nI n) (nI len) (nI ll) pen bf bl))), (a9, .inl (cI, 60, .inl r2)), (aA, .inl (cI, 60, .inl o2))] ∧ kSt cI cZ v hf n len ll pen bf bl 0 o6 u.2) (kPost D (tyA cI cZ cJ) (va_A ([(a1, .inl (cI, 60, .inl v)), (a2, .inl (cI, 60, .inl hf)), (a3, .inl (cI, 60, .inl ad)), (a4, .inl (cI, 12, .inl gg)), (a5, .inl (cI, 61, .inl c1)), (a6, .inl (cI, 61, .inl d1)), (a7, .inl (cI, 61, .inl e1)), (a8, .inl (cI, 6, .inl (kq (nI n) (nI len) (nI ll) pen bf bl))), (a9, .inl (cI, 60, .inl r1)), (aA, .inl (cI, 60, .inl o1))] ++ w6) sz) (fun (u : va_W × va_W) => u.1 ++ u.2)) (va_A ([(a1, .inl (cI, 60, .inl v)), (a2, .inl (cI, 60, .inl hf)), (a3, .inl (cI, 60, .inl ad)), (a4, .inl (cI, 12, .inl gg)), (a5, .inl (cI, 61, .inl c1)), (a6, .inl (cI, 61, .inl d1)), (a7, .inl (cI, 61, .inl e1)), (a8, .inl (cI, 6, .inl (kq (nI n) (nI len) (nI ll) pen bf bl))), (a9, .inl (cI, 60, .inl r1)), (aA, .inl (cI, 60, .inl o1))] ++ w6) sz)) 2 12 (va_A ([(a1, .inl (cI, 60, .inl v)), (a2, .inl (cI, 60, .inl hf)), (a3, .inl (cI, 60, .inl ad)), (a4, .inl (cI, 12, .inl gg)), (a5, .inl (cI, 61, .inl c1)), (a6, .inl (cI, 61, .inl d1)), (a7, .inl (cI, 61, .inl e1)), (a8, .inl (cI, 6, .inl (kq (nI n) (nI len) (nI ll) pen bf bl))), (a9, .inl (cI, 60, .inl r1)), (aA, .inl (cI, 60, .inl o1))] ++ w6) sz) := by
  obtain ⟨hn, hbit, hln1, hln2, hll, hlm, hvb, hpb, hbb, hfb⟩ := id hok
  refine kOfWE (cc := cL_isSo) (maxL := 23) (ret := (some .boolean)) (fun A => va_Qi (fun (r : Int32) (u : va_W × va_W) => r = nI 1 ∧ ∃ (ad2 : Nat → Int32) (g2 : Nat → Int32) (c2 : Nat → Int32) (d2 : Nat → Int32) (e2 : Nat → Int32) (r2 : Nat → Int32) (o2 : Nat → Int32), u.1 = [(a1, .inl (cI, 60, .inl v)), (a2, .inl (cI, 60, .inl hf)), (a3, .inl (cI, 60, .inl ad2)), (a4, .inl (cI, 12, .inl g2)), (a5, .inl (cI, 61, .inl c2)), (a6, .inl (cI, 61, .inl d2)), (a7, .inl (cI, 61, .inl e2)), (a8, .inl (cI, 6, .inl (kq (nI n) (nI len) (nI ll) pen bf bl))), (a9, .inl (cI, 60, .inl r2)), (aA, .inl (cI, 60, .inl o2))] ∧ kSt cI cZ v hf n len ll pen bf bl 0 o6 u.2) (kPost D (tyA cI cZ cJ) (A) (fun (u : va_W × va_W) => u.1 ++ u.2)) (A)) (by decide) rfl (Nat.le_of_ble_eq_true rfl) ?_
  intro p_ e_ s m_ below_ meth_ c_ A ls hx hb hr hml hts hown hlocks hA hP hK hD hsz hE hl
  have hS : va_S A s.heap s.heap [] := va_S.rf
  have hl : lv_has ls 23 [(0, .ref o6), (1, .int z), (2, .ref a1), (3, .ref a2), (4, .ref a3), (5, .ref a4), (6, .ref a5), (7, .ref a6), (8, .ref a7), (9, .ref a8), (10, .ref a9), (11, .ref aA)] := hl
  obtain ⟨f1, f2, f3⟩ := kFnd_ok (v := v) (hf := hf) (len := len) (ll := ll) (pen := pen) hn
  refine lv_aload_n hx hb dL_isSo_0 rfl (lv_at hl 2 rfl) ?_
  refine lv_aload_n hx hb dL_isSo_1 rfl (lv_at hl 3 rfl) ?_
  refine lv_aload hx hb dL_isSo_2 (lv_at hl 4 rfl) ?_
  refine lv_aload hx hb dL_isSo_4 (lv_at hl 5 rfl) ?_
  refine lv_aload hx hb dL_isSo_6 (lv_at hl 9 rfl) ?_
  refine klhi (X := [(a1, .inl (cI, 60, .inl v)), (a2, .inl (cI, 60, .inl hf)), (a3, .inl (cI, 60, .inl ad)), (a4, .inl (cI, 12, .inl gg)), (a5, .inl (cI, 61, .inl c1)), (a6, .inl (cI, 61, .inl d1)), (a7, .inl (cI, 61, .inl e1)), (a8, .inl (cI, 6, .inl (kq (nI n) (nI len) (nI ll) pen bf bl))), (a9, .inl (cI, 60, .inl r1)), (aA, .inl (cI, 60, .inl o1))]) (pl := w6) (wr := [(a5, .inl (cI, 61, .inl c1)), (a6, .inl (cI, 61, .inl d1)), (a7, .inl (cI, 61, .inl e1)), (a9, .inl (cI, 60, .inl r1)), (aA, .inl (cI, 60, .inl o1))]) (pre := [(a1, .inl (cI, 60, .inl v)), (a2, .inl (cI, 60, .inl hf)), (a3, .inl (cI, 60, .inl ad)), (a4, .inl (cI, 12, .inl gg)), (a8, .inl (cI, 6, .inl (kq (nI n) (nI len) (nI ll) pen bf bl)))]) (va_runS (As := [.ref a1, .ref a2, .ref a3, .ref a4, .ref a8]) (rest := []) ⟨hx, hb, hml, hown, hts⟩ (c_L_seasons l D cI cZ cJ s.heap.size a1 a2 a3 a4 a8 v hf ad gg n len (nI ll) pen bf bl (by first | assumption | omega) (by first | assumption | omega) (by first | assumption | omega) (by first | assumption | omega) (by first | assumption | omega)) (va_cwS 5 hts gL_isSo_L_seasons rfl rfl rfl (by decide +kernel) ⟨Nat.le_of_ble_eq_true rfl, Nat.le_of_ble_eq_true rfl⟩) (kpreH hK hP hD [0, 1, 2, 3, 7] (by decide +kernel) rfl) rfl rfl hl.1 rfl (lv_room (Nat.le_of_ble_eq_true rfl)) dL_isSo_8 ⟨Nat.zero_le _, Nat.zero_le _⟩) hP hD hS hA [0, 1, 2, 3, 7] [4, 5, 6, 8, 9] rfl rfl (by decide +kernel) (by decide +kernel) (fun r_1 u9 H locs hw hP hD hS => ?_)
  obtain ⟨aa9, gg9⟩ := u9
  have hP := kpermP (X := [(a5, .inl (cI, 61, .inl c1)), (a6, .inl (cI, 61, .inl d1)), (a7, .inl (cI, 61, .inl e1)), (a9, .inl (cI, 60, .inl r1)), (aA, .inl (cI, 60, .inl o1)), (a1, .inl (cI, 60, .inl v)), (a2, .inl (cI, 60, .inl hf)), (a3, .inl (cI, 60, .inl aa9)), (a4, .inl (cI, 12, .inl gg9)), (a8, .inl (cI, 6, .inl (kq (nI n) (nI len) (nI ll) pen bf bl)))]) (X' := [(a1, .inl (cI, 60, .inl v)), (a2, .inl (cI, 60, .inl hf)), (a3, .inl (cI, 60, .inl aa9)), (a4, .inl (cI, 12, .inl gg9)), (a5, .inl (cI, 61, .inl c1)), (a6, .inl (cI, 61, .inl d1)), (a7, .inl (cI, 61, .inl e1)), (a8, .inl (cI, 6, .inl (kq (nI n) (nI len) (nI ll) pen bf bl))), (a9, .inl (cI, 60, .inl r1)), (aA, .inl (cI, 60, .inl o1))]) hP [5, 6, 7, 8, 0, 1, 2, 9, 3, 4] rfl
  have hD := kpermD (X := [(a5, .inl (cI, 61, .inl c1)), (a6, .inl (cI, 61, .inl d1)), (a7, .inl (cI, 61, .inl e1)), (a9, .inl (cI, 60, .inl r1)), (aA, .inl (cI, 60, .inl o1)), (a1, .inl (cI, 60, .inl v)), (a2, .inl (cI, 60, .inl hf)), (a3, .inl (cI, 60, .inl aa9)), (a4, .inl (cI, 12, .inl gg9)), (a8, .inl (cI, 6, .inl (kq (nI n) (nI len) (nI ll) pen bf bl)))]) (X' := [(a1, .inl (cI, 60, .inl v)), (a2, .inl (cI, 60, .inl hf)), (a3, .inl (cI, 60, .inl aa9)), (a4, .inl (cI, 12, .inl gg9)), (a5, .inl (cI, 61, .inl c1)), (a6, .inl (cI, 61, .inl d1)), (a7, .inl (cI, 61, .inl e1)), (a8, .inl (cI, 6, .inl (kq (nI n) (nI len) (nI ll) pen bf bl))), (a9, .inl (cI, 60, .inl r1)), (aA, .inl (cI, 60, .inl o1))]) hD [5, 6, 7, 8, 0, 1, 2, 9, 3, 4] (by decide +kernel) rfl
  have hP : va_P D vwCl ([(a1, .inl (cI, 60, .inl v)), (a2, .inl (cI, 60, .inl hf)), (a3, .inl (cI, 60, .inl aa9)), (a4, .inl (cI, 12, .inl gg9)), (a5, .inl (cI, 61, .inl c1)), (a6, .inl (cI, 61, .inl d1)), (a7, .inl (cI, 61, .inl e1)), (a8, .inl (cI, 6, .inl (kq (nI n) (nI len) (nI ll) pen bf bl))), (a9, .inl (cI, 60, .inl r1)), (aA, .inl (cI, 60, .inl o1))] ++ w6) H := hP
  have hD : va_D A ([(a1, .inl (cI, 60, .inl v)), (a2, .inl (cI, 60, .inl hf)), (a3, .inl (cI, 60, .inl aa9)), (a4, .inl (cI, 12, .inl gg9)), (a5, .inl (cI, 61, .inl c1)), (a6, .inl (cI, 61, .inl d1)), (a7, .inl (cI, 61, .inl e1)), (a8, .inl (cI, 6, .inl (kq (nI n) (nI len) (nI ll) pen bf bl))), (a9, .inl (cI, 60, .inl r1)), (aA, .inl (cI, 60, .inl o1))] ++ w6) := hD
  have hw : r_1 = kBase v hf n ∧ ((∀ k, k < n → aa9 k = kAdj v hf n len k) ∧ ∀ k, k < len → gg9 k = kSeas v hf n len k) := hw
  obtain ⟨hr9, hsea⟩ := hw
  refine wt_i hr9 ?_
  obtain ⟨hav, hgs⟩ := hsea
  have hin9 : ∀ k, k < n → kIn 30000 (aa9 k) := fun k hk => by rw [hav k hk]; exact kAdj_in hvb hk
  refine lv_istore (lv' := [(12, .int (kBase v hf n)), (0, .ref o6), (1, .int z), (2, .ref a1), (3, .ref a2), (4, .ref a3), (5, .ref a4), (6, .ref a5), (7, .ref a6), (8, .ref a7), (9, .ref a8), (10, .ref a9), (11, .ref aA)]) hx hb dL_isSo_11 hl (by decide) rfl (fun ls hl => ?_)
  refine lv_aload hx hb dL_isSo_13 (lv_at hl 5 rfl) ?_
  refine lv_aload_n hx hb dL_isSo_15 rfl (lv_at hl 4 rfl) ?_
  refine lv_aload hx hb dL_isSo_16 (lv_at hl 7 rfl) ?_
  refine lv_aload hx hb dL_isSo_18 (lv_at hl 8 rfl) ?_
  refine lv_aload hx hb dL_isSo_20 (lv_at hl 9 rfl) ?_
  refine lv_aload hx hb dL_isSo_22 (lv_at hl 10 rfl) ?_
  refine klhv (X := [(a1, .inl (cI, 60, .inl v)), (a2, .inl (cI, 60, .inl hf)), (a3, .inl (cI, 60, .inl aa9)), (a4, .inl (cI, 12, .inl gg9)), (a5, .inl (cI, 61, .inl c1)), (a6, .inl (cI, 61, .inl d1)), (a7, .inl (cI, 61, .inl e1)), (a8, .inl (cI, 6, .inl (kq (nI n) (nI len) (nI ll) pen bf bl))), (a9, .inl (cI, 60, .inl r1)), (aA, .inl (cI, 60, .inl o1))]) (pl := w6) (wr := [(a1, .inl (cI, 60, .inl v)), (a4, .inl (cI, 12, .inl gg9)), (a9, .inl (cI, 60, .inl r1)), (aA, .inl (cI, 60, .inl o1))]) (pre := [(a3, .inl (cI, 60, .inl aa9)), (a2, .inl (cI, 60, .inl hf)), (a5, .inl (cI, 61, .inl c1)), (a6, .inl (cI, 61, .inl d1)), (a7, .inl (cI, 61, .inl e1)), (a8, .inl (cI, 6, .inl (kq (nI n) (nI len) (nI ll) pen bf bl)))]) (va_runS (As := [.ref a3, .ref a2, .ref a5, .ref a6, .ref a7, .ref a8]) (rest := []) ⟨hx, hb, hml, hown, hts⟩ (c_L_division l D cI cZ cJ H.size a3 a2 a5 a6 a7 a8 aa9 hf c1 d1 e1 n ll (nI len) pen bf bl (kRc v hf n len ll pen) (kRk v hf n len ll pen) ((kT (kAdj v hf n len) hf ll pen n n).2.2) (by first | assumption | omega) (by first | assumption | omega) (by first | assumption | omega) (by first | assumption | omega) hin9 (by first | assumption | omega) (kDP_congrA (fun k hk => (hav k hk).symm) (kEn_dp v hf n len ll pen))) (va_cwS 6 hts gL_isSo_L_division rfl rfl rfl (by decide +kernel) ⟨Nat.le_of_ble_eq_true rfl, Nat.le_of_ble_eq_true rfl⟩) (kpreH hK hP hD [2, 1, 4, 5, 6, 7] (by decide +kernel) rfl) rfl rfl hl.1 rfl (lv_room (Nat.le_of_ble_eq_true rfl)) dL_isSo_24 ⟨Nat.zero_le _, Nat.zero_le _⟩) hP hD hS hA [2, 1, 4, 5, 6, 7] [0, 3, 8, 9] rfl rfl (by decide +kernel) (by decide +kernel) (fun u9 H locs hw hP hD hS => ?_)
  obtain ⟨cc9, dd9, ee9⟩ := u9
  have hP := kpermP (X := [(a1, .inl (cI, 60, .inl v)), (a4, .inl (cI, 12, .inl gg9)), (a9, .inl (cI, 60, .inl r1)), (aA, .inl (cI, 60, .inl o1)), (a3, .inl (cI, 60, .inl aa9)), (a2, .inl (cI, 60, .inl hf)), (a5, .inl (cI, 61, .inl cc9)), (a6, .inl (cI, 61, .inl dd9)), (a7, .inl (cI, 61, .inl ee9)), (a8, .inl (cI, 6, .inl (kq (nI n) (nI len) (nI ll) pen bf bl)))]) (X' := [(a1, .inl (cI, 60, .inl v)), (a2, .inl (cI, 60, .inl hf)), (a3, .inl (cI, 60, .inl aa9)), (a4, .inl (cI, 12, .inl gg9)), (a5, .inl (cI, 61, .inl cc9)), (a6, .inl (cI, 61, .inl dd9)), (a7, .inl (cI, 61, .inl ee9)), (a8, .inl (cI, 6, .inl (kq (nI n) (nI len) (nI ll) pen bf bl))), (a9, .inl (cI, 60, .inl r1)), (aA, .inl (cI, 60, .inl o1))]) hP [0, 5, 4, 1, 6, 7, 8, 9, 2, 3] rfl
  have hD := kpermD (X := [(a1, .inl (cI, 60, .inl v)), (a4, .inl (cI, 12, .inl gg9)), (a9, .inl (cI, 60, .inl r1)), (aA, .inl (cI, 60, .inl o1)), (a3, .inl (cI, 60, .inl aa9)), (a2, .inl (cI, 60, .inl hf)), (a5, .inl (cI, 61, .inl cc9)), (a6, .inl (cI, 61, .inl dd9)), (a7, .inl (cI, 61, .inl ee9)), (a8, .inl (cI, 6, .inl (kq (nI n) (nI len) (nI ll) pen bf bl)))]) (X' := [(a1, .inl (cI, 60, .inl v)), (a2, .inl (cI, 60, .inl hf)), (a3, .inl (cI, 60, .inl aa9)), (a4, .inl (cI, 12, .inl gg9)), (a5, .inl (cI, 61, .inl cc9)), (a6, .inl (cI, 61, .inl dd9)), (a7, .inl (cI, 61, .inl ee9)), (a8, .inl (cI, 6, .inl (kq (nI n) (nI len) (nI ll) pen bf bl))), (a9, .inl (cI, 60, .inl r1)), (aA, .inl (cI, 60, .inl o1))]) hD [0, 5, 4, 1, 6, 7, 8, 9, 2, 3] (by decide +kernel) rfl
  have hP : va_P D vwCl ([(a1, .inl (cI, 60, .inl v)), (a2, .inl (cI, 60, .inl hf)), (a3, .inl (cI, 60, .inl aa9)), (a4, .inl (cI, 12, .inl gg9)), (a5, .inl (cI, 61, .inl cc9)), (a6, .inl (cI, 61, .inl dd9)), (a7, .inl (cI, 61, .inl ee9)), (a8, .inl (cI, 6, .inl (kq (nI n) (nI len) (nI ll) pen bf bl))), (a9, .inl (cI, 60, .inl r1)), (aA, .inl (cI, 60, .inl o1))] ++ w6) H := hP
  have hD : va_D A ([(a1, .inl (cI, 60, .inl v)), (a2, .inl (cI, 60, .inl hf)), (a3, .inl (cI, 60, .inl aa9)), (a4, .inl (cI, 12, .inl gg9)), (a5, .inl (cI, 61, .inl cc9)), (a6, .inl (cI, 61, .inl dd9)), (a7, .inl (cI, 61, .inl ee9)), (a8, .inl (cI, 6, .inl (kq (nI n) (nI len) (nI ll) pen bf bl))), (a9, .inl (cI, 60, .inl r1)), (aA, .inl (cI, 60, .inl o1))] ++ w6) := hD
  have hdiv := hw
  have hce : ∀ j, j < n → (j = 0 ∨ ll ≤ n - j) → cc9 j = kRc v hf n len ll pen j ∧ ee9 j = nI (kEn v hf n len ll pen j) := fun j h1 h2 => ⟨(hdiv j h1 h2).1, ((hdiv j h1 h2).2.2).trans (kEn_is hn h1).1⟩
  have hch := kchain (len := len) (pen := pen) hn (fun j h1 h2 => (hce j h1 h2).2)
  refine lv_aload_n hx hb dL_isSo_27 rfl (lv_at hl 1 rfl) ?_
  refine klci (X := [(a1, .inl (cI, 60, .inl v)), (a2, .inl (cI, 60, .inl hf)), (a3, .inl (cI, 60, .inl aa9)), (a4, .inl (cI, 12, .inl gg9)), (a5, .inl (cI, 61, .inl cc9)), (a6, .inl (cI, 61, .inl dd9)), (a7, .inl (cI, 61, .inl ee9)), (a8, .inl (cI, 6, .inl (kq (nI n) (nI len) (nI ll) pen bf bl))), (a9, .inl (cI, 60, .inl r1)), (aA, .inl (cI, 60, .inl o1))]) (pl := w6) (va_runV (As := []) (rest := []) ⟨hx, hb, hml, hown, hts⟩ (c_X6_size l D cI cZ cJ H.size v hf n len ll pen bf bl o6 w6 hok hst) (cwV 0 hts gL_isSo_X6_size rfl rfl rfl (by decide +kernel) ⟨Nat.le_of_ble_eq_true rfl, Nat.le_of_ble_eq_true rfl⟩) (kpreL hK hP hD rfl (kSt_recv hst)) rfl rfl hl.1 rfl (lv_room (Nat.le_of_ble_eq_true rfl)) dL_isSo_28 ⟨Nat.zero_le _, Nat.zero_le _⟩) hP hD hS hA (fun r_3 w_4 H locs hw hP hD hS => ?_)
  obtain ⟨hr9, hst⟩ := hw
  have hP : va_P D vwCl ([(a1, .inl (cI, 60, .inl v)), (a2, .inl (cI, 60, .inl hf)), (a3, .inl (cI, 60, .inl aa9)), (a4, .inl (cI, 12, .inl gg9)), (a5, .inl (cI, 61, .inl cc9)), (a6, .inl (cI, 61, .inl dd9)), (a7, .inl (cI, 61, .inl ee9)), (a8, .inl (cI, 6, .inl (kq (nI n) (nI len) (nI ll) pen bf bl))), (a9, .inl (cI, 60, .inl r1)), (aA, .inl (cI, 60, .inl o1))] ++ w_4) H := hP
  have hD : va_D A ([(a1, .inl (cI, 60, .inl v)), (a2, .inl (cI, 60, .inl hf)), (a3, .inl (cI, 60, .inl aa9)), (a4, .inl (cI, 12, .inl gg9)), (a5, .inl (cI, 61, .inl cc9)), (a6, .inl (cI, 61, .inl dd9)), (a7, .inl (cI, 61, .inl ee9)), (a8, .inl (cI, 6, .inl (kq (nI n) (nI len) (nI ll) pen bf bl))), (a9, .inl (cI, 60, .inl r1)), (aA, .inl (cI, 60, .inl o1))] ++ w_4) := hD
  refine wt_i hr9 ?_
  refine lv_aload hx hb dL_isSo_31 (lv_at hl 10 rfl) ?_
  refine lv_iconst (v := nI 0) hx hb dL_isSo_33 (by decide) ?_
  refine va_iald (D := D) hx hb hK hP 7 0 rfl rfl (vp_in_nI (by omega) (by decide)) dL_isSo_34 ?_
  refine wt_i (by rw [nI_clamp (n := 0) (by omega)]) ?_
  refine wt_i (y := nI n) rfl ?_
  refine lv_icmp_ne (tgt := 67) hx hb dL_isSo_35 (by decide) (fun c35 => ?_) (fun c35 => ?_)
  · skip
    exact absurd rfl c35
  · skip
    refine lv_aload_n hx hb dL_isSo_38 rfl (lv_at hl 1 rfl) ?_
    refine klci (X := [(a1, .inl (cI, 60, .inl v)), (a2, .inl (cI, 60, .inl hf)), (a3, .inl (cI, 60, .inl aa9)), (a4, .inl (cI, 12, .inl gg9)), (a5, .inl (cI, 61, .inl cc9)), (a6, .inl (cI, 61, .inl dd9)), (a7, .inl (cI, 61, .inl ee9)), (a8, .inl (cI, 6, .inl (kq (nI n) (nI len) (nI ll) pen bf bl))), (a9, .inl (cI, 60, .inl r1)), (aA, .inl (cI, 60, .inl o1))]) (pl := w_4) (va_runV (As := []) (rest := []) ⟨hx, hb, hml, hown, hts⟩ (c_X6_base l D cI cZ cJ H.size v hf n len ll pen bf bl o6 w_4 hok hst) (cwV 0 hts gL_isSo_X6_base rfl rfl rfl (by decide +kernel) ⟨Nat.le_of_ble_eq_true rfl, Nat.le_of_ble_eq_true rfl⟩) (kpreL hK hP hD rfl (kSt_recv hst)) rfl rfl hl.1 rfl (lv_room (Nat.le_of_ble_eq_true rfl)) dL_isSo_39 ⟨Nat.zero_le _, Nat.zero_le _⟩) hP hD hS hA (fun r_6 w_7 H locs hw hP hD hS => ?_)
    obtain ⟨hr9, hst⟩ := hw
    have hP : va_P D vwCl ([(a1, .inl (cI, 60, .inl v)), (a2, .inl (cI, 60, .inl hf)), (a3, .inl (cI, 60, .inl aa9)), (a4, .inl (cI, 12, .inl gg9)), (a5, .inl (cI, 61, .inl cc9)), (a6, .inl (cI, 61, .inl dd9)), (a7, .inl (cI, 61, .inl ee9)), (a8, .inl (cI, 6, .inl (kq (nI n) (nI len) (nI ll) pen bf bl))), (a9, .inl (cI, 60, .inl r1)), (aA, .inl (cI, 60, .inl o1))] ++ w_7) H := hP
    have hD : va_D A ([(a1, .inl (cI, 60, .inl v)), (a2, .inl (cI, 60, .inl hf)), (a3, .inl (cI, 60, .inl aa9)), (a4, .inl (cI, 12, .inl gg9)), (a5, .inl (cI, 61, .inl cc9)), (a6, .inl (cI, 61, .inl dd9)), (a7, .inl (cI, 61, .inl ee9)), (a8, .inl (cI, 6, .inl (kq (nI n) (nI len) (nI ll) pen bf bl))), (a9, .inl (cI, 60, .inl r1)), (aA, .inl (cI, 60, .inl o1))] ++ w_7) := hD
    refine wt_i hr9 ?_
    refine lv_iload hx hb dL_isSo_42 (lv_at hl 0 rfl) ?_
    refine lv_icmp_ne (tgt := 67) hx hb dL_isSo_44 (by decide) (fun c44 => ?_) (fun c44 => ?_)
    · skip
      exact absurd rfl c44
    · skip
      refine lv_aload_n hx hb dL_isSo_47 rfl (lv_at hl 1 rfl) ?_
      refine lv_aload hx hb dL_isSo_48 (lv_at hl 5 rfl) ?_
      refine lv_aload_n hx hb dL_isSo_50 rfl (lv_at hl 4 rfl) ?_
      refine lv_aload hx hb dL_isSo_51 (lv_at hl 7 rfl) ?_
      refine lv_aload hx hb dL_isSo_53 (lv_at hl 9 rfl) ?_
      refine lv_aload hx hb dL_isSo_55 (lv_at hl 10 rfl) ?_
      refine klxi (X := [(a1, .inl (cI, 60, .inl v)), (a2, .inl (cI, 60, .inl hf)), (a3, .inl (cI, 60, .inl aa9)), (a4, .inl (cI, 12, .inl gg9)), (a5, .inl (cI, 61, .inl cc9)), (a6, .inl (cI, 61, .inl dd9)), (a7, .inl (cI, 61, .inl ee9)), (a8, .inl (cI, 6, .inl (kq (nI n) (nI len) (nI ll) pen bf bl))), (a9, .inl (cI, 60, .inl r1)), (aA, .inl (cI, 60, .inl o1))]) (pl := w_7) (wr := [(a1, .inl (cI, 60, .inl v)), (a4, .inl (cI, 12, .inl gg9)), (a6, .inl (cI, 61, .inl dd9)), (a9, .inl (cI, 60, .inl r1)), (aA, .inl (cI, 60, .inl o1))]) (pre := [(a3, .inl (cI, 60, .inl aa9)), (a2, .inl (cI, 60, .inl hf)), (a5, .inl (cI, 61, .inl cc9)), (a7, .inl (cI, 61, .inl ee9)), (a8, .inl (cI, 6, .inl (kq (nI n) (nI len) (nI ll) pen bf bl)))]) (outC := fun (u : va_W × va_W) => u.1) (outW := fun (u : va_W × va_W) => u.2) (va_runS (As := [.ref o6, .ref a3, .ref a2, .ref a5, .ref a7, .ref a8]) (rest := []) ⟨hx, hb, hml, hown, hts⟩ (c_L_isSegments l hlf D cI cZ cJ H.size v hf n len ll pen bf bl o6 w_7 a3 a2 a5 a7 a8 aa9 cc9 ee9 hok hst (by first | assumption | omega) (by first | assumption | omega)) (va_cwS 6 hts gL_isSo_L_isSegments rfl rfl rfl (by decide +kernel) ⟨Nat.le_of_ble_eq_true rfl, Nat.le_of_ble_eq_true rfl⟩) (kpreHX hK hP hD hS hA hE [2, 1, 4, 6, 7] (by decide +kernel) rfl) rfl rfl hl.1 rfl (lv_room (Nat.le_of_ble_eq_true rfl)) dL_isSo_57 ⟨Nat.le_of_ble_eq_true rfl, Nat.le_of_ble_eq_true rfl⟩) hP hD hS hA [2, 1, 4, 6, 7] [0, 3, 5, 8, 9] rfl rfl (by decide +kernel) (by decide +kernel) (fun r_9 u9 H locs hw hP hD hS => ?_)
      obtain ⟨c_11, w_10⟩ := u9
      obtain ⟨hr9, ec9, hst⟩ := hw
      have ec9 : c_11 = [(a3, .inl (cI, 60, .inl aa9)), (a2, .inl (cI, 60, .inl hf)), (a5, .inl (cI, 61, .inl cc9)), (a7, .inl (cI, 61, .inl ee9)), (a8, .inl (cI, 6, .inl (kq (nI n) (nI len) (nI ll) pen bf bl)))] := ec9
      subst ec9
      have hP := kpermP (X := [(a1, .inl (cI, 60, .inl v)), (a4, .inl (cI, 12, .inl gg9)), (a6, .inl (cI, 61, .inl dd9)), (a9, .inl (cI, 60, .inl r1)), (aA, .inl (cI, 60, .inl o1)), (a3, .inl (cI, 60, .inl aa9)), (a2, .inl (cI, 60, .inl hf)), (a5, .inl (cI, 61, .inl cc9)), (a7, .inl (cI, 61, .inl ee9)), (a8, .inl (cI, 6, .inl (kq (nI n) (nI len) (nI ll) pen bf bl)))]) (X' := [(a1, .inl (cI, 60, .inl v)), (a2, .inl (cI, 60, .inl hf)), (a3, .inl (cI, 60, .inl aa9)), (a4, .inl (cI, 12, .inl gg9)), (a5, .inl (cI, 61, .inl cc9)), (a6, .inl (cI, 61, .inl dd9)), (a7, .inl (cI, 61, .inl ee9)), (a8, .inl (cI, 6, .inl (kq (nI n) (nI len) (nI ll) pen bf bl))), (a9, .inl (cI, 60, .inl r1)), (aA, .inl (cI, 60, .inl o1))]) hP [0, 6, 5, 1, 7, 2, 8, 9, 3, 4] rfl
      have hD := kpermD (X := [(a1, .inl (cI, 60, .inl v)), (a4, .inl (cI, 12, .inl gg9)), (a6, .inl (cI, 61, .inl dd9)), (a9, .inl (cI, 60, .inl r1)), (aA, .inl (cI, 60, .inl o1)), (a3, .inl (cI, 60, .inl aa9)), (a2, .inl (cI, 60, .inl hf)), (a5, .inl (cI, 61, .inl cc9)), (a7, .inl (cI, 61, .inl ee9)), (a8, .inl (cI, 6, .inl (kq (nI n) (nI len) (nI ll) pen bf bl)))]) (X' := [(a1, .inl (cI, 60, .inl v)), (a2, .inl (cI, 60, .inl hf)), (a3, .inl (cI, 60, .inl aa9)), (a4, .inl (cI, 12, .inl gg9)), (a5, .inl (cI, 61, .inl cc9)), (a6, .inl (cI, 61, .inl dd9)), (a7, .inl (cI, 61, .inl ee9)), (a8, .inl (cI, 6, .inl (kq (nI n) (nI len) (nI ll) pen bf bl))), (a9, .inl (cI, 60, .inl r1)), (aA, .inl (cI, 60, .inl o1))]) hD [0, 6, 5, 1, 7, 2, 8, 9, 3, 4] (by decide +kernel) rfl
      have hP : va_P D vwCl ([(a1, .inl (cI, 60, .inl v)), (a2, .inl (cI, 60, .inl hf)), (a3, .inl (cI, 60, .inl aa9)), (a4, .inl (cI, 12, .inl gg9)), (a5, .inl (cI, 61, .inl cc9)), (a6, .inl (cI, 61, .inl dd9)), (a7, .inl (cI, 61, .inl ee9)), (a8, .inl (cI, 6, .inl (kq (nI n) (nI len) (nI ll) pen bf bl))), (a9, .inl (cI, 60, .inl r1)), (aA, .inl (cI, 60, .inl o1))] ++ w_10) H := hP
      have hD : va_D A ([(a1, .inl (cI, 60, .inl v)), (a2, .inl (cI, 60, .inl hf)), (a3, .inl (cI, 60, .inl aa9)), (a4, .inl (cI, 12, .inl gg9)), (a5, .inl (cI, 61, .inl cc9)), (a6, .inl (cI, 61, .inl dd9)), (a7, .inl (cI, 61, .inl ee9)), (a8, .inl (cI, 6, .inl (kq (nI n) (nI len) (nI ll) pen bf bl))), (a9, .inl (cI, 60, .inl r1)), (aA, .inl (cI, 60, .inl o1))] ++ w_10) := hD
      refine wt_i hr9 ?_
      refine lv_if_eq (tgt := 67) hx hb dL_isSo_60 (by decide) (fun c60 => ?_) (fun c60 => ?_)
      · skip
        have c60 := keq (a := 1) (b := 0) c60 (by omega) (by omega)
        exact absurd c60 (by decide)
      · skip
        have c60 := kneq (a := 1) (b := 0) c60 (by omega) (by omega)
        refine lv_iconst (v := nI 1) hx hb dL_isSo_63 (by decide) ?_
        refine lv_goto (tgt := 68) hx hb dL_isSo_64 (by decide) ?_
        refine lv_istore (lv' := [(13, .int (nI 1)), (12, .int (kBase v hf n)), (0, .ref o6), (1, .int z), (2, .ref a1), (3, .ref a2), (4, .ref a3), (5, .ref a4), (6, .ref a5), (7, .ref a6), (8, .ref a7), (9, .ref a8), (10, .ref a9), (11, .ref aA)]) hx hb dL_isSo_68 hl (by decide) rfl (fun ls hl => ?_)
        refine lv_iconst (v := nI 0) hx hb dL_isSo_70 (by decide) ?_
        refine lv_istore (lv' := [(14, .int (nI 0)), (13, .int (nI 1)), (12, .int (kBase v hf n)), (0, .ref o6), (1, .int z), (2, .ref a1), (3, .ref a2), (4, .ref a3), (5, .ref a4), (6, .ref a5), (7, .ref a6), (8, .ref a7), (9, .ref a8), (10, .ref a9), (11, .ref aA)]) hx hb dL_isSo_71 hl (by decide) rfl (fun ls hl => ?_)
        refine wl_loop (fun (d9 : Nat) (H : Heap) (locs : List Loc) (ls : Array Slot) => ∃ (p : Nat) (w7 : va_W), d9 = len - p ∧ (p ≤ len) ∧ (kSt cI cZ v hf n len ll pen bf bl 0 o6 w7) ∧ va_P D vwCl ([(a1, .inl (cI, 60, .inl v)), (a2, .inl (cI, 60, .inl hf)), (a3, .inl (cI, 60, .inl aa9)), (a4, .inl (cI, 12, .inl gg9)), (a5, .inl (cI, 61, .inl cc9)), (a6, .inl (cI, 61, .inl dd9)), (a7, .inl (cI, 61, .inl ee9)), (a8, .inl (cI, 6, .inl (kq (nI n) (nI len) (nI ll) pen bf bl))), (a9, .inl (cI, 60, .inl r1)), (aA, .inl (cI, 60, .inl o1))] ++ w7) H ∧ va_D A ([(a1, .inl (cI, 60, .inl v)), (a2, .inl (cI, 60, .inl hf)), (a3, .inl (cI, 60, .inl aa9)), (a4, .inl (cI, 12, .inl gg9)), (a5, .inl (cI, 61, .inl cc9)), (a6, .inl (cI, 61, .inl dd9)), (a7, .inl (cI, 61, .inl ee9)), (a8, .inl (cI, 6, .inl (kq (nI n) (nI len) (nI ll) pen bf bl))), (a9, .inl (cI, 60, .inl r1)), (aA, .inl (cI, 60, .inl o1))] ++ w7) ∧ va_S A s.heap H locs ∧ lv_has ls 23 [(14, .int (nI p)), (13, .int (nI 1)), (12, .int (kBase v hf n)), (0, .ref o6), (1, .int z), (2, .ref a1), (3, .ref a2), (4, .ref a3), (5, .ref a4), (6, .ref a5), (7, .ref a6), (8, .ref a7), (9, .ref a8), (10, .ref a9), (11, .ref aA)]) ?_ _ ⟨0, _, rfl, Nat.zero_le _, hst, hP, hD, hS, lv_sub hl [0, 1, 2, 3, 4, 5, 6, 7, 8, 9, 10, 11, 12, 13, 14] rfl⟩
        rintro d_13 H locs ls ⟨p, w7, hd_14, hp, hst, hP, hD, hS, hl⟩ ih_12
        refine lv_iload hx hb dL_isSo_73 (lv_at hl 0 rfl) ?_
        refine lv_aload hx hb dL_isSo_75 (lv_at hl 12 rfl) ?_
        refine lv_iconst (v := nI 1) hx hb dL_isSo_77 (by decide) ?_
        refine va_iald (D := D) hx hb hK hP 7 0 rfl rfl (vp_in_nI (by omega) (by decide)) dL_isSo_78 ?_
        refine wt_i (by rw [nI_clamp (n := 1) (by omega)]) ?_
        refine wt_i (y := nI len) rfl ?_
        refine lv_icmp_ge (tgt := 114) hx hb dL_isSo_79 (by decide) (fun c79 => ?_) (fun c79 => ?_)
        · skip
          have c79 := kle (a := len) (b := p) c79 (by omega) (by omega)
          refine lv_iconst (v := nI 0) hx hb dL_isSo_114 (by decide) ?_
          refine lv_istore (lv' := [(14, .int (nI 0)), (13, .int (nI 1)), (12, .int (kBase v hf n)), (0, .ref o6), (1, .int z), (2, .ref a1), (3, .ref a2), (4, .ref a3), (5, .ref a4), (6, .ref a5), (7, .ref a6), (8, .ref a7), (9, .ref a8), (10, .ref a9), (11, .ref aA)]) hx hb dL_isSo_115 hl (by decide) rfl (fun ls hl => ?_)
          refine lv_iconst (v := nI 0) hx hb dL_isSo_117 (by decide) ?_
          refine lv_istore (lv' := [(15, .int (nI 0)), (14, .int (nI 0)), (13, .int (nI 1)), (12, .int (kBase v hf n)), (0, .ref o6), (1, .int z), (2, .ref a1), (3, .ref a2), (4, .ref a3), (5, .ref a4), (6, .ref a5), (7, .ref a6), (8, .ref a7), (9, .ref a8), (10, .ref a9), (11, .ref aA)]) hx hb dL_isSo_118 hl (by decide) rfl (fun ls hl => ?_)
          refine wl_loop (fun (d9 : Nat) (H : Heap) (locs : List Loc) (ls : Array Slot) => ∃ (i : Nat) (lv9 : Int32) (r3 : Nat → Int32), d9 = kFnd v hf n len ll pen - i ∧ (i ≤ kFnd v hf n len ll pen) ∧ ((kpos (kEn v hf n len ll pen) i) ≤ n) ∧ (lv9 = if (kpos (kEn v hf n len ll pen) i) = 0 then 0 else kLvK v hf n len ll pen ((kpos (kEn v hf n len ll pen) i) - 1)) ∧ (∀ k, k < (kpos (kEn v hf n len ll pen) i) → r3 k = kResid v hf n len ll pen k) ∧ va_P D vwCl ([(a1, .inl (cI, 60, .inl v)), (a2, .inl (cI, 60, .inl hf)), (a3, .inl (cI, 60, .inl aa9)), (a4, .inl (cI, 12, .inl gg9)), (a5, .inl (cI, 61, .inl cc9)), (a6, .inl (cI, 61, .inl dd9)), (a7, .inl (cI, 61, .inl ee9)), (a8, .inl (cI, 6, .inl (kq (nI n) (nI len) (nI ll) pen bf bl))), (a9, .inl (cI, 60, .inl r3)), (aA, .inl (cI, 60, .inl o1))] ++ w7) H ∧ va_D A ([(a1, .inl (cI, 60, .inl v)), (a2, .inl (cI, 60, .inl hf)), (a3, .inl (cI, 60, .inl aa9)), (a4, .inl (cI, 12, .inl gg9)), (a5, .inl (cI, 61, .inl cc9)), (a6, .inl (cI, 61, .inl dd9)), (a7, .inl (cI, 61, .inl ee9)), (a8, .inl (cI, 6, .inl (kq (nI n) (nI len) (nI ll) pen bf bl))), (a9, .inl (cI, 60, .inl r3)), (aA, .inl (cI, 60, .inl o1))] ++ w7) ∧ va_S A s.heap H locs ∧ lv_has ls 23 [(15, .int (nI (kpos (kEn v hf n len ll pen) i))), (14, .int lv9), (13, .int (nI 1)), (12, .int (kBase v hf n)), (0, .ref o6), (1, .int z), (2, .ref a1), (3, .ref a2), (4, .ref a3), (5, .ref a4), (6, .ref a5), (7, .ref a6), (8, .ref a7), (9, .ref a8), (10, .ref a9), (11, .ref aA)]) ?_ _ ⟨0, _, _, rfl, Nat.zero_le _, Nat.zero_le _, (if_pos rfl).symm, fun k q9 => absurd q9 (Nat.not_lt_zero k), hP, hD, hS, lv_sub hl [0, 1, 2, 3, 4, 5, 6, 7, 8, 9, 10, 11, 12, 13, 14, 15] rfl⟩
          rintro d_16 H locs ls ⟨i, lv9, r3, hd_17, hi, hpl, hlv, hr3, hP, hD, hS, hl⟩ ih_15
          refine lv_iload hx hb dL_isSo_120 (lv_at hl 0 rfl) ?_
          refine lv_aload hx hb dL_isSo_122 (lv_at hl 13 rfl) ?_
          refine lv_iconst (v := nI 0) hx hb dL_isSo_124 (by decide) ?_
          refine va_iald (D := D) hx hb hK hP 7 0 rfl rfl (vp_in_nI (by omega) (by decide)) dL_isSo_125 ?_
          refine wt_i (by rw [nI_clamp (n := 0) (by omega)]) ?_
          refine wt_i (y := nI n) rfl ?_
          refine lv_icmp_ge (tgt := 188) hx hb dL_isSo_126 (by decide) (fun c126 => ?_) (fun c126 => ?_)
          · skip
            have c126 := kle (a := n) (b := (kpos (kEn v hf n len ll pen) i)) c126 (by omega) (by omega)
            have epn : (kpos (kEn v hf n len ll pen) i) = n := by omega
            have hr9r : ∀ k, k < n → r3 k = kResid v hf n len ll pen k := fun k hk => hr3 k (by omega)
            have hlast : lv9 = kLast v hf n len ll pen := by rw [hlv, epn]; rfl
            subst hlast
            refine lv_iconst (v := nI 0) hx hb dL_isSo_188 (by decide) ?_
            refine lv_istore (lv' := [(15, .int (nI 0)), (14, .int (kLast v hf n len ll pen)), (13, .int (nI 1)), (12, .int (kBase v hf n)), (0, .ref o6), (1, .int z), (2, .ref a1), (3, .ref a2), (4, .ref a3), (5, .ref a4), (6, .ref a5), (7, .ref a6), (8, .ref a7), (9, .ref a8), (10, .ref a9), (11, .ref aA)]) hx hb dL_isSo_189 hl (by decide) rfl (fun ls hl => ?_)
            refine wl_loop (fun (d9 : Nat) (H : Heap) (locs : List Loc) (ls : Array Slot) => ∃ (k : Nat) (o3 : Nat → Int32) (w7 : va_W), d9 = n - k ∧ (k ≤ n) ∧ (kSt cI cZ v hf n len ll pen bf bl 0 o6 w7) ∧ (∀ j, j < k → o3 j = kab (kResid v hf n len ll pen j)) ∧ va_P D vwCl ([(a1, .inl (cI, 60, .inl v)), (a2, .inl (cI, 60, .inl hf)), (a3, .inl (cI, 60, .inl aa9)), (a4, .inl (cI, 12, .inl gg9)), (a5, .inl (cI, 61, .inl cc9)), (a6, .inl (cI, 61, .inl dd9)), (a7, .inl (cI, 61, .inl ee9)), (a8, .inl (cI, 6, .inl (kq (nI n) (nI len) (nI ll) pen bf bl))), (a9, .inl (cI, 60, .inl r3)), (aA, .inl (cI, 60, .inl o3))] ++ w7) H ∧ va_D A ([(a1, .inl (cI, 60, .inl v)), (a2, .inl (cI, 60, .inl hf)), (a3, .inl (cI, 60, .inl aa9)), (a4, .inl (cI, 12, .inl gg9)), (a5, .inl (cI, 61, .inl cc9)), (a6, .inl (cI, 61, .inl dd9)), (a7, .inl (cI, 61, .inl ee9)), (a8, .inl (cI, 6, .inl (kq (nI n) (nI len) (nI ll) pen bf bl))), (a9, .inl (cI, 60, .inl r3)), (aA, .inl (cI, 60, .inl o3))] ++ w7) ∧ va_S A s.heap H locs ∧ lv_has ls 23 [(15, .int (nI k)), (14, .int (kLast v hf n len ll pen)), (13, .int (nI 1)), (12, .int (kBase v hf n)), (0, .ref o6), (1, .int z), (2, .ref a1), (3, .ref a2), (4, .ref a3), (5, .ref a4), (6, .ref a5), (7, .ref a6), (8, .ref a7), (9, .ref a8), (10, .ref a9), (11, .ref aA)]) ?_ _ ⟨0, _, _, rfl, Nat.zero_le _, hst, fun j q9 => absurd q9 (Nat.not_lt_zero j), hP, hD, hS, lv_sub hl [0, 1, 2, 3, 4, 5, 6, 7, 8, 9, 10, 11, 12, 13, 14, 15] rfl⟩
            rintro d_19 H locs ls ⟨k, o3, w7, hd_20, hk, hst, ho3, hP, hD, hS, hl⟩ ih_18
            refine lv_iload hx hb dL_isSo_191 (lv_at hl 0 rfl) ?_
            refine lv_aload hx hb dL_isSo_193 (lv_at hl 13 rfl) ?_
            refine lv_iconst (v := nI 0) hx hb dL_isSo_195 (by decide) ?_
            refine va_iald (D := D) hx hb hK hP 7 0 rfl rfl (vp_in_nI (by omega) (by decide)) dL_isSo_196 ?_
            refine wt_i (by rw [nI_clamp (n := 0) (by omega)]) ?_
            refine wt_i (y := nI n) rfl ?_
            refine lv_icmp_ge (tgt := 286) hx hb dL_isSo_197 (by decide) (fun c197 => ?_) (fun c197 => ?_)
            · skip
              have c197 := kle (a := n) (b := k) c197 (by omega) (by omega)
              have ek : k = n := by omega
              rw [ek] at ho3
              refine lv_aload hx hb dL_isSo_286 (lv_at hl 15 rfl) ?_
              refine lv_aload_n hx hb dL_isSo_288 rfl (lv_at hl 7 rfl) ?_
              refine lv_iconst (v := nI 0) hx hb dL_isSo_289 (by decide) ?_
              refine lv_aload hx hb dL_isSo_290 (lv_at hl 13 rfl) ?_
              refine lv_iconst (v := nI 0) hx hb dL_isSo_292 (by decide) ?_
              refine va_iald (D := D) hx hb hK hP 7 0 rfl rfl (vp_in_nI (by omega) (by decide)) dL_isSo_293 ?_
              refine wt_i (by rw [nI_clamp (n := 0) (by omega)]) ?_
              refine wt_i (y := nI n) rfl ?_
              refine lv_iconst (v := nI 1) hx hb dL_isSo_294 (by decide) ?_
              refine klhi (X := [(a1, .inl (cI, 60, .inl v)), (a2, .inl (cI, 60, .inl hf)), (a3, .inl (cI, 60, .inl aa9)), (a4, .inl (cI, 12, .inl gg9)), (a5, .inl (cI, 61, .inl cc9)), (a6, .inl (cI, 61, .inl dd9)), (a7, .inl (cI, 61, .inl ee9)), (a8, .inl (cI, 6, .inl (kq (nI n) (nI len) (nI ll) pen bf bl))), (a9, .inl (cI, 60, .inl r3)), (aA, .inl (cI, 60, .inl o3))]) (pl := w7) (wr := [(a1, .inl (cI, 60, .inl v)), (a3, .inl (cI, 60, .inl aa9)), (a4, .inl (cI, 12, .inl gg9)), (a5, .inl (cI, 61, .inl cc9)), (a6, .inl (cI, 61, .inl dd9)), (a7, .inl (cI, 61, .inl ee9)), (a8, .inl (cI, 6, .inl (kq (nI n) (nI len) (nI ll) pen bf bl))), (a9, .inl (cI, 60, .inl r3))]) (pre := [(aA, .inl (cI, 60, .inl o3)), (a2, .inl (cI, 60, .inl hf))]) (va_runS (As := [.ref aA, .ref a2, .int (nI 0), .int (nI n), .int (nI 1)]) (rest := []) ⟨hx, hb, hml, hown, hts⟩ (c_L_median1 l D cI cZ cJ H.size aA a2 o3 hf 0 n (by first | assumption | omega) (by first | assumption | omega) (by first | assumption | omega)) (va_cwS 5 hts gL_isSo_L_median rfl rfl rfl (by decide +kernel) ⟨Nat.le_of_ble_eq_true rfl, Nat.le_of_ble_eq_true rfl⟩) (kpreH hK hP hD [9, 1] (by decide +kernel) rfl) rfl rfl hl.1 rfl (lv_room (Nat.le_of_ble_eq_true rfl)) dL_isSo_295 ⟨Nat.le_of_ble_eq_true rfl, Nat.le_of_ble_eq_true rfl⟩) hP hD hS hA [9, 1] [0, 2, 3, 4, 5, 6, 7, 8] rfl rfl (by decide +kernel) (by decide +kernel) (fun r_21 _ H locs hw hP hD hS => ?_)
              have hP := kpermP (X := [(a1, .inl (cI, 60, .inl v)), (a3, .inl (cI, 60, .inl aa9)), (a4, .inl (cI, 12, .inl gg9)), (a5, .inl (cI, 61, .inl cc9)), (a6, .inl (cI, 61, .inl dd9)), (a7, .inl (cI, 61, .inl ee9)), (a8, .inl (cI, 6, .inl (kq (nI n) (nI len) (nI ll) pen bf bl))), (a9, .inl (cI, 60, .inl r3)), (aA, .inl (cI, 60, .inl o3)), (a2, .inl (cI, 60, .inl hf))]) (X' := [(a1, .inl (cI, 60, .inl v)), (a2, .inl (cI, 60, .inl hf)), (a3, .inl (cI, 60, .inl aa9)), (a4, .inl (cI, 12, .inl gg9)), (a5, .inl (cI, 61, .inl cc9)), (a6, .inl (cI, 61, .inl dd9)), (a7, .inl (cI, 61, .inl ee9)), (a8, .inl (cI, 6, .inl (kq (nI n) (nI len) (nI ll) pen bf bl))), (a9, .inl (cI, 60, .inl r3)), (aA, .inl (cI, 60, .inl o3))]) hP [0, 9, 1, 2, 3, 4, 5, 6, 7, 8] rfl
              have hD := kpermD (X := [(a1, .inl (cI, 60, .inl v)), (a3, .inl (cI, 60, .inl aa9)), (a4, .inl (cI, 12, .inl gg9)), (a5, .inl (cI, 61, .inl cc9)), (a6, .inl (cI, 61, .inl dd9)), (a7, .inl (cI, 61, .inl ee9)), (a8, .inl (cI, 6, .inl (kq (nI n) (nI len) (nI ll) pen bf bl))), (a9, .inl (cI, 60, .inl r3)), (aA, .inl (cI, 60, .inl o3)), (a2, .inl (cI, 60, .inl hf))]) (X' := [(a1, .inl (cI, 60, .inl v)), (a2, .inl (cI, 60, .inl hf)), (a3, .inl (cI, 60, .inl aa9)), (a4, .inl (cI, 12, .inl gg9)), (a5, .inl (cI, 61, .inl cc9)), (a6, .inl (cI, 61, .inl dd9)), (a7, .inl (cI, 61, .inl ee9)), (a8, .inl (cI, 6, .inl (kq (nI n) (nI len) (nI ll) pen bf bl))), (a9, .inl (cI, 60, .inl r3)), (aA, .inl (cI, 60, .inl o3))]) hD [0, 9, 1, 2, 3, 4, 5, 6, 7, 8] (by decide +kernel) rfl
              have hP : va_P D vwCl ([(a1, .inl (cI, 60, .inl v)), (a2, .inl (cI, 60, .inl hf)), (a3, .inl (cI, 60, .inl aa9)), (a4, .inl (cI, 12, .inl gg9)), (a5, .inl (cI, 61, .inl cc9)), (a6, .inl (cI, 61, .inl dd9)), (a7, .inl (cI, 61, .inl ee9)), (a8, .inl (cI, 6, .inl (kq (nI n) (nI len) (nI ll) pen bf bl))), (a9, .inl (cI, 60, .inl r3)), (aA, .inl (cI, 60, .inl o3))] ++ w7) H := hP
              have hD : va_D A ([(a1, .inl (cI, 60, .inl v)), (a2, .inl (cI, 60, .inl hf)), (a3, .inl (cI, 60, .inl aa9)), (a4, .inl (cI, 12, .inl gg9)), (a5, .inl (cI, 61, .inl cc9)), (a6, .inl (cI, 61, .inl dd9)), (a7, .inl (cI, 61, .inl ee9)), (a8, .inl (cI, 6, .inl (kq (nI n) (nI len) (nI ll) pen bf bl))), (a9, .inl (cI, 60, .inl r3)), (aA, .inl (cI, 60, .inl o3))] ++ w7) := hD
              have hr9 : r_21 = kMed (kseg o3 hf 0 n) := hw
              refine wt_i hr9 ?_
              refine wt_i (y := kDev v hf n len ll pen) (show _ = kDev v hf n len ll pen from (by unfold kDev; exact congrArg kMed (kseg_congr (fun k _ q9 => ho3 k q9)))) ?_
              refine lv_istore (lv' := [(15, .int (kDev v hf n len ll pen)), (14, .int (kLast v hf n len ll pen)), (13, .int (nI 1)), (12, .int (kBase v hf n)), (0, .ref o6), (1, .int z), (2, .ref a1), (3, .ref a2), (4, .ref a3), (5, .ref a4), (6, .ref a5), (7, .ref a6), (8, .ref a7), (9, .ref a8), (10, .ref a9), (11, .ref aA)]) hx hb dL_isSo_298 hl (by decide) rfl (fun ls hl => ?_)
              refine wl_join (pc2 := 334) (fun (stk : List Value) (H : Heap) (locs : List Loc) (ls : Array Slot) => stk = [.int (kBound v hf n len ll pen bf bl)] ∧ va_P D vwCl ([(a1, .inl (cI, 60, .inl v)), (a2, .inl (cI, 60, .inl hf)), (a3, .inl (cI, 60, .inl aa9)), (a4, .inl (cI, 12, .inl gg9)), (a5, .inl (cI, 61, .inl cc9)), (a6, .inl (cI, 61, .inl dd9)), (a7, .inl (cI, 61, .inl ee9)), (a8, .inl (cI, 6, .inl (kq (nI n) (nI len) (nI ll) pen bf bl))), (a9, .inl (cI, 60, .inl r3)), (aA, .inl (cI, 60, .inl o3))] ++ w7) H ∧ va_D A ([(a1, .inl (cI, 60, .inl v)), (a2, .inl (cI, 60, .inl hf)), (a3, .inl (cI, 60, .inl aa9)), (a4, .inl (cI, 12, .inl gg9)), (a5, .inl (cI, 61, .inl cc9)), (a6, .inl (cI, 61, .inl dd9)), (a7, .inl (cI, 61, .inl ee9)), (a8, .inl (cI, 6, .inl (kq (nI n) (nI len) (nI ll) pen bf bl))), (a9, .inl (cI, 60, .inl r3)), (aA, .inl (cI, 60, .inl o3))] ++ w7) ∧ va_S A s.heap H locs ∧ lv_has ls 23 [(15, .int (kDev v hf n len ll pen)), (14, .int (kLast v hf n len ll pen)), (13, .int (nI 1)), (12, .int (kBase v hf n)), (0, .ref o6), (1, .int z), (2, .ref a1), (3, .ref a2), (4, .ref a3), (5, .ref a4), (6, .ref a5), (7, .ref a6), (8, .ref a7), (9, .ref a8), (10, .ref a9), (11, .ref aA)]) ?_ (fun j_23 => ?_)
              · skip
                rintro stk H locs ls ⟨rfl, hP, hD, hS, hl⟩
                refine lv_istore (lv' := [(16, .int (kBound v hf n len ll pen bf bl)), (15, .int (kDev v hf n len ll pen)), (14, .int (kLast v hf n len ll pen)), (13, .int (nI 1)), (12, .int (kBase v hf n)), (0, .ref o6), (1, .int z), (2, .ref a1), (3, .ref a2), (4, .ref a3), (5, .ref a4), (6, .ref a5), (7, .ref a6), (8, .ref a7), (9, .ref a8), (10, .ref a9), (11, .ref aA)]) hx hb dL_isSo_334 hl (by decide) rfl (fun ls hl => ?_)
                refine lv_iconst (v := nI 0) hx hb dL_isSo_336 (by decide) ?_
                refine lv_istore (lv' := [(17, .int (nI 0)), (16, .int (kBound v hf n len ll pen bf bl)), (15, .int (kDev v hf n len ll pen)), (14, .int (kLast v hf n len ll pen)), (13, .int (nI 1)), (12, .int (kBase v hf n)), (0, .ref o6), (1, .int z), (2, .ref a1), (3, .ref a2), (4, .ref a3), (5, .ref a4), (6, .ref a5), (7, .ref a6), (8, .ref a7), (9, .ref a8), (10, .ref a9), (11, .ref aA)]) hx hb dL_isSo_337 hl (by decide) rfl (fun ls hl => ?_)
                refine lv_iconst (v := nI 0) hx hb dL_isSo_339 (by decide) ?_
                refine lv_istore (lv' := [(18, .int (nI 0)), (17, .int (nI 0)), (16, .int (kBound v hf n len ll pen bf bl)), (15, .int (kDev v hf n len ll pen)), (14, .int (kLast v hf n len ll pen)), (13, .int (nI 1)), (12, .int (kBase v hf n)), (0, .ref o6), (1, .int z), (2, .ref a1), (3, .ref a2), (4, .ref a3), (5, .ref a4), (6, .ref a5), (7, .ref a6), (8, .ref a7), (9, .ref a8), (10, .ref a9), (11, .ref aA)]) hx hb dL_isSo_340 hl (by decide) rfl (fun ls hl => ?_)
                refine wl_loop (fun (d9 : Nat) (H : Heap) (locs : List Loc) (ls : Array Slot) => ∃ (k : Nat) (w7 : va_W), d9 = n - k ∧ (k ≤ n) ∧ (kSt cI cZ v hf n len ll pen bf bl 0 o6 w7) ∧ va_P D vwCl ([(a1, .inl (cI, 60, .inl v)), (a2, .inl (cI, 60, .inl hf)), (a3, .inl (cI, 60, .inl aa9)), (a4, .inl (cI, 12, .inl gg9)), (a5, .inl (cI, 61, .inl cc9)), (a6, .inl (cI, 61, .inl dd9)), (a7, .inl (cI, 61, .inl ee9)), (a8, .inl (cI, 6, .inl (kq (nI n) (nI len) (nI ll) pen bf bl))), (a9, .inl (cI, 60, .inl r3)), (aA, .inl (cI, 60, .inl o3))] ++ w7) H ∧ va_D A ([(a1, .inl (cI, 60, .inl v)), (a2, .inl (cI, 60, .inl hf)), (a3, .inl (cI, 60, .inl aa9)), (a4, .inl (cI, 12, .inl gg9)), (a5, .inl (cI, 61, .inl cc9)), (a6, .inl (cI, 61, .inl dd9)), (a7, .inl (cI, 61, .inl ee9)), (a8, .inl (cI, 6, .inl (kq (nI n) (nI len) (nI ll) pen bf bl))), (a9, .inl (cI, 60, .inl r3)), (aA, .inl (cI, 60, .inl o3))] ++ w7) ∧ va_S A s.heap H locs ∧ lv_has ls 23 [(18, .int (nI k)), (17, .int (nI (kAnom (kVerd v hf n len ll pen bf bl) k))), (16, .int (kBound v hf n len ll pen bf bl)), (15, .int (kDev v hf n len ll pen)), (14, .int (kLast v hf n len ll pen)), (13, .int (nI 1)), (12, .int (kBase v hf n)), (0, .ref o6), (1, .int z), (2, .ref a1), (3, .ref a2), (4, .ref a3), (5, .ref a4), (6, .ref a5), (7, .ref a6), (8, .ref a7), (9, .ref a8), (10, .ref a9), (11, .ref aA)]) ?_ _ ⟨0, _, rfl, Nat.zero_le _, hst, hP, hD, hS, lv_sub hl [0, 1, 2, 3, 4, 5, 6, 7, 8, 9, 10, 11, 12, 13, 14, 15, 16, 17, 18] rfl⟩
                rintro d_25 H locs ls ⟨k, w7, hd_26, hk, hst, hP, hD, hS, hl⟩ ih_24
                refine lv_iload hx hb dL_isSo_342 (lv_at hl 0 rfl) ?_
                refine lv_aload hx hb dL_isSo_344 (lv_at hl 16 rfl) ?_
                refine lv_iconst (v := nI 0) hx hb dL_isSo_346 (by decide) ?_
                refine va_iald (D := D) hx hb hK hP 7 0 rfl rfl (vp_in_nI (by omega) (by decide)) dL_isSo_347 ?_
                refine wt_i (by rw [nI_clamp (n := 0) (by omega)]) ?_
                refine wt_i (y := nI n) rfl ?_
                refine lv_icmp_ge (tgt := 446) hx hb dL_isSo_348 (by decide) (fun c348 => ?_) (fun c348 => ?_)
                · skip
                  have c348 := kle (a := n) (b := k) c348 (by omega) (by omega)
                  have ek : k = n := by omega
                  rw [ek] at hl
                  have hml9 : n % len < len := Nat.mod_lt n (by omega)
                  refine lv_iload hx hb dL_isSo_446 (lv_at hl 4 rfl) ?_
                  refine lv_aload hx hb dL_isSo_448 (lv_at hl 12 rfl) ?_
                  refine lv_aload hx hb dL_isSo_450 (lv_at hl 16 rfl) ?_
                  refine lv_iconst (v := nI 0) hx hb dL_isSo_452 (by decide) ?_
                  refine va_iald (D := D) hx hb hK hP 7 0 rfl rfl (vp_in_nI (by omega) (by decide)) dL_isSo_453 ?_
                  refine wt_i (by rw [nI_clamp (n := 0) (by omega)]) ?_
                  refine wt_i (y := nI n) rfl ?_
                  refine lv_aload hx hb dL_isSo_454 (lv_at hl 16 rfl) ?_
                  refine lv_iconst (v := nI 1) hx hb dL_isSo_456 (by decide) ?_
                  refine va_iald (D := D) hx hb hK hP 7 0 rfl rfl (vp_in_nI (by omega) (by decide)) dL_isSo_457 ?_
                  refine wt_i (by rw [nI_clamp (n := 1) (by omega)]) ?_
                  refine wt_i (y := nI len) rfl ?_
                  refine lv_irem hx hb dL_isSo_458 (nI_ne0 (by omega) (by omega)) ?_
                  refine wt_i (pk_rem (by omega) (by omega) (by omega)) ?_
                  refine va_iald (D := D) hx hb hK hP 3 0 rfl rfl (vp_in_nI (by omega) (by decide)) dL_isSo_459 ?_
                  refine wt_i (by rw [nI_clamp (n := (n % len)) (by omega)]) ?_
                  refine wt_i (y := kSeas v hf n len (n % len)) (show _ = kSeas v hf n len (n % len) from hgs _ hml9) ?_
                  refine lv_iadd hx hb dL_isSo_460 ?_
                  refine wt_i (y := kExp v hf n len ll pen) (show _ = kExp v hf n len ll pen from rfl) ?_
                  refine lv_istore (lv' := [(18, .int (kExp v hf n len ll pen)), (17, .int (nI (kAnom (kVerd v hf n len ll pen bf bl) n))), (16, .int (kBound v hf n len ll pen bf bl)), (15, .int (kDev v hf n len ll pen)), (14, .int (kLast v hf n len ll pen)), (13, .int (nI 1)), (12, .int (kBase v hf n)), (0, .ref o6), (1, .int z), (2, .ref a1), (3, .ref a2), (4, .ref a3), (5, .ref a4), (6, .ref a5), (7, .ref a6), (8, .ref a7), (9, .ref a8), (10, .ref a9), (11, .ref aA)]) hx hb dL_isSo_461 hl (by decide) rfl (fun ls hl => ?_)
                  refine lv_iload hx hb dL_isSo_463 (lv_at hl 0 rfl) ?_
                  refine lv_iload hx hb dL_isSo_465 (lv_at hl 2 rfl) ?_
                  refine lv_iadd hx hb dL_isSo_467 ?_
                  refine lv_iload_n hx hb dL_isSo_468 rfl (lv_at hl 8 rfl) ?_
                  refine lv_iconst (v := nI 3) hx hb dL_isSo_469 (by decide) ?_
                  refine klhi (X := [(a1, .inl (cI, 60, .inl v)), (a2, .inl (cI, 60, .inl hf)), (a3, .inl (cI, 60, .inl aa9)), (a4, .inl (cI, 12, .inl gg9)), (a5, .inl (cI, 61, .inl cc9)), (a6, .inl (cI, 61, .inl dd9)), (a7, .inl (cI, 61, .inl ee9)), (a8, .inl (cI, 6, .inl (kq (nI n) (nI len) (nI ll) pen bf bl))), (a9, .inl (cI, 60, .inl r3)), (aA, .inl (cI, 60, .inl o3))]) (pl := w7) (wr := [(a1, .inl (cI, 60, .inl v)), (a2, .inl (cI, 60, .inl hf)), (a3, .inl (cI, 60, .inl aa9)), (a4, .inl (cI, 12, .inl gg9)), (a5, .inl (cI, 61, .inl cc9)), (a6, .inl (cI, 61, .inl dd9)), (a7, .inl (cI, 61, .inl ee9)), (a8, .inl (cI, 6, .inl (kq (nI n) (nI len) (nI ll) pen bf bl))), (a9, .inl (cI, 60, .inl r3)), (aA, .inl (cI, 60, .inl o3))]) (pre := []) (va_runS (As := [.int z, .int (nI 3)]) (rest := [.int ((kExp v hf n len ll pen) + (kBound v hf n len ll pen bf bl))]) ⟨hx, hb, hml, hown, hts⟩ (c_L_low l D cI cZ cJ H.size z 3 (by first | assumption | omega) (by first | assumption | omega)) (va_cwS 2 hts gL_isSo_L_low rfl rfl rfl (by decide +kernel) ⟨Nat.le_of_ble_eq_true rfl, Nat.le_of_ble_eq_true rfl⟩) (kpreH hK hP hD [] (by decide +kernel) rfl) rfl rfl hl.1 rfl (lv_room (Nat.le_of_ble_eq_true rfl)) dL_isSo_470 ⟨Nat.le_of_ble_eq_true rfl, Nat.le_of_ble_eq_true rfl⟩) hP hD hS hA [] [0, 1, 2, 3, 4, 5, 6, 7, 8, 9] rfl rfl (by decide +kernel) (by decide +kernel) (fun r_27 kA H locs hw hP hD hS => ?_)
                  have hP : va_P D vwCl ([(a1, .inl (cI, 60, .inl v)), (a2, .inl (cI, 60, .inl hf)), (a3, .inl (cI, 60, .inl aa9)), (a4, .inl (cI, 12, .inl gg9)), (a5, .inl (cI, 61, .inl cc9)), (a6, .inl (cI, 61, .inl dd9)), (a7, .inl (cI, 61, .inl ee9)), (a8, .inl (cI, 6, .inl (kq (nI n) (nI len) (nI ll) pen bf bl))), (a9, .inl (cI, 60, .inl r3)), (aA, .inl (cI, 60, .inl o3))] ++ w7) H := hP
                  have hD : va_D A ([(a1, .inl (cI, 60, .inl v)), (a2, .inl (cI, 60, .inl hf)), (a3, .inl (cI, 60, .inl aa9)), (a4, .inl (cI, 12, .inl gg9)), (a5, .inl (cI, 61, .inl cc9)), (a6, .inl (cI, 61, .inl dd9)), (a7, .inl (cI, 61, .inl ee9)), (a8, .inl (cI, 6, .inl (kq (nI n) (nI len) (nI ll) pen bf bl))), (a9, .inl (cI, 60, .inl r3)), (aA, .inl (cI, 60, .inl o3))] ++ w7) := hD
                  have hw : r_27 = nI kA ∧ (kA = klow z 3 ∧ kA < 3) := hw
                  obtain ⟨hr9, hkA⟩ := hw
                  refine wt_i hr9 ?_
                  refine lv_iadd hx hb dL_isSo_473 ?_
                  refine lv_iconst (v := nI 1) hx hb dL_isSo_474 (by decide) ?_
                  refine lv_isub hx hb dL_isSo_475 ?_
                  refine lv_istore (lv' := [(19, .int ((((kExp v hf n len ll pen) + (kBound v hf n len ll pen bf bl)) + (nI kA)) - (nI 1))), (18, .int (kExp v hf n len ll pen)), (17, .int (nI (kAnom (kVerd v hf n len ll pen bf bl) n))), (16, .int (kBound v hf n len ll pen bf bl)), (15, .int (kDev v hf n len ll pen)), (14, .int (kLast v hf n len ll pen)), (13, .int (nI 1)), (12, .int (kBase v hf n)), (0, .ref o6), (1, .int z), (2, .ref a1), (3, .ref a2), (4, .ref a3), (5, .ref a4), (6, .ref a5), (7, .ref a6), (8, .ref a7), (9, .ref a8), (10, .ref a9), (11, .ref aA)]) hx hb dL_isSo_476 hl (by decide) rfl (fun ls hl => ?_)
                  obtain ⟨as9, eas⟩ : ∃ as9 : Int32, as9 = (((kExp v hf n len ll pen) + (kBound v hf n len ll pen bf bl)) + (nI kA)) - (nI 1) := ⟨_, rfl⟩
                  rw [← eas] at hl
                  refine lv_iload hx hb dL_isSo_478 (lv_at hl 1 rfl) ?_
                  refine lv_iload hx hb dL_isSo_480 (lv_at hl 3 rfl) ?_
                  refine lv_isub hx hb dL_isSo_482 ?_
                  refine lv_iload_n hx hb dL_isSo_483 rfl (lv_at hl 9 rfl) ?_
                  refine lv_iconst (v := nI 2) hx hb dL_isSo_484 (by decide) ?_
                  refine lv_ishr hx hb dL_isSo_485 ?_
                  refine lv_iconst (v := nI 3) hx hb dL_isSo_486 (by decide) ?_
                  refine klhi (X := [(a1, .inl (cI, 60, .inl v)), (a2, .inl (cI, 60, .inl hf)), (a3, .inl (cI, 60, .inl aa9)), (a4, .inl (cI, 12, .inl gg9)), (a5, .inl (cI, 61, .inl cc9)), (a6, .inl (cI, 61, .inl dd9)), (a7, .inl (cI, 61, .inl ee9)), (a8, .inl (cI, 6, .inl (kq (nI n) (nI len) (nI ll) pen bf bl))), (a9, .inl (cI, 60, .inl r3)), (aA, .inl (cI, 60, .inl o3))]) (pl := w7) (wr := [(a1, .inl (cI, 60, .inl v)), (a2, .inl (cI, 60, .inl hf)), (a3, .inl (cI, 60, .inl aa9)), (a4, .inl (cI, 12, .inl gg9)), (a5, .inl (cI, 61, .inl cc9)), (a6, .inl (cI, 61, .inl dd9)), (a7, .inl (cI, 61, .inl ee9)), (a8, .inl (cI, 6, .inl (kq (nI n) (nI len) (nI ll) pen bf bl))), (a9, .inl (cI, 60, .inl r3)), (aA, .inl (cI, 60, .inl o3))]) (pre := []) (va_runS (As := [.int (z >>> (nI 2 &&& 31)), .int (nI 3)]) (rest := [.int ((kExp v hf n len ll pen) - (kBound v hf n len ll pen bf bl))]) ⟨hx, hb, hml, hown, hts⟩ (c_L_low l D cI cZ cJ H.size (z >>> (nI 2 &&& 31)) 3 (by first | assumption | omega) (by first | assumption | omega)) (va_cwS 2 hts gL_isSo_L_low rfl rfl rfl (by decide +kernel) ⟨Nat.le_of_ble_eq_true rfl, Nat.le_of_ble_eq_true rfl⟩) (kpreH hK hP hD [] (by decide +kernel) rfl) rfl rfl hl.1 rfl (lv_room (Nat.le_of_ble_eq_true rfl)) dL_isSo_487 ⟨Nat.le_of_ble_eq_true rfl, Nat.le_of_ble_eq_true rfl⟩) hP hD hS hA [] [0, 1, 2, 3, 4, 5, 6, 7, 8, 9] rfl rfl (by decide +kernel) (by decide +kernel) (fun r_28 kB H locs hw hP hD hS => ?_)
                  have hP : va_P D vwCl ([(a1, .inl (cI, 60, .inl v)), (a2, .inl (cI, 60, .inl hf)), (a3, .inl (cI, 60, .inl aa9)), (a4, .inl (cI, 12, .inl gg9)), (a5, .inl (cI, 61, .inl cc9)), (a6, .inl (cI, 61, .inl dd9)), (a7, .inl (cI, 61, .inl ee9)), (a8, .inl (cI, 6, .inl (kq (nI n) (nI len) (nI ll) pen bf bl))), (a9, .inl (cI, 60, .inl r3)), (aA, .inl (cI, 60, .inl o3))] ++ w7) H := hP
                  have hD : va_D A ([(a1, .inl (cI, 60, .inl v)), (a2, .inl (cI, 60, .inl hf)), (a3, .inl (cI, 60, .inl aa9)), (a4, .inl (cI, 12, .inl gg9)), (a5, .inl (cI, 61, .inl cc9)), (a6, .inl (cI, 61, .inl dd9)), (a7, .inl (cI, 61, .inl ee9)), (a8, .inl (cI, 6, .inl (kq (nI n) (nI len) (nI ll) pen bf bl))), (a9, .inl (cI, 60, .inl r3)), (aA, .inl (cI, 60, .inl o3))] ++ w7) := hD
                  have hw : r_28 = nI kB ∧ (kB = klow (z >>> (nI 2 &&& 31)) 3 ∧ kB < 3) := hw
                  obtain ⟨hr9, hkB⟩ := hw
                  refine wt_i hr9 ?_
                  refine lv_isub hx hb dL_isSo_490 ?_
                  refine lv_iconst (v := nI 1) hx hb dL_isSo_491 (by decide) ?_
                  refine lv_iadd hx hb dL_isSo_492 ?_
                  refine lv_istore (lv' := [(20, .int ((((kExp v hf n len ll pen) - (kBound v hf n len ll pen bf bl)) - (nI kB)) + (nI 1))), (19, .int as9), (18, .int (kExp v hf n len ll pen)), (17, .int (nI (kAnom (kVerd v hf n len ll pen bf bl) n))), (16, .int (kBound v hf n len ll pen bf bl)), (15, .int (kDev v hf n len ll pen)), (14, .int (kLast v hf n len ll pen)), (13, .int (nI 1)), (12, .int (kBase v hf n)), (0, .ref o6), (1, .int z), (2, .ref a1), (3, .ref a2), (4, .ref a3), (5, .ref a4), (6, .ref a5), (7, .ref a6), (8, .ref a7), (9, .ref a8), (10, .ref a9), (11, .ref aA)]) hx hb dL_isSo_493 hl (by decide) rfl (fun ls hl => ?_)
                  obtain ⟨lo9, elo⟩ : ∃ lo9 : Int32, lo9 = ((((kExp v hf n len ll pen) - (kBound v hf n len ll pen bf bl)) - (nI kB)) + (nI 1)) := ⟨_, rfl⟩
                  rw [← elo] at hl
                  refine lv_iload_n hx hb dL_isSo_495 rfl (lv_at hl 10 rfl) ?_
                  refine lv_iconst (v := nI 4) hx hb dL_isSo_496 (by decide) ?_
                  refine lv_ishr hx hb dL_isSo_497 ?_
                  refine lv_aload hx hb dL_isSo_498 (lv_at hl 18 rfl) ?_
                  refine lv_iconst (v := nI 0) hx hb dL_isSo_500 (by decide) ?_
                  refine va_iald (D := D) hx hb hK hP 7 0 rfl rfl (vp_in_nI (by omega) (by decide)) dL_isSo_501 ?_
                  refine wt_i (by rw [nI_clamp (n := 0) (by omega)]) ?_
                  refine wt_i (y := nI n) rfl ?_
                  refine lv_iconst (v := nI 2) hx hb dL_isSo_502 (by decide) ?_
                  refine lv_iadd hx hb dL_isSo_503 ?_
                  refine wt_i (nI_add _ _) ?_
                  refine klhi (X := [(a1, .inl (cI, 60, .inl v)), (a2, .inl (cI, 60, .inl hf)), (a3, .inl (cI, 60, .inl aa9)), (a4, .inl (cI, 12, .inl gg9)), (a5, .inl (cI, 61, .inl cc9)), (a6, .inl (cI, 61, .inl dd9)), (a7, .inl (cI, 61, .inl ee9)), (a8, .inl (cI, 6, .inl (kq (nI n) (nI len) (nI ll) pen bf bl))), (a9, .inl (cI, 60, .inl r3)), (aA, .inl (cI, 60, .inl o3))]) (pl := w7) (wr := [(a1, .inl (cI, 60, .inl v)), (a2, .inl (cI, 60, .inl hf)), (a3, .inl (cI, 60, .inl aa9)), (a4, .inl (cI, 12, .inl gg9)), (a5, .inl (cI, 61, .inl cc9)), (a6, .inl (cI, 61, .inl dd9)), (a7, .inl (cI, 61, .inl ee9)), (a8, .inl (cI, 6, .inl (kq (nI n) (nI len) (nI ll) pen bf bl))), (a9, .inl (cI, 60, .inl r3)), (aA, .inl (cI, 60, .inl o3))]) (pre := []) (va_runS (As := [.int (z >>> (nI 4 &&& 31)), .int (nI (n + 2))]) (rest := []) ⟨hx, hb, hml, hown, hts⟩ (c_L_low l D cI cZ cJ H.size (z >>> (nI 4 &&& 31)) (n + 2) (by first | assumption | omega) (by first | assumption | omega)) (va_cwS 2 hts gL_isSo_L_low rfl rfl rfl (by decide +kernel) ⟨Nat.le_of_ble_eq_true rfl, Nat.le_of_ble_eq_true rfl⟩) (kpreH hK hP hD [] (by decide +kernel) rfl) rfl rfl hl.1 rfl (lv_room (Nat.le_of_ble_eq_true rfl)) dL_isSo_504 ⟨Nat.le_of_ble_eq_true rfl, Nat.le_of_ble_eq_true rfl⟩) hP hD hS hA [] [0, 1, 2, 3, 4, 5, 6, 7, 8, 9] rfl rfl (by decide +kernel) (by decide +kernel) (fun r_29 ct H locs hw hP hD hS => ?_)
                  have hP : va_P D vwCl ([(a1, .inl (cI, 60, .inl v)), (a2, .inl (cI, 60, .inl hf)), (a3, .inl (cI, 60, .inl aa9)), (a4, .inl (cI, 12, .inl gg9)), (a5, .inl (cI, 61, .inl cc9)), (a6, .inl (cI, 61, .inl dd9)), (a7, .inl (cI, 61, .inl ee9)), (a8, .inl (cI, 6, .inl (kq (nI n) (nI len) (nI ll) pen bf bl))), (a9, .inl (cI, 60, .inl r3)), (aA, .inl (cI, 60, .inl o3))] ++ w7) H := hP
                  have hD : va_D A ([(a1, .inl (cI, 60, .inl v)), (a2, .inl (cI, 60, .inl hf)), (a3, .inl (cI, 60, .inl aa9)), (a4, .inl (cI, 12, .inl gg9)), (a5, .inl (cI, 61, .inl cc9)), (a6, .inl (cI, 61, .inl dd9)), (a7, .inl (cI, 61, .inl ee9)), (a8, .inl (cI, 6, .inl (kq (nI n) (nI len) (nI ll) pen bf bl))), (a9, .inl (cI, 60, .inl r3)), (aA, .inl (cI, 60, .inl o3))] ++ w7) := hD
                  have hw : r_29 = nI ct ∧ (ct = klow (z >>> (nI 4 &&& 31)) (n + 2) ∧ ct < (n + 2)) := hw
                  obtain ⟨hr9, hct⟩ := hw
                  refine wt_i hr9 ?_
                  have hct2 := hct.2
                  refine lv_istore (lv' := [(21, .int (nI ct)), (20, .int lo9), (19, .int as9), (18, .int (kExp v hf n len ll pen)), (17, .int (nI (kAnom (kVerd v hf n len ll pen bf bl) n))), (16, .int (kBound v hf n len ll pen bf bl)), (15, .int (kDev v hf n len ll pen)), (14, .int (kLast v hf n len ll pen)), (13, .int (nI 1)), (12, .int (kBase v hf n)), (0, .ref o6), (1, .int z), (2, .ref a1), (3, .ref a2), (4, .ref a3), (5, .ref a4), (6, .ref a5), (7, .ref a6), (8, .ref a7), (9, .ref a8), (10, .ref a9), (11, .ref aA)]) hx hb dL_isSo_507 hl (by decide) rfl (fun ls hl => ?_)
                  refine wl_join (pc2 := 583) (fun (stk : List Value) (H : Heap) (locs : List Loc) (ls : Array Slot) => ∃ (dv : Int32), stk = [.int dv] ∧ (dv = kDue (kCost (kAdj v hf n len) hf) n ll ct pen) ∧ va_P D vwCl ([(a1, .inl (cI, 60, .inl v)), (a2, .inl (cI, 60, .inl hf)), (a3, .inl (cI, 60, .inl aa9)), (a4, .inl (cI, 12, .inl gg9)), (a5, .inl (cI, 61, .inl cc9)), (a6, .inl (cI, 61, .inl dd9)), (a7, .inl (cI, 61, .inl ee9)), (a8, .inl (cI, 6, .inl (kq (nI n) (nI len) (nI ll) pen bf bl))), (a9, .inl (cI, 60, .inl r3)), (aA, .inl (cI, 60, .inl o3))] ++ w7) H ∧ va_D A ([(a1, .inl (cI, 60, .inl v)), (a2, .inl (cI, 60, .inl hf)), (a3, .inl (cI, 60, .inl aa9)), (a4, .inl (cI, 12, .inl gg9)), (a5, .inl (cI, 61, .inl cc9)), (a6, .inl (cI, 61, .inl dd9)), (a7, .inl (cI, 61, .inl ee9)), (a8, .inl (cI, 6, .inl (kq (nI n) (nI len) (nI ll) pen bf bl))), (a9, .inl (cI, 60, .inl r3)), (aA, .inl (cI, 60, .inl o3))] ++ w7) ∧ va_S A s.heap H locs ∧ lv_has ls 23 [(21, .int (nI ct)), (20, .int lo9), (19, .int as9), (18, .int (kExp v hf n len ll pen)), (17, .int (nI (kAnom (kVerd v hf n len ll pen bf bl) n))), (16, .int (kBound v hf n len ll pen bf bl)), (15, .int (kDev v hf n len ll pen)), (14, .int (kLast v hf n len ll pen)), (13, .int (nI 1)), (12, .int (kBase v hf n)), (0, .ref o6), (1, .int z), (2, .ref a1), (3, .ref a2), (4, .ref a3), (5, .ref a4), (6, .ref a5), (7, .ref a6), (8, .ref a7), (9, .ref a8), (10, .ref a9), (11, .ref aA)]) ?_ (fun j_30 => ?_)
                  · skip
                    rintro stk H locs ls ⟨dv, rfl, hdv, hP, hD, hS, hl⟩
                    subst hdv
                    refine lv_istore (lv' := [(22, .int (kDue (kCost (kAdj v hf n len) hf) n ll ct pen)), (21, .int (nI ct)), (20, .int lo9), (19, .int as9), (18, .int (kExp v hf n len ll pen)), (17, .int (nI (kAnom (kVerd v hf n len ll pen bf bl) n))), (16, .int (kBound v hf n len ll pen bf bl)), (15, .int (kDev v hf n len ll pen)), (14, .int (kLast v hf n len ll pen)), (13, .int (nI 1)), (12, .int (kBase v hf n)), (0, .ref o6), (1, .int z), (2, .ref a1), (3, .ref a2), (4, .ref a3), (5, .ref a4), (6, .ref a5), (7, .ref a6), (8, .ref a7), (9, .ref a8), (10, .ref a9), (11, .ref aA)]) hx hb dL_isSo_583 hl (by decide) rfl (fun ls hl => ?_)
                    refine lv_iload hx hb dL_isSo_585 (lv_at hl 9 rfl) ?_
                    refine lv_if_eq (tgt := 717) hx hb dL_isSo_587 (by decide) (fun c587 => ?_) (fun c587 => ?_)
                    · skip
                      have c587 := keq (a := 1) (b := 0) c587 (by omega) (by omega)
                      exact absurd c587 (by decide)
                    · skip
                      have c587 := kneq (a := 1) (b := 0) c587 (by omega) (by omega)
                      refine lv_aload_n hx hb dL_isSo_590 rfl (lv_at hl 11 rfl) ?_
                      refine klci (X := [(a1, .inl (cI, 60, .inl v)), (a2, .inl (cI, 60, .inl hf)), (a3, .inl (cI, 60, .inl aa9)), (a4, .inl (cI, 12, .inl gg9)), (a5, .inl (cI, 61, .inl cc9)), (a6, .inl (cI, 61, .inl dd9)), (a7, .inl (cI, 61, .inl ee9)), (a8, .inl (cI, 6, .inl (kq (nI n) (nI len) (nI ll) pen bf bl))), (a9, .inl (cI, 60, .inl r3)), (aA, .inl (cI, 60, .inl o3))]) (pl := w7) (va_runV (As := []) (rest := []) ⟨hx, hb, hml, hown, hts⟩ (c_X6_deviation l D cI cZ cJ H.size v hf n len ll pen bf bl o6 w7 hok hst) (cwV 0 hts gL_isSo_X6_deviation rfl rfl rfl (by decide +kernel) ⟨Nat.le_of_ble_eq_true rfl, Nat.le_of_ble_eq_true rfl⟩) (kpreL hK hP hD rfl (kSt_recv hst)) rfl rfl hl.1 rfl (lv_room (Nat.le_of_ble_eq_true rfl)) dL_isSo_591 ⟨Nat.le_of_ble_eq_true rfl, Nat.le_of_ble_eq_true rfl⟩) hP hD hS hA (fun r_31 w_32 H locs hw hP hD hS => ?_)
                      obtain ⟨hr9, hst⟩ := hw
                      have hP : va_P D vwCl ([(a1, .inl (cI, 60, .inl v)), (a2, .inl (cI, 60, .inl hf)), (a3, .inl (cI, 60, .inl aa9)), (a4, .inl (cI, 12, .inl gg9)), (a5, .inl (cI, 61, .inl cc9)), (a6, .inl (cI, 61, .inl dd9)), (a7, .inl (cI, 61, .inl ee9)), (a8, .inl (cI, 6, .inl (kq (nI n) (nI len) (nI ll) pen bf bl))), (a9, .inl (cI, 60, .inl r3)), (aA, .inl (cI, 60, .inl o3))] ++ w_32) H := hP
                      have hD : va_D A ([(a1, .inl (cI, 60, .inl v)), (a2, .inl (cI, 60, .inl hf)), (a3, .inl (cI, 60, .inl aa9)), (a4, .inl (cI, 12, .inl gg9)), (a5, .inl (cI, 61, .inl cc9)), (a6, .inl (cI, 61, .inl dd9)), (a7, .inl (cI, 61, .inl ee9)), (a8, .inl (cI, 6, .inl (kq (nI n) (nI len) (nI ll) pen bf bl))), (a9, .inl (cI, 60, .inl r3)), (aA, .inl (cI, 60, .inl o3))] ++ w_32) := hD
                      refine wt_i hr9 ?_
                      refine lv_iload hx hb dL_isSo_594 (lv_at hl 7 rfl) ?_
                      refine lv_icmp_ne (tgt := 717) hx hb dL_isSo_596 (by decide) (fun c596 => ?_) (fun c596 => ?_)
                      · skip
                        exact absurd rfl c596
                      · skip
                        refine lv_aload_n hx hb dL_isSo_599 rfl (lv_at hl 11 rfl) ?_
                        refine klci (X := [(a1, .inl (cI, 60, .inl v)), (a2, .inl (cI, 60, .inl hf)), (a3, .inl (cI, 60, .inl aa9)), (a4, .inl (cI, 12, .inl gg9)), (a5, .inl (cI, 61, .inl cc9)), (a6, .inl (cI, 61, .inl dd9)), (a7, .inl (cI, 61, .inl ee9)), (a8, .inl (cI, 6, .inl (kq (nI n) (nI len) (nI ll) pen bf bl))), (a9, .inl (cI, 60, .inl r3)), (aA, .inl (cI, 60, .inl o3))]) (pl := w_32) (va_runV (As := []) (rest := []) ⟨hx, hb, hml, hown, hts⟩ (c_X6_bound l D cI cZ cJ H.size v hf n len ll pen bf bl o6 w_32 hok hst) (cwV 0 hts gL_isSo_X6_bound rfl rfl rfl (by decide +kernel) ⟨Nat.le_of_ble_eq_true rfl, Nat.le_of_ble_eq_true rfl⟩) (kpreL hK hP hD rfl (kSt_recv hst)) rfl rfl hl.1 rfl (lv_room (Nat.le_of_ble_eq_true rfl)) dL_isSo_600 ⟨Nat.le_of_ble_eq_true rfl, Nat.le_of_ble_eq_true rfl⟩) hP hD hS hA (fun r_34 w_35 H locs hw hP hD hS => ?_)
                        obtain ⟨hr9, hst⟩ := hw
                        have hP : va_P D vwCl ([(a1, .inl (cI, 60, .inl v)), (a2, .inl (cI, 60, .inl hf)), (a3, .inl (cI, 60, .inl aa9)), (a4, .inl (cI, 12, .inl gg9)), (a5, .inl (cI, 61, .inl cc9)), (a6, .inl (cI, 61, .inl dd9)), (a7, .inl (cI, 61, .inl ee9)), (a8, .inl (cI, 6, .inl (kq (nI n) (nI len) (nI ll) pen bf bl))), (a9, .inl (cI, 60, .inl r3)), (aA, .inl (cI, 60, .inl o3))] ++ w_35) H := hP
                        have hD : va_D A ([(a1, .inl (cI, 60, .inl v)), (a2, .inl (cI, 60, .inl hf)), (a3, .inl (cI, 60, .inl aa9)), (a4, .inl (cI, 12, .inl gg9)), (a5, .inl (cI, 61, .inl cc9)), (a6, .inl (cI, 61, .inl dd9)), (a7, .inl (cI, 61, .inl ee9)), (a8, .inl (cI, 6, .inl (kq (nI n) (nI len) (nI ll) pen bf bl))), (a9, .inl (cI, 60, .inl r3)), (aA, .inl (cI, 60, .inl o3))] ++ w_35) := hD
                        refine wt_i hr9 ?_
                        refine lv_iload hx hb dL_isSo_603 (lv_at hl 6 rfl) ?_
                        refine lv_icmp_ne (tgt := 717) hx hb dL_isSo_605 (by decide) (fun c605 => ?_) (fun c605 => ?_)
                        · skip
                          exact absurd rfl c605
                        · skip
                          refine lv_aload_n hx hb dL_isSo_608 rfl (lv_at hl 11 rfl) ?_
                          refine klci (X := [(a1, .inl (cI, 60, .inl v)), (a2, .inl (cI, 60, .inl hf)), (a3, .inl (cI, 60, .inl aa9)), (a4, .inl (cI, 12, .inl gg9)), (a5, .inl (cI, 61, .inl cc9)), (a6, .inl (cI, 61, .inl dd9)), (a7, .inl (cI, 61, .inl ee9)), (a8, .inl (cI, 6, .inl (kq (nI n) (nI len) (nI ll) pen bf bl))), (a9, .inl (cI, 60, .inl r3)), (aA, .inl (cI, 60, .inl o3))]) (pl := w_35) (va_runV (As := []) (rest := []) ⟨hx, hb, hml, hown, hts⟩ (c_X6_anomalies l D cI cZ cJ H.size v hf n len ll pen bf bl o6 w_35 hok hst) (cwV 0 hts gL_isSo_X6_anomalies rfl rfl rfl (by decide +kernel) ⟨Nat.le_of_ble_eq_true rfl, Nat.le_of_ble_eq_true rfl⟩) (kpreL hK hP hD rfl (kSt_recv hst)) rfl rfl hl.1 rfl (lv_room (Nat.le_of_ble_eq_true rfl)) dL_isSo_609 ⟨Nat.le_of_ble_eq_true rfl, Nat.le_of_ble_eq_true rfl⟩) hP hD hS hA (fun r_37 w_38 H locs hw hP hD hS => ?_)
                          obtain ⟨hr9, hst⟩ := hw
                          have hP : va_P D vwCl ([(a1, .inl (cI, 60, .inl v)), (a2, .inl (cI, 60, .inl hf)), (a3, .inl (cI, 60, .inl aa9)), (a4, .inl (cI, 12, .inl gg9)), (a5, .inl (cI, 61, .inl cc9)), (a6, .inl (cI, 61, .inl dd9)), (a7, .inl (cI, 61, .inl ee9)), (a8, .inl (cI, 6, .inl (kq (nI n) (nI len) (nI ll) pen bf bl))), (a9, .inl (cI, 60, .inl r3)), (aA, .inl (cI, 60, .inl o3))] ++ w_38) H := hP
                          have hD : va_D A ([(a1, .inl (cI, 60, .inl v)), (a2, .inl (cI, 60, .inl hf)), (a3, .inl (cI, 60, .inl aa9)), (a4, .inl (cI, 12, .inl gg9)), (a5, .inl (cI, 61, .inl cc9)), (a6, .inl (cI, 61, .inl dd9)), (a7, .inl (cI, 61, .inl ee9)), (a8, .inl (cI, 6, .inl (kq (nI n) (nI len) (nI ll) pen bf bl))), (a9, .inl (cI, 60, .inl r3)), (aA, .inl (cI, 60, .inl o3))] ++ w_38) := hD
                          refine wt_i hr9 ?_
                          refine lv_iload hx hb dL_isSo_612 (lv_at hl 5 rfl) ?_
                          refine lv_icmp_ne (tgt := 717) hx hb dL_isSo_614 (by decide) (fun c614 => ?_) (fun c614 => ?_)
                          · skip
                            exact absurd rfl c614
                          · skip
                            refine lv_aload_n hx hb dL_isSo_617 rfl (lv_at hl 11 rfl) ?_
                            refine klci (X := [(a1, .inl (cI, 60, .inl v)), (a2, .inl (cI, 60, .inl hf)), (a3, .inl (cI, 60, .inl aa9)), (a4, .inl (cI, 12, .inl gg9)), (a5, .inl (cI, 61, .inl cc9)), (a6, .inl (cI, 61, .inl dd9)), (a7, .inl (cI, 61, .inl ee9)), (a8, .inl (cI, 6, .inl (kq (nI n) (nI len) (nI ll) pen bf bl))), (a9, .inl (cI, 60, .inl r3)), (aA, .inl (cI, 60, .inl o3))]) (pl := w_38) (va_runV (As := []) (rest := []) ⟨hx, hb, hml, hown, hts⟩ (c_X6_expected l D cI cZ cJ H.size v hf n len ll pen bf bl o6 w_38 hok hst) (cwV 0 hts gL_isSo_X6_expected rfl rfl rfl (by decide +kernel) ⟨Nat.le_of_ble_eq_true rfl, Nat.le_of_ble_eq_true rfl⟩) (kpreL hK hP hD rfl (kSt_recv hst)) rfl rfl hl.1 rfl (lv_room (Nat.le_of_ble_eq_true rfl)) dL_isSo_618 ⟨Nat.le_of_ble_eq_true rfl, Nat.le_of_ble_eq_true rfl⟩) hP hD hS hA (fun r_40 w_41 H locs hw hP hD hS => ?_)
                            obtain ⟨hr9, hst⟩ := hw
                            have hP : va_P D vwCl ([(a1, .inl (cI, 60, .inl v)), (a2, .inl (cI, 60, .inl hf)), (a3, .inl (cI, 60, .inl aa9)), (a4, .inl (cI, 12, .inl gg9)), (a5, .inl (cI, 61, .inl cc9)), (a6, .inl (cI, 61, .inl dd9)), (a7, .inl (cI, 61, .inl ee9)), (a8, .inl (cI, 6, .inl (kq (nI n) (nI len) (nI ll) pen bf bl))), (a9, .inl (cI, 60, .inl r3)), (aA, .inl (cI, 60, .inl o3))] ++ w_41) H := hP
                            have hD : va_D A ([(a1, .inl (cI, 60, .inl v)), (a2, .inl (cI, 60, .inl hf)), (a3, .inl (cI, 60, .inl aa9)), (a4, .inl (cI, 12, .inl gg9)), (a5, .inl (cI, 61, .inl cc9)), (a6, .inl (cI, 61, .inl dd9)), (a7, .inl (cI, 61, .inl ee9)), (a8, .inl (cI, 6, .inl (kq (nI n) (nI len) (nI ll) pen bf bl))), (a9, .inl (cI, 60, .inl r3)), (aA, .inl (cI, 60, .inl o3))] ++ w_41) := hD
                            refine wt_i hr9 ?_
                            refine lv_iload hx hb dL_isSo_621 (lv_at hl 4 rfl) ?_
                            refine lv_icmp_ne (tgt := 717) hx hb dL_isSo_623 (by decide) (fun c623 => ?_) (fun c623 => ?_)
                            · skip
                              exact absurd rfl c623
                            · skip
                              have hE9 := kExp_in (hf := hf) (len := len) (ll := ll) (pen := pen) hn hvb
                              have hB9 := kBound_in (hf := hf) (len := len) (ll := ll) (pen := pen) hn hvb hbb hfb
                              have hjd := kjudge (x := as9) hE9 hB9
                              have hjd2 := kjudge2 (x := lo9) hE9 hB9
                              refine lv_aload_n hx hb dL_isSo_626 rfl (lv_at hl 11 rfl) ?_
                              refine lv_iload hx hb dL_isSo_627 (lv_at hl 3 rfl) ?_
                              refine klci (X := [(a1, .inl (cI, 60, .inl v)), (a2, .inl (cI, 60, .inl hf)), (a3, .inl (cI, 60, .inl aa9)), (a4, .inl (cI, 12, .inl gg9)), (a5, .inl (cI, 61, .inl cc9)), (a6, .inl (cI, 61, .inl dd9)), (a7, .inl (cI, 61, .inl ee9)), (a8, .inl (cI, 6, .inl (kq (nI n) (nI len) (nI ll) pen bf bl))), (a9, .inl (cI, 60, .inl r3)), (aA, .inl (cI, 60, .inl o3))]) (pl := w_41) (va_runV (As := [.int as9]) (rest := []) ⟨hx, hb, hml, hown, hts⟩ (c_X6_judge l D cI cZ cJ H.size v hf n len ll pen bf bl o6 w_41 as9 hok hst) (cwV 1 hts gL_isSo_X6_judge rfl rfl rfl (by decide +kernel) ⟨Nat.le_of_ble_eq_true rfl, Nat.le_of_ble_eq_true rfl⟩) (kpreL hK hP hD rfl (kSt_recv hst)) rfl rfl hl.1 rfl (lv_room (Nat.le_of_ble_eq_true rfl)) dL_isSo_629 ⟨Nat.le_of_ble_eq_true rfl, Nat.le_of_ble_eq_true rfl⟩) hP hD hS hA (fun r_43 w_44 H locs hw hP hD hS => ?_)
                              obtain ⟨hr9, hst⟩ := hw
                              have hP : va_P D vwCl ([(a1, .inl (cI, 60, .inl v)), (a2, .inl (cI, 60, .inl hf)), (a3, .inl (cI, 60, .inl aa9)), (a4, .inl (cI, 12, .inl gg9)), (a5, .inl (cI, 61, .inl cc9)), (a6, .inl (cI, 61, .inl dd9)), (a7, .inl (cI, 61, .inl ee9)), (a8, .inl (cI, 6, .inl (kq (nI n) (nI len) (nI ll) pen bf bl))), (a9, .inl (cI, 60, .inl r3)), (aA, .inl (cI, 60, .inl o3))] ++ w_44) H := hP
                              have hD : va_D A ([(a1, .inl (cI, 60, .inl v)), (a2, .inl (cI, 60, .inl hf)), (a3, .inl (cI, 60, .inl aa9)), (a4, .inl (cI, 12, .inl gg9)), (a5, .inl (cI, 61, .inl cc9)), (a6, .inl (cI, 61, .inl dd9)), (a7, .inl (cI, 61, .inl ee9)), (a8, .inl (cI, 6, .inl (kq (nI n) (nI len) (nI ll) pen bf bl))), (a9, .inl (cI, 60, .inl r3)), (aA, .inl (cI, 60, .inl o3))] ++ w_44) := hD
                              refine wt_i hr9 ?_
                              refine wl_join (pc2 := 661) (fun (stk : List Value) (H : Heap) (locs : List Loc) (ls : Array Slot) => ∃ (jv : Int32), stk = [.int jv, .int (kSide (as9.toInt64 - (kExp v hf n len ll pen).toInt64) (kBound v hf n len ll pen bf bl))] ∧ (jv = kSide (as9.toInt64 - (kExp v hf n len ll pen).toInt64) (kBound v hf n len ll pen bf bl)) ∧ va_P D vwCl ([(a1, .inl (cI, 60, .inl v)), (a2, .inl (cI, 60, .inl hf)), (a3, .inl (cI, 60, .inl aa9)), (a4, .inl (cI, 12, .inl gg9)), (a5, .inl (cI, 61, .inl cc9)), (a6, .inl (cI, 61, .inl dd9)), (a7, .inl (cI, 61, .inl ee9)), (a8, .inl (cI, 6, .inl (kq (nI n) (nI len) (nI ll) pen bf bl))), (a9, .inl (cI, 60, .inl r3)), (aA, .inl (cI, 60, .inl o3))] ++ w_44) H ∧ va_D A ([(a1, .inl (cI, 60, .inl v)), (a2, .inl (cI, 60, .inl hf)), (a3, .inl (cI, 60, .inl aa9)), (a4, .inl (cI, 12, .inl gg9)), (a5, .inl (cI, 61, .inl cc9)), (a6, .inl (cI, 61, .inl dd9)), (a7, .inl (cI, 61, .inl ee9)), (a8, .inl (cI, 6, .inl (kq (nI n) (nI len) (nI ll) pen bf bl))), (a9, .inl (cI, 60, .inl r3)), (aA, .inl (cI, 60, .inl o3))] ++ w_44) ∧ va_S A s.heap H locs ∧ lv_has ls 23 [(22, .int (kDue (kCost (kAdj v hf n len) hf) n ll ct pen)), (21, .int (nI ct)), (20, .int lo9), (19, .int as9), (18, .int (kExp v hf n len ll pen)), (17, .int (nI (kAnom (kVerd v hf n len ll pen bf bl) n))), (16, .int (kBound v hf n len ll pen bf bl)), (15, .int (kDev v hf n len ll pen)), (14, .int (kLast v hf n len ll pen)), (13, .int (nI 1)), (12, .int (kBase v hf n)), (0, .ref o6), (1, .int z), (2, .ref a1), (3, .ref a2), (4, .ref a3), (5, .ref a4), (6, .ref a5), (7, .ref a6), (8, .ref a7), (9, .ref a8), (10, .ref a9), (11, .ref aA)]) ?_ (fun j_46 => ?_)
                              · skip
                                rintro stk H locs ls ⟨jv, rfl, hjv, hP, hD, hS, hl⟩
                                subst hjv
                                refine lv_icmp_ne (tgt := 717) hx hb dL_isSo_661 (by decide) (fun c661 => ?_) (fun c661 => ?_)
                                · skip
                                  exact absurd rfl c661
                                · skip
                                  refine lv_aload_n hx hb dL_isSo_664 rfl (lv_at hl 11 rfl) ?_
                                  refine lv_iload hx hb dL_isSo_665 (lv_at hl 2 rfl) ?_
                                  refine klci (X := [(a1, .inl (cI, 60, .inl v)), (a2, .inl (cI, 60, .inl hf)), (a3, .inl (cI, 60, .inl aa9)), (a4, .inl (cI, 12, .inl gg9)), (a5, .inl (cI, 61, .inl cc9)), (a6, .inl (cI, 61, .inl dd9)), (a7, .inl (cI, 61, .inl ee9)), (a8, .inl (cI, 6, .inl (kq (nI n) (nI len) (nI ll) pen bf bl))), (a9, .inl (cI, 60, .inl r3)), (aA, .inl (cI, 60, .inl o3))]) (pl := w_44) (va_runV (As := [.int lo9]) (rest := []) ⟨hx, hb, hml, hown, hts⟩ (c_X6_judge l D cI cZ cJ H.size v hf n len ll pen bf bl o6 w_44 lo9 hok hst) (cwV 1 hts gL_isSo_X6_judge rfl rfl rfl (by decide +kernel) ⟨Nat.le_of_ble_eq_true rfl, Nat.le_of_ble_eq_true rfl⟩) (kpreL hK hP hD rfl (kSt_recv hst)) rfl rfl hl.1 rfl (lv_room (Nat.le_of_ble_eq_true rfl)) dL_isSo_667 ⟨Nat.le_of_ble_eq_true rfl, Nat.le_of_ble_eq_true rfl⟩) hP hD hS hA (fun r_47 w_48 H locs hw hP hD hS => ?_)
                                  obtain ⟨hr9, hst⟩ := hw
                                  have hP : va_P D vwCl ([(a1, .inl (cI, 60, .inl v)), (a2, .inl (cI, 60, .inl hf)), (a3, .inl (cI, 60, .inl aa9)), (a4, .inl (cI, 12, .inl gg9)), (a5, .inl (cI, 61, .inl cc9)), (a6, .inl (cI, 61, .inl dd9)), (a7, .inl (cI, 61, .inl ee9)), (a8, .inl (cI, 6, .inl (kq (nI n) (nI len) (nI ll) pen bf bl))), (a9, .inl (cI, 60, .inl r3)), (aA, .inl (cI, 60, .inl o3))] ++ w_48) H := hP
                                  have hD : va_D A ([(a1, .inl (cI, 60, .inl v)), (a2, .inl (cI, 60, .inl hf)), (a3, .inl (cI, 60, .inl aa9)), (a4, .inl (cI, 12, .inl gg9)), (a5, .inl (cI, 61, .inl cc9)), (a6, .inl (cI, 61, .inl dd9)), (a7, .inl (cI, 61, .inl ee9)), (a8, .inl (cI, 6, .inl (kq (nI n) (nI len) (nI ll) pen bf bl))), (a9, .inl (cI, 60, .inl r3)), (aA, .inl (cI, 60, .inl o3))] ++ w_48) := hD
                                  refine wt_i hr9 ?_
                                  refine wl_join (pc2 := 699) (fun (stk : List Value) (H : Heap) (locs : List Loc) (ls : Array Slot) => ∃ (jv : Int32), stk = [.int jv, .int (kSide (lo9.toInt64 - (kExp v hf n len ll pen).toInt64) (kBound v hf n len ll pen bf bl))] ∧ (jv = kSide (lo9.toInt64 - (kExp v hf n len ll pen).toInt64) (kBound v hf n len ll pen bf bl)) ∧ va_P D vwCl ([(a1, .inl (cI, 60, .inl v)), (a2, .inl (cI, 60, .inl hf)), (a3, .inl (cI, 60, .inl aa9)), (a4, .inl (cI, 12, .inl gg9)), (a5, .inl (cI, 61, .inl cc9)), (a6, .inl (cI, 61, .inl dd9)), (a7, .inl (cI, 61, .inl ee9)), (a8, .inl (cI, 6, .inl (kq (nI n) (nI len) (nI ll) pen bf bl))), (a9, .inl (cI, 60, .inl r3)), (aA, .inl (cI, 60, .inl o3))] ++ w_48) H ∧ va_D A ([(a1, .inl (cI, 60, .inl v)), (a2, .inl (cI, 60, .inl hf)), (a3, .inl (cI, 60, .inl aa9)), (a4, .inl (cI, 12, .inl gg9)), (a5, .inl (cI, 61, .inl cc9)), (a6, .inl (cI, 61, .inl dd9)), (a7, .inl (cI, 61, .inl ee9)), (a8, .inl (cI, 6, .inl (kq (nI n) (nI len) (nI ll) pen bf bl))), (a9, .inl (cI, 60, .inl r3)), (aA, .inl (cI, 60, .inl o3))] ++ w_48) ∧ va_S A s.heap H locs ∧ lv_has ls 23 [(22, .int (kDue (kCost (kAdj v hf n len) hf) n ll ct pen)), (21, .int (nI ct)), (20, .int lo9), (19, .int as9), (18, .int (kExp v hf n len ll pen)), (17, .int (nI (kAnom (kVerd v hf n len ll pen bf bl) n))), (16, .int (kBound v hf n len ll pen bf bl)), (15, .int (kDev v hf n len ll pen)), (14, .int (kLast v hf n len ll pen)), (13, .int (nI 1)), (12, .int (kBase v hf n)), (0, .ref o6), (1, .int z), (2, .ref a1), (3, .ref a2), (4, .ref a3), (5, .ref a4), (6, .ref a5), (7, .ref a6), (8, .ref a7), (9, .ref a8), (10, .ref a9), (11, .ref aA)]) ?_ (fun j_50 => ?_)
                                  · skip
                                    rintro stk H locs ls ⟨jv, rfl, hjv, hP, hD, hS, hl⟩
                                    subst hjv
                                    refine lv_icmp_ne (tgt := 717) hx hb dL_isSo_699 (by decide) (fun c699 => ?_) (fun c699 => ?_)
                                    · skip
                                      exact absurd rfl c699
                                    · skip
                                      refine lv_aload_n hx hb dL_isSo_702 rfl (lv_at hl 11 rfl) ?_
                                      refine lv_iload hx hb dL_isSo_703 (lv_at hl 1 rfl) ?_
                                      refine klci (X := [(a1, .inl (cI, 60, .inl v)), (a2, .inl (cI, 60, .inl hf)), (a3, .inl (cI, 60, .inl aa9)), (a4, .inl (cI, 12, .inl gg9)), (a5, .inl (cI, 61, .inl cc9)), (a6, .inl (cI, 61, .inl dd9)), (a7, .inl (cI, 61, .inl ee9)), (a8, .inl (cI, 6, .inl (kq (nI n) (nI len) (nI ll) pen bf bl))), (a9, .inl (cI, 60, .inl r3)), (aA, .inl (cI, 60, .inl o3))]) (pl := w_48) (vx_runSW (As := [.ref o6, .int (nI ct)]) (rest := []) ⟨hx, hb, hml, hown, hts⟩ (h_L_cutAt l hlf D cI cZ cJ H.size v hf n len ll pen bf bl o6 w_48 ct hok hst (by first | assumption | omega)) (vx_cwSW 2 hts gL_isSo_L_cutAt rfl rfl rfl (by decide +kernel) ⟨Nat.le_of_ble_eq_true rfl, Nat.le_of_ble_eq_true rfl⟩) (kpreLX hK hP hD hS hA hE) rfl rfl hl.1 rfl (lv_room (Nat.le_of_ble_eq_true rfl)) dL_isSo_705 ⟨Nat.le_of_ble_eq_true rfl, Nat.le_of_ble_eq_true rfl⟩) hP hD hS hA (fun r_51 w_52 H locs hw hP hD hS => ?_)
                                      obtain ⟨hr9, hst⟩ := hw
                                      have hP : va_P D vwCl ([(a1, .inl (cI, 60, .inl v)), (a2, .inl (cI, 60, .inl hf)), (a3, .inl (cI, 60, .inl aa9)), (a4, .inl (cI, 12, .inl gg9)), (a5, .inl (cI, 61, .inl cc9)), (a6, .inl (cI, 61, .inl dd9)), (a7, .inl (cI, 61, .inl ee9)), (a8, .inl (cI, 6, .inl (kq (nI n) (nI len) (nI ll) pen bf bl))), (a9, .inl (cI, 60, .inl r3)), (aA, .inl (cI, 60, .inl o3))] ++ w_52) H := hP
                                      have hD : va_D A ([(a1, .inl (cI, 60, .inl v)), (a2, .inl (cI, 60, .inl hf)), (a3, .inl (cI, 60, .inl aa9)), (a4, .inl (cI, 12, .inl gg9)), (a5, .inl (cI, 61, .inl cc9)), (a6, .inl (cI, 61, .inl dd9)), (a7, .inl (cI, 61, .inl ee9)), (a8, .inl (cI, 6, .inl (kq (nI n) (nI len) (nI ll) pen bf bl))), (a9, .inl (cI, 60, .inl r3)), (aA, .inl (cI, 60, .inl o3))] ++ w_52) := hD
                                      refine wt_i hr9 ?_
                                      refine lv_iload hx hb dL_isSo_708 (lv_at hl 0 rfl) ?_
                                      refine lv_icmp_ne (tgt := 717) hx hb dL_isSo_710 (by decide) (fun c710 => ?_) (fun c710 => ?_)
                                      · skip
                                        exact absurd rfl c710
                                      · skip
                                        refine lv_iconst (v := nI 1) hx hb dL_isSo_713 (by decide) ?_
                                        refine lv_goto (tgt := 718) hx hb dL_isSo_714 (by decide) ?_
                                        exact krz hx hb hr hlocks (by first | exact Or.inl rfl | exact Or.inr rfl) hP hK hD hS ([(a1, .inl (cI, 60, .inl v)), (a2, .inl (cI, 60, .inl hf)), (a3, .inl (cI, 60, .inl aa9)), (a4, .inl (cI, 12, .inl gg9)), (a5, .inl (cI, 61, .inl cc9)), (a6, .inl (cI, 61, .inl dd9)), (a7, .inl (cI, 61, .inl ee9)), (a8, .inl (cI, 6, .inl (kq (nI n) (nI len) (nI ll) pen bf bl))), (a9, .inl (cI, 60, .inl r3)), (aA, .inl (cI, 60, .inl o3))], w_52) (⟨rfl, _, _, _, _, _, _, _, rfl, hst⟩) ([0, 1, 2, 3, 4, 5, 6, 7, 8, 9] ++ kix ([(a1, .inl (cI, 60, .inl v)), (a2, .inl (cI, 60, .inl hf)), (a3, .inl (cI, 60, .inl aa9)), (a4, .inl (cI, 12, .inl gg9)), (a5, .inl (cI, 61, .inl cc9)), (a6, .inl (cI, 61, .inl dd9)), (a7, .inl (cI, 61, .inl ee9)), (a8, .inl (cI, 6, .inl (kq (nI n) (nI len) (nI ll) pen bf bl))), (a9, .inl (cI, 60, .inl r3)), (aA, .inl (cI, 60, .inl o3))]).length (w_52).length) (kndT (X := [(a1, .inl (cI, 60, .inl v)), (a2, .inl (cI, 60, .inl hf)), (a3, .inl (cI, 60, .inl aa9)), (a4, .inl (cI, 12, .inl gg9)), (a5, .inl (cI, 61, .inl cc9)), (a6, .inl (cI, 61, .inl dd9)), (a7, .inl (cI, 61, .inl ee9)), (a8, .inl (cI, 6, .inl (kq (nI n) (nI len) (nI ll) pen bf bl))), (a9, .inl (cI, 60, .inl r3)), (aA, .inl (cI, 60, .inl o3))]) (X' := [(a1, .inl (cI, 60, .inl v)), (a2, .inl (cI, 60, .inl hf)), (a3, .inl (cI, 60, .inl aa9)), (a4, .inl (cI, 12, .inl gg9)), (a5, .inl (cI, 61, .inl cc9)), (a6, .inl (cI, 61, .inl dd9)), (a7, .inl (cI, 61, .inl ee9)), (a8, .inl (cI, 6, .inl (kq (nI n) (nI len) (nI ll) pen bf bl))), (a9, .inl (cI, 60, .inl r3)), (aA, .inl (cI, 60, .inl o3))]) _ [0, 1, 2, 3, 4, 5, 6, 7, 8, 9] (by decide +kernel) rfl) (kouT (X := [(a1, .inl (cI, 60, .inl v)), (a2, .inl (cI, 60, .inl hf)), (a3, .inl (cI, 60, .inl aa9)), (a4, .inl (cI, 12, .inl gg9)), (a5, .inl (cI, 61, .inl cc9)), (a6, .inl (cI, 61, .inl dd9)), (a7, .inl (cI, 61, .inl ee9)), (a8, .inl (cI, 6, .inl (kq (nI n) (nI len) (nI ll) pen bf bl))), (a9, .inl (cI, 60, .inl r3)), (aA, .inl (cI, 60, .inl o3))]) (X' := [(a1, .inl (cI, 60, .inl v)), (a2, .inl (cI, 60, .inl hf)), (a3, .inl (cI, 60, .inl aa9)), (a4, .inl (cI, 12, .inl gg9)), (a5, .inl (cI, 61, .inl cc9)), (a6, .inl (cI, 61, .inl dd9)), (a7, .inl (cI, 61, .inl ee9)), (a8, .inl (cI, 6, .inl (kq (nI n) (nI len) (nI ll) pen bf bl))), (a9, .inl (cI, 60, .inl r3)), (aA, .inl (cI, 60, .inl o3))]) [0, 1, 2, 3, 4, 5, 6, 7, 8, 9] rfl) dL_isSo_718
                                  refine lv_iload hx hb dL_isSo_670 (lv_at hl 2 rfl) ?_
                                  refine lv_iload hx hb dL_isSo_672 (lv_at hl 4 rfl) ?_
                                  refine lv_iload hx hb dL_isSo_674 (lv_at hl 6 rfl) ?_
                                  refine lv_isub hx hb dL_isSo_676 ?_
                                  refine lv_icmp_ge (tgt := 684) hx hb dL_isSo_677 (by decide) (fun c677 => ?_) (fun c677 => ?_)
                                  · skip
                                    refine lv_iload hx hb dL_isSo_684 (lv_at hl 2 rfl) ?_
                                    refine lv_iload hx hb dL_isSo_686 (lv_at hl 4 rfl) ?_
                                    refine lv_iload hx hb dL_isSo_688 (lv_at hl 6 rfl) ?_
                                    refine lv_iadd hx hb dL_isSo_690 ?_
                                    refine lv_icmp_le (tgt := 698) hx hb dL_isSo_691 (by decide) (fun c691 => ?_) (fun c691 => ?_)
                                    · skip
                                      refine lv_iconst (v := nI 0) hx hb dL_isSo_698 (by decide) ?_
                                      exact j_50 _ _ _ _ ⟨nI 0, rfl, by rw [hjd2, if_neg (Int32.not_lt.mpr c677), if_neg (Int32.not_lt.mpr c691)]; rfl, hP, hD, hS, lv_sub hl [0, 1, 2, 3, 4, 5, 6, 7, 8, 9, 10, 11, 12, 13, 14, 15, 16, 17, 18, 19, 20, 21, 22] rfl⟩
                                    · skip
                                      refine lv_iconst (v := nI 1) hx hb dL_isSo_694 (by decide) ?_
                                      refine lv_goto (tgt := 699) hx hb dL_isSo_695 (by decide) ?_
                                      exact j_50 _ _ _ _ ⟨nI 1, rfl, by rw [hjd2, if_neg (Int32.not_lt.mpr c677), if_pos (Int32.not_le.mp c691)]; rfl, hP, hD, hS, lv_sub hl [0, 1, 2, 3, 4, 5, 6, 7, 8, 9, 10, 11, 12, 13, 14, 15, 16, 17, 18, 19, 20, 21, 22] rfl⟩
                                  · skip
                                    refine lv_iconst (v := nI 2) hx hb dL_isSo_680 (by decide) ?_
                                    refine lv_goto (tgt := 699) hx hb dL_isSo_681 (by decide) ?_
                                    exact j_50 _ _ _ _ ⟨nI 2, rfl, by rw [hjd2, if_pos (Int32.not_le.mp c677)]; rfl, hP, hD, hS, lv_sub hl [0, 1, 2, 3, 4, 5, 6, 7, 8, 9, 10, 11, 12, 13, 14, 15, 16, 17, 18, 19, 20, 21, 22] rfl⟩
                              refine lv_iload hx hb dL_isSo_632 (lv_at hl 3 rfl) ?_
                              refine lv_iload hx hb dL_isSo_634 (lv_at hl 4 rfl) ?_
                              refine lv_iload hx hb dL_isSo_636 (lv_at hl 6 rfl) ?_
                              refine lv_iadd hx hb dL_isSo_638 ?_
                              refine lv_icmp_le (tgt := 646) hx hb dL_isSo_639 (by decide) (fun c639 => ?_) (fun c639 => ?_)
                              · skip
                                refine lv_iload hx hb dL_isSo_646 (lv_at hl 3 rfl) ?_
                                refine lv_iload hx hb dL_isSo_648 (lv_at hl 4 rfl) ?_
                                refine lv_iload hx hb dL_isSo_650 (lv_at hl 6 rfl) ?_
                                refine lv_isub hx hb dL_isSo_652 ?_
                                refine lv_icmp_ge (tgt := 660) hx hb dL_isSo_653 (by decide) (fun c653 => ?_) (fun c653 => ?_)
                                · skip
                                  refine lv_iconst (v := nI 0) hx hb dL_isSo_660 (by decide) ?_
                                  exact j_46 _ _ _ _ ⟨nI 0, rfl, by rw [hjd, if_neg (Int32.not_lt.mpr c639), if_neg (Int32.not_lt.mpr c653)]; rfl, hP, hD, hS, lv_sub hl [0, 1, 2, 3, 4, 5, 6, 7, 8, 9, 10, 11, 12, 13, 14, 15, 16, 17, 18, 19, 20, 21, 22] rfl⟩
                                · skip
                                  refine lv_iconst (v := nI 2) hx hb dL_isSo_656 (by decide) ?_
                                  refine lv_goto (tgt := 661) hx hb dL_isSo_657 (by decide) ?_
                                  exact j_46 _ _ _ _ ⟨nI 2, rfl, by rw [hjd, if_neg (Int32.not_lt.mpr c639), if_pos (Int32.not_le.mp c653)]; rfl, hP, hD, hS, lv_sub hl [0, 1, 2, 3, 4, 5, 6, 7, 8, 9, 10, 11, 12, 13, 14, 15, 16, 17, 18, 19, 20, 21, 22] rfl⟩
                              · skip
                                refine lv_iconst (v := nI 1) hx hb dL_isSo_642 (by decide) ?_
                                refine lv_goto (tgt := 661) hx hb dL_isSo_643 (by decide) ?_
                                exact j_46 _ _ _ _ ⟨nI 1, rfl, by rw [hjd, if_pos (Int32.not_le.mp c639)]; rfl, hP, hD, hS, lv_sub hl [0, 1, 2, 3, 4, 5, 6, 7, 8, 9, 10, 11, 12, 13, 14, 15, 16, 17, 18, 19, 20, 21, 22] rfl⟩
                  refine lv_iload hx hb dL_isSo_509 (lv_at hl 0 rfl) ?_
                  refine lv_iconst (v := nI 1) hx hb dL_isSo_511 (by decide) ?_
                  refine lv_icmp_lt (tgt := 524) hx hb dL_isSo_512 (by decide) (fun c512 => ?_) (fun c512 => ?_)
                  · skip
                    have c512 := klt (a := ct) (b := 1) c512 (by omega) (by omega)
                    refine lv_iconst (v := (-1 : Int32)) hx hb dL_isSo_524 (by decide) ?_
                    refine lv_goto (tgt := 583) hx hb dL_isSo_525 (by decide) ?_
                    exact j_30 _ _ _ _ ⟨(-1 : Int32), rfl, by unfold kDue; exact (if_pos (by omega)).symm, hP, hD, hS, lv_sub hl [0, 1, 2, 3, 4, 5, 6, 7, 8, 9, 10, 11, 12, 13, 14, 15, 16, 17, 18, 19, 20, 21] rfl⟩
                  · skip
                    have c512 := knlt (a := ct) (b := 1) c512 (by omega) (by omega)
                    refine lv_iload hx hb dL_isSo_515 (lv_at hl 0 rfl) ?_
                    refine lv_aload hx hb dL_isSo_517 (lv_at hl 19 rfl) ?_
                    refine lv_iconst (v := nI 0) hx hb dL_isSo_519 (by decide) ?_
                    refine va_iald (D := D) hx hb hK hP 7 0 rfl rfl (vp_in_nI (by omega) (by decide)) dL_isSo_520 ?_
                    refine wt_i (by rw [nI_clamp (n := 0) (by omega)]) ?_
                    refine wt_i (y := nI n) rfl ?_
                    refine lv_icmp_lt (tgt := 528) hx hb dL_isSo_521 (by decide) (fun c521 => ?_) (fun c521 => ?_)
                    · skip
                      have c521 := klt (a := ct) (b := n) c521 (by omega) (by omega)
                      refine lv_iload hx hb dL_isSo_528 (lv_at hl 0 rfl) ?_
                      refine lv_aload hx hb dL_isSo_530 (lv_at hl 19 rfl) ?_
                      refine lv_iconst (v := nI 2) hx hb dL_isSo_532 (by decide) ?_
                      refine va_iald (D := D) hx hb hK hP 7 0 rfl rfl (vp_in_nI (by omega) (by decide)) dL_isSo_533 ?_
                      refine wt_i (by rw [nI_clamp (n := 2) (by omega)]) ?_
                      refine wt_i (y := nI ll) rfl ?_
                      refine lv_icmp_lt (tgt := 551) hx hb dL_isSo_534 (by decide) (fun c534 => ?_) (fun c534 => ?_)
                      · skip
                        have c534 := klt (a := ct) (b := ll) c534 (by omega) (by omega)
                        refine lv_bipush (v := (-2 : Int32)) hx hb dL_isSo_551 (by decide) ?_
                        refine lv_goto (tgt := 583) hx hb dL_isSo_553 (by decide) ?_
                        exact j_30 _ _ _ _ ⟨(-2 : Int32), rfl, by unfold kDue; rw [if_neg (show ¬ (ct < 1 ∨ n ≤ ct) by omega)]; exact (if_pos (by omega)).symm, hP, hD, hS, lv_sub hl [0, 1, 2, 3, 4, 5, 6, 7, 8, 9, 10, 11, 12, 13, 14, 15, 16, 17, 18, 19, 20, 21] rfl⟩
                      · skip
                        have c534 := knlt (a := ct) (b := ll) c534 (by omega) (by omega)
                        refine lv_aload hx hb dL_isSo_537 (lv_at hl 19 rfl) ?_
                        refine lv_iconst (v := nI 0) hx hb dL_isSo_539 (by decide) ?_
                        refine va_iald (D := D) hx hb hK hP 7 0 rfl rfl (vp_in_nI (by omega) (by decide)) dL_isSo_540 ?_
                        refine wt_i (by rw [nI_clamp (n := 0) (by omega)]) ?_
                        refine wt_i (y := nI n) rfl ?_
                        refine lv_iload hx hb dL_isSo_541 (lv_at hl 0 rfl) ?_
                        refine lv_isub hx hb dL_isSo_543 ?_
                        refine wt_i (pk_sub (by omega)) ?_
                        refine lv_aload hx hb dL_isSo_544 (lv_at hl 19 rfl) ?_
                        refine lv_iconst (v := nI 2) hx hb dL_isSo_546 (by decide) ?_
                        refine va_iald (D := D) hx hb hK hP 7 0 rfl rfl (vp_in_nI (by omega) (by decide)) dL_isSo_547 ?_
                        refine wt_i (by rw [nI_clamp (n := 2) (by omega)]) ?_
                        refine wt_i (y := nI ll) rfl ?_
                        refine lv_icmp_ge (tgt := 556) hx hb dL_isSo_548 (by decide) (fun c548 => ?_) (fun c548 => ?_)
                        · skip
                          have c548 := kle (a := ll) (b := (n - ct)) c548 (by omega) (by omega)
                          refine lv_aload hx hb dL_isSo_556 (lv_at hl 14 rfl) ?_
                          refine lv_aload_n hx hb dL_isSo_558 rfl (lv_at hl 13 rfl) ?_
                          refine lv_iconst (v := nI 0) hx hb dL_isSo_559 (by decide) ?_
                          refine lv_iload hx hb dL_isSo_560 (lv_at hl 0 rfl) ?_
                          refine klhi (X := [(a1, .inl (cI, 60, .inl v)), (a2, .inl (cI, 60, .inl hf)), (a3, .inl (cI, 60, .inl aa9)), (a4, .inl (cI, 12, .inl gg9)), (a5, .inl (cI, 61, .inl cc9)), (a6, .inl (cI, 61, .inl dd9)), (a7, .inl (cI, 61, .inl ee9)), (a8, .inl (cI, 6, .inl (kq (nI n) (nI len) (nI ll) pen bf bl))), (a9, .inl (cI, 60, .inl r3)), (aA, .inl (cI, 60, .inl o3))]) (pl := w7) (wr := [(a1, .inl (cI, 60, .inl v)), (a4, .inl (cI, 12, .inl gg9)), (a5, .inl (cI, 61, .inl cc9)), (a6, .inl (cI, 61, .inl dd9)), (a7, .inl (cI, 61, .inl ee9)), (a8, .inl (cI, 6, .inl (kq (nI n) (nI len) (nI ll) pen bf bl))), (a9, .inl (cI, 60, .inl r3)), (aA, .inl (cI, 60, .inl o3))]) (pre := [(a3, .inl (cI, 60, .inl aa9)), (a2, .inl (cI, 60, .inl hf))]) (va_runS (As := [.ref a3, .ref a2, .int (nI 0), .int (nI ct)]) (rest := []) ⟨hx, hb, hml, hown, hts⟩ (c_L_cost l D cI cZ cJ H.size a3 a2 aa9 hf 0 ct (by first | assumption | omega) (by first | assumption | omega) (by first | assumption | omega) (fun k hk => hin9 k (by omega))) (va_cwS 4 hts gL_isSo_L_cost rfl rfl rfl (by decide +kernel) ⟨Nat.le_of_ble_eq_true rfl, Nat.le_of_ble_eq_true rfl⟩) (kpreH hK hP hD [2, 1] (by decide +kernel) rfl) rfl rfl hl.1 rfl (lv_room (Nat.le_of_ble_eq_true rfl)) dL_isSo_562 ⟨Nat.le_of_ble_eq_true rfl, Nat.le_of_ble_eq_true rfl⟩) hP hD hS hA [2, 1] [0, 3, 4, 5, 6, 7, 8, 9] rfl rfl (by decide +kernel) (by decide +kernel) (fun r_54 _ H locs hw hP hD hS => ?_)
                          have hP := kpermP (X := [(a1, .inl (cI, 60, .inl v)), (a4, .inl (cI, 12, .inl gg9)), (a5, .inl (cI, 61, .inl cc9)), (a6, .inl (cI, 61, .inl dd9)), (a7, .inl (cI, 61, .inl ee9)), (a8, .inl (cI, 6, .inl (kq (nI n) (nI len) (nI ll) pen bf bl))), (a9, .inl (cI, 60, .inl r3)), (aA, .inl (cI, 60, .inl o3)), (a3, .inl (cI, 60, .inl aa9)), (a2, .inl (cI, 60, .inl hf))]) (X' := [(a1, .inl (cI, 60, .inl v)), (a2, .inl (cI, 60, .inl hf)), (a3, .inl (cI, 60, .inl aa9)), (a4, .inl (cI, 12, .inl gg9)), (a5, .inl (cI, 61, .inl cc9)), (a6, .inl (cI, 61, .inl dd9)), (a7, .inl (cI, 61, .inl ee9)), (a8, .inl (cI, 6, .inl (kq (nI n) (nI len) (nI ll) pen bf bl))), (a9, .inl (cI, 60, .inl r3)), (aA, .inl (cI, 60, .inl o3))]) hP [0, 9, 8, 1, 2, 3, 4, 5, 6, 7] rfl
                          have hD := kpermD (X := [(a1, .inl (cI, 60, .inl v)), (a4, .inl (cI, 12, .inl gg9)), (a5, .inl (cI, 61, .inl cc9)), (a6, .inl (cI, 61, .inl dd9)), (a7, .inl (cI, 61, .inl ee9)), (a8, .inl (cI, 6, .inl (kq (nI n) (nI len) (nI ll) pen bf bl))), (a9, .inl (cI, 60, .inl r3)), (aA, .inl (cI, 60, .inl o3)), (a3, .inl (cI, 60, .inl aa9)), (a2, .inl (cI, 60, .inl hf))]) (X' := [(a1, .inl (cI, 60, .inl v)), (a2, .inl (cI, 60, .inl hf)), (a3, .inl (cI, 60, .inl aa9)), (a4, .inl (cI, 12, .inl gg9)), (a5, .inl (cI, 61, .inl cc9)), (a6, .inl (cI, 61, .inl dd9)), (a7, .inl (cI, 61, .inl ee9)), (a8, .inl (cI, 6, .inl (kq (nI n) (nI len) (nI ll) pen bf bl))), (a9, .inl (cI, 60, .inl r3)), (aA, .inl (cI, 60, .inl o3))]) hD [0, 9, 8, 1, 2, 3, 4, 5, 6, 7] (by decide +kernel) rfl
                          have hP : va_P D vwCl ([(a1, .inl (cI, 60, .inl v)), (a2, .inl (cI, 60, .inl hf)), (a3, .inl (cI, 60, .inl aa9)), (a4, .inl (cI, 12, .inl gg9)), (a5, .inl (cI, 61, .inl cc9)), (a6, .inl (cI, 61, .inl dd9)), (a7, .inl (cI, 61, .inl ee9)), (a8, .inl (cI, 6, .inl (kq (nI n) (nI len) (nI ll) pen bf bl))), (a9, .inl (cI, 60, .inl r3)), (aA, .inl (cI, 60, .inl o3))] ++ w7) H := hP
                          have hD : va_D A ([(a1, .inl (cI, 60, .inl v)), (a2, .inl (cI, 60, .inl hf)), (a3, .inl (cI, 60, .inl aa9)), (a4, .inl (cI, 12, .inl gg9)), (a5, .inl (cI, 61, .inl cc9)), (a6, .inl (cI, 61, .inl dd9)), (a7, .inl (cI, 61, .inl ee9)), (a8, .inl (cI, 6, .inl (kq (nI n) (nI len) (nI ll) pen bf bl))), (a9, .inl (cI, 60, .inl r3)), (aA, .inl (cI, 60, .inl o3))] ++ w7) := hD
                          have hr9 : r_54 = kCost aa9 hf 0 ct := hw
                          refine wt_i hr9 ?_
                          refine wt_i (y := kCost (kAdj v hf n len) hf 0 ct) (show _ = kCost (kAdj v hf n len) hf 0 ct from kCost_congr (fun k _ q9 => hav k (by omega))) ?_
                          refine lv_aload hx hb dL_isSo_565 (lv_at hl 14 rfl) ?_
                          refine lv_aload_n hx hb dL_isSo_567 rfl (lv_at hl 13 rfl) ?_
                          refine lv_iload hx hb dL_isSo_568 (lv_at hl 0 rfl) ?_
                          refine lv_aload hx hb dL_isSo_570 (lv_at hl 19 rfl) ?_
                          refine lv_iconst (v := nI 0) hx hb dL_isSo_572 (by decide) ?_
                          refine va_iald (D := D) hx hb hK hP 7 0 rfl rfl (vp_in_nI (by omega) (by decide)) dL_isSo_573 ?_
                          refine wt_i (by rw [nI_clamp (n := 0) (by omega)]) ?_
                          refine wt_i (y := nI n) rfl ?_
                          refine klhi (X := [(a1, .inl (cI, 60, .inl v)), (a2, .inl (cI, 60, .inl hf)), (a3, .inl (cI, 60, .inl aa9)), (a4, .inl (cI, 12, .inl gg9)), (a5, .inl (cI, 61, .inl cc9)), (a6, .inl (cI, 61, .inl dd9)), (a7, .inl (cI, 61, .inl ee9)), (a8, .inl (cI, 6, .inl (kq (nI n) (nI len) (nI ll) pen bf bl))), (a9, .inl (cI, 60, .inl r3)), (aA, .inl (cI, 60, .inl o3))]) (pl := w7) (wr := [(a1, .inl (cI, 60, .inl v)), (a4, .inl (cI, 12, .inl gg9)), (a5, .inl (cI, 61, .inl cc9)), (a6, .inl (cI, 61, .inl dd9)), (a7, .inl (cI, 61, .inl ee9)), (a8, .inl (cI, 6, .inl (kq (nI n) (nI len) (nI ll) pen bf bl))), (a9, .inl (cI, 60, .inl r3)), (aA, .inl (cI, 60, .inl o3))]) (pre := [(a3, .inl (cI, 60, .inl aa9)), (a2, .inl (cI, 60, .inl hf))]) (va_runS (As := [.ref a3, .ref a2, .int (nI ct), .int (nI n)]) (rest := [.int (kCost (kAdj v hf n len) hf 0 ct)]) ⟨hx, hb, hml, hown, hts⟩ (c_L_cost l D cI cZ cJ H.size a3 a2 aa9 hf ct n (by first | assumption | omega) (by first | assumption | omega) (by first | assumption | omega) hin9) (va_cwS 4 hts gL_isSo_L_cost rfl rfl rfl (by decide +kernel) ⟨Nat.le_of_ble_eq_true rfl, Nat.le_of_ble_eq_true rfl⟩) (kpreH hK hP hD [2, 1] (by decide +kernel) rfl) rfl rfl hl.1 rfl (lv_room (Nat.le_of_ble_eq_true rfl)) dL_isSo_574 ⟨Nat.le_of_ble_eq_true rfl, Nat.le_of_ble_eq_true rfl⟩) hP hD hS hA [2, 1] [0, 3, 4, 5, 6, 7, 8, 9] rfl rfl (by decide +kernel) (by decide +kernel) (fun r_56 _ H locs hw hP hD hS => ?_)
                          have hP := kpermP (X := [(a1, .inl (cI, 60, .inl v)), (a4, .inl (cI, 12, .inl gg9)), (a5, .inl (cI, 61, .inl cc9)), (a6, .inl (cI, 61, .inl dd9)), (a7, .inl (cI, 61, .inl ee9)), (a8, .inl (cI, 6, .inl (kq (nI n) (nI len) (nI ll) pen bf bl))), (a9, .inl (cI, 60, .inl r3)), (aA, .inl (cI, 60, .inl o3)), (a3, .inl (cI, 60, .inl aa9)), (a2, .inl (cI, 60, .inl hf))]) (X' := [(a1, .inl (cI, 60, .inl v)), (a2, .inl (cI, 60, .inl hf)), (a3, .inl (cI, 60, .inl aa9)), (a4, .inl (cI, 12, .inl gg9)), (a5, .inl (cI, 61, .inl cc9)), (a6, .inl (cI, 61, .inl dd9)), (a7, .inl (cI, 61, .inl ee9)), (a8, .inl (cI, 6, .inl (kq (nI n) (nI len) (nI ll) pen bf bl))), (a9, .inl (cI, 60, .inl r3)), (aA, .inl (cI, 60, .inl o3))]) hP [0, 9, 8, 1, 2, 3, 4, 5, 6, 7] rfl
                          have hD := kpermD (X := [(a1, .inl (cI, 60, .inl v)), (a4, .inl (cI, 12, .inl gg9)), (a5, .inl (cI, 61, .inl cc9)), (a6, .inl (cI, 61, .inl dd9)), (a7, .inl (cI, 61, .inl ee9)), (a8, .inl (cI, 6, .inl (kq (nI n) (nI len) (nI ll) pen bf bl))), (a9, .inl (cI, 60, .inl r3)), (aA, .inl (cI, 60, .inl o3)), (a3, .inl (cI, 60, .inl aa9)), (a2, .inl (cI, 60, .inl hf))]) (X' := [(a1, .inl (cI, 60, .inl v)), (a2, .inl (cI, 60, .inl hf)), (a3, .inl (cI, 60, .inl aa9)), (a4, .inl (cI, 12, .inl gg9)), (a5, .inl (cI, 61, .inl cc9)), (a6, .inl (cI, 61, .inl dd9)), (a7, .inl (cI, 61, .inl ee9)), (a8, .inl (cI, 6, .inl (kq (nI n) (nI len) (nI ll) pen bf bl))), (a9, .inl (cI, 60, .inl r3)), (aA, .inl (cI, 60, .inl o3))]) hD [0, 9, 8, 1, 2, 3, 4, 5, 6, 7] (by decide +kernel) rfl
                          have hP : va_P D vwCl ([(a1, .inl (cI, 60, .inl v)), (a2, .inl (cI, 60, .inl hf)), (a3, .inl (cI, 60, .inl aa9)), (a4, .inl (cI, 12, .inl gg9)), (a5, .inl (cI, 61, .inl cc9)), (a6, .inl (cI, 61, .inl dd9)), (a7, .inl (cI, 61, .inl ee9)), (a8, .inl (cI, 6, .inl (kq (nI n) (nI len) (nI ll) pen bf bl))), (a9, .inl (cI, 60, .inl r3)), (aA, .inl (cI, 60, .inl o3))] ++ w7) H := hP
                          have hD : va_D A ([(a1, .inl (cI, 60, .inl v)), (a2, .inl (cI, 60, .inl hf)), (a3, .inl (cI, 60, .inl aa9)), (a4, .inl (cI, 12, .inl gg9)), (a5, .inl (cI, 61, .inl cc9)), (a6, .inl (cI, 61, .inl dd9)), (a7, .inl (cI, 61, .inl ee9)), (a8, .inl (cI, 6, .inl (kq (nI n) (nI len) (nI ll) pen bf bl))), (a9, .inl (cI, 60, .inl r3)), (aA, .inl (cI, 60, .inl o3))] ++ w7) := hD
                          have hr9 : r_56 = kCost aa9 hf ct n := hw
                          refine wt_i hr9 ?_
                          refine wt_i (y := kCost (kAdj v hf n len) hf ct n) (show _ = kCost (kAdj v hf n len) hf ct n from kCost_congr (fun k _ q9 => hav k q9)) ?_
                          refine lv_iadd hx hb dL_isSo_577 ?_
                          refine lv_aload hx hb dL_isSo_578 (lv_at hl 19 rfl) ?_
                          refine lv_iconst (v := nI 3) hx hb dL_isSo_580 (by decide) ?_
                          refine va_iald (D := D) hx hb hK hP 7 0 rfl rfl (vp_in_nI (by omega) (by decide)) dL_isSo_581 ?_
                          refine wt_i (by rw [nI_clamp (n := 3) (by omega)]) ?_
                          refine wt_i (y := pen) rfl ?_
                          refine lv_iadd hx hb dL_isSo_582 ?_
                          exact j_30 _ _ _ _ ⟨((kCost (kAdj v hf n len) hf 0 ct) + (kCost (kAdj v hf n len) hf ct n)) + pen, rfl, by unfold kDue; rw [if_neg (show ¬ (ct < 1 ∨ n ≤ ct) by omega), if_neg (show ¬ (ct < ll ∨ n - ct < ll) by omega)], hP, hD, hS, lv_sub hl [0, 1, 2, 3, 4, 5, 6, 7, 8, 9, 10, 11, 12, 13, 14, 15, 16, 17, 18, 19, 20, 21] rfl⟩
                        · skip
                          have c548 := knle (a := ll) (b := (n - ct)) c548 (by omega) (by omega)
                          refine lv_bipush (v := (-2 : Int32)) hx hb dL_isSo_551 (by decide) ?_
                          refine lv_goto (tgt := 583) hx hb dL_isSo_553 (by decide) ?_
                          exact j_30 _ _ _ _ ⟨(-2 : Int32), rfl, by unfold kDue; rw [if_neg (show ¬ (ct < 1 ∨ n ≤ ct) by omega)]; exact (if_pos (by omega)).symm, hP, hD, hS, lv_sub hl [0, 1, 2, 3, 4, 5, 6, 7, 8, 9, 10, 11, 12, 13, 14, 15, 16, 17, 18, 19, 20, 21] rfl⟩
                    · skip
                      have c521 := knlt (a := ct) (b := n) c521 (by omega) (by omega)
                      refine lv_iconst (v := (-1 : Int32)) hx hb dL_isSo_524 (by decide) ?_
                      refine lv_goto (tgt := 583) hx hb dL_isSo_525 (by decide) ?_
                      exact j_30 _ _ _ _ ⟨(-1 : Int32), rfl, by unfold kDue; exact (if_pos (by omega)).symm, hP, hD, hS, lv_sub hl [0, 1, 2, 3, 4, 5, 6, 7, 8, 9, 10, 11, 12, 13, 14, 15, 16, 17, 18, 19, 20, 21] rfl⟩
                · skip
                  have c348 := knle (a := n) (b := k) c348 (by omega) (by omega)
                  refine lv_iload hx hb dL_isSo_351 (lv_at hl 5 rfl) ?_
                  refine lv_if_eq (tgt := 446) hx hb dL_isSo_353 (by decide) (fun c353 => ?_) (fun c353 => ?_)
                  · skip
                    have c353 := keq (a := 1) (b := 0) c353 (by omega) (by omega)
                    exact absurd c353 (by decide)
                  · skip
                    have c353 := kneq (a := 1) (b := 0) c353 (by omega) (by omega)
                    refine wl_join (pc2 := 398) (fun (stk : List Value) (H : Heap) (locs : List Loc) (ls : Array Slot) => ∃ (vd : Int32), stk = [.int vd] ∧ (vd = kVerd v hf n len ll pen bf bl k) ∧ va_P D vwCl ([(a1, .inl (cI, 60, .inl v)), (a2, .inl (cI, 60, .inl hf)), (a3, .inl (cI, 60, .inl aa9)), (a4, .inl (cI, 12, .inl gg9)), (a5, .inl (cI, 61, .inl cc9)), (a6, .inl (cI, 61, .inl dd9)), (a7, .inl (cI, 61, .inl ee9)), (a8, .inl (cI, 6, .inl (kq (nI n) (nI len) (nI ll) pen bf bl))), (a9, .inl (cI, 60, .inl r3)), (aA, .inl (cI, 60, .inl o3))] ++ w7) H ∧ va_D A ([(a1, .inl (cI, 60, .inl v)), (a2, .inl (cI, 60, .inl hf)), (a3, .inl (cI, 60, .inl aa9)), (a4, .inl (cI, 12, .inl gg9)), (a5, .inl (cI, 61, .inl cc9)), (a6, .inl (cI, 61, .inl dd9)), (a7, .inl (cI, 61, .inl ee9)), (a8, .inl (cI, 6, .inl (kq (nI n) (nI len) (nI ll) pen bf bl))), (a9, .inl (cI, 60, .inl r3)), (aA, .inl (cI, 60, .inl o3))] ++ w7) ∧ va_S A s.heap H locs ∧ lv_has ls 23 [(18, .int (nI k)), (17, .int (nI (kAnom (kVerd v hf n len ll pen bf bl) k))), (16, .int (kBound v hf n len ll pen bf bl)), (15, .int (kDev v hf n len ll pen)), (14, .int (kLast v hf n len ll pen)), (13, .int (nI 1)), (12, .int (kBase v hf n)), (0, .ref o6), (1, .int z), (2, .ref a1), (3, .ref a2), (4, .ref a3), (5, .ref a4), (6, .ref a5), (7, .ref a6), (8, .ref a7), (9, .ref a8), (10, .ref a9), (11, .ref aA)]) ?_ (fun j_58 => ?_)
                    · skip
                      rintro stk H locs ls ⟨vd, rfl, hvd, hP, hD, hS, hl⟩
                      subst hvd
                      refine lv_istore (lv' := [(19, .int (kVerd v hf n len ll pen bf bl k)), (18, .int (nI k)), (17, .int (nI (kAnom (kVerd v hf n len ll pen bf bl) k))), (16, .int (kBound v hf n len ll pen bf bl)), (15, .int (kDev v hf n len ll pen)), (14, .int (kLast v hf n len ll pen)), (13, .int (nI 1)), (12, .int (kBase v hf n)), (0, .ref o6), (1, .int z), (2, .ref a1), (3, .ref a2), (4, .ref a3), (5, .ref a4), (6, .ref a5), (7, .ref a6), (8, .ref a7), (9, .ref a8), (10, .ref a9), (11, .ref aA)]) hx hb dL_isSo_398 hl (by decide) rfl (fun ls hl => ?_)
                      refine wl_join (pc2 := 419) (fun (stk : List Value) (H : Heap) (locs : List Loc) (ls : Array Slot) => ∃ (an : Nat), stk = [.int (nI an), .int (nI (kAnom (kVerd v hf n len ll pen bf bl) k))] ∧ (kAnom (kVerd v hf n len ll pen bf bl) k + an = kAnom (kVerd v hf n len ll pen bf bl) (k + 1)) ∧ va_P D vwCl ([(a1, .inl (cI, 60, .inl v)), (a2, .inl (cI, 60, .inl hf)), (a3, .inl (cI, 60, .inl aa9)), (a4, .inl (cI, 12, .inl gg9)), (a5, .inl (cI, 61, .inl cc9)), (a6, .inl (cI, 61, .inl dd9)), (a7, .inl (cI, 61, .inl ee9)), (a8, .inl (cI, 6, .inl (kq (nI n) (nI len) (nI ll) pen bf bl))), (a9, .inl (cI, 60, .inl r3)), (aA, .inl (cI, 60, .inl o3))] ++ w7) H ∧ va_D A ([(a1, .inl (cI, 60, .inl v)), (a2, .inl (cI, 60, .inl hf)), (a3, .inl (cI, 60, .inl aa9)), (a4, .inl (cI, 12, .inl gg9)), (a5, .inl (cI, 61, .inl cc9)), (a6, .inl (cI, 61, .inl dd9)), (a7, .inl (cI, 61, .inl ee9)), (a8, .inl (cI, 6, .inl (kq (nI n) (nI len) (nI ll) pen bf bl))), (a9, .inl (cI, 60, .inl r3)), (aA, .inl (cI, 60, .inl o3))] ++ w7) ∧ va_S A s.heap H locs ∧ lv_has ls 23 [(19, .int (kVerd v hf n len ll pen bf bl k)), (18, .int (nI k)), (17, .int (nI (kAnom (kVerd v hf n len ll pen bf bl) k))), (16, .int (kBound v hf n len ll pen bf bl)), (15, .int (kDev v hf n len ll pen)), (14, .int (kLast v hf n len ll pen)), (13, .int (nI 1)), (12, .int (kBase v hf n)), (0, .ref o6), (1, .int z), (2, .ref a1), (3, .ref a2), (4, .ref a3), (5, .ref a4), (6, .ref a5), (7, .ref a6), (8, .ref a7), (9, .ref a8), (10, .ref a9), (11, .ref aA)]) ?_ (fun j_59 => ?_)
                      · skip
                        rintro stk H locs ls ⟨an, rfl, han, hP, hD, hS, hl⟩
                        refine lv_iadd hx hb dL_isSo_419 ?_
                        refine wt_i (y := nI (kAnom (kVerd v hf n len ll pen bf bl) (k + 1))) (by rw [nI_add, han]) ?_
                        refine lv_istore (lv' := [(17, .int (nI (kAnom (kVerd v hf n len ll pen bf bl) (k + 1)))), (19, .int (kVerd v hf n len ll pen bf bl k)), (18, .int (nI k)), (16, .int (kBound v hf n len ll pen bf bl)), (15, .int (kDev v hf n len ll pen)), (14, .int (kLast v hf n len ll pen)), (13, .int (nI 1)), (12, .int (kBase v hf n)), (0, .ref o6), (1, .int z), (2, .ref a1), (3, .ref a2), (4, .ref a3), (5, .ref a4), (6, .ref a5), (7, .ref a6), (8, .ref a7), (9, .ref a8), (10, .ref a9), (11, .ref aA)]) hx hb dL_isSo_420 hl (by decide) rfl (fun ls hl => ?_)
                        refine lv_aload_n hx hb dL_isSo_422 rfl (lv_at hl 8 rfl) ?_
                        refine lv_iload hx hb dL_isSo_423 (lv_at hl 2 rfl) ?_
                        refine klci (X := [(a1, .inl (cI, 60, .inl v)), (a2, .inl (cI, 60, .inl hf)), (a3, .inl (cI, 60, .inl aa9)), (a4, .inl (cI, 12, .inl gg9)), (a5, .inl (cI, 61, .inl cc9)), (a6, .inl (cI, 61, .inl dd9)), (a7, .inl (cI, 61, .inl ee9)), (a8, .inl (cI, 6, .inl (kq (nI n) (nI len) (nI ll) pen bf bl))), (a9, .inl (cI, 60, .inl r3)), (aA, .inl (cI, 60, .inl o3))]) (pl := w7) (va_runV (As := [.int (nI k)]) (rest := []) ⟨hx, hb, hml, hown, hts⟩ (c_X6_verdict l D cI cZ cJ H.size v hf n len ll pen bf bl o6 w7 k hok hst (by first | assumption | omega)) (cwV 1 hts gL_isSo_X6_verdict rfl rfl rfl (by decide +kernel) ⟨Nat.le_of_ble_eq_true rfl, Nat.le_of_ble_eq_true rfl⟩) (kpreL hK hP hD rfl (kSt_recv hst)) rfl rfl hl.1 rfl (lv_room (Nat.le_of_ble_eq_true rfl)) dL_isSo_425 ⟨Nat.le_of_ble_eq_true rfl, Nat.le_of_ble_eq_true rfl⟩) hP hD hS hA (fun r_60 w_61 H locs hw hP hD hS => ?_)
                        obtain ⟨hr9, hst⟩ := hw
                        have hP : va_P D vwCl ([(a1, .inl (cI, 60, .inl v)), (a2, .inl (cI, 60, .inl hf)), (a3, .inl (cI, 60, .inl aa9)), (a4, .inl (cI, 12, .inl gg9)), (a5, .inl (cI, 61, .inl cc9)), (a6, .inl (cI, 61, .inl dd9)), (a7, .inl (cI, 61, .inl ee9)), (a8, .inl (cI, 6, .inl (kq (nI n) (nI len) (nI ll) pen bf bl))), (a9, .inl (cI, 60, .inl r3)), (aA, .inl (cI, 60, .inl o3))] ++ w_61) H := hP
                        have hD : va_D A ([(a1, .inl (cI, 60, .inl v)), (a2, .inl (cI, 60, .inl hf)), (a3, .inl (cI, 60, .inl aa9)), (a4, .inl (cI, 12, .inl gg9)), (a5, .inl (cI, 61, .inl cc9)), (a6, .inl (cI, 61, .inl dd9)), (a7, .inl (cI, 61, .inl ee9)), (a8, .inl (cI, 6, .inl (kq (nI n) (nI len) (nI ll) pen bf bl))), (a9, .inl (cI, 60, .inl r3)), (aA, .inl (cI, 60, .inl o3))] ++ w_61) := hD
                        refine wt_i hr9 ?_
                        refine lv_iload hx hb dL_isSo_428 (lv_at hl 1 rfl) ?_
                        refine lv_icmp_ne (tgt := 437) hx hb dL_isSo_430 (by decide) (fun c430 => ?_) (fun c430 => ?_)
                        · skip
                          exact absurd rfl c430
                        · skip
                          refine lv_iconst (v := nI 1) hx hb dL_isSo_433 (by decide) ?_
                          refine lv_goto (tgt := 438) hx hb dL_isSo_434 (by decide) ?_
                          refine lv_istore (lv' := [(13, .int (nI 1)), (17, .int (nI (kAnom (kVerd v hf n len ll pen bf bl) (k + 1)))), (19, .int (kVerd v hf n len ll pen bf bl k)), (18, .int (nI k)), (16, .int (kBound v hf n len ll pen bf bl)), (15, .int (kDev v hf n len ll pen)), (14, .int (kLast v hf n len ll pen)), (12, .int (kBase v hf n)), (0, .ref o6), (1, .int z), (2, .ref a1), (3, .ref a2), (4, .ref a3), (5, .ref a4), (6, .ref a5), (7, .ref a6), (8, .ref a7), (9, .ref a8), (10, .ref a9), (11, .ref aA)]) hx hb dL_isSo_438 hl (by decide) rfl (fun ls hl => ?_)
                          refine lv_iinc (v := nI (k + 1)) (lv' := [(18, .int (nI (k + 1))), (13, .int (nI 1)), (17, .int (nI (kAnom (kVerd v hf n len ll pen bf bl) (k + 1)))), (19, .int (kVerd v hf n len ll pen bf bl k)), (16, .int (kBound v hf n len ll pen bf bl)), (15, .int (kDev v hf n len ll pen)), (14, .int (kLast v hf n len ll pen)), (12, .int (kBase v hf n)), (0, .ref o6), (1, .int z), (2, .ref a1), (3, .ref a2), (4, .ref a3), (5, .ref a4), (6, .ref a5), (7, .ref a6), (8, .ref a7), (9, .ref a8), (10, .ref a9), (11, .ref aA)]) hx hb dL_isSo_440 hl (k := 3) rfl (by exact nI_add _ 1) (by decide) rfl (fun ls hl => ?_)
                          refine lv_goto (tgt := 342) hx hb dL_isSo_443 (by decide) ?_
                          exact ih_24 _ (by omega) _ _ _ ⟨(k + 1), _, rfl, by omega, hst, hP, hD, hS, lv_sub hl [0, 2, 4, 5, 6, 1, 7, 8, 9, 10, 11, 12, 13, 14, 15, 16, 17, 18, 19] rfl⟩
                      refine lv_iload hx hb dL_isSo_400 (lv_at hl 2 rfl) ?_
                      refine lv_iload hx hb dL_isSo_402 (lv_at hl 0 rfl) ?_
                      refine lv_iconst (v := nI 1) hx hb dL_isSo_404 (by decide) ?_
                      refine lv_icmp_eq (tgt := 414) hx hb dL_isSo_405 (by decide) (fun c405 => ?_) (fun c405 => ?_)
                      · skip
                        refine lv_iconst (v := nI 1) hx hb dL_isSo_414 (by decide) ?_
                        refine lv_goto (tgt := 419) hx hb dL_isSo_415 (by decide) ?_
                        exact j_59 _ _ _ _ ⟨1, rfl, by rw [kAnom, if_pos (by first | exact Or.inl c405 | exact Or.inr c411)], hP, hD, hS, lv_sub hl [0, 1, 2, 3, 4, 5, 6, 7, 8, 9, 10, 11, 12, 13, 14, 15, 16, 17, 18, 19] rfl⟩
                      · skip
                        refine lv_iload hx hb dL_isSo_408 (lv_at hl 0 rfl) ?_
                        refine lv_iconst (v := nI 2) hx hb dL_isSo_410 (by decide) ?_
                        refine lv_icmp_ne (tgt := 418) hx hb dL_isSo_411 (by decide) (fun c411 => ?_) (fun c411 => ?_)
                        · skip
                          refine lv_iconst (v := nI 0) hx hb dL_isSo_418 (by decide) ?_
                          exact j_59 _ _ _ _ ⟨0, rfl, by rw [kAnom, if_neg (fun z9 => z9.elim c405 c411)], hP, hD, hS, lv_sub hl [0, 1, 2, 3, 4, 5, 6, 7, 8, 9, 10, 11, 12, 13, 14, 15, 16, 17, 18, 19] rfl⟩
                        · skip
                          refine lv_iconst (v := nI 1) hx hb dL_isSo_414 (by decide) ?_
                          refine lv_goto (tgt := 419) hx hb dL_isSo_415 (by decide) ?_
                          exact j_59 _ _ _ _ ⟨1, rfl, by rw [kAnom, if_pos (by first | exact Or.inl c405 | exact Or.inr c411)], hP, hD, hS, lv_sub hl [0, 1, 2, 3, 4, 5, 6, 7, 8, 9, 10, 11, 12, 13, 14, 15, 16, 17, 18, 19] rfl⟩
                    refine lv_aload_n hx hb dL_isSo_356 rfl (lv_at hl 10 rfl) ?_
                    refine lv_iload hx hb dL_isSo_357 (lv_at hl 0 rfl) ?_
                    refine va_iald (D := D) hx hb hK hP 1 0 rfl rfl (vp_in_nI (by omega) (by decide)) dL_isSo_359 ?_
                    refine wt_i (by rw [nI_clamp (n := k) (by omega)]) ?_
                    refine lv_iconst (v := nI 1) hx hb dL_isSo_360 (by decide) ?_
                    refine lv_icmp_ne (tgt := 368) hx hb dL_isSo_361 (by decide) (fun c361 => ?_) (fun c361 => ?_)
                    · skip
                      refine lv_aload hx hb dL_isSo_368 (lv_at hl 17 rfl) ?_
                      refine lv_iload hx hb dL_isSo_370 (lv_at hl 0 rfl) ?_
                      refine va_iald (D := D) hx hb hK hP 8 0 rfl rfl (vp_in_nI (by omega) (by decide)) dL_isSo_372 ?_
                      refine wt_i (by rw [nI_clamp (n := k) (by omega)]) ?_
                      refine wt_i (y := kResid v hf n len ll pen k) (show _ = kResid v hf n len ll pen k from hr9r k (by omega)) ?_
                      refine lv_iload hx hb dL_isSo_373 (lv_at hl 2 rfl) ?_
                      refine lv_icmp_le (tgt := 382) hx hb dL_isSo_375 (by decide) (fun c375 => ?_) (fun c375 => ?_)
                      · skip
                        refine lv_aload hx hb dL_isSo_382 (lv_at hl 17 rfl) ?_
                        refine lv_iload hx hb dL_isSo_384 (lv_at hl 0 rfl) ?_
                        refine va_iald (D := D) hx hb hK hP 8 0 rfl rfl (vp_in_nI (by omega) (by decide)) dL_isSo_386 ?_
                        refine wt_i (by rw [nI_clamp (n := k) (by omega)]) ?_
                        refine wt_i (y := kResid v hf n len ll pen k) (show _ = kResid v hf n len ll pen k from hr9r k (by omega)) ?_
                        refine lv_iload hx hb dL_isSo_387 (lv_at hl 2 rfl) ?_
                        refine lv_ineg hx hb dL_isSo_389 ?_
                        refine lv_icmp_ge (tgt := 397) hx hb dL_isSo_390 (by decide) (fun c390 => ?_) (fun c390 => ?_)
                        · skip
                          refine lv_iconst (v := nI 0) hx hb dL_isSo_397 (by decide) ?_
                          have hz : hf k = 0 := (hbit k).elim id (fun z9 => absurd z9 c361)
                          exact j_58 _ _ _ _ ⟨nI 0, rfl, by unfold kVerd; rw [if_pos hz, kSide_w, if_neg (Int32.not_lt.mpr c375), if_neg (Int32.not_lt.mpr c390)]; rfl, hP, hD, hS, lv_sub hl [0, 1, 2, 3, 4, 5, 6, 7, 8, 9, 10, 11, 12, 13, 14, 15, 16, 17, 18] rfl⟩
                        · skip
                          refine lv_iconst (v := nI 2) hx hb dL_isSo_393 (by decide) ?_
                          refine lv_goto (tgt := 398) hx hb dL_isSo_394 (by decide) ?_
                          have hz : hf k = 0 := (hbit k).elim id (fun z9 => absurd z9 c361)
                          exact j_58 _ _ _ _ ⟨nI 2, rfl, by unfold kVerd; rw [if_pos hz, kSide_w, if_neg (Int32.not_lt.mpr c375), if_pos (Int32.not_le.mp c390)]; rfl, hP, hD, hS, lv_sub hl [0, 1, 2, 3, 4, 5, 6, 7, 8, 9, 10, 11, 12, 13, 14, 15, 16, 17, 18] rfl⟩
                      · skip
                        refine lv_iconst (v := nI 1) hx hb dL_isSo_378 (by decide) ?_
                        refine lv_goto (tgt := 398) hx hb dL_isSo_379 (by decide) ?_
                        have hz : hf k = 0 := (hbit k).elim id (fun z9 => absurd z9 c361)
                        exact j_58 _ _ _ _ ⟨nI 1, rfl, by unfold kVerd; rw [if_pos hz, kSide_w, if_pos (Int32.not_le.mp c375)]; rfl, hP, hD, hS, lv_sub hl [0, 1, 2, 3, 4, 5, 6, 7, 8, 9, 10, 11, 12, 13, 14, 15, 16, 17, 18] rfl⟩
                    · skip
                      refine lv_iconst (v := nI 3) hx hb dL_isSo_364 (by decide) ?_
                      refine lv_goto (tgt := 398) hx hb dL_isSo_365 (by decide) ?_
                      exact j_58 _ _ _ _ ⟨nI 3, rfl, by unfold kVerd; rw [if_neg (fun z9 => by rw [z9] at c361; exact absurd c361 (by decide))]; rfl, hP, hD, hS, lv_sub hl [0, 1, 2, 3, 4, 5, 6, 7, 8, 9, 10, 11, 12, 13, 14, 15, 16, 17, 18] rfl⟩
              refine lv_aload hx hb dL_isSo_300 (lv_at hl 13 rfl) ?_
              refine lv_iconst (v := nI 4) hx hb dL_isSo_302 (by decide) ?_
              refine va_iald (D := D) hx hb hK hP 7 0 rfl rfl (vp_in_nI (by omega) (by decide)) dL_isSo_303 ?_
              refine wt_i (by rw [nI_clamp (n := 4) (by omega)]) ?_
              refine wt_i (y := bf) rfl ?_
              refine lv_iload hx hb dL_isSo_304 (lv_at hl 0 rfl) ?_
              refine lv_imul hx hb dL_isSo_306 ?_
              refine lv_bipush (v := nI 100) hx hb dL_isSo_307 (by decide) ?_
              refine lv_idiv hx hb dL_isSo_309 (by decide) ?_
              refine wt_i (y := bf * kDev v hf n len ll pen / 100) (show _ = bf * kDev v hf n len ll pen / 100 from rfl) ?_
              refine lv_aload hx hb dL_isSo_310 (lv_at hl 13 rfl) ?_
              refine lv_iconst (v := nI 5) hx hb dL_isSo_312 (by decide) ?_
              refine va_iald (D := D) hx hb hK hP 7 0 rfl rfl (vp_in_nI (by omega) (by decide)) dL_isSo_313 ?_
              refine wt_i (by rw [nI_clamp (n := 5) (by omega)]) ?_
              refine wt_i (y := bl) rfl ?_
              refine lv_icmp_le (tgt := 330) hx hb dL_isSo_314 (by decide) (fun c314 => ?_) (fun c314 => ?_)
              · skip
                refine lv_aload hx hb dL_isSo_330 (lv_at hl 13 rfl) ?_
                refine lv_iconst (v := nI 5) hx hb dL_isSo_332 (by decide) ?_
                refine va_iald (D := D) hx hb hK hP 7 0 rfl rfl (vp_in_nI (by omega) (by decide)) dL_isSo_333 ?_
                refine wt_i (by rw [nI_clamp (n := 5) (by omega)]) ?_
                refine wt_i (y := bl) rfl ?_
                refine wt_i (y := kBound v hf n len ll pen bf bl) (show _ = kBound v hf n len ll pen bf bl from kbd_le c314) ?_
                exact j_23 _ _ _ _ ⟨rfl, hP, hD, hS, lv_sub hl [0, 1, 2, 3, 4, 5, 6, 7, 8, 9, 10, 11, 12, 13, 14, 15] rfl⟩
              · skip
                refine lv_aload hx hb dL_isSo_317 (lv_at hl 13 rfl) ?_
                refine lv_iconst (v := nI 4) hx hb dL_isSo_319 (by decide) ?_
                refine va_iald (D := D) hx hb hK hP 7 0 rfl rfl (vp_in_nI (by omega) (by decide)) dL_isSo_320 ?_
                refine wt_i (by rw [nI_clamp (n := 4) (by omega)]) ?_
                refine wt_i (y := bf) rfl ?_
                refine lv_iload hx hb dL_isSo_321 (lv_at hl 0 rfl) ?_
                refine lv_imul hx hb dL_isSo_323 ?_
                refine lv_bipush (v := nI 100) hx hb dL_isSo_324 (by decide) ?_
                refine lv_idiv hx hb dL_isSo_326 (by decide) ?_
                refine wt_i (y := kBound v hf n len ll pen bf bl) (show _ = kBound v hf n len ll pen bf bl from kbd_gt c314) ?_
                refine lv_goto (tgt := 334) hx hb dL_isSo_327 (by decide) ?_
                exact j_23 _ _ _ _ ⟨rfl, hP, hD, hS, lv_sub hl [0, 1, 2, 3, 4, 5, 6, 7, 8, 9, 10, 11, 12, 13, 14, 15] rfl⟩
            · skip
              have c197 := knle (a := n) (b := k) c197 (by omega) (by omega)
              refine lv_iload hx hb dL_isSo_200 (lv_at hl 2 rfl) ?_
              refine lv_if_eq (tgt := 286) hx hb dL_isSo_202 (by decide) (fun c202 => ?_) (fun c202 => ?_)
              · skip
                have c202 := keq (a := 1) (b := 0) c202 (by omega) (by omega)
                exact absurd c202 (by decide)
              · skip
                have c202 := kneq (a := 1) (b := 0) c202 (by omega) (by omega)
                refine lv_aload_n hx hb dL_isSo_205 rfl (lv_at hl 4 rfl) ?_
                refine lv_iload hx hb dL_isSo_206 (lv_at hl 0 rfl) ?_
                refine klci (X := [(a1, .inl (cI, 60, .inl v)), (a2, .inl (cI, 60, .inl hf)), (a3, .inl (cI, 60, .inl aa9)), (a4, .inl (cI, 12, .inl gg9)), (a5, .inl (cI, 61, .inl cc9)), (a6, .inl (cI, 61, .inl dd9)), (a7, .inl (cI, 61, .inl ee9)), (a8, .inl (cI, 6, .inl (kq (nI n) (nI len) (nI ll) pen bf bl))), (a9, .inl (cI, 60, .inl r3)), (aA, .inl (cI, 60, .inl o3))]) (pl := w7) (va_runV (As := [.int (nI k)]) (rest := []) ⟨hx, hb, hml, hown, hts⟩ (c_X6_value l D cI cZ cJ H.size v hf n len ll pen bf bl o6 w7 k hok hst (by first | assumption | omega)) (cwV 1 hts gL_isSo_X6_value rfl rfl rfl (by decide +kernel) ⟨Nat.le_of_ble_eq_true rfl, Nat.le_of_ble_eq_true rfl⟩) (kpreL hK hP hD rfl (kSt_recv hst)) rfl rfl hl.1 rfl (lv_room (Nat.le_of_ble_eq_true rfl)) dL_isSo_208 ⟨Nat.le_of_ble_eq_true rfl, Nat.le_of_ble_eq_true rfl⟩) hP hD hS hA (fun r_63 w_64 H locs hw hP hD hS => ?_)
                obtain ⟨hr9, hst⟩ := hw
                have hP : va_P D vwCl ([(a1, .inl (cI, 60, .inl v)), (a2, .inl (cI, 60, .inl hf)), (a3, .inl (cI, 60, .inl aa9)), (a4, .inl (cI, 12, .inl gg9)), (a5, .inl (cI, 61, .inl cc9)), (a6, .inl (cI, 61, .inl dd9)), (a7, .inl (cI, 61, .inl ee9)), (a8, .inl (cI, 6, .inl (kq (nI n) (nI len) (nI ll) pen bf bl))), (a9, .inl (cI, 60, .inl r3)), (aA, .inl (cI, 60, .inl o3))] ++ w_64) H := hP
                have hD : va_D A ([(a1, .inl (cI, 60, .inl v)), (a2, .inl (cI, 60, .inl hf)), (a3, .inl (cI, 60, .inl aa9)), (a4, .inl (cI, 12, .inl gg9)), (a5, .inl (cI, 61, .inl cc9)), (a6, .inl (cI, 61, .inl dd9)), (a7, .inl (cI, 61, .inl ee9)), (a8, .inl (cI, 6, .inl (kq (nI n) (nI len) (nI ll) pen bf bl))), (a9, .inl (cI, 60, .inl r3)), (aA, .inl (cI, 60, .inl o3))] ++ w_64) := hD
                refine wt_i hr9 ?_
                refine lv_aload_n hx hb dL_isSo_211 rfl (lv_at hl 6 rfl) ?_
                refine lv_iload hx hb dL_isSo_212 (lv_at hl 0 rfl) ?_
                refine va_iald (D := D) hx hb hK hP 0 0 rfl rfl (vp_in_nI (by omega) (by decide)) dL_isSo_214 ?_
                refine wt_i (by rw [nI_clamp (n := k) (by omega)]) ?_
                refine lv_icmp_ne (tgt := 250) hx hb dL_isSo_215 (by decide) (fun c215 => ?_) (fun c215 => ?_)
                · skip
                  exact absurd rfl c215
                · skip
                  refine lv_aload_n hx hb dL_isSo_218 rfl (lv_at hl 4 rfl) ?_
                  refine lv_iload hx hb dL_isSo_219 (lv_at hl 0 rfl) ?_
                  refine klci (X := [(a1, .inl (cI, 60, .inl v)), (a2, .inl (cI, 60, .inl hf)), (a3, .inl (cI, 60, .inl aa9)), (a4, .inl (cI, 12, .inl gg9)), (a5, .inl (cI, 61, .inl cc9)), (a6, .inl (cI, 61, .inl dd9)), (a7, .inl (cI, 61, .inl ee9)), (a8, .inl (cI, 6, .inl (kq (nI n) (nI len) (nI ll) pen bf bl))), (a9, .inl (cI, 60, .inl r3)), (aA, .inl (cI, 60, .inl o3))]) (pl := w_64) (va_runV (As := [.int (nI k)]) (rest := []) ⟨hx, hb, hml, hown, hts⟩ (c_X6_adjusted l D cI cZ cJ H.size v hf n len ll pen bf bl o6 w_64 k hok hst (by first | assumption | omega)) (cwV 1 hts gL_isSo_X6_adjusted rfl rfl rfl (by decide +kernel) ⟨Nat.le_of_ble_eq_true rfl, Nat.le_of_ble_eq_true rfl⟩) (kpreL hK hP hD rfl (kSt_recv hst)) rfl rfl hl.1 rfl (lv_room (Nat.le_of_ble_eq_true rfl)) dL_isSo_221 ⟨Nat.le_of_ble_eq_true rfl, Nat.le_of_ble_eq_true rfl⟩) hP hD hS hA (fun r_66 w_67 H locs hw hP hD hS => ?_)
                  obtain ⟨hr9, hst⟩ := hw
                  have hP : va_P D vwCl ([(a1, .inl (cI, 60, .inl v)), (a2, .inl (cI, 60, .inl hf)), (a3, .inl (cI, 60, .inl aa9)), (a4, .inl (cI, 12, .inl gg9)), (a5, .inl (cI, 61, .inl cc9)), (a6, .inl (cI, 61, .inl dd9)), (a7, .inl (cI, 61, .inl ee9)), (a8, .inl (cI, 6, .inl (kq (nI n) (nI len) (nI ll) pen bf bl))), (a9, .inl (cI, 60, .inl r3)), (aA, .inl (cI, 60, .inl o3))] ++ w_67) H := hP
                  have hD : va_D A ([(a1, .inl (cI, 60, .inl v)), (a2, .inl (cI, 60, .inl hf)), (a3, .inl (cI, 60, .inl aa9)), (a4, .inl (cI, 12, .inl gg9)), (a5, .inl (cI, 61, .inl cc9)), (a6, .inl (cI, 61, .inl dd9)), (a7, .inl (cI, 61, .inl ee9)), (a8, .inl (cI, 6, .inl (kq (nI n) (nI len) (nI ll) pen bf bl))), (a9, .inl (cI, 60, .inl r3)), (aA, .inl (cI, 60, .inl o3))] ++ w_67) := hD
                  refine wt_i hr9 ?_
                  refine lv_aload hx hb dL_isSo_224 (lv_at hl 8 rfl) ?_
                  refine lv_iload hx hb dL_isSo_226 (lv_at hl 0 rfl) ?_
                  refine va_iald (D := D) hx hb hK hP 2 0 rfl rfl (vp_in_nI (by omega) (by decide)) dL_isSo_228 ?_
                  refine wt_i (by rw [nI_clamp (n := k) (by omega)]) ?_
                  refine wt_i (y := kAdj v hf n len k) (show _ = kAdj v hf n len k from hav k (by omega)) ?_
                  refine lv_icmp_ne (tgt := 250) hx hb dL_isSo_229 (by decide) (fun c229 => ?_) (fun c229 => ?_)
                  · skip
                    exact absurd rfl c229
                  · skip
                    refine lv_aload_n hx hb dL_isSo_232 rfl (lv_at hl 4 rfl) ?_
                    refine lv_iload hx hb dL_isSo_233 (lv_at hl 0 rfl) ?_
                    refine klci (X := [(a1, .inl (cI, 60, .inl v)), (a2, .inl (cI, 60, .inl hf)), (a3, .inl (cI, 60, .inl aa9)), (a4, .inl (cI, 12, .inl gg9)), (a5, .inl (cI, 61, .inl cc9)), (a6, .inl (cI, 61, .inl dd9)), (a7, .inl (cI, 61, .inl ee9)), (a8, .inl (cI, 6, .inl (kq (nI n) (nI len) (nI ll) pen bf bl))), (a9, .inl (cI, 60, .inl r3)), (aA, .inl (cI, 60, .inl o3))]) (pl := w_67) (va_runV (As := [.int (nI k)]) (rest := []) ⟨hx, hb, hml, hown, hts⟩ (c_X6_residual l D cI cZ cJ H.size v hf n len ll pen bf bl o6 w_67 k hok hst (by first | assumption | omega)) (cwV 1 hts gL_isSo_X6_residual rfl rfl rfl (by decide +kernel) ⟨Nat.le_of_ble_eq_true rfl, Nat.le_of_ble_eq_true rfl⟩) (kpreL hK hP hD rfl (kSt_recv hst)) rfl rfl hl.1 rfl (lv_room (Nat.le_of_ble_eq_true rfl)) dL_isSo_235 ⟨Nat.le_of_ble_eq_true rfl, Nat.le_of_ble_eq_true rfl⟩) hP hD hS hA (fun r_69 w_70 H locs hw hP hD hS => ?_)
                    obtain ⟨hr9, hst⟩ := hw
                    have hP : va_P D vwCl ([(a1, .inl (cI, 60, .inl v)), (a2, .inl (cI, 60, .inl hf)), (a3, .inl (cI, 60, .inl aa9)), (a4, .inl (cI, 12, .inl gg9)), (a5, .inl (cI, 61, .inl cc9)), (a6, .inl (cI, 61, .inl dd9)), (a7, .inl (cI, 61, .inl ee9)), (a8, .inl (cI, 6, .inl (kq (nI n) (nI len) (nI ll) pen bf bl))), (a9, .inl (cI, 60, .inl r3)), (aA, .inl (cI, 60, .inl o3))] ++ w_70) H := hP
                    have hD : va_D A ([(a1, .inl (cI, 60, .inl v)), (a2, .inl (cI, 60, .inl hf)), (a3, .inl (cI, 60, .inl aa9)), (a4, .inl (cI, 12, .inl gg9)), (a5, .inl (cI, 61, .inl cc9)), (a6, .inl (cI, 61, .inl dd9)), (a7, .inl (cI, 61, .inl ee9)), (a8, .inl (cI, 6, .inl (kq (nI n) (nI len) (nI ll) pen bf bl))), (a9, .inl (cI, 60, .inl r3)), (aA, .inl (cI, 60, .inl o3))] ++ w_70) := hD
                    refine wt_i hr9 ?_
                    refine lv_aload hx hb dL_isSo_238 (lv_at hl 14 rfl) ?_
                    refine lv_iload hx hb dL_isSo_240 (lv_at hl 0 rfl) ?_
                    refine va_iald (D := D) hx hb hK hP 8 0 rfl rfl (vp_in_nI (by omega) (by decide)) dL_isSo_242 ?_
                    refine wt_i (by rw [nI_clamp (n := k) (by omega)]) ?_
                    refine wt_i (y := kResid v hf n len ll pen k) (show _ = kResid v hf n len ll pen k from hr9r k (by omega)) ?_
                    refine lv_icmp_ne (tgt := 250) hx hb dL_isSo_243 (by decide) (fun c243 => ?_) (fun c243 => ?_)
                    · skip
                      exact absurd rfl c243
                    · skip
                      refine lv_iconst (v := nI 1) hx hb dL_isSo_246 (by decide) ?_
                      refine lv_goto (tgt := 251) hx hb dL_isSo_247 (by decide) ?_
                      refine lv_istore (lv' := [(13, .int (nI 1)), (15, .int (nI k)), (14, .int (kLast v hf n len ll pen)), (12, .int (kBase v hf n)), (0, .ref o6), (1, .int z), (2, .ref a1), (3, .ref a2), (4, .ref a3), (5, .ref a4), (6, .ref a5), (7, .ref a6), (8, .ref a7), (9, .ref a8), (10, .ref a9), (11, .ref aA)]) hx hb dL_isSo_251 hl (by decide) rfl (fun ls hl => ?_)
                      refine lv_aload hx hb dL_isSo_253 (lv_at hl 15 rfl) ?_
                      refine lv_iload hx hb dL_isSo_255 (lv_at hl 1 rfl) ?_
                      refine lv_aload hx hb dL_isSo_257 (lv_at hl 14 rfl) ?_
                      refine lv_iload hx hb dL_isSo_259 (lv_at hl 1 rfl) ?_
                      refine va_iald (D := D) hx hb hK hP 8 0 rfl rfl (vp_in_nI (by omega) (by decide)) dL_isSo_261 ?_
                      refine wt_i (by rw [nI_clamp (n := k) (by omega)]) ?_
                      refine wt_i (y := kResid v hf n len ll pen k) (show _ = kResid v hf n len ll pen k from hr9r k (by omega)) ?_
                      refine lv_if_ge (tgt := 274) hx hb dL_isSo_262 (by decide) (fun c262 => ?_) (fun c262 => ?_)
                      · skip
                        refine lv_aload hx hb dL_isSo_274 (lv_at hl 14 rfl) ?_
                        refine lv_iload hx hb dL_isSo_276 (lv_at hl 1 rfl) ?_
                        refine va_iald (D := D) hx hb hK hP 8 0 rfl rfl (vp_in_nI (by omega) (by decide)) dL_isSo_278 ?_
                        refine wt_i (by rw [nI_clamp (n := k) (by omega)]) ?_
                        refine wt_i (y := kab (kResid v hf n len ll pen k)) (show _ = kab (kResid v hf n len ll pen k) from by rw [hr9r k (by omega)]; unfold kab; rw [if_pos c262]) ?_
                        refine va_iast (D := D) hx hb hK hP hD hS 9 0 rfl rfl (vp_in_nI (by omega) (by decide)) dL_isSo_279 (fun H locs hP hD hS => ?_)
                        rw [nI_clamp (n := k) (by omega)] at hP hD
                        have hP : va_P D vwCl ([(a1, .inl (cI, 60, .inl v)), (a2, .inl (cI, 60, .inl hf)), (a3, .inl (cI, 60, .inl aa9)), (a4, .inl (cI, 12, .inl gg9)), (a5, .inl (cI, 61, .inl cc9)), (a6, .inl (cI, 61, .inl dd9)), (a7, .inl (cI, 61, .inl ee9)), (a8, .inl (cI, 6, .inl (kq (nI n) (nI len) (nI ll) pen bf bl))), (a9, .inl (cI, 60, .inl r3)), (aA, .inl (cI, 60, .inl (upd o3 k (kab (kResid v hf n len ll pen k)))))] ++ w_70) H := hP
                        have hD : va_D A ([(a1, .inl (cI, 60, .inl v)), (a2, .inl (cI, 60, .inl hf)), (a3, .inl (cI, 60, .inl aa9)), (a4, .inl (cI, 12, .inl gg9)), (a5, .inl (cI, 61, .inl cc9)), (a6, .inl (cI, 61, .inl dd9)), (a7, .inl (cI, 61, .inl ee9)), (a8, .inl (cI, 6, .inl (kq (nI n) (nI len) (nI ll) pen bf bl))), (a9, .inl (cI, 60, .inl r3)), (aA, .inl (cI, 60, .inl (upd o3 k (kab (kResid v hf n len ll pen k)))))] ++ w_70) := hD
                        refine lv_iinc (v := nI (k + 1)) (lv' := [(15, .int (nI (k + 1))), (13, .int (nI 1)), (14, .int (kLast v hf n len ll pen)), (12, .int (kBase v hf n)), (0, .ref o6), (1, .int z), (2, .ref a1), (3, .ref a2), (4, .ref a3), (5, .ref a4), (6, .ref a5), (7, .ref a6), (8, .ref a7), (9, .ref a8), (10, .ref a9), (11, .ref aA)]) hx hb dL_isSo_280 hl (k := 1) rfl (by exact nI_add _ 1) (by decide) rfl (fun ls hl => ?_)
                        refine lv_goto (tgt := 191) hx hb dL_isSo_283 (by decide) ?_
                        exact ih_18 _ (by omega) _ _ _ ⟨(k + 1), _, _, rfl, by omega, hst, fun j hj => by
                              rcases Nat.eq_or_lt_of_le (Nat.le_of_lt_succ hj) with z9 | z9
                              · rw [z9, pk_us]
                              · rw [pk_un (by omega)]
                                exact ho3 j z9, hP, hD, hS, lv_sub hl [0, 2, 1, 3, 4, 5, 6, 7, 8, 9, 10, 11, 12, 13, 14, 15] rfl⟩
                      · skip
                        refine lv_aload hx hb dL_isSo_265 (lv_at hl 14 rfl) ?_
                        refine lv_iload hx hb dL_isSo_267 (lv_at hl 1 rfl) ?_
                        refine va_iald (D := D) hx hb hK hP 8 0 rfl rfl (vp_in_nI (by omega) (by decide)) dL_isSo_269 ?_
                        refine wt_i (by rw [nI_clamp (n := k) (by omega)]) ?_
                        refine wt_i (y := kResid v hf n len ll pen k) (show _ = kResid v hf n len ll pen k from hr9r k (by omega)) ?_
                        refine lv_ineg hx hb dL_isSo_270 ?_
                        refine wt_i (y := kab (kResid v hf n len ll pen k)) (show _ = kab (kResid v hf n len ll pen k) from by unfold kab; rw [if_neg c262, Int32.zero_sub]) ?_
                        refine lv_goto (tgt := 279) hx hb dL_isSo_271 (by decide) ?_
                        refine va_iast (D := D) hx hb hK hP hD hS 9 0 rfl rfl (vp_in_nI (by omega) (by decide)) dL_isSo_279 (fun H locs hP hD hS => ?_)
                        rw [nI_clamp (n := k) (by omega)] at hP hD
                        have hP : va_P D vwCl ([(a1, .inl (cI, 60, .inl v)), (a2, .inl (cI, 60, .inl hf)), (a3, .inl (cI, 60, .inl aa9)), (a4, .inl (cI, 12, .inl gg9)), (a5, .inl (cI, 61, .inl cc9)), (a6, .inl (cI, 61, .inl dd9)), (a7, .inl (cI, 61, .inl ee9)), (a8, .inl (cI, 6, .inl (kq (nI n) (nI len) (nI ll) pen bf bl))), (a9, .inl (cI, 60, .inl r3)), (aA, .inl (cI, 60, .inl (upd o3 k (kab (kResid v hf n len ll pen k)))))] ++ w_70) H := hP
                        have hD : va_D A ([(a1, .inl (cI, 60, .inl v)), (a2, .inl (cI, 60, .inl hf)), (a3, .inl (cI, 60, .inl aa9)), (a4, .inl (cI, 12, .inl gg9)), (a5, .inl (cI, 61, .inl cc9)), (a6, .inl (cI, 61, .inl dd9)), (a7, .inl (cI, 61, .inl ee9)), (a8, .inl (cI, 6, .inl (kq (nI n) (nI len) (nI ll) pen bf bl))), (a9, .inl (cI, 60, .inl r3)), (aA, .inl (cI, 60, .inl (upd o3 k (kab (kResid v hf n len ll pen k)))))] ++ w_70) := hD
                        refine lv_iinc (v := nI (k + 1)) (lv' := [(15, .int (nI (k + 1))), (13, .int (nI 1)), (14, .int (kLast v hf n len ll pen)), (12, .int (kBase v hf n)), (0, .ref o6), (1, .int z), (2, .ref a1), (3, .ref a2), (4, .ref a3), (5, .ref a4), (6, .ref a5), (7, .ref a6), (8, .ref a7), (9, .ref a8), (10, .ref a9), (11, .ref aA)]) hx hb dL_isSo_280 hl (k := 1) rfl (by exact nI_add _ 1) (by decide) rfl (fun ls hl => ?_)
                        refine lv_goto (tgt := 191) hx hb dL_isSo_283 (by decide) ?_
                        exact ih_18 _ (by omega) _ _ _ ⟨(k + 1), _, _, rfl, by omega, hst, fun j hj => by
                              rcases Nat.eq_or_lt_of_le (Nat.le_of_lt_succ hj) with z9 | z9
                              · rw [z9, pk_us]
                              · rw [pk_un (by omega)]
                                exact ho3 j z9, hP, hD, hS, lv_sub hl [0, 2, 1, 3, 4, 5, 6, 7, 8, 9, 10, 11, 12, 13, 14, 15] rfl⟩
          · skip
            have c126 := knle (a := n) (b := (kpos (kEn v hf n len ll pen) i)) c126 (by omega) (by omega)
            have hi9 : i < kFnd v hf n len ll pen := by
              rcases Nat.lt_or_ge i (kFnd v hf n len ll pen) with z9 | z9
              · exact z9
              · have ei : i = kFnd v hf n len ll pen := by omega
                rw [ei, f1] at c126
                omega
            have hch9 := hch i hi9
            refine lv_aload hx hb dL_isSo_129 (lv_at hl 8 rfl) ?_
            refine lv_aload_n hx hb dL_isSo_131 rfl (lv_at hl 7 rfl) ?_
            refine lv_iload hx hb dL_isSo_132 (lv_at hl 0 rfl) ?_
            refine lv_aload hx hb dL_isSo_134 (lv_at hl 12 rfl) ?_
            refine lv_iload hx hb dL_isSo_136 (lv_at hl 0 rfl) ?_
            refine va_iald (D := D) hx hb hK hP 6 0 rfl rfl (vp_in_nI (by omega) (by decide)) dL_isSo_138 ?_
            refine wt_i (by rw [nI_clamp (n := (kpos (kEn v hf n len ll pen) i)) (by omega)]) ?_
            refine wt_i (y := nI (kpos (kEn v hf n len ll pen) (i + 1))) (hch9.1) ?_
            refine lv_iconst (v := nI 1) hx hb dL_isSo_139 (by decide) ?_
            refine klhi (X := [(a1, .inl (cI, 60, .inl v)), (a2, .inl (cI, 60, .inl hf)), (a3, .inl (cI, 60, .inl aa9)), (a4, .inl (cI, 12, .inl gg9)), (a5, .inl (cI, 61, .inl cc9)), (a6, .inl (cI, 61, .inl dd9)), (a7, .inl (cI, 61, .inl ee9)), (a8, .inl (cI, 6, .inl (kq (nI n) (nI len) (nI ll) pen bf bl))), (a9, .inl (cI, 60, .inl r3)), (aA, .inl (cI, 60, .inl o1))]) (pl := w7) (wr := [(a1, .inl (cI, 60, .inl v)), (a4, .inl (cI, 12, .inl gg9)), (a5, .inl (cI, 61, .inl cc9)), (a6, .inl (cI, 61, .inl dd9)), (a7, .inl (cI, 61, .inl ee9)), (a8, .inl (cI, 6, .inl (kq (nI n) (nI len) (nI ll) pen bf bl))), (a9, .inl (cI, 60, .inl r3)), (aA, .inl (cI, 60, .inl o1))]) (pre := [(a3, .inl (cI, 60, .inl aa9)), (a2, .inl (cI, 60, .inl hf))]) (va_runS (As := [.ref a3, .ref a2, .int (nI (kpos (kEn v hf n len ll pen) i)), .int (nI (kpos (kEn v hf n len ll pen) (i + 1))), .int (nI 1)]) (rest := []) ⟨hx, hb, hml, hown, hts⟩ (c_L_median1 l D cI cZ cJ H.size a3 a2 aa9 hf (kpos (kEn v hf n len ll pen) i) (kpos (kEn v hf n len ll pen) (i + 1)) (by first | assumption | omega) (by first | assumption | omega) (by first | assumption | omega)) (va_cwS 5 hts gL_isSo_L_median rfl rfl rfl (by decide +kernel) ⟨Nat.le_of_ble_eq_true rfl, Nat.le_of_ble_eq_true rfl⟩) (kpreH hK hP hD [2, 1] (by decide +kernel) rfl) rfl rfl hl.1 rfl (lv_room (Nat.le_of_ble_eq_true rfl)) dL_isSo_140 ⟨Nat.le_of_ble_eq_true rfl, Nat.le_of_ble_eq_true rfl⟩) hP hD hS hA [2, 1] [0, 3, 4, 5, 6, 7, 8, 9] rfl rfl (by decide +kernel) (by decide +kernel) (fun r_72 _ H locs hw hP hD hS => ?_)
            have hP := kpermP (X := [(a1, .inl (cI, 60, .inl v)), (a4, .inl (cI, 12, .inl gg9)), (a5, .inl (cI, 61, .inl cc9)), (a6, .inl (cI, 61, .inl dd9)), (a7, .inl (cI, 61, .inl ee9)), (a8, .inl (cI, 6, .inl (kq (nI n) (nI len) (nI ll) pen bf bl))), (a9, .inl (cI, 60, .inl r3)), (aA, .inl (cI, 60, .inl o1)), (a3, .inl (cI, 60, .inl aa9)), (a2, .inl (cI, 60, .inl hf))]) (X' := [(a1, .inl (cI, 60, .inl v)), (a2, .inl (cI, 60, .inl hf)), (a3, .inl (cI, 60, .inl aa9)), (a4, .inl (cI, 12, .inl gg9)), (a5, .inl (cI, 61, .inl cc9)), (a6, .inl (cI, 61, .inl dd9)), (a7, .inl (cI, 61, .inl ee9)), (a8, .inl (cI, 6, .inl (kq (nI n) (nI len) (nI ll) pen bf bl))), (a9, .inl (cI, 60, .inl r3)), (aA, .inl (cI, 60, .inl o1))]) hP [0, 9, 8, 1, 2, 3, 4, 5, 6, 7] rfl
            have hD := kpermD (X := [(a1, .inl (cI, 60, .inl v)), (a4, .inl (cI, 12, .inl gg9)), (a5, .inl (cI, 61, .inl cc9)), (a6, .inl (cI, 61, .inl dd9)), (a7, .inl (cI, 61, .inl ee9)), (a8, .inl (cI, 6, .inl (kq (nI n) (nI len) (nI ll) pen bf bl))), (a9, .inl (cI, 60, .inl r3)), (aA, .inl (cI, 60, .inl o1)), (a3, .inl (cI, 60, .inl aa9)), (a2, .inl (cI, 60, .inl hf))]) (X' := [(a1, .inl (cI, 60, .inl v)), (a2, .inl (cI, 60, .inl hf)), (a3, .inl (cI, 60, .inl aa9)), (a4, .inl (cI, 12, .inl gg9)), (a5, .inl (cI, 61, .inl cc9)), (a6, .inl (cI, 61, .inl dd9)), (a7, .inl (cI, 61, .inl ee9)), (a8, .inl (cI, 6, .inl (kq (nI n) (nI len) (nI ll) pen bf bl))), (a9, .inl (cI, 60, .inl r3)), (aA, .inl (cI, 60, .inl o1))]) hD [0, 9, 8, 1, 2, 3, 4, 5, 6, 7] (by decide +kernel) rfl
            have hP : va_P D vwCl ([(a1, .inl (cI, 60, .inl v)), (a2, .inl (cI, 60, .inl hf)), (a3, .inl (cI, 60, .inl aa9)), (a4, .inl (cI, 12, .inl gg9)), (a5, .inl (cI, 61, .inl cc9)), (a6, .inl (cI, 61, .inl dd9)), (a7, .inl (cI, 61, .inl ee9)), (a8, .inl (cI, 6, .inl (kq (nI n) (nI len) (nI ll) pen bf bl))), (a9, .inl (cI, 60, .inl r3)), (aA, .inl (cI, 60, .inl o1))] ++ w7) H := hP
            have hD : va_D A ([(a1, .inl (cI, 60, .inl v)), (a2, .inl (cI, 60, .inl hf)), (a3, .inl (cI, 60, .inl aa9)), (a4, .inl (cI, 12, .inl gg9)), (a5, .inl (cI, 61, .inl cc9)), (a6, .inl (cI, 61, .inl dd9)), (a7, .inl (cI, 61, .inl ee9)), (a8, .inl (cI, 6, .inl (kq (nI n) (nI len) (nI ll) pen bf bl))), (a9, .inl (cI, 60, .inl r3)), (aA, .inl (cI, 60, .inl o1))] ++ w7) := hD
            have hr9 : r_72 = kMed (kseg aa9 hf (kpos (kEn v hf n len ll pen) i) (kpos (kEn v hf n len ll pen) (i + 1))) := hw
            refine wt_i hr9 ?_
            refine wt_i (y := kLev (kAdj v hf n len) hf (kpos (kEn v hf n len ll pen) i) (kpos (kEn v hf n len ll pen) (i + 1))) (show _ = kLev (kAdj v hf n len) hf (kpos (kEn v hf n len ll pen) i) (kpos (kEn v hf n len ll pen) (i + 1)) from kLev_congr (fun k _ q9 => hav k (by omega))) ?_
            refine lv_istore (lv' := [(14, .int (kLev (kAdj v hf n len) hf (kpos (kEn v hf n len ll pen) i) (kpos (kEn v hf n len ll pen) (i + 1)))), (15, .int (nI (kpos (kEn v hf n len ll pen) i))), (13, .int (nI 1)), (12, .int (kBase v hf n)), (0, .ref o6), (1, .int z), (2, .ref a1), (3, .ref a2), (4, .ref a3), (5, .ref a4), (6, .ref a5), (7, .ref a6), (8, .ref a7), (9, .ref a8), (10, .ref a9), (11, .ref aA)]) hx hb dL_isSo_143 hl (by decide) rfl (fun ls hl => ?_)
            refine lv_iload hx hb dL_isSo_145 (lv_at hl 1 rfl) ?_
            refine lv_istore (lv' := [(16, .int (nI (kpos (kEn v hf n len ll pen) i))), (14, .int (kLev (kAdj v hf n len) hf (kpos (kEn v hf n len ll pen) i) (kpos (kEn v hf n len ll pen) (i + 1)))), (15, .int (nI (kpos (kEn v hf n len ll pen) i))), (13, .int (nI 1)), (12, .int (kBase v hf n)), (0, .ref o6), (1, .int z), (2, .ref a1), (3, .ref a2), (4, .ref a3), (5, .ref a4), (6, .ref a5), (7, .ref a6), (8, .ref a7), (9, .ref a8), (10, .ref a9), (11, .ref aA)]) hx hb dL_isSo_147 hl (by decide) rfl (fun ls hl => ?_)
            refine wl_loop (fun (d9 : Nat) (H : Heap) (locs : List Loc) (ls : Array Slot) => ∃ (k : Nat) (r4 : Nat → Int32), d9 = (kpos (kEn v hf n len ll pen) (i + 1)) - k ∧ ((kpos (kEn v hf n len ll pen) i) ≤ k) ∧ (k ≤ (kpos (kEn v hf n len ll pen) (i + 1))) ∧ (∀ j, j < k → r4 j = kResid v hf n len ll pen j) ∧ va_P D vwCl ([(a1, .inl (cI, 60, .inl v)), (a2, .inl (cI, 60, .inl hf)), (a3, .inl (cI, 60, .inl aa9)), (a4, .inl (cI, 12, .inl gg9)), (a5, .inl (cI, 61, .inl cc9)), (a6, .inl (cI, 61, .inl dd9)), (a7, .inl (cI, 61, .inl ee9)), (a8, .inl (cI, 6, .inl (kq (nI n) (nI len) (nI ll) pen bf bl))), (a9, .inl (cI, 60, .inl r4)), (aA, .inl (cI, 60, .inl o1))] ++ w7) H ∧ va_D A ([(a1, .inl (cI, 60, .inl v)), (a2, .inl (cI, 60, .inl hf)), (a3, .inl (cI, 60, .inl aa9)), (a4, .inl (cI, 12, .inl gg9)), (a5, .inl (cI, 61, .inl cc9)), (a6, .inl (cI, 61, .inl dd9)), (a7, .inl (cI, 61, .inl ee9)), (a8, .inl (cI, 6, .inl (kq (nI n) (nI len) (nI ll) pen bf bl))), (a9, .inl (cI, 60, .inl r4)), (aA, .inl (cI, 60, .inl o1))] ++ w7) ∧ va_S A s.heap H locs ∧ lv_has ls 23 [(16, .int (nI k)), (14, .int (kLev (kAdj v hf n len) hf (kpos (kEn v hf n len ll pen) i) (kpos (kEn v hf n len ll pen) (i + 1)))), (15, .int (nI (kpos (kEn v hf n len ll pen) i))), (13, .int (nI 1)), (12, .int (kBase v hf n)), (0, .ref o6), (1, .int z), (2, .ref a1), (3, .ref a2), (4, .ref a3), (5, .ref a4), (6, .ref a5), (7, .ref a6), (8, .ref a7), (9, .ref a8), (10, .ref a9), (11, .ref aA)]) ?_ _ ⟨(kpos (kEn v hf n len ll pen) i), _, rfl, Nat.le_refl _, by omega, hr3, hP, hD, hS, lv_sub hl [0, 1, 2, 3, 4, 5, 6, 7, 8, 9, 10, 11, 12, 13, 14, 15, 16] rfl⟩
            rintro d_75 H locs ls ⟨k, r4, hd_76, hk1, hk2, hr4, hP, hD, hS, hl⟩ ih_74
            refine lv_iload hx hb dL_isSo_149 (lv_at hl 0 rfl) ?_
            refine lv_aload hx hb dL_isSo_151 (lv_at hl 13 rfl) ?_
            refine lv_iload hx hb dL_isSo_153 (lv_at hl 2 rfl) ?_
            refine va_iald (D := D) hx hb hK hP 6 0 rfl rfl (vp_in_nI (by omega) (by decide)) dL_isSo_155 ?_
            refine wt_i (by rw [nI_clamp (n := (kpos (kEn v hf n len ll pen) i)) (by omega)]) ?_
            refine wt_i (y := nI (kpos (kEn v hf n len ll pen) (i + 1))) (hch9.1) ?_
            refine lv_icmp_ge (tgt := 178) hx hb dL_isSo_156 (by decide) (fun c156 => ?_) (fun c156 => ?_)
            · skip
              have c156 := kle (a := (kpos (kEn v hf n len ll pen) (i + 1))) (b := k) c156 (by omega) (by omega)
              have ek : k = (kpos (kEn v hf n len ll pen) (i + 1)) := by omega
              rw [ek] at hr4
              refine lv_aload hx hb dL_isSo_178 (lv_at hl 13 rfl) ?_
              refine lv_iload hx hb dL_isSo_180 (lv_at hl 2 rfl) ?_
              refine va_iald (D := D) hx hb hK hP 6 0 rfl rfl (vp_in_nI (by omega) (by decide)) dL_isSo_182 ?_
              refine wt_i (by rw [nI_clamp (n := (kpos (kEn v hf n len ll pen) i)) (by omega)]) ?_
              refine wt_i (y := nI (kpos (kEn v hf n len ll pen) (i + 1))) (hch9.1) ?_
              refine lv_istore (lv' := [(15, .int (nI (kpos (kEn v hf n len ll pen) (i + 1)))), (16, .int (nI k)), (14, .int (kLev (kAdj v hf n len) hf (kpos (kEn v hf n len ll pen) i) (kpos (kEn v hf n len ll pen) (i + 1)))), (13, .int (nI 1)), (12, .int (kBase v hf n)), (0, .ref o6), (1, .int z), (2, .ref a1), (3, .ref a2), (4, .ref a3), (5, .ref a4), (6, .ref a5), (7, .ref a6), (8, .ref a7), (9, .ref a8), (10, .ref a9), (11, .ref aA)]) hx hb dL_isSo_183 hl (by decide) rfl (fun ls hl => ?_)
              refine lv_goto (tgt := 120) hx hb dL_isSo_185 (by decide) ?_
              exact ih_15 _ (by omega) _ _ _ ⟨(i + 1), _, _, rfl, hi9, hch9.2.2, by rw [if_neg (by omega)]; exact (klvk hn hi9 (by omega) (by omega)).symm, hr4, hP, hD, hS, lv_sub hl [0, 2, 3, 4, 5, 6, 7, 8, 9, 10, 11, 12, 13, 14, 15, 16] rfl⟩
            · skip
              have c156 := knle (a := (kpos (kEn v hf n len ll pen) (i + 1))) (b := k) c156 (by omega) (by omega)
              refine lv_aload hx hb dL_isSo_159 (lv_at hl 15 rfl) ?_
              refine lv_iload hx hb dL_isSo_161 (lv_at hl 0 rfl) ?_
              refine lv_aload hx hb dL_isSo_163 (lv_at hl 9 rfl) ?_
              refine lv_iload hx hb dL_isSo_165 (lv_at hl 0 rfl) ?_
              refine va_iald (D := D) hx hb hK hP 2 0 rfl rfl (vp_in_nI (by omega) (by decide)) dL_isSo_167 ?_
              refine wt_i (by rw [nI_clamp (n := k) (by omega)]) ?_
              refine lv_iload hx hb dL_isSo_168 (lv_at hl 1 rfl) ?_
              refine lv_isub hx hb dL_isSo_170 ?_
              refine wt_i (y := kResid v hf n len ll pen k) (show _ = kResid v hf n len ll pen k from by rw [hav k (by omega), ← klvk (ll := ll) (pen := pen) hn hi9 hk1 c156]; rfl) ?_
              refine va_iast (D := D) hx hb hK hP hD hS 8 0 rfl rfl (vp_in_nI (by omega) (by decide)) dL_isSo_171 (fun H locs hP hD hS => ?_)
              rw [nI_clamp (n := k) (by omega)] at hP hD
              have hP : va_P D vwCl ([(a1, .inl (cI, 60, .inl v)), (a2, .inl (cI, 60, .inl hf)), (a3, .inl (cI, 60, .inl aa9)), (a4, .inl (cI, 12, .inl gg9)), (a5, .inl (cI, 61, .inl cc9)), (a6, .inl (cI, 61, .inl dd9)), (a7, .inl (cI, 61, .inl ee9)), (a8, .inl (cI, 6, .inl (kq (nI n) (nI len) (nI ll) pen bf bl))), (a9, .inl (cI, 60, .inl (upd r4 k (kResid v hf n len ll pen k)))), (aA, .inl (cI, 60, .inl o1))] ++ w7) H := hP
              have hD : va_D A ([(a1, .inl (cI, 60, .inl v)), (a2, .inl (cI, 60, .inl hf)), (a3, .inl (cI, 60, .inl aa9)), (a4, .inl (cI, 12, .inl gg9)), (a5, .inl (cI, 61, .inl cc9)), (a6, .inl (cI, 61, .inl dd9)), (a7, .inl (cI, 61, .inl ee9)), (a8, .inl (cI, 6, .inl (kq (nI n) (nI len) (nI ll) pen bf bl))), (a9, .inl (cI, 60, .inl (upd r4 k (kResid v hf n len ll pen k)))), (aA, .inl (cI, 60, .inl o1))] ++ w7) := hD
              refine lv_iinc (v := nI (k + 1)) (lv' := [(16, .int (nI (k + 1))), (14, .int (kLev (kAdj v hf n len) hf (kpos (kEn v hf n len ll pen) i) (kpos (kEn v hf n len ll pen) (i + 1)))), (15, .int (nI (kpos (kEn v hf n len ll pen) i))), (13, .int (nI 1)), (12, .int (kBase v hf n)), (0, .ref o6), (1, .int z), (2, .ref a1), (3, .ref a2), (4, .ref a3), (5, .ref a4), (6, .ref a5), (7, .ref a6), (8, .ref a7), (9, .ref a8), (10, .ref a9), (11, .ref aA)]) hx hb dL_isSo_172 hl (k := 0) rfl (by exact nI_add _ 1) (by decide) rfl (fun ls hl => ?_)
              refine lv_goto (tgt := 149) hx hb dL_isSo_175 (by decide) ?_
              exact ih_74 _ (by omega) _ _ _ ⟨(k + 1), _, rfl, by omega, by omega, fun j hj => by
                    rcases Nat.eq_or_lt_of_le (Nat.le_of_lt_succ hj) with z9 | z9
                    · rw [z9, pk_us]
                    · rw [pk_un (by omega)]
                      exact hr4 j z9, hP, hD, hS, lv_sub hl [0, 1, 2, 3, 4, 5, 6, 7, 8, 9, 10, 11, 12, 13, 14, 15, 16] rfl⟩
        · skip
          have c79 := knle (a := len) (b := p) c79 (by omega) (by omega)
          refine lv_iload hx hb dL_isSo_82 (lv_at hl 1 rfl) ?_
          refine lv_if_eq (tgt := 114) hx hb dL_isSo_84 (by decide) (fun c84 => ?_) (fun c84 => ?_)
          · skip
            have c84 := keq (a := 1) (b := 0) c84 (by omega) (by omega)
            exact absurd c84 (by decide)
          · skip
            have c84 := kneq (a := 1) (b := 0) c84 (by omega) (by omega)
            refine lv_aload_n hx hb dL_isSo_87 rfl (lv_at hl 3 rfl) ?_
            refine lv_iload hx hb dL_isSo_88 (lv_at hl 0 rfl) ?_
            refine klci (X := [(a1, .inl (cI, 60, .inl v)), (a2, .inl (cI, 60, .inl hf)), (a3, .inl (cI, 60, .inl aa9)), (a4, .inl (cI, 12, .inl gg9)), (a5, .inl (cI, 61, .inl cc9)), (a6, .inl (cI, 61, .inl dd9)), (a7, .inl (cI, 61, .inl ee9)), (a8, .inl (cI, 6, .inl (kq (nI n) (nI len) (nI ll) pen bf bl))), (a9, .inl (cI, 60, .inl r1)), (aA, .inl (cI, 60, .inl o1))]) (pl := w7) (va_runV (As := [.int (nI p)]) (rest := []) ⟨hx, hb, hml, hown, hts⟩ (c_X6_season l D cI cZ cJ H.size v hf n len ll pen bf bl o6 w7 p hok hst (by first | assumption | omega)) (cwV 1 hts gL_isSo_X6_season rfl rfl rfl (by decide +kernel) ⟨Nat.le_of_ble_eq_true rfl, Nat.le_of_ble_eq_true rfl⟩) (kpreL hK hP hD rfl (kSt_recv hst)) rfl rfl hl.1 rfl (lv_room (Nat.le_of_ble_eq_true rfl)) dL_isSo_90 ⟨Nat.le_of_ble_eq_true rfl, Nat.le_of_ble_eq_true rfl⟩) hP hD hS hA (fun r_77 w_78 H locs hw hP hD hS => ?_)
            obtain ⟨hr9, hst⟩ := hw
            have hP : va_P D vwCl ([(a1, .inl (cI, 60, .inl v)), (a2, .inl (cI, 60, .inl hf)), (a3, .inl (cI, 60, .inl aa9)), (a4, .inl (cI, 12, .inl gg9)), (a5, .inl (cI, 61, .inl cc9)), (a6, .inl (cI, 61, .inl dd9)), (a7, .inl (cI, 61, .inl ee9)), (a8, .inl (cI, 6, .inl (kq (nI n) (nI len) (nI ll) pen bf bl))), (a9, .inl (cI, 60, .inl r1)), (aA, .inl (cI, 60, .inl o1))] ++ w_78) H := hP
            have hD : va_D A ([(a1, .inl (cI, 60, .inl v)), (a2, .inl (cI, 60, .inl hf)), (a3, .inl (cI, 60, .inl aa9)), (a4, .inl (cI, 12, .inl gg9)), (a5, .inl (cI, 61, .inl cc9)), (a6, .inl (cI, 61, .inl dd9)), (a7, .inl (cI, 61, .inl ee9)), (a8, .inl (cI, 6, .inl (kq (nI n) (nI len) (nI ll) pen bf bl))), (a9, .inl (cI, 60, .inl r1)), (aA, .inl (cI, 60, .inl o1))] ++ w_78) := hD
            refine wt_i hr9 ?_
            refine lv_aload hx hb dL_isSo_93 (lv_at hl 8 rfl) ?_
            refine lv_iload hx hb dL_isSo_95 (lv_at hl 0 rfl) ?_
            refine va_iald (D := D) hx hb hK hP 3 0 rfl rfl (vp_in_nI (by omega) (by decide)) dL_isSo_97 ?_
            refine wt_i (by rw [nI_clamp (n := p) (by omega)]) ?_
            refine wt_i (y := kSeas v hf n len p) (show _ = kSeas v hf n len p from hgs p (by omega)) ?_
            refine lv_icmp_ne (tgt := 105) hx hb dL_isSo_98 (by decide) (fun c98 => ?_) (fun c98 => ?_)
            · skip
              exact absurd rfl c98
            · skip
              refine lv_iconst (v := nI 1) hx hb dL_isSo_101 (by decide) ?_
              refine lv_goto (tgt := 106) hx hb dL_isSo_102 (by decide) ?_
              refine lv_istore (lv' := [(13, .int (nI 1)), (14, .int (nI p)), (12, .int (kBase v hf n)), (0, .ref o6), (1, .int z), (2, .ref a1), (3, .ref a2), (4, .ref a3), (5, .ref a4), (6, .ref a5), (7, .ref a6), (8, .ref a7), (9, .ref a8), (10, .ref a9), (11, .ref aA)]) hx hb dL_isSo_106 hl (by decide) rfl (fun ls hl => ?_)
              refine lv_iinc (v := nI (p + 1)) (lv' := [(14, .int (nI (p + 1))), (13, .int (nI 1)), (12, .int (kBase v hf n)), (0, .ref o6), (1, .int z), (2, .ref a1), (3, .ref a2), (4, .ref a3), (5, .ref a4), (6, .ref a5), (7, .ref a6), (8, .ref a7), (9, .ref a8), (10, .ref a9), (11, .ref aA)]) hx hb dL_isSo_108 hl (k := 1) rfl (by exact nI_add _ 1) (by decide) rfl (fun ls hl => ?_)
              refine lv_goto (tgt := 73) hx hb dL_isSo_111 (by decide) ?_
              exact ih_12 _ (by omega) _ _ _ ⟨(p + 1), _, rfl, by omega, hst, hP, hD, hS, lv_sub hl [0, 1, 2, 3, 4, 5, 6, 7, 8, 9, 10, 11, 12, 13, 14] rfl⟩

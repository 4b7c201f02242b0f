set_option maxHeartbeats 4000000 in
set_option maxRecDepth 100000 in
/-- Row.at(k), k in the row -/
theorem c_X0_at (l : Launch) (D : va_G) (cI cZ cJ : ClassId) (sz : Nat) (h0 a0 : Nat) (f : Nat → Int32) (k : Nat) (hk : k < 61) : Met l yX0_at wsX0_at ({ frames := 0, cells := 0, slots := 0, locals := 0 }) (va_Pc [.ref h0, .int (nI k)] (kPre D (tyA cI cZ cJ) sz [(h0, .inr (0, [.ref a0])), (a0, .inl (cI, 61, .inl f))])) (va_Qi (fun (r : Int32) (_ : Unit) => r = f k) (kPost D (tyA cI cZ cJ) (va_A [(h0, .inr (0, [.ref a0])), (a0, .inl (cI, 61, .inl f))] sz) (fun (_ : Unit) => [(h0, .inr (0, [.ref a0])), (a0, .inl (cI, 61, .inl f))])) (va_A [(h0, .inr (0, [.ref a0])), (a0, .inl (cI, 61, .inl f))] sz)) 0 0 (va_A [(h0, .inr (0, [.ref a0])), (a0, .inl (cI, 61, .inl f))] sz) := by
  refine kOfW (cc := cX0_at) (maxL := 2) (ret := (some .int)) (fun A => va_Qi (fun (r : Int32) (_ : Unit) => r = f k) (kPost D (tyA cI cZ cJ) (A) (fun (_ : Unit) => [(h0, .inr (0, [.ref a0])), (a0, .inl (cI, 61, .inl f))])) (A)) (by decide) rfl (Nat.le_of_ble_eq_true rfl) ?_
  intro p_ e_ s m_ below_ meth_ c_ A ls hx hb hr hml hts hown hlocks hin hA hP hK hD hsz hl
  have hS : va_S A s.heap s.heap [] := va_S.rf
  have hl : lv_has ls 2 [(0, .ref h0), (1, .int (nI k))] := hl
  have hinX0 : ∀ w ∈ wsX00, w ∈ wsX0_at := fun w h => List.mem_cons_of_mem _ (List.mem_append_right _ h)
  refine lv_iload_n hx hb dX0_at_0 rfl (lv_at hl 1 rfl) ?_
  refine lv_if_lt (tgt := 22) hx hb dX0_at_1 (by decide) (fun c1 => ?_) (fun c1 => ?_)
  · skip
    have c1 := klt (a := k) (b := 0) c1 (by omega) (by omega)
    omega
  · skip
    have c1 := knlt (a := k) (b := 0) c1 (by omega) (by omega)
    refine lv_iload_n hx hb dX0_at_4 rfl (lv_at hl 1 rfl) ?_
    refine lv_aload_n hx hb dX0_at_5 rfl (lv_at hl 0 rfl) ?_
    refine va_get (D := D) (ci := 0) (v := .ref a0) (C := RX0) (T := TX0) (N := 1) hx hb hts hinX0 hown hK hP 0 rfl rfl 0 (by decide) (hts (.fieldLink RX0 9 "SeriesWatcher$Row" "numbers" "[I") (by decide +kernel)) (fun _ h9 => h9) rfl dX0_at_6 ?_
    refine va_alen (D := D) (v := nI 61) hx hb hK hP 1 0 rfl rfl rfl dX0_at_9 ?_
    refine lv_icmp_ge (tgt := 22) hx hb dX0_at_10 (by decide) (fun c10 => ?_) (fun c10 => ?_)
    · skip
      have c10 := kle (a := 61) (b := k) c10 (by omega) (by omega)
      omega
    · skip
      have c10 := knle (a := 61) (b := k) c10 (by omega) (by omega)
      refine lv_aload_n hx hb dX0_at_13 rfl (lv_at hl 0 rfl) ?_
      refine va_get (D := D) (ci := 0) (v := .ref a0) (C := RX0) (T := TX0) (N := 1) hx hb hts hinX0 hown hK hP 0 rfl rfl 0 (by decide) (hts (.fieldLink RX0 9 "SeriesWatcher$Row" "numbers" "[I") (by decide +kernel)) (fun _ h9 => h9) rfl dX0_at_14 ?_
      refine lv_iload_n hx hb dX0_at_17 rfl (lv_at hl 1 rfl) ?_
      refine va_iald (D := D) hx hb hK hP 1 0 rfl rfl (vp_in_nI (by omega) (by decide)) dX0_at_18 ?_
      refine wt_i (by rw [nI_clamp (n := k) (by omega)]) ?_
      refine lv_goto (tgt := 23) hx hb dX0_at_19 (by decide) ?_
      exact kri hx hb hr hlocks hP hK hD hS () (rfl) [0, 1] (by decide) rfl dX0_at_23

set_option maxHeartbeats 4000000 in
set_option maxRecDepth 100000 in
/-- Row.put(k, x), k in the row -/
theorem c_X0_put (l : Launch) (D : va_G) (cI cZ cJ : ClassId) (sz : Nat) (h0 a0 : Nat) (f : Nat → Int32) (k : Nat) (x : Int32) (hk : k < 61) : Met l yX0_put wsX0_put ({ frames := 0, cells := 0, slots := 0, locals := 0 }) (va_Pc [.ref h0, .int (nI k), .int x] (kPre D (tyA cI cZ cJ) sz [(h0, .inr (0, [.ref a0])), (a0, .inl (cI, 61, .inl f))])) (va_Qv (fun (_ : Unit) => True) (kPost D (tyA cI cZ cJ) (va_A [(h0, .inr (0, [.ref a0])), (a0, .inl (cI, 61, .inl f))] sz) (fun (_ : Unit) => [(h0, .inr (0, [.ref a0])), (a0, .inl (cI, 61, .inl (upd f k x)))])) (va_A [(h0, .inr (0, [.ref a0])), (a0, .inl (cI, 61, .inl f))] sz)) 0 0 (va_A [(h0, .inr (0, [.ref a0])), (a0, .inl (cI, 61, .inl f))] sz) := by
  refine kOfW (cc := cX0_put) (maxL := 3) (ret := none) (fun A => va_Qv (fun (_ : Unit) => True) (kPost D (tyA cI cZ cJ) (A) (fun (_ : Unit) => [(h0, .inr (0, [.ref a0])), (a0, .inl (cI, 61, .inl (upd f k x)))])) (A)) (by decide) rfl (Nat.le_of_ble_eq_true rfl) ?_
  intro p_ e_ s m_ below_ meth_ c_ A ls hx hb hr hml hts hown hlocks hin hA hP hK hD hsz hl
  have hS : va_S A s.heap s.heap [] := va_S.rf
  have hl : lv_has ls 3 [(0, .ref h0), (1, .int (nI k)), (2, .int x)] := hl
  have hinX0 : ∀ w ∈ wsX00, w ∈ wsX0_put := fun w h => List.mem_cons_of_mem _ (List.mem_append_right _ h)
  refine lv_iload_n hx hb dX0_put_0 rfl (lv_at hl 1 rfl) ?_
  refine lv_if_lt (tgt := 20) hx hb dX0_put_1 (by decide) (fun c1 => ?_) (fun c1 => ?_)
  · skip
    have c1 := klt (a := k) (b := 0) c1 (by omega) (by omega)
    omega
  · skip
    have c1 := knlt (a := k) (b := 0) c1 (by omega) (by omega)
    refine lv_iload_n hx hb dX0_put_4 rfl (lv_at hl 1 rfl) ?_
    refine lv_aload_n hx hb dX0_put_5 rfl (lv_at hl 0 rfl) ?_
    refine va_get (D := D) (ci := 0) (v := .ref a0) (C := RX0) (T := TX0) (N := 1) hx hb hts hinX0 hown hK hP 0 rfl rfl 0 (by decide) (hts (.fieldLink RX0 9 "SeriesWatcher$Row" "numbers" "[I") (by decide +kernel)) (fun _ h9 => h9) rfl dX0_put_6 ?_
    refine va_alen (D := D) (v := nI 61) hx hb hK hP 1 0 rfl rfl rfl dX0_put_9 ?_
    refine lv_icmp_ge (tgt := 20) hx hb dX0_put_10 (by decide) (fun c10 => ?_) (fun c10 => ?_)
    · skip
      have c10 := kle (a := 61) (b := k) c10 (by omega) (by omega)
      omega
    · skip
      have c10 := knle (a := 61) (b := k) c10 (by omega) (by omega)
      refine lv_aload_n hx hb dX0_put_13 rfl (lv_at hl 0 rfl) ?_
      refine va_get (D := D) (ci := 0) (v := .ref a0) (C := RX0) (T := TX0) (N := 1) hx hb hts hinX0 hown hK hP 0 rfl rfl 0 (by decide) (hts (.fieldLink RX0 9 "SeriesWatcher$Row" "numbers" "[I") (by decide +kernel)) (fun _ h9 => h9) rfl dX0_put_14 ?_
      refine lv_iload_n hx hb dX0_put_17 rfl (lv_at hl 1 rfl) ?_
      refine lv_iload_n hx hb dX0_put_18 rfl (lv_at hl 2 rfl) ?_
      refine va_iast (D := D) hx hb hK hP hD hS 1 0 rfl rfl (vp_in_nI (by omega) (by decide)) dX0_put_19 (fun H locs hP hD hS => ?_)
      rw [nI_clamp (n := k) (by omega)] at hP hD
      have hP : va_P D vwCl [(h0, .inr (0, [.ref a0])), (a0, .inl (cI, 61, .inl (upd f k x)))] H := hP
      have hD : va_D A [(h0, .inr (0, [.ref a0])), (a0, .inl (cI, 61, .inl (upd f k x)))] := hD
      exact krv hx hb hr hlocks hP hK hD hS () (trivial) [0, 1] (by decide) rfl dX0_put_20

set_option maxHeartbeats 4000000 in
set_option maxRecDepth 100000 in
theorem c_X3_count (l : Launch) (D : va_G) (cI cZ cJ : ClassId) (sz : Nat) (h0 a0 a1 : Nat) (n : Nat) (v hf : Nat → Int32)  : Met l yX3_count wsX3_count ({ frames := 0, cells := 0, slots := 0, locals := 0 }) (va_Pc [.ref h0] (kPre D (tyA cI cZ cJ) sz [(h0, .inr (3, [.ref a0, .ref a1, .int (nI n)])), (a0, .inl (cI, 60, .inl v)), (a1, .inl (cZ, 60, .inl hf))])) (va_Qi (fun (r : Int32) (_ : Unit) => r = nI n) (kPost D (tyA cI cZ cJ) (va_A [(h0, .inr (3, [.ref a0, .ref a1, .int (nI n)])), (a0, .inl (cI, 60, .inl v)), (a1, .inl (cZ, 60, .inl hf))] sz) (fun (_ : Unit) => [(h0, .inr (3, [.ref a0, .ref a1, .int (nI n)])), (a0, .inl (cI, 60, .inl v)), (a1, .inl (cZ, 60, .inl hf))])) (va_A [(h0, .inr (3, [.ref a0, .ref a1, .int (nI n)])), (a0, .inl (cI, 60, .inl v)), (a1, .inl (cZ, 60, .inl hf))] sz)) 0 0 (va_A [(h0, .inr (3, [.ref a0, .ref a1, .int (nI n)])), (a0, .inl (cI, 60, .inl v)), (a1, .inl (cZ, 60, .inl hf))] sz) := by
  refine kOfW (cc := cX3_count) (maxL := 1) (ret := (some .int)) (fun A => va_Qi (fun (r : Int32) (_ : Unit) => r = nI n) (kPost D (tyA cI cZ cJ) (A) (fun (_ : Unit) => [(h0, .inr (3, [.ref a0, .ref a1, .int (nI n)])), (a0, .inl (cI, 60, .inl v)), (a1, .inl (cZ, 60, .inl hf))])) (A)) (by decide) rfl (Nat.le_of_ble_eq_true rfl) ?_
  intro p_ e_ s m_ below_ meth_ c_ A ls hx hb hr hml hts hown hlocks hin hA hP hK hD hsz hl
  have hS : va_S A s.heap s.heap [] := va_S.rf
  have hl : lv_has ls 1 [(0, .ref h0)] := hl
  have hinX3 : ∀ w ∈ wsX30, w ∈ wsX3_count := fun w h => List.mem_cons_of_mem _ (List.mem_append_right _ h)
  refine lv_aload_n hx hb dX3_count_0 rfl (lv_at hl 0 rfl) ?_
  refine va_get (D := D) (ci := 3) (v := .int (nI n)) (C := RX3) (T := TX3) (N := 3) hx hb hts hinX3 hown hK hP 0 rfl rfl 2 (by decide) (hts (.fieldLink RX3 19 "SeriesWatcher$Series" "count" "I") (by decide +kernel)) (fun _ h9 => h9) rfl dX3_count_1 ?_
  exact kri hx hb hr hlocks hP hK hD hS () (rfl) [0, 1, 2] (by decide) rfl dX3_count_4

set_option maxHeartbeats 4000000 in
set_option maxRecDepth 100000 in
theorem c_X3_has (l : Launch) (D : va_G) (cI cZ cJ : ClassId) (sz : Nat) (h0 a0 a1 : Nat) (n : Nat) (v hf : Nat → Int32) (k : Nat) (hk : k < n) (hn : n ≤ 60) : Met l yX3_has wsX3_has ({ frames := 0, cells := 0, slots := 0, locals := 0 }) (va_Pc [.ref h0, .int (nI k)] (kPre D (tyA cI cZ cJ) sz [(h0, .inr (3, [.ref a0, .ref a1, .int (nI n)])), (a0, .inl (cI, 60, .inl v)), (a1, .inl (cZ, 60, .inl hf))])) (va_Qi (fun (r : Int32) (_ : Unit) => r = nI 1) (kPost D (tyA cI cZ cJ) (va_A [(h0, .inr (3, [.ref a0, .ref a1, .int (nI n)])), (a0, .inl (cI, 60, .inl v)), (a1, .inl (cZ, 60, .inl hf))] sz) (fun (_ : Unit) => [(h0, .inr (3, [.ref a0, .ref a1, .int (nI n)])), (a0, .inl (cI, 60, .inl v)), (a1, .inl (cZ, 60, .inl hf))])) (va_A [(h0, .inr (3, [.ref a0, .ref a1, .int (nI n)])), (a0, .inl (cI, 60, .inl v)), (a1, .inl (cZ, 60, .inl hf))] sz)) 0 0 (va_A [(h0, .inr (3, [.ref a0, .ref a1, .int (nI n)])), (a0, .inl (cI, 60, .inl v)), (a1, .inl (cZ, 60, .inl hf))] sz) := by
  refine kOfW (cc := cX3_has) (maxL := 2) (ret := (some .boolean)) (fun A => va_Qi (fun (r : Int32) (_ : Unit) => r = nI 1) (kPost D (tyA cI cZ cJ) (A) (fun (_ : Unit) => [(h0, .inr (3, [.ref a0, .ref a1, .int (nI n)])), (a0, .inl (cI, 60, .inl v)), (a1, .inl (cZ, 60, .inl hf))])) (A)) (by decide) rfl (Nat.le_of_ble_eq_true rfl) ?_
  intro p_ e_ s m_ below_ meth_ c_ A ls hx hb hr hml hts hown hlocks hin hA hP hK hD hsz hl
  have hS : va_S A s.heap s.heap [] := va_S.rf
  have hl : lv_has ls 2 [(0, .ref h0), (1, .int (nI k))] := hl
  have hinX3 : ∀ w ∈ wsX30, w ∈ wsX3_has := fun w h => List.mem_cons_of_mem _ (List.mem_append_right _ h)
  refine lv_iload_n hx hb dX3_has_0 rfl (lv_at hl 1 rfl) ?_
  refine lv_if_lt (tgt := 16) hx hb dX3_has_1 (by decide) (fun c1 => ?_) (fun c1 => ?_)
  · skip
    have c1 := klt (a := k) (b := 0) c1 (by omega) (by omega)
    omega
  · skip
    have c1 := knlt (a := k) (b := 0) c1 (by omega) (by omega)
    refine lv_iload_n hx hb dX3_has_4 rfl (lv_at hl 1 rfl) ?_
    refine lv_aload_n hx hb dX3_has_5 rfl (lv_at hl 0 rfl) ?_
    refine va_get (D := D) (ci := 3) (v := .int (nI n)) (C := RX3) (T := TX3) (N := 3) hx hb hts hinX3 hown hK hP 0 rfl rfl 2 (by decide) (hts (.fieldLink RX3 19 "SeriesWatcher$Series" "count" "I") (by decide +kernel)) (fun _ h9 => h9) rfl dX3_has_6 ?_
    refine lv_icmp_ge (tgt := 16) hx hb dX3_has_9 (by decide) (fun c9 => ?_) (fun c9 => ?_)
    · skip
      have c9 := kle (a := n) (b := k) c9 (by omega) (by omega)
      omega
    · skip
      have c9 := knle (a := n) (b := k) c9 (by omega) (by omega)
      refine lv_iconst (v := nI 1) hx hb dX3_has_12 (by decide) ?_
      refine lv_goto (tgt := 17) hx hb dX3_has_13 (by decide) ?_
      exact krz hx hb hr hlocks (by first | exact Or.inl rfl | exact Or.inr rfl | assumption) hP hK hD hS () (rfl) [0, 1, 2] (by decide) rfl dX3_has_17

set_option maxHeartbeats 4000000 in
set_option maxRecDepth 100000 in
theorem c_X3_numberAt (l : Launch) (D : va_G) (cI cZ cJ : ClassId) (sz : Nat) (h0 a0 a1 : Nat) (n : Nat) (v hf : Nat → Int32) (k : Nat) (hk : k < n) (hn : n ≤ 60) : Met l yX3_numberAt wsX3_numberAt ({ frames := 1, cells := 0, slots := 0, locals := 30 }) (va_Pc [.ref h0, .int (nI k)] (kPre D (tyA cI cZ cJ) sz [(h0, .inr (3, [.ref a0, .ref a1, .int (nI n)])), (a0, .inl (cI, 60, .inl v)), (a1, .inl (cZ, 60, .inl hf))])) (va_Qi (fun (r : Int32) (_ : Unit) => r = v k) (kPost D (tyA cI cZ cJ) (va_A [(h0, .inr (3, [.ref a0, .ref a1, .int (nI n)])), (a0, .inl (cI, 60, .inl v)), (a1, .inl (cZ, 60, .inl hf))] sz) (fun (_ : Unit) => [(h0, .inr (3, [.ref a0, .ref a1, .int (nI n)])), (a0, .inl (cI, 60, .inl v)), (a1, .inl (cZ, 60, .inl hf))])) (va_A [(h0, .inr (3, [.ref a0, .ref a1, .int (nI n)])), (a0, .inl (cI, 60, .inl v)), (a1, .inl (cZ, 60, .inl hf))] sz)) 0 0 (va_A [(h0, .inr (3, [.ref a0, .ref a1, .int (nI n)])), (a0, .inl (cI, 60, .inl v)), (a1, .inl (cZ, 60, .inl hf))] sz) := by
  refine kOfW (cc := cX3_numberAt) (maxL := 2) (ret := (some .int)) (fun A => va_Qi (fun (r : Int32) (_ : Unit) => r = v k) (kPost D (tyA cI cZ cJ) (A) (fun (_ : Unit) => [(h0, .inr (3, [.ref a0, .ref a1, .int (nI n)])), (a0, .inl (cI, 60, .inl v)), (a1, .inl (cZ, 60, .inl hf))])) (A)) (by decide) rfl (Nat.le_of_ble_eq_true rfl) ?_
  intro p_ e_ s m_ below_ meth_ c_ A ls hx hb hr hml hts hown hlocks hin hA hP hK hD hsz hl
  have hS : va_S A s.heap s.heap [] := va_S.rf
  have hl : lv_has ls 2 [(0, .ref h0), (1, .int (nI k))] := hl
  have hinX3 : ∀ w ∈ wsX30, w ∈ wsX3_numberAt := fun w h => List.mem_cons_of_mem _ (List.mem_append_right _ h)
  refine lv_aload_n hx hb dX3_numberAt_0 rfl (lv_at hl 0 rfl) ?_
  refine lv_iload_n hx hb dX3_numberAt_1 rfl (lv_at hl 1 rfl) ?_
  refine kci (wr := []) (pre := [(h0, .inr (3, [.ref a0, .ref a1, .int (nI n)])), (a0, .inl (cI, 60, .inl v)), (a1, .inl (cZ, 60, .inl hf))]) (va_runV (As := [.int (nI k)]) (rest := []) ⟨hx, hb, hml, hown, hts⟩ (c_X3_has l D cI cZ cJ s.heap.size h0 a0 a1 n v hf k (by first | assumption | omega) (by first | assumption | omega)) (cwV 1 hts gX3_numberAt_X3_has rfl rfl rfl (by decide +kernel) ⟨Nat.le_of_ble_eq_true rfl, Nat.le_of_ble_eq_true rfl⟩) (kpreV hK hP hD (ci := 3) (q0 := 0) rfl rfl [0, 1, 2] (by decide) rfl) rfl rfl hl.1 rfl (lv_room (Nat.le_of_ble_eq_true rfl)) dX3_numberAt_2 ⟨Nat.zero_le _, Nat.zero_le _⟩) hP hD hS hA [0, 1, 2] [] rfl rfl (by decide) (by decide) (fun r_1 _ H locs hw hP hD hS => ?_)
  have hP : va_P D vwCl [(h0, .inr (3, [.ref a0, .ref a1, .int (nI n)])), (a0, .inl (cI, 60, .inl v)), (a1, .inl (cZ, 60, .inl hf))] H := hP
  have hD : va_D A [(h0, .inr (3, [.ref a0, .ref a1, .int (nI n)])), (a0, .inl (cI, 60, .inl v)), (a1, .inl (cZ, 60, .inl hf))] := hD
  have hr9 : r_1 = nI 1 := hw
  refine wt_i hr9 ?_
  refine lv_if_eq (tgt := 17) hx hb dX3_numberAt_5 (by decide) (fun c5 => ?_) (fun c5 => ?_)
  · skip
    have c5 := keq (a := 1) (b := 0) c5 (by omega) (by omega)
    omega
  · skip
    have c5 := kneq (a := 1) (b := 0) c5 (by omega) (by omega)
    refine lv_aload_n hx hb dX3_numberAt_8 rfl (lv_at hl 0 rfl) ?_
    refine va_get (D := D) (ci := 3) (v := .ref a0) (C := RX3) (T := TX3) (N := 3) hx hb hts hinX3 hown hK hP 0 rfl rfl 0 (by decide) (hts (.fieldLink RX3 9 "SeriesWatcher$Series" "numbers" "[I") (by decide +kernel)) (fun _ h9 => h9) rfl dX3_numberAt_9 ?_
    refine lv_iload_n hx hb dX3_numberAt_12 rfl (lv_at hl 1 rfl) ?_
    refine va_iald (D := D) hx hb hK hP 1 0 rfl rfl (vp_in_nI (by omega) (by decide)) dX3_numberAt_13 ?_
    refine wt_i (by rw [nI_clamp (n := k) (by omega)]) ?_
    refine lv_goto (tgt := 18) hx hb dX3_numberAt_14 (by decide) ?_
    exact kri hx hb hr hlocks hP hK hD hS () (rfl) [0, 1, 2] (by decide) rfl dX3_numberAt_18

set_option maxHeartbeats 4000000 in
set_option maxRecDepth 100000 in
theorem c_X3_isHoliday (l : Launch) (D : va_G) (cI cZ cJ : ClassId) (sz : Nat) (h0 a0 a1 : Nat) (n : Nat) (v hf : Nat → Int32) (k : Nat) (hk : k < n) (hn : n ≤ 60) (hb9 : kbit (hf k)) : Met l yX3_isHoliday wsX3_isHoliday ({ frames := 1, cells := 0, slots := 0, locals := 30 }) (va_Pc [.ref h0, .int (nI k)] (kPre D (tyA cI cZ cJ) sz [(h0, .inr (3, [.ref a0, .ref a1, .int (nI n)])), (a0, .inl (cI, 60, .inl v)), (a1, .inl (cZ, 60, .inl hf))])) (va_Qi (fun (r : Int32) (_ : Unit) => r = hf k) (kPost D (tyA cI cZ cJ) (va_A [(h0, .inr (3, [.ref a0, .ref a1, .int (nI n)])), (a0, .inl (cI, 60, .inl v)), (a1, .inl (cZ, 60, .inl hf))] sz) (fun (_ : Unit) => [(h0, .inr (3, [.ref a0, .ref a1, .int (nI n)])), (a0, .inl (cI, 60, .inl v)), (a1, .inl (cZ, 60, .inl hf))])) (va_A [(h0, .inr (3, [.ref a0, .ref a1, .int (nI n)])), (a0, .inl (cI, 60, .inl v)), (a1, .inl (cZ, 60, .inl hf))] sz)) 0 0 (va_A [(h0, .inr (3, [.ref a0, .ref a1, .int (nI n)])), (a0, .inl (cI, 60, .inl v)), (a1, .inl (cZ, 60, .inl hf))] sz) := by
  refine kOfW (cc := cX3_isHoliday) (maxL := 2) (ret := (some .boolean)) (fun A => va_Qi (fun (r : Int32) (_ : Unit) => r = hf k) (kPost D (tyA cI cZ cJ) (A) (fun (_ : Unit) => [(h0, .inr (3, [.ref a0, .ref a1, .int (nI n)])), (a0, .inl (cI, 60, .inl v)), (a1, .inl (cZ, 60, .inl hf))])) (A)) (by decide) rfl (Nat.le_of_ble_eq_true rfl) ?_
  intro p_ e_ s m_ below_ meth_ c_ A ls hx hb hr hml hts hown hlocks hin hA hP hK hD hsz hl
  have hS : va_S A s.heap s.heap [] := va_S.rf
  have hl : lv_has ls 2 [(0, .ref h0), (1, .int (nI k))] := hl
  have hinX3 : ∀ w ∈ wsX30, w ∈ wsX3_isHoliday := fun w h => List.mem_cons_of_mem _ (List.mem_append_right _ h)
  refine lv_aload_n hx hb dX3_isHoliday_0 rfl (lv_at hl 0 rfl) ?_
  refine lv_iload_n hx hb dX3_isHoliday_1 rfl (lv_at hl 1 rfl) ?_
  refine kci (wr := []) (pre := [(h0, .inr (3, [.ref a0, .ref a1, .int (nI n)])), (a0, .inl (cI, 60, .inl v)), (a1, .inl (cZ, 60, .inl hf))]) (va_runV (As := [.int (nI k)]) (rest := []) ⟨hx, hb, hml, hown, hts⟩ (c_X3_has l D cI cZ cJ s.heap.size h0 a0 a1 n v hf k (by first | assumption | omega) (by first | assumption | omega)) (cwV 1 hts gX3_isHoliday_X3_has rfl rfl rfl (by decide +kernel) ⟨Nat.le_of_ble_eq_true rfl, Nat.le_of_ble_eq_true rfl⟩) (kpreV hK hP hD (ci := 3) (q0 := 0) rfl rfl [0, 1, 2] (by decide) rfl) rfl rfl hl.1 rfl (lv_room (Nat.le_of_ble_eq_true rfl)) dX3_isHoliday_2 ⟨Nat.zero_le _, Nat.zero_le _⟩) hP hD hS hA [0, 1, 2] [] rfl rfl (by decide) (by decide) (fun r_1 _ H locs hw hP hD hS => ?_)
  have hP : va_P D vwCl [(h0, .inr (3, [.ref a0, .ref a1, .int (nI n)])), (a0, .inl (cI, 60, .inl v)), (a1, .inl (cZ, 60, .inl hf))] H := hP
  have hD : va_D A [(h0, .inr (3, [.ref a0, .ref a1, .int (nI n)])), (a0, .inl (cI, 60, .inl v)), (a1, .inl (cZ, 60, .inl hf))] := hD
  have hr9 : r_1 = nI 1 := hw
  refine wt_i hr9 ?_
  refine lv_if_eq (tgt := 21) hx hb dX3_isHoliday_5 (by decide) (fun c5 => ?_) (fun c5 => ?_)
  · skip
    have c5 := keq (a := 1) (b := 0) c5 (by omega) (by omega)
    omega
  · skip
    have c5 := kneq (a := 1) (b := 0) c5 (by omega) (by omega)
    refine lv_aload_n hx hb dX3_isHoliday_8 rfl (lv_at hl 0 rfl) ?_
    refine va_get (D := D) (ci := 3) (v := .ref a1) (C := RX3) (T := TX3) (N := 3) hx hb hts hinX3 hown hK hP 0 rfl rfl 1 (by decide) (hts (.fieldLink RX3 15 "SeriesWatcher$Series" "holidays" "[Z") (by decide +kernel)) (fun _ h9 => h9) rfl dX3_isHoliday_9 ?_
    refine lv_iload_n hx hb dX3_isHoliday_12 rfl (lv_at hl 1 rfl) ?_
    refine va_zald (D := D) hx hb hK hP 2 1 rfl rfl (vp_in_nI (by omega) (by decide)) dX3_isHoliday_13 ?_
    refine wt_i (by rw [nI_clamp (n := k) (by omega)]) ?_
    refine lv_if_eq (tgt := 21) hx hb dX3_isHoliday_14 (by decide) (fun c14 => ?_) (fun c14 => ?_)
    · skip
      refine lv_iconst (v := nI 0) hx hb dX3_isHoliday_21 (by decide) ?_
      exact krz hx hb hr hlocks (by first | exact Or.inl rfl | exact Or.inr rfl | assumption) hP hK hD hS () (by first | exact (kb1 hb9 c14).symm | exact c14.symm) [0, 1, 2] (by decide) rfl dX3_isHoliday_22
    · skip
      refine lv_iconst (v := nI 1) hx hb dX3_isHoliday_17 (by decide) ?_
      refine lv_goto (tgt := 22) hx hb dX3_isHoliday_18 (by decide) ?_
      exact krz hx hb hr hlocks (by first | exact Or.inl rfl | exact Or.inr rfl | assumption) hP hK hD hS () (by first | exact (kb1 hb9 c14).symm | exact c14.symm) [0, 1, 2] (by decide) rfl dX3_isHoliday_22

set_option maxHeartbeats 4000000 in
set_option maxRecDepth 100000 in
theorem c_X3_append (l : Launch) (D : va_G) (cI cZ cJ : ClassId) (sz : Nat) (h0 a0 a1 : Nat) (n : Nat) (v hf : Nat → Int32) (x : Int32) (hn : n < 60) : Met l yX3_append wsX3_append ({ frames := 0, cells := 0, slots := 0, locals := 0 }) (va_Pc [.ref h0, .int x] (kPre D (tyA cI cZ cJ) sz [(h0, .inr (3, [.ref a0, .ref a1, .int (nI n)])), (a0, .inl (cI, 60, .inl v)), (a1, .inl (cZ, 60, .inl hf))])) (va_Qv (fun (_ : Unit) => True) (kPost D (tyA cI cZ cJ) (va_A [(h0, .inr (3, [.ref a0, .ref a1, .int (nI n)])), (a0, .inl (cI, 60, .inl v)), (a1, .inl (cZ, 60, .inl hf))] sz) (fun (_ : Unit) => [(h0, .inr (3, [.ref a0, .ref a1, .int (nI (n + 1))])), (a0, .inl (cI, 60, .inl (upd v n x))), (a1, .inl (cZ, 60, .inl (upd hf n (nI 0))))])) (va_A [(h0, .inr (3, [.ref a0, .ref a1, .int (nI n)])), (a0, .inl (cI, 60, .inl v)), (a1, .inl (cZ, 60, .inl hf))] sz)) 0 0 (va_A [(h0, .inr (3, [.ref a0, .ref a1, .int (nI n)])), (a0, .inl (cI, 60, .inl v)), (a1, .inl (cZ, 60, .inl hf))] sz) := by
  refine kOfW (cc := cX3_append) (maxL := 2) (ret := none) (fun A => va_Qv (fun (_ : Unit) => True) (kPost D (tyA cI cZ cJ) (A) (fun (_ : Unit) => [(h0, .inr (3, [.ref a0, .ref a1, .int (nI (n + 1))])), (a0, .inl (cI, 60, .inl (upd v n x))), (a1, .inl (cZ, 60, .inl (upd hf n (nI 0))))])) (A)) (by decide) rfl (Nat.le_of_ble_eq_true rfl) ?_
  intro p_ e_ s m_ below_ meth_ c_ A ls hx hb hr hml hts hown hlocks hin hA hP hK hD hsz hl
  have hS : va_S A s.heap s.heap [] := va_S.rf
  have hl : lv_has ls 2 [(0, .ref h0), (1, .int x)] := hl
  have hinX3 : ∀ w ∈ wsX30, w ∈ wsX3_append := fun w h => List.mem_cons_of_mem _ (List.mem_append_right _ h)
  refine lv_aload_n hx hb dX3_append_0 rfl (lv_at hl 0 rfl) ?_
  refine va_get (D := D) (ci := 3) (v := .int (nI n)) (C := RX3) (T := TX3) (N := 3) hx hb hts hinX3 hown hK hP 0 rfl rfl 2 (by decide) (hts (.fieldLink RX3 19 "SeriesWatcher$Series" "count" "I") (by decide +kernel)) (fun _ h9 => h9) rfl dX3_append_1 ?_
  refine lv_aload_n hx hb dX3_append_4 rfl (lv_at hl 0 rfl) ?_
  refine va_get (D := D) (ci := 3) (v := .ref a0) (C := RX3) (T := TX3) (N := 3) hx hb hts hinX3 hown hK hP 0 rfl rfl 0 (by decide) (hts (.fieldLink RX3 9 "SeriesWatcher$Series" "numbers" "[I") (by decide +kernel)) (fun _ h9 => h9) rfl dX3_append_5 ?_
  refine va_alen (D := D) (v := nI 60) hx hb hK hP 1 0 rfl rfl rfl dX3_append_8 ?_
  refine lv_icmp_ge (tgt := 42) hx hb dX3_append_9 (by decide) (fun c9 => ?_) (fun c9 => ?_)
  · skip
    have c9 := kle (a := 60) (b := n) c9 (by omega) (by omega)
    omega
  · skip
    have c9 := knle (a := 60) (b := n) c9 (by omega) (by omega)
    refine lv_aload_n hx hb dX3_append_12 rfl (lv_at hl 0 rfl) ?_
    refine va_get (D := D) (ci := 3) (v := .ref a0) (C := RX3) (T := TX3) (N := 3) hx hb hts hinX3 hown hK hP 0 rfl rfl 0 (by decide) (hts (.fieldLink RX3 9 "SeriesWatcher$Series" "numbers" "[I") (by decide +kernel)) (fun _ h9 => h9) rfl dX3_append_13 ?_
    refine lv_aload_n hx hb dX3_append_16 rfl (lv_at hl 0 rfl) ?_
    refine va_get (D := D) (ci := 3) (v := .int (nI n)) (C := RX3) (T := TX3) (N := 3) hx hb hts hinX3 hown hK hP 0 rfl rfl 2 (by decide) (hts (.fieldLink RX3 19 "SeriesWatcher$Series" "count" "I") (by decide +kernel)) (fun _ h9 => h9) rfl dX3_append_17 ?_
    refine lv_iload_n hx hb dX3_append_20 rfl (lv_at hl 1 rfl) ?_
    refine va_iast (D := D) hx hb hK hP hD hS 1 0 rfl rfl (vp_in_nI (by omega) (by decide)) dX3_append_21 (fun H locs hP hD hS => ?_)
    rw [nI_clamp (n := n) (by omega)] at hP hD
    have hP : va_P D vwCl [(h0, .inr (3, [.ref a0, .ref a1, .int (nI n)])), (a0, .inl (cI, 60, .inl (upd v n x))), (a1, .inl (cZ, 60, .inl hf))] H := hP
    have hD : va_D A [(h0, .inr (3, [.ref a0, .ref a1, .int (nI n)])), (a0, .inl (cI, 60, .inl (upd v n x))), (a1, .inl (cZ, 60, .inl hf))] := hD
    refine lv_aload_n hx hb dX3_append_22 rfl (lv_at hl 0 rfl) ?_
    refine va_get (D := D) (ci := 3) (v := .ref a1) (C := RX3) (T := TX3) (N := 3) hx hb hts hinX3 hown hK hP 0 rfl rfl 1 (by decide) (hts (.fieldLink RX3 15 "SeriesWatcher$Series" "holidays" "[Z") (by decide +kernel)) (fun _ h9 => h9) rfl dX3_append_23 ?_
    refine lv_aload_n hx hb dX3_append_26 rfl (lv_at hl 0 rfl) ?_
    refine va_get (D := D) (ci := 3) (v := .int (nI n)) (C := RX3) (T := TX3) (N := 3) hx hb hts hinX3 hown hK hP 0 rfl rfl 2 (by decide) (hts (.fieldLink RX3 19 "SeriesWatcher$Series" "count" "I") (by decide +kernel)) (fun _ h9 => h9) rfl dX3_append_27 ?_
    refine lv_iconst (v := nI 0) hx hb dX3_append_30 (by decide) ?_
    refine va_zast (D := D) hx hb hK hP hD hS 2 1 rfl rfl (vp_in_nI (by omega) (by decide)) dX3_append_31 (fun H locs hP hD hS => ?_)
    rw [nI_clamp (n := n) (by omega), (show vp_nar .boolean (nI 0) = nI 0 from by decide)] at hP hD
    have hP : va_P D vwCl [(h0, .inr (3, [.ref a0, .ref a1, .int (nI n)])), (a0, .inl (cI, 60, .inl (upd v n x))), (a1, .inl (cZ, 60, .inl (upd hf n (nI 0))))] H := hP
    have hD : va_D A [(h0, .inr (3, [.ref a0, .ref a1, .int (nI n)])), (a0, .inl (cI, 60, .inl (upd v n x))), (a1, .inl (cZ, 60, .inl (upd hf n (nI 0))))] := hD
    refine lv_aload_n hx hb dX3_append_32 rfl (lv_at hl 0 rfl) ?_
    refine lv_dup hx hb dX3_append_33 rfl ?_
    refine va_get (D := D) (ci := 3) (v := .int (nI n)) (C := RX3) (T := TX3) (N := 3) hx hb hts hinX3 hown hK hP 0 rfl rfl 2 (by decide) (hts (.fieldLink RX3 19 "SeriesWatcher$Series" "count" "I") (by decide +kernel)) (fun _ h9 => h9) rfl dX3_append_34 ?_
    refine lv_iconst (v := nI 1) hx hb dX3_append_37 (by decide) ?_
    refine lv_iadd hx hb dX3_append_38 ?_
    refine wt_i (nI_add _ _) ?_
    refine va_put (D := D) (ci := 3) (v := .int (nI (n + 1))) (ty := .int) (C := RX3) (T := TX3) (N := 3) hx hb hts hinX3 tyX3 tyX3_ok nmX3 hown hK hP hD hS 0 rfl rfl 2 (by decide) (hts (.fieldLink RX3 19 "SeriesWatcher$Series" "count" "I") (by decide +kernel)) (fun _ h9 => h9) rfl (by decide +kernel) rfl rfl (Nat.le_of_ble_eq_true rfl) dX3_append_39 (fun H locs hP hD hS => ?_)
    have hP : va_P D vwCl [(h0, .inr (3, [.ref a0, .ref a1, .int (nI (n + 1))])), (a0, .inl (cI, 60, .inl (upd v n x))), (a1, .inl (cZ, 60, .inl (upd hf n (nI 0))))] H := hP
    have hD : va_D A [(h0, .inr (3, [.ref a0, .ref a1, .int (nI (n + 1))])), (a0, .inl (cI, 60, .inl (upd v n x))), (a1, .inl (cZ, 60, .inl (upd hf n (nI 0))))] := hD
    exact krv hx hb hr hlocks hP hK hD hS () (trivial) [0, 1, 2] (by decide) rfl dX3_append_42

set_option maxHeartbeats 4000000 in
set_option maxRecDepth 100000 in
theorem c_X3_replace (l : Launch) (D : va_G) (cI cZ cJ : ClassId) (sz : Nat) (h0 a0 a1 : Nat) (n : Nat) (v hf : Nat → Int32) (k : Nat) (x : Int32) (hk : k < n) (hn : n ≤ 60) : Met l yX3_replace wsX3_replace ({ frames := 1, cells := 0, slots := 0, locals := 30 }) (va_Pc [.ref h0, .int (nI k), .int x] (kPre D (tyA cI cZ cJ) sz [(h0, .inr (3, [.ref a0, .ref a1, .int (nI n)])), (a0, .inl (cI, 60, .inl v)), (a1, .inl (cZ, 60, .inl hf))])) (va_Qv (fun (_ : Unit) => True) (kPost D (tyA cI cZ cJ) (va_A [(h0, .inr (3, [.ref a0, .ref a1, .int (nI n)])), (a0, .inl (cI, 60, .inl v)), (a1, .inl (cZ, 60, .inl hf))] sz) (fun (_ : Unit) => [(h0, .inr (3, [.ref a0, .ref a1, .int (nI n)])), (a0, .inl (cI, 60, .inl (upd v k x))), (a1, .inl (cZ, 60, .inl hf))])) (va_A [(h0, .inr (3, [.ref a0, .ref a1, .int (nI n)])), (a0, .inl (cI, 60, .inl v)), (a1, .inl (cZ, 60, .inl hf))] sz)) 0 0 (va_A [(h0, .inr (3, [.ref a0, .ref a1, .int (nI n)])), (a0, .inl (cI, 60, .inl v)), (a1, .inl (cZ, 60, .inl hf))] sz) := by
  refine kOfW (cc := cX3_replace) (maxL := 3) (ret := none) (fun A => va_Qv (fun (_ : Unit) => True) (kPost D (tyA cI cZ cJ) (A) (fun (_ : Unit) => [(h0, .inr (3, [.ref a0, .ref a1, .int (nI n)])), (a0, .inl (cI, 60, .inl (upd v k x))), (a1, .inl (cZ, 60, .inl hf))])) (A)) (by decide) rfl (Nat.le_of_ble_eq_true rfl) ?_
  intro p_ e_ s m_ below_ meth_ c_ A ls hx hb hr hml hts hown hlocks hin hA hP hK hD hsz hl
  have hS : va_S A s.heap s.heap [] := va_S.rf
  have hl : lv_has ls 3 [(0, .ref h0), (1, .int (nI k)), (2, .int x)] := hl
  have hinX3 : ∀ w ∈ wsX30, w ∈ wsX3_replace := fun w h => List.mem_cons_of_mem _ (List.mem_append_right _ h)
  refine lv_aload_n hx hb dX3_replace_0 rfl (lv_at hl 0 rfl) ?_
  refine lv_iload_n hx hb dX3_replace_1 rfl (lv_at hl 1 rfl) ?_
  refine kci (wr := []) (pre := [(h0, .inr (3, [.ref a0, .ref a1, .int (nI n)])), (a0, .inl (cI, 60, .inl v)), (a1, .inl (cZ, 60, .inl hf))]) (va_runV (As := [.int (nI k)]) (rest := []) ⟨hx, hb, hml, hown, hts⟩ (c_X3_has l D cI cZ cJ s.heap.size h0 a0 a1 n v hf k (by first | assumption | omega) (by first | assumption | omega)) (cwV 1 hts gX3_replace_X3_has rfl rfl rfl (by decide +kernel) ⟨Nat.le_of_ble_eq_true rfl, Nat.le_of_ble_eq_true rfl⟩) (kpreV hK hP hD (ci := 3) (q0 := 0) rfl rfl [0, 1, 2] (by decide) rfl) rfl rfl hl.1 rfl (lv_room (Nat.le_of_ble_eq_true rfl)) dX3_replace_2 ⟨Nat.zero_le _, Nat.zero_le _⟩) hP hD hS hA [0, 1, 2] [] rfl rfl (by decide) (by decide) (fun r_1 _ H locs hw hP hD hS => ?_)
  have hP : va_P D vwCl [(h0, .inr (3, [.ref a0, .ref a1, .int (nI n)])), (a0, .inl (cI, 60, .inl v)), (a1, .inl (cZ, 60, .inl hf))] H := hP
  have hD : va_D A [(h0, .inr (3, [.ref a0, .ref a1, .int (nI n)])), (a0, .inl (cI, 60, .inl v)), (a1, .inl (cZ, 60, .inl hf))] := hD
  have hr9 : r_1 = nI 1 := hw
  refine wt_i hr9 ?_
  refine lv_if_eq (tgt := 15) hx hb dX3_replace_5 (by decide) (fun c5 => ?_) (fun c5 => ?_)
  · skip
    have c5 := keq (a := 1) (b := 0) c5 (by omega) (by omega)
    omega
  · skip
    have c5 := kneq (a := 1) (b := 0) c5 (by omega) (by omega)
    refine lv_aload_n hx hb dX3_replace_8 rfl (lv_at hl 0 rfl) ?_
    refine va_get (D := D) (ci := 3) (v := .ref a0) (C := RX3) (T := TX3) (N := 3) hx hb hts hinX3 hown hK hP 0 rfl rfl 0 (by decide) (hts (.fieldLink RX3 9 "SeriesWatcher$Series" "numbers" "[I") (by decide +kernel)) (fun _ h9 => h9) rfl dX3_replace_9 ?_
    refine lv_iload_n hx hb dX3_replace_12 rfl (lv_at hl 1 rfl) ?_
    refine lv_iload_n hx hb dX3_replace_13 rfl (lv_at hl 2 rfl) ?_
    refine va_iast (D := D) hx hb hK hP hD hS 1 0 rfl rfl (vp_in_nI (by omega) (by decide)) dX3_replace_14 (fun H locs hP hD hS => ?_)
    rw [nI_clamp (n := k) (by omega)] at hP hD
    have hP : va_P D vwCl [(h0, .inr (3, [.ref a0, .ref a1, .int (nI n)])), (a0, .inl (cI, 60, .inl (upd v k x))), (a1, .inl (cZ, 60, .inl hf))] H := hP
    have hD : va_D A [(h0, .inr (3, [.ref a0, .ref a1, .int (nI n)])), (a0, .inl (cI, 60, .inl (upd v k x))), (a1, .inl (cZ, 60, .inl hf))] := hD
    exact krv hx hb hr hlocks hP hK hD hS () (trivial) [0, 1, 2] (by decide) rfl dX3_replace_15

set_option maxHeartbeats 4000000 in
set_option maxRecDepth 100000 in
theorem c_X3_markHoliday (l : Launch) (D : va_G) (cI cZ cJ : ClassId) (sz : Nat) (h0 a0 a1 : Nat) (n : Nat) (v hf : Nat → Int32) (k : Nat) (x : Int32) (hk : k < n) (hn : n ≤ 60) (hb9 : kbit x) : Met l yX3_markHoliday wsX3_markHoliday ({ frames := 1, cells := 0, slots := 0, locals := 30 }) (va_Pc [.ref h0, .int (nI k), .int x] (kPre D (tyA cI cZ cJ) sz [(h0, .inr (3, [.ref a0, .ref a1, .int (nI n)])), (a0, .inl (cI, 60, .inl v)), (a1, .inl (cZ, 60, .inl hf))])) (va_Qv (fun (_ : Unit) => True) (kPost D (tyA cI cZ cJ) (va_A [(h0, .inr (3, [.ref a0, .ref a1, .int (nI n)])), (a0, .inl (cI, 60, .inl v)), (a1, .inl (cZ, 60, .inl hf))] sz) (fun (_ : Unit) => [(h0, .inr (3, [.ref a0, .ref a1, .int (nI n)])), (a0, .inl (cI, 60, .inl v)), (a1, .inl (cZ, 60, .inl (upd hf k x)))])) (va_A [(h0, .inr (3, [.ref a0, .ref a1, .int (nI n)])), (a0, .inl (cI, 60, .inl v)), (a1, .inl (cZ, 60, .inl hf))] sz)) 0 0 (va_A [(h0, .inr (3, [.ref a0, .ref a1, .int (nI n)])), (a0, .inl (cI, 60, .inl v)), (a1, .inl (cZ, 60, .inl hf))] sz) := by
  refine kOfW (cc := cX3_markHoliday) (maxL := 3) (ret := none) (fun A => va_Qv (fun (_ : Unit) => True) (kPost D (tyA cI cZ cJ) (A) (fun (_ : Unit) => [(h0, .inr (3, [.ref a0, .ref a1, .int (nI n)])), (a0, .inl (cI, 60, .inl v)), (a1, .inl (cZ, 60, .inl (upd hf k x)))])) (A)) (by decide) rfl (Nat.le_of_ble_eq_true rfl) ?_
  intro p_ e_ s m_ below_ meth_ c_ A ls hx hb hr hml hts hown hlocks hin hA hP hK hD hsz hl
  have hS : va_S A s.heap s.heap [] := va_S.rf
  have hl : lv_has ls 3 [(0, .ref h0), (1, .int (nI k)), (2, .int x)] := hl
  have hinX3 : ∀ w ∈ wsX30, w ∈ wsX3_markHoliday := fun w h => List.mem_cons_of_mem _ (List.mem_append_right _ h)
  refine lv_aload_n hx hb dX3_markHoliday_0 rfl (lv_at hl 0 rfl) ?_
  refine lv_iload_n hx hb dX3_markHoliday_1 rfl (lv_at hl 1 rfl) ?_
  refine kci (wr := []) (pre := [(h0, .inr (3, [.ref a0, .ref a1, .int (nI n)])), (a0, .inl (cI, 60, .inl v)), (a1, .inl (cZ, 60, .inl hf))]) (va_runV (As := [.int (nI k)]) (rest := []) ⟨hx, hb, hml, hown, hts⟩ (c_X3_has l D cI cZ cJ s.heap.size h0 a0 a1 n v hf k (by first | assumption | omega) (by first | assumption | omega)) (cwV 1 hts gX3_markHoliday_X3_has rfl rfl rfl (by decide +kernel) ⟨Nat.le_of_ble_eq_true rfl, Nat.le_of_ble_eq_true rfl⟩) (kpreV hK hP hD (ci := 3) (q0 := 0) rfl rfl [0, 1, 2] (by decide) rfl) rfl rfl hl.1 rfl (lv_room (Nat.le_of_ble_eq_true rfl)) dX3_markHoliday_2 ⟨Nat.zero_le _, Nat.zero_le _⟩) hP hD hS hA [0, 1, 2] [] rfl rfl (by decide) (by decide) (fun r_1 _ H locs hw hP hD hS => ?_)
  have hP : va_P D vwCl [(h0, .inr (3, [.ref a0, .ref a1, .int (nI n)])), (a0, .inl (cI, 60, .inl v)), (a1, .inl (cZ, 60, .inl hf))] H := hP
  have hD : va_D A [(h0, .inr (3, [.ref a0, .ref a1, .int (nI n)])), (a0, .inl (cI, 60, .inl v)), (a1, .inl (cZ, 60, .inl hf))] := hD
  have hr9 : r_1 = nI 1 := hw
  refine wt_i hr9 ?_
  refine lv_if_eq (tgt := 15) hx hb dX3_markHoliday_5 (by decide) (fun c5 => ?_) (fun c5 => ?_)
  · skip
    have c5 := keq (a := 1) (b := 0) c5 (by omega) (by omega)
    omega
  · skip
    have c5 := kneq (a := 1) (b := 0) c5 (by omega) (by omega)
    refine lv_aload_n hx hb dX3_markHoliday_8 rfl (lv_at hl 0 rfl) ?_
    refine va_get (D := D) (ci := 3) (v := .ref a1) (C := RX3) (T := TX3) (N := 3) hx hb hts hinX3 hown hK hP 0 rfl rfl 1 (by decide) (hts (.fieldLink RX3 15 "SeriesWatcher$Series" "holidays" "[Z") (by decide +kernel)) (fun _ h9 => h9) rfl dX3_markHoliday_9 ?_
    refine lv_iload_n hx hb dX3_markHoliday_12 rfl (lv_at hl 1 rfl) ?_
    refine lv_iload_n hx hb dX3_markHoliday_13 rfl (lv_at hl 2 rfl) ?_
    refine va_zast (D := D) hx hb hK hP hD hS 2 1 rfl rfl (vp_in_nI (by omega) (by decide)) dX3_markHoliday_14 (fun H locs hP hD hS => ?_)
    rw [nI_clamp (n := k) (by omega), kzb hb9] at hP hD
    have hP : va_P D vwCl [(h0, .inr (3, [.ref a0, .ref a1, .int (nI n)])), (a0, .inl (cI, 60, .inl v)), (a1, .inl (cZ, 60, .inl (upd hf k x)))] H := hP
    have hD : va_D A [(h0, .inr (3, [.ref a0, .ref a1, .int (nI n)])), (a0, .inl (cI, 60, .inl v)), (a1, .inl (cZ, 60, .inl (upd hf k x)))] := hD
    exact krv hx hb hr hlocks hP hK hD hS () (trivial) [0, 1, 2] (by decide) rfl dX3_markHoliday_15

set_option maxHeartbeats 4000000 in
set_option maxRecDepth 100000 in
theorem c_X4_clear (l : Launch) (D : va_G) (cI cZ cJ : ClassId) (sz : Nat) (h0 a0 : Nat) (n : Nat) (sp : Int32) (f : Nat → Int32)  : Met l yX4_clear wsX4_clear ({ frames := 0, cells := 0, slots := 0, locals := 0 }) (va_Pc [.ref h0] (kPre D (tyA cI cZ cJ) sz [(h0, .inr (4, [.ref a0, .int (nI n), .int sp])), (a0, .inl (cI, 60, .inl f))])) (va_Qv (fun (_ : Unit) => True) (kPost D (tyA cI cZ cJ) (va_A [(h0, .inr (4, [.ref a0, .int (nI n), .int sp])), (a0, .inl (cI, 60, .inl f))] sz) (fun (_ : Unit) => [(h0, .inr (4, [.ref a0, .int (nI 0), .int (nI 0)])), (a0, .inl (cI, 60, .inl f))])) (va_A [(h0, .inr (4, [.ref a0, .int (nI n), .int sp])), (a0, .inl (cI, 60, .inl f))] sz)) 0 0 (va_A [(h0, .inr (4, [.ref a0, .int (nI n), .int sp])), (a0, .inl (cI, 60, .inl f))] sz) := by
  refine kOfW (cc := cX4_clear) (maxL := 1) (ret := none) (fun A => va_Qv (fun (_ : Unit) => True) (kPost D (tyA cI cZ cJ) (A) (fun (_ : Unit) => [(h0, .inr (4, [.ref a0, .int (nI 0), .int (nI 0)])), (a0, .inl (cI, 60, .inl f))])) (A)) (by decide) rfl (Nat.le_of_ble_eq_true rfl) ?_
  intro p_ e_ s m_ below_ meth_ c_ A ls hx hb hr hml hts hown hlocks hin hA hP hK hD hsz hl
  have hS : va_S A s.heap s.heap [] := va_S.rf
  have hl : lv_has ls 1 [(0, .ref h0)] := hl
  have hinX4 : ∀ w ∈ wsX40, w ∈ wsX4_clear := fun w h => List.mem_cons_of_mem _ (List.mem_append_right _ h)
  refine lv_aload_n hx hb dX4_clear_0 rfl (lv_at hl 0 rfl) ?_
  refine lv_iconst (v := nI 0) hx hb dX4_clear_1 (by decide) ?_
  refine va_put (D := D) (ci := 4) (v := .int (nI 0)) (ty := .int) (C := RX4) (T := TX4) (N := 3) hx hb hts hinX4 tyX4 tyX4_ok nmX4 hown hK hP hD hS 0 rfl rfl 1 (by decide) (hts (.fieldLink RX4 15 "SeriesWatcher$SortedRow" "held" "I") (by decide +kernel)) (fun _ h9 => h9) rfl (by decide +kernel) rfl rfl (Nat.le_of_ble_eq_true rfl) dX4_clear_2 (fun H locs hP hD hS => ?_)
  have hP : va_P D vwCl [(h0, .inr (4, [.ref a0, .int (nI 0), .int sp])), (a0, .inl (cI, 60, .inl f))] H := hP
  have hD : va_D A [(h0, .inr (4, [.ref a0, .int (nI 0), .int sp])), (a0, .inl (cI, 60, .inl f))] := hD
  refine lv_aload_n hx hb dX4_clear_5 rfl (lv_at hl 0 rfl) ?_
  refine lv_iconst (v := nI 0) hx hb dX4_clear_6 (by decide) ?_
  refine va_put (D := D) (ci := 4) (v := .int (nI 0)) (ty := .int) (C := RX4) (T := TX4) (N := 3) hx hb hts hinX4 tyX4 tyX4_ok nmX4 hown hK hP hD hS 0 rfl rfl 2 (by decide) (hts (.fieldLink RX4 19 "SeriesWatcher$SortedRow" "spread" "I") (by decide +kernel)) (fun _ h9 => h9) rfl (by decide +kernel) rfl rfl (Nat.le_of_ble_eq_true rfl) dX4_clear_7 (fun H locs hP hD hS => ?_)
  have hP : va_P D vwCl [(h0, .inr (4, [.ref a0, .int (nI 0), .int (nI 0)])), (a0, .inl (cI, 60, .inl f))] H := hP
  have hD : va_D A [(h0, .inr (4, [.ref a0, .int (nI 0), .int (nI 0)])), (a0, .inl (cI, 60, .inl f))] := hD
  exact krv hx hb hr hlocks hP hK hD hS () (trivial) [0, 1] (by decide) rfl dX4_clear_10

set_option maxHeartbeats 4000000 in
set_option maxRecDepth 100000 in
theorem c_X4_median (l : Launch) (D : va_G) (cI cZ cJ : ClassId) (sz : Nat) (h0 a0 : Nat) (n : Nat) (sp : Int32) (f : Nat → Int32) (hn : n ≤ 60) : Met l yX4_median wsX4_median ({ frames := 0, cells := 0, slots := 0, locals := 0 }) (va_Pc [.ref h0] (kPre D (tyA cI cZ cJ) sz [(h0, .inr (4, [.ref a0, .int (nI n), .int sp])), (a0, .inl (cI, 60, .inl f))])) (va_Qi (fun (r : Int32) (_ : Unit) => r = kmed f n) (kPost D (tyA cI cZ cJ) (va_A [(h0, .inr (4, [.ref a0, .int (nI n), .int sp])), (a0, .inl (cI, 60, .inl f))] sz) (fun (_ : Unit) => [(h0, .inr (4, [.ref a0, .int (nI n), .int sp])), (a0, .inl (cI, 60, .inl f))])) (va_A [(h0, .inr (4, [.ref a0, .int (nI n), .int sp])), (a0, .inl (cI, 60, .inl f))] sz)) 0 0 (va_A [(h0, .inr (4, [.ref a0, .int (nI n), .int sp])), (a0, .inl (cI, 60, .inl f))] sz) := by
  refine kOfW (cc := cX4_median) (maxL := 1) (ret := (some .int)) (fun A => va_Qi (fun (r : Int32) (_ : Unit) => r = kmed f n) (kPost D (tyA cI cZ cJ) (A) (fun (_ : Unit) => [(h0, .inr (4, [.ref a0, .int (nI n), .int sp])), (a0, .inl (cI, 60, .inl f))])) (A)) (by decide) rfl (Nat.le_of_ble_eq_true rfl) ?_
  intro p_ e_ s m_ below_ meth_ c_ A ls hx hb hr hml hts hown hlocks hin hA hP hK hD hsz hl
  have hS : va_S A s.heap s.heap [] := va_S.rf
  have hl : lv_has ls 1 [(0, .ref h0)] := hl
  have hinX4 : ∀ w ∈ wsX40, w ∈ wsX4_median := fun w h => List.mem_cons_of_mem _ (List.mem_append_right _ h)
  refine lv_aload_n hx hb dX4_median_0 rfl (lv_at hl 0 rfl) ?_
  refine va_get (D := D) (ci := 4) (v := .int (nI n)) (C := RX4) (T := TX4) (N := 3) hx hb hts hinX4 hown hK hP 0 rfl rfl 1 (by decide) (hts (.fieldLink RX4 15 "SeriesWatcher$SortedRow" "held" "I") (by decide +kernel)) (fun _ h9 => h9) rfl dX4_median_1 ?_
  refine lv_if_ne (tgt := 11) hx hb dX4_median_4 (by decide) (fun c4 => ?_) (fun c4 => ?_)
  · skip
    have c4 := kneq (a := n) (b := 0) c4 (by omega) (by omega)
    refine lv_aload_n hx hb dX4_median_11 rfl (lv_at hl 0 rfl) ?_
    refine va_get (D := D) (ci := 4) (v := .ref a0) (C := RX4) (T := TX4) (N := 3) hx hb hts hinX4 hown hK hP 0 rfl rfl 0 (by decide) (hts (.fieldLink RX4 9 "SeriesWatcher$SortedRow" "numbers" "[I") (by decide +kernel)) (fun _ h9 => h9) rfl dX4_median_12 ?_
    refine lv_aload_n hx hb dX4_median_15 rfl (lv_at hl 0 rfl) ?_
    refine va_get (D := D) (ci := 4) (v := .int (nI n)) (C := RX4) (T := TX4) (N := 3) hx hb hts hinX4 hown hK hP 0 rfl rfl 1 (by decide) (hts (.fieldLink RX4 15 "SeriesWatcher$SortedRow" "held" "I") (by decide +kernel)) (fun _ h9 => h9) rfl dX4_median_16 ?_
    refine lv_iconst (v := nI 1) hx hb dX4_median_19 (by decide) ?_
    refine lv_isub hx hb dX4_median_20 ?_
    refine wt_i (pk_sub (by omega)) ?_
    refine lv_iconst (v := nI 2) hx hb dX4_median_21 (by decide) ?_
    refine lv_idiv hx hb dX4_median_22 (by decide) ?_
    refine wt_i (pk_div (by omega) (by omega) (by omega)) ?_
    refine va_iald (D := D) hx hb hK hP 1 0 rfl rfl (vp_in_nI (by omega) (by decide)) dX4_median_23 ?_
    refine wt_i (by rw [nI_clamp (n := ((n - 1) / 2)) (by omega)]) ?_
    exact kri hx hb hr hlocks hP hK hD hS () (by unfold kmed; split <;> first | rfl | omega) [0, 1] (by decide) rfl dX4_median_24
  · skip
    have c4 := keq (a := n) (b := 0) c4 (by omega) (by omega)
    refine lv_iconst (v := nI 0) hx hb dX4_median_7 (by decide) ?_
    refine lv_goto (tgt := 24) hx hb dX4_median_8 (by decide) ?_
    exact kri hx hb hr hlocks hP hK hD hS () (by unfold kmed; split <;> first | rfl | omega) [0, 1] (by decide) rfl dX4_median_24

set_option maxHeartbeats 4000000 in
set_option maxRecDepth 100000 in
theorem c_X4_spreadAroundMedian (l : Launch) (D : va_G) (cI cZ cJ : ClassId) (sz : Nat) (h0 a0 : Nat) (n : Nat) (sp : Int32) (f : Nat → Int32)  : Met l yX4_spreadAroundMedian wsX4_spreadAroundMedian ({ frames := 0, cells := 0, slots := 0, locals := 0 }) (va_Pc [.ref h0] (kPre D (tyA cI cZ cJ) sz [(h0, .inr (4, [.ref a0, .int (nI n), .int sp])), (a0, .inl (cI, 60, .inl f))])) (va_Qi (fun (r : Int32) (_ : Unit) => r = sp) (kPost D (tyA cI cZ cJ) (va_A [(h0, .inr (4, [.ref a0, .int (nI n), .int sp])), (a0, .inl (cI, 60, .inl f))] sz) (fun (_ : Unit) => [(h0, .inr (4, [.ref a0, .int (nI n), .int sp])), (a0, .inl (cI, 60, .inl f))])) (va_A [(h0, .inr (4, [.ref a0, .int (nI n), .int sp])), (a0, .inl (cI, 60, .inl f))] sz)) 0 0 (va_A [(h0, .inr (4, [.ref a0, .int (nI n), .int sp])), (a0, .inl (cI, 60, .inl f))] sz) := by
  refine kOfW (cc := cX4_spreadAroundMedian) (maxL := 1) (ret := (some .int)) (fun A => va_Qi (fun (r : Int32) (_ : Unit) => r = sp) (kPost D (tyA cI cZ cJ) (A) (fun (_ : Unit) => [(h0, .inr (4, [.ref a0, .int (nI n), .int sp])), (a0, .inl (cI, 60, .inl f))])) (A)) (by decide) rfl (Nat.le_of_ble_eq_true rfl) ?_
  intro p_ e_ s m_ below_ meth_ c_ A ls hx hb hr hml hts hown hlocks hin hA hP hK hD hsz hl
  have hS : va_S A s.heap s.heap [] := va_S.rf
  have hl : lv_has ls 1 [(0, .ref h0)] := hl
  have hinX4 : ∀ w ∈ wsX40, w ∈ wsX4_spreadAroundMedian := fun w h => List.mem_cons_of_mem _ (List.mem_append_right _ h)
  refine lv_aload_n hx hb dX4_spreadAroundMedian_0 rfl (lv_at hl 0 rfl) ?_
  refine va_get (D := D) (ci := 4) (v := .int sp) (C := RX4) (T := TX4) (N := 3) hx hb hts hinX4 hown hK hP 0 rfl rfl 2 (by decide) (hts (.fieldLink RX4 19 "SeriesWatcher$SortedRow" "spread" "I") (by decide +kernel)) (fun _ h9 => h9) rfl dX4_spreadAroundMedian_1 ?_
  exact kri hx hb hr hlocks hP hK hD hS () (rfl) [0, 1] (by decide) rfl dX4_spreadAroundMedian_4

set_option maxHeartbeats 4000000 in
set_option maxRecDepth 100000 in
theorem c_X4_insert (l : Launch) (D : va_G) (cI cZ cJ : ClassId) (sz : Nat) (h0 a0 : Nat) (n : Nat) (sp : Int32) (f : Nat → Int32) (x : Int32) (hn : n < 60) : Met l yX4_insert wsX4_insert ({ frames := 0, cells := 0, slots := 0, locals := 0 }) (va_Pc [.ref h0, .int x] (kPre D (tyA cI cZ cJ) sz [(h0, .inr (4, [.ref a0, .int (nI n), .int sp])), (a0, .inl (cI, 60, .inl f))])) (va_Qv (fun (u : (Nat → Int32) × Int32) => match u with | (f2, sp2) => sp2 = kspr sp f n x ∧ kins f n x f2) (kPost D (tyA cI cZ cJ) (va_A [(h0, .inr (4, [.ref a0, .int (nI n), .int sp])), (a0, .inl (cI, 60, .inl f))] sz) (fun (u : (Nat → Int32) × Int32) => match u with | (f2, sp2) => [(h0, .inr (4, [.ref a0, .int (nI (n + 1)), .int sp2])), (a0, .inl (cI, 60, .inl f2))])) (va_A [(h0, .inr (4, [.ref a0, .int (nI n), .int sp])), (a0, .inl (cI, 60, .inl f))] sz)) 0 0 (va_A [(h0, .inr (4, [.ref a0, .int (nI n), .int sp])), (a0, .inl (cI, 60, .inl f))] sz) := by
  refine kOfW (cc := cX4_insert) (maxL := 4) (ret := none) (fun A => va_Qv (fun (u : (Nat → Int32) × Int32) => match u with | (f2, sp2) => sp2 = kspr sp f n x ∧ kins f n x f2) (kPost D (tyA cI cZ cJ) (A) (fun (u : (Nat → Int32) × Int32) => match u with | (f2, sp2) => [(h0, .inr (4, [.ref a0, .int (nI (n + 1)), .int sp2])), (a0, .inl (cI, 60, .inl f2))])) (A)) (by decide) rfl (Nat.le_of_ble_eq_true rfl) ?_
  intro p_ e_ s m_ below_ meth_ c_ A ls hx hb hr hml hts hown hlocks hin hA hP hK hD hsz hl
  have hS : va_S A s.heap s.heap [] := va_S.rf
  have hl : lv_has ls 4 [(0, .ref h0), (1, .int x)] := hl
  have hinX4 : ∀ w ∈ wsX40, w ∈ wsX4_insert := fun w h => List.mem_cons_of_mem _ (List.mem_append_right _ h)
  refine lv_aload_n hx hb dX4_insert_0 rfl (lv_at hl 0 rfl) ?_
  refine va_get (D := D) (ci := 4) (v := .int (nI n)) (C := RX4) (T := TX4) (N := 3) hx hb hts hinX4 hown hK hP 0 rfl rfl 1 (by decide) (hts (.fieldLink RX4 15 "SeriesWatcher$SortedRow" "held" "I") (by decide +kernel)) (fun _ h9 => h9) rfl dX4_insert_1 ?_
  refine lv_aload_n hx hb dX4_insert_4 rfl (lv_at hl 0 rfl) ?_
  refine va_get (D := D) (ci := 4) (v := .ref a0) (C := RX4) (T := TX4) (N := 3) hx hb hts hinX4 hown hK hP 0 rfl rfl 0 (by decide) (hts (.fieldLink RX4 9 "SeriesWatcher$SortedRow" "numbers" "[I") (by decide +kernel)) (fun _ h9 => h9) rfl dX4_insert_5 ?_
  refine va_alen (D := D) (v := nI 60) hx hb hK hP 1 0 rfl rfl rfl dX4_insert_8 ?_
  refine lv_icmp_lt (tgt := 13) hx hb dX4_insert_9 (by decide) (fun c9 => ?_) (fun c9 => ?_)
  · skip
    have c9 := klt (a := n) (b := 60) c9 (by omega) (by omega)
    refine lv_aload_n hx hb dX4_insert_13 rfl (lv_at hl 0 rfl) ?_
    refine va_get (D := D) (ci := 4) (v := .int (nI n)) (C := RX4) (T := TX4) (N := 3) hx hb hts hinX4 hown hK hP 0 rfl rfl 1 (by decide) (hts (.fieldLink RX4 15 "SeriesWatcher$SortedRow" "held" "I") (by decide +kernel)) (fun _ h9 => h9) rfl dX4_insert_14 ?_
    refine wl_join (pc2 := 78) (fun (stk : List Value) (H : Heap) (locs : List Loc) (ls : Array Slot) => ∃ (sp2 : Int32), stk = [] ∧ (sp2 = kspr sp f n x) ∧ va_P D vwCl [(h0, .inr (4, [.ref a0, .int (nI n), .int sp2])), (a0, .inl (cI, 60, .inl f))] H ∧ va_D A [(h0, .inr (4, [.ref a0, .int (nI n), .int sp2])), (a0, .inl (cI, 60, .inl f))] ∧ va_S A s.heap H locs ∧ lv_has ls 4 [(0, .ref h0), (1, .int x)]) ?_ (fun j_1 => ?_)
    · skip
      rintro stk H locs ls ⟨sp2, rfl, e2, hP, hD, hS, hl⟩
      refine lv_aload_n hx hb dX4_insert_78 rfl (lv_at hl 0 rfl) ?_
      refine va_get (D := D) (ci := 4) (v := .int (nI n)) (C := RX4) (T := TX4) (N := 3) hx hb hts hinX4 hown hK hP 0 rfl rfl 1 (by decide) (hts (.fieldLink RX4 15 "SeriesWatcher$SortedRow" "held" "I") (by decide +kernel)) (fun _ h9 => h9) rfl dX4_insert_79 ?_
      refine lv_istore_n (lv' := [(2, .int (nI n)), (0, .ref h0), (1, .int x)]) hx hb dX4_insert_82 rfl hl (by decide) rfl (fun ls hl => ?_)
      refine wl_loop (fun (d9 : Nat) (H : Heap) (locs : List Loc) (ls : Array Slot) => ∃ (q : Nat) (g : Nat → Int32), d9 = q ∧ (q ≤ n) ∧ (∀ j, j < q → g j = f j) ∧ (∀ j, q ≤ j → j < n → g (j + 1) = f j) ∧ (∀ j, q ≤ j → j < n → x < f j) ∧ va_P D vwCl [(h0, .inr (4, [.ref a0, .int (nI n), .int sp2])), (a0, .inl (cI, 60, .inl g))] H ∧ va_D A [(h0, .inr (4, [.ref a0, .int (nI n), .int sp2])), (a0, .inl (cI, 60, .inl g))] ∧ va_S A s.heap H locs ∧ lv_has ls 4 [(2, .int (nI q)), (0, .ref h0), (1, .int x)]) ?_ _ ⟨n, f, rfl, Nat.le_refl n, fun _ _ => rfl, fun j a b => absurd b (by omega), fun j a b => absurd b (by omega), hP, hD, hS, lv_sub hl [0, 1, 2] rfl⟩
      rintro d_3 H locs ls ⟨q, g, hd_4, hq, h1, h2, h3, hP, hD, hS, hl⟩ ih_2
      refine lv_iload_n hx hb dX4_insert_83 rfl (lv_at hl 0 rfl) ?_
      refine lv_if_le (tgt := 119) hx hb dX4_insert_84 (by decide) (fun c84 => ?_) (fun c84 => ?_)
      · skip
        have c84 := kle (a := q) (b := 0) c84 (by omega) (by omega)
        have hx9 : q = 0 ∨ ¬ x < f (q - 1) := Or.inl (by omega)
        refine lv_aload_n hx hb dX4_insert_119 rfl (lv_at hl 1 rfl) ?_
        refine va_get (D := D) (ci := 4) (v := .ref a0) (C := RX4) (T := TX4) (N := 3) hx hb hts hinX4 hown hK hP 0 rfl rfl 0 (by decide) (hts (.fieldLink RX4 9 "SeriesWatcher$SortedRow" "numbers" "[I") (by decide +kernel)) (fun _ h9 => h9) rfl dX4_insert_120 ?_
        refine lv_iload_n hx hb dX4_insert_123 rfl (lv_at hl 0 rfl) ?_
        refine lv_iload_n hx hb dX4_insert_124 rfl (lv_at hl 2 rfl) ?_
        refine va_iast (D := D) hx hb hK hP hD hS 1 0 rfl rfl (vp_in_nI (by omega) (by decide)) dX4_insert_125 (fun H locs hP hD hS => ?_)
        rw [nI_clamp (n := q) (by omega)] at hP hD
        have hP : va_P D vwCl [(h0, .inr (4, [.ref a0, .int (nI n), .int sp2])), (a0, .inl (cI, 60, .inl (upd g q x)))] H := hP
        have hD : va_D A [(h0, .inr (4, [.ref a0, .int (nI n), .int sp2])), (a0, .inl (cI, 60, .inl (upd g q x)))] := hD
        refine lv_aload_n hx hb dX4_insert_126 rfl (lv_at hl 1 rfl) ?_
        refine lv_dup hx hb dX4_insert_127 rfl ?_
        refine va_get (D := D) (ci := 4) (v := .int (nI n)) (C := RX4) (T := TX4) (N := 3) hx hb hts hinX4 hown hK hP 0 rfl rfl 1 (by decide) (hts (.fieldLink RX4 15 "SeriesWatcher$SortedRow" "held" "I") (by decide +kernel)) (fun _ h9 => h9) rfl dX4_insert_128 ?_
        refine lv_iconst (v := nI 1) hx hb dX4_insert_131 (by decide) ?_
        refine lv_iadd hx hb dX4_insert_132 ?_
        refine wt_i (nI_add _ _) ?_
        refine va_put (D := D) (ci := 4) (v := .int (nI (n + 1))) (ty := .int) (C := RX4) (T := TX4) (N := 3) hx hb hts hinX4 tyX4 tyX4_ok nmX4 hown hK hP hD hS 0 rfl rfl 1 (by decide) (hts (.fieldLink RX4 15 "SeriesWatcher$SortedRow" "held" "I") (by decide +kernel)) (fun _ h9 => h9) rfl (by decide +kernel) rfl rfl (Nat.le_of_ble_eq_true rfl) dX4_insert_133 (fun H locs hP hD hS => ?_)
        have hP : va_P D vwCl [(h0, .inr (4, [.ref a0, .int (nI (n + 1)), .int sp2])), (a0, .inl (cI, 60, .inl (upd g q x)))] H := hP
        have hD : va_D A [(h0, .inr (4, [.ref a0, .int (nI (n + 1)), .int sp2])), (a0, .inl (cI, 60, .inl (upd g q x)))] := hD
        exact krv hx hb hr hlocks hP hK hD hS (_, _) (⟨e2, q, hq, fun j hj => by rw [pk_un (by omega)]; exact h1 j hj, pk_us, fun j a b => by rw [pk_un (by omega)]; exact h2 j a b, hx9, h3⟩) [0, 1] (by decide) rfl dX4_insert_136
      · skip
        have c84 := knle (a := q) (b := 0) c84 (by omega) (by omega)
        refine lv_aload_n hx hb dX4_insert_87 rfl (lv_at hl 1 rfl) ?_
        refine va_get (D := D) (ci := 4) (v := .ref a0) (C := RX4) (T := TX4) (N := 3) hx hb hts hinX4 hown hK hP 0 rfl rfl 0 (by decide) (hts (.fieldLink RX4 9 "SeriesWatcher$SortedRow" "numbers" "[I") (by decide +kernel)) (fun _ h9 => h9) rfl dX4_insert_88 ?_
        refine lv_iload_n hx hb dX4_insert_91 rfl (lv_at hl 0 rfl) ?_
        refine lv_iconst (v := nI 1) hx hb dX4_insert_92 (by decide) ?_
        refine lv_isub hx hb dX4_insert_93 ?_
        refine wt_i (pk_sub (by omega)) ?_
        refine va_iald (D := D) hx hb hK hP 1 0 rfl rfl (vp_in_nI (by omega) (by decide)) dX4_insert_94 ?_
        refine wt_i (by rw [nI_clamp (n := (q - 1)) (by omega)]) ?_
        refine lv_iload_n hx hb dX4_insert_95 rfl (lv_at hl 2 rfl) ?_
        refine lv_icmp_le (tgt := 119) hx hb dX4_insert_96 (by decide) (fun c96 => ?_) (fun c96 => ?_)
        · skip
          have hx9 : q = 0 ∨ ¬ x < f (q - 1) := Or.inr (by rw [← h1 (q - 1) (by omega)]; exact Int32.not_lt.mpr c96)
          refine lv_aload_n hx hb dX4_insert_119 rfl (lv_at hl 1 rfl) ?_
          refine va_get (D := D) (ci := 4) (v := .ref a0) (C := RX4) (T := TX4) (N := 3) hx hb hts hinX4 hown hK hP 0 rfl rfl 0 (by decide) (hts (.fieldLink RX4 9 "SeriesWatcher$SortedRow" "numbers" "[I") (by decide +kernel)) (fun _ h9 => h9) rfl dX4_insert_120 ?_
          refine lv_iload_n hx hb dX4_insert_123 rfl (lv_at hl 0 rfl) ?_
          refine lv_iload_n hx hb dX4_insert_124 rfl (lv_at hl 2 rfl) ?_
          refine va_iast (D := D) hx hb hK hP hD hS 1 0 rfl rfl (vp_in_nI (by omega) (by decide)) dX4_insert_125 (fun H locs hP hD hS => ?_)
          rw [nI_clamp (n := q) (by omega)] at hP hD
          have hP : va_P D vwCl [(h0, .inr (4, [.ref a0, .int (nI n), .int sp2])), (a0, .inl (cI, 60, .inl (upd g q x)))] H := hP
          have hD : va_D A [(h0, .inr (4, [.ref a0, .int (nI n), .int sp2])), (a0, .inl (cI, 60, .inl (upd g q x)))] := hD
          refine lv_aload_n hx hb dX4_insert_126 rfl (lv_at hl 1 rfl) ?_
          refine lv_dup hx hb dX4_insert_127 rfl ?_
          refine va_get (D := D) (ci := 4) (v := .int (nI n)) (C := RX4) (T := TX4) (N := 3) hx hb hts hinX4 hown hK hP 0 rfl rfl 1 (by decide) (hts (.fieldLink RX4 15 "SeriesWatcher$SortedRow" "held" "I") (by decide +kernel)) (fun _ h9 => h9) rfl dX4_insert_128 ?_
          refine lv_iconst (v := nI 1) hx hb dX4_insert_131 (by decide) ?_
          refine lv_iadd hx hb dX4_insert_132 ?_
          refine wt_i (nI_add _ _) ?_
          refine va_put (D := D) (ci := 4) (v := .int (nI (n + 1))) (ty := .int) (C := RX4) (T := TX4) (N := 3) hx hb hts hinX4 tyX4 tyX4_ok nmX4 hown hK hP hD hS 0 rfl rfl 1 (by decide) (hts (.fieldLink RX4 15 "SeriesWatcher$SortedRow" "held" "I") (by decide +kernel)) (fun _ h9 => h9) rfl (by decide +kernel) rfl rfl (Nat.le_of_ble_eq_true rfl) dX4_insert_133 (fun H locs hP hD hS => ?_)
          have hP : va_P D vwCl [(h0, .inr (4, [.ref a0, .int (nI (n + 1)), .int sp2])), (a0, .inl (cI, 60, .inl (upd g q x)))] H := hP
          have hD : va_D A [(h0, .inr (4, [.ref a0, .int (nI (n + 1)), .int sp2])), (a0, .inl (cI, 60, .inl (upd g q x)))] := hD
          exact krv hx hb hr hlocks hP hK hD hS (_, _) (⟨e2, q, hq, fun j hj => by rw [pk_un (by omega)]; exact h1 j hj, pk_us, fun j a b => by rw [pk_un (by omega)]; exact h2 j a b, hx9, h3⟩) [0, 1] (by decide) rfl dX4_insert_136
        · skip
          have hx8 : x < f (q - 1) := by rw [← h1 (q - 1) (by omega)]; exact Int32.not_le.mp c96
          refine lv_aload_n hx hb dX4_insert_99 rfl (lv_at hl 1 rfl) ?_
          refine va_get (D := D) (ci := 4) (v := .ref a0) (C := RX4) (T := TX4) (N := 3) hx hb hts hinX4 hown hK hP 0 rfl rfl 0 (by decide) (hts (.fieldLink RX4 9 "SeriesWatcher$SortedRow" "numbers" "[I") (by decide +kernel)) (fun _ h9 => h9) rfl dX4_insert_100 ?_
          refine lv_iload_n hx hb dX4_insert_103 rfl (lv_at hl 0 rfl) ?_
          refine lv_aload_n hx hb dX4_insert_104 rfl (lv_at hl 1 rfl) ?_
          refine va_get (D := D) (ci := 4) (v := .ref a0) (C := RX4) (T := TX4) (N := 3) hx hb hts hinX4 hown hK hP 0 rfl rfl 0 (by decide) (hts (.fieldLink RX4 9 "SeriesWatcher$SortedRow" "numbers" "[I") (by decide +kernel)) (fun _ h9 => h9) rfl dX4_insert_105 ?_
          refine lv_iload_n hx hb dX4_insert_108 rfl (lv_at hl 0 rfl) ?_
          refine lv_iconst (v := nI 1) hx hb dX4_insert_109 (by decide) ?_
          refine lv_isub hx hb dX4_insert_110 ?_
          refine wt_i (pk_sub (by omega)) ?_
          refine va_iald (D := D) hx hb hK hP 1 0 rfl rfl (vp_in_nI (by omega) (by decide)) dX4_insert_111 ?_
          refine wt_i (by rw [nI_clamp (n := (q - 1)) (by omega)]) ?_
          refine va_iast (D := D) hx hb hK hP hD hS 1 0 rfl rfl (vp_in_nI (by omega) (by decide)) dX4_insert_112 (fun H locs hP hD hS => ?_)
          rw [nI_clamp (n := q) (by omega)] at hP hD
          have hP : va_P D vwCl [(h0, .inr (4, [.ref a0, .int (nI n), .int sp2])), (a0, .inl (cI, 60, .inl (upd g q (g (q - 1)))))] H := hP
          have hD : va_D A [(h0, .inr (4, [.ref a0, .int (nI n), .int sp2])), (a0, .inl (cI, 60, .inl (upd g q (g (q - 1)))))] := hD
          refine lv_iinc (v := nI (q - 1)) (lv' := [(2, .int (nI (q - 1))), (0, .ref h0), (1, .int x)]) hx hb dX4_insert_113 hl (k := 0) rfl (by exact sb_m1 (by omega)) (by decide) rfl (fun ls hl => ?_)
          refine lv_goto (tgt := 83) hx hb dX4_insert_116 (by decide) ?_
          exact ih_2 _ (by omega) _ _ _ ⟨(q - 1), _, rfl, by omega, fun j hj => by rw [pk_un (by omega)]; exact h1 j (by omega), fun j a b => by
                by_cases hj : j = q - 1
                · subst hj; rw [show q - 1 + 1 = q by omega, pk_us]; exact h1 _ (by omega)
                · rw [pk_un (by omega)]; exact h2 j (by omega) b, fun j a b => by
                by_cases hj : j = q - 1
                · subst hj; exact hx8
                · exact h3 j (by omega) b, hP, hD, hS, lv_sub hl [0, 1, 2] rfl⟩
    refine lv_if_le (tgt := 78) hx hb dX4_insert_17 (by decide) (fun c17 => ?_) (fun c17 => ?_)
    · skip
      have c17 := kle (a := n) (b := 0) c17 (by omega) (by omega)
      have e0 : sp = kspr sp f n x := by unfold kspr; rw [if_pos (by omega)]
      exact j_1 _ _ _ _ ⟨sp, rfl, e0, hP, hD, hS, lv_sub hl [0, 1] rfl⟩
    · skip
      have c17 := knle (a := n) (b := 0) c17 (by omega) (by omega)
      refine lv_aload_n hx hb dX4_insert_20 rfl (lv_at hl 0 rfl) ?_
      refine va_get (D := D) (ci := 4) (v := .ref a0) (C := RX4) (T := TX4) (N := 3) hx hb hts hinX4 hown hK hP 0 rfl rfl 0 (by decide) (hts (.fieldLink RX4 9 "SeriesWatcher$SortedRow" "numbers" "[I") (by decide +kernel)) (fun _ h9 => h9) rfl dX4_insert_21 ?_
      refine lv_aload_n hx hb dX4_insert_24 rfl (lv_at hl 0 rfl) ?_
      refine va_get (D := D) (ci := 4) (v := .int (nI n)) (C := RX4) (T := TX4) (N := 3) hx hb hts hinX4 hown hK hP 0 rfl rfl 1 (by decide) (hts (.fieldLink RX4 15 "SeriesWatcher$SortedRow" "held" "I") (by decide +kernel)) (fun _ h9 => h9) rfl dX4_insert_25 ?_
      refine lv_iconst (v := nI 1) hx hb dX4_insert_28 (by decide) ?_
      refine lv_isub hx hb dX4_insert_29 ?_
      refine wt_i (pk_sub (by omega)) ?_
      refine lv_iconst (v := nI 2) hx hb dX4_insert_30 (by decide) ?_
      refine lv_idiv hx hb dX4_insert_31 (by decide) ?_
      refine wt_i (pk_div (by omega) (by omega) (by omega)) ?_
      refine va_iald (D := D) hx hb hK hP 1 0 rfl rfl (vp_in_nI (by omega) (by decide)) dX4_insert_32 ?_
      refine wt_i (by rw [nI_clamp (n := ((n - 1) / 2)) (by omega)]) ?_
      refine lv_istore_n (lv' := [(2, .int (f ((n - 1) / 2))), (0, .ref h0), (1, .int x)]) hx hb dX4_insert_33 rfl hl (by decide) rfl (fun ls hl => ?_)
      refine lv_aload_n hx hb dX4_insert_34 rfl (lv_at hl 1 rfl) ?_
      refine va_get (D := D) (ci := 4) (v := .ref a0) (C := RX4) (T := TX4) (N := 3) hx hb hts hinX4 hown hK hP 0 rfl rfl 0 (by decide) (hts (.fieldLink RX4 9 "SeriesWatcher$SortedRow" "numbers" "[I") (by decide +kernel)) (fun _ h9 => h9) rfl dX4_insert_35 ?_
      refine lv_aload_n hx hb dX4_insert_38 rfl (lv_at hl 1 rfl) ?_
      refine va_get (D := D) (ci := 4) (v := .int (nI n)) (C := RX4) (T := TX4) (N := 3) hx hb hts hinX4 hown hK hP 0 rfl rfl 1 (by decide) (hts (.fieldLink RX4 15 "SeriesWatcher$SortedRow" "held" "I") (by decide +kernel)) (fun _ h9 => h9) rfl dX4_insert_39 ?_
      refine lv_iconst (v := nI 2) hx hb dX4_insert_42 (by decide) ?_
      refine lv_idiv hx hb dX4_insert_43 (by decide) ?_
      refine wt_i (pk_div (by omega) (by omega) (by omega)) ?_
      refine va_iald (D := D) hx hb hK hP 1 0 rfl rfl (vp_in_nI (by omega) (by decide)) dX4_insert_44 ?_
      refine wt_i (by rw [nI_clamp (n := (n / 2)) (by omega)]) ?_
      refine lv_istore_n (lv' := [(3, .int (f (n / 2))), (2, .int (f ((n - 1) / 2))), (0, .ref h0), (1, .int x)]) hx hb dX4_insert_45 rfl hl (by decide) rfl (fun ls hl => ?_)
      refine lv_aload_n hx hb dX4_insert_46 rfl (lv_at hl 2 rfl) ?_
      refine lv_dup hx hb dX4_insert_47 rfl ?_
      refine va_get (D := D) (ci := 4) (v := .int sp) (C := RX4) (T := TX4) (N := 3) hx hb hts hinX4 hown hK hP 0 rfl rfl 2 (by decide) (hts (.fieldLink RX4 19 "SeriesWatcher$SortedRow" "spread" "I") (by decide +kernel)) (fun _ h9 => h9) rfl dX4_insert_48 ?_
      refine lv_iload_n hx hb dX4_insert_51 rfl (lv_at hl 3 rfl) ?_
      refine lv_iload_n hx hb dX4_insert_52 rfl (lv_at hl 1 rfl) ?_
      refine lv_icmp_ge (tgt := 62) hx hb dX4_insert_53 (by decide) (fun c53 => ?_) (fun c53 => ?_)
      · skip
        refine lv_iload_n hx hb dX4_insert_62 rfl (lv_at hl 3 rfl) ?_
        refine lv_iload_n hx hb dX4_insert_63 rfl (lv_at hl 0 rfl) ?_
        refine lv_icmp_le (tgt := 73) hx hb dX4_insert_64 (by decide) (fun c64 => ?_) (fun c64 => ?_)
        · skip
          refine lv_iconst (v := nI 0) hx hb dX4_insert_73 (by decide) ?_
          refine lv_iadd hx hb dX4_insert_74 ?_
          refine va_put (D := D) (ci := 4) (v := .int (sp + (nI 0))) (ty := .int) (C := RX4) (T := TX4) (N := 3) hx hb hts hinX4 tyX4 tyX4_ok nmX4 hown hK hP hD hS 0 rfl rfl 2 (by decide) (hts (.fieldLink RX4 19 "SeriesWatcher$SortedRow" "spread" "I") (by decide +kernel)) (fun _ h9 => h9) rfl (by decide +kernel) rfl rfl (Nat.le_of_ble_eq_true rfl) dX4_insert_75 (fun H locs hP hD hS => ?_)
          have hP : va_P D vwCl [(h0, .inr (4, [.ref a0, .int (nI n), .int (sp + (nI 0))])), (a0, .inl (cI, 60, .inl f))] H := hP
          have hD : va_D A [(h0, .inr (4, [.ref a0, .int (nI n), .int (sp + (nI 0))])), (a0, .inl (cI, 60, .inl f))] := hD
          exact j_1 _ _ _ _ ⟨_, rfl, by unfold kspr; rw [if_neg (by omega)]; first | rw [if_pos (Int32.not_le.mp c53)] | rw [if_neg (Int32.not_lt.mpr c53), if_pos (Int32.not_le.mp c64)] | (rw [if_neg (Int32.not_lt.mpr c53), if_neg (Int32.not_lt.mpr c64)]; try rfl), hP, hD, hS, lv_sub hl [2, 3] rfl⟩
        · skip
          refine lv_iload_n hx hb dX4_insert_67 rfl (lv_at hl 3 rfl) ?_
          refine lv_iload_n hx hb dX4_insert_68 rfl (lv_at hl 0 rfl) ?_
          refine lv_isub hx hb dX4_insert_69 ?_
          refine lv_goto (tgt := 74) hx hb dX4_insert_70 (by decide) ?_
          refine lv_iadd hx hb dX4_insert_74 ?_
          refine va_put (D := D) (ci := 4) (v := .int (sp + (x - (f (n / 2))))) (ty := .int) (C := RX4) (T := TX4) (N := 3) hx hb hts hinX4 tyX4 tyX4_ok nmX4 hown hK hP hD hS 0 rfl rfl 2 (by decide) (hts (.fieldLink RX4 19 "SeriesWatcher$SortedRow" "spread" "I") (by decide +kernel)) (fun _ h9 => h9) rfl (by decide +kernel) rfl rfl (Nat.le_of_ble_eq_true rfl) dX4_insert_75 (fun H locs hP hD hS => ?_)
          have hP : va_P D vwCl [(h0, .inr (4, [.ref a0, .int (nI n), .int (sp + (x - (f (n / 2))))])), (a0, .inl (cI, 60, .inl f))] H := hP
          have hD : va_D A [(h0, .inr (4, [.ref a0, .int (nI n), .int (sp + (x - (f (n / 2))))])), (a0, .inl (cI, 60, .inl f))] := hD
          exact j_1 _ _ _ _ ⟨_, rfl, by unfold kspr; rw [if_neg (by omega)]; first | rw [if_pos (Int32.not_le.mp c53)] | rw [if_neg (Int32.not_lt.mpr c53), if_pos (Int32.not_le.mp c64)] | (rw [if_neg (Int32.not_lt.mpr c53), if_neg (Int32.not_lt.mpr c64)]; try rfl), hP, hD, hS, lv_sub hl [2, 3] rfl⟩
      · skip
        refine lv_iload_n hx hb dX4_insert_56 rfl (lv_at hl 1 rfl) ?_
        refine lv_iload_n hx hb dX4_insert_57 rfl (lv_at hl 3 rfl) ?_
        refine lv_isub hx hb dX4_insert_58 ?_
        refine lv_goto (tgt := 74) hx hb dX4_insert_59 (by decide) ?_
        refine lv_iadd hx hb dX4_insert_74 ?_
        refine va_put (D := D) (ci := 4) (v := .int (sp + ((f ((n - 1) / 2)) - x))) (ty := .int) (C := RX4) (T := TX4) (N := 3) hx hb hts hinX4 tyX4 tyX4_ok nmX4 hown hK hP hD hS 0 rfl rfl 2 (by decide) (hts (.fieldLink RX4 19 "SeriesWatcher$SortedRow" "spread" "I") (by decide +kernel)) (fun _ h9 => h9) rfl (by decide +kernel) rfl rfl (Nat.le_of_ble_eq_true rfl) dX4_insert_75 (fun H locs hP hD hS => ?_)
        have hP : va_P D vwCl [(h0, .inr (4, [.ref a0, .int (nI n), .int (sp + ((f ((n - 1) / 2)) - x))])), (a0, .inl (cI, 60, .inl f))] H := hP
        have hD : va_D A [(h0, .inr (4, [.ref a0, .int (nI n), .int (sp + ((f ((n - 1) / 2)) - x))])), (a0, .inl (cI, 60, .inl f))] := hD
        exact j_1 _ _ _ _ ⟨_, rfl, by unfold kspr; rw [if_neg (by omega)]; first | rw [if_pos (Int32.not_le.mp c53)] | rw [if_neg (Int32.not_lt.mpr c53), if_pos (Int32.not_le.mp c64)] | (rw [if_neg (Int32.not_lt.mpr c53), if_neg (Int32.not_lt.mpr c64)]; try rfl), hP, hD, hS, lv_sub hl [2, 3] rfl⟩
  · skip
    have c9 := knlt (a := n) (b := 60) c9 (by omega) (by omega)
    omega

set_option maxHeartbeats 4000000 in
set_option maxRecDepth 100000 in
theorem c_X3_removeOldest (l : Launch) (D : va_G) (cI cZ cJ : ClassId) (sz : Nat) (h0 a0 a1 : Nat) (n : Nat) (v hf : Nat → Int32) (k : Nat) (hk : k ≤ n) (hn : n ≤ 60) (hbit : ∀ j, kbit (hf j)) : Met l yX3_removeOldest wsX3_removeOldest ({ frames := 0, cells := 0, slots := 0, locals := 0 }) (va_Pc [.ref h0, .int (nI k)] (kPre D (tyA cI cZ cJ) sz [(h0, .inr (3, [.ref a0, .ref a1, .int (nI n)])), (a0, .inl (cI, 60, .inl v)), (a1, .inl (cZ, 60, .inl hf))])) (va_Qv (fun (u : (Nat → Int32) × (Nat → Int32)) => match u with | (v2, hf2) => (∀ j, j < n - k → v2 j = v (j + k)) ∧ (∀ j, j < n - k → hf2 j = hf (j + k)) ∧ ∀ j, kbit (hf2 j)) (kPost D (tyA cI cZ cJ) (va_A [(h0, .inr (3, [.ref a0, .ref a1, .int (nI n)])), (a0, .inl (cI, 60, .inl v)), (a1, .inl (cZ, 60, .inl hf))] sz) (fun (u : (Nat → Int32) × (Nat → Int32)) => match u with | (v2, hf2) => [(h0, .inr (3, [.ref a0, .ref a1, .int (nI (n - k))])), (a0, .inl (cI, 60, .inl v2)), (a1, .inl (cZ, 60, .inl hf2))])) (va_A [(h0, .inr (3, [.ref a0, .ref a1, .int (nI n)])), (a0, .inl (cI, 60, .inl v)), (a1, .inl (cZ, 60, .inl hf))] sz)) 0 0 (va_A [(h0, .inr (3, [.ref a0, .ref a1, .int (nI n)])), (a0, .inl (cI, 60, .inl v)), (a1, .inl (cZ, 60, .inl hf))] sz) := by
  refine kOfW (cc := cX3_removeOldest) (maxL := 3) (ret := none) (fun A => va_Qv (fun (u : (Nat → Int32) × (Nat → Int32)) => match u with | (v2, hf2) => (∀ j, j < n - k → v2 j = v (j + k)) ∧ (∀ j, j < n - k → hf2 j = hf (j + k)) ∧ ∀ j, kbit (hf2 j)) (kPost D (tyA cI cZ cJ) (A) (fun (u : (Nat → Int32) × (Nat → Int32)) => match u with | (v2, hf2) => [(h0, .inr (3, [.ref a0, .ref a1, .int (nI (n - k))])), (a0, .inl (cI, 60, .inl v2)), (a1, .inl (cZ, 60, .inl hf2))])) (A)) (by decide) rfl (Nat.le_of_ble_eq_true rfl) ?_
  intro p_ e_ s m_ below_ meth_ c_ A ls hx hb hr hml hts hown hlocks hin hA hP hK hD hsz hl
  have hS : va_S A s.heap s.heap [] := va_S.rf
  have hl : lv_has ls 3 [(0, .ref h0), (1, .int (nI k))] := hl
  have hinX3 : ∀ w ∈ wsX30, w ∈ wsX3_removeOldest := fun w h => List.mem_cons_of_mem _ (List.mem_append_right _ h)
  refine lv_iload_n hx hb dX3_removeOldest_0 rfl (lv_at hl 1 rfl) ?_
  refine lv_if_lt (tgt := 12) hx hb dX3_removeOldest_1 (by decide) (fun c1 => ?_) (fun c1 => ?_)
  · skip
    have c1 := klt (a := k) (b := 0) c1 (by omega) (by omega)
    omega
  · skip
    have c1 := knlt (a := k) (b := 0) c1 (by omega) (by omega)
    refine lv_iload_n hx hb dX3_removeOldest_4 rfl (lv_at hl 1 rfl) ?_
    refine lv_aload_n hx hb dX3_removeOldest_5 rfl (lv_at hl 0 rfl) ?_
    refine va_get (D := D) (ci := 3) (v := .int (nI n)) (C := RX3) (T := TX3) (N := 3) hx hb hts hinX3 hown hK hP 0 rfl rfl 2 (by decide) (hts (.fieldLink RX3 19 "SeriesWatcher$Series" "count" "I") (by decide +kernel)) (fun _ h9 => h9) rfl dX3_removeOldest_6 ?_
    refine lv_icmp_le (tgt := 13) hx hb dX3_removeOldest_9 (by decide) (fun c9 => ?_) (fun c9 => ?_)
    · skip
      have c9 := kle (a := k) (b := n) c9 (by omega) (by omega)
      refine lv_aload_n hx hb dX3_removeOldest_13 rfl (lv_at hl 0 rfl) ?_
      refine lv_dup hx hb dX3_removeOldest_14 rfl ?_
      refine va_get (D := D) (ci := 3) (v := .int (nI n)) (C := RX3) (T := TX3) (N := 3) hx hb hts hinX3 hown hK hP 0 rfl rfl 2 (by decide) (hts (.fieldLink RX3 19 "SeriesWatcher$Series" "count" "I") (by decide +kernel)) (fun _ h9 => h9) rfl dX3_removeOldest_15 ?_
      refine lv_iload_n hx hb dX3_removeOldest_18 rfl (lv_at hl 1 rfl) ?_
      refine lv_isub hx hb dX3_removeOldest_19 ?_
      refine wt_i (pk_sub (by omega)) ?_
      refine va_put (D := D) (ci := 3) (v := .int (nI (n - k))) (ty := .int) (C := RX3) (T := TX3) (N := 3) hx hb hts hinX3 tyX3 tyX3_ok nmX3 hown hK hP hD hS 0 rfl rfl 2 (by decide) (hts (.fieldLink RX3 19 "SeriesWatcher$Series" "count" "I") (by decide +kernel)) (fun _ h9 => h9) rfl (by decide +kernel) rfl rfl (Nat.le_of_ble_eq_true rfl) dX3_removeOldest_20 (fun H locs hP hD hS => ?_)
      have hP : va_P D vwCl [(h0, .inr (3, [.ref a0, .ref a1, .int (nI (n - k))])), (a0, .inl (cI, 60, .inl v)), (a1, .inl (cZ, 60, .inl hf))] H := hP
      have hD : va_D A [(h0, .inr (3, [.ref a0, .ref a1, .int (nI (n - k))])), (a0, .inl (cI, 60, .inl v)), (a1, .inl (cZ, 60, .inl hf))] := hD
      refine lv_iconst (v := nI 0) hx hb dX3_removeOldest_23 (by decide) ?_
      refine lv_istore_n (lv' := [(2, .int (nI 0)), (0, .ref h0), (1, .int (nI k))]) hx hb dX3_removeOldest_24 rfl hl (by decide) rfl (fun ls hl => ?_)
      refine wl_loop (fun (d9 : Nat) (H : Heap) (locs : List Loc) (ls : Array Slot) => ∃ (j : Nat) (g : Nat → Int32) (gh : Nat → Int32), d9 = n - k - j ∧ (j ≤ n - k) ∧ (∀ i, i < j → g i = v (i + k)) ∧ (∀ i, i < j → gh i = hf (i + k)) ∧ (∀ i, j ≤ i → g i = v i) ∧ (∀ i, j ≤ i → gh i = hf i) ∧ (∀ i, kbit (gh i)) ∧ va_P D vwCl [(h0, .inr (3, [.ref a0, .ref a1, .int (nI (n - k))])), (a0, .inl (cI, 60, .inl g)), (a1, .inl (cZ, 60, .inl gh))] H ∧ va_D A [(h0, .inr (3, [.ref a0, .ref a1, .int (nI (n - k))])), (a0, .inl (cI, 60, .inl g)), (a1, .inl (cZ, 60, .inl gh))] ∧ va_S A s.heap H locs ∧ lv_has ls 3 [(2, .int (nI j)), (0, .ref h0), (1, .int (nI k))]) ?_ _ ⟨0, _, _, rfl, Nat.zero_le _, fun i q => absurd q (Nat.not_lt_zero i), fun i q => absurd q (Nat.not_lt_zero i), fun _ _ => rfl, fun _ _ => rfl, hbit, hP, hD, hS, lv_sub hl [0, 1, 2] rfl⟩
      rintro d_2 H locs ls ⟨j, g, gh, hd_3, hj, h1, h2, h3, h4, h5, hP, hD, hS, hl⟩ ih_1
      refine lv_iload_n hx hb dX3_removeOldest_25 rfl (lv_at hl 0 rfl) ?_
      refine lv_aload_n hx hb dX3_removeOldest_26 rfl (lv_at hl 1 rfl) ?_
      refine va_get (D := D) (ci := 3) (v := .int (nI (n - k))) (C := RX3) (T := TX3) (N := 3) hx hb hts hinX3 hown hK hP 0 rfl rfl 2 (by decide) (hts (.fieldLink RX3 19 "SeriesWatcher$Series" "count" "I") (by decide +kernel)) (fun _ h9 => h9) rfl dX3_removeOldest_27 ?_
      refine lv_icmp_ge (tgt := 67) hx hb dX3_removeOldest_30 (by decide) (fun c30 => ?_) (fun c30 => ?_)
      · skip
        have c30 := kle (a := (n - k)) (b := j) c30 (by omega) (by omega)
        have ej : j = n - k := by omega
        rw [ej] at h1 h2
        exact krv hx hb hr hlocks hP hK hD hS (_, _) (⟨h1, h2, h5⟩) [0, 1, 2] (by decide) rfl dX3_removeOldest_67
      · skip
        have c30 := knle (a := (n - k)) (b := j) c30 (by omega) (by omega)
        refine lv_aload_n hx hb dX3_removeOldest_33 rfl (lv_at hl 1 rfl) ?_
        refine va_get (D := D) (ci := 3) (v := .ref a0) (C := RX3) (T := TX3) (N := 3) hx hb hts hinX3 hown hK hP 0 rfl rfl 0 (by decide) (hts (.fieldLink RX3 9 "SeriesWatcher$Series" "numbers" "[I") (by decide +kernel)) (fun _ h9 => h9) rfl dX3_removeOldest_34 ?_
        refine lv_iload_n hx hb dX3_removeOldest_37 rfl (lv_at hl 0 rfl) ?_
        refine lv_aload_n hx hb dX3_removeOldest_38 rfl (lv_at hl 1 rfl) ?_
        refine va_get (D := D) (ci := 3) (v := .ref a0) (C := RX3) (T := TX3) (N := 3) hx hb hts hinX3 hown hK hP 0 rfl rfl 0 (by decide) (hts (.fieldLink RX3 9 "SeriesWatcher$Series" "numbers" "[I") (by decide +kernel)) (fun _ h9 => h9) rfl dX3_removeOldest_39 ?_
        refine lv_iload_n hx hb dX3_removeOldest_42 rfl (lv_at hl 0 rfl) ?_
        refine lv_iload_n hx hb dX3_removeOldest_43 rfl (lv_at hl 2 rfl) ?_
        refine lv_iadd hx hb dX3_removeOldest_44 ?_
        refine wt_i (nI_add _ _) ?_
        refine va_iald (D := D) hx hb hK hP 1 0 rfl rfl (vp_in_nI (by omega) (by decide)) dX3_removeOldest_45 ?_
        refine wt_i (by rw [nI_clamp (n := (j + k)) (by omega)]) ?_
        refine va_iast (D := D) hx hb hK hP hD hS 1 0 rfl rfl (vp_in_nI (by omega) (by decide)) dX3_removeOldest_46 (fun H locs hP hD hS => ?_)
        rw [nI_clamp (n := j) (by omega)] at hP hD
        have hP : va_P D vwCl [(h0, .inr (3, [.ref a0, .ref a1, .int (nI (n - k))])), (a0, .inl (cI, 60, .inl (upd g j (g (j + k))))), (a1, .inl (cZ, 60, .inl gh))] H := hP
        have hD : va_D A [(h0, .inr (3, [.ref a0, .ref a1, .int (nI (n - k))])), (a0, .inl (cI, 60, .inl (upd g j (g (j + k))))), (a1, .inl (cZ, 60, .inl gh))] := hD
        refine lv_aload_n hx hb dX3_removeOldest_47 rfl (lv_at hl 1 rfl) ?_
        refine va_get (D := D) (ci := 3) (v := .ref a1) (C := RX3) (T := TX3) (N := 3) hx hb hts hinX3 hown hK hP 0 rfl rfl 1 (by decide) (hts (.fieldLink RX3 15 "SeriesWatcher$Series" "holidays" "[Z") (by decide +kernel)) (fun _ h9 => h9) rfl dX3_removeOldest_48 ?_
        refine lv_iload_n hx hb dX3_removeOldest_51 rfl (lv_at hl 0 rfl) ?_
        refine lv_aload_n hx hb dX3_removeOldest_52 rfl (lv_at hl 1 rfl) ?_
        refine va_get (D := D) (ci := 3) (v := .ref a1) (C := RX3) (T := TX3) (N := 3) hx hb hts hinX3 hown hK hP 0 rfl rfl 1 (by decide) (hts (.fieldLink RX3 15 "SeriesWatcher$Series" "holidays" "[Z") (by decide +kernel)) (fun _ h9 => h9) rfl dX3_removeOldest_53 ?_
        refine lv_iload_n hx hb dX3_removeOldest_56 rfl (lv_at hl 0 rfl) ?_
        refine lv_iload_n hx hb dX3_removeOldest_57 rfl (lv_at hl 2 rfl) ?_
        refine lv_iadd hx hb dX3_removeOldest_58 ?_
        refine wt_i (nI_add _ _) ?_
        refine va_zald (D := D) hx hb hK hP 2 1 rfl rfl (vp_in_nI (by omega) (by decide)) dX3_removeOldest_59 ?_
        refine wt_i (by rw [nI_clamp (n := (j + k)) (by omega)]) ?_
        refine va_zast (D := D) hx hb hK hP hD hS 2 1 rfl rfl (vp_in_nI (by omega) (by decide)) dX3_removeOldest_60 (fun H locs hP hD hS => ?_)
        rw [nI_clamp (n := j) (by omega), kzb (h5 _)] at hP hD
        have hP : va_P D vwCl [(h0, .inr (3, [.ref a0, .ref a1, .int (nI (n - k))])), (a0, .inl (cI, 60, .inl (upd g j (g (j + k))))), (a1, .inl (cZ, 60, .inl (upd gh j (gh (j + k)))))] H := hP
        have hD : va_D A [(h0, .inr (3, [.ref a0, .ref a1, .int (nI (n - k))])), (a0, .inl (cI, 60, .inl (upd g j (g (j + k))))), (a1, .inl (cZ, 60, .inl (upd gh j (gh (j + k)))))] := hD
        refine lv_iinc (v := nI (j + 1)) (lv' := [(2, .int (nI (j + 1))), (0, .ref h0), (1, .int (nI k))]) hx hb dX3_removeOldest_61 hl (k := 0) rfl (by exact nI_add _ 1) (by decide) rfl (fun ls hl => ?_)
        refine lv_goto (tgt := 25) hx hb dX3_removeOldest_64 (by decide) ?_
        exact ih_1 _ (by omega) _ _ _ ⟨(j + 1), _, _, rfl, by omega, fun i q => by
              by_cases e9 : i = j
              · rw [e9, pk_us]; exact h3 _ (by omega)
              · rw [pk_un e9]; exact h1 i (by omega), fun i q => by
              by_cases e9 : i = j
              · rw [e9, pk_us]; exact h4 _ (by omega)
              · rw [pk_un e9]; exact h2 i (by omega), fun i q => by rw [pk_un (by omega)]; exact h3 i (by omega), fun i q => by rw [pk_un (by omega)]; exact h4 i (by omega), fun i => by
              by_cases e9 : i = j
              · rw [e9, pk_us]; exact h5 _
              · rw [pk_un e9]; exact h5 i, hP, hD, hS, lv_sub hl [0, 1, 2] rfl⟩
    · skip
      have c9 := knle (a := k) (b := n) c9 (by omega) (by omega)
      omega

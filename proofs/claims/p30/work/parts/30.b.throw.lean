set_option maxHeartbeats 4000000 in
set_option maxRecDepth 100000 in
theorem x_X6_requireBetween (l : Launch) (hlf : l.stackTraces = false) (D : va_G) (cI cZ cJ : ClassId) (sz : Nat) (x lo hi : Int32) (h9 : x < lo ∨ ¬ x ≤ hi) : vx_Met l yX6_requireBetween wsX6_requireBetween ({ frames := 6, cells := 1, slots := 6, locals := 90 }) (va_Pc [.int x, .int lo, .int hi] (kPreX D (tyA cI cZ cJ) sz [])) (va_Qv (fun (_ : Unit) => False) (fun _ _ => True) (va_A [] sz)) (kXC "java/lang/IllegalArgumentException" D (tyA cI cZ cJ) (va_A [] sz) (fun (_ : Unit) => True) (fun (_ : Unit) => [])) 1 6 (va_A [] sz) := by
  refine kOfWX (cc := cX6_requireBetween) (maxL := 3) (ret := none) (fun A => va_Qv (fun (_ : Unit) => False) (fun _ _ => True) (A)) (fun A => kXC "java/lang/IllegalArgumentException" D (tyA cI cZ cJ) (A) (fun (_ : Unit) => True) (fun (_ : Unit) => [])) (by decide) rfl (Nat.le_of_ble_eq_true rfl) ?_
  intro p_ e_ s m_ below_ meth_ c_ A ls hx hb hr hml hts hown hlocks hT hA hP hK hD hsz hE hl
  have hS : va_S A s.heap s.heap [] := va_S.rf
  have hl : lv_has ls 3 [(0, .int x), (1, .int lo), (2, .int hi)] := hl
  have hinA : ∀ w ∈ (vx_atS RX6 158 "java/lang/IllegalArgumentException" ["java/lang/RuntimeException", "java/lang/Exception"]).filter goodWord, w ∈ wsX6_requireBetween := fun w h => List.mem_cons_of_mem _ (List.mem_append_right _ h)
  refine lv_iload_n hx hb dX6_requireBetween_0 rfl (lv_at hl 0 rfl) ?_
  refine lv_iload_n hx hb dX6_requireBetween_1 rfl (lv_at hl 1 rfl) ?_
  refine lv_icmp_lt (tgt := 10) hx hb dX6_requireBetween_2 (by decide) (fun c2 => ?_) (fun c2 => ?_)
  · skip
    exact kthrow (own := RX6) (cls := "java/lang/IllegalArgumentException") (text := "out of range") (names := ["java/lang/RuntimeException", "java/lang/Exception"]) (ik := 154) (is9 := 191) (ic := 158) hx hb hlf hown (by decide) (by decide) (hts (.classLink RX6 154 "java/lang/IllegalArgumentException") (by decide +kernel)) (hts (.initialized "java/lang/IllegalArgumentException") (by decide +kernel)) hE.2.2.1.1 (fun w h => hts w (hinA w h)) kngA kgdA hT hlocks (hml ▸ hl.1) hP hK hD hS hE dX6_requireBetween_10 dX6_requireBetween_13 dX6_requireBetween_14 dX6_requireBetween_16 dX6_requireBetween_19 (by decide) (Nat.le_of_ble_eq_true rfl) (Nat.le_of_ble_eq_true rfl) (Nat.le_of_ble_eq_true rfl) () (trivial) [] (by decide +kernel) rfl (Nat.le_of_ble_eq_true rfl) (Nat.le_of_ble_eq_true rfl)
  · skip
    refine lv_iload_n hx hb dX6_requireBetween_5 rfl (lv_at hl 0 rfl) ?_
    refine lv_iload_n hx hb dX6_requireBetween_6 rfl (lv_at hl 2 rfl) ?_
    refine lv_icmp_le (tgt := 20) hx hb dX6_requireBetween_7 (by decide) (fun c7 => ?_) (fun c7 => ?_)
    · skip
      exact absurd h9 (fun q => q.elim c2 (fun z => z c7))
    · skip
      exact kthrow (own := RX6) (cls := "java/lang/IllegalArgumentException") (text := "out of range") (names := ["java/lang/RuntimeException", "java/lang/Exception"]) (ik := 154) (is9 := 191) (ic := 158) hx hb hlf hown (by decide) (by decide) (hts (.classLink RX6 154 "java/lang/IllegalArgumentException") (by decide +kernel)) (hts (.initialized "java/lang/IllegalArgumentException") (by decide +kernel)) hE.2.2.1.1 (fun w h => hts w (hinA w h)) kngA kgdA hT hlocks (hml ▸ hl.1) hP hK hD hS hE dX6_requireBetween_10 dX6_requireBetween_13 dX6_requireBetween_14 dX6_requireBetween_16 dX6_requireBetween_19 (by decide) (Nat.le_of_ble_eq_true rfl) (Nat.le_of_ble_eq_true rfl) (Nat.le_of_ble_eq_true rfl) () (trivial) [] (by decide +kernel) rfl (Nat.le_of_ble_eq_true rfl) (Nat.le_of_ble_eq_true rfl)

set_option maxHeartbeats 4000000 in
set_option maxRecDepth 100000 in
theorem x_X6_requireIndex (l : Launch) (hlf : l.stackTraces = false) (D : va_G) (cI cZ cJ : ClassId) (sz : Nat) (x lo hi : Int32) (h9 : x < lo ∨ ¬ x < hi) : vx_Met l yX6_requireIndex wsX6_requireIndex ({ frames := 6, cells := 1, slots := 6, locals := 90 }) (va_Pc [.int x, .int lo, .int hi] (kPreX D (tyA cI cZ cJ) sz [])) (va_Qv (fun (_ : Unit) => False) (fun _ _ => True) (va_A [] sz)) (kXC "java/lang/IndexOutOfBoundsException" D (tyA cI cZ cJ) (va_A [] sz) (fun (_ : Unit) => True) (fun (_ : Unit) => [])) 1 6 (va_A [] sz) := by
  refine kOfWX (cc := cX6_requireIndex) (maxL := 3) (ret := none) (fun A => va_Qv (fun (_ : Unit) => False) (fun _ _ => True) (A)) (fun A => kXC "java/lang/IndexOutOfBoundsException" D (tyA cI cZ cJ) (A) (fun (_ : Unit) => True) (fun (_ : Unit) => [])) (by decide) rfl (Nat.le_of_ble_eq_true rfl) ?_
  intro p_ e_ s m_ below_ meth_ c_ A ls hx hb hr hml hts hown hlocks hT hA hP hK hD hsz hE hl
  have hS : va_S A s.heap s.heap [] := va_S.rf
  have hl : lv_has ls 3 [(0, .int x), (1, .int lo), (2, .int hi)] := hl
  have hinC : ∀ w ∈ (vx_atS RX6 197 "java/lang/IndexOutOfBoundsException" ["java/lang/RuntimeException", "java/lang/Exception"]).filter goodWord, w ∈ wsX6_requireIndex := fun w h => List.mem_cons_of_mem _ (List.mem_append_right _ h)
  refine lv_iload_n hx hb dX6_requireIndex_0 rfl (lv_at hl 0 rfl) ?_
  refine lv_iload_n hx hb dX6_requireIndex_1 rfl (lv_at hl 1 rfl) ?_
  refine lv_icmp_lt (tgt := 10) hx hb dX6_requireIndex_2 (by decide) (fun c2 => ?_) (fun c2 => ?_)
  · skip
    exact kthrow (own := RX6) (cls := "java/lang/IndexOutOfBoundsException") (text := "there is none of this number") (names := ["java/lang/RuntimeException", "java/lang/Exception"]) (ik := 193) (is9 := 195) (ic := 197) hx hb hlf hown (by decide) (by decide) (hts (.classLink RX6 193 "java/lang/IndexOutOfBoundsException") (by decide +kernel)) (hts (.initialized "java/lang/IndexOutOfBoundsException") (by decide +kernel)) hE.2.2.1.2.1 (fun w h => hts w (hinC w h)) kngC kgdC hT hlocks (hml ▸ hl.1) hP hK hD hS hE dX6_requireIndex_10 dX6_requireIndex_13 dX6_requireIndex_14 dX6_requireIndex_16 dX6_requireIndex_19 (by decide) (Nat.le_of_ble_eq_true rfl) (Nat.le_of_ble_eq_true rfl) (Nat.le_of_ble_eq_true rfl) () (trivial) [] (by decide +kernel) rfl (Nat.le_of_ble_eq_true rfl) (Nat.le_of_ble_eq_true rfl)
  · skip
    refine lv_iload_n hx hb dX6_requireIndex_5 rfl (lv_at hl 0 rfl) ?_
    refine lv_iload_n hx hb dX6_requireIndex_6 rfl (lv_at hl 2 rfl) ?_
    refine lv_icmp_lt (tgt := 20) hx hb dX6_requireIndex_7 (by decide) (fun c7 => ?_) (fun c7 => ?_)
    · skip
      exact absurd h9 (fun q => q.elim c2 (fun z => z c7))
    · skip
      exact kthrow (own := RX6) (cls := "java/lang/IndexOutOfBoundsException") (text := "there is none of this number") (names := ["java/lang/RuntimeException", "java/lang/Exception"]) (ik := 193) (is9 := 195) (ic := 197) hx hb hlf hown (by decide) (by decide) (hts (.classLink RX6 193 "java/lang/IndexOutOfBoundsException") (by decide +kernel)) (hts (.initialized "java/lang/IndexOutOfBoundsException") (by decide +kernel)) hE.2.2.1.2.1 (fun w h => hts w (hinC w h)) kngC kgdC hT hlocks (hml ▸ hl.1) hP hK hD hS hE dX6_requireIndex_10 dX6_requireIndex_13 dX6_requireIndex_14 dX6_requireIndex_16 dX6_requireIndex_19 (by decide) (Nat.le_of_ble_eq_true rfl) (Nat.le_of_ble_eq_true rfl) (Nat.le_of_ble_eq_true rfl) () (trivial) [] (by decide +kernel) rfl (Nat.le_of_ble_eq_true rfl) (Nat.le_of_ble_eq_true rfl)

set_option maxHeartbeats 4000000 in
set_option maxRecDepth 100000 in
theorem x_X6_requireValue (l : Launch) (hlf : l.stackTraces = false) (D : va_G) (cI cZ cJ : ClassId) (sz : Nat) (x : Int32) (h9 : x < (-10000 : Int32) ∨ ¬ x ≤ nI 10000) : vx_Met l yX6_requireValue wsX6_requireValue ({ frames := 7, cells := 1, slots := 6, locals := 120 }) (va_Pc [.int x] (kPreX D (tyA cI cZ cJ) sz [])) (va_Qv (fun (_ : Unit) => False) (fun _ _ => True) (va_A [] sz)) (kXC "java/lang/IllegalArgumentException" D (tyA cI cZ cJ) (va_A [] sz) (fun (_ : Unit) => True) (fun (_ : Unit) => [])) 1 6 (va_A [] sz) := by
  refine kOfWX (cc := cX6_requireValue) (maxL := 1) (ret := none) (fun A => va_Qv (fun (_ : Unit) => False) (fun _ _ => True) (A)) (fun A => kXC "java/lang/IllegalArgumentException" D (tyA cI cZ cJ) (A) (fun (_ : Unit) => True) (fun (_ : Unit) => [])) (by decide) rfl (Nat.le_of_ble_eq_true rfl) ?_
  intro p_ e_ s m_ below_ meth_ c_ A ls hx hb hr hml hts hown hlocks hT hA hP hK hD hsz hE hl
  have hS : va_S A s.heap s.heap [] := va_S.rf
  have hl : lv_has ls 1 [(0, .int x)] := hl
  refine lv_iload_n hx hb dX6_requireValue_0 rfl (lv_at hl 0 rfl) ?_
  refine lv_sipush (v := (-10000 : Int32)) hx hb dX6_requireValue_1 (by decide) ?_
  refine lv_sipush (v := nI 10000) hx hb dX6_requireValue_4 (by decide) ?_
  refine kcxv (wr := []) (pre := []) (vx_runS (As := [.int x, .int (-10000 : Int32), .int (nI 10000)]) (rest := []) ⟨hx, hb, hml, hown, hts⟩ (x_X6_requireBetween l hlf D cI cZ cJ s.heap.size x (-10000 : Int32) (nI 10000) (by first | assumption | omega)) (va_cwS 3 hts gX6_requireValue_X6_requireBetween rfl rfl rfl (by decide +kernel) ⟨Nat.le_of_ble_eq_true rfl, Nat.le_of_ble_eq_true rfl⟩) (kpreSX hK hP hD hS hA hE [] (by decide +kernel) rfl) rfl rfl hl.1 rfl (lv_room (Nat.le_of_ble_eq_true rfl)) dX6_requireValue_7 ⟨Nat.le_of_ble_eq_true rfl, Nat.le_of_ble_eq_true rfl⟩) rfl hP hD hS hA [] [] rfl rfl (by decide +kernel) (by decide +kernel) (fun ce q9 u9 H locs hw hP hD hS hc1 hc2 hc3 => ?_)
  have hP : va_P D vwCl [] H := hP
  have hD : va_D A [] := hD
  exact kxout hT hlocks hP hK hD hS hc1 hc2 hc3 () (trivial) [] (by decide +kernel) rfl (Nat.le_of_ble_eq_true rfl) (Nat.le_of_ble_eq_true rfl)

set_option maxHeartbeats 4000000 in
set_option maxRecDepth 100000 in
theorem x_X6_requireNumber (l : Launch) (hlf : l.stackTraces = false) (D : va_G) (cI cZ cJ : ClassId) (sz : Nat) (o6 s0 e0 g0 y0 d0 : Nat) (bf bl sf gf : Int32) (n0 n1 : Nat) (n : Nat) (v hf : Nat → Int32) (x : Int32) (h9 : x < nI 0 ∨ ¬ x < nI n) : vx_Met l yX6_requireNumber wsX6_requireNumber ({ frames := 7, cells := 1, slots := 6, locals := 120 }) (va_Pc [.ref o6, .int x] (kPreX D (tyA cI cZ cJ) sz [(o6, .inr (6, [.ref s0, .ref e0, .ref g0, .ref y0, .ref d0, .int bf, .int bl, .int sf, .int gf])), (s0, .inr (3, [.ref n0, .ref n1, .int (nI n)])), (n0, .inl (cI, 60, .inl v)), (n1, .inl (cZ, 60, .inl hf))])) (va_Qv (fun (_ : Unit) => False) (fun _ _ => True) (va_A [(o6, .inr (6, [.ref s0, .ref e0, .ref g0, .ref y0, .ref d0, .int bf, .int bl, .int sf, .int gf])), (s0, .inr (3, [.ref n0, .ref n1, .int (nI n)])), (n0, .inl (cI, 60, .inl v)), (n1, .inl (cZ, 60, .inl hf))] sz)) (kXC "java/lang/IndexOutOfBoundsException" D (tyA cI cZ cJ) (va_A [(o6, .inr (6, [.ref s0, .ref e0, .ref g0, .ref y0, .ref d0, .int bf, .int bl, .int sf, .int gf])), (s0, .inr (3, [.ref n0, .ref n1, .int (nI n)])), (n0, .inl (cI, 60, .inl v)), (n1, .inl (cZ, 60, .inl hf))] sz) (fun (_ : Unit) => True) (fun (_ : Unit) => [(o6, .inr (6, [.ref s0, .ref e0, .ref g0, .ref y0, .ref d0, .int bf, .int bl, .int sf, .int gf])), (s0, .inr (3, [.ref n0, .ref n1, .int (nI n)])), (n0, .inl (cI, 60, .inl v)), (n1, .inl (cZ, 60, .inl hf))])) 1 6 (va_A [(o6, .inr (6, [.ref s0, .ref e0, .ref g0, .ref y0, .ref d0, .int bf, .int bl, .int sf, .int gf])), (s0, .inr (3, [.ref n0, .ref n1, .int (nI n)])), (n0, .inl (cI, 60, .inl v)), (n1, .inl (cZ, 60, .inl hf))] sz) := by
  refine kOfWX (cc := cX6_requireNumber) (maxL := 2) (ret := none) (fun A => va_Qv (fun (_ : Unit) => False) (fun _ _ => True) (A)) (fun A => kXC "java/lang/IndexOutOfBoundsException" D (tyA cI cZ cJ) (A) (fun (_ : Unit) => True) (fun (_ : Unit) => [(o6, .inr (6, [.ref s0, .ref e0, .ref g0, .ref y0, .ref d0, .int bf, .int bl, .int sf, .int gf])), (s0, .inr (3, [.ref n0, .ref n1, .int (nI n)])), (n0, .inl (cI, 60, .inl v)), (n1, .inl (cZ, 60, .inl hf))])) (by decide) rfl (Nat.le_of_ble_eq_true rfl) ?_
  intro p_ e_ s m_ below_ meth_ c_ A ls hx hb hr hml hts hown hlocks hT hA hP hK hD hsz hE hl
  have hS : va_S A s.heap s.heap [] := va_S.rf
  have hl : lv_has ls 2 [(0, .ref o6), (1, .int x)] := hl
  have hinX6 : ∀ w ∈ wsX60, w ∈ wsX6_requireNumber := fun w h => List.mem_cons_of_mem _ (List.mem_append_left _ (List.mem_append_left _ (List.mem_append_right _ h)))
  refine lv_iload_n hx hb dX6_requireNumber_0 rfl (lv_at hl 1 rfl) ?_
  refine lv_iconst (v := nI 0) hx hb dX6_requireNumber_1 (by decide) ?_
  refine lv_aload_n hx hb dX6_requireNumber_2 rfl (lv_at hl 0 rfl) ?_
  refine va_get (D := D) (ci := 6) (v := .ref s0) (C := RX6) (T := TX6) (N := 9) hx hb hts hinX6 hown hK hP 0 rfl rfl 0 (by decide) (hts (.fieldLink RX6 10 "SeriesWatcher" "series" "LSeriesWatcher$Series;") (by decide +kernel)) (fun _ h9 => h9) rfl dX6_requireNumber_3 ?_
  refine kci (wr := [(o6, .inr (6, [.ref s0, .ref e0, .ref g0, .ref y0, .ref d0, .int bf, .int bl, .int sf, .int gf]))]) (pre := [(s0, .inr (3, [.ref n0, .ref n1, .int (nI n)])), (n0, .inl (cI, 60, .inl v)), (n1, .inl (cZ, 60, .inl hf))]) (va_runV (As := []) (rest := [.int (nI 0), .int x]) ⟨hx, hb, hml, hown, hts⟩ (c_X3_count l D cI cZ cJ s.heap.size s0 n0 n1 n v hf ) (cwV 0 hts gX6_requireNumber_X3_count rfl rfl rfl (by decide +kernel) ⟨Nat.le_of_ble_eq_true rfl, Nat.le_of_ble_eq_true rfl⟩) (kpreV hK hP hD (ci := 3) (q0 := 1) rfl rfl [1, 2, 3] (by decide +kernel) rfl) rfl rfl hl.1 rfl (lv_room (Nat.le_of_ble_eq_true rfl)) dX6_requireNumber_6 ⟨Nat.zero_le _, Nat.zero_le _⟩) hP hD hS hA [1, 2, 3] [0] rfl rfl (by decide +kernel) (by decide +kernel) (fun r_1 _ H locs hw hP hD hS => ?_)
  have hP : va_P D vwCl [(o6, .inr (6, [.ref s0, .ref e0, .ref g0, .ref y0, .ref d0, .int bf, .int bl, .int sf, .int gf])), (s0, .inr (3, [.ref n0, .ref n1, .int (nI n)])), (n0, .inl (cI, 60, .inl v)), (n1, .inl (cZ, 60, .inl hf))] H := hP
  have hD : va_D A [(o6, .inr (6, [.ref s0, .ref e0, .ref g0, .ref y0, .ref d0, .int bf, .int bl, .int sf, .int gf])), (s0, .inr (3, [.ref n0, .ref n1, .int (nI n)])), (n0, .inl (cI, 60, .inl v)), (n1, .inl (cZ, 60, .inl hf))] := hD
  have hr9 : r_1 = nI n := hw
  refine wt_i hr9 ?_
  refine kcxv (wr := [(o6, .inr (6, [.ref s0, .ref e0, .ref g0, .ref y0, .ref d0, .int bf, .int bl, .int sf, .int gf])), (s0, .inr (3, [.ref n0, .ref n1, .int (nI n)])), (n0, .inl (cI, 60, .inl v)), (n1, .inl (cZ, 60, .inl hf))]) (pre := []) (vx_runS (As := [.int x, .int (nI 0), .int (nI n)]) (rest := []) ⟨hx, hb, hml, hown, hts⟩ (x_X6_requireIndex l hlf D cI cZ cJ H.size x (nI 0) (nI n) (by first | assumption | omega)) (va_cwS 3 hts gX6_requireNumber_X6_requireIndex rfl rfl rfl (by decide +kernel) ⟨Nat.le_of_ble_eq_true rfl, Nat.le_of_ble_eq_true rfl⟩) (kpreSX hK hP hD hS hA hE [] (by decide +kernel) rfl) rfl rfl hl.1 rfl (lv_room (Nat.le_of_ble_eq_true rfl)) dX6_requireNumber_9 ⟨Nat.le_of_ble_eq_true rfl, Nat.le_of_ble_eq_true rfl⟩) rfl hP hD hS hA [] [0, 1, 2, 3] rfl rfl (by decide +kernel) (by decide +kernel) (fun ce q9 u9 H locs hw hP hD hS hc1 hc2 hc3 => ?_)
  have hP : va_P D vwCl [(o6, .inr (6, [.ref s0, .ref e0, .ref g0, .ref y0, .ref d0, .int bf, .int bl, .int sf, .int gf])), (s0, .inr (3, [.ref n0, .ref n1, .int (nI n)])), (n0, .inl (cI, 60, .inl v)), (n1, .inl (cZ, 60, .inl hf))] H := hP
  have hD : va_D A [(o6, .inr (6, [.ref s0, .ref e0, .ref g0, .ref y0, .ref d0, .int bf, .int bl, .int sf, .int gf])), (s0, .inr (3, [.ref n0, .ref n1, .int (nI n)])), (n0, .inl (cI, 60, .inl v)), (n1, .inl (cZ, 60, .inl hf))] := hD
  exact kxout hT hlocks hP hK hD hS hc1 hc2 hc3 () (trivial) [0, 1, 2, 3] (by decide +kernel) rfl (Nat.le_of_ble_eq_true rfl) (Nat.le_of_ble_eq_true rfl)

set_option maxHeartbeats 4000000 in
set_option maxRecDepth 100000 in
theorem x_X6_requireRoomFor (l : Launch) (hlf : l.stackTraces = false) (D : va_G) (cI cZ cJ : ClassId) (sz : Nat) (o6 s0 e0 g0 y0 d0 : Nat) (bf bl sf gf : Int32) (n0 n1 : Nat) (n : Nat) (v hf : Nat → Int32) (t : Nat) (ht : 60 < n + t) (hn : n ≤ 60) (ht2 : t ≤ 60) : vx_Met l yX6_requireRoomFor wsX6_requireRoomFor ({ frames := 6, cells := 1, slots := 6, locals := 90 }) (va_Pc [.ref o6, .int (nI t)] (kPreX D (tyA cI cZ cJ) sz [(o6, .inr (6, [.ref s0, .ref e0, .ref g0, .ref y0, .ref d0, .int bf, .int bl, .int sf, .int gf])), (s0, .inr (3, [.ref n0, .ref n1, .int (nI n)])), (n0, .inl (cI, 60, .inl v)), (n1, .inl (cZ, 60, .inl hf))])) (va_Qv (fun (_ : Unit) => False) (fun _ _ => True) (va_A [(o6, .inr (6, [.ref s0, .ref e0, .ref g0, .ref y0, .ref d0, .int bf, .int bl, .int sf, .int gf])), (s0, .inr (3, [.ref n0, .ref n1, .int (nI n)])), (n0, .inl (cI, 60, .inl v)), (n1, .inl (cZ, 60, .inl hf))] sz)) (kXC "java/lang/IllegalStateException" D (tyA cI cZ cJ) (va_A [(o6, .inr (6, [.ref s0, .ref e0, .ref g0, .ref y0, .ref d0, .int bf, .int bl, .int sf, .int gf])), (s0, .inr (3, [.ref n0, .ref n1, .int (nI n)])), (n0, .inl (cI, 60, .inl v)), (n1, .inl (cZ, 60, .inl hf))] sz) (fun (_ : Unit) => True) (fun (_ : Unit) => [(o6, .inr (6, [.ref s0, .ref e0, .ref g0, .ref y0, .ref d0, .int bf, .int bl, .int sf, .int gf])), (s0, .inr (3, [.ref n0, .ref n1, .int (nI n)])), (n0, .inl (cI, 60, .inl v)), (n1, .inl (cZ, 60, .inl hf))])) 1 6 (va_A [(o6, .inr (6, [.ref s0, .ref e0, .ref g0, .ref y0, .ref d0, .int bf, .int bl, .int sf, .int gf])), (s0, .inr (3, [.ref n0, .ref n1, .int (nI n)])), (n0, .inl (cI, 60, .inl v)), (n1, .inl (cZ, 60, .inl hf))] sz) := by
  refine kOfWX (cc := cX6_requireRoomFor) (maxL := 2) (ret := none) (fun A => va_Qv (fun (_ : Unit) => False) (fun _ _ => True) (A)) (fun A => kXC "java/lang/IllegalStateException" D (tyA cI cZ cJ) (A) (fun (_ : Unit) => True) (fun (_ : Unit) => [(o6, .inr (6, [.ref s0, .ref e0, .ref g0, .ref y0, .ref d0, .int bf, .int bl, .int sf, .int gf])), (s0, .inr (3, [.ref n0, .ref n1, .int (nI n)])), (n0, .inl (cI, 60, .inl v)), (n1, .inl (cZ, 60, .inl hf))])) (by decide) rfl (Nat.le_of_ble_eq_true rfl) ?_
  intro p_ e_ s m_ below_ meth_ c_ A ls hx hb hr hml hts hown hlocks hT hA hP hK hD hsz hE hl
  have hS : va_S A s.heap s.heap [] := va_S.rf
  have hl : lv_has ls 2 [(0, .ref o6), (1, .int (nI t))] := hl
  have hinX6 : ∀ w ∈ wsX60, w ∈ wsX6_requireRoomFor := fun w h => List.mem_cons_of_mem _ (List.mem_append_left _ (List.mem_append_left _ (List.mem_append_right _ h)))
  have hinB : ∀ w ∈ (vx_atS RX6 168 "java/lang/IllegalStateException" ["java/lang/RuntimeException", "java/lang/Exception"]).filter goodWord, w ∈ wsX6_requireRoomFor := fun w h => List.mem_cons_of_mem _ (List.mem_append_right _ h)
  refine lv_aload_n hx hb dX6_requireRoomFor_0 rfl (lv_at hl 0 rfl) ?_
  refine va_get (D := D) (ci := 6) (v := .ref s0) (C := RX6) (T := TX6) (N := 9) hx hb hts hinX6 hown hK hP 0 rfl rfl 0 (by decide) (hts (.fieldLink RX6 10 "SeriesWatcher" "series" "LSeriesWatcher$Series;") (by decide +kernel)) (fun _ h9 => h9) rfl dX6_requireRoomFor_1 ?_
  refine kci (wr := [(o6, .inr (6, [.ref s0, .ref e0, .ref g0, .ref y0, .ref d0, .int bf, .int bl, .int sf, .int gf]))]) (pre := [(s0, .inr (3, [.ref n0, .ref n1, .int (nI n)])), (n0, .inl (cI, 60, .inl v)), (n1, .inl (cZ, 60, .inl hf))]) (va_runV (As := []) (rest := []) ⟨hx, hb, hml, hown, hts⟩ (c_X3_count l D cI cZ cJ s.heap.size s0 n0 n1 n v hf ) (cwV 0 hts gX6_requireRoomFor_X3_count rfl rfl rfl (by decide +kernel) ⟨Nat.le_of_ble_eq_true rfl, Nat.le_of_ble_eq_true rfl⟩) (kpreV hK hP hD (ci := 3) (q0 := 1) rfl rfl [1, 2, 3] (by decide +kernel) rfl) rfl rfl hl.1 rfl (lv_room (Nat.le_of_ble_eq_true rfl)) dX6_requireRoomFor_4 ⟨Nat.zero_le _, Nat.zero_le _⟩) hP hD hS hA [1, 2, 3] [0] rfl rfl (by decide +kernel) (by decide +kernel) (fun r_1 _ H locs hw hP hD hS => ?_)
  have hP : va_P D vwCl [(o6, .inr (6, [.ref s0, .ref e0, .ref g0, .ref y0, .ref d0, .int bf, .int bl, .int sf, .int gf])), (s0, .inr (3, [.ref n0, .ref n1, .int (nI n)])), (n0, .inl (cI, 60, .inl v)), (n1, .inl (cZ, 60, .inl hf))] H := hP
  have hD : va_D A [(o6, .inr (6, [.ref s0, .ref e0, .ref g0, .ref y0, .ref d0, .int bf, .int bl, .int sf, .int gf])), (s0, .inr (3, [.ref n0, .ref n1, .int (nI n)])), (n0, .inl (cI, 60, .inl v)), (n1, .inl (cZ, 60, .inl hf))] := hD
  have hr9 : r_1 = nI n := hw
  refine wt_i hr9 ?_
  refine lv_iload_n hx hb dX6_requireRoomFor_7 rfl (lv_at hl 1 rfl) ?_
  refine lv_iadd hx hb dX6_requireRoomFor_8 ?_
  refine wt_i (nI_add _ _) ?_
  refine lv_bipush (v := nI 60) hx hb dX6_requireRoomFor_9 (by decide) ?_
  refine lv_icmp_le (tgt := 24) hx hb dX6_requireRoomFor_11 (by decide) (fun c11 => ?_) (fun c11 => ?_)
  · skip
    have c11 := kle (a := (n + t)) (b := 60) c11 (by omega) (by omega)
    omega
  · skip
    have c11 := knle (a := (n + t)) (b := 60) c11 (by omega) (by omega)
    exact kthrow (own := RX6) (cls := "java/lang/IllegalStateException") (text := "there would be too many values") (names := ["java/lang/RuntimeException", "java/lang/Exception"]) (ik := 164) (is9 := 198) (ic := 168) hx hb hlf hown (by decide) (by decide) (hts (.classLink RX6 164 "java/lang/IllegalStateException") (by decide +kernel)) (hts (.initialized "java/lang/IllegalStateException") (by decide +kernel)) hE.2.2.1.2.2.1 (fun w h => hts w (hinB w h)) kngB kgdB hT hlocks (hml ▸ hl.1) hP hK hD hS hE dX6_requireRoomFor_14 dX6_requireRoomFor_17 dX6_requireRoomFor_18 dX6_requireRoomFor_20 dX6_requireRoomFor_23 (by decide) (Nat.le_of_ble_eq_true rfl) (Nat.le_of_ble_eq_true rfl) (Nat.le_of_ble_eq_true rfl) () (trivial) [0, 1, 2, 3] (by decide +kernel) rfl (Nat.le_of_ble_eq_true rfl) (Nat.le_of_ble_eq_true rfl)

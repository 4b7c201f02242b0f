set_option maxHeartbeats 4000000 in
set_option maxRecDepth 100000 in
theorem c_X7_in (l : Launch) (D : va_G) (cI cZ cJ : ClassId) (sz : Nat) (x lo hi : Int32)  : Met l yX7_in wsX7_in ({ frames := 0, cells := 0, slots := 0, locals := 0 }) (va_Pc [.int x, .int lo, .int hi] (kPre D (tyA cI cZ cJ) sz [])) (va_Qi (fun (r : Int32) (_ : Unit) => r = kin x lo hi) (kPost D (tyA cI cZ cJ) (va_A [] sz) (fun (_ : Unit) => [])) (va_A [] sz)) 0 0 (va_A [] sz) := by
  refine kOfW (cc := cX7_in) (maxL := 3) (ret := (some .boolean)) (fun A => va_Qi (fun (r : Int32) (_ : Unit) => r = kin x lo hi) (kPost D (tyA cI cZ cJ) (A) (fun (_ : Unit) => [])) (A)) (by decide) rfl (Nat.le_of_ble_eq_true rfl) ?_
  intro p_ e_ s m_ below_ meth_ c_ A ls hx hb hr hml hts hown hlocks hin hA hP hK hD hsz hl
  have hS : va_S A s.heap s.heap [] := va_S.rf
  have hl : lv_has ls 3 [(0, .int x), (1, .int lo), (2, .int hi)] := hl
  refine lv_iload_n hx hb dX7_in_0 rfl (lv_at hl 0 rfl) ?_
  refine lv_iload_n hx hb dX7_in_1 rfl (lv_at hl 1 rfl) ?_
  refine lv_icmp_lt (tgt := 14) hx hb dX7_in_2 (by decide) (fun c2 => ?_) (fun c2 => ?_)
  · skip
    refine lv_iconst (v := nI 0) hx hb dX7_in_14 (by decide) ?_
    exact krz hx hb hr hlocks (by first | exact Or.inl rfl | exact Or.inr rfl | assumption) hP hK hD hS () (by unfold kin; first | (rw [if_pos c2]; rfl) | (rw [if_neg c2, if_pos c7]; rfl) | (rw [if_neg c2, if_neg c7]; rfl)) [] (by decide +kernel) rfl dX7_in_15
  · skip
    refine lv_iload_n hx hb dX7_in_5 rfl (lv_at hl 0 rfl) ?_
    refine lv_iload_n hx hb dX7_in_6 rfl (lv_at hl 2 rfl) ?_
    refine lv_icmp_gt (tgt := 14) hx hb dX7_in_7 (by decide) (fun c7 => ?_) (fun c7 => ?_)
    · skip
      refine lv_iconst (v := nI 0) hx hb dX7_in_14 (by decide) ?_
      exact krz hx hb hr hlocks (by first | exact Or.inl rfl | exact Or.inr rfl | assumption) hP hK hD hS () (by unfold kin; first | (rw [if_pos c2]; rfl) | (rw [if_neg c2, if_pos c7]; rfl) | (rw [if_neg c2, if_neg c7]; rfl)) [] (by decide +kernel) rfl dX7_in_15
    · skip
      refine lv_iconst (v := nI 1) hx hb dX7_in_10 (by decide) ?_
      refine lv_goto (tgt := 15) hx hb dX7_in_11 (by decide) ?_
      exact krz hx hb hr hlocks (by first | exact Or.inl rfl | exact Or.inr rfl | assumption) hP hK hD hS () (by unfold kin; first | (rw [if_pos c2]; rfl) | (rw [if_neg c2, if_pos c7]; rfl) | (rw [if_neg c2, if_neg c7]; rfl)) [] (by decide +kernel) rfl dX7_in_15

set_option maxHeartbeats 4000000 in
set_option maxRecDepth 100000 in
theorem c_X7_sizeOf (l : Launch) (D : va_G) (cI cZ cJ : ClassId) (sz : Nat) (x : Int32)  : Met l yX7_sizeOf wsX7_sizeOf ({ frames := 0, cells := 0, slots := 0, locals := 0 }) (va_Pc [.int x] (kPre D (tyA cI cZ cJ) sz [])) (va_Qi (fun (r : Int32) (_ : Unit) => r = ksz x) (kPost D (tyA cI cZ cJ) (va_A [] sz) (fun (_ : Unit) => [])) (va_A [] sz)) 0 0 (va_A [] sz) := by
  refine kOfW (cc := cX7_sizeOf) (maxL := 1) (ret := (some .int)) (fun A => va_Qi (fun (r : Int32) (_ : Unit) => r = ksz x) (kPost D (tyA cI cZ cJ) (A) (fun (_ : Unit) => [])) (A)) (by decide) rfl (Nat.le_of_ble_eq_true rfl) ?_
  intro p_ e_ s m_ below_ meth_ c_ A ls hx hb hr hml hts hown hlocks hin hA hP hK hD hsz hl
  have hS : va_S A s.heap s.heap [] := va_S.rf
  have hl : lv_has ls 1 [(0, .int x)] := hl
  refine lv_iload_n hx hb dX7_sizeOf_0 rfl (lv_at hl 0 rfl) ?_
  refine lv_if_ge (tgt := 9) hx hb dX7_sizeOf_1 (by decide) (fun c1 => ?_) (fun c1 => ?_)
  · skip
    refine lv_iload_n hx hb dX7_sizeOf_9 rfl (lv_at hl 0 rfl) ?_
    exact kri hx hb hr hlocks hP hK hD hS () (by unfold ksz; first | rw [if_pos c1] | rw [if_neg c1]) [] (by decide +kernel) rfl dX7_sizeOf_10
  · skip
    refine lv_iload_n hx hb dX7_sizeOf_4 rfl (lv_at hl 0 rfl) ?_
    refine lv_ineg hx hb dX7_sizeOf_5 ?_
    refine lv_goto (tgt := 10) hx hb dX7_sizeOf_6 (by decide) ?_
    exact kri hx hb hr hlocks hP hK hD hS () (by unfold ksz; first | rw [if_pos c1] | rw [if_neg c1]) [] (by decide +kernel) rfl dX7_sizeOf_10

set_option maxHeartbeats 4000000 in
set_option maxRecDepth 100000 in
theorem c_X7_isGiven (l : Launch) (D : va_G) (cI cZ cJ : ClassId) (sz : Nat) (x : Int32)  : Met l yX7_isGiven wsX7_isGiven ({ frames := 1, cells := 0, slots := 0, locals := 30 }) (va_Pc [.int x] (kPre D (tyA cI cZ cJ) sz [])) (va_Qi (fun (r : Int32) (_ : Unit) => r = kin x (-10000 : Int32) (nI 10000)) (kPost D (tyA cI cZ cJ) (va_A [] sz) (fun (_ : Unit) => [])) (va_A [] sz)) 0 0 (va_A [] sz) := by
  refine kOfW (cc := cX7_isGiven) (maxL := 1) (ret := (some .boolean)) (fun A => va_Qi (fun (r : Int32) (_ : Unit) => r = kin x (-10000 : Int32) (nI 10000)) (kPost D (tyA cI cZ cJ) (A) (fun (_ : Unit) => [])) (A)) (by decide) rfl (Nat.le_of_ble_eq_true rfl) ?_
  intro p_ e_ s m_ below_ meth_ c_ A ls hx hb hr hml hts hown hlocks hin hA hP hK hD hsz hl
  have hS : va_S A s.heap s.heap [] := va_S.rf
  have hl : lv_has ls 1 [(0, .int x)] := hl
  refine lv_iload_n hx hb dX7_isGiven_0 rfl (lv_at hl 0 rfl) ?_
  refine lv_sipush (v := (-10000 : Int32)) hx hb dX7_isGiven_1 (by decide) ?_
  refine lv_sipush (v := nI 10000) hx hb dX7_isGiven_4 (by decide) ?_
  refine kci (wr := []) (pre := []) (va_runS (As := [.int x, .int (-10000 : Int32), .int (nI 10000)]) (rest := []) ⟨hx, hb, hml, hown, hts⟩ (c_X7_in l D cI cZ cJ s.heap.size x (-10000 : Int32) (nI 10000) ) (va_cwS 3 hts gX7_isGiven_X7_in rfl rfl rfl (by decide +kernel) ⟨Nat.le_of_ble_eq_true rfl, Nat.le_of_ble_eq_true rfl⟩) (kpreS hK hP hD [] (by decide +kernel) rfl) rfl rfl hl.1 rfl (lv_room (Nat.le_of_ble_eq_true rfl)) dX7_isGiven_7 ⟨Nat.zero_le _, Nat.zero_le _⟩) hP hD hS hA [] [] rfl rfl (by decide +kernel) (by decide +kernel) (fun r_1 _ H locs hw hP hD hS => ?_)
  have hP : va_P D vwCl [] H := hP
  have hD : va_D A [] := hD
  have hr9 : r_1 = kin x (-10000 : Int32) (nI 10000) := hw
  refine wt_i hr9 ?_
  exact krz hx hb hr hlocks (by unfold kin; split; exact Or.inl rfl; split; exact Or.inl rfl; exact Or.inr rfl) hP hK hD hS () (rfl) [] (by decide +kernel) rfl dX7_isGiven_10

set_option maxHeartbeats 4000000 in
set_option maxRecDepth 100000 in
theorem c_X7_isValue (l : Launch) (D : va_G) (cI cZ cJ : ClassId) (sz : Nat) (o7 : Nat) (th : Int32) (n mv mh len ll : Nat) (pen bf bl : Int32) (cn ms : Nat) (mid : Int32) (me mp mc ml mb md mr : Nat) (spr : Int32) (x : Int32)  : Met l yX7_isValue wsX7_isValue ({ frames := 1, cells := 0, slots := 0, locals := 30 }) (va_Pc [.ref o7, .int x] (kPre D (tyA cI cZ cJ) sz [(o7, .inr (7, [.int th, .int (nI n), .ref mv, .ref mh, .int (nI len), .int (nI ll), .int pen, .int bf, .int bl, .int (nI cn), .ref ms, .int mid, .ref me, .ref mp, .ref mc, .ref ml, .ref mb, .ref md, .ref mr, .int spr]))])) (va_Qi (fun (r : Int32) (_ : Unit) => r = kin x (nI 0) (nI n - nI 1)) (kPost D (tyA cI cZ cJ) (va_A [(o7, .inr (7, [.int th, .int (nI n), .ref mv, .ref mh, .int (nI len), .int (nI ll), .int pen, .int bf, .int bl, .int (nI cn), .ref ms, .int mid, .ref me, .ref mp, .ref mc, .ref ml, .ref mb, .ref md, .ref mr, .int spr]))] sz) (fun (_ : Unit) => [(o7, .inr (7, [.int th, .int (nI n), .ref mv, .ref mh, .int (nI len), .int (nI ll), .int pen, .int bf, .int bl, .int (nI cn), .ref ms, .int mid, .ref me, .ref mp, .ref mc, .ref ml, .ref mb, .ref md, .ref mr, .int spr]))])) (va_A [(o7, .inr (7, [.int th, .int (nI n), .ref mv, .ref mh, .int (nI len), .int (nI ll), .int pen, .int bf, .int bl, .int (nI cn), .ref ms, .int mid, .ref me, .ref mp, .ref mc, .ref ml, .ref mb, .ref md, .ref mr, .int spr]))] sz)) 0 0 (va_A [(o7, .inr (7, [.int th, .int (nI n), .ref mv, .ref mh, .int (nI len), .int (nI ll), .int pen, .int bf, .int bl, .int (nI cn), .ref ms, .int mid, .ref me, .ref mp, .ref mc, .ref ml, .ref mb, .ref md, .ref mr, .int spr]))] sz) := by
  refine kOfW (cc := cX7_isValue) (maxL := 2) (ret := (some .boolean)) (fun A => va_Qi (fun (r : Int32) (_ : Unit) => r = kin x (nI 0) (nI n - nI 1)) (kPost D (tyA cI cZ cJ) (A) (fun (_ : Unit) => [(o7, .inr (7, [.int th, .int (nI n), .ref mv, .ref mh, .int (nI len), .int (nI ll), .int pen, .int bf, .int bl, .int (nI cn), .ref ms, .int mid, .ref me, .ref mp, .ref mc, .ref ml, .ref mb, .ref md, .ref mr, .int spr]))])) (A)) (by decide) rfl (Nat.le_of_ble_eq_true rfl) ?_
  intro p_ e_ s m_ below_ meth_ c_ A ls hx hb hr hml hts hown hlocks hin hA hP hK hD hsz hl
  have hS : va_S A s.heap s.heap [] := va_S.rf
  have hl : lv_has ls 2 [(0, .ref o7), (1, .int x)] := hl
  have hinX7 : ∀ w ∈ wsX70, w ∈ wsX7_isValue := fun w h => List.mem_cons_of_mem _ (List.mem_append_right _ h)
  refine lv_iload_n hx hb dX7_isValue_0 rfl (lv_at hl 1 rfl) ?_
  refine lv_iconst (v := nI 0) hx hb dX7_isValue_1 (by decide) ?_
  refine lv_aload_n hx hb dX7_isValue_2 rfl (lv_at hl 0 rfl) ?_
  refine va_get (D := D) (ci := 7) (v := .int (nI n)) (C := RX7) (T := TX7) (N := 20) hx hb hts hinX7 hown hK hP 0 rfl rfl 1 (by decide) (hts (.fieldLink RX7 60 "SeriesWatcherModel" "many" "I") (by decide +kernel)) (fun _ h9 => h9) rfl dX7_isValue_3 ?_
  refine lv_iconst (v := nI 1) hx hb dX7_isValue_6 (by decide) ?_
  refine lv_isub hx hb dX7_isValue_7 ?_
  refine wt_i (rfl) ?_
  refine kci (wr := [(o7, .inr (7, [.int th, .int (nI n), .ref mv, .ref mh, .int (nI len), .int (nI ll), .int pen, .int bf, .int bl, .int (nI cn), .ref ms, .int mid, .ref me, .ref mp, .ref mc, .ref ml, .ref mb, .ref md, .ref mr, .int spr]))]) (pre := []) (va_runS (As := [.int x, .int (nI 0), .int (nI n - nI 1)]) (rest := []) ⟨hx, hb, hml, hown, hts⟩ (c_X7_in l D cI cZ cJ s.heap.size x (nI 0) (nI n - nI 1) ) (va_cwS 3 hts gX7_isValue_X7_in rfl rfl rfl (by decide +kernel) ⟨Nat.le_of_ble_eq_true rfl, Nat.le_of_ble_eq_true rfl⟩) (kpreS hK hP hD [] (by decide +kernel) rfl) rfl rfl hl.1 rfl (lv_room (Nat.le_of_ble_eq_true rfl)) dX7_isValue_8 ⟨Nat.zero_le _, Nat.zero_le _⟩) hP hD hS hA [] [0] rfl rfl (by decide +kernel) (by decide +kernel) (fun r_1 _ H locs hw hP hD hS => ?_)
  have hP : va_P D vwCl [(o7, .inr (7, [.int th, .int (nI n), .ref mv, .ref mh, .int (nI len), .int (nI ll), .int pen, .int bf, .int bl, .int (nI cn), .ref ms, .int mid, .ref me, .ref mp, .ref mc, .ref ml, .ref mb, .ref md, .ref mr, .int spr]))] H := hP
  have hD : va_D A [(o7, .inr (7, [.int th, .int (nI n), .ref mv, .ref mh, .int (nI len), .int (nI ll), .int pen, .int bf, .int bl, .int (nI cn), .ref ms, .int mid, .ref me, .ref mp, .ref mc, .ref ml, .ref mb, .ref md, .ref mr, .int spr]))] := hD
  have hr9 : r_1 = kin x (nI 0) (nI n - nI 1) := hw
  refine wt_i hr9 ?_
  exact krz hx hb hr hlocks (by unfold kin; split; exact Or.inl rfl; split; exact Or.inl rfl; exact Or.inr rfl) hP hK hD hS () (rfl) [0] (by decide +kernel) rfl dX7_isValue_11

set_option maxHeartbeats 4000000 in
set_option maxRecDepth 100000 in
theorem c_X7_fails (l : Launch) (D : va_G) (cI cZ cJ : ClassId) (sz : Nat) (o7 : Nat) (th : Int32) (n mv mh len ll : Nat) (pen bf bl : Int32) (cn ms : Nat) (mid : Int32) (me mp mc ml mb md mr : Nat) (spr : Int32) (x : Int32)  : Met l yX7_fails wsX7_fails ({ frames := 0, cells := 0, slots := 0, locals := 0 }) (va_Pc [.ref o7, .int x] (kPre D (tyA cI cZ cJ) sz [(o7, .inr (7, [.int th, .int (nI n), .ref mv, .ref mh, .int (nI len), .int (nI ll), .int pen, .int bf, .int bl, .int (nI cn), .ref ms, .int mid, .ref me, .ref mp, .ref mc, .ref ml, .ref mb, .ref md, .ref mr, .int spr]))])) (va_Qi (fun (r : Int32) (_ : Unit) => r = nI 0) (kPost D (tyA cI cZ cJ) (va_A [(o7, .inr (7, [.int th, .int (nI n), .ref mv, .ref mh, .int (nI len), .int (nI ll), .int pen, .int bf, .int bl, .int (nI cn), .ref ms, .int mid, .ref me, .ref mp, .ref mc, .ref ml, .ref mb, .ref md, .ref mr, .int spr]))] sz) (fun (_ : Unit) => [(o7, .inr (7, [.int x, .int (nI n), .ref mv, .ref mh, .int (nI len), .int (nI ll), .int pen, .int bf, .int bl, .int (nI cn), .ref ms, .int mid, .ref me, .ref mp, .ref mc, .ref ml, .ref mb, .ref md, .ref mr, .int spr]))])) (va_A [(o7, .inr (7, [.int th, .int (nI n), .ref mv, .ref mh, .int (nI len), .int (nI ll), .int pen, .int bf, .int bl, .int (nI cn), .ref ms, .int mid, .ref me, .ref mp, .ref mc, .ref ml, .ref mb, .ref md, .ref mr, .int spr]))] sz)) 0 0 (va_A [(o7, .inr (7, [.int th, .int (nI n), .ref mv, .ref mh, .int (nI len), .int (nI ll), .int pen, .int bf, .int bl, .int (nI cn), .ref ms, .int mid, .ref me, .ref mp, .ref mc, .ref ml, .ref mb, .ref md, .ref mr, .int spr]))] sz) := by
  refine kOfW (cc := cX7_fails) (maxL := 2) (ret := (some .int)) (fun A => va_Qi (fun (r : Int32) (_ : Unit) => r = nI 0) (kPost D (tyA cI cZ cJ) (A) (fun (_ : Unit) => [(o7, .inr (7, [.int x, .int (nI n), .ref mv, .ref mh, .int (nI len), .int (nI ll), .int pen, .int bf, .int bl, .int (nI cn), .ref ms, .int mid, .ref me, .ref mp, .ref mc, .ref ml, .ref mb, .ref md, .ref mr, .int spr]))])) (A)) (by decide) rfl (Nat.le_of_ble_eq_true rfl) ?_
  intro p_ e_ s m_ below_ meth_ c_ A ls hx hb hr hml hts hown hlocks hin hA hP hK hD hsz hl
  have hS : va_S A s.heap s.heap [] := va_S.rf
  have hl : lv_has ls 2 [(0, .ref o7), (1, .int x)] := hl
  have hinX7 : ∀ w ∈ wsX70, w ∈ wsX7_fails := fun w h => List.mem_cons_of_mem _ (List.mem_append_right _ h)
  refine lv_aload_n hx hb dX7_fails_0 rfl (lv_at hl 0 rfl) ?_
  refine lv_iload_n hx hb dX7_fails_1 rfl (lv_at hl 1 rfl) ?_
  refine va_put (D := D) (ci := 7) (v := .int x) (ty := .int) (C := RX7) (T := TX7) (N := 20) hx hb hts hinX7 tyX7 tyX7_ok nmX7 hown hK hP hD hS 0 rfl rfl 0 (by decide) (hts (.fieldLink RX7 57 "SeriesWatcherModel" "thrown" "I") (by decide +kernel)) (fun _ h9 => h9) rfl (by decide +kernel) rfl rfl (Nat.le_of_ble_eq_true rfl) dX7_fails_2 (fun H locs hP hD hS => ?_)
  have hP : va_P D vwCl [(o7, .inr (7, [.int x, .int (nI n), .ref mv, .ref mh, .int (nI len), .int (nI ll), .int pen, .int bf, .int bl, .int (nI cn), .ref ms, .int mid, .ref me, .ref mp, .ref mc, .ref ml, .ref mb, .ref md, .ref mr, .int spr]))] H := hP
  have hD : va_D A [(o7, .inr (7, [.int x, .int (nI n), .ref mv, .ref mh, .int (nI len), .int (nI ll), .int pen, .int bf, .int bl, .int (nI cn), .ref ms, .int mid, .ref me, .ref mp, .ref mc, .ref ml, .ref mb, .ref md, .ref mr, .int spr]))] := hD
  refine lv_iconst (v := nI 0) hx hb dX7_fails_5 (by decide) ?_
  exact kri hx hb hr hlocks hP hK hD hS () (rfl) [0] (by decide +kernel) rfl dX7_fails_6

set_option maxHeartbeats 4000000 in
set_option maxRecDepth 100000 in
theorem c_X7_median (l : Launch) (D : va_G) (cI cZ cJ : ClassId) (sz : Nat) (o7 : Nat) (th : Int32) (n mv mh len ll : Nat) (pen bf bl : Int32) (cn ms : Nat) (mid : Int32) (me mp mc ml mb md mr : Nat) (spr : Int32) (fs : Nat → Int32) (hn : cn ≤ 60) : Met l yX7_median wsX7_median ({ frames := 0, cells := 0, slots := 0, locals := 0 }) (va_Pc [.ref o7] (kPre D (tyA cI cZ cJ) sz [(o7, .inr (7, [.int th, .int (nI n), .ref mv, .ref mh, .int (nI len), .int (nI ll), .int pen, .int bf, .int bl, .int (nI cn), .ref ms, .int mid, .ref me, .ref mp, .ref mc, .ref ml, .ref mb, .ref md, .ref mr, .int spr])), (ms, .inl (cI, 60, .inl fs))])) (va_Qi (fun (r : Int32) (_ : Unit) => r = kmed fs cn) (kPost D (tyA cI cZ cJ) (va_A [(o7, .inr (7, [.int th, .int (nI n), .ref mv, .ref mh, .int (nI len), .int (nI ll), .int pen, .int bf, .int bl, .int (nI cn), .ref ms, .int mid, .ref me, .ref mp, .ref mc, .ref ml, .ref mb, .ref md, .ref mr, .int spr])), (ms, .inl (cI, 60, .inl fs))] sz) (fun (_ : Unit) => [(o7, .inr (7, [.int th, .int (nI n), .ref mv, .ref mh, .int (nI len), .int (nI ll), .int pen, .int bf, .int bl, .int (nI cn), .ref ms, .int mid, .ref me, .ref mp, .ref mc, .ref ml, .ref mb, .ref md, .ref mr, .int spr])), (ms, .inl (cI, 60, .inl fs))])) (va_A [(o7, .inr (7, [.int th, .int (nI n), .ref mv, .ref mh, .int (nI len), .int (nI ll), .int pen, .int bf, .int bl, .int (nI cn), .ref ms, .int mid, .ref me, .ref mp, .ref mc, .ref ml, .ref mb, .ref md, .ref mr, .int spr])), (ms, .inl (cI, 60, .inl fs))] sz)) 0 0 (va_A [(o7, .inr (7, [.int th, .int (nI n), .ref mv, .ref mh, .int (nI len), .int (nI ll), .int pen, .int bf, .int bl, .int (nI cn), .ref ms, .int mid, .ref me, .ref mp, .ref mc, .ref ml, .ref mb, .ref md, .ref mr, .int spr])), (ms, .inl (cI, 60, .inl fs))] sz) := by
  refine kOfW (cc := cX7_median) (maxL := 1) (ret := (some .int)) (fun A => va_Qi (fun (r : Int32) (_ : Unit) => r = kmed fs cn) (kPost D (tyA cI cZ cJ) (A) (fun (_ : Unit) => [(o7, .inr (7, [.int th, .int (nI n), .ref mv, .ref mh, .int (nI len), .int (nI ll), .int pen, .int bf, .int bl, .int (nI cn), .ref ms, .int mid, .ref me, .ref mp, .ref mc, .ref ml, .ref mb, .ref md, .ref mr, .int spr])), (ms, .inl (cI, 60, .inl fs))])) (A)) (by decide) rfl (Nat.le_of_ble_eq_true rfl) ?_
  intro p_ e_ s m_ below_ meth_ c_ A ls hx hb hr hml hts hown hlocks hin hA hP hK hD hsz hl
  have hS : va_S A s.heap s.heap [] := va_S.rf
  have hl : lv_has ls 1 [(0, .ref o7)] := hl
  have hinX7 : ∀ w ∈ wsX70, w ∈ wsX7_median := fun w h => List.mem_cons_of_mem _ (List.mem_append_right _ h)
  refine lv_aload_n hx hb dX7_median_0 rfl (lv_at hl 0 rfl) ?_
  refine va_get (D := D) (ci := 7) (v := .int (nI cn)) (C := RX7) (T := TX7) (N := 20) hx hb hts hinX7 hown hK hP 0 rfl rfl 9 (by decide) (hts (.fieldLink RX7 67 "SeriesWatcherModel" "counted" "I") (by decide +kernel)) (fun _ h9 => h9) rfl dX7_median_1 ?_
  refine lv_if_ne (tgt := 11) hx hb dX7_median_4 (by decide) (fun c4 => ?_) (fun c4 => ?_)
  · skip
    have c4 := kneq (a := cn) (b := 0) c4 (by omega) (by omega)
    refine lv_aload_n hx hb dX7_median_11 rfl (lv_at hl 0 rfl) ?_
    refine va_get (D := D) (ci := 7) (v := .ref ms) (C := RX7) (T := TX7) (N := 20) hx hb hts hinX7 hown hK hP 0 rfl rfl 10 (by decide) (hts (.fieldLink RX7 33 "SeriesWatcherModel" "sorted" "[I") (by decide +kernel)) (fun _ h9 => h9) rfl dX7_median_12 ?_
    refine lv_aload_n hx hb dX7_median_15 rfl (lv_at hl 0 rfl) ?_
    refine va_get (D := D) (ci := 7) (v := .int (nI cn)) (C := RX7) (T := TX7) (N := 20) hx hb hts hinX7 hown hK hP 0 rfl rfl 9 (by decide) (hts (.fieldLink RX7 67 "SeriesWatcherModel" "counted" "I") (by decide +kernel)) (fun _ h9 => h9) rfl dX7_median_16 ?_
    refine lv_iconst (v := nI 1) hx hb dX7_median_19 (by decide) ?_
    refine lv_isub hx hb dX7_median_20 ?_
    refine wt_i (pk_sub (by omega)) ?_
    refine lv_iconst (v := nI 2) hx hb dX7_median_21 (by decide) ?_
    refine lv_idiv hx hb dX7_median_22 (by decide) ?_
    refine wt_i (pk_div (by omega) (by omega) (by omega)) ?_
    refine va_iald (D := D) hx hb hK hP 1 0 rfl rfl (vp_in_nI (by omega) (by decide)) dX7_median_23 ?_
    refine wt_i (by rw [nI_clamp (n := ((cn - 1) / 2)) (by omega)]) ?_
    exact kri hx hb hr hlocks hP hK hD hS () (by unfold kmed; split <;> first | rfl | omega) [0, 1] (by decide +kernel) rfl dX7_median_24
  · skip
    have c4 := keq (a := cn) (b := 0) c4 (by omega) (by omega)
    refine lv_iconst (v := nI 0) hx hb dX7_median_7 (by decide) ?_
    refine lv_goto (tgt := 24) hx hb dX7_median_8 (by decide) ?_
    exact kri hx hb hr hlocks hP hK hD hS () (by unfold kmed; split <;> first | rfl | omega) [0, 1] (by decide +kernel) rfl dX7_median_24

set_option maxHeartbeats 4000000 in
set_option maxRecDepth 100000 in
theorem c_X7_count (l : Launch) (D : va_G) (cI cZ cJ : ClassId) (sz : Nat) (o7 : Nat) (th : Int32) (n mv mh len ll : Nat) (pen bf bl : Int32) (cn ms : Nat) (mid : Int32) (me mp mc ml mb md mr : Nat) (spr : Int32) (fs : Nat → Int32) (x : Int32) (hcn : cn < 60) : Met l yX7_count wsX7_count ({ frames := 0, cells := 0, slots := 0, locals := 0 }) (va_Pc [.ref o7, .int x] (kPre D (tyA cI cZ cJ) sz [(o7, .inr (7, [.int th, .int (nI n), .ref mv, .ref mh, .int (nI len), .int (nI ll), .int pen, .int bf, .int bl, .int (nI cn), .ref ms, .int mid, .ref me, .ref mp, .ref mc, .ref ml, .ref mb, .ref md, .ref mr, .int spr])), (ms, .inl (cI, 60, .inl fs))])) (va_Qv (fun (f2 : Nat → Int32) => kins fs cn x f2) (kPost D (tyA cI cZ cJ) (va_A [(o7, .inr (7, [.int th, .int (nI n), .ref mv, .ref mh, .int (nI len), .int (nI ll), .int pen, .int bf, .int bl, .int (nI cn), .ref ms, .int mid, .ref me, .ref mp, .ref mc, .ref ml, .ref mb, .ref md, .ref mr, .int spr])), (ms, .inl (cI, 60, .inl fs))] sz) (fun (f2 : Nat → Int32) => [(o7, .inr (7, [.int th, .int (nI n), .ref mv, .ref mh, .int (nI len), .int (nI ll), .int pen, .int bf, .int bl, .int (nI (cn + 1)), .ref ms, .int mid, .ref me, .ref mp, .ref mc, .ref ml, .ref mb, .ref md, .ref mr, .int spr])), (ms, .inl (cI, 60, .inl f2))])) (va_A [(o7, .inr (7, [.int th, .int (nI n), .ref mv, .ref mh, .int (nI len), .int (nI ll), .int pen, .int bf, .int bl, .int (nI cn), .ref ms, .int mid, .ref me, .ref mp, .ref mc, .ref ml, .ref mb, .ref md, .ref mr, .int spr])), (ms, .inl (cI, 60, .inl fs))] sz)) 0 0 (va_A [(o7, .inr (7, [.int th, .int (nI n), .ref mv, .ref mh, .int (nI len), .int (nI ll), .int pen, .int bf, .int bl, .int (nI cn), .ref ms, .int mid, .ref me, .ref mp, .ref mc, .ref ml, .ref mb, .ref md, .ref mr, .int spr])), (ms, .inl (cI, 60, .inl fs))] sz) := by
  refine kOfW (cc := cX7_count) (maxL := 3) (ret := none) (fun A => va_Qv (fun (f2 : Nat → Int32) => kins fs cn x f2) (kPost D (tyA cI cZ cJ) (A) (fun (f2 : Nat → Int32) => [(o7, .inr (7, [.int th, .int (nI n), .ref mv, .ref mh, .int (nI len), .int (nI ll), .int pen, .int bf, .int bl, .int (nI (cn + 1)), .ref ms, .int mid, .ref me, .ref mp, .ref mc, .ref ml, .ref mb, .ref md, .ref mr, .int spr])), (ms, .inl (cI, 60, .inl f2))])) (A)) (by decide) rfl (Nat.le_of_ble_eq_true rfl) ?_
  intro p_ e_ s m_ below_ meth_ c_ A ls hx hb hr hml hts hown hlocks hin hA hP hK hD hsz hl
  have hS : va_S A s.heap s.heap [] := va_S.rf
  have hl : lv_has ls 3 [(0, .ref o7), (1, .int x)] := hl
  have hinX7 : ∀ w ∈ wsX70, w ∈ wsX7_count := fun w h => List.mem_cons_of_mem _ (List.mem_append_right _ h)
  refine lv_aload_n hx hb dX7_count_0 rfl (lv_at hl 0 rfl) ?_
  refine va_get (D := D) (ci := 7) (v := .int (nI cn)) (C := RX7) (T := TX7) (N := 20) hx hb hts hinX7 hown hK hP 0 rfl rfl 9 (by decide) (hts (.fieldLink RX7 67 "SeriesWatcherModel" "counted" "I") (by decide +kernel)) (fun _ h9 => h9) rfl dX7_count_1 ?_
  refine lv_istore_n (lv' := [(2, .int (nI cn)), (0, .ref o7), (1, .int x)]) hx hb dX7_count_4 rfl hl (by decide) rfl (fun ls hl => ?_)
  refine wl_loop (fun (d9 : Nat) (H : Heap) (locs : List Loc) (ls : Array Slot) => ∃ (q : Nat) (g : Nat → Int32), d9 = q ∧ (q ≤ cn) ∧ (∀ j, j < q → g j = fs j) ∧ (∀ j, q ≤ j → j < cn → g (j + 1) = fs j) ∧ (∀ j, q ≤ j → j < cn → x < fs j) ∧ va_P D vwCl [(o7, .inr (7, [.int th, .int (nI n), .ref mv, .ref mh, .int (nI len), .int (nI ll), .int pen, .int bf, .int bl, .int (nI cn), .ref ms, .int mid, .ref me, .ref mp, .ref mc, .ref ml, .ref mb, .ref md, .ref mr, .int spr])), (ms, .inl (cI, 60, .inl g))] H ∧ va_D A [(o7, .inr (7, [.int th, .int (nI n), .ref mv, .ref mh, .int (nI len), .int (nI ll), .int pen, .int bf, .int bl, .int (nI cn), .ref ms, .int mid, .ref me, .ref mp, .ref mc, .ref ml, .ref mb, .ref md, .ref mr, .int spr])), (ms, .inl (cI, 60, .inl g))] ∧ va_S A s.heap H locs ∧ lv_has ls 3 [(2, .int (nI q)), (0, .ref o7), (1, .int x)]) ?_ _ ⟨cn, fs, rfl, Nat.le_refl cn, fun _ _ => rfl, fun j a b => absurd b (by omega), fun j a b => absurd b (by omega), hP, hD, hS, lv_sub hl [0, 1, 2] rfl⟩
  rintro d_2 H locs ls ⟨q, g, hd_3, hq, h1, h2, h3, hP, hD, hS, hl⟩ ih_1
  refine lv_iload_n hx hb dX7_count_5 rfl (lv_at hl 0 rfl) ?_
  refine lv_if_le (tgt := 41) hx hb dX7_count_6 (by decide) (fun c6 => ?_) (fun c6 => ?_)
  · skip
    have c6 := kle (a := q) (b := 0) c6 (by omega) (by omega)
    have hx9 : q = 0 ∨ ¬ x < fs (q - 1) := Or.inl (by omega)
    refine lv_aload_n hx hb dX7_count_41 rfl (lv_at hl 1 rfl) ?_
    refine va_get (D := D) (ci := 7) (v := .ref ms) (C := RX7) (T := TX7) (N := 20) hx hb hts hinX7 hown hK hP 0 rfl rfl 10 (by decide) (hts (.fieldLink RX7 33 "SeriesWatcherModel" "sorted" "[I") (by decide +kernel)) (fun _ h9 => h9) rfl dX7_count_42 ?_
    refine lv_iload_n hx hb dX7_count_45 rfl (lv_at hl 0 rfl) ?_
    refine lv_iload_n hx hb dX7_count_46 rfl (lv_at hl 2 rfl) ?_
    refine va_iast (D := D) hx hb hK hP hD hS 1 0 rfl rfl (vp_in_nI (by omega) (by decide)) dX7_count_47 (fun H locs hP hD hS => ?_)
    rw [nI_clamp (n := q) (by omega)] at hP hD
    have hP : va_P D vwCl [(o7, .inr (7, [.int th, .int (nI n), .ref mv, .ref mh, .int (nI len), .int (nI ll), .int pen, .int bf, .int bl, .int (nI cn), .ref ms, .int mid, .ref me, .ref mp, .ref mc, .ref ml, .ref mb, .ref md, .ref mr, .int spr])), (ms, .inl (cI, 60, .inl (upd g q x)))] H := hP
    have hD : va_D A [(o7, .inr (7, [.int th, .int (nI n), .ref mv, .ref mh, .int (nI len), .int (nI ll), .int pen, .int bf, .int bl, .int (nI cn), .ref ms, .int mid, .ref me, .ref mp, .ref mc, .ref ml, .ref mb, .ref md, .ref mr, .int spr])), (ms, .inl (cI, 60, .inl (upd g q x)))] := hD
    refine lv_aload_n hx hb dX7_count_48 rfl (lv_at hl 1 rfl) ?_
    refine lv_dup hx hb dX7_count_49 rfl ?_
    refine va_get (D := D) (ci := 7) (v := .int (nI cn)) (C := RX7) (T := TX7) (N := 20) hx hb hts hinX7 hown hK hP 0 rfl rfl 9 (by decide) (hts (.fieldLink RX7 67 "SeriesWatcherModel" "counted" "I") (by decide +kernel)) (fun _ h9 => h9) rfl dX7_count_50 ?_
    refine lv_iconst (v := nI 1) hx hb dX7_count_53 (by decide) ?_
    refine lv_iadd hx hb dX7_count_54 ?_
    refine wt_i (nI_add _ _) ?_
    refine va_put (D := D) (ci := 7) (v := .int (nI (cn + 1))) (ty := .int) (C := RX7) (T := TX7) (N := 20) hx hb hts hinX7 tyX7 tyX7_ok nmX7 hown hK hP hD hS 0 rfl rfl 9 (by decide) (hts (.fieldLink RX7 67 "SeriesWatcherModel" "counted" "I") (by decide +kernel)) (fun _ h9 => h9) rfl (by decide +kernel) rfl rfl (Nat.le_of_ble_eq_true rfl) dX7_count_55 (fun H locs hP hD hS => ?_)
    have hP : va_P D vwCl [(o7, .inr (7, [.int th, .int (nI n), .ref mv, .ref mh, .int (nI len), .int (nI ll), .int pen, .int bf, .int bl, .int (nI (cn + 1)), .ref ms, .int mid, .ref me, .ref mp, .ref mc, .ref ml, .ref mb, .ref md, .ref mr, .int spr])), (ms, .inl (cI, 60, .inl (upd g q x)))] H := hP
    have hD : va_D A [(o7, .inr (7, [.int th, .int (nI n), .ref mv, .ref mh, .int (nI len), .int (nI ll), .int pen, .int bf, .int bl, .int (nI (cn + 1)), .ref ms, .int mid, .ref me, .ref mp, .ref mc, .ref ml, .ref mb, .ref md, .ref mr, .int spr])), (ms, .inl (cI, 60, .inl (upd g q x)))] := hD
    exact krv hx hb hr hlocks hP hK hD hS _ (⟨q, hq, fun j hj => by rw [pk_un (by omega)]; exact h1 j hj, pk_us, fun j a b => by rw [pk_un (by omega)]; exact h2 j a b, hx9, h3⟩) [0, 1] (by decide +kernel) rfl dX7_count_58
  · skip
    have c6 := knle (a := q) (b := 0) c6 (by omega) (by omega)
    refine lv_aload_n hx hb dX7_count_9 rfl (lv_at hl 1 rfl) ?_
    refine va_get (D := D) (ci := 7) (v := .ref ms) (C := RX7) (T := TX7) (N := 20) hx hb hts hinX7 hown hK hP 0 rfl rfl 10 (by decide) (hts (.fieldLink RX7 33 "SeriesWatcherModel" "sorted" "[I") (by decide +kernel)) (fun _ h9 => h9) rfl dX7_count_10 ?_
    refine lv_iload_n hx hb dX7_count_13 rfl (lv_at hl 0 rfl) ?_
    refine lv_iconst (v := nI 1) hx hb dX7_count_14 (by decide) ?_
    refine lv_isub hx hb dX7_count_15 ?_
    refine wt_i (pk_sub (by omega)) ?_
    refine va_iald (D := D) hx hb hK hP 1 0 rfl rfl (vp_in_nI (by omega) (by decide)) dX7_count_16 ?_
    refine wt_i (by rw [nI_clamp (n := (q - 1)) (by omega)]) ?_
    refine lv_iload_n hx hb dX7_count_17 rfl (lv_at hl 2 rfl) ?_
    refine lv_icmp_le (tgt := 41) hx hb dX7_count_18 (by decide) (fun c18 => ?_) (fun c18 => ?_)
    · skip
      have hx9 : q = 0 ∨ ¬ x < fs (q - 1) := Or.inr (by rw [← h1 (q - 1) (by omega)]; exact Int32.not_lt.mpr c18)
      refine lv_aload_n hx hb dX7_count_41 rfl (lv_at hl 1 rfl) ?_
      refine va_get (D := D) (ci := 7) (v := .ref ms) (C := RX7) (T := TX7) (N := 20) hx hb hts hinX7 hown hK hP 0 rfl rfl 10 (by decide) (hts (.fieldLink RX7 33 "SeriesWatcherModel" "sorted" "[I") (by decide +kernel)) (fun _ h9 => h9) rfl dX7_count_42 ?_
      refine lv_iload_n hx hb dX7_count_45 rfl (lv_at hl 0 rfl) ?_
      refine lv_iload_n hx hb dX7_count_46 rfl (lv_at hl 2 rfl) ?_
      refine va_iast (D := D) hx hb hK hP hD hS 1 0 rfl rfl (vp_in_nI (by omega) (by decide)) dX7_count_47 (fun H locs hP hD hS => ?_)
      rw [nI_clamp (n := q) (by omega)] at hP hD
      have hP : va_P D vwCl [(o7, .inr (7, [.int th, .int (nI n), .ref mv, .ref mh, .int (nI len), .int (nI ll), .int pen, .int bf, .int bl, .int (nI cn), .ref ms, .int mid, .ref me, .ref mp, .ref mc, .ref ml, .ref mb, .ref md, .ref mr, .int spr])), (ms, .inl (cI, 60, .inl (upd g q x)))] H := hP
      have hD : va_D A [(o7, .inr (7, [.int th, .int (nI n), .ref mv, .ref mh, .int (nI len), .int (nI ll), .int pen, .int bf, .int bl, .int (nI cn), .ref ms, .int mid, .ref me, .ref mp, .ref mc, .ref ml, .ref mb, .ref md, .ref mr, .int spr])), (ms, .inl (cI, 60, .inl (upd g q x)))] := hD
      refine lv_aload_n hx hb dX7_count_48 rfl (lv_at hl 1 rfl) ?_
      refine lv_dup hx hb dX7_count_49 rfl ?_
      refine va_get (D := D) (ci := 7) (v := .int (nI cn)) (C := RX7) (T := TX7) (N := 20) hx hb hts hinX7 hown hK hP 0 rfl rfl 9 (by decide) (hts (.fieldLink RX7 67 "SeriesWatcherModel" "counted" "I") (by decide +kernel)) (fun _ h9 => h9) rfl dX7_count_50 ?_
      refine lv_iconst (v := nI 1) hx hb dX7_count_53 (by decide) ?_
      refine lv_iadd hx hb dX7_count_54 ?_
      refine wt_i (nI_add _ _) ?_
      refine va_put (D := D) (ci := 7) (v := .int (nI (cn + 1))) (ty := .int) (C := RX7) (T := TX7) (N := 20) hx hb hts hinX7 tyX7 tyX7_ok nmX7 hown hK hP hD hS 0 rfl rfl 9 (by decide) (hts (.fieldLink RX7 67 "SeriesWatcherModel" "counted" "I") (by decide +kernel)) (fun _ h9 => h9) rfl (by decide +kernel) rfl rfl (Nat.le_of_ble_eq_true rfl) dX7_count_55 (fun H locs hP hD hS => ?_)
      have hP : va_P D vwCl [(o7, .inr (7, [.int th, .int (nI n), .ref mv, .ref mh, .int (nI len), .int (nI ll), .int pen, .int bf, .int bl, .int (nI (cn + 1)), .ref ms, .int mid, .ref me, .ref mp, .ref mc, .ref ml, .ref mb, .ref md, .ref mr, .int spr])), (ms, .inl (cI, 60, .inl (upd g q x)))] H := hP
      have hD : va_D A [(o7, .inr (7, [.int th, .int (nI n), .ref mv, .ref mh, .int (nI len), .int (nI ll), .int pen, .int bf, .int bl, .int (nI (cn + 1)), .ref ms, .int mid, .ref me, .ref mp, .ref mc, .ref ml, .ref mb, .ref md, .ref mr, .int spr])), (ms, .inl (cI, 60, .inl (upd g q x)))] := hD
      exact krv hx hb hr hlocks hP hK hD hS _ (⟨q, hq, fun j hj => by rw [pk_un (by omega)]; exact h1 j hj, pk_us, fun j a b => by rw [pk_un (by omega)]; exact h2 j a b, hx9, h3⟩) [0, 1] (by decide +kernel) rfl dX7_count_58
    · skip
      have hx8 : x < fs (q - 1) := by rw [← h1 (q - 1) (by omega)]; exact Int32.not_le.mp c18
      refine lv_aload_n hx hb dX7_count_21 rfl (lv_at hl 1 rfl) ?_
      refine va_get (D := D) (ci := 7) (v := .ref ms) (C := RX7) (T := TX7) (N := 20) hx hb hts hinX7 hown hK hP 0 rfl rfl 10 (by decide) (hts (.fieldLink RX7 33 "SeriesWatcherModel" "sorted" "[I") (by decide +kernel)) (fun _ h9 => h9) rfl dX7_count_22 ?_
      refine lv_iload_n hx hb dX7_count_25 rfl (lv_at hl 0 rfl) ?_
      refine lv_aload_n hx hb dX7_count_26 rfl (lv_at hl 1 rfl) ?_
      refine va_get (D := D) (ci := 7) (v := .ref ms) (C := RX7) (T := TX7) (N := 20) hx hb hts hinX7 hown hK hP 0 rfl rfl 10 (by decide) (hts (.fieldLink RX7 33 "SeriesWatcherModel" "sorted" "[I") (by decide +kernel)) (fun _ h9 => h9) rfl dX7_count_27 ?_
      refine lv_iload_n hx hb dX7_count_30 rfl (lv_at hl 0 rfl) ?_
      refine lv_iconst (v := nI 1) hx hb dX7_count_31 (by decide) ?_
      refine lv_isub hx hb dX7_count_32 ?_
      refine wt_i (pk_sub (by omega)) ?_
      refine va_iald (D := D) hx hb hK hP 1 0 rfl rfl (vp_in_nI (by omega) (by decide)) dX7_count_33 ?_
      refine wt_i (by rw [nI_clamp (n := (q - 1)) (by omega)]) ?_
      refine va_iast (D := D) hx hb hK hP hD hS 1 0 rfl rfl (vp_in_nI (by omega) (by decide)) dX7_count_34 (fun H locs hP hD hS => ?_)
      rw [nI_clamp (n := q) (by omega)] at hP hD
      have hP : va_P D vwCl [(o7, .inr (7, [.int th, .int (nI n), .ref mv, .ref mh, .int (nI len), .int (nI ll), .int pen, .int bf, .int bl, .int (nI cn), .ref ms, .int mid, .ref me, .ref mp, .ref mc, .ref ml, .ref mb, .ref md, .ref mr, .int spr])), (ms, .inl (cI, 60, .inl (upd g q (g (q - 1)))))] H := hP
      have hD : va_D A [(o7, .inr (7, [.int th, .int (nI n), .ref mv, .ref mh, .int (nI len), .int (nI ll), .int pen, .int bf, .int bl, .int (nI cn), .ref ms, .int mid, .ref me, .ref mp, .ref mc, .ref ml, .ref mb, .ref md, .ref mr, .int spr])), (ms, .inl (cI, 60, .inl (upd g q (g (q - 1)))))] := hD
      refine lv_iinc (v := nI (q - 1)) (lv' := [(2, .int (nI (q - 1))), (0, .ref o7), (1, .int x)]) hx hb dX7_count_35 hl (k := 0) rfl (by exact sb_m1 (by omega)) (by decide) rfl (fun ls hl => ?_)
      refine lv_goto (tgt := 5) hx hb dX7_count_38 (by decide) ?_
      exact ih_1 _ (by omega) _ _ _ ⟨(q - 1), _, rfl, by omega, fun j hj => by rw [pk_un (by omega)]; exact h1 j (by omega), fun j a b => by
            by_cases hj : j = q - 1
            · subst hj; rw [show q - 1 + 1 = q by omega, pk_us]; exact h1 _ (by omega)
            · rw [pk_un (by omega)]; exact h2 j (by omega) b, fun j a b => by
            by_cases hj : j = q - 1
            · subst hj; exact hx8
            · exact h3 j (by omega) b, hP, hD, hS, lv_sub hl [0, 1, 2] rfl⟩

set_option maxHeartbeats 4000000 in
set_option maxRecDepth 100000 in
theorem c_X7_costNow (l : Launch) (D : va_G) (cI cZ cJ : ClassId) (sz : Nat) (o7 : Nat) (th : Int32) (n mv mh len ll : Nat) (pen bf bl : Int32) (cn ms : Nat) (mid : Int32) (me mp mc ml mb md mr : Nat) (spr : Int32) (fs : Nat → Int32) (lv : Int32) (hn : cn ≤ 60) : Met l yX7_costNow wsX7_costNow ({ frames := 1, cells := 0, slots := 0, locals := 30 }) (va_Pc [.ref o7, .int lv] (kPre D (tyA cI cZ cJ) sz [(o7, .inr (7, [.int th, .int (nI n), .ref mv, .ref mh, .int (nI len), .int (nI ll), .int pen, .int bf, .int bl, .int (nI cn), .ref ms, .int mid, .ref me, .ref mp, .ref mc, .ref ml, .ref mb, .ref md, .ref mr, .int spr])), (ms, .inl (cI, 60, .inl fs))])) (va_Qi (fun (r : Int32) (_ : Unit) => r = ksum fs lv cn) (kPost D (tyA cI cZ cJ) (va_A [(o7, .inr (7, [.int th, .int (nI n), .ref mv, .ref mh, .int (nI len), .int (nI ll), .int pen, .int bf, .int bl, .int (nI cn), .ref ms, .int mid, .ref me, .ref mp, .ref mc, .ref ml, .ref mb, .ref md, .ref mr, .int spr])), (ms, .inl (cI, 60, .inl fs))] sz) (fun (_ : Unit) => [(o7, .inr (7, [.int th, .int (nI n), .ref mv, .ref mh, .int (nI len), .int (nI ll), .int pen, .int bf, .int bl, .int (nI cn), .ref ms, .int mid, .ref me, .ref mp, .ref mc, .ref ml, .ref mb, .ref md, .ref mr, .int spr])), (ms, .inl (cI, 60, .inl fs))])) (va_A [(o7, .inr (7, [.int th, .int (nI n), .ref mv, .ref mh, .int (nI len), .int (nI ll), .int pen, .int bf, .int bl, .int (nI cn), .ref ms, .int mid, .ref me, .ref mp, .ref mc, .ref ml, .ref mb, .ref md, .ref mr, .int spr])), (ms, .inl (cI, 60, .inl fs))] sz)) 0 0 (va_A [(o7, .inr (7, [.int th, .int (nI n), .ref mv, .ref mh, .int (nI len), .int (nI ll), .int pen, .int bf, .int bl, .int (nI cn), .ref ms, .int mid, .ref me, .ref mp, .ref mc, .ref ml, .ref mb, .ref md, .ref mr, .int spr])), (ms, .inl (cI, 60, .inl fs))] sz) := by
  refine kOfW (cc := cX7_costNow) (maxL := 4) (ret := (some .int)) (fun A => va_Qi (fun (r : Int32) (_ : Unit) => r = ksum fs lv cn) (kPost D (tyA cI cZ cJ) (A) (fun (_ : Unit) => [(o7, .inr (7, [.int th, .int (nI n), .ref mv, .ref mh, .int (nI len), .int (nI ll), .int pen, .int bf, .int bl, .int (nI cn), .ref ms, .int mid, .ref me, .ref mp, .ref mc, .ref ml, .ref mb, .ref md, .ref mr, .int spr])), (ms, .inl (cI, 60, .inl fs))])) (A)) (by decide) rfl (Nat.le_of_ble_eq_true rfl) ?_
  intro p_ e_ s m_ below_ meth_ c_ A ls hx hb hr hml hts hown hlocks hin hA hP hK hD hsz hl
  have hS : va_S A s.heap s.heap [] := va_S.rf
  have hl : lv_has ls 4 [(0, .ref o7), (1, .int lv)] := hl
  have hinX7 : ∀ w ∈ wsX70, w ∈ wsX7_costNow := fun w h => List.mem_cons_of_mem _ (List.mem_append_right _ h)
  refine lv_iconst (v := nI 0) hx hb dX7_costNow_0 (by decide) ?_
  refine lv_istore_n (lv' := [(2, .int (nI 0)), (0, .ref o7), (1, .int lv)]) hx hb dX7_costNow_1 rfl hl (by decide) rfl (fun ls hl => ?_)
  refine lv_iconst (v := nI 0) hx hb dX7_costNow_2 (by decide) ?_
  refine lv_istore_n (lv' := [(3, .int (nI 0)), (2, .int (nI 0)), (0, .ref o7), (1, .int lv)]) hx hb dX7_costNow_3 rfl hl (by decide) rfl (fun ls hl => ?_)
  refine wl_loop (fun (d9 : Nat) (H : Heap) (locs : List Loc) (ls : Array Slot) => ∃ (k : Nat), d9 = cn - k ∧ (k ≤ cn) ∧ va_P D vwCl [(o7, .inr (7, [.int th, .int (nI n), .ref mv, .ref mh, .int (nI len), .int (nI ll), .int pen, .int bf, .int bl, .int (nI cn), .ref ms, .int mid, .ref me, .ref mp, .ref mc, .ref ml, .ref mb, .ref md, .ref mr, .int spr])), (ms, .inl (cI, 60, .inl fs))] H ∧ va_D A [(o7, .inr (7, [.int th, .int (nI n), .ref mv, .ref mh, .int (nI len), .int (nI ll), .int pen, .int bf, .int bl, .int (nI cn), .ref ms, .int mid, .ref me, .ref mp, .ref mc, .ref ml, .ref mb, .ref md, .ref mr, .int spr])), (ms, .inl (cI, 60, .inl fs))] ∧ va_S A s.heap H locs ∧ lv_has ls 4 [(3, .int (nI k)), (2, .int (ksum fs lv k)), (0, .ref o7), (1, .int lv)]) ?_ _ ⟨0, rfl, Nat.zero_le _, hP, hD, hS, lv_sub hl [0, 1, 2, 3] rfl⟩
  rintro d_2 H locs ls ⟨k, hd_3, hk, hP, hD, hS, hl⟩ ih_1
  refine lv_iload_n hx hb dX7_costNow_4 rfl (lv_at hl 0 rfl) ?_
  refine lv_aload_n hx hb dX7_costNow_5 rfl (lv_at hl 2 rfl) ?_
  refine va_get (D := D) (ci := 7) (v := .int (nI cn)) (C := RX7) (T := TX7) (N := 20) hx hb hts hinX7 hown hK hP 0 rfl rfl 9 (by decide) (hts (.fieldLink RX7 67 "SeriesWatcherModel" "counted" "I") (by decide +kernel)) (fun _ h9 => h9) rfl dX7_costNow_6 ?_
  refine lv_icmp_ge (tgt := 32) hx hb dX7_costNow_9 (by decide) (fun c9 => ?_) (fun c9 => ?_)
  · skip
    have c9 := kle (a := cn) (b := k) c9 (by omega) (by omega)
    have ek : k = cn := by omega
    rw [ek] at hl
    refine lv_iload_n hx hb dX7_costNow_32 rfl (lv_at hl 1 rfl) ?_
    exact kri hx hb hr hlocks hP hK hD hS () (rfl) [0, 1] (by decide +kernel) rfl dX7_costNow_33
  · skip
    have c9 := knle (a := cn) (b := k) c9 (by omega) (by omega)
    refine lv_iload_n hx hb dX7_costNow_12 rfl (lv_at hl 1 rfl) ?_
    refine lv_aload_n hx hb dX7_costNow_13 rfl (lv_at hl 2 rfl) ?_
    refine va_get (D := D) (ci := 7) (v := .ref ms) (C := RX7) (T := TX7) (N := 20) hx hb hts hinX7 hown hK hP 0 rfl rfl 10 (by decide) (hts (.fieldLink RX7 33 "SeriesWatcherModel" "sorted" "[I") (by decide +kernel)) (fun _ h9 => h9) rfl dX7_costNow_14 ?_
    refine lv_iload_n hx hb dX7_costNow_17 rfl (lv_at hl 0 rfl) ?_
    refine va_iald (D := D) hx hb hK hP 1 0 rfl rfl (vp_in_nI (by omega) (by decide)) dX7_costNow_18 ?_
    refine wt_i (by rw [nI_clamp (n := k) (by omega)]) ?_
    refine lv_iload_n hx hb dX7_costNow_19 rfl (lv_at hl 3 rfl) ?_
    refine lv_isub hx hb dX7_costNow_20 ?_
    refine kci (wr := [(o7, .inr (7, [.int th, .int (nI n), .ref mv, .ref mh, .int (nI len), .int (nI ll), .int pen, .int bf, .int bl, .int (nI cn), .ref ms, .int mid, .ref me, .ref mp, .ref mc, .ref ml, .ref mb, .ref md, .ref mr, .int spr])), (ms, .inl (cI, 60, .inl fs))]) (pre := []) (va_runS (As := [.int ((fs k) - lv)]) (rest := [.int (ksum fs lv k)]) ⟨hx, hb, hml, hown, hts⟩ (c_X7_sizeOf l D cI cZ cJ H.size ((fs k) - lv) ) (va_cwS 1 hts gX7_costNow_X7_sizeOf rfl rfl rfl (by decide +kernel) ⟨Nat.le_of_ble_eq_true rfl, Nat.le_of_ble_eq_true rfl⟩) (kpreS hK hP hD [] (by decide +kernel) rfl) rfl rfl hl.1 rfl (lv_room (Nat.le_of_ble_eq_true rfl)) dX7_costNow_21 ⟨Nat.zero_le _, Nat.zero_le _⟩) hP hD hS hA [] [0, 1] rfl rfl (by decide +kernel) (by decide +kernel) (fun r_4 _ H locs hw hP hD hS => ?_)
    have hP : va_P D vwCl [(o7, .inr (7, [.int th, .int (nI n), .ref mv, .ref mh, .int (nI len), .int (nI ll), .int pen, .int bf, .int bl, .int (nI cn), .ref ms, .int mid, .ref me, .ref mp, .ref mc, .ref ml, .ref mb, .ref md, .ref mr, .int spr])), (ms, .inl (cI, 60, .inl fs))] H := hP
    have hD : va_D A [(o7, .inr (7, [.int th, .int (nI n), .ref mv, .ref mh, .int (nI len), .int (nI ll), .int pen, .int bf, .int bl, .int (nI cn), .ref ms, .int mid, .ref me, .ref mp, .ref mc, .ref ml, .ref mb, .ref md, .ref mr, .int spr])), (ms, .inl (cI, 60, .inl fs))] := hD
    have hr9 : r_4 = ksz ((fs k) - lv) := hw
    refine wt_i hr9 ?_
    refine lv_iadd hx hb dX7_costNow_24 ?_
    refine lv_istore_n (lv' := [(2, .int ((ksum fs lv k) + (ksz ((fs k) - lv)))), (3, .int (nI k)), (0, .ref o7), (1, .int lv)]) hx hb dX7_costNow_25 rfl hl (by decide) rfl (fun ls hl => ?_)
    refine lv_iinc (v := nI (k + 1)) (lv' := [(3, .int (nI (k + 1))), (2, .int ((ksum fs lv k) + (ksz ((fs k) - lv)))), (0, .ref o7), (1, .int lv)]) hx hb dX7_costNow_26 hl (k := 1) rfl (by exact nI_add _ 1) (by decide) rfl (fun ls hl => ?_)
    refine lv_goto (tgt := 4) hx hb dX7_costNow_29 (by decide) ?_
    exact ih_1 _ (by omega) _ _ _ ⟨(k + 1), rfl, by omega, hP, hD, hS, lv_sub hl [0, 1, 2, 3] rfl⟩

set_option maxHeartbeats 4000000 in
set_option maxRecDepth 100000 in
theorem c_X7_startFor (l : Launch) (D : va_G) (cI cZ cJ : ClassId) (sz : Nat) (o7 : Nat) (th : Int32) (n mv mh len ll : Nat) (pen bf bl : Int32) (cn ms : Nat) (mid : Int32) (me mp mc ml mb md mr : Nat) (spr : Int32) (en : Nat → Int32) (E : Nat → Nat) (c k : Nat) (hn : n ≤ 60) (hch : ∀ i, i < c → en (kpos E i) = nI (kpos E (i + 1))) (hlt : ∀ i, i < c → kpos E i < n) (hcn : kpos E c = n) (hc : c ≤ n) (hk : k < n) : Met l yX7_startFor wsX7_startFor ({ frames := 0, cells := 0, slots := 0, locals := 0 }) (va_Pc [.ref o7, .int (nI k)] (kPre D (tyA cI cZ cJ) sz [(o7, .inr (7, [.int th, .int (nI n), .ref mv, .ref mh, .int (nI len), .int (nI ll), .int pen, .int bf, .int bl, .int (nI cn), .ref ms, .int mid, .ref me, .ref mp, .ref mc, .ref ml, .ref mb, .ref md, .ref mr, .int spr])), (md, .inl (cI, 61, .inl en))])) (va_Qi (fun (r : Int32) (_ : Unit) => r = nI (kst E k n 0)) (kPost D (tyA cI cZ cJ) (va_A [(o7, .inr (7, [.int th, .int (nI n), .ref mv, .ref mh, .int (nI len), .int (nI ll), .int pen, .int bf, .int bl, .int (nI cn), .ref ms, .int mid, .ref me, .ref mp, .ref mc, .ref ml, .ref mb, .ref md, .ref mr, .int spr])), (md, .inl (cI, 61, .inl en))] sz) (fun (_ : Unit) => [(o7, .inr (7, [.int th, .int (nI n), .ref mv, .ref mh, .int (nI len), .int (nI ll), .int pen, .int bf, .int bl, .int (nI cn), .ref ms, .int mid, .ref me, .ref mp, .ref mc, .ref ml, .ref mb, .ref md, .ref mr, .int spr])), (md, .inl (cI, 61, .inl en))])) (va_A [(o7, .inr (7, [.int th, .int (nI n), .ref mv, .ref mh, .int (nI len), .int (nI ll), .int pen, .int bf, .int bl, .int (nI cn), .ref ms, .int mid, .ref me, .ref mp, .ref mc, .ref ml, .ref mb, .ref md, .ref mr, .int spr])), (md, .inl (cI, 61, .inl en))] sz)) 0 0 (va_A [(o7, .inr (7, [.int th, .int (nI n), .ref mv, .ref mh, .int (nI len), .int (nI ll), .int pen, .int bf, .int bl, .int (nI cn), .ref ms, .int mid, .ref me, .ref mp, .ref mc, .ref ml, .ref mb, .ref md, .ref mr, .int spr])), (md, .inl (cI, 61, .inl en))] sz) := by
  refine kOfW (cc := cX7_startFor) (maxL := 3) (ret := (some .int)) (fun A => va_Qi (fun (r : Int32) (_ : Unit) => r = nI (kst E k n 0)) (kPost D (tyA cI cZ cJ) (A) (fun (_ : Unit) => [(o7, .inr (7, [.int th, .int (nI n), .ref mv, .ref mh, .int (nI len), .int (nI ll), .int pen, .int bf, .int bl, .int (nI cn), .ref ms, .int mid, .ref me, .ref mp, .ref mc, .ref ml, .ref mb, .ref md, .ref mr, .int spr])), (md, .inl (cI, 61, .inl en))])) (A)) (by decide) rfl (Nat.le_of_ble_eq_true rfl) ?_
  intro p_ e_ s m_ below_ meth_ c_ A ls hx hb hr hml hts hown hlocks hin hA hP hK hD hsz hl
  have hS : va_S A s.heap s.heap [] := va_S.rf
  have hl : lv_has ls 3 [(0, .ref o7), (1, .int (nI k))] := hl
  have hinX7 : ∀ w ∈ wsX70, w ∈ wsX7_startFor := fun w h => List.mem_cons_of_mem _ (List.mem_append_right _ h)
  refine lv_iconst (v := nI 0) hx hb dX7_startFor_0 (by decide) ?_
  refine lv_istore_n (lv' := [(2, .int (nI 0)), (0, .ref o7), (1, .int (nI k))]) hx hb dX7_startFor_1 rfl hl (by decide) rfl (fun ls hl => ?_)
  refine wl_loop (fun (d9 : Nat) (H : Heap) (locs : List Loc) (ls : Array Slot) => ∃ (i : Nat), d9 = c - i ∧ (i < c) ∧ (∀ j, j < i → kpos E (j + 1) ≤ k) ∧ va_P D vwCl [(o7, .inr (7, [.int th, .int (nI n), .ref mv, .ref mh, .int (nI len), .int (nI ll), .int pen, .int bf, .int bl, .int (nI cn), .ref ms, .int mid, .ref me, .ref mp, .ref mc, .ref ml, .ref mb, .ref md, .ref mr, .int spr])), (md, .inl (cI, 61, .inl en))] H ∧ va_D A [(o7, .inr (7, [.int th, .int (nI n), .ref mv, .ref mh, .int (nI len), .int (nI ll), .int pen, .int bf, .int bl, .int (nI cn), .ref ms, .int mid, .ref me, .ref mp, .ref mc, .ref ml, .ref mb, .ref md, .ref mr, .int spr])), (md, .inl (cI, 61, .inl en))] ∧ va_S A s.heap H locs ∧ lv_has ls 3 [(2, .int (nI (kpos E i))), (0, .ref o7), (1, .int (nI k))]) ?_ _ ⟨0, rfl, by rcases Nat.eq_zero_or_pos c with q | q; (rw [q] at hcn; have : n = 0 := hcn.symm; omega); exact q, fun j hj => absurd hj (Nat.not_lt_zero j), hP, hD, hS, lv_sub hl [0, 1, 2] rfl⟩
  rintro d_2 H locs ls ⟨i, hd_3, hi, h1, hP, hD, hS, hl⟩ ih_1
  refine lv_aload_n hx hb dX7_startFor_2 rfl (lv_at hl 1 rfl) ?_
  refine va_get (D := D) (ci := 7) (v := .ref md) (C := RX7) (T := TX7) (N := 20) hx hb hts hinX7 hown hK hP 0 rfl rfl 17 (by decide) (hts (.fieldLink RX7 51 "SeriesWatcherModel" "end" "[I") (by decide +kernel)) (fun _ h9 => h9) rfl dX7_startFor_3 ?_
  refine lv_iload_n hx hb dX7_startFor_6 rfl (lv_at hl 0 rfl) ?_
  have hpl : kpos E i < n := hlt i hi
  have hpe : kpos E (i + 1) ≤ n := by rcases Nat.eq_or_lt_of_le (show i + 1 ≤ c from hi) with q | q; (rw [q, hcn]; exact Nat.le_refl n); exact Nat.le_of_lt (hlt _ q)
  refine va_iald (D := D) hx hb hK hP 1 0 rfl rfl (vp_in_nI (by omega) (by decide)) dX7_startFor_7 ?_
  refine wt_i (by rw [nI_clamp (n := (kpos E i)) (by omega)]) ?_
  refine wt_i (y := nI (kpos E (i + 1))) (hch i hi) ?_
  refine lv_iload_n hx hb dX7_startFor_8 rfl (lv_at hl 2 rfl) ?_
  refine lv_icmp_gt (tgt := 22) hx hb dX7_startFor_9 (by decide) (fun c9 => ?_) (fun c9 => ?_)
  · skip
    have c9 := klt (a := k) (b := (kpos E (i + 1))) c9 (by omega) (by omega)
    have er : kst E k n 0 = kpos E i := kst_is h1 c9 n 0 (Nat.zero_le i) (by omega)
    refine lv_iload_n hx hb dX7_startFor_22 rfl (lv_at hl 0 rfl) ?_
    exact kri hx hb hr hlocks hP hK hD hS () (by rw [er]) [0, 1] (by decide +kernel) rfl dX7_startFor_23
  · skip
    have c9 := knlt (a := k) (b := (kpos E (i + 1))) c9 (by omega) (by omega)
    refine lv_aload_n hx hb dX7_startFor_12 rfl (lv_at hl 1 rfl) ?_
    refine va_get (D := D) (ci := 7) (v := .ref md) (C := RX7) (T := TX7) (N := 20) hx hb hts hinX7 hown hK hP 0 rfl rfl 17 (by decide) (hts (.fieldLink RX7 51 "SeriesWatcherModel" "end" "[I") (by decide +kernel)) (fun _ h9 => h9) rfl dX7_startFor_13 ?_
    refine lv_iload_n hx hb dX7_startFor_16 rfl (lv_at hl 0 rfl) ?_
    refine va_iald (D := D) hx hb hK hP 1 0 rfl rfl (vp_in_nI (by omega) (by decide)) dX7_startFor_17 ?_
    refine wt_i (by rw [nI_clamp (n := (kpos E i)) (by omega)]) ?_
    refine wt_i (y := nI (kpos E (i + 1))) (hch i hi) ?_
    refine lv_istore_n (lv' := [(2, .int (nI (kpos E (i + 1)))), (0, .ref o7), (1, .int (nI k))]) hx hb dX7_startFor_18 rfl hl (by decide) rfl (fun ls hl => ?_)
    refine lv_goto (tgt := 2) hx hb dX7_startFor_19 (by decide) ?_
    exact ih_1 _ (by omega) _ _ _ ⟨(i + 1), rfl, by rcases Nat.eq_or_lt_of_le (show i + 1 ≤ c from hi) with q | q; (rw [q] at c9; omega); exact q, fun j hj => by rcases Nat.eq_or_lt_of_le (Nat.le_of_lt_succ hj) with q | q; (rw [q]; exact c9); exact h1 j q, hP, hD, hS, lv_sub hl [0, 1, 2] rfl⟩

set_option maxHeartbeats 4000000 in
set_option maxRecDepth 100000 in
theorem c_X7_startBy (l : Launch) (D : va_G) (cI cZ cJ : ClassId) (sz : Nat) (o7 : Nat) (th : Int32) (n mv mh len ll : Nat) (pen bf bl : Int32) (cn ms : Nat) (mid : Int32) (me mp mc ml mb md mr : Nat) (spr : Int32) (en : Nat → Int32) (E : Nat → Nat) (c k : Nat) (hn : n ≤ 60) (hch : ∀ i, i < c → en (kpos E i) = nI (kpos E (i + 1))) (hlt : ∀ i, i < c → kpos E i < n) (hc : c ≤ n) (hk : k < c) : Met l yX7_startBy wsX7_startBy ({ frames := 0, cells := 0, slots := 0, locals := 0 }) (va_Pc [.ref o7, .int (nI k)] (kPre D (tyA cI cZ cJ) sz [(o7, .inr (7, [.int th, .int (nI n), .ref mv, .ref mh, .int (nI len), .int (nI ll), .int pen, .int bf, .int bl, .int (nI cn), .ref ms, .int mid, .ref me, .ref mp, .ref mc, .ref ml, .ref mb, .ref md, .ref mr, .int spr])), (md, .inl (cI, 61, .inl en))])) (va_Qi (fun (r : Int32) (_ : Unit) => r = nI (kpos E k)) (kPost D (tyA cI cZ cJ) (va_A [(o7, .inr (7, [.int th, .int (nI n), .ref mv, .ref mh, .int (nI len), .int (nI ll), .int pen, .int bf, .int bl, .int (nI cn), .ref ms, .int mid, .ref me, .ref mp, .ref mc, .ref ml, .ref mb, .ref md, .ref mr, .int spr])), (md, .inl (cI, 61, .inl en))] sz) (fun (_ : Unit) => [(o7, .inr (7, [.int th, .int (nI n), .ref mv, .ref mh, .int (nI len), .int (nI ll), .int pen, .int bf, .int bl, .int (nI cn), .ref ms, .int mid, .ref me, .ref mp, .ref mc, .ref ml, .ref mb, .ref md, .ref mr, .int spr])), (md, .inl (cI, 61, .inl en))])) (va_A [(o7, .inr (7, [.int th, .int (nI n), .ref mv, .ref mh, .int (nI len), .int (nI ll), .int pen, .int bf, .int bl, .int (nI cn), .ref ms, .int mid, .ref me, .ref mp, .ref mc, .ref ml, .ref mb, .ref md, .ref mr, .int spr])), (md, .inl (cI, 61, .inl en))] sz)) 0 0 (va_A [(o7, .inr (7, [.int th, .int (nI n), .ref mv, .ref mh, .int (nI len), .int (nI ll), .int pen, .int bf, .int bl, .int (nI cn), .ref ms, .int mid, .ref me, .ref mp, .ref mc, .ref ml, .ref mb, .ref md, .ref mr, .int spr])), (md, .inl (cI, 61, .inl en))] sz) := by
  refine kOfW (cc := cX7_startBy) (maxL := 4) (ret := (some .int)) (fun A => va_Qi (fun (r : Int32) (_ : Unit) => r = nI (kpos E k)) (kPost D (tyA cI cZ cJ) (A) (fun (_ : Unit) => [(o7, .inr (7, [.int th, .int (nI n), .ref mv, .ref mh, .int (nI len), .int (nI ll), .int pen, .int bf, .int bl, .int (nI cn), .ref ms, .int mid, .ref me, .ref mp, .ref mc, .ref ml, .ref mb, .ref md, .ref mr, .int spr])), (md, .inl (cI, 61, .inl en))])) (A)) (by decide) rfl (Nat.le_of_ble_eq_true rfl) ?_
  intro p_ e_ s m_ below_ meth_ c_ A ls hx hb hr hml hts hown hlocks hin hA hP hK hD hsz hl
  have hS : va_S A s.heap s.heap [] := va_S.rf
  have hl : lv_has ls 4 [(0, .ref o7), (1, .int (nI k))] := hl
  have hinX7 : ∀ w ∈ wsX70, w ∈ wsX7_startBy := fun w h => List.mem_cons_of_mem _ (List.mem_append_right _ h)
  refine lv_iconst (v := nI 0) hx hb dX7_startBy_0 (by decide) ?_
  refine lv_istore_n (lv' := [(2, .int (nI 0)), (0, .ref o7), (1, .int (nI k))]) hx hb dX7_startBy_1 rfl hl (by decide) rfl (fun ls hl => ?_)
  refine lv_iconst (v := nI 0) hx hb dX7_startBy_2 (by decide) ?_
  refine lv_istore_n (lv' := [(3, .int (nI 0)), (2, .int (nI 0)), (0, .ref o7), (1, .int (nI k))]) hx hb dX7_startBy_3 rfl hl (by decide) rfl (fun ls hl => ?_)
  refine wl_loop (fun (d9 : Nat) (H : Heap) (locs : List Loc) (ls : Array Slot) => ∃ (i : Nat), d9 = k - i ∧ (i ≤ k) ∧ va_P D vwCl [(o7, .inr (7, [.int th, .int (nI n), .ref mv, .ref mh, .int (nI len), .int (nI ll), .int pen, .int bf, .int bl, .int (nI cn), .ref ms, .int mid, .ref me, .ref mp, .ref mc, .ref ml, .ref mb, .ref md, .ref mr, .int spr])), (md, .inl (cI, 61, .inl en))] H ∧ va_D A [(o7, .inr (7, [.int th, .int (nI n), .ref mv, .ref mh, .int (nI len), .int (nI ll), .int pen, .int bf, .int bl, .int (nI cn), .ref ms, .int mid, .ref me, .ref mp, .ref mc, .ref ml, .ref mb, .ref md, .ref mr, .int spr])), (md, .inl (cI, 61, .inl en))] ∧ va_S A s.heap H locs ∧ lv_has ls 4 [(3, .int (nI i)), (2, .int (nI (kpos E i))), (0, .ref o7), (1, .int (nI k))]) ?_ _ ⟨0, rfl, Nat.zero_le k, hP, hD, hS, lv_sub hl [0, 1, 2, 3] rfl⟩
  rintro d_2 H locs ls ⟨i, hd_3, hi, hP, hD, hS, hl⟩ ih_1
  refine lv_iload_n hx hb dX7_startBy_4 rfl (lv_at hl 0 rfl) ?_
  refine lv_iload_n hx hb dX7_startBy_5 rfl (lv_at hl 3 rfl) ?_
  refine lv_icmp_ge (tgt := 22) hx hb dX7_startBy_6 (by decide) (fun c6 => ?_) (fun c6 => ?_)
  · skip
    have c6 := kle (a := k) (b := i) c6 (by omega) (by omega)
    have ei : i = k := by omega
    rw [ei] at hl
    refine lv_iload_n hx hb dX7_startBy_22 rfl (lv_at hl 1 rfl) ?_
    exact kri hx hb hr hlocks hP hK hD hS () (rfl) [0, 1] (by decide +kernel) rfl dX7_startBy_23
  · skip
    have c6 := knle (a := k) (b := i) c6 (by omega) (by omega)
    have hpl : kpos E i < n := hlt i (by omega)
    refine lv_aload_n hx hb dX7_startBy_9 rfl (lv_at hl 2 rfl) ?_
    refine va_get (D := D) (ci := 7) (v := .ref md) (C := RX7) (T := TX7) (N := 20) hx hb hts hinX7 hown hK hP 0 rfl rfl 17 (by decide) (hts (.fieldLink RX7 51 "SeriesWatcherModel" "end" "[I") (by decide +kernel)) (fun _ h9 => h9) rfl dX7_startBy_10 ?_
    refine lv_iload_n hx hb dX7_startBy_13 rfl (lv_at hl 1 rfl) ?_
    refine va_iald (D := D) hx hb hK hP 1 0 rfl rfl (vp_in_nI (by omega) (by decide)) dX7_startBy_14 ?_
    refine wt_i (by rw [nI_clamp (n := (kpos E i)) (by omega)]) ?_
    refine wt_i (y := nI (kpos E (i + 1))) (hch i (by omega)) ?_
    refine lv_istore_n (lv' := [(2, .int (nI (kpos E (i + 1)))), (3, .int (nI i)), (0, .ref o7), (1, .int (nI k))]) hx hb dX7_startBy_15 rfl hl (by decide) rfl (fun ls hl => ?_)
    refine lv_iinc (v := nI (i + 1)) (lv' := [(3, .int (nI (i + 1))), (2, .int (nI (kpos E (i + 1)))), (0, .ref o7), (1, .int (nI k))]) hx hb dX7_startBy_16 hl (k := 1) rfl (by exact nI_add _ 1) (by decide) rfl (fun ls hl => ?_)
    refine lv_goto (tgt := 4) hx hb dX7_startBy_19 (by decide) ?_
    exact ih_1 _ (by omega) _ _ _ ⟨(i + 1), rfl, by omega, hP, hD, hS, lv_sub hl [0, 1, 2, 3] rfl⟩

set_option maxHeartbeats 4000000 in
set_option maxRecDepth 100000 in
theorem c_X7_boundNow (l : Launch) (D : va_G) (cI cZ cJ : ClassId) (sz : Nat) (o7 : Nat) (th : Int32) (n mv mh len ll : Nat) (pen bf bl : Int32) (cn ms : Nat) (mid : Int32) (me mp mc ml mb md mr : Nat) (spr : Int32)  : Met l yX7_boundNow wsX7_boundNow ({ frames := 0, cells := 0, slots := 0, locals := 0 }) (va_Pc [.ref o7] (kPre D (tyA cI cZ cJ) sz [(o7, .inr (7, [.int th, .int (nI n), .ref mv, .ref mh, .int (nI len), .int (nI ll), .int pen, .int bf, .int bl, .int (nI cn), .ref ms, .int mid, .ref me, .ref mp, .ref mc, .ref ml, .ref mb, .ref md, .ref mr, .int spr]))])) (va_Qi (fun (r : Int32) (_ : Unit) => r = (if bf * spr / 100 < bl then bl else bf * spr / 100)) (kPost D (tyA cI cZ cJ) (va_A [(o7, .inr (7, [.int th, .int (nI n), .ref mv, .ref mh, .int (nI len), .int (nI ll), .int pen, .int bf, .int bl, .int (nI cn), .ref ms, .int mid, .ref me, .ref mp, .ref mc, .ref ml, .ref mb, .ref md, .ref mr, .int spr]))] sz) (fun (_ : Unit) => [(o7, .inr (7, [.int th, .int (nI n), .ref mv, .ref mh, .int (nI len), .int (nI ll), .int pen, .int bf, .int bl, .int (nI cn), .ref ms, .int mid, .ref me, .ref mp, .ref mc, .ref ml, .ref mb, .ref md, .ref mr, .int spr]))])) (va_A [(o7, .inr (7, [.int th, .int (nI n), .ref mv, .ref mh, .int (nI len), .int (nI ll), .int pen, .int bf, .int bl, .int (nI cn), .ref ms, .int mid, .ref me, .ref mp, .ref mc, .ref ml, .ref mb, .ref md, .ref mr, .int spr]))] sz)) 0 0 (va_A [(o7, .inr (7, [.int th, .int (nI n), .ref mv, .ref mh, .int (nI len), .int (nI ll), .int pen, .int bf, .int bl, .int (nI cn), .ref ms, .int mid, .ref me, .ref mp, .ref mc, .ref ml, .ref mb, .ref md, .ref mr, .int spr]))] sz) := by
  refine kOfW (cc := cX7_boundNow) (maxL := 2) (ret := (some .int)) (fun A => va_Qi (fun (r : Int32) (_ : Unit) => r = (if bf * spr / 100 < bl then bl else bf * spr / 100)) (kPost D (tyA cI cZ cJ) (A) (fun (_ : Unit) => [(o7, .inr (7, [.int th, .int (nI n), .ref mv, .ref mh, .int (nI len), .int (nI ll), .int pen, .int bf, .int bl, .int (nI cn), .ref ms, .int mid, .ref me, .ref mp, .ref mc, .ref ml, .ref mb, .ref md, .ref mr, .int spr]))])) (A)) (by decide) rfl (Nat.le_of_ble_eq_true rfl) ?_
  intro p_ e_ s m_ below_ meth_ c_ A ls hx hb hr hml hts hown hlocks hin hA hP hK hD hsz hl
  have hS : va_S A s.heap s.heap [] := va_S.rf
  have hl : lv_has ls 2 [(0, .ref o7)] := hl
  have hinX7 : ∀ w ∈ wsX70, w ∈ wsX7_boundNow := fun w h => List.mem_cons_of_mem _ (List.mem_append_right _ h)
  refine lv_aload_n hx hb dX7_boundNow_0 rfl (lv_at hl 0 rfl) ?_
  refine va_get (D := D) (ci := 7) (v := .int bf) (C := RX7) (T := TX7) (N := 20) hx hb hts hinX7 hown hK hP 0 rfl rfl 7 (by decide) (hts (.fieldLink RX7 27 "SeriesWatcherModel" "factor" "I") (by decide +kernel)) (fun _ h9 => h9) rfl dX7_boundNow_1 ?_
  refine lv_aload_n hx hb dX7_boundNow_4 rfl (lv_at hl 0 rfl) ?_
  refine va_get (D := D) (ci := 7) (v := .int spr) (C := RX7) (T := TX7) (N := 20) hx hb hts hinX7 hown hK hP 0 rfl rfl 19 (by decide) (hts (.fieldLink RX7 101 "SeriesWatcherModel" "spread" "I") (by decide +kernel)) (fun _ h9 => h9) rfl dX7_boundNow_5 ?_
  refine lv_imul hx hb dX7_boundNow_8 ?_
  refine lv_bipush (v := nI 100) hx hb dX7_boundNow_9 (by decide) ?_
  refine lv_idiv hx hb dX7_boundNow_11 (by decide) ?_
  refine lv_istore_n (lv' := [(1, .int ((bf * spr) / (nI 100))), (0, .ref o7)]) hx hb dX7_boundNow_12 rfl hl (by decide) rfl (fun ls hl => ?_)
  refine lv_iload_n hx hb dX7_boundNow_13 rfl (lv_at hl 0 rfl) ?_
  refine lv_aload_n hx hb dX7_boundNow_14 rfl (lv_at hl 1 rfl) ?_
  refine va_get (D := D) (ci := 7) (v := .int bl) (C := RX7) (T := TX7) (N := 20) hx hb hts hinX7 hown hK hP 0 rfl rfl 8 (by decide) (hts (.fieldLink RX7 30 "SeriesWatcherModel" "floor" "I") (by decide +kernel)) (fun _ h9 => h9) rfl dX7_boundNow_15 ?_
  refine lv_icmp_ge (tgt := 28) hx hb dX7_boundNow_18 (by decide) (fun c18 => ?_) (fun c18 => ?_)
  · skip
    refine lv_iload_n hx hb dX7_boundNow_28 rfl (lv_at hl 0 rfl) ?_
    exact kri hx hb hr hlocks hP hK hD hS () (by first | exact (if_pos (Int32.not_le.mp c18)).symm | exact (if_neg (Int32.not_lt.mpr c18)).symm) [0] (by decide +kernel) rfl dX7_boundNow_29
  · skip
    refine lv_aload_n hx hb dX7_boundNow_21 rfl (lv_at hl 1 rfl) ?_
    refine va_get (D := D) (ci := 7) (v := .int bl) (C := RX7) (T := TX7) (N := 20) hx hb hts hinX7 hown hK hP 0 rfl rfl 8 (by decide) (hts (.fieldLink RX7 30 "SeriesWatcherModel" "floor" "I") (by decide +kernel)) (fun _ h9 => h9) rfl dX7_boundNow_22 ?_
    refine lv_goto (tgt := 29) hx hb dX7_boundNow_25 (by decide) ?_
    exact kri hx hb hr hlocks hP hK hD hS () (by first | exact (if_pos (Int32.not_le.mp c18)).symm | exact (if_neg (Int32.not_lt.mpr c18)).symm) [0] (by decide +kernel) rfl dX7_boundNow_29

set_option maxHeartbeats 4000000 in
set_option maxRecDepth 100000 in
theorem c_X7_verdictOf (l : Launch) (D : va_G) (cI cZ cJ : ClassId) (sz : Nat) (o7 : Nat) (th : Int32) (n mv mh len ll : Nat) (pen bf bl : Int32) (cn ms : Nat) (mid : Int32) (me mp mc ml mb md mr : Nat) (spr : Int32) (hf re : Nat → Int32) (k : Nat) (hk : k < 60) : Met l yX7_verdictOf wsX7_verdictOf ({ frames := 1, cells := 0, slots := 0, locals := 30 }) (va_Pc [.ref o7, .int (nI k)] (kPre D (tyA cI cZ cJ) sz [(o7, .inr (7, [.int th, .int (nI n), .ref mv, .ref mh, .int (nI len), .int (nI ll), .int pen, .int bf, .int bl, .int (nI cn), .ref ms, .int mid, .ref me, .ref mp, .ref mc, .ref ml, .ref mb, .ref md, .ref mr, .int spr])), (mh, .inl (cZ, 60, .inl hf)), (mr, .inl (cI, 60, .inl re))])) (va_Qi (fun (r : Int32) (_ : Unit) => r = (if hf k = 0 then kSide (re k).toInt64 (if bf * spr / 100 < bl then bl else bf * spr / 100) else 3)) (kPost D (tyA cI cZ cJ) (va_A [(o7, .inr (7, [.int th, .int (nI n), .ref mv, .ref mh, .int (nI len), .int (nI ll), .int pen, .int bf, .int bl, .int (nI cn), .ref ms, .int mid, .ref me, .ref mp, .ref mc, .ref ml, .ref mb, .ref md, .ref mr, .int spr])), (mh, .inl (cZ, 60, .inl hf)), (mr, .inl (cI, 60, .inl re))] sz) (fun (_ : Unit) => [(o7, .inr (7, [.int th, .int (nI n), .ref mv, .ref mh, .int (nI len), .int (nI ll), .int pen, .int bf, .int bl, .int (nI cn), .ref ms, .int mid, .ref me, .ref mp, .ref mc, .ref ml, .ref mb, .ref md, .ref mr, .int spr])), (mh, .inl (cZ, 60, .inl hf)), (mr, .inl (cI, 60, .inl re))])) (va_A [(o7, .inr (7, [.int th, .int (nI n), .ref mv, .ref mh, .int (nI len), .int (nI ll), .int pen, .int bf, .int bl, .int (nI cn), .ref ms, .int mid, .ref me, .ref mp, .ref mc, .ref ml, .ref mb, .ref md, .ref mr, .int spr])), (mh, .inl (cZ, 60, .inl hf)), (mr, .inl (cI, 60, .inl re))] sz)) 0 0 (va_A [(o7, .inr (7, [.int th, .int (nI n), .ref mv, .ref mh, .int (nI len), .int (nI ll), .int pen, .int bf, .int bl, .int (nI cn), .ref ms, .int mid, .ref me, .ref mp, .ref mc, .ref ml, .ref mb, .ref md, .ref mr, .int spr])), (mh, .inl (cZ, 60, .inl hf)), (mr, .inl (cI, 60, .inl re))] sz) := by
  refine kOfW (cc := cX7_verdictOf) (maxL := 3) (ret := (some .int)) (fun A => va_Qi (fun (r : Int32) (_ : Unit) => r = (if hf k = 0 then kSide (re k).toInt64 (if bf * spr / 100 < bl then bl else bf * spr / 100) else 3)) (kPost D (tyA cI cZ cJ) (A) (fun (_ : Unit) => [(o7, .inr (7, [.int th, .int (nI n), .ref mv, .ref mh, .int (nI len), .int (nI ll), .int pen, .int bf, .int bl, .int (nI cn), .ref ms, .int mid, .ref me, .ref mp, .ref mc, .ref ml, .ref mb, .ref md, .ref mr, .int spr])), (mh, .inl (cZ, 60, .inl hf)), (mr, .inl (cI, 60, .inl re))])) (A)) (by decide) rfl (Nat.le_of_ble_eq_true rfl) ?_
  intro p_ e_ s m_ below_ meth_ c_ A ls hx hb hr hml hts hown hlocks hin hA hP hK hD hsz hl
  have hS : va_S A s.heap s.heap [] := va_S.rf
  have hl : lv_has ls 3 [(0, .ref o7), (1, .int (nI k))] := hl
  have hinX7 : ∀ w ∈ wsX70, w ∈ wsX7_verdictOf := fun w h => List.mem_cons_of_mem _ (List.mem_append_right _ h)
  refine lv_aload_n hx hb dX7_verdictOf_0 rfl (lv_at hl 0 rfl) ?_
  refine kci (wr := [(mh, .inl (cZ, 60, .inl hf)), (mr, .inl (cI, 60, .inl re))]) (pre := [(o7, .inr (7, [.int th, .int (nI n), .ref mv, .ref mh, .int (nI len), .int (nI ll), .int pen, .int bf, .int bl, .int (nI cn), .ref ms, .int mid, .ref me, .ref mp, .ref mc, .ref ml, .ref mb, .ref md, .ref mr, .int spr]))]) (va_runV (As := []) (rest := []) ⟨hx, hb, hml, hown, hts⟩ (c_X7_boundNow l D cI cZ cJ s.heap.size o7 th n mv mh len ll pen bf bl cn ms mid me mp mc ml mb md mr spr ) (cwV 0 hts gX7_verdictOf_X7_boundNow rfl rfl rfl (by decide +kernel) ⟨Nat.le_of_ble_eq_true rfl, Nat.le_of_ble_eq_true rfl⟩) (kpreV hK hP hD (ci := 7) (q0 := 0) rfl rfl [0] (by decide +kernel) rfl) rfl rfl hl.1 rfl (lv_room (Nat.le_of_ble_eq_true rfl)) dX7_verdictOf_1 ⟨Nat.zero_le _, Nat.zero_le _⟩) hP hD hS hA [0] [1, 2] rfl rfl (by decide +kernel) (by decide +kernel) (fun r_1 _ H locs hw hP hD hS => ?_)
  have hP : va_P D vwCl [(mh, .inl (cZ, 60, .inl hf)), (mr, .inl (cI, 60, .inl re)), (o7, .inr (7, [.int th, .int (nI n), .ref mv, .ref mh, .int (nI len), .int (nI ll), .int pen, .int bf, .int bl, .int (nI cn), .ref ms, .int mid, .ref me, .ref mp, .ref mc, .ref ml, .ref mb, .ref md, .ref mr, .int spr]))] H := hP
  have hD : va_D A [(mh, .inl (cZ, 60, .inl hf)), (mr, .inl (cI, 60, .inl re)), (o7, .inr (7, [.int th, .int (nI n), .ref mv, .ref mh, .int (nI len), .int (nI ll), .int pen, .int bf, .int bl, .int (nI cn), .ref ms, .int mid, .ref me, .ref mp, .ref mc, .ref ml, .ref mb, .ref md, .ref mr, .int spr]))] := hD
  have hr9 : r_1 = (if bf * spr / 100 < bl then bl else bf * spr / 100) := hw
  refine wt_i hr9 ?_
  refine lv_istore_n (lv' := [(2, .int (if bf * spr / 100 < bl then bl else bf * spr / 100)), (0, .ref o7), (1, .int (nI k))]) hx hb dX7_verdictOf_4 rfl hl (by decide) rfl (fun ls hl => ?_)
  refine lv_aload_n hx hb dX7_verdictOf_5 rfl (lv_at hl 1 rfl) ?_
  refine va_get (D := D) (ci := 7) (v := .ref mh) (C := RX7) (T := TX7) (N := 20) hx hb hts hinX7 hown hK hP 2 rfl rfl 3 (by decide) (hts (.fieldLink RX7 13 "SeriesWatcherModel" "holiday" "[Z") (by decide +kernel)) (fun _ h9 => h9) rfl dX7_verdictOf_6 ?_
  refine lv_iload_n hx hb dX7_verdictOf_9 rfl (lv_at hl 2 rfl) ?_
  refine va_zald (D := D) hx hb hK hP 0 1 rfl rfl (vp_in_nI (by omega) (by decide)) dX7_verdictOf_10 ?_
  refine wt_i (by rw [nI_clamp (n := k) (by omega)]) ?_
  refine lv_if_eq (tgt := 18) hx hb dX7_verdictOf_11 (by decide) (fun c11 => ?_) (fun c11 => ?_)
  · skip
    refine lv_aload_n hx hb dX7_verdictOf_18 rfl (lv_at hl 1 rfl) ?_
    refine va_get (D := D) (ci := 7) (v := .ref mr) (C := RX7) (T := TX7) (N := 20) hx hb hts hinX7 hown hK hP 2 rfl rfl 18 (by decide) (hts (.fieldLink RX7 54 "SeriesWatcherModel" "rest" "[I") (by decide +kernel)) (fun _ h9 => h9) rfl dX7_verdictOf_19 ?_
    refine lv_iload_n hx hb dX7_verdictOf_22 rfl (lv_at hl 2 rfl) ?_
    refine va_iald (D := D) hx hb hK hP 1 0 rfl rfl (vp_in_nI (by omega) (by decide)) dX7_verdictOf_23 ?_
    refine wt_i (by rw [nI_clamp (n := k) (by omega)]) ?_
    refine lv_iload_n hx hb dX7_verdictOf_24 rfl (lv_at hl 0 rfl) ?_
    refine lv_icmp_le (tgt := 32) hx hb dX7_verdictOf_25 (by decide) (fun c25 => ?_) (fun c25 => ?_)
    · skip
      refine lv_aload_n hx hb dX7_verdictOf_32 rfl (lv_at hl 1 rfl) ?_
      refine va_get (D := D) (ci := 7) (v := .ref mr) (C := RX7) (T := TX7) (N := 20) hx hb hts hinX7 hown hK hP 2 rfl rfl 18 (by decide) (hts (.fieldLink RX7 54 "SeriesWatcherModel" "rest" "[I") (by decide +kernel)) (fun _ h9 => h9) rfl dX7_verdictOf_33 ?_
      refine lv_iload_n hx hb dX7_verdictOf_36 rfl (lv_at hl 2 rfl) ?_
      refine va_iald (D := D) hx hb hK hP 1 0 rfl rfl (vp_in_nI (by omega) (by decide)) dX7_verdictOf_37 ?_
      refine wt_i (by rw [nI_clamp (n := k) (by omega)]) ?_
      refine lv_iload_n hx hb dX7_verdictOf_38 rfl (lv_at hl 0 rfl) ?_
      refine lv_ineg hx hb dX7_verdictOf_39 ?_
      refine lv_icmp_ge (tgt := 47) hx hb dX7_verdictOf_40 (by decide) (fun c40 => ?_) (fun c40 => ?_)
      · skip
        refine lv_iconst (v := nI 0) hx hb dX7_verdictOf_47 (by decide) ?_
        exact kri hx hb hr hlocks hP hK hD hS () (by first | (rw [if_neg c11] <;> rfl) | (rw [if_pos c11, kSide_w, if_pos (Int32.not_le.mp c25)] <;> rfl) | (rw [if_pos c11, kSide_w, if_neg (Int32.not_lt.mpr c25), if_pos (Int32.not_le.mp c40)] <;> rfl) | (rw [if_pos c11, kSide_w, if_neg (Int32.not_lt.mpr c25), if_neg (Int32.not_lt.mpr c40)] <;> rfl)) [2, 0, 1] (by decide +kernel) rfl dX7_verdictOf_48
      · skip
        refine lv_iconst (v := nI 2) hx hb dX7_verdictOf_43 (by decide) ?_
        refine lv_goto (tgt := 48) hx hb dX7_verdictOf_44 (by decide) ?_
        exact kri hx hb hr hlocks hP hK hD hS () (by first | (rw [if_neg c11] <;> rfl) | (rw [if_pos c11, kSide_w, if_pos (Int32.not_le.mp c25)] <;> rfl) | (rw [if_pos c11, kSide_w, if_neg (Int32.not_lt.mpr c25), if_pos (Int32.not_le.mp c40)] <;> rfl) | (rw [if_pos c11, kSide_w, if_neg (Int32.not_lt.mpr c25), if_neg (Int32.not_lt.mpr c40)] <;> rfl)) [2, 0, 1] (by decide +kernel) rfl dX7_verdictOf_48
    · skip
      refine lv_iconst (v := nI 1) hx hb dX7_verdictOf_28 (by decide) ?_
      refine lv_goto (tgt := 48) hx hb dX7_verdictOf_29 (by decide) ?_
      exact kri hx hb hr hlocks hP hK hD hS () (by first | (rw [if_neg c11] <;> rfl) | (rw [if_pos c11, kSide_w, if_pos (Int32.not_le.mp c25)] <;> rfl) | (rw [if_pos c11, kSide_w, if_neg (Int32.not_lt.mpr c25), if_pos (Int32.not_le.mp c40)] <;> rfl) | (rw [if_pos c11, kSide_w, if_neg (Int32.not_lt.mpr c25), if_neg (Int32.not_lt.mpr c40)] <;> rfl)) [2, 0, 1] (by decide +kernel) rfl dX7_verdictOf_48
  · skip
    refine lv_iconst (v := nI 3) hx hb dX7_verdictOf_14 (by decide) ?_
    refine lv_goto (tgt := 48) hx hb dX7_verdictOf_15 (by decide) ?_
    exact kri hx hb hr hlocks hP hK hD hS () (by first | (rw [if_neg c11] <;> rfl) | (rw [if_pos c11, kSide_w, if_pos (Int32.not_le.mp c25)] <;> rfl) | (rw [if_pos c11, kSide_w, if_neg (Int32.not_lt.mpr c25), if_pos (Int32.not_le.mp c40)] <;> rfl) | (rw [if_pos c11, kSide_w, if_neg (Int32.not_lt.mpr c25), if_neg (Int32.not_lt.mpr c40)] <;> rfl)) [2, 0, 1] (by decide +kernel) rfl dX7_verdictOf_48

set_option maxHeartbeats 4000000 in
set_option maxRecDepth 100000 in
theorem c_X7_countSegments (l : Launch) (D : va_G) (cI cZ cJ : ClassId) (sz : Nat)  (v hf : Nat → Int32) (n len ll : Nat) (pen bf bl th : Int32)  (o7 : Nat) (w6 : va_W)  (hok : kOk v hf n len ll pen bf bl) (hst : kMd cI cZ v hf n len ll pen bf bl th 0 o7 w6) : Met l yX7_countSegments wsX7_countSegments ({ frames := 8, cells := 0, slots := 0, locals := 330 }) (va_Pc [.ref o7] (kPre D (tyA cI cZ cJ) sz w6)) (va_Qi (fun (r : Int32) (w2 : va_W) => r = nI (kFnd v hf n len ll pen) ∧ kMd cI cZ v hf n len ll pen bf bl th 2 o7 w2) (kPost D (tyA cI cZ cJ) (va_A w6 sz) (fun (w2 : va_W) => w2)) (va_A w6 sz)) 0 0 (va_A w6 sz) := by
  refine kMd_open hst ?_
  intro mv mh cn ms me mp mc ml mb md mr mid spr fs se pl co le be en re e9w hv1 hv2 hv3
  clear hst
  subst e9w
  obtain ⟨hn, hbit, hln1, hln2, hll, hlm, hvb, hpb, hbb, hfb⟩ := id hok
  refine kOfW (cc := cX7_countSegments) (maxL := 3) (ret := (some .int)) (fun A => va_Qi (fun (r : Int32) (w2 : va_W) => r = nI (kFnd v hf n len ll pen) ∧ kMd cI cZ v hf n len ll pen bf bl th 2 o7 w2) (kPost D (tyA cI cZ cJ) (A) (fun (w2 : va_W) => w2)) (A)) (by decide) rfl (Nat.le_of_ble_eq_true rfl) ?_
  intro p_ e_ s m_ below_ meth_ c_ A ls hx hb hr hml hts hown hlocks hin hA hP hK hD hsz hl
  have hS : va_S A s.heap s.heap [] := va_S.rf
  have hl : lv_has ls 3 [(0, .ref o7)] := hl
  have hinX7 : ∀ w ∈ wsX70, w ∈ wsX7_countSegments := fun w h => List.mem_cons_of_mem _ (List.mem_append_right _ h)
  refine lv_aload_n hx hb dX7_countSegments_0 rfl (lv_at hl 0 rfl) ?_
  refine kcv (wr := [(mr, .inl (cI, 60, .inl re))]) (pre := [(o7, .inr (7, [.int th, .int (nI n), .ref mv, .ref mh, .int (nI len), .int (nI ll), .int pen, .int bf, .int bl, .int (nI cn), .ref ms, .int mid, .ref me, .ref mp, .ref mc, .ref ml, .ref mb, .ref md, .ref mr, .int spr])), (mv, .inl (cI, 60, .inl v)), (mh, .inl (cZ, 60, .inl hf)), (ms, .inl (cI, 60, .inl fs)), (me, .inl (cI, 12, .inl se)), (mp, .inl (cI, 60, .inl pl)), (mc, .inl (cI, 3721, .inl co)), (ml, .inl (cI, 3721, .inl le)), (mb, .inl (cI, 61, .inl be)), (md, .inl (cI, 61, .inl en))]) (va_runV (As := []) (rest := []) ⟨hx, hb, hml, hown, hts⟩ (c_X7_layDivision l D cI cZ cJ s.heap.size o7 th n mv mh len ll pen bf bl cn ms mid me mp mc ml mb md mr spr v hf fs se pl co le be en (by first | assumption | omega) (by first | assumption | omega) hln1 hln2 (by first | assumption | omega) (by first | assumption | omega)) (cwV 0 hts gX7_countSegments_X7_layDivision rfl rfl rfl (by decide +kernel) ⟨Nat.le_of_ble_eq_true rfl, Nat.le_of_ble_eq_true rfl⟩) (kpreV hK hP hD (ci := 7) (q0 := 0) rfl rfl [0, 1, 2, 3, 4, 5, 6, 7, 8, 9] (by decide +kernel) rfl) rfl rfl hl.1 rfl (lv_room (Nat.le_of_ble_eq_true rfl)) dX7_countSegments_1 ⟨Nat.zero_le _, Nat.zero_le _⟩) hP hD hS hA [0, 1, 2, 3, 4, 5, 6, 7, 8, 9] [10] rfl rfl (by decide +kernel) (by decide +kernel) (fun u9 H locs hw hP hD hS => ?_)
  obtain ⟨cn2_1, f92_2, se2_3, pl2_4, co9_5, le9_6, be2_7, en2_8⟩ := u9
  have hP : va_P D vwCl [(mr, .inl (cI, 60, .inl re)), (o7, .inr (7, [.int th, .int (nI n), .ref mv, .ref mh, .int (nI len), .int (nI ll), .int pen, .int bf, .int bl, .int (nI cn2_1), .ref ms, .int (kBase v hf n), .ref me, .ref mp, .ref mc, .ref ml, .ref mb, .ref md, .ref mr, .int spr])), (mv, .inl (cI, 60, .inl v)), (mh, .inl (cZ, 60, .inl hf)), (ms, .inl (cI, 60, .inl f92_2)), (me, .inl (cI, 12, .inl se2_3)), (mp, .inl (cI, 60, .inl pl2_4)), (mc, .inl (cI, 3721, .inl co9_5)), (ml, .inl (cI, 3721, .inl le9_6)), (mb, .inl (cI, 61, .inl be2_7)), (md, .inl (cI, 61, .inl en2_8))] H := hP
  have hD : va_D A [(mr, .inl (cI, 60, .inl re)), (o7, .inr (7, [.int th, .int (nI n), .ref mv, .ref mh, .int (nI len), .int (nI ll), .int pen, .int bf, .int bl, .int (nI cn2_1), .ref ms, .int (kBase v hf n), .ref me, .ref mp, .ref mc, .ref ml, .ref mb, .ref md, .ref mr, .int spr])), (mv, .inl (cI, 60, .inl v)), (mh, .inl (cZ, 60, .inl hf)), (ms, .inl (cI, 60, .inl f92_2)), (me, .inl (cI, 12, .inl se2_3)), (mp, .inl (cI, 60, .inl pl2_4)), (mc, .inl (cI, 3721, .inl co9_5)), (ml, .inl (cI, 3721, .inl le9_6)), (mb, .inl (cI, 61, .inl be2_7)), (md, .inl (cI, 61, .inl en2_8))] := hD
  have hdf : (∀ j, j < len → se2_3 j = kSeas v hf n len j) ∧ (∀ k, k < n → pl2_4 k = kAdj v hf n len k) ∧ (∀ a b, a < n → a < b → b ≤ n → le9_6 (61 * a + b) = kLev pl2_4 hf a b ∧ co9_5 (61 * a + b) = kSumM (kseg pl2_4 hf a b)) ∧ kDM co9_5 ll pen n be2_7 en2_8 0 := hw
  have hdv := kDiv_of hok hdf.2.1 hdf.2.2.1 hdf.2.2.2
  have hfo := kFnd_ok (v := v) (hf := hf) (len := len) (ll := ll) (pen := pen) hn
  refine lv_iconst (v := nI 0) hx hb dX7_countSegments_4 (by decide) ?_
  refine lv_istore_n (lv' := [(1, .int (nI 0)), (0, .ref o7)]) hx hb dX7_countSegments_5 rfl hl (by decide) rfl (fun ls hl => ?_)
  refine lv_iconst (v := nI 0) hx hb dX7_countSegments_6 (by decide) ?_
  refine lv_istore_n (lv' := [(2, .int (nI 0)), (1, .int (nI 0)), (0, .ref o7)]) hx hb dX7_countSegments_7 rfl hl (by decide) rfl (fun ls hl => ?_)
  refine wl_loop (fun (d9 : Nat) (H : Heap) (locs : List Loc) (ls : Array Slot) => ∃ (i : Nat), d9 = n - i ∧ (i ≤ (kFnd v hf n len ll pen)) ∧ va_P D vwCl [(mr, .inl (cI, 60, .inl re)), (o7, .inr (7, [.int th, .int (nI n), .ref mv, .ref mh, .int (nI len), .int (nI ll), .int pen, .int bf, .int bl, .int (nI cn2_1), .ref ms, .int (kBase v hf n), .ref me, .ref mp, .ref mc, .ref ml, .ref mb, .ref md, .ref mr, .int spr])), (mv, .inl (cI, 60, .inl v)), (mh, .inl (cZ, 60, .inl hf)), (ms, .inl (cI, 60, .inl f92_2)), (me, .inl (cI, 12, .inl se2_3)), (mp, .inl (cI, 60, .inl pl2_4)), (mc, .inl (cI, 3721, .inl co9_5)), (ml, .inl (cI, 3721, .inl le9_6)), (mb, .inl (cI, 61, .inl be2_7)), (md, .inl (cI, 61, .inl en2_8))] H ∧ va_D A [(mr, .inl (cI, 60, .inl re)), (o7, .inr (7, [.int th, .int (nI n), .ref mv, .ref mh, .int (nI len), .int (nI ll), .int pen, .int bf, .int bl, .int (nI cn2_1), .ref ms, .int (kBase v hf n), .ref me, .ref mp, .ref mc, .ref ml, .ref mb, .ref md, .ref mr, .int spr])), (mv, .inl (cI, 60, .inl v)), (mh, .inl (cZ, 60, .inl hf)), (ms, .inl (cI, 60, .inl f92_2)), (me, .inl (cI, 12, .inl se2_3)), (mp, .inl (cI, 60, .inl pl2_4)), (mc, .inl (cI, 3721, .inl co9_5)), (ml, .inl (cI, 3721, .inl le9_6)), (mb, .inl (cI, 61, .inl be2_7)), (md, .inl (cI, 61, .inl en2_8))] ∧ va_S A s.heap H locs ∧ lv_has ls 3 [(2, .int (nI (kpos (kEn v hf n len ll pen) i))), (1, .int (nI i)), (0, .ref o7)]) ?_ _ ⟨0, rfl, Nat.zero_le _, hP, hD, hS, lv_sub hl [0, 1, 2] rfl⟩
  rintro d_11 H locs ls ⟨i, hd_12, hi, hP, hD, hS, hl⟩ ih_10
  refine lv_iload_n hx hb dX7_countSegments_8 rfl (lv_at hl 0 rfl) ?_
  refine lv_aload_n hx hb dX7_countSegments_9 rfl (lv_at hl 2 rfl) ?_
  have hpp : kpos (kEn v hf n len ll pen) i ≤ n := by rcases Nat.eq_or_lt_of_le hi with q | q; (rw [q, hfo.1]; exact Nat.le_refl n); exact Nat.le_of_lt (hfo.2.2 i q)
  refine va_get (D := D) (ci := 7) (v := .int (nI n)) (C := RX7) (T := TX7) (N := 20) hx hb hts hinX7 hown hK hP 1 rfl rfl 1 (by decide) (hts (.fieldLink RX7 60 "SeriesWatcherModel" "many" "I") (by decide +kernel)) (fun _ h9 => h9) rfl dX7_countSegments_10 ?_
  refine lv_icmp_ge (tgt := 29) hx hb dX7_countSegments_13 (by decide) (fun c13 => ?_) (fun c13 => ?_)
  · skip
    have c13 := kle (a := n) (b := (kpos (kEn v hf n len ll pen) i)) c13 (by omega) (by omega)
    have ei : i = (kFnd v hf n len ll pen) := by rcases Nat.eq_or_lt_of_le hi with q | q; exact q; have := hfo.2.2 i q; omega
    rw [ei] at hl
    refine lv_iload_n hx hb dX7_countSegments_29 rfl (lv_at hl 1 rfl) ?_
    exact kri hx hb hr hlocks hP hK hD hS [(o7, .inr (7, [.int th, .int (nI n), .ref mv, .ref mh, .int (nI len), .int (nI ll), .int pen, .int bf, .int bl, .int (nI cn2_1), .ref ms, .int (kBase v hf n), .ref me, .ref mp, .ref mc, .ref ml, .ref mb, .ref md, .ref mr, .int spr])), (mv, .inl (cI, 60, .inl v)), (mh, .inl (cZ, 60, .inl hf)), (ms, .inl (cI, 60, .inl f92_2)), (me, .inl (cI, 12, .inl se2_3)), (mp, .inl (cI, 60, .inl pl2_4)), (mc, .inl (cI, 3721, .inl co9_5)), (ml, .inl (cI, 3721, .inl le9_6)), (mb, .inl (cI, 61, .inl be2_7)), (md, .inl (cI, 61, .inl en2_8)), (mr, .inl (cI, 60, .inl re))] (⟨rfl, kMd_mk (fun _ => ⟨hdf.1, hdf.2.1⟩) (fun _ => hdv) (fun h => absurd h (by decide))⟩) [1, 2, 3, 4, 5, 6, 7, 8, 9, 10, 0] (by decide +kernel) rfl dX7_countSegments_30
  · skip
    have c13 := knle (a := n) (b := (kpos (kEn v hf n len ll pen) i)) c13 (by omega) (by omega)
    have hi2 : i < (kFnd v hf n len ll pen) := by rcases Nat.eq_or_lt_of_le hi with q | q; (have e9 := hfo.1; rw [← q] at e9; omega); exact q
    have hifn : i < n := by have := hfo.2.1; omega
    refine lv_iinc (v := nI (i + 1)) (lv' := [(1, .int (nI (i + 1))), (2, .int (nI (kpos (kEn v hf n len ll pen) i))), (0, .ref o7)]) hx hb dX7_countSegments_16 hl (k := 1) rfl (by exact nI_add _ 1) (by decide) rfl (fun ls hl => ?_)
    refine lv_aload_n hx hb dX7_countSegments_19 rfl (lv_at hl 2 rfl) ?_
    refine va_get (D := D) (ci := 7) (v := .ref md) (C := RX7) (T := TX7) (N := 20) hx hb hts hinX7 hown hK hP 1 rfl rfl 17 (by decide) (hts (.fieldLink RX7 51 "SeriesWatcherModel" "end" "[I") (by decide +kernel)) (fun _ h9 => h9) rfl dX7_countSegments_20 ?_
    refine lv_iload_n hx hb dX7_countSegments_23 rfl (lv_at hl 1 rfl) ?_
    refine va_iald (D := D) hx hb hK hP 10 0 rfl rfl (vp_in_nI (by omega) (by decide)) dX7_countSegments_24 ?_
    refine wt_i (by rw [nI_clamp (n := (kpos (kEn v hf n len ll pen) i)) (by omega)]) ?_
    refine wt_i (y := nI (kpos (kEn v hf n len ll pen) (i + 1))) (hdv.2.2.1 i hi2) ?_
    refine lv_istore_n (lv' := [(2, .int (nI (kpos (kEn v hf n len ll pen) (i + 1)))), (1, .int (nI (i + 1))), (0, .ref o7)]) hx hb dX7_countSegments_25 rfl hl (by decide) rfl (fun ls hl => ?_)
    refine lv_goto (tgt := 8) hx hb dX7_countSegments_26 (by decide) ?_
    exact ih_10 _ (by omega) _ _ _ ⟨(i + 1), rfl, by omega, hP, hD, hS, lv_sub hl [0, 1, 2] rfl⟩

set_option maxHeartbeats 4000000 in
set_option maxRecDepth 100000 in
theorem c_X7_layAll (l : Launch) (D : va_G) (cI cZ cJ : ClassId) (sz : Nat)  (v hf : Nat → Int32) (n len ll : Nat) (pen bf bl th : Int32)  (o7 : Nat) (w6 : va_W)  (hok : kOk v hf n len ll pen bf bl) (hst : kMd cI cZ v hf n len ll pen bf bl th 0 o7 w6) : Met l yX7_layAll wsX7_layAll ({ frames := 8, cells := 0, slots := 0, locals := 330 }) (va_Pc [.ref o7] (kPre D (tyA cI cZ cJ) sz w6)) (va_Qv (fun (w2 : va_W) => kMd cI cZ v hf n len ll pen bf bl th 3 o7 w2) (kPost D (tyA cI cZ cJ) (va_A w6 sz) (fun (w2 : va_W) => w2)) (va_A w6 sz)) 0 0 (va_A w6 sz) := by
  refine kMd_open hst ?_
  intro mv mh cn ms me mp mc ml mb md mr mid spr fs se pl co le be en re e9w hv1 hv2 hv3
  clear hst
  subst e9w
  obtain ⟨hn, hbit, hln1, hln2, hll, hlm, hvb, hpb, hbb, hfb⟩ := id hok
  refine kOfW (cc := cX7_layAll) (maxL := 3) (ret := none) (fun A => va_Qv (fun (w2 : va_W) => kMd cI cZ v hf n len ll pen bf bl th 3 o7 w2) (kPost D (tyA cI cZ cJ) (A) (fun (w2 : va_W) => w2)) (A)) (by decide) rfl (Nat.le_of_ble_eq_true rfl) ?_
  intro p_ e_ s m_ below_ meth_ c_ A ls hx hb hr hml hts hown hlocks hin hA hP hK hD hsz hl
  have hS : va_S A s.heap s.heap [] := va_S.rf
  have hl : lv_has ls 3 [(0, .ref o7)] := hl
  have hinX7 : ∀ w ∈ wsX70, w ∈ wsX7_layAll := fun w h => List.mem_cons_of_mem _ (List.mem_append_right _ h)
  refine lv_aload_n hx hb dX7_layAll_0 rfl (lv_at hl 0 rfl) ?_
  refine kcv (wr := [(mr, .inl (cI, 60, .inl re))]) (pre := [(o7, .inr (7, [.int th, .int (nI n), .ref mv, .ref mh, .int (nI len), .int (nI ll), .int pen, .int bf, .int bl, .int (nI cn), .ref ms, .int mid, .ref me, .ref mp, .ref mc, .ref ml, .ref mb, .ref md, .ref mr, .int spr])), (mv, .inl (cI, 60, .inl v)), (mh, .inl (cZ, 60, .inl hf)), (ms, .inl (cI, 60, .inl fs)), (me, .inl (cI, 12, .inl se)), (mp, .inl (cI, 60, .inl pl)), (mc, .inl (cI, 3721, .inl co)), (ml, .inl (cI, 3721, .inl le)), (mb, .inl (cI, 61, .inl be)), (md, .inl (cI, 61, .inl en))]) (va_runV (As := []) (rest := []) ⟨hx, hb, hml, hown, hts⟩ (c_X7_layDivision l D cI cZ cJ s.heap.size o7 th n mv mh len ll pen bf bl cn ms mid me mp mc ml mb md mr spr v hf fs se pl co le be en (by first | assumption | omega) (by first | assumption | omega) hln1 hln2 (by first | assumption | omega) (by first | assumption | omega)) (cwV 0 hts gX7_layAll_X7_layDivision rfl rfl rfl (by decide +kernel) ⟨Nat.le_of_ble_eq_true rfl, Nat.le_of_ble_eq_true rfl⟩) (kpreV hK hP hD (ci := 7) (q0 := 0) rfl rfl [0, 1, 2, 3, 4, 5, 6, 7, 8, 9] (by decide +kernel) rfl) rfl rfl hl.1 rfl (lv_room (Nat.le_of_ble_eq_true rfl)) dX7_layAll_1 ⟨Nat.zero_le _, Nat.zero_le _⟩) hP hD hS hA [0, 1, 2, 3, 4, 5, 6, 7, 8, 9] [10] rfl rfl (by decide +kernel) (by decide +kernel) (fun u9 H locs hw hP hD hS => ?_)
  obtain ⟨cn2_1, f92_2, se2_3, pl2_4, co9_5, le9_6, be2_7, en2_8⟩ := u9
  have hP : va_P D vwCl [(mr, .inl (cI, 60, .inl re)), (o7, .inr (7, [.int th, .int (nI n), .ref mv, .ref mh, .int (nI len), .int (nI ll), .int pen, .int bf, .int bl, .int (nI cn2_1), .ref ms, .int (kBase v hf n), .ref me, .ref mp, .ref mc, .ref ml, .ref mb, .ref md, .ref mr, .int spr])), (mv, .inl (cI, 60, .inl v)), (mh, .inl (cZ, 60, .inl hf)), (ms, .inl (cI, 60, .inl f92_2)), (me, .inl (cI, 12, .inl se2_3)), (mp, .inl (cI, 60, .inl pl2_4)), (mc, .inl (cI, 3721, .inl co9_5)), (ml, .inl (cI, 3721, .inl le9_6)), (mb, .inl (cI, 61, .inl be2_7)), (md, .inl (cI, 61, .inl en2_8))] H := hP
  have hD : va_D A [(mr, .inl (cI, 60, .inl re)), (o7, .inr (7, [.int th, .int (nI n), .ref mv, .ref mh, .int (nI len), .int (nI ll), .int pen, .int bf, .int bl, .int (nI cn2_1), .ref ms, .int (kBase v hf n), .ref me, .ref mp, .ref mc, .ref ml, .ref mb, .ref md, .ref mr, .int spr])), (mv, .inl (cI, 60, .inl v)), (mh, .inl (cZ, 60, .inl hf)), (ms, .inl (cI, 60, .inl f92_2)), (me, .inl (cI, 12, .inl se2_3)), (mp, .inl (cI, 60, .inl pl2_4)), (mc, .inl (cI, 3721, .inl co9_5)), (ml, .inl (cI, 3721, .inl le9_6)), (mb, .inl (cI, 61, .inl be2_7)), (md, .inl (cI, 61, .inl en2_8))] := hD
  have hdf : (∀ j, j < len → se2_3 j = kSeas v hf n len j) ∧ (∀ k, k < n → pl2_4 k = kAdj v hf n len k) ∧ (∀ a b, a < n → a < b → b ≤ n → le9_6 (61 * a + b) = kLev pl2_4 hf a b ∧ co9_5 (61 * a + b) = kSumM (kseg pl2_4 hf a b)) ∧ kDM co9_5 ll pen n be2_7 en2_8 0 := hw
  have hdv := kDiv_of hok hdf.2.1 hdf.2.2.1 hdf.2.2.2
  have hfo := kFnd_ok (v := v) (hf := hf) (len := len) (ll := ll) (pen := pen) hn
  refine lv_iconst (v := nI 0) hx hb dX7_layAll_4 (by decide) ?_
  refine lv_istore_n (lv' := [(1, .int (nI 0)), (0, .ref o7)]) hx hb dX7_layAll_5 rfl hl (by decide) rfl (fun ls hl => ?_)
  refine wl_loop (fun (d9 : Nat) (H : Heap) (locs : List Loc) (ls : Array Slot) => ∃ (k : Nat) (r1 : Nat → Int32), d9 = n - k ∧ (k ≤ n) ∧ (∀ j, j < k → r1 j = kResid v hf n len ll pen j) ∧ va_P D vwCl [(mr, .inl (cI, 60, .inl r1)), (o7, .inr (7, [.int th, .int (nI n), .ref mv, .ref mh, .int (nI len), .int (nI ll), .int pen, .int bf, .int bl, .int (nI cn2_1), .ref ms, .int (kBase v hf n), .ref me, .ref mp, .ref mc, .ref ml, .ref mb, .ref md, .ref mr, .int spr])), (mv, .inl (cI, 60, .inl v)), (mh, .inl (cZ, 60, .inl hf)), (ms, .inl (cI, 60, .inl f92_2)), (me, .inl (cI, 12, .inl se2_3)), (mp, .inl (cI, 60, .inl pl2_4)), (mc, .inl (cI, 3721, .inl co9_5)), (ml, .inl (cI, 3721, .inl le9_6)), (mb, .inl (cI, 61, .inl be2_7)), (md, .inl (cI, 61, .inl en2_8))] H ∧ va_D A [(mr, .inl (cI, 60, .inl r1)), (o7, .inr (7, [.int th, .int (nI n), .ref mv, .ref mh, .int (nI len), .int (nI ll), .int pen, .int bf, .int bl, .int (nI cn2_1), .ref ms, .int (kBase v hf n), .ref me, .ref mp, .ref mc, .ref ml, .ref mb, .ref md, .ref mr, .int spr])), (mv, .inl (cI, 60, .inl v)), (mh, .inl (cZ, 60, .inl hf)), (ms, .inl (cI, 60, .inl f92_2)), (me, .inl (cI, 12, .inl se2_3)), (mp, .inl (cI, 60, .inl pl2_4)), (mc, .inl (cI, 3721, .inl co9_5)), (ml, .inl (cI, 3721, .inl le9_6)), (mb, .inl (cI, 61, .inl be2_7)), (md, .inl (cI, 61, .inl en2_8))] ∧ va_S A s.heap H locs ∧ lv_has ls 3 [(1, .int (nI k)), (0, .ref o7)]) ?_ _ ⟨0, _, rfl, Nat.zero_le _, fun j hj => absurd hj (Nat.not_lt_zero j), hP, hD, hS, lv_sub hl [0, 1] rfl⟩
  rintro d_11 H locs ls ⟨k, r1, hd_12, hk, h1, hP, hD, hS, hl⟩ ih_10
  refine lv_iload_n hx hb dX7_layAll_6 rfl (lv_at hl 0 rfl) ?_
  refine lv_aload_n hx hb dX7_layAll_7 rfl (lv_at hl 1 rfl) ?_
  refine va_get (D := D) (ci := 7) (v := .int (nI n)) (C := RX7) (T := TX7) (N := 20) hx hb hts hinX7 hown hK hP 1 rfl rfl 1 (by decide) (hts (.fieldLink RX7 60 "SeriesWatcherModel" "many" "I") (by decide +kernel)) (fun _ h9 => h9) rfl dX7_layAll_8 ?_
  refine lv_icmp_ge (tgt := 55) hx hb dX7_layAll_11 (by decide) (fun c11 => ?_) (fun c11 => ?_)
  · skip
    have c11 := kle (a := n) (b := k) c11 (by omega) (by omega)
    have ek : k = n := by omega
    rw [ek] at h1
    refine lv_aload_n hx hb dX7_layAll_55 rfl (lv_at hl 1 rfl) ?_
    refine lv_iconst (v := nI 0) hx hb dX7_layAll_56 (by decide) ?_
    refine va_put (D := D) (ci := 7) (v := .int (nI 0)) (ty := .int) (C := RX7) (T := TX7) (N := 20) hx hb hts hinX7 tyX7 tyX7_ok nmX7 hown hK hP hD hS 1 rfl rfl 9 (by decide) (hts (.fieldLink RX7 67 "SeriesWatcherModel" "counted" "I") (by decide +kernel)) (fun _ h9 => h9) rfl (by decide +kernel) rfl rfl (Nat.le_of_ble_eq_true rfl) dX7_layAll_57 (fun H locs hP hD hS => ?_)
    have hP : va_P D vwCl [(mr, .inl (cI, 60, .inl r1)), (o7, .inr (7, [.int th, .int (nI n), .ref mv, .ref mh, .int (nI len), .int (nI ll), .int pen, .int bf, .int bl, .int (nI 0), .ref ms, .int (kBase v hf n), .ref me, .ref mp, .ref mc, .ref ml, .ref mb, .ref md, .ref mr, .int spr])), (mv, .inl (cI, 60, .inl v)), (mh, .inl (cZ, 60, .inl hf)), (ms, .inl (cI, 60, .inl f92_2)), (me, .inl (cI, 12, .inl se2_3)), (mp, .inl (cI, 60, .inl pl2_4)), (mc, .inl (cI, 3721, .inl co9_5)), (ml, .inl (cI, 3721, .inl le9_6)), (mb, .inl (cI, 61, .inl be2_7)), (md, .inl (cI, 61, .inl en2_8))] H := hP
    have hD : va_D A [(mr, .inl (cI, 60, .inl r1)), (o7, .inr (7, [.int th, .int (nI n), .ref mv, .ref mh, .int (nI len), .int (nI ll), .int pen, .int bf, .int bl, .int (nI 0), .ref ms, .int (kBase v hf n), .ref me, .ref mp, .ref mc, .ref ml, .ref mb, .ref md, .ref mr, .int spr])), (mv, .inl (cI, 60, .inl v)), (mh, .inl (cZ, 60, .inl hf)), (ms, .inl (cI, 60, .inl f92_2)), (me, .inl (cI, 12, .inl se2_3)), (mp, .inl (cI, 60, .inl pl2_4)), (mc, .inl (cI, 3721, .inl co9_5)), (ml, .inl (cI, 3721, .inl le9_6)), (mb, .inl (cI, 61, .inl be2_7)), (md, .inl (cI, 61, .inl en2_8))] := hD
    refine lv_iconst (v := nI 0) hx hb dX7_layAll_60 (by decide) ?_
    refine lv_istore_n (lv' := [(1, .int (nI 0)), (0, .ref o7)]) hx hb dX7_layAll_61 rfl hl (by decide) rfl (fun ls hl => ?_)
    refine wl_loop (fun (d9 : Nat) (H : Heap) (locs : List Loc) (ls : Array Slot) => ∃ (k : Nat) (c1 : Nat) (f : Nat → Int32), d9 = n - k ∧ (k ≤ n) ∧ (kRowR (kseg (fun k => kab (kResid v hf n len ll pen k)) hf 0 k) c1 f) ∧ va_P D vwCl [(mr, .inl (cI, 60, .inl r1)), (o7, .inr (7, [.int th, .int (nI n), .ref mv, .ref mh, .int (nI len), .int (nI ll), .int pen, .int bf, .int bl, .int (nI c1), .ref ms, .int (kBase v hf n), .ref me, .ref mp, .ref mc, .ref ml, .ref mb, .ref md, .ref mr, .int spr])), (mv, .inl (cI, 60, .inl v)), (mh, .inl (cZ, 60, .inl hf)), (ms, .inl (cI, 60, .inl f)), (me, .inl (cI, 12, .inl se2_3)), (mp, .inl (cI, 60, .inl pl2_4)), (mc, .inl (cI, 3721, .inl co9_5)), (ml, .inl (cI, 3721, .inl le9_6)), (mb, .inl (cI, 61, .inl be2_7)), (md, .inl (cI, 61, .inl en2_8))] H ∧ va_D A [(mr, .inl (cI, 60, .inl r1)), (o7, .inr (7, [.int th, .int (nI n), .ref mv, .ref mh, .int (nI len), .int (nI ll), .int pen, .int bf, .int bl, .int (nI c1), .ref ms, .int (kBase v hf n), .ref me, .ref mp, .ref mc, .ref ml, .ref mb, .ref md, .ref mr, .int spr])), (mv, .inl (cI, 60, .inl v)), (mh, .inl (cZ, 60, .inl hf)), (ms, .inl (cI, 60, .inl f)), (me, .inl (cI, 12, .inl se2_3)), (mp, .inl (cI, 60, .inl pl2_4)), (mc, .inl (cI, 3721, .inl co9_5)), (ml, .inl (cI, 3721, .inl le9_6)), (mb, .inl (cI, 61, .inl be2_7)), (md, .inl (cI, 61, .inl en2_8))] ∧ va_S A s.heap H locs ∧ lv_has ls 3 [(1, .int (nI k)), (0, .ref o7)]) ?_ _ ⟨0, 0, _, rfl, Nat.zero_le _, kRowR_0 _, hP, hD, hS, lv_sub hl [0, 1] rfl⟩
    rintro d_14 H locs ls ⟨k, c1, f, hd_15, hk, hR, hP, hD, hS, hl⟩ ih_13
    refine lv_iload_n hx hb dX7_layAll_62 rfl (lv_at hl 0 rfl) ?_
    refine lv_aload_n hx hb dX7_layAll_63 rfl (lv_at hl 1 rfl) ?_
    refine va_get (D := D) (ci := 7) (v := .int (nI n)) (C := RX7) (T := TX7) (N := 20) hx hb hts hinX7 hown hK hP 1 rfl rfl 1 (by decide) (hts (.fieldLink RX7 60 "SeriesWatcherModel" "many" "I") (by decide +kernel)) (fun _ h9 => h9) rfl dX7_layAll_64 ?_
    refine lv_icmp_ge (tgt := 98) hx hb dX7_layAll_67 (by decide) (fun c67 => ?_) (fun c67 => ?_)
    · skip
      have c67 := kle (a := n) (b := k) c67 (by omega) (by omega)
      have ek : k = n := by omega
      rw [ek] at hR
      refine lv_aload_n hx hb dX7_layAll_98 rfl (lv_at hl 1 rfl) ?_
      refine lv_aload_n hx hb dX7_layAll_99 rfl (lv_at hl 1 rfl) ?_
      refine kci (wr := [(mr, .inl (cI, 60, .inl r1)), (mv, .inl (cI, 60, .inl v)), (mh, .inl (cZ, 60, .inl hf)), (me, .inl (cI, 12, .inl se2_3)), (mp, .inl (cI, 60, .inl pl2_4)), (mc, .inl (cI, 3721, .inl co9_5)), (ml, .inl (cI, 3721, .inl le9_6)), (mb, .inl (cI, 61, .inl be2_7)), (md, .inl (cI, 61, .inl en2_8))]) (pre := [(o7, .inr (7, [.int th, .int (nI n), .ref mv, .ref mh, .int (nI len), .int (nI ll), .int pen, .int bf, .int bl, .int (nI c1), .ref ms, .int (kBase v hf n), .ref me, .ref mp, .ref mc, .ref ml, .ref mb, .ref md, .ref mr, .int spr])), (ms, .inl (cI, 60, .inl f))]) (va_runV (As := []) (rest := [.ref o7]) ⟨hx, hb, hml, hown, hts⟩ (c_X7_median l D cI cZ cJ H.size o7 th n mv mh len ll pen bf bl c1 ms (kBase v hf n) me mp mc ml mb md mr spr f (by rw [hR.1]; exact Nat.le_trans (kseg_len _ hf 0 _) (by omega))) (cwV 0 hts gX7_layAll_X7_median rfl rfl rfl (by decide +kernel) ⟨Nat.le_of_ble_eq_true rfl, Nat.le_of_ble_eq_true rfl⟩) (kpreV hK hP hD (ci := 7) (q0 := 1) rfl rfl [1, 4] (by decide +kernel) rfl) rfl rfl hl.1 rfl (lv_room (Nat.le_of_ble_eq_true rfl)) dX7_layAll_100 ⟨Nat.zero_le _, Nat.zero_le _⟩) hP hD hS hA [1, 4] [0, 2, 3, 5, 6, 7, 8, 9, 10] rfl rfl (by decide +kernel) (by decide +kernel) (fun r_16 _ H locs hw hP hD hS => ?_)
      have hP : va_P D vwCl [(mr, .inl (cI, 60, .inl r1)), (mv, .inl (cI, 60, .inl v)), (mh, .inl (cZ, 60, .inl hf)), (me, .inl (cI, 12, .inl se2_3)), (mp, .inl (cI, 60, .inl pl2_4)), (mc, .inl (cI, 3721, .inl co9_5)), (ml, .inl (cI, 3721, .inl le9_6)), (mb, .inl (cI, 61, .inl be2_7)), (md, .inl (cI, 61, .inl en2_8)), (o7, .inr (7, [.int th, .int (nI n), .ref mv, .ref mh, .int (nI len), .int (nI ll), .int pen, .int bf, .int bl, .int (nI c1), .ref ms, .int (kBase v hf n), .ref me, .ref mp, .ref mc, .ref ml, .ref mb, .ref md, .ref mr, .int spr])), (ms, .inl (cI, 60, .inl f))] H := hP
      have hD : va_D A [(mr, .inl (cI, 60, .inl r1)), (mv, .inl (cI, 60, .inl v)), (mh, .inl (cZ, 60, .inl hf)), (me, .inl (cI, 12, .inl se2_3)), (mp, .inl (cI, 60, .inl pl2_4)), (mc, .inl (cI, 3721, .inl co9_5)), (ml, .inl (cI, 3721, .inl le9_6)), (mb, .inl (cI, 61, .inl be2_7)), (md, .inl (cI, 61, .inl en2_8)), (o7, .inr (7, [.int th, .int (nI n), .ref mv, .ref mh, .int (nI len), .int (nI ll), .int pen, .int bf, .int bl, .int (nI c1), .ref ms, .int (kBase v hf n), .ref me, .ref mp, .ref mc, .ref ml, .ref mb, .ref md, .ref mr, .int spr])), (ms, .inl (cI, 60, .inl f))] := hD
      have hr9 : r_16 = kmed f c1 := hw
      refine wt_i hr9 ?_
      refine wt_i (y := kDev v hf n len ll pen) (kRowR_med hR) ?_
      refine va_put (D := D) (ci := 7) (v := .int (kDev v hf n len ll pen)) (ty := .int) (C := RX7) (T := TX7) (N := 20) hx hb hts hinX7 tyX7 tyX7_ok nmX7 hown hK hP hD hS 9 rfl rfl 19 (by decide) (hts (.fieldLink RX7 101 "SeriesWatcherModel" "spread" "I") (by decide +kernel)) (fun _ h9 => h9) rfl (by decide +kernel) rfl rfl (Nat.le_of_ble_eq_true rfl) dX7_layAll_103 (fun H locs hP hD hS => ?_)
      have hP : va_P D vwCl [(mr, .inl (cI, 60, .inl r1)), (mv, .inl (cI, 60, .inl v)), (mh, .inl (cZ, 60, .inl hf)), (me, .inl (cI, 12, .inl se2_3)), (mp, .inl (cI, 60, .inl pl2_4)), (mc, .inl (cI, 3721, .inl co9_5)), (ml, .inl (cI, 3721, .inl le9_6)), (mb, .inl (cI, 61, .inl be2_7)), (md, .inl (cI, 61, .inl en2_8)), (o7, .inr (7, [.int th, .int (nI n), .ref mv, .ref mh, .int (nI len), .int (nI ll), .int pen, .int bf, .int bl, .int (nI c1), .ref ms, .int (kBase v hf n), .ref me, .ref mp, .ref mc, .ref ml, .ref mb, .ref md, .ref mr, .int (kDev v hf n len ll pen)])), (ms, .inl (cI, 60, .inl f))] H := hP
      have hD : va_D A [(mr, .inl (cI, 60, .inl r1)), (mv, .inl (cI, 60, .inl v)), (mh, .inl (cZ, 60, .inl hf)), (me, .inl (cI, 12, .inl se2_3)), (mp, .inl (cI, 60, .inl pl2_4)), (mc, .inl (cI, 3721, .inl co9_5)), (ml, .inl (cI, 3721, .inl le9_6)), (mb, .inl (cI, 61, .inl be2_7)), (md, .inl (cI, 61, .inl en2_8)), (o7, .inr (7, [.int th, .int (nI n), .ref mv, .ref mh, .int (nI len), .int (nI ll), .int pen, .int bf, .int bl, .int (nI c1), .ref ms, .int (kBase v hf n), .ref me, .ref mp, .ref mc, .ref ml, .ref mb, .ref md, .ref mr, .int (kDev v hf n len ll pen)])), (ms, .inl (cI, 60, .inl f))] := hD
      exact krv hx hb hr hlocks hP hK hD hS [(o7, .inr (7, [.int th, .int (nI n), .ref mv, .ref mh, .int (nI len), .int (nI ll), .int pen, .int bf, .int bl, .int (nI c1), .ref ms, .int (kBase v hf n), .ref me, .ref mp, .ref mc, .ref ml, .ref mb, .ref md, .ref mr, .int (kDev v hf n len ll pen)])), (mv, .inl (cI, 60, .inl v)), (mh, .inl (cZ, 60, .inl hf)), (ms, .inl (cI, 60, .inl f)), (me, .inl (cI, 12, .inl se2_3)), (mp, .inl (cI, 60, .inl pl2_4)), (mc, .inl (cI, 3721, .inl co9_5)), (ml, .inl (cI, 3721, .inl le9_6)), (mb, .inl (cI, 61, .inl be2_7)), (md, .inl (cI, 61, .inl en2_8)), (mr, .inl (cI, 60, .inl r1))] (kMd_mk (fun _ => ⟨hdf.1, hdf.2.1⟩) (fun _ => hdv) (fun _ => ⟨h1, rfl⟩)) [9, 1, 2, 10, 3, 4, 5, 6, 7, 8, 0] (by decide +kernel) rfl dX7_layAll_106
    · skip
      have c67 := knle (a := n) (b := k) c67 (by omega) (by omega)
      refine lv_aload_n hx hb dX7_layAll_70 rfl (lv_at hl 1 rfl) ?_
      refine va_get (D := D) (ci := 7) (v := .ref mh) (C := RX7) (T := TX7) (N := 20) hx hb hts hinX7 hown hK hP 1 rfl rfl 3 (by decide) (hts (.fieldLink RX7 13 "SeriesWatcherModel" "holiday" "[Z") (by decide +kernel)) (fun _ h9 => h9) rfl dX7_layAll_71 ?_
      refine lv_iload_n hx hb dX7_layAll_74 rfl (lv_at hl 0 rfl) ?_
      refine va_zald (D := D) hx hb hK hP 3 1 rfl rfl (vp_in_nI (by omega) (by decide)) dX7_layAll_75 ?_
      refine wt_i (by rw [nI_clamp (n := k) (by omega)]) ?_
      refine lv_if_ne (tgt := 92) hx hb dX7_layAll_76 (by decide) (fun c76 => ?_) (fun c76 => ?_)
      · skip
        have hnew : kRowR (kseg (fun k => kab (kResid v hf n len ll pen k)) hf 0 (k + 1)) c1 f := by rw [kseg_no (Nat.zero_le _) c76]; exact hR
        refine lv_iinc (v := nI (k + 1)) (lv' := [(1, .int (nI (k + 1))), (0, .ref o7)]) hx hb dX7_layAll_92 hl (k := 0) rfl (by exact nI_add _ 1) (by decide) rfl (fun ls hl => ?_)
        refine lv_goto (tgt := 62) hx hb dX7_layAll_95 (by decide) ?_
        exact ih_13 _ (by omega) _ _ _ ⟨(k + 1), _, _, rfl, by omega, hnew, hP, hD, hS, lv_sub hl [0, 1] rfl⟩
      · skip
        have hm : c1 ≤ k := by rw [hR.1]; exact kseg_len _ hf 0 k
        refine lv_aload_n hx hb dX7_layAll_79 rfl (lv_at hl 1 rfl) ?_
        refine lv_aload_n hx hb dX7_layAll_80 rfl (lv_at hl 1 rfl) ?_
        refine va_get (D := D) (ci := 7) (v := .ref mr) (C := RX7) (T := TX7) (N := 20) hx hb hts hinX7 hown hK hP 1 rfl rfl 18 (by decide) (hts (.fieldLink RX7 54 "SeriesWatcherModel" "rest" "[I") (by decide +kernel)) (fun _ h9 => h9) rfl dX7_layAll_81 ?_
        refine lv_iload_n hx hb dX7_layAll_84 rfl (lv_at hl 0 rfl) ?_
        refine va_iald (D := D) hx hb hK hP 0 0 rfl rfl (vp_in_nI (by omega) (by decide)) dX7_layAll_85 ?_
        refine wt_i (by rw [nI_clamp (n := k) (by omega)]) ?_
        refine wt_i (y := kResid v hf n len ll pen k) (h1 k (by omega)) ?_
        refine kci (wr := [(mr, .inl (cI, 60, .inl r1)), (o7, .inr (7, [.int th, .int (nI n), .ref mv, .ref mh, .int (nI len), .int (nI ll), .int pen, .int bf, .int bl, .int (nI c1), .ref ms, .int (kBase v hf n), .ref me, .ref mp, .ref mc, .ref ml, .ref mb, .ref md, .ref mr, .int spr])), (mv, .inl (cI, 60, .inl v)), (mh, .inl (cZ, 60, .inl hf)), (ms, .inl (cI, 60, .inl f)), (me, .inl (cI, 12, .inl se2_3)), (mp, .inl (cI, 60, .inl pl2_4)), (mc, .inl (cI, 3721, .inl co9_5)), (ml, .inl (cI, 3721, .inl le9_6)), (mb, .inl (cI, 61, .inl be2_7)), (md, .inl (cI, 61, .inl en2_8))]) (pre := []) (va_runS (As := [.int (kResid v hf n len ll pen k)]) (rest := [.ref o7]) ⟨hx, hb, hml, hown, hts⟩ (c_X7_sizeOf l D cI cZ cJ H.size (kResid v hf n len ll pen k) ) (va_cwS 1 hts gX7_layAll_X7_sizeOf rfl rfl rfl (by decide +kernel) ⟨Nat.le_of_ble_eq_true rfl, Nat.le_of_ble_eq_true rfl⟩) (kpreS hK hP hD [] (by decide +kernel) rfl) rfl rfl hl.1 rfl (lv_room (Nat.le_of_ble_eq_true rfl)) dX7_layAll_86 ⟨Nat.zero_le _, Nat.zero_le _⟩) hP hD hS hA [] [0, 1, 2, 3, 4, 5, 6, 7, 8, 9, 10] rfl rfl (by decide +kernel) (by decide +kernel) (fun r_18 _ H locs hw hP hD hS => ?_)
        have hP : va_P D vwCl [(mr, .inl (cI, 60, .inl r1)), (o7, .inr (7, [.int th, .int (nI n), .ref mv, .ref mh, .int (nI len), .int (nI ll), .int pen, .int bf, .int bl, .int (nI c1), .ref ms, .int (kBase v hf n), .ref me, .ref mp, .ref mc, .ref ml, .ref mb, .ref md, .ref mr, .int spr])), (mv, .inl (cI, 60, .inl v)), (mh, .inl (cZ, 60, .inl hf)), (ms, .inl (cI, 60, .inl f)), (me, .inl (cI, 12, .inl se2_3)), (mp, .inl (cI, 60, .inl pl2_4)), (mc, .inl (cI, 3721, .inl co9_5)), (ml, .inl (cI, 3721, .inl le9_6)), (mb, .inl (cI, 61, .inl be2_7)), (md, .inl (cI, 61, .inl en2_8))] H := hP
        have hD : va_D A [(mr, .inl (cI, 60, .inl r1)), (o7, .inr (7, [.int th, .int (nI n), .ref mv, .ref mh, .int (nI len), .int (nI ll), .int pen, .int bf, .int bl, .int (nI c1), .ref ms, .int (kBase v hf n), .ref me, .ref mp, .ref mc, .ref ml, .ref mb, .ref md, .ref mr, .int spr])), (mv, .inl (cI, 60, .inl v)), (mh, .inl (cZ, 60, .inl hf)), (ms, .inl (cI, 60, .inl f)), (me, .inl (cI, 12, .inl se2_3)), (mp, .inl (cI, 60, .inl pl2_4)), (mc, .inl (cI, 3721, .inl co9_5)), (ml, .inl (cI, 3721, .inl le9_6)), (mb, .inl (cI, 61, .inl be2_7)), (md, .inl (cI, 61, .inl en2_8))] := hD
        have hr9 : r_18 = ksz (kResid v hf n len ll pen k) := hw
        refine wt_i hr9 ?_
        refine wt_i (y := kab (kResid v hf n len ll pen k)) (ksz_kab _) ?_
        refine kcv (wr := [(mr, .inl (cI, 60, .inl r1)), (mv, .inl (cI, 60, .inl v)), (mh, .inl (cZ, 60, .inl hf)), (me, .inl (cI, 12, .inl se2_3)), (mp, .inl (cI, 60, .inl pl2_4)), (mc, .inl (cI, 3721, .inl co9_5)), (ml, .inl (cI, 3721, .inl le9_6)), (mb, .inl (cI, 61, .inl be2_7)), (md, .inl (cI, 61, .inl en2_8))]) (pre := [(o7, .inr (7, [.int th, .int (nI n), .ref mv, .ref mh, .int (nI len), .int (nI ll), .int pen, .int bf, .int bl, .int (nI c1), .ref ms, .int (kBase v hf n), .ref me, .ref mp, .ref mc, .ref ml, .ref mb, .ref md, .ref mr, .int spr])), (ms, .inl (cI, 60, .inl f))]) (va_runV (As := [.int (kab (kResid v hf n len ll pen k))]) (rest := []) ⟨hx, hb, hml, hown, hts⟩ (c_X7_count l D cI cZ cJ H.size o7 th n mv mh len ll pen bf bl c1 ms (kBase v hf n) me mp mc ml mb md mr spr f (kab (kResid v hf n len ll pen k)) (by omega)) (cwV 1 hts gX7_layAll_X7_count rfl rfl rfl (by decide +kernel) ⟨Nat.le_of_ble_eq_true rfl, Nat.le_of_ble_eq_true rfl⟩) (kpreV hK hP hD (ci := 7) (q0 := 1) rfl rfl [1, 4] (by decide +kernel) rfl) rfl rfl hl.1 rfl (lv_room (Nat.le_of_ble_eq_true rfl)) dX7_layAll_89 ⟨Nat.zero_le _, Nat.zero_le _⟩) hP hD hS hA [1, 4] [0, 2, 3, 5, 6, 7, 8, 9, 10] rfl rfl (by decide +kernel) (by decide +kernel) (fun f2_20 H locs hw hP hD hS => ?_)
        have hP : va_P D vwCl [(mr, .inl (cI, 60, .inl r1)), (mv, .inl (cI, 60, .inl v)), (mh, .inl (cZ, 60, .inl hf)), (me, .inl (cI, 12, .inl se2_3)), (mp, .inl (cI, 60, .inl pl2_4)), (mc, .inl (cI, 3721, .inl co9_5)), (ml, .inl (cI, 3721, .inl le9_6)), (mb, .inl (cI, 61, .inl be2_7)), (md, .inl (cI, 61, .inl en2_8)), (o7, .inr (7, [.int th, .int (nI n), .ref mv, .ref mh, .int (nI len), .int (nI ll), .int pen, .int bf, .int bl, .int (nI (c1 + 1)), .ref ms, .int (kBase v hf n), .ref me, .ref mp, .ref mc, .ref ml, .ref mb, .ref md, .ref mr, .int spr])), (ms, .inl (cI, 60, .inl f2_20))] H := hP
        have hD : va_D A [(mr, .inl (cI, 60, .inl r1)), (mv, .inl (cI, 60, .inl v)), (mh, .inl (cZ, 60, .inl hf)), (me, .inl (cI, 12, .inl se2_3)), (mp, .inl (cI, 60, .inl pl2_4)), (mc, .inl (cI, 3721, .inl co9_5)), (ml, .inl (cI, 3721, .inl le9_6)), (mb, .inl (cI, 61, .inl be2_7)), (md, .inl (cI, 61, .inl en2_8)), (o7, .inr (7, [.int th, .int (nI n), .ref mv, .ref mh, .int (nI len), .int (nI ll), .int pen, .int bf, .int bl, .int (nI (c1 + 1)), .ref ms, .int (kBase v hf n), .ref me, .ref mp, .ref mc, .ref ml, .ref mb, .ref md, .ref mr, .int spr])), (ms, .inl (cI, 60, .inl f2_20))] := hD
        have hw_22 : kins f c1 (kab (kResid v hf n len ll pen k)) f2_20 := hw
        have hnew := kRowR_ins hR hw_22
        rw [← kseg_yes (g := fun k => kab (kResid v hf n len ll pen k)) (Nat.zero_le _) c76] at hnew
        refine lv_iinc (v := nI (k + 1)) (lv' := [(1, .int (nI (k + 1))), (0, .ref o7)]) hx hb dX7_layAll_92 hl (k := 0) rfl (by exact nI_add _ 1) (by decide) rfl (fun ls hl => ?_)
        refine lv_goto (tgt := 62) hx hb dX7_layAll_95 (by decide) ?_
        exact ih_13 _ (by omega) _ _ _ ⟨(k + 1), _, _, rfl, by omega, hnew, kPsub hP [0, 9, 1, 2, 10, 3, 4, 5, 6, 7, 8] rfl, hD.sub [0, 9, 1, 2, 10, 3, 4, 5, 6, 7, 8] (by decide) rfl, hS, lv_sub hl [0, 1] rfl⟩
  · skip
    have c11 := knle (a := n) (b := k) c11 (by omega) (by omega)
    refine lv_aload_n hx hb dX7_layAll_14 rfl (lv_at hl 1 rfl) ?_
    refine lv_iload_n hx hb dX7_layAll_15 rfl (lv_at hl 0 rfl) ?_
    have hst := hdv.2.2.2 k (by omega)
    refine kci (wr := [(mr, .inl (cI, 60, .inl r1)), (mv, .inl (cI, 60, .inl v)), (mh, .inl (cZ, 60, .inl hf)), (ms, .inl (cI, 60, .inl f92_2)), (me, .inl (cI, 12, .inl se2_3)), (mp, .inl (cI, 60, .inl pl2_4)), (mc, .inl (cI, 3721, .inl co9_5)), (ml, .inl (cI, 3721, .inl le9_6)), (mb, .inl (cI, 61, .inl be2_7))]) (pre := [(o7, .inr (7, [.int th, .int (nI n), .ref mv, .ref mh, .int (nI len), .int (nI ll), .int pen, .int bf, .int bl, .int (nI cn2_1), .ref ms, .int (kBase v hf n), .ref me, .ref mp, .ref mc, .ref ml, .ref mb, .ref md, .ref mr, .int spr])), (md, .inl (cI, 61, .inl en2_8))]) (va_runV (As := [.int (nI k)]) (rest := []) ⟨hx, hb, hml, hown, hts⟩ (c_X7_startFor l D cI cZ cJ H.size o7 th n mv mh len ll pen bf bl cn2_1 ms (kBase v hf n) me mp mc ml mb md mr spr en2_8 (kEn v hf n len ll pen) (kFnd v hf n len ll pen) k (by first | assumption | omega) hdv.2.2.1 hfo.2.2 hfo.1 hfo.2.1 (by omega)) (cwV 1 hts gX7_layAll_X7_startFor rfl rfl rfl (by decide +kernel) ⟨Nat.le_of_ble_eq_true rfl, Nat.le_of_ble_eq_true rfl⟩) (kpreV hK hP hD (ci := 7) (q0 := 1) rfl rfl [1, 10] (by decide +kernel) rfl) rfl rfl hl.1 rfl (lv_room (Nat.le_of_ble_eq_true rfl)) dX7_layAll_16 ⟨Nat.zero_le _, Nat.zero_le _⟩) hP hD hS hA [1, 10] [0, 2, 3, 4, 5, 6, 7, 8, 9] rfl rfl (by decide +kernel) (by decide +kernel) (fun r_23 _ H locs hw hP hD hS => ?_)
    have hP : va_P D vwCl [(mr, .inl (cI, 60, .inl r1)), (mv, .inl (cI, 60, .inl v)), (mh, .inl (cZ, 60, .inl hf)), (ms, .inl (cI, 60, .inl f92_2)), (me, .inl (cI, 12, .inl se2_3)), (mp, .inl (cI, 60, .inl pl2_4)), (mc, .inl (cI, 3721, .inl co9_5)), (ml, .inl (cI, 3721, .inl le9_6)), (mb, .inl (cI, 61, .inl be2_7)), (o7, .inr (7, [.int th, .int (nI n), .ref mv, .ref mh, .int (nI len), .int (nI ll), .int pen, .int bf, .int bl, .int (nI cn2_1), .ref ms, .int (kBase v hf n), .ref me, .ref mp, .ref mc, .ref ml, .ref mb, .ref md, .ref mr, .int spr])), (md, .inl (cI, 61, .inl en2_8))] H := hP
    have hD : va_D A [(mr, .inl (cI, 60, .inl r1)), (mv, .inl (cI, 60, .inl v)), (mh, .inl (cZ, 60, .inl hf)), (ms, .inl (cI, 60, .inl f92_2)), (me, .inl (cI, 12, .inl se2_3)), (mp, .inl (cI, 60, .inl pl2_4)), (mc, .inl (cI, 3721, .inl co9_5)), (ml, .inl (cI, 3721, .inl le9_6)), (mb, .inl (cI, 61, .inl be2_7)), (o7, .inr (7, [.int th, .int (nI n), .ref mv, .ref mh, .int (nI len), .int (nI ll), .int pen, .int bf, .int bl, .int (nI cn2_1), .ref ms, .int (kBase v hf n), .ref me, .ref mp, .ref mc, .ref ml, .ref mb, .ref md, .ref mr, .int spr])), (md, .inl (cI, 61, .inl en2_8))] := hD
    have hr9 : r_23 = nI (kst (kEn v hf n len ll pen) k n 0) := hw
    refine wt_i hr9 ?_
    refine wt_i (y := nI (kStart v hf n len ll pen k)) (rfl) ?_
    refine lv_istore_n (lv' := [(2, .int (nI (kStart v hf n len ll pen k))), (1, .int (nI k)), (0, .ref o7)]) hx hb dX7_layAll_19 rfl hl (by decide) rfl (fun ls hl => ?_)
    refine lv_aload_n hx hb dX7_layAll_20 rfl (lv_at hl 2 rfl) ?_
    refine va_get (D := D) (ci := 7) (v := .ref mr) (C := RX7) (T := TX7) (N := 20) hx hb hts hinX7 hown hK hP 9 rfl rfl 18 (by decide) (hts (.fieldLink RX7 54 "SeriesWatcherModel" "rest" "[I") (by decide +kernel)) (fun _ h9 => h9) rfl dX7_layAll_21 ?_
    refine lv_iload_n hx hb dX7_layAll_24 rfl (lv_at hl 1 rfl) ?_
    refine lv_aload_n hx hb dX7_layAll_25 rfl (lv_at hl 2 rfl) ?_
    refine va_get (D := D) (ci := 7) (v := .ref mp) (C := RX7) (T := TX7) (N := 20) hx hb hts hinX7 hown hK hP 9 rfl rfl 13 (by decide) (hts (.fieldLink RX7 39 "SeriesWatcherModel" "plain" "[I") (by decide +kernel)) (fun _ h9 => h9) rfl dX7_layAll_26 ?_
    refine lv_iload_n hx hb dX7_layAll_29 rfl (lv_at hl 1 rfl) ?_
    refine va_iald (D := D) hx hb hK hP 5 0 rfl rfl (vp_in_nI (by omega) (by decide)) dX7_layAll_30 ?_
    refine wt_i (by rw [nI_clamp (n := k) (by omega)]) ?_
    refine lv_aload_n hx hb dX7_layAll_31 rfl (lv_at hl 2 rfl) ?_
    refine va_get (D := D) (ci := 7) (v := .ref ml) (C := RX7) (T := TX7) (N := 20) hx hb hts hinX7 hown hK hP 9 rfl rfl 15 (by decide) (hts (.fieldLink RX7 45 "SeriesWatcherModel" "levels" "[I") (by decide +kernel)) (fun _ h9 => h9) rfl dX7_layAll_32 ?_
    refine lv_bipush (v := nI 61) hx hb dX7_layAll_35 (by decide) ?_
    refine lv_iload_n hx hb dX7_layAll_37 rfl (lv_at hl 0 rfl) ?_
    refine lv_imul hx hb dX7_layAll_38 ?_
    refine wt_i (pk_mul _ _) ?_
    refine lv_aload_n hx hb dX7_layAll_39 rfl (lv_at hl 2 rfl) ?_
    refine va_get (D := D) (ci := 7) (v := .ref md) (C := RX7) (T := TX7) (N := 20) hx hb hts hinX7 hown hK hP 9 rfl rfl 17 (by decide) (hts (.fieldLink RX7 51 "SeriesWatcherModel" "end" "[I") (by decide +kernel)) (fun _ h9 => h9) rfl dX7_layAll_40 ?_
    refine lv_iload_n hx hb dX7_layAll_43 rfl (lv_at hl 0 rfl) ?_
    refine va_iald (D := D) hx hb hK hP 10 0 rfl rfl (vp_in_nI (by omega) (by decide)) dX7_layAll_44 ?_
    refine wt_i (by rw [nI_clamp (n := (kStart v hf n len ll pen k)) (by omega)]) ?_
    refine wt_i (y := nI (kEn v hf n len ll pen (kStart v hf n len ll pen k))) (hst.1) ?_
    refine lv_iadd hx hb dX7_layAll_45 ?_
    refine wt_i (nI_add _ _) ?_
    refine va_iald (D := D) hx hb hK hP 7 0 rfl rfl (vp_in_nI (by omega) (by decide)) dX7_layAll_46 ?_
    refine wt_i (by rw [nI_clamp (n := ((61 * (kStart v hf n len ll pen k)) + (kEn v hf n len ll pen (kStart v hf n len ll pen k)))) (by omega)]) ?_
    refine wt_i (y := kLvK v hf n len ll pen k) ((hdv.1 _ _ hst.2.1 hst.2.2.1 hst.2.2.2).1) ?_
    refine lv_isub hx hb dX7_layAll_47 ?_
    refine va_iast (D := D) hx hb hK hP hD hS 0 0 rfl rfl (vp_in_nI (by omega) (by decide)) dX7_layAll_48 (fun H locs hP hD hS => ?_)
    rw [nI_clamp (n := k) (by omega)] at hP hD
    have hP : va_P D vwCl [(mr, .inl (cI, 60, .inl (upd r1 k ((pl2_4 k) - (kLvK v hf n len ll pen k))))), (mv, .inl (cI, 60, .inl v)), (mh, .inl (cZ, 60, .inl hf)), (ms, .inl (cI, 60, .inl f92_2)), (me, .inl (cI, 12, .inl se2_3)), (mp, .inl (cI, 60, .inl pl2_4)), (mc, .inl (cI, 3721, .inl co9_5)), (ml, .inl (cI, 3721, .inl le9_6)), (mb, .inl (cI, 61, .inl be2_7)), (o7, .inr (7, [.int th, .int (nI n), .ref mv, .ref mh, .int (nI len), .int (nI ll), .int pen, .int bf, .int bl, .int (nI cn2_1), .ref ms, .int (kBase v hf n), .ref me, .ref mp, .ref mc, .ref ml, .ref mb, .ref md, .ref mr, .int spr])), (md, .inl (cI, 61, .inl en2_8))] H := hP
    have hD : va_D A [(mr, .inl (cI, 60, .inl (upd r1 k ((pl2_4 k) - (kLvK v hf n len ll pen k))))), (mv, .inl (cI, 60, .inl v)), (mh, .inl (cZ, 60, .inl hf)), (ms, .inl (cI, 60, .inl f92_2)), (me, .inl (cI, 12, .inl se2_3)), (mp, .inl (cI, 60, .inl pl2_4)), (mc, .inl (cI, 3721, .inl co9_5)), (ml, .inl (cI, 3721, .inl le9_6)), (mb, .inl (cI, 61, .inl be2_7)), (o7, .inr (7, [.int th, .int (nI n), .ref mv, .ref mh, .int (nI len), .int (nI ll), .int pen, .int bf, .int bl, .int (nI cn2_1), .ref ms, .int (kBase v hf n), .ref me, .ref mp, .ref mc, .ref ml, .ref mb, .ref md, .ref mr, .int spr])), (md, .inl (cI, 61, .inl en2_8))] := hD
    refine lv_iinc (v := nI (k + 1)) (lv' := [(1, .int (nI (k + 1))), (2, .int (nI (kStart v hf n len ll pen k))), (0, .ref o7)]) hx hb dX7_layAll_49 hl (k := 1) rfl (by exact nI_add _ 1) (by decide) rfl (fun ls hl => ?_)
    refine lv_goto (tgt := 6) hx hb dX7_layAll_52 (by decide) ?_
    exact ih_10 _ (by omega) _ _ _ ⟨(k + 1), _, rfl, by omega, fun j hj => by
        by_cases e9 : j = k
        · rw [e9, pk_us, hdf.2.1 k (by omega)] <;> rfl
        · rw [pk_un e9]; exact h1 j (by omega), kPsub hP [0, 9, 1, 2, 3, 4, 5, 6, 7, 8, 10] rfl, hD.sub [0, 9, 1, 2, 3, 4, 5, 6, 7, 8, 10] (by decide) rfl, hS, lv_sub hl [0, 2] rfl⟩

set_option maxHeartbeats 4000000 in
set_option maxRecDepth 100000 in
theorem c_X7_expectedNow (l : Launch) (D : va_G) (cI cZ cJ : ClassId) (sz : Nat)  (v hf : Nat → Int32) (n len ll : Nat) (pen bf bl th : Int32)  (o7 : Nat) (w6 : va_W)  (hok : kOk v hf n len ll pen bf bl) (hst : kMd cI cZ v hf n len ll pen bf bl th 3 o7 w6) : Met l yX7_expectedNow wsX7_expectedNow ({ frames := 8, cells := 0, slots := 0, locals := 330 }) (va_Pc [.ref o7] (kPre D (tyA cI cZ cJ) sz w6)) (va_Qi (fun (r : Int32) (w2 : va_W) => r = kExp v hf n len ll pen ∧ kMd cI cZ v hf n len ll pen bf bl th 3 o7 w2) (kPost D (tyA cI cZ cJ) (va_A w6 sz) (fun (w2 : va_W) => w2)) (va_A w6 sz)) 0 0 (va_A w6 sz) := by
  refine kMd_open hst ?_
  intro mv mh cn ms me mp mc ml mb md mr mid spr fs se pl co le be en re e9w hv1 hv2 hv3
  clear hst
  subst e9w
  obtain ⟨hn, hbit, hln1, hln2, hll, hlm, hvb, hpb, hbb, hfb⟩ := id hok
  refine kOfW (cc := cX7_expectedNow) (maxL := 2) (ret := (some .int)) (fun A => va_Qi (fun (r : Int32) (w2 : va_W) => r = kExp v hf n len ll pen ∧ kMd cI cZ v hf n len ll pen bf bl th 3 o7 w2) (kPost D (tyA cI cZ cJ) (A) (fun (w2 : va_W) => w2)) (A)) (by decide) rfl (Nat.le_of_ble_eq_true rfl) ?_
  intro p_ e_ s m_ below_ meth_ c_ A ls hx hb hr hml hts hown hlocks hin hA hP hK hD hsz hl
  have hS : va_S A s.heap s.heap [] := va_S.rf
  have hl : lv_has ls 2 [(0, .ref o7)] := hl
  have hinX7 : ∀ w ∈ wsX70, w ∈ wsX7_expectedNow := fun w h => List.mem_cons_of_mem _ (List.mem_append_right _ h)
  have h1 := hv1 (by decide)
  have hdv := hv2 (by decide)
  have hfo := kFnd_ok (v := v) (hf := hf) (len := len) (ll := ll) (pen := pen) hn
  have hmod : n % len < len := Nat.mod_lt _ (by omega)
  refine lv_aload_n hx hb dX7_expectedNow_0 rfl (lv_at hl 0 rfl) ?_
  refine va_get (D := D) (ci := 7) (v := .int (nI n)) (C := RX7) (T := TX7) (N := 20) hx hb hts hinX7 hown hK hP 0 rfl rfl 1 (by decide) (hts (.fieldLink RX7 60 "SeriesWatcherModel" "many" "I") (by decide +kernel)) (fun _ h9 => h9) rfl dX7_expectedNow_1 ?_
  refine wl_join (pc2 := 21) (fun (stk : List Value) (H : Heap) (locs : List Loc) (ls : Array Slot) => ∃ (x9 : Int32), stk = [.int x9] ∧ ((n = 0 ∧ x9 = nI 0) ∨ (0 < n ∧ x9 = nI (kStart v hf n len ll pen (n - 1)))) ∧ va_P D vwCl [(o7, .inr (7, [.int th, .int (nI n), .ref mv, .ref mh, .int (nI len), .int (nI ll), .int pen, .int bf, .int bl, .int (nI cn), .ref ms, .int mid, .ref me, .ref mp, .ref mc, .ref ml, .ref mb, .ref md, .ref mr, .int spr])), (mv, .inl (cI, 60, .inl v)), (mh, .inl (cZ, 60, .inl hf)), (ms, .inl (cI, 60, .inl fs)), (me, .inl (cI, 12, .inl se)), (mp, .inl (cI, 60, .inl pl)), (mc, .inl (cI, 3721, .inl co)), (ml, .inl (cI, 3721, .inl le)), (mb, .inl (cI, 61, .inl be)), (md, .inl (cI, 61, .inl en)), (mr, .inl (cI, 60, .inl re))] H ∧ va_D A [(o7, .inr (7, [.int th, .int (nI n), .ref mv, .ref mh, .int (nI len), .int (nI ll), .int pen, .int bf, .int bl, .int (nI cn), .ref ms, .int mid, .ref me, .ref mp, .ref mc, .ref ml, .ref mb, .ref md, .ref mr, .int spr])), (mv, .inl (cI, 60, .inl v)), (mh, .inl (cZ, 60, .inl hf)), (ms, .inl (cI, 60, .inl fs)), (me, .inl (cI, 12, .inl se)), (mp, .inl (cI, 60, .inl pl)), (mc, .inl (cI, 3721, .inl co)), (ml, .inl (cI, 3721, .inl le)), (mb, .inl (cI, 61, .inl be)), (md, .inl (cI, 61, .inl en)), (mr, .inl (cI, 60, .inl re))] ∧ va_S A s.heap H locs ∧ lv_has ls 2 [(0, .ref o7)]) ?_ (fun j_1 => ?_)
  · skip
    rintro stk H locs ls ⟨x9, rfl, hx9, hP, hD, hS, hl⟩
    refine lv_istore_n (lv' := [(1, .int x9), (0, .ref o7)]) hx hb dX7_expectedNow_21 rfl hl (by decide) rfl (fun ls hl => ?_)
    refine lv_aload_n hx hb dX7_expectedNow_22 rfl (lv_at hl 1 rfl) ?_
    refine va_get (D := D) (ci := 7) (v := .int (nI n)) (C := RX7) (T := TX7) (N := 20) hx hb hts hinX7 hown hK hP 0 rfl rfl 1 (by decide) (hts (.fieldLink RX7 60 "SeriesWatcherModel" "many" "I") (by decide +kernel)) (fun _ h9 => h9) rfl dX7_expectedNow_23 ?_
    refine wl_join (pc2 := 47) (fun (stk : List Value) (H : Heap) (locs : List Loc) (ls : Array Slot) => ∃ (y9 : Int32), stk = [.int y9] ∧ (y9 = kLast v hf n len ll pen) ∧ va_P D vwCl [(o7, .inr (7, [.int th, .int (nI n), .ref mv, .ref mh, .int (nI len), .int (nI ll), .int pen, .int bf, .int bl, .int (nI cn), .ref ms, .int mid, .ref me, .ref mp, .ref mc, .ref ml, .ref mb, .ref md, .ref mr, .int spr])), (mv, .inl (cI, 60, .inl v)), (mh, .inl (cZ, 60, .inl hf)), (ms, .inl (cI, 60, .inl fs)), (me, .inl (cI, 12, .inl se)), (mp, .inl (cI, 60, .inl pl)), (mc, .inl (cI, 3721, .inl co)), (ml, .inl (cI, 3721, .inl le)), (mb, .inl (cI, 61, .inl be)), (md, .inl (cI, 61, .inl en)), (mr, .inl (cI, 60, .inl re))] H ∧ va_D A [(o7, .inr (7, [.int th, .int (nI n), .ref mv, .ref mh, .int (nI len), .int (nI ll), .int pen, .int bf, .int bl, .int (nI cn), .ref ms, .int mid, .ref me, .ref mp, .ref mc, .ref ml, .ref mb, .ref md, .ref mr, .int spr])), (mv, .inl (cI, 60, .inl v)), (mh, .inl (cZ, 60, .inl hf)), (ms, .inl (cI, 60, .inl fs)), (me, .inl (cI, 12, .inl se)), (mp, .inl (cI, 60, .inl pl)), (mc, .inl (cI, 3721, .inl co)), (ml, .inl (cI, 3721, .inl le)), (mb, .inl (cI, 61, .inl be)), (md, .inl (cI, 61, .inl en)), (mr, .inl (cI, 60, .inl re))] ∧ va_S A s.heap H locs ∧ lv_has ls 2 [(1, .int x9), (0, .ref o7)]) ?_ (fun j_2 => ?_)
    · skip
      rintro stk H locs ls ⟨y9, rfl, hy9, hP, hD, hS, hl⟩
      refine lv_aload_n hx hb dX7_expectedNow_47 rfl (lv_at hl 1 rfl) ?_
      refine va_get (D := D) (ci := 7) (v := .ref me) (C := RX7) (T := TX7) (N := 20) hx hb hts hinX7 hown hK hP 0 rfl rfl 12 (by decide) (hts (.fieldLink RX7 36 "SeriesWatcherModel" "seasons" "[I") (by decide +kernel)) (fun _ h9 => h9) rfl dX7_expectedNow_48 ?_
      refine lv_aload_n hx hb dX7_expectedNow_51 rfl (lv_at hl 1 rfl) ?_
      refine va_get (D := D) (ci := 7) (v := .int (nI n)) (C := RX7) (T := TX7) (N := 20) hx hb hts hinX7 hown hK hP 0 rfl rfl 1 (by decide) (hts (.fieldLink RX7 60 "SeriesWatcherModel" "many" "I") (by decide +kernel)) (fun _ h9 => h9) rfl dX7_expectedNow_52 ?_
      refine lv_aload_n hx hb dX7_expectedNow_55 rfl (lv_at hl 1 rfl) ?_
      refine va_get (D := D) (ci := 7) (v := .int (nI len)) (C := RX7) (T := TX7) (N := 20) hx hb hts hinX7 hown hK hP 0 rfl rfl 4 (by decide) (hts (.fieldLink RX7 17 "SeriesWatcherModel" "length" "I") (by decide +kernel)) (fun _ h9 => h9) rfl dX7_expectedNow_56 ?_
      refine lv_irem hx hb dX7_expectedNow_59 (nI_ne0 (by omega) (by omega)) ?_
      refine wt_i (pk_rem (by omega) (by omega) (by omega)) ?_
      refine va_iald (D := D) hx hb hK hP 4 0 rfl rfl (vp_in_nI (by omega) (by decide)) dX7_expectedNow_60 ?_
      refine wt_i (by rw [nI_clamp (n := (n % len)) (by omega)]) ?_
      refine wt_i (y := kSeas v hf n len (n % len)) (h1.1 _ hmod) ?_
      refine lv_iadd hx hb dX7_expectedNow_61 ?_
      refine wt_i (y := kExp v hf n len ll pen) (by rw [hy9] <;> rfl) ?_
      exact kri hx hb hr hlocks hP hK hD hS [(o7, .inr (7, [.int th, .int (nI n), .ref mv, .ref mh, .int (nI len), .int (nI ll), .int pen, .int bf, .int bl, .int (nI cn), .ref ms, .int mid, .ref me, .ref mp, .ref mc, .ref ml, .ref mb, .ref md, .ref mr, .int spr])), (mv, .inl (cI, 60, .inl v)), (mh, .inl (cZ, 60, .inl hf)), (ms, .inl (cI, 60, .inl fs)), (me, .inl (cI, 12, .inl se)), (mp, .inl (cI, 60, .inl pl)), (mc, .inl (cI, 3721, .inl co)), (ml, .inl (cI, 3721, .inl le)), (mb, .inl (cI, 61, .inl be)), (md, .inl (cI, 61, .inl en)), (mr, .inl (cI, 60, .inl re))] (⟨rfl, kMd_mk (hv1) (hv2) (hv3)⟩) [0, 1, 2, 3, 4, 5, 6, 7, 8, 9, 10] (by decide +kernel) rfl dX7_expectedNow_62
    refine lv_if_ne (tgt := 33) hx hb dX7_expectedNow_26 (by decide) (fun c26 => ?_) (fun c26 => ?_)
    · skip
      have c26 := kneq (a := n) (b := 0) c26 (by omega) (by omega)
      have hst := hdv.2.2.2 (n - 1) (by omega)
      have hx8 : x9 = nI (kStart v hf n len ll pen (n - 1)) := hx9.elim (fun q => absurd q.1 c26) (fun q => q.2)
      have hen9 : kEn v hf n len ll pen (kStart v hf n len ll pen (n - 1)) = n := by have h8 := hst.2.2.2; have h7 := hdv.2.2.2 (n - 1) (by omega); exact kEnLast hn (by omega)
      refine lv_aload_n hx hb dX7_expectedNow_33 rfl (lv_at hl 1 rfl) ?_
      refine va_get (D := D) (ci := 7) (v := .ref ml) (C := RX7) (T := TX7) (N := 20) hx hb hts hinX7 hown hK hP 0 rfl rfl 15 (by decide) (hts (.fieldLink RX7 45 "SeriesWatcherModel" "levels" "[I") (by decide +kernel)) (fun _ h9 => h9) rfl dX7_expectedNow_34 ?_
      refine lv_bipush (v := nI 61) hx hb dX7_expectedNow_37 (by decide) ?_
      refine lv_iload_n hx hb dX7_expectedNow_39 rfl (lv_at hl 0 rfl) ?_
      refine wt_i (y := nI (kStart v hf n len ll pen (n - 1))) (hx8) ?_
      refine lv_imul hx hb dX7_expectedNow_40 ?_
      refine wt_i (pk_mul _ _) ?_
      refine lv_aload_n hx hb dX7_expectedNow_41 rfl (lv_at hl 1 rfl) ?_
      refine va_get (D := D) (ci := 7) (v := .int (nI n)) (C := RX7) (T := TX7) (N := 20) hx hb hts hinX7 hown hK hP 0 rfl rfl 1 (by decide) (hts (.fieldLink RX7 60 "SeriesWatcherModel" "many" "I") (by decide +kernel)) (fun _ h9 => h9) rfl dX7_expectedNow_42 ?_
      refine lv_iadd hx hb dX7_expectedNow_45 ?_
      refine wt_i (nI_add _ _) ?_
      refine va_iald (D := D) hx hb hK hP 7 0 rfl rfl (vp_in_nI (by omega) (by decide)) dX7_expectedNow_46 ?_
      refine wt_i (by rw [nI_clamp (n := ((61 * (kStart v hf n len ll pen (n - 1))) + n)) (by omega)]) ?_
      refine wt_i (y := kLvK v hf n len ll pen (n - 1)) (by rw [(hdv.1 _ n hst.2.1 hst.2.1 (Nat.le_refl n)).1]; unfold kLvK; rw [hen9]) ?_
      exact j_2 _ _ _ _ ⟨_, rfl, by unfold kLast; rw [if_neg c26], hP, hD, hS, lv_sub hl [0, 1] rfl⟩
    · skip
      have c26 := keq (a := n) (b := 0) c26 (by omega) (by omega)
      refine lv_iconst (v := nI 0) hx hb dX7_expectedNow_29 (by decide) ?_
      refine lv_goto (tgt := 47) hx hb dX7_expectedNow_30 (by decide) ?_
      exact j_2 _ _ _ _ ⟨_, rfl, by unfold kLast; rw [if_pos c26] <;> rfl, hP, hD, hS, lv_sub hl [0, 1] rfl⟩
  refine lv_if_ne (tgt := 11) hx hb dX7_expectedNow_4 (by decide) (fun c4 => ?_) (fun c4 => ?_)
  · skip
    have c4 := kneq (a := n) (b := 0) c4 (by omega) (by omega)
    refine lv_aload_n hx hb dX7_expectedNow_11 rfl (lv_at hl 0 rfl) ?_
    refine lv_aload_n hx hb dX7_expectedNow_12 rfl (lv_at hl 0 rfl) ?_
    refine va_get (D := D) (ci := 7) (v := .int (nI n)) (C := RX7) (T := TX7) (N := 20) hx hb hts hinX7 hown hK hP 0 rfl rfl 1 (by decide) (hts (.fieldLink RX7 60 "SeriesWatcherModel" "many" "I") (by decide +kernel)) (fun _ h9 => h9) rfl dX7_expectedNow_13 ?_
    refine lv_iconst (v := nI 1) hx hb dX7_expectedNow_16 (by decide) ?_
    refine lv_isub hx hb dX7_expectedNow_17 ?_
    refine wt_i (pk_sub (by omega)) ?_
    refine kci (wr := [(mv, .inl (cI, 60, .inl v)), (mh, .inl (cZ, 60, .inl hf)), (ms, .inl (cI, 60, .inl fs)), (me, .inl (cI, 12, .inl se)), (mp, .inl (cI, 60, .inl pl)), (mc, .inl (cI, 3721, .inl co)), (ml, .inl (cI, 3721, .inl le)), (mb, .inl (cI, 61, .inl be)), (mr, .inl (cI, 60, .inl re))]) (pre := [(o7, .inr (7, [.int th, .int (nI n), .ref mv, .ref mh, .int (nI len), .int (nI ll), .int pen, .int bf, .int bl, .int (nI cn), .ref ms, .int mid, .ref me, .ref mp, .ref mc, .ref ml, .ref mb, .ref md, .ref mr, .int spr])), (md, .inl (cI, 61, .inl en))]) (va_runV (As := [.int (nI (n - 1))]) (rest := []) ⟨hx, hb, hml, hown, hts⟩ (c_X7_startFor l D cI cZ cJ s.heap.size o7 th n mv mh len ll pen bf bl cn ms mid me mp mc ml mb md mr spr en (kEn v hf n len ll pen) (kFnd v hf n len ll pen) (n - 1) (by first | assumption | omega) hdv.2.2.1 hfo.2.2 hfo.1 hfo.2.1 (by omega)) (cwV 1 hts gX7_expectedNow_X7_startFor rfl rfl rfl (by decide +kernel) ⟨Nat.le_of_ble_eq_true rfl, Nat.le_of_ble_eq_true rfl⟩) (kpreV hK hP hD (ci := 7) (q0 := 0) rfl rfl [0, 9] (by decide +kernel) rfl) rfl rfl hl.1 rfl (lv_room (Nat.le_of_ble_eq_true rfl)) dX7_expectedNow_18 ⟨Nat.zero_le _, Nat.zero_le _⟩) hP hD hS hA [0, 9] [1, 2, 3, 4, 5, 6, 7, 8, 10] rfl rfl (by decide +kernel) (by decide +kernel) (fun r_3 _ H locs hw hP hD hS => ?_)
    have hP : va_P D vwCl [(mv, .inl (cI, 60, .inl v)), (mh, .inl (cZ, 60, .inl hf)), (ms, .inl (cI, 60, .inl fs)), (me, .inl (cI, 12, .inl se)), (mp, .inl (cI, 60, .inl pl)), (mc, .inl (cI, 3721, .inl co)), (ml, .inl (cI, 3721, .inl le)), (mb, .inl (cI, 61, .inl be)), (mr, .inl (cI, 60, .inl re)), (o7, .inr (7, [.int th, .int (nI n), .ref mv, .ref mh, .int (nI len), .int (nI ll), .int pen, .int bf, .int bl, .int (nI cn), .ref ms, .int mid, .ref me, .ref mp, .ref mc, .ref ml, .ref mb, .ref md, .ref mr, .int spr])), (md, .inl (cI, 61, .inl en))] H := hP
    have hD : va_D A [(mv, .inl (cI, 60, .inl v)), (mh, .inl (cZ, 60, .inl hf)), (ms, .inl (cI, 60, .inl fs)), (me, .inl (cI, 12, .inl se)), (mp, .inl (cI, 60, .inl pl)), (mc, .inl (cI, 3721, .inl co)), (ml, .inl (cI, 3721, .inl le)), (mb, .inl (cI, 61, .inl be)), (mr, .inl (cI, 60, .inl re)), (o7, .inr (7, [.int th, .int (nI n), .ref mv, .ref mh, .int (nI len), .int (nI ll), .int pen, .int bf, .int bl, .int (nI cn), .ref ms, .int mid, .ref me, .ref mp, .ref mc, .ref ml, .ref mb, .ref md, .ref mr, .int spr])), (md, .inl (cI, 61, .inl en))] := hD
    have hr9 : r_3 = nI (kst (kEn v hf n len ll pen) (n - 1) n 0) := hw
    refine wt_i hr9 ?_
    refine wt_i (y := nI (kStart v hf n len ll pen (n - 1))) (rfl) ?_
    exact j_1 _ _ _ _ ⟨_, rfl, Or.inr ⟨by omega, rfl⟩, kPsub hP [9, 0, 1, 2, 3, 4, 5, 6, 7, 10, 8] rfl, hD.sub [9, 0, 1, 2, 3, 4, 5, 6, 7, 10, 8] (by decide) rfl, hS, lv_sub hl [0] rfl⟩
  · skip
    have c4 := keq (a := n) (b := 0) c4 (by omega) (by omega)
    refine lv_iconst (v := nI 0) hx hb dX7_expectedNow_7 (by decide) ?_
    refine lv_goto (tgt := 21) hx hb dX7_expectedNow_8 (by decide) ?_
    exact j_1 _ _ _ _ ⟨_, rfl, Or.inl ⟨c4, rfl⟩, hP, hD, hS, lv_sub hl [0] rfl⟩
